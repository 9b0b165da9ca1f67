abbrev MS_X12_bells_1 : List (Nat × Nat) := [(22, 8)]
abbrev AS_X12_bells_1 : List Nat := []
set_option maxHeartbeats 4000000 in
set_option maxRecDepth 100000 in
theorem c_X12_bells_1 (l : Launch) (G : Gt) (σ : Sg) (a1 : Int32) (a3 : Int32) (hI : Inv σ) : Mc l G yX12_bells cX12_bells 14 (some .int) 2 60 0 0 [.ref (G.1 22 0), .int a1, .int 1, .int a3] σ (PI fun r τ => Inv τ ∧ Fr MS_X12_bells_1 AS_X12_bells_1 σ τ ∧ IV r (-2147483648) 2147483647) := by
  refine Mc.of (L0 := [some (.ref (G.1 22 0)), some (.int a1), some (.int 1), some (.int a3), none, none, none, none, none, none, none, none, none, none]) (by decide) (Nat.le_of_ble_eq_true rfl) rfl ?_
  intro p e s m args below meth c C hr hlk
  have C : Cx p s m args c cX12_bells 14 "LeanTowerModel" := C
  have k0 : (0 : Int32).toInt = 0 := by decide
  have k1 : (1 : Int32).toInt = 1 := by decide
  have J138 : ∀ (n : Nat) (τ : Sg) (y5 : Int32) (y6 : Int32) (y7 : Int32), Inv τ → Fr MS_X12_bells_1 AS_X12_bells_1 σ τ → IV a1 0 7 → IV a3 (-1) 2147483647 → IV y5 (-1) 0 → IV y6 (-2147483648) 2147483647 → IV y7 0 1 → (1 - y7.toInt).toNat < n → MW p l e { frames := 2, cells := 0, slots := 0, locals := 60 } s m args below meth c (MQ below (QP G (PI fun r τ => Inv τ ∧ Fr MS_X12_bells_1 AS_X12_bells_1 σ τ ∧ IV r (-2147483648) 2147483647)) args s 0 0 (aG G)) 14 G 0 0 138 [some (.ref (G.1 22 0)), some (.int a1), some (.int 1), some (.int a3), some (.int 1), some (.int y5), some (.int y6), some (.int y7), none, none, none, none, none, none] [] τ := by
    intro n
    induction n with
    | zero => intro τ y5 y6 y7 iτ fτ b_a1 b_a3 b_y5 b_y6 b_y7 hm; exact absurd hm (Nat.not_lt_zero _)
    | succ n ih138 =>
      intro τ y5 y6 y7 iτ fτ b_a1 b_a3 b_y5 b_y6 b_y7 hm138
      refine m_iload C dX12_bells_138 rfl ?_
      refine m_iload C dX12_bells_140 rfl ?_
      refine m_icmp_ge (tgt := 285) C dX12_bells_142 (by decide) (fun c1 => ?_) (fun c1 => ?_)
      · have f2 : 1 ≤ y7.toInt := by
          have q : _ := c1
          simp only [ti_nle, ti_nlt, ti_le, ti_lt, ti_eq, ti_ne, Classical.not_not, kt_1] at q
          omega
        have b3 : IV y7 1 1 := ⟨by have q1 := kc_1; have q2 := b_y7; omega, by have q1 := kc_1; have q2 := b_y7; omega⟩
        refine m_iload_n C dX12_bells_285 rfl rfl ?_
        refine m_if_ge (tgt := 292) C dX12_bells_286 (by decide) (fun c4 => ?_) (fun c4 => ?_)
        · have f5 : 0 ≤ a3.toInt := by
            have q : _ := c4
            simp only [ti_nle, ti_nlt, ti_le, ti_lt, ti_eq, ti_ne, Classical.not_not, kt_0] at q
            omega
          have b6 : IV a3 0 2147483647 := ⟨by have q1 := kc_0; have q2 := b_a3; omega, by have q1 := kc_0; have q2 := b_a3; omega⟩
          refine m_iload C dX12_bells_292 rfl ?_
          refine m_istore (L1 := [some (.ref (G.1 22 0)), some (.int a1), some (.int 1), some (.int a3), some (.int 1), some (.int y5), some (.int y6), some (.int 1), none, none, none, none, none, none]) C dX12_bells_294 (by decide) rfl rfl ?_
          refine m_iconst (v := 0) C dX12_bells_296 (by decide) ?_
          refine m_istore (L1 := [some (.ref (G.1 22 0)), some (.int a1), some (.int 1), some (.int a3), some (.int 1), some (.int y5), some (.int y6), some (.int 1), some (.int 0), none, none, none, none, none]) C dX12_bells_297 (by decide) rfl rfl ?_
          refine m_iload C dX12_bells_299 rfl ?_
          refine m_iload_n C dX12_bells_301 rfl rfl ?_
          refine m_icmp_gt (tgt := 323) C dX12_bells_302 (by decide) (fun c7 => ?_) (fun c7 => ?_)
          · exfalso
            have q : _ := c7
            simp only [ti_nle, ti_nlt, ti_le, ti_lt, ti_eq, ti_ne, Classical.not_not, kt_0] at q
            have q1 := kc_0; have q2 := b6; omega
          · have f9 : 0 ≤ a3.toInt := by
              have q : _ := c7
              simp only [ti_nle, ti_nlt, ti_le, ti_lt, ti_eq, ti_ne, Classical.not_not, kt_0] at q
              omega
            refine m_iload C dX12_bells_305 rfl ?_
            refine m_iload_n C dX12_bells_307 rfl rfl ?_
            refine m_icmp_ge (tgt := 323) C dX12_bells_308 (by decide) (fun c10 => ?_) (fun c10 => ?_)
            · first | exact absurd c10 (by decide) | exact absurd (by decide) c10
            · have f12 : 0 < 1 := by
                have q : _ := c10
                simp only [ti_nle, ti_nlt, ti_le, ti_lt, ti_eq, ti_ne, Classical.not_not, kt_0, kt_1] at q
                omega
              refine m_iload C dX12_bells_311 rfl ?_
              refine m_iload_n C dX12_bells_313 rfl rfl ?_
              refine m_idiv C dX12_bells_314 (iv_nz kc_1 (by decide)) ?_
              refine m_topi (fun x13 ex13 => ?_)
              have b14 : IV x13 1 1 := by rw [ex13]; decide
              have tx13 : x13.toInt = 1 := by rw [ex13]; decide
              obtain rfl : x13 = 1 := by rw [ex13]; decide
              refine m_istore (L1 := [some (.ref (G.1 22 0)), some (.int a1), some (.int 1), some (.int a3), some (.int 1), some (.int y5), some (.int y6), some (.int 1), some (.int 0), none, none, none, none, none]) C dX12_bells_315 (by decide) rfl rfl ?_
              obtain ⟨x15, ex15⟩ : ∃ y : Int32, y = 0 + 1 := ⟨_, rfl⟩
              have b16 : IV x15 1 1 := by rw [ex15]; decide
              have tx15 : x15.toInt = 1 := by rw [ex15]; decide
              obtain rfl : x15 = 1 := by rw [ex15]; decide
              refine m_iinc (v := 1) (L1 := [some (.ref (G.1 22 0)), some (.int a1), some (.int 1), some (.int a3), some (.int 1), some (.int y5), some (.int y6), some (.int 1), some (.int 1), none, none, none, none, none]) C dX12_bells_317 rfl (by decide) (by decide) rfl rfl ?_
              refine m_goto (tgt := 299) C dX12_bells_320 (by decide) ?_
              refine m_iload C dX12_bells_299 rfl ?_
              refine m_iload_n C dX12_bells_301 rfl rfl ?_
              refine m_icmp_gt (tgt := 323) C dX12_bells_302 (by decide) (fun c17 => ?_) (fun c17 => ?_)
              · have f18 : a3.toInt < 1 := by
                  have q : _ := c17
                  simp only [ti_nle, ti_nlt, ti_le, ti_lt, ti_eq, ti_ne, Classical.not_not, kt_1] at q
                  omega
                have b19 : IV a3 0 0 := ⟨by have q1 := b6; have q2 := kc_1; omega, by have q1 := b6; have q2 := kc_1; omega⟩
                refine m_iload_n C dX12_bells_323 rfl rfl ?_
                refine m_iload_n C dX12_bells_324 rfl rfl ?_
                refine m_icmp_ge (tgt := 338) C dX12_bells_325 (by decide) (fun c20 => ?_) (fun c20 => ?_)
                · exfalso
                  have q : _ := c20
                  simp only [ti_nle, ti_nlt, ti_le, ti_lt, ti_eq, ti_ne, Classical.not_not, kt_1] at q
                  have q1 := b19; have q2 := kc_1; omega
                · have f22 : a3.toInt < 1 := by
                    have q : _ := c20
                    simp only [ti_nle, ti_nlt, ti_le, ti_lt, ti_eq, ti_ne, Classical.not_not, kt_1] at q
                    omega
                  refine m_iload C dX12_bells_328 rfl ?_
                  refine m_iload C dX12_bells_330 rfl ?_
                  refine m_idiv C dX12_bells_332 (iv_nz kc_1 (by decide)) ?_
                  refine m_topi (fun x23 ex23 => ?_)
                  refine m_iload_n C dX12_bells_333 rfl rfl ?_
                  refine m_irem C dX12_bells_334 (iv_nz kc_1 (by decide)) ?_
                  refine m_topi (fun x24 ex24 => ?_)
                  refine m_goto (tgt := 340) C dX12_bells_335 (by decide) ?_
                  exact m_iret C hr hlk (by decide) (by decide) dX12_bells_340 ⟨_, rfl, iτ, fτ, (iv_any x24)⟩
              · have f25 : 1 ≤ a3.toInt := by
                  have q : _ := c17
                  simp only [ti_nle, ti_nlt, ti_le, ti_lt, ti_eq, ti_ne, Classical.not_not, kt_1] at q
                  omega
                have b26 : IV a3 1 2147483647 := ⟨by have q1 := kc_1; have q2 := b6; omega, by have q1 := kc_1; have q2 := b6; omega⟩
                refine m_iload C dX12_bells_305 rfl ?_
                refine m_iload_n C dX12_bells_307 rfl rfl ?_
                refine m_icmp_ge (tgt := 323) C dX12_bells_308 (by decide) (fun c27 => ?_) (fun c27 => ?_)
                · have f28 : 1 ≤ 1 := by
                    have q : _ := c27
                    simp only [ti_nle, ti_nlt, ti_le, ti_lt, ti_eq, ti_ne, Classical.not_not, kt_1, kt_1] at q
                    omega
                  refine m_iload_n C dX12_bells_323 rfl rfl ?_
                  refine m_iload_n C dX12_bells_324 rfl rfl ?_
                  refine m_icmp_ge (tgt := 338) C dX12_bells_325 (by decide) (fun c29 => ?_) (fun c29 => ?_)
                  · have f30 : 1 ≤ a3.toInt := by
                      have q : _ := c29
                      simp only [ti_nle, ti_nlt, ti_le, ti_lt, ti_eq, ti_ne, Classical.not_not, kt_1] at q
                      omega
                    refine m_ldc (v := (-1000000)) C dX12_bells_338 q5_70 ?_
                    exact m_iret C hr hlk (by decide) (by decide) dX12_bells_340 ⟨_, rfl, iτ, fτ, (iv_wk kc_m1000000 (by decide))⟩
                  · exfalso
                    have q : _ := c29
                    simp only [ti_nle, ti_nlt, ti_le, ti_lt, ti_eq, ti_ne, Classical.not_not, kt_1] at q
                    have q1 := b26; have q2 := kc_1; omega
                · first | exact absurd c27 (by decide) | exact absurd (by decide) c27
        · have f33 : a3.toInt < 0 := by
            have q : _ := c4
            simp only [ti_nle, ti_nlt, ti_le, ti_lt, ti_eq, ti_ne, Classical.not_not, kt_0] at q
            omega
          have b34 : IV a3 (-1) (-1) := ⟨by have q1 := b_a3; have q2 := kc_0; omega, by have q1 := b_a3; have q2 := kc_0; omega⟩
          refine m_iload C dX12_bells_289 rfl ?_
          exact m_iret C hr hlk (by decide) (by decide) dX12_bells_291 ⟨_, rfl, iτ, fτ, b_y6⟩
      · have f35 : y7.toInt < 1 := by
          have q : _ := c1
          simp only [ti_nle, ti_nlt, ti_le, ti_lt, ti_eq, ti_ne, Classical.not_not, kt_1] at q
          omega
        have b36 : IV y7 0 0 := ⟨by have q1 := b_y7; have q2 := kc_1; omega, by have q1 := b_y7; have q2 := kc_1; omega⟩
        refine m_iconst (v := 0) C dX12_bells_145 (by decide) ?_
        refine m_istore (L1 := [some (.ref (G.1 22 0)), some (.int a1), some (.int 1), some (.int a3), some (.int 1), some (.int y5), some (.int y6), some (.int y7), some (.int 0), none, none, none, none, none]) C dX12_bells_146 (by decide) rfl rfl ?_
        refine m_iload C dX12_bells_148 rfl ?_
        refine m_istore (L1 := [some (.ref (G.1 22 0)), some (.int a1), some (.int 1), some (.int a3), some (.int 1), some (.int y5), some (.int y6), some (.int y7), some (.int 0), some (.int 1), none, none, none, none]) C dX12_bells_150 (by decide) rfl rfl ?_
        refine m_iconst (v := 0) C dX12_bells_152 (by decide) ?_
        refine m_istore (L1 := [some (.ref (G.1 22 0)), some (.int a1), some (.int 1), some (.int a3), some (.int 1), some (.int y5), some (.int y6), some (.int y7), some (.int 0), some (.int 1), some (.int 0), none, none, none]) C dX12_bells_153 (by decide) rfl rfl ?_
        refine m_iconst (v := 0) C dX12_bells_155 (by decide) ?_
        refine m_istore (L1 := [some (.ref (G.1 22 0)), some (.int a1), some (.int 1), some (.int a3), some (.int 1), some (.int y5), some (.int y6), some (.int y7), some (.int 0), some (.int 1), some (.int 0), some (.int 0), none, none]) C dX12_bells_156 (by decide) rfl rfl ?_
        refine m_iconst (v := 0) C dX12_bells_158 (by decide) ?_
        refine m_istore (L1 := [some (.ref (G.1 22 0)), some (.int a1), some (.int 1), some (.int a3), some (.int 1), some (.int y5), some (.int y6), some (.int y7), some (.int 0), some (.int 1), some (.int 0), some (.int 0), some (.int 0), none]) C dX12_bells_159 (by decide) rfl rfl ?_
        refine m_iload C dX12_bells_161 rfl ?_
        refine m_iload_n C dX12_bells_163 rfl rfl ?_
        refine m_icmp_ge (tgt := 249) C dX12_bells_164 (by decide) (fun c37 => ?_) (fun c37 => ?_)
        · first | exact absurd c37 (by decide) | exact absurd (by decide) c37
        · have f39 : 0 < 1 := by
            have q : _ := c37
            simp only [ti_nle, ti_nlt, ti_le, ti_lt, ti_eq, ti_ne, Classical.not_not, kt_0, kt_1] at q
            omega
          refine m_iload C dX12_bells_167 rfl ?_
          refine m_iload_n C dX12_bells_169 rfl rfl ?_
          refine m_idiv C dX12_bells_170 (iv_nz kc_1 (by decide)) ?_
          refine m_topi (fun x40 ex40 => ?_)
          have b41 : IV x40 1 1 := by rw [ex40]; decide
          have tx40 : x40.toInt = 1 := by rw [ex40]; decide
          obtain rfl : x40 = 1 := by rw [ex40]; decide
          refine m_istore (L1 := [some (.ref (G.1 22 0)), some (.int a1), some (.int 1), some (.int a3), some (.int 1), some (.int y5), some (.int y6), some (.int y7), some (.int 0), some (.int 1), some (.int 0), some (.int 0), some (.int 0), none]) C dX12_bells_171 (by decide) rfl rfl ?_
          refine m_iload C dX12_bells_173 rfl ?_
          refine m_iload C dX12_bells_175 rfl ?_
          refine m_idiv C dX12_bells_177 (iv_nz kc_1 (by decide)) ?_
          refine m_topi (fun x42 ex42 => ?_)
          have b43 : IV x42 0 0 := by rw [ex42]; exact iv_div b36 kc_1 (by decide)
          refine m_iload_n C dX12_bells_178 rfl rfl ?_
          refine m_irem C dX12_bells_179 (iv_nz kc_1 (by decide)) ?_
          refine m_topi (fun x44 ex44 => ?_)
          have b45 : IV x44 0 0 := by rw [ex44]; exact iv_rem b43 kc_1 (by decide)
          refine m_istore (L1 := [some (.ref (G.1 22 0)), some (.int a1), some (.int 1), some (.int a3), some (.int 1), some (.int y5), some (.int y6), some (.int y7), some (.int 0), some (.int 1), some (.int 0), some (.int 0), some (.int 0), some (.int x44)]) C dX12_bells_180 (by decide) rfl rfl ?_
          refine m_iload C dX12_bells_182 rfl ?_
          refine m_iconst (v := 1) C dX12_bells_184 (by decide) ?_
          refine m_iload C dX12_bells_185 rfl ?_
          refine m_ishl C dX12_bells_187 ?_
          refine m_topi (fun x46 ex46 => ?_)
          have b47 : IV x46 1 1 := by rw [ex46]; exact iv_shl1 b45 (by decide)
          refine m_ior C dX12_bells_188 ?_
          refine m_topi (fun x48 ex48 => ?_)
          have b49 : IV x48 0 1 := by rw [ex48]; exact iv_or 1 kc_0 b47 (by decide)
          refine m_istore (L1 := [some (.ref (G.1 22 0)), some (.int a1), some (.int 1), some (.int a3), some (.int 1), some (.int y5), some (.int y6), some (.int y7), some (.int x48), some (.int 1), some (.int 0), some (.int 0), some (.int 0), some (.int x44)]) C dX12_bells_189 (by decide) rfl rfl ?_
          refine m_iload C dX12_bells_191 rfl ?_
          refine m_iload C dX12_bells_193 rfl ?_
          refine m_iconst (v := 2) C dX12_bells_195 (by decide) ?_
          refine m_irem C dX12_bells_196 (iv_nz kc_2 (by decide)) ?_
          refine m_topi (fun x50 ex50 => ?_)
          have b51 : IV x50 0 0 := by rw [ex50]; decide
          have tx50 : x50.toInt = 0 := by rw [ex50]; decide
          obtain rfl : x50 = 0 := by rw [ex50]; decide
          refine m_if_ne (tgt := 215) C dX12_bells_197 (by decide) (fun c52 => ?_) (fun c52 => ?_)
          · first | exact absurd c52 (by decide) | exact absurd (by decide) c52
          · have f54 : 0 = 0 := by
              have q : _ := c52
              simp only [ti_nle, ti_nlt, ti_le, ti_lt, ti_eq, ti_ne, Classical.not_not, kt_0, kt_0] at q
              omega
            refine m_aload_n C dX12_bells_200 rfl rfl ?_
            refine g_22_2 C q4_118 dX12_bells_201 ?_
            refine m_bipush (v := 40) C dX12_bells_204 (by decide) ?_
            refine m_iload_n C dX12_bells_206 rfl rfl ?_
            refine m_imul C dX12_bells_207 ?_
            refine m_topi (fun x55 ex55 => ?_)
            have tx55 : x55.toInt = 40 * a1.toInt := by rw [ex55, ti_mulv kc_40 b_a1 (by decide), kt_40]
            have b56 : IV x55 0 280 := by rw [ex55]; exact iv_mul kc_40 b_a1 (by decide)
            refine m_iload C dX12_bells_208 rfl ?_
            refine m_iadd C dX12_bells_210 ?_
            refine m_topi (fun x57 ex57 => ?_)
            have tx57 : x57.toInt = x55.toInt + x44.toInt := by rw [ex57, ti_addv b56 b45 (by decide)]
            have b58 : IV x57 0 280 := by rw [ex57]; exact iv_add b56 b45 (by decide)
            refine al_25 C b58 (by decide) rfl dX12_bells_211 ?_
            refine m_topi (fun x59 ex59 => ?_)
            refine m_goto (tgt := 228) C dX12_bells_212 (by decide) ?_
            refine m_iadd C dX12_bells_228 ?_
            refine m_topi (fun x60 ex60 => ?_)
            have tx60 : x60.toInt = 0 + x59.toInt := by rw [ex60, ti_addv kc_0 (iv_any x59) (by decide), kt_0]
            have b61 : IV x60 (-2147483648) 2147483647 := by rw [ex60]; exact iv_add kc_0 (iv_any x59) (by decide)
            refine m_istore (L1 := [some (.ref (G.1 22 0)), some (.int a1), some (.int 1), some (.int a3), some (.int 1), some (.int y5), some (.int y6), some (.int y7), some (.int x48), some (.int 1), some (.int x60), some (.int 0), some (.int 0), some (.int x44)]) C dX12_bells_229 (by decide) rfl rfl ?_
            refine m_iload C dX12_bells_231 rfl ?_
            refine m_iload C dX12_bells_233 rfl ?_
            refine m_callS (n := 1) (st := [.int 0]) C (c_X12_sizeOf l G τ (x60) iτ ) q5_96 q5_94 q5_95 q1_7 (by decide +kernel) rfl (by decide) (by decide) rfl (Nat.le_of_ble_eq_true rfl) dX12_bells_235 ?_
            rintro _ τ62 ⟨x65, rfl, i63, f64, b66⟩
            have g67 : Fr MS_X12_bells_1 AS_X12_bells_1 σ τ62 := Fr.call (fτ) f64 (by decide)
            show MW p l e _ s m args below meth c _ 14 G 0 0 238 [some (.ref (G.1 22 0)), some (.int a1), some (.int 1), some (.int a3), some (.int 1), some (.int y5), some (.int y6), some (.int y7), some (.int x48), some (.int 1), some (.int x60), some (.int 0), some (.int 0), some (.int x44)] [.int x65, .int 0] τ62
            refine m_callS (n := 2) (st := []) C (c_X12_greater l G τ62 (0) (x65) i63 ) q5_99 q5_97 q5_98 q1_7 (by decide +kernel) rfl (by decide) (by decide) rfl (Nat.le_of_ble_eq_true rfl) dX12_bells_238 ?_
            rintro _ τ69 ⟨x72, rfl, i70, f71, b73⟩
            have g74 : Fr MS_X12_bells_1 AS_X12_bells_1 σ τ69 := Fr.call (g67) f71 (by decide)
            show MW p l e _ s m args below meth c _ 14 G 0 0 241 [some (.ref (G.1 22 0)), some (.int a1), some (.int 1), some (.int a3), some (.int 1), some (.int y5), some (.int y6), some (.int y7), some (.int x48), some (.int 1), some (.int x60), some (.int 0), some (.int 0), some (.int x44)] [.int x72] τ69
            refine m_istore (L1 := [some (.ref (G.1 22 0)), some (.int a1), some (.int 1), some (.int a3), some (.int 1), some (.int y5), some (.int y6), some (.int y7), some (.int x48), some (.int 1), some (.int x60), some (.int x72), some (.int 0), some (.int x44)]) C dX12_bells_241 (by decide) rfl rfl ?_
            obtain ⟨x76, ex76⟩ : ∃ y : Int32, y = 0 + 1 := ⟨_, rfl⟩
            have b77 : IV x76 1 1 := by rw [ex76]; decide
            have tx76 : x76.toInt = 1 := by rw [ex76]; decide
            obtain rfl : x76 = 1 := by rw [ex76]; decide
            refine m_iinc (v := 1) (L1 := [some (.ref (G.1 22 0)), some (.int a1), some (.int 1), some (.int a3), some (.int 1), some (.int y5), some (.int y6), some (.int y7), some (.int x48), some (.int 1), some (.int x60), some (.int x72), some (.int 1), some (.int x44)]) C dX12_bells_243 rfl (by decide) (by decide) rfl rfl ?_
            refine m_goto (tgt := 161) C dX12_bells_246 (by decide) ?_
            refine m_iload C dX12_bells_161 rfl ?_
            refine m_iload_n C dX12_bells_163 rfl rfl ?_
            refine m_icmp_ge (tgt := 249) C dX12_bells_164 (by decide) (fun c78 => ?_) (fun c78 => ?_)
            · have f79 : 1 ≤ 1 := by
                have q : _ := c78
                simp only [ti_nle, ti_nlt, ti_le, ti_lt, ti_eq, ti_ne, Classical.not_not, kt_1, kt_1] at q
                omega
              refine m_iload C dX12_bells_249 rfl ?_
              refine m_iconst (v := 1) C dX12_bells_251 (by decide) ?_
              refine m_iload_n C dX12_bells_252 rfl rfl ?_
              refine m_ishl C dX12_bells_253 ?_
              refine m_topi (fun x80 ex80 => ?_)
              have b81 : IV x80 2 2 := by rw [ex80]; decide
              have tx80 : x80.toInt = 2 := by rw [ex80]; decide
              obtain rfl : x80 = 2 := by rw [ex80]; decide
              refine m_iconst (v := 1) C dX12_bells_254 (by decide) ?_
              refine m_isub C dX12_bells_255 ?_
              refine m_topi (fun x82 ex82 => ?_)
              have b83 : IV x82 1 1 := by rw [ex82]; decide
              have tx82 : x82.toInt = 1 := by rw [ex82]; decide
              obtain rfl : x82 = 1 := by rw [ex82]; decide
              refine m_icmp_ne (tgt := 279) C dX12_bells_256 (by decide) (fun c84 => ?_) (fun c84 => ?_)
              · have f85 : x48.toInt ≠ 1 := by
                  have q : _ := c84
                  simp only [ti_nle, ti_nlt, ti_le, ti_lt, ti_eq, ti_ne, Classical.not_not, kt_1] at q
                  omega
                have b86 : IV x48 0 0 := ⟨by have q1 := b49; have q2 := kc_1; omega, by have q1 := b49; have q2 := kc_1; omega⟩
                obtain ⟨x87, ex87⟩ : ∃ y : Int32, y = y7 + 1 := ⟨_, rfl⟩
                have tx87 : x87.toInt = y7.toInt + 1 := by rw [ex87, ti_addv b36 kc_1 (by decide), kt_1]
                have b88 : IV x87 1 1 := by rw [ex87]; exact iv_add b36 kc_1 (by decide)
                refine m_iinc (v := x87) (L1 := [some (.ref (G.1 22 0)), some (.int a1), some (.int 1), some (.int a3), some (.int 1), some (.int y5), some (.int y6), some (.int x87), some (.int x48), some (.int 1), some (.int x60), some (.int x72), some (.int 1), some (.int x44)]) C dX12_bells_279 rfl (by rw [ex87]; rfl) (by decide) rfl rfl ?_
                refine m_goto (tgt := 138) C dX12_bells_282 (by decide) ?_
                refine m_sub (L1 := [some (.ref (G.1 22 0)), some (.int a1), some (.int 1), some (.int a3), some (.int 1), some (.int y5), some (.int y6), some (.int x87), none, none, none, none, none, none]) ⟨rfl, ⟨rfl, ⟨rfl, ⟨rfl, ⟨rfl, ⟨rfl, ⟨rfl, ⟨rfl, trivial⟩⟩⟩⟩⟩⟩⟩⟩ ?_
                exact ih138 τ69 y5 y6 x87 i70 g74 b_a1 b_a3 b_y5 b_y6 (iv_wk b88 (by decide)) (by have q := hm138; omega)
              · have f89 : x48.toInt = 1 := by
                  have q : _ := c84
                  simp only [ti_nle, ti_nlt, ti_le, ti_lt, ti_eq, ti_ne, Classical.not_not, kt_1] at q
                  omega
                have b90 : IV x48 1 1 := ⟨by have q1 := b49; have q2 := kc_1; omega, by have q1 := b49; have q2 := kc_1; omega⟩
                refine m_iload C dX12_bells_259 rfl ?_
                refine m_if_lt (tgt := 271) C dX12_bells_261 (by decide) (fun c91 => ?_) (fun c91 => ?_)
                · have f92 : y5.toInt < 0 := by
                    have q : _ := c91
                    simp only [ti_nle, ti_nlt, ti_le, ti_lt, ti_eq, ti_ne, Classical.not_not, kt_0] at q
                    omega
                  have b93 : IV y5 (-1) (-1) := ⟨by have q1 := b_y5; have q2 := kc_0; omega, by have q1 := b_y5; have q2 := kc_0; omega⟩
                  refine m_iload C dX12_bells_271 rfl ?_
                  refine m_istore (L1 := [some (.ref (G.1 22 0)), some (.int a1), some (.int 1), some (.int a3), some (.int 1), some (.int y7), some (.int y6), some (.int y7), some (.int x48), some (.int 1), some (.int x60), some (.int x72), some (.int 1), some (.int x44)]) C dX12_bells_273 (by decide) rfl rfl ?_
                  refine m_iload C dX12_bells_275 rfl ?_
                  refine m_istore (L1 := [some (.ref (G.1 22 0)), some (.int a1), some (.int 1), some (.int a3), some (.int 1), some (.int y7), some (.int x72), some (.int y7), some (.int x48), some (.int 1), some (.int x60), some (.int x72), some (.int 1), some (.int x44)]) C dX12_bells_277 (by decide) rfl rfl ?_
                  obtain ⟨x94, ex94⟩ : ∃ y : Int32, y = y7 + 1 := ⟨_, rfl⟩
                  have tx94 : x94.toInt = y7.toInt + 1 := by rw [ex94, ti_addv b36 kc_1 (by decide), kt_1]
                  have b95 : IV x94 1 1 := by rw [ex94]; exact iv_add b36 kc_1 (by decide)
                  refine m_iinc (v := x94) (L1 := [some (.ref (G.1 22 0)), some (.int a1), some (.int 1), some (.int a3), some (.int 1), some (.int y7), some (.int x72), some (.int x94), some (.int x48), some (.int 1), some (.int x60), some (.int x72), some (.int 1), some (.int x44)]) C dX12_bells_279 rfl (by rw [ex94]; rfl) (by decide) rfl rfl ?_
                  refine m_goto (tgt := 138) C dX12_bells_282 (by decide) ?_
                  refine m_sub (L1 := [some (.ref (G.1 22 0)), some (.int a1), some (.int 1), some (.int a3), some (.int 1), some (.int y7), some (.int x72), some (.int x94), none, none, none, none, none, none]) ⟨rfl, ⟨rfl, ⟨rfl, ⟨rfl, ⟨rfl, ⟨rfl, ⟨rfl, ⟨rfl, trivial⟩⟩⟩⟩⟩⟩⟩⟩ ?_
                  exact ih138 τ69 y7 x72 x94 i70 g74 b_a1 b_a3 (iv_wk b36 (by decide)) b73 (iv_wk b95 (by decide)) (by have q := hm138; omega)
                · have f96 : 0 ≤ y5.toInt := by
                    have q : _ := c91
                    simp only [ti_nle, ti_nlt, ti_le, ti_lt, ti_eq, ti_ne, Classical.not_not, kt_0] at q
                    omega
                  have b97 : IV y5 0 0 := ⟨by have q1 := kc_0; have q2 := b_y5; omega, by have q1 := kc_0; have q2 := b_y5; omega⟩
                  refine m_iload C dX12_bells_264 rfl ?_
                  refine m_iload C dX12_bells_266 rfl ?_
                  refine m_icmp_ge (tgt := 279) C dX12_bells_268 (by decide) (fun c98 => ?_) (fun c98 => ?_)
                  · have f99 : y6.toInt ≤ x72.toInt := by
                      have q : _ := c98
                      simp only [ti_nle, ti_nlt, ti_le, ti_lt, ti_eq, ti_ne, Classical.not_not] at q
                      omega
                    obtain ⟨x100, ex100⟩ : ∃ y : Int32, y = y7 + 1 := ⟨_, rfl⟩
                    have tx100 : x100.toInt = y7.toInt + 1 := by rw [ex100, ti_addv b36 kc_1 (by decide), kt_1]
                    have b101 : IV x100 1 1 := by rw [ex100]; exact iv_add b36 kc_1 (by decide)
                    refine m_iinc (v := x100) (L1 := [some (.ref (G.1 22 0)), some (.int a1), some (.int 1), some (.int a3), some (.int 1), some (.int y5), some (.int y6), some (.int x100), some (.int x48), some (.int 1), some (.int x60), some (.int x72), some (.int 1), some (.int x44)]) C dX12_bells_279 rfl (by rw [ex100]; rfl) (by decide) rfl rfl ?_
                    refine m_goto (tgt := 138) C dX12_bells_282 (by decide) ?_
                    refine m_sub (L1 := [some (.ref (G.1 22 0)), some (.int a1), some (.int 1), some (.int a3), some (.int 1), some (.int y5), some (.int y6), some (.int x100), none, none, none, none, none, none]) ⟨rfl, ⟨rfl, ⟨rfl, ⟨rfl, ⟨rfl, ⟨rfl, ⟨rfl, ⟨rfl, trivial⟩⟩⟩⟩⟩⟩⟩⟩ ?_
                    exact ih138 τ69 y5 y6 x100 i70 g74 b_a1 b_a3 (iv_wk b97 (by decide)) b_y6 (iv_wk b101 (by decide)) (by have q := hm138; omega)
                  · have f102 : x72.toInt < y6.toInt := by
                      have q : _ := c98
                      simp only [ti_nle, ti_nlt, ti_le, ti_lt, ti_eq, ti_ne, Classical.not_not] at q
                      omega
                    have b103 : IV x72 (-2147483648) 2147483646 := ⟨by have q1 := b73; have q2 := b_y6; omega, by have q1 := b73; have q2 := b_y6; omega⟩
                    have b104 : IV y6 (-2147483647) 2147483647 := ⟨by have q1 := b73; have q2 := b_y6; omega, by have q1 := b73; have q2 := b_y6; omega⟩
                    refine m_iload C dX12_bells_271 rfl ?_
                    refine m_istore (L1 := [some (.ref (G.1 22 0)), some (.int a1), some (.int 1), some (.int a3), some (.int 1), some (.int y7), some (.int y6), some (.int y7), some (.int x48), some (.int 1), some (.int x60), some (.int x72), some (.int 1), some (.int x44)]) C dX12_bells_273 (by decide) rfl rfl ?_
                    refine m_iload C dX12_bells_275 rfl ?_
                    refine m_istore (L1 := [some (.ref (G.1 22 0)), some (.int a1), some (.int 1), some (.int a3), some (.int 1), some (.int y7), some (.int x72), some (.int y7), some (.int x48), some (.int 1), some (.int x60), some (.int x72), some (.int 1), some (.int x44)]) C dX12_bells_277 (by decide) rfl rfl ?_
                    obtain ⟨x105, ex105⟩ : ∃ y : Int32, y = y7 + 1 := ⟨_, rfl⟩
                    have tx105 : x105.toInt = y7.toInt + 1 := by rw [ex105, ti_addv b36 kc_1 (by decide), kt_1]
                    have b106 : IV x105 1 1 := by rw [ex105]; exact iv_add b36 kc_1 (by decide)
                    refine m_iinc (v := x105) (L1 := [some (.ref (G.1 22 0)), some (.int a1), some (.int 1), some (.int a3), some (.int 1), some (.int y7), some (.int x72), some (.int x105), some (.int x48), some (.int 1), some (.int x60), some (.int x72), some (.int 1), some (.int x44)]) C dX12_bells_279 rfl (by rw [ex105]; rfl) (by decide) rfl rfl ?_
                    refine m_goto (tgt := 138) C dX12_bells_282 (by decide) ?_
                    refine m_sub (L1 := [some (.ref (G.1 22 0)), some (.int a1), some (.int 1), some (.int a3), some (.int 1), some (.int y7), some (.int x72), some (.int x105), none, none, none, none, none, none]) ⟨rfl, ⟨rfl, ⟨rfl, ⟨rfl, ⟨rfl, ⟨rfl, ⟨rfl, ⟨rfl, trivial⟩⟩⟩⟩⟩⟩⟩⟩ ?_
                    exact ih138 τ69 y7 x72 x105 i70 g74 b_a1 b_a3 (iv_wk b36 (by decide)) (iv_wk b103 (by decide)) (iv_wk b106 (by decide)) (by have q := hm138; omega)
            · first | exact absurd c78 (by decide) | exact absurd (by decide) c78
  have J61 : ∀ (n : Nat) (τ : Sg) (y4 : Int32), Inv τ → Fr MS_X12_bells_1 AS_X12_bells_1 σ τ → IV a1 0 7 → IV a3 (-1) 2147483647 → IV y4 0 1 → (1 - y4.toInt).toNat < n → MW p l e { frames := 2, cells := 0, slots := 0, locals := 60 } s m args below meth c (MQ below (QP G (PI fun r τ => Inv τ ∧ Fr MS_X12_bells_1 AS_X12_bells_1 σ τ ∧ IV r (-2147483648) 2147483647)) args s 0 0 (aG G)) 14 G 0 0 61 [some (.ref (G.1 22 0)), some (.int a1), some (.int 1), some (.int a3), some (.int y4), none, none, none, none, none, none, none, none, none] [] τ := by
    intro n
    induction n with
    | zero => intro τ y4 iτ fτ b_a1 b_a3 b_y4 hm; exact absurd hm (Nat.not_lt_zero _)
    | succ n ih61 =>
      intro τ y4 iτ fτ b_a1 b_a3 b_y4 hm61
      refine m_iload C dX12_bells_61 rfl ?_
      refine m_iload_n C dX12_bells_63 rfl rfl ?_
      refine m_icmp_ge (tgt := 99) C dX12_bells_64 (by decide) (fun c108 => ?_) (fun c108 => ?_)
      · have f109 : 1 ≤ y4.toInt := by
          have q : _ := c108
          simp only [ti_nle, ti_nlt, ti_le, ti_lt, ti_eq, ti_ne, Classical.not_not, kt_1] at q
          omega
        have b110 : IV y4 1 1 := ⟨by have q1 := kc_1; have q2 := b_y4; omega, by have q1 := kc_1; have q2 := b_y4; omega⟩
        refine m_aload_n C dX12_bells_99 rfl rfl ?_
        refine m_iconst (v := 0) C dX12_bells_100 (by decide) ?_
        refine m_callV (n := 1) (ci := 11) (st := []) C (c_X12_fine l G τ (0) iτ ) (by decide) (by decide) rfl rfl rfl q4_201 q4_198 q4_200 q0_27 q1_7 (by decide +kernel) rfl (by decide) (by decide) rfl (Nat.le_of_ble_eq_true rfl) dX12_bells_101 ?_
        rintro _ τ111 ⟨x114, rfl, i112, f113, b115, h117⟩
        have g116 : Fr MS_X12_bells_1 AS_X12_bells_1 σ τ111 := Fr.call (fτ) f113 (by decide)
        have q118 := kt_0
        show MW p l e _ s m args below meth c _ 14 G 0 0 104 [some (.ref (G.1 22 0)), some (.int a1), some (.int 1), some (.int a3), some (.int y4), none, none, none, none, none, none, none, none, none] [.int x114] τ111
        refine m_pop C dX12_bells_104 rfl ?_
        refine m_iconst (v := 1) C dX12_bells_105 (by decide) ?_
        refine m_istore (L1 := [some (.ref (G.1 22 0)), some (.int a1), some (.int 1), some (.int a3), some (.int 1), none, none, none, none, none, none, none, none, none]) C dX12_bells_106 (by decide) rfl rfl ?_
        refine m_iconst (v := 0) C dX12_bells_108 (by decide) ?_
        refine m_istore (L1 := [some (.ref (G.1 22 0)), some (.int a1), some (.int 1), some (.int a3), some (.int 1), some (.int 0), none, none, none, none, none, none, none, none]) C dX12_bells_109 (by decide) rfl rfl ?_
        refine m_iload C dX12_bells_111 rfl ?_
        refine m_iload_n C dX12_bells_113 rfl rfl ?_
        refine m_icmp_ge (tgt := 129) C dX12_bells_114 (by decide) (fun c119 => ?_) (fun c119 => ?_)
        · first | exact absurd c119 (by decide) | exact absurd (by decide) c119
        · have f121 : 0 < 1 := by
            have q : _ := c119
            simp only [ti_nle, ti_nlt, ti_le, ti_lt, ti_eq, ti_ne, Classical.not_not, kt_0, kt_1] at q
            omega
          refine m_iload C dX12_bells_117 rfl ?_
          refine m_iload_n C dX12_bells_119 rfl rfl ?_
          refine m_imul C dX12_bells_120 ?_
          refine m_topi (fun x122 ex122 => ?_)
          have b123 : IV x122 1 1 := by rw [ex122]; decide
          have tx122 : x122.toInt = 1 := by rw [ex122]; decide
          obtain rfl : x122 = 1 := by rw [ex122]; decide
          refine m_istore (L1 := [some (.ref (G.1 22 0)), some (.int a1), some (.int 1), some (.int a3), some (.int 1), some (.int 0), none, none, none, none, none, none, none, none]) C dX12_bells_121 (by decide) rfl rfl ?_
          obtain ⟨x124, ex124⟩ : ∃ y : Int32, y = 0 + 1 := ⟨_, rfl⟩
          have b125 : IV x124 1 1 := by rw [ex124]; decide
          have tx124 : x124.toInt = 1 := by rw [ex124]; decide
          obtain rfl : x124 = 1 := by rw [ex124]; decide
          refine m_iinc (v := 1) (L1 := [some (.ref (G.1 22 0)), some (.int a1), some (.int 1), some (.int a3), some (.int 1), some (.int 1), none, none, none, none, none, none, none, none]) C dX12_bells_123 rfl (by decide) (by decide) rfl rfl ?_
          refine m_goto (tgt := 111) C dX12_bells_126 (by decide) ?_
          refine m_iload C dX12_bells_111 rfl ?_
          refine m_iload_n C dX12_bells_113 rfl rfl ?_
          refine m_icmp_ge (tgt := 129) C dX12_bells_114 (by decide) (fun c126 => ?_) (fun c126 => ?_)
          · have f127 : 1 ≤ 1 := by
              have q : _ := c126
              simp only [ti_nle, ti_nlt, ti_le, ti_lt, ti_eq, ti_ne, Classical.not_not, kt_1, kt_1] at q
              omega
            refine m_iconst (v := (-1)) C dX12_bells_129 (by decide) ?_
            refine m_istore (L1 := [some (.ref (G.1 22 0)), some (.int a1), some (.int 1), some (.int a3), some (.int 1), some (.int (-1)), none, none, none, none, none, none, none, none]) C dX12_bells_130 (by decide) rfl rfl ?_
            refine m_iconst (v := 0) C dX12_bells_132 (by decide) ?_
            refine m_istore (L1 := [some (.ref (G.1 22 0)), some (.int a1), some (.int 1), some (.int a3), some (.int 1), some (.int (-1)), some (.int 0), none, none, none, none, none, none, none]) C dX12_bells_133 (by decide) rfl rfl ?_
            refine m_iconst (v := 0) C dX12_bells_135 (by decide) ?_
            refine m_istore (L1 := [some (.ref (G.1 22 0)), some (.int a1), some (.int 1), some (.int a3), some (.int 1), some (.int (-1)), some (.int 0), some (.int 0), none, none, none, none, none, none]) C dX12_bells_136 (by decide) rfl rfl ?_
            exact J138 ((1 - (0 : Int32).toInt).toNat + 1) τ111 (-1) 0 0 i112 g116 b_a1 b_a3 (iv_wk kc_m1 (by decide)) (iv_wk kc_0 (by decide)) (iv_wk kc_0 (by decide)) (Nat.lt_succ_self _)
          · first | exact absurd c126 (by decide) | exact absurd (by decide) c126
      · have f129 : y4.toInt < 1 := by
          have q : _ := c108
          simp only [ti_nle, ti_nlt, ti_le, ti_lt, ti_eq, ti_ne, Classical.not_not, kt_1] at q
          omega
        have b130 : IV y4 0 0 := ⟨by have q1 := b_y4; have q2 := kc_1; omega, by have q1 := b_y4; have q2 := kc_1; omega⟩
        refine m_aload_n C dX12_bells_67 rfl rfl ?_
        refine g_22_2 C q4_118 dX12_bells_68 ?_
        refine m_bipush (v := 40) C dX12_bells_71 (by decide) ?_
        refine m_iload_n C dX12_bells_73 rfl rfl ?_
        refine m_imul C dX12_bells_74 ?_
        refine m_topi (fun x131 ex131 => ?_)
        have tx131 : x131.toInt = 40 * a1.toInt := by rw [ex131, ti_mulv kc_40 b_a1 (by decide), kt_40]
        have b132 : IV x131 0 280 := by rw [ex131]; exact iv_mul kc_40 b_a1 (by decide)
        refine m_iload C dX12_bells_75 rfl ?_
        refine m_iadd C dX12_bells_77 ?_
        refine m_topi (fun x133 ex133 => ?_)
        have tx133 : x133.toInt = x131.toInt + y4.toInt := by rw [ex133, ti_addv b132 b130 (by decide)]
        have b134 : IV x133 0 280 := by rw [ex133]; exact iv_add b132 b130 (by decide)
        refine al_25 C b134 (by decide) rfl dX12_bells_78 ?_
        refine m_topi (fun x135 ex135 => ?_)
        refine m_i2l C dX12_bells_79 ?_
        refine m_lconst (v := 1) C dX12_bells_80 (by decide) ?_
        refine m_ldc2 (v := 20) C dX12_bells_81 q5_174 ?_
        refine m_callS (n := 3) (st := []) C (c_X12_in l G τ ((x135 : Int32).toInt64) (1) (20) iτ ) q4_190 q4_188 q4_189 q1_7 (by decide +kernel) rfl (by decide) (by decide) rfl (Nat.le_of_ble_eq_true rfl) dX12_bells_84 ?_
        rintro _ τ136 ⟨x139, rfl, i137, f138, b140, h142⟩
        have g141 : Fr MS_X12_bells_1 AS_X12_bells_1 σ τ136 := Fr.call (fτ) f138 (by decide)
        have f143 := tl_i x135
        have f144 := kl_1
        have f145 := kl_20
        show MW p l e _ s m args below meth c _ 14 G 0 0 87 [some (.ref (G.1 22 0)), some (.int a1), some (.int 1), some (.int a3), some (.int y4), none, none, none, none, none, none, none, none, none] [.int x139] τ136
        refine m_if_ne (tgt := 93) C dX12_bells_87 (by decide) (fun c146 => ?_) (fun c146 => ?_)
        · have f147 : x139.toInt ≠ 0 := by
            have q : _ := c146
            simp only [ti_nle, ti_nlt, ti_le, ti_lt, ti_eq, ti_ne, Classical.not_not, kt_0] at q
            omega
          have b148 : IV x139 1 1 := ⟨by have q1 := b140; have q2 := kc_0; omega, by have q1 := b140; have q2 := kc_0; omega⟩
          have b149 : IV x135 1 20 := ⟨by have q1 := (iv_any x135); omega, by have q1 := (iv_any x135); omega⟩
          obtain ⟨x150, ex150⟩ : ∃ y : Int32, y = y4 + 1 := ⟨_, rfl⟩
          have tx150 : x150.toInt = y4.toInt + 1 := by rw [ex150, ti_addv b130 kc_1 (by decide), kt_1]
          have b151 : IV x150 1 1 := by rw [ex150]; exact iv_add b130 kc_1 (by decide)
          refine m_iinc (v := x150) (L1 := [some (.ref (G.1 22 0)), some (.int a1), some (.int 1), some (.int a3), some (.int x150), none, none, none, none, none, none, none, none, none]) C dX12_bells_93 rfl (by rw [ex150]; rfl) (by decide) rfl rfl ?_
          refine m_goto (tgt := 61) C dX12_bells_96 (by decide) ?_
          exact ih61 τ136 x150 i137 g141 b_a1 b_a3 (iv_wk b151 (by decide)) (by have q := hm61; omega)
        · have f152 : x139.toInt = 0 := by
            have q : _ := c146
            simp only [ti_nle, ti_nlt, ti_le, ti_lt, ti_eq, ti_ne, Classical.not_not, kt_0] at q
            omega
          have b153 : IV x139 0 0 := ⟨by have q1 := b140; have q2 := kc_0; omega, by have q1 := b140; have q2 := kc_0; omega⟩
          refine m_ldc (v := (-1000001)) C dX12_bells_90 q4_192 ?_
          exact m_iret C hr hlk (by decide) (by decide) dX12_bells_92 ⟨_, rfl, i137, g141, (iv_wk kc_m1000001 (by decide))⟩
  refine m_iload_n C dX12_bells_0 rfl rfl ?_
  refine m_callS (n := 1) (st := []) C (c_X12_isRow l G σ (a1) hI ) q4_186 q4_184 q4_185 q1_7 (by decide +kernel) rfl (by decide) (by decide) rfl (Nat.le_of_ble_eq_true rfl) dX12_bells_1 ?_
  rintro _ τ154 ⟨x157, rfl, i155, f156, b158, h160⟩
  have g159 : Fr MS_X12_bells_1 AS_X12_bells_1 σ τ154 := Fr.call (Fr.rf) f156 (by decide)
  show MW p l e _ s m args below meth c _ 14 G 0 0 4 [some (.ref (G.1 22 0)), some (.int a1), some (.int 1), some (.int a3), none, none, none, none, none, none, none, none, none, none] [.int x157] τ154
  refine m_if_eq (tgt := 24) C dX12_bells_4 (by decide) (fun c161 => ?_) (fun c161 => ?_)
  · have f162 : x157.toInt = 0 := by
      have q : _ := c161
      simp only [ti_nle, ti_nlt, ti_le, ti_lt, ti_eq, ti_ne, Classical.not_not, kt_0] at q
      omega
    have b163 : IV x157 0 0 := ⟨by have q1 := b158; have q2 := kc_0; omega, by have q1 := b158; have q2 := kc_0; omega⟩
    refine m_ldc (v := (-1000001)) C dX12_bells_24 q4_192 ?_
    exact m_iret C hr hlk (by decide) (by decide) dX12_bells_26 ⟨_, rfl, i155, g159, (iv_wk kc_m1000001 (by decide))⟩
  · have f164 : x157.toInt ≠ 0 := by
      have q : _ := c161
      simp only [ti_nle, ti_nlt, ti_le, ti_lt, ti_eq, ti_ne, Classical.not_not, kt_0] at q
      omega
    have b165 : IV x157 1 1 := ⟨by have q1 := b158; have q2 := kc_0; omega, by have q1 := b158; have q2 := kc_0; omega⟩
    have b166 : IV a1 0 7 := ⟨by have q1 := (iv_any a1); omega, by have q1 := (iv_any a1); omega⟩
    refine m_iload_n C dX12_bells_7 rfl rfl ?_
    refine m_i2l C dX12_bells_8 ?_
    refine m_lconst (v := 1) C dX12_bells_9 (by decide) ?_
    refine m_ldc2 (v := 5) C dX12_bells_10 q5_173 ?_
    refine m_callS (n := 3) (st := []) C (c_X12_in l G τ154 ((1 : Int32).toInt64) (1) (5) i155 ) q4_190 q4_188 q4_189 q1_7 (by decide +kernel) rfl (by decide) (by decide) rfl (Nat.le_of_ble_eq_true rfl) dX12_bells_13 ?_
    rintro _ τ167 ⟨x170, rfl, i168, f169, b171, h173⟩
    have g172 : Fr MS_X12_bells_1 AS_X12_bells_1 σ τ167 := Fr.call (g159) f169 (by decide)
    have f174 := tl_i 1
    have kf174 := kt_1
    have f175 := kl_1
    have f176 := kl_5
    show MW p l e _ s m args below meth c _ 14 G 0 0 16 [some (.ref (G.1 22 0)), some (.int a1), some (.int 1), some (.int a3), none, none, none, none, none, none, none, none, none, none] [.int x170] τ167
    refine m_if_eq (tgt := 24) C dX12_bells_16 (by decide) (fun c177 => ?_) (fun c177 => ?_)
    · have f178 : x170.toInt = 0 := by
        have q : _ := c177
        simp only [ti_nle, ti_nlt, ti_le, ti_lt, ti_eq, ti_ne, Classical.not_not, kt_0] at q
        omega
      have b179 : IV x170 0 0 := ⟨by have q1 := b171; have q2 := kc_0; omega, by have q1 := b171; have q2 := kc_0; omega⟩
      refine m_ldc (v := (-1000001)) C dX12_bells_24 q4_192 ?_
      exact m_iret C hr hlk (by decide) (by decide) dX12_bells_26 ⟨_, rfl, i168, g172, (iv_wk kc_m1000001 (by decide))⟩
    · have f180 : x170.toInt ≠ 0 := by
        have q : _ := c177
        simp only [ti_nle, ti_nlt, ti_le, ti_lt, ti_eq, ti_ne, Classical.not_not, kt_0] at q
        omega
      have b181 : IV x170 1 1 := ⟨by have q1 := b171; have q2 := kc_0; omega, by have q1 := b171; have q2 := kc_0; omega⟩
      refine m_iload_n C dX12_bells_19 rfl rfl ?_
      refine m_iconst (v := (-1)) C dX12_bells_20 (by decide) ?_
      refine m_icmp_ge (tgt := 27) C dX12_bells_21 (by decide) (fun c182 => ?_) (fun c182 => ?_)
      · have f183 : -1 ≤ a3.toInt := by
          have q : _ := c182
          simp only [ti_nle, ti_nlt, ti_le, ti_lt, ti_eq, ti_ne, Classical.not_not, kt_m1] at q
          omega
        have b184 : IV a3 (-1) 2147483647 := ⟨by have q1 := kc_m1; have q2 := (iv_any a3); omega, by have q1 := kc_m1; have q2 := (iv_any a3); omega⟩
        refine m_aload_n C dX12_bells_27 rfl rfl ?_
        refine g_22_3 C q4_119 dX12_bells_28 ?_
        refine m_iload_n C dX12_bells_31 rfl rfl ?_
        refine al_26 C b166 (by decide) rfl dX12_bells_32 ?_
        refine m_topi (fun x185 ex185 => ?_)
        refine m_if_ge (tgt := 42) C dX12_bells_33 (by decide) (fun c186 => ?_) (fun c186 => ?_)
        · have f187 : 0 ≤ x185.toInt := by
            have q : _ := c186
            simp only [ti_nle, ti_nlt, ti_le, ti_lt, ti_eq, ti_ne, Classical.not_not, kt_0] at q
            omega
          have b188 : IV x185 0 2147483647 := ⟨by have q1 := kc_0; have q2 := (iv_any x185); omega, by have q1 := kc_0; have q2 := (iv_any x185); omega⟩
          refine m_aload_n C dX12_bells_42 rfl rfl ?_
          refine g_22_4 C q4_120 dX12_bells_43 ?_
          refine m_iload_n C dX12_bells_46 rfl rfl ?_
          refine al_27 C b166 (by decide) rfl dX12_bells_47 ?_
          refine m_topi (fun x189 ex189 => ?_)
          have b190 : IV x189 0 40 := by rw [ex189]; exact i168.1 27 0 _
          refine m_iload_n C dX12_bells_48 rfl rfl ?_
          refine m_icmp_ge (tgt := 58) C dX12_bells_49 (by decide) (fun c191 => ?_) (fun c191 => ?_)
          · have f192 : 1 ≤ x189.toInt := by
              have q : _ := c191
              simp only [ti_nle, ti_nlt, ti_le, ti_lt, ti_eq, ti_ne, Classical.not_not, kt_1] at q
              omega
            have b193 : IV x189 1 40 := ⟨by have q1 := kc_1; have q2 := b190; omega, by have q1 := kc_1; have q2 := b190; omega⟩
            refine m_iconst (v := 0) C dX12_bells_58 (by decide) ?_
            refine m_istore (L1 := [some (.ref (G.1 22 0)), some (.int a1), some (.int 1), some (.int a3), some (.int 0), none, none, none, none, none, none, none, none, none]) C dX12_bells_59 (by decide) rfl rfl ?_
            exact J61 ((1 - (0 : Int32).toInt).toNat + 1) τ167 0 i168 g172 b166 b184 (iv_wk kc_0 (by decide)) (Nat.lt_succ_self _)
          · have f194 : x189.toInt < 1 := by
              have q : _ := c191
              simp only [ti_nle, ti_nlt, ti_le, ti_lt, ti_eq, ti_ne, Classical.not_not, kt_1] at q
              omega
            have b195 : IV x189 0 0 := ⟨by have q1 := b190; have q2 := kc_1; omega, by have q1 := b190; have q2 := kc_1; omega⟩
            refine m_aload_n C dX12_bells_52 rfl rfl ?_
            refine m_iconst (v := 2) C dX12_bells_53 (by decide) ?_
            refine m_callV (n := 1) (ci := 11) (st := []) C (c_X12_met l G τ167 (2) i168 (iv_wk kc_2 (by decide))) (by decide) (by decide) rfl rfl rfl q4_196 q4_193 q4_195 q0_26 q1_7 (by decide +kernel) rfl (by decide) (by decide) rfl (Nat.le_of_ble_eq_true rfl) dX12_bells_54 ?_
            rintro _ τ196 ⟨x199, rfl, i197, f198, b200, h202⟩
            have g201 : Fr MS_X12_bells_1 AS_X12_bells_1 σ τ196 := Fr.call (g172) f198 (by decide)
            have q203 := kt_2
            show MW p l e _ s m args below meth c _ 14 G 0 0 57 [some (.ref (G.1 22 0)), some (.int a1), some (.int 1), some (.int a3), none, none, none, none, none, none, none, none, none, none] [.int x199] τ196
            exact m_iret C hr hlk (by decide) (by decide) dX12_bells_57 ⟨_, rfl, i197, g201, (iv_wk b200 (by decide))⟩
        · have f204 : x185.toInt < 0 := by
            have q : _ := c186
            simp only [ti_nle, ti_nlt, ti_le, ti_lt, ti_eq, ti_ne, Classical.not_not, kt_0] at q
            omega
          have b205 : IV x185 (-2147483648) (-1) := ⟨by have q1 := (iv_any x185); have q2 := kc_0; omega, by have q1 := (iv_any x185); have q2 := kc_0; omega⟩
          refine m_aload_n C dX12_bells_36 rfl rfl ?_
          refine m_iconst (v := 1) C dX12_bells_37 (by decide) ?_
          refine m_callV (n := 1) (ci := 11) (st := []) C (c_X12_met l G τ167 (1) i168 (iv_wk kc_1 (by decide))) (by decide) (by decide) rfl rfl rfl q4_196 q4_193 q4_195 q0_26 q1_7 (by decide +kernel) rfl (by decide) (by decide) rfl (Nat.le_of_ble_eq_true rfl) dX12_bells_38 ?_
          rintro _ τ206 ⟨x209, rfl, i207, f208, b210, h212⟩
          have g211 : Fr MS_X12_bells_1 AS_X12_bells_1 σ τ206 := Fr.call (g172) f208 (by decide)
          have q213 := kt_1
          show MW p l e _ s m args below meth c _ 14 G 0 0 41 [some (.ref (G.1 22 0)), some (.int a1), some (.int 1), some (.int a3), none, none, none, none, none, none, none, none, none, none] [.int x209] τ206
          exact m_iret C hr hlk (by decide) (by decide) dX12_bells_41 ⟨_, rfl, i207, g211, (iv_wk b210 (by decide))⟩
      · have f214 : a3.toInt < -1 := by
          have q : _ := c182
          simp only [ti_nle, ti_nlt, ti_le, ti_lt, ti_eq, ti_ne, Classical.not_not, kt_m1] at q
          omega
        have b215 : IV a3 (-2147483648) (-2) := ⟨by have q1 := (iv_any a3); have q2 := kc_m1; omega, by have q1 := (iv_any a3); have q2 := kc_m1; omega⟩
        refine m_ldc (v := (-1000001)) C dX12_bells_24 q4_192 ?_
        exact m_iret C hr hlk (by decide) (by decide) dX12_bells_26 ⟨_, rfl, i168, g172, (iv_wk kc_m1000001 (by decide))⟩

abbrev MS_X12_bells_2 : List (Nat × Nat) := [(22, 8)]
abbrev AS_X12_bells_2 : List Nat := []
set_option maxHeartbeats 4000000 in
set_option maxRecDepth 100000 in
theorem c_X12_bells_2 (l : Launch) (G : Gt) (σ : Sg) (a1 : Int32) (a3 : Int32) (hI : Inv σ) : Mc l G yX12_bells cX12_bells 14 (some .int) 2 60 0 0 [.ref (G.1 22 0), .int a1, .int 2, .int a3] σ (PI fun r τ => Inv τ ∧ Fr MS_X12_bells_2 AS_X12_bells_2 σ τ ∧ IV r (-2147483648) 2147483647) := by
  refine Mc.of (L0 := [some (.ref (G.1 22 0)), some (.int a1), some (.int 2), some (.int a3), none, none, none, none, none, none, none, none, none, none]) (by decide) (Nat.le_of_ble_eq_true rfl) rfl ?_
  intro p e s m args below meth c C hr hlk
  have C : Cx p s m args c cX12_bells 14 "LeanTowerModel" := C
  have k0 : (0 : Int32).toInt = 0 := by decide
  have k1 : (1 : Int32).toInt = 1 := by decide
  have J138 : ∀ (n : Nat) (τ : Sg) (y5 : Int32) (y6 : Int32) (y7 : Int32), Inv τ → Fr MS_X12_bells_2 AS_X12_bells_2 σ τ → IV a1 0 7 → IV a3 (-1) 2147483647 → IV y5 (-1) 3 → IV y6 (-2147483648) 2147483647 → IV y7 0 4 → (4 - y7.toInt).toNat < n → MW p l e { frames := 2, cells := 0, slots := 0, locals := 60 } s m args below meth c (MQ below (QP G (PI fun r τ => Inv τ ∧ Fr MS_X12_bells_2 AS_X12_bells_2 σ τ ∧ IV r (-2147483648) 2147483647)) args s 0 0 (aG G)) 14 G 0 0 138 [some (.ref (G.1 22 0)), some (.int a1), some (.int 2), some (.int a3), some (.int 4), some (.int y5), some (.int y6), some (.int y7), none, none, none, none, none, none] [] τ := by
    intro n
    induction n with
    | zero => intro τ y5 y6 y7 iτ fτ b_a1 b_a3 b_y5 b_y6 b_y7 hm; exact absurd hm (Nat.not_lt_zero _)
    | succ n ih138 =>
      intro τ y5 y6 y7 iτ fτ b_a1 b_a3 b_y5 b_y6 b_y7 hm138
      refine m_iload C dX12_bells_138 rfl ?_
      refine m_iload C dX12_bells_140 rfl ?_
      refine m_icmp_ge (tgt := 285) C dX12_bells_142 (by decide) (fun c1 => ?_) (fun c1 => ?_)
      · have f2 : 4 ≤ y7.toInt := by
          have q : _ := c1
          simp only [ti_nle, ti_nlt, ti_le, ti_lt, ti_eq, ti_ne, Classical.not_not, kt_4] at q
          omega
        have b3 : IV y7 4 4 := ⟨by have q1 := kc_4; have q2 := b_y7; omega, by have q1 := kc_4; have q2 := b_y7; omega⟩
        refine m_iload_n C dX12_bells_285 rfl rfl ?_
        refine m_if_ge (tgt := 292) C dX12_bells_286 (by decide) (fun c4 => ?_) (fun c4 => ?_)
        · have f5 : 0 ≤ a3.toInt := by
            have q : _ := c4
            simp only [ti_nle, ti_nlt, ti_le, ti_lt, ti_eq, ti_ne, Classical.not_not, kt_0] at q
            omega
          have b6 : IV a3 0 2147483647 := ⟨by have q1 := kc_0; have q2 := b_a3; omega, by have q1 := kc_0; have q2 := b_a3; omega⟩
          refine m_iload C dX12_bells_292 rfl ?_
          refine m_istore (L1 := [some (.ref (G.1 22 0)), some (.int a1), some (.int 2), some (.int a3), some (.int 4), some (.int y5), some (.int y6), some (.int 4), none, none, none, none, none, none]) C dX12_bells_294 (by decide) rfl rfl ?_
          refine m_iconst (v := 0) C dX12_bells_296 (by decide) ?_
          refine m_istore (L1 := [some (.ref (G.1 22 0)), some (.int a1), some (.int 2), some (.int a3), some (.int 4), some (.int y5), some (.int y6), some (.int 4), some (.int 0), none, none, none, none, none]) C dX12_bells_297 (by decide) rfl rfl ?_
          refine m_iload C dX12_bells_299 rfl ?_
          refine m_iload_n C dX12_bells_301 rfl rfl ?_
          refine m_icmp_gt (tgt := 323) C dX12_bells_302 (by decide) (fun c7 => ?_) (fun c7 => ?_)
          · exfalso
            have q : _ := c7
            simp only [ti_nle, ti_nlt, ti_le, ti_lt, ti_eq, ti_ne, Classical.not_not, kt_0] at q
            have q1 := kc_0; have q2 := b6; omega
          · have f9 : 0 ≤ a3.toInt := by
              have q : _ := c7
              simp only [ti_nle, ti_nlt, ti_le, ti_lt, ti_eq, ti_ne, Classical.not_not, kt_0] at q
              omega
            refine m_iload C dX12_bells_305 rfl ?_
            refine m_iload_n C dX12_bells_307 rfl rfl ?_
            refine m_icmp_ge (tgt := 323) C dX12_bells_308 (by decide) (fun c10 => ?_) (fun c10 => ?_)
            · first | exact absurd c10 (by decide) | exact absurd (by decide) c10
            · have f12 : 0 < 2 := by
                have q : _ := c10
                simp only [ti_nle, ti_nlt, ti_le, ti_lt, ti_eq, ti_ne, Classical.not_not, kt_0, kt_2] at q
                omega
              refine m_iload C dX12_bells_311 rfl ?_
              refine m_iload_n C dX12_bells_313 rfl rfl ?_
              refine m_idiv C dX12_bells_314 (iv_nz kc_2 (by decide)) ?_
              refine m_topi (fun x13 ex13 => ?_)
              have b14 : IV x13 2 2 := by rw [ex13]; decide
              have tx13 : x13.toInt = 2 := by rw [ex13]; decide
              obtain rfl : x13 = 2 := by rw [ex13]; decide
              refine m_istore (L1 := [some (.ref (G.1 22 0)), some (.int a1), some (.int 2), some (.int a3), some (.int 4), some (.int y5), some (.int y6), some (.int 2), some (.int 0), none, none, none, none, none]) C dX12_bells_315 (by decide) rfl rfl ?_
              obtain ⟨x15, ex15⟩ : ∃ y : Int32, y = 0 + 1 := ⟨_, rfl⟩
              have b16 : IV x15 1 1 := by rw [ex15]; decide
              have tx15 : x15.toInt = 1 := by rw [ex15]; decide
              obtain rfl : x15 = 1 := by rw [ex15]; decide
              refine m_iinc (v := 1) (L1 := [some (.ref (G.1 22 0)), some (.int a1), some (.int 2), some (.int a3), some (.int 4), some (.int y5), some (.int y6), some (.int 2), some (.int 1), none, none, none, none, none]) C dX12_bells_317 rfl (by decide) (by decide) rfl rfl ?_
              refine m_goto (tgt := 299) C dX12_bells_320 (by decide) ?_
              refine m_iload C dX12_bells_299 rfl ?_
              refine m_iload_n C dX12_bells_301 rfl rfl ?_
              refine m_icmp_gt (tgt := 323) C dX12_bells_302 (by decide) (fun c17 => ?_) (fun c17 => ?_)
              · have f18 : a3.toInt < 1 := by
                  have q : _ := c17
                  simp only [ti_nle, ti_nlt, ti_le, ti_lt, ti_eq, ti_ne, Classical.not_not, kt_1] at q
                  omega
                have b19 : IV a3 0 0 := ⟨by have q1 := b6; have q2 := kc_1; omega, by have q1 := b6; have q2 := kc_1; omega⟩
                refine m_iload_n C dX12_bells_323 rfl rfl ?_
                refine m_iload_n C dX12_bells_324 rfl rfl ?_
                refine m_icmp_ge (tgt := 338) C dX12_bells_325 (by decide) (fun c20 => ?_) (fun c20 => ?_)
                · exfalso
                  have q : _ := c20
                  simp only [ti_nle, ti_nlt, ti_le, ti_lt, ti_eq, ti_ne, Classical.not_not, kt_2] at q
                  have q1 := b19; have q2 := kc_2; omega
                · have f22 : a3.toInt < 2 := by
                    have q : _ := c20
                    simp only [ti_nle, ti_nlt, ti_le, ti_lt, ti_eq, ti_ne, Classical.not_not, kt_2] at q
                    omega
                  refine m_iload C dX12_bells_328 rfl ?_
                  refine m_iload C dX12_bells_330 rfl ?_
                  refine m_idiv C dX12_bells_332 (iv_nz kc_2 (by decide)) ?_
                  refine m_topi (fun x23 ex23 => ?_)
                  refine m_iload_n C dX12_bells_333 rfl rfl ?_
                  refine m_irem C dX12_bells_334 (iv_nz kc_2 (by decide)) ?_
                  refine m_topi (fun x24 ex24 => ?_)
                  refine m_goto (tgt := 340) C dX12_bells_335 (by decide) ?_
                  exact m_iret C hr hlk (by decide) (by decide) dX12_bells_340 ⟨_, rfl, iτ, fτ, (iv_any x24)⟩
              · have f25 : 1 ≤ a3.toInt := by
                  have q : _ := c17
                  simp only [ti_nle, ti_nlt, ti_le, ti_lt, ti_eq, ti_ne, Classical.not_not, kt_1] at q
                  omega
                have b26 : IV a3 1 2147483647 := ⟨by have q1 := kc_1; have q2 := b6; omega, by have q1 := kc_1; have q2 := b6; omega⟩
                refine m_iload C dX12_bells_305 rfl ?_
                refine m_iload_n C dX12_bells_307 rfl rfl ?_
                refine m_icmp_ge (tgt := 323) C dX12_bells_308 (by decide) (fun c27 => ?_) (fun c27 => ?_)
                · first | exact absurd c27 (by decide) | exact absurd (by decide) c27
                · have f29 : 1 < 2 := by
                    have q : _ := c27
                    simp only [ti_nle, ti_nlt, ti_le, ti_lt, ti_eq, ti_ne, Classical.not_not, kt_1, kt_2] at q
                    omega
                  refine m_iload C dX12_bells_311 rfl ?_
                  refine m_iload_n C dX12_bells_313 rfl rfl ?_
                  refine m_idiv C dX12_bells_314 (iv_nz kc_2 (by decide)) ?_
                  refine m_topi (fun x30 ex30 => ?_)
                  have b31 : IV x30 1 1 := by rw [ex30]; decide
                  have tx30 : x30.toInt = 1 := by rw [ex30]; decide
                  obtain rfl : x30 = 1 := by rw [ex30]; decide
                  refine m_istore (L1 := [some (.ref (G.1 22 0)), some (.int a1), some (.int 2), some (.int a3), some (.int 4), some (.int y5), some (.int y6), some (.int 1), some (.int 1), none, none, none, none, none]) C dX12_bells_315 (by decide) rfl rfl ?_
                  obtain ⟨x32, ex32⟩ : ∃ y : Int32, y = 1 + 1 := ⟨_, rfl⟩
                  have b33 : IV x32 2 2 := by rw [ex32]; decide
                  have tx32 : x32.toInt = 2 := by rw [ex32]; decide
                  obtain rfl : x32 = 2 := by rw [ex32]; decide
                  refine m_iinc (v := 2) (L1 := [some (.ref (G.1 22 0)), some (.int a1), some (.int 2), some (.int a3), some (.int 4), some (.int y5), some (.int y6), some (.int 1), some (.int 2), none, none, none, none, none]) C dX12_bells_317 rfl (by decide) (by decide) rfl rfl ?_
                  refine m_goto (tgt := 299) C dX12_bells_320 (by decide) ?_
                  refine m_iload C dX12_bells_299 rfl ?_
                  refine m_iload_n C dX12_bells_301 rfl rfl ?_
                  refine m_icmp_gt (tgt := 323) C dX12_bells_302 (by decide) (fun c34 => ?_) (fun c34 => ?_)
                  · have f35 : a3.toInt < 2 := by
                      have q : _ := c34
                      simp only [ti_nle, ti_nlt, ti_le, ti_lt, ti_eq, ti_ne, Classical.not_not, kt_2] at q
                      omega
                    have b36 : IV a3 1 1 := ⟨by have q1 := b26; have q2 := kc_2; omega, by have q1 := b26; have q2 := kc_2; omega⟩
                    refine m_iload_n C dX12_bells_323 rfl rfl ?_
                    refine m_iload_n C dX12_bells_324 rfl rfl ?_
                    refine m_icmp_ge (tgt := 338) C dX12_bells_325 (by decide) (fun c37 => ?_) (fun c37 => ?_)
                    · exfalso
                      have q : _ := c37
                      simp only [ti_nle, ti_nlt, ti_le, ti_lt, ti_eq, ti_ne, Classical.not_not, kt_2] at q
                      have q1 := b36; have q2 := kc_2; omega
                    · have f39 : a3.toInt < 2 := by
                        have q : _ := c37
                        simp only [ti_nle, ti_nlt, ti_le, ti_lt, ti_eq, ti_ne, Classical.not_not, kt_2] at q
                        omega
                      refine m_iload C dX12_bells_328 rfl ?_
                      refine m_iload C dX12_bells_330 rfl ?_
                      refine m_idiv C dX12_bells_332 (iv_nz kc_1 (by decide)) ?_
                      refine m_topi (fun x40 ex40 => ?_)
                      refine m_iload_n C dX12_bells_333 rfl rfl ?_
                      refine m_irem C dX12_bells_334 (iv_nz kc_2 (by decide)) ?_
                      refine m_topi (fun x41 ex41 => ?_)
                      refine m_goto (tgt := 340) C dX12_bells_335 (by decide) ?_
                      exact m_iret C hr hlk (by decide) (by decide) dX12_bells_340 ⟨_, rfl, iτ, fτ, (iv_any x41)⟩
                  · have f42 : 2 ≤ a3.toInt := by
                      have q : _ := c34
                      simp only [ti_nle, ti_nlt, ti_le, ti_lt, ti_eq, ti_ne, Classical.not_not, kt_2] at q
                      omega
                    have b43 : IV a3 2 2147483647 := ⟨by have q1 := kc_2; have q2 := b26; omega, by have q1 := kc_2; have q2 := b26; omega⟩
                    refine m_iload C dX12_bells_305 rfl ?_
                    refine m_iload_n C dX12_bells_307 rfl rfl ?_
                    refine m_icmp_ge (tgt := 323) C dX12_bells_308 (by decide) (fun c44 => ?_) (fun c44 => ?_)
                    · have f45 : 2 ≤ 2 := by
                        have q : _ := c44
                        simp only [ti_nle, ti_nlt, ti_le, ti_lt, ti_eq, ti_ne, Classical.not_not, kt_2, kt_2] at q
                        omega
                      refine m_iload_n C dX12_bells_323 rfl rfl ?_
                      refine m_iload_n C dX12_bells_324 rfl rfl ?_
                      refine m_icmp_ge (tgt := 338) C dX12_bells_325 (by decide) (fun c46 => ?_) (fun c46 => ?_)
                      · have f47 : 2 ≤ a3.toInt := by
                          have q : _ := c46
                          simp only [ti_nle, ti_nlt, ti_le, ti_lt, ti_eq, ti_ne, Classical.not_not, kt_2] at q
                          omega
                        refine m_ldc (v := (-1000000)) C dX12_bells_338 q5_70 ?_
                        exact m_iret C hr hlk (by decide) (by decide) dX12_bells_340 ⟨_, rfl, iτ, fτ, (iv_wk kc_m1000000 (by decide))⟩
                      · exfalso
                        have q : _ := c46
                        simp only [ti_nle, ti_nlt, ti_le, ti_lt, ti_eq, ti_ne, Classical.not_not, kt_2] at q
                        have q1 := b43; have q2 := kc_2; omega
                    · first | exact absurd c44 (by decide) | exact absurd (by decide) c44
        · have f50 : a3.toInt < 0 := by
            have q : _ := c4
            simp only [ti_nle, ti_nlt, ti_le, ti_lt, ti_eq, ti_ne, Classical.not_not, kt_0] at q
            omega
          have b51 : IV a3 (-1) (-1) := ⟨by have q1 := b_a3; have q2 := kc_0; omega, by have q1 := b_a3; have q2 := kc_0; omega⟩
          refine m_iload C dX12_bells_289 rfl ?_
          exact m_iret C hr hlk (by decide) (by decide) dX12_bells_291 ⟨_, rfl, iτ, fτ, b_y6⟩
      · have f52 : y7.toInt < 4 := by
          have q : _ := c1
          simp only [ti_nle, ti_nlt, ti_le, ti_lt, ti_eq, ti_ne, Classical.not_not, kt_4] at q
          omega
        have b53 : IV y7 0 3 := ⟨by have q1 := b_y7; have q2 := kc_4; omega, by have q1 := b_y7; have q2 := kc_4; omega⟩
        refine m_iconst (v := 0) C dX12_bells_145 (by decide) ?_
        refine m_istore (L1 := [some (.ref (G.1 22 0)), some (.int a1), some (.int 2), some (.int a3), some (.int 4), some (.int y5), some (.int y6), some (.int y7), some (.int 0), none, none, none, none, none]) C dX12_bells_146 (by decide) rfl rfl ?_
        refine m_iload C dX12_bells_148 rfl ?_
        refine m_istore (L1 := [some (.ref (G.1 22 0)), some (.int a1), some (.int 2), some (.int a3), some (.int 4), some (.int y5), some (.int y6), some (.int y7), some (.int 0), some (.int 4), none, none, none, none]) C dX12_bells_150 (by decide) rfl rfl ?_
        refine m_iconst (v := 0) C dX12_bells_152 (by decide) ?_
        refine m_istore (L1 := [some (.ref (G.1 22 0)), some (.int a1), some (.int 2), some (.int a3), some (.int 4), some (.int y5), some (.int y6), some (.int y7), some (.int 0), some (.int 4), some (.int 0), none, none, none]) C dX12_bells_153 (by decide) rfl rfl ?_
        refine m_iconst (v := 0) C dX12_bells_155 (by decide) ?_
        refine m_istore (L1 := [some (.ref (G.1 22 0)), some (.int a1), some (.int 2), some (.int a3), some (.int 4), some (.int y5), some (.int y6), some (.int y7), some (.int 0), some (.int 4), some (.int 0), some (.int 0), none, none]) C dX12_bells_156 (by decide) rfl rfl ?_
        refine m_iconst (v := 0) C dX12_bells_158 (by decide) ?_
        refine m_istore (L1 := [some (.ref (G.1 22 0)), some (.int a1), some (.int 2), some (.int a3), some (.int 4), some (.int y5), some (.int y6), some (.int y7), some (.int 0), some (.int 4), some (.int 0), some (.int 0), some (.int 0), none]) C dX12_bells_159 (by decide) rfl rfl ?_
        refine m_iload C dX12_bells_161 rfl ?_
        refine m_iload_n C dX12_bells_163 rfl rfl ?_
        refine m_icmp_ge (tgt := 249) C dX12_bells_164 (by decide) (fun c54 => ?_) (fun c54 => ?_)
        · first | exact absurd c54 (by decide) | exact absurd (by decide) c54
        · have f56 : 0 < 2 := by
            have q : _ := c54
            simp only [ti_nle, ti_nlt, ti_le, ti_lt, ti_eq, ti_ne, Classical.not_not, kt_0, kt_2] at q
            omega
          refine m_iload C dX12_bells_167 rfl ?_
          refine m_iload_n C dX12_bells_169 rfl rfl ?_
          refine m_idiv C dX12_bells_170 (iv_nz kc_2 (by decide)) ?_
          refine m_topi (fun x57 ex57 => ?_)
          have b58 : IV x57 2 2 := by rw [ex57]; decide
          have tx57 : x57.toInt = 2 := by rw [ex57]; decide
          obtain rfl : x57 = 2 := by rw [ex57]; decide
          refine m_istore (L1 := [some (.ref (G.1 22 0)), some (.int a1), some (.int 2), some (.int a3), some (.int 4), some (.int y5), some (.int y6), some (.int y7), some (.int 0), some (.int 2), some (.int 0), some (.int 0), some (.int 0), none]) C dX12_bells_171 (by decide) rfl rfl ?_
          refine m_iload C dX12_bells_173 rfl ?_
          refine m_iload C dX12_bells_175 rfl ?_
          refine m_idiv C dX12_bells_177 (iv_nz kc_2 (by decide)) ?_
          refine m_topi (fun x59 ex59 => ?_)
          have b60 : IV x59 0 1 := by rw [ex59]; exact iv_div b53 kc_2 (by decide)
          refine m_iload_n C dX12_bells_178 rfl rfl ?_
          refine m_irem C dX12_bells_179 (iv_nz kc_2 (by decide)) ?_
          refine m_topi (fun x61 ex61 => ?_)
          have b62 : IV x61 0 1 := by rw [ex61]; exact iv_rem b60 kc_2 (by decide)
          refine m_istore (L1 := [some (.ref (G.1 22 0)), some (.int a1), some (.int 2), some (.int a3), some (.int 4), some (.int y5), some (.int y6), some (.int y7), some (.int 0), some (.int 2), some (.int 0), some (.int 0), some (.int 0), some (.int x61)]) C dX12_bells_180 (by decide) rfl rfl ?_
          refine m_iload C dX12_bells_182 rfl ?_
          refine m_iconst (v := 1) C dX12_bells_184 (by decide) ?_
          refine m_iload C dX12_bells_185 rfl ?_
          refine m_ishl C dX12_bells_187 ?_
          refine m_topi (fun x63 ex63 => ?_)
          have b64 : IV x63 1 2 := by rw [ex63]; exact iv_shl1 b62 (by decide)
          refine m_ior C dX12_bells_188 ?_
          refine m_topi (fun x65 ex65 => ?_)
          have b66 : IV x65 0 3 := by rw [ex65]; exact iv_or 2 kc_0 b64 (by decide)
          refine m_istore (L1 := [some (.ref (G.1 22 0)), some (.int a1), some (.int 2), some (.int a3), some (.int 4), some (.int y5), some (.int y6), some (.int y7), some (.int x65), some (.int 2), some (.int 0), some (.int 0), some (.int 0), some (.int x61)]) C dX12_bells_189 (by decide) rfl rfl ?_
          refine m_iload C dX12_bells_191 rfl ?_
          refine m_iload C dX12_bells_193 rfl ?_
          refine m_iconst (v := 2) C dX12_bells_195 (by decide) ?_
          refine m_irem C dX12_bells_196 (iv_nz kc_2 (by decide)) ?_
          refine m_topi (fun x67 ex67 => ?_)
          have b68 : IV x67 0 0 := by rw [ex67]; decide
          have tx67 : x67.toInt = 0 := by rw [ex67]; decide
          obtain rfl : x67 = 0 := by rw [ex67]; decide
          refine m_if_ne (tgt := 215) C dX12_bells_197 (by decide) (fun c69 => ?_) (fun c69 => ?_)
          · first | exact absurd c69 (by decide) | exact absurd (by decide) c69
          · have f71 : 0 = 0 := by
              have q : _ := c69
              simp only [ti_nle, ti_nlt, ti_le, ti_lt, ti_eq, ti_ne, Classical.not_not, kt_0, kt_0] at q
              omega
            refine m_aload_n C dX12_bells_200 rfl rfl ?_
            refine g_22_2 C q4_118 dX12_bells_201 ?_
            refine m_bipush (v := 40) C dX12_bells_204 (by decide) ?_
            refine m_iload_n C dX12_bells_206 rfl rfl ?_
            refine m_imul C dX12_bells_207 ?_
            refine m_topi (fun x72 ex72 => ?_)
            have tx72 : x72.toInt = 40 * a1.toInt := by rw [ex72, ti_mulv kc_40 b_a1 (by decide), kt_40]
            have b73 : IV x72 0 280 := by rw [ex72]; exact iv_mul kc_40 b_a1 (by decide)
            refine m_iload C dX12_bells_208 rfl ?_
            refine m_iadd C dX12_bells_210 ?_
            refine m_topi (fun x74 ex74 => ?_)
            have tx74 : x74.toInt = x72.toInt + x61.toInt := by rw [ex74, ti_addv b73 b62 (by decide)]
            have b75 : IV x74 0 281 := by rw [ex74]; exact iv_add b73 b62 (by decide)
            refine al_25 C b75 (by decide) rfl dX12_bells_211 ?_
            refine m_topi (fun x76 ex76 => ?_)
            refine m_goto (tgt := 228) C dX12_bells_212 (by decide) ?_
            refine m_iadd C dX12_bells_228 ?_
            refine m_topi (fun x77 ex77 => ?_)
            have tx77 : x77.toInt = 0 + x76.toInt := by rw [ex77, ti_addv kc_0 (iv_any x76) (by decide), kt_0]
            have b78 : IV x77 (-2147483648) 2147483647 := by rw [ex77]; exact iv_add kc_0 (iv_any x76) (by decide)
            refine m_istore (L1 := [some (.ref (G.1 22 0)), some (.int a1), some (.int 2), some (.int a3), some (.int 4), some (.int y5), some (.int y6), some (.int y7), some (.int x65), some (.int 2), some (.int x77), some (.int 0), some (.int 0), some (.int x61)]) C dX12_bells_229 (by decide) rfl rfl ?_
            refine m_iload C dX12_bells_231 rfl ?_
            refine m_iload C dX12_bells_233 rfl ?_
            refine m_callS (n := 1) (st := [.int 0]) C (c_X12_sizeOf l G τ (x77) iτ ) q5_96 q5_94 q5_95 q1_7 (by decide +kernel) rfl (by decide) (by decide) rfl (Nat.le_of_ble_eq_true rfl) dX12_bells_235 ?_
            rintro _ τ79 ⟨x82, rfl, i80, f81, b83⟩
            have g84 : Fr MS_X12_bells_2 AS_X12_bells_2 σ τ79 := Fr.call (fτ) f81 (by decide)
            show MW p l e _ s m args below meth c _ 14 G 0 0 238 [some (.ref (G.1 22 0)), some (.int a1), some (.int 2), some (.int a3), some (.int 4), some (.int y5), some (.int y6), some (.int y7), some (.int x65), some (.int 2), some (.int x77), some (.int 0), some (.int 0), some (.int x61)] [.int x82, .int 0] τ79
            refine m_callS (n := 2) (st := []) C (c_X12_greater l G τ79 (0) (x82) i80 ) q5_99 q5_97 q5_98 q1_7 (by decide +kernel) rfl (by decide) (by decide) rfl (Nat.le_of_ble_eq_true rfl) dX12_bells_238 ?_
            rintro _ τ86 ⟨x89, rfl, i87, f88, b90⟩
            have g91 : Fr MS_X12_bells_2 AS_X12_bells_2 σ τ86 := Fr.call (g84) f88 (by decide)
            show MW p l e _ s m args below meth c _ 14 G 0 0 241 [some (.ref (G.1 22 0)), some (.int a1), some (.int 2), some (.int a3), some (.int 4), some (.int y5), some (.int y6), some (.int y7), some (.int x65), some (.int 2), some (.int x77), some (.int 0), some (.int 0), some (.int x61)] [.int x89] τ86
            refine m_istore (L1 := [some (.ref (G.1 22 0)), some (.int a1), some (.int 2), some (.int a3), some (.int 4), some (.int y5), some (.int y6), some (.int y7), some (.int x65), some (.int 2), some (.int x77), some (.int x89), some (.int 0), some (.int x61)]) C dX12_bells_241 (by decide) rfl rfl ?_
            obtain ⟨x93, ex93⟩ : ∃ y : Int32, y = 0 + 1 := ⟨_, rfl⟩
            have b94 : IV x93 1 1 := by rw [ex93]; decide
            have tx93 : x93.toInt = 1 := by rw [ex93]; decide
            obtain rfl : x93 = 1 := by rw [ex93]; decide
            refine m_iinc (v := 1) (L1 := [some (.ref (G.1 22 0)), some (.int a1), some (.int 2), some (.int a3), some (.int 4), some (.int y5), some (.int y6), some (.int y7), some (.int x65), some (.int 2), some (.int x77), some (.int x89), some (.int 1), some (.int x61)]) C dX12_bells_243 rfl (by decide) (by decide) rfl rfl ?_
            refine m_goto (tgt := 161) C dX12_bells_246 (by decide) ?_
            refine m_iload C dX12_bells_161 rfl ?_
            refine m_iload_n C dX12_bells_163 rfl rfl ?_
            refine m_icmp_ge (tgt := 249) C dX12_bells_164 (by decide) (fun c95 => ?_) (fun c95 => ?_)
            · first | exact absurd c95 (by decide) | exact absurd (by decide) c95
            · have f97 : 1 < 2 := by
                have q : _ := c95
                simp only [ti_nle, ti_nlt, ti_le, ti_lt, ti_eq, ti_ne, Classical.not_not, kt_1, kt_2] at q
                omega
              refine m_iload C dX12_bells_167 rfl ?_
              refine m_iload_n C dX12_bells_169 rfl rfl ?_
              refine m_idiv C dX12_bells_170 (iv_nz kc_2 (by decide)) ?_
              refine m_topi (fun x98 ex98 => ?_)
              have b99 : IV x98 1 1 := by rw [ex98]; decide
              have tx98 : x98.toInt = 1 := by rw [ex98]; decide
              obtain rfl : x98 = 1 := by rw [ex98]; decide
              refine m_istore (L1 := [some (.ref (G.1 22 0)), some (.int a1), some (.int 2), some (.int a3), some (.int 4), some (.int y5), some (.int y6), some (.int y7), some (.int x65), some (.int 1), some (.int x77), some (.int x89), some (.int 1), some (.int x61)]) C dX12_bells_171 (by decide) rfl rfl ?_
              refine m_iload C dX12_bells_173 rfl ?_
              refine m_iload C dX12_bells_175 rfl ?_
              refine m_idiv C dX12_bells_177 (iv_nz kc_1 (by decide)) ?_
              refine m_topi (fun x100 ex100 => ?_)
              have b101 : IV x100 0 3 := by rw [ex100]; exact iv_div b53 kc_1 (by decide)
              refine m_iload_n C dX12_bells_178 rfl rfl ?_
              refine m_irem C dX12_bells_179 (iv_nz kc_2 (by decide)) ?_
              refine m_topi (fun x102 ex102 => ?_)
              have b103 : IV x102 0 1 := by rw [ex102]; exact iv_rem b101 kc_2 (by decide)
              refine m_istore (L1 := [some (.ref (G.1 22 0)), some (.int a1), some (.int 2), some (.int a3), some (.int 4), some (.int y5), some (.int y6), some (.int y7), some (.int x65), some (.int 1), some (.int x77), some (.int x89), some (.int 1), some (.int x102)]) C dX12_bells_180 (by decide) rfl rfl ?_
              refine m_iload C dX12_bells_182 rfl ?_
              refine m_iconst (v := 1) C dX12_bells_184 (by decide) ?_
              refine m_iload C dX12_bells_185 rfl ?_
              refine m_ishl C dX12_bells_187 ?_
              refine m_topi (fun x104 ex104 => ?_)
              have b105 : IV x104 1 2 := by rw [ex104]; exact iv_shl1 b103 (by decide)
              refine m_ior C dX12_bells_188 ?_
              refine m_topi (fun x106 ex106 => ?_)
              have b107 : IV x106 0 3 := by rw [ex106]; exact iv_or 2 b66 b105 (by decide)
              refine m_istore (L1 := [some (.ref (G.1 22 0)), some (.int a1), some (.int 2), some (.int a3), some (.int 4), some (.int y5), some (.int y6), some (.int y7), some (.int x106), some (.int 1), some (.int x77), some (.int x89), some (.int 1), some (.int x102)]) C dX12_bells_189 (by decide) rfl rfl ?_
              refine m_iload C dX12_bells_191 rfl ?_
              refine m_iload C dX12_bells_193 rfl ?_
              refine m_iconst (v := 2) C dX12_bells_195 (by decide) ?_
              refine m_irem C dX12_bells_196 (iv_nz kc_2 (by decide)) ?_
              refine m_topi (fun x108 ex108 => ?_)
              have b109 : IV x108 1 1 := by rw [ex108]; decide
              have tx108 : x108.toInt = 1 := by rw [ex108]; decide
              obtain rfl : x108 = 1 := by rw [ex108]; decide
              refine m_if_ne (tgt := 215) C dX12_bells_197 (by decide) (fun c110 => ?_) (fun c110 => ?_)
              · have f111 : 1 ≠ 0 := by
                  have q : _ := c110
                  simp only [ti_nle, ti_nlt, ti_le, ti_lt, ti_eq, ti_ne, Classical.not_not, kt_1, kt_0] at q
                  omega
                refine m_aload_n C dX12_bells_215 rfl rfl ?_
                refine g_22_2 C q4_118 dX12_bells_216 ?_
                refine m_bipush (v := 40) C dX12_bells_219 (by decide) ?_
                refine m_iload_n C dX12_bells_221 rfl rfl ?_
                refine m_imul C dX12_bells_222 ?_
                refine m_topi (fun x112 ex112 => ?_)
                have tx112 : x112.toInt = 40 * a1.toInt := by rw [ex112, ti_mulv kc_40 b_a1 (by decide), kt_40]
                have b113 : IV x112 0 280 := by rw [ex112]; exact iv_mul kc_40 b_a1 (by decide)
                refine m_iload C dX12_bells_223 rfl ?_
                refine m_iadd C dX12_bells_225 ?_
                refine m_topi (fun x114 ex114 => ?_)
                have tx114 : x114.toInt = x112.toInt + x102.toInt := by rw [ex114, ti_addv b113 b103 (by decide)]
                have b115 : IV x114 0 281 := by rw [ex114]; exact iv_add b113 b103 (by decide)
                refine al_25 C b115 (by decide) rfl dX12_bells_226 ?_
                refine m_topi (fun x116 ex116 => ?_)
                refine m_ineg C dX12_bells_227 ?_
                refine m_topi (fun x117 ex117 => ?_)
                refine m_iadd C dX12_bells_228 ?_
                refine m_topi (fun x118 ex118 => ?_)
                refine m_istore (L1 := [some (.ref (G.1 22 0)), some (.int a1), some (.int 2), some (.int a3), some (.int 4), some (.int y5), some (.int y6), some (.int y7), some (.int x106), some (.int 1), some (.int x118), some (.int x89), some (.int 1), some (.int x102)]) C dX12_bells_229 (by decide) rfl rfl ?_
                refine m_iload C dX12_bells_231 rfl ?_
                refine m_iload C dX12_bells_233 rfl ?_
                refine m_callS (n := 1) (st := [.int x89]) C (c_X12_sizeOf l G τ86 (x118) i87 ) q5_96 q5_94 q5_95 q1_7 (by decide +kernel) rfl (by decide) (by decide) rfl (Nat.le_of_ble_eq_true rfl) dX12_bells_235 ?_
                rintro _ τ119 ⟨x122, rfl, i120, f121, b123⟩
                have g124 : Fr MS_X12_bells_2 AS_X12_bells_2 σ τ119 := Fr.call (g91) f121 (by decide)
                show MW p l e _ s m args below meth c _ 14 G 0 0 238 [some (.ref (G.1 22 0)), some (.int a1), some (.int 2), some (.int a3), some (.int 4), some (.int y5), some (.int y6), some (.int y7), some (.int x106), some (.int 1), some (.int x118), some (.int x89), some (.int 1), some (.int x102)] [.int x122, .int x89] τ119
                refine m_callS (n := 2) (st := []) C (c_X12_greater l G τ119 (x89) (x122) i120 ) q5_99 q5_97 q5_98 q1_7 (by decide +kernel) rfl (by decide) (by decide) rfl (Nat.le_of_ble_eq_true rfl) dX12_bells_238 ?_
                rintro _ τ126 ⟨x129, rfl, i127, f128, b130⟩
                have g131 : Fr MS_X12_bells_2 AS_X12_bells_2 σ τ126 := Fr.call (g124) f128 (by decide)
                show MW p l e _ s m args below meth c _ 14 G 0 0 241 [some (.ref (G.1 22 0)), some (.int a1), some (.int 2), some (.int a3), some (.int 4), some (.int y5), some (.int y6), some (.int y7), some (.int x106), some (.int 1), some (.int x118), some (.int x89), some (.int 1), some (.int x102)] [.int x129] τ126
                refine m_istore (L1 := [some (.ref (G.1 22 0)), some (.int a1), some (.int 2), some (.int a3), some (.int 4), some (.int y5), some (.int y6), some (.int y7), some (.int x106), some (.int 1), some (.int x118), some (.int x129), some (.int 1), some (.int x102)]) C dX12_bells_241 (by decide) rfl rfl ?_
                obtain ⟨x133, ex133⟩ : ∃ y : Int32, y = 1 + 1 := ⟨_, rfl⟩
                have b134 : IV x133 2 2 := by rw [ex133]; decide
                have tx133 : x133.toInt = 2 := by rw [ex133]; decide
                obtain rfl : x133 = 2 := by rw [ex133]; decide
                refine m_iinc (v := 2) (L1 := [some (.ref (G.1 22 0)), some (.int a1), some (.int 2), some (.int a3), some (.int 4), some (.int y5), some (.int y6), some (.int y7), some (.int x106), some (.int 1), some (.int x118), some (.int x129), some (.int 2), some (.int x102)]) C dX12_bells_243 rfl (by decide) (by decide) rfl rfl ?_
                refine m_goto (tgt := 161) C dX12_bells_246 (by decide) ?_
                refine m_iload C dX12_bells_161 rfl ?_
                refine m_iload_n C dX12_bells_163 rfl rfl ?_
                refine m_icmp_ge (tgt := 249) C dX12_bells_164 (by decide) (fun c135 => ?_) (fun c135 => ?_)
                · have f136 : 2 ≤ 2 := by
                    have q : _ := c135
                    simp only [ti_nle, ti_nlt, ti_le, ti_lt, ti_eq, ti_ne, Classical.not_not, kt_2, kt_2] at q
                    omega
                  refine m_iload C dX12_bells_249 rfl ?_
                  refine m_iconst (v := 1) C dX12_bells_251 (by decide) ?_
                  refine m_iload_n C dX12_bells_252 rfl rfl ?_
                  refine m_ishl C dX12_bells_253 ?_
                  refine m_topi (fun x137 ex137 => ?_)
                  have b138 : IV x137 4 4 := by rw [ex137]; decide
                  have tx137 : x137.toInt = 4 := by rw [ex137]; decide
                  obtain rfl : x137 = 4 := by rw [ex137]; decide
                  refine m_iconst (v := 1) C dX12_bells_254 (by decide) ?_
                  refine m_isub C dX12_bells_255 ?_
                  refine m_topi (fun x139 ex139 => ?_)
                  have b140 : IV x139 3 3 := by rw [ex139]; decide
                  have tx139 : x139.toInt = 3 := by rw [ex139]; decide
                  obtain rfl : x139 = 3 := by rw [ex139]; decide
                  refine m_icmp_ne (tgt := 279) C dX12_bells_256 (by decide) (fun c141 => ?_) (fun c141 => ?_)
                  · have f142 : x106.toInt ≠ 3 := by
                      have q : _ := c141
                      simp only [ti_nle, ti_nlt, ti_le, ti_lt, ti_eq, ti_ne, Classical.not_not, kt_3] at q
                      omega
                    have b143 : IV x106 0 2 := ⟨by have q1 := b107; have q2 := kc_3; omega, by have q1 := b107; have q2 := kc_3; omega⟩
                    obtain ⟨x144, ex144⟩ : ∃ y : Int32, y = y7 + 1 := ⟨_, rfl⟩
                    have tx144 : x144.toInt = y7.toInt + 1 := by rw [ex144, ti_addv b53 kc_1 (by decide), kt_1]
                    have b145 : IV x144 1 4 := by rw [ex144]; exact iv_add b53 kc_1 (by decide)
                    refine m_iinc (v := x144) (L1 := [some (.ref (G.1 22 0)), some (.int a1), some (.int 2), some (.int a3), some (.int 4), some (.int y5), some (.int y6), some (.int x144), some (.int x106), some (.int 1), some (.int x118), some (.int x129), some (.int 2), some (.int x102)]) C dX12_bells_279 rfl (by rw [ex144]; rfl) (by decide) rfl rfl ?_
                    refine m_goto (tgt := 138) C dX12_bells_282 (by decide) ?_
                    refine m_sub (L1 := [some (.ref (G.1 22 0)), some (.int a1), some (.int 2), some (.int a3), some (.int 4), some (.int y5), some (.int y6), some (.int x144), none, none, none, none, none, none]) ⟨rfl, ⟨rfl, ⟨rfl, ⟨rfl, ⟨rfl, ⟨rfl, ⟨rfl, ⟨rfl, trivial⟩⟩⟩⟩⟩⟩⟩⟩ ?_
                    exact ih138 τ126 y5 y6 x144 i127 g131 b_a1 b_a3 b_y5 b_y6 (iv_wk b145 (by decide)) (by have q := hm138; omega)
                  · have f146 : x106.toInt = 3 := by
                      have q : _ := c141
                      simp only [ti_nle, ti_nlt, ti_le, ti_lt, ti_eq, ti_ne, Classical.not_not, kt_3] at q
                      omega
                    have b147 : IV x106 3 3 := ⟨by have q1 := b107; have q2 := kc_3; omega, by have q1 := b107; have q2 := kc_3; omega⟩
                    refine m_iload C dX12_bells_259 rfl ?_
                    refine m_if_lt (tgt := 271) C dX12_bells_261 (by decide) (fun c148 => ?_) (fun c148 => ?_)
                    · have f149 : y5.toInt < 0 := by
                        have q : _ := c148
                        simp only [ti_nle, ti_nlt, ti_le, ti_lt, ti_eq, ti_ne, Classical.not_not, kt_0] at q
                        omega
                      have b150 : IV y5 (-1) (-1) := ⟨by have q1 := b_y5; have q2 := kc_0; omega, by have q1 := b_y5; have q2 := kc_0; omega⟩
                      refine m_iload C dX12_bells_271 rfl ?_
                      refine m_istore (L1 := [some (.ref (G.1 22 0)), some (.int a1), some (.int 2), some (.int a3), some (.int 4), some (.int y7), some (.int y6), some (.int y7), some (.int x106), some (.int 1), some (.int x118), some (.int x129), some (.int 2), some (.int x102)]) C dX12_bells_273 (by decide) rfl rfl ?_
                      refine m_iload C dX12_bells_275 rfl ?_
                      refine m_istore (L1 := [some (.ref (G.1 22 0)), some (.int a1), some (.int 2), some (.int a3), some (.int 4), some (.int y7), some (.int x129), some (.int y7), some (.int x106), some (.int 1), some (.int x118), some (.int x129), some (.int 2), some (.int x102)]) C dX12_bells_277 (by decide) rfl rfl ?_
                      obtain ⟨x151, ex151⟩ : ∃ y : Int32, y = y7 + 1 := ⟨_, rfl⟩
                      have tx151 : x151.toInt = y7.toInt + 1 := by rw [ex151, ti_addv b53 kc_1 (by decide), kt_1]
                      have b152 : IV x151 1 4 := by rw [ex151]; exact iv_add b53 kc_1 (by decide)
                      refine m_iinc (v := x151) (L1 := [some (.ref (G.1 22 0)), some (.int a1), some (.int 2), some (.int a3), some (.int 4), some (.int y7), some (.int x129), some (.int x151), some (.int x106), some (.int 1), some (.int x118), some (.int x129), some (.int 2), some (.int x102)]) C dX12_bells_279 rfl (by rw [ex151]; rfl) (by decide) rfl rfl ?_
                      refine m_goto (tgt := 138) C dX12_bells_282 (by decide) ?_
                      refine m_sub (L1 := [some (.ref (G.1 22 0)), some (.int a1), some (.int 2), some (.int a3), some (.int 4), some (.int y7), some (.int x129), some (.int x151), none, none, none, none, none, none]) ⟨rfl, ⟨rfl, ⟨rfl, ⟨rfl, ⟨rfl, ⟨rfl, ⟨rfl, ⟨rfl, trivial⟩⟩⟩⟩⟩⟩⟩⟩ ?_
                      exact ih138 τ126 y7 x129 x151 i127 g131 b_a1 b_a3 (iv_wk b53 (by decide)) b130 (iv_wk b152 (by decide)) (by have q := hm138; omega)
                    · have f153 : 0 ≤ y5.toInt := by
                        have q : _ := c148
                        simp only [ti_nle, ti_nlt, ti_le, ti_lt, ti_eq, ti_ne, Classical.not_not, kt_0] at q
                        omega
                      have b154 : IV y5 0 3 := ⟨by have q1 := kc_0; have q2 := b_y5; omega, by have q1 := kc_0; have q2 := b_y5; omega⟩
                      refine m_iload C dX12_bells_264 rfl ?_
                      refine m_iload C dX12_bells_266 rfl ?_
                      refine m_icmp_ge (tgt := 279) C dX12_bells_268 (by decide) (fun c155 => ?_) (fun c155 => ?_)
                      · have f156 : y6.toInt ≤ x129.toInt := by
                          have q : _ := c155
                          simp only [ti_nle, ti_nlt, ti_le, ti_lt, ti_eq, ti_ne, Classical.not_not] at q
                          omega
                        obtain ⟨x157, ex157⟩ : ∃ y : Int32, y = y7 + 1 := ⟨_, rfl⟩
                        have tx157 : x157.toInt = y7.toInt + 1 := by rw [ex157, ti_addv b53 kc_1 (by decide), kt_1]
                        have b158 : IV x157 1 4 := by rw [ex157]; exact iv_add b53 kc_1 (by decide)
                        refine m_iinc (v := x157) (L1 := [some (.ref (G.1 22 0)), some (.int a1), some (.int 2), some (.int a3), some (.int 4), some (.int y5), some (.int y6), some (.int x157), some (.int x106), some (.int 1), some (.int x118), some (.int x129), some (.int 2), some (.int x102)]) C dX12_bells_279 rfl (by rw [ex157]; rfl) (by decide) rfl rfl ?_
                        refine m_goto (tgt := 138) C dX12_bells_282 (by decide) ?_
                        refine m_sub (L1 := [some (.ref (G.1 22 0)), some (.int a1), some (.int 2), some (.int a3), some (.int 4), some (.int y5), some (.int y6), some (.int x157), none, none, none, none, none, none]) ⟨rfl, ⟨rfl, ⟨rfl, ⟨rfl, ⟨rfl, ⟨rfl, ⟨rfl, ⟨rfl, trivial⟩⟩⟩⟩⟩⟩⟩⟩ ?_
                        exact ih138 τ126 y5 y6 x157 i127 g131 b_a1 b_a3 (iv_wk b154 (by decide)) b_y6 (iv_wk b158 (by decide)) (by have q := hm138; omega)
                      · have f159 : x129.toInt < y6.toInt := by
                          have q : _ := c155
                          simp only [ti_nle, ti_nlt, ti_le, ti_lt, ti_eq, ti_ne, Classical.not_not] at q
                          omega
                        have b160 : IV x129 (-2147483648) 2147483646 := ⟨by have q1 := b130; have q2 := b_y6; omega, by have q1 := b130; have q2 := b_y6; omega⟩
                        have b161 : IV y6 (-2147483647) 2147483647 := ⟨by have q1 := b130; have q2 := b_y6; omega, by have q1 := b130; have q2 := b_y6; omega⟩
                        refine m_iload C dX12_bells_271 rfl ?_
                        refine m_istore (L1 := [some (.ref (G.1 22 0)), some (.int a1), some (.int 2), some (.int a3), some (.int 4), some (.int y7), some (.int y6), some (.int y7), some (.int x106), some (.int 1), some (.int x118), some (.int x129), some (.int 2), some (.int x102)]) C dX12_bells_273 (by decide) rfl rfl ?_
                        refine m_iload C dX12_bells_275 rfl ?_
                        refine m_istore (L1 := [some (.ref (G.1 22 0)), some (.int a1), some (.int 2), some (.int a3), some (.int 4), some (.int y7), some (.int x129), some (.int y7), some (.int x106), some (.int 1), some (.int x118), some (.int x129), some (.int 2), some (.int x102)]) C dX12_bells_277 (by decide) rfl rfl ?_
                        obtain ⟨x162, ex162⟩ : ∃ y : Int32, y = y7 + 1 := ⟨_, rfl⟩
                        have tx162 : x162.toInt = y7.toInt + 1 := by rw [ex162, ti_addv b53 kc_1 (by decide), kt_1]
                        have b163 : IV x162 1 4 := by rw [ex162]; exact iv_add b53 kc_1 (by decide)
                        refine m_iinc (v := x162) (L1 := [some (.ref (G.1 22 0)), some (.int a1), some (.int 2), some (.int a3), some (.int 4), some (.int y7), some (.int x129), some (.int x162), some (.int x106), some (.int 1), some (.int x118), some (.int x129), some (.int 2), some (.int x102)]) C dX12_bells_279 rfl (by rw [ex162]; rfl) (by decide) rfl rfl ?_
                        refine m_goto (tgt := 138) C dX12_bells_282 (by decide) ?_
                        refine m_sub (L1 := [some (.ref (G.1 22 0)), some (.int a1), some (.int 2), some (.int a3), some (.int 4), some (.int y7), some (.int x129), some (.int x162), none, none, none, none, none, none]) ⟨rfl, ⟨rfl, ⟨rfl, ⟨rfl, ⟨rfl, ⟨rfl, ⟨rfl, ⟨rfl, trivial⟩⟩⟩⟩⟩⟩⟩⟩ ?_
                        exact ih138 τ126 y7 x129 x162 i127 g131 b_a1 b_a3 (iv_wk b53 (by decide)) (iv_wk b160 (by decide)) (iv_wk b163 (by decide)) (by have q := hm138; omega)
                · first | exact absurd c135 (by decide) | exact absurd (by decide) c135
              · first | exact absurd c110 (by decide) | exact absurd (by decide) c110
  have J61 : ∀ (n : Nat) (τ : Sg) (y4 : Int32), Inv τ → Fr MS_X12_bells_2 AS_X12_bells_2 σ τ → IV a1 0 7 → IV a3 (-1) 2147483647 → IV y4 0 2 → (2 - y4.toInt).toNat < n → MW p l e { frames := 2, cells := 0, slots := 0, locals := 60 } s m args below meth c (MQ below (QP G (PI fun r τ => Inv τ ∧ Fr MS_X12_bells_2 AS_X12_bells_2 σ τ ∧ IV r (-2147483648) 2147483647)) args s 0 0 (aG G)) 14 G 0 0 61 [some (.ref (G.1 22 0)), some (.int a1), some (.int 2), some (.int a3), some (.int y4), none, none, none, none, none, none, none, none, none] [] τ := by
    intro n
    induction n with
    | zero => intro τ y4 iτ fτ b_a1 b_a3 b_y4 hm; exact absurd hm (Nat.not_lt_zero _)
    | succ n ih61 =>
      intro τ y4 iτ fτ b_a1 b_a3 b_y4 hm61
      refine m_iload C dX12_bells_61 rfl ?_
      refine m_iload_n C dX12_bells_63 rfl rfl ?_
      refine m_icmp_ge (tgt := 99) C dX12_bells_64 (by decide) (fun c166 => ?_) (fun c166 => ?_)
      · have f167 : 2 ≤ y4.toInt := by
          have q : _ := c166
          simp only [ti_nle, ti_nlt, ti_le, ti_lt, ti_eq, ti_ne, Classical.not_not, kt_2] at q
          omega
        have b168 : IV y4 2 2 := ⟨by have q1 := kc_2; have q2 := b_y4; omega, by have q1 := kc_2; have q2 := b_y4; omega⟩
        refine m_aload_n C dX12_bells_99 rfl rfl ?_
        refine m_iconst (v := 0) C dX12_bells_100 (by decide) ?_
        refine m_callV (n := 1) (ci := 11) (st := []) C (c_X12_fine l G τ (0) iτ ) (by decide) (by decide) rfl rfl rfl q4_201 q4_198 q4_200 q0_27 q1_7 (by decide +kernel) rfl (by decide) (by decide) rfl (Nat.le_of_ble_eq_true rfl) dX12_bells_101 ?_
        rintro _ τ169 ⟨x172, rfl, i170, f171, b173, h175⟩
        have g174 : Fr MS_X12_bells_2 AS_X12_bells_2 σ τ169 := Fr.call (fτ) f171 (by decide)
        have q176 := kt_0
        show MW p l e _ s m args below meth c _ 14 G 0 0 104 [some (.ref (G.1 22 0)), some (.int a1), some (.int 2), some (.int a3), some (.int y4), none, none, none, none, none, none, none, none, none] [.int x172] τ169
        refine m_pop C dX12_bells_104 rfl ?_
        refine m_iconst (v := 1) C dX12_bells_105 (by decide) ?_
        refine m_istore (L1 := [some (.ref (G.1 22 0)), some (.int a1), some (.int 2), some (.int a3), some (.int 1), none, none, none, none, none, none, none, none, none]) C dX12_bells_106 (by decide) rfl rfl ?_
        refine m_iconst (v := 0) C dX12_bells_108 (by decide) ?_
        refine m_istore (L1 := [some (.ref (G.1 22 0)), some (.int a1), some (.int 2), some (.int a3), some (.int 1), some (.int 0), none, none, none, none, none, none, none, none]) C dX12_bells_109 (by decide) rfl rfl ?_
        refine m_iload C dX12_bells_111 rfl ?_
        refine m_iload_n C dX12_bells_113 rfl rfl ?_
        refine m_icmp_ge (tgt := 129) C dX12_bells_114 (by decide) (fun c177 => ?_) (fun c177 => ?_)
        · first | exact absurd c177 (by decide) | exact absurd (by decide) c177
        · have f179 : 0 < 2 := by
            have q : _ := c177
            simp only [ti_nle, ti_nlt, ti_le, ti_lt, ti_eq, ti_ne, Classical.not_not, kt_0, kt_2] at q
            omega
          refine m_iload C dX12_bells_117 rfl ?_
          refine m_iload_n C dX12_bells_119 rfl rfl ?_
          refine m_imul C dX12_bells_120 ?_
          refine m_topi (fun x180 ex180 => ?_)
          have b181 : IV x180 2 2 := by rw [ex180]; decide
          have tx180 : x180.toInt = 2 := by rw [ex180]; decide
          obtain rfl : x180 = 2 := by rw [ex180]; decide
          refine m_istore (L1 := [some (.ref (G.1 22 0)), some (.int a1), some (.int 2), some (.int a3), some (.int 2), some (.int 0), none, none, none, none, none, none, none, none]) C dX12_bells_121 (by decide) rfl rfl ?_
          obtain ⟨x182, ex182⟩ : ∃ y : Int32, y = 0 + 1 := ⟨_, rfl⟩
          have b183 : IV x182 1 1 := by rw [ex182]; decide
          have tx182 : x182.toInt = 1 := by rw [ex182]; decide
          obtain rfl : x182 = 1 := by rw [ex182]; decide
          refine m_iinc (v := 1) (L1 := [some (.ref (G.1 22 0)), some (.int a1), some (.int 2), some (.int a3), some (.int 2), some (.int 1), none, none, none, none, none, none, none, none]) C dX12_bells_123 rfl (by decide) (by decide) rfl rfl ?_
          refine m_goto (tgt := 111) C dX12_bells_126 (by decide) ?_
          refine m_iload C dX12_bells_111 rfl ?_
          refine m_iload_n C dX12_bells_113 rfl rfl ?_
          refine m_icmp_ge (tgt := 129) C dX12_bells_114 (by decide) (fun c184 => ?_) (fun c184 => ?_)
          · first | exact absurd c184 (by decide) | exact absurd (by decide) c184
          · have f186 : 1 < 2 := by
              have q : _ := c184
              simp only [ti_nle, ti_nlt, ti_le, ti_lt, ti_eq, ti_ne, Classical.not_not, kt_1, kt_2] at q
              omega
            refine m_iload C dX12_bells_117 rfl ?_
            refine m_iload_n C dX12_bells_119 rfl rfl ?_
            refine m_imul C dX12_bells_120 ?_
            refine m_topi (fun x187 ex187 => ?_)
            have b188 : IV x187 4 4 := by rw [ex187]; decide
            have tx187 : x187.toInt = 4 := by rw [ex187]; decide
            obtain rfl : x187 = 4 := by rw [ex187]; decide
            refine m_istore (L1 := [some (.ref (G.1 22 0)), some (.int a1), some (.int 2), some (.int a3), some (.int 4), some (.int 1), none, none, none, none, none, none, none, none]) C dX12_bells_121 (by decide) rfl rfl ?_
            obtain ⟨x189, ex189⟩ : ∃ y : Int32, y = 1 + 1 := ⟨_, rfl⟩
            have b190 : IV x189 2 2 := by rw [ex189]; decide
            have tx189 : x189.toInt = 2 := by rw [ex189]; decide
            obtain rfl : x189 = 2 := by rw [ex189]; decide
            refine m_iinc (v := 2) (L1 := [some (.ref (G.1 22 0)), some (.int a1), some (.int 2), some (.int a3), some (.int 4), some (.int 2), none, none, none, none, none, none, none, none]) C dX12_bells_123 rfl (by decide) (by decide) rfl rfl ?_
            refine m_goto (tgt := 111) C dX12_bells_126 (by decide) ?_
            refine m_iload C dX12_bells_111 rfl ?_
            refine m_iload_n C dX12_bells_113 rfl rfl ?_
            refine m_icmp_ge (tgt := 129) C dX12_bells_114 (by decide) (fun c191 => ?_) (fun c191 => ?_)
            · have f192 : 2 ≤ 2 := by
                have q : _ := c191
                simp only [ti_nle, ti_nlt, ti_le, ti_lt, ti_eq, ti_ne, Classical.not_not, kt_2, kt_2] at q
                omega
              refine m_iconst (v := (-1)) C dX12_bells_129 (by decide) ?_
              refine m_istore (L1 := [some (.ref (G.1 22 0)), some (.int a1), some (.int 2), some (.int a3), some (.int 4), some (.int (-1)), none, none, none, none, none, none, none, none]) C dX12_bells_130 (by decide) rfl rfl ?_
              refine m_iconst (v := 0) C dX12_bells_132 (by decide) ?_
              refine m_istore (L1 := [some (.ref (G.1 22 0)), some (.int a1), some (.int 2), some (.int a3), some (.int 4), some (.int (-1)), some (.int 0), none, none, none, none, none, none, none]) C dX12_bells_133 (by decide) rfl rfl ?_
              refine m_iconst (v := 0) C dX12_bells_135 (by decide) ?_
              refine m_istore (L1 := [some (.ref (G.1 22 0)), some (.int a1), some (.int 2), some (.int a3), some (.int 4), some (.int (-1)), some (.int 0), some (.int 0), none, none, none, none, none, none]) C dX12_bells_136 (by decide) rfl rfl ?_
              exact J138 ((4 - (0 : Int32).toInt).toNat + 1) τ169 (-1) 0 0 i170 g174 b_a1 b_a3 (iv_wk kc_m1 (by decide)) (iv_wk kc_0 (by decide)) (iv_wk kc_0 (by decide)) (Nat.lt_succ_self _)
            · first | exact absurd c191 (by decide) | exact absurd (by decide) c191
      · have f194 : y4.toInt < 2 := by
          have q : _ := c166
          simp only [ti_nle, ti_nlt, ti_le, ti_lt, ti_eq, ti_ne, Classical.not_not, kt_2] at q
          omega
        have b195 : IV y4 0 1 := ⟨by have q1 := b_y4; have q2 := kc_2; omega, by have q1 := b_y4; have q2 := kc_2; omega⟩
        refine m_aload_n C dX12_bells_67 rfl rfl ?_
        refine g_22_2 C q4_118 dX12_bells_68 ?_
        refine m_bipush (v := 40) C dX12_bells_71 (by decide) ?_
        refine m_iload_n C dX12_bells_73 rfl rfl ?_
        refine m_imul C dX12_bells_74 ?_
        refine m_topi (fun x196 ex196 => ?_)
        have tx196 : x196.toInt = 40 * a1.toInt := by rw [ex196, ti_mulv kc_40 b_a1 (by decide), kt_40]
        have b197 : IV x196 0 280 := by rw [ex196]; exact iv_mul kc_40 b_a1 (by decide)
        refine m_iload C dX12_bells_75 rfl ?_
        refine m_iadd C dX12_bells_77 ?_
        refine m_topi (fun x198 ex198 => ?_)
        have tx198 : x198.toInt = x196.toInt + y4.toInt := by rw [ex198, ti_addv b197 b195 (by decide)]
        have b199 : IV x198 0 281 := by rw [ex198]; exact iv_add b197 b195 (by decide)
        refine al_25 C b199 (by decide) rfl dX12_bells_78 ?_
        refine m_topi (fun x200 ex200 => ?_)
        refine m_i2l C dX12_bells_79 ?_
        refine m_lconst (v := 1) C dX12_bells_80 (by decide) ?_
        refine m_ldc2 (v := 20) C dX12_bells_81 q5_174 ?_
        refine m_callS (n := 3) (st := []) C (c_X12_in l G τ ((x200 : Int32).toInt64) (1) (20) iτ ) q4_190 q4_188 q4_189 q1_7 (by decide +kernel) rfl (by decide) (by decide) rfl (Nat.le_of_ble_eq_true rfl) dX12_bells_84 ?_
        rintro _ τ201 ⟨x204, rfl, i202, f203, b205, h207⟩
        have g206 : Fr MS_X12_bells_2 AS_X12_bells_2 σ τ201 := Fr.call (fτ) f203 (by decide)
        have f208 := tl_i x200
        have f209 := kl_1
        have f210 := kl_20
        show MW p l e _ s m args below meth c _ 14 G 0 0 87 [some (.ref (G.1 22 0)), some (.int a1), some (.int 2), some (.int a3), some (.int y4), none, none, none, none, none, none, none, none, none] [.int x204] τ201
        refine m_if_ne (tgt := 93) C dX12_bells_87 (by decide) (fun c211 => ?_) (fun c211 => ?_)
        · have f212 : x204.toInt ≠ 0 := by
            have q : _ := c211
            simp only [ti_nle, ti_nlt, ti_le, ti_lt, ti_eq, ti_ne, Classical.not_not, kt_0] at q
            omega
          have b213 : IV x204 1 1 := ⟨by have q1 := b205; have q2 := kc_0; omega, by have q1 := b205; have q2 := kc_0; omega⟩
          have b214 : IV x200 1 20 := ⟨by have q1 := (iv_any x200); omega, by have q1 := (iv_any x200); omega⟩
          obtain ⟨x215, ex215⟩ : ∃ y : Int32, y = y4 + 1 := ⟨_, rfl⟩
          have tx215 : x215.toInt = y4.toInt + 1 := by rw [ex215, ti_addv b195 kc_1 (by decide), kt_1]
          have b216 : IV x215 1 2 := by rw [ex215]; exact iv_add b195 kc_1 (by decide)
          refine m_iinc (v := x215) (L1 := [some (.ref (G.1 22 0)), some (.int a1), some (.int 2), some (.int a3), some (.int x215), none, none, none, none, none, none, none, none, none]) C dX12_bells_93 rfl (by rw [ex215]; rfl) (by decide) rfl rfl ?_
          refine m_goto (tgt := 61) C dX12_bells_96 (by decide) ?_
          exact ih61 τ201 x215 i202 g206 b_a1 b_a3 (iv_wk b216 (by decide)) (by have q := hm61; omega)
        · have f217 : x204.toInt = 0 := by
            have q : _ := c211
            simp only [ti_nle, ti_nlt, ti_le, ti_lt, ti_eq, ti_ne, Classical.not_not, kt_0] at q
            omega
          have b218 : IV x204 0 0 := ⟨by have q1 := b205; have q2 := kc_0; omega, by have q1 := b205; have q2 := kc_0; omega⟩
          refine m_ldc (v := (-1000001)) C dX12_bells_90 q4_192 ?_
          exact m_iret C hr hlk (by decide) (by decide) dX12_bells_92 ⟨_, rfl, i202, g206, (iv_wk kc_m1000001 (by decide))⟩
  refine m_iload_n C dX12_bells_0 rfl rfl ?_
  refine m_callS (n := 1) (st := []) C (c_X12_isRow l G σ (a1) hI ) q4_186 q4_184 q4_185 q1_7 (by decide +kernel) rfl (by decide) (by decide) rfl (Nat.le_of_ble_eq_true rfl) dX12_bells_1 ?_
  rintro _ τ219 ⟨x222, rfl, i220, f221, b223, h225⟩
  have g224 : Fr MS_X12_bells_2 AS_X12_bells_2 σ τ219 := Fr.call (Fr.rf) f221 (by decide)
  show MW p l e _ s m args below meth c _ 14 G 0 0 4 [some (.ref (G.1 22 0)), some (.int a1), some (.int 2), some (.int a3), none, none, none, none, none, none, none, none, none, none] [.int x222] τ219
  refine m_if_eq (tgt := 24) C dX12_bells_4 (by decide) (fun c226 => ?_) (fun c226 => ?_)
  · have f227 : x222.toInt = 0 := by
      have q : _ := c226
      simp only [ti_nle, ti_nlt, ti_le, ti_lt, ti_eq, ti_ne, Classical.not_not, kt_0] at q
      omega
    have b228 : IV x222 0 0 := ⟨by have q1 := b223; have q2 := kc_0; omega, by have q1 := b223; have q2 := kc_0; omega⟩
    refine m_ldc (v := (-1000001)) C dX12_bells_24 q4_192 ?_
    exact m_iret C hr hlk (by decide) (by decide) dX12_bells_26 ⟨_, rfl, i220, g224, (iv_wk kc_m1000001 (by decide))⟩
  · have f229 : x222.toInt ≠ 0 := by
      have q : _ := c226
      simp only [ti_nle, ti_nlt, ti_le, ti_lt, ti_eq, ti_ne, Classical.not_not, kt_0] at q
      omega
    have b230 : IV x222 1 1 := ⟨by have q1 := b223; have q2 := kc_0; omega, by have q1 := b223; have q2 := kc_0; omega⟩
    have b231 : IV a1 0 7 := ⟨by have q1 := (iv_any a1); omega, by have q1 := (iv_any a1); omega⟩
    refine m_iload_n C dX12_bells_7 rfl rfl ?_
    refine m_i2l C dX12_bells_8 ?_
    refine m_lconst (v := 1) C dX12_bells_9 (by decide) ?_
    refine m_ldc2 (v := 5) C dX12_bells_10 q5_173 ?_
    refine m_callS (n := 3) (st := []) C (c_X12_in l G τ219 ((2 : Int32).toInt64) (1) (5) i220 ) q4_190 q4_188 q4_189 q1_7 (by decide +kernel) rfl (by decide) (by decide) rfl (Nat.le_of_ble_eq_true rfl) dX12_bells_13 ?_
    rintro _ τ232 ⟨x235, rfl, i233, f234, b236, h238⟩
    have g237 : Fr MS_X12_bells_2 AS_X12_bells_2 σ τ232 := Fr.call (g224) f234 (by decide)
    have f239 := tl_i 2
    have kf239 := kt_2
    have f240 := kl_1
    have f241 := kl_5
    show MW p l e _ s m args below meth c _ 14 G 0 0 16 [some (.ref (G.1 22 0)), some (.int a1), some (.int 2), some (.int a3), none, none, none, none, none, none, none, none, none, none] [.int x235] τ232
    refine m_if_eq (tgt := 24) C dX12_bells_16 (by decide) (fun c242 => ?_) (fun c242 => ?_)
    · have f243 : x235.toInt = 0 := by
        have q : _ := c242
        simp only [ti_nle, ti_nlt, ti_le, ti_lt, ti_eq, ti_ne, Classical.not_not, kt_0] at q
        omega
      have b244 : IV x235 0 0 := ⟨by have q1 := b236; have q2 := kc_0; omega, by have q1 := b236; have q2 := kc_0; omega⟩
      refine m_ldc (v := (-1000001)) C dX12_bells_24 q4_192 ?_
      exact m_iret C hr hlk (by decide) (by decide) dX12_bells_26 ⟨_, rfl, i233, g237, (iv_wk kc_m1000001 (by decide))⟩
    · have f245 : x235.toInt ≠ 0 := by
        have q : _ := c242
        simp only [ti_nle, ti_nlt, ti_le, ti_lt, ti_eq, ti_ne, Classical.not_not, kt_0] at q
        omega
      have b246 : IV x235 1 1 := ⟨by have q1 := b236; have q2 := kc_0; omega, by have q1 := b236; have q2 := kc_0; omega⟩
      refine m_iload_n C dX12_bells_19 rfl rfl ?_
      refine m_iconst (v := (-1)) C dX12_bells_20 (by decide) ?_
      refine m_icmp_ge (tgt := 27) C dX12_bells_21 (by decide) (fun c247 => ?_) (fun c247 => ?_)
      · have f248 : -1 ≤ a3.toInt := by
          have q : _ := c247
          simp only [ti_nle, ti_nlt, ti_le, ti_lt, ti_eq, ti_ne, Classical.not_not, kt_m1] at q
          omega
        have b249 : IV a3 (-1) 2147483647 := ⟨by have q1 := kc_m1; have q2 := (iv_any a3); omega, by have q1 := kc_m1; have q2 := (iv_any a3); omega⟩
        refine m_aload_n C dX12_bells_27 rfl rfl ?_
        refine g_22_3 C q4_119 dX12_bells_28 ?_
        refine m_iload_n C dX12_bells_31 rfl rfl ?_
        refine al_26 C b231 (by decide) rfl dX12_bells_32 ?_
        refine m_topi (fun x250 ex250 => ?_)
        refine m_if_ge (tgt := 42) C dX12_bells_33 (by decide) (fun c251 => ?_) (fun c251 => ?_)
        · have f252 : 0 ≤ x250.toInt := by
            have q : _ := c251
            simp only [ti_nle, ti_nlt, ti_le, ti_lt, ti_eq, ti_ne, Classical.not_not, kt_0] at q
            omega
          have b253 : IV x250 0 2147483647 := ⟨by have q1 := kc_0; have q2 := (iv_any x250); omega, by have q1 := kc_0; have q2 := (iv_any x250); omega⟩
          refine m_aload_n C dX12_bells_42 rfl rfl ?_
          refine g_22_4 C q4_120 dX12_bells_43 ?_
          refine m_iload_n C dX12_bells_46 rfl rfl ?_
          refine al_27 C b231 (by decide) rfl dX12_bells_47 ?_
          refine m_topi (fun x254 ex254 => ?_)
          have b255 : IV x254 0 40 := by rw [ex254]; exact i233.1 27 0 _
          refine m_iload_n C dX12_bells_48 rfl rfl ?_
          refine m_icmp_ge (tgt := 58) C dX12_bells_49 (by decide) (fun c256 => ?_) (fun c256 => ?_)
          · have f257 : 2 ≤ x254.toInt := by
              have q : _ := c256
              simp only [ti_nle, ti_nlt, ti_le, ti_lt, ti_eq, ti_ne, Classical.not_not, kt_2] at q
              omega
            have b258 : IV x254 2 40 := ⟨by have q1 := kc_2; have q2 := b255; omega, by have q1 := kc_2; have q2 := b255; omega⟩
            refine m_iconst (v := 0) C dX12_bells_58 (by decide) ?_
            refine m_istore (L1 := [some (.ref (G.1 22 0)), some (.int a1), some (.int 2), some (.int a3), some (.int 0), none, none, none, none, none, none, none, none, none]) C dX12_bells_59 (by decide) rfl rfl ?_
            exact J61 ((2 - (0 : Int32).toInt).toNat + 1) τ232 0 i233 g237 b231 b249 (iv_wk kc_0 (by decide)) (Nat.lt_succ_self _)
          · have f259 : x254.toInt < 2 := by
              have q : _ := c256
              simp only [ti_nle, ti_nlt, ti_le, ti_lt, ti_eq, ti_ne, Classical.not_not, kt_2] at q
              omega
            have b260 : IV x254 0 1 := ⟨by have q1 := b255; have q2 := kc_2; omega, by have q1 := b255; have q2 := kc_2; omega⟩
            refine m_aload_n C dX12_bells_52 rfl rfl ?_
            refine m_iconst (v := 2) C dX12_bells_53 (by decide) ?_
            refine m_callV (n := 1) (ci := 11) (st := []) C (c_X12_met l G τ232 (2) i233 (iv_wk kc_2 (by decide))) (by decide) (by decide) rfl rfl rfl q4_196 q4_193 q4_195 q0_26 q1_7 (by decide +kernel) rfl (by decide) (by decide) rfl (Nat.le_of_ble_eq_true rfl) dX12_bells_54 ?_
            rintro _ τ261 ⟨x264, rfl, i262, f263, b265, h267⟩
            have g266 : Fr MS_X12_bells_2 AS_X12_bells_2 σ τ261 := Fr.call (g237) f263 (by decide)
            have q268 := kt_2
            show MW p l e _ s m args below meth c _ 14 G 0 0 57 [some (.ref (G.1 22 0)), some (.int a1), some (.int 2), some (.int a3), none, none, none, none, none, none, none, none, none, none] [.int x264] τ261
            exact m_iret C hr hlk (by decide) (by decide) dX12_bells_57 ⟨_, rfl, i262, g266, (iv_wk b265 (by decide))⟩
        · have f269 : x250.toInt < 0 := by
            have q : _ := c251
            simp only [ti_nle, ti_nlt, ti_le, ti_lt, ti_eq, ti_ne, Classical.not_not, kt_0] at q
            omega
          have b270 : IV x250 (-2147483648) (-1) := ⟨by have q1 := (iv_any x250); have q2 := kc_0; omega, by have q1 := (iv_any x250); have q2 := kc_0; omega⟩
          refine m_aload_n C dX12_bells_36 rfl rfl ?_
          refine m_iconst (v := 1) C dX12_bells_37 (by decide) ?_
          refine m_callV (n := 1) (ci := 11) (st := []) C (c_X12_met l G τ232 (1) i233 (iv_wk kc_1 (by decide))) (by decide) (by decide) rfl rfl rfl q4_196 q4_193 q4_195 q0_26 q1_7 (by decide +kernel) rfl (by decide) (by decide) rfl (Nat.le_of_ble_eq_true rfl) dX12_bells_38 ?_
          rintro _ τ271 ⟨x274, rfl, i272, f273, b275, h277⟩
          have g276 : Fr MS_X12_bells_2 AS_X12_bells_2 σ τ271 := Fr.call (g237) f273 (by decide)
          have q278 := kt_1
          show MW p l e _ s m args below meth c _ 14 G 0 0 41 [some (.ref (G.1 22 0)), some (.int a1), some (.int 2), some (.int a3), none, none, none, none, none, none, none, none, none, none] [.int x274] τ271
          exact m_iret C hr hlk (by decide) (by decide) dX12_bells_41 ⟨_, rfl, i272, g276, (iv_wk b275 (by decide))⟩
      · have f279 : a3.toInt < -1 := by
          have q : _ := c247
          simp only [ti_nle, ti_nlt, ti_le, ti_lt, ti_eq, ti_ne, Classical.not_not, kt_m1] at q
          omega
        have b280 : IV a3 (-2147483648) (-2) := ⟨by have q1 := (iv_any a3); have q2 := kc_m1; omega, by have q1 := (iv_any a3); have q2 := kc_m1; omega⟩
        refine m_ldc (v := (-1000001)) C dX12_bells_24 q4_192 ?_
        exact m_iret C hr hlk (by decide) (by decide) dX12_bells_26 ⟨_, rfl, i233, g237, (iv_wk kc_m1000001 (by decide))⟩

abbrev MS_X12_bells_3 : List (Nat × Nat) := [(22, 8)]
abbrev AS_X12_bells_3 : List Nat := []
set_option maxHeartbeats 4000000 in
set_option maxRecDepth 100000 in
theorem c_X12_bells_3 (l : Launch) (G : Gt) (σ : Sg) (a1 : Int32) (a3 : Int32) (hI : Inv σ) : Mc l G yX12_bells cX12_bells 14 (some .int) 2 60 0 0 [.ref (G.1 22 0), .int a1, .int 3, .int a3] σ (PI fun r τ => Inv τ ∧ Fr MS_X12_bells_3 AS_X12_bells_3 σ τ ∧ IV r (-2147483648) 2147483647) := by
  refine Mc.of (L0 := [some (.ref (G.1 22 0)), some (.int a1), some (.int 3), some (.int a3), none, none, none, none, none, none, none, none, none, none]) (by decide) (Nat.le_of_ble_eq_true rfl) rfl ?_
  intro p e s m args below meth c C hr hlk
  have C : Cx p s m args c cX12_bells 14 "LeanTowerModel" := C
  have k0 : (0 : Int32).toInt = 0 := by decide
  have k1 : (1 : Int32).toInt = 1 := by decide
  have J138 : ∀ (n : Nat) (τ : Sg) (y5 : Int32) (y6 : Int32) (y7 : Int32), Inv τ → Fr MS_X12_bells_3 AS_X12_bells_3 σ τ → IV a1 0 7 → IV a3 (-1) 2147483647 → IV y5 (-1) 40 → IV y6 (-2147483648) 2147483647 → IV y7 0 27 → (27 - y7.toInt).toNat < n → MW p l e { frames := 2, cells := 0, slots := 0, locals := 60 } s m args below meth c (MQ below (QP G (PI fun r τ => Inv τ ∧ Fr MS_X12_bells_3 AS_X12_bells_3 σ τ ∧ IV r (-2147483648) 2147483647)) args s 0 0 (aG G)) 14 G 0 0 138 [some (.ref (G.1 22 0)), some (.int a1), some (.int 3), some (.int a3), some (.int 27), some (.int y5), some (.int y6), some (.int y7), none, none, none, none, none, none] [] τ := by
    intro n
    induction n with
    | zero => intro τ y5 y6 y7 iτ fτ b_a1 b_a3 b_y5 b_y6 b_y7 hm; exact absurd hm (Nat.not_lt_zero _)
    | succ n ih138 =>
      intro τ y5 y6 y7 iτ fτ b_a1 b_a3 b_y5 b_y6 b_y7 hm138
      refine m_iload C dX12_bells_138 rfl ?_
      refine m_iload C dX12_bells_140 rfl ?_
      refine m_icmp_ge (tgt := 285) C dX12_bells_142 (by decide) (fun c1 => ?_) (fun c1 => ?_)
      · have f2 : 27 ≤ y7.toInt := by
          have q : _ := c1
          simp only [ti_nle, ti_nlt, ti_le, ti_lt, ti_eq, ti_ne, Classical.not_not, kt_27] at q
          omega
        have b3 : IV y7 27 27 := ⟨by have q1 := kc_27; have q2 := b_y7; omega, by have q1 := kc_27; have q2 := b_y7; omega⟩
        refine m_iload_n C dX12_bells_285 rfl rfl ?_
        refine m_if_ge (tgt := 292) C dX12_bells_286 (by decide) (fun c4 => ?_) (fun c4 => ?_)
        · have f5 : 0 ≤ a3.toInt := by
            have q : _ := c4
            simp only [ti_nle, ti_nlt, ti_le, ti_lt, ti_eq, ti_ne, Classical.not_not, kt_0] at q
            omega
          have b6 : IV a3 0 2147483647 := ⟨by have q1 := kc_0; have q2 := b_a3; omega, by have q1 := kc_0; have q2 := b_a3; omega⟩
          refine m_iload C dX12_bells_292 rfl ?_
          refine m_istore (L1 := [some (.ref (G.1 22 0)), some (.int a1), some (.int 3), some (.int a3), some (.int 27), some (.int y5), some (.int y6), some (.int 27), none, none, none, none, none, none]) C dX12_bells_294 (by decide) rfl rfl ?_
          refine m_iconst (v := 0) C dX12_bells_296 (by decide) ?_
          refine m_istore (L1 := [some (.ref (G.1 22 0)), some (.int a1), some (.int 3), some (.int a3), some (.int 27), some (.int y5), some (.int y6), some (.int 27), some (.int 0), none, none, none, none, none]) C dX12_bells_297 (by decide) rfl rfl ?_
          refine m_iload C dX12_bells_299 rfl ?_
          refine m_iload_n C dX12_bells_301 rfl rfl ?_
          refine m_icmp_gt (tgt := 323) C dX12_bells_302 (by decide) (fun c7 => ?_) (fun c7 => ?_)
          · exfalso
            have q : _ := c7
            simp only [ti_nle, ti_nlt, ti_le, ti_lt, ti_eq, ti_ne, Classical.not_not, kt_0] at q
            have q1 := kc_0; have q2 := b6; omega
          · have f9 : 0 ≤ a3.toInt := by
              have q : _ := c7
              simp only [ti_nle, ti_nlt, ti_le, ti_lt, ti_eq, ti_ne, Classical.not_not, kt_0] at q
              omega
            refine m_iload C dX12_bells_305 rfl ?_
            refine m_iload_n C dX12_bells_307 rfl rfl ?_
            refine m_icmp_ge (tgt := 323) C dX12_bells_308 (by decide) (fun c10 => ?_) (fun c10 => ?_)
            · first | exact absurd c10 (by decide) | exact absurd (by decide) c10
            · have f12 : 0 < 3 := by
                have q : _ := c10
                simp only [ti_nle, ti_nlt, ti_le, ti_lt, ti_eq, ti_ne, Classical.not_not, kt_0, kt_3] at q
                omega
              refine m_iload C dX12_bells_311 rfl ?_
              refine m_iload_n C dX12_bells_313 rfl rfl ?_
              refine m_idiv C dX12_bells_314 (iv_nz kc_3 (by decide)) ?_
              refine m_topi (fun x13 ex13 => ?_)
              have b14 : IV x13 9 9 := by rw [ex13]; decide
              have tx13 : x13.toInt = 9 := by rw [ex13]; decide
              obtain rfl : x13 = 9 := by rw [ex13]; decide
              refine m_istore (L1 := [some (.ref (G.1 22 0)), some (.int a1), some (.int 3), some (.int a3), some (.int 27), some (.int y5), some (.int y6), some (.int 9), some (.int 0), none, none, none, none, none]) C dX12_bells_315 (by decide) rfl rfl ?_
              obtain ⟨x15, ex15⟩ : ∃ y : Int32, y = 0 + 1 := ⟨_, rfl⟩
              have b16 : IV x15 1 1 := by rw [ex15]; decide
              have tx15 : x15.toInt = 1 := by rw [ex15]; decide
              obtain rfl : x15 = 1 := by rw [ex15]; decide
              refine m_iinc (v := 1) (L1 := [some (.ref (G.1 22 0)), some (.int a1), some (.int 3), some (.int a3), some (.int 27), some (.int y5), some (.int y6), some (.int 9), some (.int 1), none, none, none, none, none]) C dX12_bells_317 rfl (by decide) (by decide) rfl rfl ?_
              refine m_goto (tgt := 299) C dX12_bells_320 (by decide) ?_
              refine m_iload C dX12_bells_299 rfl ?_
              refine m_iload_n C dX12_bells_301 rfl rfl ?_
              refine m_icmp_gt (tgt := 323) C dX12_bells_302 (by decide) (fun c17 => ?_) (fun c17 => ?_)
              · have f18 : a3.toInt < 1 := by
                  have q : _ := c17
                  simp only [ti_nle, ti_nlt, ti_le, ti_lt, ti_eq, ti_ne, Classical.not_not, kt_1] at q
                  omega
                have b19 : IV a3 0 0 := ⟨by have q1 := b6; have q2 := kc_1; omega, by have q1 := b6; have q2 := kc_1; omega⟩
                refine m_iload_n C dX12_bells_323 rfl rfl ?_
                refine m_iload_n C dX12_bells_324 rfl rfl ?_
                refine m_icmp_ge (tgt := 338) C dX12_bells_325 (by decide) (fun c20 => ?_) (fun c20 => ?_)
                · exfalso
                  have q : _ := c20
                  simp only [ti_nle, ti_nlt, ti_le, ti_lt, ti_eq, ti_ne, Classical.not_not, kt_3] at q
                  have q1 := b19; have q2 := kc_3; omega
                · have f22 : a3.toInt < 3 := by
                    have q : _ := c20
                    simp only [ti_nle, ti_nlt, ti_le, ti_lt, ti_eq, ti_ne, Classical.not_not, kt_3] at q
                    omega
                  refine m_iload C dX12_bells_328 rfl ?_
                  refine m_iload C dX12_bells_330 rfl ?_
                  refine m_idiv C dX12_bells_332 (iv_nz kc_9 (by decide)) ?_
                  refine m_topi (fun x23 ex23 => ?_)
                  refine m_iload_n C dX12_bells_333 rfl rfl ?_
                  refine m_irem C dX12_bells_334 (iv_nz kc_3 (by decide)) ?_
                  refine m_topi (fun x24 ex24 => ?_)
                  refine m_goto (tgt := 340) C dX12_bells_335 (by decide) ?_
                  exact m_iret C hr hlk (by decide) (by decide) dX12_bells_340 ⟨_, rfl, iτ, fτ, (iv_any x24)⟩
              · have f25 : 1 ≤ a3.toInt := by
                  have q : _ := c17
                  simp only [ti_nle, ti_nlt, ti_le, ti_lt, ti_eq, ti_ne, Classical.not_not, kt_1] at q
                  omega
                have b26 : IV a3 1 2147483647 := ⟨by have q1 := kc_1; have q2 := b6; omega, by have q1 := kc_1; have q2 := b6; omega⟩
                refine m_iload C dX12_bells_305 rfl ?_
                refine m_iload_n C dX12_bells_307 rfl rfl ?_
                refine m_icmp_ge (tgt := 323) C dX12_bells_308 (by decide) (fun c27 => ?_) (fun c27 => ?_)
                · first | exact absurd c27 (by decide) | exact absurd (by decide) c27
                · have f29 : 1 < 3 := by
                    have q : _ := c27
                    simp only [ti_nle, ti_nlt, ti_le, ti_lt, ti_eq, ti_ne, Classical.not_not, kt_1, kt_3] at q
                    omega
                  refine m_iload C dX12_bells_311 rfl ?_
                  refine m_iload_n C dX12_bells_313 rfl rfl ?_
                  refine m_idiv C dX12_bells_314 (iv_nz kc_3 (by decide)) ?_
                  refine m_topi (fun x30 ex30 => ?_)
                  have b31 : IV x30 3 3 := by rw [ex30]; decide
                  have tx30 : x30.toInt = 3 := by rw [ex30]; decide
                  obtain rfl : x30 = 3 := by rw [ex30]; decide
                  refine m_istore (L1 := [some (.ref (G.1 22 0)), some (.int a1), some (.int 3), some (.int a3), some (.int 27), some (.int y5), some (.int y6), some (.int 3), some (.int 1), none, none, none, none, none]) C dX12_bells_315 (by decide) rfl rfl ?_
                  obtain ⟨x32, ex32⟩ : ∃ y : Int32, y = 1 + 1 := ⟨_, rfl⟩
                  have b33 : IV x32 2 2 := by rw [ex32]; decide
                  have tx32 : x32.toInt = 2 := by rw [ex32]; decide
                  obtain rfl : x32 = 2 := by rw [ex32]; decide
                  refine m_iinc (v := 2) (L1 := [some (.ref (G.1 22 0)), some (.int a1), some (.int 3), some (.int a3), some (.int 27), some (.int y5), some (.int y6), some (.int 3), some (.int 2), none, none, none, none, none]) C dX12_bells_317 rfl (by decide) (by decide) rfl rfl ?_
                  refine m_goto (tgt := 299) C dX12_bells_320 (by decide) ?_
                  refine m_iload C dX12_bells_299 rfl ?_
                  refine m_iload_n C dX12_bells_301 rfl rfl ?_
                  refine m_icmp_gt (tgt := 323) C dX12_bells_302 (by decide) (fun c34 => ?_) (fun c34 => ?_)
                  · have f35 : a3.toInt < 2 := by
                      have q : _ := c34
                      simp only [ti_nle, ti_nlt, ti_le, ti_lt, ti_eq, ti_ne, Classical.not_not, kt_2] at q
                      omega
                    have b36 : IV a3 1 1 := ⟨by have q1 := b26; have q2 := kc_2; omega, by have q1 := b26; have q2 := kc_2; omega⟩
                    refine m_iload_n C dX12_bells_323 rfl rfl ?_
                    refine m_iload_n C dX12_bells_324 rfl rfl ?_
                    refine m_icmp_ge (tgt := 338) C dX12_bells_325 (by decide) (fun c37 => ?_) (fun c37 => ?_)
                    · exfalso
                      have q : _ := c37
                      simp only [ti_nle, ti_nlt, ti_le, ti_lt, ti_eq, ti_ne, Classical.not_not, kt_3] at q
                      have q1 := b36; have q2 := kc_3; omega
                    · have f39 : a3.toInt < 3 := by
                        have q : _ := c37
                        simp only [ti_nle, ti_nlt, ti_le, ti_lt, ti_eq, ti_ne, Classical.not_not, kt_3] at q
                        omega
                      refine m_iload C dX12_bells_328 rfl ?_
                      refine m_iload C dX12_bells_330 rfl ?_
                      refine m_idiv C dX12_bells_332 (iv_nz kc_3 (by decide)) ?_
                      refine m_topi (fun x40 ex40 => ?_)
                      refine m_iload_n C dX12_bells_333 rfl rfl ?_
                      refine m_irem C dX12_bells_334 (iv_nz kc_3 (by decide)) ?_
                      refine m_topi (fun x41 ex41 => ?_)
                      refine m_goto (tgt := 340) C dX12_bells_335 (by decide) ?_
                      exact m_iret C hr hlk (by decide) (by decide) dX12_bells_340 ⟨_, rfl, iτ, fτ, (iv_any x41)⟩
                  · have f42 : 2 ≤ a3.toInt := by
                      have q : _ := c34
                      simp only [ti_nle, ti_nlt, ti_le, ti_lt, ti_eq, ti_ne, Classical.not_not, kt_2] at q
                      omega
                    have b43 : IV a3 2 2147483647 := ⟨by have q1 := kc_2; have q2 := b26; omega, by have q1 := kc_2; have q2 := b26; omega⟩
                    refine m_iload C dX12_bells_305 rfl ?_
                    refine m_iload_n C dX12_bells_307 rfl rfl ?_
                    refine m_icmp_ge (tgt := 323) C dX12_bells_308 (by decide) (fun c44 => ?_) (fun c44 => ?_)
                    · first | exact absurd c44 (by decide) | exact absurd (by decide) c44
                    · have f46 : 2 < 3 := by
                        have q : _ := c44
                        simp only [ti_nle, ti_nlt, ti_le, ti_lt, ti_eq, ti_ne, Classical.not_not, kt_2, kt_3] at q
                        omega
                      refine m_iload C dX12_bells_311 rfl ?_
                      refine m_iload_n C dX12_bells_313 rfl rfl ?_
                      refine m_idiv C dX12_bells_314 (iv_nz kc_3 (by decide)) ?_
                      refine m_topi (fun x47 ex47 => ?_)
                      have b48 : IV x47 1 1 := by rw [ex47]; decide
                      have tx47 : x47.toInt = 1 := by rw [ex47]; decide
                      obtain rfl : x47 = 1 := by rw [ex47]; decide
                      refine m_istore (L1 := [some (.ref (G.1 22 0)), some (.int a1), some (.int 3), some (.int a3), some (.int 27), some (.int y5), some (.int y6), some (.int 1), some (.int 2), none, none, none, none, none]) C dX12_bells_315 (by decide) rfl rfl ?_
                      obtain ⟨x49, ex49⟩ : ∃ y : Int32, y = 2 + 1 := ⟨_, rfl⟩
                      have b50 : IV x49 3 3 := by rw [ex49]; decide
                      have tx49 : x49.toInt = 3 := by rw [ex49]; decide
                      obtain rfl : x49 = 3 := by rw [ex49]; decide
                      refine m_iinc (v := 3) (L1 := [some (.ref (G.1 22 0)), some (.int a1), some (.int 3), some (.int a3), some (.int 27), some (.int y5), some (.int y6), some (.int 1), some (.int 3), none, none, none, none, none]) C dX12_bells_317 rfl (by decide) (by decide) rfl rfl ?_
                      refine m_goto (tgt := 299) C dX12_bells_320 (by decide) ?_
                      refine m_iload C dX12_bells_299 rfl ?_
                      refine m_iload_n C dX12_bells_301 rfl rfl ?_
                      refine m_icmp_gt (tgt := 323) C dX12_bells_302 (by decide) (fun c51 => ?_) (fun c51 => ?_)
                      · have f52 : a3.toInt < 3 := by
                          have q : _ := c51
                          simp only [ti_nle, ti_nlt, ti_le, ti_lt, ti_eq, ti_ne, Classical.not_not, kt_3] at q
                          omega
                        have b53 : IV a3 2 2 := ⟨by have q1 := b43; have q2 := kc_3; omega, by have q1 := b43; have q2 := kc_3; omega⟩
                        refine m_iload_n C dX12_bells_323 rfl rfl ?_
                        refine m_iload_n C dX12_bells_324 rfl rfl ?_
                        refine m_icmp_ge (tgt := 338) C dX12_bells_325 (by decide) (fun c54 => ?_) (fun c54 => ?_)
                        · exfalso
                          have q : _ := c54
                          simp only [ti_nle, ti_nlt, ti_le, ti_lt, ti_eq, ti_ne, Classical.not_not, kt_3] at q
                          have q1 := b53; have q2 := kc_3; omega
                        · have f56 : a3.toInt < 3 := by
                            have q : _ := c54
                            simp only [ti_nle, ti_nlt, ti_le, ti_lt, ti_eq, ti_ne, Classical.not_not, kt_3] at q
                            omega
                          refine m_iload C dX12_bells_328 rfl ?_
                          refine m_iload C dX12_bells_330 rfl ?_
                          refine m_idiv C dX12_bells_332 (iv_nz kc_1 (by decide)) ?_
                          refine m_topi (fun x57 ex57 => ?_)
                          refine m_iload_n C dX12_bells_333 rfl rfl ?_
                          refine m_irem C dX12_bells_334 (iv_nz kc_3 (by decide)) ?_
                          refine m_topi (fun x58 ex58 => ?_)
                          refine m_goto (tgt := 340) C dX12_bells_335 (by decide) ?_
                          exact m_iret C hr hlk (by decide) (by decide) dX12_bells_340 ⟨_, rfl, iτ, fτ, (iv_any x58)⟩
                      · have f59 : 3 ≤ a3.toInt := by
                          have q : _ := c51
                          simp only [ti_nle, ti_nlt, ti_le, ti_lt, ti_eq, ti_ne, Classical.not_not, kt_3] at q
                          omega
                        have b60 : IV a3 3 2147483647 := ⟨by have q1 := kc_3; have q2 := b43; omega, by have q1 := kc_3; have q2 := b43; omega⟩
                        refine m_iload C dX12_bells_305 rfl ?_
                        refine m_iload_n C dX12_bells_307 rfl rfl ?_
                        refine m_icmp_ge (tgt := 323) C dX12_bells_308 (by decide) (fun c61 => ?_) (fun c61 => ?_)
                        · have f62 : 3 ≤ 3 := by
                            have q : _ := c61
                            simp only [ti_nle, ti_nlt, ti_le, ti_lt, ti_eq, ti_ne, Classical.not_not, kt_3, kt_3] at q
                            omega
                          refine m_iload_n C dX12_bells_323 rfl rfl ?_
                          refine m_iload_n C dX12_bells_324 rfl rfl ?_
                          refine m_icmp_ge (tgt := 338) C dX12_bells_325 (by decide) (fun c63 => ?_) (fun c63 => ?_)
                          · have f64 : 3 ≤ a3.toInt := by
                              have q : _ := c63
                              simp only [ti_nle, ti_nlt, ti_le, ti_lt, ti_eq, ti_ne, Classical.not_not, kt_3] at q
                              omega
                            refine m_ldc (v := (-1000000)) C dX12_bells_338 q5_70 ?_
                            exact m_iret C hr hlk (by decide) (by decide) dX12_bells_340 ⟨_, rfl, iτ, fτ, (iv_wk kc_m1000000 (by decide))⟩
                          · exfalso
                            have q : _ := c63
                            simp only [ti_nle, ti_nlt, ti_le, ti_lt, ti_eq, ti_ne, Classical.not_not, kt_3] at q
                            have q1 := b60; have q2 := kc_3; omega
                        · first | exact absurd c61 (by decide) | exact absurd (by decide) c61
        · have f67 : a3.toInt < 0 := by
            have q : _ := c4
            simp only [ti_nle, ti_nlt, ti_le, ti_lt, ti_eq, ti_ne, Classical.not_not, kt_0] at q
            omega
          have b68 : IV a3 (-1) (-1) := ⟨by have q1 := b_a3; have q2 := kc_0; omega, by have q1 := b_a3; have q2 := kc_0; omega⟩
          refine m_iload C dX12_bells_289 rfl ?_
          exact m_iret C hr hlk (by decide) (by decide) dX12_bells_291 ⟨_, rfl, iτ, fτ, b_y6⟩
      · have f69 : y7.toInt < 27 := by
          have q : _ := c1
          simp only [ti_nle, ti_nlt, ti_le, ti_lt, ti_eq, ti_ne, Classical.not_not, kt_27] at q
          omega
        have b70 : IV y7 0 26 := ⟨by have q1 := b_y7; have q2 := kc_27; omega, by have q1 := b_y7; have q2 := kc_27; omega⟩
        refine m_iconst (v := 0) C dX12_bells_145 (by decide) ?_
        refine m_istore (L1 := [some (.ref (G.1 22 0)), some (.int a1), some (.int 3), some (.int a3), some (.int 27), some (.int y5), some (.int y6), some (.int y7), some (.int 0), none, none, none, none, none]) C dX12_bells_146 (by decide) rfl rfl ?_
        refine m_iload C dX12_bells_148 rfl ?_
        refine m_istore (L1 := [some (.ref (G.1 22 0)), some (.int a1), some (.int 3), some (.int a3), some (.int 27), some (.int y5), some (.int y6), some (.int y7), some (.int 0), some (.int 27), none, none, none, none]) C dX12_bells_150 (by decide) rfl rfl ?_
        refine m_iconst (v := 0) C dX12_bells_152 (by decide) ?_
        refine m_istore (L1 := [some (.ref (G.1 22 0)), some (.int a1), some (.int 3), some (.int a3), some (.int 27), some (.int y5), some (.int y6), some (.int y7), some (.int 0), some (.int 27), some (.int 0), none, none, none]) C dX12_bells_153 (by decide) rfl rfl ?_
        refine m_iconst (v := 0) C dX12_bells_155 (by decide) ?_
        refine m_istore (L1 := [some (.ref (G.1 22 0)), some (.int a1), some (.int 3), some (.int a3), some (.int 27), some (.int y5), some (.int y6), some (.int y7), some (.int 0), some (.int 27), some (.int 0), some (.int 0), none, none]) C dX12_bells_156 (by decide) rfl rfl ?_
        refine m_iconst (v := 0) C dX12_bells_158 (by decide) ?_
        refine m_istore (L1 := [some (.ref (G.1 22 0)), some (.int a1), some (.int 3), some (.int a3), some (.int 27), some (.int y5), some (.int y6), some (.int y7), some (.int 0), some (.int 27), some (.int 0), some (.int 0), some (.int 0), none]) C dX12_bells_159 (by decide) rfl rfl ?_
        refine m_iload C dX12_bells_161 rfl ?_
        refine m_iload_n C dX12_bells_163 rfl rfl ?_
        refine m_icmp_ge (tgt := 249) C dX12_bells_164 (by decide) (fun c71 => ?_) (fun c71 => ?_)
        · first | exact absurd c71 (by decide) | exact absurd (by decide) c71
        · have f73 : 0 < 3 := by
            have q : _ := c71
            simp only [ti_nle, ti_nlt, ti_le, ti_lt, ti_eq, ti_ne, Classical.not_not, kt_0, kt_3] at q
            omega
          refine m_iload C dX12_bells_167 rfl ?_
          refine m_iload_n C dX12_bells_169 rfl rfl ?_
          refine m_idiv C dX12_bells_170 (iv_nz kc_3 (by decide)) ?_
          refine m_topi (fun x74 ex74 => ?_)
          have b75 : IV x74 9 9 := by rw [ex74]; decide
          have tx74 : x74.toInt = 9 := by rw [ex74]; decide
          obtain rfl : x74 = 9 := by rw [ex74]; decide
          refine m_istore (L1 := [some (.ref (G.1 22 0)), some (.int a1), some (.int 3), some (.int a3), some (.int 27), some (.int y5), some (.int y6), some (.int y7), some (.int 0), some (.int 9), some (.int 0), some (.int 0), some (.int 0), none]) C dX12_bells_171 (by decide) rfl rfl ?_
          refine m_iload C dX12_bells_173 rfl ?_
          refine m_iload C dX12_bells_175 rfl ?_
          refine m_idiv C dX12_bells_177 (iv_nz kc_9 (by decide)) ?_
          refine m_topi (fun x76 ex76 => ?_)
          have b77 : IV x76 0 2 := by rw [ex76]; exact iv_div b70 kc_9 (by decide)
          refine m_iload_n C dX12_bells_178 rfl rfl ?_
          refine m_irem C dX12_bells_179 (iv_nz kc_3 (by decide)) ?_
          refine m_topi (fun x78 ex78 => ?_)
          have b79 : IV x78 0 2 := by rw [ex78]; exact iv_rem b77 kc_3 (by decide)
          refine m_istore (L1 := [some (.ref (G.1 22 0)), some (.int a1), some (.int 3), some (.int a3), some (.int 27), some (.int y5), some (.int y6), some (.int y7), some (.int 0), some (.int 9), some (.int 0), some (.int 0), some (.int 0), some (.int x78)]) C dX12_bells_180 (by decide) rfl rfl ?_
          refine m_iload C dX12_bells_182 rfl ?_
          refine m_iconst (v := 1) C dX12_bells_184 (by decide) ?_
          refine m_iload C dX12_bells_185 rfl ?_
          refine m_ishl C dX12_bells_187 ?_
          refine m_topi (fun x80 ex80 => ?_)
          have b81 : IV x80 1 4 := by rw [ex80]; exact iv_shl1 b79 (by decide)
          refine m_ior C dX12_bells_188 ?_
          refine m_topi (fun x82 ex82 => ?_)
          have b83 : IV x82 0 7 := by rw [ex82]; exact iv_or 3 kc_0 b81 (by decide)
          refine m_istore (L1 := [some (.ref (G.1 22 0)), some (.int a1), some (.int 3), some (.int a3), some (.int 27), some (.int y5), some (.int y6), some (.int y7), some (.int x82), some (.int 9), some (.int 0), some (.int 0), some (.int 0), some (.int x78)]) C dX12_bells_189 (by decide) rfl rfl ?_
          refine m_iload C dX12_bells_191 rfl ?_
          refine m_iload C dX12_bells_193 rfl ?_
          refine m_iconst (v := 2) C dX12_bells_195 (by decide) ?_
          refine m_irem C dX12_bells_196 (iv_nz kc_2 (by decide)) ?_
          refine m_topi (fun x84 ex84 => ?_)
          have b85 : IV x84 0 0 := by rw [ex84]; decide
          have tx84 : x84.toInt = 0 := by rw [ex84]; decide
          obtain rfl : x84 = 0 := by rw [ex84]; decide
          refine m_if_ne (tgt := 215) C dX12_bells_197 (by decide) (fun c86 => ?_) (fun c86 => ?_)
          · first | exact absurd c86 (by decide) | exact absurd (by decide) c86
          · have f88 : 0 = 0 := by
              have q : _ := c86
              simp only [ti_nle, ti_nlt, ti_le, ti_lt, ti_eq, ti_ne, Classical.not_not, kt_0, kt_0] at q
              omega
            refine m_aload_n C dX12_bells_200 rfl rfl ?_
            refine g_22_2 C q4_118 dX12_bells_201 ?_
            refine m_bipush (v := 40) C dX12_bells_204 (by decide) ?_
            refine m_iload_n C dX12_bells_206 rfl rfl ?_
            refine m_imul C dX12_bells_207 ?_
            refine m_topi (fun x89 ex89 => ?_)
            have tx89 : x89.toInt = 40 * a1.toInt := by rw [ex89, ti_mulv kc_40 b_a1 (by decide), kt_40]
            have b90 : IV x89 0 280 := by rw [ex89]; exact iv_mul kc_40 b_a1 (by decide)
            refine m_iload C dX12_bells_208 rfl ?_
            refine m_iadd C dX12_bells_210 ?_
            refine m_topi (fun x91 ex91 => ?_)
            have tx91 : x91.toInt = x89.toInt + x78.toInt := by rw [ex91, ti_addv b90 b79 (by decide)]
            have b92 : IV x91 0 282 := by rw [ex91]; exact iv_add b90 b79 (by decide)
            refine al_25 C b92 (by decide) rfl dX12_bells_211 ?_
            refine m_topi (fun x93 ex93 => ?_)
            refine m_goto (tgt := 228) C dX12_bells_212 (by decide) ?_
            refine m_iadd C dX12_bells_228 ?_
            refine m_topi (fun x94 ex94 => ?_)
            have tx94 : x94.toInt = 0 + x93.toInt := by rw [ex94, ti_addv kc_0 (iv_any x93) (by decide), kt_0]
            have b95 : IV x94 (-2147483648) 2147483647 := by rw [ex94]; exact iv_add kc_0 (iv_any x93) (by decide)
            refine m_istore (L1 := [some (.ref (G.1 22 0)), some (.int a1), some (.int 3), some (.int a3), some (.int 27), some (.int y5), some (.int y6), some (.int y7), some (.int x82), some (.int 9), some (.int x94), some (.int 0), some (.int 0), some (.int x78)]) C dX12_bells_229 (by decide) rfl rfl ?_
            refine m_iload C dX12_bells_231 rfl ?_
            refine m_iload C dX12_bells_233 rfl ?_
            refine m_callS (n := 1) (st := [.int 0]) C (c_X12_sizeOf l G τ (x94) iτ ) q5_96 q5_94 q5_95 q1_7 (by decide +kernel) rfl (by decide) (by decide) rfl (Nat.le_of_ble_eq_true rfl) dX12_bells_235 ?_
            rintro _ τ96 ⟨x99, rfl, i97, f98, b100⟩
            have g101 : Fr MS_X12_bells_3 AS_X12_bells_3 σ τ96 := Fr.call (fτ) f98 (by decide)
            show MW p l e _ s m args below meth c _ 14 G 0 0 238 [some (.ref (G.1 22 0)), some (.int a1), some (.int 3), some (.int a3), some (.int 27), some (.int y5), some (.int y6), some (.int y7), some (.int x82), some (.int 9), some (.int x94), some (.int 0), some (.int 0), some (.int x78)] [.int x99, .int 0] τ96
            refine m_callS (n := 2) (st := []) C (c_X12_greater l G τ96 (0) (x99) i97 ) q5_99 q5_97 q5_98 q1_7 (by decide +kernel) rfl (by decide) (by decide) rfl (Nat.le_of_ble_eq_true rfl) dX12_bells_238 ?_
            rintro _ τ103 ⟨x106, rfl, i104, f105, b107⟩
            have g108 : Fr MS_X12_bells_3 AS_X12_bells_3 σ τ103 := Fr.call (g101) f105 (by decide)
            show MW p l e _ s m args below meth c _ 14 G 0 0 241 [some (.ref (G.1 22 0)), some (.int a1), some (.int 3), some (.int a3), some (.int 27), some (.int y5), some (.int y6), some (.int y7), some (.int x82), some (.int 9), some (.int x94), some (.int 0), some (.int 0), some (.int x78)] [.int x106] τ103
            refine m_istore (L1 := [some (.ref (G.1 22 0)), some (.int a1), some (.int 3), some (.int a3), some (.int 27), some (.int y5), some (.int y6), some (.int y7), some (.int x82), some (.int 9), some (.int x94), some (.int x106), some (.int 0), some (.int x78)]) C dX12_bells_241 (by decide) rfl rfl ?_
            obtain ⟨x110, ex110⟩ : ∃ y : Int32, y = 0 + 1 := ⟨_, rfl⟩
            have b111 : IV x110 1 1 := by rw [ex110]; decide
            have tx110 : x110.toInt = 1 := by rw [ex110]; decide
            obtain rfl : x110 = 1 := by rw [ex110]; decide
            refine m_iinc (v := 1) (L1 := [some (.ref (G.1 22 0)), some (.int a1), some (.int 3), some (.int a3), some (.int 27), some (.int y5), some (.int y6), some (.int y7), some (.int x82), some (.int 9), some (.int x94), some (.int x106), some (.int 1), some (.int x78)]) C dX12_bells_243 rfl (by decide) (by decide) rfl rfl ?_
            refine m_goto (tgt := 161) C dX12_bells_246 (by decide) ?_
            refine m_iload C dX12_bells_161 rfl ?_
            refine m_iload_n C dX12_bells_163 rfl rfl ?_
            refine m_icmp_ge (tgt := 249) C dX12_bells_164 (by decide) (fun c112 => ?_) (fun c112 => ?_)
            · first | exact absurd c112 (by decide) | exact absurd (by decide) c112
            · have f114 : 1 < 3 := by
                have q : _ := c112
                simp only [ti_nle, ti_nlt, ti_le, ti_lt, ti_eq, ti_ne, Classical.not_not, kt_1, kt_3] at q
                omega
              refine m_iload C dX12_bells_167 rfl ?_
              refine m_iload_n C dX12_bells_169 rfl rfl ?_
              refine m_idiv C dX12_bells_170 (iv_nz kc_3 (by decide)) ?_
              refine m_topi (fun x115 ex115 => ?_)
              have b116 : IV x115 3 3 := by rw [ex115]; decide
              have tx115 : x115.toInt = 3 := by rw [ex115]; decide
              obtain rfl : x115 = 3 := by rw [ex115]; decide
              refine m_istore (L1 := [some (.ref (G.1 22 0)), some (.int a1), some (.int 3), some (.int a3), some (.int 27), some (.int y5), some (.int y6), some (.int y7), some (.int x82), some (.int 3), some (.int x94), some (.int x106), some (.int 1), some (.int x78)]) C dX12_bells_171 (by decide) rfl rfl ?_
              refine m_iload C dX12_bells_173 rfl ?_
              refine m_iload C dX12_bells_175 rfl ?_
              refine m_idiv C dX12_bells_177 (iv_nz kc_3 (by decide)) ?_
              refine m_topi (fun x117 ex117 => ?_)
              have b118 : IV x117 0 8 := by rw [ex117]; exact iv_div b70 kc_3 (by decide)
              refine m_iload_n C dX12_bells_178 rfl rfl ?_
              refine m_irem C dX12_bells_179 (iv_nz kc_3 (by decide)) ?_
              refine m_topi (fun x119 ex119 => ?_)
              have b120 : IV x119 0 2 := by rw [ex119]; exact iv_rem b118 kc_3 (by decide)
              refine m_istore (L1 := [some (.ref (G.1 22 0)), some (.int a1), some (.int 3), some (.int a3), some (.int 27), some (.int y5), some (.int y6), some (.int y7), some (.int x82), some (.int 3), some (.int x94), some (.int x106), some (.int 1), some (.int x119)]) C dX12_bells_180 (by decide) rfl rfl ?_
              refine m_iload C dX12_bells_182 rfl ?_
              refine m_iconst (v := 1) C dX12_bells_184 (by decide) ?_
              refine m_iload C dX12_bells_185 rfl ?_
              refine m_ishl C dX12_bells_187 ?_
              refine m_topi (fun x121 ex121 => ?_)
              have b122 : IV x121 1 4 := by rw [ex121]; exact iv_shl1 b120 (by decide)
              refine m_ior C dX12_bells_188 ?_
              refine m_topi (fun x123 ex123 => ?_)
              have b124 : IV x123 0 7 := by rw [ex123]; exact iv_or 3 b83 b122 (by decide)
              refine m_istore (L1 := [some (.ref (G.1 22 0)), some (.int a1), some (.int 3), some (.int a3), some (.int 27), some (.int y5), some (.int y6), some (.int y7), some (.int x123), some (.int 3), some (.int x94), some (.int x106), some (.int 1), some (.int x119)]) C dX12_bells_189 (by decide) rfl rfl ?_
              refine m_iload C dX12_bells_191 rfl ?_
              refine m_iload C dX12_bells_193 rfl ?_
              refine m_iconst (v := 2) C dX12_bells_195 (by decide) ?_
              refine m_irem C dX12_bells_196 (iv_nz kc_2 (by decide)) ?_
              refine m_topi (fun x125 ex125 => ?_)
              have b126 : IV x125 1 1 := by rw [ex125]; decide
              have tx125 : x125.toInt = 1 := by rw [ex125]; decide
              obtain rfl : x125 = 1 := by rw [ex125]; decide
              refine m_if_ne (tgt := 215) C dX12_bells_197 (by decide) (fun c127 => ?_) (fun c127 => ?_)
              · have f128 : 1 ≠ 0 := by
                  have q : _ := c127
                  simp only [ti_nle, ti_nlt, ti_le, ti_lt, ti_eq, ti_ne, Classical.not_not, kt_1, kt_0] at q
                  omega
                refine m_aload_n C dX12_bells_215 rfl rfl ?_
                refine g_22_2 C q4_118 dX12_bells_216 ?_
                refine m_bipush (v := 40) C dX12_bells_219 (by decide) ?_
                refine m_iload_n C dX12_bells_221 rfl rfl ?_
                refine m_imul C dX12_bells_222 ?_
                refine m_topi (fun x129 ex129 => ?_)
                have tx129 : x129.toInt = 40 * a1.toInt := by rw [ex129, ti_mulv kc_40 b_a1 (by decide), kt_40]
                have b130 : IV x129 0 280 := by rw [ex129]; exact iv_mul kc_40 b_a1 (by decide)
                refine m_iload C dX12_bells_223 rfl ?_
                refine m_iadd C dX12_bells_225 ?_
                refine m_topi (fun x131 ex131 => ?_)
                have tx131 : x131.toInt = x129.toInt + x119.toInt := by rw [ex131, ti_addv b130 b120 (by decide)]
                have b132 : IV x131 0 282 := by rw [ex131]; exact iv_add b130 b120 (by decide)
                refine al_25 C b132 (by decide) rfl dX12_bells_226 ?_
                refine m_topi (fun x133 ex133 => ?_)
                refine m_ineg C dX12_bells_227 ?_
                refine m_topi (fun x134 ex134 => ?_)
                refine m_iadd C dX12_bells_228 ?_
                refine m_topi (fun x135 ex135 => ?_)
                refine m_istore (L1 := [some (.ref (G.1 22 0)), some (.int a1), some (.int 3), some (.int a3), some (.int 27), some (.int y5), some (.int y6), some (.int y7), some (.int x123), some (.int 3), some (.int x135), some (.int x106), some (.int 1), some (.int x119)]) C dX12_bells_229 (by decide) rfl rfl ?_
                refine m_iload C dX12_bells_231 rfl ?_
                refine m_iload C dX12_bells_233 rfl ?_
                refine m_callS (n := 1) (st := [.int x106]) C (c_X12_sizeOf l G τ103 (x135) i104 ) q5_96 q5_94 q5_95 q1_7 (by decide +kernel) rfl (by decide) (by decide) rfl (Nat.le_of_ble_eq_true rfl) dX12_bells_235 ?_
                rintro _ τ136 ⟨x139, rfl, i137, f138, b140⟩
                have g141 : Fr MS_X12_bells_3 AS_X12_bells_3 σ τ136 := Fr.call (g108) f138 (by decide)
                show MW p l e _ s m args below meth c _ 14 G 0 0 238 [some (.ref (G.1 22 0)), some (.int a1), some (.int 3), some (.int a3), some (.int 27), some (.int y5), some (.int y6), some (.int y7), some (.int x123), some (.int 3), some (.int x135), some (.int x106), some (.int 1), some (.int x119)] [.int x139, .int x106] τ136
                refine m_callS (n := 2) (st := []) C (c_X12_greater l G τ136 (x106) (x139) i137 ) q5_99 q5_97 q5_98 q1_7 (by decide +kernel) rfl (by decide) (by decide) rfl (Nat.le_of_ble_eq_true rfl) dX12_bells_238 ?_
                rintro _ τ143 ⟨x146, rfl, i144, f145, b147⟩
                have g148 : Fr MS_X12_bells_3 AS_X12_bells_3 σ τ143 := Fr.call (g141) f145 (by decide)
                show MW p l e _ s m args below meth c _ 14 G 0 0 241 [some (.ref (G.1 22 0)), some (.int a1), some (.int 3), some (.int a3), some (.int 27), some (.int y5), some (.int y6), some (.int y7), some (.int x123), some (.int 3), some (.int x135), some (.int x106), some (.int 1), some (.int x119)] [.int x146] τ143
                refine m_istore (L1 := [some (.ref (G.1 22 0)), some (.int a1), some (.int 3), some (.int a3), some (.int 27), some (.int y5), some (.int y6), some (.int y7), some (.int x123), some (.int 3), some (.int x135), some (.int x146), some (.int 1), some (.int x119)]) C dX12_bells_241 (by decide) rfl rfl ?_
                obtain ⟨x150, ex150⟩ : ∃ y : Int32, y = 1 + 1 := ⟨_, rfl⟩
                have b151 : IV x150 2 2 := by rw [ex150]; decide
                have tx150 : x150.toInt = 2 := by rw [ex150]; decide
                obtain rfl : x150 = 2 := by rw [ex150]; decide
                refine m_iinc (v := 2) (L1 := [some (.ref (G.1 22 0)), some (.int a1), some (.int 3), some (.int a3), some (.int 27), some (.int y5), some (.int y6), some (.int y7), some (.int x123), some (.int 3), some (.int x135), some (.int x146), some (.int 2), some (.int x119)]) C dX12_bells_243 rfl (by decide) (by decide) rfl rfl ?_
                refine m_goto (tgt := 161) C dX12_bells_246 (by decide) ?_
                refine m_iload C dX12_bells_161 rfl ?_
                refine m_iload_n C dX12_bells_163 rfl rfl ?_
                refine m_icmp_ge (tgt := 249) C dX12_bells_164 (by decide) (fun c152 => ?_) (fun c152 => ?_)
                · first | exact absurd c152 (by decide) | exact absurd (by decide) c152
                · have f154 : 2 < 3 := by
                    have q : _ := c152
                    simp only [ti_nle, ti_nlt, ti_le, ti_lt, ti_eq, ti_ne, Classical.not_not, kt_2, kt_3] at q
                    omega
                  refine m_iload C dX12_bells_167 rfl ?_
                  refine m_iload_n C dX12_bells_169 rfl rfl ?_
                  refine m_idiv C dX12_bells_170 (iv_nz kc_3 (by decide)) ?_
                  refine m_topi (fun x155 ex155 => ?_)
                  have b156 : IV x155 1 1 := by rw [ex155]; decide
                  have tx155 : x155.toInt = 1 := by rw [ex155]; decide
                  obtain rfl : x155 = 1 := by rw [ex155]; decide
                  refine m_istore (L1 := [some (.ref (G.1 22 0)), some (.int a1), some (.int 3), some (.int a3), some (.int 27), some (.int y5), some (.int y6), some (.int y7), some (.int x123), some (.int 1), some (.int x135), some (.int x146), some (.int 2), some (.int x119)]) C dX12_bells_171 (by decide) rfl rfl ?_
                  refine m_iload C dX12_bells_173 rfl ?_
                  refine m_iload C dX12_bells_175 rfl ?_
                  refine m_idiv C dX12_bells_177 (iv_nz kc_1 (by decide)) ?_
                  refine m_topi (fun x157 ex157 => ?_)
                  have b158 : IV x157 0 26 := by rw [ex157]; exact iv_div b70 kc_1 (by decide)
                  refine m_iload_n C dX12_bells_178 rfl rfl ?_
                  refine m_irem C dX12_bells_179 (iv_nz kc_3 (by decide)) ?_
                  refine m_topi (fun x159 ex159 => ?_)
                  have b160 : IV x159 0 2 := by rw [ex159]; exact iv_rem b158 kc_3 (by decide)
                  refine m_istore (L1 := [some (.ref (G.1 22 0)), some (.int a1), some (.int 3), some (.int a3), some (.int 27), some (.int y5), some (.int y6), some (.int y7), some (.int x123), some (.int 1), some (.int x135), some (.int x146), some (.int 2), some (.int x159)]) C dX12_bells_180 (by decide) rfl rfl ?_
                  refine m_iload C dX12_bells_182 rfl ?_
                  refine m_iconst (v := 1) C dX12_bells_184 (by decide) ?_
                  refine m_iload C dX12_bells_185 rfl ?_
                  refine m_ishl C dX12_bells_187 ?_
                  refine m_topi (fun x161 ex161 => ?_)
                  have b162 : IV x161 1 4 := by rw [ex161]; exact iv_shl1 b160 (by decide)
                  refine m_ior C dX12_bells_188 ?_
                  refine m_topi (fun x163 ex163 => ?_)
                  have b164 : IV x163 0 7 := by rw [ex163]; exact iv_or 3 b124 b162 (by decide)
                  refine m_istore (L1 := [some (.ref (G.1 22 0)), some (.int a1), some (.int 3), some (.int a3), some (.int 27), some (.int y5), some (.int y6), some (.int y7), some (.int x163), some (.int 1), some (.int x135), some (.int x146), some (.int 2), some (.int x159)]) C dX12_bells_189 (by decide) rfl rfl ?_
                  refine m_iload C dX12_bells_191 rfl ?_
                  refine m_iload C dX12_bells_193 rfl ?_
                  refine m_iconst (v := 2) C dX12_bells_195 (by decide) ?_
                  refine m_irem C dX12_bells_196 (iv_nz kc_2 (by decide)) ?_
                  refine m_topi (fun x165 ex165 => ?_)
                  have b166 : IV x165 0 0 := by rw [ex165]; decide
                  have tx165 : x165.toInt = 0 := by rw [ex165]; decide
                  obtain rfl : x165 = 0 := by rw [ex165]; decide
                  refine m_if_ne (tgt := 215) C dX12_bells_197 (by decide) (fun c167 => ?_) (fun c167 => ?_)
                  · first | exact absurd c167 (by decide) | exact absurd (by decide) c167
                  · have f169 : 0 = 0 := by
                      have q : _ := c167
                      simp only [ti_nle, ti_nlt, ti_le, ti_lt, ti_eq, ti_ne, Classical.not_not, kt_0, kt_0] at q
                      omega
                    refine m_aload_n C dX12_bells_200 rfl rfl ?_
                    refine g_22_2 C q4_118 dX12_bells_201 ?_
                    refine m_bipush (v := 40) C dX12_bells_204 (by decide) ?_
                    refine m_iload_n C dX12_bells_206 rfl rfl ?_
                    refine m_imul C dX12_bells_207 ?_
                    refine m_topi (fun x170 ex170 => ?_)
                    have tx170 : x170.toInt = 40 * a1.toInt := by rw [ex170, ti_mulv kc_40 b_a1 (by decide), kt_40]
                    have b171 : IV x170 0 280 := by rw [ex170]; exact iv_mul kc_40 b_a1 (by decide)
                    refine m_iload C dX12_bells_208 rfl ?_
                    refine m_iadd C dX12_bells_210 ?_
                    refine m_topi (fun x172 ex172 => ?_)
                    have tx172 : x172.toInt = x170.toInt + x159.toInt := by rw [ex172, ti_addv b171 b160 (by decide)]
                    have b173 : IV x172 0 282 := by rw [ex172]; exact iv_add b171 b160 (by decide)
                    refine al_25 C b173 (by decide) rfl dX12_bells_211 ?_
                    refine m_topi (fun x174 ex174 => ?_)
                    refine m_goto (tgt := 228) C dX12_bells_212 (by decide) ?_
                    refine m_iadd C dX12_bells_228 ?_
                    refine m_topi (fun x175 ex175 => ?_)
                    refine m_istore (L1 := [some (.ref (G.1 22 0)), some (.int a1), some (.int 3), some (.int a3), some (.int 27), some (.int y5), some (.int y6), some (.int y7), some (.int x163), some (.int 1), some (.int x175), some (.int x146), some (.int 2), some (.int x159)]) C dX12_bells_229 (by decide) rfl rfl ?_
                    refine m_iload C dX12_bells_231 rfl ?_
                    refine m_iload C dX12_bells_233 rfl ?_
                    refine m_callS (n := 1) (st := [.int x146]) C (c_X12_sizeOf l G τ143 (x175) i144 ) q5_96 q5_94 q5_95 q1_7 (by decide +kernel) rfl (by decide) (by decide) rfl (Nat.le_of_ble_eq_true rfl) dX12_bells_235 ?_
                    rintro _ τ176 ⟨x179, rfl, i177, f178, b180⟩
                    have g181 : Fr MS_X12_bells_3 AS_X12_bells_3 σ τ176 := Fr.call (g148) f178 (by decide)
                    show MW p l e _ s m args below meth c _ 14 G 0 0 238 [some (.ref (G.1 22 0)), some (.int a1), some (.int 3), some (.int a3), some (.int 27), some (.int y5), some (.int y6), some (.int y7), some (.int x163), some (.int 1), some (.int x175), some (.int x146), some (.int 2), some (.int x159)] [.int x179, .int x146] τ176
                    refine m_callS (n := 2) (st := []) C (c_X12_greater l G τ176 (x146) (x179) i177 ) q5_99 q5_97 q5_98 q1_7 (by decide +kernel) rfl (by decide) (by decide) rfl (Nat.le_of_ble_eq_true rfl) dX12_bells_238 ?_
                    rintro _ τ183 ⟨x186, rfl, i184, f185, b187⟩
                    have g188 : Fr MS_X12_bells_3 AS_X12_bells_3 σ τ183 := Fr.call (g181) f185 (by decide)
                    show MW p l e _ s m args below meth c _ 14 G 0 0 241 [some (.ref (G.1 22 0)), some (.int a1), some (.int 3), some (.int a3), some (.int 27), some (.int y5), some (.int y6), some (.int y7), some (.int x163), some (.int 1), some (.int x175), some (.int x146), some (.int 2), some (.int x159)] [.int x186] τ183
                    refine m_istore (L1 := [some (.ref (G.1 22 0)), some (.int a1), some (.int 3), some (.int a3), some (.int 27), some (.int y5), some (.int y6), some (.int y7), some (.int x163), some (.int 1), some (.int x175), some (.int x186), some (.int 2), some (.int x159)]) C dX12_bells_241 (by decide) rfl rfl ?_
                    obtain ⟨x190, ex190⟩ : ∃ y : Int32, y = 2 + 1 := ⟨_, rfl⟩
                    have b191 : IV x190 3 3 := by rw [ex190]; decide
                    have tx190 : x190.toInt = 3 := by rw [ex190]; decide
                    obtain rfl : x190 = 3 := by rw [ex190]; decide
                    refine m_iinc (v := 3) (L1 := [some (.ref (G.1 22 0)), some (.int a1), some (.int 3), some (.int a3), some (.int 27), some (.int y5), some (.int y6), some (.int y7), some (.int x163), some (.int 1), some (.int x175), some (.int x186), some (.int 3), some (.int x159)]) C dX12_bells_243 rfl (by decide) (by decide) rfl rfl ?_
                    refine m_goto (tgt := 161) C dX12_bells_246 (by decide) ?_
                    refine m_iload C dX12_bells_161 rfl ?_
                    refine m_iload_n C dX12_bells_163 rfl rfl ?_
                    refine m_icmp_ge (tgt := 249) C dX12_bells_164 (by decide) (fun c192 => ?_) (fun c192 => ?_)
                    · have f193 : 3 ≤ 3 := by
                        have q : _ := c192
                        simp only [ti_nle, ti_nlt, ti_le, ti_lt, ti_eq, ti_ne, Classical.not_not, kt_3, kt_3] at q
                        omega
                      refine m_iload C dX12_bells_249 rfl ?_
                      refine m_iconst (v := 1) C dX12_bells_251 (by decide) ?_
                      refine m_iload_n C dX12_bells_252 rfl rfl ?_
                      refine m_ishl C dX12_bells_253 ?_
                      refine m_topi (fun x194 ex194 => ?_)
                      have b195 : IV x194 8 8 := by rw [ex194]; decide
                      have tx194 : x194.toInt = 8 := by rw [ex194]; decide
                      obtain rfl : x194 = 8 := by rw [ex194]; decide
                      refine m_iconst (v := 1) C dX12_bells_254 (by decide) ?_
                      refine m_isub C dX12_bells_255 ?_
                      refine m_topi (fun x196 ex196 => ?_)
                      have b197 : IV x196 7 7 := by rw [ex196]; decide
                      have tx196 : x196.toInt = 7 := by rw [ex196]; decide
                      obtain rfl : x196 = 7 := by rw [ex196]; decide
                      refine m_icmp_ne (tgt := 279) C dX12_bells_256 (by decide) (fun c198 => ?_) (fun c198 => ?_)
                      · have f199 : x163.toInt ≠ 7 := by
                          have q : _ := c198
                          simp only [ti_nle, ti_nlt, ti_le, ti_lt, ti_eq, ti_ne, Classical.not_not, kt_7] at q
                          omega
                        have b200 : IV x163 0 6 := ⟨by have q1 := b164; have q2 := kc_7; omega, by have q1 := b164; have q2 := kc_7; omega⟩
                        obtain ⟨x201, ex201⟩ : ∃ y : Int32, y = y7 + 1 := ⟨_, rfl⟩
                        have tx201 : x201.toInt = y7.toInt + 1 := by rw [ex201, ti_addv b70 kc_1 (by decide), kt_1]
                        have b202 : IV x201 1 27 := by rw [ex201]; exact iv_add b70 kc_1 (by decide)
                        refine m_iinc (v := x201) (L1 := [some (.ref (G.1 22 0)), some (.int a1), some (.int 3), some (.int a3), some (.int 27), some (.int y5), some (.int y6), some (.int x201), some (.int x163), some (.int 1), some (.int x175), some (.int x186), some (.int 3), some (.int x159)]) C dX12_bells_279 rfl (by rw [ex201]; rfl) (by decide) rfl rfl ?_
                        refine m_goto (tgt := 138) C dX12_bells_282 (by decide) ?_
                        refine m_sub (L1 := [some (.ref (G.1 22 0)), some (.int a1), some (.int 3), some (.int a3), some (.int 27), some (.int y5), some (.int y6), some (.int x201), none, none, none, none, none, none]) ⟨rfl, ⟨rfl, ⟨rfl, ⟨rfl, ⟨rfl, ⟨rfl, ⟨rfl, ⟨rfl, trivial⟩⟩⟩⟩⟩⟩⟩⟩ ?_
                        exact ih138 τ183 y5 y6 x201 i184 g188 b_a1 b_a3 b_y5 b_y6 (iv_wk b202 (by decide)) (by have q := hm138; omega)
                      · have f203 : x163.toInt = 7 := by
                          have q : _ := c198
                          simp only [ti_nle, ti_nlt, ti_le, ti_lt, ti_eq, ti_ne, Classical.not_not, kt_7] at q
                          omega
                        have b204 : IV x163 7 7 := ⟨by have q1 := b164; have q2 := kc_7; omega, by have q1 := b164; have q2 := kc_7; omega⟩
                        refine m_iload C dX12_bells_259 rfl ?_
                        refine m_if_lt (tgt := 271) C dX12_bells_261 (by decide) (fun c205 => ?_) (fun c205 => ?_)
                        · have f206 : y5.toInt < 0 := by
                            have q : _ := c205
                            simp only [ti_nle, ti_nlt, ti_le, ti_lt, ti_eq, ti_ne, Classical.not_not, kt_0] at q
                            omega
                          have b207 : IV y5 (-1) (-1) := ⟨by have q1 := b_y5; have q2 := kc_0; omega, by have q1 := b_y5; have q2 := kc_0; omega⟩
                          refine m_iload C dX12_bells_271 rfl ?_
                          refine m_istore (L1 := [some (.ref (G.1 22 0)), some (.int a1), some (.int 3), some (.int a3), some (.int 27), some (.int y7), some (.int y6), some (.int y7), some (.int x163), some (.int 1), some (.int x175), some (.int x186), some (.int 3), some (.int x159)]) C dX12_bells_273 (by decide) rfl rfl ?_
                          refine m_iload C dX12_bells_275 rfl ?_
                          refine m_istore (L1 := [some (.ref (G.1 22 0)), some (.int a1), some (.int 3), some (.int a3), some (.int 27), some (.int y7), some (.int x186), some (.int y7), some (.int x163), some (.int 1), some (.int x175), some (.int x186), some (.int 3), some (.int x159)]) C dX12_bells_277 (by decide) rfl rfl ?_
                          obtain ⟨x208, ex208⟩ : ∃ y : Int32, y = y7 + 1 := ⟨_, rfl⟩
                          have tx208 : x208.toInt = y7.toInt + 1 := by rw [ex208, ti_addv b70 kc_1 (by decide), kt_1]
                          have b209 : IV x208 1 27 := by rw [ex208]; exact iv_add b70 kc_1 (by decide)
                          refine m_iinc (v := x208) (L1 := [some (.ref (G.1 22 0)), some (.int a1), some (.int 3), some (.int a3), some (.int 27), some (.int y7), some (.int x186), some (.int x208), some (.int x163), some (.int 1), some (.int x175), some (.int x186), some (.int 3), some (.int x159)]) C dX12_bells_279 rfl (by rw [ex208]; rfl) (by decide) rfl rfl ?_
                          refine m_goto (tgt := 138) C dX12_bells_282 (by decide) ?_
                          refine m_sub (L1 := [some (.ref (G.1 22 0)), some (.int a1), some (.int 3), some (.int a3), some (.int 27), some (.int y7), some (.int x186), some (.int x208), none, none, none, none, none, none]) ⟨rfl, ⟨rfl, ⟨rfl, ⟨rfl, ⟨rfl, ⟨rfl, ⟨rfl, ⟨rfl, trivial⟩⟩⟩⟩⟩⟩⟩⟩ ?_
                          exact ih138 τ183 y7 x186 x208 i184 g188 b_a1 b_a3 (iv_wk b70 (by decide)) b187 (iv_wk b209 (by decide)) (by have q := hm138; omega)
                        · have f210 : 0 ≤ y5.toInt := by
                            have q : _ := c205
                            simp only [ti_nle, ti_nlt, ti_le, ti_lt, ti_eq, ti_ne, Classical.not_not, kt_0] at q
                            omega
                          have b211 : IV y5 0 40 := ⟨by have q1 := kc_0; have q2 := b_y5; omega, by have q1 := kc_0; have q2 := b_y5; omega⟩
                          refine m_iload C dX12_bells_264 rfl ?_
                          refine m_iload C dX12_bells_266 rfl ?_
                          refine m_icmp_ge (tgt := 279) C dX12_bells_268 (by decide) (fun c212 => ?_) (fun c212 => ?_)
                          · have f213 : y6.toInt ≤ x186.toInt := by
                              have q : _ := c212
                              simp only [ti_nle, ti_nlt, ti_le, ti_lt, ti_eq, ti_ne, Classical.not_not] at q
                              omega
                            obtain ⟨x214, ex214⟩ : ∃ y : Int32, y = y7 + 1 := ⟨_, rfl⟩
                            have tx214 : x214.toInt = y7.toInt + 1 := by rw [ex214, ti_addv b70 kc_1 (by decide), kt_1]
                            have b215 : IV x214 1 27 := by rw [ex214]; exact iv_add b70 kc_1 (by decide)
                            refine m_iinc (v := x214) (L1 := [some (.ref (G.1 22 0)), some (.int a1), some (.int 3), some (.int a3), some (.int 27), some (.int y5), some (.int y6), some (.int x214), some (.int x163), some (.int 1), some (.int x175), some (.int x186), some (.int 3), some (.int x159)]) C dX12_bells_279 rfl (by rw [ex214]; rfl) (by decide) rfl rfl ?_
                            refine m_goto (tgt := 138) C dX12_bells_282 (by decide) ?_
                            refine m_sub (L1 := [some (.ref (G.1 22 0)), some (.int a1), some (.int 3), some (.int a3), some (.int 27), some (.int y5), some (.int y6), some (.int x214), none, none, none, none, none, none]) ⟨rfl, ⟨rfl, ⟨rfl, ⟨rfl, ⟨rfl, ⟨rfl, ⟨rfl, ⟨rfl, trivial⟩⟩⟩⟩⟩⟩⟩⟩ ?_
                            exact ih138 τ183 y5 y6 x214 i184 g188 b_a1 b_a3 (iv_wk b211 (by decide)) b_y6 (iv_wk b215 (by decide)) (by have q := hm138; omega)
                          · have f216 : x186.toInt < y6.toInt := by
                              have q : _ := c212
                              simp only [ti_nle, ti_nlt, ti_le, ti_lt, ti_eq, ti_ne, Classical.not_not] at q
                              omega
                            have b217 : IV x186 (-2147483648) 2147483646 := ⟨by have q1 := b187; have q2 := b_y6; omega, by have q1 := b187; have q2 := b_y6; omega⟩
                            have b218 : IV y6 (-2147483647) 2147483647 := ⟨by have q1 := b187; have q2 := b_y6; omega, by have q1 := b187; have q2 := b_y6; omega⟩
                            refine m_iload C dX12_bells_271 rfl ?_
                            refine m_istore (L1 := [some (.ref (G.1 22 0)), some (.int a1), some (.int 3), some (.int a3), some (.int 27), some (.int y7), some (.int y6), some (.int y7), some (.int x163), some (.int 1), some (.int x175), some (.int x186), some (.int 3), some (.int x159)]) C dX12_bells_273 (by decide) rfl rfl ?_
                            refine m_iload C dX12_bells_275 rfl ?_
                            refine m_istore (L1 := [some (.ref (G.1 22 0)), some (.int a1), some (.int 3), some (.int a3), some (.int 27), some (.int y7), some (.int x186), some (.int y7), some (.int x163), some (.int 1), some (.int x175), some (.int x186), some (.int 3), some (.int x159)]) C dX12_bells_277 (by decide) rfl rfl ?_
                            obtain ⟨x219, ex219⟩ : ∃ y : Int32, y = y7 + 1 := ⟨_, rfl⟩
                            have tx219 : x219.toInt = y7.toInt + 1 := by rw [ex219, ti_addv b70 kc_1 (by decide), kt_1]
                            have b220 : IV x219 1 27 := by rw [ex219]; exact iv_add b70 kc_1 (by decide)
                            refine m_iinc (v := x219) (L1 := [some (.ref (G.1 22 0)), some (.int a1), some (.int 3), some (.int a3), some (.int 27), some (.int y7), some (.int x186), some (.int x219), some (.int x163), some (.int 1), some (.int x175), some (.int x186), some (.int 3), some (.int x159)]) C dX12_bells_279 rfl (by rw [ex219]; rfl) (by decide) rfl rfl ?_
                            refine m_goto (tgt := 138) C dX12_bells_282 (by decide) ?_
                            refine m_sub (L1 := [some (.ref (G.1 22 0)), some (.int a1), some (.int 3), some (.int a3), some (.int 27), some (.int y7), some (.int x186), some (.int x219), none, none, none, none, none, none]) ⟨rfl, ⟨rfl, ⟨rfl, ⟨rfl, ⟨rfl, ⟨rfl, ⟨rfl, ⟨rfl, trivial⟩⟩⟩⟩⟩⟩⟩⟩ ?_
                            exact ih138 τ183 y7 x186 x219 i184 g188 b_a1 b_a3 (iv_wk b70 (by decide)) (iv_wk b217 (by decide)) (iv_wk b220 (by decide)) (by have q := hm138; omega)
                    · first | exact absurd c192 (by decide) | exact absurd (by decide) c192
              · first | exact absurd c127 (by decide) | exact absurd (by decide) c127
  have J61 : ∀ (n : Nat) (τ : Sg) (y4 : Int32), Inv τ → Fr MS_X12_bells_3 AS_X12_bells_3 σ τ → IV a1 0 7 → IV a3 (-1) 2147483647 → IV y4 0 3 → (3 - y4.toInt).toNat < n → MW p l e { frames := 2, cells := 0, slots := 0, locals := 60 } s m args below meth c (MQ below (QP G (PI fun r τ => Inv τ ∧ Fr MS_X12_bells_3 AS_X12_bells_3 σ τ ∧ IV r (-2147483648) 2147483647)) args s 0 0 (aG G)) 14 G 0 0 61 [some (.ref (G.1 22 0)), some (.int a1), some (.int 3), some (.int a3), some (.int y4), none, none, none, none, none, none, none, none, none] [] τ := by
    intro n
    induction n with
    | zero => intro τ y4 iτ fτ b_a1 b_a3 b_y4 hm; exact absurd hm (Nat.not_lt_zero _)
    | succ n ih61 =>
      intro τ y4 iτ fτ b_a1 b_a3 b_y4 hm61
      refine m_iload C dX12_bells_61 rfl ?_
      refine m_iload_n C dX12_bells_63 rfl rfl ?_
      refine m_icmp_ge (tgt := 99) C dX12_bells_64 (by decide) (fun c223 => ?_) (fun c223 => ?_)
      · have f224 : 3 ≤ y4.toInt := by
          have q : _ := c223
          simp only [ti_nle, ti_nlt, ti_le, ti_lt, ti_eq, ti_ne, Classical.not_not, kt_3] at q
          omega
        have b225 : IV y4 3 3 := ⟨by have q1 := kc_3; have q2 := b_y4; omega, by have q1 := kc_3; have q2 := b_y4; omega⟩
        refine m_aload_n C dX12_bells_99 rfl rfl ?_
        refine m_iconst (v := 0) C dX12_bells_100 (by decide) ?_
        refine m_callV (n := 1) (ci := 11) (st := []) C (c_X12_fine l G τ (0) iτ ) (by decide) (by decide) rfl rfl rfl q4_201 q4_198 q4_200 q0_27 q1_7 (by decide +kernel) rfl (by decide) (by decide) rfl (Nat.le_of_ble_eq_true rfl) dX12_bells_101 ?_
        rintro _ τ226 ⟨x229, rfl, i227, f228, b230, h232⟩
        have g231 : Fr MS_X12_bells_3 AS_X12_bells_3 σ τ226 := Fr.call (fτ) f228 (by decide)
        have q233 := kt_0
        show MW p l e _ s m args below meth c _ 14 G 0 0 104 [some (.ref (G.1 22 0)), some (.int a1), some (.int 3), some (.int a3), some (.int y4), none, none, none, none, none, none, none, none, none] [.int x229] τ226
        refine m_pop C dX12_bells_104 rfl ?_
        refine m_iconst (v := 1) C dX12_bells_105 (by decide) ?_
        refine m_istore (L1 := [some (.ref (G.1 22 0)), some (.int a1), some (.int 3), some (.int a3), some (.int 1), none, none, none, none, none, none, none, none, none]) C dX12_bells_106 (by decide) rfl rfl ?_
        refine m_iconst (v := 0) C dX12_bells_108 (by decide) ?_
        refine m_istore (L1 := [some (.ref (G.1 22 0)), some (.int a1), some (.int 3), some (.int a3), some (.int 1), some (.int 0), none, none, none, none, none, none, none, none]) C dX12_bells_109 (by decide) rfl rfl ?_
        refine m_iload C dX12_bells_111 rfl ?_
        refine m_iload_n C dX12_bells_113 rfl rfl ?_
        refine m_icmp_ge (tgt := 129) C dX12_bells_114 (by decide) (fun c234 => ?_) (fun c234 => ?_)
        · first | exact absurd c234 (by decide) | exact absurd (by decide) c234
        · have f236 : 0 < 3 := by
            have q : _ := c234
            simp only [ti_nle, ti_nlt, ti_le, ti_lt, ti_eq, ti_ne, Classical.not_not, kt_0, kt_3] at q
            omega
          refine m_iload C dX12_bells_117 rfl ?_
          refine m_iload_n C dX12_bells_119 rfl rfl ?_
          refine m_imul C dX12_bells_120 ?_
          refine m_topi (fun x237 ex237 => ?_)
          have b238 : IV x237 3 3 := by rw [ex237]; decide
          have tx237 : x237.toInt = 3 := by rw [ex237]; decide
          obtain rfl : x237 = 3 := by rw [ex237]; decide
          refine m_istore (L1 := [some (.ref (G.1 22 0)), some (.int a1), some (.int 3), some (.int a3), some (.int 3), some (.int 0), none, none, none, none, none, none, none, none]) C dX12_bells_121 (by decide) rfl rfl ?_
          obtain ⟨x239, ex239⟩ : ∃ y : Int32, y = 0 + 1 := ⟨_, rfl⟩
          have b240 : IV x239 1 1 := by rw [ex239]; decide
          have tx239 : x239.toInt = 1 := by rw [ex239]; decide
          obtain rfl : x239 = 1 := by rw [ex239]; decide
          refine m_iinc (v := 1) (L1 := [some (.ref (G.1 22 0)), some (.int a1), some (.int 3), some (.int a3), some (.int 3), some (.int 1), none, none, none, none, none, none, none, none]) C dX12_bells_123 rfl (by decide) (by decide) rfl rfl ?_
          refine m_goto (tgt := 111) C dX12_bells_126 (by decide) ?_
          refine m_iload C dX12_bells_111 rfl ?_
          refine m_iload_n C dX12_bells_113 rfl rfl ?_
          refine m_icmp_ge (tgt := 129) C dX12_bells_114 (by decide) (fun c241 => ?_) (fun c241 => ?_)
          · first | exact absurd c241 (by decide) | exact absurd (by decide) c241
          · have f243 : 1 < 3 := by
              have q : _ := c241
              simp only [ti_nle, ti_nlt, ti_le, ti_lt, ti_eq, ti_ne, Classical.not_not, kt_1, kt_3] at q
              omega
            refine m_iload C dX12_bells_117 rfl ?_
            refine m_iload_n C dX12_bells_119 rfl rfl ?_
            refine m_imul C dX12_bells_120 ?_
            refine m_topi (fun x244 ex244 => ?_)
            have b245 : IV x244 9 9 := by rw [ex244]; decide
            have tx244 : x244.toInt = 9 := by rw [ex244]; decide
            obtain rfl : x244 = 9 := by rw [ex244]; decide
            refine m_istore (L1 := [some (.ref (G.1 22 0)), some (.int a1), some (.int 3), some (.int a3), some (.int 9), some (.int 1), none, none, none, none, none, none, none, none]) C dX12_bells_121 (by decide) rfl rfl ?_
            obtain ⟨x246, ex246⟩ : ∃ y : Int32, y = 1 + 1 := ⟨_, rfl⟩
            have b247 : IV x246 2 2 := by rw [ex246]; decide
            have tx246 : x246.toInt = 2 := by rw [ex246]; decide
            obtain rfl : x246 = 2 := by rw [ex246]; decide
            refine m_iinc (v := 2) (L1 := [some (.ref (G.1 22 0)), some (.int a1), some (.int 3), some (.int a3), some (.int 9), some (.int 2), none, none, none, none, none, none, none, none]) C dX12_bells_123 rfl (by decide) (by decide) rfl rfl ?_
            refine m_goto (tgt := 111) C dX12_bells_126 (by decide) ?_
            refine m_iload C dX12_bells_111 rfl ?_
            refine m_iload_n C dX12_bells_113 rfl rfl ?_
            refine m_icmp_ge (tgt := 129) C dX12_bells_114 (by decide) (fun c248 => ?_) (fun c248 => ?_)
            · first | exact absurd c248 (by decide) | exact absurd (by decide) c248
            · have f250 : 2 < 3 := by
                have q : _ := c248
                simp only [ti_nle, ti_nlt, ti_le, ti_lt, ti_eq, ti_ne, Classical.not_not, kt_2, kt_3] at q
                omega
              refine m_iload C dX12_bells_117 rfl ?_
              refine m_iload_n C dX12_bells_119 rfl rfl ?_
              refine m_imul C dX12_bells_120 ?_
              refine m_topi (fun x251 ex251 => ?_)
              have b252 : IV x251 27 27 := by rw [ex251]; decide
              have tx251 : x251.toInt = 27 := by rw [ex251]; decide
              obtain rfl : x251 = 27 := by rw [ex251]; decide
              refine m_istore (L1 := [some (.ref (G.1 22 0)), some (.int a1), some (.int 3), some (.int a3), some (.int 27), some (.int 2), none, none, none, none, none, none, none, none]) C dX12_bells_121 (by decide) rfl rfl ?_
              obtain ⟨x253, ex253⟩ : ∃ y : Int32, y = 2 + 1 := ⟨_, rfl⟩
              have b254 : IV x253 3 3 := by rw [ex253]; decide
              have tx253 : x253.toInt = 3 := by rw [ex253]; decide
              obtain rfl : x253 = 3 := by rw [ex253]; decide
              refine m_iinc (v := 3) (L1 := [some (.ref (G.1 22 0)), some (.int a1), some (.int 3), some (.int a3), some (.int 27), some (.int 3), none, none, none, none, none, none, none, none]) C dX12_bells_123 rfl (by decide) (by decide) rfl rfl ?_
              refine m_goto (tgt := 111) C dX12_bells_126 (by decide) ?_
              refine m_iload C dX12_bells_111 rfl ?_
              refine m_iload_n C dX12_bells_113 rfl rfl ?_
              refine m_icmp_ge (tgt := 129) C dX12_bells_114 (by decide) (fun c255 => ?_) (fun c255 => ?_)
              · have f256 : 3 ≤ 3 := by
                  have q : _ := c255
                  simp only [ti_nle, ti_nlt, ti_le, ti_lt, ti_eq, ti_ne, Classical.not_not, kt_3, kt_3] at q
                  omega
                refine m_iconst (v := (-1)) C dX12_bells_129 (by decide) ?_
                refine m_istore (L1 := [some (.ref (G.1 22 0)), some (.int a1), some (.int 3), some (.int a3), some (.int 27), some (.int (-1)), none, none, none, none, none, none, none, none]) C dX12_bells_130 (by decide) rfl rfl ?_
                refine m_iconst (v := 0) C dX12_bells_132 (by decide) ?_
                refine m_istore (L1 := [some (.ref (G.1 22 0)), some (.int a1), some (.int 3), some (.int a3), some (.int 27), some (.int (-1)), some (.int 0), none, none, none, none, none, none, none]) C dX12_bells_133 (by decide) rfl rfl ?_
                refine m_iconst (v := 0) C dX12_bells_135 (by decide) ?_
                refine m_istore (L1 := [some (.ref (G.1 22 0)), some (.int a1), some (.int 3), some (.int a3), some (.int 27), some (.int (-1)), some (.int 0), some (.int 0), none, none, none, none, none, none]) C dX12_bells_136 (by decide) rfl rfl ?_
                exact J138 ((27 - (0 : Int32).toInt).toNat + 1) τ226 (-1) 0 0 i227 g231 b_a1 b_a3 (iv_wk kc_m1 (by decide)) (iv_wk kc_0 (by decide)) (iv_wk kc_0 (by decide)) (Nat.lt_succ_self _)
              · first | exact absurd c255 (by decide) | exact absurd (by decide) c255
      · have f258 : y4.toInt < 3 := by
          have q : _ := c223
          simp only [ti_nle, ti_nlt, ti_le, ti_lt, ti_eq, ti_ne, Classical.not_not, kt_3] at q
          omega
        have b259 : IV y4 0 2 := ⟨by have q1 := b_y4; have q2 := kc_3; omega, by have q1 := b_y4; have q2 := kc_3; omega⟩
        refine m_aload_n C dX12_bells_67 rfl rfl ?_
        refine g_22_2 C q4_118 dX12_bells_68 ?_
        refine m_bipush (v := 40) C dX12_bells_71 (by decide) ?_
        refine m_iload_n C dX12_bells_73 rfl rfl ?_
        refine m_imul C dX12_bells_74 ?_
        refine m_topi (fun x260 ex260 => ?_)
        have tx260 : x260.toInt = 40 * a1.toInt := by rw [ex260, ti_mulv kc_40 b_a1 (by decide), kt_40]
        have b261 : IV x260 0 280 := by rw [ex260]; exact iv_mul kc_40 b_a1 (by decide)
        refine m_iload C dX12_bells_75 rfl ?_
        refine m_iadd C dX12_bells_77 ?_
        refine m_topi (fun x262 ex262 => ?_)
        have tx262 : x262.toInt = x260.toInt + y4.toInt := by rw [ex262, ti_addv b261 b259 (by decide)]
        have b263 : IV x262 0 282 := by rw [ex262]; exact iv_add b261 b259 (by decide)
        refine al_25 C b263 (by decide) rfl dX12_bells_78 ?_
        refine m_topi (fun x264 ex264 => ?_)
        refine m_i2l C dX12_bells_79 ?_
        refine m_lconst (v := 1) C dX12_bells_80 (by decide) ?_
        refine m_ldc2 (v := 20) C dX12_bells_81 q5_174 ?_
        refine m_callS (n := 3) (st := []) C (c_X12_in l G τ ((x264 : Int32).toInt64) (1) (20) iτ ) q4_190 q4_188 q4_189 q1_7 (by decide +kernel) rfl (by decide) (by decide) rfl (Nat.le_of_ble_eq_true rfl) dX12_bells_84 ?_
        rintro _ τ265 ⟨x268, rfl, i266, f267, b269, h271⟩
        have g270 : Fr MS_X12_bells_3 AS_X12_bells_3 σ τ265 := Fr.call (fτ) f267 (by decide)
        have f272 := tl_i x264
        have f273 := kl_1
        have f274 := kl_20
        show MW p l e _ s m args below meth c _ 14 G 0 0 87 [some (.ref (G.1 22 0)), some (.int a1), some (.int 3), some (.int a3), some (.int y4), none, none, none, none, none, none, none, none, none] [.int x268] τ265
        refine m_if_ne (tgt := 93) C dX12_bells_87 (by decide) (fun c275 => ?_) (fun c275 => ?_)
        · have f276 : x268.toInt ≠ 0 := by
            have q : _ := c275
            simp only [ti_nle, ti_nlt, ti_le, ti_lt, ti_eq, ti_ne, Classical.not_not, kt_0] at q
            omega
          have b277 : IV x268 1 1 := ⟨by have q1 := b269; have q2 := kc_0; omega, by have q1 := b269; have q2 := kc_0; omega⟩
          have b278 : IV x264 1 20 := ⟨by have q1 := (iv_any x264); omega, by have q1 := (iv_any x264); omega⟩
          obtain ⟨x279, ex279⟩ : ∃ y : Int32, y = y4 + 1 := ⟨_, rfl⟩
          have tx279 : x279.toInt = y4.toInt + 1 := by rw [ex279, ti_addv b259 kc_1 (by decide), kt_1]
          have b280 : IV x279 1 3 := by rw [ex279]; exact iv_add b259 kc_1 (by decide)
          refine m_iinc (v := x279) (L1 := [some (.ref (G.1 22 0)), some (.int a1), some (.int 3), some (.int a3), some (.int x279), none, none, none, none, none, none, none, none, none]) C dX12_bells_93 rfl (by rw [ex279]; rfl) (by decide) rfl rfl ?_
          refine m_goto (tgt := 61) C dX12_bells_96 (by decide) ?_
          exact ih61 τ265 x279 i266 g270 b_a1 b_a3 (iv_wk b280 (by decide)) (by have q := hm61; omega)
        · have f281 : x268.toInt = 0 := by
            have q : _ := c275
            simp only [ti_nle, ti_nlt, ti_le, ti_lt, ti_eq, ti_ne, Classical.not_not, kt_0] at q
            omega
          have b282 : IV x268 0 0 := ⟨by have q1 := b269; have q2 := kc_0; omega, by have q1 := b269; have q2 := kc_0; omega⟩
          refine m_ldc (v := (-1000001)) C dX12_bells_90 q4_192 ?_
          exact m_iret C hr hlk (by decide) (by decide) dX12_bells_92 ⟨_, rfl, i266, g270, (iv_wk kc_m1000001 (by decide))⟩
  refine m_iload_n C dX12_bells_0 rfl rfl ?_
  refine m_callS (n := 1) (st := []) C (c_X12_isRow l G σ (a1) hI ) q4_186 q4_184 q4_185 q1_7 (by decide +kernel) rfl (by decide) (by decide) rfl (Nat.le_of_ble_eq_true rfl) dX12_bells_1 ?_
  rintro _ τ283 ⟨x286, rfl, i284, f285, b287, h289⟩
  have g288 : Fr MS_X12_bells_3 AS_X12_bells_3 σ τ283 := Fr.call (Fr.rf) f285 (by decide)
  show MW p l e _ s m args below meth c _ 14 G 0 0 4 [some (.ref (G.1 22 0)), some (.int a1), some (.int 3), some (.int a3), none, none, none, none, none, none, none, none, none, none] [.int x286] τ283
  refine m_if_eq (tgt := 24) C dX12_bells_4 (by decide) (fun c290 => ?_) (fun c290 => ?_)
  · have f291 : x286.toInt = 0 := by
      have q : _ := c290
      simp only [ti_nle, ti_nlt, ti_le, ti_lt, ti_eq, ti_ne, Classical.not_not, kt_0] at q
      omega
    have b292 : IV x286 0 0 := ⟨by have q1 := b287; have q2 := kc_0; omega, by have q1 := b287; have q2 := kc_0; omega⟩
    refine m_ldc (v := (-1000001)) C dX12_bells_24 q4_192 ?_
    exact m_iret C hr hlk (by decide) (by decide) dX12_bells_26 ⟨_, rfl, i284, g288, (iv_wk kc_m1000001 (by decide))⟩
  · have f293 : x286.toInt ≠ 0 := by
      have q : _ := c290
      simp only [ti_nle, ti_nlt, ti_le, ti_lt, ti_eq, ti_ne, Classical.not_not, kt_0] at q
      omega
    have b294 : IV x286 1 1 := ⟨by have q1 := b287; have q2 := kc_0; omega, by have q1 := b287; have q2 := kc_0; omega⟩
    have b295 : IV a1 0 7 := ⟨by have q1 := (iv_any a1); omega, by have q1 := (iv_any a1); omega⟩
    refine m_iload_n C dX12_bells_7 rfl rfl ?_
    refine m_i2l C dX12_bells_8 ?_
    refine m_lconst (v := 1) C dX12_bells_9 (by decide) ?_
    refine m_ldc2 (v := 5) C dX12_bells_10 q5_173 ?_
    refine m_callS (n := 3) (st := []) C (c_X12_in l G τ283 ((3 : Int32).toInt64) (1) (5) i284 ) q4_190 q4_188 q4_189 q1_7 (by decide +kernel) rfl (by decide) (by decide) rfl (Nat.le_of_ble_eq_true rfl) dX12_bells_13 ?_
    rintro _ τ296 ⟨x299, rfl, i297, f298, b300, h302⟩
    have g301 : Fr MS_X12_bells_3 AS_X12_bells_3 σ τ296 := Fr.call (g288) f298 (by decide)
    have f303 := tl_i 3
    have kf303 := kt_3
    have f304 := kl_1
    have f305 := kl_5
    show MW p l e _ s m args below meth c _ 14 G 0 0 16 [some (.ref (G.1 22 0)), some (.int a1), some (.int 3), some (.int a3), none, none, none, none, none, none, none, none, none, none] [.int x299] τ296
    refine m_if_eq (tgt := 24) C dX12_bells_16 (by decide) (fun c306 => ?_) (fun c306 => ?_)
    · have f307 : x299.toInt = 0 := by
        have q : _ := c306
        simp only [ti_nle, ti_nlt, ti_le, ti_lt, ti_eq, ti_ne, Classical.not_not, kt_0] at q
        omega
      have b308 : IV x299 0 0 := ⟨by have q1 := b300; have q2 := kc_0; omega, by have q1 := b300; have q2 := kc_0; omega⟩
      refine m_ldc (v := (-1000001)) C dX12_bells_24 q4_192 ?_
      exact m_iret C hr hlk (by decide) (by decide) dX12_bells_26 ⟨_, rfl, i297, g301, (iv_wk kc_m1000001 (by decide))⟩
    · have f309 : x299.toInt ≠ 0 := by
        have q : _ := c306
        simp only [ti_nle, ti_nlt, ti_le, ti_lt, ti_eq, ti_ne, Classical.not_not, kt_0] at q
        omega
      have b310 : IV x299 1 1 := ⟨by have q1 := b300; have q2 := kc_0; omega, by have q1 := b300; have q2 := kc_0; omega⟩
      refine m_iload_n C dX12_bells_19 rfl rfl ?_
      refine m_iconst (v := (-1)) C dX12_bells_20 (by decide) ?_
      refine m_icmp_ge (tgt := 27) C dX12_bells_21 (by decide) (fun c311 => ?_) (fun c311 => ?_)
      · have f312 : -1 ≤ a3.toInt := by
          have q : _ := c311
          simp only [ti_nle, ti_nlt, ti_le, ti_lt, ti_eq, ti_ne, Classical.not_not, kt_m1] at q
          omega
        have b313 : IV a3 (-1) 2147483647 := ⟨by have q1 := kc_m1; have q2 := (iv_any a3); omega, by have q1 := kc_m1; have q2 := (iv_any a3); omega⟩
        refine m_aload_n C dX12_bells_27 rfl rfl ?_
        refine g_22_3 C q4_119 dX12_bells_28 ?_
        refine m_iload_n C dX12_bells_31 rfl rfl ?_
        refine al_26 C b295 (by decide) rfl dX12_bells_32 ?_
        refine m_topi (fun x314 ex314 => ?_)
        refine m_if_ge (tgt := 42) C dX12_bells_33 (by decide) (fun c315 => ?_) (fun c315 => ?_)
        · have f316 : 0 ≤ x314.toInt := by
            have q : _ := c315
            simp only [ti_nle, ti_nlt, ti_le, ti_lt, ti_eq, ti_ne, Classical.not_not, kt_0] at q
            omega
          have b317 : IV x314 0 2147483647 := ⟨by have q1 := kc_0; have q2 := (iv_any x314); omega, by have q1 := kc_0; have q2 := (iv_any x314); omega⟩
          refine m_aload_n C dX12_bells_42 rfl rfl ?_
          refine g_22_4 C q4_120 dX12_bells_43 ?_
          refine m_iload_n C dX12_bells_46 rfl rfl ?_
          refine al_27 C b295 (by decide) rfl dX12_bells_47 ?_
          refine m_topi (fun x318 ex318 => ?_)
          have b319 : IV x318 0 40 := by rw [ex318]; exact i297.1 27 0 _
          refine m_iload_n C dX12_bells_48 rfl rfl ?_
          refine m_icmp_ge (tgt := 58) C dX12_bells_49 (by decide) (fun c320 => ?_) (fun c320 => ?_)
          · have f321 : 3 ≤ x318.toInt := by
              have q : _ := c320
              simp only [ti_nle, ti_nlt, ti_le, ti_lt, ti_eq, ti_ne, Classical.not_not, kt_3] at q
              omega
            have b322 : IV x318 3 40 := ⟨by have q1 := kc_3; have q2 := b319; omega, by have q1 := kc_3; have q2 := b319; omega⟩
            refine m_iconst (v := 0) C dX12_bells_58 (by decide) ?_
            refine m_istore (L1 := [some (.ref (G.1 22 0)), some (.int a1), some (.int 3), some (.int a3), some (.int 0), none, none, none, none, none, none, none, none, none]) C dX12_bells_59 (by decide) rfl rfl ?_
            exact J61 ((3 - (0 : Int32).toInt).toNat + 1) τ296 0 i297 g301 b295 b313 (iv_wk kc_0 (by decide)) (Nat.lt_succ_self _)
          · have f323 : x318.toInt < 3 := by
              have q : _ := c320
              simp only [ti_nle, ti_nlt, ti_le, ti_lt, ti_eq, ti_ne, Classical.not_not, kt_3] at q
              omega
            have b324 : IV x318 0 2 := ⟨by have q1 := b319; have q2 := kc_3; omega, by have q1 := b319; have q2 := kc_3; omega⟩
            refine m_aload_n C dX12_bells_52 rfl rfl ?_
            refine m_iconst (v := 2) C dX12_bells_53 (by decide) ?_
            refine m_callV (n := 1) (ci := 11) (st := []) C (c_X12_met l G τ296 (2) i297 (iv_wk kc_2 (by decide))) (by decide) (by decide) rfl rfl rfl q4_196 q4_193 q4_195 q0_26 q1_7 (by decide +kernel) rfl (by decide) (by decide) rfl (Nat.le_of_ble_eq_true rfl) dX12_bells_54 ?_
            rintro _ τ325 ⟨x328, rfl, i326, f327, b329, h331⟩
            have g330 : Fr MS_X12_bells_3 AS_X12_bells_3 σ τ325 := Fr.call (g301) f327 (by decide)
            have q332 := kt_2
            show MW p l e _ s m args below meth c _ 14 G 0 0 57 [some (.ref (G.1 22 0)), some (.int a1), some (.int 3), some (.int a3), none, none, none, none, none, none, none, none, none, none] [.int x328] τ325
            exact m_iret C hr hlk (by decide) (by decide) dX12_bells_57 ⟨_, rfl, i326, g330, (iv_wk b329 (by decide))⟩
        · have f333 : x314.toInt < 0 := by
            have q : _ := c315
            simp only [ti_nle, ti_nlt, ti_le, ti_lt, ti_eq, ti_ne, Classical.not_not, kt_0] at q
            omega
          have b334 : IV x314 (-2147483648) (-1) := ⟨by have q1 := (iv_any x314); have q2 := kc_0; omega, by have q1 := (iv_any x314); have q2 := kc_0; omega⟩
          refine m_aload_n C dX12_bells_36 rfl rfl ?_
          refine m_iconst (v := 1) C dX12_bells_37 (by decide) ?_
          refine m_callV (n := 1) (ci := 11) (st := []) C (c_X12_met l G τ296 (1) i297 (iv_wk kc_1 (by decide))) (by decide) (by decide) rfl rfl rfl q4_196 q4_193 q4_195 q0_26 q1_7 (by decide +kernel) rfl (by decide) (by decide) rfl (Nat.le_of_ble_eq_true rfl) dX12_bells_38 ?_
          rintro _ τ335 ⟨x338, rfl, i336, f337, b339, h341⟩
          have g340 : Fr MS_X12_bells_3 AS_X12_bells_3 σ τ335 := Fr.call (g301) f337 (by decide)
          have q342 := kt_1
          show MW p l e _ s m args below meth c _ 14 G 0 0 41 [some (.ref (G.1 22 0)), some (.int a1), some (.int 3), some (.int a3), none, none, none, none, none, none, none, none, none, none] [.int x338] τ335
          exact m_iret C hr hlk (by decide) (by decide) dX12_bells_41 ⟨_, rfl, i336, g340, (iv_wk b339 (by decide))⟩
      · have f343 : a3.toInt < -1 := by
          have q : _ := c311
          simp only [ti_nle, ti_nlt, ti_le, ti_lt, ti_eq, ti_ne, Classical.not_not, kt_m1] at q
          omega
        have b344 : IV a3 (-2147483648) (-2) := ⟨by have q1 := (iv_any a3); have q2 := kc_m1; omega, by have q1 := (iv_any a3); have q2 := kc_m1; omega⟩
        refine m_ldc (v := (-1000001)) C dX12_bells_24 q4_192 ?_
        exact m_iret C hr hlk (by decide) (by decide) dX12_bells_26 ⟨_, rfl, i297, g301, (iv_wk kc_m1000001 (by decide))⟩

abbrev MS_X12_bells_4 : List (Nat × Nat) := [(22, 8)]
abbrev AS_X12_bells_4 : List Nat := []
set_option maxHeartbeats 4000000 in
set_option maxRecDepth 100000 in
theorem c_X12_bells_4 (l : Launch) (G : Gt) (σ : Sg) (a1 : Int32) (a3 : Int32) (hI : Inv σ) : Mc l G yX12_bells cX12_bells 14 (some .int) 2 60 0 0 [.ref (G.1 22 0), .int a1, .int 4, .int a3] σ (PI fun r τ => Inv τ ∧ Fr MS_X12_bells_4 AS_X12_bells_4 σ τ ∧ IV r (-2147483648) 2147483647) := by
  refine Mc.of (L0 := [some (.ref (G.1 22 0)), some (.int a1), some (.int 4), some (.int a3), none, none, none, none, none, none, none, none, none, none]) (by decide) (Nat.le_of_ble_eq_true rfl) rfl ?_
  intro p e s m args below meth c C hr hlk
  have C : Cx p s m args c cX12_bells 14 "LeanTowerModel" := C
  have k0 : (0 : Int32).toInt = 0 := by decide
  have k1 : (1 : Int32).toInt = 1 := by decide
  have J138 : ∀ (n : Nat) (τ : Sg) (y5 : Int32) (y6 : Int32) (y7 : Int32), Inv τ → Fr MS_X12_bells_4 AS_X12_bells_4 σ τ → IV a1 0 7 → IV a3 (-1) 2147483647 → IV y5 (-1) 256 → IV y6 (-2147483648) 2147483647 → IV y7 0 256 → (256 - y7.toInt).toNat < n → MW p l e { frames := 2, cells := 0, slots := 0, locals := 60 } s m args below meth c (MQ below (QP G (PI fun r τ => Inv τ ∧ Fr MS_X12_bells_4 AS_X12_bells_4 σ τ ∧ IV r (-2147483648) 2147483647)) args s 0 0 (aG G)) 14 G 0 0 138 [some (.ref (G.1 22 0)), some (.int a1), some (.int 4), some (.int a3), some (.int 256), some (.int y5), some (.int y6), some (.int y7), none, none, none, none, none, none] [] τ := by
    intro n
    induction n with
    | zero => intro τ y5 y6 y7 iτ fτ b_a1 b_a3 b_y5 b_y6 b_y7 hm; exact absurd hm (Nat.not_lt_zero _)
    | succ n ih138 =>
      intro τ y5 y6 y7 iτ fτ b_a1 b_a3 b_y5 b_y6 b_y7 hm138
      refine m_iload C dX12_bells_138 rfl ?_
      refine m_iload C dX12_bells_140 rfl ?_
      refine m_icmp_ge (tgt := 285) C dX12_bells_142 (by decide) (fun c1 => ?_) (fun c1 => ?_)
      · have f2 : 256 ≤ y7.toInt := by
          have q : _ := c1
          simp only [ti_nle, ti_nlt, ti_le, ti_lt, ti_eq, ti_ne, Classical.not_not, kt_256] at q
          omega
        have b3 : IV y7 256 256 := ⟨by have q1 := kc_256; have q2 := b_y7; omega, by have q1 := kc_256; have q2 := b_y7; omega⟩
        refine m_iload_n C dX12_bells_285 rfl rfl ?_
        refine m_if_ge (tgt := 292) C dX12_bells_286 (by decide) (fun c4 => ?_) (fun c4 => ?_)
        · have f5 : 0 ≤ a3.toInt := by
            have q : _ := c4
            simp only [ti_nle, ti_nlt, ti_le, ti_lt, ti_eq, ti_ne, Classical.not_not, kt_0] at q
            omega
          have b6 : IV a3 0 2147483647 := ⟨by have q1 := kc_0; have q2 := b_a3; omega, by have q1 := kc_0; have q2 := b_a3; omega⟩
          refine m_iload C dX12_bells_292 rfl ?_
          refine m_istore (L1 := [some (.ref (G.1 22 0)), some (.int a1), some (.int 4), some (.int a3), some (.int 256), some (.int y5), some (.int y6), some (.int 256), none, none, none, none, none, none]) C dX12_bells_294 (by decide) rfl rfl ?_
          refine m_iconst (v := 0) C dX12_bells_296 (by decide) ?_
          refine m_istore (L1 := [some (.ref (G.1 22 0)), some (.int a1), some (.int 4), some (.int a3), some (.int 256), some (.int y5), some (.int y6), some (.int 256), some (.int 0), none, none, none, none, none]) C dX12_bells_297 (by decide) rfl rfl ?_
          refine m_iload C dX12_bells_299 rfl ?_
          refine m_iload_n C dX12_bells_301 rfl rfl ?_
          refine m_icmp_gt (tgt := 323) C dX12_bells_302 (by decide) (fun c7 => ?_) (fun c7 => ?_)
          · exfalso
            have q : _ := c7
            simp only [ti_nle, ti_nlt, ti_le, ti_lt, ti_eq, ti_ne, Classical.not_not, kt_0] at q
            have q1 := kc_0; have q2 := b6; omega
          · have f9 : 0 ≤ a3.toInt := by
              have q : _ := c7
              simp only [ti_nle, ti_nlt, ti_le, ti_lt, ti_eq, ti_ne, Classical.not_not, kt_0] at q
              omega
            refine m_iload C dX12_bells_305 rfl ?_
            refine m_iload_n C dX12_bells_307 rfl rfl ?_
            refine m_icmp_ge (tgt := 323) C dX12_bells_308 (by decide) (fun c10 => ?_) (fun c10 => ?_)
            · first | exact absurd c10 (by decide) | exact absurd (by decide) c10
            · have f12 : 0 < 4 := by
                have q : _ := c10
                simp only [ti_nle, ti_nlt, ti_le, ti_lt, ti_eq, ti_ne, Classical.not_not, kt_0, kt_4] at q
                omega
              refine m_iload C dX12_bells_311 rfl ?_
              refine m_iload_n C dX12_bells_313 rfl rfl ?_
              refine m_idiv C dX12_bells_314 (iv_nz kc_4 (by decide)) ?_
              refine m_topi (fun x13 ex13 => ?_)
              have b14 : IV x13 64 64 := by rw [ex13]; decide
              have tx13 : x13.toInt = 64 := by rw [ex13]; decide
              obtain rfl : x13 = 64 := by rw [ex13]; decide
              refine m_istore (L1 := [some (.ref (G.1 22 0)), some (.int a1), some (.int 4), some (.int a3), some (.int 256), some (.int y5), some (.int y6), some (.int 64), some (.int 0), none, none, none, none, none]) C dX12_bells_315 (by decide) rfl rfl ?_
              obtain ⟨x15, ex15⟩ : ∃ y : Int32, y = 0 + 1 := ⟨_, rfl⟩
              have b16 : IV x15 1 1 := by rw [ex15]; decide
              have tx15 : x15.toInt = 1 := by rw [ex15]; decide
              obtain rfl : x15 = 1 := by rw [ex15]; decide
              refine m_iinc (v := 1) (L1 := [some (.ref (G.1 22 0)), some (.int a1), some (.int 4), some (.int a3), some (.int 256), some (.int y5), some (.int y6), some (.int 64), some (.int 1), none, none, none, none, none]) C dX12_bells_317 rfl (by decide) (by decide) rfl rfl ?_
              refine m_goto (tgt := 299) C dX12_bells_320 (by decide) ?_
              refine m_iload C dX12_bells_299 rfl ?_
              refine m_iload_n C dX12_bells_301 rfl rfl ?_
              refine m_icmp_gt (tgt := 323) C dX12_bells_302 (by decide) (fun c17 => ?_) (fun c17 => ?_)
              · have f18 : a3.toInt < 1 := by
                  have q : _ := c17
                  simp only [ti_nle, ti_nlt, ti_le, ti_lt, ti_eq, ti_ne, Classical.not_not, kt_1] at q
                  omega
                have b19 : IV a3 0 0 := ⟨by have q1 := b6; have q2 := kc_1; omega, by have q1 := b6; have q2 := kc_1; omega⟩
                refine m_iload_n C dX12_bells_323 rfl rfl ?_
                refine m_iload_n C dX12_bells_324 rfl rfl ?_
                refine m_icmp_ge (tgt := 338) C dX12_bells_325 (by decide) (fun c20 => ?_) (fun c20 => ?_)
                · exfalso
                  have q : _ := c20
                  simp only [ti_nle, ti_nlt, ti_le, ti_lt, ti_eq, ti_ne, Classical.not_not, kt_4] at q
                  have q1 := b19; have q2 := kc_4; omega
                · have f22 : a3.toInt < 4 := by
                    have q : _ := c20
                    simp only [ti_nle, ti_nlt, ti_le, ti_lt, ti_eq, ti_ne, Classical.not_not, kt_4] at q
                    omega
                  refine m_iload C dX12_bells_328 rfl ?_
                  refine m_iload C dX12_bells_330 rfl ?_
                  refine m_idiv C dX12_bells_332 (iv_nz kc_64 (by decide)) ?_
                  refine m_topi (fun x23 ex23 => ?_)
                  refine m_iload_n C dX12_bells_333 rfl rfl ?_
                  refine m_irem C dX12_bells_334 (iv_nz kc_4 (by decide)) ?_
                  refine m_topi (fun x24 ex24 => ?_)
                  refine m_goto (tgt := 340) C dX12_bells_335 (by decide) ?_
                  exact m_iret C hr hlk (by decide) (by decide) dX12_bells_340 ⟨_, rfl, iτ, fτ, (iv_any x24)⟩
              · have f25 : 1 ≤ a3.toInt := by
                  have q : _ := c17
                  simp only [ti_nle, ti_nlt, ti_le, ti_lt, ti_eq, ti_ne, Classical.not_not, kt_1] at q
                  omega
                have b26 : IV a3 1 2147483647 := ⟨by have q1 := kc_1; have q2 := b6; omega, by have q1 := kc_1; have q2 := b6; omega⟩
                refine m_iload C dX12_bells_305 rfl ?_
                refine m_iload_n C dX12_bells_307 rfl rfl ?_
                refine m_icmp_ge (tgt := 323) C dX12_bells_308 (by decide) (fun c27 => ?_) (fun c27 => ?_)
                · first | exact absurd c27 (by decide) | exact absurd (by decide) c27
                · have f29 : 1 < 4 := by
                    have q : _ := c27
                    simp only [ti_nle, ti_nlt, ti_le, ti_lt, ti_eq, ti_ne, Classical.not_not, kt_1, kt_4] at q
                    omega
                  refine m_iload C dX12_bells_311 rfl ?_
                  refine m_iload_n C dX12_bells_313 rfl rfl ?_
                  refine m_idiv C dX12_bells_314 (iv_nz kc_4 (by decide)) ?_
                  refine m_topi (fun x30 ex30 => ?_)
                  have b31 : IV x30 16 16 := by rw [ex30]; decide
                  have tx30 : x30.toInt = 16 := by rw [ex30]; decide
                  obtain rfl : x30 = 16 := by rw [ex30]; decide
                  refine m_istore (L1 := [some (.ref (G.1 22 0)), some (.int a1), some (.int 4), some (.int a3), some (.int 256), some (.int y5), some (.int y6), some (.int 16), some (.int 1), none, none, none, none, none]) C dX12_bells_315 (by decide) rfl rfl ?_
                  obtain ⟨x32, ex32⟩ : ∃ y : Int32, y = 1 + 1 := ⟨_, rfl⟩
                  have b33 : IV x32 2 2 := by rw [ex32]; decide
                  have tx32 : x32.toInt = 2 := by rw [ex32]; decide
                  obtain rfl : x32 = 2 := by rw [ex32]; decide
                  refine m_iinc (v := 2) (L1 := [some (.ref (G.1 22 0)), some (.int a1), some (.int 4), some (.int a3), some (.int 256), some (.int y5), some (.int y6), some (.int 16), some (.int 2), none, none, none, none, none]) C dX12_bells_317 rfl (by decide) (by decide) rfl rfl ?_
                  refine m_goto (tgt := 299) C dX12_bells_320 (by decide) ?_
                  refine m_iload C dX12_bells_299 rfl ?_
                  refine m_iload_n C dX12_bells_301 rfl rfl ?_
                  refine m_icmp_gt (tgt := 323) C dX12_bells_302 (by decide) (fun c34 => ?_) (fun c34 => ?_)
                  · have f35 : a3.toInt < 2 := by
                      have q : _ := c34
                      simp only [ti_nle, ti_nlt, ti_le, ti_lt, ti_eq, ti_ne, Classical.not_not, kt_2] at q
                      omega
                    have b36 : IV a3 1 1 := ⟨by have q1 := b26; have q2 := kc_2; omega, by have q1 := b26; have q2 := kc_2; omega⟩
                    refine m_iload_n C dX12_bells_323 rfl rfl ?_
                    refine m_iload_n C dX12_bells_324 rfl rfl ?_
                    refine m_icmp_ge (tgt := 338) C dX12_bells_325 (by decide) (fun c37 => ?_) (fun c37 => ?_)
                    · exfalso
                      have q : _ := c37
                      simp only [ti_nle, ti_nlt, ti_le, ti_lt, ti_eq, ti_ne, Classical.not_not, kt_4] at q
                      have q1 := b36; have q2 := kc_4; omega
                    · have f39 : a3.toInt < 4 := by
                        have q : _ := c37
                        simp only [ti_nle, ti_nlt, ti_le, ti_lt, ti_eq, ti_ne, Classical.not_not, kt_4] at q
                        omega
                      refine m_iload C dX12_bells_328 rfl ?_
                      refine m_iload C dX12_bells_330 rfl ?_
                      refine m_idiv C dX12_bells_332 (iv_nz kc_16 (by decide)) ?_
                      refine m_topi (fun x40 ex40 => ?_)
                      refine m_iload_n C dX12_bells_333 rfl rfl ?_
                      refine m_irem C dX12_bells_334 (iv_nz kc_4 (by decide)) ?_
                      refine m_topi (fun x41 ex41 => ?_)
                      refine m_goto (tgt := 340) C dX12_bells_335 (by decide) ?_
                      exact m_iret C hr hlk (by decide) (by decide) dX12_bells_340 ⟨_, rfl, iτ, fτ, (iv_any x41)⟩
                  · have f42 : 2 ≤ a3.toInt := by
                      have q : _ := c34
                      simp only [ti_nle, ti_nlt, ti_le, ti_lt, ti_eq, ti_ne, Classical.not_not, kt_2] at q
                      omega
                    have b43 : IV a3 2 2147483647 := ⟨by have q1 := kc_2; have q2 := b26; omega, by have q1 := kc_2; have q2 := b26; omega⟩
                    refine m_iload C dX12_bells_305 rfl ?_
                    refine m_iload_n C dX12_bells_307 rfl rfl ?_
                    refine m_icmp_ge (tgt := 323) C dX12_bells_308 (by decide) (fun c44 => ?_) (fun c44 => ?_)
                    · first | exact absurd c44 (by decide) | exact absurd (by decide) c44
                    · have f46 : 2 < 4 := by
                        have q : _ := c44
                        simp only [ti_nle, ti_nlt, ti_le, ti_lt, ti_eq, ti_ne, Classical.not_not, kt_2, kt_4] at q
                        omega
                      refine m_iload C dX12_bells_311 rfl ?_
                      refine m_iload_n C dX12_bells_313 rfl rfl ?_
                      refine m_idiv C dX12_bells_314 (iv_nz kc_4 (by decide)) ?_
                      refine m_topi (fun x47 ex47 => ?_)
                      have b48 : IV x47 4 4 := by rw [ex47]; decide
                      have tx47 : x47.toInt = 4 := by rw [ex47]; decide
                      obtain rfl : x47 = 4 := by rw [ex47]; decide
                      refine m_istore (L1 := [some (.ref (G.1 22 0)), some (.int a1), some (.int 4), some (.int a3), some (.int 256), some (.int y5), some (.int y6), some (.int 4), some (.int 2), none, none, none, none, none]) C dX12_bells_315 (by decide) rfl rfl ?_
                      obtain ⟨x49, ex49⟩ : ∃ y : Int32, y = 2 + 1 := ⟨_, rfl⟩
                      have b50 : IV x49 3 3 := by rw [ex49]; decide
                      have tx49 : x49.toInt = 3 := by rw [ex49]; decide
                      obtain rfl : x49 = 3 := by rw [ex49]; decide
                      refine m_iinc (v := 3) (L1 := [some (.ref (G.1 22 0)), some (.int a1), some (.int 4), some (.int a3), some (.int 256), some (.int y5), some (.int y6), some (.int 4), some (.int 3), none, none, none, none, none]) C dX12_bells_317 rfl (by decide) (by decide) rfl rfl ?_
                      refine m_goto (tgt := 299) C dX12_bells_320 (by decide) ?_
                      refine m_iload C dX12_bells_299 rfl ?_
                      refine m_iload_n C dX12_bells_301 rfl rfl ?_
                      refine m_icmp_gt (tgt := 323) C dX12_bells_302 (by decide) (fun c51 => ?_) (fun c51 => ?_)
                      · have f52 : a3.toInt < 3 := by
                          have q : _ := c51
                          simp only [ti_nle, ti_nlt, ti_le, ti_lt, ti_eq, ti_ne, Classical.not_not, kt_3] at q
                          omega
                        have b53 : IV a3 2 2 := ⟨by have q1 := b43; have q2 := kc_3; omega, by have q1 := b43; have q2 := kc_3; omega⟩
                        refine m_iload_n C dX12_bells_323 rfl rfl ?_
                        refine m_iload_n C dX12_bells_324 rfl rfl ?_
                        refine m_icmp_ge (tgt := 338) C dX12_bells_325 (by decide) (fun c54 => ?_) (fun c54 => ?_)
                        · exfalso
                          have q : _ := c54
                          simp only [ti_nle, ti_nlt, ti_le, ti_lt, ti_eq, ti_ne, Classical.not_not, kt_4] at q
                          have q1 := b53; have q2 := kc_4; omega
                        · have f56 : a3.toInt < 4 := by
                            have q : _ := c54
                            simp only [ti_nle, ti_nlt, ti_le, ti_lt, ti_eq, ti_ne, Classical.not_not, kt_4] at q
                            omega
                          refine m_iload C dX12_bells_328 rfl ?_
                          refine m_iload C dX12_bells_330 rfl ?_
                          refine m_idiv C dX12_bells_332 (iv_nz kc_4 (by decide)) ?_
                          refine m_topi (fun x57 ex57 => ?_)
                          refine m_iload_n C dX12_bells_333 rfl rfl ?_
                          refine m_irem C dX12_bells_334 (iv_nz kc_4 (by decide)) ?_
                          refine m_topi (fun x58 ex58 => ?_)
                          refine m_goto (tgt := 340) C dX12_bells_335 (by decide) ?_
                          exact m_iret C hr hlk (by decide) (by decide) dX12_bells_340 ⟨_, rfl, iτ, fτ, (iv_any x58)⟩
                      · have f59 : 3 ≤ a3.toInt := by
                          have q : _ := c51
                          simp only [ti_nle, ti_nlt, ti_le, ti_lt, ti_eq, ti_ne, Classical.not_not, kt_3] at q
                          omega
                        have b60 : IV a3 3 2147483647 := ⟨by have q1 := kc_3; have q2 := b43; omega, by have q1 := kc_3; have q2 := b43; omega⟩
                        refine m_iload C dX12_bells_305 rfl ?_
                        refine m_iload_n C dX12_bells_307 rfl rfl ?_
                        refine m_icmp_ge (tgt := 323) C dX12_bells_308 (by decide) (fun c61 => ?_) (fun c61 => ?_)
                        · first | exact absurd c61 (by decide) | exact absurd (by decide) c61
                        · have f63 : 3 < 4 := by
                            have q : _ := c61
                            simp only [ti_nle, ti_nlt, ti_le, ti_lt, ti_eq, ti_ne, Classical.not_not, kt_3, kt_4] at q
                            omega
                          refine m_iload C dX12_bells_311 rfl ?_
                          refine m_iload_n C dX12_bells_313 rfl rfl ?_
                          refine m_idiv C dX12_bells_314 (iv_nz kc_4 (by decide)) ?_
                          refine m_topi (fun x64 ex64 => ?_)
                          have b65 : IV x64 1 1 := by rw [ex64]; decide
                          have tx64 : x64.toInt = 1 := by rw [ex64]; decide
                          obtain rfl : x64 = 1 := by rw [ex64]; decide
                          refine m_istore (L1 := [some (.ref (G.1 22 0)), some (.int a1), some (.int 4), some (.int a3), some (.int 256), some (.int y5), some (.int y6), some (.int 1), some (.int 3), none, none, none, none, none]) C dX12_bells_315 (by decide) rfl rfl ?_
                          obtain ⟨x66, ex66⟩ : ∃ y : Int32, y = 3 + 1 := ⟨_, rfl⟩
                          have b67 : IV x66 4 4 := by rw [ex66]; decide
                          have tx66 : x66.toInt = 4 := by rw [ex66]; decide
                          obtain rfl : x66 = 4 := by rw [ex66]; decide
                          refine m_iinc (v := 4) (L1 := [some (.ref (G.1 22 0)), some (.int a1), some (.int 4), some (.int a3), some (.int 256), some (.int y5), some (.int y6), some (.int 1), some (.int 4), none, none, none, none, none]) C dX12_bells_317 rfl (by decide) (by decide) rfl rfl ?_
                          refine m_goto (tgt := 299) C dX12_bells_320 (by decide) ?_
                          refine m_iload C dX12_bells_299 rfl ?_
                          refine m_iload_n C dX12_bells_301 rfl rfl ?_
                          refine m_icmp_gt (tgt := 323) C dX12_bells_302 (by decide) (fun c68 => ?_) (fun c68 => ?_)
                          · have f69 : a3.toInt < 4 := by
                              have q : _ := c68
                              simp only [ti_nle, ti_nlt, ti_le, ti_lt, ti_eq, ti_ne, Classical.not_not, kt_4] at q
                              omega
                            have b70 : IV a3 3 3 := ⟨by have q1 := b60; have q2 := kc_4; omega, by have q1 := b60; have q2 := kc_4; omega⟩
                            refine m_iload_n C dX12_bells_323 rfl rfl ?_
                            refine m_iload_n C dX12_bells_324 rfl rfl ?_
                            refine m_icmp_ge (tgt := 338) C dX12_bells_325 (by decide) (fun c71 => ?_) (fun c71 => ?_)
                            · exfalso
                              have q : _ := c71
                              simp only [ti_nle, ti_nlt, ti_le, ti_lt, ti_eq, ti_ne, Classical.not_not, kt_4] at q
                              have q1 := b70; have q2 := kc_4; omega
                            · have f73 : a3.toInt < 4 := by
                                have q : _ := c71
                                simp only [ti_nle, ti_nlt, ti_le, ti_lt, ti_eq, ti_ne, Classical.not_not, kt_4] at q
                                omega
                              refine m_iload C dX12_bells_328 rfl ?_
                              refine m_iload C dX12_bells_330 rfl ?_
                              refine m_idiv C dX12_bells_332 (iv_nz kc_1 (by decide)) ?_
                              refine m_topi (fun x74 ex74 => ?_)
                              refine m_iload_n C dX12_bells_333 rfl rfl ?_
                              refine m_irem C dX12_bells_334 (iv_nz kc_4 (by decide)) ?_
                              refine m_topi (fun x75 ex75 => ?_)
                              refine m_goto (tgt := 340) C dX12_bells_335 (by decide) ?_
                              exact m_iret C hr hlk (by decide) (by decide) dX12_bells_340 ⟨_, rfl, iτ, fτ, (iv_any x75)⟩
                          · have f76 : 4 ≤ a3.toInt := by
                              have q : _ := c68
                              simp only [ti_nle, ti_nlt, ti_le, ti_lt, ti_eq, ti_ne, Classical.not_not, kt_4] at q
                              omega
                            have b77 : IV a3 4 2147483647 := ⟨by have q1 := kc_4; have q2 := b60; omega, by have q1 := kc_4; have q2 := b60; omega⟩
                            refine m_iload C dX12_bells_305 rfl ?_
                            refine m_iload_n C dX12_bells_307 rfl rfl ?_
                            refine m_icmp_ge (tgt := 323) C dX12_bells_308 (by decide) (fun c78 => ?_) (fun c78 => ?_)
                            · have f79 : 4 ≤ 4 := by
                                have q : _ := c78
                                simp only [ti_nle, ti_nlt, ti_le, ti_lt, ti_eq, ti_ne, Classical.not_not, kt_4, kt_4] at q
                                omega
                              refine m_iload_n C dX12_bells_323 rfl rfl ?_
                              refine m_iload_n C dX12_bells_324 rfl rfl ?_
                              refine m_icmp_ge (tgt := 338) C dX12_bells_325 (by decide) (fun c80 => ?_) (fun c80 => ?_)
                              · have f81 : 4 ≤ a3.toInt := by
                                  have q : _ := c80
                                  simp only [ti_nle, ti_nlt, ti_le, ti_lt, ti_eq, ti_ne, Classical.not_not, kt_4] at q
                                  omega
                                refine m_ldc (v := (-1000000)) C dX12_bells_338 q5_70 ?_
                                exact m_iret C hr hlk (by decide) (by decide) dX12_bells_340 ⟨_, rfl, iτ, fτ, (iv_wk kc_m1000000 (by decide))⟩
                              · exfalso
                                have q : _ := c80
                                simp only [ti_nle, ti_nlt, ti_le, ti_lt, ti_eq, ti_ne, Classical.not_not, kt_4] at q
                                have q1 := b77; have q2 := kc_4; omega
                            · first | exact absurd c78 (by decide) | exact absurd (by decide) c78
        · have f84 : a3.toInt < 0 := by
            have q : _ := c4
            simp only [ti_nle, ti_nlt, ti_le, ti_lt, ti_eq, ti_ne, Classical.not_not, kt_0] at q
            omega
          have b85 : IV a3 (-1) (-1) := ⟨by have q1 := b_a3; have q2 := kc_0; omega, by have q1 := b_a3; have q2 := kc_0; omega⟩
          refine m_iload C dX12_bells_289 rfl ?_
          exact m_iret C hr hlk (by decide) (by decide) dX12_bells_291 ⟨_, rfl, iτ, fτ, b_y6⟩
      · have f86 : y7.toInt < 256 := by
          have q : _ := c1
          simp only [ti_nle, ti_nlt, ti_le, ti_lt, ti_eq, ti_ne, Classical.not_not, kt_256] at q
          omega
        have b87 : IV y7 0 255 := ⟨by have q1 := b_y7; have q2 := kc_256; omega, by have q1 := b_y7; have q2 := kc_256; omega⟩
        refine m_iconst (v := 0) C dX12_bells_145 (by decide) ?_
        refine m_istore (L1 := [some (.ref (G.1 22 0)), some (.int a1), some (.int 4), some (.int a3), some (.int 256), some (.int y5), some (.int y6), some (.int y7), some (.int 0), none, none, none, none, none]) C dX12_bells_146 (by decide) rfl rfl ?_
        refine m_iload C dX12_bells_148 rfl ?_
        refine m_istore (L1 := [some (.ref (G.1 22 0)), some (.int a1), some (.int 4), some (.int a3), some (.int 256), some (.int y5), some (.int y6), some (.int y7), some (.int 0), some (.int 256), none, none, none, none]) C dX12_bells_150 (by decide) rfl rfl ?_
        refine m_iconst (v := 0) C dX12_bells_152 (by decide) ?_
        refine m_istore (L1 := [some (.ref (G.1 22 0)), some (.int a1), some (.int 4), some (.int a3), some (.int 256), some (.int y5), some (.int y6), some (.int y7), some (.int 0), some (.int 256), some (.int 0), none, none, none]) C dX12_bells_153 (by decide) rfl rfl ?_
        refine m_iconst (v := 0) C dX12_bells_155 (by decide) ?_
        refine m_istore (L1 := [some (.ref (G.1 22 0)), some (.int a1), some (.int 4), some (.int a3), some (.int 256), some (.int y5), some (.int y6), some (.int y7), some (.int 0), some (.int 256), some (.int 0), some (.int 0), none, none]) C dX12_bells_156 (by decide) rfl rfl ?_
        refine m_iconst (v := 0) C dX12_bells_158 (by decide) ?_
        refine m_istore (L1 := [some (.ref (G.1 22 0)), some (.int a1), some (.int 4), some (.int a3), some (.int 256), some (.int y5), some (.int y6), some (.int y7), some (.int 0), some (.int 256), some (.int 0), some (.int 0), some (.int 0), none]) C dX12_bells_159 (by decide) rfl rfl ?_
        refine m_iload C dX12_bells_161 rfl ?_
        refine m_iload_n C dX12_bells_163 rfl rfl ?_
        refine m_icmp_ge (tgt := 249) C dX12_bells_164 (by decide) (fun c88 => ?_) (fun c88 => ?_)
        · first | exact absurd c88 (by decide) | exact absurd (by decide) c88
        · have f90 : 0 < 4 := by
            have q : _ := c88
            simp only [ti_nle, ti_nlt, ti_le, ti_lt, ti_eq, ti_ne, Classical.not_not, kt_0, kt_4] at q
            omega
          refine m_iload C dX12_bells_167 rfl ?_
          refine m_iload_n C dX12_bells_169 rfl rfl ?_
          refine m_idiv C dX12_bells_170 (iv_nz kc_4 (by decide)) ?_
          refine m_topi (fun x91 ex91 => ?_)
          have b92 : IV x91 64 64 := by rw [ex91]; decide
          have tx91 : x91.toInt = 64 := by rw [ex91]; decide
          obtain rfl : x91 = 64 := by rw [ex91]; decide
          refine m_istore (L1 := [some (.ref (G.1 22 0)), some (.int a1), some (.int 4), some (.int a3), some (.int 256), some (.int y5), some (.int y6), some (.int y7), some (.int 0), some (.int 64), some (.int 0), some (.int 0), some (.int 0), none]) C dX12_bells_171 (by decide) rfl rfl ?_
          refine m_iload C dX12_bells_173 rfl ?_
          refine m_iload C dX12_bells_175 rfl ?_
          refine m_idiv C dX12_bells_177 (iv_nz kc_64 (by decide)) ?_
          refine m_topi (fun x93 ex93 => ?_)
          have b94 : IV x93 0 3 := by rw [ex93]; exact iv_div b87 kc_64 (by decide)
          refine m_iload_n C dX12_bells_178 rfl rfl ?_
          refine m_irem C dX12_bells_179 (iv_nz kc_4 (by decide)) ?_
          refine m_topi (fun x95 ex95 => ?_)
          have b96 : IV x95 0 3 := by rw [ex95]; exact iv_rem b94 kc_4 (by decide)
          refine m_istore (L1 := [some (.ref (G.1 22 0)), some (.int a1), some (.int 4), some (.int a3), some (.int 256), some (.int y5), some (.int y6), some (.int y7), some (.int 0), some (.int 64), some (.int 0), some (.int 0), some (.int 0), some (.int x95)]) C dX12_bells_180 (by decide) rfl rfl ?_
          refine m_iload C dX12_bells_182 rfl ?_
          refine m_iconst (v := 1) C dX12_bells_184 (by decide) ?_
          refine m_iload C dX12_bells_185 rfl ?_
          refine m_ishl C dX12_bells_187 ?_
          refine m_topi (fun x97 ex97 => ?_)
          have b98 : IV x97 1 8 := by rw [ex97]; exact iv_shl1 b96 (by decide)
          refine m_ior C dX12_bells_188 ?_
          refine m_topi (fun x99 ex99 => ?_)
          have b100 : IV x99 0 15 := by rw [ex99]; exact iv_or 4 kc_0 b98 (by decide)
          refine m_istore (L1 := [some (.ref (G.1 22 0)), some (.int a1), some (.int 4), some (.int a3), some (.int 256), some (.int y5), some (.int y6), some (.int y7), some (.int x99), some (.int 64), some (.int 0), some (.int 0), some (.int 0), some (.int x95)]) C dX12_bells_189 (by decide) rfl rfl ?_
          refine m_iload C dX12_bells_191 rfl ?_
          refine m_iload C dX12_bells_193 rfl ?_
          refine m_iconst (v := 2) C dX12_bells_195 (by decide) ?_
          refine m_irem C dX12_bells_196 (iv_nz kc_2 (by decide)) ?_
          refine m_topi (fun x101 ex101 => ?_)
          have b102 : IV x101 0 0 := by rw [ex101]; decide
          have tx101 : x101.toInt = 0 := by rw [ex101]; decide
          obtain rfl : x101 = 0 := by rw [ex101]; decide
          refine m_if_ne (tgt := 215) C dX12_bells_197 (by decide) (fun c103 => ?_) (fun c103 => ?_)
          · first | exact absurd c103 (by decide) | exact absurd (by decide) c103
          · have f105 : 0 = 0 := by
              have q : _ := c103
              simp only [ti_nle, ti_nlt, ti_le, ti_lt, ti_eq, ti_ne, Classical.not_not, kt_0, kt_0] at q
              omega
            refine m_aload_n C dX12_bells_200 rfl rfl ?_
            refine g_22_2 C q4_118 dX12_bells_201 ?_
            refine m_bipush (v := 40) C dX12_bells_204 (by decide) ?_
            refine m_iload_n C dX12_bells_206 rfl rfl ?_
            refine m_imul C dX12_bells_207 ?_
            refine m_topi (fun x106 ex106 => ?_)
            have tx106 : x106.toInt = 40 * a1.toInt := by rw [ex106, ti_mulv kc_40 b_a1 (by decide), kt_40]
            have b107 : IV x106 0 280 := by rw [ex106]; exact iv_mul kc_40 b_a1 (by decide)
            refine m_iload C dX12_bells_208 rfl ?_
            refine m_iadd C dX12_bells_210 ?_
            refine m_topi (fun x108 ex108 => ?_)
            have tx108 : x108.toInt = x106.toInt + x95.toInt := by rw [ex108, ti_addv b107 b96 (by decide)]
            have b109 : IV x108 0 283 := by rw [ex108]; exact iv_add b107 b96 (by decide)
            refine al_25 C b109 (by decide) rfl dX12_bells_211 ?_
            refine m_topi (fun x110 ex110 => ?_)
            refine m_goto (tgt := 228) C dX12_bells_212 (by decide) ?_
            refine m_iadd C dX12_bells_228 ?_
            refine m_topi (fun x111 ex111 => ?_)
            have tx111 : x111.toInt = 0 + x110.toInt := by rw [ex111, ti_addv kc_0 (iv_any x110) (by decide), kt_0]
            have b112 : IV x111 (-2147483648) 2147483647 := by rw [ex111]; exact iv_add kc_0 (iv_any x110) (by decide)
            refine m_istore (L1 := [some (.ref (G.1 22 0)), some (.int a1), some (.int 4), some (.int a3), some (.int 256), some (.int y5), some (.int y6), some (.int y7), some (.int x99), some (.int 64), some (.int x111), some (.int 0), some (.int 0), some (.int x95)]) C dX12_bells_229 (by decide) rfl rfl ?_
            refine m_iload C dX12_bells_231 rfl ?_
            refine m_iload C dX12_bells_233 rfl ?_
            refine m_callS (n := 1) (st := [.int 0]) C (c_X12_sizeOf l G τ (x111) iτ ) q5_96 q5_94 q5_95 q1_7 (by decide +kernel) rfl (by decide) (by decide) rfl (Nat.le_of_ble_eq_true rfl) dX12_bells_235 ?_
            rintro _ τ113 ⟨x116, rfl, i114, f115, b117⟩
            have g118 : Fr MS_X12_bells_4 AS_X12_bells_4 σ τ113 := Fr.call (fτ) f115 (by decide)
            show MW p l e _ s m args below meth c _ 14 G 0 0 238 [some (.ref (G.1 22 0)), some (.int a1), some (.int 4), some (.int a3), some (.int 256), some (.int y5), some (.int y6), some (.int y7), some (.int x99), some (.int 64), some (.int x111), some (.int 0), some (.int 0), some (.int x95)] [.int x116, .int 0] τ113
            refine m_callS (n := 2) (st := []) C (c_X12_greater l G τ113 (0) (x116) i114 ) q5_99 q5_97 q5_98 q1_7 (by decide +kernel) rfl (by decide) (by decide) rfl (Nat.le_of_ble_eq_true rfl) dX12_bells_238 ?_
            rintro _ τ120 ⟨x123, rfl, i121, f122, b124⟩
            have g125 : Fr MS_X12_bells_4 AS_X12_bells_4 σ τ120 := Fr.call (g118) f122 (by decide)
            show MW p l e _ s m args below meth c _ 14 G 0 0 241 [some (.ref (G.1 22 0)), some (.int a1), some (.int 4), some (.int a3), some (.int 256), some (.int y5), some (.int y6), some (.int y7), some (.int x99), some (.int 64), some (.int x111), some (.int 0), some (.int 0), some (.int x95)] [.int x123] τ120
            refine m_istore (L1 := [some (.ref (G.1 22 0)), some (.int a1), some (.int 4), some (.int a3), some (.int 256), some (.int y5), some (.int y6), some (.int y7), some (.int x99), some (.int 64), some (.int x111), some (.int x123), some (.int 0), some (.int x95)]) C dX12_bells_241 (by decide) rfl rfl ?_
            obtain ⟨x127, ex127⟩ : ∃ y : Int32, y = 0 + 1 := ⟨_, rfl⟩
            have b128 : IV x127 1 1 := by rw [ex127]; decide
            have tx127 : x127.toInt = 1 := by rw [ex127]; decide
            obtain rfl : x127 = 1 := by rw [ex127]; decide
            refine m_iinc (v := 1) (L1 := [some (.ref (G.1 22 0)), some (.int a1), some (.int 4), some (.int a3), some (.int 256), some (.int y5), some (.int y6), some (.int y7), some (.int x99), some (.int 64), some (.int x111), some (.int x123), some (.int 1), some (.int x95)]) C dX12_bells_243 rfl (by decide) (by decide) rfl rfl ?_
            refine m_goto (tgt := 161) C dX12_bells_246 (by decide) ?_
            refine m_iload C dX12_bells_161 rfl ?_
            refine m_iload_n C dX12_bells_163 rfl rfl ?_
            refine m_icmp_ge (tgt := 249) C dX12_bells_164 (by decide) (fun c129 => ?_) (fun c129 => ?_)
            · first | exact absurd c129 (by decide) | exact absurd (by decide) c129
            · have f131 : 1 < 4 := by
                have q : _ := c129
                simp only [ti_nle, ti_nlt, ti_le, ti_lt, ti_eq, ti_ne, Classical.not_not, kt_1, kt_4] at q
                omega
              refine m_iload C dX12_bells_167 rfl ?_
              refine m_iload_n C dX12_bells_169 rfl rfl ?_
              refine m_idiv C dX12_bells_170 (iv_nz kc_4 (by decide)) ?_
              refine m_topi (fun x132 ex132 => ?_)
              have b133 : IV x132 16 16 := by rw [ex132]; decide
              have tx132 : x132.toInt = 16 := by rw [ex132]; decide
              obtain rfl : x132 = 16 := by rw [ex132]; decide
              refine m_istore (L1 := [some (.ref (G.1 22 0)), some (.int a1), some (.int 4), some (.int a3), some (.int 256), some (.int y5), some (.int y6), some (.int y7), some (.int x99), some (.int 16), some (.int x111), some (.int x123), some (.int 1), some (.int x95)]) C dX12_bells_171 (by decide) rfl rfl ?_
              refine m_iload C dX12_bells_173 rfl ?_
              refine m_iload C dX12_bells_175 rfl ?_
              refine m_idiv C dX12_bells_177 (iv_nz kc_16 (by decide)) ?_
              refine m_topi (fun x134 ex134 => ?_)
              have b135 : IV x134 0 15 := by rw [ex134]; exact iv_div b87 kc_16 (by decide)
              refine m_iload_n C dX12_bells_178 rfl rfl ?_
              refine m_irem C dX12_bells_179 (iv_nz kc_4 (by decide)) ?_
              refine m_topi (fun x136 ex136 => ?_)
              have b137 : IV x136 0 3 := by rw [ex136]; exact iv_rem b135 kc_4 (by decide)
              refine m_istore (L1 := [some (.ref (G.1 22 0)), some (.int a1), some (.int 4), some (.int a3), some (.int 256), some (.int y5), some (.int y6), some (.int y7), some (.int x99), some (.int 16), some (.int x111), some (.int x123), some (.int 1), some (.int x136)]) C dX12_bells_180 (by decide) rfl rfl ?_
              refine m_iload C dX12_bells_182 rfl ?_
              refine m_iconst (v := 1) C dX12_bells_184 (by decide) ?_
              refine m_iload C dX12_bells_185 rfl ?_
              refine m_ishl C dX12_bells_187 ?_
              refine m_topi (fun x138 ex138 => ?_)
              have b139 : IV x138 1 8 := by rw [ex138]; exact iv_shl1 b137 (by decide)
              refine m_ior C dX12_bells_188 ?_
              refine m_topi (fun x140 ex140 => ?_)
              have b141 : IV x140 0 15 := by rw [ex140]; exact iv_or 4 b100 b139 (by decide)
              refine m_istore (L1 := [some (.ref (G.1 22 0)), some (.int a1), some (.int 4), some (.int a3), some (.int 256), some (.int y5), some (.int y6), some (.int y7), some (.int x140), some (.int 16), some (.int x111), some (.int x123), some (.int 1), some (.int x136)]) C dX12_bells_189 (by decide) rfl rfl ?_
              refine m_iload C dX12_bells_191 rfl ?_
              refine m_iload C dX12_bells_193 rfl ?_
              refine m_iconst (v := 2) C dX12_bells_195 (by decide) ?_
              refine m_irem C dX12_bells_196 (iv_nz kc_2 (by decide)) ?_
              refine m_topi (fun x142 ex142 => ?_)
              have b143 : IV x142 1 1 := by rw [ex142]; decide
              have tx142 : x142.toInt = 1 := by rw [ex142]; decide
              obtain rfl : x142 = 1 := by rw [ex142]; decide
              refine m_if_ne (tgt := 215) C dX12_bells_197 (by decide) (fun c144 => ?_) (fun c144 => ?_)
              · have f145 : 1 ≠ 0 := by
                  have q : _ := c144
                  simp only [ti_nle, ti_nlt, ti_le, ti_lt, ti_eq, ti_ne, Classical.not_not, kt_1, kt_0] at q
                  omega
                refine m_aload_n C dX12_bells_215 rfl rfl ?_
                refine g_22_2 C q4_118 dX12_bells_216 ?_
                refine m_bipush (v := 40) C dX12_bells_219 (by decide) ?_
                refine m_iload_n C dX12_bells_221 rfl rfl ?_
                refine m_imul C dX12_bells_222 ?_
                refine m_topi (fun x146 ex146 => ?_)
                have tx146 : x146.toInt = 40 * a1.toInt := by rw [ex146, ti_mulv kc_40 b_a1 (by decide), kt_40]
                have b147 : IV x146 0 280 := by rw [ex146]; exact iv_mul kc_40 b_a1 (by decide)
                refine m_iload C dX12_bells_223 rfl ?_
                refine m_iadd C dX12_bells_225 ?_
                refine m_topi (fun x148 ex148 => ?_)
                have tx148 : x148.toInt = x146.toInt + x136.toInt := by rw [ex148, ti_addv b147 b137 (by decide)]
                have b149 : IV x148 0 283 := by rw [ex148]; exact iv_add b147 b137 (by decide)
                refine al_25 C b149 (by decide) rfl dX12_bells_226 ?_
                refine m_topi (fun x150 ex150 => ?_)
                refine m_ineg C dX12_bells_227 ?_
                refine m_topi (fun x151 ex151 => ?_)
                refine m_iadd C dX12_bells_228 ?_
                refine m_topi (fun x152 ex152 => ?_)
                refine m_istore (L1 := [some (.ref (G.1 22 0)), some (.int a1), some (.int 4), some (.int a3), some (.int 256), some (.int y5), some (.int y6), some (.int y7), some (.int x140), some (.int 16), some (.int x152), some (.int x123), some (.int 1), some (.int x136)]) C dX12_bells_229 (by decide) rfl rfl ?_
                refine m_iload C dX12_bells_231 rfl ?_
                refine m_iload C dX12_bells_233 rfl ?_
                refine m_callS (n := 1) (st := [.int x123]) C (c_X12_sizeOf l G τ120 (x152) i121 ) q5_96 q5_94 q5_95 q1_7 (by decide +kernel) rfl (by decide) (by decide) rfl (Nat.le_of_ble_eq_true rfl) dX12_bells_235 ?_
                rintro _ τ153 ⟨x156, rfl, i154, f155, b157⟩
                have g158 : Fr MS_X12_bells_4 AS_X12_bells_4 σ τ153 := Fr.call (g125) f155 (by decide)
                show MW p l e _ s m args below meth c _ 14 G 0 0 238 [some (.ref (G.1 22 0)), some (.int a1), some (.int 4), some (.int a3), some (.int 256), some (.int y5), some (.int y6), some (.int y7), some (.int x140), some (.int 16), some (.int x152), some (.int x123), some (.int 1), some (.int x136)] [.int x156, .int x123] τ153
                refine m_callS (n := 2) (st := []) C (c_X12_greater l G τ153 (x123) (x156) i154 ) q5_99 q5_97 q5_98 q1_7 (by decide +kernel) rfl (by decide) (by decide) rfl (Nat.le_of_ble_eq_true rfl) dX12_bells_238 ?_
                rintro _ τ160 ⟨x163, rfl, i161, f162, b164⟩
                have g165 : Fr MS_X12_bells_4 AS_X12_bells_4 σ τ160 := Fr.call (g158) f162 (by decide)
                show MW p l e _ s m args below meth c _ 14 G 0 0 241 [some (.ref (G.1 22 0)), some (.int a1), some (.int 4), some (.int a3), some (.int 256), some (.int y5), some (.int y6), some (.int y7), some (.int x140), some (.int 16), some (.int x152), some (.int x123), some (.int 1), some (.int x136)] [.int x163] τ160
                refine m_istore (L1 := [some (.ref (G.1 22 0)), some (.int a1), some (.int 4), some (.int a3), some (.int 256), some (.int y5), some (.int y6), some (.int y7), some (.int x140), some (.int 16), some (.int x152), some (.int x163), some (.int 1), some (.int x136)]) C dX12_bells_241 (by decide) rfl rfl ?_
                obtain ⟨x167, ex167⟩ : ∃ y : Int32, y = 1 + 1 := ⟨_, rfl⟩
                have b168 : IV x167 2 2 := by rw [ex167]; decide
                have tx167 : x167.toInt = 2 := by rw [ex167]; decide
                obtain rfl : x167 = 2 := by rw [ex167]; decide
                refine m_iinc (v := 2) (L1 := [some (.ref (G.1 22 0)), some (.int a1), some (.int 4), some (.int a3), some (.int 256), some (.int y5), some (.int y6), some (.int y7), some (.int x140), some (.int 16), some (.int x152), some (.int x163), some (.int 2), some (.int x136)]) C dX12_bells_243 rfl (by decide) (by decide) rfl rfl ?_
                refine m_goto (tgt := 161) C dX12_bells_246 (by decide) ?_
                refine m_iload C dX12_bells_161 rfl ?_
                refine m_iload_n C dX12_bells_163 rfl rfl ?_
                refine m_icmp_ge (tgt := 249) C dX12_bells_164 (by decide) (fun c169 => ?_) (fun c169 => ?_)
                · first | exact absurd c169 (by decide) | exact absurd (by decide) c169
                · have f171 : 2 < 4 := by
                    have q : _ := c169
                    simp only [ti_nle, ti_nlt, ti_le, ti_lt, ti_eq, ti_ne, Classical.not_not, kt_2, kt_4] at q
                    omega
                  refine m_iload C dX12_bells_167 rfl ?_
                  refine m_iload_n C dX12_bells_169 rfl rfl ?_
                  refine m_idiv C dX12_bells_170 (iv_nz kc_4 (by decide)) ?_
                  refine m_topi (fun x172 ex172 => ?_)
                  have b173 : IV x172 4 4 := by rw [ex172]; decide
                  have tx172 : x172.toInt = 4 := by rw [ex172]; decide
                  obtain rfl : x172 = 4 := by rw [ex172]; decide
                  refine m_istore (L1 := [some (.ref (G.1 22 0)), some (.int a1), some (.int 4), some (.int a3), some (.int 256), some (.int y5), some (.int y6), some (.int y7), some (.int x140), some (.int 4), some (.int x152), some (.int x163), some (.int 2), some (.int x136)]) C dX12_bells_171 (by decide) rfl rfl ?_
                  refine m_iload C dX12_bells_173 rfl ?_
                  refine m_iload C dX12_bells_175 rfl ?_
                  refine m_idiv C dX12_bells_177 (iv_nz kc_4 (by decide)) ?_
                  refine m_topi (fun x174 ex174 => ?_)
                  have b175 : IV x174 0 63 := by rw [ex174]; exact iv_div b87 kc_4 (by decide)
                  refine m_iload_n C dX12_bells_178 rfl rfl ?_
                  refine m_irem C dX12_bells_179 (iv_nz kc_4 (by decide)) ?_
                  refine m_topi (fun x176 ex176 => ?_)
                  have b177 : IV x176 0 3 := by rw [ex176]; exact iv_rem b175 kc_4 (by decide)
                  refine m_istore (L1 := [some (.ref (G.1 22 0)), some (.int a1), some (.int 4), some (.int a3), some (.int 256), some (.int y5), some (.int y6), some (.int y7), some (.int x140), some (.int 4), some (.int x152), some (.int x163), some (.int 2), some (.int x176)]) C dX12_bells_180 (by decide) rfl rfl ?_
                  refine m_iload C dX12_bells_182 rfl ?_
                  refine m_iconst (v := 1) C dX12_bells_184 (by decide) ?_
                  refine m_iload C dX12_bells_185 rfl ?_
                  refine m_ishl C dX12_bells_187 ?_
                  refine m_topi (fun x178 ex178 => ?_)
                  have b179 : IV x178 1 8 := by rw [ex178]; exact iv_shl1 b177 (by decide)
                  refine m_ior C dX12_bells_188 ?_
                  refine m_topi (fun x180 ex180 => ?_)
                  have b181 : IV x180 0 15 := by rw [ex180]; exact iv_or 4 b141 b179 (by decide)
                  refine m_istore (L1 := [some (.ref (G.1 22 0)), some (.int a1), some (.int 4), some (.int a3), some (.int 256), some (.int y5), some (.int y6), some (.int y7), some (.int x180), some (.int 4), some (.int x152), some (.int x163), some (.int 2), some (.int x176)]) C dX12_bells_189 (by decide) rfl rfl ?_
                  refine m_iload C dX12_bells_191 rfl ?_
                  refine m_iload C dX12_bells_193 rfl ?_
                  refine m_iconst (v := 2) C dX12_bells_195 (by decide) ?_
                  refine m_irem C dX12_bells_196 (iv_nz kc_2 (by decide)) ?_
                  refine m_topi (fun x182 ex182 => ?_)
                  have b183 : IV x182 0 0 := by rw [ex182]; decide
                  have tx182 : x182.toInt = 0 := by rw [ex182]; decide
                  obtain rfl : x182 = 0 := by rw [ex182]; decide
                  refine m_if_ne (tgt := 215) C dX12_bells_197 (by decide) (fun c184 => ?_) (fun c184 => ?_)
                  · first | exact absurd c184 (by decide) | exact absurd (by decide) c184
                  · have f186 : 0 = 0 := by
                      have q : _ := c184
                      simp only [ti_nle, ti_nlt, ti_le, ti_lt, ti_eq, ti_ne, Classical.not_not, kt_0, kt_0] at q
                      omega
                    refine m_aload_n C dX12_bells_200 rfl rfl ?_
                    refine g_22_2 C q4_118 dX12_bells_201 ?_
                    refine m_bipush (v := 40) C dX12_bells_204 (by decide) ?_
                    refine m_iload_n C dX12_bells_206 rfl rfl ?_
                    refine m_imul C dX12_bells_207 ?_
                    refine m_topi (fun x187 ex187 => ?_)
                    have tx187 : x187.toInt = 40 * a1.toInt := by rw [ex187, ti_mulv kc_40 b_a1 (by decide), kt_40]
                    have b188 : IV x187 0 280 := by rw [ex187]; exact iv_mul kc_40 b_a1 (by decide)
                    refine m_iload C dX12_bells_208 rfl ?_
                    refine m_iadd C dX12_bells_210 ?_
                    refine m_topi (fun x189 ex189 => ?_)
                    have tx189 : x189.toInt = x187.toInt + x176.toInt := by rw [ex189, ti_addv b188 b177 (by decide)]
                    have b190 : IV x189 0 283 := by rw [ex189]; exact iv_add b188 b177 (by decide)
                    refine al_25 C b190 (by decide) rfl dX12_bells_211 ?_
                    refine m_topi (fun x191 ex191 => ?_)
                    refine m_goto (tgt := 228) C dX12_bells_212 (by decide) ?_
                    refine m_iadd C dX12_bells_228 ?_
                    refine m_topi (fun x192 ex192 => ?_)
                    refine m_istore (L1 := [some (.ref (G.1 22 0)), some (.int a1), some (.int 4), some (.int a3), some (.int 256), some (.int y5), some (.int y6), some (.int y7), some (.int x180), some (.int 4), some (.int x192), some (.int x163), some (.int 2), some (.int x176)]) C dX12_bells_229 (by decide) rfl rfl ?_
                    refine m_iload C dX12_bells_231 rfl ?_
                    refine m_iload C dX12_bells_233 rfl ?_
                    refine m_callS (n := 1) (st := [.int x163]) C (c_X12_sizeOf l G τ160 (x192) i161 ) q5_96 q5_94 q5_95 q1_7 (by decide +kernel) rfl (by decide) (by decide) rfl (Nat.le_of_ble_eq_true rfl) dX12_bells_235 ?_
                    rintro _ τ193 ⟨x196, rfl, i194, f195, b197⟩
                    have g198 : Fr MS_X12_bells_4 AS_X12_bells_4 σ τ193 := Fr.call (g165) f195 (by decide)
                    show MW p l e _ s m args below meth c _ 14 G 0 0 238 [some (.ref (G.1 22 0)), some (.int a1), some (.int 4), some (.int a3), some (.int 256), some (.int y5), some (.int y6), some (.int y7), some (.int x180), some (.int 4), some (.int x192), some (.int x163), some (.int 2), some (.int x176)] [.int x196, .int x163] τ193
                    refine m_callS (n := 2) (st := []) C (c_X12_greater l G τ193 (x163) (x196) i194 ) q5_99 q5_97 q5_98 q1_7 (by decide +kernel) rfl (by decide) (by decide) rfl (Nat.le_of_ble_eq_true rfl) dX12_bells_238 ?_
                    rintro _ τ200 ⟨x203, rfl, i201, f202, b204⟩
                    have g205 : Fr MS_X12_bells_4 AS_X12_bells_4 σ τ200 := Fr.call (g198) f202 (by decide)
                    show MW p l e _ s m args below meth c _ 14 G 0 0 241 [some (.ref (G.1 22 0)), some (.int a1), some (.int 4), some (.int a3), some (.int 256), some (.int y5), some (.int y6), some (.int y7), some (.int x180), some (.int 4), some (.int x192), some (.int x163), some (.int 2), some (.int x176)] [.int x203] τ200
                    refine m_istore (L1 := [some (.ref (G.1 22 0)), some (.int a1), some (.int 4), some (.int a3), some (.int 256), some (.int y5), some (.int y6), some (.int y7), some (.int x180), some (.int 4), some (.int x192), some (.int x203), some (.int 2), some (.int x176)]) C dX12_bells_241 (by decide) rfl rfl ?_
                    obtain ⟨x207, ex207⟩ : ∃ y : Int32, y = 2 + 1 := ⟨_, rfl⟩
                    have b208 : IV x207 3 3 := by rw [ex207]; decide
                    have tx207 : x207.toInt = 3 := by rw [ex207]; decide
                    obtain rfl : x207 = 3 := by rw [ex207]; decide
                    refine m_iinc (v := 3) (L1 := [some (.ref (G.1 22 0)), some (.int a1), some (.int 4), some (.int a3), some (.int 256), some (.int y5), some (.int y6), some (.int y7), some (.int x180), some (.int 4), some (.int x192), some (.int x203), some (.int 3), some (.int x176)]) C dX12_bells_243 rfl (by decide) (by decide) rfl rfl ?_
                    refine m_goto (tgt := 161) C dX12_bells_246 (by decide) ?_
                    refine m_iload C dX12_bells_161 rfl ?_
                    refine m_iload_n C dX12_bells_163 rfl rfl ?_
                    refine m_icmp_ge (tgt := 249) C dX12_bells_164 (by decide) (fun c209 => ?_) (fun c209 => ?_)
                    · first | exact absurd c209 (by decide) | exact absurd (by decide) c209
                    · have f211 : 3 < 4 := by
                        have q : _ := c209
                        simp only [ti_nle, ti_nlt, ti_le, ti_lt, ti_eq, ti_ne, Classical.not_not, kt_3, kt_4] at q
                        omega
                      refine m_iload C dX12_bells_167 rfl ?_
                      refine m_iload_n C dX12_bells_169 rfl rfl ?_
                      refine m_idiv C dX12_bells_170 (iv_nz kc_4 (by decide)) ?_
                      refine m_topi (fun x212 ex212 => ?_)
                      have b213 : IV x212 1 1 := by rw [ex212]; decide
                      have tx212 : x212.toInt = 1 := by rw [ex212]; decide
                      obtain rfl : x212 = 1 := by rw [ex212]; decide
                      refine m_istore (L1 := [some (.ref (G.1 22 0)), some (.int a1), some (.int 4), some (.int a3), some (.int 256), some (.int y5), some (.int y6), some (.int y7), some (.int x180), some (.int 1), some (.int x192), some (.int x203), some (.int 3), some (.int x176)]) C dX12_bells_171 (by decide) rfl rfl ?_
                      refine m_iload C dX12_bells_173 rfl ?_
                      refine m_iload C dX12_bells_175 rfl ?_
                      refine m_idiv C dX12_bells_177 (iv_nz kc_1 (by decide)) ?_
                      refine m_topi (fun x214 ex214 => ?_)
                      have b215 : IV x214 0 255 := by rw [ex214]; exact iv_div b87 kc_1 (by decide)
                      refine m_iload_n C dX12_bells_178 rfl rfl ?_
                      refine m_irem C dX12_bells_179 (iv_nz kc_4 (by decide)) ?_
                      refine m_topi (fun x216 ex216 => ?_)
                      have b217 : IV x216 0 3 := by rw [ex216]; exact iv_rem b215 kc_4 (by decide)
                      refine m_istore (L1 := [some (.ref (G.1 22 0)), some (.int a1), some (.int 4), some (.int a3), some (.int 256), some (.int y5), some (.int y6), some (.int y7), some (.int x180), some (.int 1), some (.int x192), some (.int x203), some (.int 3), some (.int x216)]) C dX12_bells_180 (by decide) rfl rfl ?_
                      refine m_iload C dX12_bells_182 rfl ?_
                      refine m_iconst (v := 1) C dX12_bells_184 (by decide) ?_
                      refine m_iload C dX12_bells_185 rfl ?_
                      refine m_ishl C dX12_bells_187 ?_
                      refine m_topi (fun x218 ex218 => ?_)
                      have b219 : IV x218 1 8 := by rw [ex218]; exact iv_shl1 b217 (by decide)
                      refine m_ior C dX12_bells_188 ?_
                      refine m_topi (fun x220 ex220 => ?_)
                      have b221 : IV x220 0 15 := by rw [ex220]; exact iv_or 4 b181 b219 (by decide)
                      refine m_istore (L1 := [some (.ref (G.1 22 0)), some (.int a1), some (.int 4), some (.int a3), some (.int 256), some (.int y5), some (.int y6), some (.int y7), some (.int x220), some (.int 1), some (.int x192), some (.int x203), some (.int 3), some (.int x216)]) C dX12_bells_189 (by decide) rfl rfl ?_
                      refine m_iload C dX12_bells_191 rfl ?_
                      refine m_iload C dX12_bells_193 rfl ?_
                      refine m_iconst (v := 2) C dX12_bells_195 (by decide) ?_
                      refine m_irem C dX12_bells_196 (iv_nz kc_2 (by decide)) ?_
                      refine m_topi (fun x222 ex222 => ?_)
                      have b223 : IV x222 1 1 := by rw [ex222]; decide
                      have tx222 : x222.toInt = 1 := by rw [ex222]; decide
                      obtain rfl : x222 = 1 := by rw [ex222]; decide
                      refine m_if_ne (tgt := 215) C dX12_bells_197 (by decide) (fun c224 => ?_) (fun c224 => ?_)
                      · have f225 : 1 ≠ 0 := by
                          have q : _ := c224
                          simp only [ti_nle, ti_nlt, ti_le, ti_lt, ti_eq, ti_ne, Classical.not_not, kt_1, kt_0] at q
                          omega
                        refine m_aload_n C dX12_bells_215 rfl rfl ?_
                        refine g_22_2 C q4_118 dX12_bells_216 ?_
                        refine m_bipush (v := 40) C dX12_bells_219 (by decide) ?_
                        refine m_iload_n C dX12_bells_221 rfl rfl ?_
                        refine m_imul C dX12_bells_222 ?_
                        refine m_topi (fun x226 ex226 => ?_)
                        have tx226 : x226.toInt = 40 * a1.toInt := by rw [ex226, ti_mulv kc_40 b_a1 (by decide), kt_40]
                        have b227 : IV x226 0 280 := by rw [ex226]; exact iv_mul kc_40 b_a1 (by decide)
                        refine m_iload C dX12_bells_223 rfl ?_
                        refine m_iadd C dX12_bells_225 ?_
                        refine m_topi (fun x228 ex228 => ?_)
                        have tx228 : x228.toInt = x226.toInt + x216.toInt := by rw [ex228, ti_addv b227 b217 (by decide)]
                        have b229 : IV x228 0 283 := by rw [ex228]; exact iv_add b227 b217 (by decide)
                        refine al_25 C b229 (by decide) rfl dX12_bells_226 ?_
                        refine m_topi (fun x230 ex230 => ?_)
                        refine m_ineg C dX12_bells_227 ?_
                        refine m_topi (fun x231 ex231 => ?_)
                        refine m_iadd C dX12_bells_228 ?_
                        refine m_topi (fun x232 ex232 => ?_)
                        refine m_istore (L1 := [some (.ref (G.1 22 0)), some (.int a1), some (.int 4), some (.int a3), some (.int 256), some (.int y5), some (.int y6), some (.int y7), some (.int x220), some (.int 1), some (.int x232), some (.int x203), some (.int 3), some (.int x216)]) C dX12_bells_229 (by decide) rfl rfl ?_
                        refine m_iload C dX12_bells_231 rfl ?_
                        refine m_iload C dX12_bells_233 rfl ?_
                        refine m_callS (n := 1) (st := [.int x203]) C (c_X12_sizeOf l G τ200 (x232) i201 ) q5_96 q5_94 q5_95 q1_7 (by decide +kernel) rfl (by decide) (by decide) rfl (Nat.le_of_ble_eq_true rfl) dX12_bells_235 ?_
                        rintro _ τ233 ⟨x236, rfl, i234, f235, b237⟩
                        have g238 : Fr MS_X12_bells_4 AS_X12_bells_4 σ τ233 := Fr.call (g205) f235 (by decide)
                        show MW p l e _ s m args below meth c _ 14 G 0 0 238 [some (.ref (G.1 22 0)), some (.int a1), some (.int 4), some (.int a3), some (.int 256), some (.int y5), some (.int y6), some (.int y7), some (.int x220), some (.int 1), some (.int x232), some (.int x203), some (.int 3), some (.int x216)] [.int x236, .int x203] τ233
                        refine m_callS (n := 2) (st := []) C (c_X12_greater l G τ233 (x203) (x236) i234 ) q5_99 q5_97 q5_98 q1_7 (by decide +kernel) rfl (by decide) (by decide) rfl (Nat.le_of_ble_eq_true rfl) dX12_bells_238 ?_
                        rintro _ τ240 ⟨x243, rfl, i241, f242, b244⟩
                        have g245 : Fr MS_X12_bells_4 AS_X12_bells_4 σ τ240 := Fr.call (g238) f242 (by decide)
                        show MW p l e _ s m args below meth c _ 14 G 0 0 241 [some (.ref (G.1 22 0)), some (.int a1), some (.int 4), some (.int a3), some (.int 256), some (.int y5), some (.int y6), some (.int y7), some (.int x220), some (.int 1), some (.int x232), some (.int x203), some (.int 3), some (.int x216)] [.int x243] τ240
                        refine m_istore (L1 := [some (.ref (G.1 22 0)), some (.int a1), some (.int 4), some (.int a3), some (.int 256), some (.int y5), some (.int y6), some (.int y7), some (.int x220), some (.int 1), some (.int x232), some (.int x243), some (.int 3), some (.int x216)]) C dX12_bells_241 (by decide) rfl rfl ?_
                        obtain ⟨x247, ex247⟩ : ∃ y : Int32, y = 3 + 1 := ⟨_, rfl⟩
                        have b248 : IV x247 4 4 := by rw [ex247]; decide
                        have tx247 : x247.toInt = 4 := by rw [ex247]; decide
                        obtain rfl : x247 = 4 := by rw [ex247]; decide
                        refine m_iinc (v := 4) (L1 := [some (.ref (G.1 22 0)), some (.int a1), some (.int 4), some (.int a3), some (.int 256), some (.int y5), some (.int y6), some (.int y7), some (.int x220), some (.int 1), some (.int x232), some (.int x243), some (.int 4), some (.int x216)]) C dX12_bells_243 rfl (by decide) (by decide) rfl rfl ?_
                        refine m_goto (tgt := 161) C dX12_bells_246 (by decide) ?_
                        refine m_iload C dX12_bells_161 rfl ?_
                        refine m_iload_n C dX12_bells_163 rfl rfl ?_
                        refine m_icmp_ge (tgt := 249) C dX12_bells_164 (by decide) (fun c249 => ?_) (fun c249 => ?_)
                        · have f250 : 4 ≤ 4 := by
                            have q : _ := c249
                            simp only [ti_nle, ti_nlt, ti_le, ti_lt, ti_eq, ti_ne, Classical.not_not, kt_4, kt_4] at q
                            omega
                          refine m_iload C dX12_bells_249 rfl ?_
                          refine m_iconst (v := 1) C dX12_bells_251 (by decide) ?_
                          refine m_iload_n C dX12_bells_252 rfl rfl ?_
                          refine m_ishl C dX12_bells_253 ?_
                          refine m_topi (fun x251 ex251 => ?_)
                          have b252 : IV x251 16 16 := by rw [ex251]; decide
                          have tx251 : x251.toInt = 16 := by rw [ex251]; decide
                          obtain rfl : x251 = 16 := by rw [ex251]; decide
                          refine m_iconst (v := 1) C dX12_bells_254 (by decide) ?_
                          refine m_isub C dX12_bells_255 ?_
                          refine m_topi (fun x253 ex253 => ?_)
                          have b254 : IV x253 15 15 := by rw [ex253]; decide
                          have tx253 : x253.toInt = 15 := by rw [ex253]; decide
                          obtain rfl : x253 = 15 := by rw [ex253]; decide
                          refine m_icmp_ne (tgt := 279) C dX12_bells_256 (by decide) (fun c255 => ?_) (fun c255 => ?_)
                          · have f256 : x220.toInt ≠ 15 := by
                              have q : _ := c255
                              simp only [ti_nle, ti_nlt, ti_le, ti_lt, ti_eq, ti_ne, Classical.not_not, kt_15] at q
                              omega
                            have b257 : IV x220 0 14 := ⟨by have q1 := b221; have q2 := kc_15; omega, by have q1 := b221; have q2 := kc_15; omega⟩
                            obtain ⟨x258, ex258⟩ : ∃ y : Int32, y = y7 + 1 := ⟨_, rfl⟩
                            have tx258 : x258.toInt = y7.toInt + 1 := by rw [ex258, ti_addv b87 kc_1 (by decide), kt_1]
                            have b259 : IV x258 1 256 := by rw [ex258]; exact iv_add b87 kc_1 (by decide)
                            refine m_iinc (v := x258) (L1 := [some (.ref (G.1 22 0)), some (.int a1), some (.int 4), some (.int a3), some (.int 256), some (.int y5), some (.int y6), some (.int x258), some (.int x220), some (.int 1), some (.int x232), some (.int x243), some (.int 4), some (.int x216)]) C dX12_bells_279 rfl (by rw [ex258]; rfl) (by decide) rfl rfl ?_
                            refine m_goto (tgt := 138) C dX12_bells_282 (by decide) ?_
                            refine m_sub (L1 := [some (.ref (G.1 22 0)), some (.int a1), some (.int 4), some (.int a3), some (.int 256), some (.int y5), some (.int y6), some (.int x258), none, none, none, none, none, none]) ⟨rfl, ⟨rfl, ⟨rfl, ⟨rfl, ⟨rfl, ⟨rfl, ⟨rfl, ⟨rfl, trivial⟩⟩⟩⟩⟩⟩⟩⟩ ?_
                            exact ih138 τ240 y5 y6 x258 i241 g245 b_a1 b_a3 b_y5 b_y6 (iv_wk b259 (by decide)) (by have q := hm138; omega)
                          · have f260 : x220.toInt = 15 := by
                              have q : _ := c255
                              simp only [ti_nle, ti_nlt, ti_le, ti_lt, ti_eq, ti_ne, Classical.not_not, kt_15] at q
                              omega
                            have b261 : IV x220 15 15 := ⟨by have q1 := b221; have q2 := kc_15; omega, by have q1 := b221; have q2 := kc_15; omega⟩
                            refine m_iload C dX12_bells_259 rfl ?_
                            refine m_if_lt (tgt := 271) C dX12_bells_261 (by decide) (fun c262 => ?_) (fun c262 => ?_)
                            · have f263 : y5.toInt < 0 := by
                                have q : _ := c262
                                simp only [ti_nle, ti_nlt, ti_le, ti_lt, ti_eq, ti_ne, Classical.not_not, kt_0] at q
                                omega
                              have b264 : IV y5 (-1) (-1) := ⟨by have q1 := b_y5; have q2 := kc_0; omega, by have q1 := b_y5; have q2 := kc_0; omega⟩
                              refine m_iload C dX12_bells_271 rfl ?_
                              refine m_istore (L1 := [some (.ref (G.1 22 0)), some (.int a1), some (.int 4), some (.int a3), some (.int 256), some (.int y7), some (.int y6), some (.int y7), some (.int x220), some (.int 1), some (.int x232), some (.int x243), some (.int 4), some (.int x216)]) C dX12_bells_273 (by decide) rfl rfl ?_
                              refine m_iload C dX12_bells_275 rfl ?_
                              refine m_istore (L1 := [some (.ref (G.1 22 0)), some (.int a1), some (.int 4), some (.int a3), some (.int 256), some (.int y7), some (.int x243), some (.int y7), some (.int x220), some (.int 1), some (.int x232), some (.int x243), some (.int 4), some (.int x216)]) C dX12_bells_277 (by decide) rfl rfl ?_
                              obtain ⟨x265, ex265⟩ : ∃ y : Int32, y = y7 + 1 := ⟨_, rfl⟩
                              have tx265 : x265.toInt = y7.toInt + 1 := by rw [ex265, ti_addv b87 kc_1 (by decide), kt_1]
                              have b266 : IV x265 1 256 := by rw [ex265]; exact iv_add b87 kc_1 (by decide)
                              refine m_iinc (v := x265) (L1 := [some (.ref (G.1 22 0)), some (.int a1), some (.int 4), some (.int a3), some (.int 256), some (.int y7), some (.int x243), some (.int x265), some (.int x220), some (.int 1), some (.int x232), some (.int x243), some (.int 4), some (.int x216)]) C dX12_bells_279 rfl (by rw [ex265]; rfl) (by decide) rfl rfl ?_
                              refine m_goto (tgt := 138) C dX12_bells_282 (by decide) ?_
                              refine m_sub (L1 := [some (.ref (G.1 22 0)), some (.int a1), some (.int 4), some (.int a3), some (.int 256), some (.int y7), some (.int x243), some (.int x265), none, none, none, none, none, none]) ⟨rfl, ⟨rfl, ⟨rfl, ⟨rfl, ⟨rfl, ⟨rfl, ⟨rfl, ⟨rfl, trivial⟩⟩⟩⟩⟩⟩⟩⟩ ?_
                              exact ih138 τ240 y7 x243 x265 i241 g245 b_a1 b_a3 (iv_wk b87 (by decide)) b244 (iv_wk b266 (by decide)) (by have q := hm138; omega)
                            · have f267 : 0 ≤ y5.toInt := by
                                have q : _ := c262
                                simp only [ti_nle, ti_nlt, ti_le, ti_lt, ti_eq, ti_ne, Classical.not_not, kt_0] at q
                                omega
                              have b268 : IV y5 0 256 := ⟨by have q1 := kc_0; have q2 := b_y5; omega, by have q1 := kc_0; have q2 := b_y5; omega⟩
                              refine m_iload C dX12_bells_264 rfl ?_
                              refine m_iload C dX12_bells_266 rfl ?_
                              refine m_icmp_ge (tgt := 279) C dX12_bells_268 (by decide) (fun c269 => ?_) (fun c269 => ?_)
                              · have f270 : y6.toInt ≤ x243.toInt := by
                                  have q : _ := c269
                                  simp only [ti_nle, ti_nlt, ti_le, ti_lt, ti_eq, ti_ne, Classical.not_not] at q
                                  omega
                                obtain ⟨x271, ex271⟩ : ∃ y : Int32, y = y7 + 1 := ⟨_, rfl⟩
                                have tx271 : x271.toInt = y7.toInt + 1 := by rw [ex271, ti_addv b87 kc_1 (by decide), kt_1]
                                have b272 : IV x271 1 256 := by rw [ex271]; exact iv_add b87 kc_1 (by decide)
                                refine m_iinc (v := x271) (L1 := [some (.ref (G.1 22 0)), some (.int a1), some (.int 4), some (.int a3), some (.int 256), some (.int y5), some (.int y6), some (.int x271), some (.int x220), some (.int 1), some (.int x232), some (.int x243), some (.int 4), some (.int x216)]) C dX12_bells_279 rfl (by rw [ex271]; rfl) (by decide) rfl rfl ?_
                                refine m_goto (tgt := 138) C dX12_bells_282 (by decide) ?_
                                refine m_sub (L1 := [some (.ref (G.1 22 0)), some (.int a1), some (.int 4), some (.int a3), some (.int 256), some (.int y5), some (.int y6), some (.int x271), none, none, none, none, none, none]) ⟨rfl, ⟨rfl, ⟨rfl, ⟨rfl, ⟨rfl, ⟨rfl, ⟨rfl, ⟨rfl, trivial⟩⟩⟩⟩⟩⟩⟩⟩ ?_
                                exact ih138 τ240 y5 y6 x271 i241 g245 b_a1 b_a3 (iv_wk b268 (by decide)) b_y6 (iv_wk b272 (by decide)) (by have q := hm138; omega)
                              · have f273 : x243.toInt < y6.toInt := by
                                  have q : _ := c269
                                  simp only [ti_nle, ti_nlt, ti_le, ti_lt, ti_eq, ti_ne, Classical.not_not] at q
                                  omega
                                have b274 : IV x243 (-2147483648) 2147483646 := ⟨by have q1 := b244; have q2 := b_y6; omega, by have q1 := b244; have q2 := b_y6; omega⟩
                                have b275 : IV y6 (-2147483647) 2147483647 := ⟨by have q1 := b244; have q2 := b_y6; omega, by have q1 := b244; have q2 := b_y6; omega⟩
                                refine m_iload C dX12_bells_271 rfl ?_
                                refine m_istore (L1 := [some (.ref (G.1 22 0)), some (.int a1), some (.int 4), some (.int a3), some (.int 256), some (.int y7), some (.int y6), some (.int y7), some (.int x220), some (.int 1), some (.int x232), some (.int x243), some (.int 4), some (.int x216)]) C dX12_bells_273 (by decide) rfl rfl ?_
                                refine m_iload C dX12_bells_275 rfl ?_
                                refine m_istore (L1 := [some (.ref (G.1 22 0)), some (.int a1), some (.int 4), some (.int a3), some (.int 256), some (.int y7), some (.int x243), some (.int y7), some (.int x220), some (.int 1), some (.int x232), some (.int x243), some (.int 4), some (.int x216)]) C dX12_bells_277 (by decide) rfl rfl ?_
                                obtain ⟨x276, ex276⟩ : ∃ y : Int32, y = y7 + 1 := ⟨_, rfl⟩
                                have tx276 : x276.toInt = y7.toInt + 1 := by rw [ex276, ti_addv b87 kc_1 (by decide), kt_1]
                                have b277 : IV x276 1 256 := by rw [ex276]; exact iv_add b87 kc_1 (by decide)
                                refine m_iinc (v := x276) (L1 := [some (.ref (G.1 22 0)), some (.int a1), some (.int 4), some (.int a3), some (.int 256), some (.int y7), some (.int x243), some (.int x276), some (.int x220), some (.int 1), some (.int x232), some (.int x243), some (.int 4), some (.int x216)]) C dX12_bells_279 rfl (by rw [ex276]; rfl) (by decide) rfl rfl ?_
                                refine m_goto (tgt := 138) C dX12_bells_282 (by decide) ?_
                                refine m_sub (L1 := [some (.ref (G.1 22 0)), some (.int a1), some (.int 4), some (.int a3), some (.int 256), some (.int y7), some (.int x243), some (.int x276), none, none, none, none, none, none]) ⟨rfl, ⟨rfl, ⟨rfl, ⟨rfl, ⟨rfl, ⟨rfl, ⟨rfl, ⟨rfl, trivial⟩⟩⟩⟩⟩⟩⟩⟩ ?_
                                exact ih138 τ240 y7 x243 x276 i241 g245 b_a1 b_a3 (iv_wk b87 (by decide)) (iv_wk b274 (by decide)) (iv_wk b277 (by decide)) (by have q := hm138; omega)
                        · first | exact absurd c249 (by decide) | exact absurd (by decide) c249
                      · first | exact absurd c224 (by decide) | exact absurd (by decide) c224
              · first | exact absurd c144 (by decide) | exact absurd (by decide) c144
  have J61 : ∀ (n : Nat) (τ : Sg) (y4 : Int32), Inv τ → Fr MS_X12_bells_4 AS_X12_bells_4 σ τ → IV a1 0 7 → IV a3 (-1) 2147483647 → IV y4 0 4 → (4 - y4.toInt).toNat < n → MW p l e { frames := 2, cells := 0, slots := 0, locals := 60 } s m args below meth c (MQ below (QP G (PI fun r τ => Inv τ ∧ Fr MS_X12_bells_4 AS_X12_bells_4 σ τ ∧ IV r (-2147483648) 2147483647)) args s 0 0 (aG G)) 14 G 0 0 61 [some (.ref (G.1 22 0)), some (.int a1), some (.int 4), some (.int a3), some (.int y4), none, none, none, none, none, none, none, none, none] [] τ := by
    intro n
    induction n with
    | zero => intro τ y4 iτ fτ b_a1 b_a3 b_y4 hm; exact absurd hm (Nat.not_lt_zero _)
    | succ n ih61 =>
      intro τ y4 iτ fτ b_a1 b_a3 b_y4 hm61
      refine m_iload C dX12_bells_61 rfl ?_
      refine m_iload_n C dX12_bells_63 rfl rfl ?_
      refine m_icmp_ge (tgt := 99) C dX12_bells_64 (by decide) (fun c281 => ?_) (fun c281 => ?_)
      · have f282 : 4 ≤ y4.toInt := by
          have q : _ := c281
          simp only [ti_nle, ti_nlt, ti_le, ti_lt, ti_eq, ti_ne, Classical.not_not, kt_4] at q
          omega
        have b283 : IV y4 4 4 := ⟨by have q1 := kc_4; have q2 := b_y4; omega, by have q1 := kc_4; have q2 := b_y4; omega⟩
        refine m_aload_n C dX12_bells_99 rfl rfl ?_
        refine m_iconst (v := 0) C dX12_bells_100 (by decide) ?_
        refine m_callV (n := 1) (ci := 11) (st := []) C (c_X12_fine l G τ (0) iτ ) (by decide) (by decide) rfl rfl rfl q4_201 q4_198 q4_200 q0_27 q1_7 (by decide +kernel) rfl (by decide) (by decide) rfl (Nat.le_of_ble_eq_true rfl) dX12_bells_101 ?_
        rintro _ τ284 ⟨x287, rfl, i285, f286, b288, h290⟩
        have g289 : Fr MS_X12_bells_4 AS_X12_bells_4 σ τ284 := Fr.call (fτ) f286 (by decide)
        have q291 := kt_0
        show MW p l e _ s m args below meth c _ 14 G 0 0 104 [some (.ref (G.1 22 0)), some (.int a1), some (.int 4), some (.int a3), some (.int y4), none, none, none, none, none, none, none, none, none] [.int x287] τ284
        refine m_pop C dX12_bells_104 rfl ?_
        refine m_iconst (v := 1) C dX12_bells_105 (by decide) ?_
        refine m_istore (L1 := [some (.ref (G.1 22 0)), some (.int a1), some (.int 4), some (.int a3), some (.int 1), none, none, none, none, none, none, none, none, none]) C dX12_bells_106 (by decide) rfl rfl ?_
        refine m_iconst (v := 0) C dX12_bells_108 (by decide) ?_
        refine m_istore (L1 := [some (.ref (G.1 22 0)), some (.int a1), some (.int 4), some (.int a3), some (.int 1), some (.int 0), none, none, none, none, none, none, none, none]) C dX12_bells_109 (by decide) rfl rfl ?_
        refine m_iload C dX12_bells_111 rfl ?_
        refine m_iload_n C dX12_bells_113 rfl rfl ?_
        refine m_icmp_ge (tgt := 129) C dX12_bells_114 (by decide) (fun c292 => ?_) (fun c292 => ?_)
        · first | exact absurd c292 (by decide) | exact absurd (by decide) c292
        · have f294 : 0 < 4 := by
            have q : _ := c292
            simp only [ti_nle, ti_nlt, ti_le, ti_lt, ti_eq, ti_ne, Classical.not_not, kt_0, kt_4] at q
            omega
          refine m_iload C dX12_bells_117 rfl ?_
          refine m_iload_n C dX12_bells_119 rfl rfl ?_
          refine m_imul C dX12_bells_120 ?_
          refine m_topi (fun x295 ex295 => ?_)
          have b296 : IV x295 4 4 := by rw [ex295]; decide
          have tx295 : x295.toInt = 4 := by rw [ex295]; decide
          obtain rfl : x295 = 4 := by rw [ex295]; decide
          refine m_istore (L1 := [some (.ref (G.1 22 0)), some (.int a1), some (.int 4), some (.int a3), some (.int 4), some (.int 0), none, none, none, none, none, none, none, none]) C dX12_bells_121 (by decide) rfl rfl ?_
          obtain ⟨x297, ex297⟩ : ∃ y : Int32, y = 0 + 1 := ⟨_, rfl⟩
          have b298 : IV x297 1 1 := by rw [ex297]; decide
          have tx297 : x297.toInt = 1 := by rw [ex297]; decide
          obtain rfl : x297 = 1 := by rw [ex297]; decide
          refine m_iinc (v := 1) (L1 := [some (.ref (G.1 22 0)), some (.int a1), some (.int 4), some (.int a3), some (.int 4), some (.int 1), none, none, none, none, none, none, none, none]) C dX12_bells_123 rfl (by decide) (by decide) rfl rfl ?_
          refine m_goto (tgt := 111) C dX12_bells_126 (by decide) ?_
          refine m_iload C dX12_bells_111 rfl ?_
          refine m_iload_n C dX12_bells_113 rfl rfl ?_
          refine m_icmp_ge (tgt := 129) C dX12_bells_114 (by decide) (fun c299 => ?_) (fun c299 => ?_)
          · first | exact absurd c299 (by decide) | exact absurd (by decide) c299
          · have f301 : 1 < 4 := by
              have q : _ := c299
              simp only [ti_nle, ti_nlt, ti_le, ti_lt, ti_eq, ti_ne, Classical.not_not, kt_1, kt_4] at q
              omega
            refine m_iload C dX12_bells_117 rfl ?_
            refine m_iload_n C dX12_bells_119 rfl rfl ?_
            refine m_imul C dX12_bells_120 ?_
            refine m_topi (fun x302 ex302 => ?_)
            have b303 : IV x302 16 16 := by rw [ex302]; decide
            have tx302 : x302.toInt = 16 := by rw [ex302]; decide
            obtain rfl : x302 = 16 := by rw [ex302]; decide
            refine m_istore (L1 := [some (.ref (G.1 22 0)), some (.int a1), some (.int 4), some (.int a3), some (.int 16), some (.int 1), none, none, none, none, none, none, none, none]) C dX12_bells_121 (by decide) rfl rfl ?_
            obtain ⟨x304, ex304⟩ : ∃ y : Int32, y = 1 + 1 := ⟨_, rfl⟩
            have b305 : IV x304 2 2 := by rw [ex304]; decide
            have tx304 : x304.toInt = 2 := by rw [ex304]; decide
            obtain rfl : x304 = 2 := by rw [ex304]; decide
            refine m_iinc (v := 2) (L1 := [some (.ref (G.1 22 0)), some (.int a1), some (.int 4), some (.int a3), some (.int 16), some (.int 2), none, none, none, none, none, none, none, none]) C dX12_bells_123 rfl (by decide) (by decide) rfl rfl ?_
            refine m_goto (tgt := 111) C dX12_bells_126 (by decide) ?_
            refine m_iload C dX12_bells_111 rfl ?_
            refine m_iload_n C dX12_bells_113 rfl rfl ?_
            refine m_icmp_ge (tgt := 129) C dX12_bells_114 (by decide) (fun c306 => ?_) (fun c306 => ?_)
            · first | exact absurd c306 (by decide) | exact absurd (by decide) c306
            · have f308 : 2 < 4 := by
                have q : _ := c306
                simp only [ti_nle, ti_nlt, ti_le, ti_lt, ti_eq, ti_ne, Classical.not_not, kt_2, kt_4] at q
                omega
              refine m_iload C dX12_bells_117 rfl ?_
              refine m_iload_n C dX12_bells_119 rfl rfl ?_
              refine m_imul C dX12_bells_120 ?_
              refine m_topi (fun x309 ex309 => ?_)
              have b310 : IV x309 64 64 := by rw [ex309]; decide
              have tx309 : x309.toInt = 64 := by rw [ex309]; decide
              obtain rfl : x309 = 64 := by rw [ex309]; decide
              refine m_istore (L1 := [some (.ref (G.1 22 0)), some (.int a1), some (.int 4), some (.int a3), some (.int 64), some (.int 2), none, none, none, none, none, none, none, none]) C dX12_bells_121 (by decide) rfl rfl ?_
              obtain ⟨x311, ex311⟩ : ∃ y : Int32, y = 2 + 1 := ⟨_, rfl⟩
              have b312 : IV x311 3 3 := by rw [ex311]; decide
              have tx311 : x311.toInt = 3 := by rw [ex311]; decide
              obtain rfl : x311 = 3 := by rw [ex311]; decide
              refine m_iinc (v := 3) (L1 := [some (.ref (G.1 22 0)), some (.int a1), some (.int 4), some (.int a3), some (.int 64), some (.int 3), none, none, none, none, none, none, none, none]) C dX12_bells_123 rfl (by decide) (by decide) rfl rfl ?_
              refine m_goto (tgt := 111) C dX12_bells_126 (by decide) ?_
              refine m_iload C dX12_bells_111 rfl ?_
              refine m_iload_n C dX12_bells_113 rfl rfl ?_
              refine m_icmp_ge (tgt := 129) C dX12_bells_114 (by decide) (fun c313 => ?_) (fun c313 => ?_)
              · first | exact absurd c313 (by decide) | exact absurd (by decide) c313
              · have f315 : 3 < 4 := by
                  have q : _ := c313
                  simp only [ti_nle, ti_nlt, ti_le, ti_lt, ti_eq, ti_ne, Classical.not_not, kt_3, kt_4] at q
                  omega
                refine m_iload C dX12_bells_117 rfl ?_
                refine m_iload_n C dX12_bells_119 rfl rfl ?_
                refine m_imul C dX12_bells_120 ?_
                refine m_topi (fun x316 ex316 => ?_)
                have b317 : IV x316 256 256 := by rw [ex316]; decide
                have tx316 : x316.toInt = 256 := by rw [ex316]; decide
                obtain rfl : x316 = 256 := by rw [ex316]; decide
                refine m_istore (L1 := [some (.ref (G.1 22 0)), some (.int a1), some (.int 4), some (.int a3), some (.int 256), some (.int 3), none, none, none, none, none, none, none, none]) C dX12_bells_121 (by decide) rfl rfl ?_
                obtain ⟨x318, ex318⟩ : ∃ y : Int32, y = 3 + 1 := ⟨_, rfl⟩
                have b319 : IV x318 4 4 := by rw [ex318]; decide
                have tx318 : x318.toInt = 4 := by rw [ex318]; decide
                obtain rfl : x318 = 4 := by rw [ex318]; decide
                refine m_iinc (v := 4) (L1 := [some (.ref (G.1 22 0)), some (.int a1), some (.int 4), some (.int a3), some (.int 256), some (.int 4), none, none, none, none, none, none, none, none]) C dX12_bells_123 rfl (by decide) (by decide) rfl rfl ?_
                refine m_goto (tgt := 111) C dX12_bells_126 (by decide) ?_
                refine m_iload C dX12_bells_111 rfl ?_
                refine m_iload_n C dX12_bells_113 rfl rfl ?_
                refine m_icmp_ge (tgt := 129) C dX12_bells_114 (by decide) (fun c320 => ?_) (fun c320 => ?_)
                · have f321 : 4 ≤ 4 := by
                    have q : _ := c320
                    simp only [ti_nle, ti_nlt, ti_le, ti_lt, ti_eq, ti_ne, Classical.not_not, kt_4, kt_4] at q
                    omega
                  refine m_iconst (v := (-1)) C dX12_bells_129 (by decide) ?_
                  refine m_istore (L1 := [some (.ref (G.1 22 0)), some (.int a1), some (.int 4), some (.int a3), some (.int 256), some (.int (-1)), none, none, none, none, none, none, none, none]) C dX12_bells_130 (by decide) rfl rfl ?_
                  refine m_iconst (v := 0) C dX12_bells_132 (by decide) ?_
                  refine m_istore (L1 := [some (.ref (G.1 22 0)), some (.int a1), some (.int 4), some (.int a3), some (.int 256), some (.int (-1)), some (.int 0), none, none, none, none, none, none, none]) C dX12_bells_133 (by decide) rfl rfl ?_
                  refine m_iconst (v := 0) C dX12_bells_135 (by decide) ?_
                  refine m_istore (L1 := [some (.ref (G.1 22 0)), some (.int a1), some (.int 4), some (.int a3), some (.int 256), some (.int (-1)), some (.int 0), some (.int 0), none, none, none, none, none, none]) C dX12_bells_136 (by decide) rfl rfl ?_
                  exact J138 ((256 - (0 : Int32).toInt).toNat + 1) τ284 (-1) 0 0 i285 g289 b_a1 b_a3 (iv_wk kc_m1 (by decide)) (iv_wk kc_0 (by decide)) (iv_wk kc_0 (by decide)) (Nat.lt_succ_self _)
                · first | exact absurd c320 (by decide) | exact absurd (by decide) c320
      · have f323 : y4.toInt < 4 := by
          have q : _ := c281
          simp only [ti_nle, ti_nlt, ti_le, ti_lt, ti_eq, ti_ne, Classical.not_not, kt_4] at q
          omega
        have b324 : IV y4 0 3 := ⟨by have q1 := b_y4; have q2 := kc_4; omega, by have q1 := b_y4; have q2 := kc_4; omega⟩
        refine m_aload_n C dX12_bells_67 rfl rfl ?_
        refine g_22_2 C q4_118 dX12_bells_68 ?_
        refine m_bipush (v := 40) C dX12_bells_71 (by decide) ?_
        refine m_iload_n C dX12_bells_73 rfl rfl ?_
        refine m_imul C dX12_bells_74 ?_
        refine m_topi (fun x325 ex325 => ?_)
        have tx325 : x325.toInt = 40 * a1.toInt := by rw [ex325, ti_mulv kc_40 b_a1 (by decide), kt_40]
        have b326 : IV x325 0 280 := by rw [ex325]; exact iv_mul kc_40 b_a1 (by decide)
        refine m_iload C dX12_bells_75 rfl ?_
        refine m_iadd C dX12_bells_77 ?_
        refine m_topi (fun x327 ex327 => ?_)
        have tx327 : x327.toInt = x325.toInt + y4.toInt := by rw [ex327, ti_addv b326 b324 (by decide)]
        have b328 : IV x327 0 283 := by rw [ex327]; exact iv_add b326 b324 (by decide)
        refine al_25 C b328 (by decide) rfl dX12_bells_78 ?_
        refine m_topi (fun x329 ex329 => ?_)
        refine m_i2l C dX12_bells_79 ?_
        refine m_lconst (v := 1) C dX12_bells_80 (by decide) ?_
        refine m_ldc2 (v := 20) C dX12_bells_81 q5_174 ?_
        refine m_callS (n := 3) (st := []) C (c_X12_in l G τ ((x329 : Int32).toInt64) (1) (20) iτ ) q4_190 q4_188 q4_189 q1_7 (by decide +kernel) rfl (by decide) (by decide) rfl (Nat.le_of_ble_eq_true rfl) dX12_bells_84 ?_
        rintro _ τ330 ⟨x333, rfl, i331, f332, b334, h336⟩
        have g335 : Fr MS_X12_bells_4 AS_X12_bells_4 σ τ330 := Fr.call (fτ) f332 (by decide)
        have f337 := tl_i x329
        have f338 := kl_1
        have f339 := kl_20
        show MW p l e _ s m args below meth c _ 14 G 0 0 87 [some (.ref (G.1 22 0)), some (.int a1), some (.int 4), some (.int a3), some (.int y4), none, none, none, none, none, none, none, none, none] [.int x333] τ330
        refine m_if_ne (tgt := 93) C dX12_bells_87 (by decide) (fun c340 => ?_) (fun c340 => ?_)
        · have f341 : x333.toInt ≠ 0 := by
            have q : _ := c340
            simp only [ti_nle, ti_nlt, ti_le, ti_lt, ti_eq, ti_ne, Classical.not_not, kt_0] at q
            omega
          have b342 : IV x333 1 1 := ⟨by have q1 := b334; have q2 := kc_0; omega, by have q1 := b334; have q2 := kc_0; omega⟩
          have b343 : IV x329 1 20 := ⟨by have q1 := (iv_any x329); omega, by have q1 := (iv_any x329); omega⟩
          obtain ⟨x344, ex344⟩ : ∃ y : Int32, y = y4 + 1 := ⟨_, rfl⟩
          have tx344 : x344.toInt = y4.toInt + 1 := by rw [ex344, ti_addv b324 kc_1 (by decide), kt_1]
          have b345 : IV x344 1 4 := by rw [ex344]; exact iv_add b324 kc_1 (by decide)
          refine m_iinc (v := x344) (L1 := [some (.ref (G.1 22 0)), some (.int a1), some (.int 4), some (.int a3), some (.int x344), none, none, none, none, none, none, none, none, none]) C dX12_bells_93 rfl (by rw [ex344]; rfl) (by decide) rfl rfl ?_
          refine m_goto (tgt := 61) C dX12_bells_96 (by decide) ?_
          exact ih61 τ330 x344 i331 g335 b_a1 b_a3 (iv_wk b345 (by decide)) (by have q := hm61; omega)
        · have f346 : x333.toInt = 0 := by
            have q : _ := c340
            simp only [ti_nle, ti_nlt, ti_le, ti_lt, ti_eq, ti_ne, Classical.not_not, kt_0] at q
            omega
          have b347 : IV x333 0 0 := ⟨by have q1 := b334; have q2 := kc_0; omega, by have q1 := b334; have q2 := kc_0; omega⟩
          refine m_ldc (v := (-1000001)) C dX12_bells_90 q4_192 ?_
          exact m_iret C hr hlk (by decide) (by decide) dX12_bells_92 ⟨_, rfl, i331, g335, (iv_wk kc_m1000001 (by decide))⟩
  refine m_iload_n C dX12_bells_0 rfl rfl ?_
  refine m_callS (n := 1) (st := []) C (c_X12_isRow l G σ (a1) hI ) q4_186 q4_184 q4_185 q1_7 (by decide +kernel) rfl (by decide) (by decide) rfl (Nat.le_of_ble_eq_true rfl) dX12_bells_1 ?_
  rintro _ τ348 ⟨x351, rfl, i349, f350, b352, h354⟩
  have g353 : Fr MS_X12_bells_4 AS_X12_bells_4 σ τ348 := Fr.call (Fr.rf) f350 (by decide)
  show MW p l e _ s m args below meth c _ 14 G 0 0 4 [some (.ref (G.1 22 0)), some (.int a1), some (.int 4), some (.int a3), none, none, none, none, none, none, none, none, none, none] [.int x351] τ348
  refine m_if_eq (tgt := 24) C dX12_bells_4 (by decide) (fun c355 => ?_) (fun c355 => ?_)
  · have f356 : x351.toInt = 0 := by
      have q : _ := c355
      simp only [ti_nle, ti_nlt, ti_le, ti_lt, ti_eq, ti_ne, Classical.not_not, kt_0] at q
      omega
    have b357 : IV x351 0 0 := ⟨by have q1 := b352; have q2 := kc_0; omega, by have q1 := b352; have q2 := kc_0; omega⟩
    refine m_ldc (v := (-1000001)) C dX12_bells_24 q4_192 ?_
    exact m_iret C hr hlk (by decide) (by decide) dX12_bells_26 ⟨_, rfl, i349, g353, (iv_wk kc_m1000001 (by decide))⟩
  · have f358 : x351.toInt ≠ 0 := by
      have q : _ := c355
      simp only [ti_nle, ti_nlt, ti_le, ti_lt, ti_eq, ti_ne, Classical.not_not, kt_0] at q
      omega
    have b359 : IV x351 1 1 := ⟨by have q1 := b352; have q2 := kc_0; omega, by have q1 := b352; have q2 := kc_0; omega⟩
    have b360 : IV a1 0 7 := ⟨by have q1 := (iv_any a1); omega, by have q1 := (iv_any a1); omega⟩
    refine m_iload_n C dX12_bells_7 rfl rfl ?_
    refine m_i2l C dX12_bells_8 ?_
    refine m_lconst (v := 1) C dX12_bells_9 (by decide) ?_
    refine m_ldc2 (v := 5) C dX12_bells_10 q5_173 ?_
    refine m_callS (n := 3) (st := []) C (c_X12_in l G τ348 ((4 : Int32).toInt64) (1) (5) i349 ) q4_190 q4_188 q4_189 q1_7 (by decide +kernel) rfl (by decide) (by decide) rfl (Nat.le_of_ble_eq_true rfl) dX12_bells_13 ?_
    rintro _ τ361 ⟨x364, rfl, i362, f363, b365, h367⟩
    have g366 : Fr MS_X12_bells_4 AS_X12_bells_4 σ τ361 := Fr.call (g353) f363 (by decide)
    have f368 := tl_i 4
    have kf368 := kt_4
    have f369 := kl_1
    have f370 := kl_5
    show MW p l e _ s m args below meth c _ 14 G 0 0 16 [some (.ref (G.1 22 0)), some (.int a1), some (.int 4), some (.int a3), none, none, none, none, none, none, none, none, none, none] [.int x364] τ361
    refine m_if_eq (tgt := 24) C dX12_bells_16 (by decide) (fun c371 => ?_) (fun c371 => ?_)
    · have f372 : x364.toInt = 0 := by
        have q : _ := c371
        simp only [ti_nle, ti_nlt, ti_le, ti_lt, ti_eq, ti_ne, Classical.not_not, kt_0] at q
        omega
      have b373 : IV x364 0 0 := ⟨by have q1 := b365; have q2 := kc_0; omega, by have q1 := b365; have q2 := kc_0; omega⟩
      refine m_ldc (v := (-1000001)) C dX12_bells_24 q4_192 ?_
      exact m_iret C hr hlk (by decide) (by decide) dX12_bells_26 ⟨_, rfl, i362, g366, (iv_wk kc_m1000001 (by decide))⟩
    · have f374 : x364.toInt ≠ 0 := by
        have q : _ := c371
        simp only [ti_nle, ti_nlt, ti_le, ti_lt, ti_eq, ti_ne, Classical.not_not, kt_0] at q
        omega
      have b375 : IV x364 1 1 := ⟨by have q1 := b365; have q2 := kc_0; omega, by have q1 := b365; have q2 := kc_0; omega⟩
      refine m_iload_n C dX12_bells_19 rfl rfl ?_
      refine m_iconst (v := (-1)) C dX12_bells_20 (by decide) ?_
      refine m_icmp_ge (tgt := 27) C dX12_bells_21 (by decide) (fun c376 => ?_) (fun c376 => ?_)
      · have f377 : -1 ≤ a3.toInt := by
          have q : _ := c376
          simp only [ti_nle, ti_nlt, ti_le, ti_lt, ti_eq, ti_ne, Classical.not_not, kt_m1] at q
          omega
        have b378 : IV a3 (-1) 2147483647 := ⟨by have q1 := kc_m1; have q2 := (iv_any a3); omega, by have q1 := kc_m1; have q2 := (iv_any a3); omega⟩
        refine m_aload_n C dX12_bells_27 rfl rfl ?_
        refine g_22_3 C q4_119 dX12_bells_28 ?_
        refine m_iload_n C dX12_bells_31 rfl rfl ?_
        refine al_26 C b360 (by decide) rfl dX12_bells_32 ?_
        refine m_topi (fun x379 ex379 => ?_)
        refine m_if_ge (tgt := 42) C dX12_bells_33 (by decide) (fun c380 => ?_) (fun c380 => ?_)
        · have f381 : 0 ≤ x379.toInt := by
            have q : _ := c380
            simp only [ti_nle, ti_nlt, ti_le, ti_lt, ti_eq, ti_ne, Classical.not_not, kt_0] at q
            omega
          have b382 : IV x379 0 2147483647 := ⟨by have q1 := kc_0; have q2 := (iv_any x379); omega, by have q1 := kc_0; have q2 := (iv_any x379); omega⟩
          refine m_aload_n C dX12_bells_42 rfl rfl ?_
          refine g_22_4 C q4_120 dX12_bells_43 ?_
          refine m_iload_n C dX12_bells_46 rfl rfl ?_
          refine al_27 C b360 (by decide) rfl dX12_bells_47 ?_
          refine m_topi (fun x383 ex383 => ?_)
          have b384 : IV x383 0 40 := by rw [ex383]; exact i362.1 27 0 _
          refine m_iload_n C dX12_bells_48 rfl rfl ?_
          refine m_icmp_ge (tgt := 58) C dX12_bells_49 (by decide) (fun c385 => ?_) (fun c385 => ?_)
          · have f386 : 4 ≤ x383.toInt := by
              have q : _ := c385
              simp only [ti_nle, ti_nlt, ti_le, ti_lt, ti_eq, ti_ne, Classical.not_not, kt_4] at q
              omega
            have b387 : IV x383 4 40 := ⟨by have q1 := kc_4; have q2 := b384; omega, by have q1 := kc_4; have q2 := b384; omega⟩
            refine m_iconst (v := 0) C dX12_bells_58 (by decide) ?_
            refine m_istore (L1 := [some (.ref (G.1 22 0)), some (.int a1), some (.int 4), some (.int a3), some (.int 0), none, none, none, none, none, none, none, none, none]) C dX12_bells_59 (by decide) rfl rfl ?_
            exact J61 ((4 - (0 : Int32).toInt).toNat + 1) τ361 0 i362 g366 b360 b378 (iv_wk kc_0 (by decide)) (Nat.lt_succ_self _)
          · have f388 : x383.toInt < 4 := by
              have q : _ := c385
              simp only [ti_nle, ti_nlt, ti_le, ti_lt, ti_eq, ti_ne, Classical.not_not, kt_4] at q
              omega
            have b389 : IV x383 0 3 := ⟨by have q1 := b384; have q2 := kc_4; omega, by have q1 := b384; have q2 := kc_4; omega⟩
            refine m_aload_n C dX12_bells_52 rfl rfl ?_
            refine m_iconst (v := 2) C dX12_bells_53 (by decide) ?_
            refine m_callV (n := 1) (ci := 11) (st := []) C (c_X12_met l G τ361 (2) i362 (iv_wk kc_2 (by decide))) (by decide) (by decide) rfl rfl rfl q4_196 q4_193 q4_195 q0_26 q1_7 (by decide +kernel) rfl (by decide) (by decide) rfl (Nat.le_of_ble_eq_true rfl) dX12_bells_54 ?_
            rintro _ τ390 ⟨x393, rfl, i391, f392, b394, h396⟩
            have g395 : Fr MS_X12_bells_4 AS_X12_bells_4 σ τ390 := Fr.call (g366) f392 (by decide)
            have q397 := kt_2
            show MW p l e _ s m args below meth c _ 14 G 0 0 57 [some (.ref (G.1 22 0)), some (.int a1), some (.int 4), some (.int a3), none, none, none, none, none, none, none, none, none, none] [.int x393] τ390
            exact m_iret C hr hlk (by decide) (by decide) dX12_bells_57 ⟨_, rfl, i391, g395, (iv_wk b394 (by decide))⟩
        · have f398 : x379.toInt < 0 := by
            have q : _ := c380
            simp only [ti_nle, ti_nlt, ti_le, ti_lt, ti_eq, ti_ne, Classical.not_not, kt_0] at q
            omega
          have b399 : IV x379 (-2147483648) (-1) := ⟨by have q1 := (iv_any x379); have q2 := kc_0; omega, by have q1 := (iv_any x379); have q2 := kc_0; omega⟩
          refine m_aload_n C dX12_bells_36 rfl rfl ?_
          refine m_iconst (v := 1) C dX12_bells_37 (by decide) ?_
          refine m_callV (n := 1) (ci := 11) (st := []) C (c_X12_met l G τ361 (1) i362 (iv_wk kc_1 (by decide))) (by decide) (by decide) rfl rfl rfl q4_196 q4_193 q4_195 q0_26 q1_7 (by decide +kernel) rfl (by decide) (by decide) rfl (Nat.le_of_ble_eq_true rfl) dX12_bells_38 ?_
          rintro _ τ400 ⟨x403, rfl, i401, f402, b404, h406⟩
          have g405 : Fr MS_X12_bells_4 AS_X12_bells_4 σ τ400 := Fr.call (g366) f402 (by decide)
          have q407 := kt_1
          show MW p l e _ s m args below meth c _ 14 G 0 0 41 [some (.ref (G.1 22 0)), some (.int a1), some (.int 4), some (.int a3), none, none, none, none, none, none, none, none, none, none] [.int x403] τ400
          exact m_iret C hr hlk (by decide) (by decide) dX12_bells_41 ⟨_, rfl, i401, g405, (iv_wk b404 (by decide))⟩
      · have f408 : a3.toInt < -1 := by
          have q : _ := c376
          simp only [ti_nle, ti_nlt, ti_le, ti_lt, ti_eq, ti_ne, Classical.not_not, kt_m1] at q
          omega
        have b409 : IV a3 (-2147483648) (-2) := ⟨by have q1 := (iv_any a3); have q2 := kc_m1; omega, by have q1 := (iv_any a3); have q2 := kc_m1; omega⟩
        refine m_ldc (v := (-1000001)) C dX12_bells_24 q4_192 ?_
        exact m_iret C hr hlk (by decide) (by decide) dX12_bells_26 ⟨_, rfl, i362, g366, (iv_wk kc_m1000001 (by decide))⟩

abbrev MS_X12_bells_5 : List (Nat × Nat) := [(22, 8)]
abbrev AS_X12_bells_5 : List Nat := []
set_option maxHeartbeats 4000000 in
set_option maxRecDepth 100000 in
theorem c_X12_bells_5 (l : Launch) (G : Gt) (σ : Sg) (a1 : Int32) (a3 : Int32) (hI : Inv σ) : Mc l G yX12_bells cX12_bells 14 (some .int) 2 60 0 0 [.ref (G.1 22 0), .int a1, .int 5, .int a3] σ (PI fun r τ => Inv τ ∧ Fr MS_X12_bells_5 AS_X12_bells_5 σ τ ∧ IV r (-2147483648) 2147483647) := by
  refine Mc.of (L0 := [some (.ref (G.1 22 0)), some (.int a1), some (.int 5), some (.int a3), none, none, none, none, none, none, none, none, none, none]) (by decide) (Nat.le_of_ble_eq_true rfl) rfl ?_
  intro p e s m args below meth c C hr hlk
  have C : Cx p s m args c cX12_bells 14 "LeanTowerModel" := C
  have k0 : (0 : Int32).toInt = 0 := by decide
  have k1 : (1 : Int32).toInt = 1 := by decide
  have J138 : ∀ (n : Nat) (τ : Sg) (y5 : Int32) (y6 : Int32) (y7 : Int32), Inv τ → Fr MS_X12_bells_5 AS_X12_bells_5 σ τ → IV a1 0 7 → IV a3 (-1) 2147483647 → IV y5 (-1) 10000 → IV y6 (-2147483648) 2147483647 → IV y7 0 3125 → (3125 - y7.toInt).toNat < n → MW p l e { frames := 2, cells := 0, slots := 0, locals := 60 } s m args below meth c (MQ below (QP G (PI fun r τ => Inv τ ∧ Fr MS_X12_bells_5 AS_X12_bells_5 σ τ ∧ IV r (-2147483648) 2147483647)) args s 0 0 (aG G)) 14 G 0 0 138 [some (.ref (G.1 22 0)), some (.int a1), some (.int 5), some (.int a3), some (.int 3125), some (.int y5), some (.int y6), some (.int y7), none, none, none, none, none, none] [] τ := by
    intro n
    induction n with
    | zero => intro τ y5 y6 y7 iτ fτ b_a1 b_a3 b_y5 b_y6 b_y7 hm; exact absurd hm (Nat.not_lt_zero _)
    | succ n ih138 =>
      intro τ y5 y6 y7 iτ fτ b_a1 b_a3 b_y5 b_y6 b_y7 hm138
      refine m_iload C dX12_bells_138 rfl ?_
      refine m_iload C dX12_bells_140 rfl ?_
      refine m_icmp_ge (tgt := 285) C dX12_bells_142 (by decide) (fun c1 => ?_) (fun c1 => ?_)
      · have f2 : 3125 ≤ y7.toInt := by
          have q : _ := c1
          simp only [ti_nle, ti_nlt, ti_le, ti_lt, ti_eq, ti_ne, Classical.not_not, kt_3125] at q
          omega
        have b3 : IV y7 3125 3125 := ⟨by have q1 := kc_3125; have q2 := b_y7; omega, by have q1 := kc_3125; have q2 := b_y7; omega⟩
        refine m_iload_n C dX12_bells_285 rfl rfl ?_
        refine m_if_ge (tgt := 292) C dX12_bells_286 (by decide) (fun c4 => ?_) (fun c4 => ?_)
        · have f5 : 0 ≤ a3.toInt := by
            have q : _ := c4
            simp only [ti_nle, ti_nlt, ti_le, ti_lt, ti_eq, ti_ne, Classical.not_not, kt_0] at q
            omega
          have b6 : IV a3 0 2147483647 := ⟨by have q1 := kc_0; have q2 := b_a3; omega, by have q1 := kc_0; have q2 := b_a3; omega⟩
          refine m_iload C dX12_bells_292 rfl ?_
          refine m_istore (L1 := [some (.ref (G.1 22 0)), some (.int a1), some (.int 5), some (.int a3), some (.int 3125), some (.int y5), some (.int y6), some (.int 3125), none, none, none, none, none, none]) C dX12_bells_294 (by decide) rfl rfl ?_
          refine m_iconst (v := 0) C dX12_bells_296 (by decide) ?_
          refine m_istore (L1 := [some (.ref (G.1 22 0)), some (.int a1), some (.int 5), some (.int a3), some (.int 3125), some (.int y5), some (.int y6), some (.int 3125), some (.int 0), none, none, none, none, none]) C dX12_bells_297 (by decide) rfl rfl ?_
          refine m_iload C dX12_bells_299 rfl ?_
          refine m_iload_n C dX12_bells_301 rfl rfl ?_
          refine m_icmp_gt (tgt := 323) C dX12_bells_302 (by decide) (fun c7 => ?_) (fun c7 => ?_)
          · exfalso
            have q : _ := c7
            simp only [ti_nle, ti_nlt, ti_le, ti_lt, ti_eq, ti_ne, Classical.not_not, kt_0] at q
            have q1 := kc_0; have q2 := b6; omega
          · have f9 : 0 ≤ a3.toInt := by
              have q : _ := c7
              simp only [ti_nle, ti_nlt, ti_le, ti_lt, ti_eq, ti_ne, Classical.not_not, kt_0] at q
              omega
            refine m_iload C dX12_bells_305 rfl ?_
            refine m_iload_n C dX12_bells_307 rfl rfl ?_
            refine m_icmp_ge (tgt := 323) C dX12_bells_308 (by decide) (fun c10 => ?_) (fun c10 => ?_)
            · first | exact absurd c10 (by decide) | exact absurd (by decide) c10
            · have f12 : 0 < 5 := by
                have q : _ := c10
                simp only [ti_nle, ti_nlt, ti_le, ti_lt, ti_eq, ti_ne, Classical.not_not, kt_0, kt_5] at q
                omega
              refine m_iload C dX12_bells_311 rfl ?_
              refine m_iload_n C dX12_bells_313 rfl rfl ?_
              refine m_idiv C dX12_bells_314 (iv_nz kc_5 (by decide)) ?_
              refine m_topi (fun x13 ex13 => ?_)
              have b14 : IV x13 625 625 := by rw [ex13]; decide
              have tx13 : x13.toInt = 625 := by rw [ex13]; decide
              obtain rfl : x13 = 625 := by rw [ex13]; decide
              refine m_istore (L1 := [some (.ref (G.1 22 0)), some (.int a1), some (.int 5), some (.int a3), some (.int 3125), some (.int y5), some (.int y6), some (.int 625), some (.int 0), none, none, none, none, none]) C dX12_bells_315 (by decide) rfl rfl ?_
              obtain ⟨x15, ex15⟩ : ∃ y : Int32, y = 0 + 1 := ⟨_, rfl⟩
              have b16 : IV x15 1 1 := by rw [ex15]; decide
              have tx15 : x15.toInt = 1 := by rw [ex15]; decide
              obtain rfl : x15 = 1 := by rw [ex15]; decide
              refine m_iinc (v := 1) (L1 := [some (.ref (G.1 22 0)), some (.int a1), some (.int 5), some (.int a3), some (.int 3125), some (.int y5), some (.int y6), some (.int 625), some (.int 1), none, none, none, none, none]) C dX12_bells_317 rfl (by decide) (by decide) rfl rfl ?_
              refine m_goto (tgt := 299) C dX12_bells_320 (by decide) ?_
              refine m_iload C dX12_bells_299 rfl ?_
              refine m_iload_n C dX12_bells_301 rfl rfl ?_
              refine m_icmp_gt (tgt := 323) C dX12_bells_302 (by decide) (fun c17 => ?_) (fun c17 => ?_)
              · have f18 : a3.toInt < 1 := by
                  have q : _ := c17
                  simp only [ti_nle, ti_nlt, ti_le, ti_lt, ti_eq, ti_ne, Classical.not_not, kt_1] at q
                  omega
                have b19 : IV a3 0 0 := ⟨by have q1 := b6; have q2 := kc_1; omega, by have q1 := b6; have q2 := kc_1; omega⟩
                refine m_iload_n C dX12_bells_323 rfl rfl ?_
                refine m_iload_n C dX12_bells_324 rfl rfl ?_
                refine m_icmp_ge (tgt := 338) C dX12_bells_325 (by decide) (fun c20 => ?_) (fun c20 => ?_)
                · exfalso
                  have q : _ := c20
                  simp only [ti_nle, ti_nlt, ti_le, ti_lt, ti_eq, ti_ne, Classical.not_not, kt_5] at q
                  have q1 := b19; have q2 := kc_5; omega
                · have f22 : a3.toInt < 5 := by
                    have q : _ := c20
                    simp only [ti_nle, ti_nlt, ti_le, ti_lt, ti_eq, ti_ne, Classical.not_not, kt_5] at q
                    omega
                  refine m_iload C dX12_bells_328 rfl ?_
                  refine m_iload C dX12_bells_330 rfl ?_
                  refine m_idiv C dX12_bells_332 (iv_nz kc_625 (by decide)) ?_
                  refine m_topi (fun x23 ex23 => ?_)
                  refine m_iload_n C dX12_bells_333 rfl rfl ?_
                  refine m_irem C dX12_bells_334 (iv_nz kc_5 (by decide)) ?_
                  refine m_topi (fun x24 ex24 => ?_)
                  refine m_goto (tgt := 340) C dX12_bells_335 (by decide) ?_
                  exact m_iret C hr hlk (by decide) (by decide) dX12_bells_340 ⟨_, rfl, iτ, fτ, (iv_any x24)⟩
              · have f25 : 1 ≤ a3.toInt := by
                  have q : _ := c17
                  simp only [ti_nle, ti_nlt, ti_le, ti_lt, ti_eq, ti_ne, Classical.not_not, kt_1] at q
                  omega
                have b26 : IV a3 1 2147483647 := ⟨by have q1 := kc_1; have q2 := b6; omega, by have q1 := kc_1; have q2 := b6; omega⟩
                refine m_iload C dX12_bells_305 rfl ?_
                refine m_iload_n C dX12_bells_307 rfl rfl ?_
                refine m_icmp_ge (tgt := 323) C dX12_bells_308 (by decide) (fun c27 => ?_) (fun c27 => ?_)
                · first | exact absurd c27 (by decide) | exact absurd (by decide) c27
                · have f29 : 1 < 5 := by
                    have q : _ := c27
                    simp only [ti_nle, ti_nlt, ti_le, ti_lt, ti_eq, ti_ne, Classical.not_not, kt_1, kt_5] at q
                    omega
                  refine m_iload C dX12_bells_311 rfl ?_
                  refine m_iload_n C dX12_bells_313 rfl rfl ?_
                  refine m_idiv C dX12_bells_314 (iv_nz kc_5 (by decide)) ?_
                  refine m_topi (fun x30 ex30 => ?_)
                  have b31 : IV x30 125 125 := by rw [ex30]; decide
                  have tx30 : x30.toInt = 125 := by rw [ex30]; decide
                  obtain rfl : x30 = 125 := by rw [ex30]; decide
                  refine m_istore (L1 := [some (.ref (G.1 22 0)), some (.int a1), some (.int 5), some (.int a3), some (.int 3125), some (.int y5), some (.int y6), some (.int 125), some (.int 1), none, none, none, none, none]) C dX12_bells_315 (by decide) rfl rfl ?_
                  obtain ⟨x32, ex32⟩ : ∃ y : Int32, y = 1 + 1 := ⟨_, rfl⟩
                  have b33 : IV x32 2 2 := by rw [ex32]; decide
                  have tx32 : x32.toInt = 2 := by rw [ex32]; decide
                  obtain rfl : x32 = 2 := by rw [ex32]; decide
                  refine m_iinc (v := 2) (L1 := [some (.ref (G.1 22 0)), some (.int a1), some (.int 5), some (.int a3), some (.int 3125), some (.int y5), some (.int y6), some (.int 125), some (.int 2), none, none, none, none, none]) C dX12_bells_317 rfl (by decide) (by decide) rfl rfl ?_
                  refine m_goto (tgt := 299) C dX12_bells_320 (by decide) ?_
                  refine m_iload C dX12_bells_299 rfl ?_
                  refine m_iload_n C dX12_bells_301 rfl rfl ?_
                  refine m_icmp_gt (tgt := 323) C dX12_bells_302 (by decide) (fun c34 => ?_) (fun c34 => ?_)
                  · have f35 : a3.toInt < 2 := by
                      have q : _ := c34
                      simp only [ti_nle, ti_nlt, ti_le, ti_lt, ti_eq, ti_ne, Classical.not_not, kt_2] at q
                      omega
                    have b36 : IV a3 1 1 := ⟨by have q1 := b26; have q2 := kc_2; omega, by have q1 := b26; have q2 := kc_2; omega⟩
                    refine m_iload_n C dX12_bells_323 rfl rfl ?_
                    refine m_iload_n C dX12_bells_324 rfl rfl ?_
                    refine m_icmp_ge (tgt := 338) C dX12_bells_325 (by decide) (fun c37 => ?_) (fun c37 => ?_)
                    · exfalso
                      have q : _ := c37
                      simp only [ti_nle, ti_nlt, ti_le, ti_lt, ti_eq, ti_ne, Classical.not_not, kt_5] at q
                      have q1 := b36; have q2 := kc_5; omega
                    · have f39 : a3.toInt < 5 := by
                        have q : _ := c37
                        simp only [ti_nle, ti_nlt, ti_le, ti_lt, ti_eq, ti_ne, Classical.not_not, kt_5] at q
                        omega
                      refine m_iload C dX12_bells_328 rfl ?_
                      refine m_iload C dX12_bells_330 rfl ?_
                      refine m_idiv C dX12_bells_332 (iv_nz kc_125 (by decide)) ?_
                      refine m_topi (fun x40 ex40 => ?_)
                      refine m_iload_n C dX12_bells_333 rfl rfl ?_
                      refine m_irem C dX12_bells_334 (iv_nz kc_5 (by decide)) ?_
                      refine m_topi (fun x41 ex41 => ?_)
                      refine m_goto (tgt := 340) C dX12_bells_335 (by decide) ?_
                      exact m_iret C hr hlk (by decide) (by decide) dX12_bells_340 ⟨_, rfl, iτ, fτ, (iv_any x41)⟩
                  · have f42 : 2 ≤ a3.toInt := by
                      have q : _ := c34
                      simp only [ti_nle, ti_nlt, ti_le, ti_lt, ti_eq, ti_ne, Classical.not_not, kt_2] at q
                      omega
                    have b43 : IV a3 2 2147483647 := ⟨by have q1 := kc_2; have q2 := b26; omega, by have q1 := kc_2; have q2 := b26; omega⟩
                    refine m_iload C dX12_bells_305 rfl ?_
                    refine m_iload_n C dX12_bells_307 rfl rfl ?_
                    refine m_icmp_ge (tgt := 323) C dX12_bells_308 (by decide) (fun c44 => ?_) (fun c44 => ?_)
                    · first | exact absurd c44 (by decide) | exact absurd (by decide) c44
                    · have f46 : 2 < 5 := by
                        have q : _ := c44
                        simp only [ti_nle, ti_nlt, ti_le, ti_lt, ti_eq, ti_ne, Classical.not_not, kt_2, kt_5] at q
                        omega
                      refine m_iload C dX12_bells_311 rfl ?_
                      refine m_iload_n C dX12_bells_313 rfl rfl ?_
                      refine m_idiv C dX12_bells_314 (iv_nz kc_5 (by decide)) ?_
                      refine m_topi (fun x47 ex47 => ?_)
                      have b48 : IV x47 25 25 := by rw [ex47]; decide
                      have tx47 : x47.toInt = 25 := by rw [ex47]; decide
                      obtain rfl : x47 = 25 := by rw [ex47]; decide
                      refine m_istore (L1 := [some (.ref (G.1 22 0)), some (.int a1), some (.int 5), some (.int a3), some (.int 3125), some (.int y5), some (.int y6), some (.int 25), some (.int 2), none, none, none, none, none]) C dX12_bells_315 (by decide) rfl rfl ?_
                      obtain ⟨x49, ex49⟩ : ∃ y : Int32, y = 2 + 1 := ⟨_, rfl⟩
                      have b50 : IV x49 3 3 := by rw [ex49]; decide
                      have tx49 : x49.toInt = 3 := by rw [ex49]; decide
                      obtain rfl : x49 = 3 := by rw [ex49]; decide
                      refine m_iinc (v := 3) (L1 := [some (.ref (G.1 22 0)), some (.int a1), some (.int 5), some (.int a3), some (.int 3125), some (.int y5), some (.int y6), some (.int 25), some (.int 3), none, none, none, none, none]) C dX12_bells_317 rfl (by decide) (by decide) rfl rfl ?_
                      refine m_goto (tgt := 299) C dX12_bells_320 (by decide) ?_
                      refine m_iload C dX12_bells_299 rfl ?_
                      refine m_iload_n C dX12_bells_301 rfl rfl ?_
                      refine m_icmp_gt (tgt := 323) C dX12_bells_302 (by decide) (fun c51 => ?_) (fun c51 => ?_)
                      · have f52 : a3.toInt < 3 := by
                          have q : _ := c51
                          simp only [ti_nle, ti_nlt, ti_le, ti_lt, ti_eq, ti_ne, Classical.not_not, kt_3] at q
                          omega
                        have b53 : IV a3 2 2 := ⟨by have q1 := b43; have q2 := kc_3; omega, by have q1 := b43; have q2 := kc_3; omega⟩
                        refine m_iload_n C dX12_bells_323 rfl rfl ?_
                        refine m_iload_n C dX12_bells_324 rfl rfl ?_
                        refine m_icmp_ge (tgt := 338) C dX12_bells_325 (by decide) (fun c54 => ?_) (fun c54 => ?_)
                        · exfalso
                          have q : _ := c54
                          simp only [ti_nle, ti_nlt, ti_le, ti_lt, ti_eq, ti_ne, Classical.not_not, kt_5] at q
                          have q1 := b53; have q2 := kc_5; omega
                        · have f56 : a3.toInt < 5 := by
                            have q : _ := c54
                            simp only [ti_nle, ti_nlt, ti_le, ti_lt, ti_eq, ti_ne, Classical.not_not, kt_5] at q
                            omega
                          refine m_iload C dX12_bells_328 rfl ?_
                          refine m_iload C dX12_bells_330 rfl ?_
                          refine m_idiv C dX12_bells_332 (iv_nz kc_25 (by decide)) ?_
                          refine m_topi (fun x57 ex57 => ?_)
                          refine m_iload_n C dX12_bells_333 rfl rfl ?_
                          refine m_irem C dX12_bells_334 (iv_nz kc_5 (by decide)) ?_
                          refine m_topi (fun x58 ex58 => ?_)
                          refine m_goto (tgt := 340) C dX12_bells_335 (by decide) ?_
                          exact m_iret C hr hlk (by decide) (by decide) dX12_bells_340 ⟨_, rfl, iτ, fτ, (iv_any x58)⟩
                      · have f59 : 3 ≤ a3.toInt := by
                          have q : _ := c51
                          simp only [ti_nle, ti_nlt, ti_le, ti_lt, ti_eq, ti_ne, Classical.not_not, kt_3] at q
                          omega
                        have b60 : IV a3 3 2147483647 := ⟨by have q1 := kc_3; have q2 := b43; omega, by have q1 := kc_3; have q2 := b43; omega⟩
                        refine m_iload C dX12_bells_305 rfl ?_
                        refine m_iload_n C dX12_bells_307 rfl rfl ?_
                        refine m_icmp_ge (tgt := 323) C dX12_bells_308 (by decide) (fun c61 => ?_) (fun c61 => ?_)
                        · first | exact absurd c61 (by decide) | exact absurd (by decide) c61
                        · have f63 : 3 < 5 := by
                            have q : _ := c61
                            simp only [ti_nle, ti_nlt, ti_le, ti_lt, ti_eq, ti_ne, Classical.not_not, kt_3, kt_5] at q
                            omega
                          refine m_iload C dX12_bells_311 rfl ?_
                          refine m_iload_n C dX12_bells_313 rfl rfl ?_
                          refine m_idiv C dX12_bells_314 (iv_nz kc_5 (by decide)) ?_
                          refine m_topi (fun x64 ex64 => ?_)
                          have b65 : IV x64 5 5 := by rw [ex64]; decide
                          have tx64 : x64.toInt = 5 := by rw [ex64]; decide
                          obtain rfl : x64 = 5 := by rw [ex64]; decide
                          refine m_istore (L1 := [some (.ref (G.1 22 0)), some (.int a1), some (.int 5), some (.int a3), some (.int 3125), some (.int y5), some (.int y6), some (.int 5), some (.int 3), none, none, none, none, none]) C dX12_bells_315 (by decide) rfl rfl ?_
                          obtain ⟨x66, ex66⟩ : ∃ y : Int32, y = 3 + 1 := ⟨_, rfl⟩
                          have b67 : IV x66 4 4 := by rw [ex66]; decide
                          have tx66 : x66.toInt = 4 := by rw [ex66]; decide
                          obtain rfl : x66 = 4 := by rw [ex66]; decide
                          refine m_iinc (v := 4) (L1 := [some (.ref (G.1 22 0)), some (.int a1), some (.int 5), some (.int a3), some (.int 3125), some (.int y5), some (.int y6), some (.int 5), some (.int 4), none, none, none, none, none]) C dX12_bells_317 rfl (by decide) (by decide) rfl rfl ?_
                          refine m_goto (tgt := 299) C dX12_bells_320 (by decide) ?_
                          refine m_iload C dX12_bells_299 rfl ?_
                          refine m_iload_n C dX12_bells_301 rfl rfl ?_
                          refine m_icmp_gt (tgt := 323) C dX12_bells_302 (by decide) (fun c68 => ?_) (fun c68 => ?_)
                          · have f69 : a3.toInt < 4 := by
                              have q : _ := c68
                              simp only [ti_nle, ti_nlt, ti_le, ti_lt, ti_eq, ti_ne, Classical.not_not, kt_4] at q
                              omega
                            have b70 : IV a3 3 3 := ⟨by have q1 := b60; have q2 := kc_4; omega, by have q1 := b60; have q2 := kc_4; omega⟩
                            refine m_iload_n C dX12_bells_323 rfl rfl ?_
                            refine m_iload_n C dX12_bells_324 rfl rfl ?_
                            refine m_icmp_ge (tgt := 338) C dX12_bells_325 (by decide) (fun c71 => ?_) (fun c71 => ?_)
                            · exfalso
                              have q : _ := c71
                              simp only [ti_nle, ti_nlt, ti_le, ti_lt, ti_eq, ti_ne, Classical.not_not, kt_5] at q
                              have q1 := b70; have q2 := kc_5; omega
                            · have f73 : a3.toInt < 5 := by
                                have q : _ := c71
                                simp only [ti_nle, ti_nlt, ti_le, ti_lt, ti_eq, ti_ne, Classical.not_not, kt_5] at q
                                omega
                              refine m_iload C dX12_bells_328 rfl ?_
                              refine m_iload C dX12_bells_330 rfl ?_
                              refine m_idiv C dX12_bells_332 (iv_nz kc_5 (by decide)) ?_
                              refine m_topi (fun x74 ex74 => ?_)
                              refine m_iload_n C dX12_bells_333 rfl rfl ?_
                              refine m_irem C dX12_bells_334 (iv_nz kc_5 (by decide)) ?_
                              refine m_topi (fun x75 ex75 => ?_)
                              refine m_goto (tgt := 340) C dX12_bells_335 (by decide) ?_
                              exact m_iret C hr hlk (by decide) (by decide) dX12_bells_340 ⟨_, rfl, iτ, fτ, (iv_any x75)⟩
                          · have f76 : 4 ≤ a3.toInt := by
                              have q : _ := c68
                              simp only [ti_nle, ti_nlt, ti_le, ti_lt, ti_eq, ti_ne, Classical.not_not, kt_4] at q
                              omega
                            have b77 : IV a3 4 2147483647 := ⟨by have q1 := kc_4; have q2 := b60; omega, by have q1 := kc_4; have q2 := b60; omega⟩
                            refine m_iload C dX12_bells_305 rfl ?_
                            refine m_iload_n C dX12_bells_307 rfl rfl ?_
                            refine m_icmp_ge (tgt := 323) C dX12_bells_308 (by decide) (fun c78 => ?_) (fun c78 => ?_)
                            · first | exact absurd c78 (by decide) | exact absurd (by decide) c78
                            · have f80 : 4 < 5 := by
                                have q : _ := c78
                                simp only [ti_nle, ti_nlt, ti_le, ti_lt, ti_eq, ti_ne, Classical.not_not, kt_4, kt_5] at q
                                omega
                              refine m_iload C dX12_bells_311 rfl ?_
                              refine m_iload_n C dX12_bells_313 rfl rfl ?_
                              refine m_idiv C dX12_bells_314 (iv_nz kc_5 (by decide)) ?_
                              refine m_topi (fun x81 ex81 => ?_)
                              have b82 : IV x81 1 1 := by rw [ex81]; decide
                              have tx81 : x81.toInt = 1 := by rw [ex81]; decide
                              obtain rfl : x81 = 1 := by rw [ex81]; decide
                              refine m_istore (L1 := [some (.ref (G.1 22 0)), some (.int a1), some (.int 5), some (.int a3), some (.int 3125), some (.int y5), some (.int y6), some (.int 1), some (.int 4), none, none, none, none, none]) C dX12_bells_315 (by decide) rfl rfl ?_
                              obtain ⟨x83, ex83⟩ : ∃ y : Int32, y = 4 + 1 := ⟨_, rfl⟩
                              have b84 : IV x83 5 5 := by rw [ex83]; decide
                              have tx83 : x83.toInt = 5 := by rw [ex83]; decide
                              obtain rfl : x83 = 5 := by rw [ex83]; decide
                              refine m_iinc (v := 5) (L1 := [some (.ref (G.1 22 0)), some (.int a1), some (.int 5), some (.int a3), some (.int 3125), some (.int y5), some (.int y6), some (.int 1), some (.int 5), none, none, none, none, none]) C dX12_bells_317 rfl (by decide) (by decide) rfl rfl ?_
                              refine m_goto (tgt := 299) C dX12_bells_320 (by decide) ?_
                              refine m_iload C dX12_bells_299 rfl ?_
                              refine m_iload_n C dX12_bells_301 rfl rfl ?_
                              refine m_icmp_gt (tgt := 323) C dX12_bells_302 (by decide) (fun c85 => ?_) (fun c85 => ?_)
                              · have f86 : a3.toInt < 5 := by
                                  have q : _ := c85
                                  simp only [ti_nle, ti_nlt, ti_le, ti_lt, ti_eq, ti_ne, Classical.not_not, kt_5] at q
                                  omega
                                have b87 : IV a3 4 4 := ⟨by have q1 := b77; have q2 := kc_5; omega, by have q1 := b77; have q2 := kc_5; omega⟩
                                refine m_iload_n C dX12_bells_323 rfl rfl ?_
                                refine m_iload_n C dX12_bells_324 rfl rfl ?_
                                refine m_icmp_ge (tgt := 338) C dX12_bells_325 (by decide) (fun c88 => ?_) (fun c88 => ?_)
                                · exfalso
                                  have q : _ := c88
                                  simp only [ti_nle, ti_nlt, ti_le, ti_lt, ti_eq, ti_ne, Classical.not_not, kt_5] at q
                                  have q1 := b87; have q2 := kc_5; omega
                                · have f90 : a3.toInt < 5 := by
                                    have q : _ := c88
                                    simp only [ti_nle, ti_nlt, ti_le, ti_lt, ti_eq, ti_ne, Classical.not_not, kt_5] at q
                                    omega
                                  refine m_iload C dX12_bells_328 rfl ?_
                                  refine m_iload C dX12_bells_330 rfl ?_
                                  refine m_idiv C dX12_bells_332 (iv_nz kc_1 (by decide)) ?_
                                  refine m_topi (fun x91 ex91 => ?_)
                                  refine m_iload_n C dX12_bells_333 rfl rfl ?_
                                  refine m_irem C dX12_bells_334 (iv_nz kc_5 (by decide)) ?_
                                  refine m_topi (fun x92 ex92 => ?_)
                                  refine m_goto (tgt := 340) C dX12_bells_335 (by decide) ?_
                                  exact m_iret C hr hlk (by decide) (by decide) dX12_bells_340 ⟨_, rfl, iτ, fτ, (iv_any x92)⟩
                              · have f93 : 5 ≤ a3.toInt := by
                                  have q : _ := c85
                                  simp only [ti_nle, ti_nlt, ti_le, ti_lt, ti_eq, ti_ne, Classical.not_not, kt_5] at q
                                  omega
                                have b94 : IV a3 5 2147483647 := ⟨by have q1 := kc_5; have q2 := b77; omega, by have q1 := kc_5; have q2 := b77; omega⟩
                                refine m_iload C dX12_bells_305 rfl ?_
                                refine m_iload_n C dX12_bells_307 rfl rfl ?_
                                refine m_icmp_ge (tgt := 323) C dX12_bells_308 (by decide) (fun c95 => ?_) (fun c95 => ?_)
                                · have f96 : 5 ≤ 5 := by
                                    have q : _ := c95
                                    simp only [ti_nle, ti_nlt, ti_le, ti_lt, ti_eq, ti_ne, Classical.not_not, kt_5, kt_5] at q
                                    omega
                                  refine m_iload_n C dX12_bells_323 rfl rfl ?_
                                  refine m_iload_n C dX12_bells_324 rfl rfl ?_
                                  refine m_icmp_ge (tgt := 338) C dX12_bells_325 (by decide) (fun c97 => ?_) (fun c97 => ?_)
                                  · have f98 : 5 ≤ a3.toInt := by
                                      have q : _ := c97
                                      simp only [ti_nle, ti_nlt, ti_le, ti_lt, ti_eq, ti_ne, Classical.not_not, kt_5] at q
                                      omega
                                    refine m_ldc (v := (-1000000)) C dX12_bells_338 q5_70 ?_
                                    exact m_iret C hr hlk (by decide) (by decide) dX12_bells_340 ⟨_, rfl, iτ, fτ, (iv_wk kc_m1000000 (by decide))⟩
                                  · exfalso
                                    have q : _ := c97
                                    simp only [ti_nle, ti_nlt, ti_le, ti_lt, ti_eq, ti_ne, Classical.not_not, kt_5] at q
                                    have q1 := b94; have q2 := kc_5; omega
                                · first | exact absurd c95 (by decide) | exact absurd (by decide) c95
        · have f101 : a3.toInt < 0 := by
            have q : _ := c4
            simp only [ti_nle, ti_nlt, ti_le, ti_lt, ti_eq, ti_ne, Classical.not_not, kt_0] at q
            omega
          have b102 : IV a3 (-1) (-1) := ⟨by have q1 := b_a3; have q2 := kc_0; omega, by have q1 := b_a3; have q2 := kc_0; omega⟩
          refine m_iload C dX12_bells_289 rfl ?_
          exact m_iret C hr hlk (by decide) (by decide) dX12_bells_291 ⟨_, rfl, iτ, fτ, b_y6⟩
      · have f103 : y7.toInt < 3125 := by
          have q : _ := c1
          simp only [ti_nle, ti_nlt, ti_le, ti_lt, ti_eq, ti_ne, Classical.not_not, kt_3125] at q
          omega
        have b104 : IV y7 0 3124 := ⟨by have q1 := b_y7; have q2 := kc_3125; omega, by have q1 := b_y7; have q2 := kc_3125; omega⟩
        refine m_iconst (v := 0) C dX12_bells_145 (by decide) ?_
        refine m_istore (L1 := [some (.ref (G.1 22 0)), some (.int a1), some (.int 5), some (.int a3), some (.int 3125), some (.int y5), some (.int y6), some (.int y7), some (.int 0), none, none, none, none, none]) C dX12_bells_146 (by decide) rfl rfl ?_
        refine m_iload C dX12_bells_148 rfl ?_
        refine m_istore (L1 := [some (.ref (G.1 22 0)), some (.int a1), some (.int 5), some (.int a3), some (.int 3125), some (.int y5), some (.int y6), some (.int y7), some (.int 0), some (.int 3125), none, none, none, none]) C dX12_bells_150 (by decide) rfl rfl ?_
        refine m_iconst (v := 0) C dX12_bells_152 (by decide) ?_
        refine m_istore (L1 := [some (.ref (G.1 22 0)), some (.int a1), some (.int 5), some (.int a3), some (.int 3125), some (.int y5), some (.int y6), some (.int y7), some (.int 0), some (.int 3125), some (.int 0), none, none, none]) C dX12_bells_153 (by decide) rfl rfl ?_
        refine m_iconst (v := 0) C dX12_bells_155 (by decide) ?_
        refine m_istore (L1 := [some (.ref (G.1 22 0)), some (.int a1), some (.int 5), some (.int a3), some (.int 3125), some (.int y5), some (.int y6), some (.int y7), some (.int 0), some (.int 3125), some (.int 0), some (.int 0), none, none]) C dX12_bells_156 (by decide) rfl rfl ?_
        refine m_iconst (v := 0) C dX12_bells_158 (by decide) ?_
        refine m_istore (L1 := [some (.ref (G.1 22 0)), some (.int a1), some (.int 5), some (.int a3), some (.int 3125), some (.int y5), some (.int y6), some (.int y7), some (.int 0), some (.int 3125), some (.int 0), some (.int 0), some (.int 0), none]) C dX12_bells_159 (by decide) rfl rfl ?_
        refine m_iload C dX12_bells_161 rfl ?_
        refine m_iload_n C dX12_bells_163 rfl rfl ?_
        refine m_icmp_ge (tgt := 249) C dX12_bells_164 (by decide) (fun c105 => ?_) (fun c105 => ?_)
        · first | exact absurd c105 (by decide) | exact absurd (by decide) c105
        · have f107 : 0 < 5 := by
            have q : _ := c105
            simp only [ti_nle, ti_nlt, ti_le, ti_lt, ti_eq, ti_ne, Classical.not_not, kt_0, kt_5] at q
            omega
          refine m_iload C dX12_bells_167 rfl ?_
          refine m_iload_n C dX12_bells_169 rfl rfl ?_
          refine m_idiv C dX12_bells_170 (iv_nz kc_5 (by decide)) ?_
          refine m_topi (fun x108 ex108 => ?_)
          have b109 : IV x108 625 625 := by rw [ex108]; decide
          have tx108 : x108.toInt = 625 := by rw [ex108]; decide
          obtain rfl : x108 = 625 := by rw [ex108]; decide
          refine m_istore (L1 := [some (.ref (G.1 22 0)), some (.int a1), some (.int 5), some (.int a3), some (.int 3125), some (.int y5), some (.int y6), some (.int y7), some (.int 0), some (.int 625), some (.int 0), some (.int 0), some (.int 0), none]) C dX12_bells_171 (by decide) rfl rfl ?_
          refine m_iload C dX12_bells_173 rfl ?_
          refine m_iload C dX12_bells_175 rfl ?_
          refine m_idiv C dX12_bells_177 (iv_nz kc_625 (by decide)) ?_
          refine m_topi (fun x110 ex110 => ?_)
          have b111 : IV x110 0 4 := by rw [ex110]; exact iv_div b104 kc_625 (by decide)
          refine m_iload_n C dX12_bells_178 rfl rfl ?_
          refine m_irem C dX12_bells_179 (iv_nz kc_5 (by decide)) ?_
          refine m_topi (fun x112 ex112 => ?_)
          have b113 : IV x112 0 4 := by rw [ex112]; exact iv_rem b111 kc_5 (by decide)
          refine m_istore (L1 := [some (.ref (G.1 22 0)), some (.int a1), some (.int 5), some (.int a3), some (.int 3125), some (.int y5), some (.int y6), some (.int y7), some (.int 0), some (.int 625), some (.int 0), some (.int 0), some (.int 0), some (.int x112)]) C dX12_bells_180 (by decide) rfl rfl ?_
          refine m_iload C dX12_bells_182 rfl ?_
          refine m_iconst (v := 1) C dX12_bells_184 (by decide) ?_
          refine m_iload C dX12_bells_185 rfl ?_
          refine m_ishl C dX12_bells_187 ?_
          refine m_topi (fun x114 ex114 => ?_)
          have b115 : IV x114 1 16 := by rw [ex114]; exact iv_shl1 b113 (by decide)
          refine m_ior C dX12_bells_188 ?_
          refine m_topi (fun x116 ex116 => ?_)
          have b117 : IV x116 0 31 := by rw [ex116]; exact iv_or 5 kc_0 b115 (by decide)
          refine m_istore (L1 := [some (.ref (G.1 22 0)), some (.int a1), some (.int 5), some (.int a3), some (.int 3125), some (.int y5), some (.int y6), some (.int y7), some (.int x116), some (.int 625), some (.int 0), some (.int 0), some (.int 0), some (.int x112)]) C dX12_bells_189 (by decide) rfl rfl ?_
          refine m_iload C dX12_bells_191 rfl ?_
          refine m_iload C dX12_bells_193 rfl ?_
          refine m_iconst (v := 2) C dX12_bells_195 (by decide) ?_
          refine m_irem C dX12_bells_196 (iv_nz kc_2 (by decide)) ?_
          refine m_topi (fun x118 ex118 => ?_)
          have b119 : IV x118 0 0 := by rw [ex118]; decide
          have tx118 : x118.toInt = 0 := by rw [ex118]; decide
          obtain rfl : x118 = 0 := by rw [ex118]; decide
          refine m_if_ne (tgt := 215) C dX12_bells_197 (by decide) (fun c120 => ?_) (fun c120 => ?_)
          · first | exact absurd c120 (by decide) | exact absurd (by decide) c120
          · have f122 : 0 = 0 := by
              have q : _ := c120
              simp only [ti_nle, ti_nlt, ti_le, ti_lt, ti_eq, ti_ne, Classical.not_not, kt_0, kt_0] at q
              omega
            refine m_aload_n C dX12_bells_200 rfl rfl ?_
            refine g_22_2 C q4_118 dX12_bells_201 ?_
            refine m_bipush (v := 40) C dX12_bells_204 (by decide) ?_
            refine m_iload_n C dX12_bells_206 rfl rfl ?_
            refine m_imul C dX12_bells_207 ?_
            refine m_topi (fun x123 ex123 => ?_)
            have tx123 : x123.toInt = 40 * a1.toInt := by rw [ex123, ti_mulv kc_40 b_a1 (by decide), kt_40]
            have b124 : IV x123 0 280 := by rw [ex123]; exact iv_mul kc_40 b_a1 (by decide)
            refine m_iload C dX12_bells_208 rfl ?_
            refine m_iadd C dX12_bells_210 ?_
            refine m_topi (fun x125 ex125 => ?_)
            have tx125 : x125.toInt = x123.toInt + x112.toInt := by rw [ex125, ti_addv b124 b113 (by decide)]
            have b126 : IV x125 0 284 := by rw [ex125]; exact iv_add b124 b113 (by decide)
            refine al_25 C b126 (by decide) rfl dX12_bells_211 ?_
            refine m_topi (fun x127 ex127 => ?_)
            refine m_goto (tgt := 228) C dX12_bells_212 (by decide) ?_
            refine m_iadd C dX12_bells_228 ?_
            refine m_topi (fun x128 ex128 => ?_)
            have tx128 : x128.toInt = 0 + x127.toInt := by rw [ex128, ti_addv kc_0 (iv_any x127) (by decide), kt_0]
            have b129 : IV x128 (-2147483648) 2147483647 := by rw [ex128]; exact iv_add kc_0 (iv_any x127) (by decide)
            refine m_istore (L1 := [some (.ref (G.1 22 0)), some (.int a1), some (.int 5), some (.int a3), some (.int 3125), some (.int y5), some (.int y6), some (.int y7), some (.int x116), some (.int 625), some (.int x128), some (.int 0), some (.int 0), some (.int x112)]) C dX12_bells_229 (by decide) rfl rfl ?_
            refine m_iload C dX12_bells_231 rfl ?_
            refine m_iload C dX12_bells_233 rfl ?_
            refine m_callS (n := 1) (st := [.int 0]) C (c_X12_sizeOf l G τ (x128) iτ ) q5_96 q5_94 q5_95 q1_7 (by decide +kernel) rfl (by decide) (by decide) rfl (Nat.le_of_ble_eq_true rfl) dX12_bells_235 ?_
            rintro _ τ130 ⟨x133, rfl, i131, f132, b134⟩
            have g135 : Fr MS_X12_bells_5 AS_X12_bells_5 σ τ130 := Fr.call (fτ) f132 (by decide)
            show MW p l e _ s m args below meth c _ 14 G 0 0 238 [some (.ref (G.1 22 0)), some (.int a1), some (.int 5), some (.int a3), some (.int 3125), some (.int y5), some (.int y6), some (.int y7), some (.int x116), some (.int 625), some (.int x128), some (.int 0), some (.int 0), some (.int x112)] [.int x133, .int 0] τ130
            refine m_callS (n := 2) (st := []) C (c_X12_greater l G τ130 (0) (x133) i131 ) q5_99 q5_97 q5_98 q1_7 (by decide +kernel) rfl (by decide) (by decide) rfl (Nat.le_of_ble_eq_true rfl) dX12_bells_238 ?_
            rintro _ τ137 ⟨x140, rfl, i138, f139, b141⟩
            have g142 : Fr MS_X12_bells_5 AS_X12_bells_5 σ τ137 := Fr.call (g135) f139 (by decide)
            show MW p l e _ s m args below meth c _ 14 G 0 0 241 [some (.ref (G.1 22 0)), some (.int a1), some (.int 5), some (.int a3), some (.int 3125), some (.int y5), some (.int y6), some (.int y7), some (.int x116), some (.int 625), some (.int x128), some (.int 0), some (.int 0), some (.int x112)] [.int x140] τ137
            refine m_istore (L1 := [some (.ref (G.1 22 0)), some (.int a1), some (.int 5), some (.int a3), some (.int 3125), some (.int y5), some (.int y6), some (.int y7), some (.int x116), some (.int 625), some (.int x128), some (.int x140), some (.int 0), some (.int x112)]) C dX12_bells_241 (by decide) rfl rfl ?_
            obtain ⟨x144, ex144⟩ : ∃ y : Int32, y = 0 + 1 := ⟨_, rfl⟩
            have b145 : IV x144 1 1 := by rw [ex144]; decide
            have tx144 : x144.toInt = 1 := by rw [ex144]; decide
            obtain rfl : x144 = 1 := by rw [ex144]; decide
            refine m_iinc (v := 1) (L1 := [some (.ref (G.1 22 0)), some (.int a1), some (.int 5), some (.int a3), some (.int 3125), some (.int y5), some (.int y6), some (.int y7), some (.int x116), some (.int 625), some (.int x128), some (.int x140), some (.int 1), some (.int x112)]) C dX12_bells_243 rfl (by decide) (by decide) rfl rfl ?_
            refine m_goto (tgt := 161) C dX12_bells_246 (by decide) ?_
            refine m_iload C dX12_bells_161 rfl ?_
            refine m_iload_n C dX12_bells_163 rfl rfl ?_
            refine m_icmp_ge (tgt := 249) C dX12_bells_164 (by decide) (fun c146 => ?_) (fun c146 => ?_)
            · first | exact absurd c146 (by decide) | exact absurd (by decide) c146
            · have f148 : 1 < 5 := by
                have q : _ := c146
                simp only [ti_nle, ti_nlt, ti_le, ti_lt, ti_eq, ti_ne, Classical.not_not, kt_1, kt_5] at q
                omega
              refine m_iload C dX12_bells_167 rfl ?_
              refine m_iload_n C dX12_bells_169 rfl rfl ?_
              refine m_idiv C dX12_bells_170 (iv_nz kc_5 (by decide)) ?_
              refine m_topi (fun x149 ex149 => ?_)
              have b150 : IV x149 125 125 := by rw [ex149]; decide
              have tx149 : x149.toInt = 125 := by rw [ex149]; decide
              obtain rfl : x149 = 125 := by rw [ex149]; decide
              refine m_istore (L1 := [some (.ref (G.1 22 0)), some (.int a1), some (.int 5), some (.int a3), some (.int 3125), some (.int y5), some (.int y6), some (.int y7), some (.int x116), some (.int 125), some (.int x128), some (.int x140), some (.int 1), some (.int x112)]) C dX12_bells_171 (by decide) rfl rfl ?_
              refine m_iload C dX12_bells_173 rfl ?_
              refine m_iload C dX12_bells_175 rfl ?_
              refine m_idiv C dX12_bells_177 (iv_nz kc_125 (by decide)) ?_
              refine m_topi (fun x151 ex151 => ?_)
              have b152 : IV x151 0 24 := by rw [ex151]; exact iv_div b104 kc_125 (by decide)
              refine m_iload_n C dX12_bells_178 rfl rfl ?_
              refine m_irem C dX12_bells_179 (iv_nz kc_5 (by decide)) ?_
              refine m_topi (fun x153 ex153 => ?_)
              have b154 : IV x153 0 4 := by rw [ex153]; exact iv_rem b152 kc_5 (by decide)
              refine m_istore (L1 := [some (.ref (G.1 22 0)), some (.int a1), some (.int 5), some (.int a3), some (.int 3125), some (.int y5), some (.int y6), some (.int y7), some (.int x116), some (.int 125), some (.int x128), some (.int x140), some (.int 1), some (.int x153)]) C dX12_bells_180 (by decide) rfl rfl ?_
              refine m_iload C dX12_bells_182 rfl ?_
              refine m_iconst (v := 1) C dX12_bells_184 (by decide) ?_
              refine m_iload C dX12_bells_185 rfl ?_
              refine m_ishl C dX12_bells_187 ?_
              refine m_topi (fun x155 ex155 => ?_)
              have b156 : IV x155 1 16 := by rw [ex155]; exact iv_shl1 b154 (by decide)
              refine m_ior C dX12_bells_188 ?_
              refine m_topi (fun x157 ex157 => ?_)
              have b158 : IV x157 0 31 := by rw [ex157]; exact iv_or 5 b117 b156 (by decide)
              refine m_istore (L1 := [some (.ref (G.1 22 0)), some (.int a1), some (.int 5), some (.int a3), some (.int 3125), some (.int y5), some (.int y6), some (.int y7), some (.int x157), some (.int 125), some (.int x128), some (.int x140), some (.int 1), some (.int x153)]) C dX12_bells_189 (by decide) rfl rfl ?_
              refine m_iload C dX12_bells_191 rfl ?_
              refine m_iload C dX12_bells_193 rfl ?_
              refine m_iconst (v := 2) C dX12_bells_195 (by decide) ?_
              refine m_irem C dX12_bells_196 (iv_nz kc_2 (by decide)) ?_
              refine m_topi (fun x159 ex159 => ?_)
              have b160 : IV x159 1 1 := by rw [ex159]; decide
              have tx159 : x159.toInt = 1 := by rw [ex159]; decide
              obtain rfl : x159 = 1 := by rw [ex159]; decide
              refine m_if_ne (tgt := 215) C dX12_bells_197 (by decide) (fun c161 => ?_) (fun c161 => ?_)
              · have f162 : 1 ≠ 0 := by
                  have q : _ := c161
                  simp only [ti_nle, ti_nlt, ti_le, ti_lt, ti_eq, ti_ne, Classical.not_not, kt_1, kt_0] at q
                  omega
                refine m_aload_n C dX12_bells_215 rfl rfl ?_
                refine g_22_2 C q4_118 dX12_bells_216 ?_
                refine m_bipush (v := 40) C dX12_bells_219 (by decide) ?_
                refine m_iload_n C dX12_bells_221 rfl rfl ?_
                refine m_imul C dX12_bells_222 ?_
                refine m_topi (fun x163 ex163 => ?_)
                have tx163 : x163.toInt = 40 * a1.toInt := by rw [ex163, ti_mulv kc_40 b_a1 (by decide), kt_40]
                have b164 : IV x163 0 280 := by rw [ex163]; exact iv_mul kc_40 b_a1 (by decide)
                refine m_iload C dX12_bells_223 rfl ?_
                refine m_iadd C dX12_bells_225 ?_
                refine m_topi (fun x165 ex165 => ?_)
                have tx165 : x165.toInt = x163.toInt + x153.toInt := by rw [ex165, ti_addv b164 b154 (by decide)]
                have b166 : IV x165 0 284 := by rw [ex165]; exact iv_add b164 b154 (by decide)
                refine al_25 C b166 (by decide) rfl dX12_bells_226 ?_
                refine m_topi (fun x167 ex167 => ?_)
                refine m_ineg C dX12_bells_227 ?_
                refine m_topi (fun x168 ex168 => ?_)
                refine m_iadd C dX12_bells_228 ?_
                refine m_topi (fun x169 ex169 => ?_)
                refine m_istore (L1 := [some (.ref (G.1 22 0)), some (.int a1), some (.int 5), some (.int a3), some (.int 3125), some (.int y5), some (.int y6), some (.int y7), some (.int x157), some (.int 125), some (.int x169), some (.int x140), some (.int 1), some (.int x153)]) C dX12_bells_229 (by decide) rfl rfl ?_
                refine m_iload C dX12_bells_231 rfl ?_
                refine m_iload C dX12_bells_233 rfl ?_
                refine m_callS (n := 1) (st := [.int x140]) C (c_X12_sizeOf l G τ137 (x169) i138 ) q5_96 q5_94 q5_95 q1_7 (by decide +kernel) rfl (by decide) (by decide) rfl (Nat.le_of_ble_eq_true rfl) dX12_bells_235 ?_
                rintro _ τ170 ⟨x173, rfl, i171, f172, b174⟩
                have g175 : Fr MS_X12_bells_5 AS_X12_bells_5 σ τ170 := Fr.call (g142) f172 (by decide)
                show MW p l e _ s m args below meth c _ 14 G 0 0 238 [some (.ref (G.1 22 0)), some (.int a1), some (.int 5), some (.int a3), some (.int 3125), some (.int y5), some (.int y6), some (.int y7), some (.int x157), some (.int 125), some (.int x169), some (.int x140), some (.int 1), some (.int x153)] [.int x173, .int x140] τ170
                refine m_callS (n := 2) (st := []) C (c_X12_greater l G τ170 (x140) (x173) i171 ) q5_99 q5_97 q5_98 q1_7 (by decide +kernel) rfl (by decide) (by decide) rfl (Nat.le_of_ble_eq_true rfl) dX12_bells_238 ?_
                rintro _ τ177 ⟨x180, rfl, i178, f179, b181⟩
                have g182 : Fr MS_X12_bells_5 AS_X12_bells_5 σ τ177 := Fr.call (g175) f179 (by decide)
                show MW p l e _ s m args below meth c _ 14 G 0 0 241 [some (.ref (G.1 22 0)), some (.int a1), some (.int 5), some (.int a3), some (.int 3125), some (.int y5), some (.int y6), some (.int y7), some (.int x157), some (.int 125), some (.int x169), some (.int x140), some (.int 1), some (.int x153)] [.int x180] τ177
                refine m_istore (L1 := [some (.ref (G.1 22 0)), some (.int a1), some (.int 5), some (.int a3), some (.int 3125), some (.int y5), some (.int y6), some (.int y7), some (.int x157), some (.int 125), some (.int x169), some (.int x180), some (.int 1), some (.int x153)]) C dX12_bells_241 (by decide) rfl rfl ?_
                obtain ⟨x184, ex184⟩ : ∃ y : Int32, y = 1 + 1 := ⟨_, rfl⟩
                have b185 : IV x184 2 2 := by rw [ex184]; decide
                have tx184 : x184.toInt = 2 := by rw [ex184]; decide
                obtain rfl : x184 = 2 := by rw [ex184]; decide
                refine m_iinc (v := 2) (L1 := [some (.ref (G.1 22 0)), some (.int a1), some (.int 5), some (.int a3), some (.int 3125), some (.int y5), some (.int y6), some (.int y7), some (.int x157), some (.int 125), some (.int x169), some (.int x180), some (.int 2), some (.int x153)]) C dX12_bells_243 rfl (by decide) (by decide) rfl rfl ?_
                refine m_goto (tgt := 161) C dX12_bells_246 (by decide) ?_
                refine m_iload C dX12_bells_161 rfl ?_
                refine m_iload_n C dX12_bells_163 rfl rfl ?_
                refine m_icmp_ge (tgt := 249) C dX12_bells_164 (by decide) (fun c186 => ?_) (fun c186 => ?_)
                · first | exact absurd c186 (by decide) | exact absurd (by decide) c186
                · have f188 : 2 < 5 := by
                    have q : _ := c186
                    simp only [ti_nle, ti_nlt, ti_le, ti_lt, ti_eq, ti_ne, Classical.not_not, kt_2, kt_5] at q
                    omega
                  refine m_iload C dX12_bells_167 rfl ?_
                  refine m_iload_n C dX12_bells_169 rfl rfl ?_
                  refine m_idiv C dX12_bells_170 (iv_nz kc_5 (by decide)) ?_
                  refine m_topi (fun x189 ex189 => ?_)
                  have b190 : IV x189 25 25 := by rw [ex189]; decide
                  have tx189 : x189.toInt = 25 := by rw [ex189]; decide
                  obtain rfl : x189 = 25 := by rw [ex189]; decide
                  refine m_istore (L1 := [some (.ref (G.1 22 0)), some (.int a1), some (.int 5), some (.int a3), some (.int 3125), some (.int y5), some (.int y6), some (.int y7), some (.int x157), some (.int 25), some (.int x169), some (.int x180), some (.int 2), some (.int x153)]) C dX12_bells_171 (by decide) rfl rfl ?_
                  refine m_iload C dX12_bells_173 rfl ?_
                  refine m_iload C dX12_bells_175 rfl ?_
                  refine m_idiv C dX12_bells_177 (iv_nz kc_25 (by decide)) ?_
                  refine m_topi (fun x191 ex191 => ?_)
                  have b192 : IV x191 0 124 := by rw [ex191]; exact iv_div b104 kc_25 (by decide)
                  refine m_iload_n C dX12_bells_178 rfl rfl ?_
                  refine m_irem C dX12_bells_179 (iv_nz kc_5 (by decide)) ?_
                  refine m_topi (fun x193 ex193 => ?_)
                  have b194 : IV x193 0 4 := by rw [ex193]; exact iv_rem b192 kc_5 (by decide)
                  refine m_istore (L1 := [some (.ref (G.1 22 0)), some (.int a1), some (.int 5), some (.int a3), some (.int 3125), some (.int y5), some (.int y6), some (.int y7), some (.int x157), some (.int 25), some (.int x169), some (.int x180), some (.int 2), some (.int x193)]) C dX12_bells_180 (by decide) rfl rfl ?_
                  refine m_iload C dX12_bells_182 rfl ?_
                  refine m_iconst (v := 1) C dX12_bells_184 (by decide) ?_
                  refine m_iload C dX12_bells_185 rfl ?_
                  refine m_ishl C dX12_bells_187 ?_
                  refine m_topi (fun x195 ex195 => ?_)
                  have b196 : IV x195 1 16 := by rw [ex195]; exact iv_shl1 b194 (by decide)
                  refine m_ior C dX12_bells_188 ?_
                  refine m_topi (fun x197 ex197 => ?_)
                  have b198 : IV x197 0 31 := by rw [ex197]; exact iv_or 5 b158 b196 (by decide)
                  refine m_istore (L1 := [some (.ref (G.1 22 0)), some (.int a1), some (.int 5), some (.int a3), some (.int 3125), some (.int y5), some (.int y6), some (.int y7), some (.int x197), some (.int 25), some (.int x169), some (.int x180), some (.int 2), some (.int x193)]) C dX12_bells_189 (by decide) rfl rfl ?_
                  refine m_iload C dX12_bells_191 rfl ?_
                  refine m_iload C dX12_bells_193 rfl ?_
                  refine m_iconst (v := 2) C dX12_bells_195 (by decide) ?_
                  refine m_irem C dX12_bells_196 (iv_nz kc_2 (by decide)) ?_
                  refine m_topi (fun x199 ex199 => ?_)
                  have b200 : IV x199 0 0 := by rw [ex199]; decide
                  have tx199 : x199.toInt = 0 := by rw [ex199]; decide
                  obtain rfl : x199 = 0 := by rw [ex199]; decide
                  refine m_if_ne (tgt := 215) C dX12_bells_197 (by decide) (fun c201 => ?_) (fun c201 => ?_)
                  · first | exact absurd c201 (by decide) | exact absurd (by decide) c201
                  · have f203 : 0 = 0 := by
                      have q : _ := c201
                      simp only [ti_nle, ti_nlt, ti_le, ti_lt, ti_eq, ti_ne, Classical.not_not, kt_0, kt_0] at q
                      omega
                    refine m_aload_n C dX12_bells_200 rfl rfl ?_
                    refine g_22_2 C q4_118 dX12_bells_201 ?_
                    refine m_bipush (v := 40) C dX12_bells_204 (by decide) ?_
                    refine m_iload_n C dX12_bells_206 rfl rfl ?_
                    refine m_imul C dX12_bells_207 ?_
                    refine m_topi (fun x204 ex204 => ?_)
                    have tx204 : x204.toInt = 40 * a1.toInt := by rw [ex204, ti_mulv kc_40 b_a1 (by decide), kt_40]
                    have b205 : IV x204 0 280 := by rw [ex204]; exact iv_mul kc_40 b_a1 (by decide)
                    refine m_iload C dX12_bells_208 rfl ?_
                    refine m_iadd C dX12_bells_210 ?_
                    refine m_topi (fun x206 ex206 => ?_)
                    have tx206 : x206.toInt = x204.toInt + x193.toInt := by rw [ex206, ti_addv b205 b194 (by decide)]
                    have b207 : IV x206 0 284 := by rw [ex206]; exact iv_add b205 b194 (by decide)
                    refine al_25 C b207 (by decide) rfl dX12_bells_211 ?_
                    refine m_topi (fun x208 ex208 => ?_)
                    refine m_goto (tgt := 228) C dX12_bells_212 (by decide) ?_
                    refine m_iadd C dX12_bells_228 ?_
                    refine m_topi (fun x209 ex209 => ?_)
                    refine m_istore (L1 := [some (.ref (G.1 22 0)), some (.int a1), some (.int 5), some (.int a3), some (.int 3125), some (.int y5), some (.int y6), some (.int y7), some (.int x197), some (.int 25), some (.int x209), some (.int x180), some (.int 2), some (.int x193)]) C dX12_bells_229 (by decide) rfl rfl ?_
                    refine m_iload C dX12_bells_231 rfl ?_
                    refine m_iload C dX12_bells_233 rfl ?_
                    refine m_callS (n := 1) (st := [.int x180]) C (c_X12_sizeOf l G τ177 (x209) i178 ) q5_96 q5_94 q5_95 q1_7 (by decide +kernel) rfl (by decide) (by decide) rfl (Nat.le_of_ble_eq_true rfl) dX12_bells_235 ?_
                    rintro _ τ210 ⟨x213, rfl, i211, f212, b214⟩
                    have g215 : Fr MS_X12_bells_5 AS_X12_bells_5 σ τ210 := Fr.call (g182) f212 (by decide)
                    show MW p l e _ s m args below meth c _ 14 G 0 0 238 [some (.ref (G.1 22 0)), some (.int a1), some (.int 5), some (.int a3), some (.int 3125), some (.int y5), some (.int y6), some (.int y7), some (.int x197), some (.int 25), some (.int x209), some (.int x180), some (.int 2), some (.int x193)] [.int x213, .int x180] τ210
                    refine m_callS (n := 2) (st := []) C (c_X12_greater l G τ210 (x180) (x213) i211 ) q5_99 q5_97 q5_98 q1_7 (by decide +kernel) rfl (by decide) (by decide) rfl (Nat.le_of_ble_eq_true rfl) dX12_bells_238 ?_
                    rintro _ τ217 ⟨x220, rfl, i218, f219, b221⟩
                    have g222 : Fr MS_X12_bells_5 AS_X12_bells_5 σ τ217 := Fr.call (g215) f219 (by decide)
                    show MW p l e _ s m args below meth c _ 14 G 0 0 241 [some (.ref (G.1 22 0)), some (.int a1), some (.int 5), some (.int a3), some (.int 3125), some (.int y5), some (.int y6), some (.int y7), some (.int x197), some (.int 25), some (.int x209), some (.int x180), some (.int 2), some (.int x193)] [.int x220] τ217
                    refine m_istore (L1 := [some (.ref (G.1 22 0)), some (.int a1), some (.int 5), some (.int a3), some (.int 3125), some (.int y5), some (.int y6), some (.int y7), some (.int x197), some (.int 25), some (.int x209), some (.int x220), some (.int 2), some (.int x193)]) C dX12_bells_241 (by decide) rfl rfl ?_
                    obtain ⟨x224, ex224⟩ : ∃ y : Int32, y = 2 + 1 := ⟨_, rfl⟩
                    have b225 : IV x224 3 3 := by rw [ex224]; decide
                    have tx224 : x224.toInt = 3 := by rw [ex224]; decide
                    obtain rfl : x224 = 3 := by rw [ex224]; decide
                    refine m_iinc (v := 3) (L1 := [some (.ref (G.1 22 0)), some (.int a1), some (.int 5), some (.int a3), some (.int 3125), some (.int y5), some (.int y6), some (.int y7), some (.int x197), some (.int 25), some (.int x209), some (.int x220), some (.int 3), some (.int x193)]) C dX12_bells_243 rfl (by decide) (by decide) rfl rfl ?_
                    refine m_goto (tgt := 161) C dX12_bells_246 (by decide) ?_
                    refine m_iload C dX12_bells_161 rfl ?_
                    refine m_iload_n C dX12_bells_163 rfl rfl ?_
                    refine m_icmp_ge (tgt := 249) C dX12_bells_164 (by decide) (fun c226 => ?_) (fun c226 => ?_)
                    · first | exact absurd c226 (by decide) | exact absurd (by decide) c226
                    · have f228 : 3 < 5 := by
                        have q : _ := c226
                        simp only [ti_nle, ti_nlt, ti_le, ti_lt, ti_eq, ti_ne, Classical.not_not, kt_3, kt_5] at q
                        omega
                      refine m_iload C dX12_bells_167 rfl ?_
                      refine m_iload_n C dX12_bells_169 rfl rfl ?_
                      refine m_idiv C dX12_bells_170 (iv_nz kc_5 (by decide)) ?_
                      refine m_topi (fun x229 ex229 => ?_)
                      have b230 : IV x229 5 5 := by rw [ex229]; decide
                      have tx229 : x229.toInt = 5 := by rw [ex229]; decide
                      obtain rfl : x229 = 5 := by rw [ex229]; decide
                      refine m_istore (L1 := [some (.ref (G.1 22 0)), some (.int a1), some (.int 5), some (.int a3), some (.int 3125), some (.int y5), some (.int y6), some (.int y7), some (.int x197), some (.int 5), some (.int x209), some (.int x220), some (.int 3), some (.int x193)]) C dX12_bells_171 (by decide) rfl rfl ?_
                      refine m_iload C dX12_bells_173 rfl ?_
                      refine m_iload C dX12_bells_175 rfl ?_
                      refine m_idiv C dX12_bells_177 (iv_nz kc_5 (by decide)) ?_
                      refine m_topi (fun x231 ex231 => ?_)
                      have b232 : IV x231 0 624 := by rw [ex231]; exact iv_div b104 kc_5 (by decide)
                      refine m_iload_n C dX12_bells_178 rfl rfl ?_
                      refine m_irem C dX12_bells_179 (iv_nz kc_5 (by decide)) ?_
                      refine m_topi (fun x233 ex233 => ?_)
                      have b234 : IV x233 0 4 := by rw [ex233]; exact iv_rem b232 kc_5 (by decide)
                      refine m_istore (L1 := [some (.ref (G.1 22 0)), some (.int a1), some (.int 5), some (.int a3), some (.int 3125), some (.int y5), some (.int y6), some (.int y7), some (.int x197), some (.int 5), some (.int x209), some (.int x220), some (.int 3), some (.int x233)]) C dX12_bells_180 (by decide) rfl rfl ?_
                      refine m_iload C dX12_bells_182 rfl ?_
                      refine m_iconst (v := 1) C dX12_bells_184 (by decide) ?_
                      refine m_iload C dX12_bells_185 rfl ?_
                      refine m_ishl C dX12_bells_187 ?_
                      refine m_topi (fun x235 ex235 => ?_)
                      have b236 : IV x235 1 16 := by rw [ex235]; exact iv_shl1 b234 (by decide)
                      refine m_ior C dX12_bells_188 ?_
                      refine m_topi (fun x237 ex237 => ?_)
                      have b238 : IV x237 0 31 := by rw [ex237]; exact iv_or 5 b198 b236 (by decide)
                      refine m_istore (L1 := [some (.ref (G.1 22 0)), some (.int a1), some (.int 5), some (.int a3), some (.int 3125), some (.int y5), some (.int y6), some (.int y7), some (.int x237), some (.int 5), some (.int x209), some (.int x220), some (.int 3), some (.int x233)]) C dX12_bells_189 (by decide) rfl rfl ?_
                      refine m_iload C dX12_bells_191 rfl ?_
                      refine m_iload C dX12_bells_193 rfl ?_
                      refine m_iconst (v := 2) C dX12_bells_195 (by decide) ?_
                      refine m_irem C dX12_bells_196 (iv_nz kc_2 (by decide)) ?_
                      refine m_topi (fun x239 ex239 => ?_)
                      have b240 : IV x239 1 1 := by rw [ex239]; decide
                      have tx239 : x239.toInt = 1 := by rw [ex239]; decide
                      obtain rfl : x239 = 1 := by rw [ex239]; decide
                      refine m_if_ne (tgt := 215) C dX12_bells_197 (by decide) (fun c241 => ?_) (fun c241 => ?_)
                      · have f242 : 1 ≠ 0 := by
                          have q : _ := c241
                          simp only [ti_nle, ti_nlt, ti_le, ti_lt, ti_eq, ti_ne, Classical.not_not, kt_1, kt_0] at q
                          omega
                        refine m_aload_n C dX12_bells_215 rfl rfl ?_
                        refine g_22_2 C q4_118 dX12_bells_216 ?_
                        refine m_bipush (v := 40) C dX12_bells_219 (by decide) ?_
                        refine m_iload_n C dX12_bells_221 rfl rfl ?_
                        refine m_imul C dX12_bells_222 ?_
                        refine m_topi (fun x243 ex243 => ?_)
                        have tx243 : x243.toInt = 40 * a1.toInt := by rw [ex243, ti_mulv kc_40 b_a1 (by decide), kt_40]
                        have b244 : IV x243 0 280 := by rw [ex243]; exact iv_mul kc_40 b_a1 (by decide)
                        refine m_iload C dX12_bells_223 rfl ?_
                        refine m_iadd C dX12_bells_225 ?_
                        refine m_topi (fun x245 ex245 => ?_)
                        have tx245 : x245.toInt = x243.toInt + x233.toInt := by rw [ex245, ti_addv b244 b234 (by decide)]
                        have b246 : IV x245 0 284 := by rw [ex245]; exact iv_add b244 b234 (by decide)
                        refine al_25 C b246 (by decide) rfl dX12_bells_226 ?_
                        refine m_topi (fun x247 ex247 => ?_)
                        refine m_ineg C dX12_bells_227 ?_
                        refine m_topi (fun x248 ex248 => ?_)
                        refine m_iadd C dX12_bells_228 ?_
                        refine m_topi (fun x249 ex249 => ?_)
                        refine m_istore (L1 := [some (.ref (G.1 22 0)), some (.int a1), some (.int 5), some (.int a3), some (.int 3125), some (.int y5), some (.int y6), some (.int y7), some (.int x237), some (.int 5), some (.int x249), some (.int x220), some (.int 3), some (.int x233)]) C dX12_bells_229 (by decide) rfl rfl ?_
                        refine m_iload C dX12_bells_231 rfl ?_
                        refine m_iload C dX12_bells_233 rfl ?_
                        refine m_callS (n := 1) (st := [.int x220]) C (c_X12_sizeOf l G τ217 (x249) i218 ) q5_96 q5_94 q5_95 q1_7 (by decide +kernel) rfl (by decide) (by decide) rfl (Nat.le_of_ble_eq_true rfl) dX12_bells_235 ?_
                        rintro _ τ250 ⟨x253, rfl, i251, f252, b254⟩
                        have g255 : Fr MS_X12_bells_5 AS_X12_bells_5 σ τ250 := Fr.call (g222) f252 (by decide)
                        show MW p l e _ s m args below meth c _ 14 G 0 0 238 [some (.ref (G.1 22 0)), some (.int a1), some (.int 5), some (.int a3), some (.int 3125), some (.int y5), some (.int y6), some (.int y7), some (.int x237), some (.int 5), some (.int x249), some (.int x220), some (.int 3), some (.int x233)] [.int x253, .int x220] τ250
                        refine m_callS (n := 2) (st := []) C (c_X12_greater l G τ250 (x220) (x253) i251 ) q5_99 q5_97 q5_98 q1_7 (by decide +kernel) rfl (by decide) (by decide) rfl (Nat.le_of_ble_eq_true rfl) dX12_bells_238 ?_
                        rintro _ τ257 ⟨x260, rfl, i258, f259, b261⟩
                        have g262 : Fr MS_X12_bells_5 AS_X12_bells_5 σ τ257 := Fr.call (g255) f259 (by decide)
                        show MW p l e _ s m args below meth c _ 14 G 0 0 241 [some (.ref (G.1 22 0)), some (.int a1), some (.int 5), some (.int a3), some (.int 3125), some (.int y5), some (.int y6), some (.int y7), some (.int x237), some (.int 5), some (.int x249), some (.int x220), some (.int 3), some (.int x233)] [.int x260] τ257
                        refine m_istore (L1 := [some (.ref (G.1 22 0)), some (.int a1), some (.int 5), some (.int a3), some (.int 3125), some (.int y5), some (.int y6), some (.int y7), some (.int x237), some (.int 5), some (.int x249), some (.int x260), some (.int 3), some (.int x233)]) C dX12_bells_241 (by decide) rfl rfl ?_
                        obtain ⟨x264, ex264⟩ : ∃ y : Int32, y = 3 + 1 := ⟨_, rfl⟩
                        have b265 : IV x264 4 4 := by rw [ex264]; decide
                        have tx264 : x264.toInt = 4 := by rw [ex264]; decide
                        obtain rfl : x264 = 4 := by rw [ex264]; decide
                        refine m_iinc (v := 4) (L1 := [some (.ref (G.1 22 0)), some (.int a1), some (.int 5), some (.int a3), some (.int 3125), some (.int y5), some (.int y6), some (.int y7), some (.int x237), some (.int 5), some (.int x249), some (.int x260), some (.int 4), some (.int x233)]) C dX12_bells_243 rfl (by decide) (by decide) rfl rfl ?_
                        refine m_goto (tgt := 161) C dX12_bells_246 (by decide) ?_
                        refine m_iload C dX12_bells_161 rfl ?_
                        refine m_iload_n C dX12_bells_163 rfl rfl ?_
                        refine m_icmp_ge (tgt := 249) C dX12_bells_164 (by decide) (fun c266 => ?_) (fun c266 => ?_)
                        · first | exact absurd c266 (by decide) | exact absurd (by decide) c266
                        · have f268 : 4 < 5 := by
                            have q : _ := c266
                            simp only [ti_nle, ti_nlt, ti_le, ti_lt, ti_eq, ti_ne, Classical.not_not, kt_4, kt_5] at q
                            omega
                          refine m_iload C dX12_bells_167 rfl ?_
                          refine m_iload_n C dX12_bells_169 rfl rfl ?_
                          refine m_idiv C dX12_bells_170 (iv_nz kc_5 (by decide)) ?_
                          refine m_topi (fun x269 ex269 => ?_)
                          have b270 : IV x269 1 1 := by rw [ex269]; decide
                          have tx269 : x269.toInt = 1 := by rw [ex269]; decide
                          obtain rfl : x269 = 1 := by rw [ex269]; decide
                          refine m_istore (L1 := [some (.ref (G.1 22 0)), some (.int a1), some (.int 5), some (.int a3), some (.int 3125), some (.int y5), some (.int y6), some (.int y7), some (.int x237), some (.int 1), some (.int x249), some (.int x260), some (.int 4), some (.int x233)]) C dX12_bells_171 (by decide) rfl rfl ?_
                          refine m_iload C dX12_bells_173 rfl ?_
                          refine m_iload C dX12_bells_175 rfl ?_
                          refine m_idiv C dX12_bells_177 (iv_nz kc_1 (by decide)) ?_
                          refine m_topi (fun x271 ex271 => ?_)
                          have b272 : IV x271 0 3124 := by rw [ex271]; exact iv_div b104 kc_1 (by decide)
                          refine m_iload_n C dX12_bells_178 rfl rfl ?_
                          refine m_irem C dX12_bells_179 (iv_nz kc_5 (by decide)) ?_
                          refine m_topi (fun x273 ex273 => ?_)
                          have b274 : IV x273 0 4 := by rw [ex273]; exact iv_rem b272 kc_5 (by decide)
                          refine m_istore (L1 := [some (.ref (G.1 22 0)), some (.int a1), some (.int 5), some (.int a3), some (.int 3125), some (.int y5), some (.int y6), some (.int y7), some (.int x237), some (.int 1), some (.int x249), some (.int x260), some (.int 4), some (.int x273)]) C dX12_bells_180 (by decide) rfl rfl ?_
                          refine m_iload C dX12_bells_182 rfl ?_
                          refine m_iconst (v := 1) C dX12_bells_184 (by decide) ?_
                          refine m_iload C dX12_bells_185 rfl ?_
                          refine m_ishl C dX12_bells_187 ?_
                          refine m_topi (fun x275 ex275 => ?_)
                          have b276 : IV x275 1 16 := by rw [ex275]; exact iv_shl1 b274 (by decide)
                          refine m_ior C dX12_bells_188 ?_
                          refine m_topi (fun x277 ex277 => ?_)
                          have b278 : IV x277 0 31 := by rw [ex277]; exact iv_or 5 b238 b276 (by decide)
                          refine m_istore (L1 := [some (.ref (G.1 22 0)), some (.int a1), some (.int 5), some (.int a3), some (.int 3125), some (.int y5), some (.int y6), some (.int y7), some (.int x277), some (.int 1), some (.int x249), some (.int x260), some (.int 4), some (.int x273)]) C dX12_bells_189 (by decide) rfl rfl ?_
                          refine m_iload C dX12_bells_191 rfl ?_
                          refine m_iload C dX12_bells_193 rfl ?_
                          refine m_iconst (v := 2) C dX12_bells_195 (by decide) ?_
                          refine m_irem C dX12_bells_196 (iv_nz kc_2 (by decide)) ?_
                          refine m_topi (fun x279 ex279 => ?_)
                          have b280 : IV x279 0 0 := by rw [ex279]; decide
                          have tx279 : x279.toInt = 0 := by rw [ex279]; decide
                          obtain rfl : x279 = 0 := by rw [ex279]; decide
                          refine m_if_ne (tgt := 215) C dX12_bells_197 (by decide) (fun c281 => ?_) (fun c281 => ?_)
                          · first | exact absurd c281 (by decide) | exact absurd (by decide) c281
                          · have f283 : 0 = 0 := by
                              have q : _ := c281
                              simp only [ti_nle, ti_nlt, ti_le, ti_lt, ti_eq, ti_ne, Classical.not_not, kt_0, kt_0] at q
                              omega
                            refine m_aload_n C dX12_bells_200 rfl rfl ?_
                            refine g_22_2 C q4_118 dX12_bells_201 ?_
                            refine m_bipush (v := 40) C dX12_bells_204 (by decide) ?_
                            refine m_iload_n C dX12_bells_206 rfl rfl ?_
                            refine m_imul C dX12_bells_207 ?_
                            refine m_topi (fun x284 ex284 => ?_)
                            have tx284 : x284.toInt = 40 * a1.toInt := by rw [ex284, ti_mulv kc_40 b_a1 (by decide), kt_40]
                            have b285 : IV x284 0 280 := by rw [ex284]; exact iv_mul kc_40 b_a1 (by decide)
                            refine m_iload C dX12_bells_208 rfl ?_
                            refine m_iadd C dX12_bells_210 ?_
                            refine m_topi (fun x286 ex286 => ?_)
                            have tx286 : x286.toInt = x284.toInt + x273.toInt := by rw [ex286, ti_addv b285 b274 (by decide)]
                            have b287 : IV x286 0 284 := by rw [ex286]; exact iv_add b285 b274 (by decide)
                            refine al_25 C b287 (by decide) rfl dX12_bells_211 ?_
                            refine m_topi (fun x288 ex288 => ?_)
                            refine m_goto (tgt := 228) C dX12_bells_212 (by decide) ?_
                            refine m_iadd C dX12_bells_228 ?_
                            refine m_topi (fun x289 ex289 => ?_)
                            refine m_istore (L1 := [some (.ref (G.1 22 0)), some (.int a1), some (.int 5), some (.int a3), some (.int 3125), some (.int y5), some (.int y6), some (.int y7), some (.int x277), some (.int 1), some (.int x289), some (.int x260), some (.int 4), some (.int x273)]) C dX12_bells_229 (by decide) rfl rfl ?_
                            refine m_iload C dX12_bells_231 rfl ?_
                            refine m_iload C dX12_bells_233 rfl ?_
                            refine m_callS (n := 1) (st := [.int x260]) C (c_X12_sizeOf l G τ257 (x289) i258 ) q5_96 q5_94 q5_95 q1_7 (by decide +kernel) rfl (by decide) (by decide) rfl (Nat.le_of_ble_eq_true rfl) dX12_bells_235 ?_
                            rintro _ τ290 ⟨x293, rfl, i291, f292, b294⟩
                            have g295 : Fr MS_X12_bells_5 AS_X12_bells_5 σ τ290 := Fr.call (g262) f292 (by decide)
                            show MW p l e _ s m args below meth c _ 14 G 0 0 238 [some (.ref (G.1 22 0)), some (.int a1), some (.int 5), some (.int a3), some (.int 3125), some (.int y5), some (.int y6), some (.int y7), some (.int x277), some (.int 1), some (.int x289), some (.int x260), some (.int 4), some (.int x273)] [.int x293, .int x260] τ290
                            refine m_callS (n := 2) (st := []) C (c_X12_greater l G τ290 (x260) (x293) i291 ) q5_99 q5_97 q5_98 q1_7 (by decide +kernel) rfl (by decide) (by decide) rfl (Nat.le_of_ble_eq_true rfl) dX12_bells_238 ?_
                            rintro _ τ297 ⟨x300, rfl, i298, f299, b301⟩
                            have g302 : Fr MS_X12_bells_5 AS_X12_bells_5 σ τ297 := Fr.call (g295) f299 (by decide)
                            show MW p l e _ s m args below meth c _ 14 G 0 0 241 [some (.ref (G.1 22 0)), some (.int a1), some (.int 5), some (.int a3), some (.int 3125), some (.int y5), some (.int y6), some (.int y7), some (.int x277), some (.int 1), some (.int x289), some (.int x260), some (.int 4), some (.int x273)] [.int x300] τ297
                            refine m_istore (L1 := [some (.ref (G.1 22 0)), some (.int a1), some (.int 5), some (.int a3), some (.int 3125), some (.int y5), some (.int y6), some (.int y7), some (.int x277), some (.int 1), some (.int x289), some (.int x300), some (.int 4), some (.int x273)]) C dX12_bells_241 (by decide) rfl rfl ?_
                            obtain ⟨x304, ex304⟩ : ∃ y : Int32, y = 4 + 1 := ⟨_, rfl⟩
                            have b305 : IV x304 5 5 := by rw [ex304]; decide
                            have tx304 : x304.toInt = 5 := by rw [ex304]; decide
                            obtain rfl : x304 = 5 := by rw [ex304]; decide
                            refine m_iinc (v := 5) (L1 := [some (.ref (G.1 22 0)), some (.int a1), some (.int 5), some (.int a3), some (.int 3125), some (.int y5), some (.int y6), some (.int y7), some (.int x277), some (.int 1), some (.int x289), some (.int x300), some (.int 5), some (.int x273)]) C dX12_bells_243 rfl (by decide) (by decide) rfl rfl ?_
                            refine m_goto (tgt := 161) C dX12_bells_246 (by decide) ?_
                            refine m_iload C dX12_bells_161 rfl ?_
                            refine m_iload_n C dX12_bells_163 rfl rfl ?_
                            refine m_icmp_ge (tgt := 249) C dX12_bells_164 (by decide) (fun c306 => ?_) (fun c306 => ?_)
                            · have f307 : 5 ≤ 5 := by
                                have q : _ := c306
                                simp only [ti_nle, ti_nlt, ti_le, ti_lt, ti_eq, ti_ne, Classical.not_not, kt_5, kt_5] at q
                                omega
                              refine m_iload C dX12_bells_249 rfl ?_
                              refine m_iconst (v := 1) C dX12_bells_251 (by decide) ?_
                              refine m_iload_n C dX12_bells_252 rfl rfl ?_
                              refine m_ishl C dX12_bells_253 ?_
                              refine m_topi (fun x308 ex308 => ?_)
                              have b309 : IV x308 32 32 := by rw [ex308]; decide
                              have tx308 : x308.toInt = 32 := by rw [ex308]; decide
                              obtain rfl : x308 = 32 := by rw [ex308]; decide
                              refine m_iconst (v := 1) C dX12_bells_254 (by decide) ?_
                              refine m_isub C dX12_bells_255 ?_
                              refine m_topi (fun x310 ex310 => ?_)
                              have b311 : IV x310 31 31 := by rw [ex310]; decide
                              have tx310 : x310.toInt = 31 := by rw [ex310]; decide
                              obtain rfl : x310 = 31 := by rw [ex310]; decide
                              refine m_icmp_ne (tgt := 279) C dX12_bells_256 (by decide) (fun c312 => ?_) (fun c312 => ?_)
                              · have f313 : x277.toInt ≠ 31 := by
                                  have q : _ := c312
                                  simp only [ti_nle, ti_nlt, ti_le, ti_lt, ti_eq, ti_ne, Classical.not_not, kt_31] at q
                                  omega
                                have b314 : IV x277 0 30 := ⟨by have q1 := b278; have q2 := kc_31; omega, by have q1 := b278; have q2 := kc_31; omega⟩
                                obtain ⟨x315, ex315⟩ : ∃ y : Int32, y = y7 + 1 := ⟨_, rfl⟩
                                have tx315 : x315.toInt = y7.toInt + 1 := by rw [ex315, ti_addv b104 kc_1 (by decide), kt_1]
                                have b316 : IV x315 1 3125 := by rw [ex315]; exact iv_add b104 kc_1 (by decide)
                                refine m_iinc (v := x315) (L1 := [some (.ref (G.1 22 0)), some (.int a1), some (.int 5), some (.int a3), some (.int 3125), some (.int y5), some (.int y6), some (.int x315), some (.int x277), some (.int 1), some (.int x289), some (.int x300), some (.int 5), some (.int x273)]) C dX12_bells_279 rfl (by rw [ex315]; rfl) (by decide) rfl rfl ?_
                                refine m_goto (tgt := 138) C dX12_bells_282 (by decide) ?_
                                refine m_sub (L1 := [some (.ref (G.1 22 0)), some (.int a1), some (.int 5), some (.int a3), some (.int 3125), some (.int y5), some (.int y6), some (.int x315), none, none, none, none, none, none]) ⟨rfl, ⟨rfl, ⟨rfl, ⟨rfl, ⟨rfl, ⟨rfl, ⟨rfl, ⟨rfl, trivial⟩⟩⟩⟩⟩⟩⟩⟩ ?_
                                exact ih138 τ297 y5 y6 x315 i298 g302 b_a1 b_a3 b_y5 b_y6 (iv_wk b316 (by decide)) (by have q := hm138; omega)
                              · have f317 : x277.toInt = 31 := by
                                  have q : _ := c312
                                  simp only [ti_nle, ti_nlt, ti_le, ti_lt, ti_eq, ti_ne, Classical.not_not, kt_31] at q
                                  omega
                                have b318 : IV x277 31 31 := ⟨by have q1 := b278; have q2 := kc_31; omega, by have q1 := b278; have q2 := kc_31; omega⟩
                                refine m_iload C dX12_bells_259 rfl ?_
                                refine m_if_lt (tgt := 271) C dX12_bells_261 (by decide) (fun c319 => ?_) (fun c319 => ?_)
                                · have f320 : y5.toInt < 0 := by
                                    have q : _ := c319
                                    simp only [ti_nle, ti_nlt, ti_le, ti_lt, ti_eq, ti_ne, Classical.not_not, kt_0] at q
                                    omega
                                  have b321 : IV y5 (-1) (-1) := ⟨by have q1 := b_y5; have q2 := kc_0; omega, by have q1 := b_y5; have q2 := kc_0; omega⟩
                                  refine m_iload C dX12_bells_271 rfl ?_
                                  refine m_istore (L1 := [some (.ref (G.1 22 0)), some (.int a1), some (.int 5), some (.int a3), some (.int 3125), some (.int y7), some (.int y6), some (.int y7), some (.int x277), some (.int 1), some (.int x289), some (.int x300), some (.int 5), some (.int x273)]) C dX12_bells_273 (by decide) rfl rfl ?_
                                  refine m_iload C dX12_bells_275 rfl ?_
                                  refine m_istore (L1 := [some (.ref (G.1 22 0)), some (.int a1), some (.int 5), some (.int a3), some (.int 3125), some (.int y7), some (.int x300), some (.int y7), some (.int x277), some (.int 1), some (.int x289), some (.int x300), some (.int 5), some (.int x273)]) C dX12_bells_277 (by decide) rfl rfl ?_
                                  obtain ⟨x322, ex322⟩ : ∃ y : Int32, y = y7 + 1 := ⟨_, rfl⟩
                                  have tx322 : x322.toInt = y7.toInt + 1 := by rw [ex322, ti_addv b104 kc_1 (by decide), kt_1]
                                  have b323 : IV x322 1 3125 := by rw [ex322]; exact iv_add b104 kc_1 (by decide)
                                  refine m_iinc (v := x322) (L1 := [some (.ref (G.1 22 0)), some (.int a1), some (.int 5), some (.int a3), some (.int 3125), some (.int y7), some (.int x300), some (.int x322), some (.int x277), some (.int 1), some (.int x289), some (.int x300), some (.int 5), some (.int x273)]) C dX12_bells_279 rfl (by rw [ex322]; rfl) (by decide) rfl rfl ?_
                                  refine m_goto (tgt := 138) C dX12_bells_282 (by decide) ?_
                                  refine m_sub (L1 := [some (.ref (G.1 22 0)), some (.int a1), some (.int 5), some (.int a3), some (.int 3125), some (.int y7), some (.int x300), some (.int x322), none, none, none, none, none, none]) ⟨rfl, ⟨rfl, ⟨rfl, ⟨rfl, ⟨rfl, ⟨rfl, ⟨rfl, ⟨rfl, trivial⟩⟩⟩⟩⟩⟩⟩⟩ ?_
                                  exact ih138 τ297 y7 x300 x322 i298 g302 b_a1 b_a3 (iv_wk b104 (by decide)) b301 (iv_wk b323 (by decide)) (by have q := hm138; omega)
                                · have f324 : 0 ≤ y5.toInt := by
                                    have q : _ := c319
                                    simp only [ti_nle, ti_nlt, ti_le, ti_lt, ti_eq, ti_ne, Classical.not_not, kt_0] at q
                                    omega
                                  have b325 : IV y5 0 10000 := ⟨by have q1 := kc_0; have q2 := b_y5; omega, by have q1 := kc_0; have q2 := b_y5; omega⟩
                                  refine m_iload C dX12_bells_264 rfl ?_
                                  refine m_iload C dX12_bells_266 rfl ?_
                                  refine m_icmp_ge (tgt := 279) C dX12_bells_268 (by decide) (fun c326 => ?_) (fun c326 => ?_)
                                  · have f327 : y6.toInt ≤ x300.toInt := by
                                      have q : _ := c326
                                      simp only [ti_nle, ti_nlt, ti_le, ti_lt, ti_eq, ti_ne, Classical.not_not] at q
                                      omega
                                    obtain ⟨x328, ex328⟩ : ∃ y : Int32, y = y7 + 1 := ⟨_, rfl⟩
                                    have tx328 : x328.toInt = y7.toInt + 1 := by rw [ex328, ti_addv b104 kc_1 (by decide), kt_1]
                                    have b329 : IV x328 1 3125 := by rw [ex328]; exact iv_add b104 kc_1 (by decide)
                                    refine m_iinc (v := x328) (L1 := [some (.ref (G.1 22 0)), some (.int a1), some (.int 5), some (.int a3), some (.int 3125), some (.int y5), some (.int y6), some (.int x328), some (.int x277), some (.int 1), some (.int x289), some (.int x300), some (.int 5), some (.int x273)]) C dX12_bells_279 rfl (by rw [ex328]; rfl) (by decide) rfl rfl ?_
                                    refine m_goto (tgt := 138) C dX12_bells_282 (by decide) ?_
                                    refine m_sub (L1 := [some (.ref (G.1 22 0)), some (.int a1), some (.int 5), some (.int a3), some (.int 3125), some (.int y5), some (.int y6), some (.int x328), none, none, none, none, none, none]) ⟨rfl, ⟨rfl, ⟨rfl, ⟨rfl, ⟨rfl, ⟨rfl, ⟨rfl, ⟨rfl, trivial⟩⟩⟩⟩⟩⟩⟩⟩ ?_
                                    exact ih138 τ297 y5 y6 x328 i298 g302 b_a1 b_a3 (iv_wk b325 (by decide)) b_y6 (iv_wk b329 (by decide)) (by have q := hm138; omega)
                                  · have f330 : x300.toInt < y6.toInt := by
                                      have q : _ := c326
                                      simp only [ti_nle, ti_nlt, ti_le, ti_lt, ti_eq, ti_ne, Classical.not_not] at q
                                      omega
                                    have b331 : IV x300 (-2147483648) 2147483646 := ⟨by have q1 := b301; have q2 := b_y6; omega, by have q1 := b301; have q2 := b_y6; omega⟩
                                    have b332 : IV y6 (-2147483647) 2147483647 := ⟨by have q1 := b301; have q2 := b_y6; omega, by have q1 := b301; have q2 := b_y6; omega⟩
                                    refine m_iload C dX12_bells_271 rfl ?_
                                    refine m_istore (L1 := [some (.ref (G.1 22 0)), some (.int a1), some (.int 5), some (.int a3), some (.int 3125), some (.int y7), some (.int y6), some (.int y7), some (.int x277), some (.int 1), some (.int x289), some (.int x300), some (.int 5), some (.int x273)]) C dX12_bells_273 (by decide) rfl rfl ?_
                                    refine m_iload C dX12_bells_275 rfl ?_
                                    refine m_istore (L1 := [some (.ref (G.1 22 0)), some (.int a1), some (.int 5), some (.int a3), some (.int 3125), some (.int y7), some (.int x300), some (.int y7), some (.int x277), some (.int 1), some (.int x289), some (.int x300), some (.int 5), some (.int x273)]) C dX12_bells_277 (by decide) rfl rfl ?_
                                    obtain ⟨x333, ex333⟩ : ∃ y : Int32, y = y7 + 1 := ⟨_, rfl⟩
                                    have tx333 : x333.toInt = y7.toInt + 1 := by rw [ex333, ti_addv b104 kc_1 (by decide), kt_1]
                                    have b334 : IV x333 1 3125 := by rw [ex333]; exact iv_add b104 kc_1 (by decide)
                                    refine m_iinc (v := x333) (L1 := [some (.ref (G.1 22 0)), some (.int a1), some (.int 5), some (.int a3), some (.int 3125), some (.int y7), some (.int x300), some (.int x333), some (.int x277), some (.int 1), some (.int x289), some (.int x300), some (.int 5), some (.int x273)]) C dX12_bells_279 rfl (by rw [ex333]; rfl) (by decide) rfl rfl ?_
                                    refine m_goto (tgt := 138) C dX12_bells_282 (by decide) ?_
                                    refine m_sub (L1 := [some (.ref (G.1 22 0)), some (.int a1), some (.int 5), some (.int a3), some (.int 3125), some (.int y7), some (.int x300), some (.int x333), none, none, none, none, none, none]) ⟨rfl, ⟨rfl, ⟨rfl, ⟨rfl, ⟨rfl, ⟨rfl, ⟨rfl, ⟨rfl, trivial⟩⟩⟩⟩⟩⟩⟩⟩ ?_
                                    exact ih138 τ297 y7 x300 x333 i298 g302 b_a1 b_a3 (iv_wk b104 (by decide)) (iv_wk b331 (by decide)) (iv_wk b334 (by decide)) (by have q := hm138; omega)
                            · first | exact absurd c306 (by decide) | exact absurd (by decide) c306
                      · first | exact absurd c241 (by decide) | exact absurd (by decide) c241
              · first | exact absurd c161 (by decide) | exact absurd (by decide) c161
  have J61 : ∀ (n : Nat) (τ : Sg) (y4 : Int32), Inv τ → Fr MS_X12_bells_5 AS_X12_bells_5 σ τ → IV a1 0 7 → IV a3 (-1) 2147483647 → IV y4 0 5 → (5 - y4.toInt).toNat < n → MW p l e { frames := 2, cells := 0, slots := 0, locals := 60 } s m args below meth c (MQ below (QP G (PI fun r τ => Inv τ ∧ Fr MS_X12_bells_5 AS_X12_bells_5 σ τ ∧ IV r (-2147483648) 2147483647)) args s 0 0 (aG G)) 14 G 0 0 61 [some (.ref (G.1 22 0)), some (.int a1), some (.int 5), some (.int a3), some (.int y4), none, none, none, none, none, none, none, none, none] [] τ := by
    intro n
    induction n with
    | zero => intro τ y4 iτ fτ b_a1 b_a3 b_y4 hm; exact absurd hm (Nat.not_lt_zero _)
    | succ n ih61 =>
      intro τ y4 iτ fτ b_a1 b_a3 b_y4 hm61
      refine m_iload C dX12_bells_61 rfl ?_
      refine m_iload_n C dX12_bells_63 rfl rfl ?_
      refine m_icmp_ge (tgt := 99) C dX12_bells_64 (by decide) (fun c338 => ?_) (fun c338 => ?_)
      · have f339 : 5 ≤ y4.toInt := by
          have q : _ := c338
          simp only [ti_nle, ti_nlt, ti_le, ti_lt, ti_eq, ti_ne, Classical.not_not, kt_5] at q
          omega
        have b340 : IV y4 5 5 := ⟨by have q1 := kc_5; have q2 := b_y4; omega, by have q1 := kc_5; have q2 := b_y4; omega⟩
        refine m_aload_n C dX12_bells_99 rfl rfl ?_
        refine m_iconst (v := 0) C dX12_bells_100 (by decide) ?_
        refine m_callV (n := 1) (ci := 11) (st := []) C (c_X12_fine l G τ (0) iτ ) (by decide) (by decide) rfl rfl rfl q4_201 q4_198 q4_200 q0_27 q1_7 (by decide +kernel) rfl (by decide) (by decide) rfl (Nat.le_of_ble_eq_true rfl) dX12_bells_101 ?_
        rintro _ τ341 ⟨x344, rfl, i342, f343, b345, h347⟩
        have g346 : Fr MS_X12_bells_5 AS_X12_bells_5 σ τ341 := Fr.call (fτ) f343 (by decide)
        have q348 := kt_0
        show MW p l e _ s m args below meth c _ 14 G 0 0 104 [some (.ref (G.1 22 0)), some (.int a1), some (.int 5), some (.int a3), some (.int y4), none, none, none, none, none, none, none, none, none] [.int x344] τ341
        refine m_pop C dX12_bells_104 rfl ?_
        refine m_iconst (v := 1) C dX12_bells_105 (by decide) ?_
        refine m_istore (L1 := [some (.ref (G.1 22 0)), some (.int a1), some (.int 5), some (.int a3), some (.int 1), none, none, none, none, none, none, none, none, none]) C dX12_bells_106 (by decide) rfl rfl ?_
        refine m_iconst (v := 0) C dX12_bells_108 (by decide) ?_
        refine m_istore (L1 := [some (.ref (G.1 22 0)), some (.int a1), some (.int 5), some (.int a3), some (.int 1), some (.int 0), none, none, none, none, none, none, none, none]) C dX12_bells_109 (by decide) rfl rfl ?_
        refine m_iload C dX12_bells_111 rfl ?_
        refine m_iload_n C dX12_bells_113 rfl rfl ?_
        refine m_icmp_ge (tgt := 129) C dX12_bells_114 (by decide) (fun c349 => ?_) (fun c349 => ?_)
        · first | exact absurd c349 (by decide) | exact absurd (by decide) c349
        · have f351 : 0 < 5 := by
            have q : _ := c349
            simp only [ti_nle, ti_nlt, ti_le, ti_lt, ti_eq, ti_ne, Classical.not_not, kt_0, kt_5] at q
            omega
          refine m_iload C dX12_bells_117 rfl ?_
          refine m_iload_n C dX12_bells_119 rfl rfl ?_
          refine m_imul C dX12_bells_120 ?_
          refine m_topi (fun x352 ex352 => ?_)
          have b353 : IV x352 5 5 := by rw [ex352]; decide
          have tx352 : x352.toInt = 5 := by rw [ex352]; decide
          obtain rfl : x352 = 5 := by rw [ex352]; decide
          refine m_istore (L1 := [some (.ref (G.1 22 0)), some (.int a1), some (.int 5), some (.int a3), some (.int 5), some (.int 0), none, none, none, none, none, none, none, none]) C dX12_bells_121 (by decide) rfl rfl ?_
          obtain ⟨x354, ex354⟩ : ∃ y : Int32, y = 0 + 1 := ⟨_, rfl⟩
          have b355 : IV x354 1 1 := by rw [ex354]; decide
          have tx354 : x354.toInt = 1 := by rw [ex354]; decide
          obtain rfl : x354 = 1 := by rw [ex354]; decide
          refine m_iinc (v := 1) (L1 := [some (.ref (G.1 22 0)), some (.int a1), some (.int 5), some (.int a3), some (.int 5), some (.int 1), none, none, none, none, none, none, none, none]) C dX12_bells_123 rfl (by decide) (by decide) rfl rfl ?_
          refine m_goto (tgt := 111) C dX12_bells_126 (by decide) ?_
          refine m_iload C dX12_bells_111 rfl ?_
          refine m_iload_n C dX12_bells_113 rfl rfl ?_
          refine m_icmp_ge (tgt := 129) C dX12_bells_114 (by decide) (fun c356 => ?_) (fun c356 => ?_)
          · first | exact absurd c356 (by decide) | exact absurd (by decide) c356
          · have f358 : 1 < 5 := by
              have q : _ := c356
              simp only [ti_nle, ti_nlt, ti_le, ti_lt, ti_eq, ti_ne, Classical.not_not, kt_1, kt_5] at q
              omega
            refine m_iload C dX12_bells_117 rfl ?_
            refine m_iload_n C dX12_bells_119 rfl rfl ?_
            refine m_imul C dX12_bells_120 ?_
            refine m_topi (fun x359 ex359 => ?_)
            have b360 : IV x359 25 25 := by rw [ex359]; decide
            have tx359 : x359.toInt = 25 := by rw [ex359]; decide
            obtain rfl : x359 = 25 := by rw [ex359]; decide
            refine m_istore (L1 := [some (.ref (G.1 22 0)), some (.int a1), some (.int 5), some (.int a3), some (.int 25), some (.int 1), none, none, none, none, none, none, none, none]) C dX12_bells_121 (by decide) rfl rfl ?_
            obtain ⟨x361, ex361⟩ : ∃ y : Int32, y = 1 + 1 := ⟨_, rfl⟩
            have b362 : IV x361 2 2 := by rw [ex361]; decide
            have tx361 : x361.toInt = 2 := by rw [ex361]; decide
            obtain rfl : x361 = 2 := by rw [ex361]; decide
            refine m_iinc (v := 2) (L1 := [some (.ref (G.1 22 0)), some (.int a1), some (.int 5), some (.int a3), some (.int 25), some (.int 2), none, none, none, none, none, none, none, none]) C dX12_bells_123 rfl (by decide) (by decide) rfl rfl ?_
            refine m_goto (tgt := 111) C dX12_bells_126 (by decide) ?_
            refine m_iload C dX12_bells_111 rfl ?_
            refine m_iload_n C dX12_bells_113 rfl rfl ?_
            refine m_icmp_ge (tgt := 129) C dX12_bells_114 (by decide) (fun c363 => ?_) (fun c363 => ?_)
            · first | exact absurd c363 (by decide) | exact absurd (by decide) c363
            · have f365 : 2 < 5 := by
                have q : _ := c363
                simp only [ti_nle, ti_nlt, ti_le, ti_lt, ti_eq, ti_ne, Classical.not_not, kt_2, kt_5] at q
                omega
              refine m_iload C dX12_bells_117 rfl ?_
              refine m_iload_n C dX12_bells_119 rfl rfl ?_
              refine m_imul C dX12_bells_120 ?_
              refine m_topi (fun x366 ex366 => ?_)
              have b367 : IV x366 125 125 := by rw [ex366]; decide
              have tx366 : x366.toInt = 125 := by rw [ex366]; decide
              obtain rfl : x366 = 125 := by rw [ex366]; decide
              refine m_istore (L1 := [some (.ref (G.1 22 0)), some (.int a1), some (.int 5), some (.int a3), some (.int 125), some (.int 2), none, none, none, none, none, none, none, none]) C dX12_bells_121 (by decide) rfl rfl ?_
              obtain ⟨x368, ex368⟩ : ∃ y : Int32, y = 2 + 1 := ⟨_, rfl⟩
              have b369 : IV x368 3 3 := by rw [ex368]; decide
              have tx368 : x368.toInt = 3 := by rw [ex368]; decide
              obtain rfl : x368 = 3 := by rw [ex368]; decide
              refine m_iinc (v := 3) (L1 := [some (.ref (G.1 22 0)), some (.int a1), some (.int 5), some (.int a3), some (.int 125), some (.int 3), none, none, none, none, none, none, none, none]) C dX12_bells_123 rfl (by decide) (by decide) rfl rfl ?_
              refine m_goto (tgt := 111) C dX12_bells_126 (by decide) ?_
              refine m_iload C dX12_bells_111 rfl ?_
              refine m_iload_n C dX12_bells_113 rfl rfl ?_
              refine m_icmp_ge (tgt := 129) C dX12_bells_114 (by decide) (fun c370 => ?_) (fun c370 => ?_)
              · first | exact absurd c370 (by decide) | exact absurd (by decide) c370
              · have f372 : 3 < 5 := by
                  have q : _ := c370
                  simp only [ti_nle, ti_nlt, ti_le, ti_lt, ti_eq, ti_ne, Classical.not_not, kt_3, kt_5] at q
                  omega
                refine m_iload C dX12_bells_117 rfl ?_
                refine m_iload_n C dX12_bells_119 rfl rfl ?_
                refine m_imul C dX12_bells_120 ?_
                refine m_topi (fun x373 ex373 => ?_)
                have b374 : IV x373 625 625 := by rw [ex373]; decide
                have tx373 : x373.toInt = 625 := by rw [ex373]; decide
                obtain rfl : x373 = 625 := by rw [ex373]; decide
                refine m_istore (L1 := [some (.ref (G.1 22 0)), some (.int a1), some (.int 5), some (.int a3), some (.int 625), some (.int 3), none, none, none, none, none, none, none, none]) C dX12_bells_121 (by decide) rfl rfl ?_
                obtain ⟨x375, ex375⟩ : ∃ y : Int32, y = 3 + 1 := ⟨_, rfl⟩
                have b376 : IV x375 4 4 := by rw [ex375]; decide
                have tx375 : x375.toInt = 4 := by rw [ex375]; decide
                obtain rfl : x375 = 4 := by rw [ex375]; decide
                refine m_iinc (v := 4) (L1 := [some (.ref (G.1 22 0)), some (.int a1), some (.int 5), some (.int a3), some (.int 625), some (.int 4), none, none, none, none, none, none, none, none]) C dX12_bells_123 rfl (by decide) (by decide) rfl rfl ?_
                refine m_goto (tgt := 111) C dX12_bells_126 (by decide) ?_
                refine m_iload C dX12_bells_111 rfl ?_
                refine m_iload_n C dX12_bells_113 rfl rfl ?_
                refine m_icmp_ge (tgt := 129) C dX12_bells_114 (by decide) (fun c377 => ?_) (fun c377 => ?_)
                · first | exact absurd c377 (by decide) | exact absurd (by decide) c377
                · have f379 : 4 < 5 := by
                    have q : _ := c377
                    simp only [ti_nle, ti_nlt, ti_le, ti_lt, ti_eq, ti_ne, Classical.not_not, kt_4, kt_5] at q
                    omega
                  refine m_iload C dX12_bells_117 rfl ?_
                  refine m_iload_n C dX12_bells_119 rfl rfl ?_
                  refine m_imul C dX12_bells_120 ?_
                  refine m_topi (fun x380 ex380 => ?_)
                  have b381 : IV x380 3125 3125 := by rw [ex380]; decide
                  have tx380 : x380.toInt = 3125 := by rw [ex380]; decide
                  obtain rfl : x380 = 3125 := by rw [ex380]; decide
                  refine m_istore (L1 := [some (.ref (G.1 22 0)), some (.int a1), some (.int 5), some (.int a3), some (.int 3125), some (.int 4), none, none, none, none, none, none, none, none]) C dX12_bells_121 (by decide) rfl rfl ?_
                  obtain ⟨x382, ex382⟩ : ∃ y : Int32, y = 4 + 1 := ⟨_, rfl⟩
                  have b383 : IV x382 5 5 := by rw [ex382]; decide
                  have tx382 : x382.toInt = 5 := by rw [ex382]; decide
                  obtain rfl : x382 = 5 := by rw [ex382]; decide
                  refine m_iinc (v := 5) (L1 := [some (.ref (G.1 22 0)), some (.int a1), some (.int 5), some (.int a3), some (.int 3125), some (.int 5), none, none, none, none, none, none, none, none]) C dX12_bells_123 rfl (by decide) (by decide) rfl rfl ?_
                  refine m_goto (tgt := 111) C dX12_bells_126 (by decide) ?_
                  refine m_iload C dX12_bells_111 rfl ?_
                  refine m_iload_n C dX12_bells_113 rfl rfl ?_
                  refine m_icmp_ge (tgt := 129) C dX12_bells_114 (by decide) (fun c384 => ?_) (fun c384 => ?_)
                  · have f385 : 5 ≤ 5 := by
                      have q : _ := c384
                      simp only [ti_nle, ti_nlt, ti_le, ti_lt, ti_eq, ti_ne, Classical.not_not, kt_5, kt_5] at q
                      omega
                    refine m_iconst (v := (-1)) C dX12_bells_129 (by decide) ?_
                    refine m_istore (L1 := [some (.ref (G.1 22 0)), some (.int a1), some (.int 5), some (.int a3), some (.int 3125), some (.int (-1)), none, none, none, none, none, none, none, none]) C dX12_bells_130 (by decide) rfl rfl ?_
                    refine m_iconst (v := 0) C dX12_bells_132 (by decide) ?_
                    refine m_istore (L1 := [some (.ref (G.1 22 0)), some (.int a1), some (.int 5), some (.int a3), some (.int 3125), some (.int (-1)), some (.int 0), none, none, none, none, none, none, none]) C dX12_bells_133 (by decide) rfl rfl ?_
                    refine m_iconst (v := 0) C dX12_bells_135 (by decide) ?_
                    refine m_istore (L1 := [some (.ref (G.1 22 0)), some (.int a1), some (.int 5), some (.int a3), some (.int 3125), some (.int (-1)), some (.int 0), some (.int 0), none, none, none, none, none, none]) C dX12_bells_136 (by decide) rfl rfl ?_
                    exact J138 ((3125 - (0 : Int32).toInt).toNat + 1) τ341 (-1) 0 0 i342 g346 b_a1 b_a3 (iv_wk kc_m1 (by decide)) (iv_wk kc_0 (by decide)) (iv_wk kc_0 (by decide)) (Nat.lt_succ_self _)
                  · first | exact absurd c384 (by decide) | exact absurd (by decide) c384
      · have f387 : y4.toInt < 5 := by
          have q : _ := c338
          simp only [ti_nle, ti_nlt, ti_le, ti_lt, ti_eq, ti_ne, Classical.not_not, kt_5] at q
          omega
        have b388 : IV y4 0 4 := ⟨by have q1 := b_y4; have q2 := kc_5; omega, by have q1 := b_y4; have q2 := kc_5; omega⟩
        refine m_aload_n C dX12_bells_67 rfl rfl ?_
        refine g_22_2 C q4_118 dX12_bells_68 ?_
        refine m_bipush (v := 40) C dX12_bells_71 (by decide) ?_
        refine m_iload_n C dX12_bells_73 rfl rfl ?_
        refine m_imul C dX12_bells_74 ?_
        refine m_topi (fun x389 ex389 => ?_)
        have tx389 : x389.toInt = 40 * a1.toInt := by rw [ex389, ti_mulv kc_40 b_a1 (by decide), kt_40]
        have b390 : IV x389 0 280 := by rw [ex389]; exact iv_mul kc_40 b_a1 (by decide)
        refine m_iload C dX12_bells_75 rfl ?_
        refine m_iadd C dX12_bells_77 ?_
        refine m_topi (fun x391 ex391 => ?_)
        have tx391 : x391.toInt = x389.toInt + y4.toInt := by rw [ex391, ti_addv b390 b388 (by decide)]
        have b392 : IV x391 0 284 := by rw [ex391]; exact iv_add b390 b388 (by decide)
        refine al_25 C b392 (by decide) rfl dX12_bells_78 ?_
        refine m_topi (fun x393 ex393 => ?_)
        refine m_i2l C dX12_bells_79 ?_
        refine m_lconst (v := 1) C dX12_bells_80 (by decide) ?_
        refine m_ldc2 (v := 20) C dX12_bells_81 q5_174 ?_
        refine m_callS (n := 3) (st := []) C (c_X12_in l G τ ((x393 : Int32).toInt64) (1) (20) iτ ) q4_190 q4_188 q4_189 q1_7 (by decide +kernel) rfl (by decide) (by decide) rfl (Nat.le_of_ble_eq_true rfl) dX12_bells_84 ?_
        rintro _ τ394 ⟨x397, rfl, i395, f396, b398, h400⟩
        have g399 : Fr MS_X12_bells_5 AS_X12_bells_5 σ τ394 := Fr.call (fτ) f396 (by decide)
        have f401 := tl_i x393
        have f402 := kl_1
        have f403 := kl_20
        show MW p l e _ s m args below meth c _ 14 G 0 0 87 [some (.ref (G.1 22 0)), some (.int a1), some (.int 5), some (.int a3), some (.int y4), none, none, none, none, none, none, none, none, none] [.int x397] τ394
        refine m_if_ne (tgt := 93) C dX12_bells_87 (by decide) (fun c404 => ?_) (fun c404 => ?_)
        · have f405 : x397.toInt ≠ 0 := by
            have q : _ := c404
            simp only [ti_nle, ti_nlt, ti_le, ti_lt, ti_eq, ti_ne, Classical.not_not, kt_0] at q
            omega
          have b406 : IV x397 1 1 := ⟨by have q1 := b398; have q2 := kc_0; omega, by have q1 := b398; have q2 := kc_0; omega⟩
          have b407 : IV x393 1 20 := ⟨by have q1 := (iv_any x393); omega, by have q1 := (iv_any x393); omega⟩
          obtain ⟨x408, ex408⟩ : ∃ y : Int32, y = y4 + 1 := ⟨_, rfl⟩
          have tx408 : x408.toInt = y4.toInt + 1 := by rw [ex408, ti_addv b388 kc_1 (by decide), kt_1]
          have b409 : IV x408 1 5 := by rw [ex408]; exact iv_add b388 kc_1 (by decide)
          refine m_iinc (v := x408) (L1 := [some (.ref (G.1 22 0)), some (.int a1), some (.int 5), some (.int a3), some (.int x408), none, none, none, none, none, none, none, none, none]) C dX12_bells_93 rfl (by rw [ex408]; rfl) (by decide) rfl rfl ?_
          refine m_goto (tgt := 61) C dX12_bells_96 (by decide) ?_
          exact ih61 τ394 x408 i395 g399 b_a1 b_a3 (iv_wk b409 (by decide)) (by have q := hm61; omega)
        · have f410 : x397.toInt = 0 := by
            have q : _ := c404
            simp only [ti_nle, ti_nlt, ti_le, ti_lt, ti_eq, ti_ne, Classical.not_not, kt_0] at q
            omega
          have b411 : IV x397 0 0 := ⟨by have q1 := b398; have q2 := kc_0; omega, by have q1 := b398; have q2 := kc_0; omega⟩
          refine m_ldc (v := (-1000001)) C dX12_bells_90 q4_192 ?_
          exact m_iret C hr hlk (by decide) (by decide) dX12_bells_92 ⟨_, rfl, i395, g399, (iv_wk kc_m1000001 (by decide))⟩
  refine m_iload_n C dX12_bells_0 rfl rfl ?_
  refine m_callS (n := 1) (st := []) C (c_X12_isRow l G σ (a1) hI ) q4_186 q4_184 q4_185 q1_7 (by decide +kernel) rfl (by decide) (by decide) rfl (Nat.le_of_ble_eq_true rfl) dX12_bells_1 ?_
  rintro _ τ412 ⟨x415, rfl, i413, f414, b416, h418⟩
  have g417 : Fr MS_X12_bells_5 AS_X12_bells_5 σ τ412 := Fr.call (Fr.rf) f414 (by decide)
  show MW p l e _ s m args below meth c _ 14 G 0 0 4 [some (.ref (G.1 22 0)), some (.int a1), some (.int 5), some (.int a3), none, none, none, none, none, none, none, none, none, none] [.int x415] τ412
  refine m_if_eq (tgt := 24) C dX12_bells_4 (by decide) (fun c419 => ?_) (fun c419 => ?_)
  · have f420 : x415.toInt = 0 := by
      have q : _ := c419
      simp only [ti_nle, ti_nlt, ti_le, ti_lt, ti_eq, ti_ne, Classical.not_not, kt_0] at q
      omega
    have b421 : IV x415 0 0 := ⟨by have q1 := b416; have q2 := kc_0; omega, by have q1 := b416; have q2 := kc_0; omega⟩
    refine m_ldc (v := (-1000001)) C dX12_bells_24 q4_192 ?_
    exact m_iret C hr hlk (by decide) (by decide) dX12_bells_26 ⟨_, rfl, i413, g417, (iv_wk kc_m1000001 (by decide))⟩
  · have f422 : x415.toInt ≠ 0 := by
      have q : _ := c419
      simp only [ti_nle, ti_nlt, ti_le, ti_lt, ti_eq, ti_ne, Classical.not_not, kt_0] at q
      omega
    have b423 : IV x415 1 1 := ⟨by have q1 := b416; have q2 := kc_0; omega, by have q1 := b416; have q2 := kc_0; omega⟩
    have b424 : IV a1 0 7 := ⟨by have q1 := (iv_any a1); omega, by have q1 := (iv_any a1); omega⟩
    refine m_iload_n C dX12_bells_7 rfl rfl ?_
    refine m_i2l C dX12_bells_8 ?_
    refine m_lconst (v := 1) C dX12_bells_9 (by decide) ?_
    refine m_ldc2 (v := 5) C dX12_bells_10 q5_173 ?_
    refine m_callS (n := 3) (st := []) C (c_X12_in l G τ412 ((5 : Int32).toInt64) (1) (5) i413 ) q4_190 q4_188 q4_189 q1_7 (by decide +kernel) rfl (by decide) (by decide) rfl (Nat.le_of_ble_eq_true rfl) dX12_bells_13 ?_
    rintro _ τ425 ⟨x428, rfl, i426, f427, b429, h431⟩
    have g430 : Fr MS_X12_bells_5 AS_X12_bells_5 σ τ425 := Fr.call (g417) f427 (by decide)
    have f432 := tl_i 5
    have kf432 := kt_5
    have f433 := kl_1
    have f434 := kl_5
    show MW p l e _ s m args below meth c _ 14 G 0 0 16 [some (.ref (G.1 22 0)), some (.int a1), some (.int 5), some (.int a3), none, none, none, none, none, none, none, none, none, none] [.int x428] τ425
    refine m_if_eq (tgt := 24) C dX12_bells_16 (by decide) (fun c435 => ?_) (fun c435 => ?_)
    · have f436 : x428.toInt = 0 := by
        have q : _ := c435
        simp only [ti_nle, ti_nlt, ti_le, ti_lt, ti_eq, ti_ne, Classical.not_not, kt_0] at q
        omega
      have b437 : IV x428 0 0 := ⟨by have q1 := b429; have q2 := kc_0; omega, by have q1 := b429; have q2 := kc_0; omega⟩
      refine m_ldc (v := (-1000001)) C dX12_bells_24 q4_192 ?_
      exact m_iret C hr hlk (by decide) (by decide) dX12_bells_26 ⟨_, rfl, i426, g430, (iv_wk kc_m1000001 (by decide))⟩
    · have f438 : x428.toInt ≠ 0 := by
        have q : _ := c435
        simp only [ti_nle, ti_nlt, ti_le, ti_lt, ti_eq, ti_ne, Classical.not_not, kt_0] at q
        omega
      have b439 : IV x428 1 1 := ⟨by have q1 := b429; have q2 := kc_0; omega, by have q1 := b429; have q2 := kc_0; omega⟩
      refine m_iload_n C dX12_bells_19 rfl rfl ?_
      refine m_iconst (v := (-1)) C dX12_bells_20 (by decide) ?_
      refine m_icmp_ge (tgt := 27) C dX12_bells_21 (by decide) (fun c440 => ?_) (fun c440 => ?_)
      · have f441 : -1 ≤ a3.toInt := by
          have q : _ := c440
          simp only [ti_nle, ti_nlt, ti_le, ti_lt, ti_eq, ti_ne, Classical.not_not, kt_m1] at q
          omega
        have b442 : IV a3 (-1) 2147483647 := ⟨by have q1 := kc_m1; have q2 := (iv_any a3); omega, by have q1 := kc_m1; have q2 := (iv_any a3); omega⟩
        refine m_aload_n C dX12_bells_27 rfl rfl ?_
        refine g_22_3 C q4_119 dX12_bells_28 ?_
        refine m_iload_n C dX12_bells_31 rfl rfl ?_
        refine al_26 C b424 (by decide) rfl dX12_bells_32 ?_
        refine m_topi (fun x443 ex443 => ?_)
        refine m_if_ge (tgt := 42) C dX12_bells_33 (by decide) (fun c444 => ?_) (fun c444 => ?_)
        · have f445 : 0 ≤ x443.toInt := by
            have q : _ := c444
            simp only [ti_nle, ti_nlt, ti_le, ti_lt, ti_eq, ti_ne, Classical.not_not, kt_0] at q
            omega
          have b446 : IV x443 0 2147483647 := ⟨by have q1 := kc_0; have q2 := (iv_any x443); omega, by have q1 := kc_0; have q2 := (iv_any x443); omega⟩
          refine m_aload_n C dX12_bells_42 rfl rfl ?_
          refine g_22_4 C q4_120 dX12_bells_43 ?_
          refine m_iload_n C dX12_bells_46 rfl rfl ?_
          refine al_27 C b424 (by decide) rfl dX12_bells_47 ?_
          refine m_topi (fun x447 ex447 => ?_)
          have b448 : IV x447 0 40 := by rw [ex447]; exact i426.1 27 0 _
          refine m_iload_n C dX12_bells_48 rfl rfl ?_
          refine m_icmp_ge (tgt := 58) C dX12_bells_49 (by decide) (fun c449 => ?_) (fun c449 => ?_)
          · have f450 : 5 ≤ x447.toInt := by
              have q : _ := c449
              simp only [ti_nle, ti_nlt, ti_le, ti_lt, ti_eq, ti_ne, Classical.not_not, kt_5] at q
              omega
            have b451 : IV x447 5 40 := ⟨by have q1 := kc_5; have q2 := b448; omega, by have q1 := kc_5; have q2 := b448; omega⟩
            refine m_iconst (v := 0) C dX12_bells_58 (by decide) ?_
            refine m_istore (L1 := [some (.ref (G.1 22 0)), some (.int a1), some (.int 5), some (.int a3), some (.int 0), none, none, none, none, none, none, none, none, none]) C dX12_bells_59 (by decide) rfl rfl ?_
            exact J61 ((5 - (0 : Int32).toInt).toNat + 1) τ425 0 i426 g430 b424 b442 (iv_wk kc_0 (by decide)) (Nat.lt_succ_self _)
          · have f452 : x447.toInt < 5 := by
              have q : _ := c449
              simp only [ti_nle, ti_nlt, ti_le, ti_lt, ti_eq, ti_ne, Classical.not_not, kt_5] at q
              omega
            have b453 : IV x447 0 4 := ⟨by have q1 := b448; have q2 := kc_5; omega, by have q1 := b448; have q2 := kc_5; omega⟩
            refine m_aload_n C dX12_bells_52 rfl rfl ?_
            refine m_iconst (v := 2) C dX12_bells_53 (by decide) ?_
            refine m_callV (n := 1) (ci := 11) (st := []) C (c_X12_met l G τ425 (2) i426 (iv_wk kc_2 (by decide))) (by decide) (by decide) rfl rfl rfl q4_196 q4_193 q4_195 q0_26 q1_7 (by decide +kernel) rfl (by decide) (by decide) rfl (Nat.le_of_ble_eq_true rfl) dX12_bells_54 ?_
            rintro _ τ454 ⟨x457, rfl, i455, f456, b458, h460⟩
            have g459 : Fr MS_X12_bells_5 AS_X12_bells_5 σ τ454 := Fr.call (g430) f456 (by decide)
            have q461 := kt_2
            show MW p l e _ s m args below meth c _ 14 G 0 0 57 [some (.ref (G.1 22 0)), some (.int a1), some (.int 5), some (.int a3), none, none, none, none, none, none, none, none, none, none] [.int x457] τ454
            exact m_iret C hr hlk (by decide) (by decide) dX12_bells_57 ⟨_, rfl, i455, g459, (iv_wk b458 (by decide))⟩
        · have f462 : x443.toInt < 0 := by
            have q : _ := c444
            simp only [ti_nle, ti_nlt, ti_le, ti_lt, ti_eq, ti_ne, Classical.not_not, kt_0] at q
            omega
          have b463 : IV x443 (-2147483648) (-1) := ⟨by have q1 := (iv_any x443); have q2 := kc_0; omega, by have q1 := (iv_any x443); have q2 := kc_0; omega⟩
          refine m_aload_n C dX12_bells_36 rfl rfl ?_
          refine m_iconst (v := 1) C dX12_bells_37 (by decide) ?_
          refine m_callV (n := 1) (ci := 11) (st := []) C (c_X12_met l G τ425 (1) i426 (iv_wk kc_1 (by decide))) (by decide) (by decide) rfl rfl rfl q4_196 q4_193 q4_195 q0_26 q1_7 (by decide +kernel) rfl (by decide) (by decide) rfl (Nat.le_of_ble_eq_true rfl) dX12_bells_38 ?_
          rintro _ τ464 ⟨x467, rfl, i465, f466, b468, h470⟩
          have g469 : Fr MS_X12_bells_5 AS_X12_bells_5 σ τ464 := Fr.call (g430) f466 (by decide)
          have q471 := kt_1
          show MW p l e _ s m args below meth c _ 14 G 0 0 41 [some (.ref (G.1 22 0)), some (.int a1), some (.int 5), some (.int a3), none, none, none, none, none, none, none, none, none, none] [.int x467] τ464
          exact m_iret C hr hlk (by decide) (by decide) dX12_bells_41 ⟨_, rfl, i465, g469, (iv_wk b468 (by decide))⟩
      · have f472 : a3.toInt < -1 := by
          have q : _ := c440
          simp only [ti_nle, ti_nlt, ti_le, ti_lt, ti_eq, ti_ne, Classical.not_not, kt_m1] at q
          omega
        have b473 : IV a3 (-2147483648) (-2) := ⟨by have q1 := (iv_any a3); have q2 := kc_m1; omega, by have q1 := (iv_any a3); have q2 := kc_m1; omega⟩
        refine m_ldc (v := (-1000001)) C dX12_bells_24 q4_192 ?_
        exact m_iret C hr hlk (by decide) (by decide) dX12_bells_26 ⟨_, rfl, i426, g430, (iv_wk kc_m1000001 (by decide))⟩

abbrev MS_X12_bells_lo : List (Nat × Nat) := [(22, 8)]
abbrev AS_X12_bells_lo : List Nat := []
set_option maxHeartbeats 4000000 in
set_option maxRecDepth 100000 in
theorem c_X12_bells_lo (l : Launch) (G : Gt) (σ : Sg) (a1 : Int32) (a2 : Int32) (a3 : Int32) (hI : Inv σ) (ha2 : IV a2 (-2147483648) 0) : Mc l G yX12_bells cX12_bells 14 (some .int) 2 60 0 0 [.ref (G.1 22 0), .int a1, .int a2, .int a3] σ (PI fun r τ => Inv τ ∧ Fr MS_X12_bells_lo AS_X12_bells_lo σ τ ∧ IV r (-2147483648) 2147483647) := by
  refine Mc.of (L0 := [some (.ref (G.1 22 0)), some (.int a1), some (.int a2), some (.int a3), none, none, none, none, none, none, none, none, none, none]) (by decide) (Nat.le_of_ble_eq_true rfl) rfl ?_
  intro p e s m args below meth c C hr hlk
  have C : Cx p s m args c cX12_bells 14 "LeanTowerModel" := C
  have k0 : (0 : Int32).toInt = 0 := by decide
  have k1 : (1 : Int32).toInt = 1 := by decide
  refine m_iload_n C dX12_bells_0 rfl rfl ?_
  refine m_callS (n := 1) (st := []) C (c_X12_isRow l G σ (a1) hI ) q4_186 q4_184 q4_185 q1_7 (by decide +kernel) rfl (by decide) (by decide) rfl (Nat.le_of_ble_eq_true rfl) dX12_bells_1 ?_
  rintro _ τ1 ⟨x4, rfl, i2, f3, b5, h7⟩
  have g6 : Fr MS_X12_bells_lo AS_X12_bells_lo σ τ1 := Fr.call (Fr.rf) f3 (by decide)
  show MW p l e _ s m args below meth c _ 14 G 0 0 4 [some (.ref (G.1 22 0)), some (.int a1), some (.int a2), some (.int a3), none, none, none, none, none, none, none, none, none, none] [.int x4] τ1
  refine m_if_eq (tgt := 24) C dX12_bells_4 (by decide) (fun c8 => ?_) (fun c8 => ?_)
  · have f9 : x4.toInt = 0 := by
      have q : _ := c8
      simp only [ti_nle, ti_nlt, ti_le, ti_lt, ti_eq, ti_ne, Classical.not_not, kt_0] at q
      omega
    have b10 : IV x4 0 0 := ⟨by have q1 := b5; have q2 := kc_0; omega, by have q1 := b5; have q2 := kc_0; omega⟩
    refine m_ldc (v := (-1000001)) C dX12_bells_24 q4_192 ?_
    exact m_iret C hr hlk (by decide) (by decide) dX12_bells_26 ⟨_, rfl, i2, g6, (iv_wk kc_m1000001 (by decide))⟩
  · have f11 : x4.toInt ≠ 0 := by
      have q : _ := c8
      simp only [ti_nle, ti_nlt, ti_le, ti_lt, ti_eq, ti_ne, Classical.not_not, kt_0] at q
      omega
    have b12 : IV x4 1 1 := ⟨by have q1 := b5; have q2 := kc_0; omega, by have q1 := b5; have q2 := kc_0; omega⟩
    have b13 : IV a1 0 7 := ⟨by have q1 := (iv_any a1); omega, by have q1 := (iv_any a1); omega⟩
    refine m_iload_n C dX12_bells_7 rfl rfl ?_
    refine m_i2l C dX12_bells_8 ?_
    refine m_lconst (v := 1) C dX12_bells_9 (by decide) ?_
    refine m_ldc2 (v := 5) C dX12_bells_10 q5_173 ?_
    refine m_callS (n := 3) (st := []) C (c_X12_in l G τ1 ((a2 : Int32).toInt64) (1) (5) i2 ) q4_190 q4_188 q4_189 q1_7 (by decide +kernel) rfl (by decide) (by decide) rfl (Nat.le_of_ble_eq_true rfl) dX12_bells_13 ?_
    rintro _ τ14 ⟨x17, rfl, i15, f16, b18, h20⟩
    have g19 : Fr MS_X12_bells_lo AS_X12_bells_lo σ τ14 := Fr.call (g6) f16 (by decide)
    have f21 := tl_i a2
    have f22 := kl_1
    have f23 := kl_5
    show MW p l e _ s m args below meth c _ 14 G 0 0 16 [some (.ref (G.1 22 0)), some (.int a1), some (.int a2), some (.int a3), none, none, none, none, none, none, none, none, none, none] [.int x17] τ14
    refine m_if_eq (tgt := 24) C dX12_bells_16 (by decide) (fun c24 => ?_) (fun c24 => ?_)
    · have f25 : x17.toInt = 0 := by
        have q : _ := c24
        simp only [ti_nle, ti_nlt, ti_le, ti_lt, ti_eq, ti_ne, Classical.not_not, kt_0] at q
        omega
      have b26 : IV x17 0 0 := ⟨by have q1 := b18; have q2 := kc_0; omega, by have q1 := b18; have q2 := kc_0; omega⟩
      refine m_ldc (v := (-1000001)) C dX12_bells_24 q4_192 ?_
      exact m_iret C hr hlk (by decide) (by decide) dX12_bells_26 ⟨_, rfl, i15, g19, (iv_wk kc_m1000001 (by decide))⟩
    · exfalso
      have q : _ := c24
      simp only [ti_nle, ti_nlt, ti_le, ti_lt, ti_eq, ti_ne, Classical.not_not, kt_0] at q
      have q1 := b18; have q2 := kc_0; omega

abbrev MS_X12_bells_hi : List (Nat × Nat) := [(22, 8)]
abbrev AS_X12_bells_hi : List Nat := []
set_option maxHeartbeats 4000000 in
set_option maxRecDepth 100000 in
theorem c_X12_bells_hi (l : Launch) (G : Gt) (σ : Sg) (a1 : Int32) (a2 : Int32) (a3 : Int32) (hI : Inv σ) (ha2 : IV a2 6 2147483647) : Mc l G yX12_bells cX12_bells 14 (some .int) 2 60 0 0 [.ref (G.1 22 0), .int a1, .int a2, .int a3] σ (PI fun r τ => Inv τ ∧ Fr MS_X12_bells_hi AS_X12_bells_hi σ τ ∧ IV r (-2147483648) 2147483647) := by
  refine Mc.of (L0 := [some (.ref (G.1 22 0)), some (.int a1), some (.int a2), some (.int a3), none, none, none, none, none, none, none, none, none, none]) (by decide) (Nat.le_of_ble_eq_true rfl) rfl ?_
  intro p e s m args below meth c C hr hlk
  have C : Cx p s m args c cX12_bells 14 "LeanTowerModel" := C
  have k0 : (0 : Int32).toInt = 0 := by decide
  have k1 : (1 : Int32).toInt = 1 := by decide
  refine m_iload_n C dX12_bells_0 rfl rfl ?_
  refine m_callS (n := 1) (st := []) C (c_X12_isRow l G σ (a1) hI ) q4_186 q4_184 q4_185 q1_7 (by decide +kernel) rfl (by decide) (by decide) rfl (Nat.le_of_ble_eq_true rfl) dX12_bells_1 ?_
  rintro _ τ1 ⟨x4, rfl, i2, f3, b5, h7⟩
  have g6 : Fr MS_X12_bells_hi AS_X12_bells_hi σ τ1 := Fr.call (Fr.rf) f3 (by decide)
  show MW p l e _ s m args below meth c _ 14 G 0 0 4 [some (.ref (G.1 22 0)), some (.int a1), some (.int a2), some (.int a3), none, none, none, none, none, none, none, none, none, none] [.int x4] τ1
  refine m_if_eq (tgt := 24) C dX12_bells_4 (by decide) (fun c8 => ?_) (fun c8 => ?_)
  · have f9 : x4.toInt = 0 := by
      have q : _ := c8
      simp only [ti_nle, ti_nlt, ti_le, ti_lt, ti_eq, ti_ne, Classical.not_not, kt_0] at q
      omega
    have b10 : IV x4 0 0 := ⟨by have q1 := b5; have q2 := kc_0; omega, by have q1 := b5; have q2 := kc_0; omega⟩
    refine m_ldc (v := (-1000001)) C dX12_bells_24 q4_192 ?_
    exact m_iret C hr hlk (by decide) (by decide) dX12_bells_26 ⟨_, rfl, i2, g6, (iv_wk kc_m1000001 (by decide))⟩
  · have f11 : x4.toInt ≠ 0 := by
      have q : _ := c8
      simp only [ti_nle, ti_nlt, ti_le, ti_lt, ti_eq, ti_ne, Classical.not_not, kt_0] at q
      omega
    have b12 : IV x4 1 1 := ⟨by have q1 := b5; have q2 := kc_0; omega, by have q1 := b5; have q2 := kc_0; omega⟩
    have b13 : IV a1 0 7 := ⟨by have q1 := (iv_any a1); omega, by have q1 := (iv_any a1); omega⟩
    refine m_iload_n C dX12_bells_7 rfl rfl ?_
    refine m_i2l C dX12_bells_8 ?_
    refine m_lconst (v := 1) C dX12_bells_9 (by decide) ?_
    refine m_ldc2 (v := 5) C dX12_bells_10 q5_173 ?_
    refine m_callS (n := 3) (st := []) C (c_X12_in l G τ1 ((a2 : Int32).toInt64) (1) (5) i2 ) q4_190 q4_188 q4_189 q1_7 (by decide +kernel) rfl (by decide) (by decide) rfl (Nat.le_of_ble_eq_true rfl) dX12_bells_13 ?_
    rintro _ τ14 ⟨x17, rfl, i15, f16, b18, h20⟩
    have g19 : Fr MS_X12_bells_hi AS_X12_bells_hi σ τ14 := Fr.call (g6) f16 (by decide)
    have f21 := tl_i a2
    have f22 := kl_1
    have f23 := kl_5
    show MW p l e _ s m args below meth c _ 14 G 0 0 16 [some (.ref (G.1 22 0)), some (.int a1), some (.int a2), some (.int a3), none, none, none, none, none, none, none, none, none, none] [.int x17] τ14
    refine m_if_eq (tgt := 24) C dX12_bells_16 (by decide) (fun c24 => ?_) (fun c24 => ?_)
    · have f25 : x17.toInt = 0 := by
        have q : _ := c24
        simp only [ti_nle, ti_nlt, ti_le, ti_lt, ti_eq, ti_ne, Classical.not_not, kt_0] at q
        omega
      have b26 : IV x17 0 0 := ⟨by have q1 := b18; have q2 := kc_0; omega, by have q1 := b18; have q2 := kc_0; omega⟩
      refine m_ldc (v := (-1000001)) C dX12_bells_24 q4_192 ?_
      exact m_iret C hr hlk (by decide) (by decide) dX12_bells_26 ⟨_, rfl, i15, g19, (iv_wk kc_m1000001 (by decide))⟩
    · exfalso
      have q : _ := c24
      simp only [ti_nle, ti_nlt, ti_le, ti_lt, ti_eq, ti_ne, Classical.not_not, kt_0] at q
      have q1 := b18; have q2 := kc_0; omega
