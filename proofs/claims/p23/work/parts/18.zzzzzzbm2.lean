abbrev MS_X12_bells_4Z : List (Nat × Nat) := [(22, 8)]
abbrev AS_X12_bells_4Z : List Nat := []
set_option maxHeartbeats 4000000 in
set_option maxRecDepth 100000 in
theorem c_X12_bells_4Z (l : Launch) (G : Gt) (σ : Sg) (a1 : Int32) (a3 : Int32) (hI : Inv σ) : Mc l G yX12_bells cX12_bells 14 (some .int) 2 60 0 0 [.ref (G.1 22 0), .int a1, .int 4, .int a3] σ (PI fun r τ => Inv τ ∧ Fr MS_X12_bells_4Z AS_X12_bells_4Z σ τ ∧ IV r (-2147483648) 2147483647 ∧ (((a1.toInt < 0 ∨ 7 < a1.toInt ∨ (4 : Int) < 1 ∨ 5 < (4 : Int) ∨ a3.toInt < -1) ∧ r.toInt = -1000001) ∨ (((0 ≤ a1.toInt ∧ a1.toInt ≤ 7) ∧ 1 ≤ (4 : Int) ∧ (4 : Int) ≤ 5 ∧ -1 ≤ a3.toInt) ∧ (gV σ 26 0 (a1.toInt.toNat)).toInt < 0 ∧ r.toInt = -1000011) ∨ (((0 ≤ a1.toInt ∧ a1.toInt ≤ 7) ∧ 1 ≤ (4 : Int) ∧ (4 : Int) ≤ 5 ∧ -1 ≤ a3.toInt) ∧ 0 ≤ (gV σ 26 0 (a1.toInt.toNat)).toInt ∧ (gV σ 27 0 (a1.toInt.toNat)).toInt < (4 : Int) ∧ r.toInt = -1000012) ∨ (((0 ≤ a1.toInt ∧ a1.toInt ≤ 7) ∧ 1 ≤ (4 : Int) ∧ (4 : Int) ≤ 5 ∧ -1 ≤ a3.toInt) ∧ 0 ≤ (gV σ 26 0 (a1.toInt.toNat)).toInt ∧ (4 : Int) ≤ (gV σ 27 0 (a1.toInt.toNat)).toInt ∧ ¬ AlJ σ (a1.toInt.toNat) (4 : Int) 1 20 ∧ r.toInt = -1000001) ∨ (((0 ≤ a1.toInt ∧ a1.toInt ≤ 7) ∧ 1 ≤ (4 : Int) ∧ (4 : Int) ≤ 5 ∧ -1 ≤ a3.toInt) ∧ 0 ≤ (gV σ 26 0 (a1.toInt.toNat)).toInt ∧ (4 : Int) ≤ (gV σ 27 0 (a1.toInt.toNat)).toInt ∧ AlJ σ (a1.toInt.toNat) (4 : Int) 1 20 ∧ RESB r a3 4 (bbest (nuJ σ (a1.toInt.toNat) 4) 4)))) := by
  refine Mc.of (L0 := [some (.ref (G.1 22 0)), some (.int a1), some (.int 4), some (.int a3), none, none, none, none, none, none, none, none, none, none]) (by decide) (Nat.le_of_ble_eq_true rfl) rfl ?_
  intro p e s m args below meth c C hr hlk
  have C : Cx p s m args c cX12_bells 14 "LeanTowerModel" := C
  have k0 : (0 : Int32).toInt = 0 := by decide
  have k1 : (1 : Int32).toInt = 1 := by decide
  have J138 : ∀ (n : Nat) (τ : Sg) (y5 : Int32) (y6 : Int32) (y7 : Int32), Inv τ → Fr MS_X12_bells_4Z AS_X12_bells_4Z σ τ → IV a1 0 7 → IV a3 (-1) 2147483647 → IV y5 (-1) 256 → IV y6 (-2147483648) 2147483647 → IV y7 0 256 → (((0 ≤ a1.toInt ∧ a1.toInt ≤ 7) ∧ 1 ≤ (4 : Int) ∧ (4 : Int) ≤ 5 ∧ -1 ≤ a3.toInt ∧ 0 ≤ (gV σ 26 0 (a1.toInt.toNat)).toInt ∧ (4 : Int) ≤ (gV σ 27 0 (a1.toInt.toNat)).toInt)) → (AlJ σ (a1.toInt.toNat) (4 : Int) 1 20) → (BRL (nuJ σ (a1.toInt.toNat) 4) 4 y5 y6 (bacc (nuJ σ (a1.toInt.toNat) 4) 4 y7.toInt.toNat)) → (256 - y7.toInt).toNat < n → MW p l e { frames := 2, cells := 0, slots := 0, locals := 60 } s m args below meth c (MQ below (QP G (PI fun r τ => Inv τ ∧ Fr MS_X12_bells_4Z AS_X12_bells_4Z σ τ ∧ IV r (-2147483648) 2147483647 ∧ (((a1.toInt < 0 ∨ 7 < a1.toInt ∨ (4 : Int) < 1 ∨ 5 < (4 : Int) ∨ a3.toInt < -1) ∧ r.toInt = -1000001) ∨ (((0 ≤ a1.toInt ∧ a1.toInt ≤ 7) ∧ 1 ≤ (4 : Int) ∧ (4 : Int) ≤ 5 ∧ -1 ≤ a3.toInt) ∧ (gV σ 26 0 (a1.toInt.toNat)).toInt < 0 ∧ r.toInt = -1000011) ∨ (((0 ≤ a1.toInt ∧ a1.toInt ≤ 7) ∧ 1 ≤ (4 : Int) ∧ (4 : Int) ≤ 5 ∧ -1 ≤ a3.toInt) ∧ 0 ≤ (gV σ 26 0 (a1.toInt.toNat)).toInt ∧ (gV σ 27 0 (a1.toInt.toNat)).toInt < (4 : Int) ∧ r.toInt = -1000012) ∨ (((0 ≤ a1.toInt ∧ a1.toInt ≤ 7) ∧ 1 ≤ (4 : Int) ∧ (4 : Int) ≤ 5 ∧ -1 ≤ a3.toInt) ∧ 0 ≤ (gV σ 26 0 (a1.toInt.toNat)).toInt ∧ (4 : Int) ≤ (gV σ 27 0 (a1.toInt.toNat)).toInt ∧ ¬ AlJ σ (a1.toInt.toNat) (4 : Int) 1 20 ∧ r.toInt = -1000001) ∨ (((0 ≤ a1.toInt ∧ a1.toInt ≤ 7) ∧ 1 ≤ (4 : Int) ∧ (4 : Int) ≤ 5 ∧ -1 ≤ a3.toInt) ∧ 0 ≤ (gV σ 26 0 (a1.toInt.toNat)).toInt ∧ (4 : Int) ≤ (gV σ 27 0 (a1.toInt.toNat)).toInt ∧ AlJ σ (a1.toInt.toNat) (4 : Int) 1 20 ∧ RESB r a3 4 (bbest (nuJ σ (a1.toInt.toNat) 4) 4))))) args s 0 0 (aG G)) 14 G 0 0 138 [some (.ref (G.1 22 0)), some (.int a1), some (.int 4), some (.int a3), some (.int 256), some (.int y5), some (.int y6), some (.int y7), none, none, none, none, none, none] [] τ := by
    intro n
    induction n with
    | zero => intro τ y5 y6 y7 iτ fτ b_a1 b_a3 b_y5 b_y6 b_y7 n1 nL nB hm; exact absurd hm (Nat.not_lt_zero _)
    | succ n ih138 =>
      intro τ y5 y6 y7 iτ fτ b_a1 b_a3 b_y5 b_y6 b_y7 n1 nL nB hm138
      have u2 : IV (gV τ 27 0 (a1.toInt.toNat)) 0 40 := iτ.1 27 0 (a1.toInt.toNat)
      have hν := nuJ_b (n := 4) nL (by omega)
      refine m_iload C dX12_bells_138 rfl ?_
      refine m_iload C dX12_bells_140 rfl ?_
      refine m_icmp_ge (tgt := 285) C dX12_bells_142 (by decide) (fun c3 => ?_) (fun c3 => ?_)
      · have f4 : 256 ≤ y7.toInt := by
          have q : _ := c3
          simp only [ti_nle, ti_nlt, ti_le, ti_lt, ti_eq, ti_ne, Classical.not_not, kt_256] at q
          omega
        have b5 : IV y7 256 256 := ⟨by have q1 := kc_256; have q2 := b_y7; omega, by have q1 := kc_256; have q2 := b_y7; omega⟩
        obtain ⟨q6a, q6b, q6c⟩ := nB.fin (by rw [show y7.toInt.toNat = 256 by omega]) hν (by decide) (by decide)
        have b7 : IV y5 0 256 := ⟨by omega, by have q := b_y5; omega⟩
        refine m_iload_n C dX12_bells_285 rfl rfl ?_
        refine m_if_ge (tgt := 292) C dX12_bells_286 (by decide) (fun c8 => ?_) (fun c8 => ?_)
        · have f9 : 0 ≤ a3.toInt := by
            have q : _ := c8
            simp only [ti_nle, ti_nlt, ti_le, ti_lt, ti_eq, ti_ne, Classical.not_not, kt_0] at q
            omega
          have b10 : IV a3 0 2147483647 := ⟨by have q1 := kc_0; have q2 := b_a3; omega, by have q1 := kc_0; have q2 := b_a3; omega⟩
          refine m_iload C dX12_bells_292 rfl ?_
          refine m_istore (L1 := [some (.ref (G.1 22 0)), some (.int a1), some (.int 4), some (.int a3), some (.int 256), some (.int y5), some (.int y6), some (.int 256), none, none, none, none, none, none]) C dX12_bells_294 (by decide) rfl rfl ?_
          refine m_iconst (v := 0) C dX12_bells_296 (by decide) ?_
          refine m_istore (L1 := [some (.ref (G.1 22 0)), some (.int a1), some (.int 4), some (.int a3), some (.int 256), some (.int y5), some (.int y6), some (.int 256), some (.int 0), none, none, none, none, none]) C dX12_bells_297 (by decide) rfl rfl ?_
          refine m_iload C dX12_bells_299 rfl ?_
          refine m_iload_n C dX12_bells_301 rfl rfl ?_
          refine m_icmp_gt (tgt := 323) C dX12_bells_302 (by decide) (fun c11 => ?_) (fun c11 => ?_)
          · exfalso
            have q : _ := c11
            simp only [ti_nle, ti_nlt, ti_le, ti_lt, ti_eq, ti_ne, Classical.not_not, kt_0] at q
            have q1 := kc_0; have q2 := b10; omega
          · have f13 : 0 ≤ a3.toInt := by
              have q : _ := c11
              simp only [ti_nle, ti_nlt, ti_le, ti_lt, ti_eq, ti_ne, Classical.not_not, kt_0] at q
              omega
            refine m_iload C dX12_bells_305 rfl ?_
            refine m_iload_n C dX12_bells_307 rfl rfl ?_
            refine m_icmp_ge (tgt := 323) C dX12_bells_308 (by decide) (fun c14 => ?_) (fun c14 => ?_)
            · first | exact absurd c14 (by decide) | exact absurd (by decide) c14
            · have f16 : 0 < 4 := by
                have q : _ := c14
                simp only [ti_nle, ti_nlt, ti_le, ti_lt, ti_eq, ti_ne, Classical.not_not, kt_0, kt_4] at q
                omega
              refine m_iload C dX12_bells_311 rfl ?_
              refine m_iload_n C dX12_bells_313 rfl rfl ?_
              refine m_idiv C dX12_bells_314 (iv_nz kc_4 (by decide)) ?_
              refine m_topi (fun x17 ex17 => ?_)
              have b18 : IV x17 64 64 := by rw [ex17]; decide
              have tx17 : x17.toInt = 64 := by rw [ex17]; decide
              obtain rfl : x17 = 64 := by rw [ex17]; decide
              refine m_istore (L1 := [some (.ref (G.1 22 0)), some (.int a1), some (.int 4), some (.int a3), some (.int 256), some (.int y5), some (.int y6), some (.int 64), some (.int 0), none, none, none, none, none]) C dX12_bells_315 (by decide) rfl rfl ?_
              obtain ⟨x19, ex19⟩ : ∃ y : Int32, y = 0 + 1 := ⟨_, rfl⟩
              have b20 : IV x19 1 1 := by rw [ex19]; decide
              have tx19 : x19.toInt = 1 := by rw [ex19]; decide
              obtain rfl : x19 = 1 := by rw [ex19]; decide
              refine m_iinc (v := 1) (L1 := [some (.ref (G.1 22 0)), some (.int a1), some (.int 4), some (.int a3), some (.int 256), some (.int y5), some (.int y6), some (.int 64), some (.int 1), none, none, none, none, none]) C dX12_bells_317 rfl (by decide) (by decide) rfl rfl ?_
              refine m_goto (tgt := 299) C dX12_bells_320 (by decide) ?_
              refine m_iload C dX12_bells_299 rfl ?_
              refine m_iload_n C dX12_bells_301 rfl rfl ?_
              refine m_icmp_gt (tgt := 323) C dX12_bells_302 (by decide) (fun c21 => ?_) (fun c21 => ?_)
              · have f22 : a3.toInt < 1 := by
                  have q : _ := c21
                  simp only [ti_nle, ti_nlt, ti_le, ti_lt, ti_eq, ti_ne, Classical.not_not, kt_1] at q
                  omega
                have b23 : IV a3 0 0 := ⟨by have q1 := b10; have q2 := kc_1; omega, by have q1 := b10; have q2 := kc_1; omega⟩
                refine m_iload_n C dX12_bells_323 rfl rfl ?_
                refine m_iload_n C dX12_bells_324 rfl rfl ?_
                refine m_icmp_ge (tgt := 338) C dX12_bells_325 (by decide) (fun c24 => ?_) (fun c24 => ?_)
                · exfalso
                  have q : _ := c24
                  simp only [ti_nle, ti_nlt, ti_le, ti_lt, ti_eq, ti_ne, Classical.not_not, kt_4] at q
                  have q1 := b23; have q2 := kc_4; omega
                · have f26 : a3.toInt < 4 := by
                    have q : _ := c24
                    simp only [ti_nle, ti_nlt, ti_le, ti_lt, ti_eq, ti_ne, Classical.not_not, kt_4] at q
                    omega
                  refine m_iload C dX12_bells_328 rfl ?_
                  refine m_iload C dX12_bells_330 rfl ?_
                  refine m_idiv C dX12_bells_332 (iv_nz kc_64 (by decide)) ?_
                  refine m_topi (fun x27 ex27 => ?_)
                  have b28 : IV x27 0 4 := by rw [ex27]; exact iv_div b7 kc_64 (by decide)
                  have tx27 : x27.toInt = y5.toInt / 64 := by rw [ex27]; exact ti_divc b7 kc_64 (by decide)
                  refine m_iload_n C dX12_bells_333 rfl rfl ?_
                  refine m_irem C dX12_bells_334 (iv_nz kc_4 (by decide)) ?_
                  refine m_topi (fun x29 ex29 => ?_)
                  have b30 : IV x29 0 3 := by rw [ex29]; exact iv_rem b28 kc_4 (by decide)
                  have tx29 : x29.toInt = x27.toInt % 4 := by rw [ex29]; exact ti_rem b28 kc_4 (by decide)
                  refine m_goto (tgt := 340) C dX12_bells_335 (by decide) ?_
                  exact m_iret C hr hlk (by decide) (by decide) dX12_bells_340 ⟨_, rfl, iτ, fτ, (iv_wk b30 (by decide)), (Or.inr (Or.inr (Or.inr (Or.inr (⟨by omega, by omega, by omega, nL, ⟨fun g => absurd g (by omega), fun _ _ => by rw [q6c, show a3.toInt.toNat = 0 by omega]; show _ = (((y5.toInt.toNat / 64 % 4 : Nat)) : Int); omega, fun g => absurd g (by omega)⟩⟩)))))⟩
              · have f31 : 1 ≤ a3.toInt := by
                  have q : _ := c21
                  simp only [ti_nle, ti_nlt, ti_le, ti_lt, ti_eq, ti_ne, Classical.not_not, kt_1] at q
                  omega
                have b32 : IV a3 1 2147483647 := ⟨by have q1 := kc_1; have q2 := b10; omega, by have q1 := kc_1; have q2 := b10; omega⟩
                refine m_iload C dX12_bells_305 rfl ?_
                refine m_iload_n C dX12_bells_307 rfl rfl ?_
                refine m_icmp_ge (tgt := 323) C dX12_bells_308 (by decide) (fun c33 => ?_) (fun c33 => ?_)
                · first | exact absurd c33 (by decide) | exact absurd (by decide) c33
                · have f35 : 1 < 4 := by
                    have q : _ := c33
                    simp only [ti_nle, ti_nlt, ti_le, ti_lt, ti_eq, ti_ne, Classical.not_not, kt_1, kt_4] at q
                    omega
                  refine m_iload C dX12_bells_311 rfl ?_
                  refine m_iload_n C dX12_bells_313 rfl rfl ?_
                  refine m_idiv C dX12_bells_314 (iv_nz kc_4 (by decide)) ?_
                  refine m_topi (fun x36 ex36 => ?_)
                  have b37 : IV x36 16 16 := by rw [ex36]; decide
                  have tx36 : x36.toInt = 16 := by rw [ex36]; decide
                  obtain rfl : x36 = 16 := by rw [ex36]; decide
                  refine m_istore (L1 := [some (.ref (G.1 22 0)), some (.int a1), some (.int 4), some (.int a3), some (.int 256), some (.int y5), some (.int y6), some (.int 16), some (.int 1), none, none, none, none, none]) C dX12_bells_315 (by decide) rfl rfl ?_
                  obtain ⟨x38, ex38⟩ : ∃ y : Int32, y = 1 + 1 := ⟨_, rfl⟩
                  have b39 : IV x38 2 2 := by rw [ex38]; decide
                  have tx38 : x38.toInt = 2 := by rw [ex38]; decide
                  obtain rfl : x38 = 2 := by rw [ex38]; decide
                  refine m_iinc (v := 2) (L1 := [some (.ref (G.1 22 0)), some (.int a1), some (.int 4), some (.int a3), some (.int 256), some (.int y5), some (.int y6), some (.int 16), some (.int 2), none, none, none, none, none]) C dX12_bells_317 rfl (by decide) (by decide) rfl rfl ?_
                  refine m_goto (tgt := 299) C dX12_bells_320 (by decide) ?_
                  refine m_iload C dX12_bells_299 rfl ?_
                  refine m_iload_n C dX12_bells_301 rfl rfl ?_
                  refine m_icmp_gt (tgt := 323) C dX12_bells_302 (by decide) (fun c40 => ?_) (fun c40 => ?_)
                  · have f41 : a3.toInt < 2 := by
                      have q : _ := c40
                      simp only [ti_nle, ti_nlt, ti_le, ti_lt, ti_eq, ti_ne, Classical.not_not, kt_2] at q
                      omega
                    have b42 : IV a3 1 1 := ⟨by have q1 := b32; have q2 := kc_2; omega, by have q1 := b32; have q2 := kc_2; omega⟩
                    refine m_iload_n C dX12_bells_323 rfl rfl ?_
                    refine m_iload_n C dX12_bells_324 rfl rfl ?_
                    refine m_icmp_ge (tgt := 338) C dX12_bells_325 (by decide) (fun c43 => ?_) (fun c43 => ?_)
                    · exfalso
                      have q : _ := c43
                      simp only [ti_nle, ti_nlt, ti_le, ti_lt, ti_eq, ti_ne, Classical.not_not, kt_4] at q
                      have q1 := b42; have q2 := kc_4; omega
                    · have f45 : a3.toInt < 4 := by
                        have q : _ := c43
                        simp only [ti_nle, ti_nlt, ti_le, ti_lt, ti_eq, ti_ne, Classical.not_not, kt_4] at q
                        omega
                      refine m_iload C dX12_bells_328 rfl ?_
                      refine m_iload C dX12_bells_330 rfl ?_
                      refine m_idiv C dX12_bells_332 (iv_nz kc_16 (by decide)) ?_
                      refine m_topi (fun x46 ex46 => ?_)
                      have b47 : IV x46 0 16 := by rw [ex46]; exact iv_div b7 kc_16 (by decide)
                      have tx46 : x46.toInt = y5.toInt / 16 := by rw [ex46]; exact ti_divc b7 kc_16 (by decide)
                      refine m_iload_n C dX12_bells_333 rfl rfl ?_
                      refine m_irem C dX12_bells_334 (iv_nz kc_4 (by decide)) ?_
                      refine m_topi (fun x48 ex48 => ?_)
                      have b49 : IV x48 0 3 := by rw [ex48]; exact iv_rem b47 kc_4 (by decide)
                      have tx48 : x48.toInt = x46.toInt % 4 := by rw [ex48]; exact ti_rem b47 kc_4 (by decide)
                      refine m_goto (tgt := 340) C dX12_bells_335 (by decide) ?_
                      exact m_iret C hr hlk (by decide) (by decide) dX12_bells_340 ⟨_, rfl, iτ, fτ, (iv_wk b49 (by decide)), (Or.inr (Or.inr (Or.inr (Or.inr (⟨by omega, by omega, by omega, nL, ⟨fun g => absurd g (by omega), fun _ _ => by rw [q6c, show a3.toInt.toNat = 1 by omega]; show _ = (((y5.toInt.toNat / 16 % 4 : Nat)) : Int); omega, fun g => absurd g (by omega)⟩⟩)))))⟩
                  · have f50 : 2 ≤ a3.toInt := by
                      have q : _ := c40
                      simp only [ti_nle, ti_nlt, ti_le, ti_lt, ti_eq, ti_ne, Classical.not_not, kt_2] at q
                      omega
                    have b51 : IV a3 2 2147483647 := ⟨by have q1 := kc_2; have q2 := b32; omega, by have q1 := kc_2; have q2 := b32; omega⟩
                    refine m_iload C dX12_bells_305 rfl ?_
                    refine m_iload_n C dX12_bells_307 rfl rfl ?_
                    refine m_icmp_ge (tgt := 323) C dX12_bells_308 (by decide) (fun c52 => ?_) (fun c52 => ?_)
                    · first | exact absurd c52 (by decide) | exact absurd (by decide) c52
                    · have f54 : 2 < 4 := by
                        have q : _ := c52
                        simp only [ti_nle, ti_nlt, ti_le, ti_lt, ti_eq, ti_ne, Classical.not_not, kt_2, kt_4] at q
                        omega
                      refine m_iload C dX12_bells_311 rfl ?_
                      refine m_iload_n C dX12_bells_313 rfl rfl ?_
                      refine m_idiv C dX12_bells_314 (iv_nz kc_4 (by decide)) ?_
                      refine m_topi (fun x55 ex55 => ?_)
                      have b56 : IV x55 4 4 := by rw [ex55]; decide
                      have tx55 : x55.toInt = 4 := by rw [ex55]; decide
                      obtain rfl : x55 = 4 := by rw [ex55]; decide
                      refine m_istore (L1 := [some (.ref (G.1 22 0)), some (.int a1), some (.int 4), some (.int a3), some (.int 256), some (.int y5), some (.int y6), some (.int 4), some (.int 2), none, none, none, none, none]) C dX12_bells_315 (by decide) rfl rfl ?_
                      obtain ⟨x57, ex57⟩ : ∃ y : Int32, y = 2 + 1 := ⟨_, rfl⟩
                      have b58 : IV x57 3 3 := by rw [ex57]; decide
                      have tx57 : x57.toInt = 3 := by rw [ex57]; decide
                      obtain rfl : x57 = 3 := by rw [ex57]; decide
                      refine m_iinc (v := 3) (L1 := [some (.ref (G.1 22 0)), some (.int a1), some (.int 4), some (.int a3), some (.int 256), some (.int y5), some (.int y6), some (.int 4), some (.int 3), none, none, none, none, none]) C dX12_bells_317 rfl (by decide) (by decide) rfl rfl ?_
                      refine m_goto (tgt := 299) C dX12_bells_320 (by decide) ?_
                      refine m_iload C dX12_bells_299 rfl ?_
                      refine m_iload_n C dX12_bells_301 rfl rfl ?_
                      refine m_icmp_gt (tgt := 323) C dX12_bells_302 (by decide) (fun c59 => ?_) (fun c59 => ?_)
                      · have f60 : a3.toInt < 3 := by
                          have q : _ := c59
                          simp only [ti_nle, ti_nlt, ti_le, ti_lt, ti_eq, ti_ne, Classical.not_not, kt_3] at q
                          omega
                        have b61 : IV a3 2 2 := ⟨by have q1 := b51; have q2 := kc_3; omega, by have q1 := b51; have q2 := kc_3; omega⟩
                        refine m_iload_n C dX12_bells_323 rfl rfl ?_
                        refine m_iload_n C dX12_bells_324 rfl rfl ?_
                        refine m_icmp_ge (tgt := 338) C dX12_bells_325 (by decide) (fun c62 => ?_) (fun c62 => ?_)
                        · exfalso
                          have q : _ := c62
                          simp only [ti_nle, ti_nlt, ti_le, ti_lt, ti_eq, ti_ne, Classical.not_not, kt_4] at q
                          have q1 := b61; have q2 := kc_4; omega
                        · have f64 : a3.toInt < 4 := by
                            have q : _ := c62
                            simp only [ti_nle, ti_nlt, ti_le, ti_lt, ti_eq, ti_ne, Classical.not_not, kt_4] at q
                            omega
                          refine m_iload C dX12_bells_328 rfl ?_
                          refine m_iload C dX12_bells_330 rfl ?_
                          refine m_idiv C dX12_bells_332 (iv_nz kc_4 (by decide)) ?_
                          refine m_topi (fun x65 ex65 => ?_)
                          have b66 : IV x65 0 64 := by rw [ex65]; exact iv_div b7 kc_4 (by decide)
                          have tx65 : x65.toInt = y5.toInt / 4 := by rw [ex65]; exact ti_divc b7 kc_4 (by decide)
                          refine m_iload_n C dX12_bells_333 rfl rfl ?_
                          refine m_irem C dX12_bells_334 (iv_nz kc_4 (by decide)) ?_
                          refine m_topi (fun x67 ex67 => ?_)
                          have b68 : IV x67 0 3 := by rw [ex67]; exact iv_rem b66 kc_4 (by decide)
                          have tx67 : x67.toInt = x65.toInt % 4 := by rw [ex67]; exact ti_rem b66 kc_4 (by decide)
                          refine m_goto (tgt := 340) C dX12_bells_335 (by decide) ?_
                          exact m_iret C hr hlk (by decide) (by decide) dX12_bells_340 ⟨_, rfl, iτ, fτ, (iv_wk b68 (by decide)), (Or.inr (Or.inr (Or.inr (Or.inr (⟨by omega, by omega, by omega, nL, ⟨fun g => absurd g (by omega), fun _ _ => by rw [q6c, show a3.toInt.toNat = 2 by omega]; show _ = (((y5.toInt.toNat / 4 % 4 : Nat)) : Int); omega, fun g => absurd g (by omega)⟩⟩)))))⟩
                      · have f69 : 3 ≤ a3.toInt := by
                          have q : _ := c59
                          simp only [ti_nle, ti_nlt, ti_le, ti_lt, ti_eq, ti_ne, Classical.not_not, kt_3] at q
                          omega
                        have b70 : IV a3 3 2147483647 := ⟨by have q1 := kc_3; have q2 := b51; omega, by have q1 := kc_3; have q2 := b51; omega⟩
                        refine m_iload C dX12_bells_305 rfl ?_
                        refine m_iload_n C dX12_bells_307 rfl rfl ?_
                        refine m_icmp_ge (tgt := 323) C dX12_bells_308 (by decide) (fun c71 => ?_) (fun c71 => ?_)
                        · first | exact absurd c71 (by decide) | exact absurd (by decide) c71
                        · have f73 : 3 < 4 := by
                            have q : _ := c71
                            simp only [ti_nle, ti_nlt, ti_le, ti_lt, ti_eq, ti_ne, Classical.not_not, kt_3, kt_4] at q
                            omega
                          refine m_iload C dX12_bells_311 rfl ?_
                          refine m_iload_n C dX12_bells_313 rfl rfl ?_
                          refine m_idiv C dX12_bells_314 (iv_nz kc_4 (by decide)) ?_
                          refine m_topi (fun x74 ex74 => ?_)
                          have b75 : IV x74 1 1 := by rw [ex74]; decide
                          have tx74 : x74.toInt = 1 := by rw [ex74]; decide
                          obtain rfl : x74 = 1 := by rw [ex74]; decide
                          refine m_istore (L1 := [some (.ref (G.1 22 0)), some (.int a1), some (.int 4), some (.int a3), some (.int 256), some (.int y5), some (.int y6), some (.int 1), some (.int 3), none, none, none, none, none]) C dX12_bells_315 (by decide) rfl rfl ?_
                          obtain ⟨x76, ex76⟩ : ∃ y : Int32, y = 3 + 1 := ⟨_, rfl⟩
                          have b77 : IV x76 4 4 := by rw [ex76]; decide
                          have tx76 : x76.toInt = 4 := by rw [ex76]; decide
                          obtain rfl : x76 = 4 := by rw [ex76]; decide
                          refine m_iinc (v := 4) (L1 := [some (.ref (G.1 22 0)), some (.int a1), some (.int 4), some (.int a3), some (.int 256), some (.int y5), some (.int y6), some (.int 1), some (.int 4), none, none, none, none, none]) C dX12_bells_317 rfl (by decide) (by decide) rfl rfl ?_
                          refine m_goto (tgt := 299) C dX12_bells_320 (by decide) ?_
                          refine m_iload C dX12_bells_299 rfl ?_
                          refine m_iload_n C dX12_bells_301 rfl rfl ?_
                          refine m_icmp_gt (tgt := 323) C dX12_bells_302 (by decide) (fun c78 => ?_) (fun c78 => ?_)
                          · have f79 : a3.toInt < 4 := by
                              have q : _ := c78
                              simp only [ti_nle, ti_nlt, ti_le, ti_lt, ti_eq, ti_ne, Classical.not_not, kt_4] at q
                              omega
                            have b80 : IV a3 3 3 := ⟨by have q1 := b70; have q2 := kc_4; omega, by have q1 := b70; have q2 := kc_4; omega⟩
                            refine m_iload_n C dX12_bells_323 rfl rfl ?_
                            refine m_iload_n C dX12_bells_324 rfl rfl ?_
                            refine m_icmp_ge (tgt := 338) C dX12_bells_325 (by decide) (fun c81 => ?_) (fun c81 => ?_)
                            · exfalso
                              have q : _ := c81
                              simp only [ti_nle, ti_nlt, ti_le, ti_lt, ti_eq, ti_ne, Classical.not_not, kt_4] at q
                              have q1 := b80; have q2 := kc_4; omega
                            · have f83 : a3.toInt < 4 := by
                                have q : _ := c81
                                simp only [ti_nle, ti_nlt, ti_le, ti_lt, ti_eq, ti_ne, Classical.not_not, kt_4] at q
                                omega
                              refine m_iload C dX12_bells_328 rfl ?_
                              refine m_iload C dX12_bells_330 rfl ?_
                              refine m_idiv C dX12_bells_332 (iv_nz kc_1 (by decide)) ?_
                              refine m_topi (fun x84 ex84 => ?_)
                              have b85 : IV x84 0 256 := by rw [ex84]; exact iv_div b7 kc_1 (by decide)
                              have tx84 : x84.toInt = y5.toInt / 1 := by rw [ex84]; exact ti_divc b7 kc_1 (by decide)
                              refine m_iload_n C dX12_bells_333 rfl rfl ?_
                              refine m_irem C dX12_bells_334 (iv_nz kc_4 (by decide)) ?_
                              refine m_topi (fun x86 ex86 => ?_)
                              have b87 : IV x86 0 3 := by rw [ex86]; exact iv_rem b85 kc_4 (by decide)
                              have tx86 : x86.toInt = x84.toInt % 4 := by rw [ex86]; exact ti_rem b85 kc_4 (by decide)
                              refine m_goto (tgt := 340) C dX12_bells_335 (by decide) ?_
                              exact m_iret C hr hlk (by decide) (by decide) dX12_bells_340 ⟨_, rfl, iτ, fτ, (iv_wk b87 (by decide)), (Or.inr (Or.inr (Or.inr (Or.inr (⟨by omega, by omega, by omega, nL, ⟨fun g => absurd g (by omega), fun _ _ => by rw [q6c, show a3.toInt.toNat = 3 by omega]; show _ = (((y5.toInt.toNat / 1 % 4 : Nat)) : Int); omega, fun g => absurd g (by omega)⟩⟩)))))⟩
                          · have f88 : 4 ≤ a3.toInt := by
                              have q : _ := c78
                              simp only [ti_nle, ti_nlt, ti_le, ti_lt, ti_eq, ti_ne, Classical.not_not, kt_4] at q
                              omega
                            have b89 : IV a3 4 2147483647 := ⟨by have q1 := kc_4; have q2 := b70; omega, by have q1 := kc_4; have q2 := b70; omega⟩
                            refine m_iload C dX12_bells_305 rfl ?_
                            refine m_iload_n C dX12_bells_307 rfl rfl ?_
                            refine m_icmp_ge (tgt := 323) C dX12_bells_308 (by decide) (fun c90 => ?_) (fun c90 => ?_)
                            · have f91 : 4 ≤ 4 := by
                                have q : _ := c90
                                simp only [ti_nle, ti_nlt, ti_le, ti_lt, ti_eq, ti_ne, Classical.not_not, kt_4, kt_4] at q
                                omega
                              refine m_iload_n C dX12_bells_323 rfl rfl ?_
                              refine m_iload_n C dX12_bells_324 rfl rfl ?_
                              refine m_icmp_ge (tgt := 338) C dX12_bells_325 (by decide) (fun c92 => ?_) (fun c92 => ?_)
                              · have f93 : 4 ≤ a3.toInt := by
                                  have q : _ := c92
                                  simp only [ti_nle, ti_nlt, ti_le, ti_lt, ti_eq, ti_ne, Classical.not_not, kt_4] at q
                                  omega
                                refine m_ldc (v := (-1000000)) C dX12_bells_338 q5_70 ?_
                                exact m_iret C hr hlk (by decide) (by decide) dX12_bells_340 ⟨_, rfl, iτ, fτ, (iv_wk kc_m1000000 (by decide)), (Or.inr (Or.inr (Or.inr (Or.inr (⟨by have qk := kt_m1000000; omega, by have qk := kt_m1000000; omega, by have qk := kt_m1000000; omega, nL, ⟨fun g => absurd g (by omega), fun _ g => absurd g (by omega), fun _ => kt_m1000000⟩⟩)))))⟩
                              · exfalso
                                have q : _ := c92
                                simp only [ti_nle, ti_nlt, ti_le, ti_lt, ti_eq, ti_ne, Classical.not_not, kt_4] at q
                                have q1 := b89; have q2 := kc_4; omega
                            · first | exact absurd c90 (by decide) | exact absurd (by decide) c90
        · have f96 : a3.toInt < 0 := by
            have q : _ := c8
            simp only [ti_nle, ti_nlt, ti_le, ti_lt, ti_eq, ti_ne, Classical.not_not, kt_0] at q
            omega
          have b97 : IV a3 (-1) (-1) := ⟨by have q1 := b_a3; have q2 := kc_0; omega, by have q1 := b_a3; have q2 := kc_0; omega⟩
          refine m_iload C dX12_bells_289 rfl ?_
          exact m_iret C hr hlk (by decide) (by decide) dX12_bells_291 ⟨_, rfl, iτ, fτ, b_y6, (Or.inr (Or.inr (Or.inr (Or.inr (⟨by omega, by omega, by omega, nL, ⟨fun _ => q6b.symm, fun g => absurd g (by omega), fun g => absurd g (by omega)⟩⟩)))))⟩
      · have f98 : y7.toInt < 256 := by
          have q : _ := c3
          simp only [ti_nle, ti_nlt, ti_le, ti_lt, ti_eq, ti_ne, Classical.not_not, kt_256] at q
          omega
        have b99 : IV y7 0 255 := ⟨by have q1 := b_y7; have q2 := kc_256; omega, by have q1 := b_y7; have q2 := kc_256; omega⟩
        refine m_iconst (v := 0) C dX12_bells_145 (by decide) ?_
        refine m_istore (L1 := [some (.ref (G.1 22 0)), some (.int a1), some (.int 4), some (.int a3), some (.int 256), some (.int y5), some (.int y6), some (.int y7), some (.int 0), none, none, none, none, none]) C dX12_bells_146 (by decide) rfl rfl ?_
        refine m_iload C dX12_bells_148 rfl ?_
        refine m_istore (L1 := [some (.ref (G.1 22 0)), some (.int a1), some (.int 4), some (.int a3), some (.int 256), some (.int y5), some (.int y6), some (.int y7), some (.int 0), some (.int 256), none, none, none, none]) C dX12_bells_150 (by decide) rfl rfl ?_
        refine m_iconst (v := 0) C dX12_bells_152 (by decide) ?_
        refine m_istore (L1 := [some (.ref (G.1 22 0)), some (.int a1), some (.int 4), some (.int a3), some (.int 256), some (.int y5), some (.int y6), some (.int y7), some (.int 0), some (.int 256), some (.int 0), none, none, none]) C dX12_bells_153 (by decide) rfl rfl ?_
        refine m_iconst (v := 0) C dX12_bells_155 (by decide) ?_
        refine m_istore (L1 := [some (.ref (G.1 22 0)), some (.int a1), some (.int 4), some (.int a3), some (.int 256), some (.int y5), some (.int y6), some (.int y7), some (.int 0), some (.int 256), some (.int 0), some (.int 0), none, none]) C dX12_bells_156 (by decide) rfl rfl ?_
        refine m_iconst (v := 0) C dX12_bells_158 (by decide) ?_
        refine m_istore (L1 := [some (.ref (G.1 22 0)), some (.int a1), some (.int 4), some (.int a3), some (.int 256), some (.int y5), some (.int y6), some (.int y7), some (.int 0), some (.int 256), some (.int 0), some (.int 0), some (.int 0), none]) C dX12_bells_159 (by decide) rfl rfl ?_
        refine m_iload C dX12_bells_161 rfl ?_
        refine m_iload_n C dX12_bells_163 rfl rfl ?_
        refine m_icmp_ge (tgt := 249) C dX12_bells_164 (by decide) (fun c100 => ?_) (fun c100 => ?_)
        · first | exact absurd c100 (by decide) | exact absurd (by decide) c100
        · have f102 : 0 < 4 := by
            have q : _ := c100
            simp only [ti_nle, ti_nlt, ti_le, ti_lt, ti_eq, ti_ne, Classical.not_not, kt_0, kt_4] at q
            omega
          refine m_iload C dX12_bells_167 rfl ?_
          refine m_iload_n C dX12_bells_169 rfl rfl ?_
          refine m_idiv C dX12_bells_170 (iv_nz kc_4 (by decide)) ?_
          refine m_topi (fun x103 ex103 => ?_)
          have b104 : IV x103 64 64 := by rw [ex103]; decide
          have tx103 : x103.toInt = 64 := by rw [ex103]; decide
          obtain rfl : x103 = 64 := by rw [ex103]; decide
          refine m_istore (L1 := [some (.ref (G.1 22 0)), some (.int a1), some (.int 4), some (.int a3), some (.int 256), some (.int y5), some (.int y6), some (.int y7), some (.int 0), some (.int 64), some (.int 0), some (.int 0), some (.int 0), none]) C dX12_bells_171 (by decide) rfl rfl ?_
          refine m_iload C dX12_bells_173 rfl ?_
          refine m_iload C dX12_bells_175 rfl ?_
          refine m_idiv C dX12_bells_177 (iv_nz kc_64 (by decide)) ?_
          refine m_topi (fun x105 ex105 => ?_)
          have b106 : IV x105 0 3 := by rw [ex105]; exact iv_div b99 kc_64 (by decide)
          have tx105 : x105.toInt = y7.toInt / 64 := by rw [ex105]; exact ti_divc b99 kc_64 (by decide)
          refine m_iload_n C dX12_bells_178 rfl rfl ?_
          refine m_irem C dX12_bells_179 (iv_nz kc_4 (by decide)) ?_
          refine m_topi (fun x107 ex107 => ?_)
          have b108 : IV x107 0 3 := by rw [ex107]; exact iv_rem b106 kc_4 (by decide)
          have tx107 : x107.toInt = x105.toInt % 4 := by rw [ex107]; exact ti_rem b106 kc_4 (by decide)
          refine m_istore (L1 := [some (.ref (G.1 22 0)), some (.int a1), some (.int 4), some (.int a3), some (.int 256), some (.int y5), some (.int y6), some (.int y7), some (.int 0), some (.int 64), some (.int 0), some (.int 0), some (.int 0), some (.int x107)]) C dX12_bells_180 (by decide) rfl rfl ?_
          refine m_iload C dX12_bells_182 rfl ?_
          refine m_iconst (v := 1) C dX12_bells_184 (by decide) ?_
          refine m_iload C dX12_bells_185 rfl ?_
          refine m_ishl C dX12_bells_187 ?_
          refine m_topi (fun x109 ex109 => ?_)
          have b110 : IV x109 1 8 := by rw [ex109]; exact iv_shl1 b108 (by decide)
          refine m_ior C dX12_bells_188 ?_
          refine m_topi (fun x111 ex111 => ?_)
          have b112 : IV x111 0 15 := by rw [ex111]; exact iv_or 4 kc_0 b110 (by decide)
          refine m_istore (L1 := [some (.ref (G.1 22 0)), some (.int a1), some (.int 4), some (.int a3), some (.int 256), some (.int y5), some (.int y6), some (.int y7), some (.int x111), some (.int 64), some (.int 0), some (.int 0), some (.int 0), some (.int x107)]) C dX12_bells_189 (by decide) rfl rfl ?_
          refine m_iload C dX12_bells_191 rfl ?_
          refine m_iload C dX12_bells_193 rfl ?_
          refine m_iconst (v := 2) C dX12_bells_195 (by decide) ?_
          refine m_irem C dX12_bells_196 (iv_nz kc_2 (by decide)) ?_
          refine m_topi (fun x113 ex113 => ?_)
          have b114 : IV x113 0 0 := by rw [ex113]; decide
          have tx113 : x113.toInt = 0 := by rw [ex113]; decide
          obtain rfl : x113 = 0 := by rw [ex113]; decide
          refine m_if_ne (tgt := 215) C dX12_bells_197 (by decide) (fun c115 => ?_) (fun c115 => ?_)
          · first | exact absurd c115 (by decide) | exact absurd (by decide) c115
          · have f117 : 0 = 0 := by
              have q : _ := c115
              simp only [ti_nle, ti_nlt, ti_le, ti_lt, ti_eq, ti_ne, Classical.not_not, kt_0, kt_0] at q
              omega
            refine m_aload_n C dX12_bells_200 rfl rfl ?_
            refine g_22_2 C q4_118 dX12_bells_201 ?_
            refine m_bipush (v := 40) C dX12_bells_204 (by decide) ?_
            refine m_iload_n C dX12_bells_206 rfl rfl ?_
            refine m_imul C dX12_bells_207 ?_
            refine m_topi (fun x118 ex118 => ?_)
            have tx118 : x118.toInt = 40 * a1.toInt := by rw [ex118, ti_mulv kc_40 b_a1 (by decide), kt_40]
            have b119 : IV x118 0 280 := by rw [ex118]; exact iv_mul kc_40 b_a1 (by decide)
            refine m_iload C dX12_bells_208 rfl ?_
            refine m_iadd C dX12_bells_210 ?_
            refine m_topi (fun x120 ex120 => ?_)
            have tx120 : x120.toInt = x118.toInt + x107.toInt := by rw [ex120, ti_addv b119 b108 (by decide)]
            have b121 : IV x120 0 283 := by rw [ex120]; exact iv_add b119 b108 (by decide)
            refine al_25 C b121 (by decide) rfl dX12_bells_211 ?_
            refine m_topi (fun x122 ex122 => ?_)
            have q123 : (nuJ σ (a1.toInt.toNat) 4) (y7.toInt.toNat / 64 % 4) = x122.toInt := by unfold nuJ; rw [if_pos (by omega), show 40 * (a1.toInt.toNat) + (y7.toInt.toNat / 64 % 4) = (x120.toInt.toNat) by omega, ← (fτ).1 25 0 (x120.toInt.toNat) (by simp) (by decide), show gV τ 25 0 (x120.toInt.toNat) = x122 from ex122.symm]
            have q125 := hν (y7.toInt.toNat / 64 % 4)
            have b124 : IV x122 0 20 := ⟨by omega, by omega⟩
            refine m_goto (tgt := 228) C dX12_bells_212 (by decide) ?_
            refine m_iadd C dX12_bells_228 ?_
            refine m_topi (fun x126 ex126 => ?_)
            have tx126 : x126.toInt = 0 + x122.toInt := by rw [ex126, ti_addv kc_0 b124 (by decide), kt_0]
            have b127 : IV x126 0 20 := by rw [ex126]; exact iv_add kc_0 b124 (by decide)
            refine m_istore (L1 := [some (.ref (G.1 22 0)), some (.int a1), some (.int 4), some (.int a3), some (.int 256), some (.int y5), some (.int y6), some (.int y7), some (.int x111), some (.int 64), some (.int x126), some (.int 0), some (.int 0), some (.int x107)]) C dX12_bells_229 (by decide) rfl rfl ?_
            refine m_iload C dX12_bells_231 rfl ?_
            refine m_iload C dX12_bells_233 rfl ?_
            refine m_callS (n := 1) (st := [.int 0]) C (c_X12_sizeOfB l G τ (x126) iτ (iv_wk b127 (by decide))) q5_96 q5_94 q5_95 q1_7 (by decide +kernel) rfl (by decide) (by decide) rfl (Nat.le_of_ble_eq_true rfl) dX12_bells_235 ?_
            rintro _ τ128 ⟨x131, rfl, i129, f130, b132, h134⟩
            have g133 : Fr MS_X12_bells_4Z AS_X12_bells_4Z σ τ128 := Fr.call (fτ) f130 (by decide)
            have q135 : (gV τ128 26 0 (a1.toInt.toNat)).toInt = (gV τ 26 0 (a1.toInt.toNat)).toInt := congrArg Int32.toInt (show (gV τ128 26 0 (a1.toInt.toNat)) = (gV τ 26 0 (a1.toInt.toNat)) from (show gV τ128 26 0 (a1.toInt.toNat) = (gV τ 26 0 (a1.toInt.toNat)) from (f130.1 26 0 ((a1.toInt.toNat)) (by simp) (by decide)).trans rfl))
            have q136 : (gV τ128 27 0 (a1.toInt.toNat)).toInt = (gV τ 27 0 (a1.toInt.toNat)).toInt := congrArg Int32.toInt (show (gV τ128 27 0 (a1.toInt.toNat)) = (gV τ 27 0 (a1.toInt.toNat)) from (show gV τ128 27 0 (a1.toInt.toNat) = (gV τ 27 0 (a1.toInt.toNat)) from (f130.1 27 0 ((a1.toInt.toNat)) (by simp) (by decide)).trans rfl))
            show MW p l e _ s m args below meth c _ 14 G 0 0 238 [some (.ref (G.1 22 0)), some (.int a1), some (.int 4), some (.int a3), some (.int 256), some (.int y5), some (.int y6), some (.int y7), some (.int x111), some (.int 64), some (.int x126), some (.int 0), some (.int 0), some (.int x107)] [.int x131, .int 0] τ128
            have q137 := kt_0
            refine m_callS (n := 2) (st := []) C (c_X12_greaterB l G τ128 (0) (x131) i129 ) q5_99 q5_97 q5_98 q1_7 (by decide +kernel) rfl (by decide) (by decide) rfl (Nat.le_of_ble_eq_true rfl) dX12_bells_238 ?_
            rintro _ τ138 ⟨x141, rfl, i139, f140, b142, h144⟩
            have g143 : Fr MS_X12_bells_4Z AS_X12_bells_4Z σ τ138 := Fr.call (g133) f140 (by decide)
            have q145 : (gV τ138 26 0 (a1.toInt.toNat)).toInt = (gV τ 26 0 (a1.toInt.toNat)).toInt := congrArg Int32.toInt (show (gV τ138 26 0 (a1.toInt.toNat)) = (gV τ 26 0 (a1.toInt.toNat)) from (show gV τ138 26 0 (a1.toInt.toNat) = (gV τ 26 0 (a1.toInt.toNat)) from (f140.1 26 0 ((a1.toInt.toNat)) (by simp) (by decide)).trans (show gV τ128 26 0 (a1.toInt.toNat) = (gV τ 26 0 (a1.toInt.toNat)) from (f130.1 26 0 ((a1.toInt.toNat)) (by simp) (by decide)).trans rfl)))
            have q146 : (gV τ138 27 0 (a1.toInt.toNat)).toInt = (gV τ 27 0 (a1.toInt.toNat)).toInt := congrArg Int32.toInt (show (gV τ138 27 0 (a1.toInt.toNat)) = (gV τ 27 0 (a1.toInt.toNat)) from (show gV τ138 27 0 (a1.toInt.toNat) = (gV τ 27 0 (a1.toInt.toNat)) from (f140.1 27 0 ((a1.toInt.toNat)) (by simp) (by decide)).trans (show gV τ128 27 0 (a1.toInt.toNat) = (gV τ 27 0 (a1.toInt.toNat)) from (f130.1 27 0 ((a1.toInt.toNat)) (by simp) (by decide)).trans rfl)))
            show MW p l e _ s m args below meth c _ 14 G 0 0 241 [some (.ref (G.1 22 0)), some (.int a1), some (.int 4), some (.int a3), some (.int 256), some (.int y5), some (.int y6), some (.int y7), some (.int x111), some (.int 64), some (.int x126), some (.int 0), some (.int 0), some (.int x107)] [.int x141] τ138
            refine m_istore (L1 := [some (.ref (G.1 22 0)), some (.int a1), some (.int 4), some (.int a3), some (.int 256), some (.int y5), some (.int y6), some (.int y7), some (.int x111), some (.int 64), some (.int x126), some (.int x141), some (.int 0), some (.int x107)]) C dX12_bells_241 (by decide) rfl rfl ?_
            have q148 : x107 = nI (y7.toInt.toNat / 64 % 4) := nI_of_ti (by omega) (by omega)
            rw [kt_0] at h144
            have h147 : bst (nuJ σ (a1.toInt.toNat) 4) 0 0 0 [(y7.toInt.toNat / 64 % 4)] = (x126.toInt, x141.toInt) := by
              have q := bst_one (b := (y7.toInt.toNat / 64 % 4)) (k := 0) (show bst (nuJ σ (a1.toInt.toNat) 4) 0 0 0 [] = (0, 0) from rfl) rfl
              rw [if_pos (by decide), show 0 + (nuJ σ (a1.toInt.toNat) 4) (y7.toInt.toNat / 64 % 4) = x126.toInt by omega, ← h134, ← h144] at q
              exact q
            clear h134 h144
            obtain ⟨x149, ex149⟩ : ∃ y : Int32, y = 0 + 1 := ⟨_, rfl⟩
            have b150 : IV x149 1 1 := by rw [ex149]; decide
            have tx149 : x149.toInt = 1 := by rw [ex149]; decide
            obtain rfl : x149 = 1 := by rw [ex149]; decide
            refine m_iinc (v := 1) (L1 := [some (.ref (G.1 22 0)), some (.int a1), some (.int 4), some (.int a3), some (.int 256), some (.int y5), some (.int y6), some (.int y7), some (.int x111), some (.int 64), some (.int x126), some (.int x141), some (.int 1), some (.int x107)]) C dX12_bells_243 rfl (by decide) (by decide) rfl rfl ?_
            refine m_goto (tgt := 161) C dX12_bells_246 (by decide) ?_
            refine m_iload C dX12_bells_161 rfl ?_
            refine m_iload_n C dX12_bells_163 rfl rfl ?_
            refine m_icmp_ge (tgt := 249) C dX12_bells_164 (by decide) (fun c151 => ?_) (fun c151 => ?_)
            · first | exact absurd c151 (by decide) | exact absurd (by decide) c151
            · have f153 : 1 < 4 := by
                have q : _ := c151
                simp only [ti_nle, ti_nlt, ti_le, ti_lt, ti_eq, ti_ne, Classical.not_not, kt_1, kt_4] at q
                omega
              refine m_iload C dX12_bells_167 rfl ?_
              refine m_iload_n C dX12_bells_169 rfl rfl ?_
              refine m_idiv C dX12_bells_170 (iv_nz kc_4 (by decide)) ?_
              refine m_topi (fun x154 ex154 => ?_)
              have b155 : IV x154 16 16 := by rw [ex154]; decide
              have tx154 : x154.toInt = 16 := by rw [ex154]; decide
              obtain rfl : x154 = 16 := by rw [ex154]; decide
              refine m_istore (L1 := [some (.ref (G.1 22 0)), some (.int a1), some (.int 4), some (.int a3), some (.int 256), some (.int y5), some (.int y6), some (.int y7), some (.int x111), some (.int 16), some (.int x126), some (.int x141), some (.int 1), some (.int x107)]) C dX12_bells_171 (by decide) rfl rfl ?_
              refine m_iload C dX12_bells_173 rfl ?_
              refine m_iload C dX12_bells_175 rfl ?_
              refine m_idiv C dX12_bells_177 (iv_nz kc_16 (by decide)) ?_
              refine m_topi (fun x156 ex156 => ?_)
              have b157 : IV x156 0 15 := by rw [ex156]; exact iv_div b99 kc_16 (by decide)
              have tx156 : x156.toInt = y7.toInt / 16 := by rw [ex156]; exact ti_divc b99 kc_16 (by decide)
              refine m_iload_n C dX12_bells_178 rfl rfl ?_
              refine m_irem C dX12_bells_179 (iv_nz kc_4 (by decide)) ?_
              refine m_topi (fun x158 ex158 => ?_)
              have b159 : IV x158 0 3 := by rw [ex158]; exact iv_rem b157 kc_4 (by decide)
              have tx158 : x158.toInt = x156.toInt % 4 := by rw [ex158]; exact ti_rem b157 kc_4 (by decide)
              refine m_istore (L1 := [some (.ref (G.1 22 0)), some (.int a1), some (.int 4), some (.int a3), some (.int 256), some (.int y5), some (.int y6), some (.int y7), some (.int x111), some (.int 16), some (.int x126), some (.int x141), some (.int 1), some (.int x158)]) C dX12_bells_180 (by decide) rfl rfl ?_
              refine m_iload C dX12_bells_182 rfl ?_
              refine m_iconst (v := 1) C dX12_bells_184 (by decide) ?_
              refine m_iload C dX12_bells_185 rfl ?_
              refine m_ishl C dX12_bells_187 ?_
              refine m_topi (fun x160 ex160 => ?_)
              have b161 : IV x160 1 8 := by rw [ex160]; exact iv_shl1 b159 (by decide)
              refine m_ior C dX12_bells_188 ?_
              refine m_topi (fun x162 ex162 => ?_)
              have b163 : IV x162 0 15 := by rw [ex162]; exact iv_or 4 b112 b161 (by decide)
              refine m_istore (L1 := [some (.ref (G.1 22 0)), some (.int a1), some (.int 4), some (.int a3), some (.int 256), some (.int y5), some (.int y6), some (.int y7), some (.int x162), some (.int 16), some (.int x126), some (.int x141), some (.int 1), some (.int x158)]) C dX12_bells_189 (by decide) rfl rfl ?_
              refine m_iload C dX12_bells_191 rfl ?_
              refine m_iload C dX12_bells_193 rfl ?_
              refine m_iconst (v := 2) C dX12_bells_195 (by decide) ?_
              refine m_irem C dX12_bells_196 (iv_nz kc_2 (by decide)) ?_
              refine m_topi (fun x164 ex164 => ?_)
              have b165 : IV x164 1 1 := by rw [ex164]; decide
              have tx164 : x164.toInt = 1 := by rw [ex164]; decide
              obtain rfl : x164 = 1 := by rw [ex164]; decide
              refine m_if_ne (tgt := 215) C dX12_bells_197 (by decide) (fun c166 => ?_) (fun c166 => ?_)
              · have f167 : 1 ≠ 0 := by
                  have q : _ := c166
                  simp only [ti_nle, ti_nlt, ti_le, ti_lt, ti_eq, ti_ne, Classical.not_not, kt_1, kt_0] at q
                  omega
                refine m_aload_n C dX12_bells_215 rfl rfl ?_
                refine g_22_2 C q4_118 dX12_bells_216 ?_
                refine m_bipush (v := 40) C dX12_bells_219 (by decide) ?_
                refine m_iload_n C dX12_bells_221 rfl rfl ?_
                refine m_imul C dX12_bells_222 ?_
                refine m_topi (fun x168 ex168 => ?_)
                have tx168 : x168.toInt = 40 * a1.toInt := by rw [ex168, ti_mulv kc_40 b_a1 (by decide), kt_40]
                have b169 : IV x168 0 280 := by rw [ex168]; exact iv_mul kc_40 b_a1 (by decide)
                refine m_iload C dX12_bells_223 rfl ?_
                refine m_iadd C dX12_bells_225 ?_
                refine m_topi (fun x170 ex170 => ?_)
                have tx170 : x170.toInt = x168.toInt + x158.toInt := by rw [ex170, ti_addv b169 b159 (by decide)]
                have b171 : IV x170 0 283 := by rw [ex170]; exact iv_add b169 b159 (by decide)
                refine al_25 C b171 (by decide) rfl dX12_bells_226 ?_
                refine m_topi (fun x172 ex172 => ?_)
                have q173 : (nuJ σ (a1.toInt.toNat) 4) (y7.toInt.toNat / 16 % 4) = x172.toInt := by unfold nuJ; rw [if_pos (by omega), show 40 * (a1.toInt.toNat) + (y7.toInt.toNat / 16 % 4) = (x170.toInt.toNat) by omega, ← (g143).1 25 0 (x170.toInt.toNat) (by simp) (by decide), show gV τ138 25 0 (x170.toInt.toNat) = x172 from ex172.symm]
                have q175 := hν (y7.toInt.toNat / 16 % 4)
                have b174 : IV x172 0 20 := ⟨by omega, by omega⟩
                refine m_ineg C dX12_bells_227 ?_
                refine m_topi (fun x176 ex176 => ?_)
                have q178 : x176.toInt = -x172.toInt := by rw [ex176]; exact ti_negv b174 (by decide)
                have b177 : IV x176 (-20) 0 := ⟨by omega, by omega⟩
                refine m_iadd C dX12_bells_228 ?_
                refine m_topi (fun x179 ex179 => ?_)
                have tx179 : x179.toInt = x126.toInt + x176.toInt := by rw [ex179, ti_addv b127 b177 (by decide)]
                have b180 : IV x179 (-20) 20 := by rw [ex179]; exact iv_add b127 b177 (by decide)
                refine m_istore (L1 := [some (.ref (G.1 22 0)), some (.int a1), some (.int 4), some (.int a3), some (.int 256), some (.int y5), some (.int y6), some (.int y7), some (.int x162), some (.int 16), some (.int x179), some (.int x141), some (.int 1), some (.int x158)]) C dX12_bells_229 (by decide) rfl rfl ?_
                refine m_iload C dX12_bells_231 rfl ?_
                refine m_iload C dX12_bells_233 rfl ?_
                refine m_callS (n := 1) (st := [.int x141]) C (c_X12_sizeOfB l G τ138 (x179) i139 (iv_wk b180 (by decide))) q5_96 q5_94 q5_95 q1_7 (by decide +kernel) rfl (by decide) (by decide) rfl (Nat.le_of_ble_eq_true rfl) dX12_bells_235 ?_
                rintro _ τ181 ⟨x184, rfl, i182, f183, b185, h187⟩
                have g186 : Fr MS_X12_bells_4Z AS_X12_bells_4Z σ τ181 := Fr.call (g143) f183 (by decide)
                have q188 : (gV τ181 26 0 (a1.toInt.toNat)).toInt = (gV τ 26 0 (a1.toInt.toNat)).toInt := congrArg Int32.toInt (show (gV τ181 26 0 (a1.toInt.toNat)) = (gV τ 26 0 (a1.toInt.toNat)) from (show gV τ181 26 0 (a1.toInt.toNat) = (gV τ 26 0 (a1.toInt.toNat)) from (f183.1 26 0 ((a1.toInt.toNat)) (by simp) (by decide)).trans (show gV τ138 26 0 (a1.toInt.toNat) = (gV τ 26 0 (a1.toInt.toNat)) from (f140.1 26 0 ((a1.toInt.toNat)) (by simp) (by decide)).trans (show gV τ128 26 0 (a1.toInt.toNat) = (gV τ 26 0 (a1.toInt.toNat)) from (f130.1 26 0 ((a1.toInt.toNat)) (by simp) (by decide)).trans rfl))))
                have q189 : (gV τ181 27 0 (a1.toInt.toNat)).toInt = (gV τ 27 0 (a1.toInt.toNat)).toInt := congrArg Int32.toInt (show (gV τ181 27 0 (a1.toInt.toNat)) = (gV τ 27 0 (a1.toInt.toNat)) from (show gV τ181 27 0 (a1.toInt.toNat) = (gV τ 27 0 (a1.toInt.toNat)) from (f183.1 27 0 ((a1.toInt.toNat)) (by simp) (by decide)).trans (show gV τ138 27 0 (a1.toInt.toNat) = (gV τ 27 0 (a1.toInt.toNat)) from (f140.1 27 0 ((a1.toInt.toNat)) (by simp) (by decide)).trans (show gV τ128 27 0 (a1.toInt.toNat) = (gV τ 27 0 (a1.toInt.toNat)) from (f130.1 27 0 ((a1.toInt.toNat)) (by simp) (by decide)).trans rfl))))
                show MW p l e _ s m args below meth c _ 14 G 0 0 238 [some (.ref (G.1 22 0)), some (.int a1), some (.int 4), some (.int a3), some (.int 256), some (.int y5), some (.int y6), some (.int y7), some (.int x162), some (.int 16), some (.int x179), some (.int x141), some (.int 1), some (.int x158)] [.int x184, .int x141] τ181
                refine m_callS (n := 2) (st := []) C (c_X12_greaterB l G τ181 (x141) (x184) i182 ) q5_99 q5_97 q5_98 q1_7 (by decide +kernel) rfl (by decide) (by decide) rfl (Nat.le_of_ble_eq_true rfl) dX12_bells_238 ?_
                rintro _ τ190 ⟨x193, rfl, i191, f192, b194, h196⟩
                have g195 : Fr MS_X12_bells_4Z AS_X12_bells_4Z σ τ190 := Fr.call (g186) f192 (by decide)
                have q197 : (gV τ190 26 0 (a1.toInt.toNat)).toInt = (gV τ 26 0 (a1.toInt.toNat)).toInt := congrArg Int32.toInt (show (gV τ190 26 0 (a1.toInt.toNat)) = (gV τ 26 0 (a1.toInt.toNat)) from (show gV τ190 26 0 (a1.toInt.toNat) = (gV τ 26 0 (a1.toInt.toNat)) from (f192.1 26 0 ((a1.toInt.toNat)) (by simp) (by decide)).trans (show gV τ181 26 0 (a1.toInt.toNat) = (gV τ 26 0 (a1.toInt.toNat)) from (f183.1 26 0 ((a1.toInt.toNat)) (by simp) (by decide)).trans (show gV τ138 26 0 (a1.toInt.toNat) = (gV τ 26 0 (a1.toInt.toNat)) from (f140.1 26 0 ((a1.toInt.toNat)) (by simp) (by decide)).trans (show gV τ128 26 0 (a1.toInt.toNat) = (gV τ 26 0 (a1.toInt.toNat)) from (f130.1 26 0 ((a1.toInt.toNat)) (by simp) (by decide)).trans rfl)))))
                have q198 : (gV τ190 27 0 (a1.toInt.toNat)).toInt = (gV τ 27 0 (a1.toInt.toNat)).toInt := congrArg Int32.toInt (show (gV τ190 27 0 (a1.toInt.toNat)) = (gV τ 27 0 (a1.toInt.toNat)) from (show gV τ190 27 0 (a1.toInt.toNat) = (gV τ 27 0 (a1.toInt.toNat)) from (f192.1 27 0 ((a1.toInt.toNat)) (by simp) (by decide)).trans (show gV τ181 27 0 (a1.toInt.toNat) = (gV τ 27 0 (a1.toInt.toNat)) from (f183.1 27 0 ((a1.toInt.toNat)) (by simp) (by decide)).trans (show gV τ138 27 0 (a1.toInt.toNat) = (gV τ 27 0 (a1.toInt.toNat)) from (f140.1 27 0 ((a1.toInt.toNat)) (by simp) (by decide)).trans (show gV τ128 27 0 (a1.toInt.toNat) = (gV τ 27 0 (a1.toInt.toNat)) from (f130.1 27 0 ((a1.toInt.toNat)) (by simp) (by decide)).trans rfl)))))
                show MW p l e _ s m args below meth c _ 14 G 0 0 241 [some (.ref (G.1 22 0)), some (.int a1), some (.int 4), some (.int a3), some (.int 256), some (.int y5), some (.int y6), some (.int y7), some (.int x162), some (.int 16), some (.int x179), some (.int x141), some (.int 1), some (.int x158)] [.int x193] τ190
                refine m_istore (L1 := [some (.ref (G.1 22 0)), some (.int a1), some (.int 4), some (.int a3), some (.int 256), some (.int y5), some (.int y6), some (.int y7), some (.int x162), some (.int 16), some (.int x179), some (.int x193), some (.int 1), some (.int x158)]) C dX12_bells_241 (by decide) rfl rfl ?_
                have q200 : x158 = nI (y7.toInt.toNat / 16 % 4) := nI_of_ti (by omega) (by omega)
                have h199 : bst (nuJ σ (a1.toInt.toNat) 4) 0 0 0 [(y7.toInt.toNat / 64 % 4), (y7.toInt.toNat / 16 % 4)] = (x179.toInt, x193.toInt) := by
                  have q := bst_one (b := (y7.toInt.toNat / 16 % 4)) (k := 1) (h147) rfl
                  rw [if_neg (by decide), show x126.toInt - (nuJ σ (a1.toInt.toNat) 4) (y7.toInt.toNat / 16 % 4) = x179.toInt by omega, ← h187, ← h196] at q
                  exact q
                clear h187 h196
                clear h147
                obtain ⟨x201, ex201⟩ : ∃ y : Int32, y = 1 + 1 := ⟨_, rfl⟩
                have b202 : IV x201 2 2 := by rw [ex201]; decide
                have tx201 : x201.toInt = 2 := by rw [ex201]; decide
                obtain rfl : x201 = 2 := by rw [ex201]; decide
                refine m_iinc (v := 2) (L1 := [some (.ref (G.1 22 0)), some (.int a1), some (.int 4), some (.int a3), some (.int 256), some (.int y5), some (.int y6), some (.int y7), some (.int x162), some (.int 16), some (.int x179), some (.int x193), some (.int 2), some (.int x158)]) C dX12_bells_243 rfl (by decide) (by decide) rfl rfl ?_
                refine m_goto (tgt := 161) C dX12_bells_246 (by decide) ?_
                refine m_iload C dX12_bells_161 rfl ?_
                refine m_iload_n C dX12_bells_163 rfl rfl ?_
                refine m_icmp_ge (tgt := 249) C dX12_bells_164 (by decide) (fun c203 => ?_) (fun c203 => ?_)
                · first | exact absurd c203 (by decide) | exact absurd (by decide) c203
                · have f205 : 2 < 4 := by
                    have q : _ := c203
                    simp only [ti_nle, ti_nlt, ti_le, ti_lt, ti_eq, ti_ne, Classical.not_not, kt_2, kt_4] at q
                    omega
                  refine m_iload C dX12_bells_167 rfl ?_
                  refine m_iload_n C dX12_bells_169 rfl rfl ?_
                  refine m_idiv C dX12_bells_170 (iv_nz kc_4 (by decide)) ?_
                  refine m_topi (fun x206 ex206 => ?_)
                  have b207 : IV x206 4 4 := by rw [ex206]; decide
                  have tx206 : x206.toInt = 4 := by rw [ex206]; decide
                  obtain rfl : x206 = 4 := by rw [ex206]; decide
                  refine m_istore (L1 := [some (.ref (G.1 22 0)), some (.int a1), some (.int 4), some (.int a3), some (.int 256), some (.int y5), some (.int y6), some (.int y7), some (.int x162), some (.int 4), some (.int x179), some (.int x193), some (.int 2), some (.int x158)]) C dX12_bells_171 (by decide) rfl rfl ?_
                  refine m_iload C dX12_bells_173 rfl ?_
                  refine m_iload C dX12_bells_175 rfl ?_
                  refine m_idiv C dX12_bells_177 (iv_nz kc_4 (by decide)) ?_
                  refine m_topi (fun x208 ex208 => ?_)
                  have b209 : IV x208 0 63 := by rw [ex208]; exact iv_div b99 kc_4 (by decide)
                  have tx208 : x208.toInt = y7.toInt / 4 := by rw [ex208]; exact ti_divc b99 kc_4 (by decide)
                  refine m_iload_n C dX12_bells_178 rfl rfl ?_
                  refine m_irem C dX12_bells_179 (iv_nz kc_4 (by decide)) ?_
                  refine m_topi (fun x210 ex210 => ?_)
                  have b211 : IV x210 0 3 := by rw [ex210]; exact iv_rem b209 kc_4 (by decide)
                  have tx210 : x210.toInt = x208.toInt % 4 := by rw [ex210]; exact ti_rem b209 kc_4 (by decide)
                  refine m_istore (L1 := [some (.ref (G.1 22 0)), some (.int a1), some (.int 4), some (.int a3), some (.int 256), some (.int y5), some (.int y6), some (.int y7), some (.int x162), some (.int 4), some (.int x179), some (.int x193), some (.int 2), some (.int x210)]) C dX12_bells_180 (by decide) rfl rfl ?_
                  refine m_iload C dX12_bells_182 rfl ?_
                  refine m_iconst (v := 1) C dX12_bells_184 (by decide) ?_
                  refine m_iload C dX12_bells_185 rfl ?_
                  refine m_ishl C dX12_bells_187 ?_
                  refine m_topi (fun x212 ex212 => ?_)
                  have b213 : IV x212 1 8 := by rw [ex212]; exact iv_shl1 b211 (by decide)
                  refine m_ior C dX12_bells_188 ?_
                  refine m_topi (fun x214 ex214 => ?_)
                  have b215 : IV x214 0 15 := by rw [ex214]; exact iv_or 4 b163 b213 (by decide)
                  refine m_istore (L1 := [some (.ref (G.1 22 0)), some (.int a1), some (.int 4), some (.int a3), some (.int 256), some (.int y5), some (.int y6), some (.int y7), some (.int x214), some (.int 4), some (.int x179), some (.int x193), some (.int 2), some (.int x210)]) C dX12_bells_189 (by decide) rfl rfl ?_
                  refine m_iload C dX12_bells_191 rfl ?_
                  refine m_iload C dX12_bells_193 rfl ?_
                  refine m_iconst (v := 2) C dX12_bells_195 (by decide) ?_
                  refine m_irem C dX12_bells_196 (iv_nz kc_2 (by decide)) ?_
                  refine m_topi (fun x216 ex216 => ?_)
                  have b217 : IV x216 0 0 := by rw [ex216]; decide
                  have tx216 : x216.toInt = 0 := by rw [ex216]; decide
                  obtain rfl : x216 = 0 := by rw [ex216]; decide
                  refine m_if_ne (tgt := 215) C dX12_bells_197 (by decide) (fun c218 => ?_) (fun c218 => ?_)
                  · first | exact absurd c218 (by decide) | exact absurd (by decide) c218
                  · have f220 : 0 = 0 := by
                      have q : _ := c218
                      simp only [ti_nle, ti_nlt, ti_le, ti_lt, ti_eq, ti_ne, Classical.not_not, kt_0, kt_0] at q
                      omega
                    refine m_aload_n C dX12_bells_200 rfl rfl ?_
                    refine g_22_2 C q4_118 dX12_bells_201 ?_
                    refine m_bipush (v := 40) C dX12_bells_204 (by decide) ?_
                    refine m_iload_n C dX12_bells_206 rfl rfl ?_
                    refine m_imul C dX12_bells_207 ?_
                    refine m_topi (fun x221 ex221 => ?_)
                    have tx221 : x221.toInt = 40 * a1.toInt := by rw [ex221, ti_mulv kc_40 b_a1 (by decide), kt_40]
                    have b222 : IV x221 0 280 := by rw [ex221]; exact iv_mul kc_40 b_a1 (by decide)
                    refine m_iload C dX12_bells_208 rfl ?_
                    refine m_iadd C dX12_bells_210 ?_
                    refine m_topi (fun x223 ex223 => ?_)
                    have tx223 : x223.toInt = x221.toInt + x210.toInt := by rw [ex223, ti_addv b222 b211 (by decide)]
                    have b224 : IV x223 0 283 := by rw [ex223]; exact iv_add b222 b211 (by decide)
                    refine al_25 C b224 (by decide) rfl dX12_bells_211 ?_
                    refine m_topi (fun x225 ex225 => ?_)
                    have q226 : (nuJ σ (a1.toInt.toNat) 4) (y7.toInt.toNat / 4 % 4) = x225.toInt := by unfold nuJ; rw [if_pos (by omega), show 40 * (a1.toInt.toNat) + (y7.toInt.toNat / 4 % 4) = (x223.toInt.toNat) by omega, ← (g195).1 25 0 (x223.toInt.toNat) (by simp) (by decide), show gV τ190 25 0 (x223.toInt.toNat) = x225 from ex225.symm]
                    have q228 := hν (y7.toInt.toNat / 4 % 4)
                    have b227 : IV x225 0 20 := ⟨by omega, by omega⟩
                    refine m_goto (tgt := 228) C dX12_bells_212 (by decide) ?_
                    refine m_iadd C dX12_bells_228 ?_
                    refine m_topi (fun x229 ex229 => ?_)
                    have tx229 : x229.toInt = x179.toInt + x225.toInt := by rw [ex229, ti_addv b180 b227 (by decide)]
                    have b230 : IV x229 (-20) 40 := by rw [ex229]; exact iv_add b180 b227 (by decide)
                    refine m_istore (L1 := [some (.ref (G.1 22 0)), some (.int a1), some (.int 4), some (.int a3), some (.int 256), some (.int y5), some (.int y6), some (.int y7), some (.int x214), some (.int 4), some (.int x229), some (.int x193), some (.int 2), some (.int x210)]) C dX12_bells_229 (by decide) rfl rfl ?_
                    refine m_iload C dX12_bells_231 rfl ?_
                    refine m_iload C dX12_bells_233 rfl ?_
                    refine m_callS (n := 1) (st := [.int x193]) C (c_X12_sizeOfB l G τ190 (x229) i191 (iv_wk b230 (by decide))) q5_96 q5_94 q5_95 q1_7 (by decide +kernel) rfl (by decide) (by decide) rfl (Nat.le_of_ble_eq_true rfl) dX12_bells_235 ?_
                    rintro _ τ231 ⟨x234, rfl, i232, f233, b235, h237⟩
                    have g236 : Fr MS_X12_bells_4Z AS_X12_bells_4Z σ τ231 := Fr.call (g195) f233 (by decide)
                    have q238 : (gV τ231 26 0 (a1.toInt.toNat)).toInt = (gV τ 26 0 (a1.toInt.toNat)).toInt := congrArg Int32.toInt (show (gV τ231 26 0 (a1.toInt.toNat)) = (gV τ 26 0 (a1.toInt.toNat)) from (show gV τ231 26 0 (a1.toInt.toNat) = (gV τ 26 0 (a1.toInt.toNat)) from (f233.1 26 0 ((a1.toInt.toNat)) (by simp) (by decide)).trans (show gV τ190 26 0 (a1.toInt.toNat) = (gV τ 26 0 (a1.toInt.toNat)) from (f192.1 26 0 ((a1.toInt.toNat)) (by simp) (by decide)).trans (show gV τ181 26 0 (a1.toInt.toNat) = (gV τ 26 0 (a1.toInt.toNat)) from (f183.1 26 0 ((a1.toInt.toNat)) (by simp) (by decide)).trans (show gV τ138 26 0 (a1.toInt.toNat) = (gV τ 26 0 (a1.toInt.toNat)) from (f140.1 26 0 ((a1.toInt.toNat)) (by simp) (by decide)).trans (show gV τ128 26 0 (a1.toInt.toNat) = (gV τ 26 0 (a1.toInt.toNat)) from (f130.1 26 0 ((a1.toInt.toNat)) (by simp) (by decide)).trans rfl))))))
                    have q239 : (gV τ231 27 0 (a1.toInt.toNat)).toInt = (gV τ 27 0 (a1.toInt.toNat)).toInt := congrArg Int32.toInt (show (gV τ231 27 0 (a1.toInt.toNat)) = (gV τ 27 0 (a1.toInt.toNat)) from (show gV τ231 27 0 (a1.toInt.toNat) = (gV τ 27 0 (a1.toInt.toNat)) from (f233.1 27 0 ((a1.toInt.toNat)) (by simp) (by decide)).trans (show gV τ190 27 0 (a1.toInt.toNat) = (gV τ 27 0 (a1.toInt.toNat)) from (f192.1 27 0 ((a1.toInt.toNat)) (by simp) (by decide)).trans (show gV τ181 27 0 (a1.toInt.toNat) = (gV τ 27 0 (a1.toInt.toNat)) from (f183.1 27 0 ((a1.toInt.toNat)) (by simp) (by decide)).trans (show gV τ138 27 0 (a1.toInt.toNat) = (gV τ 27 0 (a1.toInt.toNat)) from (f140.1 27 0 ((a1.toInt.toNat)) (by simp) (by decide)).trans (show gV τ128 27 0 (a1.toInt.toNat) = (gV τ 27 0 (a1.toInt.toNat)) from (f130.1 27 0 ((a1.toInt.toNat)) (by simp) (by decide)).trans rfl))))))
                    show MW p l e _ s m args below meth c _ 14 G 0 0 238 [some (.ref (G.1 22 0)), some (.int a1), some (.int 4), some (.int a3), some (.int 256), some (.int y5), some (.int y6), some (.int y7), some (.int x214), some (.int 4), some (.int x229), some (.int x193), some (.int 2), some (.int x210)] [.int x234, .int x193] τ231
                    refine m_callS (n := 2) (st := []) C (c_X12_greaterB l G τ231 (x193) (x234) i232 ) q5_99 q5_97 q5_98 q1_7 (by decide +kernel) rfl (by decide) (by decide) rfl (Nat.le_of_ble_eq_true rfl) dX12_bells_238 ?_
                    rintro _ τ240 ⟨x243, rfl, i241, f242, b244, h246⟩
                    have g245 : Fr MS_X12_bells_4Z AS_X12_bells_4Z σ τ240 := Fr.call (g236) f242 (by decide)
                    have q247 : (gV τ240 26 0 (a1.toInt.toNat)).toInt = (gV τ 26 0 (a1.toInt.toNat)).toInt := congrArg Int32.toInt (show (gV τ240 26 0 (a1.toInt.toNat)) = (gV τ 26 0 (a1.toInt.toNat)) from (show gV τ240 26 0 (a1.toInt.toNat) = (gV τ 26 0 (a1.toInt.toNat)) from (f242.1 26 0 ((a1.toInt.toNat)) (by simp) (by decide)).trans (show gV τ231 26 0 (a1.toInt.toNat) = (gV τ 26 0 (a1.toInt.toNat)) from (f233.1 26 0 ((a1.toInt.toNat)) (by simp) (by decide)).trans (show gV τ190 26 0 (a1.toInt.toNat) = (gV τ 26 0 (a1.toInt.toNat)) from (f192.1 26 0 ((a1.toInt.toNat)) (by simp) (by decide)).trans (show gV τ181 26 0 (a1.toInt.toNat) = (gV τ 26 0 (a1.toInt.toNat)) from (f183.1 26 0 ((a1.toInt.toNat)) (by simp) (by decide)).trans (show gV τ138 26 0 (a1.toInt.toNat) = (gV τ 26 0 (a1.toInt.toNat)) from (f140.1 26 0 ((a1.toInt.toNat)) (by simp) (by decide)).trans (show gV τ128 26 0 (a1.toInt.toNat) = (gV τ 26 0 (a1.toInt.toNat)) from (f130.1 26 0 ((a1.toInt.toNat)) (by simp) (by decide)).trans rfl)))))))
                    have q248 : (gV τ240 27 0 (a1.toInt.toNat)).toInt = (gV τ 27 0 (a1.toInt.toNat)).toInt := congrArg Int32.toInt (show (gV τ240 27 0 (a1.toInt.toNat)) = (gV τ 27 0 (a1.toInt.toNat)) from (show gV τ240 27 0 (a1.toInt.toNat) = (gV τ 27 0 (a1.toInt.toNat)) from (f242.1 27 0 ((a1.toInt.toNat)) (by simp) (by decide)).trans (show gV τ231 27 0 (a1.toInt.toNat) = (gV τ 27 0 (a1.toInt.toNat)) from (f233.1 27 0 ((a1.toInt.toNat)) (by simp) (by decide)).trans (show gV τ190 27 0 (a1.toInt.toNat) = (gV τ 27 0 (a1.toInt.toNat)) from (f192.1 27 0 ((a1.toInt.toNat)) (by simp) (by decide)).trans (show gV τ181 27 0 (a1.toInt.toNat) = (gV τ 27 0 (a1.toInt.toNat)) from (f183.1 27 0 ((a1.toInt.toNat)) (by simp) (by decide)).trans (show gV τ138 27 0 (a1.toInt.toNat) = (gV τ 27 0 (a1.toInt.toNat)) from (f140.1 27 0 ((a1.toInt.toNat)) (by simp) (by decide)).trans (show gV τ128 27 0 (a1.toInt.toNat) = (gV τ 27 0 (a1.toInt.toNat)) from (f130.1 27 0 ((a1.toInt.toNat)) (by simp) (by decide)).trans rfl)))))))
                    show MW p l e _ s m args below meth c _ 14 G 0 0 241 [some (.ref (G.1 22 0)), some (.int a1), some (.int 4), some (.int a3), some (.int 256), some (.int y5), some (.int y6), some (.int y7), some (.int x214), some (.int 4), some (.int x229), some (.int x193), some (.int 2), some (.int x210)] [.int x243] τ240
                    refine m_istore (L1 := [some (.ref (G.1 22 0)), some (.int a1), some (.int 4), some (.int a3), some (.int 256), some (.int y5), some (.int y6), some (.int y7), some (.int x214), some (.int 4), some (.int x229), some (.int x243), some (.int 2), some (.int x210)]) C dX12_bells_241 (by decide) rfl rfl ?_
                    have q250 : x210 = nI (y7.toInt.toNat / 4 % 4) := nI_of_ti (by omega) (by omega)
                    have h249 : bst (nuJ σ (a1.toInt.toNat) 4) 0 0 0 [(y7.toInt.toNat / 64 % 4), (y7.toInt.toNat / 16 % 4), (y7.toInt.toNat / 4 % 4)] = (x229.toInt, x243.toInt) := by
                      have q := bst_one (b := (y7.toInt.toNat / 4 % 4)) (k := 2) (h199) rfl
                      rw [if_pos (by decide), show x179.toInt + (nuJ σ (a1.toInt.toNat) 4) (y7.toInt.toNat / 4 % 4) = x229.toInt by omega, ← h237, ← h246] at q
                      exact q
                    clear h237 h246
                    clear h199
                    obtain ⟨x251, ex251⟩ : ∃ y : Int32, y = 2 + 1 := ⟨_, rfl⟩
                    have b252 : IV x251 3 3 := by rw [ex251]; decide
                    have tx251 : x251.toInt = 3 := by rw [ex251]; decide
                    obtain rfl : x251 = 3 := by rw [ex251]; decide
                    refine m_iinc (v := 3) (L1 := [some (.ref (G.1 22 0)), some (.int a1), some (.int 4), some (.int a3), some (.int 256), some (.int y5), some (.int y6), some (.int y7), some (.int x214), some (.int 4), some (.int x229), some (.int x243), some (.int 3), some (.int x210)]) C dX12_bells_243 rfl (by decide) (by decide) rfl rfl ?_
                    refine m_goto (tgt := 161) C dX12_bells_246 (by decide) ?_
                    refine m_iload C dX12_bells_161 rfl ?_
                    refine m_iload_n C dX12_bells_163 rfl rfl ?_
                    refine m_icmp_ge (tgt := 249) C dX12_bells_164 (by decide) (fun c253 => ?_) (fun c253 => ?_)
                    · first | exact absurd c253 (by decide) | exact absurd (by decide) c253
                    · have f255 : 3 < 4 := by
                        have q : _ := c253
                        simp only [ti_nle, ti_nlt, ti_le, ti_lt, ti_eq, ti_ne, Classical.not_not, kt_3, kt_4] at q
                        omega
                      refine m_iload C dX12_bells_167 rfl ?_
                      refine m_iload_n C dX12_bells_169 rfl rfl ?_
                      refine m_idiv C dX12_bells_170 (iv_nz kc_4 (by decide)) ?_
                      refine m_topi (fun x256 ex256 => ?_)
                      have b257 : IV x256 1 1 := by rw [ex256]; decide
                      have tx256 : x256.toInt = 1 := by rw [ex256]; decide
                      obtain rfl : x256 = 1 := by rw [ex256]; decide
                      refine m_istore (L1 := [some (.ref (G.1 22 0)), some (.int a1), some (.int 4), some (.int a3), some (.int 256), some (.int y5), some (.int y6), some (.int y7), some (.int x214), some (.int 1), some (.int x229), some (.int x243), some (.int 3), some (.int x210)]) C dX12_bells_171 (by decide) rfl rfl ?_
                      refine m_iload C dX12_bells_173 rfl ?_
                      refine m_iload C dX12_bells_175 rfl ?_
                      refine m_idiv C dX12_bells_177 (iv_nz kc_1 (by decide)) ?_
                      refine m_topi (fun x258 ex258 => ?_)
                      have b259 : IV x258 0 255 := by rw [ex258]; exact iv_div b99 kc_1 (by decide)
                      have tx258 : x258.toInt = y7.toInt / 1 := by rw [ex258]; exact ti_divc b99 kc_1 (by decide)
                      refine m_iload_n C dX12_bells_178 rfl rfl ?_
                      refine m_irem C dX12_bells_179 (iv_nz kc_4 (by decide)) ?_
                      refine m_topi (fun x260 ex260 => ?_)
                      have b261 : IV x260 0 3 := by rw [ex260]; exact iv_rem b259 kc_4 (by decide)
                      have tx260 : x260.toInt = x258.toInt % 4 := by rw [ex260]; exact ti_rem b259 kc_4 (by decide)
                      refine m_istore (L1 := [some (.ref (G.1 22 0)), some (.int a1), some (.int 4), some (.int a3), some (.int 256), some (.int y5), some (.int y6), some (.int y7), some (.int x214), some (.int 1), some (.int x229), some (.int x243), some (.int 3), some (.int x260)]) C dX12_bells_180 (by decide) rfl rfl ?_
                      refine m_iload C dX12_bells_182 rfl ?_
                      refine m_iconst (v := 1) C dX12_bells_184 (by decide) ?_
                      refine m_iload C dX12_bells_185 rfl ?_
                      refine m_ishl C dX12_bells_187 ?_
                      refine m_topi (fun x262 ex262 => ?_)
                      have b263 : IV x262 1 8 := by rw [ex262]; exact iv_shl1 b261 (by decide)
                      refine m_ior C dX12_bells_188 ?_
                      refine m_topi (fun x264 ex264 => ?_)
                      have b265 : IV x264 0 15 := by rw [ex264]; exact iv_or 4 b215 b263 (by decide)
                      refine m_istore (L1 := [some (.ref (G.1 22 0)), some (.int a1), some (.int 4), some (.int a3), some (.int 256), some (.int y5), some (.int y6), some (.int y7), some (.int x264), some (.int 1), some (.int x229), some (.int x243), some (.int 3), some (.int x260)]) C dX12_bells_189 (by decide) rfl rfl ?_
                      refine m_iload C dX12_bells_191 rfl ?_
                      refine m_iload C dX12_bells_193 rfl ?_
                      refine m_iconst (v := 2) C dX12_bells_195 (by decide) ?_
                      refine m_irem C dX12_bells_196 (iv_nz kc_2 (by decide)) ?_
                      refine m_topi (fun x266 ex266 => ?_)
                      have b267 : IV x266 1 1 := by rw [ex266]; decide
                      have tx266 : x266.toInt = 1 := by rw [ex266]; decide
                      obtain rfl : x266 = 1 := by rw [ex266]; decide
                      refine m_if_ne (tgt := 215) C dX12_bells_197 (by decide) (fun c268 => ?_) (fun c268 => ?_)
                      · have f269 : 1 ≠ 0 := by
                          have q : _ := c268
                          simp only [ti_nle, ti_nlt, ti_le, ti_lt, ti_eq, ti_ne, Classical.not_not, kt_1, kt_0] at q
                          omega
                        refine m_aload_n C dX12_bells_215 rfl rfl ?_
                        refine g_22_2 C q4_118 dX12_bells_216 ?_
                        refine m_bipush (v := 40) C dX12_bells_219 (by decide) ?_
                        refine m_iload_n C dX12_bells_221 rfl rfl ?_
                        refine m_imul C dX12_bells_222 ?_
                        refine m_topi (fun x270 ex270 => ?_)
                        have tx270 : x270.toInt = 40 * a1.toInt := by rw [ex270, ti_mulv kc_40 b_a1 (by decide), kt_40]
                        have b271 : IV x270 0 280 := by rw [ex270]; exact iv_mul kc_40 b_a1 (by decide)
                        refine m_iload C dX12_bells_223 rfl ?_
                        refine m_iadd C dX12_bells_225 ?_
                        refine m_topi (fun x272 ex272 => ?_)
                        have tx272 : x272.toInt = x270.toInt + x260.toInt := by rw [ex272, ti_addv b271 b261 (by decide)]
                        have b273 : IV x272 0 283 := by rw [ex272]; exact iv_add b271 b261 (by decide)
                        refine al_25 C b273 (by decide) rfl dX12_bells_226 ?_
                        refine m_topi (fun x274 ex274 => ?_)
                        have q275 : (nuJ σ (a1.toInt.toNat) 4) (y7.toInt.toNat / 1 % 4) = x274.toInt := by unfold nuJ; rw [if_pos (by omega), show 40 * (a1.toInt.toNat) + (y7.toInt.toNat / 1 % 4) = (x272.toInt.toNat) by omega, ← (g245).1 25 0 (x272.toInt.toNat) (by simp) (by decide), show gV τ240 25 0 (x272.toInt.toNat) = x274 from ex274.symm]
                        have q277 := hν (y7.toInt.toNat / 1 % 4)
                        have b276 : IV x274 0 20 := ⟨by omega, by omega⟩
                        refine m_ineg C dX12_bells_227 ?_
                        refine m_topi (fun x278 ex278 => ?_)
                        have q280 : x278.toInt = -x274.toInt := by rw [ex278]; exact ti_negv b276 (by decide)
                        have b279 : IV x278 (-20) 0 := ⟨by omega, by omega⟩
                        refine m_iadd C dX12_bells_228 ?_
                        refine m_topi (fun x281 ex281 => ?_)
                        have tx281 : x281.toInt = x229.toInt + x278.toInt := by rw [ex281, ti_addv b230 b279 (by decide)]
                        have b282 : IV x281 (-40) 40 := by rw [ex281]; exact iv_add b230 b279 (by decide)
                        refine m_istore (L1 := [some (.ref (G.1 22 0)), some (.int a1), some (.int 4), some (.int a3), some (.int 256), some (.int y5), some (.int y6), some (.int y7), some (.int x264), some (.int 1), some (.int x281), some (.int x243), some (.int 3), some (.int x260)]) C dX12_bells_229 (by decide) rfl rfl ?_
                        refine m_iload C dX12_bells_231 rfl ?_
                        refine m_iload C dX12_bells_233 rfl ?_
                        refine m_callS (n := 1) (st := [.int x243]) C (c_X12_sizeOfB l G τ240 (x281) i241 (iv_wk b282 (by decide))) q5_96 q5_94 q5_95 q1_7 (by decide +kernel) rfl (by decide) (by decide) rfl (Nat.le_of_ble_eq_true rfl) dX12_bells_235 ?_
                        rintro _ τ283 ⟨x286, rfl, i284, f285, b287, h289⟩
                        have g288 : Fr MS_X12_bells_4Z AS_X12_bells_4Z σ τ283 := Fr.call (g245) f285 (by decide)
                        have q290 : (gV τ283 26 0 (a1.toInt.toNat)).toInt = (gV τ 26 0 (a1.toInt.toNat)).toInt := congrArg Int32.toInt (show (gV τ283 26 0 (a1.toInt.toNat)) = (gV τ 26 0 (a1.toInt.toNat)) from (show gV τ283 26 0 (a1.toInt.toNat) = (gV τ 26 0 (a1.toInt.toNat)) from (f285.1 26 0 ((a1.toInt.toNat)) (by simp) (by decide)).trans (show gV τ240 26 0 (a1.toInt.toNat) = (gV τ 26 0 (a1.toInt.toNat)) from (f242.1 26 0 ((a1.toInt.toNat)) (by simp) (by decide)).trans (show gV τ231 26 0 (a1.toInt.toNat) = (gV τ 26 0 (a1.toInt.toNat)) from (f233.1 26 0 ((a1.toInt.toNat)) (by simp) (by decide)).trans (show gV τ190 26 0 (a1.toInt.toNat) = (gV τ 26 0 (a1.toInt.toNat)) from (f192.1 26 0 ((a1.toInt.toNat)) (by simp) (by decide)).trans (show gV τ181 26 0 (a1.toInt.toNat) = (gV τ 26 0 (a1.toInt.toNat)) from (f183.1 26 0 ((a1.toInt.toNat)) (by simp) (by decide)).trans (show gV τ138 26 0 (a1.toInt.toNat) = (gV τ 26 0 (a1.toInt.toNat)) from (f140.1 26 0 ((a1.toInt.toNat)) (by simp) (by decide)).trans (show gV τ128 26 0 (a1.toInt.toNat) = (gV τ 26 0 (a1.toInt.toNat)) from (f130.1 26 0 ((a1.toInt.toNat)) (by simp) (by decide)).trans rfl))))))))
                        have q291 : (gV τ283 27 0 (a1.toInt.toNat)).toInt = (gV τ 27 0 (a1.toInt.toNat)).toInt := congrArg Int32.toInt (show (gV τ283 27 0 (a1.toInt.toNat)) = (gV τ 27 0 (a1.toInt.toNat)) from (show gV τ283 27 0 (a1.toInt.toNat) = (gV τ 27 0 (a1.toInt.toNat)) from (f285.1 27 0 ((a1.toInt.toNat)) (by simp) (by decide)).trans (show gV τ240 27 0 (a1.toInt.toNat) = (gV τ 27 0 (a1.toInt.toNat)) from (f242.1 27 0 ((a1.toInt.toNat)) (by simp) (by decide)).trans (show gV τ231 27 0 (a1.toInt.toNat) = (gV τ 27 0 (a1.toInt.toNat)) from (f233.1 27 0 ((a1.toInt.toNat)) (by simp) (by decide)).trans (show gV τ190 27 0 (a1.toInt.toNat) = (gV τ 27 0 (a1.toInt.toNat)) from (f192.1 27 0 ((a1.toInt.toNat)) (by simp) (by decide)).trans (show gV τ181 27 0 (a1.toInt.toNat) = (gV τ 27 0 (a1.toInt.toNat)) from (f183.1 27 0 ((a1.toInt.toNat)) (by simp) (by decide)).trans (show gV τ138 27 0 (a1.toInt.toNat) = (gV τ 27 0 (a1.toInt.toNat)) from (f140.1 27 0 ((a1.toInt.toNat)) (by simp) (by decide)).trans (show gV τ128 27 0 (a1.toInt.toNat) = (gV τ 27 0 (a1.toInt.toNat)) from (f130.1 27 0 ((a1.toInt.toNat)) (by simp) (by decide)).trans rfl))))))))
                        show MW p l e _ s m args below meth c _ 14 G 0 0 238 [some (.ref (G.1 22 0)), some (.int a1), some (.int 4), some (.int a3), some (.int 256), some (.int y5), some (.int y6), some (.int y7), some (.int x264), some (.int 1), some (.int x281), some (.int x243), some (.int 3), some (.int x260)] [.int x286, .int x243] τ283
                        refine m_callS (n := 2) (st := []) C (c_X12_greaterB l G τ283 (x243) (x286) i284 ) q5_99 q5_97 q5_98 q1_7 (by decide +kernel) rfl (by decide) (by decide) rfl (Nat.le_of_ble_eq_true rfl) dX12_bells_238 ?_
                        rintro _ τ292 ⟨x295, rfl, i293, f294, b296, h298⟩
                        have g297 : Fr MS_X12_bells_4Z AS_X12_bells_4Z σ τ292 := Fr.call (g288) f294 (by decide)
                        have q299 : (gV τ292 26 0 (a1.toInt.toNat)).toInt = (gV τ 26 0 (a1.toInt.toNat)).toInt := congrArg Int32.toInt (show (gV τ292 26 0 (a1.toInt.toNat)) = (gV τ 26 0 (a1.toInt.toNat)) from (show gV τ292 26 0 (a1.toInt.toNat) = (gV τ 26 0 (a1.toInt.toNat)) from (f294.1 26 0 ((a1.toInt.toNat)) (by simp) (by decide)).trans (show gV τ283 26 0 (a1.toInt.toNat) = (gV τ 26 0 (a1.toInt.toNat)) from (f285.1 26 0 ((a1.toInt.toNat)) (by simp) (by decide)).trans (show gV τ240 26 0 (a1.toInt.toNat) = (gV τ 26 0 (a1.toInt.toNat)) from (f242.1 26 0 ((a1.toInt.toNat)) (by simp) (by decide)).trans (show gV τ231 26 0 (a1.toInt.toNat) = (gV τ 26 0 (a1.toInt.toNat)) from (f233.1 26 0 ((a1.toInt.toNat)) (by simp) (by decide)).trans (show gV τ190 26 0 (a1.toInt.toNat) = (gV τ 26 0 (a1.toInt.toNat)) from (f192.1 26 0 ((a1.toInt.toNat)) (by simp) (by decide)).trans (show gV τ181 26 0 (a1.toInt.toNat) = (gV τ 26 0 (a1.toInt.toNat)) from (f183.1 26 0 ((a1.toInt.toNat)) (by simp) (by decide)).trans (show gV τ138 26 0 (a1.toInt.toNat) = (gV τ 26 0 (a1.toInt.toNat)) from (f140.1 26 0 ((a1.toInt.toNat)) (by simp) (by decide)).trans (show gV τ128 26 0 (a1.toInt.toNat) = (gV τ 26 0 (a1.toInt.toNat)) from (f130.1 26 0 ((a1.toInt.toNat)) (by simp) (by decide)).trans rfl)))))))))
                        have q300 : (gV τ292 27 0 (a1.toInt.toNat)).toInt = (gV τ 27 0 (a1.toInt.toNat)).toInt := congrArg Int32.toInt (show (gV τ292 27 0 (a1.toInt.toNat)) = (gV τ 27 0 (a1.toInt.toNat)) from (show gV τ292 27 0 (a1.toInt.toNat) = (gV τ 27 0 (a1.toInt.toNat)) from (f294.1 27 0 ((a1.toInt.toNat)) (by simp) (by decide)).trans (show gV τ283 27 0 (a1.toInt.toNat) = (gV τ 27 0 (a1.toInt.toNat)) from (f285.1 27 0 ((a1.toInt.toNat)) (by simp) (by decide)).trans (show gV τ240 27 0 (a1.toInt.toNat) = (gV τ 27 0 (a1.toInt.toNat)) from (f242.1 27 0 ((a1.toInt.toNat)) (by simp) (by decide)).trans (show gV τ231 27 0 (a1.toInt.toNat) = (gV τ 27 0 (a1.toInt.toNat)) from (f233.1 27 0 ((a1.toInt.toNat)) (by simp) (by decide)).trans (show gV τ190 27 0 (a1.toInt.toNat) = (gV τ 27 0 (a1.toInt.toNat)) from (f192.1 27 0 ((a1.toInt.toNat)) (by simp) (by decide)).trans (show gV τ181 27 0 (a1.toInt.toNat) = (gV τ 27 0 (a1.toInt.toNat)) from (f183.1 27 0 ((a1.toInt.toNat)) (by simp) (by decide)).trans (show gV τ138 27 0 (a1.toInt.toNat) = (gV τ 27 0 (a1.toInt.toNat)) from (f140.1 27 0 ((a1.toInt.toNat)) (by simp) (by decide)).trans (show gV τ128 27 0 (a1.toInt.toNat) = (gV τ 27 0 (a1.toInt.toNat)) from (f130.1 27 0 ((a1.toInt.toNat)) (by simp) (by decide)).trans rfl)))))))))
                        show MW p l e _ s m args below meth c _ 14 G 0 0 241 [some (.ref (G.1 22 0)), some (.int a1), some (.int 4), some (.int a3), some (.int 256), some (.int y5), some (.int y6), some (.int y7), some (.int x264), some (.int 1), some (.int x281), some (.int x243), some (.int 3), some (.int x260)] [.int x295] τ292
                        refine m_istore (L1 := [some (.ref (G.1 22 0)), some (.int a1), some (.int 4), some (.int a3), some (.int 256), some (.int y5), some (.int y6), some (.int y7), some (.int x264), some (.int 1), some (.int x281), some (.int x295), some (.int 3), some (.int x260)]) C dX12_bells_241 (by decide) rfl rfl ?_
                        have q302 : x260 = nI (y7.toInt.toNat / 1 % 4) := nI_of_ti (by omega) (by omega)
                        have h301 : bst (nuJ σ (a1.toInt.toNat) 4) 0 0 0 [(y7.toInt.toNat / 64 % 4), (y7.toInt.toNat / 16 % 4), (y7.toInt.toNat / 4 % 4), (y7.toInt.toNat / 1 % 4)] = (x281.toInt, x295.toInt) := by
                          have q := bst_one (b := (y7.toInt.toNat / 1 % 4)) (k := 3) (h249) rfl
                          rw [if_neg (by decide), show x229.toInt - (nuJ σ (a1.toInt.toNat) 4) (y7.toInt.toNat / 1 % 4) = x281.toInt by omega, ← h289, ← h298] at q
                          exact q
                        clear h289 h298
                        clear h249
                        obtain ⟨x303, ex303⟩ : ∃ y : Int32, y = 3 + 1 := ⟨_, rfl⟩
                        have b304 : IV x303 4 4 := by rw [ex303]; decide
                        have tx303 : x303.toInt = 4 := by rw [ex303]; decide
                        obtain rfl : x303 = 4 := by rw [ex303]; decide
                        refine m_iinc (v := 4) (L1 := [some (.ref (G.1 22 0)), some (.int a1), some (.int 4), some (.int a3), some (.int 256), some (.int y5), some (.int y6), some (.int y7), some (.int x264), some (.int 1), some (.int x281), some (.int x295), some (.int 4), some (.int x260)]) C dX12_bells_243 rfl (by decide) (by decide) rfl rfl ?_
                        refine m_goto (tgt := 161) C dX12_bells_246 (by decide) ?_
                        refine m_iload C dX12_bells_161 rfl ?_
                        refine m_iload_n C dX12_bells_163 rfl rfl ?_
                        refine m_icmp_ge (tgt := 249) C dX12_bells_164 (by decide) (fun c305 => ?_) (fun c305 => ?_)
                        · have f306 : 4 ≤ 4 := by
                            have q : _ := c305
                            simp only [ti_nle, ti_nlt, ti_le, ti_lt, ti_eq, ti_ne, Classical.not_not, kt_4, kt_4] at q
                            omega
                          have h307u : x264 = usedX 4 y7.toInt.toNat := by rw [ex264, ex262, ex214, ex212, ex162, ex160, ex111, ex109, q148, q200, q250, q302]; rfl
                          have h307 := used_all 4 (by decide) (by decide) y7.toInt.toNat (by omega)
                          rw [← h307u] at h307
                          have h308 : x295.toInt = bcost (nuJ σ (a1.toInt.toNat) 4) (bdg 4 y7.toInt.toNat) := (bcost_of (show bst (nuJ σ (a1.toInt.toNat) 4) 0 0 0 (bdg 4 y7.toInt.toNat) = _ from h301)).symm
                          refine m_iload C dX12_bells_249 rfl ?_
                          refine m_iconst (v := 1) C dX12_bells_251 (by decide) ?_
                          refine m_iload_n C dX12_bells_252 rfl rfl ?_
                          refine m_ishl C dX12_bells_253 ?_
                          refine m_topi (fun x309 ex309 => ?_)
                          have b310 : IV x309 16 16 := by rw [ex309]; decide
                          have tx309 : x309.toInt = 16 := by rw [ex309]; decide
                          obtain rfl : x309 = 16 := by rw [ex309]; decide
                          refine m_iconst (v := 1) C dX12_bells_254 (by decide) ?_
                          refine m_isub C dX12_bells_255 ?_
                          refine m_topi (fun x311 ex311 => ?_)
                          have b312 : IV x311 15 15 := by rw [ex311]; decide
                          have tx311 : x311.toInt = 15 := by rw [ex311]; decide
                          obtain rfl : x311 = 15 := by rw [ex311]; decide
                          refine m_icmp_ne (tgt := 279) C dX12_bells_256 (by decide) (fun c313 => ?_) (fun c313 => ?_)
                          · have f314 : x264.toInt ≠ 15 := by
                              have q : _ := c313
                              simp only [ti_nle, ti_nlt, ti_le, ti_lt, ti_eq, ti_ne, Classical.not_not, kt_15] at q
                              omega
                            have b315 : IV x264 0 14 := ⟨by have q1 := b265; have q2 := kc_15; omega, by have q1 := b265; have q2 := kc_15; omega⟩
                            have q316 : ¬ x264 = nI (2 ^ 4 - 1) := fun g => by have g2 := congrArg Int32.toInt g; rw [show (nI (2 ^ 4 - 1)).toInt = 15 by decide] at g2; omega
                            obtain ⟨x317, ex317⟩ : ∃ y : Int32, y = y7 + 1 := ⟨_, rfl⟩
                            have tx317 : x317.toInt = y7.toInt + 1 := by rw [ex317, ti_addv b99 kc_1 (by decide), kt_1]
                            have b318 : IV x317 1 256 := by rw [ex317]; exact iv_add b99 kc_1 (by decide)
                            refine m_iinc (v := x317) (L1 := [some (.ref (G.1 22 0)), some (.int a1), some (.int 4), some (.int a3), some (.int 256), some (.int y5), some (.int y6), some (.int x317), some (.int x264), some (.int 1), some (.int x281), some (.int x295), some (.int 4), some (.int x260)]) C dX12_bells_279 rfl (by rw [ex317]; rfl) (by decide) rfl rfl ?_
                            refine m_goto (tgt := 138) C dX12_bells_282 (by decide) ?_
                            refine m_sub (L1 := [some (.ref (G.1 22 0)), some (.int a1), some (.int 4), some (.int a3), some (.int 256), some (.int y5), some (.int y6), some (.int x317), none, none, none, none, none, none]) ⟨rfl, ⟨rfl, ⟨rfl, ⟨rfl, ⟨rfl, ⟨rfl, ⟨rfl, ⟨rfl, trivial⟩⟩⟩⟩⟩⟩⟩⟩ ?_
                            exact ih138 τ292 y5 y6 x317 i293 g297 b_a1 b_a3 b_y5 b_y6 (iv_wk b318 (by decide)) (by omega) nL (nB.no (fun g => q316 (h307.mpr g)) (by omega)) (by have q := hm138; omega)
                          · have f319 : x264.toInt = 15 := by
                              have q : _ := c313
                              simp only [ti_nle, ti_nlt, ti_le, ti_lt, ti_eq, ti_ne, Classical.not_not, kt_15] at q
                              omega
                            have b320 : IV x264 15 15 := ⟨by have q1 := b265; have q2 := kc_15; omega, by have q1 := b265; have q2 := kc_15; omega⟩
                            have q321 : x264 = nI (2 ^ 4 - 1) := Int32.toInt_inj.mp (by rw [show (nI (2 ^ 4 - 1)).toInt = 15 by decide]; omega)
                            refine m_iload C dX12_bells_259 rfl ?_
                            refine m_if_lt (tgt := 271) C dX12_bells_261 (by decide) (fun c322 => ?_) (fun c322 => ?_)
                            · have f323 : y5.toInt < 0 := by
                                have q : _ := c322
                                simp only [ti_nle, ti_nlt, ti_le, ti_lt, ti_eq, ti_ne, Classical.not_not, kt_0] at q
                                omega
                              have b324 : IV y5 (-1) (-1) := ⟨by have q1 := b_y5; have q2 := kc_0; omega, by have q1 := b_y5; have q2 := kc_0; omega⟩
                              refine m_iload C dX12_bells_271 rfl ?_
                              refine m_istore (L1 := [some (.ref (G.1 22 0)), some (.int a1), some (.int 4), some (.int a3), some (.int 256), some (.int y7), some (.int y6), some (.int y7), some (.int x264), some (.int 1), some (.int x281), some (.int x295), some (.int 4), some (.int x260)]) C dX12_bells_273 (by decide) rfl rfl ?_
                              refine m_iload C dX12_bells_275 rfl ?_
                              refine m_istore (L1 := [some (.ref (G.1 22 0)), some (.int a1), some (.int 4), some (.int a3), some (.int 256), some (.int y7), some (.int x295), some (.int y7), some (.int x264), some (.int 1), some (.int x281), some (.int x295), some (.int 4), some (.int x260)]) C dX12_bells_277 (by decide) rfl rfl ?_
                              obtain ⟨x325, ex325⟩ : ∃ y : Int32, y = y7 + 1 := ⟨_, rfl⟩
                              have tx325 : x325.toInt = y7.toInt + 1 := by rw [ex325, ti_addv b99 kc_1 (by decide), kt_1]
                              have b326 : IV x325 1 256 := by rw [ex325]; exact iv_add b99 kc_1 (by decide)
                              refine m_iinc (v := x325) (L1 := [some (.ref (G.1 22 0)), some (.int a1), some (.int 4), some (.int a3), some (.int 256), some (.int y7), some (.int x295), some (.int x325), some (.int x264), some (.int 1), some (.int x281), some (.int x295), some (.int 4), some (.int x260)]) C dX12_bells_279 rfl (by rw [ex325]; rfl) (by decide) rfl rfl ?_
                              refine m_goto (tgt := 138) C dX12_bells_282 (by decide) ?_
                              refine m_sub (L1 := [some (.ref (G.1 22 0)), some (.int a1), some (.int 4), some (.int a3), some (.int 256), some (.int y7), some (.int x295), some (.int x325), none, none, none, none, none, none]) ⟨rfl, ⟨rfl, ⟨rfl, ⟨rfl, ⟨rfl, ⟨rfl, ⟨rfl, ⟨rfl, trivial⟩⟩⟩⟩⟩⟩⟩⟩ ?_
                              exact ih138 τ292 y7 x295 x325 i293 g297 b_a1 b_a3 (iv_wk b99 (by decide)) b296 (iv_wk b326 (by decide)) (by omega) nL (BRL.new (m := x295) nB hν (by decide) (by omega) (h307.mp q321) (by omega) h308 (by omega)) (by have q := hm138; omega)
                            · have f327 : 0 ≤ y5.toInt := by
                                have q : _ := c322
                                simp only [ti_nle, ti_nlt, ti_le, ti_lt, ti_eq, ti_ne, Classical.not_not, kt_0] at q
                                omega
                              have b328 : IV y5 0 256 := ⟨by have q1 := kc_0; have q2 := b_y5; omega, by have q1 := kc_0; have q2 := b_y5; omega⟩
                              refine m_iload C dX12_bells_264 rfl ?_
                              refine m_iload C dX12_bells_266 rfl ?_
                              refine m_icmp_ge (tgt := 279) C dX12_bells_268 (by decide) (fun c329 => ?_) (fun c329 => ?_)
                              · have f330 : y6.toInt ≤ x295.toInt := by
                                  have q : _ := c329
                                  simp only [ti_nle, ti_nlt, ti_le, ti_lt, ti_eq, ti_ne, Classical.not_not] at q
                                  omega
                                obtain ⟨x331, ex331⟩ : ∃ y : Int32, y = y7 + 1 := ⟨_, rfl⟩
                                have tx331 : x331.toInt = y7.toInt + 1 := by rw [ex331, ti_addv b99 kc_1 (by decide), kt_1]
                                have b332 : IV x331 1 256 := by rw [ex331]; exact iv_add b99 kc_1 (by decide)
                                refine m_iinc (v := x331) (L1 := [some (.ref (G.1 22 0)), some (.int a1), some (.int 4), some (.int a3), some (.int 256), some (.int y5), some (.int y6), some (.int x331), some (.int x264), some (.int 1), some (.int x281), some (.int x295), some (.int 4), some (.int x260)]) C dX12_bells_279 rfl (by rw [ex331]; rfl) (by decide) rfl rfl ?_
                                refine m_goto (tgt := 138) C dX12_bells_282 (by decide) ?_
                                refine m_sub (L1 := [some (.ref (G.1 22 0)), some (.int a1), some (.int 4), some (.int a3), some (.int 256), some (.int y5), some (.int y6), some (.int x331), none, none, none, none, none, none]) ⟨rfl, ⟨rfl, ⟨rfl, ⟨rfl, ⟨rfl, ⟨rfl, ⟨rfl, ⟨rfl, trivial⟩⟩⟩⟩⟩⟩⟩⟩ ?_
                                exact ih138 τ292 y5 y6 x331 i293 g297 b_a1 b_a3 (iv_wk b328 (by decide)) b_y6 (iv_wk b332 (by decide)) (by omega) nL (BRL.stay (m := x295) nB (h307.mp q321) (by omega) h308 (by omega) (by omega)) (by have q := hm138; omega)
                              · have f333 : x295.toInt < y6.toInt := by
                                  have q : _ := c329
                                  simp only [ti_nle, ti_nlt, ti_le, ti_lt, ti_eq, ti_ne, Classical.not_not] at q
                                  omega
                                have b334 : IV x295 (-2147483648) 2147483646 := ⟨by have q1 := b296; have q2 := b_y6; omega, by have q1 := b296; have q2 := b_y6; omega⟩
                                have b335 : IV y6 (-2147483647) 2147483647 := ⟨by have q1 := b296; have q2 := b_y6; omega, by have q1 := b296; have q2 := b_y6; omega⟩
                                refine m_iload C dX12_bells_271 rfl ?_
                                refine m_istore (L1 := [some (.ref (G.1 22 0)), some (.int a1), some (.int 4), some (.int a3), some (.int 256), some (.int y7), some (.int y6), some (.int y7), some (.int x264), some (.int 1), some (.int x281), some (.int x295), some (.int 4), some (.int x260)]) C dX12_bells_273 (by decide) rfl rfl ?_
                                refine m_iload C dX12_bells_275 rfl ?_
                                refine m_istore (L1 := [some (.ref (G.1 22 0)), some (.int a1), some (.int 4), some (.int a3), some (.int 256), some (.int y7), some (.int x295), some (.int y7), some (.int x264), some (.int 1), some (.int x281), some (.int x295), some (.int 4), some (.int x260)]) C dX12_bells_277 (by decide) rfl rfl ?_
                                obtain ⟨x336, ex336⟩ : ∃ y : Int32, y = y7 + 1 := ⟨_, rfl⟩
                                have tx336 : x336.toInt = y7.toInt + 1 := by rw [ex336, ti_addv b99 kc_1 (by decide), kt_1]
                                have b337 : IV x336 1 256 := by rw [ex336]; exact iv_add b99 kc_1 (by decide)
                                refine m_iinc (v := x336) (L1 := [some (.ref (G.1 22 0)), some (.int a1), some (.int 4), some (.int a3), some (.int 256), some (.int y7), some (.int x295), some (.int x336), some (.int x264), some (.int 1), some (.int x281), some (.int x295), some (.int 4), some (.int x260)]) C dX12_bells_279 rfl (by rw [ex336]; rfl) (by decide) rfl rfl ?_
                                refine m_goto (tgt := 138) C dX12_bells_282 (by decide) ?_
                                refine m_sub (L1 := [some (.ref (G.1 22 0)), some (.int a1), some (.int 4), some (.int a3), some (.int 256), some (.int y7), some (.int x295), some (.int x336), none, none, none, none, none, none]) ⟨rfl, ⟨rfl, ⟨rfl, ⟨rfl, ⟨rfl, ⟨rfl, ⟨rfl, ⟨rfl, trivial⟩⟩⟩⟩⟩⟩⟩⟩ ?_
                                exact ih138 τ292 y7 x295 x336 i293 g297 b_a1 b_a3 (iv_wk b99 (by decide)) (iv_wk b334 (by decide)) (iv_wk b337 (by decide)) (by omega) nL (BRL.new (m := x295) nB hν (by decide) (by omega) (h307.mp q321) (by omega) h308 (by omega)) (by have q := hm138; omega)
                        · first | exact absurd c305 (by decide) | exact absurd (by decide) c305
                      · first | exact absurd c268 (by decide) | exact absurd (by decide) c268
              · first | exact absurd c166 (by decide) | exact absurd (by decide) c166
  have J61 : ∀ (n : Nat) (τ : Sg) (y4 : Int32), Inv τ → Fr MS_X12_bells_4Z AS_X12_bells_4Z σ τ → IV a1 0 7 → IV a3 (-1) 2147483647 → IV y4 0 4 → (((0 ≤ a1.toInt ∧ a1.toInt ≤ 7) ∧ 1 ≤ (4 : Int) ∧ (4 : Int) ≤ 5 ∧ -1 ≤ a3.toInt ∧ 0 ≤ (gV σ 26 0 (a1.toInt.toNat)).toInt ∧ (4 : Int) ≤ (gV σ 27 0 (a1.toInt.toNat)).toInt)) → (AlJ σ (a1.toInt.toNat) y4.toInt 1 20) → (4 - y4.toInt).toNat < n → MW p l e { frames := 2, cells := 0, slots := 0, locals := 60 } s m args below meth c (MQ below (QP G (PI fun r τ => Inv τ ∧ Fr MS_X12_bells_4Z AS_X12_bells_4Z σ τ ∧ IV r (-2147483648) 2147483647 ∧ (((a1.toInt < 0 ∨ 7 < a1.toInt ∨ (4 : Int) < 1 ∨ 5 < (4 : Int) ∨ a3.toInt < -1) ∧ r.toInt = -1000001) ∨ (((0 ≤ a1.toInt ∧ a1.toInt ≤ 7) ∧ 1 ≤ (4 : Int) ∧ (4 : Int) ≤ 5 ∧ -1 ≤ a3.toInt) ∧ (gV σ 26 0 (a1.toInt.toNat)).toInt < 0 ∧ r.toInt = -1000011) ∨ (((0 ≤ a1.toInt ∧ a1.toInt ≤ 7) ∧ 1 ≤ (4 : Int) ∧ (4 : Int) ≤ 5 ∧ -1 ≤ a3.toInt) ∧ 0 ≤ (gV σ 26 0 (a1.toInt.toNat)).toInt ∧ (gV σ 27 0 (a1.toInt.toNat)).toInt < (4 : Int) ∧ r.toInt = -1000012) ∨ (((0 ≤ a1.toInt ∧ a1.toInt ≤ 7) ∧ 1 ≤ (4 : Int) ∧ (4 : Int) ≤ 5 ∧ -1 ≤ a3.toInt) ∧ 0 ≤ (gV σ 26 0 (a1.toInt.toNat)).toInt ∧ (4 : Int) ≤ (gV σ 27 0 (a1.toInt.toNat)).toInt ∧ ¬ AlJ σ (a1.toInt.toNat) (4 : Int) 1 20 ∧ r.toInt = -1000001) ∨ (((0 ≤ a1.toInt ∧ a1.toInt ≤ 7) ∧ 1 ≤ (4 : Int) ∧ (4 : Int) ≤ 5 ∧ -1 ≤ a3.toInt) ∧ 0 ≤ (gV σ 26 0 (a1.toInt.toNat)).toInt ∧ (4 : Int) ≤ (gV σ 27 0 (a1.toInt.toNat)).toInt ∧ AlJ σ (a1.toInt.toNat) (4 : Int) 1 20 ∧ RESB r a3 4 (bbest (nuJ σ (a1.toInt.toNat) 4) 4))))) args s 0 0 (aG G)) 14 G 0 0 61 [some (.ref (G.1 22 0)), some (.int a1), some (.int 4), some (.int a3), some (.int y4), none, none, none, none, none, none, none, none, none] [] τ := by
    intro n
    induction n with
    | zero => intro τ y4 iτ fτ b_a1 b_a3 b_y4 n341 nL hm; exact absurd hm (Nat.not_lt_zero _)
    | succ n ih61 =>
      intro τ y4 iτ fτ b_a1 b_a3 b_y4 n341 nL hm61
      have u342 : IV (gV τ 27 0 (a1.toInt.toNat)) 0 40 := iτ.1 27 0 (a1.toInt.toNat)
      refine m_iload C dX12_bells_61 rfl ?_
      refine m_iload_n C dX12_bells_63 rfl rfl ?_
      refine m_icmp_ge (tgt := 99) C dX12_bells_64 (by decide) (fun c343 => ?_) (fun c343 => ?_)
      · have f344 : 4 ≤ y4.toInt := by
          have q : _ := c343
          simp only [ti_nle, ti_nlt, ti_le, ti_lt, ti_eq, ti_ne, Classical.not_not, kt_4] at q
          omega
        have b345 : IV y4 4 4 := ⟨by have q1 := kc_4; have q2 := b_y4; omega, by have q1 := kc_4; have q2 := b_y4; omega⟩
        refine m_aload_n C dX12_bells_99 rfl rfl ?_
        refine m_iconst (v := 0) C dX12_bells_100 (by decide) ?_
        refine m_callV (n := 1) (ci := 11) (st := []) C (c_X12_fine l G τ (0) iτ ) (by decide) (by decide) rfl rfl rfl q4_201 q4_198 q4_200 q0_27 q1_7 (by decide +kernel) rfl (by decide) (by decide) rfl (Nat.le_of_ble_eq_true rfl) dX12_bells_101 ?_
        rintro _ τ346 ⟨x349, rfl, i347, f348, b350, h352⟩
        have g351 : Fr MS_X12_bells_4Z AS_X12_bells_4Z σ τ346 := Fr.call (fτ) f348 (by decide)
        have q353 : (gV τ346 26 0 (a1.toInt.toNat)).toInt = (gV τ 26 0 (a1.toInt.toNat)).toInt := congrArg Int32.toInt (show (gV τ346 26 0 (a1.toInt.toNat)) = (gV τ 26 0 (a1.toInt.toNat)) from (show gV τ346 26 0 (a1.toInt.toNat) = (gV τ 26 0 (a1.toInt.toNat)) from (f348.1 26 0 ((a1.toInt.toNat)) (by simp) (by decide)).trans rfl))
        have q354 : (gV τ346 27 0 (a1.toInt.toNat)).toInt = (gV τ 27 0 (a1.toInt.toNat)).toInt := congrArg Int32.toInt (show (gV τ346 27 0 (a1.toInt.toNat)) = (gV τ 27 0 (a1.toInt.toNat)) from (show gV τ346 27 0 (a1.toInt.toNat) = (gV τ 27 0 (a1.toInt.toNat)) from (f348.1 27 0 ((a1.toInt.toNat)) (by simp) (by decide)).trans rfl))
        have q355 := kt_0
        show MW p l e _ s m args below meth c _ 14 G 0 0 104 [some (.ref (G.1 22 0)), some (.int a1), some (.int 4), some (.int a3), some (.int y4), none, none, none, none, none, none, none, none, none] [.int x349] τ346
        refine m_pop C dX12_bells_104 rfl ?_
        refine m_iconst (v := 1) C dX12_bells_105 (by decide) ?_
        refine m_istore (L1 := [some (.ref (G.1 22 0)), some (.int a1), some (.int 4), some (.int a3), some (.int 1), none, none, none, none, none, none, none, none, none]) C dX12_bells_106 (by decide) rfl rfl ?_
        refine m_iconst (v := 0) C dX12_bells_108 (by decide) ?_
        refine m_istore (L1 := [some (.ref (G.1 22 0)), some (.int a1), some (.int 4), some (.int a3), some (.int 1), some (.int 0), none, none, none, none, none, none, none, none]) C dX12_bells_109 (by decide) rfl rfl ?_
        refine m_iload C dX12_bells_111 rfl ?_
        refine m_iload_n C dX12_bells_113 rfl rfl ?_
        refine m_icmp_ge (tgt := 129) C dX12_bells_114 (by decide) (fun c356 => ?_) (fun c356 => ?_)
        · first | exact absurd c356 (by decide) | exact absurd (by decide) c356
        · have f358 : 0 < 4 := by
            have q : _ := c356
            simp only [ti_nle, ti_nlt, ti_le, ti_lt, ti_eq, ti_ne, Classical.not_not, kt_0, kt_4] at q
            omega
          refine m_iload C dX12_bells_117 rfl ?_
          refine m_iload_n C dX12_bells_119 rfl rfl ?_
          refine m_imul C dX12_bells_120 ?_
          refine m_topi (fun x359 ex359 => ?_)
          have b360 : IV x359 4 4 := by rw [ex359]; decide
          have tx359 : x359.toInt = 4 := by rw [ex359]; decide
          obtain rfl : x359 = 4 := by rw [ex359]; decide
          refine m_istore (L1 := [some (.ref (G.1 22 0)), some (.int a1), some (.int 4), some (.int a3), some (.int 4), some (.int 0), none, none, none, none, none, none, none, none]) C dX12_bells_121 (by decide) rfl rfl ?_
          obtain ⟨x361, ex361⟩ : ∃ y : Int32, y = 0 + 1 := ⟨_, rfl⟩
          have b362 : IV x361 1 1 := by rw [ex361]; decide
          have tx361 : x361.toInt = 1 := by rw [ex361]; decide
          obtain rfl : x361 = 1 := by rw [ex361]; decide
          refine m_iinc (v := 1) (L1 := [some (.ref (G.1 22 0)), some (.int a1), some (.int 4), some (.int a3), some (.int 4), some (.int 1), none, none, none, none, none, none, none, none]) C dX12_bells_123 rfl (by decide) (by decide) rfl rfl ?_
          refine m_goto (tgt := 111) C dX12_bells_126 (by decide) ?_
          refine m_iload C dX12_bells_111 rfl ?_
          refine m_iload_n C dX12_bells_113 rfl rfl ?_
          refine m_icmp_ge (tgt := 129) C dX12_bells_114 (by decide) (fun c363 => ?_) (fun c363 => ?_)
          · first | exact absurd c363 (by decide) | exact absurd (by decide) c363
          · have f365 : 1 < 4 := by
              have q : _ := c363
              simp only [ti_nle, ti_nlt, ti_le, ti_lt, ti_eq, ti_ne, Classical.not_not, kt_1, kt_4] at q
              omega
            refine m_iload C dX12_bells_117 rfl ?_
            refine m_iload_n C dX12_bells_119 rfl rfl ?_
            refine m_imul C dX12_bells_120 ?_
            refine m_topi (fun x366 ex366 => ?_)
            have b367 : IV x366 16 16 := by rw [ex366]; decide
            have tx366 : x366.toInt = 16 := by rw [ex366]; decide
            obtain rfl : x366 = 16 := by rw [ex366]; decide
            refine m_istore (L1 := [some (.ref (G.1 22 0)), some (.int a1), some (.int 4), some (.int a3), some (.int 16), some (.int 1), none, none, none, none, none, none, none, none]) C dX12_bells_121 (by decide) rfl rfl ?_
            obtain ⟨x368, ex368⟩ : ∃ y : Int32, y = 1 + 1 := ⟨_, rfl⟩
            have b369 : IV x368 2 2 := by rw [ex368]; decide
            have tx368 : x368.toInt = 2 := by rw [ex368]; decide
            obtain rfl : x368 = 2 := by rw [ex368]; decide
            refine m_iinc (v := 2) (L1 := [some (.ref (G.1 22 0)), some (.int a1), some (.int 4), some (.int a3), some (.int 16), some (.int 2), none, none, none, none, none, none, none, none]) C dX12_bells_123 rfl (by decide) (by decide) rfl rfl ?_
            refine m_goto (tgt := 111) C dX12_bells_126 (by decide) ?_
            refine m_iload C dX12_bells_111 rfl ?_
            refine m_iload_n C dX12_bells_113 rfl rfl ?_
            refine m_icmp_ge (tgt := 129) C dX12_bells_114 (by decide) (fun c370 => ?_) (fun c370 => ?_)
            · first | exact absurd c370 (by decide) | exact absurd (by decide) c370
            · have f372 : 2 < 4 := by
                have q : _ := c370
                simp only [ti_nle, ti_nlt, ti_le, ti_lt, ti_eq, ti_ne, Classical.not_not, kt_2, kt_4] at q
                omega
              refine m_iload C dX12_bells_117 rfl ?_
              refine m_iload_n C dX12_bells_119 rfl rfl ?_
              refine m_imul C dX12_bells_120 ?_
              refine m_topi (fun x373 ex373 => ?_)
              have b374 : IV x373 64 64 := by rw [ex373]; decide
              have tx373 : x373.toInt = 64 := by rw [ex373]; decide
              obtain rfl : x373 = 64 := by rw [ex373]; decide
              refine m_istore (L1 := [some (.ref (G.1 22 0)), some (.int a1), some (.int 4), some (.int a3), some (.int 64), some (.int 2), none, none, none, none, none, none, none, none]) C dX12_bells_121 (by decide) rfl rfl ?_
              obtain ⟨x375, ex375⟩ : ∃ y : Int32, y = 2 + 1 := ⟨_, rfl⟩
              have b376 : IV x375 3 3 := by rw [ex375]; decide
              have tx375 : x375.toInt = 3 := by rw [ex375]; decide
              obtain rfl : x375 = 3 := by rw [ex375]; decide
              refine m_iinc (v := 3) (L1 := [some (.ref (G.1 22 0)), some (.int a1), some (.int 4), some (.int a3), some (.int 64), some (.int 3), none, none, none, none, none, none, none, none]) C dX12_bells_123 rfl (by decide) (by decide) rfl rfl ?_
              refine m_goto (tgt := 111) C dX12_bells_126 (by decide) ?_
              refine m_iload C dX12_bells_111 rfl ?_
              refine m_iload_n C dX12_bells_113 rfl rfl ?_
              refine m_icmp_ge (tgt := 129) C dX12_bells_114 (by decide) (fun c377 => ?_) (fun c377 => ?_)
              · first | exact absurd c377 (by decide) | exact absurd (by decide) c377
              · have f379 : 3 < 4 := by
                  have q : _ := c377
                  simp only [ti_nle, ti_nlt, ti_le, ti_lt, ti_eq, ti_ne, Classical.not_not, kt_3, kt_4] at q
                  omega
                refine m_iload C dX12_bells_117 rfl ?_
                refine m_iload_n C dX12_bells_119 rfl rfl ?_
                refine m_imul C dX12_bells_120 ?_
                refine m_topi (fun x380 ex380 => ?_)
                have b381 : IV x380 256 256 := by rw [ex380]; decide
                have tx380 : x380.toInt = 256 := by rw [ex380]; decide
                obtain rfl : x380 = 256 := by rw [ex380]; decide
                refine m_istore (L1 := [some (.ref (G.1 22 0)), some (.int a1), some (.int 4), some (.int a3), some (.int 256), some (.int 3), none, none, none, none, none, none, none, none]) C dX12_bells_121 (by decide) rfl rfl ?_
                obtain ⟨x382, ex382⟩ : ∃ y : Int32, y = 3 + 1 := ⟨_, rfl⟩
                have b383 : IV x382 4 4 := by rw [ex382]; decide
                have tx382 : x382.toInt = 4 := by rw [ex382]; decide
                obtain rfl : x382 = 4 := by rw [ex382]; decide
                refine m_iinc (v := 4) (L1 := [some (.ref (G.1 22 0)), some (.int a1), some (.int 4), some (.int a3), some (.int 256), some (.int 4), none, none, none, none, none, none, none, none]) C dX12_bells_123 rfl (by decide) (by decide) rfl rfl ?_
                refine m_goto (tgt := 111) C dX12_bells_126 (by decide) ?_
                refine m_iload C dX12_bells_111 rfl ?_
                refine m_iload_n C dX12_bells_113 rfl rfl ?_
                refine m_icmp_ge (tgt := 129) C dX12_bells_114 (by decide) (fun c384 => ?_) (fun c384 => ?_)
                · have f385 : 4 ≤ 4 := by
                    have q : _ := c384
                    simp only [ti_nle, ti_nlt, ti_le, ti_lt, ti_eq, ti_ne, Classical.not_not, kt_4, kt_4] at q
                    omega
                  refine m_iconst (v := (-1)) C dX12_bells_129 (by decide) ?_
                  refine m_istore (L1 := [some (.ref (G.1 22 0)), some (.int a1), some (.int 4), some (.int a3), some (.int 256), some (.int (-1)), none, none, none, none, none, none, none, none]) C dX12_bells_130 (by decide) rfl rfl ?_
                  refine m_iconst (v := 0) C dX12_bells_132 (by decide) ?_
                  refine m_istore (L1 := [some (.ref (G.1 22 0)), some (.int a1), some (.int 4), some (.int a3), some (.int 256), some (.int (-1)), some (.int 0), none, none, none, none, none, none, none]) C dX12_bells_133 (by decide) rfl rfl ?_
                  refine m_iconst (v := 0) C dX12_bells_135 (by decide) ?_
                  refine m_istore (L1 := [some (.ref (G.1 22 0)), some (.int a1), some (.int 4), some (.int a3), some (.int 256), some (.int (-1)), some (.int 0), some (.int 0), none, none, none, none, none, none]) C dX12_bells_136 (by decide) rfl rfl ?_
                  exact J138 ((256 - (0 : Int32).toInt).toNat + 1) τ346 (-1) 0 0 i347 g351 b_a1 b_a3 (iv_wk kc_m1 (by decide)) (iv_wk kc_0 (by decide)) (iv_wk kc_0 (by decide)) (by omega) (nL.all (by omega)) (Or.inl ⟨by have q := kt_m1; omega, rfl⟩) (Nat.lt_succ_self _)
                · first | exact absurd c384 (by decide) | exact absurd (by decide) c384
      · have f387 : y4.toInt < 4 := by
          have q : _ := c343
          simp only [ti_nle, ti_nlt, ti_le, ti_lt, ti_eq, ti_ne, Classical.not_not, kt_4] at q
          omega
        have b388 : IV y4 0 3 := ⟨by have q1 := b_y4; have q2 := kc_4; omega, by have q1 := b_y4; have q2 := kc_4; omega⟩
        refine m_aload_n C dX12_bells_67 rfl rfl ?_
        refine g_22_2 C q4_118 dX12_bells_68 ?_
        refine m_bipush (v := 40) C dX12_bells_71 (by decide) ?_
        refine m_iload_n C dX12_bells_73 rfl rfl ?_
        refine m_imul C dX12_bells_74 ?_
        refine m_topi (fun x389 ex389 => ?_)
        have tx389 : x389.toInt = 40 * a1.toInt := by rw [ex389, ti_mulv kc_40 b_a1 (by decide), kt_40]
        have b390 : IV x389 0 280 := by rw [ex389]; exact iv_mul kc_40 b_a1 (by decide)
        refine m_iload C dX12_bells_75 rfl ?_
        refine m_iadd C dX12_bells_77 ?_
        refine m_topi (fun x391 ex391 => ?_)
        have tx391 : x391.toInt = x389.toInt + y4.toInt := by rw [ex391, ti_addv b390 b388 (by decide)]
        have b392 : IV x391 0 283 := by rw [ex391]; exact iv_add b390 b388 (by decide)
        refine al_25 C b392 (by decide) rfl dX12_bells_78 ?_
        refine m_topi (fun x393 ex393 => ?_)
        have q394 : (gV σ 25 0 (40 * (a1.toInt.toNat) + y4.toInt.toNat)).toInt = x393.toInt := by rw [show 40 * (a1.toInt.toNat) + y4.toInt.toNat = (x391.toInt.toNat) by omega, ← (fτ).1 25 0 (x391.toInt.toNat) (by simp) (by decide), show gV τ 25 0 (x391.toInt.toNat) = x393 from ex393.symm]
        refine m_i2l C dX12_bells_79 ?_
        refine m_lconst (v := 1) C dX12_bells_80 (by decide) ?_
        refine m_ldc2 (v := 20) C dX12_bells_81 q5_174 ?_
        refine m_callS (n := 3) (st := []) C (c_X12_in l G τ ((x393 : Int32).toInt64) (1) (20) iτ ) q4_190 q4_188 q4_189 q1_7 (by decide +kernel) rfl (by decide) (by decide) rfl (Nat.le_of_ble_eq_true rfl) dX12_bells_84 ?_
        rintro _ τ395 ⟨x398, rfl, i396, f397, b399, h401⟩
        have g400 : Fr MS_X12_bells_4Z AS_X12_bells_4Z σ τ395 := Fr.call (fτ) f397 (by decide)
        have q402 : (gV τ395 26 0 (a1.toInt.toNat)).toInt = (gV τ 26 0 (a1.toInt.toNat)).toInt := congrArg Int32.toInt (show (gV τ395 26 0 (a1.toInt.toNat)) = (gV τ 26 0 (a1.toInt.toNat)) from (show gV τ395 26 0 (a1.toInt.toNat) = (gV τ 26 0 (a1.toInt.toNat)) from (f397.1 26 0 ((a1.toInt.toNat)) (by simp) (by decide)).trans rfl))
        have q403 : (gV τ395 27 0 (a1.toInt.toNat)).toInt = (gV τ 27 0 (a1.toInt.toNat)).toInt := congrArg Int32.toInt (show (gV τ395 27 0 (a1.toInt.toNat)) = (gV τ 27 0 (a1.toInt.toNat)) from (show gV τ395 27 0 (a1.toInt.toNat) = (gV τ 27 0 (a1.toInt.toNat)) from (f397.1 27 0 ((a1.toInt.toNat)) (by simp) (by decide)).trans rfl))
        have f404 := tl_i x393
        have f405 := kl_1
        have f406 := kl_20
        rcases h401 with ⟨h401_0, h401_1, h401_2⟩ | ⟨h401_0, h401_1⟩
        · skip
          have b407 : IV x398 1 1 := ⟨by omega, by omega⟩
          show MW p l e _ s m args below meth c _ 14 G 0 0 87 [some (.ref (G.1 22 0)), some (.int a1), some (.int 4), some (.int a3), some (.int y4), none, none, none, none, none, none, none, none, none] [.int x398] τ395
          refine m_if_ne (tgt := 93) C dX12_bells_87 (by decide) (fun c408 => ?_) (fun c408 => ?_)
          · have f409 : x398.toInt ≠ 0 := by
              have q : _ := c408
              simp only [ti_nle, ti_nlt, ti_le, ti_lt, ti_eq, ti_ne, Classical.not_not, kt_0] at q
              omega
            have b410 : IV x393 1 20 := ⟨by have q1 := (iv_any x393); omega, by have q1 := (iv_any x393); omega⟩
            obtain ⟨x411, ex411⟩ : ∃ y : Int32, y = y4 + 1 := ⟨_, rfl⟩
            have tx411 : x411.toInt = y4.toInt + 1 := by rw [ex411, ti_addv b388 kc_1 (by decide), kt_1]
            have b412 : IV x411 1 4 := by rw [ex411]; exact iv_add b388 kc_1 (by decide)
            refine m_iinc (v := x411) (L1 := [some (.ref (G.1 22 0)), some (.int a1), some (.int 4), some (.int a3), some (.int x411), none, none, none, none, none, none, none, none, none]) C dX12_bells_93 rfl (by rw [ex411]; rfl) (by decide) rfl rfl ?_
            refine m_goto (tgt := 61) C dX12_bells_96 (by decide) ?_
            exact ih61 τ395 x411 i396 g400 b_a1 b_a3 (iv_wk b412 (by decide)) (by omega) (nL.more (k := y4.toInt.toNat) (by omega) (by omega) ⟨by omega, by omega⟩) (by have q := hm61; omega)
          · exfalso
            have q : _ := c408
            simp only [ti_nle, ti_nlt, ti_le, ti_lt, ti_eq, ti_ne, Classical.not_not, kt_0] at q
            have q1 := b407; have q2 := kc_0; omega
        · skip
          have b414 : IV x398 0 0 := ⟨by omega, by omega⟩
          show MW p l e _ s m args below meth c _ 14 G 0 0 87 [some (.ref (G.1 22 0)), some (.int a1), some (.int 4), some (.int a3), some (.int y4), none, none, none, none, none, none, none, none, none] [.int x398] τ395
          refine m_if_ne (tgt := 93) C dX12_bells_87 (by decide) (fun c415 => ?_) (fun c415 => ?_)
          · exfalso
            have q : _ := c415
            simp only [ti_nle, ti_nlt, ti_le, ti_lt, ti_eq, ti_ne, Classical.not_not, kt_0] at q
            have q1 := b414; have q2 := kc_0; omega
          · have f417 : x398.toInt = 0 := by
              have q : _ := c415
              simp only [ti_nle, ti_nlt, ti_le, ti_lt, ti_eq, ti_ne, Classical.not_not, kt_0] at q
              omega
            refine m_ldc (v := (-1000001)) C dX12_bells_90 q4_192 ?_
            exact m_iret C hr hlk (by decide) (by decide) dX12_bells_92 ⟨_, rfl, i396, g400, (iv_wk kc_m1000001 (by decide)), (Or.inr (Or.inr (Or.inr (Or.inl ⟨by have qk := kt_m1000001; omega, by have qk := kt_m1000001; omega, by have qk := kt_m1000001; omega, (fun g => by have q := g y4.toInt.toNat (by omega); omega), by have qk := kt_m1000001; omega⟩))))⟩
  have u418 : IV (gV σ 27 0 (a1.toInt.toNat)) 0 40 := hI.1 27 0 (a1.toInt.toNat)
  refine m_iload_n C dX12_bells_0 rfl rfl ?_
  refine m_callS (n := 1) (st := []) C (c_X12_isRow l G σ (a1) hI ) q4_186 q4_184 q4_185 q1_7 (by decide +kernel) rfl (by decide) (by decide) rfl (Nat.le_of_ble_eq_true rfl) dX12_bells_1 ?_
  rintro _ τ419 ⟨x422, rfl, i420, f421, b423, h425⟩
  have g424 : Fr MS_X12_bells_4Z AS_X12_bells_4Z σ τ419 := Fr.call (Fr.rf) f421 (by decide)
  have q426 : (gV τ419 26 0 (a1.toInt.toNat)).toInt = (gV σ 26 0 (a1.toInt.toNat)).toInt := congrArg Int32.toInt (show (gV τ419 26 0 (a1.toInt.toNat)) = (gV σ 26 0 (a1.toInt.toNat)) from (show gV τ419 26 0 (a1.toInt.toNat) = (gV σ 26 0 (a1.toInt.toNat)) from (f421.1 26 0 ((a1.toInt.toNat)) (by simp) (by decide)).trans rfl))
  have q427 : (gV τ419 27 0 (a1.toInt.toNat)).toInt = (gV σ 27 0 (a1.toInt.toNat)).toInt := congrArg Int32.toInt (show (gV τ419 27 0 (a1.toInt.toNat)) = (gV σ 27 0 (a1.toInt.toNat)) from (show gV τ419 27 0 (a1.toInt.toNat) = (gV σ 27 0 (a1.toInt.toNat)) from (f421.1 27 0 ((a1.toInt.toNat)) (by simp) (by decide)).trans rfl))
  rcases h425 with ⟨h425_0, h425_1, h425_2⟩ | ⟨h425_0, h425_1⟩
  · skip
    have b428 : IV x422 1 1 := ⟨by omega, by omega⟩
    show MW p l e _ s m args below meth c _ 14 G 0 0 4 [some (.ref (G.1 22 0)), some (.int a1), some (.int 4), some (.int a3), none, none, none, none, none, none, none, none, none, none] [.int x422] τ419
    refine m_if_eq (tgt := 24) C dX12_bells_4 (by decide) (fun c429 => ?_) (fun c429 => ?_)
    · exfalso
      have q : _ := c429
      simp only [ti_nle, ti_nlt, ti_le, ti_lt, ti_eq, ti_ne, Classical.not_not, kt_0] at q
      have q1 := b428; have q2 := kc_0; omega
    · have f431 : x422.toInt ≠ 0 := by
        have q : _ := c429
        simp only [ti_nle, ti_nlt, ti_le, ti_lt, ti_eq, ti_ne, Classical.not_not, kt_0] at q
        omega
      have b432 : IV a1 0 7 := ⟨by have q1 := (iv_any a1); omega, by have q1 := (iv_any a1); omega⟩
      refine m_iload_n C dX12_bells_7 rfl rfl ?_
      refine m_i2l C dX12_bells_8 ?_
      refine m_lconst (v := 1) C dX12_bells_9 (by decide) ?_
      refine m_ldc2 (v := 5) C dX12_bells_10 q5_173 ?_
      refine m_callS (n := 3) (st := []) C (c_X12_in l G τ419 ((4 : Int32).toInt64) (1) (5) i420 ) q4_190 q4_188 q4_189 q1_7 (by decide +kernel) rfl (by decide) (by decide) rfl (Nat.le_of_ble_eq_true rfl) dX12_bells_13 ?_
      rintro _ τ433 ⟨x436, rfl, i434, f435, b437, h439⟩
      have g438 : Fr MS_X12_bells_4Z AS_X12_bells_4Z σ τ433 := Fr.call (g424) f435 (by decide)
      have q440 : (gV τ433 26 0 (a1.toInt.toNat)).toInt = (gV σ 26 0 (a1.toInt.toNat)).toInt := congrArg Int32.toInt (show (gV τ433 26 0 (a1.toInt.toNat)) = (gV σ 26 0 (a1.toInt.toNat)) from (show gV τ433 26 0 (a1.toInt.toNat) = (gV σ 26 0 (a1.toInt.toNat)) from (f435.1 26 0 ((a1.toInt.toNat)) (by simp) (by decide)).trans (show gV τ419 26 0 (a1.toInt.toNat) = (gV σ 26 0 (a1.toInt.toNat)) from (f421.1 26 0 ((a1.toInt.toNat)) (by simp) (by decide)).trans rfl)))
      have q441 : (gV τ433 27 0 (a1.toInt.toNat)).toInt = (gV σ 27 0 (a1.toInt.toNat)).toInt := congrArg Int32.toInt (show (gV τ433 27 0 (a1.toInt.toNat)) = (gV σ 27 0 (a1.toInt.toNat)) from (show gV τ433 27 0 (a1.toInt.toNat) = (gV σ 27 0 (a1.toInt.toNat)) from (f435.1 27 0 ((a1.toInt.toNat)) (by simp) (by decide)).trans (show gV τ419 27 0 (a1.toInt.toNat) = (gV σ 27 0 (a1.toInt.toNat)) from (f421.1 27 0 ((a1.toInt.toNat)) (by simp) (by decide)).trans rfl)))
      have f442 := tl_i 4
      have kf442 := kt_4
      have f443 := kl_1
      have f444 := kl_5
      rcases h439 with ⟨h439_0, h439_1, h439_2⟩ | ⟨h439_0, h439_1⟩
      · skip
        have b445 : IV x436 1 1 := ⟨by omega, by omega⟩
        show MW p l e _ s m args below meth c _ 14 G 0 0 16 [some (.ref (G.1 22 0)), some (.int a1), some (.int 4), some (.int a3), none, none, none, none, none, none, none, none, none, none] [.int x436] τ433
        refine m_if_eq (tgt := 24) C dX12_bells_16 (by decide) (fun c446 => ?_) (fun c446 => ?_)
        · exfalso
          have q : _ := c446
          simp only [ti_nle, ti_nlt, ti_le, ti_lt, ti_eq, ti_ne, Classical.not_not, kt_0] at q
          have q1 := b445; have q2 := kc_0; omega
        · have f448 : x436.toInt ≠ 0 := by
            have q : _ := c446
            simp only [ti_nle, ti_nlt, ti_le, ti_lt, ti_eq, ti_ne, Classical.not_not, kt_0] at q
            omega
          refine m_iload_n C dX12_bells_19 rfl rfl ?_
          refine m_iconst (v := (-1)) C dX12_bells_20 (by decide) ?_
          refine m_icmp_ge (tgt := 27) C dX12_bells_21 (by decide) (fun c449 => ?_) (fun c449 => ?_)
          · have f450 : -1 ≤ a3.toInt := by
              have q : _ := c449
              simp only [ti_nle, ti_nlt, ti_le, ti_lt, ti_eq, ti_ne, Classical.not_not, kt_m1] at q
              omega
            have b451 : IV a3 (-1) 2147483647 := ⟨by have q1 := kc_m1; have q2 := (iv_any a3); omega, by have q1 := kc_m1; have q2 := (iv_any a3); omega⟩
            refine m_aload_n C dX12_bells_27 rfl rfl ?_
            refine g_22_3 C q4_119 dX12_bells_28 ?_
            refine m_iload_n C dX12_bells_31 rfl rfl ?_
            refine al_26 C b432 (by decide) rfl dX12_bells_32 ?_
            refine m_eqs (w := (gV σ 26 0 (a1.toInt.toNat))) (show gV τ433 26 0 (a1.toInt.toNat) = (gV σ 26 0 (a1.toInt.toNat)) from (f435.1 26 0 ((a1.toInt.toNat)) (by simp) (by decide)).trans (show gV τ419 26 0 (a1.toInt.toNat) = (gV σ 26 0 (a1.toInt.toNat)) from (f421.1 26 0 ((a1.toInt.toNat)) (by simp) (by decide)).trans rfl)) ?_
            refine m_if_ge (tgt := 42) C dX12_bells_33 (by decide) (fun c452 => ?_) (fun c452 => ?_)
            · have f453 : 0 ≤ (gV σ 26 0 (a1.toInt.toNat)).toInt := by
                have q : _ := c452
                simp only [ti_nle, ti_nlt, ti_le, ti_lt, ti_eq, ti_ne, Classical.not_not, kt_0] at q
                omega
              have b454 : IV (gV σ 26 0 (a1.toInt.toNat)) 0 2147483647 := ⟨by have q1 := kc_0; have q2 := (iv_any (gV σ 26 0 (a1.toInt.toNat))); omega, by have q1 := kc_0; have q2 := (iv_any (gV σ 26 0 (a1.toInt.toNat))); omega⟩
              refine m_aload_n C dX12_bells_42 rfl rfl ?_
              refine g_22_4 C q4_120 dX12_bells_43 ?_
              refine m_iload_n C dX12_bells_46 rfl rfl ?_
              refine al_27 C b432 (by decide) rfl dX12_bells_47 ?_
              refine m_eqs (w := (gV σ 27 0 (a1.toInt.toNat))) (show gV τ433 27 0 (a1.toInt.toNat) = (gV σ 27 0 (a1.toInt.toNat)) from (f435.1 27 0 ((a1.toInt.toNat)) (by simp) (by decide)).trans (show gV τ419 27 0 (a1.toInt.toNat) = (gV σ 27 0 (a1.toInt.toNat)) from (f421.1 27 0 ((a1.toInt.toNat)) (by simp) (by decide)).trans rfl)) ?_
              refine m_iload_n C dX12_bells_48 rfl rfl ?_
              refine m_icmp_ge (tgt := 58) C dX12_bells_49 (by decide) (fun c455 => ?_) (fun c455 => ?_)
              · have f456 : 4 ≤ (gV σ 27 0 (a1.toInt.toNat)).toInt := by
                  have q : _ := c455
                  simp only [ti_nle, ti_nlt, ti_le, ti_lt, ti_eq, ti_ne, Classical.not_not, kt_4] at q
                  omega
                have b457 : IV (gV σ 27 0 (a1.toInt.toNat)) 4 40 := ⟨by have q1 := kc_4; have q2 := u418; omega, by have q1 := kc_4; have q2 := u418; omega⟩
                refine m_iconst (v := 0) C dX12_bells_58 (by decide) ?_
                refine m_istore (L1 := [some (.ref (G.1 22 0)), some (.int a1), some (.int 4), some (.int a3), some (.int 0), none, none, none, none, none, none, none, none, none]) C dX12_bells_59 (by decide) rfl rfl ?_
                exact J61 ((4 - (0 : Int32).toInt).toNat + 1) τ433 0 i434 g438 b432 b451 (iv_wk kc_0 (by decide)) (by omega) (AlJ.zero (by have q := kt_0; omega)) (Nat.lt_succ_self _)
              · have f458 : (gV σ 27 0 (a1.toInt.toNat)).toInt < 4 := by
                  have q : _ := c455
                  simp only [ti_nle, ti_nlt, ti_le, ti_lt, ti_eq, ti_ne, Classical.not_not, kt_4] at q
                  omega
                have b459 : IV (gV σ 27 0 (a1.toInt.toNat)) 0 3 := ⟨by have q1 := u418; have q2 := kc_4; omega, by have q1 := u418; have q2 := kc_4; omega⟩
                refine m_aload_n C dX12_bells_52 rfl rfl ?_
                refine m_iconst (v := 2) C dX12_bells_53 (by decide) ?_
                refine m_callV (n := 1) (ci := 11) (st := []) C (c_X12_met l G τ433 (2) i434 (iv_wk kc_2 (by decide))) (by decide) (by decide) rfl rfl rfl q4_196 q4_193 q4_195 q0_26 q1_7 (by decide +kernel) rfl (by decide) (by decide) rfl (Nat.le_of_ble_eq_true rfl) dX12_bells_54 ?_
                rintro _ τ460 ⟨x463, rfl, i461, f462, b464, h466⟩
                have g465 : Fr MS_X12_bells_4Z AS_X12_bells_4Z σ τ460 := Fr.call (g438) f462 (by decide)
                have q467 : (gV τ460 26 0 (a1.toInt.toNat)).toInt = (gV σ 26 0 (a1.toInt.toNat)).toInt := congrArg Int32.toInt (show (gV τ460 26 0 (a1.toInt.toNat)) = (gV σ 26 0 (a1.toInt.toNat)) from (show gV τ460 26 0 (a1.toInt.toNat) = (gV σ 26 0 (a1.toInt.toNat)) from (f462.1 26 0 ((a1.toInt.toNat)) (by simp) (by decide)).trans (show gV τ433 26 0 (a1.toInt.toNat) = (gV σ 26 0 (a1.toInt.toNat)) from (f435.1 26 0 ((a1.toInt.toNat)) (by simp) (by decide)).trans (show gV τ419 26 0 (a1.toInt.toNat) = (gV σ 26 0 (a1.toInt.toNat)) from (f421.1 26 0 ((a1.toInt.toNat)) (by simp) (by decide)).trans rfl))))
                have q468 : (gV τ460 27 0 (a1.toInt.toNat)).toInt = (gV σ 27 0 (a1.toInt.toNat)).toInt := congrArg Int32.toInt (show (gV τ460 27 0 (a1.toInt.toNat)) = (gV σ 27 0 (a1.toInt.toNat)) from (show gV τ460 27 0 (a1.toInt.toNat) = (gV σ 27 0 (a1.toInt.toNat)) from (f462.1 27 0 ((a1.toInt.toNat)) (by simp) (by decide)).trans (show gV τ433 27 0 (a1.toInt.toNat) = (gV σ 27 0 (a1.toInt.toNat)) from (f435.1 27 0 ((a1.toInt.toNat)) (by simp) (by decide)).trans (show gV τ419 27 0 (a1.toInt.toNat) = (gV σ 27 0 (a1.toInt.toNat)) from (f421.1 27 0 ((a1.toInt.toNat)) (by simp) (by decide)).trans rfl))))
                have q469 := kt_2
                show MW p l e _ s m args below meth c _ 14 G 0 0 57 [some (.ref (G.1 22 0)), some (.int a1), some (.int 4), some (.int a3), none, none, none, none, none, none, none, none, none, none] [.int x463] τ460
                exact m_iret C hr hlk (by decide) (by decide) dX12_bells_57 ⟨_, rfl, i461, g465, (iv_wk b464 (by decide)), (Or.inr (Or.inr (Or.inl ⟨by omega, by omega, by omega, by omega⟩)))⟩
            · have f470 : (gV σ 26 0 (a1.toInt.toNat)).toInt < 0 := by
                have q : _ := c452
                simp only [ti_nle, ti_nlt, ti_le, ti_lt, ti_eq, ti_ne, Classical.not_not, kt_0] at q
                omega
              have b471 : IV (gV σ 26 0 (a1.toInt.toNat)) (-2147483648) (-1) := ⟨by have q1 := (iv_any (gV σ 26 0 (a1.toInt.toNat))); have q2 := kc_0; omega, by have q1 := (iv_any (gV σ 26 0 (a1.toInt.toNat))); have q2 := kc_0; omega⟩
              refine m_aload_n C dX12_bells_36 rfl rfl ?_
              refine m_iconst (v := 1) C dX12_bells_37 (by decide) ?_
              refine m_callV (n := 1) (ci := 11) (st := []) C (c_X12_met l G τ433 (1) i434 (iv_wk kc_1 (by decide))) (by decide) (by decide) rfl rfl rfl q4_196 q4_193 q4_195 q0_26 q1_7 (by decide +kernel) rfl (by decide) (by decide) rfl (Nat.le_of_ble_eq_true rfl) dX12_bells_38 ?_
              rintro _ τ472 ⟨x475, rfl, i473, f474, b476, h478⟩
              have g477 : Fr MS_X12_bells_4Z AS_X12_bells_4Z σ τ472 := Fr.call (g438) f474 (by decide)
              have q479 : (gV τ472 26 0 (a1.toInt.toNat)).toInt = (gV σ 26 0 (a1.toInt.toNat)).toInt := congrArg Int32.toInt (show (gV τ472 26 0 (a1.toInt.toNat)) = (gV σ 26 0 (a1.toInt.toNat)) from (show gV τ472 26 0 (a1.toInt.toNat) = (gV σ 26 0 (a1.toInt.toNat)) from (f474.1 26 0 ((a1.toInt.toNat)) (by simp) (by decide)).trans (show gV τ433 26 0 (a1.toInt.toNat) = (gV σ 26 0 (a1.toInt.toNat)) from (f435.1 26 0 ((a1.toInt.toNat)) (by simp) (by decide)).trans (show gV τ419 26 0 (a1.toInt.toNat) = (gV σ 26 0 (a1.toInt.toNat)) from (f421.1 26 0 ((a1.toInt.toNat)) (by simp) (by decide)).trans rfl))))
              have q480 : (gV τ472 27 0 (a1.toInt.toNat)).toInt = (gV σ 27 0 (a1.toInt.toNat)).toInt := congrArg Int32.toInt (show (gV τ472 27 0 (a1.toInt.toNat)) = (gV σ 27 0 (a1.toInt.toNat)) from (show gV τ472 27 0 (a1.toInt.toNat) = (gV σ 27 0 (a1.toInt.toNat)) from (f474.1 27 0 ((a1.toInt.toNat)) (by simp) (by decide)).trans (show gV τ433 27 0 (a1.toInt.toNat) = (gV σ 27 0 (a1.toInt.toNat)) from (f435.1 27 0 ((a1.toInt.toNat)) (by simp) (by decide)).trans (show gV τ419 27 0 (a1.toInt.toNat) = (gV σ 27 0 (a1.toInt.toNat)) from (f421.1 27 0 ((a1.toInt.toNat)) (by simp) (by decide)).trans rfl))))
              have q481 := kt_1
              show MW p l e _ s m args below meth c _ 14 G 0 0 41 [some (.ref (G.1 22 0)), some (.int a1), some (.int 4), some (.int a3), none, none, none, none, none, none, none, none, none, none] [.int x475] τ472
              exact m_iret C hr hlk (by decide) (by decide) dX12_bells_41 ⟨_, rfl, i473, g477, (iv_wk b476 (by decide)), (Or.inr (Or.inl ⟨by omega, by omega, by omega⟩))⟩
          · have f482 : a3.toInt < -1 := by
              have q : _ := c449
              simp only [ti_nle, ti_nlt, ti_le, ti_lt, ti_eq, ti_ne, Classical.not_not, kt_m1] at q
              omega
            have b483 : IV a3 (-2147483648) (-2) := ⟨by have q1 := (iv_any a3); have q2 := kc_m1; omega, by have q1 := (iv_any a3); have q2 := kc_m1; omega⟩
            refine m_ldc (v := (-1000001)) C dX12_bells_24 q4_192 ?_
            exact m_iret C hr hlk (by decide) (by decide) dX12_bells_26 ⟨_, rfl, i434, g438, (iv_wk kc_m1000001 (by decide)), (Or.inl ⟨by have qk := kt_m1000001; omega, by have qk := kt_m1000001; omega⟩)⟩
      · skip
        have b484 : IV x436 0 0 := ⟨by omega, by omega⟩
        show MW p l e _ s m args below meth c _ 14 G 0 0 16 [some (.ref (G.1 22 0)), some (.int a1), some (.int 4), some (.int a3), none, none, none, none, none, none, none, none, none, none] [.int x436] τ433
        refine m_if_eq (tgt := 24) C dX12_bells_16 (by decide) (fun c485 => ?_) (fun c485 => ?_)
        · have f486 : x436.toInt = 0 := by
            have q : _ := c485
            simp only [ti_nle, ti_nlt, ti_le, ti_lt, ti_eq, ti_ne, Classical.not_not, kt_0] at q
            omega
          refine m_ldc (v := (-1000001)) C dX12_bells_24 q4_192 ?_
          exact m_iret C hr hlk (by decide) (by decide) dX12_bells_26 ⟨_, rfl, i434, g438, (iv_wk kc_m1000001 (by decide)), (Or.inl ⟨by have qk := kt_m1000001; omega, by have qk := kt_m1000001; omega⟩)⟩
        · exfalso
          have q : _ := c485
          simp only [ti_nle, ti_nlt, ti_le, ti_lt, ti_eq, ti_ne, Classical.not_not, kt_0] at q
          have q1 := b484; have q2 := kc_0; omega
  · skip
    have b488 : IV x422 0 0 := ⟨by omega, by omega⟩
    show MW p l e _ s m args below meth c _ 14 G 0 0 4 [some (.ref (G.1 22 0)), some (.int a1), some (.int 4), some (.int a3), none, none, none, none, none, none, none, none, none, none] [.int x422] τ419
    refine m_if_eq (tgt := 24) C dX12_bells_4 (by decide) (fun c489 => ?_) (fun c489 => ?_)
    · have f490 : x422.toInt = 0 := by
        have q : _ := c489
        simp only [ti_nle, ti_nlt, ti_le, ti_lt, ti_eq, ti_ne, Classical.not_not, kt_0] at q
        omega
      refine m_ldc (v := (-1000001)) C dX12_bells_24 q4_192 ?_
      exact m_iret C hr hlk (by decide) (by decide) dX12_bells_26 ⟨_, rfl, i420, g424, (iv_wk kc_m1000001 (by decide)), (Or.inl ⟨by have qk := kt_m1000001; omega, by have qk := kt_m1000001; omega⟩)⟩
    · exfalso
      have q : _ := c489
      simp only [ti_nle, ti_nlt, ti_le, ti_lt, ti_eq, ti_ne, Classical.not_not, kt_0] at q
      have q1 := b488; have q2 := kc_0; omega
