abbrev MS_X12_bells_5Z : List (Nat × Nat) := [(22, 8)]
abbrev AS_X12_bells_5Z : List Nat := []
set_option maxHeartbeats 4000000 in
set_option maxRecDepth 100000 in
theorem c_X12_bells_5Z (l : Launch) (G : Gt) (σ : Sg) (a1 : Int32) (a3 : Int32) (hI : Inv σ) : Mc l G yX12_bells cX12_bells 14 (some .int) 2 60 0 0 [.ref (G.1 22 0), .int a1, .int 5, .int a3] σ (PI fun r τ => Inv τ ∧ Fr MS_X12_bells_5Z AS_X12_bells_5Z σ τ ∧ IV r (-2147483648) 2147483647 ∧ (((a1.toInt < 0 ∨ 7 < a1.toInt ∨ (5 : Int) < 1 ∨ 5 < (5 : Int) ∨ a3.toInt < -1) ∧ r.toInt = -1000001) ∨ (((0 ≤ a1.toInt ∧ a1.toInt ≤ 7) ∧ 1 ≤ (5 : Int) ∧ (5 : Int) ≤ 5 ∧ -1 ≤ a3.toInt) ∧ (gV σ 26 0 (a1.toInt.toNat)).toInt < 0 ∧ r.toInt = -1000011) ∨ (((0 ≤ a1.toInt ∧ a1.toInt ≤ 7) ∧ 1 ≤ (5 : Int) ∧ (5 : Int) ≤ 5 ∧ -1 ≤ a3.toInt) ∧ 0 ≤ (gV σ 26 0 (a1.toInt.toNat)).toInt ∧ (gV σ 27 0 (a1.toInt.toNat)).toInt < (5 : Int) ∧ r.toInt = -1000012) ∨ (((0 ≤ a1.toInt ∧ a1.toInt ≤ 7) ∧ 1 ≤ (5 : Int) ∧ (5 : Int) ≤ 5 ∧ -1 ≤ a3.toInt) ∧ 0 ≤ (gV σ 26 0 (a1.toInt.toNat)).toInt ∧ (5 : Int) ≤ (gV σ 27 0 (a1.toInt.toNat)).toInt ∧ ¬ AlJ σ (a1.toInt.toNat) (5 : Int) 1 20 ∧ r.toInt = -1000001) ∨ (((0 ≤ a1.toInt ∧ a1.toInt ≤ 7) ∧ 1 ≤ (5 : Int) ∧ (5 : Int) ≤ 5 ∧ -1 ≤ a3.toInt) ∧ 0 ≤ (gV σ 26 0 (a1.toInt.toNat)).toInt ∧ (5 : Int) ≤ (gV σ 27 0 (a1.toInt.toNat)).toInt ∧ AlJ σ (a1.toInt.toNat) (5 : Int) 1 20 ∧ RESB r a3 5 (bbest (nuJ σ (a1.toInt.toNat) 5) 5)))) := by
  refine Mc.of (L0 := [some (.ref (G.1 22 0)), some (.int a1), some (.int 5), some (.int a3), none, none, none, none, none, none, none, none, none, none]) (by decide) (Nat.le_of_ble_eq_true rfl) rfl ?_
  intro p e s m args below meth c C hr hlk
  have C : Cx p s m args c cX12_bells 14 "LeanTowerModel" := C
  have k0 : (0 : Int32).toInt = 0 := by decide
  have k1 : (1 : Int32).toInt = 1 := by decide
  have J138 : ∀ (n : Nat) (τ : Sg) (y5 : Int32) (y6 : Int32) (y7 : Int32), Inv τ → Fr MS_X12_bells_5Z AS_X12_bells_5Z σ τ → IV a1 0 7 → IV a3 (-1) 2147483647 → IV y5 (-1) 10000 → IV y6 (-2147483648) 2147483647 → IV y7 0 3125 → (((0 ≤ a1.toInt ∧ a1.toInt ≤ 7) ∧ 1 ≤ (5 : Int) ∧ (5 : Int) ≤ 5 ∧ -1 ≤ a3.toInt ∧ 0 ≤ (gV σ 26 0 (a1.toInt.toNat)).toInt ∧ (5 : Int) ≤ (gV σ 27 0 (a1.toInt.toNat)).toInt)) → (AlJ σ (a1.toInt.toNat) (5 : Int) 1 20) → (BRL (nuJ σ (a1.toInt.toNat) 5) 5 y5 y6 (bacc (nuJ σ (a1.toInt.toNat) 5) 5 y7.toInt.toNat)) → (3125 - y7.toInt).toNat < n → MW p l e { frames := 2, cells := 0, slots := 0, locals := 60 } s m args below meth c (MQ below (QP G (PI fun r τ => Inv τ ∧ Fr MS_X12_bells_5Z AS_X12_bells_5Z σ τ ∧ IV r (-2147483648) 2147483647 ∧ (((a1.toInt < 0 ∨ 7 < a1.toInt ∨ (5 : Int) < 1 ∨ 5 < (5 : Int) ∨ a3.toInt < -1) ∧ r.toInt = -1000001) ∨ (((0 ≤ a1.toInt ∧ a1.toInt ≤ 7) ∧ 1 ≤ (5 : Int) ∧ (5 : Int) ≤ 5 ∧ -1 ≤ a3.toInt) ∧ (gV σ 26 0 (a1.toInt.toNat)).toInt < 0 ∧ r.toInt = -1000011) ∨ (((0 ≤ a1.toInt ∧ a1.toInt ≤ 7) ∧ 1 ≤ (5 : Int) ∧ (5 : Int) ≤ 5 ∧ -1 ≤ a3.toInt) ∧ 0 ≤ (gV σ 26 0 (a1.toInt.toNat)).toInt ∧ (gV σ 27 0 (a1.toInt.toNat)).toInt < (5 : Int) ∧ r.toInt = -1000012) ∨ (((0 ≤ a1.toInt ∧ a1.toInt ≤ 7) ∧ 1 ≤ (5 : Int) ∧ (5 : Int) ≤ 5 ∧ -1 ≤ a3.toInt) ∧ 0 ≤ (gV σ 26 0 (a1.toInt.toNat)).toInt ∧ (5 : Int) ≤ (gV σ 27 0 (a1.toInt.toNat)).toInt ∧ ¬ AlJ σ (a1.toInt.toNat) (5 : Int) 1 20 ∧ r.toInt = -1000001) ∨ (((0 ≤ a1.toInt ∧ a1.toInt ≤ 7) ∧ 1 ≤ (5 : Int) ∧ (5 : Int) ≤ 5 ∧ -1 ≤ a3.toInt) ∧ 0 ≤ (gV σ 26 0 (a1.toInt.toNat)).toInt ∧ (5 : Int) ≤ (gV σ 27 0 (a1.toInt.toNat)).toInt ∧ AlJ σ (a1.toInt.toNat) (5 : Int) 1 20 ∧ RESB r a3 5 (bbest (nuJ σ (a1.toInt.toNat) 5) 5))))) args s 0 0 (aG G)) 14 G 0 0 138 [some (.ref (G.1 22 0)), some (.int a1), some (.int 5), some (.int a3), some (.int 3125), some (.int y5), some (.int y6), some (.int y7), none, none, none, none, none, none] [] τ := by
    intro n
    induction n with
    | zero => intro τ y5 y6 y7 iτ fτ b_a1 b_a3 b_y5 b_y6 b_y7 n1 nL nB hm; exact absurd hm (Nat.not_lt_zero _)
    | succ n ih138 =>
      intro τ y5 y6 y7 iτ fτ b_a1 b_a3 b_y5 b_y6 b_y7 n1 nL nB hm138
      have u2 : IV (gV τ 27 0 (a1.toInt.toNat)) 0 40 := iτ.1 27 0 (a1.toInt.toNat)
      have hν := nuJ_b (n := 5) nL (by omega)
      refine m_iload C dX12_bells_138 rfl ?_
      refine m_iload C dX12_bells_140 rfl ?_
      refine m_icmp_ge (tgt := 285) C dX12_bells_142 (by decide) (fun c3 => ?_) (fun c3 => ?_)
      · have f4 : 3125 ≤ y7.toInt := by
          have q : _ := c3
          simp only [ti_nle, ti_nlt, ti_le, ti_lt, ti_eq, ti_ne, Classical.not_not, kt_3125] at q
          omega
        have b5 : IV y7 3125 3125 := ⟨by have q1 := kc_3125; have q2 := b_y7; omega, by have q1 := kc_3125; have q2 := b_y7; omega⟩
        obtain ⟨q6a, q6b, q6c⟩ := nB.fin (by rw [show y7.toInt.toNat = 3125 by omega]) hν (by decide) (by decide)
        have b7 : IV y5 0 10000 := ⟨by omega, by have q := b_y5; omega⟩
        refine m_iload_n C dX12_bells_285 rfl rfl ?_
        refine m_if_ge (tgt := 292) C dX12_bells_286 (by decide) (fun c8 => ?_) (fun c8 => ?_)
        · have f9 : 0 ≤ a3.toInt := by
            have q : _ := c8
            simp only [ti_nle, ti_nlt, ti_le, ti_lt, ti_eq, ti_ne, Classical.not_not, kt_0] at q
            omega
          have b10 : IV a3 0 2147483647 := ⟨by have q1 := kc_0; have q2 := b_a3; omega, by have q1 := kc_0; have q2 := b_a3; omega⟩
          refine m_iload C dX12_bells_292 rfl ?_
          refine m_istore (L1 := [some (.ref (G.1 22 0)), some (.int a1), some (.int 5), some (.int a3), some (.int 3125), some (.int y5), some (.int y6), some (.int 3125), none, none, none, none, none, none]) C dX12_bells_294 (by decide) rfl rfl ?_
          refine m_iconst (v := 0) C dX12_bells_296 (by decide) ?_
          refine m_istore (L1 := [some (.ref (G.1 22 0)), some (.int a1), some (.int 5), some (.int a3), some (.int 3125), some (.int y5), some (.int y6), some (.int 3125), some (.int 0), none, none, none, none, none]) C dX12_bells_297 (by decide) rfl rfl ?_
          refine m_iload C dX12_bells_299 rfl ?_
          refine m_iload_n C dX12_bells_301 rfl rfl ?_
          refine m_icmp_gt (tgt := 323) C dX12_bells_302 (by decide) (fun c11 => ?_) (fun c11 => ?_)
          · exfalso
            have q : _ := c11
            simp only [ti_nle, ti_nlt, ti_le, ti_lt, ti_eq, ti_ne, Classical.not_not, kt_0] at q
            have q1 := kc_0; have q2 := b10; omega
          · have f13 : 0 ≤ a3.toInt := by
              have q : _ := c11
              simp only [ti_nle, ti_nlt, ti_le, ti_lt, ti_eq, ti_ne, Classical.not_not, kt_0] at q
              omega
            refine m_iload C dX12_bells_305 rfl ?_
            refine m_iload_n C dX12_bells_307 rfl rfl ?_
            refine m_icmp_ge (tgt := 323) C dX12_bells_308 (by decide) (fun c14 => ?_) (fun c14 => ?_)
            · first | exact absurd c14 (by decide) | exact absurd (by decide) c14
            · have f16 : 0 < 5 := by
                have q : _ := c14
                simp only [ti_nle, ti_nlt, ti_le, ti_lt, ti_eq, ti_ne, Classical.not_not, kt_0, kt_5] at q
                omega
              refine m_iload C dX12_bells_311 rfl ?_
              refine m_iload_n C dX12_bells_313 rfl rfl ?_
              refine m_idiv C dX12_bells_314 (iv_nz kc_5 (by decide)) ?_
              refine m_topi (fun x17 ex17 => ?_)
              have b18 : IV x17 625 625 := by rw [ex17]; decide
              have tx17 : x17.toInt = 625 := by rw [ex17]; decide
              obtain rfl : x17 = 625 := by rw [ex17]; decide
              refine m_istore (L1 := [some (.ref (G.1 22 0)), some (.int a1), some (.int 5), some (.int a3), some (.int 3125), some (.int y5), some (.int y6), some (.int 625), some (.int 0), none, none, none, none, none]) C dX12_bells_315 (by decide) rfl rfl ?_
              obtain ⟨x19, ex19⟩ : ∃ y : Int32, y = 0 + 1 := ⟨_, rfl⟩
              have b20 : IV x19 1 1 := by rw [ex19]; decide
              have tx19 : x19.toInt = 1 := by rw [ex19]; decide
              obtain rfl : x19 = 1 := by rw [ex19]; decide
              refine m_iinc (v := 1) (L1 := [some (.ref (G.1 22 0)), some (.int a1), some (.int 5), some (.int a3), some (.int 3125), some (.int y5), some (.int y6), some (.int 625), some (.int 1), none, none, none, none, none]) C dX12_bells_317 rfl (by decide) (by decide) rfl rfl ?_
              refine m_goto (tgt := 299) C dX12_bells_320 (by decide) ?_
              refine m_iload C dX12_bells_299 rfl ?_
              refine m_iload_n C dX12_bells_301 rfl rfl ?_
              refine m_icmp_gt (tgt := 323) C dX12_bells_302 (by decide) (fun c21 => ?_) (fun c21 => ?_)
              · have f22 : a3.toInt < 1 := by
                  have q : _ := c21
                  simp only [ti_nle, ti_nlt, ti_le, ti_lt, ti_eq, ti_ne, Classical.not_not, kt_1] at q
                  omega
                have b23 : IV a3 0 0 := ⟨by have q1 := b10; have q2 := kc_1; omega, by have q1 := b10; have q2 := kc_1; omega⟩
                refine m_iload_n C dX12_bells_323 rfl rfl ?_
                refine m_iload_n C dX12_bells_324 rfl rfl ?_
                refine m_icmp_ge (tgt := 338) C dX12_bells_325 (by decide) (fun c24 => ?_) (fun c24 => ?_)
                · exfalso
                  have q : _ := c24
                  simp only [ti_nle, ti_nlt, ti_le, ti_lt, ti_eq, ti_ne, Classical.not_not, kt_5] at q
                  have q1 := b23; have q2 := kc_5; omega
                · have f26 : a3.toInt < 5 := by
                    have q : _ := c24
                    simp only [ti_nle, ti_nlt, ti_le, ti_lt, ti_eq, ti_ne, Classical.not_not, kt_5] at q
                    omega
                  refine m_iload C dX12_bells_328 rfl ?_
                  refine m_iload C dX12_bells_330 rfl ?_
                  refine m_idiv C dX12_bells_332 (iv_nz kc_625 (by decide)) ?_
                  refine m_topi (fun x27 ex27 => ?_)
                  have b28 : IV x27 0 16 := by rw [ex27]; exact iv_div b7 kc_625 (by decide)
                  have tx27 : x27.toInt = y5.toInt / 625 := by rw [ex27]; exact ti_divc b7 kc_625 (by decide)
                  refine m_iload_n C dX12_bells_333 rfl rfl ?_
                  refine m_irem C dX12_bells_334 (iv_nz kc_5 (by decide)) ?_
                  refine m_topi (fun x29 ex29 => ?_)
                  have b30 : IV x29 0 4 := by rw [ex29]; exact iv_rem b28 kc_5 (by decide)
                  have tx29 : x29.toInt = x27.toInt % 5 := by rw [ex29]; exact ti_rem b28 kc_5 (by decide)
                  refine m_goto (tgt := 340) C dX12_bells_335 (by decide) ?_
                  exact m_iret C hr hlk (by decide) (by decide) dX12_bells_340 ⟨_, rfl, iτ, fτ, (iv_wk b30 (by decide)), (Or.inr (Or.inr (Or.inr (Or.inr (⟨by omega, by omega, by omega, nL, ⟨fun g => absurd g (by omega), fun _ _ => by rw [q6c, show a3.toInt.toNat = 0 by omega]; show _ = (((y5.toInt.toNat / 625 % 5 : Nat)) : Int); omega, fun g => absurd g (by omega)⟩⟩)))))⟩
              · have f31 : 1 ≤ a3.toInt := by
                  have q : _ := c21
                  simp only [ti_nle, ti_nlt, ti_le, ti_lt, ti_eq, ti_ne, Classical.not_not, kt_1] at q
                  omega
                have b32 : IV a3 1 2147483647 := ⟨by have q1 := kc_1; have q2 := b10; omega, by have q1 := kc_1; have q2 := b10; omega⟩
                refine m_iload C dX12_bells_305 rfl ?_
                refine m_iload_n C dX12_bells_307 rfl rfl ?_
                refine m_icmp_ge (tgt := 323) C dX12_bells_308 (by decide) (fun c33 => ?_) (fun c33 => ?_)
                · first | exact absurd c33 (by decide) | exact absurd (by decide) c33
                · have f35 : 1 < 5 := by
                    have q : _ := c33
                    simp only [ti_nle, ti_nlt, ti_le, ti_lt, ti_eq, ti_ne, Classical.not_not, kt_1, kt_5] at q
                    omega
                  refine m_iload C dX12_bells_311 rfl ?_
                  refine m_iload_n C dX12_bells_313 rfl rfl ?_
                  refine m_idiv C dX12_bells_314 (iv_nz kc_5 (by decide)) ?_
                  refine m_topi (fun x36 ex36 => ?_)
                  have b37 : IV x36 125 125 := by rw [ex36]; decide
                  have tx36 : x36.toInt = 125 := by rw [ex36]; decide
                  obtain rfl : x36 = 125 := by rw [ex36]; decide
                  refine m_istore (L1 := [some (.ref (G.1 22 0)), some (.int a1), some (.int 5), some (.int a3), some (.int 3125), some (.int y5), some (.int y6), some (.int 125), some (.int 1), none, none, none, none, none]) C dX12_bells_315 (by decide) rfl rfl ?_
                  obtain ⟨x38, ex38⟩ : ∃ y : Int32, y = 1 + 1 := ⟨_, rfl⟩
                  have b39 : IV x38 2 2 := by rw [ex38]; decide
                  have tx38 : x38.toInt = 2 := by rw [ex38]; decide
                  obtain rfl : x38 = 2 := by rw [ex38]; decide
                  refine m_iinc (v := 2) (L1 := [some (.ref (G.1 22 0)), some (.int a1), some (.int 5), some (.int a3), some (.int 3125), some (.int y5), some (.int y6), some (.int 125), some (.int 2), none, none, none, none, none]) C dX12_bells_317 rfl (by decide) (by decide) rfl rfl ?_
                  refine m_goto (tgt := 299) C dX12_bells_320 (by decide) ?_
                  refine m_iload C dX12_bells_299 rfl ?_
                  refine m_iload_n C dX12_bells_301 rfl rfl ?_
                  refine m_icmp_gt (tgt := 323) C dX12_bells_302 (by decide) (fun c40 => ?_) (fun c40 => ?_)
                  · have f41 : a3.toInt < 2 := by
                      have q : _ := c40
                      simp only [ti_nle, ti_nlt, ti_le, ti_lt, ti_eq, ti_ne, Classical.not_not, kt_2] at q
                      omega
                    have b42 : IV a3 1 1 := ⟨by have q1 := b32; have q2 := kc_2; omega, by have q1 := b32; have q2 := kc_2; omega⟩
                    refine m_iload_n C dX12_bells_323 rfl rfl ?_
                    refine m_iload_n C dX12_bells_324 rfl rfl ?_
                    refine m_icmp_ge (tgt := 338) C dX12_bells_325 (by decide) (fun c43 => ?_) (fun c43 => ?_)
                    · exfalso
                      have q : _ := c43
                      simp only [ti_nle, ti_nlt, ti_le, ti_lt, ti_eq, ti_ne, Classical.not_not, kt_5] at q
                      have q1 := b42; have q2 := kc_5; omega
                    · have f45 : a3.toInt < 5 := by
                        have q : _ := c43
                        simp only [ti_nle, ti_nlt, ti_le, ti_lt, ti_eq, ti_ne, Classical.not_not, kt_5] at q
                        omega
                      refine m_iload C dX12_bells_328 rfl ?_
                      refine m_iload C dX12_bells_330 rfl ?_
                      refine m_idiv C dX12_bells_332 (iv_nz kc_125 (by decide)) ?_
                      refine m_topi (fun x46 ex46 => ?_)
                      have b47 : IV x46 0 80 := by rw [ex46]; exact iv_div b7 kc_125 (by decide)
                      have tx46 : x46.toInt = y5.toInt / 125 := by rw [ex46]; exact ti_divc b7 kc_125 (by decide)
                      refine m_iload_n C dX12_bells_333 rfl rfl ?_
                      refine m_irem C dX12_bells_334 (iv_nz kc_5 (by decide)) ?_
                      refine m_topi (fun x48 ex48 => ?_)
                      have b49 : IV x48 0 4 := by rw [ex48]; exact iv_rem b47 kc_5 (by decide)
                      have tx48 : x48.toInt = x46.toInt % 5 := by rw [ex48]; exact ti_rem b47 kc_5 (by decide)
                      refine m_goto (tgt := 340) C dX12_bells_335 (by decide) ?_
                      exact m_iret C hr hlk (by decide) (by decide) dX12_bells_340 ⟨_, rfl, iτ, fτ, (iv_wk b49 (by decide)), (Or.inr (Or.inr (Or.inr (Or.inr (⟨by omega, by omega, by omega, nL, ⟨fun g => absurd g (by omega), fun _ _ => by rw [q6c, show a3.toInt.toNat = 1 by omega]; show _ = (((y5.toInt.toNat / 125 % 5 : Nat)) : Int); omega, fun g => absurd g (by omega)⟩⟩)))))⟩
                  · have f50 : 2 ≤ a3.toInt := by
                      have q : _ := c40
                      simp only [ti_nle, ti_nlt, ti_le, ti_lt, ti_eq, ti_ne, Classical.not_not, kt_2] at q
                      omega
                    have b51 : IV a3 2 2147483647 := ⟨by have q1 := kc_2; have q2 := b32; omega, by have q1 := kc_2; have q2 := b32; omega⟩
                    refine m_iload C dX12_bells_305 rfl ?_
                    refine m_iload_n C dX12_bells_307 rfl rfl ?_
                    refine m_icmp_ge (tgt := 323) C dX12_bells_308 (by decide) (fun c52 => ?_) (fun c52 => ?_)
                    · first | exact absurd c52 (by decide) | exact absurd (by decide) c52
                    · have f54 : 2 < 5 := by
                        have q : _ := c52
                        simp only [ti_nle, ti_nlt, ti_le, ti_lt, ti_eq, ti_ne, Classical.not_not, kt_2, kt_5] at q
                        omega
                      refine m_iload C dX12_bells_311 rfl ?_
                      refine m_iload_n C dX12_bells_313 rfl rfl ?_
                      refine m_idiv C dX12_bells_314 (iv_nz kc_5 (by decide)) ?_
                      refine m_topi (fun x55 ex55 => ?_)
                      have b56 : IV x55 25 25 := by rw [ex55]; decide
                      have tx55 : x55.toInt = 25 := by rw [ex55]; decide
                      obtain rfl : x55 = 25 := by rw [ex55]; decide
                      refine m_istore (L1 := [some (.ref (G.1 22 0)), some (.int a1), some (.int 5), some (.int a3), some (.int 3125), some (.int y5), some (.int y6), some (.int 25), some (.int 2), none, none, none, none, none]) C dX12_bells_315 (by decide) rfl rfl ?_
                      obtain ⟨x57, ex57⟩ : ∃ y : Int32, y = 2 + 1 := ⟨_, rfl⟩
                      have b58 : IV x57 3 3 := by rw [ex57]; decide
                      have tx57 : x57.toInt = 3 := by rw [ex57]; decide
                      obtain rfl : x57 = 3 := by rw [ex57]; decide
                      refine m_iinc (v := 3) (L1 := [some (.ref (G.1 22 0)), some (.int a1), some (.int 5), some (.int a3), some (.int 3125), some (.int y5), some (.int y6), some (.int 25), some (.int 3), none, none, none, none, none]) C dX12_bells_317 rfl (by decide) (by decide) rfl rfl ?_
                      refine m_goto (tgt := 299) C dX12_bells_320 (by decide) ?_
                      refine m_iload C dX12_bells_299 rfl ?_
                      refine m_iload_n C dX12_bells_301 rfl rfl ?_
                      refine m_icmp_gt (tgt := 323) C dX12_bells_302 (by decide) (fun c59 => ?_) (fun c59 => ?_)
                      · have f60 : a3.toInt < 3 := by
                          have q : _ := c59
                          simp only [ti_nle, ti_nlt, ti_le, ti_lt, ti_eq, ti_ne, Classical.not_not, kt_3] at q
                          omega
                        have b61 : IV a3 2 2 := ⟨by have q1 := b51; have q2 := kc_3; omega, by have q1 := b51; have q2 := kc_3; omega⟩
                        refine m_iload_n C dX12_bells_323 rfl rfl ?_
                        refine m_iload_n C dX12_bells_324 rfl rfl ?_
                        refine m_icmp_ge (tgt := 338) C dX12_bells_325 (by decide) (fun c62 => ?_) (fun c62 => ?_)
                        · exfalso
                          have q : _ := c62
                          simp only [ti_nle, ti_nlt, ti_le, ti_lt, ti_eq, ti_ne, Classical.not_not, kt_5] at q
                          have q1 := b61; have q2 := kc_5; omega
                        · have f64 : a3.toInt < 5 := by
                            have q : _ := c62
                            simp only [ti_nle, ti_nlt, ti_le, ti_lt, ti_eq, ti_ne, Classical.not_not, kt_5] at q
                            omega
                          refine m_iload C dX12_bells_328 rfl ?_
                          refine m_iload C dX12_bells_330 rfl ?_
                          refine m_idiv C dX12_bells_332 (iv_nz kc_25 (by decide)) ?_
                          refine m_topi (fun x65 ex65 => ?_)
                          have b66 : IV x65 0 400 := by rw [ex65]; exact iv_div b7 kc_25 (by decide)
                          have tx65 : x65.toInt = y5.toInt / 25 := by rw [ex65]; exact ti_divc b7 kc_25 (by decide)
                          refine m_iload_n C dX12_bells_333 rfl rfl ?_
                          refine m_irem C dX12_bells_334 (iv_nz kc_5 (by decide)) ?_
                          refine m_topi (fun x67 ex67 => ?_)
                          have b68 : IV x67 0 4 := by rw [ex67]; exact iv_rem b66 kc_5 (by decide)
                          have tx67 : x67.toInt = x65.toInt % 5 := by rw [ex67]; exact ti_rem b66 kc_5 (by decide)
                          refine m_goto (tgt := 340) C dX12_bells_335 (by decide) ?_
                          exact m_iret C hr hlk (by decide) (by decide) dX12_bells_340 ⟨_, rfl, iτ, fτ, (iv_wk b68 (by decide)), (Or.inr (Or.inr (Or.inr (Or.inr (⟨by omega, by omega, by omega, nL, ⟨fun g => absurd g (by omega), fun _ _ => by rw [q6c, show a3.toInt.toNat = 2 by omega]; show _ = (((y5.toInt.toNat / 25 % 5 : Nat)) : Int); omega, fun g => absurd g (by omega)⟩⟩)))))⟩
                      · have f69 : 3 ≤ a3.toInt := by
                          have q : _ := c59
                          simp only [ti_nle, ti_nlt, ti_le, ti_lt, ti_eq, ti_ne, Classical.not_not, kt_3] at q
                          omega
                        have b70 : IV a3 3 2147483647 := ⟨by have q1 := kc_3; have q2 := b51; omega, by have q1 := kc_3; have q2 := b51; omega⟩
                        refine m_iload C dX12_bells_305 rfl ?_
                        refine m_iload_n C dX12_bells_307 rfl rfl ?_
                        refine m_icmp_ge (tgt := 323) C dX12_bells_308 (by decide) (fun c71 => ?_) (fun c71 => ?_)
                        · first | exact absurd c71 (by decide) | exact absurd (by decide) c71
                        · have f73 : 3 < 5 := by
                            have q : _ := c71
                            simp only [ti_nle, ti_nlt, ti_le, ti_lt, ti_eq, ti_ne, Classical.not_not, kt_3, kt_5] at q
                            omega
                          refine m_iload C dX12_bells_311 rfl ?_
                          refine m_iload_n C dX12_bells_313 rfl rfl ?_
                          refine m_idiv C dX12_bells_314 (iv_nz kc_5 (by decide)) ?_
                          refine m_topi (fun x74 ex74 => ?_)
                          have b75 : IV x74 5 5 := by rw [ex74]; decide
                          have tx74 : x74.toInt = 5 := by rw [ex74]; decide
                          obtain rfl : x74 = 5 := by rw [ex74]; decide
                          refine m_istore (L1 := [some (.ref (G.1 22 0)), some (.int a1), some (.int 5), some (.int a3), some (.int 3125), some (.int y5), some (.int y6), some (.int 5), some (.int 3), none, none, none, none, none]) C dX12_bells_315 (by decide) rfl rfl ?_
                          obtain ⟨x76, ex76⟩ : ∃ y : Int32, y = 3 + 1 := ⟨_, rfl⟩
                          have b77 : IV x76 4 4 := by rw [ex76]; decide
                          have tx76 : x76.toInt = 4 := by rw [ex76]; decide
                          obtain rfl : x76 = 4 := by rw [ex76]; decide
                          refine m_iinc (v := 4) (L1 := [some (.ref (G.1 22 0)), some (.int a1), some (.int 5), some (.int a3), some (.int 3125), some (.int y5), some (.int y6), some (.int 5), some (.int 4), none, none, none, none, none]) C dX12_bells_317 rfl (by decide) (by decide) rfl rfl ?_
                          refine m_goto (tgt := 299) C dX12_bells_320 (by decide) ?_
                          refine m_iload C dX12_bells_299 rfl ?_
                          refine m_iload_n C dX12_bells_301 rfl rfl ?_
                          refine m_icmp_gt (tgt := 323) C dX12_bells_302 (by decide) (fun c78 => ?_) (fun c78 => ?_)
                          · have f79 : a3.toInt < 4 := by
                              have q : _ := c78
                              simp only [ti_nle, ti_nlt, ti_le, ti_lt, ti_eq, ti_ne, Classical.not_not, kt_4] at q
                              omega
                            have b80 : IV a3 3 3 := ⟨by have q1 := b70; have q2 := kc_4; omega, by have q1 := b70; have q2 := kc_4; omega⟩
                            refine m_iload_n C dX12_bells_323 rfl rfl ?_
                            refine m_iload_n C dX12_bells_324 rfl rfl ?_
                            refine m_icmp_ge (tgt := 338) C dX12_bells_325 (by decide) (fun c81 => ?_) (fun c81 => ?_)
                            · exfalso
                              have q : _ := c81
                              simp only [ti_nle, ti_nlt, ti_le, ti_lt, ti_eq, ti_ne, Classical.not_not, kt_5] at q
                              have q1 := b80; have q2 := kc_5; omega
                            · have f83 : a3.toInt < 5 := by
                                have q : _ := c81
                                simp only [ti_nle, ti_nlt, ti_le, ti_lt, ti_eq, ti_ne, Classical.not_not, kt_5] at q
                                omega
                              refine m_iload C dX12_bells_328 rfl ?_
                              refine m_iload C dX12_bells_330 rfl ?_
                              refine m_idiv C dX12_bells_332 (iv_nz kc_5 (by decide)) ?_
                              refine m_topi (fun x84 ex84 => ?_)
                              have b85 : IV x84 0 2000 := by rw [ex84]; exact iv_div b7 kc_5 (by decide)
                              have tx84 : x84.toInt = y5.toInt / 5 := by rw [ex84]; exact ti_divc b7 kc_5 (by decide)
                              refine m_iload_n C dX12_bells_333 rfl rfl ?_
                              refine m_irem C dX12_bells_334 (iv_nz kc_5 (by decide)) ?_
                              refine m_topi (fun x86 ex86 => ?_)
                              have b87 : IV x86 0 4 := by rw [ex86]; exact iv_rem b85 kc_5 (by decide)
                              have tx86 : x86.toInt = x84.toInt % 5 := by rw [ex86]; exact ti_rem b85 kc_5 (by decide)
                              refine m_goto (tgt := 340) C dX12_bells_335 (by decide) ?_
                              exact m_iret C hr hlk (by decide) (by decide) dX12_bells_340 ⟨_, rfl, iτ, fτ, (iv_wk b87 (by decide)), (Or.inr (Or.inr (Or.inr (Or.inr (⟨by omega, by omega, by omega, nL, ⟨fun g => absurd g (by omega), fun _ _ => by rw [q6c, show a3.toInt.toNat = 3 by omega]; show _ = (((y5.toInt.toNat / 5 % 5 : Nat)) : Int); omega, fun g => absurd g (by omega)⟩⟩)))))⟩
                          · have f88 : 4 ≤ a3.toInt := by
                              have q : _ := c78
                              simp only [ti_nle, ti_nlt, ti_le, ti_lt, ti_eq, ti_ne, Classical.not_not, kt_4] at q
                              omega
                            have b89 : IV a3 4 2147483647 := ⟨by have q1 := kc_4; have q2 := b70; omega, by have q1 := kc_4; have q2 := b70; omega⟩
                            refine m_iload C dX12_bells_305 rfl ?_
                            refine m_iload_n C dX12_bells_307 rfl rfl ?_
                            refine m_icmp_ge (tgt := 323) C dX12_bells_308 (by decide) (fun c90 => ?_) (fun c90 => ?_)
                            · first | exact absurd c90 (by decide) | exact absurd (by decide) c90
                            · have f92 : 4 < 5 := by
                                have q : _ := c90
                                simp only [ti_nle, ti_nlt, ti_le, ti_lt, ti_eq, ti_ne, Classical.not_not, kt_4, kt_5] at q
                                omega
                              refine m_iload C dX12_bells_311 rfl ?_
                              refine m_iload_n C dX12_bells_313 rfl rfl ?_
                              refine m_idiv C dX12_bells_314 (iv_nz kc_5 (by decide)) ?_
                              refine m_topi (fun x93 ex93 => ?_)
                              have b94 : IV x93 1 1 := by rw [ex93]; decide
                              have tx93 : x93.toInt = 1 := by rw [ex93]; decide
                              obtain rfl : x93 = 1 := by rw [ex93]; decide
                              refine m_istore (L1 := [some (.ref (G.1 22 0)), some (.int a1), some (.int 5), some (.int a3), some (.int 3125), some (.int y5), some (.int y6), some (.int 1), some (.int 4), none, none, none, none, none]) C dX12_bells_315 (by decide) rfl rfl ?_
                              obtain ⟨x95, ex95⟩ : ∃ y : Int32, y = 4 + 1 := ⟨_, rfl⟩
                              have b96 : IV x95 5 5 := by rw [ex95]; decide
                              have tx95 : x95.toInt = 5 := by rw [ex95]; decide
                              obtain rfl : x95 = 5 := by rw [ex95]; decide
                              refine m_iinc (v := 5) (L1 := [some (.ref (G.1 22 0)), some (.int a1), some (.int 5), some (.int a3), some (.int 3125), some (.int y5), some (.int y6), some (.int 1), some (.int 5), none, none, none, none, none]) C dX12_bells_317 rfl (by decide) (by decide) rfl rfl ?_
                              refine m_goto (tgt := 299) C dX12_bells_320 (by decide) ?_
                              refine m_iload C dX12_bells_299 rfl ?_
                              refine m_iload_n C dX12_bells_301 rfl rfl ?_
                              refine m_icmp_gt (tgt := 323) C dX12_bells_302 (by decide) (fun c97 => ?_) (fun c97 => ?_)
                              · have f98 : a3.toInt < 5 := by
                                  have q : _ := c97
                                  simp only [ti_nle, ti_nlt, ti_le, ti_lt, ti_eq, ti_ne, Classical.not_not, kt_5] at q
                                  omega
                                have b99 : IV a3 4 4 := ⟨by have q1 := b89; have q2 := kc_5; omega, by have q1 := b89; have q2 := kc_5; omega⟩
                                refine m_iload_n C dX12_bells_323 rfl rfl ?_
                                refine m_iload_n C dX12_bells_324 rfl rfl ?_
                                refine m_icmp_ge (tgt := 338) C dX12_bells_325 (by decide) (fun c100 => ?_) (fun c100 => ?_)
                                · exfalso
                                  have q : _ := c100
                                  simp only [ti_nle, ti_nlt, ti_le, ti_lt, ti_eq, ti_ne, Classical.not_not, kt_5] at q
                                  have q1 := b99; have q2 := kc_5; omega
                                · have f102 : a3.toInt < 5 := by
                                    have q : _ := c100
                                    simp only [ti_nle, ti_nlt, ti_le, ti_lt, ti_eq, ti_ne, Classical.not_not, kt_5] at q
                                    omega
                                  refine m_iload C dX12_bells_328 rfl ?_
                                  refine m_iload C dX12_bells_330 rfl ?_
                                  refine m_idiv C dX12_bells_332 (iv_nz kc_1 (by decide)) ?_
                                  refine m_topi (fun x103 ex103 => ?_)
                                  have b104 : IV x103 0 10000 := by rw [ex103]; exact iv_div b7 kc_1 (by decide)
                                  have tx103 : x103.toInt = y5.toInt / 1 := by rw [ex103]; exact ti_divc b7 kc_1 (by decide)
                                  refine m_iload_n C dX12_bells_333 rfl rfl ?_
                                  refine m_irem C dX12_bells_334 (iv_nz kc_5 (by decide)) ?_
                                  refine m_topi (fun x105 ex105 => ?_)
                                  have b106 : IV x105 0 4 := by rw [ex105]; exact iv_rem b104 kc_5 (by decide)
                                  have tx105 : x105.toInt = x103.toInt % 5 := by rw [ex105]; exact ti_rem b104 kc_5 (by decide)
                                  refine m_goto (tgt := 340) C dX12_bells_335 (by decide) ?_
                                  exact m_iret C hr hlk (by decide) (by decide) dX12_bells_340 ⟨_, rfl, iτ, fτ, (iv_wk b106 (by decide)), (Or.inr (Or.inr (Or.inr (Or.inr (⟨by omega, by omega, by omega, nL, ⟨fun g => absurd g (by omega), fun _ _ => by rw [q6c, show a3.toInt.toNat = 4 by omega]; show _ = (((y5.toInt.toNat / 1 % 5 : Nat)) : Int); omega, fun g => absurd g (by omega)⟩⟩)))))⟩
                              · have f107 : 5 ≤ a3.toInt := by
                                  have q : _ := c97
                                  simp only [ti_nle, ti_nlt, ti_le, ti_lt, ti_eq, ti_ne, Classical.not_not, kt_5] at q
                                  omega
                                have b108 : IV a3 5 2147483647 := ⟨by have q1 := kc_5; have q2 := b89; omega, by have q1 := kc_5; have q2 := b89; omega⟩
                                refine m_iload C dX12_bells_305 rfl ?_
                                refine m_iload_n C dX12_bells_307 rfl rfl ?_
                                refine m_icmp_ge (tgt := 323) C dX12_bells_308 (by decide) (fun c109 => ?_) (fun c109 => ?_)
                                · have f110 : 5 ≤ 5 := by
                                    have q : _ := c109
                                    simp only [ti_nle, ti_nlt, ti_le, ti_lt, ti_eq, ti_ne, Classical.not_not, kt_5, kt_5] at q
                                    omega
                                  refine m_iload_n C dX12_bells_323 rfl rfl ?_
                                  refine m_iload_n C dX12_bells_324 rfl rfl ?_
                                  refine m_icmp_ge (tgt := 338) C dX12_bells_325 (by decide) (fun c111 => ?_) (fun c111 => ?_)
                                  · have f112 : 5 ≤ a3.toInt := by
                                      have q : _ := c111
                                      simp only [ti_nle, ti_nlt, ti_le, ti_lt, ti_eq, ti_ne, Classical.not_not, kt_5] at q
                                      omega
                                    refine m_ldc (v := (-1000000)) C dX12_bells_338 q5_70 ?_
                                    exact m_iret C hr hlk (by decide) (by decide) dX12_bells_340 ⟨_, rfl, iτ, fτ, (iv_wk kc_m1000000 (by decide)), (Or.inr (Or.inr (Or.inr (Or.inr (⟨by have qk := kt_m1000000; omega, by have qk := kt_m1000000; omega, by have qk := kt_m1000000; omega, nL, ⟨fun g => absurd g (by omega), fun _ g => absurd g (by omega), fun _ => kt_m1000000⟩⟩)))))⟩
                                  · exfalso
                                    have q : _ := c111
                                    simp only [ti_nle, ti_nlt, ti_le, ti_lt, ti_eq, ti_ne, Classical.not_not, kt_5] at q
                                    have q1 := b108; have q2 := kc_5; omega
                                · first | exact absurd c109 (by decide) | exact absurd (by decide) c109
        · have f115 : a3.toInt < 0 := by
            have q : _ := c8
            simp only [ti_nle, ti_nlt, ti_le, ti_lt, ti_eq, ti_ne, Classical.not_not, kt_0] at q
            omega
          have b116 : IV a3 (-1) (-1) := ⟨by have q1 := b_a3; have q2 := kc_0; omega, by have q1 := b_a3; have q2 := kc_0; omega⟩
          refine m_iload C dX12_bells_289 rfl ?_
          exact m_iret C hr hlk (by decide) (by decide) dX12_bells_291 ⟨_, rfl, iτ, fτ, b_y6, (Or.inr (Or.inr (Or.inr (Or.inr (⟨by omega, by omega, by omega, nL, ⟨fun _ => q6b.symm, fun g => absurd g (by omega), fun g => absurd g (by omega)⟩⟩)))))⟩
      · have f117 : y7.toInt < 3125 := by
          have q : _ := c3
          simp only [ti_nle, ti_nlt, ti_le, ti_lt, ti_eq, ti_ne, Classical.not_not, kt_3125] at q
          omega
        have b118 : IV y7 0 3124 := ⟨by have q1 := b_y7; have q2 := kc_3125; omega, by have q1 := b_y7; have q2 := kc_3125; omega⟩
        refine m_iconst (v := 0) C dX12_bells_145 (by decide) ?_
        refine m_istore (L1 := [some (.ref (G.1 22 0)), some (.int a1), some (.int 5), some (.int a3), some (.int 3125), some (.int y5), some (.int y6), some (.int y7), some (.int 0), none, none, none, none, none]) C dX12_bells_146 (by decide) rfl rfl ?_
        refine m_iload C dX12_bells_148 rfl ?_
        refine m_istore (L1 := [some (.ref (G.1 22 0)), some (.int a1), some (.int 5), some (.int a3), some (.int 3125), some (.int y5), some (.int y6), some (.int y7), some (.int 0), some (.int 3125), none, none, none, none]) C dX12_bells_150 (by decide) rfl rfl ?_
        refine m_iconst (v := 0) C dX12_bells_152 (by decide) ?_
        refine m_istore (L1 := [some (.ref (G.1 22 0)), some (.int a1), some (.int 5), some (.int a3), some (.int 3125), some (.int y5), some (.int y6), some (.int y7), some (.int 0), some (.int 3125), some (.int 0), none, none, none]) C dX12_bells_153 (by decide) rfl rfl ?_
        refine m_iconst (v := 0) C dX12_bells_155 (by decide) ?_
        refine m_istore (L1 := [some (.ref (G.1 22 0)), some (.int a1), some (.int 5), some (.int a3), some (.int 3125), some (.int y5), some (.int y6), some (.int y7), some (.int 0), some (.int 3125), some (.int 0), some (.int 0), none, none]) C dX12_bells_156 (by decide) rfl rfl ?_
        refine m_iconst (v := 0) C dX12_bells_158 (by decide) ?_
        refine m_istore (L1 := [some (.ref (G.1 22 0)), some (.int a1), some (.int 5), some (.int a3), some (.int 3125), some (.int y5), some (.int y6), some (.int y7), some (.int 0), some (.int 3125), some (.int 0), some (.int 0), some (.int 0), none]) C dX12_bells_159 (by decide) rfl rfl ?_
        refine m_iload C dX12_bells_161 rfl ?_
        refine m_iload_n C dX12_bells_163 rfl rfl ?_
        refine m_icmp_ge (tgt := 249) C dX12_bells_164 (by decide) (fun c119 => ?_) (fun c119 => ?_)
        · first | exact absurd c119 (by decide) | exact absurd (by decide) c119
        · have f121 : 0 < 5 := by
            have q : _ := c119
            simp only [ti_nle, ti_nlt, ti_le, ti_lt, ti_eq, ti_ne, Classical.not_not, kt_0, kt_5] at q
            omega
          refine m_iload C dX12_bells_167 rfl ?_
          refine m_iload_n C dX12_bells_169 rfl rfl ?_
          refine m_idiv C dX12_bells_170 (iv_nz kc_5 (by decide)) ?_
          refine m_topi (fun x122 ex122 => ?_)
          have b123 : IV x122 625 625 := by rw [ex122]; decide
          have tx122 : x122.toInt = 625 := by rw [ex122]; decide
          obtain rfl : x122 = 625 := by rw [ex122]; decide
          refine m_istore (L1 := [some (.ref (G.1 22 0)), some (.int a1), some (.int 5), some (.int a3), some (.int 3125), some (.int y5), some (.int y6), some (.int y7), some (.int 0), some (.int 625), some (.int 0), some (.int 0), some (.int 0), none]) C dX12_bells_171 (by decide) rfl rfl ?_
          refine m_iload C dX12_bells_173 rfl ?_
          refine m_iload C dX12_bells_175 rfl ?_
          refine m_idiv C dX12_bells_177 (iv_nz kc_625 (by decide)) ?_
          refine m_topi (fun x124 ex124 => ?_)
          have b125 : IV x124 0 4 := by rw [ex124]; exact iv_div b118 kc_625 (by decide)
          have tx124 : x124.toInt = y7.toInt / 625 := by rw [ex124]; exact ti_divc b118 kc_625 (by decide)
          refine m_iload_n C dX12_bells_178 rfl rfl ?_
          refine m_irem C dX12_bells_179 (iv_nz kc_5 (by decide)) ?_
          refine m_topi (fun x126 ex126 => ?_)
          have b127 : IV x126 0 4 := by rw [ex126]; exact iv_rem b125 kc_5 (by decide)
          have tx126 : x126.toInt = x124.toInt % 5 := by rw [ex126]; exact ti_rem b125 kc_5 (by decide)
          refine m_istore (L1 := [some (.ref (G.1 22 0)), some (.int a1), some (.int 5), some (.int a3), some (.int 3125), some (.int y5), some (.int y6), some (.int y7), some (.int 0), some (.int 625), some (.int 0), some (.int 0), some (.int 0), some (.int x126)]) C dX12_bells_180 (by decide) rfl rfl ?_
          refine m_iload C dX12_bells_182 rfl ?_
          refine m_iconst (v := 1) C dX12_bells_184 (by decide) ?_
          refine m_iload C dX12_bells_185 rfl ?_
          refine m_ishl C dX12_bells_187 ?_
          refine m_topi (fun x128 ex128 => ?_)
          have b129 : IV x128 1 16 := by rw [ex128]; exact iv_shl1 b127 (by decide)
          refine m_ior C dX12_bells_188 ?_
          refine m_topi (fun x130 ex130 => ?_)
          have b131 : IV x130 0 31 := by rw [ex130]; exact iv_or 5 kc_0 b129 (by decide)
          refine m_istore (L1 := [some (.ref (G.1 22 0)), some (.int a1), some (.int 5), some (.int a3), some (.int 3125), some (.int y5), some (.int y6), some (.int y7), some (.int x130), some (.int 625), some (.int 0), some (.int 0), some (.int 0), some (.int x126)]) C dX12_bells_189 (by decide) rfl rfl ?_
          refine m_iload C dX12_bells_191 rfl ?_
          refine m_iload C dX12_bells_193 rfl ?_
          refine m_iconst (v := 2) C dX12_bells_195 (by decide) ?_
          refine m_irem C dX12_bells_196 (iv_nz kc_2 (by decide)) ?_
          refine m_topi (fun x132 ex132 => ?_)
          have b133 : IV x132 0 0 := by rw [ex132]; decide
          have tx132 : x132.toInt = 0 := by rw [ex132]; decide
          obtain rfl : x132 = 0 := by rw [ex132]; decide
          refine m_if_ne (tgt := 215) C dX12_bells_197 (by decide) (fun c134 => ?_) (fun c134 => ?_)
          · first | exact absurd c134 (by decide) | exact absurd (by decide) c134
          · have f136 : 0 = 0 := by
              have q : _ := c134
              simp only [ti_nle, ti_nlt, ti_le, ti_lt, ti_eq, ti_ne, Classical.not_not, kt_0, kt_0] at q
              omega
            refine m_aload_n C dX12_bells_200 rfl rfl ?_
            refine g_22_2 C q4_118 dX12_bells_201 ?_
            refine m_bipush (v := 40) C dX12_bells_204 (by decide) ?_
            refine m_iload_n C dX12_bells_206 rfl rfl ?_
            refine m_imul C dX12_bells_207 ?_
            refine m_topi (fun x137 ex137 => ?_)
            have tx137 : x137.toInt = 40 * a1.toInt := by rw [ex137, ti_mulv kc_40 b_a1 (by decide), kt_40]
            have b138 : IV x137 0 280 := by rw [ex137]; exact iv_mul kc_40 b_a1 (by decide)
            refine m_iload C dX12_bells_208 rfl ?_
            refine m_iadd C dX12_bells_210 ?_
            refine m_topi (fun x139 ex139 => ?_)
            have tx139 : x139.toInt = x137.toInt + x126.toInt := by rw [ex139, ti_addv b138 b127 (by decide)]
            have b140 : IV x139 0 284 := by rw [ex139]; exact iv_add b138 b127 (by decide)
            refine al_25 C b140 (by decide) rfl dX12_bells_211 ?_
            refine m_topi (fun x141 ex141 => ?_)
            have q142 : (nuJ σ (a1.toInt.toNat) 5) (y7.toInt.toNat / 625 % 5) = x141.toInt := by unfold nuJ; rw [if_pos (by omega), show 40 * (a1.toInt.toNat) + (y7.toInt.toNat / 625 % 5) = (x139.toInt.toNat) by omega, ← (fτ).1 25 0 (x139.toInt.toNat) (by simp) (by decide), show gV τ 25 0 (x139.toInt.toNat) = x141 from ex141.symm]
            have q144 := hν (y7.toInt.toNat / 625 % 5)
            have b143 : IV x141 0 20 := ⟨by omega, by omega⟩
            refine m_goto (tgt := 228) C dX12_bells_212 (by decide) ?_
            refine m_iadd C dX12_bells_228 ?_
            refine m_topi (fun x145 ex145 => ?_)
            have tx145 : x145.toInt = 0 + x141.toInt := by rw [ex145, ti_addv kc_0 b143 (by decide), kt_0]
            have b146 : IV x145 0 20 := by rw [ex145]; exact iv_add kc_0 b143 (by decide)
            refine m_istore (L1 := [some (.ref (G.1 22 0)), some (.int a1), some (.int 5), some (.int a3), some (.int 3125), some (.int y5), some (.int y6), some (.int y7), some (.int x130), some (.int 625), some (.int x145), some (.int 0), some (.int 0), some (.int x126)]) C dX12_bells_229 (by decide) rfl rfl ?_
            refine m_iload C dX12_bells_231 rfl ?_
            refine m_iload C dX12_bells_233 rfl ?_
            refine m_callS (n := 1) (st := [.int 0]) C (c_X12_sizeOfB l G τ (x145) iτ (iv_wk b146 (by decide))) q5_96 q5_94 q5_95 q1_7 (by decide +kernel) rfl (by decide) (by decide) rfl (Nat.le_of_ble_eq_true rfl) dX12_bells_235 ?_
            rintro _ τ147 ⟨x150, rfl, i148, f149, b151, h153⟩
            have g152 : Fr MS_X12_bells_5Z AS_X12_bells_5Z σ τ147 := Fr.call (fτ) f149 (by decide)
            have q154 : (gV τ147 26 0 (a1.toInt.toNat)).toInt = (gV τ 26 0 (a1.toInt.toNat)).toInt := congrArg Int32.toInt (show (gV τ147 26 0 (a1.toInt.toNat)) = (gV τ 26 0 (a1.toInt.toNat)) from (show gV τ147 26 0 (a1.toInt.toNat) = (gV τ 26 0 (a1.toInt.toNat)) from (f149.1 26 0 ((a1.toInt.toNat)) (by simp) (by decide)).trans rfl))
            have q155 : (gV τ147 27 0 (a1.toInt.toNat)).toInt = (gV τ 27 0 (a1.toInt.toNat)).toInt := congrArg Int32.toInt (show (gV τ147 27 0 (a1.toInt.toNat)) = (gV τ 27 0 (a1.toInt.toNat)) from (show gV τ147 27 0 (a1.toInt.toNat) = (gV τ 27 0 (a1.toInt.toNat)) from (f149.1 27 0 ((a1.toInt.toNat)) (by simp) (by decide)).trans rfl))
            show MW p l e _ s m args below meth c _ 14 G 0 0 238 [some (.ref (G.1 22 0)), some (.int a1), some (.int 5), some (.int a3), some (.int 3125), some (.int y5), some (.int y6), some (.int y7), some (.int x130), some (.int 625), some (.int x145), some (.int 0), some (.int 0), some (.int x126)] [.int x150, .int 0] τ147
            have q156 := kt_0
            refine m_callS (n := 2) (st := []) C (c_X12_greaterB l G τ147 (0) (x150) i148 ) q5_99 q5_97 q5_98 q1_7 (by decide +kernel) rfl (by decide) (by decide) rfl (Nat.le_of_ble_eq_true rfl) dX12_bells_238 ?_
            rintro _ τ157 ⟨x160, rfl, i158, f159, b161, h163⟩
            have g162 : Fr MS_X12_bells_5Z AS_X12_bells_5Z σ τ157 := Fr.call (g152) f159 (by decide)
            have q164 : (gV τ157 26 0 (a1.toInt.toNat)).toInt = (gV τ 26 0 (a1.toInt.toNat)).toInt := congrArg Int32.toInt (show (gV τ157 26 0 (a1.toInt.toNat)) = (gV τ 26 0 (a1.toInt.toNat)) from (show gV τ157 26 0 (a1.toInt.toNat) = (gV τ 26 0 (a1.toInt.toNat)) from (f159.1 26 0 ((a1.toInt.toNat)) (by simp) (by decide)).trans (show gV τ147 26 0 (a1.toInt.toNat) = (gV τ 26 0 (a1.toInt.toNat)) from (f149.1 26 0 ((a1.toInt.toNat)) (by simp) (by decide)).trans rfl)))
            have q165 : (gV τ157 27 0 (a1.toInt.toNat)).toInt = (gV τ 27 0 (a1.toInt.toNat)).toInt := congrArg Int32.toInt (show (gV τ157 27 0 (a1.toInt.toNat)) = (gV τ 27 0 (a1.toInt.toNat)) from (show gV τ157 27 0 (a1.toInt.toNat) = (gV τ 27 0 (a1.toInt.toNat)) from (f159.1 27 0 ((a1.toInt.toNat)) (by simp) (by decide)).trans (show gV τ147 27 0 (a1.toInt.toNat) = (gV τ 27 0 (a1.toInt.toNat)) from (f149.1 27 0 ((a1.toInt.toNat)) (by simp) (by decide)).trans rfl)))
            show MW p l e _ s m args below meth c _ 14 G 0 0 241 [some (.ref (G.1 22 0)), some (.int a1), some (.int 5), some (.int a3), some (.int 3125), some (.int y5), some (.int y6), some (.int y7), some (.int x130), some (.int 625), some (.int x145), some (.int 0), some (.int 0), some (.int x126)] [.int x160] τ157
            refine m_istore (L1 := [some (.ref (G.1 22 0)), some (.int a1), some (.int 5), some (.int a3), some (.int 3125), some (.int y5), some (.int y6), some (.int y7), some (.int x130), some (.int 625), some (.int x145), some (.int x160), some (.int 0), some (.int x126)]) C dX12_bells_241 (by decide) rfl rfl ?_
            have q167 : x126 = nI (y7.toInt.toNat / 625 % 5) := nI_of_ti (by omega) (by omega)
            rw [kt_0] at h163
            have h166 : bst (nuJ σ (a1.toInt.toNat) 5) 0 0 0 [(y7.toInt.toNat / 625 % 5)] = (x145.toInt, x160.toInt) := by
              have q := bst_one (b := (y7.toInt.toNat / 625 % 5)) (k := 0) (show bst (nuJ σ (a1.toInt.toNat) 5) 0 0 0 [] = (0, 0) from rfl) rfl
              rw [if_pos (by decide), show 0 + (nuJ σ (a1.toInt.toNat) 5) (y7.toInt.toNat / 625 % 5) = x145.toInt by omega, ← h153, ← h163] at q
              exact q
            clear h153 h163
            obtain ⟨x168, ex168⟩ : ∃ y : Int32, y = 0 + 1 := ⟨_, rfl⟩
            have b169 : IV x168 1 1 := by rw [ex168]; decide
            have tx168 : x168.toInt = 1 := by rw [ex168]; decide
            obtain rfl : x168 = 1 := by rw [ex168]; decide
            refine m_iinc (v := 1) (L1 := [some (.ref (G.1 22 0)), some (.int a1), some (.int 5), some (.int a3), some (.int 3125), some (.int y5), some (.int y6), some (.int y7), some (.int x130), some (.int 625), some (.int x145), some (.int x160), some (.int 1), some (.int x126)]) C dX12_bells_243 rfl (by decide) (by decide) rfl rfl ?_
            refine m_goto (tgt := 161) C dX12_bells_246 (by decide) ?_
            refine m_iload C dX12_bells_161 rfl ?_
            refine m_iload_n C dX12_bells_163 rfl rfl ?_
            refine m_icmp_ge (tgt := 249) C dX12_bells_164 (by decide) (fun c170 => ?_) (fun c170 => ?_)
            · first | exact absurd c170 (by decide) | exact absurd (by decide) c170
            · have f172 : 1 < 5 := by
                have q : _ := c170
                simp only [ti_nle, ti_nlt, ti_le, ti_lt, ti_eq, ti_ne, Classical.not_not, kt_1, kt_5] at q
                omega
              refine m_iload C dX12_bells_167 rfl ?_
              refine m_iload_n C dX12_bells_169 rfl rfl ?_
              refine m_idiv C dX12_bells_170 (iv_nz kc_5 (by decide)) ?_
              refine m_topi (fun x173 ex173 => ?_)
              have b174 : IV x173 125 125 := by rw [ex173]; decide
              have tx173 : x173.toInt = 125 := by rw [ex173]; decide
              obtain rfl : x173 = 125 := by rw [ex173]; decide
              refine m_istore (L1 := [some (.ref (G.1 22 0)), some (.int a1), some (.int 5), some (.int a3), some (.int 3125), some (.int y5), some (.int y6), some (.int y7), some (.int x130), some (.int 125), some (.int x145), some (.int x160), some (.int 1), some (.int x126)]) C dX12_bells_171 (by decide) rfl rfl ?_
              refine m_iload C dX12_bells_173 rfl ?_
              refine m_iload C dX12_bells_175 rfl ?_
              refine m_idiv C dX12_bells_177 (iv_nz kc_125 (by decide)) ?_
              refine m_topi (fun x175 ex175 => ?_)
              have b176 : IV x175 0 24 := by rw [ex175]; exact iv_div b118 kc_125 (by decide)
              have tx175 : x175.toInt = y7.toInt / 125 := by rw [ex175]; exact ti_divc b118 kc_125 (by decide)
              refine m_iload_n C dX12_bells_178 rfl rfl ?_
              refine m_irem C dX12_bells_179 (iv_nz kc_5 (by decide)) ?_
              refine m_topi (fun x177 ex177 => ?_)
              have b178 : IV x177 0 4 := by rw [ex177]; exact iv_rem b176 kc_5 (by decide)
              have tx177 : x177.toInt = x175.toInt % 5 := by rw [ex177]; exact ti_rem b176 kc_5 (by decide)
              refine m_istore (L1 := [some (.ref (G.1 22 0)), some (.int a1), some (.int 5), some (.int a3), some (.int 3125), some (.int y5), some (.int y6), some (.int y7), some (.int x130), some (.int 125), some (.int x145), some (.int x160), some (.int 1), some (.int x177)]) C dX12_bells_180 (by decide) rfl rfl ?_
              refine m_iload C dX12_bells_182 rfl ?_
              refine m_iconst (v := 1) C dX12_bells_184 (by decide) ?_
              refine m_iload C dX12_bells_185 rfl ?_
              refine m_ishl C dX12_bells_187 ?_
              refine m_topi (fun x179 ex179 => ?_)
              have b180 : IV x179 1 16 := by rw [ex179]; exact iv_shl1 b178 (by decide)
              refine m_ior C dX12_bells_188 ?_
              refine m_topi (fun x181 ex181 => ?_)
              have b182 : IV x181 0 31 := by rw [ex181]; exact iv_or 5 b131 b180 (by decide)
              refine m_istore (L1 := [some (.ref (G.1 22 0)), some (.int a1), some (.int 5), some (.int a3), some (.int 3125), some (.int y5), some (.int y6), some (.int y7), some (.int x181), some (.int 125), some (.int x145), some (.int x160), some (.int 1), some (.int x177)]) C dX12_bells_189 (by decide) rfl rfl ?_
              refine m_iload C dX12_bells_191 rfl ?_
              refine m_iload C dX12_bells_193 rfl ?_
              refine m_iconst (v := 2) C dX12_bells_195 (by decide) ?_
              refine m_irem C dX12_bells_196 (iv_nz kc_2 (by decide)) ?_
              refine m_topi (fun x183 ex183 => ?_)
              have b184 : IV x183 1 1 := by rw [ex183]; decide
              have tx183 : x183.toInt = 1 := by rw [ex183]; decide
              obtain rfl : x183 = 1 := by rw [ex183]; decide
              refine m_if_ne (tgt := 215) C dX12_bells_197 (by decide) (fun c185 => ?_) (fun c185 => ?_)
              · have f186 : 1 ≠ 0 := by
                  have q : _ := c185
                  simp only [ti_nle, ti_nlt, ti_le, ti_lt, ti_eq, ti_ne, Classical.not_not, kt_1, kt_0] at q
                  omega
                refine m_aload_n C dX12_bells_215 rfl rfl ?_
                refine g_22_2 C q4_118 dX12_bells_216 ?_
                refine m_bipush (v := 40) C dX12_bells_219 (by decide) ?_
                refine m_iload_n C dX12_bells_221 rfl rfl ?_
                refine m_imul C dX12_bells_222 ?_
                refine m_topi (fun x187 ex187 => ?_)
                have tx187 : x187.toInt = 40 * a1.toInt := by rw [ex187, ti_mulv kc_40 b_a1 (by decide), kt_40]
                have b188 : IV x187 0 280 := by rw [ex187]; exact iv_mul kc_40 b_a1 (by decide)
                refine m_iload C dX12_bells_223 rfl ?_
                refine m_iadd C dX12_bells_225 ?_
                refine m_topi (fun x189 ex189 => ?_)
                have tx189 : x189.toInt = x187.toInt + x177.toInt := by rw [ex189, ti_addv b188 b178 (by decide)]
                have b190 : IV x189 0 284 := by rw [ex189]; exact iv_add b188 b178 (by decide)
                refine al_25 C b190 (by decide) rfl dX12_bells_226 ?_
                refine m_topi (fun x191 ex191 => ?_)
                have q192 : (nuJ σ (a1.toInt.toNat) 5) (y7.toInt.toNat / 125 % 5) = x191.toInt := by unfold nuJ; rw [if_pos (by omega), show 40 * (a1.toInt.toNat) + (y7.toInt.toNat / 125 % 5) = (x189.toInt.toNat) by omega, ← (g162).1 25 0 (x189.toInt.toNat) (by simp) (by decide), show gV τ157 25 0 (x189.toInt.toNat) = x191 from ex191.symm]
                have q194 := hν (y7.toInt.toNat / 125 % 5)
                have b193 : IV x191 0 20 := ⟨by omega, by omega⟩
                refine m_ineg C dX12_bells_227 ?_
                refine m_topi (fun x195 ex195 => ?_)
                have q197 : x195.toInt = -x191.toInt := by rw [ex195]; exact ti_negv b193 (by decide)
                have b196 : IV x195 (-20) 0 := ⟨by omega, by omega⟩
                refine m_iadd C dX12_bells_228 ?_
                refine m_topi (fun x198 ex198 => ?_)
                have tx198 : x198.toInt = x145.toInt + x195.toInt := by rw [ex198, ti_addv b146 b196 (by decide)]
                have b199 : IV x198 (-20) 20 := by rw [ex198]; exact iv_add b146 b196 (by decide)
                refine m_istore (L1 := [some (.ref (G.1 22 0)), some (.int a1), some (.int 5), some (.int a3), some (.int 3125), some (.int y5), some (.int y6), some (.int y7), some (.int x181), some (.int 125), some (.int x198), some (.int x160), some (.int 1), some (.int x177)]) C dX12_bells_229 (by decide) rfl rfl ?_
                refine m_iload C dX12_bells_231 rfl ?_
                refine m_iload C dX12_bells_233 rfl ?_
                refine m_callS (n := 1) (st := [.int x160]) C (c_X12_sizeOfB l G τ157 (x198) i158 (iv_wk b199 (by decide))) q5_96 q5_94 q5_95 q1_7 (by decide +kernel) rfl (by decide) (by decide) rfl (Nat.le_of_ble_eq_true rfl) dX12_bells_235 ?_
                rintro _ τ200 ⟨x203, rfl, i201, f202, b204, h206⟩
                have g205 : Fr MS_X12_bells_5Z AS_X12_bells_5Z σ τ200 := Fr.call (g162) f202 (by decide)
                have q207 : (gV τ200 26 0 (a1.toInt.toNat)).toInt = (gV τ 26 0 (a1.toInt.toNat)).toInt := congrArg Int32.toInt (show (gV τ200 26 0 (a1.toInt.toNat)) = (gV τ 26 0 (a1.toInt.toNat)) from (show gV τ200 26 0 (a1.toInt.toNat) = (gV τ 26 0 (a1.toInt.toNat)) from (f202.1 26 0 ((a1.toInt.toNat)) (by simp) (by decide)).trans (show gV τ157 26 0 (a1.toInt.toNat) = (gV τ 26 0 (a1.toInt.toNat)) from (f159.1 26 0 ((a1.toInt.toNat)) (by simp) (by decide)).trans (show gV τ147 26 0 (a1.toInt.toNat) = (gV τ 26 0 (a1.toInt.toNat)) from (f149.1 26 0 ((a1.toInt.toNat)) (by simp) (by decide)).trans rfl))))
                have q208 : (gV τ200 27 0 (a1.toInt.toNat)).toInt = (gV τ 27 0 (a1.toInt.toNat)).toInt := congrArg Int32.toInt (show (gV τ200 27 0 (a1.toInt.toNat)) = (gV τ 27 0 (a1.toInt.toNat)) from (show gV τ200 27 0 (a1.toInt.toNat) = (gV τ 27 0 (a1.toInt.toNat)) from (f202.1 27 0 ((a1.toInt.toNat)) (by simp) (by decide)).trans (show gV τ157 27 0 (a1.toInt.toNat) = (gV τ 27 0 (a1.toInt.toNat)) from (f159.1 27 0 ((a1.toInt.toNat)) (by simp) (by decide)).trans (show gV τ147 27 0 (a1.toInt.toNat) = (gV τ 27 0 (a1.toInt.toNat)) from (f149.1 27 0 ((a1.toInt.toNat)) (by simp) (by decide)).trans rfl))))
                show MW p l e _ s m args below meth c _ 14 G 0 0 238 [some (.ref (G.1 22 0)), some (.int a1), some (.int 5), some (.int a3), some (.int 3125), some (.int y5), some (.int y6), some (.int y7), some (.int x181), some (.int 125), some (.int x198), some (.int x160), some (.int 1), some (.int x177)] [.int x203, .int x160] τ200
                refine m_callS (n := 2) (st := []) C (c_X12_greaterB l G τ200 (x160) (x203) i201 ) q5_99 q5_97 q5_98 q1_7 (by decide +kernel) rfl (by decide) (by decide) rfl (Nat.le_of_ble_eq_true rfl) dX12_bells_238 ?_
                rintro _ τ209 ⟨x212, rfl, i210, f211, b213, h215⟩
                have g214 : Fr MS_X12_bells_5Z AS_X12_bells_5Z σ τ209 := Fr.call (g205) f211 (by decide)
                have q216 : (gV τ209 26 0 (a1.toInt.toNat)).toInt = (gV τ 26 0 (a1.toInt.toNat)).toInt := congrArg Int32.toInt (show (gV τ209 26 0 (a1.toInt.toNat)) = (gV τ 26 0 (a1.toInt.toNat)) from (show gV τ209 26 0 (a1.toInt.toNat) = (gV τ 26 0 (a1.toInt.toNat)) from (f211.1 26 0 ((a1.toInt.toNat)) (by simp) (by decide)).trans (show gV τ200 26 0 (a1.toInt.toNat) = (gV τ 26 0 (a1.toInt.toNat)) from (f202.1 26 0 ((a1.toInt.toNat)) (by simp) (by decide)).trans (show gV τ157 26 0 (a1.toInt.toNat) = (gV τ 26 0 (a1.toInt.toNat)) from (f159.1 26 0 ((a1.toInt.toNat)) (by simp) (by decide)).trans (show gV τ147 26 0 (a1.toInt.toNat) = (gV τ 26 0 (a1.toInt.toNat)) from (f149.1 26 0 ((a1.toInt.toNat)) (by simp) (by decide)).trans rfl)))))
                have q217 : (gV τ209 27 0 (a1.toInt.toNat)).toInt = (gV τ 27 0 (a1.toInt.toNat)).toInt := congrArg Int32.toInt (show (gV τ209 27 0 (a1.toInt.toNat)) = (gV τ 27 0 (a1.toInt.toNat)) from (show gV τ209 27 0 (a1.toInt.toNat) = (gV τ 27 0 (a1.toInt.toNat)) from (f211.1 27 0 ((a1.toInt.toNat)) (by simp) (by decide)).trans (show gV τ200 27 0 (a1.toInt.toNat) = (gV τ 27 0 (a1.toInt.toNat)) from (f202.1 27 0 ((a1.toInt.toNat)) (by simp) (by decide)).trans (show gV τ157 27 0 (a1.toInt.toNat) = (gV τ 27 0 (a1.toInt.toNat)) from (f159.1 27 0 ((a1.toInt.toNat)) (by simp) (by decide)).trans (show gV τ147 27 0 (a1.toInt.toNat) = (gV τ 27 0 (a1.toInt.toNat)) from (f149.1 27 0 ((a1.toInt.toNat)) (by simp) (by decide)).trans rfl)))))
                show MW p l e _ s m args below meth c _ 14 G 0 0 241 [some (.ref (G.1 22 0)), some (.int a1), some (.int 5), some (.int a3), some (.int 3125), some (.int y5), some (.int y6), some (.int y7), some (.int x181), some (.int 125), some (.int x198), some (.int x160), some (.int 1), some (.int x177)] [.int x212] τ209
                refine m_istore (L1 := [some (.ref (G.1 22 0)), some (.int a1), some (.int 5), some (.int a3), some (.int 3125), some (.int y5), some (.int y6), some (.int y7), some (.int x181), some (.int 125), some (.int x198), some (.int x212), some (.int 1), some (.int x177)]) C dX12_bells_241 (by decide) rfl rfl ?_
                have q219 : x177 = nI (y7.toInt.toNat / 125 % 5) := nI_of_ti (by omega) (by omega)
                have h218 : bst (nuJ σ (a1.toInt.toNat) 5) 0 0 0 [(y7.toInt.toNat / 625 % 5), (y7.toInt.toNat / 125 % 5)] = (x198.toInt, x212.toInt) := by
                  have q := bst_one (b := (y7.toInt.toNat / 125 % 5)) (k := 1) (h166) rfl
                  rw [if_neg (by decide), show x145.toInt - (nuJ σ (a1.toInt.toNat) 5) (y7.toInt.toNat / 125 % 5) = x198.toInt by omega, ← h206, ← h215] at q
                  exact q
                clear h206 h215
                clear h166
                obtain ⟨x220, ex220⟩ : ∃ y : Int32, y = 1 + 1 := ⟨_, rfl⟩
                have b221 : IV x220 2 2 := by rw [ex220]; decide
                have tx220 : x220.toInt = 2 := by rw [ex220]; decide
                obtain rfl : x220 = 2 := by rw [ex220]; decide
                refine m_iinc (v := 2) (L1 := [some (.ref (G.1 22 0)), some (.int a1), some (.int 5), some (.int a3), some (.int 3125), some (.int y5), some (.int y6), some (.int y7), some (.int x181), some (.int 125), some (.int x198), some (.int x212), some (.int 2), some (.int x177)]) C dX12_bells_243 rfl (by decide) (by decide) rfl rfl ?_
                refine m_goto (tgt := 161) C dX12_bells_246 (by decide) ?_
                refine m_iload C dX12_bells_161 rfl ?_
                refine m_iload_n C dX12_bells_163 rfl rfl ?_
                refine m_icmp_ge (tgt := 249) C dX12_bells_164 (by decide) (fun c222 => ?_) (fun c222 => ?_)
                · first | exact absurd c222 (by decide) | exact absurd (by decide) c222
                · have f224 : 2 < 5 := by
                    have q : _ := c222
                    simp only [ti_nle, ti_nlt, ti_le, ti_lt, ti_eq, ti_ne, Classical.not_not, kt_2, kt_5] at q
                    omega
                  refine m_iload C dX12_bells_167 rfl ?_
                  refine m_iload_n C dX12_bells_169 rfl rfl ?_
                  refine m_idiv C dX12_bells_170 (iv_nz kc_5 (by decide)) ?_
                  refine m_topi (fun x225 ex225 => ?_)
                  have b226 : IV x225 25 25 := by rw [ex225]; decide
                  have tx225 : x225.toInt = 25 := by rw [ex225]; decide
                  obtain rfl : x225 = 25 := by rw [ex225]; decide
                  refine m_istore (L1 := [some (.ref (G.1 22 0)), some (.int a1), some (.int 5), some (.int a3), some (.int 3125), some (.int y5), some (.int y6), some (.int y7), some (.int x181), some (.int 25), some (.int x198), some (.int x212), some (.int 2), some (.int x177)]) C dX12_bells_171 (by decide) rfl rfl ?_
                  refine m_iload C dX12_bells_173 rfl ?_
                  refine m_iload C dX12_bells_175 rfl ?_
                  refine m_idiv C dX12_bells_177 (iv_nz kc_25 (by decide)) ?_
                  refine m_topi (fun x227 ex227 => ?_)
                  have b228 : IV x227 0 124 := by rw [ex227]; exact iv_div b118 kc_25 (by decide)
                  have tx227 : x227.toInt = y7.toInt / 25 := by rw [ex227]; exact ti_divc b118 kc_25 (by decide)
                  refine m_iload_n C dX12_bells_178 rfl rfl ?_
                  refine m_irem C dX12_bells_179 (iv_nz kc_5 (by decide)) ?_
                  refine m_topi (fun x229 ex229 => ?_)
                  have b230 : IV x229 0 4 := by rw [ex229]; exact iv_rem b228 kc_5 (by decide)
                  have tx229 : x229.toInt = x227.toInt % 5 := by rw [ex229]; exact ti_rem b228 kc_5 (by decide)
                  refine m_istore (L1 := [some (.ref (G.1 22 0)), some (.int a1), some (.int 5), some (.int a3), some (.int 3125), some (.int y5), some (.int y6), some (.int y7), some (.int x181), some (.int 25), some (.int x198), some (.int x212), some (.int 2), some (.int x229)]) C dX12_bells_180 (by decide) rfl rfl ?_
                  refine m_iload C dX12_bells_182 rfl ?_
                  refine m_iconst (v := 1) C dX12_bells_184 (by decide) ?_
                  refine m_iload C dX12_bells_185 rfl ?_
                  refine m_ishl C dX12_bells_187 ?_
                  refine m_topi (fun x231 ex231 => ?_)
                  have b232 : IV x231 1 16 := by rw [ex231]; exact iv_shl1 b230 (by decide)
                  refine m_ior C dX12_bells_188 ?_
                  refine m_topi (fun x233 ex233 => ?_)
                  have b234 : IV x233 0 31 := by rw [ex233]; exact iv_or 5 b182 b232 (by decide)
                  refine m_istore (L1 := [some (.ref (G.1 22 0)), some (.int a1), some (.int 5), some (.int a3), some (.int 3125), some (.int y5), some (.int y6), some (.int y7), some (.int x233), some (.int 25), some (.int x198), some (.int x212), some (.int 2), some (.int x229)]) C dX12_bells_189 (by decide) rfl rfl ?_
                  refine m_iload C dX12_bells_191 rfl ?_
                  refine m_iload C dX12_bells_193 rfl ?_
                  refine m_iconst (v := 2) C dX12_bells_195 (by decide) ?_
                  refine m_irem C dX12_bells_196 (iv_nz kc_2 (by decide)) ?_
                  refine m_topi (fun x235 ex235 => ?_)
                  have b236 : IV x235 0 0 := by rw [ex235]; decide
                  have tx235 : x235.toInt = 0 := by rw [ex235]; decide
                  obtain rfl : x235 = 0 := by rw [ex235]; decide
                  refine m_if_ne (tgt := 215) C dX12_bells_197 (by decide) (fun c237 => ?_) (fun c237 => ?_)
                  · first | exact absurd c237 (by decide) | exact absurd (by decide) c237
                  · have f239 : 0 = 0 := by
                      have q : _ := c237
                      simp only [ti_nle, ti_nlt, ti_le, ti_lt, ti_eq, ti_ne, Classical.not_not, kt_0, kt_0] at q
                      omega
                    refine m_aload_n C dX12_bells_200 rfl rfl ?_
                    refine g_22_2 C q4_118 dX12_bells_201 ?_
                    refine m_bipush (v := 40) C dX12_bells_204 (by decide) ?_
                    refine m_iload_n C dX12_bells_206 rfl rfl ?_
                    refine m_imul C dX12_bells_207 ?_
                    refine m_topi (fun x240 ex240 => ?_)
                    have tx240 : x240.toInt = 40 * a1.toInt := by rw [ex240, ti_mulv kc_40 b_a1 (by decide), kt_40]
                    have b241 : IV x240 0 280 := by rw [ex240]; exact iv_mul kc_40 b_a1 (by decide)
                    refine m_iload C dX12_bells_208 rfl ?_
                    refine m_iadd C dX12_bells_210 ?_
                    refine m_topi (fun x242 ex242 => ?_)
                    have tx242 : x242.toInt = x240.toInt + x229.toInt := by rw [ex242, ti_addv b241 b230 (by decide)]
                    have b243 : IV x242 0 284 := by rw [ex242]; exact iv_add b241 b230 (by decide)
                    refine al_25 C b243 (by decide) rfl dX12_bells_211 ?_
                    refine m_topi (fun x244 ex244 => ?_)
                    have q245 : (nuJ σ (a1.toInt.toNat) 5) (y7.toInt.toNat / 25 % 5) = x244.toInt := by unfold nuJ; rw [if_pos (by omega), show 40 * (a1.toInt.toNat) + (y7.toInt.toNat / 25 % 5) = (x242.toInt.toNat) by omega, ← (g214).1 25 0 (x242.toInt.toNat) (by simp) (by decide), show gV τ209 25 0 (x242.toInt.toNat) = x244 from ex244.symm]
                    have q247 := hν (y7.toInt.toNat / 25 % 5)
                    have b246 : IV x244 0 20 := ⟨by omega, by omega⟩
                    refine m_goto (tgt := 228) C dX12_bells_212 (by decide) ?_
                    refine m_iadd C dX12_bells_228 ?_
                    refine m_topi (fun x248 ex248 => ?_)
                    have tx248 : x248.toInt = x198.toInt + x244.toInt := by rw [ex248, ti_addv b199 b246 (by decide)]
                    have b249 : IV x248 (-20) 40 := by rw [ex248]; exact iv_add b199 b246 (by decide)
                    refine m_istore (L1 := [some (.ref (G.1 22 0)), some (.int a1), some (.int 5), some (.int a3), some (.int 3125), some (.int y5), some (.int y6), some (.int y7), some (.int x233), some (.int 25), some (.int x248), some (.int x212), some (.int 2), some (.int x229)]) C dX12_bells_229 (by decide) rfl rfl ?_
                    refine m_iload C dX12_bells_231 rfl ?_
                    refine m_iload C dX12_bells_233 rfl ?_
                    refine m_callS (n := 1) (st := [.int x212]) C (c_X12_sizeOfB l G τ209 (x248) i210 (iv_wk b249 (by decide))) q5_96 q5_94 q5_95 q1_7 (by decide +kernel) rfl (by decide) (by decide) rfl (Nat.le_of_ble_eq_true rfl) dX12_bells_235 ?_
                    rintro _ τ250 ⟨x253, rfl, i251, f252, b254, h256⟩
                    have g255 : Fr MS_X12_bells_5Z AS_X12_bells_5Z σ τ250 := Fr.call (g214) f252 (by decide)
                    have q257 : (gV τ250 26 0 (a1.toInt.toNat)).toInt = (gV τ 26 0 (a1.toInt.toNat)).toInt := congrArg Int32.toInt (show (gV τ250 26 0 (a1.toInt.toNat)) = (gV τ 26 0 (a1.toInt.toNat)) from (show gV τ250 26 0 (a1.toInt.toNat) = (gV τ 26 0 (a1.toInt.toNat)) from (f252.1 26 0 ((a1.toInt.toNat)) (by simp) (by decide)).trans (show gV τ209 26 0 (a1.toInt.toNat) = (gV τ 26 0 (a1.toInt.toNat)) from (f211.1 26 0 ((a1.toInt.toNat)) (by simp) (by decide)).trans (show gV τ200 26 0 (a1.toInt.toNat) = (gV τ 26 0 (a1.toInt.toNat)) from (f202.1 26 0 ((a1.toInt.toNat)) (by simp) (by decide)).trans (show gV τ157 26 0 (a1.toInt.toNat) = (gV τ 26 0 (a1.toInt.toNat)) from (f159.1 26 0 ((a1.toInt.toNat)) (by simp) (by decide)).trans (show gV τ147 26 0 (a1.toInt.toNat) = (gV τ 26 0 (a1.toInt.toNat)) from (f149.1 26 0 ((a1.toInt.toNat)) (by simp) (by decide)).trans rfl))))))
                    have q258 : (gV τ250 27 0 (a1.toInt.toNat)).toInt = (gV τ 27 0 (a1.toInt.toNat)).toInt := congrArg Int32.toInt (show (gV τ250 27 0 (a1.toInt.toNat)) = (gV τ 27 0 (a1.toInt.toNat)) from (show gV τ250 27 0 (a1.toInt.toNat) = (gV τ 27 0 (a1.toInt.toNat)) from (f252.1 27 0 ((a1.toInt.toNat)) (by simp) (by decide)).trans (show gV τ209 27 0 (a1.toInt.toNat) = (gV τ 27 0 (a1.toInt.toNat)) from (f211.1 27 0 ((a1.toInt.toNat)) (by simp) (by decide)).trans (show gV τ200 27 0 (a1.toInt.toNat) = (gV τ 27 0 (a1.toInt.toNat)) from (f202.1 27 0 ((a1.toInt.toNat)) (by simp) (by decide)).trans (show gV τ157 27 0 (a1.toInt.toNat) = (gV τ 27 0 (a1.toInt.toNat)) from (f159.1 27 0 ((a1.toInt.toNat)) (by simp) (by decide)).trans (show gV τ147 27 0 (a1.toInt.toNat) = (gV τ 27 0 (a1.toInt.toNat)) from (f149.1 27 0 ((a1.toInt.toNat)) (by simp) (by decide)).trans rfl))))))
                    show MW p l e _ s m args below meth c _ 14 G 0 0 238 [some (.ref (G.1 22 0)), some (.int a1), some (.int 5), some (.int a3), some (.int 3125), some (.int y5), some (.int y6), some (.int y7), some (.int x233), some (.int 25), some (.int x248), some (.int x212), some (.int 2), some (.int x229)] [.int x253, .int x212] τ250
                    refine m_callS (n := 2) (st := []) C (c_X12_greaterB l G τ250 (x212) (x253) i251 ) q5_99 q5_97 q5_98 q1_7 (by decide +kernel) rfl (by decide) (by decide) rfl (Nat.le_of_ble_eq_true rfl) dX12_bells_238 ?_
                    rintro _ τ259 ⟨x262, rfl, i260, f261, b263, h265⟩
                    have g264 : Fr MS_X12_bells_5Z AS_X12_bells_5Z σ τ259 := Fr.call (g255) f261 (by decide)
                    have q266 : (gV τ259 26 0 (a1.toInt.toNat)).toInt = (gV τ 26 0 (a1.toInt.toNat)).toInt := congrArg Int32.toInt (show (gV τ259 26 0 (a1.toInt.toNat)) = (gV τ 26 0 (a1.toInt.toNat)) from (show gV τ259 26 0 (a1.toInt.toNat) = (gV τ 26 0 (a1.toInt.toNat)) from (f261.1 26 0 ((a1.toInt.toNat)) (by simp) (by decide)).trans (show gV τ250 26 0 (a1.toInt.toNat) = (gV τ 26 0 (a1.toInt.toNat)) from (f252.1 26 0 ((a1.toInt.toNat)) (by simp) (by decide)).trans (show gV τ209 26 0 (a1.toInt.toNat) = (gV τ 26 0 (a1.toInt.toNat)) from (f211.1 26 0 ((a1.toInt.toNat)) (by simp) (by decide)).trans (show gV τ200 26 0 (a1.toInt.toNat) = (gV τ 26 0 (a1.toInt.toNat)) from (f202.1 26 0 ((a1.toInt.toNat)) (by simp) (by decide)).trans (show gV τ157 26 0 (a1.toInt.toNat) = (gV τ 26 0 (a1.toInt.toNat)) from (f159.1 26 0 ((a1.toInt.toNat)) (by simp) (by decide)).trans (show gV τ147 26 0 (a1.toInt.toNat) = (gV τ 26 0 (a1.toInt.toNat)) from (f149.1 26 0 ((a1.toInt.toNat)) (by simp) (by decide)).trans rfl)))))))
                    have q267 : (gV τ259 27 0 (a1.toInt.toNat)).toInt = (gV τ 27 0 (a1.toInt.toNat)).toInt := congrArg Int32.toInt (show (gV τ259 27 0 (a1.toInt.toNat)) = (gV τ 27 0 (a1.toInt.toNat)) from (show gV τ259 27 0 (a1.toInt.toNat) = (gV τ 27 0 (a1.toInt.toNat)) from (f261.1 27 0 ((a1.toInt.toNat)) (by simp) (by decide)).trans (show gV τ250 27 0 (a1.toInt.toNat) = (gV τ 27 0 (a1.toInt.toNat)) from (f252.1 27 0 ((a1.toInt.toNat)) (by simp) (by decide)).trans (show gV τ209 27 0 (a1.toInt.toNat) = (gV τ 27 0 (a1.toInt.toNat)) from (f211.1 27 0 ((a1.toInt.toNat)) (by simp) (by decide)).trans (show gV τ200 27 0 (a1.toInt.toNat) = (gV τ 27 0 (a1.toInt.toNat)) from (f202.1 27 0 ((a1.toInt.toNat)) (by simp) (by decide)).trans (show gV τ157 27 0 (a1.toInt.toNat) = (gV τ 27 0 (a1.toInt.toNat)) from (f159.1 27 0 ((a1.toInt.toNat)) (by simp) (by decide)).trans (show gV τ147 27 0 (a1.toInt.toNat) = (gV τ 27 0 (a1.toInt.toNat)) from (f149.1 27 0 ((a1.toInt.toNat)) (by simp) (by decide)).trans rfl)))))))
                    show MW p l e _ s m args below meth c _ 14 G 0 0 241 [some (.ref (G.1 22 0)), some (.int a1), some (.int 5), some (.int a3), some (.int 3125), some (.int y5), some (.int y6), some (.int y7), some (.int x233), some (.int 25), some (.int x248), some (.int x212), some (.int 2), some (.int x229)] [.int x262] τ259
                    refine m_istore (L1 := [some (.ref (G.1 22 0)), some (.int a1), some (.int 5), some (.int a3), some (.int 3125), some (.int y5), some (.int y6), some (.int y7), some (.int x233), some (.int 25), some (.int x248), some (.int x262), some (.int 2), some (.int x229)]) C dX12_bells_241 (by decide) rfl rfl ?_
                    have q269 : x229 = nI (y7.toInt.toNat / 25 % 5) := nI_of_ti (by omega) (by omega)
                    have h268 : bst (nuJ σ (a1.toInt.toNat) 5) 0 0 0 [(y7.toInt.toNat / 625 % 5), (y7.toInt.toNat / 125 % 5), (y7.toInt.toNat / 25 % 5)] = (x248.toInt, x262.toInt) := by
                      have q := bst_one (b := (y7.toInt.toNat / 25 % 5)) (k := 2) (h218) rfl
                      rw [if_pos (by decide), show x198.toInt + (nuJ σ (a1.toInt.toNat) 5) (y7.toInt.toNat / 25 % 5) = x248.toInt by omega, ← h256, ← h265] at q
                      exact q
                    clear h256 h265
                    clear h218
                    obtain ⟨x270, ex270⟩ : ∃ y : Int32, y = 2 + 1 := ⟨_, rfl⟩
                    have b271 : IV x270 3 3 := by rw [ex270]; decide
                    have tx270 : x270.toInt = 3 := by rw [ex270]; decide
                    obtain rfl : x270 = 3 := by rw [ex270]; decide
                    refine m_iinc (v := 3) (L1 := [some (.ref (G.1 22 0)), some (.int a1), some (.int 5), some (.int a3), some (.int 3125), some (.int y5), some (.int y6), some (.int y7), some (.int x233), some (.int 25), some (.int x248), some (.int x262), some (.int 3), some (.int x229)]) C dX12_bells_243 rfl (by decide) (by decide) rfl rfl ?_
                    refine m_goto (tgt := 161) C dX12_bells_246 (by decide) ?_
                    refine m_iload C dX12_bells_161 rfl ?_
                    refine m_iload_n C dX12_bells_163 rfl rfl ?_
                    refine m_icmp_ge (tgt := 249) C dX12_bells_164 (by decide) (fun c272 => ?_) (fun c272 => ?_)
                    · first | exact absurd c272 (by decide) | exact absurd (by decide) c272
                    · have f274 : 3 < 5 := by
                        have q : _ := c272
                        simp only [ti_nle, ti_nlt, ti_le, ti_lt, ti_eq, ti_ne, Classical.not_not, kt_3, kt_5] at q
                        omega
                      refine m_iload C dX12_bells_167 rfl ?_
                      refine m_iload_n C dX12_bells_169 rfl rfl ?_
                      refine m_idiv C dX12_bells_170 (iv_nz kc_5 (by decide)) ?_
                      refine m_topi (fun x275 ex275 => ?_)
                      have b276 : IV x275 5 5 := by rw [ex275]; decide
                      have tx275 : x275.toInt = 5 := by rw [ex275]; decide
                      obtain rfl : x275 = 5 := by rw [ex275]; decide
                      refine m_istore (L1 := [some (.ref (G.1 22 0)), some (.int a1), some (.int 5), some (.int a3), some (.int 3125), some (.int y5), some (.int y6), some (.int y7), some (.int x233), some (.int 5), some (.int x248), some (.int x262), some (.int 3), some (.int x229)]) C dX12_bells_171 (by decide) rfl rfl ?_
                      refine m_iload C dX12_bells_173 rfl ?_
                      refine m_iload C dX12_bells_175 rfl ?_
                      refine m_idiv C dX12_bells_177 (iv_nz kc_5 (by decide)) ?_
                      refine m_topi (fun x277 ex277 => ?_)
                      have b278 : IV x277 0 624 := by rw [ex277]; exact iv_div b118 kc_5 (by decide)
                      have tx277 : x277.toInt = y7.toInt / 5 := by rw [ex277]; exact ti_divc b118 kc_5 (by decide)
                      refine m_iload_n C dX12_bells_178 rfl rfl ?_
                      refine m_irem C dX12_bells_179 (iv_nz kc_5 (by decide)) ?_
                      refine m_topi (fun x279 ex279 => ?_)
                      have b280 : IV x279 0 4 := by rw [ex279]; exact iv_rem b278 kc_5 (by decide)
                      have tx279 : x279.toInt = x277.toInt % 5 := by rw [ex279]; exact ti_rem b278 kc_5 (by decide)
                      refine m_istore (L1 := [some (.ref (G.1 22 0)), some (.int a1), some (.int 5), some (.int a3), some (.int 3125), some (.int y5), some (.int y6), some (.int y7), some (.int x233), some (.int 5), some (.int x248), some (.int x262), some (.int 3), some (.int x279)]) C dX12_bells_180 (by decide) rfl rfl ?_
                      refine m_iload C dX12_bells_182 rfl ?_
                      refine m_iconst (v := 1) C dX12_bells_184 (by decide) ?_
                      refine m_iload C dX12_bells_185 rfl ?_
                      refine m_ishl C dX12_bells_187 ?_
                      refine m_topi (fun x281 ex281 => ?_)
                      have b282 : IV x281 1 16 := by rw [ex281]; exact iv_shl1 b280 (by decide)
                      refine m_ior C dX12_bells_188 ?_
                      refine m_topi (fun x283 ex283 => ?_)
                      have b284 : IV x283 0 31 := by rw [ex283]; exact iv_or 5 b234 b282 (by decide)
                      refine m_istore (L1 := [some (.ref (G.1 22 0)), some (.int a1), some (.int 5), some (.int a3), some (.int 3125), some (.int y5), some (.int y6), some (.int y7), some (.int x283), some (.int 5), some (.int x248), some (.int x262), some (.int 3), some (.int x279)]) C dX12_bells_189 (by decide) rfl rfl ?_
                      refine m_iload C dX12_bells_191 rfl ?_
                      refine m_iload C dX12_bells_193 rfl ?_
                      refine m_iconst (v := 2) C dX12_bells_195 (by decide) ?_
                      refine m_irem C dX12_bells_196 (iv_nz kc_2 (by decide)) ?_
                      refine m_topi (fun x285 ex285 => ?_)
                      have b286 : IV x285 1 1 := by rw [ex285]; decide
                      have tx285 : x285.toInt = 1 := by rw [ex285]; decide
                      obtain rfl : x285 = 1 := by rw [ex285]; decide
                      refine m_if_ne (tgt := 215) C dX12_bells_197 (by decide) (fun c287 => ?_) (fun c287 => ?_)
                      · have f288 : 1 ≠ 0 := by
                          have q : _ := c287
                          simp only [ti_nle, ti_nlt, ti_le, ti_lt, ti_eq, ti_ne, Classical.not_not, kt_1, kt_0] at q
                          omega
                        refine m_aload_n C dX12_bells_215 rfl rfl ?_
                        refine g_22_2 C q4_118 dX12_bells_216 ?_
                        refine m_bipush (v := 40) C dX12_bells_219 (by decide) ?_
                        refine m_iload_n C dX12_bells_221 rfl rfl ?_
                        refine m_imul C dX12_bells_222 ?_
                        refine m_topi (fun x289 ex289 => ?_)
                        have tx289 : x289.toInt = 40 * a1.toInt := by rw [ex289, ti_mulv kc_40 b_a1 (by decide), kt_40]
                        have b290 : IV x289 0 280 := by rw [ex289]; exact iv_mul kc_40 b_a1 (by decide)
                        refine m_iload C dX12_bells_223 rfl ?_
                        refine m_iadd C dX12_bells_225 ?_
                        refine m_topi (fun x291 ex291 => ?_)
                        have tx291 : x291.toInt = x289.toInt + x279.toInt := by rw [ex291, ti_addv b290 b280 (by decide)]
                        have b292 : IV x291 0 284 := by rw [ex291]; exact iv_add b290 b280 (by decide)
                        refine al_25 C b292 (by decide) rfl dX12_bells_226 ?_
                        refine m_topi (fun x293 ex293 => ?_)
                        have q294 : (nuJ σ (a1.toInt.toNat) 5) (y7.toInt.toNat / 5 % 5) = x293.toInt := by unfold nuJ; rw [if_pos (by omega), show 40 * (a1.toInt.toNat) + (y7.toInt.toNat / 5 % 5) = (x291.toInt.toNat) by omega, ← (g264).1 25 0 (x291.toInt.toNat) (by simp) (by decide), show gV τ259 25 0 (x291.toInt.toNat) = x293 from ex293.symm]
                        have q296 := hν (y7.toInt.toNat / 5 % 5)
                        have b295 : IV x293 0 20 := ⟨by omega, by omega⟩
                        refine m_ineg C dX12_bells_227 ?_
                        refine m_topi (fun x297 ex297 => ?_)
                        have q299 : x297.toInt = -x293.toInt := by rw [ex297]; exact ti_negv b295 (by decide)
                        have b298 : IV x297 (-20) 0 := ⟨by omega, by omega⟩
                        refine m_iadd C dX12_bells_228 ?_
                        refine m_topi (fun x300 ex300 => ?_)
                        have tx300 : x300.toInt = x248.toInt + x297.toInt := by rw [ex300, ti_addv b249 b298 (by decide)]
                        have b301 : IV x300 (-40) 40 := by rw [ex300]; exact iv_add b249 b298 (by decide)
                        refine m_istore (L1 := [some (.ref (G.1 22 0)), some (.int a1), some (.int 5), some (.int a3), some (.int 3125), some (.int y5), some (.int y6), some (.int y7), some (.int x283), some (.int 5), some (.int x300), some (.int x262), some (.int 3), some (.int x279)]) C dX12_bells_229 (by decide) rfl rfl ?_
                        refine m_iload C dX12_bells_231 rfl ?_
                        refine m_iload C dX12_bells_233 rfl ?_
                        refine m_callS (n := 1) (st := [.int x262]) C (c_X12_sizeOfB l G τ259 (x300) i260 (iv_wk b301 (by decide))) q5_96 q5_94 q5_95 q1_7 (by decide +kernel) rfl (by decide) (by decide) rfl (Nat.le_of_ble_eq_true rfl) dX12_bells_235 ?_
                        rintro _ τ302 ⟨x305, rfl, i303, f304, b306, h308⟩
                        have g307 : Fr MS_X12_bells_5Z AS_X12_bells_5Z σ τ302 := Fr.call (g264) f304 (by decide)
                        have q309 : (gV τ302 26 0 (a1.toInt.toNat)).toInt = (gV τ 26 0 (a1.toInt.toNat)).toInt := congrArg Int32.toInt (show (gV τ302 26 0 (a1.toInt.toNat)) = (gV τ 26 0 (a1.toInt.toNat)) from (show gV τ302 26 0 (a1.toInt.toNat) = (gV τ 26 0 (a1.toInt.toNat)) from (f304.1 26 0 ((a1.toInt.toNat)) (by simp) (by decide)).trans (show gV τ259 26 0 (a1.toInt.toNat) = (gV τ 26 0 (a1.toInt.toNat)) from (f261.1 26 0 ((a1.toInt.toNat)) (by simp) (by decide)).trans (show gV τ250 26 0 (a1.toInt.toNat) = (gV τ 26 0 (a1.toInt.toNat)) from (f252.1 26 0 ((a1.toInt.toNat)) (by simp) (by decide)).trans (show gV τ209 26 0 (a1.toInt.toNat) = (gV τ 26 0 (a1.toInt.toNat)) from (f211.1 26 0 ((a1.toInt.toNat)) (by simp) (by decide)).trans (show gV τ200 26 0 (a1.toInt.toNat) = (gV τ 26 0 (a1.toInt.toNat)) from (f202.1 26 0 ((a1.toInt.toNat)) (by simp) (by decide)).trans (show gV τ157 26 0 (a1.toInt.toNat) = (gV τ 26 0 (a1.toInt.toNat)) from (f159.1 26 0 ((a1.toInt.toNat)) (by simp) (by decide)).trans (show gV τ147 26 0 (a1.toInt.toNat) = (gV τ 26 0 (a1.toInt.toNat)) from (f149.1 26 0 ((a1.toInt.toNat)) (by simp) (by decide)).trans rfl))))))))
                        have q310 : (gV τ302 27 0 (a1.toInt.toNat)).toInt = (gV τ 27 0 (a1.toInt.toNat)).toInt := congrArg Int32.toInt (show (gV τ302 27 0 (a1.toInt.toNat)) = (gV τ 27 0 (a1.toInt.toNat)) from (show gV τ302 27 0 (a1.toInt.toNat) = (gV τ 27 0 (a1.toInt.toNat)) from (f304.1 27 0 ((a1.toInt.toNat)) (by simp) (by decide)).trans (show gV τ259 27 0 (a1.toInt.toNat) = (gV τ 27 0 (a1.toInt.toNat)) from (f261.1 27 0 ((a1.toInt.toNat)) (by simp) (by decide)).trans (show gV τ250 27 0 (a1.toInt.toNat) = (gV τ 27 0 (a1.toInt.toNat)) from (f252.1 27 0 ((a1.toInt.toNat)) (by simp) (by decide)).trans (show gV τ209 27 0 (a1.toInt.toNat) = (gV τ 27 0 (a1.toInt.toNat)) from (f211.1 27 0 ((a1.toInt.toNat)) (by simp) (by decide)).trans (show gV τ200 27 0 (a1.toInt.toNat) = (gV τ 27 0 (a1.toInt.toNat)) from (f202.1 27 0 ((a1.toInt.toNat)) (by simp) (by decide)).trans (show gV τ157 27 0 (a1.toInt.toNat) = (gV τ 27 0 (a1.toInt.toNat)) from (f159.1 27 0 ((a1.toInt.toNat)) (by simp) (by decide)).trans (show gV τ147 27 0 (a1.toInt.toNat) = (gV τ 27 0 (a1.toInt.toNat)) from (f149.1 27 0 ((a1.toInt.toNat)) (by simp) (by decide)).trans rfl))))))))
                        show MW p l e _ s m args below meth c _ 14 G 0 0 238 [some (.ref (G.1 22 0)), some (.int a1), some (.int 5), some (.int a3), some (.int 3125), some (.int y5), some (.int y6), some (.int y7), some (.int x283), some (.int 5), some (.int x300), some (.int x262), some (.int 3), some (.int x279)] [.int x305, .int x262] τ302
                        refine m_callS (n := 2) (st := []) C (c_X12_greaterB l G τ302 (x262) (x305) i303 ) q5_99 q5_97 q5_98 q1_7 (by decide +kernel) rfl (by decide) (by decide) rfl (Nat.le_of_ble_eq_true rfl) dX12_bells_238 ?_
                        rintro _ τ311 ⟨x314, rfl, i312, f313, b315, h317⟩
                        have g316 : Fr MS_X12_bells_5Z AS_X12_bells_5Z σ τ311 := Fr.call (g307) f313 (by decide)
                        have q318 : (gV τ311 26 0 (a1.toInt.toNat)).toInt = (gV τ 26 0 (a1.toInt.toNat)).toInt := congrArg Int32.toInt (show (gV τ311 26 0 (a1.toInt.toNat)) = (gV τ 26 0 (a1.toInt.toNat)) from (show gV τ311 26 0 (a1.toInt.toNat) = (gV τ 26 0 (a1.toInt.toNat)) from (f313.1 26 0 ((a1.toInt.toNat)) (by simp) (by decide)).trans (show gV τ302 26 0 (a1.toInt.toNat) = (gV τ 26 0 (a1.toInt.toNat)) from (f304.1 26 0 ((a1.toInt.toNat)) (by simp) (by decide)).trans (show gV τ259 26 0 (a1.toInt.toNat) = (gV τ 26 0 (a1.toInt.toNat)) from (f261.1 26 0 ((a1.toInt.toNat)) (by simp) (by decide)).trans (show gV τ250 26 0 (a1.toInt.toNat) = (gV τ 26 0 (a1.toInt.toNat)) from (f252.1 26 0 ((a1.toInt.toNat)) (by simp) (by decide)).trans (show gV τ209 26 0 (a1.toInt.toNat) = (gV τ 26 0 (a1.toInt.toNat)) from (f211.1 26 0 ((a1.toInt.toNat)) (by simp) (by decide)).trans (show gV τ200 26 0 (a1.toInt.toNat) = (gV τ 26 0 (a1.toInt.toNat)) from (f202.1 26 0 ((a1.toInt.toNat)) (by simp) (by decide)).trans (show gV τ157 26 0 (a1.toInt.toNat) = (gV τ 26 0 (a1.toInt.toNat)) from (f159.1 26 0 ((a1.toInt.toNat)) (by simp) (by decide)).trans (show gV τ147 26 0 (a1.toInt.toNat) = (gV τ 26 0 (a1.toInt.toNat)) from (f149.1 26 0 ((a1.toInt.toNat)) (by simp) (by decide)).trans rfl)))))))))
                        have q319 : (gV τ311 27 0 (a1.toInt.toNat)).toInt = (gV τ 27 0 (a1.toInt.toNat)).toInt := congrArg Int32.toInt (show (gV τ311 27 0 (a1.toInt.toNat)) = (gV τ 27 0 (a1.toInt.toNat)) from (show gV τ311 27 0 (a1.toInt.toNat) = (gV τ 27 0 (a1.toInt.toNat)) from (f313.1 27 0 ((a1.toInt.toNat)) (by simp) (by decide)).trans (show gV τ302 27 0 (a1.toInt.toNat) = (gV τ 27 0 (a1.toInt.toNat)) from (f304.1 27 0 ((a1.toInt.toNat)) (by simp) (by decide)).trans (show gV τ259 27 0 (a1.toInt.toNat) = (gV τ 27 0 (a1.toInt.toNat)) from (f261.1 27 0 ((a1.toInt.toNat)) (by simp) (by decide)).trans (show gV τ250 27 0 (a1.toInt.toNat) = (gV τ 27 0 (a1.toInt.toNat)) from (f252.1 27 0 ((a1.toInt.toNat)) (by simp) (by decide)).trans (show gV τ209 27 0 (a1.toInt.toNat) = (gV τ 27 0 (a1.toInt.toNat)) from (f211.1 27 0 ((a1.toInt.toNat)) (by simp) (by decide)).trans (show gV τ200 27 0 (a1.toInt.toNat) = (gV τ 27 0 (a1.toInt.toNat)) from (f202.1 27 0 ((a1.toInt.toNat)) (by simp) (by decide)).trans (show gV τ157 27 0 (a1.toInt.toNat) = (gV τ 27 0 (a1.toInt.toNat)) from (f159.1 27 0 ((a1.toInt.toNat)) (by simp) (by decide)).trans (show gV τ147 27 0 (a1.toInt.toNat) = (gV τ 27 0 (a1.toInt.toNat)) from (f149.1 27 0 ((a1.toInt.toNat)) (by simp) (by decide)).trans rfl)))))))))
                        show MW p l e _ s m args below meth c _ 14 G 0 0 241 [some (.ref (G.1 22 0)), some (.int a1), some (.int 5), some (.int a3), some (.int 3125), some (.int y5), some (.int y6), some (.int y7), some (.int x283), some (.int 5), some (.int x300), some (.int x262), some (.int 3), some (.int x279)] [.int x314] τ311
                        refine m_istore (L1 := [some (.ref (G.1 22 0)), some (.int a1), some (.int 5), some (.int a3), some (.int 3125), some (.int y5), some (.int y6), some (.int y7), some (.int x283), some (.int 5), some (.int x300), some (.int x314), some (.int 3), some (.int x279)]) C dX12_bells_241 (by decide) rfl rfl ?_
                        have q321 : x279 = nI (y7.toInt.toNat / 5 % 5) := nI_of_ti (by omega) (by omega)
                        have h320 : bst (nuJ σ (a1.toInt.toNat) 5) 0 0 0 [(y7.toInt.toNat / 625 % 5), (y7.toInt.toNat / 125 % 5), (y7.toInt.toNat / 25 % 5), (y7.toInt.toNat / 5 % 5)] = (x300.toInt, x314.toInt) := by
                          have q := bst_one (b := (y7.toInt.toNat / 5 % 5)) (k := 3) (h268) rfl
                          rw [if_neg (by decide), show x248.toInt - (nuJ σ (a1.toInt.toNat) 5) (y7.toInt.toNat / 5 % 5) = x300.toInt by omega, ← h308, ← h317] at q
                          exact q
                        clear h308 h317
                        clear h268
                        obtain ⟨x322, ex322⟩ : ∃ y : Int32, y = 3 + 1 := ⟨_, rfl⟩
                        have b323 : IV x322 4 4 := by rw [ex322]; decide
                        have tx322 : x322.toInt = 4 := by rw [ex322]; decide
                        obtain rfl : x322 = 4 := by rw [ex322]; decide
                        refine m_iinc (v := 4) (L1 := [some (.ref (G.1 22 0)), some (.int a1), some (.int 5), some (.int a3), some (.int 3125), some (.int y5), some (.int y6), some (.int y7), some (.int x283), some (.int 5), some (.int x300), some (.int x314), some (.int 4), some (.int x279)]) C dX12_bells_243 rfl (by decide) (by decide) rfl rfl ?_
                        refine m_goto (tgt := 161) C dX12_bells_246 (by decide) ?_
                        refine m_iload C dX12_bells_161 rfl ?_
                        refine m_iload_n C dX12_bells_163 rfl rfl ?_
                        refine m_icmp_ge (tgt := 249) C dX12_bells_164 (by decide) (fun c324 => ?_) (fun c324 => ?_)
                        · first | exact absurd c324 (by decide) | exact absurd (by decide) c324
                        · have f326 : 4 < 5 := by
                            have q : _ := c324
                            simp only [ti_nle, ti_nlt, ti_le, ti_lt, ti_eq, ti_ne, Classical.not_not, kt_4, kt_5] at q
                            omega
                          refine m_iload C dX12_bells_167 rfl ?_
                          refine m_iload_n C dX12_bells_169 rfl rfl ?_
                          refine m_idiv C dX12_bells_170 (iv_nz kc_5 (by decide)) ?_
                          refine m_topi (fun x327 ex327 => ?_)
                          have b328 : IV x327 1 1 := by rw [ex327]; decide
                          have tx327 : x327.toInt = 1 := by rw [ex327]; decide
                          obtain rfl : x327 = 1 := by rw [ex327]; decide
                          refine m_istore (L1 := [some (.ref (G.1 22 0)), some (.int a1), some (.int 5), some (.int a3), some (.int 3125), some (.int y5), some (.int y6), some (.int y7), some (.int x283), some (.int 1), some (.int x300), some (.int x314), some (.int 4), some (.int x279)]) C dX12_bells_171 (by decide) rfl rfl ?_
                          refine m_iload C dX12_bells_173 rfl ?_
                          refine m_iload C dX12_bells_175 rfl ?_
                          refine m_idiv C dX12_bells_177 (iv_nz kc_1 (by decide)) ?_
                          refine m_topi (fun x329 ex329 => ?_)
                          have b330 : IV x329 0 3124 := by rw [ex329]; exact iv_div b118 kc_1 (by decide)
                          have tx329 : x329.toInt = y7.toInt / 1 := by rw [ex329]; exact ti_divc b118 kc_1 (by decide)
                          refine m_iload_n C dX12_bells_178 rfl rfl ?_
                          refine m_irem C dX12_bells_179 (iv_nz kc_5 (by decide)) ?_
                          refine m_topi (fun x331 ex331 => ?_)
                          have b332 : IV x331 0 4 := by rw [ex331]; exact iv_rem b330 kc_5 (by decide)
                          have tx331 : x331.toInt = x329.toInt % 5 := by rw [ex331]; exact ti_rem b330 kc_5 (by decide)
                          refine m_istore (L1 := [some (.ref (G.1 22 0)), some (.int a1), some (.int 5), some (.int a3), some (.int 3125), some (.int y5), some (.int y6), some (.int y7), some (.int x283), some (.int 1), some (.int x300), some (.int x314), some (.int 4), some (.int x331)]) C dX12_bells_180 (by decide) rfl rfl ?_
                          refine m_iload C dX12_bells_182 rfl ?_
                          refine m_iconst (v := 1) C dX12_bells_184 (by decide) ?_
                          refine m_iload C dX12_bells_185 rfl ?_
                          refine m_ishl C dX12_bells_187 ?_
                          refine m_topi (fun x333 ex333 => ?_)
                          have b334 : IV x333 1 16 := by rw [ex333]; exact iv_shl1 b332 (by decide)
                          refine m_ior C dX12_bells_188 ?_
                          refine m_topi (fun x335 ex335 => ?_)
                          have b336 : IV x335 0 31 := by rw [ex335]; exact iv_or 5 b284 b334 (by decide)
                          refine m_istore (L1 := [some (.ref (G.1 22 0)), some (.int a1), some (.int 5), some (.int a3), some (.int 3125), some (.int y5), some (.int y6), some (.int y7), some (.int x335), some (.int 1), some (.int x300), some (.int x314), some (.int 4), some (.int x331)]) C dX12_bells_189 (by decide) rfl rfl ?_
                          refine m_iload C dX12_bells_191 rfl ?_
                          refine m_iload C dX12_bells_193 rfl ?_
                          refine m_iconst (v := 2) C dX12_bells_195 (by decide) ?_
                          refine m_irem C dX12_bells_196 (iv_nz kc_2 (by decide)) ?_
                          refine m_topi (fun x337 ex337 => ?_)
                          have b338 : IV x337 0 0 := by rw [ex337]; decide
                          have tx337 : x337.toInt = 0 := by rw [ex337]; decide
                          obtain rfl : x337 = 0 := by rw [ex337]; decide
                          refine m_if_ne (tgt := 215) C dX12_bells_197 (by decide) (fun c339 => ?_) (fun c339 => ?_)
                          · first | exact absurd c339 (by decide) | exact absurd (by decide) c339
                          · have f341 : 0 = 0 := by
                              have q : _ := c339
                              simp only [ti_nle, ti_nlt, ti_le, ti_lt, ti_eq, ti_ne, Classical.not_not, kt_0, kt_0] at q
                              omega
                            refine m_aload_n C dX12_bells_200 rfl rfl ?_
                            refine g_22_2 C q4_118 dX12_bells_201 ?_
                            refine m_bipush (v := 40) C dX12_bells_204 (by decide) ?_
                            refine m_iload_n C dX12_bells_206 rfl rfl ?_
                            refine m_imul C dX12_bells_207 ?_
                            refine m_topi (fun x342 ex342 => ?_)
                            have tx342 : x342.toInt = 40 * a1.toInt := by rw [ex342, ti_mulv kc_40 b_a1 (by decide), kt_40]
                            have b343 : IV x342 0 280 := by rw [ex342]; exact iv_mul kc_40 b_a1 (by decide)
                            refine m_iload C dX12_bells_208 rfl ?_
                            refine m_iadd C dX12_bells_210 ?_
                            refine m_topi (fun x344 ex344 => ?_)
                            have tx344 : x344.toInt = x342.toInt + x331.toInt := by rw [ex344, ti_addv b343 b332 (by decide)]
                            have b345 : IV x344 0 284 := by rw [ex344]; exact iv_add b343 b332 (by decide)
                            refine al_25 C b345 (by decide) rfl dX12_bells_211 ?_
                            refine m_topi (fun x346 ex346 => ?_)
                            have q347 : (nuJ σ (a1.toInt.toNat) 5) (y7.toInt.toNat / 1 % 5) = x346.toInt := by unfold nuJ; rw [if_pos (by omega), show 40 * (a1.toInt.toNat) + (y7.toInt.toNat / 1 % 5) = (x344.toInt.toNat) by omega, ← (g316).1 25 0 (x344.toInt.toNat) (by simp) (by decide), show gV τ311 25 0 (x344.toInt.toNat) = x346 from ex346.symm]
                            have q349 := hν (y7.toInt.toNat / 1 % 5)
                            have b348 : IV x346 0 20 := ⟨by omega, by omega⟩
                            refine m_goto (tgt := 228) C dX12_bells_212 (by decide) ?_
                            refine m_iadd C dX12_bells_228 ?_
                            refine m_topi (fun x350 ex350 => ?_)
                            have tx350 : x350.toInt = x300.toInt + x346.toInt := by rw [ex350, ti_addv b301 b348 (by decide)]
                            have b351 : IV x350 (-40) 60 := by rw [ex350]; exact iv_add b301 b348 (by decide)
                            refine m_istore (L1 := [some (.ref (G.1 22 0)), some (.int a1), some (.int 5), some (.int a3), some (.int 3125), some (.int y5), some (.int y6), some (.int y7), some (.int x335), some (.int 1), some (.int x350), some (.int x314), some (.int 4), some (.int x331)]) C dX12_bells_229 (by decide) rfl rfl ?_
                            refine m_iload C dX12_bells_231 rfl ?_
                            refine m_iload C dX12_bells_233 rfl ?_
                            refine m_callS (n := 1) (st := [.int x314]) C (c_X12_sizeOfB l G τ311 (x350) i312 (iv_wk b351 (by decide))) q5_96 q5_94 q5_95 q1_7 (by decide +kernel) rfl (by decide) (by decide) rfl (Nat.le_of_ble_eq_true rfl) dX12_bells_235 ?_
                            rintro _ τ352 ⟨x355, rfl, i353, f354, b356, h358⟩
                            have g357 : Fr MS_X12_bells_5Z AS_X12_bells_5Z σ τ352 := Fr.call (g316) f354 (by decide)
                            have q359 : (gV τ352 26 0 (a1.toInt.toNat)).toInt = (gV τ 26 0 (a1.toInt.toNat)).toInt := congrArg Int32.toInt (show (gV τ352 26 0 (a1.toInt.toNat)) = (gV τ 26 0 (a1.toInt.toNat)) from (show gV τ352 26 0 (a1.toInt.toNat) = (gV τ 26 0 (a1.toInt.toNat)) from (f354.1 26 0 ((a1.toInt.toNat)) (by simp) (by decide)).trans (show gV τ311 26 0 (a1.toInt.toNat) = (gV τ 26 0 (a1.toInt.toNat)) from (f313.1 26 0 ((a1.toInt.toNat)) (by simp) (by decide)).trans (show gV τ302 26 0 (a1.toInt.toNat) = (gV τ 26 0 (a1.toInt.toNat)) from (f304.1 26 0 ((a1.toInt.toNat)) (by simp) (by decide)).trans (show gV τ259 26 0 (a1.toInt.toNat) = (gV τ 26 0 (a1.toInt.toNat)) from (f261.1 26 0 ((a1.toInt.toNat)) (by simp) (by decide)).trans (show gV τ250 26 0 (a1.toInt.toNat) = (gV τ 26 0 (a1.toInt.toNat)) from (f252.1 26 0 ((a1.toInt.toNat)) (by simp) (by decide)).trans (show gV τ209 26 0 (a1.toInt.toNat) = (gV τ 26 0 (a1.toInt.toNat)) from (f211.1 26 0 ((a1.toInt.toNat)) (by simp) (by decide)).trans (show gV τ200 26 0 (a1.toInt.toNat) = (gV τ 26 0 (a1.toInt.toNat)) from (f202.1 26 0 ((a1.toInt.toNat)) (by simp) (by decide)).trans (show gV τ157 26 0 (a1.toInt.toNat) = (gV τ 26 0 (a1.toInt.toNat)) from (f159.1 26 0 ((a1.toInt.toNat)) (by simp) (by decide)).trans (show gV τ147 26 0 (a1.toInt.toNat) = (gV τ 26 0 (a1.toInt.toNat)) from (f149.1 26 0 ((a1.toInt.toNat)) (by simp) (by decide)).trans rfl))))))))))
                            have q360 : (gV τ352 27 0 (a1.toInt.toNat)).toInt = (gV τ 27 0 (a1.toInt.toNat)).toInt := congrArg Int32.toInt (show (gV τ352 27 0 (a1.toInt.toNat)) = (gV τ 27 0 (a1.toInt.toNat)) from (show gV τ352 27 0 (a1.toInt.toNat) = (gV τ 27 0 (a1.toInt.toNat)) from (f354.1 27 0 ((a1.toInt.toNat)) (by simp) (by decide)).trans (show gV τ311 27 0 (a1.toInt.toNat) = (gV τ 27 0 (a1.toInt.toNat)) from (f313.1 27 0 ((a1.toInt.toNat)) (by simp) (by decide)).trans (show gV τ302 27 0 (a1.toInt.toNat) = (gV τ 27 0 (a1.toInt.toNat)) from (f304.1 27 0 ((a1.toInt.toNat)) (by simp) (by decide)).trans (show gV τ259 27 0 (a1.toInt.toNat) = (gV τ 27 0 (a1.toInt.toNat)) from (f261.1 27 0 ((a1.toInt.toNat)) (by simp) (by decide)).trans (show gV τ250 27 0 (a1.toInt.toNat) = (gV τ 27 0 (a1.toInt.toNat)) from (f252.1 27 0 ((a1.toInt.toNat)) (by simp) (by decide)).trans (show gV τ209 27 0 (a1.toInt.toNat) = (gV τ 27 0 (a1.toInt.toNat)) from (f211.1 27 0 ((a1.toInt.toNat)) (by simp) (by decide)).trans (show gV τ200 27 0 (a1.toInt.toNat) = (gV τ 27 0 (a1.toInt.toNat)) from (f202.1 27 0 ((a1.toInt.toNat)) (by simp) (by decide)).trans (show gV τ157 27 0 (a1.toInt.toNat) = (gV τ 27 0 (a1.toInt.toNat)) from (f159.1 27 0 ((a1.toInt.toNat)) (by simp) (by decide)).trans (show gV τ147 27 0 (a1.toInt.toNat) = (gV τ 27 0 (a1.toInt.toNat)) from (f149.1 27 0 ((a1.toInt.toNat)) (by simp) (by decide)).trans rfl))))))))))
                            show MW p l e _ s m args below meth c _ 14 G 0 0 238 [some (.ref (G.1 22 0)), some (.int a1), some (.int 5), some (.int a3), some (.int 3125), some (.int y5), some (.int y6), some (.int y7), some (.int x335), some (.int 1), some (.int x350), some (.int x314), some (.int 4), some (.int x331)] [.int x355, .int x314] τ352
                            refine m_callS (n := 2) (st := []) C (c_X12_greaterB l G τ352 (x314) (x355) i353 ) q5_99 q5_97 q5_98 q1_7 (by decide +kernel) rfl (by decide) (by decide) rfl (Nat.le_of_ble_eq_true rfl) dX12_bells_238 ?_
                            rintro _ τ361 ⟨x364, rfl, i362, f363, b365, h367⟩
                            have g366 : Fr MS_X12_bells_5Z AS_X12_bells_5Z σ τ361 := Fr.call (g357) f363 (by decide)
                            have q368 : (gV τ361 26 0 (a1.toInt.toNat)).toInt = (gV τ 26 0 (a1.toInt.toNat)).toInt := congrArg Int32.toInt (show (gV τ361 26 0 (a1.toInt.toNat)) = (gV τ 26 0 (a1.toInt.toNat)) from (show gV τ361 26 0 (a1.toInt.toNat) = (gV τ 26 0 (a1.toInt.toNat)) from (f363.1 26 0 ((a1.toInt.toNat)) (by simp) (by decide)).trans (show gV τ352 26 0 (a1.toInt.toNat) = (gV τ 26 0 (a1.toInt.toNat)) from (f354.1 26 0 ((a1.toInt.toNat)) (by simp) (by decide)).trans (show gV τ311 26 0 (a1.toInt.toNat) = (gV τ 26 0 (a1.toInt.toNat)) from (f313.1 26 0 ((a1.toInt.toNat)) (by simp) (by decide)).trans (show gV τ302 26 0 (a1.toInt.toNat) = (gV τ 26 0 (a1.toInt.toNat)) from (f304.1 26 0 ((a1.toInt.toNat)) (by simp) (by decide)).trans (show gV τ259 26 0 (a1.toInt.toNat) = (gV τ 26 0 (a1.toInt.toNat)) from (f261.1 26 0 ((a1.toInt.toNat)) (by simp) (by decide)).trans (show gV τ250 26 0 (a1.toInt.toNat) = (gV τ 26 0 (a1.toInt.toNat)) from (f252.1 26 0 ((a1.toInt.toNat)) (by simp) (by decide)).trans (show gV τ209 26 0 (a1.toInt.toNat) = (gV τ 26 0 (a1.toInt.toNat)) from (f211.1 26 0 ((a1.toInt.toNat)) (by simp) (by decide)).trans (show gV τ200 26 0 (a1.toInt.toNat) = (gV τ 26 0 (a1.toInt.toNat)) from (f202.1 26 0 ((a1.toInt.toNat)) (by simp) (by decide)).trans (show gV τ157 26 0 (a1.toInt.toNat) = (gV τ 26 0 (a1.toInt.toNat)) from (f159.1 26 0 ((a1.toInt.toNat)) (by simp) (by decide)).trans (show gV τ147 26 0 (a1.toInt.toNat) = (gV τ 26 0 (a1.toInt.toNat)) from (f149.1 26 0 ((a1.toInt.toNat)) (by simp) (by decide)).trans rfl)))))))))))
                            have q369 : (gV τ361 27 0 (a1.toInt.toNat)).toInt = (gV τ 27 0 (a1.toInt.toNat)).toInt := congrArg Int32.toInt (show (gV τ361 27 0 (a1.toInt.toNat)) = (gV τ 27 0 (a1.toInt.toNat)) from (show gV τ361 27 0 (a1.toInt.toNat) = (gV τ 27 0 (a1.toInt.toNat)) from (f363.1 27 0 ((a1.toInt.toNat)) (by simp) (by decide)).trans (show gV τ352 27 0 (a1.toInt.toNat) = (gV τ 27 0 (a1.toInt.toNat)) from (f354.1 27 0 ((a1.toInt.toNat)) (by simp) (by decide)).trans (show gV τ311 27 0 (a1.toInt.toNat) = (gV τ 27 0 (a1.toInt.toNat)) from (f313.1 27 0 ((a1.toInt.toNat)) (by simp) (by decide)).trans (show gV τ302 27 0 (a1.toInt.toNat) = (gV τ 27 0 (a1.toInt.toNat)) from (f304.1 27 0 ((a1.toInt.toNat)) (by simp) (by decide)).trans (show gV τ259 27 0 (a1.toInt.toNat) = (gV τ 27 0 (a1.toInt.toNat)) from (f261.1 27 0 ((a1.toInt.toNat)) (by simp) (by decide)).trans (show gV τ250 27 0 (a1.toInt.toNat) = (gV τ 27 0 (a1.toInt.toNat)) from (f252.1 27 0 ((a1.toInt.toNat)) (by simp) (by decide)).trans (show gV τ209 27 0 (a1.toInt.toNat) = (gV τ 27 0 (a1.toInt.toNat)) from (f211.1 27 0 ((a1.toInt.toNat)) (by simp) (by decide)).trans (show gV τ200 27 0 (a1.toInt.toNat) = (gV τ 27 0 (a1.toInt.toNat)) from (f202.1 27 0 ((a1.toInt.toNat)) (by simp) (by decide)).trans (show gV τ157 27 0 (a1.toInt.toNat) = (gV τ 27 0 (a1.toInt.toNat)) from (f159.1 27 0 ((a1.toInt.toNat)) (by simp) (by decide)).trans (show gV τ147 27 0 (a1.toInt.toNat) = (gV τ 27 0 (a1.toInt.toNat)) from (f149.1 27 0 ((a1.toInt.toNat)) (by simp) (by decide)).trans rfl)))))))))))
                            show MW p l e _ s m args below meth c _ 14 G 0 0 241 [some (.ref (G.1 22 0)), some (.int a1), some (.int 5), some (.int a3), some (.int 3125), some (.int y5), some (.int y6), some (.int y7), some (.int x335), some (.int 1), some (.int x350), some (.int x314), some (.int 4), some (.int x331)] [.int x364] τ361
                            refine m_istore (L1 := [some (.ref (G.1 22 0)), some (.int a1), some (.int 5), some (.int a3), some (.int 3125), some (.int y5), some (.int y6), some (.int y7), some (.int x335), some (.int 1), some (.int x350), some (.int x364), some (.int 4), some (.int x331)]) C dX12_bells_241 (by decide) rfl rfl ?_
                            have q371 : x331 = nI (y7.toInt.toNat / 1 % 5) := nI_of_ti (by omega) (by omega)
                            have h370 : bst (nuJ σ (a1.toInt.toNat) 5) 0 0 0 [(y7.toInt.toNat / 625 % 5), (y7.toInt.toNat / 125 % 5), (y7.toInt.toNat / 25 % 5), (y7.toInt.toNat / 5 % 5), (y7.toInt.toNat / 1 % 5)] = (x350.toInt, x364.toInt) := by
                              have q := bst_one (b := (y7.toInt.toNat / 1 % 5)) (k := 4) (h320) rfl
                              rw [if_pos (by decide), show x300.toInt + (nuJ σ (a1.toInt.toNat) 5) (y7.toInt.toNat / 1 % 5) = x350.toInt by omega, ← h358, ← h367] at q
                              exact q
                            clear h358 h367
                            clear h320
                            obtain ⟨x372, ex372⟩ : ∃ y : Int32, y = 4 + 1 := ⟨_, rfl⟩
                            have b373 : IV x372 5 5 := by rw [ex372]; decide
                            have tx372 : x372.toInt = 5 := by rw [ex372]; decide
                            obtain rfl : x372 = 5 := by rw [ex372]; decide
                            refine m_iinc (v := 5) (L1 := [some (.ref (G.1 22 0)), some (.int a1), some (.int 5), some (.int a3), some (.int 3125), some (.int y5), some (.int y6), some (.int y7), some (.int x335), some (.int 1), some (.int x350), some (.int x364), some (.int 5), some (.int x331)]) C dX12_bells_243 rfl (by decide) (by decide) rfl rfl ?_
                            refine m_goto (tgt := 161) C dX12_bells_246 (by decide) ?_
                            refine m_iload C dX12_bells_161 rfl ?_
                            refine m_iload_n C dX12_bells_163 rfl rfl ?_
                            refine m_icmp_ge (tgt := 249) C dX12_bells_164 (by decide) (fun c374 => ?_) (fun c374 => ?_)
                            · have f375 : 5 ≤ 5 := by
                                have q : _ := c374
                                simp only [ti_nle, ti_nlt, ti_le, ti_lt, ti_eq, ti_ne, Classical.not_not, kt_5, kt_5] at q
                                omega
                              have h376u : x335 = usedX 5 y7.toInt.toNat := by rw [ex335, ex333, ex283, ex281, ex233, ex231, ex181, ex179, ex130, ex128, q167, q219, q269, q321, q371]; rfl
                              have h376 := used_all 5 (by decide) (by decide) y7.toInt.toNat (by omega)
                              rw [← h376u] at h376
                              have h377 : x364.toInt = bcost (nuJ σ (a1.toInt.toNat) 5) (bdg 5 y7.toInt.toNat) := (bcost_of (show bst (nuJ σ (a1.toInt.toNat) 5) 0 0 0 (bdg 5 y7.toInt.toNat) = _ from h370)).symm
                              refine m_iload C dX12_bells_249 rfl ?_
                              refine m_iconst (v := 1) C dX12_bells_251 (by decide) ?_
                              refine m_iload_n C dX12_bells_252 rfl rfl ?_
                              refine m_ishl C dX12_bells_253 ?_
                              refine m_topi (fun x378 ex378 => ?_)
                              have b379 : IV x378 32 32 := by rw [ex378]; decide
                              have tx378 : x378.toInt = 32 := by rw [ex378]; decide
                              obtain rfl : x378 = 32 := by rw [ex378]; decide
                              refine m_iconst (v := 1) C dX12_bells_254 (by decide) ?_
                              refine m_isub C dX12_bells_255 ?_
                              refine m_topi (fun x380 ex380 => ?_)
                              have b381 : IV x380 31 31 := by rw [ex380]; decide
                              have tx380 : x380.toInt = 31 := by rw [ex380]; decide
                              obtain rfl : x380 = 31 := by rw [ex380]; decide
                              refine m_icmp_ne (tgt := 279) C dX12_bells_256 (by decide) (fun c382 => ?_) (fun c382 => ?_)
                              · have f383 : x335.toInt ≠ 31 := by
                                  have q : _ := c382
                                  simp only [ti_nle, ti_nlt, ti_le, ti_lt, ti_eq, ti_ne, Classical.not_not, kt_31] at q
                                  omega
                                have b384 : IV x335 0 30 := ⟨by have q1 := b336; have q2 := kc_31; omega, by have q1 := b336; have q2 := kc_31; omega⟩
                                have q385 : ¬ x335 = nI (2 ^ 5 - 1) := fun g => by have g2 := congrArg Int32.toInt g; rw [show (nI (2 ^ 5 - 1)).toInt = 31 by decide] at g2; omega
                                obtain ⟨x386, ex386⟩ : ∃ y : Int32, y = y7 + 1 := ⟨_, rfl⟩
                                have tx386 : x386.toInt = y7.toInt + 1 := by rw [ex386, ti_addv b118 kc_1 (by decide), kt_1]
                                have b387 : IV x386 1 3125 := by rw [ex386]; exact iv_add b118 kc_1 (by decide)
                                refine m_iinc (v := x386) (L1 := [some (.ref (G.1 22 0)), some (.int a1), some (.int 5), some (.int a3), some (.int 3125), some (.int y5), some (.int y6), some (.int x386), some (.int x335), some (.int 1), some (.int x350), some (.int x364), some (.int 5), some (.int x331)]) C dX12_bells_279 rfl (by rw [ex386]; rfl) (by decide) rfl rfl ?_
                                refine m_goto (tgt := 138) C dX12_bells_282 (by decide) ?_
                                refine m_sub (L1 := [some (.ref (G.1 22 0)), some (.int a1), some (.int 5), some (.int a3), some (.int 3125), some (.int y5), some (.int y6), some (.int x386), none, none, none, none, none, none]) ⟨rfl, ⟨rfl, ⟨rfl, ⟨rfl, ⟨rfl, ⟨rfl, ⟨rfl, ⟨rfl, trivial⟩⟩⟩⟩⟩⟩⟩⟩ ?_
                                exact ih138 τ361 y5 y6 x386 i362 g366 b_a1 b_a3 b_y5 b_y6 (iv_wk b387 (by decide)) (by omega) nL (nB.no (fun g => q385 (h376.mpr g)) (by omega)) (by have q := hm138; omega)
                              · have f388 : x335.toInt = 31 := by
                                  have q : _ := c382
                                  simp only [ti_nle, ti_nlt, ti_le, ti_lt, ti_eq, ti_ne, Classical.not_not, kt_31] at q
                                  omega
                                have b389 : IV x335 31 31 := ⟨by have q1 := b336; have q2 := kc_31; omega, by have q1 := b336; have q2 := kc_31; omega⟩
                                have q390 : x335 = nI (2 ^ 5 - 1) := Int32.toInt_inj.mp (by rw [show (nI (2 ^ 5 - 1)).toInt = 31 by decide]; omega)
                                refine m_iload C dX12_bells_259 rfl ?_
                                refine m_if_lt (tgt := 271) C dX12_bells_261 (by decide) (fun c391 => ?_) (fun c391 => ?_)
                                · have f392 : y5.toInt < 0 := by
                                    have q : _ := c391
                                    simp only [ti_nle, ti_nlt, ti_le, ti_lt, ti_eq, ti_ne, Classical.not_not, kt_0] at q
                                    omega
                                  have b393 : IV y5 (-1) (-1) := ⟨by have q1 := b_y5; have q2 := kc_0; omega, by have q1 := b_y5; have q2 := kc_0; omega⟩
                                  refine m_iload C dX12_bells_271 rfl ?_
                                  refine m_istore (L1 := [some (.ref (G.1 22 0)), some (.int a1), some (.int 5), some (.int a3), some (.int 3125), some (.int y7), some (.int y6), some (.int y7), some (.int x335), some (.int 1), some (.int x350), some (.int x364), some (.int 5), some (.int x331)]) C dX12_bells_273 (by decide) rfl rfl ?_
                                  refine m_iload C dX12_bells_275 rfl ?_
                                  refine m_istore (L1 := [some (.ref (G.1 22 0)), some (.int a1), some (.int 5), some (.int a3), some (.int 3125), some (.int y7), some (.int x364), some (.int y7), some (.int x335), some (.int 1), some (.int x350), some (.int x364), some (.int 5), some (.int x331)]) C dX12_bells_277 (by decide) rfl rfl ?_
                                  obtain ⟨x394, ex394⟩ : ∃ y : Int32, y = y7 + 1 := ⟨_, rfl⟩
                                  have tx394 : x394.toInt = y7.toInt + 1 := by rw [ex394, ti_addv b118 kc_1 (by decide), kt_1]
                                  have b395 : IV x394 1 3125 := by rw [ex394]; exact iv_add b118 kc_1 (by decide)
                                  refine m_iinc (v := x394) (L1 := [some (.ref (G.1 22 0)), some (.int a1), some (.int 5), some (.int a3), some (.int 3125), some (.int y7), some (.int x364), some (.int x394), some (.int x335), some (.int 1), some (.int x350), some (.int x364), some (.int 5), some (.int x331)]) C dX12_bells_279 rfl (by rw [ex394]; rfl) (by decide) rfl rfl ?_
                                  refine m_goto (tgt := 138) C dX12_bells_282 (by decide) ?_
                                  refine m_sub (L1 := [some (.ref (G.1 22 0)), some (.int a1), some (.int 5), some (.int a3), some (.int 3125), some (.int y7), some (.int x364), some (.int x394), none, none, none, none, none, none]) ⟨rfl, ⟨rfl, ⟨rfl, ⟨rfl, ⟨rfl, ⟨rfl, ⟨rfl, ⟨rfl, trivial⟩⟩⟩⟩⟩⟩⟩⟩ ?_
                                  exact ih138 τ361 y7 x364 x394 i362 g366 b_a1 b_a3 (iv_wk b118 (by decide)) b365 (iv_wk b395 (by decide)) (by omega) nL (BRL.new (m := x364) nB hν (by decide) (by omega) (h376.mp q390) (by omega) h377 (by omega)) (by have q := hm138; omega)
                                · have f396 : 0 ≤ y5.toInt := by
                                    have q : _ := c391
                                    simp only [ti_nle, ti_nlt, ti_le, ti_lt, ti_eq, ti_ne, Classical.not_not, kt_0] at q
                                    omega
                                  have b397 : IV y5 0 10000 := ⟨by have q1 := kc_0; have q2 := b_y5; omega, by have q1 := kc_0; have q2 := b_y5; omega⟩
                                  refine m_iload C dX12_bells_264 rfl ?_
                                  refine m_iload C dX12_bells_266 rfl ?_
                                  refine m_icmp_ge (tgt := 279) C dX12_bells_268 (by decide) (fun c398 => ?_) (fun c398 => ?_)
                                  · have f399 : y6.toInt ≤ x364.toInt := by
                                      have q : _ := c398
                                      simp only [ti_nle, ti_nlt, ti_le, ti_lt, ti_eq, ti_ne, Classical.not_not] at q
                                      omega
                                    obtain ⟨x400, ex400⟩ : ∃ y : Int32, y = y7 + 1 := ⟨_, rfl⟩
                                    have tx400 : x400.toInt = y7.toInt + 1 := by rw [ex400, ti_addv b118 kc_1 (by decide), kt_1]
                                    have b401 : IV x400 1 3125 := by rw [ex400]; exact iv_add b118 kc_1 (by decide)
                                    refine m_iinc (v := x400) (L1 := [some (.ref (G.1 22 0)), some (.int a1), some (.int 5), some (.int a3), some (.int 3125), some (.int y5), some (.int y6), some (.int x400), some (.int x335), some (.int 1), some (.int x350), some (.int x364), some (.int 5), some (.int x331)]) C dX12_bells_279 rfl (by rw [ex400]; rfl) (by decide) rfl rfl ?_
                                    refine m_goto (tgt := 138) C dX12_bells_282 (by decide) ?_
                                    refine m_sub (L1 := [some (.ref (G.1 22 0)), some (.int a1), some (.int 5), some (.int a3), some (.int 3125), some (.int y5), some (.int y6), some (.int x400), none, none, none, none, none, none]) ⟨rfl, ⟨rfl, ⟨rfl, ⟨rfl, ⟨rfl, ⟨rfl, ⟨rfl, ⟨rfl, trivial⟩⟩⟩⟩⟩⟩⟩⟩ ?_
                                    exact ih138 τ361 y5 y6 x400 i362 g366 b_a1 b_a3 (iv_wk b397 (by decide)) b_y6 (iv_wk b401 (by decide)) (by omega) nL (BRL.stay (m := x364) nB (h376.mp q390) (by omega) h377 (by omega) (by omega)) (by have q := hm138; omega)
                                  · have f402 : x364.toInt < y6.toInt := by
                                      have q : _ := c398
                                      simp only [ti_nle, ti_nlt, ti_le, ti_lt, ti_eq, ti_ne, Classical.not_not] at q
                                      omega
                                    have b403 : IV x364 (-2147483648) 2147483646 := ⟨by have q1 := b365; have q2 := b_y6; omega, by have q1 := b365; have q2 := b_y6; omega⟩
                                    have b404 : IV y6 (-2147483647) 2147483647 := ⟨by have q1 := b365; have q2 := b_y6; omega, by have q1 := b365; have q2 := b_y6; omega⟩
                                    refine m_iload C dX12_bells_271 rfl ?_
                                    refine m_istore (L1 := [some (.ref (G.1 22 0)), some (.int a1), some (.int 5), some (.int a3), some (.int 3125), some (.int y7), some (.int y6), some (.int y7), some (.int x335), some (.int 1), some (.int x350), some (.int x364), some (.int 5), some (.int x331)]) C dX12_bells_273 (by decide) rfl rfl ?_
                                    refine m_iload C dX12_bells_275 rfl ?_
                                    refine m_istore (L1 := [some (.ref (G.1 22 0)), some (.int a1), some (.int 5), some (.int a3), some (.int 3125), some (.int y7), some (.int x364), some (.int y7), some (.int x335), some (.int 1), some (.int x350), some (.int x364), some (.int 5), some (.int x331)]) C dX12_bells_277 (by decide) rfl rfl ?_
                                    obtain ⟨x405, ex405⟩ : ∃ y : Int32, y = y7 + 1 := ⟨_, rfl⟩
                                    have tx405 : x405.toInt = y7.toInt + 1 := by rw [ex405, ti_addv b118 kc_1 (by decide), kt_1]
                                    have b406 : IV x405 1 3125 := by rw [ex405]; exact iv_add b118 kc_1 (by decide)
                                    refine m_iinc (v := x405) (L1 := [some (.ref (G.1 22 0)), some (.int a1), some (.int 5), some (.int a3), some (.int 3125), some (.int y7), some (.int x364), some (.int x405), some (.int x335), some (.int 1), some (.int x350), some (.int x364), some (.int 5), some (.int x331)]) C dX12_bells_279 rfl (by rw [ex405]; rfl) (by decide) rfl rfl ?_
                                    refine m_goto (tgt := 138) C dX12_bells_282 (by decide) ?_
                                    refine m_sub (L1 := [some (.ref (G.1 22 0)), some (.int a1), some (.int 5), some (.int a3), some (.int 3125), some (.int y7), some (.int x364), some (.int x405), none, none, none, none, none, none]) ⟨rfl, ⟨rfl, ⟨rfl, ⟨rfl, ⟨rfl, ⟨rfl, ⟨rfl, ⟨rfl, trivial⟩⟩⟩⟩⟩⟩⟩⟩ ?_
                                    exact ih138 τ361 y7 x364 x405 i362 g366 b_a1 b_a3 (iv_wk b118 (by decide)) (iv_wk b403 (by decide)) (iv_wk b406 (by decide)) (by omega) nL (BRL.new (m := x364) nB hν (by decide) (by omega) (h376.mp q390) (by omega) h377 (by omega)) (by have q := hm138; omega)
                            · first | exact absurd c374 (by decide) | exact absurd (by decide) c374
                      · first | exact absurd c287 (by decide) | exact absurd (by decide) c287
              · first | exact absurd c185 (by decide) | exact absurd (by decide) c185
  have J61 : ∀ (n : Nat) (τ : Sg) (y4 : Int32), Inv τ → Fr MS_X12_bells_5Z AS_X12_bells_5Z σ τ → IV a1 0 7 → IV a3 (-1) 2147483647 → IV y4 0 5 → (((0 ≤ a1.toInt ∧ a1.toInt ≤ 7) ∧ 1 ≤ (5 : Int) ∧ (5 : Int) ≤ 5 ∧ -1 ≤ a3.toInt ∧ 0 ≤ (gV σ 26 0 (a1.toInt.toNat)).toInt ∧ (5 : Int) ≤ (gV σ 27 0 (a1.toInt.toNat)).toInt)) → (AlJ σ (a1.toInt.toNat) y4.toInt 1 20) → (5 - y4.toInt).toNat < n → MW p l e { frames := 2, cells := 0, slots := 0, locals := 60 } s m args below meth c (MQ below (QP G (PI fun r τ => Inv τ ∧ Fr MS_X12_bells_5Z AS_X12_bells_5Z σ τ ∧ IV r (-2147483648) 2147483647 ∧ (((a1.toInt < 0 ∨ 7 < a1.toInt ∨ (5 : Int) < 1 ∨ 5 < (5 : Int) ∨ a3.toInt < -1) ∧ r.toInt = -1000001) ∨ (((0 ≤ a1.toInt ∧ a1.toInt ≤ 7) ∧ 1 ≤ (5 : Int) ∧ (5 : Int) ≤ 5 ∧ -1 ≤ a3.toInt) ∧ (gV σ 26 0 (a1.toInt.toNat)).toInt < 0 ∧ r.toInt = -1000011) ∨ (((0 ≤ a1.toInt ∧ a1.toInt ≤ 7) ∧ 1 ≤ (5 : Int) ∧ (5 : Int) ≤ 5 ∧ -1 ≤ a3.toInt) ∧ 0 ≤ (gV σ 26 0 (a1.toInt.toNat)).toInt ∧ (gV σ 27 0 (a1.toInt.toNat)).toInt < (5 : Int) ∧ r.toInt = -1000012) ∨ (((0 ≤ a1.toInt ∧ a1.toInt ≤ 7) ∧ 1 ≤ (5 : Int) ∧ (5 : Int) ≤ 5 ∧ -1 ≤ a3.toInt) ∧ 0 ≤ (gV σ 26 0 (a1.toInt.toNat)).toInt ∧ (5 : Int) ≤ (gV σ 27 0 (a1.toInt.toNat)).toInt ∧ ¬ AlJ σ (a1.toInt.toNat) (5 : Int) 1 20 ∧ r.toInt = -1000001) ∨ (((0 ≤ a1.toInt ∧ a1.toInt ≤ 7) ∧ 1 ≤ (5 : Int) ∧ (5 : Int) ≤ 5 ∧ -1 ≤ a3.toInt) ∧ 0 ≤ (gV σ 26 0 (a1.toInt.toNat)).toInt ∧ (5 : Int) ≤ (gV σ 27 0 (a1.toInt.toNat)).toInt ∧ AlJ σ (a1.toInt.toNat) (5 : Int) 1 20 ∧ RESB r a3 5 (bbest (nuJ σ (a1.toInt.toNat) 5) 5))))) args s 0 0 (aG G)) 14 G 0 0 61 [some (.ref (G.1 22 0)), some (.int a1), some (.int 5), some (.int a3), some (.int y4), none, none, none, none, none, none, none, none, none] [] τ := by
    intro n
    induction n with
    | zero => intro τ y4 iτ fτ b_a1 b_a3 b_y4 n410 nL hm; exact absurd hm (Nat.not_lt_zero _)
    | succ n ih61 =>
      intro τ y4 iτ fτ b_a1 b_a3 b_y4 n410 nL hm61
      have u411 : IV (gV τ 27 0 (a1.toInt.toNat)) 0 40 := iτ.1 27 0 (a1.toInt.toNat)
      refine m_iload C dX12_bells_61 rfl ?_
      refine m_iload_n C dX12_bells_63 rfl rfl ?_
      refine m_icmp_ge (tgt := 99) C dX12_bells_64 (by decide) (fun c412 => ?_) (fun c412 => ?_)
      · have f413 : 5 ≤ y4.toInt := by
          have q : _ := c412
          simp only [ti_nle, ti_nlt, ti_le, ti_lt, ti_eq, ti_ne, Classical.not_not, kt_5] at q
          omega
        have b414 : IV y4 5 5 := ⟨by have q1 := kc_5; have q2 := b_y4; omega, by have q1 := kc_5; have q2 := b_y4; omega⟩
        refine m_aload_n C dX12_bells_99 rfl rfl ?_
        refine m_iconst (v := 0) C dX12_bells_100 (by decide) ?_
        refine m_callV (n := 1) (ci := 11) (st := []) C (c_X12_fine l G τ (0) iτ ) (by decide) (by decide) rfl rfl rfl q4_201 q4_198 q4_200 q0_27 q1_7 (by decide +kernel) rfl (by decide) (by decide) rfl (Nat.le_of_ble_eq_true rfl) dX12_bells_101 ?_
        rintro _ τ415 ⟨x418, rfl, i416, f417, b419, h421⟩
        have g420 : Fr MS_X12_bells_5Z AS_X12_bells_5Z σ τ415 := Fr.call (fτ) f417 (by decide)
        have q422 : (gV τ415 26 0 (a1.toInt.toNat)).toInt = (gV τ 26 0 (a1.toInt.toNat)).toInt := congrArg Int32.toInt (show (gV τ415 26 0 (a1.toInt.toNat)) = (gV τ 26 0 (a1.toInt.toNat)) from (show gV τ415 26 0 (a1.toInt.toNat) = (gV τ 26 0 (a1.toInt.toNat)) from (f417.1 26 0 ((a1.toInt.toNat)) (by simp) (by decide)).trans rfl))
        have q423 : (gV τ415 27 0 (a1.toInt.toNat)).toInt = (gV τ 27 0 (a1.toInt.toNat)).toInt := congrArg Int32.toInt (show (gV τ415 27 0 (a1.toInt.toNat)) = (gV τ 27 0 (a1.toInt.toNat)) from (show gV τ415 27 0 (a1.toInt.toNat) = (gV τ 27 0 (a1.toInt.toNat)) from (f417.1 27 0 ((a1.toInt.toNat)) (by simp) (by decide)).trans rfl))
        have q424 := kt_0
        show MW p l e _ s m args below meth c _ 14 G 0 0 104 [some (.ref (G.1 22 0)), some (.int a1), some (.int 5), some (.int a3), some (.int y4), none, none, none, none, none, none, none, none, none] [.int x418] τ415
        refine m_pop C dX12_bells_104 rfl ?_
        refine m_iconst (v := 1) C dX12_bells_105 (by decide) ?_
        refine m_istore (L1 := [some (.ref (G.1 22 0)), some (.int a1), some (.int 5), some (.int a3), some (.int 1), none, none, none, none, none, none, none, none, none]) C dX12_bells_106 (by decide) rfl rfl ?_
        refine m_iconst (v := 0) C dX12_bells_108 (by decide) ?_
        refine m_istore (L1 := [some (.ref (G.1 22 0)), some (.int a1), some (.int 5), some (.int a3), some (.int 1), some (.int 0), none, none, none, none, none, none, none, none]) C dX12_bells_109 (by decide) rfl rfl ?_
        refine m_iload C dX12_bells_111 rfl ?_
        refine m_iload_n C dX12_bells_113 rfl rfl ?_
        refine m_icmp_ge (tgt := 129) C dX12_bells_114 (by decide) (fun c425 => ?_) (fun c425 => ?_)
        · first | exact absurd c425 (by decide) | exact absurd (by decide) c425
        · have f427 : 0 < 5 := by
            have q : _ := c425
            simp only [ti_nle, ti_nlt, ti_le, ti_lt, ti_eq, ti_ne, Classical.not_not, kt_0, kt_5] at q
            omega
          refine m_iload C dX12_bells_117 rfl ?_
          refine m_iload_n C dX12_bells_119 rfl rfl ?_
          refine m_imul C dX12_bells_120 ?_
          refine m_topi (fun x428 ex428 => ?_)
          have b429 : IV x428 5 5 := by rw [ex428]; decide
          have tx428 : x428.toInt = 5 := by rw [ex428]; decide
          obtain rfl : x428 = 5 := by rw [ex428]; decide
          refine m_istore (L1 := [some (.ref (G.1 22 0)), some (.int a1), some (.int 5), some (.int a3), some (.int 5), some (.int 0), none, none, none, none, none, none, none, none]) C dX12_bells_121 (by decide) rfl rfl ?_
          obtain ⟨x430, ex430⟩ : ∃ y : Int32, y = 0 + 1 := ⟨_, rfl⟩
          have b431 : IV x430 1 1 := by rw [ex430]; decide
          have tx430 : x430.toInt = 1 := by rw [ex430]; decide
          obtain rfl : x430 = 1 := by rw [ex430]; decide
          refine m_iinc (v := 1) (L1 := [some (.ref (G.1 22 0)), some (.int a1), some (.int 5), some (.int a3), some (.int 5), some (.int 1), none, none, none, none, none, none, none, none]) C dX12_bells_123 rfl (by decide) (by decide) rfl rfl ?_
          refine m_goto (tgt := 111) C dX12_bells_126 (by decide) ?_
          refine m_iload C dX12_bells_111 rfl ?_
          refine m_iload_n C dX12_bells_113 rfl rfl ?_
          refine m_icmp_ge (tgt := 129) C dX12_bells_114 (by decide) (fun c432 => ?_) (fun c432 => ?_)
          · first | exact absurd c432 (by decide) | exact absurd (by decide) c432
          · have f434 : 1 < 5 := by
              have q : _ := c432
              simp only [ti_nle, ti_nlt, ti_le, ti_lt, ti_eq, ti_ne, Classical.not_not, kt_1, kt_5] at q
              omega
            refine m_iload C dX12_bells_117 rfl ?_
            refine m_iload_n C dX12_bells_119 rfl rfl ?_
            refine m_imul C dX12_bells_120 ?_
            refine m_topi (fun x435 ex435 => ?_)
            have b436 : IV x435 25 25 := by rw [ex435]; decide
            have tx435 : x435.toInt = 25 := by rw [ex435]; decide
            obtain rfl : x435 = 25 := by rw [ex435]; decide
            refine m_istore (L1 := [some (.ref (G.1 22 0)), some (.int a1), some (.int 5), some (.int a3), some (.int 25), some (.int 1), none, none, none, none, none, none, none, none]) C dX12_bells_121 (by decide) rfl rfl ?_
            obtain ⟨x437, ex437⟩ : ∃ y : Int32, y = 1 + 1 := ⟨_, rfl⟩
            have b438 : IV x437 2 2 := by rw [ex437]; decide
            have tx437 : x437.toInt = 2 := by rw [ex437]; decide
            obtain rfl : x437 = 2 := by rw [ex437]; decide
            refine m_iinc (v := 2) (L1 := [some (.ref (G.1 22 0)), some (.int a1), some (.int 5), some (.int a3), some (.int 25), some (.int 2), none, none, none, none, none, none, none, none]) C dX12_bells_123 rfl (by decide) (by decide) rfl rfl ?_
            refine m_goto (tgt := 111) C dX12_bells_126 (by decide) ?_
            refine m_iload C dX12_bells_111 rfl ?_
            refine m_iload_n C dX12_bells_113 rfl rfl ?_
            refine m_icmp_ge (tgt := 129) C dX12_bells_114 (by decide) (fun c439 => ?_) (fun c439 => ?_)
            · first | exact absurd c439 (by decide) | exact absurd (by decide) c439
            · have f441 : 2 < 5 := by
                have q : _ := c439
                simp only [ti_nle, ti_nlt, ti_le, ti_lt, ti_eq, ti_ne, Classical.not_not, kt_2, kt_5] at q
                omega
              refine m_iload C dX12_bells_117 rfl ?_
              refine m_iload_n C dX12_bells_119 rfl rfl ?_
              refine m_imul C dX12_bells_120 ?_
              refine m_topi (fun x442 ex442 => ?_)
              have b443 : IV x442 125 125 := by rw [ex442]; decide
              have tx442 : x442.toInt = 125 := by rw [ex442]; decide
              obtain rfl : x442 = 125 := by rw [ex442]; decide
              refine m_istore (L1 := [some (.ref (G.1 22 0)), some (.int a1), some (.int 5), some (.int a3), some (.int 125), some (.int 2), none, none, none, none, none, none, none, none]) C dX12_bells_121 (by decide) rfl rfl ?_
              obtain ⟨x444, ex444⟩ : ∃ y : Int32, y = 2 + 1 := ⟨_, rfl⟩
              have b445 : IV x444 3 3 := by rw [ex444]; decide
              have tx444 : x444.toInt = 3 := by rw [ex444]; decide
              obtain rfl : x444 = 3 := by rw [ex444]; decide
              refine m_iinc (v := 3) (L1 := [some (.ref (G.1 22 0)), some (.int a1), some (.int 5), some (.int a3), some (.int 125), some (.int 3), none, none, none, none, none, none, none, none]) C dX12_bells_123 rfl (by decide) (by decide) rfl rfl ?_
              refine m_goto (tgt := 111) C dX12_bells_126 (by decide) ?_
              refine m_iload C dX12_bells_111 rfl ?_
              refine m_iload_n C dX12_bells_113 rfl rfl ?_
              refine m_icmp_ge (tgt := 129) C dX12_bells_114 (by decide) (fun c446 => ?_) (fun c446 => ?_)
              · first | exact absurd c446 (by decide) | exact absurd (by decide) c446
              · have f448 : 3 < 5 := by
                  have q : _ := c446
                  simp only [ti_nle, ti_nlt, ti_le, ti_lt, ti_eq, ti_ne, Classical.not_not, kt_3, kt_5] at q
                  omega
                refine m_iload C dX12_bells_117 rfl ?_
                refine m_iload_n C dX12_bells_119 rfl rfl ?_
                refine m_imul C dX12_bells_120 ?_
                refine m_topi (fun x449 ex449 => ?_)
                have b450 : IV x449 625 625 := by rw [ex449]; decide
                have tx449 : x449.toInt = 625 := by rw [ex449]; decide
                obtain rfl : x449 = 625 := by rw [ex449]; decide
                refine m_istore (L1 := [some (.ref (G.1 22 0)), some (.int a1), some (.int 5), some (.int a3), some (.int 625), some (.int 3), none, none, none, none, none, none, none, none]) C dX12_bells_121 (by decide) rfl rfl ?_
                obtain ⟨x451, ex451⟩ : ∃ y : Int32, y = 3 + 1 := ⟨_, rfl⟩
                have b452 : IV x451 4 4 := by rw [ex451]; decide
                have tx451 : x451.toInt = 4 := by rw [ex451]; decide
                obtain rfl : x451 = 4 := by rw [ex451]; decide
                refine m_iinc (v := 4) (L1 := [some (.ref (G.1 22 0)), some (.int a1), some (.int 5), some (.int a3), some (.int 625), some (.int 4), none, none, none, none, none, none, none, none]) C dX12_bells_123 rfl (by decide) (by decide) rfl rfl ?_
                refine m_goto (tgt := 111) C dX12_bells_126 (by decide) ?_
                refine m_iload C dX12_bells_111 rfl ?_
                refine m_iload_n C dX12_bells_113 rfl rfl ?_
                refine m_icmp_ge (tgt := 129) C dX12_bells_114 (by decide) (fun c453 => ?_) (fun c453 => ?_)
                · first | exact absurd c453 (by decide) | exact absurd (by decide) c453
                · have f455 : 4 < 5 := by
                    have q : _ := c453
                    simp only [ti_nle, ti_nlt, ti_le, ti_lt, ti_eq, ti_ne, Classical.not_not, kt_4, kt_5] at q
                    omega
                  refine m_iload C dX12_bells_117 rfl ?_
                  refine m_iload_n C dX12_bells_119 rfl rfl ?_
                  refine m_imul C dX12_bells_120 ?_
                  refine m_topi (fun x456 ex456 => ?_)
                  have b457 : IV x456 3125 3125 := by rw [ex456]; decide
                  have tx456 : x456.toInt = 3125 := by rw [ex456]; decide
                  obtain rfl : x456 = 3125 := by rw [ex456]; decide
                  refine m_istore (L1 := [some (.ref (G.1 22 0)), some (.int a1), some (.int 5), some (.int a3), some (.int 3125), some (.int 4), none, none, none, none, none, none, none, none]) C dX12_bells_121 (by decide) rfl rfl ?_
                  obtain ⟨x458, ex458⟩ : ∃ y : Int32, y = 4 + 1 := ⟨_, rfl⟩
                  have b459 : IV x458 5 5 := by rw [ex458]; decide
                  have tx458 : x458.toInt = 5 := by rw [ex458]; decide
                  obtain rfl : x458 = 5 := by rw [ex458]; decide
                  refine m_iinc (v := 5) (L1 := [some (.ref (G.1 22 0)), some (.int a1), some (.int 5), some (.int a3), some (.int 3125), some (.int 5), none, none, none, none, none, none, none, none]) C dX12_bells_123 rfl (by decide) (by decide) rfl rfl ?_
                  refine m_goto (tgt := 111) C dX12_bells_126 (by decide) ?_
                  refine m_iload C dX12_bells_111 rfl ?_
                  refine m_iload_n C dX12_bells_113 rfl rfl ?_
                  refine m_icmp_ge (tgt := 129) C dX12_bells_114 (by decide) (fun c460 => ?_) (fun c460 => ?_)
                  · have f461 : 5 ≤ 5 := by
                      have q : _ := c460
                      simp only [ti_nle, ti_nlt, ti_le, ti_lt, ti_eq, ti_ne, Classical.not_not, kt_5, kt_5] at q
                      omega
                    refine m_iconst (v := (-1)) C dX12_bells_129 (by decide) ?_
                    refine m_istore (L1 := [some (.ref (G.1 22 0)), some (.int a1), some (.int 5), some (.int a3), some (.int 3125), some (.int (-1)), none, none, none, none, none, none, none, none]) C dX12_bells_130 (by decide) rfl rfl ?_
                    refine m_iconst (v := 0) C dX12_bells_132 (by decide) ?_
                    refine m_istore (L1 := [some (.ref (G.1 22 0)), some (.int a1), some (.int 5), some (.int a3), some (.int 3125), some (.int (-1)), some (.int 0), none, none, none, none, none, none, none]) C dX12_bells_133 (by decide) rfl rfl ?_
                    refine m_iconst (v := 0) C dX12_bells_135 (by decide) ?_
                    refine m_istore (L1 := [some (.ref (G.1 22 0)), some (.int a1), some (.int 5), some (.int a3), some (.int 3125), some (.int (-1)), some (.int 0), some (.int 0), none, none, none, none, none, none]) C dX12_bells_136 (by decide) rfl rfl ?_
                    exact J138 ((3125 - (0 : Int32).toInt).toNat + 1) τ415 (-1) 0 0 i416 g420 b_a1 b_a3 (iv_wk kc_m1 (by decide)) (iv_wk kc_0 (by decide)) (iv_wk kc_0 (by decide)) (by omega) (nL.all (by omega)) (Or.inl ⟨by have q := kt_m1; omega, rfl⟩) (Nat.lt_succ_self _)
                  · first | exact absurd c460 (by decide) | exact absurd (by decide) c460
      · have f463 : y4.toInt < 5 := by
          have q : _ := c412
          simp only [ti_nle, ti_nlt, ti_le, ti_lt, ti_eq, ti_ne, Classical.not_not, kt_5] at q
          omega
        have b464 : IV y4 0 4 := ⟨by have q1 := b_y4; have q2 := kc_5; omega, by have q1 := b_y4; have q2 := kc_5; omega⟩
        refine m_aload_n C dX12_bells_67 rfl rfl ?_
        refine g_22_2 C q4_118 dX12_bells_68 ?_
        refine m_bipush (v := 40) C dX12_bells_71 (by decide) ?_
        refine m_iload_n C dX12_bells_73 rfl rfl ?_
        refine m_imul C dX12_bells_74 ?_
        refine m_topi (fun x465 ex465 => ?_)
        have tx465 : x465.toInt = 40 * a1.toInt := by rw [ex465, ti_mulv kc_40 b_a1 (by decide), kt_40]
        have b466 : IV x465 0 280 := by rw [ex465]; exact iv_mul kc_40 b_a1 (by decide)
        refine m_iload C dX12_bells_75 rfl ?_
        refine m_iadd C dX12_bells_77 ?_
        refine m_topi (fun x467 ex467 => ?_)
        have tx467 : x467.toInt = x465.toInt + y4.toInt := by rw [ex467, ti_addv b466 b464 (by decide)]
        have b468 : IV x467 0 284 := by rw [ex467]; exact iv_add b466 b464 (by decide)
        refine al_25 C b468 (by decide) rfl dX12_bells_78 ?_
        refine m_topi (fun x469 ex469 => ?_)
        have q470 : (gV σ 25 0 (40 * (a1.toInt.toNat) + y4.toInt.toNat)).toInt = x469.toInt := by rw [show 40 * (a1.toInt.toNat) + y4.toInt.toNat = (x467.toInt.toNat) by omega, ← (fτ).1 25 0 (x467.toInt.toNat) (by simp) (by decide), show gV τ 25 0 (x467.toInt.toNat) = x469 from ex469.symm]
        refine m_i2l C dX12_bells_79 ?_
        refine m_lconst (v := 1) C dX12_bells_80 (by decide) ?_
        refine m_ldc2 (v := 20) C dX12_bells_81 q5_174 ?_
        refine m_callS (n := 3) (st := []) C (c_X12_in l G τ ((x469 : Int32).toInt64) (1) (20) iτ ) q4_190 q4_188 q4_189 q1_7 (by decide +kernel) rfl (by decide) (by decide) rfl (Nat.le_of_ble_eq_true rfl) dX12_bells_84 ?_
        rintro _ τ471 ⟨x474, rfl, i472, f473, b475, h477⟩
        have g476 : Fr MS_X12_bells_5Z AS_X12_bells_5Z σ τ471 := Fr.call (fτ) f473 (by decide)
        have q478 : (gV τ471 26 0 (a1.toInt.toNat)).toInt = (gV τ 26 0 (a1.toInt.toNat)).toInt := congrArg Int32.toInt (show (gV τ471 26 0 (a1.toInt.toNat)) = (gV τ 26 0 (a1.toInt.toNat)) from (show gV τ471 26 0 (a1.toInt.toNat) = (gV τ 26 0 (a1.toInt.toNat)) from (f473.1 26 0 ((a1.toInt.toNat)) (by simp) (by decide)).trans rfl))
        have q479 : (gV τ471 27 0 (a1.toInt.toNat)).toInt = (gV τ 27 0 (a1.toInt.toNat)).toInt := congrArg Int32.toInt (show (gV τ471 27 0 (a1.toInt.toNat)) = (gV τ 27 0 (a1.toInt.toNat)) from (show gV τ471 27 0 (a1.toInt.toNat) = (gV τ 27 0 (a1.toInt.toNat)) from (f473.1 27 0 ((a1.toInt.toNat)) (by simp) (by decide)).trans rfl))
        have f480 := tl_i x469
        have f481 := kl_1
        have f482 := kl_20
        rcases h477 with ⟨h477_0, h477_1, h477_2⟩ | ⟨h477_0, h477_1⟩
        · skip
          have b483 : IV x474 1 1 := ⟨by omega, by omega⟩
          show MW p l e _ s m args below meth c _ 14 G 0 0 87 [some (.ref (G.1 22 0)), some (.int a1), some (.int 5), some (.int a3), some (.int y4), none, none, none, none, none, none, none, none, none] [.int x474] τ471
          refine m_if_ne (tgt := 93) C dX12_bells_87 (by decide) (fun c484 => ?_) (fun c484 => ?_)
          · have f485 : x474.toInt ≠ 0 := by
              have q : _ := c484
              simp only [ti_nle, ti_nlt, ti_le, ti_lt, ti_eq, ti_ne, Classical.not_not, kt_0] at q
              omega
            have b486 : IV x469 1 20 := ⟨by have q1 := (iv_any x469); omega, by have q1 := (iv_any x469); omega⟩
            obtain ⟨x487, ex487⟩ : ∃ y : Int32, y = y4 + 1 := ⟨_, rfl⟩
            have tx487 : x487.toInt = y4.toInt + 1 := by rw [ex487, ti_addv b464 kc_1 (by decide), kt_1]
            have b488 : IV x487 1 5 := by rw [ex487]; exact iv_add b464 kc_1 (by decide)
            refine m_iinc (v := x487) (L1 := [some (.ref (G.1 22 0)), some (.int a1), some (.int 5), some (.int a3), some (.int x487), none, none, none, none, none, none, none, none, none]) C dX12_bells_93 rfl (by rw [ex487]; rfl) (by decide) rfl rfl ?_
            refine m_goto (tgt := 61) C dX12_bells_96 (by decide) ?_
            exact ih61 τ471 x487 i472 g476 b_a1 b_a3 (iv_wk b488 (by decide)) (by omega) (nL.more (k := y4.toInt.toNat) (by omega) (by omega) ⟨by omega, by omega⟩) (by have q := hm61; omega)
          · exfalso
            have q : _ := c484
            simp only [ti_nle, ti_nlt, ti_le, ti_lt, ti_eq, ti_ne, Classical.not_not, kt_0] at q
            have q1 := b483; have q2 := kc_0; omega
        · skip
          have b490 : IV x474 0 0 := ⟨by omega, by omega⟩
          show MW p l e _ s m args below meth c _ 14 G 0 0 87 [some (.ref (G.1 22 0)), some (.int a1), some (.int 5), some (.int a3), some (.int y4), none, none, none, none, none, none, none, none, none] [.int x474] τ471
          refine m_if_ne (tgt := 93) C dX12_bells_87 (by decide) (fun c491 => ?_) (fun c491 => ?_)
          · exfalso
            have q : _ := c491
            simp only [ti_nle, ti_nlt, ti_le, ti_lt, ti_eq, ti_ne, Classical.not_not, kt_0] at q
            have q1 := b490; have q2 := kc_0; omega
          · have f493 : x474.toInt = 0 := by
              have q : _ := c491
              simp only [ti_nle, ti_nlt, ti_le, ti_lt, ti_eq, ti_ne, Classical.not_not, kt_0] at q
              omega
            refine m_ldc (v := (-1000001)) C dX12_bells_90 q4_192 ?_
            exact m_iret C hr hlk (by decide) (by decide) dX12_bells_92 ⟨_, rfl, i472, g476, (iv_wk kc_m1000001 (by decide)), (Or.inr (Or.inr (Or.inr (Or.inl ⟨by have qk := kt_m1000001; omega, by have qk := kt_m1000001; omega, by have qk := kt_m1000001; omega, (fun g => by have q := g y4.toInt.toNat (by omega); omega), by have qk := kt_m1000001; omega⟩))))⟩
  have u494 : IV (gV σ 27 0 (a1.toInt.toNat)) 0 40 := hI.1 27 0 (a1.toInt.toNat)
  refine m_iload_n C dX12_bells_0 rfl rfl ?_
  refine m_callS (n := 1) (st := []) C (c_X12_isRow l G σ (a1) hI ) q4_186 q4_184 q4_185 q1_7 (by decide +kernel) rfl (by decide) (by decide) rfl (Nat.le_of_ble_eq_true rfl) dX12_bells_1 ?_
  rintro _ τ495 ⟨x498, rfl, i496, f497, b499, h501⟩
  have g500 : Fr MS_X12_bells_5Z AS_X12_bells_5Z σ τ495 := Fr.call (Fr.rf) f497 (by decide)
  have q502 : (gV τ495 26 0 (a1.toInt.toNat)).toInt = (gV σ 26 0 (a1.toInt.toNat)).toInt := congrArg Int32.toInt (show (gV τ495 26 0 (a1.toInt.toNat)) = (gV σ 26 0 (a1.toInt.toNat)) from (show gV τ495 26 0 (a1.toInt.toNat) = (gV σ 26 0 (a1.toInt.toNat)) from (f497.1 26 0 ((a1.toInt.toNat)) (by simp) (by decide)).trans rfl))
  have q503 : (gV τ495 27 0 (a1.toInt.toNat)).toInt = (gV σ 27 0 (a1.toInt.toNat)).toInt := congrArg Int32.toInt (show (gV τ495 27 0 (a1.toInt.toNat)) = (gV σ 27 0 (a1.toInt.toNat)) from (show gV τ495 27 0 (a1.toInt.toNat) = (gV σ 27 0 (a1.toInt.toNat)) from (f497.1 27 0 ((a1.toInt.toNat)) (by simp) (by decide)).trans rfl))
  rcases h501 with ⟨h501_0, h501_1, h501_2⟩ | ⟨h501_0, h501_1⟩
  · skip
    have b504 : IV x498 1 1 := ⟨by omega, by omega⟩
    show MW p l e _ s m args below meth c _ 14 G 0 0 4 [some (.ref (G.1 22 0)), some (.int a1), some (.int 5), some (.int a3), none, none, none, none, none, none, none, none, none, none] [.int x498] τ495
    refine m_if_eq (tgt := 24) C dX12_bells_4 (by decide) (fun c505 => ?_) (fun c505 => ?_)
    · exfalso
      have q : _ := c505
      simp only [ti_nle, ti_nlt, ti_le, ti_lt, ti_eq, ti_ne, Classical.not_not, kt_0] at q
      have q1 := b504; have q2 := kc_0; omega
    · have f507 : x498.toInt ≠ 0 := by
        have q : _ := c505
        simp only [ti_nle, ti_nlt, ti_le, ti_lt, ti_eq, ti_ne, Classical.not_not, kt_0] at q
        omega
      have b508 : IV a1 0 7 := ⟨by have q1 := (iv_any a1); omega, by have q1 := (iv_any a1); omega⟩
      refine m_iload_n C dX12_bells_7 rfl rfl ?_
      refine m_i2l C dX12_bells_8 ?_
      refine m_lconst (v := 1) C dX12_bells_9 (by decide) ?_
      refine m_ldc2 (v := 5) C dX12_bells_10 q5_173 ?_
      refine m_callS (n := 3) (st := []) C (c_X12_in l G τ495 ((5 : Int32).toInt64) (1) (5) i496 ) q4_190 q4_188 q4_189 q1_7 (by decide +kernel) rfl (by decide) (by decide) rfl (Nat.le_of_ble_eq_true rfl) dX12_bells_13 ?_
      rintro _ τ509 ⟨x512, rfl, i510, f511, b513, h515⟩
      have g514 : Fr MS_X12_bells_5Z AS_X12_bells_5Z σ τ509 := Fr.call (g500) f511 (by decide)
      have q516 : (gV τ509 26 0 (a1.toInt.toNat)).toInt = (gV σ 26 0 (a1.toInt.toNat)).toInt := congrArg Int32.toInt (show (gV τ509 26 0 (a1.toInt.toNat)) = (gV σ 26 0 (a1.toInt.toNat)) from (show gV τ509 26 0 (a1.toInt.toNat) = (gV σ 26 0 (a1.toInt.toNat)) from (f511.1 26 0 ((a1.toInt.toNat)) (by simp) (by decide)).trans (show gV τ495 26 0 (a1.toInt.toNat) = (gV σ 26 0 (a1.toInt.toNat)) from (f497.1 26 0 ((a1.toInt.toNat)) (by simp) (by decide)).trans rfl)))
      have q517 : (gV τ509 27 0 (a1.toInt.toNat)).toInt = (gV σ 27 0 (a1.toInt.toNat)).toInt := congrArg Int32.toInt (show (gV τ509 27 0 (a1.toInt.toNat)) = (gV σ 27 0 (a1.toInt.toNat)) from (show gV τ509 27 0 (a1.toInt.toNat) = (gV σ 27 0 (a1.toInt.toNat)) from (f511.1 27 0 ((a1.toInt.toNat)) (by simp) (by decide)).trans (show gV τ495 27 0 (a1.toInt.toNat) = (gV σ 27 0 (a1.toInt.toNat)) from (f497.1 27 0 ((a1.toInt.toNat)) (by simp) (by decide)).trans rfl)))
      have f518 := tl_i 5
      have kf518 := kt_5
      have f519 := kl_1
      have f520 := kl_5
      rcases h515 with ⟨h515_0, h515_1, h515_2⟩ | ⟨h515_0, h515_1⟩
      · skip
        have b521 : IV x512 1 1 := ⟨by omega, by omega⟩
        show MW p l e _ s m args below meth c _ 14 G 0 0 16 [some (.ref (G.1 22 0)), some (.int a1), some (.int 5), some (.int a3), none, none, none, none, none, none, none, none, none, none] [.int x512] τ509
        refine m_if_eq (tgt := 24) C dX12_bells_16 (by decide) (fun c522 => ?_) (fun c522 => ?_)
        · exfalso
          have q : _ := c522
          simp only [ti_nle, ti_nlt, ti_le, ti_lt, ti_eq, ti_ne, Classical.not_not, kt_0] at q
          have q1 := b521; have q2 := kc_0; omega
        · have f524 : x512.toInt ≠ 0 := by
            have q : _ := c522
            simp only [ti_nle, ti_nlt, ti_le, ti_lt, ti_eq, ti_ne, Classical.not_not, kt_0] at q
            omega
          refine m_iload_n C dX12_bells_19 rfl rfl ?_
          refine m_iconst (v := (-1)) C dX12_bells_20 (by decide) ?_
          refine m_icmp_ge (tgt := 27) C dX12_bells_21 (by decide) (fun c525 => ?_) (fun c525 => ?_)
          · have f526 : -1 ≤ a3.toInt := by
              have q : _ := c525
              simp only [ti_nle, ti_nlt, ti_le, ti_lt, ti_eq, ti_ne, Classical.not_not, kt_m1] at q
              omega
            have b527 : IV a3 (-1) 2147483647 := ⟨by have q1 := kc_m1; have q2 := (iv_any a3); omega, by have q1 := kc_m1; have q2 := (iv_any a3); omega⟩
            refine m_aload_n C dX12_bells_27 rfl rfl ?_
            refine g_22_3 C q4_119 dX12_bells_28 ?_
            refine m_iload_n C dX12_bells_31 rfl rfl ?_
            refine al_26 C b508 (by decide) rfl dX12_bells_32 ?_
            refine m_eqs (w := (gV σ 26 0 (a1.toInt.toNat))) (show gV τ509 26 0 (a1.toInt.toNat) = (gV σ 26 0 (a1.toInt.toNat)) from (f511.1 26 0 ((a1.toInt.toNat)) (by simp) (by decide)).trans (show gV τ495 26 0 (a1.toInt.toNat) = (gV σ 26 0 (a1.toInt.toNat)) from (f497.1 26 0 ((a1.toInt.toNat)) (by simp) (by decide)).trans rfl)) ?_
            refine m_if_ge (tgt := 42) C dX12_bells_33 (by decide) (fun c528 => ?_) (fun c528 => ?_)
            · have f529 : 0 ≤ (gV σ 26 0 (a1.toInt.toNat)).toInt := by
                have q : _ := c528
                simp only [ti_nle, ti_nlt, ti_le, ti_lt, ti_eq, ti_ne, Classical.not_not, kt_0] at q
                omega
              have b530 : IV (gV σ 26 0 (a1.toInt.toNat)) 0 2147483647 := ⟨by have q1 := kc_0; have q2 := (iv_any (gV σ 26 0 (a1.toInt.toNat))); omega, by have q1 := kc_0; have q2 := (iv_any (gV σ 26 0 (a1.toInt.toNat))); omega⟩
              refine m_aload_n C dX12_bells_42 rfl rfl ?_
              refine g_22_4 C q4_120 dX12_bells_43 ?_
              refine m_iload_n C dX12_bells_46 rfl rfl ?_
              refine al_27 C b508 (by decide) rfl dX12_bells_47 ?_
              refine m_eqs (w := (gV σ 27 0 (a1.toInt.toNat))) (show gV τ509 27 0 (a1.toInt.toNat) = (gV σ 27 0 (a1.toInt.toNat)) from (f511.1 27 0 ((a1.toInt.toNat)) (by simp) (by decide)).trans (show gV τ495 27 0 (a1.toInt.toNat) = (gV σ 27 0 (a1.toInt.toNat)) from (f497.1 27 0 ((a1.toInt.toNat)) (by simp) (by decide)).trans rfl)) ?_
              refine m_iload_n C dX12_bells_48 rfl rfl ?_
              refine m_icmp_ge (tgt := 58) C dX12_bells_49 (by decide) (fun c531 => ?_) (fun c531 => ?_)
              · have f532 : 5 ≤ (gV σ 27 0 (a1.toInt.toNat)).toInt := by
                  have q : _ := c531
                  simp only [ti_nle, ti_nlt, ti_le, ti_lt, ti_eq, ti_ne, Classical.not_not, kt_5] at q
                  omega
                have b533 : IV (gV σ 27 0 (a1.toInt.toNat)) 5 40 := ⟨by have q1 := kc_5; have q2 := u494; omega, by have q1 := kc_5; have q2 := u494; omega⟩
                refine m_iconst (v := 0) C dX12_bells_58 (by decide) ?_
                refine m_istore (L1 := [some (.ref (G.1 22 0)), some (.int a1), some (.int 5), some (.int a3), some (.int 0), none, none, none, none, none, none, none, none, none]) C dX12_bells_59 (by decide) rfl rfl ?_
                exact J61 ((5 - (0 : Int32).toInt).toNat + 1) τ509 0 i510 g514 b508 b527 (iv_wk kc_0 (by decide)) (by omega) (AlJ.zero (by have q := kt_0; omega)) (Nat.lt_succ_self _)
              · have f534 : (gV σ 27 0 (a1.toInt.toNat)).toInt < 5 := by
                  have q : _ := c531
                  simp only [ti_nle, ti_nlt, ti_le, ti_lt, ti_eq, ti_ne, Classical.not_not, kt_5] at q
                  omega
                have b535 : IV (gV σ 27 0 (a1.toInt.toNat)) 0 4 := ⟨by have q1 := u494; have q2 := kc_5; omega, by have q1 := u494; have q2 := kc_5; omega⟩
                refine m_aload_n C dX12_bells_52 rfl rfl ?_
                refine m_iconst (v := 2) C dX12_bells_53 (by decide) ?_
                refine m_callV (n := 1) (ci := 11) (st := []) C (c_X12_met l G τ509 (2) i510 (iv_wk kc_2 (by decide))) (by decide) (by decide) rfl rfl rfl q4_196 q4_193 q4_195 q0_26 q1_7 (by decide +kernel) rfl (by decide) (by decide) rfl (Nat.le_of_ble_eq_true rfl) dX12_bells_54 ?_
                rintro _ τ536 ⟨x539, rfl, i537, f538, b540, h542⟩
                have g541 : Fr MS_X12_bells_5Z AS_X12_bells_5Z σ τ536 := Fr.call (g514) f538 (by decide)
                have q543 : (gV τ536 26 0 (a1.toInt.toNat)).toInt = (gV σ 26 0 (a1.toInt.toNat)).toInt := congrArg Int32.toInt (show (gV τ536 26 0 (a1.toInt.toNat)) = (gV σ 26 0 (a1.toInt.toNat)) from (show gV τ536 26 0 (a1.toInt.toNat) = (gV σ 26 0 (a1.toInt.toNat)) from (f538.1 26 0 ((a1.toInt.toNat)) (by simp) (by decide)).trans (show gV τ509 26 0 (a1.toInt.toNat) = (gV σ 26 0 (a1.toInt.toNat)) from (f511.1 26 0 ((a1.toInt.toNat)) (by simp) (by decide)).trans (show gV τ495 26 0 (a1.toInt.toNat) = (gV σ 26 0 (a1.toInt.toNat)) from (f497.1 26 0 ((a1.toInt.toNat)) (by simp) (by decide)).trans rfl))))
                have q544 : (gV τ536 27 0 (a1.toInt.toNat)).toInt = (gV σ 27 0 (a1.toInt.toNat)).toInt := congrArg Int32.toInt (show (gV τ536 27 0 (a1.toInt.toNat)) = (gV σ 27 0 (a1.toInt.toNat)) from (show gV τ536 27 0 (a1.toInt.toNat) = (gV σ 27 0 (a1.toInt.toNat)) from (f538.1 27 0 ((a1.toInt.toNat)) (by simp) (by decide)).trans (show gV τ509 27 0 (a1.toInt.toNat) = (gV σ 27 0 (a1.toInt.toNat)) from (f511.1 27 0 ((a1.toInt.toNat)) (by simp) (by decide)).trans (show gV τ495 27 0 (a1.toInt.toNat) = (gV σ 27 0 (a1.toInt.toNat)) from (f497.1 27 0 ((a1.toInt.toNat)) (by simp) (by decide)).trans rfl))))
                have q545 := kt_2
                show MW p l e _ s m args below meth c _ 14 G 0 0 57 [some (.ref (G.1 22 0)), some (.int a1), some (.int 5), some (.int a3), none, none, none, none, none, none, none, none, none, none] [.int x539] τ536
                exact m_iret C hr hlk (by decide) (by decide) dX12_bells_57 ⟨_, rfl, i537, g541, (iv_wk b540 (by decide)), (Or.inr (Or.inr (Or.inl ⟨by omega, by omega, by omega, by omega⟩)))⟩
            · have f546 : (gV σ 26 0 (a1.toInt.toNat)).toInt < 0 := by
                have q : _ := c528
                simp only [ti_nle, ti_nlt, ti_le, ti_lt, ti_eq, ti_ne, Classical.not_not, kt_0] at q
                omega
              have b547 : IV (gV σ 26 0 (a1.toInt.toNat)) (-2147483648) (-1) := ⟨by have q1 := (iv_any (gV σ 26 0 (a1.toInt.toNat))); have q2 := kc_0; omega, by have q1 := (iv_any (gV σ 26 0 (a1.toInt.toNat))); have q2 := kc_0; omega⟩
              refine m_aload_n C dX12_bells_36 rfl rfl ?_
              refine m_iconst (v := 1) C dX12_bells_37 (by decide) ?_
              refine m_callV (n := 1) (ci := 11) (st := []) C (c_X12_met l G τ509 (1) i510 (iv_wk kc_1 (by decide))) (by decide) (by decide) rfl rfl rfl q4_196 q4_193 q4_195 q0_26 q1_7 (by decide +kernel) rfl (by decide) (by decide) rfl (Nat.le_of_ble_eq_true rfl) dX12_bells_38 ?_
              rintro _ τ548 ⟨x551, rfl, i549, f550, b552, h554⟩
              have g553 : Fr MS_X12_bells_5Z AS_X12_bells_5Z σ τ548 := Fr.call (g514) f550 (by decide)
              have q555 : (gV τ548 26 0 (a1.toInt.toNat)).toInt = (gV σ 26 0 (a1.toInt.toNat)).toInt := congrArg Int32.toInt (show (gV τ548 26 0 (a1.toInt.toNat)) = (gV σ 26 0 (a1.toInt.toNat)) from (show gV τ548 26 0 (a1.toInt.toNat) = (gV σ 26 0 (a1.toInt.toNat)) from (f550.1 26 0 ((a1.toInt.toNat)) (by simp) (by decide)).trans (show gV τ509 26 0 (a1.toInt.toNat) = (gV σ 26 0 (a1.toInt.toNat)) from (f511.1 26 0 ((a1.toInt.toNat)) (by simp) (by decide)).trans (show gV τ495 26 0 (a1.toInt.toNat) = (gV σ 26 0 (a1.toInt.toNat)) from (f497.1 26 0 ((a1.toInt.toNat)) (by simp) (by decide)).trans rfl))))
              have q556 : (gV τ548 27 0 (a1.toInt.toNat)).toInt = (gV σ 27 0 (a1.toInt.toNat)).toInt := congrArg Int32.toInt (show (gV τ548 27 0 (a1.toInt.toNat)) = (gV σ 27 0 (a1.toInt.toNat)) from (show gV τ548 27 0 (a1.toInt.toNat) = (gV σ 27 0 (a1.toInt.toNat)) from (f550.1 27 0 ((a1.toInt.toNat)) (by simp) (by decide)).trans (show gV τ509 27 0 (a1.toInt.toNat) = (gV σ 27 0 (a1.toInt.toNat)) from (f511.1 27 0 ((a1.toInt.toNat)) (by simp) (by decide)).trans (show gV τ495 27 0 (a1.toInt.toNat) = (gV σ 27 0 (a1.toInt.toNat)) from (f497.1 27 0 ((a1.toInt.toNat)) (by simp) (by decide)).trans rfl))))
              have q557 := kt_1
              show MW p l e _ s m args below meth c _ 14 G 0 0 41 [some (.ref (G.1 22 0)), some (.int a1), some (.int 5), some (.int a3), none, none, none, none, none, none, none, none, none, none] [.int x551] τ548
              exact m_iret C hr hlk (by decide) (by decide) dX12_bells_41 ⟨_, rfl, i549, g553, (iv_wk b552 (by decide)), (Or.inr (Or.inl ⟨by omega, by omega, by omega⟩))⟩
          · have f558 : a3.toInt < -1 := by
              have q : _ := c525
              simp only [ti_nle, ti_nlt, ti_le, ti_lt, ti_eq, ti_ne, Classical.not_not, kt_m1] at q
              omega
            have b559 : IV a3 (-2147483648) (-2) := ⟨by have q1 := (iv_any a3); have q2 := kc_m1; omega, by have q1 := (iv_any a3); have q2 := kc_m1; omega⟩
            refine m_ldc (v := (-1000001)) C dX12_bells_24 q4_192 ?_
            exact m_iret C hr hlk (by decide) (by decide) dX12_bells_26 ⟨_, rfl, i510, g514, (iv_wk kc_m1000001 (by decide)), (Or.inl ⟨by have qk := kt_m1000001; omega, by have qk := kt_m1000001; omega⟩)⟩
      · skip
        have b560 : IV x512 0 0 := ⟨by omega, by omega⟩
        show MW p l e _ s m args below meth c _ 14 G 0 0 16 [some (.ref (G.1 22 0)), some (.int a1), some (.int 5), some (.int a3), none, none, none, none, none, none, none, none, none, none] [.int x512] τ509
        refine m_if_eq (tgt := 24) C dX12_bells_16 (by decide) (fun c561 => ?_) (fun c561 => ?_)
        · have f562 : x512.toInt = 0 := by
            have q : _ := c561
            simp only [ti_nle, ti_nlt, ti_le, ti_lt, ti_eq, ti_ne, Classical.not_not, kt_0] at q
            omega
          refine m_ldc (v := (-1000001)) C dX12_bells_24 q4_192 ?_
          exact m_iret C hr hlk (by decide) (by decide) dX12_bells_26 ⟨_, rfl, i510, g514, (iv_wk kc_m1000001 (by decide)), (Or.inl ⟨by have qk := kt_m1000001; omega, by have qk := kt_m1000001; omega⟩)⟩
        · exfalso
          have q : _ := c561
          simp only [ti_nle, ti_nlt, ti_le, ti_lt, ti_eq, ti_ne, Classical.not_not, kt_0] at q
          have q1 := b560; have q2 := kc_0; omega
  · skip
    have b564 : IV x498 0 0 := ⟨by omega, by omega⟩
    show MW p l e _ s m args below meth c _ 14 G 0 0 4 [some (.ref (G.1 22 0)), some (.int a1), some (.int 5), some (.int a3), none, none, none, none, none, none, none, none, none, none] [.int x498] τ495
    refine m_if_eq (tgt := 24) C dX12_bells_4 (by decide) (fun c565 => ?_) (fun c565 => ?_)
    · have f566 : x498.toInt = 0 := by
        have q : _ := c565
        simp only [ti_nle, ti_nlt, ti_le, ti_lt, ti_eq, ti_ne, Classical.not_not, kt_0] at q
        omega
      refine m_ldc (v := (-1000001)) C dX12_bells_24 q4_192 ?_
      exact m_iret C hr hlk (by decide) (by decide) dX12_bells_26 ⟨_, rfl, i496, g500, (iv_wk kc_m1000001 (by decide)), (Or.inl ⟨by have qk := kt_m1000001; omega, by have qk := kt_m1000001; omega⟩)⟩
    · exfalso
      have q : _ := c565
      simp only [ti_nle, ti_nlt, ti_le, ti_lt, ti_eq, ti_ne, Classical.not_not, kt_0] at q
      have q1 := b564; have q2 := kc_0; omega

abbrev MS_X12_bells_loZ : List (Nat × Nat) := [(22, 8)]
abbrev AS_X12_bells_loZ : List Nat := []
set_option maxHeartbeats 4000000 in
set_option maxRecDepth 100000 in
theorem c_X12_bells_loZ (l : Launch) (G : Gt) (σ : Sg) (a1 : Int32) (a2 : Int32) (a3 : Int32) (hI : Inv σ) (ha2 : IV a2 (-2147483648) 0) : Mc l G yX12_bells cX12_bells 14 (some .int) 2 60 0 0 [.ref (G.1 22 0), .int a1, .int a2, .int a3] σ (PI fun r τ => Inv τ ∧ Fr MS_X12_bells_loZ AS_X12_bells_loZ σ τ ∧ IV r (-2147483648) 2147483647 ∧ (((a1.toInt < 0 ∨ 7 < a1.toInt ∨ a2.toInt < 1 ∨ 5 < a2.toInt ∨ a3.toInt < -1) ∧ r.toInt = -1000001) ∨ (((0 ≤ a1.toInt ∧ a1.toInt ≤ 7) ∧ 1 ≤ a2.toInt ∧ a2.toInt ≤ 5 ∧ -1 ≤ a3.toInt) ∧ (gV σ 26 0 (a1.toInt.toNat)).toInt < 0 ∧ r.toInt = -1000011) ∨ (((0 ≤ a1.toInt ∧ a1.toInt ≤ 7) ∧ 1 ≤ a2.toInt ∧ a2.toInt ≤ 5 ∧ -1 ≤ a3.toInt) ∧ 0 ≤ (gV σ 26 0 (a1.toInt.toNat)).toInt ∧ (gV σ 27 0 (a1.toInt.toNat)).toInt < a2.toInt ∧ r.toInt = -1000012) ∨ (((0 ≤ a1.toInt ∧ a1.toInt ≤ 7) ∧ 1 ≤ a2.toInt ∧ a2.toInt ≤ 5 ∧ -1 ≤ a3.toInt) ∧ 0 ≤ (gV σ 26 0 (a1.toInt.toNat)).toInt ∧ a2.toInt ≤ (gV σ 27 0 (a1.toInt.toNat)).toInt ∧ ¬ AlJ σ (a1.toInt.toNat) a2.toInt 1 20 ∧ r.toInt = -1000001) ∨ (((0 ≤ a1.toInt ∧ a1.toInt ≤ 7) ∧ 1 ≤ a2.toInt ∧ a2.toInt ≤ 5 ∧ -1 ≤ a3.toInt) ∧ 0 ≤ (gV σ 26 0 (a1.toInt.toNat)).toInt ∧ a2.toInt ≤ (gV σ 27 0 (a1.toInt.toNat)).toInt ∧ AlJ σ (a1.toInt.toNat) a2.toInt 1 20 ∧ RESB r a3 a2.toInt.toNat (bbest (nuJ σ (a1.toInt.toNat) a2.toInt.toNat) a2.toInt.toNat)))) := by
  refine Mc.of (L0 := [some (.ref (G.1 22 0)), some (.int a1), some (.int a2), some (.int a3), none, none, none, none, none, none, none, none, none, none]) (by decide) (Nat.le_of_ble_eq_true rfl) rfl ?_
  intro p e s m args below meth c C hr hlk
  have C : Cx p s m args c cX12_bells 14 "LeanTowerModel" := C
  have k0 : (0 : Int32).toInt = 0 := by decide
  have k1 : (1 : Int32).toInt = 1 := by decide
  have u1 : IV (gV σ 27 0 (a1.toInt.toNat)) 0 40 := hI.1 27 0 (a1.toInt.toNat)
  refine m_iload_n C dX12_bells_0 rfl rfl ?_
  refine m_callS (n := 1) (st := []) C (c_X12_isRow l G σ (a1) hI ) q4_186 q4_184 q4_185 q1_7 (by decide +kernel) rfl (by decide) (by decide) rfl (Nat.le_of_ble_eq_true rfl) dX12_bells_1 ?_
  rintro _ τ2 ⟨x5, rfl, i3, f4, b6, h8⟩
  have g7 : Fr MS_X12_bells_loZ AS_X12_bells_loZ σ τ2 := Fr.call (Fr.rf) f4 (by decide)
  have q9 : (gV τ2 26 0 (a1.toInt.toNat)).toInt = (gV σ 26 0 (a1.toInt.toNat)).toInt := congrArg Int32.toInt (show (gV τ2 26 0 (a1.toInt.toNat)) = (gV σ 26 0 (a1.toInt.toNat)) from (show gV τ2 26 0 (a1.toInt.toNat) = (gV σ 26 0 (a1.toInt.toNat)) from (f4.1 26 0 ((a1.toInt.toNat)) (by simp) (by decide)).trans rfl))
  have q10 : (gV τ2 27 0 (a1.toInt.toNat)).toInt = (gV σ 27 0 (a1.toInt.toNat)).toInt := congrArg Int32.toInt (show (gV τ2 27 0 (a1.toInt.toNat)) = (gV σ 27 0 (a1.toInt.toNat)) from (show gV τ2 27 0 (a1.toInt.toNat) = (gV σ 27 0 (a1.toInt.toNat)) from (f4.1 27 0 ((a1.toInt.toNat)) (by simp) (by decide)).trans rfl))
  rcases h8 with ⟨h8_0, h8_1, h8_2⟩ | ⟨h8_0, h8_1⟩
  · skip
    have b11 : IV x5 1 1 := ⟨by omega, by omega⟩
    show MW p l e _ s m args below meth c _ 14 G 0 0 4 [some (.ref (G.1 22 0)), some (.int a1), some (.int a2), some (.int a3), none, none, none, none, none, none, none, none, none, none] [.int x5] τ2
    refine m_if_eq (tgt := 24) C dX12_bells_4 (by decide) (fun c12 => ?_) (fun c12 => ?_)
    · exfalso
      have q : _ := c12
      simp only [ti_nle, ti_nlt, ti_le, ti_lt, ti_eq, ti_ne, Classical.not_not, kt_0] at q
      have q1 := b11; have q2 := kc_0; omega
    · have f14 : x5.toInt ≠ 0 := by
        have q : _ := c12
        simp only [ti_nle, ti_nlt, ti_le, ti_lt, ti_eq, ti_ne, Classical.not_not, kt_0] at q
        omega
      have b15 : IV a1 0 7 := ⟨by have q1 := (iv_any a1); omega, by have q1 := (iv_any a1); omega⟩
      refine m_iload_n C dX12_bells_7 rfl rfl ?_
      refine m_i2l C dX12_bells_8 ?_
      refine m_lconst (v := 1) C dX12_bells_9 (by decide) ?_
      refine m_ldc2 (v := 5) C dX12_bells_10 q5_173 ?_
      refine m_callS (n := 3) (st := []) C (c_X12_in l G τ2 ((a2 : Int32).toInt64) (1) (5) i3 ) q4_190 q4_188 q4_189 q1_7 (by decide +kernel) rfl (by decide) (by decide) rfl (Nat.le_of_ble_eq_true rfl) dX12_bells_13 ?_
      rintro _ τ16 ⟨x19, rfl, i17, f18, b20, h22⟩
      have g21 : Fr MS_X12_bells_loZ AS_X12_bells_loZ σ τ16 := Fr.call (g7) f18 (by decide)
      have q23 : (gV τ16 26 0 (a1.toInt.toNat)).toInt = (gV σ 26 0 (a1.toInt.toNat)).toInt := congrArg Int32.toInt (show (gV τ16 26 0 (a1.toInt.toNat)) = (gV σ 26 0 (a1.toInt.toNat)) from (show gV τ16 26 0 (a1.toInt.toNat) = (gV σ 26 0 (a1.toInt.toNat)) from (f18.1 26 0 ((a1.toInt.toNat)) (by simp) (by decide)).trans (show gV τ2 26 0 (a1.toInt.toNat) = (gV σ 26 0 (a1.toInt.toNat)) from (f4.1 26 0 ((a1.toInt.toNat)) (by simp) (by decide)).trans rfl)))
      have q24 : (gV τ16 27 0 (a1.toInt.toNat)).toInt = (gV σ 27 0 (a1.toInt.toNat)).toInt := congrArg Int32.toInt (show (gV τ16 27 0 (a1.toInt.toNat)) = (gV σ 27 0 (a1.toInt.toNat)) from (show gV τ16 27 0 (a1.toInt.toNat) = (gV σ 27 0 (a1.toInt.toNat)) from (f18.1 27 0 ((a1.toInt.toNat)) (by simp) (by decide)).trans (show gV τ2 27 0 (a1.toInt.toNat) = (gV σ 27 0 (a1.toInt.toNat)) from (f4.1 27 0 ((a1.toInt.toNat)) (by simp) (by decide)).trans rfl)))
      have f25 := tl_i a2
      have f26 := kl_1
      have f27 := kl_5
      rcases h22 with ⟨h22_0, h22_1, h22_2⟩ | ⟨h22_0, h22_1⟩
      · skip
        have b28 : IV x19 1 1 := ⟨by omega, by omega⟩
        show MW p l e _ s m args below meth c _ 14 G 0 0 16 [some (.ref (G.1 22 0)), some (.int a1), some (.int a2), some (.int a3), none, none, none, none, none, none, none, none, none, none] [.int x19] τ16
        refine m_if_eq (tgt := 24) C dX12_bells_16 (by decide) (fun c29 => ?_) (fun c29 => ?_)
        · exfalso
          have q : _ := c29
          simp only [ti_nle, ti_nlt, ti_le, ti_lt, ti_eq, ti_ne, Classical.not_not, kt_0] at q
          have q1 := b28; have q2 := kc_0; omega
        · exfalso
          have q : _ := c29
          simp only [ti_nle, ti_nlt, ti_le, ti_lt, ti_eq, ti_ne, Classical.not_not, kt_0] at q
          have q1 := b28; have q2 := kc_0; omega
      · skip
        have b32 : IV x19 0 0 := ⟨by omega, by omega⟩
        show MW p l e _ s m args below meth c _ 14 G 0 0 16 [some (.ref (G.1 22 0)), some (.int a1), some (.int a2), some (.int a3), none, none, none, none, none, none, none, none, none, none] [.int x19] τ16
        refine m_if_eq (tgt := 24) C dX12_bells_16 (by decide) (fun c33 => ?_) (fun c33 => ?_)
        · have f34 : x19.toInt = 0 := by
            have q : _ := c33
            simp only [ti_nle, ti_nlt, ti_le, ti_lt, ti_eq, ti_ne, Classical.not_not, kt_0] at q
            omega
          refine m_ldc (v := (-1000001)) C dX12_bells_24 q4_192 ?_
          exact m_iret C hr hlk (by decide) (by decide) dX12_bells_26 ⟨_, rfl, i17, g21, (iv_wk kc_m1000001 (by decide)), (Or.inl ⟨by have qk := kt_m1000001; omega, by have qk := kt_m1000001; omega⟩)⟩
        · exfalso
          have q : _ := c33
          simp only [ti_nle, ti_nlt, ti_le, ti_lt, ti_eq, ti_ne, Classical.not_not, kt_0] at q
          have q1 := b32; have q2 := kc_0; omega
  · skip
    have b36 : IV x5 0 0 := ⟨by omega, by omega⟩
    show MW p l e _ s m args below meth c _ 14 G 0 0 4 [some (.ref (G.1 22 0)), some (.int a1), some (.int a2), some (.int a3), none, none, none, none, none, none, none, none, none, none] [.int x5] τ2
    refine m_if_eq (tgt := 24) C dX12_bells_4 (by decide) (fun c37 => ?_) (fun c37 => ?_)
    · have f38 : x5.toInt = 0 := by
        have q : _ := c37
        simp only [ti_nle, ti_nlt, ti_le, ti_lt, ti_eq, ti_ne, Classical.not_not, kt_0] at q
        omega
      refine m_ldc (v := (-1000001)) C dX12_bells_24 q4_192 ?_
      exact m_iret C hr hlk (by decide) (by decide) dX12_bells_26 ⟨_, rfl, i3, g7, (iv_wk kc_m1000001 (by decide)), (Or.inl ⟨by have qk := kt_m1000001; omega, by have qk := kt_m1000001; omega⟩)⟩
    · exfalso
      have q : _ := c37
      simp only [ti_nle, ti_nlt, ti_le, ti_lt, ti_eq, ti_ne, Classical.not_not, kt_0] at q
      have q1 := b36; have q2 := kc_0; omega

abbrev MS_X12_bells_hiZ : List (Nat × Nat) := [(22, 8)]
abbrev AS_X12_bells_hiZ : List Nat := []
set_option maxHeartbeats 4000000 in
set_option maxRecDepth 100000 in
theorem c_X12_bells_hiZ (l : Launch) (G : Gt) (σ : Sg) (a1 : Int32) (a2 : Int32) (a3 : Int32) (hI : Inv σ) (ha2 : IV a2 6 2147483647) : Mc l G yX12_bells cX12_bells 14 (some .int) 2 60 0 0 [.ref (G.1 22 0), .int a1, .int a2, .int a3] σ (PI fun r τ => Inv τ ∧ Fr MS_X12_bells_hiZ AS_X12_bells_hiZ σ τ ∧ IV r (-2147483648) 2147483647 ∧ (((a1.toInt < 0 ∨ 7 < a1.toInt ∨ a2.toInt < 1 ∨ 5 < a2.toInt ∨ a3.toInt < -1) ∧ r.toInt = -1000001) ∨ (((0 ≤ a1.toInt ∧ a1.toInt ≤ 7) ∧ 1 ≤ a2.toInt ∧ a2.toInt ≤ 5 ∧ -1 ≤ a3.toInt) ∧ (gV σ 26 0 (a1.toInt.toNat)).toInt < 0 ∧ r.toInt = -1000011) ∨ (((0 ≤ a1.toInt ∧ a1.toInt ≤ 7) ∧ 1 ≤ a2.toInt ∧ a2.toInt ≤ 5 ∧ -1 ≤ a3.toInt) ∧ 0 ≤ (gV σ 26 0 (a1.toInt.toNat)).toInt ∧ (gV σ 27 0 (a1.toInt.toNat)).toInt < a2.toInt ∧ r.toInt = -1000012) ∨ (((0 ≤ a1.toInt ∧ a1.toInt ≤ 7) ∧ 1 ≤ a2.toInt ∧ a2.toInt ≤ 5 ∧ -1 ≤ a3.toInt) ∧ 0 ≤ (gV σ 26 0 (a1.toInt.toNat)).toInt ∧ a2.toInt ≤ (gV σ 27 0 (a1.toInt.toNat)).toInt ∧ ¬ AlJ σ (a1.toInt.toNat) a2.toInt 1 20 ∧ r.toInt = -1000001) ∨ (((0 ≤ a1.toInt ∧ a1.toInt ≤ 7) ∧ 1 ≤ a2.toInt ∧ a2.toInt ≤ 5 ∧ -1 ≤ a3.toInt) ∧ 0 ≤ (gV σ 26 0 (a1.toInt.toNat)).toInt ∧ a2.toInt ≤ (gV σ 27 0 (a1.toInt.toNat)).toInt ∧ AlJ σ (a1.toInt.toNat) a2.toInt 1 20 ∧ RESB r a3 a2.toInt.toNat (bbest (nuJ σ (a1.toInt.toNat) a2.toInt.toNat) a2.toInt.toNat)))) := by
  refine Mc.of (L0 := [some (.ref (G.1 22 0)), some (.int a1), some (.int a2), some (.int a3), none, none, none, none, none, none, none, none, none, none]) (by decide) (Nat.le_of_ble_eq_true rfl) rfl ?_
  intro p e s m args below meth c C hr hlk
  have C : Cx p s m args c cX12_bells 14 "LeanTowerModel" := C
  have k0 : (0 : Int32).toInt = 0 := by decide
  have k1 : (1 : Int32).toInt = 1 := by decide
  have u1 : IV (gV σ 27 0 (a1.toInt.toNat)) 0 40 := hI.1 27 0 (a1.toInt.toNat)
  refine m_iload_n C dX12_bells_0 rfl rfl ?_
  refine m_callS (n := 1) (st := []) C (c_X12_isRow l G σ (a1) hI ) q4_186 q4_184 q4_185 q1_7 (by decide +kernel) rfl (by decide) (by decide) rfl (Nat.le_of_ble_eq_true rfl) dX12_bells_1 ?_
  rintro _ τ2 ⟨x5, rfl, i3, f4, b6, h8⟩
  have g7 : Fr MS_X12_bells_hiZ AS_X12_bells_hiZ σ τ2 := Fr.call (Fr.rf) f4 (by decide)
  have q9 : (gV τ2 26 0 (a1.toInt.toNat)).toInt = (gV σ 26 0 (a1.toInt.toNat)).toInt := congrArg Int32.toInt (show (gV τ2 26 0 (a1.toInt.toNat)) = (gV σ 26 0 (a1.toInt.toNat)) from (show gV τ2 26 0 (a1.toInt.toNat) = (gV σ 26 0 (a1.toInt.toNat)) from (f4.1 26 0 ((a1.toInt.toNat)) (by simp) (by decide)).trans rfl))
  have q10 : (gV τ2 27 0 (a1.toInt.toNat)).toInt = (gV σ 27 0 (a1.toInt.toNat)).toInt := congrArg Int32.toInt (show (gV τ2 27 0 (a1.toInt.toNat)) = (gV σ 27 0 (a1.toInt.toNat)) from (show gV τ2 27 0 (a1.toInt.toNat) = (gV σ 27 0 (a1.toInt.toNat)) from (f4.1 27 0 ((a1.toInt.toNat)) (by simp) (by decide)).trans rfl))
  rcases h8 with ⟨h8_0, h8_1, h8_2⟩ | ⟨h8_0, h8_1⟩
  · skip
    have b11 : IV x5 1 1 := ⟨by omega, by omega⟩
    show MW p l e _ s m args below meth c _ 14 G 0 0 4 [some (.ref (G.1 22 0)), some (.int a1), some (.int a2), some (.int a3), none, none, none, none, none, none, none, none, none, none] [.int x5] τ2
    refine m_if_eq (tgt := 24) C dX12_bells_4 (by decide) (fun c12 => ?_) (fun c12 => ?_)
    · exfalso
      have q : _ := c12
      simp only [ti_nle, ti_nlt, ti_le, ti_lt, ti_eq, ti_ne, Classical.not_not, kt_0] at q
      have q1 := b11; have q2 := kc_0; omega
    · have f14 : x5.toInt ≠ 0 := by
        have q : _ := c12
        simp only [ti_nle, ti_nlt, ti_le, ti_lt, ti_eq, ti_ne, Classical.not_not, kt_0] at q
        omega
      have b15 : IV a1 0 7 := ⟨by have q1 := (iv_any a1); omega, by have q1 := (iv_any a1); omega⟩
      refine m_iload_n C dX12_bells_7 rfl rfl ?_
      refine m_i2l C dX12_bells_8 ?_
      refine m_lconst (v := 1) C dX12_bells_9 (by decide) ?_
      refine m_ldc2 (v := 5) C dX12_bells_10 q5_173 ?_
      refine m_callS (n := 3) (st := []) C (c_X12_in l G τ2 ((a2 : Int32).toInt64) (1) (5) i3 ) q4_190 q4_188 q4_189 q1_7 (by decide +kernel) rfl (by decide) (by decide) rfl (Nat.le_of_ble_eq_true rfl) dX12_bells_13 ?_
      rintro _ τ16 ⟨x19, rfl, i17, f18, b20, h22⟩
      have g21 : Fr MS_X12_bells_hiZ AS_X12_bells_hiZ σ τ16 := Fr.call (g7) f18 (by decide)
      have q23 : (gV τ16 26 0 (a1.toInt.toNat)).toInt = (gV σ 26 0 (a1.toInt.toNat)).toInt := congrArg Int32.toInt (show (gV τ16 26 0 (a1.toInt.toNat)) = (gV σ 26 0 (a1.toInt.toNat)) from (show gV τ16 26 0 (a1.toInt.toNat) = (gV σ 26 0 (a1.toInt.toNat)) from (f18.1 26 0 ((a1.toInt.toNat)) (by simp) (by decide)).trans (show gV τ2 26 0 (a1.toInt.toNat) = (gV σ 26 0 (a1.toInt.toNat)) from (f4.1 26 0 ((a1.toInt.toNat)) (by simp) (by decide)).trans rfl)))
      have q24 : (gV τ16 27 0 (a1.toInt.toNat)).toInt = (gV σ 27 0 (a1.toInt.toNat)).toInt := congrArg Int32.toInt (show (gV τ16 27 0 (a1.toInt.toNat)) = (gV σ 27 0 (a1.toInt.toNat)) from (show gV τ16 27 0 (a1.toInt.toNat) = (gV σ 27 0 (a1.toInt.toNat)) from (f18.1 27 0 ((a1.toInt.toNat)) (by simp) (by decide)).trans (show gV τ2 27 0 (a1.toInt.toNat) = (gV σ 27 0 (a1.toInt.toNat)) from (f4.1 27 0 ((a1.toInt.toNat)) (by simp) (by decide)).trans rfl)))
      have f25 := tl_i a2
      have f26 := kl_1
      have f27 := kl_5
      rcases h22 with ⟨h22_0, h22_1, h22_2⟩ | ⟨h22_0, h22_1⟩
      · skip
        have b28 : IV x19 1 1 := ⟨by omega, by omega⟩
        show MW p l e _ s m args below meth c _ 14 G 0 0 16 [some (.ref (G.1 22 0)), some (.int a1), some (.int a2), some (.int a3), none, none, none, none, none, none, none, none, none, none] [.int x19] τ16
        refine m_if_eq (tgt := 24) C dX12_bells_16 (by decide) (fun c29 => ?_) (fun c29 => ?_)
        · exfalso
          have q : _ := c29
          simp only [ti_nle, ti_nlt, ti_le, ti_lt, ti_eq, ti_ne, Classical.not_not, kt_0] at q
          have q1 := b28; have q2 := kc_0; omega
        · exfalso
          have q : _ := c29
          simp only [ti_nle, ti_nlt, ti_le, ti_lt, ti_eq, ti_ne, Classical.not_not, kt_0] at q
          have q1 := b28; have q2 := kc_0; omega
      · skip
        have b32 : IV x19 0 0 := ⟨by omega, by omega⟩
        show MW p l e _ s m args below meth c _ 14 G 0 0 16 [some (.ref (G.1 22 0)), some (.int a1), some (.int a2), some (.int a3), none, none, none, none, none, none, none, none, none, none] [.int x19] τ16
        refine m_if_eq (tgt := 24) C dX12_bells_16 (by decide) (fun c33 => ?_) (fun c33 => ?_)
        · have f34 : x19.toInt = 0 := by
            have q : _ := c33
            simp only [ti_nle, ti_nlt, ti_le, ti_lt, ti_eq, ti_ne, Classical.not_not, kt_0] at q
            omega
          refine m_ldc (v := (-1000001)) C dX12_bells_24 q4_192 ?_
          exact m_iret C hr hlk (by decide) (by decide) dX12_bells_26 ⟨_, rfl, i17, g21, (iv_wk kc_m1000001 (by decide)), (Or.inl ⟨by have qk := kt_m1000001; omega, by have qk := kt_m1000001; omega⟩)⟩
        · exfalso
          have q : _ := c33
          simp only [ti_nle, ti_nlt, ti_le, ti_lt, ti_eq, ti_ne, Classical.not_not, kt_0] at q
          have q1 := b32; have q2 := kc_0; omega
  · skip
    have b36 : IV x5 0 0 := ⟨by omega, by omega⟩
    show MW p l e _ s m args below meth c _ 14 G 0 0 4 [some (.ref (G.1 22 0)), some (.int a1), some (.int a2), some (.int a3), none, none, none, none, none, none, none, none, none, none] [.int x5] τ2
    refine m_if_eq (tgt := 24) C dX12_bells_4 (by decide) (fun c37 => ?_) (fun c37 => ?_)
    · have f38 : x5.toInt = 0 := by
        have q : _ := c37
        simp only [ti_nle, ti_nlt, ti_le, ti_lt, ti_eq, ti_ne, Classical.not_not, kt_0] at q
        omega
      refine m_ldc (v := (-1000001)) C dX12_bells_24 q4_192 ?_
      exact m_iret C hr hlk (by decide) (by decide) dX12_bells_26 ⟨_, rfl, i3, g7, (iv_wk kc_m1000001 (by decide)), (Or.inl ⟨by have qk := kt_m1000001; omega, by have qk := kt_m1000001; omega⟩)⟩
    · exfalso
      have q : _ := c37
      simp only [ti_nle, ti_nlt, ti_le, ti_lt, ti_eq, ti_ne, Classical.not_not, kt_0] at q
      have q1 := b36; have q2 := kc_0; omega
