abbrev MS_X12_bells_4Q : List (Nat × Nat) := [(22, 8)]
abbrev AS_X12_bells_4Q : List Nat := []
set_option maxHeartbeats 4000000 in
set_option maxRecDepth 100000 in
theorem c_X12_bells_4Q (l : Launch) (G : Gt) (σ : Sg) (a1 : Int32) (a3 : Int32) (hI : Inv σ) : Mc l G yX12_bells cX12_bells 14 (some .int) 2 60 0 0 [.ref (G.1 22 0), .int a1, .int 4, .int a3] σ (PI fun r τ => Inv τ ∧ Fr MS_X12_bells_4Q AS_X12_bells_4Q σ τ ∧ IV r (-2147483648) 2147483647 ∧ BLM σ τ a1 a3 4) := by
  refine Mc.of (L0 := [some (.ref (G.1 22 0)), some (.int a1), some (.int 4), some (.int a3), none, none, none, none, none, none, none, none, none, none]) (by decide) (Nat.le_of_ble_eq_true rfl) rfl ?_
  intro p e s m args below meth c C hr hlk
  have C : Cx p s m args c cX12_bells 14 "LeanTowerModel" := C
  have k0 : (0 : Int32).toInt = 0 := by decide
  have k1 : (1 : Int32).toInt = 1 := by decide
  have J138 : ∀ (n : Nat) (τ : Sg) (y5 : Int32) (y6 : Int32) (y7 : Int32), Inv τ → Fr MS_X12_bells_4Q AS_X12_bells_4Q σ τ → IV a1 0 7 → IV a3 (-1) 2147483647 → IV y5 (-1) 256 → IV y6 (-2147483648) 2147483647 → IV y7 0 256 → (((0 ≤ a1.toInt ∧ a1.toInt ≤ 7) ∧ 1 ≤ 4 ∧ 4 ≤ 5 ∧ -1 ≤ a3.toInt ∧ 0 ≤ (gV σ 26 0 (a1.toInt.toNat)).toInt ∧ 4 ≤ (gV σ 27 0 (a1.toInt.toNat)).toInt)) → ((gV τ 22 0 8).toInt = 0) → (AlJ σ (a1.toInt.toNat) 4 1 20) → (256 - y7.toInt).toNat < n → MW p l e { frames := 2, cells := 0, slots := 0, locals := 60 } s m args below meth c (MQ below (QP G (PI fun r τ => Inv τ ∧ Fr MS_X12_bells_4Q AS_X12_bells_4Q σ τ ∧ IV r (-2147483648) 2147483647 ∧ BLM σ τ a1 a3 4)) args s 0 0 (aG G)) 14 G 0 0 138 [some (.ref (G.1 22 0)), some (.int a1), some (.int 4), some (.int a3), some (.int 256), some (.int y5), some (.int y6), some (.int y7), none, none, none, none, none, none] [] τ := by
    intro n
    induction n with
    | zero => intro τ y5 y6 y7 iτ fτ b_a1 b_a3 b_y5 b_y6 b_y7 n1 n2 nL hm; exact absurd hm (Nat.not_lt_zero _)
    | succ n ih138 =>
      intro τ y5 y6 y7 iτ fτ b_a1 b_a3 b_y5 b_y6 b_y7 n1 n2 nL hm138
      have u3 : IV (gV τ 27 0 (a1.toInt.toNat)) 0 40 := iτ.1 27 0 (a1.toInt.toNat)
      refine m_iload C dX12_bells_138 rfl ?_
      refine m_iload C dX12_bells_140 rfl ?_
      refine m_icmp_ge (tgt := 285) C dX12_bells_142 (by decide) (fun c4 => ?_) (fun c4 => ?_)
      · have f5 : 256 ≤ y7.toInt := by
          have q : _ := c4
          simp only [ti_nle, ti_nlt, ti_le, ti_lt, ti_eq, ti_ne, Classical.not_not, kt_256] at q
          omega
        have b6 : IV y7 256 256 := ⟨by have q1 := kc_256; have q2 := b_y7; omega, by have q1 := kc_256; have q2 := b_y7; omega⟩
        refine m_iload_n C dX12_bells_285 rfl rfl ?_
        refine m_if_ge (tgt := 292) C dX12_bells_286 (by decide) (fun c7 => ?_) (fun c7 => ?_)
        · have f8 : 0 ≤ a3.toInt := by
            have q : _ := c7
            simp only [ti_nle, ti_nlt, ti_le, ti_lt, ti_eq, ti_ne, Classical.not_not, kt_0] at q
            omega
          have b9 : IV a3 0 2147483647 := ⟨by have q1 := kc_0; have q2 := b_a3; omega, by have q1 := kc_0; have q2 := b_a3; omega⟩
          refine m_iload C dX12_bells_292 rfl ?_
          refine m_istore (L1 := [some (.ref (G.1 22 0)), some (.int a1), some (.int 4), some (.int a3), some (.int 256), some (.int y5), some (.int y6), some (.int 256), none, none, none, none, none, none]) C dX12_bells_294 (by decide) rfl rfl ?_
          refine m_iconst (v := 0) C dX12_bells_296 (by decide) ?_
          refine m_istore (L1 := [some (.ref (G.1 22 0)), some (.int a1), some (.int 4), some (.int a3), some (.int 256), some (.int y5), some (.int y6), some (.int 256), some (.int 0), none, none, none, none, none]) C dX12_bells_297 (by decide) rfl rfl ?_
          refine m_iload C dX12_bells_299 rfl ?_
          refine m_iload_n C dX12_bells_301 rfl rfl ?_
          refine m_icmp_gt (tgt := 323) C dX12_bells_302 (by decide) (fun c10 => ?_) (fun c10 => ?_)
          · exfalso
            have q : _ := c10
            simp only [ti_nle, ti_nlt, ti_le, ti_lt, ti_eq, ti_ne, Classical.not_not, kt_0] at q
            have q1 := kc_0; have q2 := b9; omega
          · have f12 : 0 ≤ a3.toInt := by
              have q : _ := c10
              simp only [ti_nle, ti_nlt, ti_le, ti_lt, ti_eq, ti_ne, Classical.not_not, kt_0] at q
              omega
            refine m_iload C dX12_bells_305 rfl ?_
            refine m_iload_n C dX12_bells_307 rfl rfl ?_
            refine m_icmp_ge (tgt := 323) C dX12_bells_308 (by decide) (fun c13 => ?_) (fun c13 => ?_)
            · first | exact absurd c13 (by decide) | exact absurd (by decide) c13
            · have f15 : 0 < 4 := by
                have q : _ := c13
                simp only [ti_nle, ti_nlt, ti_le, ti_lt, ti_eq, ti_ne, Classical.not_not, kt_0, kt_4] at q
                omega
              refine m_iload C dX12_bells_311 rfl ?_
              refine m_iload_n C dX12_bells_313 rfl rfl ?_
              refine m_idiv C dX12_bells_314 (iv_nz kc_4 (by decide)) ?_
              refine m_topi (fun x16 ex16 => ?_)
              have b17 : IV x16 64 64 := by rw [ex16]; decide
              have tx16 : x16.toInt = 64 := by rw [ex16]; decide
              obtain rfl : x16 = 64 := by rw [ex16]; decide
              refine m_istore (L1 := [some (.ref (G.1 22 0)), some (.int a1), some (.int 4), some (.int a3), some (.int 256), some (.int y5), some (.int y6), some (.int 64), some (.int 0), none, none, none, none, none]) C dX12_bells_315 (by decide) rfl rfl ?_
              obtain ⟨x18, ex18⟩ : ∃ y : Int32, y = 0 + 1 := ⟨_, rfl⟩
              have b19 : IV x18 1 1 := by rw [ex18]; decide
              have tx18 : x18.toInt = 1 := by rw [ex18]; decide
              obtain rfl : x18 = 1 := by rw [ex18]; decide
              refine m_iinc (v := 1) (L1 := [some (.ref (G.1 22 0)), some (.int a1), some (.int 4), some (.int a3), some (.int 256), some (.int y5), some (.int y6), some (.int 64), some (.int 1), none, none, none, none, none]) C dX12_bells_317 rfl (by decide) (by decide) rfl rfl ?_
              refine m_goto (tgt := 299) C dX12_bells_320 (by decide) ?_
              refine m_iload C dX12_bells_299 rfl ?_
              refine m_iload_n C dX12_bells_301 rfl rfl ?_
              refine m_icmp_gt (tgt := 323) C dX12_bells_302 (by decide) (fun c20 => ?_) (fun c20 => ?_)
              · have f21 : a3.toInt < 1 := by
                  have q : _ := c20
                  simp only [ti_nle, ti_nlt, ti_le, ti_lt, ti_eq, ti_ne, Classical.not_not, kt_1] at q
                  omega
                have b22 : IV a3 0 0 := ⟨by have q1 := b9; have q2 := kc_1; omega, by have q1 := b9; have q2 := kc_1; omega⟩
                refine m_iload_n C dX12_bells_323 rfl rfl ?_
                refine m_iload_n C dX12_bells_324 rfl rfl ?_
                refine m_icmp_ge (tgt := 338) C dX12_bells_325 (by decide) (fun c23 => ?_) (fun c23 => ?_)
                · exfalso
                  have q : _ := c23
                  simp only [ti_nle, ti_nlt, ti_le, ti_lt, ti_eq, ti_ne, Classical.not_not, kt_4] at q
                  have q1 := b22; have q2 := kc_4; omega
                · have f25 : a3.toInt < 4 := by
                    have q : _ := c23
                    simp only [ti_nle, ti_nlt, ti_le, ti_lt, ti_eq, ti_ne, Classical.not_not, kt_4] at q
                    omega
                  refine m_iload C dX12_bells_328 rfl ?_
                  refine m_iload C dX12_bells_330 rfl ?_
                  refine m_idiv C dX12_bells_332 (iv_nz kc_64 (by decide)) ?_
                  refine m_topi (fun x26 ex26 => ?_)
                  refine m_iload_n C dX12_bells_333 rfl rfl ?_
                  refine m_irem C dX12_bells_334 (iv_nz kc_4 (by decide)) ?_
                  refine m_topi (fun x27 ex27 => ?_)
                  refine m_goto (tgt := 340) C dX12_bells_335 (by decide) ?_
                  exact m_iret C hr hlk (by decide) (by decide) dX12_bells_340 ⟨_, rfl, iτ, fτ, (iv_any x27), (Or.inr (Or.inr (Or.inr (Or.inr (⟨by omega, by omega, by omega, nL, by omega⟩)))))⟩
              · have f28 : 1 ≤ a3.toInt := by
                  have q : _ := c20
                  simp only [ti_nle, ti_nlt, ti_le, ti_lt, ti_eq, ti_ne, Classical.not_not, kt_1] at q
                  omega
                have b29 : IV a3 1 2147483647 := ⟨by have q1 := kc_1; have q2 := b9; omega, by have q1 := kc_1; have q2 := b9; omega⟩
                refine m_iload C dX12_bells_305 rfl ?_
                refine m_iload_n C dX12_bells_307 rfl rfl ?_
                refine m_icmp_ge (tgt := 323) C dX12_bells_308 (by decide) (fun c30 => ?_) (fun c30 => ?_)
                · first | exact absurd c30 (by decide) | exact absurd (by decide) c30
                · have f32 : 1 < 4 := by
                    have q : _ := c30
                    simp only [ti_nle, ti_nlt, ti_le, ti_lt, ti_eq, ti_ne, Classical.not_not, kt_1, kt_4] at q
                    omega
                  refine m_iload C dX12_bells_311 rfl ?_
                  refine m_iload_n C dX12_bells_313 rfl rfl ?_
                  refine m_idiv C dX12_bells_314 (iv_nz kc_4 (by decide)) ?_
                  refine m_topi (fun x33 ex33 => ?_)
                  have b34 : IV x33 16 16 := by rw [ex33]; decide
                  have tx33 : x33.toInt = 16 := by rw [ex33]; decide
                  obtain rfl : x33 = 16 := by rw [ex33]; decide
                  refine m_istore (L1 := [some (.ref (G.1 22 0)), some (.int a1), some (.int 4), some (.int a3), some (.int 256), some (.int y5), some (.int y6), some (.int 16), some (.int 1), none, none, none, none, none]) C dX12_bells_315 (by decide) rfl rfl ?_
                  obtain ⟨x35, ex35⟩ : ∃ y : Int32, y = 1 + 1 := ⟨_, rfl⟩
                  have b36 : IV x35 2 2 := by rw [ex35]; decide
                  have tx35 : x35.toInt = 2 := by rw [ex35]; decide
                  obtain rfl : x35 = 2 := by rw [ex35]; decide
                  refine m_iinc (v := 2) (L1 := [some (.ref (G.1 22 0)), some (.int a1), some (.int 4), some (.int a3), some (.int 256), some (.int y5), some (.int y6), some (.int 16), some (.int 2), none, none, none, none, none]) C dX12_bells_317 rfl (by decide) (by decide) rfl rfl ?_
                  refine m_goto (tgt := 299) C dX12_bells_320 (by decide) ?_
                  refine m_iload C dX12_bells_299 rfl ?_
                  refine m_iload_n C dX12_bells_301 rfl rfl ?_
                  refine m_icmp_gt (tgt := 323) C dX12_bells_302 (by decide) (fun c37 => ?_) (fun c37 => ?_)
                  · have f38 : a3.toInt < 2 := by
                      have q : _ := c37
                      simp only [ti_nle, ti_nlt, ti_le, ti_lt, ti_eq, ti_ne, Classical.not_not, kt_2] at q
                      omega
                    have b39 : IV a3 1 1 := ⟨by have q1 := b29; have q2 := kc_2; omega, by have q1 := b29; have q2 := kc_2; omega⟩
                    refine m_iload_n C dX12_bells_323 rfl rfl ?_
                    refine m_iload_n C dX12_bells_324 rfl rfl ?_
                    refine m_icmp_ge (tgt := 338) C dX12_bells_325 (by decide) (fun c40 => ?_) (fun c40 => ?_)
                    · exfalso
                      have q : _ := c40
                      simp only [ti_nle, ti_nlt, ti_le, ti_lt, ti_eq, ti_ne, Classical.not_not, kt_4] at q
                      have q1 := b39; have q2 := kc_4; omega
                    · have f42 : a3.toInt < 4 := by
                        have q : _ := c40
                        simp only [ti_nle, ti_nlt, ti_le, ti_lt, ti_eq, ti_ne, Classical.not_not, kt_4] at q
                        omega
                      refine m_iload C dX12_bells_328 rfl ?_
                      refine m_iload C dX12_bells_330 rfl ?_
                      refine m_idiv C dX12_bells_332 (iv_nz kc_16 (by decide)) ?_
                      refine m_topi (fun x43 ex43 => ?_)
                      refine m_iload_n C dX12_bells_333 rfl rfl ?_
                      refine m_irem C dX12_bells_334 (iv_nz kc_4 (by decide)) ?_
                      refine m_topi (fun x44 ex44 => ?_)
                      refine m_goto (tgt := 340) C dX12_bells_335 (by decide) ?_
                      exact m_iret C hr hlk (by decide) (by decide) dX12_bells_340 ⟨_, rfl, iτ, fτ, (iv_any x44), (Or.inr (Or.inr (Or.inr (Or.inr (⟨by omega, by omega, by omega, nL, by omega⟩)))))⟩
                  · have f45 : 2 ≤ a3.toInt := by
                      have q : _ := c37
                      simp only [ti_nle, ti_nlt, ti_le, ti_lt, ti_eq, ti_ne, Classical.not_not, kt_2] at q
                      omega
                    have b46 : IV a3 2 2147483647 := ⟨by have q1 := kc_2; have q2 := b29; omega, by have q1 := kc_2; have q2 := b29; omega⟩
                    refine m_iload C dX12_bells_305 rfl ?_
                    refine m_iload_n C dX12_bells_307 rfl rfl ?_
                    refine m_icmp_ge (tgt := 323) C dX12_bells_308 (by decide) (fun c47 => ?_) (fun c47 => ?_)
                    · first | exact absurd c47 (by decide) | exact absurd (by decide) c47
                    · have f49 : 2 < 4 := by
                        have q : _ := c47
                        simp only [ti_nle, ti_nlt, ti_le, ti_lt, ti_eq, ti_ne, Classical.not_not, kt_2, kt_4] at q
                        omega
                      refine m_iload C dX12_bells_311 rfl ?_
                      refine m_iload_n C dX12_bells_313 rfl rfl ?_
                      refine m_idiv C dX12_bells_314 (iv_nz kc_4 (by decide)) ?_
                      refine m_topi (fun x50 ex50 => ?_)
                      have b51 : IV x50 4 4 := by rw [ex50]; decide
                      have tx50 : x50.toInt = 4 := by rw [ex50]; decide
                      obtain rfl : x50 = 4 := by rw [ex50]; decide
                      refine m_istore (L1 := [some (.ref (G.1 22 0)), some (.int a1), some (.int 4), some (.int a3), some (.int 256), some (.int y5), some (.int y6), some (.int 4), some (.int 2), none, none, none, none, none]) C dX12_bells_315 (by decide) rfl rfl ?_
                      obtain ⟨x52, ex52⟩ : ∃ y : Int32, y = 2 + 1 := ⟨_, rfl⟩
                      have b53 : IV x52 3 3 := by rw [ex52]; decide
                      have tx52 : x52.toInt = 3 := by rw [ex52]; decide
                      obtain rfl : x52 = 3 := by rw [ex52]; decide
                      refine m_iinc (v := 3) (L1 := [some (.ref (G.1 22 0)), some (.int a1), some (.int 4), some (.int a3), some (.int 256), some (.int y5), some (.int y6), some (.int 4), some (.int 3), none, none, none, none, none]) C dX12_bells_317 rfl (by decide) (by decide) rfl rfl ?_
                      refine m_goto (tgt := 299) C dX12_bells_320 (by decide) ?_
                      refine m_iload C dX12_bells_299 rfl ?_
                      refine m_iload_n C dX12_bells_301 rfl rfl ?_
                      refine m_icmp_gt (tgt := 323) C dX12_bells_302 (by decide) (fun c54 => ?_) (fun c54 => ?_)
                      · have f55 : a3.toInt < 3 := by
                          have q : _ := c54
                          simp only [ti_nle, ti_nlt, ti_le, ti_lt, ti_eq, ti_ne, Classical.not_not, kt_3] at q
                          omega
                        have b56 : IV a3 2 2 := ⟨by have q1 := b46; have q2 := kc_3; omega, by have q1 := b46; have q2 := kc_3; omega⟩
                        refine m_iload_n C dX12_bells_323 rfl rfl ?_
                        refine m_iload_n C dX12_bells_324 rfl rfl ?_
                        refine m_icmp_ge (tgt := 338) C dX12_bells_325 (by decide) (fun c57 => ?_) (fun c57 => ?_)
                        · exfalso
                          have q : _ := c57
                          simp only [ti_nle, ti_nlt, ti_le, ti_lt, ti_eq, ti_ne, Classical.not_not, kt_4] at q
                          have q1 := b56; have q2 := kc_4; omega
                        · have f59 : a3.toInt < 4 := by
                            have q : _ := c57
                            simp only [ti_nle, ti_nlt, ti_le, ti_lt, ti_eq, ti_ne, Classical.not_not, kt_4] at q
                            omega
                          refine m_iload C dX12_bells_328 rfl ?_
                          refine m_iload C dX12_bells_330 rfl ?_
                          refine m_idiv C dX12_bells_332 (iv_nz kc_4 (by decide)) ?_
                          refine m_topi (fun x60 ex60 => ?_)
                          refine m_iload_n C dX12_bells_333 rfl rfl ?_
                          refine m_irem C dX12_bells_334 (iv_nz kc_4 (by decide)) ?_
                          refine m_topi (fun x61 ex61 => ?_)
                          refine m_goto (tgt := 340) C dX12_bells_335 (by decide) ?_
                          exact m_iret C hr hlk (by decide) (by decide) dX12_bells_340 ⟨_, rfl, iτ, fτ, (iv_any x61), (Or.inr (Or.inr (Or.inr (Or.inr (⟨by omega, by omega, by omega, nL, by omega⟩)))))⟩
                      · have f62 : 3 ≤ a3.toInt := by
                          have q : _ := c54
                          simp only [ti_nle, ti_nlt, ti_le, ti_lt, ti_eq, ti_ne, Classical.not_not, kt_3] at q
                          omega
                        have b63 : IV a3 3 2147483647 := ⟨by have q1 := kc_3; have q2 := b46; omega, by have q1 := kc_3; have q2 := b46; omega⟩
                        refine m_iload C dX12_bells_305 rfl ?_
                        refine m_iload_n C dX12_bells_307 rfl rfl ?_
                        refine m_icmp_ge (tgt := 323) C dX12_bells_308 (by decide) (fun c64 => ?_) (fun c64 => ?_)
                        · first | exact absurd c64 (by decide) | exact absurd (by decide) c64
                        · have f66 : 3 < 4 := by
                            have q : _ := c64
                            simp only [ti_nle, ti_nlt, ti_le, ti_lt, ti_eq, ti_ne, Classical.not_not, kt_3, kt_4] at q
                            omega
                          refine m_iload C dX12_bells_311 rfl ?_
                          refine m_iload_n C dX12_bells_313 rfl rfl ?_
                          refine m_idiv C dX12_bells_314 (iv_nz kc_4 (by decide)) ?_
                          refine m_topi (fun x67 ex67 => ?_)
                          have b68 : IV x67 1 1 := by rw [ex67]; decide
                          have tx67 : x67.toInt = 1 := by rw [ex67]; decide
                          obtain rfl : x67 = 1 := by rw [ex67]; decide
                          refine m_istore (L1 := [some (.ref (G.1 22 0)), some (.int a1), some (.int 4), some (.int a3), some (.int 256), some (.int y5), some (.int y6), some (.int 1), some (.int 3), none, none, none, none, none]) C dX12_bells_315 (by decide) rfl rfl ?_
                          obtain ⟨x69, ex69⟩ : ∃ y : Int32, y = 3 + 1 := ⟨_, rfl⟩
                          have b70 : IV x69 4 4 := by rw [ex69]; decide
                          have tx69 : x69.toInt = 4 := by rw [ex69]; decide
                          obtain rfl : x69 = 4 := by rw [ex69]; decide
                          refine m_iinc (v := 4) (L1 := [some (.ref (G.1 22 0)), some (.int a1), some (.int 4), some (.int a3), some (.int 256), some (.int y5), some (.int y6), some (.int 1), some (.int 4), none, none, none, none, none]) C dX12_bells_317 rfl (by decide) (by decide) rfl rfl ?_
                          refine m_goto (tgt := 299) C dX12_bells_320 (by decide) ?_
                          refine m_iload C dX12_bells_299 rfl ?_
                          refine m_iload_n C dX12_bells_301 rfl rfl ?_
                          refine m_icmp_gt (tgt := 323) C dX12_bells_302 (by decide) (fun c71 => ?_) (fun c71 => ?_)
                          · have f72 : a3.toInt < 4 := by
                              have q : _ := c71
                              simp only [ti_nle, ti_nlt, ti_le, ti_lt, ti_eq, ti_ne, Classical.not_not, kt_4] at q
                              omega
                            have b73 : IV a3 3 3 := ⟨by have q1 := b63; have q2 := kc_4; omega, by have q1 := b63; have q2 := kc_4; omega⟩
                            refine m_iload_n C dX12_bells_323 rfl rfl ?_
                            refine m_iload_n C dX12_bells_324 rfl rfl ?_
                            refine m_icmp_ge (tgt := 338) C dX12_bells_325 (by decide) (fun c74 => ?_) (fun c74 => ?_)
                            · exfalso
                              have q : _ := c74
                              simp only [ti_nle, ti_nlt, ti_le, ti_lt, ti_eq, ti_ne, Classical.not_not, kt_4] at q
                              have q1 := b73; have q2 := kc_4; omega
                            · have f76 : a3.toInt < 4 := by
                                have q : _ := c74
                                simp only [ti_nle, ti_nlt, ti_le, ti_lt, ti_eq, ti_ne, Classical.not_not, kt_4] at q
                                omega
                              refine m_iload C dX12_bells_328 rfl ?_
                              refine m_iload C dX12_bells_330 rfl ?_
                              refine m_idiv C dX12_bells_332 (iv_nz kc_1 (by decide)) ?_
                              refine m_topi (fun x77 ex77 => ?_)
                              refine m_iload_n C dX12_bells_333 rfl rfl ?_
                              refine m_irem C dX12_bells_334 (iv_nz kc_4 (by decide)) ?_
                              refine m_topi (fun x78 ex78 => ?_)
                              refine m_goto (tgt := 340) C dX12_bells_335 (by decide) ?_
                              exact m_iret C hr hlk (by decide) (by decide) dX12_bells_340 ⟨_, rfl, iτ, fτ, (iv_any x78), (Or.inr (Or.inr (Or.inr (Or.inr (⟨by omega, by omega, by omega, nL, by omega⟩)))))⟩
                          · have f79 : 4 ≤ a3.toInt := by
                              have q : _ := c71
                              simp only [ti_nle, ti_nlt, ti_le, ti_lt, ti_eq, ti_ne, Classical.not_not, kt_4] at q
                              omega
                            have b80 : IV a3 4 2147483647 := ⟨by have q1 := kc_4; have q2 := b63; omega, by have q1 := kc_4; have q2 := b63; omega⟩
                            refine m_iload C dX12_bells_305 rfl ?_
                            refine m_iload_n C dX12_bells_307 rfl rfl ?_
                            refine m_icmp_ge (tgt := 323) C dX12_bells_308 (by decide) (fun c81 => ?_) (fun c81 => ?_)
                            · have f82 : 4 ≤ 4 := by
                                have q : _ := c81
                                simp only [ti_nle, ti_nlt, ti_le, ti_lt, ti_eq, ti_ne, Classical.not_not, kt_4, kt_4] at q
                                omega
                              refine m_iload_n C dX12_bells_323 rfl rfl ?_
                              refine m_iload_n C dX12_bells_324 rfl rfl ?_
                              refine m_icmp_ge (tgt := 338) C dX12_bells_325 (by decide) (fun c83 => ?_) (fun c83 => ?_)
                              · have f84 : 4 ≤ a3.toInt := by
                                  have q : _ := c83
                                  simp only [ti_nle, ti_nlt, ti_le, ti_lt, ti_eq, ti_ne, Classical.not_not, kt_4] at q
                                  omega
                                refine m_ldc (v := (-1000000)) C dX12_bells_338 q5_70 ?_
                                exact m_iret C hr hlk (by decide) (by decide) dX12_bells_340 ⟨_, rfl, iτ, fτ, (iv_wk kc_m1000000 (by decide)), (Or.inr (Or.inr (Or.inr (Or.inr (⟨by have qk := kt_m1000000; omega, by have qk := kt_m1000000; omega, by have qk := kt_m1000000; omega, nL, by have qk := kt_m1000000; omega⟩)))))⟩
                              · exfalso
                                have q : _ := c83
                                simp only [ti_nle, ti_nlt, ti_le, ti_lt, ti_eq, ti_ne, Classical.not_not, kt_4] at q
                                have q1 := b80; have q2 := kc_4; omega
                            · first | exact absurd c81 (by decide) | exact absurd (by decide) c81
        · have f87 : a3.toInt < 0 := by
            have q : _ := c7
            simp only [ti_nle, ti_nlt, ti_le, ti_lt, ti_eq, ti_ne, Classical.not_not, kt_0] at q
            omega
          have b88 : IV a3 (-1) (-1) := ⟨by have q1 := b_a3; have q2 := kc_0; omega, by have q1 := b_a3; have q2 := kc_0; omega⟩
          refine m_iload C dX12_bells_289 rfl ?_
          exact m_iret C hr hlk (by decide) (by decide) dX12_bells_291 ⟨_, rfl, iτ, fτ, b_y6, (Or.inr (Or.inr (Or.inr (Or.inr (⟨by omega, by omega, by omega, nL, by omega⟩)))))⟩
      · have f89 : y7.toInt < 256 := by
          have q : _ := c4
          simp only [ti_nle, ti_nlt, ti_le, ti_lt, ti_eq, ti_ne, Classical.not_not, kt_256] at q
          omega
        have b90 : IV y7 0 255 := ⟨by have q1 := b_y7; have q2 := kc_256; omega, by have q1 := b_y7; have q2 := kc_256; omega⟩
        refine m_iconst (v := 0) C dX12_bells_145 (by decide) ?_
        refine m_istore (L1 := [some (.ref (G.1 22 0)), some (.int a1), some (.int 4), some (.int a3), some (.int 256), some (.int y5), some (.int y6), some (.int y7), some (.int 0), none, none, none, none, none]) C dX12_bells_146 (by decide) rfl rfl ?_
        refine m_iload C dX12_bells_148 rfl ?_
        refine m_istore (L1 := [some (.ref (G.1 22 0)), some (.int a1), some (.int 4), some (.int a3), some (.int 256), some (.int y5), some (.int y6), some (.int y7), some (.int 0), some (.int 256), none, none, none, none]) C dX12_bells_150 (by decide) rfl rfl ?_
        refine m_iconst (v := 0) C dX12_bells_152 (by decide) ?_
        refine m_istore (L1 := [some (.ref (G.1 22 0)), some (.int a1), some (.int 4), some (.int a3), some (.int 256), some (.int y5), some (.int y6), some (.int y7), some (.int 0), some (.int 256), some (.int 0), none, none, none]) C dX12_bells_153 (by decide) rfl rfl ?_
        refine m_iconst (v := 0) C dX12_bells_155 (by decide) ?_
        refine m_istore (L1 := [some (.ref (G.1 22 0)), some (.int a1), some (.int 4), some (.int a3), some (.int 256), some (.int y5), some (.int y6), some (.int y7), some (.int 0), some (.int 256), some (.int 0), some (.int 0), none, none]) C dX12_bells_156 (by decide) rfl rfl ?_
        refine m_iconst (v := 0) C dX12_bells_158 (by decide) ?_
        refine m_istore (L1 := [some (.ref (G.1 22 0)), some (.int a1), some (.int 4), some (.int a3), some (.int 256), some (.int y5), some (.int y6), some (.int y7), some (.int 0), some (.int 256), some (.int 0), some (.int 0), some (.int 0), none]) C dX12_bells_159 (by decide) rfl rfl ?_
        refine m_iload C dX12_bells_161 rfl ?_
        refine m_iload_n C dX12_bells_163 rfl rfl ?_
        refine m_icmp_ge (tgt := 249) C dX12_bells_164 (by decide) (fun c91 => ?_) (fun c91 => ?_)
        · first | exact absurd c91 (by decide) | exact absurd (by decide) c91
        · have f93 : 0 < 4 := by
            have q : _ := c91
            simp only [ti_nle, ti_nlt, ti_le, ti_lt, ti_eq, ti_ne, Classical.not_not, kt_0, kt_4] at q
            omega
          refine m_iload C dX12_bells_167 rfl ?_
          refine m_iload_n C dX12_bells_169 rfl rfl ?_
          refine m_idiv C dX12_bells_170 (iv_nz kc_4 (by decide)) ?_
          refine m_topi (fun x94 ex94 => ?_)
          have b95 : IV x94 64 64 := by rw [ex94]; decide
          have tx94 : x94.toInt = 64 := by rw [ex94]; decide
          obtain rfl : x94 = 64 := by rw [ex94]; decide
          refine m_istore (L1 := [some (.ref (G.1 22 0)), some (.int a1), some (.int 4), some (.int a3), some (.int 256), some (.int y5), some (.int y6), some (.int y7), some (.int 0), some (.int 64), some (.int 0), some (.int 0), some (.int 0), none]) C dX12_bells_171 (by decide) rfl rfl ?_
          refine m_iload C dX12_bells_173 rfl ?_
          refine m_iload C dX12_bells_175 rfl ?_
          refine m_idiv C dX12_bells_177 (iv_nz kc_64 (by decide)) ?_
          refine m_topi (fun x96 ex96 => ?_)
          have b97 : IV x96 0 3 := by rw [ex96]; exact iv_div b90 kc_64 (by decide)
          refine m_iload_n C dX12_bells_178 rfl rfl ?_
          refine m_irem C dX12_bells_179 (iv_nz kc_4 (by decide)) ?_
          refine m_topi (fun x98 ex98 => ?_)
          have b99 : IV x98 0 3 := by rw [ex98]; exact iv_rem b97 kc_4 (by decide)
          refine m_istore (L1 := [some (.ref (G.1 22 0)), some (.int a1), some (.int 4), some (.int a3), some (.int 256), some (.int y5), some (.int y6), some (.int y7), some (.int 0), some (.int 64), some (.int 0), some (.int 0), some (.int 0), some (.int x98)]) C dX12_bells_180 (by decide) rfl rfl ?_
          refine m_iload C dX12_bells_182 rfl ?_
          refine m_iconst (v := 1) C dX12_bells_184 (by decide) ?_
          refine m_iload C dX12_bells_185 rfl ?_
          refine m_ishl C dX12_bells_187 ?_
          refine m_topi (fun x100 ex100 => ?_)
          have b101 : IV x100 1 8 := by rw [ex100]; exact iv_shl1 b99 (by decide)
          refine m_ior C dX12_bells_188 ?_
          refine m_topi (fun x102 ex102 => ?_)
          have b103 : IV x102 0 15 := by rw [ex102]; exact iv_or 4 kc_0 b101 (by decide)
          refine m_istore (L1 := [some (.ref (G.1 22 0)), some (.int a1), some (.int 4), some (.int a3), some (.int 256), some (.int y5), some (.int y6), some (.int y7), some (.int x102), some (.int 64), some (.int 0), some (.int 0), some (.int 0), some (.int x98)]) C dX12_bells_189 (by decide) rfl rfl ?_
          refine m_iload C dX12_bells_191 rfl ?_
          refine m_iload C dX12_bells_193 rfl ?_
          refine m_iconst (v := 2) C dX12_bells_195 (by decide) ?_
          refine m_irem C dX12_bells_196 (iv_nz kc_2 (by decide)) ?_
          refine m_topi (fun x104 ex104 => ?_)
          have b105 : IV x104 0 0 := by rw [ex104]; decide
          have tx104 : x104.toInt = 0 := by rw [ex104]; decide
          obtain rfl : x104 = 0 := by rw [ex104]; decide
          refine m_if_ne (tgt := 215) C dX12_bells_197 (by decide) (fun c106 => ?_) (fun c106 => ?_)
          · first | exact absurd c106 (by decide) | exact absurd (by decide) c106
          · have f108 : 0 = 0 := by
              have q : _ := c106
              simp only [ti_nle, ti_nlt, ti_le, ti_lt, ti_eq, ti_ne, Classical.not_not, kt_0, kt_0] at q
              omega
            refine m_aload_n C dX12_bells_200 rfl rfl ?_
            refine g_22_2 C q4_118 dX12_bells_201 ?_
            refine m_bipush (v := 40) C dX12_bells_204 (by decide) ?_
            refine m_iload_n C dX12_bells_206 rfl rfl ?_
            refine m_imul C dX12_bells_207 ?_
            refine m_topi (fun x109 ex109 => ?_)
            have tx109 : x109.toInt = 40 * a1.toInt := by rw [ex109, ti_mulv kc_40 b_a1 (by decide), kt_40]
            have b110 : IV x109 0 280 := by rw [ex109]; exact iv_mul kc_40 b_a1 (by decide)
            refine m_iload C dX12_bells_208 rfl ?_
            refine m_iadd C dX12_bells_210 ?_
            refine m_topi (fun x111 ex111 => ?_)
            have tx111 : x111.toInt = x109.toInt + x98.toInt := by rw [ex111, ti_addv b110 b99 (by decide)]
            have b112 : IV x111 0 283 := by rw [ex111]; exact iv_add b110 b99 (by decide)
            refine al_25 C b112 (by decide) rfl dX12_bells_211 ?_
            refine m_topi (fun x113 ex113 => ?_)
            refine m_goto (tgt := 228) C dX12_bells_212 (by decide) ?_
            refine m_iadd C dX12_bells_228 ?_
            refine m_topi (fun x114 ex114 => ?_)
            have tx114 : x114.toInt = 0 + x113.toInt := by rw [ex114, ti_addv kc_0 (iv_any x113) (by decide), kt_0]
            have b115 : IV x114 (-2147483648) 2147483647 := by rw [ex114]; exact iv_add kc_0 (iv_any x113) (by decide)
            refine m_istore (L1 := [some (.ref (G.1 22 0)), some (.int a1), some (.int 4), some (.int a3), some (.int 256), some (.int y5), some (.int y6), some (.int y7), some (.int x102), some (.int 64), some (.int x114), some (.int 0), some (.int 0), some (.int x98)]) C dX12_bells_229 (by decide) rfl rfl ?_
            refine m_iload C dX12_bells_231 rfl ?_
            refine m_iload C dX12_bells_233 rfl ?_
            refine m_callS (n := 1) (st := [.int 0]) C (c_X12_sizeOf l G τ (x114) iτ ) q5_96 q5_94 q5_95 q1_7 (by decide +kernel) rfl (by decide) (by decide) rfl (Nat.le_of_ble_eq_true rfl) dX12_bells_235 ?_
            rintro _ τ116 ⟨x119, rfl, i117, f118, b120⟩
            have g121 : Fr MS_X12_bells_4Q AS_X12_bells_4Q σ τ116 := Fr.call (fτ) f118 (by decide)
            show MW p l e _ s m args below meth c _ 14 G 0 0 238 [some (.ref (G.1 22 0)), some (.int a1), some (.int 4), some (.int a3), some (.int 256), some (.int y5), some (.int y6), some (.int y7), some (.int x102), some (.int 64), some (.int x114), some (.int 0), some (.int 0), some (.int x98)] [.int x119, .int 0] τ116
            refine m_callS (n := 2) (st := []) C (c_X12_greater l G τ116 (0) (x119) i117 ) q5_99 q5_97 q5_98 q1_7 (by decide +kernel) rfl (by decide) (by decide) rfl (Nat.le_of_ble_eq_true rfl) dX12_bells_238 ?_
            rintro _ τ123 ⟨x126, rfl, i124, f125, b127⟩
            have g128 : Fr MS_X12_bells_4Q AS_X12_bells_4Q σ τ123 := Fr.call (g121) f125 (by decide)
            show MW p l e _ s m args below meth c _ 14 G 0 0 241 [some (.ref (G.1 22 0)), some (.int a1), some (.int 4), some (.int a3), some (.int 256), some (.int y5), some (.int y6), some (.int y7), some (.int x102), some (.int 64), some (.int x114), some (.int 0), some (.int 0), some (.int x98)] [.int x126] τ123
            refine m_istore (L1 := [some (.ref (G.1 22 0)), some (.int a1), some (.int 4), some (.int a3), some (.int 256), some (.int y5), some (.int y6), some (.int y7), some (.int x102), some (.int 64), some (.int x114), some (.int x126), some (.int 0), some (.int x98)]) C dX12_bells_241 (by decide) rfl rfl ?_
            obtain ⟨x130, ex130⟩ : ∃ y : Int32, y = 0 + 1 := ⟨_, rfl⟩
            have b131 : IV x130 1 1 := by rw [ex130]; decide
            have tx130 : x130.toInt = 1 := by rw [ex130]; decide
            obtain rfl : x130 = 1 := by rw [ex130]; decide
            refine m_iinc (v := 1) (L1 := [some (.ref (G.1 22 0)), some (.int a1), some (.int 4), some (.int a3), some (.int 256), some (.int y5), some (.int y6), some (.int y7), some (.int x102), some (.int 64), some (.int x114), some (.int x126), some (.int 1), some (.int x98)]) C dX12_bells_243 rfl (by decide) (by decide) rfl rfl ?_
            refine m_goto (tgt := 161) C dX12_bells_246 (by decide) ?_
            refine m_iload C dX12_bells_161 rfl ?_
            refine m_iload_n C dX12_bells_163 rfl rfl ?_
            refine m_icmp_ge (tgt := 249) C dX12_bells_164 (by decide) (fun c132 => ?_) (fun c132 => ?_)
            · first | exact absurd c132 (by decide) | exact absurd (by decide) c132
            · have f134 : 1 < 4 := by
                have q : _ := c132
                simp only [ti_nle, ti_nlt, ti_le, ti_lt, ti_eq, ti_ne, Classical.not_not, kt_1, kt_4] at q
                omega
              refine m_iload C dX12_bells_167 rfl ?_
              refine m_iload_n C dX12_bells_169 rfl rfl ?_
              refine m_idiv C dX12_bells_170 (iv_nz kc_4 (by decide)) ?_
              refine m_topi (fun x135 ex135 => ?_)
              have b136 : IV x135 16 16 := by rw [ex135]; decide
              have tx135 : x135.toInt = 16 := by rw [ex135]; decide
              obtain rfl : x135 = 16 := by rw [ex135]; decide
              refine m_istore (L1 := [some (.ref (G.1 22 0)), some (.int a1), some (.int 4), some (.int a3), some (.int 256), some (.int y5), some (.int y6), some (.int y7), some (.int x102), some (.int 16), some (.int x114), some (.int x126), some (.int 1), some (.int x98)]) C dX12_bells_171 (by decide) rfl rfl ?_
              refine m_iload C dX12_bells_173 rfl ?_
              refine m_iload C dX12_bells_175 rfl ?_
              refine m_idiv C dX12_bells_177 (iv_nz kc_16 (by decide)) ?_
              refine m_topi (fun x137 ex137 => ?_)
              have b138 : IV x137 0 15 := by rw [ex137]; exact iv_div b90 kc_16 (by decide)
              refine m_iload_n C dX12_bells_178 rfl rfl ?_
              refine m_irem C dX12_bells_179 (iv_nz kc_4 (by decide)) ?_
              refine m_topi (fun x139 ex139 => ?_)
              have b140 : IV x139 0 3 := by rw [ex139]; exact iv_rem b138 kc_4 (by decide)
              refine m_istore (L1 := [some (.ref (G.1 22 0)), some (.int a1), some (.int 4), some (.int a3), some (.int 256), some (.int y5), some (.int y6), some (.int y7), some (.int x102), some (.int 16), some (.int x114), some (.int x126), some (.int 1), some (.int x139)]) C dX12_bells_180 (by decide) rfl rfl ?_
              refine m_iload C dX12_bells_182 rfl ?_
              refine m_iconst (v := 1) C dX12_bells_184 (by decide) ?_
              refine m_iload C dX12_bells_185 rfl ?_
              refine m_ishl C dX12_bells_187 ?_
              refine m_topi (fun x141 ex141 => ?_)
              have b142 : IV x141 1 8 := by rw [ex141]; exact iv_shl1 b140 (by decide)
              refine m_ior C dX12_bells_188 ?_
              refine m_topi (fun x143 ex143 => ?_)
              have b144 : IV x143 0 15 := by rw [ex143]; exact iv_or 4 b103 b142 (by decide)
              refine m_istore (L1 := [some (.ref (G.1 22 0)), some (.int a1), some (.int 4), some (.int a3), some (.int 256), some (.int y5), some (.int y6), some (.int y7), some (.int x143), some (.int 16), some (.int x114), some (.int x126), some (.int 1), some (.int x139)]) C dX12_bells_189 (by decide) rfl rfl ?_
              refine m_iload C dX12_bells_191 rfl ?_
              refine m_iload C dX12_bells_193 rfl ?_
              refine m_iconst (v := 2) C dX12_bells_195 (by decide) ?_
              refine m_irem C dX12_bells_196 (iv_nz kc_2 (by decide)) ?_
              refine m_topi (fun x145 ex145 => ?_)
              have b146 : IV x145 1 1 := by rw [ex145]; decide
              have tx145 : x145.toInt = 1 := by rw [ex145]; decide
              obtain rfl : x145 = 1 := by rw [ex145]; decide
              refine m_if_ne (tgt := 215) C dX12_bells_197 (by decide) (fun c147 => ?_) (fun c147 => ?_)
              · have f148 : 1 ≠ 0 := by
                  have q : _ := c147
                  simp only [ti_nle, ti_nlt, ti_le, ti_lt, ti_eq, ti_ne, Classical.not_not, kt_1, kt_0] at q
                  omega
                refine m_aload_n C dX12_bells_215 rfl rfl ?_
                refine g_22_2 C q4_118 dX12_bells_216 ?_
                refine m_bipush (v := 40) C dX12_bells_219 (by decide) ?_
                refine m_iload_n C dX12_bells_221 rfl rfl ?_
                refine m_imul C dX12_bells_222 ?_
                refine m_topi (fun x149 ex149 => ?_)
                have tx149 : x149.toInt = 40 * a1.toInt := by rw [ex149, ti_mulv kc_40 b_a1 (by decide), kt_40]
                have b150 : IV x149 0 280 := by rw [ex149]; exact iv_mul kc_40 b_a1 (by decide)
                refine m_iload C dX12_bells_223 rfl ?_
                refine m_iadd C dX12_bells_225 ?_
                refine m_topi (fun x151 ex151 => ?_)
                have tx151 : x151.toInt = x149.toInt + x139.toInt := by rw [ex151, ti_addv b150 b140 (by decide)]
                have b152 : IV x151 0 283 := by rw [ex151]; exact iv_add b150 b140 (by decide)
                refine al_25 C b152 (by decide) rfl dX12_bells_226 ?_
                refine m_topi (fun x153 ex153 => ?_)
                refine m_ineg C dX12_bells_227 ?_
                refine m_topi (fun x154 ex154 => ?_)
                refine m_iadd C dX12_bells_228 ?_
                refine m_topi (fun x155 ex155 => ?_)
                refine m_istore (L1 := [some (.ref (G.1 22 0)), some (.int a1), some (.int 4), some (.int a3), some (.int 256), some (.int y5), some (.int y6), some (.int y7), some (.int x143), some (.int 16), some (.int x155), some (.int x126), some (.int 1), some (.int x139)]) C dX12_bells_229 (by decide) rfl rfl ?_
                refine m_iload C dX12_bells_231 rfl ?_
                refine m_iload C dX12_bells_233 rfl ?_
                refine m_callS (n := 1) (st := [.int x126]) C (c_X12_sizeOf l G τ123 (x155) i124 ) q5_96 q5_94 q5_95 q1_7 (by decide +kernel) rfl (by decide) (by decide) rfl (Nat.le_of_ble_eq_true rfl) dX12_bells_235 ?_
                rintro _ τ156 ⟨x159, rfl, i157, f158, b160⟩
                have g161 : Fr MS_X12_bells_4Q AS_X12_bells_4Q σ τ156 := Fr.call (g128) f158 (by decide)
                show MW p l e _ s m args below meth c _ 14 G 0 0 238 [some (.ref (G.1 22 0)), some (.int a1), some (.int 4), some (.int a3), some (.int 256), some (.int y5), some (.int y6), some (.int y7), some (.int x143), some (.int 16), some (.int x155), some (.int x126), some (.int 1), some (.int x139)] [.int x159, .int x126] τ156
                refine m_callS (n := 2) (st := []) C (c_X12_greater l G τ156 (x126) (x159) i157 ) q5_99 q5_97 q5_98 q1_7 (by decide +kernel) rfl (by decide) (by decide) rfl (Nat.le_of_ble_eq_true rfl) dX12_bells_238 ?_
                rintro _ τ163 ⟨x166, rfl, i164, f165, b167⟩
                have g168 : Fr MS_X12_bells_4Q AS_X12_bells_4Q σ τ163 := Fr.call (g161) f165 (by decide)
                show MW p l e _ s m args below meth c _ 14 G 0 0 241 [some (.ref (G.1 22 0)), some (.int a1), some (.int 4), some (.int a3), some (.int 256), some (.int y5), some (.int y6), some (.int y7), some (.int x143), some (.int 16), some (.int x155), some (.int x126), some (.int 1), some (.int x139)] [.int x166] τ163
                refine m_istore (L1 := [some (.ref (G.1 22 0)), some (.int a1), some (.int 4), some (.int a3), some (.int 256), some (.int y5), some (.int y6), some (.int y7), some (.int x143), some (.int 16), some (.int x155), some (.int x166), some (.int 1), some (.int x139)]) C dX12_bells_241 (by decide) rfl rfl ?_
                obtain ⟨x170, ex170⟩ : ∃ y : Int32, y = 1 + 1 := ⟨_, rfl⟩
                have b171 : IV x170 2 2 := by rw [ex170]; decide
                have tx170 : x170.toInt = 2 := by rw [ex170]; decide
                obtain rfl : x170 = 2 := by rw [ex170]; decide
                refine m_iinc (v := 2) (L1 := [some (.ref (G.1 22 0)), some (.int a1), some (.int 4), some (.int a3), some (.int 256), some (.int y5), some (.int y6), some (.int y7), some (.int x143), some (.int 16), some (.int x155), some (.int x166), some (.int 2), some (.int x139)]) C dX12_bells_243 rfl (by decide) (by decide) rfl rfl ?_
                refine m_goto (tgt := 161) C dX12_bells_246 (by decide) ?_
                refine m_iload C dX12_bells_161 rfl ?_
                refine m_iload_n C dX12_bells_163 rfl rfl ?_
                refine m_icmp_ge (tgt := 249) C dX12_bells_164 (by decide) (fun c172 => ?_) (fun c172 => ?_)
                · first | exact absurd c172 (by decide) | exact absurd (by decide) c172
                · have f174 : 2 < 4 := by
                    have q : _ := c172
                    simp only [ti_nle, ti_nlt, ti_le, ti_lt, ti_eq, ti_ne, Classical.not_not, kt_2, kt_4] at q
                    omega
                  refine m_iload C dX12_bells_167 rfl ?_
                  refine m_iload_n C dX12_bells_169 rfl rfl ?_
                  refine m_idiv C dX12_bells_170 (iv_nz kc_4 (by decide)) ?_
                  refine m_topi (fun x175 ex175 => ?_)
                  have b176 : IV x175 4 4 := by rw [ex175]; decide
                  have tx175 : x175.toInt = 4 := by rw [ex175]; decide
                  obtain rfl : x175 = 4 := by rw [ex175]; decide
                  refine m_istore (L1 := [some (.ref (G.1 22 0)), some (.int a1), some (.int 4), some (.int a3), some (.int 256), some (.int y5), some (.int y6), some (.int y7), some (.int x143), some (.int 4), some (.int x155), some (.int x166), some (.int 2), some (.int x139)]) C dX12_bells_171 (by decide) rfl rfl ?_
                  refine m_iload C dX12_bells_173 rfl ?_
                  refine m_iload C dX12_bells_175 rfl ?_
                  refine m_idiv C dX12_bells_177 (iv_nz kc_4 (by decide)) ?_
                  refine m_topi (fun x177 ex177 => ?_)
                  have b178 : IV x177 0 63 := by rw [ex177]; exact iv_div b90 kc_4 (by decide)
                  refine m_iload_n C dX12_bells_178 rfl rfl ?_
                  refine m_irem C dX12_bells_179 (iv_nz kc_4 (by decide)) ?_
                  refine m_topi (fun x179 ex179 => ?_)
                  have b180 : IV x179 0 3 := by rw [ex179]; exact iv_rem b178 kc_4 (by decide)
                  refine m_istore (L1 := [some (.ref (G.1 22 0)), some (.int a1), some (.int 4), some (.int a3), some (.int 256), some (.int y5), some (.int y6), some (.int y7), some (.int x143), some (.int 4), some (.int x155), some (.int x166), some (.int 2), some (.int x179)]) C dX12_bells_180 (by decide) rfl rfl ?_
                  refine m_iload C dX12_bells_182 rfl ?_
                  refine m_iconst (v := 1) C dX12_bells_184 (by decide) ?_
                  refine m_iload C dX12_bells_185 rfl ?_
                  refine m_ishl C dX12_bells_187 ?_
                  refine m_topi (fun x181 ex181 => ?_)
                  have b182 : IV x181 1 8 := by rw [ex181]; exact iv_shl1 b180 (by decide)
                  refine m_ior C dX12_bells_188 ?_
                  refine m_topi (fun x183 ex183 => ?_)
                  have b184 : IV x183 0 15 := by rw [ex183]; exact iv_or 4 b144 b182 (by decide)
                  refine m_istore (L1 := [some (.ref (G.1 22 0)), some (.int a1), some (.int 4), some (.int a3), some (.int 256), some (.int y5), some (.int y6), some (.int y7), some (.int x183), some (.int 4), some (.int x155), some (.int x166), some (.int 2), some (.int x179)]) C dX12_bells_189 (by decide) rfl rfl ?_
                  refine m_iload C dX12_bells_191 rfl ?_
                  refine m_iload C dX12_bells_193 rfl ?_
                  refine m_iconst (v := 2) C dX12_bells_195 (by decide) ?_
                  refine m_irem C dX12_bells_196 (iv_nz kc_2 (by decide)) ?_
                  refine m_topi (fun x185 ex185 => ?_)
                  have b186 : IV x185 0 0 := by rw [ex185]; decide
                  have tx185 : x185.toInt = 0 := by rw [ex185]; decide
                  obtain rfl : x185 = 0 := by rw [ex185]; decide
                  refine m_if_ne (tgt := 215) C dX12_bells_197 (by decide) (fun c187 => ?_) (fun c187 => ?_)
                  · first | exact absurd c187 (by decide) | exact absurd (by decide) c187
                  · have f189 : 0 = 0 := by
                      have q : _ := c187
                      simp only [ti_nle, ti_nlt, ti_le, ti_lt, ti_eq, ti_ne, Classical.not_not, kt_0, kt_0] at q
                      omega
                    refine m_aload_n C dX12_bells_200 rfl rfl ?_
                    refine g_22_2 C q4_118 dX12_bells_201 ?_
                    refine m_bipush (v := 40) C dX12_bells_204 (by decide) ?_
                    refine m_iload_n C dX12_bells_206 rfl rfl ?_
                    refine m_imul C dX12_bells_207 ?_
                    refine m_topi (fun x190 ex190 => ?_)
                    have tx190 : x190.toInt = 40 * a1.toInt := by rw [ex190, ti_mulv kc_40 b_a1 (by decide), kt_40]
                    have b191 : IV x190 0 280 := by rw [ex190]; exact iv_mul kc_40 b_a1 (by decide)
                    refine m_iload C dX12_bells_208 rfl ?_
                    refine m_iadd C dX12_bells_210 ?_
                    refine m_topi (fun x192 ex192 => ?_)
                    have tx192 : x192.toInt = x190.toInt + x179.toInt := by rw [ex192, ti_addv b191 b180 (by decide)]
                    have b193 : IV x192 0 283 := by rw [ex192]; exact iv_add b191 b180 (by decide)
                    refine al_25 C b193 (by decide) rfl dX12_bells_211 ?_
                    refine m_topi (fun x194 ex194 => ?_)
                    refine m_goto (tgt := 228) C dX12_bells_212 (by decide) ?_
                    refine m_iadd C dX12_bells_228 ?_
                    refine m_topi (fun x195 ex195 => ?_)
                    refine m_istore (L1 := [some (.ref (G.1 22 0)), some (.int a1), some (.int 4), some (.int a3), some (.int 256), some (.int y5), some (.int y6), some (.int y7), some (.int x183), some (.int 4), some (.int x195), some (.int x166), some (.int 2), some (.int x179)]) C dX12_bells_229 (by decide) rfl rfl ?_
                    refine m_iload C dX12_bells_231 rfl ?_
                    refine m_iload C dX12_bells_233 rfl ?_
                    refine m_callS (n := 1) (st := [.int x166]) C (c_X12_sizeOf l G τ163 (x195) i164 ) q5_96 q5_94 q5_95 q1_7 (by decide +kernel) rfl (by decide) (by decide) rfl (Nat.le_of_ble_eq_true rfl) dX12_bells_235 ?_
                    rintro _ τ196 ⟨x199, rfl, i197, f198, b200⟩
                    have g201 : Fr MS_X12_bells_4Q AS_X12_bells_4Q σ τ196 := Fr.call (g168) f198 (by decide)
                    show MW p l e _ s m args below meth c _ 14 G 0 0 238 [some (.ref (G.1 22 0)), some (.int a1), some (.int 4), some (.int a3), some (.int 256), some (.int y5), some (.int y6), some (.int y7), some (.int x183), some (.int 4), some (.int x195), some (.int x166), some (.int 2), some (.int x179)] [.int x199, .int x166] τ196
                    refine m_callS (n := 2) (st := []) C (c_X12_greater l G τ196 (x166) (x199) i197 ) q5_99 q5_97 q5_98 q1_7 (by decide +kernel) rfl (by decide) (by decide) rfl (Nat.le_of_ble_eq_true rfl) dX12_bells_238 ?_
                    rintro _ τ203 ⟨x206, rfl, i204, f205, b207⟩
                    have g208 : Fr MS_X12_bells_4Q AS_X12_bells_4Q σ τ203 := Fr.call (g201) f205 (by decide)
                    show MW p l e _ s m args below meth c _ 14 G 0 0 241 [some (.ref (G.1 22 0)), some (.int a1), some (.int 4), some (.int a3), some (.int 256), some (.int y5), some (.int y6), some (.int y7), some (.int x183), some (.int 4), some (.int x195), some (.int x166), some (.int 2), some (.int x179)] [.int x206] τ203
                    refine m_istore (L1 := [some (.ref (G.1 22 0)), some (.int a1), some (.int 4), some (.int a3), some (.int 256), some (.int y5), some (.int y6), some (.int y7), some (.int x183), some (.int 4), some (.int x195), some (.int x206), some (.int 2), some (.int x179)]) C dX12_bells_241 (by decide) rfl rfl ?_
                    obtain ⟨x210, ex210⟩ : ∃ y : Int32, y = 2 + 1 := ⟨_, rfl⟩
                    have b211 : IV x210 3 3 := by rw [ex210]; decide
                    have tx210 : x210.toInt = 3 := by rw [ex210]; decide
                    obtain rfl : x210 = 3 := by rw [ex210]; decide
                    refine m_iinc (v := 3) (L1 := [some (.ref (G.1 22 0)), some (.int a1), some (.int 4), some (.int a3), some (.int 256), some (.int y5), some (.int y6), some (.int y7), some (.int x183), some (.int 4), some (.int x195), some (.int x206), some (.int 3), some (.int x179)]) C dX12_bells_243 rfl (by decide) (by decide) rfl rfl ?_
                    refine m_goto (tgt := 161) C dX12_bells_246 (by decide) ?_
                    refine m_iload C dX12_bells_161 rfl ?_
                    refine m_iload_n C dX12_bells_163 rfl rfl ?_
                    refine m_icmp_ge (tgt := 249) C dX12_bells_164 (by decide) (fun c212 => ?_) (fun c212 => ?_)
                    · first | exact absurd c212 (by decide) | exact absurd (by decide) c212
                    · have f214 : 3 < 4 := by
                        have q : _ := c212
                        simp only [ti_nle, ti_nlt, ti_le, ti_lt, ti_eq, ti_ne, Classical.not_not, kt_3, kt_4] at q
                        omega
                      refine m_iload C dX12_bells_167 rfl ?_
                      refine m_iload_n C dX12_bells_169 rfl rfl ?_
                      refine m_idiv C dX12_bells_170 (iv_nz kc_4 (by decide)) ?_
                      refine m_topi (fun x215 ex215 => ?_)
                      have b216 : IV x215 1 1 := by rw [ex215]; decide
                      have tx215 : x215.toInt = 1 := by rw [ex215]; decide
                      obtain rfl : x215 = 1 := by rw [ex215]; decide
                      refine m_istore (L1 := [some (.ref (G.1 22 0)), some (.int a1), some (.int 4), some (.int a3), some (.int 256), some (.int y5), some (.int y6), some (.int y7), some (.int x183), some (.int 1), some (.int x195), some (.int x206), some (.int 3), some (.int x179)]) C dX12_bells_171 (by decide) rfl rfl ?_
                      refine m_iload C dX12_bells_173 rfl ?_
                      refine m_iload C dX12_bells_175 rfl ?_
                      refine m_idiv C dX12_bells_177 (iv_nz kc_1 (by decide)) ?_
                      refine m_topi (fun x217 ex217 => ?_)
                      have b218 : IV x217 0 255 := by rw [ex217]; exact iv_div b90 kc_1 (by decide)
                      refine m_iload_n C dX12_bells_178 rfl rfl ?_
                      refine m_irem C dX12_bells_179 (iv_nz kc_4 (by decide)) ?_
                      refine m_topi (fun x219 ex219 => ?_)
                      have b220 : IV x219 0 3 := by rw [ex219]; exact iv_rem b218 kc_4 (by decide)
                      refine m_istore (L1 := [some (.ref (G.1 22 0)), some (.int a1), some (.int 4), some (.int a3), some (.int 256), some (.int y5), some (.int y6), some (.int y7), some (.int x183), some (.int 1), some (.int x195), some (.int x206), some (.int 3), some (.int x219)]) C dX12_bells_180 (by decide) rfl rfl ?_
                      refine m_iload C dX12_bells_182 rfl ?_
                      refine m_iconst (v := 1) C dX12_bells_184 (by decide) ?_
                      refine m_iload C dX12_bells_185 rfl ?_
                      refine m_ishl C dX12_bells_187 ?_
                      refine m_topi (fun x221 ex221 => ?_)
                      have b222 : IV x221 1 8 := by rw [ex221]; exact iv_shl1 b220 (by decide)
                      refine m_ior C dX12_bells_188 ?_
                      refine m_topi (fun x223 ex223 => ?_)
                      have b224 : IV x223 0 15 := by rw [ex223]; exact iv_or 4 b184 b222 (by decide)
                      refine m_istore (L1 := [some (.ref (G.1 22 0)), some (.int a1), some (.int 4), some (.int a3), some (.int 256), some (.int y5), some (.int y6), some (.int y7), some (.int x223), some (.int 1), some (.int x195), some (.int x206), some (.int 3), some (.int x219)]) C dX12_bells_189 (by decide) rfl rfl ?_
                      refine m_iload C dX12_bells_191 rfl ?_
                      refine m_iload C dX12_bells_193 rfl ?_
                      refine m_iconst (v := 2) C dX12_bells_195 (by decide) ?_
                      refine m_irem C dX12_bells_196 (iv_nz kc_2 (by decide)) ?_
                      refine m_topi (fun x225 ex225 => ?_)
                      have b226 : IV x225 1 1 := by rw [ex225]; decide
                      have tx225 : x225.toInt = 1 := by rw [ex225]; decide
                      obtain rfl : x225 = 1 := by rw [ex225]; decide
                      refine m_if_ne (tgt := 215) C dX12_bells_197 (by decide) (fun c227 => ?_) (fun c227 => ?_)
                      · have f228 : 1 ≠ 0 := by
                          have q : _ := c227
                          simp only [ti_nle, ti_nlt, ti_le, ti_lt, ti_eq, ti_ne, Classical.not_not, kt_1, kt_0] at q
                          omega
                        refine m_aload_n C dX12_bells_215 rfl rfl ?_
                        refine g_22_2 C q4_118 dX12_bells_216 ?_
                        refine m_bipush (v := 40) C dX12_bells_219 (by decide) ?_
                        refine m_iload_n C dX12_bells_221 rfl rfl ?_
                        refine m_imul C dX12_bells_222 ?_
                        refine m_topi (fun x229 ex229 => ?_)
                        have tx229 : x229.toInt = 40 * a1.toInt := by rw [ex229, ti_mulv kc_40 b_a1 (by decide), kt_40]
                        have b230 : IV x229 0 280 := by rw [ex229]; exact iv_mul kc_40 b_a1 (by decide)
                        refine m_iload C dX12_bells_223 rfl ?_
                        refine m_iadd C dX12_bells_225 ?_
                        refine m_topi (fun x231 ex231 => ?_)
                        have tx231 : x231.toInt = x229.toInt + x219.toInt := by rw [ex231, ti_addv b230 b220 (by decide)]
                        have b232 : IV x231 0 283 := by rw [ex231]; exact iv_add b230 b220 (by decide)
                        refine al_25 C b232 (by decide) rfl dX12_bells_226 ?_
                        refine m_topi (fun x233 ex233 => ?_)
                        refine m_ineg C dX12_bells_227 ?_
                        refine m_topi (fun x234 ex234 => ?_)
                        refine m_iadd C dX12_bells_228 ?_
                        refine m_topi (fun x235 ex235 => ?_)
                        refine m_istore (L1 := [some (.ref (G.1 22 0)), some (.int a1), some (.int 4), some (.int a3), some (.int 256), some (.int y5), some (.int y6), some (.int y7), some (.int x223), some (.int 1), some (.int x235), some (.int x206), some (.int 3), some (.int x219)]) C dX12_bells_229 (by decide) rfl rfl ?_
                        refine m_iload C dX12_bells_231 rfl ?_
                        refine m_iload C dX12_bells_233 rfl ?_
                        refine m_callS (n := 1) (st := [.int x206]) C (c_X12_sizeOf l G τ203 (x235) i204 ) q5_96 q5_94 q5_95 q1_7 (by decide +kernel) rfl (by decide) (by decide) rfl (Nat.le_of_ble_eq_true rfl) dX12_bells_235 ?_
                        rintro _ τ236 ⟨x239, rfl, i237, f238, b240⟩
                        have g241 : Fr MS_X12_bells_4Q AS_X12_bells_4Q σ τ236 := Fr.call (g208) f238 (by decide)
                        show MW p l e _ s m args below meth c _ 14 G 0 0 238 [some (.ref (G.1 22 0)), some (.int a1), some (.int 4), some (.int a3), some (.int 256), some (.int y5), some (.int y6), some (.int y7), some (.int x223), some (.int 1), some (.int x235), some (.int x206), some (.int 3), some (.int x219)] [.int x239, .int x206] τ236
                        refine m_callS (n := 2) (st := []) C (c_X12_greater l G τ236 (x206) (x239) i237 ) q5_99 q5_97 q5_98 q1_7 (by decide +kernel) rfl (by decide) (by decide) rfl (Nat.le_of_ble_eq_true rfl) dX12_bells_238 ?_
                        rintro _ τ243 ⟨x246, rfl, i244, f245, b247⟩
                        have g248 : Fr MS_X12_bells_4Q AS_X12_bells_4Q σ τ243 := Fr.call (g241) f245 (by decide)
                        show MW p l e _ s m args below meth c _ 14 G 0 0 241 [some (.ref (G.1 22 0)), some (.int a1), some (.int 4), some (.int a3), some (.int 256), some (.int y5), some (.int y6), some (.int y7), some (.int x223), some (.int 1), some (.int x235), some (.int x206), some (.int 3), some (.int x219)] [.int x246] τ243
                        refine m_istore (L1 := [some (.ref (G.1 22 0)), some (.int a1), some (.int 4), some (.int a3), some (.int 256), some (.int y5), some (.int y6), some (.int y7), some (.int x223), some (.int 1), some (.int x235), some (.int x246), some (.int 3), some (.int x219)]) C dX12_bells_241 (by decide) rfl rfl ?_
                        obtain ⟨x250, ex250⟩ : ∃ y : Int32, y = 3 + 1 := ⟨_, rfl⟩
                        have b251 : IV x250 4 4 := by rw [ex250]; decide
                        have tx250 : x250.toInt = 4 := by rw [ex250]; decide
                        obtain rfl : x250 = 4 := by rw [ex250]; decide
                        refine m_iinc (v := 4) (L1 := [some (.ref (G.1 22 0)), some (.int a1), some (.int 4), some (.int a3), some (.int 256), some (.int y5), some (.int y6), some (.int y7), some (.int x223), some (.int 1), some (.int x235), some (.int x246), some (.int 4), some (.int x219)]) C dX12_bells_243 rfl (by decide) (by decide) rfl rfl ?_
                        refine m_goto (tgt := 161) C dX12_bells_246 (by decide) ?_
                        refine m_iload C dX12_bells_161 rfl ?_
                        refine m_iload_n C dX12_bells_163 rfl rfl ?_
                        refine m_icmp_ge (tgt := 249) C dX12_bells_164 (by decide) (fun c252 => ?_) (fun c252 => ?_)
                        · have f253 : 4 ≤ 4 := by
                            have q : _ := c252
                            simp only [ti_nle, ti_nlt, ti_le, ti_lt, ti_eq, ti_ne, Classical.not_not, kt_4, kt_4] at q
                            omega
                          refine m_iload C dX12_bells_249 rfl ?_
                          refine m_iconst (v := 1) C dX12_bells_251 (by decide) ?_
                          refine m_iload_n C dX12_bells_252 rfl rfl ?_
                          refine m_ishl C dX12_bells_253 ?_
                          refine m_topi (fun x254 ex254 => ?_)
                          have b255 : IV x254 16 16 := by rw [ex254]; decide
                          have tx254 : x254.toInt = 16 := by rw [ex254]; decide
                          obtain rfl : x254 = 16 := by rw [ex254]; decide
                          refine m_iconst (v := 1) C dX12_bells_254 (by decide) ?_
                          refine m_isub C dX12_bells_255 ?_
                          refine m_topi (fun x256 ex256 => ?_)
                          have b257 : IV x256 15 15 := by rw [ex256]; decide
                          have tx256 : x256.toInt = 15 := by rw [ex256]; decide
                          obtain rfl : x256 = 15 := by rw [ex256]; decide
                          refine m_icmp_ne (tgt := 279) C dX12_bells_256 (by decide) (fun c258 => ?_) (fun c258 => ?_)
                          · have f259 : x223.toInt ≠ 15 := by
                              have q : _ := c258
                              simp only [ti_nle, ti_nlt, ti_le, ti_lt, ti_eq, ti_ne, Classical.not_not, kt_15] at q
                              omega
                            have b260 : IV x223 0 14 := ⟨by have q1 := b224; have q2 := kc_15; omega, by have q1 := b224; have q2 := kc_15; omega⟩
                            obtain ⟨x261, ex261⟩ : ∃ y : Int32, y = y7 + 1 := ⟨_, rfl⟩
                            have tx261 : x261.toInt = y7.toInt + 1 := by rw [ex261, ti_addv b90 kc_1 (by decide), kt_1]
                            have b262 : IV x261 1 256 := by rw [ex261]; exact iv_add b90 kc_1 (by decide)
                            refine m_iinc (v := x261) (L1 := [some (.ref (G.1 22 0)), some (.int a1), some (.int 4), some (.int a3), some (.int 256), some (.int y5), some (.int y6), some (.int x261), some (.int x223), some (.int 1), some (.int x235), some (.int x246), some (.int 4), some (.int x219)]) C dX12_bells_279 rfl (by rw [ex261]; rfl) (by decide) rfl rfl ?_
                            refine m_goto (tgt := 138) C dX12_bells_282 (by decide) ?_
                            refine m_sub (L1 := [some (.ref (G.1 22 0)), some (.int a1), some (.int 4), some (.int a3), some (.int 256), some (.int y5), some (.int y6), some (.int x261), none, none, none, none, none, none]) ⟨rfl, ⟨rfl, ⟨rfl, ⟨rfl, ⟨rfl, ⟨rfl, ⟨rfl, ⟨rfl, trivial⟩⟩⟩⟩⟩⟩⟩⟩ ?_
                            have q263 : (gV τ243 22 0 8).toInt = (gV τ 22 0 8).toInt := congrArg Int32.toInt (show (gV τ243 22 0 8) = (gV τ 22 0 8) from (show gV τ243 22 0 8 = (gV τ 22 0 8) from (f245.1 22 0 (8) (by decide) (by decide)).trans (show gV τ236 22 0 8 = (gV τ 22 0 8) from (f238.1 22 0 (8) (by decide) (by decide)).trans (show gV τ203 22 0 8 = (gV τ 22 0 8) from (f205.1 22 0 (8) (by decide) (by decide)).trans (show gV τ196 22 0 8 = (gV τ 22 0 8) from (f198.1 22 0 (8) (by decide) (by decide)).trans (show gV τ163 22 0 8 = (gV τ 22 0 8) from (f165.1 22 0 (8) (by decide) (by decide)).trans (show gV τ156 22 0 8 = (gV τ 22 0 8) from (f158.1 22 0 (8) (by decide) (by decide)).trans (show gV τ123 22 0 8 = (gV τ 22 0 8) from (f125.1 22 0 (8) (by decide) (by decide)).trans (show gV τ116 22 0 8 = (gV τ 22 0 8) from (f118.1 22 0 (8) (by decide) (by decide)).trans rfl)))))))))
                            have q264 : (gV τ243 26 0 (a1.toInt.toNat)).toInt = (gV τ 26 0 (a1.toInt.toNat)).toInt := congrArg Int32.toInt (show (gV τ243 26 0 (a1.toInt.toNat)) = (gV τ 26 0 (a1.toInt.toNat)) from (show gV τ243 26 0 (a1.toInt.toNat) = (gV τ 26 0 (a1.toInt.toNat)) from (f245.1 26 0 ((a1.toInt.toNat)) (by simp) (by decide)).trans (show gV τ236 26 0 (a1.toInt.toNat) = (gV τ 26 0 (a1.toInt.toNat)) from (f238.1 26 0 ((a1.toInt.toNat)) (by simp) (by decide)).trans (show gV τ203 26 0 (a1.toInt.toNat) = (gV τ 26 0 (a1.toInt.toNat)) from (f205.1 26 0 ((a1.toInt.toNat)) (by simp) (by decide)).trans (show gV τ196 26 0 (a1.toInt.toNat) = (gV τ 26 0 (a1.toInt.toNat)) from (f198.1 26 0 ((a1.toInt.toNat)) (by simp) (by decide)).trans (show gV τ163 26 0 (a1.toInt.toNat) = (gV τ 26 0 (a1.toInt.toNat)) from (f165.1 26 0 ((a1.toInt.toNat)) (by simp) (by decide)).trans (show gV τ156 26 0 (a1.toInt.toNat) = (gV τ 26 0 (a1.toInt.toNat)) from (f158.1 26 0 ((a1.toInt.toNat)) (by simp) (by decide)).trans (show gV τ123 26 0 (a1.toInt.toNat) = (gV τ 26 0 (a1.toInt.toNat)) from (f125.1 26 0 ((a1.toInt.toNat)) (by simp) (by decide)).trans (show gV τ116 26 0 (a1.toInt.toNat) = (gV τ 26 0 (a1.toInt.toNat)) from (f118.1 26 0 ((a1.toInt.toNat)) (by simp) (by decide)).trans rfl)))))))))
                            have q265 : (gV τ243 27 0 (a1.toInt.toNat)).toInt = (gV τ 27 0 (a1.toInt.toNat)).toInt := congrArg Int32.toInt (show (gV τ243 27 0 (a1.toInt.toNat)) = (gV τ 27 0 (a1.toInt.toNat)) from (show gV τ243 27 0 (a1.toInt.toNat) = (gV τ 27 0 (a1.toInt.toNat)) from (f245.1 27 0 ((a1.toInt.toNat)) (by simp) (by decide)).trans (show gV τ236 27 0 (a1.toInt.toNat) = (gV τ 27 0 (a1.toInt.toNat)) from (f238.1 27 0 ((a1.toInt.toNat)) (by simp) (by decide)).trans (show gV τ203 27 0 (a1.toInt.toNat) = (gV τ 27 0 (a1.toInt.toNat)) from (f205.1 27 0 ((a1.toInt.toNat)) (by simp) (by decide)).trans (show gV τ196 27 0 (a1.toInt.toNat) = (gV τ 27 0 (a1.toInt.toNat)) from (f198.1 27 0 ((a1.toInt.toNat)) (by simp) (by decide)).trans (show gV τ163 27 0 (a1.toInt.toNat) = (gV τ 27 0 (a1.toInt.toNat)) from (f165.1 27 0 ((a1.toInt.toNat)) (by simp) (by decide)).trans (show gV τ156 27 0 (a1.toInt.toNat) = (gV τ 27 0 (a1.toInt.toNat)) from (f158.1 27 0 ((a1.toInt.toNat)) (by simp) (by decide)).trans (show gV τ123 27 0 (a1.toInt.toNat) = (gV τ 27 0 (a1.toInt.toNat)) from (f125.1 27 0 ((a1.toInt.toNat)) (by simp) (by decide)).trans (show gV τ116 27 0 (a1.toInt.toNat) = (gV τ 27 0 (a1.toInt.toNat)) from (f118.1 27 0 ((a1.toInt.toNat)) (by simp) (by decide)).trans rfl)))))))))
                            exact ih138 τ243 y5 y6 x261 i244 g248 b_a1 b_a3 b_y5 b_y6 (iv_wk b262 (by decide)) (by omega) (by omega) nL (by have q := hm138; omega)
                          · have f266 : x223.toInt = 15 := by
                              have q : _ := c258
                              simp only [ti_nle, ti_nlt, ti_le, ti_lt, ti_eq, ti_ne, Classical.not_not, kt_15] at q
                              omega
                            have b267 : IV x223 15 15 := ⟨by have q1 := b224; have q2 := kc_15; omega, by have q1 := b224; have q2 := kc_15; omega⟩
                            refine m_iload C dX12_bells_259 rfl ?_
                            refine m_if_lt (tgt := 271) C dX12_bells_261 (by decide) (fun c268 => ?_) (fun c268 => ?_)
                            · have f269 : y5.toInt < 0 := by
                                have q : _ := c268
                                simp only [ti_nle, ti_nlt, ti_le, ti_lt, ti_eq, ti_ne, Classical.not_not, kt_0] at q
                                omega
                              have b270 : IV y5 (-1) (-1) := ⟨by have q1 := b_y5; have q2 := kc_0; omega, by have q1 := b_y5; have q2 := kc_0; omega⟩
                              refine m_iload C dX12_bells_271 rfl ?_
                              refine m_istore (L1 := [some (.ref (G.1 22 0)), some (.int a1), some (.int 4), some (.int a3), some (.int 256), some (.int y7), some (.int y6), some (.int y7), some (.int x223), some (.int 1), some (.int x235), some (.int x246), some (.int 4), some (.int x219)]) C dX12_bells_273 (by decide) rfl rfl ?_
                              refine m_iload C dX12_bells_275 rfl ?_
                              refine m_istore (L1 := [some (.ref (G.1 22 0)), some (.int a1), some (.int 4), some (.int a3), some (.int 256), some (.int y7), some (.int x246), some (.int y7), some (.int x223), some (.int 1), some (.int x235), some (.int x246), some (.int 4), some (.int x219)]) C dX12_bells_277 (by decide) rfl rfl ?_
                              obtain ⟨x271, ex271⟩ : ∃ y : Int32, y = y7 + 1 := ⟨_, rfl⟩
                              have tx271 : x271.toInt = y7.toInt + 1 := by rw [ex271, ti_addv b90 kc_1 (by decide), kt_1]
                              have b272 : IV x271 1 256 := by rw [ex271]; exact iv_add b90 kc_1 (by decide)
                              refine m_iinc (v := x271) (L1 := [some (.ref (G.1 22 0)), some (.int a1), some (.int 4), some (.int a3), some (.int 256), some (.int y7), some (.int x246), some (.int x271), some (.int x223), some (.int 1), some (.int x235), some (.int x246), some (.int 4), some (.int x219)]) C dX12_bells_279 rfl (by rw [ex271]; rfl) (by decide) rfl rfl ?_
                              refine m_goto (tgt := 138) C dX12_bells_282 (by decide) ?_
                              refine m_sub (L1 := [some (.ref (G.1 22 0)), some (.int a1), some (.int 4), some (.int a3), some (.int 256), some (.int y7), some (.int x246), some (.int x271), none, none, none, none, none, none]) ⟨rfl, ⟨rfl, ⟨rfl, ⟨rfl, ⟨rfl, ⟨rfl, ⟨rfl, ⟨rfl, trivial⟩⟩⟩⟩⟩⟩⟩⟩ ?_
                              have q273 : (gV τ243 22 0 8).toInt = (gV τ 22 0 8).toInt := congrArg Int32.toInt (show (gV τ243 22 0 8) = (gV τ 22 0 8) from (show gV τ243 22 0 8 = (gV τ 22 0 8) from (f245.1 22 0 (8) (by decide) (by decide)).trans (show gV τ236 22 0 8 = (gV τ 22 0 8) from (f238.1 22 0 (8) (by decide) (by decide)).trans (show gV τ203 22 0 8 = (gV τ 22 0 8) from (f205.1 22 0 (8) (by decide) (by decide)).trans (show gV τ196 22 0 8 = (gV τ 22 0 8) from (f198.1 22 0 (8) (by decide) (by decide)).trans (show gV τ163 22 0 8 = (gV τ 22 0 8) from (f165.1 22 0 (8) (by decide) (by decide)).trans (show gV τ156 22 0 8 = (gV τ 22 0 8) from (f158.1 22 0 (8) (by decide) (by decide)).trans (show gV τ123 22 0 8 = (gV τ 22 0 8) from (f125.1 22 0 (8) (by decide) (by decide)).trans (show gV τ116 22 0 8 = (gV τ 22 0 8) from (f118.1 22 0 (8) (by decide) (by decide)).trans rfl)))))))))
                              have q274 : (gV τ243 26 0 (a1.toInt.toNat)).toInt = (gV τ 26 0 (a1.toInt.toNat)).toInt := congrArg Int32.toInt (show (gV τ243 26 0 (a1.toInt.toNat)) = (gV τ 26 0 (a1.toInt.toNat)) from (show gV τ243 26 0 (a1.toInt.toNat) = (gV τ 26 0 (a1.toInt.toNat)) from (f245.1 26 0 ((a1.toInt.toNat)) (by simp) (by decide)).trans (show gV τ236 26 0 (a1.toInt.toNat) = (gV τ 26 0 (a1.toInt.toNat)) from (f238.1 26 0 ((a1.toInt.toNat)) (by simp) (by decide)).trans (show gV τ203 26 0 (a1.toInt.toNat) = (gV τ 26 0 (a1.toInt.toNat)) from (f205.1 26 0 ((a1.toInt.toNat)) (by simp) (by decide)).trans (show gV τ196 26 0 (a1.toInt.toNat) = (gV τ 26 0 (a1.toInt.toNat)) from (f198.1 26 0 ((a1.toInt.toNat)) (by simp) (by decide)).trans (show gV τ163 26 0 (a1.toInt.toNat) = (gV τ 26 0 (a1.toInt.toNat)) from (f165.1 26 0 ((a1.toInt.toNat)) (by simp) (by decide)).trans (show gV τ156 26 0 (a1.toInt.toNat) = (gV τ 26 0 (a1.toInt.toNat)) from (f158.1 26 0 ((a1.toInt.toNat)) (by simp) (by decide)).trans (show gV τ123 26 0 (a1.toInt.toNat) = (gV τ 26 0 (a1.toInt.toNat)) from (f125.1 26 0 ((a1.toInt.toNat)) (by simp) (by decide)).trans (show gV τ116 26 0 (a1.toInt.toNat) = (gV τ 26 0 (a1.toInt.toNat)) from (f118.1 26 0 ((a1.toInt.toNat)) (by simp) (by decide)).trans rfl)))))))))
                              have q275 : (gV τ243 27 0 (a1.toInt.toNat)).toInt = (gV τ 27 0 (a1.toInt.toNat)).toInt := congrArg Int32.toInt (show (gV τ243 27 0 (a1.toInt.toNat)) = (gV τ 27 0 (a1.toInt.toNat)) from (show gV τ243 27 0 (a1.toInt.toNat) = (gV τ 27 0 (a1.toInt.toNat)) from (f245.1 27 0 ((a1.toInt.toNat)) (by simp) (by decide)).trans (show gV τ236 27 0 (a1.toInt.toNat) = (gV τ 27 0 (a1.toInt.toNat)) from (f238.1 27 0 ((a1.toInt.toNat)) (by simp) (by decide)).trans (show gV τ203 27 0 (a1.toInt.toNat) = (gV τ 27 0 (a1.toInt.toNat)) from (f205.1 27 0 ((a1.toInt.toNat)) (by simp) (by decide)).trans (show gV τ196 27 0 (a1.toInt.toNat) = (gV τ 27 0 (a1.toInt.toNat)) from (f198.1 27 0 ((a1.toInt.toNat)) (by simp) (by decide)).trans (show gV τ163 27 0 (a1.toInt.toNat) = (gV τ 27 0 (a1.toInt.toNat)) from (f165.1 27 0 ((a1.toInt.toNat)) (by simp) (by decide)).trans (show gV τ156 27 0 (a1.toInt.toNat) = (gV τ 27 0 (a1.toInt.toNat)) from (f158.1 27 0 ((a1.toInt.toNat)) (by simp) (by decide)).trans (show gV τ123 27 0 (a1.toInt.toNat) = (gV τ 27 0 (a1.toInt.toNat)) from (f125.1 27 0 ((a1.toInt.toNat)) (by simp) (by decide)).trans (show gV τ116 27 0 (a1.toInt.toNat) = (gV τ 27 0 (a1.toInt.toNat)) from (f118.1 27 0 ((a1.toInt.toNat)) (by simp) (by decide)).trans rfl)))))))))
                              exact ih138 τ243 y7 x246 x271 i244 g248 b_a1 b_a3 (iv_wk b90 (by decide)) b247 (iv_wk b272 (by decide)) (by omega) (by omega) nL (by have q := hm138; omega)
                            · have f276 : 0 ≤ y5.toInt := by
                                have q : _ := c268
                                simp only [ti_nle, ti_nlt, ti_le, ti_lt, ti_eq, ti_ne, Classical.not_not, kt_0] at q
                                omega
                              have b277 : IV y5 0 256 := ⟨by have q1 := kc_0; have q2 := b_y5; omega, by have q1 := kc_0; have q2 := b_y5; omega⟩
                              refine m_iload C dX12_bells_264 rfl ?_
                              refine m_iload C dX12_bells_266 rfl ?_
                              refine m_icmp_ge (tgt := 279) C dX12_bells_268 (by decide) (fun c278 => ?_) (fun c278 => ?_)
                              · have f279 : y6.toInt ≤ x246.toInt := by
                                  have q : _ := c278
                                  simp only [ti_nle, ti_nlt, ti_le, ti_lt, ti_eq, ti_ne, Classical.not_not] at q
                                  omega
                                obtain ⟨x280, ex280⟩ : ∃ y : Int32, y = y7 + 1 := ⟨_, rfl⟩
                                have tx280 : x280.toInt = y7.toInt + 1 := by rw [ex280, ti_addv b90 kc_1 (by decide), kt_1]
                                have b281 : IV x280 1 256 := by rw [ex280]; exact iv_add b90 kc_1 (by decide)
                                refine m_iinc (v := x280) (L1 := [some (.ref (G.1 22 0)), some (.int a1), some (.int 4), some (.int a3), some (.int 256), some (.int y5), some (.int y6), some (.int x280), some (.int x223), some (.int 1), some (.int x235), some (.int x246), some (.int 4), some (.int x219)]) C dX12_bells_279 rfl (by rw [ex280]; rfl) (by decide) rfl rfl ?_
                                refine m_goto (tgt := 138) C dX12_bells_282 (by decide) ?_
                                refine m_sub (L1 := [some (.ref (G.1 22 0)), some (.int a1), some (.int 4), some (.int a3), some (.int 256), some (.int y5), some (.int y6), some (.int x280), none, none, none, none, none, none]) ⟨rfl, ⟨rfl, ⟨rfl, ⟨rfl, ⟨rfl, ⟨rfl, ⟨rfl, ⟨rfl, trivial⟩⟩⟩⟩⟩⟩⟩⟩ ?_
                                have q282 : (gV τ243 22 0 8).toInt = (gV τ 22 0 8).toInt := congrArg Int32.toInt (show (gV τ243 22 0 8) = (gV τ 22 0 8) from (show gV τ243 22 0 8 = (gV τ 22 0 8) from (f245.1 22 0 (8) (by decide) (by decide)).trans (show gV τ236 22 0 8 = (gV τ 22 0 8) from (f238.1 22 0 (8) (by decide) (by decide)).trans (show gV τ203 22 0 8 = (gV τ 22 0 8) from (f205.1 22 0 (8) (by decide) (by decide)).trans (show gV τ196 22 0 8 = (gV τ 22 0 8) from (f198.1 22 0 (8) (by decide) (by decide)).trans (show gV τ163 22 0 8 = (gV τ 22 0 8) from (f165.1 22 0 (8) (by decide) (by decide)).trans (show gV τ156 22 0 8 = (gV τ 22 0 8) from (f158.1 22 0 (8) (by decide) (by decide)).trans (show gV τ123 22 0 8 = (gV τ 22 0 8) from (f125.1 22 0 (8) (by decide) (by decide)).trans (show gV τ116 22 0 8 = (gV τ 22 0 8) from (f118.1 22 0 (8) (by decide) (by decide)).trans rfl)))))))))
                                have q283 : (gV τ243 26 0 (a1.toInt.toNat)).toInt = (gV τ 26 0 (a1.toInt.toNat)).toInt := congrArg Int32.toInt (show (gV τ243 26 0 (a1.toInt.toNat)) = (gV τ 26 0 (a1.toInt.toNat)) from (show gV τ243 26 0 (a1.toInt.toNat) = (gV τ 26 0 (a1.toInt.toNat)) from (f245.1 26 0 ((a1.toInt.toNat)) (by simp) (by decide)).trans (show gV τ236 26 0 (a1.toInt.toNat) = (gV τ 26 0 (a1.toInt.toNat)) from (f238.1 26 0 ((a1.toInt.toNat)) (by simp) (by decide)).trans (show gV τ203 26 0 (a1.toInt.toNat) = (gV τ 26 0 (a1.toInt.toNat)) from (f205.1 26 0 ((a1.toInt.toNat)) (by simp) (by decide)).trans (show gV τ196 26 0 (a1.toInt.toNat) = (gV τ 26 0 (a1.toInt.toNat)) from (f198.1 26 0 ((a1.toInt.toNat)) (by simp) (by decide)).trans (show gV τ163 26 0 (a1.toInt.toNat) = (gV τ 26 0 (a1.toInt.toNat)) from (f165.1 26 0 ((a1.toInt.toNat)) (by simp) (by decide)).trans (show gV τ156 26 0 (a1.toInt.toNat) = (gV τ 26 0 (a1.toInt.toNat)) from (f158.1 26 0 ((a1.toInt.toNat)) (by simp) (by decide)).trans (show gV τ123 26 0 (a1.toInt.toNat) = (gV τ 26 0 (a1.toInt.toNat)) from (f125.1 26 0 ((a1.toInt.toNat)) (by simp) (by decide)).trans (show gV τ116 26 0 (a1.toInt.toNat) = (gV τ 26 0 (a1.toInt.toNat)) from (f118.1 26 0 ((a1.toInt.toNat)) (by simp) (by decide)).trans rfl)))))))))
                                have q284 : (gV τ243 27 0 (a1.toInt.toNat)).toInt = (gV τ 27 0 (a1.toInt.toNat)).toInt := congrArg Int32.toInt (show (gV τ243 27 0 (a1.toInt.toNat)) = (gV τ 27 0 (a1.toInt.toNat)) from (show gV τ243 27 0 (a1.toInt.toNat) = (gV τ 27 0 (a1.toInt.toNat)) from (f245.1 27 0 ((a1.toInt.toNat)) (by simp) (by decide)).trans (show gV τ236 27 0 (a1.toInt.toNat) = (gV τ 27 0 (a1.toInt.toNat)) from (f238.1 27 0 ((a1.toInt.toNat)) (by simp) (by decide)).trans (show gV τ203 27 0 (a1.toInt.toNat) = (gV τ 27 0 (a1.toInt.toNat)) from (f205.1 27 0 ((a1.toInt.toNat)) (by simp) (by decide)).trans (show gV τ196 27 0 (a1.toInt.toNat) = (gV τ 27 0 (a1.toInt.toNat)) from (f198.1 27 0 ((a1.toInt.toNat)) (by simp) (by decide)).trans (show gV τ163 27 0 (a1.toInt.toNat) = (gV τ 27 0 (a1.toInt.toNat)) from (f165.1 27 0 ((a1.toInt.toNat)) (by simp) (by decide)).trans (show gV τ156 27 0 (a1.toInt.toNat) = (gV τ 27 0 (a1.toInt.toNat)) from (f158.1 27 0 ((a1.toInt.toNat)) (by simp) (by decide)).trans (show gV τ123 27 0 (a1.toInt.toNat) = (gV τ 27 0 (a1.toInt.toNat)) from (f125.1 27 0 ((a1.toInt.toNat)) (by simp) (by decide)).trans (show gV τ116 27 0 (a1.toInt.toNat) = (gV τ 27 0 (a1.toInt.toNat)) from (f118.1 27 0 ((a1.toInt.toNat)) (by simp) (by decide)).trans rfl)))))))))
                                exact ih138 τ243 y5 y6 x280 i244 g248 b_a1 b_a3 (iv_wk b277 (by decide)) b_y6 (iv_wk b281 (by decide)) (by omega) (by omega) nL (by have q := hm138; omega)
                              · have f285 : x246.toInt < y6.toInt := by
                                  have q : _ := c278
                                  simp only [ti_nle, ti_nlt, ti_le, ti_lt, ti_eq, ti_ne, Classical.not_not] at q
                                  omega
                                have b286 : IV x246 (-2147483648) 2147483646 := ⟨by have q1 := b247; have q2 := b_y6; omega, by have q1 := b247; have q2 := b_y6; omega⟩
                                have b287 : IV y6 (-2147483647) 2147483647 := ⟨by have q1 := b247; have q2 := b_y6; omega, by have q1 := b247; have q2 := b_y6; omega⟩
                                refine m_iload C dX12_bells_271 rfl ?_
                                refine m_istore (L1 := [some (.ref (G.1 22 0)), some (.int a1), some (.int 4), some (.int a3), some (.int 256), some (.int y7), some (.int y6), some (.int y7), some (.int x223), some (.int 1), some (.int x235), some (.int x246), some (.int 4), some (.int x219)]) C dX12_bells_273 (by decide) rfl rfl ?_
                                refine m_iload C dX12_bells_275 rfl ?_
                                refine m_istore (L1 := [some (.ref (G.1 22 0)), some (.int a1), some (.int 4), some (.int a3), some (.int 256), some (.int y7), some (.int x246), some (.int y7), some (.int x223), some (.int 1), some (.int x235), some (.int x246), some (.int 4), some (.int x219)]) C dX12_bells_277 (by decide) rfl rfl ?_
                                obtain ⟨x288, ex288⟩ : ∃ y : Int32, y = y7 + 1 := ⟨_, rfl⟩
                                have tx288 : x288.toInt = y7.toInt + 1 := by rw [ex288, ti_addv b90 kc_1 (by decide), kt_1]
                                have b289 : IV x288 1 256 := by rw [ex288]; exact iv_add b90 kc_1 (by decide)
                                refine m_iinc (v := x288) (L1 := [some (.ref (G.1 22 0)), some (.int a1), some (.int 4), some (.int a3), some (.int 256), some (.int y7), some (.int x246), some (.int x288), some (.int x223), some (.int 1), some (.int x235), some (.int x246), some (.int 4), some (.int x219)]) C dX12_bells_279 rfl (by rw [ex288]; rfl) (by decide) rfl rfl ?_
                                refine m_goto (tgt := 138) C dX12_bells_282 (by decide) ?_
                                refine m_sub (L1 := [some (.ref (G.1 22 0)), some (.int a1), some (.int 4), some (.int a3), some (.int 256), some (.int y7), some (.int x246), some (.int x288), none, none, none, none, none, none]) ⟨rfl, ⟨rfl, ⟨rfl, ⟨rfl, ⟨rfl, ⟨rfl, ⟨rfl, ⟨rfl, trivial⟩⟩⟩⟩⟩⟩⟩⟩ ?_
                                have q290 : (gV τ243 22 0 8).toInt = (gV τ 22 0 8).toInt := congrArg Int32.toInt (show (gV τ243 22 0 8) = (gV τ 22 0 8) from (show gV τ243 22 0 8 = (gV τ 22 0 8) from (f245.1 22 0 (8) (by decide) (by decide)).trans (show gV τ236 22 0 8 = (gV τ 22 0 8) from (f238.1 22 0 (8) (by decide) (by decide)).trans (show gV τ203 22 0 8 = (gV τ 22 0 8) from (f205.1 22 0 (8) (by decide) (by decide)).trans (show gV τ196 22 0 8 = (gV τ 22 0 8) from (f198.1 22 0 (8) (by decide) (by decide)).trans (show gV τ163 22 0 8 = (gV τ 22 0 8) from (f165.1 22 0 (8) (by decide) (by decide)).trans (show gV τ156 22 0 8 = (gV τ 22 0 8) from (f158.1 22 0 (8) (by decide) (by decide)).trans (show gV τ123 22 0 8 = (gV τ 22 0 8) from (f125.1 22 0 (8) (by decide) (by decide)).trans (show gV τ116 22 0 8 = (gV τ 22 0 8) from (f118.1 22 0 (8) (by decide) (by decide)).trans rfl)))))))))
                                have q291 : (gV τ243 26 0 (a1.toInt.toNat)).toInt = (gV τ 26 0 (a1.toInt.toNat)).toInt := congrArg Int32.toInt (show (gV τ243 26 0 (a1.toInt.toNat)) = (gV τ 26 0 (a1.toInt.toNat)) from (show gV τ243 26 0 (a1.toInt.toNat) = (gV τ 26 0 (a1.toInt.toNat)) from (f245.1 26 0 ((a1.toInt.toNat)) (by simp) (by decide)).trans (show gV τ236 26 0 (a1.toInt.toNat) = (gV τ 26 0 (a1.toInt.toNat)) from (f238.1 26 0 ((a1.toInt.toNat)) (by simp) (by decide)).trans (show gV τ203 26 0 (a1.toInt.toNat) = (gV τ 26 0 (a1.toInt.toNat)) from (f205.1 26 0 ((a1.toInt.toNat)) (by simp) (by decide)).trans (show gV τ196 26 0 (a1.toInt.toNat) = (gV τ 26 0 (a1.toInt.toNat)) from (f198.1 26 0 ((a1.toInt.toNat)) (by simp) (by decide)).trans (show gV τ163 26 0 (a1.toInt.toNat) = (gV τ 26 0 (a1.toInt.toNat)) from (f165.1 26 0 ((a1.toInt.toNat)) (by simp) (by decide)).trans (show gV τ156 26 0 (a1.toInt.toNat) = (gV τ 26 0 (a1.toInt.toNat)) from (f158.1 26 0 ((a1.toInt.toNat)) (by simp) (by decide)).trans (show gV τ123 26 0 (a1.toInt.toNat) = (gV τ 26 0 (a1.toInt.toNat)) from (f125.1 26 0 ((a1.toInt.toNat)) (by simp) (by decide)).trans (show gV τ116 26 0 (a1.toInt.toNat) = (gV τ 26 0 (a1.toInt.toNat)) from (f118.1 26 0 ((a1.toInt.toNat)) (by simp) (by decide)).trans rfl)))))))))
                                have q292 : (gV τ243 27 0 (a1.toInt.toNat)).toInt = (gV τ 27 0 (a1.toInt.toNat)).toInt := congrArg Int32.toInt (show (gV τ243 27 0 (a1.toInt.toNat)) = (gV τ 27 0 (a1.toInt.toNat)) from (show gV τ243 27 0 (a1.toInt.toNat) = (gV τ 27 0 (a1.toInt.toNat)) from (f245.1 27 0 ((a1.toInt.toNat)) (by simp) (by decide)).trans (show gV τ236 27 0 (a1.toInt.toNat) = (gV τ 27 0 (a1.toInt.toNat)) from (f238.1 27 0 ((a1.toInt.toNat)) (by simp) (by decide)).trans (show gV τ203 27 0 (a1.toInt.toNat) = (gV τ 27 0 (a1.toInt.toNat)) from (f205.1 27 0 ((a1.toInt.toNat)) (by simp) (by decide)).trans (show gV τ196 27 0 (a1.toInt.toNat) = (gV τ 27 0 (a1.toInt.toNat)) from (f198.1 27 0 ((a1.toInt.toNat)) (by simp) (by decide)).trans (show gV τ163 27 0 (a1.toInt.toNat) = (gV τ 27 0 (a1.toInt.toNat)) from (f165.1 27 0 ((a1.toInt.toNat)) (by simp) (by decide)).trans (show gV τ156 27 0 (a1.toInt.toNat) = (gV τ 27 0 (a1.toInt.toNat)) from (f158.1 27 0 ((a1.toInt.toNat)) (by simp) (by decide)).trans (show gV τ123 27 0 (a1.toInt.toNat) = (gV τ 27 0 (a1.toInt.toNat)) from (f125.1 27 0 ((a1.toInt.toNat)) (by simp) (by decide)).trans (show gV τ116 27 0 (a1.toInt.toNat) = (gV τ 27 0 (a1.toInt.toNat)) from (f118.1 27 0 ((a1.toInt.toNat)) (by simp) (by decide)).trans rfl)))))))))
                                exact ih138 τ243 y7 x246 x288 i244 g248 b_a1 b_a3 (iv_wk b90 (by decide)) (iv_wk b286 (by decide)) (iv_wk b289 (by decide)) (by omega) (by omega) nL (by have q := hm138; omega)
                        · first | exact absurd c252 (by decide) | exact absurd (by decide) c252
                      · first | exact absurd c227 (by decide) | exact absurd (by decide) c227
              · first | exact absurd c147 (by decide) | exact absurd (by decide) c147
  have J61 : ∀ (n : Nat) (τ : Sg) (y4 : Int32), Inv τ → Fr MS_X12_bells_4Q AS_X12_bells_4Q σ τ → IV a1 0 7 → IV a3 (-1) 2147483647 → IV y4 0 4 → (((0 ≤ a1.toInt ∧ a1.toInt ≤ 7) ∧ 1 ≤ 4 ∧ 4 ≤ 5 ∧ -1 ≤ a3.toInt ∧ 0 ≤ (gV σ 26 0 (a1.toInt.toNat)).toInt ∧ 4 ≤ (gV σ 27 0 (a1.toInt.toNat)).toInt)) → ((gV τ 22 0 8).toInt = (gV σ 22 0 8).toInt) → (AlJ σ (a1.toInt.toNat) y4.toInt 1 20) → (4 - y4.toInt).toNat < n → MW p l e { frames := 2, cells := 0, slots := 0, locals := 60 } s m args below meth c (MQ below (QP G (PI fun r τ => Inv τ ∧ Fr MS_X12_bells_4Q AS_X12_bells_4Q σ τ ∧ IV r (-2147483648) 2147483647 ∧ BLM σ τ a1 a3 4)) args s 0 0 (aG G)) 14 G 0 0 61 [some (.ref (G.1 22 0)), some (.int a1), some (.int 4), some (.int a3), some (.int y4), none, none, none, none, none, none, none, none, none] [] τ := by
    intro n
    induction n with
    | zero => intro τ y4 iτ fτ b_a1 b_a3 b_y4 n296 n297 nL hm; exact absurd hm (Nat.not_lt_zero _)
    | succ n ih61 =>
      intro τ y4 iτ fτ b_a1 b_a3 b_y4 n296 n297 nL hm61
      have u298 : IV (gV τ 27 0 (a1.toInt.toNat)) 0 40 := iτ.1 27 0 (a1.toInt.toNat)
      refine m_iload C dX12_bells_61 rfl ?_
      refine m_iload_n C dX12_bells_63 rfl rfl ?_
      refine m_icmp_ge (tgt := 99) C dX12_bells_64 (by decide) (fun c299 => ?_) (fun c299 => ?_)
      · have f300 : 4 ≤ y4.toInt := by
          have q : _ := c299
          simp only [ti_nle, ti_nlt, ti_le, ti_lt, ti_eq, ti_ne, Classical.not_not, kt_4] at q
          omega
        have b301 : IV y4 4 4 := ⟨by have q1 := kc_4; have q2 := b_y4; omega, by have q1 := kc_4; have q2 := b_y4; omega⟩
        refine m_aload_n C dX12_bells_99 rfl rfl ?_
        refine m_iconst (v := 0) C dX12_bells_100 (by decide) ?_
        have q302 := kt_0
        refine m_callV (n := 1) (ci := 11) (st := []) C (c_X12_fineQ l G τ (0) iτ ) (by decide) (by decide) rfl rfl rfl q4_201 q4_198 q4_200 q0_27 q1_7 (by decide +kernel) rfl (by decide) (by decide) rfl (Nat.le_of_ble_eq_true rfl) dX12_bells_101 ?_
        rintro _ τ303 ⟨x306, rfl, i304, f305, b307, h309⟩
        have g308 : Fr MS_X12_bells_4Q AS_X12_bells_4Q σ τ303 := Fr.call (fτ) f305 (by decide)
        have q310 : (gV τ303 26 0 (a1.toInt.toNat)).toInt = (gV τ 26 0 (a1.toInt.toNat)).toInt := congrArg Int32.toInt (show (gV τ303 26 0 (a1.toInt.toNat)) = (gV τ 26 0 (a1.toInt.toNat)) from (show gV τ303 26 0 (a1.toInt.toNat) = (gV τ 26 0 (a1.toInt.toNat)) from (f305.1 26 0 ((a1.toInt.toNat)) (by simp) (by decide)).trans rfl))
        have q311 : (gV τ303 27 0 (a1.toInt.toNat)).toInt = (gV τ 27 0 (a1.toInt.toNat)).toInt := congrArg Int32.toInt (show (gV τ303 27 0 (a1.toInt.toNat)) = (gV τ 27 0 (a1.toInt.toNat)) from (show gV τ303 27 0 (a1.toInt.toNat) = (gV τ 27 0 (a1.toInt.toNat)) from (f305.1 27 0 ((a1.toInt.toNat)) (by simp) (by decide)).trans rfl))
        have q312 := kt_0
        show MW p l e _ s m args below meth c _ 14 G 0 0 104 [some (.ref (G.1 22 0)), some (.int a1), some (.int 4), some (.int a3), some (.int y4), none, none, none, none, none, none, none, none, none] [.int x306] τ303
        refine m_pop C dX12_bells_104 rfl ?_
        refine m_iconst (v := 1) C dX12_bells_105 (by decide) ?_
        refine m_istore (L1 := [some (.ref (G.1 22 0)), some (.int a1), some (.int 4), some (.int a3), some (.int 1), none, none, none, none, none, none, none, none, none]) C dX12_bells_106 (by decide) rfl rfl ?_
        refine m_iconst (v := 0) C dX12_bells_108 (by decide) ?_
        refine m_istore (L1 := [some (.ref (G.1 22 0)), some (.int a1), some (.int 4), some (.int a3), some (.int 1), some (.int 0), none, none, none, none, none, none, none, none]) C dX12_bells_109 (by decide) rfl rfl ?_
        refine m_iload C dX12_bells_111 rfl ?_
        refine m_iload_n C dX12_bells_113 rfl rfl ?_
        refine m_icmp_ge (tgt := 129) C dX12_bells_114 (by decide) (fun c313 => ?_) (fun c313 => ?_)
        · first | exact absurd c313 (by decide) | exact absurd (by decide) c313
        · have f315 : 0 < 4 := by
            have q : _ := c313
            simp only [ti_nle, ti_nlt, ti_le, ti_lt, ti_eq, ti_ne, Classical.not_not, kt_0, kt_4] at q
            omega
          refine m_iload C dX12_bells_117 rfl ?_
          refine m_iload_n C dX12_bells_119 rfl rfl ?_
          refine m_imul C dX12_bells_120 ?_
          refine m_topi (fun x316 ex316 => ?_)
          have b317 : IV x316 4 4 := by rw [ex316]; decide
          have tx316 : x316.toInt = 4 := by rw [ex316]; decide
          obtain rfl : x316 = 4 := by rw [ex316]; decide
          refine m_istore (L1 := [some (.ref (G.1 22 0)), some (.int a1), some (.int 4), some (.int a3), some (.int 4), some (.int 0), none, none, none, none, none, none, none, none]) C dX12_bells_121 (by decide) rfl rfl ?_
          obtain ⟨x318, ex318⟩ : ∃ y : Int32, y = 0 + 1 := ⟨_, rfl⟩
          have b319 : IV x318 1 1 := by rw [ex318]; decide
          have tx318 : x318.toInt = 1 := by rw [ex318]; decide
          obtain rfl : x318 = 1 := by rw [ex318]; decide
          refine m_iinc (v := 1) (L1 := [some (.ref (G.1 22 0)), some (.int a1), some (.int 4), some (.int a3), some (.int 4), some (.int 1), none, none, none, none, none, none, none, none]) C dX12_bells_123 rfl (by decide) (by decide) rfl rfl ?_
          refine m_goto (tgt := 111) C dX12_bells_126 (by decide) ?_
          refine m_iload C dX12_bells_111 rfl ?_
          refine m_iload_n C dX12_bells_113 rfl rfl ?_
          refine m_icmp_ge (tgt := 129) C dX12_bells_114 (by decide) (fun c320 => ?_) (fun c320 => ?_)
          · first | exact absurd c320 (by decide) | exact absurd (by decide) c320
          · have f322 : 1 < 4 := by
              have q : _ := c320
              simp only [ti_nle, ti_nlt, ti_le, ti_lt, ti_eq, ti_ne, Classical.not_not, kt_1, kt_4] at q
              omega
            refine m_iload C dX12_bells_117 rfl ?_
            refine m_iload_n C dX12_bells_119 rfl rfl ?_
            refine m_imul C dX12_bells_120 ?_
            refine m_topi (fun x323 ex323 => ?_)
            have b324 : IV x323 16 16 := by rw [ex323]; decide
            have tx323 : x323.toInt = 16 := by rw [ex323]; decide
            obtain rfl : x323 = 16 := by rw [ex323]; decide
            refine m_istore (L1 := [some (.ref (G.1 22 0)), some (.int a1), some (.int 4), some (.int a3), some (.int 16), some (.int 1), none, none, none, none, none, none, none, none]) C dX12_bells_121 (by decide) rfl rfl ?_
            obtain ⟨x325, ex325⟩ : ∃ y : Int32, y = 1 + 1 := ⟨_, rfl⟩
            have b326 : IV x325 2 2 := by rw [ex325]; decide
            have tx325 : x325.toInt = 2 := by rw [ex325]; decide
            obtain rfl : x325 = 2 := by rw [ex325]; decide
            refine m_iinc (v := 2) (L1 := [some (.ref (G.1 22 0)), some (.int a1), some (.int 4), some (.int a3), some (.int 16), some (.int 2), none, none, none, none, none, none, none, none]) C dX12_bells_123 rfl (by decide) (by decide) rfl rfl ?_
            refine m_goto (tgt := 111) C dX12_bells_126 (by decide) ?_
            refine m_iload C dX12_bells_111 rfl ?_
            refine m_iload_n C dX12_bells_113 rfl rfl ?_
            refine m_icmp_ge (tgt := 129) C dX12_bells_114 (by decide) (fun c327 => ?_) (fun c327 => ?_)
            · first | exact absurd c327 (by decide) | exact absurd (by decide) c327
            · have f329 : 2 < 4 := by
                have q : _ := c327
                simp only [ti_nle, ti_nlt, ti_le, ti_lt, ti_eq, ti_ne, Classical.not_not, kt_2, kt_4] at q
                omega
              refine m_iload C dX12_bells_117 rfl ?_
              refine m_iload_n C dX12_bells_119 rfl rfl ?_
              refine m_imul C dX12_bells_120 ?_
              refine m_topi (fun x330 ex330 => ?_)
              have b331 : IV x330 64 64 := by rw [ex330]; decide
              have tx330 : x330.toInt = 64 := by rw [ex330]; decide
              obtain rfl : x330 = 64 := by rw [ex330]; decide
              refine m_istore (L1 := [some (.ref (G.1 22 0)), some (.int a1), some (.int 4), some (.int a3), some (.int 64), some (.int 2), none, none, none, none, none, none, none, none]) C dX12_bells_121 (by decide) rfl rfl ?_
              obtain ⟨x332, ex332⟩ : ∃ y : Int32, y = 2 + 1 := ⟨_, rfl⟩
              have b333 : IV x332 3 3 := by rw [ex332]; decide
              have tx332 : x332.toInt = 3 := by rw [ex332]; decide
              obtain rfl : x332 = 3 := by rw [ex332]; decide
              refine m_iinc (v := 3) (L1 := [some (.ref (G.1 22 0)), some (.int a1), some (.int 4), some (.int a3), some (.int 64), some (.int 3), none, none, none, none, none, none, none, none]) C dX12_bells_123 rfl (by decide) (by decide) rfl rfl ?_
              refine m_goto (tgt := 111) C dX12_bells_126 (by decide) ?_
              refine m_iload C dX12_bells_111 rfl ?_
              refine m_iload_n C dX12_bells_113 rfl rfl ?_
              refine m_icmp_ge (tgt := 129) C dX12_bells_114 (by decide) (fun c334 => ?_) (fun c334 => ?_)
              · first | exact absurd c334 (by decide) | exact absurd (by decide) c334
              · have f336 : 3 < 4 := by
                  have q : _ := c334
                  simp only [ti_nle, ti_nlt, ti_le, ti_lt, ti_eq, ti_ne, Classical.not_not, kt_3, kt_4] at q
                  omega
                refine m_iload C dX12_bells_117 rfl ?_
                refine m_iload_n C dX12_bells_119 rfl rfl ?_
                refine m_imul C dX12_bells_120 ?_
                refine m_topi (fun x337 ex337 => ?_)
                have b338 : IV x337 256 256 := by rw [ex337]; decide
                have tx337 : x337.toInt = 256 := by rw [ex337]; decide
                obtain rfl : x337 = 256 := by rw [ex337]; decide
                refine m_istore (L1 := [some (.ref (G.1 22 0)), some (.int a1), some (.int 4), some (.int a3), some (.int 256), some (.int 3), none, none, none, none, none, none, none, none]) C dX12_bells_121 (by decide) rfl rfl ?_
                obtain ⟨x339, ex339⟩ : ∃ y : Int32, y = 3 + 1 := ⟨_, rfl⟩
                have b340 : IV x339 4 4 := by rw [ex339]; decide
                have tx339 : x339.toInt = 4 := by rw [ex339]; decide
                obtain rfl : x339 = 4 := by rw [ex339]; decide
                refine m_iinc (v := 4) (L1 := [some (.ref (G.1 22 0)), some (.int a1), some (.int 4), some (.int a3), some (.int 256), some (.int 4), none, none, none, none, none, none, none, none]) C dX12_bells_123 rfl (by decide) (by decide) rfl rfl ?_
                refine m_goto (tgt := 111) C dX12_bells_126 (by decide) ?_
                refine m_iload C dX12_bells_111 rfl ?_
                refine m_iload_n C dX12_bells_113 rfl rfl ?_
                refine m_icmp_ge (tgt := 129) C dX12_bells_114 (by decide) (fun c341 => ?_) (fun c341 => ?_)
                · have f342 : 4 ≤ 4 := by
                    have q : _ := c341
                    simp only [ti_nle, ti_nlt, ti_le, ti_lt, ti_eq, ti_ne, Classical.not_not, kt_4, kt_4] at q
                    omega
                  refine m_iconst (v := (-1)) C dX12_bells_129 (by decide) ?_
                  refine m_istore (L1 := [some (.ref (G.1 22 0)), some (.int a1), some (.int 4), some (.int a3), some (.int 256), some (.int (-1)), none, none, none, none, none, none, none, none]) C dX12_bells_130 (by decide) rfl rfl ?_
                  refine m_iconst (v := 0) C dX12_bells_132 (by decide) ?_
                  refine m_istore (L1 := [some (.ref (G.1 22 0)), some (.int a1), some (.int 4), some (.int a3), some (.int 256), some (.int (-1)), some (.int 0), none, none, none, none, none, none, none]) C dX12_bells_133 (by decide) rfl rfl ?_
                  refine m_iconst (v := 0) C dX12_bells_135 (by decide) ?_
                  refine m_istore (L1 := [some (.ref (G.1 22 0)), some (.int a1), some (.int 4), some (.int a3), some (.int 256), some (.int (-1)), some (.int 0), some (.int 0), none, none, none, none, none, none]) C dX12_bells_136 (by decide) rfl rfl ?_
                  exact J138 ((256 - (0 : Int32).toInt).toNat + 1) τ303 (-1) 0 0 i304 g308 b_a1 b_a3 (iv_wk kc_m1 (by decide)) (iv_wk kc_0 (by decide)) (iv_wk kc_0 (by decide)) (by omega) (by omega) (nL.all (by omega)) (Nat.lt_succ_self _)
                · first | exact absurd c341 (by decide) | exact absurd (by decide) c341
      · have f344 : y4.toInt < 4 := by
          have q : _ := c299
          simp only [ti_nle, ti_nlt, ti_le, ti_lt, ti_eq, ti_ne, Classical.not_not, kt_4] at q
          omega
        have b345 : IV y4 0 3 := ⟨by have q1 := b_y4; have q2 := kc_4; omega, by have q1 := b_y4; have q2 := kc_4; omega⟩
        refine m_aload_n C dX12_bells_67 rfl rfl ?_
        refine g_22_2 C q4_118 dX12_bells_68 ?_
        refine m_bipush (v := 40) C dX12_bells_71 (by decide) ?_
        refine m_iload_n C dX12_bells_73 rfl rfl ?_
        refine m_imul C dX12_bells_74 ?_
        refine m_topi (fun x346 ex346 => ?_)
        have tx346 : x346.toInt = 40 * a1.toInt := by rw [ex346, ti_mulv kc_40 b_a1 (by decide), kt_40]
        have b347 : IV x346 0 280 := by rw [ex346]; exact iv_mul kc_40 b_a1 (by decide)
        refine m_iload C dX12_bells_75 rfl ?_
        refine m_iadd C dX12_bells_77 ?_
        refine m_topi (fun x348 ex348 => ?_)
        have tx348 : x348.toInt = x346.toInt + y4.toInt := by rw [ex348, ti_addv b347 b345 (by decide)]
        have b349 : IV x348 0 283 := by rw [ex348]; exact iv_add b347 b345 (by decide)
        refine al_25 C b349 (by decide) rfl dX12_bells_78 ?_
        refine m_topi (fun x350 ex350 => ?_)
        have q351 : (gV σ 25 0 (40 * (a1.toInt.toNat) + y4.toInt.toNat)).toInt = x350.toInt := by rw [show 40 * (a1.toInt.toNat) + y4.toInt.toNat = (x348.toInt.toNat) by omega, ← (fτ).1 25 0 (x348.toInt.toNat) (by simp) (by decide), show gV τ 25 0 (x348.toInt.toNat) = x350 from ex350.symm]
        refine m_i2l C dX12_bells_79 ?_
        refine m_lconst (v := 1) C dX12_bells_80 (by decide) ?_
        refine m_ldc2 (v := 20) C dX12_bells_81 q5_174 ?_
        refine m_callS (n := 3) (st := []) C (c_X12_in l G τ ((x350 : Int32).toInt64) (1) (20) iτ ) q4_190 q4_188 q4_189 q1_7 (by decide +kernel) rfl (by decide) (by decide) rfl (Nat.le_of_ble_eq_true rfl) dX12_bells_84 ?_
        rintro _ τ352 ⟨x355, rfl, i353, f354, b356, h358⟩
        have g357 : Fr MS_X12_bells_4Q AS_X12_bells_4Q σ τ352 := Fr.call (fτ) f354 (by decide)
        have q359 : (gV τ352 22 0 8).toInt = (gV τ 22 0 8).toInt := congrArg Int32.toInt (show (gV τ352 22 0 8) = (gV τ 22 0 8) from (show gV τ352 22 0 8 = (gV τ 22 0 8) from (f354.1 22 0 (8) (by decide) (by decide)).trans rfl))
        have q360 : (gV τ352 26 0 (a1.toInt.toNat)).toInt = (gV τ 26 0 (a1.toInt.toNat)).toInt := congrArg Int32.toInt (show (gV τ352 26 0 (a1.toInt.toNat)) = (gV τ 26 0 (a1.toInt.toNat)) from (show gV τ352 26 0 (a1.toInt.toNat) = (gV τ 26 0 (a1.toInt.toNat)) from (f354.1 26 0 ((a1.toInt.toNat)) (by simp) (by decide)).trans rfl))
        have q361 : (gV τ352 27 0 (a1.toInt.toNat)).toInt = (gV τ 27 0 (a1.toInt.toNat)).toInt := congrArg Int32.toInt (show (gV τ352 27 0 (a1.toInt.toNat)) = (gV τ 27 0 (a1.toInt.toNat)) from (show gV τ352 27 0 (a1.toInt.toNat) = (gV τ 27 0 (a1.toInt.toNat)) from (f354.1 27 0 ((a1.toInt.toNat)) (by simp) (by decide)).trans rfl))
        have f362 := tl_i x350
        have f363 := kl_1
        have f364 := kl_20
        rcases h358 with ⟨h358_0, h358_1, h358_2⟩ | ⟨h358_0, h358_1⟩
        · skip
          have b365 : IV x355 1 1 := ⟨by omega, by omega⟩
          show MW p l e _ s m args below meth c _ 14 G 0 0 87 [some (.ref (G.1 22 0)), some (.int a1), some (.int 4), some (.int a3), some (.int y4), none, none, none, none, none, none, none, none, none] [.int x355] τ352
          refine m_if_ne (tgt := 93) C dX12_bells_87 (by decide) (fun c366 => ?_) (fun c366 => ?_)
          · have f367 : x355.toInt ≠ 0 := by
              have q : _ := c366
              simp only [ti_nle, ti_nlt, ti_le, ti_lt, ti_eq, ti_ne, Classical.not_not, kt_0] at q
              omega
            have b368 : IV x350 1 20 := ⟨by have q1 := (iv_any x350); omega, by have q1 := (iv_any x350); omega⟩
            obtain ⟨x369, ex369⟩ : ∃ y : Int32, y = y4 + 1 := ⟨_, rfl⟩
            have tx369 : x369.toInt = y4.toInt + 1 := by rw [ex369, ti_addv b345 kc_1 (by decide), kt_1]
            have b370 : IV x369 1 4 := by rw [ex369]; exact iv_add b345 kc_1 (by decide)
            refine m_iinc (v := x369) (L1 := [some (.ref (G.1 22 0)), some (.int a1), some (.int 4), some (.int a3), some (.int x369), none, none, none, none, none, none, none, none, none]) C dX12_bells_93 rfl (by rw [ex369]; rfl) (by decide) rfl rfl ?_
            refine m_goto (tgt := 61) C dX12_bells_96 (by decide) ?_
            exact ih61 τ352 x369 i353 g357 b_a1 b_a3 (iv_wk b370 (by decide)) (by omega) (by omega) (nL.more (k := y4.toInt.toNat) (by omega) (by omega) ⟨by omega, by omega⟩) (by have q := hm61; omega)
          · exfalso
            have q : _ := c366
            simp only [ti_nle, ti_nlt, ti_le, ti_lt, ti_eq, ti_ne, Classical.not_not, kt_0] at q
            have q1 := b365; have q2 := kc_0; omega
        · skip
          have b372 : IV x355 0 0 := ⟨by omega, by omega⟩
          show MW p l e _ s m args below meth c _ 14 G 0 0 87 [some (.ref (G.1 22 0)), some (.int a1), some (.int 4), some (.int a3), some (.int y4), none, none, none, none, none, none, none, none, none] [.int x355] τ352
          refine m_if_ne (tgt := 93) C dX12_bells_87 (by decide) (fun c373 => ?_) (fun c373 => ?_)
          · exfalso
            have q : _ := c373
            simp only [ti_nle, ti_nlt, ti_le, ti_lt, ti_eq, ti_ne, Classical.not_not, kt_0] at q
            have q1 := b372; have q2 := kc_0; omega
          · have f375 : x355.toInt = 0 := by
              have q : _ := c373
              simp only [ti_nle, ti_nlt, ti_le, ti_lt, ti_eq, ti_ne, Classical.not_not, kt_0] at q
              omega
            refine m_ldc (v := (-1000001)) C dX12_bells_90 q4_192 ?_
            exact m_iret C hr hlk (by decide) (by decide) dX12_bells_92 ⟨_, rfl, i353, g357, (iv_wk kc_m1000001 (by decide)), (Or.inr (Or.inr (Or.inr (Or.inl ⟨by have qk := kt_m1000001; omega, by have qk := kt_m1000001; omega, by have qk := kt_m1000001; omega, (fun g => by have q := g y4.toInt.toNat (by omega); omega), by have qk := kt_m1000001; omega⟩))))⟩
  have u376 : IV (gV σ 27 0 (a1.toInt.toNat)) 0 40 := hI.1 27 0 (a1.toInt.toNat)
  refine m_iload_n C dX12_bells_0 rfl rfl ?_
  refine m_callS (n := 1) (st := []) C (c_X12_isRow l G σ (a1) hI ) q4_186 q4_184 q4_185 q1_7 (by decide +kernel) rfl (by decide) (by decide) rfl (Nat.le_of_ble_eq_true rfl) dX12_bells_1 ?_
  rintro _ τ377 ⟨x380, rfl, i378, f379, b381, h383⟩
  have g382 : Fr MS_X12_bells_4Q AS_X12_bells_4Q σ τ377 := Fr.call (Fr.rf) f379 (by decide)
  have q384 : (gV τ377 22 0 8).toInt = (gV σ 22 0 8).toInt := congrArg Int32.toInt (show (gV τ377 22 0 8) = (gV σ 22 0 8) from (show gV τ377 22 0 8 = (gV σ 22 0 8) from (f379.1 22 0 (8) (by decide) (by decide)).trans rfl))
  have q385 : (gV τ377 26 0 (a1.toInt.toNat)).toInt = (gV σ 26 0 (a1.toInt.toNat)).toInt := congrArg Int32.toInt (show (gV τ377 26 0 (a1.toInt.toNat)) = (gV σ 26 0 (a1.toInt.toNat)) from (show gV τ377 26 0 (a1.toInt.toNat) = (gV σ 26 0 (a1.toInt.toNat)) from (f379.1 26 0 ((a1.toInt.toNat)) (by simp) (by decide)).trans rfl))
  have q386 : (gV τ377 27 0 (a1.toInt.toNat)).toInt = (gV σ 27 0 (a1.toInt.toNat)).toInt := congrArg Int32.toInt (show (gV τ377 27 0 (a1.toInt.toNat)) = (gV σ 27 0 (a1.toInt.toNat)) from (show gV τ377 27 0 (a1.toInt.toNat) = (gV σ 27 0 (a1.toInt.toNat)) from (f379.1 27 0 ((a1.toInt.toNat)) (by simp) (by decide)).trans rfl))
  rcases h383 with ⟨h383_0, h383_1, h383_2⟩ | ⟨h383_0, h383_1⟩
  · skip
    have b387 : IV x380 1 1 := ⟨by omega, by omega⟩
    show MW p l e _ s m args below meth c _ 14 G 0 0 4 [some (.ref (G.1 22 0)), some (.int a1), some (.int 4), some (.int a3), none, none, none, none, none, none, none, none, none, none] [.int x380] τ377
    refine m_if_eq (tgt := 24) C dX12_bells_4 (by decide) (fun c388 => ?_) (fun c388 => ?_)
    · exfalso
      have q : _ := c388
      simp only [ti_nle, ti_nlt, ti_le, ti_lt, ti_eq, ti_ne, Classical.not_not, kt_0] at q
      have q1 := b387; have q2 := kc_0; omega
    · have f390 : x380.toInt ≠ 0 := by
        have q : _ := c388
        simp only [ti_nle, ti_nlt, ti_le, ti_lt, ti_eq, ti_ne, Classical.not_not, kt_0] at q
        omega
      have b391 : IV a1 0 7 := ⟨by have q1 := (iv_any a1); omega, by have q1 := (iv_any a1); omega⟩
      refine m_iload_n C dX12_bells_7 rfl rfl ?_
      refine m_i2l C dX12_bells_8 ?_
      refine m_lconst (v := 1) C dX12_bells_9 (by decide) ?_
      refine m_ldc2 (v := 5) C dX12_bells_10 q5_173 ?_
      refine m_callS (n := 3) (st := []) C (c_X12_in l G τ377 ((4 : Int32).toInt64) (1) (5) i378 ) q4_190 q4_188 q4_189 q1_7 (by decide +kernel) rfl (by decide) (by decide) rfl (Nat.le_of_ble_eq_true rfl) dX12_bells_13 ?_
      rintro _ τ392 ⟨x395, rfl, i393, f394, b396, h398⟩
      have g397 : Fr MS_X12_bells_4Q AS_X12_bells_4Q σ τ392 := Fr.call (g382) f394 (by decide)
      have q399 : (gV τ392 22 0 8).toInt = (gV σ 22 0 8).toInt := congrArg Int32.toInt (show (gV τ392 22 0 8) = (gV σ 22 0 8) from (show gV τ392 22 0 8 = (gV σ 22 0 8) from (f394.1 22 0 (8) (by decide) (by decide)).trans (show gV τ377 22 0 8 = (gV σ 22 0 8) from (f379.1 22 0 (8) (by decide) (by decide)).trans rfl)))
      have q400 : (gV τ392 26 0 (a1.toInt.toNat)).toInt = (gV σ 26 0 (a1.toInt.toNat)).toInt := congrArg Int32.toInt (show (gV τ392 26 0 (a1.toInt.toNat)) = (gV σ 26 0 (a1.toInt.toNat)) from (show gV τ392 26 0 (a1.toInt.toNat) = (gV σ 26 0 (a1.toInt.toNat)) from (f394.1 26 0 ((a1.toInt.toNat)) (by simp) (by decide)).trans (show gV τ377 26 0 (a1.toInt.toNat) = (gV σ 26 0 (a1.toInt.toNat)) from (f379.1 26 0 ((a1.toInt.toNat)) (by simp) (by decide)).trans rfl)))
      have q401 : (gV τ392 27 0 (a1.toInt.toNat)).toInt = (gV σ 27 0 (a1.toInt.toNat)).toInt := congrArg Int32.toInt (show (gV τ392 27 0 (a1.toInt.toNat)) = (gV σ 27 0 (a1.toInt.toNat)) from (show gV τ392 27 0 (a1.toInt.toNat) = (gV σ 27 0 (a1.toInt.toNat)) from (f394.1 27 0 ((a1.toInt.toNat)) (by simp) (by decide)).trans (show gV τ377 27 0 (a1.toInt.toNat) = (gV σ 27 0 (a1.toInt.toNat)) from (f379.1 27 0 ((a1.toInt.toNat)) (by simp) (by decide)).trans rfl)))
      have f402 := tl_i 4
      have kf402 := kt_4
      have f403 := kl_1
      have f404 := kl_5
      rcases h398 with ⟨h398_0, h398_1, h398_2⟩ | ⟨h398_0, h398_1⟩
      · skip
        have b405 : IV x395 1 1 := ⟨by omega, by omega⟩
        show MW p l e _ s m args below meth c _ 14 G 0 0 16 [some (.ref (G.1 22 0)), some (.int a1), some (.int 4), some (.int a3), none, none, none, none, none, none, none, none, none, none] [.int x395] τ392
        refine m_if_eq (tgt := 24) C dX12_bells_16 (by decide) (fun c406 => ?_) (fun c406 => ?_)
        · exfalso
          have q : _ := c406
          simp only [ti_nle, ti_nlt, ti_le, ti_lt, ti_eq, ti_ne, Classical.not_not, kt_0] at q
          have q1 := b405; have q2 := kc_0; omega
        · have f408 : x395.toInt ≠ 0 := by
            have q : _ := c406
            simp only [ti_nle, ti_nlt, ti_le, ti_lt, ti_eq, ti_ne, Classical.not_not, kt_0] at q
            omega
          refine m_iload_n C dX12_bells_19 rfl rfl ?_
          refine m_iconst (v := (-1)) C dX12_bells_20 (by decide) ?_
          refine m_icmp_ge (tgt := 27) C dX12_bells_21 (by decide) (fun c409 => ?_) (fun c409 => ?_)
          · have f410 : -1 ≤ a3.toInt := by
              have q : _ := c409
              simp only [ti_nle, ti_nlt, ti_le, ti_lt, ti_eq, ti_ne, Classical.not_not, kt_m1] at q
              omega
            have b411 : IV a3 (-1) 2147483647 := ⟨by have q1 := kc_m1; have q2 := (iv_any a3); omega, by have q1 := kc_m1; have q2 := (iv_any a3); omega⟩
            refine m_aload_n C dX12_bells_27 rfl rfl ?_
            refine g_22_3 C q4_119 dX12_bells_28 ?_
            refine m_iload_n C dX12_bells_31 rfl rfl ?_
            refine al_26 C b391 (by decide) rfl dX12_bells_32 ?_
            refine m_eqs (w := (gV σ 26 0 (a1.toInt.toNat))) (show gV τ392 26 0 (a1.toInt.toNat) = (gV σ 26 0 (a1.toInt.toNat)) from (f394.1 26 0 ((a1.toInt.toNat)) (by simp) (by decide)).trans (show gV τ377 26 0 (a1.toInt.toNat) = (gV σ 26 0 (a1.toInt.toNat)) from (f379.1 26 0 ((a1.toInt.toNat)) (by simp) (by decide)).trans rfl)) ?_
            refine m_if_ge (tgt := 42) C dX12_bells_33 (by decide) (fun c412 => ?_) (fun c412 => ?_)
            · have f413 : 0 ≤ (gV σ 26 0 (a1.toInt.toNat)).toInt := by
                have q : _ := c412
                simp only [ti_nle, ti_nlt, ti_le, ti_lt, ti_eq, ti_ne, Classical.not_not, kt_0] at q
                omega
              have b414 : IV (gV σ 26 0 (a1.toInt.toNat)) 0 2147483647 := ⟨by have q1 := kc_0; have q2 := (iv_any (gV σ 26 0 (a1.toInt.toNat))); omega, by have q1 := kc_0; have q2 := (iv_any (gV σ 26 0 (a1.toInt.toNat))); omega⟩
              refine m_aload_n C dX12_bells_42 rfl rfl ?_
              refine g_22_4 C q4_120 dX12_bells_43 ?_
              refine m_iload_n C dX12_bells_46 rfl rfl ?_
              refine al_27 C b391 (by decide) rfl dX12_bells_47 ?_
              refine m_eqs (w := (gV σ 27 0 (a1.toInt.toNat))) (show gV τ392 27 0 (a1.toInt.toNat) = (gV σ 27 0 (a1.toInt.toNat)) from (f394.1 27 0 ((a1.toInt.toNat)) (by simp) (by decide)).trans (show gV τ377 27 0 (a1.toInt.toNat) = (gV σ 27 0 (a1.toInt.toNat)) from (f379.1 27 0 ((a1.toInt.toNat)) (by simp) (by decide)).trans rfl)) ?_
              refine m_iload_n C dX12_bells_48 rfl rfl ?_
              refine m_icmp_ge (tgt := 58) C dX12_bells_49 (by decide) (fun c415 => ?_) (fun c415 => ?_)
              · have f416 : 4 ≤ (gV σ 27 0 (a1.toInt.toNat)).toInt := by
                  have q : _ := c415
                  simp only [ti_nle, ti_nlt, ti_le, ti_lt, ti_eq, ti_ne, Classical.not_not, kt_4] at q
                  omega
                have b417 : IV (gV σ 27 0 (a1.toInt.toNat)) 4 40 := ⟨by have q1 := kc_4; have q2 := u376; omega, by have q1 := kc_4; have q2 := u376; omega⟩
                refine m_iconst (v := 0) C dX12_bells_58 (by decide) ?_
                refine m_istore (L1 := [some (.ref (G.1 22 0)), some (.int a1), some (.int 4), some (.int a3), some (.int 0), none, none, none, none, none, none, none, none, none]) C dX12_bells_59 (by decide) rfl rfl ?_
                exact J61 ((4 - (0 : Int32).toInt).toNat + 1) τ392 0 i393 g397 b391 b411 (iv_wk kc_0 (by decide)) (by omega) (by omega) (AlJ.zero (by have q := kt_0; omega)) (Nat.lt_succ_self _)
              · have f418 : (gV σ 27 0 (a1.toInt.toNat)).toInt < 4 := by
                  have q : _ := c415
                  simp only [ti_nle, ti_nlt, ti_le, ti_lt, ti_eq, ti_ne, Classical.not_not, kt_4] at q
                  omega
                have b419 : IV (gV σ 27 0 (a1.toInt.toNat)) 0 3 := ⟨by have q1 := u376; have q2 := kc_4; omega, by have q1 := u376; have q2 := kc_4; omega⟩
                refine m_aload_n C dX12_bells_52 rfl rfl ?_
                refine m_iconst (v := 2) C dX12_bells_53 (by decide) ?_
                have q420 := kt_2
                refine m_callV (n := 1) (ci := 11) (st := []) C (c_X12_metQ l G τ392 (2) i393 (iv_wk kc_2 (by decide))) (by decide) (by decide) rfl rfl rfl q4_196 q4_193 q4_195 q0_26 q1_7 (by decide +kernel) rfl (by decide) (by decide) rfl (Nat.le_of_ble_eq_true rfl) dX12_bells_54 ?_
                rintro _ τ421 ⟨x424, rfl, i422, f423, b425, h427⟩
                have g426 : Fr MS_X12_bells_4Q AS_X12_bells_4Q σ τ421 := Fr.call (g397) f423 (by decide)
                have q428 : (gV τ421 26 0 (a1.toInt.toNat)).toInt = (gV σ 26 0 (a1.toInt.toNat)).toInt := congrArg Int32.toInt (show (gV τ421 26 0 (a1.toInt.toNat)) = (gV σ 26 0 (a1.toInt.toNat)) from (show gV τ421 26 0 (a1.toInt.toNat) = (gV σ 26 0 (a1.toInt.toNat)) from (f423.1 26 0 ((a1.toInt.toNat)) (by simp) (by decide)).trans (show gV τ392 26 0 (a1.toInt.toNat) = (gV σ 26 0 (a1.toInt.toNat)) from (f394.1 26 0 ((a1.toInt.toNat)) (by simp) (by decide)).trans (show gV τ377 26 0 (a1.toInt.toNat) = (gV σ 26 0 (a1.toInt.toNat)) from (f379.1 26 0 ((a1.toInt.toNat)) (by simp) (by decide)).trans rfl))))
                have q429 : (gV τ421 27 0 (a1.toInt.toNat)).toInt = (gV σ 27 0 (a1.toInt.toNat)).toInt := congrArg Int32.toInt (show (gV τ421 27 0 (a1.toInt.toNat)) = (gV σ 27 0 (a1.toInt.toNat)) from (show gV τ421 27 0 (a1.toInt.toNat) = (gV σ 27 0 (a1.toInt.toNat)) from (f423.1 27 0 ((a1.toInt.toNat)) (by simp) (by decide)).trans (show gV τ392 27 0 (a1.toInt.toNat) = (gV σ 27 0 (a1.toInt.toNat)) from (f394.1 27 0 ((a1.toInt.toNat)) (by simp) (by decide)).trans (show gV τ377 27 0 (a1.toInt.toNat) = (gV σ 27 0 (a1.toInt.toNat)) from (f379.1 27 0 ((a1.toInt.toNat)) (by simp) (by decide)).trans rfl))))
                have q430 := kt_2
                show MW p l e _ s m args below meth c _ 14 G 0 0 57 [some (.ref (G.1 22 0)), some (.int a1), some (.int 4), some (.int a3), none, none, none, none, none, none, none, none, none, none] [.int x424] τ421
                exact m_iret C hr hlk (by decide) (by decide) dX12_bells_57 ⟨_, rfl, i422, g426, (iv_wk b425 (by decide)), (Or.inr (Or.inr (Or.inl ⟨by omega, by omega, by omega, by omega⟩)))⟩
            · have f431 : (gV σ 26 0 (a1.toInt.toNat)).toInt < 0 := by
                have q : _ := c412
                simp only [ti_nle, ti_nlt, ti_le, ti_lt, ti_eq, ti_ne, Classical.not_not, kt_0] at q
                omega
              have b432 : IV (gV σ 26 0 (a1.toInt.toNat)) (-2147483648) (-1) := ⟨by have q1 := (iv_any (gV σ 26 0 (a1.toInt.toNat))); have q2 := kc_0; omega, by have q1 := (iv_any (gV σ 26 0 (a1.toInt.toNat))); have q2 := kc_0; omega⟩
              refine m_aload_n C dX12_bells_36 rfl rfl ?_
              refine m_iconst (v := 1) C dX12_bells_37 (by decide) ?_
              have q433 := kt_1
              refine m_callV (n := 1) (ci := 11) (st := []) C (c_X12_metQ l G τ392 (1) i393 (iv_wk kc_1 (by decide))) (by decide) (by decide) rfl rfl rfl q4_196 q4_193 q4_195 q0_26 q1_7 (by decide +kernel) rfl (by decide) (by decide) rfl (Nat.le_of_ble_eq_true rfl) dX12_bells_38 ?_
              rintro _ τ434 ⟨x437, rfl, i435, f436, b438, h440⟩
              have g439 : Fr MS_X12_bells_4Q AS_X12_bells_4Q σ τ434 := Fr.call (g397) f436 (by decide)
              have q441 : (gV τ434 26 0 (a1.toInt.toNat)).toInt = (gV σ 26 0 (a1.toInt.toNat)).toInt := congrArg Int32.toInt (show (gV τ434 26 0 (a1.toInt.toNat)) = (gV σ 26 0 (a1.toInt.toNat)) from (show gV τ434 26 0 (a1.toInt.toNat) = (gV σ 26 0 (a1.toInt.toNat)) from (f436.1 26 0 ((a1.toInt.toNat)) (by simp) (by decide)).trans (show gV τ392 26 0 (a1.toInt.toNat) = (gV σ 26 0 (a1.toInt.toNat)) from (f394.1 26 0 ((a1.toInt.toNat)) (by simp) (by decide)).trans (show gV τ377 26 0 (a1.toInt.toNat) = (gV σ 26 0 (a1.toInt.toNat)) from (f379.1 26 0 ((a1.toInt.toNat)) (by simp) (by decide)).trans rfl))))
              have q442 : (gV τ434 27 0 (a1.toInt.toNat)).toInt = (gV σ 27 0 (a1.toInt.toNat)).toInt := congrArg Int32.toInt (show (gV τ434 27 0 (a1.toInt.toNat)) = (gV σ 27 0 (a1.toInt.toNat)) from (show gV τ434 27 0 (a1.toInt.toNat) = (gV σ 27 0 (a1.toInt.toNat)) from (f436.1 27 0 ((a1.toInt.toNat)) (by simp) (by decide)).trans (show gV τ392 27 0 (a1.toInt.toNat) = (gV σ 27 0 (a1.toInt.toNat)) from (f394.1 27 0 ((a1.toInt.toNat)) (by simp) (by decide)).trans (show gV τ377 27 0 (a1.toInt.toNat) = (gV σ 27 0 (a1.toInt.toNat)) from (f379.1 27 0 ((a1.toInt.toNat)) (by simp) (by decide)).trans rfl))))
              have q443 := kt_1
              show MW p l e _ s m args below meth c _ 14 G 0 0 41 [some (.ref (G.1 22 0)), some (.int a1), some (.int 4), some (.int a3), none, none, none, none, none, none, none, none, none, none] [.int x437] τ434
              exact m_iret C hr hlk (by decide) (by decide) dX12_bells_41 ⟨_, rfl, i435, g439, (iv_wk b438 (by decide)), (Or.inr (Or.inl ⟨by omega, by omega, by omega⟩))⟩
          · have f444 : a3.toInt < -1 := by
              have q : _ := c409
              simp only [ti_nle, ti_nlt, ti_le, ti_lt, ti_eq, ti_ne, Classical.not_not, kt_m1] at q
              omega
            have b445 : IV a3 (-2147483648) (-2) := ⟨by have q1 := (iv_any a3); have q2 := kc_m1; omega, by have q1 := (iv_any a3); have q2 := kc_m1; omega⟩
            refine m_ldc (v := (-1000001)) C dX12_bells_24 q4_192 ?_
            exact m_iret C hr hlk (by decide) (by decide) dX12_bells_26 ⟨_, rfl, i393, g397, (iv_wk kc_m1000001 (by decide)), (Or.inl ⟨by have qk := kt_m1000001; omega, by have qk := kt_m1000001; omega⟩)⟩
      · skip
        have b446 : IV x395 0 0 := ⟨by omega, by omega⟩
        show MW p l e _ s m args below meth c _ 14 G 0 0 16 [some (.ref (G.1 22 0)), some (.int a1), some (.int 4), some (.int a3), none, none, none, none, none, none, none, none, none, none] [.int x395] τ392
        refine m_if_eq (tgt := 24) C dX12_bells_16 (by decide) (fun c447 => ?_) (fun c447 => ?_)
        · have f448 : x395.toInt = 0 := by
            have q : _ := c447
            simp only [ti_nle, ti_nlt, ti_le, ti_lt, ti_eq, ti_ne, Classical.not_not, kt_0] at q
            omega
          refine m_ldc (v := (-1000001)) C dX12_bells_24 q4_192 ?_
          exact m_iret C hr hlk (by decide) (by decide) dX12_bells_26 ⟨_, rfl, i393, g397, (iv_wk kc_m1000001 (by decide)), (Or.inl ⟨by have qk := kt_m1000001; omega, by have qk := kt_m1000001; omega⟩)⟩
        · exfalso
          have q : _ := c447
          simp only [ti_nle, ti_nlt, ti_le, ti_lt, ti_eq, ti_ne, Classical.not_not, kt_0] at q
          have q1 := b446; have q2 := kc_0; omega
  · skip
    have b450 : IV x380 0 0 := ⟨by omega, by omega⟩
    show MW p l e _ s m args below meth c _ 14 G 0 0 4 [some (.ref (G.1 22 0)), some (.int a1), some (.int 4), some (.int a3), none, none, none, none, none, none, none, none, none, none] [.int x380] τ377
    refine m_if_eq (tgt := 24) C dX12_bells_4 (by decide) (fun c451 => ?_) (fun c451 => ?_)
    · have f452 : x380.toInt = 0 := by
        have q : _ := c451
        simp only [ti_nle, ti_nlt, ti_le, ti_lt, ti_eq, ti_ne, Classical.not_not, kt_0] at q
        omega
      refine m_ldc (v := (-1000001)) C dX12_bells_24 q4_192 ?_
      exact m_iret C hr hlk (by decide) (by decide) dX12_bells_26 ⟨_, rfl, i378, g382, (iv_wk kc_m1000001 (by decide)), (Or.inl ⟨by have qk := kt_m1000001; omega, by have qk := kt_m1000001; omega⟩)⟩
    · exfalso
      have q : _ := c451
      simp only [ti_nle, ti_nlt, ti_le, ti_lt, ti_eq, ti_ne, Classical.not_not, kt_0] at q
      have q1 := b450; have q2 := kc_0; omega
