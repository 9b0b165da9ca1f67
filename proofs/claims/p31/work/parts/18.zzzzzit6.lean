abbrev MS_X12_bells_5Q : List (Nat × Nat) := [(22, 8)]
abbrev AS_X12_bells_5Q : List Nat := []
set_option maxHeartbeats 4000000 in
set_option maxRecDepth 100000 in
theorem c_X12_bells_5Q (l : Launch) (G : Gt) (σ : Sg) (a1 : Int32) (a3 : Int32) (hI : Inv σ) : Mc l G yX12_bells cX12_bells 14 (some .int) 2 60 0 0 [.ref (G.1 22 0), .int a1, .int 5, .int a3] σ (PI fun r τ => Inv τ ∧ Fr MS_X12_bells_5Q AS_X12_bells_5Q σ τ ∧ IV r (-2147483648) 2147483647 ∧ BLM σ τ a1 a3 5) := by
  refine Mc.of (L0 := [some (.ref (G.1 22 0)), some (.int a1), some (.int 5), some (.int a3), none, none, none, none, none, none, none, none, none, none]) (by decide) (Nat.le_of_ble_eq_true rfl) rfl ?_
  intro p e s m args below meth c C hr hlk
  have C : Cx p s m args c cX12_bells 14 "LeanTowerModel" := C
  have k0 : (0 : Int32).toInt = 0 := by decide
  have k1 : (1 : Int32).toInt = 1 := by decide
  have J138 : ∀ (n : Nat) (τ : Sg) (y5 : Int32) (y6 : Int32) (y7 : Int32), Inv τ → Fr MS_X12_bells_5Q AS_X12_bells_5Q σ τ → IV a1 0 7 → IV a3 (-1) 2147483647 → IV y5 (-1) 10000 → IV y6 (-2147483648) 2147483647 → IV y7 0 3125 → (((0 ≤ a1.toInt ∧ a1.toInt ≤ 7) ∧ 1 ≤ 5 ∧ 5 ≤ 5 ∧ -1 ≤ a3.toInt ∧ 0 ≤ (gV σ 26 0 (a1.toInt.toNat)).toInt ∧ 5 ≤ (gV σ 27 0 (a1.toInt.toNat)).toInt)) → ((gV τ 22 0 8).toInt = 0) → (AlJ σ (a1.toInt.toNat) 5 1 20) → (3125 - y7.toInt).toNat < n → MW p l e { frames := 2, cells := 0, slots := 0, locals := 60 } s m args below meth c (MQ below (QP G (PI fun r τ => Inv τ ∧ Fr MS_X12_bells_5Q AS_X12_bells_5Q σ τ ∧ IV r (-2147483648) 2147483647 ∧ BLM σ τ a1 a3 5)) args s 0 0 (aG G)) 14 G 0 0 138 [some (.ref (G.1 22 0)), some (.int a1), some (.int 5), some (.int a3), some (.int 3125), some (.int y5), some (.int y6), some (.int y7), none, none, none, none, none, none] [] τ := by
    intro n
    induction n with
    | zero => intro τ y5 y6 y7 iτ fτ b_a1 b_a3 b_y5 b_y6 b_y7 n1 n2 nL hm; exact absurd hm (Nat.not_lt_zero _)
    | succ n ih138 =>
      intro τ y5 y6 y7 iτ fτ b_a1 b_a3 b_y5 b_y6 b_y7 n1 n2 nL hm138
      have u3 : IV (gV τ 27 0 (a1.toInt.toNat)) 0 40 := iτ.1 27 0 (a1.toInt.toNat)
      refine m_iload C dX12_bells_138 rfl ?_
      refine m_iload C dX12_bells_140 rfl ?_
      refine m_icmp_ge (tgt := 285) C dX12_bells_142 (by decide) (fun c4 => ?_) (fun c4 => ?_)
      · have f5 : 3125 ≤ y7.toInt := by
          have q : _ := c4
          simp only [ti_nle, ti_nlt, ti_le, ti_lt, ti_eq, ti_ne, Classical.not_not, kt_3125] at q
          omega
        have b6 : IV y7 3125 3125 := ⟨by have q1 := kc_3125; have q2 := b_y7; omega, by have q1 := kc_3125; have q2 := b_y7; omega⟩
        refine m_iload_n C dX12_bells_285 rfl rfl ?_
        refine m_if_ge (tgt := 292) C dX12_bells_286 (by decide) (fun c7 => ?_) (fun c7 => ?_)
        · have f8 : 0 ≤ a3.toInt := by
            have q : _ := c7
            simp only [ti_nle, ti_nlt, ti_le, ti_lt, ti_eq, ti_ne, Classical.not_not, kt_0] at q
            omega
          have b9 : IV a3 0 2147483647 := ⟨by have q1 := kc_0; have q2 := b_a3; omega, by have q1 := kc_0; have q2 := b_a3; omega⟩
          refine m_iload C dX12_bells_292 rfl ?_
          refine m_istore (L1 := [some (.ref (G.1 22 0)), some (.int a1), some (.int 5), some (.int a3), some (.int 3125), some (.int y5), some (.int y6), some (.int 3125), none, none, none, none, none, none]) C dX12_bells_294 (by decide) rfl rfl ?_
          refine m_iconst (v := 0) C dX12_bells_296 (by decide) ?_
          refine m_istore (L1 := [some (.ref (G.1 22 0)), some (.int a1), some (.int 5), some (.int a3), some (.int 3125), some (.int y5), some (.int y6), some (.int 3125), some (.int 0), none, none, none, none, none]) C dX12_bells_297 (by decide) rfl rfl ?_
          refine m_iload C dX12_bells_299 rfl ?_
          refine m_iload_n C dX12_bells_301 rfl rfl ?_
          refine m_icmp_gt (tgt := 323) C dX12_bells_302 (by decide) (fun c10 => ?_) (fun c10 => ?_)
          · exfalso
            have q : _ := c10
            simp only [ti_nle, ti_nlt, ti_le, ti_lt, ti_eq, ti_ne, Classical.not_not, kt_0] at q
            have q1 := kc_0; have q2 := b9; omega
          · have f12 : 0 ≤ a3.toInt := by
              have q : _ := c10
              simp only [ti_nle, ti_nlt, ti_le, ti_lt, ti_eq, ti_ne, Classical.not_not, kt_0] at q
              omega
            refine m_iload C dX12_bells_305 rfl ?_
            refine m_iload_n C dX12_bells_307 rfl rfl ?_
            refine m_icmp_ge (tgt := 323) C dX12_bells_308 (by decide) (fun c13 => ?_) (fun c13 => ?_)
            · first | exact absurd c13 (by decide) | exact absurd (by decide) c13
            · have f15 : 0 < 5 := by
                have q : _ := c13
                simp only [ti_nle, ti_nlt, ti_le, ti_lt, ti_eq, ti_ne, Classical.not_not, kt_0, kt_5] at q
                omega
              refine m_iload C dX12_bells_311 rfl ?_
              refine m_iload_n C dX12_bells_313 rfl rfl ?_
              refine m_idiv C dX12_bells_314 (iv_nz kc_5 (by decide)) ?_
              refine m_topi (fun x16 ex16 => ?_)
              have b17 : IV x16 625 625 := by rw [ex16]; decide
              have tx16 : x16.toInt = 625 := by rw [ex16]; decide
              obtain rfl : x16 = 625 := by rw [ex16]; decide
              refine m_istore (L1 := [some (.ref (G.1 22 0)), some (.int a1), some (.int 5), some (.int a3), some (.int 3125), some (.int y5), some (.int y6), some (.int 625), some (.int 0), none, none, none, none, none]) C dX12_bells_315 (by decide) rfl rfl ?_
              obtain ⟨x18, ex18⟩ : ∃ y : Int32, y = 0 + 1 := ⟨_, rfl⟩
              have b19 : IV x18 1 1 := by rw [ex18]; decide
              have tx18 : x18.toInt = 1 := by rw [ex18]; decide
              obtain rfl : x18 = 1 := by rw [ex18]; decide
              refine m_iinc (v := 1) (L1 := [some (.ref (G.1 22 0)), some (.int a1), some (.int 5), some (.int a3), some (.int 3125), some (.int y5), some (.int y6), some (.int 625), some (.int 1), none, none, none, none, none]) C dX12_bells_317 rfl (by decide) (by decide) rfl rfl ?_
              refine m_goto (tgt := 299) C dX12_bells_320 (by decide) ?_
              refine m_iload C dX12_bells_299 rfl ?_
              refine m_iload_n C dX12_bells_301 rfl rfl ?_
              refine m_icmp_gt (tgt := 323) C dX12_bells_302 (by decide) (fun c20 => ?_) (fun c20 => ?_)
              · have f21 : a3.toInt < 1 := by
                  have q : _ := c20
                  simp only [ti_nle, ti_nlt, ti_le, ti_lt, ti_eq, ti_ne, Classical.not_not, kt_1] at q
                  omega
                have b22 : IV a3 0 0 := ⟨by have q1 := b9; have q2 := kc_1; omega, by have q1 := b9; have q2 := kc_1; omega⟩
                refine m_iload_n C dX12_bells_323 rfl rfl ?_
                refine m_iload_n C dX12_bells_324 rfl rfl ?_
                refine m_icmp_ge (tgt := 338) C dX12_bells_325 (by decide) (fun c23 => ?_) (fun c23 => ?_)
                · exfalso
                  have q : _ := c23
                  simp only [ti_nle, ti_nlt, ti_le, ti_lt, ti_eq, ti_ne, Classical.not_not, kt_5] at q
                  have q1 := b22; have q2 := kc_5; omega
                · have f25 : a3.toInt < 5 := by
                    have q : _ := c23
                    simp only [ti_nle, ti_nlt, ti_le, ti_lt, ti_eq, ti_ne, Classical.not_not, kt_5] at q
                    omega
                  refine m_iload C dX12_bells_328 rfl ?_
                  refine m_iload C dX12_bells_330 rfl ?_
                  refine m_idiv C dX12_bells_332 (iv_nz kc_625 (by decide)) ?_
                  refine m_topi (fun x26 ex26 => ?_)
                  refine m_iload_n C dX12_bells_333 rfl rfl ?_
                  refine m_irem C dX12_bells_334 (iv_nz kc_5 (by decide)) ?_
                  refine m_topi (fun x27 ex27 => ?_)
                  refine m_goto (tgt := 340) C dX12_bells_335 (by decide) ?_
                  exact m_iret C hr hlk (by decide) (by decide) dX12_bells_340 ⟨_, rfl, iτ, fτ, (iv_any x27), (Or.inr (Or.inr (Or.inr (Or.inr (⟨by omega, by omega, by omega, nL, by omega⟩)))))⟩
              · have f28 : 1 ≤ a3.toInt := by
                  have q : _ := c20
                  simp only [ti_nle, ti_nlt, ti_le, ti_lt, ti_eq, ti_ne, Classical.not_not, kt_1] at q
                  omega
                have b29 : IV a3 1 2147483647 := ⟨by have q1 := kc_1; have q2 := b9; omega, by have q1 := kc_1; have q2 := b9; omega⟩
                refine m_iload C dX12_bells_305 rfl ?_
                refine m_iload_n C dX12_bells_307 rfl rfl ?_
                refine m_icmp_ge (tgt := 323) C dX12_bells_308 (by decide) (fun c30 => ?_) (fun c30 => ?_)
                · first | exact absurd c30 (by decide) | exact absurd (by decide) c30
                · have f32 : 1 < 5 := by
                    have q : _ := c30
                    simp only [ti_nle, ti_nlt, ti_le, ti_lt, ti_eq, ti_ne, Classical.not_not, kt_1, kt_5] at q
                    omega
                  refine m_iload C dX12_bells_311 rfl ?_
                  refine m_iload_n C dX12_bells_313 rfl rfl ?_
                  refine m_idiv C dX12_bells_314 (iv_nz kc_5 (by decide)) ?_
                  refine m_topi (fun x33 ex33 => ?_)
                  have b34 : IV x33 125 125 := by rw [ex33]; decide
                  have tx33 : x33.toInt = 125 := by rw [ex33]; decide
                  obtain rfl : x33 = 125 := by rw [ex33]; decide
                  refine m_istore (L1 := [some (.ref (G.1 22 0)), some (.int a1), some (.int 5), some (.int a3), some (.int 3125), some (.int y5), some (.int y6), some (.int 125), some (.int 1), none, none, none, none, none]) C dX12_bells_315 (by decide) rfl rfl ?_
                  obtain ⟨x35, ex35⟩ : ∃ y : Int32, y = 1 + 1 := ⟨_, rfl⟩
                  have b36 : IV x35 2 2 := by rw [ex35]; decide
                  have tx35 : x35.toInt = 2 := by rw [ex35]; decide
                  obtain rfl : x35 = 2 := by rw [ex35]; decide
                  refine m_iinc (v := 2) (L1 := [some (.ref (G.1 22 0)), some (.int a1), some (.int 5), some (.int a3), some (.int 3125), some (.int y5), some (.int y6), some (.int 125), some (.int 2), none, none, none, none, none]) C dX12_bells_317 rfl (by decide) (by decide) rfl rfl ?_
                  refine m_goto (tgt := 299) C dX12_bells_320 (by decide) ?_
                  refine m_iload C dX12_bells_299 rfl ?_
                  refine m_iload_n C dX12_bells_301 rfl rfl ?_
                  refine m_icmp_gt (tgt := 323) C dX12_bells_302 (by decide) (fun c37 => ?_) (fun c37 => ?_)
                  · have f38 : a3.toInt < 2 := by
                      have q : _ := c37
                      simp only [ti_nle, ti_nlt, ti_le, ti_lt, ti_eq, ti_ne, Classical.not_not, kt_2] at q
                      omega
                    have b39 : IV a3 1 1 := ⟨by have q1 := b29; have q2 := kc_2; omega, by have q1 := b29; have q2 := kc_2; omega⟩
                    refine m_iload_n C dX12_bells_323 rfl rfl ?_
                    refine m_iload_n C dX12_bells_324 rfl rfl ?_
                    refine m_icmp_ge (tgt := 338) C dX12_bells_325 (by decide) (fun c40 => ?_) (fun c40 => ?_)
                    · exfalso
                      have q : _ := c40
                      simp only [ti_nle, ti_nlt, ti_le, ti_lt, ti_eq, ti_ne, Classical.not_not, kt_5] at q
                      have q1 := b39; have q2 := kc_5; omega
                    · have f42 : a3.toInt < 5 := by
                        have q : _ := c40
                        simp only [ti_nle, ti_nlt, ti_le, ti_lt, ti_eq, ti_ne, Classical.not_not, kt_5] at q
                        omega
                      refine m_iload C dX12_bells_328 rfl ?_
                      refine m_iload C dX12_bells_330 rfl ?_
                      refine m_idiv C dX12_bells_332 (iv_nz kc_125 (by decide)) ?_
                      refine m_topi (fun x43 ex43 => ?_)
                      refine m_iload_n C dX12_bells_333 rfl rfl ?_
                      refine m_irem C dX12_bells_334 (iv_nz kc_5 (by decide)) ?_
                      refine m_topi (fun x44 ex44 => ?_)
                      refine m_goto (tgt := 340) C dX12_bells_335 (by decide) ?_
                      exact m_iret C hr hlk (by decide) (by decide) dX12_bells_340 ⟨_, rfl, iτ, fτ, (iv_any x44), (Or.inr (Or.inr (Or.inr (Or.inr (⟨by omega, by omega, by omega, nL, by omega⟩)))))⟩
                  · have f45 : 2 ≤ a3.toInt := by
                      have q : _ := c37
                      simp only [ti_nle, ti_nlt, ti_le, ti_lt, ti_eq, ti_ne, Classical.not_not, kt_2] at q
                      omega
                    have b46 : IV a3 2 2147483647 := ⟨by have q1 := kc_2; have q2 := b29; omega, by have q1 := kc_2; have q2 := b29; omega⟩
                    refine m_iload C dX12_bells_305 rfl ?_
                    refine m_iload_n C dX12_bells_307 rfl rfl ?_
                    refine m_icmp_ge (tgt := 323) C dX12_bells_308 (by decide) (fun c47 => ?_) (fun c47 => ?_)
                    · first | exact absurd c47 (by decide) | exact absurd (by decide) c47
                    · have f49 : 2 < 5 := by
                        have q : _ := c47
                        simp only [ti_nle, ti_nlt, ti_le, ti_lt, ti_eq, ti_ne, Classical.not_not, kt_2, kt_5] at q
                        omega
                      refine m_iload C dX12_bells_311 rfl ?_
                      refine m_iload_n C dX12_bells_313 rfl rfl ?_
                      refine m_idiv C dX12_bells_314 (iv_nz kc_5 (by decide)) ?_
                      refine m_topi (fun x50 ex50 => ?_)
                      have b51 : IV x50 25 25 := by rw [ex50]; decide
                      have tx50 : x50.toInt = 25 := by rw [ex50]; decide
                      obtain rfl : x50 = 25 := by rw [ex50]; decide
                      refine m_istore (L1 := [some (.ref (G.1 22 0)), some (.int a1), some (.int 5), some (.int a3), some (.int 3125), some (.int y5), some (.int y6), some (.int 25), some (.int 2), none, none, none, none, none]) C dX12_bells_315 (by decide) rfl rfl ?_
                      obtain ⟨x52, ex52⟩ : ∃ y : Int32, y = 2 + 1 := ⟨_, rfl⟩
                      have b53 : IV x52 3 3 := by rw [ex52]; decide
                      have tx52 : x52.toInt = 3 := by rw [ex52]; decide
                      obtain rfl : x52 = 3 := by rw [ex52]; decide
                      refine m_iinc (v := 3) (L1 := [some (.ref (G.1 22 0)), some (.int a1), some (.int 5), some (.int a3), some (.int 3125), some (.int y5), some (.int y6), some (.int 25), some (.int 3), none, none, none, none, none]) C dX12_bells_317 rfl (by decide) (by decide) rfl rfl ?_
                      refine m_goto (tgt := 299) C dX12_bells_320 (by decide) ?_
                      refine m_iload C dX12_bells_299 rfl ?_
                      refine m_iload_n C dX12_bells_301 rfl rfl ?_
                      refine m_icmp_gt (tgt := 323) C dX12_bells_302 (by decide) (fun c54 => ?_) (fun c54 => ?_)
                      · have f55 : a3.toInt < 3 := by
                          have q : _ := c54
                          simp only [ti_nle, ti_nlt, ti_le, ti_lt, ti_eq, ti_ne, Classical.not_not, kt_3] at q
                          omega
                        have b56 : IV a3 2 2 := ⟨by have q1 := b46; have q2 := kc_3; omega, by have q1 := b46; have q2 := kc_3; omega⟩
                        refine m_iload_n C dX12_bells_323 rfl rfl ?_
                        refine m_iload_n C dX12_bells_324 rfl rfl ?_
                        refine m_icmp_ge (tgt := 338) C dX12_bells_325 (by decide) (fun c57 => ?_) (fun c57 => ?_)
                        · exfalso
                          have q : _ := c57
                          simp only [ti_nle, ti_nlt, ti_le, ti_lt, ti_eq, ti_ne, Classical.not_not, kt_5] at q
                          have q1 := b56; have q2 := kc_5; omega
                        · have f59 : a3.toInt < 5 := by
                            have q : _ := c57
                            simp only [ti_nle, ti_nlt, ti_le, ti_lt, ti_eq, ti_ne, Classical.not_not, kt_5] at q
                            omega
                          refine m_iload C dX12_bells_328 rfl ?_
                          refine m_iload C dX12_bells_330 rfl ?_
                          refine m_idiv C dX12_bells_332 (iv_nz kc_25 (by decide)) ?_
                          refine m_topi (fun x60 ex60 => ?_)
                          refine m_iload_n C dX12_bells_333 rfl rfl ?_
                          refine m_irem C dX12_bells_334 (iv_nz kc_5 (by decide)) ?_
                          refine m_topi (fun x61 ex61 => ?_)
                          refine m_goto (tgt := 340) C dX12_bells_335 (by decide) ?_
                          exact m_iret C hr hlk (by decide) (by decide) dX12_bells_340 ⟨_, rfl, iτ, fτ, (iv_any x61), (Or.inr (Or.inr (Or.inr (Or.inr (⟨by omega, by omega, by omega, nL, by omega⟩)))))⟩
                      · have f62 : 3 ≤ a3.toInt := by
                          have q : _ := c54
                          simp only [ti_nle, ti_nlt, ti_le, ti_lt, ti_eq, ti_ne, Classical.not_not, kt_3] at q
                          omega
                        have b63 : IV a3 3 2147483647 := ⟨by have q1 := kc_3; have q2 := b46; omega, by have q1 := kc_3; have q2 := b46; omega⟩
                        refine m_iload C dX12_bells_305 rfl ?_
                        refine m_iload_n C dX12_bells_307 rfl rfl ?_
                        refine m_icmp_ge (tgt := 323) C dX12_bells_308 (by decide) (fun c64 => ?_) (fun c64 => ?_)
                        · first | exact absurd c64 (by decide) | exact absurd (by decide) c64
                        · have f66 : 3 < 5 := by
                            have q : _ := c64
                            simp only [ti_nle, ti_nlt, ti_le, ti_lt, ti_eq, ti_ne, Classical.not_not, kt_3, kt_5] at q
                            omega
                          refine m_iload C dX12_bells_311 rfl ?_
                          refine m_iload_n C dX12_bells_313 rfl rfl ?_
                          refine m_idiv C dX12_bells_314 (iv_nz kc_5 (by decide)) ?_
                          refine m_topi (fun x67 ex67 => ?_)
                          have b68 : IV x67 5 5 := by rw [ex67]; decide
                          have tx67 : x67.toInt = 5 := by rw [ex67]; decide
                          obtain rfl : x67 = 5 := by rw [ex67]; decide
                          refine m_istore (L1 := [some (.ref (G.1 22 0)), some (.int a1), some (.int 5), some (.int a3), some (.int 3125), some (.int y5), some (.int y6), some (.int 5), some (.int 3), none, none, none, none, none]) C dX12_bells_315 (by decide) rfl rfl ?_
                          obtain ⟨x69, ex69⟩ : ∃ y : Int32, y = 3 + 1 := ⟨_, rfl⟩
                          have b70 : IV x69 4 4 := by rw [ex69]; decide
                          have tx69 : x69.toInt = 4 := by rw [ex69]; decide
                          obtain rfl : x69 = 4 := by rw [ex69]; decide
                          refine m_iinc (v := 4) (L1 := [some (.ref (G.1 22 0)), some (.int a1), some (.int 5), some (.int a3), some (.int 3125), some (.int y5), some (.int y6), some (.int 5), some (.int 4), none, none, none, none, none]) C dX12_bells_317 rfl (by decide) (by decide) rfl rfl ?_
                          refine m_goto (tgt := 299) C dX12_bells_320 (by decide) ?_
                          refine m_iload C dX12_bells_299 rfl ?_
                          refine m_iload_n C dX12_bells_301 rfl rfl ?_
                          refine m_icmp_gt (tgt := 323) C dX12_bells_302 (by decide) (fun c71 => ?_) (fun c71 => ?_)
                          · have f72 : a3.toInt < 4 := by
                              have q : _ := c71
                              simp only [ti_nle, ti_nlt, ti_le, ti_lt, ti_eq, ti_ne, Classical.not_not, kt_4] at q
                              omega
                            have b73 : IV a3 3 3 := ⟨by have q1 := b63; have q2 := kc_4; omega, by have q1 := b63; have q2 := kc_4; omega⟩
                            refine m_iload_n C dX12_bells_323 rfl rfl ?_
                            refine m_iload_n C dX12_bells_324 rfl rfl ?_
                            refine m_icmp_ge (tgt := 338) C dX12_bells_325 (by decide) (fun c74 => ?_) (fun c74 => ?_)
                            · exfalso
                              have q : _ := c74
                              simp only [ti_nle, ti_nlt, ti_le, ti_lt, ti_eq, ti_ne, Classical.not_not, kt_5] at q
                              have q1 := b73; have q2 := kc_5; omega
                            · have f76 : a3.toInt < 5 := by
                                have q : _ := c74
                                simp only [ti_nle, ti_nlt, ti_le, ti_lt, ti_eq, ti_ne, Classical.not_not, kt_5] at q
                                omega
                              refine m_iload C dX12_bells_328 rfl ?_
                              refine m_iload C dX12_bells_330 rfl ?_
                              refine m_idiv C dX12_bells_332 (iv_nz kc_5 (by decide)) ?_
                              refine m_topi (fun x77 ex77 => ?_)
                              refine m_iload_n C dX12_bells_333 rfl rfl ?_
                              refine m_irem C dX12_bells_334 (iv_nz kc_5 (by decide)) ?_
                              refine m_topi (fun x78 ex78 => ?_)
                              refine m_goto (tgt := 340) C dX12_bells_335 (by decide) ?_
                              exact m_iret C hr hlk (by decide) (by decide) dX12_bells_340 ⟨_, rfl, iτ, fτ, (iv_any x78), (Or.inr (Or.inr (Or.inr (Or.inr (⟨by omega, by omega, by omega, nL, by omega⟩)))))⟩
                          · have f79 : 4 ≤ a3.toInt := by
                              have q : _ := c71
                              simp only [ti_nle, ti_nlt, ti_le, ti_lt, ti_eq, ti_ne, Classical.not_not, kt_4] at q
                              omega
                            have b80 : IV a3 4 2147483647 := ⟨by have q1 := kc_4; have q2 := b63; omega, by have q1 := kc_4; have q2 := b63; omega⟩
                            refine m_iload C dX12_bells_305 rfl ?_
                            refine m_iload_n C dX12_bells_307 rfl rfl ?_
                            refine m_icmp_ge (tgt := 323) C dX12_bells_308 (by decide) (fun c81 => ?_) (fun c81 => ?_)
                            · first | exact absurd c81 (by decide) | exact absurd (by decide) c81
                            · have f83 : 4 < 5 := by
                                have q : _ := c81
                                simp only [ti_nle, ti_nlt, ti_le, ti_lt, ti_eq, ti_ne, Classical.not_not, kt_4, kt_5] at q
                                omega
                              refine m_iload C dX12_bells_311 rfl ?_
                              refine m_iload_n C dX12_bells_313 rfl rfl ?_
                              refine m_idiv C dX12_bells_314 (iv_nz kc_5 (by decide)) ?_
                              refine m_topi (fun x84 ex84 => ?_)
                              have b85 : IV x84 1 1 := by rw [ex84]; decide
                              have tx84 : x84.toInt = 1 := by rw [ex84]; decide
                              obtain rfl : x84 = 1 := by rw [ex84]; decide
                              refine m_istore (L1 := [some (.ref (G.1 22 0)), some (.int a1), some (.int 5), some (.int a3), some (.int 3125), some (.int y5), some (.int y6), some (.int 1), some (.int 4), none, none, none, none, none]) C dX12_bells_315 (by decide) rfl rfl ?_
                              obtain ⟨x86, ex86⟩ : ∃ y : Int32, y = 4 + 1 := ⟨_, rfl⟩
                              have b87 : IV x86 5 5 := by rw [ex86]; decide
                              have tx86 : x86.toInt = 5 := by rw [ex86]; decide
                              obtain rfl : x86 = 5 := by rw [ex86]; decide
                              refine m_iinc (v := 5) (L1 := [some (.ref (G.1 22 0)), some (.int a1), some (.int 5), some (.int a3), some (.int 3125), some (.int y5), some (.int y6), some (.int 1), some (.int 5), none, none, none, none, none]) C dX12_bells_317 rfl (by decide) (by decide) rfl rfl ?_
                              refine m_goto (tgt := 299) C dX12_bells_320 (by decide) ?_
                              refine m_iload C dX12_bells_299 rfl ?_
                              refine m_iload_n C dX12_bells_301 rfl rfl ?_
                              refine m_icmp_gt (tgt := 323) C dX12_bells_302 (by decide) (fun c88 => ?_) (fun c88 => ?_)
                              · have f89 : a3.toInt < 5 := by
                                  have q : _ := c88
                                  simp only [ti_nle, ti_nlt, ti_le, ti_lt, ti_eq, ti_ne, Classical.not_not, kt_5] at q
                                  omega
                                have b90 : IV a3 4 4 := ⟨by have q1 := b80; have q2 := kc_5; omega, by have q1 := b80; have q2 := kc_5; omega⟩
                                refine m_iload_n C dX12_bells_323 rfl rfl ?_
                                refine m_iload_n C dX12_bells_324 rfl rfl ?_
                                refine m_icmp_ge (tgt := 338) C dX12_bells_325 (by decide) (fun c91 => ?_) (fun c91 => ?_)
                                · exfalso
                                  have q : _ := c91
                                  simp only [ti_nle, ti_nlt, ti_le, ti_lt, ti_eq, ti_ne, Classical.not_not, kt_5] at q
                                  have q1 := b90; have q2 := kc_5; omega
                                · have f93 : a3.toInt < 5 := by
                                    have q : _ := c91
                                    simp only [ti_nle, ti_nlt, ti_le, ti_lt, ti_eq, ti_ne, Classical.not_not, kt_5] at q
                                    omega
                                  refine m_iload C dX12_bells_328 rfl ?_
                                  refine m_iload C dX12_bells_330 rfl ?_
                                  refine m_idiv C dX12_bells_332 (iv_nz kc_1 (by decide)) ?_
                                  refine m_topi (fun x94 ex94 => ?_)
                                  refine m_iload_n C dX12_bells_333 rfl rfl ?_
                                  refine m_irem C dX12_bells_334 (iv_nz kc_5 (by decide)) ?_
                                  refine m_topi (fun x95 ex95 => ?_)
                                  refine m_goto (tgt := 340) C dX12_bells_335 (by decide) ?_
                                  exact m_iret C hr hlk (by decide) (by decide) dX12_bells_340 ⟨_, rfl, iτ, fτ, (iv_any x95), (Or.inr (Or.inr (Or.inr (Or.inr (⟨by omega, by omega, by omega, nL, by omega⟩)))))⟩
                              · have f96 : 5 ≤ a3.toInt := by
                                  have q : _ := c88
                                  simp only [ti_nle, ti_nlt, ti_le, ti_lt, ti_eq, ti_ne, Classical.not_not, kt_5] at q
                                  omega
                                have b97 : IV a3 5 2147483647 := ⟨by have q1 := kc_5; have q2 := b80; omega, by have q1 := kc_5; have q2 := b80; omega⟩
                                refine m_iload C dX12_bells_305 rfl ?_
                                refine m_iload_n C dX12_bells_307 rfl rfl ?_
                                refine m_icmp_ge (tgt := 323) C dX12_bells_308 (by decide) (fun c98 => ?_) (fun c98 => ?_)
                                · have f99 : 5 ≤ 5 := by
                                    have q : _ := c98
                                    simp only [ti_nle, ti_nlt, ti_le, ti_lt, ti_eq, ti_ne, Classical.not_not, kt_5, kt_5] at q
                                    omega
                                  refine m_iload_n C dX12_bells_323 rfl rfl ?_
                                  refine m_iload_n C dX12_bells_324 rfl rfl ?_
                                  refine m_icmp_ge (tgt := 338) C dX12_bells_325 (by decide) (fun c100 => ?_) (fun c100 => ?_)
                                  · have f101 : 5 ≤ a3.toInt := by
                                      have q : _ := c100
                                      simp only [ti_nle, ti_nlt, ti_le, ti_lt, ti_eq, ti_ne, Classical.not_not, kt_5] at q
                                      omega
                                    refine m_ldc (v := (-1000000)) C dX12_bells_338 q5_70 ?_
                                    exact m_iret C hr hlk (by decide) (by decide) dX12_bells_340 ⟨_, rfl, iτ, fτ, (iv_wk kc_m1000000 (by decide)), (Or.inr (Or.inr (Or.inr (Or.inr (⟨by have qk := kt_m1000000; omega, by have qk := kt_m1000000; omega, by have qk := kt_m1000000; omega, nL, by have qk := kt_m1000000; omega⟩)))))⟩
                                  · exfalso
                                    have q : _ := c100
                                    simp only [ti_nle, ti_nlt, ti_le, ti_lt, ti_eq, ti_ne, Classical.not_not, kt_5] at q
                                    have q1 := b97; have q2 := kc_5; omega
                                · first | exact absurd c98 (by decide) | exact absurd (by decide) c98
        · have f104 : a3.toInt < 0 := by
            have q : _ := c7
            simp only [ti_nle, ti_nlt, ti_le, ti_lt, ti_eq, ti_ne, Classical.not_not, kt_0] at q
            omega
          have b105 : IV a3 (-1) (-1) := ⟨by have q1 := b_a3; have q2 := kc_0; omega, by have q1 := b_a3; have q2 := kc_0; omega⟩
          refine m_iload C dX12_bells_289 rfl ?_
          exact m_iret C hr hlk (by decide) (by decide) dX12_bells_291 ⟨_, rfl, iτ, fτ, b_y6, (Or.inr (Or.inr (Or.inr (Or.inr (⟨by omega, by omega, by omega, nL, by omega⟩)))))⟩
      · have f106 : y7.toInt < 3125 := by
          have q : _ := c4
          simp only [ti_nle, ti_nlt, ti_le, ti_lt, ti_eq, ti_ne, Classical.not_not, kt_3125] at q
          omega
        have b107 : IV y7 0 3124 := ⟨by have q1 := b_y7; have q2 := kc_3125; omega, by have q1 := b_y7; have q2 := kc_3125; omega⟩
        refine m_iconst (v := 0) C dX12_bells_145 (by decide) ?_
        refine m_istore (L1 := [some (.ref (G.1 22 0)), some (.int a1), some (.int 5), some (.int a3), some (.int 3125), some (.int y5), some (.int y6), some (.int y7), some (.int 0), none, none, none, none, none]) C dX12_bells_146 (by decide) rfl rfl ?_
        refine m_iload C dX12_bells_148 rfl ?_
        refine m_istore (L1 := [some (.ref (G.1 22 0)), some (.int a1), some (.int 5), some (.int a3), some (.int 3125), some (.int y5), some (.int y6), some (.int y7), some (.int 0), some (.int 3125), none, none, none, none]) C dX12_bells_150 (by decide) rfl rfl ?_
        refine m_iconst (v := 0) C dX12_bells_152 (by decide) ?_
        refine m_istore (L1 := [some (.ref (G.1 22 0)), some (.int a1), some (.int 5), some (.int a3), some (.int 3125), some (.int y5), some (.int y6), some (.int y7), some (.int 0), some (.int 3125), some (.int 0), none, none, none]) C dX12_bells_153 (by decide) rfl rfl ?_
        refine m_iconst (v := 0) C dX12_bells_155 (by decide) ?_
        refine m_istore (L1 := [some (.ref (G.1 22 0)), some (.int a1), some (.int 5), some (.int a3), some (.int 3125), some (.int y5), some (.int y6), some (.int y7), some (.int 0), some (.int 3125), some (.int 0), some (.int 0), none, none]) C dX12_bells_156 (by decide) rfl rfl ?_
        refine m_iconst (v := 0) C dX12_bells_158 (by decide) ?_
        refine m_istore (L1 := [some (.ref (G.1 22 0)), some (.int a1), some (.int 5), some (.int a3), some (.int 3125), some (.int y5), some (.int y6), some (.int y7), some (.int 0), some (.int 3125), some (.int 0), some (.int 0), some (.int 0), none]) C dX12_bells_159 (by decide) rfl rfl ?_
        refine m_iload C dX12_bells_161 rfl ?_
        refine m_iload_n C dX12_bells_163 rfl rfl ?_
        refine m_icmp_ge (tgt := 249) C dX12_bells_164 (by decide) (fun c108 => ?_) (fun c108 => ?_)
        · first | exact absurd c108 (by decide) | exact absurd (by decide) c108
        · have f110 : 0 < 5 := by
            have q : _ := c108
            simp only [ti_nle, ti_nlt, ti_le, ti_lt, ti_eq, ti_ne, Classical.not_not, kt_0, kt_5] at q
            omega
          refine m_iload C dX12_bells_167 rfl ?_
          refine m_iload_n C dX12_bells_169 rfl rfl ?_
          refine m_idiv C dX12_bells_170 (iv_nz kc_5 (by decide)) ?_
          refine m_topi (fun x111 ex111 => ?_)
          have b112 : IV x111 625 625 := by rw [ex111]; decide
          have tx111 : x111.toInt = 625 := by rw [ex111]; decide
          obtain rfl : x111 = 625 := by rw [ex111]; decide
          refine m_istore (L1 := [some (.ref (G.1 22 0)), some (.int a1), some (.int 5), some (.int a3), some (.int 3125), some (.int y5), some (.int y6), some (.int y7), some (.int 0), some (.int 625), some (.int 0), some (.int 0), some (.int 0), none]) C dX12_bells_171 (by decide) rfl rfl ?_
          refine m_iload C dX12_bells_173 rfl ?_
          refine m_iload C dX12_bells_175 rfl ?_
          refine m_idiv C dX12_bells_177 (iv_nz kc_625 (by decide)) ?_
          refine m_topi (fun x113 ex113 => ?_)
          have b114 : IV x113 0 4 := by rw [ex113]; exact iv_div b107 kc_625 (by decide)
          refine m_iload_n C dX12_bells_178 rfl rfl ?_
          refine m_irem C dX12_bells_179 (iv_nz kc_5 (by decide)) ?_
          refine m_topi (fun x115 ex115 => ?_)
          have b116 : IV x115 0 4 := by rw [ex115]; exact iv_rem b114 kc_5 (by decide)
          refine m_istore (L1 := [some (.ref (G.1 22 0)), some (.int a1), some (.int 5), some (.int a3), some (.int 3125), some (.int y5), some (.int y6), some (.int y7), some (.int 0), some (.int 625), some (.int 0), some (.int 0), some (.int 0), some (.int x115)]) C dX12_bells_180 (by decide) rfl rfl ?_
          refine m_iload C dX12_bells_182 rfl ?_
          refine m_iconst (v := 1) C dX12_bells_184 (by decide) ?_
          refine m_iload C dX12_bells_185 rfl ?_
          refine m_ishl C dX12_bells_187 ?_
          refine m_topi (fun x117 ex117 => ?_)
          have b118 : IV x117 1 16 := by rw [ex117]; exact iv_shl1 b116 (by decide)
          refine m_ior C dX12_bells_188 ?_
          refine m_topi (fun x119 ex119 => ?_)
          have b120 : IV x119 0 31 := by rw [ex119]; exact iv_or 5 kc_0 b118 (by decide)
          refine m_istore (L1 := [some (.ref (G.1 22 0)), some (.int a1), some (.int 5), some (.int a3), some (.int 3125), some (.int y5), some (.int y6), some (.int y7), some (.int x119), some (.int 625), some (.int 0), some (.int 0), some (.int 0), some (.int x115)]) C dX12_bells_189 (by decide) rfl rfl ?_
          refine m_iload C dX12_bells_191 rfl ?_
          refine m_iload C dX12_bells_193 rfl ?_
          refine m_iconst (v := 2) C dX12_bells_195 (by decide) ?_
          refine m_irem C dX12_bells_196 (iv_nz kc_2 (by decide)) ?_
          refine m_topi (fun x121 ex121 => ?_)
          have b122 : IV x121 0 0 := by rw [ex121]; decide
          have tx121 : x121.toInt = 0 := by rw [ex121]; decide
          obtain rfl : x121 = 0 := by rw [ex121]; decide
          refine m_if_ne (tgt := 215) C dX12_bells_197 (by decide) (fun c123 => ?_) (fun c123 => ?_)
          · first | exact absurd c123 (by decide) | exact absurd (by decide) c123
          · have f125 : 0 = 0 := by
              have q : _ := c123
              simp only [ti_nle, ti_nlt, ti_le, ti_lt, ti_eq, ti_ne, Classical.not_not, kt_0, kt_0] at q
              omega
            refine m_aload_n C dX12_bells_200 rfl rfl ?_
            refine g_22_2 C q4_118 dX12_bells_201 ?_
            refine m_bipush (v := 40) C dX12_bells_204 (by decide) ?_
            refine m_iload_n C dX12_bells_206 rfl rfl ?_
            refine m_imul C dX12_bells_207 ?_
            refine m_topi (fun x126 ex126 => ?_)
            have tx126 : x126.toInt = 40 * a1.toInt := by rw [ex126, ti_mulv kc_40 b_a1 (by decide), kt_40]
            have b127 : IV x126 0 280 := by rw [ex126]; exact iv_mul kc_40 b_a1 (by decide)
            refine m_iload C dX12_bells_208 rfl ?_
            refine m_iadd C dX12_bells_210 ?_
            refine m_topi (fun x128 ex128 => ?_)
            have tx128 : x128.toInt = x126.toInt + x115.toInt := by rw [ex128, ti_addv b127 b116 (by decide)]
            have b129 : IV x128 0 284 := by rw [ex128]; exact iv_add b127 b116 (by decide)
            refine al_25 C b129 (by decide) rfl dX12_bells_211 ?_
            refine m_topi (fun x130 ex130 => ?_)
            refine m_goto (tgt := 228) C dX12_bells_212 (by decide) ?_
            refine m_iadd C dX12_bells_228 ?_
            refine m_topi (fun x131 ex131 => ?_)
            have tx131 : x131.toInt = 0 + x130.toInt := by rw [ex131, ti_addv kc_0 (iv_any x130) (by decide), kt_0]
            have b132 : IV x131 (-2147483648) 2147483647 := by rw [ex131]; exact iv_add kc_0 (iv_any x130) (by decide)
            refine m_istore (L1 := [some (.ref (G.1 22 0)), some (.int a1), some (.int 5), some (.int a3), some (.int 3125), some (.int y5), some (.int y6), some (.int y7), some (.int x119), some (.int 625), some (.int x131), some (.int 0), some (.int 0), some (.int x115)]) C dX12_bells_229 (by decide) rfl rfl ?_
            refine m_iload C dX12_bells_231 rfl ?_
            refine m_iload C dX12_bells_233 rfl ?_
            refine m_callS (n := 1) (st := [.int 0]) C (c_X12_sizeOf l G τ (x131) iτ ) q5_96 q5_94 q5_95 q1_7 (by decide +kernel) rfl (by decide) (by decide) rfl (Nat.le_of_ble_eq_true rfl) dX12_bells_235 ?_
            rintro _ τ133 ⟨x136, rfl, i134, f135, b137⟩
            have g138 : Fr MS_X12_bells_5Q AS_X12_bells_5Q σ τ133 := Fr.call (fτ) f135 (by decide)
            show MW p l e _ s m args below meth c _ 14 G 0 0 238 [some (.ref (G.1 22 0)), some (.int a1), some (.int 5), some (.int a3), some (.int 3125), some (.int y5), some (.int y6), some (.int y7), some (.int x119), some (.int 625), some (.int x131), some (.int 0), some (.int 0), some (.int x115)] [.int x136, .int 0] τ133
            refine m_callS (n := 2) (st := []) C (c_X12_greater l G τ133 (0) (x136) i134 ) q5_99 q5_97 q5_98 q1_7 (by decide +kernel) rfl (by decide) (by decide) rfl (Nat.le_of_ble_eq_true rfl) dX12_bells_238 ?_
            rintro _ τ140 ⟨x143, rfl, i141, f142, b144⟩
            have g145 : Fr MS_X12_bells_5Q AS_X12_bells_5Q σ τ140 := Fr.call (g138) f142 (by decide)
            show MW p l e _ s m args below meth c _ 14 G 0 0 241 [some (.ref (G.1 22 0)), some (.int a1), some (.int 5), some (.int a3), some (.int 3125), some (.int y5), some (.int y6), some (.int y7), some (.int x119), some (.int 625), some (.int x131), some (.int 0), some (.int 0), some (.int x115)] [.int x143] τ140
            refine m_istore (L1 := [some (.ref (G.1 22 0)), some (.int a1), some (.int 5), some (.int a3), some (.int 3125), some (.int y5), some (.int y6), some (.int y7), some (.int x119), some (.int 625), some (.int x131), some (.int x143), some (.int 0), some (.int x115)]) C dX12_bells_241 (by decide) rfl rfl ?_
            obtain ⟨x147, ex147⟩ : ∃ y : Int32, y = 0 + 1 := ⟨_, rfl⟩
            have b148 : IV x147 1 1 := by rw [ex147]; decide
            have tx147 : x147.toInt = 1 := by rw [ex147]; decide
            obtain rfl : x147 = 1 := by rw [ex147]; decide
            refine m_iinc (v := 1) (L1 := [some (.ref (G.1 22 0)), some (.int a1), some (.int 5), some (.int a3), some (.int 3125), some (.int y5), some (.int y6), some (.int y7), some (.int x119), some (.int 625), some (.int x131), some (.int x143), some (.int 1), some (.int x115)]) C dX12_bells_243 rfl (by decide) (by decide) rfl rfl ?_
            refine m_goto (tgt := 161) C dX12_bells_246 (by decide) ?_
            refine m_iload C dX12_bells_161 rfl ?_
            refine m_iload_n C dX12_bells_163 rfl rfl ?_
            refine m_icmp_ge (tgt := 249) C dX12_bells_164 (by decide) (fun c149 => ?_) (fun c149 => ?_)
            · first | exact absurd c149 (by decide) | exact absurd (by decide) c149
            · have f151 : 1 < 5 := by
                have q : _ := c149
                simp only [ti_nle, ti_nlt, ti_le, ti_lt, ti_eq, ti_ne, Classical.not_not, kt_1, kt_5] at q
                omega
              refine m_iload C dX12_bells_167 rfl ?_
              refine m_iload_n C dX12_bells_169 rfl rfl ?_
              refine m_idiv C dX12_bells_170 (iv_nz kc_5 (by decide)) ?_
              refine m_topi (fun x152 ex152 => ?_)
              have b153 : IV x152 125 125 := by rw [ex152]; decide
              have tx152 : x152.toInt = 125 := by rw [ex152]; decide
              obtain rfl : x152 = 125 := by rw [ex152]; decide
              refine m_istore (L1 := [some (.ref (G.1 22 0)), some (.int a1), some (.int 5), some (.int a3), some (.int 3125), some (.int y5), some (.int y6), some (.int y7), some (.int x119), some (.int 125), some (.int x131), some (.int x143), some (.int 1), some (.int x115)]) C dX12_bells_171 (by decide) rfl rfl ?_
              refine m_iload C dX12_bells_173 rfl ?_
              refine m_iload C dX12_bells_175 rfl ?_
              refine m_idiv C dX12_bells_177 (iv_nz kc_125 (by decide)) ?_
              refine m_topi (fun x154 ex154 => ?_)
              have b155 : IV x154 0 24 := by rw [ex154]; exact iv_div b107 kc_125 (by decide)
              refine m_iload_n C dX12_bells_178 rfl rfl ?_
              refine m_irem C dX12_bells_179 (iv_nz kc_5 (by decide)) ?_
              refine m_topi (fun x156 ex156 => ?_)
              have b157 : IV x156 0 4 := by rw [ex156]; exact iv_rem b155 kc_5 (by decide)
              refine m_istore (L1 := [some (.ref (G.1 22 0)), some (.int a1), some (.int 5), some (.int a3), some (.int 3125), some (.int y5), some (.int y6), some (.int y7), some (.int x119), some (.int 125), some (.int x131), some (.int x143), some (.int 1), some (.int x156)]) C dX12_bells_180 (by decide) rfl rfl ?_
              refine m_iload C dX12_bells_182 rfl ?_
              refine m_iconst (v := 1) C dX12_bells_184 (by decide) ?_
              refine m_iload C dX12_bells_185 rfl ?_
              refine m_ishl C dX12_bells_187 ?_
              refine m_topi (fun x158 ex158 => ?_)
              have b159 : IV x158 1 16 := by rw [ex158]; exact iv_shl1 b157 (by decide)
              refine m_ior C dX12_bells_188 ?_
              refine m_topi (fun x160 ex160 => ?_)
              have b161 : IV x160 0 31 := by rw [ex160]; exact iv_or 5 b120 b159 (by decide)
              refine m_istore (L1 := [some (.ref (G.1 22 0)), some (.int a1), some (.int 5), some (.int a3), some (.int 3125), some (.int y5), some (.int y6), some (.int y7), some (.int x160), some (.int 125), some (.int x131), some (.int x143), some (.int 1), some (.int x156)]) C dX12_bells_189 (by decide) rfl rfl ?_
              refine m_iload C dX12_bells_191 rfl ?_
              refine m_iload C dX12_bells_193 rfl ?_
              refine m_iconst (v := 2) C dX12_bells_195 (by decide) ?_
              refine m_irem C dX12_bells_196 (iv_nz kc_2 (by decide)) ?_
              refine m_topi (fun x162 ex162 => ?_)
              have b163 : IV x162 1 1 := by rw [ex162]; decide
              have tx162 : x162.toInt = 1 := by rw [ex162]; decide
              obtain rfl : x162 = 1 := by rw [ex162]; decide
              refine m_if_ne (tgt := 215) C dX12_bells_197 (by decide) (fun c164 => ?_) (fun c164 => ?_)
              · have f165 : 1 ≠ 0 := by
                  have q : _ := c164
                  simp only [ti_nle, ti_nlt, ti_le, ti_lt, ti_eq, ti_ne, Classical.not_not, kt_1, kt_0] at q
                  omega
                refine m_aload_n C dX12_bells_215 rfl rfl ?_
                refine g_22_2 C q4_118 dX12_bells_216 ?_
                refine m_bipush (v := 40) C dX12_bells_219 (by decide) ?_
                refine m_iload_n C dX12_bells_221 rfl rfl ?_
                refine m_imul C dX12_bells_222 ?_
                refine m_topi (fun x166 ex166 => ?_)
                have tx166 : x166.toInt = 40 * a1.toInt := by rw [ex166, ti_mulv kc_40 b_a1 (by decide), kt_40]
                have b167 : IV x166 0 280 := by rw [ex166]; exact iv_mul kc_40 b_a1 (by decide)
                refine m_iload C dX12_bells_223 rfl ?_
                refine m_iadd C dX12_bells_225 ?_
                refine m_topi (fun x168 ex168 => ?_)
                have tx168 : x168.toInt = x166.toInt + x156.toInt := by rw [ex168, ti_addv b167 b157 (by decide)]
                have b169 : IV x168 0 284 := by rw [ex168]; exact iv_add b167 b157 (by decide)
                refine al_25 C b169 (by decide) rfl dX12_bells_226 ?_
                refine m_topi (fun x170 ex170 => ?_)
                refine m_ineg C dX12_bells_227 ?_
                refine m_topi (fun x171 ex171 => ?_)
                refine m_iadd C dX12_bells_228 ?_
                refine m_topi (fun x172 ex172 => ?_)
                refine m_istore (L1 := [some (.ref (G.1 22 0)), some (.int a1), some (.int 5), some (.int a3), some (.int 3125), some (.int y5), some (.int y6), some (.int y7), some (.int x160), some (.int 125), some (.int x172), some (.int x143), some (.int 1), some (.int x156)]) C dX12_bells_229 (by decide) rfl rfl ?_
                refine m_iload C dX12_bells_231 rfl ?_
                refine m_iload C dX12_bells_233 rfl ?_
                refine m_callS (n := 1) (st := [.int x143]) C (c_X12_sizeOf l G τ140 (x172) i141 ) q5_96 q5_94 q5_95 q1_7 (by decide +kernel) rfl (by decide) (by decide) rfl (Nat.le_of_ble_eq_true rfl) dX12_bells_235 ?_
                rintro _ τ173 ⟨x176, rfl, i174, f175, b177⟩
                have g178 : Fr MS_X12_bells_5Q AS_X12_bells_5Q σ τ173 := Fr.call (g145) f175 (by decide)
                show MW p l e _ s m args below meth c _ 14 G 0 0 238 [some (.ref (G.1 22 0)), some (.int a1), some (.int 5), some (.int a3), some (.int 3125), some (.int y5), some (.int y6), some (.int y7), some (.int x160), some (.int 125), some (.int x172), some (.int x143), some (.int 1), some (.int x156)] [.int x176, .int x143] τ173
                refine m_callS (n := 2) (st := []) C (c_X12_greater l G τ173 (x143) (x176) i174 ) q5_99 q5_97 q5_98 q1_7 (by decide +kernel) rfl (by decide) (by decide) rfl (Nat.le_of_ble_eq_true rfl) dX12_bells_238 ?_
                rintro _ τ180 ⟨x183, rfl, i181, f182, b184⟩
                have g185 : Fr MS_X12_bells_5Q AS_X12_bells_5Q σ τ180 := Fr.call (g178) f182 (by decide)
                show MW p l e _ s m args below meth c _ 14 G 0 0 241 [some (.ref (G.1 22 0)), some (.int a1), some (.int 5), some (.int a3), some (.int 3125), some (.int y5), some (.int y6), some (.int y7), some (.int x160), some (.int 125), some (.int x172), some (.int x143), some (.int 1), some (.int x156)] [.int x183] τ180
                refine m_istore (L1 := [some (.ref (G.1 22 0)), some (.int a1), some (.int 5), some (.int a3), some (.int 3125), some (.int y5), some (.int y6), some (.int y7), some (.int x160), some (.int 125), some (.int x172), some (.int x183), some (.int 1), some (.int x156)]) C dX12_bells_241 (by decide) rfl rfl ?_
                obtain ⟨x187, ex187⟩ : ∃ y : Int32, y = 1 + 1 := ⟨_, rfl⟩
                have b188 : IV x187 2 2 := by rw [ex187]; decide
                have tx187 : x187.toInt = 2 := by rw [ex187]; decide
                obtain rfl : x187 = 2 := by rw [ex187]; decide
                refine m_iinc (v := 2) (L1 := [some (.ref (G.1 22 0)), some (.int a1), some (.int 5), some (.int a3), some (.int 3125), some (.int y5), some (.int y6), some (.int y7), some (.int x160), some (.int 125), some (.int x172), some (.int x183), some (.int 2), some (.int x156)]) C dX12_bells_243 rfl (by decide) (by decide) rfl rfl ?_
                refine m_goto (tgt := 161) C dX12_bells_246 (by decide) ?_
                refine m_iload C dX12_bells_161 rfl ?_
                refine m_iload_n C dX12_bells_163 rfl rfl ?_
                refine m_icmp_ge (tgt := 249) C dX12_bells_164 (by decide) (fun c189 => ?_) (fun c189 => ?_)
                · first | exact absurd c189 (by decide) | exact absurd (by decide) c189
                · have f191 : 2 < 5 := by
                    have q : _ := c189
                    simp only [ti_nle, ti_nlt, ti_le, ti_lt, ti_eq, ti_ne, Classical.not_not, kt_2, kt_5] at q
                    omega
                  refine m_iload C dX12_bells_167 rfl ?_
                  refine m_iload_n C dX12_bells_169 rfl rfl ?_
                  refine m_idiv C dX12_bells_170 (iv_nz kc_5 (by decide)) ?_
                  refine m_topi (fun x192 ex192 => ?_)
                  have b193 : IV x192 25 25 := by rw [ex192]; decide
                  have tx192 : x192.toInt = 25 := by rw [ex192]; decide
                  obtain rfl : x192 = 25 := by rw [ex192]; decide
                  refine m_istore (L1 := [some (.ref (G.1 22 0)), some (.int a1), some (.int 5), some (.int a3), some (.int 3125), some (.int y5), some (.int y6), some (.int y7), some (.int x160), some (.int 25), some (.int x172), some (.int x183), some (.int 2), some (.int x156)]) C dX12_bells_171 (by decide) rfl rfl ?_
                  refine m_iload C dX12_bells_173 rfl ?_
                  refine m_iload C dX12_bells_175 rfl ?_
                  refine m_idiv C dX12_bells_177 (iv_nz kc_25 (by decide)) ?_
                  refine m_topi (fun x194 ex194 => ?_)
                  have b195 : IV x194 0 124 := by rw [ex194]; exact iv_div b107 kc_25 (by decide)
                  refine m_iload_n C dX12_bells_178 rfl rfl ?_
                  refine m_irem C dX12_bells_179 (iv_nz kc_5 (by decide)) ?_
                  refine m_topi (fun x196 ex196 => ?_)
                  have b197 : IV x196 0 4 := by rw [ex196]; exact iv_rem b195 kc_5 (by decide)
                  refine m_istore (L1 := [some (.ref (G.1 22 0)), some (.int a1), some (.int 5), some (.int a3), some (.int 3125), some (.int y5), some (.int y6), some (.int y7), some (.int x160), some (.int 25), some (.int x172), some (.int x183), some (.int 2), some (.int x196)]) C dX12_bells_180 (by decide) rfl rfl ?_
                  refine m_iload C dX12_bells_182 rfl ?_
                  refine m_iconst (v := 1) C dX12_bells_184 (by decide) ?_
                  refine m_iload C dX12_bells_185 rfl ?_
                  refine m_ishl C dX12_bells_187 ?_
                  refine m_topi (fun x198 ex198 => ?_)
                  have b199 : IV x198 1 16 := by rw [ex198]; exact iv_shl1 b197 (by decide)
                  refine m_ior C dX12_bells_188 ?_
                  refine m_topi (fun x200 ex200 => ?_)
                  have b201 : IV x200 0 31 := by rw [ex200]; exact iv_or 5 b161 b199 (by decide)
                  refine m_istore (L1 := [some (.ref (G.1 22 0)), some (.int a1), some (.int 5), some (.int a3), some (.int 3125), some (.int y5), some (.int y6), some (.int y7), some (.int x200), some (.int 25), some (.int x172), some (.int x183), some (.int 2), some (.int x196)]) C dX12_bells_189 (by decide) rfl rfl ?_
                  refine m_iload C dX12_bells_191 rfl ?_
                  refine m_iload C dX12_bells_193 rfl ?_
                  refine m_iconst (v := 2) C dX12_bells_195 (by decide) ?_
                  refine m_irem C dX12_bells_196 (iv_nz kc_2 (by decide)) ?_
                  refine m_topi (fun x202 ex202 => ?_)
                  have b203 : IV x202 0 0 := by rw [ex202]; decide
                  have tx202 : x202.toInt = 0 := by rw [ex202]; decide
                  obtain rfl : x202 = 0 := by rw [ex202]; decide
                  refine m_if_ne (tgt := 215) C dX12_bells_197 (by decide) (fun c204 => ?_) (fun c204 => ?_)
                  · first | exact absurd c204 (by decide) | exact absurd (by decide) c204
                  · have f206 : 0 = 0 := by
                      have q : _ := c204
                      simp only [ti_nle, ti_nlt, ti_le, ti_lt, ti_eq, ti_ne, Classical.not_not, kt_0, kt_0] at q
                      omega
                    refine m_aload_n C dX12_bells_200 rfl rfl ?_
                    refine g_22_2 C q4_118 dX12_bells_201 ?_
                    refine m_bipush (v := 40) C dX12_bells_204 (by decide) ?_
                    refine m_iload_n C dX12_bells_206 rfl rfl ?_
                    refine m_imul C dX12_bells_207 ?_
                    refine m_topi (fun x207 ex207 => ?_)
                    have tx207 : x207.toInt = 40 * a1.toInt := by rw [ex207, ti_mulv kc_40 b_a1 (by decide), kt_40]
                    have b208 : IV x207 0 280 := by rw [ex207]; exact iv_mul kc_40 b_a1 (by decide)
                    refine m_iload C dX12_bells_208 rfl ?_
                    refine m_iadd C dX12_bells_210 ?_
                    refine m_topi (fun x209 ex209 => ?_)
                    have tx209 : x209.toInt = x207.toInt + x196.toInt := by rw [ex209, ti_addv b208 b197 (by decide)]
                    have b210 : IV x209 0 284 := by rw [ex209]; exact iv_add b208 b197 (by decide)
                    refine al_25 C b210 (by decide) rfl dX12_bells_211 ?_
                    refine m_topi (fun x211 ex211 => ?_)
                    refine m_goto (tgt := 228) C dX12_bells_212 (by decide) ?_
                    refine m_iadd C dX12_bells_228 ?_
                    refine m_topi (fun x212 ex212 => ?_)
                    refine m_istore (L1 := [some (.ref (G.1 22 0)), some (.int a1), some (.int 5), some (.int a3), some (.int 3125), some (.int y5), some (.int y6), some (.int y7), some (.int x200), some (.int 25), some (.int x212), some (.int x183), some (.int 2), some (.int x196)]) C dX12_bells_229 (by decide) rfl rfl ?_
                    refine m_iload C dX12_bells_231 rfl ?_
                    refine m_iload C dX12_bells_233 rfl ?_
                    refine m_callS (n := 1) (st := [.int x183]) C (c_X12_sizeOf l G τ180 (x212) i181 ) q5_96 q5_94 q5_95 q1_7 (by decide +kernel) rfl (by decide) (by decide) rfl (Nat.le_of_ble_eq_true rfl) dX12_bells_235 ?_
                    rintro _ τ213 ⟨x216, rfl, i214, f215, b217⟩
                    have g218 : Fr MS_X12_bells_5Q AS_X12_bells_5Q σ τ213 := Fr.call (g185) f215 (by decide)
                    show MW p l e _ s m args below meth c _ 14 G 0 0 238 [some (.ref (G.1 22 0)), some (.int a1), some (.int 5), some (.int a3), some (.int 3125), some (.int y5), some (.int y6), some (.int y7), some (.int x200), some (.int 25), some (.int x212), some (.int x183), some (.int 2), some (.int x196)] [.int x216, .int x183] τ213
                    refine m_callS (n := 2) (st := []) C (c_X12_greater l G τ213 (x183) (x216) i214 ) q5_99 q5_97 q5_98 q1_7 (by decide +kernel) rfl (by decide) (by decide) rfl (Nat.le_of_ble_eq_true rfl) dX12_bells_238 ?_
                    rintro _ τ220 ⟨x223, rfl, i221, f222, b224⟩
                    have g225 : Fr MS_X12_bells_5Q AS_X12_bells_5Q σ τ220 := Fr.call (g218) f222 (by decide)
                    show MW p l e _ s m args below meth c _ 14 G 0 0 241 [some (.ref (G.1 22 0)), some (.int a1), some (.int 5), some (.int a3), some (.int 3125), some (.int y5), some (.int y6), some (.int y7), some (.int x200), some (.int 25), some (.int x212), some (.int x183), some (.int 2), some (.int x196)] [.int x223] τ220
                    refine m_istore (L1 := [some (.ref (G.1 22 0)), some (.int a1), some (.int 5), some (.int a3), some (.int 3125), some (.int y5), some (.int y6), some (.int y7), some (.int x200), some (.int 25), some (.int x212), some (.int x223), some (.int 2), some (.int x196)]) C dX12_bells_241 (by decide) rfl rfl ?_
                    obtain ⟨x227, ex227⟩ : ∃ y : Int32, y = 2 + 1 := ⟨_, rfl⟩
                    have b228 : IV x227 3 3 := by rw [ex227]; decide
                    have tx227 : x227.toInt = 3 := by rw [ex227]; decide
                    obtain rfl : x227 = 3 := by rw [ex227]; decide
                    refine m_iinc (v := 3) (L1 := [some (.ref (G.1 22 0)), some (.int a1), some (.int 5), some (.int a3), some (.int 3125), some (.int y5), some (.int y6), some (.int y7), some (.int x200), some (.int 25), some (.int x212), some (.int x223), some (.int 3), some (.int x196)]) C dX12_bells_243 rfl (by decide) (by decide) rfl rfl ?_
                    refine m_goto (tgt := 161) C dX12_bells_246 (by decide) ?_
                    refine m_iload C dX12_bells_161 rfl ?_
                    refine m_iload_n C dX12_bells_163 rfl rfl ?_
                    refine m_icmp_ge (tgt := 249) C dX12_bells_164 (by decide) (fun c229 => ?_) (fun c229 => ?_)
                    · first | exact absurd c229 (by decide) | exact absurd (by decide) c229
                    · have f231 : 3 < 5 := by
                        have q : _ := c229
                        simp only [ti_nle, ti_nlt, ti_le, ti_lt, ti_eq, ti_ne, Classical.not_not, kt_3, kt_5] at q
                        omega
                      refine m_iload C dX12_bells_167 rfl ?_
                      refine m_iload_n C dX12_bells_169 rfl rfl ?_
                      refine m_idiv C dX12_bells_170 (iv_nz kc_5 (by decide)) ?_
                      refine m_topi (fun x232 ex232 => ?_)
                      have b233 : IV x232 5 5 := by rw [ex232]; decide
                      have tx232 : x232.toInt = 5 := by rw [ex232]; decide
                      obtain rfl : x232 = 5 := by rw [ex232]; decide
                      refine m_istore (L1 := [some (.ref (G.1 22 0)), some (.int a1), some (.int 5), some (.int a3), some (.int 3125), some (.int y5), some (.int y6), some (.int y7), some (.int x200), some (.int 5), some (.int x212), some (.int x223), some (.int 3), some (.int x196)]) C dX12_bells_171 (by decide) rfl rfl ?_
                      refine m_iload C dX12_bells_173 rfl ?_
                      refine m_iload C dX12_bells_175 rfl ?_
                      refine m_idiv C dX12_bells_177 (iv_nz kc_5 (by decide)) ?_
                      refine m_topi (fun x234 ex234 => ?_)
                      have b235 : IV x234 0 624 := by rw [ex234]; exact iv_div b107 kc_5 (by decide)
                      refine m_iload_n C dX12_bells_178 rfl rfl ?_
                      refine m_irem C dX12_bells_179 (iv_nz kc_5 (by decide)) ?_
                      refine m_topi (fun x236 ex236 => ?_)
                      have b237 : IV x236 0 4 := by rw [ex236]; exact iv_rem b235 kc_5 (by decide)
                      refine m_istore (L1 := [some (.ref (G.1 22 0)), some (.int a1), some (.int 5), some (.int a3), some (.int 3125), some (.int y5), some (.int y6), some (.int y7), some (.int x200), some (.int 5), some (.int x212), some (.int x223), some (.int 3), some (.int x236)]) C dX12_bells_180 (by decide) rfl rfl ?_
                      refine m_iload C dX12_bells_182 rfl ?_
                      refine m_iconst (v := 1) C dX12_bells_184 (by decide) ?_
                      refine m_iload C dX12_bells_185 rfl ?_
                      refine m_ishl C dX12_bells_187 ?_
                      refine m_topi (fun x238 ex238 => ?_)
                      have b239 : IV x238 1 16 := by rw [ex238]; exact iv_shl1 b237 (by decide)
                      refine m_ior C dX12_bells_188 ?_
                      refine m_topi (fun x240 ex240 => ?_)
                      have b241 : IV x240 0 31 := by rw [ex240]; exact iv_or 5 b201 b239 (by decide)
                      refine m_istore (L1 := [some (.ref (G.1 22 0)), some (.int a1), some (.int 5), some (.int a3), some (.int 3125), some (.int y5), some (.int y6), some (.int y7), some (.int x240), some (.int 5), some (.int x212), some (.int x223), some (.int 3), some (.int x236)]) C dX12_bells_189 (by decide) rfl rfl ?_
                      refine m_iload C dX12_bells_191 rfl ?_
                      refine m_iload C dX12_bells_193 rfl ?_
                      refine m_iconst (v := 2) C dX12_bells_195 (by decide) ?_
                      refine m_irem C dX12_bells_196 (iv_nz kc_2 (by decide)) ?_
                      refine m_topi (fun x242 ex242 => ?_)
                      have b243 : IV x242 1 1 := by rw [ex242]; decide
                      have tx242 : x242.toInt = 1 := by rw [ex242]; decide
                      obtain rfl : x242 = 1 := by rw [ex242]; decide
                      refine m_if_ne (tgt := 215) C dX12_bells_197 (by decide) (fun c244 => ?_) (fun c244 => ?_)
                      · have f245 : 1 ≠ 0 := by
                          have q : _ := c244
                          simp only [ti_nle, ti_nlt, ti_le, ti_lt, ti_eq, ti_ne, Classical.not_not, kt_1, kt_0] at q
                          omega
                        refine m_aload_n C dX12_bells_215 rfl rfl ?_
                        refine g_22_2 C q4_118 dX12_bells_216 ?_
                        refine m_bipush (v := 40) C dX12_bells_219 (by decide) ?_
                        refine m_iload_n C dX12_bells_221 rfl rfl ?_
                        refine m_imul C dX12_bells_222 ?_
                        refine m_topi (fun x246 ex246 => ?_)
                        have tx246 : x246.toInt = 40 * a1.toInt := by rw [ex246, ti_mulv kc_40 b_a1 (by decide), kt_40]
                        have b247 : IV x246 0 280 := by rw [ex246]; exact iv_mul kc_40 b_a1 (by decide)
                        refine m_iload C dX12_bells_223 rfl ?_
                        refine m_iadd C dX12_bells_225 ?_
                        refine m_topi (fun x248 ex248 => ?_)
                        have tx248 : x248.toInt = x246.toInt + x236.toInt := by rw [ex248, ti_addv b247 b237 (by decide)]
                        have b249 : IV x248 0 284 := by rw [ex248]; exact iv_add b247 b237 (by decide)
                        refine al_25 C b249 (by decide) rfl dX12_bells_226 ?_
                        refine m_topi (fun x250 ex250 => ?_)
                        refine m_ineg C dX12_bells_227 ?_
                        refine m_topi (fun x251 ex251 => ?_)
                        refine m_iadd C dX12_bells_228 ?_
                        refine m_topi (fun x252 ex252 => ?_)
                        refine m_istore (L1 := [some (.ref (G.1 22 0)), some (.int a1), some (.int 5), some (.int a3), some (.int 3125), some (.int y5), some (.int y6), some (.int y7), some (.int x240), some (.int 5), some (.int x252), some (.int x223), some (.int 3), some (.int x236)]) C dX12_bells_229 (by decide) rfl rfl ?_
                        refine m_iload C dX12_bells_231 rfl ?_
                        refine m_iload C dX12_bells_233 rfl ?_
                        refine m_callS (n := 1) (st := [.int x223]) C (c_X12_sizeOf l G τ220 (x252) i221 ) q5_96 q5_94 q5_95 q1_7 (by decide +kernel) rfl (by decide) (by decide) rfl (Nat.le_of_ble_eq_true rfl) dX12_bells_235 ?_
                        rintro _ τ253 ⟨x256, rfl, i254, f255, b257⟩
                        have g258 : Fr MS_X12_bells_5Q AS_X12_bells_5Q σ τ253 := Fr.call (g225) f255 (by decide)
                        show MW p l e _ s m args below meth c _ 14 G 0 0 238 [some (.ref (G.1 22 0)), some (.int a1), some (.int 5), some (.int a3), some (.int 3125), some (.int y5), some (.int y6), some (.int y7), some (.int x240), some (.int 5), some (.int x252), some (.int x223), some (.int 3), some (.int x236)] [.int x256, .int x223] τ253
                        refine m_callS (n := 2) (st := []) C (c_X12_greater l G τ253 (x223) (x256) i254 ) q5_99 q5_97 q5_98 q1_7 (by decide +kernel) rfl (by decide) (by decide) rfl (Nat.le_of_ble_eq_true rfl) dX12_bells_238 ?_
                        rintro _ τ260 ⟨x263, rfl, i261, f262, b264⟩
                        have g265 : Fr MS_X12_bells_5Q AS_X12_bells_5Q σ τ260 := Fr.call (g258) f262 (by decide)
                        show MW p l e _ s m args below meth c _ 14 G 0 0 241 [some (.ref (G.1 22 0)), some (.int a1), some (.int 5), some (.int a3), some (.int 3125), some (.int y5), some (.int y6), some (.int y7), some (.int x240), some (.int 5), some (.int x252), some (.int x223), some (.int 3), some (.int x236)] [.int x263] τ260
                        refine m_istore (L1 := [some (.ref (G.1 22 0)), some (.int a1), some (.int 5), some (.int a3), some (.int 3125), some (.int y5), some (.int y6), some (.int y7), some (.int x240), some (.int 5), some (.int x252), some (.int x263), some (.int 3), some (.int x236)]) C dX12_bells_241 (by decide) rfl rfl ?_
                        obtain ⟨x267, ex267⟩ : ∃ y : Int32, y = 3 + 1 := ⟨_, rfl⟩
                        have b268 : IV x267 4 4 := by rw [ex267]; decide
                        have tx267 : x267.toInt = 4 := by rw [ex267]; decide
                        obtain rfl : x267 = 4 := by rw [ex267]; decide
                        refine m_iinc (v := 4) (L1 := [some (.ref (G.1 22 0)), some (.int a1), some (.int 5), some (.int a3), some (.int 3125), some (.int y5), some (.int y6), some (.int y7), some (.int x240), some (.int 5), some (.int x252), some (.int x263), some (.int 4), some (.int x236)]) C dX12_bells_243 rfl (by decide) (by decide) rfl rfl ?_
                        refine m_goto (tgt := 161) C dX12_bells_246 (by decide) ?_
                        refine m_iload C dX12_bells_161 rfl ?_
                        refine m_iload_n C dX12_bells_163 rfl rfl ?_
                        refine m_icmp_ge (tgt := 249) C dX12_bells_164 (by decide) (fun c269 => ?_) (fun c269 => ?_)
                        · first | exact absurd c269 (by decide) | exact absurd (by decide) c269
                        · have f271 : 4 < 5 := by
                            have q : _ := c269
                            simp only [ti_nle, ti_nlt, ti_le, ti_lt, ti_eq, ti_ne, Classical.not_not, kt_4, kt_5] at q
                            omega
                          refine m_iload C dX12_bells_167 rfl ?_
                          refine m_iload_n C dX12_bells_169 rfl rfl ?_
                          refine m_idiv C dX12_bells_170 (iv_nz kc_5 (by decide)) ?_
                          refine m_topi (fun x272 ex272 => ?_)
                          have b273 : IV x272 1 1 := by rw [ex272]; decide
                          have tx272 : x272.toInt = 1 := by rw [ex272]; decide
                          obtain rfl : x272 = 1 := by rw [ex272]; decide
                          refine m_istore (L1 := [some (.ref (G.1 22 0)), some (.int a1), some (.int 5), some (.int a3), some (.int 3125), some (.int y5), some (.int y6), some (.int y7), some (.int x240), some (.int 1), some (.int x252), some (.int x263), some (.int 4), some (.int x236)]) C dX12_bells_171 (by decide) rfl rfl ?_
                          refine m_iload C dX12_bells_173 rfl ?_
                          refine m_iload C dX12_bells_175 rfl ?_
                          refine m_idiv C dX12_bells_177 (iv_nz kc_1 (by decide)) ?_
                          refine m_topi (fun x274 ex274 => ?_)
                          have b275 : IV x274 0 3124 := by rw [ex274]; exact iv_div b107 kc_1 (by decide)
                          refine m_iload_n C dX12_bells_178 rfl rfl ?_
                          refine m_irem C dX12_bells_179 (iv_nz kc_5 (by decide)) ?_
                          refine m_topi (fun x276 ex276 => ?_)
                          have b277 : IV x276 0 4 := by rw [ex276]; exact iv_rem b275 kc_5 (by decide)
                          refine m_istore (L1 := [some (.ref (G.1 22 0)), some (.int a1), some (.int 5), some (.int a3), some (.int 3125), some (.int y5), some (.int y6), some (.int y7), some (.int x240), some (.int 1), some (.int x252), some (.int x263), some (.int 4), some (.int x276)]) C dX12_bells_180 (by decide) rfl rfl ?_
                          refine m_iload C dX12_bells_182 rfl ?_
                          refine m_iconst (v := 1) C dX12_bells_184 (by decide) ?_
                          refine m_iload C dX12_bells_185 rfl ?_
                          refine m_ishl C dX12_bells_187 ?_
                          refine m_topi (fun x278 ex278 => ?_)
                          have b279 : IV x278 1 16 := by rw [ex278]; exact iv_shl1 b277 (by decide)
                          refine m_ior C dX12_bells_188 ?_
                          refine m_topi (fun x280 ex280 => ?_)
                          have b281 : IV x280 0 31 := by rw [ex280]; exact iv_or 5 b241 b279 (by decide)
                          refine m_istore (L1 := [some (.ref (G.1 22 0)), some (.int a1), some (.int 5), some (.int a3), some (.int 3125), some (.int y5), some (.int y6), some (.int y7), some (.int x280), some (.int 1), some (.int x252), some (.int x263), some (.int 4), some (.int x276)]) C dX12_bells_189 (by decide) rfl rfl ?_
                          refine m_iload C dX12_bells_191 rfl ?_
                          refine m_iload C dX12_bells_193 rfl ?_
                          refine m_iconst (v := 2) C dX12_bells_195 (by decide) ?_
                          refine m_irem C dX12_bells_196 (iv_nz kc_2 (by decide)) ?_
                          refine m_topi (fun x282 ex282 => ?_)
                          have b283 : IV x282 0 0 := by rw [ex282]; decide
                          have tx282 : x282.toInt = 0 := by rw [ex282]; decide
                          obtain rfl : x282 = 0 := by rw [ex282]; decide
                          refine m_if_ne (tgt := 215) C dX12_bells_197 (by decide) (fun c284 => ?_) (fun c284 => ?_)
                          · first | exact absurd c284 (by decide) | exact absurd (by decide) c284
                          · have f286 : 0 = 0 := by
                              have q : _ := c284
                              simp only [ti_nle, ti_nlt, ti_le, ti_lt, ti_eq, ti_ne, Classical.not_not, kt_0, kt_0] at q
                              omega
                            refine m_aload_n C dX12_bells_200 rfl rfl ?_
                            refine g_22_2 C q4_118 dX12_bells_201 ?_
                            refine m_bipush (v := 40) C dX12_bells_204 (by decide) ?_
                            refine m_iload_n C dX12_bells_206 rfl rfl ?_
                            refine m_imul C dX12_bells_207 ?_
                            refine m_topi (fun x287 ex287 => ?_)
                            have tx287 : x287.toInt = 40 * a1.toInt := by rw [ex287, ti_mulv kc_40 b_a1 (by decide), kt_40]
                            have b288 : IV x287 0 280 := by rw [ex287]; exact iv_mul kc_40 b_a1 (by decide)
                            refine m_iload C dX12_bells_208 rfl ?_
                            refine m_iadd C dX12_bells_210 ?_
                            refine m_topi (fun x289 ex289 => ?_)
                            have tx289 : x289.toInt = x287.toInt + x276.toInt := by rw [ex289, ti_addv b288 b277 (by decide)]
                            have b290 : IV x289 0 284 := by rw [ex289]; exact iv_add b288 b277 (by decide)
                            refine al_25 C b290 (by decide) rfl dX12_bells_211 ?_
                            refine m_topi (fun x291 ex291 => ?_)
                            refine m_goto (tgt := 228) C dX12_bells_212 (by decide) ?_
                            refine m_iadd C dX12_bells_228 ?_
                            refine m_topi (fun x292 ex292 => ?_)
                            refine m_istore (L1 := [some (.ref (G.1 22 0)), some (.int a1), some (.int 5), some (.int a3), some (.int 3125), some (.int y5), some (.int y6), some (.int y7), some (.int x280), some (.int 1), some (.int x292), some (.int x263), some (.int 4), some (.int x276)]) C dX12_bells_229 (by decide) rfl rfl ?_
                            refine m_iload C dX12_bells_231 rfl ?_
                            refine m_iload C dX12_bells_233 rfl ?_
                            refine m_callS (n := 1) (st := [.int x263]) C (c_X12_sizeOf l G τ260 (x292) i261 ) q5_96 q5_94 q5_95 q1_7 (by decide +kernel) rfl (by decide) (by decide) rfl (Nat.le_of_ble_eq_true rfl) dX12_bells_235 ?_
                            rintro _ τ293 ⟨x296, rfl, i294, f295, b297⟩
                            have g298 : Fr MS_X12_bells_5Q AS_X12_bells_5Q σ τ293 := Fr.call (g265) f295 (by decide)
                            show MW p l e _ s m args below meth c _ 14 G 0 0 238 [some (.ref (G.1 22 0)), some (.int a1), some (.int 5), some (.int a3), some (.int 3125), some (.int y5), some (.int y6), some (.int y7), some (.int x280), some (.int 1), some (.int x292), some (.int x263), some (.int 4), some (.int x276)] [.int x296, .int x263] τ293
                            refine m_callS (n := 2) (st := []) C (c_X12_greater l G τ293 (x263) (x296) i294 ) q5_99 q5_97 q5_98 q1_7 (by decide +kernel) rfl (by decide) (by decide) rfl (Nat.le_of_ble_eq_true rfl) dX12_bells_238 ?_
                            rintro _ τ300 ⟨x303, rfl, i301, f302, b304⟩
                            have g305 : Fr MS_X12_bells_5Q AS_X12_bells_5Q σ τ300 := Fr.call (g298) f302 (by decide)
                            show MW p l e _ s m args below meth c _ 14 G 0 0 241 [some (.ref (G.1 22 0)), some (.int a1), some (.int 5), some (.int a3), some (.int 3125), some (.int y5), some (.int y6), some (.int y7), some (.int x280), some (.int 1), some (.int x292), some (.int x263), some (.int 4), some (.int x276)] [.int x303] τ300
                            refine m_istore (L1 := [some (.ref (G.1 22 0)), some (.int a1), some (.int 5), some (.int a3), some (.int 3125), some (.int y5), some (.int y6), some (.int y7), some (.int x280), some (.int 1), some (.int x292), some (.int x303), some (.int 4), some (.int x276)]) C dX12_bells_241 (by decide) rfl rfl ?_
                            obtain ⟨x307, ex307⟩ : ∃ y : Int32, y = 4 + 1 := ⟨_, rfl⟩
                            have b308 : IV x307 5 5 := by rw [ex307]; decide
                            have tx307 : x307.toInt = 5 := by rw [ex307]; decide
                            obtain rfl : x307 = 5 := by rw [ex307]; decide
                            refine m_iinc (v := 5) (L1 := [some (.ref (G.1 22 0)), some (.int a1), some (.int 5), some (.int a3), some (.int 3125), some (.int y5), some (.int y6), some (.int y7), some (.int x280), some (.int 1), some (.int x292), some (.int x303), some (.int 5), some (.int x276)]) C dX12_bells_243 rfl (by decide) (by decide) rfl rfl ?_
                            refine m_goto (tgt := 161) C dX12_bells_246 (by decide) ?_
                            refine m_iload C dX12_bells_161 rfl ?_
                            refine m_iload_n C dX12_bells_163 rfl rfl ?_
                            refine m_icmp_ge (tgt := 249) C dX12_bells_164 (by decide) (fun c309 => ?_) (fun c309 => ?_)
                            · have f310 : 5 ≤ 5 := by
                                have q : _ := c309
                                simp only [ti_nle, ti_nlt, ti_le, ti_lt, ti_eq, ti_ne, Classical.not_not, kt_5, kt_5] at q
                                omega
                              refine m_iload C dX12_bells_249 rfl ?_
                              refine m_iconst (v := 1) C dX12_bells_251 (by decide) ?_
                              refine m_iload_n C dX12_bells_252 rfl rfl ?_
                              refine m_ishl C dX12_bells_253 ?_
                              refine m_topi (fun x311 ex311 => ?_)
                              have b312 : IV x311 32 32 := by rw [ex311]; decide
                              have tx311 : x311.toInt = 32 := by rw [ex311]; decide
                              obtain rfl : x311 = 32 := by rw [ex311]; decide
                              refine m_iconst (v := 1) C dX12_bells_254 (by decide) ?_
                              refine m_isub C dX12_bells_255 ?_
                              refine m_topi (fun x313 ex313 => ?_)
                              have b314 : IV x313 31 31 := by rw [ex313]; decide
                              have tx313 : x313.toInt = 31 := by rw [ex313]; decide
                              obtain rfl : x313 = 31 := by rw [ex313]; decide
                              refine m_icmp_ne (tgt := 279) C dX12_bells_256 (by decide) (fun c315 => ?_) (fun c315 => ?_)
                              · have f316 : x280.toInt ≠ 31 := by
                                  have q : _ := c315
                                  simp only [ti_nle, ti_nlt, ti_le, ti_lt, ti_eq, ti_ne, Classical.not_not, kt_31] at q
                                  omega
                                have b317 : IV x280 0 30 := ⟨by have q1 := b281; have q2 := kc_31; omega, by have q1 := b281; have q2 := kc_31; omega⟩
                                obtain ⟨x318, ex318⟩ : ∃ y : Int32, y = y7 + 1 := ⟨_, rfl⟩
                                have tx318 : x318.toInt = y7.toInt + 1 := by rw [ex318, ti_addv b107 kc_1 (by decide), kt_1]
                                have b319 : IV x318 1 3125 := by rw [ex318]; exact iv_add b107 kc_1 (by decide)
                                refine m_iinc (v := x318) (L1 := [some (.ref (G.1 22 0)), some (.int a1), some (.int 5), some (.int a3), some (.int 3125), some (.int y5), some (.int y6), some (.int x318), some (.int x280), some (.int 1), some (.int x292), some (.int x303), some (.int 5), some (.int x276)]) C dX12_bells_279 rfl (by rw [ex318]; rfl) (by decide) rfl rfl ?_
                                refine m_goto (tgt := 138) C dX12_bells_282 (by decide) ?_
                                refine m_sub (L1 := [some (.ref (G.1 22 0)), some (.int a1), some (.int 5), some (.int a3), some (.int 3125), some (.int y5), some (.int y6), some (.int x318), none, none, none, none, none, none]) ⟨rfl, ⟨rfl, ⟨rfl, ⟨rfl, ⟨rfl, ⟨rfl, ⟨rfl, ⟨rfl, trivial⟩⟩⟩⟩⟩⟩⟩⟩ ?_
                                have q320 : (gV τ300 22 0 8).toInt = (gV τ 22 0 8).toInt := congrArg Int32.toInt (show (gV τ300 22 0 8) = (gV τ 22 0 8) from (show gV τ300 22 0 8 = (gV τ 22 0 8) from (f302.1 22 0 (8) (by decide) (by decide)).trans (show gV τ293 22 0 8 = (gV τ 22 0 8) from (f295.1 22 0 (8) (by decide) (by decide)).trans (show gV τ260 22 0 8 = (gV τ 22 0 8) from (f262.1 22 0 (8) (by decide) (by decide)).trans (show gV τ253 22 0 8 = (gV τ 22 0 8) from (f255.1 22 0 (8) (by decide) (by decide)).trans (show gV τ220 22 0 8 = (gV τ 22 0 8) from (f222.1 22 0 (8) (by decide) (by decide)).trans (show gV τ213 22 0 8 = (gV τ 22 0 8) from (f215.1 22 0 (8) (by decide) (by decide)).trans (show gV τ180 22 0 8 = (gV τ 22 0 8) from (f182.1 22 0 (8) (by decide) (by decide)).trans (show gV τ173 22 0 8 = (gV τ 22 0 8) from (f175.1 22 0 (8) (by decide) (by decide)).trans (show gV τ140 22 0 8 = (gV τ 22 0 8) from (f142.1 22 0 (8) (by decide) (by decide)).trans (show gV τ133 22 0 8 = (gV τ 22 0 8) from (f135.1 22 0 (8) (by decide) (by decide)).trans rfl)))))))))))
                                have q321 : (gV τ300 26 0 (a1.toInt.toNat)).toInt = (gV τ 26 0 (a1.toInt.toNat)).toInt := congrArg Int32.toInt (show (gV τ300 26 0 (a1.toInt.toNat)) = (gV τ 26 0 (a1.toInt.toNat)) from (show gV τ300 26 0 (a1.toInt.toNat) = (gV τ 26 0 (a1.toInt.toNat)) from (f302.1 26 0 ((a1.toInt.toNat)) (by simp) (by decide)).trans (show gV τ293 26 0 (a1.toInt.toNat) = (gV τ 26 0 (a1.toInt.toNat)) from (f295.1 26 0 ((a1.toInt.toNat)) (by simp) (by decide)).trans (show gV τ260 26 0 (a1.toInt.toNat) = (gV τ 26 0 (a1.toInt.toNat)) from (f262.1 26 0 ((a1.toInt.toNat)) (by simp) (by decide)).trans (show gV τ253 26 0 (a1.toInt.toNat) = (gV τ 26 0 (a1.toInt.toNat)) from (f255.1 26 0 ((a1.toInt.toNat)) (by simp) (by decide)).trans (show gV τ220 26 0 (a1.toInt.toNat) = (gV τ 26 0 (a1.toInt.toNat)) from (f222.1 26 0 ((a1.toInt.toNat)) (by simp) (by decide)).trans (show gV τ213 26 0 (a1.toInt.toNat) = (gV τ 26 0 (a1.toInt.toNat)) from (f215.1 26 0 ((a1.toInt.toNat)) (by simp) (by decide)).trans (show gV τ180 26 0 (a1.toInt.toNat) = (gV τ 26 0 (a1.toInt.toNat)) from (f182.1 26 0 ((a1.toInt.toNat)) (by simp) (by decide)).trans (show gV τ173 26 0 (a1.toInt.toNat) = (gV τ 26 0 (a1.toInt.toNat)) from (f175.1 26 0 ((a1.toInt.toNat)) (by simp) (by decide)).trans (show gV τ140 26 0 (a1.toInt.toNat) = (gV τ 26 0 (a1.toInt.toNat)) from (f142.1 26 0 ((a1.toInt.toNat)) (by simp) (by decide)).trans (show gV τ133 26 0 (a1.toInt.toNat) = (gV τ 26 0 (a1.toInt.toNat)) from (f135.1 26 0 ((a1.toInt.toNat)) (by simp) (by decide)).trans rfl)))))))))))
                                have q322 : (gV τ300 27 0 (a1.toInt.toNat)).toInt = (gV τ 27 0 (a1.toInt.toNat)).toInt := congrArg Int32.toInt (show (gV τ300 27 0 (a1.toInt.toNat)) = (gV τ 27 0 (a1.toInt.toNat)) from (show gV τ300 27 0 (a1.toInt.toNat) = (gV τ 27 0 (a1.toInt.toNat)) from (f302.1 27 0 ((a1.toInt.toNat)) (by simp) (by decide)).trans (show gV τ293 27 0 (a1.toInt.toNat) = (gV τ 27 0 (a1.toInt.toNat)) from (f295.1 27 0 ((a1.toInt.toNat)) (by simp) (by decide)).trans (show gV τ260 27 0 (a1.toInt.toNat) = (gV τ 27 0 (a1.toInt.toNat)) from (f262.1 27 0 ((a1.toInt.toNat)) (by simp) (by decide)).trans (show gV τ253 27 0 (a1.toInt.toNat) = (gV τ 27 0 (a1.toInt.toNat)) from (f255.1 27 0 ((a1.toInt.toNat)) (by simp) (by decide)).trans (show gV τ220 27 0 (a1.toInt.toNat) = (gV τ 27 0 (a1.toInt.toNat)) from (f222.1 27 0 ((a1.toInt.toNat)) (by simp) (by decide)).trans (show gV τ213 27 0 (a1.toInt.toNat) = (gV τ 27 0 (a1.toInt.toNat)) from (f215.1 27 0 ((a1.toInt.toNat)) (by simp) (by decide)).trans (show gV τ180 27 0 (a1.toInt.toNat) = (gV τ 27 0 (a1.toInt.toNat)) from (f182.1 27 0 ((a1.toInt.toNat)) (by simp) (by decide)).trans (show gV τ173 27 0 (a1.toInt.toNat) = (gV τ 27 0 (a1.toInt.toNat)) from (f175.1 27 0 ((a1.toInt.toNat)) (by simp) (by decide)).trans (show gV τ140 27 0 (a1.toInt.toNat) = (gV τ 27 0 (a1.toInt.toNat)) from (f142.1 27 0 ((a1.toInt.toNat)) (by simp) (by decide)).trans (show gV τ133 27 0 (a1.toInt.toNat) = (gV τ 27 0 (a1.toInt.toNat)) from (f135.1 27 0 ((a1.toInt.toNat)) (by simp) (by decide)).trans rfl)))))))))))
                                exact ih138 τ300 y5 y6 x318 i301 g305 b_a1 b_a3 b_y5 b_y6 (iv_wk b319 (by decide)) (by omega) (by omega) nL (by have q := hm138; omega)
                              · have f323 : x280.toInt = 31 := by
                                  have q : _ := c315
                                  simp only [ti_nle, ti_nlt, ti_le, ti_lt, ti_eq, ti_ne, Classical.not_not, kt_31] at q
                                  omega
                                have b324 : IV x280 31 31 := ⟨by have q1 := b281; have q2 := kc_31; omega, by have q1 := b281; have q2 := kc_31; omega⟩
                                refine m_iload C dX12_bells_259 rfl ?_
                                refine m_if_lt (tgt := 271) C dX12_bells_261 (by decide) (fun c325 => ?_) (fun c325 => ?_)
                                · have f326 : y5.toInt < 0 := by
                                    have q : _ := c325
                                    simp only [ti_nle, ti_nlt, ti_le, ti_lt, ti_eq, ti_ne, Classical.not_not, kt_0] at q
                                    omega
                                  have b327 : IV y5 (-1) (-1) := ⟨by have q1 := b_y5; have q2 := kc_0; omega, by have q1 := b_y5; have q2 := kc_0; omega⟩
                                  refine m_iload C dX12_bells_271 rfl ?_
                                  refine m_istore (L1 := [some (.ref (G.1 22 0)), some (.int a1), some (.int 5), some (.int a3), some (.int 3125), some (.int y7), some (.int y6), some (.int y7), some (.int x280), some (.int 1), some (.int x292), some (.int x303), some (.int 5), some (.int x276)]) C dX12_bells_273 (by decide) rfl rfl ?_
                                  refine m_iload C dX12_bells_275 rfl ?_
                                  refine m_istore (L1 := [some (.ref (G.1 22 0)), some (.int a1), some (.int 5), some (.int a3), some (.int 3125), some (.int y7), some (.int x303), some (.int y7), some (.int x280), some (.int 1), some (.int x292), some (.int x303), some (.int 5), some (.int x276)]) C dX12_bells_277 (by decide) rfl rfl ?_
                                  obtain ⟨x328, ex328⟩ : ∃ y : Int32, y = y7 + 1 := ⟨_, rfl⟩
                                  have tx328 : x328.toInt = y7.toInt + 1 := by rw [ex328, ti_addv b107 kc_1 (by decide), kt_1]
                                  have b329 : IV x328 1 3125 := by rw [ex328]; exact iv_add b107 kc_1 (by decide)
                                  refine m_iinc (v := x328) (L1 := [some (.ref (G.1 22 0)), some (.int a1), some (.int 5), some (.int a3), some (.int 3125), some (.int y7), some (.int x303), some (.int x328), some (.int x280), some (.int 1), some (.int x292), some (.int x303), some (.int 5), some (.int x276)]) C dX12_bells_279 rfl (by rw [ex328]; rfl) (by decide) rfl rfl ?_
                                  refine m_goto (tgt := 138) C dX12_bells_282 (by decide) ?_
                                  refine m_sub (L1 := [some (.ref (G.1 22 0)), some (.int a1), some (.int 5), some (.int a3), some (.int 3125), some (.int y7), some (.int x303), some (.int x328), none, none, none, none, none, none]) ⟨rfl, ⟨rfl, ⟨rfl, ⟨rfl, ⟨rfl, ⟨rfl, ⟨rfl, ⟨rfl, trivial⟩⟩⟩⟩⟩⟩⟩⟩ ?_
                                  have q330 : (gV τ300 22 0 8).toInt = (gV τ 22 0 8).toInt := congrArg Int32.toInt (show (gV τ300 22 0 8) = (gV τ 22 0 8) from (show gV τ300 22 0 8 = (gV τ 22 0 8) from (f302.1 22 0 (8) (by decide) (by decide)).trans (show gV τ293 22 0 8 = (gV τ 22 0 8) from (f295.1 22 0 (8) (by decide) (by decide)).trans (show gV τ260 22 0 8 = (gV τ 22 0 8) from (f262.1 22 0 (8) (by decide) (by decide)).trans (show gV τ253 22 0 8 = (gV τ 22 0 8) from (f255.1 22 0 (8) (by decide) (by decide)).trans (show gV τ220 22 0 8 = (gV τ 22 0 8) from (f222.1 22 0 (8) (by decide) (by decide)).trans (show gV τ213 22 0 8 = (gV τ 22 0 8) from (f215.1 22 0 (8) (by decide) (by decide)).trans (show gV τ180 22 0 8 = (gV τ 22 0 8) from (f182.1 22 0 (8) (by decide) (by decide)).trans (show gV τ173 22 0 8 = (gV τ 22 0 8) from (f175.1 22 0 (8) (by decide) (by decide)).trans (show gV τ140 22 0 8 = (gV τ 22 0 8) from (f142.1 22 0 (8) (by decide) (by decide)).trans (show gV τ133 22 0 8 = (gV τ 22 0 8) from (f135.1 22 0 (8) (by decide) (by decide)).trans rfl)))))))))))
                                  have q331 : (gV τ300 26 0 (a1.toInt.toNat)).toInt = (gV τ 26 0 (a1.toInt.toNat)).toInt := congrArg Int32.toInt (show (gV τ300 26 0 (a1.toInt.toNat)) = (gV τ 26 0 (a1.toInt.toNat)) from (show gV τ300 26 0 (a1.toInt.toNat) = (gV τ 26 0 (a1.toInt.toNat)) from (f302.1 26 0 ((a1.toInt.toNat)) (by simp) (by decide)).trans (show gV τ293 26 0 (a1.toInt.toNat) = (gV τ 26 0 (a1.toInt.toNat)) from (f295.1 26 0 ((a1.toInt.toNat)) (by simp) (by decide)).trans (show gV τ260 26 0 (a1.toInt.toNat) = (gV τ 26 0 (a1.toInt.toNat)) from (f262.1 26 0 ((a1.toInt.toNat)) (by simp) (by decide)).trans (show gV τ253 26 0 (a1.toInt.toNat) = (gV τ 26 0 (a1.toInt.toNat)) from (f255.1 26 0 ((a1.toInt.toNat)) (by simp) (by decide)).trans (show gV τ220 26 0 (a1.toInt.toNat) = (gV τ 26 0 (a1.toInt.toNat)) from (f222.1 26 0 ((a1.toInt.toNat)) (by simp) (by decide)).trans (show gV τ213 26 0 (a1.toInt.toNat) = (gV τ 26 0 (a1.toInt.toNat)) from (f215.1 26 0 ((a1.toInt.toNat)) (by simp) (by decide)).trans (show gV τ180 26 0 (a1.toInt.toNat) = (gV τ 26 0 (a1.toInt.toNat)) from (f182.1 26 0 ((a1.toInt.toNat)) (by simp) (by decide)).trans (show gV τ173 26 0 (a1.toInt.toNat) = (gV τ 26 0 (a1.toInt.toNat)) from (f175.1 26 0 ((a1.toInt.toNat)) (by simp) (by decide)).trans (show gV τ140 26 0 (a1.toInt.toNat) = (gV τ 26 0 (a1.toInt.toNat)) from (f142.1 26 0 ((a1.toInt.toNat)) (by simp) (by decide)).trans (show gV τ133 26 0 (a1.toInt.toNat) = (gV τ 26 0 (a1.toInt.toNat)) from (f135.1 26 0 ((a1.toInt.toNat)) (by simp) (by decide)).trans rfl)))))))))))
                                  have q332 : (gV τ300 27 0 (a1.toInt.toNat)).toInt = (gV τ 27 0 (a1.toInt.toNat)).toInt := congrArg Int32.toInt (show (gV τ300 27 0 (a1.toInt.toNat)) = (gV τ 27 0 (a1.toInt.toNat)) from (show gV τ300 27 0 (a1.toInt.toNat) = (gV τ 27 0 (a1.toInt.toNat)) from (f302.1 27 0 ((a1.toInt.toNat)) (by simp) (by decide)).trans (show gV τ293 27 0 (a1.toInt.toNat) = (gV τ 27 0 (a1.toInt.toNat)) from (f295.1 27 0 ((a1.toInt.toNat)) (by simp) (by decide)).trans (show gV τ260 27 0 (a1.toInt.toNat) = (gV τ 27 0 (a1.toInt.toNat)) from (f262.1 27 0 ((a1.toInt.toNat)) (by simp) (by decide)).trans (show gV τ253 27 0 (a1.toInt.toNat) = (gV τ 27 0 (a1.toInt.toNat)) from (f255.1 27 0 ((a1.toInt.toNat)) (by simp) (by decide)).trans (show gV τ220 27 0 (a1.toInt.toNat) = (gV τ 27 0 (a1.toInt.toNat)) from (f222.1 27 0 ((a1.toInt.toNat)) (by simp) (by decide)).trans (show gV τ213 27 0 (a1.toInt.toNat) = (gV τ 27 0 (a1.toInt.toNat)) from (f215.1 27 0 ((a1.toInt.toNat)) (by simp) (by decide)).trans (show gV τ180 27 0 (a1.toInt.toNat) = (gV τ 27 0 (a1.toInt.toNat)) from (f182.1 27 0 ((a1.toInt.toNat)) (by simp) (by decide)).trans (show gV τ173 27 0 (a1.toInt.toNat) = (gV τ 27 0 (a1.toInt.toNat)) from (f175.1 27 0 ((a1.toInt.toNat)) (by simp) (by decide)).trans (show gV τ140 27 0 (a1.toInt.toNat) = (gV τ 27 0 (a1.toInt.toNat)) from (f142.1 27 0 ((a1.toInt.toNat)) (by simp) (by decide)).trans (show gV τ133 27 0 (a1.toInt.toNat) = (gV τ 27 0 (a1.toInt.toNat)) from (f135.1 27 0 ((a1.toInt.toNat)) (by simp) (by decide)).trans rfl)))))))))))
                                  exact ih138 τ300 y7 x303 x328 i301 g305 b_a1 b_a3 (iv_wk b107 (by decide)) b304 (iv_wk b329 (by decide)) (by omega) (by omega) nL (by have q := hm138; omega)
                                · have f333 : 0 ≤ y5.toInt := by
                                    have q : _ := c325
                                    simp only [ti_nle, ti_nlt, ti_le, ti_lt, ti_eq, ti_ne, Classical.not_not, kt_0] at q
                                    omega
                                  have b334 : IV y5 0 10000 := ⟨by have q1 := kc_0; have q2 := b_y5; omega, by have q1 := kc_0; have q2 := b_y5; omega⟩
                                  refine m_iload C dX12_bells_264 rfl ?_
                                  refine m_iload C dX12_bells_266 rfl ?_
                                  refine m_icmp_ge (tgt := 279) C dX12_bells_268 (by decide) (fun c335 => ?_) (fun c335 => ?_)
                                  · have f336 : y6.toInt ≤ x303.toInt := by
                                      have q : _ := c335
                                      simp only [ti_nle, ti_nlt, ti_le, ti_lt, ti_eq, ti_ne, Classical.not_not] at q
                                      omega
                                    obtain ⟨x337, ex337⟩ : ∃ y : Int32, y = y7 + 1 := ⟨_, rfl⟩
                                    have tx337 : x337.toInt = y7.toInt + 1 := by rw [ex337, ti_addv b107 kc_1 (by decide), kt_1]
                                    have b338 : IV x337 1 3125 := by rw [ex337]; exact iv_add b107 kc_1 (by decide)
                                    refine m_iinc (v := x337) (L1 := [some (.ref (G.1 22 0)), some (.int a1), some (.int 5), some (.int a3), some (.int 3125), some (.int y5), some (.int y6), some (.int x337), some (.int x280), some (.int 1), some (.int x292), some (.int x303), some (.int 5), some (.int x276)]) C dX12_bells_279 rfl (by rw [ex337]; rfl) (by decide) rfl rfl ?_
                                    refine m_goto (tgt := 138) C dX12_bells_282 (by decide) ?_
                                    refine m_sub (L1 := [some (.ref (G.1 22 0)), some (.int a1), some (.int 5), some (.int a3), some (.int 3125), some (.int y5), some (.int y6), some (.int x337), none, none, none, none, none, none]) ⟨rfl, ⟨rfl, ⟨rfl, ⟨rfl, ⟨rfl, ⟨rfl, ⟨rfl, ⟨rfl, trivial⟩⟩⟩⟩⟩⟩⟩⟩ ?_
                                    have q339 : (gV τ300 22 0 8).toInt = (gV τ 22 0 8).toInt := congrArg Int32.toInt (show (gV τ300 22 0 8) = (gV τ 22 0 8) from (show gV τ300 22 0 8 = (gV τ 22 0 8) from (f302.1 22 0 (8) (by decide) (by decide)).trans (show gV τ293 22 0 8 = (gV τ 22 0 8) from (f295.1 22 0 (8) (by decide) (by decide)).trans (show gV τ260 22 0 8 = (gV τ 22 0 8) from (f262.1 22 0 (8) (by decide) (by decide)).trans (show gV τ253 22 0 8 = (gV τ 22 0 8) from (f255.1 22 0 (8) (by decide) (by decide)).trans (show gV τ220 22 0 8 = (gV τ 22 0 8) from (f222.1 22 0 (8) (by decide) (by decide)).trans (show gV τ213 22 0 8 = (gV τ 22 0 8) from (f215.1 22 0 (8) (by decide) (by decide)).trans (show gV τ180 22 0 8 = (gV τ 22 0 8) from (f182.1 22 0 (8) (by decide) (by decide)).trans (show gV τ173 22 0 8 = (gV τ 22 0 8) from (f175.1 22 0 (8) (by decide) (by decide)).trans (show gV τ140 22 0 8 = (gV τ 22 0 8) from (f142.1 22 0 (8) (by decide) (by decide)).trans (show gV τ133 22 0 8 = (gV τ 22 0 8) from (f135.1 22 0 (8) (by decide) (by decide)).trans rfl)))))))))))
                                    have q340 : (gV τ300 26 0 (a1.toInt.toNat)).toInt = (gV τ 26 0 (a1.toInt.toNat)).toInt := congrArg Int32.toInt (show (gV τ300 26 0 (a1.toInt.toNat)) = (gV τ 26 0 (a1.toInt.toNat)) from (show gV τ300 26 0 (a1.toInt.toNat) = (gV τ 26 0 (a1.toInt.toNat)) from (f302.1 26 0 ((a1.toInt.toNat)) (by simp) (by decide)).trans (show gV τ293 26 0 (a1.toInt.toNat) = (gV τ 26 0 (a1.toInt.toNat)) from (f295.1 26 0 ((a1.toInt.toNat)) (by simp) (by decide)).trans (show gV τ260 26 0 (a1.toInt.toNat) = (gV τ 26 0 (a1.toInt.toNat)) from (f262.1 26 0 ((a1.toInt.toNat)) (by simp) (by decide)).trans (show gV τ253 26 0 (a1.toInt.toNat) = (gV τ 26 0 (a1.toInt.toNat)) from (f255.1 26 0 ((a1.toInt.toNat)) (by simp) (by decide)).trans (show gV τ220 26 0 (a1.toInt.toNat) = (gV τ 26 0 (a1.toInt.toNat)) from (f222.1 26 0 ((a1.toInt.toNat)) (by simp) (by decide)).trans (show gV τ213 26 0 (a1.toInt.toNat) = (gV τ 26 0 (a1.toInt.toNat)) from (f215.1 26 0 ((a1.toInt.toNat)) (by simp) (by decide)).trans (show gV τ180 26 0 (a1.toInt.toNat) = (gV τ 26 0 (a1.toInt.toNat)) from (f182.1 26 0 ((a1.toInt.toNat)) (by simp) (by decide)).trans (show gV τ173 26 0 (a1.toInt.toNat) = (gV τ 26 0 (a1.toInt.toNat)) from (f175.1 26 0 ((a1.toInt.toNat)) (by simp) (by decide)).trans (show gV τ140 26 0 (a1.toInt.toNat) = (gV τ 26 0 (a1.toInt.toNat)) from (f142.1 26 0 ((a1.toInt.toNat)) (by simp) (by decide)).trans (show gV τ133 26 0 (a1.toInt.toNat) = (gV τ 26 0 (a1.toInt.toNat)) from (f135.1 26 0 ((a1.toInt.toNat)) (by simp) (by decide)).trans rfl)))))))))))
                                    have q341 : (gV τ300 27 0 (a1.toInt.toNat)).toInt = (gV τ 27 0 (a1.toInt.toNat)).toInt := congrArg Int32.toInt (show (gV τ300 27 0 (a1.toInt.toNat)) = (gV τ 27 0 (a1.toInt.toNat)) from (show gV τ300 27 0 (a1.toInt.toNat) = (gV τ 27 0 (a1.toInt.toNat)) from (f302.1 27 0 ((a1.toInt.toNat)) (by simp) (by decide)).trans (show gV τ293 27 0 (a1.toInt.toNat) = (gV τ 27 0 (a1.toInt.toNat)) from (f295.1 27 0 ((a1.toInt.toNat)) (by simp) (by decide)).trans (show gV τ260 27 0 (a1.toInt.toNat) = (gV τ 27 0 (a1.toInt.toNat)) from (f262.1 27 0 ((a1.toInt.toNat)) (by simp) (by decide)).trans (show gV τ253 27 0 (a1.toInt.toNat) = (gV τ 27 0 (a1.toInt.toNat)) from (f255.1 27 0 ((a1.toInt.toNat)) (by simp) (by decide)).trans (show gV τ220 27 0 (a1.toInt.toNat) = (gV τ 27 0 (a1.toInt.toNat)) from (f222.1 27 0 ((a1.toInt.toNat)) (by simp) (by decide)).trans (show gV τ213 27 0 (a1.toInt.toNat) = (gV τ 27 0 (a1.toInt.toNat)) from (f215.1 27 0 ((a1.toInt.toNat)) (by simp) (by decide)).trans (show gV τ180 27 0 (a1.toInt.toNat) = (gV τ 27 0 (a1.toInt.toNat)) from (f182.1 27 0 ((a1.toInt.toNat)) (by simp) (by decide)).trans (show gV τ173 27 0 (a1.toInt.toNat) = (gV τ 27 0 (a1.toInt.toNat)) from (f175.1 27 0 ((a1.toInt.toNat)) (by simp) (by decide)).trans (show gV τ140 27 0 (a1.toInt.toNat) = (gV τ 27 0 (a1.toInt.toNat)) from (f142.1 27 0 ((a1.toInt.toNat)) (by simp) (by decide)).trans (show gV τ133 27 0 (a1.toInt.toNat) = (gV τ 27 0 (a1.toInt.toNat)) from (f135.1 27 0 ((a1.toInt.toNat)) (by simp) (by decide)).trans rfl)))))))))))
                                    exact ih138 τ300 y5 y6 x337 i301 g305 b_a1 b_a3 (iv_wk b334 (by decide)) b_y6 (iv_wk b338 (by decide)) (by omega) (by omega) nL (by have q := hm138; omega)
                                  · have f342 : x303.toInt < y6.toInt := by
                                      have q : _ := c335
                                      simp only [ti_nle, ti_nlt, ti_le, ti_lt, ti_eq, ti_ne, Classical.not_not] at q
                                      omega
                                    have b343 : IV x303 (-2147483648) 2147483646 := ⟨by have q1 := b304; have q2 := b_y6; omega, by have q1 := b304; have q2 := b_y6; omega⟩
                                    have b344 : IV y6 (-2147483647) 2147483647 := ⟨by have q1 := b304; have q2 := b_y6; omega, by have q1 := b304; have q2 := b_y6; omega⟩
                                    refine m_iload C dX12_bells_271 rfl ?_
                                    refine m_istore (L1 := [some (.ref (G.1 22 0)), some (.int a1), some (.int 5), some (.int a3), some (.int 3125), some (.int y7), some (.int y6), some (.int y7), some (.int x280), some (.int 1), some (.int x292), some (.int x303), some (.int 5), some (.int x276)]) C dX12_bells_273 (by decide) rfl rfl ?_
                                    refine m_iload C dX12_bells_275 rfl ?_
                                    refine m_istore (L1 := [some (.ref (G.1 22 0)), some (.int a1), some (.int 5), some (.int a3), some (.int 3125), some (.int y7), some (.int x303), some (.int y7), some (.int x280), some (.int 1), some (.int x292), some (.int x303), some (.int 5), some (.int x276)]) C dX12_bells_277 (by decide) rfl rfl ?_
                                    obtain ⟨x345, ex345⟩ : ∃ y : Int32, y = y7 + 1 := ⟨_, rfl⟩
                                    have tx345 : x345.toInt = y7.toInt + 1 := by rw [ex345, ti_addv b107 kc_1 (by decide), kt_1]
                                    have b346 : IV x345 1 3125 := by rw [ex345]; exact iv_add b107 kc_1 (by decide)
                                    refine m_iinc (v := x345) (L1 := [some (.ref (G.1 22 0)), some (.int a1), some (.int 5), some (.int a3), some (.int 3125), some (.int y7), some (.int x303), some (.int x345), some (.int x280), some (.int 1), some (.int x292), some (.int x303), some (.int 5), some (.int x276)]) C dX12_bells_279 rfl (by rw [ex345]; rfl) (by decide) rfl rfl ?_
                                    refine m_goto (tgt := 138) C dX12_bells_282 (by decide) ?_
                                    refine m_sub (L1 := [some (.ref (G.1 22 0)), some (.int a1), some (.int 5), some (.int a3), some (.int 3125), some (.int y7), some (.int x303), some (.int x345), none, none, none, none, none, none]) ⟨rfl, ⟨rfl, ⟨rfl, ⟨rfl, ⟨rfl, ⟨rfl, ⟨rfl, ⟨rfl, trivial⟩⟩⟩⟩⟩⟩⟩⟩ ?_
                                    have q347 : (gV τ300 22 0 8).toInt = (gV τ 22 0 8).toInt := congrArg Int32.toInt (show (gV τ300 22 0 8) = (gV τ 22 0 8) from (show gV τ300 22 0 8 = (gV τ 22 0 8) from (f302.1 22 0 (8) (by decide) (by decide)).trans (show gV τ293 22 0 8 = (gV τ 22 0 8) from (f295.1 22 0 (8) (by decide) (by decide)).trans (show gV τ260 22 0 8 = (gV τ 22 0 8) from (f262.1 22 0 (8) (by decide) (by decide)).trans (show gV τ253 22 0 8 = (gV τ 22 0 8) from (f255.1 22 0 (8) (by decide) (by decide)).trans (show gV τ220 22 0 8 = (gV τ 22 0 8) from (f222.1 22 0 (8) (by decide) (by decide)).trans (show gV τ213 22 0 8 = (gV τ 22 0 8) from (f215.1 22 0 (8) (by decide) (by decide)).trans (show gV τ180 22 0 8 = (gV τ 22 0 8) from (f182.1 22 0 (8) (by decide) (by decide)).trans (show gV τ173 22 0 8 = (gV τ 22 0 8) from (f175.1 22 0 (8) (by decide) (by decide)).trans (show gV τ140 22 0 8 = (gV τ 22 0 8) from (f142.1 22 0 (8) (by decide) (by decide)).trans (show gV τ133 22 0 8 = (gV τ 22 0 8) from (f135.1 22 0 (8) (by decide) (by decide)).trans rfl)))))))))))
                                    have q348 : (gV τ300 26 0 (a1.toInt.toNat)).toInt = (gV τ 26 0 (a1.toInt.toNat)).toInt := congrArg Int32.toInt (show (gV τ300 26 0 (a1.toInt.toNat)) = (gV τ 26 0 (a1.toInt.toNat)) from (show gV τ300 26 0 (a1.toInt.toNat) = (gV τ 26 0 (a1.toInt.toNat)) from (f302.1 26 0 ((a1.toInt.toNat)) (by simp) (by decide)).trans (show gV τ293 26 0 (a1.toInt.toNat) = (gV τ 26 0 (a1.toInt.toNat)) from (f295.1 26 0 ((a1.toInt.toNat)) (by simp) (by decide)).trans (show gV τ260 26 0 (a1.toInt.toNat) = (gV τ 26 0 (a1.toInt.toNat)) from (f262.1 26 0 ((a1.toInt.toNat)) (by simp) (by decide)).trans (show gV τ253 26 0 (a1.toInt.toNat) = (gV τ 26 0 (a1.toInt.toNat)) from (f255.1 26 0 ((a1.toInt.toNat)) (by simp) (by decide)).trans (show gV τ220 26 0 (a1.toInt.toNat) = (gV τ 26 0 (a1.toInt.toNat)) from (f222.1 26 0 ((a1.toInt.toNat)) (by simp) (by decide)).trans (show gV τ213 26 0 (a1.toInt.toNat) = (gV τ 26 0 (a1.toInt.toNat)) from (f215.1 26 0 ((a1.toInt.toNat)) (by simp) (by decide)).trans (show gV τ180 26 0 (a1.toInt.toNat) = (gV τ 26 0 (a1.toInt.toNat)) from (f182.1 26 0 ((a1.toInt.toNat)) (by simp) (by decide)).trans (show gV τ173 26 0 (a1.toInt.toNat) = (gV τ 26 0 (a1.toInt.toNat)) from (f175.1 26 0 ((a1.toInt.toNat)) (by simp) (by decide)).trans (show gV τ140 26 0 (a1.toInt.toNat) = (gV τ 26 0 (a1.toInt.toNat)) from (f142.1 26 0 ((a1.toInt.toNat)) (by simp) (by decide)).trans (show gV τ133 26 0 (a1.toInt.toNat) = (gV τ 26 0 (a1.toInt.toNat)) from (f135.1 26 0 ((a1.toInt.toNat)) (by simp) (by decide)).trans rfl)))))))))))
                                    have q349 : (gV τ300 27 0 (a1.toInt.toNat)).toInt = (gV τ 27 0 (a1.toInt.toNat)).toInt := congrArg Int32.toInt (show (gV τ300 27 0 (a1.toInt.toNat)) = (gV τ 27 0 (a1.toInt.toNat)) from (show gV τ300 27 0 (a1.toInt.toNat) = (gV τ 27 0 (a1.toInt.toNat)) from (f302.1 27 0 ((a1.toInt.toNat)) (by simp) (by decide)).trans (show gV τ293 27 0 (a1.toInt.toNat) = (gV τ 27 0 (a1.toInt.toNat)) from (f295.1 27 0 ((a1.toInt.toNat)) (by simp) (by decide)).trans (show gV τ260 27 0 (a1.toInt.toNat) = (gV τ 27 0 (a1.toInt.toNat)) from (f262.1 27 0 ((a1.toInt.toNat)) (by simp) (by decide)).trans (show gV τ253 27 0 (a1.toInt.toNat) = (gV τ 27 0 (a1.toInt.toNat)) from (f255.1 27 0 ((a1.toInt.toNat)) (by simp) (by decide)).trans (show gV τ220 27 0 (a1.toInt.toNat) = (gV τ 27 0 (a1.toInt.toNat)) from (f222.1 27 0 ((a1.toInt.toNat)) (by simp) (by decide)).trans (show gV τ213 27 0 (a1.toInt.toNat) = (gV τ 27 0 (a1.toInt.toNat)) from (f215.1 27 0 ((a1.toInt.toNat)) (by simp) (by decide)).trans (show gV τ180 27 0 (a1.toInt.toNat) = (gV τ 27 0 (a1.toInt.toNat)) from (f182.1 27 0 ((a1.toInt.toNat)) (by simp) (by decide)).trans (show gV τ173 27 0 (a1.toInt.toNat) = (gV τ 27 0 (a1.toInt.toNat)) from (f175.1 27 0 ((a1.toInt.toNat)) (by simp) (by decide)).trans (show gV τ140 27 0 (a1.toInt.toNat) = (gV τ 27 0 (a1.toInt.toNat)) from (f142.1 27 0 ((a1.toInt.toNat)) (by simp) (by decide)).trans (show gV τ133 27 0 (a1.toInt.toNat) = (gV τ 27 0 (a1.toInt.toNat)) from (f135.1 27 0 ((a1.toInt.toNat)) (by simp) (by decide)).trans rfl)))))))))))
                                    exact ih138 τ300 y7 x303 x345 i301 g305 b_a1 b_a3 (iv_wk b107 (by decide)) (iv_wk b343 (by decide)) (iv_wk b346 (by decide)) (by omega) (by omega) nL (by have q := hm138; omega)
                            · first | exact absurd c309 (by decide) | exact absurd (by decide) c309
                      · first | exact absurd c244 (by decide) | exact absurd (by decide) c244
              · first | exact absurd c164 (by decide) | exact absurd (by decide) c164
  have J61 : ∀ (n : Nat) (τ : Sg) (y4 : Int32), Inv τ → Fr MS_X12_bells_5Q AS_X12_bells_5Q σ τ → IV a1 0 7 → IV a3 (-1) 2147483647 → IV y4 0 5 → (((0 ≤ a1.toInt ∧ a1.toInt ≤ 7) ∧ 1 ≤ 5 ∧ 5 ≤ 5 ∧ -1 ≤ a3.toInt ∧ 0 ≤ (gV σ 26 0 (a1.toInt.toNat)).toInt ∧ 5 ≤ (gV σ 27 0 (a1.toInt.toNat)).toInt)) → ((gV τ 22 0 8).toInt = (gV σ 22 0 8).toInt) → (AlJ σ (a1.toInt.toNat) y4.toInt 1 20) → (5 - y4.toInt).toNat < n → MW p l e { frames := 2, cells := 0, slots := 0, locals := 60 } s m args below meth c (MQ below (QP G (PI fun r τ => Inv τ ∧ Fr MS_X12_bells_5Q AS_X12_bells_5Q σ τ ∧ IV r (-2147483648) 2147483647 ∧ BLM σ τ a1 a3 5)) args s 0 0 (aG G)) 14 G 0 0 61 [some (.ref (G.1 22 0)), some (.int a1), some (.int 5), some (.int a3), some (.int y4), none, none, none, none, none, none, none, none, none] [] τ := by
    intro n
    induction n with
    | zero => intro τ y4 iτ fτ b_a1 b_a3 b_y4 n353 n354 nL hm; exact absurd hm (Nat.not_lt_zero _)
    | succ n ih61 =>
      intro τ y4 iτ fτ b_a1 b_a3 b_y4 n353 n354 nL hm61
      have u355 : IV (gV τ 27 0 (a1.toInt.toNat)) 0 40 := iτ.1 27 0 (a1.toInt.toNat)
      refine m_iload C dX12_bells_61 rfl ?_
      refine m_iload_n C dX12_bells_63 rfl rfl ?_
      refine m_icmp_ge (tgt := 99) C dX12_bells_64 (by decide) (fun c356 => ?_) (fun c356 => ?_)
      · have f357 : 5 ≤ y4.toInt := by
          have q : _ := c356
          simp only [ti_nle, ti_nlt, ti_le, ti_lt, ti_eq, ti_ne, Classical.not_not, kt_5] at q
          omega
        have b358 : IV y4 5 5 := ⟨by have q1 := kc_5; have q2 := b_y4; omega, by have q1 := kc_5; have q2 := b_y4; omega⟩
        refine m_aload_n C dX12_bells_99 rfl rfl ?_
        refine m_iconst (v := 0) C dX12_bells_100 (by decide) ?_
        have q359 := kt_0
        refine m_callV (n := 1) (ci := 11) (st := []) C (c_X12_fineQ l G τ (0) iτ ) (by decide) (by decide) rfl rfl rfl q4_201 q4_198 q4_200 q0_27 q1_7 (by decide +kernel) rfl (by decide) (by decide) rfl (Nat.le_of_ble_eq_true rfl) dX12_bells_101 ?_
        rintro _ τ360 ⟨x363, rfl, i361, f362, b364, h366⟩
        have g365 : Fr MS_X12_bells_5Q AS_X12_bells_5Q σ τ360 := Fr.call (fτ) f362 (by decide)
        have q367 : (gV τ360 26 0 (a1.toInt.toNat)).toInt = (gV τ 26 0 (a1.toInt.toNat)).toInt := congrArg Int32.toInt (show (gV τ360 26 0 (a1.toInt.toNat)) = (gV τ 26 0 (a1.toInt.toNat)) from (show gV τ360 26 0 (a1.toInt.toNat) = (gV τ 26 0 (a1.toInt.toNat)) from (f362.1 26 0 ((a1.toInt.toNat)) (by simp) (by decide)).trans rfl))
        have q368 : (gV τ360 27 0 (a1.toInt.toNat)).toInt = (gV τ 27 0 (a1.toInt.toNat)).toInt := congrArg Int32.toInt (show (gV τ360 27 0 (a1.toInt.toNat)) = (gV τ 27 0 (a1.toInt.toNat)) from (show gV τ360 27 0 (a1.toInt.toNat) = (gV τ 27 0 (a1.toInt.toNat)) from (f362.1 27 0 ((a1.toInt.toNat)) (by simp) (by decide)).trans rfl))
        have q369 := kt_0
        show MW p l e _ s m args below meth c _ 14 G 0 0 104 [some (.ref (G.1 22 0)), some (.int a1), some (.int 5), some (.int a3), some (.int y4), none, none, none, none, none, none, none, none, none] [.int x363] τ360
        refine m_pop C dX12_bells_104 rfl ?_
        refine m_iconst (v := 1) C dX12_bells_105 (by decide) ?_
        refine m_istore (L1 := [some (.ref (G.1 22 0)), some (.int a1), some (.int 5), some (.int a3), some (.int 1), none, none, none, none, none, none, none, none, none]) C dX12_bells_106 (by decide) rfl rfl ?_
        refine m_iconst (v := 0) C dX12_bells_108 (by decide) ?_
        refine m_istore (L1 := [some (.ref (G.1 22 0)), some (.int a1), some (.int 5), some (.int a3), some (.int 1), some (.int 0), none, none, none, none, none, none, none, none]) C dX12_bells_109 (by decide) rfl rfl ?_
        refine m_iload C dX12_bells_111 rfl ?_
        refine m_iload_n C dX12_bells_113 rfl rfl ?_
        refine m_icmp_ge (tgt := 129) C dX12_bells_114 (by decide) (fun c370 => ?_) (fun c370 => ?_)
        · first | exact absurd c370 (by decide) | exact absurd (by decide) c370
        · have f372 : 0 < 5 := by
            have q : _ := c370
            simp only [ti_nle, ti_nlt, ti_le, ti_lt, ti_eq, ti_ne, Classical.not_not, kt_0, kt_5] at q
            omega
          refine m_iload C dX12_bells_117 rfl ?_
          refine m_iload_n C dX12_bells_119 rfl rfl ?_
          refine m_imul C dX12_bells_120 ?_
          refine m_topi (fun x373 ex373 => ?_)
          have b374 : IV x373 5 5 := by rw [ex373]; decide
          have tx373 : x373.toInt = 5 := by rw [ex373]; decide
          obtain rfl : x373 = 5 := by rw [ex373]; decide
          refine m_istore (L1 := [some (.ref (G.1 22 0)), some (.int a1), some (.int 5), some (.int a3), some (.int 5), some (.int 0), none, none, none, none, none, none, none, none]) C dX12_bells_121 (by decide) rfl rfl ?_
          obtain ⟨x375, ex375⟩ : ∃ y : Int32, y = 0 + 1 := ⟨_, rfl⟩
          have b376 : IV x375 1 1 := by rw [ex375]; decide
          have tx375 : x375.toInt = 1 := by rw [ex375]; decide
          obtain rfl : x375 = 1 := by rw [ex375]; decide
          refine m_iinc (v := 1) (L1 := [some (.ref (G.1 22 0)), some (.int a1), some (.int 5), some (.int a3), some (.int 5), some (.int 1), none, none, none, none, none, none, none, none]) C dX12_bells_123 rfl (by decide) (by decide) rfl rfl ?_
          refine m_goto (tgt := 111) C dX12_bells_126 (by decide) ?_
          refine m_iload C dX12_bells_111 rfl ?_
          refine m_iload_n C dX12_bells_113 rfl rfl ?_
          refine m_icmp_ge (tgt := 129) C dX12_bells_114 (by decide) (fun c377 => ?_) (fun c377 => ?_)
          · first | exact absurd c377 (by decide) | exact absurd (by decide) c377
          · have f379 : 1 < 5 := by
              have q : _ := c377
              simp only [ti_nle, ti_nlt, ti_le, ti_lt, ti_eq, ti_ne, Classical.not_not, kt_1, kt_5] at q
              omega
            refine m_iload C dX12_bells_117 rfl ?_
            refine m_iload_n C dX12_bells_119 rfl rfl ?_
            refine m_imul C dX12_bells_120 ?_
            refine m_topi (fun x380 ex380 => ?_)
            have b381 : IV x380 25 25 := by rw [ex380]; decide
            have tx380 : x380.toInt = 25 := by rw [ex380]; decide
            obtain rfl : x380 = 25 := by rw [ex380]; decide
            refine m_istore (L1 := [some (.ref (G.1 22 0)), some (.int a1), some (.int 5), some (.int a3), some (.int 25), some (.int 1), none, none, none, none, none, none, none, none]) C dX12_bells_121 (by decide) rfl rfl ?_
            obtain ⟨x382, ex382⟩ : ∃ y : Int32, y = 1 + 1 := ⟨_, rfl⟩
            have b383 : IV x382 2 2 := by rw [ex382]; decide
            have tx382 : x382.toInt = 2 := by rw [ex382]; decide
            obtain rfl : x382 = 2 := by rw [ex382]; decide
            refine m_iinc (v := 2) (L1 := [some (.ref (G.1 22 0)), some (.int a1), some (.int 5), some (.int a3), some (.int 25), some (.int 2), none, none, none, none, none, none, none, none]) C dX12_bells_123 rfl (by decide) (by decide) rfl rfl ?_
            refine m_goto (tgt := 111) C dX12_bells_126 (by decide) ?_
            refine m_iload C dX12_bells_111 rfl ?_
            refine m_iload_n C dX12_bells_113 rfl rfl ?_
            refine m_icmp_ge (tgt := 129) C dX12_bells_114 (by decide) (fun c384 => ?_) (fun c384 => ?_)
            · first | exact absurd c384 (by decide) | exact absurd (by decide) c384
            · have f386 : 2 < 5 := by
                have q : _ := c384
                simp only [ti_nle, ti_nlt, ti_le, ti_lt, ti_eq, ti_ne, Classical.not_not, kt_2, kt_5] at q
                omega
              refine m_iload C dX12_bells_117 rfl ?_
              refine m_iload_n C dX12_bells_119 rfl rfl ?_
              refine m_imul C dX12_bells_120 ?_
              refine m_topi (fun x387 ex387 => ?_)
              have b388 : IV x387 125 125 := by rw [ex387]; decide
              have tx387 : x387.toInt = 125 := by rw [ex387]; decide
              obtain rfl : x387 = 125 := by rw [ex387]; decide
              refine m_istore (L1 := [some (.ref (G.1 22 0)), some (.int a1), some (.int 5), some (.int a3), some (.int 125), some (.int 2), none, none, none, none, none, none, none, none]) C dX12_bells_121 (by decide) rfl rfl ?_
              obtain ⟨x389, ex389⟩ : ∃ y : Int32, y = 2 + 1 := ⟨_, rfl⟩
              have b390 : IV x389 3 3 := by rw [ex389]; decide
              have tx389 : x389.toInt = 3 := by rw [ex389]; decide
              obtain rfl : x389 = 3 := by rw [ex389]; decide
              refine m_iinc (v := 3) (L1 := [some (.ref (G.1 22 0)), some (.int a1), some (.int 5), some (.int a3), some (.int 125), some (.int 3), none, none, none, none, none, none, none, none]) C dX12_bells_123 rfl (by decide) (by decide) rfl rfl ?_
              refine m_goto (tgt := 111) C dX12_bells_126 (by decide) ?_
              refine m_iload C dX12_bells_111 rfl ?_
              refine m_iload_n C dX12_bells_113 rfl rfl ?_
              refine m_icmp_ge (tgt := 129) C dX12_bells_114 (by decide) (fun c391 => ?_) (fun c391 => ?_)
              · first | exact absurd c391 (by decide) | exact absurd (by decide) c391
              · have f393 : 3 < 5 := by
                  have q : _ := c391
                  simp only [ti_nle, ti_nlt, ti_le, ti_lt, ti_eq, ti_ne, Classical.not_not, kt_3, kt_5] at q
                  omega
                refine m_iload C dX12_bells_117 rfl ?_
                refine m_iload_n C dX12_bells_119 rfl rfl ?_
                refine m_imul C dX12_bells_120 ?_
                refine m_topi (fun x394 ex394 => ?_)
                have b395 : IV x394 625 625 := by rw [ex394]; decide
                have tx394 : x394.toInt = 625 := by rw [ex394]; decide
                obtain rfl : x394 = 625 := by rw [ex394]; decide
                refine m_istore (L1 := [some (.ref (G.1 22 0)), some (.int a1), some (.int 5), some (.int a3), some (.int 625), some (.int 3), none, none, none, none, none, none, none, none]) C dX12_bells_121 (by decide) rfl rfl ?_
                obtain ⟨x396, ex396⟩ : ∃ y : Int32, y = 3 + 1 := ⟨_, rfl⟩
                have b397 : IV x396 4 4 := by rw [ex396]; decide
                have tx396 : x396.toInt = 4 := by rw [ex396]; decide
                obtain rfl : x396 = 4 := by rw [ex396]; decide
                refine m_iinc (v := 4) (L1 := [some (.ref (G.1 22 0)), some (.int a1), some (.int 5), some (.int a3), some (.int 625), some (.int 4), none, none, none, none, none, none, none, none]) C dX12_bells_123 rfl (by decide) (by decide) rfl rfl ?_
                refine m_goto (tgt := 111) C dX12_bells_126 (by decide) ?_
                refine m_iload C dX12_bells_111 rfl ?_
                refine m_iload_n C dX12_bells_113 rfl rfl ?_
                refine m_icmp_ge (tgt := 129) C dX12_bells_114 (by decide) (fun c398 => ?_) (fun c398 => ?_)
                · first | exact absurd c398 (by decide) | exact absurd (by decide) c398
                · have f400 : 4 < 5 := by
                    have q : _ := c398
                    simp only [ti_nle, ti_nlt, ti_le, ti_lt, ti_eq, ti_ne, Classical.not_not, kt_4, kt_5] at q
                    omega
                  refine m_iload C dX12_bells_117 rfl ?_
                  refine m_iload_n C dX12_bells_119 rfl rfl ?_
                  refine m_imul C dX12_bells_120 ?_
                  refine m_topi (fun x401 ex401 => ?_)
                  have b402 : IV x401 3125 3125 := by rw [ex401]; decide
                  have tx401 : x401.toInt = 3125 := by rw [ex401]; decide
                  obtain rfl : x401 = 3125 := by rw [ex401]; decide
                  refine m_istore (L1 := [some (.ref (G.1 22 0)), some (.int a1), some (.int 5), some (.int a3), some (.int 3125), some (.int 4), none, none, none, none, none, none, none, none]) C dX12_bells_121 (by decide) rfl rfl ?_
                  obtain ⟨x403, ex403⟩ : ∃ y : Int32, y = 4 + 1 := ⟨_, rfl⟩
                  have b404 : IV x403 5 5 := by rw [ex403]; decide
                  have tx403 : x403.toInt = 5 := by rw [ex403]; decide
                  obtain rfl : x403 = 5 := by rw [ex403]; decide
                  refine m_iinc (v := 5) (L1 := [some (.ref (G.1 22 0)), some (.int a1), some (.int 5), some (.int a3), some (.int 3125), some (.int 5), none, none, none, none, none, none, none, none]) C dX12_bells_123 rfl (by decide) (by decide) rfl rfl ?_
                  refine m_goto (tgt := 111) C dX12_bells_126 (by decide) ?_
                  refine m_iload C dX12_bells_111 rfl ?_
                  refine m_iload_n C dX12_bells_113 rfl rfl ?_
                  refine m_icmp_ge (tgt := 129) C dX12_bells_114 (by decide) (fun c405 => ?_) (fun c405 => ?_)
                  · have f406 : 5 ≤ 5 := by
                      have q : _ := c405
                      simp only [ti_nle, ti_nlt, ti_le, ti_lt, ti_eq, ti_ne, Classical.not_not, kt_5, kt_5] at q
                      omega
                    refine m_iconst (v := (-1)) C dX12_bells_129 (by decide) ?_
                    refine m_istore (L1 := [some (.ref (G.1 22 0)), some (.int a1), some (.int 5), some (.int a3), some (.int 3125), some (.int (-1)), none, none, none, none, none, none, none, none]) C dX12_bells_130 (by decide) rfl rfl ?_
                    refine m_iconst (v := 0) C dX12_bells_132 (by decide) ?_
                    refine m_istore (L1 := [some (.ref (G.1 22 0)), some (.int a1), some (.int 5), some (.int a3), some (.int 3125), some (.int (-1)), some (.int 0), none, none, none, none, none, none, none]) C dX12_bells_133 (by decide) rfl rfl ?_
                    refine m_iconst (v := 0) C dX12_bells_135 (by decide) ?_
                    refine m_istore (L1 := [some (.ref (G.1 22 0)), some (.int a1), some (.int 5), some (.int a3), some (.int 3125), some (.int (-1)), some (.int 0), some (.int 0), none, none, none, none, none, none]) C dX12_bells_136 (by decide) rfl rfl ?_
                    exact J138 ((3125 - (0 : Int32).toInt).toNat + 1) τ360 (-1) 0 0 i361 g365 b_a1 b_a3 (iv_wk kc_m1 (by decide)) (iv_wk kc_0 (by decide)) (iv_wk kc_0 (by decide)) (by omega) (by omega) (nL.all (by omega)) (Nat.lt_succ_self _)
                  · first | exact absurd c405 (by decide) | exact absurd (by decide) c405
      · have f408 : y4.toInt < 5 := by
          have q : _ := c356
          simp only [ti_nle, ti_nlt, ti_le, ti_lt, ti_eq, ti_ne, Classical.not_not, kt_5] at q
          omega
        have b409 : IV y4 0 4 := ⟨by have q1 := b_y4; have q2 := kc_5; omega, by have q1 := b_y4; have q2 := kc_5; omega⟩
        refine m_aload_n C dX12_bells_67 rfl rfl ?_
        refine g_22_2 C q4_118 dX12_bells_68 ?_
        refine m_bipush (v := 40) C dX12_bells_71 (by decide) ?_
        refine m_iload_n C dX12_bells_73 rfl rfl ?_
        refine m_imul C dX12_bells_74 ?_
        refine m_topi (fun x410 ex410 => ?_)
        have tx410 : x410.toInt = 40 * a1.toInt := by rw [ex410, ti_mulv kc_40 b_a1 (by decide), kt_40]
        have b411 : IV x410 0 280 := by rw [ex410]; exact iv_mul kc_40 b_a1 (by decide)
        refine m_iload C dX12_bells_75 rfl ?_
        refine m_iadd C dX12_bells_77 ?_
        refine m_topi (fun x412 ex412 => ?_)
        have tx412 : x412.toInt = x410.toInt + y4.toInt := by rw [ex412, ti_addv b411 b409 (by decide)]
        have b413 : IV x412 0 284 := by rw [ex412]; exact iv_add b411 b409 (by decide)
        refine al_25 C b413 (by decide) rfl dX12_bells_78 ?_
        refine m_topi (fun x414 ex414 => ?_)
        have q415 : (gV σ 25 0 (40 * (a1.toInt.toNat) + y4.toInt.toNat)).toInt = x414.toInt := by rw [show 40 * (a1.toInt.toNat) + y4.toInt.toNat = (x412.toInt.toNat) by omega, ← (fτ).1 25 0 (x412.toInt.toNat) (by simp) (by decide), show gV τ 25 0 (x412.toInt.toNat) = x414 from ex414.symm]
        refine m_i2l C dX12_bells_79 ?_
        refine m_lconst (v := 1) C dX12_bells_80 (by decide) ?_
        refine m_ldc2 (v := 20) C dX12_bells_81 q5_174 ?_
        refine m_callS (n := 3) (st := []) C (c_X12_in l G τ ((x414 : Int32).toInt64) (1) (20) iτ ) q4_190 q4_188 q4_189 q1_7 (by decide +kernel) rfl (by decide) (by decide) rfl (Nat.le_of_ble_eq_true rfl) dX12_bells_84 ?_
        rintro _ τ416 ⟨x419, rfl, i417, f418, b420, h422⟩
        have g421 : Fr MS_X12_bells_5Q AS_X12_bells_5Q σ τ416 := Fr.call (fτ) f418 (by decide)
        have q423 : (gV τ416 22 0 8).toInt = (gV τ 22 0 8).toInt := congrArg Int32.toInt (show (gV τ416 22 0 8) = (gV τ 22 0 8) from (show gV τ416 22 0 8 = (gV τ 22 0 8) from (f418.1 22 0 (8) (by decide) (by decide)).trans rfl))
        have q424 : (gV τ416 26 0 (a1.toInt.toNat)).toInt = (gV τ 26 0 (a1.toInt.toNat)).toInt := congrArg Int32.toInt (show (gV τ416 26 0 (a1.toInt.toNat)) = (gV τ 26 0 (a1.toInt.toNat)) from (show gV τ416 26 0 (a1.toInt.toNat) = (gV τ 26 0 (a1.toInt.toNat)) from (f418.1 26 0 ((a1.toInt.toNat)) (by simp) (by decide)).trans rfl))
        have q425 : (gV τ416 27 0 (a1.toInt.toNat)).toInt = (gV τ 27 0 (a1.toInt.toNat)).toInt := congrArg Int32.toInt (show (gV τ416 27 0 (a1.toInt.toNat)) = (gV τ 27 0 (a1.toInt.toNat)) from (show gV τ416 27 0 (a1.toInt.toNat) = (gV τ 27 0 (a1.toInt.toNat)) from (f418.1 27 0 ((a1.toInt.toNat)) (by simp) (by decide)).trans rfl))
        have f426 := tl_i x414
        have f427 := kl_1
        have f428 := kl_20
        rcases h422 with ⟨h422_0, h422_1, h422_2⟩ | ⟨h422_0, h422_1⟩
        · skip
          have b429 : IV x419 1 1 := ⟨by omega, by omega⟩
          show MW p l e _ s m args below meth c _ 14 G 0 0 87 [some (.ref (G.1 22 0)), some (.int a1), some (.int 5), some (.int a3), some (.int y4), none, none, none, none, none, none, none, none, none] [.int x419] τ416
          refine m_if_ne (tgt := 93) C dX12_bells_87 (by decide) (fun c430 => ?_) (fun c430 => ?_)
          · have f431 : x419.toInt ≠ 0 := by
              have q : _ := c430
              simp only [ti_nle, ti_nlt, ti_le, ti_lt, ti_eq, ti_ne, Classical.not_not, kt_0] at q
              omega
            have b432 : IV x414 1 20 := ⟨by have q1 := (iv_any x414); omega, by have q1 := (iv_any x414); omega⟩
            obtain ⟨x433, ex433⟩ : ∃ y : Int32, y = y4 + 1 := ⟨_, rfl⟩
            have tx433 : x433.toInt = y4.toInt + 1 := by rw [ex433, ti_addv b409 kc_1 (by decide), kt_1]
            have b434 : IV x433 1 5 := by rw [ex433]; exact iv_add b409 kc_1 (by decide)
            refine m_iinc (v := x433) (L1 := [some (.ref (G.1 22 0)), some (.int a1), some (.int 5), some (.int a3), some (.int x433), none, none, none, none, none, none, none, none, none]) C dX12_bells_93 rfl (by rw [ex433]; rfl) (by decide) rfl rfl ?_
            refine m_goto (tgt := 61) C dX12_bells_96 (by decide) ?_
            exact ih61 τ416 x433 i417 g421 b_a1 b_a3 (iv_wk b434 (by decide)) (by omega) (by omega) (nL.more (k := y4.toInt.toNat) (by omega) (by omega) ⟨by omega, by omega⟩) (by have q := hm61; omega)
          · exfalso
            have q : _ := c430
            simp only [ti_nle, ti_nlt, ti_le, ti_lt, ti_eq, ti_ne, Classical.not_not, kt_0] at q
            have q1 := b429; have q2 := kc_0; omega
        · skip
          have b436 : IV x419 0 0 := ⟨by omega, by omega⟩
          show MW p l e _ s m args below meth c _ 14 G 0 0 87 [some (.ref (G.1 22 0)), some (.int a1), some (.int 5), some (.int a3), some (.int y4), none, none, none, none, none, none, none, none, none] [.int x419] τ416
          refine m_if_ne (tgt := 93) C dX12_bells_87 (by decide) (fun c437 => ?_) (fun c437 => ?_)
          · exfalso
            have q : _ := c437
            simp only [ti_nle, ti_nlt, ti_le, ti_lt, ti_eq, ti_ne, Classical.not_not, kt_0] at q
            have q1 := b436; have q2 := kc_0; omega
          · have f439 : x419.toInt = 0 := by
              have q : _ := c437
              simp only [ti_nle, ti_nlt, ti_le, ti_lt, ti_eq, ti_ne, Classical.not_not, kt_0] at q
              omega
            refine m_ldc (v := (-1000001)) C dX12_bells_90 q4_192 ?_
            exact m_iret C hr hlk (by decide) (by decide) dX12_bells_92 ⟨_, rfl, i417, g421, (iv_wk kc_m1000001 (by decide)), (Or.inr (Or.inr (Or.inr (Or.inl ⟨by have qk := kt_m1000001; omega, by have qk := kt_m1000001; omega, by have qk := kt_m1000001; omega, (fun g => by have q := g y4.toInt.toNat (by omega); omega), by have qk := kt_m1000001; omega⟩))))⟩
  have u440 : IV (gV σ 27 0 (a1.toInt.toNat)) 0 40 := hI.1 27 0 (a1.toInt.toNat)
  refine m_iload_n C dX12_bells_0 rfl rfl ?_
  refine m_callS (n := 1) (st := []) C (c_X12_isRow l G σ (a1) hI ) q4_186 q4_184 q4_185 q1_7 (by decide +kernel) rfl (by decide) (by decide) rfl (Nat.le_of_ble_eq_true rfl) dX12_bells_1 ?_
  rintro _ τ441 ⟨x444, rfl, i442, f443, b445, h447⟩
  have g446 : Fr MS_X12_bells_5Q AS_X12_bells_5Q σ τ441 := Fr.call (Fr.rf) f443 (by decide)
  have q448 : (gV τ441 22 0 8).toInt = (gV σ 22 0 8).toInt := congrArg Int32.toInt (show (gV τ441 22 0 8) = (gV σ 22 0 8) from (show gV τ441 22 0 8 = (gV σ 22 0 8) from (f443.1 22 0 (8) (by decide) (by decide)).trans rfl))
  have q449 : (gV τ441 26 0 (a1.toInt.toNat)).toInt = (gV σ 26 0 (a1.toInt.toNat)).toInt := congrArg Int32.toInt (show (gV τ441 26 0 (a1.toInt.toNat)) = (gV σ 26 0 (a1.toInt.toNat)) from (show gV τ441 26 0 (a1.toInt.toNat) = (gV σ 26 0 (a1.toInt.toNat)) from (f443.1 26 0 ((a1.toInt.toNat)) (by simp) (by decide)).trans rfl))
  have q450 : (gV τ441 27 0 (a1.toInt.toNat)).toInt = (gV σ 27 0 (a1.toInt.toNat)).toInt := congrArg Int32.toInt (show (gV τ441 27 0 (a1.toInt.toNat)) = (gV σ 27 0 (a1.toInt.toNat)) from (show gV τ441 27 0 (a1.toInt.toNat) = (gV σ 27 0 (a1.toInt.toNat)) from (f443.1 27 0 ((a1.toInt.toNat)) (by simp) (by decide)).trans rfl))
  rcases h447 with ⟨h447_0, h447_1, h447_2⟩ | ⟨h447_0, h447_1⟩
  · skip
    have b451 : IV x444 1 1 := ⟨by omega, by omega⟩
    show MW p l e _ s m args below meth c _ 14 G 0 0 4 [some (.ref (G.1 22 0)), some (.int a1), some (.int 5), some (.int a3), none, none, none, none, none, none, none, none, none, none] [.int x444] τ441
    refine m_if_eq (tgt := 24) C dX12_bells_4 (by decide) (fun c452 => ?_) (fun c452 => ?_)
    · exfalso
      have q : _ := c452
      simp only [ti_nle, ti_nlt, ti_le, ti_lt, ti_eq, ti_ne, Classical.not_not, kt_0] at q
      have q1 := b451; have q2 := kc_0; omega
    · have f454 : x444.toInt ≠ 0 := by
        have q : _ := c452
        simp only [ti_nle, ti_nlt, ti_le, ti_lt, ti_eq, ti_ne, Classical.not_not, kt_0] at q
        omega
      have b455 : IV a1 0 7 := ⟨by have q1 := (iv_any a1); omega, by have q1 := (iv_any a1); omega⟩
      refine m_iload_n C dX12_bells_7 rfl rfl ?_
      refine m_i2l C dX12_bells_8 ?_
      refine m_lconst (v := 1) C dX12_bells_9 (by decide) ?_
      refine m_ldc2 (v := 5) C dX12_bells_10 q5_173 ?_
      refine m_callS (n := 3) (st := []) C (c_X12_in l G τ441 ((5 : Int32).toInt64) (1) (5) i442 ) q4_190 q4_188 q4_189 q1_7 (by decide +kernel) rfl (by decide) (by decide) rfl (Nat.le_of_ble_eq_true rfl) dX12_bells_13 ?_
      rintro _ τ456 ⟨x459, rfl, i457, f458, b460, h462⟩
      have g461 : Fr MS_X12_bells_5Q AS_X12_bells_5Q σ τ456 := Fr.call (g446) f458 (by decide)
      have q463 : (gV τ456 22 0 8).toInt = (gV σ 22 0 8).toInt := congrArg Int32.toInt (show (gV τ456 22 0 8) = (gV σ 22 0 8) from (show gV τ456 22 0 8 = (gV σ 22 0 8) from (f458.1 22 0 (8) (by decide) (by decide)).trans (show gV τ441 22 0 8 = (gV σ 22 0 8) from (f443.1 22 0 (8) (by decide) (by decide)).trans rfl)))
      have q464 : (gV τ456 26 0 (a1.toInt.toNat)).toInt = (gV σ 26 0 (a1.toInt.toNat)).toInt := congrArg Int32.toInt (show (gV τ456 26 0 (a1.toInt.toNat)) = (gV σ 26 0 (a1.toInt.toNat)) from (show gV τ456 26 0 (a1.toInt.toNat) = (gV σ 26 0 (a1.toInt.toNat)) from (f458.1 26 0 ((a1.toInt.toNat)) (by simp) (by decide)).trans (show gV τ441 26 0 (a1.toInt.toNat) = (gV σ 26 0 (a1.toInt.toNat)) from (f443.1 26 0 ((a1.toInt.toNat)) (by simp) (by decide)).trans rfl)))
      have q465 : (gV τ456 27 0 (a1.toInt.toNat)).toInt = (gV σ 27 0 (a1.toInt.toNat)).toInt := congrArg Int32.toInt (show (gV τ456 27 0 (a1.toInt.toNat)) = (gV σ 27 0 (a1.toInt.toNat)) from (show gV τ456 27 0 (a1.toInt.toNat) = (gV σ 27 0 (a1.toInt.toNat)) from (f458.1 27 0 ((a1.toInt.toNat)) (by simp) (by decide)).trans (show gV τ441 27 0 (a1.toInt.toNat) = (gV σ 27 0 (a1.toInt.toNat)) from (f443.1 27 0 ((a1.toInt.toNat)) (by simp) (by decide)).trans rfl)))
      have f466 := tl_i 5
      have kf466 := kt_5
      have f467 := kl_1
      have f468 := kl_5
      rcases h462 with ⟨h462_0, h462_1, h462_2⟩ | ⟨h462_0, h462_1⟩
      · skip
        have b469 : IV x459 1 1 := ⟨by omega, by omega⟩
        show MW p l e _ s m args below meth c _ 14 G 0 0 16 [some (.ref (G.1 22 0)), some (.int a1), some (.int 5), some (.int a3), none, none, none, none, none, none, none, none, none, none] [.int x459] τ456
        refine m_if_eq (tgt := 24) C dX12_bells_16 (by decide) (fun c470 => ?_) (fun c470 => ?_)
        · exfalso
          have q : _ := c470
          simp only [ti_nle, ti_nlt, ti_le, ti_lt, ti_eq, ti_ne, Classical.not_not, kt_0] at q
          have q1 := b469; have q2 := kc_0; omega
        · have f472 : x459.toInt ≠ 0 := by
            have q : _ := c470
            simp only [ti_nle, ti_nlt, ti_le, ti_lt, ti_eq, ti_ne, Classical.not_not, kt_0] at q
            omega
          refine m_iload_n C dX12_bells_19 rfl rfl ?_
          refine m_iconst (v := (-1)) C dX12_bells_20 (by decide) ?_
          refine m_icmp_ge (tgt := 27) C dX12_bells_21 (by decide) (fun c473 => ?_) (fun c473 => ?_)
          · have f474 : -1 ≤ a3.toInt := by
              have q : _ := c473
              simp only [ti_nle, ti_nlt, ti_le, ti_lt, ti_eq, ti_ne, Classical.not_not, kt_m1] at q
              omega
            have b475 : IV a3 (-1) 2147483647 := ⟨by have q1 := kc_m1; have q2 := (iv_any a3); omega, by have q1 := kc_m1; have q2 := (iv_any a3); omega⟩
            refine m_aload_n C dX12_bells_27 rfl rfl ?_
            refine g_22_3 C q4_119 dX12_bells_28 ?_
            refine m_iload_n C dX12_bells_31 rfl rfl ?_
            refine al_26 C b455 (by decide) rfl dX12_bells_32 ?_
            refine m_eqs (w := (gV σ 26 0 (a1.toInt.toNat))) (show gV τ456 26 0 (a1.toInt.toNat) = (gV σ 26 0 (a1.toInt.toNat)) from (f458.1 26 0 ((a1.toInt.toNat)) (by simp) (by decide)).trans (show gV τ441 26 0 (a1.toInt.toNat) = (gV σ 26 0 (a1.toInt.toNat)) from (f443.1 26 0 ((a1.toInt.toNat)) (by simp) (by decide)).trans rfl)) ?_
            refine m_if_ge (tgt := 42) C dX12_bells_33 (by decide) (fun c476 => ?_) (fun c476 => ?_)
            · have f477 : 0 ≤ (gV σ 26 0 (a1.toInt.toNat)).toInt := by
                have q : _ := c476
                simp only [ti_nle, ti_nlt, ti_le, ti_lt, ti_eq, ti_ne, Classical.not_not, kt_0] at q
                omega
              have b478 : IV (gV σ 26 0 (a1.toInt.toNat)) 0 2147483647 := ⟨by have q1 := kc_0; have q2 := (iv_any (gV σ 26 0 (a1.toInt.toNat))); omega, by have q1 := kc_0; have q2 := (iv_any (gV σ 26 0 (a1.toInt.toNat))); omega⟩
              refine m_aload_n C dX12_bells_42 rfl rfl ?_
              refine g_22_4 C q4_120 dX12_bells_43 ?_
              refine m_iload_n C dX12_bells_46 rfl rfl ?_
              refine al_27 C b455 (by decide) rfl dX12_bells_47 ?_
              refine m_eqs (w := (gV σ 27 0 (a1.toInt.toNat))) (show gV τ456 27 0 (a1.toInt.toNat) = (gV σ 27 0 (a1.toInt.toNat)) from (f458.1 27 0 ((a1.toInt.toNat)) (by simp) (by decide)).trans (show gV τ441 27 0 (a1.toInt.toNat) = (gV σ 27 0 (a1.toInt.toNat)) from (f443.1 27 0 ((a1.toInt.toNat)) (by simp) (by decide)).trans rfl)) ?_
              refine m_iload_n C dX12_bells_48 rfl rfl ?_
              refine m_icmp_ge (tgt := 58) C dX12_bells_49 (by decide) (fun c479 => ?_) (fun c479 => ?_)
              · have f480 : 5 ≤ (gV σ 27 0 (a1.toInt.toNat)).toInt := by
                  have q : _ := c479
                  simp only [ti_nle, ti_nlt, ti_le, ti_lt, ti_eq, ti_ne, Classical.not_not, kt_5] at q
                  omega
                have b481 : IV (gV σ 27 0 (a1.toInt.toNat)) 5 40 := ⟨by have q1 := kc_5; have q2 := u440; omega, by have q1 := kc_5; have q2 := u440; omega⟩
                refine m_iconst (v := 0) C dX12_bells_58 (by decide) ?_
                refine m_istore (L1 := [some (.ref (G.1 22 0)), some (.int a1), some (.int 5), some (.int a3), some (.int 0), none, none, none, none, none, none, none, none, none]) C dX12_bells_59 (by decide) rfl rfl ?_
                exact J61 ((5 - (0 : Int32).toInt).toNat + 1) τ456 0 i457 g461 b455 b475 (iv_wk kc_0 (by decide)) (by omega) (by omega) (AlJ.zero (by have q := kt_0; omega)) (Nat.lt_succ_self _)
              · have f482 : (gV σ 27 0 (a1.toInt.toNat)).toInt < 5 := by
                  have q : _ := c479
                  simp only [ti_nle, ti_nlt, ti_le, ti_lt, ti_eq, ti_ne, Classical.not_not, kt_5] at q
                  omega
                have b483 : IV (gV σ 27 0 (a1.toInt.toNat)) 0 4 := ⟨by have q1 := u440; have q2 := kc_5; omega, by have q1 := u440; have q2 := kc_5; omega⟩
                refine m_aload_n C dX12_bells_52 rfl rfl ?_
                refine m_iconst (v := 2) C dX12_bells_53 (by decide) ?_
                have q484 := kt_2
                refine m_callV (n := 1) (ci := 11) (st := []) C (c_X12_metQ l G τ456 (2) i457 (iv_wk kc_2 (by decide))) (by decide) (by decide) rfl rfl rfl q4_196 q4_193 q4_195 q0_26 q1_7 (by decide +kernel) rfl (by decide) (by decide) rfl (Nat.le_of_ble_eq_true rfl) dX12_bells_54 ?_
                rintro _ τ485 ⟨x488, rfl, i486, f487, b489, h491⟩
                have g490 : Fr MS_X12_bells_5Q AS_X12_bells_5Q σ τ485 := Fr.call (g461) f487 (by decide)
                have q492 : (gV τ485 26 0 (a1.toInt.toNat)).toInt = (gV σ 26 0 (a1.toInt.toNat)).toInt := congrArg Int32.toInt (show (gV τ485 26 0 (a1.toInt.toNat)) = (gV σ 26 0 (a1.toInt.toNat)) from (show gV τ485 26 0 (a1.toInt.toNat) = (gV σ 26 0 (a1.toInt.toNat)) from (f487.1 26 0 ((a1.toInt.toNat)) (by simp) (by decide)).trans (show gV τ456 26 0 (a1.toInt.toNat) = (gV σ 26 0 (a1.toInt.toNat)) from (f458.1 26 0 ((a1.toInt.toNat)) (by simp) (by decide)).trans (show gV τ441 26 0 (a1.toInt.toNat) = (gV σ 26 0 (a1.toInt.toNat)) from (f443.1 26 0 ((a1.toInt.toNat)) (by simp) (by decide)).trans rfl))))
                have q493 : (gV τ485 27 0 (a1.toInt.toNat)).toInt = (gV σ 27 0 (a1.toInt.toNat)).toInt := congrArg Int32.toInt (show (gV τ485 27 0 (a1.toInt.toNat)) = (gV σ 27 0 (a1.toInt.toNat)) from (show gV τ485 27 0 (a1.toInt.toNat) = (gV σ 27 0 (a1.toInt.toNat)) from (f487.1 27 0 ((a1.toInt.toNat)) (by simp) (by decide)).trans (show gV τ456 27 0 (a1.toInt.toNat) = (gV σ 27 0 (a1.toInt.toNat)) from (f458.1 27 0 ((a1.toInt.toNat)) (by simp) (by decide)).trans (show gV τ441 27 0 (a1.toInt.toNat) = (gV σ 27 0 (a1.toInt.toNat)) from (f443.1 27 0 ((a1.toInt.toNat)) (by simp) (by decide)).trans rfl))))
                have q494 := kt_2
                show MW p l e _ s m args below meth c _ 14 G 0 0 57 [some (.ref (G.1 22 0)), some (.int a1), some (.int 5), some (.int a3), none, none, none, none, none, none, none, none, none, none] [.int x488] τ485
                exact m_iret C hr hlk (by decide) (by decide) dX12_bells_57 ⟨_, rfl, i486, g490, (iv_wk b489 (by decide)), (Or.inr (Or.inr (Or.inl ⟨by omega, by omega, by omega, by omega⟩)))⟩
            · have f495 : (gV σ 26 0 (a1.toInt.toNat)).toInt < 0 := by
                have q : _ := c476
                simp only [ti_nle, ti_nlt, ti_le, ti_lt, ti_eq, ti_ne, Classical.not_not, kt_0] at q
                omega
              have b496 : IV (gV σ 26 0 (a1.toInt.toNat)) (-2147483648) (-1) := ⟨by have q1 := (iv_any (gV σ 26 0 (a1.toInt.toNat))); have q2 := kc_0; omega, by have q1 := (iv_any (gV σ 26 0 (a1.toInt.toNat))); have q2 := kc_0; omega⟩
              refine m_aload_n C dX12_bells_36 rfl rfl ?_
              refine m_iconst (v := 1) C dX12_bells_37 (by decide) ?_
              have q497 := kt_1
              refine m_callV (n := 1) (ci := 11) (st := []) C (c_X12_metQ l G τ456 (1) i457 (iv_wk kc_1 (by decide))) (by decide) (by decide) rfl rfl rfl q4_196 q4_193 q4_195 q0_26 q1_7 (by decide +kernel) rfl (by decide) (by decide) rfl (Nat.le_of_ble_eq_true rfl) dX12_bells_38 ?_
              rintro _ τ498 ⟨x501, rfl, i499, f500, b502, h504⟩
              have g503 : Fr MS_X12_bells_5Q AS_X12_bells_5Q σ τ498 := Fr.call (g461) f500 (by decide)
              have q505 : (gV τ498 26 0 (a1.toInt.toNat)).toInt = (gV σ 26 0 (a1.toInt.toNat)).toInt := congrArg Int32.toInt (show (gV τ498 26 0 (a1.toInt.toNat)) = (gV σ 26 0 (a1.toInt.toNat)) from (show gV τ498 26 0 (a1.toInt.toNat) = (gV σ 26 0 (a1.toInt.toNat)) from (f500.1 26 0 ((a1.toInt.toNat)) (by simp) (by decide)).trans (show gV τ456 26 0 (a1.toInt.toNat) = (gV σ 26 0 (a1.toInt.toNat)) from (f458.1 26 0 ((a1.toInt.toNat)) (by simp) (by decide)).trans (show gV τ441 26 0 (a1.toInt.toNat) = (gV σ 26 0 (a1.toInt.toNat)) from (f443.1 26 0 ((a1.toInt.toNat)) (by simp) (by decide)).trans rfl))))
              have q506 : (gV τ498 27 0 (a1.toInt.toNat)).toInt = (gV σ 27 0 (a1.toInt.toNat)).toInt := congrArg Int32.toInt (show (gV τ498 27 0 (a1.toInt.toNat)) = (gV σ 27 0 (a1.toInt.toNat)) from (show gV τ498 27 0 (a1.toInt.toNat) = (gV σ 27 0 (a1.toInt.toNat)) from (f500.1 27 0 ((a1.toInt.toNat)) (by simp) (by decide)).trans (show gV τ456 27 0 (a1.toInt.toNat) = (gV σ 27 0 (a1.toInt.toNat)) from (f458.1 27 0 ((a1.toInt.toNat)) (by simp) (by decide)).trans (show gV τ441 27 0 (a1.toInt.toNat) = (gV σ 27 0 (a1.toInt.toNat)) from (f443.1 27 0 ((a1.toInt.toNat)) (by simp) (by decide)).trans rfl))))
              have q507 := kt_1
              show MW p l e _ s m args below meth c _ 14 G 0 0 41 [some (.ref (G.1 22 0)), some (.int a1), some (.int 5), some (.int a3), none, none, none, none, none, none, none, none, none, none] [.int x501] τ498
              exact m_iret C hr hlk (by decide) (by decide) dX12_bells_41 ⟨_, rfl, i499, g503, (iv_wk b502 (by decide)), (Or.inr (Or.inl ⟨by omega, by omega, by omega⟩))⟩
          · have f508 : a3.toInt < -1 := by
              have q : _ := c473
              simp only [ti_nle, ti_nlt, ti_le, ti_lt, ti_eq, ti_ne, Classical.not_not, kt_m1] at q
              omega
            have b509 : IV a3 (-2147483648) (-2) := ⟨by have q1 := (iv_any a3); have q2 := kc_m1; omega, by have q1 := (iv_any a3); have q2 := kc_m1; omega⟩
            refine m_ldc (v := (-1000001)) C dX12_bells_24 q4_192 ?_
            exact m_iret C hr hlk (by decide) (by decide) dX12_bells_26 ⟨_, rfl, i457, g461, (iv_wk kc_m1000001 (by decide)), (Or.inl ⟨by have qk := kt_m1000001; omega, by have qk := kt_m1000001; omega⟩)⟩
      · skip
        have b510 : IV x459 0 0 := ⟨by omega, by omega⟩
        show MW p l e _ s m args below meth c _ 14 G 0 0 16 [some (.ref (G.1 22 0)), some (.int a1), some (.int 5), some (.int a3), none, none, none, none, none, none, none, none, none, none] [.int x459] τ456
        refine m_if_eq (tgt := 24) C dX12_bells_16 (by decide) (fun c511 => ?_) (fun c511 => ?_)
        · have f512 : x459.toInt = 0 := by
            have q : _ := c511
            simp only [ti_nle, ti_nlt, ti_le, ti_lt, ti_eq, ti_ne, Classical.not_not, kt_0] at q
            omega
          refine m_ldc (v := (-1000001)) C dX12_bells_24 q4_192 ?_
          exact m_iret C hr hlk (by decide) (by decide) dX12_bells_26 ⟨_, rfl, i457, g461, (iv_wk kc_m1000001 (by decide)), (Or.inl ⟨by have qk := kt_m1000001; omega, by have qk := kt_m1000001; omega⟩)⟩
        · exfalso
          have q : _ := c511
          simp only [ti_nle, ti_nlt, ti_le, ti_lt, ti_eq, ti_ne, Classical.not_not, kt_0] at q
          have q1 := b510; have q2 := kc_0; omega
  · skip
    have b514 : IV x444 0 0 := ⟨by omega, by omega⟩
    show MW p l e _ s m args below meth c _ 14 G 0 0 4 [some (.ref (G.1 22 0)), some (.int a1), some (.int 5), some (.int a3), none, none, none, none, none, none, none, none, none, none] [.int x444] τ441
    refine m_if_eq (tgt := 24) C dX12_bells_4 (by decide) (fun c515 => ?_) (fun c515 => ?_)
    · have f516 : x444.toInt = 0 := by
        have q : _ := c515
        simp only [ti_nle, ti_nlt, ti_le, ti_lt, ti_eq, ti_ne, Classical.not_not, kt_0] at q
        omega
      refine m_ldc (v := (-1000001)) C dX12_bells_24 q4_192 ?_
      exact m_iret C hr hlk (by decide) (by decide) dX12_bells_26 ⟨_, rfl, i442, g446, (iv_wk kc_m1000001 (by decide)), (Or.inl ⟨by have qk := kt_m1000001; omega, by have qk := kt_m1000001; omega⟩)⟩
    · exfalso
      have q : _ := c515
      simp only [ti_nle, ti_nlt, ti_le, ti_lt, ti_eq, ti_ne, Classical.not_not, kt_0] at q
      have q1 := b514; have q2 := kc_0; omega

abbrev MS_X12_bells_loQ : List (Nat × Nat) := [(22, 8)]
abbrev AS_X12_bells_loQ : List Nat := []
set_option maxHeartbeats 4000000 in
set_option maxRecDepth 100000 in
theorem c_X12_bells_loQ (l : Launch) (G : Gt) (σ : Sg) (a1 : Int32) (a2 : Int32) (a3 : Int32) (hI : Inv σ) (ha2 : IV a2 (-2147483648) 0) : Mc l G yX12_bells cX12_bells 14 (some .int) 2 60 0 0 [.ref (G.1 22 0), .int a1, .int a2, .int a3] σ (PI fun r τ => Inv τ ∧ Fr MS_X12_bells_loQ AS_X12_bells_loQ σ τ ∧ IV r (-2147483648) 2147483647 ∧ BLM σ τ a1 a3 a2.toInt) := by
  refine Mc.of (L0 := [some (.ref (G.1 22 0)), some (.int a1), some (.int a2), some (.int a3), none, none, none, none, none, none, none, none, none, none]) (by decide) (Nat.le_of_ble_eq_true rfl) rfl ?_
  intro p e s m args below meth c C hr hlk
  have C : Cx p s m args c cX12_bells 14 "LeanTowerModel" := C
  have k0 : (0 : Int32).toInt = 0 := by decide
  have k1 : (1 : Int32).toInt = 1 := by decide
  have u1 : IV (gV σ 27 0 (a1.toInt.toNat)) 0 40 := hI.1 27 0 (a1.toInt.toNat)
  refine m_iload_n C dX12_bells_0 rfl rfl ?_
  refine m_callS (n := 1) (st := []) C (c_X12_isRow l G σ (a1) hI ) q4_186 q4_184 q4_185 q1_7 (by decide +kernel) rfl (by decide) (by decide) rfl (Nat.le_of_ble_eq_true rfl) dX12_bells_1 ?_
  rintro _ τ2 ⟨x5, rfl, i3, f4, b6, h8⟩
  have g7 : Fr MS_X12_bells_loQ AS_X12_bells_loQ σ τ2 := Fr.call (Fr.rf) f4 (by decide)
  have q9 : (gV τ2 22 0 8).toInt = (gV σ 22 0 8).toInt := congrArg Int32.toInt (show (gV τ2 22 0 8) = (gV σ 22 0 8) from (show gV τ2 22 0 8 = (gV σ 22 0 8) from (f4.1 22 0 (8) (by decide) (by decide)).trans rfl))
  have q10 : (gV τ2 26 0 (a1.toInt.toNat)).toInt = (gV σ 26 0 (a1.toInt.toNat)).toInt := congrArg Int32.toInt (show (gV τ2 26 0 (a1.toInt.toNat)) = (gV σ 26 0 (a1.toInt.toNat)) from (show gV τ2 26 0 (a1.toInt.toNat) = (gV σ 26 0 (a1.toInt.toNat)) from (f4.1 26 0 ((a1.toInt.toNat)) (by simp) (by decide)).trans rfl))
  have q11 : (gV τ2 27 0 (a1.toInt.toNat)).toInt = (gV σ 27 0 (a1.toInt.toNat)).toInt := congrArg Int32.toInt (show (gV τ2 27 0 (a1.toInt.toNat)) = (gV σ 27 0 (a1.toInt.toNat)) from (show gV τ2 27 0 (a1.toInt.toNat) = (gV σ 27 0 (a1.toInt.toNat)) from (f4.1 27 0 ((a1.toInt.toNat)) (by simp) (by decide)).trans rfl))
  rcases h8 with ⟨h8_0, h8_1, h8_2⟩ | ⟨h8_0, h8_1⟩
  · skip
    have b12 : IV x5 1 1 := ⟨by omega, by omega⟩
    show MW p l e _ s m args below meth c _ 14 G 0 0 4 [some (.ref (G.1 22 0)), some (.int a1), some (.int a2), some (.int a3), none, none, none, none, none, none, none, none, none, none] [.int x5] τ2
    refine m_if_eq (tgt := 24) C dX12_bells_4 (by decide) (fun c13 => ?_) (fun c13 => ?_)
    · exfalso
      have q : _ := c13
      simp only [ti_nle, ti_nlt, ti_le, ti_lt, ti_eq, ti_ne, Classical.not_not, kt_0] at q
      have q1 := b12; have q2 := kc_0; omega
    · have f15 : x5.toInt ≠ 0 := by
        have q : _ := c13
        simp only [ti_nle, ti_nlt, ti_le, ti_lt, ti_eq, ti_ne, Classical.not_not, kt_0] at q
        omega
      have b16 : IV a1 0 7 := ⟨by have q1 := (iv_any a1); omega, by have q1 := (iv_any a1); omega⟩
      refine m_iload_n C dX12_bells_7 rfl rfl ?_
      refine m_i2l C dX12_bells_8 ?_
      refine m_lconst (v := 1) C dX12_bells_9 (by decide) ?_
      refine m_ldc2 (v := 5) C dX12_bells_10 q5_173 ?_
      refine m_callS (n := 3) (st := []) C (c_X12_in l G τ2 ((a2 : Int32).toInt64) (1) (5) i3 ) q4_190 q4_188 q4_189 q1_7 (by decide +kernel) rfl (by decide) (by decide) rfl (Nat.le_of_ble_eq_true rfl) dX12_bells_13 ?_
      rintro _ τ17 ⟨x20, rfl, i18, f19, b21, h23⟩
      have g22 : Fr MS_X12_bells_loQ AS_X12_bells_loQ σ τ17 := Fr.call (g7) f19 (by decide)
      have q24 : (gV τ17 22 0 8).toInt = (gV σ 22 0 8).toInt := congrArg Int32.toInt (show (gV τ17 22 0 8) = (gV σ 22 0 8) from (show gV τ17 22 0 8 = (gV σ 22 0 8) from (f19.1 22 0 (8) (by decide) (by decide)).trans (show gV τ2 22 0 8 = (gV σ 22 0 8) from (f4.1 22 0 (8) (by decide) (by decide)).trans rfl)))
      have q25 : (gV τ17 26 0 (a1.toInt.toNat)).toInt = (gV σ 26 0 (a1.toInt.toNat)).toInt := congrArg Int32.toInt (show (gV τ17 26 0 (a1.toInt.toNat)) = (gV σ 26 0 (a1.toInt.toNat)) from (show gV τ17 26 0 (a1.toInt.toNat) = (gV σ 26 0 (a1.toInt.toNat)) from (f19.1 26 0 ((a1.toInt.toNat)) (by simp) (by decide)).trans (show gV τ2 26 0 (a1.toInt.toNat) = (gV σ 26 0 (a1.toInt.toNat)) from (f4.1 26 0 ((a1.toInt.toNat)) (by simp) (by decide)).trans rfl)))
      have q26 : (gV τ17 27 0 (a1.toInt.toNat)).toInt = (gV σ 27 0 (a1.toInt.toNat)).toInt := congrArg Int32.toInt (show (gV τ17 27 0 (a1.toInt.toNat)) = (gV σ 27 0 (a1.toInt.toNat)) from (show gV τ17 27 0 (a1.toInt.toNat) = (gV σ 27 0 (a1.toInt.toNat)) from (f19.1 27 0 ((a1.toInt.toNat)) (by simp) (by decide)).trans (show gV τ2 27 0 (a1.toInt.toNat) = (gV σ 27 0 (a1.toInt.toNat)) from (f4.1 27 0 ((a1.toInt.toNat)) (by simp) (by decide)).trans rfl)))
      have f27 := tl_i a2
      have f28 := kl_1
      have f29 := kl_5
      rcases h23 with ⟨h23_0, h23_1, h23_2⟩ | ⟨h23_0, h23_1⟩
      · skip
        have b30 : IV x20 1 1 := ⟨by omega, by omega⟩
        show MW p l e _ s m args below meth c _ 14 G 0 0 16 [some (.ref (G.1 22 0)), some (.int a1), some (.int a2), some (.int a3), none, none, none, none, none, none, none, none, none, none] [.int x20] τ17
        refine m_if_eq (tgt := 24) C dX12_bells_16 (by decide) (fun c31 => ?_) (fun c31 => ?_)
        · exfalso
          have q : _ := c31
          simp only [ti_nle, ti_nlt, ti_le, ti_lt, ti_eq, ti_ne, Classical.not_not, kt_0] at q
          have q1 := b30; have q2 := kc_0; omega
        · exfalso
          have q : _ := c31
          simp only [ti_nle, ti_nlt, ti_le, ti_lt, ti_eq, ti_ne, Classical.not_not, kt_0] at q
          have q1 := b30; have q2 := kc_0; omega
      · skip
        have b34 : IV x20 0 0 := ⟨by omega, by omega⟩
        show MW p l e _ s m args below meth c _ 14 G 0 0 16 [some (.ref (G.1 22 0)), some (.int a1), some (.int a2), some (.int a3), none, none, none, none, none, none, none, none, none, none] [.int x20] τ17
        refine m_if_eq (tgt := 24) C dX12_bells_16 (by decide) (fun c35 => ?_) (fun c35 => ?_)
        · have f36 : x20.toInt = 0 := by
            have q : _ := c35
            simp only [ti_nle, ti_nlt, ti_le, ti_lt, ti_eq, ti_ne, Classical.not_not, kt_0] at q
            omega
          refine m_ldc (v := (-1000001)) C dX12_bells_24 q4_192 ?_
          exact m_iret C hr hlk (by decide) (by decide) dX12_bells_26 ⟨_, rfl, i18, g22, (iv_wk kc_m1000001 (by decide)), (Or.inl ⟨by have qk := kt_m1000001; omega, by have qk := kt_m1000001; omega⟩)⟩
        · exfalso
          have q : _ := c35
          simp only [ti_nle, ti_nlt, ti_le, ti_lt, ti_eq, ti_ne, Classical.not_not, kt_0] at q
          have q1 := b34; have q2 := kc_0; omega
  · skip
    have b38 : IV x5 0 0 := ⟨by omega, by omega⟩
    show MW p l e _ s m args below meth c _ 14 G 0 0 4 [some (.ref (G.1 22 0)), some (.int a1), some (.int a2), some (.int a3), none, none, none, none, none, none, none, none, none, none] [.int x5] τ2
    refine m_if_eq (tgt := 24) C dX12_bells_4 (by decide) (fun c39 => ?_) (fun c39 => ?_)
    · have f40 : x5.toInt = 0 := by
        have q : _ := c39
        simp only [ti_nle, ti_nlt, ti_le, ti_lt, ti_eq, ti_ne, Classical.not_not, kt_0] at q
        omega
      refine m_ldc (v := (-1000001)) C dX12_bells_24 q4_192 ?_
      exact m_iret C hr hlk (by decide) (by decide) dX12_bells_26 ⟨_, rfl, i3, g7, (iv_wk kc_m1000001 (by decide)), (Or.inl ⟨by have qk := kt_m1000001; omega, by have qk := kt_m1000001; omega⟩)⟩
    · exfalso
      have q : _ := c39
      simp only [ti_nle, ti_nlt, ti_le, ti_lt, ti_eq, ti_ne, Classical.not_not, kt_0] at q
      have q1 := b38; have q2 := kc_0; omega

abbrev MS_X12_bells_hiQ : List (Nat × Nat) := [(22, 8)]
abbrev AS_X12_bells_hiQ : List Nat := []
set_option maxHeartbeats 4000000 in
set_option maxRecDepth 100000 in
theorem c_X12_bells_hiQ (l : Launch) (G : Gt) (σ : Sg) (a1 : Int32) (a2 : Int32) (a3 : Int32) (hI : Inv σ) (ha2 : IV a2 6 2147483647) : Mc l G yX12_bells cX12_bells 14 (some .int) 2 60 0 0 [.ref (G.1 22 0), .int a1, .int a2, .int a3] σ (PI fun r τ => Inv τ ∧ Fr MS_X12_bells_hiQ AS_X12_bells_hiQ σ τ ∧ IV r (-2147483648) 2147483647 ∧ BLM σ τ a1 a3 a2.toInt) := by
  refine Mc.of (L0 := [some (.ref (G.1 22 0)), some (.int a1), some (.int a2), some (.int a3), none, none, none, none, none, none, none, none, none, none]) (by decide) (Nat.le_of_ble_eq_true rfl) rfl ?_
  intro p e s m args below meth c C hr hlk
  have C : Cx p s m args c cX12_bells 14 "LeanTowerModel" := C
  have k0 : (0 : Int32).toInt = 0 := by decide
  have k1 : (1 : Int32).toInt = 1 := by decide
  have u1 : IV (gV σ 27 0 (a1.toInt.toNat)) 0 40 := hI.1 27 0 (a1.toInt.toNat)
  refine m_iload_n C dX12_bells_0 rfl rfl ?_
  refine m_callS (n := 1) (st := []) C (c_X12_isRow l G σ (a1) hI ) q4_186 q4_184 q4_185 q1_7 (by decide +kernel) rfl (by decide) (by decide) rfl (Nat.le_of_ble_eq_true rfl) dX12_bells_1 ?_
  rintro _ τ2 ⟨x5, rfl, i3, f4, b6, h8⟩
  have g7 : Fr MS_X12_bells_hiQ AS_X12_bells_hiQ σ τ2 := Fr.call (Fr.rf) f4 (by decide)
  have q9 : (gV τ2 22 0 8).toInt = (gV σ 22 0 8).toInt := congrArg Int32.toInt (show (gV τ2 22 0 8) = (gV σ 22 0 8) from (show gV τ2 22 0 8 = (gV σ 22 0 8) from (f4.1 22 0 (8) (by decide) (by decide)).trans rfl))
  have q10 : (gV τ2 26 0 (a1.toInt.toNat)).toInt = (gV σ 26 0 (a1.toInt.toNat)).toInt := congrArg Int32.toInt (show (gV τ2 26 0 (a1.toInt.toNat)) = (gV σ 26 0 (a1.toInt.toNat)) from (show gV τ2 26 0 (a1.toInt.toNat) = (gV σ 26 0 (a1.toInt.toNat)) from (f4.1 26 0 ((a1.toInt.toNat)) (by simp) (by decide)).trans rfl))
  have q11 : (gV τ2 27 0 (a1.toInt.toNat)).toInt = (gV σ 27 0 (a1.toInt.toNat)).toInt := congrArg Int32.toInt (show (gV τ2 27 0 (a1.toInt.toNat)) = (gV σ 27 0 (a1.toInt.toNat)) from (show gV τ2 27 0 (a1.toInt.toNat) = (gV σ 27 0 (a1.toInt.toNat)) from (f4.1 27 0 ((a1.toInt.toNat)) (by simp) (by decide)).trans rfl))
  rcases h8 with ⟨h8_0, h8_1, h8_2⟩ | ⟨h8_0, h8_1⟩
  · skip
    have b12 : IV x5 1 1 := ⟨by omega, by omega⟩
    show MW p l e _ s m args below meth c _ 14 G 0 0 4 [some (.ref (G.1 22 0)), some (.int a1), some (.int a2), some (.int a3), none, none, none, none, none, none, none, none, none, none] [.int x5] τ2
    refine m_if_eq (tgt := 24) C dX12_bells_4 (by decide) (fun c13 => ?_) (fun c13 => ?_)
    · exfalso
      have q : _ := c13
      simp only [ti_nle, ti_nlt, ti_le, ti_lt, ti_eq, ti_ne, Classical.not_not, kt_0] at q
      have q1 := b12; have q2 := kc_0; omega
    · have f15 : x5.toInt ≠ 0 := by
        have q : _ := c13
        simp only [ti_nle, ti_nlt, ti_le, ti_lt, ti_eq, ti_ne, Classical.not_not, kt_0] at q
        omega
      have b16 : IV a1 0 7 := ⟨by have q1 := (iv_any a1); omega, by have q1 := (iv_any a1); omega⟩
      refine m_iload_n C dX12_bells_7 rfl rfl ?_
      refine m_i2l C dX12_bells_8 ?_
      refine m_lconst (v := 1) C dX12_bells_9 (by decide) ?_
      refine m_ldc2 (v := 5) C dX12_bells_10 q5_173 ?_
      refine m_callS (n := 3) (st := []) C (c_X12_in l G τ2 ((a2 : Int32).toInt64) (1) (5) i3 ) q4_190 q4_188 q4_189 q1_7 (by decide +kernel) rfl (by decide) (by decide) rfl (Nat.le_of_ble_eq_true rfl) dX12_bells_13 ?_
      rintro _ τ17 ⟨x20, rfl, i18, f19, b21, h23⟩
      have g22 : Fr MS_X12_bells_hiQ AS_X12_bells_hiQ σ τ17 := Fr.call (g7) f19 (by decide)
      have q24 : (gV τ17 22 0 8).toInt = (gV σ 22 0 8).toInt := congrArg Int32.toInt (show (gV τ17 22 0 8) = (gV σ 22 0 8) from (show gV τ17 22 0 8 = (gV σ 22 0 8) from (f19.1 22 0 (8) (by decide) (by decide)).trans (show gV τ2 22 0 8 = (gV σ 22 0 8) from (f4.1 22 0 (8) (by decide) (by decide)).trans rfl)))
      have q25 : (gV τ17 26 0 (a1.toInt.toNat)).toInt = (gV σ 26 0 (a1.toInt.toNat)).toInt := congrArg Int32.toInt (show (gV τ17 26 0 (a1.toInt.toNat)) = (gV σ 26 0 (a1.toInt.toNat)) from (show gV τ17 26 0 (a1.toInt.toNat) = (gV σ 26 0 (a1.toInt.toNat)) from (f19.1 26 0 ((a1.toInt.toNat)) (by simp) (by decide)).trans (show gV τ2 26 0 (a1.toInt.toNat) = (gV σ 26 0 (a1.toInt.toNat)) from (f4.1 26 0 ((a1.toInt.toNat)) (by simp) (by decide)).trans rfl)))
      have q26 : (gV τ17 27 0 (a1.toInt.toNat)).toInt = (gV σ 27 0 (a1.toInt.toNat)).toInt := congrArg Int32.toInt (show (gV τ17 27 0 (a1.toInt.toNat)) = (gV σ 27 0 (a1.toInt.toNat)) from (show gV τ17 27 0 (a1.toInt.toNat) = (gV σ 27 0 (a1.toInt.toNat)) from (f19.1 27 0 ((a1.toInt.toNat)) (by simp) (by decide)).trans (show gV τ2 27 0 (a1.toInt.toNat) = (gV σ 27 0 (a1.toInt.toNat)) from (f4.1 27 0 ((a1.toInt.toNat)) (by simp) (by decide)).trans rfl)))
      have f27 := tl_i a2
      have f28 := kl_1
      have f29 := kl_5
      rcases h23 with ⟨h23_0, h23_1, h23_2⟩ | ⟨h23_0, h23_1⟩
      · skip
        have b30 : IV x20 1 1 := ⟨by omega, by omega⟩
        show MW p l e _ s m args below meth c _ 14 G 0 0 16 [some (.ref (G.1 22 0)), some (.int a1), some (.int a2), some (.int a3), none, none, none, none, none, none, none, none, none, none] [.int x20] τ17
        refine m_if_eq (tgt := 24) C dX12_bells_16 (by decide) (fun c31 => ?_) (fun c31 => ?_)
        · exfalso
          have q : _ := c31
          simp only [ti_nle, ti_nlt, ti_le, ti_lt, ti_eq, ti_ne, Classical.not_not, kt_0] at q
          have q1 := b30; have q2 := kc_0; omega
        · exfalso
          have q : _ := c31
          simp only [ti_nle, ti_nlt, ti_le, ti_lt, ti_eq, ti_ne, Classical.not_not, kt_0] at q
          have q1 := b30; have q2 := kc_0; omega
      · skip
        have b34 : IV x20 0 0 := ⟨by omega, by omega⟩
        show MW p l e _ s m args below meth c _ 14 G 0 0 16 [some (.ref (G.1 22 0)), some (.int a1), some (.int a2), some (.int a3), none, none, none, none, none, none, none, none, none, none] [.int x20] τ17
        refine m_if_eq (tgt := 24) C dX12_bells_16 (by decide) (fun c35 => ?_) (fun c35 => ?_)
        · have f36 : x20.toInt = 0 := by
            have q : _ := c35
            simp only [ti_nle, ti_nlt, ti_le, ti_lt, ti_eq, ti_ne, Classical.not_not, kt_0] at q
            omega
          refine m_ldc (v := (-1000001)) C dX12_bells_24 q4_192 ?_
          exact m_iret C hr hlk (by decide) (by decide) dX12_bells_26 ⟨_, rfl, i18, g22, (iv_wk kc_m1000001 (by decide)), (Or.inl ⟨by have qk := kt_m1000001; omega, by have qk := kt_m1000001; omega⟩)⟩
        · exfalso
          have q : _ := c35
          simp only [ti_nle, ti_nlt, ti_le, ti_lt, ti_eq, ti_ne, Classical.not_not, kt_0] at q
          have q1 := b34; have q2 := kc_0; omega
  · skip
    have b38 : IV x5 0 0 := ⟨by omega, by omega⟩
    show MW p l e _ s m args below meth c _ 14 G 0 0 4 [some (.ref (G.1 22 0)), some (.int a1), some (.int a2), some (.int a3), none, none, none, none, none, none, none, none, none, none] [.int x5] τ2
    refine m_if_eq (tgt := 24) C dX12_bells_4 (by decide) (fun c39 => ?_) (fun c39 => ?_)
    · have f40 : x5.toInt = 0 := by
        have q : _ := c39
        simp only [ti_nle, ti_nlt, ti_le, ti_lt, ti_eq, ti_ne, Classical.not_not, kt_0] at q
        omega
      refine m_ldc (v := (-1000001)) C dX12_bells_24 q4_192 ?_
      exact m_iret C hr hlk (by decide) (by decide) dX12_bells_26 ⟨_, rfl, i3, g7, (iv_wk kc_m1000001 (by decide)), (Or.inl ⟨by have qk := kt_m1000001; omega, by have qk := kt_m1000001; omega⟩)⟩
    · exfalso
      have q : _ := c39
      simp only [ti_nle, ti_nlt, ti_le, ti_lt, ti_eq, ti_ne, Classical.not_not, kt_0] at q
      have q1 := b38; have q2 := kc_0; omega

set_option maxHeartbeats 4000000 in
theorem c_X12_bellsQ (l : Launch) (G : Gt) (σ : Sg) (a1 : Int32) (a2 : Int32) (a3 : Int32) (hI : Inv σ) : Mc l G yX12_bells cX12_bells 14 (some .int) 2 60 0 0 [.ref (G.1 22 0), .int a1, .int a2, .int a3] σ (PI fun r τ => Inv τ ∧ Fr [(22, 8)] [] σ τ ∧ IV r (-2147483648) 2147483647 ∧ BLM σ τ a1 a3 a2.toInt) := by
  by_cases h1 : a2.toInt ≤ 0
  · exact c_X12_bells_loQ l G σ a1 a2 a3 hI ⟨(iv_any a2).1, h1⟩
  by_cases h6 : 6 ≤ a2.toInt
  · exact c_X12_bells_hiQ l G σ a1 a2 a3 hI ⟨h6, (iv_any a2).2⟩
  have h : a2 = 1 ∨ a2 = 2 ∨ a2 = 3 ∨ a2 = 4 ∨ a2 = 5 := by
    simp only [ti_eq, kt_1, kt_2, kt_3, kt_4, kt_5]
    omega
  rcases h with rfl | rfl | rfl | rfl | rfl
  · simpa only [kt_1] using c_X12_bells_1Q l G σ a1 a3 hI
  · simpa only [kt_2] using c_X12_bells_2Q l G σ a1 a3 hI
  · simpa only [kt_3] using c_X12_bells_3Q l G σ a1 a3 hI
  · simpa only [kt_4] using c_X12_bells_4Q l G σ a1 a3 hI
  · simpa only [kt_5] using c_X12_bells_5Q l G σ a1 a3 hI
