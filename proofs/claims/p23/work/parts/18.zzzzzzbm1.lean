abbrev MS_X12_sizeOfB : List (Nat × Nat) := []
abbrev AS_X12_sizeOfB : List Nat := []
set_option maxHeartbeats 4000000 in
set_option maxRecDepth 100000 in
theorem c_X12_sizeOfB (l : Launch) (G : Gt) (σ : Sg) (a1 : Int32) (hI : Inv σ) (ha1 : IV a1 (-1000) 1000) : Mc l G yX12_sizeOf cX12_sizeOf 1 (some .int) 0 0 0 0 [.int a1] σ (PI fun r τ => Inv τ ∧ Fr MS_X12_sizeOfB AS_X12_sizeOfB σ τ ∧ IV r (-2147483648) 2147483647 ∧ r.toInt = max a1.toInt (-a1.toInt)) := by
  refine Mc.of (L0 := [some (.int a1)]) (by decide) (Nat.le_of_ble_eq_true rfl) rfl ?_
  intro p e s m args below meth c C hr hlk
  have C : Cx p s m args c cX12_sizeOf 1 "LeanTowerModel" := C
  have k0 : (0 : Int32).toInt = 0 := by decide
  have k1 : (1 : Int32).toInt = 1 := by decide
  refine m_iload_n C dX12_sizeOf_0 rfl rfl ?_
  refine m_if_ge (tgt := 9) C dX12_sizeOf_1 (by decide) (fun c1 => ?_) (fun c1 => ?_)
  · have f2 : 0 ≤ a1.toInt := by
      have q : _ := c1
      simp only [ti_nle, ti_nlt, ti_le, ti_lt, ti_eq, ti_ne, Classical.not_not, kt_0] at q
      omega
    have b3 : IV a1 0 1000 := ⟨by have q1 := kc_0; have q2 := ha1; omega, by have q1 := kc_0; have q2 := ha1; omega⟩
    refine m_iload_n C dX12_sizeOf_9 rfl rfl ?_
    exact m_iret C hr hlk (by decide) (by decide) dX12_sizeOf_10 ⟨_, rfl, hI, Fr.rf, (iv_wk b3 (by decide)), (by omega)⟩
  · have f4 : a1.toInt < 0 := by
      have q : _ := c1
      simp only [ti_nle, ti_nlt, ti_le, ti_lt, ti_eq, ti_ne, Classical.not_not, kt_0] at q
      omega
    have b5 : IV a1 (-1000) (-1) := ⟨by have q1 := ha1; have q2 := kc_0; omega, by have q1 := ha1; have q2 := kc_0; omega⟩
    refine m_iload_n C dX12_sizeOf_4 rfl rfl ?_
    refine m_ineg C dX12_sizeOf_5 ?_
    refine m_topi (fun x6 ex6 => ?_)
    have q7 : x6.toInt = -a1.toInt := by rw [ex6]; exact ti_negv ha1 (by decide)
    refine m_goto (tgt := 10) C dX12_sizeOf_6 (by decide) ?_
    exact m_iret C hr hlk (by decide) (by decide) dX12_sizeOf_10 ⟨_, rfl, hI, Fr.rf, (iv_any x6), (by omega)⟩

abbrev MS_X12_greaterB : List (Nat × Nat) := []
abbrev AS_X12_greaterB : List Nat := []
set_option maxHeartbeats 4000000 in
set_option maxRecDepth 100000 in
theorem c_X12_greaterB (l : Launch) (G : Gt) (σ : Sg) (a1 : Int32) (a2 : Int32) (hI : Inv σ) : Mc l G yX12_greater cX12_greater 2 (some .int) 0 0 0 0 [.int a1, .int a2] σ (PI fun r τ => Inv τ ∧ Fr MS_X12_greaterB AS_X12_greaterB σ τ ∧ IV r (-2147483648) 2147483647 ∧ r.toInt = max a1.toInt a2.toInt) := by
  refine Mc.of (L0 := [some (.int a1), some (.int a2)]) (by decide) (Nat.le_of_ble_eq_true rfl) rfl ?_
  intro p e s m args below meth c C hr hlk
  have C : Cx p s m args c cX12_greater 2 "LeanTowerModel" := C
  have k0 : (0 : Int32).toInt = 0 := by decide
  have k1 : (1 : Int32).toInt = 1 := by decide
  refine m_iload_n C dX12_greater_0 rfl rfl ?_
  refine m_iload_n C dX12_greater_1 rfl rfl ?_
  refine m_icmp_le (tgt := 9) C dX12_greater_2 (by decide) (fun c1 => ?_) (fun c1 => ?_)
  · have f2 : a1.toInt ≤ a2.toInt := by
      have q : _ := c1
      simp only [ti_nle, ti_nlt, ti_le, ti_lt, ti_eq, ti_ne, Classical.not_not] at q
      omega
    refine m_iload_n C dX12_greater_9 rfl rfl ?_
    exact m_iret C hr hlk (by decide) (by decide) dX12_greater_10 ⟨_, rfl, hI, Fr.rf, (iv_any a2), (by omega)⟩
  · have f3 : a2.toInt < a1.toInt := by
      have q : _ := c1
      simp only [ti_nle, ti_nlt, ti_le, ti_lt, ti_eq, ti_ne, Classical.not_not] at q
      omega
    have b4 : IV a2 (-2147483648) 2147483646 := ⟨by have q1 := (iv_any a2); have q2 := (iv_any a1); omega, by have q1 := (iv_any a2); have q2 := (iv_any a1); omega⟩
    have b5 : IV a1 (-2147483647) 2147483647 := ⟨by have q1 := (iv_any a2); have q2 := (iv_any a1); omega, by have q1 := (iv_any a2); have q2 := (iv_any a1); omega⟩
    refine m_iload_n C dX12_greater_5 rfl rfl ?_
    refine m_goto (tgt := 10) C dX12_greater_6 (by decide) ?_
    exact m_iret C hr hlk (by decide) (by decide) dX12_greater_10 ⟨_, rfl, hI, Fr.rf, (iv_wk b5 (by decide)), (by omega)⟩

abbrev MS_X12_bells_1Z : List (Nat × Nat) := [(22, 8)]
abbrev AS_X12_bells_1Z : List Nat := []
set_option maxHeartbeats 4000000 in
set_option maxRecDepth 100000 in
theorem c_X12_bells_1Z (l : Launch) (G : Gt) (σ : Sg) (a1 : Int32) (a3 : Int32) (hI : Inv σ) : Mc l G yX12_bells cX12_bells 14 (some .int) 2 60 0 0 [.ref (G.1 22 0), .int a1, .int 1, .int a3] σ (PI fun r τ => Inv τ ∧ Fr MS_X12_bells_1Z AS_X12_bells_1Z σ τ ∧ IV r (-2147483648) 2147483647 ∧ (((a1.toInt < 0 ∨ 7 < a1.toInt ∨ (1 : Int) < 1 ∨ 5 < (1 : Int) ∨ a3.toInt < -1) ∧ r.toInt = -1000001) ∨ (((0 ≤ a1.toInt ∧ a1.toInt ≤ 7) ∧ 1 ≤ (1 : Int) ∧ (1 : Int) ≤ 5 ∧ -1 ≤ a3.toInt) ∧ (gV σ 26 0 (a1.toInt.toNat)).toInt < 0 ∧ r.toInt = -1000011) ∨ (((0 ≤ a1.toInt ∧ a1.toInt ≤ 7) ∧ 1 ≤ (1 : Int) ∧ (1 : Int) ≤ 5 ∧ -1 ≤ a3.toInt) ∧ 0 ≤ (gV σ 26 0 (a1.toInt.toNat)).toInt ∧ (gV σ 27 0 (a1.toInt.toNat)).toInt < (1 : Int) ∧ r.toInt = -1000012) ∨ (((0 ≤ a1.toInt ∧ a1.toInt ≤ 7) ∧ 1 ≤ (1 : Int) ∧ (1 : Int) ≤ 5 ∧ -1 ≤ a3.toInt) ∧ 0 ≤ (gV σ 26 0 (a1.toInt.toNat)).toInt ∧ (1 : Int) ≤ (gV σ 27 0 (a1.toInt.toNat)).toInt ∧ ¬ AlJ σ (a1.toInt.toNat) (1 : Int) 1 20 ∧ r.toInt = -1000001) ∨ (((0 ≤ a1.toInt ∧ a1.toInt ≤ 7) ∧ 1 ≤ (1 : Int) ∧ (1 : Int) ≤ 5 ∧ -1 ≤ a3.toInt) ∧ 0 ≤ (gV σ 26 0 (a1.toInt.toNat)).toInt ∧ (1 : Int) ≤ (gV σ 27 0 (a1.toInt.toNat)).toInt ∧ AlJ σ (a1.toInt.toNat) (1 : Int) 1 20 ∧ RESB r a3 1 (bbest (nuJ σ (a1.toInt.toNat) 1) 1)))) := by
  refine Mc.of (L0 := [some (.ref (G.1 22 0)), some (.int a1), some (.int 1), some (.int a3), none, none, none, none, none, none, none, none, none, none]) (by decide) (Nat.le_of_ble_eq_true rfl) rfl ?_
  intro p e s m args below meth c C hr hlk
  have C : Cx p s m args c cX12_bells 14 "LeanTowerModel" := C
  have k0 : (0 : Int32).toInt = 0 := by decide
  have k1 : (1 : Int32).toInt = 1 := by decide
  have J138 : ∀ (n : Nat) (τ : Sg) (y5 : Int32) (y6 : Int32) (y7 : Int32), Inv τ → Fr MS_X12_bells_1Z AS_X12_bells_1Z σ τ → IV a1 0 7 → IV a3 (-1) 2147483647 → IV y5 (-1) 0 → IV y6 (-2147483648) 2147483647 → IV y7 0 1 → (((0 ≤ a1.toInt ∧ a1.toInt ≤ 7) ∧ 1 ≤ (1 : Int) ∧ (1 : Int) ≤ 5 ∧ -1 ≤ a3.toInt ∧ 0 ≤ (gV σ 26 0 (a1.toInt.toNat)).toInt ∧ (1 : Int) ≤ (gV σ 27 0 (a1.toInt.toNat)).toInt)) → (AlJ σ (a1.toInt.toNat) (1 : Int) 1 20) → (BRL (nuJ σ (a1.toInt.toNat) 1) 1 y5 y6 (bacc (nuJ σ (a1.toInt.toNat) 1) 1 y7.toInt.toNat)) → (1 - y7.toInt).toNat < n → MW p l e { frames := 2, cells := 0, slots := 0, locals := 60 } s m args below meth c (MQ below (QP G (PI fun r τ => Inv τ ∧ Fr MS_X12_bells_1Z AS_X12_bells_1Z σ τ ∧ IV r (-2147483648) 2147483647 ∧ (((a1.toInt < 0 ∨ 7 < a1.toInt ∨ (1 : Int) < 1 ∨ 5 < (1 : Int) ∨ a3.toInt < -1) ∧ r.toInt = -1000001) ∨ (((0 ≤ a1.toInt ∧ a1.toInt ≤ 7) ∧ 1 ≤ (1 : Int) ∧ (1 : Int) ≤ 5 ∧ -1 ≤ a3.toInt) ∧ (gV σ 26 0 (a1.toInt.toNat)).toInt < 0 ∧ r.toInt = -1000011) ∨ (((0 ≤ a1.toInt ∧ a1.toInt ≤ 7) ∧ 1 ≤ (1 : Int) ∧ (1 : Int) ≤ 5 ∧ -1 ≤ a3.toInt) ∧ 0 ≤ (gV σ 26 0 (a1.toInt.toNat)).toInt ∧ (gV σ 27 0 (a1.toInt.toNat)).toInt < (1 : Int) ∧ r.toInt = -1000012) ∨ (((0 ≤ a1.toInt ∧ a1.toInt ≤ 7) ∧ 1 ≤ (1 : Int) ∧ (1 : Int) ≤ 5 ∧ -1 ≤ a3.toInt) ∧ 0 ≤ (gV σ 26 0 (a1.toInt.toNat)).toInt ∧ (1 : Int) ≤ (gV σ 27 0 (a1.toInt.toNat)).toInt ∧ ¬ AlJ σ (a1.toInt.toNat) (1 : Int) 1 20 ∧ r.toInt = -1000001) ∨ (((0 ≤ a1.toInt ∧ a1.toInt ≤ 7) ∧ 1 ≤ (1 : Int) ∧ (1 : Int) ≤ 5 ∧ -1 ≤ a3.toInt) ∧ 0 ≤ (gV σ 26 0 (a1.toInt.toNat)).toInt ∧ (1 : Int) ≤ (gV σ 27 0 (a1.toInt.toNat)).toInt ∧ AlJ σ (a1.toInt.toNat) (1 : Int) 1 20 ∧ RESB r a3 1 (bbest (nuJ σ (a1.toInt.toNat) 1) 1))))) args s 0 0 (aG G)) 14 G 0 0 138 [some (.ref (G.1 22 0)), some (.int a1), some (.int 1), some (.int a3), some (.int 1), some (.int y5), some (.int y6), some (.int y7), none, none, none, none, none, none] [] τ := by
    intro n
    induction n with
    | zero => intro τ y5 y6 y7 iτ fτ b_a1 b_a3 b_y5 b_y6 b_y7 n1 nL nB hm; exact absurd hm (Nat.not_lt_zero _)
    | succ n ih138 =>
      intro τ y5 y6 y7 iτ fτ b_a1 b_a3 b_y5 b_y6 b_y7 n1 nL nB hm138
      have u2 : IV (gV τ 27 0 (a1.toInt.toNat)) 0 40 := iτ.1 27 0 (a1.toInt.toNat)
      have hν := nuJ_b (n := 1) nL (by omega)
      refine m_iload C dX12_bells_138 rfl ?_
      refine m_iload C dX12_bells_140 rfl ?_
      refine m_icmp_ge (tgt := 285) C dX12_bells_142 (by decide) (fun c3 => ?_) (fun c3 => ?_)
      · have f4 : 1 ≤ y7.toInt := by
          have q : _ := c3
          simp only [ti_nle, ti_nlt, ti_le, ti_lt, ti_eq, ti_ne, Classical.not_not, kt_1] at q
          omega
        have b5 : IV y7 1 1 := ⟨by have q1 := kc_1; have q2 := b_y7; omega, by have q1 := kc_1; have q2 := b_y7; omega⟩
        obtain ⟨q6a, q6b, q6c⟩ := nB.fin (by rw [show y7.toInt.toNat = 1 by omega]) hν (by decide) (by decide)
        have b7 : IV y5 0 0 := ⟨by omega, by have q := b_y5; omega⟩
        refine m_iload_n C dX12_bells_285 rfl rfl ?_
        refine m_if_ge (tgt := 292) C dX12_bells_286 (by decide) (fun c8 => ?_) (fun c8 => ?_)
        · have f9 : 0 ≤ a3.toInt := by
            have q : _ := c8
            simp only [ti_nle, ti_nlt, ti_le, ti_lt, ti_eq, ti_ne, Classical.not_not, kt_0] at q
            omega
          have b10 : IV a3 0 2147483647 := ⟨by have q1 := kc_0; have q2 := b_a3; omega, by have q1 := kc_0; have q2 := b_a3; omega⟩
          refine m_iload C dX12_bells_292 rfl ?_
          refine m_istore (L1 := [some (.ref (G.1 22 0)), some (.int a1), some (.int 1), some (.int a3), some (.int 1), some (.int y5), some (.int y6), some (.int 1), none, none, none, none, none, none]) C dX12_bells_294 (by decide) rfl rfl ?_
          refine m_iconst (v := 0) C dX12_bells_296 (by decide) ?_
          refine m_istore (L1 := [some (.ref (G.1 22 0)), some (.int a1), some (.int 1), some (.int a3), some (.int 1), some (.int y5), some (.int y6), some (.int 1), some (.int 0), none, none, none, none, none]) C dX12_bells_297 (by decide) rfl rfl ?_
          refine m_iload C dX12_bells_299 rfl ?_
          refine m_iload_n C dX12_bells_301 rfl rfl ?_
          refine m_icmp_gt (tgt := 323) C dX12_bells_302 (by decide) (fun c11 => ?_) (fun c11 => ?_)
          · exfalso
            have q : _ := c11
            simp only [ti_nle, ti_nlt, ti_le, ti_lt, ti_eq, ti_ne, Classical.not_not, kt_0] at q
            have q1 := kc_0; have q2 := b10; omega
          · have f13 : 0 ≤ a3.toInt := by
              have q : _ := c11
              simp only [ti_nle, ti_nlt, ti_le, ti_lt, ti_eq, ti_ne, Classical.not_not, kt_0] at q
              omega
            refine m_iload C dX12_bells_305 rfl ?_
            refine m_iload_n C dX12_bells_307 rfl rfl ?_
            refine m_icmp_ge (tgt := 323) C dX12_bells_308 (by decide) (fun c14 => ?_) (fun c14 => ?_)
            · first | exact absurd c14 (by decide) | exact absurd (by decide) c14
            · have f16 : 0 < 1 := by
                have q : _ := c14
                simp only [ti_nle, ti_nlt, ti_le, ti_lt, ti_eq, ti_ne, Classical.not_not, kt_0, kt_1] at q
                omega
              refine m_iload C dX12_bells_311 rfl ?_
              refine m_iload_n C dX12_bells_313 rfl rfl ?_
              refine m_idiv C dX12_bells_314 (iv_nz kc_1 (by decide)) ?_
              refine m_topi (fun x17 ex17 => ?_)
              have b18 : IV x17 1 1 := by rw [ex17]; decide
              have tx17 : x17.toInt = 1 := by rw [ex17]; decide
              obtain rfl : x17 = 1 := by rw [ex17]; decide
              refine m_istore (L1 := [some (.ref (G.1 22 0)), some (.int a1), some (.int 1), some (.int a3), some (.int 1), some (.int y5), some (.int y6), some (.int 1), some (.int 0), none, none, none, none, none]) C dX12_bells_315 (by decide) rfl rfl ?_
              obtain ⟨x19, ex19⟩ : ∃ y : Int32, y = 0 + 1 := ⟨_, rfl⟩
              have b20 : IV x19 1 1 := by rw [ex19]; decide
              have tx19 : x19.toInt = 1 := by rw [ex19]; decide
              obtain rfl : x19 = 1 := by rw [ex19]; decide
              refine m_iinc (v := 1) (L1 := [some (.ref (G.1 22 0)), some (.int a1), some (.int 1), some (.int a3), some (.int 1), some (.int y5), some (.int y6), some (.int 1), some (.int 1), none, none, none, none, none]) C dX12_bells_317 rfl (by decide) (by decide) rfl rfl ?_
              refine m_goto (tgt := 299) C dX12_bells_320 (by decide) ?_
              refine m_iload C dX12_bells_299 rfl ?_
              refine m_iload_n C dX12_bells_301 rfl rfl ?_
              refine m_icmp_gt (tgt := 323) C dX12_bells_302 (by decide) (fun c21 => ?_) (fun c21 => ?_)
              · have f22 : a3.toInt < 1 := by
                  have q : _ := c21
                  simp only [ti_nle, ti_nlt, ti_le, ti_lt, ti_eq, ti_ne, Classical.not_not, kt_1] at q
                  omega
                have b23 : IV a3 0 0 := ⟨by have q1 := b10; have q2 := kc_1; omega, by have q1 := b10; have q2 := kc_1; omega⟩
                refine m_iload_n C dX12_bells_323 rfl rfl ?_
                refine m_iload_n C dX12_bells_324 rfl rfl ?_
                refine m_icmp_ge (tgt := 338) C dX12_bells_325 (by decide) (fun c24 => ?_) (fun c24 => ?_)
                · exfalso
                  have q : _ := c24
                  simp only [ti_nle, ti_nlt, ti_le, ti_lt, ti_eq, ti_ne, Classical.not_not, kt_1] at q
                  have q1 := b23; have q2 := kc_1; omega
                · have f26 : a3.toInt < 1 := by
                    have q : _ := c24
                    simp only [ti_nle, ti_nlt, ti_le, ti_lt, ti_eq, ti_ne, Classical.not_not, kt_1] at q
                    omega
                  refine m_iload C dX12_bells_328 rfl ?_
                  refine m_iload C dX12_bells_330 rfl ?_
                  refine m_idiv C dX12_bells_332 (iv_nz kc_1 (by decide)) ?_
                  refine m_topi (fun x27 ex27 => ?_)
                  have b28 : IV x27 0 0 := by rw [ex27]; exact iv_div b7 kc_1 (by decide)
                  have tx27 : x27.toInt = y5.toInt / 1 := by rw [ex27]; exact ti_divc b7 kc_1 (by decide)
                  refine m_iload_n C dX12_bells_333 rfl rfl ?_
                  refine m_irem C dX12_bells_334 (iv_nz kc_1 (by decide)) ?_
                  refine m_topi (fun x29 ex29 => ?_)
                  have b30 : IV x29 0 0 := by rw [ex29]; exact iv_rem b28 kc_1 (by decide)
                  have tx29 : x29.toInt = x27.toInt % 1 := by rw [ex29]; exact ti_rem b28 kc_1 (by decide)
                  refine m_goto (tgt := 340) C dX12_bells_335 (by decide) ?_
                  exact m_iret C hr hlk (by decide) (by decide) dX12_bells_340 ⟨_, rfl, iτ, fτ, (iv_wk b30 (by decide)), (Or.inr (Or.inr (Or.inr (Or.inr (⟨by omega, by omega, by omega, nL, ⟨fun g => absurd g (by omega), fun _ _ => by rw [q6c, show a3.toInt.toNat = 0 by omega]; show _ = (((y5.toInt.toNat / 1 % 1 : Nat)) : Int); omega, fun g => absurd g (by omega)⟩⟩)))))⟩
              · have f31 : 1 ≤ a3.toInt := by
                  have q : _ := c21
                  simp only [ti_nle, ti_nlt, ti_le, ti_lt, ti_eq, ti_ne, Classical.not_not, kt_1] at q
                  omega
                have b32 : IV a3 1 2147483647 := ⟨by have q1 := kc_1; have q2 := b10; omega, by have q1 := kc_1; have q2 := b10; omega⟩
                refine m_iload C dX12_bells_305 rfl ?_
                refine m_iload_n C dX12_bells_307 rfl rfl ?_
                refine m_icmp_ge (tgt := 323) C dX12_bells_308 (by decide) (fun c33 => ?_) (fun c33 => ?_)
                · have f34 : 1 ≤ 1 := by
                    have q : _ := c33
                    simp only [ti_nle, ti_nlt, ti_le, ti_lt, ti_eq, ti_ne, Classical.not_not, kt_1, kt_1] at q
                    omega
                  refine m_iload_n C dX12_bells_323 rfl rfl ?_
                  refine m_iload_n C dX12_bells_324 rfl rfl ?_
                  refine m_icmp_ge (tgt := 338) C dX12_bells_325 (by decide) (fun c35 => ?_) (fun c35 => ?_)
                  · have f36 : 1 ≤ a3.toInt := by
                      have q : _ := c35
                      simp only [ti_nle, ti_nlt, ti_le, ti_lt, ti_eq, ti_ne, Classical.not_not, kt_1] at q
                      omega
                    refine m_ldc (v := (-1000000)) C dX12_bells_338 q5_70 ?_
                    exact m_iret C hr hlk (by decide) (by decide) dX12_bells_340 ⟨_, rfl, iτ, fτ, (iv_wk kc_m1000000 (by decide)), (Or.inr (Or.inr (Or.inr (Or.inr (⟨by have qk := kt_m1000000; omega, by have qk := kt_m1000000; omega, by have qk := kt_m1000000; omega, nL, ⟨fun g => absurd g (by omega), fun _ g => absurd g (by omega), fun _ => kt_m1000000⟩⟩)))))⟩
                  · exfalso
                    have q : _ := c35
                    simp only [ti_nle, ti_nlt, ti_le, ti_lt, ti_eq, ti_ne, Classical.not_not, kt_1] at q
                    have q1 := b32; have q2 := kc_1; omega
                · first | exact absurd c33 (by decide) | exact absurd (by decide) c33
        · have f39 : a3.toInt < 0 := by
            have q : _ := c8
            simp only [ti_nle, ti_nlt, ti_le, ti_lt, ti_eq, ti_ne, Classical.not_not, kt_0] at q
            omega
          have b40 : IV a3 (-1) (-1) := ⟨by have q1 := b_a3; have q2 := kc_0; omega, by have q1 := b_a3; have q2 := kc_0; omega⟩
          refine m_iload C dX12_bells_289 rfl ?_
          exact m_iret C hr hlk (by decide) (by decide) dX12_bells_291 ⟨_, rfl, iτ, fτ, b_y6, (Or.inr (Or.inr (Or.inr (Or.inr (⟨by omega, by omega, by omega, nL, ⟨fun _ => q6b.symm, fun g => absurd g (by omega), fun g => absurd g (by omega)⟩⟩)))))⟩
      · have f41 : y7.toInt < 1 := by
          have q : _ := c3
          simp only [ti_nle, ti_nlt, ti_le, ti_lt, ti_eq, ti_ne, Classical.not_not, kt_1] at q
          omega
        have b42 : IV y7 0 0 := ⟨by have q1 := b_y7; have q2 := kc_1; omega, by have q1 := b_y7; have q2 := kc_1; omega⟩
        refine m_iconst (v := 0) C dX12_bells_145 (by decide) ?_
        refine m_istore (L1 := [some (.ref (G.1 22 0)), some (.int a1), some (.int 1), some (.int a3), some (.int 1), some (.int y5), some (.int y6), some (.int y7), some (.int 0), none, none, none, none, none]) C dX12_bells_146 (by decide) rfl rfl ?_
        refine m_iload C dX12_bells_148 rfl ?_
        refine m_istore (L1 := [some (.ref (G.1 22 0)), some (.int a1), some (.int 1), some (.int a3), some (.int 1), some (.int y5), some (.int y6), some (.int y7), some (.int 0), some (.int 1), none, none, none, none]) C dX12_bells_150 (by decide) rfl rfl ?_
        refine m_iconst (v := 0) C dX12_bells_152 (by decide) ?_
        refine m_istore (L1 := [some (.ref (G.1 22 0)), some (.int a1), some (.int 1), some (.int a3), some (.int 1), some (.int y5), some (.int y6), some (.int y7), some (.int 0), some (.int 1), some (.int 0), none, none, none]) C dX12_bells_153 (by decide) rfl rfl ?_
        refine m_iconst (v := 0) C dX12_bells_155 (by decide) ?_
        refine m_istore (L1 := [some (.ref (G.1 22 0)), some (.int a1), some (.int 1), some (.int a3), some (.int 1), some (.int y5), some (.int y6), some (.int y7), some (.int 0), some (.int 1), some (.int 0), some (.int 0), none, none]) C dX12_bells_156 (by decide) rfl rfl ?_
        refine m_iconst (v := 0) C dX12_bells_158 (by decide) ?_
        refine m_istore (L1 := [some (.ref (G.1 22 0)), some (.int a1), some (.int 1), some (.int a3), some (.int 1), some (.int y5), some (.int y6), some (.int y7), some (.int 0), some (.int 1), some (.int 0), some (.int 0), some (.int 0), none]) C dX12_bells_159 (by decide) rfl rfl ?_
        refine m_iload C dX12_bells_161 rfl ?_
        refine m_iload_n C dX12_bells_163 rfl rfl ?_
        refine m_icmp_ge (tgt := 249) C dX12_bells_164 (by decide) (fun c43 => ?_) (fun c43 => ?_)
        · first | exact absurd c43 (by decide) | exact absurd (by decide) c43
        · have f45 : 0 < 1 := by
            have q : _ := c43
            simp only [ti_nle, ti_nlt, ti_le, ti_lt, ti_eq, ti_ne, Classical.not_not, kt_0, kt_1] at q
            omega
          refine m_iload C dX12_bells_167 rfl ?_
          refine m_iload_n C dX12_bells_169 rfl rfl ?_
          refine m_idiv C dX12_bells_170 (iv_nz kc_1 (by decide)) ?_
          refine m_topi (fun x46 ex46 => ?_)
          have b47 : IV x46 1 1 := by rw [ex46]; decide
          have tx46 : x46.toInt = 1 := by rw [ex46]; decide
          obtain rfl : x46 = 1 := by rw [ex46]; decide
          refine m_istore (L1 := [some (.ref (G.1 22 0)), some (.int a1), some (.int 1), some (.int a3), some (.int 1), some (.int y5), some (.int y6), some (.int y7), some (.int 0), some (.int 1), some (.int 0), some (.int 0), some (.int 0), none]) C dX12_bells_171 (by decide) rfl rfl ?_
          refine m_iload C dX12_bells_173 rfl ?_
          refine m_iload C dX12_bells_175 rfl ?_
          refine m_idiv C dX12_bells_177 (iv_nz kc_1 (by decide)) ?_
          refine m_topi (fun x48 ex48 => ?_)
          have b49 : IV x48 0 0 := by rw [ex48]; exact iv_div b42 kc_1 (by decide)
          have tx48 : x48.toInt = y7.toInt / 1 := by rw [ex48]; exact ti_divc b42 kc_1 (by decide)
          refine m_iload_n C dX12_bells_178 rfl rfl ?_
          refine m_irem C dX12_bells_179 (iv_nz kc_1 (by decide)) ?_
          refine m_topi (fun x50 ex50 => ?_)
          have b51 : IV x50 0 0 := by rw [ex50]; exact iv_rem b49 kc_1 (by decide)
          have tx50 : x50.toInt = x48.toInt % 1 := by rw [ex50]; exact ti_rem b49 kc_1 (by decide)
          refine m_istore (L1 := [some (.ref (G.1 22 0)), some (.int a1), some (.int 1), some (.int a3), some (.int 1), some (.int y5), some (.int y6), some (.int y7), some (.int 0), some (.int 1), some (.int 0), some (.int 0), some (.int 0), some (.int x50)]) C dX12_bells_180 (by decide) rfl rfl ?_
          refine m_iload C dX12_bells_182 rfl ?_
          refine m_iconst (v := 1) C dX12_bells_184 (by decide) ?_
          refine m_iload C dX12_bells_185 rfl ?_
          refine m_ishl C dX12_bells_187 ?_
          refine m_topi (fun x52 ex52 => ?_)
          have b53 : IV x52 1 1 := by rw [ex52]; exact iv_shl1 b51 (by decide)
          refine m_ior C dX12_bells_188 ?_
          refine m_topi (fun x54 ex54 => ?_)
          have b55 : IV x54 0 1 := by rw [ex54]; exact iv_or 1 kc_0 b53 (by decide)
          refine m_istore (L1 := [some (.ref (G.1 22 0)), some (.int a1), some (.int 1), some (.int a3), some (.int 1), some (.int y5), some (.int y6), some (.int y7), some (.int x54), some (.int 1), some (.int 0), some (.int 0), some (.int 0), some (.int x50)]) C dX12_bells_189 (by decide) rfl rfl ?_
          refine m_iload C dX12_bells_191 rfl ?_
          refine m_iload C dX12_bells_193 rfl ?_
          refine m_iconst (v := 2) C dX12_bells_195 (by decide) ?_
          refine m_irem C dX12_bells_196 (iv_nz kc_2 (by decide)) ?_
          refine m_topi (fun x56 ex56 => ?_)
          have b57 : IV x56 0 0 := by rw [ex56]; decide
          have tx56 : x56.toInt = 0 := by rw [ex56]; decide
          obtain rfl : x56 = 0 := by rw [ex56]; decide
          refine m_if_ne (tgt := 215) C dX12_bells_197 (by decide) (fun c58 => ?_) (fun c58 => ?_)
          · first | exact absurd c58 (by decide) | exact absurd (by decide) c58
          · have f60 : 0 = 0 := by
              have q : _ := c58
              simp only [ti_nle, ti_nlt, ti_le, ti_lt, ti_eq, ti_ne, Classical.not_not, kt_0, kt_0] at q
              omega
            refine m_aload_n C dX12_bells_200 rfl rfl ?_
            refine g_22_2 C q4_118 dX12_bells_201 ?_
            refine m_bipush (v := 40) C dX12_bells_204 (by decide) ?_
            refine m_iload_n C dX12_bells_206 rfl rfl ?_
            refine m_imul C dX12_bells_207 ?_
            refine m_topi (fun x61 ex61 => ?_)
            have tx61 : x61.toInt = 40 * a1.toInt := by rw [ex61, ti_mulv kc_40 b_a1 (by decide), kt_40]
            have b62 : IV x61 0 280 := by rw [ex61]; exact iv_mul kc_40 b_a1 (by decide)
            refine m_iload C dX12_bells_208 rfl ?_
            refine m_iadd C dX12_bells_210 ?_
            refine m_topi (fun x63 ex63 => ?_)
            have tx63 : x63.toInt = x61.toInt + x50.toInt := by rw [ex63, ti_addv b62 b51 (by decide)]
            have b64 : IV x63 0 280 := by rw [ex63]; exact iv_add b62 b51 (by decide)
            refine al_25 C b64 (by decide) rfl dX12_bells_211 ?_
            refine m_topi (fun x65 ex65 => ?_)
            have q66 : (nuJ σ (a1.toInt.toNat) 1) (y7.toInt.toNat / 1 % 1) = x65.toInt := by unfold nuJ; rw [if_pos (by omega), show 40 * (a1.toInt.toNat) + (y7.toInt.toNat / 1 % 1) = (x63.toInt.toNat) by omega, ← (fτ).1 25 0 (x63.toInt.toNat) (by simp) (by decide), show gV τ 25 0 (x63.toInt.toNat) = x65 from ex65.symm]
            have q68 := hν (y7.toInt.toNat / 1 % 1)
            have b67 : IV x65 0 20 := ⟨by omega, by omega⟩
            refine m_goto (tgt := 228) C dX12_bells_212 (by decide) ?_
            refine m_iadd C dX12_bells_228 ?_
            refine m_topi (fun x69 ex69 => ?_)
            have tx69 : x69.toInt = 0 + x65.toInt := by rw [ex69, ti_addv kc_0 b67 (by decide), kt_0]
            have b70 : IV x69 0 20 := by rw [ex69]; exact iv_add kc_0 b67 (by decide)
            refine m_istore (L1 := [some (.ref (G.1 22 0)), some (.int a1), some (.int 1), some (.int a3), some (.int 1), some (.int y5), some (.int y6), some (.int y7), some (.int x54), some (.int 1), some (.int x69), some (.int 0), some (.int 0), some (.int x50)]) C dX12_bells_229 (by decide) rfl rfl ?_
            refine m_iload C dX12_bells_231 rfl ?_
            refine m_iload C dX12_bells_233 rfl ?_
            refine m_callS (n := 1) (st := [.int 0]) C (c_X12_sizeOfB l G τ (x69) iτ (iv_wk b70 (by decide))) q5_96 q5_94 q5_95 q1_7 (by decide +kernel) rfl (by decide) (by decide) rfl (Nat.le_of_ble_eq_true rfl) dX12_bells_235 ?_
            rintro _ τ71 ⟨x74, rfl, i72, f73, b75, h77⟩
            have g76 : Fr MS_X12_bells_1Z AS_X12_bells_1Z σ τ71 := Fr.call (fτ) f73 (by decide)
            have q78 : (gV τ71 26 0 (a1.toInt.toNat)).toInt = (gV τ 26 0 (a1.toInt.toNat)).toInt := congrArg Int32.toInt (show (gV τ71 26 0 (a1.toInt.toNat)) = (gV τ 26 0 (a1.toInt.toNat)) from (show gV τ71 26 0 (a1.toInt.toNat) = (gV τ 26 0 (a1.toInt.toNat)) from (f73.1 26 0 ((a1.toInt.toNat)) (by simp) (by decide)).trans rfl))
            have q79 : (gV τ71 27 0 (a1.toInt.toNat)).toInt = (gV τ 27 0 (a1.toInt.toNat)).toInt := congrArg Int32.toInt (show (gV τ71 27 0 (a1.toInt.toNat)) = (gV τ 27 0 (a1.toInt.toNat)) from (show gV τ71 27 0 (a1.toInt.toNat) = (gV τ 27 0 (a1.toInt.toNat)) from (f73.1 27 0 ((a1.toInt.toNat)) (by simp) (by decide)).trans rfl))
            show MW p l e _ s m args below meth c _ 14 G 0 0 238 [some (.ref (G.1 22 0)), some (.int a1), some (.int 1), some (.int a3), some (.int 1), some (.int y5), some (.int y6), some (.int y7), some (.int x54), some (.int 1), some (.int x69), some (.int 0), some (.int 0), some (.int x50)] [.int x74, .int 0] τ71
            have q80 := kt_0
            refine m_callS (n := 2) (st := []) C (c_X12_greaterB l G τ71 (0) (x74) i72 ) q5_99 q5_97 q5_98 q1_7 (by decide +kernel) rfl (by decide) (by decide) rfl (Nat.le_of_ble_eq_true rfl) dX12_bells_238 ?_
            rintro _ τ81 ⟨x84, rfl, i82, f83, b85, h87⟩
            have g86 : Fr MS_X12_bells_1Z AS_X12_bells_1Z σ τ81 := Fr.call (g76) f83 (by decide)
            have q88 : (gV τ81 26 0 (a1.toInt.toNat)).toInt = (gV τ 26 0 (a1.toInt.toNat)).toInt := congrArg Int32.toInt (show (gV τ81 26 0 (a1.toInt.toNat)) = (gV τ 26 0 (a1.toInt.toNat)) from (show gV τ81 26 0 (a1.toInt.toNat) = (gV τ 26 0 (a1.toInt.toNat)) from (f83.1 26 0 ((a1.toInt.toNat)) (by simp) (by decide)).trans (show gV τ71 26 0 (a1.toInt.toNat) = (gV τ 26 0 (a1.toInt.toNat)) from (f73.1 26 0 ((a1.toInt.toNat)) (by simp) (by decide)).trans rfl)))
            have q89 : (gV τ81 27 0 (a1.toInt.toNat)).toInt = (gV τ 27 0 (a1.toInt.toNat)).toInt := congrArg Int32.toInt (show (gV τ81 27 0 (a1.toInt.toNat)) = (gV τ 27 0 (a1.toInt.toNat)) from (show gV τ81 27 0 (a1.toInt.toNat) = (gV τ 27 0 (a1.toInt.toNat)) from (f83.1 27 0 ((a1.toInt.toNat)) (by simp) (by decide)).trans (show gV τ71 27 0 (a1.toInt.toNat) = (gV τ 27 0 (a1.toInt.toNat)) from (f73.1 27 0 ((a1.toInt.toNat)) (by simp) (by decide)).trans rfl)))
            show MW p l e _ s m args below meth c _ 14 G 0 0 241 [some (.ref (G.1 22 0)), some (.int a1), some (.int 1), some (.int a3), some (.int 1), some (.int y5), some (.int y6), some (.int y7), some (.int x54), some (.int 1), some (.int x69), some (.int 0), some (.int 0), some (.int x50)] [.int x84] τ81
            refine m_istore (L1 := [some (.ref (G.1 22 0)), some (.int a1), some (.int 1), some (.int a3), some (.int 1), some (.int y5), some (.int y6), some (.int y7), some (.int x54), some (.int 1), some (.int x69), some (.int x84), some (.int 0), some (.int x50)]) C dX12_bells_241 (by decide) rfl rfl ?_
            have q91 : x50 = nI (y7.toInt.toNat / 1 % 1) := nI_of_ti (by omega) (by omega)
            rw [kt_0] at h87
            have h90 : bst (nuJ σ (a1.toInt.toNat) 1) 0 0 0 [(y7.toInt.toNat / 1 % 1)] = (x69.toInt, x84.toInt) := by
              have q := bst_one (b := (y7.toInt.toNat / 1 % 1)) (k := 0) (show bst (nuJ σ (a1.toInt.toNat) 1) 0 0 0 [] = (0, 0) from rfl) rfl
              rw [if_pos (by decide), show 0 + (nuJ σ (a1.toInt.toNat) 1) (y7.toInt.toNat / 1 % 1) = x69.toInt by omega, ← h77, ← h87] at q
              exact q
            clear h77 h87
            obtain ⟨x92, ex92⟩ : ∃ y : Int32, y = 0 + 1 := ⟨_, rfl⟩
            have b93 : IV x92 1 1 := by rw [ex92]; decide
            have tx92 : x92.toInt = 1 := by rw [ex92]; decide
            obtain rfl : x92 = 1 := by rw [ex92]; decide
            refine m_iinc (v := 1) (L1 := [some (.ref (G.1 22 0)), some (.int a1), some (.int 1), some (.int a3), some (.int 1), some (.int y5), some (.int y6), some (.int y7), some (.int x54), some (.int 1), some (.int x69), some (.int x84), some (.int 1), some (.int x50)]) C dX12_bells_243 rfl (by decide) (by decide) rfl rfl ?_
            refine m_goto (tgt := 161) C dX12_bells_246 (by decide) ?_
            refine m_iload C dX12_bells_161 rfl ?_
            refine m_iload_n C dX12_bells_163 rfl rfl ?_
            refine m_icmp_ge (tgt := 249) C dX12_bells_164 (by decide) (fun c94 => ?_) (fun c94 => ?_)
            · have f95 : 1 ≤ 1 := by
                have q : _ := c94
                simp only [ti_nle, ti_nlt, ti_le, ti_lt, ti_eq, ti_ne, Classical.not_not, kt_1, kt_1] at q
                omega
              have h96u : x54 = usedX 1 y7.toInt.toNat := by rw [ex54, ex52, q91]; rfl
              have h96 := used_all 1 (by decide) (by decide) y7.toInt.toNat (by omega)
              rw [← h96u] at h96
              have h97 : x84.toInt = bcost (nuJ σ (a1.toInt.toNat) 1) (bdg 1 y7.toInt.toNat) := (bcost_of (show bst (nuJ σ (a1.toInt.toNat) 1) 0 0 0 (bdg 1 y7.toInt.toNat) = _ from h90)).symm
              refine m_iload C dX12_bells_249 rfl ?_
              refine m_iconst (v := 1) C dX12_bells_251 (by decide) ?_
              refine m_iload_n C dX12_bells_252 rfl rfl ?_
              refine m_ishl C dX12_bells_253 ?_
              refine m_topi (fun x98 ex98 => ?_)
              have b99 : IV x98 2 2 := by rw [ex98]; decide
              have tx98 : x98.toInt = 2 := by rw [ex98]; decide
              obtain rfl : x98 = 2 := by rw [ex98]; decide
              refine m_iconst (v := 1) C dX12_bells_254 (by decide) ?_
              refine m_isub C dX12_bells_255 ?_
              refine m_topi (fun x100 ex100 => ?_)
              have b101 : IV x100 1 1 := by rw [ex100]; decide
              have tx100 : x100.toInt = 1 := by rw [ex100]; decide
              obtain rfl : x100 = 1 := by rw [ex100]; decide
              refine m_icmp_ne (tgt := 279) C dX12_bells_256 (by decide) (fun c102 => ?_) (fun c102 => ?_)
              · have f103 : x54.toInt ≠ 1 := by
                  have q : _ := c102
                  simp only [ti_nle, ti_nlt, ti_le, ti_lt, ti_eq, ti_ne, Classical.not_not, kt_1] at q
                  omega
                have b104 : IV x54 0 0 := ⟨by have q1 := b55; have q2 := kc_1; omega, by have q1 := b55; have q2 := kc_1; omega⟩
                have q105 : ¬ x54 = nI (2 ^ 1 - 1) := fun g => by have g2 := congrArg Int32.toInt g; rw [show (nI (2 ^ 1 - 1)).toInt = 1 by decide] at g2; omega
                obtain ⟨x106, ex106⟩ : ∃ y : Int32, y = y7 + 1 := ⟨_, rfl⟩
                have tx106 : x106.toInt = y7.toInt + 1 := by rw [ex106, ti_addv b42 kc_1 (by decide), kt_1]
                have b107 : IV x106 1 1 := by rw [ex106]; exact iv_add b42 kc_1 (by decide)
                refine m_iinc (v := x106) (L1 := [some (.ref (G.1 22 0)), some (.int a1), some (.int 1), some (.int a3), some (.int 1), some (.int y5), some (.int y6), some (.int x106), some (.int x54), some (.int 1), some (.int x69), some (.int x84), some (.int 1), some (.int x50)]) C dX12_bells_279 rfl (by rw [ex106]; rfl) (by decide) rfl rfl ?_
                refine m_goto (tgt := 138) C dX12_bells_282 (by decide) ?_
                refine m_sub (L1 := [some (.ref (G.1 22 0)), some (.int a1), some (.int 1), some (.int a3), some (.int 1), some (.int y5), some (.int y6), some (.int x106), none, none, none, none, none, none]) ⟨rfl, ⟨rfl, ⟨rfl, ⟨rfl, ⟨rfl, ⟨rfl, ⟨rfl, ⟨rfl, trivial⟩⟩⟩⟩⟩⟩⟩⟩ ?_
                exact ih138 τ81 y5 y6 x106 i82 g86 b_a1 b_a3 b_y5 b_y6 (iv_wk b107 (by decide)) (by omega) nL (nB.no (fun g => q105 (h96.mpr g)) (by omega)) (by have q := hm138; omega)
              · have f108 : x54.toInt = 1 := by
                  have q : _ := c102
                  simp only [ti_nle, ti_nlt, ti_le, ti_lt, ti_eq, ti_ne, Classical.not_not, kt_1] at q
                  omega
                have b109 : IV x54 1 1 := ⟨by have q1 := b55; have q2 := kc_1; omega, by have q1 := b55; have q2 := kc_1; omega⟩
                have q110 : x54 = nI (2 ^ 1 - 1) := Int32.toInt_inj.mp (by rw [show (nI (2 ^ 1 - 1)).toInt = 1 by decide]; omega)
                refine m_iload C dX12_bells_259 rfl ?_
                refine m_if_lt (tgt := 271) C dX12_bells_261 (by decide) (fun c111 => ?_) (fun c111 => ?_)
                · have f112 : y5.toInt < 0 := by
                    have q : _ := c111
                    simp only [ti_nle, ti_nlt, ti_le, ti_lt, ti_eq, ti_ne, Classical.not_not, kt_0] at q
                    omega
                  have b113 : IV y5 (-1) (-1) := ⟨by have q1 := b_y5; have q2 := kc_0; omega, by have q1 := b_y5; have q2 := kc_0; omega⟩
                  refine m_iload C dX12_bells_271 rfl ?_
                  refine m_istore (L1 := [some (.ref (G.1 22 0)), some (.int a1), some (.int 1), some (.int a3), some (.int 1), some (.int y7), some (.int y6), some (.int y7), some (.int x54), some (.int 1), some (.int x69), some (.int x84), some (.int 1), some (.int x50)]) C dX12_bells_273 (by decide) rfl rfl ?_
                  refine m_iload C dX12_bells_275 rfl ?_
                  refine m_istore (L1 := [some (.ref (G.1 22 0)), some (.int a1), some (.int 1), some (.int a3), some (.int 1), some (.int y7), some (.int x84), some (.int y7), some (.int x54), some (.int 1), some (.int x69), some (.int x84), some (.int 1), some (.int x50)]) C dX12_bells_277 (by decide) rfl rfl ?_
                  obtain ⟨x114, ex114⟩ : ∃ y : Int32, y = y7 + 1 := ⟨_, rfl⟩
                  have tx114 : x114.toInt = y7.toInt + 1 := by rw [ex114, ti_addv b42 kc_1 (by decide), kt_1]
                  have b115 : IV x114 1 1 := by rw [ex114]; exact iv_add b42 kc_1 (by decide)
                  refine m_iinc (v := x114) (L1 := [some (.ref (G.1 22 0)), some (.int a1), some (.int 1), some (.int a3), some (.int 1), some (.int y7), some (.int x84), some (.int x114), some (.int x54), some (.int 1), some (.int x69), some (.int x84), some (.int 1), some (.int x50)]) C dX12_bells_279 rfl (by rw [ex114]; rfl) (by decide) rfl rfl ?_
                  refine m_goto (tgt := 138) C dX12_bells_282 (by decide) ?_
                  refine m_sub (L1 := [some (.ref (G.1 22 0)), some (.int a1), some (.int 1), some (.int a3), some (.int 1), some (.int y7), some (.int x84), some (.int x114), none, none, none, none, none, none]) ⟨rfl, ⟨rfl, ⟨rfl, ⟨rfl, ⟨rfl, ⟨rfl, ⟨rfl, ⟨rfl, trivial⟩⟩⟩⟩⟩⟩⟩⟩ ?_
                  exact ih138 τ81 y7 x84 x114 i82 g86 b_a1 b_a3 (iv_wk b42 (by decide)) b85 (iv_wk b115 (by decide)) (by omega) nL (BRL.new (m := x84) nB hν (by decide) (by omega) (h96.mp q110) (by omega) h97 (by omega)) (by have q := hm138; omega)
                · have f116 : 0 ≤ y5.toInt := by
                    have q : _ := c111
                    simp only [ti_nle, ti_nlt, ti_le, ti_lt, ti_eq, ti_ne, Classical.not_not, kt_0] at q
                    omega
                  have b117 : IV y5 0 0 := ⟨by have q1 := kc_0; have q2 := b_y5; omega, by have q1 := kc_0; have q2 := b_y5; omega⟩
                  refine m_iload C dX12_bells_264 rfl ?_
                  refine m_iload C dX12_bells_266 rfl ?_
                  refine m_icmp_ge (tgt := 279) C dX12_bells_268 (by decide) (fun c118 => ?_) (fun c118 => ?_)
                  · have f119 : y6.toInt ≤ x84.toInt := by
                      have q : _ := c118
                      simp only [ti_nle, ti_nlt, ti_le, ti_lt, ti_eq, ti_ne, Classical.not_not] at q
                      omega
                    obtain ⟨x120, ex120⟩ : ∃ y : Int32, y = y7 + 1 := ⟨_, rfl⟩
                    have tx120 : x120.toInt = y7.toInt + 1 := by rw [ex120, ti_addv b42 kc_1 (by decide), kt_1]
                    have b121 : IV x120 1 1 := by rw [ex120]; exact iv_add b42 kc_1 (by decide)
                    refine m_iinc (v := x120) (L1 := [some (.ref (G.1 22 0)), some (.int a1), some (.int 1), some (.int a3), some (.int 1), some (.int y5), some (.int y6), some (.int x120), some (.int x54), some (.int 1), some (.int x69), some (.int x84), some (.int 1), some (.int x50)]) C dX12_bells_279 rfl (by rw [ex120]; rfl) (by decide) rfl rfl ?_
                    refine m_goto (tgt := 138) C dX12_bells_282 (by decide) ?_
                    refine m_sub (L1 := [some (.ref (G.1 22 0)), some (.int a1), some (.int 1), some (.int a3), some (.int 1), some (.int y5), some (.int y6), some (.int x120), none, none, none, none, none, none]) ⟨rfl, ⟨rfl, ⟨rfl, ⟨rfl, ⟨rfl, ⟨rfl, ⟨rfl, ⟨rfl, trivial⟩⟩⟩⟩⟩⟩⟩⟩ ?_
                    exact ih138 τ81 y5 y6 x120 i82 g86 b_a1 b_a3 (iv_wk b117 (by decide)) b_y6 (iv_wk b121 (by decide)) (by omega) nL (BRL.stay (m := x84) nB (h96.mp q110) (by omega) h97 (by omega) (by omega)) (by have q := hm138; omega)
                  · have f122 : x84.toInt < y6.toInt := by
                      have q : _ := c118
                      simp only [ti_nle, ti_nlt, ti_le, ti_lt, ti_eq, ti_ne, Classical.not_not] at q
                      omega
                    have b123 : IV x84 (-2147483648) 2147483646 := ⟨by have q1 := b85; have q2 := b_y6; omega, by have q1 := b85; have q2 := b_y6; omega⟩
                    have b124 : IV y6 (-2147483647) 2147483647 := ⟨by have q1 := b85; have q2 := b_y6; omega, by have q1 := b85; have q2 := b_y6; omega⟩
                    refine m_iload C dX12_bells_271 rfl ?_
                    refine m_istore (L1 := [some (.ref (G.1 22 0)), some (.int a1), some (.int 1), some (.int a3), some (.int 1), some (.int y7), some (.int y6), some (.int y7), some (.int x54), some (.int 1), some (.int x69), some (.int x84), some (.int 1), some (.int x50)]) C dX12_bells_273 (by decide) rfl rfl ?_
                    refine m_iload C dX12_bells_275 rfl ?_
                    refine m_istore (L1 := [some (.ref (G.1 22 0)), some (.int a1), some (.int 1), some (.int a3), some (.int 1), some (.int y7), some (.int x84), some (.int y7), some (.int x54), some (.int 1), some (.int x69), some (.int x84), some (.int 1), some (.int x50)]) C dX12_bells_277 (by decide) rfl rfl ?_
                    obtain ⟨x125, ex125⟩ : ∃ y : Int32, y = y7 + 1 := ⟨_, rfl⟩
                    have tx125 : x125.toInt = y7.toInt + 1 := by rw [ex125, ti_addv b42 kc_1 (by decide), kt_1]
                    have b126 : IV x125 1 1 := by rw [ex125]; exact iv_add b42 kc_1 (by decide)
                    refine m_iinc (v := x125) (L1 := [some (.ref (G.1 22 0)), some (.int a1), some (.int 1), some (.int a3), some (.int 1), some (.int y7), some (.int x84), some (.int x125), some (.int x54), some (.int 1), some (.int x69), some (.int x84), some (.int 1), some (.int x50)]) C dX12_bells_279 rfl (by rw [ex125]; rfl) (by decide) rfl rfl ?_
                    refine m_goto (tgt := 138) C dX12_bells_282 (by decide) ?_
                    refine m_sub (L1 := [some (.ref (G.1 22 0)), some (.int a1), some (.int 1), some (.int a3), some (.int 1), some (.int y7), some (.int x84), some (.int x125), none, none, none, none, none, none]) ⟨rfl, ⟨rfl, ⟨rfl, ⟨rfl, ⟨rfl, ⟨rfl, ⟨rfl, ⟨rfl, trivial⟩⟩⟩⟩⟩⟩⟩⟩ ?_
                    exact ih138 τ81 y7 x84 x125 i82 g86 b_a1 b_a3 (iv_wk b42 (by decide)) (iv_wk b123 (by decide)) (iv_wk b126 (by decide)) (by omega) nL (BRL.new (m := x84) nB hν (by decide) (by omega) (h96.mp q110) (by omega) h97 (by omega)) (by have q := hm138; omega)
            · first | exact absurd c94 (by decide) | exact absurd (by decide) c94
  have J61 : ∀ (n : Nat) (τ : Sg) (y4 : Int32), Inv τ → Fr MS_X12_bells_1Z AS_X12_bells_1Z σ τ → IV a1 0 7 → IV a3 (-1) 2147483647 → IV y4 0 1 → (((0 ≤ a1.toInt ∧ a1.toInt ≤ 7) ∧ 1 ≤ (1 : Int) ∧ (1 : Int) ≤ 5 ∧ -1 ≤ a3.toInt ∧ 0 ≤ (gV σ 26 0 (a1.toInt.toNat)).toInt ∧ (1 : Int) ≤ (gV σ 27 0 (a1.toInt.toNat)).toInt)) → (AlJ σ (a1.toInt.toNat) y4.toInt 1 20) → (1 - y4.toInt).toNat < n → MW p l e { frames := 2, cells := 0, slots := 0, locals := 60 } s m args below meth c (MQ below (QP G (PI fun r τ => Inv τ ∧ Fr MS_X12_bells_1Z AS_X12_bells_1Z σ τ ∧ IV r (-2147483648) 2147483647 ∧ (((a1.toInt < 0 ∨ 7 < a1.toInt ∨ (1 : Int) < 1 ∨ 5 < (1 : Int) ∨ a3.toInt < -1) ∧ r.toInt = -1000001) ∨ (((0 ≤ a1.toInt ∧ a1.toInt ≤ 7) ∧ 1 ≤ (1 : Int) ∧ (1 : Int) ≤ 5 ∧ -1 ≤ a3.toInt) ∧ (gV σ 26 0 (a1.toInt.toNat)).toInt < 0 ∧ r.toInt = -1000011) ∨ (((0 ≤ a1.toInt ∧ a1.toInt ≤ 7) ∧ 1 ≤ (1 : Int) ∧ (1 : Int) ≤ 5 ∧ -1 ≤ a3.toInt) ∧ 0 ≤ (gV σ 26 0 (a1.toInt.toNat)).toInt ∧ (gV σ 27 0 (a1.toInt.toNat)).toInt < (1 : Int) ∧ r.toInt = -1000012) ∨ (((0 ≤ a1.toInt ∧ a1.toInt ≤ 7) ∧ 1 ≤ (1 : Int) ∧ (1 : Int) ≤ 5 ∧ -1 ≤ a3.toInt) ∧ 0 ≤ (gV σ 26 0 (a1.toInt.toNat)).toInt ∧ (1 : Int) ≤ (gV σ 27 0 (a1.toInt.toNat)).toInt ∧ ¬ AlJ σ (a1.toInt.toNat) (1 : Int) 1 20 ∧ r.toInt = -1000001) ∨ (((0 ≤ a1.toInt ∧ a1.toInt ≤ 7) ∧ 1 ≤ (1 : Int) ∧ (1 : Int) ≤ 5 ∧ -1 ≤ a3.toInt) ∧ 0 ≤ (gV σ 26 0 (a1.toInt.toNat)).toInt ∧ (1 : Int) ≤ (gV σ 27 0 (a1.toInt.toNat)).toInt ∧ AlJ σ (a1.toInt.toNat) (1 : Int) 1 20 ∧ RESB r a3 1 (bbest (nuJ σ (a1.toInt.toNat) 1) 1))))) args s 0 0 (aG G)) 14 G 0 0 61 [some (.ref (G.1 22 0)), some (.int a1), some (.int 1), some (.int a3), some (.int y4), none, none, none, none, none, none, none, none, none] [] τ := by
    intro n
    induction n with
    | zero => intro τ y4 iτ fτ b_a1 b_a3 b_y4 n128 nL hm; exact absurd hm (Nat.not_lt_zero _)
    | succ n ih61 =>
      intro τ y4 iτ fτ b_a1 b_a3 b_y4 n128 nL hm61
      have u129 : IV (gV τ 27 0 (a1.toInt.toNat)) 0 40 := iτ.1 27 0 (a1.toInt.toNat)
      refine m_iload C dX12_bells_61 rfl ?_
      refine m_iload_n C dX12_bells_63 rfl rfl ?_
      refine m_icmp_ge (tgt := 99) C dX12_bells_64 (by decide) (fun c130 => ?_) (fun c130 => ?_)
      · have f131 : 1 ≤ y4.toInt := by
          have q : _ := c130
          simp only [ti_nle, ti_nlt, ti_le, ti_lt, ti_eq, ti_ne, Classical.not_not, kt_1] at q
          omega
        have b132 : IV y4 1 1 := ⟨by have q1 := kc_1; have q2 := b_y4; omega, by have q1 := kc_1; have q2 := b_y4; omega⟩
        refine m_aload_n C dX12_bells_99 rfl rfl ?_
        refine m_iconst (v := 0) C dX12_bells_100 (by decide) ?_
        refine m_callV (n := 1) (ci := 11) (st := []) C (c_X12_fine l G τ (0) iτ ) (by decide) (by decide) rfl rfl rfl q4_201 q4_198 q4_200 q0_27 q1_7 (by decide +kernel) rfl (by decide) (by decide) rfl (Nat.le_of_ble_eq_true rfl) dX12_bells_101 ?_
        rintro _ τ133 ⟨x136, rfl, i134, f135, b137, h139⟩
        have g138 : Fr MS_X12_bells_1Z AS_X12_bells_1Z σ τ133 := Fr.call (fτ) f135 (by decide)
        have q140 : (gV τ133 26 0 (a1.toInt.toNat)).toInt = (gV τ 26 0 (a1.toInt.toNat)).toInt := congrArg Int32.toInt (show (gV τ133 26 0 (a1.toInt.toNat)) = (gV τ 26 0 (a1.toInt.toNat)) from (show gV τ133 26 0 (a1.toInt.toNat) = (gV τ 26 0 (a1.toInt.toNat)) from (f135.1 26 0 ((a1.toInt.toNat)) (by simp) (by decide)).trans rfl))
        have q141 : (gV τ133 27 0 (a1.toInt.toNat)).toInt = (gV τ 27 0 (a1.toInt.toNat)).toInt := congrArg Int32.toInt (show (gV τ133 27 0 (a1.toInt.toNat)) = (gV τ 27 0 (a1.toInt.toNat)) from (show gV τ133 27 0 (a1.toInt.toNat) = (gV τ 27 0 (a1.toInt.toNat)) from (f135.1 27 0 ((a1.toInt.toNat)) (by simp) (by decide)).trans rfl))
        have q142 := kt_0
        show MW p l e _ s m args below meth c _ 14 G 0 0 104 [some (.ref (G.1 22 0)), some (.int a1), some (.int 1), some (.int a3), some (.int y4), none, none, none, none, none, none, none, none, none] [.int x136] τ133
        refine m_pop C dX12_bells_104 rfl ?_
        refine m_iconst (v := 1) C dX12_bells_105 (by decide) ?_
        refine m_istore (L1 := [some (.ref (G.1 22 0)), some (.int a1), some (.int 1), some (.int a3), some (.int 1), none, none, none, none, none, none, none, none, none]) C dX12_bells_106 (by decide) rfl rfl ?_
        refine m_iconst (v := 0) C dX12_bells_108 (by decide) ?_
        refine m_istore (L1 := [some (.ref (G.1 22 0)), some (.int a1), some (.int 1), some (.int a3), some (.int 1), some (.int 0), none, none, none, none, none, none, none, none]) C dX12_bells_109 (by decide) rfl rfl ?_
        refine m_iload C dX12_bells_111 rfl ?_
        refine m_iload_n C dX12_bells_113 rfl rfl ?_
        refine m_icmp_ge (tgt := 129) C dX12_bells_114 (by decide) (fun c143 => ?_) (fun c143 => ?_)
        · first | exact absurd c143 (by decide) | exact absurd (by decide) c143
        · have f145 : 0 < 1 := by
            have q : _ := c143
            simp only [ti_nle, ti_nlt, ti_le, ti_lt, ti_eq, ti_ne, Classical.not_not, kt_0, kt_1] at q
            omega
          refine m_iload C dX12_bells_117 rfl ?_
          refine m_iload_n C dX12_bells_119 rfl rfl ?_
          refine m_imul C dX12_bells_120 ?_
          refine m_topi (fun x146 ex146 => ?_)
          have b147 : IV x146 1 1 := by rw [ex146]; decide
          have tx146 : x146.toInt = 1 := by rw [ex146]; decide
          obtain rfl : x146 = 1 := by rw [ex146]; decide
          refine m_istore (L1 := [some (.ref (G.1 22 0)), some (.int a1), some (.int 1), some (.int a3), some (.int 1), some (.int 0), none, none, none, none, none, none, none, none]) C dX12_bells_121 (by decide) rfl rfl ?_
          obtain ⟨x148, ex148⟩ : ∃ y : Int32, y = 0 + 1 := ⟨_, rfl⟩
          have b149 : IV x148 1 1 := by rw [ex148]; decide
          have tx148 : x148.toInt = 1 := by rw [ex148]; decide
          obtain rfl : x148 = 1 := by rw [ex148]; decide
          refine m_iinc (v := 1) (L1 := [some (.ref (G.1 22 0)), some (.int a1), some (.int 1), some (.int a3), some (.int 1), some (.int 1), none, none, none, none, none, none, none, none]) C dX12_bells_123 rfl (by decide) (by decide) rfl rfl ?_
          refine m_goto (tgt := 111) C dX12_bells_126 (by decide) ?_
          refine m_iload C dX12_bells_111 rfl ?_
          refine m_iload_n C dX12_bells_113 rfl rfl ?_
          refine m_icmp_ge (tgt := 129) C dX12_bells_114 (by decide) (fun c150 => ?_) (fun c150 => ?_)
          · have f151 : 1 ≤ 1 := by
              have q : _ := c150
              simp only [ti_nle, ti_nlt, ti_le, ti_lt, ti_eq, ti_ne, Classical.not_not, kt_1, kt_1] at q
              omega
            refine m_iconst (v := (-1)) C dX12_bells_129 (by decide) ?_
            refine m_istore (L1 := [some (.ref (G.1 22 0)), some (.int a1), some (.int 1), some (.int a3), some (.int 1), some (.int (-1)), none, none, none, none, none, none, none, none]) C dX12_bells_130 (by decide) rfl rfl ?_
            refine m_iconst (v := 0) C dX12_bells_132 (by decide) ?_
            refine m_istore (L1 := [some (.ref (G.1 22 0)), some (.int a1), some (.int 1), some (.int a3), some (.int 1), some (.int (-1)), some (.int 0), none, none, none, none, none, none, none]) C dX12_bells_133 (by decide) rfl rfl ?_
            refine m_iconst (v := 0) C dX12_bells_135 (by decide) ?_
            refine m_istore (L1 := [some (.ref (G.1 22 0)), some (.int a1), some (.int 1), some (.int a3), some (.int 1), some (.int (-1)), some (.int 0), some (.int 0), none, none, none, none, none, none]) C dX12_bells_136 (by decide) rfl rfl ?_
            exact J138 ((1 - (0 : Int32).toInt).toNat + 1) τ133 (-1) 0 0 i134 g138 b_a1 b_a3 (iv_wk kc_m1 (by decide)) (iv_wk kc_0 (by decide)) (iv_wk kc_0 (by decide)) (by omega) (nL.all (by omega)) (Or.inl ⟨by have q := kt_m1; omega, rfl⟩) (Nat.lt_succ_self _)
          · first | exact absurd c150 (by decide) | exact absurd (by decide) c150
      · have f153 : y4.toInt < 1 := by
          have q : _ := c130
          simp only [ti_nle, ti_nlt, ti_le, ti_lt, ti_eq, ti_ne, Classical.not_not, kt_1] at q
          omega
        have b154 : IV y4 0 0 := ⟨by have q1 := b_y4; have q2 := kc_1; omega, by have q1 := b_y4; have q2 := kc_1; omega⟩
        refine m_aload_n C dX12_bells_67 rfl rfl ?_
        refine g_22_2 C q4_118 dX12_bells_68 ?_
        refine m_bipush (v := 40) C dX12_bells_71 (by decide) ?_
        refine m_iload_n C dX12_bells_73 rfl rfl ?_
        refine m_imul C dX12_bells_74 ?_
        refine m_topi (fun x155 ex155 => ?_)
        have tx155 : x155.toInt = 40 * a1.toInt := by rw [ex155, ti_mulv kc_40 b_a1 (by decide), kt_40]
        have b156 : IV x155 0 280 := by rw [ex155]; exact iv_mul kc_40 b_a1 (by decide)
        refine m_iload C dX12_bells_75 rfl ?_
        refine m_iadd C dX12_bells_77 ?_
        refine m_topi (fun x157 ex157 => ?_)
        have tx157 : x157.toInt = x155.toInt + y4.toInt := by rw [ex157, ti_addv b156 b154 (by decide)]
        have b158 : IV x157 0 280 := by rw [ex157]; exact iv_add b156 b154 (by decide)
        refine al_25 C b158 (by decide) rfl dX12_bells_78 ?_
        refine m_topi (fun x159 ex159 => ?_)
        have q160 : (gV σ 25 0 (40 * (a1.toInt.toNat) + y4.toInt.toNat)).toInt = x159.toInt := by rw [show 40 * (a1.toInt.toNat) + y4.toInt.toNat = (x157.toInt.toNat) by omega, ← (fτ).1 25 0 (x157.toInt.toNat) (by simp) (by decide), show gV τ 25 0 (x157.toInt.toNat) = x159 from ex159.symm]
        refine m_i2l C dX12_bells_79 ?_
        refine m_lconst (v := 1) C dX12_bells_80 (by decide) ?_
        refine m_ldc2 (v := 20) C dX12_bells_81 q5_174 ?_
        refine m_callS (n := 3) (st := []) C (c_X12_in l G τ ((x159 : Int32).toInt64) (1) (20) iτ ) q4_190 q4_188 q4_189 q1_7 (by decide +kernel) rfl (by decide) (by decide) rfl (Nat.le_of_ble_eq_true rfl) dX12_bells_84 ?_
        rintro _ τ161 ⟨x164, rfl, i162, f163, b165, h167⟩
        have g166 : Fr MS_X12_bells_1Z AS_X12_bells_1Z σ τ161 := Fr.call (fτ) f163 (by decide)
        have q168 : (gV τ161 26 0 (a1.toInt.toNat)).toInt = (gV τ 26 0 (a1.toInt.toNat)).toInt := congrArg Int32.toInt (show (gV τ161 26 0 (a1.toInt.toNat)) = (gV τ 26 0 (a1.toInt.toNat)) from (show gV τ161 26 0 (a1.toInt.toNat) = (gV τ 26 0 (a1.toInt.toNat)) from (f163.1 26 0 ((a1.toInt.toNat)) (by simp) (by decide)).trans rfl))
        have q169 : (gV τ161 27 0 (a1.toInt.toNat)).toInt = (gV τ 27 0 (a1.toInt.toNat)).toInt := congrArg Int32.toInt (show (gV τ161 27 0 (a1.toInt.toNat)) = (gV τ 27 0 (a1.toInt.toNat)) from (show gV τ161 27 0 (a1.toInt.toNat) = (gV τ 27 0 (a1.toInt.toNat)) from (f163.1 27 0 ((a1.toInt.toNat)) (by simp) (by decide)).trans rfl))
        have f170 := tl_i x159
        have f171 := kl_1
        have f172 := kl_20
        rcases h167 with ⟨h167_0, h167_1, h167_2⟩ | ⟨h167_0, h167_1⟩
        · skip
          have b173 : IV x164 1 1 := ⟨by omega, by omega⟩
          show MW p l e _ s m args below meth c _ 14 G 0 0 87 [some (.ref (G.1 22 0)), some (.int a1), some (.int 1), some (.int a3), some (.int y4), none, none, none, none, none, none, none, none, none] [.int x164] τ161
          refine m_if_ne (tgt := 93) C dX12_bells_87 (by decide) (fun c174 => ?_) (fun c174 => ?_)
          · have f175 : x164.toInt ≠ 0 := by
              have q : _ := c174
              simp only [ti_nle, ti_nlt, ti_le, ti_lt, ti_eq, ti_ne, Classical.not_not, kt_0] at q
              omega
            have b176 : IV x159 1 20 := ⟨by have q1 := (iv_any x159); omega, by have q1 := (iv_any x159); omega⟩
            obtain ⟨x177, ex177⟩ : ∃ y : Int32, y = y4 + 1 := ⟨_, rfl⟩
            have tx177 : x177.toInt = y4.toInt + 1 := by rw [ex177, ti_addv b154 kc_1 (by decide), kt_1]
            have b178 : IV x177 1 1 := by rw [ex177]; exact iv_add b154 kc_1 (by decide)
            refine m_iinc (v := x177) (L1 := [some (.ref (G.1 22 0)), some (.int a1), some (.int 1), some (.int a3), some (.int x177), none, none, none, none, none, none, none, none, none]) C dX12_bells_93 rfl (by rw [ex177]; rfl) (by decide) rfl rfl ?_
            refine m_goto (tgt := 61) C dX12_bells_96 (by decide) ?_
            exact ih61 τ161 x177 i162 g166 b_a1 b_a3 (iv_wk b178 (by decide)) (by omega) (nL.more (k := y4.toInt.toNat) (by omega) (by omega) ⟨by omega, by omega⟩) (by have q := hm61; omega)
          · exfalso
            have q : _ := c174
            simp only [ti_nle, ti_nlt, ti_le, ti_lt, ti_eq, ti_ne, Classical.not_not, kt_0] at q
            have q1 := b173; have q2 := kc_0; omega
        · skip
          have b180 : IV x164 0 0 := ⟨by omega, by omega⟩
          show MW p l e _ s m args below meth c _ 14 G 0 0 87 [some (.ref (G.1 22 0)), some (.int a1), some (.int 1), some (.int a3), some (.int y4), none, none, none, none, none, none, none, none, none] [.int x164] τ161
          refine m_if_ne (tgt := 93) C dX12_bells_87 (by decide) (fun c181 => ?_) (fun c181 => ?_)
          · exfalso
            have q : _ := c181
            simp only [ti_nle, ti_nlt, ti_le, ti_lt, ti_eq, ti_ne, Classical.not_not, kt_0] at q
            have q1 := b180; have q2 := kc_0; omega
          · have f183 : x164.toInt = 0 := by
              have q : _ := c181
              simp only [ti_nle, ti_nlt, ti_le, ti_lt, ti_eq, ti_ne, Classical.not_not, kt_0] at q
              omega
            refine m_ldc (v := (-1000001)) C dX12_bells_90 q4_192 ?_
            exact m_iret C hr hlk (by decide) (by decide) dX12_bells_92 ⟨_, rfl, i162, g166, (iv_wk kc_m1000001 (by decide)), (Or.inr (Or.inr (Or.inr (Or.inl ⟨by have qk := kt_m1000001; omega, by have qk := kt_m1000001; omega, by have qk := kt_m1000001; omega, (fun g => by have q := g y4.toInt.toNat (by omega); omega), by have qk := kt_m1000001; omega⟩))))⟩
  have u184 : IV (gV σ 27 0 (a1.toInt.toNat)) 0 40 := hI.1 27 0 (a1.toInt.toNat)
  refine m_iload_n C dX12_bells_0 rfl rfl ?_
  refine m_callS (n := 1) (st := []) C (c_X12_isRow l G σ (a1) hI ) q4_186 q4_184 q4_185 q1_7 (by decide +kernel) rfl (by decide) (by decide) rfl (Nat.le_of_ble_eq_true rfl) dX12_bells_1 ?_
  rintro _ τ185 ⟨x188, rfl, i186, f187, b189, h191⟩
  have g190 : Fr MS_X12_bells_1Z AS_X12_bells_1Z σ τ185 := Fr.call (Fr.rf) f187 (by decide)
  have q192 : (gV τ185 26 0 (a1.toInt.toNat)).toInt = (gV σ 26 0 (a1.toInt.toNat)).toInt := congrArg Int32.toInt (show (gV τ185 26 0 (a1.toInt.toNat)) = (gV σ 26 0 (a1.toInt.toNat)) from (show gV τ185 26 0 (a1.toInt.toNat) = (gV σ 26 0 (a1.toInt.toNat)) from (f187.1 26 0 ((a1.toInt.toNat)) (by simp) (by decide)).trans rfl))
  have q193 : (gV τ185 27 0 (a1.toInt.toNat)).toInt = (gV σ 27 0 (a1.toInt.toNat)).toInt := congrArg Int32.toInt (show (gV τ185 27 0 (a1.toInt.toNat)) = (gV σ 27 0 (a1.toInt.toNat)) from (show gV τ185 27 0 (a1.toInt.toNat) = (gV σ 27 0 (a1.toInt.toNat)) from (f187.1 27 0 ((a1.toInt.toNat)) (by simp) (by decide)).trans rfl))
  rcases h191 with ⟨h191_0, h191_1, h191_2⟩ | ⟨h191_0, h191_1⟩
  · skip
    have b194 : IV x188 1 1 := ⟨by omega, by omega⟩
    show MW p l e _ s m args below meth c _ 14 G 0 0 4 [some (.ref (G.1 22 0)), some (.int a1), some (.int 1), some (.int a3), none, none, none, none, none, none, none, none, none, none] [.int x188] τ185
    refine m_if_eq (tgt := 24) C dX12_bells_4 (by decide) (fun c195 => ?_) (fun c195 => ?_)
    · exfalso
      have q : _ := c195
      simp only [ti_nle, ti_nlt, ti_le, ti_lt, ti_eq, ti_ne, Classical.not_not, kt_0] at q
      have q1 := b194; have q2 := kc_0; omega
    · have f197 : x188.toInt ≠ 0 := by
        have q : _ := c195
        simp only [ti_nle, ti_nlt, ti_le, ti_lt, ti_eq, ti_ne, Classical.not_not, kt_0] at q
        omega
      have b198 : IV a1 0 7 := ⟨by have q1 := (iv_any a1); omega, by have q1 := (iv_any a1); omega⟩
      refine m_iload_n C dX12_bells_7 rfl rfl ?_
      refine m_i2l C dX12_bells_8 ?_
      refine m_lconst (v := 1) C dX12_bells_9 (by decide) ?_
      refine m_ldc2 (v := 5) C dX12_bells_10 q5_173 ?_
      refine m_callS (n := 3) (st := []) C (c_X12_in l G τ185 ((1 : Int32).toInt64) (1) (5) i186 ) q4_190 q4_188 q4_189 q1_7 (by decide +kernel) rfl (by decide) (by decide) rfl (Nat.le_of_ble_eq_true rfl) dX12_bells_13 ?_
      rintro _ τ199 ⟨x202, rfl, i200, f201, b203, h205⟩
      have g204 : Fr MS_X12_bells_1Z AS_X12_bells_1Z σ τ199 := Fr.call (g190) f201 (by decide)
      have q206 : (gV τ199 26 0 (a1.toInt.toNat)).toInt = (gV σ 26 0 (a1.toInt.toNat)).toInt := congrArg Int32.toInt (show (gV τ199 26 0 (a1.toInt.toNat)) = (gV σ 26 0 (a1.toInt.toNat)) from (show gV τ199 26 0 (a1.toInt.toNat) = (gV σ 26 0 (a1.toInt.toNat)) from (f201.1 26 0 ((a1.toInt.toNat)) (by simp) (by decide)).trans (show gV τ185 26 0 (a1.toInt.toNat) = (gV σ 26 0 (a1.toInt.toNat)) from (f187.1 26 0 ((a1.toInt.toNat)) (by simp) (by decide)).trans rfl)))
      have q207 : (gV τ199 27 0 (a1.toInt.toNat)).toInt = (gV σ 27 0 (a1.toInt.toNat)).toInt := congrArg Int32.toInt (show (gV τ199 27 0 (a1.toInt.toNat)) = (gV σ 27 0 (a1.toInt.toNat)) from (show gV τ199 27 0 (a1.toInt.toNat) = (gV σ 27 0 (a1.toInt.toNat)) from (f201.1 27 0 ((a1.toInt.toNat)) (by simp) (by decide)).trans (show gV τ185 27 0 (a1.toInt.toNat) = (gV σ 27 0 (a1.toInt.toNat)) from (f187.1 27 0 ((a1.toInt.toNat)) (by simp) (by decide)).trans rfl)))
      have f208 := tl_i 1
      have kf208 := kt_1
      have f209 := kl_1
      have f210 := kl_5
      rcases h205 with ⟨h205_0, h205_1, h205_2⟩ | ⟨h205_0, h205_1⟩
      · skip
        have b211 : IV x202 1 1 := ⟨by omega, by omega⟩
        show MW p l e _ s m args below meth c _ 14 G 0 0 16 [some (.ref (G.1 22 0)), some (.int a1), some (.int 1), some (.int a3), none, none, none, none, none, none, none, none, none, none] [.int x202] τ199
        refine m_if_eq (tgt := 24) C dX12_bells_16 (by decide) (fun c212 => ?_) (fun c212 => ?_)
        · exfalso
          have q : _ := c212
          simp only [ti_nle, ti_nlt, ti_le, ti_lt, ti_eq, ti_ne, Classical.not_not, kt_0] at q
          have q1 := b211; have q2 := kc_0; omega
        · have f214 : x202.toInt ≠ 0 := by
            have q : _ := c212
            simp only [ti_nle, ti_nlt, ti_le, ti_lt, ti_eq, ti_ne, Classical.not_not, kt_0] at q
            omega
          refine m_iload_n C dX12_bells_19 rfl rfl ?_
          refine m_iconst (v := (-1)) C dX12_bells_20 (by decide) ?_
          refine m_icmp_ge (tgt := 27) C dX12_bells_21 (by decide) (fun c215 => ?_) (fun c215 => ?_)
          · have f216 : -1 ≤ a3.toInt := by
              have q : _ := c215
              simp only [ti_nle, ti_nlt, ti_le, ti_lt, ti_eq, ti_ne, Classical.not_not, kt_m1] at q
              omega
            have b217 : IV a3 (-1) 2147483647 := ⟨by have q1 := kc_m1; have q2 := (iv_any a3); omega, by have q1 := kc_m1; have q2 := (iv_any a3); omega⟩
            refine m_aload_n C dX12_bells_27 rfl rfl ?_
            refine g_22_3 C q4_119 dX12_bells_28 ?_
            refine m_iload_n C dX12_bells_31 rfl rfl ?_
            refine al_26 C b198 (by decide) rfl dX12_bells_32 ?_
            refine m_eqs (w := (gV σ 26 0 (a1.toInt.toNat))) (show gV τ199 26 0 (a1.toInt.toNat) = (gV σ 26 0 (a1.toInt.toNat)) from (f201.1 26 0 ((a1.toInt.toNat)) (by simp) (by decide)).trans (show gV τ185 26 0 (a1.toInt.toNat) = (gV σ 26 0 (a1.toInt.toNat)) from (f187.1 26 0 ((a1.toInt.toNat)) (by simp) (by decide)).trans rfl)) ?_
            refine m_if_ge (tgt := 42) C dX12_bells_33 (by decide) (fun c218 => ?_) (fun c218 => ?_)
            · have f219 : 0 ≤ (gV σ 26 0 (a1.toInt.toNat)).toInt := by
                have q : _ := c218
                simp only [ti_nle, ti_nlt, ti_le, ti_lt, ti_eq, ti_ne, Classical.not_not, kt_0] at q
                omega
              have b220 : IV (gV σ 26 0 (a1.toInt.toNat)) 0 2147483647 := ⟨by have q1 := kc_0; have q2 := (iv_any (gV σ 26 0 (a1.toInt.toNat))); omega, by have q1 := kc_0; have q2 := (iv_any (gV σ 26 0 (a1.toInt.toNat))); omega⟩
              refine m_aload_n C dX12_bells_42 rfl rfl ?_
              refine g_22_4 C q4_120 dX12_bells_43 ?_
              refine m_iload_n C dX12_bells_46 rfl rfl ?_
              refine al_27 C b198 (by decide) rfl dX12_bells_47 ?_
              refine m_eqs (w := (gV σ 27 0 (a1.toInt.toNat))) (show gV τ199 27 0 (a1.toInt.toNat) = (gV σ 27 0 (a1.toInt.toNat)) from (f201.1 27 0 ((a1.toInt.toNat)) (by simp) (by decide)).trans (show gV τ185 27 0 (a1.toInt.toNat) = (gV σ 27 0 (a1.toInt.toNat)) from (f187.1 27 0 ((a1.toInt.toNat)) (by simp) (by decide)).trans rfl)) ?_
              refine m_iload_n C dX12_bells_48 rfl rfl ?_
              refine m_icmp_ge (tgt := 58) C dX12_bells_49 (by decide) (fun c221 => ?_) (fun c221 => ?_)
              · have f222 : 1 ≤ (gV σ 27 0 (a1.toInt.toNat)).toInt := by
                  have q : _ := c221
                  simp only [ti_nle, ti_nlt, ti_le, ti_lt, ti_eq, ti_ne, Classical.not_not, kt_1] at q
                  omega
                have b223 : IV (gV σ 27 0 (a1.toInt.toNat)) 1 40 := ⟨by have q1 := kc_1; have q2 := u184; omega, by have q1 := kc_1; have q2 := u184; omega⟩
                refine m_iconst (v := 0) C dX12_bells_58 (by decide) ?_
                refine m_istore (L1 := [some (.ref (G.1 22 0)), some (.int a1), some (.int 1), some (.int a3), some (.int 0), none, none, none, none, none, none, none, none, none]) C dX12_bells_59 (by decide) rfl rfl ?_
                exact J61 ((1 - (0 : Int32).toInt).toNat + 1) τ199 0 i200 g204 b198 b217 (iv_wk kc_0 (by decide)) (by omega) (AlJ.zero (by have q := kt_0; omega)) (Nat.lt_succ_self _)
              · have f224 : (gV σ 27 0 (a1.toInt.toNat)).toInt < 1 := by
                  have q : _ := c221
                  simp only [ti_nle, ti_nlt, ti_le, ti_lt, ti_eq, ti_ne, Classical.not_not, kt_1] at q
                  omega
                have b225 : IV (gV σ 27 0 (a1.toInt.toNat)) 0 0 := ⟨by have q1 := u184; have q2 := kc_1; omega, by have q1 := u184; have q2 := kc_1; omega⟩
                refine m_aload_n C dX12_bells_52 rfl rfl ?_
                refine m_iconst (v := 2) C dX12_bells_53 (by decide) ?_
                refine m_callV (n := 1) (ci := 11) (st := []) C (c_X12_met l G τ199 (2) i200 (iv_wk kc_2 (by decide))) (by decide) (by decide) rfl rfl rfl q4_196 q4_193 q4_195 q0_26 q1_7 (by decide +kernel) rfl (by decide) (by decide) rfl (Nat.le_of_ble_eq_true rfl) dX12_bells_54 ?_
                rintro _ τ226 ⟨x229, rfl, i227, f228, b230, h232⟩
                have g231 : Fr MS_X12_bells_1Z AS_X12_bells_1Z σ τ226 := Fr.call (g204) f228 (by decide)
                have q233 : (gV τ226 26 0 (a1.toInt.toNat)).toInt = (gV σ 26 0 (a1.toInt.toNat)).toInt := congrArg Int32.toInt (show (gV τ226 26 0 (a1.toInt.toNat)) = (gV σ 26 0 (a1.toInt.toNat)) from (show gV τ226 26 0 (a1.toInt.toNat) = (gV σ 26 0 (a1.toInt.toNat)) from (f228.1 26 0 ((a1.toInt.toNat)) (by simp) (by decide)).trans (show gV τ199 26 0 (a1.toInt.toNat) = (gV σ 26 0 (a1.toInt.toNat)) from (f201.1 26 0 ((a1.toInt.toNat)) (by simp) (by decide)).trans (show gV τ185 26 0 (a1.toInt.toNat) = (gV σ 26 0 (a1.toInt.toNat)) from (f187.1 26 0 ((a1.toInt.toNat)) (by simp) (by decide)).trans rfl))))
                have q234 : (gV τ226 27 0 (a1.toInt.toNat)).toInt = (gV σ 27 0 (a1.toInt.toNat)).toInt := congrArg Int32.toInt (show (gV τ226 27 0 (a1.toInt.toNat)) = (gV σ 27 0 (a1.toInt.toNat)) from (show gV τ226 27 0 (a1.toInt.toNat) = (gV σ 27 0 (a1.toInt.toNat)) from (f228.1 27 0 ((a1.toInt.toNat)) (by simp) (by decide)).trans (show gV τ199 27 0 (a1.toInt.toNat) = (gV σ 27 0 (a1.toInt.toNat)) from (f201.1 27 0 ((a1.toInt.toNat)) (by simp) (by decide)).trans (show gV τ185 27 0 (a1.toInt.toNat) = (gV σ 27 0 (a1.toInt.toNat)) from (f187.1 27 0 ((a1.toInt.toNat)) (by simp) (by decide)).trans rfl))))
                have q235 := kt_2
                show MW p l e _ s m args below meth c _ 14 G 0 0 57 [some (.ref (G.1 22 0)), some (.int a1), some (.int 1), some (.int a3), none, none, none, none, none, none, none, none, none, none] [.int x229] τ226
                exact m_iret C hr hlk (by decide) (by decide) dX12_bells_57 ⟨_, rfl, i227, g231, (iv_wk b230 (by decide)), (Or.inr (Or.inr (Or.inl ⟨by omega, by omega, by omega, by omega⟩)))⟩
            · have f236 : (gV σ 26 0 (a1.toInt.toNat)).toInt < 0 := by
                have q : _ := c218
                simp only [ti_nle, ti_nlt, ti_le, ti_lt, ti_eq, ti_ne, Classical.not_not, kt_0] at q
                omega
              have b237 : IV (gV σ 26 0 (a1.toInt.toNat)) (-2147483648) (-1) := ⟨by have q1 := (iv_any (gV σ 26 0 (a1.toInt.toNat))); have q2 := kc_0; omega, by have q1 := (iv_any (gV σ 26 0 (a1.toInt.toNat))); have q2 := kc_0; omega⟩
              refine m_aload_n C dX12_bells_36 rfl rfl ?_
              refine m_iconst (v := 1) C dX12_bells_37 (by decide) ?_
              refine m_callV (n := 1) (ci := 11) (st := []) C (c_X12_met l G τ199 (1) i200 (iv_wk kc_1 (by decide))) (by decide) (by decide) rfl rfl rfl q4_196 q4_193 q4_195 q0_26 q1_7 (by decide +kernel) rfl (by decide) (by decide) rfl (Nat.le_of_ble_eq_true rfl) dX12_bells_38 ?_
              rintro _ τ238 ⟨x241, rfl, i239, f240, b242, h244⟩
              have g243 : Fr MS_X12_bells_1Z AS_X12_bells_1Z σ τ238 := Fr.call (g204) f240 (by decide)
              have q245 : (gV τ238 26 0 (a1.toInt.toNat)).toInt = (gV σ 26 0 (a1.toInt.toNat)).toInt := congrArg Int32.toInt (show (gV τ238 26 0 (a1.toInt.toNat)) = (gV σ 26 0 (a1.toInt.toNat)) from (show gV τ238 26 0 (a1.toInt.toNat) = (gV σ 26 0 (a1.toInt.toNat)) from (f240.1 26 0 ((a1.toInt.toNat)) (by simp) (by decide)).trans (show gV τ199 26 0 (a1.toInt.toNat) = (gV σ 26 0 (a1.toInt.toNat)) from (f201.1 26 0 ((a1.toInt.toNat)) (by simp) (by decide)).trans (show gV τ185 26 0 (a1.toInt.toNat) = (gV σ 26 0 (a1.toInt.toNat)) from (f187.1 26 0 ((a1.toInt.toNat)) (by simp) (by decide)).trans rfl))))
              have q246 : (gV τ238 27 0 (a1.toInt.toNat)).toInt = (gV σ 27 0 (a1.toInt.toNat)).toInt := congrArg Int32.toInt (show (gV τ238 27 0 (a1.toInt.toNat)) = (gV σ 27 0 (a1.toInt.toNat)) from (show gV τ238 27 0 (a1.toInt.toNat) = (gV σ 27 0 (a1.toInt.toNat)) from (f240.1 27 0 ((a1.toInt.toNat)) (by simp) (by decide)).trans (show gV τ199 27 0 (a1.toInt.toNat) = (gV σ 27 0 (a1.toInt.toNat)) from (f201.1 27 0 ((a1.toInt.toNat)) (by simp) (by decide)).trans (show gV τ185 27 0 (a1.toInt.toNat) = (gV σ 27 0 (a1.toInt.toNat)) from (f187.1 27 0 ((a1.toInt.toNat)) (by simp) (by decide)).trans rfl))))
              have q247 := kt_1
              show MW p l e _ s m args below meth c _ 14 G 0 0 41 [some (.ref (G.1 22 0)), some (.int a1), some (.int 1), some (.int a3), none, none, none, none, none, none, none, none, none, none] [.int x241] τ238
              exact m_iret C hr hlk (by decide) (by decide) dX12_bells_41 ⟨_, rfl, i239, g243, (iv_wk b242 (by decide)), (Or.inr (Or.inl ⟨by omega, by omega, by omega⟩))⟩
          · have f248 : a3.toInt < -1 := by
              have q : _ := c215
              simp only [ti_nle, ti_nlt, ti_le, ti_lt, ti_eq, ti_ne, Classical.not_not, kt_m1] at q
              omega
            have b249 : IV a3 (-2147483648) (-2) := ⟨by have q1 := (iv_any a3); have q2 := kc_m1; omega, by have q1 := (iv_any a3); have q2 := kc_m1; omega⟩
            refine m_ldc (v := (-1000001)) C dX12_bells_24 q4_192 ?_
            exact m_iret C hr hlk (by decide) (by decide) dX12_bells_26 ⟨_, rfl, i200, g204, (iv_wk kc_m1000001 (by decide)), (Or.inl ⟨by have qk := kt_m1000001; omega, by have qk := kt_m1000001; omega⟩)⟩
      · skip
        have b250 : IV x202 0 0 := ⟨by omega, by omega⟩
        show MW p l e _ s m args below meth c _ 14 G 0 0 16 [some (.ref (G.1 22 0)), some (.int a1), some (.int 1), some (.int a3), none, none, none, none, none, none, none, none, none, none] [.int x202] τ199
        refine m_if_eq (tgt := 24) C dX12_bells_16 (by decide) (fun c251 => ?_) (fun c251 => ?_)
        · have f252 : x202.toInt = 0 := by
            have q : _ := c251
            simp only [ti_nle, ti_nlt, ti_le, ti_lt, ti_eq, ti_ne, Classical.not_not, kt_0] at q
            omega
          refine m_ldc (v := (-1000001)) C dX12_bells_24 q4_192 ?_
          exact m_iret C hr hlk (by decide) (by decide) dX12_bells_26 ⟨_, rfl, i200, g204, (iv_wk kc_m1000001 (by decide)), (Or.inl ⟨by have qk := kt_m1000001; omega, by have qk := kt_m1000001; omega⟩)⟩
        · exfalso
          have q : _ := c251
          simp only [ti_nle, ti_nlt, ti_le, ti_lt, ti_eq, ti_ne, Classical.not_not, kt_0] at q
          have q1 := b250; have q2 := kc_0; omega
  · skip
    have b254 : IV x188 0 0 := ⟨by omega, by omega⟩
    show MW p l e _ s m args below meth c _ 14 G 0 0 4 [some (.ref (G.1 22 0)), some (.int a1), some (.int 1), some (.int a3), none, none, none, none, none, none, none, none, none, none] [.int x188] τ185
    refine m_if_eq (tgt := 24) C dX12_bells_4 (by decide) (fun c255 => ?_) (fun c255 => ?_)
    · have f256 : x188.toInt = 0 := by
        have q : _ := c255
        simp only [ti_nle, ti_nlt, ti_le, ti_lt, ti_eq, ti_ne, Classical.not_not, kt_0] at q
        omega
      refine m_ldc (v := (-1000001)) C dX12_bells_24 q4_192 ?_
      exact m_iret C hr hlk (by decide) (by decide) dX12_bells_26 ⟨_, rfl, i186, g190, (iv_wk kc_m1000001 (by decide)), (Or.inl ⟨by have qk := kt_m1000001; omega, by have qk := kt_m1000001; omega⟩)⟩
    · exfalso
      have q : _ := c255
      simp only [ti_nle, ti_nlt, ti_le, ti_lt, ti_eq, ti_ne, Classical.not_not, kt_0] at q
      have q1 := b254; have q2 := kc_0; omega

abbrev MS_X12_bells_2Z : List (Nat × Nat) := [(22, 8)]
abbrev AS_X12_bells_2Z : List Nat := []
set_option maxHeartbeats 4000000 in
set_option maxRecDepth 100000 in
theorem c_X12_bells_2Z (l : Launch) (G : Gt) (σ : Sg) (a1 : Int32) (a3 : Int32) (hI : Inv σ) : Mc l G yX12_bells cX12_bells 14 (some .int) 2 60 0 0 [.ref (G.1 22 0), .int a1, .int 2, .int a3] σ (PI fun r τ => Inv τ ∧ Fr MS_X12_bells_2Z AS_X12_bells_2Z σ τ ∧ IV r (-2147483648) 2147483647 ∧ (((a1.toInt < 0 ∨ 7 < a1.toInt ∨ (2 : Int) < 1 ∨ 5 < (2 : Int) ∨ a3.toInt < -1) ∧ r.toInt = -1000001) ∨ (((0 ≤ a1.toInt ∧ a1.toInt ≤ 7) ∧ 1 ≤ (2 : Int) ∧ (2 : Int) ≤ 5 ∧ -1 ≤ a3.toInt) ∧ (gV σ 26 0 (a1.toInt.toNat)).toInt < 0 ∧ r.toInt = -1000011) ∨ (((0 ≤ a1.toInt ∧ a1.toInt ≤ 7) ∧ 1 ≤ (2 : Int) ∧ (2 : Int) ≤ 5 ∧ -1 ≤ a3.toInt) ∧ 0 ≤ (gV σ 26 0 (a1.toInt.toNat)).toInt ∧ (gV σ 27 0 (a1.toInt.toNat)).toInt < (2 : Int) ∧ r.toInt = -1000012) ∨ (((0 ≤ a1.toInt ∧ a1.toInt ≤ 7) ∧ 1 ≤ (2 : Int) ∧ (2 : Int) ≤ 5 ∧ -1 ≤ a3.toInt) ∧ 0 ≤ (gV σ 26 0 (a1.toInt.toNat)).toInt ∧ (2 : Int) ≤ (gV σ 27 0 (a1.toInt.toNat)).toInt ∧ ¬ AlJ σ (a1.toInt.toNat) (2 : Int) 1 20 ∧ r.toInt = -1000001) ∨ (((0 ≤ a1.toInt ∧ a1.toInt ≤ 7) ∧ 1 ≤ (2 : Int) ∧ (2 : Int) ≤ 5 ∧ -1 ≤ a3.toInt) ∧ 0 ≤ (gV σ 26 0 (a1.toInt.toNat)).toInt ∧ (2 : Int) ≤ (gV σ 27 0 (a1.toInt.toNat)).toInt ∧ AlJ σ (a1.toInt.toNat) (2 : Int) 1 20 ∧ RESB r a3 2 (bbest (nuJ σ (a1.toInt.toNat) 2) 2)))) := by
  refine Mc.of (L0 := [some (.ref (G.1 22 0)), some (.int a1), some (.int 2), some (.int a3), none, none, none, none, none, none, none, none, none, none]) (by decide) (Nat.le_of_ble_eq_true rfl) rfl ?_
  intro p e s m args below meth c C hr hlk
  have C : Cx p s m args c cX12_bells 14 "LeanTowerModel" := C
  have k0 : (0 : Int32).toInt = 0 := by decide
  have k1 : (1 : Int32).toInt = 1 := by decide
  have J138 : ∀ (n : Nat) (τ : Sg) (y5 : Int32) (y6 : Int32) (y7 : Int32), Inv τ → Fr MS_X12_bells_2Z AS_X12_bells_2Z σ τ → IV a1 0 7 → IV a3 (-1) 2147483647 → IV y5 (-1) 3 → IV y6 (-2147483648) 2147483647 → IV y7 0 4 → (((0 ≤ a1.toInt ∧ a1.toInt ≤ 7) ∧ 1 ≤ (2 : Int) ∧ (2 : Int) ≤ 5 ∧ -1 ≤ a3.toInt ∧ 0 ≤ (gV σ 26 0 (a1.toInt.toNat)).toInt ∧ (2 : Int) ≤ (gV σ 27 0 (a1.toInt.toNat)).toInt)) → (AlJ σ (a1.toInt.toNat) (2 : Int) 1 20) → (BRL (nuJ σ (a1.toInt.toNat) 2) 2 y5 y6 (bacc (nuJ σ (a1.toInt.toNat) 2) 2 y7.toInt.toNat)) → (4 - y7.toInt).toNat < n → MW p l e { frames := 2, cells := 0, slots := 0, locals := 60 } s m args below meth c (MQ below (QP G (PI fun r τ => Inv τ ∧ Fr MS_X12_bells_2Z AS_X12_bells_2Z σ τ ∧ IV r (-2147483648) 2147483647 ∧ (((a1.toInt < 0 ∨ 7 < a1.toInt ∨ (2 : Int) < 1 ∨ 5 < (2 : Int) ∨ a3.toInt < -1) ∧ r.toInt = -1000001) ∨ (((0 ≤ a1.toInt ∧ a1.toInt ≤ 7) ∧ 1 ≤ (2 : Int) ∧ (2 : Int) ≤ 5 ∧ -1 ≤ a3.toInt) ∧ (gV σ 26 0 (a1.toInt.toNat)).toInt < 0 ∧ r.toInt = -1000011) ∨ (((0 ≤ a1.toInt ∧ a1.toInt ≤ 7) ∧ 1 ≤ (2 : Int) ∧ (2 : Int) ≤ 5 ∧ -1 ≤ a3.toInt) ∧ 0 ≤ (gV σ 26 0 (a1.toInt.toNat)).toInt ∧ (gV σ 27 0 (a1.toInt.toNat)).toInt < (2 : Int) ∧ r.toInt = -1000012) ∨ (((0 ≤ a1.toInt ∧ a1.toInt ≤ 7) ∧ 1 ≤ (2 : Int) ∧ (2 : Int) ≤ 5 ∧ -1 ≤ a3.toInt) ∧ 0 ≤ (gV σ 26 0 (a1.toInt.toNat)).toInt ∧ (2 : Int) ≤ (gV σ 27 0 (a1.toInt.toNat)).toInt ∧ ¬ AlJ σ (a1.toInt.toNat) (2 : Int) 1 20 ∧ r.toInt = -1000001) ∨ (((0 ≤ a1.toInt ∧ a1.toInt ≤ 7) ∧ 1 ≤ (2 : Int) ∧ (2 : Int) ≤ 5 ∧ -1 ≤ a3.toInt) ∧ 0 ≤ (gV σ 26 0 (a1.toInt.toNat)).toInt ∧ (2 : Int) ≤ (gV σ 27 0 (a1.toInt.toNat)).toInt ∧ AlJ σ (a1.toInt.toNat) (2 : Int) 1 20 ∧ RESB r a3 2 (bbest (nuJ σ (a1.toInt.toNat) 2) 2))))) args s 0 0 (aG G)) 14 G 0 0 138 [some (.ref (G.1 22 0)), some (.int a1), some (.int 2), some (.int a3), some (.int 4), some (.int y5), some (.int y6), some (.int y7), none, none, none, none, none, none] [] τ := by
    intro n
    induction n with
    | zero => intro τ y5 y6 y7 iτ fτ b_a1 b_a3 b_y5 b_y6 b_y7 n1 nL nB hm; exact absurd hm (Nat.not_lt_zero _)
    | succ n ih138 =>
      intro τ y5 y6 y7 iτ fτ b_a1 b_a3 b_y5 b_y6 b_y7 n1 nL nB hm138
      have u2 : IV (gV τ 27 0 (a1.toInt.toNat)) 0 40 := iτ.1 27 0 (a1.toInt.toNat)
      have hν := nuJ_b (n := 2) nL (by omega)
      refine m_iload C dX12_bells_138 rfl ?_
      refine m_iload C dX12_bells_140 rfl ?_
      refine m_icmp_ge (tgt := 285) C dX12_bells_142 (by decide) (fun c3 => ?_) (fun c3 => ?_)
      · have f4 : 4 ≤ y7.toInt := by
          have q : _ := c3
          simp only [ti_nle, ti_nlt, ti_le, ti_lt, ti_eq, ti_ne, Classical.not_not, kt_4] at q
          omega
        have b5 : IV y7 4 4 := ⟨by have q1 := kc_4; have q2 := b_y7; omega, by have q1 := kc_4; have q2 := b_y7; omega⟩
        obtain ⟨q6a, q6b, q6c⟩ := nB.fin (by rw [show y7.toInt.toNat = 4 by omega]) hν (by decide) (by decide)
        have b7 : IV y5 0 3 := ⟨by omega, by have q := b_y5; omega⟩
        refine m_iload_n C dX12_bells_285 rfl rfl ?_
        refine m_if_ge (tgt := 292) C dX12_bells_286 (by decide) (fun c8 => ?_) (fun c8 => ?_)
        · have f9 : 0 ≤ a3.toInt := by
            have q : _ := c8
            simp only [ti_nle, ti_nlt, ti_le, ti_lt, ti_eq, ti_ne, Classical.not_not, kt_0] at q
            omega
          have b10 : IV a3 0 2147483647 := ⟨by have q1 := kc_0; have q2 := b_a3; omega, by have q1 := kc_0; have q2 := b_a3; omega⟩
          refine m_iload C dX12_bells_292 rfl ?_
          refine m_istore (L1 := [some (.ref (G.1 22 0)), some (.int a1), some (.int 2), some (.int a3), some (.int 4), some (.int y5), some (.int y6), some (.int 4), none, none, none, none, none, none]) C dX12_bells_294 (by decide) rfl rfl ?_
          refine m_iconst (v := 0) C dX12_bells_296 (by decide) ?_
          refine m_istore (L1 := [some (.ref (G.1 22 0)), some (.int a1), some (.int 2), some (.int a3), some (.int 4), some (.int y5), some (.int y6), some (.int 4), some (.int 0), none, none, none, none, none]) C dX12_bells_297 (by decide) rfl rfl ?_
          refine m_iload C dX12_bells_299 rfl ?_
          refine m_iload_n C dX12_bells_301 rfl rfl ?_
          refine m_icmp_gt (tgt := 323) C dX12_bells_302 (by decide) (fun c11 => ?_) (fun c11 => ?_)
          · exfalso
            have q : _ := c11
            simp only [ti_nle, ti_nlt, ti_le, ti_lt, ti_eq, ti_ne, Classical.not_not, kt_0] at q
            have q1 := kc_0; have q2 := b10; omega
          · have f13 : 0 ≤ a3.toInt := by
              have q : _ := c11
              simp only [ti_nle, ti_nlt, ti_le, ti_lt, ti_eq, ti_ne, Classical.not_not, kt_0] at q
              omega
            refine m_iload C dX12_bells_305 rfl ?_
            refine m_iload_n C dX12_bells_307 rfl rfl ?_
            refine m_icmp_ge (tgt := 323) C dX12_bells_308 (by decide) (fun c14 => ?_) (fun c14 => ?_)
            · first | exact absurd c14 (by decide) | exact absurd (by decide) c14
            · have f16 : 0 < 2 := by
                have q : _ := c14
                simp only [ti_nle, ti_nlt, ti_le, ti_lt, ti_eq, ti_ne, Classical.not_not, kt_0, kt_2] at q
                omega
              refine m_iload C dX12_bells_311 rfl ?_
              refine m_iload_n C dX12_bells_313 rfl rfl ?_
              refine m_idiv C dX12_bells_314 (iv_nz kc_2 (by decide)) ?_
              refine m_topi (fun x17 ex17 => ?_)
              have b18 : IV x17 2 2 := by rw [ex17]; decide
              have tx17 : x17.toInt = 2 := by rw [ex17]; decide
              obtain rfl : x17 = 2 := by rw [ex17]; decide
              refine m_istore (L1 := [some (.ref (G.1 22 0)), some (.int a1), some (.int 2), some (.int a3), some (.int 4), some (.int y5), some (.int y6), some (.int 2), some (.int 0), none, none, none, none, none]) C dX12_bells_315 (by decide) rfl rfl ?_
              obtain ⟨x19, ex19⟩ : ∃ y : Int32, y = 0 + 1 := ⟨_, rfl⟩
              have b20 : IV x19 1 1 := by rw [ex19]; decide
              have tx19 : x19.toInt = 1 := by rw [ex19]; decide
              obtain rfl : x19 = 1 := by rw [ex19]; decide
              refine m_iinc (v := 1) (L1 := [some (.ref (G.1 22 0)), some (.int a1), some (.int 2), some (.int a3), some (.int 4), some (.int y5), some (.int y6), some (.int 2), some (.int 1), none, none, none, none, none]) C dX12_bells_317 rfl (by decide) (by decide) rfl rfl ?_
              refine m_goto (tgt := 299) C dX12_bells_320 (by decide) ?_
              refine m_iload C dX12_bells_299 rfl ?_
              refine m_iload_n C dX12_bells_301 rfl rfl ?_
              refine m_icmp_gt (tgt := 323) C dX12_bells_302 (by decide) (fun c21 => ?_) (fun c21 => ?_)
              · have f22 : a3.toInt < 1 := by
                  have q : _ := c21
                  simp only [ti_nle, ti_nlt, ti_le, ti_lt, ti_eq, ti_ne, Classical.not_not, kt_1] at q
                  omega
                have b23 : IV a3 0 0 := ⟨by have q1 := b10; have q2 := kc_1; omega, by have q1 := b10; have q2 := kc_1; omega⟩
                refine m_iload_n C dX12_bells_323 rfl rfl ?_
                refine m_iload_n C dX12_bells_324 rfl rfl ?_
                refine m_icmp_ge (tgt := 338) C dX12_bells_325 (by decide) (fun c24 => ?_) (fun c24 => ?_)
                · exfalso
                  have q : _ := c24
                  simp only [ti_nle, ti_nlt, ti_le, ti_lt, ti_eq, ti_ne, Classical.not_not, kt_2] at q
                  have q1 := b23; have q2 := kc_2; omega
                · have f26 : a3.toInt < 2 := by
                    have q : _ := c24
                    simp only [ti_nle, ti_nlt, ti_le, ti_lt, ti_eq, ti_ne, Classical.not_not, kt_2] at q
                    omega
                  refine m_iload C dX12_bells_328 rfl ?_
                  refine m_iload C dX12_bells_330 rfl ?_
                  refine m_idiv C dX12_bells_332 (iv_nz kc_2 (by decide)) ?_
                  refine m_topi (fun x27 ex27 => ?_)
                  have b28 : IV x27 0 1 := by rw [ex27]; exact iv_div b7 kc_2 (by decide)
                  have tx27 : x27.toInt = y5.toInt / 2 := by rw [ex27]; exact ti_divc b7 kc_2 (by decide)
                  refine m_iload_n C dX12_bells_333 rfl rfl ?_
                  refine m_irem C dX12_bells_334 (iv_nz kc_2 (by decide)) ?_
                  refine m_topi (fun x29 ex29 => ?_)
                  have b30 : IV x29 0 1 := by rw [ex29]; exact iv_rem b28 kc_2 (by decide)
                  have tx29 : x29.toInt = x27.toInt % 2 := by rw [ex29]; exact ti_rem b28 kc_2 (by decide)
                  refine m_goto (tgt := 340) C dX12_bells_335 (by decide) ?_
                  exact m_iret C hr hlk (by decide) (by decide) dX12_bells_340 ⟨_, rfl, iτ, fτ, (iv_wk b30 (by decide)), (Or.inr (Or.inr (Or.inr (Or.inr (⟨by omega, by omega, by omega, nL, ⟨fun g => absurd g (by omega), fun _ _ => by rw [q6c, show a3.toInt.toNat = 0 by omega]; show _ = (((y5.toInt.toNat / 2 % 2 : Nat)) : Int); omega, fun g => absurd g (by omega)⟩⟩)))))⟩
              · have f31 : 1 ≤ a3.toInt := by
                  have q : _ := c21
                  simp only [ti_nle, ti_nlt, ti_le, ti_lt, ti_eq, ti_ne, Classical.not_not, kt_1] at q
                  omega
                have b32 : IV a3 1 2147483647 := ⟨by have q1 := kc_1; have q2 := b10; omega, by have q1 := kc_1; have q2 := b10; omega⟩
                refine m_iload C dX12_bells_305 rfl ?_
                refine m_iload_n C dX12_bells_307 rfl rfl ?_
                refine m_icmp_ge (tgt := 323) C dX12_bells_308 (by decide) (fun c33 => ?_) (fun c33 => ?_)
                · first | exact absurd c33 (by decide) | exact absurd (by decide) c33
                · have f35 : 1 < 2 := by
                    have q : _ := c33
                    simp only [ti_nle, ti_nlt, ti_le, ti_lt, ti_eq, ti_ne, Classical.not_not, kt_1, kt_2] at q
                    omega
                  refine m_iload C dX12_bells_311 rfl ?_
                  refine m_iload_n C dX12_bells_313 rfl rfl ?_
                  refine m_idiv C dX12_bells_314 (iv_nz kc_2 (by decide)) ?_
                  refine m_topi (fun x36 ex36 => ?_)
                  have b37 : IV x36 1 1 := by rw [ex36]; decide
                  have tx36 : x36.toInt = 1 := by rw [ex36]; decide
                  obtain rfl : x36 = 1 := by rw [ex36]; decide
                  refine m_istore (L1 := [some (.ref (G.1 22 0)), some (.int a1), some (.int 2), some (.int a3), some (.int 4), some (.int y5), some (.int y6), some (.int 1), some (.int 1), none, none, none, none, none]) C dX12_bells_315 (by decide) rfl rfl ?_
                  obtain ⟨x38, ex38⟩ : ∃ y : Int32, y = 1 + 1 := ⟨_, rfl⟩
                  have b39 : IV x38 2 2 := by rw [ex38]; decide
                  have tx38 : x38.toInt = 2 := by rw [ex38]; decide
                  obtain rfl : x38 = 2 := by rw [ex38]; decide
                  refine m_iinc (v := 2) (L1 := [some (.ref (G.1 22 0)), some (.int a1), some (.int 2), some (.int a3), some (.int 4), some (.int y5), some (.int y6), some (.int 1), some (.int 2), none, none, none, none, none]) C dX12_bells_317 rfl (by decide) (by decide) rfl rfl ?_
                  refine m_goto (tgt := 299) C dX12_bells_320 (by decide) ?_
                  refine m_iload C dX12_bells_299 rfl ?_
                  refine m_iload_n C dX12_bells_301 rfl rfl ?_
                  refine m_icmp_gt (tgt := 323) C dX12_bells_302 (by decide) (fun c40 => ?_) (fun c40 => ?_)
                  · have f41 : a3.toInt < 2 := by
                      have q : _ := c40
                      simp only [ti_nle, ti_nlt, ti_le, ti_lt, ti_eq, ti_ne, Classical.not_not, kt_2] at q
                      omega
                    have b42 : IV a3 1 1 := ⟨by have q1 := b32; have q2 := kc_2; omega, by have q1 := b32; have q2 := kc_2; omega⟩
                    refine m_iload_n C dX12_bells_323 rfl rfl ?_
                    refine m_iload_n C dX12_bells_324 rfl rfl ?_
                    refine m_icmp_ge (tgt := 338) C dX12_bells_325 (by decide) (fun c43 => ?_) (fun c43 => ?_)
                    · exfalso
                      have q : _ := c43
                      simp only [ti_nle, ti_nlt, ti_le, ti_lt, ti_eq, ti_ne, Classical.not_not, kt_2] at q
                      have q1 := b42; have q2 := kc_2; omega
                    · have f45 : a3.toInt < 2 := by
                        have q : _ := c43
                        simp only [ti_nle, ti_nlt, ti_le, ti_lt, ti_eq, ti_ne, Classical.not_not, kt_2] at q
                        omega
                      refine m_iload C dX12_bells_328 rfl ?_
                      refine m_iload C dX12_bells_330 rfl ?_
                      refine m_idiv C dX12_bells_332 (iv_nz kc_1 (by decide)) ?_
                      refine m_topi (fun x46 ex46 => ?_)
                      have b47 : IV x46 0 3 := by rw [ex46]; exact iv_div b7 kc_1 (by decide)
                      have tx46 : x46.toInt = y5.toInt / 1 := by rw [ex46]; exact ti_divc b7 kc_1 (by decide)
                      refine m_iload_n C dX12_bells_333 rfl rfl ?_
                      refine m_irem C dX12_bells_334 (iv_nz kc_2 (by decide)) ?_
                      refine m_topi (fun x48 ex48 => ?_)
                      have b49 : IV x48 0 1 := by rw [ex48]; exact iv_rem b47 kc_2 (by decide)
                      have tx48 : x48.toInt = x46.toInt % 2 := by rw [ex48]; exact ti_rem b47 kc_2 (by decide)
                      refine m_goto (tgt := 340) C dX12_bells_335 (by decide) ?_
                      exact m_iret C hr hlk (by decide) (by decide) dX12_bells_340 ⟨_, rfl, iτ, fτ, (iv_wk b49 (by decide)), (Or.inr (Or.inr (Or.inr (Or.inr (⟨by omega, by omega, by omega, nL, ⟨fun g => absurd g (by omega), fun _ _ => by rw [q6c, show a3.toInt.toNat = 1 by omega]; show _ = (((y5.toInt.toNat / 1 % 2 : Nat)) : Int); omega, fun g => absurd g (by omega)⟩⟩)))))⟩
                  · have f50 : 2 ≤ a3.toInt := by
                      have q : _ := c40
                      simp only [ti_nle, ti_nlt, ti_le, ti_lt, ti_eq, ti_ne, Classical.not_not, kt_2] at q
                      omega
                    have b51 : IV a3 2 2147483647 := ⟨by have q1 := kc_2; have q2 := b32; omega, by have q1 := kc_2; have q2 := b32; omega⟩
                    refine m_iload C dX12_bells_305 rfl ?_
                    refine m_iload_n C dX12_bells_307 rfl rfl ?_
                    refine m_icmp_ge (tgt := 323) C dX12_bells_308 (by decide) (fun c52 => ?_) (fun c52 => ?_)
                    · have f53 : 2 ≤ 2 := by
                        have q : _ := c52
                        simp only [ti_nle, ti_nlt, ti_le, ti_lt, ti_eq, ti_ne, Classical.not_not, kt_2, kt_2] at q
                        omega
                      refine m_iload_n C dX12_bells_323 rfl rfl ?_
                      refine m_iload_n C dX12_bells_324 rfl rfl ?_
                      refine m_icmp_ge (tgt := 338) C dX12_bells_325 (by decide) (fun c54 => ?_) (fun c54 => ?_)
                      · have f55 : 2 ≤ a3.toInt := by
                          have q : _ := c54
                          simp only [ti_nle, ti_nlt, ti_le, ti_lt, ti_eq, ti_ne, Classical.not_not, kt_2] at q
                          omega
                        refine m_ldc (v := (-1000000)) C dX12_bells_338 q5_70 ?_
                        exact m_iret C hr hlk (by decide) (by decide) dX12_bells_340 ⟨_, rfl, iτ, fτ, (iv_wk kc_m1000000 (by decide)), (Or.inr (Or.inr (Or.inr (Or.inr (⟨by have qk := kt_m1000000; omega, by have qk := kt_m1000000; omega, by have qk := kt_m1000000; omega, nL, ⟨fun g => absurd g (by omega), fun _ g => absurd g (by omega), fun _ => kt_m1000000⟩⟩)))))⟩
                      · exfalso
                        have q : _ := c54
                        simp only [ti_nle, ti_nlt, ti_le, ti_lt, ti_eq, ti_ne, Classical.not_not, kt_2] at q
                        have q1 := b51; have q2 := kc_2; omega
                    · first | exact absurd c52 (by decide) | exact absurd (by decide) c52
        · have f58 : a3.toInt < 0 := by
            have q : _ := c8
            simp only [ti_nle, ti_nlt, ti_le, ti_lt, ti_eq, ti_ne, Classical.not_not, kt_0] at q
            omega
          have b59 : IV a3 (-1) (-1) := ⟨by have q1 := b_a3; have q2 := kc_0; omega, by have q1 := b_a3; have q2 := kc_0; omega⟩
          refine m_iload C dX12_bells_289 rfl ?_
          exact m_iret C hr hlk (by decide) (by decide) dX12_bells_291 ⟨_, rfl, iτ, fτ, b_y6, (Or.inr (Or.inr (Or.inr (Or.inr (⟨by omega, by omega, by omega, nL, ⟨fun _ => q6b.symm, fun g => absurd g (by omega), fun g => absurd g (by omega)⟩⟩)))))⟩
      · have f60 : y7.toInt < 4 := by
          have q : _ := c3
          simp only [ti_nle, ti_nlt, ti_le, ti_lt, ti_eq, ti_ne, Classical.not_not, kt_4] at q
          omega
        have b61 : IV y7 0 3 := ⟨by have q1 := b_y7; have q2 := kc_4; omega, by have q1 := b_y7; have q2 := kc_4; omega⟩
        refine m_iconst (v := 0) C dX12_bells_145 (by decide) ?_
        refine m_istore (L1 := [some (.ref (G.1 22 0)), some (.int a1), some (.int 2), some (.int a3), some (.int 4), some (.int y5), some (.int y6), some (.int y7), some (.int 0), none, none, none, none, none]) C dX12_bells_146 (by decide) rfl rfl ?_
        refine m_iload C dX12_bells_148 rfl ?_
        refine m_istore (L1 := [some (.ref (G.1 22 0)), some (.int a1), some (.int 2), some (.int a3), some (.int 4), some (.int y5), some (.int y6), some (.int y7), some (.int 0), some (.int 4), none, none, none, none]) C dX12_bells_150 (by decide) rfl rfl ?_
        refine m_iconst (v := 0) C dX12_bells_152 (by decide) ?_
        refine m_istore (L1 := [some (.ref (G.1 22 0)), some (.int a1), some (.int 2), some (.int a3), some (.int 4), some (.int y5), some (.int y6), some (.int y7), some (.int 0), some (.int 4), some (.int 0), none, none, none]) C dX12_bells_153 (by decide) rfl rfl ?_
        refine m_iconst (v := 0) C dX12_bells_155 (by decide) ?_
        refine m_istore (L1 := [some (.ref (G.1 22 0)), some (.int a1), some (.int 2), some (.int a3), some (.int 4), some (.int y5), some (.int y6), some (.int y7), some (.int 0), some (.int 4), some (.int 0), some (.int 0), none, none]) C dX12_bells_156 (by decide) rfl rfl ?_
        refine m_iconst (v := 0) C dX12_bells_158 (by decide) ?_
        refine m_istore (L1 := [some (.ref (G.1 22 0)), some (.int a1), some (.int 2), some (.int a3), some (.int 4), some (.int y5), some (.int y6), some (.int y7), some (.int 0), some (.int 4), some (.int 0), some (.int 0), some (.int 0), none]) C dX12_bells_159 (by decide) rfl rfl ?_
        refine m_iload C dX12_bells_161 rfl ?_
        refine m_iload_n C dX12_bells_163 rfl rfl ?_
        refine m_icmp_ge (tgt := 249) C dX12_bells_164 (by decide) (fun c62 => ?_) (fun c62 => ?_)
        · first | exact absurd c62 (by decide) | exact absurd (by decide) c62
        · have f64 : 0 < 2 := by
            have q : _ := c62
            simp only [ti_nle, ti_nlt, ti_le, ti_lt, ti_eq, ti_ne, Classical.not_not, kt_0, kt_2] at q
            omega
          refine m_iload C dX12_bells_167 rfl ?_
          refine m_iload_n C dX12_bells_169 rfl rfl ?_
          refine m_idiv C dX12_bells_170 (iv_nz kc_2 (by decide)) ?_
          refine m_topi (fun x65 ex65 => ?_)
          have b66 : IV x65 2 2 := by rw [ex65]; decide
          have tx65 : x65.toInt = 2 := by rw [ex65]; decide
          obtain rfl : x65 = 2 := by rw [ex65]; decide
          refine m_istore (L1 := [some (.ref (G.1 22 0)), some (.int a1), some (.int 2), some (.int a3), some (.int 4), some (.int y5), some (.int y6), some (.int y7), some (.int 0), some (.int 2), some (.int 0), some (.int 0), some (.int 0), none]) C dX12_bells_171 (by decide) rfl rfl ?_
          refine m_iload C dX12_bells_173 rfl ?_
          refine m_iload C dX12_bells_175 rfl ?_
          refine m_idiv C dX12_bells_177 (iv_nz kc_2 (by decide)) ?_
          refine m_topi (fun x67 ex67 => ?_)
          have b68 : IV x67 0 1 := by rw [ex67]; exact iv_div b61 kc_2 (by decide)
          have tx67 : x67.toInt = y7.toInt / 2 := by rw [ex67]; exact ti_divc b61 kc_2 (by decide)
          refine m_iload_n C dX12_bells_178 rfl rfl ?_
          refine m_irem C dX12_bells_179 (iv_nz kc_2 (by decide)) ?_
          refine m_topi (fun x69 ex69 => ?_)
          have b70 : IV x69 0 1 := by rw [ex69]; exact iv_rem b68 kc_2 (by decide)
          have tx69 : x69.toInt = x67.toInt % 2 := by rw [ex69]; exact ti_rem b68 kc_2 (by decide)
          refine m_istore (L1 := [some (.ref (G.1 22 0)), some (.int a1), some (.int 2), some (.int a3), some (.int 4), some (.int y5), some (.int y6), some (.int y7), some (.int 0), some (.int 2), some (.int 0), some (.int 0), some (.int 0), some (.int x69)]) C dX12_bells_180 (by decide) rfl rfl ?_
          refine m_iload C dX12_bells_182 rfl ?_
          refine m_iconst (v := 1) C dX12_bells_184 (by decide) ?_
          refine m_iload C dX12_bells_185 rfl ?_
          refine m_ishl C dX12_bells_187 ?_
          refine m_topi (fun x71 ex71 => ?_)
          have b72 : IV x71 1 2 := by rw [ex71]; exact iv_shl1 b70 (by decide)
          refine m_ior C dX12_bells_188 ?_
          refine m_topi (fun x73 ex73 => ?_)
          have b74 : IV x73 0 3 := by rw [ex73]; exact iv_or 2 kc_0 b72 (by decide)
          refine m_istore (L1 := [some (.ref (G.1 22 0)), some (.int a1), some (.int 2), some (.int a3), some (.int 4), some (.int y5), some (.int y6), some (.int y7), some (.int x73), some (.int 2), some (.int 0), some (.int 0), some (.int 0), some (.int x69)]) C dX12_bells_189 (by decide) rfl rfl ?_
          refine m_iload C dX12_bells_191 rfl ?_
          refine m_iload C dX12_bells_193 rfl ?_
          refine m_iconst (v := 2) C dX12_bells_195 (by decide) ?_
          refine m_irem C dX12_bells_196 (iv_nz kc_2 (by decide)) ?_
          refine m_topi (fun x75 ex75 => ?_)
          have b76 : IV x75 0 0 := by rw [ex75]; decide
          have tx75 : x75.toInt = 0 := by rw [ex75]; decide
          obtain rfl : x75 = 0 := by rw [ex75]; decide
          refine m_if_ne (tgt := 215) C dX12_bells_197 (by decide) (fun c77 => ?_) (fun c77 => ?_)
          · first | exact absurd c77 (by decide) | exact absurd (by decide) c77
          · have f79 : 0 = 0 := by
              have q : _ := c77
              simp only [ti_nle, ti_nlt, ti_le, ti_lt, ti_eq, ti_ne, Classical.not_not, kt_0, kt_0] at q
              omega
            refine m_aload_n C dX12_bells_200 rfl rfl ?_
            refine g_22_2 C q4_118 dX12_bells_201 ?_
            refine m_bipush (v := 40) C dX12_bells_204 (by decide) ?_
            refine m_iload_n C dX12_bells_206 rfl rfl ?_
            refine m_imul C dX12_bells_207 ?_
            refine m_topi (fun x80 ex80 => ?_)
            have tx80 : x80.toInt = 40 * a1.toInt := by rw [ex80, ti_mulv kc_40 b_a1 (by decide), kt_40]
            have b81 : IV x80 0 280 := by rw [ex80]; exact iv_mul kc_40 b_a1 (by decide)
            refine m_iload C dX12_bells_208 rfl ?_
            refine m_iadd C dX12_bells_210 ?_
            refine m_topi (fun x82 ex82 => ?_)
            have tx82 : x82.toInt = x80.toInt + x69.toInt := by rw [ex82, ti_addv b81 b70 (by decide)]
            have b83 : IV x82 0 281 := by rw [ex82]; exact iv_add b81 b70 (by decide)
            refine al_25 C b83 (by decide) rfl dX12_bells_211 ?_
            refine m_topi (fun x84 ex84 => ?_)
            have q85 : (nuJ σ (a1.toInt.toNat) 2) (y7.toInt.toNat / 2 % 2) = x84.toInt := by unfold nuJ; rw [if_pos (by omega), show 40 * (a1.toInt.toNat) + (y7.toInt.toNat / 2 % 2) = (x82.toInt.toNat) by omega, ← (fτ).1 25 0 (x82.toInt.toNat) (by simp) (by decide), show gV τ 25 0 (x82.toInt.toNat) = x84 from ex84.symm]
            have q87 := hν (y7.toInt.toNat / 2 % 2)
            have b86 : IV x84 0 20 := ⟨by omega, by omega⟩
            refine m_goto (tgt := 228) C dX12_bells_212 (by decide) ?_
            refine m_iadd C dX12_bells_228 ?_
            refine m_topi (fun x88 ex88 => ?_)
            have tx88 : x88.toInt = 0 + x84.toInt := by rw [ex88, ti_addv kc_0 b86 (by decide), kt_0]
            have b89 : IV x88 0 20 := by rw [ex88]; exact iv_add kc_0 b86 (by decide)
            refine m_istore (L1 := [some (.ref (G.1 22 0)), some (.int a1), some (.int 2), some (.int a3), some (.int 4), some (.int y5), some (.int y6), some (.int y7), some (.int x73), some (.int 2), some (.int x88), some (.int 0), some (.int 0), some (.int x69)]) C dX12_bells_229 (by decide) rfl rfl ?_
            refine m_iload C dX12_bells_231 rfl ?_
            refine m_iload C dX12_bells_233 rfl ?_
            refine m_callS (n := 1) (st := [.int 0]) C (c_X12_sizeOfB l G τ (x88) iτ (iv_wk b89 (by decide))) q5_96 q5_94 q5_95 q1_7 (by decide +kernel) rfl (by decide) (by decide) rfl (Nat.le_of_ble_eq_true rfl) dX12_bells_235 ?_
            rintro _ τ90 ⟨x93, rfl, i91, f92, b94, h96⟩
            have g95 : Fr MS_X12_bells_2Z AS_X12_bells_2Z σ τ90 := Fr.call (fτ) f92 (by decide)
            have q97 : (gV τ90 26 0 (a1.toInt.toNat)).toInt = (gV τ 26 0 (a1.toInt.toNat)).toInt := congrArg Int32.toInt (show (gV τ90 26 0 (a1.toInt.toNat)) = (gV τ 26 0 (a1.toInt.toNat)) from (show gV τ90 26 0 (a1.toInt.toNat) = (gV τ 26 0 (a1.toInt.toNat)) from (f92.1 26 0 ((a1.toInt.toNat)) (by simp) (by decide)).trans rfl))
            have q98 : (gV τ90 27 0 (a1.toInt.toNat)).toInt = (gV τ 27 0 (a1.toInt.toNat)).toInt := congrArg Int32.toInt (show (gV τ90 27 0 (a1.toInt.toNat)) = (gV τ 27 0 (a1.toInt.toNat)) from (show gV τ90 27 0 (a1.toInt.toNat) = (gV τ 27 0 (a1.toInt.toNat)) from (f92.1 27 0 ((a1.toInt.toNat)) (by simp) (by decide)).trans rfl))
            show MW p l e _ s m args below meth c _ 14 G 0 0 238 [some (.ref (G.1 22 0)), some (.int a1), some (.int 2), some (.int a3), some (.int 4), some (.int y5), some (.int y6), some (.int y7), some (.int x73), some (.int 2), some (.int x88), some (.int 0), some (.int 0), some (.int x69)] [.int x93, .int 0] τ90
            have q99 := kt_0
            refine m_callS (n := 2) (st := []) C (c_X12_greaterB l G τ90 (0) (x93) i91 ) q5_99 q5_97 q5_98 q1_7 (by decide +kernel) rfl (by decide) (by decide) rfl (Nat.le_of_ble_eq_true rfl) dX12_bells_238 ?_
            rintro _ τ100 ⟨x103, rfl, i101, f102, b104, h106⟩
            have g105 : Fr MS_X12_bells_2Z AS_X12_bells_2Z σ τ100 := Fr.call (g95) f102 (by decide)
            have q107 : (gV τ100 26 0 (a1.toInt.toNat)).toInt = (gV τ 26 0 (a1.toInt.toNat)).toInt := congrArg Int32.toInt (show (gV τ100 26 0 (a1.toInt.toNat)) = (gV τ 26 0 (a1.toInt.toNat)) from (show gV τ100 26 0 (a1.toInt.toNat) = (gV τ 26 0 (a1.toInt.toNat)) from (f102.1 26 0 ((a1.toInt.toNat)) (by simp) (by decide)).trans (show gV τ90 26 0 (a1.toInt.toNat) = (gV τ 26 0 (a1.toInt.toNat)) from (f92.1 26 0 ((a1.toInt.toNat)) (by simp) (by decide)).trans rfl)))
            have q108 : (gV τ100 27 0 (a1.toInt.toNat)).toInt = (gV τ 27 0 (a1.toInt.toNat)).toInt := congrArg Int32.toInt (show (gV τ100 27 0 (a1.toInt.toNat)) = (gV τ 27 0 (a1.toInt.toNat)) from (show gV τ100 27 0 (a1.toInt.toNat) = (gV τ 27 0 (a1.toInt.toNat)) from (f102.1 27 0 ((a1.toInt.toNat)) (by simp) (by decide)).trans (show gV τ90 27 0 (a1.toInt.toNat) = (gV τ 27 0 (a1.toInt.toNat)) from (f92.1 27 0 ((a1.toInt.toNat)) (by simp) (by decide)).trans rfl)))
            show MW p l e _ s m args below meth c _ 14 G 0 0 241 [some (.ref (G.1 22 0)), some (.int a1), some (.int 2), some (.int a3), some (.int 4), some (.int y5), some (.int y6), some (.int y7), some (.int x73), some (.int 2), some (.int x88), some (.int 0), some (.int 0), some (.int x69)] [.int x103] τ100
            refine m_istore (L1 := [some (.ref (G.1 22 0)), some (.int a1), some (.int 2), some (.int a3), some (.int 4), some (.int y5), some (.int y6), some (.int y7), some (.int x73), some (.int 2), some (.int x88), some (.int x103), some (.int 0), some (.int x69)]) C dX12_bells_241 (by decide) rfl rfl ?_
            have q110 : x69 = nI (y7.toInt.toNat / 2 % 2) := nI_of_ti (by omega) (by omega)
            rw [kt_0] at h106
            have h109 : bst (nuJ σ (a1.toInt.toNat) 2) 0 0 0 [(y7.toInt.toNat / 2 % 2)] = (x88.toInt, x103.toInt) := by
              have q := bst_one (b := (y7.toInt.toNat / 2 % 2)) (k := 0) (show bst (nuJ σ (a1.toInt.toNat) 2) 0 0 0 [] = (0, 0) from rfl) rfl
              rw [if_pos (by decide), show 0 + (nuJ σ (a1.toInt.toNat) 2) (y7.toInt.toNat / 2 % 2) = x88.toInt by omega, ← h96, ← h106] at q
              exact q
            clear h96 h106
            obtain ⟨x111, ex111⟩ : ∃ y : Int32, y = 0 + 1 := ⟨_, rfl⟩
            have b112 : IV x111 1 1 := by rw [ex111]; decide
            have tx111 : x111.toInt = 1 := by rw [ex111]; decide
            obtain rfl : x111 = 1 := by rw [ex111]; decide
            refine m_iinc (v := 1) (L1 := [some (.ref (G.1 22 0)), some (.int a1), some (.int 2), some (.int a3), some (.int 4), some (.int y5), some (.int y6), some (.int y7), some (.int x73), some (.int 2), some (.int x88), some (.int x103), some (.int 1), some (.int x69)]) C dX12_bells_243 rfl (by decide) (by decide) rfl rfl ?_
            refine m_goto (tgt := 161) C dX12_bells_246 (by decide) ?_
            refine m_iload C dX12_bells_161 rfl ?_
            refine m_iload_n C dX12_bells_163 rfl rfl ?_
            refine m_icmp_ge (tgt := 249) C dX12_bells_164 (by decide) (fun c113 => ?_) (fun c113 => ?_)
            · first | exact absurd c113 (by decide) | exact absurd (by decide) c113
            · have f115 : 1 < 2 := by
                have q : _ := c113
                simp only [ti_nle, ti_nlt, ti_le, ti_lt, ti_eq, ti_ne, Classical.not_not, kt_1, kt_2] at q
                omega
              refine m_iload C dX12_bells_167 rfl ?_
              refine m_iload_n C dX12_bells_169 rfl rfl ?_
              refine m_idiv C dX12_bells_170 (iv_nz kc_2 (by decide)) ?_
              refine m_topi (fun x116 ex116 => ?_)
              have b117 : IV x116 1 1 := by rw [ex116]; decide
              have tx116 : x116.toInt = 1 := by rw [ex116]; decide
              obtain rfl : x116 = 1 := by rw [ex116]; decide
              refine m_istore (L1 := [some (.ref (G.1 22 0)), some (.int a1), some (.int 2), some (.int a3), some (.int 4), some (.int y5), some (.int y6), some (.int y7), some (.int x73), some (.int 1), some (.int x88), some (.int x103), some (.int 1), some (.int x69)]) C dX12_bells_171 (by decide) rfl rfl ?_
              refine m_iload C dX12_bells_173 rfl ?_
              refine m_iload C dX12_bells_175 rfl ?_
              refine m_idiv C dX12_bells_177 (iv_nz kc_1 (by decide)) ?_
              refine m_topi (fun x118 ex118 => ?_)
              have b119 : IV x118 0 3 := by rw [ex118]; exact iv_div b61 kc_1 (by decide)
              have tx118 : x118.toInt = y7.toInt / 1 := by rw [ex118]; exact ti_divc b61 kc_1 (by decide)
              refine m_iload_n C dX12_bells_178 rfl rfl ?_
              refine m_irem C dX12_bells_179 (iv_nz kc_2 (by decide)) ?_
              refine m_topi (fun x120 ex120 => ?_)
              have b121 : IV x120 0 1 := by rw [ex120]; exact iv_rem b119 kc_2 (by decide)
              have tx120 : x120.toInt = x118.toInt % 2 := by rw [ex120]; exact ti_rem b119 kc_2 (by decide)
              refine m_istore (L1 := [some (.ref (G.1 22 0)), some (.int a1), some (.int 2), some (.int a3), some (.int 4), some (.int y5), some (.int y6), some (.int y7), some (.int x73), some (.int 1), some (.int x88), some (.int x103), some (.int 1), some (.int x120)]) C dX12_bells_180 (by decide) rfl rfl ?_
              refine m_iload C dX12_bells_182 rfl ?_
              refine m_iconst (v := 1) C dX12_bells_184 (by decide) ?_
              refine m_iload C dX12_bells_185 rfl ?_
              refine m_ishl C dX12_bells_187 ?_
              refine m_topi (fun x122 ex122 => ?_)
              have b123 : IV x122 1 2 := by rw [ex122]; exact iv_shl1 b121 (by decide)
              refine m_ior C dX12_bells_188 ?_
              refine m_topi (fun x124 ex124 => ?_)
              have b125 : IV x124 0 3 := by rw [ex124]; exact iv_or 2 b74 b123 (by decide)
              refine m_istore (L1 := [some (.ref (G.1 22 0)), some (.int a1), some (.int 2), some (.int a3), some (.int 4), some (.int y5), some (.int y6), some (.int y7), some (.int x124), some (.int 1), some (.int x88), some (.int x103), some (.int 1), some (.int x120)]) C dX12_bells_189 (by decide) rfl rfl ?_
              refine m_iload C dX12_bells_191 rfl ?_
              refine m_iload C dX12_bells_193 rfl ?_
              refine m_iconst (v := 2) C dX12_bells_195 (by decide) ?_
              refine m_irem C dX12_bells_196 (iv_nz kc_2 (by decide)) ?_
              refine m_topi (fun x126 ex126 => ?_)
              have b127 : IV x126 1 1 := by rw [ex126]; decide
              have tx126 : x126.toInt = 1 := by rw [ex126]; decide
              obtain rfl : x126 = 1 := by rw [ex126]; decide
              refine m_if_ne (tgt := 215) C dX12_bells_197 (by decide) (fun c128 => ?_) (fun c128 => ?_)
              · have f129 : 1 ≠ 0 := by
                  have q : _ := c128
                  simp only [ti_nle, ti_nlt, ti_le, ti_lt, ti_eq, ti_ne, Classical.not_not, kt_1, kt_0] at q
                  omega
                refine m_aload_n C dX12_bells_215 rfl rfl ?_
                refine g_22_2 C q4_118 dX12_bells_216 ?_
                refine m_bipush (v := 40) C dX12_bells_219 (by decide) ?_
                refine m_iload_n C dX12_bells_221 rfl rfl ?_
                refine m_imul C dX12_bells_222 ?_
                refine m_topi (fun x130 ex130 => ?_)
                have tx130 : x130.toInt = 40 * a1.toInt := by rw [ex130, ti_mulv kc_40 b_a1 (by decide), kt_40]
                have b131 : IV x130 0 280 := by rw [ex130]; exact iv_mul kc_40 b_a1 (by decide)
                refine m_iload C dX12_bells_223 rfl ?_
                refine m_iadd C dX12_bells_225 ?_
                refine m_topi (fun x132 ex132 => ?_)
                have tx132 : x132.toInt = x130.toInt + x120.toInt := by rw [ex132, ti_addv b131 b121 (by decide)]
                have b133 : IV x132 0 281 := by rw [ex132]; exact iv_add b131 b121 (by decide)
                refine al_25 C b133 (by decide) rfl dX12_bells_226 ?_
                refine m_topi (fun x134 ex134 => ?_)
                have q135 : (nuJ σ (a1.toInt.toNat) 2) (y7.toInt.toNat / 1 % 2) = x134.toInt := by unfold nuJ; rw [if_pos (by omega), show 40 * (a1.toInt.toNat) + (y7.toInt.toNat / 1 % 2) = (x132.toInt.toNat) by omega, ← (g105).1 25 0 (x132.toInt.toNat) (by simp) (by decide), show gV τ100 25 0 (x132.toInt.toNat) = x134 from ex134.symm]
                have q137 := hν (y7.toInt.toNat / 1 % 2)
                have b136 : IV x134 0 20 := ⟨by omega, by omega⟩
                refine m_ineg C dX12_bells_227 ?_
                refine m_topi (fun x138 ex138 => ?_)
                have q140 : x138.toInt = -x134.toInt := by rw [ex138]; exact ti_negv b136 (by decide)
                have b139 : IV x138 (-20) 0 := ⟨by omega, by omega⟩
                refine m_iadd C dX12_bells_228 ?_
                refine m_topi (fun x141 ex141 => ?_)
                have tx141 : x141.toInt = x88.toInt + x138.toInt := by rw [ex141, ti_addv b89 b139 (by decide)]
                have b142 : IV x141 (-20) 20 := by rw [ex141]; exact iv_add b89 b139 (by decide)
                refine m_istore (L1 := [some (.ref (G.1 22 0)), some (.int a1), some (.int 2), some (.int a3), some (.int 4), some (.int y5), some (.int y6), some (.int y7), some (.int x124), some (.int 1), some (.int x141), some (.int x103), some (.int 1), some (.int x120)]) C dX12_bells_229 (by decide) rfl rfl ?_
                refine m_iload C dX12_bells_231 rfl ?_
                refine m_iload C dX12_bells_233 rfl ?_
                refine m_callS (n := 1) (st := [.int x103]) C (c_X12_sizeOfB l G τ100 (x141) i101 (iv_wk b142 (by decide))) q5_96 q5_94 q5_95 q1_7 (by decide +kernel) rfl (by decide) (by decide) rfl (Nat.le_of_ble_eq_true rfl) dX12_bells_235 ?_
                rintro _ τ143 ⟨x146, rfl, i144, f145, b147, h149⟩
                have g148 : Fr MS_X12_bells_2Z AS_X12_bells_2Z σ τ143 := Fr.call (g105) f145 (by decide)
                have q150 : (gV τ143 26 0 (a1.toInt.toNat)).toInt = (gV τ 26 0 (a1.toInt.toNat)).toInt := congrArg Int32.toInt (show (gV τ143 26 0 (a1.toInt.toNat)) = (gV τ 26 0 (a1.toInt.toNat)) from (show gV τ143 26 0 (a1.toInt.toNat) = (gV τ 26 0 (a1.toInt.toNat)) from (f145.1 26 0 ((a1.toInt.toNat)) (by simp) (by decide)).trans (show gV τ100 26 0 (a1.toInt.toNat) = (gV τ 26 0 (a1.toInt.toNat)) from (f102.1 26 0 ((a1.toInt.toNat)) (by simp) (by decide)).trans (show gV τ90 26 0 (a1.toInt.toNat) = (gV τ 26 0 (a1.toInt.toNat)) from (f92.1 26 0 ((a1.toInt.toNat)) (by simp) (by decide)).trans rfl))))
                have q151 : (gV τ143 27 0 (a1.toInt.toNat)).toInt = (gV τ 27 0 (a1.toInt.toNat)).toInt := congrArg Int32.toInt (show (gV τ143 27 0 (a1.toInt.toNat)) = (gV τ 27 0 (a1.toInt.toNat)) from (show gV τ143 27 0 (a1.toInt.toNat) = (gV τ 27 0 (a1.toInt.toNat)) from (f145.1 27 0 ((a1.toInt.toNat)) (by simp) (by decide)).trans (show gV τ100 27 0 (a1.toInt.toNat) = (gV τ 27 0 (a1.toInt.toNat)) from (f102.1 27 0 ((a1.toInt.toNat)) (by simp) (by decide)).trans (show gV τ90 27 0 (a1.toInt.toNat) = (gV τ 27 0 (a1.toInt.toNat)) from (f92.1 27 0 ((a1.toInt.toNat)) (by simp) (by decide)).trans rfl))))
                show MW p l e _ s m args below meth c _ 14 G 0 0 238 [some (.ref (G.1 22 0)), some (.int a1), some (.int 2), some (.int a3), some (.int 4), some (.int y5), some (.int y6), some (.int y7), some (.int x124), some (.int 1), some (.int x141), some (.int x103), some (.int 1), some (.int x120)] [.int x146, .int x103] τ143
                refine m_callS (n := 2) (st := []) C (c_X12_greaterB l G τ143 (x103) (x146) i144 ) q5_99 q5_97 q5_98 q1_7 (by decide +kernel) rfl (by decide) (by decide) rfl (Nat.le_of_ble_eq_true rfl) dX12_bells_238 ?_
                rintro _ τ152 ⟨x155, rfl, i153, f154, b156, h158⟩
                have g157 : Fr MS_X12_bells_2Z AS_X12_bells_2Z σ τ152 := Fr.call (g148) f154 (by decide)
                have q159 : (gV τ152 26 0 (a1.toInt.toNat)).toInt = (gV τ 26 0 (a1.toInt.toNat)).toInt := congrArg Int32.toInt (show (gV τ152 26 0 (a1.toInt.toNat)) = (gV τ 26 0 (a1.toInt.toNat)) from (show gV τ152 26 0 (a1.toInt.toNat) = (gV τ 26 0 (a1.toInt.toNat)) from (f154.1 26 0 ((a1.toInt.toNat)) (by simp) (by decide)).trans (show gV τ143 26 0 (a1.toInt.toNat) = (gV τ 26 0 (a1.toInt.toNat)) from (f145.1 26 0 ((a1.toInt.toNat)) (by simp) (by decide)).trans (show gV τ100 26 0 (a1.toInt.toNat) = (gV τ 26 0 (a1.toInt.toNat)) from (f102.1 26 0 ((a1.toInt.toNat)) (by simp) (by decide)).trans (show gV τ90 26 0 (a1.toInt.toNat) = (gV τ 26 0 (a1.toInt.toNat)) from (f92.1 26 0 ((a1.toInt.toNat)) (by simp) (by decide)).trans rfl)))))
                have q160 : (gV τ152 27 0 (a1.toInt.toNat)).toInt = (gV τ 27 0 (a1.toInt.toNat)).toInt := congrArg Int32.toInt (show (gV τ152 27 0 (a1.toInt.toNat)) = (gV τ 27 0 (a1.toInt.toNat)) from (show gV τ152 27 0 (a1.toInt.toNat) = (gV τ 27 0 (a1.toInt.toNat)) from (f154.1 27 0 ((a1.toInt.toNat)) (by simp) (by decide)).trans (show gV τ143 27 0 (a1.toInt.toNat) = (gV τ 27 0 (a1.toInt.toNat)) from (f145.1 27 0 ((a1.toInt.toNat)) (by simp) (by decide)).trans (show gV τ100 27 0 (a1.toInt.toNat) = (gV τ 27 0 (a1.toInt.toNat)) from (f102.1 27 0 ((a1.toInt.toNat)) (by simp) (by decide)).trans (show gV τ90 27 0 (a1.toInt.toNat) = (gV τ 27 0 (a1.toInt.toNat)) from (f92.1 27 0 ((a1.toInt.toNat)) (by simp) (by decide)).trans rfl)))))
                show MW p l e _ s m args below meth c _ 14 G 0 0 241 [some (.ref (G.1 22 0)), some (.int a1), some (.int 2), some (.int a3), some (.int 4), some (.int y5), some (.int y6), some (.int y7), some (.int x124), some (.int 1), some (.int x141), some (.int x103), some (.int 1), some (.int x120)] [.int x155] τ152
                refine m_istore (L1 := [some (.ref (G.1 22 0)), some (.int a1), some (.int 2), some (.int a3), some (.int 4), some (.int y5), some (.int y6), some (.int y7), some (.int x124), some (.int 1), some (.int x141), some (.int x155), some (.int 1), some (.int x120)]) C dX12_bells_241 (by decide) rfl rfl ?_
                have q162 : x120 = nI (y7.toInt.toNat / 1 % 2) := nI_of_ti (by omega) (by omega)
                have h161 : bst (nuJ σ (a1.toInt.toNat) 2) 0 0 0 [(y7.toInt.toNat / 2 % 2), (y7.toInt.toNat / 1 % 2)] = (x141.toInt, x155.toInt) := by
                  have q := bst_one (b := (y7.toInt.toNat / 1 % 2)) (k := 1) (h109) rfl
                  rw [if_neg (by decide), show x88.toInt - (nuJ σ (a1.toInt.toNat) 2) (y7.toInt.toNat / 1 % 2) = x141.toInt by omega, ← h149, ← h158] at q
                  exact q
                clear h149 h158
                clear h109
                obtain ⟨x163, ex163⟩ : ∃ y : Int32, y = 1 + 1 := ⟨_, rfl⟩
                have b164 : IV x163 2 2 := by rw [ex163]; decide
                have tx163 : x163.toInt = 2 := by rw [ex163]; decide
                obtain rfl : x163 = 2 := by rw [ex163]; decide
                refine m_iinc (v := 2) (L1 := [some (.ref (G.1 22 0)), some (.int a1), some (.int 2), some (.int a3), some (.int 4), some (.int y5), some (.int y6), some (.int y7), some (.int x124), some (.int 1), some (.int x141), some (.int x155), some (.int 2), some (.int x120)]) C dX12_bells_243 rfl (by decide) (by decide) rfl rfl ?_
                refine m_goto (tgt := 161) C dX12_bells_246 (by decide) ?_
                refine m_iload C dX12_bells_161 rfl ?_
                refine m_iload_n C dX12_bells_163 rfl rfl ?_
                refine m_icmp_ge (tgt := 249) C dX12_bells_164 (by decide) (fun c165 => ?_) (fun c165 => ?_)
                · have f166 : 2 ≤ 2 := by
                    have q : _ := c165
                    simp only [ti_nle, ti_nlt, ti_le, ti_lt, ti_eq, ti_ne, Classical.not_not, kt_2, kt_2] at q
                    omega
                  have h167u : x124 = usedX 2 y7.toInt.toNat := by rw [ex124, ex122, ex73, ex71, q110, q162]; rfl
                  have h167 := used_all 2 (by decide) (by decide) y7.toInt.toNat (by omega)
                  rw [← h167u] at h167
                  have h168 : x155.toInt = bcost (nuJ σ (a1.toInt.toNat) 2) (bdg 2 y7.toInt.toNat) := (bcost_of (show bst (nuJ σ (a1.toInt.toNat) 2) 0 0 0 (bdg 2 y7.toInt.toNat) = _ from h161)).symm
                  refine m_iload C dX12_bells_249 rfl ?_
                  refine m_iconst (v := 1) C dX12_bells_251 (by decide) ?_
                  refine m_iload_n C dX12_bells_252 rfl rfl ?_
                  refine m_ishl C dX12_bells_253 ?_
                  refine m_topi (fun x169 ex169 => ?_)
                  have b170 : IV x169 4 4 := by rw [ex169]; decide
                  have tx169 : x169.toInt = 4 := by rw [ex169]; decide
                  obtain rfl : x169 = 4 := by rw [ex169]; decide
                  refine m_iconst (v := 1) C dX12_bells_254 (by decide) ?_
                  refine m_isub C dX12_bells_255 ?_
                  refine m_topi (fun x171 ex171 => ?_)
                  have b172 : IV x171 3 3 := by rw [ex171]; decide
                  have tx171 : x171.toInt = 3 := by rw [ex171]; decide
                  obtain rfl : x171 = 3 := by rw [ex171]; decide
                  refine m_icmp_ne (tgt := 279) C dX12_bells_256 (by decide) (fun c173 => ?_) (fun c173 => ?_)
                  · have f174 : x124.toInt ≠ 3 := by
                      have q : _ := c173
                      simp only [ti_nle, ti_nlt, ti_le, ti_lt, ti_eq, ti_ne, Classical.not_not, kt_3] at q
                      omega
                    have b175 : IV x124 0 2 := ⟨by have q1 := b125; have q2 := kc_3; omega, by have q1 := b125; have q2 := kc_3; omega⟩
                    have q176 : ¬ x124 = nI (2 ^ 2 - 1) := fun g => by have g2 := congrArg Int32.toInt g; rw [show (nI (2 ^ 2 - 1)).toInt = 3 by decide] at g2; omega
                    obtain ⟨x177, ex177⟩ : ∃ y : Int32, y = y7 + 1 := ⟨_, rfl⟩
                    have tx177 : x177.toInt = y7.toInt + 1 := by rw [ex177, ti_addv b61 kc_1 (by decide), kt_1]
                    have b178 : IV x177 1 4 := by rw [ex177]; exact iv_add b61 kc_1 (by decide)
                    refine m_iinc (v := x177) (L1 := [some (.ref (G.1 22 0)), some (.int a1), some (.int 2), some (.int a3), some (.int 4), some (.int y5), some (.int y6), some (.int x177), some (.int x124), some (.int 1), some (.int x141), some (.int x155), some (.int 2), some (.int x120)]) C dX12_bells_279 rfl (by rw [ex177]; rfl) (by decide) rfl rfl ?_
                    refine m_goto (tgt := 138) C dX12_bells_282 (by decide) ?_
                    refine m_sub (L1 := [some (.ref (G.1 22 0)), some (.int a1), some (.int 2), some (.int a3), some (.int 4), some (.int y5), some (.int y6), some (.int x177), none, none, none, none, none, none]) ⟨rfl, ⟨rfl, ⟨rfl, ⟨rfl, ⟨rfl, ⟨rfl, ⟨rfl, ⟨rfl, trivial⟩⟩⟩⟩⟩⟩⟩⟩ ?_
                    exact ih138 τ152 y5 y6 x177 i153 g157 b_a1 b_a3 b_y5 b_y6 (iv_wk b178 (by decide)) (by omega) nL (nB.no (fun g => q176 (h167.mpr g)) (by omega)) (by have q := hm138; omega)
                  · have f179 : x124.toInt = 3 := by
                      have q : _ := c173
                      simp only [ti_nle, ti_nlt, ti_le, ti_lt, ti_eq, ti_ne, Classical.not_not, kt_3] at q
                      omega
                    have b180 : IV x124 3 3 := ⟨by have q1 := b125; have q2 := kc_3; omega, by have q1 := b125; have q2 := kc_3; omega⟩
                    have q181 : x124 = nI (2 ^ 2 - 1) := Int32.toInt_inj.mp (by rw [show (nI (2 ^ 2 - 1)).toInt = 3 by decide]; omega)
                    refine m_iload C dX12_bells_259 rfl ?_
                    refine m_if_lt (tgt := 271) C dX12_bells_261 (by decide) (fun c182 => ?_) (fun c182 => ?_)
                    · have f183 : y5.toInt < 0 := by
                        have q : _ := c182
                        simp only [ti_nle, ti_nlt, ti_le, ti_lt, ti_eq, ti_ne, Classical.not_not, kt_0] at q
                        omega
                      have b184 : IV y5 (-1) (-1) := ⟨by have q1 := b_y5; have q2 := kc_0; omega, by have q1 := b_y5; have q2 := kc_0; omega⟩
                      refine m_iload C dX12_bells_271 rfl ?_
                      refine m_istore (L1 := [some (.ref (G.1 22 0)), some (.int a1), some (.int 2), some (.int a3), some (.int 4), some (.int y7), some (.int y6), some (.int y7), some (.int x124), some (.int 1), some (.int x141), some (.int x155), some (.int 2), some (.int x120)]) C dX12_bells_273 (by decide) rfl rfl ?_
                      refine m_iload C dX12_bells_275 rfl ?_
                      refine m_istore (L1 := [some (.ref (G.1 22 0)), some (.int a1), some (.int 2), some (.int a3), some (.int 4), some (.int y7), some (.int x155), some (.int y7), some (.int x124), some (.int 1), some (.int x141), some (.int x155), some (.int 2), some (.int x120)]) C dX12_bells_277 (by decide) rfl rfl ?_
                      obtain ⟨x185, ex185⟩ : ∃ y : Int32, y = y7 + 1 := ⟨_, rfl⟩
                      have tx185 : x185.toInt = y7.toInt + 1 := by rw [ex185, ti_addv b61 kc_1 (by decide), kt_1]
                      have b186 : IV x185 1 4 := by rw [ex185]; exact iv_add b61 kc_1 (by decide)
                      refine m_iinc (v := x185) (L1 := [some (.ref (G.1 22 0)), some (.int a1), some (.int 2), some (.int a3), some (.int 4), some (.int y7), some (.int x155), some (.int x185), some (.int x124), some (.int 1), some (.int x141), some (.int x155), some (.int 2), some (.int x120)]) C dX12_bells_279 rfl (by rw [ex185]; rfl) (by decide) rfl rfl ?_
                      refine m_goto (tgt := 138) C dX12_bells_282 (by decide) ?_
                      refine m_sub (L1 := [some (.ref (G.1 22 0)), some (.int a1), some (.int 2), some (.int a3), some (.int 4), some (.int y7), some (.int x155), some (.int x185), none, none, none, none, none, none]) ⟨rfl, ⟨rfl, ⟨rfl, ⟨rfl, ⟨rfl, ⟨rfl, ⟨rfl, ⟨rfl, trivial⟩⟩⟩⟩⟩⟩⟩⟩ ?_
                      exact ih138 τ152 y7 x155 x185 i153 g157 b_a1 b_a3 (iv_wk b61 (by decide)) b156 (iv_wk b186 (by decide)) (by omega) nL (BRL.new (m := x155) nB hν (by decide) (by omega) (h167.mp q181) (by omega) h168 (by omega)) (by have q := hm138; omega)
                    · have f187 : 0 ≤ y5.toInt := by
                        have q : _ := c182
                        simp only [ti_nle, ti_nlt, ti_le, ti_lt, ti_eq, ti_ne, Classical.not_not, kt_0] at q
                        omega
                      have b188 : IV y5 0 3 := ⟨by have q1 := kc_0; have q2 := b_y5; omega, by have q1 := kc_0; have q2 := b_y5; omega⟩
                      refine m_iload C dX12_bells_264 rfl ?_
                      refine m_iload C dX12_bells_266 rfl ?_
                      refine m_icmp_ge (tgt := 279) C dX12_bells_268 (by decide) (fun c189 => ?_) (fun c189 => ?_)
                      · have f190 : y6.toInt ≤ x155.toInt := by
                          have q : _ := c189
                          simp only [ti_nle, ti_nlt, ti_le, ti_lt, ti_eq, ti_ne, Classical.not_not] at q
                          omega
                        obtain ⟨x191, ex191⟩ : ∃ y : Int32, y = y7 + 1 := ⟨_, rfl⟩
                        have tx191 : x191.toInt = y7.toInt + 1 := by rw [ex191, ti_addv b61 kc_1 (by decide), kt_1]
                        have b192 : IV x191 1 4 := by rw [ex191]; exact iv_add b61 kc_1 (by decide)
                        refine m_iinc (v := x191) (L1 := [some (.ref (G.1 22 0)), some (.int a1), some (.int 2), some (.int a3), some (.int 4), some (.int y5), some (.int y6), some (.int x191), some (.int x124), some (.int 1), some (.int x141), some (.int x155), some (.int 2), some (.int x120)]) C dX12_bells_279 rfl (by rw [ex191]; rfl) (by decide) rfl rfl ?_
                        refine m_goto (tgt := 138) C dX12_bells_282 (by decide) ?_
                        refine m_sub (L1 := [some (.ref (G.1 22 0)), some (.int a1), some (.int 2), some (.int a3), some (.int 4), some (.int y5), some (.int y6), some (.int x191), none, none, none, none, none, none]) ⟨rfl, ⟨rfl, ⟨rfl, ⟨rfl, ⟨rfl, ⟨rfl, ⟨rfl, ⟨rfl, trivial⟩⟩⟩⟩⟩⟩⟩⟩ ?_
                        exact ih138 τ152 y5 y6 x191 i153 g157 b_a1 b_a3 (iv_wk b188 (by decide)) b_y6 (iv_wk b192 (by decide)) (by omega) nL (BRL.stay (m := x155) nB (h167.mp q181) (by omega) h168 (by omega) (by omega)) (by have q := hm138; omega)
                      · have f193 : x155.toInt < y6.toInt := by
                          have q : _ := c189
                          simp only [ti_nle, ti_nlt, ti_le, ti_lt, ti_eq, ti_ne, Classical.not_not] at q
                          omega
                        have b194 : IV x155 (-2147483648) 2147483646 := ⟨by have q1 := b156; have q2 := b_y6; omega, by have q1 := b156; have q2 := b_y6; omega⟩
                        have b195 : IV y6 (-2147483647) 2147483647 := ⟨by have q1 := b156; have q2 := b_y6; omega, by have q1 := b156; have q2 := b_y6; omega⟩
                        refine m_iload C dX12_bells_271 rfl ?_
                        refine m_istore (L1 := [some (.ref (G.1 22 0)), some (.int a1), some (.int 2), some (.int a3), some (.int 4), some (.int y7), some (.int y6), some (.int y7), some (.int x124), some (.int 1), some (.int x141), some (.int x155), some (.int 2), some (.int x120)]) C dX12_bells_273 (by decide) rfl rfl ?_
                        refine m_iload C dX12_bells_275 rfl ?_
                        refine m_istore (L1 := [some (.ref (G.1 22 0)), some (.int a1), some (.int 2), some (.int a3), some (.int 4), some (.int y7), some (.int x155), some (.int y7), some (.int x124), some (.int 1), some (.int x141), some (.int x155), some (.int 2), some (.int x120)]) C dX12_bells_277 (by decide) rfl rfl ?_
                        obtain ⟨x196, ex196⟩ : ∃ y : Int32, y = y7 + 1 := ⟨_, rfl⟩
                        have tx196 : x196.toInt = y7.toInt + 1 := by rw [ex196, ti_addv b61 kc_1 (by decide), kt_1]
                        have b197 : IV x196 1 4 := by rw [ex196]; exact iv_add b61 kc_1 (by decide)
                        refine m_iinc (v := x196) (L1 := [some (.ref (G.1 22 0)), some (.int a1), some (.int 2), some (.int a3), some (.int 4), some (.int y7), some (.int x155), some (.int x196), some (.int x124), some (.int 1), some (.int x141), some (.int x155), some (.int 2), some (.int x120)]) C dX12_bells_279 rfl (by rw [ex196]; rfl) (by decide) rfl rfl ?_
                        refine m_goto (tgt := 138) C dX12_bells_282 (by decide) ?_
                        refine m_sub (L1 := [some (.ref (G.1 22 0)), some (.int a1), some (.int 2), some (.int a3), some (.int 4), some (.int y7), some (.int x155), some (.int x196), none, none, none, none, none, none]) ⟨rfl, ⟨rfl, ⟨rfl, ⟨rfl, ⟨rfl, ⟨rfl, ⟨rfl, ⟨rfl, trivial⟩⟩⟩⟩⟩⟩⟩⟩ ?_
                        exact ih138 τ152 y7 x155 x196 i153 g157 b_a1 b_a3 (iv_wk b61 (by decide)) (iv_wk b194 (by decide)) (iv_wk b197 (by decide)) (by omega) nL (BRL.new (m := x155) nB hν (by decide) (by omega) (h167.mp q181) (by omega) h168 (by omega)) (by have q := hm138; omega)
                · first | exact absurd c165 (by decide) | exact absurd (by decide) c165
              · first | exact absurd c128 (by decide) | exact absurd (by decide) c128
  have J61 : ∀ (n : Nat) (τ : Sg) (y4 : Int32), Inv τ → Fr MS_X12_bells_2Z AS_X12_bells_2Z σ τ → IV a1 0 7 → IV a3 (-1) 2147483647 → IV y4 0 2 → (((0 ≤ a1.toInt ∧ a1.toInt ≤ 7) ∧ 1 ≤ (2 : Int) ∧ (2 : Int) ≤ 5 ∧ -1 ≤ a3.toInt ∧ 0 ≤ (gV σ 26 0 (a1.toInt.toNat)).toInt ∧ (2 : Int) ≤ (gV σ 27 0 (a1.toInt.toNat)).toInt)) → (AlJ σ (a1.toInt.toNat) y4.toInt 1 20) → (2 - y4.toInt).toNat < n → MW p l e { frames := 2, cells := 0, slots := 0, locals := 60 } s m args below meth c (MQ below (QP G (PI fun r τ => Inv τ ∧ Fr MS_X12_bells_2Z AS_X12_bells_2Z σ τ ∧ IV r (-2147483648) 2147483647 ∧ (((a1.toInt < 0 ∨ 7 < a1.toInt ∨ (2 : Int) < 1 ∨ 5 < (2 : Int) ∨ a3.toInt < -1) ∧ r.toInt = -1000001) ∨ (((0 ≤ a1.toInt ∧ a1.toInt ≤ 7) ∧ 1 ≤ (2 : Int) ∧ (2 : Int) ≤ 5 ∧ -1 ≤ a3.toInt) ∧ (gV σ 26 0 (a1.toInt.toNat)).toInt < 0 ∧ r.toInt = -1000011) ∨ (((0 ≤ a1.toInt ∧ a1.toInt ≤ 7) ∧ 1 ≤ (2 : Int) ∧ (2 : Int) ≤ 5 ∧ -1 ≤ a3.toInt) ∧ 0 ≤ (gV σ 26 0 (a1.toInt.toNat)).toInt ∧ (gV σ 27 0 (a1.toInt.toNat)).toInt < (2 : Int) ∧ r.toInt = -1000012) ∨ (((0 ≤ a1.toInt ∧ a1.toInt ≤ 7) ∧ 1 ≤ (2 : Int) ∧ (2 : Int) ≤ 5 ∧ -1 ≤ a3.toInt) ∧ 0 ≤ (gV σ 26 0 (a1.toInt.toNat)).toInt ∧ (2 : Int) ≤ (gV σ 27 0 (a1.toInt.toNat)).toInt ∧ ¬ AlJ σ (a1.toInt.toNat) (2 : Int) 1 20 ∧ r.toInt = -1000001) ∨ (((0 ≤ a1.toInt ∧ a1.toInt ≤ 7) ∧ 1 ≤ (2 : Int) ∧ (2 : Int) ≤ 5 ∧ -1 ≤ a3.toInt) ∧ 0 ≤ (gV σ 26 0 (a1.toInt.toNat)).toInt ∧ (2 : Int) ≤ (gV σ 27 0 (a1.toInt.toNat)).toInt ∧ AlJ σ (a1.toInt.toNat) (2 : Int) 1 20 ∧ RESB r a3 2 (bbest (nuJ σ (a1.toInt.toNat) 2) 2))))) args s 0 0 (aG G)) 14 G 0 0 61 [some (.ref (G.1 22 0)), some (.int a1), some (.int 2), some (.int a3), some (.int y4), none, none, none, none, none, none, none, none, none] [] τ := by
    intro n
    induction n with
    | zero => intro τ y4 iτ fτ b_a1 b_a3 b_y4 n200 nL hm; exact absurd hm (Nat.not_lt_zero _)
    | succ n ih61 =>
      intro τ y4 iτ fτ b_a1 b_a3 b_y4 n200 nL hm61
      have u201 : IV (gV τ 27 0 (a1.toInt.toNat)) 0 40 := iτ.1 27 0 (a1.toInt.toNat)
      refine m_iload C dX12_bells_61 rfl ?_
      refine m_iload_n C dX12_bells_63 rfl rfl ?_
      refine m_icmp_ge (tgt := 99) C dX12_bells_64 (by decide) (fun c202 => ?_) (fun c202 => ?_)
      · have f203 : 2 ≤ y4.toInt := by
          have q : _ := c202
          simp only [ti_nle, ti_nlt, ti_le, ti_lt, ti_eq, ti_ne, Classical.not_not, kt_2] at q
          omega
        have b204 : IV y4 2 2 := ⟨by have q1 := kc_2; have q2 := b_y4; omega, by have q1 := kc_2; have q2 := b_y4; omega⟩
        refine m_aload_n C dX12_bells_99 rfl rfl ?_
        refine m_iconst (v := 0) C dX12_bells_100 (by decide) ?_
        refine m_callV (n := 1) (ci := 11) (st := []) C (c_X12_fine l G τ (0) iτ ) (by decide) (by decide) rfl rfl rfl q4_201 q4_198 q4_200 q0_27 q1_7 (by decide +kernel) rfl (by decide) (by decide) rfl (Nat.le_of_ble_eq_true rfl) dX12_bells_101 ?_
        rintro _ τ205 ⟨x208, rfl, i206, f207, b209, h211⟩
        have g210 : Fr MS_X12_bells_2Z AS_X12_bells_2Z σ τ205 := Fr.call (fτ) f207 (by decide)
        have q212 : (gV τ205 26 0 (a1.toInt.toNat)).toInt = (gV τ 26 0 (a1.toInt.toNat)).toInt := congrArg Int32.toInt (show (gV τ205 26 0 (a1.toInt.toNat)) = (gV τ 26 0 (a1.toInt.toNat)) from (show gV τ205 26 0 (a1.toInt.toNat) = (gV τ 26 0 (a1.toInt.toNat)) from (f207.1 26 0 ((a1.toInt.toNat)) (by simp) (by decide)).trans rfl))
        have q213 : (gV τ205 27 0 (a1.toInt.toNat)).toInt = (gV τ 27 0 (a1.toInt.toNat)).toInt := congrArg Int32.toInt (show (gV τ205 27 0 (a1.toInt.toNat)) = (gV τ 27 0 (a1.toInt.toNat)) from (show gV τ205 27 0 (a1.toInt.toNat) = (gV τ 27 0 (a1.toInt.toNat)) from (f207.1 27 0 ((a1.toInt.toNat)) (by simp) (by decide)).trans rfl))
        have q214 := kt_0
        show MW p l e _ s m args below meth c _ 14 G 0 0 104 [some (.ref (G.1 22 0)), some (.int a1), some (.int 2), some (.int a3), some (.int y4), none, none, none, none, none, none, none, none, none] [.int x208] τ205
        refine m_pop C dX12_bells_104 rfl ?_
        refine m_iconst (v := 1) C dX12_bells_105 (by decide) ?_
        refine m_istore (L1 := [some (.ref (G.1 22 0)), some (.int a1), some (.int 2), some (.int a3), some (.int 1), none, none, none, none, none, none, none, none, none]) C dX12_bells_106 (by decide) rfl rfl ?_
        refine m_iconst (v := 0) C dX12_bells_108 (by decide) ?_
        refine m_istore (L1 := [some (.ref (G.1 22 0)), some (.int a1), some (.int 2), some (.int a3), some (.int 1), some (.int 0), none, none, none, none, none, none, none, none]) C dX12_bells_109 (by decide) rfl rfl ?_
        refine m_iload C dX12_bells_111 rfl ?_
        refine m_iload_n C dX12_bells_113 rfl rfl ?_
        refine m_icmp_ge (tgt := 129) C dX12_bells_114 (by decide) (fun c215 => ?_) (fun c215 => ?_)
        · first | exact absurd c215 (by decide) | exact absurd (by decide) c215
        · have f217 : 0 < 2 := by
            have q : _ := c215
            simp only [ti_nle, ti_nlt, ti_le, ti_lt, ti_eq, ti_ne, Classical.not_not, kt_0, kt_2] at q
            omega
          refine m_iload C dX12_bells_117 rfl ?_
          refine m_iload_n C dX12_bells_119 rfl rfl ?_
          refine m_imul C dX12_bells_120 ?_
          refine m_topi (fun x218 ex218 => ?_)
          have b219 : IV x218 2 2 := by rw [ex218]; decide
          have tx218 : x218.toInt = 2 := by rw [ex218]; decide
          obtain rfl : x218 = 2 := by rw [ex218]; decide
          refine m_istore (L1 := [some (.ref (G.1 22 0)), some (.int a1), some (.int 2), some (.int a3), some (.int 2), some (.int 0), none, none, none, none, none, none, none, none]) C dX12_bells_121 (by decide) rfl rfl ?_
          obtain ⟨x220, ex220⟩ : ∃ y : Int32, y = 0 + 1 := ⟨_, rfl⟩
          have b221 : IV x220 1 1 := by rw [ex220]; decide
          have tx220 : x220.toInt = 1 := by rw [ex220]; decide
          obtain rfl : x220 = 1 := by rw [ex220]; decide
          refine m_iinc (v := 1) (L1 := [some (.ref (G.1 22 0)), some (.int a1), some (.int 2), some (.int a3), some (.int 2), some (.int 1), none, none, none, none, none, none, none, none]) C dX12_bells_123 rfl (by decide) (by decide) rfl rfl ?_
          refine m_goto (tgt := 111) C dX12_bells_126 (by decide) ?_
          refine m_iload C dX12_bells_111 rfl ?_
          refine m_iload_n C dX12_bells_113 rfl rfl ?_
          refine m_icmp_ge (tgt := 129) C dX12_bells_114 (by decide) (fun c222 => ?_) (fun c222 => ?_)
          · first | exact absurd c222 (by decide) | exact absurd (by decide) c222
          · have f224 : 1 < 2 := by
              have q : _ := c222
              simp only [ti_nle, ti_nlt, ti_le, ti_lt, ti_eq, ti_ne, Classical.not_not, kt_1, kt_2] at q
              omega
            refine m_iload C dX12_bells_117 rfl ?_
            refine m_iload_n C dX12_bells_119 rfl rfl ?_
            refine m_imul C dX12_bells_120 ?_
            refine m_topi (fun x225 ex225 => ?_)
            have b226 : IV x225 4 4 := by rw [ex225]; decide
            have tx225 : x225.toInt = 4 := by rw [ex225]; decide
            obtain rfl : x225 = 4 := by rw [ex225]; decide
            refine m_istore (L1 := [some (.ref (G.1 22 0)), some (.int a1), some (.int 2), some (.int a3), some (.int 4), some (.int 1), none, none, none, none, none, none, none, none]) C dX12_bells_121 (by decide) rfl rfl ?_
            obtain ⟨x227, ex227⟩ : ∃ y : Int32, y = 1 + 1 := ⟨_, rfl⟩
            have b228 : IV x227 2 2 := by rw [ex227]; decide
            have tx227 : x227.toInt = 2 := by rw [ex227]; decide
            obtain rfl : x227 = 2 := by rw [ex227]; decide
            refine m_iinc (v := 2) (L1 := [some (.ref (G.1 22 0)), some (.int a1), some (.int 2), some (.int a3), some (.int 4), some (.int 2), none, none, none, none, none, none, none, none]) C dX12_bells_123 rfl (by decide) (by decide) rfl rfl ?_
            refine m_goto (tgt := 111) C dX12_bells_126 (by decide) ?_
            refine m_iload C dX12_bells_111 rfl ?_
            refine m_iload_n C dX12_bells_113 rfl rfl ?_
            refine m_icmp_ge (tgt := 129) C dX12_bells_114 (by decide) (fun c229 => ?_) (fun c229 => ?_)
            · have f230 : 2 ≤ 2 := by
                have q : _ := c229
                simp only [ti_nle, ti_nlt, ti_le, ti_lt, ti_eq, ti_ne, Classical.not_not, kt_2, kt_2] at q
                omega
              refine m_iconst (v := (-1)) C dX12_bells_129 (by decide) ?_
              refine m_istore (L1 := [some (.ref (G.1 22 0)), some (.int a1), some (.int 2), some (.int a3), some (.int 4), some (.int (-1)), none, none, none, none, none, none, none, none]) C dX12_bells_130 (by decide) rfl rfl ?_
              refine m_iconst (v := 0) C dX12_bells_132 (by decide) ?_
              refine m_istore (L1 := [some (.ref (G.1 22 0)), some (.int a1), some (.int 2), some (.int a3), some (.int 4), some (.int (-1)), some (.int 0), none, none, none, none, none, none, none]) C dX12_bells_133 (by decide) rfl rfl ?_
              refine m_iconst (v := 0) C dX12_bells_135 (by decide) ?_
              refine m_istore (L1 := [some (.ref (G.1 22 0)), some (.int a1), some (.int 2), some (.int a3), some (.int 4), some (.int (-1)), some (.int 0), some (.int 0), none, none, none, none, none, none]) C dX12_bells_136 (by decide) rfl rfl ?_
              exact J138 ((4 - (0 : Int32).toInt).toNat + 1) τ205 (-1) 0 0 i206 g210 b_a1 b_a3 (iv_wk kc_m1 (by decide)) (iv_wk kc_0 (by decide)) (iv_wk kc_0 (by decide)) (by omega) (nL.all (by omega)) (Or.inl ⟨by have q := kt_m1; omega, rfl⟩) (Nat.lt_succ_self _)
            · first | exact absurd c229 (by decide) | exact absurd (by decide) c229
      · have f232 : y4.toInt < 2 := by
          have q : _ := c202
          simp only [ti_nle, ti_nlt, ti_le, ti_lt, ti_eq, ti_ne, Classical.not_not, kt_2] at q
          omega
        have b233 : IV y4 0 1 := ⟨by have q1 := b_y4; have q2 := kc_2; omega, by have q1 := b_y4; have q2 := kc_2; omega⟩
        refine m_aload_n C dX12_bells_67 rfl rfl ?_
        refine g_22_2 C q4_118 dX12_bells_68 ?_
        refine m_bipush (v := 40) C dX12_bells_71 (by decide) ?_
        refine m_iload_n C dX12_bells_73 rfl rfl ?_
        refine m_imul C dX12_bells_74 ?_
        refine m_topi (fun x234 ex234 => ?_)
        have tx234 : x234.toInt = 40 * a1.toInt := by rw [ex234, ti_mulv kc_40 b_a1 (by decide), kt_40]
        have b235 : IV x234 0 280 := by rw [ex234]; exact iv_mul kc_40 b_a1 (by decide)
        refine m_iload C dX12_bells_75 rfl ?_
        refine m_iadd C dX12_bells_77 ?_
        refine m_topi (fun x236 ex236 => ?_)
        have tx236 : x236.toInt = x234.toInt + y4.toInt := by rw [ex236, ti_addv b235 b233 (by decide)]
        have b237 : IV x236 0 281 := by rw [ex236]; exact iv_add b235 b233 (by decide)
        refine al_25 C b237 (by decide) rfl dX12_bells_78 ?_
        refine m_topi (fun x238 ex238 => ?_)
        have q239 : (gV σ 25 0 (40 * (a1.toInt.toNat) + y4.toInt.toNat)).toInt = x238.toInt := by rw [show 40 * (a1.toInt.toNat) + y4.toInt.toNat = (x236.toInt.toNat) by omega, ← (fτ).1 25 0 (x236.toInt.toNat) (by simp) (by decide), show gV τ 25 0 (x236.toInt.toNat) = x238 from ex238.symm]
        refine m_i2l C dX12_bells_79 ?_
        refine m_lconst (v := 1) C dX12_bells_80 (by decide) ?_
        refine m_ldc2 (v := 20) C dX12_bells_81 q5_174 ?_
        refine m_callS (n := 3) (st := []) C (c_X12_in l G τ ((x238 : Int32).toInt64) (1) (20) iτ ) q4_190 q4_188 q4_189 q1_7 (by decide +kernel) rfl (by decide) (by decide) rfl (Nat.le_of_ble_eq_true rfl) dX12_bells_84 ?_
        rintro _ τ240 ⟨x243, rfl, i241, f242, b244, h246⟩
        have g245 : Fr MS_X12_bells_2Z AS_X12_bells_2Z σ τ240 := Fr.call (fτ) f242 (by decide)
        have q247 : (gV τ240 26 0 (a1.toInt.toNat)).toInt = (gV τ 26 0 (a1.toInt.toNat)).toInt := congrArg Int32.toInt (show (gV τ240 26 0 (a1.toInt.toNat)) = (gV τ 26 0 (a1.toInt.toNat)) from (show gV τ240 26 0 (a1.toInt.toNat) = (gV τ 26 0 (a1.toInt.toNat)) from (f242.1 26 0 ((a1.toInt.toNat)) (by simp) (by decide)).trans rfl))
        have q248 : (gV τ240 27 0 (a1.toInt.toNat)).toInt = (gV τ 27 0 (a1.toInt.toNat)).toInt := congrArg Int32.toInt (show (gV τ240 27 0 (a1.toInt.toNat)) = (gV τ 27 0 (a1.toInt.toNat)) from (show gV τ240 27 0 (a1.toInt.toNat) = (gV τ 27 0 (a1.toInt.toNat)) from (f242.1 27 0 ((a1.toInt.toNat)) (by simp) (by decide)).trans rfl))
        have f249 := tl_i x238
        have f250 := kl_1
        have f251 := kl_20
        rcases h246 with ⟨h246_0, h246_1, h246_2⟩ | ⟨h246_0, h246_1⟩
        · skip
          have b252 : IV x243 1 1 := ⟨by omega, by omega⟩
          show MW p l e _ s m args below meth c _ 14 G 0 0 87 [some (.ref (G.1 22 0)), some (.int a1), some (.int 2), some (.int a3), some (.int y4), none, none, none, none, none, none, none, none, none] [.int x243] τ240
          refine m_if_ne (tgt := 93) C dX12_bells_87 (by decide) (fun c253 => ?_) (fun c253 => ?_)
          · have f254 : x243.toInt ≠ 0 := by
              have q : _ := c253
              simp only [ti_nle, ti_nlt, ti_le, ti_lt, ti_eq, ti_ne, Classical.not_not, kt_0] at q
              omega
            have b255 : IV x238 1 20 := ⟨by have q1 := (iv_any x238); omega, by have q1 := (iv_any x238); omega⟩
            obtain ⟨x256, ex256⟩ : ∃ y : Int32, y = y4 + 1 := ⟨_, rfl⟩
            have tx256 : x256.toInt = y4.toInt + 1 := by rw [ex256, ti_addv b233 kc_1 (by decide), kt_1]
            have b257 : IV x256 1 2 := by rw [ex256]; exact iv_add b233 kc_1 (by decide)
            refine m_iinc (v := x256) (L1 := [some (.ref (G.1 22 0)), some (.int a1), some (.int 2), some (.int a3), some (.int x256), none, none, none, none, none, none, none, none, none]) C dX12_bells_93 rfl (by rw [ex256]; rfl) (by decide) rfl rfl ?_
            refine m_goto (tgt := 61) C dX12_bells_96 (by decide) ?_
            exact ih61 τ240 x256 i241 g245 b_a1 b_a3 (iv_wk b257 (by decide)) (by omega) (nL.more (k := y4.toInt.toNat) (by omega) (by omega) ⟨by omega, by omega⟩) (by have q := hm61; omega)
          · exfalso
            have q : _ := c253
            simp only [ti_nle, ti_nlt, ti_le, ti_lt, ti_eq, ti_ne, Classical.not_not, kt_0] at q
            have q1 := b252; have q2 := kc_0; omega
        · skip
          have b259 : IV x243 0 0 := ⟨by omega, by omega⟩
          show MW p l e _ s m args below meth c _ 14 G 0 0 87 [some (.ref (G.1 22 0)), some (.int a1), some (.int 2), some (.int a3), some (.int y4), none, none, none, none, none, none, none, none, none] [.int x243] τ240
          refine m_if_ne (tgt := 93) C dX12_bells_87 (by decide) (fun c260 => ?_) (fun c260 => ?_)
          · exfalso
            have q : _ := c260
            simp only [ti_nle, ti_nlt, ti_le, ti_lt, ti_eq, ti_ne, Classical.not_not, kt_0] at q
            have q1 := b259; have q2 := kc_0; omega
          · have f262 : x243.toInt = 0 := by
              have q : _ := c260
              simp only [ti_nle, ti_nlt, ti_le, ti_lt, ti_eq, ti_ne, Classical.not_not, kt_0] at q
              omega
            refine m_ldc (v := (-1000001)) C dX12_bells_90 q4_192 ?_
            exact m_iret C hr hlk (by decide) (by decide) dX12_bells_92 ⟨_, rfl, i241, g245, (iv_wk kc_m1000001 (by decide)), (Or.inr (Or.inr (Or.inr (Or.inl ⟨by have qk := kt_m1000001; omega, by have qk := kt_m1000001; omega, by have qk := kt_m1000001; omega, (fun g => by have q := g y4.toInt.toNat (by omega); omega), by have qk := kt_m1000001; omega⟩))))⟩
  have u263 : IV (gV σ 27 0 (a1.toInt.toNat)) 0 40 := hI.1 27 0 (a1.toInt.toNat)
  refine m_iload_n C dX12_bells_0 rfl rfl ?_
  refine m_callS (n := 1) (st := []) C (c_X12_isRow l G σ (a1) hI ) q4_186 q4_184 q4_185 q1_7 (by decide +kernel) rfl (by decide) (by decide) rfl (Nat.le_of_ble_eq_true rfl) dX12_bells_1 ?_
  rintro _ τ264 ⟨x267, rfl, i265, f266, b268, h270⟩
  have g269 : Fr MS_X12_bells_2Z AS_X12_bells_2Z σ τ264 := Fr.call (Fr.rf) f266 (by decide)
  have q271 : (gV τ264 26 0 (a1.toInt.toNat)).toInt = (gV σ 26 0 (a1.toInt.toNat)).toInt := congrArg Int32.toInt (show (gV τ264 26 0 (a1.toInt.toNat)) = (gV σ 26 0 (a1.toInt.toNat)) from (show gV τ264 26 0 (a1.toInt.toNat) = (gV σ 26 0 (a1.toInt.toNat)) from (f266.1 26 0 ((a1.toInt.toNat)) (by simp) (by decide)).trans rfl))
  have q272 : (gV τ264 27 0 (a1.toInt.toNat)).toInt = (gV σ 27 0 (a1.toInt.toNat)).toInt := congrArg Int32.toInt (show (gV τ264 27 0 (a1.toInt.toNat)) = (gV σ 27 0 (a1.toInt.toNat)) from (show gV τ264 27 0 (a1.toInt.toNat) = (gV σ 27 0 (a1.toInt.toNat)) from (f266.1 27 0 ((a1.toInt.toNat)) (by simp) (by decide)).trans rfl))
  rcases h270 with ⟨h270_0, h270_1, h270_2⟩ | ⟨h270_0, h270_1⟩
  · skip
    have b273 : IV x267 1 1 := ⟨by omega, by omega⟩
    show MW p l e _ s m args below meth c _ 14 G 0 0 4 [some (.ref (G.1 22 0)), some (.int a1), some (.int 2), some (.int a3), none, none, none, none, none, none, none, none, none, none] [.int x267] τ264
    refine m_if_eq (tgt := 24) C dX12_bells_4 (by decide) (fun c274 => ?_) (fun c274 => ?_)
    · exfalso
      have q : _ := c274
      simp only [ti_nle, ti_nlt, ti_le, ti_lt, ti_eq, ti_ne, Classical.not_not, kt_0] at q
      have q1 := b273; have q2 := kc_0; omega
    · have f276 : x267.toInt ≠ 0 := by
        have q : _ := c274
        simp only [ti_nle, ti_nlt, ti_le, ti_lt, ti_eq, ti_ne, Classical.not_not, kt_0] at q
        omega
      have b277 : IV a1 0 7 := ⟨by have q1 := (iv_any a1); omega, by have q1 := (iv_any a1); omega⟩
      refine m_iload_n C dX12_bells_7 rfl rfl ?_
      refine m_i2l C dX12_bells_8 ?_
      refine m_lconst (v := 1) C dX12_bells_9 (by decide) ?_
      refine m_ldc2 (v := 5) C dX12_bells_10 q5_173 ?_
      refine m_callS (n := 3) (st := []) C (c_X12_in l G τ264 ((2 : Int32).toInt64) (1) (5) i265 ) q4_190 q4_188 q4_189 q1_7 (by decide +kernel) rfl (by decide) (by decide) rfl (Nat.le_of_ble_eq_true rfl) dX12_bells_13 ?_
      rintro _ τ278 ⟨x281, rfl, i279, f280, b282, h284⟩
      have g283 : Fr MS_X12_bells_2Z AS_X12_bells_2Z σ τ278 := Fr.call (g269) f280 (by decide)
      have q285 : (gV τ278 26 0 (a1.toInt.toNat)).toInt = (gV σ 26 0 (a1.toInt.toNat)).toInt := congrArg Int32.toInt (show (gV τ278 26 0 (a1.toInt.toNat)) = (gV σ 26 0 (a1.toInt.toNat)) from (show gV τ278 26 0 (a1.toInt.toNat) = (gV σ 26 0 (a1.toInt.toNat)) from (f280.1 26 0 ((a1.toInt.toNat)) (by simp) (by decide)).trans (show gV τ264 26 0 (a1.toInt.toNat) = (gV σ 26 0 (a1.toInt.toNat)) from (f266.1 26 0 ((a1.toInt.toNat)) (by simp) (by decide)).trans rfl)))
      have q286 : (gV τ278 27 0 (a1.toInt.toNat)).toInt = (gV σ 27 0 (a1.toInt.toNat)).toInt := congrArg Int32.toInt (show (gV τ278 27 0 (a1.toInt.toNat)) = (gV σ 27 0 (a1.toInt.toNat)) from (show gV τ278 27 0 (a1.toInt.toNat) = (gV σ 27 0 (a1.toInt.toNat)) from (f280.1 27 0 ((a1.toInt.toNat)) (by simp) (by decide)).trans (show gV τ264 27 0 (a1.toInt.toNat) = (gV σ 27 0 (a1.toInt.toNat)) from (f266.1 27 0 ((a1.toInt.toNat)) (by simp) (by decide)).trans rfl)))
      have f287 := tl_i 2
      have kf287 := kt_2
      have f288 := kl_1
      have f289 := kl_5
      rcases h284 with ⟨h284_0, h284_1, h284_2⟩ | ⟨h284_0, h284_1⟩
      · skip
        have b290 : IV x281 1 1 := ⟨by omega, by omega⟩
        show MW p l e _ s m args below meth c _ 14 G 0 0 16 [some (.ref (G.1 22 0)), some (.int a1), some (.int 2), some (.int a3), none, none, none, none, none, none, none, none, none, none] [.int x281] τ278
        refine m_if_eq (tgt := 24) C dX12_bells_16 (by decide) (fun c291 => ?_) (fun c291 => ?_)
        · exfalso
          have q : _ := c291
          simp only [ti_nle, ti_nlt, ti_le, ti_lt, ti_eq, ti_ne, Classical.not_not, kt_0] at q
          have q1 := b290; have q2 := kc_0; omega
        · have f293 : x281.toInt ≠ 0 := by
            have q : _ := c291
            simp only [ti_nle, ti_nlt, ti_le, ti_lt, ti_eq, ti_ne, Classical.not_not, kt_0] at q
            omega
          refine m_iload_n C dX12_bells_19 rfl rfl ?_
          refine m_iconst (v := (-1)) C dX12_bells_20 (by decide) ?_
          refine m_icmp_ge (tgt := 27) C dX12_bells_21 (by decide) (fun c294 => ?_) (fun c294 => ?_)
          · have f295 : -1 ≤ a3.toInt := by
              have q : _ := c294
              simp only [ti_nle, ti_nlt, ti_le, ti_lt, ti_eq, ti_ne, Classical.not_not, kt_m1] at q
              omega
            have b296 : IV a3 (-1) 2147483647 := ⟨by have q1 := kc_m1; have q2 := (iv_any a3); omega, by have q1 := kc_m1; have q2 := (iv_any a3); omega⟩
            refine m_aload_n C dX12_bells_27 rfl rfl ?_
            refine g_22_3 C q4_119 dX12_bells_28 ?_
            refine m_iload_n C dX12_bells_31 rfl rfl ?_
            refine al_26 C b277 (by decide) rfl dX12_bells_32 ?_
            refine m_eqs (w := (gV σ 26 0 (a1.toInt.toNat))) (show gV τ278 26 0 (a1.toInt.toNat) = (gV σ 26 0 (a1.toInt.toNat)) from (f280.1 26 0 ((a1.toInt.toNat)) (by simp) (by decide)).trans (show gV τ264 26 0 (a1.toInt.toNat) = (gV σ 26 0 (a1.toInt.toNat)) from (f266.1 26 0 ((a1.toInt.toNat)) (by simp) (by decide)).trans rfl)) ?_
            refine m_if_ge (tgt := 42) C dX12_bells_33 (by decide) (fun c297 => ?_) (fun c297 => ?_)
            · have f298 : 0 ≤ (gV σ 26 0 (a1.toInt.toNat)).toInt := by
                have q : _ := c297
                simp only [ti_nle, ti_nlt, ti_le, ti_lt, ti_eq, ti_ne, Classical.not_not, kt_0] at q
                omega
              have b299 : IV (gV σ 26 0 (a1.toInt.toNat)) 0 2147483647 := ⟨by have q1 := kc_0; have q2 := (iv_any (gV σ 26 0 (a1.toInt.toNat))); omega, by have q1 := kc_0; have q2 := (iv_any (gV σ 26 0 (a1.toInt.toNat))); omega⟩
              refine m_aload_n C dX12_bells_42 rfl rfl ?_
              refine g_22_4 C q4_120 dX12_bells_43 ?_
              refine m_iload_n C dX12_bells_46 rfl rfl ?_
              refine al_27 C b277 (by decide) rfl dX12_bells_47 ?_
              refine m_eqs (w := (gV σ 27 0 (a1.toInt.toNat))) (show gV τ278 27 0 (a1.toInt.toNat) = (gV σ 27 0 (a1.toInt.toNat)) from (f280.1 27 0 ((a1.toInt.toNat)) (by simp) (by decide)).trans (show gV τ264 27 0 (a1.toInt.toNat) = (gV σ 27 0 (a1.toInt.toNat)) from (f266.1 27 0 ((a1.toInt.toNat)) (by simp) (by decide)).trans rfl)) ?_
              refine m_iload_n C dX12_bells_48 rfl rfl ?_
              refine m_icmp_ge (tgt := 58) C dX12_bells_49 (by decide) (fun c300 => ?_) (fun c300 => ?_)
              · have f301 : 2 ≤ (gV σ 27 0 (a1.toInt.toNat)).toInt := by
                  have q : _ := c300
                  simp only [ti_nle, ti_nlt, ti_le, ti_lt, ti_eq, ti_ne, Classical.not_not, kt_2] at q
                  omega
                have b302 : IV (gV σ 27 0 (a1.toInt.toNat)) 2 40 := ⟨by have q1 := kc_2; have q2 := u263; omega, by have q1 := kc_2; have q2 := u263; omega⟩
                refine m_iconst (v := 0) C dX12_bells_58 (by decide) ?_
                refine m_istore (L1 := [some (.ref (G.1 22 0)), some (.int a1), some (.int 2), some (.int a3), some (.int 0), none, none, none, none, none, none, none, none, none]) C dX12_bells_59 (by decide) rfl rfl ?_
                exact J61 ((2 - (0 : Int32).toInt).toNat + 1) τ278 0 i279 g283 b277 b296 (iv_wk kc_0 (by decide)) (by omega) (AlJ.zero (by have q := kt_0; omega)) (Nat.lt_succ_self _)
              · have f303 : (gV σ 27 0 (a1.toInt.toNat)).toInt < 2 := by
                  have q : _ := c300
                  simp only [ti_nle, ti_nlt, ti_le, ti_lt, ti_eq, ti_ne, Classical.not_not, kt_2] at q
                  omega
                have b304 : IV (gV σ 27 0 (a1.toInt.toNat)) 0 1 := ⟨by have q1 := u263; have q2 := kc_2; omega, by have q1 := u263; have q2 := kc_2; omega⟩
                refine m_aload_n C dX12_bells_52 rfl rfl ?_
                refine m_iconst (v := 2) C dX12_bells_53 (by decide) ?_
                refine m_callV (n := 1) (ci := 11) (st := []) C (c_X12_met l G τ278 (2) i279 (iv_wk kc_2 (by decide))) (by decide) (by decide) rfl rfl rfl q4_196 q4_193 q4_195 q0_26 q1_7 (by decide +kernel) rfl (by decide) (by decide) rfl (Nat.le_of_ble_eq_true rfl) dX12_bells_54 ?_
                rintro _ τ305 ⟨x308, rfl, i306, f307, b309, h311⟩
                have g310 : Fr MS_X12_bells_2Z AS_X12_bells_2Z σ τ305 := Fr.call (g283) f307 (by decide)
                have q312 : (gV τ305 26 0 (a1.toInt.toNat)).toInt = (gV σ 26 0 (a1.toInt.toNat)).toInt := congrArg Int32.toInt (show (gV τ305 26 0 (a1.toInt.toNat)) = (gV σ 26 0 (a1.toInt.toNat)) from (show gV τ305 26 0 (a1.toInt.toNat) = (gV σ 26 0 (a1.toInt.toNat)) from (f307.1 26 0 ((a1.toInt.toNat)) (by simp) (by decide)).trans (show gV τ278 26 0 (a1.toInt.toNat) = (gV σ 26 0 (a1.toInt.toNat)) from (f280.1 26 0 ((a1.toInt.toNat)) (by simp) (by decide)).trans (show gV τ264 26 0 (a1.toInt.toNat) = (gV σ 26 0 (a1.toInt.toNat)) from (f266.1 26 0 ((a1.toInt.toNat)) (by simp) (by decide)).trans rfl))))
                have q313 : (gV τ305 27 0 (a1.toInt.toNat)).toInt = (gV σ 27 0 (a1.toInt.toNat)).toInt := congrArg Int32.toInt (show (gV τ305 27 0 (a1.toInt.toNat)) = (gV σ 27 0 (a1.toInt.toNat)) from (show gV τ305 27 0 (a1.toInt.toNat) = (gV σ 27 0 (a1.toInt.toNat)) from (f307.1 27 0 ((a1.toInt.toNat)) (by simp) (by decide)).trans (show gV τ278 27 0 (a1.toInt.toNat) = (gV σ 27 0 (a1.toInt.toNat)) from (f280.1 27 0 ((a1.toInt.toNat)) (by simp) (by decide)).trans (show gV τ264 27 0 (a1.toInt.toNat) = (gV σ 27 0 (a1.toInt.toNat)) from (f266.1 27 0 ((a1.toInt.toNat)) (by simp) (by decide)).trans rfl))))
                have q314 := kt_2
                show MW p l e _ s m args below meth c _ 14 G 0 0 57 [some (.ref (G.1 22 0)), some (.int a1), some (.int 2), some (.int a3), none, none, none, none, none, none, none, none, none, none] [.int x308] τ305
                exact m_iret C hr hlk (by decide) (by decide) dX12_bells_57 ⟨_, rfl, i306, g310, (iv_wk b309 (by decide)), (Or.inr (Or.inr (Or.inl ⟨by omega, by omega, by omega, by omega⟩)))⟩
            · have f315 : (gV σ 26 0 (a1.toInt.toNat)).toInt < 0 := by
                have q : _ := c297
                simp only [ti_nle, ti_nlt, ti_le, ti_lt, ti_eq, ti_ne, Classical.not_not, kt_0] at q
                omega
              have b316 : IV (gV σ 26 0 (a1.toInt.toNat)) (-2147483648) (-1) := ⟨by have q1 := (iv_any (gV σ 26 0 (a1.toInt.toNat))); have q2 := kc_0; omega, by have q1 := (iv_any (gV σ 26 0 (a1.toInt.toNat))); have q2 := kc_0; omega⟩
              refine m_aload_n C dX12_bells_36 rfl rfl ?_
              refine m_iconst (v := 1) C dX12_bells_37 (by decide) ?_
              refine m_callV (n := 1) (ci := 11) (st := []) C (c_X12_met l G τ278 (1) i279 (iv_wk kc_1 (by decide))) (by decide) (by decide) rfl rfl rfl q4_196 q4_193 q4_195 q0_26 q1_7 (by decide +kernel) rfl (by decide) (by decide) rfl (Nat.le_of_ble_eq_true rfl) dX12_bells_38 ?_
              rintro _ τ317 ⟨x320, rfl, i318, f319, b321, h323⟩
              have g322 : Fr MS_X12_bells_2Z AS_X12_bells_2Z σ τ317 := Fr.call (g283) f319 (by decide)
              have q324 : (gV τ317 26 0 (a1.toInt.toNat)).toInt = (gV σ 26 0 (a1.toInt.toNat)).toInt := congrArg Int32.toInt (show (gV τ317 26 0 (a1.toInt.toNat)) = (gV σ 26 0 (a1.toInt.toNat)) from (show gV τ317 26 0 (a1.toInt.toNat) = (gV σ 26 0 (a1.toInt.toNat)) from (f319.1 26 0 ((a1.toInt.toNat)) (by simp) (by decide)).trans (show gV τ278 26 0 (a1.toInt.toNat) = (gV σ 26 0 (a1.toInt.toNat)) from (f280.1 26 0 ((a1.toInt.toNat)) (by simp) (by decide)).trans (show gV τ264 26 0 (a1.toInt.toNat) = (gV σ 26 0 (a1.toInt.toNat)) from (f266.1 26 0 ((a1.toInt.toNat)) (by simp) (by decide)).trans rfl))))
              have q325 : (gV τ317 27 0 (a1.toInt.toNat)).toInt = (gV σ 27 0 (a1.toInt.toNat)).toInt := congrArg Int32.toInt (show (gV τ317 27 0 (a1.toInt.toNat)) = (gV σ 27 0 (a1.toInt.toNat)) from (show gV τ317 27 0 (a1.toInt.toNat) = (gV σ 27 0 (a1.toInt.toNat)) from (f319.1 27 0 ((a1.toInt.toNat)) (by simp) (by decide)).trans (show gV τ278 27 0 (a1.toInt.toNat) = (gV σ 27 0 (a1.toInt.toNat)) from (f280.1 27 0 ((a1.toInt.toNat)) (by simp) (by decide)).trans (show gV τ264 27 0 (a1.toInt.toNat) = (gV σ 27 0 (a1.toInt.toNat)) from (f266.1 27 0 ((a1.toInt.toNat)) (by simp) (by decide)).trans rfl))))
              have q326 := kt_1
              show MW p l e _ s m args below meth c _ 14 G 0 0 41 [some (.ref (G.1 22 0)), some (.int a1), some (.int 2), some (.int a3), none, none, none, none, none, none, none, none, none, none] [.int x320] τ317
              exact m_iret C hr hlk (by decide) (by decide) dX12_bells_41 ⟨_, rfl, i318, g322, (iv_wk b321 (by decide)), (Or.inr (Or.inl ⟨by omega, by omega, by omega⟩))⟩
          · have f327 : a3.toInt < -1 := by
              have q : _ := c294
              simp only [ti_nle, ti_nlt, ti_le, ti_lt, ti_eq, ti_ne, Classical.not_not, kt_m1] at q
              omega
            have b328 : IV a3 (-2147483648) (-2) := ⟨by have q1 := (iv_any a3); have q2 := kc_m1; omega, by have q1 := (iv_any a3); have q2 := kc_m1; omega⟩
            refine m_ldc (v := (-1000001)) C dX12_bells_24 q4_192 ?_
            exact m_iret C hr hlk (by decide) (by decide) dX12_bells_26 ⟨_, rfl, i279, g283, (iv_wk kc_m1000001 (by decide)), (Or.inl ⟨by have qk := kt_m1000001; omega, by have qk := kt_m1000001; omega⟩)⟩
      · skip
        have b329 : IV x281 0 0 := ⟨by omega, by omega⟩
        show MW p l e _ s m args below meth c _ 14 G 0 0 16 [some (.ref (G.1 22 0)), some (.int a1), some (.int 2), some (.int a3), none, none, none, none, none, none, none, none, none, none] [.int x281] τ278
        refine m_if_eq (tgt := 24) C dX12_bells_16 (by decide) (fun c330 => ?_) (fun c330 => ?_)
        · have f331 : x281.toInt = 0 := by
            have q : _ := c330
            simp only [ti_nle, ti_nlt, ti_le, ti_lt, ti_eq, ti_ne, Classical.not_not, kt_0] at q
            omega
          refine m_ldc (v := (-1000001)) C dX12_bells_24 q4_192 ?_
          exact m_iret C hr hlk (by decide) (by decide) dX12_bells_26 ⟨_, rfl, i279, g283, (iv_wk kc_m1000001 (by decide)), (Or.inl ⟨by have qk := kt_m1000001; omega, by have qk := kt_m1000001; omega⟩)⟩
        · exfalso
          have q : _ := c330
          simp only [ti_nle, ti_nlt, ti_le, ti_lt, ti_eq, ti_ne, Classical.not_not, kt_0] at q
          have q1 := b329; have q2 := kc_0; omega
  · skip
    have b333 : IV x267 0 0 := ⟨by omega, by omega⟩
    show MW p l e _ s m args below meth c _ 14 G 0 0 4 [some (.ref (G.1 22 0)), some (.int a1), some (.int 2), some (.int a3), none, none, none, none, none, none, none, none, none, none] [.int x267] τ264
    refine m_if_eq (tgt := 24) C dX12_bells_4 (by decide) (fun c334 => ?_) (fun c334 => ?_)
    · have f335 : x267.toInt = 0 := by
        have q : _ := c334
        simp only [ti_nle, ti_nlt, ti_le, ti_lt, ti_eq, ti_ne, Classical.not_not, kt_0] at q
        omega
      refine m_ldc (v := (-1000001)) C dX12_bells_24 q4_192 ?_
      exact m_iret C hr hlk (by decide) (by decide) dX12_bells_26 ⟨_, rfl, i265, g269, (iv_wk kc_m1000001 (by decide)), (Or.inl ⟨by have qk := kt_m1000001; omega, by have qk := kt_m1000001; omega⟩)⟩
    · exfalso
      have q : _ := c334
      simp only [ti_nle, ti_nlt, ti_le, ti_lt, ti_eq, ti_ne, Classical.not_not, kt_0] at q
      have q1 := b333; have q2 := kc_0; omega

abbrev MS_X12_bells_3Z : List (Nat × Nat) := [(22, 8)]
abbrev AS_X12_bells_3Z : List Nat := []
set_option maxHeartbeats 4000000 in
set_option maxRecDepth 100000 in
theorem c_X12_bells_3Z (l : Launch) (G : Gt) (σ : Sg) (a1 : Int32) (a3 : Int32) (hI : Inv σ) : Mc l G yX12_bells cX12_bells 14 (some .int) 2 60 0 0 [.ref (G.1 22 0), .int a1, .int 3, .int a3] σ (PI fun r τ => Inv τ ∧ Fr MS_X12_bells_3Z AS_X12_bells_3Z σ τ ∧ IV r (-2147483648) 2147483647 ∧ (((a1.toInt < 0 ∨ 7 < a1.toInt ∨ (3 : Int) < 1 ∨ 5 < (3 : Int) ∨ a3.toInt < -1) ∧ r.toInt = -1000001) ∨ (((0 ≤ a1.toInt ∧ a1.toInt ≤ 7) ∧ 1 ≤ (3 : Int) ∧ (3 : Int) ≤ 5 ∧ -1 ≤ a3.toInt) ∧ (gV σ 26 0 (a1.toInt.toNat)).toInt < 0 ∧ r.toInt = -1000011) ∨ (((0 ≤ a1.toInt ∧ a1.toInt ≤ 7) ∧ 1 ≤ (3 : Int) ∧ (3 : Int) ≤ 5 ∧ -1 ≤ a3.toInt) ∧ 0 ≤ (gV σ 26 0 (a1.toInt.toNat)).toInt ∧ (gV σ 27 0 (a1.toInt.toNat)).toInt < (3 : Int) ∧ r.toInt = -1000012) ∨ (((0 ≤ a1.toInt ∧ a1.toInt ≤ 7) ∧ 1 ≤ (3 : Int) ∧ (3 : Int) ≤ 5 ∧ -1 ≤ a3.toInt) ∧ 0 ≤ (gV σ 26 0 (a1.toInt.toNat)).toInt ∧ (3 : Int) ≤ (gV σ 27 0 (a1.toInt.toNat)).toInt ∧ ¬ AlJ σ (a1.toInt.toNat) (3 : Int) 1 20 ∧ r.toInt = -1000001) ∨ (((0 ≤ a1.toInt ∧ a1.toInt ≤ 7) ∧ 1 ≤ (3 : Int) ∧ (3 : Int) ≤ 5 ∧ -1 ≤ a3.toInt) ∧ 0 ≤ (gV σ 26 0 (a1.toInt.toNat)).toInt ∧ (3 : Int) ≤ (gV σ 27 0 (a1.toInt.toNat)).toInt ∧ AlJ σ (a1.toInt.toNat) (3 : Int) 1 20 ∧ RESB r a3 3 (bbest (nuJ σ (a1.toInt.toNat) 3) 3)))) := by
  refine Mc.of (L0 := [some (.ref (G.1 22 0)), some (.int a1), some (.int 3), some (.int a3), none, none, none, none, none, none, none, none, none, none]) (by decide) (Nat.le_of_ble_eq_true rfl) rfl ?_
  intro p e s m args below meth c C hr hlk
  have C : Cx p s m args c cX12_bells 14 "LeanTowerModel" := C
  have k0 : (0 : Int32).toInt = 0 := by decide
  have k1 : (1 : Int32).toInt = 1 := by decide
  have J138 : ∀ (n : Nat) (τ : Sg) (y5 : Int32) (y6 : Int32) (y7 : Int32), Inv τ → Fr MS_X12_bells_3Z AS_X12_bells_3Z σ τ → IV a1 0 7 → IV a3 (-1) 2147483647 → IV y5 (-1) 40 → IV y6 (-2147483648) 2147483647 → IV y7 0 27 → (((0 ≤ a1.toInt ∧ a1.toInt ≤ 7) ∧ 1 ≤ (3 : Int) ∧ (3 : Int) ≤ 5 ∧ -1 ≤ a3.toInt ∧ 0 ≤ (gV σ 26 0 (a1.toInt.toNat)).toInt ∧ (3 : Int) ≤ (gV σ 27 0 (a1.toInt.toNat)).toInt)) → (AlJ σ (a1.toInt.toNat) (3 : Int) 1 20) → (BRL (nuJ σ (a1.toInt.toNat) 3) 3 y5 y6 (bacc (nuJ σ (a1.toInt.toNat) 3) 3 y7.toInt.toNat)) → (27 - y7.toInt).toNat < n → MW p l e { frames := 2, cells := 0, slots := 0, locals := 60 } s m args below meth c (MQ below (QP G (PI fun r τ => Inv τ ∧ Fr MS_X12_bells_3Z AS_X12_bells_3Z σ τ ∧ IV r (-2147483648) 2147483647 ∧ (((a1.toInt < 0 ∨ 7 < a1.toInt ∨ (3 : Int) < 1 ∨ 5 < (3 : Int) ∨ a3.toInt < -1) ∧ r.toInt = -1000001) ∨ (((0 ≤ a1.toInt ∧ a1.toInt ≤ 7) ∧ 1 ≤ (3 : Int) ∧ (3 : Int) ≤ 5 ∧ -1 ≤ a3.toInt) ∧ (gV σ 26 0 (a1.toInt.toNat)).toInt < 0 ∧ r.toInt = -1000011) ∨ (((0 ≤ a1.toInt ∧ a1.toInt ≤ 7) ∧ 1 ≤ (3 : Int) ∧ (3 : Int) ≤ 5 ∧ -1 ≤ a3.toInt) ∧ 0 ≤ (gV σ 26 0 (a1.toInt.toNat)).toInt ∧ (gV σ 27 0 (a1.toInt.toNat)).toInt < (3 : Int) ∧ r.toInt = -1000012) ∨ (((0 ≤ a1.toInt ∧ a1.toInt ≤ 7) ∧ 1 ≤ (3 : Int) ∧ (3 : Int) ≤ 5 ∧ -1 ≤ a3.toInt) ∧ 0 ≤ (gV σ 26 0 (a1.toInt.toNat)).toInt ∧ (3 : Int) ≤ (gV σ 27 0 (a1.toInt.toNat)).toInt ∧ ¬ AlJ σ (a1.toInt.toNat) (3 : Int) 1 20 ∧ r.toInt = -1000001) ∨ (((0 ≤ a1.toInt ∧ a1.toInt ≤ 7) ∧ 1 ≤ (3 : Int) ∧ (3 : Int) ≤ 5 ∧ -1 ≤ a3.toInt) ∧ 0 ≤ (gV σ 26 0 (a1.toInt.toNat)).toInt ∧ (3 : Int) ≤ (gV σ 27 0 (a1.toInt.toNat)).toInt ∧ AlJ σ (a1.toInt.toNat) (3 : Int) 1 20 ∧ RESB r a3 3 (bbest (nuJ σ (a1.toInt.toNat) 3) 3))))) args s 0 0 (aG G)) 14 G 0 0 138 [some (.ref (G.1 22 0)), some (.int a1), some (.int 3), some (.int a3), some (.int 27), some (.int y5), some (.int y6), some (.int y7), none, none, none, none, none, none] [] τ := by
    intro n
    induction n with
    | zero => intro τ y5 y6 y7 iτ fτ b_a1 b_a3 b_y5 b_y6 b_y7 n1 nL nB hm; exact absurd hm (Nat.not_lt_zero _)
    | succ n ih138 =>
      intro τ y5 y6 y7 iτ fτ b_a1 b_a3 b_y5 b_y6 b_y7 n1 nL nB hm138
      have u2 : IV (gV τ 27 0 (a1.toInt.toNat)) 0 40 := iτ.1 27 0 (a1.toInt.toNat)
      have hν := nuJ_b (n := 3) nL (by omega)
      refine m_iload C dX12_bells_138 rfl ?_
      refine m_iload C dX12_bells_140 rfl ?_
      refine m_icmp_ge (tgt := 285) C dX12_bells_142 (by decide) (fun c3 => ?_) (fun c3 => ?_)
      · have f4 : 27 ≤ y7.toInt := by
          have q : _ := c3
          simp only [ti_nle, ti_nlt, ti_le, ti_lt, ti_eq, ti_ne, Classical.not_not, kt_27] at q
          omega
        have b5 : IV y7 27 27 := ⟨by have q1 := kc_27; have q2 := b_y7; omega, by have q1 := kc_27; have q2 := b_y7; omega⟩
        obtain ⟨q6a, q6b, q6c⟩ := nB.fin (by rw [show y7.toInt.toNat = 27 by omega]) hν (by decide) (by decide)
        have b7 : IV y5 0 40 := ⟨by omega, by have q := b_y5; omega⟩
        refine m_iload_n C dX12_bells_285 rfl rfl ?_
        refine m_if_ge (tgt := 292) C dX12_bells_286 (by decide) (fun c8 => ?_) (fun c8 => ?_)
        · have f9 : 0 ≤ a3.toInt := by
            have q : _ := c8
            simp only [ti_nle, ti_nlt, ti_le, ti_lt, ti_eq, ti_ne, Classical.not_not, kt_0] at q
            omega
          have b10 : IV a3 0 2147483647 := ⟨by have q1 := kc_0; have q2 := b_a3; omega, by have q1 := kc_0; have q2 := b_a3; omega⟩
          refine m_iload C dX12_bells_292 rfl ?_
          refine m_istore (L1 := [some (.ref (G.1 22 0)), some (.int a1), some (.int 3), some (.int a3), some (.int 27), some (.int y5), some (.int y6), some (.int 27), none, none, none, none, none, none]) C dX12_bells_294 (by decide) rfl rfl ?_
          refine m_iconst (v := 0) C dX12_bells_296 (by decide) ?_
          refine m_istore (L1 := [some (.ref (G.1 22 0)), some (.int a1), some (.int 3), some (.int a3), some (.int 27), some (.int y5), some (.int y6), some (.int 27), some (.int 0), none, none, none, none, none]) C dX12_bells_297 (by decide) rfl rfl ?_
          refine m_iload C dX12_bells_299 rfl ?_
          refine m_iload_n C dX12_bells_301 rfl rfl ?_
          refine m_icmp_gt (tgt := 323) C dX12_bells_302 (by decide) (fun c11 => ?_) (fun c11 => ?_)
          · exfalso
            have q : _ := c11
            simp only [ti_nle, ti_nlt, ti_le, ti_lt, ti_eq, ti_ne, Classical.not_not, kt_0] at q
            have q1 := kc_0; have q2 := b10; omega
          · have f13 : 0 ≤ a3.toInt := by
              have q : _ := c11
              simp only [ti_nle, ti_nlt, ti_le, ti_lt, ti_eq, ti_ne, Classical.not_not, kt_0] at q
              omega
            refine m_iload C dX12_bells_305 rfl ?_
            refine m_iload_n C dX12_bells_307 rfl rfl ?_
            refine m_icmp_ge (tgt := 323) C dX12_bells_308 (by decide) (fun c14 => ?_) (fun c14 => ?_)
            · first | exact absurd c14 (by decide) | exact absurd (by decide) c14
            · have f16 : 0 < 3 := by
                have q : _ := c14
                simp only [ti_nle, ti_nlt, ti_le, ti_lt, ti_eq, ti_ne, Classical.not_not, kt_0, kt_3] at q
                omega
              refine m_iload C dX12_bells_311 rfl ?_
              refine m_iload_n C dX12_bells_313 rfl rfl ?_
              refine m_idiv C dX12_bells_314 (iv_nz kc_3 (by decide)) ?_
              refine m_topi (fun x17 ex17 => ?_)
              have b18 : IV x17 9 9 := by rw [ex17]; decide
              have tx17 : x17.toInt = 9 := by rw [ex17]; decide
              obtain rfl : x17 = 9 := by rw [ex17]; decide
              refine m_istore (L1 := [some (.ref (G.1 22 0)), some (.int a1), some (.int 3), some (.int a3), some (.int 27), some (.int y5), some (.int y6), some (.int 9), some (.int 0), none, none, none, none, none]) C dX12_bells_315 (by decide) rfl rfl ?_
              obtain ⟨x19, ex19⟩ : ∃ y : Int32, y = 0 + 1 := ⟨_, rfl⟩
              have b20 : IV x19 1 1 := by rw [ex19]; decide
              have tx19 : x19.toInt = 1 := by rw [ex19]; decide
              obtain rfl : x19 = 1 := by rw [ex19]; decide
              refine m_iinc (v := 1) (L1 := [some (.ref (G.1 22 0)), some (.int a1), some (.int 3), some (.int a3), some (.int 27), some (.int y5), some (.int y6), some (.int 9), some (.int 1), none, none, none, none, none]) C dX12_bells_317 rfl (by decide) (by decide) rfl rfl ?_
              refine m_goto (tgt := 299) C dX12_bells_320 (by decide) ?_
              refine m_iload C dX12_bells_299 rfl ?_
              refine m_iload_n C dX12_bells_301 rfl rfl ?_
              refine m_icmp_gt (tgt := 323) C dX12_bells_302 (by decide) (fun c21 => ?_) (fun c21 => ?_)
              · have f22 : a3.toInt < 1 := by
                  have q : _ := c21
                  simp only [ti_nle, ti_nlt, ti_le, ti_lt, ti_eq, ti_ne, Classical.not_not, kt_1] at q
                  omega
                have b23 : IV a3 0 0 := ⟨by have q1 := b10; have q2 := kc_1; omega, by have q1 := b10; have q2 := kc_1; omega⟩
                refine m_iload_n C dX12_bells_323 rfl rfl ?_
                refine m_iload_n C dX12_bells_324 rfl rfl ?_
                refine m_icmp_ge (tgt := 338) C dX12_bells_325 (by decide) (fun c24 => ?_) (fun c24 => ?_)
                · exfalso
                  have q : _ := c24
                  simp only [ti_nle, ti_nlt, ti_le, ti_lt, ti_eq, ti_ne, Classical.not_not, kt_3] at q
                  have q1 := b23; have q2 := kc_3; omega
                · have f26 : a3.toInt < 3 := by
                    have q : _ := c24
                    simp only [ti_nle, ti_nlt, ti_le, ti_lt, ti_eq, ti_ne, Classical.not_not, kt_3] at q
                    omega
                  refine m_iload C dX12_bells_328 rfl ?_
                  refine m_iload C dX12_bells_330 rfl ?_
                  refine m_idiv C dX12_bells_332 (iv_nz kc_9 (by decide)) ?_
                  refine m_topi (fun x27 ex27 => ?_)
                  have b28 : IV x27 0 4 := by rw [ex27]; exact iv_div b7 kc_9 (by decide)
                  have tx27 : x27.toInt = y5.toInt / 9 := by rw [ex27]; exact ti_divc b7 kc_9 (by decide)
                  refine m_iload_n C dX12_bells_333 rfl rfl ?_
                  refine m_irem C dX12_bells_334 (iv_nz kc_3 (by decide)) ?_
                  refine m_topi (fun x29 ex29 => ?_)
                  have b30 : IV x29 0 2 := by rw [ex29]; exact iv_rem b28 kc_3 (by decide)
                  have tx29 : x29.toInt = x27.toInt % 3 := by rw [ex29]; exact ti_rem b28 kc_3 (by decide)
                  refine m_goto (tgt := 340) C dX12_bells_335 (by decide) ?_
                  exact m_iret C hr hlk (by decide) (by decide) dX12_bells_340 ⟨_, rfl, iτ, fτ, (iv_wk b30 (by decide)), (Or.inr (Or.inr (Or.inr (Or.inr (⟨by omega, by omega, by omega, nL, ⟨fun g => absurd g (by omega), fun _ _ => by rw [q6c, show a3.toInt.toNat = 0 by omega]; show _ = (((y5.toInt.toNat / 9 % 3 : Nat)) : Int); omega, fun g => absurd g (by omega)⟩⟩)))))⟩
              · have f31 : 1 ≤ a3.toInt := by
                  have q : _ := c21
                  simp only [ti_nle, ti_nlt, ti_le, ti_lt, ti_eq, ti_ne, Classical.not_not, kt_1] at q
                  omega
                have b32 : IV a3 1 2147483647 := ⟨by have q1 := kc_1; have q2 := b10; omega, by have q1 := kc_1; have q2 := b10; omega⟩
                refine m_iload C dX12_bells_305 rfl ?_
                refine m_iload_n C dX12_bells_307 rfl rfl ?_
                refine m_icmp_ge (tgt := 323) C dX12_bells_308 (by decide) (fun c33 => ?_) (fun c33 => ?_)
                · first | exact absurd c33 (by decide) | exact absurd (by decide) c33
                · have f35 : 1 < 3 := by
                    have q : _ := c33
                    simp only [ti_nle, ti_nlt, ti_le, ti_lt, ti_eq, ti_ne, Classical.not_not, kt_1, kt_3] at q
                    omega
                  refine m_iload C dX12_bells_311 rfl ?_
                  refine m_iload_n C dX12_bells_313 rfl rfl ?_
                  refine m_idiv C dX12_bells_314 (iv_nz kc_3 (by decide)) ?_
                  refine m_topi (fun x36 ex36 => ?_)
                  have b37 : IV x36 3 3 := by rw [ex36]; decide
                  have tx36 : x36.toInt = 3 := by rw [ex36]; decide
                  obtain rfl : x36 = 3 := by rw [ex36]; decide
                  refine m_istore (L1 := [some (.ref (G.1 22 0)), some (.int a1), some (.int 3), some (.int a3), some (.int 27), some (.int y5), some (.int y6), some (.int 3), some (.int 1), none, none, none, none, none]) C dX12_bells_315 (by decide) rfl rfl ?_
                  obtain ⟨x38, ex38⟩ : ∃ y : Int32, y = 1 + 1 := ⟨_, rfl⟩
                  have b39 : IV x38 2 2 := by rw [ex38]; decide
                  have tx38 : x38.toInt = 2 := by rw [ex38]; decide
                  obtain rfl : x38 = 2 := by rw [ex38]; decide
                  refine m_iinc (v := 2) (L1 := [some (.ref (G.1 22 0)), some (.int a1), some (.int 3), some (.int a3), some (.int 27), some (.int y5), some (.int y6), some (.int 3), some (.int 2), none, none, none, none, none]) C dX12_bells_317 rfl (by decide) (by decide) rfl rfl ?_
                  refine m_goto (tgt := 299) C dX12_bells_320 (by decide) ?_
                  refine m_iload C dX12_bells_299 rfl ?_
                  refine m_iload_n C dX12_bells_301 rfl rfl ?_
                  refine m_icmp_gt (tgt := 323) C dX12_bells_302 (by decide) (fun c40 => ?_) (fun c40 => ?_)
                  · have f41 : a3.toInt < 2 := by
                      have q : _ := c40
                      simp only [ti_nle, ti_nlt, ti_le, ti_lt, ti_eq, ti_ne, Classical.not_not, kt_2] at q
                      omega
                    have b42 : IV a3 1 1 := ⟨by have q1 := b32; have q2 := kc_2; omega, by have q1 := b32; have q2 := kc_2; omega⟩
                    refine m_iload_n C dX12_bells_323 rfl rfl ?_
                    refine m_iload_n C dX12_bells_324 rfl rfl ?_
                    refine m_icmp_ge (tgt := 338) C dX12_bells_325 (by decide) (fun c43 => ?_) (fun c43 => ?_)
                    · exfalso
                      have q : _ := c43
                      simp only [ti_nle, ti_nlt, ti_le, ti_lt, ti_eq, ti_ne, Classical.not_not, kt_3] at q
                      have q1 := b42; have q2 := kc_3; omega
                    · have f45 : a3.toInt < 3 := by
                        have q : _ := c43
                        simp only [ti_nle, ti_nlt, ti_le, ti_lt, ti_eq, ti_ne, Classical.not_not, kt_3] at q
                        omega
                      refine m_iload C dX12_bells_328 rfl ?_
                      refine m_iload C dX12_bells_330 rfl ?_
                      refine m_idiv C dX12_bells_332 (iv_nz kc_3 (by decide)) ?_
                      refine m_topi (fun x46 ex46 => ?_)
                      have b47 : IV x46 0 13 := by rw [ex46]; exact iv_div b7 kc_3 (by decide)
                      have tx46 : x46.toInt = y5.toInt / 3 := by rw [ex46]; exact ti_divc b7 kc_3 (by decide)
                      refine m_iload_n C dX12_bells_333 rfl rfl ?_
                      refine m_irem C dX12_bells_334 (iv_nz kc_3 (by decide)) ?_
                      refine m_topi (fun x48 ex48 => ?_)
                      have b49 : IV x48 0 2 := by rw [ex48]; exact iv_rem b47 kc_3 (by decide)
                      have tx48 : x48.toInt = x46.toInt % 3 := by rw [ex48]; exact ti_rem b47 kc_3 (by decide)
                      refine m_goto (tgt := 340) C dX12_bells_335 (by decide) ?_
                      exact m_iret C hr hlk (by decide) (by decide) dX12_bells_340 ⟨_, rfl, iτ, fτ, (iv_wk b49 (by decide)), (Or.inr (Or.inr (Or.inr (Or.inr (⟨by omega, by omega, by omega, nL, ⟨fun g => absurd g (by omega), fun _ _ => by rw [q6c, show a3.toInt.toNat = 1 by omega]; show _ = (((y5.toInt.toNat / 3 % 3 : Nat)) : Int); omega, fun g => absurd g (by omega)⟩⟩)))))⟩
                  · have f50 : 2 ≤ a3.toInt := by
                      have q : _ := c40
                      simp only [ti_nle, ti_nlt, ti_le, ti_lt, ti_eq, ti_ne, Classical.not_not, kt_2] at q
                      omega
                    have b51 : IV a3 2 2147483647 := ⟨by have q1 := kc_2; have q2 := b32; omega, by have q1 := kc_2; have q2 := b32; omega⟩
                    refine m_iload C dX12_bells_305 rfl ?_
                    refine m_iload_n C dX12_bells_307 rfl rfl ?_
                    refine m_icmp_ge (tgt := 323) C dX12_bells_308 (by decide) (fun c52 => ?_) (fun c52 => ?_)
                    · first | exact absurd c52 (by decide) | exact absurd (by decide) c52
                    · have f54 : 2 < 3 := by
                        have q : _ := c52
                        simp only [ti_nle, ti_nlt, ti_le, ti_lt, ti_eq, ti_ne, Classical.not_not, kt_2, kt_3] at q
                        omega
                      refine m_iload C dX12_bells_311 rfl ?_
                      refine m_iload_n C dX12_bells_313 rfl rfl ?_
                      refine m_idiv C dX12_bells_314 (iv_nz kc_3 (by decide)) ?_
                      refine m_topi (fun x55 ex55 => ?_)
                      have b56 : IV x55 1 1 := by rw [ex55]; decide
                      have tx55 : x55.toInt = 1 := by rw [ex55]; decide
                      obtain rfl : x55 = 1 := by rw [ex55]; decide
                      refine m_istore (L1 := [some (.ref (G.1 22 0)), some (.int a1), some (.int 3), some (.int a3), some (.int 27), some (.int y5), some (.int y6), some (.int 1), some (.int 2), none, none, none, none, none]) C dX12_bells_315 (by decide) rfl rfl ?_
                      obtain ⟨x57, ex57⟩ : ∃ y : Int32, y = 2 + 1 := ⟨_, rfl⟩
                      have b58 : IV x57 3 3 := by rw [ex57]; decide
                      have tx57 : x57.toInt = 3 := by rw [ex57]; decide
                      obtain rfl : x57 = 3 := by rw [ex57]; decide
                      refine m_iinc (v := 3) (L1 := [some (.ref (G.1 22 0)), some (.int a1), some (.int 3), some (.int a3), some (.int 27), some (.int y5), some (.int y6), some (.int 1), some (.int 3), none, none, none, none, none]) C dX12_bells_317 rfl (by decide) (by decide) rfl rfl ?_
                      refine m_goto (tgt := 299) C dX12_bells_320 (by decide) ?_
                      refine m_iload C dX12_bells_299 rfl ?_
                      refine m_iload_n C dX12_bells_301 rfl rfl ?_
                      refine m_icmp_gt (tgt := 323) C dX12_bells_302 (by decide) (fun c59 => ?_) (fun c59 => ?_)
                      · have f60 : a3.toInt < 3 := by
                          have q : _ := c59
                          simp only [ti_nle, ti_nlt, ti_le, ti_lt, ti_eq, ti_ne, Classical.not_not, kt_3] at q
                          omega
                        have b61 : IV a3 2 2 := ⟨by have q1 := b51; have q2 := kc_3; omega, by have q1 := b51; have q2 := kc_3; omega⟩
                        refine m_iload_n C dX12_bells_323 rfl rfl ?_
                        refine m_iload_n C dX12_bells_324 rfl rfl ?_
                        refine m_icmp_ge (tgt := 338) C dX12_bells_325 (by decide) (fun c62 => ?_) (fun c62 => ?_)
                        · exfalso
                          have q : _ := c62
                          simp only [ti_nle, ti_nlt, ti_le, ti_lt, ti_eq, ti_ne, Classical.not_not, kt_3] at q
                          have q1 := b61; have q2 := kc_3; omega
                        · have f64 : a3.toInt < 3 := by
                            have q : _ := c62
                            simp only [ti_nle, ti_nlt, ti_le, ti_lt, ti_eq, ti_ne, Classical.not_not, kt_3] at q
                            omega
                          refine m_iload C dX12_bells_328 rfl ?_
                          refine m_iload C dX12_bells_330 rfl ?_
                          refine m_idiv C dX12_bells_332 (iv_nz kc_1 (by decide)) ?_
                          refine m_topi (fun x65 ex65 => ?_)
                          have b66 : IV x65 0 40 := by rw [ex65]; exact iv_div b7 kc_1 (by decide)
                          have tx65 : x65.toInt = y5.toInt / 1 := by rw [ex65]; exact ti_divc b7 kc_1 (by decide)
                          refine m_iload_n C dX12_bells_333 rfl rfl ?_
                          refine m_irem C dX12_bells_334 (iv_nz kc_3 (by decide)) ?_
                          refine m_topi (fun x67 ex67 => ?_)
                          have b68 : IV x67 0 2 := by rw [ex67]; exact iv_rem b66 kc_3 (by decide)
                          have tx67 : x67.toInt = x65.toInt % 3 := by rw [ex67]; exact ti_rem b66 kc_3 (by decide)
                          refine m_goto (tgt := 340) C dX12_bells_335 (by decide) ?_
                          exact m_iret C hr hlk (by decide) (by decide) dX12_bells_340 ⟨_, rfl, iτ, fτ, (iv_wk b68 (by decide)), (Or.inr (Or.inr (Or.inr (Or.inr (⟨by omega, by omega, by omega, nL, ⟨fun g => absurd g (by omega), fun _ _ => by rw [q6c, show a3.toInt.toNat = 2 by omega]; show _ = (((y5.toInt.toNat / 1 % 3 : Nat)) : Int); omega, fun g => absurd g (by omega)⟩⟩)))))⟩
                      · have f69 : 3 ≤ a3.toInt := by
                          have q : _ := c59
                          simp only [ti_nle, ti_nlt, ti_le, ti_lt, ti_eq, ti_ne, Classical.not_not, kt_3] at q
                          omega
                        have b70 : IV a3 3 2147483647 := ⟨by have q1 := kc_3; have q2 := b51; omega, by have q1 := kc_3; have q2 := b51; omega⟩
                        refine m_iload C dX12_bells_305 rfl ?_
                        refine m_iload_n C dX12_bells_307 rfl rfl ?_
                        refine m_icmp_ge (tgt := 323) C dX12_bells_308 (by decide) (fun c71 => ?_) (fun c71 => ?_)
                        · have f72 : 3 ≤ 3 := by
                            have q : _ := c71
                            simp only [ti_nle, ti_nlt, ti_le, ti_lt, ti_eq, ti_ne, Classical.not_not, kt_3, kt_3] at q
                            omega
                          refine m_iload_n C dX12_bells_323 rfl rfl ?_
                          refine m_iload_n C dX12_bells_324 rfl rfl ?_
                          refine m_icmp_ge (tgt := 338) C dX12_bells_325 (by decide) (fun c73 => ?_) (fun c73 => ?_)
                          · have f74 : 3 ≤ a3.toInt := by
                              have q : _ := c73
                              simp only [ti_nle, ti_nlt, ti_le, ti_lt, ti_eq, ti_ne, Classical.not_not, kt_3] at q
                              omega
                            refine m_ldc (v := (-1000000)) C dX12_bells_338 q5_70 ?_
                            exact m_iret C hr hlk (by decide) (by decide) dX12_bells_340 ⟨_, rfl, iτ, fτ, (iv_wk kc_m1000000 (by decide)), (Or.inr (Or.inr (Or.inr (Or.inr (⟨by have qk := kt_m1000000; omega, by have qk := kt_m1000000; omega, by have qk := kt_m1000000; omega, nL, ⟨fun g => absurd g (by omega), fun _ g => absurd g (by omega), fun _ => kt_m1000000⟩⟩)))))⟩
                          · exfalso
                            have q : _ := c73
                            simp only [ti_nle, ti_nlt, ti_le, ti_lt, ti_eq, ti_ne, Classical.not_not, kt_3] at q
                            have q1 := b70; have q2 := kc_3; omega
                        · first | exact absurd c71 (by decide) | exact absurd (by decide) c71
        · have f77 : a3.toInt < 0 := by
            have q : _ := c8
            simp only [ti_nle, ti_nlt, ti_le, ti_lt, ti_eq, ti_ne, Classical.not_not, kt_0] at q
            omega
          have b78 : IV a3 (-1) (-1) := ⟨by have q1 := b_a3; have q2 := kc_0; omega, by have q1 := b_a3; have q2 := kc_0; omega⟩
          refine m_iload C dX12_bells_289 rfl ?_
          exact m_iret C hr hlk (by decide) (by decide) dX12_bells_291 ⟨_, rfl, iτ, fτ, b_y6, (Or.inr (Or.inr (Or.inr (Or.inr (⟨by omega, by omega, by omega, nL, ⟨fun _ => q6b.symm, fun g => absurd g (by omega), fun g => absurd g (by omega)⟩⟩)))))⟩
      · have f79 : y7.toInt < 27 := by
          have q : _ := c3
          simp only [ti_nle, ti_nlt, ti_le, ti_lt, ti_eq, ti_ne, Classical.not_not, kt_27] at q
          omega
        have b80 : IV y7 0 26 := ⟨by have q1 := b_y7; have q2 := kc_27; omega, by have q1 := b_y7; have q2 := kc_27; omega⟩
        refine m_iconst (v := 0) C dX12_bells_145 (by decide) ?_
        refine m_istore (L1 := [some (.ref (G.1 22 0)), some (.int a1), some (.int 3), some (.int a3), some (.int 27), some (.int y5), some (.int y6), some (.int y7), some (.int 0), none, none, none, none, none]) C dX12_bells_146 (by decide) rfl rfl ?_
        refine m_iload C dX12_bells_148 rfl ?_
        refine m_istore (L1 := [some (.ref (G.1 22 0)), some (.int a1), some (.int 3), some (.int a3), some (.int 27), some (.int y5), some (.int y6), some (.int y7), some (.int 0), some (.int 27), none, none, none, none]) C dX12_bells_150 (by decide) rfl rfl ?_
        refine m_iconst (v := 0) C dX12_bells_152 (by decide) ?_
        refine m_istore (L1 := [some (.ref (G.1 22 0)), some (.int a1), some (.int 3), some (.int a3), some (.int 27), some (.int y5), some (.int y6), some (.int y7), some (.int 0), some (.int 27), some (.int 0), none, none, none]) C dX12_bells_153 (by decide) rfl rfl ?_
        refine m_iconst (v := 0) C dX12_bells_155 (by decide) ?_
        refine m_istore (L1 := [some (.ref (G.1 22 0)), some (.int a1), some (.int 3), some (.int a3), some (.int 27), some (.int y5), some (.int y6), some (.int y7), some (.int 0), some (.int 27), some (.int 0), some (.int 0), none, none]) C dX12_bells_156 (by decide) rfl rfl ?_
        refine m_iconst (v := 0) C dX12_bells_158 (by decide) ?_
        refine m_istore (L1 := [some (.ref (G.1 22 0)), some (.int a1), some (.int 3), some (.int a3), some (.int 27), some (.int y5), some (.int y6), some (.int y7), some (.int 0), some (.int 27), some (.int 0), some (.int 0), some (.int 0), none]) C dX12_bells_159 (by decide) rfl rfl ?_
        refine m_iload C dX12_bells_161 rfl ?_
        refine m_iload_n C dX12_bells_163 rfl rfl ?_
        refine m_icmp_ge (tgt := 249) C dX12_bells_164 (by decide) (fun c81 => ?_) (fun c81 => ?_)
        · first | exact absurd c81 (by decide) | exact absurd (by decide) c81
        · have f83 : 0 < 3 := by
            have q : _ := c81
            simp only [ti_nle, ti_nlt, ti_le, ti_lt, ti_eq, ti_ne, Classical.not_not, kt_0, kt_3] at q
            omega
          refine m_iload C dX12_bells_167 rfl ?_
          refine m_iload_n C dX12_bells_169 rfl rfl ?_
          refine m_idiv C dX12_bells_170 (iv_nz kc_3 (by decide)) ?_
          refine m_topi (fun x84 ex84 => ?_)
          have b85 : IV x84 9 9 := by rw [ex84]; decide
          have tx84 : x84.toInt = 9 := by rw [ex84]; decide
          obtain rfl : x84 = 9 := by rw [ex84]; decide
          refine m_istore (L1 := [some (.ref (G.1 22 0)), some (.int a1), some (.int 3), some (.int a3), some (.int 27), some (.int y5), some (.int y6), some (.int y7), some (.int 0), some (.int 9), some (.int 0), some (.int 0), some (.int 0), none]) C dX12_bells_171 (by decide) rfl rfl ?_
          refine m_iload C dX12_bells_173 rfl ?_
          refine m_iload C dX12_bells_175 rfl ?_
          refine m_idiv C dX12_bells_177 (iv_nz kc_9 (by decide)) ?_
          refine m_topi (fun x86 ex86 => ?_)
          have b87 : IV x86 0 2 := by rw [ex86]; exact iv_div b80 kc_9 (by decide)
          have tx86 : x86.toInt = y7.toInt / 9 := by rw [ex86]; exact ti_divc b80 kc_9 (by decide)
          refine m_iload_n C dX12_bells_178 rfl rfl ?_
          refine m_irem C dX12_bells_179 (iv_nz kc_3 (by decide)) ?_
          refine m_topi (fun x88 ex88 => ?_)
          have b89 : IV x88 0 2 := by rw [ex88]; exact iv_rem b87 kc_3 (by decide)
          have tx88 : x88.toInt = x86.toInt % 3 := by rw [ex88]; exact ti_rem b87 kc_3 (by decide)
          refine m_istore (L1 := [some (.ref (G.1 22 0)), some (.int a1), some (.int 3), some (.int a3), some (.int 27), some (.int y5), some (.int y6), some (.int y7), some (.int 0), some (.int 9), some (.int 0), some (.int 0), some (.int 0), some (.int x88)]) C dX12_bells_180 (by decide) rfl rfl ?_
          refine m_iload C dX12_bells_182 rfl ?_
          refine m_iconst (v := 1) C dX12_bells_184 (by decide) ?_
          refine m_iload C dX12_bells_185 rfl ?_
          refine m_ishl C dX12_bells_187 ?_
          refine m_topi (fun x90 ex90 => ?_)
          have b91 : IV x90 1 4 := by rw [ex90]; exact iv_shl1 b89 (by decide)
          refine m_ior C dX12_bells_188 ?_
          refine m_topi (fun x92 ex92 => ?_)
          have b93 : IV x92 0 7 := by rw [ex92]; exact iv_or 3 kc_0 b91 (by decide)
          refine m_istore (L1 := [some (.ref (G.1 22 0)), some (.int a1), some (.int 3), some (.int a3), some (.int 27), some (.int y5), some (.int y6), some (.int y7), some (.int x92), some (.int 9), some (.int 0), some (.int 0), some (.int 0), some (.int x88)]) C dX12_bells_189 (by decide) rfl rfl ?_
          refine m_iload C dX12_bells_191 rfl ?_
          refine m_iload C dX12_bells_193 rfl ?_
          refine m_iconst (v := 2) C dX12_bells_195 (by decide) ?_
          refine m_irem C dX12_bells_196 (iv_nz kc_2 (by decide)) ?_
          refine m_topi (fun x94 ex94 => ?_)
          have b95 : IV x94 0 0 := by rw [ex94]; decide
          have tx94 : x94.toInt = 0 := by rw [ex94]; decide
          obtain rfl : x94 = 0 := by rw [ex94]; decide
          refine m_if_ne (tgt := 215) C dX12_bells_197 (by decide) (fun c96 => ?_) (fun c96 => ?_)
          · first | exact absurd c96 (by decide) | exact absurd (by decide) c96
          · have f98 : 0 = 0 := by
              have q : _ := c96
              simp only [ti_nle, ti_nlt, ti_le, ti_lt, ti_eq, ti_ne, Classical.not_not, kt_0, kt_0] at q
              omega
            refine m_aload_n C dX12_bells_200 rfl rfl ?_
            refine g_22_2 C q4_118 dX12_bells_201 ?_
            refine m_bipush (v := 40) C dX12_bells_204 (by decide) ?_
            refine m_iload_n C dX12_bells_206 rfl rfl ?_
            refine m_imul C dX12_bells_207 ?_
            refine m_topi (fun x99 ex99 => ?_)
            have tx99 : x99.toInt = 40 * a1.toInt := by rw [ex99, ti_mulv kc_40 b_a1 (by decide), kt_40]
            have b100 : IV x99 0 280 := by rw [ex99]; exact iv_mul kc_40 b_a1 (by decide)
            refine m_iload C dX12_bells_208 rfl ?_
            refine m_iadd C dX12_bells_210 ?_
            refine m_topi (fun x101 ex101 => ?_)
            have tx101 : x101.toInt = x99.toInt + x88.toInt := by rw [ex101, ti_addv b100 b89 (by decide)]
            have b102 : IV x101 0 282 := by rw [ex101]; exact iv_add b100 b89 (by decide)
            refine al_25 C b102 (by decide) rfl dX12_bells_211 ?_
            refine m_topi (fun x103 ex103 => ?_)
            have q104 : (nuJ σ (a1.toInt.toNat) 3) (y7.toInt.toNat / 9 % 3) = x103.toInt := by unfold nuJ; rw [if_pos (by omega), show 40 * (a1.toInt.toNat) + (y7.toInt.toNat / 9 % 3) = (x101.toInt.toNat) by omega, ← (fτ).1 25 0 (x101.toInt.toNat) (by simp) (by decide), show gV τ 25 0 (x101.toInt.toNat) = x103 from ex103.symm]
            have q106 := hν (y7.toInt.toNat / 9 % 3)
            have b105 : IV x103 0 20 := ⟨by omega, by omega⟩
            refine m_goto (tgt := 228) C dX12_bells_212 (by decide) ?_
            refine m_iadd C dX12_bells_228 ?_
            refine m_topi (fun x107 ex107 => ?_)
            have tx107 : x107.toInt = 0 + x103.toInt := by rw [ex107, ti_addv kc_0 b105 (by decide), kt_0]
            have b108 : IV x107 0 20 := by rw [ex107]; exact iv_add kc_0 b105 (by decide)
            refine m_istore (L1 := [some (.ref (G.1 22 0)), some (.int a1), some (.int 3), some (.int a3), some (.int 27), some (.int y5), some (.int y6), some (.int y7), some (.int x92), some (.int 9), some (.int x107), some (.int 0), some (.int 0), some (.int x88)]) C dX12_bells_229 (by decide) rfl rfl ?_
            refine m_iload C dX12_bells_231 rfl ?_
            refine m_iload C dX12_bells_233 rfl ?_
            refine m_callS (n := 1) (st := [.int 0]) C (c_X12_sizeOfB l G τ (x107) iτ (iv_wk b108 (by decide))) q5_96 q5_94 q5_95 q1_7 (by decide +kernel) rfl (by decide) (by decide) rfl (Nat.le_of_ble_eq_true rfl) dX12_bells_235 ?_
            rintro _ τ109 ⟨x112, rfl, i110, f111, b113, h115⟩
            have g114 : Fr MS_X12_bells_3Z AS_X12_bells_3Z σ τ109 := Fr.call (fτ) f111 (by decide)
            have q116 : (gV τ109 26 0 (a1.toInt.toNat)).toInt = (gV τ 26 0 (a1.toInt.toNat)).toInt := congrArg Int32.toInt (show (gV τ109 26 0 (a1.toInt.toNat)) = (gV τ 26 0 (a1.toInt.toNat)) from (show gV τ109 26 0 (a1.toInt.toNat) = (gV τ 26 0 (a1.toInt.toNat)) from (f111.1 26 0 ((a1.toInt.toNat)) (by simp) (by decide)).trans rfl))
            have q117 : (gV τ109 27 0 (a1.toInt.toNat)).toInt = (gV τ 27 0 (a1.toInt.toNat)).toInt := congrArg Int32.toInt (show (gV τ109 27 0 (a1.toInt.toNat)) = (gV τ 27 0 (a1.toInt.toNat)) from (show gV τ109 27 0 (a1.toInt.toNat) = (gV τ 27 0 (a1.toInt.toNat)) from (f111.1 27 0 ((a1.toInt.toNat)) (by simp) (by decide)).trans rfl))
            show MW p l e _ s m args below meth c _ 14 G 0 0 238 [some (.ref (G.1 22 0)), some (.int a1), some (.int 3), some (.int a3), some (.int 27), some (.int y5), some (.int y6), some (.int y7), some (.int x92), some (.int 9), some (.int x107), some (.int 0), some (.int 0), some (.int x88)] [.int x112, .int 0] τ109
            have q118 := kt_0
            refine m_callS (n := 2) (st := []) C (c_X12_greaterB l G τ109 (0) (x112) i110 ) q5_99 q5_97 q5_98 q1_7 (by decide +kernel) rfl (by decide) (by decide) rfl (Nat.le_of_ble_eq_true rfl) dX12_bells_238 ?_
            rintro _ τ119 ⟨x122, rfl, i120, f121, b123, h125⟩
            have g124 : Fr MS_X12_bells_3Z AS_X12_bells_3Z σ τ119 := Fr.call (g114) f121 (by decide)
            have q126 : (gV τ119 26 0 (a1.toInt.toNat)).toInt = (gV τ 26 0 (a1.toInt.toNat)).toInt := congrArg Int32.toInt (show (gV τ119 26 0 (a1.toInt.toNat)) = (gV τ 26 0 (a1.toInt.toNat)) from (show gV τ119 26 0 (a1.toInt.toNat) = (gV τ 26 0 (a1.toInt.toNat)) from (f121.1 26 0 ((a1.toInt.toNat)) (by simp) (by decide)).trans (show gV τ109 26 0 (a1.toInt.toNat) = (gV τ 26 0 (a1.toInt.toNat)) from (f111.1 26 0 ((a1.toInt.toNat)) (by simp) (by decide)).trans rfl)))
            have q127 : (gV τ119 27 0 (a1.toInt.toNat)).toInt = (gV τ 27 0 (a1.toInt.toNat)).toInt := congrArg Int32.toInt (show (gV τ119 27 0 (a1.toInt.toNat)) = (gV τ 27 0 (a1.toInt.toNat)) from (show gV τ119 27 0 (a1.toInt.toNat) = (gV τ 27 0 (a1.toInt.toNat)) from (f121.1 27 0 ((a1.toInt.toNat)) (by simp) (by decide)).trans (show gV τ109 27 0 (a1.toInt.toNat) = (gV τ 27 0 (a1.toInt.toNat)) from (f111.1 27 0 ((a1.toInt.toNat)) (by simp) (by decide)).trans rfl)))
            show MW p l e _ s m args below meth c _ 14 G 0 0 241 [some (.ref (G.1 22 0)), some (.int a1), some (.int 3), some (.int a3), some (.int 27), some (.int y5), some (.int y6), some (.int y7), some (.int x92), some (.int 9), some (.int x107), some (.int 0), some (.int 0), some (.int x88)] [.int x122] τ119
            refine m_istore (L1 := [some (.ref (G.1 22 0)), some (.int a1), some (.int 3), some (.int a3), some (.int 27), some (.int y5), some (.int y6), some (.int y7), some (.int x92), some (.int 9), some (.int x107), some (.int x122), some (.int 0), some (.int x88)]) C dX12_bells_241 (by decide) rfl rfl ?_
            have q129 : x88 = nI (y7.toInt.toNat / 9 % 3) := nI_of_ti (by omega) (by omega)
            rw [kt_0] at h125
            have h128 : bst (nuJ σ (a1.toInt.toNat) 3) 0 0 0 [(y7.toInt.toNat / 9 % 3)] = (x107.toInt, x122.toInt) := by
              have q := bst_one (b := (y7.toInt.toNat / 9 % 3)) (k := 0) (show bst (nuJ σ (a1.toInt.toNat) 3) 0 0 0 [] = (0, 0) from rfl) rfl
              rw [if_pos (by decide), show 0 + (nuJ σ (a1.toInt.toNat) 3) (y7.toInt.toNat / 9 % 3) = x107.toInt by omega, ← h115, ← h125] at q
              exact q
            clear h115 h125
            obtain ⟨x130, ex130⟩ : ∃ y : Int32, y = 0 + 1 := ⟨_, rfl⟩
            have b131 : IV x130 1 1 := by rw [ex130]; decide
            have tx130 : x130.toInt = 1 := by rw [ex130]; decide
            obtain rfl : x130 = 1 := by rw [ex130]; decide
            refine m_iinc (v := 1) (L1 := [some (.ref (G.1 22 0)), some (.int a1), some (.int 3), some (.int a3), some (.int 27), some (.int y5), some (.int y6), some (.int y7), some (.int x92), some (.int 9), some (.int x107), some (.int x122), some (.int 1), some (.int x88)]) C dX12_bells_243 rfl (by decide) (by decide) rfl rfl ?_
            refine m_goto (tgt := 161) C dX12_bells_246 (by decide) ?_
            refine m_iload C dX12_bells_161 rfl ?_
            refine m_iload_n C dX12_bells_163 rfl rfl ?_
            refine m_icmp_ge (tgt := 249) C dX12_bells_164 (by decide) (fun c132 => ?_) (fun c132 => ?_)
            · first | exact absurd c132 (by decide) | exact absurd (by decide) c132
            · have f134 : 1 < 3 := by
                have q : _ := c132
                simp only [ti_nle, ti_nlt, ti_le, ti_lt, ti_eq, ti_ne, Classical.not_not, kt_1, kt_3] at q
                omega
              refine m_iload C dX12_bells_167 rfl ?_
              refine m_iload_n C dX12_bells_169 rfl rfl ?_
              refine m_idiv C dX12_bells_170 (iv_nz kc_3 (by decide)) ?_
              refine m_topi (fun x135 ex135 => ?_)
              have b136 : IV x135 3 3 := by rw [ex135]; decide
              have tx135 : x135.toInt = 3 := by rw [ex135]; decide
              obtain rfl : x135 = 3 := by rw [ex135]; decide
              refine m_istore (L1 := [some (.ref (G.1 22 0)), some (.int a1), some (.int 3), some (.int a3), some (.int 27), some (.int y5), some (.int y6), some (.int y7), some (.int x92), some (.int 3), some (.int x107), some (.int x122), some (.int 1), some (.int x88)]) C dX12_bells_171 (by decide) rfl rfl ?_
              refine m_iload C dX12_bells_173 rfl ?_
              refine m_iload C dX12_bells_175 rfl ?_
              refine m_idiv C dX12_bells_177 (iv_nz kc_3 (by decide)) ?_
              refine m_topi (fun x137 ex137 => ?_)
              have b138 : IV x137 0 8 := by rw [ex137]; exact iv_div b80 kc_3 (by decide)
              have tx137 : x137.toInt = y7.toInt / 3 := by rw [ex137]; exact ti_divc b80 kc_3 (by decide)
              refine m_iload_n C dX12_bells_178 rfl rfl ?_
              refine m_irem C dX12_bells_179 (iv_nz kc_3 (by decide)) ?_
              refine m_topi (fun x139 ex139 => ?_)
              have b140 : IV x139 0 2 := by rw [ex139]; exact iv_rem b138 kc_3 (by decide)
              have tx139 : x139.toInt = x137.toInt % 3 := by rw [ex139]; exact ti_rem b138 kc_3 (by decide)
              refine m_istore (L1 := [some (.ref (G.1 22 0)), some (.int a1), some (.int 3), some (.int a3), some (.int 27), some (.int y5), some (.int y6), some (.int y7), some (.int x92), some (.int 3), some (.int x107), some (.int x122), some (.int 1), some (.int x139)]) C dX12_bells_180 (by decide) rfl rfl ?_
              refine m_iload C dX12_bells_182 rfl ?_
              refine m_iconst (v := 1) C dX12_bells_184 (by decide) ?_
              refine m_iload C dX12_bells_185 rfl ?_
              refine m_ishl C dX12_bells_187 ?_
              refine m_topi (fun x141 ex141 => ?_)
              have b142 : IV x141 1 4 := by rw [ex141]; exact iv_shl1 b140 (by decide)
              refine m_ior C dX12_bells_188 ?_
              refine m_topi (fun x143 ex143 => ?_)
              have b144 : IV x143 0 7 := by rw [ex143]; exact iv_or 3 b93 b142 (by decide)
              refine m_istore (L1 := [some (.ref (G.1 22 0)), some (.int a1), some (.int 3), some (.int a3), some (.int 27), some (.int y5), some (.int y6), some (.int y7), some (.int x143), some (.int 3), some (.int x107), some (.int x122), some (.int 1), some (.int x139)]) C dX12_bells_189 (by decide) rfl rfl ?_
              refine m_iload C dX12_bells_191 rfl ?_
              refine m_iload C dX12_bells_193 rfl ?_
              refine m_iconst (v := 2) C dX12_bells_195 (by decide) ?_
              refine m_irem C dX12_bells_196 (iv_nz kc_2 (by decide)) ?_
              refine m_topi (fun x145 ex145 => ?_)
              have b146 : IV x145 1 1 := by rw [ex145]; decide
              have tx145 : x145.toInt = 1 := by rw [ex145]; decide
              obtain rfl : x145 = 1 := by rw [ex145]; decide
              refine m_if_ne (tgt := 215) C dX12_bells_197 (by decide) (fun c147 => ?_) (fun c147 => ?_)
              · have f148 : 1 ≠ 0 := by
                  have q : _ := c147
                  simp only [ti_nle, ti_nlt, ti_le, ti_lt, ti_eq, ti_ne, Classical.not_not, kt_1, kt_0] at q
                  omega
                refine m_aload_n C dX12_bells_215 rfl rfl ?_
                refine g_22_2 C q4_118 dX12_bells_216 ?_
                refine m_bipush (v := 40) C dX12_bells_219 (by decide) ?_
                refine m_iload_n C dX12_bells_221 rfl rfl ?_
                refine m_imul C dX12_bells_222 ?_
                refine m_topi (fun x149 ex149 => ?_)
                have tx149 : x149.toInt = 40 * a1.toInt := by rw [ex149, ti_mulv kc_40 b_a1 (by decide), kt_40]
                have b150 : IV x149 0 280 := by rw [ex149]; exact iv_mul kc_40 b_a1 (by decide)
                refine m_iload C dX12_bells_223 rfl ?_
                refine m_iadd C dX12_bells_225 ?_
                refine m_topi (fun x151 ex151 => ?_)
                have tx151 : x151.toInt = x149.toInt + x139.toInt := by rw [ex151, ti_addv b150 b140 (by decide)]
                have b152 : IV x151 0 282 := by rw [ex151]; exact iv_add b150 b140 (by decide)
                refine al_25 C b152 (by decide) rfl dX12_bells_226 ?_
                refine m_topi (fun x153 ex153 => ?_)
                have q154 : (nuJ σ (a1.toInt.toNat) 3) (y7.toInt.toNat / 3 % 3) = x153.toInt := by unfold nuJ; rw [if_pos (by omega), show 40 * (a1.toInt.toNat) + (y7.toInt.toNat / 3 % 3) = (x151.toInt.toNat) by omega, ← (g124).1 25 0 (x151.toInt.toNat) (by simp) (by decide), show gV τ119 25 0 (x151.toInt.toNat) = x153 from ex153.symm]
                have q156 := hν (y7.toInt.toNat / 3 % 3)
                have b155 : IV x153 0 20 := ⟨by omega, by omega⟩
                refine m_ineg C dX12_bells_227 ?_
                refine m_topi (fun x157 ex157 => ?_)
                have q159 : x157.toInt = -x153.toInt := by rw [ex157]; exact ti_negv b155 (by decide)
                have b158 : IV x157 (-20) 0 := ⟨by omega, by omega⟩
                refine m_iadd C dX12_bells_228 ?_
                refine m_topi (fun x160 ex160 => ?_)
                have tx160 : x160.toInt = x107.toInt + x157.toInt := by rw [ex160, ti_addv b108 b158 (by decide)]
                have b161 : IV x160 (-20) 20 := by rw [ex160]; exact iv_add b108 b158 (by decide)
                refine m_istore (L1 := [some (.ref (G.1 22 0)), some (.int a1), some (.int 3), some (.int a3), some (.int 27), some (.int y5), some (.int y6), some (.int y7), some (.int x143), some (.int 3), some (.int x160), some (.int x122), some (.int 1), some (.int x139)]) C dX12_bells_229 (by decide) rfl rfl ?_
                refine m_iload C dX12_bells_231 rfl ?_
                refine m_iload C dX12_bells_233 rfl ?_
                refine m_callS (n := 1) (st := [.int x122]) C (c_X12_sizeOfB l G τ119 (x160) i120 (iv_wk b161 (by decide))) q5_96 q5_94 q5_95 q1_7 (by decide +kernel) rfl (by decide) (by decide) rfl (Nat.le_of_ble_eq_true rfl) dX12_bells_235 ?_
                rintro _ τ162 ⟨x165, rfl, i163, f164, b166, h168⟩
                have g167 : Fr MS_X12_bells_3Z AS_X12_bells_3Z σ τ162 := Fr.call (g124) f164 (by decide)
                have q169 : (gV τ162 26 0 (a1.toInt.toNat)).toInt = (gV τ 26 0 (a1.toInt.toNat)).toInt := congrArg Int32.toInt (show (gV τ162 26 0 (a1.toInt.toNat)) = (gV τ 26 0 (a1.toInt.toNat)) from (show gV τ162 26 0 (a1.toInt.toNat) = (gV τ 26 0 (a1.toInt.toNat)) from (f164.1 26 0 ((a1.toInt.toNat)) (by simp) (by decide)).trans (show gV τ119 26 0 (a1.toInt.toNat) = (gV τ 26 0 (a1.toInt.toNat)) from (f121.1 26 0 ((a1.toInt.toNat)) (by simp) (by decide)).trans (show gV τ109 26 0 (a1.toInt.toNat) = (gV τ 26 0 (a1.toInt.toNat)) from (f111.1 26 0 ((a1.toInt.toNat)) (by simp) (by decide)).trans rfl))))
                have q170 : (gV τ162 27 0 (a1.toInt.toNat)).toInt = (gV τ 27 0 (a1.toInt.toNat)).toInt := congrArg Int32.toInt (show (gV τ162 27 0 (a1.toInt.toNat)) = (gV τ 27 0 (a1.toInt.toNat)) from (show gV τ162 27 0 (a1.toInt.toNat) = (gV τ 27 0 (a1.toInt.toNat)) from (f164.1 27 0 ((a1.toInt.toNat)) (by simp) (by decide)).trans (show gV τ119 27 0 (a1.toInt.toNat) = (gV τ 27 0 (a1.toInt.toNat)) from (f121.1 27 0 ((a1.toInt.toNat)) (by simp) (by decide)).trans (show gV τ109 27 0 (a1.toInt.toNat) = (gV τ 27 0 (a1.toInt.toNat)) from (f111.1 27 0 ((a1.toInt.toNat)) (by simp) (by decide)).trans rfl))))
                show MW p l e _ s m args below meth c _ 14 G 0 0 238 [some (.ref (G.1 22 0)), some (.int a1), some (.int 3), some (.int a3), some (.int 27), some (.int y5), some (.int y6), some (.int y7), some (.int x143), some (.int 3), some (.int x160), some (.int x122), some (.int 1), some (.int x139)] [.int x165, .int x122] τ162
                refine m_callS (n := 2) (st := []) C (c_X12_greaterB l G τ162 (x122) (x165) i163 ) q5_99 q5_97 q5_98 q1_7 (by decide +kernel) rfl (by decide) (by decide) rfl (Nat.le_of_ble_eq_true rfl) dX12_bells_238 ?_
                rintro _ τ171 ⟨x174, rfl, i172, f173, b175, h177⟩
                have g176 : Fr MS_X12_bells_3Z AS_X12_bells_3Z σ τ171 := Fr.call (g167) f173 (by decide)
                have q178 : (gV τ171 26 0 (a1.toInt.toNat)).toInt = (gV τ 26 0 (a1.toInt.toNat)).toInt := congrArg Int32.toInt (show (gV τ171 26 0 (a1.toInt.toNat)) = (gV τ 26 0 (a1.toInt.toNat)) from (show gV τ171 26 0 (a1.toInt.toNat) = (gV τ 26 0 (a1.toInt.toNat)) from (f173.1 26 0 ((a1.toInt.toNat)) (by simp) (by decide)).trans (show gV τ162 26 0 (a1.toInt.toNat) = (gV τ 26 0 (a1.toInt.toNat)) from (f164.1 26 0 ((a1.toInt.toNat)) (by simp) (by decide)).trans (show gV τ119 26 0 (a1.toInt.toNat) = (gV τ 26 0 (a1.toInt.toNat)) from (f121.1 26 0 ((a1.toInt.toNat)) (by simp) (by decide)).trans (show gV τ109 26 0 (a1.toInt.toNat) = (gV τ 26 0 (a1.toInt.toNat)) from (f111.1 26 0 ((a1.toInt.toNat)) (by simp) (by decide)).trans rfl)))))
                have q179 : (gV τ171 27 0 (a1.toInt.toNat)).toInt = (gV τ 27 0 (a1.toInt.toNat)).toInt := congrArg Int32.toInt (show (gV τ171 27 0 (a1.toInt.toNat)) = (gV τ 27 0 (a1.toInt.toNat)) from (show gV τ171 27 0 (a1.toInt.toNat) = (gV τ 27 0 (a1.toInt.toNat)) from (f173.1 27 0 ((a1.toInt.toNat)) (by simp) (by decide)).trans (show gV τ162 27 0 (a1.toInt.toNat) = (gV τ 27 0 (a1.toInt.toNat)) from (f164.1 27 0 ((a1.toInt.toNat)) (by simp) (by decide)).trans (show gV τ119 27 0 (a1.toInt.toNat) = (gV τ 27 0 (a1.toInt.toNat)) from (f121.1 27 0 ((a1.toInt.toNat)) (by simp) (by decide)).trans (show gV τ109 27 0 (a1.toInt.toNat) = (gV τ 27 0 (a1.toInt.toNat)) from (f111.1 27 0 ((a1.toInt.toNat)) (by simp) (by decide)).trans rfl)))))
                show MW p l e _ s m args below meth c _ 14 G 0 0 241 [some (.ref (G.1 22 0)), some (.int a1), some (.int 3), some (.int a3), some (.int 27), some (.int y5), some (.int y6), some (.int y7), some (.int x143), some (.int 3), some (.int x160), some (.int x122), some (.int 1), some (.int x139)] [.int x174] τ171
                refine m_istore (L1 := [some (.ref (G.1 22 0)), some (.int a1), some (.int 3), some (.int a3), some (.int 27), some (.int y5), some (.int y6), some (.int y7), some (.int x143), some (.int 3), some (.int x160), some (.int x174), some (.int 1), some (.int x139)]) C dX12_bells_241 (by decide) rfl rfl ?_
                have q181 : x139 = nI (y7.toInt.toNat / 3 % 3) := nI_of_ti (by omega) (by omega)
                have h180 : bst (nuJ σ (a1.toInt.toNat) 3) 0 0 0 [(y7.toInt.toNat / 9 % 3), (y7.toInt.toNat / 3 % 3)] = (x160.toInt, x174.toInt) := by
                  have q := bst_one (b := (y7.toInt.toNat / 3 % 3)) (k := 1) (h128) rfl
                  rw [if_neg (by decide), show x107.toInt - (nuJ σ (a1.toInt.toNat) 3) (y7.toInt.toNat / 3 % 3) = x160.toInt by omega, ← h168, ← h177] at q
                  exact q
                clear h168 h177
                clear h128
                obtain ⟨x182, ex182⟩ : ∃ y : Int32, y = 1 + 1 := ⟨_, rfl⟩
                have b183 : IV x182 2 2 := by rw [ex182]; decide
                have tx182 : x182.toInt = 2 := by rw [ex182]; decide
                obtain rfl : x182 = 2 := by rw [ex182]; decide
                refine m_iinc (v := 2) (L1 := [some (.ref (G.1 22 0)), some (.int a1), some (.int 3), some (.int a3), some (.int 27), some (.int y5), some (.int y6), some (.int y7), some (.int x143), some (.int 3), some (.int x160), some (.int x174), some (.int 2), some (.int x139)]) C dX12_bells_243 rfl (by decide) (by decide) rfl rfl ?_
                refine m_goto (tgt := 161) C dX12_bells_246 (by decide) ?_
                refine m_iload C dX12_bells_161 rfl ?_
                refine m_iload_n C dX12_bells_163 rfl rfl ?_
                refine m_icmp_ge (tgt := 249) C dX12_bells_164 (by decide) (fun c184 => ?_) (fun c184 => ?_)
                · first | exact absurd c184 (by decide) | exact absurd (by decide) c184
                · have f186 : 2 < 3 := by
                    have q : _ := c184
                    simp only [ti_nle, ti_nlt, ti_le, ti_lt, ti_eq, ti_ne, Classical.not_not, kt_2, kt_3] at q
                    omega
                  refine m_iload C dX12_bells_167 rfl ?_
                  refine m_iload_n C dX12_bells_169 rfl rfl ?_
                  refine m_idiv C dX12_bells_170 (iv_nz kc_3 (by decide)) ?_
                  refine m_topi (fun x187 ex187 => ?_)
                  have b188 : IV x187 1 1 := by rw [ex187]; decide
                  have tx187 : x187.toInt = 1 := by rw [ex187]; decide
                  obtain rfl : x187 = 1 := by rw [ex187]; decide
                  refine m_istore (L1 := [some (.ref (G.1 22 0)), some (.int a1), some (.int 3), some (.int a3), some (.int 27), some (.int y5), some (.int y6), some (.int y7), some (.int x143), some (.int 1), some (.int x160), some (.int x174), some (.int 2), some (.int x139)]) C dX12_bells_171 (by decide) rfl rfl ?_
                  refine m_iload C dX12_bells_173 rfl ?_
                  refine m_iload C dX12_bells_175 rfl ?_
                  refine m_idiv C dX12_bells_177 (iv_nz kc_1 (by decide)) ?_
                  refine m_topi (fun x189 ex189 => ?_)
                  have b190 : IV x189 0 26 := by rw [ex189]; exact iv_div b80 kc_1 (by decide)
                  have tx189 : x189.toInt = y7.toInt / 1 := by rw [ex189]; exact ti_divc b80 kc_1 (by decide)
                  refine m_iload_n C dX12_bells_178 rfl rfl ?_
                  refine m_irem C dX12_bells_179 (iv_nz kc_3 (by decide)) ?_
                  refine m_topi (fun x191 ex191 => ?_)
                  have b192 : IV x191 0 2 := by rw [ex191]; exact iv_rem b190 kc_3 (by decide)
                  have tx191 : x191.toInt = x189.toInt % 3 := by rw [ex191]; exact ti_rem b190 kc_3 (by decide)
                  refine m_istore (L1 := [some (.ref (G.1 22 0)), some (.int a1), some (.int 3), some (.int a3), some (.int 27), some (.int y5), some (.int y6), some (.int y7), some (.int x143), some (.int 1), some (.int x160), some (.int x174), some (.int 2), some (.int x191)]) C dX12_bells_180 (by decide) rfl rfl ?_
                  refine m_iload C dX12_bells_182 rfl ?_
                  refine m_iconst (v := 1) C dX12_bells_184 (by decide) ?_
                  refine m_iload C dX12_bells_185 rfl ?_
                  refine m_ishl C dX12_bells_187 ?_
                  refine m_topi (fun x193 ex193 => ?_)
                  have b194 : IV x193 1 4 := by rw [ex193]; exact iv_shl1 b192 (by decide)
                  refine m_ior C dX12_bells_188 ?_
                  refine m_topi (fun x195 ex195 => ?_)
                  have b196 : IV x195 0 7 := by rw [ex195]; exact iv_or 3 b144 b194 (by decide)
                  refine m_istore (L1 := [some (.ref (G.1 22 0)), some (.int a1), some (.int 3), some (.int a3), some (.int 27), some (.int y5), some (.int y6), some (.int y7), some (.int x195), some (.int 1), some (.int x160), some (.int x174), some (.int 2), some (.int x191)]) C dX12_bells_189 (by decide) rfl rfl ?_
                  refine m_iload C dX12_bells_191 rfl ?_
                  refine m_iload C dX12_bells_193 rfl ?_
                  refine m_iconst (v := 2) C dX12_bells_195 (by decide) ?_
                  refine m_irem C dX12_bells_196 (iv_nz kc_2 (by decide)) ?_
                  refine m_topi (fun x197 ex197 => ?_)
                  have b198 : IV x197 0 0 := by rw [ex197]; decide
                  have tx197 : x197.toInt = 0 := by rw [ex197]; decide
                  obtain rfl : x197 = 0 := by rw [ex197]; decide
                  refine m_if_ne (tgt := 215) C dX12_bells_197 (by decide) (fun c199 => ?_) (fun c199 => ?_)
                  · first | exact absurd c199 (by decide) | exact absurd (by decide) c199
                  · have f201 : 0 = 0 := by
                      have q : _ := c199
                      simp only [ti_nle, ti_nlt, ti_le, ti_lt, ti_eq, ti_ne, Classical.not_not, kt_0, kt_0] at q
                      omega
                    refine m_aload_n C dX12_bells_200 rfl rfl ?_
                    refine g_22_2 C q4_118 dX12_bells_201 ?_
                    refine m_bipush (v := 40) C dX12_bells_204 (by decide) ?_
                    refine m_iload_n C dX12_bells_206 rfl rfl ?_
                    refine m_imul C dX12_bells_207 ?_
                    refine m_topi (fun x202 ex202 => ?_)
                    have tx202 : x202.toInt = 40 * a1.toInt := by rw [ex202, ti_mulv kc_40 b_a1 (by decide), kt_40]
                    have b203 : IV x202 0 280 := by rw [ex202]; exact iv_mul kc_40 b_a1 (by decide)
                    refine m_iload C dX12_bells_208 rfl ?_
                    refine m_iadd C dX12_bells_210 ?_
                    refine m_topi (fun x204 ex204 => ?_)
                    have tx204 : x204.toInt = x202.toInt + x191.toInt := by rw [ex204, ti_addv b203 b192 (by decide)]
                    have b205 : IV x204 0 282 := by rw [ex204]; exact iv_add b203 b192 (by decide)
                    refine al_25 C b205 (by decide) rfl dX12_bells_211 ?_
                    refine m_topi (fun x206 ex206 => ?_)
                    have q207 : (nuJ σ (a1.toInt.toNat) 3) (y7.toInt.toNat / 1 % 3) = x206.toInt := by unfold nuJ; rw [if_pos (by omega), show 40 * (a1.toInt.toNat) + (y7.toInt.toNat / 1 % 3) = (x204.toInt.toNat) by omega, ← (g176).1 25 0 (x204.toInt.toNat) (by simp) (by decide), show gV τ171 25 0 (x204.toInt.toNat) = x206 from ex206.symm]
                    have q209 := hν (y7.toInt.toNat / 1 % 3)
                    have b208 : IV x206 0 20 := ⟨by omega, by omega⟩
                    refine m_goto (tgt := 228) C dX12_bells_212 (by decide) ?_
                    refine m_iadd C dX12_bells_228 ?_
                    refine m_topi (fun x210 ex210 => ?_)
                    have tx210 : x210.toInt = x160.toInt + x206.toInt := by rw [ex210, ti_addv b161 b208 (by decide)]
                    have b211 : IV x210 (-20) 40 := by rw [ex210]; exact iv_add b161 b208 (by decide)
                    refine m_istore (L1 := [some (.ref (G.1 22 0)), some (.int a1), some (.int 3), some (.int a3), some (.int 27), some (.int y5), some (.int y6), some (.int y7), some (.int x195), some (.int 1), some (.int x210), some (.int x174), some (.int 2), some (.int x191)]) C dX12_bells_229 (by decide) rfl rfl ?_
                    refine m_iload C dX12_bells_231 rfl ?_
                    refine m_iload C dX12_bells_233 rfl ?_
                    refine m_callS (n := 1) (st := [.int x174]) C (c_X12_sizeOfB l G τ171 (x210) i172 (iv_wk b211 (by decide))) q5_96 q5_94 q5_95 q1_7 (by decide +kernel) rfl (by decide) (by decide) rfl (Nat.le_of_ble_eq_true rfl) dX12_bells_235 ?_
                    rintro _ τ212 ⟨x215, rfl, i213, f214, b216, h218⟩
                    have g217 : Fr MS_X12_bells_3Z AS_X12_bells_3Z σ τ212 := Fr.call (g176) f214 (by decide)
                    have q219 : (gV τ212 26 0 (a1.toInt.toNat)).toInt = (gV τ 26 0 (a1.toInt.toNat)).toInt := congrArg Int32.toInt (show (gV τ212 26 0 (a1.toInt.toNat)) = (gV τ 26 0 (a1.toInt.toNat)) from (show gV τ212 26 0 (a1.toInt.toNat) = (gV τ 26 0 (a1.toInt.toNat)) from (f214.1 26 0 ((a1.toInt.toNat)) (by simp) (by decide)).trans (show gV τ171 26 0 (a1.toInt.toNat) = (gV τ 26 0 (a1.toInt.toNat)) from (f173.1 26 0 ((a1.toInt.toNat)) (by simp) (by decide)).trans (show gV τ162 26 0 (a1.toInt.toNat) = (gV τ 26 0 (a1.toInt.toNat)) from (f164.1 26 0 ((a1.toInt.toNat)) (by simp) (by decide)).trans (show gV τ119 26 0 (a1.toInt.toNat) = (gV τ 26 0 (a1.toInt.toNat)) from (f121.1 26 0 ((a1.toInt.toNat)) (by simp) (by decide)).trans (show gV τ109 26 0 (a1.toInt.toNat) = (gV τ 26 0 (a1.toInt.toNat)) from (f111.1 26 0 ((a1.toInt.toNat)) (by simp) (by decide)).trans rfl))))))
                    have q220 : (gV τ212 27 0 (a1.toInt.toNat)).toInt = (gV τ 27 0 (a1.toInt.toNat)).toInt := congrArg Int32.toInt (show (gV τ212 27 0 (a1.toInt.toNat)) = (gV τ 27 0 (a1.toInt.toNat)) from (show gV τ212 27 0 (a1.toInt.toNat) = (gV τ 27 0 (a1.toInt.toNat)) from (f214.1 27 0 ((a1.toInt.toNat)) (by simp) (by decide)).trans (show gV τ171 27 0 (a1.toInt.toNat) = (gV τ 27 0 (a1.toInt.toNat)) from (f173.1 27 0 ((a1.toInt.toNat)) (by simp) (by decide)).trans (show gV τ162 27 0 (a1.toInt.toNat) = (gV τ 27 0 (a1.toInt.toNat)) from (f164.1 27 0 ((a1.toInt.toNat)) (by simp) (by decide)).trans (show gV τ119 27 0 (a1.toInt.toNat) = (gV τ 27 0 (a1.toInt.toNat)) from (f121.1 27 0 ((a1.toInt.toNat)) (by simp) (by decide)).trans (show gV τ109 27 0 (a1.toInt.toNat) = (gV τ 27 0 (a1.toInt.toNat)) from (f111.1 27 0 ((a1.toInt.toNat)) (by simp) (by decide)).trans rfl))))))
                    show MW p l e _ s m args below meth c _ 14 G 0 0 238 [some (.ref (G.1 22 0)), some (.int a1), some (.int 3), some (.int a3), some (.int 27), some (.int y5), some (.int y6), some (.int y7), some (.int x195), some (.int 1), some (.int x210), some (.int x174), some (.int 2), some (.int x191)] [.int x215, .int x174] τ212
                    refine m_callS (n := 2) (st := []) C (c_X12_greaterB l G τ212 (x174) (x215) i213 ) q5_99 q5_97 q5_98 q1_7 (by decide +kernel) rfl (by decide) (by decide) rfl (Nat.le_of_ble_eq_true rfl) dX12_bells_238 ?_
                    rintro _ τ221 ⟨x224, rfl, i222, f223, b225, h227⟩
                    have g226 : Fr MS_X12_bells_3Z AS_X12_bells_3Z σ τ221 := Fr.call (g217) f223 (by decide)
                    have q228 : (gV τ221 26 0 (a1.toInt.toNat)).toInt = (gV τ 26 0 (a1.toInt.toNat)).toInt := congrArg Int32.toInt (show (gV τ221 26 0 (a1.toInt.toNat)) = (gV τ 26 0 (a1.toInt.toNat)) from (show gV τ221 26 0 (a1.toInt.toNat) = (gV τ 26 0 (a1.toInt.toNat)) from (f223.1 26 0 ((a1.toInt.toNat)) (by simp) (by decide)).trans (show gV τ212 26 0 (a1.toInt.toNat) = (gV τ 26 0 (a1.toInt.toNat)) from (f214.1 26 0 ((a1.toInt.toNat)) (by simp) (by decide)).trans (show gV τ171 26 0 (a1.toInt.toNat) = (gV τ 26 0 (a1.toInt.toNat)) from (f173.1 26 0 ((a1.toInt.toNat)) (by simp) (by decide)).trans (show gV τ162 26 0 (a1.toInt.toNat) = (gV τ 26 0 (a1.toInt.toNat)) from (f164.1 26 0 ((a1.toInt.toNat)) (by simp) (by decide)).trans (show gV τ119 26 0 (a1.toInt.toNat) = (gV τ 26 0 (a1.toInt.toNat)) from (f121.1 26 0 ((a1.toInt.toNat)) (by simp) (by decide)).trans (show gV τ109 26 0 (a1.toInt.toNat) = (gV τ 26 0 (a1.toInt.toNat)) from (f111.1 26 0 ((a1.toInt.toNat)) (by simp) (by decide)).trans rfl)))))))
                    have q229 : (gV τ221 27 0 (a1.toInt.toNat)).toInt = (gV τ 27 0 (a1.toInt.toNat)).toInt := congrArg Int32.toInt (show (gV τ221 27 0 (a1.toInt.toNat)) = (gV τ 27 0 (a1.toInt.toNat)) from (show gV τ221 27 0 (a1.toInt.toNat) = (gV τ 27 0 (a1.toInt.toNat)) from (f223.1 27 0 ((a1.toInt.toNat)) (by simp) (by decide)).trans (show gV τ212 27 0 (a1.toInt.toNat) = (gV τ 27 0 (a1.toInt.toNat)) from (f214.1 27 0 ((a1.toInt.toNat)) (by simp) (by decide)).trans (show gV τ171 27 0 (a1.toInt.toNat) = (gV τ 27 0 (a1.toInt.toNat)) from (f173.1 27 0 ((a1.toInt.toNat)) (by simp) (by decide)).trans (show gV τ162 27 0 (a1.toInt.toNat) = (gV τ 27 0 (a1.toInt.toNat)) from (f164.1 27 0 ((a1.toInt.toNat)) (by simp) (by decide)).trans (show gV τ119 27 0 (a1.toInt.toNat) = (gV τ 27 0 (a1.toInt.toNat)) from (f121.1 27 0 ((a1.toInt.toNat)) (by simp) (by decide)).trans (show gV τ109 27 0 (a1.toInt.toNat) = (gV τ 27 0 (a1.toInt.toNat)) from (f111.1 27 0 ((a1.toInt.toNat)) (by simp) (by decide)).trans rfl)))))))
                    show MW p l e _ s m args below meth c _ 14 G 0 0 241 [some (.ref (G.1 22 0)), some (.int a1), some (.int 3), some (.int a3), some (.int 27), some (.int y5), some (.int y6), some (.int y7), some (.int x195), some (.int 1), some (.int x210), some (.int x174), some (.int 2), some (.int x191)] [.int x224] τ221
                    refine m_istore (L1 := [some (.ref (G.1 22 0)), some (.int a1), some (.int 3), some (.int a3), some (.int 27), some (.int y5), some (.int y6), some (.int y7), some (.int x195), some (.int 1), some (.int x210), some (.int x224), some (.int 2), some (.int x191)]) C dX12_bells_241 (by decide) rfl rfl ?_
                    have q231 : x191 = nI (y7.toInt.toNat / 1 % 3) := nI_of_ti (by omega) (by omega)
                    have h230 : bst (nuJ σ (a1.toInt.toNat) 3) 0 0 0 [(y7.toInt.toNat / 9 % 3), (y7.toInt.toNat / 3 % 3), (y7.toInt.toNat / 1 % 3)] = (x210.toInt, x224.toInt) := by
                      have q := bst_one (b := (y7.toInt.toNat / 1 % 3)) (k := 2) (h180) rfl
                      rw [if_pos (by decide), show x160.toInt + (nuJ σ (a1.toInt.toNat) 3) (y7.toInt.toNat / 1 % 3) = x210.toInt by omega, ← h218, ← h227] at q
                      exact q
                    clear h218 h227
                    clear h180
                    obtain ⟨x232, ex232⟩ : ∃ y : Int32, y = 2 + 1 := ⟨_, rfl⟩
                    have b233 : IV x232 3 3 := by rw [ex232]; decide
                    have tx232 : x232.toInt = 3 := by rw [ex232]; decide
                    obtain rfl : x232 = 3 := by rw [ex232]; decide
                    refine m_iinc (v := 3) (L1 := [some (.ref (G.1 22 0)), some (.int a1), some (.int 3), some (.int a3), some (.int 27), some (.int y5), some (.int y6), some (.int y7), some (.int x195), some (.int 1), some (.int x210), some (.int x224), some (.int 3), some (.int x191)]) C dX12_bells_243 rfl (by decide) (by decide) rfl rfl ?_
                    refine m_goto (tgt := 161) C dX12_bells_246 (by decide) ?_
                    refine m_iload C dX12_bells_161 rfl ?_
                    refine m_iload_n C dX12_bells_163 rfl rfl ?_
                    refine m_icmp_ge (tgt := 249) C dX12_bells_164 (by decide) (fun c234 => ?_) (fun c234 => ?_)
                    · have f235 : 3 ≤ 3 := by
                        have q : _ := c234
                        simp only [ti_nle, ti_nlt, ti_le, ti_lt, ti_eq, ti_ne, Classical.not_not, kt_3, kt_3] at q
                        omega
                      have h236u : x195 = usedX 3 y7.toInt.toNat := by rw [ex195, ex193, ex143, ex141, ex92, ex90, q129, q181, q231]; rfl
                      have h236 := used_all 3 (by decide) (by decide) y7.toInt.toNat (by omega)
                      rw [← h236u] at h236
                      have h237 : x224.toInt = bcost (nuJ σ (a1.toInt.toNat) 3) (bdg 3 y7.toInt.toNat) := (bcost_of (show bst (nuJ σ (a1.toInt.toNat) 3) 0 0 0 (bdg 3 y7.toInt.toNat) = _ from h230)).symm
                      refine m_iload C dX12_bells_249 rfl ?_
                      refine m_iconst (v := 1) C dX12_bells_251 (by decide) ?_
                      refine m_iload_n C dX12_bells_252 rfl rfl ?_
                      refine m_ishl C dX12_bells_253 ?_
                      refine m_topi (fun x238 ex238 => ?_)
                      have b239 : IV x238 8 8 := by rw [ex238]; decide
                      have tx238 : x238.toInt = 8 := by rw [ex238]; decide
                      obtain rfl : x238 = 8 := by rw [ex238]; decide
                      refine m_iconst (v := 1) C dX12_bells_254 (by decide) ?_
                      refine m_isub C dX12_bells_255 ?_
                      refine m_topi (fun x240 ex240 => ?_)
                      have b241 : IV x240 7 7 := by rw [ex240]; decide
                      have tx240 : x240.toInt = 7 := by rw [ex240]; decide
                      obtain rfl : x240 = 7 := by rw [ex240]; decide
                      refine m_icmp_ne (tgt := 279) C dX12_bells_256 (by decide) (fun c242 => ?_) (fun c242 => ?_)
                      · have f243 : x195.toInt ≠ 7 := by
                          have q : _ := c242
                          simp only [ti_nle, ti_nlt, ti_le, ti_lt, ti_eq, ti_ne, Classical.not_not, kt_7] at q
                          omega
                        have b244 : IV x195 0 6 := ⟨by have q1 := b196; have q2 := kc_7; omega, by have q1 := b196; have q2 := kc_7; omega⟩
                        have q245 : ¬ x195 = nI (2 ^ 3 - 1) := fun g => by have g2 := congrArg Int32.toInt g; rw [show (nI (2 ^ 3 - 1)).toInt = 7 by decide] at g2; omega
                        obtain ⟨x246, ex246⟩ : ∃ y : Int32, y = y7 + 1 := ⟨_, rfl⟩
                        have tx246 : x246.toInt = y7.toInt + 1 := by rw [ex246, ti_addv b80 kc_1 (by decide), kt_1]
                        have b247 : IV x246 1 27 := by rw [ex246]; exact iv_add b80 kc_1 (by decide)
                        refine m_iinc (v := x246) (L1 := [some (.ref (G.1 22 0)), some (.int a1), some (.int 3), some (.int a3), some (.int 27), some (.int y5), some (.int y6), some (.int x246), some (.int x195), some (.int 1), some (.int x210), some (.int x224), some (.int 3), some (.int x191)]) C dX12_bells_279 rfl (by rw [ex246]; rfl) (by decide) rfl rfl ?_
                        refine m_goto (tgt := 138) C dX12_bells_282 (by decide) ?_
                        refine m_sub (L1 := [some (.ref (G.1 22 0)), some (.int a1), some (.int 3), some (.int a3), some (.int 27), some (.int y5), some (.int y6), some (.int x246), none, none, none, none, none, none]) ⟨rfl, ⟨rfl, ⟨rfl, ⟨rfl, ⟨rfl, ⟨rfl, ⟨rfl, ⟨rfl, trivial⟩⟩⟩⟩⟩⟩⟩⟩ ?_
                        exact ih138 τ221 y5 y6 x246 i222 g226 b_a1 b_a3 b_y5 b_y6 (iv_wk b247 (by decide)) (by omega) nL (nB.no (fun g => q245 (h236.mpr g)) (by omega)) (by have q := hm138; omega)
                      · have f248 : x195.toInt = 7 := by
                          have q : _ := c242
                          simp only [ti_nle, ti_nlt, ti_le, ti_lt, ti_eq, ti_ne, Classical.not_not, kt_7] at q
                          omega
                        have b249 : IV x195 7 7 := ⟨by have q1 := b196; have q2 := kc_7; omega, by have q1 := b196; have q2 := kc_7; omega⟩
                        have q250 : x195 = nI (2 ^ 3 - 1) := Int32.toInt_inj.mp (by rw [show (nI (2 ^ 3 - 1)).toInt = 7 by decide]; omega)
                        refine m_iload C dX12_bells_259 rfl ?_
                        refine m_if_lt (tgt := 271) C dX12_bells_261 (by decide) (fun c251 => ?_) (fun c251 => ?_)
                        · have f252 : y5.toInt < 0 := by
                            have q : _ := c251
                            simp only [ti_nle, ti_nlt, ti_le, ti_lt, ti_eq, ti_ne, Classical.not_not, kt_0] at q
                            omega
                          have b253 : IV y5 (-1) (-1) := ⟨by have q1 := b_y5; have q2 := kc_0; omega, by have q1 := b_y5; have q2 := kc_0; omega⟩
                          refine m_iload C dX12_bells_271 rfl ?_
                          refine m_istore (L1 := [some (.ref (G.1 22 0)), some (.int a1), some (.int 3), some (.int a3), some (.int 27), some (.int y7), some (.int y6), some (.int y7), some (.int x195), some (.int 1), some (.int x210), some (.int x224), some (.int 3), some (.int x191)]) C dX12_bells_273 (by decide) rfl rfl ?_
                          refine m_iload C dX12_bells_275 rfl ?_
                          refine m_istore (L1 := [some (.ref (G.1 22 0)), some (.int a1), some (.int 3), some (.int a3), some (.int 27), some (.int y7), some (.int x224), some (.int y7), some (.int x195), some (.int 1), some (.int x210), some (.int x224), some (.int 3), some (.int x191)]) C dX12_bells_277 (by decide) rfl rfl ?_
                          obtain ⟨x254, ex254⟩ : ∃ y : Int32, y = y7 + 1 := ⟨_, rfl⟩
                          have tx254 : x254.toInt = y7.toInt + 1 := by rw [ex254, ti_addv b80 kc_1 (by decide), kt_1]
                          have b255 : IV x254 1 27 := by rw [ex254]; exact iv_add b80 kc_1 (by decide)
                          refine m_iinc (v := x254) (L1 := [some (.ref (G.1 22 0)), some (.int a1), some (.int 3), some (.int a3), some (.int 27), some (.int y7), some (.int x224), some (.int x254), some (.int x195), some (.int 1), some (.int x210), some (.int x224), some (.int 3), some (.int x191)]) C dX12_bells_279 rfl (by rw [ex254]; rfl) (by decide) rfl rfl ?_
                          refine m_goto (tgt := 138) C dX12_bells_282 (by decide) ?_
                          refine m_sub (L1 := [some (.ref (G.1 22 0)), some (.int a1), some (.int 3), some (.int a3), some (.int 27), some (.int y7), some (.int x224), some (.int x254), none, none, none, none, none, none]) ⟨rfl, ⟨rfl, ⟨rfl, ⟨rfl, ⟨rfl, ⟨rfl, ⟨rfl, ⟨rfl, trivial⟩⟩⟩⟩⟩⟩⟩⟩ ?_
                          exact ih138 τ221 y7 x224 x254 i222 g226 b_a1 b_a3 (iv_wk b80 (by decide)) b225 (iv_wk b255 (by decide)) (by omega) nL (BRL.new (m := x224) nB hν (by decide) (by omega) (h236.mp q250) (by omega) h237 (by omega)) (by have q := hm138; omega)
                        · have f256 : 0 ≤ y5.toInt := by
                            have q : _ := c251
                            simp only [ti_nle, ti_nlt, ti_le, ti_lt, ti_eq, ti_ne, Classical.not_not, kt_0] at q
                            omega
                          have b257 : IV y5 0 40 := ⟨by have q1 := kc_0; have q2 := b_y5; omega, by have q1 := kc_0; have q2 := b_y5; omega⟩
                          refine m_iload C dX12_bells_264 rfl ?_
                          refine m_iload C dX12_bells_266 rfl ?_
                          refine m_icmp_ge (tgt := 279) C dX12_bells_268 (by decide) (fun c258 => ?_) (fun c258 => ?_)
                          · have f259 : y6.toInt ≤ x224.toInt := by
                              have q : _ := c258
                              simp only [ti_nle, ti_nlt, ti_le, ti_lt, ti_eq, ti_ne, Classical.not_not] at q
                              omega
                            obtain ⟨x260, ex260⟩ : ∃ y : Int32, y = y7 + 1 := ⟨_, rfl⟩
                            have tx260 : x260.toInt = y7.toInt + 1 := by rw [ex260, ti_addv b80 kc_1 (by decide), kt_1]
                            have b261 : IV x260 1 27 := by rw [ex260]; exact iv_add b80 kc_1 (by decide)
                            refine m_iinc (v := x260) (L1 := [some (.ref (G.1 22 0)), some (.int a1), some (.int 3), some (.int a3), some (.int 27), some (.int y5), some (.int y6), some (.int x260), some (.int x195), some (.int 1), some (.int x210), some (.int x224), some (.int 3), some (.int x191)]) C dX12_bells_279 rfl (by rw [ex260]; rfl) (by decide) rfl rfl ?_
                            refine m_goto (tgt := 138) C dX12_bells_282 (by decide) ?_
                            refine m_sub (L1 := [some (.ref (G.1 22 0)), some (.int a1), some (.int 3), some (.int a3), some (.int 27), some (.int y5), some (.int y6), some (.int x260), none, none, none, none, none, none]) ⟨rfl, ⟨rfl, ⟨rfl, ⟨rfl, ⟨rfl, ⟨rfl, ⟨rfl, ⟨rfl, trivial⟩⟩⟩⟩⟩⟩⟩⟩ ?_
                            exact ih138 τ221 y5 y6 x260 i222 g226 b_a1 b_a3 (iv_wk b257 (by decide)) b_y6 (iv_wk b261 (by decide)) (by omega) nL (BRL.stay (m := x224) nB (h236.mp q250) (by omega) h237 (by omega) (by omega)) (by have q := hm138; omega)
                          · have f262 : x224.toInt < y6.toInt := by
                              have q : _ := c258
                              simp only [ti_nle, ti_nlt, ti_le, ti_lt, ti_eq, ti_ne, Classical.not_not] at q
                              omega
                            have b263 : IV x224 (-2147483648) 2147483646 := ⟨by have q1 := b225; have q2 := b_y6; omega, by have q1 := b225; have q2 := b_y6; omega⟩
                            have b264 : IV y6 (-2147483647) 2147483647 := ⟨by have q1 := b225; have q2 := b_y6; omega, by have q1 := b225; have q2 := b_y6; omega⟩
                            refine m_iload C dX12_bells_271 rfl ?_
                            refine m_istore (L1 := [some (.ref (G.1 22 0)), some (.int a1), some (.int 3), some (.int a3), some (.int 27), some (.int y7), some (.int y6), some (.int y7), some (.int x195), some (.int 1), some (.int x210), some (.int x224), some (.int 3), some (.int x191)]) C dX12_bells_273 (by decide) rfl rfl ?_
                            refine m_iload C dX12_bells_275 rfl ?_
                            refine m_istore (L1 := [some (.ref (G.1 22 0)), some (.int a1), some (.int 3), some (.int a3), some (.int 27), some (.int y7), some (.int x224), some (.int y7), some (.int x195), some (.int 1), some (.int x210), some (.int x224), some (.int 3), some (.int x191)]) C dX12_bells_277 (by decide) rfl rfl ?_
                            obtain ⟨x265, ex265⟩ : ∃ y : Int32, y = y7 + 1 := ⟨_, rfl⟩
                            have tx265 : x265.toInt = y7.toInt + 1 := by rw [ex265, ti_addv b80 kc_1 (by decide), kt_1]
                            have b266 : IV x265 1 27 := by rw [ex265]; exact iv_add b80 kc_1 (by decide)
                            refine m_iinc (v := x265) (L1 := [some (.ref (G.1 22 0)), some (.int a1), some (.int 3), some (.int a3), some (.int 27), some (.int y7), some (.int x224), some (.int x265), some (.int x195), some (.int 1), some (.int x210), some (.int x224), some (.int 3), some (.int x191)]) C dX12_bells_279 rfl (by rw [ex265]; rfl) (by decide) rfl rfl ?_
                            refine m_goto (tgt := 138) C dX12_bells_282 (by decide) ?_
                            refine m_sub (L1 := [some (.ref (G.1 22 0)), some (.int a1), some (.int 3), some (.int a3), some (.int 27), some (.int y7), some (.int x224), some (.int x265), none, none, none, none, none, none]) ⟨rfl, ⟨rfl, ⟨rfl, ⟨rfl, ⟨rfl, ⟨rfl, ⟨rfl, ⟨rfl, trivial⟩⟩⟩⟩⟩⟩⟩⟩ ?_
                            exact ih138 τ221 y7 x224 x265 i222 g226 b_a1 b_a3 (iv_wk b80 (by decide)) (iv_wk b263 (by decide)) (iv_wk b266 (by decide)) (by omega) nL (BRL.new (m := x224) nB hν (by decide) (by omega) (h236.mp q250) (by omega) h237 (by omega)) (by have q := hm138; omega)
                    · first | exact absurd c234 (by decide) | exact absurd (by decide) c234
              · first | exact absurd c147 (by decide) | exact absurd (by decide) c147
  have J61 : ∀ (n : Nat) (τ : Sg) (y4 : Int32), Inv τ → Fr MS_X12_bells_3Z AS_X12_bells_3Z σ τ → IV a1 0 7 → IV a3 (-1) 2147483647 → IV y4 0 3 → (((0 ≤ a1.toInt ∧ a1.toInt ≤ 7) ∧ 1 ≤ (3 : Int) ∧ (3 : Int) ≤ 5 ∧ -1 ≤ a3.toInt ∧ 0 ≤ (gV σ 26 0 (a1.toInt.toNat)).toInt ∧ (3 : Int) ≤ (gV σ 27 0 (a1.toInt.toNat)).toInt)) → (AlJ σ (a1.toInt.toNat) y4.toInt 1 20) → (3 - y4.toInt).toNat < n → MW p l e { frames := 2, cells := 0, slots := 0, locals := 60 } s m args below meth c (MQ below (QP G (PI fun r τ => Inv τ ∧ Fr MS_X12_bells_3Z AS_X12_bells_3Z σ τ ∧ IV r (-2147483648) 2147483647 ∧ (((a1.toInt < 0 ∨ 7 < a1.toInt ∨ (3 : Int) < 1 ∨ 5 < (3 : Int) ∨ a3.toInt < -1) ∧ r.toInt = -1000001) ∨ (((0 ≤ a1.toInt ∧ a1.toInt ≤ 7) ∧ 1 ≤ (3 : Int) ∧ (3 : Int) ≤ 5 ∧ -1 ≤ a3.toInt) ∧ (gV σ 26 0 (a1.toInt.toNat)).toInt < 0 ∧ r.toInt = -1000011) ∨ (((0 ≤ a1.toInt ∧ a1.toInt ≤ 7) ∧ 1 ≤ (3 : Int) ∧ (3 : Int) ≤ 5 ∧ -1 ≤ a3.toInt) ∧ 0 ≤ (gV σ 26 0 (a1.toInt.toNat)).toInt ∧ (gV σ 27 0 (a1.toInt.toNat)).toInt < (3 : Int) ∧ r.toInt = -1000012) ∨ (((0 ≤ a1.toInt ∧ a1.toInt ≤ 7) ∧ 1 ≤ (3 : Int) ∧ (3 : Int) ≤ 5 ∧ -1 ≤ a3.toInt) ∧ 0 ≤ (gV σ 26 0 (a1.toInt.toNat)).toInt ∧ (3 : Int) ≤ (gV σ 27 0 (a1.toInt.toNat)).toInt ∧ ¬ AlJ σ (a1.toInt.toNat) (3 : Int) 1 20 ∧ r.toInt = -1000001) ∨ (((0 ≤ a1.toInt ∧ a1.toInt ≤ 7) ∧ 1 ≤ (3 : Int) ∧ (3 : Int) ≤ 5 ∧ -1 ≤ a3.toInt) ∧ 0 ≤ (gV σ 26 0 (a1.toInt.toNat)).toInt ∧ (3 : Int) ≤ (gV σ 27 0 (a1.toInt.toNat)).toInt ∧ AlJ σ (a1.toInt.toNat) (3 : Int) 1 20 ∧ RESB r a3 3 (bbest (nuJ σ (a1.toInt.toNat) 3) 3))))) args s 0 0 (aG G)) 14 G 0 0 61 [some (.ref (G.1 22 0)), some (.int a1), some (.int 3), some (.int a3), some (.int y4), none, none, none, none, none, none, none, none, none] [] τ := by
    intro n
    induction n with
    | zero => intro τ y4 iτ fτ b_a1 b_a3 b_y4 n269 nL hm; exact absurd hm (Nat.not_lt_zero _)
    | succ n ih61 =>
      intro τ y4 iτ fτ b_a1 b_a3 b_y4 n269 nL hm61
      have u270 : IV (gV τ 27 0 (a1.toInt.toNat)) 0 40 := iτ.1 27 0 (a1.toInt.toNat)
      refine m_iload C dX12_bells_61 rfl ?_
      refine m_iload_n C dX12_bells_63 rfl rfl ?_
      refine m_icmp_ge (tgt := 99) C dX12_bells_64 (by decide) (fun c271 => ?_) (fun c271 => ?_)
      · have f272 : 3 ≤ y4.toInt := by
          have q : _ := c271
          simp only [ti_nle, ti_nlt, ti_le, ti_lt, ti_eq, ti_ne, Classical.not_not, kt_3] at q
          omega
        have b273 : IV y4 3 3 := ⟨by have q1 := kc_3; have q2 := b_y4; omega, by have q1 := kc_3; have q2 := b_y4; omega⟩
        refine m_aload_n C dX12_bells_99 rfl rfl ?_
        refine m_iconst (v := 0) C dX12_bells_100 (by decide) ?_
        refine m_callV (n := 1) (ci := 11) (st := []) C (c_X12_fine l G τ (0) iτ ) (by decide) (by decide) rfl rfl rfl q4_201 q4_198 q4_200 q0_27 q1_7 (by decide +kernel) rfl (by decide) (by decide) rfl (Nat.le_of_ble_eq_true rfl) dX12_bells_101 ?_
        rintro _ τ274 ⟨x277, rfl, i275, f276, b278, h280⟩
        have g279 : Fr MS_X12_bells_3Z AS_X12_bells_3Z σ τ274 := Fr.call (fτ) f276 (by decide)
        have q281 : (gV τ274 26 0 (a1.toInt.toNat)).toInt = (gV τ 26 0 (a1.toInt.toNat)).toInt := congrArg Int32.toInt (show (gV τ274 26 0 (a1.toInt.toNat)) = (gV τ 26 0 (a1.toInt.toNat)) from (show gV τ274 26 0 (a1.toInt.toNat) = (gV τ 26 0 (a1.toInt.toNat)) from (f276.1 26 0 ((a1.toInt.toNat)) (by simp) (by decide)).trans rfl))
        have q282 : (gV τ274 27 0 (a1.toInt.toNat)).toInt = (gV τ 27 0 (a1.toInt.toNat)).toInt := congrArg Int32.toInt (show (gV τ274 27 0 (a1.toInt.toNat)) = (gV τ 27 0 (a1.toInt.toNat)) from (show gV τ274 27 0 (a1.toInt.toNat) = (gV τ 27 0 (a1.toInt.toNat)) from (f276.1 27 0 ((a1.toInt.toNat)) (by simp) (by decide)).trans rfl))
        have q283 := kt_0
        show MW p l e _ s m args below meth c _ 14 G 0 0 104 [some (.ref (G.1 22 0)), some (.int a1), some (.int 3), some (.int a3), some (.int y4), none, none, none, none, none, none, none, none, none] [.int x277] τ274
        refine m_pop C dX12_bells_104 rfl ?_
        refine m_iconst (v := 1) C dX12_bells_105 (by decide) ?_
        refine m_istore (L1 := [some (.ref (G.1 22 0)), some (.int a1), some (.int 3), some (.int a3), some (.int 1), none, none, none, none, none, none, none, none, none]) C dX12_bells_106 (by decide) rfl rfl ?_
        refine m_iconst (v := 0) C dX12_bells_108 (by decide) ?_
        refine m_istore (L1 := [some (.ref (G.1 22 0)), some (.int a1), some (.int 3), some (.int a3), some (.int 1), some (.int 0), none, none, none, none, none, none, none, none]) C dX12_bells_109 (by decide) rfl rfl ?_
        refine m_iload C dX12_bells_111 rfl ?_
        refine m_iload_n C dX12_bells_113 rfl rfl ?_
        refine m_icmp_ge (tgt := 129) C dX12_bells_114 (by decide) (fun c284 => ?_) (fun c284 => ?_)
        · first | exact absurd c284 (by decide) | exact absurd (by decide) c284
        · have f286 : 0 < 3 := by
            have q : _ := c284
            simp only [ti_nle, ti_nlt, ti_le, ti_lt, ti_eq, ti_ne, Classical.not_not, kt_0, kt_3] at q
            omega
          refine m_iload C dX12_bells_117 rfl ?_
          refine m_iload_n C dX12_bells_119 rfl rfl ?_
          refine m_imul C dX12_bells_120 ?_
          refine m_topi (fun x287 ex287 => ?_)
          have b288 : IV x287 3 3 := by rw [ex287]; decide
          have tx287 : x287.toInt = 3 := by rw [ex287]; decide
          obtain rfl : x287 = 3 := by rw [ex287]; decide
          refine m_istore (L1 := [some (.ref (G.1 22 0)), some (.int a1), some (.int 3), some (.int a3), some (.int 3), some (.int 0), none, none, none, none, none, none, none, none]) C dX12_bells_121 (by decide) rfl rfl ?_
          obtain ⟨x289, ex289⟩ : ∃ y : Int32, y = 0 + 1 := ⟨_, rfl⟩
          have b290 : IV x289 1 1 := by rw [ex289]; decide
          have tx289 : x289.toInt = 1 := by rw [ex289]; decide
          obtain rfl : x289 = 1 := by rw [ex289]; decide
          refine m_iinc (v := 1) (L1 := [some (.ref (G.1 22 0)), some (.int a1), some (.int 3), some (.int a3), some (.int 3), some (.int 1), none, none, none, none, none, none, none, none]) C dX12_bells_123 rfl (by decide) (by decide) rfl rfl ?_
          refine m_goto (tgt := 111) C dX12_bells_126 (by decide) ?_
          refine m_iload C dX12_bells_111 rfl ?_
          refine m_iload_n C dX12_bells_113 rfl rfl ?_
          refine m_icmp_ge (tgt := 129) C dX12_bells_114 (by decide) (fun c291 => ?_) (fun c291 => ?_)
          · first | exact absurd c291 (by decide) | exact absurd (by decide) c291
          · have f293 : 1 < 3 := by
              have q : _ := c291
              simp only [ti_nle, ti_nlt, ti_le, ti_lt, ti_eq, ti_ne, Classical.not_not, kt_1, kt_3] at q
              omega
            refine m_iload C dX12_bells_117 rfl ?_
            refine m_iload_n C dX12_bells_119 rfl rfl ?_
            refine m_imul C dX12_bells_120 ?_
            refine m_topi (fun x294 ex294 => ?_)
            have b295 : IV x294 9 9 := by rw [ex294]; decide
            have tx294 : x294.toInt = 9 := by rw [ex294]; decide
            obtain rfl : x294 = 9 := by rw [ex294]; decide
            refine m_istore (L1 := [some (.ref (G.1 22 0)), some (.int a1), some (.int 3), some (.int a3), some (.int 9), some (.int 1), none, none, none, none, none, none, none, none]) C dX12_bells_121 (by decide) rfl rfl ?_
            obtain ⟨x296, ex296⟩ : ∃ y : Int32, y = 1 + 1 := ⟨_, rfl⟩
            have b297 : IV x296 2 2 := by rw [ex296]; decide
            have tx296 : x296.toInt = 2 := by rw [ex296]; decide
            obtain rfl : x296 = 2 := by rw [ex296]; decide
            refine m_iinc (v := 2) (L1 := [some (.ref (G.1 22 0)), some (.int a1), some (.int 3), some (.int a3), some (.int 9), some (.int 2), none, none, none, none, none, none, none, none]) C dX12_bells_123 rfl (by decide) (by decide) rfl rfl ?_
            refine m_goto (tgt := 111) C dX12_bells_126 (by decide) ?_
            refine m_iload C dX12_bells_111 rfl ?_
            refine m_iload_n C dX12_bells_113 rfl rfl ?_
            refine m_icmp_ge (tgt := 129) C dX12_bells_114 (by decide) (fun c298 => ?_) (fun c298 => ?_)
            · first | exact absurd c298 (by decide) | exact absurd (by decide) c298
            · have f300 : 2 < 3 := by
                have q : _ := c298
                simp only [ti_nle, ti_nlt, ti_le, ti_lt, ti_eq, ti_ne, Classical.not_not, kt_2, kt_3] at q
                omega
              refine m_iload C dX12_bells_117 rfl ?_
              refine m_iload_n C dX12_bells_119 rfl rfl ?_
              refine m_imul C dX12_bells_120 ?_
              refine m_topi (fun x301 ex301 => ?_)
              have b302 : IV x301 27 27 := by rw [ex301]; decide
              have tx301 : x301.toInt = 27 := by rw [ex301]; decide
              obtain rfl : x301 = 27 := by rw [ex301]; decide
              refine m_istore (L1 := [some (.ref (G.1 22 0)), some (.int a1), some (.int 3), some (.int a3), some (.int 27), some (.int 2), none, none, none, none, none, none, none, none]) C dX12_bells_121 (by decide) rfl rfl ?_
              obtain ⟨x303, ex303⟩ : ∃ y : Int32, y = 2 + 1 := ⟨_, rfl⟩
              have b304 : IV x303 3 3 := by rw [ex303]; decide
              have tx303 : x303.toInt = 3 := by rw [ex303]; decide
              obtain rfl : x303 = 3 := by rw [ex303]; decide
              refine m_iinc (v := 3) (L1 := [some (.ref (G.1 22 0)), some (.int a1), some (.int 3), some (.int a3), some (.int 27), some (.int 3), none, none, none, none, none, none, none, none]) C dX12_bells_123 rfl (by decide) (by decide) rfl rfl ?_
              refine m_goto (tgt := 111) C dX12_bells_126 (by decide) ?_
              refine m_iload C dX12_bells_111 rfl ?_
              refine m_iload_n C dX12_bells_113 rfl rfl ?_
              refine m_icmp_ge (tgt := 129) C dX12_bells_114 (by decide) (fun c305 => ?_) (fun c305 => ?_)
              · have f306 : 3 ≤ 3 := by
                  have q : _ := c305
                  simp only [ti_nle, ti_nlt, ti_le, ti_lt, ti_eq, ti_ne, Classical.not_not, kt_3, kt_3] at q
                  omega
                refine m_iconst (v := (-1)) C dX12_bells_129 (by decide) ?_
                refine m_istore (L1 := [some (.ref (G.1 22 0)), some (.int a1), some (.int 3), some (.int a3), some (.int 27), some (.int (-1)), none, none, none, none, none, none, none, none]) C dX12_bells_130 (by decide) rfl rfl ?_
                refine m_iconst (v := 0) C dX12_bells_132 (by decide) ?_
                refine m_istore (L1 := [some (.ref (G.1 22 0)), some (.int a1), some (.int 3), some (.int a3), some (.int 27), some (.int (-1)), some (.int 0), none, none, none, none, none, none, none]) C dX12_bells_133 (by decide) rfl rfl ?_
                refine m_iconst (v := 0) C dX12_bells_135 (by decide) ?_
                refine m_istore (L1 := [some (.ref (G.1 22 0)), some (.int a1), some (.int 3), some (.int a3), some (.int 27), some (.int (-1)), some (.int 0), some (.int 0), none, none, none, none, none, none]) C dX12_bells_136 (by decide) rfl rfl ?_
                exact J138 ((27 - (0 : Int32).toInt).toNat + 1) τ274 (-1) 0 0 i275 g279 b_a1 b_a3 (iv_wk kc_m1 (by decide)) (iv_wk kc_0 (by decide)) (iv_wk kc_0 (by decide)) (by omega) (nL.all (by omega)) (Or.inl ⟨by have q := kt_m1; omega, rfl⟩) (Nat.lt_succ_self _)
              · first | exact absurd c305 (by decide) | exact absurd (by decide) c305
      · have f308 : y4.toInt < 3 := by
          have q : _ := c271
          simp only [ti_nle, ti_nlt, ti_le, ti_lt, ti_eq, ti_ne, Classical.not_not, kt_3] at q
          omega
        have b309 : IV y4 0 2 := ⟨by have q1 := b_y4; have q2 := kc_3; omega, by have q1 := b_y4; have q2 := kc_3; omega⟩
        refine m_aload_n C dX12_bells_67 rfl rfl ?_
        refine g_22_2 C q4_118 dX12_bells_68 ?_
        refine m_bipush (v := 40) C dX12_bells_71 (by decide) ?_
        refine m_iload_n C dX12_bells_73 rfl rfl ?_
        refine m_imul C dX12_bells_74 ?_
        refine m_topi (fun x310 ex310 => ?_)
        have tx310 : x310.toInt = 40 * a1.toInt := by rw [ex310, ti_mulv kc_40 b_a1 (by decide), kt_40]
        have b311 : IV x310 0 280 := by rw [ex310]; exact iv_mul kc_40 b_a1 (by decide)
        refine m_iload C dX12_bells_75 rfl ?_
        refine m_iadd C dX12_bells_77 ?_
        refine m_topi (fun x312 ex312 => ?_)
        have tx312 : x312.toInt = x310.toInt + y4.toInt := by rw [ex312, ti_addv b311 b309 (by decide)]
        have b313 : IV x312 0 282 := by rw [ex312]; exact iv_add b311 b309 (by decide)
        refine al_25 C b313 (by decide) rfl dX12_bells_78 ?_
        refine m_topi (fun x314 ex314 => ?_)
        have q315 : (gV σ 25 0 (40 * (a1.toInt.toNat) + y4.toInt.toNat)).toInt = x314.toInt := by rw [show 40 * (a1.toInt.toNat) + y4.toInt.toNat = (x312.toInt.toNat) by omega, ← (fτ).1 25 0 (x312.toInt.toNat) (by simp) (by decide), show gV τ 25 0 (x312.toInt.toNat) = x314 from ex314.symm]
        refine m_i2l C dX12_bells_79 ?_
        refine m_lconst (v := 1) C dX12_bells_80 (by decide) ?_
        refine m_ldc2 (v := 20) C dX12_bells_81 q5_174 ?_
        refine m_callS (n := 3) (st := []) C (c_X12_in l G τ ((x314 : Int32).toInt64) (1) (20) iτ ) q4_190 q4_188 q4_189 q1_7 (by decide +kernel) rfl (by decide) (by decide) rfl (Nat.le_of_ble_eq_true rfl) dX12_bells_84 ?_
        rintro _ τ316 ⟨x319, rfl, i317, f318, b320, h322⟩
        have g321 : Fr MS_X12_bells_3Z AS_X12_bells_3Z σ τ316 := Fr.call (fτ) f318 (by decide)
        have q323 : (gV τ316 26 0 (a1.toInt.toNat)).toInt = (gV τ 26 0 (a1.toInt.toNat)).toInt := congrArg Int32.toInt (show (gV τ316 26 0 (a1.toInt.toNat)) = (gV τ 26 0 (a1.toInt.toNat)) from (show gV τ316 26 0 (a1.toInt.toNat) = (gV τ 26 0 (a1.toInt.toNat)) from (f318.1 26 0 ((a1.toInt.toNat)) (by simp) (by decide)).trans rfl))
        have q324 : (gV τ316 27 0 (a1.toInt.toNat)).toInt = (gV τ 27 0 (a1.toInt.toNat)).toInt := congrArg Int32.toInt (show (gV τ316 27 0 (a1.toInt.toNat)) = (gV τ 27 0 (a1.toInt.toNat)) from (show gV τ316 27 0 (a1.toInt.toNat) = (gV τ 27 0 (a1.toInt.toNat)) from (f318.1 27 0 ((a1.toInt.toNat)) (by simp) (by decide)).trans rfl))
        have f325 := tl_i x314
        have f326 := kl_1
        have f327 := kl_20
        rcases h322 with ⟨h322_0, h322_1, h322_2⟩ | ⟨h322_0, h322_1⟩
        · skip
          have b328 : IV x319 1 1 := ⟨by omega, by omega⟩
          show MW p l e _ s m args below meth c _ 14 G 0 0 87 [some (.ref (G.1 22 0)), some (.int a1), some (.int 3), some (.int a3), some (.int y4), none, none, none, none, none, none, none, none, none] [.int x319] τ316
          refine m_if_ne (tgt := 93) C dX12_bells_87 (by decide) (fun c329 => ?_) (fun c329 => ?_)
          · have f330 : x319.toInt ≠ 0 := by
              have q : _ := c329
              simp only [ti_nle, ti_nlt, ti_le, ti_lt, ti_eq, ti_ne, Classical.not_not, kt_0] at q
              omega
            have b331 : IV x314 1 20 := ⟨by have q1 := (iv_any x314); omega, by have q1 := (iv_any x314); omega⟩
            obtain ⟨x332, ex332⟩ : ∃ y : Int32, y = y4 + 1 := ⟨_, rfl⟩
            have tx332 : x332.toInt = y4.toInt + 1 := by rw [ex332, ti_addv b309 kc_1 (by decide), kt_1]
            have b333 : IV x332 1 3 := by rw [ex332]; exact iv_add b309 kc_1 (by decide)
            refine m_iinc (v := x332) (L1 := [some (.ref (G.1 22 0)), some (.int a1), some (.int 3), some (.int a3), some (.int x332), none, none, none, none, none, none, none, none, none]) C dX12_bells_93 rfl (by rw [ex332]; rfl) (by decide) rfl rfl ?_
            refine m_goto (tgt := 61) C dX12_bells_96 (by decide) ?_
            exact ih61 τ316 x332 i317 g321 b_a1 b_a3 (iv_wk b333 (by decide)) (by omega) (nL.more (k := y4.toInt.toNat) (by omega) (by omega) ⟨by omega, by omega⟩) (by have q := hm61; omega)
          · exfalso
            have q : _ := c329
            simp only [ti_nle, ti_nlt, ti_le, ti_lt, ti_eq, ti_ne, Classical.not_not, kt_0] at q
            have q1 := b328; have q2 := kc_0; omega
        · skip
          have b335 : IV x319 0 0 := ⟨by omega, by omega⟩
          show MW p l e _ s m args below meth c _ 14 G 0 0 87 [some (.ref (G.1 22 0)), some (.int a1), some (.int 3), some (.int a3), some (.int y4), none, none, none, none, none, none, none, none, none] [.int x319] τ316
          refine m_if_ne (tgt := 93) C dX12_bells_87 (by decide) (fun c336 => ?_) (fun c336 => ?_)
          · exfalso
            have q : _ := c336
            simp only [ti_nle, ti_nlt, ti_le, ti_lt, ti_eq, ti_ne, Classical.not_not, kt_0] at q
            have q1 := b335; have q2 := kc_0; omega
          · have f338 : x319.toInt = 0 := by
              have q : _ := c336
              simp only [ti_nle, ti_nlt, ti_le, ti_lt, ti_eq, ti_ne, Classical.not_not, kt_0] at q
              omega
            refine m_ldc (v := (-1000001)) C dX12_bells_90 q4_192 ?_
            exact m_iret C hr hlk (by decide) (by decide) dX12_bells_92 ⟨_, rfl, i317, g321, (iv_wk kc_m1000001 (by decide)), (Or.inr (Or.inr (Or.inr (Or.inl ⟨by have qk := kt_m1000001; omega, by have qk := kt_m1000001; omega, by have qk := kt_m1000001; omega, (fun g => by have q := g y4.toInt.toNat (by omega); omega), by have qk := kt_m1000001; omega⟩))))⟩
  have u339 : IV (gV σ 27 0 (a1.toInt.toNat)) 0 40 := hI.1 27 0 (a1.toInt.toNat)
  refine m_iload_n C dX12_bells_0 rfl rfl ?_
  refine m_callS (n := 1) (st := []) C (c_X12_isRow l G σ (a1) hI ) q4_186 q4_184 q4_185 q1_7 (by decide +kernel) rfl (by decide) (by decide) rfl (Nat.le_of_ble_eq_true rfl) dX12_bells_1 ?_
  rintro _ τ340 ⟨x343, rfl, i341, f342, b344, h346⟩
  have g345 : Fr MS_X12_bells_3Z AS_X12_bells_3Z σ τ340 := Fr.call (Fr.rf) f342 (by decide)
  have q347 : (gV τ340 26 0 (a1.toInt.toNat)).toInt = (gV σ 26 0 (a1.toInt.toNat)).toInt := congrArg Int32.toInt (show (gV τ340 26 0 (a1.toInt.toNat)) = (gV σ 26 0 (a1.toInt.toNat)) from (show gV τ340 26 0 (a1.toInt.toNat) = (gV σ 26 0 (a1.toInt.toNat)) from (f342.1 26 0 ((a1.toInt.toNat)) (by simp) (by decide)).trans rfl))
  have q348 : (gV τ340 27 0 (a1.toInt.toNat)).toInt = (gV σ 27 0 (a1.toInt.toNat)).toInt := congrArg Int32.toInt (show (gV τ340 27 0 (a1.toInt.toNat)) = (gV σ 27 0 (a1.toInt.toNat)) from (show gV τ340 27 0 (a1.toInt.toNat) = (gV σ 27 0 (a1.toInt.toNat)) from (f342.1 27 0 ((a1.toInt.toNat)) (by simp) (by decide)).trans rfl))
  rcases h346 with ⟨h346_0, h346_1, h346_2⟩ | ⟨h346_0, h346_1⟩
  · skip
    have b349 : IV x343 1 1 := ⟨by omega, by omega⟩
    show MW p l e _ s m args below meth c _ 14 G 0 0 4 [some (.ref (G.1 22 0)), some (.int a1), some (.int 3), some (.int a3), none, none, none, none, none, none, none, none, none, none] [.int x343] τ340
    refine m_if_eq (tgt := 24) C dX12_bells_4 (by decide) (fun c350 => ?_) (fun c350 => ?_)
    · exfalso
      have q : _ := c350
      simp only [ti_nle, ti_nlt, ti_le, ti_lt, ti_eq, ti_ne, Classical.not_not, kt_0] at q
      have q1 := b349; have q2 := kc_0; omega
    · have f352 : x343.toInt ≠ 0 := by
        have q : _ := c350
        simp only [ti_nle, ti_nlt, ti_le, ti_lt, ti_eq, ti_ne, Classical.not_not, kt_0] at q
        omega
      have b353 : IV a1 0 7 := ⟨by have q1 := (iv_any a1); omega, by have q1 := (iv_any a1); omega⟩
      refine m_iload_n C dX12_bells_7 rfl rfl ?_
      refine m_i2l C dX12_bells_8 ?_
      refine m_lconst (v := 1) C dX12_bells_9 (by decide) ?_
      refine m_ldc2 (v := 5) C dX12_bells_10 q5_173 ?_
      refine m_callS (n := 3) (st := []) C (c_X12_in l G τ340 ((3 : Int32).toInt64) (1) (5) i341 ) q4_190 q4_188 q4_189 q1_7 (by decide +kernel) rfl (by decide) (by decide) rfl (Nat.le_of_ble_eq_true rfl) dX12_bells_13 ?_
      rintro _ τ354 ⟨x357, rfl, i355, f356, b358, h360⟩
      have g359 : Fr MS_X12_bells_3Z AS_X12_bells_3Z σ τ354 := Fr.call (g345) f356 (by decide)
      have q361 : (gV τ354 26 0 (a1.toInt.toNat)).toInt = (gV σ 26 0 (a1.toInt.toNat)).toInt := congrArg Int32.toInt (show (gV τ354 26 0 (a1.toInt.toNat)) = (gV σ 26 0 (a1.toInt.toNat)) from (show gV τ354 26 0 (a1.toInt.toNat) = (gV σ 26 0 (a1.toInt.toNat)) from (f356.1 26 0 ((a1.toInt.toNat)) (by simp) (by decide)).trans (show gV τ340 26 0 (a1.toInt.toNat) = (gV σ 26 0 (a1.toInt.toNat)) from (f342.1 26 0 ((a1.toInt.toNat)) (by simp) (by decide)).trans rfl)))
      have q362 : (gV τ354 27 0 (a1.toInt.toNat)).toInt = (gV σ 27 0 (a1.toInt.toNat)).toInt := congrArg Int32.toInt (show (gV τ354 27 0 (a1.toInt.toNat)) = (gV σ 27 0 (a1.toInt.toNat)) from (show gV τ354 27 0 (a1.toInt.toNat) = (gV σ 27 0 (a1.toInt.toNat)) from (f356.1 27 0 ((a1.toInt.toNat)) (by simp) (by decide)).trans (show gV τ340 27 0 (a1.toInt.toNat) = (gV σ 27 0 (a1.toInt.toNat)) from (f342.1 27 0 ((a1.toInt.toNat)) (by simp) (by decide)).trans rfl)))
      have f363 := tl_i 3
      have kf363 := kt_3
      have f364 := kl_1
      have f365 := kl_5
      rcases h360 with ⟨h360_0, h360_1, h360_2⟩ | ⟨h360_0, h360_1⟩
      · skip
        have b366 : IV x357 1 1 := ⟨by omega, by omega⟩
        show MW p l e _ s m args below meth c _ 14 G 0 0 16 [some (.ref (G.1 22 0)), some (.int a1), some (.int 3), some (.int a3), none, none, none, none, none, none, none, none, none, none] [.int x357] τ354
        refine m_if_eq (tgt := 24) C dX12_bells_16 (by decide) (fun c367 => ?_) (fun c367 => ?_)
        · exfalso
          have q : _ := c367
          simp only [ti_nle, ti_nlt, ti_le, ti_lt, ti_eq, ti_ne, Classical.not_not, kt_0] at q
          have q1 := b366; have q2 := kc_0; omega
        · have f369 : x357.toInt ≠ 0 := by
            have q : _ := c367
            simp only [ti_nle, ti_nlt, ti_le, ti_lt, ti_eq, ti_ne, Classical.not_not, kt_0] at q
            omega
          refine m_iload_n C dX12_bells_19 rfl rfl ?_
          refine m_iconst (v := (-1)) C dX12_bells_20 (by decide) ?_
          refine m_icmp_ge (tgt := 27) C dX12_bells_21 (by decide) (fun c370 => ?_) (fun c370 => ?_)
          · have f371 : -1 ≤ a3.toInt := by
              have q : _ := c370
              simp only [ti_nle, ti_nlt, ti_le, ti_lt, ti_eq, ti_ne, Classical.not_not, kt_m1] at q
              omega
            have b372 : IV a3 (-1) 2147483647 := ⟨by have q1 := kc_m1; have q2 := (iv_any a3); omega, by have q1 := kc_m1; have q2 := (iv_any a3); omega⟩
            refine m_aload_n C dX12_bells_27 rfl rfl ?_
            refine g_22_3 C q4_119 dX12_bells_28 ?_
            refine m_iload_n C dX12_bells_31 rfl rfl ?_
            refine al_26 C b353 (by decide) rfl dX12_bells_32 ?_
            refine m_eqs (w := (gV σ 26 0 (a1.toInt.toNat))) (show gV τ354 26 0 (a1.toInt.toNat) = (gV σ 26 0 (a1.toInt.toNat)) from (f356.1 26 0 ((a1.toInt.toNat)) (by simp) (by decide)).trans (show gV τ340 26 0 (a1.toInt.toNat) = (gV σ 26 0 (a1.toInt.toNat)) from (f342.1 26 0 ((a1.toInt.toNat)) (by simp) (by decide)).trans rfl)) ?_
            refine m_if_ge (tgt := 42) C dX12_bells_33 (by decide) (fun c373 => ?_) (fun c373 => ?_)
            · have f374 : 0 ≤ (gV σ 26 0 (a1.toInt.toNat)).toInt := by
                have q : _ := c373
                simp only [ti_nle, ti_nlt, ti_le, ti_lt, ti_eq, ti_ne, Classical.not_not, kt_0] at q
                omega
              have b375 : IV (gV σ 26 0 (a1.toInt.toNat)) 0 2147483647 := ⟨by have q1 := kc_0; have q2 := (iv_any (gV σ 26 0 (a1.toInt.toNat))); omega, by have q1 := kc_0; have q2 := (iv_any (gV σ 26 0 (a1.toInt.toNat))); omega⟩
              refine m_aload_n C dX12_bells_42 rfl rfl ?_
              refine g_22_4 C q4_120 dX12_bells_43 ?_
              refine m_iload_n C dX12_bells_46 rfl rfl ?_
              refine al_27 C b353 (by decide) rfl dX12_bells_47 ?_
              refine m_eqs (w := (gV σ 27 0 (a1.toInt.toNat))) (show gV τ354 27 0 (a1.toInt.toNat) = (gV σ 27 0 (a1.toInt.toNat)) from (f356.1 27 0 ((a1.toInt.toNat)) (by simp) (by decide)).trans (show gV τ340 27 0 (a1.toInt.toNat) = (gV σ 27 0 (a1.toInt.toNat)) from (f342.1 27 0 ((a1.toInt.toNat)) (by simp) (by decide)).trans rfl)) ?_
              refine m_iload_n C dX12_bells_48 rfl rfl ?_
              refine m_icmp_ge (tgt := 58) C dX12_bells_49 (by decide) (fun c376 => ?_) (fun c376 => ?_)
              · have f377 : 3 ≤ (gV σ 27 0 (a1.toInt.toNat)).toInt := by
                  have q : _ := c376
                  simp only [ti_nle, ti_nlt, ti_le, ti_lt, ti_eq, ti_ne, Classical.not_not, kt_3] at q
                  omega
                have b378 : IV (gV σ 27 0 (a1.toInt.toNat)) 3 40 := ⟨by have q1 := kc_3; have q2 := u339; omega, by have q1 := kc_3; have q2 := u339; omega⟩
                refine m_iconst (v := 0) C dX12_bells_58 (by decide) ?_
                refine m_istore (L1 := [some (.ref (G.1 22 0)), some (.int a1), some (.int 3), some (.int a3), some (.int 0), none, none, none, none, none, none, none, none, none]) C dX12_bells_59 (by decide) rfl rfl ?_
                exact J61 ((3 - (0 : Int32).toInt).toNat + 1) τ354 0 i355 g359 b353 b372 (iv_wk kc_0 (by decide)) (by omega) (AlJ.zero (by have q := kt_0; omega)) (Nat.lt_succ_self _)
              · have f379 : (gV σ 27 0 (a1.toInt.toNat)).toInt < 3 := by
                  have q : _ := c376
                  simp only [ti_nle, ti_nlt, ti_le, ti_lt, ti_eq, ti_ne, Classical.not_not, kt_3] at q
                  omega
                have b380 : IV (gV σ 27 0 (a1.toInt.toNat)) 0 2 := ⟨by have q1 := u339; have q2 := kc_3; omega, by have q1 := u339; have q2 := kc_3; omega⟩
                refine m_aload_n C dX12_bells_52 rfl rfl ?_
                refine m_iconst (v := 2) C dX12_bells_53 (by decide) ?_
                refine m_callV (n := 1) (ci := 11) (st := []) C (c_X12_met l G τ354 (2) i355 (iv_wk kc_2 (by decide))) (by decide) (by decide) rfl rfl rfl q4_196 q4_193 q4_195 q0_26 q1_7 (by decide +kernel) rfl (by decide) (by decide) rfl (Nat.le_of_ble_eq_true rfl) dX12_bells_54 ?_
                rintro _ τ381 ⟨x384, rfl, i382, f383, b385, h387⟩
                have g386 : Fr MS_X12_bells_3Z AS_X12_bells_3Z σ τ381 := Fr.call (g359) f383 (by decide)
                have q388 : (gV τ381 26 0 (a1.toInt.toNat)).toInt = (gV σ 26 0 (a1.toInt.toNat)).toInt := congrArg Int32.toInt (show (gV τ381 26 0 (a1.toInt.toNat)) = (gV σ 26 0 (a1.toInt.toNat)) from (show gV τ381 26 0 (a1.toInt.toNat) = (gV σ 26 0 (a1.toInt.toNat)) from (f383.1 26 0 ((a1.toInt.toNat)) (by simp) (by decide)).trans (show gV τ354 26 0 (a1.toInt.toNat) = (gV σ 26 0 (a1.toInt.toNat)) from (f356.1 26 0 ((a1.toInt.toNat)) (by simp) (by decide)).trans (show gV τ340 26 0 (a1.toInt.toNat) = (gV σ 26 0 (a1.toInt.toNat)) from (f342.1 26 0 ((a1.toInt.toNat)) (by simp) (by decide)).trans rfl))))
                have q389 : (gV τ381 27 0 (a1.toInt.toNat)).toInt = (gV σ 27 0 (a1.toInt.toNat)).toInt := congrArg Int32.toInt (show (gV τ381 27 0 (a1.toInt.toNat)) = (gV σ 27 0 (a1.toInt.toNat)) from (show gV τ381 27 0 (a1.toInt.toNat) = (gV σ 27 0 (a1.toInt.toNat)) from (f383.1 27 0 ((a1.toInt.toNat)) (by simp) (by decide)).trans (show gV τ354 27 0 (a1.toInt.toNat) = (gV σ 27 0 (a1.toInt.toNat)) from (f356.1 27 0 ((a1.toInt.toNat)) (by simp) (by decide)).trans (show gV τ340 27 0 (a1.toInt.toNat) = (gV σ 27 0 (a1.toInt.toNat)) from (f342.1 27 0 ((a1.toInt.toNat)) (by simp) (by decide)).trans rfl))))
                have q390 := kt_2
                show MW p l e _ s m args below meth c _ 14 G 0 0 57 [some (.ref (G.1 22 0)), some (.int a1), some (.int 3), some (.int a3), none, none, none, none, none, none, none, none, none, none] [.int x384] τ381
                exact m_iret C hr hlk (by decide) (by decide) dX12_bells_57 ⟨_, rfl, i382, g386, (iv_wk b385 (by decide)), (Or.inr (Or.inr (Or.inl ⟨by omega, by omega, by omega, by omega⟩)))⟩
            · have f391 : (gV σ 26 0 (a1.toInt.toNat)).toInt < 0 := by
                have q : _ := c373
                simp only [ti_nle, ti_nlt, ti_le, ti_lt, ti_eq, ti_ne, Classical.not_not, kt_0] at q
                omega
              have b392 : IV (gV σ 26 0 (a1.toInt.toNat)) (-2147483648) (-1) := ⟨by have q1 := (iv_any (gV σ 26 0 (a1.toInt.toNat))); have q2 := kc_0; omega, by have q1 := (iv_any (gV σ 26 0 (a1.toInt.toNat))); have q2 := kc_0; omega⟩
              refine m_aload_n C dX12_bells_36 rfl rfl ?_
              refine m_iconst (v := 1) C dX12_bells_37 (by decide) ?_
              refine m_callV (n := 1) (ci := 11) (st := []) C (c_X12_met l G τ354 (1) i355 (iv_wk kc_1 (by decide))) (by decide) (by decide) rfl rfl rfl q4_196 q4_193 q4_195 q0_26 q1_7 (by decide +kernel) rfl (by decide) (by decide) rfl (Nat.le_of_ble_eq_true rfl) dX12_bells_38 ?_
              rintro _ τ393 ⟨x396, rfl, i394, f395, b397, h399⟩
              have g398 : Fr MS_X12_bells_3Z AS_X12_bells_3Z σ τ393 := Fr.call (g359) f395 (by decide)
              have q400 : (gV τ393 26 0 (a1.toInt.toNat)).toInt = (gV σ 26 0 (a1.toInt.toNat)).toInt := congrArg Int32.toInt (show (gV τ393 26 0 (a1.toInt.toNat)) = (gV σ 26 0 (a1.toInt.toNat)) from (show gV τ393 26 0 (a1.toInt.toNat) = (gV σ 26 0 (a1.toInt.toNat)) from (f395.1 26 0 ((a1.toInt.toNat)) (by simp) (by decide)).trans (show gV τ354 26 0 (a1.toInt.toNat) = (gV σ 26 0 (a1.toInt.toNat)) from (f356.1 26 0 ((a1.toInt.toNat)) (by simp) (by decide)).trans (show gV τ340 26 0 (a1.toInt.toNat) = (gV σ 26 0 (a1.toInt.toNat)) from (f342.1 26 0 ((a1.toInt.toNat)) (by simp) (by decide)).trans rfl))))
              have q401 : (gV τ393 27 0 (a1.toInt.toNat)).toInt = (gV σ 27 0 (a1.toInt.toNat)).toInt := congrArg Int32.toInt (show (gV τ393 27 0 (a1.toInt.toNat)) = (gV σ 27 0 (a1.toInt.toNat)) from (show gV τ393 27 0 (a1.toInt.toNat) = (gV σ 27 0 (a1.toInt.toNat)) from (f395.1 27 0 ((a1.toInt.toNat)) (by simp) (by decide)).trans (show gV τ354 27 0 (a1.toInt.toNat) = (gV σ 27 0 (a1.toInt.toNat)) from (f356.1 27 0 ((a1.toInt.toNat)) (by simp) (by decide)).trans (show gV τ340 27 0 (a1.toInt.toNat) = (gV σ 27 0 (a1.toInt.toNat)) from (f342.1 27 0 ((a1.toInt.toNat)) (by simp) (by decide)).trans rfl))))
              have q402 := kt_1
              show MW p l e _ s m args below meth c _ 14 G 0 0 41 [some (.ref (G.1 22 0)), some (.int a1), some (.int 3), some (.int a3), none, none, none, none, none, none, none, none, none, none] [.int x396] τ393
              exact m_iret C hr hlk (by decide) (by decide) dX12_bells_41 ⟨_, rfl, i394, g398, (iv_wk b397 (by decide)), (Or.inr (Or.inl ⟨by omega, by omega, by omega⟩))⟩
          · have f403 : a3.toInt < -1 := by
              have q : _ := c370
              simp only [ti_nle, ti_nlt, ti_le, ti_lt, ti_eq, ti_ne, Classical.not_not, kt_m1] at q
              omega
            have b404 : IV a3 (-2147483648) (-2) := ⟨by have q1 := (iv_any a3); have q2 := kc_m1; omega, by have q1 := (iv_any a3); have q2 := kc_m1; omega⟩
            refine m_ldc (v := (-1000001)) C dX12_bells_24 q4_192 ?_
            exact m_iret C hr hlk (by decide) (by decide) dX12_bells_26 ⟨_, rfl, i355, g359, (iv_wk kc_m1000001 (by decide)), (Or.inl ⟨by have qk := kt_m1000001; omega, by have qk := kt_m1000001; omega⟩)⟩
      · skip
        have b405 : IV x357 0 0 := ⟨by omega, by omega⟩
        show MW p l e _ s m args below meth c _ 14 G 0 0 16 [some (.ref (G.1 22 0)), some (.int a1), some (.int 3), some (.int a3), none, none, none, none, none, none, none, none, none, none] [.int x357] τ354
        refine m_if_eq (tgt := 24) C dX12_bells_16 (by decide) (fun c406 => ?_) (fun c406 => ?_)
        · have f407 : x357.toInt = 0 := by
            have q : _ := c406
            simp only [ti_nle, ti_nlt, ti_le, ti_lt, ti_eq, ti_ne, Classical.not_not, kt_0] at q
            omega
          refine m_ldc (v := (-1000001)) C dX12_bells_24 q4_192 ?_
          exact m_iret C hr hlk (by decide) (by decide) dX12_bells_26 ⟨_, rfl, i355, g359, (iv_wk kc_m1000001 (by decide)), (Or.inl ⟨by have qk := kt_m1000001; omega, by have qk := kt_m1000001; omega⟩)⟩
        · exfalso
          have q : _ := c406
          simp only [ti_nle, ti_nlt, ti_le, ti_lt, ti_eq, ti_ne, Classical.not_not, kt_0] at q
          have q1 := b405; have q2 := kc_0; omega
  · skip
    have b409 : IV x343 0 0 := ⟨by omega, by omega⟩
    show MW p l e _ s m args below meth c _ 14 G 0 0 4 [some (.ref (G.1 22 0)), some (.int a1), some (.int 3), some (.int a3), none, none, none, none, none, none, none, none, none, none] [.int x343] τ340
    refine m_if_eq (tgt := 24) C dX12_bells_4 (by decide) (fun c410 => ?_) (fun c410 => ?_)
    · have f411 : x343.toInt = 0 := by
        have q : _ := c410
        simp only [ti_nle, ti_nlt, ti_le, ti_lt, ti_eq, ti_ne, Classical.not_not, kt_0] at q
        omega
      refine m_ldc (v := (-1000001)) C dX12_bells_24 q4_192 ?_
      exact m_iret C hr hlk (by decide) (by decide) dX12_bells_26 ⟨_, rfl, i341, g345, (iv_wk kc_m1000001 (by decide)), (Or.inl ⟨by have qk := kt_m1000001; omega, by have qk := kt_m1000001; omega⟩)⟩
    · exfalso
      have q : _ := c410
      simp only [ti_nle, ti_nlt, ti_le, ti_lt, ti_eq, ti_ne, Classical.not_not, kt_0] at q
      have q1 := b409; have q2 := kc_0; omega
