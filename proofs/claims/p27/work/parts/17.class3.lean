abbrev MS_X11_rowAt : List (Nat × Nat) := []
abbrev AS_X11_rowAt : List Nat := []
set_option maxHeartbeats 4000000 in
set_option maxRecDepth 100000 in
theorem c_X11_rowAt (l : Launch) (G : Gt) (σ : Sg) (a1 : Int32) (hI : Inv σ) : Mc l G yX11_rowAt cX11_rowAt 2 (some (.object "LeanTower$Row")) 0 0 0 0 [.ref (G.1 0 0), .int a1] σ (PR fun x τ => Inv τ ∧ Fr MS_X11_rowAt AS_X11_rowAt σ τ ∧ ((x = .null ∧ (a1.toInt < 0 ∨ 7 < a1.toInt)) ∨ (x = .ref (G.1 20 a1.toInt.toNat) ∧ 0 ≤ a1.toInt ∧ a1.toInt ≤ 7))) := by
  refine Mc.of (L0 := [some (.ref (G.1 0 0)), some (.int a1)]) (by decide) (Nat.le_of_ble_eq_true rfl) rfl ?_
  intro p e s m args below meth c C hr hlk
  have C : Cx p s m args c cX11_rowAt 2 "LeanTower" := C
  have k0 : (0 : Int32).toInt = 0 := by decide
  have k1 : (1 : Int32).toInt = 1 := by decide
  refine m_iload_n C dX11_rowAt_0 rfl rfl ?_
  refine m_if_lt (tgt := 10) C dX11_rowAt_1 (by decide) (fun c1 => ?_) (fun c1 => ?_)
  · have f2 : a1.toInt < 0 := by
      have q : _ := c1
      simp only [ti_nle, ti_nlt, ti_le, ti_lt, ti_eq, ti_ne, Classical.not_not, kt_0] at q
      omega
    have b3 : IV a1 (-2147483648) (-1) := ⟨by have q1 := (iv_any a1); have q2 := kc_0; omega, by have q1 := (iv_any a1); have q2 := kc_0; omega⟩
    refine m_null C dX11_rowAt_10 ?_
    refine m_goto (tgt := 20) C dX11_rowAt_11 (by decide) ?_
    exact m_aret C hr (Or.inl rfl) hlk (by decide) (by decide) dX11_rowAt_20 ⟨_, rfl, hI, Fr.rf, (Or.inl ⟨rfl, by omega⟩)⟩
  · have f4 : 0 ≤ a1.toInt := by
      have q : _ := c1
      simp only [ti_nle, ti_nlt, ti_le, ti_lt, ti_eq, ti_ne, Classical.not_not, kt_0] at q
      omega
    have b5 : IV a1 0 2147483647 := ⟨by have q1 := kc_0; have q2 := (iv_any a1); omega, by have q1 := kc_0; have q2 := (iv_any a1); omega⟩
    refine m_iload_n C dX11_rowAt_4 rfl rfl ?_
    refine m_bipush (v := 8) C dX11_rowAt_5 (by decide) ?_
    refine m_icmp_lt (tgt := 14) C dX11_rowAt_7 (by decide) (fun c6 => ?_) (fun c6 => ?_)
    · have f7 : a1.toInt < 8 := by
        have q : _ := c6
        simp only [ti_nle, ti_nlt, ti_le, ti_lt, ti_eq, ti_ne, Classical.not_not, kt_8] at q
        omega
      have b8 : IV a1 0 7 := ⟨by have q1 := b5; have q2 := kc_8; omega, by have q1 := b5; have q2 := kc_8; omega⟩
      refine m_aload_n C dX11_rowAt_14 rfl rfl ?_
      refine g_0_0 C q1_186 dX11_rowAt_15 ?_
      refine m_iload_n C dX11_rowAt_18 rfl rfl ?_
      refine al_7 (n := (a1.toInt.toNat)) C b8 (by decide) rfl dX11_rowAt_19 ?_
      exact m_aret C hr (Or.inr ⟨_, rfl⟩) hlk (by decide) (by decide) dX11_rowAt_20 ⟨_, rfl, hI, Fr.rf, (Or.inr ⟨rfl, by omega⟩)⟩
    · have f9 : 8 ≤ a1.toInt := by
        have q : _ := c6
        simp only [ti_nle, ti_nlt, ti_le, ti_lt, ti_eq, ti_ne, Classical.not_not, kt_8] at q
        omega
      have b10 : IV a1 8 2147483647 := ⟨by have q1 := kc_8; have q2 := b5; omega, by have q1 := kc_8; have q2 := b5; omega⟩
      refine m_null C dX11_rowAt_10 ?_
      refine m_goto (tgt := 20) C dX11_rowAt_11 (by decide) ?_
      exact m_aret C hr (Or.inl rfl) hlk (by decide) (by decide) dX11_rowAt_20 ⟨_, rfl, hI, Fr.rf, (Or.inl ⟨rfl, by omega⟩)⟩

abbrev MS_X11_rowsThere : List (Nat × Nat) := []
abbrev AS_X11_rowsThere : List Nat := []
set_option maxHeartbeats 4000000 in
set_option maxRecDepth 100000 in
theorem c_X11_rowsThere (l : Launch) (G : Gt) (σ : Sg) (hI : Inv σ) : Mc l G yX11_rowsThere cX11_rowsThere 3 (some .int) 1 20 0 0 [.ref (G.1 0 0)] σ (PI fun r τ => Inv τ ∧ Fr MS_X11_rowsThere AS_X11_rowsThere σ τ ∧ IV r (-2147483648) 2147483647) := by
  refine Mc.of (L0 := [some (.ref (G.1 0 0)), none, none]) (by decide) (Nat.le_of_ble_eq_true rfl) rfl ?_
  intro p e s m args below meth c C hr hlk
  have C : Cx p s m args c cX11_rowsThere 3 "LeanTower" := C
  have k0 : (0 : Int32).toInt = 0 := by decide
  have k1 : (1 : Int32).toInt = 1 := by decide
  have J4 : ∀ (n : Nat) (τ : Sg) (y1 : Int32) (y2 : Int32), Inv τ → Fr MS_X11_rowsThere AS_X11_rowsThere σ τ → IV y1 (-2147483648) 2147483647 → IV y2 0 8 → (8 - y2.toInt).toNat < n → MW p l e { frames := 1, cells := 0, slots := 0, locals := 20 } s m args below meth c (MQ below (QP G (PI fun r τ => Inv τ ∧ Fr MS_X11_rowsThere AS_X11_rowsThere σ τ ∧ IV r (-2147483648) 2147483647)) args s 0 0 (aG G)) 3 G 0 0 4 [some (.ref (G.1 0 0)), some (.int y1), some (.int y2)] [] τ := by
    intro n
    induction n with
    | zero => intro τ y1 y2 iτ fτ b_y1 b_y2 hm; exact absurd hm (Nat.not_lt_zero _)
    | succ n ih4 =>
      intro τ y1 y2 iτ fτ b_y1 b_y2 hm4
      refine m_iload_n C dX11_rowsThere_4 rfl rfl ?_
      refine m_bipush (v := 8) C dX11_rowsThere_5 (by decide) ?_
      refine m_icmp_ge (tgt := 31) C dX11_rowsThere_7 (by decide) (fun c1 => ?_) (fun c1 => ?_)
      · have f2 : 8 ≤ y2.toInt := by
          have q : _ := c1
          simp only [ti_nle, ti_nlt, ti_le, ti_lt, ti_eq, ti_ne, Classical.not_not, kt_8] at q
          omega
        have b3 : IV y2 8 8 := ⟨by have q1 := kc_8; have q2 := b_y2; omega, by have q1 := kc_8; have q2 := b_y2; omega⟩
        refine m_iload_n C dX11_rowsThere_31 rfl rfl ?_
        exact m_iret C hr hlk (by decide) (by decide) dX11_rowsThere_32 ⟨_, rfl, iτ, fτ, b_y1⟩
      · have f4 : y2.toInt < 8 := by
          have q : _ := c1
          simp only [ti_nle, ti_nlt, ti_le, ti_lt, ti_eq, ti_ne, Classical.not_not, kt_8] at q
          omega
        have b5 : IV y2 0 7 := ⟨by have q1 := b_y2; have q2 := kc_8; omega, by have q1 := b_y2; have q2 := kc_8; omega⟩
        refine m_aload_n C dX11_rowsThere_10 rfl rfl ?_
        refine g_0_0 C q1_186 dX11_rowsThere_11 ?_
        refine m_iload_n C dX11_rowsThere_14 rfl rfl ?_
        refine al_7 (n := (y2.toInt.toNat)) C b5 (by decide) rfl dX11_rowsThere_15 ?_
        refine m_callV (n := 0) (ci := 6) (st := []) C (c_X7_isMissing l G τ (j := (y2.toInt.toNat)) (iv_nat b5 (by decide))  iτ ) (by decide) (iv_nat b5 (by decide)) rfl rfl rfl q2_15 q2_12 q2_13 q2_14 q1_6 (by decide +kernel) rfl (by decide) (by decide) rfl (Nat.le_of_ble_eq_true rfl) dX11_rowsThere_16 ?_
        rintro _ τ6 ⟨x9, rfl, i7, f8, b10⟩
        have g11 : Fr MS_X11_rowsThere AS_X11_rowsThere σ τ6 := Fr.call (fτ) f8 (by decide)
        show MW p l e _ s m args below meth c _ 3 G 0 0 19 [some (.ref (G.1 0 0)), some (.int y1), some (.int y2)] [.int x9] τ6
        refine m_if_ne (tgt := 25) C dX11_rowsThere_19 (by decide) (fun c13 => ?_) (fun c13 => ?_)
        · have f14 : x9.toInt ≠ 0 := by
            have q : _ := c13
            simp only [ti_nle, ti_nlt, ti_le, ti_lt, ti_eq, ti_ne, Classical.not_not, kt_0] at q
            omega
          have b15 : IV x9 1 1 := ⟨by have q1 := b10; have q2 := kc_0; omega, by have q1 := b10; have q2 := kc_0; omega⟩
          obtain ⟨x16, ex16⟩ : ∃ y : Int32, y = y2 + 1 := ⟨_, rfl⟩
          have tx16 : x16.toInt = y2.toInt + 1 := by rw [ex16, ti_addv b5 kc_1 (by decide), kt_1]
          have b17 : IV x16 1 8 := by rw [ex16]; exact iv_add b5 kc_1 (by decide)
          refine m_iinc (v := x16) (L1 := [some (.ref (G.1 0 0)), some (.int y1), some (.int x16)]) C dX11_rowsThere_25 rfl (by rw [ex16]; rfl) (by decide) rfl rfl ?_
          refine m_goto (tgt := 4) C dX11_rowsThere_28 (by decide) ?_
          exact ih4 τ6 y1 x16 i7 g11 b_y1 (iv_wk b17 (by decide)) (by have q := hm4; omega)
        · have f18 : x9.toInt = 0 := by
            have q : _ := c13
            simp only [ti_nle, ti_nlt, ti_le, ti_lt, ti_eq, ti_ne, Classical.not_not, kt_0] at q
            omega
          have b19 : IV x9 0 0 := ⟨by have q1 := b10; have q2 := kc_0; omega, by have q1 := b10; have q2 := kc_0; omega⟩
          obtain ⟨x20, ex20⟩ : ∃ y : Int32, y = y1 + 1 := ⟨_, rfl⟩
          refine m_iinc (v := x20) (L1 := [some (.ref (G.1 0 0)), some (.int x20), some (.int y2)]) C dX11_rowsThere_22 rfl (by rw [ex20]; rfl) (by decide) rfl rfl ?_
          obtain ⟨x21, ex21⟩ : ∃ y : Int32, y = y2 + 1 := ⟨_, rfl⟩
          have tx21 : x21.toInt = y2.toInt + 1 := by rw [ex21, ti_addv b5 kc_1 (by decide), kt_1]
          have b22 : IV x21 1 8 := by rw [ex21]; exact iv_add b5 kc_1 (by decide)
          refine m_iinc (v := x21) (L1 := [some (.ref (G.1 0 0)), some (.int x20), some (.int x21)]) C dX11_rowsThere_25 rfl (by rw [ex21]; rfl) (by decide) rfl rfl ?_
          refine m_goto (tgt := 4) C dX11_rowsThere_28 (by decide) ?_
          exact ih4 τ6 x20 x21 i7 g11 (iv_any x20) (iv_wk b22 (by decide)) (by have q := hm4; omega)
  refine m_iconst (v := 0) C dX11_rowsThere_0 (by decide) ?_
  refine m_istore_n (L1 := [some (.ref (G.1 0 0)), some (.int 0), none]) C dX11_rowsThere_1 rfl (by decide) rfl rfl ?_
  refine m_iconst (v := 0) C dX11_rowsThere_2 (by decide) ?_
  refine m_istore_n (L1 := [some (.ref (G.1 0 0)), some (.int 0), some (.int 0)]) C dX11_rowsThere_3 rfl (by decide) rfl rfl ?_
  exact J4 ((8 - (0 : Int32).toInt).toNat + 1) σ 0 0 hI Fr.rf (iv_wk kc_0 (by decide)) (iv_wk kc_0 (by decide)) (Nat.lt_succ_self _)

abbrev MS_X11_row : List (Nat × Nat) := [(0, 12), (20, 1), (20, 2)]
abbrev AS_X11_row : List Nat := [21]
set_option maxHeartbeats 4000000 in
set_option maxRecDepth 100000 in
theorem c_X11_row (l : Launch) (G : Gt) (σ : Sg) (a1 : Int32) (a2 : Int32) (a3 : Int32) (hI : Inv σ) : Mc l G yX11_row cX11_row 5 (some .int) 1 23 0 0 [.ref (G.1 0 0), .int a1, .int a2, .int a3] σ (PI fun r τ => Inv τ ∧ Fr MS_X11_row AS_X11_row σ τ ∧ IV r (-2147483648) 2147483647 ∧ (((a1.toInt < 0 ∨ 7 < a1.toInt ∨ a2.toInt < 0 ∨ 2 < a2.toInt ∨ 40 < a3.toInt) ∧ r.toInt = -1000001) ∨ ((0 ≤ a1.toInt ∧ a1.toInt ≤ 7 ∧ 0 ≤ a2.toInt ∧ a2.toInt ≤ 2 ∧ a3.toInt < 0) ∧ r.toInt = -1000014) ∨ ((0 ≤ a1.toInt ∧ a1.toInt ≤ 7 ∧ 0 ≤ a2.toInt ∧ a2.toInt ≤ 2 ∧ 0 ≤ a3.toInt ∧ a3.toInt ≤ 40) ∧ r.toInt = a3.toInt))) := by
  refine Mc.of (L0 := [some (.ref (G.1 0 0)), some (.int a1), some (.int a2), some (.int a3), none]) (by decide) (Nat.le_of_ble_eq_true rfl) rfl ?_
  intro p e s m args below meth c C hr hlk
  have C : Cx p s m args c cX11_row 5 "LeanTower" := C
  have k0 : (0 : Int32).toInt = 0 := by decide
  have k1 : (1 : Int32).toInt = 1 := by decide
  refine m_aload_n C dX11_row_0 rfl rfl ?_
  refine m_iload_n C dX11_row_1 rfl rfl ?_
  refine m_callV (n := 1) (ci := 10) (st := []) C (c_X11_rowAt l G σ (a1) hI ) (by decide) (by decide) rfl rfl rfl q1_233 q1_230 q1_232 q0_0 q1_1 (by decide +kernel) rfl (by decide) (by decide) rfl (Nat.le_of_ble_eq_true rfl) dX11_row_2 ?_
  rintro _ τ1 ⟨x4, rfl, i2, f3, h7⟩
  have g6 : Fr MS_X11_row AS_X11_row σ τ1 := Fr.call (Fr.rf) f3 (by decide)
  rcases h7 with ⟨rfl, x4q⟩ | ⟨rfl, x4q⟩
  · skip
    show MW p l e _ s m args below meth c _ 5 G 0 0 5 [some (.ref (G.1 0 0)), some (.int a1), some (.int a2), some (.int a3), none] [.null] τ1
    refine m_astoreN (L1 := [some (.ref (G.1 0 0)), some (.int a1), some (.int a2), some (.int a3), some (.null)]) C dX11_row_5 (by decide) rfl rfl ?_
    refine m_aloadN C dX11_row_7 rfl ?_
    refine m_ifnullN (tgt := 27) C dX11_row_9 (by decide) ?_
    refine m_ldc (v := (-1000001)) C dX11_row_27 q1_234 ?_
    exact m_iret C hr hlk (by decide) (by decide) dX11_row_29 ⟨_, rfl, i2, g6, (iv_wk kc_m1000001 (by decide)), (by have q := kt_m1000001; omega)⟩
  · have b8 : IV a1 0 7 := ⟨by have q1 := (iv_any a1); omega, by have q1 := (iv_any a1); omega⟩
    show MW p l e _ s m args below meth c _ 5 G 0 0 5 [some (.ref (G.1 0 0)), some (.int a1), some (.int a2), some (.int a3), none] [.ref (G.1 20 (a1.toInt.toNat))] τ1
    refine m_astore (L1 := [some (.ref (G.1 0 0)), some (.int a1), some (.int a2), some (.int a3), some (.ref (G.1 20 (a1.toInt.toNat)))]) C dX11_row_5 (by decide) rfl rfl ?_
    refine m_aload C dX11_row_7 rfl ?_
    refine m_ifnull C dX11_row_9 ?_
    refine m_iload_n C dX11_row_12 rfl rfl ?_
    refine m_if_lt (tgt := 27) C dX11_row_13 (by decide) (fun c9 => ?_) (fun c9 => ?_)
    · have f10 : a2.toInt < 0 := by
        have q : _ := c9
        simp only [ti_nle, ti_nlt, ti_le, ti_lt, ti_eq, ti_ne, Classical.not_not, kt_0] at q
        omega
      have b11 : IV a2 (-2147483648) (-1) := ⟨by have q1 := (iv_any a2); have q2 := kc_0; omega, by have q1 := (iv_any a2); have q2 := kc_0; omega⟩
      refine m_ldc (v := (-1000001)) C dX11_row_27 q1_234 ?_
      exact m_iret C hr hlk (by decide) (by decide) dX11_row_29 ⟨_, rfl, i2, g6, (iv_wk kc_m1000001 (by decide)), (by have q := kt_m1000001; omega)⟩
    · have f12 : 0 ≤ a2.toInt := by
        have q : _ := c9
        simp only [ti_nle, ti_nlt, ti_le, ti_lt, ti_eq, ti_ne, Classical.not_not, kt_0] at q
        omega
      have b13 : IV a2 0 2147483647 := ⟨by have q1 := kc_0; have q2 := (iv_any a2); omega, by have q1 := kc_0; have q2 := (iv_any a2); omega⟩
      refine m_iload_n C dX11_row_16 rfl rfl ?_
      refine m_iconst (v := 2) C dX11_row_17 (by decide) ?_
      refine m_icmp_gt (tgt := 27) C dX11_row_18 (by decide) (fun c14 => ?_) (fun c14 => ?_)
      · have f15 : 2 < a2.toInt := by
          have q : _ := c14
          simp only [ti_nle, ti_nlt, ti_le, ti_lt, ti_eq, ti_ne, Classical.not_not, kt_2] at q
          omega
        have b16 : IV a2 3 2147483647 := ⟨by have q1 := kc_2; have q2 := b13; omega, by have q1 := kc_2; have q2 := b13; omega⟩
        refine m_ldc (v := (-1000001)) C dX11_row_27 q1_234 ?_
        exact m_iret C hr hlk (by decide) (by decide) dX11_row_29 ⟨_, rfl, i2, g6, (iv_wk kc_m1000001 (by decide)), (by have q := kt_m1000001; omega)⟩
      · have f17 : a2.toInt ≤ 2 := by
          have q : _ := c14
          simp only [ti_nle, ti_nlt, ti_le, ti_lt, ti_eq, ti_ne, Classical.not_not, kt_2] at q
          omega
        have b18 : IV a2 0 2 := ⟨by have q1 := b13; have q2 := kc_2; omega, by have q1 := b13; have q2 := kc_2; omega⟩
        refine m_iload_n C dX11_row_21 rfl rfl ?_
        refine m_bipush (v := 40) C dX11_row_22 (by decide) ?_
        refine m_icmp_le (tgt := 30) C dX11_row_24 (by decide) (fun c19 => ?_) (fun c19 => ?_)
        · have f20 : a3.toInt ≤ 40 := by
            have q : _ := c19
            simp only [ti_nle, ti_nlt, ti_le, ti_lt, ti_eq, ti_ne, Classical.not_not, kt_40] at q
            omega
          have b21 : IV a3 (-2147483648) 40 := ⟨by have q1 := (iv_any a3); have q2 := kc_40; omega, by have q1 := (iv_any a3); have q2 := kc_40; omega⟩
          refine m_iload_n C dX11_row_30 rfl rfl ?_
          refine m_if_ge (tgt := 40) C dX11_row_31 (by decide) (fun c22 => ?_) (fun c22 => ?_)
          · have f23 : 0 ≤ a3.toInt := by
              have q : _ := c22
              simp only [ti_nle, ti_nlt, ti_le, ti_lt, ti_eq, ti_ne, Classical.not_not, kt_0] at q
              omega
            have b24 : IV a3 0 40 := ⟨by have q1 := kc_0; have q2 := b21; omega, by have q1 := kc_0; have q2 := b21; omega⟩
            refine m_aload C dX11_row_40 rfl ?_
            refine m_iload_n C dX11_row_42 rfl rfl ?_
            refine m_iload_n C dX11_row_43 rfl rfl ?_
            refine m_callV (n := 2) (ci := 6) (st := []) C (c_X7_begin l G τ1 (j := (a1.toInt.toNat)) (iv_nat b8 (by decide)) (a2) (a3) i2 b24) (by decide) (iv_nat b8 (by decide)) rfl rfl rfl q2_3 q2_0 q2_1 q2_2 q1_6 (by decide +kernel) rfl (by decide) (by decide) rfl (Nat.le_of_ble_eq_true rfl) dX11_row_44 ?_
            rintro _ τ25 ⟨rfl, i26, f27⟩
            have g30 : Fr MS_X11_row AS_X11_row σ τ25 := Fr.call (g6) f27 (by decide)
            show MW p l e _ s m args below meth c _ 5 G 0 0 47 [some (.ref (G.1 0 0)), some (.int a1), some (.int a2), some (.int a3), some (.ref (G.1 20 (a1.toInt.toNat)))] [] τ25
            refine m_aload_n C dX11_row_47 rfl rfl ?_
            refine m_iload_n C dX11_row_48 rfl rfl ?_
            refine m_callV (n := 1) (ci := 10) (st := []) C (c_X11_clean l G τ25 (a3) i26 ) (by decide) (by decide) rfl rfl rfl q2_7 q2_4 q2_6 q0_2 q1_1 (by decide +kernel) rfl (by decide) (by decide) rfl (Nat.le_of_ble_eq_true rfl) dX11_row_49 ?_
            rintro _ τ32 ⟨x35, rfl, i33, f34, b36, h38⟩
            have g37 : Fr MS_X11_row AS_X11_row σ τ32 := Fr.call (g30) f34 (by decide)
            show MW p l e _ s m args below meth c _ 5 G 0 0 52 [some (.ref (G.1 0 0)), some (.int a1), some (.int a2), some (.int a3), some (.ref (G.1 20 (a1.toInt.toNat)))] [.int x35] τ32
            exact m_iret C hr hlk (by decide) (by decide) dX11_row_52 ⟨_, rfl, i33, g37, b36, (by omega)⟩
          · have f39 : a3.toInt < 0 := by
              have q : _ := c22
              simp only [ti_nle, ti_nlt, ti_le, ti_lt, ti_eq, ti_ne, Classical.not_not, kt_0] at q
              omega
            have b40 : IV a3 (-2147483648) (-1) := ⟨by have q1 := b21; have q2 := kc_0; omega, by have q1 := b21; have q2 := kc_0; omega⟩
            refine m_aload_n C dX11_row_34 rfl rfl ?_
            refine m_iconst (v := 4) C dX11_row_35 (by decide) ?_
            refine m_callV (n := 1) (ci := 10) (st := []) C (c_X11_found l G τ1 (4) i2 (iv_wk kc_4 (by decide))) (by decide) (by decide) rfl rfl rfl q1_238 q1_235 q1_237 q0_1 q1_1 (by decide +kernel) rfl (by decide) (by decide) rfl (Nat.le_of_ble_eq_true rfl) dX11_row_36 ?_
            rintro _ τ41 ⟨x44, rfl, i42, f43, b45, h47⟩
            have g46 : Fr MS_X11_row AS_X11_row σ τ41 := Fr.call (g6) f43 (by decide)
            have q48 := kt_4
            show MW p l e _ s m args below meth c _ 5 G 0 0 39 [some (.ref (G.1 0 0)), some (.int a1), some (.int a2), some (.int a3), some (.ref (G.1 20 (a1.toInt.toNat)))] [.int x44] τ41
            exact m_iret C hr hlk (by decide) (by decide) dX11_row_39 ⟨_, rfl, i42, g46, (iv_wk b45 (by decide)), (by omega)⟩
        · have f49 : 40 < a3.toInt := by
            have q : _ := c19
            simp only [ti_nle, ti_nlt, ti_le, ti_lt, ti_eq, ti_ne, Classical.not_not, kt_40] at q
            omega
          have b50 : IV a3 41 2147483647 := ⟨by have q1 := kc_40; have q2 := (iv_any a3); omega, by have q1 := kc_40; have q2 := (iv_any a3); omega⟩
          refine m_ldc (v := (-1000001)) C dX11_row_27 q1_234 ?_
          exact m_iret C hr hlk (by decide) (by decide) dX11_row_29 ⟨_, rfl, i2, g6, (iv_wk kc_m1000001 (by decide)), (by have q := kt_m1000001; omega)⟩

abbrev MS_X11_set : List (Nat × Nat) := [(0, 12)]
abbrev AS_X11_set : List Nat := [21]
set_option maxHeartbeats 4000000 in
set_option maxRecDepth 100000 in
theorem c_X11_set (l : Launch) (G : Gt) (σ : Sg) (a1 : Int32) (a2 : Int32) (a3 : Int32) (hI : Inv σ) : Mc l G yX11_set cX11_set 5 (some .int) 1 21 0 0 [.ref (G.1 0 0), .int a1, .int a2, .int a3] σ (PI fun r τ => Inv τ ∧ Fr MS_X11_set AS_X11_set σ τ ∧ IV r (-2147483648) 2147483647) := by
  refine Mc.of (L0 := [some (.ref (G.1 0 0)), some (.int a1), some (.int a2), some (.int a3), none]) (by decide) (Nat.le_of_ble_eq_true rfl) rfl ?_
  intro p e s m args below meth c C hr hlk
  have C : Cx p s m args c cX11_set 5 "LeanTower" := C
  have k0 : (0 : Int32).toInt = 0 := by decide
  have k1 : (1 : Int32).toInt = 1 := by decide
  refine m_aload_n C dX11_set_0 rfl rfl ?_
  refine m_iload_n C dX11_set_1 rfl rfl ?_
  refine m_callV (n := 1) (ci := 10) (st := []) C (c_X11_rowAt l G σ (a1) hI ) (by decide) (by decide) rfl rfl rfl q1_233 q1_230 q1_232 q0_0 q1_1 (by decide +kernel) rfl (by decide) (by decide) rfl (Nat.le_of_ble_eq_true rfl) dX11_set_2 ?_
  rintro _ τ1 ⟨x4, rfl, i2, f3, h7⟩
  have g6 : Fr MS_X11_set AS_X11_set σ τ1 := Fr.call (Fr.rf) f3 (by decide)
  rcases h7 with ⟨rfl, x4q⟩ | ⟨rfl, x4q⟩
  · skip
    show MW p l e _ s m args below meth c _ 5 G 0 0 5 [some (.ref (G.1 0 0)), some (.int a1), some (.int a2), some (.int a3), none] [.null] τ1
    refine m_astoreN (L1 := [some (.ref (G.1 0 0)), some (.int a1), some (.int a2), some (.int a3), some (.null)]) C dX11_set_5 (by decide) rfl rfl ?_
    refine m_aloadN C dX11_set_7 rfl ?_
    refine m_ifnonnullN C dX11_set_9 ?_
    refine m_ldc (v := (-1000001)) C dX11_set_12 q1_234 ?_
    exact m_iret C hr hlk (by decide) (by decide) dX11_set_14 ⟨_, rfl, i2, g6, (iv_wk kc_m1000001 (by decide))⟩
  · have b8 : IV a1 0 7 := ⟨by have q1 := (iv_any a1); omega, by have q1 := (iv_any a1); omega⟩
    show MW p l e _ s m args below meth c _ 5 G 0 0 5 [some (.ref (G.1 0 0)), some (.int a1), some (.int a2), some (.int a3), none] [.ref (G.1 20 (a1.toInt.toNat))] τ1
    refine m_astore (L1 := [some (.ref (G.1 0 0)), some (.int a1), some (.int a2), some (.int a3), some (.ref (G.1 20 (a1.toInt.toNat)))]) C dX11_set_5 (by decide) rfl rfl ?_
    refine m_aload C dX11_set_7 rfl ?_
    refine m_ifnonnull (tgt := 15) C dX11_set_9 (by decide) ?_
    refine m_aload C dX11_set_15 rfl ?_
    refine m_callV (n := 0) (ci := 6) (st := []) C (c_X7_isMissing l G τ1 (j := (a1.toInt.toNat)) (iv_nat b8 (by decide))  i2 ) (by decide) (iv_nat b8 (by decide)) rfl rfl rfl q2_15 q2_12 q2_13 q2_14 q1_6 (by decide +kernel) rfl (by decide) (by decide) rfl (Nat.le_of_ble_eq_true rfl) dX11_set_17 ?_
    rintro _ τ9 ⟨x12, rfl, i10, f11, b13⟩
    have g14 : Fr MS_X11_set AS_X11_set σ τ9 := Fr.call (g6) f11 (by decide)
    show MW p l e _ s m args below meth c _ 5 G 0 0 20 [some (.ref (G.1 0 0)), some (.int a1), some (.int a2), some (.int a3), some (.ref (G.1 20 (a1.toInt.toNat)))] [.int x12] τ9
    refine m_if_eq (tgt := 29) C dX11_set_20 (by decide) (fun c16 => ?_) (fun c16 => ?_)
    · have f17 : x12.toInt = 0 := by
        have q : _ := c16
        simp only [ti_nle, ti_nlt, ti_le, ti_lt, ti_eq, ti_ne, Classical.not_not, kt_0] at q
        omega
      have b18 : IV x12 0 0 := ⟨by have q1 := b13; have q2 := kc_0; omega, by have q1 := b13; have q2 := kc_0; omega⟩
      refine m_iload_n C dX11_set_29 rfl rfl ?_
      refine m_if_lt (tgt := 42) C dX11_set_30 (by decide) (fun c19 => ?_) (fun c19 => ?_)
      · have f20 : a2.toInt < 0 := by
          have q : _ := c19
          simp only [ti_nle, ti_nlt, ti_le, ti_lt, ti_eq, ti_ne, Classical.not_not, kt_0] at q
          omega
        have b21 : IV a2 (-2147483648) (-1) := ⟨by have q1 := (iv_any a2); have q2 := kc_0; omega, by have q1 := (iv_any a2); have q2 := kc_0; omega⟩
        refine m_aload_n C dX11_set_42 rfl rfl ?_
        refine m_iconst (v := 2) C dX11_set_43 (by decide) ?_
        refine m_callV (n := 1) (ci := 10) (st := []) C (c_X11_found l G τ9 (2) i10 (iv_wk kc_2 (by decide))) (by decide) (by decide) rfl rfl rfl q1_238 q1_235 q1_237 q0_1 q1_1 (by decide +kernel) rfl (by decide) (by decide) rfl (Nat.le_of_ble_eq_true rfl) dX11_set_44 ?_
        rintro _ τ22 ⟨x25, rfl, i23, f24, b26, h28⟩
        have g27 : Fr MS_X11_set AS_X11_set σ τ22 := Fr.call (g14) f24 (by decide)
        have q29 := kt_2
        show MW p l e _ s m args below meth c _ 5 G 0 0 47 [some (.ref (G.1 0 0)), some (.int a1), some (.int a2), some (.int a3), some (.ref (G.1 20 (a1.toInt.toNat)))] [.int x25] τ22
        exact m_iret C hr hlk (by decide) (by decide) dX11_set_47 ⟨_, rfl, i23, g27, (iv_wk b26 (by decide))⟩
      · have f30 : 0 ≤ a2.toInt := by
          have q : _ := c19
          simp only [ti_nle, ti_nlt, ti_le, ti_lt, ti_eq, ti_ne, Classical.not_not, kt_0] at q
          omega
        have b31 : IV a2 0 2147483647 := ⟨by have q1 := kc_0; have q2 := (iv_any a2); omega, by have q1 := kc_0; have q2 := (iv_any a2); omega⟩
        refine m_iload_n C dX11_set_33 rfl rfl ?_
        refine m_aload C dX11_set_34 rfl ?_
        refine g_20_2 C (iv_nat b8 (by decide)) q1_177 dX11_set_36 ?_
        refine m_topi (fun x32 ex32 => ?_)
        have b33 : IV x32 0 40 := by rw [ex32]; exact i10.1 20 (a1.toInt.toNat) 2
        refine m_icmp_lt (tgt := 48) C dX11_set_39 (by decide) (fun c34 => ?_) (fun c34 => ?_)
        · have f35 : a2.toInt < x32.toInt := by
            have q : _ := c34
            simp only [ti_nle, ti_nlt, ti_le, ti_lt, ti_eq, ti_ne, Classical.not_not] at q
            omega
          have b36 : IV a2 0 39 := ⟨by have q1 := b31; have q2 := b33; omega, by have q1 := b31; have q2 := b33; omega⟩
          have b37 : IV x32 1 40 := ⟨by have q1 := b31; have q2 := b33; omega, by have q1 := b31; have q2 := b33; omega⟩
          refine m_aload C dX11_set_48 rfl ?_
          refine g_20_0 C (iv_nat b8 (by decide)) q1_173 dX11_set_50 ?_
          refine m_iload_n C dX11_set_53 rfl rfl ?_
          refine m_aload C dX11_set_54 rfl ?_
          refine m_iload_n C dX11_set_56 rfl rfl ?_
          refine m_callV (n := 1) (ci := 6) (st := [.int a2, .ref (G.1 21 (a1.toInt.toNat))]) C (c_X7_narrowed l G τ9 (j := (a1.toInt.toNat)) (iv_nat b8 (by decide)) (a3) i10 ) (by decide) (iv_nat b8 (by decide)) rfl rfl rfl q2_19 q2_16 q2_17 q2_18 q1_6 (by decide +kernel) rfl (by decide) (by decide) rfl (Nat.le_of_ble_eq_true rfl) dX11_set_57 ?_
          rintro _ τ38 ⟨x41, rfl, i39, f40, b42⟩
          have g43 : Fr MS_X11_set AS_X11_set σ τ38 := Fr.call (g14) f40 (by decide)
          show MW p l e _ s m args below meth c _ 5 G 0 0 60 [some (.ref (G.1 0 0)), some (.int a1), some (.int a2), some (.int a3), some (.ref (G.1 20 (a1.toInt.toNat)))] [.int x41, .int a2, .ref (G.1 21 (a1.toInt.toNat))] τ38
          refine as_21 C (iv_nat b8 (by decide)) b36 (by decide) rfl dX11_set_60 ?_
          refine m_tops (fun τ45 eτ45 => ?_)
          have i46 : Inv τ45 := eτ45 ▸ Inv.putF i39 (by decide) rfl
          have f47 : Fr MS_X11_set AS_X11_set σ τ45 := eτ45 ▸ Fr.put (g43) (Or.inr (by decide))
          refine m_aload_n C dX11_set_61 rfl rfl ?_
          refine m_aload C dX11_set_62 rfl ?_
          refine g_20_0 C (iv_nat b8 (by decide)) q1_173 dX11_set_64 ?_
          refine m_iload_n C dX11_set_67 rfl rfl ?_
          refine al_21 C (iv_nat b8 (by decide)) b36 (by decide) rfl dX11_set_68 ?_
          refine m_eqs (w := x41) (show gV τ45 21 (a1.toInt.toNat) (a2.toInt.toNat) = x41 from gV_put eτ45 (gV_self _ _ _ _ _)) ?_
          refine m_callV (n := 1) (ci := 10) (st := []) C (c_X11_clean l G τ45 (x41) i46 ) (by decide) (by decide) rfl rfl rfl q2_7 q2_4 q2_6 q0_2 q1_1 (by decide +kernel) rfl (by decide) (by decide) rfl (Nat.le_of_ble_eq_true rfl) dX11_set_69 ?_
          rintro _ τ48 ⟨x51, rfl, i49, f50, b52, h54⟩
          have g53 : Fr MS_X11_set AS_X11_set σ τ48 := Fr.call (f47) f50 (by decide)
          show MW p l e _ s m args below meth c _ 5 G 0 0 72 [some (.ref (G.1 0 0)), some (.int a1), some (.int a2), some (.int a3), some (.ref (G.1 20 (a1.toInt.toNat)))] [.int x51] τ48
          exact m_iret C hr hlk (by decide) (by decide) dX11_set_72 ⟨_, rfl, i49, g53, b52⟩
        · have f55 : x32.toInt ≤ a2.toInt := by
            have q : _ := c34
            simp only [ti_nle, ti_nlt, ti_le, ti_lt, ti_eq, ti_ne, Classical.not_not] at q
            omega
          refine m_aload_n C dX11_set_42 rfl rfl ?_
          refine m_iconst (v := 2) C dX11_set_43 (by decide) ?_
          refine m_callV (n := 1) (ci := 10) (st := []) C (c_X11_found l G τ9 (2) i10 (iv_wk kc_2 (by decide))) (by decide) (by decide) rfl rfl rfl q1_238 q1_235 q1_237 q0_1 q1_1 (by decide +kernel) rfl (by decide) (by decide) rfl (Nat.le_of_ble_eq_true rfl) dX11_set_44 ?_
          rintro _ τ56 ⟨x59, rfl, i57, f58, b60, h62⟩
          have g61 : Fr MS_X11_set AS_X11_set σ τ56 := Fr.call (g14) f58 (by decide)
          have q63 := kt_2
          show MW p l e _ s m args below meth c _ 5 G 0 0 47 [some (.ref (G.1 0 0)), some (.int a1), some (.int a2), some (.int a3), some (.ref (G.1 20 (a1.toInt.toNat)))] [.int x59] τ56
          exact m_iret C hr hlk (by decide) (by decide) dX11_set_47 ⟨_, rfl, i57, g61, (iv_wk b60 (by decide))⟩
    · have f64 : x12.toInt ≠ 0 := by
        have q : _ := c16
        simp only [ti_nle, ti_nlt, ti_le, ti_lt, ti_eq, ti_ne, Classical.not_not, kt_0] at q
        omega
      have b65 : IV x12 1 1 := ⟨by have q1 := b13; have q2 := kc_0; omega, by have q1 := b13; have q2 := kc_0; omega⟩
      refine m_aload_n C dX11_set_23 rfl rfl ?_
      refine m_iconst (v := 1) C dX11_set_24 (by decide) ?_
      refine m_callV (n := 1) (ci := 10) (st := []) C (c_X11_found l G τ9 (1) i10 (iv_wk kc_1 (by decide))) (by decide) (by decide) rfl rfl rfl q1_238 q1_235 q1_237 q0_1 q1_1 (by decide +kernel) rfl (by decide) (by decide) rfl (Nat.le_of_ble_eq_true rfl) dX11_set_25 ?_
      rintro _ τ66 ⟨x69, rfl, i67, f68, b70, h72⟩
      have g71 : Fr MS_X11_set AS_X11_set σ τ66 := Fr.call (g14) f68 (by decide)
      have q73 := kt_1
      show MW p l e _ s m args below meth c _ 5 G 0 0 28 [some (.ref (G.1 0 0)), some (.int a1), some (.int a2), some (.int a3), some (.ref (G.1 20 (a1.toInt.toNat)))] [.int x69] τ66
      exact m_iret C hr hlk (by decide) (by decide) dX11_set_28 ⟨_, rfl, i67, g71, (iv_wk b70 (by decide))⟩

abbrev MS_X11_copy : List (Nat × Nat) := [(0, 12)]
abbrev AS_X11_copy : List Nat := [21]
set_option maxHeartbeats 4000000 in
set_option maxRecDepth 100000 in
theorem c_X11_copy (l : Launch) (G : Gt) (σ : Sg) (a1 : Int32) (a2 : Int32) (a3 : Int32) (a4 : Int32) (a5 : Int32) (hI : Inv σ) : Mc l G yX11_copy cX11_copy 8 (some .int) 1 60 0 0 [.ref (G.1 0 0), .int a1, .int a2, .int a3, .int a4, .int a5] σ (PI fun r τ => Inv τ ∧ Fr MS_X11_copy AS_X11_copy σ τ ∧ IV r (-2147483648) 2147483647) := by
  refine Mc.of (L0 := [some (.ref (G.1 0 0)), some (.int a1), some (.int a2), some (.int a3), some (.int a4), some (.int a5), none, none]) (by decide) (Nat.le_of_ble_eq_true rfl) rfl ?_
  intro p e s m args below meth c C hr hlk
  have C : Cx p s m args c cX11_copy 8 "LeanTower" := C
  have k0 : (0 : Int32).toInt = 0 := by decide
  have k1 : (1 : Int32).toInt = 1 := by decide
  refine m_aload_n C dX11_copy_0 rfl rfl ?_
  refine m_iload_n C dX11_copy_1 rfl rfl ?_
  refine m_callV (n := 1) (ci := 10) (st := []) C (c_X11_rowAt l G σ (a1) hI ) (by decide) (by decide) rfl rfl rfl q1_233 q1_230 q1_232 q0_0 q1_1 (by decide +kernel) rfl (by decide) (by decide) rfl (Nat.le_of_ble_eq_true rfl) dX11_copy_2 ?_
  rintro _ τ1 ⟨x4, rfl, i2, f3, h7⟩
  have g6 : Fr MS_X11_copy AS_X11_copy σ τ1 := Fr.call (Fr.rf) f3 (by decide)
  rcases h7 with ⟨rfl, x4q⟩ | ⟨rfl, x4q⟩
  · skip
    show MW p l e _ s m args below meth c _ 8 G 0 0 5 [some (.ref (G.1 0 0)), some (.int a1), some (.int a2), some (.int a3), some (.int a4), some (.int a5), none, none] [.null] τ1
    refine m_astoreN (L1 := [some (.ref (G.1 0 0)), some (.int a1), some (.int a2), some (.int a3), some (.int a4), some (.int a5), some (.null), none]) C dX11_copy_5 (by decide) rfl rfl ?_
    refine m_aload_n C dX11_copy_7 rfl rfl ?_
    refine m_iload_n C dX11_copy_8 rfl rfl ?_
    refine m_callV (n := 1) (ci := 10) (st := []) C (c_X11_rowAt l G τ1 (a3) i2 ) (by decide) (by decide) rfl rfl rfl q1_233 q1_230 q1_232 q0_0 q1_1 (by decide +kernel) rfl (by decide) (by decide) rfl (Nat.le_of_ble_eq_true rfl) dX11_copy_9 ?_
    rintro _ τ8 ⟨x11, rfl, i9, f10, h14⟩
    have g13 : Fr MS_X11_copy AS_X11_copy σ τ8 := Fr.call (g6) f10 (by decide)
    rcases h14 with ⟨rfl, x11q⟩ | ⟨rfl, x11q⟩
    · skip
      show MW p l e _ s m args below meth c _ 8 G 0 0 12 [some (.ref (G.1 0 0)), some (.int a1), some (.int a2), some (.int a3), some (.int a4), some (.int a5), some (.null), none] [.null] τ8
      refine m_astoreN (L1 := [some (.ref (G.1 0 0)), some (.int a1), some (.int a2), some (.int a3), some (.int a4), some (.int a5), some (.null), some (.null)]) C dX11_copy_12 (by decide) rfl rfl ?_
      refine m_aloadN C dX11_copy_14 rfl ?_
      refine m_ifnullN (tgt := 24) C dX11_copy_16 (by decide) ?_
      refine m_ldc (v := (-1000001)) C dX11_copy_24 q1_234 ?_
      exact m_iret C hr hlk (by decide) (by decide) dX11_copy_26 ⟨_, rfl, i9, g13, (iv_wk kc_m1000001 (by decide))⟩
    · have b15 : IV a3 0 7 := ⟨by have q1 := (iv_any a3); omega, by have q1 := (iv_any a3); omega⟩
      show MW p l e _ s m args below meth c _ 8 G 0 0 12 [some (.ref (G.1 0 0)), some (.int a1), some (.int a2), some (.int a3), some (.int a4), some (.int a5), some (.null), none] [.ref (G.1 20 (a3.toInt.toNat))] τ8
      refine m_astore (L1 := [some (.ref (G.1 0 0)), some (.int a1), some (.int a2), some (.int a3), some (.int a4), some (.int a5), some (.null), some (.ref (G.1 20 (a3.toInt.toNat)))]) C dX11_copy_12 (by decide) rfl rfl ?_
      refine m_aloadN C dX11_copy_14 rfl ?_
      refine m_ifnullN (tgt := 24) C dX11_copy_16 (by decide) ?_
      refine m_ldc (v := (-1000001)) C dX11_copy_24 q1_234 ?_
      exact m_iret C hr hlk (by decide) (by decide) dX11_copy_26 ⟨_, rfl, i9, g13, (iv_wk kc_m1000001 (by decide))⟩
  · have b16 : IV a1 0 7 := ⟨by have q1 := (iv_any a1); omega, by have q1 := (iv_any a1); omega⟩
    show MW p l e _ s m args below meth c _ 8 G 0 0 5 [some (.ref (G.1 0 0)), some (.int a1), some (.int a2), some (.int a3), some (.int a4), some (.int a5), none, none] [.ref (G.1 20 (a1.toInt.toNat))] τ1
    refine m_astore (L1 := [some (.ref (G.1 0 0)), some (.int a1), some (.int a2), some (.int a3), some (.int a4), some (.int a5), some (.ref (G.1 20 (a1.toInt.toNat))), none]) C dX11_copy_5 (by decide) rfl rfl ?_
    refine m_aload_n C dX11_copy_7 rfl rfl ?_
    refine m_iload_n C dX11_copy_8 rfl rfl ?_
    refine m_callV (n := 1) (ci := 10) (st := []) C (c_X11_rowAt l G τ1 (a3) i2 ) (by decide) (by decide) rfl rfl rfl q1_233 q1_230 q1_232 q0_0 q1_1 (by decide +kernel) rfl (by decide) (by decide) rfl (Nat.le_of_ble_eq_true rfl) dX11_copy_9 ?_
    rintro _ τ17 ⟨x20, rfl, i18, f19, h23⟩
    have g22 : Fr MS_X11_copy AS_X11_copy σ τ17 := Fr.call (g6) f19 (by decide)
    rcases h23 with ⟨rfl, x20q⟩ | ⟨rfl, x20q⟩
    · skip
      show MW p l e _ s m args below meth c _ 8 G 0 0 12 [some (.ref (G.1 0 0)), some (.int a1), some (.int a2), some (.int a3), some (.int a4), some (.int a5), some (.ref (G.1 20 (a1.toInt.toNat))), none] [.null] τ17
      refine m_astoreN (L1 := [some (.ref (G.1 0 0)), some (.int a1), some (.int a2), some (.int a3), some (.int a4), some (.int a5), some (.ref (G.1 20 (a1.toInt.toNat))), some (.null)]) C dX11_copy_12 (by decide) rfl rfl ?_
      refine m_aload C dX11_copy_14 rfl ?_
      refine m_ifnull C dX11_copy_16 ?_
      refine m_aloadN C dX11_copy_19 rfl ?_
      refine m_ifnonnullN C dX11_copy_21 ?_
      refine m_ldc (v := (-1000001)) C dX11_copy_24 q1_234 ?_
      exact m_iret C hr hlk (by decide) (by decide) dX11_copy_26 ⟨_, rfl, i18, g22, (iv_wk kc_m1000001 (by decide))⟩
    · have b24 : IV a3 0 7 := ⟨by have q1 := (iv_any a3); omega, by have q1 := (iv_any a3); omega⟩
      show MW p l e _ s m args below meth c _ 8 G 0 0 12 [some (.ref (G.1 0 0)), some (.int a1), some (.int a2), some (.int a3), some (.int a4), some (.int a5), some (.ref (G.1 20 (a1.toInt.toNat))), none] [.ref (G.1 20 (a3.toInt.toNat))] τ17
      refine m_astore (L1 := [some (.ref (G.1 0 0)), some (.int a1), some (.int a2), some (.int a3), some (.int a4), some (.int a5), some (.ref (G.1 20 (a1.toInt.toNat))), some (.ref (G.1 20 (a3.toInt.toNat)))]) C dX11_copy_12 (by decide) rfl rfl ?_
      refine m_aload C dX11_copy_14 rfl ?_
      refine m_ifnull C dX11_copy_16 ?_
      refine m_aload C dX11_copy_19 rfl ?_
      refine m_ifnonnull (tgt := 27) C dX11_copy_21 (by decide) ?_
      refine m_aload C dX11_copy_27 rfl ?_
      refine m_callV (n := 0) (ci := 6) (st := []) C (c_X7_isMissing l G τ17 (j := (a1.toInt.toNat)) (iv_nat b16 (by decide))  i18 ) (by decide) (iv_nat b16 (by decide)) rfl rfl rfl q2_15 q2_12 q2_13 q2_14 q1_6 (by decide +kernel) rfl (by decide) (by decide) rfl (Nat.le_of_ble_eq_true rfl) dX11_copy_29 ?_
      rintro _ τ25 ⟨x28, rfl, i26, f27, b29⟩
      have g30 : Fr MS_X11_copy AS_X11_copy σ τ25 := Fr.call (g22) f27 (by decide)
      show MW p l e _ s m args below meth c _ 8 G 0 0 32 [some (.ref (G.1 0 0)), some (.int a1), some (.int a2), some (.int a3), some (.int a4), some (.int a5), some (.ref (G.1 20 (a1.toInt.toNat))), some (.ref (G.1 20 (a3.toInt.toNat)))] [.int x28] τ25
      refine m_if_ne (tgt := 43) C dX11_copy_32 (by decide) (fun c32 => ?_) (fun c32 => ?_)
      · have f33 : x28.toInt ≠ 0 := by
          have q : _ := c32
          simp only [ti_nle, ti_nlt, ti_le, ti_lt, ti_eq, ti_ne, Classical.not_not, kt_0] at q
          omega
        have b34 : IV x28 1 1 := ⟨by have q1 := b29; have q2 := kc_0; omega, by have q1 := b29; have q2 := kc_0; omega⟩
        refine m_aload_n C dX11_copy_43 rfl rfl ?_
        refine m_iconst (v := 1) C dX11_copy_44 (by decide) ?_
        refine m_callV (n := 1) (ci := 10) (st := []) C (c_X11_found l G τ25 (1) i26 (iv_wk kc_1 (by decide))) (by decide) (by decide) rfl rfl rfl q1_238 q1_235 q1_237 q0_1 q1_1 (by decide +kernel) rfl (by decide) (by decide) rfl (Nat.le_of_ble_eq_true rfl) dX11_copy_45 ?_
        rintro _ τ35 ⟨x38, rfl, i36, f37, b39, h41⟩
        have g40 : Fr MS_X11_copy AS_X11_copy σ τ35 := Fr.call (g30) f37 (by decide)
        have q42 := kt_1
        show MW p l e _ s m args below meth c _ 8 G 0 0 48 [some (.ref (G.1 0 0)), some (.int a1), some (.int a2), some (.int a3), some (.int a4), some (.int a5), some (.ref (G.1 20 (a1.toInt.toNat))), some (.ref (G.1 20 (a3.toInt.toNat)))] [.int x38] τ35
        exact m_iret C hr hlk (by decide) (by decide) dX11_copy_48 ⟨_, rfl, i36, g40, (iv_wk b39 (by decide))⟩
      · have f43 : x28.toInt = 0 := by
          have q : _ := c32
          simp only [ti_nle, ti_nlt, ti_le, ti_lt, ti_eq, ti_ne, Classical.not_not, kt_0] at q
          omega
        have b44 : IV x28 0 0 := ⟨by have q1 := b29; have q2 := kc_0; omega, by have q1 := b29; have q2 := kc_0; omega⟩
        refine m_aload C dX11_copy_35 rfl ?_
        refine m_callV (n := 0) (ci := 6) (st := []) C (c_X7_isMissing l G τ25 (j := (a3.toInt.toNat)) (iv_nat b24 (by decide))  i26 ) (by decide) (iv_nat b24 (by decide)) rfl rfl rfl q2_15 q2_12 q2_13 q2_14 q1_6 (by decide +kernel) rfl (by decide) (by decide) rfl (Nat.le_of_ble_eq_true rfl) dX11_copy_37 ?_
        rintro _ τ45 ⟨x48, rfl, i46, f47, b49⟩
        have g50 : Fr MS_X11_copy AS_X11_copy σ τ45 := Fr.call (g30) f47 (by decide)
        show MW p l e _ s m args below meth c _ 8 G 0 0 40 [some (.ref (G.1 0 0)), some (.int a1), some (.int a2), some (.int a3), some (.int a4), some (.int a5), some (.ref (G.1 20 (a1.toInt.toNat))), some (.ref (G.1 20 (a3.toInt.toNat)))] [.int x48] τ45
        refine m_if_eq (tgt := 49) C dX11_copy_40 (by decide) (fun c52 => ?_) (fun c52 => ?_)
        · have f53 : x48.toInt = 0 := by
            have q : _ := c52
            simp only [ti_nle, ti_nlt, ti_le, ti_lt, ti_eq, ti_ne, Classical.not_not, kt_0] at q
            omega
          have b54 : IV x48 0 0 := ⟨by have q1 := b49; have q2 := kc_0; omega, by have q1 := b49; have q2 := kc_0; omega⟩
          refine m_aload C dX11_copy_49 rfl ?_
          refine g_20_1 C (iv_nat b16 (by decide)) q1_175 dX11_copy_51 ?_
          refine m_topi (fun x55 ex55 => ?_)
          refine m_aload C dX11_copy_54 rfl ?_
          refine g_20_1 C (iv_nat b24 (by decide)) q1_175 dX11_copy_56 ?_
          refine m_topi (fun x56 ex56 => ?_)
          refine m_icmp_eq (tgt := 68) C dX11_copy_59 (by decide) (fun c57 => ?_) (fun c57 => ?_)
          · have f58 : x55.toInt = x56.toInt := by
              have q : _ := c57
              simp only [ti_nle, ti_nlt, ti_le, ti_lt, ti_eq, ti_ne, Classical.not_not] at q
              omega
            refine m_aload C dX11_copy_68 rfl ?_
            refine m_iload_n C dX11_copy_70 rfl rfl ?_
            refine m_iload C dX11_copy_71 rfl ?_
            refine m_callV (n := 2) (ci := 6) (st := []) C (c_X7_reaches l G τ45 (j := (a1.toInt.toNat)) (iv_nat b16 (by decide)) (a2) (a5) i46 ) (by decide) (iv_nat b16 (by decide)) rfl rfl rfl q2_27 q2_24 q2_25 q2_26 q1_6 (by decide +kernel) rfl (by decide) (by decide) rfl (Nat.le_of_ble_eq_true rfl) dX11_copy_73 ?_
            rintro _ τ59 ⟨x62, rfl, i60, f61, b63, h65⟩
            have g64 : Fr MS_X11_copy AS_X11_copy σ τ59 := Fr.call (g50) f61 (by decide)
            show MW p l e _ s m args below meth c _ 8 G 0 0 76 [some (.ref (G.1 0 0)), some (.int a1), some (.int a2), some (.int a3), some (.int a4), some (.int a5), some (.ref (G.1 20 (a1.toInt.toNat))), some (.ref (G.1 20 (a3.toInt.toNat)))] [.int x62] τ59
            refine m_if_eq (tgt := 91) C dX11_copy_76 (by decide) (fun c66 => ?_) (fun c66 => ?_)
            · have f67 : x62.toInt = 0 := by
                have q : _ := c66
                simp only [ti_nle, ti_nlt, ti_le, ti_lt, ti_eq, ti_ne, Classical.not_not, kt_0] at q
                omega
              have b68 : IV x62 0 0 := ⟨by have q1 := b63; have q2 := kc_0; omega, by have q1 := b63; have q2 := kc_0; omega⟩
              refine m_aload_n C dX11_copy_91 rfl rfl ?_
              refine m_iconst (v := 2) C dX11_copy_92 (by decide) ?_
              refine m_callV (n := 1) (ci := 10) (st := []) C (c_X11_found l G τ59 (2) i60 (iv_wk kc_2 (by decide))) (by decide) (by decide) rfl rfl rfl q1_238 q1_235 q1_237 q0_1 q1_1 (by decide +kernel) rfl (by decide) (by decide) rfl (Nat.le_of_ble_eq_true rfl) dX11_copy_93 ?_
              rintro _ τ69 ⟨x72, rfl, i70, f71, b73, h75⟩
              have g74 : Fr MS_X11_copy AS_X11_copy σ τ69 := Fr.call (g64) f71 (by decide)
              have q76 := kt_2
              show MW p l e _ s m args below meth c _ 8 G 0 0 96 [some (.ref (G.1 0 0)), some (.int a1), some (.int a2), some (.int a3), some (.int a4), some (.int a5), some (.ref (G.1 20 (a1.toInt.toNat))), some (.ref (G.1 20 (a3.toInt.toNat)))] [.int x72] τ69
              exact m_iret C hr hlk (by decide) (by decide) dX11_copy_96 ⟨_, rfl, i70, g74, (iv_wk b73 (by decide))⟩
            · have f77 : x62.toInt ≠ 0 := by
                have q : _ := c66
                simp only [ti_nle, ti_nlt, ti_le, ti_lt, ti_eq, ti_ne, Classical.not_not, kt_0] at q
                omega
              have b78 : IV x62 1 1 := ⟨by have q1 := b63; have q2 := kc_0; omega, by have q1 := b63; have q2 := kc_0; omega⟩
              refine m_aload C dX11_copy_79 rfl ?_
              refine m_iload C dX11_copy_81 rfl ?_
              refine m_iload C dX11_copy_83 rfl ?_
              refine m_callV (n := 2) (ci := 6) (st := []) C (c_X7_reaches l G τ59 (j := (a3.toInt.toNat)) (iv_nat b24 (by decide)) (a4) (a5) i60 ) (by decide) (iv_nat b24 (by decide)) rfl rfl rfl q2_27 q2_24 q2_25 q2_26 q1_6 (by decide +kernel) rfl (by decide) (by decide) rfl (Nat.le_of_ble_eq_true rfl) dX11_copy_85 ?_
              rintro _ τ79 ⟨x82, rfl, i80, f81, b83, h85⟩
              have g84 : Fr MS_X11_copy AS_X11_copy σ τ79 := Fr.call (g64) f81 (by decide)
              show MW p l e _ s m args below meth c _ 8 G 0 0 88 [some (.ref (G.1 0 0)), some (.int a1), some (.int a2), some (.int a3), some (.int a4), some (.int a5), some (.ref (G.1 20 (a1.toInt.toNat))), some (.ref (G.1 20 (a3.toInt.toNat)))] [.int x82] τ79
              refine m_if_ne (tgt := 97) C dX11_copy_88 (by decide) (fun c86 => ?_) (fun c86 => ?_)
              · have f87 : x82.toInt ≠ 0 := by
                  have q : _ := c86
                  simp only [ti_nle, ti_nlt, ti_le, ti_lt, ti_eq, ti_ne, Classical.not_not, kt_0] at q
                  omega
                have b88 : IV x82 1 1 := ⟨by have q1 := b83; have q2 := kc_0; omega, by have q1 := b83; have q2 := kc_0; omega⟩
                refine m_aload C dX11_copy_97 rfl ?_
                refine g_20_0 C (iv_nat b16 (by decide)) q1_173 dX11_copy_99 ?_
                refine m_iload_n C dX11_copy_102 rfl rfl ?_
                refine m_aload C dX11_copy_103 rfl ?_
                refine g_20_0 C (iv_nat b24 (by decide)) q1_173 dX11_copy_105 ?_
                refine m_iload C dX11_copy_108 rfl ?_
                refine m_iload C dX11_copy_110 rfl ?_
                have q89 := (iv_any a5)
                have q90 := kt_0
                refine m_copy (t0 := 21) (n0 := 40) (t1 := 21) (n1 := 40) (st := []) C (by decide) (iv_nat b16 (by decide)) rfl (by decide) (iv_nat b24 (by decide)) (fun _ => rfl) ⟨by omega, by omega, by omega, by omega, by omega⟩ q2_28 q2_30 q2_29 q1_8 ⟨by decide, by decide +kernel⟩ dX11_copy_112 ?_
                refine m_tops (fun τ91 eτ91 => ?_)
                have i92 : Inv τ91 := eτ91 ▸ Inv.putRow i80 (by decide) (fun _ => rfl)
                have f93 : Fr MS_X11_copy AS_X11_copy σ τ91 := eτ91 ▸ Fr.putRow (g84) (by decide)
                refine m_aload_n C dX11_copy_115 rfl rfl ?_
                refine m_iload C dX11_copy_116 rfl ?_
                refine m_callV (n := 1) (ci := 10) (st := []) C (c_X11_clean l G τ91 (a5) i92 ) (by decide) (by decide) rfl rfl rfl q2_7 q2_4 q2_6 q0_2 q1_1 (by decide +kernel) rfl (by decide) (by decide) rfl (Nat.le_of_ble_eq_true rfl) dX11_copy_118 ?_
                rintro _ τ94 ⟨x97, rfl, i95, f96, b98, h100⟩
                have g99 : Fr MS_X11_copy AS_X11_copy σ τ94 := Fr.call (f93) f96 (by decide)
                show MW p l e _ s m args below meth c _ 8 G 0 0 121 [some (.ref (G.1 0 0)), some (.int a1), some (.int a2), some (.int a3), some (.int a4), some (.int a5), some (.ref (G.1 20 (a1.toInt.toNat))), some (.ref (G.1 20 (a3.toInt.toNat)))] [.int x97] τ94
                exact m_iret C hr hlk (by decide) (by decide) dX11_copy_121 ⟨_, rfl, i95, g99, b98⟩
              · have f101 : x82.toInt = 0 := by
                  have q : _ := c86
                  simp only [ti_nle, ti_nlt, ti_le, ti_lt, ti_eq, ti_ne, Classical.not_not, kt_0] at q
                  omega
                have b102 : IV x82 0 0 := ⟨by have q1 := b83; have q2 := kc_0; omega, by have q1 := b83; have q2 := kc_0; omega⟩
                refine m_aload_n C dX11_copy_91 rfl rfl ?_
                refine m_iconst (v := 2) C dX11_copy_92 (by decide) ?_
                refine m_callV (n := 1) (ci := 10) (st := []) C (c_X11_found l G τ79 (2) i80 (iv_wk kc_2 (by decide))) (by decide) (by decide) rfl rfl rfl q1_238 q1_235 q1_237 q0_1 q1_1 (by decide +kernel) rfl (by decide) (by decide) rfl (Nat.le_of_ble_eq_true rfl) dX11_copy_93 ?_
                rintro _ τ103 ⟨x106, rfl, i104, f105, b107, h109⟩
                have g108 : Fr MS_X11_copy AS_X11_copy σ τ103 := Fr.call (g84) f105 (by decide)
                have q110 := kt_2
                show MW p l e _ s m args below meth c _ 8 G 0 0 96 [some (.ref (G.1 0 0)), some (.int a1), some (.int a2), some (.int a3), some (.int a4), some (.int a5), some (.ref (G.1 20 (a1.toInt.toNat))), some (.ref (G.1 20 (a3.toInt.toNat)))] [.int x106] τ103
                exact m_iret C hr hlk (by decide) (by decide) dX11_copy_96 ⟨_, rfl, i104, g108, (iv_wk b107 (by decide))⟩
          · have f111 : x55.toInt ≠ x56.toInt := by
              have q : _ := c57
              simp only [ti_nle, ti_nlt, ti_le, ti_lt, ti_eq, ti_ne, Classical.not_not] at q
              omega
            refine m_aload_n C dX11_copy_62 rfl rfl ?_
            refine m_iconst (v := 5) C dX11_copy_63 (by decide) ?_
            refine m_callV (n := 1) (ci := 10) (st := []) C (c_X11_found l G τ45 (5) i46 (iv_wk kc_5 (by decide))) (by decide) (by decide) rfl rfl rfl q1_238 q1_235 q1_237 q0_1 q1_1 (by decide +kernel) rfl (by decide) (by decide) rfl (Nat.le_of_ble_eq_true rfl) dX11_copy_64 ?_
            rintro _ τ112 ⟨x115, rfl, i113, f114, b116, h118⟩
            have g117 : Fr MS_X11_copy AS_X11_copy σ τ112 := Fr.call (g50) f114 (by decide)
            have q119 := kt_5
            show MW p l e _ s m args below meth c _ 8 G 0 0 67 [some (.ref (G.1 0 0)), some (.int a1), some (.int a2), some (.int a3), some (.int a4), some (.int a5), some (.ref (G.1 20 (a1.toInt.toNat))), some (.ref (G.1 20 (a3.toInt.toNat)))] [.int x115] τ112
            exact m_iret C hr hlk (by decide) (by decide) dX11_copy_67 ⟨_, rfl, i113, g117, (iv_wk b116 (by decide))⟩
        · have f120 : x48.toInt ≠ 0 := by
            have q : _ := c52
            simp only [ti_nle, ti_nlt, ti_le, ti_lt, ti_eq, ti_ne, Classical.not_not, kt_0] at q
            omega
          have b121 : IV x48 1 1 := ⟨by have q1 := b49; have q2 := kc_0; omega, by have q1 := b49; have q2 := kc_0; omega⟩
          refine m_aload_n C dX11_copy_43 rfl rfl ?_
          refine m_iconst (v := 1) C dX11_copy_44 (by decide) ?_
          refine m_callV (n := 1) (ci := 10) (st := []) C (c_X11_found l G τ45 (1) i46 (iv_wk kc_1 (by decide))) (by decide) (by decide) rfl rfl rfl q1_238 q1_235 q1_237 q0_1 q1_1 (by decide +kernel) rfl (by decide) (by decide) rfl (Nat.le_of_ble_eq_true rfl) dX11_copy_45 ?_
          rintro _ τ122 ⟨x125, rfl, i123, f124, b126, h128⟩
          have g127 : Fr MS_X11_copy AS_X11_copy σ τ122 := Fr.call (g50) f124 (by decide)
          have q129 := kt_1
          show MW p l e _ s m args below meth c _ 8 G 0 0 48 [some (.ref (G.1 0 0)), some (.int a1), some (.int a2), some (.int a3), some (.int a4), some (.int a5), some (.ref (G.1 20 (a1.toInt.toNat))), some (.ref (G.1 20 (a3.toInt.toNat)))] [.int x125] τ122
          exact m_iret C hr hlk (by decide) (by decide) dX11_copy_48 ⟨_, rfl, i123, g127, (iv_wk b126 (by decide))⟩

abbrev MS_X11_drop : List (Nat × Nat) := [(0, 12), (20, 1), (20, 2)]
abbrev AS_X11_drop : List Nat := []
set_option maxHeartbeats 4000000 in
set_option maxRecDepth 100000 in
theorem c_X11_drop (l : Launch) (G : Gt) (σ : Sg) (a1 : Int32) (hI : Inv σ) : Mc l G yX11_drop cX11_drop 4 (some .int) 1 21 0 0 [.ref (G.1 0 0), .int a1] σ (PI fun r τ => Inv τ ∧ Fr MS_X11_drop AS_X11_drop σ τ ∧ IV r (-2147483648) 2147483647) := by
  refine Mc.of (L0 := [some (.ref (G.1 0 0)), some (.int a1), none, none]) (by decide) (Nat.le_of_ble_eq_true rfl) rfl ?_
  intro p e s m args below meth c C hr hlk
  have C : Cx p s m args c cX11_drop 4 "LeanTower" := C
  have k0 : (0 : Int32).toInt = 0 := by decide
  have k1 : (1 : Int32).toInt = 1 := by decide
  refine m_aload_n C dX11_drop_0 rfl rfl ?_
  refine m_iload_n C dX11_drop_1 rfl rfl ?_
  refine m_callV (n := 1) (ci := 10) (st := []) C (c_X11_rowAt l G σ (a1) hI ) (by decide) (by decide) rfl rfl rfl q1_233 q1_230 q1_232 q0_0 q1_1 (by decide +kernel) rfl (by decide) (by decide) rfl (Nat.le_of_ble_eq_true rfl) dX11_drop_2 ?_
  rintro _ τ1 ⟨x4, rfl, i2, f3, h7⟩
  have g6 : Fr MS_X11_drop AS_X11_drop σ τ1 := Fr.call (Fr.rf) f3 (by decide)
  rcases h7 with ⟨rfl, x4q⟩ | ⟨rfl, x4q⟩
  · skip
    show MW p l e _ s m args below meth c _ 4 G 0 0 5 [some (.ref (G.1 0 0)), some (.int a1), none, none] [.null] τ1
    refine m_astore_nN (L1 := [some (.ref (G.1 0 0)), some (.int a1), some (.null), none]) C dX11_drop_5 rfl (by decide) rfl rfl ?_
    refine m_aload_nN C dX11_drop_6 rfl rfl ?_
    refine m_ifnonnullN C dX11_drop_7 ?_
    refine m_ldc (v := (-1000001)) C dX11_drop_10 q1_234 ?_
    exact m_iret C hr hlk (by decide) (by decide) dX11_drop_12 ⟨_, rfl, i2, g6, (iv_wk kc_m1000001 (by decide))⟩
  · have b8 : IV a1 0 7 := ⟨by have q1 := (iv_any a1); omega, by have q1 := (iv_any a1); omega⟩
    show MW p l e _ s m args below meth c _ 4 G 0 0 5 [some (.ref (G.1 0 0)), some (.int a1), none, none] [.ref (G.1 20 (a1.toInt.toNat))] τ1
    refine m_astore_n (L1 := [some (.ref (G.1 0 0)), some (.int a1), some (.ref (G.1 20 (a1.toInt.toNat))), none]) C dX11_drop_5 rfl (by decide) rfl rfl ?_
    refine m_aload_n C dX11_drop_6 rfl rfl ?_
    refine m_ifnonnull (tgt := 13) C dX11_drop_7 (by decide) ?_
    refine m_aload_n C dX11_drop_13 rfl rfl ?_
    refine m_callV (n := 0) (ci := 6) (st := []) C (c_X7_isMissing l G τ1 (j := (a1.toInt.toNat)) (iv_nat b8 (by decide))  i2 ) (by decide) (iv_nat b8 (by decide)) rfl rfl rfl q2_15 q2_12 q2_13 q2_14 q1_6 (by decide +kernel) rfl (by decide) (by decide) rfl (Nat.le_of_ble_eq_true rfl) dX11_drop_14 ?_
    rintro _ τ9 ⟨x12, rfl, i10, f11, b13⟩
    have g14 : Fr MS_X11_drop AS_X11_drop σ τ9 := Fr.call (g6) f11 (by decide)
    show MW p l e _ s m args below meth c _ 4 G 0 0 17 [some (.ref (G.1 0 0)), some (.int a1), some (.ref (G.1 20 (a1.toInt.toNat))), none] [.int x12] τ9
    refine m_if_eq (tgt := 26) C dX11_drop_17 (by decide) (fun c16 => ?_) (fun c16 => ?_)
    · have f17 : x12.toInt = 0 := by
        have q : _ := c16
        simp only [ti_nle, ti_nlt, ti_le, ti_lt, ti_eq, ti_ne, Classical.not_not, kt_0] at q
        omega
      have b18 : IV x12 0 0 := ⟨by have q1 := b13; have q2 := kc_0; omega, by have q1 := b13; have q2 := kc_0; omega⟩
      refine m_aload_n C dX11_drop_26 rfl rfl ?_
      refine g_20_2 C (iv_nat b8 (by decide)) q1_177 dX11_drop_27 ?_
      refine m_topi (fun x19 ex19 => ?_)
      have b20 : IV x19 0 40 := by rw [ex19]; exact i10.1 20 (a1.toInt.toNat) 2
      refine m_istore_n (L1 := [some (.ref (G.1 0 0)), some (.int a1), some (.ref (G.1 20 (a1.toInt.toNat))), some (.int x19)]) C dX11_drop_30 rfl (by decide) rfl rfl ?_
      refine m_aload_n C dX11_drop_31 rfl rfl ?_
      refine m_callV (n := 0) (ci := 6) (st := []) C (c_X7_end l G τ9 (j := (a1.toInt.toNat)) (iv_nat b8 (by decide))  i10 ) (by decide) (iv_nat b8 (by decide)) rfl rfl rfl q2_38 q2_35 q2_36 q2_37 q1_6 (by decide +kernel) rfl (by decide) (by decide) rfl (Nat.le_of_ble_eq_true rfl) dX11_drop_32 ?_
      rintro _ τ21 ⟨rfl, i22, f23⟩
      have g26 : Fr MS_X11_drop AS_X11_drop σ τ21 := Fr.call (g14) f23 (by decide)
      show MW p l e _ s m args below meth c _ 4 G 0 0 35 [some (.ref (G.1 0 0)), some (.int a1), some (.ref (G.1 20 (a1.toInt.toNat))), some (.int x19)] [] τ21
      refine m_aload_n C dX11_drop_35 rfl rfl ?_
      refine m_iload_n C dX11_drop_36 rfl rfl ?_
      refine m_callV (n := 1) (ci := 10) (st := []) C (c_X11_clean l G τ21 (x19) i22 ) (by decide) (by decide) rfl rfl rfl q2_7 q2_4 q2_6 q0_2 q1_1 (by decide +kernel) rfl (by decide) (by decide) rfl (Nat.le_of_ble_eq_true rfl) dX11_drop_37 ?_
      rintro _ τ28 ⟨x31, rfl, i29, f30, b32, h34⟩
      have g33 : Fr MS_X11_drop AS_X11_drop σ τ28 := Fr.call (g26) f30 (by decide)
      show MW p l e _ s m args below meth c _ 4 G 0 0 40 [some (.ref (G.1 0 0)), some (.int a1), some (.ref (G.1 20 (a1.toInt.toNat))), some (.int x19)] [.int x31] τ28
      exact m_iret C hr hlk (by decide) (by decide) dX11_drop_40 ⟨_, rfl, i29, g33, b32⟩
    · have f35 : x12.toInt ≠ 0 := by
        have q : _ := c16
        simp only [ti_nle, ti_nlt, ti_le, ti_lt, ti_eq, ti_ne, Classical.not_not, kt_0] at q
        omega
      have b36 : IV x12 1 1 := ⟨by have q1 := b13; have q2 := kc_0; omega, by have q1 := b13; have q2 := kc_0; omega⟩
      refine m_aload_n C dX11_drop_20 rfl rfl ?_
      refine m_iconst (v := 1) C dX11_drop_21 (by decide) ?_
      refine m_callV (n := 1) (ci := 10) (st := []) C (c_X11_found l G τ9 (1) i10 (iv_wk kc_1 (by decide))) (by decide) (by decide) rfl rfl rfl q1_238 q1_235 q1_237 q0_1 q1_1 (by decide +kernel) rfl (by decide) (by decide) rfl (Nat.le_of_ble_eq_true rfl) dX11_drop_22 ?_
      rintro _ τ37 ⟨x40, rfl, i38, f39, b41, h43⟩
      have g42 : Fr MS_X11_drop AS_X11_drop σ τ37 := Fr.call (g14) f39 (by decide)
      have q44 := kt_1
      show MW p l e _ s m args below meth c _ 4 G 0 0 25 [some (.ref (G.1 0 0)), some (.int a1), some (.ref (G.1 20 (a1.toInt.toNat))), none] [.int x40] τ37
      exact m_iret C hr hlk (by decide) (by decide) dX11_drop_25 ⟨_, rfl, i38, g42, (iv_wk b41 (by decide))⟩

abbrev MS_X11_feed : List (Nat × Nat) := [(12, 1)]
abbrev AS_X11_feed : List Nat := [13]
set_option maxHeartbeats 4000000 in
set_option maxRecDepth 100000 in
theorem c_X11_feed (l : Launch) (G : Gt) (σ : Sg) (a1 : Int64) (a2 : Int32) (hI : Inv σ) : Mc l G yX11_feed cX11_feed 5 (some .int) 1 21 0 0 [.ref (G.1 0 0), .long a1, .int a2] σ (PI fun r τ => Inv τ ∧ Fr MS_X11_feed AS_X11_feed σ τ ∧ IV r (-1000003) 400) := by
  refine Mc.of (L0 := [some (.ref (G.1 0 0)), some (.long a1), none, some (.int a2), none]) (by decide) (Nat.le_of_ble_eq_true rfl) rfl ?_
  intro p e s m args below meth c C hr hlk
  have C : Cx p s m args c cX11_feed 5 "LeanTower" := C
  have k0 : (0 : Int32).toInt = 0 := by decide
  have k1 : (1 : Int32).toInt = 1 := by decide
  have J37 : ∀ (n : Nat) (τ : Sg) (y4 : Int32), Inv τ → Fr MS_X11_feed AS_X11_feed σ τ → IV a2 1 8 → IV y4 (-1) 7 → (y4.toInt - (-1)).toNat < n → MW p l e { frames := 1, cells := 0, slots := 0, locals := 21 } s m args below meth c (MQ below (QP G (PI fun r τ => Inv τ ∧ Fr MS_X11_feed AS_X11_feed σ τ ∧ IV r (-1000003) 400)) args s 0 0 (aG G)) 5 G 0 0 37 [some (.ref (G.1 0 0)), some (.long a1), none, none, some (.int y4)] [] τ := by
    intro n
    induction n with
    | zero => intro τ y4 iτ fτ b_a2 b_y4 hm; exact absurd hm (Nat.not_lt_zero _)
    | succ n ih37 =>
      intro τ y4 iτ fτ b_a2 b_y4 hm37
      refine m_iload C dX11_feed_37 rfl ?_
      refine m_if_lt (tgt := 64) C dX11_feed_39 (by decide) (fun c1 => ?_) (fun c1 => ?_)
      · have f2 : y4.toInt < 0 := by
          have q : _ := c1
          simp only [ti_nle, ti_nlt, ti_le, ti_lt, ti_eq, ti_ne, Classical.not_not, kt_0] at q
          omega
        have b3 : IV y4 (-1) (-1) := ⟨by have q1 := b_y4; have q2 := kc_0; omega, by have q1 := b_y4; have q2 := kc_0; omega⟩
        refine m_aload_n C dX11_feed_64 rfl rfl ?_
        refine g_0_1 C q1_187 dX11_feed_65 ?_
        refine g_12_1 C q1_39 dX11_feed_68 ?_
        refine m_topi (fun x4 ex4 => ?_)
        have b5 : IV x4 0 400 := by rw [ex4]; exact iτ.1 12 0 1
        exact m_iret C hr hlk (by decide) (by decide) dX11_feed_71 ⟨_, rfl, iτ, fτ, (iv_wk b5 (by decide))⟩
      · have f6 : 0 ≤ y4.toInt := by
          have q : _ := c1
          simp only [ti_nle, ti_nlt, ti_le, ti_lt, ti_eq, ti_ne, Classical.not_not, kt_0] at q
          omega
        have b7 : IV y4 0 7 := ⟨by have q1 := kc_0; have q2 := b_y4; omega, by have q1 := kc_0; have q2 := b_y4; omega⟩
        refine m_aload_n C dX11_feed_42 rfl rfl ?_
        refine g_0_1 C q1_187 dX11_feed_43 ?_
        refine m_lload_n C dX11_feed_46 rfl rfl ?_
        refine m_bipush (v := 8) C dX11_feed_47 (by decide) ?_
        refine m_iload C dX11_feed_49 rfl ?_
        refine m_imul C dX11_feed_51 ?_
        refine m_topi (fun x8 ex8 => ?_)
        have tx8 : x8.toInt = 8 * y4.toInt := by rw [ex8, ti_mulv kc_8 b7 (by decide), kt_8]
        have b9 : IV x8 0 56 := by rw [ex8]; exact iv_mul kc_8 b7 (by decide)
        refine m_lshr C dX11_feed_52 ?_
        refine m_topl (fun w10 ew10 => ?_)
        refine m_l2i C dX11_feed_53 ?_
        refine m_topi (fun x11 ex11 => ?_)
        refine m_i2b C dX11_feed_54 ?_
        refine m_topi (fun x12 ex12 => ?_)
        refine m_callV (n := 1) (ci := 5) (st := []) C (c_X6_append l G τ (x12) iτ ) (by decide) (by decide) rfl rfl rfl q2_47 q2_44 q2_45 q2_46 q1_2 (by decide +kernel) rfl (by decide) (by decide) rfl (Nat.le_of_ble_eq_true rfl) dX11_feed_55 ?_
        rintro _ τ13 ⟨rfl, i14, f15⟩
        have g18 : Fr MS_X11_feed AS_X11_feed σ τ13 := Fr.call (fτ) f15 (by decide)
        show MW p l e _ s m args below meth c _ 5 G 0 0 58 [some (.ref (G.1 0 0)), some (.long a1), none, none, some (.int y4)] [] τ13
        obtain ⟨x20, ex20⟩ : ∃ y : Int32, y = y4 + (-1) := ⟨_, rfl⟩
        have tx20 : x20.toInt = y4.toInt + (-1) := by rw [ex20, ti_addv b7 kc_m1 (by decide), kt_m1]
        have b21 : IV x20 (-1) 6 := by rw [ex20]; exact iv_add b7 kc_m1 (by decide)
        refine m_iinc (v := x20) (L1 := [some (.ref (G.1 0 0)), some (.long a1), none, none, some (.int x20)]) C dX11_feed_58 rfl (by rw [ex20]; rfl) (by decide) rfl rfl ?_
        refine m_goto (tgt := 37) C dX11_feed_61 (by decide) ?_
        exact ih37 τ13 x20 i14 g18 b_a2 (iv_wk b21 (by decide)) (by have q := hm37; omega)
  refine m_iload_n C dX11_feed_0 rfl rfl ?_
  refine m_iconst (v := 1) C dX11_feed_1 (by decide) ?_
  refine m_icmp_lt (tgt := 11) C dX11_feed_2 (by decide) (fun c22 => ?_) (fun c22 => ?_)
  · have f23 : a2.toInt < 1 := by
      have q : _ := c22
      simp only [ti_nle, ti_nlt, ti_le, ti_lt, ti_eq, ti_ne, Classical.not_not, kt_1] at q
      omega
    have b24 : IV a2 (-2147483648) 0 := ⟨by have q1 := (iv_any a2); have q2 := kc_1; omega, by have q1 := (iv_any a2); have q2 := kc_1; omega⟩
    refine m_ldc (v := (-1000001)) C dX11_feed_11 q1_234 ?_
    exact m_iret C hr hlk (by decide) (by decide) dX11_feed_13 ⟨_, rfl, hI, Fr.rf, (iv_wk kc_m1000001 (by decide))⟩
  · have f25 : 1 ≤ a2.toInt := by
      have q : _ := c22
      simp only [ti_nle, ti_nlt, ti_le, ti_lt, ti_eq, ti_ne, Classical.not_not, kt_1] at q
      omega
    have b26 : IV a2 1 2147483647 := ⟨by have q1 := kc_1; have q2 := (iv_any a2); omega, by have q1 := kc_1; have q2 := (iv_any a2); omega⟩
    refine m_iload_n C dX11_feed_5 rfl rfl ?_
    refine m_bipush (v := 8) C dX11_feed_6 (by decide) ?_
    refine m_icmp_le (tgt := 14) C dX11_feed_8 (by decide) (fun c27 => ?_) (fun c27 => ?_)
    · have f28 : a2.toInt ≤ 8 := by
        have q : _ := c27
        simp only [ti_nle, ti_nlt, ti_le, ti_lt, ti_eq, ti_ne, Classical.not_not, kt_8] at q
        omega
      have b29 : IV a2 1 8 := ⟨by have q1 := b26; have q2 := kc_8; omega, by have q1 := b26; have q2 := kc_8; omega⟩
      refine m_aload_n C dX11_feed_14 rfl rfl ?_
      refine g_0_1 C q1_187 dX11_feed_15 ?_
      refine g_12_1 C q1_39 dX11_feed_18 ?_
      refine m_topi (fun x30 ex30 => ?_)
      have b31 : IV x30 0 400 := by rw [ex30]; exact hI.1 12 0 1
      refine m_iload_n C dX11_feed_21 rfl rfl ?_
      refine m_iadd C dX11_feed_22 ?_
      refine m_topi (fun x32 ex32 => ?_)
      have tx32 : x32.toInt = x30.toInt + a2.toInt := by rw [ex32, ti_addv b31 b29 (by decide)]
      have b33 : IV x32 1 408 := by rw [ex32]; exact iv_add b31 b29 (by decide)
      refine m_sipush (v := 400) C dX11_feed_23 (by decide) ?_
      refine m_icmp_le (tgt := 32) C dX11_feed_26 (by decide) (fun c34 => ?_) (fun c34 => ?_)
      · have f35 : x32.toInt ≤ 400 := by
          have q : _ := c34
          simp only [ti_nle, ti_nlt, ti_le, ti_lt, ti_eq, ti_ne, Classical.not_not, kt_400] at q
          omega
        have b36 : IV x32 1 400 := ⟨by have q1 := b33; have q2 := kc_400; omega, by have q1 := b33; have q2 := kc_400; omega⟩
        refine m_iload_n C dX11_feed_32 rfl rfl ?_
        refine m_iconst (v := 1) C dX11_feed_33 (by decide) ?_
        refine m_isub C dX11_feed_34 ?_
        refine m_topi (fun x37 ex37 => ?_)
        have tx37 : x37.toInt = a2.toInt - 1 := by rw [ex37, ti_subv b29 kc_1 (by decide), kt_1]
        have b38 : IV x37 0 7 := by rw [ex37]; exact iv_sub b29 kc_1 (by decide)
        refine m_istore (L1 := [some (.ref (G.1 0 0)), some (.long a1), none, some (.int a2), some (.int x37)]) C dX11_feed_35 (by decide) rfl rfl ?_
        refine m_sub (L1 := [some (.ref (G.1 0 0)), some (.long a1), none, none, some (.int x37)]) ⟨rfl, ⟨rfl, ⟨rfl, trivial⟩⟩⟩ ?_
        exact J37 ((x37.toInt - (-1)).toNat + 1) σ x37 hI Fr.rf b29 (iv_wk b38 (by decide)) (Nat.lt_succ_self _)
      · have f39 : 400 < x32.toInt := by
          have q : _ := c34
          simp only [ti_nle, ti_nlt, ti_le, ti_lt, ti_eq, ti_ne, Classical.not_not, kt_400] at q
          omega
        have b40 : IV x32 401 408 := ⟨by have q1 := kc_400; have q2 := b33; omega, by have q1 := kc_400; have q2 := b33; omega⟩
        refine m_ldc (v := (-1000003)) C dX11_feed_29 q2_43 ?_
        exact m_iret C hr hlk (by decide) (by decide) dX11_feed_31 ⟨_, rfl, hI, Fr.rf, (iv_wk kc_m1000003 (by decide))⟩
    · have f41 : 8 < a2.toInt := by
        have q : _ := c27
        simp only [ti_nle, ti_nlt, ti_le, ti_lt, ti_eq, ti_ne, Classical.not_not, kt_8] at q
        omega
      have b42 : IV a2 9 2147483647 := ⟨by have q1 := kc_8; have q2 := b26; omega, by have q1 := kc_8; have q2 := b26; omega⟩
      refine m_ldc (v := (-1000001)) C dX11_feed_11 q1_234 ?_
      exact m_iret C hr hlk (by decide) (by decide) dX11_feed_13 ⟨_, rfl, hI, Fr.rf, (iv_wk kc_m1000001 (by decide))⟩

abbrev MS_X11_tower : List (Nat × Nat) := [(0, 6), (1, 0), (1, 1), (1, 2), (1, 3), (1, 9), (1, 10), (1, 11), (12, 1), (12, 2), (12, 3), (12, 4), (12, 5), (12, 6), (12, 7)]
abbrev AS_X11_tower : List Nat := [2, 3, 4, 5, 6, 99]
set_option maxHeartbeats 4000000 in
set_option maxRecDepth 100000 in
theorem c_X11_tower (l : Launch) (G : Gt) (σ : Sg) (hI : Inv σ) : Mc l G yX11_tower cX11_tower 1 (some .int) 8 181 8 24 [.ref (G.1 0 0)] σ (PI fun r τ => Inv τ ∧ Fr MS_X11_tower AS_X11_tower σ τ ∧ IV r (-2147483648) 2147483647) := by
  refine Mc.of (L0 := [some (.ref (G.1 0 0))]) (by decide) (Nat.le_of_ble_eq_true rfl) rfl ?_
  intro p e s m args below meth c C hr hlk
  have C : Cx p s m args c cX11_tower 1 "LeanTower" := C
  have k0 : (0 : Int32).toInt = 0 := by decide
  have k1 : (1 : Int32).toInt = 1 := by decide
  refine m_aload_n C dX11_tower_0 rfl rfl ?_
  refine g_0_1 C q1_187 dX11_tower_1 ?_
  refine m_aload_n C dX11_tower_4 rfl rfl ?_
  refine g_0_3 C q1_189 dX11_tower_5 ?_
  refine m_callV (n := 1) (ci := 5) (st := []) C (c_X6_readInto l G σ (j2 := 1) (by decide) hI ) (by decide) (by decide) rfl rfl rfl q2_55 q2_52 q2_53 q2_54 q1_2 (by decide +kernel) rfl (by decide) (by decide) rfl (Nat.le_of_ble_eq_true rfl) dX11_tower_8 ?_
  rintro _ τ1 ⟨x4, rfl, i2, f3, b5⟩
  have g6 : Fr MS_X11_tower AS_X11_tower σ τ1 := Fr.call (Fr.rf) f3 (by decide)
  show MW p l e _ s m args below meth c _ 1 G 8 24 11 [some (.ref (G.1 0 0))] [.int x4] τ1
  refine m_if_ne (tgt := 25) C dX11_tower_11 (by decide) (fun c8 => ?_) (fun c8 => ?_)
  · have f9 : x4.toInt ≠ 0 := by
      have q : _ := c8
      simp only [ti_nle, ti_nlt, ti_le, ti_lt, ti_eq, ti_ne, Classical.not_not, kt_0] at q
      omega
    have b10 : IV x4 1 1 := ⟨by have q1 := b5; have q2 := kc_0; omega, by have q1 := b5; have q2 := kc_0; omega⟩
    refine m_aload_n C dX11_tower_25 rfl rfl ?_
    refine g_0_2 C q1_188 dX11_tower_26 ?_
    refine m_aload_n C dX11_tower_29 rfl rfl ?_
    refine g_0_3 C q1_189 dX11_tower_30 ?_
    refine m_callV (n := 1) (ci := 7) (st := []) C (c_X8_takeFrom l G τ1 (j := 0) (by decide) (j2 := 1) (by decide) i2 ) (by decide) (by decide) rfl rfl rfl q3_9 q3_6 q3_7 q3_8 q1_3 (by decide +kernel) rfl (by decide) (by decide) rfl (Nat.le_of_ble_eq_true rfl) dX11_tower_33 ?_
    rintro _ τ11 ⟨rfl, i12, f13⟩
    have g16 : Fr MS_X11_tower AS_X11_tower σ τ11 := Fr.call (g6) f13 (by decide)
    show MW p l e _ s m args below meth c _ 1 G 8 24 36 [some (.ref (G.1 0 0))] [] τ11
    refine m_aload_n C dX11_tower_36 rfl rfl ?_
    refine m_iconst (v := 0) C dX11_tower_37 (by decide) ?_
    refine p_0_6 C q1_192 dX11_tower_38 ?_
    refine m_tops (fun τ18 eτ18 => ?_)
    have i19 : Inv τ18 := eτ18 ▸ Inv.put i12 (by decide) (iv_wk kc_0 (by decide))
    have f20 : Fr MS_X11_tower AS_X11_tower σ τ18 := eτ18 ▸ Fr.put (g16) (Or.inl (by decide))
    refine m_aload_n C dX11_tower_41 rfl rfl ?_
    refine g_0_2 C q1_188 dX11_tower_42 ?_
    refine g_1_2 C (by decide) q1_82 dX11_tower_45 ?_
    refine m_topi (fun x21 ex21 => ?_)
    have b22 : IV x21 0 7 := by rw [ex21]; exact i19.1 1 0 2
    exact m_iret C hr hlk (by decide) (by decide) dX11_tower_48 ⟨_, rfl, i19, f20, (iv_wk b22 (by decide))⟩
  · have f23 : x4.toInt = 0 := by
      have q : _ := c8
      simp only [ti_nle, ti_nlt, ti_le, ti_lt, ti_eq, ti_ne, Classical.not_not, kt_0] at q
      omega
    have b24 : IV x4 0 0 := ⟨by have q1 := b5; have q2 := kc_0; omega, by have q1 := b5; have q2 := kc_0; omega⟩
    refine m_ldc (v := (-1000100)) C dX11_tower_14 q3_5 ?_
    refine m_aload_n C dX11_tower_16 rfl rfl ?_
    refine g_0_1 C q1_187 dX11_tower_17 ?_
    refine g_12_3 C q1_42 dX11_tower_20 ?_
    refine m_topi (fun x25 ex25 => ?_)
    refine m_isub C dX11_tower_23 ?_
    refine m_topi (fun x26 ex26 => ?_)
    exact m_iret C hr hlk (by decide) (by decide) dX11_tower_24 ⟨_, rfl, i2, g6, (iv_any x26)⟩

abbrev MS_X11_fault : List (Nat × Nat) := []
abbrev AS_X11_fault : List Nat := []
set_option maxHeartbeats 4000000 in
set_option maxRecDepth 100000 in
theorem c_X11_fault (l : Launch) (G : Gt) (σ : Sg) (hI : Inv σ) : Mc l G yX11_fault cX11_fault 1 (some .int) 0 0 0 0 [.ref (G.1 0 0)] σ (PI fun r τ => Inv τ ∧ Fr MS_X11_fault AS_X11_fault σ τ ∧ IV r (-2147483648) 2147483647) := by
  refine Mc.of (L0 := [some (.ref (G.1 0 0))]) (by decide) (Nat.le_of_ble_eq_true rfl) rfl ?_
  intro p e s m args below meth c C hr hlk
  have C : Cx p s m args c cX11_fault 1 "LeanTower" := C
  have k0 : (0 : Int32).toInt = 0 := by decide
  have k1 : (1 : Int32).toInt = 1 := by decide
  refine m_aload_n C dX11_fault_0 rfl rfl ?_
  refine g_0_1 C q1_187 dX11_fault_1 ?_
  refine g_12_2 C q1_40 dX11_fault_4 ?_
  refine m_topi (fun x1 ex1 => ?_)
  exact m_iret C hr hlk (by decide) (by decide) dX11_fault_7 ⟨_, rfl, hI, Fr.rf, (iv_any x1)⟩

abbrev MS_X11_keepAct : List (Nat × Nat) := [(0, 5), (0, 6), (1, 0), (1, 1), (1, 2), (1, 3), (1, 9), (1, 10), (1, 11)]
abbrev AS_X11_keepAct : List Nat := [2, 3, 4, 5, 6]
set_option maxHeartbeats 4000000 in
set_option maxRecDepth 100000 in
theorem c_X11_keepAct (l : Launch) (G : Gt) (σ : Sg) (hI : Inv σ) : Mc l G yX11_keepAct cX11_keepAct 1 none 1 22 0 0 [.ref (G.1 0 0)] σ (PV fun τ => Inv τ ∧ Fr MS_X11_keepAct AS_X11_keepAct σ τ) := by
  refine Mc.of (L0 := [some (.ref (G.1 0 0))]) (by decide) (Nat.le_of_ble_eq_true rfl) rfl ?_
  intro p e s m args below meth c C hr hlk
  have C : Cx p s m args c cX11_keepAct 1 "LeanTower" := C
  have k0 : (0 : Int32).toInt = 0 := by decide
  have k1 : (1 : Int32).toInt = 1 := by decide
  refine m_aload_n C dX11_keepAct_0 rfl rfl ?_
  refine g_0_4 C q1_190 dX11_keepAct_1 ?_
  refine m_aload_n C dX11_keepAct_4 rfl rfl ?_
  refine g_0_5 C q1_191 dX11_keepAct_5 ?_
  refine m_topi (fun x1 ex1 => ?_)
  have b2 : IV x1 0 23 := by rw [ex1]; exact hI.1 0 0 5
  refine m_aload_n C dX11_keepAct_8 rfl rfl ?_
  refine g_0_6 C q1_192 dX11_keepAct_9 ?_
  refine m_topi (fun x3 ex3 => ?_)
  have b4 : IV x3 0 24 := by rw [ex3]; exact hI.1 0 0 6
  refine m_iadd C dX11_keepAct_12 ?_
  refine m_topi (fun x5 ex5 => ?_)
  have tx5 : x5.toInt = x1.toInt + x3.toInt := by rw [ex5, ti_addv b2 b4 (by decide)]
  have b6 : IV x5 0 47 := by rw [ex5]; exact iv_add b2 b4 (by decide)
  refine m_bipush (v := 24) C dX11_keepAct_13 (by decide) ?_
  refine m_irem C dX11_keepAct_15 (iv_nz kc_24 (by decide)) ?_
  refine m_topi (fun x7 ex7 => ?_)
  have b8 : IV x7 0 23 := by rw [ex7]; exact iv_rem b6 kc_24 (by decide)
  refine al_8 (n := (x7.toInt.toNat)) C b8 (by decide) rfl dX11_keepAct_16 ?_
  refine m_aload_n C dX11_keepAct_17 rfl rfl ?_
  refine g_0_2 C q1_188 dX11_keepAct_18 ?_
  refine m_callV (n := 1) (ci := 7) (st := []) C (c_X8_takeFrom l G σ (j := ((x7.toInt.toNat) + 2)) (Nat.add_lt_add_right (iv_nat (n := 26) b8 (by decide)) 2) (j2 := 0) (by decide) hI ) (by decide) (Nat.add_lt_add_right (iv_nat (n := 26) b8 (by decide)) 2) rfl rfl rfl q3_9 q3_6 q3_7 q3_8 q1_3 (by decide +kernel) rfl (by decide) (by decide) rfl (Nat.le_of_ble_eq_true rfl) dX11_keepAct_21 ?_
  rintro _ τ9 ⟨rfl, i10, f11⟩
  have g14 : Fr MS_X11_keepAct AS_X11_keepAct σ τ9 := Fr.call (Fr.rf) f11 (by decide)
  show MW p l e _ s m args below meth c _ 1 G 0 0 24 [some (.ref (G.1 0 0))] [] τ9
  refine m_aload_n C dX11_keepAct_24 rfl rfl ?_
  refine g_0_6 C q1_192 dX11_keepAct_25 ?_
  refine m_eqs (w := x3) (show gV τ9 0 0 6 = x3 from (f11.1 0 0 (6) (by decide) (by decide)).trans ex3.symm) ?_
  refine m_bipush (v := 24) C dX11_keepAct_28 (by decide) ?_
  refine m_icmp_ne (tgt := 49) C dX11_keepAct_30 (by decide) (fun c16 => ?_) (fun c16 => ?_)
  · have f17 : x3.toInt ≠ 24 := by
      have q : _ := c16
      simp only [ti_nle, ti_nlt, ti_le, ti_lt, ti_eq, ti_ne, Classical.not_not, kt_24] at q
      omega
    have b18 : IV x3 0 23 := ⟨by have q1 := b4; have q2 := kc_24; omega, by have q1 := b4; have q2 := kc_24; omega⟩
    refine m_aload_n C dX11_keepAct_49 rfl rfl ?_
    refine m_dup C dX11_keepAct_50 rfl ?_
    refine g_0_6 C q1_192 dX11_keepAct_51 ?_
    refine m_eqs (w := x3) (show gV τ9 0 0 6 = x3 from (f11.1 0 0 (6) (by decide) (by decide)).trans ex3.symm) ?_
    refine m_iconst (v := 1) C dX11_keepAct_54 (by decide) ?_
    refine m_iadd C dX11_keepAct_55 ?_
    refine m_topi (fun x19 ex19 => ?_)
    have tx19 : x19.toInt = x3.toInt + 1 := by rw [ex19, ti_addv b18 kc_1 (by decide), kt_1]
    have b20 : IV x19 1 24 := by rw [ex19]; exact iv_add b18 kc_1 (by decide)
    refine p_0_6 C q1_192 dX11_keepAct_56 ?_
    refine m_tops (fun τ21 eτ21 => ?_)
    have i22 : Inv τ21 := eτ21 ▸ Inv.put i10 (by decide) (iv_wk b20 (by decide))
    have f23 : Fr MS_X11_keepAct AS_X11_keepAct σ τ21 := eτ21 ▸ Fr.put (g14) (Or.inl (by decide))
    exact m_vret C hr hlk (by decide) (by decide) dX11_keepAct_59 ⟨rfl, i22, f23⟩
  · have f24 : x3.toInt = 24 := by
      have q : _ := c16
      simp only [ti_nle, ti_nlt, ti_le, ti_lt, ti_eq, ti_ne, Classical.not_not, kt_24] at q
      omega
    have b25 : IV x3 24 24 := ⟨by have q1 := b4; have q2 := kc_24; omega, by have q1 := b4; have q2 := kc_24; omega⟩
    refine m_aload_n C dX11_keepAct_33 rfl rfl ?_
    refine m_aload_n C dX11_keepAct_34 rfl rfl ?_
    refine g_0_5 C q1_191 dX11_keepAct_35 ?_
    refine m_eqs (w := x1) (show gV τ9 0 0 5 = x1 from (f11.1 0 0 (5) (by decide) (by decide)).trans ex1.symm) ?_
    refine m_iconst (v := 1) C dX11_keepAct_38 (by decide) ?_
    refine m_iadd C dX11_keepAct_39 ?_
    refine m_topi (fun x26 ex26 => ?_)
    have tx26 : x26.toInt = x1.toInt + 1 := by rw [ex26, ti_addv b2 kc_1 (by decide), kt_1]
    have b27 : IV x26 1 24 := by rw [ex26]; exact iv_add b2 kc_1 (by decide)
    refine m_bipush (v := 24) C dX11_keepAct_40 (by decide) ?_
    refine m_irem C dX11_keepAct_42 (iv_nz kc_24 (by decide)) ?_
    refine m_topi (fun x28 ex28 => ?_)
    have b29 : IV x28 0 23 := by rw [ex28]; exact iv_rem b27 kc_24 (by decide)
    refine p_0_5 C q1_191 dX11_keepAct_43 ?_
    refine m_tops (fun τ30 eτ30 => ?_)
    have i31 : Inv τ30 := eτ30 ▸ Inv.put i10 (by decide) b29
    have f32 : Fr MS_X11_keepAct AS_X11_keepAct σ τ30 := eτ30 ▸ Fr.put (g14) (Or.inl (by decide))
    refine m_goto (tgt := 59) C dX11_keepAct_46 (by decide) ?_
    exact m_vret C hr hlk (by decide) (by decide) dX11_keepAct_59 ⟨rfl, i31, f32⟩

abbrev MS_X11_go : List (Nat × Nat) := [(0, 5), (0, 6), (1, 0), (1, 1), (1, 2), (1, 3), (1, 9), (1, 10), (1, 11)]
abbrev AS_X11_go : List Nat := [2, 3, 4, 5, 6]
set_option maxHeartbeats 4000000 in
set_option maxRecDepth 100000 in
theorem c_X11_go (l : Launch) (G : Gt) (σ : Sg) (a1 : Int32) (a2 : Int32) (hI : Inv σ) : Mc l G yX11_go cX11_go 4 (some .int) 2 42 0 0 [.ref (G.1 0 0), .int a1, .int a2] σ (PI fun r τ => Inv τ ∧ Fr MS_X11_go AS_X11_go σ τ ∧ IV r (-2147483648) 2147483647) := by
  refine Mc.of (L0 := [some (.ref (G.1 0 0)), some (.int a1), some (.int a2), none]) (by decide) (Nat.le_of_ble_eq_true rfl) rfl ?_
  intro p e s m args below meth c C hr hlk
  have C : Cx p s m args c cX11_go 4 "LeanTower" := C
  have k0 : (0 : Int32).toInt = 0 := by decide
  have k1 : (1 : Int32).toInt = 1 := by decide
  refine m_aload_n C dX11_go_0 rfl rfl ?_
  refine g_0_2 C q1_188 dX11_go_1 ?_
  refine m_iload_n C dX11_go_4 rfl rfl ?_
  refine m_callV (n := 1) (ci := 7) (st := []) C (c_X8_hasPerson l G σ (j := 0) (by decide) (a1) hI ) (by decide) (by decide) rfl rfl rfl q3_21 q3_18 q3_19 q3_20 q1_3 (by decide +kernel) rfl (by decide) (by decide) rfl (Nat.le_of_ble_eq_true rfl) dX11_go_5 ?_
  rintro _ τ1 ⟨x4, rfl, i2, f3, b5, h7⟩
  have g6 : Fr MS_X11_go AS_X11_go σ τ1 := Fr.call (Fr.rf) f3 (by decide)
  show MW p l e _ s m args below meth c _ 4 G 0 0 8 [some (.ref (G.1 0 0)), some (.int a1), some (.int a2), none] [.int x4] τ1
  refine m_if_eq (tgt := 21) C dX11_go_8 (by decide) (fun c8 => ?_) (fun c8 => ?_)
  · have f9 : x4.toInt = 0 := by
      have q : _ := c8
      simp only [ti_nle, ti_nlt, ti_le, ti_lt, ti_eq, ti_ne, Classical.not_not, kt_0] at q
      omega
    have b10 : IV x4 0 0 := ⟨by have q1 := b5; have q2 := kc_0; omega, by have q1 := b5; have q2 := kc_0; omega⟩
    refine m_ldc (v := (-1000001)) C dX11_go_21 q1_234 ?_
    exact m_iret C hr hlk (by decide) (by decide) dX11_go_23 ⟨_, rfl, i2, g6, (iv_wk kc_m1000001 (by decide))⟩
  · have f11 : x4.toInt ≠ 0 := by
      have q : _ := c8
      simp only [ti_nle, ti_nlt, ti_le, ti_lt, ti_eq, ti_ne, Classical.not_not, kt_0] at q
      omega
    have b12 : IV x4 1 1 := ⟨by have q1 := b5; have q2 := kc_0; omega, by have q1 := b5; have q2 := kc_0; omega⟩
    have b13 : IV a1 0 6 := ⟨by have q1 := (iv_any a1); omega, by have q1 := (iv_any a1); omega⟩
    refine m_iload_n C dX11_go_11 rfl rfl ?_
    refine m_iconst (v := (-1)) C dX11_go_12 (by decide) ?_
    refine m_icmp_lt (tgt := 21) C dX11_go_13 (by decide) (fun c14 => ?_) (fun c14 => ?_)
    · have f15 : a2.toInt < -1 := by
        have q : _ := c14
        simp only [ti_nle, ti_nlt, ti_le, ti_lt, ti_eq, ti_ne, Classical.not_not, kt_m1] at q
        omega
      have b16 : IV a2 (-2147483648) (-2) := ⟨by have q1 := (iv_any a2); have q2 := kc_m1; omega, by have q1 := (iv_any a2); have q2 := kc_m1; omega⟩
      refine m_ldc (v := (-1000001)) C dX11_go_21 q1_234 ?_
      exact m_iret C hr hlk (by decide) (by decide) dX11_go_23 ⟨_, rfl, i2, g6, (iv_wk kc_m1000001 (by decide))⟩
    · have f17 : -1 ≤ a2.toInt := by
        have q : _ := c14
        simp only [ti_nle, ti_nlt, ti_le, ti_lt, ti_eq, ti_ne, Classical.not_not, kt_m1] at q
        omega
      have b18 : IV a2 (-1) 2147483647 := ⟨by have q1 := kc_m1; have q2 := (iv_any a2); omega, by have q1 := kc_m1; have q2 := (iv_any a2); omega⟩
      refine m_iload_n C dX11_go_16 rfl rfl ?_
      refine m_iconst (v := 1) C dX11_go_17 (by decide) ?_
      refine m_icmp_le (tgt := 24) C dX11_go_18 (by decide) (fun c19 => ?_) (fun c19 => ?_)
      · have f20 : a2.toInt ≤ 1 := by
          have q : _ := c19
          simp only [ti_nle, ti_nlt, ti_le, ti_lt, ti_eq, ti_ne, Classical.not_not, kt_1] at q
          omega
        have b21 : IV a2 (-1) 1 := ⟨by have q1 := b18; have q2 := kc_1; omega, by have q1 := b18; have q2 := kc_1; omega⟩
        refine m_aload_n C dX11_go_24 rfl rfl ?_
        refine g_0_2 C q1_188 dX11_go_25 ?_
        refine g_1_6 C (by decide) q1_90 dX11_go_28 ?_
        refine m_iload_n C dX11_go_31 rfl rfl ?_
        refine al_3 C (by decide) b13 (by decide) rfl dX11_go_32 ?_
        refine m_topi (fun x22 ex22 => ?_)
        refine m_istore_n (L1 := [some (.ref (G.1 0 0)), some (.int a1), some (.int a2), some (.int x22)]) C dX11_go_33 rfl (by decide) rfl rfl ?_
        refine m_iload_n C dX11_go_34 rfl rfl ?_
        refine m_iload_n C dX11_go_35 rfl rfl ?_
        refine m_icmp_eq (tgt := 53) C dX11_go_36 (by decide) (fun c23 => ?_) (fun c23 => ?_)
        · have f24 : a2.toInt = x22.toInt := by
            have q : _ := c23
            simp only [ti_nle, ti_nlt, ti_le, ti_lt, ti_eq, ti_ne, Classical.not_not] at q
            omega
          have b25 : IV x22 (-1) 1 := ⟨by have q1 := b21; have q2 := (iv_any x22); omega, by have q1 := b21; have q2 := (iv_any x22); omega⟩
          refine m_iload_n C dX11_go_53 rfl rfl ?_
          exact m_iret C hr hlk (by decide) (by decide) dX11_go_54 ⟨_, rfl, i2, g6, (iv_wk b25 (by decide))⟩
        · have f26 : a2.toInt ≠ x22.toInt := by
            have q : _ := c23
            simp only [ti_nle, ti_nlt, ti_le, ti_lt, ti_eq, ti_ne, Classical.not_not] at q
            omega
          refine m_aload_n C dX11_go_39 rfl rfl ?_
          refine m_callV (n := 0) (ci := 10) (st := []) C (c_X11_keepAct l G τ1  i2 ) (by decide) (by decide) rfl rfl rfl q3_25 q3_22 q3_24 q0_14 q1_1 (by decide +kernel) rfl (by decide) (by decide) rfl (Nat.le_of_ble_eq_true rfl) dX11_go_40 ?_
          rintro _ τ27 ⟨rfl, i28, f29⟩
          have g32 : Fr MS_X11_go AS_X11_go σ τ27 := Fr.call (g6) f29 (by decide)
          show MW p l e _ s m args below meth c _ 4 G 0 0 43 [some (.ref (G.1 0 0)), some (.int a1), some (.int a2), some (.int x22)] [] τ27
          refine m_aload_n C dX11_go_43 rfl rfl ?_
          refine g_0_2 C q1_188 dX11_go_44 ?_
          refine g_1_6 C (by decide) q1_90 dX11_go_47 ?_
          refine m_iload_n C dX11_go_50 rfl rfl ?_
          refine m_iload_n C dX11_go_51 rfl rfl ?_
          refine as_3 C (by decide) b13 (by decide) rfl dX11_go_52 ?_
          refine m_tops (fun τ34 eτ34 => ?_)
          have i35 : Inv τ34 := eτ34 ▸ Inv.putF i28 (by decide) rfl
          have f36 : Fr MS_X11_go AS_X11_go σ τ34 := eτ34 ▸ Fr.put (g32) (Or.inr (by decide))
          refine m_iload_n C dX11_go_53 rfl rfl ?_
          exact m_iret C hr hlk (by decide) (by decide) dX11_go_54 ⟨_, rfl, i35, f36, (iv_any x22)⟩
      · have f37 : 1 < a2.toInt := by
          have q : _ := c19
          simp only [ti_nle, ti_nlt, ti_le, ti_lt, ti_eq, ti_ne, Classical.not_not, kt_1] at q
          omega
        have b38 : IV a2 2 2147483647 := ⟨by have q1 := kc_1; have q2 := b18; omega, by have q1 := kc_1; have q2 := b18; omega⟩
        refine m_ldc (v := (-1000001)) C dX11_go_21 q1_234 ?_
        exact m_iret C hr hlk (by decide) (by decide) dX11_go_23 ⟨_, rfl, i2, g6, (iv_wk kc_m1000001 (by decide))⟩

abbrev MS_X11_hang : List (Nat × Nat) := [(0, 5), (0, 6), (1, 0), (1, 1), (1, 2), (1, 3), (1, 9), (1, 10), (1, 11)]
abbrev AS_X11_hang : List Nat := [2, 3, 4, 5, 6]
set_option maxHeartbeats 4000000 in
set_option maxRecDepth 100000 in
theorem c_X11_hang (l : Launch) (G : Gt) (σ : Sg) (a1 : Int32) (a2 : Int32) (hI : Inv σ) : Mc l G yX11_hang cX11_hang 4 (some .int) 2 42 0 0 [.ref (G.1 0 0), .int a1, .int a2] σ (PI fun r τ => Inv τ ∧ Fr MS_X11_hang AS_X11_hang σ τ ∧ IV r (-2147483648) 2147483647) := by
  refine Mc.of (L0 := [some (.ref (G.1 0 0)), some (.int a1), some (.int a2), none]) (by decide) (Nat.le_of_ble_eq_true rfl) rfl ?_
  intro p e s m args below meth c C hr hlk
  have C : Cx p s m args c cX11_hang 4 "LeanTower" := C
  have k0 : (0 : Int32).toInt = 0 := by decide
  have k1 : (1 : Int32).toInt = 1 := by decide
  refine m_aload_n C dX11_hang_0 rfl rfl ?_
  refine g_0_2 C q1_188 dX11_hang_1 ?_
  refine m_iload_n C dX11_hang_4 rfl rfl ?_
  refine m_callV (n := 1) (ci := 7) (st := []) C (c_X8_hasStone l G σ (j := 0) (by decide) (a1) hI ) (by decide) (by decide) rfl rfl rfl q3_33 q3_30 q3_31 q3_32 q1_3 (by decide +kernel) rfl (by decide) (by decide) rfl (Nat.le_of_ble_eq_true rfl) dX11_hang_5 ?_
  rintro _ τ1 ⟨x4, rfl, i2, f3, b5, h7⟩
  have g6 : Fr MS_X11_hang AS_X11_hang σ τ1 := Fr.call (Fr.rf) f3 (by decide)
  show MW p l e _ s m args below meth c _ 4 G 0 0 8 [some (.ref (G.1 0 0)), some (.int a1), some (.int a2), none] [.int x4] τ1
  refine m_if_eq (tgt := 20) C dX11_hang_8 (by decide) (fun c8 => ?_) (fun c8 => ?_)
  · have f9 : x4.toInt = 0 := by
      have q : _ := c8
      simp only [ti_nle, ti_nlt, ti_le, ti_lt, ti_eq, ti_ne, Classical.not_not, kt_0] at q
      omega
    have b10 : IV x4 0 0 := ⟨by have q1 := b5; have q2 := kc_0; omega, by have q1 := b5; have q2 := kc_0; omega⟩
    refine m_ldc (v := (-1000001)) C dX11_hang_20 q1_234 ?_
    exact m_iret C hr hlk (by decide) (by decide) dX11_hang_22 ⟨_, rfl, i2, g6, (iv_wk kc_m1000001 (by decide))⟩
  · have f11 : x4.toInt ≠ 0 := by
      have q : _ := c8
      simp only [ti_nle, ti_nlt, ti_le, ti_lt, ti_eq, ti_ne, Classical.not_not, kt_0] at q
      omega
    have b12 : IV x4 1 1 := ⟨by have q1 := b5; have q2 := kc_0; omega, by have q1 := b5; have q2 := kc_0; omega⟩
    have b13 : IV a1 0 3 := ⟨by have q1 := (iv_any a1); omega, by have q1 := (iv_any a1); omega⟩
    refine m_iload_n C dX11_hang_11 rfl rfl ?_
    refine m_if_lt (tgt := 20) C dX11_hang_12 (by decide) (fun c14 => ?_) (fun c14 => ?_)
    · have f15 : a2.toInt < 0 := by
        have q : _ := c14
        simp only [ti_nle, ti_nlt, ti_le, ti_lt, ti_eq, ti_ne, Classical.not_not, kt_0] at q
        omega
      have b16 : IV a2 (-2147483648) (-1) := ⟨by have q1 := (iv_any a2); have q2 := kc_0; omega, by have q1 := (iv_any a2); have q2 := kc_0; omega⟩
      refine m_ldc (v := (-1000001)) C dX11_hang_20 q1_234 ?_
      exact m_iret C hr hlk (by decide) (by decide) dX11_hang_22 ⟨_, rfl, i2, g6, (iv_wk kc_m1000001 (by decide))⟩
    · have f17 : 0 ≤ a2.toInt := by
        have q : _ := c14
        simp only [ti_nle, ti_nlt, ti_le, ti_lt, ti_eq, ti_ne, Classical.not_not, kt_0] at q
        omega
      have b18 : IV a2 0 2147483647 := ⟨by have q1 := kc_0; have q2 := (iv_any a2); omega, by have q1 := kc_0; have q2 := (iv_any a2); omega⟩
      refine m_iload_n C dX11_hang_15 rfl rfl ?_
      refine m_iconst (v := 4) C dX11_hang_16 (by decide) ?_
      refine m_icmp_lt (tgt := 23) C dX11_hang_17 (by decide) (fun c19 => ?_) (fun c19 => ?_)
      · have f20 : a2.toInt < 4 := by
          have q : _ := c19
          simp only [ti_nle, ti_nlt, ti_le, ti_lt, ti_eq, ti_ne, Classical.not_not, kt_4] at q
          omega
        have b21 : IV a2 0 3 := ⟨by have q1 := b18; have q2 := kc_4; omega, by have q1 := b18; have q2 := kc_4; omega⟩
        refine m_aload_n C dX11_hang_23 rfl rfl ?_
        refine g_0_2 C q1_188 dX11_hang_24 ?_
        refine g_1_8 C (by decide) q1_94 dX11_hang_27 ?_
        refine m_iload_n C dX11_hang_30 rfl rfl ?_
        refine al_5 C (by decide) b13 (by decide) rfl dX11_hang_31 ?_
        refine m_topi (fun x22 ex22 => ?_)
        refine m_istore_n (L1 := [some (.ref (G.1 0 0)), some (.int a1), some (.int a2), some (.int x22)]) C dX11_hang_32 rfl (by decide) rfl rfl ?_
        refine m_iload_n C dX11_hang_33 rfl rfl ?_
        refine m_iload_n C dX11_hang_34 rfl rfl ?_
        refine m_icmp_eq (tgt := 52) C dX11_hang_35 (by decide) (fun c23 => ?_) (fun c23 => ?_)
        · have f24 : a2.toInt = x22.toInt := by
            have q : _ := c23
            simp only [ti_nle, ti_nlt, ti_le, ti_lt, ti_eq, ti_ne, Classical.not_not] at q
            omega
          have b25 : IV x22 0 3 := ⟨by have q1 := b21; have q2 := (iv_any x22); omega, by have q1 := b21; have q2 := (iv_any x22); omega⟩
          refine m_iload_n C dX11_hang_52 rfl rfl ?_
          exact m_iret C hr hlk (by decide) (by decide) dX11_hang_53 ⟨_, rfl, i2, g6, (iv_wk b25 (by decide))⟩
        · have f26 : a2.toInt ≠ x22.toInt := by
            have q : _ := c23
            simp only [ti_nle, ti_nlt, ti_le, ti_lt, ti_eq, ti_ne, Classical.not_not] at q
            omega
          refine m_aload_n C dX11_hang_38 rfl rfl ?_
          refine m_callV (n := 0) (ci := 10) (st := []) C (c_X11_keepAct l G τ1  i2 ) (by decide) (by decide) rfl rfl rfl q3_25 q3_22 q3_24 q0_14 q1_1 (by decide +kernel) rfl (by decide) (by decide) rfl (Nat.le_of_ble_eq_true rfl) dX11_hang_39 ?_
          rintro _ τ27 ⟨rfl, i28, f29⟩
          have g32 : Fr MS_X11_hang AS_X11_hang σ τ27 := Fr.call (g6) f29 (by decide)
          show MW p l e _ s m args below meth c _ 4 G 0 0 42 [some (.ref (G.1 0 0)), some (.int a1), some (.int a2), some (.int x22)] [] τ27
          refine m_aload_n C dX11_hang_42 rfl rfl ?_
          refine g_0_2 C q1_188 dX11_hang_43 ?_
          refine g_1_8 C (by decide) q1_94 dX11_hang_46 ?_
          refine m_iload_n C dX11_hang_49 rfl rfl ?_
          refine m_iload_n C dX11_hang_50 rfl rfl ?_
          refine as_5 C (by decide) b13 (by decide) rfl dX11_hang_51 ?_
          refine m_tops (fun τ34 eτ34 => ?_)
          have i35 : Inv τ34 := eτ34 ▸ Inv.putF i28 (by decide) rfl
          have f36 : Fr MS_X11_hang AS_X11_hang σ τ34 := eτ34 ▸ Fr.put (g32) (Or.inr (by decide))
          refine m_iload_n C dX11_hang_52 rfl rfl ?_
          exact m_iret C hr hlk (by decide) (by decide) dX11_hang_53 ⟨_, rfl, i35, f36, (iv_any x22)⟩
      · have f37 : 4 ≤ a2.toInt := by
          have q : _ := c19
          simp only [ti_nle, ti_nlt, ti_le, ti_lt, ti_eq, ti_ne, Classical.not_not, kt_4] at q
          omega
        have b38 : IV a2 4 2147483647 := ⟨by have q1 := kc_4; have q2 := b18; omega, by have q1 := kc_4; have q2 := b18; omega⟩
        refine m_ldc (v := (-1000001)) C dX11_hang_20 q1_234 ?_
        exact m_iret C hr hlk (by decide) (by decide) dX11_hang_22 ⟨_, rfl, i2, g6, (iv_wk kc_m1000001 (by decide))⟩

abbrev MS_X11_halves : List (Nat × Nat) := [(0, 5), (0, 6), (1, 0), (1, 1), (1, 2), (1, 3), (1, 9), (1, 10), (1, 11)]
abbrev AS_X11_halves : List Nat := [2, 3, 4, 5, 6]
set_option maxHeartbeats 4000000 in
set_option maxRecDepth 100000 in
theorem c_X11_halves (l : Launch) (G : Gt) (σ : Sg) (a1 : Int32) (hI : Inv σ) : Mc l G yX11_halves cX11_halves 4 (some .int) 4 88 0 0 [.ref (G.1 0 0), .int a1] σ (PI fun r τ => Inv τ ∧ Fr MS_X11_halves AS_X11_halves σ τ ∧ IV r (-1000003) 64) := by
  refine Mc.of (L0 := [some (.ref (G.1 0 0)), some (.int a1), none, none]) (by decide) (Nat.le_of_ble_eq_true rfl) rfl ?_
  intro p e s m args below meth c C hr hlk
  have C : Cx p s m args c cX11_halves 4 "LeanTower" := C
  have k0 : (0 : Int32).toInt = 0 := by decide
  have k1 : (1 : Int32).toInt = 1 := by decide
  have J54 : ∀ (n : Nat) (τ : Sg) (y2 : Int32) (y3 : Int32), Inv τ → Fr MS_X11_halves AS_X11_halves σ τ → IV a1 1 64 → IV y2 (-1000000) 64 → IV y3 1 65 → (65 - y3.toInt).toNat < n → MW p l e { frames := 4, cells := 0, slots := 0, locals := 88 } s m args below meth c (MQ below (QP G (PI fun r τ => Inv τ ∧ Fr MS_X11_halves AS_X11_halves σ τ ∧ IV r (-1000003) 64)) args s 0 0 (aG G)) 4 G 0 0 54 [some (.ref (G.1 0 0)), some (.int a1), some (.int y2), some (.int y3)] [] τ := by
    intro n
    induction n with
    | zero => intro τ y2 y3 iτ fτ b_a1 b_y2 b_y3 hm; exact absurd hm (Nat.not_lt_zero _)
    | succ n ih54 =>
      intro τ y2 y3 iτ fτ b_a1 b_y2 b_y3 hm54
      refine m_iload_n C dX11_halves_54 rfl rfl ?_
      refine m_iload_n C dX11_halves_55 rfl rfl ?_
      refine m_icmp_gt (tgt := 90) C dX11_halves_56 (by decide) (fun c1 => ?_) (fun c1 => ?_)
      · have f2 : a1.toInt < y3.toInt := by
          have q : _ := c1
          simp only [ti_nle, ti_nlt, ti_le, ti_lt, ti_eq, ti_ne, Classical.not_not] at q
          omega
        have b3 : IV y3 2 65 := ⟨by have q1 := b_a1; have q2 := b_y3; omega, by have q1 := b_a1; have q2 := b_y3; omega⟩
        refine m_iload_n C dX11_halves_90 rfl rfl ?_
        exact m_iret C hr hlk (by decide) (by decide) dX11_halves_91 ⟨_, rfl, iτ, fτ, (iv_wk b_y2 (by decide))⟩
      · have f4 : y3.toInt ≤ a1.toInt := by
          have q : _ := c1
          simp only [ti_nle, ti_nlt, ti_le, ti_lt, ti_eq, ti_ne, Classical.not_not] at q
          omega
        have b5 : IV y3 1 64 := ⟨by have q1 := b_y3; have q2 := b_a1; omega, by have q1 := b_y3; have q2 := b_a1; omega⟩
        refine m_aload_n C dX11_halves_59 rfl rfl ?_
        refine g_0_2 C q1_188 dX11_halves_60 ?_
        refine m_callV (n := 0) (ci := 7) (st := []) C (c_X8_passHalf l G τ (j := 0) (by decide)  iτ ) (by decide) (by decide) rfl rfl rfl q3_47 q3_44 q3_45 q3_46 q1_3 (by decide +kernel) rfl (by decide) (by decide) rfl (Nat.le_of_ble_eq_true rfl) dX11_halves_63 ?_
        rintro _ τ6 ⟨rfl, i7, f8⟩
        have g11 : Fr MS_X11_halves AS_X11_halves σ τ6 := Fr.call (fτ) f8 (by decide)
        show MW p l e _ s m args below meth c _ 4 G 0 0 66 [some (.ref (G.1 0 0)), some (.int a1), some (.int y2), some (.int y3)] [] τ6
        refine m_iload_n C dX11_halves_66 rfl rfl ?_
        refine m_ldc (v := (-1000000)) C dX11_halves_67 q3_43 ?_
        refine m_icmp_ne (tgt := 84) C dX11_halves_69 (by decide) (fun c13 => ?_) (fun c13 => ?_)
        · have f14 : y2.toInt ≠ -1000000 := by
            have q : _ := c13
            simp only [ti_nle, ti_nlt, ti_le, ti_lt, ti_eq, ti_ne, Classical.not_not, kt_m1000000] at q
            omega
          have b15 : IV y2 (-999999) 64 := ⟨by have q1 := b_y2; have q2 := kc_m1000000; omega, by have q1 := b_y2; have q2 := kc_m1000000; omega⟩
          obtain ⟨x16, ex16⟩ : ∃ y : Int32, y = y3 + 1 := ⟨_, rfl⟩
          have tx16 : x16.toInt = y3.toInt + 1 := by rw [ex16, ti_addv b5 kc_1 (by decide), kt_1]
          have b17 : IV x16 2 65 := by rw [ex16]; exact iv_add b5 kc_1 (by decide)
          refine m_iinc (v := x16) (L1 := [some (.ref (G.1 0 0)), some (.int a1), some (.int y2), some (.int x16)]) C dX11_halves_84 rfl (by rw [ex16]; rfl) (by decide) rfl rfl ?_
          refine m_goto (tgt := 54) C dX11_halves_87 (by decide) ?_
          exact ih54 τ6 y2 x16 i7 g11 b_a1 (iv_wk b15 (by decide)) (iv_wk b17 (by decide)) (by have q := hm54; omega)
        · have f18 : y2.toInt = -1000000 := by
            have q : _ := c13
            simp only [ti_nle, ti_nlt, ti_le, ti_lt, ti_eq, ti_ne, Classical.not_not, kt_m1000000] at q
            omega
          have b19 : IV y2 (-1000000) (-1000000) := ⟨by have q1 := b_y2; have q2 := kc_m1000000; omega, by have q1 := b_y2; have q2 := kc_m1000000; omega⟩
          refine m_aload_n C dX11_halves_72 rfl rfl ?_
          refine g_0_2 C q1_188 dX11_halves_73 ?_
          refine m_callV (n := 0) (ci := 7) (st := []) C (c_X8_isBeyond l G τ6 (j := 0) (by decide)  i7 ) (by decide) (by decide) rfl rfl rfl q3_74 q3_71 q3_72 q3_73 q1_3 (by decide +kernel) rfl (by decide) (by decide) rfl (Nat.le_of_ble_eq_true rfl) dX11_halves_76 ?_
          rintro _ τ20 ⟨x23, rfl, i21, f22, b24⟩
          have g25 : Fr MS_X11_halves AS_X11_halves σ τ20 := Fr.call (g11) f22 (by decide)
          show MW p l e _ s m args below meth c _ 4 G 0 0 79 [some (.ref (G.1 0 0)), some (.int a1), some (.int y2), some (.int y3)] [.int x23] τ20
          refine m_if_eq (tgt := 84) C dX11_halves_79 (by decide) (fun c27 => ?_) (fun c27 => ?_)
          · have f28 : x23.toInt = 0 := by
              have q : _ := c27
              simp only [ti_nle, ti_nlt, ti_le, ti_lt, ti_eq, ti_ne, Classical.not_not, kt_0] at q
              omega
            have b29 : IV x23 0 0 := ⟨by have q1 := b24; have q2 := kc_0; omega, by have q1 := b24; have q2 := kc_0; omega⟩
            obtain ⟨x30, ex30⟩ : ∃ y : Int32, y = y3 + 1 := ⟨_, rfl⟩
            have tx30 : x30.toInt = y3.toInt + 1 := by rw [ex30, ti_addv b5 kc_1 (by decide), kt_1]
            have b31 : IV x30 2 65 := by rw [ex30]; exact iv_add b5 kc_1 (by decide)
            refine m_iinc (v := x30) (L1 := [some (.ref (G.1 0 0)), some (.int a1), some (.int y2), some (.int x30)]) C dX11_halves_84 rfl (by rw [ex30]; rfl) (by decide) rfl rfl ?_
            refine m_goto (tgt := 54) C dX11_halves_87 (by decide) ?_
            exact ih54 τ20 y2 x30 i21 g25 b_a1 (iv_wk b19 (by decide)) (iv_wk b31 (by decide)) (by have q := hm54; omega)
          · have f32 : x23.toInt ≠ 0 := by
              have q : _ := c27
              simp only [ti_nle, ti_nlt, ti_le, ti_lt, ti_eq, ti_ne, Classical.not_not, kt_0] at q
              omega
            have b33 : IV x23 1 1 := ⟨by have q1 := b24; have q2 := kc_0; omega, by have q1 := b24; have q2 := kc_0; omega⟩
            refine m_iload_n C dX11_halves_82 rfl rfl ?_
            refine m_istore_n (L1 := [some (.ref (G.1 0 0)), some (.int a1), some (.int y3), some (.int y3)]) C dX11_halves_83 rfl (by decide) rfl rfl ?_
            obtain ⟨x34, ex34⟩ : ∃ y : Int32, y = y3 + 1 := ⟨_, rfl⟩
            have tx34 : x34.toInt = y3.toInt + 1 := by rw [ex34, ti_addv b5 kc_1 (by decide), kt_1]
            have b35 : IV x34 2 65 := by rw [ex34]; exact iv_add b5 kc_1 (by decide)
            refine m_iinc (v := x34) (L1 := [some (.ref (G.1 0 0)), some (.int a1), some (.int y3), some (.int x34)]) C dX11_halves_84 rfl (by rw [ex34]; rfl) (by decide) rfl rfl ?_
            refine m_goto (tgt := 54) C dX11_halves_87 (by decide) ?_
            exact ih54 τ20 y3 x34 i21 g25 b_a1 (iv_wk b5 (by decide)) (iv_wk b35 (by decide)) (by have q := hm54; omega)
  refine m_aload_n C dX11_halves_0 rfl rfl ?_
  refine g_0_2 C q1_188 dX11_halves_1 ?_
  refine m_callV (n := 0) (ci := 7) (st := []) C (c_X8_stands l G σ (j := 0) (by decide)  hI ) (by decide) (by decide) rfl rfl rfl q3_41 q3_38 q3_39 q3_40 q1_3 (by decide +kernel) rfl (by decide) (by decide) rfl (Nat.le_of_ble_eq_true rfl) dX11_halves_4 ?_
  rintro _ τ36 ⟨x39, rfl, i37, f38, b40⟩
  have g41 : Fr MS_X11_halves AS_X11_halves σ τ36 := Fr.call (Fr.rf) f38 (by decide)
  show MW p l e _ s m args below meth c _ 4 G 0 0 7 [some (.ref (G.1 0 0)), some (.int a1), none, none] [.int x39] τ36
  refine m_if_ne (tgt := 13) C dX11_halves_7 (by decide) (fun c43 => ?_) (fun c43 => ?_)
  · have f44 : x39.toInt ≠ 0 := by
      have q : _ := c43
      simp only [ti_nle, ti_nlt, ti_le, ti_lt, ti_eq, ti_ne, Classical.not_not, kt_0] at q
      omega
    have b45 : IV x39 1 1 := ⟨by have q1 := b40; have q2 := kc_0; omega, by have q1 := b40; have q2 := kc_0; omega⟩
    refine m_iload_n C dX11_halves_13 rfl rfl ?_
    refine m_iconst (v := 1) C dX11_halves_14 (by decide) ?_
    refine m_icmp_lt (tgt := 24) C dX11_halves_15 (by decide) (fun c46 => ?_) (fun c46 => ?_)
    · have f47 : a1.toInt < 1 := by
        have q : _ := c46
        simp only [ti_nle, ti_nlt, ti_le, ti_lt, ti_eq, ti_ne, Classical.not_not, kt_1] at q
        omega
      have b48 : IV a1 (-2147483648) 0 := ⟨by have q1 := (iv_any a1); have q2 := kc_1; omega, by have q1 := (iv_any a1); have q2 := kc_1; omega⟩
      refine m_ldc (v := (-1000001)) C dX11_halves_24 q1_234 ?_
      exact m_iret C hr hlk (by decide) (by decide) dX11_halves_26 ⟨_, rfl, i37, g41, (iv_wk kc_m1000001 (by decide))⟩
    · have f49 : 1 ≤ a1.toInt := by
        have q : _ := c46
        simp only [ti_nle, ti_nlt, ti_le, ti_lt, ti_eq, ti_ne, Classical.not_not, kt_1] at q
        omega
      have b50 : IV a1 1 2147483647 := ⟨by have q1 := kc_1; have q2 := (iv_any a1); omega, by have q1 := kc_1; have q2 := (iv_any a1); omega⟩
      refine m_iload_n C dX11_halves_18 rfl rfl ?_
      refine m_bipush (v := 64) C dX11_halves_19 (by decide) ?_
      refine m_icmp_le (tgt := 27) C dX11_halves_21 (by decide) (fun c51 => ?_) (fun c51 => ?_)
      · have f52 : a1.toInt ≤ 64 := by
          have q : _ := c51
          simp only [ti_nle, ti_nlt, ti_le, ti_lt, ti_eq, ti_ne, Classical.not_not, kt_64] at q
          omega
        have b53 : IV a1 1 64 := ⟨by have q1 := b50; have q2 := kc_64; omega, by have q1 := b50; have q2 := kc_64; omega⟩
        refine m_aload_n C dX11_halves_27 rfl rfl ?_
        refine g_0_2 C q1_188 dX11_halves_28 ?_
        refine g_1_9 C (by decide) q1_96 dX11_halves_31 ?_
        refine m_topi (fun x54 ex54 => ?_)
        refine m_iload_n C dX11_halves_34 rfl rfl ?_
        refine m_iadd C dX11_halves_35 ?_
        refine m_topi (fun x55 ex55 => ?_)
        refine m_sipush (v := 9999) C dX11_halves_36 (by decide) ?_
        refine m_icmp_le (tgt := 45) C dX11_halves_39 (by decide) (fun c56 => ?_) (fun c56 => ?_)
        · have f57 : x55.toInt ≤ 9999 := by
            have q : _ := c56
            simp only [ti_nle, ti_nlt, ti_le, ti_lt, ti_eq, ti_ne, Classical.not_not, kt_9999] at q
            omega
          have b58 : IV x55 (-2147483648) 9999 := ⟨by have q1 := (iv_any x55); have q2 := kc_9999; omega, by have q1 := (iv_any x55); have q2 := kc_9999; omega⟩
          refine m_aload_n C dX11_halves_45 rfl rfl ?_
          refine m_callV (n := 0) (ci := 10) (st := []) C (c_X11_keepAct l G τ36  i37 ) (by decide) (by decide) rfl rfl rfl q3_25 q3_22 q3_24 q0_14 q1_1 (by decide +kernel) rfl (by decide) (by decide) rfl (Nat.le_of_ble_eq_true rfl) dX11_halves_46 ?_
          rintro _ τ59 ⟨rfl, i60, f61⟩
          have g64 : Fr MS_X11_halves AS_X11_halves σ τ59 := Fr.call (g41) f61 (by decide)
          show MW p l e _ s m args below meth c _ 4 G 0 0 49 [some (.ref (G.1 0 0)), some (.int a1), none, none] [] τ59
          refine m_ldc (v := (-1000000)) C dX11_halves_49 q3_43 ?_
          refine m_istore_n (L1 := [some (.ref (G.1 0 0)), some (.int a1), some (.int (-1000000)), none]) C dX11_halves_51 rfl (by decide) rfl rfl ?_
          refine m_iconst (v := 1) C dX11_halves_52 (by decide) ?_
          refine m_istore_n (L1 := [some (.ref (G.1 0 0)), some (.int a1), some (.int (-1000000)), some (.int 1)]) C dX11_halves_53 rfl (by decide) rfl rfl ?_
          exact J54 ((65 - (1 : Int32).toInt).toNat + 1) τ59 (-1000000) 1 i60 g64 b53 (iv_wk kc_m1000000 (by decide)) (iv_wk kc_1 (by decide)) (Nat.lt_succ_self _)
        · have f66 : 9999 < x55.toInt := by
            have q : _ := c56
            simp only [ti_nle, ti_nlt, ti_le, ti_lt, ti_eq, ti_ne, Classical.not_not, kt_9999] at q
            omega
          have b67 : IV x55 10000 2147483647 := ⟨by have q1 := kc_9999; have q2 := (iv_any x55); omega, by have q1 := kc_9999; have q2 := (iv_any x55); omega⟩
          refine m_ldc (v := (-1000003)) C dX11_halves_42 q2_43 ?_
          exact m_iret C hr hlk (by decide) (by decide) dX11_halves_44 ⟨_, rfl, i37, g41, (iv_wk kc_m1000003 (by decide))⟩
      · have f68 : 64 < a1.toInt := by
          have q : _ := c51
          simp only [ti_nle, ti_nlt, ti_le, ti_lt, ti_eq, ti_ne, Classical.not_not, kt_64] at q
          omega
        have b69 : IV a1 65 2147483647 := ⟨by have q1 := kc_64; have q2 := b50; omega, by have q1 := kc_64; have q2 := b50; omega⟩
        refine m_ldc (v := (-1000001)) C dX11_halves_24 q1_234 ?_
        exact m_iret C hr hlk (by decide) (by decide) dX11_halves_26 ⟨_, rfl, i37, g41, (iv_wk kc_m1000001 (by decide))⟩
  · have f70 : x39.toInt = 0 := by
      have q : _ := c43
      simp only [ti_nle, ti_nlt, ti_le, ti_lt, ti_eq, ti_ne, Classical.not_not, kt_0] at q
      omega
    have b71 : IV x39 0 0 := ⟨by have q1 := b40; have q2 := kc_0; omega, by have q1 := b40; have q2 := kc_0; omega⟩
    refine m_ldc (v := (-1000002)) C dX11_halves_10 q3_42 ?_
    exact m_iret C hr hlk (by decide) (by decide) dX11_halves_12 ⟨_, rfl, i37, g41, (iv_wk kc_m1000002 (by decide))⟩

abbrev MS_X11_year : List (Nat × Nat) := [(0, 5), (0, 6), (1, 0), (1, 1), (1, 2), (1, 3), (1, 9), (1, 10), (1, 11)]
abbrev AS_X11_year : List Nat := [2, 3, 4, 5, 6]
set_option maxHeartbeats 4000000 in
set_option maxRecDepth 100000 in
theorem c_X11_year (l : Launch) (G : Gt) (σ : Sg) (hI : Inv σ) : Mc l G yX11_year cX11_year 1 (some .int) 3 69 0 0 [.ref (G.1 0 0)] σ (PI fun r τ => Inv τ ∧ Fr MS_X11_year AS_X11_year σ τ ∧ IV r (-1000003) 1) := by
  refine Mc.of (L0 := [some (.ref (G.1 0 0))]) (by decide) (Nat.le_of_ble_eq_true rfl) rfl ?_
  intro p e s m args below meth c C hr hlk
  have C : Cx p s m args c cX11_year 1 "LeanTower" := C
  have k0 : (0 : Int32).toInt = 0 := by decide
  have k1 : (1 : Int32).toInt = 1 := by decide
  refine m_aload_n C dX11_year_0 rfl rfl ?_
  refine g_0_2 C q1_188 dX11_year_1 ?_
  refine m_callV (n := 0) (ci := 7) (st := []) C (c_X8_stands l G σ (j := 0) (by decide)  hI ) (by decide) (by decide) rfl rfl rfl q3_41 q3_38 q3_39 q3_40 q1_3 (by decide +kernel) rfl (by decide) (by decide) rfl (Nat.le_of_ble_eq_true rfl) dX11_year_4 ?_
  rintro _ τ1 ⟨x4, rfl, i2, f3, b5⟩
  have g6 : Fr MS_X11_year AS_X11_year σ τ1 := Fr.call (Fr.rf) f3 (by decide)
  show MW p l e _ s m args below meth c _ 1 G 0 0 7 [some (.ref (G.1 0 0))] [.int x4] τ1
  refine m_if_ne (tgt := 13) C dX11_year_7 (by decide) (fun c8 => ?_) (fun c8 => ?_)
  · have f9 : x4.toInt ≠ 0 := by
      have q : _ := c8
      simp only [ti_nle, ti_nlt, ti_le, ti_lt, ti_eq, ti_ne, Classical.not_not, kt_0] at q
      omega
    have b10 : IV x4 1 1 := ⟨by have q1 := b5; have q2 := kc_0; omega, by have q1 := b5; have q2 := kc_0; omega⟩
    refine m_aload_n C dX11_year_13 rfl rfl ?_
    refine g_0_2 C q1_188 dX11_year_14 ?_
    refine g_1_10 C (by decide) q1_98 dX11_year_17 ?_
    refine m_topi (fun x11 ex11 => ?_)
    refine m_abs (st := []) C q3_98 q3_66 q1_19 q3_67 ⟨by decide, Nat.le_of_ble_eq_true rfl⟩ (by decide) dX11_year_20 (fun x12 ex12 => ?_)
    refine m_sipush (v := 9999) C dX11_year_23 (by decide) ?_
    refine m_icmp_gt (tgt := 45) C dX11_year_26 (by decide) (fun c13 => ?_) (fun c13 => ?_)
    · have f14 : 9999 < x12.toInt := by
        have q : _ := c13
        simp only [ti_nle, ti_nlt, ti_le, ti_lt, ti_eq, ti_ne, Classical.not_not, kt_9999] at q
        omega
      have b15 : IV x12 10000 2147483647 := ⟨by have q1 := kc_9999; have q2 := (iv_any x12); omega, by have q1 := kc_9999; have q2 := (iv_any x12); omega⟩
      refine m_ldc (v := (-1000003)) C dX11_year_45 q2_43 ?_
      exact m_iret C hr hlk (by decide) (by decide) dX11_year_47 ⟨_, rfl, i2, g6, (iv_wk kc_m1000003 (by decide))⟩
    · have f16 : x12.toInt ≤ 9999 := by
        have q : _ := c13
        simp only [ti_nle, ti_nlt, ti_le, ti_lt, ti_eq, ti_ne, Classical.not_not, kt_9999] at q
        omega
      have b17 : IV x12 (-2147483648) 9999 := ⟨by have q1 := (iv_any x12); have q2 := kc_9999; omega, by have q1 := (iv_any x12); have q2 := kc_9999; omega⟩
      refine m_aload_n C dX11_year_29 rfl rfl ?_
      refine g_0_2 C q1_188 dX11_year_30 ?_
      refine g_1_11 C (by decide) q1_100 dX11_year_33 ?_
      refine m_topi (fun x18 ex18 => ?_)
      refine m_abs (st := []) C q3_98 q3_66 q1_19 q3_67 ⟨by decide, Nat.le_of_ble_eq_true rfl⟩ (by decide) dX11_year_36 (fun x19 ex19 => ?_)
      refine m_sipush (v := 9999) C dX11_year_39 (by decide) ?_
      refine m_icmp_le (tgt := 48) C dX11_year_42 (by decide) (fun c20 => ?_) (fun c20 => ?_)
      · have f21 : x19.toInt ≤ 9999 := by
          have q : _ := c20
          simp only [ti_nle, ti_nlt, ti_le, ti_lt, ti_eq, ti_ne, Classical.not_not, kt_9999] at q
          omega
        have b22 : IV x19 (-2147483648) 9999 := ⟨by have q1 := (iv_any x19); have q2 := kc_9999; omega, by have q1 := (iv_any x19); have q2 := kc_9999; omega⟩
        refine m_aload_n C dX11_year_48 rfl rfl ?_
        refine m_callV (n := 0) (ci := 10) (st := []) C (c_X11_keepAct l G τ1  i2 ) (by decide) (by decide) rfl rfl rfl q3_25 q3_22 q3_24 q0_14 q1_1 (by decide +kernel) rfl (by decide) (by decide) rfl (Nat.le_of_ble_eq_true rfl) dX11_year_49 ?_
        rintro _ τ23 ⟨rfl, i24, f25⟩
        have g28 : Fr MS_X11_year AS_X11_year σ τ23 := Fr.call (g6) f25 (by decide)
        show MW p l e _ s m args below meth c _ 1 G 0 0 52 [some (.ref (G.1 0 0))] [] τ23
        refine m_aload_n C dX11_year_52 rfl rfl ?_
        refine g_0_2 C q1_188 dX11_year_53 ?_
        refine m_callV (n := 0) (ci := 7) (st := []) C (c_X8_passYear l G τ23 (j := 0) (by decide)  i24 ) (by decide) (by decide) rfl rfl rfl q3_102 q3_99 q3_100 q3_101 q1_3 (by decide +kernel) rfl (by decide) (by decide) rfl (Nat.le_of_ble_eq_true rfl) dX11_year_56 ?_
        rintro _ τ30 ⟨rfl, i31, f32⟩
        have g35 : Fr MS_X11_year AS_X11_year σ τ30 := Fr.call (g28) f32 (by decide)
        show MW p l e _ s m args below meth c _ 1 G 0 0 59 [some (.ref (G.1 0 0))] [] τ30
        refine m_iconst (v := 1) C dX11_year_59 (by decide) ?_
        exact m_iret C hr hlk (by decide) (by decide) dX11_year_60 ⟨_, rfl, i31, g35, (iv_wk kc_1 (by decide))⟩
      · have f37 : 9999 < x19.toInt := by
          have q : _ := c20
          simp only [ti_nle, ti_nlt, ti_le, ti_lt, ti_eq, ti_ne, Classical.not_not, kt_9999] at q
          omega
        have b38 : IV x19 10000 2147483647 := ⟨by have q1 := kc_9999; have q2 := (iv_any x19); omega, by have q1 := kc_9999; have q2 := (iv_any x19); omega⟩
        refine m_ldc (v := (-1000003)) C dX11_year_45 q2_43 ?_
        exact m_iret C hr hlk (by decide) (by decide) dX11_year_47 ⟨_, rfl, i2, g6, (iv_wk kc_m1000003 (by decide))⟩
  · have f39 : x4.toInt = 0 := by
      have q : _ := c8
      simp only [ti_nle, ti_nlt, ti_le, ti_lt, ti_eq, ti_ne, Classical.not_not, kt_0] at q
      omega
    have b40 : IV x4 0 0 := ⟨by have q1 := b5; have q2 := kc_0; omega, by have q1 := b5; have q2 := kc_0; omega⟩
    refine m_ldc (v := (-1000002)) C dX11_year_10 q3_42 ?_
    exact m_iret C hr hlk (by decide) (by decide) dX11_year_12 ⟨_, rfl, i2, g6, (iv_wk kc_m1000002 (by decide))⟩

abbrev MS_X11_undo : List (Nat × Nat) := [(0, 6), (1, 0), (1, 1), (1, 2), (1, 3), (1, 9), (1, 10), (1, 11)]
abbrev AS_X11_undo : List Nat := [2, 3, 4, 5, 6]
set_option maxHeartbeats 4000000 in
set_option maxRecDepth 100000 in
theorem c_X11_undo (l : Launch) (G : Gt) (σ : Sg) (hI : Inv σ) : Mc l G yX11_undo cX11_undo 1 (some .int) 1 22 0 0 [.ref (G.1 0 0)] σ (PI fun r τ => Inv τ ∧ Fr MS_X11_undo AS_X11_undo σ τ ∧ IV r (-1000002) 23) := by
  refine Mc.of (L0 := [some (.ref (G.1 0 0))]) (by decide) (Nat.le_of_ble_eq_true rfl) rfl ?_
  intro p e s m args below meth c C hr hlk
  have C : Cx p s m args c cX11_undo 1 "LeanTower" := C
  have k0 : (0 : Int32).toInt = 0 := by decide
  have k1 : (1 : Int32).toInt = 1 := by decide
  refine m_aload_n C dX11_undo_0 rfl rfl ?_
  refine g_0_6 C q1_192 dX11_undo_1 ?_
  refine m_topi (fun x1 ex1 => ?_)
  have b2 : IV x1 0 24 := by rw [ex1]; exact hI.1 0 0 6
  refine m_if_ne (tgt := 10) C dX11_undo_4 (by decide) (fun c3 => ?_) (fun c3 => ?_)
  · have f4 : x1.toInt ≠ 0 := by
      have q : _ := c3
      simp only [ti_nle, ti_nlt, ti_le, ti_lt, ti_eq, ti_ne, Classical.not_not, kt_0] at q
      omega
    have b5 : IV x1 1 24 := ⟨by have q1 := b2; have q2 := kc_0; omega, by have q1 := b2; have q2 := kc_0; omega⟩
    refine m_aload_n C dX11_undo_10 rfl rfl ?_
    refine m_dup C dX11_undo_11 rfl ?_
    refine g_0_6 C q1_192 dX11_undo_12 ?_
    refine m_eqs (w := x1) ex1.symm ?_
    refine m_iconst (v := 1) C dX11_undo_15 (by decide) ?_
    refine m_isub C dX11_undo_16 ?_
    refine m_topi (fun x6 ex6 => ?_)
    have tx6 : x6.toInt = x1.toInt - 1 := by rw [ex6, ti_subv b5 kc_1 (by decide), kt_1]
    have b7 : IV x6 0 23 := by rw [ex6]; exact iv_sub b5 kc_1 (by decide)
    refine p_0_6 C q1_192 dX11_undo_17 ?_
    refine m_tops (fun τ8 eτ8 => ?_)
    have i9 : Inv τ8 := eτ8 ▸ Inv.put hI (by decide) (iv_wk b7 (by decide))
    have f10 : Fr MS_X11_undo AS_X11_undo σ τ8 := eτ8 ▸ Fr.put (Fr.rf) (Or.inl (by decide))
    refine m_aload_n C dX11_undo_20 rfl rfl ?_
    refine g_0_2 C q1_188 dX11_undo_21 ?_
    refine m_aload_n C dX11_undo_24 rfl rfl ?_
    refine g_0_4 C q1_190 dX11_undo_25 ?_
    refine m_aload_n C dX11_undo_28 rfl rfl ?_
    refine g_0_5 C q1_191 dX11_undo_29 ?_
    refine m_topi (fun x11 ex11 => ?_)
    have b12 : IV x11 0 23 := by rw [ex11]; exact i9.1 0 0 5
    refine m_aload_n C dX11_undo_32 rfl rfl ?_
    refine g_0_6 C q1_192 dX11_undo_33 ?_
    refine m_eqs (w := x6) (show gV τ8 0 0 6 = x6 from gV_put eτ8 (gV_self _ _ _ _ _)) ?_
    refine m_iadd C dX11_undo_36 ?_
    refine m_topi (fun x13 ex13 => ?_)
    have tx13 : x13.toInt = x11.toInt + x6.toInt := by rw [ex13, ti_addv b12 b7 (by decide)]
    have b14 : IV x13 0 46 := by rw [ex13]; exact iv_add b12 b7 (by decide)
    refine m_bipush (v := 24) C dX11_undo_37 (by decide) ?_
    refine m_irem C dX11_undo_39 (iv_nz kc_24 (by decide)) ?_
    refine m_topi (fun x15 ex15 => ?_)
    have b16 : IV x15 0 23 := by rw [ex15]; exact iv_rem b14 kc_24 (by decide)
    refine al_8 (n := (x15.toInt.toNat)) C b16 (by decide) rfl dX11_undo_40 ?_
    refine m_callV (n := 1) (ci := 7) (st := []) C (c_X8_takeFrom l G τ8 (j := 0) (by decide) (j2 := ((x15.toInt.toNat) + 2)) (Nat.add_lt_add_right (iv_nat (n := 26) b16 (by decide)) 2) i9 ) (by decide) (by decide) rfl rfl rfl q3_9 q3_6 q3_7 q3_8 q1_3 (by decide +kernel) rfl (by decide) (by decide) rfl (Nat.le_of_ble_eq_true rfl) dX11_undo_41 ?_
    rintro _ τ17 ⟨rfl, i18, f19⟩
    have g22 : Fr MS_X11_undo AS_X11_undo σ τ17 := Fr.call (f10) f19 (by decide)
    show MW p l e _ s m args below meth c _ 1 G 0 0 44 [some (.ref (G.1 0 0))] [] τ17
    refine m_aload_n C dX11_undo_44 rfl rfl ?_
    refine g_0_6 C q1_192 dX11_undo_45 ?_
    refine m_eqs (w := x6) (show gV τ17 0 0 6 = x6 from (f19.1 0 0 (6) (by decide) (by decide)).trans (show gV τ8 0 0 6 = x6 from gV_put eτ8 (gV_self _ _ _ _ _))) ?_
    exact m_iret C hr hlk (by decide) (by decide) dX11_undo_48 ⟨_, rfl, i18, g22, (iv_wk b7 (by decide))⟩
  · have f24 : x1.toInt = 0 := by
      have q : _ := c3
      simp only [ti_nle, ti_nlt, ti_le, ti_lt, ti_eq, ti_ne, Classical.not_not, kt_0] at q
      omega
    have b25 : IV x1 0 0 := ⟨by have q1 := b2; have q2 := kc_0; omega, by have q1 := b2; have q2 := kc_0; omega⟩
    refine m_ldc (v := (-1000002)) C dX11_undo_7 q3_42 ?_
    exact m_iret C hr hlk (by decide) (by decide) dX11_undo_9 ⟨_, rfl, hI, Fr.rf, (iv_wk kc_m1000002 (by decide))⟩

abbrev MS_X11_person : List (Nat × Nat) := []
abbrev AS_X11_person : List Nat := []
set_option maxHeartbeats 4000000 in
set_option maxRecDepth 100000 in
theorem c_X11_person (l : Launch) (G : Gt) (σ : Sg) (a1 : Int32) (a2 : Int32) (hI : Inv σ) : Mc l G yX11_person cX11_person 4 (some .int) 2 42 0 0 [.ref (G.1 0 0), .int a1, .int a2] σ (PI fun r τ => Inv τ ∧ Fr MS_X11_person AS_X11_person σ τ ∧ IV r (-2147483648) 2147483647) := by
  refine Mc.of (L0 := [some (.ref (G.1 0 0)), some (.int a1), some (.int a2), none]) (by decide) (Nat.le_of_ble_eq_true rfl) rfl ?_
  intro p e s m args below meth c C hr hlk
  have C : Cx p s m args c cX11_person 4 "LeanTower" := C
  have k0 : (0 : Int32).toInt = 0 := by decide
  have k1 : (1 : Int32).toInt = 1 := by decide
  refine m_aload_n C dX11_person_0 rfl rfl ?_
  refine g_0_2 C q1_188 dX11_person_1 ?_
  refine m_iload_n C dX11_person_4 rfl rfl ?_
  refine m_callV (n := 1) (ci := 7) (st := []) C (c_X8_who l G σ (j := 0) (by decide) (a1) hI ) (by decide) (by decide) rfl rfl rfl q3_114 q3_111 q3_112 q3_113 q1_3 (by decide +kernel) rfl (by decide) (by decide) rfl (Nat.le_of_ble_eq_true rfl) dX11_person_5 ?_
  rintro _ τ1 ⟨x4, rfl, i2, f3, h7⟩
  have g6 : Fr MS_X11_person AS_X11_person σ τ1 := Fr.call (Fr.rf) f3 (by decide)
  rcases h7 with rfl | ⟨x4q, rfl, x4m, x4l, x4h⟩
  · show MW p l e _ s m args below meth c _ 4 G 0 0 8 [some (.ref (G.1 0 0)), some (.int a1), some (.int a2), none] [.null] τ1
    refine m_astore_nN (L1 := [some (.ref (G.1 0 0)), some (.int a1), some (.int a2), some (.null)]) C dX11_person_8 rfl (by decide) rfl rfl ?_
    refine m_aload_nN C dX11_person_9 rfl rfl ?_
    refine m_ifnonnullN C dX11_person_10 ?_
    refine m_ldc (v := (-1000001)) C dX11_person_13 q1_234 ?_
    exact m_iret C hr hlk (by decide) (by decide) dX11_person_15 ⟨_, rfl, i2, g6, (iv_wk kc_m1000001 (by decide))⟩
  · show MW p l e _ s m args below meth c _ 4 G 0 0 8 [some (.ref (G.1 0 0)), some (.int a1), some (.int a2), none] [.ref x4q] τ1
    have bx4q : IV a1 0 6 := ⟨by have q1 := (iv_any a1); omega, by have q1 := (iv_any a1); omega⟩
    refine m_astore_n (L1 := [some (.ref (G.1 0 0)), some (.int a1), some (.int a2), some (.ref x4q)]) C dX11_person_8 rfl (by decide) rfl rfl ?_
    refine m_aload_n C dX11_person_9 rfl rfl ?_
    refine m_ifnonnull (tgt := 16) C dX11_person_10 (by decide) ?_
    refine m_iload_n C dX11_person_16 rfl rfl ?_
    by_cases s8 : a2.toInt < 0 ∨ 4 < a2.toInt
    · refine m_tableOut (tgt := 91) C dX11_person_17 s8 (by decide) ?_
      refine m_ldc (v := (-1000001)) C dX11_person_91 q1_234 ?_
      exact m_iret C hr hlk (by decide) (by decide) dX11_person_93 ⟨_, rfl, i2, g6, (iv_wk kc_m1000001 (by decide))⟩
    by_cases s9 : a2.toInt = 0
    · refine m_tableIn (tgt := 52) (off := 35) C dX11_person_17 (by omega) (by omega) (by rw [s9]; rfl) (by decide) ?_
      have b10 : IV a2 0 0 := ⟨by omega, by omega⟩
      refine m_aload_n C dX11_person_52 rfl rfl ?_
      refine g_0_2 C q1_188 dX11_person_53 ?_
      refine g_1_5 C (by decide) q1_88 dX11_person_56 ?_
      refine m_iload_n C dX11_person_59 rfl rfl ?_
      refine al_2 C (by decide) bx4q (by decide) rfl dX11_person_60 ?_
      refine m_topi (fun x11 ex11 => ?_)
      exact m_iret C hr hlk (by decide) (by decide) dX11_person_61 ⟨_, rfl, i2, g6, (iv_any x11)⟩
    by_cases s12 : a2.toInt = 1
    · refine m_tableIn (tgt := 62) (off := 45) C dX11_person_17 (by omega) (by omega) (by rw [s12]; rfl) (by decide) ?_
      have b13 : IV a2 1 1 := ⟨by omega, by omega⟩
      refine m_aload_n C dX11_person_62 rfl rfl ?_
      refine g_0_2 C q1_188 dX11_person_63 ?_
      refine g_1_6 C (by decide) q1_90 dX11_person_66 ?_
      refine m_iload_n C dX11_person_69 rfl rfl ?_
      refine al_3 C (by decide) bx4q (by decide) rfl dX11_person_70 ?_
      refine m_topi (fun x14 ex14 => ?_)
      exact m_iret C hr hlk (by decide) (by decide) dX11_person_71 ⟨_, rfl, i2, g6, (iv_any x14)⟩
    by_cases s15 : a2.toInt = 2
    · refine m_tableIn (tgt := 72) (off := 55) C dX11_person_17 (by omega) (by omega) (by rw [s15]; rfl) (by decide) ?_
      have b16 : IV a2 2 2 := ⟨by omega, by omega⟩
      refine m_aload_n C dX11_person_72 rfl rfl ?_
      refine gp_1 C i2.2.2 x4m q2_181 dX11_person_73 ?_
      refine m_topi (fun x17 ex17 => ?_)
      exact m_iret C hr hlk (by decide) (by decide) dX11_person_76 ⟨_, rfl, i2, g6, (iv_any x17)⟩
    by_cases s18 : a2.toInt = 3
    · refine m_tableIn (tgt := 77) (off := 60) C dX11_person_17 (by omega) (by omega) (by rw [s18]; rfl) (by decide) ?_
      have b19 : IV a2 3 3 := ⟨by omega, by omega⟩
      refine m_aload_n C dX11_person_77 rfl rfl ?_
      refine gp_2 C i2.2.2 x4m q2_186 dX11_person_78 ?_
      refine m_topi (fun x20 ex20 => ?_)
      exact m_iret C hr hlk (by decide) (by decide) dX11_person_81 ⟨_, rfl, i2, g6, (iv_any x20)⟩
    by_cases s21 : a2.toInt = 4
    · refine m_tableIn (tgt := 82) (off := 65) C dX11_person_17 (by omega) (by omega) (by rw [s21]; rfl) (by decide) ?_
      have b22 : IV a2 4 4 := ⟨by omega, by omega⟩
      refine m_aload_n C dX11_person_82 rfl rfl ?_
      refine g_0_2 C q1_188 dX11_person_83 ?_
      refine m_iload_n C dX11_person_86 rfl rfl ?_
      refine m_callV (n := 1) (ci := 7) (st := []) C (c_X8_sideOf l G τ1 (j := 0) (by decide) (a1) i2 bx4q) (by decide) (by decide) rfl rfl rfl q3_89 q3_116 q3_87 q3_88 q1_3 (by decide +kernel) rfl (by decide) (by decide) rfl (Nat.le_of_ble_eq_true rfl) dX11_person_87 ?_
      rintro _ τ23 ⟨x26, rfl, i24, f25, b27⟩
      have g28 : Fr MS_X11_person AS_X11_person σ τ23 := Fr.call (g6) f25 (by decide)
      have v30 : x4q ∈ τ23.2.2.2.1 := by rw [f25.2.2 (by decide)]; exact x4m
      show MW p l e _ s m args below meth c _ 4 G 0 0 90 [some (.ref (G.1 0 0)), some (.int a1), some (.int a2), some (.ref x4q)] [.int x26] τ23
      exact m_iret C hr hlk (by decide) (by decide) dX11_person_90 ⟨_, rfl, i24, g28, b27⟩
    exact absurd s8 (by omega)

abbrev MS_X11_lean : List (Nat × Nat) := []
abbrev AS_X11_lean : List Nat := []
set_option maxHeartbeats 4000000 in
set_option maxRecDepth 100000 in
theorem c_X11_lean (l : Launch) (G : Gt) (σ : Sg) (a1 : Int32) (hI : Inv σ) : Mc l G yX11_lean cX11_lean 2 (some .int) 4 88 0 0 [.ref (G.1 0 0), .int a1] σ (PI fun r τ => Inv τ ∧ Fr MS_X11_lean AS_X11_lean σ τ ∧ IV r (-2147483648) 2147483647) := by
  refine Mc.of (L0 := [some (.ref (G.1 0 0)), some (.int a1)]) (by decide) (Nat.le_of_ble_eq_true rfl) rfl ?_
  intro p e s m args below meth c C hr hlk
  have C : Cx p s m args c cX11_lean 2 "LeanTower" := C
  have k0 : (0 : Int32).toInt = 0 := by decide
  have k1 : (1 : Int32).toInt = 1 := by decide
  refine m_aload_n C dX11_lean_0 rfl rfl ?_
  refine g_0_2 C q1_188 dX11_lean_1 ?_
  refine m_callV (n := 0) (ci := 7) (st := []) C (c_X8_stands l G σ (j := 0) (by decide)  hI ) (by decide) (by decide) rfl rfl rfl q3_41 q3_38 q3_39 q3_40 q1_3 (by decide +kernel) rfl (by decide) (by decide) rfl (Nat.le_of_ble_eq_true rfl) dX11_lean_4 ?_
  rintro _ τ1 ⟨x4, rfl, i2, f3, b5⟩
  have g6 : Fr MS_X11_lean AS_X11_lean σ τ1 := Fr.call (Fr.rf) f3 (by decide)
  show MW p l e _ s m args below meth c _ 2 G 0 0 7 [some (.ref (G.1 0 0)), some (.int a1)] [.int x4] τ1
  refine m_if_ne (tgt := 13) C dX11_lean_7 (by decide) (fun c8 => ?_) (fun c8 => ?_)
  · have f9 : x4.toInt ≠ 0 := by
      have q : _ := c8
      simp only [ti_nle, ti_nlt, ti_le, ti_lt, ti_eq, ti_ne, Classical.not_not, kt_0] at q
      omega
    have b10 : IV x4 1 1 := ⟨by have q1 := b5; have q2 := kc_0; omega, by have q1 := b5; have q2 := kc_0; omega⟩
    refine m_iload_n C dX11_lean_13 rfl rfl ?_
    by_cases s11 : a1.toInt < 0 ∨ 4 < a1.toInt
    · refine m_tableOut (tgt := 102) C dX11_lean_14 s11 (by decide) ?_
      refine m_ldc (v := (-1000001)) C dX11_lean_102 q1_234 ?_
      exact m_iret C hr hlk (by decide) (by decide) dX11_lean_104 ⟨_, rfl, i2, g6, (iv_wk kc_m1000001 (by decide))⟩
    by_cases s12 : a1.toInt = 0
    · refine m_tableIn (tgt := 48) (off := 34) C dX11_lean_14 (by omega) (by omega) (by rw [s12]; rfl) (by decide) ?_
      have b13 : IV a1 0 0 := ⟨by omega, by omega⟩
      refine m_aload_n C dX11_lean_48 rfl rfl ?_
      refine g_0_2 C q1_188 dX11_lean_49 ?_
      refine m_bipush (v := 127) C dX11_lean_52 (by decide) ?_
      refine m_iconst (v := 0) C dX11_lean_54 (by decide) ?_
      refine m_callV (n := 2) (ci := 7) (st := []) C (c_X8_leanWith l G τ1 (j := 0) (by decide) (127) (0) i2 ) (by decide) (by decide) rfl rfl rfl q3_82 q3_121 q3_80 q3_81 q1_3 (by decide +kernel) rfl (by decide) (by decide) rfl (Nat.le_of_ble_eq_true rfl) dX11_lean_55 ?_
      rintro _ τ14 ⟨x17, rfl, i15, f16, b18⟩
      have g19 : Fr MS_X11_lean AS_X11_lean σ τ14 := Fr.call (g6) f16 (by decide)
      show MW p l e _ s m args below meth c _ 2 G 0 0 58 [some (.ref (G.1 0 0)), some (.int a1)] [.int x17] τ14
      exact m_iret C hr hlk (by decide) (by decide) dX11_lean_58 ⟨_, rfl, i15, g19, b18⟩
    by_cases s21 : a1.toInt = 1
    · refine m_tableIn (tgt := 59) (off := 45) C dX11_lean_14 (by omega) (by omega) (by rw [s21]; rfl) (by decide) ?_
      have b22 : IV a1 1 1 := ⟨by omega, by omega⟩
      refine m_aload_n C dX11_lean_59 rfl rfl ?_
      refine g_0_2 C q1_188 dX11_lean_60 ?_
      refine m_bipush (v := 127) C dX11_lean_63 (by decide) ?_
      refine m_iconst (v := 1) C dX11_lean_65 (by decide) ?_
      refine m_callV (n := 2) (ci := 7) (st := []) C (c_X8_leanWith l G τ1 (j := 0) (by decide) (127) (1) i2 ) (by decide) (by decide) rfl rfl rfl q3_82 q3_121 q3_80 q3_81 q1_3 (by decide +kernel) rfl (by decide) (by decide) rfl (Nat.le_of_ble_eq_true rfl) dX11_lean_66 ?_
      rintro _ τ23 ⟨x26, rfl, i24, f25, b27⟩
      have g28 : Fr MS_X11_lean AS_X11_lean σ τ23 := Fr.call (g6) f25 (by decide)
      show MW p l e _ s m args below meth c _ 2 G 0 0 69 [some (.ref (G.1 0 0)), some (.int a1)] [.int x26] τ23
      exact m_iret C hr hlk (by decide) (by decide) dX11_lean_69 ⟨_, rfl, i24, g28, b27⟩
    by_cases s30 : a1.toInt = 2
    · refine m_tableIn (tgt := 70) (off := 56) C dX11_lean_14 (by omega) (by omega) (by rw [s30]; rfl) (by decide) ?_
      have b31 : IV a1 2 2 := ⟨by omega, by omega⟩
      refine m_aload_n C dX11_lean_70 rfl rfl ?_
      refine g_0_2 C q1_188 dX11_lean_71 ?_
      refine m_callV (n := 0) (ci := 7) (st := []) C (c_X8_isBeyond l G τ1 (j := 0) (by decide)  i2 ) (by decide) (by decide) rfl rfl rfl q3_74 q3_71 q3_72 q3_73 q1_3 (by decide +kernel) rfl (by decide) (by decide) rfl (Nat.le_of_ble_eq_true rfl) dX11_lean_74 ?_
      rintro _ τ32 ⟨x35, rfl, i33, f34, b36⟩
      have g37 : Fr MS_X11_lean AS_X11_lean σ τ32 := Fr.call (g6) f34 (by decide)
      show MW p l e _ s m args below meth c _ 2 G 0 0 77 [some (.ref (G.1 0 0)), some (.int a1)] [.int x35] τ32
      refine m_if_eq (tgt := 84) C dX11_lean_77 (by decide) (fun c39 => ?_) (fun c39 => ?_)
      · have f40 : x35.toInt = 0 := by
          have q : _ := c39
          simp only [ti_nle, ti_nlt, ti_le, ti_lt, ti_eq, ti_ne, Classical.not_not, kt_0] at q
          omega
        have b41 : IV x35 0 0 := ⟨by have q1 := b36; have q2 := kc_0; omega, by have q1 := b36; have q2 := kc_0; omega⟩
        refine m_iconst (v := 0) C dX11_lean_84 (by decide) ?_
        exact m_iret C hr hlk (by decide) (by decide) dX11_lean_85 ⟨_, rfl, i33, g37, (iv_wk kc_0 (by decide))⟩
      · have f42 : x35.toInt ≠ 0 := by
          have q : _ := c39
          simp only [ti_nle, ti_nlt, ti_le, ti_lt, ti_eq, ti_ne, Classical.not_not, kt_0] at q
          omega
        have b43 : IV x35 1 1 := ⟨by have q1 := b36; have q2 := kc_0; omega, by have q1 := b36; have q2 := kc_0; omega⟩
        refine m_iconst (v := 1) C dX11_lean_80 (by decide) ?_
        refine m_goto (tgt := 85) C dX11_lean_81 (by decide) ?_
        exact m_iret C hr hlk (by decide) (by decide) dX11_lean_85 ⟨_, rfl, i33, g37, (iv_wk kc_1 (by decide))⟩
    by_cases s44 : a1.toInt = 3
    · refine m_tableIn (tgt := 86) (off := 72) C dX11_lean_14 (by omega) (by omega) (by rw [s44]; rfl) (by decide) ?_
      have b45 : IV a1 3 3 := ⟨by omega, by omega⟩
      refine m_aload_n C dX11_lean_86 rfl rfl ?_
      refine g_0_2 C q1_188 dX11_lean_87 ?_
      refine g_1_10 C (by decide) q1_98 dX11_lean_90 ?_
      refine m_topi (fun x46 ex46 => ?_)
      exact m_iret C hr hlk (by decide) (by decide) dX11_lean_93 ⟨_, rfl, i2, g6, (iv_any x46)⟩
    by_cases s47 : a1.toInt = 4
    · refine m_tableIn (tgt := 94) (off := 80) C dX11_lean_14 (by omega) (by omega) (by rw [s47]; rfl) (by decide) ?_
      have b48 : IV a1 4 4 := ⟨by omega, by omega⟩
      refine m_aload_n C dX11_lean_94 rfl rfl ?_
      refine g_0_2 C q1_188 dX11_lean_95 ?_
      refine g_1_11 C (by decide) q1_100 dX11_lean_98 ?_
      refine m_topi (fun x49 ex49 => ?_)
      exact m_iret C hr hlk (by decide) (by decide) dX11_lean_101 ⟨_, rfl, i2, g6, (iv_any x49)⟩
    exact absurd s11 (by omega)
  · have f50 : x4.toInt = 0 := by
      have q : _ := c8
      simp only [ti_nle, ti_nlt, ti_le, ti_lt, ti_eq, ti_ne, Classical.not_not, kt_0] at q
      omega
    have b51 : IV x4 0 0 := ⟨by have q1 := b5; have q2 := kc_0; omega, by have q1 := b5; have q2 := kc_0; omega⟩
    refine m_ldc (v := (-1000002)) C dX11_lean_10 q3_42 ?_
    exact m_iret C hr hlk (by decide) (by decide) dX11_lean_12 ⟨_, rfl, i2, g6, (iv_wk kc_m1000002 (by decide))⟩

abbrev MS_X11_worst : List (Nat × Nat) := [(1, 0), (1, 1), (1, 2), (1, 3), (1, 9), (1, 10), (1, 11)]
abbrev AS_X11_worst : List Nat := [2, 3, 4, 5, 6]
set_option maxHeartbeats 4000000 in
set_option maxRecDepth 100000 in
theorem c_X11_worst (l : Launch) (G : Gt) (σ : Sg) (a1 : Int32) (hI : Inv σ) : Mc l G yX11_worst cX11_worst 2 (some .int) 5 110 0 0 [.ref (G.1 0 0), .int a1] σ (PI fun r τ => Inv τ ∧ Fr MS_X11_worst AS_X11_worst σ τ ∧ IV r (-2147483648) 2147483647) := by
  refine Mc.of (L0 := [some (.ref (G.1 0 0)), some (.int a1)]) (by decide) (Nat.le_of_ble_eq_true rfl) rfl ?_
  intro p e s m args below meth c C hr hlk
  have C : Cx p s m args c cX11_worst 2 "LeanTower" := C
  have k0 : (0 : Int32).toInt = 0 := by decide
  have k1 : (1 : Int32).toInt = 1 := by decide
  refine m_aload_n C dX11_worst_0 rfl rfl ?_
  refine g_0_2 C q1_188 dX11_worst_1 ?_
  refine m_callV (n := 0) (ci := 7) (st := []) C (c_X8_stands l G σ (j := 0) (by decide)  hI ) (by decide) (by decide) rfl rfl rfl q3_41 q3_38 q3_39 q3_40 q1_3 (by decide +kernel) rfl (by decide) (by decide) rfl (Nat.le_of_ble_eq_true rfl) dX11_worst_4 ?_
  rintro _ τ1 ⟨x4, rfl, i2, f3, b5⟩
  have g6 : Fr MS_X11_worst AS_X11_worst σ τ1 := Fr.call (Fr.rf) f3 (by decide)
  show MW p l e _ s m args below meth c _ 2 G 0 0 7 [some (.ref (G.1 0 0)), some (.int a1)] [.int x4] τ1
  refine m_if_ne (tgt := 13) C dX11_worst_7 (by decide) (fun c8 => ?_) (fun c8 => ?_)
  · have f9 : x4.toInt ≠ 0 := by
      have q : _ := c8
      simp only [ti_nle, ti_nlt, ti_le, ti_lt, ti_eq, ti_ne, Classical.not_not, kt_0] at q
      omega
    have b10 : IV x4 1 1 := ⟨by have q1 := b5; have q2 := kc_0; omega, by have q1 := b5; have q2 := kc_0; omega⟩
    refine m_iload_n C dX11_worst_13 rfl rfl ?_
    refine m_if_lt (tgt := 22) C dX11_worst_14 (by decide) (fun c11 => ?_) (fun c11 => ?_)
    · have f12 : a1.toInt < 0 := by
        have q : _ := c11
        simp only [ti_nle, ti_nlt, ti_le, ti_lt, ti_eq, ti_ne, Classical.not_not, kt_0] at q
        omega
      have b13 : IV a1 (-2147483648) (-1) := ⟨by have q1 := (iv_any a1); have q2 := kc_0; omega, by have q1 := (iv_any a1); have q2 := kc_0; omega⟩
      refine m_ldc (v := (-1000001)) C dX11_worst_22 q1_234 ?_
      exact m_iret C hr hlk (by decide) (by decide) dX11_worst_24 ⟨_, rfl, i2, g6, (iv_wk kc_m1000001 (by decide))⟩
    · have f14 : 0 ≤ a1.toInt := by
        have q : _ := c11
        simp only [ti_nle, ti_nlt, ti_le, ti_lt, ti_eq, ti_ne, Classical.not_not, kt_0] at q
        omega
      have b15 : IV a1 0 2147483647 := ⟨by have q1 := kc_0; have q2 := (iv_any a1); omega, by have q1 := kc_0; have q2 := (iv_any a1); omega⟩
      refine m_iload_n C dX11_worst_17 rfl rfl ?_
      refine m_iconst (v := 1) C dX11_worst_18 (by decide) ?_
      refine m_icmp_le (tgt := 25) C dX11_worst_19 (by decide) (fun c16 => ?_) (fun c16 => ?_)
      · have f17 : a1.toInt ≤ 1 := by
          have q : _ := c16
          simp only [ti_nle, ti_nlt, ti_le, ti_lt, ti_eq, ti_ne, Classical.not_not, kt_1] at q
          omega
        have b18 : IV a1 0 1 := ⟨by have q1 := b15; have q2 := kc_1; omega, by have q1 := b15; have q2 := kc_1; omega⟩
        refine m_aload_n C dX11_worst_25 rfl rfl ?_
        refine g_0_3 C q1_189 dX11_worst_26 ?_
        refine m_aload_n C dX11_worst_29 rfl rfl ?_
        refine g_0_2 C q1_188 dX11_worst_30 ?_
        refine m_callV (n := 1) (ci := 7) (st := []) C (c_X8_takeFrom l G τ1 (j := 1) (by decide) (j2 := 0) (by decide) i2 ) (by decide) (by decide) rfl rfl rfl q3_9 q3_6 q3_7 q3_8 q1_3 (by decide +kernel) rfl (by decide) (by decide) rfl (Nat.le_of_ble_eq_true rfl) dX11_worst_33 ?_
        rintro _ τ19 ⟨rfl, i20, f21⟩
        have g24 : Fr MS_X11_worst AS_X11_worst σ τ19 := Fr.call (g6) f21 (by decide)
        show MW p l e _ s m args below meth c _ 2 G 0 0 36 [some (.ref (G.1 0 0)), some (.int a1)] [] τ19
        refine m_iload_n C dX11_worst_36 rfl rfl ?_
        refine m_if_ne (tgt := 52) C dX11_worst_37 (by decide) (fun c26 => ?_) (fun c26 => ?_)
        · have f27 : a1.toInt ≠ 0 := by
            have q : _ := c26
            simp only [ti_nle, ti_nlt, ti_le, ti_lt, ti_eq, ti_ne, Classical.not_not, kt_0] at q
            omega
          have b28 : IV a1 1 1 := ⟨by have q1 := b18; have q2 := kc_0; omega, by have q1 := b18; have q2 := kc_0; omega⟩
          refine m_aload_n C dX11_worst_52 rfl rfl ?_
          refine g_0_3 C q1_189 dX11_worst_53 ?_
          refine m_bipush (v := 64) C dX11_worst_56 (by decide) ?_
          refine m_callV (n := 1) (ci := 7) (st := []) C (c_X8_firstBeyond l G τ19 (j := 1) (by decide) (64) i20 (iv_wk kc_64 (by decide))) (by decide) (by decide) rfl rfl rfl q3_134 q3_131 q3_132 q3_133 q1_3 (by decide +kernel) rfl (by decide) (by decide) rfl (Nat.le_of_ble_eq_true rfl) dX11_worst_58 ?_
          rintro _ τ29 ⟨x32, rfl, i30, f31, b33⟩
          have g34 : Fr MS_X11_worst AS_X11_worst σ τ29 := Fr.call (g24) f31 (by decide)
          show MW p l e _ s m args below meth c _ 2 G 0 0 61 [some (.ref (G.1 0 0)), some (.int a1)] [.int x32] τ29
          exact m_iret C hr hlk (by decide) (by decide) dX11_worst_61 ⟨_, rfl, i30, g34, (iv_wk b33 (by decide))⟩
        · have f36 : a1.toInt = 0 := by
            have q : _ := c26
            simp only [ti_nle, ti_nlt, ti_le, ti_lt, ti_eq, ti_ne, Classical.not_not, kt_0] at q
            omega
          have b37 : IV a1 0 0 := ⟨by have q1 := b18; have q2 := kc_0; omega, by have q1 := b18; have q2 := kc_0; omega⟩
          refine m_aload_n C dX11_worst_40 rfl rfl ?_
          refine g_0_3 C q1_189 dX11_worst_41 ?_
          refine m_bipush (v := 64) C dX11_worst_44 (by decide) ?_
          refine m_callV (n := 1) (ci := 7) (st := []) C (c_X8_worstOver l G τ19 (j := 1) (by decide) (64) i20 (iv_wk kc_64 (by decide))) (by decide) (by decide) rfl rfl rfl q3_129 q3_126 q3_127 q3_128 q1_3 (by decide +kernel) rfl (by decide) (by decide) rfl (Nat.le_of_ble_eq_true rfl) dX11_worst_46 ?_
          rintro _ τ38 ⟨x41, rfl, i39, f40, b42⟩
          have g43 : Fr MS_X11_worst AS_X11_worst σ τ38 := Fr.call (g24) f40 (by decide)
          show MW p l e _ s m args below meth c _ 2 G 0 0 49 [some (.ref (G.1 0 0)), some (.int a1)] [.int x41] τ38
          refine m_goto (tgt := 61) C dX11_worst_49 (by decide) ?_
          exact m_iret C hr hlk (by decide) (by decide) dX11_worst_61 ⟨_, rfl, i39, g43, b42⟩
      · have f45 : 1 < a1.toInt := by
          have q : _ := c16
          simp only [ti_nle, ti_nlt, ti_le, ti_lt, ti_eq, ti_ne, Classical.not_not, kt_1] at q
          omega
        have b46 : IV a1 2 2147483647 := ⟨by have q1 := kc_1; have q2 := b15; omega, by have q1 := kc_1; have q2 := b15; omega⟩
        refine m_ldc (v := (-1000001)) C dX11_worst_22 q1_234 ?_
        exact m_iret C hr hlk (by decide) (by decide) dX11_worst_24 ⟨_, rfl, i2, g6, (iv_wk kc_m1000001 (by decide))⟩
  · have f47 : x4.toInt = 0 := by
      have q : _ := c8
      simp only [ti_nle, ti_nlt, ti_le, ti_lt, ti_eq, ti_ne, Classical.not_not, kt_0] at q
      omega
    have b48 : IV x4 0 0 := ⟨by have q1 := b5; have q2 := kc_0; omega, by have q1 := b5; have q2 := kc_0; omega⟩
    refine m_ldc (v := (-1000002)) C dX11_worst_10 q3_42 ?_
    exact m_iret C hr hlk (by decide) (by decide) dX11_worst_12 ⟨_, rfl, i2, g6, (iv_wk kc_m1000002 (by decide))⟩

abbrev MS_X11_mayGoUp : List (Nat × Nat) := [(1, 0), (1, 1), (1, 2), (1, 3), (1, 9), (1, 10), (1, 11)]
abbrev AS_X11_mayGoUp : List Nat := [2, 3, 4, 5, 6]
set_option maxHeartbeats 4000000 in
set_option maxRecDepth 100000 in
theorem c_X11_mayGoUp (l : Launch) (G : Gt) (σ : Sg) (a1 : Int32) (hI : Inv σ) : Mc l G yX11_mayGoUp cX11_mayGoUp 3 (some .boolean) 5 110 0 0 [.ref (G.1 0 0), .int a1] σ (PI fun r τ => Inv τ ∧ Fr MS_X11_mayGoUp AS_X11_mayGoUp σ τ ∧ IV r 0 1) := by
  refine Mc.of (L0 := [some (.ref (G.1 0 0)), some (.int a1), none]) (by decide) (Nat.le_of_ble_eq_true rfl) rfl ?_
  intro p e s m args below meth c C hr hlk
  have C : Cx p s m args c cX11_mayGoUp 3 "LeanTower" := C
  have k0 : (0 : Int32).toInt = 0 := by decide
  have k1 : (1 : Int32).toInt = 1 := by decide
  have J13 : ∀ (n : Nat) (τ : Sg) (y2 : Int32), Inv τ → Fr MS_X11_mayGoUp AS_X11_mayGoUp σ τ → IV a1 (-2147483648) 2147483647 → IV y2 0 7 → (7 - y2.toInt).toNat < n → MW p l e { frames := 5, cells := 0, slots := 0, locals := 110 } s m args below meth c (MQ below (QP G (PI fun r τ => Inv τ ∧ Fr MS_X11_mayGoUp AS_X11_mayGoUp σ τ ∧ IV r 0 1)) args s 0 0 (aG G)) 3 G 0 0 13 [some (.ref (G.1 0 0)), some (.int a1), some (.int y2)] [] τ := by
    intro n
    induction n with
    | zero => intro τ y2 iτ fτ b_a1 b_y2 hm; exact absurd hm (Nat.not_lt_zero _)
    | succ n ih13 =>
      intro τ y2 iτ fτ b_a1 b_y2 hm13
      refine m_iload_n C dX11_mayGoUp_13 rfl rfl ?_
      refine m_aload_n C dX11_mayGoUp_14 rfl rfl ?_
      refine g_0_3 C q1_189 dX11_mayGoUp_15 ?_
      refine g_1_2 C (by decide) q1_82 dX11_mayGoUp_18 ?_
      refine m_topi (fun x1 ex1 => ?_)
      have b2 : IV x1 0 7 := by rw [ex1]; exact iτ.1 1 1 2
      refine m_icmp_ge (tgt := 49) C dX11_mayGoUp_21 (by decide) (fun c3 => ?_) (fun c3 => ?_)
      · have f4 : x1.toInt ≤ y2.toInt := by
          have q : _ := c3
          simp only [ti_nle, ti_nlt, ti_le, ti_lt, ti_eq, ti_ne, Classical.not_not] at q
          omega
        refine m_aload_n C dX11_mayGoUp_49 rfl rfl ?_
        refine g_0_3 C q1_189 dX11_mayGoUp_50 ?_
        refine m_bipush (v := 64) C dX11_mayGoUp_53 (by decide) ?_
        refine m_callV (n := 1) (ci := 7) (st := []) C (c_X8_firstBeyond l G τ (j := 1) (by decide) (64) iτ (iv_wk kc_64 (by decide))) (by decide) (by decide) rfl rfl rfl q3_134 q3_131 q3_132 q3_133 q1_3 (by decide +kernel) rfl (by decide) (by decide) rfl (Nat.le_of_ble_eq_true rfl) dX11_mayGoUp_55 ?_
        rintro _ τ5 ⟨x8, rfl, i6, f7, b9⟩
        have g10 : Fr MS_X11_mayGoUp AS_X11_mayGoUp σ τ5 := Fr.call (fτ) f7 (by decide)
        show MW p l e _ s m args below meth c _ 3 G 0 0 58 [some (.ref (G.1 0 0)), some (.int a1), some (.int y2)] [.int x8] τ5
        refine m_ldc (v := (-1000000)) C dX11_mayGoUp_58 q3_43 ?_
        refine m_icmp_ne (tgt := 67) C dX11_mayGoUp_60 (by decide) (fun c12 => ?_) (fun c12 => ?_)
        · have f13 : x8.toInt ≠ -1000000 := by
            have q : _ := c12
            simp only [ti_nle, ti_nlt, ti_le, ti_lt, ti_eq, ti_ne, Classical.not_not, kt_m1000000] at q
            omega
          have b14 : IV x8 (-999999) 64 := ⟨by have q1 := b9; have q2 := kc_m1000000; omega, by have q1 := b9; have q2 := kc_m1000000; omega⟩
          refine m_iconst (v := 0) C dX11_mayGoUp_67 (by decide) ?_
          exact m_zret C hr rfl hlk (by decide) (by decide) dX11_mayGoUp_68 ⟨_, rfl, i6, g10, (iv_wk kc_0 (by decide))⟩
        · have f15 : x8.toInt = -1000000 := by
            have q : _ := c12
            simp only [ti_nle, ti_nlt, ti_le, ti_lt, ti_eq, ti_ne, Classical.not_not, kt_m1000000] at q
            omega
          have b16 : IV x8 (-1000000) (-1000000) := ⟨by have q1 := b9; have q2 := kc_m1000000; omega, by have q1 := b9; have q2 := kc_m1000000; omega⟩
          refine m_iconst (v := 1) C dX11_mayGoUp_63 (by decide) ?_
          refine m_goto (tgt := 68) C dX11_mayGoUp_64 (by decide) ?_
          exact m_zret C hr rfl hlk (by decide) (by decide) dX11_mayGoUp_68 ⟨_, rfl, i6, g10, (iv_wk kc_1 (by decide))⟩
      · have f17 : y2.toInt < x1.toInt := by
          have q : _ := c3
          simp only [ti_nle, ti_nlt, ti_le, ti_lt, ti_eq, ti_ne, Classical.not_not] at q
          omega
        have b18 : IV y2 0 6 := ⟨by have q1 := b_y2; have q2 := b2; omega, by have q1 := b_y2; have q2 := b2; omega⟩
        have b19 : IV x1 1 7 := ⟨by have q1 := b_y2; have q2 := b2; omega, by have q1 := b_y2; have q2 := b2; omega⟩
        refine m_iload_n C dX11_mayGoUp_24 rfl rfl ?_
        refine m_iload_n C dX11_mayGoUp_25 rfl rfl ?_
        refine m_ishr C dX11_mayGoUp_26 ?_
        refine m_topi (fun x20 ex20 => ?_)
        refine m_iconst (v := 1) C dX11_mayGoUp_27 (by decide) ?_
        refine m_iand C dX11_mayGoUp_28 ?_
        refine m_topi (fun x21 ex21 => ?_)
        have b22 : IV x21 0 1 := by rw [ex21]; exact iv_and_r kc_1 (by decide)
        refine m_iconst (v := 1) C dX11_mayGoUp_29 (by decide) ?_
        refine m_icmp_ne (tgt := 43) C dX11_mayGoUp_30 (by decide) (fun c23 => ?_) (fun c23 => ?_)
        · have f24 : x21.toInt ≠ 1 := by
            have q : _ := c23
            simp only [ti_nle, ti_nlt, ti_le, ti_lt, ti_eq, ti_ne, Classical.not_not, kt_1] at q
            omega
          have b25 : IV x21 0 0 := ⟨by have q1 := b22; have q2 := kc_1; omega, by have q1 := b22; have q2 := kc_1; omega⟩
          obtain ⟨x26, ex26⟩ : ∃ y : Int32, y = y2 + 1 := ⟨_, rfl⟩
          have tx26 : x26.toInt = y2.toInt + 1 := by rw [ex26, ti_addv b18 kc_1 (by decide), kt_1]
          have b27 : IV x26 1 7 := by rw [ex26]; exact iv_add b18 kc_1 (by decide)
          refine m_iinc (v := x26) (L1 := [some (.ref (G.1 0 0)), some (.int a1), some (.int x26)]) C dX11_mayGoUp_43 rfl (by rw [ex26]; rfl) (by decide) rfl rfl ?_
          refine m_goto (tgt := 13) C dX11_mayGoUp_46 (by decide) ?_
          exact ih13 τ x26 iτ fτ b_a1 (iv_wk b27 (by decide)) (by have q := hm13; omega)
        · have f28 : x21.toInt = 1 := by
            have q : _ := c23
            simp only [ti_nle, ti_nlt, ti_le, ti_lt, ti_eq, ti_ne, Classical.not_not, kt_1] at q
            omega
          have b29 : IV x21 1 1 := ⟨by have q1 := b22; have q2 := kc_1; omega, by have q1 := b22; have q2 := kc_1; omega⟩
          refine m_aload_n C dX11_mayGoUp_33 rfl rfl ?_
          refine g_0_3 C q1_189 dX11_mayGoUp_34 ?_
          refine g_1_6 C (by decide) q1_90 dX11_mayGoUp_37 ?_
          refine m_iload_n C dX11_mayGoUp_40 rfl rfl ?_
          refine m_iconst (v := 1) C dX11_mayGoUp_41 (by decide) ?_
          refine as_3 C (by decide) b18 (by decide) rfl dX11_mayGoUp_42 ?_
          refine m_tops (fun τ30 eτ30 => ?_)
          have i31 : Inv τ30 := eτ30 ▸ Inv.putF iτ (by decide) rfl
          have f32 : Fr MS_X11_mayGoUp AS_X11_mayGoUp σ τ30 := eτ30 ▸ Fr.put (fτ) (Or.inr (by decide))
          obtain ⟨x33, ex33⟩ : ∃ y : Int32, y = y2 + 1 := ⟨_, rfl⟩
          have tx33 : x33.toInt = y2.toInt + 1 := by rw [ex33, ti_addv b18 kc_1 (by decide), kt_1]
          have b34 : IV x33 1 7 := by rw [ex33]; exact iv_add b18 kc_1 (by decide)
          refine m_iinc (v := x33) (L1 := [some (.ref (G.1 0 0)), some (.int a1), some (.int x33)]) C dX11_mayGoUp_43 rfl (by rw [ex33]; rfl) (by decide) rfl rfl ?_
          refine m_goto (tgt := 13) C dX11_mayGoUp_46 (by decide) ?_
          exact ih13 τ30 x33 i31 f32 b_a1 (iv_wk b34 (by decide)) (by have q := hm13; omega)
  refine m_aload_n C dX11_mayGoUp_0 rfl rfl ?_
  refine g_0_3 C q1_189 dX11_mayGoUp_1 ?_
  refine m_aload_n C dX11_mayGoUp_4 rfl rfl ?_
  refine g_0_2 C q1_188 dX11_mayGoUp_5 ?_
  refine m_callV (n := 1) (ci := 7) (st := []) C (c_X8_takeFrom l G σ (j := 1) (by decide) (j2 := 0) (by decide) hI ) (by decide) (by decide) rfl rfl rfl q3_9 q3_6 q3_7 q3_8 q1_3 (by decide +kernel) rfl (by decide) (by decide) rfl (Nat.le_of_ble_eq_true rfl) dX11_mayGoUp_8 ?_
  rintro _ τ35 ⟨rfl, i36, f37⟩
  have g40 : Fr MS_X11_mayGoUp AS_X11_mayGoUp σ τ35 := Fr.call (Fr.rf) f37 (by decide)
  show MW p l e _ s m args below meth c _ 3 G 0 0 11 [some (.ref (G.1 0 0)), some (.int a1), none] [] τ35
  refine m_iconst (v := 0) C dX11_mayGoUp_11 (by decide) ?_
  refine m_istore_n (L1 := [some (.ref (G.1 0 0)), some (.int a1), some (.int 0)]) C dX11_mayGoUp_12 rfl (by decide) rfl rfl ?_
  exact J13 ((7 - (0 : Int32).toInt).toNat + 1) τ35 0 i36 g40 (iv_any a1) (iv_wk kc_0 (by decide)) (Nat.lt_succ_self _)

abbrev MS_X11_most : List (Nat × Nat) := [(1, 0), (1, 1), (1, 2), (1, 3), (1, 9), (1, 10), (1, 11)]
abbrev AS_X11_most : List Nat := [2, 3, 4, 5, 6]
set_option maxHeartbeats 4000000 in
set_option maxRecDepth 100000 in
theorem c_X11_most (l : Launch) (G : Gt) (σ : Sg) (hI : Inv σ) : Mc l G yX11_most cX11_most 6 (some .int) 6 132 0 0 [.ref (G.1 0 0)] σ (PI fun r τ => Inv τ ∧ Fr MS_X11_most AS_X11_most σ τ ∧ IV r (-1000002) 127) := by
  refine Mc.of (L0 := [some (.ref (G.1 0 0)), none, none, none, none, none]) (by decide) (Nat.le_of_ble_eq_true rfl) rfl ?_
  intro p e s m args below meth c C hr hlk
  have C : Cx p s m args c cX11_most 6 "LeanTower" := C
  have k0 : (0 : Int32).toInt = 0 := by decide
  have k1 : (1 : Int32).toInt = 1 := by decide
  have J29 : ∀ (n : Nat) (τ : Sg) (y1 : Int32) (y2 : Int32) (y3 : Int32) (y4 : Int32), Inv τ → Fr MS_X11_most AS_X11_most σ τ → IV y1 0 127 → IV y2 (-1000000) 127 → IV y3 (-1) 63 → IV y4 0 128 → (128 - y4.toInt).toNat < n → MW p l e { frames := 6, cells := 0, slots := 0, locals := 132 } s m args below meth c (MQ below (QP G (PI fun r τ => Inv τ ∧ Fr MS_X11_most AS_X11_most σ τ ∧ IV r (-1000002) 127)) args s 0 0 (aG G)) 6 G 0 0 29 [some (.ref (G.1 0 0)), some (.int y1), some (.int y2), some (.int y3), some (.int y4), none] [] τ := by
    intro n
    induction n with
    | zero => intro τ y1 y2 y3 y4 iτ fτ b_y1 b_y2 b_y3 b_y4 hm; exact absurd hm (Nat.not_lt_zero _)
    | succ n ih29 =>
      intro τ y1 y2 y3 y4 iτ fτ b_y1 b_y2 b_y3 b_y4 hm29
      have J58 : ∀ (τ : Sg) (z0 : Int32), Inv τ → Fr MS_X11_most AS_X11_most σ τ → IV y1 0 127 → IV y2 (-1000000) 127 → IV y3 (-1) 63 → IV y4 0 127 → IV z0 0 1 → MW p l e { frames := 6, cells := 0, slots := 0, locals := 132 } s m args below meth c (MQ below (QP G (PI fun r τ => Inv τ ∧ Fr MS_X11_most AS_X11_most σ τ ∧ IV r (-1000002) 127)) args s 0 0 (aG G)) 6 G 0 0 58 [some (.ref (G.1 0 0)), some (.int y1), some (.int y2), some (.int y3), some (.int y4), none] [.int z0] τ := by
        intro τ z0 iτ fτ b_y1 b_y2 b_y3 b_y4 b_z0
        refine m_istore (L1 := [some (.ref (G.1 0 0)), some (.int y1), some (.int y2), some (.int y3), some (.int y4), some (.int z0)]) C dX11_most_58 (by decide) rfl rfl ?_
        refine m_iload C dX11_most_60 rfl ?_
        refine m_if_eq (tgt := 83) C dX11_most_62 (by decide) (fun c1 => ?_) (fun c1 => ?_)
        · have f2 : z0.toInt = 0 := by
            have q : _ := c1
            simp only [ti_nle, ti_nlt, ti_le, ti_lt, ti_eq, ti_ne, Classical.not_not, kt_0] at q
            omega
          have b3 : IV z0 0 0 := ⟨by have q1 := b_z0; have q2 := kc_0; omega, by have q1 := b_z0; have q2 := kc_0; omega⟩
          obtain ⟨x4, ex4⟩ : ∃ y : Int32, y = y4 + 1 := ⟨_, rfl⟩
          have tx4 : x4.toInt = y4.toInt + 1 := by rw [ex4, ti_addv b_y4 kc_1 (by decide), kt_1]
          have b5 : IV x4 1 128 := by rw [ex4]; exact iv_add b_y4 kc_1 (by decide)
          refine m_iinc (v := x4) (L1 := [some (.ref (G.1 0 0)), some (.int y1), some (.int y2), some (.int y3), some (.int x4), some (.int z0)]) C dX11_most_83 rfl (by rw [ex4]; rfl) (by decide) rfl rfl ?_
          refine m_goto (tgt := 29) C dX11_most_86 (by decide) ?_
          refine m_sub (L1 := [some (.ref (G.1 0 0)), some (.int y1), some (.int y2), some (.int y3), some (.int x4), none]) ⟨rfl, ⟨rfl, ⟨rfl, ⟨rfl, ⟨rfl, trivial⟩⟩⟩⟩⟩ ?_
          exact ih29 τ y1 y2 y3 x4 iτ fτ b_y1 b_y2 b_y3 (iv_wk b5 (by decide)) (by have q := hm29; omega)
        · have f6 : z0.toInt ≠ 0 := by
            have q : _ := c1
            simp only [ti_nle, ti_nlt, ti_le, ti_lt, ti_eq, ti_ne, Classical.not_not, kt_0] at q
            omega
          have b7 : IV z0 1 1 := ⟨by have q1 := b_z0; have q2 := kc_0; omega, by have q1 := b_z0; have q2 := kc_0; omega⟩
          refine m_aload_n C dX11_most_65 rfl rfl ?_
          refine m_iload C dX11_most_66 rfl ?_
          refine m_callV (n := 1) (ci := 10) (st := []) C (c_X11_mayGoUp l G τ (y4) iτ ) (by decide) (by decide) rfl rfl rfl q3_153 q3_150 q3_152 q0_16 q1_1 (by decide +kernel) rfl (by decide) (by decide) rfl (Nat.le_of_ble_eq_true rfl) dX11_most_68 ?_
          rintro _ τ8 ⟨x11, rfl, i9, f10, b12⟩
          have g13 : Fr MS_X11_most AS_X11_most σ τ8 := Fr.call (fτ) f10 (by decide)
          show MW p l e _ s m args below meth c _ 6 G 0 0 71 [some (.ref (G.1 0 0)), some (.int y1), some (.int y2), some (.int y3), some (.int y4), some (.int z0)] [.int x11] τ8
          refine m_if_eq (tgt := 83) C dX11_most_71 (by decide) (fun c15 => ?_) (fun c15 => ?_)
          · have f16 : x11.toInt = 0 := by
              have q : _ := c15
              simp only [ti_nle, ti_nlt, ti_le, ti_lt, ti_eq, ti_ne, Classical.not_not, kt_0] at q
              omega
            have b17 : IV x11 0 0 := ⟨by have q1 := b12; have q2 := kc_0; omega, by have q1 := b12; have q2 := kc_0; omega⟩
            obtain ⟨x18, ex18⟩ : ∃ y : Int32, y = y4 + 1 := ⟨_, rfl⟩
            have tx18 : x18.toInt = y4.toInt + 1 := by rw [ex18, ti_addv b_y4 kc_1 (by decide), kt_1]
            have b19 : IV x18 1 128 := by rw [ex18]; exact iv_add b_y4 kc_1 (by decide)
            refine m_iinc (v := x18) (L1 := [some (.ref (G.1 0 0)), some (.int y1), some (.int y2), some (.int y3), some (.int x18), some (.int z0)]) C dX11_most_83 rfl (by rw [ex18]; rfl) (by decide) rfl rfl ?_
            refine m_goto (tgt := 29) C dX11_most_86 (by decide) ?_
            refine m_sub (L1 := [some (.ref (G.1 0 0)), some (.int y1), some (.int y2), some (.int y3), some (.int x18), none]) ⟨rfl, ⟨rfl, ⟨rfl, ⟨rfl, ⟨rfl, trivial⟩⟩⟩⟩⟩ ?_
            exact ih29 τ8 y1 y2 y3 x18 i9 g13 b_y1 b_y2 b_y3 (iv_wk b19 (by decide)) (by have q := hm29; omega)
          · have f20 : x11.toInt ≠ 0 := by
              have q : _ := c15
              simp only [ti_nle, ti_nlt, ti_le, ti_lt, ti_eq, ti_ne, Classical.not_not, kt_0] at q
              omega
            have b21 : IV x11 1 1 := ⟨by have q1 := b12; have q2 := kc_0; omega, by have q1 := b12; have q2 := kc_0; omega⟩
            refine m_iload C dX11_most_74 rfl ?_
            refine m_istore_n (L1 := [some (.ref (G.1 0 0)), some (.int y1), some (.int y4), some (.int y3), some (.int y4), some (.int z0)]) C dX11_most_76 rfl (by decide) rfl rfl ?_
            refine m_iload C dX11_most_77 rfl ?_
            refine m_callS (n := 1) (st := []) C (c_J6_bitCount_0f7a4 l G τ8 (y4) i9 ) q3_146 q3_144 q3_145 q1_20 (by decide +kernel) rfl (by decide) (by decide) rfl (Nat.le_of_ble_eq_true rfl) dX11_most_79 ?_
            rintro _ τ22 ⟨x25, rfl, i23, f24, b26⟩
            have g27 : Fr MS_X11_most AS_X11_most σ τ22 := Fr.call (g13) f24 (by decide)
            show MW p l e _ s m args below meth c _ 6 G 0 0 82 [some (.ref (G.1 0 0)), some (.int y1), some (.int y4), some (.int y3), some (.int y4), some (.int z0)] [.int x25] τ22
            refine m_istore_n (L1 := [some (.ref (G.1 0 0)), some (.int y1), some (.int y4), some (.int x25), some (.int y4), some (.int z0)]) C dX11_most_82 rfl (by decide) rfl rfl ?_
            obtain ⟨x29, ex29⟩ : ∃ y : Int32, y = y4 + 1 := ⟨_, rfl⟩
            have tx29 : x29.toInt = y4.toInt + 1 := by rw [ex29, ti_addv b_y4 kc_1 (by decide), kt_1]
            have b30 : IV x29 1 128 := by rw [ex29]; exact iv_add b_y4 kc_1 (by decide)
            refine m_iinc (v := x29) (L1 := [some (.ref (G.1 0 0)), some (.int y1), some (.int y4), some (.int x25), some (.int x29), some (.int z0)]) C dX11_most_83 rfl (by rw [ex29]; rfl) (by decide) rfl rfl ?_
            refine m_goto (tgt := 29) C dX11_most_86 (by decide) ?_
            refine m_sub (L1 := [some (.ref (G.1 0 0)), some (.int y1), some (.int y4), some (.int x25), some (.int x29), none]) ⟨rfl, ⟨rfl, ⟨rfl, ⟨rfl, ⟨rfl, trivial⟩⟩⟩⟩⟩ ?_
            exact ih29 τ22 y1 y4 x25 x29 i23 g27 b_y1 (iv_wk b_y4 (by decide)) (iv_wk b26 (by decide)) (iv_wk b30 (by decide)) (by have q := hm29; omega)
      refine m_iload C dX11_most_29 rfl ?_
      refine m_iload_n C dX11_most_31 rfl rfl ?_
      refine m_icmp_gt (tgt := 89) C dX11_most_32 (by decide) (fun c31 => ?_) (fun c31 => ?_)
      · have f32 : y1.toInt < y4.toInt := by
          have q : _ := c31
          simp only [ti_nle, ti_nlt, ti_le, ti_lt, ti_eq, ti_ne, Classical.not_not] at q
          omega
        have b33 : IV y4 1 128 := ⟨by have q1 := b_y1; have q2 := b_y4; omega, by have q1 := b_y1; have q2 := b_y4; omega⟩
        refine m_iload_n C dX11_most_89 rfl rfl ?_
        exact m_iret C hr hlk (by decide) (by decide) dX11_most_90 ⟨_, rfl, iτ, fτ, (iv_wk b_y2 (by decide))⟩
      · have f34 : y4.toInt ≤ y1.toInt := by
          have q : _ := c31
          simp only [ti_nle, ti_nlt, ti_le, ti_lt, ti_eq, ti_ne, Classical.not_not] at q
          omega
        have b35 : IV y4 0 127 := ⟨by have q1 := b_y4; have q2 := b_y1; omega, by have q1 := b_y4; have q2 := b_y1; omega⟩
        refine m_iload C dX11_most_35 rfl ?_
        refine m_iload_n C dX11_most_37 rfl rfl ?_
        refine m_iconst (v := (-1)) C dX11_most_38 (by decide) ?_
        refine m_ixor C dX11_most_39 ?_
        refine m_topi (fun x36 ex36 => ?_)
        refine m_iand C dX11_most_40 ?_
        refine m_topi (fun x37 ex37 => ?_)
        have b38 : IV x37 0 127 := by rw [ex37]; exact iv_and_l b35 (by decide)
        refine m_if_ne (tgt := 57) C dX11_most_41 (by decide) (fun c39 => ?_) (fun c39 => ?_)
        · have f40 : x37.toInt ≠ 0 := by
            have q : _ := c39
            simp only [ti_nle, ti_nlt, ti_le, ti_lt, ti_eq, ti_ne, Classical.not_not, kt_0] at q
            omega
          have b41 : IV x37 1 127 := ⟨by have q1 := b38; have q2 := kc_0; omega, by have q1 := b38; have q2 := kc_0; omega⟩
          refine m_iconst (v := 0) C dX11_most_57 (by decide) ?_
          exact J58 τ 0 iτ fτ b_y1 b_y2 b_y3 b35 (iv_wk kc_0 (by decide))
        · have f42 : x37.toInt = 0 := by
            have q : _ := c39
            simp only [ti_nle, ti_nlt, ti_le, ti_lt, ti_eq, ti_ne, Classical.not_not, kt_0] at q
            omega
          have b43 : IV x37 0 0 := ⟨by have q1 := b38; have q2 := kc_0; omega, by have q1 := b38; have q2 := kc_0; omega⟩
          refine m_iload C dX11_most_44 rfl ?_
          refine m_callS (n := 1) (st := []) C (c_J6_bitCount_0f7a4 l G τ (y4) iτ ) q3_146 q3_144 q3_145 q1_20 (by decide +kernel) rfl (by decide) (by decide) rfl (Nat.le_of_ble_eq_true rfl) dX11_most_46 ?_
          rintro _ τ44 ⟨x47, rfl, i45, f46, b48⟩
          have g49 : Fr MS_X11_most AS_X11_most σ τ44 := Fr.call (fτ) f46 (by decide)
          show MW p l e _ s m args below meth c _ 6 G 0 0 49 [some (.ref (G.1 0 0)), some (.int y1), some (.int y2), some (.int y3), some (.int y4), none] [.int x47] τ44
          refine m_iload_n C dX11_most_49 rfl rfl ?_
          refine m_icmp_le (tgt := 57) C dX11_most_50 (by decide) (fun c51 => ?_) (fun c51 => ?_)
          · have f52 : x47.toInt ≤ y3.toInt := by
              have q : _ := c51
              simp only [ti_nle, ti_nlt, ti_le, ti_lt, ti_eq, ti_ne, Classical.not_not] at q
              omega
            have b53 : IV y3 0 63 := ⟨by have q1 := b48; have q2 := b_y3; omega, by have q1 := b48; have q2 := b_y3; omega⟩
            refine m_iconst (v := 0) C dX11_most_57 (by decide) ?_
            exact J58 τ44 0 i45 g49 b_y1 b_y2 (iv_wk b53 (by decide)) b35 (iv_wk kc_0 (by decide))
          · have f54 : y3.toInt < x47.toInt := by
              have q : _ := c51
              simp only [ti_nle, ti_nlt, ti_le, ti_lt, ti_eq, ti_ne, Classical.not_not] at q
              omega
            have b55 : IV y3 (-1) 62 := ⟨by have q1 := b_y3; have q2 := b48; omega, by have q1 := b_y3; have q2 := b48; omega⟩
            refine m_iconst (v := 1) C dX11_most_53 (by decide) ?_
            refine m_goto (tgt := 58) C dX11_most_54 (by decide) ?_
            exact J58 τ44 1 i45 g49 b_y1 b_y2 (iv_wk b55 (by decide)) b35 (iv_wk kc_1 (by decide))
  refine m_aload_n C dX11_most_0 rfl rfl ?_
  refine g_0_2 C q1_188 dX11_most_1 ?_
  refine m_callV (n := 0) (ci := 7) (st := []) C (c_X8_stands l G σ (j := 0) (by decide)  hI ) (by decide) (by decide) rfl rfl rfl q3_41 q3_38 q3_39 q3_40 q1_3 (by decide +kernel) rfl (by decide) (by decide) rfl (Nat.le_of_ble_eq_true rfl) dX11_most_4 ?_
  rintro _ τ56 ⟨x59, rfl, i57, f58, b60⟩
  have g61 : Fr MS_X11_most AS_X11_most σ τ56 := Fr.call (Fr.rf) f58 (by decide)
  show MW p l e _ s m args below meth c _ 6 G 0 0 7 [some (.ref (G.1 0 0)), none, none, none, none, none] [.int x59] τ56
  refine m_if_ne (tgt := 13) C dX11_most_7 (by decide) (fun c63 => ?_) (fun c63 => ?_)
  · have f64 : x59.toInt ≠ 0 := by
      have q : _ := c63
      simp only [ti_nle, ti_nlt, ti_le, ti_lt, ti_eq, ti_ne, Classical.not_not, kt_0] at q
      omega
    have b65 : IV x59 1 1 := ⟨by have q1 := b60; have q2 := kc_0; omega, by have q1 := b60; have q2 := kc_0; omega⟩
    refine m_aload_n C dX11_most_13 rfl rfl ?_
    refine g_0_2 C q1_188 dX11_most_14 ?_
    refine m_callV (n := 0) (ci := 7) (st := []) C (c_X8_outsideSet l G τ56 (j := 0) (by decide)  i57 ) (by decide) (by decide) rfl rfl rfl q3_143 q3_140 q3_141 q3_142 q1_3 (by decide +kernel) rfl (by decide) (by decide) rfl (Nat.le_of_ble_eq_true rfl) dX11_most_17 ?_
    rintro _ τ66 ⟨x69, rfl, i67, f68, b70⟩
    have g71 : Fr MS_X11_most AS_X11_most σ τ66 := Fr.call (g61) f68 (by decide)
    show MW p l e _ s m args below meth c _ 6 G 0 0 20 [some (.ref (G.1 0 0)), none, none, none, none, none] [.int x69] τ66
    refine m_istore_n (L1 := [some (.ref (G.1 0 0)), some (.int x69), none, none, none, none]) C dX11_most_20 rfl (by decide) rfl rfl ?_
    refine m_ldc (v := (-1000000)) C dX11_most_21 q3_43 ?_
    refine m_istore_n (L1 := [some (.ref (G.1 0 0)), some (.int x69), some (.int (-1000000)), none, none, none]) C dX11_most_23 rfl (by decide) rfl rfl ?_
    refine m_iconst (v := (-1)) C dX11_most_24 (by decide) ?_
    refine m_istore_n (L1 := [some (.ref (G.1 0 0)), some (.int x69), some (.int (-1000000)), some (.int (-1)), none, none]) C dX11_most_25 rfl (by decide) rfl rfl ?_
    refine m_iconst (v := 0) C dX11_most_26 (by decide) ?_
    refine m_istore (L1 := [some (.ref (G.1 0 0)), some (.int x69), some (.int (-1000000)), some (.int (-1)), some (.int 0), none]) C dX11_most_27 (by decide) rfl rfl ?_
    exact J29 ((128 - (0 : Int32).toInt).toNat + 1) τ66 x69 (-1000000) (-1) 0 i67 g71 b70 (iv_wk kc_m1000000 (by decide)) (iv_wk kc_m1 (by decide)) (iv_wk kc_0 (by decide)) (Nat.lt_succ_self _)
  · have f73 : x59.toInt = 0 := by
      have q : _ := c63
      simp only [ti_nle, ti_nlt, ti_le, ti_lt, ti_eq, ti_ne, Classical.not_not, kt_0] at q
      omega
    have b74 : IV x59 0 0 := ⟨by have q1 := b60; have q2 := kc_0; omega, by have q1 := b60; have q2 := kc_0; omega⟩
    refine m_ldc (v := (-1000002)) C dX11_most_10 q3_42 ?_
    exact m_iret C hr hlk (by decide) (by decide) dX11_most_12 ⟨_, rfl, i57, g61, (iv_wk kc_m1000002 (by decide))⟩

abbrev MS_X11_worstOfTwo : List (Nat × Nat) := [(1, 0), (1, 1), (1, 2), (1, 3), (1, 9), (1, 10), (1, 11)]
abbrev AS_X11_worstOfTwo : List Nat := [2, 3, 4, 5, 6]
set_option maxHeartbeats 4000000 in
set_option maxRecDepth 100000 in
theorem c_X11_worstOfTwo (l : Launch) (G : Gt) (σ : Sg) (a1 : Int32) (a2 : Int32) (a3 : Int32) (hI : Inv σ) (ha1 : IV a1 0 6) (ha2 : IV a2 0 6) (ha3 : IV a3 0 9) : Mc l G yX11_worstOfTwo cX11_worstOfTwo 5 (some .int) 4 109 0 0 [.ref (G.1 0 0), .int a1, .int a2, .int a3] σ (PI fun r τ => Inv τ ∧ Fr MS_X11_worstOfTwo AS_X11_worstOfTwo σ τ ∧ IV r (-2147483648) 2147483647) := by
  refine Mc.of (L0 := [some (.ref (G.1 0 0)), some (.int a1), some (.int a2), some (.int a3), none]) (by decide) (Nat.le_of_ble_eq_true rfl) rfl ?_
  intro p e s m args below meth c C hr hlk
  have C : Cx p s m args c cX11_worstOfTwo 5 "LeanTower" := C
  have k0 : (0 : Int32).toInt = 0 := by decide
  have k1 : (1 : Int32).toInt = 1 := by decide
  refine m_aload_n C dX11_worstOfTwo_0 rfl rfl ?_
  refine g_0_3 C q1_189 dX11_worstOfTwo_1 ?_
  refine m_aload_n C dX11_worstOfTwo_4 rfl rfl ?_
  refine g_0_2 C q1_188 dX11_worstOfTwo_5 ?_
  refine m_callV (n := 1) (ci := 7) (st := []) C (c_X8_takeFrom l G σ (j := 1) (by decide) (j2 := 0) (by decide) hI ) (by decide) (by decide) rfl rfl rfl q3_9 q3_6 q3_7 q3_8 q1_3 (by decide +kernel) rfl (by decide) (by decide) rfl (Nat.le_of_ble_eq_true rfl) dX11_worstOfTwo_8 ?_
  rintro _ τ1 ⟨rfl, i2, f3⟩
  have g6 : Fr MS_X11_worstOfTwo AS_X11_worstOfTwo σ τ1 := Fr.call (Fr.rf) f3 (by decide)
  show MW p l e _ s m args below meth c _ 5 G 0 0 11 [some (.ref (G.1 0 0)), some (.int a1), some (.int a2), some (.int a3), none] [] τ1
  refine m_aload_n C dX11_worstOfTwo_11 rfl rfl ?_
  refine g_0_3 C q1_189 dX11_worstOfTwo_12 ?_
  refine g_1_6 C (by decide) q1_90 dX11_worstOfTwo_15 ?_
  refine m_iload_n C dX11_worstOfTwo_18 rfl rfl ?_
  refine m_iconst (v := 1) C dX11_worstOfTwo_19 (by decide) ?_
  refine as_3 C (by decide) ha1 (by decide) rfl dX11_worstOfTwo_20 ?_
  refine m_tops (fun τ8 eτ8 => ?_)
  have i9 : Inv τ8 := eτ8 ▸ Inv.putF i2 (by decide) rfl
  have f10 : Fr MS_X11_worstOfTwo AS_X11_worstOfTwo σ τ8 := eτ8 ▸ Fr.put (g6) (Or.inr (by decide))
  refine m_aload_n C dX11_worstOfTwo_21 rfl rfl ?_
  refine g_0_3 C q1_189 dX11_worstOfTwo_22 ?_
  refine g_1_6 C (by decide) q1_90 dX11_worstOfTwo_25 ?_
  refine m_iload_n C dX11_worstOfTwo_28 rfl rfl ?_
  refine m_iconst (v := 0) C dX11_worstOfTwo_29 (by decide) ?_
  refine as_3 C (by decide) ha2 (by decide) rfl dX11_worstOfTwo_30 ?_
  refine m_tops (fun τ11 eτ11 => ?_)
  have i12 : Inv τ11 := eτ11 ▸ Inv.putF i9 (by decide) rfl
  have f13 : Fr MS_X11_worstOfTwo AS_X11_worstOfTwo σ τ11 := eτ11 ▸ Fr.put (f10) (Or.inr (by decide))
  refine m_aload_n C dX11_worstOfTwo_31 rfl rfl ?_
  refine g_0_3 C q1_189 dX11_worstOfTwo_32 ?_
  refine m_iload_n C dX11_worstOfTwo_35 rfl rfl ?_
  refine m_callV (n := 1) (ci := 7) (st := []) C (c_X8_worstOver l G τ11 (j := 1) (by decide) (a3) i12 (iv_wk ha3 (by decide))) (by decide) (by decide) rfl rfl rfl q3_129 q3_126 q3_127 q3_128 q1_3 (by decide +kernel) rfl (by decide) (by decide) rfl (Nat.le_of_ble_eq_true rfl) dX11_worstOfTwo_36 ?_
  rintro _ τ14 ⟨x17, rfl, i15, f16, b18⟩
  have g19 : Fr MS_X11_worstOfTwo AS_X11_worstOfTwo σ τ14 := Fr.call (f13) f16 (by decide)
  show MW p l e _ s m args below meth c _ 5 G 0 0 39 [some (.ref (G.1 0 0)), some (.int a1), some (.int a2), some (.int a3), none] [.int x17] τ14
  refine m_istore (L1 := [some (.ref (G.1 0 0)), some (.int a1), some (.int a2), some (.int a3), some (.int x17)]) C dX11_worstOfTwo_39 (by decide) rfl rfl ?_
  refine m_aload_n C dX11_worstOfTwo_41 rfl rfl ?_
  refine g_0_3 C q1_189 dX11_worstOfTwo_42 ?_
  refine g_1_6 C (by decide) q1_90 dX11_worstOfTwo_45 ?_
  refine m_iload_n C dX11_worstOfTwo_48 rfl rfl ?_
  refine m_iconst (v := 1) C dX11_worstOfTwo_49 (by decide) ?_
  refine as_3 C (by decide) ha2 (by decide) rfl dX11_worstOfTwo_50 ?_
  refine m_tops (fun τ21 eτ21 => ?_)
  have i22 : Inv τ21 := eτ21 ▸ Inv.putF i15 (by decide) rfl
  have f23 : Fr MS_X11_worstOfTwo AS_X11_worstOfTwo σ τ21 := eτ21 ▸ Fr.put (g19) (Or.inr (by decide))
  refine m_iload C dX11_worstOfTwo_51 rfl ?_
  refine m_aload_n C dX11_worstOfTwo_53 rfl rfl ?_
  refine g_0_3 C q1_189 dX11_worstOfTwo_54 ?_
  refine m_bipush (v := 64) C dX11_worstOfTwo_57 (by decide) ?_
  refine m_iload_n C dX11_worstOfTwo_59 rfl rfl ?_
  refine m_isub C dX11_worstOfTwo_60 ?_
  refine m_topi (fun x24 ex24 => ?_)
  have tx24 : x24.toInt = 64 - a3.toInt := by rw [ex24, ti_subv kc_64 ha3 (by decide), kt_64]
  have b25 : IV x24 55 64 := by rw [ex24]; exact iv_sub kc_64 ha3 (by decide)
  refine m_callV (n := 1) (ci := 7) (st := [.int x17]) C (c_X8_worstOver l G τ21 (j := 1) (by decide) (x24) i22 (iv_wk b25 (by decide))) (by decide) (by decide) rfl rfl rfl q3_129 q3_126 q3_127 q3_128 q1_3 (by decide +kernel) rfl (by decide) (by decide) rfl (Nat.le_of_ble_eq_true rfl) dX11_worstOfTwo_61 ?_
  rintro _ τ26 ⟨x29, rfl, i27, f28, b30⟩
  have g31 : Fr MS_X11_worstOfTwo AS_X11_worstOfTwo σ τ26 := Fr.call (f23) f28 (by decide)
  show MW p l e _ s m args below meth c _ 5 G 0 0 64 [some (.ref (G.1 0 0)), some (.int a1), some (.int a2), some (.int a3), some (.int x17)] [.int x29, .int x17] τ26
  refine m_max (st := []) C q3_166 q3_92 q1_19 q3_93 ⟨by decide, Nat.le_of_ble_eq_true rfl⟩ (by decide) dX11_worstOfTwo_64 (fun x33 ex33 => ?_)
  have tx33 : x33.toInt = max (x17.toInt) (x29.toInt) := by rw [ti_max ex33]
  exact m_iret C hr hlk (by decide) (by decide) dX11_worstOfTwo_67 ⟨_, rfl, i27, g31, (iv_any x33)⟩

abbrev MS_X11_two : List (Nat × Nat) := [(1, 0), (1, 1), (1, 2), (1, 3), (1, 9), (1, 10), (1, 11)]
abbrev AS_X11_two : List Nat := [2, 3, 4, 5, 6]
set_option maxHeartbeats 4000000 in
set_option maxRecDepth 100000 in
theorem c_X11_two (l : Launch) (G : Gt) (σ : Sg) (a1 : Int32) (a2 : Int32) (a3 : Int32) (hI : Inv σ) : Mc l G yX11_two cX11_two 8 (some .int) 5 133 0 0 [.ref (G.1 0 0), .int a1, .int a2, .int a3] σ (PI fun r τ => Inv τ ∧ Fr MS_X11_two AS_X11_two σ τ ∧ IV r (-2147483648) 2147483647) := by
  refine Mc.of (L0 := [some (.ref (G.1 0 0)), some (.int a1), some (.int a2), some (.int a3), none, none, none, none]) (by decide) (Nat.le_of_ble_eq_true rfl) rfl ?_
  intro p e s m args below meth c C hr hlk
  have C : Cx p s m args c cX11_two 8 "LeanTower" := C
  have k0 : (0 : Int32).toInt = 0 := by decide
  have k1 : (1 : Int32).toInt = 1 := by decide
  have J54 : ∀ (n : Nat) (τ : Sg) (y4 : Int32) (y5 : Int32) (y6 : Int32), Inv τ → Fr MS_X11_two AS_X11_two σ τ → IV a1 0 6 → IV a2 0 6 → IV a3 0 1 → IV y4 0 16 → IV y5 (-2147483648) 2147483647 → IV y6 1 10 → (10 - y6.toInt).toNat < n → MW p l e { frames := 5, cells := 0, slots := 0, locals := 133 } s m args below meth c (MQ below (QP G (PI fun r τ => Inv τ ∧ Fr MS_X11_two AS_X11_two σ τ ∧ IV r (-2147483648) 2147483647)) args s 0 0 (aG G)) 8 G 0 0 54 [some (.ref (G.1 0 0)), some (.int a1), some (.int a2), some (.int a3), some (.int y4), some (.int y5), some (.int y6), none] [] τ := by
    intro n
    induction n with
    | zero => intro τ y4 y5 y6 iτ fτ b_a1 b_a2 b_a3 b_y4 b_y5 b_y6 hm; exact absurd hm (Nat.not_lt_zero _)
    | succ n ih54 =>
      intro τ y4 y5 y6 iτ fτ b_a1 b_a2 b_a3 b_y4 b_y5 b_y6 hm54
      refine m_iload C dX11_two_54 rfl ?_
      refine m_bipush (v := 9) C dX11_two_56 (by decide) ?_
      refine m_icmp_gt (tgt := 92) C dX11_two_58 (by decide) (fun c1 => ?_) (fun c1 => ?_)
      · have f2 : 9 < y6.toInt := by
          have q : _ := c1
          simp only [ti_nle, ti_nlt, ti_le, ti_lt, ti_eq, ti_ne, Classical.not_not, kt_9] at q
          omega
        have b3 : IV y6 10 10 := ⟨by have q1 := kc_9; have q2 := b_y6; omega, by have q1 := kc_9; have q2 := b_y6; omega⟩
        refine m_iload_n C dX11_two_92 rfl rfl ?_
        refine m_if_ne (tgt := 101) C dX11_two_93 (by decide) (fun c4 => ?_) (fun c4 => ?_)
        · have f5 : a3.toInt ≠ 0 := by
            have q : _ := c4
            simp only [ti_nle, ti_nlt, ti_le, ti_lt, ti_eq, ti_ne, Classical.not_not, kt_0] at q
            omega
          have b6 : IV a3 1 1 := ⟨by have q1 := b_a3; have q2 := kc_0; omega, by have q1 := b_a3; have q2 := kc_0; omega⟩
          refine m_iload C dX11_two_101 rfl ?_
          exact m_iret C hr hlk (by decide) (by decide) dX11_two_103 ⟨_, rfl, iτ, fτ, b_y5⟩
        · have f7 : a3.toInt = 0 := by
            have q : _ := c4
            simp only [ti_nle, ti_nlt, ti_le, ti_lt, ti_eq, ti_ne, Classical.not_not, kt_0] at q
            omega
          have b8 : IV a3 0 0 := ⟨by have q1 := b_a3; have q2 := kc_0; omega, by have q1 := b_a3; have q2 := kc_0; omega⟩
          refine m_iload C dX11_two_96 rfl ?_
          refine m_goto (tgt := 103) C dX11_two_98 (by decide) ?_
          exact m_iret C hr hlk (by decide) (by decide) dX11_two_103 ⟨_, rfl, iτ, fτ, (iv_wk b_y4 (by decide))⟩
      · have f9 : y6.toInt ≤ 9 := by
          have q : _ := c1
          simp only [ti_nle, ti_nlt, ti_le, ti_lt, ti_eq, ti_ne, Classical.not_not, kt_9] at q
          omega
        have b10 : IV y6 1 9 := ⟨by have q1 := b_y6; have q2 := kc_9; omega, by have q1 := b_y6; have q2 := kc_9; omega⟩
        refine m_aload_n C dX11_two_61 rfl rfl ?_
        refine m_iload_n C dX11_two_62 rfl rfl ?_
        refine m_iload_n C dX11_two_63 rfl rfl ?_
        refine m_iload C dX11_two_64 rfl ?_
        refine m_callV (n := 3) (ci := 10) (st := []) C (c_X11_worstOfTwo l G τ (a1) (a2) (y6) iτ b_a1 b_a2 (iv_wk b10 (by decide))) (by decide) (by decide) rfl rfl rfl q3_165 q3_162 q3_164 q0_17 q1_1 (by decide +kernel) rfl (by decide) (by decide) rfl (Nat.le_of_ble_eq_true rfl) dX11_two_66 ?_
        rintro _ τ11 ⟨x14, rfl, i12, f13, b15⟩
        have g16 : Fr MS_X11_two AS_X11_two σ τ11 := Fr.call (fτ) f13 (by decide)
        show MW p l e _ s m args below meth c _ 8 G 0 0 69 [some (.ref (G.1 0 0)), some (.int a1), some (.int a2), some (.int a3), some (.int y4), some (.int y5), some (.int y6), none] [.int x14] τ11
        refine m_istore (L1 := [some (.ref (G.1 0 0)), some (.int a1), some (.int a2), some (.int a3), some (.int y4), some (.int y5), some (.int y6), some (.int x14)]) C dX11_two_69 (by decide) rfl rfl ?_
        refine m_iload C dX11_two_71 rfl ?_
        refine m_iload C dX11_two_73 rfl ?_
        refine m_icmp_ge (tgt := 86) C dX11_two_75 (by decide) (fun c18 => ?_) (fun c18 => ?_)
        · have f19 : y5.toInt ≤ x14.toInt := by
            have q : _ := c18
            simp only [ti_nle, ti_nlt, ti_le, ti_lt, ti_eq, ti_ne, Classical.not_not] at q
            omega
          obtain ⟨x20, ex20⟩ : ∃ y : Int32, y = y6 + 1 := ⟨_, rfl⟩
          have tx20 : x20.toInt = y6.toInt + 1 := by rw [ex20, ti_addv b10 kc_1 (by decide), kt_1]
          have b21 : IV x20 2 10 := by rw [ex20]; exact iv_add b10 kc_1 (by decide)
          refine m_iinc (v := x20) (L1 := [some (.ref (G.1 0 0)), some (.int a1), some (.int a2), some (.int a3), some (.int y4), some (.int y5), some (.int x20), some (.int x14)]) C dX11_two_86 rfl (by rw [ex20]; rfl) (by decide) rfl rfl ?_
          refine m_goto (tgt := 54) C dX11_two_89 (by decide) ?_
          refine m_sub (L1 := [some (.ref (G.1 0 0)), some (.int a1), some (.int a2), some (.int a3), some (.int y4), some (.int y5), some (.int x20), none]) ⟨rfl, ⟨rfl, ⟨rfl, ⟨rfl, ⟨rfl, ⟨rfl, ⟨rfl, trivial⟩⟩⟩⟩⟩⟩⟩ ?_
          exact ih54 τ11 y4 y5 x20 i12 g16 b_a1 b_a2 b_a3 b_y4 b_y5 (iv_wk b21 (by decide)) (by have q := hm54; omega)
        · have f22 : x14.toInt < y5.toInt := by
            have q : _ := c18
            simp only [ti_nle, ti_nlt, ti_le, ti_lt, ti_eq, ti_ne, Classical.not_not] at q
            omega
          have b23 : IV x14 (-2147483648) 2147483646 := ⟨by have q1 := b15; have q2 := b_y5; omega, by have q1 := b15; have q2 := b_y5; omega⟩
          have b24 : IV y5 (-2147483647) 2147483647 := ⟨by have q1 := b15; have q2 := b_y5; omega, by have q1 := b15; have q2 := b_y5; omega⟩
          refine m_iload C dX11_two_78 rfl ?_
          refine m_istore (L1 := [some (.ref (G.1 0 0)), some (.int a1), some (.int a2), some (.int a3), some (.int y4), some (.int x14), some (.int y6), some (.int x14)]) C dX11_two_80 (by decide) rfl rfl ?_
          refine m_iload C dX11_two_82 rfl ?_
          refine m_istore (L1 := [some (.ref (G.1 0 0)), some (.int a1), some (.int a2), some (.int a3), some (.int y6), some (.int x14), some (.int y6), some (.int x14)]) C dX11_two_84 (by decide) rfl rfl ?_
          obtain ⟨x25, ex25⟩ : ∃ y : Int32, y = y6 + 1 := ⟨_, rfl⟩
          have tx25 : x25.toInt = y6.toInt + 1 := by rw [ex25, ti_addv b10 kc_1 (by decide), kt_1]
          have b26 : IV x25 2 10 := by rw [ex25]; exact iv_add b10 kc_1 (by decide)
          refine m_iinc (v := x25) (L1 := [some (.ref (G.1 0 0)), some (.int a1), some (.int a2), some (.int a3), some (.int y6), some (.int x14), some (.int x25), some (.int x14)]) C dX11_two_86 rfl (by rw [ex25]; rfl) (by decide) rfl rfl ?_
          refine m_goto (tgt := 54) C dX11_two_89 (by decide) ?_
          refine m_sub (L1 := [some (.ref (G.1 0 0)), some (.int a1), some (.int a2), some (.int a3), some (.int y6), some (.int x14), some (.int x25), none]) ⟨rfl, ⟨rfl, ⟨rfl, ⟨rfl, ⟨rfl, ⟨rfl, ⟨rfl, trivial⟩⟩⟩⟩⟩⟩⟩ ?_
          exact ih54 τ11 y6 x14 x25 i12 g16 b_a1 b_a2 b_a3 (iv_wk b10 (by decide)) (iv_wk b23 (by decide)) (iv_wk b26 (by decide)) (by have q := hm54; omega)
  refine m_aload_n C dX11_two_0 rfl rfl ?_
  refine g_0_2 C q1_188 dX11_two_1 ?_
  refine m_iload_n C dX11_two_4 rfl rfl ?_
  refine m_callV (n := 1) (ci := 7) (st := []) C (c_X8_isOutside l G σ (j := 0) (by decide) (a1) hI ) (by decide) (by decide) rfl rfl rfl q3_161 q3_158 q3_159 q3_160 q1_3 (by decide +kernel) rfl (by decide) (by decide) rfl (Nat.le_of_ble_eq_true rfl) dX11_two_5 ?_
  rintro _ τ27 ⟨x30, rfl, i28, f29, b31, h33⟩
  have g32 : Fr MS_X11_two AS_X11_two σ τ27 := Fr.call (Fr.rf) f29 (by decide)
  show MW p l e _ s m args below meth c _ 8 G 0 0 8 [some (.ref (G.1 0 0)), some (.int a1), some (.int a2), some (.int a3), none, none, none, none] [.int x30] τ27
  refine m_if_eq (tgt := 36) C dX11_two_8 (by decide) (fun c34 => ?_) (fun c34 => ?_)
  · have f35 : x30.toInt = 0 := by
      have q : _ := c34
      simp only [ti_nle, ti_nlt, ti_le, ti_lt, ti_eq, ti_ne, Classical.not_not, kt_0] at q
      omega
    have b36 : IV x30 0 0 := ⟨by have q1 := b31; have q2 := kc_0; omega, by have q1 := b31; have q2 := kc_0; omega⟩
    refine m_ldc (v := (-1000001)) C dX11_two_36 q1_234 ?_
    exact m_iret C hr hlk (by decide) (by decide) dX11_two_38 ⟨_, rfl, i28, g32, (iv_wk kc_m1000001 (by decide))⟩
  · have f37 : x30.toInt ≠ 0 := by
      have q : _ := c34
      simp only [ti_nle, ti_nlt, ti_le, ti_lt, ti_eq, ti_ne, Classical.not_not, kt_0] at q
      omega
    have b38 : IV x30 1 1 := ⟨by have q1 := b31; have q2 := kc_0; omega, by have q1 := b31; have q2 := kc_0; omega⟩
    have b39 : IV a1 0 6 := ⟨by have q1 := (iv_any a1); omega, by have q1 := (iv_any a1); omega⟩
    refine m_aload_n C dX11_two_11 rfl rfl ?_
    refine g_0_2 C q1_188 dX11_two_12 ?_
    refine m_iload_n C dX11_two_15 rfl rfl ?_
    refine m_callV (n := 1) (ci := 7) (st := []) C (c_X8_isOutside l G τ27 (j := 0) (by decide) (a2) i28 ) (by decide) (by decide) rfl rfl rfl q3_161 q3_158 q3_159 q3_160 q1_3 (by decide +kernel) rfl (by decide) (by decide) rfl (Nat.le_of_ble_eq_true rfl) dX11_two_16 ?_
    rintro _ τ40 ⟨x43, rfl, i41, f42, b44, h46⟩
    have g45 : Fr MS_X11_two AS_X11_two σ τ40 := Fr.call (g32) f42 (by decide)
    show MW p l e _ s m args below meth c _ 8 G 0 0 19 [some (.ref (G.1 0 0)), some (.int a1), some (.int a2), some (.int a3), none, none, none, none] [.int x43] τ40
    refine m_if_eq (tgt := 36) C dX11_two_19 (by decide) (fun c47 => ?_) (fun c47 => ?_)
    · have f48 : x43.toInt = 0 := by
        have q : _ := c47
        simp only [ti_nle, ti_nlt, ti_le, ti_lt, ti_eq, ti_ne, Classical.not_not, kt_0] at q
        omega
      have b49 : IV x43 0 0 := ⟨by have q1 := b44; have q2 := kc_0; omega, by have q1 := b44; have q2 := kc_0; omega⟩
      refine m_ldc (v := (-1000001)) C dX11_two_36 q1_234 ?_
      exact m_iret C hr hlk (by decide) (by decide) dX11_two_38 ⟨_, rfl, i41, g45, (iv_wk kc_m1000001 (by decide))⟩
    · have f50 : x43.toInt ≠ 0 := by
        have q : _ := c47
        simp only [ti_nle, ti_nlt, ti_le, ti_lt, ti_eq, ti_ne, Classical.not_not, kt_0] at q
        omega
      have b51 : IV x43 1 1 := ⟨by have q1 := b44; have q2 := kc_0; omega, by have q1 := b44; have q2 := kc_0; omega⟩
      have b52 : IV a2 0 6 := ⟨by have q1 := (iv_any a2); omega, by have q1 := (iv_any a2); omega⟩
      refine m_iload_n C dX11_two_22 rfl rfl ?_
      refine m_iload_n C dX11_two_23 rfl rfl ?_
      refine m_icmp_eq (tgt := 36) C dX11_two_24 (by decide) (fun c53 => ?_) (fun c53 => ?_)
      · have f54 : a1.toInt = a2.toInt := by
          have q : _ := c53
          simp only [ti_nle, ti_nlt, ti_le, ti_lt, ti_eq, ti_ne, Classical.not_not] at q
          omega
        refine m_ldc (v := (-1000001)) C dX11_two_36 q1_234 ?_
        exact m_iret C hr hlk (by decide) (by decide) dX11_two_38 ⟨_, rfl, i41, g45, (iv_wk kc_m1000001 (by decide))⟩
      · have f55 : a1.toInt ≠ a2.toInt := by
          have q : _ := c53
          simp only [ti_nle, ti_nlt, ti_le, ti_lt, ti_eq, ti_ne, Classical.not_not] at q
          omega
        refine m_iload_n C dX11_two_27 rfl rfl ?_
        refine m_if_lt (tgt := 36) C dX11_two_28 (by decide) (fun c56 => ?_) (fun c56 => ?_)
        · have f57 : a3.toInt < 0 := by
            have q : _ := c56
            simp only [ti_nle, ti_nlt, ti_le, ti_lt, ti_eq, ti_ne, Classical.not_not, kt_0] at q
            omega
          have b58 : IV a3 (-2147483648) (-1) := ⟨by have q1 := (iv_any a3); have q2 := kc_0; omega, by have q1 := (iv_any a3); have q2 := kc_0; omega⟩
          refine m_ldc (v := (-1000001)) C dX11_two_36 q1_234 ?_
          exact m_iret C hr hlk (by decide) (by decide) dX11_two_38 ⟨_, rfl, i41, g45, (iv_wk kc_m1000001 (by decide))⟩
        · have f59 : 0 ≤ a3.toInt := by
            have q : _ := c56
            simp only [ti_nle, ti_nlt, ti_le, ti_lt, ti_eq, ti_ne, Classical.not_not, kt_0] at q
            omega
          have b60 : IV a3 0 2147483647 := ⟨by have q1 := kc_0; have q2 := (iv_any a3); omega, by have q1 := kc_0; have q2 := (iv_any a3); omega⟩
          refine m_iload_n C dX11_two_31 rfl rfl ?_
          refine m_iconst (v := 1) C dX11_two_32 (by decide) ?_
          refine m_icmp_le (tgt := 39) C dX11_two_33 (by decide) (fun c61 => ?_) (fun c61 => ?_)
          · have f62 : a3.toInt ≤ 1 := by
              have q : _ := c61
              simp only [ti_nle, ti_nlt, ti_le, ti_lt, ti_eq, ti_ne, Classical.not_not, kt_1] at q
              omega
            have b63 : IV a3 0 1 := ⟨by have q1 := b60; have q2 := kc_1; omega, by have q1 := b60; have q2 := kc_1; omega⟩
            refine m_iconst (v := 0) C dX11_two_39 (by decide) ?_
            refine m_istore (L1 := [some (.ref (G.1 0 0)), some (.int a1), some (.int a2), some (.int a3), some (.int 0), none, none, none]) C dX11_two_40 (by decide) rfl rfl ?_
            refine m_aload_n C dX11_two_42 rfl rfl ?_
            refine m_iload_n C dX11_two_43 rfl rfl ?_
            refine m_iload_n C dX11_two_44 rfl rfl ?_
            refine m_iconst (v := 0) C dX11_two_45 (by decide) ?_
            refine m_callV (n := 3) (ci := 10) (st := []) C (c_X11_worstOfTwo l G τ40 (a1) (a2) (0) i41 b39 b52 (iv_wk kc_0 (by decide))) (by decide) (by decide) rfl rfl rfl q3_165 q3_162 q3_164 q0_17 q1_1 (by decide +kernel) rfl (by decide) (by decide) rfl (Nat.le_of_ble_eq_true rfl) dX11_two_46 ?_
            rintro _ τ64 ⟨x67, rfl, i65, f66, b68⟩
            have g69 : Fr MS_X11_two AS_X11_two σ τ64 := Fr.call (g45) f66 (by decide)
            show MW p l e _ s m args below meth c _ 8 G 0 0 49 [some (.ref (G.1 0 0)), some (.int a1), some (.int a2), some (.int a3), some (.int 0), none, none, none] [.int x67] τ64
            refine m_istore (L1 := [some (.ref (G.1 0 0)), some (.int a1), some (.int a2), some (.int a3), some (.int 0), some (.int x67), none, none]) C dX11_two_49 (by decide) rfl rfl ?_
            refine m_iconst (v := 1) C dX11_two_51 (by decide) ?_
            refine m_istore (L1 := [some (.ref (G.1 0 0)), some (.int a1), some (.int a2), some (.int a3), some (.int 0), some (.int x67), some (.int 1), none]) C dX11_two_52 (by decide) rfl rfl ?_
            exact J54 ((10 - (1 : Int32).toInt).toNat + 1) τ64 0 x67 1 i65 g69 b39 b52 b63 (iv_wk kc_0 (by decide)) b68 (iv_wk kc_1 (by decide)) (Nat.lt_succ_self _)
          · have f71 : 1 < a3.toInt := by
              have q : _ := c61
              simp only [ti_nle, ti_nlt, ti_le, ti_lt, ti_eq, ti_ne, Classical.not_not, kt_1] at q
              omega
            have b72 : IV a3 2 2147483647 := ⟨by have q1 := kc_1; have q2 := b60; omega, by have q1 := kc_1; have q2 := b60; omega⟩
            refine m_ldc (v := (-1000001)) C dX11_two_36 q1_234 ?_
            exact m_iret C hr hlk (by decide) (by decide) dX11_two_38 ⟨_, rfl, i41, g45, (iv_wk kc_m1000001 (by decide))⟩

abbrev MS_X11_measureReach : List (Nat × Nat) := [(1, 0), (1, 1), (1, 2), (1, 3), (1, 9), (1, 10), (1, 11)]
abbrev AS_X11_measureReach : List Nat := [2, 3, 4, 5, 6, 11]
set_option maxHeartbeats 4000000 in
set_option maxRecDepth 100000 in
theorem c_X11_measureReach (l : Launch) (G : Gt) (σ : Sg) (hI : Inv σ) : Mc l G yX11_measureReach cX11_measureReach 4 none 3 86 0 0 [.ref (G.1 0 0)] σ (PV fun τ => Inv τ ∧ Fr MS_X11_measureReach AS_X11_measureReach σ τ) := by
  refine Mc.of (L0 := [some (.ref (G.1 0 0)), none, none, none]) (by decide) (Nat.le_of_ble_eq_true rfl) rfl ?_
  intro p e s m args below meth c C hr hlk
  have C : Cx p s m args c cX11_measureReach 4 "LeanTower" := C
  have k0 : (0 : Int32).toInt = 0 := by decide
  have k1 : (1 : Int32).toInt = 1 := by decide
  have J21 : ∀ (n : Nat) (τ : Sg) (y1 : Int32), Inv τ → Fr MS_X11_measureReach AS_X11_measureReach σ τ → IV y1 0 65 → (65 - y1.toInt).toNat < n → MW p l e { frames := 3, cells := 0, slots := 0, locals := 86 } s m args below meth c (MQ below (QP G (PV fun τ => Inv τ ∧ Fr MS_X11_measureReach AS_X11_measureReach σ τ)) args s 0 0 (aG G)) 4 G 0 0 21 [some (.ref (G.1 0 0)), some (.int y1), none, none] [] τ := by
    intro n
    induction n with
    | zero => intro τ y1 iτ fτ b_y1 hm; exact absurd hm (Nat.not_lt_zero _)
    | succ n ih21 =>
      intro τ y1 iτ fτ b_y1 hm21
      have J29 : ∀ (n : Nat) (τ : Sg) (y2 : Int32), Inv τ → Fr MS_X11_measureReach AS_X11_measureReach σ τ → IV y1 0 64 → IV y2 0 4 → (4 - y2.toInt).toNat < n → MW p l e { frames := 3, cells := 0, slots := 0, locals := 86 } s m args below meth c (MQ below (QP G (PV fun τ => Inv τ ∧ Fr MS_X11_measureReach AS_X11_measureReach σ τ)) args s 0 0 (aG G)) 4 G 0 0 29 [some (.ref (G.1 0 0)), some (.int y1), some (.int y2), none] [] τ := by
        intro n
        induction n with
        | zero => intro τ y2 iτ fτ b_y1 b_y2 hm; exact absurd hm (Nat.not_lt_zero _)
        | succ n ih29 =>
          intro τ y2 iτ fτ b_y1 b_y2 hm29
          refine m_iload_n C dX11_measureReach_29 rfl rfl ?_
          refine m_iconst (v := 4) C dX11_measureReach_30 (by decide) ?_
          refine m_icmp_ge (tgt := 75) C dX11_measureReach_31 (by decide) (fun c1 => ?_) (fun c1 => ?_)
          · have f2 : 4 ≤ y2.toInt := by
              have q : _ := c1
              simp only [ti_nle, ti_nlt, ti_le, ti_lt, ti_eq, ti_ne, Classical.not_not, kt_4] at q
              omega
            have b3 : IV y2 4 4 := ⟨by have q1 := kc_4; have q2 := b_y2; omega, by have q1 := kc_4; have q2 := b_y2; omega⟩
            refine m_aload_n C dX11_measureReach_75 rfl rfl ?_
            refine g_0_3 C q1_189 dX11_measureReach_76 ?_
            refine m_callV (n := 0) (ci := 7) (st := []) C (c_X8_passHalf l G τ (j := 1) (by decide)  iτ ) (by decide) (by decide) rfl rfl rfl q3_47 q3_44 q3_45 q3_46 q1_3 (by decide +kernel) rfl (by decide) (by decide) rfl (Nat.le_of_ble_eq_true rfl) dX11_measureReach_79 ?_
            rintro _ τ4 ⟨rfl, i5, f6⟩
            have g9 : Fr MS_X11_measureReach AS_X11_measureReach σ τ4 := Fr.call (fτ) f6 (by decide)
            show MW p l e _ s m args below meth c _ 4 G 0 0 82 [some (.ref (G.1 0 0)), some (.int y1), some (.int y2), none] [] τ4
            obtain ⟨x11, ex11⟩ : ∃ y : Int32, y = y1 + 1 := ⟨_, rfl⟩
            have tx11 : x11.toInt = y1.toInt + 1 := by rw [ex11, ti_addv b_y1 kc_1 (by decide), kt_1]
            have b12 : IV x11 1 65 := by rw [ex11]; exact iv_add b_y1 kc_1 (by decide)
            refine m_iinc (v := x11) (L1 := [some (.ref (G.1 0 0)), some (.int x11), some (.int y2), none]) C dX11_measureReach_82 rfl (by rw [ex11]; rfl) (by decide) rfl rfl ?_
            refine m_goto (tgt := 21) C dX11_measureReach_85 (by decide) ?_
            refine m_sub (L1 := [some (.ref (G.1 0 0)), some (.int x11), none, none]) ⟨rfl, ⟨rfl, trivial⟩⟩ ?_
            exact ih21 τ4 x11 i5 g9 (iv_wk b12 (by decide)) (by have q := hm21; omega)
          · have f13 : y2.toInt < 4 := by
              have q : _ := c1
              simp only [ti_nle, ti_nlt, ti_le, ti_lt, ti_eq, ti_ne, Classical.not_not, kt_4] at q
              omega
            have b14 : IV y2 0 3 := ⟨by have q1 := b_y2; have q2 := kc_4; omega, by have q1 := b_y2; have q2 := kc_4; omega⟩
            refine m_aload_n C dX11_measureReach_34 rfl rfl ?_
            refine g_0_3 C q1_189 dX11_measureReach_35 ?_
            refine m_bipush (v := 127) C dX11_measureReach_38 (by decide) ?_
            refine m_iload_n C dX11_measureReach_40 rfl rfl ?_
            refine m_callV (n := 2) (ci := 7) (st := []) C (c_X8_leanWith l G τ (j := 1) (by decide) (127) (y2) iτ ) (by decide) (by decide) rfl rfl rfl q3_82 q3_121 q3_80 q3_81 q1_3 (by decide +kernel) rfl (by decide) (by decide) rfl (Nat.le_of_ble_eq_true rfl) dX11_measureReach_41 ?_
            rintro _ τ15 ⟨x18, rfl, i16, f17, b19⟩
            have g20 : Fr MS_X11_measureReach AS_X11_measureReach σ τ15 := Fr.call (fτ) f17 (by decide)
            show MW p l e _ s m args below meth c _ 4 G 0 0 44 [some (.ref (G.1 0 0)), some (.int y1), some (.int y2), none] [.int x18] τ15
            refine m_istore_n (L1 := [some (.ref (G.1 0 0)), some (.int y1), some (.int y2), some (.int x18)]) C dX11_measureReach_44 rfl (by decide) rfl rfl ?_
            refine m_aload_n C dX11_measureReach_45 rfl rfl ?_
            refine g_0_11 C q1_197 dX11_measureReach_46 ?_
            refine m_iload_n C dX11_measureReach_49 rfl rfl ?_
            refine m_iload_n C dX11_measureReach_50 rfl rfl ?_
            refine m_if_ne (tgt := 58) C dX11_measureReach_51 (by decide) (fun c22 => ?_) (fun c22 => ?_)
            · have f23 : y1.toInt ≠ 0 := by
                have q : _ := c22
                simp only [ti_nle, ti_nlt, ti_le, ti_lt, ti_eq, ti_ne, Classical.not_not, kt_0] at q
                omega
              have b24 : IV y1 1 64 := ⟨by have q1 := b_y1; have q2 := kc_0; omega, by have q1 := b_y1; have q2 := kc_0; omega⟩
              refine m_aload_n C dX11_measureReach_58 rfl rfl ?_
              refine g_0_11 C q1_197 dX11_measureReach_59 ?_
              refine m_iload_n C dX11_measureReach_62 rfl rfl ?_
              refine al_11 C b14 (by decide) rfl dX11_measureReach_63 ?_
              refine m_topi (fun x25 ex25 => ?_)
              refine m_iload_n C dX11_measureReach_64 rfl rfl ?_
              refine m_max (st := [.int y2, .ref (G.1 11 0)]) C q3_166 q3_92 q1_19 q3_93 ⟨by decide, Nat.le_of_ble_eq_true rfl⟩ (by decide) dX11_measureReach_65 (fun x26 ex26 => ?_)
              have tx26 : x26.toInt = max (x25.toInt) (x18.toInt) := by rw [ti_max ex26]
              refine as_11 C b14 (by decide) rfl dX11_measureReach_68 ?_
              refine m_tops (fun τ27 eτ27 => ?_)
              have i28 : Inv τ27 := eτ27 ▸ Inv.putF i16 (by decide) rfl
              have f29 : Fr MS_X11_measureReach AS_X11_measureReach σ τ27 := eτ27 ▸ Fr.put (g20) (Or.inr (by decide))
              obtain ⟨x30, ex30⟩ : ∃ y : Int32, y = y2 + 1 := ⟨_, rfl⟩
              have tx30 : x30.toInt = y2.toInt + 1 := by rw [ex30, ti_addv b14 kc_1 (by decide), kt_1]
              have b31 : IV x30 1 4 := by rw [ex30]; exact iv_add b14 kc_1 (by decide)
              refine m_iinc (v := x30) (L1 := [some (.ref (G.1 0 0)), some (.int y1), some (.int x30), some (.int x18)]) C dX11_measureReach_69 rfl (by rw [ex30]; rfl) (by decide) rfl rfl ?_
              refine m_goto (tgt := 29) C dX11_measureReach_72 (by decide) ?_
              refine m_sub (L1 := [some (.ref (G.1 0 0)), some (.int y1), some (.int x30), none]) ⟨rfl, ⟨rfl, ⟨rfl, trivial⟩⟩⟩ ?_
              exact ih29 τ27 x30 i28 f29 (iv_wk b24 (by decide)) (iv_wk b31 (by decide)) (by have q := hm29; omega)
            · have f32 : y1.toInt = 0 := by
                have q : _ := c22
                simp only [ti_nle, ti_nlt, ti_le, ti_lt, ti_eq, ti_ne, Classical.not_not, kt_0] at q
                omega
              have b33 : IV y1 0 0 := ⟨by have q1 := b_y1; have q2 := kc_0; omega, by have q1 := b_y1; have q2 := kc_0; omega⟩
              refine m_iload_n C dX11_measureReach_54 rfl rfl ?_
              refine m_goto (tgt := 68) C dX11_measureReach_55 (by decide) ?_
              refine as_11 C b14 (by decide) rfl dX11_measureReach_68 ?_
              refine m_tops (fun τ34 eτ34 => ?_)
              have i35 : Inv τ34 := eτ34 ▸ Inv.putF i16 (by decide) rfl
              have f36 : Fr MS_X11_measureReach AS_X11_measureReach σ τ34 := eτ34 ▸ Fr.put (g20) (Or.inr (by decide))
              obtain ⟨x37, ex37⟩ : ∃ y : Int32, y = y2 + 1 := ⟨_, rfl⟩
              have tx37 : x37.toInt = y2.toInt + 1 := by rw [ex37, ti_addv b14 kc_1 (by decide), kt_1]
              have b38 : IV x37 1 4 := by rw [ex37]; exact iv_add b14 kc_1 (by decide)
              refine m_iinc (v := x37) (L1 := [some (.ref (G.1 0 0)), some (.int y1), some (.int x37), some (.int x18)]) C dX11_measureReach_69 rfl (by rw [ex37]; rfl) (by decide) rfl rfl ?_
              refine m_goto (tgt := 29) C dX11_measureReach_72 (by decide) ?_
              refine m_sub (L1 := [some (.ref (G.1 0 0)), some (.int y1), some (.int x37), none]) ⟨rfl, ⟨rfl, ⟨rfl, trivial⟩⟩⟩ ?_
              exact ih29 τ34 x37 i35 f36 (iv_wk b33 (by decide)) (iv_wk b38 (by decide)) (by have q := hm29; omega)
      refine m_iload_n C dX11_measureReach_21 rfl rfl ?_
      refine m_bipush (v := 64) C dX11_measureReach_22 (by decide) ?_
      refine m_icmp_gt (tgt := 88) C dX11_measureReach_24 (by decide) (fun c39 => ?_) (fun c39 => ?_)
      · have f40 : 64 < y1.toInt := by
          have q : _ := c39
          simp only [ti_nle, ti_nlt, ti_le, ti_lt, ti_eq, ti_ne, Classical.not_not, kt_64] at q
          omega
        have b41 : IV y1 65 65 := ⟨by have q1 := kc_64; have q2 := b_y1; omega, by have q1 := kc_64; have q2 := b_y1; omega⟩
        exact m_vret C hr hlk (by decide) (by decide) dX11_measureReach_88 ⟨rfl, iτ, fτ⟩
      · have f42 : y1.toInt ≤ 64 := by
          have q : _ := c39
          simp only [ti_nle, ti_nlt, ti_le, ti_lt, ti_eq, ti_ne, Classical.not_not, kt_64] at q
          omega
        have b43 : IV y1 0 64 := ⟨by have q1 := b_y1; have q2 := kc_64; omega, by have q1 := b_y1; have q2 := kc_64; omega⟩
        refine m_iconst (v := 0) C dX11_measureReach_27 (by decide) ?_
        refine m_istore_n (L1 := [some (.ref (G.1 0 0)), some (.int y1), some (.int 0), none]) C dX11_measureReach_28 rfl (by decide) rfl rfl ?_
        exact J29 ((4 - (0 : Int32).toInt).toNat + 1) τ 0 iτ fτ b43 (iv_wk kc_0 (by decide)) (Nat.lt_succ_self _)
  refine m_aload_n C dX11_measureReach_0 rfl rfl ?_
  refine g_0_3 C q1_189 dX11_measureReach_1 ?_
  refine m_aload_n C dX11_measureReach_4 rfl rfl ?_
  refine g_0_2 C q1_188 dX11_measureReach_5 ?_
  refine m_callV (n := 1) (ci := 7) (st := []) C (c_X8_takeFrom l G σ (j := 1) (by decide) (j2 := 0) (by decide) hI ) (by decide) (by decide) rfl rfl rfl q3_9 q3_6 q3_7 q3_8 q1_3 (by decide +kernel) rfl (by decide) (by decide) rfl (Nat.le_of_ble_eq_true rfl) dX11_measureReach_8 ?_
  rintro _ τ44 ⟨rfl, i45, f46⟩
  have g49 : Fr MS_X11_measureReach AS_X11_measureReach σ τ44 := Fr.call (Fr.rf) f46 (by decide)
  show MW p l e _ s m args below meth c _ 4 G 0 0 11 [some (.ref (G.1 0 0)), none, none, none] [] τ44
  refine m_aload_n C dX11_measureReach_11 rfl rfl ?_
  refine g_0_3 C q1_189 dX11_measureReach_12 ?_
  refine m_iconst (v := 0) C dX11_measureReach_15 (by decide) ?_
  refine p_1_3 C (by decide) q1_85 dX11_measureReach_16 ?_
  refine m_tops (fun τ51 eτ51 => ?_)
  have i52 : Inv τ51 := eτ51 ▸ Inv.put i45 (by decide) (iv_wk kc_0 (by decide))
  have f53 : Fr MS_X11_measureReach AS_X11_measureReach σ τ51 := eτ51 ▸ Fr.put (g49) (Or.inl (by decide))
  refine m_iconst (v := 0) C dX11_measureReach_19 (by decide) ?_
  refine m_istore_n (L1 := [some (.ref (G.1 0 0)), some (.int 0), none, none]) C dX11_measureReach_20 rfl (by decide) rfl rfl ?_
  exact J21 ((65 - (0 : Int32).toInt).toNat + 1) τ51 0 i52 f53 (iv_wk kc_0 (by decide)) (Nat.lt_succ_self _)

abbrev MS_X11_sideIn : List (Nat × Nat) := []
abbrev AS_X11_sideIn : List Nat := []
set_option maxHeartbeats 4000000 in
set_option maxRecDepth 100000 in
theorem c_X11_sideIn (l : Launch) (G : Gt) (σ : Sg) (a1 : Int32) (a2 : Int32) (hI : Inv σ) : Mc l G yX11_sideIn cX11_sideIn 3 (some .int) 0 0 0 0 [.ref (G.1 0 0), .int a1, .int a2] σ (PI fun r τ => Inv τ ∧ Fr MS_X11_sideIn AS_X11_sideIn σ τ ∧ IV r 0 3) := by
  refine Mc.of (L0 := [some (.ref (G.1 0 0)), some (.int a1), some (.int a2)]) (by decide) (Nat.le_of_ble_eq_true rfl) rfl ?_
  intro p e s m args below meth c C hr hlk
  have C : Cx p s m args c cX11_sideIn 3 "LeanTower" := C
  have k0 : (0 : Int32).toInt = 0 := by decide
  have k1 : (1 : Int32).toInt = 1 := by decide
  refine m_iload_n C dX11_sideIn_0 rfl rfl ?_
  refine m_iconst (v := 2) C dX11_sideIn_1 (by decide) ?_
  refine m_aload_n C dX11_sideIn_2 rfl rfl ?_
  refine g_0_2 C q1_188 dX11_sideIn_3 ?_
  refine g_1_3 C (by decide) q1_85 dX11_sideIn_6 ?_
  refine m_topi (fun x1 ex1 => ?_)
  have b2 : IV x1 0 4 := by rw [ex1]; exact hI.1 1 0 3
  refine m_iconst (v := 1) C dX11_sideIn_9 (by decide) ?_
  refine m_isub C dX11_sideIn_10 ?_
  refine m_topi (fun x3 ex3 => ?_)
  have tx3 : x3.toInt = x1.toInt - 1 := by rw [ex3, ti_subv b2 kc_1 (by decide), kt_1]
  have b4 : IV x3 (-1) 3 := by rw [ex3]; exact iv_sub b2 kc_1 (by decide)
  refine m_iload_n C dX11_sideIn_11 rfl rfl ?_
  refine m_isub C dX11_sideIn_12 ?_
  refine m_topi (fun x5 ex5 => ?_)
  refine m_imul C dX11_sideIn_13 ?_
  refine m_topi (fun x6 ex6 => ?_)
  refine m_ishr C dX11_sideIn_14 ?_
  refine m_topi (fun x7 ex7 => ?_)
  refine m_iconst (v := 3) C dX11_sideIn_15 (by decide) ?_
  refine m_iand C dX11_sideIn_16 ?_
  refine m_topi (fun x8 ex8 => ?_)
  have b9 : IV x8 0 3 := by rw [ex8]; exact iv_and_r kc_3 (by decide)
  exact m_iret C hr hlk (by decide) (by decide) dX11_sideIn_17 ⟨_, rfl, hI, Fr.rf, b9⟩

abbrev MS_X11_worstOfHanging : List (Nat × Nat) := []
abbrev AS_X11_worstOfHanging : List Nat := []
set_option maxHeartbeats 4000000 in
set_option maxRecDepth 100000 in
theorem c_X11_worstOfHanging (l : Launch) (G : Gt) (σ : Sg) (a1 : Int32) (hI : Inv σ) : Mc l G yX11_worstOfHanging cX11_worstOfHanging 6 (some .int) 1 40 0 0 [.ref (G.1 0 0), .int a1] σ (PI fun r τ => Inv τ ∧ Fr MS_X11_worstOfHanging AS_X11_worstOfHanging σ τ ∧ IV r 0 2147483647) := by
  refine Mc.of (L0 := [some (.ref (G.1 0 0)), some (.int a1), none, none, none, none]) (by decide) (Nat.le_of_ble_eq_true rfl) rfl ?_
  intro p e s m args below meth c C hr hlk
  have C : Cx p s m args c cX11_worstOfHanging 6 "LeanTower" := C
  have k0 : (0 : Int32).toInt = 0 := by decide
  have k1 : (1 : Int32).toInt = 1 := by decide
  have J4 : ∀ (n : Nat) (τ : Sg) (y2 : Int32) (y3 : Int32), Inv τ → Fr MS_X11_worstOfHanging AS_X11_worstOfHanging σ τ → IV a1 (-2147483648) 2147483647 → IV y2 0 2147483647 → IV y3 0 4 → (4 - y3.toInt).toNat < n → MW p l e { frames := 1, cells := 0, slots := 0, locals := 40 } s m args below meth c (MQ below (QP G (PI fun r τ => Inv τ ∧ Fr MS_X11_worstOfHanging AS_X11_worstOfHanging σ τ ∧ IV r 0 2147483647)) args s 0 0 (aG G)) 6 G 0 0 4 [some (.ref (G.1 0 0)), some (.int a1), some (.int y2), some (.int y3), none, none] [] τ := by
    intro n
    induction n with
    | zero => intro τ y2 y3 iτ fτ b_a1 b_y2 b_y3 hm; exact absurd hm (Nat.not_lt_zero _)
    | succ n ih4 =>
      intro τ y2 y3 iτ fτ b_a1 b_y2 b_y3 hm4
      have J20 : ∀ (n : Nat) (τ : Sg) (y4 : Int32) (y5 : Int32), Inv τ → Fr MS_X11_worstOfHanging AS_X11_worstOfHanging σ τ → IV a1 (-2147483648) 2147483647 → IV y2 0 2147483647 → IV y3 0 3 → IV y4 (-2147483648) 2147483647 → IV y5 0 4 → (4 - y5.toInt).toNat < n → MW p l e { frames := 1, cells := 0, slots := 0, locals := 40 } s m args below meth c (MQ below (QP G (PI fun r τ => Inv τ ∧ Fr MS_X11_worstOfHanging AS_X11_worstOfHanging σ τ ∧ IV r 0 2147483647)) args s 0 0 (aG G)) 6 G 0 0 20 [some (.ref (G.1 0 0)), some (.int a1), some (.int y2), some (.int y3), some (.int y4), some (.int y5)] [] τ := by
        intro n
        induction n with
        | zero => intro τ y4 y5 iτ fτ b_a1 b_y2 b_y3 b_y4 b_y5 hm; exact absurd hm (Nat.not_lt_zero _)
        | succ n ih20 =>
          intro τ y4 y5 iτ fτ b_a1 b_y2 b_y3 b_y4 b_y5 hm20
          refine m_iload C dX11_worstOfHanging_20 rfl ?_
          refine m_aload_n C dX11_worstOfHanging_22 rfl rfl ?_
          refine g_0_2 C q1_188 dX11_worstOfHanging_23 ?_
          refine g_1_3 C (by decide) q1_85 dX11_worstOfHanging_26 ?_
          refine m_topi (fun x1 ex1 => ?_)
          have b2 : IV x1 0 4 := by rw [ex1]; exact iτ.1 1 0 3
          refine m_icmp_ge (tgt := 64) C dX11_worstOfHanging_29 (by decide) (fun c3 => ?_) (fun c3 => ?_)
          · have f4 : x1.toInt ≤ y5.toInt := by
              have q : _ := c3
              simp only [ti_nle, ti_nlt, ti_le, ti_lt, ti_eq, ti_ne, Classical.not_not] at q
              omega
            refine m_iload_n C dX11_worstOfHanging_64 rfl rfl ?_
            refine m_iload C dX11_worstOfHanging_65 rfl ?_
            refine m_max (st := []) C q3_166 q3_92 q1_19 q3_93 ⟨by decide, Nat.le_of_ble_eq_true rfl⟩ (by decide) dX11_worstOfHanging_67 (fun x5 ex5 => ?_)
            have tx5 : x5.toInt = max (y2.toInt) (y4.toInt) := by rw [ti_max ex5]
            have b6 : IV x5 0 2147483647 := ⟨by have q1 := b_y2; have q2 := b_y4; omega, by have q1 := b_y2; have q2 := b_y4; omega⟩
            refine m_istore_n (L1 := [some (.ref (G.1 0 0)), some (.int a1), some (.int x5), some (.int y3), some (.int y4), some (.int y5)]) C dX11_worstOfHanging_70 rfl (by decide) rfl rfl ?_
            obtain ⟨x7, ex7⟩ : ∃ y : Int32, y = y3 + 1 := ⟨_, rfl⟩
            have tx7 : x7.toInt = y3.toInt + 1 := by rw [ex7, ti_addv b_y3 kc_1 (by decide), kt_1]
            have b8 : IV x7 1 4 := by rw [ex7]; exact iv_add b_y3 kc_1 (by decide)
            refine m_iinc (v := x7) (L1 := [some (.ref (G.1 0 0)), some (.int a1), some (.int x5), some (.int x7), some (.int y4), some (.int y5)]) C dX11_worstOfHanging_71 rfl (by rw [ex7]; rfl) (by decide) rfl rfl ?_
            refine m_goto (tgt := 4) C dX11_worstOfHanging_74 (by decide) ?_
            refine m_sub (L1 := [some (.ref (G.1 0 0)), some (.int a1), some (.int x5), some (.int x7), none, none]) ⟨rfl, ⟨rfl, ⟨rfl, ⟨rfl, trivial⟩⟩⟩⟩ ?_
            exact ih4 τ x5 x7 iτ fτ b_a1 b6 (iv_wk b8 (by decide)) (by have q := hm4; omega)
          · have f9 : y5.toInt < x1.toInt := by
              have q : _ := c3
              simp only [ti_nle, ti_nlt, ti_le, ti_lt, ti_eq, ti_ne, Classical.not_not] at q
              omega
            have b10 : IV y5 0 3 := ⟨by have q1 := b_y5; have q2 := b2; omega, by have q1 := b_y5; have q2 := b2; omega⟩
            have b11 : IV x1 1 4 := ⟨by have q1 := b_y5; have q2 := b2; omega, by have q1 := b_y5; have q2 := b2; omega⟩
            refine m_iload C dX11_worstOfHanging_32 rfl ?_
            refine m_aload_n C dX11_worstOfHanging_34 rfl rfl ?_
            refine g_0_2 C q1_188 dX11_worstOfHanging_35 ?_
            refine g_1_7 C (by decide) q1_92 dX11_worstOfHanging_38 ?_
            refine m_iload C dX11_worstOfHanging_41 rfl ?_
            refine al_4 C (by decide) b10 (by decide) rfl dX11_worstOfHanging_43 ?_
            refine m_topi (fun x12 ex12 => ?_)
            refine m_aload_n C dX11_worstOfHanging_44 rfl rfl ?_
            refine m_iload_n C dX11_worstOfHanging_45 rfl rfl ?_
            refine m_iload C dX11_worstOfHanging_46 rfl ?_
            refine m_callV (n := 2) (ci := 10) (st := [.int x12, .int y4]) C (c_X11_sideIn l G τ (a1) (y5) iτ ) (by decide) (by decide) rfl rfl rfl q3_182 q3_179 q3_181 q0_20 q1_1 (by decide +kernel) rfl (by decide) (by decide) rfl (Nat.le_of_ble_eq_true rfl) dX11_worstOfHanging_48 ?_
            rintro _ τ13 ⟨x16, rfl, i14, f15, b17⟩
            have g18 : Fr MS_X11_worstOfHanging AS_X11_worstOfHanging σ τ13 := Fr.call (fτ) f15 (by decide)
            show MW p l e _ s m args below meth c _ 6 G 0 0 51 [some (.ref (G.1 0 0)), some (.int a1), some (.int y2), some (.int y3), some (.int y4), some (.int y5)] [.int x16, .int x12, .int y4] τ13
            refine m_iload_n C dX11_worstOfHanging_51 rfl rfl ?_
            refine m_callS (n := 3) (st := [.int y4]) C (c_X8_pull l G τ13 (x12) (x16) (y3) i14 ) q3_85 q3_183 q3_84 q1_3 (by decide +kernel) rfl (by decide) (by decide) rfl (Nat.le_of_ble_eq_true rfl) dX11_worstOfHanging_52 ?_
            rintro _ τ20 ⟨x23, rfl, i21, f22, b24⟩
            have g25 : Fr MS_X11_worstOfHanging AS_X11_worstOfHanging σ τ20 := Fr.call (g18) f22 (by decide)
            show MW p l e _ s m args below meth c _ 6 G 0 0 55 [some (.ref (G.1 0 0)), some (.int a1), some (.int y2), some (.int y3), some (.int y4), some (.int y5)] [.int x23, .int y4] τ20
            refine m_iadd C dX11_worstOfHanging_55 ?_
            refine m_topi (fun x27 ex27 => ?_)
            refine m_istore (L1 := [some (.ref (G.1 0 0)), some (.int a1), some (.int y2), some (.int y3), some (.int x27), some (.int y5)]) C dX11_worstOfHanging_56 (by decide) rfl rfl ?_
            obtain ⟨x28, ex28⟩ : ∃ y : Int32, y = y5 + 1 := ⟨_, rfl⟩
            have tx28 : x28.toInt = y5.toInt + 1 := by rw [ex28, ti_addv b10 kc_1 (by decide), kt_1]
            have b29 : IV x28 1 4 := by rw [ex28]; exact iv_add b10 kc_1 (by decide)
            refine m_iinc (v := x28) (L1 := [some (.ref (G.1 0 0)), some (.int a1), some (.int y2), some (.int y3), some (.int x27), some (.int x28)]) C dX11_worstOfHanging_58 rfl (by rw [ex28]; rfl) (by decide) rfl rfl ?_
            refine m_goto (tgt := 20) C dX11_worstOfHanging_61 (by decide) ?_
            exact ih20 τ20 x27 x28 i21 g25 b_a1 b_y2 b_y3 (iv_any x27) (iv_wk b29 (by decide)) (by have q := hm20; omega)
      refine m_iload_n C dX11_worstOfHanging_4 rfl rfl ?_
      refine m_iconst (v := 4) C dX11_worstOfHanging_5 (by decide) ?_
      refine m_icmp_ge (tgt := 77) C dX11_worstOfHanging_6 (by decide) (fun c30 => ?_) (fun c30 => ?_)
      · have f31 : 4 ≤ y3.toInt := by
          have q : _ := c30
          simp only [ti_nle, ti_nlt, ti_le, ti_lt, ti_eq, ti_ne, Classical.not_not, kt_4] at q
          omega
        have b32 : IV y3 4 4 := ⟨by have q1 := kc_4; have q2 := b_y3; omega, by have q1 := kc_4; have q2 := b_y3; omega⟩
        refine m_iload_n C dX11_worstOfHanging_77 rfl rfl ?_
        exact m_iret C hr hlk (by decide) (by decide) dX11_worstOfHanging_78 ⟨_, rfl, iτ, fτ, b_y2⟩
      · have f33 : y3.toInt < 4 := by
          have q : _ := c30
          simp only [ti_nle, ti_nlt, ti_le, ti_lt, ti_eq, ti_ne, Classical.not_not, kt_4] at q
          omega
        have b34 : IV y3 0 3 := ⟨by have q1 := b_y3; have q2 := kc_4; omega, by have q1 := b_y3; have q2 := kc_4; omega⟩
        refine m_aload_n C dX11_worstOfHanging_9 rfl rfl ?_
        refine g_0_11 C q1_197 dX11_worstOfHanging_10 ?_
        refine m_iload_n C dX11_worstOfHanging_13 rfl rfl ?_
        refine al_11 C b34 (by decide) rfl dX11_worstOfHanging_14 ?_
        refine m_topi (fun x35 ex35 => ?_)
        refine m_istore (L1 := [some (.ref (G.1 0 0)), some (.int a1), some (.int y2), some (.int y3), some (.int x35), none]) C dX11_worstOfHanging_15 (by decide) rfl rfl ?_
        refine m_iconst (v := 0) C dX11_worstOfHanging_17 (by decide) ?_
        refine m_istore (L1 := [some (.ref (G.1 0 0)), some (.int a1), some (.int y2), some (.int y3), some (.int x35), some (.int 0)]) C dX11_worstOfHanging_18 (by decide) rfl rfl ?_
        exact J20 ((4 - (0 : Int32).toInt).toNat + 1) τ x35 0 iτ fτ b_a1 b_y2 b34 (iv_any x35) (iv_wk kc_0 (by decide)) (Nat.lt_succ_self _)
  refine m_iconst (v := 0) C dX11_worstOfHanging_0 (by decide) ?_
  refine m_istore_n (L1 := [some (.ref (G.1 0 0)), some (.int a1), some (.int 0), none, none, none]) C dX11_worstOfHanging_1 rfl (by decide) rfl rfl ?_
  refine m_iconst (v := 0) C dX11_worstOfHanging_2 (by decide) ?_
  refine m_istore_n (L1 := [some (.ref (G.1 0 0)), some (.int a1), some (.int 0), some (.int 0), none, none]) C dX11_worstOfHanging_3 rfl (by decide) rfl rfl ?_
  exact J4 ((4 - (0 : Int32).toInt).toNat + 1) σ 0 0 hI Fr.rf (iv_any a1) (iv_wk kc_0 (by decide)) (iv_wk kc_0 (by decide)) (Nat.lt_succ_self _)

abbrev MS_X11_stones : List (Nat × Nat) := [(1, 0), (1, 1), (1, 2), (1, 3), (1, 9), (1, 10), (1, 11)]
abbrev AS_X11_stones : List Nat := [2, 3, 4, 5, 6, 11]
set_option maxHeartbeats 4000000 in
set_option maxRecDepth 100000 in
theorem c_X11_stones (l : Launch) (G : Gt) (σ : Sg) (a1 : Int32) (hI : Inv σ) : Mc l G yX11_stones cX11_stones 7 (some .int) 4 109 0 0 [.ref (G.1 0 0), .int a1] σ (PI fun r τ => Inv τ ∧ Fr MS_X11_stones AS_X11_stones σ τ ∧ IV r (-1000002) 2147483647) := by
  refine Mc.of (L0 := [some (.ref (G.1 0 0)), some (.int a1), none, none, none, none, none]) (by decide) (Nat.le_of_ble_eq_true rfl) rfl ?_
  intro p e s m args below meth c C hr hlk
  have C : Cx p s m args c cX11_stones 7 "LeanTower" := C
  have k0 : (0 : Int32).toInt = 0 := by decide
  have k1 : (1 : Int32).toInt = 1 := by decide
  have J60 : ∀ (n : Nat) (τ : Sg) (y2 : Int32) (y3 : Int32) (y4 : Int32) (y5 : Int32), Inv τ → Fr MS_X11_stones AS_X11_stones σ τ → IV a1 (-1) 3 → IV y2 1 256 → IV y3 0 256 → IV y4 0 2147483647 → IV y5 1 256 → (256 - y5.toInt).toNat < n → MW p l e { frames := 4, cells := 0, slots := 0, locals := 109 } s m args below meth c (MQ below (QP G (PI fun r τ => Inv τ ∧ Fr MS_X11_stones AS_X11_stones σ τ ∧ IV r (-1000002) 2147483647)) args s 0 0 (aG G)) 7 G 0 0 60 [some (.ref (G.1 0 0)), some (.int a1), some (.int y2), some (.int y3), some (.int y4), some (.int y5), none] [] τ := by
    intro n
    induction n with
    | zero => intro τ y2 y3 y4 y5 iτ fτ b_a1 b_y2 b_y3 b_y4 b_y5 hm; exact absurd hm (Nat.not_lt_zero _)
    | succ n ih60 =>
      intro τ y2 y3 y4 y5 iτ fτ b_a1 b_y2 b_y3 b_y4 b_y5 hm60
      refine m_iload C dX11_stones_60 rfl ?_
      refine m_iload_n C dX11_stones_62 rfl rfl ?_
      refine m_icmp_ge (tgt := 94) C dX11_stones_63 (by decide) (fun c1 => ?_) (fun c1 => ?_)
      · have f2 : y2.toInt ≤ y5.toInt := by
          have q : _ := c1
          simp only [ti_nle, ti_nlt, ti_le, ti_lt, ti_eq, ti_ne, Classical.not_not] at q
          omega
        refine m_iload_n C dX11_stones_94 rfl rfl ?_
        refine m_iconst (v := (-1)) C dX11_stones_95 (by decide) ?_
        refine m_icmp_ne (tgt := 104) C dX11_stones_96 (by decide) (fun c3 => ?_) (fun c3 => ?_)
        · have f4 : a1.toInt ≠ -1 := by
            have q : _ := c3
            simp only [ti_nle, ti_nlt, ti_le, ti_lt, ti_eq, ti_ne, Classical.not_not, kt_m1] at q
            omega
          have b5 : IV a1 0 3 := ⟨by have q1 := b_a1; have q2 := kc_m1; omega, by have q1 := b_a1; have q2 := kc_m1; omega⟩
          refine m_aload_n C dX11_stones_104 rfl rfl ?_
          refine m_iload_n C dX11_stones_105 rfl rfl ?_
          refine m_iload_n C dX11_stones_106 rfl rfl ?_
          refine m_callV (n := 2) (ci := 10) (st := []) C (c_X11_sideIn l G τ (y3) (a1) iτ ) (by decide) (by decide) rfl rfl rfl q3_182 q3_179 q3_181 q0_20 q1_1 (by decide +kernel) rfl (by decide) (by decide) rfl (Nat.le_of_ble_eq_true rfl) dX11_stones_107 ?_
          rintro _ τ6 ⟨x9, rfl, i7, f8, b10⟩
          have g11 : Fr MS_X11_stones AS_X11_stones σ τ6 := Fr.call (fτ) f8 (by decide)
          show MW p l e _ s m args below meth c _ 7 G 0 0 110 [some (.ref (G.1 0 0)), some (.int a1), some (.int y2), some (.int y3), some (.int y4), some (.int y5), none] [.int x9] τ6
          exact m_iret C hr hlk (by decide) (by decide) dX11_stones_110 ⟨_, rfl, i7, g11, (iv_wk b10 (by decide))⟩
        · have f13 : a1.toInt = -1 := by
            have q : _ := c3
            simp only [ti_nle, ti_nlt, ti_le, ti_lt, ti_eq, ti_ne, Classical.not_not, kt_m1] at q
            omega
          have b14 : IV a1 (-1) (-1) := ⟨by have q1 := b_a1; have q2 := kc_m1; omega, by have q1 := b_a1; have q2 := kc_m1; omega⟩
          refine m_iload C dX11_stones_99 rfl ?_
          refine m_goto (tgt := 110) C dX11_stones_101 (by decide) ?_
          exact m_iret C hr hlk (by decide) (by decide) dX11_stones_110 ⟨_, rfl, iτ, fτ, (iv_wk b_y4 (by decide))⟩
      · have f15 : y5.toInt < y2.toInt := by
          have q : _ := c1
          simp only [ti_nle, ti_nlt, ti_le, ti_lt, ti_eq, ti_ne, Classical.not_not] at q
          omega
        have b16 : IV y5 1 255 := ⟨by have q1 := b_y5; have q2 := b_y2; omega, by have q1 := b_y5; have q2 := b_y2; omega⟩
        have b17 : IV y2 2 256 := ⟨by have q1 := b_y5; have q2 := b_y2; omega, by have q1 := b_y5; have q2 := b_y2; omega⟩
        refine m_aload_n C dX11_stones_66 rfl rfl ?_
        refine m_iload C dX11_stones_67 rfl ?_
        refine m_callV (n := 1) (ci := 10) (st := []) C (c_X11_worstOfHanging l G τ (y5) iτ ) (by decide) (by decide) rfl rfl rfl q3_178 q3_175 q3_177 q0_19 q1_1 (by decide +kernel) rfl (by decide) (by decide) rfl (Nat.le_of_ble_eq_true rfl) dX11_stones_69 ?_
        rintro _ τ18 ⟨x21, rfl, i19, f20, b22⟩
        have g23 : Fr MS_X11_stones AS_X11_stones σ τ18 := Fr.call (fτ) f20 (by decide)
        show MW p l e _ s m args below meth c _ 7 G 0 0 72 [some (.ref (G.1 0 0)), some (.int a1), some (.int y2), some (.int y3), some (.int y4), some (.int y5), none] [.int x21] τ18
        refine m_istore (L1 := [some (.ref (G.1 0 0)), some (.int a1), some (.int y2), some (.int y3), some (.int y4), some (.int y5), some (.int x21)]) C dX11_stones_72 (by decide) rfl rfl ?_
        refine m_iload C dX11_stones_74 rfl ?_
        refine m_iload C dX11_stones_76 rfl ?_
        refine m_icmp_ge (tgt := 88) C dX11_stones_78 (by decide) (fun c25 => ?_) (fun c25 => ?_)
        · have f26 : y4.toInt ≤ x21.toInt := by
            have q : _ := c25
            simp only [ti_nle, ti_nlt, ti_le, ti_lt, ti_eq, ti_ne, Classical.not_not] at q
            omega
          obtain ⟨x27, ex27⟩ : ∃ y : Int32, y = y5 + 1 := ⟨_, rfl⟩
          have tx27 : x27.toInt = y5.toInt + 1 := by rw [ex27, ti_addv b16 kc_1 (by decide), kt_1]
          have b28 : IV x27 2 256 := by rw [ex27]; exact iv_add b16 kc_1 (by decide)
          refine m_iinc (v := x27) (L1 := [some (.ref (G.1 0 0)), some (.int a1), some (.int y2), some (.int y3), some (.int y4), some (.int x27), some (.int x21)]) C dX11_stones_88 rfl (by rw [ex27]; rfl) (by decide) rfl rfl ?_
          refine m_goto (tgt := 60) C dX11_stones_91 (by decide) ?_
          refine m_sub (L1 := [some (.ref (G.1 0 0)), some (.int a1), some (.int y2), some (.int y3), some (.int y4), some (.int x27), none]) ⟨rfl, ⟨rfl, ⟨rfl, ⟨rfl, ⟨rfl, ⟨rfl, trivial⟩⟩⟩⟩⟩⟩ ?_
          exact ih60 τ18 y2 y3 y4 x27 i19 g23 b_a1 (iv_wk b17 (by decide)) b_y3 b_y4 (iv_wk b28 (by decide)) (by have q := hm60; omega)
        · have f29 : x21.toInt < y4.toInt := by
            have q : _ := c25
            simp only [ti_nle, ti_nlt, ti_le, ti_lt, ti_eq, ti_ne, Classical.not_not] at q
            omega
          have b30 : IV x21 0 2147483646 := ⟨by have q1 := b22; have q2 := b_y4; omega, by have q1 := b22; have q2 := b_y4; omega⟩
          have b31 : IV y4 1 2147483647 := ⟨by have q1 := b22; have q2 := b_y4; omega, by have q1 := b22; have q2 := b_y4; omega⟩
          refine m_iload C dX11_stones_81 rfl ?_
          refine m_istore (L1 := [some (.ref (G.1 0 0)), some (.int a1), some (.int y2), some (.int y3), some (.int x21), some (.int y5), some (.int x21)]) C dX11_stones_83 (by decide) rfl rfl ?_
          refine m_iload C dX11_stones_85 rfl ?_
          refine m_istore_n (L1 := [some (.ref (G.1 0 0)), some (.int a1), some (.int y2), some (.int y5), some (.int x21), some (.int y5), some (.int x21)]) C dX11_stones_87 rfl (by decide) rfl rfl ?_
          obtain ⟨x32, ex32⟩ : ∃ y : Int32, y = y5 + 1 := ⟨_, rfl⟩
          have tx32 : x32.toInt = y5.toInt + 1 := by rw [ex32, ti_addv b16 kc_1 (by decide), kt_1]
          have b33 : IV x32 2 256 := by rw [ex32]; exact iv_add b16 kc_1 (by decide)
          refine m_iinc (v := x32) (L1 := [some (.ref (G.1 0 0)), some (.int a1), some (.int y2), some (.int y5), some (.int x21), some (.int x32), some (.int x21)]) C dX11_stones_88 rfl (by rw [ex32]; rfl) (by decide) rfl rfl ?_
          refine m_goto (tgt := 60) C dX11_stones_91 (by decide) ?_
          refine m_sub (L1 := [some (.ref (G.1 0 0)), some (.int a1), some (.int y2), some (.int y5), some (.int x21), some (.int x32), none]) ⟨rfl, ⟨rfl, ⟨rfl, ⟨rfl, ⟨rfl, ⟨rfl, trivial⟩⟩⟩⟩⟩⟩ ?_
          exact ih60 τ18 y2 y5 x21 x32 i19 g23 b_a1 (iv_wk b17 (by decide)) (iv_wk b16 (by decide)) (iv_wk b30 (by decide)) (iv_wk b33 (by decide)) (by have q := hm60; omega)
  have J32 : ∀ (τ : Sg), Inv τ → Fr MS_X11_stones AS_X11_stones σ τ → IV a1 (-1) 3 → MW p l e { frames := 4, cells := 0, slots := 0, locals := 109 } s m args below meth c (MQ below (QP G (PI fun r τ => Inv τ ∧ Fr MS_X11_stones AS_X11_stones σ τ ∧ IV r (-1000002) 2147483647)) args s 0 0 (aG G)) 7 G 0 0 32 [some (.ref (G.1 0 0)), some (.int a1), none, none, none, none, none] [] τ := by
    intro τ iτ fτ b_a1
    refine m_aload_n C dX11_stones_32 rfl rfl ?_
    refine m_callV (n := 0) (ci := 10) (st := []) C (c_X11_measureReach l G τ  iτ ) (by decide) (by decide) rfl rfl rfl q3_174 q3_171 q3_173 q0_18 q1_1 (by decide +kernel) rfl (by decide) (by decide) rfl (Nat.le_of_ble_eq_true rfl) dX11_stones_33 ?_
    rintro _ τ34 ⟨rfl, i35, f36⟩
    have g39 : Fr MS_X11_stones AS_X11_stones σ τ34 := Fr.call (fτ) f36 (by decide)
    show MW p l e _ s m args below meth c _ 7 G 0 0 36 [some (.ref (G.1 0 0)), some (.int a1), none, none, none, none, none] [] τ34
    refine m_iconst (v := 1) C dX11_stones_36 (by decide) ?_
    refine m_iconst (v := 2) C dX11_stones_37 (by decide) ?_
    refine m_aload_n C dX11_stones_38 rfl rfl ?_
    refine g_0_2 C q1_188 dX11_stones_39 ?_
    refine g_1_3 C (by decide) q1_85 dX11_stones_42 ?_
    refine m_topi (fun x41 ex41 => ?_)
    have b42 : IV x41 0 4 := by rw [ex41]; exact i35.1 1 0 3
    refine m_imul C dX11_stones_45 ?_
    refine m_topi (fun x43 ex43 => ?_)
    have tx43 : x43.toInt = 2 * x41.toInt := by rw [ex43, ti_mulv kc_2 b42 (by decide), kt_2]
    have b44 : IV x43 0 8 := by rw [ex43]; exact iv_mul kc_2 b42 (by decide)
    refine m_ishl C dX11_stones_46 ?_
    refine m_topi (fun x45 ex45 => ?_)
    have b46 : IV x45 1 256 := by rw [ex45]; exact iv_shl1 b44 (by decide)
    refine m_istore_n (L1 := [some (.ref (G.1 0 0)), some (.int a1), some (.int x45), none, none, none, none]) C dX11_stones_47 rfl (by decide) rfl rfl ?_
    refine m_iconst (v := 0) C dX11_stones_48 (by decide) ?_
    refine m_istore_n (L1 := [some (.ref (G.1 0 0)), some (.int a1), some (.int x45), some (.int 0), none, none, none]) C dX11_stones_49 rfl (by decide) rfl rfl ?_
    refine m_aload_n C dX11_stones_50 rfl rfl ?_
    refine m_iconst (v := 0) C dX11_stones_51 (by decide) ?_
    refine m_callV (n := 1) (ci := 10) (st := []) C (c_X11_worstOfHanging l G τ34 (0) i35 ) (by decide) (by decide) rfl rfl rfl q3_178 q3_175 q3_177 q0_19 q1_1 (by decide +kernel) rfl (by decide) (by decide) rfl (Nat.le_of_ble_eq_true rfl) dX11_stones_52 ?_
    rintro _ τ47 ⟨x50, rfl, i48, f49, b51⟩
    have g52 : Fr MS_X11_stones AS_X11_stones σ τ47 := Fr.call (g39) f49 (by decide)
    show MW p l e _ s m args below meth c _ 7 G 0 0 55 [some (.ref (G.1 0 0)), some (.int a1), some (.int x45), some (.int 0), none, none, none] [.int x50] τ47
    refine m_istore (L1 := [some (.ref (G.1 0 0)), some (.int a1), some (.int x45), some (.int 0), some (.int x50), none, none]) C dX11_stones_55 (by decide) rfl rfl ?_
    refine m_iconst (v := 1) C dX11_stones_57 (by decide) ?_
    refine m_istore (L1 := [some (.ref (G.1 0 0)), some (.int a1), some (.int x45), some (.int 0), some (.int x50), some (.int 1), none]) C dX11_stones_58 (by decide) rfl rfl ?_
    exact J60 ((256 - (1 : Int32).toInt).toNat + 1) τ47 x45 0 x50 1 i48 g52 b_a1 b46 (iv_wk kc_0 (by decide)) b51 (iv_wk kc_1 (by decide)) (Nat.lt_succ_self _)
  refine m_aload_n C dX11_stones_0 rfl rfl ?_
  refine g_0_2 C q1_188 dX11_stones_1 ?_
  refine m_callV (n := 0) (ci := 7) (st := []) C (c_X8_stands l G σ (j := 0) (by decide)  hI ) (by decide) (by decide) rfl rfl rfl q3_41 q3_38 q3_39 q3_40 q1_3 (by decide +kernel) rfl (by decide) (by decide) rfl (Nat.le_of_ble_eq_true rfl) dX11_stones_4 ?_
  rintro _ τ54 ⟨x57, rfl, i55, f56, b58⟩
  have g59 : Fr MS_X11_stones AS_X11_stones σ τ54 := Fr.call (Fr.rf) f56 (by decide)
  show MW p l e _ s m args below meth c _ 7 G 0 0 7 [some (.ref (G.1 0 0)), some (.int a1), none, none, none, none, none] [.int x57] τ54
  refine m_if_ne (tgt := 13) C dX11_stones_7 (by decide) (fun c61 => ?_) (fun c61 => ?_)
  · have f62 : x57.toInt ≠ 0 := by
      have q : _ := c61
      simp only [ti_nle, ti_nlt, ti_le, ti_lt, ti_eq, ti_ne, Classical.not_not, kt_0] at q
      omega
    have b63 : IV x57 1 1 := ⟨by have q1 := b58; have q2 := kc_0; omega, by have q1 := b58; have q2 := kc_0; omega⟩
    refine m_iload_n C dX11_stones_13 rfl rfl ?_
    refine m_iconst (v := (-1)) C dX11_stones_14 (by decide) ?_
    refine m_icmp_eq (tgt := 32) C dX11_stones_15 (by decide) (fun c64 => ?_) (fun c64 => ?_)
    · have f65 : a1.toInt = -1 := by
        have q : _ := c64
        simp only [ti_nle, ti_nlt, ti_le, ti_lt, ti_eq, ti_ne, Classical.not_not, kt_m1] at q
        omega
      have b66 : IV a1 (-1) (-1) := ⟨by have q1 := (iv_any a1); have q2 := kc_m1; omega, by have q1 := (iv_any a1); have q2 := kc_m1; omega⟩
      exact J32 τ54 i55 g59 (iv_wk b66 (by decide))
    · have f67 : a1.toInt ≠ -1 := by
        have q : _ := c64
        simp only [ti_nle, ti_nlt, ti_le, ti_lt, ti_eq, ti_ne, Classical.not_not, kt_m1] at q
        omega
      refine m_aload_n C dX11_stones_18 rfl rfl ?_
      refine g_0_2 C q1_188 dX11_stones_19 ?_
      refine m_iload_n C dX11_stones_22 rfl rfl ?_
      refine m_callV (n := 1) (ci := 7) (st := []) C (c_X8_hasStone l G τ54 (j := 0) (by decide) (a1) i55 ) (by decide) (by decide) rfl rfl rfl q3_33 q3_30 q3_31 q3_32 q1_3 (by decide +kernel) rfl (by decide) (by decide) rfl (Nat.le_of_ble_eq_true rfl) dX11_stones_23 ?_
      rintro _ τ68 ⟨x71, rfl, i69, f70, b72, h74⟩
      have g73 : Fr MS_X11_stones AS_X11_stones σ τ68 := Fr.call (g59) f70 (by decide)
      show MW p l e _ s m args below meth c _ 7 G 0 0 26 [some (.ref (G.1 0 0)), some (.int a1), none, none, none, none, none] [.int x71] τ68
      refine m_if_ne (tgt := 32) C dX11_stones_26 (by decide) (fun c75 => ?_) (fun c75 => ?_)
      · have f76 : x71.toInt ≠ 0 := by
          have q : _ := c75
          simp only [ti_nle, ti_nlt, ti_le, ti_lt, ti_eq, ti_ne, Classical.not_not, kt_0] at q
          omega
        have b77 : IV x71 1 1 := ⟨by have q1 := b72; have q2 := kc_0; omega, by have q1 := b72; have q2 := kc_0; omega⟩
        have b78 : IV a1 0 3 := ⟨by have q1 := (iv_any a1); omega, by have q1 := (iv_any a1); omega⟩
        exact J32 τ68 i69 g73 (iv_wk b78 (by decide))
      · have f79 : x71.toInt = 0 := by
          have q : _ := c75
          simp only [ti_nle, ti_nlt, ti_le, ti_lt, ti_eq, ti_ne, Classical.not_not, kt_0] at q
          omega
        have b80 : IV x71 0 0 := ⟨by have q1 := b72; have q2 := kc_0; omega, by have q1 := b72; have q2 := kc_0; omega⟩
        refine m_ldc (v := (-1000001)) C dX11_stones_29 q1_234 ?_
        exact m_iret C hr hlk (by decide) (by decide) dX11_stones_31 ⟨_, rfl, i69, g73, (iv_wk kc_m1000001 (by decide))⟩
  · have f81 : x57.toInt = 0 := by
      have q : _ := c61
      simp only [ti_nle, ti_nlt, ti_le, ti_lt, ti_eq, ti_ne, Classical.not_not, kt_0] at q
      omega
    have b82 : IV x57 0 0 := ⟨by have q1 := b58; have q2 := kc_0; omega, by have q1 := b58; have q2 := kc_0; omega⟩
    refine m_ldc (v := (-1000002)) C dX11_stones_10 q3_42 ?_
    exact m_iret C hr hlk (by decide) (by decide) dX11_stones_12 ⟨_, rfl, i55, g59, (iv_wk kc_m1000002 (by decide))⟩

abbrev MS_X11_isMark : List (Nat × Nat) := []
abbrev AS_X11_isMark : List Nat := []
set_option maxHeartbeats 4000000 in
set_option maxRecDepth 100000 in
theorem c_X11_isMark (l : Launch) (G : Gt) (σ : Sg) (a1 : Int32) (hI : Inv σ) : Mc l G yX11_isMark cX11_isMark 1 (some .boolean) 0 0 0 0 [.int a1] σ (PI fun r τ => Inv τ ∧ Fr MS_X11_isMark AS_X11_isMark σ τ ∧ IV r 0 1) := by
  refine Mc.of (L0 := [some (.int a1)]) (by decide) (Nat.le_of_ble_eq_true rfl) rfl ?_
  intro p e s m args below meth c C hr hlk
  have C : Cx p s m args c cX11_isMark 1 "LeanTower" := C
  have k0 : (0 : Int32).toInt = 0 := by decide
  have k1 : (1 : Int32).toInt = 1 := by decide
  refine m_iload_n C dX11_isMark_0 rfl rfl ?_
  refine m_sipush (v := (-999)) C dX11_isMark_1 (by decide) ?_
  refine m_icmp_lt (tgt := 18) C dX11_isMark_4 (by decide) (fun c1 => ?_) (fun c1 => ?_)
  · have f2 : a1.toInt < -999 := by
      have q : _ := c1
      simp only [ti_nle, ti_nlt, ti_le, ti_lt, ti_eq, ti_ne, Classical.not_not, kt_m999] at q
      omega
    have b3 : IV a1 (-2147483648) (-1000) := ⟨by have q1 := (iv_any a1); have q2 := kc_m999; omega, by have q1 := (iv_any a1); have q2 := kc_m999; omega⟩
    refine m_iconst (v := 0) C dX11_isMark_18 (by decide) ?_
    exact m_zret C hr rfl hlk (by decide) (by decide) dX11_isMark_19 ⟨_, rfl, hI, Fr.rf, (iv_wk kc_0 (by decide))⟩
  · have f4 : -999 ≤ a1.toInt := by
      have q : _ := c1
      simp only [ti_nle, ti_nlt, ti_le, ti_lt, ti_eq, ti_ne, Classical.not_not, kt_m999] at q
      omega
    have b5 : IV a1 (-999) 2147483647 := ⟨by have q1 := kc_m999; have q2 := (iv_any a1); omega, by have q1 := kc_m999; have q2 := (iv_any a1); omega⟩
    refine m_iload_n C dX11_isMark_7 rfl rfl ?_
    refine m_sipush (v := 999) C dX11_isMark_8 (by decide) ?_
    refine m_icmp_gt (tgt := 18) C dX11_isMark_11 (by decide) (fun c6 => ?_) (fun c6 => ?_)
    · have f7 : 999 < a1.toInt := by
        have q : _ := c6
        simp only [ti_nle, ti_nlt, ti_le, ti_lt, ti_eq, ti_ne, Classical.not_not, kt_999] at q
        omega
      have b8 : IV a1 1000 2147483647 := ⟨by have q1 := kc_999; have q2 := b5; omega, by have q1 := kc_999; have q2 := b5; omega⟩
      refine m_iconst (v := 0) C dX11_isMark_18 (by decide) ?_
      exact m_zret C hr rfl hlk (by decide) (by decide) dX11_isMark_19 ⟨_, rfl, hI, Fr.rf, (iv_wk kc_0 (by decide))⟩
    · have f9 : a1.toInt ≤ 999 := by
        have q : _ := c6
        simp only [ti_nle, ti_nlt, ti_le, ti_lt, ti_eq, ti_ne, Classical.not_not, kt_999] at q
        omega
      have b10 : IV a1 (-999) 999 := ⟨by have q1 := b5; have q2 := kc_999; omega, by have q1 := b5; have q2 := kc_999; omega⟩
      refine m_iconst (v := 1) C dX11_isMark_14 (by decide) ?_
      refine m_goto (tgt := 19) C dX11_isMark_15 (by decide) ?_
      exact m_zret C hr rfl hlk (by decide) (by decide) dX11_isMark_19 ⟨_, rfl, hI, Fr.rf, (iv_wk kc_1 (by decide))⟩

abbrev MS_X11_setThatMakes : List (Nat × Nat) := []
abbrev AS_X11_setThatMakes : List Nat := []
set_option maxHeartbeats 4000000 in
set_option maxRecDepth 100000 in
theorem c_X11_setThatMakes (l : Launch) (G : Gt) (σ : Sg) (a1 : Int32) (a2 : Int32) (a3 : Int32) (hI : Inv σ) : Mc l G yX11_setThatMakes cX11_setThatMakes 6 (some .int) 2 47 0 0 [.ref (G.1 0 0), .int a1, .int a2, .int a3] σ (PI fun r τ => Inv τ ∧ Fr MS_X11_setThatMakes AS_X11_setThatMakes σ τ ∧ IV r (-2147483648) 2147483647) := by
  refine Mc.of (L0 := [some (.ref (G.1 0 0)), some (.int a1), some (.int a2), some (.int a3), none, none]) (by decide) (Nat.le_of_ble_eq_true rfl) rfl ?_
  intro p e s m args below meth c C hr hlk
  have C : Cx p s m args c cX11_setThatMakes 6 "LeanTower" := C
  have k0 : (0 : Int32).toInt = 0 := by decide
  have k1 : (1 : Int32).toInt = 1 := by decide
  have J6 : ∀ (n : Nat) (τ : Sg) (y4 : Int32) (y5 : Int32), Inv τ → Fr MS_X11_setThatMakes AS_X11_setThatMakes σ τ → IV a1 (-2147483648) 2147483647 → IV a2 (-2147483648) 2147483647 → IV a3 (-2147483648) 2147483647 → IV y4 (-2147483648) 2147483647 → IV y5 0 128 → (128 - y5.toInt).toNat < n → MW p l e { frames := 2, cells := 0, slots := 0, locals := 47 } s m args below meth c (MQ below (QP G (PI fun r τ => Inv τ ∧ Fr MS_X11_setThatMakes AS_X11_setThatMakes σ τ ∧ IV r (-2147483648) 2147483647)) args s 0 0 (aG G)) 6 G 0 0 6 [some (.ref (G.1 0 0)), some (.int a1), some (.int a2), some (.int a3), some (.int y4), some (.int y5)] [] τ := by
    intro n
    induction n with
    | zero => intro τ y4 y5 iτ fτ b_a1 b_a2 b_a3 b_y4 b_y5 hm; exact absurd hm (Nat.not_lt_zero _)
    | succ n ih6 =>
      intro τ y4 y5 iτ fτ b_a1 b_a2 b_a3 b_y4 b_y5 hm6
      refine m_iload C dX11_setThatMakes_6 rfl ?_
      refine m_iconst (v := 1) C dX11_setThatMakes_8 (by decide) ?_
      refine m_aload_n C dX11_setThatMakes_9 rfl rfl ?_
      refine g_0_3 C q1_189 dX11_setThatMakes_10 ?_
      refine g_1_2 C (by decide) q1_82 dX11_setThatMakes_13 ?_
      refine m_topi (fun x1 ex1 => ?_)
      have b2 : IV x1 0 7 := by rw [ex1]; exact iτ.1 1 1 2
      refine m_ishl C dX11_setThatMakes_16 ?_
      refine m_topi (fun x3 ex3 => ?_)
      have b4 : IV x3 1 128 := by rw [ex3]; exact iv_shl1 b2 (by decide)
      refine m_icmp_ge (tgt := 66) C dX11_setThatMakes_17 (by decide) (fun c5 => ?_) (fun c5 => ?_)
      · have f6 : x3.toInt ≤ y5.toInt := by
          have q : _ := c5
          simp only [ti_nle, ti_nlt, ti_le, ti_lt, ti_eq, ti_ne, Classical.not_not] at q
          omega
        have b7 : IV y5 1 128 := ⟨by have q1 := b4; have q2 := b_y5; omega, by have q1 := b4; have q2 := b_y5; omega⟩
        refine m_iload_n C dX11_setThatMakes_66 rfl rfl ?_
        refine m_iconst (v := (-1)) C dX11_setThatMakes_67 (by decide) ?_
        refine m_icmp_ne (tgt := 76) C dX11_setThatMakes_68 (by decide) (fun c8 => ?_) (fun c8 => ?_)
        · have f9 : a3.toInt ≠ -1 := by
            have q : _ := c8
            simp only [ti_nle, ti_nlt, ti_le, ti_lt, ti_eq, ti_ne, Classical.not_not, kt_m1] at q
            omega
          refine m_ldc (v := (-1000000)) C dX11_setThatMakes_76 q3_43 ?_
          exact m_iret C hr hlk (by decide) (by decide) dX11_setThatMakes_78 ⟨_, rfl, iτ, fτ, (iv_wk kc_m1000000 (by decide))⟩
        · have f10 : a3.toInt = -1 := by
            have q : _ := c8
            simp only [ti_nle, ti_nlt, ti_le, ti_lt, ti_eq, ti_ne, Classical.not_not, kt_m1] at q
            omega
          have b11 : IV a3 (-1) (-1) := ⟨by have q1 := b_a3; have q2 := kc_m1; omega, by have q1 := b_a3; have q2 := kc_m1; omega⟩
          refine m_iload C dX11_setThatMakes_71 rfl ?_
          refine m_goto (tgt := 78) C dX11_setThatMakes_73 (by decide) ?_
          exact m_iret C hr hlk (by decide) (by decide) dX11_setThatMakes_78 ⟨_, rfl, iτ, fτ, b_y4⟩
      · have f12 : y5.toInt < x3.toInt := by
          have q : _ := c5
          simp only [ti_nle, ti_nlt, ti_le, ti_lt, ti_eq, ti_ne, Classical.not_not] at q
          omega
        have b13 : IV y5 0 127 := ⟨by have q1 := b_y5; have q2 := b4; omega, by have q1 := b_y5; have q2 := b4; omega⟩
        refine m_aload_n C dX11_setThatMakes_20 rfl rfl ?_
        refine g_0_3 C q1_189 dX11_setThatMakes_21 ?_
        refine m_iload C dX11_setThatMakes_24 rfl ?_
        refine m_iconst (v := 0) C dX11_setThatMakes_26 (by decide) ?_
        refine m_callV (n := 2) (ci := 7) (st := []) C (c_X8_leanWith l G τ (j := 1) (by decide) (y5) (0) iτ ) (by decide) (by decide) rfl rfl rfl q3_82 q3_121 q3_80 q3_81 q1_3 (by decide +kernel) rfl (by decide) (by decide) rfl (Nat.le_of_ble_eq_true rfl) dX11_setThatMakes_27 ?_
        rintro _ τ14 ⟨x17, rfl, i15, f16, b18⟩
        have g19 : Fr MS_X11_setThatMakes AS_X11_setThatMakes σ τ14 := Fr.call (fτ) f16 (by decide)
        show MW p l e _ s m args below meth c _ 6 G 0 0 30 [some (.ref (G.1 0 0)), some (.int a1), some (.int a2), some (.int a3), some (.int y4), some (.int y5)] [.int x17] τ14
        refine m_iload_n C dX11_setThatMakes_30 rfl rfl ?_
        refine m_icmp_ne (tgt := 60) C dX11_setThatMakes_31 (by decide) (fun c21 => ?_) (fun c21 => ?_)
        · have f22 : x17.toInt ≠ a1.toInt := by
            have q : _ := c21
            simp only [ti_nle, ti_nlt, ti_le, ti_lt, ti_eq, ti_ne, Classical.not_not] at q
            omega
          obtain ⟨x23, ex23⟩ : ∃ y : Int32, y = y5 + 1 := ⟨_, rfl⟩
          have tx23 : x23.toInt = y5.toInt + 1 := by rw [ex23, ti_addv b13 kc_1 (by decide), kt_1]
          have b24 : IV x23 1 128 := by rw [ex23]; exact iv_add b13 kc_1 (by decide)
          refine m_iinc (v := x23) (L1 := [some (.ref (G.1 0 0)), some (.int a1), some (.int a2), some (.int a3), some (.int y4), some (.int x23)]) C dX11_setThatMakes_60 rfl (by rw [ex23]; rfl) (by decide) rfl rfl ?_
          refine m_goto (tgt := 6) C dX11_setThatMakes_63 (by decide) ?_
          exact ih6 τ14 y4 x23 i15 g19 b_a1 b_a2 b_a3 b_y4 (iv_wk b24 (by decide)) (by have q := hm6; omega)
        · have f25 : x17.toInt = a1.toInt := by
            have q : _ := c21
            simp only [ti_nle, ti_nlt, ti_le, ti_lt, ti_eq, ti_ne, Classical.not_not] at q
            omega
          refine m_aload_n C dX11_setThatMakes_34 rfl rfl ?_
          refine g_0_3 C q1_189 dX11_setThatMakes_35 ?_
          refine m_iload C dX11_setThatMakes_38 rfl ?_
          refine m_iconst (v := 1) C dX11_setThatMakes_40 (by decide) ?_
          refine m_callV (n := 2) (ci := 7) (st := []) C (c_X8_leanWith l G τ14 (j := 1) (by decide) (y5) (1) i15 ) (by decide) (by decide) rfl rfl rfl q3_82 q3_121 q3_80 q3_81 q1_3 (by decide +kernel) rfl (by decide) (by decide) rfl (Nat.le_of_ble_eq_true rfl) dX11_setThatMakes_41 ?_
          rintro _ τ26 ⟨x29, rfl, i27, f28, b30⟩
          have g31 : Fr MS_X11_setThatMakes AS_X11_setThatMakes σ τ26 := Fr.call (g19) f28 (by decide)
          show MW p l e _ s m args below meth c _ 6 G 0 0 44 [some (.ref (G.1 0 0)), some (.int a1), some (.int a2), some (.int a3), some (.int y4), some (.int y5)] [.int x29] τ26
          refine m_iload_n C dX11_setThatMakes_44 rfl rfl ?_
          refine m_icmp_ne (tgt := 60) C dX11_setThatMakes_45 (by decide) (fun c33 => ?_) (fun c33 => ?_)
          · have f34 : x29.toInt ≠ a2.toInt := by
              have q : _ := c33
              simp only [ti_nle, ti_nlt, ti_le, ti_lt, ti_eq, ti_ne, Classical.not_not] at q
              omega
            obtain ⟨x35, ex35⟩ : ∃ y : Int32, y = y5 + 1 := ⟨_, rfl⟩
            have tx35 : x35.toInt = y5.toInt + 1 := by rw [ex35, ti_addv b13 kc_1 (by decide), kt_1]
            have b36 : IV x35 1 128 := by rw [ex35]; exact iv_add b13 kc_1 (by decide)
            refine m_iinc (v := x35) (L1 := [some (.ref (G.1 0 0)), some (.int a1), some (.int a2), some (.int a3), some (.int y4), some (.int x35)]) C dX11_setThatMakes_60 rfl (by rw [ex35]; rfl) (by decide) rfl rfl ?_
            refine m_goto (tgt := 6) C dX11_setThatMakes_63 (by decide) ?_
            exact ih6 τ26 y4 x35 i27 g31 b_a1 b_a2 b_a3 b_y4 (iv_wk b36 (by decide)) (by have q := hm6; omega)
          · have f37 : x29.toInt = a2.toInt := by
              have q : _ := c33
              simp only [ti_nle, ti_nlt, ti_le, ti_lt, ti_eq, ti_ne, Classical.not_not] at q
              omega
            refine m_iload C dX11_setThatMakes_48 rfl ?_
            refine m_iload_n C dX11_setThatMakes_50 rfl rfl ?_
            refine m_icmp_ne (tgt := 57) C dX11_setThatMakes_51 (by decide) (fun c38 => ?_) (fun c38 => ?_)
            · have f39 : y4.toInt ≠ a3.toInt := by
                have q : _ := c38
                simp only [ti_nle, ti_nlt, ti_le, ti_lt, ti_eq, ti_ne, Classical.not_not] at q
                omega
              obtain ⟨x40, ex40⟩ : ∃ y : Int32, y = y4 + 1 := ⟨_, rfl⟩
              refine m_iinc (v := x40) (L1 := [some (.ref (G.1 0 0)), some (.int a1), some (.int a2), some (.int a3), some (.int x40), some (.int y5)]) C dX11_setThatMakes_57 rfl (by rw [ex40]; rfl) (by decide) rfl rfl ?_
              obtain ⟨x41, ex41⟩ : ∃ y : Int32, y = y5 + 1 := ⟨_, rfl⟩
              have tx41 : x41.toInt = y5.toInt + 1 := by rw [ex41, ti_addv b13 kc_1 (by decide), kt_1]
              have b42 : IV x41 1 128 := by rw [ex41]; exact iv_add b13 kc_1 (by decide)
              refine m_iinc (v := x41) (L1 := [some (.ref (G.1 0 0)), some (.int a1), some (.int a2), some (.int a3), some (.int x40), some (.int x41)]) C dX11_setThatMakes_60 rfl (by rw [ex41]; rfl) (by decide) rfl rfl ?_
              refine m_goto (tgt := 6) C dX11_setThatMakes_63 (by decide) ?_
              exact ih6 τ26 x40 x41 i27 g31 b_a1 b_a2 b_a3 (iv_any x40) (iv_wk b42 (by decide)) (by have q := hm6; omega)
            · have f43 : y4.toInt = a3.toInt := by
                have q : _ := c38
                simp only [ti_nle, ti_nlt, ti_le, ti_lt, ti_eq, ti_ne, Classical.not_not] at q
                omega
              refine m_iload C dX11_setThatMakes_54 rfl ?_
              exact m_iret C hr hlk (by decide) (by decide) dX11_setThatMakes_56 ⟨_, rfl, i27, g31, (iv_wk b13 (by decide))⟩
  refine m_iconst (v := 0) C dX11_setThatMakes_0 (by decide) ?_
  refine m_istore (L1 := [some (.ref (G.1 0 0)), some (.int a1), some (.int a2), some (.int a3), some (.int 0), none]) C dX11_setThatMakes_1 (by decide) rfl rfl ?_
  refine m_iconst (v := 0) C dX11_setThatMakes_3 (by decide) ?_
  refine m_istore (L1 := [some (.ref (G.1 0 0)), some (.int a1), some (.int a2), some (.int a3), some (.int 0), some (.int 0)]) C dX11_setThatMakes_4 (by decide) rfl rfl ?_
  exact J6 ((128 - (0 : Int32).toInt).toNat + 1) σ 0 0 hI Fr.rf (iv_any a1) (iv_any a2) (iv_any a3) (iv_wk kc_0 (by decide)) (iv_wk kc_0 (by decide)) (Nat.lt_succ_self _)

abbrev MS_X11_marks : List (Nat × Nat) := [(0, 12), (1, 0), (1, 1), (1, 2), (1, 3), (1, 9), (1, 10), (1, 11)]
abbrev AS_X11_marks : List Nat := [2, 3, 4, 5, 6]
set_option maxHeartbeats 4000000 in
set_option maxRecDepth 100000 in
theorem c_X11_marks (l : Launch) (G : Gt) (σ : Sg) (a1 : Int32) (a2 : Int32) (a3 : Int32) (a4 : Int32) (hI : Inv σ) : Mc l G yX11_marks cX11_marks 6 (some .int) 3 72 0 0 [.ref (G.1 0 0), .int a1, .int a2, .int a3, .int a4] σ (PI fun r τ => Inv τ ∧ Fr MS_X11_marks AS_X11_marks σ τ ∧ IV r (-2147483648) 2147483647) := by
  refine Mc.of (L0 := [some (.ref (G.1 0 0)), some (.int a1), some (.int a2), some (.int a3), some (.int a4), none]) (by decide) (Nat.le_of_ble_eq_true rfl) rfl ?_
  intro p e s m args below meth c C hr hlk
  have C : Cx p s m args c cX11_marks 6 "LeanTower" := C
  have k0 : (0 : Int32).toInt = 0 := by decide
  have k1 : (1 : Int32).toInt = 1 := by decide
  refine m_aload_n C dX11_marks_0 rfl rfl ?_
  refine g_0_2 C q1_188 dX11_marks_1 ?_
  refine m_callV (n := 0) (ci := 7) (st := []) C (c_X8_stands l G σ (j := 0) (by decide)  hI ) (by decide) (by decide) rfl rfl rfl q3_41 q3_38 q3_39 q3_40 q1_3 (by decide +kernel) rfl (by decide) (by decide) rfl (Nat.le_of_ble_eq_true rfl) dX11_marks_4 ?_
  rintro _ τ1 ⟨x4, rfl, i2, f3, b5⟩
  have g6 : Fr MS_X11_marks AS_X11_marks σ τ1 := Fr.call (Fr.rf) f3 (by decide)
  show MW p l e _ s m args below meth c _ 6 G 0 0 7 [some (.ref (G.1 0 0)), some (.int a1), some (.int a2), some (.int a3), some (.int a4), none] [.int x4] τ1
  refine m_if_ne (tgt := 13) C dX11_marks_7 (by decide) (fun c8 => ?_) (fun c8 => ?_)
  · have f9 : x4.toInt ≠ 0 := by
      have q : _ := c8
      simp only [ti_nle, ti_nlt, ti_le, ti_lt, ti_eq, ti_ne, Classical.not_not, kt_0] at q
      omega
    have b10 : IV x4 1 1 := ⟨by have q1 := b5; have q2 := kc_0; omega, by have q1 := b5; have q2 := kc_0; omega⟩
    refine m_aload_n C dX11_marks_13 rfl rfl ?_
    refine m_iload_n C dX11_marks_14 rfl rfl ?_
    refine m_callV (n := 1) (ci := 10) (st := []) C (c_X11_rowAt l G τ1 (a1) i2 ) (by decide) (by decide) rfl rfl rfl q1_233 q1_230 q1_232 q0_0 q1_1 (by decide +kernel) rfl (by decide) (by decide) rfl (Nat.le_of_ble_eq_true rfl) dX11_marks_15 ?_
    rintro _ τ11 ⟨x14, rfl, i12, f13, h17⟩
    have g16 : Fr MS_X11_marks AS_X11_marks σ τ11 := Fr.call (g6) f13 (by decide)
    rcases h17 with ⟨rfl, x14q⟩ | ⟨rfl, x14q⟩
    · skip
      show MW p l e _ s m args below meth c _ 6 G 0 0 18 [some (.ref (G.1 0 0)), some (.int a1), some (.int a2), some (.int a3), some (.int a4), none] [.null] τ11
      refine m_astoreN (L1 := [some (.ref (G.1 0 0)), some (.int a1), some (.int a2), some (.int a3), some (.int a4), some (.null)]) C dX11_marks_18 (by decide) rfl rfl ?_
      refine m_aloadN C dX11_marks_20 rfl ?_
      refine m_ifnullN (tgt := 45) C dX11_marks_22 (by decide) ?_
      refine m_ldc (v := (-1000001)) C dX11_marks_45 q1_234 ?_
      exact m_iret C hr hlk (by decide) (by decide) dX11_marks_47 ⟨_, rfl, i12, g16, (iv_wk kc_m1000001 (by decide))⟩
    · have b18 : IV a1 0 7 := ⟨by have q1 := (iv_any a1); omega, by have q1 := (iv_any a1); omega⟩
      show MW p l e _ s m args below meth c _ 6 G 0 0 18 [some (.ref (G.1 0 0)), some (.int a1), some (.int a2), some (.int a3), some (.int a4), none] [.ref (G.1 20 (a1.toInt.toNat))] τ11
      refine m_astore (L1 := [some (.ref (G.1 0 0)), some (.int a1), some (.int a2), some (.int a3), some (.int a4), some (.ref (G.1 20 (a1.toInt.toNat)))]) C dX11_marks_18 (by decide) rfl rfl ?_
      refine m_aload C dX11_marks_20 rfl ?_
      refine m_ifnull C dX11_marks_22 ?_
      refine m_iload_n C dX11_marks_25 rfl rfl ?_
      refine m_callS (n := 1) (st := []) C (c_X11_isMark l G τ11 (a2) i12 ) q3_190 q3_188 q3_189 q1_1 (by decide +kernel) rfl (by decide) (by decide) rfl (Nat.le_of_ble_eq_true rfl) dX11_marks_26 ?_
      rintro _ τ19 ⟨x22, rfl, i20, f21, b23⟩
      have g24 : Fr MS_X11_marks AS_X11_marks σ τ19 := Fr.call (g16) f21 (by decide)
      show MW p l e _ s m args below meth c _ 6 G 0 0 29 [some (.ref (G.1 0 0)), some (.int a1), some (.int a2), some (.int a3), some (.int a4), some (.ref (G.1 20 (a1.toInt.toNat)))] [.int x22] τ19
      refine m_if_eq (tgt := 45) C dX11_marks_29 (by decide) (fun c26 => ?_) (fun c26 => ?_)
      · have f27 : x22.toInt = 0 := by
          have q : _ := c26
          simp only [ti_nle, ti_nlt, ti_le, ti_lt, ti_eq, ti_ne, Classical.not_not, kt_0] at q
          omega
        have b28 : IV x22 0 0 := ⟨by have q1 := b23; have q2 := kc_0; omega, by have q1 := b23; have q2 := kc_0; omega⟩
        refine m_ldc (v := (-1000001)) C dX11_marks_45 q1_234 ?_
        exact m_iret C hr hlk (by decide) (by decide) dX11_marks_47 ⟨_, rfl, i20, g24, (iv_wk kc_m1000001 (by decide))⟩
      · have f29 : x22.toInt ≠ 0 := by
          have q : _ := c26
          simp only [ti_nle, ti_nlt, ti_le, ti_lt, ti_eq, ti_ne, Classical.not_not, kt_0] at q
          omega
        have b30 : IV x22 1 1 := ⟨by have q1 := b23; have q2 := kc_0; omega, by have q1 := b23; have q2 := kc_0; omega⟩
        refine m_iload_n C dX11_marks_32 rfl rfl ?_
        refine m_callS (n := 1) (st := []) C (c_X11_isMark l G τ19 (a3) i20 ) q3_190 q3_188 q3_189 q1_1 (by decide +kernel) rfl (by decide) (by decide) rfl (Nat.le_of_ble_eq_true rfl) dX11_marks_33 ?_
        rintro _ τ31 ⟨x34, rfl, i32, f33, b35⟩
        have g36 : Fr MS_X11_marks AS_X11_marks σ τ31 := Fr.call (g24) f33 (by decide)
        show MW p l e _ s m args below meth c _ 6 G 0 0 36 [some (.ref (G.1 0 0)), some (.int a1), some (.int a2), some (.int a3), some (.int a4), some (.ref (G.1 20 (a1.toInt.toNat)))] [.int x34] τ31
        refine m_if_eq (tgt := 45) C dX11_marks_36 (by decide) (fun c38 => ?_) (fun c38 => ?_)
        · have f39 : x34.toInt = 0 := by
            have q : _ := c38
            simp only [ti_nle, ti_nlt, ti_le, ti_lt, ti_eq, ti_ne, Classical.not_not, kt_0] at q
            omega
          have b40 : IV x34 0 0 := ⟨by have q1 := b35; have q2 := kc_0; omega, by have q1 := b35; have q2 := kc_0; omega⟩
          refine m_ldc (v := (-1000001)) C dX11_marks_45 q1_234 ?_
          exact m_iret C hr hlk (by decide) (by decide) dX11_marks_47 ⟨_, rfl, i32, g36, (iv_wk kc_m1000001 (by decide))⟩
        · have f41 : x34.toInt ≠ 0 := by
            have q : _ := c38
            simp only [ti_nle, ti_nlt, ti_le, ti_lt, ti_eq, ti_ne, Classical.not_not, kt_0] at q
            omega
          have b42 : IV x34 1 1 := ⟨by have q1 := b35; have q2 := kc_0; omega, by have q1 := b35; have q2 := kc_0; omega⟩
          refine m_iload C dX11_marks_39 rfl ?_
          refine m_iconst (v := (-1)) C dX11_marks_41 (by decide) ?_
          refine m_icmp_ge (tgt := 48) C dX11_marks_42 (by decide) (fun c43 => ?_) (fun c43 => ?_)
          · have f44 : -1 ≤ a4.toInt := by
              have q : _ := c43
              simp only [ti_nle, ti_nlt, ti_le, ti_lt, ti_eq, ti_ne, Classical.not_not, kt_m1] at q
              omega
            have b45 : IV a4 (-1) 2147483647 := ⟨by have q1 := kc_m1; have q2 := (iv_any a4); omega, by have q1 := kc_m1; have q2 := (iv_any a4); omega⟩
            refine m_aload C dX11_marks_48 rfl ?_
            refine m_callV (n := 0) (ci := 6) (st := []) C (c_X7_isMissing l G τ31 (j := (a1.toInt.toNat)) (iv_nat b18 (by decide))  i32 ) (by decide) (iv_nat b18 (by decide)) rfl rfl rfl q2_15 q2_12 q2_13 q2_14 q1_6 (by decide +kernel) rfl (by decide) (by decide) rfl (Nat.le_of_ble_eq_true rfl) dX11_marks_50 ?_
            rintro _ τ46 ⟨x49, rfl, i47, f48, b50⟩
            have g51 : Fr MS_X11_marks AS_X11_marks σ τ46 := Fr.call (g36) f48 (by decide)
            show MW p l e _ s m args below meth c _ 6 G 0 0 53 [some (.ref (G.1 0 0)), some (.int a1), some (.int a2), some (.int a3), some (.int a4), some (.ref (G.1 20 (a1.toInt.toNat)))] [.int x49] τ46
            refine m_if_eq (tgt := 62) C dX11_marks_53 (by decide) (fun c53 => ?_) (fun c53 => ?_)
            · have f54 : x49.toInt = 0 := by
                have q : _ := c53
                simp only [ti_nle, ti_nlt, ti_le, ti_lt, ti_eq, ti_ne, Classical.not_not, kt_0] at q
                omega
              have b55 : IV x49 0 0 := ⟨by have q1 := b50; have q2 := kc_0; omega, by have q1 := b50; have q2 := kc_0; omega⟩
              refine m_aload C dX11_marks_62 rfl ?_
              refine g_20_2 C (iv_nat b18 (by decide)) q1_177 dX11_marks_64 ?_
              refine m_topi (fun x56 ex56 => ?_)
              have b57 : IV x56 0 40 := by rw [ex56]; exact i47.1 20 (a1.toInt.toNat) 2
              refine m_aload_n C dX11_marks_67 rfl rfl ?_
              refine g_0_2 C q1_188 dX11_marks_68 ?_
              refine g_1_2 C (by decide) q1_82 dX11_marks_71 ?_
              refine m_topi (fun x58 ex58 => ?_)
              have b59 : IV x58 0 7 := by rw [ex58]; exact i47.1 1 0 2
              refine m_icmp_ge (tgt := 83) C dX11_marks_74 (by decide) (fun c60 => ?_) (fun c60 => ?_)
              · have f61 : x58.toInt ≤ x56.toInt := by
                  have q : _ := c60
                  simp only [ti_nle, ti_nlt, ti_le, ti_lt, ti_eq, ti_ne, Classical.not_not] at q
                  omega
                refine m_aload C dX11_marks_83 rfl ?_
                refine m_aload_n C dX11_marks_85 rfl rfl ?_
                refine g_0_2 C q1_188 dX11_marks_86 ?_
                refine g_1_2 C (by decide) q1_82 dX11_marks_89 ?_
                refine m_eqs (w := x58) ex58.symm ?_
                refine m_iconst (v := (-1)) C dX11_marks_92 (by decide) ?_
                refine m_aload_n C dX11_marks_93 rfl rfl ?_
                refine g_0_2 C q1_188 dX11_marks_94 ?_
                refine g_1_0 C (by decide) q1_76 dX11_marks_97 ?_
                refine m_topi (fun x62 ex62 => ?_)
                refine m_iconst (v := 1) C dX11_marks_100 (by decide) ?_
                refine m_isub C dX11_marks_101 ?_
                refine m_topi (fun x63 ex63 => ?_)
                refine m_callV (n := 3) (ci := 6) (st := []) C (c_X7_holds l G τ46 (j := (a1.toInt.toNat)) (iv_nat b18 (by decide)) (x58) ((-1)) (x63) i47 ) (by decide) (iv_nat b18 (by decide)) rfl rfl rfl q3_194 q3_191 q3_192 q3_193 q1_6 (by decide +kernel) rfl (by decide) (by decide) rfl (Nat.le_of_ble_eq_true rfl) dX11_marks_102 ?_
                rintro _ τ64 ⟨x67, rfl, i65, f66, b68⟩
                have g69 : Fr MS_X11_marks AS_X11_marks σ τ64 := Fr.call (g51) f66 (by decide)
                show MW p l e _ s m args below meth c _ 6 G 0 0 105 [some (.ref (G.1 0 0)), some (.int a1), some (.int a2), some (.int a3), some (.int a4), some (.ref (G.1 20 (a1.toInt.toNat)))] [.int x67] τ64
                refine m_if_ne (tgt := 111) C dX11_marks_105 (by decide) (fun c71 => ?_) (fun c71 => ?_)
                · have f72 : x67.toInt ≠ 0 := by
                    have q : _ := c71
                    simp only [ti_nle, ti_nlt, ti_le, ti_lt, ti_eq, ti_ne, Classical.not_not, kt_0] at q
                    omega
                  have b73 : IV x67 1 1 := ⟨by have q1 := b68; have q2 := kc_0; omega, by have q1 := b68; have q2 := kc_0; omega⟩
                  refine m_aload_n C dX11_marks_111 rfl rfl ?_
                  refine g_0_3 C q1_189 dX11_marks_112 ?_
                  refine m_aload_n C dX11_marks_115 rfl rfl ?_
                  refine g_0_2 C q1_188 dX11_marks_116 ?_
                  refine m_callV (n := 1) (ci := 7) (st := []) C (c_X8_takeFrom l G τ64 (j := 1) (by decide) (j2 := 0) (by decide) i65 ) (by decide) (by decide) rfl rfl rfl q3_9 q3_6 q3_7 q3_8 q1_3 (by decide +kernel) rfl (by decide) (by decide) rfl (Nat.le_of_ble_eq_true rfl) dX11_marks_119 ?_
                  rintro _ τ74 ⟨rfl, i75, f76⟩
                  have g79 : Fr MS_X11_marks AS_X11_marks σ τ74 := Fr.call (g69) f76 (by decide)
                  show MW p l e _ s m args below meth c _ 6 G 0 0 122 [some (.ref (G.1 0 0)), some (.int a1), some (.int a2), some (.int a3), some (.int a4), some (.ref (G.1 20 (a1.toInt.toNat)))] [] τ74
                  refine m_aload C dX11_marks_122 rfl ?_
                  refine g_20_0 C (iv_nat b18 (by decide)) q1_173 dX11_marks_124 ?_
                  refine m_iconst (v := 0) C dX11_marks_127 (by decide) ?_
                  refine m_aload_n C dX11_marks_128 rfl rfl ?_
                  refine g_0_3 C q1_189 dX11_marks_129 ?_
                  refine g_1_5 C (by decide) q1_88 dX11_marks_132 ?_
                  refine m_iconst (v := 0) C dX11_marks_135 (by decide) ?_
                  refine m_aload_n C dX11_marks_136 rfl rfl ?_
                  refine g_0_2 C q1_188 dX11_marks_137 ?_
                  refine g_1_2 C (by decide) q1_82 dX11_marks_140 ?_
                  refine m_topi (fun x81 ex81 => ?_)
                  have b82 : IV x81 0 7 := by rw [ex81]; exact i75.1 1 0 2
                  have q83 := b82
                  have q84 := kt_0
                  refine m_copy (t0 := 21) (n0 := 40) (t1 := 2) (n1 := 7) (st := []) C (by decide) (iv_nat b18 (by decide)) rfl (by decide) (by decide) (fun _ => rfl) ⟨by omega, by omega, by omega, by omega, by omega⟩ q2_28 q2_30 q2_29 q1_8 ⟨by decide, by decide +kernel⟩ dX11_marks_143 ?_
                  refine m_tops (fun τ85 eτ85 => ?_)
                  have i86 : Inv τ85 := eτ85 ▸ Inv.putRow i75 (by decide) (fun _ => rfl)
                  have f87 : Fr MS_X11_marks AS_X11_marks σ τ85 := eτ85 ▸ Fr.putRow (g79) (by decide)
                  refine m_aload_n C dX11_marks_146 rfl rfl ?_
                  refine m_aload_n C dX11_marks_147 rfl rfl ?_
                  refine m_iload_n C dX11_marks_148 rfl rfl ?_
                  refine m_iload_n C dX11_marks_149 rfl rfl ?_
                  refine m_iload C dX11_marks_150 rfl ?_
                  refine m_callV (n := 3) (ci := 10) (st := [.ref (G.1 0 0)]) C (c_X11_setThatMakes l G τ85 (a2) (a3) (a4) i86 ) (by decide) (by decide) rfl rfl rfl q3_198 q3_195 q3_197 q0_21 q1_1 (by decide +kernel) rfl (by decide) (by decide) rfl (Nat.le_of_ble_eq_true rfl) dX11_marks_152 ?_
                  rintro _ τ88 ⟨x91, rfl, i89, f90, b92⟩
                  have g93 : Fr MS_X11_marks AS_X11_marks σ τ88 := Fr.call (f87) f90 (by decide)
                  show MW p l e _ s m args below meth c _ 6 G 0 0 155 [some (.ref (G.1 0 0)), some (.int a1), some (.int a2), some (.int a3), some (.int a4), some (.ref (G.1 20 (a1.toInt.toNat)))] [.int x91, .ref (G.1 0 0)] τ88
                  refine m_callV (n := 1) (ci := 10) (st := []) C (c_X11_clean l G τ88 (x91) i89 ) (by decide) (by decide) rfl rfl rfl q2_7 q2_4 q2_6 q0_2 q1_1 (by decide +kernel) rfl (by decide) (by decide) rfl (Nat.le_of_ble_eq_true rfl) dX11_marks_155 ?_
                  rintro _ τ95 ⟨x98, rfl, i96, f97, b99, h101⟩
                  have g100 : Fr MS_X11_marks AS_X11_marks σ τ95 := Fr.call (g93) f97 (by decide)
                  show MW p l e _ s m args below meth c _ 6 G 0 0 158 [some (.ref (G.1 0 0)), some (.int a1), some (.int a2), some (.int a3), some (.int a4), some (.ref (G.1 20 (a1.toInt.toNat)))] [.int x98] τ95
                  exact m_iret C hr hlk (by decide) (by decide) dX11_marks_158 ⟨_, rfl, i96, g100, b99⟩
                · have f102 : x67.toInt = 0 := by
                    have q : _ := c71
                    simp only [ti_nle, ti_nlt, ti_le, ti_lt, ti_eq, ti_ne, Classical.not_not, kt_0] at q
                    omega
                  have b103 : IV x67 0 0 := ⟨by have q1 := b68; have q2 := kc_0; omega, by have q1 := b68; have q2 := kc_0; omega⟩
                  refine m_ldc (v := (-1000001)) C dX11_marks_108 q1_234 ?_
                  exact m_iret C hr hlk (by decide) (by decide) dX11_marks_110 ⟨_, rfl, i65, g69, (iv_wk kc_m1000001 (by decide))⟩
              · have f104 : x56.toInt < x58.toInt := by
                  have q : _ := c60
                  simp only [ti_nle, ti_nlt, ti_le, ti_lt, ti_eq, ti_ne, Classical.not_not] at q
                  omega
                have b105 : IV x56 0 6 := ⟨by have q1 := b57; have q2 := b59; omega, by have q1 := b57; have q2 := b59; omega⟩
                have b106 : IV x58 1 7 := ⟨by have q1 := b57; have q2 := b59; omega, by have q1 := b57; have q2 := b59; omega⟩
                refine m_aload_n C dX11_marks_77 rfl rfl ?_
                refine m_iconst (v := 2) C dX11_marks_78 (by decide) ?_
                refine m_callV (n := 1) (ci := 10) (st := []) C (c_X11_found l G τ46 (2) i47 (iv_wk kc_2 (by decide))) (by decide) (by decide) rfl rfl rfl q1_238 q1_235 q1_237 q0_1 q1_1 (by decide +kernel) rfl (by decide) (by decide) rfl (Nat.le_of_ble_eq_true rfl) dX11_marks_79 ?_
                rintro _ τ107 ⟨x110, rfl, i108, f109, b111, h113⟩
                have g112 : Fr MS_X11_marks AS_X11_marks σ τ107 := Fr.call (g51) f109 (by decide)
                have q114 := kt_2
                show MW p l e _ s m args below meth c _ 6 G 0 0 82 [some (.ref (G.1 0 0)), some (.int a1), some (.int a2), some (.int a3), some (.int a4), some (.ref (G.1 20 (a1.toInt.toNat)))] [.int x110] τ107
                exact m_iret C hr hlk (by decide) (by decide) dX11_marks_82 ⟨_, rfl, i108, g112, (iv_wk b111 (by decide))⟩
            · have f115 : x49.toInt ≠ 0 := by
                have q : _ := c53
                simp only [ti_nle, ti_nlt, ti_le, ti_lt, ti_eq, ti_ne, Classical.not_not, kt_0] at q
                omega
              have b116 : IV x49 1 1 := ⟨by have q1 := b50; have q2 := kc_0; omega, by have q1 := b50; have q2 := kc_0; omega⟩
              refine m_aload_n C dX11_marks_56 rfl rfl ?_
              refine m_iconst (v := 1) C dX11_marks_57 (by decide) ?_
              refine m_callV (n := 1) (ci := 10) (st := []) C (c_X11_found l G τ46 (1) i47 (iv_wk kc_1 (by decide))) (by decide) (by decide) rfl rfl rfl q1_238 q1_235 q1_237 q0_1 q1_1 (by decide +kernel) rfl (by decide) (by decide) rfl (Nat.le_of_ble_eq_true rfl) dX11_marks_58 ?_
              rintro _ τ117 ⟨x120, rfl, i118, f119, b121, h123⟩
              have g122 : Fr MS_X11_marks AS_X11_marks σ τ117 := Fr.call (g51) f119 (by decide)
              have q124 := kt_1
              show MW p l e _ s m args below meth c _ 6 G 0 0 61 [some (.ref (G.1 0 0)), some (.int a1), some (.int a2), some (.int a3), some (.int a4), some (.ref (G.1 20 (a1.toInt.toNat)))] [.int x120] τ117
              exact m_iret C hr hlk (by decide) (by decide) dX11_marks_61 ⟨_, rfl, i118, g122, (iv_wk b121 (by decide))⟩
          · have f125 : a4.toInt < -1 := by
              have q : _ := c43
              simp only [ti_nle, ti_nlt, ti_le, ti_lt, ti_eq, ti_ne, Classical.not_not, kt_m1] at q
              omega
            have b126 : IV a4 (-2147483648) (-2) := ⟨by have q1 := (iv_any a4); have q2 := kc_m1; omega, by have q1 := (iv_any a4); have q2 := kc_m1; omega⟩
            refine m_ldc (v := (-1000001)) C dX11_marks_45 q1_234 ?_
            exact m_iret C hr hlk (by decide) (by decide) dX11_marks_47 ⟨_, rfl, i32, g36, (iv_wk kc_m1000001 (by decide))⟩
  · have f127 : x4.toInt = 0 := by
      have q : _ := c8
      simp only [ti_nle, ti_nlt, ti_le, ti_lt, ti_eq, ti_ne, Classical.not_not, kt_0] at q
      omega
    have b128 : IV x4 0 0 := ⟨by have q1 := b5; have q2 := kc_0; omega, by have q1 := b5; have q2 := kc_0; omega⟩
    refine m_ldc (v := (-1000002)) C dX11_marks_10 q3_42 ?_
    exact m_iret C hr hlk (by decide) (by decide) dX11_marks_12 ⟨_, rfl, i2, g6, (iv_wk kc_m1000002 (by decide))⟩

abbrev MS_X11_nextOut : List (Nat × Nat) := []
abbrev AS_X11_nextOut : List Nat := []
set_option maxHeartbeats 4000000 in
set_option maxRecDepth 100000 in
theorem c_X11_nextOut (l : Launch) (G : Gt) (σ : Sg) (a1 : Int32) (hI : Inv σ) (ha1 : IV a1 0 127) : Mc l G yX11_nextOut cX11_nextOut 3 (some .int) 0 0 0 0 [.ref (G.1 0 0), .int a1] σ (PI fun r τ => Inv τ ∧ Fr MS_X11_nextOut AS_X11_nextOut σ τ ∧ IV r (-1000000) 6) := by
  refine Mc.of (L0 := [some (.ref (G.1 0 0)), some (.int a1), none]) (by decide) (Nat.le_of_ble_eq_true rfl) rfl ?_
  intro p e s m args below meth c C hr hlk
  have C : Cx p s m args c cX11_nextOut 3 "LeanTower" := C
  have k0 : (0 : Int32).toInt = 0 := by decide
  have k1 : (1 : Int32).toInt = 1 := by decide
  have J2 : ∀ (n : Nat) (τ : Sg) (y2 : Int32), Inv τ → Fr MS_X11_nextOut AS_X11_nextOut σ τ → IV a1 0 127 → IV y2 0 7 → (7 - y2.toInt).toNat < n → MW p l e { frames := 0, cells := 0, slots := 0, locals := 0 } s m args below meth c (MQ below (QP G (PI fun r τ => Inv τ ∧ Fr MS_X11_nextOut AS_X11_nextOut σ τ ∧ IV r (-1000000) 6)) args s 0 0 (aG G)) 3 G 0 0 2 [some (.ref (G.1 0 0)), some (.int a1), some (.int y2)] [] τ := by
    intro n
    induction n with
    | zero => intro τ y2 iτ fτ b_a1 b_y2 hm; exact absurd hm (Nat.not_lt_zero _)
    | succ n ih2 =>
      intro τ y2 iτ fτ b_a1 b_y2 hm2
      refine m_iload_n C dX11_nextOut_2 rfl rfl ?_
      refine m_bipush (v := 7) C dX11_nextOut_3 (by decide) ?_
      refine m_icmp_ge (tgt := 40) C dX11_nextOut_5 (by decide) (fun c1 => ?_) (fun c1 => ?_)
      · have f2 : 7 ≤ y2.toInt := by
          have q : _ := c1
          simp only [ti_nle, ti_nlt, ti_le, ti_lt, ti_eq, ti_ne, Classical.not_not, kt_7] at q
          omega
        have b3 : IV y2 7 7 := ⟨by have q1 := kc_7; have q2 := b_y2; omega, by have q1 := kc_7; have q2 := b_y2; omega⟩
        refine m_ldc (v := (-1000000)) C dX11_nextOut_40 q3_43 ?_
        exact m_iret C hr hlk (by decide) (by decide) dX11_nextOut_42 ⟨_, rfl, iτ, fτ, (iv_wk kc_m1000000 (by decide))⟩
      · have f4 : y2.toInt < 7 := by
          have q : _ := c1
          simp only [ti_nle, ti_nlt, ti_le, ti_lt, ti_eq, ti_ne, Classical.not_not, kt_7] at q
          omega
        have b5 : IV y2 0 6 := ⟨by have q1 := b_y2; have q2 := kc_7; omega, by have q1 := b_y2; have q2 := kc_7; omega⟩
        refine m_iload_n C dX11_nextOut_8 rfl rfl ?_
        refine m_iload_n C dX11_nextOut_9 rfl rfl ?_
        refine m_ishr C dX11_nextOut_10 ?_
        refine m_topi (fun x6 ex6 => ?_)
        refine m_iconst (v := 1) C dX11_nextOut_11 (by decide) ?_
        refine m_iand C dX11_nextOut_12 ?_
        refine m_topi (fun x7 ex7 => ?_)
        have b8 : IV x7 0 1 := by rw [ex7]; exact iv_and_r kc_1 (by decide)
        refine m_iconst (v := 1) C dX11_nextOut_13 (by decide) ?_
        refine m_icmp_ne (tgt := 34) C dX11_nextOut_14 (by decide) (fun c9 => ?_) (fun c9 => ?_)
        · have f10 : x7.toInt ≠ 1 := by
            have q : _ := c9
            simp only [ti_nle, ti_nlt, ti_le, ti_lt, ti_eq, ti_ne, Classical.not_not, kt_1] at q
            omega
          have b11 : IV x7 0 0 := ⟨by have q1 := b8; have q2 := kc_1; omega, by have q1 := b8; have q2 := kc_1; omega⟩
          obtain ⟨x12, ex12⟩ : ∃ y : Int32, y = y2 + 1 := ⟨_, rfl⟩
          have tx12 : x12.toInt = y2.toInt + 1 := by rw [ex12, ti_addv b5 kc_1 (by decide), kt_1]
          have b13 : IV x12 1 7 := by rw [ex12]; exact iv_add b5 kc_1 (by decide)
          refine m_iinc (v := x12) (L1 := [some (.ref (G.1 0 0)), some (.int a1), some (.int x12)]) C dX11_nextOut_34 rfl (by rw [ex12]; rfl) (by decide) rfl rfl ?_
          refine m_goto (tgt := 2) C dX11_nextOut_37 (by decide) ?_
          exact ih2 τ x12 iτ fτ b_a1 (iv_wk b13 (by decide)) (by have q := hm2; omega)
        · have f14 : x7.toInt = 1 := by
            have q : _ := c9
            simp only [ti_nle, ti_nlt, ti_le, ti_lt, ti_eq, ti_ne, Classical.not_not, kt_1] at q
            omega
          have b15 : IV x7 1 1 := ⟨by have q1 := b8; have q2 := kc_1; omega, by have q1 := b8; have q2 := kc_1; omega⟩
          refine m_aload_n C dX11_nextOut_17 rfl rfl ?_
          refine g_0_10 C q1_196 dX11_nextOut_18 ?_
          refine m_iload_n C dX11_nextOut_21 rfl rfl ?_
          refine m_iconst (v := 1) C dX11_nextOut_22 (by decide) ?_
          refine m_iload_n C dX11_nextOut_23 rfl rfl ?_
          refine m_ishl C dX11_nextOut_24 ?_
          refine m_topi (fun x16 ex16 => ?_)
          have b17 : IV x16 1 64 := by rw [ex16]; exact iv_shl1 b5 (by decide)
          refine m_iconst (v := (-1)) C dX11_nextOut_25 (by decide) ?_
          refine m_ixor C dX11_nextOut_26 ?_
          refine m_topi (fun x18 ex18 => ?_)
          refine m_iand C dX11_nextOut_27 ?_
          refine m_topi (fun x19 ex19 => ?_)
          have b20 : IV x19 0 127 := by rw [ex19]; exact iv_and_l b_a1 (by decide)
          refine al_10 C b20 (by decide) rfl dX11_nextOut_28 ?_
          refine m_topi (fun x21 ex21 => ?_)
          refine m_if_eq (tgt := 34) C dX11_nextOut_29 (by decide) (fun c22 => ?_) (fun c22 => ?_)
          · have f23 : x21.toInt = 0 := by
              have q : _ := c22
              simp only [ti_nle, ti_nlt, ti_le, ti_lt, ti_eq, ti_ne, Classical.not_not, kt_0] at q
              omega
            have b24 : IV x21 0 0 := ⟨by have q1 := (iv_any x21); have q2 := kc_0; omega, by have q1 := (iv_any x21); have q2 := kc_0; omega⟩
            obtain ⟨x25, ex25⟩ : ∃ y : Int32, y = y2 + 1 := ⟨_, rfl⟩
            have tx25 : x25.toInt = y2.toInt + 1 := by rw [ex25, ti_addv b5 kc_1 (by decide), kt_1]
            have b26 : IV x25 1 7 := by rw [ex25]; exact iv_add b5 kc_1 (by decide)
            refine m_iinc (v := x25) (L1 := [some (.ref (G.1 0 0)), some (.int a1), some (.int x25)]) C dX11_nextOut_34 rfl (by rw [ex25]; rfl) (by decide) rfl rfl ?_
            refine m_goto (tgt := 2) C dX11_nextOut_37 (by decide) ?_
            exact ih2 τ x25 iτ fτ b_a1 (iv_wk b26 (by decide)) (by have q := hm2; omega)
          · have f27 : x21.toInt ≠ 0 := by
              have q : _ := c22
              simp only [ti_nle, ti_nlt, ti_le, ti_lt, ti_eq, ti_ne, Classical.not_not, kt_0] at q
              omega
            refine m_iload_n C dX11_nextOut_32 rfl rfl ?_
            exact m_iret C hr hlk (by decide) (by decide) dX11_nextOut_33 ⟨_, rfl, iτ, fτ, (iv_wk b5 (by decide))⟩
  refine m_iconst (v := 0) C dX11_nextOut_0 (by decide) ?_
  refine m_istore_n (L1 := [some (.ref (G.1 0 0)), some (.int a1), some (.int 0)]) C dX11_nextOut_1 rfl (by decide) rfl rfl ?_
  exact J2 ((7 - (0 : Int32).toInt).toNat + 1) σ 0 hI Fr.rf ha1 (iv_wk kc_0 (by decide)) (Nat.lt_succ_self _)

abbrev MS_X11_findRescuable : List (Nat × Nat) := []
abbrev AS_X11_findRescuable : List Nat := [10]
set_option maxHeartbeats 4000000 in
set_option maxRecDepth 100000 in
theorem c_X11_findRescuable (l : Launch) (G : Gt) (σ : Sg) (a1 : Int32) (hI : Inv σ) (ha1 : IV a1 0 127) : Mc l G yX11_findRescuable cX11_findRescuable 4 none 3 68 0 0 [.ref (G.1 0 0), .int a1] σ (PV fun τ => Inv τ ∧ Fr MS_X11_findRescuable AS_X11_findRescuable σ τ) := by
  refine Mc.of (L0 := [some (.ref (G.1 0 0)), some (.int a1), none, none]) (by decide) (Nat.le_of_ble_eq_true rfl) rfl ?_
  intro p e s m args below meth c C hr hlk
  have C : Cx p s m args c cX11_findRescuable 4 "LeanTower" := C
  have k0 : (0 : Int32).toInt = 0 := by decide
  have k1 : (1 : Int32).toInt = 1 := by decide
  have J2 : ∀ (n : Nat) (τ : Sg) (y2 : Int32), Inv τ → Fr MS_X11_findRescuable AS_X11_findRescuable σ τ → IV a1 0 127 → IV y2 0 128 → (128 - y2.toInt).toNat < n → MW p l e { frames := 3, cells := 0, slots := 0, locals := 68 } s m args below meth c (MQ below (QP G (PV fun τ => Inv τ ∧ Fr MS_X11_findRescuable AS_X11_findRescuable σ τ)) args s 0 0 (aG G)) 4 G 0 0 2 [some (.ref (G.1 0 0)), some (.int a1), some (.int y2), none] [] τ := by
    intro n
    induction n with
    | zero => intro τ y2 iτ fτ b_a1 b_y2 hm; exact absurd hm (Nat.not_lt_zero _)
    | succ n ih2 =>
      intro τ y2 iτ fτ b_a1 b_y2 hm2
      have J38 : ∀ (τ : Sg) (z0 : Int32), Inv τ → Fr MS_X11_findRescuable AS_X11_findRescuable σ τ → IV a1 0 127 → IV y2 0 127 → IV z0 0 1 → MW p l e { frames := 3, cells := 0, slots := 0, locals := 68 } s m args below meth c (MQ below (QP G (PV fun τ => Inv τ ∧ Fr MS_X11_findRescuable AS_X11_findRescuable σ τ)) args s 0 0 (aG G)) 4 G 0 0 38 [some (.ref (G.1 0 0)), some (.int a1), some (.int y2), none] [.int z0] τ := by
        intro τ z0 iτ fτ b_a1 b_y2 b_z0
        refine m_istore_n (L1 := [some (.ref (G.1 0 0)), some (.int a1), some (.int y2), some (.int z0)]) C dX11_findRescuable_38 rfl (by decide) rfl rfl ?_
        refine m_aload_n C dX11_findRescuable_39 rfl rfl ?_
        refine g_0_10 C q1_196 dX11_findRescuable_40 ?_
        refine m_iload_n C dX11_findRescuable_43 rfl rfl ?_
        refine m_iload_n C dX11_findRescuable_44 rfl rfl ?_
        refine m_if_eq (tgt := 66) C dX11_findRescuable_45 (by decide) (fun c1 => ?_) (fun c1 => ?_)
        · have f2 : z0.toInt = 0 := by
            have q : _ := c1
            simp only [ti_nle, ti_nlt, ti_le, ti_lt, ti_eq, ti_ne, Classical.not_not, kt_0] at q
            omega
          have b3 : IV z0 0 0 := ⟨by have q1 := b_z0; have q2 := kc_0; omega, by have q1 := b_z0; have q2 := kc_0; omega⟩
          refine m_iconst (v := 0) C dX11_findRescuable_66 (by decide) ?_
          refine as_10 C b_y2 (by decide) rfl dX11_findRescuable_67 ?_
          obtain ⟨x4, ex4⟩ : ∃ y : Int32, y = vp_nar .boolean 0 := ⟨_, rfl⟩
          rw [← ex4]
          refine m_tops (fun τ5 eτ5 => ?_)
          have i6 : Inv τ5 := eτ5 ▸ Inv.putF iτ (by decide) rfl
          have f7 : Fr MS_X11_findRescuable AS_X11_findRescuable σ τ5 := eτ5 ▸ Fr.put (fτ) (Or.inr (by decide))
          obtain ⟨x8, ex8⟩ : ∃ y : Int32, y = y2 + 1 := ⟨_, rfl⟩
          have tx8 : x8.toInt = y2.toInt + 1 := by rw [ex8, ti_addv b_y2 kc_1 (by decide), kt_1]
          have b9 : IV x8 1 128 := by rw [ex8]; exact iv_add b_y2 kc_1 (by decide)
          refine m_iinc (v := x8) (L1 := [some (.ref (G.1 0 0)), some (.int a1), some (.int x8), some (.int z0)]) C dX11_findRescuable_68 rfl (by rw [ex8]; rfl) (by decide) rfl rfl ?_
          refine m_goto (tgt := 2) C dX11_findRescuable_71 (by decide) ?_
          refine m_sub (L1 := [some (.ref (G.1 0 0)), some (.int a1), some (.int x8), none]) ⟨rfl, ⟨rfl, ⟨rfl, trivial⟩⟩⟩ ?_
          exact ih2 τ5 x8 i6 f7 b_a1 (iv_wk b9 (by decide)) (by have q := hm2; omega)
        · have f10 : z0.toInt ≠ 0 := by
            have q : _ := c1
            simp only [ti_nle, ti_nlt, ti_le, ti_lt, ti_eq, ti_ne, Classical.not_not, kt_0] at q
            omega
          have b11 : IV z0 1 1 := ⟨by have q1 := b_z0; have q2 := kc_0; omega, by have q1 := b_z0; have q2 := kc_0; omega⟩
          refine m_iload_n C dX11_findRescuable_48 rfl rfl ?_
          refine m_if_eq (tgt := 62) C dX11_findRescuable_49 (by decide) (fun c12 => ?_) (fun c12 => ?_)
          · have f13 : y2.toInt = 0 := by
              have q : _ := c12
              simp only [ti_nle, ti_nlt, ti_le, ti_lt, ti_eq, ti_ne, Classical.not_not, kt_0] at q
              omega
            have b14 : IV y2 0 0 := ⟨by have q1 := b_y2; have q2 := kc_0; omega, by have q1 := b_y2; have q2 := kc_0; omega⟩
            refine m_iconst (v := 1) C dX11_findRescuable_62 (by decide) ?_
            refine m_goto (tgt := 67) C dX11_findRescuable_63 (by decide) ?_
            refine as_10 C b14 (by decide) rfl dX11_findRescuable_67 ?_
            obtain ⟨x15, ex15⟩ : ∃ y : Int32, y = vp_nar .boolean 1 := ⟨_, rfl⟩
            rw [← ex15]
            refine m_tops (fun τ16 eτ16 => ?_)
            have i17 : Inv τ16 := eτ16 ▸ Inv.putF iτ (by decide) rfl
            have f18 : Fr MS_X11_findRescuable AS_X11_findRescuable σ τ16 := eτ16 ▸ Fr.put (fτ) (Or.inr (by decide))
            obtain ⟨x19, ex19⟩ : ∃ y : Int32, y = y2 + 1 := ⟨_, rfl⟩
            have tx19 : x19.toInt = y2.toInt + 1 := by rw [ex19, ti_addv b14 kc_1 (by decide), kt_1]
            have b20 : IV x19 1 1 := by rw [ex19]; exact iv_add b14 kc_1 (by decide)
            refine m_iinc (v := x19) (L1 := [some (.ref (G.1 0 0)), some (.int a1), some (.int x19), some (.int z0)]) C dX11_findRescuable_68 rfl (by rw [ex19]; rfl) (by decide) rfl rfl ?_
            refine m_goto (tgt := 2) C dX11_findRescuable_71 (by decide) ?_
            refine m_sub (L1 := [some (.ref (G.1 0 0)), some (.int a1), some (.int x19), none]) ⟨rfl, ⟨rfl, ⟨rfl, trivial⟩⟩⟩ ?_
            exact ih2 τ16 x19 i17 f18 b_a1 (iv_wk b20 (by decide)) (by have q := hm2; omega)
          · have f21 : y2.toInt ≠ 0 := by
              have q : _ := c12
              simp only [ti_nle, ti_nlt, ti_le, ti_lt, ti_eq, ti_ne, Classical.not_not, kt_0] at q
              omega
            have b22 : IV y2 1 127 := ⟨by have q1 := b_y2; have q2 := kc_0; omega, by have q1 := b_y2; have q2 := kc_0; omega⟩
            refine m_aload_n C dX11_findRescuable_52 rfl rfl ?_
            refine m_iload_n C dX11_findRescuable_53 rfl rfl ?_
            refine m_callV (n := 1) (ci := 10) (st := [.int y2, .ref (G.1 10 0)]) C (c_X11_nextOut l G τ (y2) iτ (iv_wk b22 (by decide))) (by decide) (by decide) rfl rfl rfl q3_216 q3_213 q3_215 q0_23 q1_1 (by decide +kernel) rfl (by decide) (by decide) rfl (Nat.le_of_ble_eq_true rfl) dX11_findRescuable_54 ?_
            rintro _ τ23 ⟨x26, rfl, i24, f25, b27⟩
            have g28 : Fr MS_X11_findRescuable AS_X11_findRescuable σ τ23 := Fr.call (fτ) f25 (by decide)
            show MW p l e _ s m args below meth c _ 4 G 0 0 57 [some (.ref (G.1 0 0)), some (.int a1), some (.int y2), some (.int z0)] [.int x26, .int y2, .ref (G.1 10 0)] τ23
            refine m_ldc (v := (-1000000)) C dX11_findRescuable_57 q3_43 ?_
            refine m_icmp_eq (tgt := 66) C dX11_findRescuable_59 (by decide) (fun c30 => ?_) (fun c30 => ?_)
            · have f31 : x26.toInt = -1000000 := by
                have q : _ := c30
                simp only [ti_nle, ti_nlt, ti_le, ti_lt, ti_eq, ti_ne, Classical.not_not, kt_m1000000] at q
                omega
              have b32 : IV x26 (-1000000) (-1000000) := ⟨by have q1 := b27; have q2 := kc_m1000000; omega, by have q1 := b27; have q2 := kc_m1000000; omega⟩
              refine m_iconst (v := 0) C dX11_findRescuable_66 (by decide) ?_
              refine as_10 C b22 (by decide) rfl dX11_findRescuable_67 ?_
              obtain ⟨x33, ex33⟩ : ∃ y : Int32, y = vp_nar .boolean 0 := ⟨_, rfl⟩
              rw [← ex33]
              refine m_tops (fun τ34 eτ34 => ?_)
              have i35 : Inv τ34 := eτ34 ▸ Inv.putF i24 (by decide) rfl
              have f36 : Fr MS_X11_findRescuable AS_X11_findRescuable σ τ34 := eτ34 ▸ Fr.put (g28) (Or.inr (by decide))
              obtain ⟨x37, ex37⟩ : ∃ y : Int32, y = y2 + 1 := ⟨_, rfl⟩
              have tx37 : x37.toInt = y2.toInt + 1 := by rw [ex37, ti_addv b22 kc_1 (by decide), kt_1]
              have b38 : IV x37 2 128 := by rw [ex37]; exact iv_add b22 kc_1 (by decide)
              refine m_iinc (v := x37) (L1 := [some (.ref (G.1 0 0)), some (.int a1), some (.int x37), some (.int z0)]) C dX11_findRescuable_68 rfl (by rw [ex37]; rfl) (by decide) rfl rfl ?_
              refine m_goto (tgt := 2) C dX11_findRescuable_71 (by decide) ?_
              refine m_sub (L1 := [some (.ref (G.1 0 0)), some (.int a1), some (.int x37), none]) ⟨rfl, ⟨rfl, ⟨rfl, trivial⟩⟩⟩ ?_
              exact ih2 τ34 x37 i35 f36 b_a1 (iv_wk b38 (by decide)) (by have q := hm2; omega)
            · have f39 : x26.toInt ≠ -1000000 := by
                have q : _ := c30
                simp only [ti_nle, ti_nlt, ti_le, ti_lt, ti_eq, ti_ne, Classical.not_not, kt_m1000000] at q
                omega
              have b40 : IV x26 (-999999) 6 := ⟨by have q1 := b27; have q2 := kc_m1000000; omega, by have q1 := b27; have q2 := kc_m1000000; omega⟩
              refine m_iconst (v := 1) C dX11_findRescuable_62 (by decide) ?_
              refine m_goto (tgt := 67) C dX11_findRescuable_63 (by decide) ?_
              refine as_10 C b22 (by decide) rfl dX11_findRescuable_67 ?_
              obtain ⟨x41, ex41⟩ : ∃ y : Int32, y = vp_nar .boolean 1 := ⟨_, rfl⟩
              rw [← ex41]
              refine m_tops (fun τ42 eτ42 => ?_)
              have i43 : Inv τ42 := eτ42 ▸ Inv.putF i24 (by decide) rfl
              have f44 : Fr MS_X11_findRescuable AS_X11_findRescuable σ τ42 := eτ42 ▸ Fr.put (g28) (Or.inr (by decide))
              obtain ⟨x45, ex45⟩ : ∃ y : Int32, y = y2 + 1 := ⟨_, rfl⟩
              have tx45 : x45.toInt = y2.toInt + 1 := by rw [ex45, ti_addv b22 kc_1 (by decide), kt_1]
              have b46 : IV x45 2 128 := by rw [ex45]; exact iv_add b22 kc_1 (by decide)
              refine m_iinc (v := x45) (L1 := [some (.ref (G.1 0 0)), some (.int a1), some (.int x45), some (.int z0)]) C dX11_findRescuable_68 rfl (by rw [ex45]; rfl) (by decide) rfl rfl ?_
              refine m_goto (tgt := 2) C dX11_findRescuable_71 (by decide) ?_
              refine m_sub (L1 := [some (.ref (G.1 0 0)), some (.int a1), some (.int x45), none]) ⟨rfl, ⟨rfl, ⟨rfl, trivial⟩⟩⟩ ?_
              exact ih2 τ42 x45 i43 f44 b_a1 (iv_wk b46 (by decide)) (by have q := hm2; omega)
      refine m_iload_n C dX11_findRescuable_2 rfl rfl ?_
      refine m_iload_n C dX11_findRescuable_3 rfl rfl ?_
      refine m_icmp_gt (tgt := 74) C dX11_findRescuable_4 (by decide) (fun c47 => ?_) (fun c47 => ?_)
      · have f48 : a1.toInt < y2.toInt := by
          have q : _ := c47
          simp only [ti_nle, ti_nlt, ti_le, ti_lt, ti_eq, ti_ne, Classical.not_not] at q
          omega
        have b49 : IV y2 1 128 := ⟨by have q1 := b_a1; have q2 := b_y2; omega, by have q1 := b_a1; have q2 := b_y2; omega⟩
        exact m_vret C hr hlk (by decide) (by decide) dX11_findRescuable_74 ⟨rfl, iτ, fτ⟩
      · have f50 : y2.toInt ≤ a1.toInt := by
          have q : _ := c47
          simp only [ti_nle, ti_nlt, ti_le, ti_lt, ti_eq, ti_ne, Classical.not_not] at q
          omega
        have b51 : IV y2 0 127 := ⟨by have q1 := b_y2; have q2 := b_a1; omega, by have q1 := b_y2; have q2 := b_a1; omega⟩
        refine m_iload_n C dX11_findRescuable_7 rfl rfl ?_
        refine m_iload_n C dX11_findRescuable_8 rfl rfl ?_
        refine m_iconst (v := (-1)) C dX11_findRescuable_9 (by decide) ?_
        refine m_ixor C dX11_findRescuable_10 ?_
        refine m_topi (fun x52 ex52 => ?_)
        refine m_iand C dX11_findRescuable_11 ?_
        refine m_topi (fun x53 ex53 => ?_)
        have b54 : IV x53 0 127 := by rw [ex53]; exact iv_and_l b51 (by decide)
        refine m_if_ne (tgt := 37) C dX11_findRescuable_12 (by decide) (fun c55 => ?_) (fun c55 => ?_)
        · have f56 : x53.toInt ≠ 0 := by
            have q : _ := c55
            simp only [ti_nle, ti_nlt, ti_le, ti_lt, ti_eq, ti_ne, Classical.not_not, kt_0] at q
            omega
          have b57 : IV x53 1 127 := ⟨by have q1 := b54; have q2 := kc_0; omega, by have q1 := b54; have q2 := kc_0; omega⟩
          refine m_iconst (v := 0) C dX11_findRescuable_37 (by decide) ?_
          exact J38 τ 0 iτ fτ b_a1 b51 (iv_wk kc_0 (by decide))
        · have f58 : x53.toInt = 0 := by
            have q : _ := c55
            simp only [ti_nle, ti_nlt, ti_le, ti_lt, ti_eq, ti_ne, Classical.not_not, kt_0] at q
            omega
          have b59 : IV x53 0 0 := ⟨by have q1 := b54; have q2 := kc_0; omega, by have q1 := b54; have q2 := kc_0; omega⟩
          refine m_aload_n C dX11_findRescuable_15 rfl rfl ?_
          refine g_0_2 C q1_188 dX11_findRescuable_16 ?_
          refine m_iload_n C dX11_findRescuable_19 rfl rfl ?_
          refine m_callV (n := 1) (ci := 7) (st := []) C (c_X8_tiltWith l G τ (j := 0) (by decide) (y2) iτ ) (by decide) (by decide) rfl rfl rfl q3_78 q3_212 q3_76 q3_77 q1_3 (by decide +kernel) rfl (by decide) (by decide) rfl (Nat.le_of_ble_eq_true rfl) dX11_findRescuable_20 ?_
          rintro _ τ60 ⟨x63, rfl, i61, f62, b64⟩
          have g65 : Fr MS_X11_findRescuable AS_X11_findRescuable σ τ60 := Fr.call (fτ) f62 (by decide)
          show MW p l e _ s m args below meth c _ 4 G 0 0 23 [some (.ref (G.1 0 0)), some (.int a1), some (.int y2), none] [.int x63] τ60
          refine m_aload_n C dX11_findRescuable_23 rfl rfl ?_
          refine g_0_2 C q1_188 dX11_findRescuable_24 ?_
          refine g_1_1 C (by decide) q1_79 dX11_findRescuable_27 ?_
          refine m_topi (fun x67 ex67 => ?_)
          refine m_icmp_gt (tgt := 37) C dX11_findRescuable_30 (by decide) (fun c68 => ?_) (fun c68 => ?_)
          · have f69 : x67.toInt < x63.toInt := by
              have q : _ := c68
              simp only [ti_nle, ti_nlt, ti_le, ti_lt, ti_eq, ti_ne, Classical.not_not] at q
              omega
            have b70 : IV x67 (-2147483648) 2147483646 := ⟨by have q1 := (iv_any x67); have q2 := b64; omega, by have q1 := (iv_any x67); have q2 := b64; omega⟩
            have b71 : IV x63 (-2147483647) 2147483647 := ⟨by have q1 := (iv_any x67); have q2 := b64; omega, by have q1 := (iv_any x67); have q2 := b64; omega⟩
            refine m_iconst (v := 0) C dX11_findRescuable_37 (by decide) ?_
            exact J38 τ60 0 i61 g65 b_a1 b51 (iv_wk kc_0 (by decide))
          · have f72 : x63.toInt ≤ x67.toInt := by
              have q : _ := c68
              simp only [ti_nle, ti_nlt, ti_le, ti_lt, ti_eq, ti_ne, Classical.not_not] at q
              omega
            refine m_iconst (v := 1) C dX11_findRescuable_33 (by decide) ?_
            refine m_goto (tgt := 38) C dX11_findRescuable_34 (by decide) ?_
            exact J38 τ60 1 i61 g65 b_a1 b51 (iv_wk kc_1 (by decide))
  refine m_iconst (v := 0) C dX11_findRescuable_0 (by decide) ?_
  refine m_istore_n (L1 := [some (.ref (G.1 0 0)), some (.int a1), some (.int 0), none]) C dX11_findRescuable_1 rfl (by decide) rfl rfl ?_
  exact J2 ((128 - (0 : Int32).toInt).toNat + 1) σ 0 hI Fr.rf ha1 (iv_wk kc_0 (by decide)) (Nat.lt_succ_self _)

abbrev MS_X11_rescue : List (Nat × Nat) := []
abbrev AS_X11_rescue : List Nat := [10]
set_option maxHeartbeats 4000000 in
set_option maxRecDepth 100000 in
theorem c_X11_rescue (l : Launch) (G : Gt) (σ : Sg) (a1 : Int32) (hI : Inv σ) : Mc l G yX11_rescue cX11_rescue 5 (some .int) 4 91 0 0 [.ref (G.1 0 0), .int a1] σ (PI fun r τ => Inv τ ∧ Fr MS_X11_rescue AS_X11_rescue σ τ ∧ IV r (-1000002) 6) := by
  refine Mc.of (L0 := [some (.ref (G.1 0 0)), some (.int a1), none, none, none]) (by decide) (Nat.le_of_ble_eq_true rfl) rfl ?_
  intro p e s m args below meth c C hr hlk
  have C : Cx p s m args c cX11_rescue 5 "LeanTower" := C
  have k0 : (0 : Int32).toInt = 0 := by decide
  have k1 : (1 : Int32).toInt = 1 := by decide
  have J47 : ∀ (n : Nat) (τ : Sg) (y2 : Int32) (y3 : Int32), Inv τ → Fr MS_X11_rescue AS_X11_rescue σ τ → IV a1 0 2147483647 → IV y2 0 127 → IV y3 0 7 → (7 - y3.toInt).toNat < n → MW p l e { frames := 4, cells := 0, slots := 0, locals := 91 } s m args below meth c (MQ below (QP G (PI fun r τ => Inv τ ∧ Fr MS_X11_rescue AS_X11_rescue σ τ ∧ IV r (-1000002) 6)) args s 0 0 (aG G)) 5 G 0 0 47 [some (.ref (G.1 0 0)), some (.int a1), some (.int y2), some (.int y3), none] [] τ := by
    intro n
    induction n with
    | zero => intro τ y2 y3 iτ fτ b_a1 b_y2 b_y3 hm; exact absurd hm (Nat.not_lt_zero _)
    | succ n ih47 =>
      intro τ y2 y3 iτ fτ b_a1 b_y2 b_y3 hm47
      refine m_iload_n C dX11_rescue_47 rfl rfl ?_
      refine m_if_eq (tgt := 87) C dX11_rescue_48 (by decide) (fun c1 => ?_) (fun c1 => ?_)
      · have f2 : y2.toInt = 0 := by
          have q : _ := c1
          simp only [ti_nle, ti_nlt, ti_le, ti_lt, ti_eq, ti_ne, Classical.not_not, kt_0] at q
          omega
        have b3 : IV y2 0 0 := ⟨by have q1 := b_y2; have q2 := kc_0; omega, by have q1 := b_y2; have q2 := kc_0; omega⟩
        refine m_ldc (v := (-1000000)) C dX11_rescue_87 q3_43 ?_
        exact m_iret C hr hlk (by decide) (by decide) dX11_rescue_89 ⟨_, rfl, iτ, fτ, (iv_wk kc_m1000000 (by decide))⟩
      · have f4 : y2.toInt ≠ 0 := by
          have q : _ := c1
          simp only [ti_nle, ti_nlt, ti_le, ti_lt, ti_eq, ti_ne, Classical.not_not, kt_0] at q
          omega
        have b5 : IV y2 1 127 := ⟨by have q1 := b_y2; have q2 := kc_0; omega, by have q1 := b_y2; have q2 := kc_0; omega⟩
        refine m_iload_n C dX11_rescue_51 rfl rfl ?_
        refine m_bipush (v := 7) C dX11_rescue_52 (by decide) ?_
        refine m_icmp_ge (tgt := 87) C dX11_rescue_54 (by decide) (fun c6 => ?_) (fun c6 => ?_)
        · have f7 : 7 ≤ y3.toInt := by
            have q : _ := c6
            simp only [ti_nle, ti_nlt, ti_le, ti_lt, ti_eq, ti_ne, Classical.not_not, kt_7] at q
            omega
          have b8 : IV y3 7 7 := ⟨by have q1 := kc_7; have q2 := b_y3; omega, by have q1 := kc_7; have q2 := b_y3; omega⟩
          refine m_ldc (v := (-1000000)) C dX11_rescue_87 q3_43 ?_
          exact m_iret C hr hlk (by decide) (by decide) dX11_rescue_89 ⟨_, rfl, iτ, fτ, (iv_wk kc_m1000000 (by decide))⟩
        · have f9 : y3.toInt < 7 := by
            have q : _ := c6
            simp only [ti_nle, ti_nlt, ti_le, ti_lt, ti_eq, ti_ne, Classical.not_not, kt_7] at q
            omega
          have b10 : IV y3 0 6 := ⟨by have q1 := b_y3; have q2 := kc_7; omega, by have q1 := b_y3; have q2 := kc_7; omega⟩
          refine m_aload_n C dX11_rescue_57 rfl rfl ?_
          refine m_iload_n C dX11_rescue_58 rfl rfl ?_
          refine m_callV (n := 1) (ci := 10) (st := []) C (c_X11_nextOut l G τ (y2) iτ (iv_wk b5 (by decide))) (by decide) (by decide) rfl rfl rfl q3_216 q3_213 q3_215 q0_23 q1_1 (by decide +kernel) rfl (by decide) (by decide) rfl (Nat.le_of_ble_eq_true rfl) dX11_rescue_59 ?_
          rintro _ τ11 ⟨x14, rfl, i12, f13, b15⟩
          have g16 : Fr MS_X11_rescue AS_X11_rescue σ τ11 := Fr.call (fτ) f13 (by decide)
          show MW p l e _ s m args below meth c _ 5 G 0 0 62 [some (.ref (G.1 0 0)), some (.int a1), some (.int y2), some (.int y3), none] [.int x14] τ11
          refine m_istore (L1 := [some (.ref (G.1 0 0)), some (.int a1), some (.int y2), some (.int y3), some (.int x14)]) C dX11_rescue_62 (by decide) rfl rfl ?_
          refine m_iload_n C dX11_rescue_64 rfl rfl ?_
          refine m_iload_n C dX11_rescue_65 rfl rfl ?_
          refine m_icmp_ne (tgt := 72) C dX11_rescue_66 (by decide) (fun c18 => ?_) (fun c18 => ?_)
          · have f19 : y3.toInt ≠ a1.toInt := by
              have q : _ := c18
              simp only [ti_nle, ti_nlt, ti_le, ti_lt, ti_eq, ti_ne, Classical.not_not] at q
              omega
            refine m_iload_n C dX11_rescue_72 rfl rfl ?_
            refine m_iconst (v := 1) C dX11_rescue_73 (by decide) ?_
            refine m_iload C dX11_rescue_74 rfl ?_
            refine m_ishl C dX11_rescue_76 ?_
            refine m_topi (fun x20 ex20 => ?_)
            refine m_iconst (v := (-1)) C dX11_rescue_77 (by decide) ?_
            refine m_ixor C dX11_rescue_78 ?_
            refine m_topi (fun x21 ex21 => ?_)
            refine m_iand C dX11_rescue_79 ?_
            refine m_topi (fun x22 ex22 => ?_)
            have b23 : IV x22 0 127 := by rw [ex22]; exact iv_and_l b5 (by decide)
            refine m_istore_n (L1 := [some (.ref (G.1 0 0)), some (.int a1), some (.int x22), some (.int y3), some (.int x14)]) C dX11_rescue_80 rfl (by decide) rfl rfl ?_
            obtain ⟨x24, ex24⟩ : ∃ y : Int32, y = y3 + 1 := ⟨_, rfl⟩
            have tx24 : x24.toInt = y3.toInt + 1 := by rw [ex24, ti_addv b10 kc_1 (by decide), kt_1]
            have b25 : IV x24 1 7 := by rw [ex24]; exact iv_add b10 kc_1 (by decide)
            refine m_iinc (v := x24) (L1 := [some (.ref (G.1 0 0)), some (.int a1), some (.int x22), some (.int x24), some (.int x14)]) C dX11_rescue_81 rfl (by rw [ex24]; rfl) (by decide) rfl rfl ?_
            refine m_goto (tgt := 47) C dX11_rescue_84 (by decide) ?_
            refine m_sub (L1 := [some (.ref (G.1 0 0)), some (.int a1), some (.int x22), some (.int x24), none]) ⟨rfl, ⟨rfl, ⟨rfl, ⟨rfl, trivial⟩⟩⟩⟩ ?_
            exact ih47 τ11 x22 x24 i12 g16 b_a1 b23 (iv_wk b25 (by decide)) (by have q := hm47; omega)
          · have f26 : y3.toInt = a1.toInt := by
              have q : _ := c18
              simp only [ti_nle, ti_nlt, ti_le, ti_lt, ti_eq, ti_ne, Classical.not_not] at q
              omega
            have b27 : IV a1 0 6 := ⟨by have q1 := b10; have q2 := b_a1; omega, by have q1 := b10; have q2 := b_a1; omega⟩
            refine m_iload C dX11_rescue_69 rfl ?_
            exact m_iret C hr hlk (by decide) (by decide) dX11_rescue_71 ⟨_, rfl, i12, g16, (iv_wk b15 (by decide))⟩
  refine m_aload_n C dX11_rescue_0 rfl rfl ?_
  refine g_0_2 C q1_188 dX11_rescue_1 ?_
  refine m_callV (n := 0) (ci := 7) (st := []) C (c_X8_stands l G σ (j := 0) (by decide)  hI ) (by decide) (by decide) rfl rfl rfl q3_41 q3_38 q3_39 q3_40 q1_3 (by decide +kernel) rfl (by decide) (by decide) rfl (Nat.le_of_ble_eq_true rfl) dX11_rescue_4 ?_
  rintro _ τ28 ⟨x31, rfl, i29, f30, b32⟩
  have g33 : Fr MS_X11_rescue AS_X11_rescue σ τ28 := Fr.call (Fr.rf) f30 (by decide)
  show MW p l e _ s m args below meth c _ 5 G 0 0 7 [some (.ref (G.1 0 0)), some (.int a1), none, none, none] [.int x31] τ28
  refine m_if_ne (tgt := 13) C dX11_rescue_7 (by decide) (fun c35 => ?_) (fun c35 => ?_)
  · have f36 : x31.toInt ≠ 0 := by
      have q : _ := c35
      simp only [ti_nle, ti_nlt, ti_le, ti_lt, ti_eq, ti_ne, Classical.not_not, kt_0] at q
      omega
    have b37 : IV x31 1 1 := ⟨by have q1 := b32; have q2 := kc_0; omega, by have q1 := b32; have q2 := kc_0; omega⟩
    refine m_iload_n C dX11_rescue_13 rfl rfl ?_
    refine m_if_ge (tgt := 20) C dX11_rescue_14 (by decide) (fun c38 => ?_) (fun c38 => ?_)
    · have f39 : 0 ≤ a1.toInt := by
        have q : _ := c38
        simp only [ti_nle, ti_nlt, ti_le, ti_lt, ti_eq, ti_ne, Classical.not_not, kt_0] at q
        omega
      have b40 : IV a1 0 2147483647 := ⟨by have q1 := kc_0; have q2 := (iv_any a1); omega, by have q1 := kc_0; have q2 := (iv_any a1); omega⟩
      refine m_aload_n C dX11_rescue_20 rfl rfl ?_
      refine g_0_2 C q1_188 dX11_rescue_21 ?_
      refine m_callV (n := 0) (ci := 7) (st := []) C (c_X8_insideSet l G τ28 (j := 0) (by decide)  i29 ) (by decide) (by decide) rfl rfl rfl q3_206 q3_203 q3_204 q3_205 q1_3 (by decide +kernel) rfl (by decide) (by decide) rfl (Nat.le_of_ble_eq_true rfl) dX11_rescue_24 ?_
      rintro _ τ41 ⟨x44, rfl, i42, f43, b45⟩
      have g46 : Fr MS_X11_rescue AS_X11_rescue σ τ41 := Fr.call (g33) f43 (by decide)
      show MW p l e _ s m args below meth c _ 5 G 0 0 27 [some (.ref (G.1 0 0)), some (.int a1), none, none, none] [.int x44] τ41
      refine m_istore_n (L1 := [some (.ref (G.1 0 0)), some (.int a1), some (.int x44), none, none]) C dX11_rescue_27 rfl (by decide) rfl rfl ?_
      refine m_aload_n C dX11_rescue_28 rfl rfl ?_
      refine m_iload_n C dX11_rescue_29 rfl rfl ?_
      refine m_callV (n := 1) (ci := 10) (st := []) C (c_X11_findRescuable l G τ41 (x44) i42 b45) (by decide) (by decide) rfl rfl rfl q3_211 q3_208 q3_210 q0_22 q1_1 (by decide +kernel) rfl (by decide) (by decide) rfl (Nat.le_of_ble_eq_true rfl) dX11_rescue_30 ?_
      rintro _ τ48 ⟨rfl, i49, f50⟩
      have g53 : Fr MS_X11_rescue AS_X11_rescue σ τ48 := Fr.call (g46) f50 (by decide)
      show MW p l e _ s m args below meth c _ 5 G 0 0 33 [some (.ref (G.1 0 0)), some (.int a1), some (.int x44), none, none] [] τ48
      refine m_aload_n C dX11_rescue_33 rfl rfl ?_
      refine g_0_10 C q1_196 dX11_rescue_34 ?_
      refine m_iload_n C dX11_rescue_37 rfl rfl ?_
      refine al_10 C b45 (by decide) rfl dX11_rescue_38 ?_
      refine m_topi (fun x55 ex55 => ?_)
      refine m_if_ne (tgt := 45) C dX11_rescue_39 (by decide) (fun c56 => ?_) (fun c56 => ?_)
      · have f57 : x55.toInt ≠ 0 := by
          have q : _ := c56
          simp only [ti_nle, ti_nlt, ti_le, ti_lt, ti_eq, ti_ne, Classical.not_not, kt_0] at q
          omega
        refine m_iconst (v := 0) C dX11_rescue_45 (by decide) ?_
        refine m_istore_n (L1 := [some (.ref (G.1 0 0)), some (.int a1), some (.int x44), some (.int 0), none]) C dX11_rescue_46 rfl (by decide) rfl rfl ?_
        exact J47 ((7 - (0 : Int32).toInt).toNat + 1) τ48 x44 0 i49 g53 b40 b45 (iv_wk kc_0 (by decide)) (Nat.lt_succ_self _)
      · have f58 : x55.toInt = 0 := by
          have q : _ := c56
          simp only [ti_nle, ti_nlt, ti_le, ti_lt, ti_eq, ti_ne, Classical.not_not, kt_0] at q
          omega
        have b59 : IV x55 0 0 := ⟨by have q1 := (iv_any x55); have q2 := kc_0; omega, by have q1 := (iv_any x55); have q2 := kc_0; omega⟩
        refine m_ldc (v := (-1000000)) C dX11_rescue_42 q3_43 ?_
        exact m_iret C hr hlk (by decide) (by decide) dX11_rescue_44 ⟨_, rfl, i49, g53, (iv_wk kc_m1000000 (by decide))⟩
    · have f60 : a1.toInt < 0 := by
        have q : _ := c38
        simp only [ti_nle, ti_nlt, ti_le, ti_lt, ti_eq, ti_ne, Classical.not_not, kt_0] at q
        omega
      have b61 : IV a1 (-2147483648) (-1) := ⟨by have q1 := (iv_any a1); have q2 := kc_0; omega, by have q1 := (iv_any a1); have q2 := kc_0; omega⟩
      refine m_ldc (v := (-1000001)) C dX11_rescue_17 q1_234 ?_
      exact m_iret C hr hlk (by decide) (by decide) dX11_rescue_19 ⟨_, rfl, i29, g33, (iv_wk kc_m1000001 (by decide))⟩
  · have f62 : x31.toInt = 0 := by
      have q : _ := c35
      simp only [ti_nle, ti_nlt, ti_le, ti_lt, ti_eq, ti_ne, Classical.not_not, kt_0] at q
      omega
    have b63 : IV x31 0 0 := ⟨by have q1 := b32; have q2 := kc_0; omega, by have q1 := b32; have q2 := kc_0; omega⟩
    refine m_ldc (v := (-1000002)) C dX11_rescue_10 q3_42 ?_
    exact m_iret C hr hlk (by decide) (by decide) dX11_rescue_12 ⟨_, rfl, i29, g33, (iv_wk kc_m1000002 (by decide))⟩

abbrev MS_X11_fall : List (Nat × Nat) := [(1, 0), (1, 1), (1, 2), (1, 3), (1, 9), (1, 10), (1, 11)]
abbrev AS_X11_fall : List Nat := [2, 3, 4, 5, 6]
set_option maxHeartbeats 4000000 in
set_option maxRecDepth 100000 in
theorem c_X11_fall (l : Launch) (G : Gt) (σ : Sg) (hI : Inv σ) : Mc l G yX11_fall cX11_fall 2 (some .int) 4 88 0 0 [.ref (G.1 0 0)] σ (PI fun r τ => Inv τ ∧ Fr MS_X11_fall AS_X11_fall σ τ ∧ IV r (-1000002) 99) := by
  refine Mc.of (L0 := [some (.ref (G.1 0 0)), none]) (by decide) (Nat.le_of_ble_eq_true rfl) rfl ?_
  intro p e s m args below meth c C hr hlk
  have C : Cx p s m args c cX11_fall 2 "LeanTower" := C
  have k0 : (0 : Int32).toInt = 0 := by decide
  have k1 : (1 : Int32).toInt = 1 := by decide
  have J26 : ∀ (n : Nat) (τ : Sg) (y1 : Int32), Inv τ → Fr MS_X11_fall AS_X11_fall σ τ → IV y1 0 100 → (100 - y1.toInt).toNat < n → MW p l e { frames := 4, cells := 0, slots := 0, locals := 88 } s m args below meth c (MQ below (QP G (PI fun r τ => Inv τ ∧ Fr MS_X11_fall AS_X11_fall σ τ ∧ IV r (-1000002) 99)) args s 0 0 (aG G)) 2 G 0 0 26 [some (.ref (G.1 0 0)), some (.int y1)] [] τ := by
    intro n
    induction n with
    | zero => intro τ y1 iτ fτ b_y1 hm; exact absurd hm (Nat.not_lt_zero _)
    | succ n ih26 =>
      intro τ y1 iτ fτ b_y1 hm26
      refine m_iload_n C dX11_fall_26 rfl rfl ?_
      refine m_bipush (v := 99) C dX11_fall_27 (by decide) ?_
      refine m_icmp_gt (tgt := 57) C dX11_fall_29 (by decide) (fun c1 => ?_) (fun c1 => ?_)
      · have f2 : 99 < y1.toInt := by
          have q : _ := c1
          simp only [ti_nle, ti_nlt, ti_le, ti_lt, ti_eq, ti_ne, Classical.not_not, kt_99] at q
          omega
        have b3 : IV y1 100 100 := ⟨by have q1 := kc_99; have q2 := b_y1; omega, by have q1 := kc_99; have q2 := b_y1; omega⟩
        refine m_ldc (v := (-1000000)) C dX11_fall_57 q3_43 ?_
        exact m_iret C hr hlk (by decide) (by decide) dX11_fall_59 ⟨_, rfl, iτ, fτ, (iv_wk kc_m1000000 (by decide))⟩
      · have f4 : y1.toInt ≤ 99 := by
          have q : _ := c1
          simp only [ti_nle, ti_nlt, ti_le, ti_lt, ti_eq, ti_ne, Classical.not_not, kt_99] at q
          omega
        have b5 : IV y1 0 99 := ⟨by have q1 := b_y1; have q2 := kc_99; omega, by have q1 := b_y1; have q2 := kc_99; omega⟩
        refine m_aload_n C dX11_fall_32 rfl rfl ?_
        refine g_0_3 C q1_189 dX11_fall_33 ?_
        refine m_callV (n := 0) (ci := 7) (st := []) C (c_X8_isBeyond l G τ (j := 1) (by decide)  iτ ) (by decide) (by decide) rfl rfl rfl q3_74 q3_71 q3_72 q3_73 q1_3 (by decide +kernel) rfl (by decide) (by decide) rfl (Nat.le_of_ble_eq_true rfl) dX11_fall_36 ?_
        rintro _ τ6 ⟨x9, rfl, i7, f8, b10⟩
        have g11 : Fr MS_X11_fall AS_X11_fall σ τ6 := Fr.call (fτ) f8 (by decide)
        show MW p l e _ s m args below meth c _ 2 G 0 0 39 [some (.ref (G.1 0 0)), some (.int y1)] [.int x9] τ6
        refine m_if_eq (tgt := 44) C dX11_fall_39 (by decide) (fun c13 => ?_) (fun c13 => ?_)
        · have f14 : x9.toInt = 0 := by
            have q : _ := c13
            simp only [ti_nle, ti_nlt, ti_le, ti_lt, ti_eq, ti_ne, Classical.not_not, kt_0] at q
            omega
          have b15 : IV x9 0 0 := ⟨by have q1 := b10; have q2 := kc_0; omega, by have q1 := b10; have q2 := kc_0; omega⟩
          refine m_aload_n C dX11_fall_44 rfl rfl ?_
          refine g_0_3 C q1_189 dX11_fall_45 ?_
          refine m_callV (n := 0) (ci := 7) (st := []) C (c_X8_passYear l G τ6 (j := 1) (by decide)  i7 ) (by decide) (by decide) rfl rfl rfl q3_102 q3_99 q3_100 q3_101 q1_3 (by decide +kernel) rfl (by decide) (by decide) rfl (Nat.le_of_ble_eq_true rfl) dX11_fall_48 ?_
          rintro _ τ16 ⟨rfl, i17, f18⟩
          have g21 : Fr MS_X11_fall AS_X11_fall σ τ16 := Fr.call (g11) f18 (by decide)
          show MW p l e _ s m args below meth c _ 2 G 0 0 51 [some (.ref (G.1 0 0)), some (.int y1)] [] τ16
          obtain ⟨x23, ex23⟩ : ∃ y : Int32, y = y1 + 1 := ⟨_, rfl⟩
          have tx23 : x23.toInt = y1.toInt + 1 := by rw [ex23, ti_addv b5 kc_1 (by decide), kt_1]
          have b24 : IV x23 1 100 := by rw [ex23]; exact iv_add b5 kc_1 (by decide)
          refine m_iinc (v := x23) (L1 := [some (.ref (G.1 0 0)), some (.int x23)]) C dX11_fall_51 rfl (by rw [ex23]; rfl) (by decide) rfl rfl ?_
          refine m_goto (tgt := 26) C dX11_fall_54 (by decide) ?_
          exact ih26 τ16 x23 i17 g21 (iv_wk b24 (by decide)) (by have q := hm26; omega)
        · have f25 : x9.toInt ≠ 0 := by
            have q : _ := c13
            simp only [ti_nle, ti_nlt, ti_le, ti_lt, ti_eq, ti_ne, Classical.not_not, kt_0] at q
            omega
          have b26 : IV x9 1 1 := ⟨by have q1 := b10; have q2 := kc_0; omega, by have q1 := b10; have q2 := kc_0; omega⟩
          refine m_iload_n C dX11_fall_42 rfl rfl ?_
          exact m_iret C hr hlk (by decide) (by decide) dX11_fall_43 ⟨_, rfl, i7, g11, (iv_wk b5 (by decide))⟩
  refine m_aload_n C dX11_fall_0 rfl rfl ?_
  refine g_0_2 C q1_188 dX11_fall_1 ?_
  refine m_callV (n := 0) (ci := 7) (st := []) C (c_X8_stands l G σ (j := 0) (by decide)  hI ) (by decide) (by decide) rfl rfl rfl q3_41 q3_38 q3_39 q3_40 q1_3 (by decide +kernel) rfl (by decide) (by decide) rfl (Nat.le_of_ble_eq_true rfl) dX11_fall_4 ?_
  rintro _ τ27 ⟨x30, rfl, i28, f29, b31⟩
  have g32 : Fr MS_X11_fall AS_X11_fall σ τ27 := Fr.call (Fr.rf) f29 (by decide)
  show MW p l e _ s m args below meth c _ 2 G 0 0 7 [some (.ref (G.1 0 0)), none] [.int x30] τ27
  refine m_if_ne (tgt := 13) C dX11_fall_7 (by decide) (fun c34 => ?_) (fun c34 => ?_)
  · have f35 : x30.toInt ≠ 0 := by
      have q : _ := c34
      simp only [ti_nle, ti_nlt, ti_le, ti_lt, ti_eq, ti_ne, Classical.not_not, kt_0] at q
      omega
    have b36 : IV x30 1 1 := ⟨by have q1 := b31; have q2 := kc_0; omega, by have q1 := b31; have q2 := kc_0; omega⟩
    refine m_aload_n C dX11_fall_13 rfl rfl ?_
    refine g_0_3 C q1_189 dX11_fall_14 ?_
    refine m_aload_n C dX11_fall_17 rfl rfl ?_
    refine g_0_2 C q1_188 dX11_fall_18 ?_
    refine m_callV (n := 1) (ci := 7) (st := []) C (c_X8_takeFrom l G τ27 (j := 1) (by decide) (j2 := 0) (by decide) i28 ) (by decide) (by decide) rfl rfl rfl q3_9 q3_6 q3_7 q3_8 q1_3 (by decide +kernel) rfl (by decide) (by decide) rfl (Nat.le_of_ble_eq_true rfl) dX11_fall_21 ?_
    rintro _ τ37 ⟨rfl, i38, f39⟩
    have g42 : Fr MS_X11_fall AS_X11_fall σ τ37 := Fr.call (g32) f39 (by decide)
    show MW p l e _ s m args below meth c _ 2 G 0 0 24 [some (.ref (G.1 0 0)), none] [] τ37
    refine m_iconst (v := 0) C dX11_fall_24 (by decide) ?_
    refine m_istore_n (L1 := [some (.ref (G.1 0 0)), some (.int 0)]) C dX11_fall_25 rfl (by decide) rfl rfl ?_
    exact J26 ((100 - (0 : Int32).toInt).toNat + 1) τ37 0 i38 g42 (iv_wk kc_0 (by decide)) (Nat.lt_succ_self _)
  · have f44 : x30.toInt = 0 := by
      have q : _ := c34
      simp only [ti_nle, ti_nlt, ti_le, ti_lt, ti_eq, ti_ne, Classical.not_not, kt_0] at q
      omega
    have b45 : IV x30 0 0 := ⟨by have q1 := b31; have q2 := kc_0; omega, by have q1 := b31; have q2 := kc_0; omega⟩
    refine m_ldc (v := (-1000002)) C dX11_fall_10 q3_42 ?_
    exact m_iret C hr hlk (by decide) (by decide) dX11_fall_12 ⟨_, rfl, i28, g32, (iv_wk kc_m1000002 (by decide))⟩

abbrev MS_X11_bells : List (Nat × Nat) := [(0, 12), (16, 2), (16, 4)]
abbrev AS_X11_bells : List Nat := [17, 18, 19]
set_option maxHeartbeats 4000000 in
set_option maxRecDepth 100000 in
theorem c_X11_bells (l : Launch) (G : Gt) (σ : Sg) (a1 : Int32) (a2 : Int32) (a3 : Int32) (hI : Inv σ) : Mc l G yX11_bells cX11_bells 5 (some .int) 8 245 0 0 [.ref (G.1 0 0), .int a1, .int a2, .int a3] σ (PI fun r τ => Inv τ ∧ Fr MS_X11_bells AS_X11_bells σ τ ∧ IV r (-2147483648) 2147483647) := by
  refine Mc.of (L0 := [some (.ref (G.1 0 0)), some (.int a1), some (.int a2), some (.int a3), none]) (by decide) (Nat.le_of_ble_eq_true rfl) rfl ?_
  intro p e s m args below meth c C hr hlk
  have C : Cx p s m args c cX11_bells 5 "LeanTower" := C
  have k0 : (0 : Int32).toInt = 0 := by decide
  have k1 : (1 : Int32).toInt = 1 := by decide
  refine m_aload_n C dX11_bells_0 rfl rfl ?_
  refine m_iload_n C dX11_bells_1 rfl rfl ?_
  refine m_callV (n := 1) (ci := 10) (st := []) C (c_X11_rowAt l G σ (a1) hI ) (by decide) (by decide) rfl rfl rfl q1_233 q1_230 q1_232 q0_0 q1_1 (by decide +kernel) rfl (by decide) (by decide) rfl (Nat.le_of_ble_eq_true rfl) dX11_bells_2 ?_
  rintro _ τ1 ⟨x4, rfl, i2, f3, h7⟩
  have g6 : Fr MS_X11_bells AS_X11_bells σ τ1 := Fr.call (Fr.rf) f3 (by decide)
  rcases h7 with ⟨rfl, x4q⟩ | ⟨rfl, x4q⟩
  · skip
    show MW p l e _ s m args below meth c _ 5 G 0 0 5 [some (.ref (G.1 0 0)), some (.int a1), some (.int a2), some (.int a3), none] [.null] τ1
    refine m_astoreN (L1 := [some (.ref (G.1 0 0)), some (.int a1), some (.int a2), some (.int a3), some (.null)]) C dX11_bells_5 (by decide) rfl rfl ?_
    refine m_aloadN C dX11_bells_7 rfl ?_
    refine m_ifnullN (tgt := 27) C dX11_bells_9 (by decide) ?_
    refine m_ldc (v := (-1000001)) C dX11_bells_27 q1_234 ?_
    exact m_iret C hr hlk (by decide) (by decide) dX11_bells_29 ⟨_, rfl, i2, g6, (iv_wk kc_m1000001 (by decide))⟩
  · have b8 : IV a1 0 7 := ⟨by have q1 := (iv_any a1); omega, by have q1 := (iv_any a1); omega⟩
    show MW p l e _ s m args below meth c _ 5 G 0 0 5 [some (.ref (G.1 0 0)), some (.int a1), some (.int a2), some (.int a3), none] [.ref (G.1 20 (a1.toInt.toNat))] τ1
    refine m_astore (L1 := [some (.ref (G.1 0 0)), some (.int a1), some (.int a2), some (.int a3), some (.ref (G.1 20 (a1.toInt.toNat)))]) C dX11_bells_5 (by decide) rfl rfl ?_
    refine m_aload C dX11_bells_7 rfl ?_
    refine m_ifnull C dX11_bells_9 ?_
    refine m_iload_n C dX11_bells_12 rfl rfl ?_
    refine m_iconst (v := 1) C dX11_bells_13 (by decide) ?_
    refine m_icmp_lt (tgt := 27) C dX11_bells_14 (by decide) (fun c9 => ?_) (fun c9 => ?_)
    · have f10 : a2.toInt < 1 := by
        have q : _ := c9
        simp only [ti_nle, ti_nlt, ti_le, ti_lt, ti_eq, ti_ne, Classical.not_not, kt_1] at q
        omega
      have b11 : IV a2 (-2147483648) 0 := ⟨by have q1 := (iv_any a2); have q2 := kc_1; omega, by have q1 := (iv_any a2); have q2 := kc_1; omega⟩
      refine m_ldc (v := (-1000001)) C dX11_bells_27 q1_234 ?_
      exact m_iret C hr hlk (by decide) (by decide) dX11_bells_29 ⟨_, rfl, i2, g6, (iv_wk kc_m1000001 (by decide))⟩
    · have f12 : 1 ≤ a2.toInt := by
        have q : _ := c9
        simp only [ti_nle, ti_nlt, ti_le, ti_lt, ti_eq, ti_ne, Classical.not_not, kt_1] at q
        omega
      have b13 : IV a2 1 2147483647 := ⟨by have q1 := kc_1; have q2 := (iv_any a2); omega, by have q1 := kc_1; have q2 := (iv_any a2); omega⟩
      refine m_iload_n C dX11_bells_17 rfl rfl ?_
      refine m_iconst (v := 5) C dX11_bells_18 (by decide) ?_
      refine m_icmp_gt (tgt := 27) C dX11_bells_19 (by decide) (fun c14 => ?_) (fun c14 => ?_)
      · have f15 : 5 < a2.toInt := by
          have q : _ := c14
          simp only [ti_nle, ti_nlt, ti_le, ti_lt, ti_eq, ti_ne, Classical.not_not, kt_5] at q
          omega
        have b16 : IV a2 6 2147483647 := ⟨by have q1 := kc_5; have q2 := b13; omega, by have q1 := kc_5; have q2 := b13; omega⟩
        refine m_ldc (v := (-1000001)) C dX11_bells_27 q1_234 ?_
        exact m_iret C hr hlk (by decide) (by decide) dX11_bells_29 ⟨_, rfl, i2, g6, (iv_wk kc_m1000001 (by decide))⟩
      · have f17 : a2.toInt ≤ 5 := by
          have q : _ := c14
          simp only [ti_nle, ti_nlt, ti_le, ti_lt, ti_eq, ti_ne, Classical.not_not, kt_5] at q
          omega
        have b18 : IV a2 1 5 := ⟨by have q1 := b13; have q2 := kc_5; omega, by have q1 := b13; have q2 := kc_5; omega⟩
        refine m_iload_n C dX11_bells_22 rfl rfl ?_
        refine m_iconst (v := (-1)) C dX11_bells_23 (by decide) ?_
        refine m_icmp_ge (tgt := 30) C dX11_bells_24 (by decide) (fun c19 => ?_) (fun c19 => ?_)
        · have f20 : -1 ≤ a3.toInt := by
            have q : _ := c19
            simp only [ti_nle, ti_nlt, ti_le, ti_lt, ti_eq, ti_ne, Classical.not_not, kt_m1] at q
            omega
          have b21 : IV a3 (-1) 2147483647 := ⟨by have q1 := kc_m1; have q2 := (iv_any a3); omega, by have q1 := kc_m1; have q2 := (iv_any a3); omega⟩
          refine m_aload C dX11_bells_30 rfl ?_
          refine m_callV (n := 0) (ci := 6) (st := []) C (c_X7_isMissing l G τ1 (j := (a1.toInt.toNat)) (iv_nat b8 (by decide))  i2 ) (by decide) (iv_nat b8 (by decide)) rfl rfl rfl q2_15 q2_12 q2_13 q2_14 q1_6 (by decide +kernel) rfl (by decide) (by decide) rfl (Nat.le_of_ble_eq_true rfl) dX11_bells_32 ?_
          rintro _ τ22 ⟨x25, rfl, i23, f24, b26⟩
          have g27 : Fr MS_X11_bells AS_X11_bells σ τ22 := Fr.call (g6) f24 (by decide)
          show MW p l e _ s m args below meth c _ 5 G 0 0 35 [some (.ref (G.1 0 0)), some (.int a1), some (.int a2), some (.int a3), some (.ref (G.1 20 (a1.toInt.toNat)))] [.int x25] τ22
          refine m_if_eq (tgt := 44) C dX11_bells_35 (by decide) (fun c29 => ?_) (fun c29 => ?_)
          · have f30 : x25.toInt = 0 := by
              have q : _ := c29
              simp only [ti_nle, ti_nlt, ti_le, ti_lt, ti_eq, ti_ne, Classical.not_not, kt_0] at q
              omega
            have b31 : IV x25 0 0 := ⟨by have q1 := b26; have q2 := kc_0; omega, by have q1 := b26; have q2 := kc_0; omega⟩
            refine m_aload C dX11_bells_44 rfl ?_
            refine g_20_2 C (iv_nat b8 (by decide)) q1_177 dX11_bells_46 ?_
            refine m_topi (fun x32 ex32 => ?_)
            have b33 : IV x32 0 40 := by rw [ex32]; exact i23.1 20 (a1.toInt.toNat) 2
            refine m_iload_n C dX11_bells_49 rfl rfl ?_
            refine m_icmp_ge (tgt := 59) C dX11_bells_50 (by decide) (fun c34 => ?_) (fun c34 => ?_)
            · have f35 : a2.toInt ≤ x32.toInt := by
                have q : _ := c34
                simp only [ti_nle, ti_nlt, ti_le, ti_lt, ti_eq, ti_ne, Classical.not_not] at q
                omega
              have b36 : IV x32 1 40 := ⟨by have q1 := b18; have q2 := b33; omega, by have q1 := b18; have q2 := b33; omega⟩
              refine m_aload C dX11_bells_59 rfl ?_
              refine m_iload_n C dX11_bells_61 rfl rfl ?_
              refine m_iconst (v := 1) C dX11_bells_62 (by decide) ?_
              refine m_bipush (v := 20) C dX11_bells_63 (by decide) ?_
              refine m_callV (n := 3) (ci := 6) (st := []) C (c_X7_holds l G τ22 (j := (a1.toInt.toNat)) (iv_nat b8 (by decide)) (a2) (1) (20) i23 ) (by decide) (iv_nat b8 (by decide)) rfl rfl rfl q3_194 q3_191 q3_192 q3_193 q1_6 (by decide +kernel) rfl (by decide) (by decide) rfl (Nat.le_of_ble_eq_true rfl) dX11_bells_65 ?_
              rintro _ τ37 ⟨x40, rfl, i38, f39, b41⟩
              have g42 : Fr MS_X11_bells AS_X11_bells σ τ37 := Fr.call (g27) f39 (by decide)
              show MW p l e _ s m args below meth c _ 5 G 0 0 68 [some (.ref (G.1 0 0)), some (.int a1), some (.int a2), some (.int a3), some (.ref (G.1 20 (a1.toInt.toNat)))] [.int x40] τ37
              refine m_if_ne (tgt := 74) C dX11_bells_68 (by decide) (fun c44 => ?_) (fun c44 => ?_)
              · have f45 : x40.toInt ≠ 0 := by
                  have q : _ := c44
                  simp only [ti_nle, ti_nlt, ti_le, ti_lt, ti_eq, ti_ne, Classical.not_not, kt_0] at q
                  omega
                have b46 : IV x40 1 1 := ⟨by have q1 := b41; have q2 := kc_0; omega, by have q1 := b41; have q2 := kc_0; omega⟩
                refine m_iload_n C dX11_bells_74 rfl rfl ?_
                refine m_iload_n C dX11_bells_75 rfl rfl ?_
                refine m_icmp_lt (tgt := 86) C dX11_bells_76 (by decide) (fun c47 => ?_) (fun c47 => ?_)
                · have f48 : a3.toInt < a2.toInt := by
                    have q : _ := c47
                    simp only [ti_nle, ti_nlt, ti_le, ti_lt, ti_eq, ti_ne, Classical.not_not] at q
                    omega
                  have b49 : IV a3 (-1) 4 := ⟨by have q1 := b21; have q2 := b18; omega, by have q1 := b21; have q2 := b18; omega⟩
                  refine m_aload_n C dX11_bells_86 rfl rfl ?_
                  refine g_0_9 C q1_195 dX11_bells_87 ?_
                  refine m_aload C dX11_bells_90 rfl ?_
                  refine g_20_0 C (iv_nat b8 (by decide)) q1_173 dX11_bells_92 ?_
                  refine m_iload_n C dX11_bells_95 rfl rfl ?_
                  refine m_callV (n := 2) (ci := 0) (st := []) C (c_X0_findBest l G τ37 (j2 := (a1.toInt.toNat)) (iv_nat b8 (by decide)) (a2) i38 b18) (by decide) (by decide) rfl rfl rfl q3_228 q3_225 q3_226 q3_227 q1_5 (by decide +kernel) rfl (by decide) (by decide) rfl (Nat.le_of_ble_eq_true rfl) dX11_bells_96 ?_
                  rintro _ τ50 ⟨rfl, i51, f52⟩
                  have g55 : Fr MS_X11_bells AS_X11_bells σ τ50 := Fr.call (g42) f52 (by decide)
                  show MW p l e _ s m args below meth c _ 5 G 0 0 99 [some (.ref (G.1 0 0)), some (.int a1), some (.int a2), some (.int a3), some (.ref (G.1 20 (a1.toInt.toNat)))] [] τ50
                  refine m_aload_n C dX11_bells_99 rfl rfl ?_
                  refine m_iload_n C dX11_bells_100 rfl rfl ?_
                  refine m_iconst (v := (-1)) C dX11_bells_101 (by decide) ?_
                  refine m_icmp_ne (tgt := 115) C dX11_bells_102 (by decide) (fun c57 => ?_) (fun c57 => ?_)
                  · have f58 : a3.toInt ≠ -1 := by
                      have q : _ := c57
                      simp only [ti_nle, ti_nlt, ti_le, ti_lt, ti_eq, ti_ne, Classical.not_not, kt_m1] at q
                      omega
                    have b59 : IV a3 0 4 := ⟨by have q1 := b49; have q2 := kc_m1; omega, by have q1 := b49; have q2 := kc_m1; omega⟩
                    refine m_aload_n C dX11_bells_115 rfl rfl ?_
                    refine g_0_9 C q1_195 dX11_bells_116 ?_
                    refine g_16_3 C q1_153 dX11_bells_119 ?_
                    refine m_iload_n C dX11_bells_122 rfl rfl ?_
                    refine al_19 C b59 (by decide) rfl dX11_bells_123 ?_
                    refine m_topi (fun x60 ex60 => ?_)
                    refine m_callV (n := 1) (ci := 10) (st := []) C (c_X11_clean l G τ50 (x60) i51 ) (by decide) (by decide) rfl rfl rfl q2_7 q2_4 q2_6 q0_2 q1_1 (by decide +kernel) rfl (by decide) (by decide) rfl (Nat.le_of_ble_eq_true rfl) dX11_bells_124 ?_
                    rintro _ τ61 ⟨x64, rfl, i62, f63, b65, h67⟩
                    have g66 : Fr MS_X11_bells AS_X11_bells σ τ61 := Fr.call (g55) f63 (by decide)
                    show MW p l e _ s m args below meth c _ 5 G 0 0 127 [some (.ref (G.1 0 0)), some (.int a1), some (.int a2), some (.int a3), some (.ref (G.1 20 (a1.toInt.toNat)))] [.int x64] τ61
                    exact m_iret C hr hlk (by decide) (by decide) dX11_bells_127 ⟨_, rfl, i62, g66, b65⟩
                  · have f68 : a3.toInt = -1 := by
                      have q : _ := c57
                      simp only [ti_nle, ti_nlt, ti_le, ti_lt, ti_eq, ti_ne, Classical.not_not, kt_m1] at q
                      omega
                    have b69 : IV a3 (-1) (-1) := ⟨by have q1 := b49; have q2 := kc_m1; omega, by have q1 := b49; have q2 := kc_m1; omega⟩
                    refine m_aload_n C dX11_bells_105 rfl rfl ?_
                    refine g_0_9 C q1_195 dX11_bells_106 ?_
                    refine g_16_4 C q1_155 dX11_bells_109 ?_
                    refine m_topi (fun x70 ex70 => ?_)
                    refine m_goto (tgt := 124) C dX11_bells_112 (by decide) ?_
                    refine m_callV (n := 1) (ci := 10) (st := []) C (c_X11_clean l G τ50 (x70) i51 ) (by decide) (by decide) rfl rfl rfl q2_7 q2_4 q2_6 q0_2 q1_1 (by decide +kernel) rfl (by decide) (by decide) rfl (Nat.le_of_ble_eq_true rfl) dX11_bells_124 ?_
                    rintro _ τ71 ⟨x74, rfl, i72, f73, b75, h77⟩
                    have g76 : Fr MS_X11_bells AS_X11_bells σ τ71 := Fr.call (g55) f73 (by decide)
                    show MW p l e _ s m args below meth c _ 5 G 0 0 127 [some (.ref (G.1 0 0)), some (.int a1), some (.int a2), some (.int a3), some (.ref (G.1 20 (a1.toInt.toNat)))] [.int x74] τ71
                    exact m_iret C hr hlk (by decide) (by decide) dX11_bells_127 ⟨_, rfl, i72, g76, b75⟩
                · have f78 : a2.toInt ≤ a3.toInt := by
                    have q : _ := c47
                    simp only [ti_nle, ti_nlt, ti_le, ti_lt, ti_eq, ti_ne, Classical.not_not] at q
                    omega
                  have b79 : IV a3 1 2147483647 := ⟨by have q1 := b18; have q2 := b21; omega, by have q1 := b18; have q2 := b21; omega⟩
                  refine m_aload_n C dX11_bells_79 rfl rfl ?_
                  refine m_ldc (v := (-1000000)) C dX11_bells_80 q3_43 ?_
                  refine m_callV (n := 1) (ci := 10) (st := []) C (c_X11_clean l G τ37 ((-1000000)) i38 ) (by decide) (by decide) rfl rfl rfl q2_7 q2_4 q2_6 q0_2 q1_1 (by decide +kernel) rfl (by decide) (by decide) rfl (Nat.le_of_ble_eq_true rfl) dX11_bells_82 ?_
                  rintro _ τ80 ⟨x83, rfl, i81, f82, b84, h86⟩
                  have g85 : Fr MS_X11_bells AS_X11_bells σ τ80 := Fr.call (g42) f82 (by decide)
                  have q87 := kt_m1000000
                  show MW p l e _ s m args below meth c _ 5 G 0 0 85 [some (.ref (G.1 0 0)), some (.int a1), some (.int a2), some (.int a3), some (.ref (G.1 20 (a1.toInt.toNat)))] [.int x83] τ80
                  exact m_iret C hr hlk (by decide) (by decide) dX11_bells_85 ⟨_, rfl, i81, g85, b84⟩
              · have f88 : x40.toInt = 0 := by
                  have q : _ := c44
                  simp only [ti_nle, ti_nlt, ti_le, ti_lt, ti_eq, ti_ne, Classical.not_not, kt_0] at q
                  omega
                have b89 : IV x40 0 0 := ⟨by have q1 := b41; have q2 := kc_0; omega, by have q1 := b41; have q2 := kc_0; omega⟩
                refine m_ldc (v := (-1000001)) C dX11_bells_71 q1_234 ?_
                exact m_iret C hr hlk (by decide) (by decide) dX11_bells_73 ⟨_, rfl, i38, g42, (iv_wk kc_m1000001 (by decide))⟩
            · have f90 : x32.toInt < a2.toInt := by
                have q : _ := c34
                simp only [ti_nle, ti_nlt, ti_le, ti_lt, ti_eq, ti_ne, Classical.not_not] at q
                omega
              have b91 : IV x32 0 4 := ⟨by have q1 := b33; have q2 := b18; omega, by have q1 := b33; have q2 := b18; omega⟩
              refine m_aload_n C dX11_bells_53 rfl rfl ?_
              refine m_iconst (v := 2) C dX11_bells_54 (by decide) ?_
              refine m_callV (n := 1) (ci := 10) (st := []) C (c_X11_found l G τ22 (2) i23 (iv_wk kc_2 (by decide))) (by decide) (by decide) rfl rfl rfl q1_238 q1_235 q1_237 q0_1 q1_1 (by decide +kernel) rfl (by decide) (by decide) rfl (Nat.le_of_ble_eq_true rfl) dX11_bells_55 ?_
              rintro _ τ92 ⟨x95, rfl, i93, f94, b96, h98⟩
              have g97 : Fr MS_X11_bells AS_X11_bells σ τ92 := Fr.call (g27) f94 (by decide)
              have q99 := kt_2
              show MW p l e _ s m args below meth c _ 5 G 0 0 58 [some (.ref (G.1 0 0)), some (.int a1), some (.int a2), some (.int a3), some (.ref (G.1 20 (a1.toInt.toNat)))] [.int x95] τ92
              exact m_iret C hr hlk (by decide) (by decide) dX11_bells_58 ⟨_, rfl, i93, g97, (iv_wk b96 (by decide))⟩
          · have f100 : x25.toInt ≠ 0 := by
              have q : _ := c29
              simp only [ti_nle, ti_nlt, ti_le, ti_lt, ti_eq, ti_ne, Classical.not_not, kt_0] at q
              omega
            have b101 : IV x25 1 1 := ⟨by have q1 := b26; have q2 := kc_0; omega, by have q1 := b26; have q2 := kc_0; omega⟩
            refine m_aload_n C dX11_bells_38 rfl rfl ?_
            refine m_iconst (v := 1) C dX11_bells_39 (by decide) ?_
            refine m_callV (n := 1) (ci := 10) (st := []) C (c_X11_found l G τ22 (1) i23 (iv_wk kc_1 (by decide))) (by decide) (by decide) rfl rfl rfl q1_238 q1_235 q1_237 q0_1 q1_1 (by decide +kernel) rfl (by decide) (by decide) rfl (Nat.le_of_ble_eq_true rfl) dX11_bells_40 ?_
            rintro _ τ102 ⟨x105, rfl, i103, f104, b106, h108⟩
            have g107 : Fr MS_X11_bells AS_X11_bells σ τ102 := Fr.call (g27) f104 (by decide)
            have q109 := kt_1
            show MW p l e _ s m args below meth c _ 5 G 0 0 43 [some (.ref (G.1 0 0)), some (.int a1), some (.int a2), some (.int a3), some (.ref (G.1 20 (a1.toInt.toNat)))] [.int x105] τ102
            exact m_iret C hr hlk (by decide) (by decide) dX11_bells_43 ⟨_, rfl, i103, g107, (iv_wk b106 (by decide))⟩
        · have f110 : a3.toInt < -1 := by
            have q : _ := c19
            simp only [ti_nle, ti_nlt, ti_le, ti_lt, ti_eq, ti_ne, Classical.not_not, kt_m1] at q
            omega
          have b111 : IV a3 (-2147483648) (-2) := ⟨by have q1 := (iv_any a3); have q2 := kc_m1; omega, by have q1 := (iv_any a3); have q2 := kc_m1; omega⟩
          refine m_ldc (v := (-1000001)) C dX11_bells_27 q1_234 ?_
          exact m_iret C hr hlk (by decide) (by decide) dX11_bells_29 ⟨_, rfl, i2, g6, (iv_wk kc_m1000001 (by decide))⟩

abbrev MS_X11_image : List (Nat × Nat) := [(1, 0), (1, 1), (1, 2), (1, 3), (1, 9), (1, 10), (1, 11)]
abbrev AS_X11_image : List Nat := [2, 3, 4, 5, 6]
set_option maxHeartbeats 4000000 in
set_option maxRecDepth 100000 in
theorem c_X11_image (l : Launch) (G : Gt) (σ : Sg) (a1 : Int32) (hI : Inv σ) : Mc l G yX11_image cX11_image 2 (some .int) 1 22 0 0 [.ref (G.1 0 0), .int a1] σ (PI fun r τ => Inv τ ∧ Fr MS_X11_image AS_X11_image σ τ ∧ IV r (-1000002) 1) := by
  refine Mc.of (L0 := [some (.ref (G.1 0 0)), some (.int a1)]) (by decide) (Nat.le_of_ble_eq_true rfl) rfl ?_
  intro p e s m args below meth c C hr hlk
  have C : Cx p s m args c cX11_image 2 "LeanTower" := C
  have k0 : (0 : Int32).toInt = 0 := by decide
  have k1 : (1 : Int32).toInt = 1 := by decide
  refine m_iload_n C dX11_image_0 rfl rfl ?_
  refine m_if_lt (tgt := 9) C dX11_image_1 (by decide) (fun c1 => ?_) (fun c1 => ?_)
  · have f2 : a1.toInt < 0 := by
      have q : _ := c1
      simp only [ti_nle, ti_nlt, ti_le, ti_lt, ti_eq, ti_ne, Classical.not_not, kt_0] at q
      omega
    have b3 : IV a1 (-2147483648) (-1) := ⟨by have q1 := (iv_any a1); have q2 := kc_0; omega, by have q1 := (iv_any a1); have q2 := kc_0; omega⟩
    refine m_ldc (v := (-1000001)) C dX11_image_9 q1_234 ?_
    exact m_iret C hr hlk (by decide) (by decide) dX11_image_11 ⟨_, rfl, hI, Fr.rf, (iv_wk kc_m1000001 (by decide))⟩
  · have f4 : 0 ≤ a1.toInt := by
      have q : _ := c1
      simp only [ti_nle, ti_nlt, ti_le, ti_lt, ti_eq, ti_ne, Classical.not_not, kt_0] at q
      omega
    have b5 : IV a1 0 2147483647 := ⟨by have q1 := kc_0; have q2 := (iv_any a1); omega, by have q1 := kc_0; have q2 := (iv_any a1); omega⟩
    refine m_iload_n C dX11_image_4 rfl rfl ?_
    refine m_iconst (v := 2) C dX11_image_5 (by decide) ?_
    refine m_icmp_lt (tgt := 12) C dX11_image_6 (by decide) (fun c6 => ?_) (fun c6 => ?_)
    · have f7 : a1.toInt < 2 := by
        have q : _ := c6
        simp only [ti_nle, ti_nlt, ti_le, ti_lt, ti_eq, ti_ne, Classical.not_not, kt_2] at q
        omega
      have b8 : IV a1 0 1 := ⟨by have q1 := b5; have q2 := kc_2; omega, by have q1 := b5; have q2 := kc_2; omega⟩
      refine m_aload_n C dX11_image_12 rfl rfl ?_
      refine g_0_2 C q1_188 dX11_image_13 ?_
      refine m_callV (n := 0) (ci := 7) (st := []) C (c_X8_stands l G σ (j := 0) (by decide)  hI ) (by decide) (by decide) rfl rfl rfl q3_41 q3_38 q3_39 q3_40 q1_3 (by decide +kernel) rfl (by decide) (by decide) rfl (Nat.le_of_ble_eq_true rfl) dX11_image_16 ?_
      rintro _ τ9 ⟨x12, rfl, i10, f11, b13⟩
      have g14 : Fr MS_X11_image AS_X11_image σ τ9 := Fr.call (Fr.rf) f11 (by decide)
      show MW p l e _ s m args below meth c _ 2 G 0 0 19 [some (.ref (G.1 0 0)), some (.int a1)] [.int x12] τ9
      refine m_if_ne (tgt := 25) C dX11_image_19 (by decide) (fun c16 => ?_) (fun c16 => ?_)
      · have f17 : x12.toInt ≠ 0 := by
          have q : _ := c16
          simp only [ti_nle, ti_nlt, ti_le, ti_lt, ti_eq, ti_ne, Classical.not_not, kt_0] at q
          omega
        have b18 : IV x12 1 1 := ⟨by have q1 := b13; have q2 := kc_0; omega, by have q1 := b13; have q2 := kc_0; omega⟩
        refine m_aload_n C dX11_image_25 rfl rfl ?_
        refine g_0_7 C q1_193 dX11_image_26 ?_
        refine m_iload_n C dX11_image_29 rfl rfl ?_
        refine al_9 (n := (a1.toInt.toNat)) C b8 (by decide) rfl dX11_image_30 ?_
        refine m_aload_n C dX11_image_31 rfl rfl ?_
        refine g_0_2 C q1_188 dX11_image_32 ?_
        refine m_callV (n := 1) (ci := 7) (st := []) C (c_X8_takeFrom l G τ9 (j := ((a1.toInt.toNat) + 26)) (Nat.add_lt_add_right (iv_nat (n := 2) b8 (by decide)) 26) (j2 := 0) (by decide) i10 ) (by decide) (Nat.add_lt_add_right (iv_nat (n := 2) b8 (by decide)) 26) rfl rfl rfl q3_9 q3_6 q3_7 q3_8 q1_3 (by decide +kernel) rfl (by decide) (by decide) rfl (Nat.le_of_ble_eq_true rfl) dX11_image_35 ?_
        rintro _ τ19 ⟨rfl, i20, f21⟩
        have g24 : Fr MS_X11_image AS_X11_image σ τ19 := Fr.call (g14) f21 (by decide)
        show MW p l e _ s m args below meth c _ 2 G 0 0 38 [some (.ref (G.1 0 0)), some (.int a1)] [] τ19
        refine m_iconst (v := 1) C dX11_image_38 (by decide) ?_
        exact m_iret C hr hlk (by decide) (by decide) dX11_image_39 ⟨_, rfl, i20, g24, (iv_wk kc_1 (by decide))⟩
      · have f26 : x12.toInt = 0 := by
          have q : _ := c16
          simp only [ti_nle, ti_nlt, ti_le, ti_lt, ti_eq, ti_ne, Classical.not_not, kt_0] at q
          omega
        have b27 : IV x12 0 0 := ⟨by have q1 := b13; have q2 := kc_0; omega, by have q1 := b13; have q2 := kc_0; omega⟩
        refine m_ldc (v := (-1000002)) C dX11_image_22 q3_42 ?_
        exact m_iret C hr hlk (by decide) (by decide) dX11_image_24 ⟨_, rfl, i10, g14, (iv_wk kc_m1000002 (by decide))⟩
    · have f28 : 2 ≤ a1.toInt := by
        have q : _ := c6
        simp only [ti_nle, ti_nlt, ti_le, ti_lt, ti_eq, ti_ne, Classical.not_not, kt_2] at q
        omega
      have b29 : IV a1 2 2147483647 := ⟨by have q1 := kc_2; have q2 := b5; omega, by have q1 := kc_2; have q2 := b5; omega⟩
      refine m_ldc (v := (-1000001)) C dX11_image_9 q1_234 ?_
      exact m_iret C hr hlk (by decide) (by decide) dX11_image_11 ⟨_, rfl, hI, Fr.rf, (iv_wk kc_m1000001 (by decide))⟩

abbrev MS_X11_restore : List (Nat × Nat) := [(0, 6), (1, 0), (1, 1), (1, 2), (1, 3), (1, 9), (1, 10), (1, 11)]
abbrev AS_X11_restore : List Nat := [2, 3, 4, 5, 6]
set_option maxHeartbeats 4000000 in
set_option maxRecDepth 100000 in
theorem c_X11_restore (l : Launch) (G : Gt) (σ : Sg) (a1 : Int32) (hI : Inv σ) : Mc l G yX11_restore cX11_restore 2 (some .int) 1 22 0 0 [.ref (G.1 0 0), .int a1] σ (PI fun r τ => Inv τ ∧ Fr MS_X11_restore AS_X11_restore σ τ ∧ IV r (-1000002) 1) := by
  refine Mc.of (L0 := [some (.ref (G.1 0 0)), some (.int a1)]) (by decide) (Nat.le_of_ble_eq_true rfl) rfl ?_
  intro p e s m args below meth c C hr hlk
  have C : Cx p s m args c cX11_restore 2 "LeanTower" := C
  have k0 : (0 : Int32).toInt = 0 := by decide
  have k1 : (1 : Int32).toInt = 1 := by decide
  refine m_iload_n C dX11_restore_0 rfl rfl ?_
  refine m_if_lt (tgt := 9) C dX11_restore_1 (by decide) (fun c1 => ?_) (fun c1 => ?_)
  · have f2 : a1.toInt < 0 := by
      have q : _ := c1
      simp only [ti_nle, ti_nlt, ti_le, ti_lt, ti_eq, ti_ne, Classical.not_not, kt_0] at q
      omega
    have b3 : IV a1 (-2147483648) (-1) := ⟨by have q1 := (iv_any a1); have q2 := kc_0; omega, by have q1 := (iv_any a1); have q2 := kc_0; omega⟩
    refine m_ldc (v := (-1000001)) C dX11_restore_9 q1_234 ?_
    exact m_iret C hr hlk (by decide) (by decide) dX11_restore_11 ⟨_, rfl, hI, Fr.rf, (iv_wk kc_m1000001 (by decide))⟩
  · have f4 : 0 ≤ a1.toInt := by
      have q : _ := c1
      simp only [ti_nle, ti_nlt, ti_le, ti_lt, ti_eq, ti_ne, Classical.not_not, kt_0] at q
      omega
    have b5 : IV a1 0 2147483647 := ⟨by have q1 := kc_0; have q2 := (iv_any a1); omega, by have q1 := kc_0; have q2 := (iv_any a1); omega⟩
    refine m_iload_n C dX11_restore_4 rfl rfl ?_
    refine m_iconst (v := 2) C dX11_restore_5 (by decide) ?_
    refine m_icmp_lt (tgt := 12) C dX11_restore_6 (by decide) (fun c6 => ?_) (fun c6 => ?_)
    · have f7 : a1.toInt < 2 := by
        have q : _ := c6
        simp only [ti_nle, ti_nlt, ti_le, ti_lt, ti_eq, ti_ne, Classical.not_not, kt_2] at q
        omega
      have b8 : IV a1 0 1 := ⟨by have q1 := b5; have q2 := kc_2; omega, by have q1 := b5; have q2 := kc_2; omega⟩
      refine m_aload_n C dX11_restore_12 rfl rfl ?_
      refine g_0_7 C q1_193 dX11_restore_13 ?_
      refine m_iload_n C dX11_restore_16 rfl rfl ?_
      refine al_9 (n := (a1.toInt.toNat)) C b8 (by decide) rfl dX11_restore_17 ?_
      refine m_callV (n := 0) (ci := 7) (st := []) C (c_X8_stands l G σ (j := ((a1.toInt.toNat) + 26)) (Nat.add_lt_add_right (iv_nat (n := 2) b8 (by decide)) 26)  hI ) (by decide) (Nat.add_lt_add_right (iv_nat (n := 2) b8 (by decide)) 26) rfl rfl rfl q3_41 q3_38 q3_39 q3_40 q1_3 (by decide +kernel) rfl (by decide) (by decide) rfl (Nat.le_of_ble_eq_true rfl) dX11_restore_18 ?_
      rintro _ τ9 ⟨x12, rfl, i10, f11, b13⟩
      have g14 : Fr MS_X11_restore AS_X11_restore σ τ9 := Fr.call (Fr.rf) f11 (by decide)
      show MW p l e _ s m args below meth c _ 2 G 0 0 21 [some (.ref (G.1 0 0)), some (.int a1)] [.int x12] τ9
      refine m_if_ne (tgt := 27) C dX11_restore_21 (by decide) (fun c16 => ?_) (fun c16 => ?_)
      · have f17 : x12.toInt ≠ 0 := by
          have q : _ := c16
          simp only [ti_nle, ti_nlt, ti_le, ti_lt, ti_eq, ti_ne, Classical.not_not, kt_0] at q
          omega
        have b18 : IV x12 1 1 := ⟨by have q1 := b13; have q2 := kc_0; omega, by have q1 := b13; have q2 := kc_0; omega⟩
        refine m_aload_n C dX11_restore_27 rfl rfl ?_
        refine g_0_2 C q1_188 dX11_restore_28 ?_
        refine m_aload_n C dX11_restore_31 rfl rfl ?_
        refine g_0_7 C q1_193 dX11_restore_32 ?_
        refine m_iload_n C dX11_restore_35 rfl rfl ?_
        refine al_9 (n := (a1.toInt.toNat)) C b8 (by decide) rfl dX11_restore_36 ?_
        refine m_callV (n := 1) (ci := 7) (st := []) C (c_X8_takeFrom l G τ9 (j := 0) (by decide) (j2 := ((a1.toInt.toNat) + 26)) (Nat.add_lt_add_right (iv_nat (n := 2) b8 (by decide)) 26) i10 ) (by decide) (by decide) rfl rfl rfl q3_9 q3_6 q3_7 q3_8 q1_3 (by decide +kernel) rfl (by decide) (by decide) rfl (Nat.le_of_ble_eq_true rfl) dX11_restore_37 ?_
        rintro _ τ19 ⟨rfl, i20, f21⟩
        have g24 : Fr MS_X11_restore AS_X11_restore σ τ19 := Fr.call (g14) f21 (by decide)
        show MW p l e _ s m args below meth c _ 2 G 0 0 40 [some (.ref (G.1 0 0)), some (.int a1)] [] τ19
        refine m_aload_n C dX11_restore_40 rfl rfl ?_
        refine m_iconst (v := 0) C dX11_restore_41 (by decide) ?_
        refine p_0_6 C q1_192 dX11_restore_42 ?_
        refine m_tops (fun τ26 eτ26 => ?_)
        have i27 : Inv τ26 := eτ26 ▸ Inv.put i20 (by decide) (iv_wk kc_0 (by decide))
        have f28 : Fr MS_X11_restore AS_X11_restore σ τ26 := eτ26 ▸ Fr.put (g24) (Or.inl (by decide))
        refine m_iconst (v := 1) C dX11_restore_45 (by decide) ?_
        exact m_iret C hr hlk (by decide) (by decide) dX11_restore_46 ⟨_, rfl, i27, f28, (iv_wk kc_1 (by decide))⟩
      · have f29 : x12.toInt = 0 := by
          have q : _ := c16
          simp only [ti_nle, ti_nlt, ti_le, ti_lt, ti_eq, ti_ne, Classical.not_not, kt_0] at q
          omega
        have b30 : IV x12 0 0 := ⟨by have q1 := b13; have q2 := kc_0; omega, by have q1 := b13; have q2 := kc_0; omega⟩
        refine m_ldc (v := (-1000002)) C dX11_restore_24 q3_42 ?_
        exact m_iret C hr hlk (by decide) (by decide) dX11_restore_26 ⟨_, rfl, i10, g14, (iv_wk kc_m1000002 (by decide))⟩
    · have f31 : 2 ≤ a1.toInt := by
        have q : _ := c6
        simp only [ti_nle, ti_nlt, ti_le, ti_lt, ti_eq, ti_ne, Classical.not_not, kt_2] at q
        omega
      have b32 : IV a1 2 2147483647 := ⟨by have q1 := kc_2; have q2 := b5; omega, by have q1 := kc_2; have q2 := b5; omega⟩
      refine m_ldc (v := (-1000001)) C dX11_restore_9 q1_234 ?_
      exact m_iret C hr hlk (by decide) (by decide) dX11_restore_11 ⟨_, rfl, hI, Fr.rf, (iv_wk kc_m1000001 (by decide))⟩

abbrev MS_X11_kind : List (Nat × Nat) := []
abbrev AS_X11_kind : List Nat := []
set_option maxHeartbeats 4000000 in
set_option maxRecDepth 100000 in
theorem c_X11_kind (l : Launch) (G : Gt) (σ : Sg) (a1 : Int32) (hI : Inv σ) : Mc l G yX11_kind cX11_kind 3 (some .int) 2 42 0 0 [.ref (G.1 0 0), .int a1] σ (PI fun r τ => Inv τ ∧ Fr MS_X11_kind AS_X11_kind σ τ ∧ IV r (-2147483648) 2147483647) := by
  refine Mc.of (L0 := [some (.ref (G.1 0 0)), some (.int a1), none]) (by decide) (Nat.le_of_ble_eq_true rfl) rfl ?_
  intro p e s m args below meth c C hr hlk
  have C : Cx p s m args c cX11_kind 3 "LeanTower" := C
  have k0 : (0 : Int32).toInt = 0 := by decide
  have k1 : (1 : Int32).toInt = 1 := by decide
  refine m_aload_n C dX11_kind_0 rfl rfl ?_
  refine g_0_2 C q1_188 dX11_kind_1 ?_
  refine m_iload_n C dX11_kind_4 rfl rfl ?_
  refine m_callV (n := 1) (ci := 7) (st := []) C (c_X8_who l G σ (j := 0) (by decide) (a1) hI ) (by decide) (by decide) rfl rfl rfl q3_114 q3_111 q3_112 q3_113 q1_3 (by decide +kernel) rfl (by decide) (by decide) rfl (Nat.le_of_ble_eq_true rfl) dX11_kind_5 ?_
  rintro _ τ1 ⟨x4, rfl, i2, f3, h7⟩
  have g6 : Fr MS_X11_kind AS_X11_kind σ τ1 := Fr.call (Fr.rf) f3 (by decide)
  rcases h7 with rfl | ⟨x4q, rfl, x4m, x4l, x4h⟩
  · show MW p l e _ s m args below meth c _ 3 G 0 0 8 [some (.ref (G.1 0 0)), some (.int a1), none] [.null] τ1
    refine m_astore_nN (L1 := [some (.ref (G.1 0 0)), some (.int a1), some (.null)]) C dX11_kind_8 rfl (by decide) rfl rfl ?_
    refine m_aload_nN C dX11_kind_9 rfl rfl ?_
    refine m_ifnonnullN C dX11_kind_10 ?_
    refine m_ldc (v := (-1000001)) C dX11_kind_13 q1_234 ?_
    refine m_goto (tgt := 22) C dX11_kind_15 (by decide) ?_
    exact m_iret C hr hlk (by decide) (by decide) dX11_kind_22 ⟨_, rfl, i2, g6, (iv_wk kc_m1000001 (by decide))⟩
  · show MW p l e _ s m args below meth c _ 3 G 0 0 8 [some (.ref (G.1 0 0)), some (.int a1), none] [.ref x4q] τ1
    have bx4q : IV a1 0 6 := ⟨by have q1 := (iv_any a1); omega, by have q1 := (iv_any a1); omega⟩
    refine m_astore_n (L1 := [some (.ref (G.1 0 0)), some (.int a1), some (.ref x4q)]) C dX11_kind_8 rfl (by decide) rfl rfl ?_
    refine m_aload_n C dX11_kind_9 rfl rfl ?_
    refine m_ifnonnull (tgt := 18) C dX11_kind_10 (by decide) ?_
    refine m_aload_n C dX11_kind_18 rfl rfl ?_
    refine v_ownKind (st := []) C q4_9 i2 x4m (by decide) (by decide) (Nat.le_of_ble_eq_true rfl) dX11_kind_19 (fun x11 τ8 i9 f10 => ?_)
    have g12 : Fr MS_X11_kind AS_X11_kind σ τ8 := Fr.call (g6) f10 (by decide)
    have v13 : x4q ∈ τ8.2.2.2.1 := by rw [f10.2.2 (by decide)]; exact x4m
    show MW p l e _ s m args below meth c _ 3 G 0 0 22 [some (.ref (G.1 0 0)), some (.int a1), some (.ref x4q)] [.int x11] τ8
    exact m_iret C hr hlk (by decide) (by decide) dX11_kind_22 ⟨_, rfl, i9, g12, (iv_any x11)⟩

abbrev MS_X11_isOne : List (Nat × Nat) := []
abbrev AS_X11_isOne : List Nat := []
set_option maxHeartbeats 4000000 in
set_option maxRecDepth 100000 in
theorem c_X11_isOne (l : Launch) (G : Gt) (σ : Sg) (b1 : Nat) (a2 : Int32) (hI : Inv σ) (hb1 : b1 ∈ σ.2.2.2.1) : Mc l G yX11_isOne cX11_isOne 2 (some .boolean) 0 0 0 0 [.ref b1, .int a2] σ (PI fun r τ => Inv τ ∧ Fr MS_X11_isOne AS_X11_isOne σ τ ∧ IV r 0 1) := by
  refine Mc.of (L0 := [some (.ref b1), some (.int a2)]) (by decide) (Nat.le_of_ble_eq_true rfl) rfl ?_
  intro p e s m args below meth c C hr hlk
  have C : Cx p s m args c cX11_isOne 2 "LeanTower" := C
  have k0 : (0 : Int32).toInt = 0 := by decide
  have k1 : (1 : Int32).toInt = 1 := by decide
  refine m_iload_n C dX11_isOne_0 rfl rfl ?_
  by_cases s1 : a2.toInt < 0 ∨ 5 < a2.toInt
  · refine m_tableOut (tgt := 67) C dX11_isOne_1 s1 (by decide) ?_
    refine m_iconst (v := 0) C dX11_isOne_67 (by decide) ?_
    exact m_zret C hr rfl hlk (by decide) (by decide) dX11_isOne_68 ⟨_, rfl, hI, Fr.rf, (iv_wk kc_0 (by decide))⟩
  by_cases s2 : a2.toInt = 0
  · refine m_tableIn (tgt := 40) (off := 39) C dX11_isOne_1 (by omega) (by omega) (by rw [s2]; rfl) (by decide) ?_
    have b3 : IV a2 0 0 := ⟨by omega, by omega⟩
    refine m_iconst (v := 1) C dX11_isOne_40 (by decide) ?_
    exact m_zret C hr rfl hlk (by decide) (by decide) dX11_isOne_41 ⟨_, rfl, hI, Fr.rf, (iv_wk kc_1 (by decide))⟩
  by_cases s4 : a2.toInt = 1
  · refine m_tableIn (tgt := 42) (off := 41) C dX11_isOne_1 (by omega) (by omega) (by rw [s4]; rfl) (by decide) ?_
    have b5 : IV a2 1 1 := ⟨by omega, by omega⟩
    refine m_aload_n C dX11_isOne_42 rfl rfl ?_
    refine m_inst_5 C hI.2.2 hb1 q4_34 dX11_isOne_43 (fun x6 b7 => ?_)
    exact m_zret C hr (nar_z b7) hlk (by decide) (by decide) dX11_isOne_46 ⟨_, rfl, hI, Fr.rf, b7⟩
  by_cases s8 : a2.toInt = 2
  · refine m_tableIn (tgt := 47) (off := 46) C dX11_isOne_1 (by omega) (by omega) (by rw [s8]; rfl) (by decide) ?_
    have b9 : IV a2 2 2 := ⟨by omega, by omega⟩
    refine m_aload_n C dX11_isOne_47 rfl rfl ?_
    refine m_inst_10 C hI.2.2 hb1 q4_35 dX11_isOne_48 (fun x10 b11 => ?_)
    exact m_zret C hr (nar_z b11) hlk (by decide) (by decide) dX11_isOne_51 ⟨_, rfl, hI, Fr.rf, b11⟩
  by_cases s12 : a2.toInt = 3
  · refine m_tableIn (tgt := 52) (off := 51) C dX11_isOne_1 (by omega) (by omega) (by rw [s12]; rfl) (by decide) ?_
    have b13 : IV a2 3 3 := ⟨by omega, by omega⟩
    refine m_aload_n C dX11_isOne_52 rfl rfl ?_
    refine m_inst_2 C hI.2.2 hb1 q4_36 dX11_isOne_53 (fun x14 b15 => ?_)
    exact m_zret C hr (nar_z b15) hlk (by decide) (by decide) dX11_isOne_56 ⟨_, rfl, hI, Fr.rf, b15⟩
  by_cases s16 : a2.toInt = 4
  · refine m_tableIn (tgt := 57) (off := 56) C dX11_isOne_1 (by omega) (by omega) (by rw [s16]; rfl) (by decide) ?_
    have b17 : IV a2 4 4 := ⟨by omega, by omega⟩
    refine m_aload_n C dX11_isOne_57 rfl rfl ?_
    refine m_inst_3 C hI.2.2 hb1 q4_37 dX11_isOne_58 (fun x18 b19 => ?_)
    exact m_zret C hr (nar_z b19) hlk (by decide) (by decide) dX11_isOne_61 ⟨_, rfl, hI, Fr.rf, b19⟩
  by_cases s20 : a2.toInt = 5
  · refine m_tableIn (tgt := 62) (off := 61) C dX11_isOne_1 (by omega) (by omega) (by rw [s20]; rfl) (by decide) ?_
    have b21 : IV a2 5 5 := ⟨by omega, by omega⟩
    refine m_aload_n C dX11_isOne_62 rfl rfl ?_
    refine m_inst_1 C hI.2.2 hb1 q4_38 dX11_isOne_63 (fun x22 b23 => ?_)
    exact m_zret C hr (nar_z b23) hlk (by decide) (by decide) dX11_isOne_66 ⟨_, rfl, hI, Fr.rf, b23⟩
  exact absurd s1 (by omega)

abbrev MS_X11_as : List (Nat × Nat) := [(0, 12)]
abbrev AS_X11_as : List Nat := []
set_option maxHeartbeats 4000000 in
set_option maxRecDepth 100000 in
theorem c_X11_as (l : Launch) (G : Gt) (σ : Sg) (a1 : Int32) (a2 : Int32) (hI : Inv σ) : Mc l G yX11_as cX11_as 4 (some .int) 2 42 0 0 [.ref (G.1 0 0), .int a1, .int a2] σ (PI fun r τ => Inv τ ∧ Fr MS_X11_as AS_X11_as σ τ ∧ IV r (-2147483648) 2147483647) := by
  refine Mc.of (L0 := [some (.ref (G.1 0 0)), some (.int a1), some (.int a2), none]) (by decide) (Nat.le_of_ble_eq_true rfl) rfl ?_
  intro p e s m args below meth c C hr hlk
  have C : Cx p s m args c cX11_as 4 "LeanTower" := C
  have k0 : (0 : Int32).toInt = 0 := by decide
  have k1 : (1 : Int32).toInt = 1 := by decide
  refine m_aload_n C dX11_as_0 rfl rfl ?_
  refine g_0_2 C q1_188 dX11_as_1 ?_
  refine m_iload_n C dX11_as_4 rfl rfl ?_
  refine m_callV (n := 1) (ci := 7) (st := []) C (c_X8_who l G σ (j := 0) (by decide) (a1) hI ) (by decide) (by decide) rfl rfl rfl q3_114 q3_111 q3_112 q3_113 q1_3 (by decide +kernel) rfl (by decide) (by decide) rfl (Nat.le_of_ble_eq_true rfl) dX11_as_5 ?_
  rintro _ τ1 ⟨x4, rfl, i2, f3, h7⟩
  have g6 : Fr MS_X11_as AS_X11_as σ τ1 := Fr.call (Fr.rf) f3 (by decide)
  rcases h7 with rfl | ⟨x4q, rfl, x4m, x4l, x4h⟩
  · show MW p l e _ s m args below meth c _ 4 G 0 0 8 [some (.ref (G.1 0 0)), some (.int a1), some (.int a2), none] [.null] τ1
    refine m_astore_nN (L1 := [some (.ref (G.1 0 0)), some (.int a1), some (.int a2), some (.null)]) C dX11_as_8 rfl (by decide) rfl rfl ?_
    refine m_aload_nN C dX11_as_9 rfl rfl ?_
    refine m_ifnullN (tgt := 22) C dX11_as_10 (by decide) ?_
    refine m_ldc (v := (-1000001)) C dX11_as_22 q1_234 ?_
    exact m_iret C hr hlk (by decide) (by decide) dX11_as_24 ⟨_, rfl, i2, g6, (iv_wk kc_m1000001 (by decide))⟩
  · show MW p l e _ s m args below meth c _ 4 G 0 0 8 [some (.ref (G.1 0 0)), some (.int a1), some (.int a2), none] [.ref x4q] τ1
    have bx4q : IV a1 0 6 := ⟨by have q1 := (iv_any a1); omega, by have q1 := (iv_any a1); omega⟩
    refine m_astore_n (L1 := [some (.ref (G.1 0 0)), some (.int a1), some (.int a2), some (.ref x4q)]) C dX11_as_8 rfl (by decide) rfl rfl ?_
    refine m_aload_n C dX11_as_9 rfl rfl ?_
    refine m_ifnull C dX11_as_10 ?_
    refine m_iload_n C dX11_as_13 rfl rfl ?_
    refine m_if_lt (tgt := 22) C dX11_as_14 (by decide) (fun c8 => ?_) (fun c8 => ?_)
    · have f9 : a2.toInt < 0 := by
        have q : _ := c8
        simp only [ti_nle, ti_nlt, ti_le, ti_lt, ti_eq, ti_ne, Classical.not_not, kt_0] at q
        omega
      have b10 : IV a2 (-2147483648) (-1) := ⟨by have q1 := (iv_any a2); have q2 := kc_0; omega, by have q1 := (iv_any a2); have q2 := kc_0; omega⟩
      refine m_ldc (v := (-1000001)) C dX11_as_22 q1_234 ?_
      exact m_iret C hr hlk (by decide) (by decide) dX11_as_24 ⟨_, rfl, i2, g6, (iv_wk kc_m1000001 (by decide))⟩
    · have f11 : 0 ≤ a2.toInt := by
        have q : _ := c8
        simp only [ti_nle, ti_nlt, ti_le, ti_lt, ti_eq, ti_ne, Classical.not_not, kt_0] at q
        omega
      have b12 : IV a2 0 2147483647 := ⟨by have q1 := kc_0; have q2 := (iv_any a2); omega, by have q1 := kc_0; have q2 := (iv_any a2); omega⟩
      refine m_iload_n C dX11_as_17 rfl rfl ?_
      refine m_iconst (v := 5) C dX11_as_18 (by decide) ?_
      refine m_icmp_le (tgt := 25) C dX11_as_19 (by decide) (fun c13 => ?_) (fun c13 => ?_)
      · have f14 : a2.toInt ≤ 5 := by
          have q : _ := c13
          simp only [ti_nle, ti_nlt, ti_le, ti_lt, ti_eq, ti_ne, Classical.not_not, kt_5] at q
          omega
        have b15 : IV a2 0 5 := ⟨by have q1 := b12; have q2 := kc_5; omega, by have q1 := b12; have q2 := kc_5; omega⟩
        refine m_aload_n C dX11_as_25 rfl rfl ?_
        refine m_iload_n C dX11_as_26 rfl rfl ?_
        refine m_callS (n := 2) (st := []) C (c_X11_isOne l G τ1 x4q (a2) i2 x4m) q4_33 q4_31 q4_32 q1_1 (by decide +kernel) rfl (by decide) (by decide) rfl (Nat.le_of_ble_eq_true rfl) dX11_as_27 ?_
        rintro _ τ16 ⟨x19, rfl, i17, f18, b20⟩
        have g21 : Fr MS_X11_as AS_X11_as σ τ16 := Fr.call (g6) f18 (by decide)
        have v23 : x4q ∈ τ16.2.2.2.1 := by rw [f18.2.2 (by decide)]; exact x4m
        show MW p l e _ s m args below meth c _ 4 G 0 0 30 [some (.ref (G.1 0 0)), some (.int a1), some (.int a2), some (.ref x4q)] [.int x19] τ16
        refine m_if_eq (tgt := 41) C dX11_as_30 (by decide) (fun c24 => ?_) (fun c24 => ?_)
        · have f25 : x19.toInt = 0 := by
            have q : _ := c24
            simp only [ti_nle, ti_nlt, ti_le, ti_lt, ti_eq, ti_ne, Classical.not_not, kt_0] at q
            omega
          have b26 : IV x19 0 0 := ⟨by have q1 := b20; have q2 := kc_0; omega, by have q1 := b20; have q2 := kc_0; omega⟩
          refine m_aload_n C dX11_as_41 rfl rfl ?_
          refine m_iconst (v := 3) C dX11_as_42 (by decide) ?_
          refine m_callV (n := 1) (ci := 10) (st := []) C (c_X11_found l G τ16 (3) i17 (iv_wk kc_3 (by decide))) (by decide) (by decide) rfl rfl rfl q1_238 q1_235 q1_237 q0_1 q1_1 (by decide +kernel) rfl (by decide) (by decide) rfl (Nat.le_of_ble_eq_true rfl) dX11_as_43 ?_
          rintro _ τ27 ⟨x30, rfl, i28, f29, b31, h33⟩
          have g32 : Fr MS_X11_as AS_X11_as σ τ27 := Fr.call (g21) f29 (by decide)
          have v34 : x4q ∈ τ27.2.2.2.1 := by rw [f29.2.2 (by decide)]; exact v23
          have q35 := kt_3
          show MW p l e _ s m args below meth c _ 4 G 0 0 46 [some (.ref (G.1 0 0)), some (.int a1), some (.int a2), some (.ref x4q)] [.int x30] τ27
          exact m_iret C hr hlk (by decide) (by decide) dX11_as_46 ⟨_, rfl, i28, g32, (iv_wk b31 (by decide))⟩
        · have f36 : x19.toInt ≠ 0 := by
            have q : _ := c24
            simp only [ti_nle, ti_nlt, ti_le, ti_lt, ti_eq, ti_ne, Classical.not_not, kt_0] at q
            omega
          have b37 : IV x19 1 1 := ⟨by have q1 := b20; have q2 := kc_0; omega, by have q1 := b20; have q2 := kc_0; omega⟩
          refine m_aload_n C dX11_as_33 rfl rfl ?_
          refine m_iload_n C dX11_as_34 rfl rfl ?_
          refine m_callV (n := 1) (ci := 10) (st := []) C (c_X11_clean l G τ16 (a1) i17 ) (by decide) (by decide) rfl rfl rfl q2_7 q2_4 q2_6 q0_2 q1_1 (by decide +kernel) rfl (by decide) (by decide) rfl (Nat.le_of_ble_eq_true rfl) dX11_as_35 ?_
          rintro _ τ38 ⟨x41, rfl, i39, f40, b42, h44⟩
          have g43 : Fr MS_X11_as AS_X11_as σ τ38 := Fr.call (g21) f40 (by decide)
          have v45 : x4q ∈ τ38.2.2.2.1 := by rw [f40.2.2 (by decide)]; exact v23
          show MW p l e _ s m args below meth c _ 4 G 0 0 38 [some (.ref (G.1 0 0)), some (.int a1), some (.int a2), some (.ref x4q)] [.int x41] τ38
          refine m_goto (tgt := 46) C dX11_as_38 (by decide) ?_
          exact m_iret C hr hlk (by decide) (by decide) dX11_as_46 ⟨_, rfl, i39, g43, b42⟩
      · have f46 : 5 < a2.toInt := by
          have q : _ := c13
          simp only [ti_nle, ti_nlt, ti_le, ti_lt, ti_eq, ti_ne, Classical.not_not, kt_5] at q
          omega
        have b47 : IV a2 6 2147483647 := ⟨by have q1 := kc_5; have q2 := b12; omega, by have q1 := kc_5; have q2 := b12; omega⟩
        refine m_ldc (v := (-1000001)) C dX11_as_22 q1_234 ?_
        exact m_iret C hr hlk (by decide) (by decide) dX11_as_24 ⟨_, rfl, i2, g6, (iv_wk kc_m1000001 (by decide))⟩

abbrev MS_X11_ask : List (Nat × Nat) := [(14, 1)]
abbrev AS_X11_ask : List Nat := [15]
set_option maxHeartbeats 4000000 in
set_option maxRecDepth 100000 in
theorem c_X11_ask (l : Launch) (G : Gt) (σ : Sg) (a1 : Int32) (a2 : Int32) (hI : Inv σ) : Mc l G yX11_ask cX11_ask 4 (some .int) 6 127 0 0 [.ref (G.1 0 0), .int a1, .int a2] σ (PI fun r τ => Inv τ ∧ Fr MS_X11_ask AS_X11_ask σ τ ∧ IV r (-2147483648) 2147483647) := by
  refine Mc.of (L0 := [some (.ref (G.1 0 0)), some (.int a1), some (.int a2), none]) (by decide) (Nat.le_of_ble_eq_true rfl) rfl ?_
  intro p e s m args below meth c C hr hlk
  have C : Cx p s m args c cX11_ask 4 "LeanTower" := C
  have k0 : (0 : Int32).toInt = 0 := by decide
  have k1 : (1 : Int32).toInt = 1 := by decide
  refine m_aload_n C dX11_ask_0 rfl rfl ?_
  refine g_0_2 C q1_188 dX11_ask_1 ?_
  refine m_iload_n C dX11_ask_4 rfl rfl ?_
  refine m_callV (n := 1) (ci := 7) (st := []) C (c_X8_who l G σ (j := 0) (by decide) (a1) hI ) (by decide) (by decide) rfl rfl rfl q3_114 q3_111 q3_112 q3_113 q1_3 (by decide +kernel) rfl (by decide) (by decide) rfl (Nat.le_of_ble_eq_true rfl) dX11_ask_5 ?_
  rintro _ τ1 ⟨x4, rfl, i2, f3, h7⟩
  have g6 : Fr MS_X11_ask AS_X11_ask σ τ1 := Fr.call (Fr.rf) f3 (by decide)
  rcases h7 with rfl | ⟨x4q, rfl, x4m, x4l, x4h⟩
  · show MW p l e _ s m args below meth c _ 4 G 0 0 8 [some (.ref (G.1 0 0)), some (.int a1), some (.int a2), none] [.null] τ1
    refine m_astore_nN (L1 := [some (.ref (G.1 0 0)), some (.int a1), some (.int a2), some (.null)]) C dX11_ask_8 rfl (by decide) rfl rfl ?_
    refine m_aload_nN C dX11_ask_9 rfl rfl ?_
    refine m_ifnullN (tgt := 22) C dX11_ask_10 (by decide) ?_
    refine m_ldc (v := (-1000001)) C dX11_ask_22 q1_234 ?_
    exact m_iret C hr hlk (by decide) (by decide) dX11_ask_24 ⟨_, rfl, i2, g6, (iv_wk kc_m1000001 (by decide))⟩
  · show MW p l e _ s m args below meth c _ 4 G 0 0 8 [some (.ref (G.1 0 0)), some (.int a1), some (.int a2), none] [.ref x4q] τ1
    have bx4q : IV a1 0 6 := ⟨by have q1 := (iv_any a1); omega, by have q1 := (iv_any a1); omega⟩
    refine m_astore_n (L1 := [some (.ref (G.1 0 0)), some (.int a1), some (.int a2), some (.ref x4q)]) C dX11_ask_8 rfl (by decide) rfl rfl ?_
    refine m_aload_n C dX11_ask_9 rfl rfl ?_
    refine m_ifnull C dX11_ask_10 ?_
    refine m_iload_n C dX11_ask_13 rfl rfl ?_
    refine m_if_lt (tgt := 22) C dX11_ask_14 (by decide) (fun c8 => ?_) (fun c8 => ?_)
    · have f9 : a2.toInt < 0 := by
        have q : _ := c8
        simp only [ti_nle, ti_nlt, ti_le, ti_lt, ti_eq, ti_ne, Classical.not_not, kt_0] at q
        omega
      have b10 : IV a2 (-2147483648) (-1) := ⟨by have q1 := (iv_any a2); have q2 := kc_0; omega, by have q1 := (iv_any a2); have q2 := kc_0; omega⟩
      refine m_ldc (v := (-1000001)) C dX11_ask_22 q1_234 ?_
      exact m_iret C hr hlk (by decide) (by decide) dX11_ask_24 ⟨_, rfl, i2, g6, (iv_wk kc_m1000001 (by decide))⟩
    · have f11 : 0 ≤ a2.toInt := by
        have q : _ := c8
        simp only [ti_nle, ti_nlt, ti_le, ti_lt, ti_eq, ti_ne, Classical.not_not, kt_0] at q
        omega
      have b12 : IV a2 0 2147483647 := ⟨by have q1 := kc_0; have q2 := (iv_any a2); omega, by have q1 := kc_0; have q2 := (iv_any a2); omega⟩
      refine m_iload_n C dX11_ask_17 rfl rfl ?_
      refine m_iconst (v := 1) C dX11_ask_18 (by decide) ?_
      refine m_icmp_le (tgt := 25) C dX11_ask_19 (by decide) (fun c13 => ?_) (fun c13 => ?_)
      · have f14 : a2.toInt ≤ 1 := by
          have q : _ := c13
          simp only [ti_nle, ti_nlt, ti_le, ti_lt, ti_eq, ti_ne, Classical.not_not, kt_1] at q
          omega
        have b15 : IV a2 0 1 := ⟨by have q1 := b12; have q2 := kc_1; omega, by have q1 := b12; have q2 := kc_1; omega⟩
        refine m_aload_n C dX11_ask_25 rfl rfl ?_
        refine g_0_8 C q1_194 dX11_ask_26 ?_
        refine m_iconst (v := 0) C dX11_ask_29 (by decide) ?_
        refine p_14_1 C q1_137 dX11_ask_30 ?_
        refine m_tops (fun τ16 eτ16 => ?_)
        have i17 : Inv τ16 := eτ16 ▸ Inv.put i2 (by decide) (iv_wk kc_0 (by decide))
        have f18 : Fr MS_X11_ask AS_X11_ask σ τ16 := eτ16 ▸ Fr.put (g6) (Or.inl (by decide))
        have v19 : x4q ∈ τ16.2.2.2.1 := by rw [eτ16]; exact x4m
        refine m_iload_n C dX11_ask_33 rfl rfl ?_
        refine m_if_ne (tgt := 48) C dX11_ask_34 (by decide) (fun c20 => ?_) (fun c20 => ?_)
        · have f21 : a2.toInt ≠ 0 := by
            have q : _ := c20
            simp only [ti_nle, ti_nlt, ti_le, ti_lt, ti_eq, ti_ne, Classical.not_not, kt_0] at q
            omega
          have b22 : IV a2 1 1 := ⟨by have q1 := b15; have q2 := kc_0; omega, by have q1 := b15; have q2 := kc_0; omega⟩
          refine m_aload_n C dX11_ask_48 rfl rfl ?_
          refine m_aload_n C dX11_ask_49 rfl rfl ?_
          refine g_0_8 C q1_194 dX11_ask_50 ?_
          refine v_mark (st := []) C q4_89 i17 v19 (by decide) (by decide) (Nat.le_of_ble_eq_true rfl) dX11_ask_53 (fun x26 τ23 i24 f25 => ?_)
          have g27 : Fr MS_X11_ask AS_X11_ask σ τ23 := Fr.call (f18) f25 (by decide)
          have v28 : x4q ∈ τ23.2.2.2.1 := by rw [f25.2.2 (by decide)]; exact v19
          show MW p l e _ s m args below meth c _ 4 G 0 0 56 [some (.ref (G.1 0 0)), some (.int a1), some (.int a2), some (.ref x4q)] [.int x26] τ23
          exact m_iret C hr hlk (by decide) (by decide) dX11_ask_56 ⟨_, rfl, i24, g27, (iv_any x26)⟩
        · have f29 : a2.toInt = 0 := by
            have q : _ := c20
            simp only [ti_nle, ti_nlt, ti_le, ti_lt, ti_eq, ti_ne, Classical.not_not, kt_0] at q
            omega
          have b30 : IV a2 0 0 := ⟨by have q1 := b15; have q2 := kc_0; omega, by have q1 := b15; have q2 := kc_0; omega⟩
          refine m_aload_n C dX11_ask_37 rfl rfl ?_
          refine m_aload_n C dX11_ask_38 rfl rfl ?_
          refine g_0_8 C q1_194 dX11_ask_39 ?_
          refine v_size (st := []) C q4_43 i17 v19 (by decide) (by decide) (Nat.le_of_ble_eq_true rfl) dX11_ask_42 (fun x34 τ31 i32 f33 => ?_)
          have g35 : Fr MS_X11_ask AS_X11_ask σ τ31 := Fr.call (f18) f33 (by decide)
          have v36 : x4q ∈ τ31.2.2.2.1 := by rw [f33.2.2 (by decide)]; exact v19
          show MW p l e _ s m args below meth c _ 4 G 0 0 45 [some (.ref (G.1 0 0)), some (.int a1), some (.int a2), some (.ref x4q)] [.int x34] τ31
          refine m_goto (tgt := 56) C dX11_ask_45 (by decide) ?_
          exact m_iret C hr hlk (by decide) (by decide) dX11_ask_56 ⟨_, rfl, i32, g35, (iv_any x34)⟩
      · have f37 : 1 < a2.toInt := by
          have q : _ := c13
          simp only [ti_nle, ti_nlt, ti_le, ti_lt, ti_eq, ti_ne, Classical.not_not, kt_1] at q
          omega
        have b38 : IV a2 2 2147483647 := ⟨by have q1 := kc_1; have q2 := b12; omega, by have q1 := kc_1; have q2 := b12; omega⟩
        refine m_ldc (v := (-1000001)) C dX11_ask_22 q1_234 ?_
        exact m_iret C hr hlk (by decide) (by decide) dX11_ask_24 ⟨_, rfl, i2, g6, (iv_wk kc_m1000001 (by decide))⟩

abbrev MS_X11_trace : List (Nat × Nat) := []
abbrev AS_X11_trace : List Nat := []
set_option maxHeartbeats 4000000 in
set_option maxRecDepth 100000 in
theorem c_X11_trace (l : Launch) (G : Gt) (σ : Sg) (a1 : Int32) (hI : Inv σ) : Mc l G yX11_trace cX11_trace 2 (some .int) 0 0 0 0 [.ref (G.1 0 0), .int a1] σ (PI fun r τ => Inv τ ∧ Fr MS_X11_trace AS_X11_trace σ τ ∧ IV r (-2147483648) 2147483647) := by
  refine Mc.of (L0 := [some (.ref (G.1 0 0)), some (.int a1)]) (by decide) (Nat.le_of_ble_eq_true rfl) rfl ?_
  intro p e s m args below meth c C hr hlk
  have C : Cx p s m args c cX11_trace 2 "LeanTower" := C
  have k0 : (0 : Int32).toInt = 0 := by decide
  have k1 : (1 : Int32).toInt = 1 := by decide
  refine m_iload_n C dX11_trace_0 rfl rfl ?_
  refine m_if_lt (tgt := 15) C dX11_trace_1 (by decide) (fun c1 => ?_) (fun c1 => ?_)
  · have f2 : a1.toInt < 0 := by
      have q : _ := c1
      simp only [ti_nle, ti_nlt, ti_le, ti_lt, ti_eq, ti_ne, Classical.not_not, kt_0] at q
      omega
    have b3 : IV a1 (-2147483648) (-1) := ⟨by have q1 := (iv_any a1); have q2 := kc_0; omega, by have q1 := (iv_any a1); have q2 := kc_0; omega⟩
    refine m_ldc (v := (-1000000)) C dX11_trace_15 q3_43 ?_
    refine m_goto (tgt := 29) C dX11_trace_17 (by decide) ?_
    exact m_iret C hr hlk (by decide) (by decide) dX11_trace_29 ⟨_, rfl, hI, Fr.rf, (iv_wk kc_m1000000 (by decide))⟩
  · have f4 : 0 ≤ a1.toInt := by
      have q : _ := c1
      simp only [ti_nle, ti_nlt, ti_le, ti_lt, ti_eq, ti_ne, Classical.not_not, kt_0] at q
      omega
    have b5 : IV a1 0 2147483647 := ⟨by have q1 := kc_0; have q2 := (iv_any a1); omega, by have q1 := kc_0; have q2 := (iv_any a1); omega⟩
    refine m_iload_n C dX11_trace_4 rfl rfl ?_
    refine m_aload_n C dX11_trace_5 rfl rfl ?_
    refine g_0_8 C q1_194 dX11_trace_6 ?_
    refine g_14_1 C q1_137 dX11_trace_9 ?_
    refine m_topi (fun x6 ex6 => ?_)
    have b7 : IV x6 0 16 := by rw [ex6]; exact hI.1 14 0 1
    refine m_icmp_lt (tgt := 20) C dX11_trace_12 (by decide) (fun c8 => ?_) (fun c8 => ?_)
    · have f9 : a1.toInt < x6.toInt := by
        have q : _ := c8
        simp only [ti_nle, ti_nlt, ti_le, ti_lt, ti_eq, ti_ne, Classical.not_not] at q
        omega
      have b10 : IV a1 0 15 := ⟨by have q1 := b5; have q2 := b7; omega, by have q1 := b5; have q2 := b7; omega⟩
      have b11 : IV x6 1 16 := ⟨by have q1 := b5; have q2 := b7; omega, by have q1 := b5; have q2 := b7; omega⟩
      refine m_aload_n C dX11_trace_20 rfl rfl ?_
      refine g_0_8 C q1_194 dX11_trace_21 ?_
      refine g_14_0 C q1_135 dX11_trace_24 ?_
      refine m_iload_n C dX11_trace_27 rfl rfl ?_
      refine al_15 C b10 (by decide) rfl dX11_trace_28 ?_
      refine m_topi (fun x12 ex12 => ?_)
      exact m_iret C hr hlk (by decide) (by decide) dX11_trace_29 ⟨_, rfl, hI, Fr.rf, (iv_any x12)⟩
    · have f13 : x6.toInt ≤ a1.toInt := by
        have q : _ := c8
        simp only [ti_nle, ti_nlt, ti_le, ti_lt, ti_eq, ti_ne, Classical.not_not] at q
        omega
      refine m_ldc (v := (-1000000)) C dX11_trace_15 q3_43 ?_
      refine m_goto (tgt := 29) C dX11_trace_17 (by decide) ?_
      exact m_iret C hr hlk (by decide) (by decide) dX11_trace_29 ⟨_, rfl, hI, Fr.rf, (iv_wk kc_m1000000 (by decide))⟩

abbrev MS_X11_count : List (Nat × Nat) := []
abbrev AS_X11_count : List Nat := []
set_option maxHeartbeats 4000000 in
set_option maxRecDepth 100000 in
theorem c_X11_count (l : Launch) (G : Gt) (σ : Sg) (a1 : Int32) (hI : Inv σ) : Mc l G yX11_count cX11_count 2 (some .int) 2 42 0 0 [.ref (G.1 0 0), .int a1] σ (PI fun r τ => Inv τ ∧ Fr MS_X11_count AS_X11_count σ τ ∧ IV r (-2147483648) 2147483647) := by
  refine Mc.of (L0 := [some (.ref (G.1 0 0)), some (.int a1)]) (by decide) (Nat.le_of_ble_eq_true rfl) rfl ?_
  intro p e s m args below meth c C hr hlk
  have C : Cx p s m args c cX11_count 2 "LeanTower" := C
  have k0 : (0 : Int32).toInt = 0 := by decide
  have k1 : (1 : Int32).toInt = 1 := by decide
  refine m_iload_n C dX11_count_0 rfl rfl ?_
  by_cases s1 : a1.toInt < 0 ∨ 6 < a1.toInt
  · refine m_tableOut (tgt := 97) C dX11_count_1 s1 (by decide) ?_
    refine m_ldc (v := (-1000001)) C dX11_count_97 q1_234 ?_
    exact m_iret C hr hlk (by decide) (by decide) dX11_count_99 ⟨_, rfl, hI, Fr.rf, (iv_wk kc_m1000001 (by decide))⟩
  by_cases s2 : a1.toInt = 0
  · refine m_tableIn (tgt := 44) (off := 43) C dX11_count_1 (by omega) (by omega) (by rw [s2]; rfl) (by decide) ?_
    have b3 : IV a1 0 0 := ⟨by omega, by omega⟩
    refine m_aload_n C dX11_count_44 rfl rfl ?_
    refine m_callV (n := 0) (ci := 10) (st := []) C (c_X11_rowsThere l G σ  hI ) (by decide) (by decide) rfl rfl rfl q4_105 q4_102 q4_104 q0_25 q1_1 (by decide +kernel) rfl (by decide) (by decide) rfl (Nat.le_of_ble_eq_true rfl) dX11_count_45 ?_
    rintro _ τ4 ⟨x7, rfl, i5, f6, b8⟩
    have g9 : Fr MS_X11_count AS_X11_count σ τ4 := Fr.call (Fr.rf) f6 (by decide)
    show MW p l e _ s m args below meth c _ 2 G 0 0 48 [some (.ref (G.1 0 0)), some (.int a1)] [.int x7] τ4
    exact m_iret C hr hlk (by decide) (by decide) dX11_count_48 ⟨_, rfl, i5, g9, b8⟩
  by_cases s11 : a1.toInt = 1
  · refine m_tableIn (tgt := 49) (off := 48) C dX11_count_1 (by omega) (by omega) (by rw [s11]; rfl) (by decide) ?_
    have b12 : IV a1 1 1 := ⟨by omega, by omega⟩
    refine m_aload_n C dX11_count_49 rfl rfl ?_
    refine g_0_2 C q1_188 dX11_count_50 ?_
    refine g_1_2 C (by decide) q1_82 dX11_count_53 ?_
    refine m_topi (fun x13 ex13 => ?_)
    have b14 : IV x13 0 7 := by rw [ex13]; exact hI.1 1 0 2
    exact m_iret C hr hlk (by decide) (by decide) dX11_count_56 ⟨_, rfl, hI, Fr.rf, (iv_wk b14 (by decide))⟩
  by_cases s15 : a1.toInt = 2
  · refine m_tableIn (tgt := 57) (off := 56) C dX11_count_1 (by omega) (by omega) (by rw [s15]; rfl) (by decide) ?_
    have b16 : IV a1 2 2 := ⟨by omega, by omega⟩
    refine m_aload_n C dX11_count_57 rfl rfl ?_
    refine g_0_2 C q1_188 dX11_count_58 ?_
    refine g_1_3 C (by decide) q1_85 dX11_count_61 ?_
    refine m_topi (fun x17 ex17 => ?_)
    have b18 : IV x17 0 4 := by rw [ex17]; exact hI.1 1 0 3
    exact m_iret C hr hlk (by decide) (by decide) dX11_count_64 ⟨_, rfl, hI, Fr.rf, (iv_wk b18 (by decide))⟩
  by_cases s19 : a1.toInt = 3
  · refine m_tableIn (tgt := 65) (off := 64) C dX11_count_1 (by omega) (by omega) (by rw [s19]; rfl) (by decide) ?_
    have b20 : IV a1 3 3 := ⟨by omega, by omega⟩
    refine m_aload_n C dX11_count_65 rfl rfl ?_
    refine g_0_2 C q1_188 dX11_count_66 ?_
    refine g_1_9 C (by decide) q1_96 dX11_count_69 ?_
    refine m_topi (fun x21 ex21 => ?_)
    exact m_iret C hr hlk (by decide) (by decide) dX11_count_72 ⟨_, rfl, hI, Fr.rf, (iv_any x21)⟩
  by_cases s22 : a1.toInt = 4
  · refine m_tableIn (tgt := 73) (off := 72) C dX11_count_1 (by omega) (by omega) (by rw [s22]; rfl) (by decide) ?_
    have b23 : IV a1 4 4 := ⟨by omega, by omega⟩
    refine m_aload_n C dX11_count_73 rfl rfl ?_
    refine g_0_6 C q1_192 dX11_count_74 ?_
    refine m_topi (fun x24 ex24 => ?_)
    have b25 : IV x24 0 24 := by rw [ex24]; exact hI.1 0 0 6
    exact m_iret C hr hlk (by decide) (by decide) dX11_count_77 ⟨_, rfl, hI, Fr.rf, (iv_wk b25 (by decide))⟩
  by_cases s26 : a1.toInt = 5
  · refine m_tableIn (tgt := 78) (off := 77) C dX11_count_1 (by omega) (by omega) (by rw [s26]; rfl) (by decide) ?_
    have b27 : IV a1 5 5 := ⟨by omega, by omega⟩
    refine m_aload_n C dX11_count_78 rfl rfl ?_
    refine g_0_2 C q1_188 dX11_count_79 ?_
    refine m_callV (n := 0) (ci := 7) (st := []) C (c_X8_insideSet l G σ (j := 0) (by decide)  hI ) (by decide) (by decide) rfl rfl rfl q3_206 q3_203 q3_204 q3_205 q1_3 (by decide +kernel) rfl (by decide) (by decide) rfl (Nat.le_of_ble_eq_true rfl) dX11_count_82 ?_
    rintro _ τ28 ⟨x31, rfl, i29, f30, b32⟩
    have g33 : Fr MS_X11_count AS_X11_count σ τ28 := Fr.call (Fr.rf) f30 (by decide)
    show MW p l e _ s m args below meth c _ 2 G 0 0 85 [some (.ref (G.1 0 0)), some (.int a1)] [.int x31] τ28
    refine m_callS (n := 1) (st := []) C (c_J6_bitCount_0f7a4 l G τ28 (x31) i29 ) q3_146 q3_144 q3_145 q1_20 (by decide +kernel) rfl (by decide) (by decide) rfl (Nat.le_of_ble_eq_true rfl) dX11_count_85 ?_
    rintro _ τ35 ⟨x38, rfl, i36, f37, b39⟩
    have g40 : Fr MS_X11_count AS_X11_count σ τ35 := Fr.call (g33) f37 (by decide)
    show MW p l e _ s m args below meth c _ 2 G 0 0 88 [some (.ref (G.1 0 0)), some (.int a1)] [.int x38] τ35
    exact m_iret C hr hlk (by decide) (by decide) dX11_count_88 ⟨_, rfl, i36, g40, (iv_wk b39 (by decide))⟩
  by_cases s42 : a1.toInt = 6
  · refine m_tableIn (tgt := 89) (off := 88) C dX11_count_1 (by omega) (by omega) (by rw [s42]; rfl) (by decide) ?_
    have b43 : IV a1 6 6 := ⟨by omega, by omega⟩
    refine m_aload_n C dX11_count_89 rfl rfl ?_
    refine g_0_1 C q1_187 dX11_count_90 ?_
    refine g_12_1 C q1_39 dX11_count_93 ?_
    refine m_topi (fun x44 ex44 => ?_)
    have b45 : IV x44 0 400 := by rw [ex44]; exact hI.1 12 0 1
    exact m_iret C hr hlk (by decide) (by decide) dX11_count_96 ⟨_, rfl, hI, Fr.rf, (iv_wk b45 (by decide))⟩
  exact absurd s1 (by omega)

abbrev MS_X11_status : List (Nat × Nat) := []
abbrev AS_X11_status : List Nat := []
set_option maxHeartbeats 4000000 in
set_option maxRecDepth 100000 in
theorem c_X11_status (l : Launch) (G : Gt) (σ : Sg) (hI : Inv σ) : Mc l G yX11_status cX11_status 1 (some .int) 0 0 0 0 [.ref (G.1 0 0)] σ (PI fun r τ => Inv τ ∧ Fr MS_X11_status AS_X11_status σ τ ∧ IV r (-2147483648) 2147483647) := by
  refine Mc.of (L0 := [some (.ref (G.1 0 0))]) (by decide) (Nat.le_of_ble_eq_true rfl) rfl ?_
  intro p e s m args below meth c C hr hlk
  have C : Cx p s m args c cX11_status 1 "LeanTower" := C
  have k0 : (0 : Int32).toInt = 0 := by decide
  have k1 : (1 : Int32).toInt = 1 := by decide
  refine m_aload_n C dX11_status_0 rfl rfl ?_
  refine g_0_12 C q1_198 dX11_status_1 ?_
  refine m_topi (fun x1 ex1 => ?_)
  exact m_iret C hr hlk (by decide) (by decide) dX11_status_4 ⟨_, rfl, hI, Fr.rf, (iv_any x1)⟩
