abbrev MS_X11_asQ : List (Nat × Nat) := [(0, 12)]
abbrev AS_X11_asQ : List Nat := []
set_option maxHeartbeats 4000000 in
set_option maxRecDepth 100000 in
theorem c_X11_asQ (l : Launch) (G : Gt) (σ : Sg) (S : Stt) (I : Nat → Stt) (a1 : Int32) (a2 : Int32) (hI : Inv σ) (hCA : CA σ S I) : Mc l G yX11_as cX11_as 4 (some .int) 2 42 0 0 [.ref (G.1 0 0), .int a1, .int a2] σ (PI fun r τ => Inv τ ∧ Fr MS_X11_asQ AS_X11_asQ σ τ ∧ IV r (-2147483648) 2147483647 ∧ (((((a1.toInt < 0 ∨ S.2.1 ≤ a1.toInt) ∨ a2.toInt < 0 ∨ 5 < a2.toInt) ∧ r.toInt = -1000001) ∨ ((0 ≤ a1.toInt ∧ a1.toInt < S.2.1) ∧ 0 ≤ a2.toInt ∧ a2.toInt ≤ 5 ∧ (a2.toInt = 0 ∨ (S.2.2 a1.toInt.toNat).1 = a2.toInt ∨ (a2.toInt = 1 ∧ (S.2.2 a1.toInt.toNat).1 ≤ 3) ∨ (a2.toInt = 4 ∧ (S.2.2 a1.toInt.toNat).1 = 5)) ∧ r.toInt = a1.toInt) ∨ ((0 ≤ a1.toInt ∧ a1.toInt < S.2.1) ∧ 0 ≤ a2.toInt ∧ a2.toInt ≤ 5 ∧ ¬ (a2.toInt = 0 ∨ (S.2.2 a1.toInt.toNat).1 = a2.toInt ∨ (a2.toInt = 1 ∧ (S.2.2 a1.toInt.toNat).1 ≤ 3) ∨ (a2.toInt = 4 ∧ (S.2.2 a1.toInt.toNat).1 = 5)) ∧ r.toInt = -1000013)) ∧ ((((a1.toInt < 0 ∨ S.2.1 ≤ a1.toInt) ∨ a2.toInt < 0 ∨ 5 < a2.toInt) → (gV τ 0 0 12).toInt = (gV σ 0 0 12).toInt) ∧ (((0 ≤ a1.toInt ∧ a1.toInt < S.2.1) ∧ 0 ≤ a2.toInt ∧ a2.toInt ≤ 5 ∧ (a2.toInt = 0 ∨ (S.2.2 a1.toInt.toNat).1 = a2.toInt ∨ (a2.toInt = 1 ∧ (S.2.2 a1.toInt.toNat).1 ≤ 3) ∨ (a2.toInt = 4 ∧ (S.2.2 a1.toInt.toNat).1 = 5))) → (gV τ 0 0 12).toInt = 0) ∧ (((0 ≤ a1.toInt ∧ a1.toInt < S.2.1) ∧ 0 ≤ a2.toInt ∧ a2.toInt ≤ 5 ∧ ¬ (a2.toInt = 0 ∨ (S.2.2 a1.toInt.toNat).1 = a2.toInt ∨ (a2.toInt = 1 ∧ (S.2.2 a1.toInt.toNat).1 ≤ 3) ∨ (a2.toInt = 4 ∧ (S.2.2 a1.toInt.toNat).1 = 5))) → (gV τ 0 0 12).toInt = 3)))) := by
  refine Mc.of (L0 := [some (.ref (G.1 0 0)), some (.int a1), some (.int a2), none]) (by decide) (Nat.le_of_ble_eq_true rfl) rfl ?_
  intro p e s m args below meth c C hr hlk
  have C : Cx p s m args c cX11_as 4 "LeanTower" := C
  have k0 : (0 : Int32).toInt = 0 := by decide
  have k1 : (1 : Int32).toInt = 1 := by decide
  refine m_aload_n C dX11_as_0 rfl rfl ?_
  refine g_0_2 C q1_188 dX11_as_1 ?_
  refine m_iload_n C dX11_as_4 rfl rfl ?_
  refine m_callV (n := 1) (ci := 7) (st := []) C (c_X8_whoS l G σ (j := 0) (by decide) (a1) hI ) (by decide) (by decide) rfl rfl rfl q3_114 q3_111 q3_112 q3_113 q1_3 (by decide +kernel) rfl (by decide) (by decide) rfl (Nat.le_of_ble_eq_true rfl) dX11_as_5 ?_
  rintro _ τ1 ⟨x4, rfl, i2, f3, h7⟩
  have g6 : Fr MS_X11_asQ AS_X11_asQ σ τ1 := Fr.call (Fr.rf) f3 (by decide)
  have q8 : (gV τ1 0 0 12).toInt = (gV σ 0 0 12).toInt := congrArg Int32.toInt (show (gV τ1 0 0 12) = (gV σ 0 0 12) from (show gV τ1 0 0 12 = (gV σ 0 0 12) from (f3.1 0 0 (12) (by decide) (by decide)).trans rfl))
  rcases h7 with ⟨rfl, x4n⟩ | ⟨x4q, rfl, x4m, x4l, x4h, x4e⟩
  · show MW p l e _ s m args below meth c _ 4 G 0 0 8 [some (.ref (G.1 0 0)), some (.int a1), some (.int a2), none] [.null] τ1
    have q9 := hCA.1.null x4n
    refine m_astore_nN (L1 := [some (.ref (G.1 0 0)), some (.int a1), some (.int a2), some (.null)]) C dX11_as_8 rfl (by decide) rfl rfl ?_
    refine m_aload_nN C dX11_as_9 rfl rfl ?_
    refine m_ifnullN (tgt := 22) C dX11_as_10 (by decide) ?_
    refine m_ldc (v := (-1000001)) C dX11_as_22 q1_234 ?_
    exact m_iret C hr hlk (by decide) (by decide) dX11_as_24 ⟨_, rfl, i2, g6, (iv_wk kc_m1000001 (by decide)), ⟨(Or.inl ⟨by have q := kt_m1000001; omega, by have q := kt_m1000001; omega⟩), (by have qk := kt_m1000001; omega)⟩⟩
  · show MW p l e _ s m args below meth c _ 4 G 0 0 8 [some (.ref (G.1 0 0)), some (.int a1), some (.int a2), none] [.ref x4q] τ1
    obtain ⟨x4u, x4v⟩ := hCA.1.who x4l x4h x4e
    have x4w := x4v.gr (PGr.fr f3 (by decide))
    have b10 : IV a1 0 6 := by have q7 := hCA.1.1; exact ⟨by omega, by omega⟩
    refine m_astore_n (L1 := [some (.ref (G.1 0 0)), some (.int a1), some (.int a2), some (.ref x4q)]) C dX11_as_8 rfl (by decide) rfl rfl ?_
    refine m_aload_n C dX11_as_9 rfl rfl ?_
    refine m_ifnull C dX11_as_10 ?_
    refine m_iload_n C dX11_as_13 rfl rfl ?_
    refine m_if_lt (tgt := 22) C dX11_as_14 (by decide) (fun c11 => ?_) (fun c11 => ?_)
    · have f12 : a2.toInt < 0 := by
        have q : _ := c11
        simp only [ti_nle, ti_nlt, ti_le, ti_lt, ti_eq, ti_ne, Classical.not_not, kt_0] at q
        omega
      have b13 : IV a2 (-2147483648) (-1) := ⟨by have q1 := (iv_any a2); have q2 := kc_0; omega, by have q1 := (iv_any a2); have q2 := kc_0; omega⟩
      refine m_ldc (v := (-1000001)) C dX11_as_22 q1_234 ?_
      exact m_iret C hr hlk (by decide) (by decide) dX11_as_24 ⟨_, rfl, i2, g6, (iv_wk kc_m1000001 (by decide)), ⟨(Or.inl ⟨by have q := kt_m1000001; omega, by have q := kt_m1000001; omega⟩), (by have qk := kt_m1000001; omega)⟩⟩
    · have f14 : 0 ≤ a2.toInt := by
        have q : _ := c11
        simp only [ti_nle, ti_nlt, ti_le, ti_lt, ti_eq, ti_ne, Classical.not_not, kt_0] at q
        omega
      have b15 : IV a2 0 2147483647 := ⟨by have q1 := kc_0; have q2 := (iv_any a2); omega, by have q1 := kc_0; have q2 := (iv_any a2); omega⟩
      refine m_iload_n C dX11_as_17 rfl rfl ?_
      refine m_iconst (v := 5) C dX11_as_18 (by decide) ?_
      refine m_icmp_le (tgt := 25) C dX11_as_19 (by decide) (fun c16 => ?_) (fun c16 => ?_)
      · have f17 : a2.toInt ≤ 5 := by
          have q : _ := c16
          simp only [ti_nle, ti_nlt, ti_le, ti_lt, ti_eq, ti_ne, Classical.not_not, kt_5] at q
          omega
        have b18 : IV a2 0 5 := ⟨by have q1 := b15; have q2 := kc_5; omega, by have q1 := b15; have q2 := kc_5; omega⟩
        refine m_aload_n C dX11_as_25 rfl rfl ?_
        refine m_iload_n C dX11_as_26 rfl rfl ?_
        refine m_callS (n := 2) (st := []) C (c_X11_isOneS l G τ1 x4q (a2) i2 x4m) q4_33 q4_31 q4_32 q1_1 (by decide +kernel) rfl (by decide) (by decide) rfl (Nat.le_of_ble_eq_true rfl) dX11_as_27 ?_
        rintro _ τ19 ⟨x22, rfl, i20, f21, b23, h25⟩
        have g24 : Fr MS_X11_asQ AS_X11_asQ σ τ19 := Fr.call (g6) f21 (by decide)
        have v26 : x4q ∈ τ19.2.2.2.1 := by rw [f21.2.2 (by decide)]; exact x4m
        have q27 : (gV τ19 0 0 12).toInt = (gV σ 0 0 12).toInt := congrArg Int32.toInt (show (gV τ19 0 0 12) = (gV σ 0 0 12) from (show gV τ19 0 0 12 = (gV σ 0 0 12) from (f21.1 0 0 (12) (by decide) (by decide)).trans (show gV τ1 0 0 12 = (gV σ 0 0 12) from (f3.1 0 0 (12) (by decide) (by decide)).trans rfl)))
        rcases h25 with ⟨h25_0, h25_1⟩ | ⟨h25_0, h25_1⟩
        · skip
          have b28 : IV x22 1 1 := ⟨by omega, by omega⟩
          rw [x4w.2.1] at h25_1
          show MW p l e _ s m args below meth c _ 4 G 0 0 30 [some (.ref (G.1 0 0)), some (.int a1), some (.int a2), some (.ref x4q)] [.int x22] τ19
          refine m_if_eq (tgt := 41) C dX11_as_30 (by decide) (fun c29 => ?_) (fun c29 => ?_)
          · exfalso
            have q : _ := c29
            simp only [ti_nle, ti_nlt, ti_le, ti_lt, ti_eq, ti_ne, Classical.not_not, kt_0] at q
            have q1 := b28; have q2 := kc_0; omega
          · have f31 : x22.toInt ≠ 0 := by
              have q : _ := c29
              simp only [ti_nle, ti_nlt, ti_le, ti_lt, ti_eq, ti_ne, Classical.not_not, kt_0] at q
              omega
            refine m_aload_n C dX11_as_33 rfl rfl ?_
            refine m_iload_n C dX11_as_34 rfl rfl ?_
            refine m_callV (n := 1) (ci := 10) (st := []) C (c_X11_cleanQ l G τ19 (a1) i20 ) (by decide) (by decide) rfl rfl rfl q2_7 q2_4 q2_6 q0_2 q1_1 (by decide +kernel) rfl (by decide) (by decide) rfl (Nat.le_of_ble_eq_true rfl) dX11_as_35 ?_
            rintro _ τ32 ⟨x35, rfl, i33, f34, b36, h38⟩
            have g37 : Fr MS_X11_asQ AS_X11_asQ σ τ32 := Fr.call (g24) f34 (by decide)
            have v39 : x4q ∈ τ32.2.2.2.1 := by rw [f34.2.2 (by decide)]; exact v26
            show MW p l e _ s m args below meth c _ 4 G 0 0 38 [some (.ref (G.1 0 0)), some (.int a1), some (.int a2), some (.ref x4q)] [.int x35] τ32
            refine m_goto (tgt := 46) C dX11_as_38 (by decide) ?_
            exact m_iret C hr hlk (by decide) (by decide) dX11_as_46 ⟨_, rfl, i33, g37, b36, ⟨(Or.inr (Or.inl ⟨by omega, by omega, by omega, by omega, by omega⟩)), (by omega)⟩⟩
        · skip
          have b40 : IV x22 0 0 := ⟨by omega, by omega⟩
          rw [x4w.2.1] at h25_1
          show MW p l e _ s m args below meth c _ 4 G 0 0 30 [some (.ref (G.1 0 0)), some (.int a1), some (.int a2), some (.ref x4q)] [.int x22] τ19
          refine m_if_eq (tgt := 41) C dX11_as_30 (by decide) (fun c41 => ?_) (fun c41 => ?_)
          · have f42 : x22.toInt = 0 := by
              have q : _ := c41
              simp only [ti_nle, ti_nlt, ti_le, ti_lt, ti_eq, ti_ne, Classical.not_not, kt_0] at q
              omega
            refine m_aload_n C dX11_as_41 rfl rfl ?_
            refine m_iconst (v := 3) C dX11_as_42 (by decide) ?_
            have q43 := kt_3
            refine m_callV (n := 1) (ci := 10) (st := []) C (c_X11_foundQ l G τ19 (3) i20 (iv_wk kc_3 (by decide))) (by decide) (by decide) rfl rfl rfl q1_238 q1_235 q1_237 q0_1 q1_1 (by decide +kernel) rfl (by decide) (by decide) rfl (Nat.le_of_ble_eq_true rfl) dX11_as_43 ?_
            rintro _ τ44 ⟨x47, rfl, i45, f46, b48, h50⟩
            have g49 : Fr MS_X11_asQ AS_X11_asQ σ τ44 := Fr.call (g24) f46 (by decide)
            have v51 : x4q ∈ τ44.2.2.2.1 := by rw [f46.2.2 (by decide)]; exact v26
            have q52 := kt_3
            show MW p l e _ s m args below meth c _ 4 G 0 0 46 [some (.ref (G.1 0 0)), some (.int a1), some (.int a2), some (.ref x4q)] [.int x47] τ44
            exact m_iret C hr hlk (by decide) (by decide) dX11_as_46 ⟨_, rfl, i45, g49, (iv_wk b48 (by decide)), ⟨(Or.inr (Or.inr (⟨by omega, by omega, by omega, by omega, by omega⟩))), (by omega)⟩⟩
          · exfalso
            have q : _ := c41
            simp only [ti_nle, ti_nlt, ti_le, ti_lt, ti_eq, ti_ne, Classical.not_not, kt_0] at q
            have q1 := b40; have q2 := kc_0; omega
      · have f54 : 5 < a2.toInt := by
          have q : _ := c16
          simp only [ti_nle, ti_nlt, ti_le, ti_lt, ti_eq, ti_ne, Classical.not_not, kt_5] at q
          omega
        have b55 : IV a2 6 2147483647 := ⟨by have q1 := kc_5; have q2 := b15; omega, by have q1 := kc_5; have q2 := b15; omega⟩
        refine m_ldc (v := (-1000001)) C dX11_as_22 q1_234 ?_
        exact m_iret C hr hlk (by decide) (by decide) dX11_as_24 ⟨_, rfl, i2, g6, (iv_wk kc_m1000001 (by decide)), ⟨(Or.inl ⟨by have q := kt_m1000001; omega, by have q := kt_m1000001; omega⟩), (by have qk := kt_m1000001; omega)⟩⟩

abbrev MS_X12_asQ : List (Nat × Nat) := [(22, 8)]
abbrev AS_X12_asQ : List Nat := []
set_option maxHeartbeats 4000000 in
set_option maxRecDepth 100000 in
theorem c_X12_asQ (l : Launch) (G : Gt) (σ : Sg) (S : Stt) (I : Nat → Stt) (a1 : Int32) (a2 : Int32) (hI : Inv σ) (hMA : MA σ S I) : Mc l G yX12_as cX12_as 3 (some .int) 2 46 0 0 [.ref (G.1 22 0), .int a1, .int a2] σ (PI fun r τ => Inv τ ∧ Fr MS_X12_asQ AS_X12_asQ σ τ ∧ IV r (-2147483648) 2147483647 ∧ (((((a1.toInt < 0 ∨ S.2.1 ≤ a1.toInt) ∨ a2.toInt < 0 ∨ 5 < a2.toInt) ∧ r.toInt = -1000001) ∨ ((0 ≤ a1.toInt ∧ a1.toInt < S.2.1) ∧ 0 ≤ a2.toInt ∧ a2.toInt ≤ 5 ∧ (a2.toInt = 0 ∨ (S.2.2 a1.toInt.toNat).1 = a2.toInt ∨ (a2.toInt = 1 ∧ (S.2.2 a1.toInt.toNat).1 ≤ 3) ∨ (a2.toInt = 4 ∧ (S.2.2 a1.toInt.toNat).1 = 5)) ∧ r.toInt = a1.toInt) ∨ ((0 ≤ a1.toInt ∧ a1.toInt < S.2.1) ∧ 0 ≤ a2.toInt ∧ a2.toInt ≤ 5 ∧ ¬ (a2.toInt = 0 ∨ (S.2.2 a1.toInt.toNat).1 = a2.toInt ∨ (a2.toInt = 1 ∧ (S.2.2 a1.toInt.toNat).1 ≤ 3) ∨ (a2.toInt = 4 ∧ (S.2.2 a1.toInt.toNat).1 = 5)) ∧ r.toInt = -1000013)) ∧ ((((a1.toInt < 0 ∨ S.2.1 ≤ a1.toInt) ∨ a2.toInt < 0 ∨ 5 < a2.toInt) → (gV τ 22 0 8).toInt = (gV σ 22 0 8).toInt) ∧ (((0 ≤ a1.toInt ∧ a1.toInt < S.2.1) ∧ 0 ≤ a2.toInt ∧ a2.toInt ≤ 5 ∧ (a2.toInt = 0 ∨ (S.2.2 a1.toInt.toNat).1 = a2.toInt ∨ (a2.toInt = 1 ∧ (S.2.2 a1.toInt.toNat).1 ≤ 3) ∨ (a2.toInt = 4 ∧ (S.2.2 a1.toInt.toNat).1 = 5))) → (gV τ 22 0 8).toInt = 0) ∧ (((0 ≤ a1.toInt ∧ a1.toInt < S.2.1) ∧ 0 ≤ a2.toInt ∧ a2.toInt ≤ 5 ∧ ¬ (a2.toInt = 0 ∨ (S.2.2 a1.toInt.toNat).1 = a2.toInt ∨ (a2.toInt = 1 ∧ (S.2.2 a1.toInt.toNat).1 ≤ 3) ∨ (a2.toInt = 4 ∧ (S.2.2 a1.toInt.toNat).1 = 5))) → (gV τ 22 0 8).toInt = 3)))) := by
  refine Mc.of (L0 := [some (.ref (G.1 22 0)), some (.int a1), some (.int a2)]) (by decide) (Nat.le_of_ble_eq_true rfl) rfl ?_
  intro p e s m args below meth c C hr hlk
  have C : Cx p s m args c cX12_as 3 "LeanTowerModel" := C
  have k0 : (0 : Int32).toInt = 0 := by decide
  have k1 : (1 : Int32).toInt = 1 := by decide
  have q1 : (gV σ 23 0 2).toInt = S.2.1 := hMA.1.2.2.1
  have q2 := hMA.1.1
  refine m_aload_n C dX12_as_0 rfl rfl ?_
  refine m_iload_n C dX12_as_1 rfl rfl ?_
  refine m_callV (n := 1) (ci := 11) (st := []) C (c_X12_isOneS l G σ (a1) hI ) (by decide) (by decide) rfl rfl rfl q5_50 q5_47 q5_49 q0_36 q1_7 (by decide +kernel) rfl (by decide) (by decide) rfl (Nat.le_of_ble_eq_true rfl) dX12_as_2 ?_
  rintro _ τ3 ⟨x6, rfl, i4, f5, b7, h9⟩
  have g8 : Fr MS_X12_asQ AS_X12_asQ σ τ3 := Fr.call (Fr.rf) f5 (by decide)
  have q10 : (gV τ3 22 0 8).toInt = (gV σ 22 0 8).toInt := congrArg Int32.toInt (show (gV τ3 22 0 8) = (gV σ 22 0 8) from (show gV τ3 22 0 8 = (gV σ 22 0 8) from (f5.1 22 0 (8) (by decide) (by decide)).trans rfl))
  rcases h9 with ⟨h9_0, h9_1, h9_2⟩ | ⟨h9_0, h9_1⟩
  · skip
    have b11 : IV x6 1 1 := ⟨by omega, by omega⟩
    have b12 : IV a1 0 6 := ⟨by omega, by omega⟩
    show MW p l e _ s m args below meth c _ 3 G 0 0 5 [some (.ref (G.1 22 0)), some (.int a1), some (.int a2)] [.int x6] τ3
    refine m_if_eq (tgt := 20) C dX12_as_5 (by decide) (fun c13 => ?_) (fun c13 => ?_)
    · exfalso
      have q : _ := c13
      simp only [ti_nle, ti_nlt, ti_le, ti_lt, ti_eq, ti_ne, Classical.not_not, kt_0] at q
      have q1 := b11; have q2 := kc_0; omega
    · have f15 : x6.toInt ≠ 0 := by
        have q : _ := c13
        simp only [ti_nle, ti_nlt, ti_le, ti_lt, ti_eq, ti_ne, Classical.not_not, kt_0] at q
        omega
      refine m_iload_n C dX12_as_8 rfl rfl ?_
      refine m_i2l C dX12_as_9 ?_
      refine m_lconst (v := 0) C dX12_as_10 (by decide) ?_
      refine m_ldc2 (v := 5) C dX12_as_11 q5_173 ?_
      refine m_callS (n := 3) (st := []) C (c_X12_in l G τ3 ((a2 : Int32).toInt64) (0) (5) i4 ) q4_190 q4_188 q4_189 q1_7 (by decide +kernel) rfl (by decide) (by decide) rfl (Nat.le_of_ble_eq_true rfl) dX12_as_14 ?_
      rintro _ τ16 ⟨x19, rfl, i17, f18, b20, h22⟩
      have g21 : Fr MS_X12_asQ AS_X12_asQ σ τ16 := Fr.call (g8) f18 (by decide)
      have q23 : (gV τ16 22 0 8).toInt = (gV σ 22 0 8).toInt := congrArg Int32.toInt (show (gV τ16 22 0 8) = (gV σ 22 0 8) from (show gV τ16 22 0 8 = (gV σ 22 0 8) from (f18.1 22 0 (8) (by decide) (by decide)).trans (show gV τ3 22 0 8 = (gV σ 22 0 8) from (f5.1 22 0 (8) (by decide) (by decide)).trans rfl)))
      have f24 := tl_i a2
      have f25 := kl_0
      have f26 := kl_5
      rcases h22 with ⟨h22_0, h22_1, h22_2⟩ | ⟨h22_0, h22_1⟩
      · skip
        have b27 : IV x19 1 1 := ⟨by omega, by omega⟩
        show MW p l e _ s m args below meth c _ 3 G 0 0 17 [some (.ref (G.1 22 0)), some (.int a1), some (.int a2)] [.int x19] τ16
        refine m_if_ne (tgt := 23) C dX12_as_17 (by decide) (fun c28 => ?_) (fun c28 => ?_)
        · have f29 : x19.toInt ≠ 0 := by
            have q : _ := c28
            simp only [ti_nle, ti_nlt, ti_le, ti_lt, ti_eq, ti_ne, Classical.not_not, kt_0] at q
            omega
          have b30 : IV a2 0 5 := ⟨by have q1 := (iv_any a2); omega, by have q1 := (iv_any a2); omega⟩
          refine m_aload_n C dX12_as_23 rfl rfl ?_
          refine g_22_0 C q4_116 dX12_as_24 ?_
          refine m_iconst (v := 3) C dX12_as_27 (by decide) ?_
          refine m_iload_n C dX12_as_28 rfl rfl ?_
          refine m_iadd C dX12_as_29 ?_
          refine m_topi (fun x31 ex31 => ?_)
          have tx31 : x31.toInt = 3 + a1.toInt := by rw [ex31, ti_addv kc_3 b12 (by decide), kt_3]
          have b32 : IV x31 3 9 := by rw [ex31]; exact iv_add kc_3 b12 (by decide)
          refine al_23 C b32 (by decide) rfl dX12_as_30 ?_
          refine m_topi (fun x33 ex33 => ?_)
          have q34 : x33.toInt = (S.2.2 a1.toInt.toNat).1 := by rw [← (hMA.1.2.2.2 a1.toInt.toNat (by omega)).1, show 0 + (3 + a1.toInt.toNat) = (x31.toInt.toNat) by omega, ← (g21).1 23 0 (x31.toInt.toNat) (by simp) (by decide), show gV τ16 23 0 (x31.toInt.toNat) = x33 from ex33.symm]
          refine m_iload_n C dX12_as_31 rfl rfl ?_
          refine m_callS (n := 2) (st := []) C (c_X12_isOfS l G τ16 (x33) (a2) i17 ) q5_193 q5_191 q5_192 q1_7 (by decide +kernel) rfl (by decide) (by decide) rfl (Nat.le_of_ble_eq_true rfl) dX12_as_32 ?_
          rintro _ τ35 ⟨x38, rfl, i36, f37, b39, h41⟩
          have g40 : Fr MS_X12_asQ AS_X12_asQ σ τ35 := Fr.call (g21) f37 (by decide)
          have q42 : (gV τ35 22 0 8).toInt = (gV σ 22 0 8).toInt := congrArg Int32.toInt (show (gV τ35 22 0 8) = (gV σ 22 0 8) from (show gV τ35 22 0 8 = (gV σ 22 0 8) from (f37.1 22 0 (8) (by decide) (by decide)).trans (show gV τ16 22 0 8 = (gV σ 22 0 8) from (f18.1 22 0 (8) (by decide) (by decide)).trans (show gV τ3 22 0 8 = (gV σ 22 0 8) from (f5.1 22 0 (8) (by decide) (by decide)).trans rfl))))
          rcases h41 with ⟨h41_0, h41_1⟩ | ⟨h41_0, h41_1⟩
          · skip
            have b43 : IV x38 1 1 := ⟨by omega, by omega⟩
            show MW p l e _ s m args below meth c _ 3 G 0 0 35 [some (.ref (G.1 22 0)), some (.int a1), some (.int a2)] [.int x38] τ35
            refine m_if_eq (tgt := 46) C dX12_as_35 (by decide) (fun c44 => ?_) (fun c44 => ?_)
            · exfalso
              have q : _ := c44
              simp only [ti_nle, ti_nlt, ti_le, ti_lt, ti_eq, ti_ne, Classical.not_not, kt_0] at q
              have q1 := b43; have q2 := kc_0; omega
            · have f46 : x38.toInt ≠ 0 := by
                have q : _ := c44
                simp only [ti_nle, ti_nlt, ti_le, ti_lt, ti_eq, ti_ne, Classical.not_not, kt_0] at q
                omega
              refine m_aload_n C dX12_as_38 rfl rfl ?_
              refine m_iload_n C dX12_as_39 rfl rfl ?_
              refine m_callV (n := 1) (ci := 11) (st := []) C (c_X12_fineQ l G τ35 (a1) i36 ) (by decide) (by decide) rfl rfl rfl q4_201 q4_198 q4_200 q0_27 q1_7 (by decide +kernel) rfl (by decide) (by decide) rfl (Nat.le_of_ble_eq_true rfl) dX12_as_40 ?_
              rintro _ τ47 ⟨x50, rfl, i48, f49, b51, h53⟩
              have g52 : Fr MS_X12_asQ AS_X12_asQ σ τ47 := Fr.call (g40) f49 (by decide)
              show MW p l e _ s m args below meth c _ 3 G 0 0 43 [some (.ref (G.1 22 0)), some (.int a1), some (.int a2)] [.int x50] τ47
              refine m_goto (tgt := 51) C dX12_as_43 (by decide) ?_
              exact m_iret C hr hlk (by decide) (by decide) dX12_as_51 ⟨_, rfl, i48, g52, b51, ⟨(Or.inr (Or.inl ⟨by omega, by omega, by omega, by omega, by omega⟩)), (by omega)⟩⟩
          · skip
            have b54 : IV x38 0 0 := ⟨by omega, by omega⟩
            show MW p l e _ s m args below meth c _ 3 G 0 0 35 [some (.ref (G.1 22 0)), some (.int a1), some (.int a2)] [.int x38] τ35
            refine m_if_eq (tgt := 46) C dX12_as_35 (by decide) (fun c55 => ?_) (fun c55 => ?_)
            · have f56 : x38.toInt = 0 := by
                have q : _ := c55
                simp only [ti_nle, ti_nlt, ti_le, ti_lt, ti_eq, ti_ne, Classical.not_not, kt_0] at q
                omega
              refine m_aload_n C dX12_as_46 rfl rfl ?_
              refine m_iconst (v := 3) C dX12_as_47 (by decide) ?_
              have q57 := kt_3
              refine m_callV (n := 1) (ci := 11) (st := []) C (c_X12_metQ l G τ35 (3) i36 (iv_wk kc_3 (by decide))) (by decide) (by decide) rfl rfl rfl q4_196 q4_193 q4_195 q0_26 q1_7 (by decide +kernel) rfl (by decide) (by decide) rfl (Nat.le_of_ble_eq_true rfl) dX12_as_48 ?_
              rintro _ τ58 ⟨x61, rfl, i59, f60, b62, h64⟩
              have g63 : Fr MS_X12_asQ AS_X12_asQ σ τ58 := Fr.call (g40) f60 (by decide)
              have q65 := kt_3
              show MW p l e _ s m args below meth c _ 3 G 0 0 51 [some (.ref (G.1 22 0)), some (.int a1), some (.int a2)] [.int x61] τ58
              exact m_iret C hr hlk (by decide) (by decide) dX12_as_51 ⟨_, rfl, i59, g63, (iv_wk b62 (by decide)), ⟨(Or.inr (Or.inr (⟨by omega, by omega, by omega, by omega, by omega⟩))), (by omega)⟩⟩
            · exfalso
              have q : _ := c55
              simp only [ti_nle, ti_nlt, ti_le, ti_lt, ti_eq, ti_ne, Classical.not_not, kt_0] at q
              have q1 := b54; have q2 := kc_0; omega
        · exfalso
          have q : _ := c28
          simp only [ti_nle, ti_nlt, ti_le, ti_lt, ti_eq, ti_ne, Classical.not_not, kt_0] at q
          have q1 := b27; have q2 := kc_0; omega
      · skip
        have b68 : IV x19 0 0 := ⟨by omega, by omega⟩
        show MW p l e _ s m args below meth c _ 3 G 0 0 17 [some (.ref (G.1 22 0)), some (.int a1), some (.int a2)] [.int x19] τ16
        refine m_if_ne (tgt := 23) C dX12_as_17 (by decide) (fun c69 => ?_) (fun c69 => ?_)
        · exfalso
          have q : _ := c69
          simp only [ti_nle, ti_nlt, ti_le, ti_lt, ti_eq, ti_ne, Classical.not_not, kt_0] at q
          have q1 := b68; have q2 := kc_0; omega
        · have f71 : x19.toInt = 0 := by
            have q : _ := c69
            simp only [ti_nle, ti_nlt, ti_le, ti_lt, ti_eq, ti_ne, Classical.not_not, kt_0] at q
            omega
          refine m_ldc (v := (-1000001)) C dX12_as_20 q4_192 ?_
          exact m_iret C hr hlk (by decide) (by decide) dX12_as_22 ⟨_, rfl, i17, g21, (iv_wk kc_m1000001 (by decide)), ⟨(Or.inl ⟨by have q := kt_m1000001; omega, by have q := kt_m1000001; omega⟩), (by have qk := kt_m1000001; omega)⟩⟩
  · skip
    have b72 : IV x6 0 0 := ⟨by omega, by omega⟩
    show MW p l e _ s m args below meth c _ 3 G 0 0 5 [some (.ref (G.1 22 0)), some (.int a1), some (.int a2)] [.int x6] τ3
    refine m_if_eq (tgt := 20) C dX12_as_5 (by decide) (fun c73 => ?_) (fun c73 => ?_)
    · have f74 : x6.toInt = 0 := by
        have q : _ := c73
        simp only [ti_nle, ti_nlt, ti_le, ti_lt, ti_eq, ti_ne, Classical.not_not, kt_0] at q
        omega
      refine m_ldc (v := (-1000001)) C dX12_as_20 q4_192 ?_
      exact m_iret C hr hlk (by decide) (by decide) dX12_as_22 ⟨_, rfl, i4, g8, (iv_wk kc_m1000001 (by decide)), ⟨(Or.inl ⟨by have q := kt_m1000001; omega, by have q := kt_m1000001; omega⟩), (by have qk := kt_m1000001; omega)⟩⟩
    · exfalso
      have q : _ := c73
      simp only [ti_nle, ti_nlt, ti_le, ti_lt, ti_eq, ti_ne, Classical.not_not, kt_0] at q
      have q1 := b72; have q2 := kc_0; omega

abbrev MS_X7_holdsQ : List (Nat × Nat) := []
abbrev AS_X7_holdsQ : List Nat := []
set_option maxHeartbeats 4000000 in
set_option maxRecDepth 100000 in
theorem c_X7_holdsQ (l : Launch) (G : Gt) (σ : Sg) {j : Nat} (hj : j < 8) (a1 : Int32) (a2 : Int32) (a3 : Int32) (hI : Inv σ) (h40 : a1.toInt ≤ 40) : Mc l G yX7_holds cX7_holds 5 (some .boolean) 0 0 0 0 [.ref (G.1 20 j), .int a1, .int a2, .int a3] σ (PI fun r τ => Inv τ ∧ Fr MS_X7_holdsQ AS_X7_holdsQ σ τ ∧ IV r 0 1 ∧ ((r.toInt = 1 ∧ AlI σ j a1.toInt a2.toInt a3.toInt) ∨ (r.toInt = 0 ∧ ¬ AlI σ j a1.toInt a2.toInt a3.toInt))) := by
  refine Mc.of (L0 := [some (.ref (G.1 20 j)), some (.int a1), some (.int a2), some (.int a3), none]) (by decide) (Nat.le_of_ble_eq_true rfl) rfl ?_
  intro p e s m args below meth c C hr hlk
  have C : Cx p s m args c cX7_holds 5 "LeanTower$Row" := C
  have k0 : (0 : Int32).toInt = 0 := by decide
  have k1 : (1 : Int32).toInt = 1 := by decide
  have J3 : ∀ (n : Nat) (τ : Sg) (y4 : Int32), Inv τ → Fr MS_X7_holdsQ AS_X7_holdsQ σ τ → IV a1 (-2147483648) 2147483647 → IV a2 (-2147483648) 2147483647 → IV a3 (-2147483648) 2147483647 → IV y4 0 40 → (AlI σ j y4.toInt a2.toInt a3.toInt) → (40 - y4.toInt).toNat < n → MW p l e { frames := 0, cells := 0, slots := 0, locals := 0 } s m args below meth c (MQ below (QP G (PI fun r τ => Inv τ ∧ Fr MS_X7_holdsQ AS_X7_holdsQ σ τ ∧ IV r 0 1 ∧ ((r.toInt = 1 ∧ AlI σ j a1.toInt a2.toInt a3.toInt) ∨ (r.toInt = 0 ∧ ¬ AlI σ j a1.toInt a2.toInt a3.toInt)))) args s 0 0 (aG G)) 5 G 0 0 3 [some (.ref (G.1 20 j)), some (.int a1), some (.int a2), some (.int a3), some (.int y4)] [] τ := by
    intro n
    induction n with
    | zero => intro τ y4 iτ fτ b_a1 b_a2 b_a3 b_y4 nL hm; exact absurd hm (Nat.not_lt_zero _)
    | succ n ih3 =>
      intro τ y4 iτ fτ b_a1 b_a2 b_a3 b_y4 nL hm3
      refine m_iload C dX7_holds_3 rfl ?_
      refine m_iload_n C dX7_holds_5 rfl rfl ?_
      refine m_icmp_ge (tgt := 46) C dX7_holds_6 (by decide) (fun c1 => ?_) (fun c1 => ?_)
      · have f2 : a1.toInt ≤ y4.toInt := by
          have q : _ := c1
          simp only [ti_nle, ti_nlt, ti_le, ti_lt, ti_eq, ti_ne, Classical.not_not] at q
          omega
        have b3 : IV a1 (-2147483648) 40 := ⟨by have q1 := b_a1; have q2 := b_y4; omega, by have q1 := b_a1; have q2 := b_y4; omega⟩
        refine m_iconst (v := 1) C dX7_holds_46 (by decide) ?_
        exact m_zret C hr rfl hlk (by decide) (by decide) dX7_holds_47 ⟨_, rfl, iτ, fτ, (iv_wk kc_1 (by decide)), (Or.inl ⟨kt_1, nL.all (by omega)⟩)⟩
      · have f4 : y4.toInt < a1.toInt := by
          have q : _ := c1
          simp only [ti_nle, ti_nlt, ti_le, ti_lt, ti_eq, ti_ne, Classical.not_not] at q
          omega
        have b5 : IV a1 1 2147483647 := ⟨by have q1 := b_y4; have q2 := b_a1; omega, by have q1 := b_y4; have q2 := b_a1; omega⟩
        refine m_iload C dX7_holds_9 rfl ?_
        refine m_bipush (v := 40) C dX7_holds_11 (by decide) ?_
        refine m_icmp_ge (tgt := 46) C dX7_holds_13 (by decide) (fun c6 => ?_) (fun c6 => ?_)
        · have f7 : 40 ≤ y4.toInt := by
            have q : _ := c6
            simp only [ti_nle, ti_nlt, ti_le, ti_lt, ti_eq, ti_ne, Classical.not_not, kt_40] at q
            omega
          have b8 : IV y4 40 40 := ⟨by have q1 := kc_40; have q2 := b_y4; omega, by have q1 := kc_40; have q2 := b_y4; omega⟩
          refine m_iconst (v := 1) C dX7_holds_46 (by decide) ?_
          exact m_zret C hr rfl hlk (by decide) (by decide) dX7_holds_47 ⟨_, rfl, iτ, fτ, (iv_wk kc_1 (by decide)), (Or.inl ⟨kt_1, nL.all (by omega)⟩)⟩
        · have f9 : y4.toInt < 40 := by
            have q : _ := c6
            simp only [ti_nle, ti_nlt, ti_le, ti_lt, ti_eq, ti_ne, Classical.not_not, kt_40] at q
            omega
          have b10 : IV y4 0 39 := ⟨by have q1 := b_y4; have q2 := kc_40; omega, by have q1 := b_y4; have q2 := kc_40; omega⟩
          refine m_aload_n C dX7_holds_16 rfl rfl ?_
          refine g_20_0 C hj q1_172 dX7_holds_17 ?_
          refine m_iload C dX7_holds_20 rfl ?_
          refine al_21 C hj b10 (by decide) rfl dX7_holds_22 ?_
          refine m_topi (fun x11 ex11 => ?_)
          have q12 : (gV σ 21 j (y4.toInt.toNat)).toInt = x11.toInt := by rw [ex11, (fτ).1 21 j _ (by simp) (by decide)]
          refine m_iload_n C dX7_holds_23 rfl rfl ?_
          refine m_icmp_lt (tgt := 38) C dX7_holds_24 (by decide) (fun c13 => ?_) (fun c13 => ?_)
          · have f14 : x11.toInt < a2.toInt := by
              have q : _ := c13
              simp only [ti_nle, ti_nlt, ti_le, ti_lt, ti_eq, ti_ne, Classical.not_not] at q
              omega
            have b15 : IV x11 (-2147483648) 2147483646 := ⟨by have q1 := (iv_any x11); have q2 := b_a2; omega, by have q1 := (iv_any x11); have q2 := b_a2; omega⟩
            have b16 : IV a2 (-2147483647) 2147483647 := ⟨by have q1 := (iv_any x11); have q2 := b_a2; omega, by have q1 := (iv_any x11); have q2 := b_a2; omega⟩
            refine m_iconst (v := 0) C dX7_holds_38 (by decide) ?_
            exact m_zret C hr rfl hlk (by decide) (by decide) dX7_holds_39 ⟨_, rfl, iτ, fτ, (iv_wk kc_0 (by decide)), (Or.inr ⟨kt_0, fun g => by have q := g y4.toInt.toNat (by omega); omega⟩)⟩
          · have f17 : a2.toInt ≤ x11.toInt := by
              have q : _ := c13
              simp only [ti_nle, ti_nlt, ti_le, ti_lt, ti_eq, ti_ne, Classical.not_not] at q
              omega
            refine m_aload_n C dX7_holds_27 rfl rfl ?_
            refine g_20_0 C hj q1_172 dX7_holds_28 ?_
            refine m_iload C dX7_holds_31 rfl ?_
            refine al_21 C hj b10 (by decide) rfl dX7_holds_33 ?_
            refine m_eqs (w := x11) ex11.symm ?_
            refine m_iload_n C dX7_holds_34 rfl rfl ?_
            refine m_icmp_le (tgt := 40) C dX7_holds_35 (by decide) (fun c18 => ?_) (fun c18 => ?_)
            · have f19 : x11.toInt ≤ a3.toInt := by
                have q : _ := c18
                simp only [ti_nle, ti_nlt, ti_le, ti_lt, ti_eq, ti_ne, Classical.not_not] at q
                omega
              obtain ⟨x20, ex20⟩ : ∃ y : Int32, y = y4 + 1 := ⟨_, rfl⟩
              have tx20 : x20.toInt = y4.toInt + 1 := by rw [ex20, ti_addv b10 kc_1 (by decide), kt_1]
              have b21 : IV x20 1 40 := by rw [ex20]; exact iv_add b10 kc_1 (by decide)
              refine m_iinc (v := x20) (L1 := [some (.ref (G.1 20 j)), some (.int a1), some (.int a2), some (.int a3), some (.int x20)]) C dX7_holds_40 rfl (by rw [ex20]; rfl) (by decide) rfl rfl ?_
              refine m_goto (tgt := 3) C dX7_holds_43 (by decide) ?_
              exact ih3 τ x20 iτ fτ (iv_wk b5 (by decide)) b_a2 b_a3 (iv_wk b21 (by decide)) (nL.more (k := y4.toInt.toNat) (by omega) (by omega) ⟨by omega, by omega⟩) (by have q := hm3; omega)
            · have f22 : a3.toInt < x11.toInt := by
                have q : _ := c18
                simp only [ti_nle, ti_nlt, ti_le, ti_lt, ti_eq, ti_ne, Classical.not_not] at q
                omega
              have b23 : IV a3 (-2147483648) 2147483646 := ⟨by have q1 := b_a3; have q2 := (iv_any x11); omega, by have q1 := b_a3; have q2 := (iv_any x11); omega⟩
              have b24 : IV x11 (-2147483647) 2147483647 := ⟨by have q1 := b_a3; have q2 := (iv_any x11); omega, by have q1 := b_a3; have q2 := (iv_any x11); omega⟩
              refine m_iconst (v := 0) C dX7_holds_38 (by decide) ?_
              exact m_zret C hr rfl hlk (by decide) (by decide) dX7_holds_39 ⟨_, rfl, iτ, fτ, (iv_wk kc_0 (by decide)), (Or.inr ⟨kt_0, fun g => by have q := g y4.toInt.toNat (by omega); omega⟩)⟩
  refine m_iconst (v := 0) C dX7_holds_0 (by decide) ?_
  refine m_istore (L1 := [some (.ref (G.1 20 j)), some (.int a1), some (.int a2), some (.int a3), some (.int 0)]) C dX7_holds_1 (by decide) rfl rfl ?_
  exact J3 ((40 - (0 : Int32).toInt).toNat + 1) σ 0 hI Fr.rf (iv_any a1) (iv_any a2) (iv_any a3) (iv_wk kc_0 (by decide)) (AlI.zero (by have q := kt_0; omega)) (Nat.lt_succ_self _)

abbrev MS_X11_isMarkQ : List (Nat × Nat) := []
abbrev AS_X11_isMarkQ : List Nat := []
set_option maxHeartbeats 4000000 in
set_option maxRecDepth 100000 in
theorem c_X11_isMarkQ (l : Launch) (G : Gt) (σ : Sg) (a1 : Int32) (hI : Inv σ) : Mc l G yX11_isMark cX11_isMark 1 (some .boolean) 0 0 0 0 [.int a1] σ (PI fun r τ => Inv τ ∧ Fr MS_X11_isMarkQ AS_X11_isMarkQ σ τ ∧ IV r 0 1 ∧ ((r.toInt = 1 ∧ -999 ≤ a1.toInt ∧ a1.toInt ≤ 999) ∨ (r.toInt = 0 ∧ (a1.toInt < -999 ∨ 999 < a1.toInt)))) := by
  refine Mc.of (L0 := [some (.int a1)]) (by decide) (Nat.le_of_ble_eq_true rfl) rfl ?_
  intro p e s m args below meth c C hr hlk
  have C : Cx p s m args c cX11_isMark 1 "LeanTower" := C
  have k0 : (0 : Int32).toInt = 0 := by decide
  have k1 : (1 : Int32).toInt = 1 := by decide
  refine m_iload_n C dX11_isMark_0 rfl rfl ?_
  refine m_sipush (v := (-999)) C dX11_isMark_1 (by decide) ?_
  refine m_icmp_lt (tgt := 18) C dX11_isMark_4 (by decide) (fun c1 => ?_) (fun c1 => ?_)
  · have f2 : a1.toInt < -999 := by
      have q : _ := c1
      simp only [ti_nle, ti_nlt, ti_le, ti_lt, ti_eq, ti_ne, Classical.not_not, kt_m999] at q
      omega
    have b3 : IV a1 (-2147483648) (-1000) := ⟨by have q1 := (iv_any a1); have q2 := kc_m999; omega, by have q1 := (iv_any a1); have q2 := kc_m999; omega⟩
    refine m_iconst (v := 0) C dX11_isMark_18 (by decide) ?_
    exact m_zret C hr rfl hlk (by decide) (by decide) dX11_isMark_19 ⟨_, rfl, hI, Fr.rf, (iv_wk kc_0 (by decide)), (by have q := kt_0; omega)⟩
  · have f4 : -999 ≤ a1.toInt := by
      have q : _ := c1
      simp only [ti_nle, ti_nlt, ti_le, ti_lt, ti_eq, ti_ne, Classical.not_not, kt_m999] at q
      omega
    have b5 : IV a1 (-999) 2147483647 := ⟨by have q1 := kc_m999; have q2 := (iv_any a1); omega, by have q1 := kc_m999; have q2 := (iv_any a1); omega⟩
    refine m_iload_n C dX11_isMark_7 rfl rfl ?_
    refine m_sipush (v := 999) C dX11_isMark_8 (by decide) ?_
    refine m_icmp_gt (tgt := 18) C dX11_isMark_11 (by decide) (fun c6 => ?_) (fun c6 => ?_)
    · have f7 : 999 < a1.toInt := by
        have q : _ := c6
        simp only [ti_nle, ti_nlt, ti_le, ti_lt, ti_eq, ti_ne, Classical.not_not, kt_999] at q
        omega
      have b8 : IV a1 1000 2147483647 := ⟨by have q1 := kc_999; have q2 := b5; omega, by have q1 := kc_999; have q2 := b5; omega⟩
      refine m_iconst (v := 0) C dX11_isMark_18 (by decide) ?_
      exact m_zret C hr rfl hlk (by decide) (by decide) dX11_isMark_19 ⟨_, rfl, hI, Fr.rf, (iv_wk kc_0 (by decide)), (by have q := kt_0; omega)⟩
    · have f9 : a1.toInt ≤ 999 := by
        have q : _ := c6
        simp only [ti_nle, ti_nlt, ti_le, ti_lt, ti_eq, ti_ne, Classical.not_not, kt_999] at q
        omega
      have b10 : IV a1 (-999) 999 := ⟨by have q1 := b5; have q2 := kc_999; omega, by have q1 := b5; have q2 := kc_999; omega⟩
      refine m_iconst (v := 1) C dX11_isMark_14 (by decide) ?_
      refine m_goto (tgt := 19) C dX11_isMark_15 (by decide) ?_
      exact m_zret C hr rfl hlk (by decide) (by decide) dX11_isMark_19 ⟨_, rfl, hI, Fr.rf, (iv_wk kc_1 (by decide)), (by have q := kt_1; omega)⟩

abbrev MS_X11_marksQ : List (Nat × Nat) := [(0, 12), (1, 0), (1, 1), (1, 2), (1, 3), (1, 9), (1, 10), (1, 11)]
abbrev AS_X11_marksQ : List Nat := [2, 3, 4, 5, 6]
set_option maxHeartbeats 4000000 in
set_option maxRecDepth 100000 in
theorem c_X11_marksQ (l : Launch) (G : Gt) (σ : Sg) (S : Stt) (I : Nat → Stt) (a1 : Int32) (a2 : Int32) (a3 : Int32) (a4 : Int32) (hI : Inv σ) (hCA : CA σ S I) (h32 : 0 ≤ S.1 ∧ S.1 ≤ 32) : Mc l G yX11_marks cX11_marks 6 (some .int) 3 72 0 0 [.ref (G.1 0 0), .int a1, .int a2, .int a3, .int a4] σ (PI fun r τ => Inv τ ∧ Fr MS_X11_marksQ AS_X11_marksQ σ τ ∧ IV r (-2147483648) 2147483647 ∧ (SFc σ τ ∧ ((S.1 ≤ 0 ∧ (gV τ 0 0 12).toInt = (gV σ 0 0 12).toInt) ∨ (0 < S.1 ∧ (a1.toInt < 0 ∨ 7 < a1.toInt ∨ a2.toInt < -999 ∨ 999 < a2.toInt ∨ a3.toInt < -999 ∨ 999 < a3.toInt ∨ a4.toInt < -1) ∧ (gV τ 0 0 12).toInt = (gV σ 0 0 12).toInt) ∨ ((0 < S.1 ∧ ((0 ≤ a1.toInt ∧ a1.toInt ≤ 7) ∧ -999 ≤ a2.toInt ∧ a2.toInt ≤ 999 ∧ -999 ≤ a3.toInt ∧ a3.toInt ≤ 999 ∧ -1 ≤ a4.toInt)) ∧ (gV σ 20 (a1.toInt.toNat) 1).toInt = -1 ∧ (gV τ 0 0 12).toInt = 1) ∨ ((0 < S.1 ∧ ((0 ≤ a1.toInt ∧ a1.toInt ≤ 7) ∧ -999 ≤ a2.toInt ∧ a2.toInt ≤ 999 ∧ -999 ≤ a3.toInt ∧ a3.toInt ≤ 999 ∧ -1 ≤ a4.toInt)) ∧ (gV σ 20 (a1.toInt.toNat) 1).toInt ≠ -1 ∧ (gV σ 20 (a1.toInt.toNat) 2).toInt < S.2.1 ∧ (gV τ 0 0 12).toInt = 2) ∨ ((0 < S.1 ∧ ((0 ≤ a1.toInt ∧ a1.toInt ≤ 7) ∧ -999 ≤ a2.toInt ∧ a2.toInt ≤ 999 ∧ -999 ≤ a3.toInt ∧ a3.toInt ≤ 999 ∧ -1 ≤ a4.toInt)) ∧ (gV σ 20 (a1.toInt.toNat) 1).toInt ≠ -1 ∧ S.2.1 ≤ (gV σ 20 (a1.toInt.toNat) 2).toInt ∧ ¬ AlI σ (a1.toInt.toNat) S.2.1 (-1) (S.1 - 1) ∧ (gV τ 0 0 12).toInt = (gV σ 0 0 12).toInt) ∨ ((0 < S.1 ∧ ((0 ≤ a1.toInt ∧ a1.toInt ≤ 7) ∧ -999 ≤ a2.toInt ∧ a2.toInt ≤ 999 ∧ -999 ≤ a3.toInt ∧ a3.toInt ≤ 999 ∧ -1 ≤ a4.toInt)) ∧ (gV σ 20 (a1.toInt.toNat) 1).toInt ≠ -1 ∧ S.2.1 ≤ (gV σ 20 (a1.toInt.toNat) 2).toInt ∧ AlI σ (a1.toInt.toNat) S.2.1 (-1) (S.1 - 1) ∧ (gV τ 0 0 12).toInt = 0)))) := by
  refine Mc.of (L0 := [some (.ref (G.1 0 0)), some (.int a1), some (.int a2), some (.int a3), some (.int a4), none]) (by decide) (Nat.le_of_ble_eq_true rfl) rfl ?_
  intro p e s m args below meth c C hr hlk
  have C : Cx p s m args c cX11_marks 6 "LeanTower" := C
  have k0 : (0 : Int32).toInt = 0 := by decide
  have k1 : (1 : Int32).toInt = 1 := by decide
  have u1 : IV (gV σ 1 0 2) 0 7 := hI.1 1 0 2
  have u2 : IV (gV σ 20 (a1.toInt.toNat) 2) 0 40 := hI.1 20 (a1.toInt.toNat) 2
  have q3 := hCA.1.2.1
  have q4 := hCA.1.2.2.1
  have q5 := hCA.1.1
  refine m_aload_n C dX11_marks_0 rfl rfl ?_
  refine g_0_2 C q1_188 dX11_marks_1 ?_
  refine m_callV (n := 0) (ci := 7) (st := []) C (c_X8_standsS l G σ (j := 0) (by decide)  hI ) (by decide) (by decide) rfl rfl rfl q3_41 q3_38 q3_39 q3_40 q1_3 (by decide +kernel) rfl (by decide) (by decide) rfl (Nat.le_of_ble_eq_true rfl) dX11_marks_4 ?_
  rintro _ τ6 ⟨x9, rfl, i7, f8, b10, h12⟩
  have g11 : Fr MS_X11_marksQ AS_X11_marksQ σ τ6 := Fr.call (Fr.rf) f8 (by decide)
  have v13 : SFc σ τ6 := SFc.rf.fr f8 (by decide) (by decide)
  have q14 : (gV τ6 0 0 12).toInt = (gV σ 0 0 12).toInt := congrArg Int32.toInt (show (gV τ6 0 0 12) = (gV σ 0 0 12) from (show gV τ6 0 0 12 = (gV σ 0 0 12) from (f8.1 0 0 (12) (by decide) (by decide)).trans rfl))
  have q15 : (gV τ6 1 0 0).toInt = (gV σ 1 0 0).toInt := congrArg Int32.toInt (show (gV τ6 1 0 0) = (gV σ 1 0 0) from (show gV τ6 1 0 0 = (gV σ 1 0 0) from (f8.1 1 0 (0) (by decide) (by decide)).trans rfl))
  have q16 : (gV τ6 1 0 2).toInt = (gV σ 1 0 2).toInt := congrArg Int32.toInt (show (gV τ6 1 0 2) = (gV σ 1 0 2) from (show gV τ6 1 0 2 = (gV σ 1 0 2) from (f8.1 1 0 (2) (by decide) (by decide)).trans rfl))
  have q17 : (gV τ6 20 (a1.toInt.toNat) 1).toInt = (gV σ 20 (a1.toInt.toNat) 1).toInt := congrArg Int32.toInt (show (gV τ6 20 (a1.toInt.toNat) 1) = (gV σ 20 (a1.toInt.toNat) 1) from (show gV τ6 20 (a1.toInt.toNat) 1 = (gV σ 20 (a1.toInt.toNat) 1) from (f8.1 20 (a1.toInt.toNat) (1) (by decide) (by decide)).trans rfl))
  have q18 : (gV τ6 20 (a1.toInt.toNat) 2).toInt = (gV σ 20 (a1.toInt.toNat) 2).toInt := congrArg Int32.toInt (show (gV τ6 20 (a1.toInt.toNat) 2) = (gV σ 20 (a1.toInt.toNat) 2) from (show gV τ6 20 (a1.toInt.toNat) 2 = (gV σ 20 (a1.toInt.toNat) 2) from (f8.1 20 (a1.toInt.toNat) (2) (by decide) (by decide)).trans rfl))
  rcases h12 with ⟨h12_0, h12_1⟩ | ⟨h12_0, h12_1⟩
  · skip
    have b19 : IV x9 1 1 := ⟨by omega, by omega⟩
    show MW p l e _ s m args below meth c _ 6 G 0 0 7 [some (.ref (G.1 0 0)), some (.int a1), some (.int a2), some (.int a3), some (.int a4), none] [.int x9] τ6
    refine m_if_ne (tgt := 13) C dX11_marks_7 (by decide) (fun c20 => ?_) (fun c20 => ?_)
    · have f21 : x9.toInt ≠ 0 := by
        have q : _ := c20
        simp only [ti_nle, ti_nlt, ti_le, ti_lt, ti_eq, ti_ne, Classical.not_not, kt_0] at q
        omega
      refine m_aload_n C dX11_marks_13 rfl rfl ?_
      refine m_iload_n C dX11_marks_14 rfl rfl ?_
      refine m_callV (n := 1) (ci := 10) (st := []) C (c_X11_rowAt l G τ6 (a1) i7 ) (by decide) (by decide) rfl rfl rfl q1_233 q1_230 q1_232 q0_0 q1_1 (by decide +kernel) rfl (by decide) (by decide) rfl (Nat.le_of_ble_eq_true rfl) dX11_marks_15 ?_
      rintro _ τ22 ⟨x25, rfl, i23, f24, h28⟩
      have g27 : Fr MS_X11_marksQ AS_X11_marksQ σ τ22 := Fr.call (g11) f24 (by decide)
      have v29 : SFc σ τ22 := v13.fr f24 (by decide) (by decide)
      have q30 : (gV τ22 0 0 12).toInt = (gV σ 0 0 12).toInt := congrArg Int32.toInt (show (gV τ22 0 0 12) = (gV σ 0 0 12) from (show gV τ22 0 0 12 = (gV σ 0 0 12) from (f24.1 0 0 (12) (by decide) (by decide)).trans (show gV τ6 0 0 12 = (gV σ 0 0 12) from (f8.1 0 0 (12) (by decide) (by decide)).trans rfl)))
      have q31 : (gV τ22 1 0 0).toInt = (gV σ 1 0 0).toInt := congrArg Int32.toInt (show (gV τ22 1 0 0) = (gV σ 1 0 0) from (show gV τ22 1 0 0 = (gV σ 1 0 0) from (f24.1 1 0 (0) (by decide) (by decide)).trans (show gV τ6 1 0 0 = (gV σ 1 0 0) from (f8.1 1 0 (0) (by decide) (by decide)).trans rfl)))
      have q32 : (gV τ22 1 0 2).toInt = (gV σ 1 0 2).toInt := congrArg Int32.toInt (show (gV τ22 1 0 2) = (gV σ 1 0 2) from (show gV τ22 1 0 2 = (gV σ 1 0 2) from (f24.1 1 0 (2) (by decide) (by decide)).trans (show gV τ6 1 0 2 = (gV σ 1 0 2) from (f8.1 1 0 (2) (by decide) (by decide)).trans rfl)))
      have q33 : (gV τ22 20 (a1.toInt.toNat) 1).toInt = (gV σ 20 (a1.toInt.toNat) 1).toInt := congrArg Int32.toInt (show (gV τ22 20 (a1.toInt.toNat) 1) = (gV σ 20 (a1.toInt.toNat) 1) from (show gV τ22 20 (a1.toInt.toNat) 1 = (gV σ 20 (a1.toInt.toNat) 1) from (f24.1 20 (a1.toInt.toNat) (1) (by decide) (by decide)).trans (show gV τ6 20 (a1.toInt.toNat) 1 = (gV σ 20 (a1.toInt.toNat) 1) from (f8.1 20 (a1.toInt.toNat) (1) (by decide) (by decide)).trans rfl)))
      have q34 : (gV τ22 20 (a1.toInt.toNat) 2).toInt = (gV σ 20 (a1.toInt.toNat) 2).toInt := congrArg Int32.toInt (show (gV τ22 20 (a1.toInt.toNat) 2) = (gV σ 20 (a1.toInt.toNat) 2) from (show gV τ22 20 (a1.toInt.toNat) 2 = (gV σ 20 (a1.toInt.toNat) 2) from (f24.1 20 (a1.toInt.toNat) (2) (by decide) (by decide)).trans (show gV τ6 20 (a1.toInt.toNat) 2 = (gV σ 20 (a1.toInt.toNat) 2) from (f8.1 20 (a1.toInt.toNat) (2) (by decide) (by decide)).trans rfl)))
      rcases h28 with ⟨rfl, x25q⟩ | ⟨rfl, x25q⟩
      · skip
        show MW p l e _ s m args below meth c _ 6 G 0 0 18 [some (.ref (G.1 0 0)), some (.int a1), some (.int a2), some (.int a3), some (.int a4), none] [.null] τ22
        refine m_astoreN (L1 := [some (.ref (G.1 0 0)), some (.int a1), some (.int a2), some (.int a3), some (.int a4), some (.null)]) C dX11_marks_18 (by decide) rfl rfl ?_
        refine m_aloadN C dX11_marks_20 rfl ?_
        refine m_ifnullN (tgt := 45) C dX11_marks_22 (by decide) ?_
        refine m_ldc (v := (-1000001)) C dX11_marks_45 q1_234 ?_
        exact m_iret C hr hlk (by decide) (by decide) dX11_marks_47 ⟨_, rfl, i23, g27, (iv_wk kc_m1000001 (by decide)), ⟨v29, (Or.inr (Or.inl ⟨by have qk := kt_m1000001; omega, by have qk := kt_m1000001; omega, by have qk := kt_m1000001; omega⟩))⟩⟩
      · have b35 : IV a1 0 7 := ⟨by have q1 := (iv_any a1); omega, by have q1 := (iv_any a1); omega⟩
        show MW p l e _ s m args below meth c _ 6 G 0 0 18 [some (.ref (G.1 0 0)), some (.int a1), some (.int a2), some (.int a3), some (.int a4), none] [.ref (G.1 20 (a1.toInt.toNat))] τ22
        refine m_astore (L1 := [some (.ref (G.1 0 0)), some (.int a1), some (.int a2), some (.int a3), some (.int a4), some (.ref (G.1 20 (a1.toInt.toNat)))]) C dX11_marks_18 (by decide) rfl rfl ?_
        refine m_aload C dX11_marks_20 rfl ?_
        refine m_ifnull C dX11_marks_22 ?_
        refine m_iload_n C dX11_marks_25 rfl rfl ?_
        refine m_callS (n := 1) (st := []) C (c_X11_isMarkQ l G τ22 (a2) i23 ) q3_190 q3_188 q3_189 q1_1 (by decide +kernel) rfl (by decide) (by decide) rfl (Nat.le_of_ble_eq_true rfl) dX11_marks_26 ?_
        rintro _ τ36 ⟨x39, rfl, i37, f38, b40, h42⟩
        have g41 : Fr MS_X11_marksQ AS_X11_marksQ σ τ36 := Fr.call (g27) f38 (by decide)
        have v43 : SFc σ τ36 := v29.fr f38 (by decide) (by decide)
        have q44 : (gV τ36 0 0 12).toInt = (gV σ 0 0 12).toInt := congrArg Int32.toInt (show (gV τ36 0 0 12) = (gV σ 0 0 12) from (show gV τ36 0 0 12 = (gV σ 0 0 12) from (f38.1 0 0 (12) (by decide) (by decide)).trans (show gV τ22 0 0 12 = (gV σ 0 0 12) from (f24.1 0 0 (12) (by decide) (by decide)).trans (show gV τ6 0 0 12 = (gV σ 0 0 12) from (f8.1 0 0 (12) (by decide) (by decide)).trans rfl))))
        have q45 : (gV τ36 1 0 0).toInt = (gV σ 1 0 0).toInt := congrArg Int32.toInt (show (gV τ36 1 0 0) = (gV σ 1 0 0) from (show gV τ36 1 0 0 = (gV σ 1 0 0) from (f38.1 1 0 (0) (by decide) (by decide)).trans (show gV τ22 1 0 0 = (gV σ 1 0 0) from (f24.1 1 0 (0) (by decide) (by decide)).trans (show gV τ6 1 0 0 = (gV σ 1 0 0) from (f8.1 1 0 (0) (by decide) (by decide)).trans rfl))))
        have q46 : (gV τ36 1 0 2).toInt = (gV σ 1 0 2).toInt := congrArg Int32.toInt (show (gV τ36 1 0 2) = (gV σ 1 0 2) from (show gV τ36 1 0 2 = (gV σ 1 0 2) from (f38.1 1 0 (2) (by decide) (by decide)).trans (show gV τ22 1 0 2 = (gV σ 1 0 2) from (f24.1 1 0 (2) (by decide) (by decide)).trans (show gV τ6 1 0 2 = (gV σ 1 0 2) from (f8.1 1 0 (2) (by decide) (by decide)).trans rfl))))
        have q47 : (gV τ36 20 (a1.toInt.toNat) 1).toInt = (gV σ 20 (a1.toInt.toNat) 1).toInt := congrArg Int32.toInt (show (gV τ36 20 (a1.toInt.toNat) 1) = (gV σ 20 (a1.toInt.toNat) 1) from (show gV τ36 20 (a1.toInt.toNat) 1 = (gV σ 20 (a1.toInt.toNat) 1) from (f38.1 20 (a1.toInt.toNat) (1) (by decide) (by decide)).trans (show gV τ22 20 (a1.toInt.toNat) 1 = (gV σ 20 (a1.toInt.toNat) 1) from (f24.1 20 (a1.toInt.toNat) (1) (by decide) (by decide)).trans (show gV τ6 20 (a1.toInt.toNat) 1 = (gV σ 20 (a1.toInt.toNat) 1) from (f8.1 20 (a1.toInt.toNat) (1) (by decide) (by decide)).trans rfl))))
        have q48 : (gV τ36 20 (a1.toInt.toNat) 2).toInt = (gV σ 20 (a1.toInt.toNat) 2).toInt := congrArg Int32.toInt (show (gV τ36 20 (a1.toInt.toNat) 2) = (gV σ 20 (a1.toInt.toNat) 2) from (show gV τ36 20 (a1.toInt.toNat) 2 = (gV σ 20 (a1.toInt.toNat) 2) from (f38.1 20 (a1.toInt.toNat) (2) (by decide) (by decide)).trans (show gV τ22 20 (a1.toInt.toNat) 2 = (gV σ 20 (a1.toInt.toNat) 2) from (f24.1 20 (a1.toInt.toNat) (2) (by decide) (by decide)).trans (show gV τ6 20 (a1.toInt.toNat) 2 = (gV σ 20 (a1.toInt.toNat) 2) from (f8.1 20 (a1.toInt.toNat) (2) (by decide) (by decide)).trans rfl))))
        rcases h42 with ⟨h42_0, h42_1, h42_2⟩ | ⟨h42_0, h42_1⟩
        · skip
          have b49 : IV x39 1 1 := ⟨by omega, by omega⟩
          show MW p l e _ s m args below meth c _ 6 G 0 0 29 [some (.ref (G.1 0 0)), some (.int a1), some (.int a2), some (.int a3), some (.int a4), some (.ref (G.1 20 (a1.toInt.toNat)))] [.int x39] τ36
          refine m_if_eq (tgt := 45) C dX11_marks_29 (by decide) (fun c50 => ?_) (fun c50 => ?_)
          · exfalso
            have q : _ := c50
            simp only [ti_nle, ti_nlt, ti_le, ti_lt, ti_eq, ti_ne, Classical.not_not, kt_0] at q
            have q1 := b49; have q2 := kc_0; omega
          · have f52 : x39.toInt ≠ 0 := by
              have q : _ := c50
              simp only [ti_nle, ti_nlt, ti_le, ti_lt, ti_eq, ti_ne, Classical.not_not, kt_0] at q
              omega
            refine m_iload_n C dX11_marks_32 rfl rfl ?_
            refine m_callS (n := 1) (st := []) C (c_X11_isMarkQ l G τ36 (a3) i37 ) q3_190 q3_188 q3_189 q1_1 (by decide +kernel) rfl (by decide) (by decide) rfl (Nat.le_of_ble_eq_true rfl) dX11_marks_33 ?_
            rintro _ τ53 ⟨x56, rfl, i54, f55, b57, h59⟩
            have g58 : Fr MS_X11_marksQ AS_X11_marksQ σ τ53 := Fr.call (g41) f55 (by decide)
            have v60 : SFc σ τ53 := v43.fr f55 (by decide) (by decide)
            have q61 : (gV τ53 0 0 12).toInt = (gV σ 0 0 12).toInt := congrArg Int32.toInt (show (gV τ53 0 0 12) = (gV σ 0 0 12) from (show gV τ53 0 0 12 = (gV σ 0 0 12) from (f55.1 0 0 (12) (by decide) (by decide)).trans (show gV τ36 0 0 12 = (gV σ 0 0 12) from (f38.1 0 0 (12) (by decide) (by decide)).trans (show gV τ22 0 0 12 = (gV σ 0 0 12) from (f24.1 0 0 (12) (by decide) (by decide)).trans (show gV τ6 0 0 12 = (gV σ 0 0 12) from (f8.1 0 0 (12) (by decide) (by decide)).trans rfl)))))
            have q62 : (gV τ53 1 0 0).toInt = (gV σ 1 0 0).toInt := congrArg Int32.toInt (show (gV τ53 1 0 0) = (gV σ 1 0 0) from (show gV τ53 1 0 0 = (gV σ 1 0 0) from (f55.1 1 0 (0) (by decide) (by decide)).trans (show gV τ36 1 0 0 = (gV σ 1 0 0) from (f38.1 1 0 (0) (by decide) (by decide)).trans (show gV τ22 1 0 0 = (gV σ 1 0 0) from (f24.1 1 0 (0) (by decide) (by decide)).trans (show gV τ6 1 0 0 = (gV σ 1 0 0) from (f8.1 1 0 (0) (by decide) (by decide)).trans rfl)))))
            have q63 : (gV τ53 1 0 2).toInt = (gV σ 1 0 2).toInt := congrArg Int32.toInt (show (gV τ53 1 0 2) = (gV σ 1 0 2) from (show gV τ53 1 0 2 = (gV σ 1 0 2) from (f55.1 1 0 (2) (by decide) (by decide)).trans (show gV τ36 1 0 2 = (gV σ 1 0 2) from (f38.1 1 0 (2) (by decide) (by decide)).trans (show gV τ22 1 0 2 = (gV σ 1 0 2) from (f24.1 1 0 (2) (by decide) (by decide)).trans (show gV τ6 1 0 2 = (gV σ 1 0 2) from (f8.1 1 0 (2) (by decide) (by decide)).trans rfl)))))
            have q64 : (gV τ53 20 (a1.toInt.toNat) 1).toInt = (gV σ 20 (a1.toInt.toNat) 1).toInt := congrArg Int32.toInt (show (gV τ53 20 (a1.toInt.toNat) 1) = (gV σ 20 (a1.toInt.toNat) 1) from (show gV τ53 20 (a1.toInt.toNat) 1 = (gV σ 20 (a1.toInt.toNat) 1) from (f55.1 20 (a1.toInt.toNat) (1) (by decide) (by decide)).trans (show gV τ36 20 (a1.toInt.toNat) 1 = (gV σ 20 (a1.toInt.toNat) 1) from (f38.1 20 (a1.toInt.toNat) (1) (by decide) (by decide)).trans (show gV τ22 20 (a1.toInt.toNat) 1 = (gV σ 20 (a1.toInt.toNat) 1) from (f24.1 20 (a1.toInt.toNat) (1) (by decide) (by decide)).trans (show gV τ6 20 (a1.toInt.toNat) 1 = (gV σ 20 (a1.toInt.toNat) 1) from (f8.1 20 (a1.toInt.toNat) (1) (by decide) (by decide)).trans rfl)))))
            have q65 : (gV τ53 20 (a1.toInt.toNat) 2).toInt = (gV σ 20 (a1.toInt.toNat) 2).toInt := congrArg Int32.toInt (show (gV τ53 20 (a1.toInt.toNat) 2) = (gV σ 20 (a1.toInt.toNat) 2) from (show gV τ53 20 (a1.toInt.toNat) 2 = (gV σ 20 (a1.toInt.toNat) 2) from (f55.1 20 (a1.toInt.toNat) (2) (by decide) (by decide)).trans (show gV τ36 20 (a1.toInt.toNat) 2 = (gV σ 20 (a1.toInt.toNat) 2) from (f38.1 20 (a1.toInt.toNat) (2) (by decide) (by decide)).trans (show gV τ22 20 (a1.toInt.toNat) 2 = (gV σ 20 (a1.toInt.toNat) 2) from (f24.1 20 (a1.toInt.toNat) (2) (by decide) (by decide)).trans (show gV τ6 20 (a1.toInt.toNat) 2 = (gV σ 20 (a1.toInt.toNat) 2) from (f8.1 20 (a1.toInt.toNat) (2) (by decide) (by decide)).trans rfl)))))
            rcases h59 with ⟨h59_0, h59_1, h59_2⟩ | ⟨h59_0, h59_1⟩
            · skip
              have b66 : IV x56 1 1 := ⟨by omega, by omega⟩
              show MW p l e _ s m args below meth c _ 6 G 0 0 36 [some (.ref (G.1 0 0)), some (.int a1), some (.int a2), some (.int a3), some (.int a4), some (.ref (G.1 20 (a1.toInt.toNat)))] [.int x56] τ53
              refine m_if_eq (tgt := 45) C dX11_marks_36 (by decide) (fun c67 => ?_) (fun c67 => ?_)
              · exfalso
                have q : _ := c67
                simp only [ti_nle, ti_nlt, ti_le, ti_lt, ti_eq, ti_ne, Classical.not_not, kt_0] at q
                have q1 := b66; have q2 := kc_0; omega
              · have f69 : x56.toInt ≠ 0 := by
                  have q : _ := c67
                  simp only [ti_nle, ti_nlt, ti_le, ti_lt, ti_eq, ti_ne, Classical.not_not, kt_0] at q
                  omega
                refine m_iload C dX11_marks_39 rfl ?_
                refine m_iconst (v := (-1)) C dX11_marks_41 (by decide) ?_
                refine m_icmp_ge (tgt := 48) C dX11_marks_42 (by decide) (fun c70 => ?_) (fun c70 => ?_)
                · have f71 : -1 ≤ a4.toInt := by
                    have q : _ := c70
                    simp only [ti_nle, ti_nlt, ti_le, ti_lt, ti_eq, ti_ne, Classical.not_not, kt_m1] at q
                    omega
                  have b72 : IV a4 (-1) 2147483647 := ⟨by have q1 := kc_m1; have q2 := (iv_any a4); omega, by have q1 := kc_m1; have q2 := (iv_any a4); omega⟩
                  refine m_aload C dX11_marks_48 rfl ?_
                  refine m_callV (n := 0) (ci := 6) (st := []) C (c_X7_isMissingE l G τ53 (j := (a1.toInt.toNat)) (iv_nat b35 (by decide))  i54 ) (by decide) (iv_nat b35 (by decide)) rfl rfl rfl q2_15 q2_12 q2_13 q2_14 q1_6 (by decide +kernel) rfl (by decide) (by decide) rfl (Nat.le_of_ble_eq_true rfl) dX11_marks_50 ?_
                  rintro _ τ73 ⟨x76, rfl, i74, f75, b77, h79⟩
                  have g78 : Fr MS_X11_marksQ AS_X11_marksQ σ τ73 := Fr.call (g58) f75 (by decide)
                  have v80 : SFc σ τ73 := v60.fr f75 (by decide) (by decide)
                  have q81 : (gV τ73 0 0 12).toInt = (gV σ 0 0 12).toInt := congrArg Int32.toInt (show (gV τ73 0 0 12) = (gV σ 0 0 12) from (show gV τ73 0 0 12 = (gV σ 0 0 12) from (f75.1 0 0 (12) (by decide) (by decide)).trans (show gV τ53 0 0 12 = (gV σ 0 0 12) from (f55.1 0 0 (12) (by decide) (by decide)).trans (show gV τ36 0 0 12 = (gV σ 0 0 12) from (f38.1 0 0 (12) (by decide) (by decide)).trans (show gV τ22 0 0 12 = (gV σ 0 0 12) from (f24.1 0 0 (12) (by decide) (by decide)).trans (show gV τ6 0 0 12 = (gV σ 0 0 12) from (f8.1 0 0 (12) (by decide) (by decide)).trans rfl))))))
                  have q82 : (gV τ73 1 0 0).toInt = (gV σ 1 0 0).toInt := congrArg Int32.toInt (show (gV τ73 1 0 0) = (gV σ 1 0 0) from (show gV τ73 1 0 0 = (gV σ 1 0 0) from (f75.1 1 0 (0) (by decide) (by decide)).trans (show gV τ53 1 0 0 = (gV σ 1 0 0) from (f55.1 1 0 (0) (by decide) (by decide)).trans (show gV τ36 1 0 0 = (gV σ 1 0 0) from (f38.1 1 0 (0) (by decide) (by decide)).trans (show gV τ22 1 0 0 = (gV σ 1 0 0) from (f24.1 1 0 (0) (by decide) (by decide)).trans (show gV τ6 1 0 0 = (gV σ 1 0 0) from (f8.1 1 0 (0) (by decide) (by decide)).trans rfl))))))
                  have q83 : (gV τ73 1 0 2).toInt = (gV σ 1 0 2).toInt := congrArg Int32.toInt (show (gV τ73 1 0 2) = (gV σ 1 0 2) from (show gV τ73 1 0 2 = (gV σ 1 0 2) from (f75.1 1 0 (2) (by decide) (by decide)).trans (show gV τ53 1 0 2 = (gV σ 1 0 2) from (f55.1 1 0 (2) (by decide) (by decide)).trans (show gV τ36 1 0 2 = (gV σ 1 0 2) from (f38.1 1 0 (2) (by decide) (by decide)).trans (show gV τ22 1 0 2 = (gV σ 1 0 2) from (f24.1 1 0 (2) (by decide) (by decide)).trans (show gV τ6 1 0 2 = (gV σ 1 0 2) from (f8.1 1 0 (2) (by decide) (by decide)).trans rfl))))))
                  have q84 : (gV τ73 20 (a1.toInt.toNat) 1).toInt = (gV σ 20 (a1.toInt.toNat) 1).toInt := congrArg Int32.toInt (show (gV τ73 20 (a1.toInt.toNat) 1) = (gV σ 20 (a1.toInt.toNat) 1) from (show gV τ73 20 (a1.toInt.toNat) 1 = (gV σ 20 (a1.toInt.toNat) 1) from (f75.1 20 (a1.toInt.toNat) (1) (by decide) (by decide)).trans (show gV τ53 20 (a1.toInt.toNat) 1 = (gV σ 20 (a1.toInt.toNat) 1) from (f55.1 20 (a1.toInt.toNat) (1) (by decide) (by decide)).trans (show gV τ36 20 (a1.toInt.toNat) 1 = (gV σ 20 (a1.toInt.toNat) 1) from (f38.1 20 (a1.toInt.toNat) (1) (by decide) (by decide)).trans (show gV τ22 20 (a1.toInt.toNat) 1 = (gV σ 20 (a1.toInt.toNat) 1) from (f24.1 20 (a1.toInt.toNat) (1) (by decide) (by decide)).trans (show gV τ6 20 (a1.toInt.toNat) 1 = (gV σ 20 (a1.toInt.toNat) 1) from (f8.1 20 (a1.toInt.toNat) (1) (by decide) (by decide)).trans rfl))))))
                  have q85 : (gV τ73 20 (a1.toInt.toNat) 2).toInt = (gV σ 20 (a1.toInt.toNat) 2).toInt := congrArg Int32.toInt (show (gV τ73 20 (a1.toInt.toNat) 2) = (gV σ 20 (a1.toInt.toNat) 2) from (show gV τ73 20 (a1.toInt.toNat) 2 = (gV σ 20 (a1.toInt.toNat) 2) from (f75.1 20 (a1.toInt.toNat) (2) (by decide) (by decide)).trans (show gV τ53 20 (a1.toInt.toNat) 2 = (gV σ 20 (a1.toInt.toNat) 2) from (f55.1 20 (a1.toInt.toNat) (2) (by decide) (by decide)).trans (show gV τ36 20 (a1.toInt.toNat) 2 = (gV σ 20 (a1.toInt.toNat) 2) from (f38.1 20 (a1.toInt.toNat) (2) (by decide) (by decide)).trans (show gV τ22 20 (a1.toInt.toNat) 2 = (gV σ 20 (a1.toInt.toNat) 2) from (f24.1 20 (a1.toInt.toNat) (2) (by decide) (by decide)).trans (show gV τ6 20 (a1.toInt.toNat) 2 = (gV σ 20 (a1.toInt.toNat) 2) from (f8.1 20 (a1.toInt.toNat) (2) (by decide) (by decide)).trans rfl))))))
                  rcases h79 with ⟨h79_0, h79_1⟩ | ⟨h79_0, h79_1⟩
                  · skip
                    have b86 : IV x76 1 1 := ⟨by omega, by omega⟩
                    show MW p l e _ s m args below meth c _ 6 G 0 0 53 [some (.ref (G.1 0 0)), some (.int a1), some (.int a2), some (.int a3), some (.int a4), some (.ref (G.1 20 (a1.toInt.toNat)))] [.int x76] τ73
                    refine m_if_eq (tgt := 62) C dX11_marks_53 (by decide) (fun c87 => ?_) (fun c87 => ?_)
                    · exfalso
                      have q : _ := c87
                      simp only [ti_nle, ti_nlt, ti_le, ti_lt, ti_eq, ti_ne, Classical.not_not, kt_0] at q
                      have q1 := b86; have q2 := kc_0; omega
                    · have f89 : x76.toInt ≠ 0 := by
                        have q : _ := c87
                        simp only [ti_nle, ti_nlt, ti_le, ti_lt, ti_eq, ti_ne, Classical.not_not, kt_0] at q
                        omega
                      refine m_aload_n C dX11_marks_56 rfl rfl ?_
                      refine m_iconst (v := 1) C dX11_marks_57 (by decide) ?_
                      have q90 := kt_1
                      refine m_callV (n := 1) (ci := 10) (st := []) C (c_X11_foundQ l G τ73 (1) i74 (iv_wk kc_1 (by decide))) (by decide) (by decide) rfl rfl rfl q1_238 q1_235 q1_237 q0_1 q1_1 (by decide +kernel) rfl (by decide) (by decide) rfl (Nat.le_of_ble_eq_true rfl) dX11_marks_58 ?_
                      rintro _ τ91 ⟨x94, rfl, i92, f93, b95, h97⟩
                      have g96 : Fr MS_X11_marksQ AS_X11_marksQ σ τ91 := Fr.call (g78) f93 (by decide)
                      have v98 : SFc σ τ91 := v80.fr f93 (by decide) (by decide)
                      have q99 : (gV τ91 1 0 0).toInt = (gV σ 1 0 0).toInt := congrArg Int32.toInt (show (gV τ91 1 0 0) = (gV σ 1 0 0) from (show gV τ91 1 0 0 = (gV σ 1 0 0) from (f93.1 1 0 (0) (by decide) (by decide)).trans (show gV τ73 1 0 0 = (gV σ 1 0 0) from (f75.1 1 0 (0) (by decide) (by decide)).trans (show gV τ53 1 0 0 = (gV σ 1 0 0) from (f55.1 1 0 (0) (by decide) (by decide)).trans (show gV τ36 1 0 0 = (gV σ 1 0 0) from (f38.1 1 0 (0) (by decide) (by decide)).trans (show gV τ22 1 0 0 = (gV σ 1 0 0) from (f24.1 1 0 (0) (by decide) (by decide)).trans (show gV τ6 1 0 0 = (gV σ 1 0 0) from (f8.1 1 0 (0) (by decide) (by decide)).trans rfl)))))))
                      have q100 : (gV τ91 1 0 2).toInt = (gV σ 1 0 2).toInt := congrArg Int32.toInt (show (gV τ91 1 0 2) = (gV σ 1 0 2) from (show gV τ91 1 0 2 = (gV σ 1 0 2) from (f93.1 1 0 (2) (by decide) (by decide)).trans (show gV τ73 1 0 2 = (gV σ 1 0 2) from (f75.1 1 0 (2) (by decide) (by decide)).trans (show gV τ53 1 0 2 = (gV σ 1 0 2) from (f55.1 1 0 (2) (by decide) (by decide)).trans (show gV τ36 1 0 2 = (gV σ 1 0 2) from (f38.1 1 0 (2) (by decide) (by decide)).trans (show gV τ22 1 0 2 = (gV σ 1 0 2) from (f24.1 1 0 (2) (by decide) (by decide)).trans (show gV τ6 1 0 2 = (gV σ 1 0 2) from (f8.1 1 0 (2) (by decide) (by decide)).trans rfl)))))))
                      have q101 : (gV τ91 20 (a1.toInt.toNat) 1).toInt = (gV σ 20 (a1.toInt.toNat) 1).toInt := congrArg Int32.toInt (show (gV τ91 20 (a1.toInt.toNat) 1) = (gV σ 20 (a1.toInt.toNat) 1) from (show gV τ91 20 (a1.toInt.toNat) 1 = (gV σ 20 (a1.toInt.toNat) 1) from (f93.1 20 (a1.toInt.toNat) (1) (by decide) (by decide)).trans (show gV τ73 20 (a1.toInt.toNat) 1 = (gV σ 20 (a1.toInt.toNat) 1) from (f75.1 20 (a1.toInt.toNat) (1) (by decide) (by decide)).trans (show gV τ53 20 (a1.toInt.toNat) 1 = (gV σ 20 (a1.toInt.toNat) 1) from (f55.1 20 (a1.toInt.toNat) (1) (by decide) (by decide)).trans (show gV τ36 20 (a1.toInt.toNat) 1 = (gV σ 20 (a1.toInt.toNat) 1) from (f38.1 20 (a1.toInt.toNat) (1) (by decide) (by decide)).trans (show gV τ22 20 (a1.toInt.toNat) 1 = (gV σ 20 (a1.toInt.toNat) 1) from (f24.1 20 (a1.toInt.toNat) (1) (by decide) (by decide)).trans (show gV τ6 20 (a1.toInt.toNat) 1 = (gV σ 20 (a1.toInt.toNat) 1) from (f8.1 20 (a1.toInt.toNat) (1) (by decide) (by decide)).trans rfl)))))))
                      have q102 : (gV τ91 20 (a1.toInt.toNat) 2).toInt = (gV σ 20 (a1.toInt.toNat) 2).toInt := congrArg Int32.toInt (show (gV τ91 20 (a1.toInt.toNat) 2) = (gV σ 20 (a1.toInt.toNat) 2) from (show gV τ91 20 (a1.toInt.toNat) 2 = (gV σ 20 (a1.toInt.toNat) 2) from (f93.1 20 (a1.toInt.toNat) (2) (by decide) (by decide)).trans (show gV τ73 20 (a1.toInt.toNat) 2 = (gV σ 20 (a1.toInt.toNat) 2) from (f75.1 20 (a1.toInt.toNat) (2) (by decide) (by decide)).trans (show gV τ53 20 (a1.toInt.toNat) 2 = (gV σ 20 (a1.toInt.toNat) 2) from (f55.1 20 (a1.toInt.toNat) (2) (by decide) (by decide)).trans (show gV τ36 20 (a1.toInt.toNat) 2 = (gV σ 20 (a1.toInt.toNat) 2) from (f38.1 20 (a1.toInt.toNat) (2) (by decide) (by decide)).trans (show gV τ22 20 (a1.toInt.toNat) 2 = (gV σ 20 (a1.toInt.toNat) 2) from (f24.1 20 (a1.toInt.toNat) (2) (by decide) (by decide)).trans (show gV τ6 20 (a1.toInt.toNat) 2 = (gV σ 20 (a1.toInt.toNat) 2) from (f8.1 20 (a1.toInt.toNat) (2) (by decide) (by decide)).trans rfl)))))))
                      have q103 := kt_1
                      show MW p l e _ s m args below meth c _ 6 G 0 0 61 [some (.ref (G.1 0 0)), some (.int a1), some (.int a2), some (.int a3), some (.int a4), some (.ref (G.1 20 (a1.toInt.toNat)))] [.int x94] τ91
                      exact m_iret C hr hlk (by decide) (by decide) dX11_marks_61 ⟨_, rfl, i92, g96, (iv_wk b95 (by decide)), ⟨v98, (Or.inr (Or.inr (Or.inl ⟨by omega, by omega, by omega⟩)))⟩⟩
                  · skip
                    have b104 : IV x76 0 0 := ⟨by omega, by omega⟩
                    show MW p l e _ s m args below meth c _ 6 G 0 0 53 [some (.ref (G.1 0 0)), some (.int a1), some (.int a2), some (.int a3), some (.int a4), some (.ref (G.1 20 (a1.toInt.toNat)))] [.int x76] τ73
                    refine m_if_eq (tgt := 62) C dX11_marks_53 (by decide) (fun c105 => ?_) (fun c105 => ?_)
                    · have f106 : x76.toInt = 0 := by
                        have q : _ := c105
                        simp only [ti_nle, ti_nlt, ti_le, ti_lt, ti_eq, ti_ne, Classical.not_not, kt_0] at q
                        omega
                      refine m_aload C dX11_marks_62 rfl ?_
                      refine g_20_2 C (iv_nat b35 (by decide)) q1_177 dX11_marks_64 ?_
                      refine m_eqs (w := (gV σ 20 (a1.toInt.toNat) 2)) (show gV τ73 20 (a1.toInt.toNat) 2 = (gV σ 20 (a1.toInt.toNat) 2) from (f75.1 20 (a1.toInt.toNat) (2) (by decide) (by decide)).trans (show gV τ53 20 (a1.toInt.toNat) 2 = (gV σ 20 (a1.toInt.toNat) 2) from (f55.1 20 (a1.toInt.toNat) (2) (by decide) (by decide)).trans (show gV τ36 20 (a1.toInt.toNat) 2 = (gV σ 20 (a1.toInt.toNat) 2) from (f38.1 20 (a1.toInt.toNat) (2) (by decide) (by decide)).trans (show gV τ22 20 (a1.toInt.toNat) 2 = (gV σ 20 (a1.toInt.toNat) 2) from (f24.1 20 (a1.toInt.toNat) (2) (by decide) (by decide)).trans (show gV τ6 20 (a1.toInt.toNat) 2 = (gV σ 20 (a1.toInt.toNat) 2) from (f8.1 20 (a1.toInt.toNat) (2) (by decide) (by decide)).trans rfl))))) ?_
                      refine m_aload_n C dX11_marks_67 rfl rfl ?_
                      refine g_0_2 C q1_188 dX11_marks_68 ?_
                      refine g_1_2 C (by decide) q1_82 dX11_marks_71 ?_
                      refine m_eqs (w := (gV σ 1 0 2)) (show gV τ73 1 0 2 = (gV σ 1 0 2) from (f75.1 1 0 (2) (by decide) (by decide)).trans (show gV τ53 1 0 2 = (gV σ 1 0 2) from (f55.1 1 0 (2) (by decide) (by decide)).trans (show gV τ36 1 0 2 = (gV σ 1 0 2) from (f38.1 1 0 (2) (by decide) (by decide)).trans (show gV τ22 1 0 2 = (gV σ 1 0 2) from (f24.1 1 0 (2) (by decide) (by decide)).trans (show gV τ6 1 0 2 = (gV σ 1 0 2) from (f8.1 1 0 (2) (by decide) (by decide)).trans rfl))))) ?_
                      refine m_icmp_ge (tgt := 83) C dX11_marks_74 (by decide) (fun c107 => ?_) (fun c107 => ?_)
                      · have f108 : (gV σ 1 0 2).toInt ≤ (gV σ 20 (a1.toInt.toNat) 2).toInt := by
                          have q : _ := c107
                          simp only [ti_nle, ti_nlt, ti_le, ti_lt, ti_eq, ti_ne, Classical.not_not] at q
                          omega
                        refine m_aload C dX11_marks_83 rfl ?_
                        refine m_aload_n C dX11_marks_85 rfl rfl ?_
                        refine g_0_2 C q1_188 dX11_marks_86 ?_
                        refine g_1_2 C (by decide) q1_82 dX11_marks_89 ?_
                        refine m_eqs (w := (gV σ 1 0 2)) (show gV τ73 1 0 2 = (gV σ 1 0 2) from (f75.1 1 0 (2) (by decide) (by decide)).trans (show gV τ53 1 0 2 = (gV σ 1 0 2) from (f55.1 1 0 (2) (by decide) (by decide)).trans (show gV τ36 1 0 2 = (gV σ 1 0 2) from (f38.1 1 0 (2) (by decide) (by decide)).trans (show gV τ22 1 0 2 = (gV σ 1 0 2) from (f24.1 1 0 (2) (by decide) (by decide)).trans (show gV τ6 1 0 2 = (gV σ 1 0 2) from (f8.1 1 0 (2) (by decide) (by decide)).trans rfl))))) ?_
                        refine m_iconst (v := (-1)) C dX11_marks_92 (by decide) ?_
                        refine m_aload_n C dX11_marks_93 rfl rfl ?_
                        refine g_0_2 C q1_188 dX11_marks_94 ?_
                        refine g_1_0 C (by decide) q1_76 dX11_marks_97 ?_
                        refine m_eqs (w := (gV σ 1 0 0)) (show gV τ73 1 0 0 = (gV σ 1 0 0) from (f75.1 1 0 (0) (by decide) (by decide)).trans (show gV τ53 1 0 0 = (gV σ 1 0 0) from (f55.1 1 0 (0) (by decide) (by decide)).trans (show gV τ36 1 0 0 = (gV σ 1 0 0) from (f38.1 1 0 (0) (by decide) (by decide)).trans (show gV τ22 1 0 0 = (gV σ 1 0 0) from (f24.1 1 0 (0) (by decide) (by decide)).trans (show gV τ6 1 0 0 = (gV σ 1 0 0) from (f8.1 1 0 (0) (by decide) (by decide)).trans rfl))))) ?_
                        refine m_iconst (v := 1) C dX11_marks_100 (by decide) ?_
                        have b109 : IV (gV σ 1 0 0) 0 32 := ⟨by have q1 := (iv_any (gV σ 1 0 0)); omega, by have q1 := (iv_any (gV σ 1 0 0)); omega⟩
                        refine m_isub C dX11_marks_101 ?_
                        refine m_topi (fun x110 ex110 => ?_)
                        have tx110 : x110.toInt = (gV σ 1 0 0).toInt - 1 := by rw [ex110, ti_subv b109 kc_1 (by decide), kt_1]
                        have b111 : IV x110 (-1) 31 := by rw [ex110]; exact iv_sub b109 kc_1 (by decide)
                        have q112 := kt_m1
                        refine m_callV (n := 3) (ci := 6) (st := []) C (c_X7_holdsQ l G τ73 (j := (a1.toInt.toNat)) (iv_nat b35 (by decide)) ((gV σ 1 0 2)) ((-1)) (x110) i74 (by omega)) (by decide) (iv_nat b35 (by decide)) rfl rfl rfl q3_194 q3_191 q3_192 q3_193 q1_6 (by decide +kernel) rfl (by decide) (by decide) rfl (Nat.le_of_ble_eq_true rfl) dX11_marks_102 ?_
                        rintro _ τ113 ⟨x116, rfl, i114, f115, b117, h119⟩
                        have g118 : Fr MS_X11_marksQ AS_X11_marksQ σ τ113 := Fr.call (g78) f115 (by decide)
                        have v120 : SFc σ τ113 := v80.fr f115 (by decide) (by decide)
                        have q121 : (gV τ113 0 0 12).toInt = (gV σ 0 0 12).toInt := congrArg Int32.toInt (show (gV τ113 0 0 12) = (gV σ 0 0 12) from (show gV τ113 0 0 12 = (gV σ 0 0 12) from (f115.1 0 0 (12) (by decide) (by decide)).trans (show gV τ73 0 0 12 = (gV σ 0 0 12) from (f75.1 0 0 (12) (by decide) (by decide)).trans (show gV τ53 0 0 12 = (gV σ 0 0 12) from (f55.1 0 0 (12) (by decide) (by decide)).trans (show gV τ36 0 0 12 = (gV σ 0 0 12) from (f38.1 0 0 (12) (by decide) (by decide)).trans (show gV τ22 0 0 12 = (gV σ 0 0 12) from (f24.1 0 0 (12) (by decide) (by decide)).trans (show gV τ6 0 0 12 = (gV σ 0 0 12) from (f8.1 0 0 (12) (by decide) (by decide)).trans rfl)))))))
                        have q122 : (gV τ113 1 0 0).toInt = (gV σ 1 0 0).toInt := congrArg Int32.toInt (show (gV τ113 1 0 0) = (gV σ 1 0 0) from (show gV τ113 1 0 0 = (gV σ 1 0 0) from (f115.1 1 0 (0) (by decide) (by decide)).trans (show gV τ73 1 0 0 = (gV σ 1 0 0) from (f75.1 1 0 (0) (by decide) (by decide)).trans (show gV τ53 1 0 0 = (gV σ 1 0 0) from (f55.1 1 0 (0) (by decide) (by decide)).trans (show gV τ36 1 0 0 = (gV σ 1 0 0) from (f38.1 1 0 (0) (by decide) (by decide)).trans (show gV τ22 1 0 0 = (gV σ 1 0 0) from (f24.1 1 0 (0) (by decide) (by decide)).trans (show gV τ6 1 0 0 = (gV σ 1 0 0) from (f8.1 1 0 (0) (by decide) (by decide)).trans rfl)))))))
                        have q123 : (gV τ113 1 0 2).toInt = (gV σ 1 0 2).toInt := congrArg Int32.toInt (show (gV τ113 1 0 2) = (gV σ 1 0 2) from (show gV τ113 1 0 2 = (gV σ 1 0 2) from (f115.1 1 0 (2) (by decide) (by decide)).trans (show gV τ73 1 0 2 = (gV σ 1 0 2) from (f75.1 1 0 (2) (by decide) (by decide)).trans (show gV τ53 1 0 2 = (gV σ 1 0 2) from (f55.1 1 0 (2) (by decide) (by decide)).trans (show gV τ36 1 0 2 = (gV σ 1 0 2) from (f38.1 1 0 (2) (by decide) (by decide)).trans (show gV τ22 1 0 2 = (gV σ 1 0 2) from (f24.1 1 0 (2) (by decide) (by decide)).trans (show gV τ6 1 0 2 = (gV σ 1 0 2) from (f8.1 1 0 (2) (by decide) (by decide)).trans rfl)))))))
                        have q124 : (gV τ113 20 (a1.toInt.toNat) 1).toInt = (gV σ 20 (a1.toInt.toNat) 1).toInt := congrArg Int32.toInt (show (gV τ113 20 (a1.toInt.toNat) 1) = (gV σ 20 (a1.toInt.toNat) 1) from (show gV τ113 20 (a1.toInt.toNat) 1 = (gV σ 20 (a1.toInt.toNat) 1) from (f115.1 20 (a1.toInt.toNat) (1) (by decide) (by decide)).trans (show gV τ73 20 (a1.toInt.toNat) 1 = (gV σ 20 (a1.toInt.toNat) 1) from (f75.1 20 (a1.toInt.toNat) (1) (by decide) (by decide)).trans (show gV τ53 20 (a1.toInt.toNat) 1 = (gV σ 20 (a1.toInt.toNat) 1) from (f55.1 20 (a1.toInt.toNat) (1) (by decide) (by decide)).trans (show gV τ36 20 (a1.toInt.toNat) 1 = (gV σ 20 (a1.toInt.toNat) 1) from (f38.1 20 (a1.toInt.toNat) (1) (by decide) (by decide)).trans (show gV τ22 20 (a1.toInt.toNat) 1 = (gV σ 20 (a1.toInt.toNat) 1) from (f24.1 20 (a1.toInt.toNat) (1) (by decide) (by decide)).trans (show gV τ6 20 (a1.toInt.toNat) 1 = (gV σ 20 (a1.toInt.toNat) 1) from (f8.1 20 (a1.toInt.toNat) (1) (by decide) (by decide)).trans rfl)))))))
                        have q125 : (gV τ113 20 (a1.toInt.toNat) 2).toInt = (gV σ 20 (a1.toInt.toNat) 2).toInt := congrArg Int32.toInt (show (gV τ113 20 (a1.toInt.toNat) 2) = (gV σ 20 (a1.toInt.toNat) 2) from (show gV τ113 20 (a1.toInt.toNat) 2 = (gV σ 20 (a1.toInt.toNat) 2) from (f115.1 20 (a1.toInt.toNat) (2) (by decide) (by decide)).trans (show gV τ73 20 (a1.toInt.toNat) 2 = (gV σ 20 (a1.toInt.toNat) 2) from (f75.1 20 (a1.toInt.toNat) (2) (by decide) (by decide)).trans (show gV τ53 20 (a1.toInt.toNat) 2 = (gV σ 20 (a1.toInt.toNat) 2) from (f55.1 20 (a1.toInt.toNat) (2) (by decide) (by decide)).trans (show gV τ36 20 (a1.toInt.toNat) 2 = (gV σ 20 (a1.toInt.toNat) 2) from (f38.1 20 (a1.toInt.toNat) (2) (by decide) (by decide)).trans (show gV τ22 20 (a1.toInt.toNat) 2 = (gV σ 20 (a1.toInt.toNat) 2) from (f24.1 20 (a1.toInt.toNat) (2) (by decide) (by decide)).trans (show gV τ6 20 (a1.toInt.toNat) 2 = (gV σ 20 (a1.toInt.toNat) 2) from (f8.1 20 (a1.toInt.toNat) (2) (by decide) (by decide)).trans rfl)))))))
                        rcases h119 with ⟨h119_0, h119_1⟩ | ⟨h119_0, h119_1⟩
                        · skip
                          have b126 : IV x116 1 1 := ⟨by omega, by omega⟩
                          have q127 : AlI τ73 (a1.toInt.toNat) (gV σ 1 0 2).toInt (-1 : Int32).toInt x110.toInt ↔ AlI σ (a1.toInt.toNat) S.2.1 (-1) (S.1 - 1) := by rw [show (gV σ 1 0 2).toInt = S.2.1 by omega, kt_m1, show x110.toInt = S.1 - 1 by omega]; exact AlI.eq (fun i => (g78).1 21 _ i (by simp) (by decide))
                          rw [q127] at h119_1
                          show MW p l e _ s m args below meth c _ 6 G 0 0 105 [some (.ref (G.1 0 0)), some (.int a1), some (.int a2), some (.int a3), some (.int a4), some (.ref (G.1 20 (a1.toInt.toNat)))] [.int x116] τ113
                          refine m_if_ne (tgt := 111) C dX11_marks_105 (by decide) (fun c128 => ?_) (fun c128 => ?_)
                          · have f129 : x116.toInt ≠ 0 := by
                              have q : _ := c128
                              simp only [ti_nle, ti_nlt, ti_le, ti_lt, ti_eq, ti_ne, Classical.not_not, kt_0] at q
                              omega
                            refine m_aload_n C dX11_marks_111 rfl rfl ?_
                            refine g_0_3 C q1_189 dX11_marks_112 ?_
                            refine m_aload_n C dX11_marks_115 rfl rfl ?_
                            refine g_0_2 C q1_188 dX11_marks_116 ?_
                            refine m_callV (n := 1) (ci := 7) (st := []) C (c_X8_takeFromS l G τ113 (j := 1) (by decide) (j2 := 0) (by decide) i114 (by omega)) (by decide) (by decide) rfl rfl rfl q3_9 q3_6 q3_7 q3_8 q1_3 (by decide +kernel) rfl (by decide) (by decide) rfl (Nat.le_of_ble_eq_true rfl) dX11_marks_119 ?_
                            rintro _ τ130 ⟨rfl, i131, f132, h136⟩
                            have g135 : Fr MS_X11_marksQ AS_X11_marksQ σ τ130 := Fr.call (g118) f132 (by decide)
                            have v137 : SFc σ τ130 := v120.take h136
                            have u138 : IV (gV τ130 1 0 2) 0 7 := i131.1 1 0 2
                            have q139 : (gV τ130 0 0 12).toInt = (gV σ 0 0 12).toInt := congrArg Int32.toInt (show (gV τ130 0 0 12) = (gV σ 0 0 12) from (show gV τ130 0 0 12 = (gV σ 0 0 12) from (f132.1 0 0 (12) (by decide) (by decide)).trans (show gV τ113 0 0 12 = (gV σ 0 0 12) from (f115.1 0 0 (12) (by decide) (by decide)).trans (show gV τ73 0 0 12 = (gV σ 0 0 12) from (f75.1 0 0 (12) (by decide) (by decide)).trans (show gV τ53 0 0 12 = (gV σ 0 0 12) from (f55.1 0 0 (12) (by decide) (by decide)).trans (show gV τ36 0 0 12 = (gV σ 0 0 12) from (f38.1 0 0 (12) (by decide) (by decide)).trans (show gV τ22 0 0 12 = (gV σ 0 0 12) from (f24.1 0 0 (12) (by decide) (by decide)).trans (show gV τ6 0 0 12 = (gV σ 0 0 12) from (f8.1 0 0 (12) (by decide) (by decide)).trans rfl))))))))
                            have q140 : (gV τ130 20 (a1.toInt.toNat) 1).toInt = (gV σ 20 (a1.toInt.toNat) 1).toInt := congrArg Int32.toInt (show (gV τ130 20 (a1.toInt.toNat) 1) = (gV σ 20 (a1.toInt.toNat) 1) from (show gV τ130 20 (a1.toInt.toNat) 1 = (gV σ 20 (a1.toInt.toNat) 1) from (f132.1 20 (a1.toInt.toNat) (1) (by decide) (by decide)).trans (show gV τ113 20 (a1.toInt.toNat) 1 = (gV σ 20 (a1.toInt.toNat) 1) from (f115.1 20 (a1.toInt.toNat) (1) (by decide) (by decide)).trans (show gV τ73 20 (a1.toInt.toNat) 1 = (gV σ 20 (a1.toInt.toNat) 1) from (f75.1 20 (a1.toInt.toNat) (1) (by decide) (by decide)).trans (show gV τ53 20 (a1.toInt.toNat) 1 = (gV σ 20 (a1.toInt.toNat) 1) from (f55.1 20 (a1.toInt.toNat) (1) (by decide) (by decide)).trans (show gV τ36 20 (a1.toInt.toNat) 1 = (gV σ 20 (a1.toInt.toNat) 1) from (f38.1 20 (a1.toInt.toNat) (1) (by decide) (by decide)).trans (show gV τ22 20 (a1.toInt.toNat) 1 = (gV σ 20 (a1.toInt.toNat) 1) from (f24.1 20 (a1.toInt.toNat) (1) (by decide) (by decide)).trans (show gV τ6 20 (a1.toInt.toNat) 1 = (gV σ 20 (a1.toInt.toNat) 1) from (f8.1 20 (a1.toInt.toNat) (1) (by decide) (by decide)).trans rfl))))))))
                            have q141 : (gV τ130 20 (a1.toInt.toNat) 2).toInt = (gV σ 20 (a1.toInt.toNat) 2).toInt := congrArg Int32.toInt (show (gV τ130 20 (a1.toInt.toNat) 2) = (gV σ 20 (a1.toInt.toNat) 2) from (show gV τ130 20 (a1.toInt.toNat) 2 = (gV σ 20 (a1.toInt.toNat) 2) from (f132.1 20 (a1.toInt.toNat) (2) (by decide) (by decide)).trans (show gV τ113 20 (a1.toInt.toNat) 2 = (gV σ 20 (a1.toInt.toNat) 2) from (f115.1 20 (a1.toInt.toNat) (2) (by decide) (by decide)).trans (show gV τ73 20 (a1.toInt.toNat) 2 = (gV σ 20 (a1.toInt.toNat) 2) from (f75.1 20 (a1.toInt.toNat) (2) (by decide) (by decide)).trans (show gV τ53 20 (a1.toInt.toNat) 2 = (gV σ 20 (a1.toInt.toNat) 2) from (f55.1 20 (a1.toInt.toNat) (2) (by decide) (by decide)).trans (show gV τ36 20 (a1.toInt.toNat) 2 = (gV σ 20 (a1.toInt.toNat) 2) from (f38.1 20 (a1.toInt.toNat) (2) (by decide) (by decide)).trans (show gV τ22 20 (a1.toInt.toNat) 2 = (gV σ 20 (a1.toInt.toNat) 2) from (f24.1 20 (a1.toInt.toNat) (2) (by decide) (by decide)).trans (show gV τ6 20 (a1.toInt.toNat) 2 = (gV σ 20 (a1.toInt.toNat) 2) from (f8.1 20 (a1.toInt.toNat) (2) (by decide) (by decide)).trans rfl))))))))
                            show MW p l e _ s m args below meth c _ 6 G 0 0 122 [some (.ref (G.1 0 0)), some (.int a1), some (.int a2), some (.int a3), some (.int a4), some (.ref (G.1 20 (a1.toInt.toNat)))] [] τ130
                            refine m_aload C dX11_marks_122 rfl ?_
                            refine g_20_0 C (iv_nat b35 (by decide)) q1_173 dX11_marks_124 ?_
                            refine m_iconst (v := 0) C dX11_marks_127 (by decide) ?_
                            refine m_aload_n C dX11_marks_128 rfl rfl ?_
                            refine g_0_3 C q1_189 dX11_marks_129 ?_
                            refine g_1_5 C (by decide) q1_88 dX11_marks_132 ?_
                            refine m_iconst (v := 0) C dX11_marks_135 (by decide) ?_
                            refine m_aload_n C dX11_marks_136 rfl rfl ?_
                            refine g_0_2 C q1_188 dX11_marks_137 ?_
                            refine g_1_2 C (by decide) q1_82 dX11_marks_140 ?_
                            refine m_eqs (w := (gV τ130 1 0 2)) rfl ?_
                            have q142 := u138
                            have q143 := kt_0
                            refine m_copy (t0 := 21) (n0 := 40) (t1 := 2) (n1 := 7) (st := []) C (by decide) (iv_nat b35 (by decide)) rfl (by decide) (by decide) (fun _ => rfl) ⟨by omega, by omega, by omega, by omega, by omega⟩ q2_28 q2_30 q2_29 q1_8 ⟨by decide, by decide +kernel⟩ dX11_marks_143 ?_
                            refine m_tops (fun τ144 eτ144 => ?_)
                            have i145 : Inv τ144 := eτ144 ▸ Inv.putRow i131 (by decide) (fun _ => rfl)
                            have f146 : Fr MS_X11_marksQ AS_X11_marksQ σ τ144 := eτ144 ▸ Fr.putRow (g135) (by decide)
                            have v147 : SFc σ τ144 := v137.row eτ144 (by decide)
                            refine m_aload_n C dX11_marks_146 rfl rfl ?_
                            refine m_aload_n C dX11_marks_147 rfl rfl ?_
                            refine m_iload_n C dX11_marks_148 rfl rfl ?_
                            refine m_iload_n C dX11_marks_149 rfl rfl ?_
                            refine m_iload C dX11_marks_150 rfl ?_
                            refine m_callV (n := 3) (ci := 10) (st := [.ref (G.1 0 0)]) C (c_X11_setThatMakes l G τ144 (a2) (a3) (a4) i145 ) (by decide) (by decide) rfl rfl rfl q3_198 q3_195 q3_197 q0_21 q1_1 (by decide +kernel) rfl (by decide) (by decide) rfl (Nat.le_of_ble_eq_true rfl) dX11_marks_152 ?_
                            rintro _ τ148 ⟨x151, rfl, i149, f150, b152⟩
                            have g153 : Fr MS_X11_marksQ AS_X11_marksQ σ τ148 := Fr.call (f146) f150 (by decide)
                            have v155 : SFc σ τ148 := v147.fr f150 (by decide) (by decide)
                            have u156 : IV (gV τ148 1 0 2) 0 7 := i149.1 1 0 2
                            have u157 : IV (gV τ148 20 (a1.toInt.toNat) 2) 0 40 := i149.1 20 (a1.toInt.toNat) 2
                            show MW p l e _ s m args below meth c _ 6 G 0 0 155 [some (.ref (G.1 0 0)), some (.int a1), some (.int a2), some (.int a3), some (.int a4), some (.ref (G.1 20 (a1.toInt.toNat)))] [.int x151, .ref (G.1 0 0)] τ148
                            refine m_callV (n := 1) (ci := 10) (st := []) C (c_X11_cleanQ l G τ148 (x151) i149 ) (by decide) (by decide) rfl rfl rfl q2_7 q2_4 q2_6 q0_2 q1_1 (by decide +kernel) rfl (by decide) (by decide) rfl (Nat.le_of_ble_eq_true rfl) dX11_marks_155 ?_
                            rintro _ τ158 ⟨x161, rfl, i159, f160, b162, h164⟩
                            have g163 : Fr MS_X11_marksQ AS_X11_marksQ σ τ158 := Fr.call (g153) f160 (by decide)
                            have v165 : SFc σ τ158 := v155.fr f160 (by decide) (by decide)
                            have q166 : (gV τ158 1 0 0).toInt = (gV τ148 1 0 0).toInt := congrArg Int32.toInt (show (gV τ158 1 0 0) = (gV τ148 1 0 0) from (show gV τ158 1 0 0 = (gV τ148 1 0 0) from (f160.1 1 0 (0) (by decide) (by decide)).trans rfl))
                            have q167 : (gV τ158 1 0 2).toInt = (gV τ148 1 0 2).toInt := congrArg Int32.toInt (show (gV τ158 1 0 2) = (gV τ148 1 0 2) from (show gV τ158 1 0 2 = (gV τ148 1 0 2) from (f160.1 1 0 (2) (by decide) (by decide)).trans rfl))
                            have q168 : (gV τ158 20 (a1.toInt.toNat) 1).toInt = (gV τ148 20 (a1.toInt.toNat) 1).toInt := congrArg Int32.toInt (show (gV τ158 20 (a1.toInt.toNat) 1) = (gV τ148 20 (a1.toInt.toNat) 1) from (show gV τ158 20 (a1.toInt.toNat) 1 = (gV τ148 20 (a1.toInt.toNat) 1) from (f160.1 20 (a1.toInt.toNat) (1) (by decide) (by decide)).trans rfl))
                            have q169 : (gV τ158 20 (a1.toInt.toNat) 2).toInt = (gV τ148 20 (a1.toInt.toNat) 2).toInt := congrArg Int32.toInt (show (gV τ158 20 (a1.toInt.toNat) 2) = (gV τ148 20 (a1.toInt.toNat) 2) from (show gV τ158 20 (a1.toInt.toNat) 2 = (gV τ148 20 (a1.toInt.toNat) 2) from (f160.1 20 (a1.toInt.toNat) (2) (by decide) (by decide)).trans rfl))
                            show MW p l e _ s m args below meth c _ 6 G 0 0 158 [some (.ref (G.1 0 0)), some (.int a1), some (.int a2), some (.int a3), some (.int a4), some (.ref (G.1 20 (a1.toInt.toNat)))] [.int x161] τ158
                            exact m_iret C hr hlk (by decide) (by decide) dX11_marks_158 ⟨_, rfl, i159, g163, b162, ⟨v165, (Or.inr (Or.inr (Or.inr (Or.inr (Or.inr (⟨by omega, by omega, by omega, h119_1, by omega⟩))))))⟩⟩
                          · exfalso
                            have q : _ := c128
                            simp only [ti_nle, ti_nlt, ti_le, ti_lt, ti_eq, ti_ne, Classical.not_not, kt_0] at q
                            have q1 := b126; have q2 := kc_0; omega
                        · skip
                          have b171 : IV x116 0 0 := ⟨by omega, by omega⟩
                          have q172 : AlI τ73 (a1.toInt.toNat) (gV σ 1 0 2).toInt (-1 : Int32).toInt x110.toInt ↔ AlI σ (a1.toInt.toNat) S.2.1 (-1) (S.1 - 1) := by rw [show (gV σ 1 0 2).toInt = S.2.1 by omega, kt_m1, show x110.toInt = S.1 - 1 by omega]; exact AlI.eq (fun i => (g78).1 21 _ i (by simp) (by decide))
                          rw [q172] at h119_1
                          show MW p l e _ s m args below meth c _ 6 G 0 0 105 [some (.ref (G.1 0 0)), some (.int a1), some (.int a2), some (.int a3), some (.int a4), some (.ref (G.1 20 (a1.toInt.toNat)))] [.int x116] τ113
                          refine m_if_ne (tgt := 111) C dX11_marks_105 (by decide) (fun c173 => ?_) (fun c173 => ?_)
                          · exfalso
                            have q : _ := c173
                            simp only [ti_nle, ti_nlt, ti_le, ti_lt, ti_eq, ti_ne, Classical.not_not, kt_0] at q
                            have q1 := b171; have q2 := kc_0; omega
                          · have f175 : x116.toInt = 0 := by
                              have q : _ := c173
                              simp only [ti_nle, ti_nlt, ti_le, ti_lt, ti_eq, ti_ne, Classical.not_not, kt_0] at q
                              omega
                            refine m_ldc (v := (-1000001)) C dX11_marks_108 q1_234 ?_
                            exact m_iret C hr hlk (by decide) (by decide) dX11_marks_110 ⟨_, rfl, i114, g118, (iv_wk kc_m1000001 (by decide)), ⟨v120, (Or.inr (Or.inr (Or.inr (Or.inr (Or.inl ⟨by have qk := kt_m1000001; omega, by have qk := kt_m1000001; omega, by have qk := kt_m1000001; omega, h119_1, by have qk := kt_m1000001; omega⟩)))))⟩⟩
                      · have f176 : (gV σ 20 (a1.toInt.toNat) 2).toInt < (gV σ 1 0 2).toInt := by
                          have q : _ := c107
                          simp only [ti_nle, ti_nlt, ti_le, ti_lt, ti_eq, ti_ne, Classical.not_not] at q
                          omega
                        have b177 : IV (gV σ 20 (a1.toInt.toNat) 2) 0 6 := ⟨by have q1 := u2; have q2 := u1; omega, by have q1 := u2; have q2 := u1; omega⟩
                        have b178 : IV (gV σ 1 0 2) 1 7 := ⟨by have q1 := u2; have q2 := u1; omega, by have q1 := u2; have q2 := u1; omega⟩
                        refine m_aload_n C dX11_marks_77 rfl rfl ?_
                        refine m_iconst (v := 2) C dX11_marks_78 (by decide) ?_
                        have q179 := kt_2
                        refine m_callV (n := 1) (ci := 10) (st := []) C (c_X11_foundQ l G τ73 (2) i74 (iv_wk kc_2 (by decide))) (by decide) (by decide) rfl rfl rfl q1_238 q1_235 q1_237 q0_1 q1_1 (by decide +kernel) rfl (by decide) (by decide) rfl (Nat.le_of_ble_eq_true rfl) dX11_marks_79 ?_
                        rintro _ τ180 ⟨x183, rfl, i181, f182, b184, h186⟩
                        have g185 : Fr MS_X11_marksQ AS_X11_marksQ σ τ180 := Fr.call (g78) f182 (by decide)
                        have v187 : SFc σ τ180 := v80.fr f182 (by decide) (by decide)
                        have q188 : (gV τ180 1 0 0).toInt = (gV σ 1 0 0).toInt := congrArg Int32.toInt (show (gV τ180 1 0 0) = (gV σ 1 0 0) from (show gV τ180 1 0 0 = (gV σ 1 0 0) from (f182.1 1 0 (0) (by decide) (by decide)).trans (show gV τ73 1 0 0 = (gV σ 1 0 0) from (f75.1 1 0 (0) (by decide) (by decide)).trans (show gV τ53 1 0 0 = (gV σ 1 0 0) from (f55.1 1 0 (0) (by decide) (by decide)).trans (show gV τ36 1 0 0 = (gV σ 1 0 0) from (f38.1 1 0 (0) (by decide) (by decide)).trans (show gV τ22 1 0 0 = (gV σ 1 0 0) from (f24.1 1 0 (0) (by decide) (by decide)).trans (show gV τ6 1 0 0 = (gV σ 1 0 0) from (f8.1 1 0 (0) (by decide) (by decide)).trans rfl)))))))
                        have q189 : (gV τ180 1 0 2).toInt = (gV σ 1 0 2).toInt := congrArg Int32.toInt (show (gV τ180 1 0 2) = (gV σ 1 0 2) from (show gV τ180 1 0 2 = (gV σ 1 0 2) from (f182.1 1 0 (2) (by decide) (by decide)).trans (show gV τ73 1 0 2 = (gV σ 1 0 2) from (f75.1 1 0 (2) (by decide) (by decide)).trans (show gV τ53 1 0 2 = (gV σ 1 0 2) from (f55.1 1 0 (2) (by decide) (by decide)).trans (show gV τ36 1 0 2 = (gV σ 1 0 2) from (f38.1 1 0 (2) (by decide) (by decide)).trans (show gV τ22 1 0 2 = (gV σ 1 0 2) from (f24.1 1 0 (2) (by decide) (by decide)).trans (show gV τ6 1 0 2 = (gV σ 1 0 2) from (f8.1 1 0 (2) (by decide) (by decide)).trans rfl)))))))
                        have q190 : (gV τ180 20 (a1.toInt.toNat) 1).toInt = (gV σ 20 (a1.toInt.toNat) 1).toInt := congrArg Int32.toInt (show (gV τ180 20 (a1.toInt.toNat) 1) = (gV σ 20 (a1.toInt.toNat) 1) from (show gV τ180 20 (a1.toInt.toNat) 1 = (gV σ 20 (a1.toInt.toNat) 1) from (f182.1 20 (a1.toInt.toNat) (1) (by decide) (by decide)).trans (show gV τ73 20 (a1.toInt.toNat) 1 = (gV σ 20 (a1.toInt.toNat) 1) from (f75.1 20 (a1.toInt.toNat) (1) (by decide) (by decide)).trans (show gV τ53 20 (a1.toInt.toNat) 1 = (gV σ 20 (a1.toInt.toNat) 1) from (f55.1 20 (a1.toInt.toNat) (1) (by decide) (by decide)).trans (show gV τ36 20 (a1.toInt.toNat) 1 = (gV σ 20 (a1.toInt.toNat) 1) from (f38.1 20 (a1.toInt.toNat) (1) (by decide) (by decide)).trans (show gV τ22 20 (a1.toInt.toNat) 1 = (gV σ 20 (a1.toInt.toNat) 1) from (f24.1 20 (a1.toInt.toNat) (1) (by decide) (by decide)).trans (show gV τ6 20 (a1.toInt.toNat) 1 = (gV σ 20 (a1.toInt.toNat) 1) from (f8.1 20 (a1.toInt.toNat) (1) (by decide) (by decide)).trans rfl)))))))
                        have q191 : (gV τ180 20 (a1.toInt.toNat) 2).toInt = (gV σ 20 (a1.toInt.toNat) 2).toInt := congrArg Int32.toInt (show (gV τ180 20 (a1.toInt.toNat) 2) = (gV σ 20 (a1.toInt.toNat) 2) from (show gV τ180 20 (a1.toInt.toNat) 2 = (gV σ 20 (a1.toInt.toNat) 2) from (f182.1 20 (a1.toInt.toNat) (2) (by decide) (by decide)).trans (show gV τ73 20 (a1.toInt.toNat) 2 = (gV σ 20 (a1.toInt.toNat) 2) from (f75.1 20 (a1.toInt.toNat) (2) (by decide) (by decide)).trans (show gV τ53 20 (a1.toInt.toNat) 2 = (gV σ 20 (a1.toInt.toNat) 2) from (f55.1 20 (a1.toInt.toNat) (2) (by decide) (by decide)).trans (show gV τ36 20 (a1.toInt.toNat) 2 = (gV σ 20 (a1.toInt.toNat) 2) from (f38.1 20 (a1.toInt.toNat) (2) (by decide) (by decide)).trans (show gV τ22 20 (a1.toInt.toNat) 2 = (gV σ 20 (a1.toInt.toNat) 2) from (f24.1 20 (a1.toInt.toNat) (2) (by decide) (by decide)).trans (show gV τ6 20 (a1.toInt.toNat) 2 = (gV σ 20 (a1.toInt.toNat) 2) from (f8.1 20 (a1.toInt.toNat) (2) (by decide) (by decide)).trans rfl)))))))
                        have q192 := kt_2
                        show MW p l e _ s m args below meth c _ 6 G 0 0 82 [some (.ref (G.1 0 0)), some (.int a1), some (.int a2), some (.int a3), some (.int a4), some (.ref (G.1 20 (a1.toInt.toNat)))] [.int x183] τ180
                        exact m_iret C hr hlk (by decide) (by decide) dX11_marks_82 ⟨_, rfl, i181, g185, (iv_wk b184 (by decide)), ⟨v187, (Or.inr (Or.inr (Or.inr (Or.inl ⟨by omega, by omega, by omega, by omega⟩))))⟩⟩
                    · exfalso
                      have q : _ := c105
                      simp only [ti_nle, ti_nlt, ti_le, ti_lt, ti_eq, ti_ne, Classical.not_not, kt_0] at q
                      have q1 := b104; have q2 := kc_0; omega
                · have f194 : a4.toInt < -1 := by
                    have q : _ := c70
                    simp only [ti_nle, ti_nlt, ti_le, ti_lt, ti_eq, ti_ne, Classical.not_not, kt_m1] at q
                    omega
                  have b195 : IV a4 (-2147483648) (-2) := ⟨by have q1 := (iv_any a4); have q2 := kc_m1; omega, by have q1 := (iv_any a4); have q2 := kc_m1; omega⟩
                  refine m_ldc (v := (-1000001)) C dX11_marks_45 q1_234 ?_
                  exact m_iret C hr hlk (by decide) (by decide) dX11_marks_47 ⟨_, rfl, i54, g58, (iv_wk kc_m1000001 (by decide)), ⟨v60, (Or.inr (Or.inl ⟨by have qk := kt_m1000001; omega, by have qk := kt_m1000001; omega, by have qk := kt_m1000001; omega⟩))⟩⟩
            · skip
              have b196 : IV x56 0 0 := ⟨by omega, by omega⟩
              show MW p l e _ s m args below meth c _ 6 G 0 0 36 [some (.ref (G.1 0 0)), some (.int a1), some (.int a2), some (.int a3), some (.int a4), some (.ref (G.1 20 (a1.toInt.toNat)))] [.int x56] τ53
              refine m_if_eq (tgt := 45) C dX11_marks_36 (by decide) (fun c197 => ?_) (fun c197 => ?_)
              · have f198 : x56.toInt = 0 := by
                  have q : _ := c197
                  simp only [ti_nle, ti_nlt, ti_le, ti_lt, ti_eq, ti_ne, Classical.not_not, kt_0] at q
                  omega
                refine m_ldc (v := (-1000001)) C dX11_marks_45 q1_234 ?_
                exact m_iret C hr hlk (by decide) (by decide) dX11_marks_47 ⟨_, rfl, i54, g58, (iv_wk kc_m1000001 (by decide)), ⟨v60, (Or.inr (Or.inl ⟨by have qk := kt_m1000001; omega, by have qk := kt_m1000001; omega, by have qk := kt_m1000001; omega⟩))⟩⟩
              · exfalso
                have q : _ := c197
                simp only [ti_nle, ti_nlt, ti_le, ti_lt, ti_eq, ti_ne, Classical.not_not, kt_0] at q
                have q1 := b196; have q2 := kc_0; omega
        · skip
          have b200 : IV x39 0 0 := ⟨by omega, by omega⟩
          show MW p l e _ s m args below meth c _ 6 G 0 0 29 [some (.ref (G.1 0 0)), some (.int a1), some (.int a2), some (.int a3), some (.int a4), some (.ref (G.1 20 (a1.toInt.toNat)))] [.int x39] τ36
          refine m_if_eq (tgt := 45) C dX11_marks_29 (by decide) (fun c201 => ?_) (fun c201 => ?_)
          · have f202 : x39.toInt = 0 := by
              have q : _ := c201
              simp only [ti_nle, ti_nlt, ti_le, ti_lt, ti_eq, ti_ne, Classical.not_not, kt_0] at q
              omega
            refine m_ldc (v := (-1000001)) C dX11_marks_45 q1_234 ?_
            exact m_iret C hr hlk (by decide) (by decide) dX11_marks_47 ⟨_, rfl, i37, g41, (iv_wk kc_m1000001 (by decide)), ⟨v43, (Or.inr (Or.inl ⟨by have qk := kt_m1000001; omega, by have qk := kt_m1000001; omega, by have qk := kt_m1000001; omega⟩))⟩⟩
          · exfalso
            have q : _ := c201
            simp only [ti_nle, ti_nlt, ti_le, ti_lt, ti_eq, ti_ne, Classical.not_not, kt_0] at q
            have q1 := b200; have q2 := kc_0; omega
    · exfalso
      have q : _ := c20
      simp only [ti_nle, ti_nlt, ti_le, ti_lt, ti_eq, ti_ne, Classical.not_not, kt_0] at q
      have q1 := b19; have q2 := kc_0; omega
  · skip
    have b205 : IV x9 0 0 := ⟨by omega, by omega⟩
    show MW p l e _ s m args below meth c _ 6 G 0 0 7 [some (.ref (G.1 0 0)), some (.int a1), some (.int a2), some (.int a3), some (.int a4), none] [.int x9] τ6
    refine m_if_ne (tgt := 13) C dX11_marks_7 (by decide) (fun c206 => ?_) (fun c206 => ?_)
    · exfalso
      have q : _ := c206
      simp only [ti_nle, ti_nlt, ti_le, ti_lt, ti_eq, ti_ne, Classical.not_not, kt_0] at q
      have q1 := b205; have q2 := kc_0; omega
    · have f208 : x9.toInt = 0 := by
        have q : _ := c206
        simp only [ti_nle, ti_nlt, ti_le, ti_lt, ti_eq, ti_ne, Classical.not_not, kt_0] at q
        omega
      refine m_ldc (v := (-1000002)) C dX11_marks_10 q3_42 ?_
      exact m_iret C hr hlk (by decide) (by decide) dX11_marks_12 ⟨_, rfl, i7, g11, (iv_wk kc_m1000002 (by decide)), ⟨v13, (Or.inl ⟨by have qk := kt_m1000002; omega, by have qk := kt_m1000002; omega⟩)⟩⟩
