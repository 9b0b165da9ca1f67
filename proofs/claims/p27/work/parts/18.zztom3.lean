/-- the token at hand -/
def CuM (T : Nat → Int) (N i : Nat) (σ : Sg) : Prop := ((gV σ 22 0 12).toInt = (tS T i : Int) ∧ (tK T N i ≠ 4 → (gV σ 22 0 11).toInt = (tE T N i : Int)) ∧ (gV σ 22 0 13).toInt = (tK T N i + 4) % 5 ∧ 0 ≤ tK T N i ∧ tK T N i ≤ 4 ∧ (tK T N i = 2 → (gV σ 22 0 15).toInt = tV T i) ∧ (gV σ 22 0 12).toInt ≤ 400) ∧ (gV σ 22 0 11).toInt ≤ (gV σ 22 0 6).toInt
theorem CuM.same {T : Nat → Int} {N i : Nat} {σ τ : Sg} (h : CuM T N i σ) (e6 : gV τ 22 0 6 = gV σ 22 0 6) (e11 : gV τ 22 0 11 = gV σ 22 0 11) (e12 : gV τ 22 0 12 = gV σ 22 0 12) (e13 : gV τ 22 0 13 = gV σ 22 0 13) (e15 : gV τ 22 0 15 = gV σ 22 0 15) : CuM T N i τ := by
  unfold CuM
  rw [e6, e11, e12, e13, e15]
  exact h
theorem CuM.put {T : Nat → Int} {N i t j k : Nat} {v : Int32} {σ τ : Sg} (h : CuM T N i σ) (e : τ = sV σ t j k v) (ht : t ≠ 22 ∨ (k ≠ 6 ∧ k ≠ 11 ∧ k ≠ 12 ∧ k ≠ 13 ∧ k ≠ 15)) : CuM T N i τ := by
  have g : ∀ q, (q = 6 ∨ q = 11 ∨ q = 12 ∨ q = 13 ∨ q = 15) → gV τ 22 0 q = gV σ 22 0 q := fun q hq => gV_putn e (by
    rcases ht with z | z
    · exact Or.inl (Ne.symm z)
    · exact Or.inr (Or.inr (by omega)))
  exact h.same (g 6 (by decide)) (g 11 (by decide)) (g 12 (by decide)) (g 13 (by decide)) (g 15 (by decide))
theorem CuM.fr {T : Nat → Int} {N i : Nat} {M : List (Nat × Nat)} {A : List Nat} {σ τ : Sg} (h : CuM T N i σ) (f : Fr M A σ τ) (hm : (M.contains (22, 6) || M.contains (22, 11) || M.contains (22, 12) || M.contains (22, 13) || M.contains (22, 15)) = false) (ha : A.contains 22 = false) : CuM T N i τ := by
  simp only [Bool.or_eq_false_iff] at hm
  have n : ∀ q, M.contains q = false → q ∉ M := fun q hq z => by rw [List.contains_iff_mem.mpr z] at hq; exact absurd hq (by decide)
  have a : 22 ∉ A := fun z => by rw [List.contains_iff_mem.mpr z] at ha; exact absurd ha (by decide)
  exact h.same (f.1 22 0 6 (n _ hm.1.1.1.1) a) (f.1 22 0 11 (n _ hm.1.1.1.2) a) (f.1 22 0 12 (n _ hm.1.1.2) a) (f.1 22 0 13 (n _ hm.1.2) a) (f.1 22 0 15 (n _ hm.2) a)
theorem nat_ne {x : Int32} {a b : Int} {n : Nat} (h : IV x a b) (hh : 0 ≤ a ∧ ((n : Int) < a ∨ b < (n : Int))) : n ≠ x.toInt.toNat := by
  have h1 := h.1
  have h2 := h.2
  omega
theorem tQ_k {T : Nat → Int} {N i : Nat} (h : tQ T N i ≠ 0) : tK T N i = 1 := by
  by_cases g : tK T N i = 1
  · exact g
  · exact absurd (by unfold tQ; rw [if_pos g]) h
abbrev MS_X12_takeNumberE : List (Nat × Nat) := [(22, 11), (22, 12), (22, 13), (22, 15), (22, 16)]
abbrev AS_X12_takeNumberE : List Nat := []
set_option maxHeartbeats 4000000 in
set_option maxRecDepth 100000 in
theorem c_X12_takeNumberE (l : Launch) (G : Gt) (σ : Sg) (T : Nat → Int) (N : Nat) (i : Nat) (a1 : Int32) (a2 : Int32) (a3 : Int32) (hI : Inv σ) (hT : TpM σ T N) (hcur : ((gV σ 22 0 12).toInt = (tS T i : Int) ∧ (tK T N i ≠ 4 → (gV σ 22 0 11).toInt = (tE T N i : Int)) ∧ (gV σ 22 0 13).toInt = (tK T N i + 4) % 5 ∧ 0 ≤ tK T N i ∧ tK T N i ≤ 4 ∧ (tK T N i = 2 → (gV σ 22 0 15).toInt = tV T i) ∧ (gV σ 22 0 12).toInt ≤ 400)) (hat : (gV σ 22 0 11).toInt ≤ (gV σ 22 0 6).toInt) : Mc l G yX12_takeNumber cX12_takeNumber 5 (some .int) 2 45 0 0 [.ref (G.1 22 0), .int a1, .int a2, .int a3] σ (PI fun r τ => Inv τ ∧ Fr MS_X12_takeNumberE AS_X12_takeNumberE σ τ ∧ IV r (-2147483648) 2147483647 ∧ ((tK T N i ≠ 2 ∧ r.toInt = -1 ∧ (gV τ 22 0 16).toInt = 1 ∧ ((gV τ 22 0 12).toInt = (tS T i : Int) ∧ (gV τ 22 0 12).toInt ≤ 400) ∧ (gV τ 22 0 11).toInt ≤ (gV τ 22 0 6).toInt) ∨ (tK T N i = 2 ∧ ¬ (a1.toInt ≤ tV T i ∧ tV T i ≤ a2.toInt) ∧ tV T i ≠ a3.toInt ∧ r.toInt = -1 ∧ (gV τ 22 0 16).toInt = 2 ∧ ((gV τ 22 0 12).toInt = (tS T i : Int) ∧ (gV τ 22 0 12).toInt ≤ 400) ∧ (gV τ 22 0 11).toInt ≤ (gV τ 22 0 6).toInt) ∨ (tK T N i = 2 ∧ ((a1.toInt ≤ tV T i ∧ tV T i ≤ a2.toInt) ∨ tV T i = a3.toInt) ∧ r.toInt = tV T i ∧ (gV τ 22 0 16).toInt = (gV σ 22 0 16).toInt ∧ ((gV τ 22 0 12).toInt = (tS T (tE T N i) : Int) ∧ (tK T N (tE T N i) ≠ 4 → (gV τ 22 0 11).toInt = (tE T N (tE T N i) : Int)) ∧ (gV τ 22 0 13).toInt = (tK T N (tE T N i) + 4) % 5 ∧ 0 ≤ tK T N (tE T N i) ∧ tK T N (tE T N i) ≤ 4 ∧ (tK T N (tE T N i) = 2 → (gV τ 22 0 15).toInt = tV T (tE T N i)) ∧ (gV τ 22 0 12).toInt ≤ 400) ∧ (gV τ 22 0 11).toInt ≤ (gV τ 22 0 6).toInt ∧ LW T N (tE T N i) τ.2.2.1))) := by
  refine Mc.of (L0 := [some (.ref (G.1 22 0)), some (.int a1), some (.int a2), some (.int a3), none]) (by decide) (Nat.le_of_ble_eq_true rfl) rfl ?_
  intro p e s m args below meth c C hr hlk
  have C : Cx p s m args c cX12_takeNumber 5 "LeanTowerModel" := C
  have k0 : (0 : Int32).toInt = 0 := by decide
  have k1 : (1 : Int32).toInt = 1 := by decide
  have u1 : IV (gV σ 22 0 11) 0 400 := hI.1 22 0 11
  have u2 : IV (gV σ 22 0 6) 0 400 := hI.1 22 0 6
  have q3 : (gV σ 22 0 6).toInt = (N : Int) := hT.1
  have q4 := hT.2.1
  refine m_aload_n C dX12_takeNumber_0 rfl rfl ?_
  refine g_22_13 C q4_129 dX12_takeNumber_1 ?_
  refine m_eqs (w := (gV σ 22 0 13)) rfl ?_
  refine m_iconst (v := 1) C dX12_takeNumber_4 (by decide) ?_
  refine m_icmp_eq (tgt := 14) C dX12_takeNumber_5 (by decide) (fun c5 => ?_) (fun c5 => ?_)
  · have f6 : (gV σ 22 0 13).toInt = 1 := by
      have q : _ := c5
      simp only [ti_nle, ti_nlt, ti_le, ti_lt, ti_eq, ti_ne, Classical.not_not, kt_1] at q
      omega
    have b7 : IV (gV σ 22 0 13) 1 1 := ⟨by have q1 := (iv_any (gV σ 22 0 13)); have q2 := kc_1; omega, by have q1 := (iv_any (gV σ 22 0 13)); have q2 := kc_1; omega⟩
    refine m_aload_n C dX12_takeNumber_14 rfl rfl ?_
    refine g_22_15 C q4_131 dX12_takeNumber_15 ?_
    refine m_eqs (w := (gV σ 22 0 15)) rfl ?_
    refine m_i2l C dX12_takeNumber_18 ?_
    refine m_iload_n C dX12_takeNumber_19 rfl rfl ?_
    refine m_i2l C dX12_takeNumber_20 ?_
    refine m_iload_n C dX12_takeNumber_21 rfl rfl ?_
    refine m_i2l C dX12_takeNumber_22 ?_
    refine m_callS (n := 3) (st := []) C (c_X12_inE l G σ (((gV σ 22 0 15) : Int32).toInt64) ((a1 : Int32).toInt64) ((a2 : Int32).toInt64) hI ) q4_190 q4_188 q4_189 q1_7 (by decide +kernel) rfl (by decide) (by decide) rfl (Nat.le_of_ble_eq_true rfl) dX12_takeNumber_23 ?_
    rintro _ τ8 ⟨x11, rfl, i9, f10, b12, h14⟩
    have g13 : Fr MS_X12_takeNumberE AS_X12_takeNumberE σ τ8 := Fr.call (Fr.rf) f10 (by decide)
    have v15 : TpM τ8 T N := hT.fr f10 (by decide) (by decide) (by simp) (by decide)
    have v16 : τ8.2.2.1 = σ.2.2.1 := by rw [h14.1]
    have q17 : (gV τ8 22 0 11).toInt = (gV σ 22 0 11).toInt := congrArg Int32.toInt (show (gV τ8 22 0 11) = (gV σ 22 0 11) from (show gV τ8 22 0 11 = (gV σ 22 0 11) from (f10.1 22 0 (11) (by decide) (by decide)).trans rfl))
    have q18 : (gV τ8 22 0 12).toInt = (gV σ 22 0 12).toInt := congrArg Int32.toInt (show (gV τ8 22 0 12) = (gV σ 22 0 12) from (show gV τ8 22 0 12 = (gV σ 22 0 12) from (f10.1 22 0 (12) (by decide) (by decide)).trans rfl))
    have q19 : (gV τ8 22 0 13).toInt = (gV σ 22 0 13).toInt := congrArg Int32.toInt (show (gV τ8 22 0 13) = (gV σ 22 0 13) from (show gV τ8 22 0 13 = (gV σ 22 0 13) from (f10.1 22 0 (13) (by decide) (by decide)).trans rfl))
    have q20 : (gV τ8 22 0 15).toInt = (gV σ 22 0 15).toInt := congrArg Int32.toInt (show (gV τ8 22 0 15) = (gV σ 22 0 15) from (show gV τ8 22 0 15 = (gV σ 22 0 15) from (f10.1 22 0 (15) (by decide) (by decide)).trans rfl))
    have q21 : (gV τ8 22 0 16).toInt = (gV σ 22 0 16).toInt := congrArg Int32.toInt (show (gV τ8 22 0 16) = (gV σ 22 0 16) from (show gV τ8 22 0 16 = (gV σ 22 0 16) from (f10.1 22 0 (16) (by decide) (by decide)).trans rfl))
    have q22 : (gV τ8 22 0 6).toInt = (gV σ 22 0 6).toInt := congrArg Int32.toInt (show (gV τ8 22 0 6) = (gV σ 22 0 6) from (show gV τ8 22 0 6 = (gV σ 22 0 6) from (f10.1 22 0 (6) (by decide) (by decide)).trans rfl))
    replace h14 := h14.2
    have f23 := tl_i (gV σ 22 0 15)
    have f24 := tl_i a1
    have f25 := tl_i a2
    have q26 := (iv_any a1)
    have q27 := (iv_any a2)
    rcases h14 with ⟨h14_0, h14_1, h14_2⟩ | ⟨h14_0, h14_1⟩
    · skip
      have b28 : IV x11 1 1 := ⟨by omega, by omega⟩
      show MW p l e _ s m args below meth c _ 5 G 0 0 26 [some (.ref (G.1 22 0)), some (.int a1), some (.int a2), some (.int a3), none] [.int x11] τ8
      refine m_if_ne (tgt := 43) C dX12_takeNumber_26 (by decide) (fun c29 => ?_) (fun c29 => ?_)
      · have f30 : x11.toInt ≠ 0 := by
          have q : _ := c29
          simp only [ti_nle, ti_nlt, ti_le, ti_lt, ti_eq, ti_ne, Classical.not_not, kt_0] at q
          omega
        refine m_aload_n C dX12_takeNumber_43 rfl rfl ?_
        refine g_22_15 C q4_131 dX12_takeNumber_44 ?_
        refine m_eqs (w := (gV σ 22 0 15)) (show gV τ8 22 0 15 = (gV σ 22 0 15) from (f10.1 22 0 (15) (by decide) (by decide)).trans rfl) ?_
        refine m_istore (L1 := [some (.ref (G.1 22 0)), some (.int a1), some (.int a2), some (.int a3), some (.int (gV σ 22 0 15))]) C dX12_takeNumber_47 (by decide) rfl rfl ?_
        refine m_aload_n C dX12_takeNumber_49 rfl rfl ?_
        refine m_callV (n := 0) (ci := 11) (st := []) C (c_X12_nextE l G τ8 T N (tE T N i)  i9 v15 (by omega)) (by decide) (by decide) rfl rfl rfl q4_231 q4_228 q4_230 q0_28 q1_7 (by decide +kernel) rfl (by decide) (by decide) rfl (Nat.le_of_ble_eq_true rfl) dX12_takeNumber_50 ?_
        rintro _ τ31 ⟨rfl, i32, f33, h37⟩
        have g36 : Fr MS_X12_takeNumberE AS_X12_takeNumberE σ τ31 := Fr.call (g13) f33 (by decide)
        have v38 : TpM τ31 T N := v15.fr f33 (by decide) (by decide) (by simp) (by decide)
        obtain ⟨h39, h41, v40⟩ := h37
        have u42 : IV (gV τ31 22 0 11) 0 400 := i32.1 22 0 11
        have q43 : (gV τ31 22 0 16).toInt = (gV σ 22 0 16).toInt := congrArg Int32.toInt (show (gV τ31 22 0 16) = (gV σ 22 0 16) from (show gV τ31 22 0 16 = (gV σ 22 0 16) from (f33.1 22 0 (16) (by decide) (by decide)).trans (show gV τ8 22 0 16 = (gV σ 22 0 16) from (f10.1 22 0 (16) (by decide) (by decide)).trans rfl)))
        have q44 : (gV τ31 22 0 6).toInt = (gV σ 22 0 6).toInt := congrArg Int32.toInt (show (gV τ31 22 0 6) = (gV σ 22 0 6) from (show gV τ31 22 0 6 = (gV σ 22 0 6) from (f33.1 22 0 (6) (by decide) (by decide)).trans (show gV τ8 22 0 6 = (gV σ 22 0 6) from (f10.1 22 0 (6) (by decide) (by decide)).trans rfl)))
        show MW p l e _ s m args below meth c _ 5 G 0 0 53 [some (.ref (G.1 22 0)), some (.int a1), some (.int a2), some (.int a3), some (.int (gV σ 22 0 15))] [] τ31
        refine m_iload C dX12_takeNumber_53 rfl ?_
        exact m_iret C hr hlk (by decide) (by decide) dX12_takeNumber_55 ⟨_, rfl, i32, g36, (iv_any (gV σ 22 0 15)), (Or.inr (Or.inr (⟨by omega, by omega, by omega, by omega, by omega, by omega, v40⟩)))⟩
      · exfalso
        have q : _ := c29
        simp only [ti_nle, ti_nlt, ti_le, ti_lt, ti_eq, ti_ne, Classical.not_not, kt_0] at q
        have q1 := b28; have q2 := kc_0; omega
    · skip
      have b46 : IV x11 0 0 := ⟨by omega, by omega⟩
      show MW p l e _ s m args below meth c _ 5 G 0 0 26 [some (.ref (G.1 22 0)), some (.int a1), some (.int a2), some (.int a3), none] [.int x11] τ8
      refine m_if_ne (tgt := 43) C dX12_takeNumber_26 (by decide) (fun c47 => ?_) (fun c47 => ?_)
      · exfalso
        have q : _ := c47
        simp only [ti_nle, ti_nlt, ti_le, ti_lt, ti_eq, ti_ne, Classical.not_not, kt_0] at q
        have q1 := b46; have q2 := kc_0; omega
      · have f49 : x11.toInt = 0 := by
          have q : _ := c47
          simp only [ti_nle, ti_nlt, ti_le, ti_lt, ti_eq, ti_ne, Classical.not_not, kt_0] at q
          omega
        refine m_aload_n C dX12_takeNumber_29 rfl rfl ?_
        refine g_22_15 C q4_131 dX12_takeNumber_30 ?_
        refine m_eqs (w := (gV σ 22 0 15)) (show gV τ8 22 0 15 = (gV σ 22 0 15) from (f10.1 22 0 (15) (by decide) (by decide)).trans rfl) ?_
        refine m_iload_n C dX12_takeNumber_33 rfl rfl ?_
        refine m_icmp_eq (tgt := 43) C dX12_takeNumber_34 (by decide) (fun c50 => ?_) (fun c50 => ?_)
        · have f51 : (gV σ 22 0 15).toInt = a3.toInt := by
            have q : _ := c50
            simp only [ti_nle, ti_nlt, ti_le, ti_lt, ti_eq, ti_ne, Classical.not_not] at q
            omega
          refine m_aload_n C dX12_takeNumber_43 rfl rfl ?_
          refine g_22_15 C q4_131 dX12_takeNumber_44 ?_
          refine m_eqs (w := (gV σ 22 0 15)) (show gV τ8 22 0 15 = (gV σ 22 0 15) from (f10.1 22 0 (15) (by decide) (by decide)).trans rfl) ?_
          refine m_istore (L1 := [some (.ref (G.1 22 0)), some (.int a1), some (.int a2), some (.int a3), some (.int (gV σ 22 0 15))]) C dX12_takeNumber_47 (by decide) rfl rfl ?_
          refine m_aload_n C dX12_takeNumber_49 rfl rfl ?_
          refine m_callV (n := 0) (ci := 11) (st := []) C (c_X12_nextE l G τ8 T N (tE T N i)  i9 v15 (by omega)) (by decide) (by decide) rfl rfl rfl q4_231 q4_228 q4_230 q0_28 q1_7 (by decide +kernel) rfl (by decide) (by decide) rfl (Nat.le_of_ble_eq_true rfl) dX12_takeNumber_50 ?_
          rintro _ τ52 ⟨rfl, i53, f54, h58⟩
          have g57 : Fr MS_X12_takeNumberE AS_X12_takeNumberE σ τ52 := Fr.call (g13) f54 (by decide)
          have v59 : TpM τ52 T N := v15.fr f54 (by decide) (by decide) (by simp) (by decide)
          obtain ⟨h60, h62, v61⟩ := h58
          have u63 : IV (gV τ52 22 0 11) 0 400 := i53.1 22 0 11
          have q64 : (gV τ52 22 0 16).toInt = (gV σ 22 0 16).toInt := congrArg Int32.toInt (show (gV τ52 22 0 16) = (gV σ 22 0 16) from (show gV τ52 22 0 16 = (gV σ 22 0 16) from (f54.1 22 0 (16) (by decide) (by decide)).trans (show gV τ8 22 0 16 = (gV σ 22 0 16) from (f10.1 22 0 (16) (by decide) (by decide)).trans rfl)))
          have q65 : (gV τ52 22 0 6).toInt = (gV σ 22 0 6).toInt := congrArg Int32.toInt (show (gV τ52 22 0 6) = (gV σ 22 0 6) from (show gV τ52 22 0 6 = (gV σ 22 0 6) from (f54.1 22 0 (6) (by decide) (by decide)).trans (show gV τ8 22 0 6 = (gV σ 22 0 6) from (f10.1 22 0 (6) (by decide) (by decide)).trans rfl)))
          show MW p l e _ s m args below meth c _ 5 G 0 0 53 [some (.ref (G.1 22 0)), some (.int a1), some (.int a2), some (.int a3), some (.int (gV σ 22 0 15))] [] τ52
          refine m_iload C dX12_takeNumber_53 rfl ?_
          exact m_iret C hr hlk (by decide) (by decide) dX12_takeNumber_55 ⟨_, rfl, i53, g57, (iv_any (gV σ 22 0 15)), (Or.inr (Or.inr (⟨by omega, by omega, by omega, by omega, by omega, by omega, v61⟩)))⟩
        · have f66 : (gV σ 22 0 15).toInt ≠ a3.toInt := by
            have q : _ := c50
            simp only [ti_nle, ti_nlt, ti_le, ti_lt, ti_eq, ti_ne, Classical.not_not] at q
            omega
          refine m_aload_n C dX12_takeNumber_37 rfl rfl ?_
          refine m_iconst (v := 2) C dX12_takeNumber_38 (by decide) ?_
          refine m_callV (n := 1) (ci := 11) (st := []) C (c_X12_fails l G τ8 (2) i9 ) (by decide) (by decide) rfl rfl rfl q5_11 q5_8 q5_10 q0_31 q1_7 (by decide +kernel) rfl (by decide) (by decide) rfl (Nat.le_of_ble_eq_true rfl) dX12_takeNumber_39 ?_
          rintro _ τ67 ⟨x70, rfl, i68, f69, b71, h73⟩
          have g72 : Fr MS_X12_takeNumberE AS_X12_takeNumberE σ τ67 := Fr.call (g13) f69 (by decide)
          have v74 : TpM τ67 T N := v15.fr f69 (by decide) (by decide) (by simp) (by decide)
          have q75 : (gV τ67 22 0 11).toInt = (gV σ 22 0 11).toInt := congrArg Int32.toInt (show (gV τ67 22 0 11) = (gV σ 22 0 11) from (show gV τ67 22 0 11 = (gV σ 22 0 11) from (f69.1 22 0 (11) (by decide) (by decide)).trans (show gV τ8 22 0 11 = (gV σ 22 0 11) from (f10.1 22 0 (11) (by decide) (by decide)).trans rfl)))
          have q76 : (gV τ67 22 0 12).toInt = (gV σ 22 0 12).toInt := congrArg Int32.toInt (show (gV τ67 22 0 12) = (gV σ 22 0 12) from (show gV τ67 22 0 12 = (gV σ 22 0 12) from (f69.1 22 0 (12) (by decide) (by decide)).trans (show gV τ8 22 0 12 = (gV σ 22 0 12) from (f10.1 22 0 (12) (by decide) (by decide)).trans rfl)))
          have q77 : (gV τ67 22 0 13).toInt = (gV σ 22 0 13).toInt := congrArg Int32.toInt (show (gV τ67 22 0 13) = (gV σ 22 0 13) from (show gV τ67 22 0 13 = (gV σ 22 0 13) from (f69.1 22 0 (13) (by decide) (by decide)).trans (show gV τ8 22 0 13 = (gV σ 22 0 13) from (f10.1 22 0 (13) (by decide) (by decide)).trans rfl)))
          have q78 : (gV τ67 22 0 15).toInt = (gV σ 22 0 15).toInt := congrArg Int32.toInt (show (gV τ67 22 0 15) = (gV σ 22 0 15) from (show gV τ67 22 0 15 = (gV σ 22 0 15) from (f69.1 22 0 (15) (by decide) (by decide)).trans (show gV τ8 22 0 15 = (gV σ 22 0 15) from (f10.1 22 0 (15) (by decide) (by decide)).trans rfl)))
          have q79 : (gV τ67 22 0 6).toInt = (gV σ 22 0 6).toInt := congrArg Int32.toInt (show (gV τ67 22 0 6) = (gV σ 22 0 6) from (show gV τ67 22 0 6 = (gV σ 22 0 6) from (f69.1 22 0 (6) (by decide) (by decide)).trans (show gV τ8 22 0 6 = (gV σ 22 0 6) from (f10.1 22 0 (6) (by decide) (by decide)).trans rfl)))
          have q80 := kt_2
          show MW p l e _ s m args below meth c _ 5 G 0 0 42 [some (.ref (G.1 22 0)), some (.int a1), some (.int a2), some (.int a3), none] [.int x70] τ67
          exact m_iret C hr hlk (by decide) (by decide) dX12_takeNumber_42 ⟨_, rfl, i68, g72, (iv_wk b71 (by decide)), (Or.inr (Or.inl ⟨by omega, by omega, by omega, by omega, by omega, by omega, by omega⟩))⟩
  · have f81 : (gV σ 22 0 13).toInt ≠ 1 := by
      have q : _ := c5
      simp only [ti_nle, ti_nlt, ti_le, ti_lt, ti_eq, ti_ne, Classical.not_not, kt_1] at q
      omega
    refine m_aload_n C dX12_takeNumber_8 rfl rfl ?_
    refine m_iconst (v := 1) C dX12_takeNumber_9 (by decide) ?_
    refine m_callV (n := 1) (ci := 11) (st := []) C (c_X12_fails l G σ (1) hI ) (by decide) (by decide) rfl rfl rfl q5_11 q5_8 q5_10 q0_31 q1_7 (by decide +kernel) rfl (by decide) (by decide) rfl (Nat.le_of_ble_eq_true rfl) dX12_takeNumber_10 ?_
    rintro _ τ82 ⟨x85, rfl, i83, f84, b86, h88⟩
    have g87 : Fr MS_X12_takeNumberE AS_X12_takeNumberE σ τ82 := Fr.call (Fr.rf) f84 (by decide)
    have v89 : TpM τ82 T N := hT.fr f84 (by decide) (by decide) (by simp) (by decide)
    have q90 : (gV τ82 22 0 11).toInt = (gV σ 22 0 11).toInt := congrArg Int32.toInt (show (gV τ82 22 0 11) = (gV σ 22 0 11) from (show gV τ82 22 0 11 = (gV σ 22 0 11) from (f84.1 22 0 (11) (by decide) (by decide)).trans rfl))
    have q91 : (gV τ82 22 0 12).toInt = (gV σ 22 0 12).toInt := congrArg Int32.toInt (show (gV τ82 22 0 12) = (gV σ 22 0 12) from (show gV τ82 22 0 12 = (gV σ 22 0 12) from (f84.1 22 0 (12) (by decide) (by decide)).trans rfl))
    have q92 : (gV τ82 22 0 13).toInt = (gV σ 22 0 13).toInt := congrArg Int32.toInt (show (gV τ82 22 0 13) = (gV σ 22 0 13) from (show gV τ82 22 0 13 = (gV σ 22 0 13) from (f84.1 22 0 (13) (by decide) (by decide)).trans rfl))
    have q93 : (gV τ82 22 0 15).toInt = (gV σ 22 0 15).toInt := congrArg Int32.toInt (show (gV τ82 22 0 15) = (gV σ 22 0 15) from (show gV τ82 22 0 15 = (gV σ 22 0 15) from (f84.1 22 0 (15) (by decide) (by decide)).trans rfl))
    have q94 : (gV τ82 22 0 6).toInt = (gV σ 22 0 6).toInt := congrArg Int32.toInt (show (gV τ82 22 0 6) = (gV σ 22 0 6) from (show gV τ82 22 0 6 = (gV σ 22 0 6) from (f84.1 22 0 (6) (by decide) (by decide)).trans rfl))
    have q95 := kt_1
    show MW p l e _ s m args below meth c _ 5 G 0 0 13 [some (.ref (G.1 22 0)), some (.int a1), some (.int a2), some (.int a3), none] [.int x85] τ82
    exact m_iret C hr hlk (by decide) (by decide) dX12_takeNumber_13 ⟨_, rfl, i83, g87, (iv_wk b86 (by decide)), (Or.inl ⟨by omega, by omega, by omega, by omega, by omega⟩)⟩

abbrev MS_X12_takeSignE : List (Nat × Nat) := [(22, 11), (22, 12), (22, 13), (22, 15), (22, 16)]
abbrev AS_X12_takeSignE : List Nat := []
set_option maxHeartbeats 4000000 in
set_option maxRecDepth 100000 in
theorem c_X12_takeSignE (l : Launch) (G : Gt) (σ : Sg) (T : Nat → Int) (N : Nat) (i : Nat) (hI : Inv σ) (hT : TpM σ T N) (hcur : ((gV σ 22 0 16).toInt = 0 → ((gV σ 22 0 12).toInt = (tS T i : Int) ∧ (tK T N i ≠ 4 → (gV σ 22 0 11).toInt = (tE T N i : Int)) ∧ (gV σ 22 0 13).toInt = (tK T N i + 4) % 5 ∧ 0 ≤ tK T N i ∧ tK T N i ≤ 4 ∧ (tK T N i = 2 → (gV σ 22 0 15).toInt = tV T i) ∧ (gV σ 22 0 12).toInt ≤ 400))) (hat : (gV σ 22 0 11).toInt ≤ (gV σ 22 0 6).toInt) : Mc l G yX12_takeSign cX12_takeSign 1 none 2 45 0 0 [.ref (G.1 22 0)] σ (PV fun τ => Inv τ ∧ Fr MS_X12_takeSignE AS_X12_takeSignE σ τ ∧ (((gV σ 22 0 16).toInt ≠ 0 ∧ (gV τ 22 0 16).toInt = (gV σ 22 0 16).toInt ∧ (gV τ 22 0 12).toInt = (gV σ 22 0 12).toInt ∧ (gV τ 22 0 11).toInt ≤ (gV τ 22 0 6).toInt) ∨ ((gV σ 22 0 16).toInt = 0 ∧ tK T N i ≠ 3 ∧ (gV τ 22 0 16).toInt = 1 ∧ ((gV τ 22 0 12).toInt = (tS T i : Int) ∧ (gV τ 22 0 12).toInt ≤ 400) ∧ (gV τ 22 0 11).toInt ≤ (gV τ 22 0 6).toInt) ∨ ((gV σ 22 0 16).toInt = 0 ∧ tK T N i = 3 ∧ (gV τ 22 0 16).toInt = 0 ∧ ((gV τ 22 0 12).toInt = (tS T (tE T N i) : Int) ∧ (tK T N (tE T N i) ≠ 4 → (gV τ 22 0 11).toInt = (tE T N (tE T N i) : Int)) ∧ (gV τ 22 0 13).toInt = (tK T N (tE T N i) + 4) % 5 ∧ 0 ≤ tK T N (tE T N i) ∧ tK T N (tE T N i) ≤ 4 ∧ (tK T N (tE T N i) = 2 → (gV τ 22 0 15).toInt = tV T (tE T N i)) ∧ (gV τ 22 0 12).toInt ≤ 400) ∧ (gV τ 22 0 11).toInt ≤ (gV τ 22 0 6).toInt ∧ LW T N (tE T N i) τ.2.2.1))) := by
  refine Mc.of (L0 := [some (.ref (G.1 22 0))]) (by decide) (Nat.le_of_ble_eq_true rfl) rfl ?_
  intro p e s m args below meth c C hr hlk
  have C : Cx p s m args c cX12_takeSign 1 "LeanTowerModel" := C
  have k0 : (0 : Int32).toInt = 0 := by decide
  have k1 : (1 : Int32).toInt = 1 := by decide
  have u1 : IV (gV σ 22 0 11) 0 400 := hI.1 22 0 11
  have u2 : IV (gV σ 22 0 6) 0 400 := hI.1 22 0 6
  have q3 : (gV σ 22 0 6).toInt = (N : Int) := hT.1
  have q4 := hT.2.1
  refine m_aload_n C dX12_takeSign_0 rfl rfl ?_
  refine g_22_16 C q4_132 dX12_takeSign_1 ?_
  refine m_eqs (w := (gV σ 22 0 16)) rfl ?_
  refine m_if_ne (tgt := 23) C dX12_takeSign_4 (by decide) (fun c5 => ?_) (fun c5 => ?_)
  · have f6 : (gV σ 22 0 16).toInt ≠ 0 := by
      have q : _ := c5
      simp only [ti_nle, ti_nlt, ti_le, ti_lt, ti_eq, ti_ne, Classical.not_not, kt_0] at q
      omega
    refine m_aload_n C dX12_takeSign_23 rfl rfl ?_
    refine g_22_16 C q4_132 dX12_takeSign_24 ?_
    refine m_eqs (w := (gV σ 22 0 16)) rfl ?_
    refine m_if_ne (tgt := 34) C dX12_takeSign_27 (by decide) (fun c7 => ?_) (fun c7 => ?_)
    · have f8 : (gV σ 22 0 16).toInt ≠ 0 := by
        have q : _ := c7
        simp only [ti_nle, ti_nlt, ti_le, ti_lt, ti_eq, ti_ne, Classical.not_not, kt_0] at q
        omega
      exact m_vret C hr hlk (by decide) (by decide) dX12_takeSign_34 ⟨rfl, hI, Fr.rf, (Or.inl ⟨by omega, by omega, by omega, by omega⟩)⟩
    · have f9 : (gV σ 22 0 16).toInt = 0 := by
        have q : _ := c7
        simp only [ti_nle, ti_nlt, ti_le, ti_lt, ti_eq, ti_ne, Classical.not_not, kt_0] at q
        omega
      have b10 : IV (gV σ 22 0 16) 0 0 := ⟨by have q1 := (iv_any (gV σ 22 0 16)); have q2 := kc_0; omega, by have q1 := (iv_any (gV σ 22 0 16)); have q2 := kc_0; omega⟩
      refine m_aload_n C dX12_takeSign_30 rfl rfl ?_
      refine m_callV (n := 0) (ci := 11) (st := []) C (c_X12_nextE l G σ T N (tE T N i)  hI hT (by omega)) (by decide) (by decide) rfl rfl rfl q4_231 q4_228 q4_230 q0_28 q1_7 (by decide +kernel) rfl (by decide) (by decide) rfl (Nat.le_of_ble_eq_true rfl) dX12_takeSign_31 ?_
      rintro _ τ11 ⟨rfl, i12, f13, h17⟩
      have g16 : Fr MS_X12_takeSignE AS_X12_takeSignE σ τ11 := Fr.call (Fr.rf) f13 (by decide)
      have v18 : TpM τ11 T N := hT.fr f13 (by decide) (by decide) (by simp) (by decide)
      obtain ⟨h19, h21, v20⟩ := h17
      have u22 : IV (gV τ11 22 0 11) 0 400 := i12.1 22 0 11
      have q23 : (gV τ11 22 0 16).toInt = (gV σ 22 0 16).toInt := congrArg Int32.toInt (show (gV τ11 22 0 16) = (gV σ 22 0 16) from (show gV τ11 22 0 16 = (gV σ 22 0 16) from (f13.1 22 0 (16) (by decide) (by decide)).trans rfl))
      have q24 : (gV τ11 22 0 6).toInt = (gV σ 22 0 6).toInt := congrArg Int32.toInt (show (gV τ11 22 0 6) = (gV σ 22 0 6) from (show gV τ11 22 0 6 = (gV σ 22 0 6) from (f13.1 22 0 (6) (by decide) (by decide)).trans rfl))
      show MW p l e _ s m args below meth c _ 1 G 0 0 34 [some (.ref (G.1 22 0))] [] τ11
      exact m_vret C hr hlk (by decide) (by decide) dX12_takeSign_34 ⟨rfl, i12, g16, (Or.inr (Or.inr (⟨by omega, by omega, by omega, by omega, by omega, v20⟩)))⟩
  · have f25 : (gV σ 22 0 16).toInt = 0 := by
      have q : _ := c5
      simp only [ti_nle, ti_nlt, ti_le, ti_lt, ti_eq, ti_ne, Classical.not_not, kt_0] at q
      omega
    have b26 : IV (gV σ 22 0 16) 0 0 := ⟨by have q1 := (iv_any (gV σ 22 0 16)); have q2 := kc_0; omega, by have q1 := (iv_any (gV σ 22 0 16)); have q2 := kc_0; omega⟩
    refine m_aload_n C dX12_takeSign_7 rfl rfl ?_
    refine g_22_13 C q4_129 dX12_takeSign_8 ?_
    refine m_eqs (w := (gV σ 22 0 13)) rfl ?_
    refine m_iconst (v := 2) C dX12_takeSign_11 (by decide) ?_
    refine m_icmp_eq (tgt := 23) C dX12_takeSign_12 (by decide) (fun c27 => ?_) (fun c27 => ?_)
    · have f28 : (gV σ 22 0 13).toInt = 2 := by
        have q : _ := c27
        simp only [ti_nle, ti_nlt, ti_le, ti_lt, ti_eq, ti_ne, Classical.not_not, kt_2] at q
        omega
      have b29 : IV (gV σ 22 0 13) 2 2 := ⟨by have q1 := (iv_any (gV σ 22 0 13)); have q2 := kc_2; omega, by have q1 := (iv_any (gV σ 22 0 13)); have q2 := kc_2; omega⟩
      refine m_aload_n C dX12_takeSign_23 rfl rfl ?_
      refine g_22_16 C q4_132 dX12_takeSign_24 ?_
      refine m_eqs (w := (gV σ 22 0 16)) rfl ?_
      refine m_if_ne (tgt := 34) C dX12_takeSign_27 (by decide) (fun c30 => ?_) (fun c30 => ?_)
      · exfalso
        have q : _ := c30
        simp only [ti_nle, ti_nlt, ti_le, ti_lt, ti_eq, ti_ne, Classical.not_not, kt_0] at q
        have q1 := b26; have q2 := kc_0; omega
      · have f32 : (gV σ 22 0 16).toInt = 0 := by
          have q : _ := c30
          simp only [ti_nle, ti_nlt, ti_le, ti_lt, ti_eq, ti_ne, Classical.not_not, kt_0] at q
          omega
        refine m_aload_n C dX12_takeSign_30 rfl rfl ?_
        refine m_callV (n := 0) (ci := 11) (st := []) C (c_X12_nextE l G σ T N (tE T N i)  hI hT (by omega)) (by decide) (by decide) rfl rfl rfl q4_231 q4_228 q4_230 q0_28 q1_7 (by decide +kernel) rfl (by decide) (by decide) rfl (Nat.le_of_ble_eq_true rfl) dX12_takeSign_31 ?_
        rintro _ τ33 ⟨rfl, i34, f35, h39⟩
        have g38 : Fr MS_X12_takeSignE AS_X12_takeSignE σ τ33 := Fr.call (Fr.rf) f35 (by decide)
        have v40 : TpM τ33 T N := hT.fr f35 (by decide) (by decide) (by simp) (by decide)
        obtain ⟨h41, h43, v42⟩ := h39
        have u44 : IV (gV τ33 22 0 11) 0 400 := i34.1 22 0 11
        have q45 : (gV τ33 22 0 16).toInt = (gV σ 22 0 16).toInt := congrArg Int32.toInt (show (gV τ33 22 0 16) = (gV σ 22 0 16) from (show gV τ33 22 0 16 = (gV σ 22 0 16) from (f35.1 22 0 (16) (by decide) (by decide)).trans rfl))
        have q46 : (gV τ33 22 0 6).toInt = (gV σ 22 0 6).toInt := congrArg Int32.toInt (show (gV τ33 22 0 6) = (gV σ 22 0 6) from (show gV τ33 22 0 6 = (gV σ 22 0 6) from (f35.1 22 0 (6) (by decide) (by decide)).trans rfl))
        show MW p l e _ s m args below meth c _ 1 G 0 0 34 [some (.ref (G.1 22 0))] [] τ33
        exact m_vret C hr hlk (by decide) (by decide) dX12_takeSign_34 ⟨rfl, i34, g38, (Or.inr (Or.inr (⟨by omega, by omega, by omega, by omega, by omega, v42⟩)))⟩
    · have f47 : (gV σ 22 0 13).toInt ≠ 2 := by
        have q : _ := c27
        simp only [ti_nle, ti_nlt, ti_le, ti_lt, ti_eq, ti_ne, Classical.not_not, kt_2] at q
        omega
      refine m_aload_n C dX12_takeSign_15 rfl rfl ?_
      refine m_iconst (v := 1) C dX12_takeSign_16 (by decide) ?_
      refine p_22_16 C q4_132 dX12_takeSign_17 ?_
      refine m_tops (fun τ48 eτ48 => ?_)
      have i49 : Inv τ48 := eτ48 ▸ Inv.putF hI (by decide) rfl
      have f50 : Fr MS_X12_takeSignE AS_X12_takeSignE σ τ48 := eτ48 ▸ Fr.put (Fr.rf) (Or.inl (by decide))
      have v51 : TpM τ48 T N := hT.put eτ48 (Or.inr (by decide)) (by decide)
      have v52 : τ48.2.2.1 = σ.2.2.1 := by rw [eτ48]; rfl
      refine m_goto (tgt := 34) C dX12_takeSign_20 (by decide) ?_
      have q53 : (gV τ48 22 0 11).toInt = (gV σ 22 0 11).toInt := congrArg Int32.toInt (show (gV τ48 22 0 11) = (gV σ 22 0 11) from (show gV τ48 22 0 11 = (gV σ 22 0 11) from gV_put eτ48 rfl))
      have q54 : (gV τ48 22 0 12).toInt = (gV σ 22 0 12).toInt := congrArg Int32.toInt (show (gV τ48 22 0 12) = (gV σ 22 0 12) from (show gV τ48 22 0 12 = (gV σ 22 0 12) from gV_put eτ48 rfl))
      have q55 : (gV τ48 22 0 13).toInt = (gV σ 22 0 13).toInt := congrArg Int32.toInt (show (gV τ48 22 0 13) = (gV σ 22 0 13) from (show gV τ48 22 0 13 = (gV σ 22 0 13) from gV_put eτ48 rfl))
      have q56 : (gV τ48 22 0 15).toInt = (gV σ 22 0 15).toInt := congrArg Int32.toInt (show (gV τ48 22 0 15) = (gV σ 22 0 15) from (show gV τ48 22 0 15 = (gV σ 22 0 15) from gV_put eτ48 rfl))
      have q57 : (gV τ48 22 0 6).toInt = (gV σ 22 0 6).toInt := congrArg Int32.toInt (show (gV τ48 22 0 6) = (gV σ 22 0 6) from (show gV τ48 22 0 6 = (gV σ 22 0 6) from gV_put eτ48 rfl))
      have q58 : (gV τ48 22 0 16).toInt = 1 := (congrArg Int32.toInt (show (gV τ48 22 0 16) = 1 from (show gV τ48 22 0 16 = 1 from gV_put eτ48 (gV_self _ _ _ _ _)))).trans kt_1
      exact m_vret C hr hlk (by decide) (by decide) dX12_takeSign_34 ⟨rfl, i49, f50, (Or.inr (Or.inl ⟨by omega, by omega, by omega, by omega, by omega⟩))⟩

abbrev MS_X12_sortOfE : List (Nat × Nat) := []
abbrev AS_X12_sortOfE : List Nat := []
set_option maxHeartbeats 4000000 in
set_option maxRecDepth 100000 in
theorem c_X12_sortOfE (l : Launch) (G : Gt) (σ : Sg) (a1 : Int64) (hI : Inv σ) : Mc l G yX12_sortOf cX12_sortOf 2 (some .int) 0 0 0 0 [.long a1] σ (PI fun r τ => Inv τ ∧ Fr MS_X12_sortOfE AS_X12_sortOfE σ τ ∧ IV r (-1) 5 ∧ ((r.toInt = 1 ∧ a1.toInt = 17494690093) ∨ (r.toInt = 4 ∧ a1.toInt = 441803) ∨ (r.toInt = 2 ∧ a1.toInt = 24416759) ∨ (r.toInt = 5 ∧ a1.toInt = 77177328) ∨ (r.toInt = 3 ∧ a1.toInt = 2553) ∨ (r.toInt = -1 ∧ a1.toInt ≠ 17494690093 ∧ a1.toInt ≠ 441803 ∧ a1.toInt ≠ 24416759 ∧ a1.toInt ≠ 77177328 ∧ a1.toInt ≠ 2553))) := by
  refine Mc.of (L0 := [some (.long a1), none]) (by decide) (Nat.le_of_ble_eq_true rfl) rfl ?_
  intro p e s m args below meth c C hr hlk
  have C : Cx p s m args c cX12_sortOf 2 "LeanTowerModel" := C
  have k0 : (0 : Int32).toInt = 0 := by decide
  have k1 : (1 : Int32).toInt = 1 := by decide
  refine m_lload_n C dX12_sortOf_0 rfl rfl ?_
  refine m_ldc2 (v := 17494690093) C dX12_sortOf_1 q5_24 ?_
  refine m_lcmp C dX12_sortOf_4 ?_
  refine m_topi (fun x1 ex1 => ?_)
  have b2 : IV x1 (-1) 1 := by rw [ex1]; rcases lgc a1 17494690093 with q | q | q <;> omega
  have f3 := lgc a1 17494690093
  rw [← ex1] at f3
  have f5 := kl_17494690093
  refine m_if_ne (tgt := 12) C dX12_sortOf_5 (by decide) (fun c6 => ?_) (fun c6 => ?_)
  · have f7 : x1.toInt ≠ 0 := by
      have q : _ := c6
      simp only [ti_nle, ti_nlt, ti_le, ti_lt, ti_eq, ti_ne, Classical.not_not, kt_0] at q
      omega
    refine m_lload_n C dX12_sortOf_12 rfl rfl ?_
    refine m_ldc2 (v := 441803) C dX12_sortOf_13 q5_25 ?_
    refine m_lcmp C dX12_sortOf_16 ?_
    refine m_topi (fun x8 ex8 => ?_)
    have b9 : IV x8 (-1) 1 := by rw [ex8]; rcases lgc a1 441803 with q | q | q <;> omega
    have f10 := lgc a1 441803
    rw [← ex8] at f10
    have f12 := kl_441803
    refine m_if_ne (tgt := 24) C dX12_sortOf_17 (by decide) (fun c13 => ?_) (fun c13 => ?_)
    · have f14 : x8.toInt ≠ 0 := by
        have q : _ := c13
        simp only [ti_nle, ti_nlt, ti_le, ti_lt, ti_eq, ti_ne, Classical.not_not, kt_0] at q
        omega
      refine m_lload_n C dX12_sortOf_24 rfl rfl ?_
      refine m_ldc2 (v := 24416759) C dX12_sortOf_25 q5_26 ?_
      refine m_lcmp C dX12_sortOf_28 ?_
      refine m_topi (fun x15 ex15 => ?_)
      have b16 : IV x15 (-1) 1 := by rw [ex15]; rcases lgc a1 24416759 with q | q | q <;> omega
      have f17 := lgc a1 24416759
      rw [← ex15] at f17
      have f19 := kl_24416759
      refine m_if_ne (tgt := 36) C dX12_sortOf_29 (by decide) (fun c20 => ?_) (fun c20 => ?_)
      · have f21 : x15.toInt ≠ 0 := by
          have q : _ := c20
          simp only [ti_nle, ti_nlt, ti_le, ti_lt, ti_eq, ti_ne, Classical.not_not, kt_0] at q
          omega
        refine m_lload_n C dX12_sortOf_36 rfl rfl ?_
        refine m_ldc2 (v := 77177328) C dX12_sortOf_37 q5_27 ?_
        refine m_lcmp C dX12_sortOf_40 ?_
        refine m_topi (fun x22 ex22 => ?_)
        have b23 : IV x22 (-1) 1 := by rw [ex22]; rcases lgc a1 77177328 with q | q | q <;> omega
        have f24 := lgc a1 77177328
        rw [← ex22] at f24
        have f26 := kl_77177328
        refine m_if_ne (tgt := 48) C dX12_sortOf_41 (by decide) (fun c27 => ?_) (fun c27 => ?_)
        · have f28 : x22.toInt ≠ 0 := by
            have q : _ := c27
            simp only [ti_nle, ti_nlt, ti_le, ti_lt, ti_eq, ti_ne, Classical.not_not, kt_0] at q
            omega
          refine m_lload_n C dX12_sortOf_48 rfl rfl ?_
          refine m_ldc2 (v := 2553) C dX12_sortOf_49 q5_28 ?_
          refine m_lcmp C dX12_sortOf_52 ?_
          refine m_topi (fun x29 ex29 => ?_)
          have b30 : IV x29 (-1) 1 := by rw [ex29]; rcases lgc a1 2553 with q | q | q <;> omega
          have f31 := lgc a1 2553
          rw [← ex29] at f31
          have f33 := kl_2553
          refine m_if_ne (tgt := 60) C dX12_sortOf_53 (by decide) (fun c34 => ?_) (fun c34 => ?_)
          · have f35 : x29.toInt ≠ 0 := by
              have q : _ := c34
              simp only [ti_nle, ti_nlt, ti_le, ti_lt, ti_eq, ti_ne, Classical.not_not, kt_0] at q
              omega
            refine m_iconst (v := (-1)) C dX12_sortOf_60 (by decide) ?_
            exact m_iret C hr hlk (by decide) (by decide) dX12_sortOf_61 ⟨_, rfl, hI, Fr.rf, (iv_wk kc_m1 (by decide)), (Or.inr (Or.inr (Or.inr (Or.inr (Or.inr (⟨by have q := kt_m1; omega, by have q := kt_m1; omega, by have q := kt_m1; omega, by have q := kt_m1; omega, by have q := kt_m1; omega, by have q := kt_m1; omega⟩))))))⟩
          · have f36 : x29.toInt = 0 := by
              have q : _ := c34
              simp only [ti_nle, ti_nlt, ti_le, ti_lt, ti_eq, ti_ne, Classical.not_not, kt_0] at q
              omega
            have b37 : IV x29 0 0 := ⟨by have q1 := b30; have q2 := kc_0; omega, by have q1 := b30; have q2 := kc_0; omega⟩
            refine m_iconst (v := 3) C dX12_sortOf_56 (by decide) ?_
            refine m_goto (tgt := 61) C dX12_sortOf_57 (by decide) ?_
            exact m_iret C hr hlk (by decide) (by decide) dX12_sortOf_61 ⟨_, rfl, hI, Fr.rf, (iv_wk kc_3 (by decide)), (Or.inr (Or.inr (Or.inr (Or.inr (Or.inl ⟨by have q := kt_3; omega, by have q := kt_3; omega⟩)))))⟩
        · have f38 : x22.toInt = 0 := by
            have q : _ := c27
            simp only [ti_nle, ti_nlt, ti_le, ti_lt, ti_eq, ti_ne, Classical.not_not, kt_0] at q
            omega
          have b39 : IV x22 0 0 := ⟨by have q1 := b23; have q2 := kc_0; omega, by have q1 := b23; have q2 := kc_0; omega⟩
          refine m_iconst (v := 5) C dX12_sortOf_44 (by decide) ?_
          refine m_goto (tgt := 61) C dX12_sortOf_45 (by decide) ?_
          exact m_iret C hr hlk (by decide) (by decide) dX12_sortOf_61 ⟨_, rfl, hI, Fr.rf, (iv_wk kc_5 (by decide)), (Or.inr (Or.inr (Or.inr (Or.inl ⟨by have q := kt_5; omega, by have q := kt_5; omega⟩))))⟩
      · have f40 : x15.toInt = 0 := by
          have q : _ := c20
          simp only [ti_nle, ti_nlt, ti_le, ti_lt, ti_eq, ti_ne, Classical.not_not, kt_0] at q
          omega
        have b41 : IV x15 0 0 := ⟨by have q1 := b16; have q2 := kc_0; omega, by have q1 := b16; have q2 := kc_0; omega⟩
        refine m_iconst (v := 2) C dX12_sortOf_32 (by decide) ?_
        refine m_goto (tgt := 61) C dX12_sortOf_33 (by decide) ?_
        exact m_iret C hr hlk (by decide) (by decide) dX12_sortOf_61 ⟨_, rfl, hI, Fr.rf, (iv_wk kc_2 (by decide)), (Or.inr (Or.inr (Or.inl ⟨by have q := kt_2; omega, by have q := kt_2; omega⟩)))⟩
    · have f42 : x8.toInt = 0 := by
        have q : _ := c13
        simp only [ti_nle, ti_nlt, ti_le, ti_lt, ti_eq, ti_ne, Classical.not_not, kt_0] at q
        omega
      have b43 : IV x8 0 0 := ⟨by have q1 := b9; have q2 := kc_0; omega, by have q1 := b9; have q2 := kc_0; omega⟩
      refine m_iconst (v := 4) C dX12_sortOf_20 (by decide) ?_
      refine m_goto (tgt := 61) C dX12_sortOf_21 (by decide) ?_
      exact m_iret C hr hlk (by decide) (by decide) dX12_sortOf_61 ⟨_, rfl, hI, Fr.rf, (iv_wk kc_4 (by decide)), (Or.inr (Or.inl ⟨by have q := kt_4; omega, by have q := kt_4; omega⟩))⟩
  · have f44 : x1.toInt = 0 := by
      have q : _ := c6
      simp only [ti_nle, ti_nlt, ti_le, ti_lt, ti_eq, ti_ne, Classical.not_not, kt_0] at q
      omega
    have b45 : IV x1 0 0 := ⟨by have q1 := b2; have q2 := kc_0; omega, by have q1 := b2; have q2 := kc_0; omega⟩
    refine m_iconst (v := 1) C dX12_sortOf_8 (by decide) ?_
    refine m_goto (tgt := 61) C dX12_sortOf_9 (by decide) ?_
    exact m_iret C hr hlk (by decide) (by decide) dX12_sortOf_61 ⟨_, rfl, hI, Fr.rf, (iv_wk kc_1 (by decide)), (Or.inl ⟨by have q := kt_1; omega, by have q := kt_1; omega⟩)⟩
