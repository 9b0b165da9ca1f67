abbrev MS_X6_refuseE : List (Nat × Nat) := [(12, 2), (12, 3)]
abbrev AS_X6_refuseE : List Nat := []
set_option maxHeartbeats 4000000 in
set_option maxRecDepth 100000 in
theorem c_X6_refuseE (l : Launch) (G : Gt) (σ : Sg) (a1 : Int32) (hI : Inv σ) : Mc l G yX6_refuse cX6_refuse 2 (some .boolean) 0 0 0 0 [.ref (G.1 12 0), .int a1] σ (PI fun r τ => Inv τ ∧ Fr MS_X6_refuseE AS_X6_refuseE σ τ ∧ IV r 0 0 ∧ (r.toInt = 0 ∧ (gV τ 12 0 2).toInt = a1.toInt ∧ (gV τ 12 0 3).toInt = (gV σ 12 0 4).toInt)) := by
  refine Mc.of (L0 := [some (.ref (G.1 12 0)), some (.int a1)]) (by decide) (Nat.le_of_ble_eq_true rfl) rfl ?_
  intro p e s m args below meth c C hr hlk
  have C : Cx p s m args c cX6_refuse 2 "LeanTower$Reader" := C
  have k0 : (0 : Int32).toInt = 0 := by decide
  have k1 : (1 : Int32).toInt = 1 := by decide
  have u1 : IV (gV σ 12 0 4) 0 400 := hI.1 12 0 4
  refine m_aload_n C dX6_refuse_0 rfl rfl ?_
  refine m_iload_n C dX6_refuse_1 rfl rfl ?_
  refine p_12_2 C q1_41 dX6_refuse_2 ?_
  refine m_tops (fun τ2 eτ2 => ?_)
  have i3 : Inv τ2 := eτ2 ▸ Inv.putF hI (by decide) rfl
  have f4 : Fr MS_X6_refuseE AS_X6_refuseE σ τ2 := eτ2 ▸ Fr.put (Fr.rf) (Or.inl (by decide))
  refine m_aload_n C dX6_refuse_5 rfl rfl ?_
  refine m_aload_n C dX6_refuse_6 rfl rfl ?_
  refine g_12_4 C q1_44 dX6_refuse_7 ?_
  refine m_eqs (w := (gV σ 12 0 4)) (show gV τ2 12 0 4 = (gV σ 12 0 4) from gV_put eτ2 rfl) ?_
  refine p_12_3 C q1_43 dX6_refuse_10 ?_
  refine m_tops (fun τ5 eτ5 => ?_)
  have i6 : Inv τ5 := eτ5 ▸ Inv.putF i3 (by decide) rfl
  have f7 : Fr MS_X6_refuseE AS_X6_refuseE σ τ5 := eτ5 ▸ Fr.put (f4) (Or.inl (by decide))
  refine m_iconst (v := 0) C dX6_refuse_13 (by decide) ?_
  have q8 : (gV τ5 12 0 4).toInt = (gV σ 12 0 4).toInt := congrArg Int32.toInt (show (gV τ5 12 0 4) = (gV σ 12 0 4) from (show gV τ5 12 0 4 = (gV σ 12 0 4) from gV_put eτ5 (show gV τ2 12 0 4 = (gV σ 12 0 4) from gV_put eτ2 rfl)))
  have q9 : (gV τ5 12 0 2).toInt = a1.toInt := congrArg Int32.toInt (show (gV τ5 12 0 2) = a1 from (show gV τ5 12 0 2 = a1 from gV_put eτ5 (show gV τ2 12 0 2 = a1 from gV_put eτ2 (gV_self _ _ _ _ _))))
  have q10 : (gV τ5 12 0 3).toInt = (gV σ 12 0 4).toInt := congrArg Int32.toInt (show (gV τ5 12 0 3) = (gV σ 12 0 4) from (show gV τ5 12 0 3 = (gV σ 12 0 4) from gV_put eτ5 (gV_self _ _ _ _ _)))
  exact m_zret C hr rfl hlk (by decide) (by decide) dX6_refuse_14 ⟨_, rfl, i6, f7, kc_0, (by have q := kt_0; omega)⟩

abbrev MS_X6_numberE : List (Nat × Nat) := [(12, 2), (12, 3), (12, 4), (12, 5), (12, 6), (12, 7)]
abbrev AS_X6_numberE : List Nat := []
set_option maxHeartbeats 4000000 in
set_option maxRecDepth 100000 in
theorem c_X6_numberE (l : Launch) (G : Gt) (σ : Sg) (T : Nat → Int) (N : Nat) (i : Nat) (a1 : Int32) (a2 : Int32) (hI : Inv σ) (hT : TpC σ T N) (hcur : ((gV σ 12 0 4).toInt = (tS T i : Int) ∧ (gV σ 12 0 5).toInt = (tE T N i : Int) ∧ (gV σ 12 0 6).toInt = tK T N i ∧ (tK T N i = 2 → (gV σ 12 0 7).toInt = tV T i))) : Mc l G yX6_number cX6_number 4 (some .int) 3 60 0 0 [.ref (G.1 12 0), .int a1, .int a2] σ (PI fun r τ => Inv τ ∧ Fr MS_X6_numberE AS_X6_numberE σ τ ∧ IV r (-2147483648) 2147483647 ∧ ((tK T N i ≠ 2 ∧ r.toInt = -1 ∧ (gV τ 12 0 2).toInt = 1 ∧ ((gV τ 12 0 3).toInt = (tS T i : Int) ∧ 0 ≤ (gV τ 12 0 3).toInt ∧ (gV τ 12 0 3).toInt ≤ 400)) ∨ (tK T N i = 2 ∧ (tV T i < a1.toInt ∨ a2.toInt < tV T i) ∧ r.toInt = -1 ∧ (gV τ 12 0 2).toInt = 2 ∧ ((gV τ 12 0 3).toInt = (tS T i : Int) ∧ 0 ≤ (gV τ 12 0 3).toInt ∧ (gV τ 12 0 3).toInt ≤ 400)) ∨ (tK T N i = 2 ∧ a1.toInt ≤ tV T i ∧ tV T i ≤ a2.toInt ∧ r.toInt = tV T i ∧ (gV τ 12 0 2).toInt = (gV σ 12 0 2).toInt ∧ ((gV τ 12 0 4).toInt = (tS T (tE T N i) : Int) ∧ (gV τ 12 0 5).toInt = (tE T N (tE T N i) : Int) ∧ (gV τ 12 0 6).toInt = tK T N (tE T N i) ∧ (tK T N (tE T N i) = 2 → (gV τ 12 0 7).toInt = tV T (tE T N i)))))) := by
  refine Mc.of (L0 := [some (.ref (G.1 12 0)), some (.int a1), some (.int a2), none]) (by decide) (Nat.le_of_ble_eq_true rfl) rfl ?_
  intro p e s m args below meth c C hr hlk
  have C : Cx p s m args c cX6_number 4 "LeanTower$Reader" := C
  have k0 : (0 : Int32).toInt = 0 := by decide
  have k1 : (1 : Int32).toInt = 1 := by decide
  have u1 : IV (gV σ 12 0 4) 0 400 := hI.1 12 0 4
  have u2 : IV (gV σ 12 0 5) 0 400 := hI.1 12 0 5
  refine m_aload_n C dX6_number_0 rfl rfl ?_
  refine g_12_6 C q1_46 dX6_number_1 ?_
  refine m_eqs (w := (gV σ 12 0 6)) rfl ?_
  refine m_iconst (v := 2) C dX6_number_4 (by decide) ?_
  refine m_icmp_eq (tgt := 16) C dX6_number_5 (by decide) (fun c3 => ?_) (fun c3 => ?_)
  · have f4 : (gV σ 12 0 6).toInt = 2 := by
      have q : _ := c3
      simp only [ti_nle, ti_nlt, ti_le, ti_lt, ti_eq, ti_ne, Classical.not_not, kt_2] at q
      omega
    have b5 : IV (gV σ 12 0 6) 2 2 := ⟨by have q1 := (iv_any (gV σ 12 0 6)); have q2 := kc_2; omega, by have q1 := (iv_any (gV σ 12 0 6)); have q2 := kc_2; omega⟩
    refine m_aload_n C dX6_number_16 rfl rfl ?_
    refine g_12_7 C q1_47 dX6_number_17 ?_
    refine m_eqs (w := (gV σ 12 0 7)) rfl ?_
    refine m_iload_n C dX6_number_20 rfl rfl ?_
    refine m_icmp_lt (tgt := 32) C dX6_number_21 (by decide) (fun c6 => ?_) (fun c6 => ?_)
    · have f7 : (gV σ 12 0 7).toInt < a1.toInt := by
        have q : _ := c6
        simp only [ti_nle, ti_nlt, ti_le, ti_lt, ti_eq, ti_ne, Classical.not_not] at q
        omega
      have b8 : IV (gV σ 12 0 7) (-2147483648) 2147483646 := ⟨by have q1 := (iv_any (gV σ 12 0 7)); have q2 := (iv_any a1); omega, by have q1 := (iv_any (gV σ 12 0 7)); have q2 := (iv_any a1); omega⟩
      have b9 : IV a1 (-2147483647) 2147483647 := ⟨by have q1 := (iv_any (gV σ 12 0 7)); have q2 := (iv_any a1); omega, by have q1 := (iv_any (gV σ 12 0 7)); have q2 := (iv_any a1); omega⟩
      refine m_aload_n C dX6_number_32 rfl rfl ?_
      refine m_iconst (v := 2) C dX6_number_33 (by decide) ?_
      have q10 := kt_2
      refine m_callV (n := 1) (ci := 5) (st := []) C (c_X6_refuseE l G σ (2) hI ) (by decide) (by decide) rfl rfl rfl q2_141 q2_138 q2_140 q0_8 q1_2 (by decide +kernel) rfl (by decide) (by decide) rfl (Nat.le_of_ble_eq_true rfl) dX6_number_34 ?_
      rintro _ τ11 ⟨x14, rfl, i12, f13, b15, h17⟩
      have g16 : Fr MS_X6_numberE AS_X6_numberE σ τ11 := Fr.call (Fr.rf) f13 (by decide)
      have v18 : TpC τ11 T N := hT.fr f13 (by decide) (by decide) (by simp) (by decide)
      have q19 : (gV τ11 12 0 4).toInt = (gV σ 12 0 4).toInt := congrArg Int32.toInt (show (gV τ11 12 0 4) = (gV σ 12 0 4) from (show gV τ11 12 0 4 = (gV σ 12 0 4) from (f13.1 12 0 (4) (by decide) (by decide)).trans rfl))
      have q20 : (gV τ11 12 0 5).toInt = (gV σ 12 0 5).toInt := congrArg Int32.toInt (show (gV τ11 12 0 5) = (gV σ 12 0 5) from (show gV τ11 12 0 5 = (gV σ 12 0 5) from (f13.1 12 0 (5) (by decide) (by decide)).trans rfl))
      have q21 : (gV τ11 12 0 6).toInt = (gV σ 12 0 6).toInt := congrArg Int32.toInt (show (gV τ11 12 0 6) = (gV σ 12 0 6) from (show gV τ11 12 0 6 = (gV σ 12 0 6) from (f13.1 12 0 (6) (by decide) (by decide)).trans rfl))
      have q22 : (gV τ11 12 0 7).toInt = (gV σ 12 0 7).toInt := congrArg Int32.toInt (show (gV τ11 12 0 7) = (gV σ 12 0 7) from (show gV τ11 12 0 7 = (gV σ 12 0 7) from (f13.1 12 0 (7) (by decide) (by decide)).trans rfl))
      show MW p l e _ s m args below meth c _ 4 G 0 0 37 [some (.ref (G.1 12 0)), some (.int a1), some (.int a2), none] [.int x14] τ11
      refine m_pop C dX6_number_37 rfl ?_
      refine m_iconst (v := (-1)) C dX6_number_38 (by decide) ?_
      exact m_iret C hr hlk (by decide) (by decide) dX6_number_39 ⟨_, rfl, i12, g16, (iv_wk kc_m1 (by decide)), (Or.inr (Or.inl ⟨by have q := kt_m1; omega, by have q := kt_m1; omega, by have q := kt_m1; omega, by have q := kt_m1; omega, by have q := kt_m1; omega⟩))⟩
    · have f23 : a1.toInt ≤ (gV σ 12 0 7).toInt := by
        have q : _ := c6
        simp only [ti_nle, ti_nlt, ti_le, ti_lt, ti_eq, ti_ne, Classical.not_not] at q
        omega
      refine m_aload_n C dX6_number_24 rfl rfl ?_
      refine g_12_7 C q1_47 dX6_number_25 ?_
      refine m_eqs (w := (gV σ 12 0 7)) rfl ?_
      refine m_iload_n C dX6_number_28 rfl rfl ?_
      refine m_icmp_le (tgt := 40) C dX6_number_29 (by decide) (fun c24 => ?_) (fun c24 => ?_)
      · have f25 : (gV σ 12 0 7).toInt ≤ a2.toInt := by
          have q : _ := c24
          simp only [ti_nle, ti_nlt, ti_le, ti_lt, ti_eq, ti_ne, Classical.not_not] at q
          omega
        refine m_aload_n C dX6_number_40 rfl rfl ?_
        refine g_12_7 C q1_47 dX6_number_41 ?_
        refine m_eqs (w := (gV σ 12 0 7)) rfl ?_
        refine m_istore_n (L1 := [some (.ref (G.1 12 0)), some (.int a1), some (.int a2), some (.int (gV σ 12 0 7))]) C dX6_number_44 rfl (by decide) rfl rfl ?_
        refine m_aload_n C dX6_number_45 rfl rfl ?_
        refine m_callV (n := 0) (ci := 5) (st := []) C (c_X6_nextE l G σ T N (tE T N i)  hI hT (by omega)) (by decide) (by decide) rfl rfl rfl q2_63 q2_60 q2_62 q0_3 q1_2 (by decide +kernel) rfl (by decide) (by decide) rfl (Nat.le_of_ble_eq_true rfl) dX6_number_46 ?_
        rintro _ τ26 ⟨rfl, i27, f28, h32⟩
        have g31 : Fr MS_X6_numberE AS_X6_numberE σ τ26 := Fr.call (Fr.rf) f28 (by decide)
        have v33 : TpC τ26 T N := hT.fr f28 (by decide) (by decide) (by simp) (by decide)
        have u34 : IV (gV τ26 12 0 4) 0 400 := i27.1 12 0 4
        have u35 : IV (gV τ26 12 0 5) 0 400 := i27.1 12 0 5
        have q36 : (gV τ26 12 0 2).toInt = (gV σ 12 0 2).toInt := congrArg Int32.toInt (show (gV τ26 12 0 2) = (gV σ 12 0 2) from (show gV τ26 12 0 2 = (gV σ 12 0 2) from (f28.1 12 0 (2) (by decide) (by decide)).trans rfl))
        have q37 : (gV τ26 12 0 3).toInt = (gV σ 12 0 3).toInt := congrArg Int32.toInt (show (gV τ26 12 0 3) = (gV σ 12 0 3) from (show gV τ26 12 0 3 = (gV σ 12 0 3) from (f28.1 12 0 (3) (by decide) (by decide)).trans rfl))
        show MW p l e _ s m args below meth c _ 4 G 0 0 49 [some (.ref (G.1 12 0)), some (.int a1), some (.int a2), some (.int (gV σ 12 0 7))] [] τ26
        refine m_iload_n C dX6_number_49 rfl rfl ?_
        exact m_iret C hr hlk (by decide) (by decide) dX6_number_50 ⟨_, rfl, i27, g31, (iv_any (gV σ 12 0 7)), (Or.inr (Or.inr (⟨by omega, by omega, by omega, by omega, by omega, by omega⟩)))⟩
      · have f38 : a2.toInt < (gV σ 12 0 7).toInt := by
          have q : _ := c24
          simp only [ti_nle, ti_nlt, ti_le, ti_lt, ti_eq, ti_ne, Classical.not_not] at q
          omega
        have b39 : IV a2 (-2147483648) 2147483646 := ⟨by have q1 := (iv_any a2); have q2 := (iv_any (gV σ 12 0 7)); omega, by have q1 := (iv_any a2); have q2 := (iv_any (gV σ 12 0 7)); omega⟩
        have b40 : IV (gV σ 12 0 7) (-2147483647) 2147483647 := ⟨by have q1 := (iv_any a2); have q2 := (iv_any (gV σ 12 0 7)); omega, by have q1 := (iv_any a2); have q2 := (iv_any (gV σ 12 0 7)); omega⟩
        refine m_aload_n C dX6_number_32 rfl rfl ?_
        refine m_iconst (v := 2) C dX6_number_33 (by decide) ?_
        have q41 := kt_2
        refine m_callV (n := 1) (ci := 5) (st := []) C (c_X6_refuseE l G σ (2) hI ) (by decide) (by decide) rfl rfl rfl q2_141 q2_138 q2_140 q0_8 q1_2 (by decide +kernel) rfl (by decide) (by decide) rfl (Nat.le_of_ble_eq_true rfl) dX6_number_34 ?_
        rintro _ τ42 ⟨x45, rfl, i43, f44, b46, h48⟩
        have g47 : Fr MS_X6_numberE AS_X6_numberE σ τ42 := Fr.call (Fr.rf) f44 (by decide)
        have v49 : TpC τ42 T N := hT.fr f44 (by decide) (by decide) (by simp) (by decide)
        have q50 : (gV τ42 12 0 4).toInt = (gV σ 12 0 4).toInt := congrArg Int32.toInt (show (gV τ42 12 0 4) = (gV σ 12 0 4) from (show gV τ42 12 0 4 = (gV σ 12 0 4) from (f44.1 12 0 (4) (by decide) (by decide)).trans rfl))
        have q51 : (gV τ42 12 0 5).toInt = (gV σ 12 0 5).toInt := congrArg Int32.toInt (show (gV τ42 12 0 5) = (gV σ 12 0 5) from (show gV τ42 12 0 5 = (gV σ 12 0 5) from (f44.1 12 0 (5) (by decide) (by decide)).trans rfl))
        have q52 : (gV τ42 12 0 6).toInt = (gV σ 12 0 6).toInt := congrArg Int32.toInt (show (gV τ42 12 0 6) = (gV σ 12 0 6) from (show gV τ42 12 0 6 = (gV σ 12 0 6) from (f44.1 12 0 (6) (by decide) (by decide)).trans rfl))
        have q53 : (gV τ42 12 0 7).toInt = (gV σ 12 0 7).toInt := congrArg Int32.toInt (show (gV τ42 12 0 7) = (gV σ 12 0 7) from (show gV τ42 12 0 7 = (gV σ 12 0 7) from (f44.1 12 0 (7) (by decide) (by decide)).trans rfl))
        show MW p l e _ s m args below meth c _ 4 G 0 0 37 [some (.ref (G.1 12 0)), some (.int a1), some (.int a2), none] [.int x45] τ42
        refine m_pop C dX6_number_37 rfl ?_
        refine m_iconst (v := (-1)) C dX6_number_38 (by decide) ?_
        exact m_iret C hr hlk (by decide) (by decide) dX6_number_39 ⟨_, rfl, i43, g47, (iv_wk kc_m1 (by decide)), (Or.inr (Or.inl ⟨by have q := kt_m1; omega, by have q := kt_m1; omega, by have q := kt_m1; omega, by have q := kt_m1; omega, by have q := kt_m1; omega⟩))⟩
  · have f54 : (gV σ 12 0 6).toInt ≠ 2 := by
      have q : _ := c3
      simp only [ti_nle, ti_nlt, ti_le, ti_lt, ti_eq, ti_ne, Classical.not_not, kt_2] at q
      omega
    refine m_aload_n C dX6_number_8 rfl rfl ?_
    refine m_iconst (v := 1) C dX6_number_9 (by decide) ?_
    have q55 := kt_1
    refine m_callV (n := 1) (ci := 5) (st := []) C (c_X6_refuseE l G σ (1) hI ) (by decide) (by decide) rfl rfl rfl q2_141 q2_138 q2_140 q0_8 q1_2 (by decide +kernel) rfl (by decide) (by decide) rfl (Nat.le_of_ble_eq_true rfl) dX6_number_10 ?_
    rintro _ τ56 ⟨x59, rfl, i57, f58, b60, h62⟩
    have g61 : Fr MS_X6_numberE AS_X6_numberE σ τ56 := Fr.call (Fr.rf) f58 (by decide)
    have v63 : TpC τ56 T N := hT.fr f58 (by decide) (by decide) (by simp) (by decide)
    have q64 : (gV τ56 12 0 4).toInt = (gV σ 12 0 4).toInt := congrArg Int32.toInt (show (gV τ56 12 0 4) = (gV σ 12 0 4) from (show gV τ56 12 0 4 = (gV σ 12 0 4) from (f58.1 12 0 (4) (by decide) (by decide)).trans rfl))
    have q65 : (gV τ56 12 0 5).toInt = (gV σ 12 0 5).toInt := congrArg Int32.toInt (show (gV τ56 12 0 5) = (gV σ 12 0 5) from (show gV τ56 12 0 5 = (gV σ 12 0 5) from (f58.1 12 0 (5) (by decide) (by decide)).trans rfl))
    have q66 : (gV τ56 12 0 6).toInt = (gV σ 12 0 6).toInt := congrArg Int32.toInt (show (gV τ56 12 0 6) = (gV σ 12 0 6) from (show gV τ56 12 0 6 = (gV σ 12 0 6) from (f58.1 12 0 (6) (by decide) (by decide)).trans rfl))
    have q67 : (gV τ56 12 0 7).toInt = (gV σ 12 0 7).toInt := congrArg Int32.toInt (show (gV τ56 12 0 7) = (gV σ 12 0 7) from (show gV τ56 12 0 7 = (gV σ 12 0 7) from (f58.1 12 0 (7) (by decide) (by decide)).trans rfl))
    show MW p l e _ s m args below meth c _ 4 G 0 0 13 [some (.ref (G.1 12 0)), some (.int a1), some (.int a2), none] [.int x59] τ56
    refine m_pop C dX6_number_13 rfl ?_
    refine m_iconst (v := (-1)) C dX6_number_14 (by decide) ?_
    exact m_iret C hr hlk (by decide) (by decide) dX6_number_15 ⟨_, rfl, i57, g61, (iv_wk kc_m1 (by decide)), (Or.inl ⟨by have q := kt_m1; omega, by have q := kt_m1; omega, by have q := kt_m1; omega, by have q := kt_m1; omega⟩)⟩

abbrev MS_X6_passSemicolonE : List (Nat × Nat) := [(12, 2), (12, 3), (12, 4), (12, 5), (12, 6), (12, 7)]
abbrev AS_X6_passSemicolonE : List Nat := []
set_option maxHeartbeats 4000000 in
set_option maxRecDepth 100000 in
theorem c_X6_passSemicolonE (l : Launch) (G : Gt) (σ : Sg) (T : Nat → Int) (N : Nat) (i : Nat) (hI : Inv σ) (hT : TpC σ T N) (hcur : ((gV σ 12 0 4).toInt = (tS T i : Int) ∧ (gV σ 12 0 5).toInt = (tE T N i : Int) ∧ (gV σ 12 0 6).toInt = tK T N i ∧ (tK T N i = 2 → (gV σ 12 0 7).toInt = tV T i))) : Mc l G yX6_passSemicolon cX6_passSemicolon 1 (some .boolean) 3 60 0 0 [.ref (G.1 12 0)] σ (PI fun r τ => Inv τ ∧ Fr MS_X6_passSemicolonE AS_X6_passSemicolonE σ τ ∧ IV r 0 1 ∧ ((tK T N i ≠ 3 ∧ r.toInt = 0 ∧ (gV τ 12 0 2).toInt = 1 ∧ ((gV τ 12 0 3).toInt = (tS T i : Int) ∧ 0 ≤ (gV τ 12 0 3).toInt ∧ (gV τ 12 0 3).toInt ≤ 400)) ∨ (tK T N i = 3 ∧ r.toInt = 1 ∧ (gV τ 12 0 2).toInt = (gV σ 12 0 2).toInt ∧ ((gV τ 12 0 4).toInt = (tS T (tE T N i) : Int) ∧ (gV τ 12 0 5).toInt = (tE T N (tE T N i) : Int) ∧ (gV τ 12 0 6).toInt = tK T N (tE T N i) ∧ (tK T N (tE T N i) = 2 → (gV τ 12 0 7).toInt = tV T (tE T N i)))))) := by
  refine Mc.of (L0 := [some (.ref (G.1 12 0))]) (by decide) (Nat.le_of_ble_eq_true rfl) rfl ?_
  intro p e s m args below meth c C hr hlk
  have C : Cx p s m args c cX6_passSemicolon 1 "LeanTower$Reader" := C
  have k0 : (0 : Int32).toInt = 0 := by decide
  have k1 : (1 : Int32).toInt = 1 := by decide
  have u1 : IV (gV σ 12 0 4) 0 400 := hI.1 12 0 4
  have u2 : IV (gV σ 12 0 5) 0 400 := hI.1 12 0 5
  refine m_aload_n C dX6_passSemicolon_0 rfl rfl ?_
  refine g_12_6 C q1_46 dX6_passSemicolon_1 ?_
  refine m_eqs (w := (gV σ 12 0 6)) rfl ?_
  refine m_iconst (v := 3) C dX6_passSemicolon_4 (by decide) ?_
  refine m_icmp_eq (tgt := 14) C dX6_passSemicolon_5 (by decide) (fun c3 => ?_) (fun c3 => ?_)
  · have f4 : (gV σ 12 0 6).toInt = 3 := by
      have q : _ := c3
      simp only [ti_nle, ti_nlt, ti_le, ti_lt, ti_eq, ti_ne, Classical.not_not, kt_3] at q
      omega
    have b5 : IV (gV σ 12 0 6) 3 3 := ⟨by have q1 := (iv_any (gV σ 12 0 6)); have q2 := kc_3; omega, by have q1 := (iv_any (gV σ 12 0 6)); have q2 := kc_3; omega⟩
    refine m_aload_n C dX6_passSemicolon_14 rfl rfl ?_
    refine m_callV (n := 0) (ci := 5) (st := []) C (c_X6_nextE l G σ T N (tE T N i)  hI hT (by omega)) (by decide) (by decide) rfl rfl rfl q2_63 q2_60 q2_62 q0_3 q1_2 (by decide +kernel) rfl (by decide) (by decide) rfl (Nat.le_of_ble_eq_true rfl) dX6_passSemicolon_15 ?_
    rintro _ τ6 ⟨rfl, i7, f8, h12⟩
    have g11 : Fr MS_X6_passSemicolonE AS_X6_passSemicolonE σ τ6 := Fr.call (Fr.rf) f8 (by decide)
    have v13 : TpC τ6 T N := hT.fr f8 (by decide) (by decide) (by simp) (by decide)
    have u14 : IV (gV τ6 12 0 4) 0 400 := i7.1 12 0 4
    have u15 : IV (gV τ6 12 0 5) 0 400 := i7.1 12 0 5
    have q16 : (gV τ6 12 0 2).toInt = (gV σ 12 0 2).toInt := congrArg Int32.toInt (show (gV τ6 12 0 2) = (gV σ 12 0 2) from (show gV τ6 12 0 2 = (gV σ 12 0 2) from (f8.1 12 0 (2) (by decide) (by decide)).trans rfl))
    have q17 : (gV τ6 12 0 3).toInt = (gV σ 12 0 3).toInt := congrArg Int32.toInt (show (gV τ6 12 0 3) = (gV σ 12 0 3) from (show gV τ6 12 0 3 = (gV σ 12 0 3) from (f8.1 12 0 (3) (by decide) (by decide)).trans rfl))
    show MW p l e _ s m args below meth c _ 1 G 0 0 18 [some (.ref (G.1 12 0))] [] τ6
    refine m_iconst (v := 1) C dX6_passSemicolon_18 (by decide) ?_
    exact m_zret C hr rfl hlk (by decide) (by decide) dX6_passSemicolon_19 ⟨_, rfl, i7, g11, (iv_wk kc_1 (by decide)), (Or.inr (⟨by have q := kt_1; omega, by have q := kt_1; omega, by have q := kt_1; omega, by have q := kt_1; omega⟩))⟩
  · have f18 : (gV σ 12 0 6).toInt ≠ 3 := by
      have q : _ := c3
      simp only [ti_nle, ti_nlt, ti_le, ti_lt, ti_eq, ti_ne, Classical.not_not, kt_3] at q
      omega
    refine m_aload_n C dX6_passSemicolon_8 rfl rfl ?_
    refine m_iconst (v := 1) C dX6_passSemicolon_9 (by decide) ?_
    have q19 := kt_1
    refine m_callV (n := 1) (ci := 5) (st := []) C (c_X6_refuseE l G σ (1) hI ) (by decide) (by decide) rfl rfl rfl q2_141 q2_138 q2_140 q0_8 q1_2 (by decide +kernel) rfl (by decide) (by decide) rfl (Nat.le_of_ble_eq_true rfl) dX6_passSemicolon_10 ?_
    rintro _ τ20 ⟨x23, rfl, i21, f22, b24, h26⟩
    have g25 : Fr MS_X6_passSemicolonE AS_X6_passSemicolonE σ τ20 := Fr.call (Fr.rf) f22 (by decide)
    have v27 : TpC τ20 T N := hT.fr f22 (by decide) (by decide) (by simp) (by decide)
    have q28 : (gV τ20 12 0 4).toInt = (gV σ 12 0 4).toInt := congrArg Int32.toInt (show (gV τ20 12 0 4) = (gV σ 12 0 4) from (show gV τ20 12 0 4 = (gV σ 12 0 4) from (f22.1 12 0 (4) (by decide) (by decide)).trans rfl))
    have q29 : (gV τ20 12 0 5).toInt = (gV σ 12 0 5).toInt := congrArg Int32.toInt (show (gV τ20 12 0 5) = (gV σ 12 0 5) from (show gV τ20 12 0 5 = (gV σ 12 0 5) from (f22.1 12 0 (5) (by decide) (by decide)).trans rfl))
    have q30 : (gV τ20 12 0 6).toInt = (gV σ 12 0 6).toInt := congrArg Int32.toInt (show (gV τ20 12 0 6) = (gV σ 12 0 6) from (show gV τ20 12 0 6 = (gV σ 12 0 6) from (f22.1 12 0 (6) (by decide) (by decide)).trans rfl))
    have q31 : (gV τ20 12 0 7).toInt = (gV σ 12 0 7).toInt := congrArg Int32.toInt (show (gV τ20 12 0 7) = (gV σ 12 0 7) from (show gV τ20 12 0 7 = (gV σ 12 0 7) from (f22.1 12 0 (7) (by decide) (by decide)).trans rfl))
    show MW p l e _ s m args below meth c _ 1 G 0 0 13 [some (.ref (G.1 12 0))] [.int x23] τ20
    exact m_zret C hr (nar_z (iv_wk b24 (by decide))) hlk (by decide) (by decide) dX6_passSemicolon_13 ⟨_, rfl, i21, g25, (iv_wk b24 (by decide)), (Or.inl ⟨by omega, by omega, by omega, by omega⟩)⟩

abbrev MS_X6_kindAtHandE : List (Nat × Nat) := []
abbrev AS_X6_kindAtHandE : List Nat := []
set_option maxHeartbeats 4000000 in
set_option maxRecDepth 100000 in
theorem c_X6_kindAtHandE (l : Launch) (G : Gt) (σ : Sg) (T : Nat → Int) (N : Nat) (i : Nat) (hI : Inv σ) (hT : TpC σ T N) (hcur : ((gV σ 12 0 4).toInt = (tS T i : Int) ∧ (gV σ 12 0 5).toInt = (tE T N i : Int) ∧ (gV σ 12 0 6).toInt = tK T N i ∧ (tK T N i = 2 → (gV σ 12 0 7).toInt = tV T i))) : Mc l G yX6_kindAtHand cX6_kindAtHand 1 (some .int) 5 107 0 0 [.ref (G.1 12 0)] σ (PI fun r τ => Inv τ ∧ Fr MS_X6_kindAtHandE AS_X6_kindAtHandE σ τ ∧ IV r 0 5 ∧ r.toInt = tQ T N i) := by
  refine Mc.of (L0 := [some (.ref (G.1 12 0))]) (by decide) (Nat.le_of_ble_eq_true rfl) rfl ?_
  intro p e s m args below meth c C hr hlk
  have C : Cx p s m args c cX6_kindAtHand 1 "LeanTower$Reader" := C
  have k0 : (0 : Int32).toInt = 0 := by decide
  have k1 : (1 : Int32).toInt = 1 := by decide
  have u1 : IV (gV σ 12 0 4) 0 400 := hI.1 12 0 4
  have u2 : IV (gV σ 12 0 5) 0 400 := hI.1 12 0 5
  refine m_aload_n C dX6_kindAtHand_0 rfl rfl ?_
  refine s_ldc (w := 2) (tx := "") C rfl (by decide) rfl dX6_kindAtHand_1 ?_
  refine m_callV (n := 1) (ci := 5) (st := []) C (c_X6_isWordE l G σ T N i (w := 2) (by decide) hI hT (by omega)) (by decide) (by decide) rfl rfl rfl q2_89 q2_86 q2_88 q0_7 q1_2 (by decide +kernel) rfl (by decide) (by decide) rfl (Nat.le_of_ble_eq_true rfl) dX6_kindAtHand_3 ?_
  rintro _ τ3 ⟨x6, rfl, i4, f5, b7, h9⟩
  have g8 : Fr MS_X6_kindAtHandE AS_X6_kindAtHandE σ τ3 := Fr.call (Fr.rf) f5 (by decide)
  have v10 : TpC τ3 T N := hT.fr f5 (by decide) (by decide) (by simp) (by decide)
  have q11 : (gV τ3 12 0 2).toInt = (gV σ 12 0 2).toInt := congrArg Int32.toInt (show (gV τ3 12 0 2) = (gV σ 12 0 2) from (show gV τ3 12 0 2 = (gV σ 12 0 2) from (f5.1 12 0 (2) (by decide) (by decide)).trans rfl))
  have q12 : (gV τ3 12 0 3).toInt = (gV σ 12 0 3).toInt := congrArg Int32.toInt (show (gV τ3 12 0 3) = (gV σ 12 0 3) from (show gV τ3 12 0 3 = (gV σ 12 0 3) from (f5.1 12 0 (3) (by decide) (by decide)).trans rfl))
  have q13 : (gV τ3 12 0 4).toInt = (gV σ 12 0 4).toInt := congrArg Int32.toInt (show (gV τ3 12 0 4) = (gV σ 12 0 4) from (show gV τ3 12 0 4 = (gV σ 12 0 4) from (f5.1 12 0 (4) (by decide) (by decide)).trans rfl))
  have q14 : (gV τ3 12 0 5).toInt = (gV σ 12 0 5).toInt := congrArg Int32.toInt (show (gV τ3 12 0 5) = (gV σ 12 0 5) from (show gV τ3 12 0 5 = (gV σ 12 0 5) from (f5.1 12 0 (5) (by decide) (by decide)).trans rfl))
  have q15 : (gV τ3 12 0 6).toInt = (gV σ 12 0 6).toInt := congrArg Int32.toInt (show (gV τ3 12 0 6) = (gV σ 12 0 6) from (show gV τ3 12 0 6 = (gV σ 12 0 6) from (f5.1 12 0 (6) (by decide) (by decide)).trans rfl))
  have q16 : (gV τ3 12 0 7).toInt = (gV σ 12 0 7).toInt := congrArg Int32.toInt (show (gV τ3 12 0 7) = (gV σ 12 0 7) from (show gV τ3 12 0 7 = (gV σ 12 0 7) from (f5.1 12 0 (7) (by decide) (by decide)).trans rfl))
  rcases h9 with ⟨h9_0, h9_1, h9_2⟩ | ⟨h9_0, h9_1⟩
  · skip
    have b17 : IV x6 1 1 := ⟨by omega, by omega⟩
    show MW p l e _ s m args below meth c _ 1 G 0 0 6 [some (.ref (G.1 12 0))] [.int x6] τ3
    refine m_if_eq (tgt := 11) C dX6_kindAtHand_6 (by decide) (fun c18 => ?_) (fun c18 => ?_)
    · exfalso
      have q : _ := c18
      simp only [ti_nle, ti_nlt, ti_le, ti_lt, ti_eq, ti_ne, Classical.not_not, kt_0] at q
      have q1 := b17; have q2 := kc_0; omega
    · have f20 : x6.toInt ≠ 0 := by
        have q : _ := c18
        simp only [ti_nle, ti_nlt, ti_le, ti_lt, ti_eq, ti_ne, Classical.not_not, kt_0] at q
        omega
      refine m_iconst (v := 1) C dX6_kindAtHand_9 (by decide) ?_
      exact m_iret C hr hlk (by decide) (by decide) dX6_kindAtHand_10 ⟨_, rfl, i4, g8, (iv_wk kc_1 (by decide)), (by have q := kt_1; have q2 := tQ_def T N i; omega)⟩
  · skip
    have b21 : IV x6 0 0 := ⟨by omega, by omega⟩
    show MW p l e _ s m args below meth c _ 1 G 0 0 6 [some (.ref (G.1 12 0))] [.int x6] τ3
    refine m_if_eq (tgt := 11) C dX6_kindAtHand_6 (by decide) (fun c22 => ?_) (fun c22 => ?_)
    · have f23 : x6.toInt = 0 := by
        have q : _ := c22
        simp only [ti_nle, ti_nlt, ti_le, ti_lt, ti_eq, ti_ne, Classical.not_not, kt_0] at q
        omega
      refine m_aload_n C dX6_kindAtHand_11 rfl rfl ?_
      refine s_ldc (w := 3) (tx := "") C rfl (by decide) rfl dX6_kindAtHand_12 ?_
      refine m_callV (n := 1) (ci := 5) (st := []) C (c_X6_isWordE l G τ3 T N i (w := 3) (by decide) i4 v10 (by omega)) (by decide) (by decide) rfl rfl rfl q2_89 q2_86 q2_88 q0_7 q1_2 (by decide +kernel) rfl (by decide) (by decide) rfl (Nat.le_of_ble_eq_true rfl) dX6_kindAtHand_14 ?_
      rintro _ τ24 ⟨x27, rfl, i25, f26, b28, h30⟩
      have g29 : Fr MS_X6_kindAtHandE AS_X6_kindAtHandE σ τ24 := Fr.call (g8) f26 (by decide)
      have v31 : TpC τ24 T N := v10.fr f26 (by decide) (by decide) (by simp) (by decide)
      have q32 : (gV τ24 12 0 2).toInt = (gV σ 12 0 2).toInt := congrArg Int32.toInt (show (gV τ24 12 0 2) = (gV σ 12 0 2) from (show gV τ24 12 0 2 = (gV σ 12 0 2) from (f26.1 12 0 (2) (by decide) (by decide)).trans (show gV τ3 12 0 2 = (gV σ 12 0 2) from (f5.1 12 0 (2) (by decide) (by decide)).trans rfl)))
      have q33 : (gV τ24 12 0 3).toInt = (gV σ 12 0 3).toInt := congrArg Int32.toInt (show (gV τ24 12 0 3) = (gV σ 12 0 3) from (show gV τ24 12 0 3 = (gV σ 12 0 3) from (f26.1 12 0 (3) (by decide) (by decide)).trans (show gV τ3 12 0 3 = (gV σ 12 0 3) from (f5.1 12 0 (3) (by decide) (by decide)).trans rfl)))
      have q34 : (gV τ24 12 0 4).toInt = (gV σ 12 0 4).toInt := congrArg Int32.toInt (show (gV τ24 12 0 4) = (gV σ 12 0 4) from (show gV τ24 12 0 4 = (gV σ 12 0 4) from (f26.1 12 0 (4) (by decide) (by decide)).trans (show gV τ3 12 0 4 = (gV σ 12 0 4) from (f5.1 12 0 (4) (by decide) (by decide)).trans rfl)))
      have q35 : (gV τ24 12 0 5).toInt = (gV σ 12 0 5).toInt := congrArg Int32.toInt (show (gV τ24 12 0 5) = (gV σ 12 0 5) from (show gV τ24 12 0 5 = (gV σ 12 0 5) from (f26.1 12 0 (5) (by decide) (by decide)).trans (show gV τ3 12 0 5 = (gV σ 12 0 5) from (f5.1 12 0 (5) (by decide) (by decide)).trans rfl)))
      have q36 : (gV τ24 12 0 6).toInt = (gV σ 12 0 6).toInt := congrArg Int32.toInt (show (gV τ24 12 0 6) = (gV σ 12 0 6) from (show gV τ24 12 0 6 = (gV σ 12 0 6) from (f26.1 12 0 (6) (by decide) (by decide)).trans (show gV τ3 12 0 6 = (gV σ 12 0 6) from (f5.1 12 0 (6) (by decide) (by decide)).trans rfl)))
      have q37 : (gV τ24 12 0 7).toInt = (gV σ 12 0 7).toInt := congrArg Int32.toInt (show (gV τ24 12 0 7) = (gV σ 12 0 7) from (show gV τ24 12 0 7 = (gV σ 12 0 7) from (f26.1 12 0 (7) (by decide) (by decide)).trans (show gV τ3 12 0 7 = (gV σ 12 0 7) from (f5.1 12 0 (7) (by decide) (by decide)).trans rfl)))
      rcases h30 with ⟨h30_0, h30_1, h30_2⟩ | ⟨h30_0, h30_1⟩
      · skip
        have b38 : IV x27 1 1 := ⟨by omega, by omega⟩
        show MW p l e _ s m args below meth c _ 1 G 0 0 17 [some (.ref (G.1 12 0))] [.int x27] τ24
        refine m_if_eq (tgt := 22) C dX6_kindAtHand_17 (by decide) (fun c39 => ?_) (fun c39 => ?_)
        · exfalso
          have q : _ := c39
          simp only [ti_nle, ti_nlt, ti_le, ti_lt, ti_eq, ti_ne, Classical.not_not, kt_0] at q
          have q1 := b38; have q2 := kc_0; omega
        · have f41 : x27.toInt ≠ 0 := by
            have q : _ := c39
            simp only [ti_nle, ti_nlt, ti_le, ti_lt, ti_eq, ti_ne, Classical.not_not, kt_0] at q
            omega
          refine m_iconst (v := 2) C dX6_kindAtHand_20 (by decide) ?_
          exact m_iret C hr hlk (by decide) (by decide) dX6_kindAtHand_21 ⟨_, rfl, i25, g29, (iv_wk kc_2 (by decide)), (by have q := kt_2; have q2 := tQ_def T N i; omega)⟩
      · skip
        have b42 : IV x27 0 0 := ⟨by omega, by omega⟩
        show MW p l e _ s m args below meth c _ 1 G 0 0 17 [some (.ref (G.1 12 0))] [.int x27] τ24
        refine m_if_eq (tgt := 22) C dX6_kindAtHand_17 (by decide) (fun c43 => ?_) (fun c43 => ?_)
        · have f44 : x27.toInt = 0 := by
            have q : _ := c43
            simp only [ti_nle, ti_nlt, ti_le, ti_lt, ti_eq, ti_ne, Classical.not_not, kt_0] at q
            omega
          refine m_aload_n C dX6_kindAtHand_22 rfl rfl ?_
          refine s_ldc (w := 4) (tx := "") C rfl (by decide) rfl dX6_kindAtHand_23 ?_
          refine m_callV (n := 1) (ci := 5) (st := []) C (c_X6_isWordE l G τ24 T N i (w := 4) (by decide) i25 v31 (by omega)) (by decide) (by decide) rfl rfl rfl q2_89 q2_86 q2_88 q0_7 q1_2 (by decide +kernel) rfl (by decide) (by decide) rfl (Nat.le_of_ble_eq_true rfl) dX6_kindAtHand_25 ?_
          rintro _ τ45 ⟨x48, rfl, i46, f47, b49, h51⟩
          have g50 : Fr MS_X6_kindAtHandE AS_X6_kindAtHandE σ τ45 := Fr.call (g29) f47 (by decide)
          have v52 : TpC τ45 T N := v31.fr f47 (by decide) (by decide) (by simp) (by decide)
          have q53 : (gV τ45 12 0 2).toInt = (gV σ 12 0 2).toInt := congrArg Int32.toInt (show (gV τ45 12 0 2) = (gV σ 12 0 2) from (show gV τ45 12 0 2 = (gV σ 12 0 2) from (f47.1 12 0 (2) (by decide) (by decide)).trans (show gV τ24 12 0 2 = (gV σ 12 0 2) from (f26.1 12 0 (2) (by decide) (by decide)).trans (show gV τ3 12 0 2 = (gV σ 12 0 2) from (f5.1 12 0 (2) (by decide) (by decide)).trans rfl))))
          have q54 : (gV τ45 12 0 3).toInt = (gV σ 12 0 3).toInt := congrArg Int32.toInt (show (gV τ45 12 0 3) = (gV σ 12 0 3) from (show gV τ45 12 0 3 = (gV σ 12 0 3) from (f47.1 12 0 (3) (by decide) (by decide)).trans (show gV τ24 12 0 3 = (gV σ 12 0 3) from (f26.1 12 0 (3) (by decide) (by decide)).trans (show gV τ3 12 0 3 = (gV σ 12 0 3) from (f5.1 12 0 (3) (by decide) (by decide)).trans rfl))))
          have q55 : (gV τ45 12 0 4).toInt = (gV σ 12 0 4).toInt := congrArg Int32.toInt (show (gV τ45 12 0 4) = (gV σ 12 0 4) from (show gV τ45 12 0 4 = (gV σ 12 0 4) from (f47.1 12 0 (4) (by decide) (by decide)).trans (show gV τ24 12 0 4 = (gV σ 12 0 4) from (f26.1 12 0 (4) (by decide) (by decide)).trans (show gV τ3 12 0 4 = (gV σ 12 0 4) from (f5.1 12 0 (4) (by decide) (by decide)).trans rfl))))
          have q56 : (gV τ45 12 0 5).toInt = (gV σ 12 0 5).toInt := congrArg Int32.toInt (show (gV τ45 12 0 5) = (gV σ 12 0 5) from (show gV τ45 12 0 5 = (gV σ 12 0 5) from (f47.1 12 0 (5) (by decide) (by decide)).trans (show gV τ24 12 0 5 = (gV σ 12 0 5) from (f26.1 12 0 (5) (by decide) (by decide)).trans (show gV τ3 12 0 5 = (gV σ 12 0 5) from (f5.1 12 0 (5) (by decide) (by decide)).trans rfl))))
          have q57 : (gV τ45 12 0 6).toInt = (gV σ 12 0 6).toInt := congrArg Int32.toInt (show (gV τ45 12 0 6) = (gV σ 12 0 6) from (show gV τ45 12 0 6 = (gV σ 12 0 6) from (f47.1 12 0 (6) (by decide) (by decide)).trans (show gV τ24 12 0 6 = (gV σ 12 0 6) from (f26.1 12 0 (6) (by decide) (by decide)).trans (show gV τ3 12 0 6 = (gV σ 12 0 6) from (f5.1 12 0 (6) (by decide) (by decide)).trans rfl))))
          have q58 : (gV τ45 12 0 7).toInt = (gV σ 12 0 7).toInt := congrArg Int32.toInt (show (gV τ45 12 0 7) = (gV σ 12 0 7) from (show gV τ45 12 0 7 = (gV σ 12 0 7) from (f47.1 12 0 (7) (by decide) (by decide)).trans (show gV τ24 12 0 7 = (gV σ 12 0 7) from (f26.1 12 0 (7) (by decide) (by decide)).trans (show gV τ3 12 0 7 = (gV σ 12 0 7) from (f5.1 12 0 (7) (by decide) (by decide)).trans rfl))))
          rcases h51 with ⟨h51_0, h51_1, h51_2⟩ | ⟨h51_0, h51_1⟩
          · skip
            have b59 : IV x48 1 1 := ⟨by omega, by omega⟩
            show MW p l e _ s m args below meth c _ 1 G 0 0 28 [some (.ref (G.1 12 0))] [.int x48] τ45
            refine m_if_eq (tgt := 33) C dX6_kindAtHand_28 (by decide) (fun c60 => ?_) (fun c60 => ?_)
            · exfalso
              have q : _ := c60
              simp only [ti_nle, ti_nlt, ti_le, ti_lt, ti_eq, ti_ne, Classical.not_not, kt_0] at q
              have q1 := b59; have q2 := kc_0; omega
            · have f62 : x48.toInt ≠ 0 := by
                have q : _ := c60
                simp only [ti_nle, ti_nlt, ti_le, ti_lt, ti_eq, ti_ne, Classical.not_not, kt_0] at q
                omega
              refine m_iconst (v := 3) C dX6_kindAtHand_31 (by decide) ?_
              exact m_iret C hr hlk (by decide) (by decide) dX6_kindAtHand_32 ⟨_, rfl, i46, g50, (iv_wk kc_3 (by decide)), (by have q := kt_3; have q2 := tQ_def T N i; omega)⟩
          · skip
            have b63 : IV x48 0 0 := ⟨by omega, by omega⟩
            show MW p l e _ s m args below meth c _ 1 G 0 0 28 [some (.ref (G.1 12 0))] [.int x48] τ45
            refine m_if_eq (tgt := 33) C dX6_kindAtHand_28 (by decide) (fun c64 => ?_) (fun c64 => ?_)
            · have f65 : x48.toInt = 0 := by
                have q : _ := c64
                simp only [ti_nle, ti_nlt, ti_le, ti_lt, ti_eq, ti_ne, Classical.not_not, kt_0] at q
                omega
              refine m_aload_n C dX6_kindAtHand_33 rfl rfl ?_
              refine s_ldc (w := 5) (tx := "") C rfl (by decide) rfl dX6_kindAtHand_34 ?_
              refine m_callV (n := 1) (ci := 5) (st := []) C (c_X6_isWordE l G τ45 T N i (w := 5) (by decide) i46 v52 (by omega)) (by decide) (by decide) rfl rfl rfl q2_89 q2_86 q2_88 q0_7 q1_2 (by decide +kernel) rfl (by decide) (by decide) rfl (Nat.le_of_ble_eq_true rfl) dX6_kindAtHand_36 ?_
              rintro _ τ66 ⟨x69, rfl, i67, f68, b70, h72⟩
              have g71 : Fr MS_X6_kindAtHandE AS_X6_kindAtHandE σ τ66 := Fr.call (g50) f68 (by decide)
              have v73 : TpC τ66 T N := v52.fr f68 (by decide) (by decide) (by simp) (by decide)
              have q74 : (gV τ66 12 0 2).toInt = (gV σ 12 0 2).toInt := congrArg Int32.toInt (show (gV τ66 12 0 2) = (gV σ 12 0 2) from (show gV τ66 12 0 2 = (gV σ 12 0 2) from (f68.1 12 0 (2) (by decide) (by decide)).trans (show gV τ45 12 0 2 = (gV σ 12 0 2) from (f47.1 12 0 (2) (by decide) (by decide)).trans (show gV τ24 12 0 2 = (gV σ 12 0 2) from (f26.1 12 0 (2) (by decide) (by decide)).trans (show gV τ3 12 0 2 = (gV σ 12 0 2) from (f5.1 12 0 (2) (by decide) (by decide)).trans rfl)))))
              have q75 : (gV τ66 12 0 3).toInt = (gV σ 12 0 3).toInt := congrArg Int32.toInt (show (gV τ66 12 0 3) = (gV σ 12 0 3) from (show gV τ66 12 0 3 = (gV σ 12 0 3) from (f68.1 12 0 (3) (by decide) (by decide)).trans (show gV τ45 12 0 3 = (gV σ 12 0 3) from (f47.1 12 0 (3) (by decide) (by decide)).trans (show gV τ24 12 0 3 = (gV σ 12 0 3) from (f26.1 12 0 (3) (by decide) (by decide)).trans (show gV τ3 12 0 3 = (gV σ 12 0 3) from (f5.1 12 0 (3) (by decide) (by decide)).trans rfl)))))
              have q76 : (gV τ66 12 0 4).toInt = (gV σ 12 0 4).toInt := congrArg Int32.toInt (show (gV τ66 12 0 4) = (gV σ 12 0 4) from (show gV τ66 12 0 4 = (gV σ 12 0 4) from (f68.1 12 0 (4) (by decide) (by decide)).trans (show gV τ45 12 0 4 = (gV σ 12 0 4) from (f47.1 12 0 (4) (by decide) (by decide)).trans (show gV τ24 12 0 4 = (gV σ 12 0 4) from (f26.1 12 0 (4) (by decide) (by decide)).trans (show gV τ3 12 0 4 = (gV σ 12 0 4) from (f5.1 12 0 (4) (by decide) (by decide)).trans rfl)))))
              have q77 : (gV τ66 12 0 5).toInt = (gV σ 12 0 5).toInt := congrArg Int32.toInt (show (gV τ66 12 0 5) = (gV σ 12 0 5) from (show gV τ66 12 0 5 = (gV σ 12 0 5) from (f68.1 12 0 (5) (by decide) (by decide)).trans (show gV τ45 12 0 5 = (gV σ 12 0 5) from (f47.1 12 0 (5) (by decide) (by decide)).trans (show gV τ24 12 0 5 = (gV σ 12 0 5) from (f26.1 12 0 (5) (by decide) (by decide)).trans (show gV τ3 12 0 5 = (gV σ 12 0 5) from (f5.1 12 0 (5) (by decide) (by decide)).trans rfl)))))
              have q78 : (gV τ66 12 0 6).toInt = (gV σ 12 0 6).toInt := congrArg Int32.toInt (show (gV τ66 12 0 6) = (gV σ 12 0 6) from (show gV τ66 12 0 6 = (gV σ 12 0 6) from (f68.1 12 0 (6) (by decide) (by decide)).trans (show gV τ45 12 0 6 = (gV σ 12 0 6) from (f47.1 12 0 (6) (by decide) (by decide)).trans (show gV τ24 12 0 6 = (gV σ 12 0 6) from (f26.1 12 0 (6) (by decide) (by decide)).trans (show gV τ3 12 0 6 = (gV σ 12 0 6) from (f5.1 12 0 (6) (by decide) (by decide)).trans rfl)))))
              have q79 : (gV τ66 12 0 7).toInt = (gV σ 12 0 7).toInt := congrArg Int32.toInt (show (gV τ66 12 0 7) = (gV σ 12 0 7) from (show gV τ66 12 0 7 = (gV σ 12 0 7) from (f68.1 12 0 (7) (by decide) (by decide)).trans (show gV τ45 12 0 7 = (gV σ 12 0 7) from (f47.1 12 0 (7) (by decide) (by decide)).trans (show gV τ24 12 0 7 = (gV σ 12 0 7) from (f26.1 12 0 (7) (by decide) (by decide)).trans (show gV τ3 12 0 7 = (gV σ 12 0 7) from (f5.1 12 0 (7) (by decide) (by decide)).trans rfl)))))
              rcases h72 with ⟨h72_0, h72_1, h72_2⟩ | ⟨h72_0, h72_1⟩
              · skip
                have b80 : IV x69 1 1 := ⟨by omega, by omega⟩
                show MW p l e _ s m args below meth c _ 1 G 0 0 39 [some (.ref (G.1 12 0))] [.int x69] τ66
                refine m_if_eq (tgt := 44) C dX6_kindAtHand_39 (by decide) (fun c81 => ?_) (fun c81 => ?_)
                · exfalso
                  have q : _ := c81
                  simp only [ti_nle, ti_nlt, ti_le, ti_lt, ti_eq, ti_ne, Classical.not_not, kt_0] at q
                  have q1 := b80; have q2 := kc_0; omega
                · have f83 : x69.toInt ≠ 0 := by
                    have q : _ := c81
                    simp only [ti_nle, ti_nlt, ti_le, ti_lt, ti_eq, ti_ne, Classical.not_not, kt_0] at q
                    omega
                  refine m_iconst (v := 4) C dX6_kindAtHand_42 (by decide) ?_
                  exact m_iret C hr hlk (by decide) (by decide) dX6_kindAtHand_43 ⟨_, rfl, i67, g71, (iv_wk kc_4 (by decide)), (by have q := kt_4; have q2 := tQ_def T N i; omega)⟩
              · skip
                have b84 : IV x69 0 0 := ⟨by omega, by omega⟩
                show MW p l e _ s m args below meth c _ 1 G 0 0 39 [some (.ref (G.1 12 0))] [.int x69] τ66
                refine m_if_eq (tgt := 44) C dX6_kindAtHand_39 (by decide) (fun c85 => ?_) (fun c85 => ?_)
                · have f86 : x69.toInt = 0 := by
                    have q : _ := c85
                    simp only [ti_nle, ti_nlt, ti_le, ti_lt, ti_eq, ti_ne, Classical.not_not, kt_0] at q
                    omega
                  refine m_aload_n C dX6_kindAtHand_44 rfl rfl ?_
                  refine s_ldc (w := 6) (tx := "") C rfl (by decide) rfl dX6_kindAtHand_45 ?_
                  refine m_callV (n := 1) (ci := 5) (st := []) C (c_X6_isWordE l G τ66 T N i (w := 6) (by decide) i67 v73 (by omega)) (by decide) (by decide) rfl rfl rfl q2_89 q2_86 q2_88 q0_7 q1_2 (by decide +kernel) rfl (by decide) (by decide) rfl (Nat.le_of_ble_eq_true rfl) dX6_kindAtHand_47 ?_
                  rintro _ τ87 ⟨x90, rfl, i88, f89, b91, h93⟩
                  have g92 : Fr MS_X6_kindAtHandE AS_X6_kindAtHandE σ τ87 := Fr.call (g71) f89 (by decide)
                  have v94 : TpC τ87 T N := v73.fr f89 (by decide) (by decide) (by simp) (by decide)
                  have q95 : (gV τ87 12 0 2).toInt = (gV σ 12 0 2).toInt := congrArg Int32.toInt (show (gV τ87 12 0 2) = (gV σ 12 0 2) from (show gV τ87 12 0 2 = (gV σ 12 0 2) from (f89.1 12 0 (2) (by decide) (by decide)).trans (show gV τ66 12 0 2 = (gV σ 12 0 2) from (f68.1 12 0 (2) (by decide) (by decide)).trans (show gV τ45 12 0 2 = (gV σ 12 0 2) from (f47.1 12 0 (2) (by decide) (by decide)).trans (show gV τ24 12 0 2 = (gV σ 12 0 2) from (f26.1 12 0 (2) (by decide) (by decide)).trans (show gV τ3 12 0 2 = (gV σ 12 0 2) from (f5.1 12 0 (2) (by decide) (by decide)).trans rfl))))))
                  have q96 : (gV τ87 12 0 3).toInt = (gV σ 12 0 3).toInt := congrArg Int32.toInt (show (gV τ87 12 0 3) = (gV σ 12 0 3) from (show gV τ87 12 0 3 = (gV σ 12 0 3) from (f89.1 12 0 (3) (by decide) (by decide)).trans (show gV τ66 12 0 3 = (gV σ 12 0 3) from (f68.1 12 0 (3) (by decide) (by decide)).trans (show gV τ45 12 0 3 = (gV σ 12 0 3) from (f47.1 12 0 (3) (by decide) (by decide)).trans (show gV τ24 12 0 3 = (gV σ 12 0 3) from (f26.1 12 0 (3) (by decide) (by decide)).trans (show gV τ3 12 0 3 = (gV σ 12 0 3) from (f5.1 12 0 (3) (by decide) (by decide)).trans rfl))))))
                  have q97 : (gV τ87 12 0 4).toInt = (gV σ 12 0 4).toInt := congrArg Int32.toInt (show (gV τ87 12 0 4) = (gV σ 12 0 4) from (show gV τ87 12 0 4 = (gV σ 12 0 4) from (f89.1 12 0 (4) (by decide) (by decide)).trans (show gV τ66 12 0 4 = (gV σ 12 0 4) from (f68.1 12 0 (4) (by decide) (by decide)).trans (show gV τ45 12 0 4 = (gV σ 12 0 4) from (f47.1 12 0 (4) (by decide) (by decide)).trans (show gV τ24 12 0 4 = (gV σ 12 0 4) from (f26.1 12 0 (4) (by decide) (by decide)).trans (show gV τ3 12 0 4 = (gV σ 12 0 4) from (f5.1 12 0 (4) (by decide) (by decide)).trans rfl))))))
                  have q98 : (gV τ87 12 0 5).toInt = (gV σ 12 0 5).toInt := congrArg Int32.toInt (show (gV τ87 12 0 5) = (gV σ 12 0 5) from (show gV τ87 12 0 5 = (gV σ 12 0 5) from (f89.1 12 0 (5) (by decide) (by decide)).trans (show gV τ66 12 0 5 = (gV σ 12 0 5) from (f68.1 12 0 (5) (by decide) (by decide)).trans (show gV τ45 12 0 5 = (gV σ 12 0 5) from (f47.1 12 0 (5) (by decide) (by decide)).trans (show gV τ24 12 0 5 = (gV σ 12 0 5) from (f26.1 12 0 (5) (by decide) (by decide)).trans (show gV τ3 12 0 5 = (gV σ 12 0 5) from (f5.1 12 0 (5) (by decide) (by decide)).trans rfl))))))
                  have q99 : (gV τ87 12 0 6).toInt = (gV σ 12 0 6).toInt := congrArg Int32.toInt (show (gV τ87 12 0 6) = (gV σ 12 0 6) from (show gV τ87 12 0 6 = (gV σ 12 0 6) from (f89.1 12 0 (6) (by decide) (by decide)).trans (show gV τ66 12 0 6 = (gV σ 12 0 6) from (f68.1 12 0 (6) (by decide) (by decide)).trans (show gV τ45 12 0 6 = (gV σ 12 0 6) from (f47.1 12 0 (6) (by decide) (by decide)).trans (show gV τ24 12 0 6 = (gV σ 12 0 6) from (f26.1 12 0 (6) (by decide) (by decide)).trans (show gV τ3 12 0 6 = (gV σ 12 0 6) from (f5.1 12 0 (6) (by decide) (by decide)).trans rfl))))))
                  have q100 : (gV τ87 12 0 7).toInt = (gV σ 12 0 7).toInt := congrArg Int32.toInt (show (gV τ87 12 0 7) = (gV σ 12 0 7) from (show gV τ87 12 0 7 = (gV σ 12 0 7) from (f89.1 12 0 (7) (by decide) (by decide)).trans (show gV τ66 12 0 7 = (gV σ 12 0 7) from (f68.1 12 0 (7) (by decide) (by decide)).trans (show gV τ45 12 0 7 = (gV σ 12 0 7) from (f47.1 12 0 (7) (by decide) (by decide)).trans (show gV τ24 12 0 7 = (gV σ 12 0 7) from (f26.1 12 0 (7) (by decide) (by decide)).trans (show gV τ3 12 0 7 = (gV σ 12 0 7) from (f5.1 12 0 (7) (by decide) (by decide)).trans rfl))))))
                  rcases h93 with ⟨h93_0, h93_1, h93_2⟩ | ⟨h93_0, h93_1⟩
                  · skip
                    have b101 : IV x90 1 1 := ⟨by omega, by omega⟩
                    show MW p l e _ s m args below meth c _ 1 G 0 0 50 [some (.ref (G.1 12 0))] [.int x90] τ87
                    refine m_if_eq (tgt := 57) C dX6_kindAtHand_50 (by decide) (fun c102 => ?_) (fun c102 => ?_)
                    · exfalso
                      have q : _ := c102
                      simp only [ti_nle, ti_nlt, ti_le, ti_lt, ti_eq, ti_ne, Classical.not_not, kt_0] at q
                      have q1 := b101; have q2 := kc_0; omega
                    · have f104 : x90.toInt ≠ 0 := by
                        have q : _ := c102
                        simp only [ti_nle, ti_nlt, ti_le, ti_lt, ti_eq, ti_ne, Classical.not_not, kt_0] at q
                        omega
                      refine m_iconst (v := 5) C dX6_kindAtHand_53 (by decide) ?_
                      refine m_goto (tgt := 58) C dX6_kindAtHand_54 (by decide) ?_
                      exact m_iret C hr hlk (by decide) (by decide) dX6_kindAtHand_58 ⟨_, rfl, i88, g92, (iv_wk kc_5 (by decide)), (by have q := kt_5; have q2 := tQ_def T N i; omega)⟩
                  · skip
                    have b105 : IV x90 0 0 := ⟨by omega, by omega⟩
                    show MW p l e _ s m args below meth c _ 1 G 0 0 50 [some (.ref (G.1 12 0))] [.int x90] τ87
                    refine m_if_eq (tgt := 57) C dX6_kindAtHand_50 (by decide) (fun c106 => ?_) (fun c106 => ?_)
                    · have f107 : x90.toInt = 0 := by
                        have q : _ := c106
                        simp only [ti_nle, ti_nlt, ti_le, ti_lt, ti_eq, ti_ne, Classical.not_not, kt_0] at q
                        omega
                      refine m_iconst (v := 0) C dX6_kindAtHand_57 (by decide) ?_
                      exact m_iret C hr hlk (by decide) (by decide) dX6_kindAtHand_58 ⟨_, rfl, i88, g92, (iv_wk kc_0 (by decide)), (by have q := kt_0; have q2 := tQ_def T N i; omega)⟩
                    · exfalso
                      have q : _ := c106
                      simp only [ti_nle, ti_nlt, ti_le, ti_lt, ti_eq, ti_ne, Classical.not_not, kt_0] at q
                      have q1 := b105; have q2 := kc_0; omega
                · exfalso
                  have q : _ := c85
                  simp only [ti_nle, ti_nlt, ti_le, ti_lt, ti_eq, ti_ne, Classical.not_not, kt_0] at q
                  have q1 := b84; have q2 := kc_0; omega
            · exfalso
              have q : _ := c64
              simp only [ti_nle, ti_nlt, ti_le, ti_lt, ti_eq, ti_ne, Classical.not_not, kt_0] at q
              have q1 := b63; have q2 := kc_0; omega
        · exfalso
          have q : _ := c43
          simp only [ti_nle, ti_nlt, ti_le, ti_lt, ti_eq, ti_ne, Classical.not_not, kt_0] at q
          have q1 := b42; have q2 := kc_0; omega
    · exfalso
      have q : _ := c22
      simp only [ti_nle, ti_nlt, ti_le, ti_lt, ti_eq, ti_ne, Classical.not_not, kt_0] at q
      have q1 := b21; have q2 := kc_0; omega

abbrev MS_X8_addStoneE : List (Nat × Nat) := [(1, 3)]
abbrev AS_X8_addStoneE : List Nat := [4, 5]
set_option maxHeartbeats 4000000 in
set_option maxRecDepth 100000 in
theorem c_X8_addStoneE (l : Launch) (G : Gt) (σ : Sg) {j : Nat} (hj : j < 28) (a1 : Int32) (a2 : Int32) (hI : Inv σ) : Mc l G yX8_addStone cX8_addStone 3 none 0 0 0 0 [.ref (G.1 1 j), .int a1, .int a2] σ (PV fun τ => Inv τ ∧ Fr MS_X8_addStoneE AS_X8_addStoneE σ τ ∧ ((gV σ 1 j 3).toInt < 4 → (gV τ 1 j 3).toInt = (gV σ 1 j 3).toInt + 1)) := by
  refine Mc.of (L0 := [some (.ref (G.1 1 j)), some (.int a1), some (.int a2)]) (by decide) (Nat.le_of_ble_eq_true rfl) rfl ?_
  intro p e s m args below meth c C hr hlk
  have C : Cx p s m args c cX8_addStone 3 "LeanTower$Tower" := C
  have k0 : (0 : Int32).toInt = 0 := by decide
  have k1 : (1 : Int32).toInt = 1 := by decide
  have u1 : IV (gV σ 1 j 3) 0 4 := hI.1 1 j 3
  refine m_aload_n C dX8_addStone_0 rfl rfl ?_
  refine g_1_3 C hj q1_83 dX8_addStone_1 ?_
  refine m_eqs (w := (gV σ 1 j 3)) rfl ?_
  refine m_iconst (v := 4) C dX8_addStone_4 (by decide) ?_
  refine m_icmp_ge (tgt := 38) C dX8_addStone_5 (by decide) (fun c2 => ?_) (fun c2 => ?_)
  · have f3 : 4 ≤ (gV σ 1 j 3).toInt := by
      have q : _ := c2
      simp only [ti_nle, ti_nlt, ti_le, ti_lt, ti_eq, ti_ne, Classical.not_not, kt_4] at q
      omega
    have b4 : IV (gV σ 1 j 3) 4 4 := ⟨by have q1 := kc_4; have q2 := u1; omega, by have q1 := kc_4; have q2 := u1; omega⟩
    exact m_vret C hr hlk (by decide) (by decide) dX8_addStone_38 ⟨rfl, hI, Fr.rf, (by omega)⟩
  · have f5 : (gV σ 1 j 3).toInt < 4 := by
      have q : _ := c2
      simp only [ti_nle, ti_nlt, ti_le, ti_lt, ti_eq, ti_ne, Classical.not_not, kt_4] at q
      omega
    have b6 : IV (gV σ 1 j 3) 0 3 := ⟨by have q1 := u1; have q2 := kc_4; omega, by have q1 := u1; have q2 := kc_4; omega⟩
    refine m_aload_n C dX8_addStone_8 rfl rfl ?_
    refine g_1_7 C hj q1_91 dX8_addStone_9 ?_
    refine m_aload_n C dX8_addStone_12 rfl rfl ?_
    refine g_1_3 C hj q1_83 dX8_addStone_13 ?_
    refine m_eqs (w := (gV σ 1 j 3)) rfl ?_
    refine m_iload_n C dX8_addStone_16 rfl rfl ?_
    refine as_4 C hj b6 (by decide) rfl dX8_addStone_17 ?_
    refine m_tops (fun τ7 eτ7 => ?_)
    have i8 : Inv τ7 := eτ7 ▸ Inv.putF hI (by decide) rfl
    have f9 : Fr MS_X8_addStoneE AS_X8_addStoneE σ τ7 := eτ7 ▸ Fr.put (Fr.rf) (Or.inr (by decide))
    refine m_aload_n C dX8_addStone_18 rfl rfl ?_
    refine g_1_8 C hj q1_93 dX8_addStone_19 ?_
    refine m_aload_n C dX8_addStone_22 rfl rfl ?_
    refine g_1_3 C hj q1_83 dX8_addStone_23 ?_
    refine m_eqs (w := (gV σ 1 j 3)) (show gV τ7 1 j 3 = (gV σ 1 j 3) from gV_put eτ7 rfl) ?_
    refine m_iload_n C dX8_addStone_26 rfl rfl ?_
    refine as_5 C hj b6 (by decide) rfl dX8_addStone_27 ?_
    refine m_tops (fun τ10 eτ10 => ?_)
    have i11 : Inv τ10 := eτ10 ▸ Inv.putF i8 (by decide) rfl
    have f12 : Fr MS_X8_addStoneE AS_X8_addStoneE σ τ10 := eτ10 ▸ Fr.put (f9) (Or.inr (by decide))
    refine m_aload_n C dX8_addStone_28 rfl rfl ?_
    refine m_dup C dX8_addStone_29 rfl ?_
    refine g_1_3 C hj q1_83 dX8_addStone_30 ?_
    refine m_eqs (w := (gV σ 1 j 3)) (show gV τ10 1 j 3 = (gV σ 1 j 3) from gV_put eτ10 (show gV τ7 1 j 3 = (gV σ 1 j 3) from gV_put eτ7 rfl)) ?_
    refine m_iconst (v := 1) C dX8_addStone_33 (by decide) ?_
    refine m_iadd C dX8_addStone_34 ?_
    refine m_topi (fun x13 ex13 => ?_)
    have tx13 : x13.toInt = (gV σ 1 j 3).toInt + 1 := by rw [ex13, ti_addv b6 kc_1 (by decide), kt_1]
    have b14 : IV x13 1 4 := by rw [ex13]; exact iv_add b6 kc_1 (by decide)
    refine p_1_3 C hj q1_83 dX8_addStone_35 ?_
    refine m_tops (fun τ15 eτ15 => ?_)
    have i16 : Inv τ15 := eτ15 ▸ Inv.put i11 (by decide) (iv_wk b14 (by decide))
    have f17 : Fr MS_X8_addStoneE AS_X8_addStoneE σ τ15 := eτ15 ▸ Fr.put (f12) (Or.inl (by decide))
    have q18 : (gV τ15 1 j 3).toInt = x13.toInt := congrArg Int32.toInt (show (gV τ15 1 j 3) = x13 from (show gV τ15 1 j 3 = x13 from gV_put eτ15 (gV_self _ _ _ _ _)))
    exact m_vret C hr hlk (by decide) (by decide) dX8_addStone_38 ⟨rfl, i16, f17, (by omega)⟩

abbrev MS_X6_readStoneE : List (Nat × Nat) := [(1, 3), (12, 2), (12, 3), (12, 4), (12, 5), (12, 6), (12, 7)]
abbrev AS_X6_readStoneE : List Nat := [4, 5]
set_option maxHeartbeats 4000000 in
set_option maxRecDepth 100000 in
theorem c_X6_readStoneE (l : Launch) (G : Gt) (σ : Sg) (T : Nat → Int) (N : Nat) (i : Nat) (cc : Int) {j2 : Nat} (hj2 : j2 < 28) (hI : Inv σ) (hT : TpC σ T N) (hcur : ((gV σ 12 0 4).toInt = (tS T i : Int) ∧ (gV σ 12 0 5).toInt = (tE T N i : Int) ∧ (gV σ 12 0 6).toInt = tK T N i ∧ (tK T N i = 2 → (gV σ 12 0 7).toInt = tV T i))) (hst : (gV σ 1 j2 3).toInt = cc) : Mc l G yX6_readStone cX6_readStone 4 (some .boolean) 4 83 0 0 [.ref (G.1 12 0), .ref (G.1 1 j2)] σ (PI fun r τ => Inv τ ∧ Fr MS_X6_readStoneE AS_X6_readStoneE σ τ ∧ IV r 0 1 ∧ ((r.toInt = 0 ∧ stoF T N cc i ≠ 0 ∧ (gV τ 12 0 2).toInt = stoF T N cc i ∧ ((gV τ 12 0 3).toInt = stoP T N cc i ∧ 0 ≤ (gV τ 12 0 3).toInt ∧ (gV τ 12 0 3).toInt ≤ 400)) ∨ (r.toInt = 1 ∧ stoF T N cc i = 0 ∧ (gV τ 12 0 2).toInt = (gV σ 12 0 2).toInt ∧ (gV τ 1 j2 3).toInt = cc + 1 ∧ ((gV τ 12 0 4).toInt = (tS T (tE T N (tE T N (tE T N (tE T N i)))) : Int) ∧ (gV τ 12 0 5).toInt = (tE T N (tE T N (tE T N (tE T N (tE T N i)))) : Int) ∧ (gV τ 12 0 6).toInt = tK T N (tE T N (tE T N (tE T N (tE T N i)))) ∧ (tK T N (tE T N (tE T N (tE T N (tE T N i)))) = 2 → (gV τ 12 0 7).toInt = tV T (tE T N (tE T N (tE T N (tE T N i))))))))) := by
  refine Mc.of (L0 := [some (.ref (G.1 12 0)), some (.ref (G.1 1 j2)), none, none]) (by decide) (Nat.le_of_ble_eq_true rfl) rfl ?_
  intro p e s m args below meth c C hr hlk
  have C : Cx p s m args c cX6_readStone 4 "LeanTower$Reader" := C
  have k0 : (0 : Int32).toInt = 0 := by decide
  have k1 : (1 : Int32).toInt = 1 := by decide
  have u1 : IV (gV σ 1 j2 3) 0 4 := hI.1 1 j2 3
  have u2 : IV (gV σ 12 0 4) 0 400 := hI.1 12 0 4
  have u3 : IV (gV σ 12 0 5) 0 400 := hI.1 12 0 5
  refine m_aload_n C dX6_readStone_0 rfl rfl ?_
  refine g_1_3 C hj2 q1_84 dX6_readStone_1 ?_
  refine m_eqs (w := (gV σ 1 j2 3)) rfl ?_
  refine m_iconst (v := 4) C dX6_readStone_4 (by decide) ?_
  refine m_icmp_lt (tgt := 14) C dX6_readStone_5 (by decide) (fun c4 => ?_) (fun c4 => ?_)
  · have f5 : (gV σ 1 j2 3).toInt < 4 := by
      have q : _ := c4
      simp only [ti_nle, ti_nlt, ti_le, ti_lt, ti_eq, ti_ne, Classical.not_not, kt_4] at q
      omega
    have b6 : IV (gV σ 1 j2 3) 0 3 := ⟨by have q1 := u1; have q2 := kc_4; omega, by have q1 := u1; have q2 := kc_4; omega⟩
    refine m_aload_n C dX6_readStone_14 rfl rfl ?_
    refine m_callV (n := 0) (ci := 5) (st := []) C (c_X6_nextE l G σ T N (tE T N i)  hI hT (by omega)) (by decide) (by decide) rfl rfl rfl q2_63 q2_60 q2_62 q0_3 q1_2 (by decide +kernel) rfl (by decide) (by decide) rfl (Nat.le_of_ble_eq_true rfl) dX6_readStone_15 ?_
    rintro _ τ7 ⟨rfl, i8, f9, h13⟩
    have g12 : Fr MS_X6_readStoneE AS_X6_readStoneE σ τ7 := Fr.call (Fr.rf) f9 (by decide)
    clear hcur
    have v14 : TpC τ7 T N := hT.fr f9 (by decide) (by decide) (by simp) (by decide)
    have u15 : IV (gV τ7 12 0 4) 0 400 := i8.1 12 0 4
    have u16 : IV (gV τ7 12 0 5) 0 400 := i8.1 12 0 5
    have q17 : (gV τ7 1 j2 3).toInt = (gV σ 1 j2 3).toInt := congrArg Int32.toInt (show (gV τ7 1 j2 3) = (gV σ 1 j2 3) from (show gV τ7 1 j2 3 = (gV σ 1 j2 3) from (f9.1 1 j2 (3) (by decide) (by decide)).trans rfl))
    have q18 : (gV τ7 12 0 2).toInt = (gV σ 12 0 2).toInt := congrArg Int32.toInt (show (gV τ7 12 0 2) = (gV σ 12 0 2) from (show gV τ7 12 0 2 = (gV σ 12 0 2) from (f9.1 12 0 (2) (by decide) (by decide)).trans rfl))
    have q19 : (gV τ7 12 0 3).toInt = (gV σ 12 0 3).toInt := congrArg Int32.toInt (show (gV τ7 12 0 3) = (gV σ 12 0 3) from (show gV τ7 12 0 3 = (gV σ 12 0 3) from (f9.1 12 0 (3) (by decide) (by decide)).trans rfl))
    show MW p l e _ s m args below meth c _ 4 G 0 0 18 [some (.ref (G.1 12 0)), some (.ref (G.1 1 j2)), none, none] [] τ7
    refine m_aload_n C dX6_readStone_18 rfl rfl ?_
    refine m_iconst (v := 1) C dX6_readStone_19 (by decide) ?_
    refine m_bipush (v := 20) C dX6_readStone_20 (by decide) ?_
    have q20 := kt_1
    have q21 := kt_20
    refine m_callV (n := 2) (ci := 5) (st := []) C (c_X6_numberE l G τ7 T N (tE T N i) (1) (20) i8 v14 (by omega)) (by decide) (by decide) rfl rfl rfl q2_145 q2_142 q2_144 q0_9 q1_2 (by decide +kernel) rfl (by decide) (by decide) rfl (Nat.le_of_ble_eq_true rfl) dX6_readStone_22 ?_
    rintro _ τ22 ⟨x25, rfl, i23, f24, b26, h28⟩
    have g27 : Fr MS_X6_readStoneE AS_X6_readStoneE σ τ22 := Fr.call (g12) f24 (by decide)
    clear h13
    have v29 : TpC τ22 T N := v14.fr f24 (by decide) (by decide) (by simp) (by decide)
    have u30 : IV (gV τ22 12 0 4) 0 400 := i23.1 12 0 4
    have u31 : IV (gV τ22 12 0 5) 0 400 := i23.1 12 0 5
    have q32 : (gV τ22 1 j2 3).toInt = (gV σ 1 j2 3).toInt := congrArg Int32.toInt (show (gV τ22 1 j2 3) = (gV σ 1 j2 3) from (show gV τ22 1 j2 3 = (gV σ 1 j2 3) from (f24.1 1 j2 (3) (by decide) (by decide)).trans (show gV τ7 1 j2 3 = (gV σ 1 j2 3) from (f9.1 1 j2 (3) (by decide) (by decide)).trans rfl)))
    rcases h28 with ⟨h28_0, h28_1, h28_2, h28_3⟩ | ⟨h28_0, h28_1, h28_2, h28_3, h28_4⟩ | ⟨h28_0, h28_1, h28_2, h28_3, h28_4, h28_5⟩
    · skip
      have b33 : IV x25 (-1) (-1) := ⟨by omega, by omega⟩
      show MW p l e _ s m args below meth c _ 4 G 0 0 25 [some (.ref (G.1 12 0)), some (.ref (G.1 1 j2)), none, none] [.int x25] τ22
      refine m_istore_n (L1 := [some (.ref (G.1 12 0)), some (.ref (G.1 1 j2)), some (.int x25), none]) C dX6_readStone_25 rfl (by decide) rfl rfl ?_
      refine m_iload_n C dX6_readStone_26 rfl rfl ?_
      refine m_iconst (v := (-1)) C dX6_readStone_27 (by decide) ?_
      refine m_icmp_ne (tgt := 33) C dX6_readStone_28 (by decide) (fun c34 => ?_) (fun c34 => ?_)
      · exfalso
        have q : _ := c34
        simp only [ti_nle, ti_nlt, ti_le, ti_lt, ti_eq, ti_ne, Classical.not_not, kt_m1] at q
        have q1 := b33; have q2 := kc_m1; omega
      · have f36 : x25.toInt = -1 := by
          have q : _ := c34
          simp only [ti_nle, ti_nlt, ti_le, ti_lt, ti_eq, ti_ne, Classical.not_not, kt_m1] at q
          omega
        refine m_iconst (v := 0) C dX6_readStone_31 (by decide) ?_
        exact m_zret C hr rfl hlk (by decide) (by decide) dX6_readStone_32 ⟨_, rfl, i23, g27, (iv_wk kc_0 (by decide)), (by have qd := sto_1 T N cc i (by omega) (by omega); have qk := kt_0; refine Or.inl ⟨by omega, by omega, by omega, by omega⟩)⟩
    · skip
      have b37 : IV x25 (-1) (-1) := ⟨by omega, by omega⟩
      show MW p l e _ s m args below meth c _ 4 G 0 0 25 [some (.ref (G.1 12 0)), some (.ref (G.1 1 j2)), none, none] [.int x25] τ22
      refine m_istore_n (L1 := [some (.ref (G.1 12 0)), some (.ref (G.1 1 j2)), some (.int x25), none]) C dX6_readStone_25 rfl (by decide) rfl rfl ?_
      refine m_iload_n C dX6_readStone_26 rfl rfl ?_
      refine m_iconst (v := (-1)) C dX6_readStone_27 (by decide) ?_
      refine m_icmp_ne (tgt := 33) C dX6_readStone_28 (by decide) (fun c38 => ?_) (fun c38 => ?_)
      · exfalso
        have q : _ := c38
        simp only [ti_nle, ti_nlt, ti_le, ti_lt, ti_eq, ti_ne, Classical.not_not, kt_m1] at q
        have q1 := b37; have q2 := kc_m1; omega
      · have f40 : x25.toInt = -1 := by
          have q : _ := c38
          simp only [ti_nle, ti_nlt, ti_le, ti_lt, ti_eq, ti_ne, Classical.not_not, kt_m1] at q
          omega
        refine m_iconst (v := 0) C dX6_readStone_31 (by decide) ?_
        exact m_zret C hr rfl hlk (by decide) (by decide) dX6_readStone_32 ⟨_, rfl, i23, g27, (iv_wk kc_0 (by decide)), (by have qd := sto_2 T N cc i (by omega) (by omega) (by omega); have qk := kt_0; refine Or.inl ⟨by omega, by omega, by omega, by omega⟩)⟩
    · skip
      show MW p l e _ s m args below meth c _ 4 G 0 0 25 [some (.ref (G.1 12 0)), some (.ref (G.1 1 j2)), none, none] [.int x25] τ22
      refine m_istore_n (L1 := [some (.ref (G.1 12 0)), some (.ref (G.1 1 j2)), some (.int x25), none]) C dX6_readStone_25 rfl (by decide) rfl rfl ?_
      refine m_iload_n C dX6_readStone_26 rfl rfl ?_
      refine m_iconst (v := (-1)) C dX6_readStone_27 (by decide) ?_
      refine m_icmp_ne (tgt := 33) C dX6_readStone_28 (by decide) (fun c41 => ?_) (fun c41 => ?_)
      · have f42 : x25.toInt ≠ -1 := by
          have q : _ := c41
          simp only [ti_nle, ti_nlt, ti_le, ti_lt, ti_eq, ti_ne, Classical.not_not, kt_m1] at q
          omega
        refine m_aload_n C dX6_readStone_33 rfl rfl ?_
        refine m_iconst (v := 0) C dX6_readStone_34 (by decide) ?_
        refine m_iconst (v := 3) C dX6_readStone_35 (by decide) ?_
        have q43 := kt_0
        have q44 := kt_3
        refine m_callV (n := 2) (ci := 5) (st := []) C (c_X6_numberE l G τ22 T N (tE T N (tE T N i)) (0) (3) i23 v29 (by omega)) (by decide) (by decide) rfl rfl rfl q2_145 q2_142 q2_144 q0_9 q1_2 (by decide +kernel) rfl (by decide) (by decide) rfl (Nat.le_of_ble_eq_true rfl) dX6_readStone_36 ?_
        rintro _ τ45 ⟨x48, rfl, i46, f47, b49, h51⟩
        have g50 : Fr MS_X6_readStoneE AS_X6_readStoneE σ τ45 := Fr.call (g27) f47 (by decide)
        clear h28_5
        have v52 : TpC τ45 T N := v29.fr f47 (by decide) (by decide) (by simp) (by decide)
        have u53 : IV (gV τ45 12 0 4) 0 400 := i46.1 12 0 4
        have u54 : IV (gV τ45 12 0 5) 0 400 := i46.1 12 0 5
        have q55 : (gV τ45 1 j2 3).toInt = (gV σ 1 j2 3).toInt := congrArg Int32.toInt (show (gV τ45 1 j2 3) = (gV σ 1 j2 3) from (show gV τ45 1 j2 3 = (gV σ 1 j2 3) from (f47.1 1 j2 (3) (by decide) (by decide)).trans (show gV τ22 1 j2 3 = (gV σ 1 j2 3) from (f24.1 1 j2 (3) (by decide) (by decide)).trans (show gV τ7 1 j2 3 = (gV σ 1 j2 3) from (f9.1 1 j2 (3) (by decide) (by decide)).trans rfl))))
        rcases h51 with ⟨h51_0, h51_1, h51_2, h51_3⟩ | ⟨h51_0, h51_1, h51_2, h51_3, h51_4⟩ | ⟨h51_0, h51_1, h51_2, h51_3, h51_4, h51_5⟩
        · skip
          have b56 : IV x48 (-1) (-1) := ⟨by omega, by omega⟩
          show MW p l e _ s m args below meth c _ 4 G 0 0 39 [some (.ref (G.1 12 0)), some (.ref (G.1 1 j2)), some (.int x25), none] [.int x48] τ45
          refine m_istore_n (L1 := [some (.ref (G.1 12 0)), some (.ref (G.1 1 j2)), some (.int x25), some (.int x48)]) C dX6_readStone_39 rfl (by decide) rfl rfl ?_
          refine m_iload_n C dX6_readStone_40 rfl rfl ?_
          refine m_iconst (v := (-1)) C dX6_readStone_41 (by decide) ?_
          refine m_icmp_ne (tgt := 47) C dX6_readStone_42 (by decide) (fun c57 => ?_) (fun c57 => ?_)
          · exfalso
            have q : _ := c57
            simp only [ti_nle, ti_nlt, ti_le, ti_lt, ti_eq, ti_ne, Classical.not_not, kt_m1] at q
            have q1 := b56; have q2 := kc_m1; omega
          · have f59 : x48.toInt = -1 := by
              have q : _ := c57
              simp only [ti_nle, ti_nlt, ti_le, ti_lt, ti_eq, ti_ne, Classical.not_not, kt_m1] at q
              omega
            refine m_iconst (v := 0) C dX6_readStone_45 (by decide) ?_
            exact m_zret C hr rfl hlk (by decide) (by decide) dX6_readStone_46 ⟨_, rfl, i46, g50, (iv_wk kc_0 (by decide)), (by have qd := sto_3 T N cc i (by omega) (by omega) (by omega) (by omega); have qk := kt_0; refine Or.inl ⟨by omega, by omega, by omega, by omega⟩)⟩
        · skip
          have b60 : IV x48 (-1) (-1) := ⟨by omega, by omega⟩
          show MW p l e _ s m args below meth c _ 4 G 0 0 39 [some (.ref (G.1 12 0)), some (.ref (G.1 1 j2)), some (.int x25), none] [.int x48] τ45
          refine m_istore_n (L1 := [some (.ref (G.1 12 0)), some (.ref (G.1 1 j2)), some (.int x25), some (.int x48)]) C dX6_readStone_39 rfl (by decide) rfl rfl ?_
          refine m_iload_n C dX6_readStone_40 rfl rfl ?_
          refine m_iconst (v := (-1)) C dX6_readStone_41 (by decide) ?_
          refine m_icmp_ne (tgt := 47) C dX6_readStone_42 (by decide) (fun c61 => ?_) (fun c61 => ?_)
          · exfalso
            have q : _ := c61
            simp only [ti_nle, ti_nlt, ti_le, ti_lt, ti_eq, ti_ne, Classical.not_not, kt_m1] at q
            have q1 := b60; have q2 := kc_m1; omega
          · have f63 : x48.toInt = -1 := by
              have q : _ := c61
              simp only [ti_nle, ti_nlt, ti_le, ti_lt, ti_eq, ti_ne, Classical.not_not, kt_m1] at q
              omega
            refine m_iconst (v := 0) C dX6_readStone_45 (by decide) ?_
            exact m_zret C hr rfl hlk (by decide) (by decide) dX6_readStone_46 ⟨_, rfl, i46, g50, (iv_wk kc_0 (by decide)), (by have qd := sto_4 T N cc i (by omega) (by omega) (by omega) (by omega) (by omega); have qk := kt_0; refine Or.inl ⟨by omega, by omega, by omega, by omega⟩)⟩
        · skip
          show MW p l e _ s m args below meth c _ 4 G 0 0 39 [some (.ref (G.1 12 0)), some (.ref (G.1 1 j2)), some (.int x25), none] [.int x48] τ45
          refine m_istore_n (L1 := [some (.ref (G.1 12 0)), some (.ref (G.1 1 j2)), some (.int x25), some (.int x48)]) C dX6_readStone_39 rfl (by decide) rfl rfl ?_
          refine m_iload_n C dX6_readStone_40 rfl rfl ?_
          refine m_iconst (v := (-1)) C dX6_readStone_41 (by decide) ?_
          refine m_icmp_ne (tgt := 47) C dX6_readStone_42 (by decide) (fun c64 => ?_) (fun c64 => ?_)
          · have f65 : x48.toInt ≠ -1 := by
              have q : _ := c64
              simp only [ti_nle, ti_nlt, ti_le, ti_lt, ti_eq, ti_ne, Classical.not_not, kt_m1] at q
              omega
            refine m_aload_n C dX6_readStone_47 rfl rfl ?_
            refine m_iload_n C dX6_readStone_48 rfl rfl ?_
            refine m_iload_n C dX6_readStone_49 rfl rfl ?_
            refine m_callV (n := 2) (ci := 7) (st := []) C (c_X8_addStoneE l G τ45 (j := j2) hj2 (x25) (x48) i46 ) (by decide) hj2 rfl rfl rfl q3_4 q3_1 q3_2 q3_3 q1_3 (by decide +kernel) rfl (by decide) (by decide) rfl (Nat.le_of_ble_eq_true rfl) dX6_readStone_50 ?_
            rintro _ τ66 ⟨rfl, i67, f68, h72⟩
            have g71 : Fr MS_X6_readStoneE AS_X6_readStoneE σ τ66 := Fr.call (g50) f68 (by decide)
            have v73 : TpC τ66 T N := v52.fr f68 (by decide) (by decide) (by simp) (by decide)
            have u74 : IV (gV τ66 1 j2 3) 0 4 := i67.1 1 j2 3
            have q75 : (gV τ66 12 0 2).toInt = (gV τ45 12 0 2).toInt := congrArg Int32.toInt (show (gV τ66 12 0 2) = (gV τ45 12 0 2) from (show gV τ66 12 0 2 = (gV τ45 12 0 2) from (f68.1 12 0 (2) (by decide) (by decide)).trans rfl))
            have q76 : (gV τ66 12 0 3).toInt = (gV τ45 12 0 3).toInt := congrArg Int32.toInt (show (gV τ66 12 0 3) = (gV τ45 12 0 3) from (show gV τ66 12 0 3 = (gV τ45 12 0 3) from (f68.1 12 0 (3) (by decide) (by decide)).trans rfl))
            have q77 : (gV τ66 12 0 4).toInt = (gV τ45 12 0 4).toInt := congrArg Int32.toInt (show (gV τ66 12 0 4) = (gV τ45 12 0 4) from (show gV τ66 12 0 4 = (gV τ45 12 0 4) from (f68.1 12 0 (4) (by decide) (by decide)).trans rfl))
            have q78 : (gV τ66 12 0 5).toInt = (gV τ45 12 0 5).toInt := congrArg Int32.toInt (show (gV τ66 12 0 5) = (gV τ45 12 0 5) from (show gV τ66 12 0 5 = (gV τ45 12 0 5) from (f68.1 12 0 (5) (by decide) (by decide)).trans rfl))
            have q79 : (gV τ66 12 0 6).toInt = (gV τ45 12 0 6).toInt := congrArg Int32.toInt (show (gV τ66 12 0 6) = (gV τ45 12 0 6) from (show gV τ66 12 0 6 = (gV τ45 12 0 6) from (f68.1 12 0 (6) (by decide) (by decide)).trans rfl))
            have q80 : (gV τ66 12 0 7).toInt = (gV τ45 12 0 7).toInt := congrArg Int32.toInt (show (gV τ66 12 0 7) = (gV τ45 12 0 7) from (show gV τ66 12 0 7 = (gV τ45 12 0 7) from (f68.1 12 0 (7) (by decide) (by decide)).trans rfl))
            show MW p l e _ s m args below meth c _ 4 G 0 0 53 [some (.ref (G.1 12 0)), some (.ref (G.1 1 j2)), some (.int x25), some (.int x48)] [] τ66
            refine m_aload_n C dX6_readStone_53 rfl rfl ?_
            refine m_callV (n := 0) (ci := 5) (st := []) C (c_X6_passSemicolonE l G τ66 T N (tE T N (tE T N (tE T N i)))  i67 v73 (by omega)) (by decide) (by decide) rfl rfl rfl q2_149 q2_146 q2_148 q0_10 q1_2 (by decide +kernel) rfl (by decide) (by decide) rfl (Nat.le_of_ble_eq_true rfl) dX6_readStone_54 ?_
            rintro _ τ81 ⟨x84, rfl, i82, f83, b85, h87⟩
            have g86 : Fr MS_X6_readStoneE AS_X6_readStoneE σ τ81 := Fr.call (g71) f83 (by decide)
            clear h51_5
            have v88 : TpC τ81 T N := v73.fr f83 (by decide) (by decide) (by simp) (by decide)
            have u89 : IV (gV τ81 12 0 4) 0 400 := i82.1 12 0 4
            have u90 : IV (gV τ81 12 0 5) 0 400 := i82.1 12 0 5
            have q91 : (gV τ81 1 j2 3).toInt = (gV τ66 1 j2 3).toInt := congrArg Int32.toInt (show (gV τ81 1 j2 3) = (gV τ66 1 j2 3) from (show gV τ81 1 j2 3 = (gV τ66 1 j2 3) from (f83.1 1 j2 (3) (by decide) (by decide)).trans rfl))
            rcases h87 with ⟨h87_0, h87_1, h87_2, h87_3⟩ | ⟨h87_0, h87_1, h87_2, h87_3⟩
            · skip
              have b92 : IV x84 0 0 := ⟨by omega, by omega⟩
              show MW p l e _ s m args below meth c _ 4 G 0 0 57 [some (.ref (G.1 12 0)), some (.ref (G.1 1 j2)), some (.int x25), some (.int x48)] [.int x84] τ81
              exact m_zret C hr (nar_z (iv_wk b92 (by decide))) hlk (by decide) (by decide) dX6_readStone_57 ⟨_, rfl, i82, g86, (iv_wk b92 (by decide)), (by have qd := sto_5 T N cc i (by omega) (by omega) (by omega) (by omega) (by omega) (by omega); refine Or.inl ⟨by omega, by omega, by omega, by omega⟩)⟩
            · skip
              have b93 : IV x84 1 1 := ⟨by omega, by omega⟩
              show MW p l e _ s m args below meth c _ 4 G 0 0 57 [some (.ref (G.1 12 0)), some (.ref (G.1 1 j2)), some (.int x25), some (.int x48)] [.int x84] τ81
              exact m_zret C hr (nar_z (iv_wk b93 (by decide))) hlk (by decide) (by decide) dX6_readStone_57 ⟨_, rfl, i82, g86, (iv_wk b93 (by decide)), (by have qd := sto_ok T N cc i (by omega) (by omega) (by omega) (by omega) (by omega) (by omega); refine Or.inr ⟨by omega, by omega, by omega, by omega, by omega⟩)⟩
          · have f94 : x48.toInt = -1 := by
              have q : _ := c64
              simp only [ti_nle, ti_nlt, ti_le, ti_lt, ti_eq, ti_ne, Classical.not_not, kt_m1] at q
              omega
            have b95 : IV x48 (-1) (-1) := ⟨by have q1 := b49; have q2 := kc_m1; omega, by have q1 := b49; have q2 := kc_m1; omega⟩
            refine m_iconst (v := 0) C dX6_readStone_45 (by decide) ?_
            exact m_zret C hr rfl hlk (by decide) (by decide) dX6_readStone_46 ⟨_, rfl, i46, g50, (iv_wk kc_0 (by decide)), (by have qd := sto_ok T N cc i (by omega) (by omega) (by omega) (by omega) (by omega) (by omega); have qk := kt_0; refine Or.inl ⟨by omega, by omega, by omega, by omega⟩)⟩
      · have f96 : x25.toInt = -1 := by
          have q : _ := c41
          simp only [ti_nle, ti_nlt, ti_le, ti_lt, ti_eq, ti_ne, Classical.not_not, kt_m1] at q
          omega
        have b97 : IV x25 (-1) (-1) := ⟨by have q1 := b26; have q2 := kc_m1; omega, by have q1 := b26; have q2 := kc_m1; omega⟩
        refine m_iconst (v := 0) C dX6_readStone_31 (by decide) ?_
        exact m_zret C hr rfl hlk (by decide) (by decide) dX6_readStone_32 ⟨_, rfl, i23, g27, (iv_wk kc_0 (by decide)), (by have qd := sto_ok T N cc i (by omega) (by omega) (by omega) (by omega) (by omega) (by omega); have qk := kt_0; refine Or.inl ⟨by omega, by omega, by omega, by omega⟩)⟩
  · have f98 : 4 ≤ (gV σ 1 j2 3).toInt := by
      have q : _ := c4
      simp only [ti_nle, ti_nlt, ti_le, ti_lt, ti_eq, ti_ne, Classical.not_not, kt_4] at q
      omega
    have b99 : IV (gV σ 1 j2 3) 4 4 := ⟨by have q1 := kc_4; have q2 := u1; omega, by have q1 := kc_4; have q2 := u1; omega⟩
    refine m_aload_n C dX6_readStone_8 rfl rfl ?_
    refine m_iconst (v := 3) C dX6_readStone_9 (by decide) ?_
    have q100 := kt_3
    refine m_callV (n := 1) (ci := 5) (st := []) C (c_X6_refuseE l G σ (3) hI ) (by decide) (by decide) rfl rfl rfl q2_141 q2_138 q2_140 q0_8 q1_2 (by decide +kernel) rfl (by decide) (by decide) rfl (Nat.le_of_ble_eq_true rfl) dX6_readStone_10 ?_
    rintro _ τ101 ⟨x104, rfl, i102, f103, b105, h107⟩
    have g106 : Fr MS_X6_readStoneE AS_X6_readStoneE σ τ101 := Fr.call (Fr.rf) f103 (by decide)
    have v108 : TpC τ101 T N := hT.fr f103 (by decide) (by decide) (by simp) (by decide)
    have q109 : (gV τ101 1 j2 3).toInt = (gV σ 1 j2 3).toInt := congrArg Int32.toInt (show (gV τ101 1 j2 3) = (gV σ 1 j2 3) from (show gV τ101 1 j2 3 = (gV σ 1 j2 3) from (f103.1 1 j2 (3) (by decide) (by decide)).trans rfl))
    have q110 : (gV τ101 12 0 4).toInt = (gV σ 12 0 4).toInt := congrArg Int32.toInt (show (gV τ101 12 0 4) = (gV σ 12 0 4) from (show gV τ101 12 0 4 = (gV σ 12 0 4) from (f103.1 12 0 (4) (by decide) (by decide)).trans rfl))
    have q111 : (gV τ101 12 0 5).toInt = (gV σ 12 0 5).toInt := congrArg Int32.toInt (show (gV τ101 12 0 5) = (gV σ 12 0 5) from (show gV τ101 12 0 5 = (gV σ 12 0 5) from (f103.1 12 0 (5) (by decide) (by decide)).trans rfl))
    have q112 : (gV τ101 12 0 6).toInt = (gV σ 12 0 6).toInt := congrArg Int32.toInt (show (gV τ101 12 0 6) = (gV σ 12 0 6) from (show gV τ101 12 0 6 = (gV σ 12 0 6) from (f103.1 12 0 (6) (by decide) (by decide)).trans rfl))
    have q113 : (gV τ101 12 0 7).toInt = (gV σ 12 0 7).toInt := congrArg Int32.toInt (show (gV τ101 12 0 7) = (gV σ 12 0 7) from (show gV τ101 12 0 7 = (gV σ 12 0 7) from (f103.1 12 0 (7) (by decide) (by decide)).trans rfl))
    show MW p l e _ s m args below meth c _ 4 G 0 0 13 [some (.ref (G.1 12 0)), some (.ref (G.1 1 j2)), none, none] [.int x104] τ101
    exact m_zret C hr (nar_z (iv_wk b105 (by decide))) hlk (by decide) (by decide) dX6_readStone_13 ⟨_, rfl, i102, g106, (iv_wk b105 (by decide)), (by have qd := sto_0 T N cc i (by omega); refine Or.inl ⟨by omega, by omega, by omega, by omega⟩)⟩
