abbrev MS_X6_refuseE : List (Nat × Nat) := [(12, 2), (12, 3)]
abbrev AS_X6_refuseE : List Nat := []
set_option maxHeartbeats 4000000 in
set_option maxRecDepth 100000 in
theorem c_X6_refuseE (l : Launch) (G : Gt) (σ : Sg) (a1 : Int32) (hI : Inv σ) : Mc l G yX6_refuse cX6_refuse 2 (some .boolean) 0 0 0 0 [.ref (G.1 12 0), .int a1] σ (PI fun r τ => Inv τ ∧ Fr MS_X6_refuseE AS_X6_refuseE σ τ ∧ IV r 0 0 ∧ (r.toInt = 0 ∧ (gV τ 12 0 2).toInt = a1.toInt ∧ (gV τ 12 0 3).toInt = (gV σ 12 0 4).toInt)) := by
  refine Mc.of (L0 := [some (.ref (G.1 12 0)), some (.int a1)]) (by decide) (Nat.le_of_ble_eq_true rfl) rfl ?_
  intro p e s m args below meth c C hr hlk
  have C : Cx p s m args c cX6_refuse 2 "LeanTower$Reader" := C
  have k0 : (0 : Int32).toInt = 0 := by decide
  have k1 : (1 : Int32).toInt = 1 := by decide
  have u1 : IV (gV σ 12 0 4) 0 400 := hI.1 12 0 4
  refine m_aload_n C dX6_refuse_0 rfl rfl ?_
  refine m_iload_n C dX6_refuse_1 rfl rfl ?_
  refine p_12_2 C q1_41 dX6_refuse_2 ?_
  refine m_tops (fun τ2 eτ2 => ?_)
  have i3 : Inv τ2 := eτ2 ▸ Inv.putF hI (by decide) rfl
  have f4 : Fr MS_X6_refuseE AS_X6_refuseE σ τ2 := eτ2 ▸ Fr.put (Fr.rf) (Or.inl (by decide))
  refine m_aload_n C dX6_refuse_5 rfl rfl ?_
  refine m_aload_n C dX6_refuse_6 rfl rfl ?_
  refine g_12_4 C q1_44 dX6_refuse_7 ?_
  refine m_eqs (w := (gV σ 12 0 4)) (show gV τ2 12 0 4 = (gV σ 12 0 4) from gV_put eτ2 rfl) ?_
  refine p_12_3 C q1_43 dX6_refuse_10 ?_
  refine m_tops (fun τ5 eτ5 => ?_)
  have i6 : Inv τ5 := eτ5 ▸ Inv.putF i3 (by decide) rfl
  have f7 : Fr MS_X6_refuseE AS_X6_refuseE σ τ5 := eτ5 ▸ Fr.put (f4) (Or.inl (by decide))
  refine m_iconst (v := 0) C dX6_refuse_13 (by decide) ?_
  have q8 : (gV τ5 12 0 4).toInt = (gV σ 12 0 4).toInt := congrArg Int32.toInt (show (gV τ5 12 0 4) = (gV σ 12 0 4) from (show gV τ5 12 0 4 = (gV σ 12 0 4) from gV_put eτ5 (show gV τ2 12 0 4 = (gV σ 12 0 4) from gV_put eτ2 rfl)))
  have q9 : (gV τ5 12 0 2).toInt = a1.toInt := congrArg Int32.toInt (show (gV τ5 12 0 2) = a1 from (show gV τ5 12 0 2 = a1 from gV_put eτ5 (show gV τ2 12 0 2 = a1 from gV_put eτ2 (gV_self _ _ _ _ _))))
  have q10 : (gV τ5 12 0 3).toInt = (gV σ 12 0 4).toInt := congrArg Int32.toInt (show (gV τ5 12 0 3) = (gV σ 12 0 4) from (show gV τ5 12 0 3 = (gV σ 12 0 4) from gV_put eτ5 (gV_self _ _ _ _ _)))
  exact m_zret C hr rfl hlk (by decide) (by decide) dX6_refuse_14 ⟨_, rfl, i6, f7, kc_0, (by have q := kt_0; omega)⟩

abbrev MS_X6_numberE : List (Nat × Nat) := [(12, 2), (12, 3), (12, 4), (12, 5), (12, 6), (12, 7)]
abbrev AS_X6_numberE : List Nat := []
set_option maxHeartbeats 4000000 in
set_option maxRecDepth 100000 in
theorem c_X6_numberE (l : Launch) (G : Gt) (σ : Sg) (T : Nat → Int) (N : Nat) (i : Nat) (a1 : Int32) (a2 : Int32) (hI : Inv σ) (hT : TpC σ T N) (hcur : ((gV σ 12 0 4).toInt = (tS T i : Int) ∧ (gV σ 12 0 5).toInt = (tE T N i : Int) ∧ (gV σ 12 0 6).toInt = tK T N i ∧ (tK T N i = 2 → (gV σ 12 0 7).toInt = tV T i))) : Mc l G yX6_number cX6_number 4 (some .int) 3 60 0 0 [.ref (G.1 12 0), .int a1, .int a2] σ (PI fun r τ => Inv τ ∧ Fr MS_X6_numberE AS_X6_numberE σ τ ∧ IV r (-2147483648) 2147483647 ∧ ((tK T N i ≠ 2 ∧ r.toInt = -1 ∧ (gV τ 12 0 2).toInt = 1 ∧ ((gV τ 12 0 3).toInt = (tS T i : Int) ∧ 0 ≤ (gV τ 12 0 3).toInt ∧ (gV τ 12 0 3).toInt ≤ 400)) ∨ (tK T N i = 2 ∧ (tV T i < a1.toInt ∨ a2.toInt < tV T i) ∧ r.toInt = -1 ∧ (gV τ 12 0 2).toInt = 2 ∧ ((gV τ 12 0 3).toInt = (tS T i : Int) ∧ 0 ≤ (gV τ 12 0 3).toInt ∧ (gV τ 12 0 3).toInt ≤ 400)) ∨ (tK T N i = 2 ∧ a1.toInt ≤ tV T i ∧ tV T i ≤ a2.toInt ∧ r.toInt = tV T i ∧ (gV τ 12 0 2).toInt = (gV σ 12 0 2).toInt ∧ ((gV τ 12 0 4).toInt = (tS T (tE T N i) : Int) ∧ (gV τ 12 0 5).toInt = (tE T N (tE T N i) : Int) ∧ (gV τ 12 0 6).toInt = tK T N (tE T N i) ∧ (tK T N (tE T N i) = 2 → (gV τ 12 0 7).toInt = tV T (tE T N i)))))) := by
  refine Mc.of (L0 := [some (.ref (G.1 12 0)), some (.int a1), some (.int a2), none]) (by decide) (Nat.le_of_ble_eq_true rfl) rfl ?_
  intro p e s m args below meth c C hr hlk
  have C : Cx p s m args c cX6_number 4 "LeanTower$Reader" := C
  have k0 : (0 : Int32).toInt = 0 := by decide
  have k1 : (1 : Int32).toInt = 1 := by decide
  have u1 : IV (gV σ 12 0 4) 0 400 := hI.1 12 0 4
  have u2 : IV (gV σ 12 0 5) 0 400 := hI.1 12 0 5
  refine m_aload_n C dX6_number_0 rfl rfl ?_
  refine g_12_6 C q1_46 dX6_number_1 ?_
  refine m_eqs (w := (gV σ 12 0 6)) rfl ?_
  refine m_iconst (v := 2) C dX6_number_4 (by decide) ?_
  refine m_icmp_eq (tgt := 16) C dX6_number_5 (by decide) (fun c3 => ?_) (fun c3 => ?_)
  · have f4 : (gV σ 12 0 6).toInt = 2 := by
      have q : _ := c3
      simp only [ti_nle, ti_nlt, ti_le, ti_lt, ti_eq, ti_ne, Classical.not_not, kt_2] at q
      omega
    have b5 : IV (gV σ 12 0 6) 2 2 := ⟨by have q1 := (iv_any (gV σ 12 0 6)); have q2 := kc_2; omega, by have q1 := (iv_any (gV σ 12 0 6)); have q2 := kc_2; omega⟩
    refine m_aload_n C dX6_number_16 rfl rfl ?_
    refine g_12_7 C q1_47 dX6_number_17 ?_
    refine m_eqs (w := (gV σ 12 0 7)) rfl ?_
    refine m_iload_n C dX6_number_20 rfl rfl ?_
    refine m_icmp_lt (tgt := 32) C dX6_number_21 (by decide) (fun c6 => ?_) (fun c6 => ?_)
    · have f7 : (gV σ 12 0 7).toInt < a1.toInt := by
        have q : _ := c6
        simp only [ti_nle, ti_nlt, ti_le, ti_lt, ti_eq, ti_ne, Classical.not_not] at q
        omega
      have b8 : IV (gV σ 12 0 7) (-2147483648) 2147483646 := ⟨by have q1 := (iv_any (gV σ 12 0 7)); have q2 := (iv_any a1); omega, by have q1 := (iv_any (gV σ 12 0 7)); have q2 := (iv_any a1); omega⟩
      have b9 : IV a1 (-2147483647) 2147483647 := ⟨by have q1 := (iv_any (gV σ 12 0 7)); have q2 := (iv_any a1); omega, by have q1 := (iv_any (gV σ 12 0 7)); have q2 := (iv_any a1); omega⟩
      refine m_aload_n C dX6_number_32 rfl rfl ?_
      refine m_iconst (v := 2) C dX6_number_33 (by decide) ?_
      have q10 := kt_2
      refine m_callV (n := 1) (ci := 5) (st := []) C (c_X6_refuseE l G σ (2) hI ) (by decide) (by decide) rfl rfl rfl q2_141 q2_138 q2_140 q0_8 q1_2 (by decide +kernel) rfl (by decide) (by decide) rfl (Nat.le_of_ble_eq_true rfl) dX6_number_34 ?_
      rintro _ τ11 ⟨x14, rfl, i12, f13, b15, h17⟩
      have g16 : Fr MS_X6_numberE AS_X6_numberE σ τ11 := Fr.call (Fr.rf) f13 (by decide)
      have v18 : TpC τ11 T N := hT.fr f13 (by decide) (by decide) (by simp) (by decide)
      have q19 : (gV τ11 12 0 4).toInt = (gV σ 12 0 4).toInt := congrArg Int32.toInt (show (gV τ11 12 0 4) = (gV σ 12 0 4) from (show gV τ11 12 0 4 = (gV σ 12 0 4) from (f13.1 12 0 (4) (by decide) (by decide)).trans rfl))
      have q20 : (gV τ11 12 0 5).toInt = (gV σ 12 0 5).toInt := congrArg Int32.toInt (show (gV τ11 12 0 5) = (gV σ 12 0 5) from (show gV τ11 12 0 5 = (gV σ 12 0 5) from (f13.1 12 0 (5) (by decide) (by decide)).trans rfl))
      have q21 : (gV τ11 12 0 6).toInt = (gV σ 12 0 6).toInt := congrArg Int32.toInt (show (gV τ11 12 0 6) = (gV σ 12 0 6) from (show gV τ11 12 0 6 = (gV σ 12 0 6) from (f13.1 12 0 (6) (by decide) (by decide)).trans rfl))
      have q22 : (gV τ11 12 0 7).toInt = (gV σ 12 0 7).toInt := congrArg Int32.toInt (show (gV τ11 12 0 7) = (gV σ 12 0 7) from (show gV τ11 12 0 7 = (gV σ 12 0 7) from (f13.1 12 0 (7) (by decide) (by decide)).trans rfl))
      show MW p l e _ s m args below meth c _ 4 G 0 0 37 [some (.ref (G.1 12 0)), some (.int a1), some (.int a2), none] [.int x14] τ11
      refine m_pop C dX6_number_37 rfl ?_
      refine m_iconst (v := (-1)) C dX6_number_38 (by decide) ?_
      exact m_iret C hr hlk (by decide) (by decide) dX6_number_39 ⟨_, rfl, i12, g16, (iv_wk kc_m1 (by decide)), (Or.inr (Or.inl ⟨by have q := kt_m1; omega, by have q := kt_m1; omega, by have q := kt_m1; omega, by have q := kt_m1; omega, by have q := kt_m1; omega⟩))⟩
    · have f23 : a1.toInt ≤ (gV σ 12 0 7).toInt := by
        have q : _ := c6
        simp only [ti_nle, ti_nlt, ti_le, ti_lt, ti_eq, ti_ne, Classical.not_not] at q
        omega
      refine m_aload_n C dX6_number_24 rfl rfl ?_
      refine g_12_7 C q1_47 dX6_number_25 ?_
      refine m_eqs (w := (gV σ 12 0 7)) rfl ?_
      refine m_iload_n C dX6_number_28 rfl rfl ?_
      refine m_icmp_le (tgt := 40) C dX6_number_29 (by decide) (fun c24 => ?_) (fun c24 => ?_)
      · have f25 : (gV σ 12 0 7).toInt ≤ a2.toInt := by
          have q : _ := c24
          simp only [ti_nle, ti_nlt, ti_le, ti_lt, ti_eq, ti_ne, Classical.not_not] at q
          omega
        refine m_aload_n C dX6_number_40 rfl rfl ?_
        refine g_12_7 C q1_47 dX6_number_41 ?_
        refine m_eqs (w := (gV σ 12 0 7)) rfl ?_
        refine m_istore_n (L1 := [some (.ref (G.1 12 0)), some (.int a1), some (.int a2), some (.int (gV σ 12 0 7))]) C dX6_number_44 rfl (by decide) rfl rfl ?_
        refine m_aload_n C dX6_number_45 rfl rfl ?_
        refine m_callV (n := 0) (ci := 5) (st := []) C (c_X6_nextE l G σ T N (tE T N i)  hI hT (by omega)) (by decide) (by decide) rfl rfl rfl q2_63 q2_60 q2_62 q0_3 q1_2 (by decide +kernel) rfl (by decide) (by decide) rfl (Nat.le_of_ble_eq_true rfl) dX6_number_46 ?_
        rintro _ τ26 ⟨rfl, i27, f28, h32⟩
        have g31 : Fr MS_X6_numberE AS_X6_numberE σ τ26 := Fr.call (Fr.rf) f28 (by decide)
        have v33 : TpC τ26 T N := hT.fr f28 (by decide) (by decide) (by simp) (by decide)
        have u34 : IV (gV τ26 12 0 4) 0 400 := i27.1 12 0 4
        have u35 : IV (gV τ26 12 0 5) 0 400 := i27.1 12 0 5
        have q36 : (gV τ26 12 0 2).toInt = (gV σ 12 0 2).toInt := congrArg Int32.toInt (show (gV τ26 12 0 2) = (gV σ 12 0 2) from (show gV τ26 12 0 2 = (gV σ 12 0 2) from (f28.1 12 0 (2) (by decide) (by decide)).trans rfl))
        have q37 : (gV τ26 12 0 3).toInt = (gV σ 12 0 3).toInt := congrArg Int32.toInt (show (gV τ26 12 0 3) = (gV σ 12 0 3) from (show gV τ26 12 0 3 = (gV σ 12 0 3) from (f28.1 12 0 (3) (by decide) (by decide)).trans rfl))
        show MW p l e _ s m args below meth c _ 4 G 0 0 49 [some (.ref (G.1 12 0)), some (.int a1), some (.int a2), some (.int (gV σ 12 0 7))] [] τ26
        refine m_iload_n C dX6_number_49 rfl rfl ?_
        exact m_iret C hr hlk (by decide) (by decide) dX6_number_50 ⟨_, rfl, i27, g31, (iv_any (gV σ 12 0 7)), (Or.inr (Or.inr (⟨by omega, by omega, by omega, by omega, by omega, by omega⟩)))⟩
      · have f38 : a2.toInt < (gV σ 12 0 7).toInt := by
          have q : _ := c24
          simp only [ti_nle, ti_nlt, ti_le, ti_lt, ti_eq, ti_ne, Classical.not_not] at q
          omega
        have b39 : IV a2 (-2147483648) 2147483646 := ⟨by have q1 := (iv_any a2); have q2 := (iv_any (gV σ 12 0 7)); omega, by have q1 := (iv_any a2); have q2 := (iv_any (gV σ 12 0 7)); omega⟩
        have b40 : IV (gV σ 12 0 7) (-2147483647) 2147483647 := ⟨by have q1 := (iv_any a2); have q2 := (iv_any (gV σ 12 0 7)); omega, by have q1 := (iv_any a2); have q2 := (iv_any (gV σ 12 0 7)); omega⟩
        refine m_aload_n C dX6_number_32 rfl rfl ?_
        refine m_iconst (v := 2) C dX6_number_33 (by decide) ?_
        have q41 := kt_2
        refine m_callV (n := 1) (ci := 5) (st := []) C (c_X6_refuseE l G σ (2) hI ) (by decide) (by decide) rfl rfl rfl q2_141 q2_138 q2_140 q0_8 q1_2 (by decide +kernel) rfl (by decide) (by decide) rfl (Nat.le_of_ble_eq_true rfl) dX6_number_34 ?_
        rintro _ τ42 ⟨x45, rfl, i43, f44, b46, h48⟩
        have g47 : Fr MS_X6_numberE AS_X6_numberE σ τ42 := Fr.call (Fr.rf) f44 (by decide)
        have v49 : TpC τ42 T N := hT.fr f44 (by decide) (by decide) (by simp) (by decide)
        have q50 : (gV τ42 12 0 4).toInt = (gV σ 12 0 4).toInt := congrArg Int32.toInt (show (gV τ42 12 0 4) = (gV σ 12 0 4) from (show gV τ42 12 0 4 = (gV σ 12 0 4) from (f44.1 12 0 (4) (by decide) (by decide)).trans rfl))
        have q51 : (gV τ42 12 0 5).toInt = (gV σ 12 0 5).toInt := congrArg Int32.toInt (show (gV τ42 12 0 5) = (gV σ 12 0 5) from (show gV τ42 12 0 5 = (gV σ 12 0 5) from (f44.1 12 0 (5) (by decide) (by decide)).trans rfl))
        have q52 : (gV τ42 12 0 6).toInt = (gV σ 12 0 6).toInt := congrArg Int32.toInt (show (gV τ42 12 0 6) = (gV σ 12 0 6) from (show gV τ42 12 0 6 = (gV σ 12 0 6) from (f44.1 12 0 (6) (by decide) (by decide)).trans rfl))
        have q53 : (gV τ42 12 0 7).toInt = (gV σ 12 0 7).toInt := congrArg Int32.toInt (show (gV τ42 12 0 7) = (gV σ 12 0 7) from (show gV τ42 12 0 7 = (gV σ 12 0 7) from (f44.1 12 0 (7) (by decide) (by decide)).trans rfl))
        show MW p l e _ s m args below meth c _ 4 G 0 0 37 [some (.ref (G.1 12 0)), some (.int a1), some (.int a2), none] [.int x45] τ42
        refine m_pop C dX6_number_37 rfl ?_
        refine m_iconst (v := (-1)) C dX6_number_38 (by decide) ?_
        exact m_iret C hr hlk (by decide) (by decide) dX6_number_39 ⟨_, rfl, i43, g47, (iv_wk kc_m1 (by decide)), (Or.inr (Or.inl ⟨by have q := kt_m1; omega, by have q := kt_m1; omega, by have q := kt_m1; omega, by have q := kt_m1; omega, by have q := kt_m1; omega⟩))⟩
  · have f54 : (gV σ 12 0 6).toInt ≠ 2 := by
      have q : _ := c3
      simp only [ti_nle, ti_nlt, ti_le, ti_lt, ti_eq, ti_ne, Classical.not_not, kt_2] at q
      omega
    refine m_aload_n C dX6_number_8 rfl rfl ?_
    refine m_iconst (v := 1) C dX6_number_9 (by decide) ?_
    have q55 := kt_1
    refine m_callV (n := 1) (ci := 5) (st := []) C (c_X6_refuseE l G σ (1) hI ) (by decide) (by decide) rfl rfl rfl q2_141 q2_138 q2_140 q0_8 q1_2 (by decide +kernel) rfl (by decide) (by decide) rfl (Nat.le_of_ble_eq_true rfl) dX6_number_10 ?_
    rintro _ τ56 ⟨x59, rfl, i57, f58, b60, h62⟩
    have g61 : Fr MS_X6_numberE AS_X6_numberE σ τ56 := Fr.call (Fr.rf) f58 (by decide)
    have v63 : TpC τ56 T N := hT.fr f58 (by decide) (by decide) (by simp) (by decide)
    have q64 : (gV τ56 12 0 4).toInt = (gV σ 12 0 4).toInt := congrArg Int32.toInt (show (gV τ56 12 0 4) = (gV σ 12 0 4) from (show gV τ56 12 0 4 = (gV σ 12 0 4) from (f58.1 12 0 (4) (by decide) (by decide)).trans rfl))
    have q65 : (gV τ56 12 0 5).toInt = (gV σ 12 0 5).toInt := congrArg Int32.toInt (show (gV τ56 12 0 5) = (gV σ 12 0 5) from (show gV τ56 12 0 5 = (gV σ 12 0 5) from (f58.1 12 0 (5) (by decide) (by decide)).trans rfl))
    have q66 : (gV τ56 12 0 6).toInt = (gV σ 12 0 6).toInt := congrArg Int32.toInt (show (gV τ56 12 0 6) = (gV σ 12 0 6) from (show gV τ56 12 0 6 = (gV σ 12 0 6) from (f58.1 12 0 (6) (by decide) (by decide)).trans rfl))
    have q67 : (gV τ56 12 0 7).toInt = (gV σ 12 0 7).toInt := congrArg Int32.toInt (show (gV τ56 12 0 7) = (gV σ 12 0 7) from (show gV τ56 12 0 7 = (gV σ 12 0 7) from (f58.1 12 0 (7) (by decide) (by decide)).trans rfl))
    show MW p l e _ s m args below meth c _ 4 G 0 0 13 [some (.ref (G.1 12 0)), some (.int a1), some (.int a2), none] [.int x59] τ56
    refine m_pop C dX6_number_13 rfl ?_
    refine m_iconst (v := (-1)) C dX6_number_14 (by decide) ?_
    exact m_iret C hr hlk (by decide) (by decide) dX6_number_15 ⟨_, rfl, i57, g61, (iv_wk kc_m1 (by decide)), (Or.inl ⟨by have q := kt_m1; omega, by have q := kt_m1; omega, by have q := kt_m1; omega, by have q := kt_m1; omega⟩)⟩

abbrev MS_X6_passSemicolonE : List (Nat × Nat) := [(12, 2), (12, 3), (12, 4), (12, 5), (12, 6), (12, 7)]
abbrev AS_X6_passSemicolonE : List Nat := []
set_option maxHeartbeats 4000000 in
set_option maxRecDepth 100000 in
theorem c_X6_passSemicolonE (l : Launch) (G : Gt) (σ : Sg) (T : Nat → Int) (N : Nat) (i : Nat) (hI : Inv σ) (hT : TpC σ T N) (hcur : ((gV σ 12 0 4).toInt = (tS T i : Int) ∧ (gV σ 12 0 5).toInt = (tE T N i : Int) ∧ (gV σ 12 0 6).toInt = tK T N i ∧ (tK T N i = 2 → (gV σ 12 0 7).toInt = tV T i))) : Mc l G yX6_passSemicolon cX6_passSemicolon 1 (some .boolean) 3 60 0 0 [.ref (G.1 12 0)] σ (PI fun r τ => Inv τ ∧ Fr MS_X6_passSemicolonE AS_X6_passSemicolonE σ τ ∧ IV r 0 1 ∧ ((tK T N i ≠ 3 ∧ r.toInt = 0 ∧ (gV τ 12 0 2).toInt = 1 ∧ ((gV τ 12 0 3).toInt = (tS T i : Int) ∧ 0 ≤ (gV τ 12 0 3).toInt ∧ (gV τ 12 0 3).toInt ≤ 400)) ∨ (tK T N i = 3 ∧ r.toInt = 1 ∧ (gV τ 12 0 2).toInt = (gV σ 12 0 2).toInt ∧ ((gV τ 12 0 4).toInt = (tS T (tE T N i) : Int) ∧ (gV τ 12 0 5).toInt = (tE T N (tE T N i) : Int) ∧ (gV τ 12 0 6).toInt = tK T N (tE T N i) ∧ (tK T N (tE T N i) = 2 → (gV τ 12 0 7).toInt = tV T (tE T N i)))))) := by
  refine Mc.of (L0 := [some (.ref (G.1 12 0))]) (by decide) (Nat.le_of_ble_eq_true rfl) rfl ?_
  intro p e s m args below meth c C hr hlk
  have C : Cx p s m args c cX6_passSemicolon 1 "LeanTower$Reader" := C
  have k0 : (0 : Int32).toInt = 0 := by decide
  have k1 : (1 : Int32).toInt = 1 := by decide
  have u1 : IV (gV σ 12 0 4) 0 400 := hI.1 12 0 4
  have u2 : IV (gV σ 12 0 5) 0 400 := hI.1 12 0 5
  refine m_aload_n C dX6_passSemicolon_0 rfl rfl ?_
  refine g_12_6 C q1_46 dX6_passSemicolon_1 ?_
  refine m_eqs (w := (gV σ 12 0 6)) rfl ?_
  refine m_iconst (v := 3) C dX6_passSemicolon_4 (by decide) ?_
  refine m_icmp_eq (tgt := 14) C dX6_passSemicolon_5 (by decide) (fun c3 => ?_) (fun c3 => ?_)
  · have f4 : (gV σ 12 0 6).toInt = 3 := by
      have q : _ := c3
      simp only [ti_nle, ti_nlt, ti_le, ti_lt, ti_eq, ti_ne, Classical.not_not, kt_3] at q
      omega
    have b5 : IV (gV σ 12 0 6) 3 3 := ⟨by have q1 := (iv_any (gV σ 12 0 6)); have q2 := kc_3; omega, by have q1 := (iv_any (gV σ 12 0 6)); have q2 := kc_3; omega⟩
    refine m_aload_n C dX6_passSemicolon_14 rfl rfl ?_
    refine m_callV (n := 0) (ci := 5) (st := []) C (c_X6_nextE l G σ T N (tE T N i)  hI hT (by omega)) (by decide) (by decide) rfl rfl rfl q2_63 q2_60 q2_62 q0_3 q1_2 (by decide +kernel) rfl (by decide) (by decide) rfl (Nat.le_of_ble_eq_true rfl) dX6_passSemicolon_15 ?_
    rintro _ τ6 ⟨rfl, i7, f8, h12⟩
    have g11 : Fr MS_X6_passSemicolonE AS_X6_passSemicolonE σ τ6 := Fr.call (Fr.rf) f8 (by decide)
    have v13 : TpC τ6 T N := hT.fr f8 (by decide) (by decide) (by simp) (by decide)
    have u14 : IV (gV τ6 12 0 4) 0 400 := i7.1 12 0 4
    have u15 : IV (gV τ6 12 0 5) 0 400 := i7.1 12 0 5
    have q16 : (gV τ6 12 0 2).toInt = (gV σ 12 0 2).toInt := congrArg Int32.toInt (show (gV τ6 12 0 2) = (gV σ 12 0 2) from (show gV τ6 12 0 2 = (gV σ 12 0 2) from (f8.1 12 0 (2) (by decide) (by decide)).trans rfl))
    have q17 : (gV τ6 12 0 3).toInt = (gV σ 12 0 3).toInt := congrArg Int32.toInt (show (gV τ6 12 0 3) = (gV σ 12 0 3) from (show gV τ6 12 0 3 = (gV σ 12 0 3) from (f8.1 12 0 (3) (by decide) (by decide)).trans rfl))
    show MW p l e _ s m args below meth c _ 1 G 0 0 18 [some (.ref (G.1 12 0))] [] τ6
    refine m_iconst (v := 1) C dX6_passSemicolon_18 (by decide) ?_
    exact m_zret C hr rfl hlk (by decide) (by decide) dX6_passSemicolon_19 ⟨_, rfl, i7, g11, (iv_wk kc_1 (by decide)), (Or.inr (⟨by have q := kt_1; omega, by have q := kt_1; omega, by have q := kt_1; omega, by have q := kt_1; omega⟩))⟩
  · have f18 : (gV σ 12 0 6).toInt ≠ 3 := by
      have q : _ := c3
      simp only [ti_nle, ti_nlt, ti_le, ti_lt, ti_eq, ti_ne, Classical.not_not, kt_3] at q
      omega
    refine m_aload_n C dX6_passSemicolon_8 rfl rfl ?_
    refine m_iconst (v := 1) C dX6_passSemicolon_9 (by decide) ?_
    have q19 := kt_1
    refine m_callV (n := 1) (ci := 5) (st := []) C (c_X6_refuseE l G σ (1) hI ) (by decide) (by decide) rfl rfl rfl q2_141 q2_138 q2_140 q0_8 q1_2 (by decide +kernel) rfl (by decide) (by decide) rfl (Nat.le_of_ble_eq_true rfl) dX6_passSemicolon_10 ?_
    rintro _ τ20 ⟨x23, rfl, i21, f22, b24, h26⟩
    have g25 : Fr MS_X6_passSemicolonE AS_X6_passSemicolonE σ τ20 := Fr.call (Fr.rf) f22 (by decide)
    have v27 : TpC τ20 T N := hT.fr f22 (by decide) (by decide) (by simp) (by decide)
    have q28 : (gV τ20 12 0 4).toInt = (gV σ 12 0 4).toInt := congrArg Int32.toInt (show (gV τ20 12 0 4) = (gV σ 12 0 4) from (show gV τ20 12 0 4 = (gV σ 12 0 4) from (f22.1 12 0 (4) (by decide) (by decide)).trans rfl))
    have q29 : (gV τ20 12 0 5).toInt = (gV σ 12 0 5).toInt := congrArg Int32.toInt (show (gV τ20 12 0 5) = (gV σ 12 0 5) from (show gV τ20 12 0 5 = (gV σ 12 0 5) from (f22.1 12 0 (5) (by decide) (by decide)).trans rfl))
    have q30 : (gV τ20 12 0 6).toInt = (gV σ 12 0 6).toInt := congrArg Int32.toInt (show (gV τ20 12 0 6) = (gV σ 12 0 6) from (show gV τ20 12 0 6 = (gV σ 12 0 6) from (f22.1 12 0 (6) (by decide) (by decide)).trans rfl))
    have q31 : (gV τ20 12 0 7).toInt = (gV σ 12 0 7).toInt := congrArg Int32.toInt (show (gV τ20 12 0 7) = (gV σ 12 0 7) from (show gV τ20 12 0 7 = (gV σ 12 0 7) from (f22.1 12 0 (7) (by decide) (by decide)).trans rfl))
    show MW p l e _ s m args below meth c _ 1 G 0 0 13 [some (.ref (G.1 12 0))] [.int x23] τ20
    exact m_zret C hr (nar_z (iv_wk b24 (by decide))) hlk (by decide) (by decide) dX6_passSemicolon_13 ⟨_, rfl, i21, g25, (iv_wk b24 (by decide)), (Or.inl ⟨by omega, by omega, by omega, by omega⟩)⟩

abbrev MS_X6_kindAtHandE : List (Nat × Nat) := []
abbrev AS_X6_kindAtHandE : List Nat := []
set_option maxHeartbeats 4000000 in
set_option maxRecDepth 100000 in
theorem c_X6_kindAtHandE (l : Launch) (G : Gt) (σ : Sg) (T : Nat → Int) (N : Nat) (i : Nat) (hI : Inv σ) (hT : TpC σ T N) (hcur : ((gV σ 12 0 4).toInt = (tS T i : Int) ∧ (gV σ 12 0 5).toInt = (tE T N i : Int) ∧ (gV σ 12 0 6).toInt = tK T N i ∧ (tK T N i = 2 → (gV σ 12 0 7).toInt = tV T i))) : Mc l G yX6_kindAtHand cX6_kindAtHand 1 (some .int) 5 107 0 0 [.ref (G.1 12 0)] σ (PI fun r τ => Inv τ ∧ Fr MS_X6_kindAtHandE AS_X6_kindAtHandE σ τ ∧ IV r 0 5 ∧ r.toInt = tQ T N i) := by
  refine Mc.of (L0 := [some (.ref (G.1 12 0))]) (by decide) (Nat.le_of_ble_eq_true rfl) rfl ?_
  intro p e s m args below meth c C hr hlk
  have C : Cx p s m args c cX6_kindAtHand 1 "LeanTower$Reader" := C
  have k0 : (0 : Int32).toInt = 0 := by decide
  have k1 : (1 : Int32).toInt = 1 := by decide
  have u1 : IV (gV σ 12 0 4) 0 400 := hI.1 12 0 4
  have u2 : IV (gV σ 12 0 5) 0 400 := hI.1 12 0 5
  refine m_aload_n C dX6_kindAtHand_0 rfl rfl ?_
  refine s_ldc (w := 2) (tx := "") C rfl (by decide) rfl dX6_kindAtHand_1 ?_
  refine m_callV (n := 1) (ci := 5) (st := []) C (c_X6_isWordE l G σ T N i (w := 2) (by decide) hI hT (by omega)) (by decide) (by decide) rfl rfl rfl q2_89 q2_86 q2_88 q0_7 q1_2 (by decide +kernel) rfl (by decide) (by decide) rfl (Nat.le_of_ble_eq_true rfl) dX6_kindAtHand_3 ?_
  rintro _ τ3 ⟨x6, rfl, i4, f5, b7, h9⟩
  have g8 : Fr MS_X6_kindAtHandE AS_X6_kindAtHandE σ τ3 := Fr.call (Fr.rf) f5 (by decide)
  have v10 : TpC τ3 T N := hT.fr f5 (by decide) (by decide) (by simp) (by decide)
  have q11 : (gV τ3 12 0 2).toInt = (gV σ 12 0 2).toInt := congrArg Int32.toInt (show (gV τ3 12 0 2) = (gV σ 12 0 2) from (show gV τ3 12 0 2 = (gV σ 12 0 2) from (f5.1 12 0 (2) (by decide) (by decide)).trans rfl))
  have q12 : (gV τ3 12 0 3).toInt = (gV σ 12 0 3).toInt := congrArg Int32.toInt (show (gV τ3 12 0 3) = (gV σ 12 0 3) from (show gV τ3 12 0 3 = (gV σ 12 0 3) from (f5.1 12 0 (3) (by decide) (by decide)).trans rfl))
  have q13 : (gV τ3 12 0 4).toInt = (gV σ 12 0 4).toInt := congrArg Int32.toInt (show (gV τ3 12 0 4) = (gV σ 12 0 4) from (show gV τ3 12 0 4 = (gV σ 12 0 4) from (f5.1 12 0 (4) (by decide) (by decide)).trans rfl))
  have q14 : (gV τ3 12 0 5).toInt = (gV σ 12 0 5).toInt := congrArg Int32.toInt (show (gV τ3 12 0 5) = (gV σ 12 0 5) from (show gV τ3 12 0 5 = (gV σ 12 0 5) from (f5.1 12 0 (5) (by decide) (by decide)).trans rfl))
  have q15 : (gV τ3 12 0 6).toInt = (gV σ 12 0 6).toInt := congrArg Int32.toInt (show (gV τ3 12 0 6) = (gV σ 12 0 6) from (show gV τ3 12 0 6 = (gV σ 12 0 6) from (f5.1 12 0 (6) (by decide) (by decide)).trans rfl))
  have q16 : (gV τ3 12 0 7).toInt = (gV σ 12 0 7).toInt := congrArg Int32.toInt (show (gV τ3 12 0 7) = (gV σ 12 0 7) from (show gV τ3 12 0 7 = (gV σ 12 0 7) from (f5.1 12 0 (7) (by decide) (by decide)).trans rfl))
  rcases h9 with ⟨h9_0, h9_1, h9_2⟩ | ⟨h9_0, h9_1⟩
  · skip
    have b17 : IV x6 1 1 := ⟨by omega, by omega⟩
    show MW p l e _ s m args below meth c _ 1 G 0 0 6 [some (.ref (G.1 12 0))] [.int x6] τ3
    refine m_if_eq (tgt := 11) C dX6_kindAtHand_6 (by decide) (fun c18 => ?_) (fun c18 => ?_)
    · exfalso
      have q : _ := c18
      simp only [ti_nle, ti_nlt, ti_le, ti_lt, ti_eq, ti_ne, Classical.not_not, kt_0] at q
      have q1 := b17; have q2 := kc_0; omega
    · have f20 : x6.toInt ≠ 0 := by
        have q : _ := c18
        simp only [ti_nle, ti_nlt, ti_le, ti_lt, ti_eq, ti_ne, Classical.not_not, kt_0] at q
        omega
      refine m_iconst (v := 1) C dX6_kindAtHand_9 (by decide) ?_
      exact m_iret C hr hlk (by decide) (by decide) dX6_kindAtHand_10 ⟨_, rfl, i4, g8, (iv_wk kc_1 (by decide)), (by have q := kt_1; have q2 := tQ_def T N i; omega)⟩
  · skip
    have b21 : IV x6 0 0 := ⟨by omega, by omega⟩
    show MW p l e _ s m args below meth c _ 1 G 0 0 6 [some (.ref (G.1 12 0))] [.int x6] τ3
    refine m_if_eq (tgt := 11) C dX6_kindAtHand_6 (by decide) (fun c22 => ?_) (fun c22 => ?_)
    · have f23 : x6.toInt = 0 := by
        have q : _ := c22
        simp only [ti_nle, ti_nlt, ti_le, ti_lt, ti_eq, ti_ne, Classical.not_not, kt_0] at q
        omega
      refine m_aload_n C dX6_kindAtHand_11 rfl rfl ?_
      refine s_ldc (w := 3) (tx := "") C rfl (by decide) rfl dX6_kindAtHand_12 ?_
      refine m_callV (n := 1) (ci := 5) (st := []) C (c_X6_isWordE l G τ3 T N i (w := 3) (by decide) i4 v10 (by omega)) (by decide) (by decide) rfl rfl rfl q2_89 q2_86 q2_88 q0_7 q1_2 (by decide +kernel) rfl (by decide) (by decide) rfl (Nat.le_of_ble_eq_true rfl) dX6_kindAtHand_14 ?_
      rintro _ τ24 ⟨x27, rfl, i25, f26, b28, h30⟩
      have g29 : Fr MS_X6_kindAtHandE AS_X6_kindAtHandE σ τ24 := Fr.call (g8) f26 (by decide)
      have v31 : TpC τ24 T N := v10.fr f26 (by decide) (by decide) (by simp) (by decide)
      have q32 : (gV τ24 12 0 2).toInt = (gV σ 12 0 2).toInt := congrArg Int32.toInt (show (gV τ24 12 0 2) = (gV σ 12 0 2) from (show gV τ24 12 0 2 = (gV σ 12 0 2) from (f26.1 12 0 (2) (by decide) (by decide)).trans (show gV τ3 12 0 2 = (gV σ 12 0 2) from (f5.1 12 0 (2) (by decide) (by decide)).trans rfl)))
      have q33 : (gV τ24 12 0 3).toInt = (gV σ 12 0 3).toInt := congrArg Int32.toInt (show (gV τ24 12 0 3) = (gV σ 12 0 3) from (show gV τ24 12 0 3 = (gV σ 12 0 3) from (f26.1 12 0 (3) (by decide) (by decide)).trans (show gV τ3 12 0 3 = (gV σ 12 0 3) from (f5.1 12 0 (3) (by decide) (by decide)).trans rfl)))
      have q34 : (gV τ24 12 0 4).toInt = (gV σ 12 0 4).toInt := congrArg Int32.toInt (show (gV τ24 12 0 4) = (gV σ 12 0 4) from (show gV τ24 12 0 4 = (gV σ 12 0 4) from (f26.1 12 0 (4) (by decide) (by decide)).trans (show gV τ3 12 0 4 = (gV σ 12 0 4) from (f5.1 12 0 (4) (by decide) (by decide)).trans rfl)))
      have q35 : (gV τ24 12 0 5).toInt = (gV σ 12 0 5).toInt := congrArg Int32.toInt (show (gV τ24 12 0 5) = (gV σ 12 0 5) from (show gV τ24 12 0 5 = (gV σ 12 0 5) from (f26.1 12 0 (5) (by decide) (by decide)).trans (show gV τ3 12 0 5 = (gV σ 12 0 5) from (f5.1 12 0 (5) (by decide) (by decide)).trans rfl)))
      have q36 : (gV τ24 12 0 6).toInt = (gV σ 12 0 6).toInt := congrArg Int32.toInt (show (gV τ24 12 0 6) = (gV σ 12 0 6) from (show gV τ24 12 0 6 = (gV σ 12 0 6) from (f26.1 12 0 (6) (by decide) (by decide)).trans (show gV τ3 12 0 6 = (gV σ 12 0 6) from (f5.1 12 0 (6) (by decide) (by decide)).trans rfl)))
      have q37 : (gV τ24 12 0 7).toInt = (gV σ 12 0 7).toInt := congrArg Int32.toInt (show (gV τ24 12 0 7) = (gV σ 12 0 7) from (show gV τ24 12 0 7 = (gV σ 12 0 7) from (f26.1 12 0 (7) (by decide) (by decide)).trans (show gV τ3 12 0 7 = (gV σ 12 0 7) from (f5.1 12 0 (7) (by decide) (by decide)).trans rfl)))
      rcases h30 with ⟨h30_0, h30_1, h30_2⟩ | ⟨h30_0, h30_1⟩
      · skip
        have b38 : IV x27 1 1 := ⟨by omega, by omega⟩
        show MW p l e _ s m args below meth c _ 1 G 0 0 17 [some (.ref (G.1 12 0))] [.int x27] τ24
        refine m_if_eq (tgt := 22) C dX6_kindAtHand_17 (by decide) (fun c39 => ?_) (fun c39 => ?_)
        · exfalso
          have q : _ := c39
          simp only [ti_nle, ti_nlt, ti_le, ti_lt, ti_eq, ti_ne, Classical.not_not, kt_0] at q
          have q1 := b38; have q2 := kc_0; omega
        · have f41 : x27.toInt ≠ 0 := by
            have q : _ := c39
            simp only [ti_nle, ti_nlt, ti_le, ti_lt, ti_eq, ti_ne, Classical.not_not, kt_0] at q
            omega
          refine m_iconst (v := 2) C dX6_kindAtHand_20 (by decide) ?_
          exact m_iret C hr hlk (by decide) (by decide) dX6_kindAtHand_21 ⟨_, rfl, i25, g29, (iv_wk kc_2 (by decide)), (by have q := kt_2; have q2 := tQ_def T N i; omega)⟩
      · skip
        have b42 : IV x27 0 0 := ⟨by omega, by omega⟩
        show MW p l e _ s m args below meth c _ 1 G 0 0 17 [some (.ref (G.1 12 0))] [.int x27] τ24
        refine m_if_eq (tgt := 22) C dX6_kindAtHand_17 (by decide) (fun c43 => ?_) (fun c43 => ?_)
        · have f44 : x27.toInt = 0 := by
            have q : _ := c43
            simp only [ti_nle, ti_nlt, ti_le, ti_lt, ti_eq, ti_ne, Classical.not_not, kt_0] at q
            omega
          refine m_aload_n C dX6_kindAtHand_22 rfl rfl ?_
          refine s_ldc (w := 4) (tx := "") C rfl (by decide) rfl dX6_kindAtHand_23 ?_
          refine m_callV (n := 1) (ci := 5) (st := []) C (c_X6_isWordE l G τ24 T N i (w := 4) (by decide) i25 v31 (by omega)) (by decide) (by decide) rfl rfl rfl q2_89 q2_86 q2_88 q0_7 q1_2 (by decide +kernel) rfl (by decide) (by decide) rfl (Nat.le_of_ble_eq_true rfl) dX6_kindAtHand_25 ?_
          rintro _ τ45 ⟨x48, rfl, i46, f47, b49, h51⟩
          have g50 : Fr MS_X6_kindAtHandE AS_X6_kindAtHandE σ τ45 := Fr.call (g29) f47 (by decide)
          have v52 : TpC τ45 T N := v31.fr f47 (by decide) (by decide) (by simp) (by decide)
          have q53 : (gV τ45 12 0 2).toInt = (gV σ 12 0 2).toInt := congrArg Int32.toInt (show (gV τ45 12 0 2) = (gV σ 12 0 2) from (show gV τ45 12 0 2 = (gV σ 12 0 2) from (f47.1 12 0 (2) (by decide) (by decide)).trans (show gV τ24 12 0 2 = (gV σ 12 0 2) from (f26.1 12 0 (2) (by decide) (by decide)).trans (show gV τ3 12 0 2 = (gV σ 12 0 2) from (f5.1 12 0 (2) (by decide) (by decide)).trans rfl))))
          have q54 : (gV τ45 12 0 3).toInt = (gV σ 12 0 3).toInt := congrArg Int32.toInt (show (gV τ45 12 0 3) = (gV σ 12 0 3) from (show gV τ45 12 0 3 = (gV σ 12 0 3) from (f47.1 12 0 (3) (by decide) (by decide)).trans (show gV τ24 12 0 3 = (gV σ 12 0 3) from (f26.1 12 0 (3) (by decide) (by decide)).trans (show gV τ3 12 0 3 = (gV σ 12 0 3) from (f5.1 12 0 (3) (by decide) (by decide)).trans rfl))))
          have q55 : (gV τ45 12 0 4).toInt = (gV σ 12 0 4).toInt := congrArg Int32.toInt (show (gV τ45 12 0 4) = (gV σ 12 0 4) from (show gV τ45 12 0 4 = (gV σ 12 0 4) from (f47.1 12 0 (4) (by decide) (by decide)).trans (show gV τ24 12 0 4 = (gV σ 12 0 4) from (f26.1 12 0 (4) (by decide) (by decide)).trans (show gV τ3 12 0 4 = (gV σ 12 0 4) from (f5.1 12 0 (4) (by decide) (by decide)).trans rfl))))
          have q56 : (gV τ45 12 0 5).toInt = (gV σ 12 0 5).toInt := congrArg Int32.toInt (show (gV τ45 12 0 5) = (gV σ 12 0 5) from (show gV τ45 12 0 5 = (gV σ 12 0 5) from (f47.1 12 0 (5) (by decide) (by decide)).trans (show gV τ24 12 0 5 = (gV σ 12 0 5) from (f26.1 12 0 (5) (by decide) (by decide)).trans (show gV τ3 12 0 5 = (gV σ 12 0 5) from (f5.1 12 0 (5) (by decide) (by decide)).trans rfl))))
          have q57 : (gV τ45 12 0 6).toInt = (gV σ 12 0 6).toInt := congrArg Int32.toInt (show (gV τ45 12 0 6) = (gV σ 12 0 6) from (show gV τ45 12 0 6 = (gV σ 12 0 6) from (f47.1 12 0 (6) (by decide) (by decide)).trans (show gV τ24 12 0 6 = (gV σ 12 0 6) from (f26.1 12 0 (6) (by decide) (by decide)).trans (show gV τ3 12 0 6 = (gV σ 12 0 6) from (f5.1 12 0 (6) (by decide) (by decide)).trans rfl))))
          have q58 : (gV τ45 12 0 7).toInt = (gV σ 12 0 7).toInt := congrArg Int32.toInt (show (gV τ45 12 0 7) = (gV σ 12 0 7) from (show gV τ45 12 0 7 = (gV σ 12 0 7) from (f47.1 12 0 (7) (by decide) (by decide)).trans (show gV τ24 12 0 7 = (gV σ 12 0 7) from (f26.1 12 0 (7) (by decide) (by decide)).trans (show gV τ3 12 0 7 = (gV σ 12 0 7) from (f5.1 12 0 (7) (by decide) (by decide)).trans rfl))))
          rcases h51 with ⟨h51_0, h51_1, h51_2⟩ | ⟨h51_0, h51_1⟩
          · skip
            have b59 : IV x48 1 1 := ⟨by omega, by omega⟩
            show MW p l e _ s m args below meth c _ 1 G 0 0 28 [some (.ref (G.1 12 0))] [.int x48] τ45
            refine m_if_eq (tgt := 33) C dX6_kindAtHand_28 (by decide) (fun c60 => ?_) (fun c60 => ?_)
            · exfalso
              have q : _ := c60
              simp only [ti_nle, ti_nlt, ti_le, ti_lt, ti_eq, ti_ne, Classical.not_not, kt_0] at q
              have q1 := b59; have q2 := kc_0; omega
            · have f62 : x48.toInt ≠ 0 := by
                have q : _ := c60
                simp only [ti_nle, ti_nlt, ti_le, ti_lt, ti_eq, ti_ne, Classical.not_not, kt_0] at q
                omega
              refine m_iconst (v := 3) C dX6_kindAtHand_31 (by decide) ?_
              exact m_iret C hr hlk (by decide) (by decide) dX6_kindAtHand_32 ⟨_, rfl, i46, g50, (iv_wk kc_3 (by decide)), (by have q := kt_3; have q2 := tQ_def T N i; omega)⟩
          · skip
            have b63 : IV x48 0 0 := ⟨by omega, by omega⟩
            show MW p l e _ s m args below meth c _ 1 G 0 0 28 [some (.ref (G.1 12 0))] [.int x48] τ45
            refine m_if_eq (tgt := 33) C dX6_kindAtHand_28 (by decide) (fun c64 => ?_) (fun c64 => ?_)
            · have f65 : x48.toInt = 0 := by
                have q : _ := c64
                simp only [ti_nle, ti_nlt, ti_le, ti_lt, ti_eq, ti_ne, Classical.not_not, kt_0] at q
                omega
              refine m_aload_n C dX6_kindAtHand_33 rfl rfl ?_
              refine s_ldc (w := 5) (tx := "") C rfl (by decide) rfl dX6_kindAtHand_34 ?_
              refine m_callV (n := 1) (ci := 5) (st := []) C (c_X6_isWordE l G τ45 T N i (w := 5) (by decide) i46 v52 (by omega)) (by decide) (by decide) rfl rfl rfl q2_89 q2_86 q2_88 q0_7 q1_2 (by decide +kernel) rfl (by decide) (by decide) rfl (Nat.le_of_ble_eq_true rfl) dX6_kindAtHand_36 ?_
              rintro _ τ66 ⟨x69, rfl, i67, f68, b70, h72⟩
              have g71 : Fr MS_X6_kindAtHandE AS_X6_kindAtHandE σ τ66 := Fr.call (g50) f68 (by decide)
              have v73 : TpC τ66 T N := v52.fr f68 (by decide) (by decide) (by simp) (by decide)
              have q74 : (gV τ66 12 0 2).toInt = (gV σ 12 0 2).toInt := congrArg Int32.toInt (show (gV τ66 12 0 2) = (gV σ 12 0 2) from (show gV τ66 12 0 2 = (gV σ 12 0 2) from (f68.1 12 0 (2) (by decide) (by decide)).trans (show gV τ45 12 0 2 = (gV σ 12 0 2) from (f47.1 12 0 (2) (by decide) (by decide)).trans (show gV τ24 12 0 2 = (gV σ 12 0 2) from (f26.1 12 0 (2) (by decide) (by decide)).trans (show gV τ3 12 0 2 = (gV σ 12 0 2) from (f5.1 12 0 (2) (by decide) (by decide)).trans rfl)))))
              have q75 : (gV τ66 12 0 3).toInt = (gV σ 12 0 3).toInt := congrArg Int32.toInt (show (gV τ66 12 0 3) = (gV σ 12 0 3) from (show gV τ66 12 0 3 = (gV σ 12 0 3) from (f68.1 12 0 (3) (by decide) (by decide)).trans (show gV τ45 12 0 3 = (gV σ 12 0 3) from (f47.1 12 0 (3) (by decide) (by decide)).trans (show gV τ24 12 0 3 = (gV σ 12 0 3) from (f26.1 12 0 (3) (by decide) (by decide)).trans (show gV τ3 12 0 3 = (gV σ 12 0 3) from (f5.1 12 0 (3) (by decide) (by decide)).trans rfl)))))
              have q76 : (gV τ66 12 0 4).toInt = (gV σ 12 0 4).toInt := congrArg Int32.toInt (show (gV τ66 12 0 4) = (gV σ 12 0 4) from (show gV τ66 12 0 4 = (gV σ 12 0 4) from (f68.1 12 0 (4) (by decide) (by decide)).trans (show gV τ45 12 0 4 = (gV σ 12 0 4) from (f47.1 12 0 (4) (by decide) (by decide)).trans (show gV τ24 12 0 4 = (gV σ 12 0 4) from (f26.1 12 0 (4) (by decide) (by decide)).trans (show gV τ3 12 0 4 = (gV σ 12 0 4) from (f5.1 12 0 (4) (by decide) (by decide)).trans rfl)))))
              have q77 : (gV τ66 12 0 5).toInt = (gV σ 12 0 5).toInt := congrArg Int32.toInt (show (gV τ66 12 0 5) = (gV σ 12 0 5) from (show gV τ66 12 0 5 = (gV σ 12 0 5) from (f68.1 12 0 (5) (by decide) (by decide)).trans (show gV τ45 12 0 5 = (gV σ 12 0 5) from (f47.1 12 0 (5) (by decide) (by decide)).trans (show gV τ24 12 0 5 = (gV σ 12 0 5) from (f26.1 12 0 (5) (by decide) (by decide)).trans (show gV τ3 12 0 5 = (gV σ 12 0 5) from (f5.1 12 0 (5) (by decide) (by decide)).trans rfl)))))
              have q78 : (gV τ66 12 0 6).toInt = (gV σ 12 0 6).toInt := congrArg Int32.toInt (show (gV τ66 12 0 6) = (gV σ 12 0 6) from (show gV τ66 12 0 6 = (gV σ 12 0 6) from (f68.1 12 0 (6) (by decide) (by decide)).trans (show gV τ45 12 0 6 = (gV σ 12 0 6) from (f47.1 12 0 (6) (by decide) (by decide)).trans (show gV τ24 12 0 6 = (gV σ 12 0 6) from (f26.1 12 0 (6) (by decide) (by decide)).trans (show gV τ3 12 0 6 = (gV σ 12 0 6) from (f5.1 12 0 (6) (by decide) (by decide)).trans rfl)))))
              have q79 : (gV τ66 12 0 7).toInt = (gV σ 12 0 7).toInt := congrArg Int32.toInt (show (gV τ66 12 0 7) = (gV σ 12 0 7) from (show gV τ66 12 0 7 = (gV σ 12 0 7) from (f68.1 12 0 (7) (by decide) (by decide)).trans (show gV τ45 12 0 7 = (gV σ 12 0 7) from (f47.1 12 0 (7) (by decide) (by decide)).trans (show gV τ24 12 0 7 = (gV σ 12 0 7) from (f26.1 12 0 (7) (by decide) (by decide)).trans (show gV τ3 12 0 7 = (gV σ 12 0 7) from (f5.1 12 0 (7) (by decide) (by decide)).trans rfl)))))
              rcases h72 with ⟨h72_0, h72_1, h72_2⟩ | ⟨h72_0, h72_1⟩
              · skip
                have b80 : IV x69 1 1 := ⟨by omega, by omega⟩
                show MW p l e _ s m args below meth c _ 1 G 0 0 39 [some (.ref (G.1 12 0))] [.int x69] τ66
                refine m_if_eq (tgt := 44) C dX6_kindAtHand_39 (by decide) (fun c81 => ?_) (fun c81 => ?_)
                · exfalso
                  have q : _ := c81
                  simp only [ti_nle, ti_nlt, ti_le, ti_lt, ti_eq, ti_ne, Classical.not_not, kt_0] at q
                  have q1 := b80; have q2 := kc_0; omega
                · have f83 : x69.toInt ≠ 0 := by
                    have q : _ := c81
                    simp only [ti_nle, ti_nlt, ti_le, ti_lt, ti_eq, ti_ne, Classical.not_not, kt_0] at q
                    omega
                  refine m_iconst (v := 4) C dX6_kindAtHand_42 (by decide) ?_
                  exact m_iret C hr hlk (by decide) (by decide) dX6_kindAtHand_43 ⟨_, rfl, i67, g71, (iv_wk kc_4 (by decide)), (by have q := kt_4; have q2 := tQ_def T N i; omega)⟩
              · skip
                have b84 : IV x69 0 0 := ⟨by omega, by omega⟩
                show MW p l e _ s m args below meth c _ 1 G 0 0 39 [some (.ref (G.1 12 0))] [.int x69] τ66
                refine m_if_eq (tgt := 44) C dX6_kindAtHand_39 (by decide) (fun c85 => ?_) (fun c85 => ?_)
                · have f86 : x69.toInt = 0 := by
                    have q : _ := c85
                    simp only [ti_nle, ti_nlt, ti_le, ti_lt, ti_eq, ti_ne, Classical.not_not, kt_0] at q
                    omega
                  refine m_aload_n C dX6_kindAtHand_44 rfl rfl ?_
                  refine s_ldc (w := 6) (tx := "") C rfl (by decide) rfl dX6_kindAtHand_45 ?_
                  refine m_callV (n := 1) (ci := 5) (st := []) C (c_X6_isWordE l G τ66 T N i (w := 6) (by decide) i67 v73 (by omega)) (by decide) (by decide) rfl rfl rfl q2_89 q2_86 q2_88 q0_7 q1_2 (by decide +kernel) rfl (by decide) (by decide) rfl (Nat.le_of_ble_eq_true rfl) dX6_kindAtHand_47 ?_
                  rintro _ τ87 ⟨x90, rfl, i88, f89, b91, h93⟩
                  have g92 : Fr MS_X6_kindAtHandE AS_X6_kindAtHandE σ τ87 := Fr.call (g71) f89 (by decide)
                  have v94 : TpC τ87 T N := v73.fr f89 (by decide) (by decide) (by simp) (by decide)
                  have q95 : (gV τ87 12 0 2).toInt = (gV σ 12 0 2).toInt := congrArg Int32.toInt (show (gV τ87 12 0 2) = (gV σ 12 0 2) from (show gV τ87 12 0 2 = (gV σ 12 0 2) from (f89.1 12 0 (2) (by decide) (by decide)).trans (show gV τ66 12 0 2 = (gV σ 12 0 2) from (f68.1 12 0 (2) (by decide) (by decide)).trans (show gV τ45 12 0 2 = (gV σ 12 0 2) from (f47.1 12 0 (2) (by decide) (by decide)).trans (show gV τ24 12 0 2 = (gV σ 12 0 2) from (f26.1 12 0 (2) (by decide) (by decide)).trans (show gV τ3 12 0 2 = (gV σ 12 0 2) from (f5.1 12 0 (2) (by decide) (by decide)).trans rfl))))))
                  have q96 : (gV τ87 12 0 3).toInt = (gV σ 12 0 3).toInt := congrArg Int32.toInt (show (gV τ87 12 0 3) = (gV σ 12 0 3) from (show gV τ87 12 0 3 = (gV σ 12 0 3) from (f89.1 12 0 (3) (by decide) (by decide)).trans (show gV τ66 12 0 3 = (gV σ 12 0 3) from (f68.1 12 0 (3) (by decide) (by decide)).trans (show gV τ45 12 0 3 = (gV σ 12 0 3) from (f47.1 12 0 (3) (by decide) (by decide)).trans (show gV τ24 12 0 3 = (gV σ 12 0 3) from (f26.1 12 0 (3) (by decide) (by decide)).trans (show gV τ3 12 0 3 = (gV σ 12 0 3) from (f5.1 12 0 (3) (by decide) (by decide)).trans rfl))))))
                  have q97 : (gV τ87 12 0 4).toInt = (gV σ 12 0 4).toInt := congrArg Int32.toInt (show (gV τ87 12 0 4) = (gV σ 12 0 4) from (show gV τ87 12 0 4 = (gV σ 12 0 4) from (f89.1 12 0 (4) (by decide) (by decide)).trans (show gV τ66 12 0 4 = (gV σ 12 0 4) from (f68.1 12 0 (4) (by decide) (by decide)).trans (show gV τ45 12 0 4 = (gV σ 12 0 4) from (f47.1 12 0 (4) (by decide) (by decide)).trans (show gV τ24 12 0 4 = (gV σ 12 0 4) from (f26.1 12 0 (4) (by decide) (by decide)).trans (show gV τ3 12 0 4 = (gV σ 12 0 4) from (f5.1 12 0 (4) (by decide) (by decide)).trans rfl))))))
                  have q98 : (gV τ87 12 0 5).toInt = (gV σ 12 0 5).toInt := congrArg Int32.toInt (show (gV τ87 12 0 5) = (gV σ 12 0 5) from (show gV τ87 12 0 5 = (gV σ 12 0 5) from (f89.1 12 0 (5) (by decide) (by decide)).trans (show gV τ66 12 0 5 = (gV σ 12 0 5) from (f68.1 12 0 (5) (by decide) (by decide)).trans (show gV τ45 12 0 5 = (gV σ 12 0 5) from (f47.1 12 0 (5) (by decide) (by decide)).trans (show gV τ24 12 0 5 = (gV σ 12 0 5) from (f26.1 12 0 (5) (by decide) (by decide)).trans (show gV τ3 12 0 5 = (gV σ 12 0 5) from (f5.1 12 0 (5) (by decide) (by decide)).trans rfl))))))
                  have q99 : (gV τ87 12 0 6).toInt = (gV σ 12 0 6).toInt := congrArg Int32.toInt (show (gV τ87 12 0 6) = (gV σ 12 0 6) from (show gV τ87 12 0 6 = (gV σ 12 0 6) from (f89.1 12 0 (6) (by decide) (by decide)).trans (show gV τ66 12 0 6 = (gV σ 12 0 6) from (f68.1 12 0 (6) (by decide) (by decide)).trans (show gV τ45 12 0 6 = (gV σ 12 0 6) from (f47.1 12 0 (6) (by decide) (by decide)).trans (show gV τ24 12 0 6 = (gV σ 12 0 6) from (f26.1 12 0 (6) (by decide) (by decide)).trans (show gV τ3 12 0 6 = (gV σ 12 0 6) from (f5.1 12 0 (6) (by decide) (by decide)).trans rfl))))))
                  have q100 : (gV τ87 12 0 7).toInt = (gV σ 12 0 7).toInt := congrArg Int32.toInt (show (gV τ87 12 0 7) = (gV σ 12 0 7) from (show gV τ87 12 0 7 = (gV σ 12 0 7) from (f89.1 12 0 (7) (by decide) (by decide)).trans (show gV τ66 12 0 7 = (gV σ 12 0 7) from (f68.1 12 0 (7) (by decide) (by decide)).trans (show gV τ45 12 0 7 = (gV σ 12 0 7) from (f47.1 12 0 (7) (by decide) (by decide)).trans (show gV τ24 12 0 7 = (gV σ 12 0 7) from (f26.1 12 0 (7) (by decide) (by decide)).trans (show gV τ3 12 0 7 = (gV σ 12 0 7) from (f5.1 12 0 (7) (by decide) (by decide)).trans rfl))))))
                  rcases h93 with ⟨h93_0, h93_1, h93_2⟩ | ⟨h93_0, h93_1⟩
                  · skip
                    have b101 : IV x90 1 1 := ⟨by omega, by omega⟩
                    show MW p l e _ s m args below meth c _ 1 G 0 0 50 [some (.ref (G.1 12 0))] [.int x90] τ87
                    refine m_if_eq (tgt := 57) C dX6_kindAtHand_50 (by decide) (fun c102 => ?_) (fun c102 => ?_)
                    · exfalso
                      have q : _ := c102
                      simp only [ti_nle, ti_nlt, ti_le, ti_lt, ti_eq, ti_ne, Classical.not_not, kt_0] at q
                      have q1 := b101; have q2 := kc_0; omega
                    · have f104 : x90.toInt ≠ 0 := by
                        have q : _ := c102
                        simp only [ti_nle, ti_nlt, ti_le, ti_lt, ti_eq, ti_ne, Classical.not_not, kt_0] at q
                        omega
                      refine m_iconst (v := 5) C dX6_kindAtHand_53 (by decide) ?_
                      refine m_goto (tgt := 58) C dX6_kindAtHand_54 (by decide) ?_
                      exact m_iret C hr hlk (by decide) (by decide) dX6_kindAtHand_58 ⟨_, rfl, i88, g92, (iv_wk kc_5 (by decide)), (by have q := kt_5; have q2 := tQ_def T N i; omega)⟩
                  · skip
                    have b105 : IV x90 0 0 := ⟨by omega, by omega⟩
                    show MW p l e _ s m args below meth c _ 1 G 0 0 50 [some (.ref (G.1 12 0))] [.int x90] τ87
                    refine m_if_eq (tgt := 57) C dX6_kindAtHand_50 (by decide) (fun c106 => ?_) (fun c106 => ?_)
                    · have f107 : x90.toInt = 0 := by
                        have q : _ := c106
                        simp only [ti_nle, ti_nlt, ti_le, ti_lt, ti_eq, ti_ne, Classical.not_not, kt_0] at q
                        omega
                      refine m_iconst (v := 0) C dX6_kindAtHand_57 (by decide) ?_
                      exact m_iret C hr hlk (by decide) (by decide) dX6_kindAtHand_58 ⟨_, rfl, i88, g92, (iv_wk kc_0 (by decide)), (by have q := kt_0; have q2 := tQ_def T N i; omega)⟩
                    · exfalso
                      have q : _ := c106
                      simp only [ti_nle, ti_nlt, ti_le, ti_lt, ti_eq, ti_ne, Classical.not_not, kt_0] at q
                      have q1 := b105; have q2 := kc_0; omega
                · exfalso
                  have q : _ := c85
                  simp only [ti_nle, ti_nlt, ti_le, ti_lt, ti_eq, ti_ne, Classical.not_not, kt_0] at q
                  have q1 := b84; have q2 := kc_0; omega
            · exfalso
              have q : _ := c64
              simp only [ti_nle, ti_nlt, ti_le, ti_lt, ti_eq, ti_ne, Classical.not_not, kt_0] at q
              have q1 := b63; have q2 := kc_0; omega
        · exfalso
          have q : _ := c43
          simp only [ti_nle, ti_nlt, ti_le, ti_lt, ti_eq, ti_ne, Classical.not_not, kt_0] at q
          have q1 := b42; have q2 := kc_0; omega
    · exfalso
      have q : _ := c22
      simp only [ti_nle, ti_nlt, ti_le, ti_lt, ti_eq, ti_ne, Classical.not_not, kt_0] at q
      have q1 := b21; have q2 := kc_0; omega

abbrev MS_X6_readLawE : List (Nat × Nat) := [(1, 0), (1, 1), (12, 2), (12, 3), (12, 4), (12, 5), (12, 6), (12, 7)]
abbrev AS_X6_readLawE : List Nat := []
set_option maxHeartbeats 4000000 in
set_option maxRecDepth 100000 in
theorem c_X6_readLawE (l : Launch) (G : Gt) (σ : Sg) (T : Nat → Int) (N : Nat) (i : Nat) {j2 : Nat} (hj2 : j2 < 28) (hI : Inv σ) (hT : TpC σ T N) (hcur : ((gV σ 12 0 4).toInt = (tS T i : Int) ∧ (gV σ 12 0 5).toInt = (tE T N i : Int) ∧ (gV σ 12 0 6).toInt = tK T N i ∧ (tK T N i = 2 → (gV σ 12 0 7).toInt = tV T i))) : Mc l G yX6_readLaw cX6_readLaw 2 (some .boolean) 5 107 0 0 [.ref (G.1 12 0), .ref (G.1 1 j2)] σ (PI fun r τ => Inv τ ∧ Fr MS_X6_readLawE AS_X6_readLawE σ τ ∧ IV r 0 1 ∧ ((r.toInt = 0 ∧ lawF T N i ≠ 0 ∧ (gV τ 12 0 2).toInt = lawF T N i ∧ ((gV τ 12 0 3).toInt = lawP T N i ∧ 0 ≤ (gV τ 12 0 3).toInt ∧ (gV τ 12 0 3).toInt ≤ 400)) ∨ (r.toInt = 1 ∧ lawF T N i = 0 ∧ (gV τ 12 0 2).toInt = (gV σ 12 0 2).toInt ∧ ((gV τ 1 j2 0).toInt = tV T (tE T N i) ∧ 4 ≤ (gV τ 1 j2 0).toInt ∧ (gV τ 1 j2 0).toInt ≤ 32) ∧ ((gV τ 12 0 4).toInt = (tS T (tE T N (tE T N (tE T N (tE T N i)))) : Int) ∧ (gV τ 12 0 5).toInt = (tE T N (tE T N (tE T N (tE T N (tE T N i)))) : Int) ∧ (gV τ 12 0 6).toInt = tK T N (tE T N (tE T N (tE T N (tE T N i)))) ∧ (tK T N (tE T N (tE T N (tE T N (tE T N i)))) = 2 → (gV τ 12 0 7).toInt = tV T (tE T N (tE T N (tE T N (tE T N i))))))))) := by
  refine Mc.of (L0 := [some (.ref (G.1 12 0)), some (.ref (G.1 1 j2))]) (by decide) (Nat.le_of_ble_eq_true rfl) rfl ?_
  intro p e s m args below meth c C hr hlk
  have C : Cx p s m args c cX6_readLaw 2 "LeanTower$Reader" := C
  have k0 : (0 : Int32).toInt = 0 := by decide
  have k1 : (1 : Int32).toInt = 1 := by decide
  have u1 : IV (gV σ 12 0 4) 0 400 := hI.1 12 0 4
  have u2 : IV (gV σ 12 0 5) 0 400 := hI.1 12 0 5
  refine m_aload_n C dX6_readLaw_0 rfl rfl ?_
  refine s_ldc (w := 0) (tx := "") C rfl (by decide) rfl dX6_readLaw_1 ?_
  refine m_callV (n := 1) (ci := 5) (st := []) C (c_X6_isWordE l G σ T N i (w := 0) (by decide) hI hT (by omega)) (by decide) (by decide) rfl rfl rfl q2_89 q2_86 q2_88 q0_7 q1_2 (by decide +kernel) rfl (by decide) (by decide) rfl (Nat.le_of_ble_eq_true rfl) dX6_readLaw_3 ?_
  rintro _ τ3 ⟨x6, rfl, i4, f5, b7, h9⟩
  have g8 : Fr MS_X6_readLawE AS_X6_readLawE σ τ3 := Fr.call (Fr.rf) f5 (by decide)
  have v10 : TpC τ3 T N := hT.fr f5 (by decide) (by decide) (by simp) (by decide)
  have q11 : (gV τ3 1 j2 0).toInt = (gV σ 1 j2 0).toInt := congrArg Int32.toInt (show (gV τ3 1 j2 0) = (gV σ 1 j2 0) from (show gV τ3 1 j2 0 = (gV σ 1 j2 0) from (f5.1 1 j2 (0) (by decide) (by decide)).trans rfl))
  have q12 : (gV τ3 12 0 2).toInt = (gV σ 12 0 2).toInt := congrArg Int32.toInt (show (gV τ3 12 0 2) = (gV σ 12 0 2) from (show gV τ3 12 0 2 = (gV σ 12 0 2) from (f5.1 12 0 (2) (by decide) (by decide)).trans rfl))
  have q13 : (gV τ3 12 0 3).toInt = (gV σ 12 0 3).toInt := congrArg Int32.toInt (show (gV τ3 12 0 3) = (gV σ 12 0 3) from (show gV τ3 12 0 3 = (gV σ 12 0 3) from (f5.1 12 0 (3) (by decide) (by decide)).trans rfl))
  have q14 : (gV τ3 12 0 4).toInt = (gV σ 12 0 4).toInt := congrArg Int32.toInt (show (gV τ3 12 0 4) = (gV σ 12 0 4) from (show gV τ3 12 0 4 = (gV σ 12 0 4) from (f5.1 12 0 (4) (by decide) (by decide)).trans rfl))
  have q15 : (gV τ3 12 0 5).toInt = (gV σ 12 0 5).toInt := congrArg Int32.toInt (show (gV τ3 12 0 5) = (gV σ 12 0 5) from (show gV τ3 12 0 5 = (gV σ 12 0 5) from (f5.1 12 0 (5) (by decide) (by decide)).trans rfl))
  have q16 : (gV τ3 12 0 6).toInt = (gV σ 12 0 6).toInt := congrArg Int32.toInt (show (gV τ3 12 0 6) = (gV σ 12 0 6) from (show gV τ3 12 0 6 = (gV σ 12 0 6) from (f5.1 12 0 (6) (by decide) (by decide)).trans rfl))
  have q17 : (gV τ3 12 0 7).toInt = (gV σ 12 0 7).toInt := congrArg Int32.toInt (show (gV τ3 12 0 7) = (gV σ 12 0 7) from (show gV τ3 12 0 7 = (gV σ 12 0 7) from (f5.1 12 0 (7) (by decide) (by decide)).trans rfl))
  rcases h9 with ⟨h9_0, h9_1, h9_2⟩ | ⟨h9_0, h9_1⟩
  · skip
    have b18 : IV x6 1 1 := ⟨by omega, by omega⟩
    show MW p l e _ s m args below meth c _ 2 G 0 0 6 [some (.ref (G.1 12 0)), some (.ref (G.1 1 j2))] [.int x6] τ3
    refine m_if_ne (tgt := 15) C dX6_readLaw_6 (by decide) (fun c19 => ?_) (fun c19 => ?_)
    · have f20 : x6.toInt ≠ 0 := by
        have q : _ := c19
        simp only [ti_nle, ti_nlt, ti_le, ti_lt, ti_eq, ti_ne, Classical.not_not, kt_0] at q
        omega
      refine m_aload_n C dX6_readLaw_15 rfl rfl ?_
      refine m_callV (n := 0) (ci := 5) (st := []) C (c_X6_nextE l G τ3 T N (tE T N i)  i4 v10 (by omega)) (by decide) (by decide) rfl rfl rfl q2_63 q2_60 q2_62 q0_3 q1_2 (by decide +kernel) rfl (by decide) (by decide) rfl (Nat.le_of_ble_eq_true rfl) dX6_readLaw_16 ?_
      rintro _ τ21 ⟨rfl, i22, f23, h27⟩
      have g26 : Fr MS_X6_readLawE AS_X6_readLawE σ τ21 := Fr.call (g8) f23 (by decide)
      clear hcur
      have v28 : TpC τ21 T N := v10.fr f23 (by decide) (by decide) (by simp) (by decide)
      have u29 : IV (gV τ21 12 0 4) 0 400 := i22.1 12 0 4
      have u30 : IV (gV τ21 12 0 5) 0 400 := i22.1 12 0 5
      have q31 : (gV τ21 1 j2 0).toInt = (gV σ 1 j2 0).toInt := congrArg Int32.toInt (show (gV τ21 1 j2 0) = (gV σ 1 j2 0) from (show gV τ21 1 j2 0 = (gV σ 1 j2 0) from (f23.1 1 j2 (0) (by decide) (by decide)).trans (show gV τ3 1 j2 0 = (gV σ 1 j2 0) from (f5.1 1 j2 (0) (by decide) (by decide)).trans rfl)))
      have q32 : (gV τ21 12 0 2).toInt = (gV σ 12 0 2).toInt := congrArg Int32.toInt (show (gV τ21 12 0 2) = (gV σ 12 0 2) from (show gV τ21 12 0 2 = (gV σ 12 0 2) from (f23.1 12 0 (2) (by decide) (by decide)).trans (show gV τ3 12 0 2 = (gV σ 12 0 2) from (f5.1 12 0 (2) (by decide) (by decide)).trans rfl)))
      have q33 : (gV τ21 12 0 3).toInt = (gV σ 12 0 3).toInt := congrArg Int32.toInt (show (gV τ21 12 0 3) = (gV σ 12 0 3) from (show gV τ21 12 0 3 = (gV σ 12 0 3) from (f23.1 12 0 (3) (by decide) (by decide)).trans (show gV τ3 12 0 3 = (gV σ 12 0 3) from (f5.1 12 0 (3) (by decide) (by decide)).trans rfl)))
      show MW p l e _ s m args below meth c _ 2 G 0 0 19 [some (.ref (G.1 12 0)), some (.ref (G.1 1 j2))] [] τ21
      refine m_aload_n C dX6_readLaw_19 rfl rfl ?_
      refine m_aload_n C dX6_readLaw_20 rfl rfl ?_
      refine m_iconst (v := 4) C dX6_readLaw_21 (by decide) ?_
      refine m_bipush (v := 32) C dX6_readLaw_22 (by decide) ?_
      have q34 := kt_4
      have q35 := kt_32
      refine m_callV (n := 2) (ci := 5) (st := [.ref (G.1 1 j2)]) C (c_X6_numberE l G τ21 T N (tE T N i) (4) (32) i22 v28 (by omega)) (by decide) (by decide) rfl rfl rfl q2_145 q2_142 q2_144 q0_9 q1_2 (by decide +kernel) rfl (by decide) (by decide) rfl (Nat.le_of_ble_eq_true rfl) dX6_readLaw_24 ?_
      rintro _ τ36 ⟨x39, rfl, i37, f38, b40, h42⟩
      have g41 : Fr MS_X6_readLawE AS_X6_readLawE σ τ36 := Fr.call (g26) f38 (by decide)
      clear h27
      have v43 : TpC τ36 T N := v28.fr f38 (by decide) (by decide) (by simp) (by decide)
      have u44 : IV (gV τ36 12 0 4) 0 400 := i37.1 12 0 4
      have u45 : IV (gV τ36 12 0 5) 0 400 := i37.1 12 0 5
      have q46 : (gV τ36 1 j2 0).toInt = (gV σ 1 j2 0).toInt := congrArg Int32.toInt (show (gV τ36 1 j2 0) = (gV σ 1 j2 0) from (show gV τ36 1 j2 0 = (gV σ 1 j2 0) from (f38.1 1 j2 (0) (by decide) (by decide)).trans (show gV τ21 1 j2 0 = (gV σ 1 j2 0) from (f23.1 1 j2 (0) (by decide) (by decide)).trans (show gV τ3 1 j2 0 = (gV σ 1 j2 0) from (f5.1 1 j2 (0) (by decide) (by decide)).trans rfl))))
      rcases h42 with ⟨h42_0, h42_1, h42_2, h42_3⟩ | ⟨h42_0, h42_1, h42_2, h42_3, h42_4⟩ | ⟨h42_0, h42_1, h42_2, h42_3, h42_4, h42_5⟩
      · skip
        have b47 : IV x39 (-1) (-1) := ⟨by omega, by omega⟩
        show MW p l e _ s m args below meth c _ 2 G 0 0 27 [some (.ref (G.1 12 0)), some (.ref (G.1 1 j2))] [.int x39, .ref (G.1 1 j2)] τ36
        refine p_1_0 C hj2 q1_75 dX6_readLaw_27 ?_
        refine m_tops (fun τ48 eτ48 => ?_)
        have i49 : Inv τ48 := eτ48 ▸ Inv.putF i37 (by decide) rfl
        have f50 : Fr MS_X6_readLawE AS_X6_readLawE σ τ48 := eτ48 ▸ Fr.put (g41) (Or.inl (by decide))
        have v51 : TpC τ48 T N := v43.put eτ48 (Or.inl (by decide)) (by decide)
        refine m_aload_n C dX6_readLaw_30 rfl rfl ?_
        refine g_1_0 C hj2 q1_75 dX6_readLaw_31 ?_
        refine m_eqs (w := x39) (show gV τ48 1 j2 0 = x39 from gV_put eτ48 (gV_self _ _ _ _ _)) ?_
        refine m_iconst (v := (-1)) C dX6_readLaw_34 (by decide) ?_
        refine m_icmp_ne (tgt := 40) C dX6_readLaw_35 (by decide) (fun c52 => ?_) (fun c52 => ?_)
        · exfalso
          have q : _ := c52
          simp only [ti_nle, ti_nlt, ti_le, ti_lt, ti_eq, ti_ne, Classical.not_not, kt_m1] at q
          have q1 := b47; have q2 := kc_m1; omega
        · have f54 : x39.toInt = -1 := by
            have q : _ := c52
            simp only [ti_nle, ti_nlt, ti_le, ti_lt, ti_eq, ti_ne, Classical.not_not, kt_m1] at q
            omega
          refine m_iconst (v := 0) C dX6_readLaw_38 (by decide) ?_
          have q55 : (gV τ48 12 0 2).toInt = (gV τ36 12 0 2).toInt := congrArg Int32.toInt (show (gV τ48 12 0 2) = (gV τ36 12 0 2) from (show gV τ48 12 0 2 = (gV τ36 12 0 2) from gV_put eτ48 rfl))
          have q56 : (gV τ48 12 0 3).toInt = (gV τ36 12 0 3).toInt := congrArg Int32.toInt (show (gV τ48 12 0 3) = (gV τ36 12 0 3) from (show gV τ48 12 0 3 = (gV τ36 12 0 3) from gV_put eτ48 rfl))
          have q57 : (gV τ48 12 0 4).toInt = (gV τ36 12 0 4).toInt := congrArg Int32.toInt (show (gV τ48 12 0 4) = (gV τ36 12 0 4) from (show gV τ48 12 0 4 = (gV τ36 12 0 4) from gV_put eτ48 rfl))
          have q58 : (gV τ48 12 0 5).toInt = (gV τ36 12 0 5).toInt := congrArg Int32.toInt (show (gV τ48 12 0 5) = (gV τ36 12 0 5) from (show gV τ48 12 0 5 = (gV τ36 12 0 5) from gV_put eτ48 rfl))
          have q59 : (gV τ48 12 0 6).toInt = (gV τ36 12 0 6).toInt := congrArg Int32.toInt (show (gV τ48 12 0 6) = (gV τ36 12 0 6) from (show gV τ48 12 0 6 = (gV τ36 12 0 6) from gV_put eτ48 rfl))
          have q60 : (gV τ48 12 0 7).toInt = (gV τ36 12 0 7).toInt := congrArg Int32.toInt (show (gV τ48 12 0 7) = (gV τ36 12 0 7) from (show gV τ48 12 0 7 = (gV τ36 12 0 7) from gV_put eτ48 rfl))
          have q61 : (gV τ48 1 j2 0).toInt = x39.toInt := congrArg Int32.toInt (show (gV τ48 1 j2 0) = x39 from (show gV τ48 1 j2 0 = x39 from gV_put eτ48 (gV_self _ _ _ _ _)))
          exact m_zret C hr rfl hlk (by decide) (by decide) dX6_readLaw_39 ⟨_, rfl, i49, f50, (iv_wk kc_0 (by decide)), (by have qd := law_1 T N i (by omega) (by omega); have qk := kt_0; refine Or.inl ⟨by omega, by omega, by omega, by omega⟩)⟩
      · skip
        have b62 : IV x39 (-1) (-1) := ⟨by omega, by omega⟩
        show MW p l e _ s m args below meth c _ 2 G 0 0 27 [some (.ref (G.1 12 0)), some (.ref (G.1 1 j2))] [.int x39, .ref (G.1 1 j2)] τ36
        refine p_1_0 C hj2 q1_75 dX6_readLaw_27 ?_
        refine m_tops (fun τ63 eτ63 => ?_)
        have i64 : Inv τ63 := eτ63 ▸ Inv.putF i37 (by decide) rfl
        have f65 : Fr MS_X6_readLawE AS_X6_readLawE σ τ63 := eτ63 ▸ Fr.put (g41) (Or.inl (by decide))
        have v66 : TpC τ63 T N := v43.put eτ63 (Or.inl (by decide)) (by decide)
        refine m_aload_n C dX6_readLaw_30 rfl rfl ?_
        refine g_1_0 C hj2 q1_75 dX6_readLaw_31 ?_
        refine m_eqs (w := x39) (show gV τ63 1 j2 0 = x39 from gV_put eτ63 (gV_self _ _ _ _ _)) ?_
        refine m_iconst (v := (-1)) C dX6_readLaw_34 (by decide) ?_
        refine m_icmp_ne (tgt := 40) C dX6_readLaw_35 (by decide) (fun c67 => ?_) (fun c67 => ?_)
        · exfalso
          have q : _ := c67
          simp only [ti_nle, ti_nlt, ti_le, ti_lt, ti_eq, ti_ne, Classical.not_not, kt_m1] at q
          have q1 := b62; have q2 := kc_m1; omega
        · have f69 : x39.toInt = -1 := by
            have q : _ := c67
            simp only [ti_nle, ti_nlt, ti_le, ti_lt, ti_eq, ti_ne, Classical.not_not, kt_m1] at q
            omega
          refine m_iconst (v := 0) C dX6_readLaw_38 (by decide) ?_
          have q70 : (gV τ63 12 0 2).toInt = (gV τ36 12 0 2).toInt := congrArg Int32.toInt (show (gV τ63 12 0 2) = (gV τ36 12 0 2) from (show gV τ63 12 0 2 = (gV τ36 12 0 2) from gV_put eτ63 rfl))
          have q71 : (gV τ63 12 0 3).toInt = (gV τ36 12 0 3).toInt := congrArg Int32.toInt (show (gV τ63 12 0 3) = (gV τ36 12 0 3) from (show gV τ63 12 0 3 = (gV τ36 12 0 3) from gV_put eτ63 rfl))
          have q72 : (gV τ63 12 0 4).toInt = (gV τ36 12 0 4).toInt := congrArg Int32.toInt (show (gV τ63 12 0 4) = (gV τ36 12 0 4) from (show gV τ63 12 0 4 = (gV τ36 12 0 4) from gV_put eτ63 rfl))
          have q73 : (gV τ63 12 0 5).toInt = (gV τ36 12 0 5).toInt := congrArg Int32.toInt (show (gV τ63 12 0 5) = (gV τ36 12 0 5) from (show gV τ63 12 0 5 = (gV τ36 12 0 5) from gV_put eτ63 rfl))
          have q74 : (gV τ63 12 0 6).toInt = (gV τ36 12 0 6).toInt := congrArg Int32.toInt (show (gV τ63 12 0 6) = (gV τ36 12 0 6) from (show gV τ63 12 0 6 = (gV τ36 12 0 6) from gV_put eτ63 rfl))
          have q75 : (gV τ63 12 0 7).toInt = (gV τ36 12 0 7).toInt := congrArg Int32.toInt (show (gV τ63 12 0 7) = (gV τ36 12 0 7) from (show gV τ63 12 0 7 = (gV τ36 12 0 7) from gV_put eτ63 rfl))
          have q76 : (gV τ63 1 j2 0).toInt = x39.toInt := congrArg Int32.toInt (show (gV τ63 1 j2 0) = x39 from (show gV τ63 1 j2 0 = x39 from gV_put eτ63 (gV_self _ _ _ _ _)))
          exact m_zret C hr rfl hlk (by decide) (by decide) dX6_readLaw_39 ⟨_, rfl, i64, f65, (iv_wk kc_0 (by decide)), (by have qd := law_2 T N i (by omega) (by omega) (by omega); have qk := kt_0; refine Or.inl ⟨by omega, by omega, by omega, by omega⟩)⟩
      · skip
        show MW p l e _ s m args below meth c _ 2 G 0 0 27 [some (.ref (G.1 12 0)), some (.ref (G.1 1 j2))] [.int x39, .ref (G.1 1 j2)] τ36
        refine p_1_0 C hj2 q1_75 dX6_readLaw_27 ?_
        refine m_tops (fun τ77 eτ77 => ?_)
        have i78 : Inv τ77 := eτ77 ▸ Inv.putF i37 (by decide) rfl
        have f79 : Fr MS_X6_readLawE AS_X6_readLawE σ τ77 := eτ77 ▸ Fr.put (g41) (Or.inl (by decide))
        have v80 : TpC τ77 T N := v43.put eτ77 (Or.inl (by decide)) (by decide)
        refine m_aload_n C dX6_readLaw_30 rfl rfl ?_
        refine g_1_0 C hj2 q1_75 dX6_readLaw_31 ?_
        refine m_eqs (w := x39) (show gV τ77 1 j2 0 = x39 from gV_put eτ77 (gV_self _ _ _ _ _)) ?_
        refine m_iconst (v := (-1)) C dX6_readLaw_34 (by decide) ?_
        refine m_icmp_ne (tgt := 40) C dX6_readLaw_35 (by decide) (fun c81 => ?_) (fun c81 => ?_)
        · have f82 : x39.toInt ≠ -1 := by
            have q : _ := c81
            simp only [ti_nle, ti_nlt, ti_le, ti_lt, ti_eq, ti_ne, Classical.not_not, kt_m1] at q
            omega
          refine m_aload_n C dX6_readLaw_40 rfl rfl ?_
          refine m_aload_n C dX6_readLaw_41 rfl rfl ?_
          refine m_iconst (v := 1) C dX6_readLaw_42 (by decide) ?_
          refine m_bipush (v := 99) C dX6_readLaw_43 (by decide) ?_
          have q83 : (gV τ77 12 0 2).toInt = (gV τ36 12 0 2).toInt := congrArg Int32.toInt (show (gV τ77 12 0 2) = (gV τ36 12 0 2) from (show gV τ77 12 0 2 = (gV τ36 12 0 2) from gV_put eτ77 rfl))
          have q84 : (gV τ77 12 0 3).toInt = (gV τ36 12 0 3).toInt := congrArg Int32.toInt (show (gV τ77 12 0 3) = (gV τ36 12 0 3) from (show gV τ77 12 0 3 = (gV τ36 12 0 3) from gV_put eτ77 rfl))
          have q85 : (gV τ77 12 0 4).toInt = (gV τ36 12 0 4).toInt := congrArg Int32.toInt (show (gV τ77 12 0 4) = (gV τ36 12 0 4) from (show gV τ77 12 0 4 = (gV τ36 12 0 4) from gV_put eτ77 rfl))
          have q86 : (gV τ77 12 0 5).toInt = (gV τ36 12 0 5).toInt := congrArg Int32.toInt (show (gV τ77 12 0 5) = (gV τ36 12 0 5) from (show gV τ77 12 0 5 = (gV τ36 12 0 5) from gV_put eτ77 rfl))
          have q87 : (gV τ77 12 0 6).toInt = (gV τ36 12 0 6).toInt := congrArg Int32.toInt (show (gV τ77 12 0 6) = (gV τ36 12 0 6) from (show gV τ77 12 0 6 = (gV τ36 12 0 6) from gV_put eτ77 rfl))
          have q88 : (gV τ77 12 0 7).toInt = (gV τ36 12 0 7).toInt := congrArg Int32.toInt (show (gV τ77 12 0 7) = (gV τ36 12 0 7) from (show gV τ77 12 0 7 = (gV τ36 12 0 7) from gV_put eτ77 rfl))
          have q89 : (gV τ77 1 j2 0).toInt = x39.toInt := congrArg Int32.toInt (show (gV τ77 1 j2 0) = x39 from (show gV τ77 1 j2 0 = x39 from gV_put eτ77 (gV_self _ _ _ _ _)))
          have q90 := kt_1
          have q91 := kt_99
          refine m_callV (n := 2) (ci := 5) (st := [.ref (G.1 1 j2)]) C (c_X6_numberE l G τ77 T N (tE T N (tE T N i)) (1) (99) i78 v80 (by omega)) (by decide) (by decide) rfl rfl rfl q2_145 q2_142 q2_144 q0_9 q1_2 (by decide +kernel) rfl (by decide) (by decide) rfl (Nat.le_of_ble_eq_true rfl) dX6_readLaw_45 ?_
          rintro _ τ92 ⟨x95, rfl, i93, f94, b96, h98⟩
          have g97 : Fr MS_X6_readLawE AS_X6_readLawE σ τ92 := Fr.call (f79) f94 (by decide)
          clear h42_5
          have v99 : TpC τ92 T N := v80.fr f94 (by decide) (by decide) (by simp) (by decide)
          have u100 : IV (gV τ92 12 0 4) 0 400 := i93.1 12 0 4
          have u101 : IV (gV τ92 12 0 5) 0 400 := i93.1 12 0 5
          have q102 : (gV τ92 1 j2 0).toInt = x39.toInt := congrArg Int32.toInt (show (gV τ92 1 j2 0) = x39 from (show gV τ92 1 j2 0 = x39 from (f94.1 1 j2 (0) (by decide) (by decide)).trans (show gV τ77 1 j2 0 = x39 from gV_put eτ77 (gV_self _ _ _ _ _))))
          rcases h98 with ⟨h98_0, h98_1, h98_2, h98_3⟩ | ⟨h98_0, h98_1, h98_2, h98_3, h98_4⟩ | ⟨h98_0, h98_1, h98_2, h98_3, h98_4, h98_5⟩
          · skip
            have b103 : IV x95 (-1) (-1) := ⟨by omega, by omega⟩
            show MW p l e _ s m args below meth c _ 2 G 0 0 48 [some (.ref (G.1 12 0)), some (.ref (G.1 1 j2))] [.int x95, .ref (G.1 1 j2)] τ92
            refine p_1_1 C hj2 q1_78 dX6_readLaw_48 ?_
            refine m_tops (fun τ104 eτ104 => ?_)
            have i105 : Inv τ104 := eτ104 ▸ Inv.putF i93 (by decide) rfl
            have f106 : Fr MS_X6_readLawE AS_X6_readLawE σ τ104 := eτ104 ▸ Fr.put (g97) (Or.inl (by decide))
            have v107 : TpC τ104 T N := v99.put eτ104 (Or.inl (by decide)) (by decide)
            refine m_aload_n C dX6_readLaw_51 rfl rfl ?_
            refine g_1_1 C hj2 q1_78 dX6_readLaw_52 ?_
            refine m_eqs (w := x95) (show gV τ104 1 j2 1 = x95 from gV_put eτ104 (gV_self _ _ _ _ _)) ?_
            refine m_iconst (v := (-1)) C dX6_readLaw_55 (by decide) ?_
            refine m_icmp_eq (tgt := 70) C dX6_readLaw_56 (by decide) (fun c108 => ?_) (fun c108 => ?_)
            · have f109 : x95.toInt = -1 := by
                have q : _ := c108
                simp only [ti_nle, ti_nlt, ti_le, ti_lt, ti_eq, ti_ne, Classical.not_not, kt_m1] at q
                omega
              refine m_iconst (v := 0) C dX6_readLaw_70 (by decide) ?_
              have q110 : (gV τ104 1 j2 0).toInt = x39.toInt := congrArg Int32.toInt (show (gV τ104 1 j2 0) = x39 from (show gV τ104 1 j2 0 = x39 from gV_put eτ104 (show gV τ92 1 j2 0 = x39 from (f94.1 1 j2 (0) (by decide) (by decide)).trans (show gV τ77 1 j2 0 = x39 from gV_put eτ77 (gV_self _ _ _ _ _)))))
              have q111 : (gV τ104 12 0 2).toInt = (gV τ92 12 0 2).toInt := congrArg Int32.toInt (show (gV τ104 12 0 2) = (gV τ92 12 0 2) from (show gV τ104 12 0 2 = (gV τ92 12 0 2) from gV_put eτ104 rfl))
              have q112 : (gV τ104 12 0 3).toInt = (gV τ92 12 0 3).toInt := congrArg Int32.toInt (show (gV τ104 12 0 3) = (gV τ92 12 0 3) from (show gV τ104 12 0 3 = (gV τ92 12 0 3) from gV_put eτ104 rfl))
              have q113 : (gV τ104 12 0 4).toInt = (gV τ92 12 0 4).toInt := congrArg Int32.toInt (show (gV τ104 12 0 4) = (gV τ92 12 0 4) from (show gV τ104 12 0 4 = (gV τ92 12 0 4) from gV_put eτ104 rfl))
              have q114 : (gV τ104 12 0 5).toInt = (gV τ92 12 0 5).toInt := congrArg Int32.toInt (show (gV τ104 12 0 5) = (gV τ92 12 0 5) from (show gV τ104 12 0 5 = (gV τ92 12 0 5) from gV_put eτ104 rfl))
              have q115 : (gV τ104 12 0 6).toInt = (gV τ92 12 0 6).toInt := congrArg Int32.toInt (show (gV τ104 12 0 6) = (gV τ92 12 0 6) from (show gV τ104 12 0 6 = (gV τ92 12 0 6) from gV_put eτ104 rfl))
              have q116 : (gV τ104 12 0 7).toInt = (gV τ92 12 0 7).toInt := congrArg Int32.toInt (show (gV τ104 12 0 7) = (gV τ92 12 0 7) from (show gV τ104 12 0 7 = (gV τ92 12 0 7) from gV_put eτ104 rfl))
              exact m_zret C hr rfl hlk (by decide) (by decide) dX6_readLaw_71 ⟨_, rfl, i105, f106, (iv_wk kc_0 (by decide)), (by have qd := law_3 T N i (by omega) (by omega) (by omega) (by omega); have qk := kt_0; refine Or.inl ⟨by omega, by omega, by omega, by omega⟩)⟩
            · exfalso
              have q : _ := c108
              simp only [ti_nle, ti_nlt, ti_le, ti_lt, ti_eq, ti_ne, Classical.not_not, kt_m1] at q
              have q1 := b103; have q2 := kc_m1; omega
          · skip
            have b118 : IV x95 (-1) (-1) := ⟨by omega, by omega⟩
            show MW p l e _ s m args below meth c _ 2 G 0 0 48 [some (.ref (G.1 12 0)), some (.ref (G.1 1 j2))] [.int x95, .ref (G.1 1 j2)] τ92
            refine p_1_1 C hj2 q1_78 dX6_readLaw_48 ?_
            refine m_tops (fun τ119 eτ119 => ?_)
            have i120 : Inv τ119 := eτ119 ▸ Inv.putF i93 (by decide) rfl
            have f121 : Fr MS_X6_readLawE AS_X6_readLawE σ τ119 := eτ119 ▸ Fr.put (g97) (Or.inl (by decide))
            have v122 : TpC τ119 T N := v99.put eτ119 (Or.inl (by decide)) (by decide)
            refine m_aload_n C dX6_readLaw_51 rfl rfl ?_
            refine g_1_1 C hj2 q1_78 dX6_readLaw_52 ?_
            refine m_eqs (w := x95) (show gV τ119 1 j2 1 = x95 from gV_put eτ119 (gV_self _ _ _ _ _)) ?_
            refine m_iconst (v := (-1)) C dX6_readLaw_55 (by decide) ?_
            refine m_icmp_eq (tgt := 70) C dX6_readLaw_56 (by decide) (fun c123 => ?_) (fun c123 => ?_)
            · have f124 : x95.toInt = -1 := by
                have q : _ := c123
                simp only [ti_nle, ti_nlt, ti_le, ti_lt, ti_eq, ti_ne, Classical.not_not, kt_m1] at q
                omega
              refine m_iconst (v := 0) C dX6_readLaw_70 (by decide) ?_
              have q125 : (gV τ119 1 j2 0).toInt = x39.toInt := congrArg Int32.toInt (show (gV τ119 1 j2 0) = x39 from (show gV τ119 1 j2 0 = x39 from gV_put eτ119 (show gV τ92 1 j2 0 = x39 from (f94.1 1 j2 (0) (by decide) (by decide)).trans (show gV τ77 1 j2 0 = x39 from gV_put eτ77 (gV_self _ _ _ _ _)))))
              have q126 : (gV τ119 12 0 2).toInt = (gV τ92 12 0 2).toInt := congrArg Int32.toInt (show (gV τ119 12 0 2) = (gV τ92 12 0 2) from (show gV τ119 12 0 2 = (gV τ92 12 0 2) from gV_put eτ119 rfl))
              have q127 : (gV τ119 12 0 3).toInt = (gV τ92 12 0 3).toInt := congrArg Int32.toInt (show (gV τ119 12 0 3) = (gV τ92 12 0 3) from (show gV τ119 12 0 3 = (gV τ92 12 0 3) from gV_put eτ119 rfl))
              have q128 : (gV τ119 12 0 4).toInt = (gV τ92 12 0 4).toInt := congrArg Int32.toInt (show (gV τ119 12 0 4) = (gV τ92 12 0 4) from (show gV τ119 12 0 4 = (gV τ92 12 0 4) from gV_put eτ119 rfl))
              have q129 : (gV τ119 12 0 5).toInt = (gV τ92 12 0 5).toInt := congrArg Int32.toInt (show (gV τ119 12 0 5) = (gV τ92 12 0 5) from (show gV τ119 12 0 5 = (gV τ92 12 0 5) from gV_put eτ119 rfl))
              have q130 : (gV τ119 12 0 6).toInt = (gV τ92 12 0 6).toInt := congrArg Int32.toInt (show (gV τ119 12 0 6) = (gV τ92 12 0 6) from (show gV τ119 12 0 6 = (gV τ92 12 0 6) from gV_put eτ119 rfl))
              have q131 : (gV τ119 12 0 7).toInt = (gV τ92 12 0 7).toInt := congrArg Int32.toInt (show (gV τ119 12 0 7) = (gV τ92 12 0 7) from (show gV τ119 12 0 7 = (gV τ92 12 0 7) from gV_put eτ119 rfl))
              exact m_zret C hr rfl hlk (by decide) (by decide) dX6_readLaw_71 ⟨_, rfl, i120, f121, (iv_wk kc_0 (by decide)), (by have qd := law_4 T N i (by omega) (by omega) (by omega) (by omega) (by omega); have qk := kt_0; refine Or.inl ⟨by omega, by omega, by omega, by omega⟩)⟩
            · exfalso
              have q : _ := c123
              simp only [ti_nle, ti_nlt, ti_le, ti_lt, ti_eq, ti_ne, Classical.not_not, kt_m1] at q
              have q1 := b118; have q2 := kc_m1; omega
          · skip
            show MW p l e _ s m args below meth c _ 2 G 0 0 48 [some (.ref (G.1 12 0)), some (.ref (G.1 1 j2))] [.int x95, .ref (G.1 1 j2)] τ92
            refine p_1_1 C hj2 q1_78 dX6_readLaw_48 ?_
            refine m_tops (fun τ133 eτ133 => ?_)
            have i134 : Inv τ133 := eτ133 ▸ Inv.putF i93 (by decide) rfl
            have f135 : Fr MS_X6_readLawE AS_X6_readLawE σ τ133 := eτ133 ▸ Fr.put (g97) (Or.inl (by decide))
            have v136 : TpC τ133 T N := v99.put eτ133 (Or.inl (by decide)) (by decide)
            refine m_aload_n C dX6_readLaw_51 rfl rfl ?_
            refine g_1_1 C hj2 q1_78 dX6_readLaw_52 ?_
            refine m_eqs (w := x95) (show gV τ133 1 j2 1 = x95 from gV_put eτ133 (gV_self _ _ _ _ _)) ?_
            refine m_iconst (v := (-1)) C dX6_readLaw_55 (by decide) ?_
            refine m_icmp_eq (tgt := 70) C dX6_readLaw_56 (by decide) (fun c137 => ?_) (fun c137 => ?_)
            · have f138 : x95.toInt = -1 := by
                have q : _ := c137
                simp only [ti_nle, ti_nlt, ti_le, ti_lt, ti_eq, ti_ne, Classical.not_not, kt_m1] at q
                omega
              have b139 : IV x95 (-1) (-1) := ⟨by have q1 := b96; have q2 := kc_m1; omega, by have q1 := b96; have q2 := kc_m1; omega⟩
              refine m_iconst (v := 0) C dX6_readLaw_70 (by decide) ?_
              have q140 : (gV τ133 1 j2 0).toInt = x39.toInt := congrArg Int32.toInt (show (gV τ133 1 j2 0) = x39 from (show gV τ133 1 j2 0 = x39 from gV_put eτ133 (show gV τ92 1 j2 0 = x39 from (f94.1 1 j2 (0) (by decide) (by decide)).trans (show gV τ77 1 j2 0 = x39 from gV_put eτ77 (gV_self _ _ _ _ _)))))
              have q141 : (gV τ133 12 0 2).toInt = (gV τ92 12 0 2).toInt := congrArg Int32.toInt (show (gV τ133 12 0 2) = (gV τ92 12 0 2) from (show gV τ133 12 0 2 = (gV τ92 12 0 2) from gV_put eτ133 rfl))
              have q142 : (gV τ133 12 0 3).toInt = (gV τ92 12 0 3).toInt := congrArg Int32.toInt (show (gV τ133 12 0 3) = (gV τ92 12 0 3) from (show gV τ133 12 0 3 = (gV τ92 12 0 3) from gV_put eτ133 rfl))
              have q143 : (gV τ133 12 0 4).toInt = (gV τ92 12 0 4).toInt := congrArg Int32.toInt (show (gV τ133 12 0 4) = (gV τ92 12 0 4) from (show gV τ133 12 0 4 = (gV τ92 12 0 4) from gV_put eτ133 rfl))
              have q144 : (gV τ133 12 0 5).toInt = (gV τ92 12 0 5).toInt := congrArg Int32.toInt (show (gV τ133 12 0 5) = (gV τ92 12 0 5) from (show gV τ133 12 0 5 = (gV τ92 12 0 5) from gV_put eτ133 rfl))
              have q145 : (gV τ133 12 0 6).toInt = (gV τ92 12 0 6).toInt := congrArg Int32.toInt (show (gV τ133 12 0 6) = (gV τ92 12 0 6) from (show gV τ133 12 0 6 = (gV τ92 12 0 6) from gV_put eτ133 rfl))
              have q146 : (gV τ133 12 0 7).toInt = (gV τ92 12 0 7).toInt := congrArg Int32.toInt (show (gV τ133 12 0 7) = (gV τ92 12 0 7) from (show gV τ133 12 0 7 = (gV τ92 12 0 7) from gV_put eτ133 rfl))
              exact m_zret C hr rfl hlk (by decide) (by decide) dX6_readLaw_71 ⟨_, rfl, i134, f135, (iv_wk kc_0 (by decide)), (by have qd := law_ok T N i (by omega) (by omega) (by omega) (by omega) (by omega) (by omega); have qk := kt_0; refine Or.inl ⟨by omega, by omega, by omega, by omega⟩)⟩
            · have f147 : x95.toInt ≠ -1 := by
                have q : _ := c137
                simp only [ti_nle, ti_nlt, ti_le, ti_lt, ti_eq, ti_ne, Classical.not_not, kt_m1] at q
                omega
              refine m_aload_n C dX6_readLaw_59 rfl rfl ?_
              have q148 : (gV τ133 1 j2 0).toInt = x39.toInt := congrArg Int32.toInt (show (gV τ133 1 j2 0) = x39 from (show gV τ133 1 j2 0 = x39 from gV_put eτ133 (show gV τ92 1 j2 0 = x39 from (f94.1 1 j2 (0) (by decide) (by decide)).trans (show gV τ77 1 j2 0 = x39 from gV_put eτ77 (gV_self _ _ _ _ _)))))
              have q149 : (gV τ133 12 0 2).toInt = (gV τ92 12 0 2).toInt := congrArg Int32.toInt (show (gV τ133 12 0 2) = (gV τ92 12 0 2) from (show gV τ133 12 0 2 = (gV τ92 12 0 2) from gV_put eτ133 rfl))
              have q150 : (gV τ133 12 0 3).toInt = (gV τ92 12 0 3).toInt := congrArg Int32.toInt (show (gV τ133 12 0 3) = (gV τ92 12 0 3) from (show gV τ133 12 0 3 = (gV τ92 12 0 3) from gV_put eτ133 rfl))
              have q151 : (gV τ133 12 0 4).toInt = (gV τ92 12 0 4).toInt := congrArg Int32.toInt (show (gV τ133 12 0 4) = (gV τ92 12 0 4) from (show gV τ133 12 0 4 = (gV τ92 12 0 4) from gV_put eτ133 rfl))
              have q152 : (gV τ133 12 0 5).toInt = (gV τ92 12 0 5).toInt := congrArg Int32.toInt (show (gV τ133 12 0 5) = (gV τ92 12 0 5) from (show gV τ133 12 0 5 = (gV τ92 12 0 5) from gV_put eτ133 rfl))
              have q153 : (gV τ133 12 0 6).toInt = (gV τ92 12 0 6).toInt := congrArg Int32.toInt (show (gV τ133 12 0 6) = (gV τ92 12 0 6) from (show gV τ133 12 0 6 = (gV τ92 12 0 6) from gV_put eτ133 rfl))
              have q154 : (gV τ133 12 0 7).toInt = (gV τ92 12 0 7).toInt := congrArg Int32.toInt (show (gV τ133 12 0 7) = (gV τ92 12 0 7) from (show gV τ133 12 0 7 = (gV τ92 12 0 7) from gV_put eτ133 rfl))
              refine m_callV (n := 0) (ci := 5) (st := []) C (c_X6_passSemicolonE l G τ133 T N (tE T N (tE T N (tE T N i)))  i134 v136 (by omega)) (by decide) (by decide) rfl rfl rfl q2_149 q2_146 q2_148 q0_10 q1_2 (by decide +kernel) rfl (by decide) (by decide) rfl (Nat.le_of_ble_eq_true rfl) dX6_readLaw_60 ?_
              rintro _ τ155 ⟨x158, rfl, i156, f157, b159, h161⟩
              have g160 : Fr MS_X6_readLawE AS_X6_readLawE σ τ155 := Fr.call (f135) f157 (by decide)
              clear h98_5
              have v162 : TpC τ155 T N := v136.fr f157 (by decide) (by decide) (by simp) (by decide)
              have u163 : IV (gV τ155 12 0 4) 0 400 := i156.1 12 0 4
              have u164 : IV (gV τ155 12 0 5) 0 400 := i156.1 12 0 5
              have q165 : (gV τ155 1 j2 0).toInt = x39.toInt := congrArg Int32.toInt (show (gV τ155 1 j2 0) = x39 from (show gV τ155 1 j2 0 = x39 from (f157.1 1 j2 (0) (by decide) (by decide)).trans (show gV τ133 1 j2 0 = x39 from gV_put eτ133 (show gV τ92 1 j2 0 = x39 from (f94.1 1 j2 (0) (by decide) (by decide)).trans (show gV τ77 1 j2 0 = x39 from gV_put eτ77 (gV_self _ _ _ _ _))))))
              rcases h161 with ⟨h161_0, h161_1, h161_2, h161_3⟩ | ⟨h161_0, h161_1, h161_2, h161_3⟩
              · skip
                have b166 : IV x158 0 0 := ⟨by omega, by omega⟩
                show MW p l e _ s m args below meth c _ 2 G 0 0 63 [some (.ref (G.1 12 0)), some (.ref (G.1 1 j2))] [.int x158] τ155
                refine m_if_eq (tgt := 70) C dX6_readLaw_63 (by decide) (fun c167 => ?_) (fun c167 => ?_)
                · have f168 : x158.toInt = 0 := by
                    have q : _ := c167
                    simp only [ti_nle, ti_nlt, ti_le, ti_lt, ti_eq, ti_ne, Classical.not_not, kt_0] at q
                    omega
                  refine m_iconst (v := 0) C dX6_readLaw_70 (by decide) ?_
                  exact m_zret C hr rfl hlk (by decide) (by decide) dX6_readLaw_71 ⟨_, rfl, i156, g160, (iv_wk kc_0 (by decide)), (by have qd := law_5 T N i (by omega) (by omega) (by omega) (by omega) (by omega) (by omega); have qk := kt_0; refine Or.inl ⟨by omega, by omega, by omega, by omega⟩)⟩
                · exfalso
                  have q : _ := c167
                  simp only [ti_nle, ti_nlt, ti_le, ti_lt, ti_eq, ti_ne, Classical.not_not, kt_0] at q
                  have q1 := b166; have q2 := kc_0; omega
              · skip
                have b170 : IV x158 1 1 := ⟨by omega, by omega⟩
                show MW p l e _ s m args below meth c _ 2 G 0 0 63 [some (.ref (G.1 12 0)), some (.ref (G.1 1 j2))] [.int x158] τ155
                refine m_if_eq (tgt := 70) C dX6_readLaw_63 (by decide) (fun c171 => ?_) (fun c171 => ?_)
                · exfalso
                  have q : _ := c171
                  simp only [ti_nle, ti_nlt, ti_le, ti_lt, ti_eq, ti_ne, Classical.not_not, kt_0] at q
                  have q1 := b170; have q2 := kc_0; omega
                · have f173 : x158.toInt ≠ 0 := by
                    have q : _ := c171
                    simp only [ti_nle, ti_nlt, ti_le, ti_lt, ti_eq, ti_ne, Classical.not_not, kt_0] at q
                    omega
                  refine m_iconst (v := 1) C dX6_readLaw_66 (by decide) ?_
                  refine m_goto (tgt := 71) C dX6_readLaw_67 (by decide) ?_
                  exact m_zret C hr rfl hlk (by decide) (by decide) dX6_readLaw_71 ⟨_, rfl, i156, g160, (iv_wk kc_1 (by decide)), (by have qd := law_ok T N i (by omega) (by omega) (by omega) (by omega) (by omega) (by omega); have qk := kt_1; refine Or.inr ⟨by omega, by omega, by omega, by omega, by omega⟩)⟩
        · have f174 : x39.toInt = -1 := by
            have q : _ := c81
            simp only [ti_nle, ti_nlt, ti_le, ti_lt, ti_eq, ti_ne, Classical.not_not, kt_m1] at q
            omega
          have b175 : IV x39 (-1) (-1) := ⟨by have q1 := b40; have q2 := kc_m1; omega, by have q1 := b40; have q2 := kc_m1; omega⟩
          refine m_iconst (v := 0) C dX6_readLaw_38 (by decide) ?_
          have q176 : (gV τ77 12 0 2).toInt = (gV τ36 12 0 2).toInt := congrArg Int32.toInt (show (gV τ77 12 0 2) = (gV τ36 12 0 2) from (show gV τ77 12 0 2 = (gV τ36 12 0 2) from gV_put eτ77 rfl))
          have q177 : (gV τ77 12 0 3).toInt = (gV τ36 12 0 3).toInt := congrArg Int32.toInt (show (gV τ77 12 0 3) = (gV τ36 12 0 3) from (show gV τ77 12 0 3 = (gV τ36 12 0 3) from gV_put eτ77 rfl))
          have q178 : (gV τ77 12 0 4).toInt = (gV τ36 12 0 4).toInt := congrArg Int32.toInt (show (gV τ77 12 0 4) = (gV τ36 12 0 4) from (show gV τ77 12 0 4 = (gV τ36 12 0 4) from gV_put eτ77 rfl))
          have q179 : (gV τ77 12 0 5).toInt = (gV τ36 12 0 5).toInt := congrArg Int32.toInt (show (gV τ77 12 0 5) = (gV τ36 12 0 5) from (show gV τ77 12 0 5 = (gV τ36 12 0 5) from gV_put eτ77 rfl))
          have q180 : (gV τ77 12 0 6).toInt = (gV τ36 12 0 6).toInt := congrArg Int32.toInt (show (gV τ77 12 0 6) = (gV τ36 12 0 6) from (show gV τ77 12 0 6 = (gV τ36 12 0 6) from gV_put eτ77 rfl))
          have q181 : (gV τ77 12 0 7).toInt = (gV τ36 12 0 7).toInt := congrArg Int32.toInt (show (gV τ77 12 0 7) = (gV τ36 12 0 7) from (show gV τ77 12 0 7 = (gV τ36 12 0 7) from gV_put eτ77 rfl))
          have q182 : (gV τ77 1 j2 0).toInt = x39.toInt := congrArg Int32.toInt (show (gV τ77 1 j2 0) = x39 from (show gV τ77 1 j2 0 = x39 from gV_put eτ77 (gV_self _ _ _ _ _)))
          exact m_zret C hr rfl hlk (by decide) (by decide) dX6_readLaw_39 ⟨_, rfl, i78, f79, (iv_wk kc_0 (by decide)), (by have qd := law_ok T N i (by omega) (by omega) (by omega) (by omega) (by omega) (by omega); have qk := kt_0; refine Or.inl ⟨by omega, by omega, by omega, by omega⟩)⟩
    · exfalso
      have q : _ := c19
      simp only [ti_nle, ti_nlt, ti_le, ti_lt, ti_eq, ti_ne, Classical.not_not, kt_0] at q
      have q1 := b18; have q2 := kc_0; omega
  · skip
    have b184 : IV x6 0 0 := ⟨by omega, by omega⟩
    show MW p l e _ s m args below meth c _ 2 G 0 0 6 [some (.ref (G.1 12 0)), some (.ref (G.1 1 j2))] [.int x6] τ3
    refine m_if_ne (tgt := 15) C dX6_readLaw_6 (by decide) (fun c185 => ?_) (fun c185 => ?_)
    · exfalso
      have q : _ := c185
      simp only [ti_nle, ti_nlt, ti_le, ti_lt, ti_eq, ti_ne, Classical.not_not, kt_0] at q
      have q1 := b184; have q2 := kc_0; omega
    · have f187 : x6.toInt = 0 := by
        have q : _ := c185
        simp only [ti_nle, ti_nlt, ti_le, ti_lt, ti_eq, ti_ne, Classical.not_not, kt_0] at q
        omega
      refine m_aload_n C dX6_readLaw_9 rfl rfl ?_
      refine m_iconst (v := 1) C dX6_readLaw_10 (by decide) ?_
      have q188 := kt_1
      refine m_callV (n := 1) (ci := 5) (st := []) C (c_X6_refuseE l G τ3 (1) i4 ) (by decide) (by decide) rfl rfl rfl q2_141 q2_138 q2_140 q0_8 q1_2 (by decide +kernel) rfl (by decide) (by decide) rfl (Nat.le_of_ble_eq_true rfl) dX6_readLaw_11 ?_
      rintro _ τ189 ⟨x192, rfl, i190, f191, b193, h195⟩
      have g194 : Fr MS_X6_readLawE AS_X6_readLawE σ τ189 := Fr.call (g8) f191 (by decide)
      have v196 : TpC τ189 T N := v10.fr f191 (by decide) (by decide) (by simp) (by decide)
      have q197 : (gV τ189 1 j2 0).toInt = (gV σ 1 j2 0).toInt := congrArg Int32.toInt (show (gV τ189 1 j2 0) = (gV σ 1 j2 0) from (show gV τ189 1 j2 0 = (gV σ 1 j2 0) from (f191.1 1 j2 (0) (by decide) (by decide)).trans (show gV τ3 1 j2 0 = (gV σ 1 j2 0) from (f5.1 1 j2 (0) (by decide) (by decide)).trans rfl)))
      have q198 : (gV τ189 12 0 4).toInt = (gV σ 12 0 4).toInt := congrArg Int32.toInt (show (gV τ189 12 0 4) = (gV σ 12 0 4) from (show gV τ189 12 0 4 = (gV σ 12 0 4) from (f191.1 12 0 (4) (by decide) (by decide)).trans (show gV τ3 12 0 4 = (gV σ 12 0 4) from (f5.1 12 0 (4) (by decide) (by decide)).trans rfl)))
      have q199 : (gV τ189 12 0 5).toInt = (gV σ 12 0 5).toInt := congrArg Int32.toInt (show (gV τ189 12 0 5) = (gV σ 12 0 5) from (show gV τ189 12 0 5 = (gV σ 12 0 5) from (f191.1 12 0 (5) (by decide) (by decide)).trans (show gV τ3 12 0 5 = (gV σ 12 0 5) from (f5.1 12 0 (5) (by decide) (by decide)).trans rfl)))
      have q200 : (gV τ189 12 0 6).toInt = (gV σ 12 0 6).toInt := congrArg Int32.toInt (show (gV τ189 12 0 6) = (gV σ 12 0 6) from (show gV τ189 12 0 6 = (gV σ 12 0 6) from (f191.1 12 0 (6) (by decide) (by decide)).trans (show gV τ3 12 0 6 = (gV σ 12 0 6) from (f5.1 12 0 (6) (by decide) (by decide)).trans rfl)))
      have q201 : (gV τ189 12 0 7).toInt = (gV σ 12 0 7).toInt := congrArg Int32.toInt (show (gV τ189 12 0 7) = (gV σ 12 0 7) from (show gV τ189 12 0 7 = (gV σ 12 0 7) from (f191.1 12 0 (7) (by decide) (by decide)).trans (show gV τ3 12 0 7 = (gV σ 12 0 7) from (f5.1 12 0 (7) (by decide) (by decide)).trans rfl)))
      show MW p l e _ s m args below meth c _ 2 G 0 0 14 [some (.ref (G.1 12 0)), some (.ref (G.1 1 j2))] [.int x192] τ189
      exact m_zret C hr (nar_z (iv_wk b193 (by decide))) hlk (by decide) (by decide) dX6_readLaw_14 ⟨_, rfl, i190, g194, (iv_wk b193 (by decide)), (by have qd := law_0 T N i (by omega); refine Or.inl ⟨by omega, by omega, by omega, by omega⟩)⟩

abbrev MS_X8_clearE : List (Nat × Nat) := [(1, 0), (1, 1), (1, 2), (1, 3), (1, 9), (1, 10), (1, 11)]
abbrev AS_X8_clearE : List Nat := []
set_option maxHeartbeats 4000000 in
set_option maxRecDepth 100000 in
theorem c_X8_clearE (l : Launch) (G : Gt) (σ : Sg) {j : Nat} (hj : j < 28) (hI : Inv σ) : Mc l G yX8_clear cX8_clear 1 none 0 0 0 0 [.ref (G.1 1 j)] σ (PV fun τ => Inv τ ∧ Fr MS_X8_clearE AS_X8_clearE σ τ ∧ ((gV τ 1 j 2).toInt = 0 ∧ (gV τ 1 j 3).toInt = 0)) := by
  refine Mc.of (L0 := [some (.ref (G.1 1 j))]) (by decide) (Nat.le_of_ble_eq_true rfl) rfl ?_
  intro p e s m args below meth c C hr hlk
  have C : Cx p s m args c cX8_clear 1 "LeanTower$Tower" := C
  have k0 : (0 : Int32).toInt = 0 := by decide
  have k1 : (1 : Int32).toInt = 1 := by decide
  have u1 : IV (gV σ 1 j 2) 0 7 := hI.1 1 j 2
  have u2 : IV (gV σ 1 j 3) 0 4 := hI.1 1 j 3
  refine m_aload_n C dX8_clear_0 rfl rfl ?_
  refine m_iconst (v := 0) C dX8_clear_1 (by decide) ?_
  refine p_1_0 C hj q1_74 dX8_clear_2 ?_
  refine m_tops (fun τ3 eτ3 => ?_)
  have i4 : Inv τ3 := eτ3 ▸ Inv.putF hI (by decide) rfl
  have f5 : Fr MS_X8_clearE AS_X8_clearE σ τ3 := eτ3 ▸ Fr.put (Fr.rf) (Or.inl (by decide))
  refine m_aload_n C dX8_clear_5 rfl rfl ?_
  refine m_iconst (v := 0) C dX8_clear_6 (by decide) ?_
  refine p_1_1 C hj q1_77 dX8_clear_7 ?_
  refine m_tops (fun τ6 eτ6 => ?_)
  have i7 : Inv τ6 := eτ6 ▸ Inv.putF i4 (by decide) rfl
  have f8 : Fr MS_X8_clearE AS_X8_clearE σ τ6 := eτ6 ▸ Fr.put (f5) (Or.inl (by decide))
  refine m_aload_n C dX8_clear_10 rfl rfl ?_
  refine m_iconst (v := 0) C dX8_clear_11 (by decide) ?_
  refine p_1_2 C hj q1_80 dX8_clear_12 ?_
  refine m_tops (fun τ9 eτ9 => ?_)
  have i10 : Inv τ9 := eτ9 ▸ Inv.put i7 (by decide) (iv_wk kc_0 (by decide))
  have f11 : Fr MS_X8_clearE AS_X8_clearE σ τ9 := eτ9 ▸ Fr.put (f8) (Or.inl (by decide))
  refine m_aload_n C dX8_clear_15 rfl rfl ?_
  refine m_iconst (v := 0) C dX8_clear_16 (by decide) ?_
  refine p_1_3 C hj q1_83 dX8_clear_17 ?_
  refine m_tops (fun τ12 eτ12 => ?_)
  have i13 : Inv τ12 := eτ12 ▸ Inv.put i10 (by decide) (iv_wk kc_0 (by decide))
  have f14 : Fr MS_X8_clearE AS_X8_clearE σ τ12 := eτ12 ▸ Fr.put (f11) (Or.inl (by decide))
  refine m_aload_n C dX8_clear_20 rfl rfl ?_
  refine m_iconst (v := 0) C dX8_clear_21 (by decide) ?_
  refine p_1_9 C hj q1_95 dX8_clear_22 ?_
  refine m_tops (fun τ15 eτ15 => ?_)
  have i16 : Inv τ15 := eτ15 ▸ Inv.putF i13 (by decide) rfl
  have f17 : Fr MS_X8_clearE AS_X8_clearE σ τ15 := eτ15 ▸ Fr.put (f14) (Or.inl (by decide))
  refine m_aload_n C dX8_clear_25 rfl rfl ?_
  refine m_iconst (v := 0) C dX8_clear_26 (by decide) ?_
  refine p_1_10 C hj q1_97 dX8_clear_27 ?_
  refine m_tops (fun τ18 eτ18 => ?_)
  have i19 : Inv τ18 := eτ18 ▸ Inv.putF i16 (by decide) rfl
  have f20 : Fr MS_X8_clearE AS_X8_clearE σ τ18 := eτ18 ▸ Fr.put (f17) (Or.inl (by decide))
  refine m_aload_n C dX8_clear_30 rfl rfl ?_
  refine m_iconst (v := 0) C dX8_clear_31 (by decide) ?_
  refine p_1_11 C hj q1_99 dX8_clear_32 ?_
  refine m_tops (fun τ21 eτ21 => ?_)
  have i22 : Inv τ21 := eτ21 ▸ Inv.putF i19 (by decide) rfl
  have f23 : Fr MS_X8_clearE AS_X8_clearE σ τ21 := eτ21 ▸ Fr.put (f20) (Or.inl (by decide))
  have q24 : (gV τ21 1 j 0).toInt = 0 := (congrArg Int32.toInt (show (gV τ21 1 j 0) = 0 from (show gV τ21 1 j 0 = 0 from gV_put eτ21 (show gV τ18 1 j 0 = 0 from gV_put eτ18 (show gV τ15 1 j 0 = 0 from gV_put eτ15 (show gV τ12 1 j 0 = 0 from gV_put eτ12 (show gV τ9 1 j 0 = 0 from gV_put eτ9 (show gV τ6 1 j 0 = 0 from gV_put eτ6 (show gV τ3 1 j 0 = 0 from gV_put eτ3 (gV_self _ _ _ _ _)))))))))).trans kt_0
  have q25 : (gV τ21 1 j 2).toInt = 0 := (congrArg Int32.toInt (show (gV τ21 1 j 2) = 0 from (show gV τ21 1 j 2 = 0 from gV_put eτ21 (show gV τ18 1 j 2 = 0 from gV_put eτ18 (show gV τ15 1 j 2 = 0 from gV_put eτ15 (show gV τ12 1 j 2 = 0 from gV_put eτ12 (show gV τ9 1 j 2 = 0 from gV_put eτ9 (gV_self _ _ _ _ _)))))))).trans kt_0
  have q26 : (gV τ21 1 j 3).toInt = 0 := (congrArg Int32.toInt (show (gV τ21 1 j 3) = 0 from (show gV τ21 1 j 3 = 0 from gV_put eτ21 (show gV τ18 1 j 3 = 0 from gV_put eτ18 (show gV τ15 1 j 3 = 0 from gV_put eτ15 (show gV τ12 1 j 3 = 0 from gV_put eτ12 (gV_self _ _ _ _ _))))))).trans kt_0
  exact m_vret C hr hlk (by decide) (by decide) dX8_clear_35 ⟨rfl, i22, f23, (by omega)⟩

abbrev MS_X8_addPersonE : List (Nat × Nat) := [(1, 2)]
abbrev AS_X8_addPersonE : List Nat := [2, 3, 6]
set_option maxHeartbeats 4000000 in
set_option maxRecDepth 100000 in
theorem c_X8_addPersonE (l : Launch) (G : Gt) (σ : Sg) {j : Nat} (hj : j < 28) (b1 : Nat) (a2 : Int32) (hI : Inv σ) (hb1 : b1 ∈ σ.2.2.2.1) : Mc l G yX8_addPerson cX8_addPerson 3 none 0 0 0 0 [.ref (G.1 1 j), .ref b1, .int a2] σ (PV fun τ => Inv τ ∧ Fr MS_X8_addPersonE AS_X8_addPersonE σ τ ∧ ((gV σ 1 j 2).toInt < 7 → (gV τ 1 j 2).toInt = (gV σ 1 j 2).toInt + 1)) := by
  refine Mc.of (L0 := [some (.ref (G.1 1 j)), some (.ref b1), some (.int a2)]) (by decide) (Nat.le_of_ble_eq_true rfl) rfl ?_
  intro p e s m args below meth c C hr hlk
  have C : Cx p s m args c cX8_addPerson 3 "LeanTower$Tower" := C
  have k0 : (0 : Int32).toInt = 0 := by decide
  have k1 : (1 : Int32).toInt = 1 := by decide
  have u1 : IV (gV σ 1 j 2) 0 7 := hI.1 1 j 2
  refine m_aload_n C dX8_addPerson_0 rfl rfl ?_
  refine g_1_2 C hj q1_80 dX8_addPerson_1 ?_
  refine m_eqs (w := (gV σ 1 j 2)) rfl ?_
  refine m_bipush (v := 7) C dX8_addPerson_4 (by decide) ?_
  refine m_icmp_ge (tgt := 49) C dX8_addPerson_6 (by decide) (fun c2 => ?_) (fun c2 => ?_)
  · have f3 : 7 ≤ (gV σ 1 j 2).toInt := by
      have q : _ := c2
      simp only [ti_nle, ti_nlt, ti_le, ti_lt, ti_eq, ti_ne, Classical.not_not, kt_7] at q
      omega
    have b4 : IV (gV σ 1 j 2) 7 7 := ⟨by have q1 := kc_7; have q2 := u1; omega, by have q1 := kc_7; have q2 := u1; omega⟩
    exact m_vret C hr hlk (by decide) (by decide) dX8_addPerson_49 ⟨rfl, hI, Fr.rf, (by omega)⟩
  · have f5 : (gV σ 1 j 2).toInt < 7 := by
      have q : _ := c2
      simp only [ti_nle, ti_nlt, ti_le, ti_lt, ti_eq, ti_ne, Classical.not_not, kt_7] at q
      omega
    have b6 : IV (gV σ 1 j 2) 0 6 := ⟨by have q1 := u1; have q2 := kc_7; omega, by have q1 := u1; have q2 := kc_7; omega⟩
    refine m_aload_n C dX8_addPerson_9 rfl rfl ?_
    refine g_1_4 C hj q1_86 dX8_addPerson_10 ?_
    refine m_aload_n C dX8_addPerson_13 rfl rfl ?_
    refine g_1_2 C hj q1_80 dX8_addPerson_14 ?_
    refine m_eqs (w := (gV σ 1 j 2)) rfl ?_
    refine m_aload_n C dX8_addPerson_17 rfl rfl ?_
    refine as_6 C hj hI.2.2 hb1 b6 (by decide) dX8_addPerson_18 ?_
    refine m_tops (fun τ7 eτ7 => ?_)
    have i8 : Inv τ7 := eτ7 ▸ Inv.putQ hI (fun _ h => by cases h; exact hb1)
    have f9 : Fr MS_X8_addPersonE AS_X8_addPersonE σ τ7 := eτ7 ▸ Fr.putQ (Fr.rf) (by decide)
    have v10 : b1 ∈ τ7.2.2.2.1 := by rw [eτ7]; exact hb1
    refine m_aload_n C dX8_addPerson_19 rfl rfl ?_
    refine g_1_5 C hj q1_87 dX8_addPerson_20 ?_
    refine m_aload_n C dX8_addPerson_23 rfl rfl ?_
    refine g_1_2 C hj q1_80 dX8_addPerson_24 ?_
    refine m_eqs (w := (gV σ 1 j 2)) (show gV τ7 1 j 2 = (gV σ 1 j 2) from gV_putQ eτ7 rfl) ?_
    refine m_iload_n C dX8_addPerson_27 rfl rfl ?_
    refine as_2 C hj b6 (by decide) rfl dX8_addPerson_28 ?_
    refine m_tops (fun τ11 eτ11 => ?_)
    have i12 : Inv τ11 := eτ11 ▸ Inv.putF i8 (by decide) rfl
    have f13 : Fr MS_X8_addPersonE AS_X8_addPersonE σ τ11 := eτ11 ▸ Fr.put (f9) (Or.inr (by decide))
    have v14 : b1 ∈ τ11.2.2.2.1 := by rw [eτ11]; exact v10
    refine m_aload_n C dX8_addPerson_29 rfl rfl ?_
    refine g_1_6 C hj q1_89 dX8_addPerson_30 ?_
    refine m_aload_n C dX8_addPerson_33 rfl rfl ?_
    refine g_1_2 C hj q1_80 dX8_addPerson_34 ?_
    refine m_eqs (w := (gV σ 1 j 2)) (show gV τ11 1 j 2 = (gV σ 1 j 2) from gV_put eτ11 (show gV τ7 1 j 2 = (gV σ 1 j 2) from gV_putQ eτ7 rfl)) ?_
    refine m_iconst (v := 0) C dX8_addPerson_37 (by decide) ?_
    refine as_3 C hj b6 (by decide) rfl dX8_addPerson_38 ?_
    refine m_tops (fun τ15 eτ15 => ?_)
    have i16 : Inv τ15 := eτ15 ▸ Inv.putF i12 (by decide) rfl
    have f17 : Fr MS_X8_addPersonE AS_X8_addPersonE σ τ15 := eτ15 ▸ Fr.put (f13) (Or.inr (by decide))
    have v18 : b1 ∈ τ15.2.2.2.1 := by rw [eτ15]; exact v14
    refine m_aload_n C dX8_addPerson_39 rfl rfl ?_
    refine m_dup C dX8_addPerson_40 rfl ?_
    refine g_1_2 C hj q1_80 dX8_addPerson_41 ?_
    refine m_eqs (w := (gV σ 1 j 2)) (show gV τ15 1 j 2 = (gV σ 1 j 2) from gV_put eτ15 (show gV τ11 1 j 2 = (gV σ 1 j 2) from gV_put eτ11 (show gV τ7 1 j 2 = (gV σ 1 j 2) from gV_putQ eτ7 rfl))) ?_
    refine m_iconst (v := 1) C dX8_addPerson_44 (by decide) ?_
    refine m_iadd C dX8_addPerson_45 ?_
    refine m_topi (fun x19 ex19 => ?_)
    have tx19 : x19.toInt = (gV σ 1 j 2).toInt + 1 := by rw [ex19, ti_addv b6 kc_1 (by decide), kt_1]
    have b20 : IV x19 1 7 := by rw [ex19]; exact iv_add b6 kc_1 (by decide)
    refine p_1_2 C hj q1_80 dX8_addPerson_46 ?_
    refine m_tops (fun τ21 eτ21 => ?_)
    have i22 : Inv τ21 := eτ21 ▸ Inv.put i16 (by decide) (iv_wk b20 (by decide))
    have f23 : Fr MS_X8_addPersonE AS_X8_addPersonE σ τ21 := eτ21 ▸ Fr.put (f17) (Or.inl (by decide))
    have v24 : b1 ∈ τ21.2.2.2.1 := by rw [eτ21]; exact v18
    have q25 : (gV τ21 1 j 2).toInt = x19.toInt := congrArg Int32.toInt (show (gV τ21 1 j 2) = x19 from (show gV τ21 1 j 2 = x19 from gV_put eτ21 (gV_self _ _ _ _ _)))
    exact m_vret C hr hlk (by decide) (by decide) dX8_addPerson_49 ⟨rfl, i22, f23, (by omega)⟩

abbrev MS_X8_addStoneE : List (Nat × Nat) := [(1, 3)]
abbrev AS_X8_addStoneE : List Nat := [4, 5]
set_option maxHeartbeats 4000000 in
set_option maxRecDepth 100000 in
theorem c_X8_addStoneE (l : Launch) (G : Gt) (σ : Sg) {j : Nat} (hj : j < 28) (a1 : Int32) (a2 : Int32) (hI : Inv σ) : Mc l G yX8_addStone cX8_addStone 3 none 0 0 0 0 [.ref (G.1 1 j), .int a1, .int a2] σ (PV fun τ => Inv τ ∧ Fr MS_X8_addStoneE AS_X8_addStoneE σ τ ∧ ((gV σ 1 j 3).toInt < 4 → (gV τ 1 j 3).toInt = (gV σ 1 j 3).toInt + 1)) := by
  refine Mc.of (L0 := [some (.ref (G.1 1 j)), some (.int a1), some (.int a2)]) (by decide) (Nat.le_of_ble_eq_true rfl) rfl ?_
  intro p e s m args below meth c C hr hlk
  have C : Cx p s m args c cX8_addStone 3 "LeanTower$Tower" := C
  have k0 : (0 : Int32).toInt = 0 := by decide
  have k1 : (1 : Int32).toInt = 1 := by decide
  have u1 : IV (gV σ 1 j 3) 0 4 := hI.1 1 j 3
  refine m_aload_n C dX8_addStone_0 rfl rfl ?_
  refine g_1_3 C hj q1_83 dX8_addStone_1 ?_
  refine m_eqs (w := (gV σ 1 j 3)) rfl ?_
  refine m_iconst (v := 4) C dX8_addStone_4 (by decide) ?_
  refine m_icmp_ge (tgt := 38) C dX8_addStone_5 (by decide) (fun c2 => ?_) (fun c2 => ?_)
  · have f3 : 4 ≤ (gV σ 1 j 3).toInt := by
      have q : _ := c2
      simp only [ti_nle, ti_nlt, ti_le, ti_lt, ti_eq, ti_ne, Classical.not_not, kt_4] at q
      omega
    have b4 : IV (gV σ 1 j 3) 4 4 := ⟨by have q1 := kc_4; have q2 := u1; omega, by have q1 := kc_4; have q2 := u1; omega⟩
    exact m_vret C hr hlk (by decide) (by decide) dX8_addStone_38 ⟨rfl, hI, Fr.rf, (by omega)⟩
  · have f5 : (gV σ 1 j 3).toInt < 4 := by
      have q : _ := c2
      simp only [ti_nle, ti_nlt, ti_le, ti_lt, ti_eq, ti_ne, Classical.not_not, kt_4] at q
      omega
    have b6 : IV (gV σ 1 j 3) 0 3 := ⟨by have q1 := u1; have q2 := kc_4; omega, by have q1 := u1; have q2 := kc_4; omega⟩
    refine m_aload_n C dX8_addStone_8 rfl rfl ?_
    refine g_1_7 C hj q1_91 dX8_addStone_9 ?_
    refine m_aload_n C dX8_addStone_12 rfl rfl ?_
    refine g_1_3 C hj q1_83 dX8_addStone_13 ?_
    refine m_eqs (w := (gV σ 1 j 3)) rfl ?_
    refine m_iload_n C dX8_addStone_16 rfl rfl ?_
    refine as_4 C hj b6 (by decide) rfl dX8_addStone_17 ?_
    refine m_tops (fun τ7 eτ7 => ?_)
    have i8 : Inv τ7 := eτ7 ▸ Inv.putF hI (by decide) rfl
    have f9 : Fr MS_X8_addStoneE AS_X8_addStoneE σ τ7 := eτ7 ▸ Fr.put (Fr.rf) (Or.inr (by decide))
    refine m_aload_n C dX8_addStone_18 rfl rfl ?_
    refine g_1_8 C hj q1_93 dX8_addStone_19 ?_
    refine m_aload_n C dX8_addStone_22 rfl rfl ?_
    refine g_1_3 C hj q1_83 dX8_addStone_23 ?_
    refine m_eqs (w := (gV σ 1 j 3)) (show gV τ7 1 j 3 = (gV σ 1 j 3) from gV_put eτ7 rfl) ?_
    refine m_iload_n C dX8_addStone_26 rfl rfl ?_
    refine as_5 C hj b6 (by decide) rfl dX8_addStone_27 ?_
    refine m_tops (fun τ10 eτ10 => ?_)
    have i11 : Inv τ10 := eτ10 ▸ Inv.putF i8 (by decide) rfl
    have f12 : Fr MS_X8_addStoneE AS_X8_addStoneE σ τ10 := eτ10 ▸ Fr.put (f9) (Or.inr (by decide))
    refine m_aload_n C dX8_addStone_28 rfl rfl ?_
    refine m_dup C dX8_addStone_29 rfl ?_
    refine g_1_3 C hj q1_83 dX8_addStone_30 ?_
    refine m_eqs (w := (gV σ 1 j 3)) (show gV τ10 1 j 3 = (gV σ 1 j 3) from gV_put eτ10 (show gV τ7 1 j 3 = (gV σ 1 j 3) from gV_put eτ7 rfl)) ?_
    refine m_iconst (v := 1) C dX8_addStone_33 (by decide) ?_
    refine m_iadd C dX8_addStone_34 ?_
    refine m_topi (fun x13 ex13 => ?_)
    have tx13 : x13.toInt = (gV σ 1 j 3).toInt + 1 := by rw [ex13, ti_addv b6 kc_1 (by decide), kt_1]
    have b14 : IV x13 1 4 := by rw [ex13]; exact iv_add b6 kc_1 (by decide)
    refine p_1_3 C hj q1_83 dX8_addStone_35 ?_
    refine m_tops (fun τ15 eτ15 => ?_)
    have i16 : Inv τ15 := eτ15 ▸ Inv.put i11 (by decide) (iv_wk b14 (by decide))
    have f17 : Fr MS_X8_addStoneE AS_X8_addStoneE σ τ15 := eτ15 ▸ Fr.put (f12) (Or.inl (by decide))
    have q18 : (gV τ15 1 j 3).toInt = x13.toInt := congrArg Int32.toInt (show (gV τ15 1 j 3) = x13 from (show gV τ15 1 j 3 = x13 from gV_put eτ15 (gV_self _ _ _ _ _)))
    exact m_vret C hr hlk (by decide) (by decide) dX8_addStone_38 ⟨rfl, i16, f17, (by omega)⟩

abbrev MS_X8_takeFromE : List (Nat × Nat) := [(1, 0), (1, 1), (1, 2), (1, 3), (1, 9), (1, 10), (1, 11)]
abbrev AS_X8_takeFromE : List Nat := [2, 3, 4, 5, 6]
set_option maxHeartbeats 4000000 in
set_option maxRecDepth 100000 in
theorem c_X8_takeFromE (l : Launch) (G : Gt) (σ : Sg) {j : Nat} (hj : j < 28) {j2 : Nat} (hj2 : j2 < 28) (hI : Inv σ) : Mc l G yX8_takeFrom cX8_takeFrom 3 none 0 0 0 0 [.ref (G.1 1 j), .ref (G.1 1 j2)] σ (PV fun τ => Inv τ ∧ Fr MS_X8_takeFromE AS_X8_takeFromE σ τ ∧ (gV τ 1 j 2).toInt = (gV σ 1 j2 2).toInt) := by
  refine Mc.of (L0 := [some (.ref (G.1 1 j)), some (.ref (G.1 1 j2)), none]) (by decide) (Nat.le_of_ble_eq_true rfl) rfl ?_
  intro p e s m args below meth c C hr hlk
  have C : Cx p s m args c cX8_takeFrom 3 "LeanTower$Tower" := C
  have k0 : (0 : Int32).toInt = 0 := by decide
  have k1 : (1 : Int32).toInt = 1 := by decide
  have J108 : ∀ (n : Nat) (τ : Sg) (y2 : Int32), Inv τ → Fr MS_X8_takeFromE AS_X8_takeFromE σ τ → IV y2 0 4 → ((gV τ 1 j 2).toInt = (gV σ 1 j2 2).toInt) → (4 - y2.toInt).toNat < n → MW p l e { frames := 0, cells := 0, slots := 0, locals := 0 } s m args below meth c (MQ below (QP G (PV fun τ => Inv τ ∧ Fr MS_X8_takeFromE AS_X8_takeFromE σ τ ∧ (gV τ 1 j 2).toInt = (gV σ 1 j2 2).toInt)) args s 0 0 (aG G)) 3 G 0 0 108 [some (.ref (G.1 1 j)), some (.ref (G.1 1 j2)), some (.int y2)] [] τ := by
    intro n
    induction n with
    | zero => intro τ y2 iτ fτ b_y2 n1 hm; exact absurd hm (Nat.not_lt_zero _)
    | succ n ih108 =>
      intro τ y2 iτ fτ b_y2 n1 hm108
      have u2 : IV (gV τ 1 j 2) 0 7 := iτ.1 1 j 2
      have u3 : IV (gV τ 1 j2 2) 0 7 := iτ.1 1 j2 2
      refine m_iload_n C dX8_takeFrom_108 rfl rfl ?_
      refine m_iconst (v := 4) C dX8_takeFrom_109 (by decide) ?_
      refine m_icmp_ge (tgt := 143) C dX8_takeFrom_110 (by decide) (fun c4 => ?_) (fun c4 => ?_)
      · have f5 : 4 ≤ y2.toInt := by
          have q : _ := c4
          simp only [ti_nle, ti_nlt, ti_le, ti_lt, ti_eq, ti_ne, Classical.not_not, kt_4] at q
          omega
        have b6 : IV y2 4 4 := ⟨by have q1 := kc_4; have q2 := b_y2; omega, by have q1 := kc_4; have q2 := b_y2; omega⟩
        exact m_vret C hr hlk (by decide) (by decide) dX8_takeFrom_143 ⟨rfl, iτ, fτ, (by omega)⟩
      · have f7 : y2.toInt < 4 := by
          have q : _ := c4
          simp only [ti_nle, ti_nlt, ti_le, ti_lt, ti_eq, ti_ne, Classical.not_not, kt_4] at q
          omega
        have b8 : IV y2 0 3 := ⟨by have q1 := b_y2; have q2 := kc_4; omega, by have q1 := b_y2; have q2 := kc_4; omega⟩
        refine m_aload_n C dX8_takeFrom_113 rfl rfl ?_
        refine g_1_7 C hj q1_91 dX8_takeFrom_114 ?_
        refine m_iload_n C dX8_takeFrom_117 rfl rfl ?_
        refine m_aload_n C dX8_takeFrom_118 rfl rfl ?_
        refine g_1_7 C hj2 q1_91 dX8_takeFrom_119 ?_
        refine m_iload_n C dX8_takeFrom_122 rfl rfl ?_
        refine al_4 C hj2 b8 (by decide) rfl dX8_takeFrom_123 ?_
        refine m_topi (fun x9 ex9 => ?_)
        refine as_4 C hj b8 (by decide) rfl dX8_takeFrom_124 ?_
        refine m_tops (fun τ10 eτ10 => ?_)
        have i11 : Inv τ10 := eτ10 ▸ Inv.putF iτ (by decide) rfl
        have f12 : Fr MS_X8_takeFromE AS_X8_takeFromE σ τ10 := eτ10 ▸ Fr.put (fτ) (Or.inr (by decide))
        refine m_aload_n C dX8_takeFrom_125 rfl rfl ?_
        refine g_1_8 C hj q1_93 dX8_takeFrom_126 ?_
        refine m_iload_n C dX8_takeFrom_129 rfl rfl ?_
        refine m_aload_n C dX8_takeFrom_130 rfl rfl ?_
        refine g_1_8 C hj2 q1_93 dX8_takeFrom_131 ?_
        refine m_iload_n C dX8_takeFrom_134 rfl rfl ?_
        refine al_5 C hj2 b8 (by decide) rfl dX8_takeFrom_135 ?_
        refine m_topi (fun x13 ex13 => ?_)
        refine as_5 C hj b8 (by decide) rfl dX8_takeFrom_136 ?_
        refine m_tops (fun τ14 eτ14 => ?_)
        have i15 : Inv τ14 := eτ14 ▸ Inv.putF i11 (by decide) rfl
        have f16 : Fr MS_X8_takeFromE AS_X8_takeFromE σ τ14 := eτ14 ▸ Fr.put (f12) (Or.inr (by decide))
        obtain ⟨x17, ex17⟩ : ∃ y : Int32, y = y2 + 1 := ⟨_, rfl⟩
        have tx17 : x17.toInt = y2.toInt + 1 := by rw [ex17, ti_addv b8 kc_1 (by decide), kt_1]
        have b18 : IV x17 1 4 := by rw [ex17]; exact iv_add b8 kc_1 (by decide)
        refine m_iinc (v := x17) (L1 := [some (.ref (G.1 1 j)), some (.ref (G.1 1 j2)), some (.int x17)]) C dX8_takeFrom_137 rfl (by rw [ex17]; rfl) (by decide) rfl rfl ?_
        refine m_goto (tgt := 108) C dX8_takeFrom_140 (by decide) ?_
        have q19 : (gV τ14 1 j 2).toInt = (gV τ 1 j 2).toInt := congrArg Int32.toInt (show (gV τ14 1 j 2) = (gV τ 1 j 2) from (show gV τ14 1 j 2 = (gV τ 1 j 2) from gV_put eτ14 (show gV τ10 1 j 2 = (gV τ 1 j 2) from gV_put eτ10 rfl)))
        have q20 : (gV τ14 1 j2 2).toInt = (gV τ 1 j2 2).toInt := congrArg Int32.toInt (show (gV τ14 1 j2 2) = (gV τ 1 j2 2) from (show gV τ14 1 j2 2 = (gV τ 1 j2 2) from gV_put eτ14 (show gV τ10 1 j2 2 = (gV τ 1 j2 2) from gV_put eτ10 rfl)))
        exact ih108 τ14 x17 i15 f16 (iv_wk b18 (by decide)) (by omega) (by have q := hm108; omega)
  have J58 : ∀ (n : Nat) (τ : Sg) (y2 : Int32), Inv τ → Fr MS_X8_takeFromE AS_X8_takeFromE σ τ → IV y2 0 7 → ((gV τ 1 j 2).toInt = (gV σ 1 j2 2).toInt) → (7 - y2.toInt).toNat < n → MW p l e { frames := 0, cells := 0, slots := 0, locals := 0 } s m args below meth c (MQ below (QP G (PV fun τ => Inv τ ∧ Fr MS_X8_takeFromE AS_X8_takeFromE σ τ ∧ (gV τ 1 j 2).toInt = (gV σ 1 j2 2).toInt)) args s 0 0 (aG G)) 3 G 0 0 58 [some (.ref (G.1 1 j)), some (.ref (G.1 1 j2)), some (.int y2)] [] τ := by
    intro n
    induction n with
    | zero => intro τ y2 iτ fτ b_y2 n21 hm; exact absurd hm (Nat.not_lt_zero _)
    | succ n ih58 =>
      intro τ y2 iτ fτ b_y2 n21 hm58
      have u22 : IV (gV τ 1 j 2) 0 7 := iτ.1 1 j 2
      have u23 : IV (gV τ 1 j2 2) 0 7 := iτ.1 1 j2 2
      refine m_iload_n C dX8_takeFrom_58 rfl rfl ?_
      refine m_bipush (v := 7) C dX8_takeFrom_59 (by decide) ?_
      refine m_icmp_ge (tgt := 106) C dX8_takeFrom_61 (by decide) (fun c24 => ?_) (fun c24 => ?_)
      · have f25 : 7 ≤ y2.toInt := by
          have q : _ := c24
          simp only [ti_nle, ti_nlt, ti_le, ti_lt, ti_eq, ti_ne, Classical.not_not, kt_7] at q
          omega
        have b26 : IV y2 7 7 := ⟨by have q1 := kc_7; have q2 := b_y2; omega, by have q1 := kc_7; have q2 := b_y2; omega⟩
        refine m_iconst (v := 0) C dX8_takeFrom_106 (by decide) ?_
        refine m_istore_n (L1 := [some (.ref (G.1 1 j)), some (.ref (G.1 1 j2)), some (.int 0)]) C dX8_takeFrom_107 rfl (by decide) rfl rfl ?_
        exact J108 ((4 - (0 : Int32).toInt).toNat + 1) τ 0 iτ fτ (iv_wk kc_0 (by decide)) (by omega) (Nat.lt_succ_self _)
      · have f27 : y2.toInt < 7 := by
          have q : _ := c24
          simp only [ti_nle, ti_nlt, ti_le, ti_lt, ti_eq, ti_ne, Classical.not_not, kt_7] at q
          omega
        have b28 : IV y2 0 6 := ⟨by have q1 := b_y2; have q2 := kc_7; omega, by have q1 := b_y2; have q2 := kc_7; omega⟩
        refine m_aload_n C dX8_takeFrom_64 rfl rfl ?_
        refine g_1_4 C hj q1_86 dX8_takeFrom_65 ?_
        refine m_iload_n C dX8_takeFrom_68 rfl rfl ?_
        refine m_aload_n C dX8_takeFrom_69 rfl rfl ?_
        refine g_1_4 C hj2 q1_86 dX8_takeFrom_70 ?_
        refine m_iload_n C dX8_takeFrom_73 rfl rfl ?_
        refine al_6 (n := (y2.toInt.toNat)) C hj2 b28 (by decide) rfl dX8_takeFrom_74 (fun h30 => ?_) (fun x29 h30 => ?_)
        · skip
          refine as_6N C hj b28 (by decide) dX8_takeFrom_75 ?_
          refine m_tops (fun τ31 eτ31 => ?_)
          have i32 : Inv τ31 := eτ31 ▸ Inv.putQ iτ (fun _ h => nomatch h)
          have f33 : Fr MS_X8_takeFromE AS_X8_takeFromE σ τ31 := eτ31 ▸ Fr.putQ (fτ) (by decide)
          refine m_aload_n C dX8_takeFrom_76 rfl rfl ?_
          refine g_1_5 C hj q1_87 dX8_takeFrom_77 ?_
          refine m_iload_n C dX8_takeFrom_80 rfl rfl ?_
          refine m_aload_n C dX8_takeFrom_81 rfl rfl ?_
          refine g_1_5 C hj2 q1_87 dX8_takeFrom_82 ?_
          refine m_iload_n C dX8_takeFrom_85 rfl rfl ?_
          refine al_2 C hj2 b28 (by decide) rfl dX8_takeFrom_86 ?_
          refine m_topi (fun x34 ex34 => ?_)
          refine as_2 C hj b28 (by decide) rfl dX8_takeFrom_87 ?_
          refine m_tops (fun τ35 eτ35 => ?_)
          have i36 : Inv τ35 := eτ35 ▸ Inv.putF i32 (by decide) rfl
          have f37 : Fr MS_X8_takeFromE AS_X8_takeFromE σ τ35 := eτ35 ▸ Fr.put (f33) (Or.inr (by decide))
          refine m_aload_n C dX8_takeFrom_88 rfl rfl ?_
          refine g_1_6 C hj q1_89 dX8_takeFrom_89 ?_
          refine m_iload_n C dX8_takeFrom_92 rfl rfl ?_
          refine m_aload_n C dX8_takeFrom_93 rfl rfl ?_
          refine g_1_6 C hj2 q1_89 dX8_takeFrom_94 ?_
          refine m_iload_n C dX8_takeFrom_97 rfl rfl ?_
          refine al_3 C hj2 b28 (by decide) rfl dX8_takeFrom_98 ?_
          refine m_topi (fun x38 ex38 => ?_)
          refine as_3 C hj b28 (by decide) rfl dX8_takeFrom_99 ?_
          refine m_tops (fun τ39 eτ39 => ?_)
          have i40 : Inv τ39 := eτ39 ▸ Inv.putF i36 (by decide) rfl
          have f41 : Fr MS_X8_takeFromE AS_X8_takeFromE σ τ39 := eτ39 ▸ Fr.put (f37) (Or.inr (by decide))
          obtain ⟨x42, ex42⟩ : ∃ y : Int32, y = y2 + 1 := ⟨_, rfl⟩
          have tx42 : x42.toInt = y2.toInt + 1 := by rw [ex42, ti_addv b28 kc_1 (by decide), kt_1]
          have b43 : IV x42 1 7 := by rw [ex42]; exact iv_add b28 kc_1 (by decide)
          refine m_iinc (v := x42) (L1 := [some (.ref (G.1 1 j)), some (.ref (G.1 1 j2)), some (.int x42)]) C dX8_takeFrom_100 rfl (by rw [ex42]; rfl) (by decide) rfl rfl ?_
          refine m_goto (tgt := 58) C dX8_takeFrom_103 (by decide) ?_
          have q44 : (gV τ39 1 j 2).toInt = (gV τ 1 j 2).toInt := congrArg Int32.toInt (show (gV τ39 1 j 2) = (gV τ 1 j 2) from (show gV τ39 1 j 2 = (gV τ 1 j 2) from gV_put eτ39 (show gV τ35 1 j 2 = (gV τ 1 j 2) from gV_put eτ35 (show gV τ31 1 j 2 = (gV τ 1 j 2) from gV_putQ eτ31 rfl))))
          have q45 : (gV τ39 1 j2 2).toInt = (gV τ 1 j2 2).toInt := congrArg Int32.toInt (show (gV τ39 1 j2 2) = (gV τ 1 j2 2) from (show gV τ39 1 j2 2 = (gV τ 1 j2 2) from gV_put eτ39 (show gV τ35 1 j2 2 = (gV τ 1 j2 2) from gV_put eτ35 (show gV τ31 1 j2 2 = (gV τ 1 j2 2) from gV_putQ eτ31 rfl))))
          exact ih58 τ39 x42 i40 f41 (iv_wk b43 (by decide)) (by omega) (by have q := hm58; omega)
        · have v46 : x29 ∈ τ.2.2.2.1 := iτ.2.2.1 _ _ _ h30
          refine as_6 C hj iτ.2.2 v46 b28 (by decide) dX8_takeFrom_75 ?_
          refine m_tops (fun τ47 eτ47 => ?_)
          have i48 : Inv τ47 := eτ47 ▸ Inv.putQ iτ (fun _ h => by cases h; exact v46)
          have f49 : Fr MS_X8_takeFromE AS_X8_takeFromE σ τ47 := eτ47 ▸ Fr.putQ (fτ) (by decide)
          have v50 : x29 ∈ τ47.2.2.2.1 := by rw [eτ47]; exact v46
          refine m_aload_n C dX8_takeFrom_76 rfl rfl ?_
          refine g_1_5 C hj q1_87 dX8_takeFrom_77 ?_
          refine m_iload_n C dX8_takeFrom_80 rfl rfl ?_
          refine m_aload_n C dX8_takeFrom_81 rfl rfl ?_
          refine g_1_5 C hj2 q1_87 dX8_takeFrom_82 ?_
          refine m_iload_n C dX8_takeFrom_85 rfl rfl ?_
          refine al_2 C hj2 b28 (by decide) rfl dX8_takeFrom_86 ?_
          refine m_topi (fun x51 ex51 => ?_)
          refine as_2 C hj b28 (by decide) rfl dX8_takeFrom_87 ?_
          refine m_tops (fun τ52 eτ52 => ?_)
          have i53 : Inv τ52 := eτ52 ▸ Inv.putF i48 (by decide) rfl
          have f54 : Fr MS_X8_takeFromE AS_X8_takeFromE σ τ52 := eτ52 ▸ Fr.put (f49) (Or.inr (by decide))
          have v55 : x29 ∈ τ52.2.2.2.1 := by rw [eτ52]; exact v50
          refine m_aload_n C dX8_takeFrom_88 rfl rfl ?_
          refine g_1_6 C hj q1_89 dX8_takeFrom_89 ?_
          refine m_iload_n C dX8_takeFrom_92 rfl rfl ?_
          refine m_aload_n C dX8_takeFrom_93 rfl rfl ?_
          refine g_1_6 C hj2 q1_89 dX8_takeFrom_94 ?_
          refine m_iload_n C dX8_takeFrom_97 rfl rfl ?_
          refine al_3 C hj2 b28 (by decide) rfl dX8_takeFrom_98 ?_
          refine m_topi (fun x56 ex56 => ?_)
          refine as_3 C hj b28 (by decide) rfl dX8_takeFrom_99 ?_
          refine m_tops (fun τ57 eτ57 => ?_)
          have i58 : Inv τ57 := eτ57 ▸ Inv.putF i53 (by decide) rfl
          have f59 : Fr MS_X8_takeFromE AS_X8_takeFromE σ τ57 := eτ57 ▸ Fr.put (f54) (Or.inr (by decide))
          have v60 : x29 ∈ τ57.2.2.2.1 := by rw [eτ57]; exact v55
          obtain ⟨x61, ex61⟩ : ∃ y : Int32, y = y2 + 1 := ⟨_, rfl⟩
          have tx61 : x61.toInt = y2.toInt + 1 := by rw [ex61, ti_addv b28 kc_1 (by decide), kt_1]
          have b62 : IV x61 1 7 := by rw [ex61]; exact iv_add b28 kc_1 (by decide)
          refine m_iinc (v := x61) (L1 := [some (.ref (G.1 1 j)), some (.ref (G.1 1 j2)), some (.int x61)]) C dX8_takeFrom_100 rfl (by rw [ex61]; rfl) (by decide) rfl rfl ?_
          refine m_goto (tgt := 58) C dX8_takeFrom_103 (by decide) ?_
          have q63 : (gV τ57 1 j 2).toInt = (gV τ 1 j 2).toInt := congrArg Int32.toInt (show (gV τ57 1 j 2) = (gV τ 1 j 2) from (show gV τ57 1 j 2 = (gV τ 1 j 2) from gV_put eτ57 (show gV τ52 1 j 2 = (gV τ 1 j 2) from gV_put eτ52 (show gV τ47 1 j 2 = (gV τ 1 j 2) from gV_putQ eτ47 rfl))))
          have q64 : (gV τ57 1 j2 2).toInt = (gV τ 1 j2 2).toInt := congrArg Int32.toInt (show (gV τ57 1 j2 2) = (gV τ 1 j2 2) from (show gV τ57 1 j2 2 = (gV τ 1 j2 2) from gV_put eτ57 (show gV τ52 1 j2 2 = (gV τ 1 j2 2) from gV_put eτ52 (show gV τ47 1 j2 2 = (gV τ 1 j2 2) from gV_putQ eτ47 rfl))))
          exact ih58 τ57 x61 i58 f59 (iv_wk b62 (by decide)) (by omega) (by have q := hm58; omega)
  have u65 : IV (gV σ 1 j 2) 0 7 := hI.1 1 j 2
  have u66 : IV (gV σ 1 j2 2) 0 7 := hI.1 1 j2 2
  refine m_aload_n C dX8_takeFrom_0 rfl rfl ?_
  refine m_aload_n C dX8_takeFrom_1 rfl rfl ?_
  refine g_1_0 C hj2 q1_74 dX8_takeFrom_2 ?_
  refine m_topi (fun x67 ex67 => ?_)
  refine p_1_0 C hj q1_74 dX8_takeFrom_5 ?_
  refine m_tops (fun τ68 eτ68 => ?_)
  have i69 : Inv τ68 := eτ68 ▸ Inv.putF hI (by decide) rfl
  have f70 : Fr MS_X8_takeFromE AS_X8_takeFromE σ τ68 := eτ68 ▸ Fr.put (Fr.rf) (Or.inl (by decide))
  refine m_aload_n C dX8_takeFrom_8 rfl rfl ?_
  refine m_aload_n C dX8_takeFrom_9 rfl rfl ?_
  refine g_1_1 C hj2 q1_77 dX8_takeFrom_10 ?_
  refine m_topi (fun x71 ex71 => ?_)
  refine p_1_1 C hj q1_77 dX8_takeFrom_13 ?_
  refine m_tops (fun τ72 eτ72 => ?_)
  have i73 : Inv τ72 := eτ72 ▸ Inv.putF i69 (by decide) rfl
  have f74 : Fr MS_X8_takeFromE AS_X8_takeFromE σ τ72 := eτ72 ▸ Fr.put (f70) (Or.inl (by decide))
  refine m_aload_n C dX8_takeFrom_16 rfl rfl ?_
  refine m_aload_n C dX8_takeFrom_17 rfl rfl ?_
  refine g_1_2 C hj2 q1_80 dX8_takeFrom_18 ?_
  refine m_eqs (w := (gV σ 1 j2 2)) (show gV τ72 1 j2 2 = (gV σ 1 j2 2) from gV_put eτ72 (show gV τ68 1 j2 2 = (gV σ 1 j2 2) from gV_put eτ68 rfl)) ?_
  refine p_1_2 C hj q1_80 dX8_takeFrom_21 ?_
  refine m_tops (fun τ75 eτ75 => ?_)
  have i76 : Inv τ75 := eτ75 ▸ Inv.put i73 (by decide) u66
  have f77 : Fr MS_X8_takeFromE AS_X8_takeFromE σ τ75 := eτ75 ▸ Fr.put (f74) (Or.inl (by decide))
  refine m_aload_n C dX8_takeFrom_24 rfl rfl ?_
  refine m_aload_n C dX8_takeFrom_25 rfl rfl ?_
  refine g_1_3 C hj2 q1_83 dX8_takeFrom_26 ?_
  refine m_topi (fun x78 ex78 => ?_)
  have b79 : IV x78 0 4 := by rw [ex78]; exact i76.1 1 j2 3
  refine p_1_3 C hj q1_83 dX8_takeFrom_29 ?_
  refine m_tops (fun τ80 eτ80 => ?_)
  have i81 : Inv τ80 := eτ80 ▸ Inv.put i76 (by decide) b79
  have f82 : Fr MS_X8_takeFromE AS_X8_takeFromE σ τ80 := eτ80 ▸ Fr.put (f77) (Or.inl (by decide))
  refine m_aload_n C dX8_takeFrom_32 rfl rfl ?_
  refine m_aload_n C dX8_takeFrom_33 rfl rfl ?_
  refine g_1_9 C hj2 q1_95 dX8_takeFrom_34 ?_
  refine m_topi (fun x83 ex83 => ?_)
  refine p_1_9 C hj q1_95 dX8_takeFrom_37 ?_
  refine m_tops (fun τ84 eτ84 => ?_)
  have i85 : Inv τ84 := eτ84 ▸ Inv.putF i81 (by decide) rfl
  have f86 : Fr MS_X8_takeFromE AS_X8_takeFromE σ τ84 := eτ84 ▸ Fr.put (f82) (Or.inl (by decide))
  refine m_aload_n C dX8_takeFrom_40 rfl rfl ?_
  refine m_aload_n C dX8_takeFrom_41 rfl rfl ?_
  refine g_1_10 C hj2 q1_97 dX8_takeFrom_42 ?_
  refine m_topi (fun x87 ex87 => ?_)
  refine p_1_10 C hj q1_97 dX8_takeFrom_45 ?_
  refine m_tops (fun τ88 eτ88 => ?_)
  have i89 : Inv τ88 := eτ88 ▸ Inv.putF i85 (by decide) rfl
  have f90 : Fr MS_X8_takeFromE AS_X8_takeFromE σ τ88 := eτ88 ▸ Fr.put (f86) (Or.inl (by decide))
  refine m_aload_n C dX8_takeFrom_48 rfl rfl ?_
  refine m_aload_n C dX8_takeFrom_49 rfl rfl ?_
  refine g_1_11 C hj2 q1_99 dX8_takeFrom_50 ?_
  refine m_topi (fun x91 ex91 => ?_)
  refine p_1_11 C hj q1_99 dX8_takeFrom_53 ?_
  refine m_tops (fun τ92 eτ92 => ?_)
  have i93 : Inv τ92 := eτ92 ▸ Inv.putF i89 (by decide) rfl
  have f94 : Fr MS_X8_takeFromE AS_X8_takeFromE σ τ92 := eτ92 ▸ Fr.put (f90) (Or.inl (by decide))
  refine m_iconst (v := 0) C dX8_takeFrom_56 (by decide) ?_
  refine m_istore_n (L1 := [some (.ref (G.1 1 j)), some (.ref (G.1 1 j2)), some (.int 0)]) C dX8_takeFrom_57 rfl (by decide) rfl rfl ?_
  have q95 : (gV τ92 1 j 2).toInt = (gV σ 1 j2 2).toInt := congrArg Int32.toInt (show (gV τ92 1 j 2) = (gV σ 1 j2 2) from (show gV τ92 1 j 2 = (gV σ 1 j2 2) from gV_put eτ92 (show gV τ88 1 j 2 = (gV σ 1 j2 2) from gV_put eτ88 (show gV τ84 1 j 2 = (gV σ 1 j2 2) from gV_put eτ84 (show gV τ80 1 j 2 = (gV σ 1 j2 2) from gV_put eτ80 (show gV τ75 1 j 2 = (gV σ 1 j2 2) from gV_put eτ75 (gV_self _ _ _ _ _)))))))
  exact J58 ((7 - (0 : Int32).toInt).toNat + 1) τ92 0 i93 f94 (iv_wk kc_0 (by decide)) (by omega) (Nat.lt_succ_self _)
