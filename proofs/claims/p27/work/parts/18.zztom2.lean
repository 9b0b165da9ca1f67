abbrev MS_X12_inE : List (Nat × Nat) := []
abbrev AS_X12_inE : List Nat := []
set_option maxHeartbeats 4000000 in
set_option maxRecDepth 100000 in
theorem c_X12_inE (l : Launch) (G : Gt) (σ : Sg) (a1 : Int64) (a2 : Int64) (a3 : Int64) (hI : Inv σ) : Mc l G yX12_in cX12_in 6 (some .boolean) 0 0 0 0 [.long a1, .long a2, .long a3] σ (PI fun r τ => Inv τ ∧ Fr MS_X12_inE AS_X12_inE σ τ ∧ IV r 0 1 ∧ (τ = σ ∧ ((r.toInt = 1 ∧ a2.toInt ≤ a1.toInt ∧ a1.toInt ≤ a3.toInt) ∨ (r.toInt = 0 ∧ (a1.toInt < a2.toInt ∨ a3.toInt < a1.toInt))))) := by
  refine Mc.of (L0 := [some (.long a1), none, some (.long a2), none, some (.long a3), none]) (by decide) (Nat.le_of_ble_eq_true rfl) rfl ?_
  intro p e s m args below meth c C hr hlk
  have C : Cx p s m args c cX12_in 6 "LeanTowerModel" := C
  have k0 : (0 : Int32).toInt = 0 := by decide
  have k1 : (1 : Int32).toInt = 1 := by decide
  refine m_lload_n C dX12_in_0 rfl rfl ?_
  refine m_lload_n C dX12_in_1 rfl rfl ?_
  refine m_lcmp C dX12_in_2 ?_
  refine m_topi (fun x1 ex1 => ?_)
  have b2 : IV x1 (-1) 1 := by rw [ex1]; rcases lgc a1 a2 with q | q | q <;> omega
  have f3 := lgc a1 a2
  rw [← ex1] at f3
  refine m_if_lt (tgt := 17) C dX12_in_3 (by decide) (fun c6 => ?_) (fun c6 => ?_)
  · have f7 : x1.toInt < 0 := by
      have q : _ := c6
      simp only [ti_nle, ti_nlt, ti_le, ti_lt, ti_eq, ti_ne, Classical.not_not, kt_0] at q
      omega
    have b8 : IV x1 (-1) (-1) := ⟨by have q1 := b2; have q2 := kc_0; omega, by have q1 := b2; have q2 := kc_0; omega⟩
    refine m_iconst (v := 0) C dX12_in_17 (by decide) ?_
    exact m_zret C hr rfl hlk (by decide) (by decide) dX12_in_18 ⟨_, rfl, hI, Fr.rf, (iv_wk kc_0 (by decide)), ⟨rfl, by omega⟩⟩
  · have f9 : 0 ≤ x1.toInt := by
      have q : _ := c6
      simp only [ti_nle, ti_nlt, ti_le, ti_lt, ti_eq, ti_ne, Classical.not_not, kt_0] at q
      omega
    have b10 : IV x1 0 1 := ⟨by have q1 := kc_0; have q2 := b2; omega, by have q1 := kc_0; have q2 := b2; omega⟩
    refine m_lload_n C dX12_in_6 rfl rfl ?_
    refine m_lload C dX12_in_7 rfl ?_
    refine m_lcmp C dX12_in_9 ?_
    refine m_topi (fun x11 ex11 => ?_)
    have b12 : IV x11 (-1) 1 := by rw [ex11]; rcases lgc a1 a3 with q | q | q <;> omega
    have f13 := lgc a1 a3
    rw [← ex11] at f13
    refine m_if_gt (tgt := 17) C dX12_in_10 (by decide) (fun c16 => ?_) (fun c16 => ?_)
    · have f17 : 0 < x11.toInt := by
        have q : _ := c16
        simp only [ti_nle, ti_nlt, ti_le, ti_lt, ti_eq, ti_ne, Classical.not_not, kt_0] at q
        omega
      have b18 : IV x11 1 1 := ⟨by have q1 := kc_0; have q2 := b12; omega, by have q1 := kc_0; have q2 := b12; omega⟩
      refine m_iconst (v := 0) C dX12_in_17 (by decide) ?_
      exact m_zret C hr rfl hlk (by decide) (by decide) dX12_in_18 ⟨_, rfl, hI, Fr.rf, (iv_wk kc_0 (by decide)), ⟨rfl, by omega⟩⟩
    · have f19 : x11.toInt ≤ 0 := by
        have q : _ := c16
        simp only [ti_nle, ti_nlt, ti_le, ti_lt, ti_eq, ti_ne, Classical.not_not, kt_0] at q
        omega
      have b20 : IV x11 (-1) 0 := ⟨by have q1 := b12; have q2 := kc_0; omega, by have q1 := b12; have q2 := kc_0; omega⟩
      refine m_iconst (v := 1) C dX12_in_13 (by decide) ?_
      refine m_goto (tgt := 18) C dX12_in_14 (by decide) ?_
      exact m_zret C hr rfl hlk (by decide) (by decide) dX12_in_18 ⟨_, rfl, hI, Fr.rf, (iv_wk kc_1 (by decide)), ⟨rfl, by omega⟩⟩

abbrev MS_X12_nextE : List (Nat × Nat) := [(22, 11), (22, 12), (22, 13), (22, 15)]
abbrev AS_X12_nextE : List Nat := []
set_option maxHeartbeats 4000000 in
set_option maxRecDepth 100000 in
theorem c_X12_nextE (l : Launch) (G : Gt) (σ : Sg) (T : Nat → Int) (N : Nat) (i : Nat) (hI : Inv σ) (hT : TpM σ T N) (hi5 : ((gV σ 22 0 11).toInt = (i : Int) ∧ (i : Int) ≤ N)) : Mc l G yX12_next cX12_next 1 none 1 25 0 0 [.ref (G.1 22 0)] σ (PV fun τ => Inv τ ∧ Fr MS_X12_nextE AS_X12_nextE σ τ ∧ (((gV τ 22 0 12).toInt = (tS T i : Int) ∧ (tK T N i ≠ 4 → (gV τ 22 0 11).toInt = (tE T N i : Int)) ∧ (gV τ 22 0 13).toInt = (tK T N i + 4) % 5 ∧ 0 ≤ tK T N i ∧ tK T N i ≤ 4 ∧ (tK T N i = 2 → (gV τ 22 0 15).toInt = tV T i) ∧ (gV τ 22 0 12).toInt ≤ 400) ∧ (gV τ 22 0 11).toInt ≤ (gV τ 22 0 6).toInt ∧ LW T N i τ.2.2.1)) := by
  refine Mc.of (L0 := [some (.ref (G.1 22 0))]) (by decide) (Nat.le_of_ble_eq_true rfl) rfl ?_
  intro p e s m args below meth c C hr hlk
  have C : Cx p s m args c cX12_next 1 "LeanTowerModel" := C
  have k0 : (0 : Int32).toInt = 0 := by decide
  have k1 : (1 : Int32).toInt = 1 := by decide
  have J206 : ∀ (n : Nat) (τ : Sg), Inv τ → Fr MS_X12_nextE AS_X12_nextE σ τ → (TpM τ T N) → (((gV τ 22 0 12).toInt = (tS T i : Int) ∧ (tS T i : Int) ≤ 400 ∧ (gV τ 22 0 11).toInt ≤ N)) → ((((gV τ 22 0 13).toInt = 0 ∧ (gV τ 22 0 11).toInt = (sc isLe T (tS T i) : Int) ∧ (tS T i : Int) < (gV τ 22 0 11).toInt ∧ (tS T i : Int) < N ∧ 97 ≤ T (tS T i) ∧ T (tS T i) ≤ 122 ∧ LNI T (tS T i) (gV τ 22 0 11).toInt τ.2.2.1) ∨ ((gV τ 22 0 13).toInt ≠ 0 ∧ ¬ ((tS T i : Int) < N ∧ 97 ≤ T (tS T i) ∧ T (tS T i) ≤ 122) ∧ (tS T i : Int) ≤ (gV τ 22 0 11).toInt ∧ ((gV τ 22 0 11).toInt = (tS T i : Int) → (((N : Int) ≤ (tS T i : Int) ∧ (gV τ 22 0 13).toInt = 4) ∨ ((tS T i : Int) < N ∧ T (tS T i) = 59 ∧ (gV τ 22 0 13).toInt = 2) ∨ ((tS T i : Int) < N ∧ T (tS T i) ≠ 59 ∧ (gV τ 22 0 13).toInt = 3))) ∧ ((tS T i : Int) < (gV τ 22 0 11).toInt → ((tS T i : Int) < N ∧ 48 ≤ T (tS T i) ∧ T (tS T i) ≤ 57 ∧ ((gV τ 22 0 11).toInt ≤ (tS T i : Int) + 3 → (gV τ 22 0 13).toInt = 1) ∧ ((tS T i : Int) + 3 < (gV τ 22 0 11).toInt → (gV τ 22 0 13).toInt = 3))) ∧ sc isFi T (gV τ 22 0 11).toInt.toNat = sc isFi T (tS T i) ∧ NVI T (tS T i) (gV τ 22 0 11).toInt (gV τ 22 0 15).toInt))) → (400 - (gV τ 22 0 11).toInt).toNat < n → MW p l e { frames := 1, cells := 0, slots := 0, locals := 25 } s m args below meth c (MQ below (QP G (PV fun τ => Inv τ ∧ Fr MS_X12_nextE AS_X12_nextE σ τ ∧ (((gV τ 22 0 12).toInt = (tS T i : Int) ∧ (tK T N i ≠ 4 → (gV τ 22 0 11).toInt = (tE T N i : Int)) ∧ (gV τ 22 0 13).toInt = (tK T N i + 4) % 5 ∧ 0 ≤ tK T N i ∧ tK T N i ≤ 4 ∧ (tK T N i = 2 → (gV τ 22 0 15).toInt = tV T i) ∧ (gV τ 22 0 12).toInt ≤ 400) ∧ (gV τ 22 0 11).toInt ≤ (gV τ 22 0 6).toInt ∧ LW T N i τ.2.2.1))) args s 0 0 (aG G)) 1 G 0 0 206 [some (.ref (G.1 22 0))] [] τ := by
    intro n
    induction n with
    | zero => intro τ iτ fτ v_T n1 nD hm; exact absurd hm (Nat.not_lt_zero _)
    | succ n ih206 =>
      intro τ iτ fτ v_T n1 nD hm206
      have u2 : IV (gV τ 22 0 11) 0 400 := iτ.1 22 0 11
      have u3 : IV (gV τ 22 0 6) 0 400 := iτ.1 22 0 6
      have q4 : (gV τ 22 0 6).toInt = (N : Int) := v_T.1
      have q5 := v_T.2.1
      rcases nD with ⟨n0_, n1_, n2_, n3_, n4_, n5_, nL⟩ | ⟨n0_, n1_, n2_, n3_, n4_, nF, nN⟩
      · have b6 : IV (gV τ 22 0 13) 0 0 := ⟨by omega, by omega⟩
        refine m_aload_n C dX12_next_206 rfl rfl ?_
        refine g_22_13 C q4_129 dX12_next_207 ?_
        refine m_eqs (w := (gV τ 22 0 13)) rfl ?_
        refine m_if_eq (tgt := 322) C dX12_next_210 (by decide) (fun c7 => ?_) (fun c7 => ?_)
        · have f8 : (gV τ 22 0 13).toInt = 0 := by
            have q : _ := c7
            simp only [ti_nle, ti_nlt, ti_le, ti_lt, ti_eq, ti_ne, Classical.not_not, kt_0] at q
            omega
          refine m_aload_n C dX12_next_322 rfl rfl ?_
          refine m_dup C dX12_next_323 rfl ?_
          refine g_22_11 C q4_127 dX12_next_324 ?_
          refine m_eqs (w := (gV τ 22 0 11)) rfl ?_
          refine m_aload_n C dX12_next_327 rfl rfl ?_
          refine g_22_13 C q4_129 dX12_next_328 ?_
          refine m_eqs (w := (gV τ 22 0 13)) rfl ?_
          refine m_iconst (v := 2) C dX12_next_331 (by decide) ?_
          refine m_icmp_ne (tgt := 339) C dX12_next_332 (by decide) (fun c9 => ?_) (fun c9 => ?_)
          · have f10 : (gV τ 22 0 13).toInt ≠ 2 := by
              have q : _ := c9
              simp only [ti_nle, ti_nlt, ti_le, ti_lt, ti_eq, ti_ne, Classical.not_not, kt_2] at q
              omega
            refine m_iconst (v := 0) C dX12_next_339 (by decide) ?_
            refine m_iadd C dX12_next_340 ?_
            refine m_topi (fun x11 ex11 => ?_)
            have tx11 : x11.toInt = (gV τ 22 0 11).toInt + 0 := by rw [ex11, ti_addv u2 kc_0 (by decide), kt_0]
            have b12 : IV x11 0 400 := by rw [ex11]; exact iv_add u2 kc_0 (by decide)
            refine p_22_11 C q4_127 dX12_next_341 ?_
            refine m_tops (fun τ13 eτ13 => ?_)
            have i14 : Inv τ13 := eτ13 ▸ Inv.put iτ (by decide) b12
            have f15 : Fr MS_X12_nextE AS_X12_nextE σ τ13 := eτ13 ▸ Fr.put (fτ) (Or.inl (by decide))
            have v16 : TpM τ13 T N := v_T.put eτ13 (Or.inr (by decide)) (by decide)
            have v17 : τ13.2.2.1 = τ.2.2.1 := by rw [eτ13]; rfl
            have q18 : (gV τ13 22 0 12).toInt = (gV τ 22 0 12).toInt := congrArg Int32.toInt (show (gV τ13 22 0 12) = (gV τ 22 0 12) from (show gV τ13 22 0 12 = (gV τ 22 0 12) from gV_put eτ13 rfl))
            have q19 : (gV τ13 22 0 13).toInt = (gV τ 22 0 13).toInt := congrArg Int32.toInt (show (gV τ13 22 0 13) = (gV τ 22 0 13) from (show gV τ13 22 0 13 = (gV τ 22 0 13) from gV_put eτ13 rfl))
            have q20 : (gV τ13 22 0 15).toInt = (gV τ 22 0 15).toInt := congrArg Int32.toInt (show (gV τ13 22 0 15) = (gV τ 22 0 15) from (show gV τ13 22 0 15 = (gV τ 22 0 15) from gV_put eτ13 rfl))
            have q21 : (gV τ13 22 0 6).toInt = (gV τ 22 0 6).toInt := congrArg Int32.toInt (show (gV τ13 22 0 6) = (gV τ 22 0 6) from (show gV τ13 22 0 6 = (gV τ 22 0 6) from gV_put eτ13 rfl))
            have q22 : (gV τ13 22 0 11).toInt = x11.toInt := congrArg Int32.toInt (show (gV τ13 22 0 11) = x11 from (show gV τ13 22 0 11 = x11 from gV_put eτ13 (gV_self _ _ _ _ _)))
            exact m_vret C hr hlk (by decide) (by decide) dX12_next_344 ⟨rfl, i14, f15, (by have q0 := tok1 (T := T) (N := N) (i := i) (by omega) ⟨by omega, by omega⟩; refine ⟨by omega, by omega, ?_⟩; exact LW.of (e := (gV τ 22 0 11).toInt) (by rw [v17]; exact nL) (by omega) (by omega))⟩
          · exfalso
            have q : _ := c9
            simp only [ti_nle, ti_nlt, ti_le, ti_lt, ti_eq, ti_ne, Classical.not_not, kt_2] at q
            have q1 := b6; have q2 := kc_2; omega
        · exfalso
          have q : _ := c7
          simp only [ti_nle, ti_nlt, ti_le, ti_lt, ti_eq, ti_ne, Classical.not_not, kt_0] at q
          have q1 := b6; have q2 := kc_0; omega
      · skip
        refine m_aload_n C dX12_next_206 rfl rfl ?_
        refine g_22_13 C q4_129 dX12_next_207 ?_
        refine m_eqs (w := (gV τ 22 0 13)) rfl ?_
        refine m_if_eq (tgt := 322) C dX12_next_210 (by decide) (fun c25 => ?_) (fun c25 => ?_)
        · have f26 : (gV τ 22 0 13).toInt = 0 := by
            have q : _ := c25
            simp only [ti_nle, ti_nlt, ti_le, ti_lt, ti_eq, ti_ne, Classical.not_not, kt_0] at q
            omega
          have b27 : IV (gV τ 22 0 13) 0 0 := ⟨by have q1 := (iv_any (gV τ 22 0 13)); have q2 := kc_0; omega, by have q1 := (iv_any (gV τ 22 0 13)); have q2 := kc_0; omega⟩
          refine m_aload_n C dX12_next_322 rfl rfl ?_
          refine m_dup C dX12_next_323 rfl ?_
          refine g_22_11 C q4_127 dX12_next_324 ?_
          refine m_eqs (w := (gV τ 22 0 11)) rfl ?_
          refine m_aload_n C dX12_next_327 rfl rfl ?_
          refine g_22_13 C q4_129 dX12_next_328 ?_
          refine m_eqs (w := (gV τ 22 0 13)) rfl ?_
          refine m_iconst (v := 2) C dX12_next_331 (by decide) ?_
          refine m_icmp_ne (tgt := 339) C dX12_next_332 (by decide) (fun c28 => ?_) (fun c28 => ?_)
          · have f29 : (gV τ 22 0 13).toInt ≠ 2 := by
              have q : _ := c28
              simp only [ti_nle, ti_nlt, ti_le, ti_lt, ti_eq, ti_ne, Classical.not_not, kt_2] at q
              omega
            refine m_iconst (v := 0) C dX12_next_339 (by decide) ?_
            refine m_iadd C dX12_next_340 ?_
            refine m_topi (fun x30 ex30 => ?_)
            have tx30 : x30.toInt = (gV τ 22 0 11).toInt + 0 := by rw [ex30, ti_addv u2 kc_0 (by decide), kt_0]
            have b31 : IV x30 0 400 := by rw [ex30]; exact iv_add u2 kc_0 (by decide)
            refine p_22_11 C q4_127 dX12_next_341 ?_
            refine m_tops (fun τ32 eτ32 => ?_)
            have i33 : Inv τ32 := eτ32 ▸ Inv.put iτ (by decide) b31
            have f34 : Fr MS_X12_nextE AS_X12_nextE σ τ32 := eτ32 ▸ Fr.put (fτ) (Or.inl (by decide))
            have v35 : TpM τ32 T N := v_T.put eτ32 (Or.inr (by decide)) (by decide)
            have v36 : τ32.2.2.1 = τ.2.2.1 := by rw [eτ32]; rfl
            have q37 : (gV τ32 22 0 12).toInt = (gV τ 22 0 12).toInt := congrArg Int32.toInt (show (gV τ32 22 0 12) = (gV τ 22 0 12) from (show gV τ32 22 0 12 = (gV τ 22 0 12) from gV_put eτ32 rfl))
            have q38 : (gV τ32 22 0 13).toInt = (gV τ 22 0 13).toInt := congrArg Int32.toInt (show (gV τ32 22 0 13) = (gV τ 22 0 13) from (show gV τ32 22 0 13 = (gV τ 22 0 13) from gV_put eτ32 rfl))
            have q39 : (gV τ32 22 0 15).toInt = (gV τ 22 0 15).toInt := congrArg Int32.toInt (show (gV τ32 22 0 15) = (gV τ 22 0 15) from (show gV τ32 22 0 15 = (gV τ 22 0 15) from gV_put eτ32 rfl))
            have q40 : (gV τ32 22 0 6).toInt = (gV τ 22 0 6).toInt := congrArg Int32.toInt (show (gV τ32 22 0 6) = (gV τ 22 0 6) from (show gV τ32 22 0 6 = (gV τ 22 0 6) from gV_put eτ32 rfl))
            have q41 : (gV τ32 22 0 11).toInt = x30.toInt := congrArg Int32.toInt (show (gV τ32 22 0 11) = x30 from (show gV τ32 22 0 11 = x30 from gV_put eτ32 (gV_self _ _ _ _ _)))
            exact m_vret C hr hlk (by decide) (by decide) dX12_next_344 ⟨rfl, i33, f34, (by have q0 := sc_no (P := isFi) (T := T) (i := ((gV τ 22 0 11).toInt.toNat)) (isFi_f (by first | omega | (have q2 := v35.2.2.2 ((gV τ 22 0 11).toInt.toNat) (by omega); omega))); have q3 := nF; have qT : (gV τ 22 0 11).toInt = (tS T i : Int) → T (tS T i) = T ((gV τ 22 0 11).toInt.toNat) := (fun g => by rw [show tS T i = ((gV τ 22 0 11).toInt.toNat) by omega]); by_cases g0 : N ≤ tS T i; (have q := tok0 (T := T) (N := N) (i := i) g0; exact ⟨by omega, by omega, LW.none (by omega)⟩); by_cases g1 : 48 ≤ T (tS T i) ∧ T (tS T i) ≤ 57; (have q := tok2 (T := T) (N := N) (i := i) (by omega) g1; have q8 : (gV τ 22 0 11).toInt ≠ (tS T i : Int) := (fun g => by have := qT g; omega); refine ⟨⟨by omega, by omega, by omega, by omega, by omega, fun g => ?_, by omega⟩, by omega, LW.none (by omega)⟩; have q9 := nN.val (by omega) (by omega); show _ = nv T (tS T i) (sc isFi T (tS T i) - tS T i); omega); (have q := tok3 (T := T) (N := N) (i := i) (by omega) (by omega) (by omega); have q8 : (gV τ 22 0 11).toInt = (tS T i : Int) := (by omega); exact ⟨by omega, by omega, LW.none (by omega)⟩))⟩
          · exfalso
            have q : _ := c28
            simp only [ti_nle, ti_nlt, ti_le, ti_lt, ti_eq, ti_ne, Classical.not_not, kt_2] at q
            have q1 := b27; have q2 := kc_2; omega
        · have f43 : (gV τ 22 0 13).toInt ≠ 0 := by
            have q : _ := c25
            simp only [ti_nle, ti_nlt, ti_le, ti_lt, ti_eq, ti_ne, Classical.not_not, kt_0] at q
            omega
          refine m_aload_n C dX12_next_213 rfl rfl ?_
          refine g_22_11 C q4_127 dX12_next_214 ?_
          refine m_eqs (w := (gV τ 22 0 11)) rfl ?_
          refine m_aload_n C dX12_next_217 rfl rfl ?_
          refine g_22_6 C q4_122 dX12_next_218 ?_
          refine m_eqs (w := (gV τ 22 0 6)) rfl ?_
          refine m_icmp_ge (tgt := 322) C dX12_next_221 (by decide) (fun c44 => ?_) (fun c44 => ?_)
          · have f45 : (gV τ 22 0 6).toInt ≤ (gV τ 22 0 11).toInt := by
              have q : _ := c44
              simp only [ti_nle, ti_nlt, ti_le, ti_lt, ti_eq, ti_ne, Classical.not_not] at q
              omega
            refine m_aload_n C dX12_next_322 rfl rfl ?_
            refine m_dup C dX12_next_323 rfl ?_
            refine g_22_11 C q4_127 dX12_next_324 ?_
            refine m_eqs (w := (gV τ 22 0 11)) rfl ?_
            refine m_aload_n C dX12_next_327 rfl rfl ?_
            refine g_22_13 C q4_129 dX12_next_328 ?_
            refine m_eqs (w := (gV τ 22 0 13)) rfl ?_
            refine m_iconst (v := 2) C dX12_next_331 (by decide) ?_
            refine m_icmp_ne (tgt := 339) C dX12_next_332 (by decide) (fun c46 => ?_) (fun c46 => ?_)
            · have f47 : (gV τ 22 0 13).toInt ≠ 2 := by
                have q : _ := c46
                simp only [ti_nle, ti_nlt, ti_le, ti_lt, ti_eq, ti_ne, Classical.not_not, kt_2] at q
                omega
              refine m_iconst (v := 0) C dX12_next_339 (by decide) ?_
              refine m_iadd C dX12_next_340 ?_
              refine m_topi (fun x48 ex48 => ?_)
              have tx48 : x48.toInt = (gV τ 22 0 11).toInt + 0 := by rw [ex48, ti_addv u2 kc_0 (by decide), kt_0]
              have b49 : IV x48 0 400 := by rw [ex48]; exact iv_add u2 kc_0 (by decide)
              refine p_22_11 C q4_127 dX12_next_341 ?_
              refine m_tops (fun τ50 eτ50 => ?_)
              have i51 : Inv τ50 := eτ50 ▸ Inv.put iτ (by decide) b49
              have f52 : Fr MS_X12_nextE AS_X12_nextE σ τ50 := eτ50 ▸ Fr.put (fτ) (Or.inl (by decide))
              have v53 : TpM τ50 T N := v_T.put eτ50 (Or.inr (by decide)) (by decide)
              have v54 : τ50.2.2.1 = τ.2.2.1 := by rw [eτ50]; rfl
              have q55 : (gV τ50 22 0 12).toInt = (gV τ 22 0 12).toInt := congrArg Int32.toInt (show (gV τ50 22 0 12) = (gV τ 22 0 12) from (show gV τ50 22 0 12 = (gV τ 22 0 12) from gV_put eτ50 rfl))
              have q56 : (gV τ50 22 0 13).toInt = (gV τ 22 0 13).toInt := congrArg Int32.toInt (show (gV τ50 22 0 13) = (gV τ 22 0 13) from (show gV τ50 22 0 13 = (gV τ 22 0 13) from gV_put eτ50 rfl))
              have q57 : (gV τ50 22 0 15).toInt = (gV τ 22 0 15).toInt := congrArg Int32.toInt (show (gV τ50 22 0 15) = (gV τ 22 0 15) from (show gV τ50 22 0 15 = (gV τ 22 0 15) from gV_put eτ50 rfl))
              have q58 : (gV τ50 22 0 6).toInt = (gV τ 22 0 6).toInt := congrArg Int32.toInt (show (gV τ50 22 0 6) = (gV τ 22 0 6) from (show gV τ50 22 0 6 = (gV τ 22 0 6) from gV_put eτ50 rfl))
              have q59 : (gV τ50 22 0 11).toInt = x48.toInt := congrArg Int32.toInt (show (gV τ50 22 0 11) = x48 from (show gV τ50 22 0 11 = x48 from gV_put eτ50 (gV_self _ _ _ _ _)))
              exact m_vret C hr hlk (by decide) (by decide) dX12_next_344 ⟨rfl, i51, f52, (by have q0 := sc_no (P := isFi) (T := T) (i := ((gV τ 22 0 11).toInt.toNat)) (isFi_f (by first | omega | (have q2 := v53.2.2.2 ((gV τ 22 0 11).toInt.toNat) (by omega); omega))); have q3 := nF; have qT : (gV τ 22 0 11).toInt = (tS T i : Int) → T (tS T i) = T ((gV τ 22 0 11).toInt.toNat) := (fun g => by rw [show tS T i = ((gV τ 22 0 11).toInt.toNat) by omega]); by_cases g0 : N ≤ tS T i; (have q := tok0 (T := T) (N := N) (i := i) g0; exact ⟨by omega, by omega, LW.none (by omega)⟩); by_cases g1 : 48 ≤ T (tS T i) ∧ T (tS T i) ≤ 57; (have q := tok2 (T := T) (N := N) (i := i) (by omega) g1; have q8 : (gV τ 22 0 11).toInt ≠ (tS T i : Int) := (fun g => by have := qT g; omega); refine ⟨⟨by omega, by omega, by omega, by omega, by omega, fun g => ?_, by omega⟩, by omega, LW.none (by omega)⟩; have q9 := nN.val (by omega) (by omega); show _ = nv T (tS T i) (sc isFi T (tS T i) - tS T i); omega); (have q := tok3 (T := T) (N := N) (i := i) (by omega) (by omega) (by omega); have q8 : (gV τ 22 0 11).toInt = (tS T i : Int) := (by omega); exact ⟨by omega, by omega, LW.none (by omega)⟩))⟩
            · have f60 : (gV τ 22 0 13).toInt = 2 := by
                have q : _ := c46
                simp only [ti_nle, ti_nlt, ti_le, ti_lt, ti_eq, ti_ne, Classical.not_not, kt_2] at q
                omega
              have b61 : IV (gV τ 22 0 13) 2 2 := ⟨by have q1 := (iv_any (gV τ 22 0 13)); have q2 := kc_2; omega, by have q1 := (iv_any (gV τ 22 0 13)); have q2 := kc_2; omega⟩
              refine m_iconst (v := 1) C dX12_next_335 (by decide) ?_
              refine m_goto (tgt := 340) C dX12_next_336 (by decide) ?_
              have b62 : IV (gV τ 22 0 11) 0 399 := ⟨by omega, by omega⟩
              refine m_iadd C dX12_next_340 ?_
              refine m_topi (fun x63 ex63 => ?_)
              have tx63 : x63.toInt = (gV τ 22 0 11).toInt + 1 := by rw [ex63, ti_addv b62 kc_1 (by decide), kt_1]
              have b64 : IV x63 1 400 := by rw [ex63]; exact iv_add b62 kc_1 (by decide)
              refine p_22_11 C q4_127 dX12_next_341 ?_
              refine m_tops (fun τ65 eτ65 => ?_)
              have i66 : Inv τ65 := eτ65 ▸ Inv.put iτ (by decide) (iv_wk b64 (by decide))
              have f67 : Fr MS_X12_nextE AS_X12_nextE σ τ65 := eτ65 ▸ Fr.put (fτ) (Or.inl (by decide))
              have v68 : TpM τ65 T N := v_T.put eτ65 (Or.inr (by decide)) (by decide)
              have v69 : τ65.2.2.1 = τ.2.2.1 := by rw [eτ65]; rfl
              have q70 : (gV τ65 22 0 12).toInt = (gV τ 22 0 12).toInt := congrArg Int32.toInt (show (gV τ65 22 0 12) = (gV τ 22 0 12) from (show gV τ65 22 0 12 = (gV τ 22 0 12) from gV_put eτ65 rfl))
              have q71 : (gV τ65 22 0 13).toInt = (gV τ 22 0 13).toInt := congrArg Int32.toInt (show (gV τ65 22 0 13) = (gV τ 22 0 13) from (show gV τ65 22 0 13 = (gV τ 22 0 13) from gV_put eτ65 rfl))
              have q72 : (gV τ65 22 0 15).toInt = (gV τ 22 0 15).toInt := congrArg Int32.toInt (show (gV τ65 22 0 15) = (gV τ 22 0 15) from (show gV τ65 22 0 15 = (gV τ 22 0 15) from gV_put eτ65 rfl))
              have q73 : (gV τ65 22 0 6).toInt = (gV τ 22 0 6).toInt := congrArg Int32.toInt (show (gV τ65 22 0 6) = (gV τ 22 0 6) from (show gV τ65 22 0 6 = (gV τ 22 0 6) from gV_put eτ65 rfl))
              have q74 : (gV τ65 22 0 11).toInt = x63.toInt := congrArg Int32.toInt (show (gV τ65 22 0 11) = x63 from (show gV τ65 22 0 11 = x63 from gV_put eτ65 (gV_self _ _ _ _ _)))
              exact m_vret C hr hlk (by decide) (by decide) dX12_next_344 ⟨rfl, i66, f67, (by have q0 := sc_no (P := isFi) (T := T) (i := ((gV τ 22 0 11).toInt.toNat)) (isFi_f (by first | omega | (have q2 := v68.2.2.2 ((gV τ 22 0 11).toInt.toNat) (by omega); omega))); have q3 := nF; have qT : (gV τ 22 0 11).toInt = (tS T i : Int) → T (tS T i) = T ((gV τ 22 0 11).toInt.toNat) := (fun g => by rw [show tS T i = ((gV τ 22 0 11).toInt.toNat) by omega]); by_cases g0 : N ≤ tS T i; (have q := tok0 (T := T) (N := N) (i := i) g0; exact ⟨by omega, by omega, LW.none (by omega)⟩); by_cases g1 : 48 ≤ T (tS T i) ∧ T (tS T i) ≤ 57; (have q := tok2 (T := T) (N := N) (i := i) (by omega) g1; have q8 : (gV τ 22 0 11).toInt ≠ (tS T i : Int) := (fun g => by have := qT g; omega); refine ⟨⟨by omega, by omega, by omega, by omega, by omega, fun g => ?_, by omega⟩, by omega, LW.none (by omega)⟩; have q9 := nN.val (by omega) (by omega); show _ = nv T (tS T i) (sc isFi T (tS T i) - tS T i); omega); (have q := tok3 (T := T) (N := N) (i := i) (by omega) (by omega) (by omega); have q8 : (gV τ 22 0 11).toInt = (tS T i : Int) := (by omega); exact ⟨by omega, by omega, LW.none (by omega)⟩))⟩
          · have f75 : (gV τ 22 0 11).toInt < (gV τ 22 0 6).toInt := by
              have q : _ := c44
              simp only [ti_nle, ti_nlt, ti_le, ti_lt, ti_eq, ti_ne, Classical.not_not] at q
              omega
            have b76 : IV (gV τ 22 0 11) 0 399 := ⟨by have q1 := u2; have q2 := u3; omega, by have q1 := u2; have q2 := u3; omega⟩
            have b77 : IV (gV τ 22 0 6) 1 400 := ⟨by have q1 := u2; have q2 := u3; omega, by have q1 := u2; have q2 := u3; omega⟩
            refine m_aload_n C dX12_next_224 rfl rfl ?_
            refine g_22_5 C q4_121 dX12_next_225 ?_
            refine m_aload_n C dX12_next_228 rfl rfl ?_
            refine g_22_11 C q4_127 dX12_next_229 ?_
            refine m_eqs (w := (gV τ 22 0 11)) rfl ?_
            refine al_28 C b76 (by decide) rfl dX12_next_232 ?_
            refine m_topi (fun x78 ex78 => ?_)
            have q79 := v_T.2.2.1 ((gV τ 22 0 11).toInt.toNat) (by omega)
            rw [show gV τ 28 0 ((gV τ 22 0 11).toInt.toNat) = x78 from ex78.symm] at q79
            refine m_i2l C dX12_next_233 ?_
            refine m_ldc2 (v := 48) C dX12_next_234 q4_237 ?_
            refine m_ldc2 (v := 57) C dX12_next_237 q4_238 ?_
            refine m_callS (n := 3) (st := []) C (c_X12_inE l G τ ((x78 : Int32).toInt64) (48) (57) iτ ) q4_190 q4_188 q4_189 q1_7 (by decide +kernel) rfl (by decide) (by decide) rfl (Nat.le_of_ble_eq_true rfl) dX12_next_240 ?_
            rintro _ τ80 ⟨x83, rfl, i81, f82, b84, h86⟩
            have g85 : Fr MS_X12_nextE AS_X12_nextE σ τ80 := Fr.call (fτ) f82 (by decide)
            have v87 : TpM τ80 T N := v_T.fr f82 (by decide) (by decide) (by simp) (by decide)
            have v88 : τ80.2.2.1 = τ.2.2.1 := by rw [h86.1]
            have q89 : (gV τ80 22 0 11).toInt = (gV τ 22 0 11).toInt := congrArg Int32.toInt (show (gV τ80 22 0 11) = (gV τ 22 0 11) from (show gV τ80 22 0 11 = (gV τ 22 0 11) from (f82.1 22 0 (11) (by decide) (by decide)).trans rfl))
            have q90 : (gV τ80 22 0 12).toInt = (gV τ 22 0 12).toInt := congrArg Int32.toInt (show (gV τ80 22 0 12) = (gV τ 22 0 12) from (show gV τ80 22 0 12 = (gV τ 22 0 12) from (f82.1 22 0 (12) (by decide) (by decide)).trans rfl))
            have q91 : (gV τ80 22 0 13).toInt = (gV τ 22 0 13).toInt := congrArg Int32.toInt (show (gV τ80 22 0 13) = (gV τ 22 0 13) from (show gV τ80 22 0 13 = (gV τ 22 0 13) from (f82.1 22 0 (13) (by decide) (by decide)).trans rfl))
            have q92 : (gV τ80 22 0 15).toInt = (gV τ 22 0 15).toInt := congrArg Int32.toInt (show (gV τ80 22 0 15) = (gV τ 22 0 15) from (show gV τ80 22 0 15 = (gV τ 22 0 15) from (f82.1 22 0 (15) (by decide) (by decide)).trans rfl))
            have q93 : (gV τ80 22 0 6).toInt = (gV τ 22 0 6).toInt := congrArg Int32.toInt (show (gV τ80 22 0 6) = (gV τ 22 0 6) from (show gV τ80 22 0 6 = (gV τ 22 0 6) from (f82.1 22 0 (6) (by decide) (by decide)).trans rfl))
            replace h86 := h86.2
            have f94 := tl_i x78
            have f95 := kl_48
            have f96 := kl_57
            rcases h86 with ⟨h86_0, h86_1, h86_2⟩ | ⟨h86_0, h86_1⟩
            · skip
              have b97 : IV x83 1 1 := ⟨by omega, by omega⟩
              show MW p l e _ s m args below meth c _ 1 G 0 0 243 [some (.ref (G.1 22 0))] [.int x83] τ80
              refine m_if_eq (tgt := 322) C dX12_next_243 (by decide) (fun c98 => ?_) (fun c98 => ?_)
              · exfalso
                have q : _ := c98
                simp only [ti_nle, ti_nlt, ti_le, ti_lt, ti_eq, ti_ne, Classical.not_not, kt_0] at q
                have q1 := b97; have q2 := kc_0; omega
              · have f100 : x83.toInt ≠ 0 := by
                  have q : _ := c98
                  simp only [ti_nle, ti_nlt, ti_le, ti_lt, ti_eq, ti_ne, Classical.not_not, kt_0] at q
                  omega
                have b101 : IV x78 48 57 := ⟨by have q1 := (iv_any x78); omega, by have q1 := (iv_any x78); omega⟩
                refine m_aload_n C dX12_next_246 rfl rfl ?_
                refine m_aload_n C dX12_next_247 rfl rfl ?_
                refine g_22_11 C q4_127 dX12_next_248 ?_
                refine m_eqs (w := (gV τ 22 0 11)) (show gV τ80 22 0 11 = (gV τ 22 0 11) from (f82.1 22 0 (11) (by decide) (by decide)).trans rfl) ?_
                refine m_aload_n C dX12_next_251 rfl rfl ?_
                refine g_22_12 C q4_128 dX12_next_252 ?_
                refine m_eqs (w := (gV τ 22 0 12)) (show gV τ80 22 0 12 = (gV τ 22 0 12) from (f82.1 22 0 (12) (by decide) (by decide)).trans rfl) ?_
                have b102 : IV (gV τ 22 0 12) 0 400 := ⟨by have q1 := (iv_any (gV τ 22 0 12)); omega, by have q1 := (iv_any (gV τ 22 0 12)); omega⟩
                refine m_isub C dX12_next_255 ?_
                refine m_topi (fun x103 ex103 => ?_)
                have tx103 : x103.toInt = (gV τ 22 0 11).toInt - (gV τ 22 0 12).toInt := by rw [ex103, ti_subv b76 b102 (by decide)]
                have b104 : IV x103 (-400) 399 := by rw [ex103]; exact iv_sub b76 b102 (by decide)
                refine m_iconst (v := 3) C dX12_next_256 (by decide) ?_
                refine m_icmp_ge (tgt := 283) C dX12_next_257 (by decide) (fun c105 => ?_) (fun c105 => ?_)
                · have f106 : 3 ≤ x103.toInt := by
                    have q : _ := c105
                    simp only [ti_nle, ti_nlt, ti_le, ti_lt, ti_eq, ti_ne, Classical.not_not, kt_3] at q
                    omega
                  have b107 : IV x103 3 399 := ⟨by have q1 := kc_3; have q2 := b104; omega, by have q1 := kc_3; have q2 := b104; omega⟩
                  refine m_iconst (v := 0) C dX12_next_283 (by decide) ?_
                  refine p_22_15 C q4_131 dX12_next_284 ?_
                  refine m_tops (fun τ108 eτ108 => ?_)
                  have i109 : Inv τ108 := eτ108 ▸ Inv.putF i81 (by decide) rfl
                  have f110 : Fr MS_X12_nextE AS_X12_nextE σ τ108 := eτ108 ▸ Fr.put (g85) (Or.inl (by decide))
                  have v111 : TpM τ108 T N := v87.put eτ108 (Or.inr (by decide)) (by decide)
                  have v112 : τ108.2.2.1 = τ.2.2.1 := by rw [eτ108]; exact v88
                  refine m_aload_n C dX12_next_287 rfl rfl ?_
                  refine m_aload_n C dX12_next_288 rfl rfl ?_
                  refine g_22_11 C q4_127 dX12_next_289 ?_
                  refine m_eqs (w := (gV τ 22 0 11)) (show gV τ108 22 0 11 = (gV τ 22 0 11) from gV_put eτ108 (show gV τ80 22 0 11 = (gV τ 22 0 11) from (f82.1 22 0 (11) (by decide) (by decide)).trans rfl)) ?_
                  refine m_aload_n C dX12_next_292 rfl rfl ?_
                  refine g_22_12 C q4_128 dX12_next_293 ?_
                  refine m_eqs (w := (gV τ 22 0 12)) (show gV τ108 22 0 12 = (gV τ 22 0 12) from gV_put eτ108 (show gV τ80 22 0 12 = (gV τ 22 0 12) from (f82.1 22 0 (12) (by decide) (by decide)).trans rfl)) ?_
                  refine m_isub C dX12_next_296 ?_
                  refine m_topi (fun x113 ex113 => ?_)
                  have tx113 : x113.toInt = (gV τ 22 0 11).toInt - (gV τ 22 0 12).toInt := by rw [ex113, ti_subv b76 b102 (by decide)]
                  have b114 : IV x113 (-400) 399 := by rw [ex113]; exact iv_sub b76 b102 (by decide)
                  refine m_iconst (v := 3) C dX12_next_297 (by decide) ?_
                  refine m_icmp_ge (tgt := 305) C dX12_next_298 (by decide) (fun c115 => ?_) (fun c115 => ?_)
                  · have f116 : 3 ≤ x113.toInt := by
                      have q : _ := c115
                      simp only [ti_nle, ti_nlt, ti_le, ti_lt, ti_eq, ti_ne, Classical.not_not, kt_3] at q
                      omega
                    have b117 : IV x113 3 399 := ⟨by have q1 := kc_3; have q2 := b114; omega, by have q1 := kc_3; have q2 := b114; omega⟩
                    refine m_iconst (v := 3) C dX12_next_305 (by decide) ?_
                    refine p_22_13 C q4_129 dX12_next_306 ?_
                    refine m_tops (fun τ118 eτ118 => ?_)
                    have i119 : Inv τ118 := eτ118 ▸ Inv.putF i109 (by decide) rfl
                    have f120 : Fr MS_X12_nextE AS_X12_nextE σ τ118 := eτ118 ▸ Fr.put (f110) (Or.inl (by decide))
                    have v121 : TpM τ118 T N := v111.put eτ118 (Or.inr (by decide)) (by decide)
                    have v122 : τ118.2.2.1 = τ.2.2.1 := by rw [eτ118]; exact v112
                    refine m_aload_n C dX12_next_309 rfl rfl ?_
                    refine m_dup C dX12_next_310 rfl ?_
                    refine g_22_11 C q4_127 dX12_next_311 ?_
                    refine m_eqs (w := (gV τ 22 0 11)) (show gV τ118 22 0 11 = (gV τ 22 0 11) from gV_put eτ118 (show gV τ108 22 0 11 = (gV τ 22 0 11) from gV_put eτ108 (show gV τ80 22 0 11 = (gV τ 22 0 11) from (f82.1 22 0 (11) (by decide) (by decide)).trans rfl))) ?_
                    refine m_iconst (v := 1) C dX12_next_314 (by decide) ?_
                    refine m_iadd C dX12_next_315 ?_
                    refine m_topi (fun x123 ex123 => ?_)
                    have tx123 : x123.toInt = (gV τ 22 0 11).toInt + 1 := by rw [ex123, ti_addv b76 kc_1 (by decide), kt_1]
                    have b124 : IV x123 1 400 := by rw [ex123]; exact iv_add b76 kc_1 (by decide)
                    refine p_22_11 C q4_127 dX12_next_316 ?_
                    refine m_tops (fun τ125 eτ125 => ?_)
                    have i126 : Inv τ125 := eτ125 ▸ Inv.put i119 (by decide) (iv_wk b124 (by decide))
                    have f127 : Fr MS_X12_nextE AS_X12_nextE σ τ125 := eτ125 ▸ Fr.put (f120) (Or.inl (by decide))
                    have v128 : TpM τ125 T N := v121.put eτ125 (Or.inr (by decide)) (by decide)
                    have v129 : τ125.2.2.1 = τ.2.2.1 := by rw [eτ125]; exact v122
                    refine m_goto (tgt := 206) C dX12_next_319 (by decide) ?_
                    have q130 : (gV τ125 22 0 12).toInt = (gV τ 22 0 12).toInt := congrArg Int32.toInt (show (gV τ125 22 0 12) = (gV τ 22 0 12) from (show gV τ125 22 0 12 = (gV τ 22 0 12) from gV_put eτ125 (show gV τ118 22 0 12 = (gV τ 22 0 12) from gV_put eτ118 (show gV τ108 22 0 12 = (gV τ 22 0 12) from gV_put eτ108 (show gV τ80 22 0 12 = (gV τ 22 0 12) from (f82.1 22 0 (12) (by decide) (by decide)).trans rfl)))))
                    have q131 : (gV τ125 22 0 6).toInt = (gV τ 22 0 6).toInt := congrArg Int32.toInt (show (gV τ125 22 0 6) = (gV τ 22 0 6) from (show gV τ125 22 0 6 = (gV τ 22 0 6) from gV_put eτ125 (show gV τ118 22 0 6 = (gV τ 22 0 6) from gV_put eτ118 (show gV τ108 22 0 6 = (gV τ 22 0 6) from gV_put eτ108 (show gV τ80 22 0 6 = (gV τ 22 0 6) from (f82.1 22 0 (6) (by decide) (by decide)).trans rfl)))))
                    have q132 : (gV τ125 22 0 15).toInt = 0 := (congrArg Int32.toInt (show (gV τ125 22 0 15) = 0 from (show gV τ125 22 0 15 = 0 from gV_put eτ125 (show gV τ118 22 0 15 = 0 from gV_put eτ118 (show gV τ108 22 0 15 = 0 from gV_put eτ108 (gV_self _ _ _ _ _)))))).trans kt_0
                    have q133 : (gV τ125 22 0 13).toInt = 3 := (congrArg Int32.toInt (show (gV τ125 22 0 13) = 3 from (show gV τ125 22 0 13 = 3 from gV_put eτ125 (show gV τ118 22 0 13 = 3 from gV_put eτ118 (gV_self _ _ _ _ _))))).trans kt_3
                    have q134 : (gV τ125 22 0 11).toInt = x123.toInt := congrArg Int32.toInt (show (gV τ125 22 0 11) = x123 from (show gV τ125 22 0 11 = x123 from gV_put eτ125 (gV_self _ _ _ _ _)))
                    exact ih206 τ125 i126 f127 v128 (by omega) (Or.inr (by have qT : (gV τ 22 0 11).toInt = (tS T i : Int) → T (tS T i) = T ((gV τ 22 0 11).toInt.toNat) := (fun g => by rw [show tS T i = ((gV τ 22 0 11).toInt.toNat) by omega]); exact ⟨by omega, by omega, by omega, fun _ => by omega, fun _ => by omega, by rw [show (gV τ125 22 0 11).toInt.toNat = ((gV τ 22 0 11).toInt.toNat) + 1 by omega, sc_go (by omega) (isFi_t (by omega))]; exact nF, nN.more (k := (gV τ 22 0 11).toInt.toNat) (by omega) (by omega) ⟨by omega, by omega⟩ (fun g => absurd g (by omega))⟩)) (by have q := hm206; omega)
                  · have f135 : x113.toInt < 3 := by
                      have q : _ := c115
                      simp only [ti_nle, ti_nlt, ti_le, ti_lt, ti_eq, ti_ne, Classical.not_not, kt_3] at q
                      omega
                    have b136 : IV x113 (-400) 2 := ⟨by have q1 := b114; have q2 := kc_3; omega, by have q1 := b114; have q2 := kc_3; omega⟩
                    refine m_iconst (v := 1) C dX12_next_301 (by decide) ?_
                    refine m_goto (tgt := 306) C dX12_next_302 (by decide) ?_
                    refine p_22_13 C q4_129 dX12_next_306 ?_
                    refine m_tops (fun τ137 eτ137 => ?_)
                    have i138 : Inv τ137 := eτ137 ▸ Inv.putF i109 (by decide) rfl
                    have f139 : Fr MS_X12_nextE AS_X12_nextE σ τ137 := eτ137 ▸ Fr.put (f110) (Or.inl (by decide))
                    have v140 : TpM τ137 T N := v111.put eτ137 (Or.inr (by decide)) (by decide)
                    have v141 : τ137.2.2.1 = τ.2.2.1 := by rw [eτ137]; exact v112
                    refine m_aload_n C dX12_next_309 rfl rfl ?_
                    refine m_dup C dX12_next_310 rfl ?_
                    refine g_22_11 C q4_127 dX12_next_311 ?_
                    refine m_eqs (w := (gV τ 22 0 11)) (show gV τ137 22 0 11 = (gV τ 22 0 11) from gV_put eτ137 (show gV τ108 22 0 11 = (gV τ 22 0 11) from gV_put eτ108 (show gV τ80 22 0 11 = (gV τ 22 0 11) from (f82.1 22 0 (11) (by decide) (by decide)).trans rfl))) ?_
                    refine m_iconst (v := 1) C dX12_next_314 (by decide) ?_
                    refine m_iadd C dX12_next_315 ?_
                    refine m_topi (fun x142 ex142 => ?_)
                    have tx142 : x142.toInt = (gV τ 22 0 11).toInt + 1 := by rw [ex142, ti_addv b76 kc_1 (by decide), kt_1]
                    have b143 : IV x142 1 400 := by rw [ex142]; exact iv_add b76 kc_1 (by decide)
                    refine p_22_11 C q4_127 dX12_next_316 ?_
                    refine m_tops (fun τ144 eτ144 => ?_)
                    have i145 : Inv τ144 := eτ144 ▸ Inv.put i138 (by decide) (iv_wk b143 (by decide))
                    have f146 : Fr MS_X12_nextE AS_X12_nextE σ τ144 := eτ144 ▸ Fr.put (f139) (Or.inl (by decide))
                    have v147 : TpM τ144 T N := v140.put eτ144 (Or.inr (by decide)) (by decide)
                    have v148 : τ144.2.2.1 = τ.2.2.1 := by rw [eτ144]; exact v141
                    refine m_goto (tgt := 206) C dX12_next_319 (by decide) ?_
                    have q149 : (gV τ144 22 0 12).toInt = (gV τ 22 0 12).toInt := congrArg Int32.toInt (show (gV τ144 22 0 12) = (gV τ 22 0 12) from (show gV τ144 22 0 12 = (gV τ 22 0 12) from gV_put eτ144 (show gV τ137 22 0 12 = (gV τ 22 0 12) from gV_put eτ137 (show gV τ108 22 0 12 = (gV τ 22 0 12) from gV_put eτ108 (show gV τ80 22 0 12 = (gV τ 22 0 12) from (f82.1 22 0 (12) (by decide) (by decide)).trans rfl)))))
                    have q150 : (gV τ144 22 0 6).toInt = (gV τ 22 0 6).toInt := congrArg Int32.toInt (show (gV τ144 22 0 6) = (gV τ 22 0 6) from (show gV τ144 22 0 6 = (gV τ 22 0 6) from gV_put eτ144 (show gV τ137 22 0 6 = (gV τ 22 0 6) from gV_put eτ137 (show gV τ108 22 0 6 = (gV τ 22 0 6) from gV_put eτ108 (show gV τ80 22 0 6 = (gV τ 22 0 6) from (f82.1 22 0 (6) (by decide) (by decide)).trans rfl)))))
                    have q151 : (gV τ144 22 0 15).toInt = 0 := (congrArg Int32.toInt (show (gV τ144 22 0 15) = 0 from (show gV τ144 22 0 15 = 0 from gV_put eτ144 (show gV τ137 22 0 15 = 0 from gV_put eτ137 (show gV τ108 22 0 15 = 0 from gV_put eτ108 (gV_self _ _ _ _ _)))))).trans kt_0
                    have q152 : (gV τ144 22 0 13).toInt = 1 := (congrArg Int32.toInt (show (gV τ144 22 0 13) = 1 from (show gV τ144 22 0 13 = 1 from gV_put eτ144 (show gV τ137 22 0 13 = 1 from gV_put eτ137 (gV_self _ _ _ _ _))))).trans kt_1
                    have q153 : (gV τ144 22 0 11).toInt = x142.toInt := congrArg Int32.toInt (show (gV τ144 22 0 11) = x142 from (show gV τ144 22 0 11 = x142 from gV_put eτ144 (gV_self _ _ _ _ _)))
                    exact ih206 τ144 i145 f146 v147 (by omega) (Or.inr (by have qT : (gV τ 22 0 11).toInt = (tS T i : Int) → T (tS T i) = T ((gV τ 22 0 11).toInt.toNat) := (fun g => by rw [show tS T i = ((gV τ 22 0 11).toInt.toNat) by omega]); exact ⟨by omega, by omega, by omega, fun _ => by omega, fun _ => by omega, by rw [show (gV τ144 22 0 11).toInt.toNat = ((gV τ 22 0 11).toInt.toNat) + 1 by omega, sc_go (by omega) (isFi_t (by omega))]; exact nF, nN.more (k := (gV τ 22 0 11).toInt.toNat) (by omega) (by omega) ⟨by omega, by omega⟩ (fun g => absurd g (by omega))⟩)) (by have q := hm206; omega)
                · have f154 : x103.toInt < 3 := by
                    have q : _ := c105
                    simp only [ti_nle, ti_nlt, ti_le, ti_lt, ti_eq, ti_ne, Classical.not_not, kt_3] at q
                    omega
                  have b155 : IV x103 (-400) 2 := ⟨by have q1 := b104; have q2 := kc_3; omega, by have q1 := b104; have q2 := kc_3; omega⟩
                  refine m_bipush (v := 10) C dX12_next_260 (by decide) ?_
                  refine m_aload_n C dX12_next_262 rfl rfl ?_
                  refine g_22_15 C q4_131 dX12_next_263 ?_
                  refine m_eqs (w := (gV τ 22 0 15)) (show gV τ80 22 0 15 = (gV τ 22 0 15) from (f82.1 22 0 (15) (by decide) (by decide)).trans rfl) ?_
                  refine m_imul C dX12_next_266 ?_
                  refine m_topi (fun x156 ex156 => ?_)
                  refine m_aload_n C dX12_next_267 rfl rfl ?_
                  refine g_22_5 C q4_121 dX12_next_268 ?_
                  refine m_aload_n C dX12_next_271 rfl rfl ?_
                  refine g_22_11 C q4_127 dX12_next_272 ?_
                  refine m_eqs (w := (gV τ 22 0 11)) (show gV τ80 22 0 11 = (gV τ 22 0 11) from (f82.1 22 0 (11) (by decide) (by decide)).trans rfl) ?_
                  refine al_28 C b76 (by decide) rfl dX12_next_275 ?_
                  refine m_eqs (w := x78) (show gV τ80 28 0 ((gV τ 22 0 11).toInt.toNat) = x78 from (f82.1 28 0 (((gV τ 22 0 11).toInt.toNat)) (by simp) (by decide)).trans ex78.symm) ?_
                  refine m_iadd C dX12_next_276 ?_
                  refine m_topi (fun x157 ex157 => ?_)
                  refine m_bipush (v := 48) C dX12_next_277 (by decide) ?_
                  refine m_isub C dX12_next_279 ?_
                  refine m_topi (fun x158 ex158 => ?_)
                  refine m_goto (tgt := 284) C dX12_next_280 (by decide) ?_
                  refine p_22_15 C q4_131 dX12_next_284 ?_
                  refine m_tops (fun τ159 eτ159 => ?_)
                  have i160 : Inv τ159 := eτ159 ▸ Inv.putF i81 (by decide) rfl
                  have f161 : Fr MS_X12_nextE AS_X12_nextE σ τ159 := eτ159 ▸ Fr.put (g85) (Or.inl (by decide))
                  have v162 : TpM τ159 T N := v87.put eτ159 (Or.inr (by decide)) (by decide)
                  have v163 : τ159.2.2.1 = τ.2.2.1 := by rw [eτ159]; exact v88
                  refine m_aload_n C dX12_next_287 rfl rfl ?_
                  refine m_aload_n C dX12_next_288 rfl rfl ?_
                  refine g_22_11 C q4_127 dX12_next_289 ?_
                  refine m_eqs (w := (gV τ 22 0 11)) (show gV τ159 22 0 11 = (gV τ 22 0 11) from gV_put eτ159 (show gV τ80 22 0 11 = (gV τ 22 0 11) from (f82.1 22 0 (11) (by decide) (by decide)).trans rfl)) ?_
                  refine m_aload_n C dX12_next_292 rfl rfl ?_
                  refine g_22_12 C q4_128 dX12_next_293 ?_
                  refine m_eqs (w := (gV τ 22 0 12)) (show gV τ159 22 0 12 = (gV τ 22 0 12) from gV_put eτ159 (show gV τ80 22 0 12 = (gV τ 22 0 12) from (f82.1 22 0 (12) (by decide) (by decide)).trans rfl)) ?_
                  refine m_isub C dX12_next_296 ?_
                  refine m_topi (fun x164 ex164 => ?_)
                  have tx164 : x164.toInt = (gV τ 22 0 11).toInt - (gV τ 22 0 12).toInt := by rw [ex164, ti_subv b76 b102 (by decide)]
                  have b165 : IV x164 (-400) 399 := by rw [ex164]; exact iv_sub b76 b102 (by decide)
                  refine m_iconst (v := 3) C dX12_next_297 (by decide) ?_
                  refine m_icmp_ge (tgt := 305) C dX12_next_298 (by decide) (fun c166 => ?_) (fun c166 => ?_)
                  · have f167 : 3 ≤ x164.toInt := by
                      have q : _ := c166
                      simp only [ti_nle, ti_nlt, ti_le, ti_lt, ti_eq, ti_ne, Classical.not_not, kt_3] at q
                      omega
                    have b168 : IV x164 3 399 := ⟨by have q1 := kc_3; have q2 := b165; omega, by have q1 := kc_3; have q2 := b165; omega⟩
                    refine m_iconst (v := 3) C dX12_next_305 (by decide) ?_
                    refine p_22_13 C q4_129 dX12_next_306 ?_
                    refine m_tops (fun τ169 eτ169 => ?_)
                    have i170 : Inv τ169 := eτ169 ▸ Inv.putF i160 (by decide) rfl
                    have f171 : Fr MS_X12_nextE AS_X12_nextE σ τ169 := eτ169 ▸ Fr.put (f161) (Or.inl (by decide))
                    have v172 : TpM τ169 T N := v162.put eτ169 (Or.inr (by decide)) (by decide)
                    have v173 : τ169.2.2.1 = τ.2.2.1 := by rw [eτ169]; exact v163
                    refine m_aload_n C dX12_next_309 rfl rfl ?_
                    refine m_dup C dX12_next_310 rfl ?_
                    refine g_22_11 C q4_127 dX12_next_311 ?_
                    refine m_eqs (w := (gV τ 22 0 11)) (show gV τ169 22 0 11 = (gV τ 22 0 11) from gV_put eτ169 (show gV τ159 22 0 11 = (gV τ 22 0 11) from gV_put eτ159 (show gV τ80 22 0 11 = (gV τ 22 0 11) from (f82.1 22 0 (11) (by decide) (by decide)).trans rfl))) ?_
                    refine m_iconst (v := 1) C dX12_next_314 (by decide) ?_
                    refine m_iadd C dX12_next_315 ?_
                    refine m_topi (fun x174 ex174 => ?_)
                    have tx174 : x174.toInt = (gV τ 22 0 11).toInt + 1 := by rw [ex174, ti_addv b76 kc_1 (by decide), kt_1]
                    have b175 : IV x174 1 400 := by rw [ex174]; exact iv_add b76 kc_1 (by decide)
                    refine p_22_11 C q4_127 dX12_next_316 ?_
                    refine m_tops (fun τ176 eτ176 => ?_)
                    have i177 : Inv τ176 := eτ176 ▸ Inv.put i170 (by decide) (iv_wk b175 (by decide))
                    have f178 : Fr MS_X12_nextE AS_X12_nextE σ τ176 := eτ176 ▸ Fr.put (f171) (Or.inl (by decide))
                    have v179 : TpM τ176 T N := v172.put eτ176 (Or.inr (by decide)) (by decide)
                    have v180 : τ176.2.2.1 = τ.2.2.1 := by rw [eτ176]; exact v173
                    refine m_goto (tgt := 206) C dX12_next_319 (by decide) ?_
                    have q181 : (gV τ176 22 0 12).toInt = (gV τ 22 0 12).toInt := congrArg Int32.toInt (show (gV τ176 22 0 12) = (gV τ 22 0 12) from (show gV τ176 22 0 12 = (gV τ 22 0 12) from gV_put eτ176 (show gV τ169 22 0 12 = (gV τ 22 0 12) from gV_put eτ169 (show gV τ159 22 0 12 = (gV τ 22 0 12) from gV_put eτ159 (show gV τ80 22 0 12 = (gV τ 22 0 12) from (f82.1 22 0 (12) (by decide) (by decide)).trans rfl)))))
                    have q182 : (gV τ176 22 0 6).toInt = (gV τ 22 0 6).toInt := congrArg Int32.toInt (show (gV τ176 22 0 6) = (gV τ 22 0 6) from (show gV τ176 22 0 6 = (gV τ 22 0 6) from gV_put eτ176 (show gV τ169 22 0 6 = (gV τ 22 0 6) from gV_put eτ169 (show gV τ159 22 0 6 = (gV τ 22 0 6) from gV_put eτ159 (show gV τ80 22 0 6 = (gV τ 22 0 6) from (f82.1 22 0 (6) (by decide) (by decide)).trans rfl)))))
                    have q183 : (gV τ176 22 0 15).toInt = x158.toInt := congrArg Int32.toInt (show (gV τ176 22 0 15) = x158 from (show gV τ176 22 0 15 = x158 from gV_put eτ176 (show gV τ169 22 0 15 = x158 from gV_put eτ169 (show gV τ159 22 0 15 = x158 from gV_put eτ159 (gV_self _ _ _ _ _)))))
                    have q184 : (gV τ176 22 0 13).toInt = 3 := (congrArg Int32.toInt (show (gV τ176 22 0 13) = 3 from (show gV τ176 22 0 13 = 3 from gV_put eτ176 (show gV τ169 22 0 13 = 3 from gV_put eτ169 (gV_self _ _ _ _ _))))).trans kt_3
                    have q185 : (gV τ176 22 0 11).toInt = x174.toInt := congrArg Int32.toInt (show (gV τ176 22 0 11) = x174 from (show gV τ176 22 0 11 = x174 from gV_put eτ176 (gV_self _ _ _ _ _)))
                    exact ih206 τ176 i177 f178 v179 (by omega) (Or.inr (by have qT : (gV τ 22 0 11).toInt = (tS T i : Int) → T (tS T i) = T ((gV τ 22 0 11).toInt.toNat) := (fun g => by rw [show tS T i = ((gV τ 22 0 11).toInt.toNat) by omega]); exact ⟨by omega, by omega, by omega, fun _ => by omega, fun _ => by omega, by rw [show (gV τ176 22 0 11).toInt.toNat = ((gV τ 22 0 11).toInt.toNat) + 1 by omega, sc_go (by omega) (isFi_t (by omega))]; exact nF, nN.more (k := (gV τ 22 0 11).toInt.toNat) (by omega) (by omega) ⟨by omega, by omega⟩ (fun g => by have q5 := fig_step ex156 ex157 ex158 (by have q6 := nN.2 (by omega); omega) (by omega); omega)⟩)) (by have q := hm206; omega)
                  · have f186 : x164.toInt < 3 := by
                      have q : _ := c166
                      simp only [ti_nle, ti_nlt, ti_le, ti_lt, ti_eq, ti_ne, Classical.not_not, kt_3] at q
                      omega
                    have b187 : IV x164 (-400) 2 := ⟨by have q1 := b165; have q2 := kc_3; omega, by have q1 := b165; have q2 := kc_3; omega⟩
                    refine m_iconst (v := 1) C dX12_next_301 (by decide) ?_
                    refine m_goto (tgt := 306) C dX12_next_302 (by decide) ?_
                    refine p_22_13 C q4_129 dX12_next_306 ?_
                    refine m_tops (fun τ188 eτ188 => ?_)
                    have i189 : Inv τ188 := eτ188 ▸ Inv.putF i160 (by decide) rfl
                    have f190 : Fr MS_X12_nextE AS_X12_nextE σ τ188 := eτ188 ▸ Fr.put (f161) (Or.inl (by decide))
                    have v191 : TpM τ188 T N := v162.put eτ188 (Or.inr (by decide)) (by decide)
                    have v192 : τ188.2.2.1 = τ.2.2.1 := by rw [eτ188]; exact v163
                    refine m_aload_n C dX12_next_309 rfl rfl ?_
                    refine m_dup C dX12_next_310 rfl ?_
                    refine g_22_11 C q4_127 dX12_next_311 ?_
                    refine m_eqs (w := (gV τ 22 0 11)) (show gV τ188 22 0 11 = (gV τ 22 0 11) from gV_put eτ188 (show gV τ159 22 0 11 = (gV τ 22 0 11) from gV_put eτ159 (show gV τ80 22 0 11 = (gV τ 22 0 11) from (f82.1 22 0 (11) (by decide) (by decide)).trans rfl))) ?_
                    refine m_iconst (v := 1) C dX12_next_314 (by decide) ?_
                    refine m_iadd C dX12_next_315 ?_
                    refine m_topi (fun x193 ex193 => ?_)
                    have tx193 : x193.toInt = (gV τ 22 0 11).toInt + 1 := by rw [ex193, ti_addv b76 kc_1 (by decide), kt_1]
                    have b194 : IV x193 1 400 := by rw [ex193]; exact iv_add b76 kc_1 (by decide)
                    refine p_22_11 C q4_127 dX12_next_316 ?_
                    refine m_tops (fun τ195 eτ195 => ?_)
                    have i196 : Inv τ195 := eτ195 ▸ Inv.put i189 (by decide) (iv_wk b194 (by decide))
                    have f197 : Fr MS_X12_nextE AS_X12_nextE σ τ195 := eτ195 ▸ Fr.put (f190) (Or.inl (by decide))
                    have v198 : TpM τ195 T N := v191.put eτ195 (Or.inr (by decide)) (by decide)
                    have v199 : τ195.2.2.1 = τ.2.2.1 := by rw [eτ195]; exact v192
                    refine m_goto (tgt := 206) C dX12_next_319 (by decide) ?_
                    have q200 : (gV τ195 22 0 12).toInt = (gV τ 22 0 12).toInt := congrArg Int32.toInt (show (gV τ195 22 0 12) = (gV τ 22 0 12) from (show gV τ195 22 0 12 = (gV τ 22 0 12) from gV_put eτ195 (show gV τ188 22 0 12 = (gV τ 22 0 12) from gV_put eτ188 (show gV τ159 22 0 12 = (gV τ 22 0 12) from gV_put eτ159 (show gV τ80 22 0 12 = (gV τ 22 0 12) from (f82.1 22 0 (12) (by decide) (by decide)).trans rfl)))))
                    have q201 : (gV τ195 22 0 6).toInt = (gV τ 22 0 6).toInt := congrArg Int32.toInt (show (gV τ195 22 0 6) = (gV τ 22 0 6) from (show gV τ195 22 0 6 = (gV τ 22 0 6) from gV_put eτ195 (show gV τ188 22 0 6 = (gV τ 22 0 6) from gV_put eτ188 (show gV τ159 22 0 6 = (gV τ 22 0 6) from gV_put eτ159 (show gV τ80 22 0 6 = (gV τ 22 0 6) from (f82.1 22 0 (6) (by decide) (by decide)).trans rfl)))))
                    have q202 : (gV τ195 22 0 15).toInt = x158.toInt := congrArg Int32.toInt (show (gV τ195 22 0 15) = x158 from (show gV τ195 22 0 15 = x158 from gV_put eτ195 (show gV τ188 22 0 15 = x158 from gV_put eτ188 (show gV τ159 22 0 15 = x158 from gV_put eτ159 (gV_self _ _ _ _ _)))))
                    have q203 : (gV τ195 22 0 13).toInt = 1 := (congrArg Int32.toInt (show (gV τ195 22 0 13) = 1 from (show gV τ195 22 0 13 = 1 from gV_put eτ195 (show gV τ188 22 0 13 = 1 from gV_put eτ188 (gV_self _ _ _ _ _))))).trans kt_1
                    have q204 : (gV τ195 22 0 11).toInt = x193.toInt := congrArg Int32.toInt (show (gV τ195 22 0 11) = x193 from (show gV τ195 22 0 11 = x193 from gV_put eτ195 (gV_self _ _ _ _ _)))
                    exact ih206 τ195 i196 f197 v198 (by omega) (Or.inr (by have qT : (gV τ 22 0 11).toInt = (tS T i : Int) → T (tS T i) = T ((gV τ 22 0 11).toInt.toNat) := (fun g => by rw [show tS T i = ((gV τ 22 0 11).toInt.toNat) by omega]); exact ⟨by omega, by omega, by omega, fun _ => by omega, fun _ => by omega, by rw [show (gV τ195 22 0 11).toInt.toNat = ((gV τ 22 0 11).toInt.toNat) + 1 by omega, sc_go (by omega) (isFi_t (by omega))]; exact nF, nN.more (k := (gV τ 22 0 11).toInt.toNat) (by omega) (by omega) ⟨by omega, by omega⟩ (fun g => by have q5 := fig_step ex156 ex157 ex158 (by have q6 := nN.2 (by omega); omega) (by omega); omega)⟩)) (by have q := hm206; omega)
            · skip
              have b205 : IV x83 0 0 := ⟨by omega, by omega⟩
              show MW p l e _ s m args below meth c _ 1 G 0 0 243 [some (.ref (G.1 22 0))] [.int x83] τ80
              refine m_if_eq (tgt := 322) C dX12_next_243 (by decide) (fun c206 => ?_) (fun c206 => ?_)
              · have f207 : x83.toInt = 0 := by
                  have q : _ := c206
                  simp only [ti_nle, ti_nlt, ti_le, ti_lt, ti_eq, ti_ne, Classical.not_not, kt_0] at q
                  omega
                refine m_aload_n C dX12_next_322 rfl rfl ?_
                refine m_dup C dX12_next_323 rfl ?_
                refine g_22_11 C q4_127 dX12_next_324 ?_
                refine m_eqs (w := (gV τ 22 0 11)) (show gV τ80 22 0 11 = (gV τ 22 0 11) from (f82.1 22 0 (11) (by decide) (by decide)).trans rfl) ?_
                refine m_aload_n C dX12_next_327 rfl rfl ?_
                refine g_22_13 C q4_129 dX12_next_328 ?_
                refine m_eqs (w := (gV τ 22 0 13)) (show gV τ80 22 0 13 = (gV τ 22 0 13) from (f82.1 22 0 (13) (by decide) (by decide)).trans rfl) ?_
                refine m_iconst (v := 2) C dX12_next_331 (by decide) ?_
                refine m_icmp_ne (tgt := 339) C dX12_next_332 (by decide) (fun c208 => ?_) (fun c208 => ?_)
                · have f209 : (gV τ 22 0 13).toInt ≠ 2 := by
                    have q : _ := c208
                    simp only [ti_nle, ti_nlt, ti_le, ti_lt, ti_eq, ti_ne, Classical.not_not, kt_2] at q
                    omega
                  refine m_iconst (v := 0) C dX12_next_339 (by decide) ?_
                  refine m_iadd C dX12_next_340 ?_
                  refine m_topi (fun x210 ex210 => ?_)
                  have tx210 : x210.toInt = (gV τ 22 0 11).toInt + 0 := by rw [ex210, ti_addv b76 kc_0 (by decide), kt_0]
                  have b211 : IV x210 0 399 := by rw [ex210]; exact iv_add b76 kc_0 (by decide)
                  refine p_22_11 C q4_127 dX12_next_341 ?_
                  refine m_tops (fun τ212 eτ212 => ?_)
                  have i213 : Inv τ212 := eτ212 ▸ Inv.put i81 (by decide) (iv_wk b211 (by decide))
                  have f214 : Fr MS_X12_nextE AS_X12_nextE σ τ212 := eτ212 ▸ Fr.put (g85) (Or.inl (by decide))
                  have v215 : TpM τ212 T N := v87.put eτ212 (Or.inr (by decide)) (by decide)
                  have v216 : τ212.2.2.1 = τ.2.2.1 := by rw [eτ212]; exact v88
                  have q217 : (gV τ212 22 0 12).toInt = (gV τ 22 0 12).toInt := congrArg Int32.toInt (show (gV τ212 22 0 12) = (gV τ 22 0 12) from (show gV τ212 22 0 12 = (gV τ 22 0 12) from gV_put eτ212 (show gV τ80 22 0 12 = (gV τ 22 0 12) from (f82.1 22 0 (12) (by decide) (by decide)).trans rfl)))
                  have q218 : (gV τ212 22 0 13).toInt = (gV τ 22 0 13).toInt := congrArg Int32.toInt (show (gV τ212 22 0 13) = (gV τ 22 0 13) from (show gV τ212 22 0 13 = (gV τ 22 0 13) from gV_put eτ212 (show gV τ80 22 0 13 = (gV τ 22 0 13) from (f82.1 22 0 (13) (by decide) (by decide)).trans rfl)))
                  have q219 : (gV τ212 22 0 15).toInt = (gV τ 22 0 15).toInt := congrArg Int32.toInt (show (gV τ212 22 0 15) = (gV τ 22 0 15) from (show gV τ212 22 0 15 = (gV τ 22 0 15) from gV_put eτ212 (show gV τ80 22 0 15 = (gV τ 22 0 15) from (f82.1 22 0 (15) (by decide) (by decide)).trans rfl)))
                  have q220 : (gV τ212 22 0 6).toInt = (gV τ 22 0 6).toInt := congrArg Int32.toInt (show (gV τ212 22 0 6) = (gV τ 22 0 6) from (show gV τ212 22 0 6 = (gV τ 22 0 6) from gV_put eτ212 (show gV τ80 22 0 6 = (gV τ 22 0 6) from (f82.1 22 0 (6) (by decide) (by decide)).trans rfl)))
                  have q221 : (gV τ212 22 0 11).toInt = x210.toInt := congrArg Int32.toInt (show (gV τ212 22 0 11) = x210 from (show gV τ212 22 0 11 = x210 from gV_put eτ212 (gV_self _ _ _ _ _)))
                  exact m_vret C hr hlk (by decide) (by decide) dX12_next_344 ⟨rfl, i213, f214, (by have q0 := sc_no (P := isFi) (T := T) (i := ((gV τ 22 0 11).toInt.toNat)) (isFi_f (by first | omega | (have q2 := v215.2.2.2 ((gV τ 22 0 11).toInt.toNat) (by omega); omega))); have q3 := nF; have qT : (gV τ 22 0 11).toInt = (tS T i : Int) → T (tS T i) = T ((gV τ 22 0 11).toInt.toNat) := (fun g => by rw [show tS T i = ((gV τ 22 0 11).toInt.toNat) by omega]); by_cases g0 : N ≤ tS T i; (have q := tok0 (T := T) (N := N) (i := i) g0; exact ⟨by omega, by omega, LW.none (by omega)⟩); by_cases g1 : 48 ≤ T (tS T i) ∧ T (tS T i) ≤ 57; (have q := tok2 (T := T) (N := N) (i := i) (by omega) g1; have q8 : (gV τ 22 0 11).toInt ≠ (tS T i : Int) := (fun g => by have := qT g; omega); refine ⟨⟨by omega, by omega, by omega, by omega, by omega, fun g => ?_, by omega⟩, by omega, LW.none (by omega)⟩; have q9 := nN.val (by omega) (by omega); show _ = nv T (tS T i) (sc isFi T (tS T i) - tS T i); omega); (have q := tok3 (T := T) (N := N) (i := i) (by omega) (by omega) (by omega); have q8 : (gV τ 22 0 11).toInt = (tS T i : Int) := (by omega); exact ⟨by omega, by omega, LW.none (by omega)⟩))⟩
                · have f222 : (gV τ 22 0 13).toInt = 2 := by
                    have q : _ := c208
                    simp only [ti_nle, ti_nlt, ti_le, ti_lt, ti_eq, ti_ne, Classical.not_not, kt_2] at q
                    omega
                  have b223 : IV (gV τ 22 0 13) 2 2 := ⟨by have q1 := (iv_any (gV τ 22 0 13)); have q2 := kc_2; omega, by have q1 := (iv_any (gV τ 22 0 13)); have q2 := kc_2; omega⟩
                  refine m_iconst (v := 1) C dX12_next_335 (by decide) ?_
                  refine m_goto (tgt := 340) C dX12_next_336 (by decide) ?_
                  have b224 : IV (gV τ 22 0 11) 0 399 := ⟨by omega, by omega⟩
                  refine m_iadd C dX12_next_340 ?_
                  refine m_topi (fun x225 ex225 => ?_)
                  have tx225 : x225.toInt = (gV τ 22 0 11).toInt + 1 := by rw [ex225, ti_addv b224 kc_1 (by decide), kt_1]
                  have b226 : IV x225 1 400 := by rw [ex225]; exact iv_add b224 kc_1 (by decide)
                  refine p_22_11 C q4_127 dX12_next_341 ?_
                  refine m_tops (fun τ227 eτ227 => ?_)
                  have i228 : Inv τ227 := eτ227 ▸ Inv.put i81 (by decide) (iv_wk b226 (by decide))
                  have f229 : Fr MS_X12_nextE AS_X12_nextE σ τ227 := eτ227 ▸ Fr.put (g85) (Or.inl (by decide))
                  have v230 : TpM τ227 T N := v87.put eτ227 (Or.inr (by decide)) (by decide)
                  have v231 : τ227.2.2.1 = τ.2.2.1 := by rw [eτ227]; exact v88
                  have q232 : (gV τ227 22 0 12).toInt = (gV τ 22 0 12).toInt := congrArg Int32.toInt (show (gV τ227 22 0 12) = (gV τ 22 0 12) from (show gV τ227 22 0 12 = (gV τ 22 0 12) from gV_put eτ227 (show gV τ80 22 0 12 = (gV τ 22 0 12) from (f82.1 22 0 (12) (by decide) (by decide)).trans rfl)))
                  have q233 : (gV τ227 22 0 13).toInt = (gV τ 22 0 13).toInt := congrArg Int32.toInt (show (gV τ227 22 0 13) = (gV τ 22 0 13) from (show gV τ227 22 0 13 = (gV τ 22 0 13) from gV_put eτ227 (show gV τ80 22 0 13 = (gV τ 22 0 13) from (f82.1 22 0 (13) (by decide) (by decide)).trans rfl)))
                  have q234 : (gV τ227 22 0 15).toInt = (gV τ 22 0 15).toInt := congrArg Int32.toInt (show (gV τ227 22 0 15) = (gV τ 22 0 15) from (show gV τ227 22 0 15 = (gV τ 22 0 15) from gV_put eτ227 (show gV τ80 22 0 15 = (gV τ 22 0 15) from (f82.1 22 0 (15) (by decide) (by decide)).trans rfl)))
                  have q235 : (gV τ227 22 0 6).toInt = (gV τ 22 0 6).toInt := congrArg Int32.toInt (show (gV τ227 22 0 6) = (gV τ 22 0 6) from (show gV τ227 22 0 6 = (gV τ 22 0 6) from gV_put eτ227 (show gV τ80 22 0 6 = (gV τ 22 0 6) from (f82.1 22 0 (6) (by decide) (by decide)).trans rfl)))
                  have q236 : (gV τ227 22 0 11).toInt = x225.toInt := congrArg Int32.toInt (show (gV τ227 22 0 11) = x225 from (show gV τ227 22 0 11 = x225 from gV_put eτ227 (gV_self _ _ _ _ _)))
                  exact m_vret C hr hlk (by decide) (by decide) dX12_next_344 ⟨rfl, i228, f229, (by have q0 := sc_no (P := isFi) (T := T) (i := ((gV τ 22 0 11).toInt.toNat)) (isFi_f (by first | omega | (have q2 := v230.2.2.2 ((gV τ 22 0 11).toInt.toNat) (by omega); omega))); have q3 := nF; have qT : (gV τ 22 0 11).toInt = (tS T i : Int) → T (tS T i) = T ((gV τ 22 0 11).toInt.toNat) := (fun g => by rw [show tS T i = ((gV τ 22 0 11).toInt.toNat) by omega]); by_cases g0 : N ≤ tS T i; (have q := tok0 (T := T) (N := N) (i := i) g0; exact ⟨by omega, by omega, LW.none (by omega)⟩); by_cases g1 : 48 ≤ T (tS T i) ∧ T (tS T i) ≤ 57; (have q := tok2 (T := T) (N := N) (i := i) (by omega) g1; have q8 : (gV τ 22 0 11).toInt ≠ (tS T i : Int) := (fun g => by have := qT g; omega); refine ⟨⟨by omega, by omega, by omega, by omega, by omega, fun g => ?_, by omega⟩, by omega, LW.none (by omega)⟩; have q9 := nN.val (by omega) (by omega); show _ = nv T (tS T i) (sc isFi T (tS T i) - tS T i); omega); (have q := tok3 (T := T) (N := N) (i := i) (by omega) (by omega) (by omega); have q8 : (gV τ 22 0 11).toInt = (tS T i : Int) := (by omega); exact ⟨by omega, by omega, LW.none (by omega)⟩))⟩
              · exfalso
                have q : _ := c206
                simp only [ti_nle, ti_nlt, ti_le, ti_lt, ti_eq, ti_ne, Classical.not_not, kt_0] at q
                have q1 := b205; have q2 := kc_0; omega
  have J108 : ∀ (n : Nat) (τ : Sg), Inv τ → Fr MS_X12_nextE AS_X12_nextE σ τ → (TpM τ T N) → (((gV τ 22 0 12).toInt = (tS T i : Int) ∧ (gV τ 22 0 15).toInt = 0 ∧ (tS T i : Int) ≤ 400)) → ((gV τ 22 0 11).toInt ≤ N) → (((((gV τ 22 0 11).toInt = (tS T i : Int)) ∧ (((N : Int) ≤ (tS T i : Int) ∧ (gV τ 22 0 13).toInt = 4) ∨ ((tS T i : Int) < N ∧ T (tS T i) = 59 ∧ (gV τ 22 0 13).toInt = 2) ∨ ((tS T i : Int) < N ∧ T (tS T i) ≠ 59 ∧ (gV τ 22 0 13).toInt = 3))) ∨ ((tS T i : Int) < (gV τ 22 0 11).toInt ∧ (tS T i : Int) < N ∧ (gV τ 22 0 13).toInt = 0 ∧ 97 ≤ T (tS T i) ∧ T (tS T i) ≤ 122))) → (sc isLe T ((gV τ 22 0 11).toInt.toNat) = sc isLe T (tS T i)) → (LNI T (tS T i) (gV τ 22 0 11).toInt τ.2.2.1) → (400 - (gV τ 22 0 11).toInt).toNat < n → MW p l e { frames := 1, cells := 0, slots := 0, locals := 25 } s m args below meth c (MQ below (QP G (PV fun τ => Inv τ ∧ Fr MS_X12_nextE AS_X12_nextE σ τ ∧ (((gV τ 22 0 12).toInt = (tS T i : Int) ∧ (tK T N i ≠ 4 → (gV τ 22 0 11).toInt = (tE T N i : Int)) ∧ (gV τ 22 0 13).toInt = (tK T N i + 4) % 5 ∧ 0 ≤ tK T N i ∧ tK T N i ≤ 4 ∧ (tK T N i = 2 → (gV τ 22 0 15).toInt = tV T i) ∧ (gV τ 22 0 12).toInt ≤ 400) ∧ (gV τ 22 0 11).toInt ≤ (gV τ 22 0 6).toInt ∧ LW T N i τ.2.2.1))) args s 0 0 (aG G)) 1 G 0 0 108 [some (.ref (G.1 22 0))] [] τ := by
    intro n
    induction n with
    | zero => intro τ iτ fτ v_T n238 n239 nD nS nL hm; exact absurd hm (Nat.not_lt_zero _)
    | succ n ih108 =>
      intro τ iτ fτ v_T n238 n239 nD nS nL hm108
      have u240 : IV (gV τ 22 0 11) 0 400 := iτ.1 22 0 11
      have u241 : IV (gV τ 22 0 6) 0 400 := iτ.1 22 0 6
      have q242 : (gV τ 22 0 6).toInt = (N : Int) := v_T.1
      have q243 := v_T.2.1
      rcases nD with ⟨n0_, n1_⟩ | ⟨n0_, n1_, n2_, n3_, n4_⟩
      · skip
        refine m_aload_n C dX12_next_108 rfl rfl ?_
        refine g_22_11 C q4_127 dX12_next_109 ?_
        refine m_eqs (w := (gV τ 22 0 11)) rfl ?_
        refine m_aload_n C dX12_next_112 rfl rfl ?_
        refine g_22_6 C q4_122 dX12_next_113 ?_
        refine m_eqs (w := (gV τ 22 0 6)) rfl ?_
        refine m_icmp_ge (tgt := 206) C dX12_next_116 (by decide) (fun c244 => ?_) (fun c244 => ?_)
        · have f245 : (gV τ 22 0 6).toInt ≤ (gV τ 22 0 11).toInt := by
            have q : _ := c244
            simp only [ti_nle, ti_nlt, ti_le, ti_lt, ti_eq, ti_ne, Classical.not_not] at q
            omega
          exact J206 ((400 - (gV τ 22 0 11).toInt).toNat + 1) τ iτ fτ v_T (by omega) (Or.inr (by have q4 : (gV τ 22 0 11).toInt < N → ¬ (97 ≤ T ((gV τ 22 0 11).toInt.toNat) ∧ T ((gV τ 22 0 11).toInt.toNat) ≤ 122) := (fun _ => by omega); have qT : (gV τ 22 0 11).toInt = (tS T i : Int) → T (tS T i) = T ((gV τ 22 0 11).toInt.toNat) := (fun g => by rw [show tS T i = ((gV τ 22 0 11).toInt.toNat) by omega]); have q3 := nS; exact ⟨by omega, by omega, by omega, fun _ => by omega, fun _ => by omega, by rw [show (gV τ 22 0 11).toInt.toNat = tS T i by omega], NVI.zero (by omega) (by omega)⟩)) (Nat.lt_succ_self _)
        · have f246 : (gV τ 22 0 11).toInt < (gV τ 22 0 6).toInt := by
            have q : _ := c244
            simp only [ti_nle, ti_nlt, ti_le, ti_lt, ti_eq, ti_ne, Classical.not_not] at q
            omega
          have b247 : IV (gV τ 22 0 11) 0 399 := ⟨by have q1 := u240; have q2 := u241; omega, by have q1 := u240; have q2 := u241; omega⟩
          have b248 : IV (gV τ 22 0 6) 1 400 := ⟨by have q1 := u240; have q2 := u241; omega, by have q1 := u240; have q2 := u241; omega⟩
          refine m_aload_n C dX12_next_119 rfl rfl ?_
          refine g_22_5 C q4_121 dX12_next_120 ?_
          refine m_aload_n C dX12_next_123 rfl rfl ?_
          refine g_22_11 C q4_127 dX12_next_124 ?_
          refine m_eqs (w := (gV τ 22 0 11)) rfl ?_
          refine al_28 C b247 (by decide) rfl dX12_next_127 ?_
          refine m_topi (fun x249 ex249 => ?_)
          have q250 := v_T.2.2.1 ((gV τ 22 0 11).toInt.toNat) (by omega)
          rw [show gV τ 28 0 ((gV τ 22 0 11).toInt.toNat) = x249 from ex249.symm] at q250
          refine m_i2l C dX12_next_128 ?_
          refine m_ldc2 (v := 97) C dX12_next_129 q4_232 ?_
          refine m_ldc2 (v := 122) C dX12_next_132 q4_233 ?_
          refine m_callS (n := 3) (st := []) C (c_X12_inE l G τ ((x249 : Int32).toInt64) (97) (122) iτ ) q4_190 q4_188 q4_189 q1_7 (by decide +kernel) rfl (by decide) (by decide) rfl (Nat.le_of_ble_eq_true rfl) dX12_next_135 ?_
          rintro _ τ251 ⟨x254, rfl, i252, f253, b255, h257⟩
          have g256 : Fr MS_X12_nextE AS_X12_nextE σ τ251 := Fr.call (fτ) f253 (by decide)
          have v258 : TpM τ251 T N := v_T.fr f253 (by decide) (by decide) (by simp) (by decide)
          have v259 : τ251.2.2.1 = τ.2.2.1 := by rw [h257.1]
          have q260 : (gV τ251 22 0 11).toInt = (gV τ 22 0 11).toInt := congrArg Int32.toInt (show (gV τ251 22 0 11) = (gV τ 22 0 11) from (show gV τ251 22 0 11 = (gV τ 22 0 11) from (f253.1 22 0 (11) (by decide) (by decide)).trans rfl))
          have q261 : (gV τ251 22 0 12).toInt = (gV τ 22 0 12).toInt := congrArg Int32.toInt (show (gV τ251 22 0 12) = (gV τ 22 0 12) from (show gV τ251 22 0 12 = (gV τ 22 0 12) from (f253.1 22 0 (12) (by decide) (by decide)).trans rfl))
          have q262 : (gV τ251 22 0 13).toInt = (gV τ 22 0 13).toInt := congrArg Int32.toInt (show (gV τ251 22 0 13) = (gV τ 22 0 13) from (show gV τ251 22 0 13 = (gV τ 22 0 13) from (f253.1 22 0 (13) (by decide) (by decide)).trans rfl))
          have q263 : (gV τ251 22 0 15).toInt = (gV τ 22 0 15).toInt := congrArg Int32.toInt (show (gV τ251 22 0 15) = (gV τ 22 0 15) from (show gV τ251 22 0 15 = (gV τ 22 0 15) from (f253.1 22 0 (15) (by decide) (by decide)).trans rfl))
          have q264 : (gV τ251 22 0 6).toInt = (gV τ 22 0 6).toInt := congrArg Int32.toInt (show (gV τ251 22 0 6) = (gV τ 22 0 6) from (show gV τ251 22 0 6 = (gV τ 22 0 6) from (f253.1 22 0 (6) (by decide) (by decide)).trans rfl))
          replace h257 := h257.2
          have f265 := tl_i x249
          have f266 := kl_97
          have f267 := kl_122
          rcases h257 with ⟨h257_0, h257_1, h257_2⟩ | ⟨h257_0, h257_1⟩
          · skip
            have b268 : IV x254 1 1 := ⟨by omega, by omega⟩
            show MW p l e _ s m args below meth c _ 1 G 0 0 138 [some (.ref (G.1 22 0))] [.int x254] τ251
            refine m_if_eq (tgt := 206) C dX12_next_138 (by decide) (fun c269 => ?_) (fun c269 => ?_)
            · exfalso
              have q : _ := c269
              simp only [ti_nle, ti_nlt, ti_le, ti_lt, ti_eq, ti_ne, Classical.not_not, kt_0] at q
              have q1 := b268; have q2 := kc_0; omega
            · have f271 : x254.toInt ≠ 0 := by
                have q : _ := c269
                simp only [ti_nle, ti_nlt, ti_le, ti_lt, ti_eq, ti_ne, Classical.not_not, kt_0] at q
                omega
              have b272 : IV x249 97 122 := ⟨by have q1 := (iv_any x249); omega, by have q1 := (iv_any x249); omega⟩
              refine m_aload_n C dX12_next_141 rfl rfl ?_
              refine m_aload_n C dX12_next_142 rfl rfl ?_
              refine g_22_11 C q4_127 dX12_next_143 ?_
              refine m_eqs (w := (gV τ 22 0 11)) (show gV τ251 22 0 11 = (gV τ 22 0 11) from (f253.1 22 0 (11) (by decide) (by decide)).trans rfl) ?_
              refine m_aload_n C dX12_next_146 rfl rfl ?_
              refine g_22_12 C q4_128 dX12_next_147 ?_
              refine m_eqs (w := (gV τ 22 0 12)) (show gV τ251 22 0 12 = (gV τ 22 0 12) from (f253.1 22 0 (12) (by decide) (by decide)).trans rfl) ?_
              have b273 : IV (gV τ 22 0 12) 0 400 := ⟨by have q1 := (iv_any (gV τ 22 0 12)); omega, by have q1 := (iv_any (gV τ 22 0 12)); omega⟩
              refine m_isub C dX12_next_150 ?_
              refine m_topi (fun x274 ex274 => ?_)
              have tx274 : x274.toInt = (gV τ 22 0 11).toInt - (gV τ 22 0 12).toInt := by rw [ex274, ti_subv b247 b273 (by decide)]
              have b275 : IV x274 (-400) 399 := by rw [ex274]; exact iv_sub b247 b273 (by decide)
              refine m_bipush (v := 9) C dX12_next_151 (by decide) ?_
              refine m_icmp_ge (tgt := 182) C dX12_next_153 (by decide) (fun c276 => ?_) (fun c276 => ?_)
              · have f277 : 9 ≤ x274.toInt := by
                  have q : _ := c276
                  simp only [ti_nle, ti_nlt, ti_le, ti_lt, ti_eq, ti_ne, Classical.not_not, kt_9] at q
                  omega
                have b278 : IV x274 9 399 := ⟨by have q1 := kc_9; have q2 := b275; omega, by have q1 := kc_9; have q2 := b275; omega⟩
                refine m_ldc2 (v := (-1)) C dX12_next_182 q4_236 ?_
                refine p_22_14 C q4_130 dX12_next_185 ?_
                refine m_tops (fun τ279 eτ279 => ?_)
                have i280 : Inv τ279 := eτ279 ▸ Inv.putJ i252 _
                have f281 : Fr MS_X12_nextE AS_X12_nextE σ τ279 := eτ279 ▸ Fr.putJ (g256) _
                have v282 : TpM τ279 T N := by rw [eτ279]; exact v258
                have v283 : τ279.2.2.1 = (-1) := by rw [eτ279]; rfl
                refine m_aload_n C dX12_next_188 rfl rfl ?_
                refine m_iconst (v := 0) C dX12_next_189 (by decide) ?_
                refine p_22_13 C q4_129 dX12_next_190 ?_
                refine m_tops (fun τ284 eτ284 => ?_)
                have i285 : Inv τ284 := eτ284 ▸ Inv.putF i280 (by decide) rfl
                have f286 : Fr MS_X12_nextE AS_X12_nextE σ τ284 := eτ284 ▸ Fr.put (f281) (Or.inl (by decide))
                have v287 : TpM τ284 T N := v282.put eτ284 (Or.inr (by decide)) (by decide)
                have v288 : τ284.2.2.1 = (-1) := by rw [eτ284]; exact v283
                refine m_aload_n C dX12_next_193 rfl rfl ?_
                refine m_dup C dX12_next_194 rfl ?_
                refine g_22_11 C q4_127 dX12_next_195 ?_
                refine m_eqs (w := (gV τ 22 0 11)) (show gV τ284 22 0 11 = (gV τ 22 0 11) from gV_put eτ284 (show gV τ279 22 0 11 = (gV τ 22 0 11) from gV_putl eτ279 (show gV τ251 22 0 11 = (gV τ 22 0 11) from (f253.1 22 0 (11) (by decide) (by decide)).trans rfl))) ?_
                refine m_iconst (v := 1) C dX12_next_198 (by decide) ?_
                refine m_iadd C dX12_next_199 ?_
                refine m_topi (fun x289 ex289 => ?_)
                have tx289 : x289.toInt = (gV τ 22 0 11).toInt + 1 := by rw [ex289, ti_addv b247 kc_1 (by decide), kt_1]
                have b290 : IV x289 1 400 := by rw [ex289]; exact iv_add b247 kc_1 (by decide)
                refine p_22_11 C q4_127 dX12_next_200 ?_
                refine m_tops (fun τ291 eτ291 => ?_)
                have i292 : Inv τ291 := eτ291 ▸ Inv.put i285 (by decide) (iv_wk b290 (by decide))
                have f293 : Fr MS_X12_nextE AS_X12_nextE σ τ291 := eτ291 ▸ Fr.put (f286) (Or.inl (by decide))
                have v294 : TpM τ291 T N := v287.put eτ291 (Or.inr (by decide)) (by decide)
                have v295 : τ291.2.2.1 = (-1) := by rw [eτ291]; exact v288
                refine m_goto (tgt := 108) C dX12_next_203 (by decide) ?_
                have q296 : (gV τ291 22 0 12).toInt = (gV τ 22 0 12).toInt := congrArg Int32.toInt (show (gV τ291 22 0 12) = (gV τ 22 0 12) from (show gV τ291 22 0 12 = (gV τ 22 0 12) from gV_put eτ291 (show gV τ284 22 0 12 = (gV τ 22 0 12) from gV_put eτ284 (show gV τ279 22 0 12 = (gV τ 22 0 12) from gV_putl eτ279 (show gV τ251 22 0 12 = (gV τ 22 0 12) from (f253.1 22 0 (12) (by decide) (by decide)).trans rfl)))))
                have q297 : (gV τ291 22 0 15).toInt = (gV τ 22 0 15).toInt := congrArg Int32.toInt (show (gV τ291 22 0 15) = (gV τ 22 0 15) from (show gV τ291 22 0 15 = (gV τ 22 0 15) from gV_put eτ291 (show gV τ284 22 0 15 = (gV τ 22 0 15) from gV_put eτ284 (show gV τ279 22 0 15 = (gV τ 22 0 15) from gV_putl eτ279 (show gV τ251 22 0 15 = (gV τ 22 0 15) from (f253.1 22 0 (15) (by decide) (by decide)).trans rfl)))))
                have q298 : (gV τ291 22 0 6).toInt = (gV τ 22 0 6).toInt := congrArg Int32.toInt (show (gV τ291 22 0 6) = (gV τ 22 0 6) from (show gV τ291 22 0 6 = (gV τ 22 0 6) from gV_put eτ291 (show gV τ284 22 0 6 = (gV τ 22 0 6) from gV_put eτ284 (show gV τ279 22 0 6 = (gV τ 22 0 6) from gV_putl eτ279 (show gV τ251 22 0 6 = (gV τ 22 0 6) from (f253.1 22 0 (6) (by decide) (by decide)).trans rfl)))))
                have q299 : (gV τ291 22 0 13).toInt = 0 := (congrArg Int32.toInt (show (gV τ291 22 0 13) = 0 from (show gV τ291 22 0 13 = 0 from gV_put eτ291 (show gV τ284 22 0 13 = 0 from gV_put eτ284 (gV_self _ _ _ _ _))))).trans kt_0
                have q300 : (gV τ291 22 0 11).toInt = x289.toInt := congrArg Int32.toInt (show (gV τ291 22 0 11) = x289 from (show gV τ291 22 0 11 = x289 from gV_put eτ291 (gV_self _ _ _ _ _)))
                exact ih108 τ291 i292 f293 v294 (by omega) (by omega) (Or.inr (by have qT : (gV τ 22 0 11).toInt = (tS T i : Int) → T (tS T i) = T ((gV τ 22 0 11).toInt.toNat) := (fun g => by rw [show tS T i = ((gV τ 22 0 11).toInt.toNat) by omega]); exact ⟨by omega, by omega, by omega, by omega, by omega⟩)) (by first | (rw [show (gV τ291 22 0 11).toInt.toNat = tS T i by omega]) | (rw [show (gV τ291 22 0 11).toInt.toNat = ((gV τ 22 0 11).toInt.toNat) + 1 by omega, sc_go (by omega) (isLe_t (by omega))]; exact nS)) (nL.more (k := (gV τ 22 0 11).toInt.toNat) (by omega) (by omega) ⟨by omega, by omega⟩ (fun g => absurd g (by omega)) (fun g => by rw [v295]; decide)) (by have q := hm108; omega)
              · have f301 : x274.toInt < 9 := by
                  have q : _ := c276
                  simp only [ti_nle, ti_nlt, ti_le, ti_lt, ti_eq, ti_ne, Classical.not_not, kt_9] at q
                  omega
                have b302 : IV x274 (-400) 8 := ⟨by have q1 := b275; have q2 := kc_9; omega, by have q1 := b275; have q2 := kc_9; omega⟩
                refine m_ldc2 (v := 32) C dX12_next_156 q4_234 ?_
                refine m_aload_n C dX12_next_159 rfl rfl ?_
                refine g_22_14 C q4_130 dX12_next_160 ?_
                refine m_topl (fun w303 ew303 => ?_)
                refine m_lmul C dX12_next_163 ?_
                refine m_topl (fun w304 ew304 => ?_)
                refine m_aload_n C dX12_next_164 rfl rfl ?_
                refine g_22_5 C q4_121 dX12_next_165 ?_
                refine m_aload_n C dX12_next_168 rfl rfl ?_
                refine g_22_11 C q4_127 dX12_next_169 ?_
                refine m_eqs (w := (gV τ 22 0 11)) (show gV τ251 22 0 11 = (gV τ 22 0 11) from (f253.1 22 0 (11) (by decide) (by decide)).trans rfl) ?_
                refine al_28 C b247 (by decide) rfl dX12_next_172 ?_
                refine m_eqs (w := x249) (show gV τ251 28 0 ((gV τ 22 0 11).toInt.toNat) = x249 from (f253.1 28 0 (((gV τ 22 0 11).toInt.toNat)) (by simp) (by decide)).trans ex249.symm) ?_
                refine m_i2l C dX12_next_173 ?_
                refine m_ladd C dX12_next_174 ?_
                refine m_topl (fun w305 ew305 => ?_)
                refine m_ldc2 (v := 96) C dX12_next_175 q4_235 ?_
                refine m_lsub C dX12_next_178 ?_
                refine m_topl (fun w306 ew306 => ?_)
                refine m_goto (tgt := 185) C dX12_next_179 (by decide) ?_
                refine p_22_14 C q4_130 dX12_next_185 ?_
                refine m_tops (fun τ307 eτ307 => ?_)
                have i308 : Inv τ307 := eτ307 ▸ Inv.putJ i252 _
                have f309 : Fr MS_X12_nextE AS_X12_nextE σ τ307 := eτ307 ▸ Fr.putJ (g256) _
                have v310 : TpM τ307 T N := by rw [eτ307]; exact v258
                have v311 : τ307.2.2.1 = w306 := by rw [eτ307]; rfl
                refine m_aload_n C dX12_next_188 rfl rfl ?_
                refine m_iconst (v := 0) C dX12_next_189 (by decide) ?_
                refine p_22_13 C q4_129 dX12_next_190 ?_
                refine m_tops (fun τ312 eτ312 => ?_)
                have i313 : Inv τ312 := eτ312 ▸ Inv.putF i308 (by decide) rfl
                have f314 : Fr MS_X12_nextE AS_X12_nextE σ τ312 := eτ312 ▸ Fr.put (f309) (Or.inl (by decide))
                have v315 : TpM τ312 T N := v310.put eτ312 (Or.inr (by decide)) (by decide)
                have v316 : τ312.2.2.1 = w306 := by rw [eτ312]; exact v311
                refine m_aload_n C dX12_next_193 rfl rfl ?_
                refine m_dup C dX12_next_194 rfl ?_
                refine g_22_11 C q4_127 dX12_next_195 ?_
                refine m_eqs (w := (gV τ 22 0 11)) (show gV τ312 22 0 11 = (gV τ 22 0 11) from gV_put eτ312 (show gV τ307 22 0 11 = (gV τ 22 0 11) from gV_putl eτ307 (show gV τ251 22 0 11 = (gV τ 22 0 11) from (f253.1 22 0 (11) (by decide) (by decide)).trans rfl))) ?_
                refine m_iconst (v := 1) C dX12_next_198 (by decide) ?_
                refine m_iadd C dX12_next_199 ?_
                refine m_topi (fun x317 ex317 => ?_)
                have tx317 : x317.toInt = (gV τ 22 0 11).toInt + 1 := by rw [ex317, ti_addv b247 kc_1 (by decide), kt_1]
                have b318 : IV x317 1 400 := by rw [ex317]; exact iv_add b247 kc_1 (by decide)
                refine p_22_11 C q4_127 dX12_next_200 ?_
                refine m_tops (fun τ319 eτ319 => ?_)
                have i320 : Inv τ319 := eτ319 ▸ Inv.put i313 (by decide) (iv_wk b318 (by decide))
                have f321 : Fr MS_X12_nextE AS_X12_nextE σ τ319 := eτ319 ▸ Fr.put (f314) (Or.inl (by decide))
                have v322 : TpM τ319 T N := v315.put eτ319 (Or.inr (by decide)) (by decide)
                have v323 : τ319.2.2.1 = w306 := by rw [eτ319]; exact v316
                refine m_goto (tgt := 108) C dX12_next_203 (by decide) ?_
                have q324 : (gV τ319 22 0 12).toInt = (gV τ 22 0 12).toInt := congrArg Int32.toInt (show (gV τ319 22 0 12) = (gV τ 22 0 12) from (show gV τ319 22 0 12 = (gV τ 22 0 12) from gV_put eτ319 (show gV τ312 22 0 12 = (gV τ 22 0 12) from gV_put eτ312 (show gV τ307 22 0 12 = (gV τ 22 0 12) from gV_putl eτ307 (show gV τ251 22 0 12 = (gV τ 22 0 12) from (f253.1 22 0 (12) (by decide) (by decide)).trans rfl)))))
                have q325 : (gV τ319 22 0 15).toInt = (gV τ 22 0 15).toInt := congrArg Int32.toInt (show (gV τ319 22 0 15) = (gV τ 22 0 15) from (show gV τ319 22 0 15 = (gV τ 22 0 15) from gV_put eτ319 (show gV τ312 22 0 15 = (gV τ 22 0 15) from gV_put eτ312 (show gV τ307 22 0 15 = (gV τ 22 0 15) from gV_putl eτ307 (show gV τ251 22 0 15 = (gV τ 22 0 15) from (f253.1 22 0 (15) (by decide) (by decide)).trans rfl)))))
                have q326 : (gV τ319 22 0 6).toInt = (gV τ 22 0 6).toInt := congrArg Int32.toInt (show (gV τ319 22 0 6) = (gV τ 22 0 6) from (show gV τ319 22 0 6 = (gV τ 22 0 6) from gV_put eτ319 (show gV τ312 22 0 6 = (gV τ 22 0 6) from gV_put eτ312 (show gV τ307 22 0 6 = (gV τ 22 0 6) from gV_putl eτ307 (show gV τ251 22 0 6 = (gV τ 22 0 6) from (f253.1 22 0 (6) (by decide) (by decide)).trans rfl)))))
                have q327 : (gV τ319 22 0 13).toInt = 0 := (congrArg Int32.toInt (show (gV τ319 22 0 13) = 0 from (show gV τ319 22 0 13 = 0 from gV_put eτ319 (show gV τ312 22 0 13 = 0 from gV_put eτ312 (gV_self _ _ _ _ _))))).trans kt_0
                have q328 : (gV τ319 22 0 11).toInt = x317.toInt := congrArg Int32.toInt (show (gV τ319 22 0 11) = x317 from (show gV τ319 22 0 11 = x317 from gV_put eτ319 (gV_self _ _ _ _ _)))
                exact ih108 τ319 i320 f321 v322 (by omega) (by omega) (Or.inr (by have qT : (gV τ 22 0 11).toInt = (tS T i : Int) → T (tS T i) = T ((gV τ 22 0 11).toInt.toNat) := (fun g => by rw [show tS T i = ((gV τ 22 0 11).toInt.toNat) by omega]); exact ⟨by omega, by omega, by omega, by omega, by omega⟩)) (by first | (rw [show (gV τ319 22 0 11).toInt.toNat = tS T i by omega]) | (rw [show (gV τ319 22 0 11).toInt.toNat = ((gV τ 22 0 11).toInt.toNat) + 1 by omega, sc_go (by omega) (isLe_t (by omega))]; exact nS)) (nL.more (k := (gV τ 22 0 11).toInt.toNat) (by omega) (by omega) ⟨by omega, by omega⟩ (fun g => by rw [v323]; have q5 := let_step ew304 ew305 ew306 (by rw [ew303, v259]; exact nL.bd (by omega)) (by omega); rw [ew303, v259] at q5; omega) (fun g => absurd g (by omega))) (by have q := hm108; omega)
          · skip
            have b329 : IV x254 0 0 := ⟨by omega, by omega⟩
            show MW p l e _ s m args below meth c _ 1 G 0 0 138 [some (.ref (G.1 22 0))] [.int x254] τ251
            refine m_if_eq (tgt := 206) C dX12_next_138 (by decide) (fun c330 => ?_) (fun c330 => ?_)
            · have f331 : x254.toInt = 0 := by
                have q : _ := c330
                simp only [ti_nle, ti_nlt, ti_le, ti_lt, ti_eq, ti_ne, Classical.not_not, kt_0] at q
                omega
              exact J206 ((400 - (gV τ251 22 0 11).toInt).toNat + 1) τ251 i252 g256 v258 (by omega) (Or.inr (by have q4 : (gV τ 22 0 11).toInt < N → ¬ (97 ≤ T ((gV τ 22 0 11).toInt.toNat) ∧ T ((gV τ 22 0 11).toInt.toNat) ≤ 122) := (fun _ => by omega); have qT : (gV τ 22 0 11).toInt = (tS T i : Int) → T (tS T i) = T ((gV τ 22 0 11).toInt.toNat) := (fun g => by rw [show tS T i = ((gV τ 22 0 11).toInt.toNat) by omega]); have q3 := nS; exact ⟨by omega, by omega, by omega, fun _ => by omega, fun _ => by omega, by rw [show (gV τ251 22 0 11).toInt.toNat = tS T i by omega], NVI.zero (by omega) (by omega)⟩)) (Nat.lt_succ_self _)
            · exfalso
              have q : _ := c330
              simp only [ti_nle, ti_nlt, ti_le, ti_lt, ti_eq, ti_ne, Classical.not_not, kt_0] at q
              have q1 := b329; have q2 := kc_0; omega
      · skip
        refine m_aload_n C dX12_next_108 rfl rfl ?_
        refine g_22_11 C q4_127 dX12_next_109 ?_
        refine m_eqs (w := (gV τ 22 0 11)) rfl ?_
        refine m_aload_n C dX12_next_112 rfl rfl ?_
        refine g_22_6 C q4_122 dX12_next_113 ?_
        refine m_eqs (w := (gV τ 22 0 6)) rfl ?_
        refine m_icmp_ge (tgt := 206) C dX12_next_116 (by decide) (fun c333 => ?_) (fun c333 => ?_)
        · have f334 : (gV τ 22 0 6).toInt ≤ (gV τ 22 0 11).toInt := by
            have q : _ := c333
            simp only [ti_nle, ti_nlt, ti_le, ti_lt, ti_eq, ti_ne, Classical.not_not] at q
            omega
          exact J206 ((400 - (gV τ 22 0 11).toInt).toNat + 1) τ iτ fτ v_T (by omega) (Or.inl (by have q0 := sc_no (P := isLe) (T := T) (i := ((gV τ 22 0 11).toInt.toNat)) (isLe_f (by first | omega | (have q2 := v_T.2.2.2 ((gV τ 22 0 11).toInt.toNat) (by omega); omega))); have q3 := nS; exact ⟨by omega, by omega, by omega, by omega, by omega, by omega, by exact nL⟩)) (Nat.lt_succ_self _)
        · have f335 : (gV τ 22 0 11).toInt < (gV τ 22 0 6).toInt := by
            have q : _ := c333
            simp only [ti_nle, ti_nlt, ti_le, ti_lt, ti_eq, ti_ne, Classical.not_not] at q
            omega
          have b336 : IV (gV τ 22 0 11) 0 399 := ⟨by have q1 := u240; have q2 := u241; omega, by have q1 := u240; have q2 := u241; omega⟩
          have b337 : IV (gV τ 22 0 6) 1 400 := ⟨by have q1 := u240; have q2 := u241; omega, by have q1 := u240; have q2 := u241; omega⟩
          refine m_aload_n C dX12_next_119 rfl rfl ?_
          refine g_22_5 C q4_121 dX12_next_120 ?_
          refine m_aload_n C dX12_next_123 rfl rfl ?_
          refine g_22_11 C q4_127 dX12_next_124 ?_
          refine m_eqs (w := (gV τ 22 0 11)) rfl ?_
          refine al_28 C b336 (by decide) rfl dX12_next_127 ?_
          refine m_topi (fun x338 ex338 => ?_)
          have q339 := v_T.2.2.1 ((gV τ 22 0 11).toInt.toNat) (by omega)
          rw [show gV τ 28 0 ((gV τ 22 0 11).toInt.toNat) = x338 from ex338.symm] at q339
          refine m_i2l C dX12_next_128 ?_
          refine m_ldc2 (v := 97) C dX12_next_129 q4_232 ?_
          refine m_ldc2 (v := 122) C dX12_next_132 q4_233 ?_
          refine m_callS (n := 3) (st := []) C (c_X12_inE l G τ ((x338 : Int32).toInt64) (97) (122) iτ ) q4_190 q4_188 q4_189 q1_7 (by decide +kernel) rfl (by decide) (by decide) rfl (Nat.le_of_ble_eq_true rfl) dX12_next_135 ?_
          rintro _ τ340 ⟨x343, rfl, i341, f342, b344, h346⟩
          have g345 : Fr MS_X12_nextE AS_X12_nextE σ τ340 := Fr.call (fτ) f342 (by decide)
          have v347 : TpM τ340 T N := v_T.fr f342 (by decide) (by decide) (by simp) (by decide)
          have v348 : τ340.2.2.1 = τ.2.2.1 := by rw [h346.1]
          have q349 : (gV τ340 22 0 11).toInt = (gV τ 22 0 11).toInt := congrArg Int32.toInt (show (gV τ340 22 0 11) = (gV τ 22 0 11) from (show gV τ340 22 0 11 = (gV τ 22 0 11) from (f342.1 22 0 (11) (by decide) (by decide)).trans rfl))
          have q350 : (gV τ340 22 0 12).toInt = (gV τ 22 0 12).toInt := congrArg Int32.toInt (show (gV τ340 22 0 12) = (gV τ 22 0 12) from (show gV τ340 22 0 12 = (gV τ 22 0 12) from (f342.1 22 0 (12) (by decide) (by decide)).trans rfl))
          have q351 : (gV τ340 22 0 13).toInt = (gV τ 22 0 13).toInt := congrArg Int32.toInt (show (gV τ340 22 0 13) = (gV τ 22 0 13) from (show gV τ340 22 0 13 = (gV τ 22 0 13) from (f342.1 22 0 (13) (by decide) (by decide)).trans rfl))
          have q352 : (gV τ340 22 0 15).toInt = (gV τ 22 0 15).toInt := congrArg Int32.toInt (show (gV τ340 22 0 15) = (gV τ 22 0 15) from (show gV τ340 22 0 15 = (gV τ 22 0 15) from (f342.1 22 0 (15) (by decide) (by decide)).trans rfl))
          have q353 : (gV τ340 22 0 6).toInt = (gV τ 22 0 6).toInt := congrArg Int32.toInt (show (gV τ340 22 0 6) = (gV τ 22 0 6) from (show gV τ340 22 0 6 = (gV τ 22 0 6) from (f342.1 22 0 (6) (by decide) (by decide)).trans rfl))
          replace h346 := h346.2
          have f354 := tl_i x338
          have f355 := kl_97
          have f356 := kl_122
          rcases h346 with ⟨h346_0, h346_1, h346_2⟩ | ⟨h346_0, h346_1⟩
          · skip
            have b357 : IV x343 1 1 := ⟨by omega, by omega⟩
            show MW p l e _ s m args below meth c _ 1 G 0 0 138 [some (.ref (G.1 22 0))] [.int x343] τ340
            refine m_if_eq (tgt := 206) C dX12_next_138 (by decide) (fun c358 => ?_) (fun c358 => ?_)
            · exfalso
              have q : _ := c358
              simp only [ti_nle, ti_nlt, ti_le, ti_lt, ti_eq, ti_ne, Classical.not_not, kt_0] at q
              have q1 := b357; have q2 := kc_0; omega
            · have f360 : x343.toInt ≠ 0 := by
                have q : _ := c358
                simp only [ti_nle, ti_nlt, ti_le, ti_lt, ti_eq, ti_ne, Classical.not_not, kt_0] at q
                omega
              have b361 : IV x338 97 122 := ⟨by have q1 := (iv_any x338); omega, by have q1 := (iv_any x338); omega⟩
              refine m_aload_n C dX12_next_141 rfl rfl ?_
              refine m_aload_n C dX12_next_142 rfl rfl ?_
              refine g_22_11 C q4_127 dX12_next_143 ?_
              refine m_eqs (w := (gV τ 22 0 11)) (show gV τ340 22 0 11 = (gV τ 22 0 11) from (f342.1 22 0 (11) (by decide) (by decide)).trans rfl) ?_
              refine m_aload_n C dX12_next_146 rfl rfl ?_
              refine g_22_12 C q4_128 dX12_next_147 ?_
              refine m_eqs (w := (gV τ 22 0 12)) (show gV τ340 22 0 12 = (gV τ 22 0 12) from (f342.1 22 0 (12) (by decide) (by decide)).trans rfl) ?_
              have b362 : IV (gV τ 22 0 12) 0 400 := ⟨by have q1 := (iv_any (gV τ 22 0 12)); omega, by have q1 := (iv_any (gV τ 22 0 12)); omega⟩
              refine m_isub C dX12_next_150 ?_
              refine m_topi (fun x363 ex363 => ?_)
              have tx363 : x363.toInt = (gV τ 22 0 11).toInt - (gV τ 22 0 12).toInt := by rw [ex363, ti_subv b336 b362 (by decide)]
              have b364 : IV x363 (-400) 399 := by rw [ex363]; exact iv_sub b336 b362 (by decide)
              refine m_bipush (v := 9) C dX12_next_151 (by decide) ?_
              refine m_icmp_ge (tgt := 182) C dX12_next_153 (by decide) (fun c365 => ?_) (fun c365 => ?_)
              · have f366 : 9 ≤ x363.toInt := by
                  have q : _ := c365
                  simp only [ti_nle, ti_nlt, ti_le, ti_lt, ti_eq, ti_ne, Classical.not_not, kt_9] at q
                  omega
                have b367 : IV x363 9 399 := ⟨by have q1 := kc_9; have q2 := b364; omega, by have q1 := kc_9; have q2 := b364; omega⟩
                refine m_ldc2 (v := (-1)) C dX12_next_182 q4_236 ?_
                refine p_22_14 C q4_130 dX12_next_185 ?_
                refine m_tops (fun τ368 eτ368 => ?_)
                have i369 : Inv τ368 := eτ368 ▸ Inv.putJ i341 _
                have f370 : Fr MS_X12_nextE AS_X12_nextE σ τ368 := eτ368 ▸ Fr.putJ (g345) _
                have v371 : TpM τ368 T N := by rw [eτ368]; exact v347
                have v372 : τ368.2.2.1 = (-1) := by rw [eτ368]; rfl
                refine m_aload_n C dX12_next_188 rfl rfl ?_
                refine m_iconst (v := 0) C dX12_next_189 (by decide) ?_
                refine p_22_13 C q4_129 dX12_next_190 ?_
                refine m_tops (fun τ373 eτ373 => ?_)
                have i374 : Inv τ373 := eτ373 ▸ Inv.putF i369 (by decide) rfl
                have f375 : Fr MS_X12_nextE AS_X12_nextE σ τ373 := eτ373 ▸ Fr.put (f370) (Or.inl (by decide))
                have v376 : TpM τ373 T N := v371.put eτ373 (Or.inr (by decide)) (by decide)
                have v377 : τ373.2.2.1 = (-1) := by rw [eτ373]; exact v372
                refine m_aload_n C dX12_next_193 rfl rfl ?_
                refine m_dup C dX12_next_194 rfl ?_
                refine g_22_11 C q4_127 dX12_next_195 ?_
                refine m_eqs (w := (gV τ 22 0 11)) (show gV τ373 22 0 11 = (gV τ 22 0 11) from gV_put eτ373 (show gV τ368 22 0 11 = (gV τ 22 0 11) from gV_putl eτ368 (show gV τ340 22 0 11 = (gV τ 22 0 11) from (f342.1 22 0 (11) (by decide) (by decide)).trans rfl))) ?_
                refine m_iconst (v := 1) C dX12_next_198 (by decide) ?_
                refine m_iadd C dX12_next_199 ?_
                refine m_topi (fun x378 ex378 => ?_)
                have tx378 : x378.toInt = (gV τ 22 0 11).toInt + 1 := by rw [ex378, ti_addv b336 kc_1 (by decide), kt_1]
                have b379 : IV x378 1 400 := by rw [ex378]; exact iv_add b336 kc_1 (by decide)
                refine p_22_11 C q4_127 dX12_next_200 ?_
                refine m_tops (fun τ380 eτ380 => ?_)
                have i381 : Inv τ380 := eτ380 ▸ Inv.put i374 (by decide) (iv_wk b379 (by decide))
                have f382 : Fr MS_X12_nextE AS_X12_nextE σ τ380 := eτ380 ▸ Fr.put (f375) (Or.inl (by decide))
                have v383 : TpM τ380 T N := v376.put eτ380 (Or.inr (by decide)) (by decide)
                have v384 : τ380.2.2.1 = (-1) := by rw [eτ380]; exact v377
                refine m_goto (tgt := 108) C dX12_next_203 (by decide) ?_
                have q385 : (gV τ380 22 0 12).toInt = (gV τ 22 0 12).toInt := congrArg Int32.toInt (show (gV τ380 22 0 12) = (gV τ 22 0 12) from (show gV τ380 22 0 12 = (gV τ 22 0 12) from gV_put eτ380 (show gV τ373 22 0 12 = (gV τ 22 0 12) from gV_put eτ373 (show gV τ368 22 0 12 = (gV τ 22 0 12) from gV_putl eτ368 (show gV τ340 22 0 12 = (gV τ 22 0 12) from (f342.1 22 0 (12) (by decide) (by decide)).trans rfl)))))
                have q386 : (gV τ380 22 0 15).toInt = (gV τ 22 0 15).toInt := congrArg Int32.toInt (show (gV τ380 22 0 15) = (gV τ 22 0 15) from (show gV τ380 22 0 15 = (gV τ 22 0 15) from gV_put eτ380 (show gV τ373 22 0 15 = (gV τ 22 0 15) from gV_put eτ373 (show gV τ368 22 0 15 = (gV τ 22 0 15) from gV_putl eτ368 (show gV τ340 22 0 15 = (gV τ 22 0 15) from (f342.1 22 0 (15) (by decide) (by decide)).trans rfl)))))
                have q387 : (gV τ380 22 0 6).toInt = (gV τ 22 0 6).toInt := congrArg Int32.toInt (show (gV τ380 22 0 6) = (gV τ 22 0 6) from (show gV τ380 22 0 6 = (gV τ 22 0 6) from gV_put eτ380 (show gV τ373 22 0 6 = (gV τ 22 0 6) from gV_put eτ373 (show gV τ368 22 0 6 = (gV τ 22 0 6) from gV_putl eτ368 (show gV τ340 22 0 6 = (gV τ 22 0 6) from (f342.1 22 0 (6) (by decide) (by decide)).trans rfl)))))
                have q388 : (gV τ380 22 0 13).toInt = 0 := (congrArg Int32.toInt (show (gV τ380 22 0 13) = 0 from (show gV τ380 22 0 13 = 0 from gV_put eτ380 (show gV τ373 22 0 13 = 0 from gV_put eτ373 (gV_self _ _ _ _ _))))).trans kt_0
                have q389 : (gV τ380 22 0 11).toInt = x378.toInt := congrArg Int32.toInt (show (gV τ380 22 0 11) = x378 from (show gV τ380 22 0 11 = x378 from gV_put eτ380 (gV_self _ _ _ _ _)))
                exact ih108 τ380 i381 f382 v383 (by omega) (by omega) (Or.inr (by have qT : (gV τ 22 0 11).toInt = (tS T i : Int) → T (tS T i) = T ((gV τ 22 0 11).toInt.toNat) := (fun g => by rw [show tS T i = ((gV τ 22 0 11).toInt.toNat) by omega]); exact ⟨by omega, by omega, by omega, by omega, by omega⟩)) (by first | (rw [show (gV τ380 22 0 11).toInt.toNat = tS T i by omega]) | (rw [show (gV τ380 22 0 11).toInt.toNat = ((gV τ 22 0 11).toInt.toNat) + 1 by omega, sc_go (by omega) (isLe_t (by omega))]; exact nS)) (nL.more (k := (gV τ 22 0 11).toInt.toNat) (by omega) (by omega) ⟨by omega, by omega⟩ (fun g => absurd g (by omega)) (fun g => by rw [v384]; decide)) (by have q := hm108; omega)
              · have f390 : x363.toInt < 9 := by
                  have q : _ := c365
                  simp only [ti_nle, ti_nlt, ti_le, ti_lt, ti_eq, ti_ne, Classical.not_not, kt_9] at q
                  omega
                have b391 : IV x363 (-400) 8 := ⟨by have q1 := b364; have q2 := kc_9; omega, by have q1 := b364; have q2 := kc_9; omega⟩
                refine m_ldc2 (v := 32) C dX12_next_156 q4_234 ?_
                refine m_aload_n C dX12_next_159 rfl rfl ?_
                refine g_22_14 C q4_130 dX12_next_160 ?_
                refine m_topl (fun w392 ew392 => ?_)
                refine m_lmul C dX12_next_163 ?_
                refine m_topl (fun w393 ew393 => ?_)
                refine m_aload_n C dX12_next_164 rfl rfl ?_
                refine g_22_5 C q4_121 dX12_next_165 ?_
                refine m_aload_n C dX12_next_168 rfl rfl ?_
                refine g_22_11 C q4_127 dX12_next_169 ?_
                refine m_eqs (w := (gV τ 22 0 11)) (show gV τ340 22 0 11 = (gV τ 22 0 11) from (f342.1 22 0 (11) (by decide) (by decide)).trans rfl) ?_
                refine al_28 C b336 (by decide) rfl dX12_next_172 ?_
                refine m_eqs (w := x338) (show gV τ340 28 0 ((gV τ 22 0 11).toInt.toNat) = x338 from (f342.1 28 0 (((gV τ 22 0 11).toInt.toNat)) (by simp) (by decide)).trans ex338.symm) ?_
                refine m_i2l C dX12_next_173 ?_
                refine m_ladd C dX12_next_174 ?_
                refine m_topl (fun w394 ew394 => ?_)
                refine m_ldc2 (v := 96) C dX12_next_175 q4_235 ?_
                refine m_lsub C dX12_next_178 ?_
                refine m_topl (fun w395 ew395 => ?_)
                refine m_goto (tgt := 185) C dX12_next_179 (by decide) ?_
                refine p_22_14 C q4_130 dX12_next_185 ?_
                refine m_tops (fun τ396 eτ396 => ?_)
                have i397 : Inv τ396 := eτ396 ▸ Inv.putJ i341 _
                have f398 : Fr MS_X12_nextE AS_X12_nextE σ τ396 := eτ396 ▸ Fr.putJ (g345) _
                have v399 : TpM τ396 T N := by rw [eτ396]; exact v347
                have v400 : τ396.2.2.1 = w395 := by rw [eτ396]; rfl
                refine m_aload_n C dX12_next_188 rfl rfl ?_
                refine m_iconst (v := 0) C dX12_next_189 (by decide) ?_
                refine p_22_13 C q4_129 dX12_next_190 ?_
                refine m_tops (fun τ401 eτ401 => ?_)
                have i402 : Inv τ401 := eτ401 ▸ Inv.putF i397 (by decide) rfl
                have f403 : Fr MS_X12_nextE AS_X12_nextE σ τ401 := eτ401 ▸ Fr.put (f398) (Or.inl (by decide))
                have v404 : TpM τ401 T N := v399.put eτ401 (Or.inr (by decide)) (by decide)
                have v405 : τ401.2.2.1 = w395 := by rw [eτ401]; exact v400
                refine m_aload_n C dX12_next_193 rfl rfl ?_
                refine m_dup C dX12_next_194 rfl ?_
                refine g_22_11 C q4_127 dX12_next_195 ?_
                refine m_eqs (w := (gV τ 22 0 11)) (show gV τ401 22 0 11 = (gV τ 22 0 11) from gV_put eτ401 (show gV τ396 22 0 11 = (gV τ 22 0 11) from gV_putl eτ396 (show gV τ340 22 0 11 = (gV τ 22 0 11) from (f342.1 22 0 (11) (by decide) (by decide)).trans rfl))) ?_
                refine m_iconst (v := 1) C dX12_next_198 (by decide) ?_
                refine m_iadd C dX12_next_199 ?_
                refine m_topi (fun x406 ex406 => ?_)
                have tx406 : x406.toInt = (gV τ 22 0 11).toInt + 1 := by rw [ex406, ti_addv b336 kc_1 (by decide), kt_1]
                have b407 : IV x406 1 400 := by rw [ex406]; exact iv_add b336 kc_1 (by decide)
                refine p_22_11 C q4_127 dX12_next_200 ?_
                refine m_tops (fun τ408 eτ408 => ?_)
                have i409 : Inv τ408 := eτ408 ▸ Inv.put i402 (by decide) (iv_wk b407 (by decide))
                have f410 : Fr MS_X12_nextE AS_X12_nextE σ τ408 := eτ408 ▸ Fr.put (f403) (Or.inl (by decide))
                have v411 : TpM τ408 T N := v404.put eτ408 (Or.inr (by decide)) (by decide)
                have v412 : τ408.2.2.1 = w395 := by rw [eτ408]; exact v405
                refine m_goto (tgt := 108) C dX12_next_203 (by decide) ?_
                have q413 : (gV τ408 22 0 12).toInt = (gV τ 22 0 12).toInt := congrArg Int32.toInt (show (gV τ408 22 0 12) = (gV τ 22 0 12) from (show gV τ408 22 0 12 = (gV τ 22 0 12) from gV_put eτ408 (show gV τ401 22 0 12 = (gV τ 22 0 12) from gV_put eτ401 (show gV τ396 22 0 12 = (gV τ 22 0 12) from gV_putl eτ396 (show gV τ340 22 0 12 = (gV τ 22 0 12) from (f342.1 22 0 (12) (by decide) (by decide)).trans rfl)))))
                have q414 : (gV τ408 22 0 15).toInt = (gV τ 22 0 15).toInt := congrArg Int32.toInt (show (gV τ408 22 0 15) = (gV τ 22 0 15) from (show gV τ408 22 0 15 = (gV τ 22 0 15) from gV_put eτ408 (show gV τ401 22 0 15 = (gV τ 22 0 15) from gV_put eτ401 (show gV τ396 22 0 15 = (gV τ 22 0 15) from gV_putl eτ396 (show gV τ340 22 0 15 = (gV τ 22 0 15) from (f342.1 22 0 (15) (by decide) (by decide)).trans rfl)))))
                have q415 : (gV τ408 22 0 6).toInt = (gV τ 22 0 6).toInt := congrArg Int32.toInt (show (gV τ408 22 0 6) = (gV τ 22 0 6) from (show gV τ408 22 0 6 = (gV τ 22 0 6) from gV_put eτ408 (show gV τ401 22 0 6 = (gV τ 22 0 6) from gV_put eτ401 (show gV τ396 22 0 6 = (gV τ 22 0 6) from gV_putl eτ396 (show gV τ340 22 0 6 = (gV τ 22 0 6) from (f342.1 22 0 (6) (by decide) (by decide)).trans rfl)))))
                have q416 : (gV τ408 22 0 13).toInt = 0 := (congrArg Int32.toInt (show (gV τ408 22 0 13) = 0 from (show gV τ408 22 0 13 = 0 from gV_put eτ408 (show gV τ401 22 0 13 = 0 from gV_put eτ401 (gV_self _ _ _ _ _))))).trans kt_0
                have q417 : (gV τ408 22 0 11).toInt = x406.toInt := congrArg Int32.toInt (show (gV τ408 22 0 11) = x406 from (show gV τ408 22 0 11 = x406 from gV_put eτ408 (gV_self _ _ _ _ _)))
                exact ih108 τ408 i409 f410 v411 (by omega) (by omega) (Or.inr (by have qT : (gV τ 22 0 11).toInt = (tS T i : Int) → T (tS T i) = T ((gV τ 22 0 11).toInt.toNat) := (fun g => by rw [show tS T i = ((gV τ 22 0 11).toInt.toNat) by omega]); exact ⟨by omega, by omega, by omega, by omega, by omega⟩)) (by first | (rw [show (gV τ408 22 0 11).toInt.toNat = tS T i by omega]) | (rw [show (gV τ408 22 0 11).toInt.toNat = ((gV τ 22 0 11).toInt.toNat) + 1 by omega, sc_go (by omega) (isLe_t (by omega))]; exact nS)) (nL.more (k := (gV τ 22 0 11).toInt.toNat) (by omega) (by omega) ⟨by omega, by omega⟩ (fun g => by rw [v412]; have q5 := let_step ew393 ew394 ew395 (by rw [ew392, v348]; exact nL.bd (by omega)) (by omega); rw [ew392, v348] at q5; omega) (fun g => absurd g (by omega))) (by have q := hm108; omega)
          · skip
            have b418 : IV x343 0 0 := ⟨by omega, by omega⟩
            show MW p l e _ s m args below meth c _ 1 G 0 0 138 [some (.ref (G.1 22 0))] [.int x343] τ340
            refine m_if_eq (tgt := 206) C dX12_next_138 (by decide) (fun c419 => ?_) (fun c419 => ?_)
            · have f420 : x343.toInt = 0 := by
                have q : _ := c419
                simp only [ti_nle, ti_nlt, ti_le, ti_lt, ti_eq, ti_ne, Classical.not_not, kt_0] at q
                omega
              exact J206 ((400 - (gV τ340 22 0 11).toInt).toNat + 1) τ340 i341 g345 v347 (by omega) (Or.inl (by have q0 := sc_no (P := isLe) (T := T) (i := ((gV τ 22 0 11).toInt.toNat)) (isLe_f (by first | omega | (have q2 := v347.2.2.2 ((gV τ 22 0 11).toInt.toNat) (by omega); omega))); have q3 := nS; exact ⟨by omega, by omega, by omega, by omega, by omega, by omega, by rw [show (gV τ340 22 0 11).toInt = (gV τ 22 0 11).toInt by omega, v348]; exact nL⟩)) (Nat.lt_succ_self _)
            · exfalso
              have q : _ := c419
              simp only [ti_nle, ti_nlt, ti_le, ti_lt, ti_eq, ti_ne, Classical.not_not, kt_0] at q
              have q1 := b418; have q2 := kc_0; omega
  have J0 : ∀ (n : Nat) (τ : Sg), Inv τ → Fr MS_X12_nextE AS_X12_nextE σ τ → (TpM τ T N) → (sc isBl T ((gV τ 22 0 11).toInt.toNat) = tS T i) → ((gV τ 22 0 11).toInt ≤ N) → (400 - (gV τ 22 0 11).toInt).toNat < n → MW p l e { frames := 1, cells := 0, slots := 0, locals := 25 } s m args below meth c (MQ below (QP G (PV fun τ => Inv τ ∧ Fr MS_X12_nextE AS_X12_nextE σ τ ∧ (((gV τ 22 0 12).toInt = (tS T i : Int) ∧ (tK T N i ≠ 4 → (gV τ 22 0 11).toInt = (tE T N i : Int)) ∧ (gV τ 22 0 13).toInt = (tK T N i + 4) % 5 ∧ 0 ≤ tK T N i ∧ tK T N i ≤ 4 ∧ (tK T N i = 2 → (gV τ 22 0 15).toInt = tV T i) ∧ (gV τ 22 0 12).toInt ≤ 400) ∧ (gV τ 22 0 11).toInt ≤ (gV τ 22 0 6).toInt ∧ LW T N i τ.2.2.1))) args s 0 0 (aG G)) 1 G 0 0 0 [some (.ref (G.1 22 0))] [] τ := by
    intro n
    induction n with
    | zero => intro τ iτ fτ v_T nB n422 hm; exact absurd hm (Nat.not_lt_zero _)
    | succ n ih0 =>
      intro τ iτ fτ v_T nB n422 hm0
      have u423 : IV (gV τ 22 0 11) 0 400 := iτ.1 22 0 11
      have u424 : IV (gV τ 22 0 6) 0 400 := iτ.1 22 0 6
      have q425 : (gV τ 22 0 6).toInt = (N : Int) := v_T.1
      have q426 := v_T.2.1
      refine m_aload_n C dX12_next_0 rfl rfl ?_
      refine g_22_11 C q4_127 dX12_next_1 ?_
      refine m_eqs (w := (gV τ 22 0 11)) rfl ?_
      refine m_aload_n C dX12_next_4 rfl rfl ?_
      refine g_22_6 C q4_122 dX12_next_5 ?_
      refine m_eqs (w := (gV τ 22 0 6)) rfl ?_
      refine m_icmp_ge (tgt := 52) C dX12_next_8 (by decide) (fun c427 => ?_) (fun c427 => ?_)
      · have f428 : (gV τ 22 0 6).toInt ≤ (gV τ 22 0 11).toInt := by
          have q : _ := c427
          simp only [ti_nle, ti_nlt, ti_le, ti_lt, ti_eq, ti_ne, Classical.not_not] at q
          omega
        have q0 := sc_no (P := isBl) (T := T) (i := ((gV τ 22 0 11).toInt.toNat)) (isBl_f (by first | omega | (have q2 := v_T.2.2.2 ((gV τ 22 0 11).toInt.toNat) (by omega); omega)))
        have q429 : (gV τ 22 0 11).toInt = (tS T i : Int) := by have q3 := nB; omega
        have q430 : T (tS T i) = T ((gV τ 22 0 11).toInt.toNat) := by rw [show tS T i = ((gV τ 22 0 11).toInt.toNat) by omega]
        refine m_aload_n C dX12_next_52 rfl rfl ?_
        refine m_aload_n C dX12_next_53 rfl rfl ?_
        refine g_22_11 C q4_127 dX12_next_54 ?_
        refine m_eqs (w := (gV τ 22 0 11)) rfl ?_
        refine p_22_12 C q4_128 dX12_next_57 ?_
        refine m_tops (fun τ431 eτ431 => ?_)
        have i432 : Inv τ431 := eτ431 ▸ Inv.putF iτ (by decide) rfl
        have f433 : Fr MS_X12_nextE AS_X12_nextE σ τ431 := eτ431 ▸ Fr.put (fτ) (Or.inl (by decide))
        have v434 : TpM τ431 T N := v_T.put eτ431 (Or.inr (by decide)) (by decide)
        have v435 : τ431.2.2.1 = τ.2.2.1 := by rw [eτ431]; rfl
        refine m_aload_n C dX12_next_60 rfl rfl ?_
        refine m_aload_n C dX12_next_61 rfl rfl ?_
        refine g_22_11 C q4_127 dX12_next_62 ?_
        refine m_eqs (w := (gV τ 22 0 11)) (show gV τ431 22 0 11 = (gV τ 22 0 11) from gV_put eτ431 rfl) ?_
        refine m_aload_n C dX12_next_65 rfl rfl ?_
        refine g_22_6 C q4_122 dX12_next_66 ?_
        refine m_eqs (w := (gV τ 22 0 6)) (show gV τ431 22 0 6 = (gV τ 22 0 6) from gV_put eτ431 rfl) ?_
        refine m_icmp_ne (tgt := 76) C dX12_next_69 (by decide) (fun c436 => ?_) (fun c436 => ?_)
        · have f437 : (gV τ 22 0 11).toInt ≠ (gV τ 22 0 6).toInt := by
            have q : _ := c436
            simp only [ti_nle, ti_nlt, ti_le, ti_lt, ti_eq, ti_ne, Classical.not_not] at q
            omega
          refine m_aload_n C dX12_next_76 rfl rfl ?_
          refine g_22_5 C q4_121 dX12_next_77 ?_
          refine m_aload_n C dX12_next_80 rfl rfl ?_
          refine g_22_11 C q4_127 dX12_next_81 ?_
          refine m_eqs (w := (gV τ 22 0 11)) (show gV τ431 22 0 11 = (gV τ 22 0 11) from gV_put eτ431 rfl) ?_
          have q438 : (gV τ431 22 0 11).toInt = (gV τ 22 0 11).toInt := congrArg Int32.toInt (show (gV τ431 22 0 11) = (gV τ 22 0 11) from (show gV τ431 22 0 11 = (gV τ 22 0 11) from gV_put eτ431 rfl))
          have q439 : (gV τ431 22 0 13).toInt = (gV τ 22 0 13).toInt := congrArg Int32.toInt (show (gV τ431 22 0 13) = (gV τ 22 0 13) from (show gV τ431 22 0 13 = (gV τ 22 0 13) from gV_put eτ431 rfl))
          have q440 : (gV τ431 22 0 15).toInt = (gV τ 22 0 15).toInt := congrArg Int32.toInt (show (gV τ431 22 0 15) = (gV τ 22 0 15) from (show gV τ431 22 0 15 = (gV τ 22 0 15) from gV_put eτ431 rfl))
          have q441 : (gV τ431 22 0 6).toInt = (gV τ 22 0 6).toInt := congrArg Int32.toInt (show (gV τ431 22 0 6) = (gV τ 22 0 6) from (show gV τ431 22 0 6 = (gV τ 22 0 6) from gV_put eτ431 rfl))
          have q442 : (gV τ431 22 0 12).toInt = (gV τ 22 0 11).toInt := congrArg Int32.toInt (show (gV τ431 22 0 12) = (gV τ 22 0 11) from (show gV τ431 22 0 12 = (gV τ 22 0 11) from gV_put eτ431 (gV_self _ _ _ _ _)))
          have b443 : IV (gV τ 22 0 11) 0 399 := ⟨by omega, by omega⟩
          refine al_28 C b443 (by decide) rfl dX12_next_84 ?_
          refine m_topi (fun x444 ex444 => ?_)
          have q445 := v434.2.2.1 ((gV τ 22 0 11).toInt.toNat) (by omega)
          rw [show gV τ431 28 0 ((gV τ 22 0 11).toInt.toNat) = x444 from ex444.symm] at q445
          refine m_bipush (v := 59) C dX12_next_85 (by decide) ?_
          refine m_icmp_ne (tgt := 94) C dX12_next_87 (by decide) (fun c446 => ?_) (fun c446 => ?_)
          · have f447 : x444.toInt ≠ 59 := by
              have q : _ := c446
              simp only [ti_nle, ti_nlt, ti_le, ti_lt, ti_eq, ti_ne, Classical.not_not, kt_59] at q
              omega
            refine m_iconst (v := 3) C dX12_next_94 (by decide) ?_
            refine p_22_13 C q4_129 dX12_next_95 ?_
            refine m_tops (fun τ448 eτ448 => ?_)
            have i449 : Inv τ448 := eτ448 ▸ Inv.putF i432 (by decide) rfl
            have f450 : Fr MS_X12_nextE AS_X12_nextE σ τ448 := eτ448 ▸ Fr.put (f433) (Or.inl (by decide))
            have v451 : TpM τ448 T N := v434.put eτ448 (Or.inr (by decide)) (by decide)
            have v452 : τ448.2.2.1 = τ.2.2.1 := by rw [eτ448]; exact v435
            refine m_aload_n C dX12_next_98 rfl rfl ?_
            refine m_lconst (v := 0) C dX12_next_99 (by decide) ?_
            refine p_22_14 C q4_130 dX12_next_100 ?_
            refine m_tops (fun τ453 eτ453 => ?_)
            have i454 : Inv τ453 := eτ453 ▸ Inv.putJ i449 _
            have f455 : Fr MS_X12_nextE AS_X12_nextE σ τ453 := eτ453 ▸ Fr.putJ (f450) _
            have v456 : TpM τ453 T N := by rw [eτ453]; exact v451
            have v457 : τ453.2.2.1 = 0 := by rw [eτ453]; rfl
            refine m_aload_n C dX12_next_103 rfl rfl ?_
            refine m_iconst (v := 0) C dX12_next_104 (by decide) ?_
            refine p_22_15 C q4_131 dX12_next_105 ?_
            refine m_tops (fun τ458 eτ458 => ?_)
            have i459 : Inv τ458 := eτ458 ▸ Inv.putF i454 (by decide) rfl
            have f460 : Fr MS_X12_nextE AS_X12_nextE σ τ458 := eτ458 ▸ Fr.put (f455) (Or.inl (by decide))
            have v461 : TpM τ458 T N := v456.put eτ458 (Or.inr (by decide)) (by decide)
            have v462 : τ458.2.2.1 = 0 := by rw [eτ458]; exact v457
            have q463 : (gV τ458 22 0 11).toInt = (gV τ 22 0 11).toInt := congrArg Int32.toInt (show (gV τ458 22 0 11) = (gV τ 22 0 11) from (show gV τ458 22 0 11 = (gV τ 22 0 11) from gV_put eτ458 (show gV τ453 22 0 11 = (gV τ 22 0 11) from gV_putl eτ453 (show gV τ448 22 0 11 = (gV τ 22 0 11) from gV_put eτ448 (show gV τ431 22 0 11 = (gV τ 22 0 11) from gV_put eτ431 rfl)))))
            have q464 : (gV τ458 22 0 6).toInt = (gV τ 22 0 6).toInt := congrArg Int32.toInt (show (gV τ458 22 0 6) = (gV τ 22 0 6) from (show gV τ458 22 0 6 = (gV τ 22 0 6) from gV_put eτ458 (show gV τ453 22 0 6 = (gV τ 22 0 6) from gV_putl eτ453 (show gV τ448 22 0 6 = (gV τ 22 0 6) from gV_put eτ448 (show gV τ431 22 0 6 = (gV τ 22 0 6) from gV_put eτ431 rfl)))))
            have q465 : (gV τ458 22 0 12).toInt = (gV τ 22 0 11).toInt := congrArg Int32.toInt (show (gV τ458 22 0 12) = (gV τ 22 0 11) from (show gV τ458 22 0 12 = (gV τ 22 0 11) from gV_put eτ458 (show gV τ453 22 0 12 = (gV τ 22 0 11) from gV_putl eτ453 (show gV τ448 22 0 12 = (gV τ 22 0 11) from gV_put eτ448 (show gV τ431 22 0 12 = (gV τ 22 0 11) from gV_put eτ431 (gV_self _ _ _ _ _))))))
            have q466 : (gV τ458 22 0 13).toInt = 3 := (congrArg Int32.toInt (show (gV τ458 22 0 13) = 3 from (show gV τ458 22 0 13 = 3 from gV_put eτ458 (show gV τ453 22 0 13 = 3 from gV_putl eτ453 (show gV τ448 22 0 13 = 3 from gV_put eτ448 (gV_self _ _ _ _ _)))))).trans kt_3
            have q467 : (gV τ458 22 0 15).toInt = 0 := (congrArg Int32.toInt (show (gV τ458 22 0 15) = 0 from (show gV τ458 22 0 15 = 0 from gV_put eτ458 (gV_self _ _ _ _ _)))).trans kt_0
            exact J108 ((400 - (gV τ458 22 0 11).toInt).toNat + 1) τ458 i459 f460 v461 (by omega) (by omega) (Or.inl ⟨by omega, by omega⟩) (by first | (rw [show (gV τ458 22 0 11).toInt.toNat = tS T i by omega]) | (rw [show (gV τ458 22 0 11).toInt.toNat = ((gV τ 22 0 11).toInt.toNat) + 1 by omega, sc_go (by omega) (isLe_t (by omega))]; exact nS)) (LNI.zero (by omega) (by rw [v462]; decide)) (Nat.lt_succ_self _)
          · have f468 : x444.toInt = 59 := by
              have q : _ := c446
              simp only [ti_nle, ti_nlt, ti_le, ti_lt, ti_eq, ti_ne, Classical.not_not, kt_59] at q
              omega
            have b469 : IV x444 59 59 := ⟨by have q1 := (iv_any x444); have q2 := kc_59; omega, by have q1 := (iv_any x444); have q2 := kc_59; omega⟩
            refine m_iconst (v := 2) C dX12_next_90 (by decide) ?_
            refine m_goto (tgt := 95) C dX12_next_91 (by decide) ?_
            refine p_22_13 C q4_129 dX12_next_95 ?_
            refine m_tops (fun τ470 eτ470 => ?_)
            have i471 : Inv τ470 := eτ470 ▸ Inv.putF i432 (by decide) rfl
            have f472 : Fr MS_X12_nextE AS_X12_nextE σ τ470 := eτ470 ▸ Fr.put (f433) (Or.inl (by decide))
            have v473 : TpM τ470 T N := v434.put eτ470 (Or.inr (by decide)) (by decide)
            have v474 : τ470.2.2.1 = τ.2.2.1 := by rw [eτ470]; exact v435
            refine m_aload_n C dX12_next_98 rfl rfl ?_
            refine m_lconst (v := 0) C dX12_next_99 (by decide) ?_
            refine p_22_14 C q4_130 dX12_next_100 ?_
            refine m_tops (fun τ475 eτ475 => ?_)
            have i476 : Inv τ475 := eτ475 ▸ Inv.putJ i471 _
            have f477 : Fr MS_X12_nextE AS_X12_nextE σ τ475 := eτ475 ▸ Fr.putJ (f472) _
            have v478 : TpM τ475 T N := by rw [eτ475]; exact v473
            have v479 : τ475.2.2.1 = 0 := by rw [eτ475]; rfl
            refine m_aload_n C dX12_next_103 rfl rfl ?_
            refine m_iconst (v := 0) C dX12_next_104 (by decide) ?_
            refine p_22_15 C q4_131 dX12_next_105 ?_
            refine m_tops (fun τ480 eτ480 => ?_)
            have i481 : Inv τ480 := eτ480 ▸ Inv.putF i476 (by decide) rfl
            have f482 : Fr MS_X12_nextE AS_X12_nextE σ τ480 := eτ480 ▸ Fr.put (f477) (Or.inl (by decide))
            have v483 : TpM τ480 T N := v478.put eτ480 (Or.inr (by decide)) (by decide)
            have v484 : τ480.2.2.1 = 0 := by rw [eτ480]; exact v479
            have q485 : (gV τ480 22 0 11).toInt = (gV τ 22 0 11).toInt := congrArg Int32.toInt (show (gV τ480 22 0 11) = (gV τ 22 0 11) from (show gV τ480 22 0 11 = (gV τ 22 0 11) from gV_put eτ480 (show gV τ475 22 0 11 = (gV τ 22 0 11) from gV_putl eτ475 (show gV τ470 22 0 11 = (gV τ 22 0 11) from gV_put eτ470 (show gV τ431 22 0 11 = (gV τ 22 0 11) from gV_put eτ431 rfl)))))
            have q486 : (gV τ480 22 0 6).toInt = (gV τ 22 0 6).toInt := congrArg Int32.toInt (show (gV τ480 22 0 6) = (gV τ 22 0 6) from (show gV τ480 22 0 6 = (gV τ 22 0 6) from gV_put eτ480 (show gV τ475 22 0 6 = (gV τ 22 0 6) from gV_putl eτ475 (show gV τ470 22 0 6 = (gV τ 22 0 6) from gV_put eτ470 (show gV τ431 22 0 6 = (gV τ 22 0 6) from gV_put eτ431 rfl)))))
            have q487 : (gV τ480 22 0 12).toInt = (gV τ 22 0 11).toInt := congrArg Int32.toInt (show (gV τ480 22 0 12) = (gV τ 22 0 11) from (show gV τ480 22 0 12 = (gV τ 22 0 11) from gV_put eτ480 (show gV τ475 22 0 12 = (gV τ 22 0 11) from gV_putl eτ475 (show gV τ470 22 0 12 = (gV τ 22 0 11) from gV_put eτ470 (show gV τ431 22 0 12 = (gV τ 22 0 11) from gV_put eτ431 (gV_self _ _ _ _ _))))))
            have q488 : (gV τ480 22 0 13).toInt = 2 := (congrArg Int32.toInt (show (gV τ480 22 0 13) = 2 from (show gV τ480 22 0 13 = 2 from gV_put eτ480 (show gV τ475 22 0 13 = 2 from gV_putl eτ475 (show gV τ470 22 0 13 = 2 from gV_put eτ470 (gV_self _ _ _ _ _)))))).trans kt_2
            have q489 : (gV τ480 22 0 15).toInt = 0 := (congrArg Int32.toInt (show (gV τ480 22 0 15) = 0 from (show gV τ480 22 0 15 = 0 from gV_put eτ480 (gV_self _ _ _ _ _)))).trans kt_0
            exact J108 ((400 - (gV τ480 22 0 11).toInt).toNat + 1) τ480 i481 f482 v483 (by omega) (by omega) (Or.inl ⟨by omega, by omega⟩) (by first | (rw [show (gV τ480 22 0 11).toInt.toNat = tS T i by omega]) | (rw [show (gV τ480 22 0 11).toInt.toNat = ((gV τ 22 0 11).toInt.toNat) + 1 by omega, sc_go (by omega) (isLe_t (by omega))]; exact nS)) (LNI.zero (by omega) (by rw [v484]; decide)) (Nat.lt_succ_self _)
        · have f490 : (gV τ 22 0 11).toInt = (gV τ 22 0 6).toInt := by
            have q : _ := c436
            simp only [ti_nle, ti_nlt, ti_le, ti_lt, ti_eq, ti_ne, Classical.not_not] at q
            omega
          refine m_iconst (v := 4) C dX12_next_72 (by decide) ?_
          refine m_goto (tgt := 95) C dX12_next_73 (by decide) ?_
          refine p_22_13 C q4_129 dX12_next_95 ?_
          refine m_tops (fun τ491 eτ491 => ?_)
          have i492 : Inv τ491 := eτ491 ▸ Inv.putF i432 (by decide) rfl
          have f493 : Fr MS_X12_nextE AS_X12_nextE σ τ491 := eτ491 ▸ Fr.put (f433) (Or.inl (by decide))
          have v494 : TpM τ491 T N := v434.put eτ491 (Or.inr (by decide)) (by decide)
          have v495 : τ491.2.2.1 = τ.2.2.1 := by rw [eτ491]; exact v435
          refine m_aload_n C dX12_next_98 rfl rfl ?_
          refine m_lconst (v := 0) C dX12_next_99 (by decide) ?_
          refine p_22_14 C q4_130 dX12_next_100 ?_
          refine m_tops (fun τ496 eτ496 => ?_)
          have i497 : Inv τ496 := eτ496 ▸ Inv.putJ i492 _
          have f498 : Fr MS_X12_nextE AS_X12_nextE σ τ496 := eτ496 ▸ Fr.putJ (f493) _
          have v499 : TpM τ496 T N := by rw [eτ496]; exact v494
          have v500 : τ496.2.2.1 = 0 := by rw [eτ496]; rfl
          refine m_aload_n C dX12_next_103 rfl rfl ?_
          refine m_iconst (v := 0) C dX12_next_104 (by decide) ?_
          refine p_22_15 C q4_131 dX12_next_105 ?_
          refine m_tops (fun τ501 eτ501 => ?_)
          have i502 : Inv τ501 := eτ501 ▸ Inv.putF i497 (by decide) rfl
          have f503 : Fr MS_X12_nextE AS_X12_nextE σ τ501 := eτ501 ▸ Fr.put (f498) (Or.inl (by decide))
          have v504 : TpM τ501 T N := v499.put eτ501 (Or.inr (by decide)) (by decide)
          have v505 : τ501.2.2.1 = 0 := by rw [eτ501]; exact v500
          have q506 : (gV τ501 22 0 11).toInt = (gV τ 22 0 11).toInt := congrArg Int32.toInt (show (gV τ501 22 0 11) = (gV τ 22 0 11) from (show gV τ501 22 0 11 = (gV τ 22 0 11) from gV_put eτ501 (show gV τ496 22 0 11 = (gV τ 22 0 11) from gV_putl eτ496 (show gV τ491 22 0 11 = (gV τ 22 0 11) from gV_put eτ491 (show gV τ431 22 0 11 = (gV τ 22 0 11) from gV_put eτ431 rfl)))))
          have q507 : (gV τ501 22 0 6).toInt = (gV τ 22 0 6).toInt := congrArg Int32.toInt (show (gV τ501 22 0 6) = (gV τ 22 0 6) from (show gV τ501 22 0 6 = (gV τ 22 0 6) from gV_put eτ501 (show gV τ496 22 0 6 = (gV τ 22 0 6) from gV_putl eτ496 (show gV τ491 22 0 6 = (gV τ 22 0 6) from gV_put eτ491 (show gV τ431 22 0 6 = (gV τ 22 0 6) from gV_put eτ431 rfl)))))
          have q508 : (gV τ501 22 0 12).toInt = (gV τ 22 0 11).toInt := congrArg Int32.toInt (show (gV τ501 22 0 12) = (gV τ 22 0 11) from (show gV τ501 22 0 12 = (gV τ 22 0 11) from gV_put eτ501 (show gV τ496 22 0 12 = (gV τ 22 0 11) from gV_putl eτ496 (show gV τ491 22 0 12 = (gV τ 22 0 11) from gV_put eτ491 (show gV τ431 22 0 12 = (gV τ 22 0 11) from gV_put eτ431 (gV_self _ _ _ _ _))))))
          have q509 : (gV τ501 22 0 13).toInt = 4 := (congrArg Int32.toInt (show (gV τ501 22 0 13) = 4 from (show gV τ501 22 0 13 = 4 from gV_put eτ501 (show gV τ496 22 0 13 = 4 from gV_putl eτ496 (show gV τ491 22 0 13 = 4 from gV_put eτ491 (gV_self _ _ _ _ _)))))).trans kt_4
          have q510 : (gV τ501 22 0 15).toInt = 0 := (congrArg Int32.toInt (show (gV τ501 22 0 15) = 0 from (show gV τ501 22 0 15 = 0 from gV_put eτ501 (gV_self _ _ _ _ _)))).trans kt_0
          exact J108 ((400 - (gV τ501 22 0 11).toInt).toNat + 1) τ501 i502 f503 v504 (by omega) (by omega) (Or.inl ⟨by omega, by omega⟩) (by first | (rw [show (gV τ501 22 0 11).toInt.toNat = tS T i by omega]) | (rw [show (gV τ501 22 0 11).toInt.toNat = ((gV τ 22 0 11).toInt.toNat) + 1 by omega, sc_go (by omega) (isLe_t (by omega))]; exact nS)) (LNI.zero (by omega) (by rw [v505]; decide)) (Nat.lt_succ_self _)
      · have f511 : (gV τ 22 0 11).toInt < (gV τ 22 0 6).toInt := by
          have q : _ := c427
          simp only [ti_nle, ti_nlt, ti_le, ti_lt, ti_eq, ti_ne, Classical.not_not] at q
          omega
        have b512 : IV (gV τ 22 0 11) 0 399 := ⟨by have q1 := u423; have q2 := u424; omega, by have q1 := u423; have q2 := u424; omega⟩
        have b513 : IV (gV τ 22 0 6) 1 400 := ⟨by have q1 := u423; have q2 := u424; omega, by have q1 := u423; have q2 := u424; omega⟩
        refine m_aload_n C dX12_next_11 rfl rfl ?_
        refine g_22_5 C q4_121 dX12_next_12 ?_
        refine m_aload_n C dX12_next_15 rfl rfl ?_
        refine g_22_11 C q4_127 dX12_next_16 ?_
        refine m_eqs (w := (gV τ 22 0 11)) rfl ?_
        refine al_28 C b512 (by decide) rfl dX12_next_19 ?_
        refine m_topi (fun x514 ex514 => ?_)
        have q515 := v_T.2.2.1 ((gV τ 22 0 11).toInt.toNat) (by omega)
        rw [show gV τ 28 0 ((gV τ 22 0 11).toInt.toNat) = x514 from ex514.symm] at q515
        refine m_bipush (v := 32) C dX12_next_20 (by decide) ?_
        refine m_icmp_eq (tgt := 39) C dX12_next_22 (by decide) (fun c516 => ?_) (fun c516 => ?_)
        · have f517 : x514.toInt = 32 := by
            have q : _ := c516
            simp only [ti_nle, ti_nlt, ti_le, ti_lt, ti_eq, ti_ne, Classical.not_not, kt_32] at q
            omega
          have b518 : IV x514 32 32 := ⟨by have q1 := (iv_any x514); have q2 := kc_32; omega, by have q1 := (iv_any x514); have q2 := kc_32; omega⟩
          refine m_aload_n C dX12_next_39 rfl rfl ?_
          refine m_dup C dX12_next_40 rfl ?_
          refine g_22_11 C q4_127 dX12_next_41 ?_
          refine m_eqs (w := (gV τ 22 0 11)) rfl ?_
          refine m_iconst (v := 1) C dX12_next_44 (by decide) ?_
          refine m_iadd C dX12_next_45 ?_
          refine m_topi (fun x519 ex519 => ?_)
          have tx519 : x519.toInt = (gV τ 22 0 11).toInt + 1 := by rw [ex519, ti_addv b512 kc_1 (by decide), kt_1]
          have b520 : IV x519 1 400 := by rw [ex519]; exact iv_add b512 kc_1 (by decide)
          refine p_22_11 C q4_127 dX12_next_46 ?_
          refine m_tops (fun τ521 eτ521 => ?_)
          have i522 : Inv τ521 := eτ521 ▸ Inv.put iτ (by decide) (iv_wk b520 (by decide))
          have f523 : Fr MS_X12_nextE AS_X12_nextE σ τ521 := eτ521 ▸ Fr.put (fτ) (Or.inl (by decide))
          have v524 : TpM τ521 T N := v_T.put eτ521 (Or.inr (by decide)) (by decide)
          have v525 : τ521.2.2.1 = τ.2.2.1 := by rw [eτ521]; rfl
          refine m_goto (tgt := 0) C dX12_next_49 (by decide) ?_
          have q526 : (gV τ521 22 0 12).toInt = (gV τ 22 0 12).toInt := congrArg Int32.toInt (show (gV τ521 22 0 12) = (gV τ 22 0 12) from (show gV τ521 22 0 12 = (gV τ 22 0 12) from gV_put eτ521 rfl))
          have q527 : (gV τ521 22 0 13).toInt = (gV τ 22 0 13).toInt := congrArg Int32.toInt (show (gV τ521 22 0 13) = (gV τ 22 0 13) from (show gV τ521 22 0 13 = (gV τ 22 0 13) from gV_put eτ521 rfl))
          have q528 : (gV τ521 22 0 15).toInt = (gV τ 22 0 15).toInt := congrArg Int32.toInt (show (gV τ521 22 0 15) = (gV τ 22 0 15) from (show gV τ521 22 0 15 = (gV τ 22 0 15) from gV_put eτ521 rfl))
          have q529 : (gV τ521 22 0 6).toInt = (gV τ 22 0 6).toInt := congrArg Int32.toInt (show (gV τ521 22 0 6) = (gV τ 22 0 6) from (show gV τ521 22 0 6 = (gV τ 22 0 6) from gV_put eτ521 rfl))
          have q530 : (gV τ521 22 0 11).toInt = x519.toInt := congrArg Int32.toInt (show (gV τ521 22 0 11) = x519 from (show gV τ521 22 0 11 = x519 from gV_put eτ521 (gV_self _ _ _ _ _)))
          exact ih0 τ521 i522 f523 v524 (by first | (rw [show (gV τ521 22 0 11).toInt.toNat = i by omega]; rfl) | (rw [show (gV τ521 22 0 11).toInt.toNat = ((gV τ 22 0 11).toInt.toNat) + 1 by omega, sc_go (by omega) (isBl_t (by omega))]; exact nB)) (by omega) (by have q := hm0; omega)
        · have f531 : x514.toInt ≠ 32 := by
            have q : _ := c516
            simp only [ti_nle, ti_nlt, ti_le, ti_lt, ti_eq, ti_ne, Classical.not_not, kt_32] at q
            omega
          refine m_aload_n C dX12_next_25 rfl rfl ?_
          refine g_22_5 C q4_121 dX12_next_26 ?_
          refine m_aload_n C dX12_next_29 rfl rfl ?_
          refine g_22_11 C q4_127 dX12_next_30 ?_
          refine m_eqs (w := (gV τ 22 0 11)) rfl ?_
          refine al_28 C b512 (by decide) rfl dX12_next_33 ?_
          refine m_eqs (w := x514) ex514.symm ?_
          refine m_bipush (v := 10) C dX12_next_34 (by decide) ?_
          refine m_icmp_ne (tgt := 52) C dX12_next_36 (by decide) (fun c532 => ?_) (fun c532 => ?_)
          · have f533 : x514.toInt ≠ 10 := by
              have q : _ := c532
              simp only [ti_nle, ti_nlt, ti_le, ti_lt, ti_eq, ti_ne, Classical.not_not, kt_10] at q
              omega
            have q0 := sc_no (P := isBl) (T := T) (i := ((gV τ 22 0 11).toInt.toNat)) (isBl_f (by first | omega | (have q2 := v_T.2.2.2 ((gV τ 22 0 11).toInt.toNat) (by omega); omega)))
            have q534 : (gV τ 22 0 11).toInt = (tS T i : Int) := by have q3 := nB; omega
            have q535 : T (tS T i) = T ((gV τ 22 0 11).toInt.toNat) := by rw [show tS T i = ((gV τ 22 0 11).toInt.toNat) by omega]
            refine m_aload_n C dX12_next_52 rfl rfl ?_
            refine m_aload_n C dX12_next_53 rfl rfl ?_
            refine g_22_11 C q4_127 dX12_next_54 ?_
            refine m_eqs (w := (gV τ 22 0 11)) rfl ?_
            refine p_22_12 C q4_128 dX12_next_57 ?_
            refine m_tops (fun τ536 eτ536 => ?_)
            have i537 : Inv τ536 := eτ536 ▸ Inv.putF iτ (by decide) rfl
            have f538 : Fr MS_X12_nextE AS_X12_nextE σ τ536 := eτ536 ▸ Fr.put (fτ) (Or.inl (by decide))
            have v539 : TpM τ536 T N := v_T.put eτ536 (Or.inr (by decide)) (by decide)
            have v540 : τ536.2.2.1 = τ.2.2.1 := by rw [eτ536]; rfl
            refine m_aload_n C dX12_next_60 rfl rfl ?_
            refine m_aload_n C dX12_next_61 rfl rfl ?_
            refine g_22_11 C q4_127 dX12_next_62 ?_
            refine m_eqs (w := (gV τ 22 0 11)) (show gV τ536 22 0 11 = (gV τ 22 0 11) from gV_put eτ536 rfl) ?_
            refine m_aload_n C dX12_next_65 rfl rfl ?_
            refine g_22_6 C q4_122 dX12_next_66 ?_
            refine m_eqs (w := (gV τ 22 0 6)) (show gV τ536 22 0 6 = (gV τ 22 0 6) from gV_put eτ536 rfl) ?_
            refine m_icmp_ne (tgt := 76) C dX12_next_69 (by decide) (fun c541 => ?_) (fun c541 => ?_)
            · have f542 : (gV τ 22 0 11).toInt ≠ (gV τ 22 0 6).toInt := by
                have q : _ := c541
                simp only [ti_nle, ti_nlt, ti_le, ti_lt, ti_eq, ti_ne, Classical.not_not] at q
                omega
              refine m_aload_n C dX12_next_76 rfl rfl ?_
              refine g_22_5 C q4_121 dX12_next_77 ?_
              refine m_aload_n C dX12_next_80 rfl rfl ?_
              refine g_22_11 C q4_127 dX12_next_81 ?_
              refine m_eqs (w := (gV τ 22 0 11)) (show gV τ536 22 0 11 = (gV τ 22 0 11) from gV_put eτ536 rfl) ?_
              have q543 : (gV τ536 22 0 11).toInt = (gV τ 22 0 11).toInt := congrArg Int32.toInt (show (gV τ536 22 0 11) = (gV τ 22 0 11) from (show gV τ536 22 0 11 = (gV τ 22 0 11) from gV_put eτ536 rfl))
              have q544 : (gV τ536 22 0 13).toInt = (gV τ 22 0 13).toInt := congrArg Int32.toInt (show (gV τ536 22 0 13) = (gV τ 22 0 13) from (show gV τ536 22 0 13 = (gV τ 22 0 13) from gV_put eτ536 rfl))
              have q545 : (gV τ536 22 0 15).toInt = (gV τ 22 0 15).toInt := congrArg Int32.toInt (show (gV τ536 22 0 15) = (gV τ 22 0 15) from (show gV τ536 22 0 15 = (gV τ 22 0 15) from gV_put eτ536 rfl))
              have q546 : (gV τ536 22 0 6).toInt = (gV τ 22 0 6).toInt := congrArg Int32.toInt (show (gV τ536 22 0 6) = (gV τ 22 0 6) from (show gV τ536 22 0 6 = (gV τ 22 0 6) from gV_put eτ536 rfl))
              have q547 : (gV τ536 22 0 12).toInt = (gV τ 22 0 11).toInt := congrArg Int32.toInt (show (gV τ536 22 0 12) = (gV τ 22 0 11) from (show gV τ536 22 0 12 = (gV τ 22 0 11) from gV_put eτ536 (gV_self _ _ _ _ _)))
              have b548 : IV (gV τ 22 0 11) 0 399 := ⟨by omega, by omega⟩
              refine al_28 C b548 (by decide) rfl dX12_next_84 ?_
              refine m_eqs (w := x514) (show gV τ536 28 0 ((gV τ 22 0 11).toInt.toNat) = x514 from gV_put eτ536 ex514.symm) ?_
              have q549 := v539.2.2.1 ((gV τ 22 0 11).toInt.toNat) (by omega)
              rw [show gV τ536 28 0 ((gV τ 22 0 11).toInt.toNat) = x514 from (show gV τ536 28 0 ((gV τ 22 0 11).toInt.toNat) = x514 from gV_put eτ536 ex514.symm)] at q549
              refine m_bipush (v := 59) C dX12_next_85 (by decide) ?_
              refine m_icmp_ne (tgt := 94) C dX12_next_87 (by decide) (fun c550 => ?_) (fun c550 => ?_)
              · have f551 : x514.toInt ≠ 59 := by
                  have q : _ := c550
                  simp only [ti_nle, ti_nlt, ti_le, ti_lt, ti_eq, ti_ne, Classical.not_not, kt_59] at q
                  omega
                refine m_iconst (v := 3) C dX12_next_94 (by decide) ?_
                refine p_22_13 C q4_129 dX12_next_95 ?_
                refine m_tops (fun τ552 eτ552 => ?_)
                have i553 : Inv τ552 := eτ552 ▸ Inv.putF i537 (by decide) rfl
                have f554 : Fr MS_X12_nextE AS_X12_nextE σ τ552 := eτ552 ▸ Fr.put (f538) (Or.inl (by decide))
                have v555 : TpM τ552 T N := v539.put eτ552 (Or.inr (by decide)) (by decide)
                have v556 : τ552.2.2.1 = τ.2.2.1 := by rw [eτ552]; exact v540
                refine m_aload_n C dX12_next_98 rfl rfl ?_
                refine m_lconst (v := 0) C dX12_next_99 (by decide) ?_
                refine p_22_14 C q4_130 dX12_next_100 ?_
                refine m_tops (fun τ557 eτ557 => ?_)
                have i558 : Inv τ557 := eτ557 ▸ Inv.putJ i553 _
                have f559 : Fr MS_X12_nextE AS_X12_nextE σ τ557 := eτ557 ▸ Fr.putJ (f554) _
                have v560 : TpM τ557 T N := by rw [eτ557]; exact v555
                have v561 : τ557.2.2.1 = 0 := by rw [eτ557]; rfl
                refine m_aload_n C dX12_next_103 rfl rfl ?_
                refine m_iconst (v := 0) C dX12_next_104 (by decide) ?_
                refine p_22_15 C q4_131 dX12_next_105 ?_
                refine m_tops (fun τ562 eτ562 => ?_)
                have i563 : Inv τ562 := eτ562 ▸ Inv.putF i558 (by decide) rfl
                have f564 : Fr MS_X12_nextE AS_X12_nextE σ τ562 := eτ562 ▸ Fr.put (f559) (Or.inl (by decide))
                have v565 : TpM τ562 T N := v560.put eτ562 (Or.inr (by decide)) (by decide)
                have v566 : τ562.2.2.1 = 0 := by rw [eτ562]; exact v561
                have q567 : (gV τ562 22 0 11).toInt = (gV τ 22 0 11).toInt := congrArg Int32.toInt (show (gV τ562 22 0 11) = (gV τ 22 0 11) from (show gV τ562 22 0 11 = (gV τ 22 0 11) from gV_put eτ562 (show gV τ557 22 0 11 = (gV τ 22 0 11) from gV_putl eτ557 (show gV τ552 22 0 11 = (gV τ 22 0 11) from gV_put eτ552 (show gV τ536 22 0 11 = (gV τ 22 0 11) from gV_put eτ536 rfl)))))
                have q568 : (gV τ562 22 0 6).toInt = (gV τ 22 0 6).toInt := congrArg Int32.toInt (show (gV τ562 22 0 6) = (gV τ 22 0 6) from (show gV τ562 22 0 6 = (gV τ 22 0 6) from gV_put eτ562 (show gV τ557 22 0 6 = (gV τ 22 0 6) from gV_putl eτ557 (show gV τ552 22 0 6 = (gV τ 22 0 6) from gV_put eτ552 (show gV τ536 22 0 6 = (gV τ 22 0 6) from gV_put eτ536 rfl)))))
                have q569 : (gV τ562 22 0 12).toInt = (gV τ 22 0 11).toInt := congrArg Int32.toInt (show (gV τ562 22 0 12) = (gV τ 22 0 11) from (show gV τ562 22 0 12 = (gV τ 22 0 11) from gV_put eτ562 (show gV τ557 22 0 12 = (gV τ 22 0 11) from gV_putl eτ557 (show gV τ552 22 0 12 = (gV τ 22 0 11) from gV_put eτ552 (show gV τ536 22 0 12 = (gV τ 22 0 11) from gV_put eτ536 (gV_self _ _ _ _ _))))))
                have q570 : (gV τ562 22 0 13).toInt = 3 := (congrArg Int32.toInt (show (gV τ562 22 0 13) = 3 from (show gV τ562 22 0 13 = 3 from gV_put eτ562 (show gV τ557 22 0 13 = 3 from gV_putl eτ557 (show gV τ552 22 0 13 = 3 from gV_put eτ552 (gV_self _ _ _ _ _)))))).trans kt_3
                have q571 : (gV τ562 22 0 15).toInt = 0 := (congrArg Int32.toInt (show (gV τ562 22 0 15) = 0 from (show gV τ562 22 0 15 = 0 from gV_put eτ562 (gV_self _ _ _ _ _)))).trans kt_0
                exact J108 ((400 - (gV τ562 22 0 11).toInt).toNat + 1) τ562 i563 f564 v565 (by omega) (by omega) (Or.inl ⟨by omega, by omega⟩) (by first | (rw [show (gV τ562 22 0 11).toInt.toNat = tS T i by omega]) | (rw [show (gV τ562 22 0 11).toInt.toNat = ((gV τ 22 0 11).toInt.toNat) + 1 by omega, sc_go (by omega) (isLe_t (by omega))]; exact nS)) (LNI.zero (by omega) (by rw [v566]; decide)) (Nat.lt_succ_self _)
              · have f572 : x514.toInt = 59 := by
                  have q : _ := c550
                  simp only [ti_nle, ti_nlt, ti_le, ti_lt, ti_eq, ti_ne, Classical.not_not, kt_59] at q
                  omega
                have b573 : IV x514 59 59 := ⟨by have q1 := (iv_any x514); have q2 := kc_59; omega, by have q1 := (iv_any x514); have q2 := kc_59; omega⟩
                refine m_iconst (v := 2) C dX12_next_90 (by decide) ?_
                refine m_goto (tgt := 95) C dX12_next_91 (by decide) ?_
                refine p_22_13 C q4_129 dX12_next_95 ?_
                refine m_tops (fun τ574 eτ574 => ?_)
                have i575 : Inv τ574 := eτ574 ▸ Inv.putF i537 (by decide) rfl
                have f576 : Fr MS_X12_nextE AS_X12_nextE σ τ574 := eτ574 ▸ Fr.put (f538) (Or.inl (by decide))
                have v577 : TpM τ574 T N := v539.put eτ574 (Or.inr (by decide)) (by decide)
                have v578 : τ574.2.2.1 = τ.2.2.1 := by rw [eτ574]; exact v540
                refine m_aload_n C dX12_next_98 rfl rfl ?_
                refine m_lconst (v := 0) C dX12_next_99 (by decide) ?_
                refine p_22_14 C q4_130 dX12_next_100 ?_
                refine m_tops (fun τ579 eτ579 => ?_)
                have i580 : Inv τ579 := eτ579 ▸ Inv.putJ i575 _
                have f581 : Fr MS_X12_nextE AS_X12_nextE σ τ579 := eτ579 ▸ Fr.putJ (f576) _
                have v582 : TpM τ579 T N := by rw [eτ579]; exact v577
                have v583 : τ579.2.2.1 = 0 := by rw [eτ579]; rfl
                refine m_aload_n C dX12_next_103 rfl rfl ?_
                refine m_iconst (v := 0) C dX12_next_104 (by decide) ?_
                refine p_22_15 C q4_131 dX12_next_105 ?_
                refine m_tops (fun τ584 eτ584 => ?_)
                have i585 : Inv τ584 := eτ584 ▸ Inv.putF i580 (by decide) rfl
                have f586 : Fr MS_X12_nextE AS_X12_nextE σ τ584 := eτ584 ▸ Fr.put (f581) (Or.inl (by decide))
                have v587 : TpM τ584 T N := v582.put eτ584 (Or.inr (by decide)) (by decide)
                have v588 : τ584.2.2.1 = 0 := by rw [eτ584]; exact v583
                have q589 : (gV τ584 22 0 11).toInt = (gV τ 22 0 11).toInt := congrArg Int32.toInt (show (gV τ584 22 0 11) = (gV τ 22 0 11) from (show gV τ584 22 0 11 = (gV τ 22 0 11) from gV_put eτ584 (show gV τ579 22 0 11 = (gV τ 22 0 11) from gV_putl eτ579 (show gV τ574 22 0 11 = (gV τ 22 0 11) from gV_put eτ574 (show gV τ536 22 0 11 = (gV τ 22 0 11) from gV_put eτ536 rfl)))))
                have q590 : (gV τ584 22 0 6).toInt = (gV τ 22 0 6).toInt := congrArg Int32.toInt (show (gV τ584 22 0 6) = (gV τ 22 0 6) from (show gV τ584 22 0 6 = (gV τ 22 0 6) from gV_put eτ584 (show gV τ579 22 0 6 = (gV τ 22 0 6) from gV_putl eτ579 (show gV τ574 22 0 6 = (gV τ 22 0 6) from gV_put eτ574 (show gV τ536 22 0 6 = (gV τ 22 0 6) from gV_put eτ536 rfl)))))
                have q591 : (gV τ584 22 0 12).toInt = (gV τ 22 0 11).toInt := congrArg Int32.toInt (show (gV τ584 22 0 12) = (gV τ 22 0 11) from (show gV τ584 22 0 12 = (gV τ 22 0 11) from gV_put eτ584 (show gV τ579 22 0 12 = (gV τ 22 0 11) from gV_putl eτ579 (show gV τ574 22 0 12 = (gV τ 22 0 11) from gV_put eτ574 (show gV τ536 22 0 12 = (gV τ 22 0 11) from gV_put eτ536 (gV_self _ _ _ _ _))))))
                have q592 : (gV τ584 22 0 13).toInt = 2 := (congrArg Int32.toInt (show (gV τ584 22 0 13) = 2 from (show gV τ584 22 0 13 = 2 from gV_put eτ584 (show gV τ579 22 0 13 = 2 from gV_putl eτ579 (show gV τ574 22 0 13 = 2 from gV_put eτ574 (gV_self _ _ _ _ _)))))).trans kt_2
                have q593 : (gV τ584 22 0 15).toInt = 0 := (congrArg Int32.toInt (show (gV τ584 22 0 15) = 0 from (show gV τ584 22 0 15 = 0 from gV_put eτ584 (gV_self _ _ _ _ _)))).trans kt_0
                exact J108 ((400 - (gV τ584 22 0 11).toInt).toNat + 1) τ584 i585 f586 v587 (by omega) (by omega) (Or.inl ⟨by omega, by omega⟩) (by first | (rw [show (gV τ584 22 0 11).toInt.toNat = tS T i by omega]) | (rw [show (gV τ584 22 0 11).toInt.toNat = ((gV τ 22 0 11).toInt.toNat) + 1 by omega, sc_go (by omega) (isLe_t (by omega))]; exact nS)) (LNI.zero (by omega) (by rw [v588]; decide)) (Nat.lt_succ_self _)
            · have f594 : (gV τ 22 0 11).toInt = (gV τ 22 0 6).toInt := by
                have q : _ := c541
                simp only [ti_nle, ti_nlt, ti_le, ti_lt, ti_eq, ti_ne, Classical.not_not] at q
                omega
              have b595 : IV (gV τ 22 0 11) 1 399 := ⟨by have q1 := b512; have q2 := b513; omega, by have q1 := b512; have q2 := b513; omega⟩
              have b596 : IV (gV τ 22 0 6) 1 399 := ⟨by have q1 := b512; have q2 := b513; omega, by have q1 := b512; have q2 := b513; omega⟩
              refine m_iconst (v := 4) C dX12_next_72 (by decide) ?_
              refine m_goto (tgt := 95) C dX12_next_73 (by decide) ?_
              refine p_22_13 C q4_129 dX12_next_95 ?_
              refine m_tops (fun τ597 eτ597 => ?_)
              have i598 : Inv τ597 := eτ597 ▸ Inv.putF i537 (by decide) rfl
              have f599 : Fr MS_X12_nextE AS_X12_nextE σ τ597 := eτ597 ▸ Fr.put (f538) (Or.inl (by decide))
              have v600 : TpM τ597 T N := v539.put eτ597 (Or.inr (by decide)) (by decide)
              have v601 : τ597.2.2.1 = τ.2.2.1 := by rw [eτ597]; exact v540
              refine m_aload_n C dX12_next_98 rfl rfl ?_
              refine m_lconst (v := 0) C dX12_next_99 (by decide) ?_
              refine p_22_14 C q4_130 dX12_next_100 ?_
              refine m_tops (fun τ602 eτ602 => ?_)
              have i603 : Inv τ602 := eτ602 ▸ Inv.putJ i598 _
              have f604 : Fr MS_X12_nextE AS_X12_nextE σ τ602 := eτ602 ▸ Fr.putJ (f599) _
              have v605 : TpM τ602 T N := by rw [eτ602]; exact v600
              have v606 : τ602.2.2.1 = 0 := by rw [eτ602]; rfl
              refine m_aload_n C dX12_next_103 rfl rfl ?_
              refine m_iconst (v := 0) C dX12_next_104 (by decide) ?_
              refine p_22_15 C q4_131 dX12_next_105 ?_
              refine m_tops (fun τ607 eτ607 => ?_)
              have i608 : Inv τ607 := eτ607 ▸ Inv.putF i603 (by decide) rfl
              have f609 : Fr MS_X12_nextE AS_X12_nextE σ τ607 := eτ607 ▸ Fr.put (f604) (Or.inl (by decide))
              have v610 : TpM τ607 T N := v605.put eτ607 (Or.inr (by decide)) (by decide)
              have v611 : τ607.2.2.1 = 0 := by rw [eτ607]; exact v606
              have q612 : (gV τ607 22 0 11).toInt = (gV τ 22 0 11).toInt := congrArg Int32.toInt (show (gV τ607 22 0 11) = (gV τ 22 0 11) from (show gV τ607 22 0 11 = (gV τ 22 0 11) from gV_put eτ607 (show gV τ602 22 0 11 = (gV τ 22 0 11) from gV_putl eτ602 (show gV τ597 22 0 11 = (gV τ 22 0 11) from gV_put eτ597 (show gV τ536 22 0 11 = (gV τ 22 0 11) from gV_put eτ536 rfl)))))
              have q613 : (gV τ607 22 0 6).toInt = (gV τ 22 0 6).toInt := congrArg Int32.toInt (show (gV τ607 22 0 6) = (gV τ 22 0 6) from (show gV τ607 22 0 6 = (gV τ 22 0 6) from gV_put eτ607 (show gV τ602 22 0 6 = (gV τ 22 0 6) from gV_putl eτ602 (show gV τ597 22 0 6 = (gV τ 22 0 6) from gV_put eτ597 (show gV τ536 22 0 6 = (gV τ 22 0 6) from gV_put eτ536 rfl)))))
              have q614 : (gV τ607 22 0 12).toInt = (gV τ 22 0 11).toInt := congrArg Int32.toInt (show (gV τ607 22 0 12) = (gV τ 22 0 11) from (show gV τ607 22 0 12 = (gV τ 22 0 11) from gV_put eτ607 (show gV τ602 22 0 12 = (gV τ 22 0 11) from gV_putl eτ602 (show gV τ597 22 0 12 = (gV τ 22 0 11) from gV_put eτ597 (show gV τ536 22 0 12 = (gV τ 22 0 11) from gV_put eτ536 (gV_self _ _ _ _ _))))))
              have q615 : (gV τ607 22 0 13).toInt = 4 := (congrArg Int32.toInt (show (gV τ607 22 0 13) = 4 from (show gV τ607 22 0 13 = 4 from gV_put eτ607 (show gV τ602 22 0 13 = 4 from gV_putl eτ602 (show gV τ597 22 0 13 = 4 from gV_put eτ597 (gV_self _ _ _ _ _)))))).trans kt_4
              have q616 : (gV τ607 22 0 15).toInt = 0 := (congrArg Int32.toInt (show (gV τ607 22 0 15) = 0 from (show gV τ607 22 0 15 = 0 from gV_put eτ607 (gV_self _ _ _ _ _)))).trans kt_0
              exact J108 ((400 - (gV τ607 22 0 11).toInt).toNat + 1) τ607 i608 f609 v610 (by omega) (by omega) (Or.inl ⟨by omega, by omega⟩) (by first | (rw [show (gV τ607 22 0 11).toInt.toNat = tS T i by omega]) | (rw [show (gV τ607 22 0 11).toInt.toNat = ((gV τ 22 0 11).toInt.toNat) + 1 by omega, sc_go (by omega) (isLe_t (by omega))]; exact nS)) (LNI.zero (by omega) (by rw [v611]; decide)) (Nat.lt_succ_self _)
          · have f617 : x514.toInt = 10 := by
              have q : _ := c532
              simp only [ti_nle, ti_nlt, ti_le, ti_lt, ti_eq, ti_ne, Classical.not_not, kt_10] at q
              omega
            have b618 : IV x514 10 10 := ⟨by have q1 := (iv_any x514); have q2 := kc_10; omega, by have q1 := (iv_any x514); have q2 := kc_10; omega⟩
            refine m_aload_n C dX12_next_39 rfl rfl ?_
            refine m_dup C dX12_next_40 rfl ?_
            refine g_22_11 C q4_127 dX12_next_41 ?_
            refine m_eqs (w := (gV τ 22 0 11)) rfl ?_
            refine m_iconst (v := 1) C dX12_next_44 (by decide) ?_
            refine m_iadd C dX12_next_45 ?_
            refine m_topi (fun x619 ex619 => ?_)
            have tx619 : x619.toInt = (gV τ 22 0 11).toInt + 1 := by rw [ex619, ti_addv b512 kc_1 (by decide), kt_1]
            have b620 : IV x619 1 400 := by rw [ex619]; exact iv_add b512 kc_1 (by decide)
            refine p_22_11 C q4_127 dX12_next_46 ?_
            refine m_tops (fun τ621 eτ621 => ?_)
            have i622 : Inv τ621 := eτ621 ▸ Inv.put iτ (by decide) (iv_wk b620 (by decide))
            have f623 : Fr MS_X12_nextE AS_X12_nextE σ τ621 := eτ621 ▸ Fr.put (fτ) (Or.inl (by decide))
            have v624 : TpM τ621 T N := v_T.put eτ621 (Or.inr (by decide)) (by decide)
            have v625 : τ621.2.2.1 = τ.2.2.1 := by rw [eτ621]; rfl
            refine m_goto (tgt := 0) C dX12_next_49 (by decide) ?_
            have q626 : (gV τ621 22 0 12).toInt = (gV τ 22 0 12).toInt := congrArg Int32.toInt (show (gV τ621 22 0 12) = (gV τ 22 0 12) from (show gV τ621 22 0 12 = (gV τ 22 0 12) from gV_put eτ621 rfl))
            have q627 : (gV τ621 22 0 13).toInt = (gV τ 22 0 13).toInt := congrArg Int32.toInt (show (gV τ621 22 0 13) = (gV τ 22 0 13) from (show gV τ621 22 0 13 = (gV τ 22 0 13) from gV_put eτ621 rfl))
            have q628 : (gV τ621 22 0 15).toInt = (gV τ 22 0 15).toInt := congrArg Int32.toInt (show (gV τ621 22 0 15) = (gV τ 22 0 15) from (show gV τ621 22 0 15 = (gV τ 22 0 15) from gV_put eτ621 rfl))
            have q629 : (gV τ621 22 0 6).toInt = (gV τ 22 0 6).toInt := congrArg Int32.toInt (show (gV τ621 22 0 6) = (gV τ 22 0 6) from (show gV τ621 22 0 6 = (gV τ 22 0 6) from gV_put eτ621 rfl))
            have q630 : (gV τ621 22 0 11).toInt = x619.toInt := congrArg Int32.toInt (show (gV τ621 22 0 11) = x619 from (show gV τ621 22 0 11 = x619 from gV_put eτ621 (gV_self _ _ _ _ _)))
            exact ih0 τ621 i622 f623 v624 (by first | (rw [show (gV τ621 22 0 11).toInt.toNat = i by omega]; rfl) | (rw [show (gV τ621 22 0 11).toInt.toNat = ((gV τ 22 0 11).toInt.toNat) + 1 by omega, sc_go (by omega) (isBl_t (by omega))]; exact nB)) (by omega) (by have q := hm0; omega)
  have u631 : IV (gV σ 22 0 11) 0 400 := hI.1 22 0 11
  have u632 : IV (gV σ 22 0 6) 0 400 := hI.1 22 0 6
  have q633 : (gV σ 22 0 6).toInt = (N : Int) := hT.1
  have q634 := hT.2.1
  exact J0 ((400 - (gV σ 22 0 11).toInt).toNat + 1) σ hI Fr.rf hT (by first | (rw [show (gV σ 22 0 11).toInt.toNat = i by omega]; rfl) | (rw [show (gV σ 22 0 11).toInt.toNat = ((gV τ 22 0 11).toInt.toNat) + 1 by omega, sc_go (by omega) (isBl_t (by omega))]; exact nB)) (by omega) (Nat.lt_succ_self _)
