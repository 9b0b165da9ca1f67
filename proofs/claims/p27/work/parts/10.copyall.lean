/-! ===== copyAll: fifty numbers of the long row ===== -/
def CpI (s d n : Nat) (σ τ : Sg) : Prop := τ.2 = σ.2 ∧ (∀ k, k < n → gV τ 23 0 (d + k) = gV σ 23 0 (s + k)) ∧ ∀ t j k, (t ≠ 23 ∨ j ≠ 0 ∨ k < d ∨ d + n ≤ k) → gV τ t j k = gV σ t j k
/-- the tower that was read: who goes has a pace -/
def Pb (σ : Sg) : Prop := ∀ p : Nat, p < 7 → (p : Int) < (gV σ 23 0 152).toInt → 1 ≤ (gV σ 23 0 (167 + p)).toInt
theorem CpI.rf {s d : Nat} {σ : Sg} : CpI s d 0 σ σ := ⟨rfl, fun _ h => absurd h (Nat.not_lt_zero _), fun _ _ _ _ => rfl⟩
theorem CpI.step {s d n : Nat} {σ τ υ : Sg} (h : CpI s d n σ τ) (hsd : s + n < d ∨ d + n ≤ s + n) (e : υ = sV τ 23 0 (d + n) (gV τ 23 0 (s + n))) : CpI s d (n + 1) σ υ := by
  subst e
  obtain ⟨h0, h1, h2⟩ := h
  refine ⟨h0, fun k hk => ?_, fun t j k hk => ?_⟩
  · by_cases g : k = n
    · subst g
      rw [gV_self]
      exact h2 23 0 (s + k) (Or.inr (Or.inr hsd))
    · rw [gV_ne (Or.inr (Or.inr (by omega)))]
      exact h1 k (by omega)
  · rw [gV_ne (by
      rcases hk with q | q | q
      · exact Or.inl q
      · exact Or.inr (Or.inl q)
      · exact Or.inr (Or.inr (by omega)))]
    exact h2 t j k (by
      rcases hk with q | q | q
      · exact Or.inl q
      · exact Or.inr (Or.inl q)
      · exact Or.inr (Or.inr (by omega)))
theorem bT_mod {a b : Nat} (h : a % 50 = b % 50) : bT 23 a = bT 23 b := by
  show (if a % 50 = 2 then _ else if a % 50 = 38 then _ else _) = (if b % 50 = 2 then _ else if b % 50 = 38 then _ else _)
  rw [h]
theorem CpI.inv {s d : Nat} {σ τ : Sg} (h : CpI s d 50 σ τ) (hI : Inv σ) (hs : s % 50 = 0) (hd : d % 50 = 0) (hs1 : s ≤ 1400) (hd3 : d ≠ 150) (hp : s ≠ 150 ∨ Pb σ) : Inv τ := by
  obtain ⟨h0, h1, h2⟩ := h
  have out : ∀ t j k, (t ≠ 23 ∨ j ≠ 0 ∨ k < d ∨ d + 50 ≤ k) → gV τ t j k = gV σ t j k := h2
  refine ⟨fun t j k => ?_, fun b p hb hb3 hp7 hlt => ?_, ?_⟩
  · by_cases g : t ≠ 23 ∨ j ≠ 0 ∨ k < d ∨ d + 50 ≤ k
    · rw [out t j k g]
      exact hI.1 t j k
    · have g1 : t = 23 := Classical.byContradiction fun q => g (Or.inl q)
      have g2 : j = 0 := Classical.byContradiction fun q => g (Or.inr (Or.inl q))
      have g3 : d ≤ k ∧ k < d + 50 := Classical.byContradiction fun q => g (Or.inr (Or.inr (by omega)))
      subst g1; subst g2
      have e := h1 (k - d) (by omega)
      rw [show d + (k - d) = k by omega] at e
      rw [e, bT_mod (b := s + (k - d)) (by omega)]
      exact hI.1 23 0 (s + (k - d))
  · by_cases g : 50 * b = d
    · rw [g, h1 2 (by decide)] at hlt
      rw [g, show d + 17 + p = d + (17 + p) by omega, h1 (17 + p) (by omega)]
      by_cases g3 : s = 150
      · rcases hp with q | q
        · exact absurd g3 q
        · subst g3
          exact (show 150 + (17 + p) = 167 + p by omega) ▸ q p hp7 hlt
      · have q := hI.2.1 (s / 50) p (by omega) (by omega) hp7
        rw [show 50 * (s / 50) = s by omega, show s + 17 + p = s + (17 + p) by omega] at q
        exact q hlt
    · rw [out 23 0 (50 * b + 2) (Or.inr (Or.inr (by omega)))] at hlt
      rw [out 23 0 (50 * b + 17 + p) (Or.inr (Or.inr (by omega)))]
      exact hI.2.1 b p hb hb3 hp7 hlt
  · show Ps τ
    unfold Ps
    rw [h0]
    exact hI.2.2
abbrev MS_X12_copyAll : List (Nat × Nat) := []
abbrev AS_X12_copyAll : List Nat := [23]
theorem CpI.fr {s d : Nat} {σ τ : Sg} (h : CpI s d 50 σ τ) : Fr MS_X12_copyAll AS_X12_copyAll σ τ := ⟨fun t j k _ ht => h.2.2 t j k (Or.inl (fun q => ht (by rw [q]; decide))), fun _ => by rw [h.1], fun _ => by rw [h.1]⟩
set_option maxHeartbeats 4000000 in
set_option maxRecDepth 100000 in
theorem c_X12_copyAll (l : Launch) (G : Gt) (σ : Sg) (a1 : Int32) (a2 : Int32) (hI : Inv σ) (ha1 : IV a1 0 1400) (ha2 : IV a2 0 1400) (m1 : a1.toInt % 50 = 0) (m2 : a2.toInt % 50 = 0) (n2 : a2.toInt ≠ 150) (n1 : a1.toInt ≠ 150 ∨ Pb σ) : Mc l G yX12_copyAll cX12_copyAll 4 none 0 0 0 0 [.ref (G.1 22 0), .int a1, .int a2] σ (PV fun τ => Inv τ ∧ Fr MS_X12_copyAll AS_X12_copyAll σ τ ∧ CpI a1.toInt.toNat a2.toInt.toNat 50 σ τ) := by
  refine Mc.of (L0 := [some (.ref (G.1 22 0)), some (.int a1), some (.int a2), none]) (by decide) (Nat.le_of_ble_eq_true rfl) rfl ?_
  intro p e s m args below meth c C hr hlk
  have C : Cx p s m args c cX12_copyAll 4 "LeanTowerModel" := C
  have k0 : (0 : Int32).toInt = 0 := by decide
  have k1 : (1 : Int32).toInt = 1 := by decide
  have J2 : ∀ (n : Nat) (τ : Sg) (y3 : Int32), IV y3 0 50 → CpI a1.toInt.toNat a2.toInt.toNat y3.toInt.toNat σ τ → (50 - y3.toInt).toNat < n → MW p l e { frames := 0, cells := 0, slots := 0, locals := 0 } s m args below meth c (MQ below (QP G (PV fun τ => Inv τ ∧ Fr MS_X12_copyAll AS_X12_copyAll σ τ ∧ CpI a1.toInt.toNat a2.toInt.toNat 50 σ τ)) args s 0 0 (aG G)) 4 G 0 0 2 [some (.ref (G.1 22 0)), some (.int a1), some (.int a2), some (.int y3)] [] τ := by
    intro n
    induction n with
    | zero => intro τ y3 b_y3 hcp hm; exact absurd hm (Nat.not_lt_zero _)
    | succ n ih2 =>
      intro τ y3 b_y3 hcp hm2
      refine m_iload_n C dX12_copyAll_2 rfl rfl ?_
      refine m_bipush (v := 50) C dX12_copyAll_3 (by decide) ?_
      refine m_icmp_ge (tgt := 30) C dX12_copyAll_5 (by decide) (fun c1 => ?_) (fun c1 => ?_)
      · have f2 : 50 ≤ y3.toInt := by
          have q : _ := c1
          simp only [ti_nle, ti_nlt, ti_le, ti_lt, ti_eq, ti_ne, Classical.not_not, kt_50] at q
          omega
        rw [show y3.toInt.toNat = 50 by omega] at hcp
        exact m_vret C hr hlk (by decide) (by decide) dX12_copyAll_30 ⟨rfl, hcp.inv hI (by omega) (by omega) (by omega) (by omega) (n1.imp (fun q => by omega) id), hcp.fr, hcp⟩
      · have f4 : y3.toInt < 50 := by
          have q : _ := c1
          simp only [ti_nle, ti_nlt, ti_le, ti_lt, ti_eq, ti_ne, Classical.not_not, kt_50] at q
          omega
        have b5 : IV y3 0 49 := ⟨by have q1 := b_y3; have q2 := kc_50; omega, by have q1 := b_y3; have q2 := kc_50; omega⟩
        refine m_aload_n C dX12_copyAll_8 rfl rfl ?_
        refine g_22_0 C q4_116 dX12_copyAll_9 ?_
        refine m_iload_n C dX12_copyAll_12 rfl rfl ?_
        refine m_iload_n C dX12_copyAll_13 rfl rfl ?_
        refine m_iadd C dX12_copyAll_14 ?_
        refine m_topi (fun x6 ex6 => ?_)
        have tx6 : x6.toInt = a2.toInt + y3.toInt := by rw [ex6, ti_addv ha2 b5 (by decide)]
        have b7 : IV x6 0 1449 := by rw [ex6]; exact iv_add ha2 b5 (by decide)
        refine m_aload_n C dX12_copyAll_15 rfl rfl ?_
        refine g_22_0 C q4_116 dX12_copyAll_16 ?_
        refine m_iload_n C dX12_copyAll_19 rfl rfl ?_
        refine m_iload_n C dX12_copyAll_20 rfl rfl ?_
        refine m_iadd C dX12_copyAll_21 ?_
        refine m_topi (fun x8 ex8 => ?_)
        have tx8 : x8.toInt = a1.toInt + y3.toInt := by rw [ex8, ti_addv ha1 b5 (by decide)]
        have b9 : IV x8 0 1449 := by rw [ex8]; exact iv_add ha1 b5 (by decide)
        refine al_23 (n := a1.toInt.toNat + y3.toInt.toNat) C b9 (by decide) (by omega) dX12_copyAll_22 ?_
        refine as_23 (n := a2.toInt.toNat + y3.toInt.toNat) C b7 (by decide) (by omega) dX12_copyAll_23 ?_
        refine m_tops (fun τ11 eτ11 => ?_)
        obtain ⟨x14, ex14⟩ : ∃ y : Int32, y = y3 + 1 := ⟨_, rfl⟩
        have tx14 : x14.toInt = y3.toInt + 1 := by rw [ex14, ti_addv b5 kc_1 (by decide), kt_1]
        have b15 : IV x14 1 50 := by rw [ex14]; exact iv_add b5 kc_1 (by decide)
        have hcp2 := hcp.step (by omega) eτ11
        rw [show y3.toInt.toNat + 1 = x14.toInt.toNat by omega] at hcp2
        refine m_iinc (v := x14) (L1 := [some (.ref (G.1 22 0)), some (.int a1), some (.int a2), some (.int x14)]) C dX12_copyAll_24 rfl (by rw [ex14]; rfl) (by decide) rfl rfl ?_
        refine m_goto (tgt := 2) C dX12_copyAll_27 (by decide) ?_
        exact ih2 τ11 x14 (iv_wk b15 (by decide)) hcp2 (by have q := hm2; omega)
  refine m_iconst (v := 0) C dX12_copyAll_0 (by decide) ?_
  refine m_istore_n (L1 := [some (.ref (G.1 22 0)), some (.int a1), some (.int a2), some (.int 0)]) C dX12_copyAll_1 rfl (by decide) rfl rfl ?_
  exact J2 ((50 - (0 : Int32).toInt).toNat + 1) σ 0 (iv_wk kc_0 (by decide)) CpI.rf (Nat.lt_succ_self _)
