/-! ===== the rows and the tape of both, held against each other ===== -/
def cutF (l v : Int32) : Int32 := if l.toInt = 0 then v.toInt8.toInt32 else if l.toInt = 1 then v.toInt16.toInt32 else v
/-- row j has this lane and length now, the others have theirs -/
def BG (σ τ : Sg) (j : Nat) (l n : Int32) : Prop := gV τ 20 j 1 = l ∧ gV τ 20 j 2 = n ∧ ∀ j', j' ≠ j → gV τ 20 j' 1 = gV σ 20 j' 1 ∧ gV τ 20 j' 2 = gV σ 20 j' 2
def SameR (σ τ : Sg) : Prop := ∀ j k, gV τ 20 j k = gV σ 20 j k
theorem BG.mk {σ τ1 τ2 : Sg} {j : Nat} {l n : Int32} (e1 : τ1 = sV σ 20 j 1 l) (e2 : τ2 = sV τ1 20 j 2 n) : BG σ τ2 j l n := by
  subst e1; subst e2
  refine ⟨?_, gV_self _ _ _ _ _, fun j' h => ⟨?_, ?_⟩⟩
  · rw [gV_ne (Or.inr (Or.inr (by decide))), gV_self]
  · rw [gV_ne (Or.inr (Or.inl h)), gV_ne (Or.inr (Or.inl h))]
  · rw [gV_ne (Or.inr (Or.inl h)), gV_ne (Or.inr (Or.inl h))]
theorem BG.then {σ τ υ : Sg} {j : Nat} {l n : Int32} (h : BG σ τ j l n) (e : ∀ j k, gV υ 20 j k = gV τ 20 j k) : BG σ υ j l n := ⟨(e _ _).trans h.1, (e _ _).trans h.2.1, fun j' hj => ⟨(e _ _).trans (h.2.2 j' hj).1, (e _ _).trans (h.2.2 j' hj).2⟩⟩
theorem BG.from {σ τ υ : Sg} {j : Nat} {l n : Int32} (h : BG τ υ j l n) (e : ∀ j k, gV τ 20 j k = gV σ 20 j k) : BG σ υ j l n := ⟨h.1, h.2.1, fun j' hj => ⟨(h.2.2 j' hj).1.trans (e _ _), (h.2.2 j' hj).2.trans (e _ _)⟩⟩
/-- the reference's lane and size of row r -/
def LU (σ τ : Sg) (r : Nat) (l n : Int32) : Prop := gV τ 26 0 r = l ∧ gV τ 27 0 r = n ∧ ∀ k, k ≠ r → gV τ 26 0 k = gV σ 26 0 k ∧ gV τ 27 0 k = gV σ 27 0 k
def LD (σ τ : Sg) (r : Nat) : Prop := gV τ 26 0 r = -1 ∧ (∀ k, k ≠ r → gV τ 26 0 k = gV σ 26 0 k) ∧ ∀ k, gV τ 27 0 k = gV σ 27 0 k
def SameL (σ τ : Sg) : Prop := ∀ k, gV τ 26 0 k = gV σ 26 0 k ∧ gV τ 27 0 k = gV σ 27 0 k
theorem LU.mk {σ τ τ1 τ2 : Sg} {r : Nat} {l n : Int32} (e0 : SameL σ τ) (e1 : τ1 = sV τ 26 0 r l) (e2 : τ2 = sV τ1 27 0 r n) : LU σ τ2 r l n := by
  subst e1; subst e2
  refine ⟨?_, gV_self _ _ _ _ _, fun k h => ⟨?_, ?_⟩⟩
  · rw [gV_ne (Or.inl (by decide)), gV_self]
  · rw [gV_ne (Or.inr (Or.inr h)), gV_ne (Or.inr (Or.inr h))]; exact (e0 k).1
  · rw [gV_ne (Or.inr (Or.inr h)), gV_ne (Or.inr (Or.inr h))]; exact (e0 k).2
theorem LD.mk {σ τ τ1 : Sg} {r : Nat} (e0 : SameL σ τ) (e1 : τ1 = sV τ 26 0 r (-1)) : LD σ τ1 r := by
  subst e1
  refine ⟨gV_self _ _ _ _ _, fun k h => ?_, fun k => ?_⟩
  · rw [gV_ne (Or.inr (Or.inr h))]; exact (e0 k).1
  · rw [gV_ne (Or.inl (by decide))]; exact (e0 k).2
theorem LU.then {σ τ υ : Sg} {r : Nat} {l n : Int32} (h : LU σ τ r l n) (e : SameL τ υ) : LU σ υ r l n := ⟨(e _).1.trans h.1, (e _).2.trans h.2.1, fun k hk => ⟨(e _).1.trans (h.2.2 k hk).1, (e _).2.trans (h.2.2 k hk).2⟩⟩
theorem LD.then {σ τ υ : Sg} {r : Nat} (h : LD σ τ r) (e : SameL τ υ) : LD σ υ r := ⟨(e _).1.trans h.1, fun k hk => (e _).1.trans (h.2.1 k hk), fun k => (e _).2.trans (h.2.2 k)⟩
theorem SameL.put {σ τ τ' : Sg} {t j k : Nat} {v : Int32} (h : SameL σ τ) (e : τ' = sV τ t j k v) (h1 : t ≠ 26) (h2 : t ≠ 27) : SameL σ τ' := fun q => ⟨(gV_putn e (Or.inl (Ne.symm h1))).trans (h q).1, (gV_putn e (Or.inl (Ne.symm h2))).trans (h q).2⟩
theorem SameL.rf {σ : Sg} : SameL σ σ := fun _ => ⟨rfl, rfl⟩
theorem SameL.fr {M : List (Nat × Nat)} {A : List Nat} {σ τ υ : Sg} (h : SameL σ τ) (f : Fr M A τ υ) (hm : ∀ k, (26, k) ∉ M ∧ (27, k) ∉ M) (ha : 26 ∉ A ∧ 27 ∉ A) : SameL σ υ := fun q => ⟨(f.1 26 0 q (hm q).1 ha.1).trans (h q).1, (f.1 27 0 q (hm q).2 ha.2).trans (h q).2⟩
theorem SameR.fr {M : List (Nat × Nat)} {A : List Nat} {σ τ υ : Sg} (h : SameR σ τ) (f : Fr M A τ υ) (hm : ∀ k, (20, k) ∉ M) (ha : 20 ∉ A) : SameR σ υ := fun j q => (f.1 20 j q (hm q) ha).trans (h j q)
theorem SameR.rf {σ : Sg} : SameR σ σ := fun _ _ => rfl
theorem SameR.put {σ τ τ' : Sg} {t j k : Nat} {v : Int32} (h : SameR σ τ) (e : τ' = sV τ t j k v) (h1 : t ≠ 20) : SameR σ τ' := fun q i => (gV_putn e (Or.inl (Ne.symm h1))).trans (h q i)
/-- the rows of both are alike, and the tapes as long -/
def Rel (σ : Sg) : Prop := (∀ r, r < 8 → gV σ 20 r 1 = gV σ 26 0 r ∧ -1 ≤ (gV σ 26 0 r).toInt ∧ (0 ≤ (gV σ 26 0 r).toInt → gV σ 20 r 2 = gV σ 27 0 r)) ∧ gV σ 12 0 1 = gV σ 22 0 6
/-- all that the relation speaks of is as it was -/
def SameA (σ τ : Sg) : Prop := SameR σ τ ∧ SameL σ τ ∧ gV τ 12 0 1 = gV σ 12 0 1 ∧ gV τ 22 0 6 = gV σ 22 0 6
theorem SameA.fr {M : List (Nat × Nat)} {A : List Nat} {σ τ : Sg} (f : Fr M A σ τ) (hm : (M.all fun q => q.1 != 20 && q.1 != 26 && q.1 != 27 && q != (12, 1) && q != (22, 6)) = true) (ha : (A.all fun q => q != 20 && q != 26 && q != 27 && q != 12 && q != 22) = true) : SameA σ τ := by
  have hm' : ∀ q ∈ M, q.1 ≠ 20 ∧ q.1 ≠ 26 ∧ q.1 ≠ 27 ∧ q ≠ (12, 1) ∧ q ≠ (22, 6) := fun q hq => by
    have := List.all_eq_true.mp hm q hq
    simpa [and_assoc] using this
  have ha' : ∀ q ∈ A, q ≠ 20 ∧ q ≠ 26 ∧ q ≠ 27 ∧ q ≠ 12 ∧ q ≠ 22 := fun q hq => by
    have := List.all_eq_true.mp ha q hq
    simpa [and_assoc] using this
  refine ⟨fun j k => f.1 20 j k (fun h => (hm' _ h).1 rfl) (fun h => (ha' _ h).1 rfl), fun k => ⟨f.1 26 0 k (fun h => (hm' _ h).2.1 rfl) (fun h => (ha' _ h).2.1 rfl), f.1 27 0 k (fun h => (hm' _ h).2.2.1 rfl) (fun h => (ha' _ h).2.2.1 rfl)⟩, f.1 12 0 1 (fun h => (hm' _ h).2.2.2.1 rfl) (fun h => (ha' _ h).2.2.2.1 rfl), f.1 22 0 6 (fun h => (hm' _ h).2.2.2.2 rfl) (fun h => (ha' _ h).2.2.2.2 rfl)⟩
theorem Rel.same {σ τ : Sg} (h : Rel σ) (e : SameA σ τ) : Rel τ := by
  refine ⟨fun r hr => ?_, ?_⟩
  · rw [e.1, e.1, (e.2.1 r).1, (e.2.1 r).2]
    exact h.1 r hr
  · rw [e.2.2.1, e.2.2.2]
    exact h.2
theorem Rel.call {M : List (Nat × Nat)} {A : List Nat} {σ τ : Sg} (h : Rel σ) (f : Fr M A σ τ) (hm : (M.all fun q => q.1 != 20 && q.1 != 26 && q.1 != 27 && q != (12, 1) && q != (22, 6)) = true) (ha : (A.all fun q => q != 20 && q != 26 && q != 27 && q != 12 && q != 22) = true) : Rel τ := h.same (SameA.fr f hm ha)
theorem Rel.begin {σ τ υ : Sg} {r : Nat} {l n : Int32} (h : Rel σ) (b : BG σ τ r l n) (u : LU τ υ r l n) (e1 : SameL σ τ) (e2 : SameR τ υ) (h1 : gV υ 12 0 1 = gV σ 12 0 1) (h2 : gV υ 22 0 6 = gV σ 22 0 6) (hl : -1 ≤ l.toInt) : Rel υ := by
  refine ⟨fun q hq => ?_, by rw [h1, h2]; exact h.2⟩
  rw [e2, e2]
  by_cases g : q = r
  · subst g
    rw [b.1, b.2.1, u.1, u.2.1]
    exact ⟨rfl, hl, fun _ => rfl⟩
  · rw [(b.2.2 q g).1, (b.2.2 q g).2, (u.2.2 q g).1, (u.2.2 q g).2, (e1 q).1, (e1 q).2]
    exact h.1 q hq
theorem Rel.drop {σ τ υ : Sg} {r : Nat} (h : Rel σ) (b : BG σ τ r (-1) 0) (u : LD τ υ r) (e1 : SameL σ τ) (e2 : SameR τ υ) (h1 : gV υ 12 0 1 = gV σ 12 0 1) (h2 : gV υ 22 0 6 = gV σ 22 0 6) : Rel υ := by
  refine ⟨fun q hq => ?_, by rw [h1, h2]; exact h.2⟩
  rw [e2, e2]
  by_cases g : q = r
  · subst g
    rw [b.1, u.1]
    exact ⟨rfl, by decide, fun c => absurd c (by decide)⟩
  · rw [(b.2.2 q g).1, (b.2.2 q g).2, u.2.1 q g, u.2.2 q, (e1 q).1, (e1 q).2]
    exact h.1 q hq
theorem Rel.tape {σ υ : Sg} (h : Rel σ) (e1 : SameR σ υ) (e2 : SameL σ υ) (e3 : (gV υ 12 0 1).toInt = (gV υ 22 0 6).toInt) : Rel υ := by
  refine ⟨fun r hr => ?_, Int32.toInt_inj.mp e3⟩
  rw [e1, e1, (e2 r).1, (e2 r).2]
  exact h.1 r hr
abbrev MS_X7_isMissingE : List (Nat × Nat) := []
abbrev AS_X7_isMissingE : List Nat := []
set_option maxHeartbeats 4000000 in
set_option maxRecDepth 100000 in
theorem c_X7_isMissingE (l : Launch) (G : Gt) (σ : Sg) {j : Nat} (hj : j < 8) (hI : Inv σ) : Mc l G yX7_isMissing cX7_isMissing 1 (some .boolean) 0 0 0 0 [.ref (G.1 20 j)] σ (PI fun r τ => Inv τ ∧ Fr MS_X7_isMissingE AS_X7_isMissingE σ τ ∧ IV r 0 1 ∧ ((r.toInt = 1 ∧ (gV σ 20 j 1).toInt = -1) ∨ (r.toInt = 0 ∧ (gV σ 20 j 1).toInt ≠ -1))) := by
  refine Mc.of (L0 := [some (.ref (G.1 20 j))]) (by decide) (Nat.le_of_ble_eq_true rfl) rfl ?_
  intro p e s m args below meth c C hr hlk
  have C : Cx p s m args c cX7_isMissing 1 "LeanTower$Row" := C
  have k0 : (0 : Int32).toInt = 0 := by decide
  have k1 : (1 : Int32).toInt = 1 := by decide
  refine m_aload_n C dX7_isMissing_0 rfl rfl ?_
  refine g_20_1 C hj q1_174 dX7_isMissing_1 ?_
  refine m_eqs (w := (gV σ 20 j 1)) rfl ?_
  refine m_iconst (v := (-1)) C dX7_isMissing_4 (by decide) ?_
  refine m_icmp_ne (tgt := 12) C dX7_isMissing_5 (by decide) (fun c1 => ?_) (fun c1 => ?_)
  · have f2 : (gV σ 20 j 1).toInt ≠ -1 := by
      have q : _ := c1
      simp only [ti_nle, ti_nlt, ti_le, ti_lt, ti_eq, ti_ne, Classical.not_not, kt_m1] at q
      omega
    refine m_iconst (v := 0) C dX7_isMissing_12 (by decide) ?_
    exact m_zret C hr rfl hlk (by decide) (by decide) dX7_isMissing_13 ⟨_, rfl, hI, Fr.rf, (iv_wk kc_0 (by decide)), (by omega)⟩
  · have f3 : (gV σ 20 j 1).toInt = -1 := by
      have q : _ := c1
      simp only [ti_nle, ti_nlt, ti_le, ti_lt, ti_eq, ti_ne, Classical.not_not, kt_m1] at q
      omega
    have b4 : IV (gV σ 20 j 1) (-1) (-1) := ⟨by have q1 := (iv_any (gV σ 20 j 1)); have q2 := kc_m1; omega, by have q1 := (iv_any (gV σ 20 j 1)); have q2 := kc_m1; omega⟩
    refine m_iconst (v := 1) C dX7_isMissing_8 (by decide) ?_
    refine m_goto (tgt := 13) C dX7_isMissing_9 (by decide) ?_
    exact m_zret C hr rfl hlk (by decide) (by decide) dX7_isMissing_13 ⟨_, rfl, hI, Fr.rf, (iv_wk kc_1 (by decide)), (by omega)⟩

abbrev MS_X7_reachesE : List (Nat × Nat) := []
abbrev AS_X7_reachesE : List Nat := []
set_option maxHeartbeats 4000000 in
set_option maxRecDepth 100000 in
theorem c_X7_reachesE (l : Launch) (G : Gt) (σ : Sg) {j : Nat} (hj : j < 8) (a1 : Int32) (a2 : Int32) (hI : Inv σ) : Mc l G yX7_reaches cX7_reaches 3 (some .boolean) 0 0 0 0 [.ref (G.1 20 j), .int a1, .int a2] σ (PI fun r τ => Inv τ ∧ Fr MS_X7_reachesE AS_X7_reachesE σ τ ∧ IV r 0 1 ∧ ((r.toInt = 1 ∧ 0 ≤ a1.toInt ∧ 0 ≤ a2.toInt ∧ a1.toInt + a2.toInt ≤ (gV σ 20 j 2).toInt) ∨ (r.toInt = 0 ∧ (a1.toInt < 0 ∨ a2.toInt < 0 ∨ (gV σ 20 j 2).toInt < a1.toInt + a2.toInt)))) := by
  refine Mc.of (L0 := [some (.ref (G.1 20 j)), some (.int a1), some (.int a2)]) (by decide) (Nat.le_of_ble_eq_true rfl) rfl ?_
  intro p e s m args below meth c C hr hlk
  have C : Cx p s m args c cX7_reaches 3 "LeanTower$Row" := C
  have k0 : (0 : Int32).toInt = 0 := by decide
  have k1 : (1 : Int32).toInt = 1 := by decide
  have u1 : IV (gV σ 20 j 2) 0 40 := hI.1 20 j 2
  refine m_iload_n C dX7_reaches_0 rfl rfl ?_
  refine m_if_lt (tgt := 30) C dX7_reaches_1 (by decide) (fun c2 => ?_) (fun c2 => ?_)
  · have f3 : a1.toInt < 0 := by
      have q : _ := c2
      simp only [ti_nle, ti_nlt, ti_le, ti_lt, ti_eq, ti_ne, Classical.not_not, kt_0] at q
      omega
    have b4 : IV a1 (-2147483648) (-1) := ⟨by have q1 := (iv_any a1); have q2 := kc_0; omega, by have q1 := (iv_any a1); have q2 := kc_0; omega⟩
    refine m_iconst (v := 0) C dX7_reaches_30 (by decide) ?_
    exact m_zret C hr rfl hlk (by decide) (by decide) dX7_reaches_31 ⟨_, rfl, hI, Fr.rf, (iv_wk kc_0 (by decide)), (by omega)⟩
  · have f5 : 0 ≤ a1.toInt := by
      have q : _ := c2
      simp only [ti_nle, ti_nlt, ti_le, ti_lt, ti_eq, ti_ne, Classical.not_not, kt_0] at q
      omega
    have b6 : IV a1 0 2147483647 := ⟨by have q1 := kc_0; have q2 := (iv_any a1); omega, by have q1 := kc_0; have q2 := (iv_any a1); omega⟩
    refine m_iload_n C dX7_reaches_4 rfl rfl ?_
    refine m_if_lt (tgt := 30) C dX7_reaches_5 (by decide) (fun c7 => ?_) (fun c7 => ?_)
    · have f8 : a2.toInt < 0 := by
        have q : _ := c7
        simp only [ti_nle, ti_nlt, ti_le, ti_lt, ti_eq, ti_ne, Classical.not_not, kt_0] at q
        omega
      have b9 : IV a2 (-2147483648) (-1) := ⟨by have q1 := (iv_any a2); have q2 := kc_0; omega, by have q1 := (iv_any a2); have q2 := kc_0; omega⟩
      refine m_iconst (v := 0) C dX7_reaches_30 (by decide) ?_
      exact m_zret C hr rfl hlk (by decide) (by decide) dX7_reaches_31 ⟨_, rfl, hI, Fr.rf, (iv_wk kc_0 (by decide)), (by omega)⟩
    · have f10 : 0 ≤ a2.toInt := by
        have q : _ := c7
        simp only [ti_nle, ti_nlt, ti_le, ti_lt, ti_eq, ti_ne, Classical.not_not, kt_0] at q
        omega
      have b11 : IV a2 0 2147483647 := ⟨by have q1 := kc_0; have q2 := (iv_any a2); omega, by have q1 := kc_0; have q2 := (iv_any a2); omega⟩
      refine m_iload_n C dX7_reaches_8 rfl rfl ?_
      refine m_aload_n C dX7_reaches_9 rfl rfl ?_
      refine g_20_2 C hj q1_176 dX7_reaches_10 ?_
      refine m_eqs (w := (gV σ 20 j 2)) rfl ?_
      refine m_icmp_gt (tgt := 30) C dX7_reaches_13 (by decide) (fun c12 => ?_) (fun c12 => ?_)
      · have f13 : (gV σ 20 j 2).toInt < a1.toInt := by
          have q : _ := c12
          simp only [ti_nle, ti_nlt, ti_le, ti_lt, ti_eq, ti_ne, Classical.not_not] at q
          omega
        have b14 : IV a1 1 2147483647 := ⟨by have q1 := u1; have q2 := b6; omega, by have q1 := u1; have q2 := b6; omega⟩
        refine m_iconst (v := 0) C dX7_reaches_30 (by decide) ?_
        exact m_zret C hr rfl hlk (by decide) (by decide) dX7_reaches_31 ⟨_, rfl, hI, Fr.rf, (iv_wk kc_0 (by decide)), (by omega)⟩
      · have f15 : a1.toInt ≤ (gV σ 20 j 2).toInt := by
          have q : _ := c12
          simp only [ti_nle, ti_nlt, ti_le, ti_lt, ti_eq, ti_ne, Classical.not_not] at q
          omega
        have b16 : IV a1 0 40 := ⟨by have q1 := b6; have q2 := u1; omega, by have q1 := b6; have q2 := u1; omega⟩
        refine m_iload_n C dX7_reaches_16 rfl rfl ?_
        refine m_aload_n C dX7_reaches_17 rfl rfl ?_
        refine g_20_2 C hj q1_176 dX7_reaches_18 ?_
        refine m_eqs (w := (gV σ 20 j 2)) rfl ?_
        refine m_iload_n C dX7_reaches_21 rfl rfl ?_
        refine m_isub C dX7_reaches_22 ?_
        refine m_topi (fun x17 ex17 => ?_)
        have tx17 : x17.toInt = (gV σ 20 j 2).toInt - a1.toInt := by rw [ex17, ti_subv u1 b16 (by decide)]
        have b18 : IV x17 (-40) 40 := by rw [ex17]; exact iv_sub u1 b16 (by decide)
        refine m_icmp_gt (tgt := 30) C dX7_reaches_23 (by decide) (fun c19 => ?_) (fun c19 => ?_)
        · have f20 : x17.toInt < a2.toInt := by
            have q : _ := c19
            simp only [ti_nle, ti_nlt, ti_le, ti_lt, ti_eq, ti_ne, Classical.not_not] at q
            omega
          refine m_iconst (v := 0) C dX7_reaches_30 (by decide) ?_
          exact m_zret C hr rfl hlk (by decide) (by decide) dX7_reaches_31 ⟨_, rfl, hI, Fr.rf, (iv_wk kc_0 (by decide)), (by omega)⟩
        · have f21 : a2.toInt ≤ x17.toInt := by
            have q : _ := c19
            simp only [ti_nle, ti_nlt, ti_le, ti_lt, ti_eq, ti_ne, Classical.not_not] at q
            omega
          have b22 : IV a2 0 40 := ⟨by have q1 := b11; have q2 := b18; omega, by have q1 := b11; have q2 := b18; omega⟩
          have b23 : IV x17 0 40 := ⟨by have q1 := b11; have q2 := b18; omega, by have q1 := b11; have q2 := b18; omega⟩
          refine m_iconst (v := 1) C dX7_reaches_26 (by decide) ?_
          refine m_goto (tgt := 31) C dX7_reaches_27 (by decide) ?_
          exact m_zret C hr rfl hlk (by decide) (by decide) dX7_reaches_31 ⟨_, rfl, hI, Fr.rf, (iv_wk kc_1 (by decide)), (by omega)⟩

abbrev MS_X7_narrowedE : List (Nat × Nat) := []
abbrev AS_X7_narrowedE : List Nat := []
set_option maxHeartbeats 4000000 in
set_option maxRecDepth 100000 in
theorem c_X7_narrowedE (l : Launch) (G : Gt) (σ : Sg) {j : Nat} (hj : j < 8) (a1 : Int32) (hI : Inv σ) : Mc l G yX7_narrowed cX7_narrowed 2 (some .int) 0 0 0 0 [.ref (G.1 20 j), .int a1] σ (PI fun r τ => Inv τ ∧ Fr MS_X7_narrowedE AS_X7_narrowedE σ τ ∧ IV r (-2147483648) 2147483647 ∧ r = cutF (gV σ 20 j 1) a1) := by
  refine Mc.of (L0 := [some (.ref (G.1 20 j)), some (.int a1)]) (by decide) (Nat.le_of_ble_eq_true rfl) rfl ?_
  intro p e s m args below meth c C hr hlk
  have C : Cx p s m args c cX7_narrowed 2 "LeanTower$Row" := C
  have k0 : (0 : Int32).toInt = 0 := by decide
  have k1 : (1 : Int32).toInt = 1 := by decide
  refine m_aload_n C dX7_narrowed_0 rfl rfl ?_
  refine g_20_1 C hj q1_174 dX7_narrowed_1 ?_
  refine m_eqs (w := (gV σ 20 j 1)) rfl ?_
  by_cases s1 : (gV σ 20 j 1).toInt = 0
  · refine m_lookup (tgt := 32) (off := 28) C dX7_narrowed_4 rfl (by rw [s1]; rfl) (by decide) ?_
    refine m_iload_n C dX7_narrowed_32 rfl rfl ?_
    refine m_i2b C dX7_narrowed_33 ?_
    refine m_topi (fun x2 ex2 => ?_)
    exact m_iret C hr hlk (by decide) (by decide) dX7_narrowed_34 ⟨_, rfl, hI, Fr.rf, (iv_any x2), (by unfold cutF; first | (rw [if_pos (by omega)]; exact ex2) | (rw [if_neg (by omega), if_pos (by omega)]; exact ex2))⟩
  by_cases s3 : (gV σ 20 j 1).toInt = 1
  · refine m_lookup (tgt := 35) (off := 31) C dX7_narrowed_4 rfl (by rw [s3]; rfl) (by decide) ?_
    refine m_iload_n C dX7_narrowed_35 rfl rfl ?_
    refine m_i2s C dX7_narrowed_36 ?_
    refine m_topi (fun x4 ex4 => ?_)
    exact m_iret C hr hlk (by decide) (by decide) dX7_narrowed_37 ⟨_, rfl, hI, Fr.rf, (iv_any x4), (by unfold cutF; first | (rw [if_pos (by omega)]; exact ex4) | (rw [if_neg (by omega), if_pos (by omega)]; exact ex4))⟩
  refine m_lookup (tgt := 38) (off := 34) C dX7_narrowed_4 rfl (by simp [Op.lookupswitch.offset, Ne.symm s1, Ne.symm s3]) (by decide) ?_
  refine m_iload_n C dX7_narrowed_38 rfl rfl ?_
  exact m_iret C hr hlk (by decide) (by decide) dX7_narrowed_39 ⟨_, rfl, hI, Fr.rf, (iv_any a1), (by unfold cutF; rw [if_neg (by omega), if_neg (by omega)])⟩

abbrev MS_X12_cutE : List (Nat × Nat) := []
abbrev AS_X12_cutE : List Nat := []
set_option maxHeartbeats 4000000 in
set_option maxRecDepth 100000 in
theorem c_X12_cutE (l : Launch) (G : Gt) (σ : Sg) (a1 : Int32) (a2 : Int32) (hI : Inv σ) : Mc l G yX12_cut cX12_cut 2 (some .int) 0 0 0 0 [.int a1, .int a2] σ (PI fun r τ => Inv τ ∧ Fr MS_X12_cutE AS_X12_cutE σ τ ∧ IV r (-2147483648) 2147483647 ∧ r = cutF a1 a2) := by
  refine Mc.of (L0 := [some (.int a1), some (.int a2)]) (by decide) (Nat.le_of_ble_eq_true rfl) rfl ?_
  intro p e s m args below meth c C hr hlk
  have C : Cx p s m args c cX12_cut 2 "LeanTowerModel" := C
  have k0 : (0 : Int32).toInt = 0 := by decide
  have k1 : (1 : Int32).toInt = 1 := by decide
  refine m_iload_n C dX12_cut_0 rfl rfl ?_
  refine m_if_ne (tgt := 9) C dX12_cut_1 (by decide) (fun c1 => ?_) (fun c1 => ?_)
  · have f2 : a1.toInt ≠ 0 := by
      have q : _ := c1
      simp only [ti_nle, ti_nlt, ti_le, ti_lt, ti_eq, ti_ne, Classical.not_not, kt_0] at q
      omega
    refine m_iload_n C dX12_cut_9 rfl rfl ?_
    refine m_iconst (v := 1) C dX12_cut_10 (by decide) ?_
    refine m_icmp_ne (tgt := 19) C dX12_cut_11 (by decide) (fun c3 => ?_) (fun c3 => ?_)
    · have f4 : a1.toInt ≠ 1 := by
        have q : _ := c3
        simp only [ti_nle, ti_nlt, ti_le, ti_lt, ti_eq, ti_ne, Classical.not_not, kt_1] at q
        omega
      refine m_iload_n C dX12_cut_19 rfl rfl ?_
      exact m_iret C hr hlk (by decide) (by decide) dX12_cut_20 ⟨_, rfl, hI, Fr.rf, (iv_any a2), (by unfold cutF; rw [if_neg (by omega), if_neg (by omega)])⟩
    · have f5 : a1.toInt = 1 := by
        have q : _ := c3
        simp only [ti_nle, ti_nlt, ti_le, ti_lt, ti_eq, ti_ne, Classical.not_not, kt_1] at q
        omega
      have b6 : IV a1 1 1 := ⟨by have q1 := (iv_any a1); have q2 := kc_1; omega, by have q1 := (iv_any a1); have q2 := kc_1; omega⟩
      refine m_iload_n C dX12_cut_14 rfl rfl ?_
      refine m_i2s C dX12_cut_15 ?_
      refine m_topi (fun x7 ex7 => ?_)
      refine m_goto (tgt := 20) C dX12_cut_16 (by decide) ?_
      exact m_iret C hr hlk (by decide) (by decide) dX12_cut_20 ⟨_, rfl, hI, Fr.rf, (iv_any x7), (by unfold cutF; first | (rw [if_pos (by omega)]; exact ex7) | (rw [if_neg (by omega), if_pos (by omega)]; exact ex7))⟩
  · have f8 : a1.toInt = 0 := by
      have q : _ := c1
      simp only [ti_nle, ti_nlt, ti_le, ti_lt, ti_eq, ti_ne, Classical.not_not, kt_0] at q
      omega
    have b9 : IV a1 0 0 := ⟨by have q1 := (iv_any a1); have q2 := kc_0; omega, by have q1 := (iv_any a1); have q2 := kc_0; omega⟩
    refine m_iload_n C dX12_cut_4 rfl rfl ?_
    refine m_i2b C dX12_cut_5 ?_
    refine m_topi (fun x10 ex10 => ?_)
    refine m_goto (tgt := 20) C dX12_cut_6 (by decide) ?_
    exact m_iret C hr hlk (by decide) (by decide) dX12_cut_20 ⟨_, rfl, hI, Fr.rf, (iv_any x10), (by unfold cutF; first | (rw [if_pos (by omega)]; exact ex10) | (rw [if_neg (by omega), if_pos (by omega)]; exact ex10))⟩

abbrev MS_X7_beginE : List (Nat × Nat) := [(20, 1), (20, 2)]
abbrev AS_X7_beginE : List Nat := [21]
set_option maxHeartbeats 4000000 in
set_option maxRecDepth 100000 in
theorem c_X7_beginE (l : Launch) (G : Gt) (σ : Sg) {j : Nat} (hj : j < 8) (a1 : Int32) (a2 : Int32) (hI : Inv σ) (ha2 : IV a2 0 40) : Mc l G yX7_begin cX7_begin 4 none 0 0 0 0 [.ref (G.1 20 j), .int a1, .int a2] σ (PV fun τ => Inv τ ∧ Fr MS_X7_beginE AS_X7_beginE σ τ ∧ BG σ τ j a1 a2) := by
  refine Mc.of (L0 := [some (.ref (G.1 20 j)), some (.int a1), some (.int a2), none]) (by decide) (Nat.le_of_ble_eq_true rfl) rfl ?_
  intro p e s m args below meth c C hr hlk
  have C : Cx p s m args c cX7_begin 4 "LeanTower$Row" := C
  have k0 : (0 : Int32).toInt = 0 := by decide
  have k1 : (1 : Int32).toInt = 1 := by decide
  have J12 : ∀ (n : Nat) (τ : Sg) (y3 : Int32), Inv τ → Fr MS_X7_beginE AS_X7_beginE σ τ → IV a1 (-2147483648) 2147483647 → IV a2 0 40 → IV y3 0 40 → (BG σ τ j a1 a2) → (40 - y3.toInt).toNat < n → MW p l e { frames := 0, cells := 0, slots := 0, locals := 0 } s m args below meth c (MQ below (QP G (PV fun τ => Inv τ ∧ Fr MS_X7_beginE AS_X7_beginE σ τ ∧ BG σ τ j a1 a2)) args s 0 0 (aG G)) 4 G 0 0 12 [some (.ref (G.1 20 j)), none, none, some (.int y3)] [] τ := by
    intro n
    induction n with
    | zero => intro τ y3 iτ fτ b_a1 b_a2 b_y3 nB hm; exact absurd hm (Nat.not_lt_zero _)
    | succ n ih12 =>
      intro τ y3 iτ fτ b_a1 b_a2 b_y3 nB hm12
      refine m_iload_n C dX7_begin_12 rfl rfl ?_
      refine m_bipush (v := 40) C dX7_begin_13 (by decide) ?_
      refine m_icmp_ge (tgt := 31) C dX7_begin_15 (by decide) (fun c1 => ?_) (fun c1 => ?_)
      · have f2 : 40 ≤ y3.toInt := by
          have q : _ := c1
          simp only [ti_nle, ti_nlt, ti_le, ti_lt, ti_eq, ti_ne, Classical.not_not, kt_40] at q
          omega
        have b3 : IV y3 40 40 := ⟨by have q1 := kc_40; have q2 := b_y3; omega, by have q1 := kc_40; have q2 := b_y3; omega⟩
        exact m_vret C hr hlk (by decide) (by decide) dX7_begin_31 ⟨rfl, iτ, fτ, nB⟩
      · have f4 : y3.toInt < 40 := by
          have q : _ := c1
          simp only [ti_nle, ti_nlt, ti_le, ti_lt, ti_eq, ti_ne, Classical.not_not, kt_40] at q
          omega
        have b5 : IV y3 0 39 := ⟨by have q1 := b_y3; have q2 := kc_40; omega, by have q1 := b_y3; have q2 := kc_40; omega⟩
        refine m_aload_n C dX7_begin_18 rfl rfl ?_
        refine g_20_0 C hj q1_172 dX7_begin_19 ?_
        refine m_iload_n C dX7_begin_22 rfl rfl ?_
        refine m_iconst (v := 0) C dX7_begin_23 (by decide) ?_
        refine as_21 C hj b5 (by decide) rfl dX7_begin_24 ?_
        refine m_tops (fun τ6 eτ6 => ?_)
        have i7 : Inv τ6 := eτ6 ▸ Inv.putF iτ (by decide) rfl
        have f8 : Fr MS_X7_beginE AS_X7_beginE σ τ6 := eτ6 ▸ Fr.put (fτ) (Or.inr (by decide))
        obtain ⟨x9, ex9⟩ : ∃ y : Int32, y = y3 + 1 := ⟨_, rfl⟩
        have tx9 : x9.toInt = y3.toInt + 1 := by rw [ex9, ti_addv b5 kc_1 (by decide), kt_1]
        have b10 : IV x9 1 40 := by rw [ex9]; exact iv_add b5 kc_1 (by decide)
        refine m_iinc (v := x9) (L1 := [some (.ref (G.1 20 j)), none, none, some (.int x9)]) C dX7_begin_25 rfl (by rw [ex9]; rfl) (by decide) rfl rfl ?_
        refine m_goto (tgt := 12) C dX7_begin_28 (by decide) ?_
        exact ih12 τ6 x9 i7 f8 b_a1 b_a2 (iv_wk b10 (by decide)) (nB.then (fun _ _ => gV_putn eτ6 (Or.inl (by decide)))) (by have q := hm12; omega)
  refine m_aload_n C dX7_begin_0 rfl rfl ?_
  refine m_iload_n C dX7_begin_1 rfl rfl ?_
  refine p_20_1 C hj q1_174 dX7_begin_2 ?_
  refine m_tops (fun τ11 eτ11 => ?_)
  have i12 : Inv τ11 := eτ11 ▸ Inv.putF hI (by decide) rfl
  have f13 : Fr MS_X7_beginE AS_X7_beginE σ τ11 := eτ11 ▸ Fr.put (Fr.rf) (Or.inl (by decide))
  refine m_aload_n C dX7_begin_5 rfl rfl ?_
  refine m_iload_n C dX7_begin_6 rfl rfl ?_
  refine p_20_2 C hj q1_176 dX7_begin_7 ?_
  refine m_tops (fun τ14 eτ14 => ?_)
  have i15 : Inv τ14 := eτ14 ▸ Inv.put i12 (by decide) ha2
  have f16 : Fr MS_X7_beginE AS_X7_beginE σ τ14 := eτ14 ▸ Fr.put (f13) (Or.inl (by decide))
  refine m_iconst (v := 0) C dX7_begin_10 (by decide) ?_
  refine m_istore_n (L1 := [some (.ref (G.1 20 j)), some (.int a1), some (.int a2), some (.int 0)]) C dX7_begin_11 rfl (by decide) rfl rfl ?_
  refine m_sub (L1 := [some (.ref (G.1 20 j)), none, none, some (.int 0)]) ⟨rfl, ⟨rfl, trivial⟩⟩ ?_
  exact J12 ((40 - (0 : Int32).toInt).toNat + 1) τ14 0 i15 f16 (iv_any a1) ha2 (iv_wk kc_0 (by decide)) (BG.mk eτ11 eτ14) (Nat.lt_succ_self _)

abbrev MS_X7_endE : List (Nat × Nat) := [(20, 1), (20, 2)]
abbrev AS_X7_endE : List Nat := []
set_option maxHeartbeats 4000000 in
set_option maxRecDepth 100000 in
theorem c_X7_endE (l : Launch) (G : Gt) (σ : Sg) {j : Nat} (hj : j < 8) (hI : Inv σ) : Mc l G yX7_end cX7_end 1 none 0 0 0 0 [.ref (G.1 20 j)] σ (PV fun τ => Inv τ ∧ Fr MS_X7_endE AS_X7_endE σ τ ∧ BG σ τ j (-1) 0) := by
  refine Mc.of (L0 := [some (.ref (G.1 20 j))]) (by decide) (Nat.le_of_ble_eq_true rfl) rfl ?_
  intro p e s m args below meth c C hr hlk
  have C : Cx p s m args c cX7_end 1 "LeanTower$Row" := C
  have k0 : (0 : Int32).toInt = 0 := by decide
  have k1 : (1 : Int32).toInt = 1 := by decide
  refine m_aload_n C dX7_end_0 rfl rfl ?_
  refine m_iconst (v := (-1)) C dX7_end_1 (by decide) ?_
  refine p_20_1 C hj q1_174 dX7_end_2 ?_
  refine m_tops (fun τ1 eτ1 => ?_)
  have i2 : Inv τ1 := eτ1 ▸ Inv.putF hI (by decide) rfl
  have f3 : Fr MS_X7_endE AS_X7_endE σ τ1 := eτ1 ▸ Fr.put (Fr.rf) (Or.inl (by decide))
  refine m_aload_n C dX7_end_5 rfl rfl ?_
  refine m_iconst (v := 0) C dX7_end_6 (by decide) ?_
  refine p_20_2 C hj q1_176 dX7_end_7 ?_
  refine m_tops (fun τ4 eτ4 => ?_)
  have i5 : Inv τ4 := eτ4 ▸ Inv.put i2 (by decide) (iv_wk kc_0 (by decide))
  have f6 : Fr MS_X7_endE AS_X7_endE σ τ4 := eτ4 ▸ Fr.put (f3) (Or.inl (by decide))
  exact m_vret C hr hlk (by decide) (by decide) dX7_end_10 ⟨rfl, i5, f6, (BG.mk eτ1 eτ4)⟩

abbrev MS_X11_rowE : List (Nat × Nat) := [(0, 12), (20, 1), (20, 2)]
abbrev AS_X11_rowE : List Nat := [21]
set_option maxHeartbeats 4000000 in
set_option maxRecDepth 100000 in
theorem c_X11_rowE (l : Launch) (G : Gt) (σ : Sg) (a1 : Int32) (a2 : Int32) (a3 : Int32) (hI : Inv σ) : Mc l G yX11_row cX11_row 5 (some .int) 1 23 0 0 [.ref (G.1 0 0), .int a1, .int a2, .int a3] σ (PI fun r τ => Inv τ ∧ Fr MS_X11_rowE AS_X11_rowE σ τ ∧ IV r (-2147483648) 2147483647 ∧ (((a1.toInt < 0 ∨ 7 < a1.toInt ∨ a2.toInt < 0 ∨ 2 < a2.toInt ∨ 40 < a3.toInt) ∧ r.toInt = -1000001 ∧ SameR σ τ) ∨ ((0 ≤ a1.toInt ∧ a1.toInt ≤ 7 ∧ 0 ≤ a2.toInt ∧ a2.toInt ≤ 2 ∧ a3.toInt < 0) ∧ r.toInt = -1000014 ∧ SameR σ τ) ∨ ((0 ≤ a1.toInt ∧ a1.toInt ≤ 7 ∧ 0 ≤ a2.toInt ∧ a2.toInt ≤ 2 ∧ 0 ≤ a3.toInt ∧ a3.toInt ≤ 40) ∧ r.toInt = a3.toInt ∧ BG σ τ (a1.toInt.toNat) a2 a3))) := by
  refine Mc.of (L0 := [some (.ref (G.1 0 0)), some (.int a1), some (.int a2), some (.int a3), none]) (by decide) (Nat.le_of_ble_eq_true rfl) rfl ?_
  intro p e s m args below meth c C hr hlk
  have C : Cx p s m args c cX11_row 5 "LeanTower" := C
  have k0 : (0 : Int32).toInt = 0 := by decide
  have k1 : (1 : Int32).toInt = 1 := by decide
  refine m_aload_n C dX11_row_0 rfl rfl ?_
  refine m_iload_n C dX11_row_1 rfl rfl ?_
  refine m_callV (n := 1) (ci := 10) (st := []) C (c_X11_rowAt l G σ (a1) hI ) (by decide) (by decide) rfl rfl rfl q1_233 q1_230 q1_232 q0_0 q1_1 (by decide +kernel) rfl (by decide) (by decide) rfl (Nat.le_of_ble_eq_true rfl) dX11_row_2 ?_
  rintro _ τ1 ⟨x4, rfl, i2, f3, h7⟩
  have g6 : Fr MS_X11_rowE AS_X11_rowE σ τ1 := Fr.call (Fr.rf) f3 (by decide)
  rcases h7 with ⟨rfl, x4q⟩ | ⟨rfl, x4q⟩
  · skip
    show MW p l e _ s m args below meth c _ 5 G 0 0 5 [some (.ref (G.1 0 0)), some (.int a1), some (.int a2), some (.int a3), none] [.null] τ1
    refine m_astoreN (L1 := [some (.ref (G.1 0 0)), some (.int a1), some (.int a2), some (.int a3), some (.null)]) C dX11_row_5 (by decide) rfl rfl ?_
    refine m_aloadN C dX11_row_7 rfl ?_
    refine m_ifnullN (tgt := 27) C dX11_row_9 (by decide) ?_
    refine m_ldc (v := (-1000001)) C dX11_row_27 q1_234 ?_
    exact m_iret C hr hlk (by decide) (by decide) dX11_row_29 ⟨_, rfl, i2, g6, (iv_wk kc_m1000001 (by decide)), (Or.inl ⟨by omega, (by have q := kt_m1000001; omega), (SameR.rf.fr f3 (by simp) (by decide))⟩)⟩
  · have b8 : IV a1 0 7 := ⟨by have q1 := (iv_any a1); omega, by have q1 := (iv_any a1); omega⟩
    show MW p l e _ s m args below meth c _ 5 G 0 0 5 [some (.ref (G.1 0 0)), some (.int a1), some (.int a2), some (.int a3), none] [.ref (G.1 20 (a1.toInt.toNat))] τ1
    refine m_astore (L1 := [some (.ref (G.1 0 0)), some (.int a1), some (.int a2), some (.int a3), some (.ref (G.1 20 (a1.toInt.toNat)))]) C dX11_row_5 (by decide) rfl rfl ?_
    refine m_aload C dX11_row_7 rfl ?_
    refine m_ifnull C dX11_row_9 ?_
    refine m_iload_n C dX11_row_12 rfl rfl ?_
    refine m_if_lt (tgt := 27) C dX11_row_13 (by decide) (fun c9 => ?_) (fun c9 => ?_)
    · have f10 : a2.toInt < 0 := by
        have q : _ := c9
        simp only [ti_nle, ti_nlt, ti_le, ti_lt, ti_eq, ti_ne, Classical.not_not, kt_0] at q
        omega
      have b11 : IV a2 (-2147483648) (-1) := ⟨by have q1 := (iv_any a2); have q2 := kc_0; omega, by have q1 := (iv_any a2); have q2 := kc_0; omega⟩
      refine m_ldc (v := (-1000001)) C dX11_row_27 q1_234 ?_
      exact m_iret C hr hlk (by decide) (by decide) dX11_row_29 ⟨_, rfl, i2, g6, (iv_wk kc_m1000001 (by decide)), (Or.inl ⟨by omega, (by have q := kt_m1000001; omega), (SameR.rf.fr f3 (by simp) (by decide))⟩)⟩
    · have f12 : 0 ≤ a2.toInt := by
        have q : _ := c9
        simp only [ti_nle, ti_nlt, ti_le, ti_lt, ti_eq, ti_ne, Classical.not_not, kt_0] at q
        omega
      have b13 : IV a2 0 2147483647 := ⟨by have q1 := kc_0; have q2 := (iv_any a2); omega, by have q1 := kc_0; have q2 := (iv_any a2); omega⟩
      refine m_iload_n C dX11_row_16 rfl rfl ?_
      refine m_iconst (v := 2) C dX11_row_17 (by decide) ?_
      refine m_icmp_gt (tgt := 27) C dX11_row_18 (by decide) (fun c14 => ?_) (fun c14 => ?_)
      · have f15 : 2 < a2.toInt := by
          have q : _ := c14
          simp only [ti_nle, ti_nlt, ti_le, ti_lt, ti_eq, ti_ne, Classical.not_not, kt_2] at q
          omega
        have b16 : IV a2 3 2147483647 := ⟨by have q1 := kc_2; have q2 := b13; omega, by have q1 := kc_2; have q2 := b13; omega⟩
        refine m_ldc (v := (-1000001)) C dX11_row_27 q1_234 ?_
        exact m_iret C hr hlk (by decide) (by decide) dX11_row_29 ⟨_, rfl, i2, g6, (iv_wk kc_m1000001 (by decide)), (Or.inl ⟨by omega, (by have q := kt_m1000001; omega), (SameR.rf.fr f3 (by simp) (by decide))⟩)⟩
      · have f17 : a2.toInt ≤ 2 := by
          have q : _ := c14
          simp only [ti_nle, ti_nlt, ti_le, ti_lt, ti_eq, ti_ne, Classical.not_not, kt_2] at q
          omega
        have b18 : IV a2 0 2 := ⟨by have q1 := b13; have q2 := kc_2; omega, by have q1 := b13; have q2 := kc_2; omega⟩
        refine m_iload_n C dX11_row_21 rfl rfl ?_
        refine m_bipush (v := 40) C dX11_row_22 (by decide) ?_
        refine m_icmp_le (tgt := 30) C dX11_row_24 (by decide) (fun c19 => ?_) (fun c19 => ?_)
        · have f20 : a3.toInt ≤ 40 := by
            have q : _ := c19
            simp only [ti_nle, ti_nlt, ti_le, ti_lt, ti_eq, ti_ne, Classical.not_not, kt_40] at q
            omega
          have b21 : IV a3 (-2147483648) 40 := ⟨by have q1 := (iv_any a3); have q2 := kc_40; omega, by have q1 := (iv_any a3); have q2 := kc_40; omega⟩
          refine m_iload_n C dX11_row_30 rfl rfl ?_
          refine m_if_ge (tgt := 40) C dX11_row_31 (by decide) (fun c22 => ?_) (fun c22 => ?_)
          · have f23 : 0 ≤ a3.toInt := by
              have q : _ := c22
              simp only [ti_nle, ti_nlt, ti_le, ti_lt, ti_eq, ti_ne, Classical.not_not, kt_0] at q
              omega
            have b24 : IV a3 0 40 := ⟨by have q1 := kc_0; have q2 := b21; omega, by have q1 := kc_0; have q2 := b21; omega⟩
            refine m_aload C dX11_row_40 rfl ?_
            refine m_iload_n C dX11_row_42 rfl rfl ?_
            refine m_iload_n C dX11_row_43 rfl rfl ?_
            refine m_callV (n := 2) (ci := 6) (st := []) C (c_X7_beginE l G τ1 (j := (a1.toInt.toNat)) (iv_nat b8 (by decide)) (a2) (a3) i2 b24) (by decide) (iv_nat b8 (by decide)) rfl rfl rfl q2_3 q2_0 q2_1 q2_2 q1_6 (by decide +kernel) rfl (by decide) (by decide) rfl (Nat.le_of_ble_eq_true rfl) dX11_row_44 ?_
            rintro _ τ25 ⟨rfl, i26, f27, h31⟩
            have g30 : Fr MS_X11_rowE AS_X11_rowE σ τ25 := Fr.call (g6) f27 (by decide)
            show MW p l e _ s m args below meth c _ 5 G 0 0 47 [some (.ref (G.1 0 0)), some (.int a1), some (.int a2), some (.int a3), some (.ref (G.1 20 (a1.toInt.toNat)))] [] τ25
            refine m_aload_n C dX11_row_47 rfl rfl ?_
            refine m_iload_n C dX11_row_48 rfl rfl ?_
            refine m_callV (n := 1) (ci := 10) (st := []) C (c_X11_clean l G τ25 (a3) i26 ) (by decide) (by decide) rfl rfl rfl q2_7 q2_4 q2_6 q0_2 q1_1 (by decide +kernel) rfl (by decide) (by decide) rfl (Nat.le_of_ble_eq_true rfl) dX11_row_49 ?_
            rintro _ τ32 ⟨x35, rfl, i33, f34, b36, h38⟩
            have g37 : Fr MS_X11_rowE AS_X11_rowE σ τ32 := Fr.call (g30) f34 (by decide)
            show MW p l e _ s m args below meth c _ 5 G 0 0 52 [some (.ref (G.1 0 0)), some (.int a1), some (.int a2), some (.int a3), some (.ref (G.1 20 (a1.toInt.toNat)))] [.int x35] τ32
            exact m_iret C hr hlk (by decide) (by decide) dX11_row_52 ⟨_, rfl, i33, g37, b36, (Or.inr (Or.inr ⟨by omega, by omega, (BG.from h31 (SameR.rf.fr f3 (by simp) (by decide))).then (SameR.rf.fr f34 (by simp) (by decide))⟩))⟩
          · have f39 : a3.toInt < 0 := by
              have q : _ := c22
              simp only [ti_nle, ti_nlt, ti_le, ti_lt, ti_eq, ti_ne, Classical.not_not, kt_0] at q
              omega
            have b40 : IV a3 (-2147483648) (-1) := ⟨by have q1 := b21; have q2 := kc_0; omega, by have q1 := b21; have q2 := kc_0; omega⟩
            refine m_aload_n C dX11_row_34 rfl rfl ?_
            refine m_iconst (v := 4) C dX11_row_35 (by decide) ?_
            refine m_callV (n := 1) (ci := 10) (st := []) C (c_X11_found l G τ1 (4) i2 (iv_wk kc_4 (by decide))) (by decide) (by decide) rfl rfl rfl q1_238 q1_235 q1_237 q0_1 q1_1 (by decide +kernel) rfl (by decide) (by decide) rfl (Nat.le_of_ble_eq_true rfl) dX11_row_36 ?_
            rintro _ τ41 ⟨x44, rfl, i42, f43, b45, h47⟩
            have g46 : Fr MS_X11_rowE AS_X11_rowE σ τ41 := Fr.call (g6) f43 (by decide)
            have q48 := kt_4
            show MW p l e _ s m args below meth c _ 5 G 0 0 39 [some (.ref (G.1 0 0)), some (.int a1), some (.int a2), some (.int a3), some (.ref (G.1 20 (a1.toInt.toNat)))] [.int x44] τ41
            exact m_iret C hr hlk (by decide) (by decide) dX11_row_39 ⟨_, rfl, i42, g46, (iv_wk b45 (by decide)), (Or.inr (Or.inl ⟨by omega, by omega, ((SameR.rf.fr f3 (by simp) (by decide)).fr f43 (by simp) (by decide))⟩))⟩
        · have f49 : 40 < a3.toInt := by
            have q : _ := c19
            simp only [ti_nle, ti_nlt, ti_le, ti_lt, ti_eq, ti_ne, Classical.not_not, kt_40] at q
            omega
          have b50 : IV a3 41 2147483647 := ⟨by have q1 := kc_40; have q2 := (iv_any a3); omega, by have q1 := kc_40; have q2 := (iv_any a3); omega⟩
          refine m_ldc (v := (-1000001)) C dX11_row_27 q1_234 ?_
          exact m_iret C hr hlk (by decide) (by decide) dX11_row_29 ⟨_, rfl, i2, g6, (iv_wk kc_m1000001 (by decide)), (Or.inl ⟨by omega, (by have q := kt_m1000001; omega), (SameR.rf.fr f3 (by simp) (by decide))⟩)⟩

abbrev MS_X11_setE : List (Nat × Nat) := [(0, 12)]
abbrev AS_X11_setE : List Nat := [21]
set_option maxHeartbeats 4000000 in
set_option maxRecDepth 100000 in
theorem c_X11_setE (l : Launch) (G : Gt) (σ : Sg) (a1 : Int32) (a2 : Int32) (a3 : Int32) (hI : Inv σ) : Mc l G yX11_set cX11_set 5 (some .int) 1 21 0 0 [.ref (G.1 0 0), .int a1, .int a2, .int a3] σ (PI fun r τ => Inv τ ∧ Fr MS_X11_setE AS_X11_setE σ τ ∧ IV r (-2147483648) 2147483647 ∧ (((a1.toInt < 0 ∨ 7 < a1.toInt) ∧ r.toInt = -1000001) ∨ ((0 ≤ a1.toInt ∧ a1.toInt ≤ 7) ∧ (gV σ 20 (a1.toInt.toNat) 1).toInt = -1 ∧ r.toInt = -1000011) ∨ ((0 ≤ a1.toInt ∧ a1.toInt ≤ 7) ∧ ¬ ((gV σ 20 (a1.toInt.toNat) 1).toInt = -1) ∧ (a2.toInt < 0 ∨ (gV σ 20 (a1.toInt.toNat) 2).toInt ≤ a2.toInt) ∧ r.toInt = -1000012) ∨ ((0 ≤ a1.toInt ∧ a1.toInt ≤ 7) ∧ ¬ ((gV σ 20 (a1.toInt.toNat) 1).toInt = -1) ∧ 0 ≤ a2.toInt ∧ a2.toInt < (gV σ 20 (a1.toInt.toNat) 2).toInt ∧ r.toInt = (cutF (gV σ 20 (a1.toInt.toNat) 1) a3).toInt))) := by
  refine Mc.of (L0 := [some (.ref (G.1 0 0)), some (.int a1), some (.int a2), some (.int a3), none]) (by decide) (Nat.le_of_ble_eq_true rfl) rfl ?_
  intro p e s m args below meth c C hr hlk
  have C : Cx p s m args c cX11_set 5 "LeanTower" := C
  have k0 : (0 : Int32).toInt = 0 := by decide
  have k1 : (1 : Int32).toInt = 1 := by decide
  have u1 : IV (gV σ 20 (a1.toInt.toNat) 2) 0 40 := hI.1 20 (a1.toInt.toNat) 2
  refine m_aload_n C dX11_set_0 rfl rfl ?_
  refine m_iload_n C dX11_set_1 rfl rfl ?_
  refine m_callV (n := 1) (ci := 10) (st := []) C (c_X11_rowAt l G σ (a1) hI ) (by decide) (by decide) rfl rfl rfl q1_233 q1_230 q1_232 q0_0 q1_1 (by decide +kernel) rfl (by decide) (by decide) rfl (Nat.le_of_ble_eq_true rfl) dX11_set_2 ?_
  rintro _ τ2 ⟨x5, rfl, i3, f4, h8⟩
  have g7 : Fr MS_X11_setE AS_X11_setE σ τ2 := Fr.call (Fr.rf) f4 (by decide)
  have q9 : (gV τ2 20 (a1.toInt.toNat) 1).toInt = (gV σ 20 (a1.toInt.toNat) 1).toInt := congrArg Int32.toInt (show (gV τ2 20 (a1.toInt.toNat) 1) = (gV σ 20 (a1.toInt.toNat) 1) from (show gV τ2 20 (a1.toInt.toNat) 1 = (gV σ 20 (a1.toInt.toNat) 1) from (f4.1 20 (a1.toInt.toNat) (1) (by decide) (by decide)).trans rfl))
  have q10 : (gV τ2 20 (a1.toInt.toNat) 2).toInt = (gV σ 20 (a1.toInt.toNat) 2).toInt := congrArg Int32.toInt (show (gV τ2 20 (a1.toInt.toNat) 2) = (gV σ 20 (a1.toInt.toNat) 2) from (show gV τ2 20 (a1.toInt.toNat) 2 = (gV σ 20 (a1.toInt.toNat) 2) from (f4.1 20 (a1.toInt.toNat) (2) (by decide) (by decide)).trans rfl))
  rcases h8 with ⟨rfl, x5q⟩ | ⟨rfl, x5q⟩
  · skip
    show MW p l e _ s m args below meth c _ 5 G 0 0 5 [some (.ref (G.1 0 0)), some (.int a1), some (.int a2), some (.int a3), none] [.null] τ2
    refine m_astoreN (L1 := [some (.ref (G.1 0 0)), some (.int a1), some (.int a2), some (.int a3), some (.null)]) C dX11_set_5 (by decide) rfl rfl ?_
    refine m_aloadN C dX11_set_7 rfl ?_
    refine m_ifnonnullN C dX11_set_9 ?_
    refine m_ldc (v := (-1000001)) C dX11_set_12 q1_234 ?_
    exact m_iret C hr hlk (by decide) (by decide) dX11_set_14 ⟨_, rfl, i3, g7, (iv_wk kc_m1000001 (by decide)), (Or.inl ⟨by have q := kt_m1000001; omega, by have q := kt_m1000001; omega⟩)⟩
  · have b11 : IV a1 0 7 := ⟨by have q1 := (iv_any a1); omega, by have q1 := (iv_any a1); omega⟩
    show MW p l e _ s m args below meth c _ 5 G 0 0 5 [some (.ref (G.1 0 0)), some (.int a1), some (.int a2), some (.int a3), none] [.ref (G.1 20 (a1.toInt.toNat))] τ2
    refine m_astore (L1 := [some (.ref (G.1 0 0)), some (.int a1), some (.int a2), some (.int a3), some (.ref (G.1 20 (a1.toInt.toNat)))]) C dX11_set_5 (by decide) rfl rfl ?_
    refine m_aload C dX11_set_7 rfl ?_
    refine m_ifnonnull (tgt := 15) C dX11_set_9 (by decide) ?_
    refine m_aload C dX11_set_15 rfl ?_
    refine m_callV (n := 0) (ci := 6) (st := []) C (c_X7_isMissingE l G τ2 (j := (a1.toInt.toNat)) (iv_nat b11 (by decide))  i3 ) (by decide) (iv_nat b11 (by decide)) rfl rfl rfl q2_15 q2_12 q2_13 q2_14 q1_6 (by decide +kernel) rfl (by decide) (by decide) rfl (Nat.le_of_ble_eq_true rfl) dX11_set_17 ?_
    rintro _ τ12 ⟨x15, rfl, i13, f14, b16, h18⟩
    have g17 : Fr MS_X11_setE AS_X11_setE σ τ12 := Fr.call (g7) f14 (by decide)
    have q19 : (gV τ12 20 (a1.toInt.toNat) 1).toInt = (gV σ 20 (a1.toInt.toNat) 1).toInt := congrArg Int32.toInt (show (gV τ12 20 (a1.toInt.toNat) 1) = (gV σ 20 (a1.toInt.toNat) 1) from (show gV τ12 20 (a1.toInt.toNat) 1 = (gV σ 20 (a1.toInt.toNat) 1) from (f14.1 20 (a1.toInt.toNat) (1) (by decide) (by decide)).trans (show gV τ2 20 (a1.toInt.toNat) 1 = (gV σ 20 (a1.toInt.toNat) 1) from (f4.1 20 (a1.toInt.toNat) (1) (by decide) (by decide)).trans rfl)))
    have q20 : (gV τ12 20 (a1.toInt.toNat) 2).toInt = (gV σ 20 (a1.toInt.toNat) 2).toInt := congrArg Int32.toInt (show (gV τ12 20 (a1.toInt.toNat) 2) = (gV σ 20 (a1.toInt.toNat) 2) from (show gV τ12 20 (a1.toInt.toNat) 2 = (gV σ 20 (a1.toInt.toNat) 2) from (f14.1 20 (a1.toInt.toNat) (2) (by decide) (by decide)).trans (show gV τ2 20 (a1.toInt.toNat) 2 = (gV σ 20 (a1.toInt.toNat) 2) from (f4.1 20 (a1.toInt.toNat) (2) (by decide) (by decide)).trans rfl)))
    rcases h18 with ⟨h18_0, h18_1⟩ | ⟨h18_0, h18_1⟩
    · skip
      have b21 : IV x15 1 1 := ⟨by omega, by omega⟩
      show MW p l e _ s m args below meth c _ 5 G 0 0 20 [some (.ref (G.1 0 0)), some (.int a1), some (.int a2), some (.int a3), some (.ref (G.1 20 (a1.toInt.toNat)))] [.int x15] τ12
      refine m_if_eq (tgt := 29) C dX11_set_20 (by decide) (fun c22 => ?_) (fun c22 => ?_)
      · exfalso
        have q : _ := c22
        simp only [ti_nle, ti_nlt, ti_le, ti_lt, ti_eq, ti_ne, Classical.not_not, kt_0] at q
        have q1 := b21; have q2 := kc_0; omega
      · have f24 : x15.toInt ≠ 0 := by
          have q : _ := c22
          simp only [ti_nle, ti_nlt, ti_le, ti_lt, ti_eq, ti_ne, Classical.not_not, kt_0] at q
          omega
        refine m_aload_n C dX11_set_23 rfl rfl ?_
        refine m_iconst (v := 1) C dX11_set_24 (by decide) ?_
        refine m_callV (n := 1) (ci := 10) (st := []) C (c_X11_found l G τ12 (1) i13 (iv_wk kc_1 (by decide))) (by decide) (by decide) rfl rfl rfl q1_238 q1_235 q1_237 q0_1 q1_1 (by decide +kernel) rfl (by decide) (by decide) rfl (Nat.le_of_ble_eq_true rfl) dX11_set_25 ?_
        rintro _ τ25 ⟨x28, rfl, i26, f27, b29, h31⟩
        have g30 : Fr MS_X11_setE AS_X11_setE σ τ25 := Fr.call (g17) f27 (by decide)
        have q32 : (gV τ25 20 (a1.toInt.toNat) 1).toInt = (gV σ 20 (a1.toInt.toNat) 1).toInt := congrArg Int32.toInt (show (gV τ25 20 (a1.toInt.toNat) 1) = (gV σ 20 (a1.toInt.toNat) 1) from (show gV τ25 20 (a1.toInt.toNat) 1 = (gV σ 20 (a1.toInt.toNat) 1) from (f27.1 20 (a1.toInt.toNat) (1) (by decide) (by decide)).trans (show gV τ12 20 (a1.toInt.toNat) 1 = (gV σ 20 (a1.toInt.toNat) 1) from (f14.1 20 (a1.toInt.toNat) (1) (by decide) (by decide)).trans (show gV τ2 20 (a1.toInt.toNat) 1 = (gV σ 20 (a1.toInt.toNat) 1) from (f4.1 20 (a1.toInt.toNat) (1) (by decide) (by decide)).trans rfl))))
        have q33 : (gV τ25 20 (a1.toInt.toNat) 2).toInt = (gV σ 20 (a1.toInt.toNat) 2).toInt := congrArg Int32.toInt (show (gV τ25 20 (a1.toInt.toNat) 2) = (gV σ 20 (a1.toInt.toNat) 2) from (show gV τ25 20 (a1.toInt.toNat) 2 = (gV σ 20 (a1.toInt.toNat) 2) from (f27.1 20 (a1.toInt.toNat) (2) (by decide) (by decide)).trans (show gV τ12 20 (a1.toInt.toNat) 2 = (gV σ 20 (a1.toInt.toNat) 2) from (f14.1 20 (a1.toInt.toNat) (2) (by decide) (by decide)).trans (show gV τ2 20 (a1.toInt.toNat) 2 = (gV σ 20 (a1.toInt.toNat) 2) from (f4.1 20 (a1.toInt.toNat) (2) (by decide) (by decide)).trans rfl))))
        have q34 := kt_1
        show MW p l e _ s m args below meth c _ 5 G 0 0 28 [some (.ref (G.1 0 0)), some (.int a1), some (.int a2), some (.int a3), some (.ref (G.1 20 (a1.toInt.toNat)))] [.int x28] τ25
        exact m_iret C hr hlk (by decide) (by decide) dX11_set_28 ⟨_, rfl, i26, g30, (iv_wk b29 (by decide)), (Or.inr (Or.inl ⟨by omega, by omega, by omega⟩))⟩
    · skip
      have b35 : IV x15 0 0 := ⟨by omega, by omega⟩
      show MW p l e _ s m args below meth c _ 5 G 0 0 20 [some (.ref (G.1 0 0)), some (.int a1), some (.int a2), some (.int a3), some (.ref (G.1 20 (a1.toInt.toNat)))] [.int x15] τ12
      refine m_if_eq (tgt := 29) C dX11_set_20 (by decide) (fun c36 => ?_) (fun c36 => ?_)
      · have f37 : x15.toInt = 0 := by
          have q : _ := c36
          simp only [ti_nle, ti_nlt, ti_le, ti_lt, ti_eq, ti_ne, Classical.not_not, kt_0] at q
          omega
        refine m_iload_n C dX11_set_29 rfl rfl ?_
        refine m_if_lt (tgt := 42) C dX11_set_30 (by decide) (fun c38 => ?_) (fun c38 => ?_)
        · have f39 : a2.toInt < 0 := by
            have q : _ := c38
            simp only [ti_nle, ti_nlt, ti_le, ti_lt, ti_eq, ti_ne, Classical.not_not, kt_0] at q
            omega
          have b40 : IV a2 (-2147483648) (-1) := ⟨by have q1 := (iv_any a2); have q2 := kc_0; omega, by have q1 := (iv_any a2); have q2 := kc_0; omega⟩
          refine m_aload_n C dX11_set_42 rfl rfl ?_
          refine m_iconst (v := 2) C dX11_set_43 (by decide) ?_
          refine m_callV (n := 1) (ci := 10) (st := []) C (c_X11_found l G τ12 (2) i13 (iv_wk kc_2 (by decide))) (by decide) (by decide) rfl rfl rfl q1_238 q1_235 q1_237 q0_1 q1_1 (by decide +kernel) rfl (by decide) (by decide) rfl (Nat.le_of_ble_eq_true rfl) dX11_set_44 ?_
          rintro _ τ41 ⟨x44, rfl, i42, f43, b45, h47⟩
          have g46 : Fr MS_X11_setE AS_X11_setE σ τ41 := Fr.call (g17) f43 (by decide)
          have q48 : (gV τ41 20 (a1.toInt.toNat) 1).toInt = (gV σ 20 (a1.toInt.toNat) 1).toInt := congrArg Int32.toInt (show (gV τ41 20 (a1.toInt.toNat) 1) = (gV σ 20 (a1.toInt.toNat) 1) from (show gV τ41 20 (a1.toInt.toNat) 1 = (gV σ 20 (a1.toInt.toNat) 1) from (f43.1 20 (a1.toInt.toNat) (1) (by decide) (by decide)).trans (show gV τ12 20 (a1.toInt.toNat) 1 = (gV σ 20 (a1.toInt.toNat) 1) from (f14.1 20 (a1.toInt.toNat) (1) (by decide) (by decide)).trans (show gV τ2 20 (a1.toInt.toNat) 1 = (gV σ 20 (a1.toInt.toNat) 1) from (f4.1 20 (a1.toInt.toNat) (1) (by decide) (by decide)).trans rfl))))
          have q49 : (gV τ41 20 (a1.toInt.toNat) 2).toInt = (gV σ 20 (a1.toInt.toNat) 2).toInt := congrArg Int32.toInt (show (gV τ41 20 (a1.toInt.toNat) 2) = (gV σ 20 (a1.toInt.toNat) 2) from (show gV τ41 20 (a1.toInt.toNat) 2 = (gV σ 20 (a1.toInt.toNat) 2) from (f43.1 20 (a1.toInt.toNat) (2) (by decide) (by decide)).trans (show gV τ12 20 (a1.toInt.toNat) 2 = (gV σ 20 (a1.toInt.toNat) 2) from (f14.1 20 (a1.toInt.toNat) (2) (by decide) (by decide)).trans (show gV τ2 20 (a1.toInt.toNat) 2 = (gV σ 20 (a1.toInt.toNat) 2) from (f4.1 20 (a1.toInt.toNat) (2) (by decide) (by decide)).trans rfl))))
          have q50 := kt_2
          show MW p l e _ s m args below meth c _ 5 G 0 0 47 [some (.ref (G.1 0 0)), some (.int a1), some (.int a2), some (.int a3), some (.ref (G.1 20 (a1.toInt.toNat)))] [.int x44] τ41
          exact m_iret C hr hlk (by decide) (by decide) dX11_set_47 ⟨_, rfl, i42, g46, (iv_wk b45 (by decide)), (Or.inr (Or.inr (Or.inl ⟨by omega, by omega, by omega, by omega⟩)))⟩
        · have f51 : 0 ≤ a2.toInt := by
            have q : _ := c38
            simp only [ti_nle, ti_nlt, ti_le, ti_lt, ti_eq, ti_ne, Classical.not_not, kt_0] at q
            omega
          have b52 : IV a2 0 2147483647 := ⟨by have q1 := kc_0; have q2 := (iv_any a2); omega, by have q1 := kc_0; have q2 := (iv_any a2); omega⟩
          refine m_iload_n C dX11_set_33 rfl rfl ?_
          refine m_aload C dX11_set_34 rfl ?_
          refine g_20_2 C (iv_nat b11 (by decide)) q1_177 dX11_set_36 ?_
          refine m_eqs (w := (gV σ 20 (a1.toInt.toNat) 2)) (show gV τ12 20 (a1.toInt.toNat) 2 = (gV σ 20 (a1.toInt.toNat) 2) from (f14.1 20 (a1.toInt.toNat) (2) (by decide) (by decide)).trans (show gV τ2 20 (a1.toInt.toNat) 2 = (gV σ 20 (a1.toInt.toNat) 2) from (f4.1 20 (a1.toInt.toNat) (2) (by decide) (by decide)).trans rfl)) ?_
          refine m_icmp_lt (tgt := 48) C dX11_set_39 (by decide) (fun c53 => ?_) (fun c53 => ?_)
          · have f54 : a2.toInt < (gV σ 20 (a1.toInt.toNat) 2).toInt := by
              have q : _ := c53
              simp only [ti_nle, ti_nlt, ti_le, ti_lt, ti_eq, ti_ne, Classical.not_not] at q
              omega
            have b55 : IV a2 0 39 := ⟨by have q1 := b52; have q2 := u1; omega, by have q1 := b52; have q2 := u1; omega⟩
            have b56 : IV (gV σ 20 (a1.toInt.toNat) 2) 1 40 := ⟨by have q1 := b52; have q2 := u1; omega, by have q1 := b52; have q2 := u1; omega⟩
            refine m_aload C dX11_set_48 rfl ?_
            refine g_20_0 C (iv_nat b11 (by decide)) q1_173 dX11_set_50 ?_
            refine m_iload_n C dX11_set_53 rfl rfl ?_
            refine m_aload C dX11_set_54 rfl ?_
            refine m_iload_n C dX11_set_56 rfl rfl ?_
            refine m_callV (n := 1) (ci := 6) (st := [.int a2, .ref (G.1 21 (a1.toInt.toNat))]) C (c_X7_narrowedE l G τ12 (j := (a1.toInt.toNat)) (iv_nat b11 (by decide)) (a3) i13 ) (by decide) (iv_nat b11 (by decide)) rfl rfl rfl q2_19 q2_16 q2_17 q2_18 q1_6 (by decide +kernel) rfl (by decide) (by decide) rfl (Nat.le_of_ble_eq_true rfl) dX11_set_57 ?_
            rintro _ τ57 ⟨x60, rfl, i58, f59, b61, h63⟩
            have g62 : Fr MS_X11_setE AS_X11_setE σ τ57 := Fr.call (g17) f59 (by decide)
            have q64 : (gV τ57 20 (a1.toInt.toNat) 1).toInt = (gV σ 20 (a1.toInt.toNat) 1).toInt := congrArg Int32.toInt (show (gV τ57 20 (a1.toInt.toNat) 1) = (gV σ 20 (a1.toInt.toNat) 1) from (show gV τ57 20 (a1.toInt.toNat) 1 = (gV σ 20 (a1.toInt.toNat) 1) from (f59.1 20 (a1.toInt.toNat) (1) (by decide) (by decide)).trans (show gV τ12 20 (a1.toInt.toNat) 1 = (gV σ 20 (a1.toInt.toNat) 1) from (f14.1 20 (a1.toInt.toNat) (1) (by decide) (by decide)).trans (show gV τ2 20 (a1.toInt.toNat) 1 = (gV σ 20 (a1.toInt.toNat) 1) from (f4.1 20 (a1.toInt.toNat) (1) (by decide) (by decide)).trans rfl))))
            have q65 : (gV τ57 20 (a1.toInt.toNat) 2).toInt = (gV σ 20 (a1.toInt.toNat) 2).toInt := congrArg Int32.toInt (show (gV τ57 20 (a1.toInt.toNat) 2) = (gV σ 20 (a1.toInt.toNat) 2) from (show gV τ57 20 (a1.toInt.toNat) 2 = (gV σ 20 (a1.toInt.toNat) 2) from (f59.1 20 (a1.toInt.toNat) (2) (by decide) (by decide)).trans (show gV τ12 20 (a1.toInt.toNat) 2 = (gV σ 20 (a1.toInt.toNat) 2) from (f14.1 20 (a1.toInt.toNat) (2) (by decide) (by decide)).trans (show gV τ2 20 (a1.toInt.toNat) 2 = (gV σ 20 (a1.toInt.toNat) 2) from (f4.1 20 (a1.toInt.toNat) (2) (by decide) (by decide)).trans rfl))))
            have q66 : x60.toInt = (cutF (gV σ 20 (a1.toInt.toNat) 1) a3).toInt := by rw [h63, show gV τ12 20 (a1.toInt.toNat) 1 = (gV σ 20 (a1.toInt.toNat) 1) from (show gV τ12 20 (a1.toInt.toNat) 1 = (gV σ 20 (a1.toInt.toNat) 1) from (f14.1 20 (a1.toInt.toNat) (1) (by decide) (by decide)).trans (show gV τ2 20 (a1.toInt.toNat) 1 = (gV σ 20 (a1.toInt.toNat) 1) from (f4.1 20 (a1.toInt.toNat) (1) (by decide) (by decide)).trans rfl))]
            show MW p l e _ s m args below meth c _ 5 G 0 0 60 [some (.ref (G.1 0 0)), some (.int a1), some (.int a2), some (.int a3), some (.ref (G.1 20 (a1.toInt.toNat)))] [.int x60, .int a2, .ref (G.1 21 (a1.toInt.toNat))] τ57
            refine as_21 C (iv_nat b11 (by decide)) b55 (by decide) rfl dX11_set_60 ?_
            refine m_tops (fun τ67 eτ67 => ?_)
            have i68 : Inv τ67 := eτ67 ▸ Inv.putF i58 (by decide) rfl
            have f69 : Fr MS_X11_setE AS_X11_setE σ τ67 := eτ67 ▸ Fr.put (g62) (Or.inr (by decide))
            refine m_aload_n C dX11_set_61 rfl rfl ?_
            refine m_aload C dX11_set_62 rfl ?_
            refine g_20_0 C (iv_nat b11 (by decide)) q1_173 dX11_set_64 ?_
            refine m_iload_n C dX11_set_67 rfl rfl ?_
            refine al_21 C (iv_nat b11 (by decide)) b55 (by decide) rfl dX11_set_68 ?_
            refine m_eqs (w := x60) (show gV τ67 21 (a1.toInt.toNat) (a2.toInt.toNat) = x60 from gV_put eτ67 (gV_self _ _ _ _ _)) ?_
            refine m_callV (n := 1) (ci := 10) (st := []) C (c_X11_clean l G τ67 (x60) i68 ) (by decide) (by decide) rfl rfl rfl q2_7 q2_4 q2_6 q0_2 q1_1 (by decide +kernel) rfl (by decide) (by decide) rfl (Nat.le_of_ble_eq_true rfl) dX11_set_69 ?_
            rintro _ τ70 ⟨x73, rfl, i71, f72, b74, h76⟩
            have g75 : Fr MS_X11_setE AS_X11_setE σ τ70 := Fr.call (f69) f72 (by decide)
            have q77 : (gV τ70 20 (a1.toInt.toNat) 1).toInt = (gV σ 20 (a1.toInt.toNat) 1).toInt := congrArg Int32.toInt (show (gV τ70 20 (a1.toInt.toNat) 1) = (gV σ 20 (a1.toInt.toNat) 1) from (show gV τ70 20 (a1.toInt.toNat) 1 = (gV σ 20 (a1.toInt.toNat) 1) from (f72.1 20 (a1.toInt.toNat) (1) (by decide) (by decide)).trans (show gV τ67 20 (a1.toInt.toNat) 1 = (gV σ 20 (a1.toInt.toNat) 1) from gV_put eτ67 (show gV τ57 20 (a1.toInt.toNat) 1 = (gV σ 20 (a1.toInt.toNat) 1) from (f59.1 20 (a1.toInt.toNat) (1) (by decide) (by decide)).trans (show gV τ12 20 (a1.toInt.toNat) 1 = (gV σ 20 (a1.toInt.toNat) 1) from (f14.1 20 (a1.toInt.toNat) (1) (by decide) (by decide)).trans (show gV τ2 20 (a1.toInt.toNat) 1 = (gV σ 20 (a1.toInt.toNat) 1) from (f4.1 20 (a1.toInt.toNat) (1) (by decide) (by decide)).trans rfl))))))
            have q78 : (gV τ70 20 (a1.toInt.toNat) 2).toInt = (gV σ 20 (a1.toInt.toNat) 2).toInt := congrArg Int32.toInt (show (gV τ70 20 (a1.toInt.toNat) 2) = (gV σ 20 (a1.toInt.toNat) 2) from (show gV τ70 20 (a1.toInt.toNat) 2 = (gV σ 20 (a1.toInt.toNat) 2) from (f72.1 20 (a1.toInt.toNat) (2) (by decide) (by decide)).trans (show gV τ67 20 (a1.toInt.toNat) 2 = (gV σ 20 (a1.toInt.toNat) 2) from gV_put eτ67 (show gV τ57 20 (a1.toInt.toNat) 2 = (gV σ 20 (a1.toInt.toNat) 2) from (f59.1 20 (a1.toInt.toNat) (2) (by decide) (by decide)).trans (show gV τ12 20 (a1.toInt.toNat) 2 = (gV σ 20 (a1.toInt.toNat) 2) from (f14.1 20 (a1.toInt.toNat) (2) (by decide) (by decide)).trans (show gV τ2 20 (a1.toInt.toNat) 2 = (gV σ 20 (a1.toInt.toNat) 2) from (f4.1 20 (a1.toInt.toNat) (2) (by decide) (by decide)).trans rfl))))))
            show MW p l e _ s m args below meth c _ 5 G 0 0 72 [some (.ref (G.1 0 0)), some (.int a1), some (.int a2), some (.int a3), some (.ref (G.1 20 (a1.toInt.toNat)))] [.int x73] τ70
            exact m_iret C hr hlk (by decide) (by decide) dX11_set_72 ⟨_, rfl, i71, g75, b74, (Or.inr (Or.inr (Or.inr (⟨by omega, by omega, by omega, by omega, by omega⟩))))⟩
          · have f79 : (gV σ 20 (a1.toInt.toNat) 2).toInt ≤ a2.toInt := by
              have q : _ := c53
              simp only [ti_nle, ti_nlt, ti_le, ti_lt, ti_eq, ti_ne, Classical.not_not] at q
              omega
            refine m_aload_n C dX11_set_42 rfl rfl ?_
            refine m_iconst (v := 2) C dX11_set_43 (by decide) ?_
            refine m_callV (n := 1) (ci := 10) (st := []) C (c_X11_found l G τ12 (2) i13 (iv_wk kc_2 (by decide))) (by decide) (by decide) rfl rfl rfl q1_238 q1_235 q1_237 q0_1 q1_1 (by decide +kernel) rfl (by decide) (by decide) rfl (Nat.le_of_ble_eq_true rfl) dX11_set_44 ?_
            rintro _ τ80 ⟨x83, rfl, i81, f82, b84, h86⟩
            have g85 : Fr MS_X11_setE AS_X11_setE σ τ80 := Fr.call (g17) f82 (by decide)
            have q87 : (gV τ80 20 (a1.toInt.toNat) 1).toInt = (gV σ 20 (a1.toInt.toNat) 1).toInt := congrArg Int32.toInt (show (gV τ80 20 (a1.toInt.toNat) 1) = (gV σ 20 (a1.toInt.toNat) 1) from (show gV τ80 20 (a1.toInt.toNat) 1 = (gV σ 20 (a1.toInt.toNat) 1) from (f82.1 20 (a1.toInt.toNat) (1) (by decide) (by decide)).trans (show gV τ12 20 (a1.toInt.toNat) 1 = (gV σ 20 (a1.toInt.toNat) 1) from (f14.1 20 (a1.toInt.toNat) (1) (by decide) (by decide)).trans (show gV τ2 20 (a1.toInt.toNat) 1 = (gV σ 20 (a1.toInt.toNat) 1) from (f4.1 20 (a1.toInt.toNat) (1) (by decide) (by decide)).trans rfl))))
            have q88 : (gV τ80 20 (a1.toInt.toNat) 2).toInt = (gV σ 20 (a1.toInt.toNat) 2).toInt := congrArg Int32.toInt (show (gV τ80 20 (a1.toInt.toNat) 2) = (gV σ 20 (a1.toInt.toNat) 2) from (show gV τ80 20 (a1.toInt.toNat) 2 = (gV σ 20 (a1.toInt.toNat) 2) from (f82.1 20 (a1.toInt.toNat) (2) (by decide) (by decide)).trans (show gV τ12 20 (a1.toInt.toNat) 2 = (gV σ 20 (a1.toInt.toNat) 2) from (f14.1 20 (a1.toInt.toNat) (2) (by decide) (by decide)).trans (show gV τ2 20 (a1.toInt.toNat) 2 = (gV σ 20 (a1.toInt.toNat) 2) from (f4.1 20 (a1.toInt.toNat) (2) (by decide) (by decide)).trans rfl))))
            have q89 := kt_2
            show MW p l e _ s m args below meth c _ 5 G 0 0 47 [some (.ref (G.1 0 0)), some (.int a1), some (.int a2), some (.int a3), some (.ref (G.1 20 (a1.toInt.toNat)))] [.int x83] τ80
            exact m_iret C hr hlk (by decide) (by decide) dX11_set_47 ⟨_, rfl, i81, g85, (iv_wk b84 (by decide)), (Or.inr (Or.inr (Or.inl ⟨by omega, by omega, by omega, by omega⟩)))⟩
      · exfalso
        have q : _ := c36
        simp only [ti_nle, ti_nlt, ti_le, ti_lt, ti_eq, ti_ne, Classical.not_not, kt_0] at q
        have q1 := b35; have q2 := kc_0; omega

abbrev MS_X12_setE : List (Nat × Nat) := [(22, 8)]
abbrev AS_X12_setE : List Nat := [25]
set_option maxHeartbeats 4000000 in
set_option maxRecDepth 100000 in
theorem c_X12_setE (l : Launch) (G : Gt) (σ : Sg) (a1 : Int32) (a2 : Int32) (a3 : Int32) (hI : Inv σ) : Mc l G yX12_set cX12_set 4 (some .int) 2 45 0 0 [.ref (G.1 22 0), .int a1, .int a2, .int a3] σ (PI fun r τ => Inv τ ∧ Fr MS_X12_setE AS_X12_setE σ τ ∧ IV r (-2147483648) 2147483647 ∧ (((a1.toInt < 0 ∨ 7 < a1.toInt) ∧ r.toInt = -1000001) ∨ ((0 ≤ a1.toInt ∧ a1.toInt ≤ 7) ∧ (gV σ 26 0 (a1.toInt.toNat)).toInt < 0 ∧ r.toInt = -1000011) ∨ ((0 ≤ a1.toInt ∧ a1.toInt ≤ 7) ∧ ¬ ((gV σ 26 0 (a1.toInt.toNat)).toInt < 0) ∧ (a2.toInt < 0 ∨ (gV σ 27 0 (a1.toInt.toNat)).toInt ≤ a2.toInt) ∧ r.toInt = -1000012) ∨ ((0 ≤ a1.toInt ∧ a1.toInt ≤ 7) ∧ ¬ ((gV σ 26 0 (a1.toInt.toNat)).toInt < 0) ∧ 0 ≤ a2.toInt ∧ a2.toInt < (gV σ 27 0 (a1.toInt.toNat)).toInt ∧ r.toInt = (cutF (gV σ 26 0 (a1.toInt.toNat)) a3).toInt))) := by
  refine Mc.of (L0 := [some (.ref (G.1 22 0)), some (.int a1), some (.int a2), some (.int a3)]) (by decide) (Nat.le_of_ble_eq_true rfl) rfl ?_
  intro p e s m args below meth c C hr hlk
  have C : Cx p s m args c cX12_set 4 "LeanTowerModel" := C
  have k0 : (0 : Int32).toInt = 0 := by decide
  have k1 : (1 : Int32).toInt = 1 := by decide
  have u1 : IV (gV σ 27 0 (a1.toInt.toNat)) 0 40 := hI.1 27 0 (a1.toInt.toNat)
  refine m_iload_n C dX12_set_0 rfl rfl ?_
  refine m_callS (n := 1) (st := []) C (c_X12_isRow l G σ (a1) hI ) q4_186 q4_184 q4_185 q1_7 (by decide +kernel) rfl (by decide) (by decide) rfl (Nat.le_of_ble_eq_true rfl) dX12_set_1 ?_
  rintro _ τ2 ⟨x5, rfl, i3, f4, b6, h8⟩
  have g7 : Fr MS_X12_setE AS_X12_setE σ τ2 := Fr.call (Fr.rf) f4 (by decide)
  have q9 : (gV τ2 26 0 (a1.toInt.toNat)).toInt = (gV σ 26 0 (a1.toInt.toNat)).toInt := congrArg Int32.toInt (show (gV τ2 26 0 (a1.toInt.toNat)) = (gV σ 26 0 (a1.toInt.toNat)) from (show gV τ2 26 0 (a1.toInt.toNat) = (gV σ 26 0 (a1.toInt.toNat)) from (f4.1 26 0 ((a1.toInt.toNat)) (by simp) (by decide)).trans rfl))
  have q10 : (gV τ2 27 0 (a1.toInt.toNat)).toInt = (gV σ 27 0 (a1.toInt.toNat)).toInt := congrArg Int32.toInt (show (gV τ2 27 0 (a1.toInt.toNat)) = (gV σ 27 0 (a1.toInt.toNat)) from (show gV τ2 27 0 (a1.toInt.toNat) = (gV σ 27 0 (a1.toInt.toNat)) from (f4.1 27 0 ((a1.toInt.toNat)) (by simp) (by decide)).trans rfl))
  rcases h8 with ⟨h8_0, h8_1, h8_2⟩ | ⟨h8_0, h8_1⟩
  · skip
    have b11 : IV x5 1 1 := ⟨by omega, by omega⟩
    show MW p l e _ s m args below meth c _ 4 G 0 0 4 [some (.ref (G.1 22 0)), some (.int a1), some (.int a2), some (.int a3)] [.int x5] τ2
    refine m_if_ne (tgt := 10) C dX12_set_4 (by decide) (fun c12 => ?_) (fun c12 => ?_)
    · have f13 : x5.toInt ≠ 0 := by
        have q : _ := c12
        simp only [ti_nle, ti_nlt, ti_le, ti_lt, ti_eq, ti_ne, Classical.not_not, kt_0] at q
        omega
      have b14 : IV a1 0 7 := ⟨by have q1 := (iv_any a1); omega, by have q1 := (iv_any a1); omega⟩
      refine m_aload_n C dX12_set_10 rfl rfl ?_
      refine g_22_3 C q4_119 dX12_set_11 ?_
      refine m_iload_n C dX12_set_14 rfl rfl ?_
      refine al_26 C b14 (by decide) rfl dX12_set_15 ?_
      refine m_eqs (w := (gV σ 26 0 (a1.toInt.toNat))) (show gV τ2 26 0 (a1.toInt.toNat) = (gV σ 26 0 (a1.toInt.toNat)) from (f4.1 26 0 ((a1.toInt.toNat)) (by simp) (by decide)).trans rfl) ?_
      refine m_if_ge (tgt := 25) C dX12_set_16 (by decide) (fun c15 => ?_) (fun c15 => ?_)
      · have f16 : 0 ≤ (gV σ 26 0 (a1.toInt.toNat)).toInt := by
          have q : _ := c15
          simp only [ti_nle, ti_nlt, ti_le, ti_lt, ti_eq, ti_ne, Classical.not_not, kt_0] at q
          omega
        have b17 : IV (gV σ 26 0 (a1.toInt.toNat)) 0 2147483647 := ⟨by have q1 := kc_0; have q2 := (iv_any (gV σ 26 0 (a1.toInt.toNat))); omega, by have q1 := kc_0; have q2 := (iv_any (gV σ 26 0 (a1.toInt.toNat))); omega⟩
        refine m_iload_n C dX12_set_25 rfl rfl ?_
        refine m_i2l C dX12_set_26 ?_
        refine m_lconst (v := 0) C dX12_set_27 (by decide) ?_
        refine m_aload_n C dX12_set_28 rfl rfl ?_
        refine g_22_4 C q4_120 dX12_set_29 ?_
        refine m_iload_n C dX12_set_32 rfl rfl ?_
        refine al_27 C b14 (by decide) rfl dX12_set_33 ?_
        refine m_eqs (w := (gV σ 27 0 (a1.toInt.toNat))) (show gV τ2 27 0 (a1.toInt.toNat) = (gV σ 27 0 (a1.toInt.toNat)) from (f4.1 27 0 ((a1.toInt.toNat)) (by simp) (by decide)).trans rfl) ?_
        refine m_iconst (v := 1) C dX12_set_34 (by decide) ?_
        refine m_isub C dX12_set_35 ?_
        refine m_topi (fun x18 ex18 => ?_)
        have tx18 : x18.toInt = (gV σ 27 0 (a1.toInt.toNat)).toInt - 1 := by rw [ex18, ti_subv u1 kc_1 (by decide), kt_1]
        have b19 : IV x18 (-1) 39 := by rw [ex18]; exact iv_sub u1 kc_1 (by decide)
        refine m_i2l C dX12_set_36 ?_
        refine m_callS (n := 3) (st := []) C (c_X12_in l G τ2 ((a2 : Int32).toInt64) (0) ((x18 : Int32).toInt64) i3 ) q4_190 q4_188 q4_189 q1_7 (by decide +kernel) rfl (by decide) (by decide) rfl (Nat.le_of_ble_eq_true rfl) dX12_set_37 ?_
        rintro _ τ20 ⟨x23, rfl, i21, f22, b24, h26⟩
        have g25 : Fr MS_X12_setE AS_X12_setE σ τ20 := Fr.call (g7) f22 (by decide)
        have q27 : (gV τ20 26 0 (a1.toInt.toNat)).toInt = (gV σ 26 0 (a1.toInt.toNat)).toInt := congrArg Int32.toInt (show (gV τ20 26 0 (a1.toInt.toNat)) = (gV σ 26 0 (a1.toInt.toNat)) from (show gV τ20 26 0 (a1.toInt.toNat) = (gV σ 26 0 (a1.toInt.toNat)) from (f22.1 26 0 ((a1.toInt.toNat)) (by simp) (by decide)).trans (show gV τ2 26 0 (a1.toInt.toNat) = (gV σ 26 0 (a1.toInt.toNat)) from (f4.1 26 0 ((a1.toInt.toNat)) (by simp) (by decide)).trans rfl)))
        have q28 : (gV τ20 27 0 (a1.toInt.toNat)).toInt = (gV σ 27 0 (a1.toInt.toNat)).toInt := congrArg Int32.toInt (show (gV τ20 27 0 (a1.toInt.toNat)) = (gV σ 27 0 (a1.toInt.toNat)) from (show gV τ20 27 0 (a1.toInt.toNat) = (gV σ 27 0 (a1.toInt.toNat)) from (f22.1 27 0 ((a1.toInt.toNat)) (by simp) (by decide)).trans (show gV τ2 27 0 (a1.toInt.toNat) = (gV σ 27 0 (a1.toInt.toNat)) from (f4.1 27 0 ((a1.toInt.toNat)) (by simp) (by decide)).trans rfl)))
        have f29 := tl_i a2
        have f30 := kl_0
        have f31 := tl_i x18
        have q32 := b19
        rcases h26 with ⟨h26_0, h26_1, h26_2⟩ | ⟨h26_0, h26_1⟩
        · skip
          have b33 : IV x23 1 1 := ⟨by omega, by omega⟩
          show MW p l e _ s m args below meth c _ 4 G 0 0 40 [some (.ref (G.1 22 0)), some (.int a1), some (.int a2), some (.int a3)] [.int x23] τ20
          refine m_if_ne (tgt := 49) C dX12_set_40 (by decide) (fun c34 => ?_) (fun c34 => ?_)
          · have f35 : x23.toInt ≠ 0 := by
              have q : _ := c34
              simp only [ti_nle, ti_nlt, ti_le, ti_lt, ti_eq, ti_ne, Classical.not_not, kt_0] at q
              omega
            have b36 : IV a2 0 39 := ⟨by have q1 := (iv_any a2); omega, by have q1 := (iv_any a2); omega⟩
            refine m_aload_n C dX12_set_49 rfl rfl ?_
            refine g_22_2 C q4_118 dX12_set_50 ?_
            refine m_bipush (v := 40) C dX12_set_53 (by decide) ?_
            refine m_iload_n C dX12_set_55 rfl rfl ?_
            refine m_imul C dX12_set_56 ?_
            refine m_topi (fun x37 ex37 => ?_)
            have tx37 : x37.toInt = 40 * a1.toInt := by rw [ex37, ti_mulv kc_40 b14 (by decide), kt_40]
            have b38 : IV x37 0 280 := by rw [ex37]; exact iv_mul kc_40 b14 (by decide)
            refine m_iload_n C dX12_set_57 rfl rfl ?_
            refine m_iadd C dX12_set_58 ?_
            refine m_topi (fun x39 ex39 => ?_)
            have tx39 : x39.toInt = x37.toInt + a2.toInt := by rw [ex39, ti_addv b38 b36 (by decide)]
            have b40 : IV x39 0 319 := by rw [ex39]; exact iv_add b38 b36 (by decide)
            refine m_aload_n C dX12_set_59 rfl rfl ?_
            refine g_22_3 C q4_119 dX12_set_60 ?_
            refine m_iload_n C dX12_set_63 rfl rfl ?_
            refine al_26 C b14 (by decide) rfl dX12_set_64 ?_
            refine m_eqs (w := (gV σ 26 0 (a1.toInt.toNat))) (show gV τ20 26 0 (a1.toInt.toNat) = (gV σ 26 0 (a1.toInt.toNat)) from (f22.1 26 0 ((a1.toInt.toNat)) (by simp) (by decide)).trans (show gV τ2 26 0 (a1.toInt.toNat) = (gV σ 26 0 (a1.toInt.toNat)) from (f4.1 26 0 ((a1.toInt.toNat)) (by simp) (by decide)).trans rfl)) ?_
            refine m_iload_n C dX12_set_65 rfl rfl ?_
            refine m_callS (n := 2) (st := [.int x39, .ref (G.1 25 0)]) C (c_X12_cutE l G τ20 ((gV σ 26 0 (a1.toInt.toNat))) (a3) i21 ) q4_208 q4_206 q4_207 q1_7 (by decide +kernel) rfl (by decide) (by decide) rfl (Nat.le_of_ble_eq_true rfl) dX12_set_66 ?_
            rintro _ τ41 ⟨x44, rfl, i42, f43, b45, h47⟩
            have g46 : Fr MS_X12_setE AS_X12_setE σ τ41 := Fr.call (g25) f43 (by decide)
            have q48 : (gV τ41 26 0 (a1.toInt.toNat)).toInt = (gV σ 26 0 (a1.toInt.toNat)).toInt := congrArg Int32.toInt (show (gV τ41 26 0 (a1.toInt.toNat)) = (gV σ 26 0 (a1.toInt.toNat)) from (show gV τ41 26 0 (a1.toInt.toNat) = (gV σ 26 0 (a1.toInt.toNat)) from (f43.1 26 0 ((a1.toInt.toNat)) (by simp) (by decide)).trans (show gV τ20 26 0 (a1.toInt.toNat) = (gV σ 26 0 (a1.toInt.toNat)) from (f22.1 26 0 ((a1.toInt.toNat)) (by simp) (by decide)).trans (show gV τ2 26 0 (a1.toInt.toNat) = (gV σ 26 0 (a1.toInt.toNat)) from (f4.1 26 0 ((a1.toInt.toNat)) (by simp) (by decide)).trans rfl))))
            have q49 : (gV τ41 27 0 (a1.toInt.toNat)).toInt = (gV σ 27 0 (a1.toInt.toNat)).toInt := congrArg Int32.toInt (show (gV τ41 27 0 (a1.toInt.toNat)) = (gV σ 27 0 (a1.toInt.toNat)) from (show gV τ41 27 0 (a1.toInt.toNat) = (gV σ 27 0 (a1.toInt.toNat)) from (f43.1 27 0 ((a1.toInt.toNat)) (by simp) (by decide)).trans (show gV τ20 27 0 (a1.toInt.toNat) = (gV σ 27 0 (a1.toInt.toNat)) from (f22.1 27 0 ((a1.toInt.toNat)) (by simp) (by decide)).trans (show gV τ2 27 0 (a1.toInt.toNat) = (gV σ 27 0 (a1.toInt.toNat)) from (f4.1 27 0 ((a1.toInt.toNat)) (by simp) (by decide)).trans rfl))))
            have q50 : x44.toInt = (cutF (gV σ 26 0 (a1.toInt.toNat)) a3).toInt := congrArg Int32.toInt h47
            show MW p l e _ s m args below meth c _ 4 G 0 0 69 [some (.ref (G.1 22 0)), some (.int a1), some (.int a2), some (.int a3)] [.int x44, .int x39, .ref (G.1 25 0)] τ41
            refine as_25 C b40 (by decide) rfl dX12_set_69 ?_
            refine m_tops (fun τ51 eτ51 => ?_)
            have i52 : Inv τ51 := eτ51 ▸ Inv.putF i42 (by decide) rfl
            have f53 : Fr MS_X12_setE AS_X12_setE σ τ51 := eτ51 ▸ Fr.put (g46) (Or.inr (by decide))
            refine m_aload_n C dX12_set_70 rfl rfl ?_
            refine m_aload_n C dX12_set_71 rfl rfl ?_
            refine g_22_2 C q4_118 dX12_set_72 ?_
            refine m_bipush (v := 40) C dX12_set_75 (by decide) ?_
            refine m_iload_n C dX12_set_77 rfl rfl ?_
            refine m_imul C dX12_set_78 ?_
            refine m_topi (fun x54 ex54 => ?_)
            have tx54 : x54.toInt = 40 * a1.toInt := by rw [ex54, ti_mulv kc_40 b14 (by decide), kt_40]
            have b55 : IV x54 0 280 := by rw [ex54]; exact iv_mul kc_40 b14 (by decide)
            refine m_iload_n C dX12_set_79 rfl rfl ?_
            refine m_iadd C dX12_set_80 ?_
            refine m_topi (fun x56 ex56 => ?_)
            have tx56 : x56.toInt = x54.toInt + a2.toInt := by rw [ex56, ti_addv b55 b36 (by decide)]
            have b57 : IV x56 0 319 := by rw [ex56]; exact iv_add b55 b36 (by decide)
            refine al_25 C b57 (by decide) rfl dX12_set_81 ?_
            refine m_topi (fun x58 ex58 => ?_)
            have q59 : x58.toInt = x44.toInt := by rw [ex58, show x56.toInt.toNat = (x39.toInt.toNat) by omega]; exact congrArg Int32.toInt (show gV τ51 25 0 (x39.toInt.toNat) = x44 from gV_put eτ51 (gV_self _ _ _ _ _))
            refine m_callV (n := 1) (ci := 11) (st := []) C (c_X12_fine l G τ51 (x58) i52 ) (by decide) (by decide) rfl rfl rfl q4_201 q4_198 q4_200 q0_27 q1_7 (by decide +kernel) rfl (by decide) (by decide) rfl (Nat.le_of_ble_eq_true rfl) dX12_set_82 ?_
            rintro _ τ60 ⟨x63, rfl, i61, f62, b64, h66⟩
            have g65 : Fr MS_X12_setE AS_X12_setE σ τ60 := Fr.call (f53) f62 (by decide)
            have q67 : (gV τ60 26 0 (a1.toInt.toNat)).toInt = (gV σ 26 0 (a1.toInt.toNat)).toInt := congrArg Int32.toInt (show (gV τ60 26 0 (a1.toInt.toNat)) = (gV σ 26 0 (a1.toInt.toNat)) from (show gV τ60 26 0 (a1.toInt.toNat) = (gV σ 26 0 (a1.toInt.toNat)) from (f62.1 26 0 ((a1.toInt.toNat)) (by simp) (by decide)).trans (show gV τ51 26 0 (a1.toInt.toNat) = (gV σ 26 0 (a1.toInt.toNat)) from gV_put eτ51 (show gV τ41 26 0 (a1.toInt.toNat) = (gV σ 26 0 (a1.toInt.toNat)) from (f43.1 26 0 ((a1.toInt.toNat)) (by simp) (by decide)).trans (show gV τ20 26 0 (a1.toInt.toNat) = (gV σ 26 0 (a1.toInt.toNat)) from (f22.1 26 0 ((a1.toInt.toNat)) (by simp) (by decide)).trans (show gV τ2 26 0 (a1.toInt.toNat) = (gV σ 26 0 (a1.toInt.toNat)) from (f4.1 26 0 ((a1.toInt.toNat)) (by simp) (by decide)).trans rfl))))))
            have q68 : (gV τ60 27 0 (a1.toInt.toNat)).toInt = (gV σ 27 0 (a1.toInt.toNat)).toInt := congrArg Int32.toInt (show (gV τ60 27 0 (a1.toInt.toNat)) = (gV σ 27 0 (a1.toInt.toNat)) from (show gV τ60 27 0 (a1.toInt.toNat) = (gV σ 27 0 (a1.toInt.toNat)) from (f62.1 27 0 ((a1.toInt.toNat)) (by simp) (by decide)).trans (show gV τ51 27 0 (a1.toInt.toNat) = (gV σ 27 0 (a1.toInt.toNat)) from gV_put eτ51 (show gV τ41 27 0 (a1.toInt.toNat) = (gV σ 27 0 (a1.toInt.toNat)) from (f43.1 27 0 ((a1.toInt.toNat)) (by simp) (by decide)).trans (show gV τ20 27 0 (a1.toInt.toNat) = (gV σ 27 0 (a1.toInt.toNat)) from (f22.1 27 0 ((a1.toInt.toNat)) (by simp) (by decide)).trans (show gV τ2 27 0 (a1.toInt.toNat) = (gV σ 27 0 (a1.toInt.toNat)) from (f4.1 27 0 ((a1.toInt.toNat)) (by simp) (by decide)).trans rfl))))))
            show MW p l e _ s m args below meth c _ 4 G 0 0 85 [some (.ref (G.1 22 0)), some (.int a1), some (.int a2), some (.int a3)] [.int x63] τ60
            exact m_iret C hr hlk (by decide) (by decide) dX12_set_85 ⟨_, rfl, i61, g65, b64, (Or.inr (Or.inr (Or.inr (⟨by omega, by omega, by omega, by omega, by omega⟩))))⟩
          · exfalso
            have q : _ := c34
            simp only [ti_nle, ti_nlt, ti_le, ti_lt, ti_eq, ti_ne, Classical.not_not, kt_0] at q
            have q1 := b33; have q2 := kc_0; omega
        · skip
          have b70 : IV x23 0 0 := ⟨by omega, by omega⟩
          show MW p l e _ s m args below meth c _ 4 G 0 0 40 [some (.ref (G.1 22 0)), some (.int a1), some (.int a2), some (.int a3)] [.int x23] τ20
          refine m_if_ne (tgt := 49) C dX12_set_40 (by decide) (fun c71 => ?_) (fun c71 => ?_)
          · exfalso
            have q : _ := c71
            simp only [ti_nle, ti_nlt, ti_le, ti_lt, ti_eq, ti_ne, Classical.not_not, kt_0] at q
            have q1 := b70; have q2 := kc_0; omega
          · have f73 : x23.toInt = 0 := by
              have q : _ := c71
              simp only [ti_nle, ti_nlt, ti_le, ti_lt, ti_eq, ti_ne, Classical.not_not, kt_0] at q
              omega
            refine m_aload_n C dX12_set_43 rfl rfl ?_
            refine m_iconst (v := 2) C dX12_set_44 (by decide) ?_
            refine m_callV (n := 1) (ci := 11) (st := []) C (c_X12_met l G τ20 (2) i21 (iv_wk kc_2 (by decide))) (by decide) (by decide) rfl rfl rfl q4_196 q4_193 q4_195 q0_26 q1_7 (by decide +kernel) rfl (by decide) (by decide) rfl (Nat.le_of_ble_eq_true rfl) dX12_set_45 ?_
            rintro _ τ74 ⟨x77, rfl, i75, f76, b78, h80⟩
            have g79 : Fr MS_X12_setE AS_X12_setE σ τ74 := Fr.call (g25) f76 (by decide)
            have q81 : (gV τ74 26 0 (a1.toInt.toNat)).toInt = (gV σ 26 0 (a1.toInt.toNat)).toInt := congrArg Int32.toInt (show (gV τ74 26 0 (a1.toInt.toNat)) = (gV σ 26 0 (a1.toInt.toNat)) from (show gV τ74 26 0 (a1.toInt.toNat) = (gV σ 26 0 (a1.toInt.toNat)) from (f76.1 26 0 ((a1.toInt.toNat)) (by simp) (by decide)).trans (show gV τ20 26 0 (a1.toInt.toNat) = (gV σ 26 0 (a1.toInt.toNat)) from (f22.1 26 0 ((a1.toInt.toNat)) (by simp) (by decide)).trans (show gV τ2 26 0 (a1.toInt.toNat) = (gV σ 26 0 (a1.toInt.toNat)) from (f4.1 26 0 ((a1.toInt.toNat)) (by simp) (by decide)).trans rfl))))
            have q82 : (gV τ74 27 0 (a1.toInt.toNat)).toInt = (gV σ 27 0 (a1.toInt.toNat)).toInt := congrArg Int32.toInt (show (gV τ74 27 0 (a1.toInt.toNat)) = (gV σ 27 0 (a1.toInt.toNat)) from (show gV τ74 27 0 (a1.toInt.toNat) = (gV σ 27 0 (a1.toInt.toNat)) from (f76.1 27 0 ((a1.toInt.toNat)) (by simp) (by decide)).trans (show gV τ20 27 0 (a1.toInt.toNat) = (gV σ 27 0 (a1.toInt.toNat)) from (f22.1 27 0 ((a1.toInt.toNat)) (by simp) (by decide)).trans (show gV τ2 27 0 (a1.toInt.toNat) = (gV σ 27 0 (a1.toInt.toNat)) from (f4.1 27 0 ((a1.toInt.toNat)) (by simp) (by decide)).trans rfl))))
            have q83 := kt_2
            show MW p l e _ s m args below meth c _ 4 G 0 0 48 [some (.ref (G.1 22 0)), some (.int a1), some (.int a2), some (.int a3)] [.int x77] τ74
            exact m_iret C hr hlk (by decide) (by decide) dX12_set_48 ⟨_, rfl, i75, g79, (iv_wk b78 (by decide)), (Or.inr (Or.inr (Or.inl ⟨by omega, by omega, by omega, by omega⟩)))⟩
      · have f84 : (gV σ 26 0 (a1.toInt.toNat)).toInt < 0 := by
          have q : _ := c15
          simp only [ti_nle, ti_nlt, ti_le, ti_lt, ti_eq, ti_ne, Classical.not_not, kt_0] at q
          omega
        have b85 : IV (gV σ 26 0 (a1.toInt.toNat)) (-2147483648) (-1) := ⟨by have q1 := (iv_any (gV σ 26 0 (a1.toInt.toNat))); have q2 := kc_0; omega, by have q1 := (iv_any (gV σ 26 0 (a1.toInt.toNat))); have q2 := kc_0; omega⟩
        refine m_aload_n C dX12_set_19 rfl rfl ?_
        refine m_iconst (v := 1) C dX12_set_20 (by decide) ?_
        refine m_callV (n := 1) (ci := 11) (st := []) C (c_X12_met l G τ2 (1) i3 (iv_wk kc_1 (by decide))) (by decide) (by decide) rfl rfl rfl q4_196 q4_193 q4_195 q0_26 q1_7 (by decide +kernel) rfl (by decide) (by decide) rfl (Nat.le_of_ble_eq_true rfl) dX12_set_21 ?_
        rintro _ τ86 ⟨x89, rfl, i87, f88, b90, h92⟩
        have g91 : Fr MS_X12_setE AS_X12_setE σ τ86 := Fr.call (g7) f88 (by decide)
        have q93 : (gV τ86 26 0 (a1.toInt.toNat)).toInt = (gV σ 26 0 (a1.toInt.toNat)).toInt := congrArg Int32.toInt (show (gV τ86 26 0 (a1.toInt.toNat)) = (gV σ 26 0 (a1.toInt.toNat)) from (show gV τ86 26 0 (a1.toInt.toNat) = (gV σ 26 0 (a1.toInt.toNat)) from (f88.1 26 0 ((a1.toInt.toNat)) (by simp) (by decide)).trans (show gV τ2 26 0 (a1.toInt.toNat) = (gV σ 26 0 (a1.toInt.toNat)) from (f4.1 26 0 ((a1.toInt.toNat)) (by simp) (by decide)).trans rfl)))
        have q94 : (gV τ86 27 0 (a1.toInt.toNat)).toInt = (gV σ 27 0 (a1.toInt.toNat)).toInt := congrArg Int32.toInt (show (gV τ86 27 0 (a1.toInt.toNat)) = (gV σ 27 0 (a1.toInt.toNat)) from (show gV τ86 27 0 (a1.toInt.toNat) = (gV σ 27 0 (a1.toInt.toNat)) from (f88.1 27 0 ((a1.toInt.toNat)) (by simp) (by decide)).trans (show gV τ2 27 0 (a1.toInt.toNat) = (gV σ 27 0 (a1.toInt.toNat)) from (f4.1 27 0 ((a1.toInt.toNat)) (by simp) (by decide)).trans rfl)))
        have q95 := kt_1
        show MW p l e _ s m args below meth c _ 4 G 0 0 24 [some (.ref (G.1 22 0)), some (.int a1), some (.int a2), some (.int a3)] [.int x89] τ86
        exact m_iret C hr hlk (by decide) (by decide) dX12_set_24 ⟨_, rfl, i87, g91, (iv_wk b90 (by decide)), (Or.inr (Or.inl ⟨by omega, by omega, by omega⟩))⟩
    · exfalso
      have q : _ := c12
      simp only [ti_nle, ti_nlt, ti_le, ti_lt, ti_eq, ti_ne, Classical.not_not, kt_0] at q
      have q1 := b11; have q2 := kc_0; omega
  · skip
    have b97 : IV x5 0 0 := ⟨by omega, by omega⟩
    show MW p l e _ s m args below meth c _ 4 G 0 0 4 [some (.ref (G.1 22 0)), some (.int a1), some (.int a2), some (.int a3)] [.int x5] τ2
    refine m_if_ne (tgt := 10) C dX12_set_4 (by decide) (fun c98 => ?_) (fun c98 => ?_)
    · exfalso
      have q : _ := c98
      simp only [ti_nle, ti_nlt, ti_le, ti_lt, ti_eq, ti_ne, Classical.not_not, kt_0] at q
      have q1 := b97; have q2 := kc_0; omega
    · have f100 : x5.toInt = 0 := by
        have q : _ := c98
        simp only [ti_nle, ti_nlt, ti_le, ti_lt, ti_eq, ti_ne, Classical.not_not, kt_0] at q
        omega
      refine m_ldc (v := (-1000001)) C dX12_set_7 q4_192 ?_
      exact m_iret C hr hlk (by decide) (by decide) dX12_set_9 ⟨_, rfl, i3, g7, (iv_wk kc_m1000001 (by decide)), (Or.inl ⟨by have q := kt_m1000001; omega, by have q := kt_m1000001; omega⟩)⟩
