/-! ===== the rows and the tape of both, held against each other ===== -/
def cutF (l v : Int32) : Int32 := if l.toInt = 0 then v.toInt8.toInt32 else if l.toInt = 1 then v.toInt16.toInt32 else v
/-- row j has this lane and length now, the others have theirs -/
def BG (σ τ : Sg) (j : Nat) (l n : Int32) : Prop := gV τ 20 j 1 = l ∧ gV τ 20 j 2 = n ∧ ∀ j', j' ≠ j → gV τ 20 j' 1 = gV σ 20 j' 1 ∧ gV τ 20 j' 2 = gV σ 20 j' 2
def SameR (σ τ : Sg) : Prop := ∀ j k, gV τ 20 j k = gV σ 20 j k
theorem BG.mk {σ τ1 τ2 : Sg} {j : Nat} {l n : Int32} (e1 : τ1 = sV σ 20 j 1 l) (e2 : τ2 = sV τ1 20 j 2 n) : BG σ τ2 j l n := by
  subst e1; subst e2
  refine ⟨?_, gV_self _ _ _ _ _, fun j' h => ⟨?_, ?_⟩⟩
  · rw [gV_ne (Or.inr (Or.inr (by decide))), gV_self]
  · rw [gV_ne (Or.inr (Or.inl h)), gV_ne (Or.inr (Or.inl h))]
  · rw [gV_ne (Or.inr (Or.inl h)), gV_ne (Or.inr (Or.inl h))]
theorem BG.then {σ τ υ : Sg} {j : Nat} {l n : Int32} (h : BG σ τ j l n) (e : ∀ j k, gV υ 20 j k = gV τ 20 j k) : BG σ υ j l n := ⟨(e _ _).trans h.1, (e _ _).trans h.2.1, fun j' hj => ⟨(e _ _).trans (h.2.2 j' hj).1, (e _ _).trans (h.2.2 j' hj).2⟩⟩
theorem BG.from {σ τ υ : Sg} {j : Nat} {l n : Int32} (h : BG τ υ j l n) (e : ∀ j k, gV τ 20 j k = gV σ 20 j k) : BG σ υ j l n := ⟨h.1, h.2.1, fun j' hj => ⟨(h.2.2 j' hj).1.trans (e _ _), (h.2.2 j' hj).2.trans (e _ _)⟩⟩
/-- the reference's lane and size of row r -/
def LU (σ τ : Sg) (r : Nat) (l n : Int32) : Prop := gV τ 26 0 r = l ∧ gV τ 27 0 r = n ∧ ∀ k, k ≠ r → gV τ 26 0 k = gV σ 26 0 k ∧ gV τ 27 0 k = gV σ 27 0 k
def LD (σ τ : Sg) (r : Nat) : Prop := gV τ 26 0 r = -1 ∧ (∀ k, k ≠ r → gV τ 26 0 k = gV σ 26 0 k) ∧ ∀ k, gV τ 27 0 k = gV σ 27 0 k
def SameL (σ τ : Sg) : Prop := ∀ k, gV τ 26 0 k = gV σ 26 0 k ∧ gV τ 27 0 k = gV σ 27 0 k
theorem LU.mk {σ τ τ1 τ2 : Sg} {r : Nat} {l n : Int32} (e0 : SameL σ τ) (e1 : τ1 = sV τ 26 0 r l) (e2 : τ2 = sV τ1 27 0 r n) : LU σ τ2 r l n := by
  subst e1; subst e2
  refine ⟨?_, gV_self _ _ _ _ _, fun k h => ⟨?_, ?_⟩⟩
  · rw [gV_ne (Or.inl (by decide)), gV_self]
  · rw [gV_ne (Or.inr (Or.inr h)), gV_ne (Or.inr (Or.inr h))]; exact (e0 k).1
  · rw [gV_ne (Or.inr (Or.inr h)), gV_ne (Or.inr (Or.inr h))]; exact (e0 k).2
theorem LD.mk {σ τ τ1 : Sg} {r : Nat} (e0 : SameL σ τ) (e1 : τ1 = sV τ 26 0 r (-1)) : LD σ τ1 r := by
  subst e1
  refine ⟨gV_self _ _ _ _ _, fun k h => ?_, fun k => ?_⟩
  · rw [gV_ne (Or.inr (Or.inr h))]; exact (e0 k).1
  · rw [gV_ne (Or.inl (by decide))]; exact (e0 k).2
theorem LU.then {σ τ υ : Sg} {r : Nat} {l n : Int32} (h : LU σ τ r l n) (e : SameL τ υ) : LU σ υ r l n := ⟨(e _).1.trans h.1, (e _).2.trans h.2.1, fun k hk => ⟨(e _).1.trans (h.2.2 k hk).1, (e _).2.trans (h.2.2 k hk).2⟩⟩
theorem LD.then {σ τ υ : Sg} {r : Nat} (h : LD σ τ r) (e : SameL τ υ) : LD σ υ r := ⟨(e _).1.trans h.1, fun k hk => (e _).1.trans (h.2.1 k hk), fun k => (e _).2.trans (h.2.2 k)⟩
theorem SameL.put {σ τ τ' : Sg} {t j k : Nat} {v : Int32} (h : SameL σ τ) (e : τ' = sV τ t j k v) (h1 : t ≠ 26) (h2 : t ≠ 27) : SameL σ τ' := fun q => ⟨(gV_putn e (Or.inl (Ne.symm h1))).trans (h q).1, (gV_putn e (Or.inl (Ne.symm h2))).trans (h q).2⟩
theorem SameL.rf {σ : Sg} : SameL σ σ := fun _ => ⟨rfl, rfl⟩
theorem SameL.fr {M : List (Nat × Nat)} {A : List Nat} {σ τ υ : Sg} (h : SameL σ τ) (f : Fr M A τ υ) (hm : ∀ k, (26, k) ∉ M ∧ (27, k) ∉ M) (ha : 26 ∉ A ∧ 27 ∉ A) : SameL σ υ := fun q => ⟨(f.1 26 0 q (hm q).1 ha.1).trans (h q).1, (f.1 27 0 q (hm q).2 ha.2).trans (h q).2⟩
theorem SameR.fr {M : List (Nat × Nat)} {A : List Nat} {σ τ υ : Sg} (h : SameR σ τ) (f : Fr M A τ υ) (hm : ∀ k, (20, k) ∉ M) (ha : 20 ∉ A) : SameR σ υ := fun j q => (f.1 20 j q (hm q) ha).trans (h j q)
theorem SameR.rf {σ : Sg} : SameR σ σ := fun _ _ => rfl
theorem SameR.put {σ τ τ' : Sg} {t j k : Nat} {v : Int32} (h : SameR σ τ) (e : τ' = sV τ t j k v) (h1 : t ≠ 20) : SameR σ τ' := fun q i => (gV_putn e (Or.inl (Ne.symm h1))).trans (h q i)
/-- the rows of both are alike, and the tapes as long -/
def Rel (σ : Sg) : Prop := (∀ r, r < 8 → gV σ 20 r 1 = gV σ 26 0 r ∧ -1 ≤ (gV σ 26 0 r).toInt ∧ (0 ≤ (gV σ 26 0 r).toInt → gV σ 20 r 2 = gV σ 27 0 r)) ∧ gV σ 12 0 1 = gV σ 22 0 6
/-- all that the relation speaks of is as it was -/
def SameA (σ τ : Sg) : Prop := SameR σ τ ∧ SameL σ τ ∧ gV τ 12 0 1 = gV σ 12 0 1 ∧ gV τ 22 0 6 = gV σ 22 0 6
theorem SameA.fr {M : List (Nat × Nat)} {A : List Nat} {σ τ : Sg} (f : Fr M A σ τ) (hm : (M.all fun q => q.1 != 20 && q.1 != 26 && q.1 != 27 && q != (12, 1) && q != (22, 6)) = true) (ha : (A.all fun q => q != 20 && q != 26 && q != 27 && q != 12 && q != 22) = true) : SameA σ τ := by
  have hm' : ∀ q ∈ M, q.1 ≠ 20 ∧ q.1 ≠ 26 ∧ q.1 ≠ 27 ∧ q ≠ (12, 1) ∧ q ≠ (22, 6) := fun q hq => by
    have := List.all_eq_true.mp hm q hq
    simpa [and_assoc] using this
  have ha' : ∀ q ∈ A, q ≠ 20 ∧ q ≠ 26 ∧ q ≠ 27 ∧ q ≠ 12 ∧ q ≠ 22 := fun q hq => by
    have := List.all_eq_true.mp ha q hq
    simpa [and_assoc] using this
  refine ⟨fun j k => f.1 20 j k (fun h => (hm' _ h).1 rfl) (fun h => (ha' _ h).1 rfl), fun k => ⟨f.1 26 0 k (fun h => (hm' _ h).2.1 rfl) (fun h => (ha' _ h).2.1 rfl), f.1 27 0 k (fun h => (hm' _ h).2.2.1 rfl) (fun h => (ha' _ h).2.2.1 rfl)⟩, f.1 12 0 1 (fun h => (hm' _ h).2.2.2.1 rfl) (fun h => (ha' _ h).2.2.2.1 rfl), f.1 22 0 6 (fun h => (hm' _ h).2.2.2.2 rfl) (fun h => (ha' _ h).2.2.2.2 rfl)⟩
theorem Rel.same {σ τ : Sg} (h : Rel σ) (e : SameA σ τ) : Rel τ := by
  refine ⟨fun r hr => ?_, ?_⟩
  · rw [e.1, e.1, (e.2.1 r).1, (e.2.1 r).2]
    exact h.1 r hr
  · rw [e.2.2.1, e.2.2.2]
    exact h.2
theorem Rel.call {M : List (Nat × Nat)} {A : List Nat} {σ τ : Sg} (h : Rel σ) (f : Fr M A σ τ) (hm : (M.all fun q => q.1 != 20 && q.1 != 26 && q.1 != 27 && q != (12, 1) && q != (22, 6)) = true) (ha : (A.all fun q => q != 20 && q != 26 && q != 27 && q != 12 && q != 22) = true) : Rel τ := h.same (SameA.fr f hm ha)
theorem Rel.begin {σ τ υ : Sg} {r : Nat} {l n : Int32} (h : Rel σ) (b : BG σ τ r l n) (u : LU τ υ r l n) (e1 : SameL σ τ) (e2 : SameR τ υ) (h1 : gV υ 12 0 1 = gV σ 12 0 1) (h2 : gV υ 22 0 6 = gV σ 22 0 6) (hl : -1 ≤ l.toInt) : Rel υ := by
  refine ⟨fun q hq => ?_, by rw [h1, h2]; exact h.2⟩
  rw [e2, e2]
  by_cases g : q = r
  · subst g
    rw [b.1, b.2.1, u.1, u.2.1]
    exact ⟨rfl, hl, fun _ => rfl⟩
  · rw [(b.2.2 q g).1, (b.2.2 q g).2, (u.2.2 q g).1, (u.2.2 q g).2, (e1 q).1, (e1 q).2]
    exact h.1 q hq
theorem Rel.drop {σ τ υ : Sg} {r : Nat} (h : Rel σ) (b : BG σ τ r (-1) 0) (u : LD τ υ r) (e1 : SameL σ τ) (e2 : SameR τ υ) (h1 : gV υ 12 0 1 = gV σ 12 0 1) (h2 : gV υ 22 0 6 = gV σ 22 0 6) : Rel υ := by
  refine ⟨fun q hq => ?_, by rw [h1, h2]; exact h.2⟩
  rw [e2, e2]
  by_cases g : q = r
  · subst g
    rw [b.1, u.1]
    exact ⟨rfl, by decide, fun c => absurd c (by decide)⟩
  · rw [(b.2.2 q g).1, (b.2.2 q g).2, u.2.1 q g, u.2.2 q, (e1 q).1, (e1 q).2]
    exact h.1 q hq
theorem Rel.tape {σ υ : Sg} (h : Rel σ) (e1 : SameR σ υ) (e2 : SameL σ υ) (e3 : (gV υ 12 0 1).toInt = (gV υ 22 0 6).toInt) : Rel υ := by
  refine ⟨fun r hr => ?_, Int32.toInt_inj.mp e3⟩
  rw [e1, e1, (e2 r).1, (e2 r).2]
  exact h.1 r hr
abbrev MS_X7_isMissingE : List (Nat × Nat) := []
abbrev AS_X7_isMissingE : List Nat := []
set_option maxHeartbeats 4000000 in
set_option maxRecDepth 100000 in
theorem c_X7_isMissingE (l : Launch) (G : Gt) (σ : Sg) {j : Nat} (hj : j < 8) (hI : Inv σ) : Mc l G yX7_isMissing cX7_isMissing 1 (some .boolean) 0 0 0 0 [.ref (G.1 20 j)] σ (PI fun r τ => Inv τ ∧ Fr MS_X7_isMissingE AS_X7_isMissingE σ τ ∧ IV r 0 1 ∧ ((r.toInt = 1 ∧ (gV σ 20 j 1).toInt = -1) ∨ (r.toInt = 0 ∧ (gV σ 20 j 1).toInt ≠ -1))) := by
  refine Mc.of (L0 := [some (.ref (G.1 20 j))]) (by decide) (Nat.le_of_ble_eq_true rfl) rfl ?_
  intro p e s m args below meth c C hr hlk
  have C : Cx p s m args c cX7_isMissing 1 "LeanTower$Row" := C
  have k0 : (0 : Int32).toInt = 0 := by decide
  have k1 : (1 : Int32).toInt = 1 := by decide
  refine m_aload_n C dX7_isMissing_0 rfl rfl ?_
  refine g_20_1 C hj q1_174 dX7_isMissing_1 ?_
  refine m_eqs (w := (gV σ 20 j 1)) rfl ?_
  refine m_iconst (v := (-1)) C dX7_isMissing_4 (by decide) ?_
  refine m_icmp_ne (tgt := 12) C dX7_isMissing_5 (by decide) (fun c1 => ?_) (fun c1 => ?_)
  · have f2 : (gV σ 20 j 1).toInt ≠ -1 := by
      have q : _ := c1
      simp only [ti_nle, ti_nlt, ti_le, ti_lt, ti_eq, ti_ne, Classical.not_not, kt_m1] at q
      omega
    refine m_iconst (v := 0) C dX7_isMissing_12 (by decide) ?_
    exact m_zret C hr rfl hlk (by decide) (by decide) dX7_isMissing_13 ⟨_, rfl, hI, Fr.rf, (iv_wk kc_0 (by decide)), (by omega)⟩
  · have f3 : (gV σ 20 j 1).toInt = -1 := by
      have q : _ := c1
      simp only [ti_nle, ti_nlt, ti_le, ti_lt, ti_eq, ti_ne, Classical.not_not, kt_m1] at q
      omega
    have b4 : IV (gV σ 20 j 1) (-1) (-1) := ⟨by have q1 := (iv_any (gV σ 20 j 1)); have q2 := kc_m1; omega, by have q1 := (iv_any (gV σ 20 j 1)); have q2 := kc_m1; omega⟩
    refine m_iconst (v := 1) C dX7_isMissing_8 (by decide) ?_
    refine m_goto (tgt := 13) C dX7_isMissing_9 (by decide) ?_
    exact m_zret C hr rfl hlk (by decide) (by decide) dX7_isMissing_13 ⟨_, rfl, hI, Fr.rf, (iv_wk kc_1 (by decide)), (by omega)⟩

abbrev MS_X7_reachesE : List (Nat × Nat) := []
abbrev AS_X7_reachesE : List Nat := []
set_option maxHeartbeats 4000000 in
set_option maxRecDepth 100000 in
theorem c_X7_reachesE (l : Launch) (G : Gt) (σ : Sg) {j : Nat} (hj : j < 8) (a1 : Int32) (a2 : Int32) (hI : Inv σ) : Mc l G yX7_reaches cX7_reaches 3 (some .boolean) 0 0 0 0 [.ref (G.1 20 j), .int a1, .int a2] σ (PI fun r τ => Inv τ ∧ Fr MS_X7_reachesE AS_X7_reachesE σ τ ∧ IV r 0 1 ∧ ((r.toInt = 1 ∧ 0 ≤ a1.toInt ∧ 0 ≤ a2.toInt ∧ a1.toInt + a2.toInt ≤ (gV σ 20 j 2).toInt) ∨ (r.toInt = 0 ∧ (a1.toInt < 0 ∨ a2.toInt < 0 ∨ (gV σ 20 j 2).toInt < a1.toInt + a2.toInt)))) := by
  refine Mc.of (L0 := [some (.ref (G.1 20 j)), some (.int a1), some (.int a2)]) (by decide) (Nat.le_of_ble_eq_true rfl) rfl ?_
  intro p e s m args below meth c C hr hlk
  have C : Cx p s m args c cX7_reaches 3 "LeanTower$Row" := C
  have k0 : (0 : Int32).toInt = 0 := by decide
  have k1 : (1 : Int32).toInt = 1 := by decide
  have u1 : IV (gV σ 20 j 2) 0 40 := hI.1 20 j 2
  refine m_iload_n C dX7_reaches_0 rfl rfl ?_
  refine m_if_lt (tgt := 30) C dX7_reaches_1 (by decide) (fun c2 => ?_) (fun c2 => ?_)
  · have f3 : a1.toInt < 0 := by
      have q : _ := c2
      simp only [ti_nle, ti_nlt, ti_le, ti_lt, ti_eq, ti_ne, Classical.not_not, kt_0] at q
      omega
    have b4 : IV a1 (-2147483648) (-1) := ⟨by have q1 := (iv_any a1); have q2 := kc_0; omega, by have q1 := (iv_any a1); have q2 := kc_0; omega⟩
    refine m_iconst (v := 0) C dX7_reaches_30 (by decide) ?_
    exact m_zret C hr rfl hlk (by decide) (by decide) dX7_reaches_31 ⟨_, rfl, hI, Fr.rf, (iv_wk kc_0 (by decide)), (by omega)⟩
  · have f5 : 0 ≤ a1.toInt := by
      have q : _ := c2
      simp only [ti_nle, ti_nlt, ti_le, ti_lt, ti_eq, ti_ne, Classical.not_not, kt_0] at q
      omega
    have b6 : IV a1 0 2147483647 := ⟨by have q1 := kc_0; have q2 := (iv_any a1); omega, by have q1 := kc_0; have q2 := (iv_any a1); omega⟩
    refine m_iload_n C dX7_reaches_4 rfl rfl ?_
    refine m_if_lt (tgt := 30) C dX7_reaches_5 (by decide) (fun c7 => ?_) (fun c7 => ?_)
    · have f8 : a2.toInt < 0 := by
        have q : _ := c7
        simp only [ti_nle, ti_nlt, ti_le, ti_lt, ti_eq, ti_ne, Classical.not_not, kt_0] at q
        omega
      have b9 : IV a2 (-2147483648) (-1) := ⟨by have q1 := (iv_any a2); have q2 := kc_0; omega, by have q1 := (iv_any a2); have q2 := kc_0; omega⟩
      refine m_iconst (v := 0) C dX7_reaches_30 (by decide) ?_
      exact m_zret C hr rfl hlk (by decide) (by decide) dX7_reaches_31 ⟨_, rfl, hI, Fr.rf, (iv_wk kc_0 (by decide)), (by omega)⟩
    · have f10 : 0 ≤ a2.toInt := by
        have q : _ := c7
        simp only [ti_nle, ti_nlt, ti_le, ti_lt, ti_eq, ti_ne, Classical.not_not, kt_0] at q
        omega
      have b11 : IV a2 0 2147483647 := ⟨by have q1 := kc_0; have q2 := (iv_any a2); omega, by have q1 := kc_0; have q2 := (iv_any a2); omega⟩
      refine m_iload_n C dX7_reaches_8 rfl rfl ?_
      refine m_aload_n C dX7_reaches_9 rfl rfl ?_
      refine g_20_2 C hj q1_176 dX7_reaches_10 ?_
      refine m_eqs (w := (gV σ 20 j 2)) rfl ?_
      refine m_icmp_gt (tgt := 30) C dX7_reaches_13 (by decide) (fun c12 => ?_) (fun c12 => ?_)
      · have f13 : (gV σ 20 j 2).toInt < a1.toInt := by
          have q : _ := c12
          simp only [ti_nle, ti_nlt, ti_le, ti_lt, ti_eq, ti_ne, Classical.not_not] at q
          omega
        have b14 : IV a1 1 2147483647 := ⟨by have q1 := u1; have q2 := b6; omega, by have q1 := u1; have q2 := b6; omega⟩
        refine m_iconst (v := 0) C dX7_reaches_30 (by decide) ?_
        exact m_zret C hr rfl hlk (by decide) (by decide) dX7_reaches_31 ⟨_, rfl, hI, Fr.rf, (iv_wk kc_0 (by decide)), (by omega)⟩
      · have f15 : a1.toInt ≤ (gV σ 20 j 2).toInt := by
          have q : _ := c12
          simp only [ti_nle, ti_nlt, ti_le, ti_lt, ti_eq, ti_ne, Classical.not_not] at q
          omega
        have b16 : IV a1 0 40 := ⟨by have q1 := b6; have q2 := u1; omega, by have q1 := b6; have q2 := u1; omega⟩
        refine m_iload_n C dX7_reaches_16 rfl rfl ?_
        refine m_aload_n C dX7_reaches_17 rfl rfl ?_
        refine g_20_2 C hj q1_176 dX7_reaches_18 ?_
        refine m_eqs (w := (gV σ 20 j 2)) rfl ?_
        refine m_iload_n C dX7_reaches_21 rfl rfl ?_
        refine m_isub C dX7_reaches_22 ?_
        refine m_topi (fun x17 ex17 => ?_)
        have tx17 : x17.toInt = (gV σ 20 j 2).toInt - a1.toInt := by rw [ex17, ti_subv u1 b16 (by decide)]
        have b18 : IV x17 (-40) 40 := by rw [ex17]; exact iv_sub u1 b16 (by decide)
        refine m_icmp_gt (tgt := 30) C dX7_reaches_23 (by decide) (fun c19 => ?_) (fun c19 => ?_)
        · have f20 : x17.toInt < a2.toInt := by
            have q : _ := c19
            simp only [ti_nle, ti_nlt, ti_le, ti_lt, ti_eq, ti_ne, Classical.not_not] at q
            omega
          refine m_iconst (v := 0) C dX7_reaches_30 (by decide) ?_
          exact m_zret C hr rfl hlk (by decide) (by decide) dX7_reaches_31 ⟨_, rfl, hI, Fr.rf, (iv_wk kc_0 (by decide)), (by omega)⟩
        · have f21 : a2.toInt ≤ x17.toInt := by
            have q : _ := c19
            simp only [ti_nle, ti_nlt, ti_le, ti_lt, ti_eq, ti_ne, Classical.not_not] at q
            omega
          have b22 : IV a2 0 40 := ⟨by have q1 := b11; have q2 := b18; omega, by have q1 := b11; have q2 := b18; omega⟩
          have b23 : IV x17 0 40 := ⟨by have q1 := b11; have q2 := b18; omega, by have q1 := b11; have q2 := b18; omega⟩
          refine m_iconst (v := 1) C dX7_reaches_26 (by decide) ?_
          refine m_goto (tgt := 31) C dX7_reaches_27 (by decide) ?_
          exact m_zret C hr rfl hlk (by decide) (by decide) dX7_reaches_31 ⟨_, rfl, hI, Fr.rf, (iv_wk kc_1 (by decide)), (by omega)⟩

abbrev MS_X7_narrowedE : List (Nat × Nat) := []
abbrev AS_X7_narrowedE : List Nat := []
set_option maxHeartbeats 4000000 in
set_option maxRecDepth 100000 in
theorem c_X7_narrowedE (l : Launch) (G : Gt) (σ : Sg) {j : Nat} (hj : j < 8) (a1 : Int32) (hI : Inv σ) : Mc l G yX7_narrowed cX7_narrowed 2 (some .int) 0 0 0 0 [.ref (G.1 20 j), .int a1] σ (PI fun r τ => Inv τ ∧ Fr MS_X7_narrowedE AS_X7_narrowedE σ τ ∧ IV r (-2147483648) 2147483647 ∧ r = cutF (gV σ 20 j 1) a1) := by
  refine Mc.of (L0 := [some (.ref (G.1 20 j)), some (.int a1)]) (by decide) (Nat.le_of_ble_eq_true rfl) rfl ?_
  intro p e s m args below meth c C hr hlk
  have C : Cx p s m args c cX7_narrowed 2 "LeanTower$Row" := C
  have k0 : (0 : Int32).toInt = 0 := by decide
  have k1 : (1 : Int32).toInt = 1 := by decide
  refine m_aload_n C dX7_narrowed_0 rfl rfl ?_
  refine g_20_1 C hj q1_174 dX7_narrowed_1 ?_
  refine m_eqs (w := (gV σ 20 j 1)) rfl ?_
  by_cases s1 : (gV σ 20 j 1).toInt = 0
  · refine m_lookup (tgt := 32) (off := 28) C dX7_narrowed_4 rfl (by rw [s1]; rfl) (by decide) ?_
    refine m_iload_n C dX7_narrowed_32 rfl rfl ?_
    refine m_i2b C dX7_narrowed_33 ?_
    refine m_topi (fun x2 ex2 => ?_)
    exact m_iret C hr hlk (by decide) (by decide) dX7_narrowed_34 ⟨_, rfl, hI, Fr.rf, (iv_any x2), (by unfold cutF; first | (rw [if_pos (by omega)]; exact ex2) | (rw [if_neg (by omega), if_pos (by omega)]; exact ex2))⟩
  by_cases s3 : (gV σ 20 j 1).toInt = 1
  · refine m_lookup (tgt := 35) (off := 31) C dX7_narrowed_4 rfl (by rw [s3]; rfl) (by decide) ?_
    refine m_iload_n C dX7_narrowed_35 rfl rfl ?_
    refine m_i2s C dX7_narrowed_36 ?_
    refine m_topi (fun x4 ex4 => ?_)
    exact m_iret C hr hlk (by decide) (by decide) dX7_narrowed_37 ⟨_, rfl, hI, Fr.rf, (iv_any x4), (by unfold cutF; first | (rw [if_pos (by omega)]; exact ex4) | (rw [if_neg (by omega), if_pos (by omega)]; exact ex4))⟩
  refine m_lookup (tgt := 38) (off := 34) C dX7_narrowed_4 rfl (by simp [Op.lookupswitch.offset, Ne.symm s1, Ne.symm s3]) (by decide) ?_
  refine m_iload_n C dX7_narrowed_38 rfl rfl ?_
  exact m_iret C hr hlk (by decide) (by decide) dX7_narrowed_39 ⟨_, rfl, hI, Fr.rf, (iv_any a1), (by unfold cutF; rw [if_neg (by omega), if_neg (by omega)])⟩

abbrev MS_X12_cutE : List (Nat × Nat) := []
abbrev AS_X12_cutE : List Nat := []
set_option maxHeartbeats 4000000 in
set_option maxRecDepth 100000 in
theorem c_X12_cutE (l : Launch) (G : Gt) (σ : Sg) (a1 : Int32) (a2 : Int32) (hI : Inv σ) : Mc l G yX12_cut cX12_cut 2 (some .int) 0 0 0 0 [.int a1, .int a2] σ (PI fun r τ => Inv τ ∧ Fr MS_X12_cutE AS_X12_cutE σ τ ∧ IV r (-2147483648) 2147483647 ∧ r = cutF a1 a2) := by
  refine Mc.of (L0 := [some (.int a1), some (.int a2)]) (by decide) (Nat.le_of_ble_eq_true rfl) rfl ?_
  intro p e s m args below meth c C hr hlk
  have C : Cx p s m args c cX12_cut 2 "LeanTowerModel" := C
  have k0 : (0 : Int32).toInt = 0 := by decide
  have k1 : (1 : Int32).toInt = 1 := by decide
  refine m_iload_n C dX12_cut_0 rfl rfl ?_
  refine m_if_ne (tgt := 9) C dX12_cut_1 (by decide) (fun c1 => ?_) (fun c1 => ?_)
  · have f2 : a1.toInt ≠ 0 := by
      have q : _ := c1
      simp only [ti_nle, ti_nlt, ti_le, ti_lt, ti_eq, ti_ne, Classical.not_not, kt_0] at q
      omega
    refine m_iload_n C dX12_cut_9 rfl rfl ?_
    refine m_iconst (v := 1) C dX12_cut_10 (by decide) ?_
    refine m_icmp_ne (tgt := 19) C dX12_cut_11 (by decide) (fun c3 => ?_) (fun c3 => ?_)
    · have f4 : a1.toInt ≠ 1 := by
        have q : _ := c3
        simp only [ti_nle, ti_nlt, ti_le, ti_lt, ti_eq, ti_ne, Classical.not_not, kt_1] at q
        omega
      refine m_iload_n C dX12_cut_19 rfl rfl ?_
      exact m_iret C hr hlk (by decide) (by decide) dX12_cut_20 ⟨_, rfl, hI, Fr.rf, (iv_any a2), (by unfold cutF; rw [if_neg (by omega), if_neg (by omega)])⟩
    · have f5 : a1.toInt = 1 := by
        have q : _ := c3
        simp only [ti_nle, ti_nlt, ti_le, ti_lt, ti_eq, ti_ne, Classical.not_not, kt_1] at q
        omega
      have b6 : IV a1 1 1 := ⟨by have q1 := (iv_any a1); have q2 := kc_1; omega, by have q1 := (iv_any a1); have q2 := kc_1; omega⟩
      refine m_iload_n C dX12_cut_14 rfl rfl ?_
      refine m_i2s C dX12_cut_15 ?_
      refine m_topi (fun x7 ex7 => ?_)
      refine m_goto (tgt := 20) C dX12_cut_16 (by decide) ?_
      exact m_iret C hr hlk (by decide) (by decide) dX12_cut_20 ⟨_, rfl, hI, Fr.rf, (iv_any x7), (by unfold cutF; first | (rw [if_pos (by omega)]; exact ex7) | (rw [if_neg (by omega), if_pos (by omega)]; exact ex7))⟩
  · have f8 : a1.toInt = 0 := by
      have q : _ := c1
      simp only [ti_nle, ti_nlt, ti_le, ti_lt, ti_eq, ti_ne, Classical.not_not, kt_0] at q
      omega
    have b9 : IV a1 0 0 := ⟨by have q1 := (iv_any a1); have q2 := kc_0; omega, by have q1 := (iv_any a1); have q2 := kc_0; omega⟩
    refine m_iload_n C dX12_cut_4 rfl rfl ?_
    refine m_i2b C dX12_cut_5 ?_
    refine m_topi (fun x10 ex10 => ?_)
    refine m_goto (tgt := 20) C dX12_cut_6 (by decide) ?_
    exact m_iret C hr hlk (by decide) (by decide) dX12_cut_20 ⟨_, rfl, hI, Fr.rf, (iv_any x10), (by unfold cutF; first | (rw [if_pos (by omega)]; exact ex10) | (rw [if_neg (by omega), if_pos (by omega)]; exact ex10))⟩

abbrev MS_X7_beginE : List (Nat × Nat) := [(20, 1), (20, 2)]
abbrev AS_X7_beginE : List Nat := [21]
set_option maxHeartbeats 4000000 in
set_option maxRecDepth 100000 in
theorem c_X7_beginE (l : Launch) (G : Gt) (σ : Sg) {j : Nat} (hj : j < 8) (a1 : Int32) (a2 : Int32) (hI : Inv σ) (ha2 : IV a2 0 40) : Mc l G yX7_begin cX7_begin 4 none 0 0 0 0 [.ref (G.1 20 j), .int a1, .int a2] σ (PV fun τ => Inv τ ∧ Fr MS_X7_beginE AS_X7_beginE σ τ ∧ BG σ τ j a1 a2) := by
  refine Mc.of (L0 := [some (.ref (G.1 20 j)), some (.int a1), some (.int a2), none]) (by decide) (Nat.le_of_ble_eq_true rfl) rfl ?_
  intro p e s m args below meth c C hr hlk
  have C : Cx p s m args c cX7_begin 4 "LeanTower$Row" := C
  have k0 : (0 : Int32).toInt = 0 := by decide
  have k1 : (1 : Int32).toInt = 1 := by decide
  have J12 : ∀ (n : Nat) (τ : Sg) (y3 : Int32), Inv τ → Fr MS_X7_beginE AS_X7_beginE σ τ → IV a1 (-2147483648) 2147483647 → IV a2 0 40 → IV y3 0 40 → (BG σ τ j a1 a2) → (40 - y3.toInt).toNat < n → MW p l e { frames := 0, cells := 0, slots := 0, locals := 0 } s m args below meth c (MQ below (QP G (PV fun τ => Inv τ ∧ Fr MS_X7_beginE AS_X7_beginE σ τ ∧ BG σ τ j a1 a2)) args s 0 0 (aG G)) 4 G 0 0 12 [some (.ref (G.1 20 j)), none, none, some (.int y3)] [] τ := by
    intro n
    induction n with
    | zero => intro τ y3 iτ fτ b_a1 b_a2 b_y3 nB hm; exact absurd hm (Nat.not_lt_zero _)
    | succ n ih12 =>
      intro τ y3 iτ fτ b_a1 b_a2 b_y3 nB hm12
      refine m_iload_n C dX7_begin_12 rfl rfl ?_
      refine m_bipush (v := 40) C dX7_begin_13 (by decide) ?_
      refine m_icmp_ge (tgt := 31) C dX7_begin_15 (by decide) (fun c1 => ?_) (fun c1 => ?_)
      · have f2 : 40 ≤ y3.toInt := by
          have q : _ := c1
          simp only [ti_nle, ti_nlt, ti_le, ti_lt, ti_eq, ti_ne, Classical.not_not, kt_40] at q
          omega
        have b3 : IV y3 40 40 := ⟨by have q1 := kc_40; have q2 := b_y3; omega, by have q1 := kc_40; have q2 := b_y3; omega⟩
        exact m_vret C hr hlk (by decide) (by decide) dX7_begin_31 ⟨rfl, iτ, fτ, nB⟩
      · have f4 : y3.toInt < 40 := by
          have q : _ := c1
          simp only [ti_nle, ti_nlt, ti_le, ti_lt, ti_eq, ti_ne, Classical.not_not, kt_40] at q
          omega
        have b5 : IV y3 0 39 := ⟨by have q1 := b_y3; have q2 := kc_40; omega, by have q1 := b_y3; have q2 := kc_40; omega⟩
        refine m_aload_n C dX7_begin_18 rfl rfl ?_
        refine g_20_0 C hj q1_172 dX7_begin_19 ?_
        refine m_iload_n C dX7_begin_22 rfl rfl ?_
        refine m_iconst (v := 0) C dX7_begin_23 (by decide) ?_
        refine as_21 C hj b5 (by decide) rfl dX7_begin_24 ?_
        refine m_tops (fun τ6 eτ6 => ?_)
        have i7 : Inv τ6 := eτ6 ▸ Inv.putF iτ (by decide) rfl
        have f8 : Fr MS_X7_beginE AS_X7_beginE σ τ6 := eτ6 ▸ Fr.put (fτ) (Or.inr (by decide))
        obtain ⟨x9, ex9⟩ : ∃ y : Int32, y = y3 + 1 := ⟨_, rfl⟩
        have tx9 : x9.toInt = y3.toInt + 1 := by rw [ex9, ti_addv b5 kc_1 (by decide), kt_1]
        have b10 : IV x9 1 40 := by rw [ex9]; exact iv_add b5 kc_1 (by decide)
        refine m_iinc (v := x9) (L1 := [some (.ref (G.1 20 j)), none, none, some (.int x9)]) C dX7_begin_25 rfl (by rw [ex9]; rfl) (by decide) rfl rfl ?_
        refine m_goto (tgt := 12) C dX7_begin_28 (by decide) ?_
        exact ih12 τ6 x9 i7 f8 b_a1 b_a2 (iv_wk b10 (by decide)) (nB.then (fun _ _ => gV_putn eτ6 (Or.inl (by decide)))) (by have q := hm12; omega)
  refine m_aload_n C dX7_begin_0 rfl rfl ?_
  refine m_iload_n C dX7_begin_1 rfl rfl ?_
  refine p_20_1 C hj q1_174 dX7_begin_2 ?_
  refine m_tops (fun τ11 eτ11 => ?_)
  have i12 : Inv τ11 := eτ11 ▸ Inv.putF hI (by decide) rfl
  have f13 : Fr MS_X7_beginE AS_X7_beginE σ τ11 := eτ11 ▸ Fr.put (Fr.rf) (Or.inl (by decide))
  refine m_aload_n C dX7_begin_5 rfl rfl ?_
  refine m_iload_n C dX7_begin_6 rfl rfl ?_
  refine p_20_2 C hj q1_176 dX7_begin_7 ?_
  refine m_tops (fun τ14 eτ14 => ?_)
  have i15 : Inv τ14 := eτ14 ▸ Inv.put i12 (by decide) ha2
  have f16 : Fr MS_X7_beginE AS_X7_beginE σ τ14 := eτ14 ▸ Fr.put (f13) (Or.inl (by decide))
  refine m_iconst (v := 0) C dX7_begin_10 (by decide) ?_
  refine m_istore_n (L1 := [some (.ref (G.1 20 j)), some (.int a1), some (.int a2), some (.int 0)]) C dX7_begin_11 rfl (by decide) rfl rfl ?_
  refine m_sub (L1 := [some (.ref (G.1 20 j)), none, none, some (.int 0)]) ⟨rfl, ⟨rfl, trivial⟩⟩ ?_
  exact J12 ((40 - (0 : Int32).toInt).toNat + 1) τ14 0 i15 f16 (iv_any a1) ha2 (iv_wk kc_0 (by decide)) (BG.mk eτ11 eτ14) (Nat.lt_succ_self _)

abbrev MS_X7_endE : List (Nat × Nat) := [(20, 1), (20, 2)]
abbrev AS_X7_endE : List Nat := []
set_option maxHeartbeats 4000000 in
set_option maxRecDepth 100000 in
theorem c_X7_endE (l : Launch) (G : Gt) (σ : Sg) {j : Nat} (hj : j < 8) (hI : Inv σ) : Mc l G yX7_end cX7_end 1 none 0 0 0 0 [.ref (G.1 20 j)] σ (PV fun τ => Inv τ ∧ Fr MS_X7_endE AS_X7_endE σ τ ∧ BG σ τ j (-1) 0) := by
  refine Mc.of (L0 := [some (.ref (G.1 20 j))]) (by decide) (Nat.le_of_ble_eq_true rfl) rfl ?_
  intro p e s m args below meth c C hr hlk
  have C : Cx p s m args c cX7_end 1 "LeanTower$Row" := C
  have k0 : (0 : Int32).toInt = 0 := by decide
  have k1 : (1 : Int32).toInt = 1 := by decide
  refine m_aload_n C dX7_end_0 rfl rfl ?_
  refine m_iconst (v := (-1)) C dX7_end_1 (by decide) ?_
  refine p_20_1 C hj q1_174 dX7_end_2 ?_
  refine m_tops (fun τ1 eτ1 => ?_)
  have i2 : Inv τ1 := eτ1 ▸ Inv.putF hI (by decide) rfl
  have f3 : Fr MS_X7_endE AS_X7_endE σ τ1 := eτ1 ▸ Fr.put (Fr.rf) (Or.inl (by decide))
  refine m_aload_n C dX7_end_5 rfl rfl ?_
  refine m_iconst (v := 0) C dX7_end_6 (by decide) ?_
  refine p_20_2 C hj q1_176 dX7_end_7 ?_
  refine m_tops (fun τ4 eτ4 => ?_)
  have i5 : Inv τ4 := eτ4 ▸ Inv.put i2 (by decide) (iv_wk kc_0 (by decide))
  have f6 : Fr MS_X7_endE AS_X7_endE σ τ4 := eτ4 ▸ Fr.put (f3) (Or.inl (by decide))
  exact m_vret C hr hlk (by decide) (by decide) dX7_end_10 ⟨rfl, i5, f6, (BG.mk eτ1 eτ4)⟩

abbrev MS_X11_rowE : List (Nat × Nat) := [(0, 12), (20, 1), (20, 2)]
abbrev AS_X11_rowE : List Nat := [21]
set_option maxHeartbeats 4000000 in
set_option maxRecDepth 100000 in
theorem c_X11_rowE (l : Launch) (G : Gt) (σ : Sg) (a1 : Int32) (a2 : Int32) (a3 : Int32) (hI : Inv σ) : Mc l G yX11_row cX11_row 5 (some .int) 1 23 0 0 [.ref (G.1 0 0), .int a1, .int a2, .int a3] σ (PI fun r τ => Inv τ ∧ Fr MS_X11_rowE AS_X11_rowE σ τ ∧ IV r (-2147483648) 2147483647 ∧ (((a1.toInt < 0 ∨ 7 < a1.toInt ∨ a2.toInt < 0 ∨ 2 < a2.toInt ∨ 40 < a3.toInt) ∧ r.toInt = -1000001 ∧ SameR σ τ) ∨ ((0 ≤ a1.toInt ∧ a1.toInt ≤ 7 ∧ 0 ≤ a2.toInt ∧ a2.toInt ≤ 2 ∧ a3.toInt < 0) ∧ r.toInt = -1000014 ∧ SameR σ τ) ∨ ((0 ≤ a1.toInt ∧ a1.toInt ≤ 7 ∧ 0 ≤ a2.toInt ∧ a2.toInt ≤ 2 ∧ 0 ≤ a3.toInt ∧ a3.toInt ≤ 40) ∧ r.toInt = a3.toInt ∧ BG σ τ (a1.toInt.toNat) a2 a3))) := by
  refine Mc.of (L0 := [some (.ref (G.1 0 0)), some (.int a1), some (.int a2), some (.int a3), none]) (by decide) (Nat.le_of_ble_eq_true rfl) rfl ?_
  intro p e s m args below meth c C hr hlk
  have C : Cx p s m args c cX11_row 5 "LeanTower" := C
  have k0 : (0 : Int32).toInt = 0 := by decide
  have k1 : (1 : Int32).toInt = 1 := by decide
  refine m_aload_n C dX11_row_0 rfl rfl ?_
  refine m_iload_n C dX11_row_1 rfl rfl ?_
  refine m_callV (n := 1) (ci := 10) (st := []) C (c_X11_rowAt l G σ (a1) hI ) (by decide) (by decide) rfl rfl rfl q1_233 q1_230 q1_232 q0_0 q1_1 (by decide +kernel) rfl (by decide) (by decide) rfl (Nat.le_of_ble_eq_true rfl) dX11_row_2 ?_
  rintro _ τ1 ⟨x4, rfl, i2, f3, h7⟩
  have g6 : Fr MS_X11_rowE AS_X11_rowE σ τ1 := Fr.call (Fr.rf) f3 (by decide)
  rcases h7 with ⟨rfl, x4q⟩ | ⟨rfl, x4q⟩
  · skip
    show MW p l e _ s m args below meth c _ 5 G 0 0 5 [some (.ref (G.1 0 0)), some (.int a1), some (.int a2), some (.int a3), none] [.null] τ1
    refine m_astoreN (L1 := [some (.ref (G.1 0 0)), some (.int a1), some (.int a2), some (.int a3), some (.null)]) C dX11_row_5 (by decide) rfl rfl ?_
    refine m_aloadN C dX11_row_7 rfl ?_
    refine m_ifnullN (tgt := 27) C dX11_row_9 (by decide) ?_
    refine m_ldc (v := (-1000001)) C dX11_row_27 q1_234 ?_
    exact m_iret C hr hlk (by decide) (by decide) dX11_row_29 ⟨_, rfl, i2, g6, (iv_wk kc_m1000001 (by decide)), (Or.inl ⟨by omega, (by have q := kt_m1000001; omega), (SameR.rf.fr f3 (by simp) (by decide))⟩)⟩
  · have b8 : IV a1 0 7 := ⟨by have q1 := (iv_any a1); omega, by have q1 := (iv_any a1); omega⟩
    show MW p l e _ s m args below meth c _ 5 G 0 0 5 [some (.ref (G.1 0 0)), some (.int a1), some (.int a2), some (.int a3), none] [.ref (G.1 20 (a1.toInt.toNat))] τ1
    refine m_astore (L1 := [some (.ref (G.1 0 0)), some (.int a1), some (.int a2), some (.int a3), some (.ref (G.1 20 (a1.toInt.toNat)))]) C dX11_row_5 (by decide) rfl rfl ?_
    refine m_aload C dX11_row_7 rfl ?_
    refine m_ifnull C dX11_row_9 ?_
    refine m_iload_n C dX11_row_12 rfl rfl ?_
    refine m_if_lt (tgt := 27) C dX11_row_13 (by decide) (fun c9 => ?_) (fun c9 => ?_)
    · have f10 : a2.toInt < 0 := by
        have q : _ := c9
        simp only [ti_nle, ti_nlt, ti_le, ti_lt, ti_eq, ti_ne, Classical.not_not, kt_0] at q
        omega
      have b11 : IV a2 (-2147483648) (-1) := ⟨by have q1 := (iv_any a2); have q2 := kc_0; omega, by have q1 := (iv_any a2); have q2 := kc_0; omega⟩
      refine m_ldc (v := (-1000001)) C dX11_row_27 q1_234 ?_
      exact m_iret C hr hlk (by decide) (by decide) dX11_row_29 ⟨_, rfl, i2, g6, (iv_wk kc_m1000001 (by decide)), (Or.inl ⟨by omega, (by have q := kt_m1000001; omega), (SameR.rf.fr f3 (by simp) (by decide))⟩)⟩
    · have f12 : 0 ≤ a2.toInt := by
        have q : _ := c9
        simp only [ti_nle, ti_nlt, ti_le, ti_lt, ti_eq, ti_ne, Classical.not_not, kt_0] at q
        omega
      have b13 : IV a2 0 2147483647 := ⟨by have q1 := kc_0; have q2 := (iv_any a2); omega, by have q1 := kc_0; have q2 := (iv_any a2); omega⟩
      refine m_iload_n C dX11_row_16 rfl rfl ?_
      refine m_iconst (v := 2) C dX11_row_17 (by decide) ?_
      refine m_icmp_gt (tgt := 27) C dX11_row_18 (by decide) (fun c14 => ?_) (fun c14 => ?_)
      · have f15 : 2 < a2.toInt := by
          have q : _ := c14
          simp only [ti_nle, ti_nlt, ti_le, ti_lt, ti_eq, ti_ne, Classical.not_not, kt_2] at q
          omega
        have b16 : IV a2 3 2147483647 := ⟨by have q1 := kc_2; have q2 := b13; omega, by have q1 := kc_2; have q2 := b13; omega⟩
        refine m_ldc (v := (-1000001)) C dX11_row_27 q1_234 ?_
        exact m_iret C hr hlk (by decide) (by decide) dX11_row_29 ⟨_, rfl, i2, g6, (iv_wk kc_m1000001 (by decide)), (Or.inl ⟨by omega, (by have q := kt_m1000001; omega), (SameR.rf.fr f3 (by simp) (by decide))⟩)⟩
      · have f17 : a2.toInt ≤ 2 := by
          have q : _ := c14
          simp only [ti_nle, ti_nlt, ti_le, ti_lt, ti_eq, ti_ne, Classical.not_not, kt_2] at q
          omega
        have b18 : IV a2 0 2 := ⟨by have q1 := b13; have q2 := kc_2; omega, by have q1 := b13; have q2 := kc_2; omega⟩
        refine m_iload_n C dX11_row_21 rfl rfl ?_
        refine m_bipush (v := 40) C dX11_row_22 (by decide) ?_
        refine m_icmp_le (tgt := 30) C dX11_row_24 (by decide) (fun c19 => ?_) (fun c19 => ?_)
        · have f20 : a3.toInt ≤ 40 := by
            have q : _ := c19
            simp only [ti_nle, ti_nlt, ti_le, ti_lt, ti_eq, ti_ne, Classical.not_not, kt_40] at q
            omega
          have b21 : IV a3 (-2147483648) 40 := ⟨by have q1 := (iv_any a3); have q2 := kc_40; omega, by have q1 := (iv_any a3); have q2 := kc_40; omega⟩
          refine m_iload_n C dX11_row_30 rfl rfl ?_
          refine m_if_ge (tgt := 40) C dX11_row_31 (by decide) (fun c22 => ?_) (fun c22 => ?_)
          · have f23 : 0 ≤ a3.toInt := by
              have q : _ := c22
              simp only [ti_nle, ti_nlt, ti_le, ti_lt, ti_eq, ti_ne, Classical.not_not, kt_0] at q
              omega
            have b24 : IV a3 0 40 := ⟨by have q1 := kc_0; have q2 := b21; omega, by have q1 := kc_0; have q2 := b21; omega⟩
            refine m_aload C dX11_row_40 rfl ?_
            refine m_iload_n C dX11_row_42 rfl rfl ?_
            refine m_iload_n C dX11_row_43 rfl rfl ?_
            refine m_callV (n := 2) (ci := 6) (st := []) C (c_X7_beginE l G τ1 (j := (a1.toInt.toNat)) (iv_nat b8 (by decide)) (a2) (a3) i2 b24) (by decide) (iv_nat b8 (by decide)) rfl rfl rfl q2_3 q2_0 q2_1 q2_2 q1_6 (by decide +kernel) rfl (by decide) (by decide) rfl (Nat.le_of_ble_eq_true rfl) dX11_row_44 ?_
            rintro _ τ25 ⟨rfl, i26, f27, h31⟩
            have g30 : Fr MS_X11_rowE AS_X11_rowE σ τ25 := Fr.call (g6) f27 (by decide)
            show MW p l e _ s m args below meth c _ 5 G 0 0 47 [some (.ref (G.1 0 0)), some (.int a1), some (.int a2), some (.int a3), some (.ref (G.1 20 (a1.toInt.toNat)))] [] τ25
            refine m_aload_n C dX11_row_47 rfl rfl ?_
            refine m_iload_n C dX11_row_48 rfl rfl ?_
            refine m_callV (n := 1) (ci := 10) (st := []) C (c_X11_clean l G τ25 (a3) i26 ) (by decide) (by decide) rfl rfl rfl q2_7 q2_4 q2_6 q0_2 q1_1 (by decide +kernel) rfl (by decide) (by decide) rfl (Nat.le_of_ble_eq_true rfl) dX11_row_49 ?_
            rintro _ τ32 ⟨x35, rfl, i33, f34, b36, h38⟩
            have g37 : Fr MS_X11_rowE AS_X11_rowE σ τ32 := Fr.call (g30) f34 (by decide)
            show MW p l e _ s m args below meth c _ 5 G 0 0 52 [some (.ref (G.1 0 0)), some (.int a1), some (.int a2), some (.int a3), some (.ref (G.1 20 (a1.toInt.toNat)))] [.int x35] τ32
            exact m_iret C hr hlk (by decide) (by decide) dX11_row_52 ⟨_, rfl, i33, g37, b36, (Or.inr (Or.inr ⟨by omega, by omega, (BG.from h31 (SameR.rf.fr f3 (by simp) (by decide))).then (SameR.rf.fr f34 (by simp) (by decide))⟩))⟩
          · have f39 : a3.toInt < 0 := by
              have q : _ := c22
              simp only [ti_nle, ti_nlt, ti_le, ti_lt, ti_eq, ti_ne, Classical.not_not, kt_0] at q
              omega
            have b40 : IV a3 (-2147483648) (-1) := ⟨by have q1 := b21; have q2 := kc_0; omega, by have q1 := b21; have q2 := kc_0; omega⟩
            refine m_aload_n C dX11_row_34 rfl rfl ?_
            refine m_iconst (v := 4) C dX11_row_35 (by decide) ?_
            refine m_callV (n := 1) (ci := 10) (st := []) C (c_X11_found l G τ1 (4) i2 (iv_wk kc_4 (by decide))) (by decide) (by decide) rfl rfl rfl q1_238 q1_235 q1_237 q0_1 q1_1 (by decide +kernel) rfl (by decide) (by decide) rfl (Nat.le_of_ble_eq_true rfl) dX11_row_36 ?_
            rintro _ τ41 ⟨x44, rfl, i42, f43, b45, h47⟩
            have g46 : Fr MS_X11_rowE AS_X11_rowE σ τ41 := Fr.call (g6) f43 (by decide)
            have q48 := kt_4
            show MW p l e _ s m args below meth c _ 5 G 0 0 39 [some (.ref (G.1 0 0)), some (.int a1), some (.int a2), some (.int a3), some (.ref (G.1 20 (a1.toInt.toNat)))] [.int x44] τ41
            exact m_iret C hr hlk (by decide) (by decide) dX11_row_39 ⟨_, rfl, i42, g46, (iv_wk b45 (by decide)), (Or.inr (Or.inl ⟨by omega, by omega, ((SameR.rf.fr f3 (by simp) (by decide)).fr f43 (by simp) (by decide))⟩))⟩
        · have f49 : 40 < a3.toInt := by
            have q : _ := c19
            simp only [ti_nle, ti_nlt, ti_le, ti_lt, ti_eq, ti_ne, Classical.not_not, kt_40] at q
            omega
          have b50 : IV a3 41 2147483647 := ⟨by have q1 := kc_40; have q2 := (iv_any a3); omega, by have q1 := kc_40; have q2 := (iv_any a3); omega⟩
          refine m_ldc (v := (-1000001)) C dX11_row_27 q1_234 ?_
          exact m_iret C hr hlk (by decide) (by decide) dX11_row_29 ⟨_, rfl, i2, g6, (iv_wk kc_m1000001 (by decide)), (Or.inl ⟨by omega, (by have q := kt_m1000001; omega), (SameR.rf.fr f3 (by simp) (by decide))⟩)⟩

abbrev MS_X11_setE : List (Nat × Nat) := [(0, 12)]
abbrev AS_X11_setE : List Nat := [21]
set_option maxHeartbeats 4000000 in
set_option maxRecDepth 100000 in
theorem c_X11_setE (l : Launch) (G : Gt) (σ : Sg) (a1 : Int32) (a2 : Int32) (a3 : Int32) (hI : Inv σ) : Mc l G yX11_set cX11_set 5 (some .int) 1 21 0 0 [.ref (G.1 0 0), .int a1, .int a2, .int a3] σ (PI fun r τ => Inv τ ∧ Fr MS_X11_setE AS_X11_setE σ τ ∧ IV r (-2147483648) 2147483647 ∧ (((a1.toInt < 0 ∨ 7 < a1.toInt) ∧ r.toInt = -1000001) ∨ ((0 ≤ a1.toInt ∧ a1.toInt ≤ 7) ∧ (gV σ 20 (a1.toInt.toNat) 1).toInt = -1 ∧ r.toInt = -1000011) ∨ ((0 ≤ a1.toInt ∧ a1.toInt ≤ 7) ∧ ¬ ((gV σ 20 (a1.toInt.toNat) 1).toInt = -1) ∧ (a2.toInt < 0 ∨ (gV σ 20 (a1.toInt.toNat) 2).toInt ≤ a2.toInt) ∧ r.toInt = -1000012) ∨ ((0 ≤ a1.toInt ∧ a1.toInt ≤ 7) ∧ ¬ ((gV σ 20 (a1.toInt.toNat) 1).toInt = -1) ∧ 0 ≤ a2.toInt ∧ a2.toInt < (gV σ 20 (a1.toInt.toNat) 2).toInt ∧ r.toInt = (cutF (gV σ 20 (a1.toInt.toNat) 1) a3).toInt))) := by
  refine Mc.of (L0 := [some (.ref (G.1 0 0)), some (.int a1), some (.int a2), some (.int a3), none]) (by decide) (Nat.le_of_ble_eq_true rfl) rfl ?_
  intro p e s m args below meth c C hr hlk
  have C : Cx p s m args c cX11_set 5 "LeanTower" := C
  have k0 : (0 : Int32).toInt = 0 := by decide
  have k1 : (1 : Int32).toInt = 1 := by decide
  have u1 : IV (gV σ 20 (a1.toInt.toNat) 2) 0 40 := hI.1 20 (a1.toInt.toNat) 2
  refine m_aload_n C dX11_set_0 rfl rfl ?_
  refine m_iload_n C dX11_set_1 rfl rfl ?_
  refine m_callV (n := 1) (ci := 10) (st := []) C (c_X11_rowAt l G σ (a1) hI ) (by decide) (by decide) rfl rfl rfl q1_233 q1_230 q1_232 q0_0 q1_1 (by decide +kernel) rfl (by decide) (by decide) rfl (Nat.le_of_ble_eq_true rfl) dX11_set_2 ?_
  rintro _ τ2 ⟨x5, rfl, i3, f4, h8⟩
  have g7 : Fr MS_X11_setE AS_X11_setE σ τ2 := Fr.call (Fr.rf) f4 (by decide)
  have q9 : (gV τ2 20 (a1.toInt.toNat) 1).toInt = (gV σ 20 (a1.toInt.toNat) 1).toInt := congrArg Int32.toInt (show (gV τ2 20 (a1.toInt.toNat) 1) = (gV σ 20 (a1.toInt.toNat) 1) from (show gV τ2 20 (a1.toInt.toNat) 1 = (gV σ 20 (a1.toInt.toNat) 1) from (f4.1 20 (a1.toInt.toNat) (1) (by decide) (by decide)).trans rfl))
  have q10 : (gV τ2 20 (a1.toInt.toNat) 2).toInt = (gV σ 20 (a1.toInt.toNat) 2).toInt := congrArg Int32.toInt (show (gV τ2 20 (a1.toInt.toNat) 2) = (gV σ 20 (a1.toInt.toNat) 2) from (show gV τ2 20 (a1.toInt.toNat) 2 = (gV σ 20 (a1.toInt.toNat) 2) from (f4.1 20 (a1.toInt.toNat) (2) (by decide) (by decide)).trans rfl))
  rcases h8 with ⟨rfl, x5q⟩ | ⟨rfl, x5q⟩
  · skip
    show MW p l e _ s m args below meth c _ 5 G 0 0 5 [some (.ref (G.1 0 0)), some (.int a1), some (.int a2), some (.int a3), none] [.null] τ2
    refine m_astoreN (L1 := [some (.ref (G.1 0 0)), some (.int a1), some (.int a2), some (.int a3), some (.null)]) C dX11_set_5 (by decide) rfl rfl ?_
    refine m_aloadN C dX11_set_7 rfl ?_
    refine m_ifnonnullN C dX11_set_9 ?_
    refine m_ldc (v := (-1000001)) C dX11_set_12 q1_234 ?_
    exact m_iret C hr hlk (by decide) (by decide) dX11_set_14 ⟨_, rfl, i3, g7, (iv_wk kc_m1000001 (by decide)), (by have q := kt_m1000001; omega)⟩
  · have b11 : IV a1 0 7 := ⟨by have q1 := (iv_any a1); omega, by have q1 := (iv_any a1); omega⟩
    show MW p l e _ s m args below meth c _ 5 G 0 0 5 [some (.ref (G.1 0 0)), some (.int a1), some (.int a2), some (.int a3), none] [.ref (G.1 20 (a1.toInt.toNat))] τ2
    refine m_astore (L1 := [some (.ref (G.1 0 0)), some (.int a1), some (.int a2), some (.int a3), some (.ref (G.1 20 (a1.toInt.toNat)))]) C dX11_set_5 (by decide) rfl rfl ?_
    refine m_aload C dX11_set_7 rfl ?_
    refine m_ifnonnull (tgt := 15) C dX11_set_9 (by decide) ?_
    refine m_aload C dX11_set_15 rfl ?_
    refine m_callV (n := 0) (ci := 6) (st := []) C (c_X7_isMissingE l G τ2 (j := (a1.toInt.toNat)) (iv_nat b11 (by decide))  i3 ) (by decide) (iv_nat b11 (by decide)) rfl rfl rfl q2_15 q2_12 q2_13 q2_14 q1_6 (by decide +kernel) rfl (by decide) (by decide) rfl (Nat.le_of_ble_eq_true rfl) dX11_set_17 ?_
    rintro _ τ12 ⟨x15, rfl, i13, f14, b16, h18⟩
    have g17 : Fr MS_X11_setE AS_X11_setE σ τ12 := Fr.call (g7) f14 (by decide)
    have q19 : (gV τ12 20 (a1.toInt.toNat) 1).toInt = (gV σ 20 (a1.toInt.toNat) 1).toInt := congrArg Int32.toInt (show (gV τ12 20 (a1.toInt.toNat) 1) = (gV σ 20 (a1.toInt.toNat) 1) from (show gV τ12 20 (a1.toInt.toNat) 1 = (gV σ 20 (a1.toInt.toNat) 1) from (f14.1 20 (a1.toInt.toNat) (1) (by decide) (by decide)).trans (show gV τ2 20 (a1.toInt.toNat) 1 = (gV σ 20 (a1.toInt.toNat) 1) from (f4.1 20 (a1.toInt.toNat) (1) (by decide) (by decide)).trans rfl)))
    have q20 : (gV τ12 20 (a1.toInt.toNat) 2).toInt = (gV σ 20 (a1.toInt.toNat) 2).toInt := congrArg Int32.toInt (show (gV τ12 20 (a1.toInt.toNat) 2) = (gV σ 20 (a1.toInt.toNat) 2) from (show gV τ12 20 (a1.toInt.toNat) 2 = (gV σ 20 (a1.toInt.toNat) 2) from (f14.1 20 (a1.toInt.toNat) (2) (by decide) (by decide)).trans (show gV τ2 20 (a1.toInt.toNat) 2 = (gV σ 20 (a1.toInt.toNat) 2) from (f4.1 20 (a1.toInt.toNat) (2) (by decide) (by decide)).trans rfl)))
    show MW p l e _ s m args below meth c _ 5 G 0 0 20 [some (.ref (G.1 0 0)), some (.int a1), some (.int a2), some (.int a3), some (.ref (G.1 20 (a1.toInt.toNat)))] [.int x15] τ12
    refine m_if_eq (tgt := 29) C dX11_set_20 (by decide) (fun c21 => ?_) (fun c21 => ?_)
    · have f22 : x15.toInt = 0 := by
        have q : _ := c21
        simp only [ti_nle, ti_nlt, ti_le, ti_lt, ti_eq, ti_ne, Classical.not_not, kt_0] at q
        omega
      have b23 : IV x15 0 0 := ⟨by have q1 := b16; have q2 := kc_0; omega, by have q1 := b16; have q2 := kc_0; omega⟩
      refine m_iload_n C dX11_set_29 rfl rfl ?_
      refine m_if_lt (tgt := 42) C dX11_set_30 (by decide) (fun c24 => ?_) (fun c24 => ?_)
      · have f25 : a2.toInt < 0 := by
          have q : _ := c24
          simp only [ti_nle, ti_nlt, ti_le, ti_lt, ti_eq, ti_ne, Classical.not_not, kt_0] at q
          omega
        have b26 : IV a2 (-2147483648) (-1) := ⟨by have q1 := (iv_any a2); have q2 := kc_0; omega, by have q1 := (iv_any a2); have q2 := kc_0; omega⟩
        refine m_aload_n C dX11_set_42 rfl rfl ?_
        refine m_iconst (v := 2) C dX11_set_43 (by decide) ?_
        refine m_callV (n := 1) (ci := 10) (st := []) C (c_X11_found l G τ12 (2) i13 (iv_wk kc_2 (by decide))) (by decide) (by decide) rfl rfl rfl q1_238 q1_235 q1_237 q0_1 q1_1 (by decide +kernel) rfl (by decide) (by decide) rfl (Nat.le_of_ble_eq_true rfl) dX11_set_44 ?_
        rintro _ τ27 ⟨x30, rfl, i28, f29, b31, h33⟩
        have g32 : Fr MS_X11_setE AS_X11_setE σ τ27 := Fr.call (g17) f29 (by decide)
        have q34 : (gV τ27 20 (a1.toInt.toNat) 1).toInt = (gV σ 20 (a1.toInt.toNat) 1).toInt := congrArg Int32.toInt (show (gV τ27 20 (a1.toInt.toNat) 1) = (gV σ 20 (a1.toInt.toNat) 1) from (show gV τ27 20 (a1.toInt.toNat) 1 = (gV σ 20 (a1.toInt.toNat) 1) from (f29.1 20 (a1.toInt.toNat) (1) (by decide) (by decide)).trans (show gV τ12 20 (a1.toInt.toNat) 1 = (gV σ 20 (a1.toInt.toNat) 1) from (f14.1 20 (a1.toInt.toNat) (1) (by decide) (by decide)).trans (show gV τ2 20 (a1.toInt.toNat) 1 = (gV σ 20 (a1.toInt.toNat) 1) from (f4.1 20 (a1.toInt.toNat) (1) (by decide) (by decide)).trans rfl))))
        have q35 : (gV τ27 20 (a1.toInt.toNat) 2).toInt = (gV σ 20 (a1.toInt.toNat) 2).toInt := congrArg Int32.toInt (show (gV τ27 20 (a1.toInt.toNat) 2) = (gV σ 20 (a1.toInt.toNat) 2) from (show gV τ27 20 (a1.toInt.toNat) 2 = (gV σ 20 (a1.toInt.toNat) 2) from (f29.1 20 (a1.toInt.toNat) (2) (by decide) (by decide)).trans (show gV τ12 20 (a1.toInt.toNat) 2 = (gV σ 20 (a1.toInt.toNat) 2) from (f14.1 20 (a1.toInt.toNat) (2) (by decide) (by decide)).trans (show gV τ2 20 (a1.toInt.toNat) 2 = (gV σ 20 (a1.toInt.toNat) 2) from (f4.1 20 (a1.toInt.toNat) (2) (by decide) (by decide)).trans rfl))))
        have q36 := kt_2
        show MW p l e _ s m args below meth c _ 5 G 0 0 47 [some (.ref (G.1 0 0)), some (.int a1), some (.int a2), some (.int a3), some (.ref (G.1 20 (a1.toInt.toNat)))] [.int x30] τ27
        exact m_iret C hr hlk (by decide) (by decide) dX11_set_47 ⟨_, rfl, i28, g32, (iv_wk b31 (by decide)), (by omega)⟩
      · have f37 : 0 ≤ a2.toInt := by
          have q : _ := c24
          simp only [ti_nle, ti_nlt, ti_le, ti_lt, ti_eq, ti_ne, Classical.not_not, kt_0] at q
          omega
        have b38 : IV a2 0 2147483647 := ⟨by have q1 := kc_0; have q2 := (iv_any a2); omega, by have q1 := kc_0; have q2 := (iv_any a2); omega⟩
        refine m_iload_n C dX11_set_33 rfl rfl ?_
        refine m_aload C dX11_set_34 rfl ?_
        refine g_20_2 C (iv_nat b11 (by decide)) q1_177 dX11_set_36 ?_
        refine m_eqs (w := (gV σ 20 (a1.toInt.toNat) 2)) (show gV τ12 20 (a1.toInt.toNat) 2 = (gV σ 20 (a1.toInt.toNat) 2) from (f14.1 20 (a1.toInt.toNat) (2) (by decide) (by decide)).trans (show gV τ2 20 (a1.toInt.toNat) 2 = (gV σ 20 (a1.toInt.toNat) 2) from (f4.1 20 (a1.toInt.toNat) (2) (by decide) (by decide)).trans rfl)) ?_
        refine m_icmp_lt (tgt := 48) C dX11_set_39 (by decide) (fun c39 => ?_) (fun c39 => ?_)
        · have f40 : a2.toInt < (gV σ 20 (a1.toInt.toNat) 2).toInt := by
            have q : _ := c39
            simp only [ti_nle, ti_nlt, ti_le, ti_lt, ti_eq, ti_ne, Classical.not_not] at q
            omega
          have b41 : IV a2 0 39 := ⟨by have q1 := b38; have q2 := u1; omega, by have q1 := b38; have q2 := u1; omega⟩
          have b42 : IV (gV σ 20 (a1.toInt.toNat) 2) 1 40 := ⟨by have q1 := b38; have q2 := u1; omega, by have q1 := b38; have q2 := u1; omega⟩
          refine m_aload C dX11_set_48 rfl ?_
          refine g_20_0 C (iv_nat b11 (by decide)) q1_173 dX11_set_50 ?_
          refine m_iload_n C dX11_set_53 rfl rfl ?_
          refine m_aload C dX11_set_54 rfl ?_
          refine m_iload_n C dX11_set_56 rfl rfl ?_
          refine m_callV (n := 1) (ci := 6) (st := [.int a2, .ref (G.1 21 (a1.toInt.toNat))]) C (c_X7_narrowedE l G τ12 (j := (a1.toInt.toNat)) (iv_nat b11 (by decide)) (a3) i13 ) (by decide) (iv_nat b11 (by decide)) rfl rfl rfl q2_19 q2_16 q2_17 q2_18 q1_6 (by decide +kernel) rfl (by decide) (by decide) rfl (Nat.le_of_ble_eq_true rfl) dX11_set_57 ?_
          rintro _ τ43 ⟨x46, rfl, i44, f45, b47, h49⟩
          have g48 : Fr MS_X11_setE AS_X11_setE σ τ43 := Fr.call (g17) f45 (by decide)
          have q50 : (gV τ43 20 (a1.toInt.toNat) 1).toInt = (gV σ 20 (a1.toInt.toNat) 1).toInt := congrArg Int32.toInt (show (gV τ43 20 (a1.toInt.toNat) 1) = (gV σ 20 (a1.toInt.toNat) 1) from (show gV τ43 20 (a1.toInt.toNat) 1 = (gV σ 20 (a1.toInt.toNat) 1) from (f45.1 20 (a1.toInt.toNat) (1) (by decide) (by decide)).trans (show gV τ12 20 (a1.toInt.toNat) 1 = (gV σ 20 (a1.toInt.toNat) 1) from (f14.1 20 (a1.toInt.toNat) (1) (by decide) (by decide)).trans (show gV τ2 20 (a1.toInt.toNat) 1 = (gV σ 20 (a1.toInt.toNat) 1) from (f4.1 20 (a1.toInt.toNat) (1) (by decide) (by decide)).trans rfl))))
          have q51 : (gV τ43 20 (a1.toInt.toNat) 2).toInt = (gV σ 20 (a1.toInt.toNat) 2).toInt := congrArg Int32.toInt (show (gV τ43 20 (a1.toInt.toNat) 2) = (gV σ 20 (a1.toInt.toNat) 2) from (show gV τ43 20 (a1.toInt.toNat) 2 = (gV σ 20 (a1.toInt.toNat) 2) from (f45.1 20 (a1.toInt.toNat) (2) (by decide) (by decide)).trans (show gV τ12 20 (a1.toInt.toNat) 2 = (gV σ 20 (a1.toInt.toNat) 2) from (f14.1 20 (a1.toInt.toNat) (2) (by decide) (by decide)).trans (show gV τ2 20 (a1.toInt.toNat) 2 = (gV σ 20 (a1.toInt.toNat) 2) from (f4.1 20 (a1.toInt.toNat) (2) (by decide) (by decide)).trans rfl))))
          have q52 : x46.toInt = (cutF (gV σ 20 (a1.toInt.toNat) 1) a3).toInt := by rw [h49, show gV τ12 20 (a1.toInt.toNat) 1 = (gV σ 20 (a1.toInt.toNat) 1) from (show gV τ12 20 (a1.toInt.toNat) 1 = (gV σ 20 (a1.toInt.toNat) 1) from (f14.1 20 (a1.toInt.toNat) (1) (by decide) (by decide)).trans (show gV τ2 20 (a1.toInt.toNat) 1 = (gV σ 20 (a1.toInt.toNat) 1) from (f4.1 20 (a1.toInt.toNat) (1) (by decide) (by decide)).trans rfl))]
          show MW p l e _ s m args below meth c _ 5 G 0 0 60 [some (.ref (G.1 0 0)), some (.int a1), some (.int a2), some (.int a3), some (.ref (G.1 20 (a1.toInt.toNat)))] [.int x46, .int a2, .ref (G.1 21 (a1.toInt.toNat))] τ43
          refine as_21 C (iv_nat b11 (by decide)) b41 (by decide) rfl dX11_set_60 ?_
          refine m_tops (fun τ53 eτ53 => ?_)
          have i54 : Inv τ53 := eτ53 ▸ Inv.putF i44 (by decide) rfl
          have f55 : Fr MS_X11_setE AS_X11_setE σ τ53 := eτ53 ▸ Fr.put (g48) (Or.inr (by decide))
          refine m_aload_n C dX11_set_61 rfl rfl ?_
          refine m_aload C dX11_set_62 rfl ?_
          refine g_20_0 C (iv_nat b11 (by decide)) q1_173 dX11_set_64 ?_
          refine m_iload_n C dX11_set_67 rfl rfl ?_
          refine al_21 C (iv_nat b11 (by decide)) b41 (by decide) rfl dX11_set_68 ?_
          refine m_eqs (w := x46) (show gV τ53 21 (a1.toInt.toNat) (a2.toInt.toNat) = x46 from gV_put eτ53 (gV_self _ _ _ _ _)) ?_
          refine m_callV (n := 1) (ci := 10) (st := []) C (c_X11_clean l G τ53 (x46) i54 ) (by decide) (by decide) rfl rfl rfl q2_7 q2_4 q2_6 q0_2 q1_1 (by decide +kernel) rfl (by decide) (by decide) rfl (Nat.le_of_ble_eq_true rfl) dX11_set_69 ?_
          rintro _ τ56 ⟨x59, rfl, i57, f58, b60, h62⟩
          have g61 : Fr MS_X11_setE AS_X11_setE σ τ56 := Fr.call (f55) f58 (by decide)
          have q63 : (gV τ56 20 (a1.toInt.toNat) 1).toInt = (gV σ 20 (a1.toInt.toNat) 1).toInt := congrArg Int32.toInt (show (gV τ56 20 (a1.toInt.toNat) 1) = (gV σ 20 (a1.toInt.toNat) 1) from (show gV τ56 20 (a1.toInt.toNat) 1 = (gV σ 20 (a1.toInt.toNat) 1) from (f58.1 20 (a1.toInt.toNat) (1) (by decide) (by decide)).trans (show gV τ53 20 (a1.toInt.toNat) 1 = (gV σ 20 (a1.toInt.toNat) 1) from gV_put eτ53 (show gV τ43 20 (a1.toInt.toNat) 1 = (gV σ 20 (a1.toInt.toNat) 1) from (f45.1 20 (a1.toInt.toNat) (1) (by decide) (by decide)).trans (show gV τ12 20 (a1.toInt.toNat) 1 = (gV σ 20 (a1.toInt.toNat) 1) from (f14.1 20 (a1.toInt.toNat) (1) (by decide) (by decide)).trans (show gV τ2 20 (a1.toInt.toNat) 1 = (gV σ 20 (a1.toInt.toNat) 1) from (f4.1 20 (a1.toInt.toNat) (1) (by decide) (by decide)).trans rfl))))))
          have q64 : (gV τ56 20 (a1.toInt.toNat) 2).toInt = (gV σ 20 (a1.toInt.toNat) 2).toInt := congrArg Int32.toInt (show (gV τ56 20 (a1.toInt.toNat) 2) = (gV σ 20 (a1.toInt.toNat) 2) from (show gV τ56 20 (a1.toInt.toNat) 2 = (gV σ 20 (a1.toInt.toNat) 2) from (f58.1 20 (a1.toInt.toNat) (2) (by decide) (by decide)).trans (show gV τ53 20 (a1.toInt.toNat) 2 = (gV σ 20 (a1.toInt.toNat) 2) from gV_put eτ53 (show gV τ43 20 (a1.toInt.toNat) 2 = (gV σ 20 (a1.toInt.toNat) 2) from (f45.1 20 (a1.toInt.toNat) (2) (by decide) (by decide)).trans (show gV τ12 20 (a1.toInt.toNat) 2 = (gV σ 20 (a1.toInt.toNat) 2) from (f14.1 20 (a1.toInt.toNat) (2) (by decide) (by decide)).trans (show gV τ2 20 (a1.toInt.toNat) 2 = (gV σ 20 (a1.toInt.toNat) 2) from (f4.1 20 (a1.toInt.toNat) (2) (by decide) (by decide)).trans rfl))))))
          show MW p l e _ s m args below meth c _ 5 G 0 0 72 [some (.ref (G.1 0 0)), some (.int a1), some (.int a2), some (.int a3), some (.ref (G.1 20 (a1.toInt.toNat)))] [.int x59] τ56
          exact m_iret C hr hlk (by decide) (by decide) dX11_set_72 ⟨_, rfl, i57, g61, b60, (by omega)⟩
        · have f65 : (gV σ 20 (a1.toInt.toNat) 2).toInt ≤ a2.toInt := by
            have q : _ := c39
            simp only [ti_nle, ti_nlt, ti_le, ti_lt, ti_eq, ti_ne, Classical.not_not] at q
            omega
          refine m_aload_n C dX11_set_42 rfl rfl ?_
          refine m_iconst (v := 2) C dX11_set_43 (by decide) ?_
          refine m_callV (n := 1) (ci := 10) (st := []) C (c_X11_found l G τ12 (2) i13 (iv_wk kc_2 (by decide))) (by decide) (by decide) rfl rfl rfl q1_238 q1_235 q1_237 q0_1 q1_1 (by decide +kernel) rfl (by decide) (by decide) rfl (Nat.le_of_ble_eq_true rfl) dX11_set_44 ?_
          rintro _ τ66 ⟨x69, rfl, i67, f68, b70, h72⟩
          have g71 : Fr MS_X11_setE AS_X11_setE σ τ66 := Fr.call (g17) f68 (by decide)
          have q73 : (gV τ66 20 (a1.toInt.toNat) 1).toInt = (gV σ 20 (a1.toInt.toNat) 1).toInt := congrArg Int32.toInt (show (gV τ66 20 (a1.toInt.toNat) 1) = (gV σ 20 (a1.toInt.toNat) 1) from (show gV τ66 20 (a1.toInt.toNat) 1 = (gV σ 20 (a1.toInt.toNat) 1) from (f68.1 20 (a1.toInt.toNat) (1) (by decide) (by decide)).trans (show gV τ12 20 (a1.toInt.toNat) 1 = (gV σ 20 (a1.toInt.toNat) 1) from (f14.1 20 (a1.toInt.toNat) (1) (by decide) (by decide)).trans (show gV τ2 20 (a1.toInt.toNat) 1 = (gV σ 20 (a1.toInt.toNat) 1) from (f4.1 20 (a1.toInt.toNat) (1) (by decide) (by decide)).trans rfl))))
          have q74 : (gV τ66 20 (a1.toInt.toNat) 2).toInt = (gV σ 20 (a1.toInt.toNat) 2).toInt := congrArg Int32.toInt (show (gV τ66 20 (a1.toInt.toNat) 2) = (gV σ 20 (a1.toInt.toNat) 2) from (show gV τ66 20 (a1.toInt.toNat) 2 = (gV σ 20 (a1.toInt.toNat) 2) from (f68.1 20 (a1.toInt.toNat) (2) (by decide) (by decide)).trans (show gV τ12 20 (a1.toInt.toNat) 2 = (gV σ 20 (a1.toInt.toNat) 2) from (f14.1 20 (a1.toInt.toNat) (2) (by decide) (by decide)).trans (show gV τ2 20 (a1.toInt.toNat) 2 = (gV σ 20 (a1.toInt.toNat) 2) from (f4.1 20 (a1.toInt.toNat) (2) (by decide) (by decide)).trans rfl))))
          have q75 := kt_2
          show MW p l e _ s m args below meth c _ 5 G 0 0 47 [some (.ref (G.1 0 0)), some (.int a1), some (.int a2), some (.int a3), some (.ref (G.1 20 (a1.toInt.toNat)))] [.int x69] τ66
          exact m_iret C hr hlk (by decide) (by decide) dX11_set_47 ⟨_, rfl, i67, g71, (iv_wk b70 (by decide)), (by omega)⟩
    · have f76 : x15.toInt ≠ 0 := by
        have q : _ := c21
        simp only [ti_nle, ti_nlt, ti_le, ti_lt, ti_eq, ti_ne, Classical.not_not, kt_0] at q
        omega
      have b77 : IV x15 1 1 := ⟨by have q1 := b16; have q2 := kc_0; omega, by have q1 := b16; have q2 := kc_0; omega⟩
      refine m_aload_n C dX11_set_23 rfl rfl ?_
      refine m_iconst (v := 1) C dX11_set_24 (by decide) ?_
      refine m_callV (n := 1) (ci := 10) (st := []) C (c_X11_found l G τ12 (1) i13 (iv_wk kc_1 (by decide))) (by decide) (by decide) rfl rfl rfl q1_238 q1_235 q1_237 q0_1 q1_1 (by decide +kernel) rfl (by decide) (by decide) rfl (Nat.le_of_ble_eq_true rfl) dX11_set_25 ?_
      rintro _ τ78 ⟨x81, rfl, i79, f80, b82, h84⟩
      have g83 : Fr MS_X11_setE AS_X11_setE σ τ78 := Fr.call (g17) f80 (by decide)
      have q85 : (gV τ78 20 (a1.toInt.toNat) 1).toInt = (gV σ 20 (a1.toInt.toNat) 1).toInt := congrArg Int32.toInt (show (gV τ78 20 (a1.toInt.toNat) 1) = (gV σ 20 (a1.toInt.toNat) 1) from (show gV τ78 20 (a1.toInt.toNat) 1 = (gV σ 20 (a1.toInt.toNat) 1) from (f80.1 20 (a1.toInt.toNat) (1) (by decide) (by decide)).trans (show gV τ12 20 (a1.toInt.toNat) 1 = (gV σ 20 (a1.toInt.toNat) 1) from (f14.1 20 (a1.toInt.toNat) (1) (by decide) (by decide)).trans (show gV τ2 20 (a1.toInt.toNat) 1 = (gV σ 20 (a1.toInt.toNat) 1) from (f4.1 20 (a1.toInt.toNat) (1) (by decide) (by decide)).trans rfl))))
      have q86 : (gV τ78 20 (a1.toInt.toNat) 2).toInt = (gV σ 20 (a1.toInt.toNat) 2).toInt := congrArg Int32.toInt (show (gV τ78 20 (a1.toInt.toNat) 2) = (gV σ 20 (a1.toInt.toNat) 2) from (show gV τ78 20 (a1.toInt.toNat) 2 = (gV σ 20 (a1.toInt.toNat) 2) from (f80.1 20 (a1.toInt.toNat) (2) (by decide) (by decide)).trans (show gV τ12 20 (a1.toInt.toNat) 2 = (gV σ 20 (a1.toInt.toNat) 2) from (f14.1 20 (a1.toInt.toNat) (2) (by decide) (by decide)).trans (show gV τ2 20 (a1.toInt.toNat) 2 = (gV σ 20 (a1.toInt.toNat) 2) from (f4.1 20 (a1.toInt.toNat) (2) (by decide) (by decide)).trans rfl))))
      have q87 := kt_1
      show MW p l e _ s m args below meth c _ 5 G 0 0 28 [some (.ref (G.1 0 0)), some (.int a1), some (.int a2), some (.int a3), some (.ref (G.1 20 (a1.toInt.toNat)))] [.int x81] τ78
      exact m_iret C hr hlk (by decide) (by decide) dX11_set_28 ⟨_, rfl, i79, g83, (iv_wk b82 (by decide)), (by omega)⟩

abbrev MS_X12_setE : List (Nat × Nat) := [(22, 8)]
abbrev AS_X12_setE : List Nat := [25]
set_option maxHeartbeats 4000000 in
set_option maxRecDepth 100000 in
theorem c_X12_setE (l : Launch) (G : Gt) (σ : Sg) (a1 : Int32) (a2 : Int32) (a3 : Int32) (hI : Inv σ) : Mc l G yX12_set cX12_set 4 (some .int) 2 45 0 0 [.ref (G.1 22 0), .int a1, .int a2, .int a3] σ (PI fun r τ => Inv τ ∧ Fr MS_X12_setE AS_X12_setE σ τ ∧ IV r (-2147483648) 2147483647 ∧ (((a1.toInt < 0 ∨ 7 < a1.toInt) ∧ r.toInt = -1000001) ∨ ((0 ≤ a1.toInt ∧ a1.toInt ≤ 7) ∧ (gV σ 26 0 (a1.toInt.toNat)).toInt < 0 ∧ r.toInt = -1000011) ∨ ((0 ≤ a1.toInt ∧ a1.toInt ≤ 7) ∧ ¬ ((gV σ 26 0 (a1.toInt.toNat)).toInt < 0) ∧ (a2.toInt < 0 ∨ (gV σ 27 0 (a1.toInt.toNat)).toInt ≤ a2.toInt) ∧ r.toInt = -1000012) ∨ ((0 ≤ a1.toInt ∧ a1.toInt ≤ 7) ∧ ¬ ((gV σ 26 0 (a1.toInt.toNat)).toInt < 0) ∧ 0 ≤ a2.toInt ∧ a2.toInt < (gV σ 27 0 (a1.toInt.toNat)).toInt ∧ r.toInt = (cutF (gV σ 26 0 (a1.toInt.toNat)) a3).toInt))) := by
  refine Mc.of (L0 := [some (.ref (G.1 22 0)), some (.int a1), some (.int a2), some (.int a3)]) (by decide) (Nat.le_of_ble_eq_true rfl) rfl ?_
  intro p e s m args below meth c C hr hlk
  have C : Cx p s m args c cX12_set 4 "LeanTowerModel" := C
  have k0 : (0 : Int32).toInt = 0 := by decide
  have k1 : (1 : Int32).toInt = 1 := by decide
  have u1 : IV (gV σ 27 0 (a1.toInt.toNat)) 0 40 := hI.1 27 0 (a1.toInt.toNat)
  refine m_iload_n C dX12_set_0 rfl rfl ?_
  refine m_callS (n := 1) (st := []) C (c_X12_isRow l G σ (a1) hI ) q4_186 q4_184 q4_185 q1_7 (by decide +kernel) rfl (by decide) (by decide) rfl (Nat.le_of_ble_eq_true rfl) dX12_set_1 ?_
  rintro _ τ2 ⟨x5, rfl, i3, f4, b6, h8⟩
  have g7 : Fr MS_X12_setE AS_X12_setE σ τ2 := Fr.call (Fr.rf) f4 (by decide)
  have q9 : (gV τ2 26 0 (a1.toInt.toNat)).toInt = (gV σ 26 0 (a1.toInt.toNat)).toInt := congrArg Int32.toInt (show (gV τ2 26 0 (a1.toInt.toNat)) = (gV σ 26 0 (a1.toInt.toNat)) from (show gV τ2 26 0 (a1.toInt.toNat) = (gV σ 26 0 (a1.toInt.toNat)) from (f4.1 26 0 ((a1.toInt.toNat)) (by simp) (by decide)).trans rfl))
  have q10 : (gV τ2 27 0 (a1.toInt.toNat)).toInt = (gV σ 27 0 (a1.toInt.toNat)).toInt := congrArg Int32.toInt (show (gV τ2 27 0 (a1.toInt.toNat)) = (gV σ 27 0 (a1.toInt.toNat)) from (show gV τ2 27 0 (a1.toInt.toNat) = (gV σ 27 0 (a1.toInt.toNat)) from (f4.1 27 0 ((a1.toInt.toNat)) (by simp) (by decide)).trans rfl))
  show MW p l e _ s m args below meth c _ 4 G 0 0 4 [some (.ref (G.1 22 0)), some (.int a1), some (.int a2), some (.int a3)] [.int x5] τ2
  refine m_if_ne (tgt := 10) C dX12_set_4 (by decide) (fun c11 => ?_) (fun c11 => ?_)
  · have f12 : x5.toInt ≠ 0 := by
      have q : _ := c11
      simp only [ti_nle, ti_nlt, ti_le, ti_lt, ti_eq, ti_ne, Classical.not_not, kt_0] at q
      omega
    have b13 : IV x5 1 1 := ⟨by have q1 := b6; have q2 := kc_0; omega, by have q1 := b6; have q2 := kc_0; omega⟩
    have b14 : IV a1 0 7 := ⟨by have q1 := (iv_any a1); omega, by have q1 := (iv_any a1); omega⟩
    refine m_aload_n C dX12_set_10 rfl rfl ?_
    refine g_22_3 C q4_119 dX12_set_11 ?_
    refine m_iload_n C dX12_set_14 rfl rfl ?_
    refine al_26 C b14 (by decide) rfl dX12_set_15 ?_
    refine m_eqs (w := (gV σ 26 0 (a1.toInt.toNat))) (show gV τ2 26 0 (a1.toInt.toNat) = (gV σ 26 0 (a1.toInt.toNat)) from (f4.1 26 0 ((a1.toInt.toNat)) (by simp) (by decide)).trans rfl) ?_
    refine m_if_ge (tgt := 25) C dX12_set_16 (by decide) (fun c15 => ?_) (fun c15 => ?_)
    · have f16 : 0 ≤ (gV σ 26 0 (a1.toInt.toNat)).toInt := by
        have q : _ := c15
        simp only [ti_nle, ti_nlt, ti_le, ti_lt, ti_eq, ti_ne, Classical.not_not, kt_0] at q
        omega
      have b17 : IV (gV σ 26 0 (a1.toInt.toNat)) 0 2147483647 := ⟨by have q1 := kc_0; have q2 := (iv_any (gV σ 26 0 (a1.toInt.toNat))); omega, by have q1 := kc_0; have q2 := (iv_any (gV σ 26 0 (a1.toInt.toNat))); omega⟩
      refine m_iload_n C dX12_set_25 rfl rfl ?_
      refine m_i2l C dX12_set_26 ?_
      refine m_lconst (v := 0) C dX12_set_27 (by decide) ?_
      refine m_aload_n C dX12_set_28 rfl rfl ?_
      refine g_22_4 C q4_120 dX12_set_29 ?_
      refine m_iload_n C dX12_set_32 rfl rfl ?_
      refine al_27 C b14 (by decide) rfl dX12_set_33 ?_
      refine m_eqs (w := (gV σ 27 0 (a1.toInt.toNat))) (show gV τ2 27 0 (a1.toInt.toNat) = (gV σ 27 0 (a1.toInt.toNat)) from (f4.1 27 0 ((a1.toInt.toNat)) (by simp) (by decide)).trans rfl) ?_
      refine m_iconst (v := 1) C dX12_set_34 (by decide) ?_
      refine m_isub C dX12_set_35 ?_
      refine m_topi (fun x18 ex18 => ?_)
      have tx18 : x18.toInt = (gV σ 27 0 (a1.toInt.toNat)).toInt - 1 := by rw [ex18, ti_subv u1 kc_1 (by decide), kt_1]
      have b19 : IV x18 (-1) 39 := by rw [ex18]; exact iv_sub u1 kc_1 (by decide)
      refine m_i2l C dX12_set_36 ?_
      refine m_callS (n := 3) (st := []) C (c_X12_in l G τ2 ((a2 : Int32).toInt64) (0) ((x18 : Int32).toInt64) i3 ) q4_190 q4_188 q4_189 q1_7 (by decide +kernel) rfl (by decide) (by decide) rfl (Nat.le_of_ble_eq_true rfl) dX12_set_37 ?_
      rintro _ τ20 ⟨x23, rfl, i21, f22, b24, h26⟩
      have g25 : Fr MS_X12_setE AS_X12_setE σ τ20 := Fr.call (g7) f22 (by decide)
      have q27 : (gV τ20 26 0 (a1.toInt.toNat)).toInt = (gV σ 26 0 (a1.toInt.toNat)).toInt := congrArg Int32.toInt (show (gV τ20 26 0 (a1.toInt.toNat)) = (gV σ 26 0 (a1.toInt.toNat)) from (show gV τ20 26 0 (a1.toInt.toNat) = (gV σ 26 0 (a1.toInt.toNat)) from (f22.1 26 0 ((a1.toInt.toNat)) (by simp) (by decide)).trans (show gV τ2 26 0 (a1.toInt.toNat) = (gV σ 26 0 (a1.toInt.toNat)) from (f4.1 26 0 ((a1.toInt.toNat)) (by simp) (by decide)).trans rfl)))
      have q28 : (gV τ20 27 0 (a1.toInt.toNat)).toInt = (gV σ 27 0 (a1.toInt.toNat)).toInt := congrArg Int32.toInt (show (gV τ20 27 0 (a1.toInt.toNat)) = (gV σ 27 0 (a1.toInt.toNat)) from (show gV τ20 27 0 (a1.toInt.toNat) = (gV σ 27 0 (a1.toInt.toNat)) from (f22.1 27 0 ((a1.toInt.toNat)) (by simp) (by decide)).trans (show gV τ2 27 0 (a1.toInt.toNat) = (gV σ 27 0 (a1.toInt.toNat)) from (f4.1 27 0 ((a1.toInt.toNat)) (by simp) (by decide)).trans rfl)))
      have f29 := tl_i a2
      have f30 := kl_0
      have f31 := tl_i x18
      have q32 := b19
      show MW p l e _ s m args below meth c _ 4 G 0 0 40 [some (.ref (G.1 22 0)), some (.int a1), some (.int a2), some (.int a3)] [.int x23] τ20
      refine m_if_ne (tgt := 49) C dX12_set_40 (by decide) (fun c33 => ?_) (fun c33 => ?_)
      · have f34 : x23.toInt ≠ 0 := by
          have q : _ := c33
          simp only [ti_nle, ti_nlt, ti_le, ti_lt, ti_eq, ti_ne, Classical.not_not, kt_0] at q
          omega
        have b35 : IV x23 1 1 := ⟨by have q1 := b24; have q2 := kc_0; omega, by have q1 := b24; have q2 := kc_0; omega⟩
        have b36 : IV a2 0 39 := ⟨by have q1 := (iv_any a2); omega, by have q1 := (iv_any a2); omega⟩
        refine m_aload_n C dX12_set_49 rfl rfl ?_
        refine g_22_2 C q4_118 dX12_set_50 ?_
        refine m_bipush (v := 40) C dX12_set_53 (by decide) ?_
        refine m_iload_n C dX12_set_55 rfl rfl ?_
        refine m_imul C dX12_set_56 ?_
        refine m_topi (fun x37 ex37 => ?_)
        have tx37 : x37.toInt = 40 * a1.toInt := by rw [ex37, ti_mulv kc_40 b14 (by decide), kt_40]
        have b38 : IV x37 0 280 := by rw [ex37]; exact iv_mul kc_40 b14 (by decide)
        refine m_iload_n C dX12_set_57 rfl rfl ?_
        refine m_iadd C dX12_set_58 ?_
        refine m_topi (fun x39 ex39 => ?_)
        have tx39 : x39.toInt = x37.toInt + a2.toInt := by rw [ex39, ti_addv b38 b36 (by decide)]
        have b40 : IV x39 0 319 := by rw [ex39]; exact iv_add b38 b36 (by decide)
        refine m_aload_n C dX12_set_59 rfl rfl ?_
        refine g_22_3 C q4_119 dX12_set_60 ?_
        refine m_iload_n C dX12_set_63 rfl rfl ?_
        refine al_26 C b14 (by decide) rfl dX12_set_64 ?_
        refine m_eqs (w := (gV σ 26 0 (a1.toInt.toNat))) (show gV τ20 26 0 (a1.toInt.toNat) = (gV σ 26 0 (a1.toInt.toNat)) from (f22.1 26 0 ((a1.toInt.toNat)) (by simp) (by decide)).trans (show gV τ2 26 0 (a1.toInt.toNat) = (gV σ 26 0 (a1.toInt.toNat)) from (f4.1 26 0 ((a1.toInt.toNat)) (by simp) (by decide)).trans rfl)) ?_
        refine m_iload_n C dX12_set_65 rfl rfl ?_
        refine m_callS (n := 2) (st := [.int x39, .ref (G.1 25 0)]) C (c_X12_cutE l G τ20 ((gV σ 26 0 (a1.toInt.toNat))) (a3) i21 ) q4_208 q4_206 q4_207 q1_7 (by decide +kernel) rfl (by decide) (by decide) rfl (Nat.le_of_ble_eq_true rfl) dX12_set_66 ?_
        rintro _ τ41 ⟨x44, rfl, i42, f43, b45, h47⟩
        have g46 : Fr MS_X12_setE AS_X12_setE σ τ41 := Fr.call (g25) f43 (by decide)
        have q48 : (gV τ41 26 0 (a1.toInt.toNat)).toInt = (gV σ 26 0 (a1.toInt.toNat)).toInt := congrArg Int32.toInt (show (gV τ41 26 0 (a1.toInt.toNat)) = (gV σ 26 0 (a1.toInt.toNat)) from (show gV τ41 26 0 (a1.toInt.toNat) = (gV σ 26 0 (a1.toInt.toNat)) from (f43.1 26 0 ((a1.toInt.toNat)) (by simp) (by decide)).trans (show gV τ20 26 0 (a1.toInt.toNat) = (gV σ 26 0 (a1.toInt.toNat)) from (f22.1 26 0 ((a1.toInt.toNat)) (by simp) (by decide)).trans (show gV τ2 26 0 (a1.toInt.toNat) = (gV σ 26 0 (a1.toInt.toNat)) from (f4.1 26 0 ((a1.toInt.toNat)) (by simp) (by decide)).trans rfl))))
        have q49 : (gV τ41 27 0 (a1.toInt.toNat)).toInt = (gV σ 27 0 (a1.toInt.toNat)).toInt := congrArg Int32.toInt (show (gV τ41 27 0 (a1.toInt.toNat)) = (gV σ 27 0 (a1.toInt.toNat)) from (show gV τ41 27 0 (a1.toInt.toNat) = (gV σ 27 0 (a1.toInt.toNat)) from (f43.1 27 0 ((a1.toInt.toNat)) (by simp) (by decide)).trans (show gV τ20 27 0 (a1.toInt.toNat) = (gV σ 27 0 (a1.toInt.toNat)) from (f22.1 27 0 ((a1.toInt.toNat)) (by simp) (by decide)).trans (show gV τ2 27 0 (a1.toInt.toNat) = (gV σ 27 0 (a1.toInt.toNat)) from (f4.1 27 0 ((a1.toInt.toNat)) (by simp) (by decide)).trans rfl))))
        have q50 : x44.toInt = (cutF (gV σ 26 0 (a1.toInt.toNat)) a3).toInt := congrArg Int32.toInt h47
        show MW p l e _ s m args below meth c _ 4 G 0 0 69 [some (.ref (G.1 22 0)), some (.int a1), some (.int a2), some (.int a3)] [.int x44, .int x39, .ref (G.1 25 0)] τ41
        refine as_25 C b40 (by decide) rfl dX12_set_69 ?_
        refine m_tops (fun τ51 eτ51 => ?_)
        have i52 : Inv τ51 := eτ51 ▸ Inv.putF i42 (by decide) rfl
        have f53 : Fr MS_X12_setE AS_X12_setE σ τ51 := eτ51 ▸ Fr.put (g46) (Or.inr (by decide))
        refine m_aload_n C dX12_set_70 rfl rfl ?_
        refine m_aload_n C dX12_set_71 rfl rfl ?_
        refine g_22_2 C q4_118 dX12_set_72 ?_
        refine m_bipush (v := 40) C dX12_set_75 (by decide) ?_
        refine m_iload_n C dX12_set_77 rfl rfl ?_
        refine m_imul C dX12_set_78 ?_
        refine m_topi (fun x54 ex54 => ?_)
        have tx54 : x54.toInt = 40 * a1.toInt := by rw [ex54, ti_mulv kc_40 b14 (by decide), kt_40]
        have b55 : IV x54 0 280 := by rw [ex54]; exact iv_mul kc_40 b14 (by decide)
        refine m_iload_n C dX12_set_79 rfl rfl ?_
        refine m_iadd C dX12_set_80 ?_
        refine m_topi (fun x56 ex56 => ?_)
        have tx56 : x56.toInt = x54.toInt + a2.toInt := by rw [ex56, ti_addv b55 b36 (by decide)]
        have b57 : IV x56 0 319 := by rw [ex56]; exact iv_add b55 b36 (by decide)
        refine al_25 C b57 (by decide) rfl dX12_set_81 ?_
        refine m_topi (fun x58 ex58 => ?_)
        refine m_callV (n := 1) (ci := 11) (st := []) C (c_X12_fine l G τ51 (x58) i52 ) (by decide) (by decide) rfl rfl rfl q4_201 q4_198 q4_200 q0_27 q1_7 (by decide +kernel) rfl (by decide) (by decide) rfl (Nat.le_of_ble_eq_true rfl) dX12_set_82 ?_
        rintro _ τ59 ⟨x62, rfl, i60, f61, b63, h65⟩
        have g64 : Fr MS_X12_setE AS_X12_setE σ τ59 := Fr.call (f53) f61 (by decide)
        have q66 : (gV τ59 26 0 (a1.toInt.toNat)).toInt = (gV σ 26 0 (a1.toInt.toNat)).toInt := congrArg Int32.toInt (show (gV τ59 26 0 (a1.toInt.toNat)) = (gV σ 26 0 (a1.toInt.toNat)) from (show gV τ59 26 0 (a1.toInt.toNat) = (gV σ 26 0 (a1.toInt.toNat)) from (f61.1 26 0 ((a1.toInt.toNat)) (by simp) (by decide)).trans (show gV τ51 26 0 (a1.toInt.toNat) = (gV σ 26 0 (a1.toInt.toNat)) from gV_put eτ51 (show gV τ41 26 0 (a1.toInt.toNat) = (gV σ 26 0 (a1.toInt.toNat)) from (f43.1 26 0 ((a1.toInt.toNat)) (by simp) (by decide)).trans (show gV τ20 26 0 (a1.toInt.toNat) = (gV σ 26 0 (a1.toInt.toNat)) from (f22.1 26 0 ((a1.toInt.toNat)) (by simp) (by decide)).trans (show gV τ2 26 0 (a1.toInt.toNat) = (gV σ 26 0 (a1.toInt.toNat)) from (f4.1 26 0 ((a1.toInt.toNat)) (by simp) (by decide)).trans rfl))))))
        have q67 : (gV τ59 27 0 (a1.toInt.toNat)).toInt = (gV σ 27 0 (a1.toInt.toNat)).toInt := congrArg Int32.toInt (show (gV τ59 27 0 (a1.toInt.toNat)) = (gV σ 27 0 (a1.toInt.toNat)) from (show gV τ59 27 0 (a1.toInt.toNat) = (gV σ 27 0 (a1.toInt.toNat)) from (f61.1 27 0 ((a1.toInt.toNat)) (by simp) (by decide)).trans (show gV τ51 27 0 (a1.toInt.toNat) = (gV σ 27 0 (a1.toInt.toNat)) from gV_put eτ51 (show gV τ41 27 0 (a1.toInt.toNat) = (gV σ 27 0 (a1.toInt.toNat)) from (f43.1 27 0 ((a1.toInt.toNat)) (by simp) (by decide)).trans (show gV τ20 27 0 (a1.toInt.toNat) = (gV σ 27 0 (a1.toInt.toNat)) from (f22.1 27 0 ((a1.toInt.toNat)) (by simp) (by decide)).trans (show gV τ2 27 0 (a1.toInt.toNat) = (gV σ 27 0 (a1.toInt.toNat)) from (f4.1 27 0 ((a1.toInt.toNat)) (by simp) (by decide)).trans rfl))))))
        show MW p l e _ s m args below meth c _ 4 G 0 0 85 [some (.ref (G.1 22 0)), some (.int a1), some (.int a2), some (.int a3)] [.int x62] τ59
        exact m_iret C hr hlk (by decide) (by decide) dX12_set_85 ⟨_, rfl, i60, g64, b63, (by omega)⟩
      · have f68 : x23.toInt = 0 := by
          have q : _ := c33
          simp only [ti_nle, ti_nlt, ti_le, ti_lt, ti_eq, ti_ne, Classical.not_not, kt_0] at q
          omega
        have b69 : IV x23 0 0 := ⟨by have q1 := b24; have q2 := kc_0; omega, by have q1 := b24; have q2 := kc_0; omega⟩
        refine m_aload_n C dX12_set_43 rfl rfl ?_
        refine m_iconst (v := 2) C dX12_set_44 (by decide) ?_
        refine m_callV (n := 1) (ci := 11) (st := []) C (c_X12_met l G τ20 (2) i21 (iv_wk kc_2 (by decide))) (by decide) (by decide) rfl rfl rfl q4_196 q4_193 q4_195 q0_26 q1_7 (by decide +kernel) rfl (by decide) (by decide) rfl (Nat.le_of_ble_eq_true rfl) dX12_set_45 ?_
        rintro _ τ70 ⟨x73, rfl, i71, f72, b74, h76⟩
        have g75 : Fr MS_X12_setE AS_X12_setE σ τ70 := Fr.call (g25) f72 (by decide)
        have q77 : (gV τ70 26 0 (a1.toInt.toNat)).toInt = (gV σ 26 0 (a1.toInt.toNat)).toInt := congrArg Int32.toInt (show (gV τ70 26 0 (a1.toInt.toNat)) = (gV σ 26 0 (a1.toInt.toNat)) from (show gV τ70 26 0 (a1.toInt.toNat) = (gV σ 26 0 (a1.toInt.toNat)) from (f72.1 26 0 ((a1.toInt.toNat)) (by simp) (by decide)).trans (show gV τ20 26 0 (a1.toInt.toNat) = (gV σ 26 0 (a1.toInt.toNat)) from (f22.1 26 0 ((a1.toInt.toNat)) (by simp) (by decide)).trans (show gV τ2 26 0 (a1.toInt.toNat) = (gV σ 26 0 (a1.toInt.toNat)) from (f4.1 26 0 ((a1.toInt.toNat)) (by simp) (by decide)).trans rfl))))
        have q78 : (gV τ70 27 0 (a1.toInt.toNat)).toInt = (gV σ 27 0 (a1.toInt.toNat)).toInt := congrArg Int32.toInt (show (gV τ70 27 0 (a1.toInt.toNat)) = (gV σ 27 0 (a1.toInt.toNat)) from (show gV τ70 27 0 (a1.toInt.toNat) = (gV σ 27 0 (a1.toInt.toNat)) from (f72.1 27 0 ((a1.toInt.toNat)) (by simp) (by decide)).trans (show gV τ20 27 0 (a1.toInt.toNat) = (gV σ 27 0 (a1.toInt.toNat)) from (f22.1 27 0 ((a1.toInt.toNat)) (by simp) (by decide)).trans (show gV τ2 27 0 (a1.toInt.toNat) = (gV σ 27 0 (a1.toInt.toNat)) from (f4.1 27 0 ((a1.toInt.toNat)) (by simp) (by decide)).trans rfl))))
        have q79 := kt_2
        show MW p l e _ s m args below meth c _ 4 G 0 0 48 [some (.ref (G.1 22 0)), some (.int a1), some (.int a2), some (.int a3)] [.int x73] τ70
        exact m_iret C hr hlk (by decide) (by decide) dX12_set_48 ⟨_, rfl, i71, g75, (iv_wk b74 (by decide)), (by omega)⟩
    · have f80 : (gV σ 26 0 (a1.toInt.toNat)).toInt < 0 := by
        have q : _ := c15
        simp only [ti_nle, ti_nlt, ti_le, ti_lt, ti_eq, ti_ne, Classical.not_not, kt_0] at q
        omega
      have b81 : IV (gV σ 26 0 (a1.toInt.toNat)) (-2147483648) (-1) := ⟨by have q1 := (iv_any (gV σ 26 0 (a1.toInt.toNat))); have q2 := kc_0; omega, by have q1 := (iv_any (gV σ 26 0 (a1.toInt.toNat))); have q2 := kc_0; omega⟩
      refine m_aload_n C dX12_set_19 rfl rfl ?_
      refine m_iconst (v := 1) C dX12_set_20 (by decide) ?_
      refine m_callV (n := 1) (ci := 11) (st := []) C (c_X12_met l G τ2 (1) i3 (iv_wk kc_1 (by decide))) (by decide) (by decide) rfl rfl rfl q4_196 q4_193 q4_195 q0_26 q1_7 (by decide +kernel) rfl (by decide) (by decide) rfl (Nat.le_of_ble_eq_true rfl) dX12_set_21 ?_
      rintro _ τ82 ⟨x85, rfl, i83, f84, b86, h88⟩
      have g87 : Fr MS_X12_setE AS_X12_setE σ τ82 := Fr.call (g7) f84 (by decide)
      have q89 : (gV τ82 26 0 (a1.toInt.toNat)).toInt = (gV σ 26 0 (a1.toInt.toNat)).toInt := congrArg Int32.toInt (show (gV τ82 26 0 (a1.toInt.toNat)) = (gV σ 26 0 (a1.toInt.toNat)) from (show gV τ82 26 0 (a1.toInt.toNat) = (gV σ 26 0 (a1.toInt.toNat)) from (f84.1 26 0 ((a1.toInt.toNat)) (by simp) (by decide)).trans (show gV τ2 26 0 (a1.toInt.toNat) = (gV σ 26 0 (a1.toInt.toNat)) from (f4.1 26 0 ((a1.toInt.toNat)) (by simp) (by decide)).trans rfl)))
      have q90 : (gV τ82 27 0 (a1.toInt.toNat)).toInt = (gV σ 27 0 (a1.toInt.toNat)).toInt := congrArg Int32.toInt (show (gV τ82 27 0 (a1.toInt.toNat)) = (gV σ 27 0 (a1.toInt.toNat)) from (show gV τ82 27 0 (a1.toInt.toNat) = (gV σ 27 0 (a1.toInt.toNat)) from (f84.1 27 0 ((a1.toInt.toNat)) (by simp) (by decide)).trans (show gV τ2 27 0 (a1.toInt.toNat) = (gV σ 27 0 (a1.toInt.toNat)) from (f4.1 27 0 ((a1.toInt.toNat)) (by simp) (by decide)).trans rfl)))
      have q91 := kt_1
      show MW p l e _ s m args below meth c _ 4 G 0 0 24 [some (.ref (G.1 22 0)), some (.int a1), some (.int a2), some (.int a3)] [.int x85] τ82
      exact m_iret C hr hlk (by decide) (by decide) dX12_set_24 ⟨_, rfl, i83, g87, (iv_wk b86 (by decide)), (by omega)⟩
  · have f92 : x5.toInt = 0 := by
      have q : _ := c11
      simp only [ti_nle, ti_nlt, ti_le, ti_lt, ti_eq, ti_ne, Classical.not_not, kt_0] at q
      omega
    have b93 : IV x5 0 0 := ⟨by have q1 := b6; have q2 := kc_0; omega, by have q1 := b6; have q2 := kc_0; omega⟩
    refine m_ldc (v := (-1000001)) C dX12_set_7 q4_192 ?_
    exact m_iret C hr hlk (by decide) (by decide) dX12_set_9 ⟨_, rfl, i3, g7, (iv_wk kc_m1000001 (by decide)), (by have q := kt_m1000001; omega)⟩

abbrev MS_X11_copyE : List (Nat × Nat) := [(0, 12)]
abbrev AS_X11_copyE : List Nat := [21]
set_option maxHeartbeats 4000000 in
set_option maxRecDepth 100000 in
theorem c_X11_copyE (l : Launch) (G : Gt) (σ : Sg) (a1 : Int32) (a2 : Int32) (a3 : Int32) (a4 : Int32) (a5 : Int32) (hI : Inv σ) : Mc l G yX11_copy cX11_copy 8 (some .int) 1 60 0 0 [.ref (G.1 0 0), .int a1, .int a2, .int a3, .int a4, .int a5] σ (PI fun r τ => Inv τ ∧ Fr MS_X11_copyE AS_X11_copyE σ τ ∧ IV r (-2147483648) 2147483647 ∧ (((a1.toInt < 0 ∨ 7 < a1.toInt ∨ a3.toInt < 0 ∨ 7 < a3.toInt) ∧ r.toInt = -1000001) ∨ ((0 ≤ a1.toInt ∧ a1.toInt ≤ 7 ∧ 0 ≤ a3.toInt ∧ a3.toInt ≤ 7) ∧ ((gV σ 20 (a1.toInt.toNat) 1).toInt = -1 ∨ (gV σ 20 (a3.toInt.toNat) 1).toInt = -1) ∧ r.toInt = -1000011) ∨ ((0 ≤ a1.toInt ∧ a1.toInt ≤ 7 ∧ 0 ≤ a3.toInt ∧ a3.toInt ≤ 7) ∧ ¬ ((gV σ 20 (a1.toInt.toNat) 1).toInt = -1) ∧ ¬ ((gV σ 20 (a3.toInt.toNat) 1).toInt = -1) ∧ (gV σ 20 (a1.toInt.toNat) 1).toInt ≠ (gV σ 20 (a3.toInt.toNat) 1).toInt ∧ r.toInt = -1000015) ∨ ((0 ≤ a1.toInt ∧ a1.toInt ≤ 7 ∧ 0 ≤ a3.toInt ∧ a3.toInt ≤ 7) ∧ ¬ ((gV σ 20 (a1.toInt.toNat) 1).toInt = -1) ∧ ¬ ((gV σ 20 (a3.toInt.toNat) 1).toInt = -1) ∧ (gV σ 20 (a1.toInt.toNat) 1).toInt = (gV σ 20 (a3.toInt.toNat) 1).toInt ∧ ¬ (0 ≤ a2.toInt ∧ 0 ≤ a4.toInt ∧ 0 ≤ a5.toInt ∧ a2.toInt + a5.toInt ≤ (gV σ 20 (a1.toInt.toNat) 2).toInt ∧ a4.toInt + a5.toInt ≤ (gV σ 20 (a3.toInt.toNat) 2).toInt) ∧ r.toInt = -1000012) ∨ ((0 ≤ a1.toInt ∧ a1.toInt ≤ 7 ∧ 0 ≤ a3.toInt ∧ a3.toInt ≤ 7) ∧ ¬ ((gV σ 20 (a1.toInt.toNat) 1).toInt = -1) ∧ ¬ ((gV σ 20 (a3.toInt.toNat) 1).toInt = -1) ∧ (gV σ 20 (a1.toInt.toNat) 1).toInt = (gV σ 20 (a3.toInt.toNat) 1).toInt ∧ (0 ≤ a2.toInt ∧ 0 ≤ a4.toInt ∧ 0 ≤ a5.toInt ∧ a2.toInt + a5.toInt ≤ (gV σ 20 (a1.toInt.toNat) 2).toInt ∧ a4.toInt + a5.toInt ≤ (gV σ 20 (a3.toInt.toNat) 2).toInt) ∧ r.toInt = a5.toInt))) := by
  refine Mc.of (L0 := [some (.ref (G.1 0 0)), some (.int a1), some (.int a2), some (.int a3), some (.int a4), some (.int a5), none, none]) (by decide) (Nat.le_of_ble_eq_true rfl) rfl ?_
  intro p e s m args below meth c C hr hlk
  have C : Cx p s m args c cX11_copy 8 "LeanTower" := C
  have k0 : (0 : Int32).toInt = 0 := by decide
  have k1 : (1 : Int32).toInt = 1 := by decide
  have u1 : IV (gV σ 20 (a1.toInt.toNat) 2) 0 40 := hI.1 20 (a1.toInt.toNat) 2
  have u2 : IV (gV σ 20 (a3.toInt.toNat) 2) 0 40 := hI.1 20 (a3.toInt.toNat) 2
  refine m_aload_n C dX11_copy_0 rfl rfl ?_
  refine m_iload_n C dX11_copy_1 rfl rfl ?_
  refine m_callV (n := 1) (ci := 10) (st := []) C (c_X11_rowAt l G σ (a1) hI ) (by decide) (by decide) rfl rfl rfl q1_233 q1_230 q1_232 q0_0 q1_1 (by decide +kernel) rfl (by decide) (by decide) rfl (Nat.le_of_ble_eq_true rfl) dX11_copy_2 ?_
  rintro _ τ3 ⟨x6, rfl, i4, f5, h9⟩
  have g8 : Fr MS_X11_copyE AS_X11_copyE σ τ3 := Fr.call (Fr.rf) f5 (by decide)
  have q10 : (gV τ3 20 (a1.toInt.toNat) 1).toInt = (gV σ 20 (a1.toInt.toNat) 1).toInt := congrArg Int32.toInt (show (gV τ3 20 (a1.toInt.toNat) 1) = (gV σ 20 (a1.toInt.toNat) 1) from (show gV τ3 20 (a1.toInt.toNat) 1 = (gV σ 20 (a1.toInt.toNat) 1) from (f5.1 20 (a1.toInt.toNat) (1) (by decide) (by decide)).trans rfl))
  have q11 : (gV τ3 20 (a1.toInt.toNat) 2).toInt = (gV σ 20 (a1.toInt.toNat) 2).toInt := congrArg Int32.toInt (show (gV τ3 20 (a1.toInt.toNat) 2) = (gV σ 20 (a1.toInt.toNat) 2) from (show gV τ3 20 (a1.toInt.toNat) 2 = (gV σ 20 (a1.toInt.toNat) 2) from (f5.1 20 (a1.toInt.toNat) (2) (by decide) (by decide)).trans rfl))
  have q12 : (gV τ3 20 (a3.toInt.toNat) 1).toInt = (gV σ 20 (a3.toInt.toNat) 1).toInt := congrArg Int32.toInt (show (gV τ3 20 (a3.toInt.toNat) 1) = (gV σ 20 (a3.toInt.toNat) 1) from (show gV τ3 20 (a3.toInt.toNat) 1 = (gV σ 20 (a3.toInt.toNat) 1) from (f5.1 20 (a3.toInt.toNat) (1) (by decide) (by decide)).trans rfl))
  have q13 : (gV τ3 20 (a3.toInt.toNat) 2).toInt = (gV σ 20 (a3.toInt.toNat) 2).toInt := congrArg Int32.toInt (show (gV τ3 20 (a3.toInt.toNat) 2) = (gV σ 20 (a3.toInt.toNat) 2) from (show gV τ3 20 (a3.toInt.toNat) 2 = (gV σ 20 (a3.toInt.toNat) 2) from (f5.1 20 (a3.toInt.toNat) (2) (by decide) (by decide)).trans rfl))
  rcases h9 with ⟨rfl, x6q⟩ | ⟨rfl, x6q⟩
  · skip
    show MW p l e _ s m args below meth c _ 8 G 0 0 5 [some (.ref (G.1 0 0)), some (.int a1), some (.int a2), some (.int a3), some (.int a4), some (.int a5), none, none] [.null] τ3
    refine m_astoreN (L1 := [some (.ref (G.1 0 0)), some (.int a1), some (.int a2), some (.int a3), some (.int a4), some (.int a5), some (.null), none]) C dX11_copy_5 (by decide) rfl rfl ?_
    refine m_aload_n C dX11_copy_7 rfl rfl ?_
    refine m_iload_n C dX11_copy_8 rfl rfl ?_
    refine m_callV (n := 1) (ci := 10) (st := []) C (c_X11_rowAt l G τ3 (a3) i4 ) (by decide) (by decide) rfl rfl rfl q1_233 q1_230 q1_232 q0_0 q1_1 (by decide +kernel) rfl (by decide) (by decide) rfl (Nat.le_of_ble_eq_true rfl) dX11_copy_9 ?_
    rintro _ τ14 ⟨x17, rfl, i15, f16, h20⟩
    have g19 : Fr MS_X11_copyE AS_X11_copyE σ τ14 := Fr.call (g8) f16 (by decide)
    have q21 : (gV τ14 20 (a1.toInt.toNat) 1).toInt = (gV σ 20 (a1.toInt.toNat) 1).toInt := congrArg Int32.toInt (show (gV τ14 20 (a1.toInt.toNat) 1) = (gV σ 20 (a1.toInt.toNat) 1) from (show gV τ14 20 (a1.toInt.toNat) 1 = (gV σ 20 (a1.toInt.toNat) 1) from (f16.1 20 (a1.toInt.toNat) (1) (by decide) (by decide)).trans (show gV τ3 20 (a1.toInt.toNat) 1 = (gV σ 20 (a1.toInt.toNat) 1) from (f5.1 20 (a1.toInt.toNat) (1) (by decide) (by decide)).trans rfl)))
    have q22 : (gV τ14 20 (a1.toInt.toNat) 2).toInt = (gV σ 20 (a1.toInt.toNat) 2).toInt := congrArg Int32.toInt (show (gV τ14 20 (a1.toInt.toNat) 2) = (gV σ 20 (a1.toInt.toNat) 2) from (show gV τ14 20 (a1.toInt.toNat) 2 = (gV σ 20 (a1.toInt.toNat) 2) from (f16.1 20 (a1.toInt.toNat) (2) (by decide) (by decide)).trans (show gV τ3 20 (a1.toInt.toNat) 2 = (gV σ 20 (a1.toInt.toNat) 2) from (f5.1 20 (a1.toInt.toNat) (2) (by decide) (by decide)).trans rfl)))
    have q23 : (gV τ14 20 (a3.toInt.toNat) 1).toInt = (gV σ 20 (a3.toInt.toNat) 1).toInt := congrArg Int32.toInt (show (gV τ14 20 (a3.toInt.toNat) 1) = (gV σ 20 (a3.toInt.toNat) 1) from (show gV τ14 20 (a3.toInt.toNat) 1 = (gV σ 20 (a3.toInt.toNat) 1) from (f16.1 20 (a3.toInt.toNat) (1) (by decide) (by decide)).trans (show gV τ3 20 (a3.toInt.toNat) 1 = (gV σ 20 (a3.toInt.toNat) 1) from (f5.1 20 (a3.toInt.toNat) (1) (by decide) (by decide)).trans rfl)))
    have q24 : (gV τ14 20 (a3.toInt.toNat) 2).toInt = (gV σ 20 (a3.toInt.toNat) 2).toInt := congrArg Int32.toInt (show (gV τ14 20 (a3.toInt.toNat) 2) = (gV σ 20 (a3.toInt.toNat) 2) from (show gV τ14 20 (a3.toInt.toNat) 2 = (gV σ 20 (a3.toInt.toNat) 2) from (f16.1 20 (a3.toInt.toNat) (2) (by decide) (by decide)).trans (show gV τ3 20 (a3.toInt.toNat) 2 = (gV σ 20 (a3.toInt.toNat) 2) from (f5.1 20 (a3.toInt.toNat) (2) (by decide) (by decide)).trans rfl)))
    rcases h20 with ⟨rfl, x17q⟩ | ⟨rfl, x17q⟩
    · skip
      show MW p l e _ s m args below meth c _ 8 G 0 0 12 [some (.ref (G.1 0 0)), some (.int a1), some (.int a2), some (.int a3), some (.int a4), some (.int a5), some (.null), none] [.null] τ14
      refine m_astoreN (L1 := [some (.ref (G.1 0 0)), some (.int a1), some (.int a2), some (.int a3), some (.int a4), some (.int a5), some (.null), some (.null)]) C dX11_copy_12 (by decide) rfl rfl ?_
      refine m_aloadN C dX11_copy_14 rfl ?_
      refine m_ifnullN (tgt := 24) C dX11_copy_16 (by decide) ?_
      refine m_ldc (v := (-1000001)) C dX11_copy_24 q1_234 ?_
      exact m_iret C hr hlk (by decide) (by decide) dX11_copy_26 ⟨_, rfl, i15, g19, (iv_wk kc_m1000001 (by decide)), (by have q := kt_m1000001; omega)⟩
    · have b25 : IV a3 0 7 := ⟨by have q1 := (iv_any a3); omega, by have q1 := (iv_any a3); omega⟩
      show MW p l e _ s m args below meth c _ 8 G 0 0 12 [some (.ref (G.1 0 0)), some (.int a1), some (.int a2), some (.int a3), some (.int a4), some (.int a5), some (.null), none] [.ref (G.1 20 (a3.toInt.toNat))] τ14
      refine m_astore (L1 := [some (.ref (G.1 0 0)), some (.int a1), some (.int a2), some (.int a3), some (.int a4), some (.int a5), some (.null), some (.ref (G.1 20 (a3.toInt.toNat)))]) C dX11_copy_12 (by decide) rfl rfl ?_
      refine m_aloadN C dX11_copy_14 rfl ?_
      refine m_ifnullN (tgt := 24) C dX11_copy_16 (by decide) ?_
      refine m_ldc (v := (-1000001)) C dX11_copy_24 q1_234 ?_
      exact m_iret C hr hlk (by decide) (by decide) dX11_copy_26 ⟨_, rfl, i15, g19, (iv_wk kc_m1000001 (by decide)), (by have q := kt_m1000001; omega)⟩
  · have b26 : IV a1 0 7 := ⟨by have q1 := (iv_any a1); omega, by have q1 := (iv_any a1); omega⟩
    show MW p l e _ s m args below meth c _ 8 G 0 0 5 [some (.ref (G.1 0 0)), some (.int a1), some (.int a2), some (.int a3), some (.int a4), some (.int a5), none, none] [.ref (G.1 20 (a1.toInt.toNat))] τ3
    refine m_astore (L1 := [some (.ref (G.1 0 0)), some (.int a1), some (.int a2), some (.int a3), some (.int a4), some (.int a5), some (.ref (G.1 20 (a1.toInt.toNat))), none]) C dX11_copy_5 (by decide) rfl rfl ?_
    refine m_aload_n C dX11_copy_7 rfl rfl ?_
    refine m_iload_n C dX11_copy_8 rfl rfl ?_
    refine m_callV (n := 1) (ci := 10) (st := []) C (c_X11_rowAt l G τ3 (a3) i4 ) (by decide) (by decide) rfl rfl rfl q1_233 q1_230 q1_232 q0_0 q1_1 (by decide +kernel) rfl (by decide) (by decide) rfl (Nat.le_of_ble_eq_true rfl) dX11_copy_9 ?_
    rintro _ τ27 ⟨x30, rfl, i28, f29, h33⟩
    have g32 : Fr MS_X11_copyE AS_X11_copyE σ τ27 := Fr.call (g8) f29 (by decide)
    have q34 : (gV τ27 20 (a1.toInt.toNat) 1).toInt = (gV σ 20 (a1.toInt.toNat) 1).toInt := congrArg Int32.toInt (show (gV τ27 20 (a1.toInt.toNat) 1) = (gV σ 20 (a1.toInt.toNat) 1) from (show gV τ27 20 (a1.toInt.toNat) 1 = (gV σ 20 (a1.toInt.toNat) 1) from (f29.1 20 (a1.toInt.toNat) (1) (by decide) (by decide)).trans (show gV τ3 20 (a1.toInt.toNat) 1 = (gV σ 20 (a1.toInt.toNat) 1) from (f5.1 20 (a1.toInt.toNat) (1) (by decide) (by decide)).trans rfl)))
    have q35 : (gV τ27 20 (a1.toInt.toNat) 2).toInt = (gV σ 20 (a1.toInt.toNat) 2).toInt := congrArg Int32.toInt (show (gV τ27 20 (a1.toInt.toNat) 2) = (gV σ 20 (a1.toInt.toNat) 2) from (show gV τ27 20 (a1.toInt.toNat) 2 = (gV σ 20 (a1.toInt.toNat) 2) from (f29.1 20 (a1.toInt.toNat) (2) (by decide) (by decide)).trans (show gV τ3 20 (a1.toInt.toNat) 2 = (gV σ 20 (a1.toInt.toNat) 2) from (f5.1 20 (a1.toInt.toNat) (2) (by decide) (by decide)).trans rfl)))
    have q36 : (gV τ27 20 (a3.toInt.toNat) 1).toInt = (gV σ 20 (a3.toInt.toNat) 1).toInt := congrArg Int32.toInt (show (gV τ27 20 (a3.toInt.toNat) 1) = (gV σ 20 (a3.toInt.toNat) 1) from (show gV τ27 20 (a3.toInt.toNat) 1 = (gV σ 20 (a3.toInt.toNat) 1) from (f29.1 20 (a3.toInt.toNat) (1) (by decide) (by decide)).trans (show gV τ3 20 (a3.toInt.toNat) 1 = (gV σ 20 (a3.toInt.toNat) 1) from (f5.1 20 (a3.toInt.toNat) (1) (by decide) (by decide)).trans rfl)))
    have q37 : (gV τ27 20 (a3.toInt.toNat) 2).toInt = (gV σ 20 (a3.toInt.toNat) 2).toInt := congrArg Int32.toInt (show (gV τ27 20 (a3.toInt.toNat) 2) = (gV σ 20 (a3.toInt.toNat) 2) from (show gV τ27 20 (a3.toInt.toNat) 2 = (gV σ 20 (a3.toInt.toNat) 2) from (f29.1 20 (a3.toInt.toNat) (2) (by decide) (by decide)).trans (show gV τ3 20 (a3.toInt.toNat) 2 = (gV σ 20 (a3.toInt.toNat) 2) from (f5.1 20 (a3.toInt.toNat) (2) (by decide) (by decide)).trans rfl)))
    rcases h33 with ⟨rfl, x30q⟩ | ⟨rfl, x30q⟩
    · skip
      show MW p l e _ s m args below meth c _ 8 G 0 0 12 [some (.ref (G.1 0 0)), some (.int a1), some (.int a2), some (.int a3), some (.int a4), some (.int a5), some (.ref (G.1 20 (a1.toInt.toNat))), none] [.null] τ27
      refine m_astoreN (L1 := [some (.ref (G.1 0 0)), some (.int a1), some (.int a2), some (.int a3), some (.int a4), some (.int a5), some (.ref (G.1 20 (a1.toInt.toNat))), some (.null)]) C dX11_copy_12 (by decide) rfl rfl ?_
      refine m_aload C dX11_copy_14 rfl ?_
      refine m_ifnull C dX11_copy_16 ?_
      refine m_aloadN C dX11_copy_19 rfl ?_
      refine m_ifnonnullN C dX11_copy_21 ?_
      refine m_ldc (v := (-1000001)) C dX11_copy_24 q1_234 ?_
      exact m_iret C hr hlk (by decide) (by decide) dX11_copy_26 ⟨_, rfl, i28, g32, (iv_wk kc_m1000001 (by decide)), (by have q := kt_m1000001; omega)⟩
    · have b38 : IV a3 0 7 := ⟨by have q1 := (iv_any a3); omega, by have q1 := (iv_any a3); omega⟩
      show MW p l e _ s m args below meth c _ 8 G 0 0 12 [some (.ref (G.1 0 0)), some (.int a1), some (.int a2), some (.int a3), some (.int a4), some (.int a5), some (.ref (G.1 20 (a1.toInt.toNat))), none] [.ref (G.1 20 (a3.toInt.toNat))] τ27
      refine m_astore (L1 := [some (.ref (G.1 0 0)), some (.int a1), some (.int a2), some (.int a3), some (.int a4), some (.int a5), some (.ref (G.1 20 (a1.toInt.toNat))), some (.ref (G.1 20 (a3.toInt.toNat)))]) C dX11_copy_12 (by decide) rfl rfl ?_
      refine m_aload C dX11_copy_14 rfl ?_
      refine m_ifnull C dX11_copy_16 ?_
      refine m_aload C dX11_copy_19 rfl ?_
      refine m_ifnonnull (tgt := 27) C dX11_copy_21 (by decide) ?_
      refine m_aload C dX11_copy_27 rfl ?_
      refine m_callV (n := 0) (ci := 6) (st := []) C (c_X7_isMissingE l G τ27 (j := (a1.toInt.toNat)) (iv_nat b26 (by decide))  i28 ) (by decide) (iv_nat b26 (by decide)) rfl rfl rfl q2_15 q2_12 q2_13 q2_14 q1_6 (by decide +kernel) rfl (by decide) (by decide) rfl (Nat.le_of_ble_eq_true rfl) dX11_copy_29 ?_
      rintro _ τ39 ⟨x42, rfl, i40, f41, b43, h45⟩
      have g44 : Fr MS_X11_copyE AS_X11_copyE σ τ39 := Fr.call (g32) f41 (by decide)
      have q46 : (gV τ39 20 (a1.toInt.toNat) 1).toInt = (gV σ 20 (a1.toInt.toNat) 1).toInt := congrArg Int32.toInt (show (gV τ39 20 (a1.toInt.toNat) 1) = (gV σ 20 (a1.toInt.toNat) 1) from (show gV τ39 20 (a1.toInt.toNat) 1 = (gV σ 20 (a1.toInt.toNat) 1) from (f41.1 20 (a1.toInt.toNat) (1) (by decide) (by decide)).trans (show gV τ27 20 (a1.toInt.toNat) 1 = (gV σ 20 (a1.toInt.toNat) 1) from (f29.1 20 (a1.toInt.toNat) (1) (by decide) (by decide)).trans (show gV τ3 20 (a1.toInt.toNat) 1 = (gV σ 20 (a1.toInt.toNat) 1) from (f5.1 20 (a1.toInt.toNat) (1) (by decide) (by decide)).trans rfl))))
      have q47 : (gV τ39 20 (a1.toInt.toNat) 2).toInt = (gV σ 20 (a1.toInt.toNat) 2).toInt := congrArg Int32.toInt (show (gV τ39 20 (a1.toInt.toNat) 2) = (gV σ 20 (a1.toInt.toNat) 2) from (show gV τ39 20 (a1.toInt.toNat) 2 = (gV σ 20 (a1.toInt.toNat) 2) from (f41.1 20 (a1.toInt.toNat) (2) (by decide) (by decide)).trans (show gV τ27 20 (a1.toInt.toNat) 2 = (gV σ 20 (a1.toInt.toNat) 2) from (f29.1 20 (a1.toInt.toNat) (2) (by decide) (by decide)).trans (show gV τ3 20 (a1.toInt.toNat) 2 = (gV σ 20 (a1.toInt.toNat) 2) from (f5.1 20 (a1.toInt.toNat) (2) (by decide) (by decide)).trans rfl))))
      have q48 : (gV τ39 20 (a3.toInt.toNat) 1).toInt = (gV σ 20 (a3.toInt.toNat) 1).toInt := congrArg Int32.toInt (show (gV τ39 20 (a3.toInt.toNat) 1) = (gV σ 20 (a3.toInt.toNat) 1) from (show gV τ39 20 (a3.toInt.toNat) 1 = (gV σ 20 (a3.toInt.toNat) 1) from (f41.1 20 (a3.toInt.toNat) (1) (by decide) (by decide)).trans (show gV τ27 20 (a3.toInt.toNat) 1 = (gV σ 20 (a3.toInt.toNat) 1) from (f29.1 20 (a3.toInt.toNat) (1) (by decide) (by decide)).trans (show gV τ3 20 (a3.toInt.toNat) 1 = (gV σ 20 (a3.toInt.toNat) 1) from (f5.1 20 (a3.toInt.toNat) (1) (by decide) (by decide)).trans rfl))))
      have q49 : (gV τ39 20 (a3.toInt.toNat) 2).toInt = (gV σ 20 (a3.toInt.toNat) 2).toInt := congrArg Int32.toInt (show (gV τ39 20 (a3.toInt.toNat) 2) = (gV σ 20 (a3.toInt.toNat) 2) from (show gV τ39 20 (a3.toInt.toNat) 2 = (gV σ 20 (a3.toInt.toNat) 2) from (f41.1 20 (a3.toInt.toNat) (2) (by decide) (by decide)).trans (show gV τ27 20 (a3.toInt.toNat) 2 = (gV σ 20 (a3.toInt.toNat) 2) from (f29.1 20 (a3.toInt.toNat) (2) (by decide) (by decide)).trans (show gV τ3 20 (a3.toInt.toNat) 2 = (gV σ 20 (a3.toInt.toNat) 2) from (f5.1 20 (a3.toInt.toNat) (2) (by decide) (by decide)).trans rfl))))
      show MW p l e _ s m args below meth c _ 8 G 0 0 32 [some (.ref (G.1 0 0)), some (.int a1), some (.int a2), some (.int a3), some (.int a4), some (.int a5), some (.ref (G.1 20 (a1.toInt.toNat))), some (.ref (G.1 20 (a3.toInt.toNat)))] [.int x42] τ39
      refine m_if_ne (tgt := 43) C dX11_copy_32 (by decide) (fun c50 => ?_) (fun c50 => ?_)
      · have f51 : x42.toInt ≠ 0 := by
          have q : _ := c50
          simp only [ti_nle, ti_nlt, ti_le, ti_lt, ti_eq, ti_ne, Classical.not_not, kt_0] at q
          omega
        have b52 : IV x42 1 1 := ⟨by have q1 := b43; have q2 := kc_0; omega, by have q1 := b43; have q2 := kc_0; omega⟩
        refine m_aload_n C dX11_copy_43 rfl rfl ?_
        refine m_iconst (v := 1) C dX11_copy_44 (by decide) ?_
        refine m_callV (n := 1) (ci := 10) (st := []) C (c_X11_found l G τ39 (1) i40 (iv_wk kc_1 (by decide))) (by decide) (by decide) rfl rfl rfl q1_238 q1_235 q1_237 q0_1 q1_1 (by decide +kernel) rfl (by decide) (by decide) rfl (Nat.le_of_ble_eq_true rfl) dX11_copy_45 ?_
        rintro _ τ53 ⟨x56, rfl, i54, f55, b57, h59⟩
        have g58 : Fr MS_X11_copyE AS_X11_copyE σ τ53 := Fr.call (g44) f55 (by decide)
        have q60 : (gV τ53 20 (a1.toInt.toNat) 1).toInt = (gV σ 20 (a1.toInt.toNat) 1).toInt := congrArg Int32.toInt (show (gV τ53 20 (a1.toInt.toNat) 1) = (gV σ 20 (a1.toInt.toNat) 1) from (show gV τ53 20 (a1.toInt.toNat) 1 = (gV σ 20 (a1.toInt.toNat) 1) from (f55.1 20 (a1.toInt.toNat) (1) (by decide) (by decide)).trans (show gV τ39 20 (a1.toInt.toNat) 1 = (gV σ 20 (a1.toInt.toNat) 1) from (f41.1 20 (a1.toInt.toNat) (1) (by decide) (by decide)).trans (show gV τ27 20 (a1.toInt.toNat) 1 = (gV σ 20 (a1.toInt.toNat) 1) from (f29.1 20 (a1.toInt.toNat) (1) (by decide) (by decide)).trans (show gV τ3 20 (a1.toInt.toNat) 1 = (gV σ 20 (a1.toInt.toNat) 1) from (f5.1 20 (a1.toInt.toNat) (1) (by decide) (by decide)).trans rfl)))))
        have q61 : (gV τ53 20 (a1.toInt.toNat) 2).toInt = (gV σ 20 (a1.toInt.toNat) 2).toInt := congrArg Int32.toInt (show (gV τ53 20 (a1.toInt.toNat) 2) = (gV σ 20 (a1.toInt.toNat) 2) from (show gV τ53 20 (a1.toInt.toNat) 2 = (gV σ 20 (a1.toInt.toNat) 2) from (f55.1 20 (a1.toInt.toNat) (2) (by decide) (by decide)).trans (show gV τ39 20 (a1.toInt.toNat) 2 = (gV σ 20 (a1.toInt.toNat) 2) from (f41.1 20 (a1.toInt.toNat) (2) (by decide) (by decide)).trans (show gV τ27 20 (a1.toInt.toNat) 2 = (gV σ 20 (a1.toInt.toNat) 2) from (f29.1 20 (a1.toInt.toNat) (2) (by decide) (by decide)).trans (show gV τ3 20 (a1.toInt.toNat) 2 = (gV σ 20 (a1.toInt.toNat) 2) from (f5.1 20 (a1.toInt.toNat) (2) (by decide) (by decide)).trans rfl)))))
        have q62 : (gV τ53 20 (a3.toInt.toNat) 1).toInt = (gV σ 20 (a3.toInt.toNat) 1).toInt := congrArg Int32.toInt (show (gV τ53 20 (a3.toInt.toNat) 1) = (gV σ 20 (a3.toInt.toNat) 1) from (show gV τ53 20 (a3.toInt.toNat) 1 = (gV σ 20 (a3.toInt.toNat) 1) from (f55.1 20 (a3.toInt.toNat) (1) (by decide) (by decide)).trans (show gV τ39 20 (a3.toInt.toNat) 1 = (gV σ 20 (a3.toInt.toNat) 1) from (f41.1 20 (a3.toInt.toNat) (1) (by decide) (by decide)).trans (show gV τ27 20 (a3.toInt.toNat) 1 = (gV σ 20 (a3.toInt.toNat) 1) from (f29.1 20 (a3.toInt.toNat) (1) (by decide) (by decide)).trans (show gV τ3 20 (a3.toInt.toNat) 1 = (gV σ 20 (a3.toInt.toNat) 1) from (f5.1 20 (a3.toInt.toNat) (1) (by decide) (by decide)).trans rfl)))))
        have q63 : (gV τ53 20 (a3.toInt.toNat) 2).toInt = (gV σ 20 (a3.toInt.toNat) 2).toInt := congrArg Int32.toInt (show (gV τ53 20 (a3.toInt.toNat) 2) = (gV σ 20 (a3.toInt.toNat) 2) from (show gV τ53 20 (a3.toInt.toNat) 2 = (gV σ 20 (a3.toInt.toNat) 2) from (f55.1 20 (a3.toInt.toNat) (2) (by decide) (by decide)).trans (show gV τ39 20 (a3.toInt.toNat) 2 = (gV σ 20 (a3.toInt.toNat) 2) from (f41.1 20 (a3.toInt.toNat) (2) (by decide) (by decide)).trans (show gV τ27 20 (a3.toInt.toNat) 2 = (gV σ 20 (a3.toInt.toNat) 2) from (f29.1 20 (a3.toInt.toNat) (2) (by decide) (by decide)).trans (show gV τ3 20 (a3.toInt.toNat) 2 = (gV σ 20 (a3.toInt.toNat) 2) from (f5.1 20 (a3.toInt.toNat) (2) (by decide) (by decide)).trans rfl)))))
        have q64 := kt_1
        show MW p l e _ s m args below meth c _ 8 G 0 0 48 [some (.ref (G.1 0 0)), some (.int a1), some (.int a2), some (.int a3), some (.int a4), some (.int a5), some (.ref (G.1 20 (a1.toInt.toNat))), some (.ref (G.1 20 (a3.toInt.toNat)))] [.int x56] τ53
        exact m_iret C hr hlk (by decide) (by decide) dX11_copy_48 ⟨_, rfl, i54, g58, (iv_wk b57 (by decide)), (by omega)⟩
      · have f65 : x42.toInt = 0 := by
          have q : _ := c50
          simp only [ti_nle, ti_nlt, ti_le, ti_lt, ti_eq, ti_ne, Classical.not_not, kt_0] at q
          omega
        have b66 : IV x42 0 0 := ⟨by have q1 := b43; have q2 := kc_0; omega, by have q1 := b43; have q2 := kc_0; omega⟩
        refine m_aload C dX11_copy_35 rfl ?_
        refine m_callV (n := 0) (ci := 6) (st := []) C (c_X7_isMissingE l G τ39 (j := (a3.toInt.toNat)) (iv_nat b38 (by decide))  i40 ) (by decide) (iv_nat b38 (by decide)) rfl rfl rfl q2_15 q2_12 q2_13 q2_14 q1_6 (by decide +kernel) rfl (by decide) (by decide) rfl (Nat.le_of_ble_eq_true rfl) dX11_copy_37 ?_
        rintro _ τ67 ⟨x70, rfl, i68, f69, b71, h73⟩
        have g72 : Fr MS_X11_copyE AS_X11_copyE σ τ67 := Fr.call (g44) f69 (by decide)
        have q74 : (gV τ67 20 (a1.toInt.toNat) 1).toInt = (gV σ 20 (a1.toInt.toNat) 1).toInt := congrArg Int32.toInt (show (gV τ67 20 (a1.toInt.toNat) 1) = (gV σ 20 (a1.toInt.toNat) 1) from (show gV τ67 20 (a1.toInt.toNat) 1 = (gV σ 20 (a1.toInt.toNat) 1) from (f69.1 20 (a1.toInt.toNat) (1) (by decide) (by decide)).trans (show gV τ39 20 (a1.toInt.toNat) 1 = (gV σ 20 (a1.toInt.toNat) 1) from (f41.1 20 (a1.toInt.toNat) (1) (by decide) (by decide)).trans (show gV τ27 20 (a1.toInt.toNat) 1 = (gV σ 20 (a1.toInt.toNat) 1) from (f29.1 20 (a1.toInt.toNat) (1) (by decide) (by decide)).trans (show gV τ3 20 (a1.toInt.toNat) 1 = (gV σ 20 (a1.toInt.toNat) 1) from (f5.1 20 (a1.toInt.toNat) (1) (by decide) (by decide)).trans rfl)))))
        have q75 : (gV τ67 20 (a1.toInt.toNat) 2).toInt = (gV σ 20 (a1.toInt.toNat) 2).toInt := congrArg Int32.toInt (show (gV τ67 20 (a1.toInt.toNat) 2) = (gV σ 20 (a1.toInt.toNat) 2) from (show gV τ67 20 (a1.toInt.toNat) 2 = (gV σ 20 (a1.toInt.toNat) 2) from (f69.1 20 (a1.toInt.toNat) (2) (by decide) (by decide)).trans (show gV τ39 20 (a1.toInt.toNat) 2 = (gV σ 20 (a1.toInt.toNat) 2) from (f41.1 20 (a1.toInt.toNat) (2) (by decide) (by decide)).trans (show gV τ27 20 (a1.toInt.toNat) 2 = (gV σ 20 (a1.toInt.toNat) 2) from (f29.1 20 (a1.toInt.toNat) (2) (by decide) (by decide)).trans (show gV τ3 20 (a1.toInt.toNat) 2 = (gV σ 20 (a1.toInt.toNat) 2) from (f5.1 20 (a1.toInt.toNat) (2) (by decide) (by decide)).trans rfl)))))
        have q76 : (gV τ67 20 (a3.toInt.toNat) 1).toInt = (gV σ 20 (a3.toInt.toNat) 1).toInt := congrArg Int32.toInt (show (gV τ67 20 (a3.toInt.toNat) 1) = (gV σ 20 (a3.toInt.toNat) 1) from (show gV τ67 20 (a3.toInt.toNat) 1 = (gV σ 20 (a3.toInt.toNat) 1) from (f69.1 20 (a3.toInt.toNat) (1) (by decide) (by decide)).trans (show gV τ39 20 (a3.toInt.toNat) 1 = (gV σ 20 (a3.toInt.toNat) 1) from (f41.1 20 (a3.toInt.toNat) (1) (by decide) (by decide)).trans (show gV τ27 20 (a3.toInt.toNat) 1 = (gV σ 20 (a3.toInt.toNat) 1) from (f29.1 20 (a3.toInt.toNat) (1) (by decide) (by decide)).trans (show gV τ3 20 (a3.toInt.toNat) 1 = (gV σ 20 (a3.toInt.toNat) 1) from (f5.1 20 (a3.toInt.toNat) (1) (by decide) (by decide)).trans rfl)))))
        have q77 : (gV τ67 20 (a3.toInt.toNat) 2).toInt = (gV σ 20 (a3.toInt.toNat) 2).toInt := congrArg Int32.toInt (show (gV τ67 20 (a3.toInt.toNat) 2) = (gV σ 20 (a3.toInt.toNat) 2) from (show gV τ67 20 (a3.toInt.toNat) 2 = (gV σ 20 (a3.toInt.toNat) 2) from (f69.1 20 (a3.toInt.toNat) (2) (by decide) (by decide)).trans (show gV τ39 20 (a3.toInt.toNat) 2 = (gV σ 20 (a3.toInt.toNat) 2) from (f41.1 20 (a3.toInt.toNat) (2) (by decide) (by decide)).trans (show gV τ27 20 (a3.toInt.toNat) 2 = (gV σ 20 (a3.toInt.toNat) 2) from (f29.1 20 (a3.toInt.toNat) (2) (by decide) (by decide)).trans (show gV τ3 20 (a3.toInt.toNat) 2 = (gV σ 20 (a3.toInt.toNat) 2) from (f5.1 20 (a3.toInt.toNat) (2) (by decide) (by decide)).trans rfl)))))
        show MW p l e _ s m args below meth c _ 8 G 0 0 40 [some (.ref (G.1 0 0)), some (.int a1), some (.int a2), some (.int a3), some (.int a4), some (.int a5), some (.ref (G.1 20 (a1.toInt.toNat))), some (.ref (G.1 20 (a3.toInt.toNat)))] [.int x70] τ67
        refine m_if_eq (tgt := 49) C dX11_copy_40 (by decide) (fun c78 => ?_) (fun c78 => ?_)
        · have f79 : x70.toInt = 0 := by
            have q : _ := c78
            simp only [ti_nle, ti_nlt, ti_le, ti_lt, ti_eq, ti_ne, Classical.not_not, kt_0] at q
            omega
          have b80 : IV x70 0 0 := ⟨by have q1 := b71; have q2 := kc_0; omega, by have q1 := b71; have q2 := kc_0; omega⟩
          refine m_aload C dX11_copy_49 rfl ?_
          refine g_20_1 C (iv_nat b26 (by decide)) q1_175 dX11_copy_51 ?_
          refine m_eqs (w := (gV σ 20 (a1.toInt.toNat) 1)) (show gV τ67 20 (a1.toInt.toNat) 1 = (gV σ 20 (a1.toInt.toNat) 1) from (f69.1 20 (a1.toInt.toNat) (1) (by decide) (by decide)).trans (show gV τ39 20 (a1.toInt.toNat) 1 = (gV σ 20 (a1.toInt.toNat) 1) from (f41.1 20 (a1.toInt.toNat) (1) (by decide) (by decide)).trans (show gV τ27 20 (a1.toInt.toNat) 1 = (gV σ 20 (a1.toInt.toNat) 1) from (f29.1 20 (a1.toInt.toNat) (1) (by decide) (by decide)).trans (show gV τ3 20 (a1.toInt.toNat) 1 = (gV σ 20 (a1.toInt.toNat) 1) from (f5.1 20 (a1.toInt.toNat) (1) (by decide) (by decide)).trans rfl)))) ?_
          refine m_aload C dX11_copy_54 rfl ?_
          refine g_20_1 C (iv_nat b38 (by decide)) q1_175 dX11_copy_56 ?_
          refine m_eqs (w := (gV σ 20 (a3.toInt.toNat) 1)) (show gV τ67 20 (a3.toInt.toNat) 1 = (gV σ 20 (a3.toInt.toNat) 1) from (f69.1 20 (a3.toInt.toNat) (1) (by decide) (by decide)).trans (show gV τ39 20 (a3.toInt.toNat) 1 = (gV σ 20 (a3.toInt.toNat) 1) from (f41.1 20 (a3.toInt.toNat) (1) (by decide) (by decide)).trans (show gV τ27 20 (a3.toInt.toNat) 1 = (gV σ 20 (a3.toInt.toNat) 1) from (f29.1 20 (a3.toInt.toNat) (1) (by decide) (by decide)).trans (show gV τ3 20 (a3.toInt.toNat) 1 = (gV σ 20 (a3.toInt.toNat) 1) from (f5.1 20 (a3.toInt.toNat) (1) (by decide) (by decide)).trans rfl)))) ?_
          refine m_icmp_eq (tgt := 68) C dX11_copy_59 (by decide) (fun c81 => ?_) (fun c81 => ?_)
          · have f82 : (gV σ 20 (a1.toInt.toNat) 1).toInt = (gV σ 20 (a3.toInt.toNat) 1).toInt := by
              have q : _ := c81
              simp only [ti_nle, ti_nlt, ti_le, ti_lt, ti_eq, ti_ne, Classical.not_not] at q
              omega
            refine m_aload C dX11_copy_68 rfl ?_
            refine m_iload_n C dX11_copy_70 rfl rfl ?_
            refine m_iload C dX11_copy_71 rfl ?_
            refine m_callV (n := 2) (ci := 6) (st := []) C (c_X7_reachesE l G τ67 (j := (a1.toInt.toNat)) (iv_nat b26 (by decide)) (a2) (a5) i68 ) (by decide) (iv_nat b26 (by decide)) rfl rfl rfl q2_27 q2_24 q2_25 q2_26 q1_6 (by decide +kernel) rfl (by decide) (by decide) rfl (Nat.le_of_ble_eq_true rfl) dX11_copy_73 ?_
            rintro _ τ83 ⟨x86, rfl, i84, f85, b87, h89⟩
            have g88 : Fr MS_X11_copyE AS_X11_copyE σ τ83 := Fr.call (g72) f85 (by decide)
            have q90 : (gV τ83 20 (a1.toInt.toNat) 1).toInt = (gV σ 20 (a1.toInt.toNat) 1).toInt := congrArg Int32.toInt (show (gV τ83 20 (a1.toInt.toNat) 1) = (gV σ 20 (a1.toInt.toNat) 1) from (show gV τ83 20 (a1.toInt.toNat) 1 = (gV σ 20 (a1.toInt.toNat) 1) from (f85.1 20 (a1.toInt.toNat) (1) (by decide) (by decide)).trans (show gV τ67 20 (a1.toInt.toNat) 1 = (gV σ 20 (a1.toInt.toNat) 1) from (f69.1 20 (a1.toInt.toNat) (1) (by decide) (by decide)).trans (show gV τ39 20 (a1.toInt.toNat) 1 = (gV σ 20 (a1.toInt.toNat) 1) from (f41.1 20 (a1.toInt.toNat) (1) (by decide) (by decide)).trans (show gV τ27 20 (a1.toInt.toNat) 1 = (gV σ 20 (a1.toInt.toNat) 1) from (f29.1 20 (a1.toInt.toNat) (1) (by decide) (by decide)).trans (show gV τ3 20 (a1.toInt.toNat) 1 = (gV σ 20 (a1.toInt.toNat) 1) from (f5.1 20 (a1.toInt.toNat) (1) (by decide) (by decide)).trans rfl))))))
            have q91 : (gV τ83 20 (a1.toInt.toNat) 2).toInt = (gV σ 20 (a1.toInt.toNat) 2).toInt := congrArg Int32.toInt (show (gV τ83 20 (a1.toInt.toNat) 2) = (gV σ 20 (a1.toInt.toNat) 2) from (show gV τ83 20 (a1.toInt.toNat) 2 = (gV σ 20 (a1.toInt.toNat) 2) from (f85.1 20 (a1.toInt.toNat) (2) (by decide) (by decide)).trans (show gV τ67 20 (a1.toInt.toNat) 2 = (gV σ 20 (a1.toInt.toNat) 2) from (f69.1 20 (a1.toInt.toNat) (2) (by decide) (by decide)).trans (show gV τ39 20 (a1.toInt.toNat) 2 = (gV σ 20 (a1.toInt.toNat) 2) from (f41.1 20 (a1.toInt.toNat) (2) (by decide) (by decide)).trans (show gV τ27 20 (a1.toInt.toNat) 2 = (gV σ 20 (a1.toInt.toNat) 2) from (f29.1 20 (a1.toInt.toNat) (2) (by decide) (by decide)).trans (show gV τ3 20 (a1.toInt.toNat) 2 = (gV σ 20 (a1.toInt.toNat) 2) from (f5.1 20 (a1.toInt.toNat) (2) (by decide) (by decide)).trans rfl))))))
            have q92 : (gV τ83 20 (a3.toInt.toNat) 1).toInt = (gV σ 20 (a3.toInt.toNat) 1).toInt := congrArg Int32.toInt (show (gV τ83 20 (a3.toInt.toNat) 1) = (gV σ 20 (a3.toInt.toNat) 1) from (show gV τ83 20 (a3.toInt.toNat) 1 = (gV σ 20 (a3.toInt.toNat) 1) from (f85.1 20 (a3.toInt.toNat) (1) (by decide) (by decide)).trans (show gV τ67 20 (a3.toInt.toNat) 1 = (gV σ 20 (a3.toInt.toNat) 1) from (f69.1 20 (a3.toInt.toNat) (1) (by decide) (by decide)).trans (show gV τ39 20 (a3.toInt.toNat) 1 = (gV σ 20 (a3.toInt.toNat) 1) from (f41.1 20 (a3.toInt.toNat) (1) (by decide) (by decide)).trans (show gV τ27 20 (a3.toInt.toNat) 1 = (gV σ 20 (a3.toInt.toNat) 1) from (f29.1 20 (a3.toInt.toNat) (1) (by decide) (by decide)).trans (show gV τ3 20 (a3.toInt.toNat) 1 = (gV σ 20 (a3.toInt.toNat) 1) from (f5.1 20 (a3.toInt.toNat) (1) (by decide) (by decide)).trans rfl))))))
            have q93 : (gV τ83 20 (a3.toInt.toNat) 2).toInt = (gV σ 20 (a3.toInt.toNat) 2).toInt := congrArg Int32.toInt (show (gV τ83 20 (a3.toInt.toNat) 2) = (gV σ 20 (a3.toInt.toNat) 2) from (show gV τ83 20 (a3.toInt.toNat) 2 = (gV σ 20 (a3.toInt.toNat) 2) from (f85.1 20 (a3.toInt.toNat) (2) (by decide) (by decide)).trans (show gV τ67 20 (a3.toInt.toNat) 2 = (gV σ 20 (a3.toInt.toNat) 2) from (f69.1 20 (a3.toInt.toNat) (2) (by decide) (by decide)).trans (show gV τ39 20 (a3.toInt.toNat) 2 = (gV σ 20 (a3.toInt.toNat) 2) from (f41.1 20 (a3.toInt.toNat) (2) (by decide) (by decide)).trans (show gV τ27 20 (a3.toInt.toNat) 2 = (gV σ 20 (a3.toInt.toNat) 2) from (f29.1 20 (a3.toInt.toNat) (2) (by decide) (by decide)).trans (show gV τ3 20 (a3.toInt.toNat) 2 = (gV σ 20 (a3.toInt.toNat) 2) from (f5.1 20 (a3.toInt.toNat) (2) (by decide) (by decide)).trans rfl))))))
            show MW p l e _ s m args below meth c _ 8 G 0 0 76 [some (.ref (G.1 0 0)), some (.int a1), some (.int a2), some (.int a3), some (.int a4), some (.int a5), some (.ref (G.1 20 (a1.toInt.toNat))), some (.ref (G.1 20 (a3.toInt.toNat)))] [.int x86] τ83
            refine m_if_eq (tgt := 91) C dX11_copy_76 (by decide) (fun c94 => ?_) (fun c94 => ?_)
            · have f95 : x86.toInt = 0 := by
                have q : _ := c94
                simp only [ti_nle, ti_nlt, ti_le, ti_lt, ti_eq, ti_ne, Classical.not_not, kt_0] at q
                omega
              have b96 : IV x86 0 0 := ⟨by have q1 := b87; have q2 := kc_0; omega, by have q1 := b87; have q2 := kc_0; omega⟩
              refine m_aload_n C dX11_copy_91 rfl rfl ?_
              refine m_iconst (v := 2) C dX11_copy_92 (by decide) ?_
              refine m_callV (n := 1) (ci := 10) (st := []) C (c_X11_found l G τ83 (2) i84 (iv_wk kc_2 (by decide))) (by decide) (by decide) rfl rfl rfl q1_238 q1_235 q1_237 q0_1 q1_1 (by decide +kernel) rfl (by decide) (by decide) rfl (Nat.le_of_ble_eq_true rfl) dX11_copy_93 ?_
              rintro _ τ97 ⟨x100, rfl, i98, f99, b101, h103⟩
              have g102 : Fr MS_X11_copyE AS_X11_copyE σ τ97 := Fr.call (g88) f99 (by decide)
              have q104 : (gV τ97 20 (a1.toInt.toNat) 1).toInt = (gV σ 20 (a1.toInt.toNat) 1).toInt := congrArg Int32.toInt (show (gV τ97 20 (a1.toInt.toNat) 1) = (gV σ 20 (a1.toInt.toNat) 1) from (show gV τ97 20 (a1.toInt.toNat) 1 = (gV σ 20 (a1.toInt.toNat) 1) from (f99.1 20 (a1.toInt.toNat) (1) (by decide) (by decide)).trans (show gV τ83 20 (a1.toInt.toNat) 1 = (gV σ 20 (a1.toInt.toNat) 1) from (f85.1 20 (a1.toInt.toNat) (1) (by decide) (by decide)).trans (show gV τ67 20 (a1.toInt.toNat) 1 = (gV σ 20 (a1.toInt.toNat) 1) from (f69.1 20 (a1.toInt.toNat) (1) (by decide) (by decide)).trans (show gV τ39 20 (a1.toInt.toNat) 1 = (gV σ 20 (a1.toInt.toNat) 1) from (f41.1 20 (a1.toInt.toNat) (1) (by decide) (by decide)).trans (show gV τ27 20 (a1.toInt.toNat) 1 = (gV σ 20 (a1.toInt.toNat) 1) from (f29.1 20 (a1.toInt.toNat) (1) (by decide) (by decide)).trans (show gV τ3 20 (a1.toInt.toNat) 1 = (gV σ 20 (a1.toInt.toNat) 1) from (f5.1 20 (a1.toInt.toNat) (1) (by decide) (by decide)).trans rfl)))))))
              have q105 : (gV τ97 20 (a1.toInt.toNat) 2).toInt = (gV σ 20 (a1.toInt.toNat) 2).toInt := congrArg Int32.toInt (show (gV τ97 20 (a1.toInt.toNat) 2) = (gV σ 20 (a1.toInt.toNat) 2) from (show gV τ97 20 (a1.toInt.toNat) 2 = (gV σ 20 (a1.toInt.toNat) 2) from (f99.1 20 (a1.toInt.toNat) (2) (by decide) (by decide)).trans (show gV τ83 20 (a1.toInt.toNat) 2 = (gV σ 20 (a1.toInt.toNat) 2) from (f85.1 20 (a1.toInt.toNat) (2) (by decide) (by decide)).trans (show gV τ67 20 (a1.toInt.toNat) 2 = (gV σ 20 (a1.toInt.toNat) 2) from (f69.1 20 (a1.toInt.toNat) (2) (by decide) (by decide)).trans (show gV τ39 20 (a1.toInt.toNat) 2 = (gV σ 20 (a1.toInt.toNat) 2) from (f41.1 20 (a1.toInt.toNat) (2) (by decide) (by decide)).trans (show gV τ27 20 (a1.toInt.toNat) 2 = (gV σ 20 (a1.toInt.toNat) 2) from (f29.1 20 (a1.toInt.toNat) (2) (by decide) (by decide)).trans (show gV τ3 20 (a1.toInt.toNat) 2 = (gV σ 20 (a1.toInt.toNat) 2) from (f5.1 20 (a1.toInt.toNat) (2) (by decide) (by decide)).trans rfl)))))))
              have q106 : (gV τ97 20 (a3.toInt.toNat) 1).toInt = (gV σ 20 (a3.toInt.toNat) 1).toInt := congrArg Int32.toInt (show (gV τ97 20 (a3.toInt.toNat) 1) = (gV σ 20 (a3.toInt.toNat) 1) from (show gV τ97 20 (a3.toInt.toNat) 1 = (gV σ 20 (a3.toInt.toNat) 1) from (f99.1 20 (a3.toInt.toNat) (1) (by decide) (by decide)).trans (show gV τ83 20 (a3.toInt.toNat) 1 = (gV σ 20 (a3.toInt.toNat) 1) from (f85.1 20 (a3.toInt.toNat) (1) (by decide) (by decide)).trans (show gV τ67 20 (a3.toInt.toNat) 1 = (gV σ 20 (a3.toInt.toNat) 1) from (f69.1 20 (a3.toInt.toNat) (1) (by decide) (by decide)).trans (show gV τ39 20 (a3.toInt.toNat) 1 = (gV σ 20 (a3.toInt.toNat) 1) from (f41.1 20 (a3.toInt.toNat) (1) (by decide) (by decide)).trans (show gV τ27 20 (a3.toInt.toNat) 1 = (gV σ 20 (a3.toInt.toNat) 1) from (f29.1 20 (a3.toInt.toNat) (1) (by decide) (by decide)).trans (show gV τ3 20 (a3.toInt.toNat) 1 = (gV σ 20 (a3.toInt.toNat) 1) from (f5.1 20 (a3.toInt.toNat) (1) (by decide) (by decide)).trans rfl)))))))
              have q107 : (gV τ97 20 (a3.toInt.toNat) 2).toInt = (gV σ 20 (a3.toInt.toNat) 2).toInt := congrArg Int32.toInt (show (gV τ97 20 (a3.toInt.toNat) 2) = (gV σ 20 (a3.toInt.toNat) 2) from (show gV τ97 20 (a3.toInt.toNat) 2 = (gV σ 20 (a3.toInt.toNat) 2) from (f99.1 20 (a3.toInt.toNat) (2) (by decide) (by decide)).trans (show gV τ83 20 (a3.toInt.toNat) 2 = (gV σ 20 (a3.toInt.toNat) 2) from (f85.1 20 (a3.toInt.toNat) (2) (by decide) (by decide)).trans (show gV τ67 20 (a3.toInt.toNat) 2 = (gV σ 20 (a3.toInt.toNat) 2) from (f69.1 20 (a3.toInt.toNat) (2) (by decide) (by decide)).trans (show gV τ39 20 (a3.toInt.toNat) 2 = (gV σ 20 (a3.toInt.toNat) 2) from (f41.1 20 (a3.toInt.toNat) (2) (by decide) (by decide)).trans (show gV τ27 20 (a3.toInt.toNat) 2 = (gV σ 20 (a3.toInt.toNat) 2) from (f29.1 20 (a3.toInt.toNat) (2) (by decide) (by decide)).trans (show gV τ3 20 (a3.toInt.toNat) 2 = (gV σ 20 (a3.toInt.toNat) 2) from (f5.1 20 (a3.toInt.toNat) (2) (by decide) (by decide)).trans rfl)))))))
              have q108 := kt_2
              show MW p l e _ s m args below meth c _ 8 G 0 0 96 [some (.ref (G.1 0 0)), some (.int a1), some (.int a2), some (.int a3), some (.int a4), some (.int a5), some (.ref (G.1 20 (a1.toInt.toNat))), some (.ref (G.1 20 (a3.toInt.toNat)))] [.int x100] τ97
              exact m_iret C hr hlk (by decide) (by decide) dX11_copy_96 ⟨_, rfl, i98, g102, (iv_wk b101 (by decide)), (by omega)⟩
            · have f109 : x86.toInt ≠ 0 := by
                have q : _ := c94
                simp only [ti_nle, ti_nlt, ti_le, ti_lt, ti_eq, ti_ne, Classical.not_not, kt_0] at q
                omega
              have b110 : IV x86 1 1 := ⟨by have q1 := b87; have q2 := kc_0; omega, by have q1 := b87; have q2 := kc_0; omega⟩
              refine m_aload C dX11_copy_79 rfl ?_
              refine m_iload C dX11_copy_81 rfl ?_
              refine m_iload C dX11_copy_83 rfl ?_
              refine m_callV (n := 2) (ci := 6) (st := []) C (c_X7_reachesE l G τ83 (j := (a3.toInt.toNat)) (iv_nat b38 (by decide)) (a4) (a5) i84 ) (by decide) (iv_nat b38 (by decide)) rfl rfl rfl q2_27 q2_24 q2_25 q2_26 q1_6 (by decide +kernel) rfl (by decide) (by decide) rfl (Nat.le_of_ble_eq_true rfl) dX11_copy_85 ?_
              rintro _ τ111 ⟨x114, rfl, i112, f113, b115, h117⟩
              have g116 : Fr MS_X11_copyE AS_X11_copyE σ τ111 := Fr.call (g88) f113 (by decide)
              have q118 : (gV τ111 20 (a1.toInt.toNat) 1).toInt = (gV σ 20 (a1.toInt.toNat) 1).toInt := congrArg Int32.toInt (show (gV τ111 20 (a1.toInt.toNat) 1) = (gV σ 20 (a1.toInt.toNat) 1) from (show gV τ111 20 (a1.toInt.toNat) 1 = (gV σ 20 (a1.toInt.toNat) 1) from (f113.1 20 (a1.toInt.toNat) (1) (by decide) (by decide)).trans (show gV τ83 20 (a1.toInt.toNat) 1 = (gV σ 20 (a1.toInt.toNat) 1) from (f85.1 20 (a1.toInt.toNat) (1) (by decide) (by decide)).trans (show gV τ67 20 (a1.toInt.toNat) 1 = (gV σ 20 (a1.toInt.toNat) 1) from (f69.1 20 (a1.toInt.toNat) (1) (by decide) (by decide)).trans (show gV τ39 20 (a1.toInt.toNat) 1 = (gV σ 20 (a1.toInt.toNat) 1) from (f41.1 20 (a1.toInt.toNat) (1) (by decide) (by decide)).trans (show gV τ27 20 (a1.toInt.toNat) 1 = (gV σ 20 (a1.toInt.toNat) 1) from (f29.1 20 (a1.toInt.toNat) (1) (by decide) (by decide)).trans (show gV τ3 20 (a1.toInt.toNat) 1 = (gV σ 20 (a1.toInt.toNat) 1) from (f5.1 20 (a1.toInt.toNat) (1) (by decide) (by decide)).trans rfl)))))))
              have q119 : (gV τ111 20 (a1.toInt.toNat) 2).toInt = (gV σ 20 (a1.toInt.toNat) 2).toInt := congrArg Int32.toInt (show (gV τ111 20 (a1.toInt.toNat) 2) = (gV σ 20 (a1.toInt.toNat) 2) from (show gV τ111 20 (a1.toInt.toNat) 2 = (gV σ 20 (a1.toInt.toNat) 2) from (f113.1 20 (a1.toInt.toNat) (2) (by decide) (by decide)).trans (show gV τ83 20 (a1.toInt.toNat) 2 = (gV σ 20 (a1.toInt.toNat) 2) from (f85.1 20 (a1.toInt.toNat) (2) (by decide) (by decide)).trans (show gV τ67 20 (a1.toInt.toNat) 2 = (gV σ 20 (a1.toInt.toNat) 2) from (f69.1 20 (a1.toInt.toNat) (2) (by decide) (by decide)).trans (show gV τ39 20 (a1.toInt.toNat) 2 = (gV σ 20 (a1.toInt.toNat) 2) from (f41.1 20 (a1.toInt.toNat) (2) (by decide) (by decide)).trans (show gV τ27 20 (a1.toInt.toNat) 2 = (gV σ 20 (a1.toInt.toNat) 2) from (f29.1 20 (a1.toInt.toNat) (2) (by decide) (by decide)).trans (show gV τ3 20 (a1.toInt.toNat) 2 = (gV σ 20 (a1.toInt.toNat) 2) from (f5.1 20 (a1.toInt.toNat) (2) (by decide) (by decide)).trans rfl)))))))
              have q120 : (gV τ111 20 (a3.toInt.toNat) 1).toInt = (gV σ 20 (a3.toInt.toNat) 1).toInt := congrArg Int32.toInt (show (gV τ111 20 (a3.toInt.toNat) 1) = (gV σ 20 (a3.toInt.toNat) 1) from (show gV τ111 20 (a3.toInt.toNat) 1 = (gV σ 20 (a3.toInt.toNat) 1) from (f113.1 20 (a3.toInt.toNat) (1) (by decide) (by decide)).trans (show gV τ83 20 (a3.toInt.toNat) 1 = (gV σ 20 (a3.toInt.toNat) 1) from (f85.1 20 (a3.toInt.toNat) (1) (by decide) (by decide)).trans (show gV τ67 20 (a3.toInt.toNat) 1 = (gV σ 20 (a3.toInt.toNat) 1) from (f69.1 20 (a3.toInt.toNat) (1) (by decide) (by decide)).trans (show gV τ39 20 (a3.toInt.toNat) 1 = (gV σ 20 (a3.toInt.toNat) 1) from (f41.1 20 (a3.toInt.toNat) (1) (by decide) (by decide)).trans (show gV τ27 20 (a3.toInt.toNat) 1 = (gV σ 20 (a3.toInt.toNat) 1) from (f29.1 20 (a3.toInt.toNat) (1) (by decide) (by decide)).trans (show gV τ3 20 (a3.toInt.toNat) 1 = (gV σ 20 (a3.toInt.toNat) 1) from (f5.1 20 (a3.toInt.toNat) (1) (by decide) (by decide)).trans rfl)))))))
              have q121 : (gV τ111 20 (a3.toInt.toNat) 2).toInt = (gV σ 20 (a3.toInt.toNat) 2).toInt := congrArg Int32.toInt (show (gV τ111 20 (a3.toInt.toNat) 2) = (gV σ 20 (a3.toInt.toNat) 2) from (show gV τ111 20 (a3.toInt.toNat) 2 = (gV σ 20 (a3.toInt.toNat) 2) from (f113.1 20 (a3.toInt.toNat) (2) (by decide) (by decide)).trans (show gV τ83 20 (a3.toInt.toNat) 2 = (gV σ 20 (a3.toInt.toNat) 2) from (f85.1 20 (a3.toInt.toNat) (2) (by decide) (by decide)).trans (show gV τ67 20 (a3.toInt.toNat) 2 = (gV σ 20 (a3.toInt.toNat) 2) from (f69.1 20 (a3.toInt.toNat) (2) (by decide) (by decide)).trans (show gV τ39 20 (a3.toInt.toNat) 2 = (gV σ 20 (a3.toInt.toNat) 2) from (f41.1 20 (a3.toInt.toNat) (2) (by decide) (by decide)).trans (show gV τ27 20 (a3.toInt.toNat) 2 = (gV σ 20 (a3.toInt.toNat) 2) from (f29.1 20 (a3.toInt.toNat) (2) (by decide) (by decide)).trans (show gV τ3 20 (a3.toInt.toNat) 2 = (gV σ 20 (a3.toInt.toNat) 2) from (f5.1 20 (a3.toInt.toNat) (2) (by decide) (by decide)).trans rfl)))))))
              show MW p l e _ s m args below meth c _ 8 G 0 0 88 [some (.ref (G.1 0 0)), some (.int a1), some (.int a2), some (.int a3), some (.int a4), some (.int a5), some (.ref (G.1 20 (a1.toInt.toNat))), some (.ref (G.1 20 (a3.toInt.toNat)))] [.int x114] τ111
              refine m_if_ne (tgt := 97) C dX11_copy_88 (by decide) (fun c122 => ?_) (fun c122 => ?_)
              · have f123 : x114.toInt ≠ 0 := by
                  have q : _ := c122
                  simp only [ti_nle, ti_nlt, ti_le, ti_lt, ti_eq, ti_ne, Classical.not_not, kt_0] at q
                  omega
                have b124 : IV x114 1 1 := ⟨by have q1 := b115; have q2 := kc_0; omega, by have q1 := b115; have q2 := kc_0; omega⟩
                refine m_aload C dX11_copy_97 rfl ?_
                refine g_20_0 C (iv_nat b26 (by decide)) q1_173 dX11_copy_99 ?_
                refine m_iload_n C dX11_copy_102 rfl rfl ?_
                refine m_aload C dX11_copy_103 rfl ?_
                refine g_20_0 C (iv_nat b38 (by decide)) q1_173 dX11_copy_105 ?_
                refine m_iload C dX11_copy_108 rfl ?_
                refine m_iload C dX11_copy_110 rfl ?_
                have q125 := (iv_any a5)
                have q126 := kt_0
                refine m_copy (t0 := 21) (n0 := 40) (t1 := 21) (n1 := 40) (st := []) C (by decide) (iv_nat b26 (by decide)) rfl (by decide) (iv_nat b38 (by decide)) (fun _ => rfl) ⟨by omega, by omega, by omega, by omega, by omega⟩ q2_28 q2_30 q2_29 q1_8 ⟨by decide, by decide +kernel⟩ dX11_copy_112 ?_
                refine m_tops (fun τ127 eτ127 => ?_)
                have i128 : Inv τ127 := eτ127 ▸ Inv.putRow i112 (by decide) (fun _ => rfl)
                have f129 : Fr MS_X11_copyE AS_X11_copyE σ τ127 := eτ127 ▸ Fr.putRow (g116) (by decide)
                refine m_aload_n C dX11_copy_115 rfl rfl ?_
                refine m_iload C dX11_copy_116 rfl ?_
                refine m_callV (n := 1) (ci := 10) (st := []) C (c_X11_clean l G τ127 (a5) i128 ) (by decide) (by decide) rfl rfl rfl q2_7 q2_4 q2_6 q0_2 q1_1 (by decide +kernel) rfl (by decide) (by decide) rfl (Nat.le_of_ble_eq_true rfl) dX11_copy_118 ?_
                rintro _ τ130 ⟨x133, rfl, i131, f132, b134, h136⟩
                have g135 : Fr MS_X11_copyE AS_X11_copyE σ τ130 := Fr.call (f129) f132 (by decide)
                have u137 : IV (gV τ130 20 (a1.toInt.toNat) 2) 0 40 := i131.1 20 (a1.toInt.toNat) 2
                have u138 : IV (gV τ130 20 (a3.toInt.toNat) 2) 0 40 := i131.1 20 (a3.toInt.toNat) 2
                show MW p l e _ s m args below meth c _ 8 G 0 0 121 [some (.ref (G.1 0 0)), some (.int a1), some (.int a2), some (.int a3), some (.int a4), some (.int a5), some (.ref (G.1 20 (a1.toInt.toNat))), some (.ref (G.1 20 (a3.toInt.toNat)))] [.int x133] τ130
                exact m_iret C hr hlk (by decide) (by decide) dX11_copy_121 ⟨_, rfl, i131, g135, b134, (by omega)⟩
              · have f139 : x114.toInt = 0 := by
                  have q : _ := c122
                  simp only [ti_nle, ti_nlt, ti_le, ti_lt, ti_eq, ti_ne, Classical.not_not, kt_0] at q
                  omega
                have b140 : IV x114 0 0 := ⟨by have q1 := b115; have q2 := kc_0; omega, by have q1 := b115; have q2 := kc_0; omega⟩
                refine m_aload_n C dX11_copy_91 rfl rfl ?_
                refine m_iconst (v := 2) C dX11_copy_92 (by decide) ?_
                refine m_callV (n := 1) (ci := 10) (st := []) C (c_X11_found l G τ111 (2) i112 (iv_wk kc_2 (by decide))) (by decide) (by decide) rfl rfl rfl q1_238 q1_235 q1_237 q0_1 q1_1 (by decide +kernel) rfl (by decide) (by decide) rfl (Nat.le_of_ble_eq_true rfl) dX11_copy_93 ?_
                rintro _ τ141 ⟨x144, rfl, i142, f143, b145, h147⟩
                have g146 : Fr MS_X11_copyE AS_X11_copyE σ τ141 := Fr.call (g116) f143 (by decide)
                have q148 : (gV τ141 20 (a1.toInt.toNat) 1).toInt = (gV σ 20 (a1.toInt.toNat) 1).toInt := congrArg Int32.toInt (show (gV τ141 20 (a1.toInt.toNat) 1) = (gV σ 20 (a1.toInt.toNat) 1) from (show gV τ141 20 (a1.toInt.toNat) 1 = (gV σ 20 (a1.toInt.toNat) 1) from (f143.1 20 (a1.toInt.toNat) (1) (by decide) (by decide)).trans (show gV τ111 20 (a1.toInt.toNat) 1 = (gV σ 20 (a1.toInt.toNat) 1) from (f113.1 20 (a1.toInt.toNat) (1) (by decide) (by decide)).trans (show gV τ83 20 (a1.toInt.toNat) 1 = (gV σ 20 (a1.toInt.toNat) 1) from (f85.1 20 (a1.toInt.toNat) (1) (by decide) (by decide)).trans (show gV τ67 20 (a1.toInt.toNat) 1 = (gV σ 20 (a1.toInt.toNat) 1) from (f69.1 20 (a1.toInt.toNat) (1) (by decide) (by decide)).trans (show gV τ39 20 (a1.toInt.toNat) 1 = (gV σ 20 (a1.toInt.toNat) 1) from (f41.1 20 (a1.toInt.toNat) (1) (by decide) (by decide)).trans (show gV τ27 20 (a1.toInt.toNat) 1 = (gV σ 20 (a1.toInt.toNat) 1) from (f29.1 20 (a1.toInt.toNat) (1) (by decide) (by decide)).trans (show gV τ3 20 (a1.toInt.toNat) 1 = (gV σ 20 (a1.toInt.toNat) 1) from (f5.1 20 (a1.toInt.toNat) (1) (by decide) (by decide)).trans rfl))))))))
                have q149 : (gV τ141 20 (a1.toInt.toNat) 2).toInt = (gV σ 20 (a1.toInt.toNat) 2).toInt := congrArg Int32.toInt (show (gV τ141 20 (a1.toInt.toNat) 2) = (gV σ 20 (a1.toInt.toNat) 2) from (show gV τ141 20 (a1.toInt.toNat) 2 = (gV σ 20 (a1.toInt.toNat) 2) from (f143.1 20 (a1.toInt.toNat) (2) (by decide) (by decide)).trans (show gV τ111 20 (a1.toInt.toNat) 2 = (gV σ 20 (a1.toInt.toNat) 2) from (f113.1 20 (a1.toInt.toNat) (2) (by decide) (by decide)).trans (show gV τ83 20 (a1.toInt.toNat) 2 = (gV σ 20 (a1.toInt.toNat) 2) from (f85.1 20 (a1.toInt.toNat) (2) (by decide) (by decide)).trans (show gV τ67 20 (a1.toInt.toNat) 2 = (gV σ 20 (a1.toInt.toNat) 2) from (f69.1 20 (a1.toInt.toNat) (2) (by decide) (by decide)).trans (show gV τ39 20 (a1.toInt.toNat) 2 = (gV σ 20 (a1.toInt.toNat) 2) from (f41.1 20 (a1.toInt.toNat) (2) (by decide) (by decide)).trans (show gV τ27 20 (a1.toInt.toNat) 2 = (gV σ 20 (a1.toInt.toNat) 2) from (f29.1 20 (a1.toInt.toNat) (2) (by decide) (by decide)).trans (show gV τ3 20 (a1.toInt.toNat) 2 = (gV σ 20 (a1.toInt.toNat) 2) from (f5.1 20 (a1.toInt.toNat) (2) (by decide) (by decide)).trans rfl))))))))
                have q150 : (gV τ141 20 (a3.toInt.toNat) 1).toInt = (gV σ 20 (a3.toInt.toNat) 1).toInt := congrArg Int32.toInt (show (gV τ141 20 (a3.toInt.toNat) 1) = (gV σ 20 (a3.toInt.toNat) 1) from (show gV τ141 20 (a3.toInt.toNat) 1 = (gV σ 20 (a3.toInt.toNat) 1) from (f143.1 20 (a3.toInt.toNat) (1) (by decide) (by decide)).trans (show gV τ111 20 (a3.toInt.toNat) 1 = (gV σ 20 (a3.toInt.toNat) 1) from (f113.1 20 (a3.toInt.toNat) (1) (by decide) (by decide)).trans (show gV τ83 20 (a3.toInt.toNat) 1 = (gV σ 20 (a3.toInt.toNat) 1) from (f85.1 20 (a3.toInt.toNat) (1) (by decide) (by decide)).trans (show gV τ67 20 (a3.toInt.toNat) 1 = (gV σ 20 (a3.toInt.toNat) 1) from (f69.1 20 (a3.toInt.toNat) (1) (by decide) (by decide)).trans (show gV τ39 20 (a3.toInt.toNat) 1 = (gV σ 20 (a3.toInt.toNat) 1) from (f41.1 20 (a3.toInt.toNat) (1) (by decide) (by decide)).trans (show gV τ27 20 (a3.toInt.toNat) 1 = (gV σ 20 (a3.toInt.toNat) 1) from (f29.1 20 (a3.toInt.toNat) (1) (by decide) (by decide)).trans (show gV τ3 20 (a3.toInt.toNat) 1 = (gV σ 20 (a3.toInt.toNat) 1) from (f5.1 20 (a3.toInt.toNat) (1) (by decide) (by decide)).trans rfl))))))))
                have q151 : (gV τ141 20 (a3.toInt.toNat) 2).toInt = (gV σ 20 (a3.toInt.toNat) 2).toInt := congrArg Int32.toInt (show (gV τ141 20 (a3.toInt.toNat) 2) = (gV σ 20 (a3.toInt.toNat) 2) from (show gV τ141 20 (a3.toInt.toNat) 2 = (gV σ 20 (a3.toInt.toNat) 2) from (f143.1 20 (a3.toInt.toNat) (2) (by decide) (by decide)).trans (show gV τ111 20 (a3.toInt.toNat) 2 = (gV σ 20 (a3.toInt.toNat) 2) from (f113.1 20 (a3.toInt.toNat) (2) (by decide) (by decide)).trans (show gV τ83 20 (a3.toInt.toNat) 2 = (gV σ 20 (a3.toInt.toNat) 2) from (f85.1 20 (a3.toInt.toNat) (2) (by decide) (by decide)).trans (show gV τ67 20 (a3.toInt.toNat) 2 = (gV σ 20 (a3.toInt.toNat) 2) from (f69.1 20 (a3.toInt.toNat) (2) (by decide) (by decide)).trans (show gV τ39 20 (a3.toInt.toNat) 2 = (gV σ 20 (a3.toInt.toNat) 2) from (f41.1 20 (a3.toInt.toNat) (2) (by decide) (by decide)).trans (show gV τ27 20 (a3.toInt.toNat) 2 = (gV σ 20 (a3.toInt.toNat) 2) from (f29.1 20 (a3.toInt.toNat) (2) (by decide) (by decide)).trans (show gV τ3 20 (a3.toInt.toNat) 2 = (gV σ 20 (a3.toInt.toNat) 2) from (f5.1 20 (a3.toInt.toNat) (2) (by decide) (by decide)).trans rfl))))))))
                have q152 := kt_2
                show MW p l e _ s m args below meth c _ 8 G 0 0 96 [some (.ref (G.1 0 0)), some (.int a1), some (.int a2), some (.int a3), some (.int a4), some (.int a5), some (.ref (G.1 20 (a1.toInt.toNat))), some (.ref (G.1 20 (a3.toInt.toNat)))] [.int x144] τ141
                exact m_iret C hr hlk (by decide) (by decide) dX11_copy_96 ⟨_, rfl, i142, g146, (iv_wk b145 (by decide)), (by omega)⟩
          · have f153 : (gV σ 20 (a1.toInt.toNat) 1).toInt ≠ (gV σ 20 (a3.toInt.toNat) 1).toInt := by
              have q : _ := c81
              simp only [ti_nle, ti_nlt, ti_le, ti_lt, ti_eq, ti_ne, Classical.not_not] at q
              omega
            refine m_aload_n C dX11_copy_62 rfl rfl ?_
            refine m_iconst (v := 5) C dX11_copy_63 (by decide) ?_
            refine m_callV (n := 1) (ci := 10) (st := []) C (c_X11_found l G τ67 (5) i68 (iv_wk kc_5 (by decide))) (by decide) (by decide) rfl rfl rfl q1_238 q1_235 q1_237 q0_1 q1_1 (by decide +kernel) rfl (by decide) (by decide) rfl (Nat.le_of_ble_eq_true rfl) dX11_copy_64 ?_
            rintro _ τ154 ⟨x157, rfl, i155, f156, b158, h160⟩
            have g159 : Fr MS_X11_copyE AS_X11_copyE σ τ154 := Fr.call (g72) f156 (by decide)
            have q161 : (gV τ154 20 (a1.toInt.toNat) 1).toInt = (gV σ 20 (a1.toInt.toNat) 1).toInt := congrArg Int32.toInt (show (gV τ154 20 (a1.toInt.toNat) 1) = (gV σ 20 (a1.toInt.toNat) 1) from (show gV τ154 20 (a1.toInt.toNat) 1 = (gV σ 20 (a1.toInt.toNat) 1) from (f156.1 20 (a1.toInt.toNat) (1) (by decide) (by decide)).trans (show gV τ67 20 (a1.toInt.toNat) 1 = (gV σ 20 (a1.toInt.toNat) 1) from (f69.1 20 (a1.toInt.toNat) (1) (by decide) (by decide)).trans (show gV τ39 20 (a1.toInt.toNat) 1 = (gV σ 20 (a1.toInt.toNat) 1) from (f41.1 20 (a1.toInt.toNat) (1) (by decide) (by decide)).trans (show gV τ27 20 (a1.toInt.toNat) 1 = (gV σ 20 (a1.toInt.toNat) 1) from (f29.1 20 (a1.toInt.toNat) (1) (by decide) (by decide)).trans (show gV τ3 20 (a1.toInt.toNat) 1 = (gV σ 20 (a1.toInt.toNat) 1) from (f5.1 20 (a1.toInt.toNat) (1) (by decide) (by decide)).trans rfl))))))
            have q162 : (gV τ154 20 (a1.toInt.toNat) 2).toInt = (gV σ 20 (a1.toInt.toNat) 2).toInt := congrArg Int32.toInt (show (gV τ154 20 (a1.toInt.toNat) 2) = (gV σ 20 (a1.toInt.toNat) 2) from (show gV τ154 20 (a1.toInt.toNat) 2 = (gV σ 20 (a1.toInt.toNat) 2) from (f156.1 20 (a1.toInt.toNat) (2) (by decide) (by decide)).trans (show gV τ67 20 (a1.toInt.toNat) 2 = (gV σ 20 (a1.toInt.toNat) 2) from (f69.1 20 (a1.toInt.toNat) (2) (by decide) (by decide)).trans (show gV τ39 20 (a1.toInt.toNat) 2 = (gV σ 20 (a1.toInt.toNat) 2) from (f41.1 20 (a1.toInt.toNat) (2) (by decide) (by decide)).trans (show gV τ27 20 (a1.toInt.toNat) 2 = (gV σ 20 (a1.toInt.toNat) 2) from (f29.1 20 (a1.toInt.toNat) (2) (by decide) (by decide)).trans (show gV τ3 20 (a1.toInt.toNat) 2 = (gV σ 20 (a1.toInt.toNat) 2) from (f5.1 20 (a1.toInt.toNat) (2) (by decide) (by decide)).trans rfl))))))
            have q163 : (gV τ154 20 (a3.toInt.toNat) 1).toInt = (gV σ 20 (a3.toInt.toNat) 1).toInt := congrArg Int32.toInt (show (gV τ154 20 (a3.toInt.toNat) 1) = (gV σ 20 (a3.toInt.toNat) 1) from (show gV τ154 20 (a3.toInt.toNat) 1 = (gV σ 20 (a3.toInt.toNat) 1) from (f156.1 20 (a3.toInt.toNat) (1) (by decide) (by decide)).trans (show gV τ67 20 (a3.toInt.toNat) 1 = (gV σ 20 (a3.toInt.toNat) 1) from (f69.1 20 (a3.toInt.toNat) (1) (by decide) (by decide)).trans (show gV τ39 20 (a3.toInt.toNat) 1 = (gV σ 20 (a3.toInt.toNat) 1) from (f41.1 20 (a3.toInt.toNat) (1) (by decide) (by decide)).trans (show gV τ27 20 (a3.toInt.toNat) 1 = (gV σ 20 (a3.toInt.toNat) 1) from (f29.1 20 (a3.toInt.toNat) (1) (by decide) (by decide)).trans (show gV τ3 20 (a3.toInt.toNat) 1 = (gV σ 20 (a3.toInt.toNat) 1) from (f5.1 20 (a3.toInt.toNat) (1) (by decide) (by decide)).trans rfl))))))
            have q164 : (gV τ154 20 (a3.toInt.toNat) 2).toInt = (gV σ 20 (a3.toInt.toNat) 2).toInt := congrArg Int32.toInt (show (gV τ154 20 (a3.toInt.toNat) 2) = (gV σ 20 (a3.toInt.toNat) 2) from (show gV τ154 20 (a3.toInt.toNat) 2 = (gV σ 20 (a3.toInt.toNat) 2) from (f156.1 20 (a3.toInt.toNat) (2) (by decide) (by decide)).trans (show gV τ67 20 (a3.toInt.toNat) 2 = (gV σ 20 (a3.toInt.toNat) 2) from (f69.1 20 (a3.toInt.toNat) (2) (by decide) (by decide)).trans (show gV τ39 20 (a3.toInt.toNat) 2 = (gV σ 20 (a3.toInt.toNat) 2) from (f41.1 20 (a3.toInt.toNat) (2) (by decide) (by decide)).trans (show gV τ27 20 (a3.toInt.toNat) 2 = (gV σ 20 (a3.toInt.toNat) 2) from (f29.1 20 (a3.toInt.toNat) (2) (by decide) (by decide)).trans (show gV τ3 20 (a3.toInt.toNat) 2 = (gV σ 20 (a3.toInt.toNat) 2) from (f5.1 20 (a3.toInt.toNat) (2) (by decide) (by decide)).trans rfl))))))
            have q165 := kt_5
            show MW p l e _ s m args below meth c _ 8 G 0 0 67 [some (.ref (G.1 0 0)), some (.int a1), some (.int a2), some (.int a3), some (.int a4), some (.int a5), some (.ref (G.1 20 (a1.toInt.toNat))), some (.ref (G.1 20 (a3.toInt.toNat)))] [.int x157] τ154
            exact m_iret C hr hlk (by decide) (by decide) dX11_copy_67 ⟨_, rfl, i155, g159, (iv_wk b158 (by decide)), (by omega)⟩
        · have f166 : x70.toInt ≠ 0 := by
            have q : _ := c78
            simp only [ti_nle, ti_nlt, ti_le, ti_lt, ti_eq, ti_ne, Classical.not_not, kt_0] at q
            omega
          have b167 : IV x70 1 1 := ⟨by have q1 := b71; have q2 := kc_0; omega, by have q1 := b71; have q2 := kc_0; omega⟩
          refine m_aload_n C dX11_copy_43 rfl rfl ?_
          refine m_iconst (v := 1) C dX11_copy_44 (by decide) ?_
          refine m_callV (n := 1) (ci := 10) (st := []) C (c_X11_found l G τ67 (1) i68 (iv_wk kc_1 (by decide))) (by decide) (by decide) rfl rfl rfl q1_238 q1_235 q1_237 q0_1 q1_1 (by decide +kernel) rfl (by decide) (by decide) rfl (Nat.le_of_ble_eq_true rfl) dX11_copy_45 ?_
          rintro _ τ168 ⟨x171, rfl, i169, f170, b172, h174⟩
          have g173 : Fr MS_X11_copyE AS_X11_copyE σ τ168 := Fr.call (g72) f170 (by decide)
          have q175 : (gV τ168 20 (a1.toInt.toNat) 1).toInt = (gV σ 20 (a1.toInt.toNat) 1).toInt := congrArg Int32.toInt (show (gV τ168 20 (a1.toInt.toNat) 1) = (gV σ 20 (a1.toInt.toNat) 1) from (show gV τ168 20 (a1.toInt.toNat) 1 = (gV σ 20 (a1.toInt.toNat) 1) from (f170.1 20 (a1.toInt.toNat) (1) (by decide) (by decide)).trans (show gV τ67 20 (a1.toInt.toNat) 1 = (gV σ 20 (a1.toInt.toNat) 1) from (f69.1 20 (a1.toInt.toNat) (1) (by decide) (by decide)).trans (show gV τ39 20 (a1.toInt.toNat) 1 = (gV σ 20 (a1.toInt.toNat) 1) from (f41.1 20 (a1.toInt.toNat) (1) (by decide) (by decide)).trans (show gV τ27 20 (a1.toInt.toNat) 1 = (gV σ 20 (a1.toInt.toNat) 1) from (f29.1 20 (a1.toInt.toNat) (1) (by decide) (by decide)).trans (show gV τ3 20 (a1.toInt.toNat) 1 = (gV σ 20 (a1.toInt.toNat) 1) from (f5.1 20 (a1.toInt.toNat) (1) (by decide) (by decide)).trans rfl))))))
          have q176 : (gV τ168 20 (a1.toInt.toNat) 2).toInt = (gV σ 20 (a1.toInt.toNat) 2).toInt := congrArg Int32.toInt (show (gV τ168 20 (a1.toInt.toNat) 2) = (gV σ 20 (a1.toInt.toNat) 2) from (show gV τ168 20 (a1.toInt.toNat) 2 = (gV σ 20 (a1.toInt.toNat) 2) from (f170.1 20 (a1.toInt.toNat) (2) (by decide) (by decide)).trans (show gV τ67 20 (a1.toInt.toNat) 2 = (gV σ 20 (a1.toInt.toNat) 2) from (f69.1 20 (a1.toInt.toNat) (2) (by decide) (by decide)).trans (show gV τ39 20 (a1.toInt.toNat) 2 = (gV σ 20 (a1.toInt.toNat) 2) from (f41.1 20 (a1.toInt.toNat) (2) (by decide) (by decide)).trans (show gV τ27 20 (a1.toInt.toNat) 2 = (gV σ 20 (a1.toInt.toNat) 2) from (f29.1 20 (a1.toInt.toNat) (2) (by decide) (by decide)).trans (show gV τ3 20 (a1.toInt.toNat) 2 = (gV σ 20 (a1.toInt.toNat) 2) from (f5.1 20 (a1.toInt.toNat) (2) (by decide) (by decide)).trans rfl))))))
          have q177 : (gV τ168 20 (a3.toInt.toNat) 1).toInt = (gV σ 20 (a3.toInt.toNat) 1).toInt := congrArg Int32.toInt (show (gV τ168 20 (a3.toInt.toNat) 1) = (gV σ 20 (a3.toInt.toNat) 1) from (show gV τ168 20 (a3.toInt.toNat) 1 = (gV σ 20 (a3.toInt.toNat) 1) from (f170.1 20 (a3.toInt.toNat) (1) (by decide) (by decide)).trans (show gV τ67 20 (a3.toInt.toNat) 1 = (gV σ 20 (a3.toInt.toNat) 1) from (f69.1 20 (a3.toInt.toNat) (1) (by decide) (by decide)).trans (show gV τ39 20 (a3.toInt.toNat) 1 = (gV σ 20 (a3.toInt.toNat) 1) from (f41.1 20 (a3.toInt.toNat) (1) (by decide) (by decide)).trans (show gV τ27 20 (a3.toInt.toNat) 1 = (gV σ 20 (a3.toInt.toNat) 1) from (f29.1 20 (a3.toInt.toNat) (1) (by decide) (by decide)).trans (show gV τ3 20 (a3.toInt.toNat) 1 = (gV σ 20 (a3.toInt.toNat) 1) from (f5.1 20 (a3.toInt.toNat) (1) (by decide) (by decide)).trans rfl))))))
          have q178 : (gV τ168 20 (a3.toInt.toNat) 2).toInt = (gV σ 20 (a3.toInt.toNat) 2).toInt := congrArg Int32.toInt (show (gV τ168 20 (a3.toInt.toNat) 2) = (gV σ 20 (a3.toInt.toNat) 2) from (show gV τ168 20 (a3.toInt.toNat) 2 = (gV σ 20 (a3.toInt.toNat) 2) from (f170.1 20 (a3.toInt.toNat) (2) (by decide) (by decide)).trans (show gV τ67 20 (a3.toInt.toNat) 2 = (gV σ 20 (a3.toInt.toNat) 2) from (f69.1 20 (a3.toInt.toNat) (2) (by decide) (by decide)).trans (show gV τ39 20 (a3.toInt.toNat) 2 = (gV σ 20 (a3.toInt.toNat) 2) from (f41.1 20 (a3.toInt.toNat) (2) (by decide) (by decide)).trans (show gV τ27 20 (a3.toInt.toNat) 2 = (gV σ 20 (a3.toInt.toNat) 2) from (f29.1 20 (a3.toInt.toNat) (2) (by decide) (by decide)).trans (show gV τ3 20 (a3.toInt.toNat) 2 = (gV σ 20 (a3.toInt.toNat) 2) from (f5.1 20 (a3.toInt.toNat) (2) (by decide) (by decide)).trans rfl))))))
          have q179 := kt_1
          show MW p l e _ s m args below meth c _ 8 G 0 0 48 [some (.ref (G.1 0 0)), some (.int a1), some (.int a2), some (.int a3), some (.int a4), some (.int a5), some (.ref (G.1 20 (a1.toInt.toNat))), some (.ref (G.1 20 (a3.toInt.toNat)))] [.int x171] τ168
          exact m_iret C hr hlk (by decide) (by decide) dX11_copy_48 ⟨_, rfl, i169, g173, (iv_wk b172 (by decide)), (by omega)⟩

abbrev MS_X12_copyE : List (Nat × Nat) := [(22, 8)]
abbrev AS_X12_copyE : List Nat := [25, 29]
set_option maxHeartbeats 4000000 in
set_option maxRecDepth 100000 in
theorem c_X12_copyE (l : Launch) (G : Gt) (σ : Sg) (a1 : Int32) (a2 : Int32) (a3 : Int32) (a4 : Int32) (a5 : Int32) (hI : Inv σ) : Mc l G yX12_copy cX12_copy 7 (some .int) 2 45 0 0 [.ref (G.1 22 0), .int a1, .int a2, .int a3, .int a4, .int a5] σ (PI fun r τ => Inv τ ∧ Fr MS_X12_copyE AS_X12_copyE σ τ ∧ IV r (-2147483648) 2147483647 ∧ (((a1.toInt < 0 ∨ 7 < a1.toInt ∨ a3.toInt < 0 ∨ 7 < a3.toInt) ∧ r.toInt = -1000001) ∨ ((0 ≤ a1.toInt ∧ a1.toInt ≤ 7 ∧ 0 ≤ a3.toInt ∧ a3.toInt ≤ 7) ∧ ((gV σ 26 0 (a1.toInt.toNat)).toInt < 0 ∨ (gV σ 26 0 (a3.toInt.toNat)).toInt < 0) ∧ r.toInt = -1000011) ∨ ((0 ≤ a1.toInt ∧ a1.toInt ≤ 7 ∧ 0 ≤ a3.toInt ∧ a3.toInt ≤ 7) ∧ ¬ ((gV σ 26 0 (a1.toInt.toNat)).toInt < 0) ∧ ¬ ((gV σ 26 0 (a3.toInt.toNat)).toInt < 0) ∧ (gV σ 26 0 (a1.toInt.toNat)).toInt ≠ (gV σ 26 0 (a3.toInt.toNat)).toInt ∧ r.toInt = -1000015) ∨ ((0 ≤ a1.toInt ∧ a1.toInt ≤ 7 ∧ 0 ≤ a3.toInt ∧ a3.toInt ≤ 7) ∧ ¬ ((gV σ 26 0 (a1.toInt.toNat)).toInt < 0) ∧ ¬ ((gV σ 26 0 (a3.toInt.toNat)).toInt < 0) ∧ (gV σ 26 0 (a1.toInt.toNat)).toInt = (gV σ 26 0 (a3.toInt.toNat)).toInt ∧ ¬ (0 ≤ a2.toInt ∧ 0 ≤ a4.toInt ∧ 0 ≤ a5.toInt ∧ a2.toInt + a5.toInt ≤ (gV σ 27 0 (a1.toInt.toNat)).toInt ∧ a4.toInt + a5.toInt ≤ (gV σ 27 0 (a3.toInt.toNat)).toInt) ∧ r.toInt = -1000012) ∨ ((0 ≤ a1.toInt ∧ a1.toInt ≤ 7 ∧ 0 ≤ a3.toInt ∧ a3.toInt ≤ 7) ∧ ¬ ((gV σ 26 0 (a1.toInt.toNat)).toInt < 0) ∧ ¬ ((gV σ 26 0 (a3.toInt.toNat)).toInt < 0) ∧ (gV σ 26 0 (a1.toInt.toNat)).toInt = (gV σ 26 0 (a3.toInt.toNat)).toInt ∧ (0 ≤ a2.toInt ∧ 0 ≤ a4.toInt ∧ 0 ≤ a5.toInt ∧ a2.toInt + a5.toInt ≤ (gV σ 27 0 (a1.toInt.toNat)).toInt ∧ a4.toInt + a5.toInt ≤ (gV σ 27 0 (a3.toInt.toNat)).toInt) ∧ r.toInt = a5.toInt))) := by
  refine Mc.of (L0 := [some (.ref (G.1 22 0)), some (.int a1), some (.int a2), some (.int a3), some (.int a4), some (.int a5), none]) (by decide) (Nat.le_of_ble_eq_true rfl) rfl ?_
  intro p e s m args below meth c C hr hlk
  have C : Cx p s m args c cX12_copy 7 "LeanTowerModel" := C
  have k0 : (0 : Int32).toInt = 0 := by decide
  have k1 : (1 : Int32).toInt = 1 := by decide
  have J157 : ∀ (n : Nat) (τ : Sg) (y6 : Int32), Inv τ → Fr MS_X12_copyE AS_X12_copyE σ τ → IV a1 0 7 → IV a2 0 40 → IV a3 0 7 → IV a4 0 40 → IV a5 0 40 → IV y6 0 40 → (a2.toInt + a5.toInt ≤ 40 ∧ a4.toInt + a5.toInt ≤ 40) → (((0 ≤ a1.toInt ∧ a1.toInt ≤ 7 ∧ 0 ≤ a3.toInt ∧ a3.toInt ≤ 7) ∧ 0 ≤ (gV σ 26 0 (a1.toInt.toNat)).toInt ∧ 0 ≤ (gV σ 26 0 (a3.toInt.toNat)).toInt ∧ (gV σ 26 0 (a1.toInt.toNat)).toInt = (gV σ 26 0 (a3.toInt.toNat)).toInt ∧ (0 ≤ a2.toInt ∧ 0 ≤ a4.toInt ∧ 0 ≤ a5.toInt ∧ a2.toInt + a5.toInt ≤ (gV σ 27 0 (a1.toInt.toNat)).toInt ∧ a4.toInt + a5.toInt ≤ (gV σ 27 0 (a3.toInt.toNat)).toInt))) → (40 - y6.toInt).toNat < n → MW p l e { frames := 2, cells := 0, slots := 0, locals := 45 } s m args below meth c (MQ below (QP G (PI fun r τ => Inv τ ∧ Fr MS_X12_copyE AS_X12_copyE σ τ ∧ IV r (-2147483648) 2147483647 ∧ (((a1.toInt < 0 ∨ 7 < a1.toInt ∨ a3.toInt < 0 ∨ 7 < a3.toInt) ∧ r.toInt = -1000001) ∨ ((0 ≤ a1.toInt ∧ a1.toInt ≤ 7 ∧ 0 ≤ a3.toInt ∧ a3.toInt ≤ 7) ∧ ((gV σ 26 0 (a1.toInt.toNat)).toInt < 0 ∨ (gV σ 26 0 (a3.toInt.toNat)).toInt < 0) ∧ r.toInt = -1000011) ∨ ((0 ≤ a1.toInt ∧ a1.toInt ≤ 7 ∧ 0 ≤ a3.toInt ∧ a3.toInt ≤ 7) ∧ ¬ ((gV σ 26 0 (a1.toInt.toNat)).toInt < 0) ∧ ¬ ((gV σ 26 0 (a3.toInt.toNat)).toInt < 0) ∧ (gV σ 26 0 (a1.toInt.toNat)).toInt ≠ (gV σ 26 0 (a3.toInt.toNat)).toInt ∧ r.toInt = -1000015) ∨ ((0 ≤ a1.toInt ∧ a1.toInt ≤ 7 ∧ 0 ≤ a3.toInt ∧ a3.toInt ≤ 7) ∧ ¬ ((gV σ 26 0 (a1.toInt.toNat)).toInt < 0) ∧ ¬ ((gV σ 26 0 (a3.toInt.toNat)).toInt < 0) ∧ (gV σ 26 0 (a1.toInt.toNat)).toInt = (gV σ 26 0 (a3.toInt.toNat)).toInt ∧ ¬ (0 ≤ a2.toInt ∧ 0 ≤ a4.toInt ∧ 0 ≤ a5.toInt ∧ a2.toInt + a5.toInt ≤ (gV σ 27 0 (a1.toInt.toNat)).toInt ∧ a4.toInt + a5.toInt ≤ (gV σ 27 0 (a3.toInt.toNat)).toInt) ∧ r.toInt = -1000012) ∨ ((0 ≤ a1.toInt ∧ a1.toInt ≤ 7 ∧ 0 ≤ a3.toInt ∧ a3.toInt ≤ 7) ∧ ¬ ((gV σ 26 0 (a1.toInt.toNat)).toInt < 0) ∧ ¬ ((gV σ 26 0 (a3.toInt.toNat)).toInt < 0) ∧ (gV σ 26 0 (a1.toInt.toNat)).toInt = (gV σ 26 0 (a3.toInt.toNat)).toInt ∧ (0 ≤ a2.toInt ∧ 0 ≤ a4.toInt ∧ 0 ≤ a5.toInt ∧ a2.toInt + a5.toInt ≤ (gV σ 27 0 (a1.toInt.toNat)).toInt ∧ a4.toInt + a5.toInt ≤ (gV σ 27 0 (a3.toInt.toNat)).toInt) ∧ r.toInt = a5.toInt)))) args s 0 0 (aG G)) 7 G 0 0 157 [some (.ref (G.1 22 0)), none, none, some (.int a3), some (.int a4), some (.int a5), some (.int y6)] [] τ := by
    intro n
    induction n with
    | zero => intro τ y6 iτ fτ b_a1 b_a2 b_a3 b_a4 b_a5 b_y6 n1 n2 hm; exact absurd hm (Nat.not_lt_zero _)
    | succ n ih157 =>
      intro τ y6 iτ fτ b_a1 b_a2 b_a3 b_a4 b_a5 b_y6 n1 n2 hm157
      have u3 : IV (gV τ 27 0 (a1.toInt.toNat)) 0 40 := iτ.1 27 0 (a1.toInt.toNat)
      have u4 : IV (gV τ 27 0 (a3.toInt.toNat)) 0 40 := iτ.1 27 0 (a3.toInt.toNat)
      refine m_iload C dX12_copy_157 rfl ?_
      refine m_iload C dX12_copy_159 rfl ?_
      refine m_icmp_ge (tgt := 192) C dX12_copy_161 (by decide) (fun c5 => ?_) (fun c5 => ?_)
      · have f6 : a5.toInt ≤ y6.toInt := by
          have q : _ := c5
          simp only [ti_nle, ti_nlt, ti_le, ti_lt, ti_eq, ti_ne, Classical.not_not] at q
          omega
        refine m_aload_n C dX12_copy_192 rfl rfl ?_
        refine m_iload C dX12_copy_193 rfl ?_
        refine m_callV (n := 1) (ci := 11) (st := []) C (c_X12_fine l G τ (a5) iτ ) (by decide) (by decide) rfl rfl rfl q4_201 q4_198 q4_200 q0_27 q1_7 (by decide +kernel) rfl (by decide) (by decide) rfl (Nat.le_of_ble_eq_true rfl) dX12_copy_195 ?_
        rintro _ τ7 ⟨x10, rfl, i8, f9, b11, h13⟩
        have g12 : Fr MS_X12_copyE AS_X12_copyE σ τ7 := Fr.call (fτ) f9 (by decide)
        have q14 : (gV τ7 26 0 (a1.toInt.toNat)).toInt = (gV τ 26 0 (a1.toInt.toNat)).toInt := congrArg Int32.toInt (show (gV τ7 26 0 (a1.toInt.toNat)) = (gV τ 26 0 (a1.toInt.toNat)) from (show gV τ7 26 0 (a1.toInt.toNat) = (gV τ 26 0 (a1.toInt.toNat)) from (f9.1 26 0 ((a1.toInt.toNat)) (by simp) (by decide)).trans rfl))
        have q15 : (gV τ7 26 0 (a3.toInt.toNat)).toInt = (gV τ 26 0 (a3.toInt.toNat)).toInt := congrArg Int32.toInt (show (gV τ7 26 0 (a3.toInt.toNat)) = (gV τ 26 0 (a3.toInt.toNat)) from (show gV τ7 26 0 (a3.toInt.toNat) = (gV τ 26 0 (a3.toInt.toNat)) from (f9.1 26 0 ((a3.toInt.toNat)) (by simp) (by decide)).trans rfl))
        have q16 : (gV τ7 27 0 (a1.toInt.toNat)).toInt = (gV τ 27 0 (a1.toInt.toNat)).toInt := congrArg Int32.toInt (show (gV τ7 27 0 (a1.toInt.toNat)) = (gV τ 27 0 (a1.toInt.toNat)) from (show gV τ7 27 0 (a1.toInt.toNat) = (gV τ 27 0 (a1.toInt.toNat)) from (f9.1 27 0 ((a1.toInt.toNat)) (by simp) (by decide)).trans rfl))
        have q17 : (gV τ7 27 0 (a3.toInt.toNat)).toInt = (gV τ 27 0 (a3.toInt.toNat)).toInt := congrArg Int32.toInt (show (gV τ7 27 0 (a3.toInt.toNat)) = (gV τ 27 0 (a3.toInt.toNat)) from (show gV τ7 27 0 (a3.toInt.toNat) = (gV τ 27 0 (a3.toInt.toNat)) from (f9.1 27 0 ((a3.toInt.toNat)) (by simp) (by decide)).trans rfl))
        show MW p l e _ s m args below meth c _ 7 G 0 0 198 [some (.ref (G.1 22 0)), none, none, some (.int a3), some (.int a4), some (.int a5), some (.int y6)] [.int x10] τ7
        exact m_iret C hr hlk (by decide) (by decide) dX12_copy_198 ⟨_, rfl, i8, g12, b11, (by omega)⟩
      · have f18 : y6.toInt < a5.toInt := by
          have q : _ := c5
          simp only [ti_nle, ti_nlt, ti_le, ti_lt, ti_eq, ti_ne, Classical.not_not] at q
          omega
        have b19 : IV y6 0 39 := ⟨by have q1 := b_y6; have q2 := b_a5; omega, by have q1 := b_y6; have q2 := b_a5; omega⟩
        have b20 : IV a5 1 40 := ⟨by have q1 := b_y6; have q2 := b_a5; omega, by have q1 := b_y6; have q2 := b_a5; omega⟩
        refine m_aload_n C dX12_copy_164 rfl rfl ?_
        refine g_22_2 C q4_118 dX12_copy_165 ?_
        refine m_bipush (v := 40) C dX12_copy_168 (by decide) ?_
        refine m_iload_n C dX12_copy_170 rfl rfl ?_
        refine m_imul C dX12_copy_171 ?_
        refine m_topi (fun x21 ex21 => ?_)
        have tx21 : x21.toInt = 40 * a3.toInt := by rw [ex21, ti_mulv kc_40 b_a3 (by decide), kt_40]
        have b22 : IV x21 0 280 := by rw [ex21]; exact iv_mul kc_40 b_a3 (by decide)
        refine m_iload C dX12_copy_172 rfl ?_
        refine m_iadd C dX12_copy_174 ?_
        refine m_topi (fun x23 ex23 => ?_)
        have tx23 : x23.toInt = x21.toInt + a4.toInt := by rw [ex23, ti_addv b22 b_a4 (by decide)]
        have b24 : IV x23 0 320 := by rw [ex23]; exact iv_add b22 b_a4 (by decide)
        refine m_iload C dX12_copy_175 rfl ?_
        refine m_iadd C dX12_copy_177 ?_
        refine m_topi (fun x25 ex25 => ?_)
        have tx25 : x25.toInt = x23.toInt + y6.toInt := by rw [ex25, ti_addv b24 b19 (by decide)]
        have b26 : IV x25 0 359 := by rw [ex25]; exact iv_add b24 b19 (by decide)
        refine m_aload_n C dX12_copy_178 rfl rfl ?_
        refine g_22_10 C q4_126 dX12_copy_179 ?_
        refine m_iload C dX12_copy_182 rfl ?_
        refine al_29 C b19 (by decide) rfl dX12_copy_184 ?_
        refine m_topi (fun x27 ex27 => ?_)
        have b28 : IV x25 0 319 := ⟨by have q1 := b26; omega, by have q1 := b26; omega⟩
        refine as_25 C b28 (by decide) rfl dX12_copy_185 ?_
        refine m_tops (fun τ29 eτ29 => ?_)
        have i30 : Inv τ29 := eτ29 ▸ Inv.putF iτ (by decide) rfl
        have f31 : Fr MS_X12_copyE AS_X12_copyE σ τ29 := eτ29 ▸ Fr.put (fτ) (Or.inr (by decide))
        obtain ⟨x32, ex32⟩ : ∃ y : Int32, y = y6 + 1 := ⟨_, rfl⟩
        have tx32 : x32.toInt = y6.toInt + 1 := by rw [ex32, ti_addv b19 kc_1 (by decide), kt_1]
        have b33 : IV x32 1 40 := by rw [ex32]; exact iv_add b19 kc_1 (by decide)
        refine m_iinc (v := x32) (L1 := [some (.ref (G.1 22 0)), none, none, some (.int a3), some (.int a4), some (.int a5), some (.int x32)]) C dX12_copy_186 rfl (by rw [ex32]; rfl) (by decide) rfl rfl ?_
        refine m_goto (tgt := 157) C dX12_copy_189 (by decide) ?_
        have q34 : (gV τ29 26 0 (a1.toInt.toNat)).toInt = (gV τ 26 0 (a1.toInt.toNat)).toInt := congrArg Int32.toInt (show (gV τ29 26 0 (a1.toInt.toNat)) = (gV τ 26 0 (a1.toInt.toNat)) from (show gV τ29 26 0 (a1.toInt.toNat) = (gV τ 26 0 (a1.toInt.toNat)) from gV_put eτ29 rfl))
        have q35 : (gV τ29 26 0 (a3.toInt.toNat)).toInt = (gV τ 26 0 (a3.toInt.toNat)).toInt := congrArg Int32.toInt (show (gV τ29 26 0 (a3.toInt.toNat)) = (gV τ 26 0 (a3.toInt.toNat)) from (show gV τ29 26 0 (a3.toInt.toNat) = (gV τ 26 0 (a3.toInt.toNat)) from gV_put eτ29 rfl))
        have q36 : (gV τ29 27 0 (a1.toInt.toNat)).toInt = (gV τ 27 0 (a1.toInt.toNat)).toInt := congrArg Int32.toInt (show (gV τ29 27 0 (a1.toInt.toNat)) = (gV τ 27 0 (a1.toInt.toNat)) from (show gV τ29 27 0 (a1.toInt.toNat) = (gV τ 27 0 (a1.toInt.toNat)) from gV_put eτ29 rfl))
        have q37 : (gV τ29 27 0 (a3.toInt.toNat)).toInt = (gV τ 27 0 (a3.toInt.toNat)).toInt := congrArg Int32.toInt (show (gV τ29 27 0 (a3.toInt.toNat)) = (gV τ 27 0 (a3.toInt.toNat)) from (show gV τ29 27 0 (a3.toInt.toNat) = (gV τ 27 0 (a3.toInt.toNat)) from gV_put eτ29 rfl))
        exact ih157 τ29 x32 i30 f31 b_a1 b_a2 b_a3 b_a4 (iv_wk b20 (by decide)) (iv_wk b33 (by decide)) (by omega) (by omega) (by have q := hm157; omega)
  have J120 : ∀ (n : Nat) (τ : Sg) (y6 : Int32), Inv τ → Fr MS_X12_copyE AS_X12_copyE σ τ → IV a1 0 7 → IV a2 0 40 → IV a3 0 7 → IV a4 0 40 → IV a5 0 40 → IV y6 0 40 → (a2.toInt + a5.toInt ≤ 40 ∧ a4.toInt + a5.toInt ≤ 40) → (((0 ≤ a1.toInt ∧ a1.toInt ≤ 7 ∧ 0 ≤ a3.toInt ∧ a3.toInt ≤ 7) ∧ 0 ≤ (gV σ 26 0 (a1.toInt.toNat)).toInt ∧ 0 ≤ (gV σ 26 0 (a3.toInt.toNat)).toInt ∧ (gV σ 26 0 (a1.toInt.toNat)).toInt = (gV σ 26 0 (a3.toInt.toNat)).toInt ∧ (0 ≤ a2.toInt ∧ 0 ≤ a4.toInt ∧ 0 ≤ a5.toInt ∧ a2.toInt + a5.toInt ≤ (gV σ 27 0 (a1.toInt.toNat)).toInt ∧ a4.toInt + a5.toInt ≤ (gV σ 27 0 (a3.toInt.toNat)).toInt))) → (40 - y6.toInt).toNat < n → MW p l e { frames := 2, cells := 0, slots := 0, locals := 45 } s m args below meth c (MQ below (QP G (PI fun r τ => Inv τ ∧ Fr MS_X12_copyE AS_X12_copyE σ τ ∧ IV r (-2147483648) 2147483647 ∧ (((a1.toInt < 0 ∨ 7 < a1.toInt ∨ a3.toInt < 0 ∨ 7 < a3.toInt) ∧ r.toInt = -1000001) ∨ ((0 ≤ a1.toInt ∧ a1.toInt ≤ 7 ∧ 0 ≤ a3.toInt ∧ a3.toInt ≤ 7) ∧ ((gV σ 26 0 (a1.toInt.toNat)).toInt < 0 ∨ (gV σ 26 0 (a3.toInt.toNat)).toInt < 0) ∧ r.toInt = -1000011) ∨ ((0 ≤ a1.toInt ∧ a1.toInt ≤ 7 ∧ 0 ≤ a3.toInt ∧ a3.toInt ≤ 7) ∧ ¬ ((gV σ 26 0 (a1.toInt.toNat)).toInt < 0) ∧ ¬ ((gV σ 26 0 (a3.toInt.toNat)).toInt < 0) ∧ (gV σ 26 0 (a1.toInt.toNat)).toInt ≠ (gV σ 26 0 (a3.toInt.toNat)).toInt ∧ r.toInt = -1000015) ∨ ((0 ≤ a1.toInt ∧ a1.toInt ≤ 7 ∧ 0 ≤ a3.toInt ∧ a3.toInt ≤ 7) ∧ ¬ ((gV σ 26 0 (a1.toInt.toNat)).toInt < 0) ∧ ¬ ((gV σ 26 0 (a3.toInt.toNat)).toInt < 0) ∧ (gV σ 26 0 (a1.toInt.toNat)).toInt = (gV σ 26 0 (a3.toInt.toNat)).toInt ∧ ¬ (0 ≤ a2.toInt ∧ 0 ≤ a4.toInt ∧ 0 ≤ a5.toInt ∧ a2.toInt + a5.toInt ≤ (gV σ 27 0 (a1.toInt.toNat)).toInt ∧ a4.toInt + a5.toInt ≤ (gV σ 27 0 (a3.toInt.toNat)).toInt) ∧ r.toInt = -1000012) ∨ ((0 ≤ a1.toInt ∧ a1.toInt ≤ 7 ∧ 0 ≤ a3.toInt ∧ a3.toInt ≤ 7) ∧ ¬ ((gV σ 26 0 (a1.toInt.toNat)).toInt < 0) ∧ ¬ ((gV σ 26 0 (a3.toInt.toNat)).toInt < 0) ∧ (gV σ 26 0 (a1.toInt.toNat)).toInt = (gV σ 26 0 (a3.toInt.toNat)).toInt ∧ (0 ≤ a2.toInt ∧ 0 ≤ a4.toInt ∧ 0 ≤ a5.toInt ∧ a2.toInt + a5.toInt ≤ (gV σ 27 0 (a1.toInt.toNat)).toInt ∧ a4.toInt + a5.toInt ≤ (gV σ 27 0 (a3.toInt.toNat)).toInt) ∧ r.toInt = a5.toInt)))) args s 0 0 (aG G)) 7 G 0 0 120 [some (.ref (G.1 22 0)), some (.int a1), some (.int a2), some (.int a3), some (.int a4), some (.int a5), some (.int y6)] [] τ := by
    intro n
    induction n with
    | zero => intro τ y6 iτ fτ b_a1 b_a2 b_a3 b_a4 b_a5 b_y6 n38 n39 hm; exact absurd hm (Nat.not_lt_zero _)
    | succ n ih120 =>
      intro τ y6 iτ fτ b_a1 b_a2 b_a3 b_a4 b_a5 b_y6 n38 n39 hm120
      have u40 : IV (gV τ 27 0 (a1.toInt.toNat)) 0 40 := iτ.1 27 0 (a1.toInt.toNat)
      have u41 : IV (gV τ 27 0 (a3.toInt.toNat)) 0 40 := iτ.1 27 0 (a3.toInt.toNat)
      refine m_iload C dX12_copy_120 rfl ?_
      refine m_iload C dX12_copy_122 rfl ?_
      refine m_icmp_ge (tgt := 154) C dX12_copy_124 (by decide) (fun c42 => ?_) (fun c42 => ?_)
      · have f43 : a5.toInt ≤ y6.toInt := by
          have q : _ := c42
          simp only [ti_nle, ti_nlt, ti_le, ti_lt, ti_eq, ti_ne, Classical.not_not] at q
          omega
        refine m_iconst (v := 0) C dX12_copy_154 (by decide) ?_
        refine m_istore (L1 := [some (.ref (G.1 22 0)), some (.int a1), some (.int a2), some (.int a3), some (.int a4), some (.int a5), some (.int 0)]) C dX12_copy_155 (by decide) rfl rfl ?_
        refine m_sub (L1 := [some (.ref (G.1 22 0)), none, none, some (.int a3), some (.int a4), some (.int a5), some (.int 0)]) ⟨rfl, ⟨rfl, ⟨rfl, ⟨rfl, ⟨rfl, trivial⟩⟩⟩⟩⟩ ?_
        exact J157 ((40 - (0 : Int32).toInt).toNat + 1) τ 0 iτ fτ b_a1 b_a2 b_a3 b_a4 b_a5 (iv_wk kc_0 (by decide)) (by omega) (by omega) (Nat.lt_succ_self _)
      · have f44 : y6.toInt < a5.toInt := by
          have q : _ := c42
          simp only [ti_nle, ti_nlt, ti_le, ti_lt, ti_eq, ti_ne, Classical.not_not] at q
          omega
        have b45 : IV y6 0 39 := ⟨by have q1 := b_y6; have q2 := b_a5; omega, by have q1 := b_y6; have q2 := b_a5; omega⟩
        have b46 : IV a5 1 40 := ⟨by have q1 := b_y6; have q2 := b_a5; omega, by have q1 := b_y6; have q2 := b_a5; omega⟩
        refine m_aload_n C dX12_copy_127 rfl rfl ?_
        refine g_22_10 C q4_126 dX12_copy_128 ?_
        refine m_iload C dX12_copy_131 rfl ?_
        refine m_aload_n C dX12_copy_133 rfl rfl ?_
        refine g_22_2 C q4_118 dX12_copy_134 ?_
        refine m_bipush (v := 40) C dX12_copy_137 (by decide) ?_
        refine m_iload_n C dX12_copy_139 rfl rfl ?_
        refine m_imul C dX12_copy_140 ?_
        refine m_topi (fun x47 ex47 => ?_)
        have tx47 : x47.toInt = 40 * a1.toInt := by rw [ex47, ti_mulv kc_40 b_a1 (by decide), kt_40]
        have b48 : IV x47 0 280 := by rw [ex47]; exact iv_mul kc_40 b_a1 (by decide)
        refine m_iload_n C dX12_copy_141 rfl rfl ?_
        refine m_iadd C dX12_copy_142 ?_
        refine m_topi (fun x49 ex49 => ?_)
        have tx49 : x49.toInt = x47.toInt + a2.toInt := by rw [ex49, ti_addv b48 b_a2 (by decide)]
        have b50 : IV x49 0 320 := by rw [ex49]; exact iv_add b48 b_a2 (by decide)
        refine m_iload C dX12_copy_143 rfl ?_
        refine m_iadd C dX12_copy_145 ?_
        refine m_topi (fun x51 ex51 => ?_)
        have tx51 : x51.toInt = x49.toInt + y6.toInt := by rw [ex51, ti_addv b50 b45 (by decide)]
        have b52 : IV x51 0 359 := by rw [ex51]; exact iv_add b50 b45 (by decide)
        have b53 : IV x51 0 319 := ⟨by have q1 := b52; omega, by have q1 := b52; omega⟩
        refine al_25 C b53 (by decide) rfl dX12_copy_146 ?_
        refine m_topi (fun x54 ex54 => ?_)
        refine as_29 C b45 (by decide) rfl dX12_copy_147 ?_
        refine m_tops (fun τ55 eτ55 => ?_)
        have i56 : Inv τ55 := eτ55 ▸ Inv.putF iτ (by decide) rfl
        have f57 : Fr MS_X12_copyE AS_X12_copyE σ τ55 := eτ55 ▸ Fr.put (fτ) (Or.inr (by decide))
        obtain ⟨x58, ex58⟩ : ∃ y : Int32, y = y6 + 1 := ⟨_, rfl⟩
        have tx58 : x58.toInt = y6.toInt + 1 := by rw [ex58, ti_addv b45 kc_1 (by decide), kt_1]
        have b59 : IV x58 1 40 := by rw [ex58]; exact iv_add b45 kc_1 (by decide)
        refine m_iinc (v := x58) (L1 := [some (.ref (G.1 22 0)), some (.int a1), some (.int a2), some (.int a3), some (.int a4), some (.int a5), some (.int x58)]) C dX12_copy_148 rfl (by rw [ex58]; rfl) (by decide) rfl rfl ?_
        refine m_goto (tgt := 120) C dX12_copy_151 (by decide) ?_
        have q60 : (gV τ55 26 0 (a1.toInt.toNat)).toInt = (gV τ 26 0 (a1.toInt.toNat)).toInt := congrArg Int32.toInt (show (gV τ55 26 0 (a1.toInt.toNat)) = (gV τ 26 0 (a1.toInt.toNat)) from (show gV τ55 26 0 (a1.toInt.toNat) = (gV τ 26 0 (a1.toInt.toNat)) from gV_put eτ55 rfl))
        have q61 : (gV τ55 26 0 (a3.toInt.toNat)).toInt = (gV τ 26 0 (a3.toInt.toNat)).toInt := congrArg Int32.toInt (show (gV τ55 26 0 (a3.toInt.toNat)) = (gV τ 26 0 (a3.toInt.toNat)) from (show gV τ55 26 0 (a3.toInt.toNat) = (gV τ 26 0 (a3.toInt.toNat)) from gV_put eτ55 rfl))
        have q62 : (gV τ55 27 0 (a1.toInt.toNat)).toInt = (gV τ 27 0 (a1.toInt.toNat)).toInt := congrArg Int32.toInt (show (gV τ55 27 0 (a1.toInt.toNat)) = (gV τ 27 0 (a1.toInt.toNat)) from (show gV τ55 27 0 (a1.toInt.toNat) = (gV τ 27 0 (a1.toInt.toNat)) from gV_put eτ55 rfl))
        have q63 : (gV τ55 27 0 (a3.toInt.toNat)).toInt = (gV τ 27 0 (a3.toInt.toNat)).toInt := congrArg Int32.toInt (show (gV τ55 27 0 (a3.toInt.toNat)) = (gV τ 27 0 (a3.toInt.toNat)) from (show gV τ55 27 0 (a3.toInt.toNat) = (gV τ 27 0 (a3.toInt.toNat)) from gV_put eτ55 rfl))
        exact ih120 τ55 x58 i56 f57 b_a1 b_a2 b_a3 b_a4 (iv_wk b46 (by decide)) (iv_wk b59 (by decide)) (by omega) (by omega) (by have q := hm120; omega)
  have u64 : IV (gV σ 27 0 (a1.toInt.toNat)) 0 40 := hI.1 27 0 (a1.toInt.toNat)
  have u65 : IV (gV σ 27 0 (a3.toInt.toNat)) 0 40 := hI.1 27 0 (a3.toInt.toNat)
  refine m_iload_n C dX12_copy_0 rfl rfl ?_
  refine m_callS (n := 1) (st := []) C (c_X12_isRow l G σ (a1) hI ) q4_186 q4_184 q4_185 q1_7 (by decide +kernel) rfl (by decide) (by decide) rfl (Nat.le_of_ble_eq_true rfl) dX12_copy_1 ?_
  rintro _ τ66 ⟨x69, rfl, i67, f68, b70, h72⟩
  have g71 : Fr MS_X12_copyE AS_X12_copyE σ τ66 := Fr.call (Fr.rf) f68 (by decide)
  have q73 : (gV τ66 26 0 (a1.toInt.toNat)).toInt = (gV σ 26 0 (a1.toInt.toNat)).toInt := congrArg Int32.toInt (show (gV τ66 26 0 (a1.toInt.toNat)) = (gV σ 26 0 (a1.toInt.toNat)) from (show gV τ66 26 0 (a1.toInt.toNat) = (gV σ 26 0 (a1.toInt.toNat)) from (f68.1 26 0 ((a1.toInt.toNat)) (by simp) (by decide)).trans rfl))
  have q74 : (gV τ66 26 0 (a3.toInt.toNat)).toInt = (gV σ 26 0 (a3.toInt.toNat)).toInt := congrArg Int32.toInt (show (gV τ66 26 0 (a3.toInt.toNat)) = (gV σ 26 0 (a3.toInt.toNat)) from (show gV τ66 26 0 (a3.toInt.toNat) = (gV σ 26 0 (a3.toInt.toNat)) from (f68.1 26 0 ((a3.toInt.toNat)) (by simp) (by decide)).trans rfl))
  have q75 : (gV τ66 27 0 (a1.toInt.toNat)).toInt = (gV σ 27 0 (a1.toInt.toNat)).toInt := congrArg Int32.toInt (show (gV τ66 27 0 (a1.toInt.toNat)) = (gV σ 27 0 (a1.toInt.toNat)) from (show gV τ66 27 0 (a1.toInt.toNat) = (gV σ 27 0 (a1.toInt.toNat)) from (f68.1 27 0 ((a1.toInt.toNat)) (by simp) (by decide)).trans rfl))
  have q76 : (gV τ66 27 0 (a3.toInt.toNat)).toInt = (gV σ 27 0 (a3.toInt.toNat)).toInt := congrArg Int32.toInt (show (gV τ66 27 0 (a3.toInt.toNat)) = (gV σ 27 0 (a3.toInt.toNat)) from (show gV τ66 27 0 (a3.toInt.toNat) = (gV σ 27 0 (a3.toInt.toNat)) from (f68.1 27 0 ((a3.toInt.toNat)) (by simp) (by decide)).trans rfl))
  show MW p l e _ s m args below meth c _ 7 G 0 0 4 [some (.ref (G.1 22 0)), some (.int a1), some (.int a2), some (.int a3), some (.int a4), some (.int a5), none] [.int x69] τ66
  refine m_if_eq (tgt := 14) C dX12_copy_4 (by decide) (fun c77 => ?_) (fun c77 => ?_)
  · have f78 : x69.toInt = 0 := by
      have q : _ := c77
      simp only [ti_nle, ti_nlt, ti_le, ti_lt, ti_eq, ti_ne, Classical.not_not, kt_0] at q
      omega
    have b79 : IV x69 0 0 := ⟨by have q1 := b70; have q2 := kc_0; omega, by have q1 := b70; have q2 := kc_0; omega⟩
    refine m_ldc (v := (-1000001)) C dX12_copy_14 q4_192 ?_
    exact m_iret C hr hlk (by decide) (by decide) dX12_copy_16 ⟨_, rfl, i67, g71, (iv_wk kc_m1000001 (by decide)), (by have q := kt_m1000001; omega)⟩
  · have f80 : x69.toInt ≠ 0 := by
      have q : _ := c77
      simp only [ti_nle, ti_nlt, ti_le, ti_lt, ti_eq, ti_ne, Classical.not_not, kt_0] at q
      omega
    have b81 : IV x69 1 1 := ⟨by have q1 := b70; have q2 := kc_0; omega, by have q1 := b70; have q2 := kc_0; omega⟩
    have b82 : IV a1 0 7 := ⟨by have q1 := (iv_any a1); omega, by have q1 := (iv_any a1); omega⟩
    refine m_iload_n C dX12_copy_7 rfl rfl ?_
    refine m_callS (n := 1) (st := []) C (c_X12_isRow l G τ66 (a3) i67 ) q4_186 q4_184 q4_185 q1_7 (by decide +kernel) rfl (by decide) (by decide) rfl (Nat.le_of_ble_eq_true rfl) dX12_copy_8 ?_
    rintro _ τ83 ⟨x86, rfl, i84, f85, b87, h89⟩
    have g88 : Fr MS_X12_copyE AS_X12_copyE σ τ83 := Fr.call (g71) f85 (by decide)
    have q90 : (gV τ83 26 0 (a1.toInt.toNat)).toInt = (gV σ 26 0 (a1.toInt.toNat)).toInt := congrArg Int32.toInt (show (gV τ83 26 0 (a1.toInt.toNat)) = (gV σ 26 0 (a1.toInt.toNat)) from (show gV τ83 26 0 (a1.toInt.toNat) = (gV σ 26 0 (a1.toInt.toNat)) from (f85.1 26 0 ((a1.toInt.toNat)) (by simp) (by decide)).trans (show gV τ66 26 0 (a1.toInt.toNat) = (gV σ 26 0 (a1.toInt.toNat)) from (f68.1 26 0 ((a1.toInt.toNat)) (by simp) (by decide)).trans rfl)))
    have q91 : (gV τ83 26 0 (a3.toInt.toNat)).toInt = (gV σ 26 0 (a3.toInt.toNat)).toInt := congrArg Int32.toInt (show (gV τ83 26 0 (a3.toInt.toNat)) = (gV σ 26 0 (a3.toInt.toNat)) from (show gV τ83 26 0 (a3.toInt.toNat) = (gV σ 26 0 (a3.toInt.toNat)) from (f85.1 26 0 ((a3.toInt.toNat)) (by simp) (by decide)).trans (show gV τ66 26 0 (a3.toInt.toNat) = (gV σ 26 0 (a3.toInt.toNat)) from (f68.1 26 0 ((a3.toInt.toNat)) (by simp) (by decide)).trans rfl)))
    have q92 : (gV τ83 27 0 (a1.toInt.toNat)).toInt = (gV σ 27 0 (a1.toInt.toNat)).toInt := congrArg Int32.toInt (show (gV τ83 27 0 (a1.toInt.toNat)) = (gV σ 27 0 (a1.toInt.toNat)) from (show gV τ83 27 0 (a1.toInt.toNat) = (gV σ 27 0 (a1.toInt.toNat)) from (f85.1 27 0 ((a1.toInt.toNat)) (by simp) (by decide)).trans (show gV τ66 27 0 (a1.toInt.toNat) = (gV σ 27 0 (a1.toInt.toNat)) from (f68.1 27 0 ((a1.toInt.toNat)) (by simp) (by decide)).trans rfl)))
    have q93 : (gV τ83 27 0 (a3.toInt.toNat)).toInt = (gV σ 27 0 (a3.toInt.toNat)).toInt := congrArg Int32.toInt (show (gV τ83 27 0 (a3.toInt.toNat)) = (gV σ 27 0 (a3.toInt.toNat)) from (show gV τ83 27 0 (a3.toInt.toNat) = (gV σ 27 0 (a3.toInt.toNat)) from (f85.1 27 0 ((a3.toInt.toNat)) (by simp) (by decide)).trans (show gV τ66 27 0 (a3.toInt.toNat) = (gV σ 27 0 (a3.toInt.toNat)) from (f68.1 27 0 ((a3.toInt.toNat)) (by simp) (by decide)).trans rfl)))
    show MW p l e _ s m args below meth c _ 7 G 0 0 11 [some (.ref (G.1 22 0)), some (.int a1), some (.int a2), some (.int a3), some (.int a4), some (.int a5), none] [.int x86] τ83
    refine m_if_ne (tgt := 17) C dX12_copy_11 (by decide) (fun c94 => ?_) (fun c94 => ?_)
    · have f95 : x86.toInt ≠ 0 := by
        have q : _ := c94
        simp only [ti_nle, ti_nlt, ti_le, ti_lt, ti_eq, ti_ne, Classical.not_not, kt_0] at q
        omega
      have b96 : IV x86 1 1 := ⟨by have q1 := b87; have q2 := kc_0; omega, by have q1 := b87; have q2 := kc_0; omega⟩
      have b97 : IV a3 0 7 := ⟨by have q1 := (iv_any a3); omega, by have q1 := (iv_any a3); omega⟩
      refine m_aload_n C dX12_copy_17 rfl rfl ?_
      refine g_22_3 C q4_119 dX12_copy_18 ?_
      refine m_iload_n C dX12_copy_21 rfl rfl ?_
      refine al_26 C b82 (by decide) rfl dX12_copy_22 ?_
      refine m_eqs (w := (gV σ 26 0 (a1.toInt.toNat))) (show gV τ83 26 0 (a1.toInt.toNat) = (gV σ 26 0 (a1.toInt.toNat)) from (f85.1 26 0 ((a1.toInt.toNat)) (by simp) (by decide)).trans (show gV τ66 26 0 (a1.toInt.toNat) = (gV σ 26 0 (a1.toInt.toNat)) from (f68.1 26 0 ((a1.toInt.toNat)) (by simp) (by decide)).trans rfl)) ?_
      refine m_if_lt (tgt := 35) C dX12_copy_23 (by decide) (fun c98 => ?_) (fun c98 => ?_)
      · have f99 : (gV σ 26 0 (a1.toInt.toNat)).toInt < 0 := by
          have q : _ := c98
          simp only [ti_nle, ti_nlt, ti_le, ti_lt, ti_eq, ti_ne, Classical.not_not, kt_0] at q
          omega
        have b100 : IV (gV σ 26 0 (a1.toInt.toNat)) (-2147483648) (-1) := ⟨by have q1 := (iv_any (gV σ 26 0 (a1.toInt.toNat))); have q2 := kc_0; omega, by have q1 := (iv_any (gV σ 26 0 (a1.toInt.toNat))); have q2 := kc_0; omega⟩
        refine m_aload_n C dX12_copy_35 rfl rfl ?_
        refine m_iconst (v := 1) C dX12_copy_36 (by decide) ?_
        refine m_callV (n := 1) (ci := 11) (st := []) C (c_X12_met l G τ83 (1) i84 (iv_wk kc_1 (by decide))) (by decide) (by decide) rfl rfl rfl q4_196 q4_193 q4_195 q0_26 q1_7 (by decide +kernel) rfl (by decide) (by decide) rfl (Nat.le_of_ble_eq_true rfl) dX12_copy_37 ?_
        rintro _ τ101 ⟨x104, rfl, i102, f103, b105, h107⟩
        have g106 : Fr MS_X12_copyE AS_X12_copyE σ τ101 := Fr.call (g88) f103 (by decide)
        have q108 : (gV τ101 26 0 (a1.toInt.toNat)).toInt = (gV σ 26 0 (a1.toInt.toNat)).toInt := congrArg Int32.toInt (show (gV τ101 26 0 (a1.toInt.toNat)) = (gV σ 26 0 (a1.toInt.toNat)) from (show gV τ101 26 0 (a1.toInt.toNat) = (gV σ 26 0 (a1.toInt.toNat)) from (f103.1 26 0 ((a1.toInt.toNat)) (by simp) (by decide)).trans (show gV τ83 26 0 (a1.toInt.toNat) = (gV σ 26 0 (a1.toInt.toNat)) from (f85.1 26 0 ((a1.toInt.toNat)) (by simp) (by decide)).trans (show gV τ66 26 0 (a1.toInt.toNat) = (gV σ 26 0 (a1.toInt.toNat)) from (f68.1 26 0 ((a1.toInt.toNat)) (by simp) (by decide)).trans rfl))))
        have q109 : (gV τ101 26 0 (a3.toInt.toNat)).toInt = (gV σ 26 0 (a3.toInt.toNat)).toInt := congrArg Int32.toInt (show (gV τ101 26 0 (a3.toInt.toNat)) = (gV σ 26 0 (a3.toInt.toNat)) from (show gV τ101 26 0 (a3.toInt.toNat) = (gV σ 26 0 (a3.toInt.toNat)) from (f103.1 26 0 ((a3.toInt.toNat)) (by simp) (by decide)).trans (show gV τ83 26 0 (a3.toInt.toNat) = (gV σ 26 0 (a3.toInt.toNat)) from (f85.1 26 0 ((a3.toInt.toNat)) (by simp) (by decide)).trans (show gV τ66 26 0 (a3.toInt.toNat) = (gV σ 26 0 (a3.toInt.toNat)) from (f68.1 26 0 ((a3.toInt.toNat)) (by simp) (by decide)).trans rfl))))
        have q110 : (gV τ101 27 0 (a1.toInt.toNat)).toInt = (gV σ 27 0 (a1.toInt.toNat)).toInt := congrArg Int32.toInt (show (gV τ101 27 0 (a1.toInt.toNat)) = (gV σ 27 0 (a1.toInt.toNat)) from (show gV τ101 27 0 (a1.toInt.toNat) = (gV σ 27 0 (a1.toInt.toNat)) from (f103.1 27 0 ((a1.toInt.toNat)) (by simp) (by decide)).trans (show gV τ83 27 0 (a1.toInt.toNat) = (gV σ 27 0 (a1.toInt.toNat)) from (f85.1 27 0 ((a1.toInt.toNat)) (by simp) (by decide)).trans (show gV τ66 27 0 (a1.toInt.toNat) = (gV σ 27 0 (a1.toInt.toNat)) from (f68.1 27 0 ((a1.toInt.toNat)) (by simp) (by decide)).trans rfl))))
        have q111 : (gV τ101 27 0 (a3.toInt.toNat)).toInt = (gV σ 27 0 (a3.toInt.toNat)).toInt := congrArg Int32.toInt (show (gV τ101 27 0 (a3.toInt.toNat)) = (gV σ 27 0 (a3.toInt.toNat)) from (show gV τ101 27 0 (a3.toInt.toNat) = (gV σ 27 0 (a3.toInt.toNat)) from (f103.1 27 0 ((a3.toInt.toNat)) (by simp) (by decide)).trans (show gV τ83 27 0 (a3.toInt.toNat) = (gV σ 27 0 (a3.toInt.toNat)) from (f85.1 27 0 ((a3.toInt.toNat)) (by simp) (by decide)).trans (show gV τ66 27 0 (a3.toInt.toNat) = (gV σ 27 0 (a3.toInt.toNat)) from (f68.1 27 0 ((a3.toInt.toNat)) (by simp) (by decide)).trans rfl))))
        have q112 := kt_1
        show MW p l e _ s m args below meth c _ 7 G 0 0 40 [some (.ref (G.1 22 0)), some (.int a1), some (.int a2), some (.int a3), some (.int a4), some (.int a5), none] [.int x104] τ101
        exact m_iret C hr hlk (by decide) (by decide) dX12_copy_40 ⟨_, rfl, i102, g106, (iv_wk b105 (by decide)), (by omega)⟩
      · have f113 : 0 ≤ (gV σ 26 0 (a1.toInt.toNat)).toInt := by
          have q : _ := c98
          simp only [ti_nle, ti_nlt, ti_le, ti_lt, ti_eq, ti_ne, Classical.not_not, kt_0] at q
          omega
        have b114 : IV (gV σ 26 0 (a1.toInt.toNat)) 0 2147483647 := ⟨by have q1 := kc_0; have q2 := (iv_any (gV σ 26 0 (a1.toInt.toNat))); omega, by have q1 := kc_0; have q2 := (iv_any (gV σ 26 0 (a1.toInt.toNat))); omega⟩
        refine m_aload_n C dX12_copy_26 rfl rfl ?_
        refine g_22_3 C q4_119 dX12_copy_27 ?_
        refine m_iload_n C dX12_copy_30 rfl rfl ?_
        refine al_26 C b97 (by decide) rfl dX12_copy_31 ?_
        refine m_eqs (w := (gV σ 26 0 (a3.toInt.toNat))) (show gV τ83 26 0 (a3.toInt.toNat) = (gV σ 26 0 (a3.toInt.toNat)) from (f85.1 26 0 ((a3.toInt.toNat)) (by simp) (by decide)).trans (show gV τ66 26 0 (a3.toInt.toNat) = (gV σ 26 0 (a3.toInt.toNat)) from (f68.1 26 0 ((a3.toInt.toNat)) (by simp) (by decide)).trans rfl)) ?_
        refine m_if_ge (tgt := 41) C dX12_copy_32 (by decide) (fun c115 => ?_) (fun c115 => ?_)
        · have f116 : 0 ≤ (gV σ 26 0 (a3.toInt.toNat)).toInt := by
            have q : _ := c115
            simp only [ti_nle, ti_nlt, ti_le, ti_lt, ti_eq, ti_ne, Classical.not_not, kt_0] at q
            omega
          have b117 : IV (gV σ 26 0 (a3.toInt.toNat)) 0 2147483647 := ⟨by have q1 := kc_0; have q2 := (iv_any (gV σ 26 0 (a3.toInt.toNat))); omega, by have q1 := kc_0; have q2 := (iv_any (gV σ 26 0 (a3.toInt.toNat))); omega⟩
          refine m_aload_n C dX12_copy_41 rfl rfl ?_
          refine g_22_3 C q4_119 dX12_copy_42 ?_
          refine m_iload_n C dX12_copy_45 rfl rfl ?_
          refine al_26 C b82 (by decide) rfl dX12_copy_46 ?_
          refine m_eqs (w := (gV σ 26 0 (a1.toInt.toNat))) (show gV τ83 26 0 (a1.toInt.toNat) = (gV σ 26 0 (a1.toInt.toNat)) from (f85.1 26 0 ((a1.toInt.toNat)) (by simp) (by decide)).trans (show gV τ66 26 0 (a1.toInt.toNat) = (gV σ 26 0 (a1.toInt.toNat)) from (f68.1 26 0 ((a1.toInt.toNat)) (by simp) (by decide)).trans rfl)) ?_
          refine m_aload_n C dX12_copy_47 rfl rfl ?_
          refine g_22_3 C q4_119 dX12_copy_48 ?_
          refine m_iload_n C dX12_copy_51 rfl rfl ?_
          refine al_26 C b97 (by decide) rfl dX12_copy_52 ?_
          refine m_eqs (w := (gV σ 26 0 (a3.toInt.toNat))) (show gV τ83 26 0 (a3.toInt.toNat) = (gV σ 26 0 (a3.toInt.toNat)) from (f85.1 26 0 ((a3.toInt.toNat)) (by simp) (by decide)).trans (show gV τ66 26 0 (a3.toInt.toNat) = (gV σ 26 0 (a3.toInt.toNat)) from (f68.1 26 0 ((a3.toInt.toNat)) (by simp) (by decide)).trans rfl)) ?_
          refine m_icmp_eq (tgt := 62) C dX12_copy_53 (by decide) (fun c118 => ?_) (fun c118 => ?_)
          · have f119 : (gV σ 26 0 (a1.toInt.toNat)).toInt = (gV σ 26 0 (a3.toInt.toNat)).toInt := by
              have q : _ := c118
              simp only [ti_nle, ti_nlt, ti_le, ti_lt, ti_eq, ti_ne, Classical.not_not] at q
              omega
            refine m_iload_n C dX12_copy_62 rfl rfl ?_
            refine m_if_lt (tgt := 111) C dX12_copy_63 (by decide) (fun c120 => ?_) (fun c120 => ?_)
            · have f121 : a2.toInt < 0 := by
                have q : _ := c120
                simp only [ti_nle, ti_nlt, ti_le, ti_lt, ti_eq, ti_ne, Classical.not_not, kt_0] at q
                omega
              have b122 : IV a2 (-2147483648) (-1) := ⟨by have q1 := (iv_any a2); have q2 := kc_0; omega, by have q1 := (iv_any a2); have q2 := kc_0; omega⟩
              refine m_aload_n C dX12_copy_111 rfl rfl ?_
              refine m_iconst (v := 2) C dX12_copy_112 (by decide) ?_
              refine m_callV (n := 1) (ci := 11) (st := []) C (c_X12_met l G τ83 (2) i84 (iv_wk kc_2 (by decide))) (by decide) (by decide) rfl rfl rfl q4_196 q4_193 q4_195 q0_26 q1_7 (by decide +kernel) rfl (by decide) (by decide) rfl (Nat.le_of_ble_eq_true rfl) dX12_copy_113 ?_
              rintro _ τ123 ⟨x126, rfl, i124, f125, b127, h129⟩
              have g128 : Fr MS_X12_copyE AS_X12_copyE σ τ123 := Fr.call (g88) f125 (by decide)
              have q130 : (gV τ123 26 0 (a1.toInt.toNat)).toInt = (gV σ 26 0 (a1.toInt.toNat)).toInt := congrArg Int32.toInt (show (gV τ123 26 0 (a1.toInt.toNat)) = (gV σ 26 0 (a1.toInt.toNat)) from (show gV τ123 26 0 (a1.toInt.toNat) = (gV σ 26 0 (a1.toInt.toNat)) from (f125.1 26 0 ((a1.toInt.toNat)) (by simp) (by decide)).trans (show gV τ83 26 0 (a1.toInt.toNat) = (gV σ 26 0 (a1.toInt.toNat)) from (f85.1 26 0 ((a1.toInt.toNat)) (by simp) (by decide)).trans (show gV τ66 26 0 (a1.toInt.toNat) = (gV σ 26 0 (a1.toInt.toNat)) from (f68.1 26 0 ((a1.toInt.toNat)) (by simp) (by decide)).trans rfl))))
              have q131 : (gV τ123 26 0 (a3.toInt.toNat)).toInt = (gV σ 26 0 (a3.toInt.toNat)).toInt := congrArg Int32.toInt (show (gV τ123 26 0 (a3.toInt.toNat)) = (gV σ 26 0 (a3.toInt.toNat)) from (show gV τ123 26 0 (a3.toInt.toNat) = (gV σ 26 0 (a3.toInt.toNat)) from (f125.1 26 0 ((a3.toInt.toNat)) (by simp) (by decide)).trans (show gV τ83 26 0 (a3.toInt.toNat) = (gV σ 26 0 (a3.toInt.toNat)) from (f85.1 26 0 ((a3.toInt.toNat)) (by simp) (by decide)).trans (show gV τ66 26 0 (a3.toInt.toNat) = (gV σ 26 0 (a3.toInt.toNat)) from (f68.1 26 0 ((a3.toInt.toNat)) (by simp) (by decide)).trans rfl))))
              have q132 : (gV τ123 27 0 (a1.toInt.toNat)).toInt = (gV σ 27 0 (a1.toInt.toNat)).toInt := congrArg Int32.toInt (show (gV τ123 27 0 (a1.toInt.toNat)) = (gV σ 27 0 (a1.toInt.toNat)) from (show gV τ123 27 0 (a1.toInt.toNat) = (gV σ 27 0 (a1.toInt.toNat)) from (f125.1 27 0 ((a1.toInt.toNat)) (by simp) (by decide)).trans (show gV τ83 27 0 (a1.toInt.toNat) = (gV σ 27 0 (a1.toInt.toNat)) from (f85.1 27 0 ((a1.toInt.toNat)) (by simp) (by decide)).trans (show gV τ66 27 0 (a1.toInt.toNat) = (gV σ 27 0 (a1.toInt.toNat)) from (f68.1 27 0 ((a1.toInt.toNat)) (by simp) (by decide)).trans rfl))))
              have q133 : (gV τ123 27 0 (a3.toInt.toNat)).toInt = (gV σ 27 0 (a3.toInt.toNat)).toInt := congrArg Int32.toInt (show (gV τ123 27 0 (a3.toInt.toNat)) = (gV σ 27 0 (a3.toInt.toNat)) from (show gV τ123 27 0 (a3.toInt.toNat) = (gV σ 27 0 (a3.toInt.toNat)) from (f125.1 27 0 ((a3.toInt.toNat)) (by simp) (by decide)).trans (show gV τ83 27 0 (a3.toInt.toNat) = (gV σ 27 0 (a3.toInt.toNat)) from (f85.1 27 0 ((a3.toInt.toNat)) (by simp) (by decide)).trans (show gV τ66 27 0 (a3.toInt.toNat) = (gV σ 27 0 (a3.toInt.toNat)) from (f68.1 27 0 ((a3.toInt.toNat)) (by simp) (by decide)).trans rfl))))
              have q134 := kt_2
              show MW p l e _ s m args below meth c _ 7 G 0 0 116 [some (.ref (G.1 22 0)), some (.int a1), some (.int a2), some (.int a3), some (.int a4), some (.int a5), none] [.int x126] τ123
              exact m_iret C hr hlk (by decide) (by decide) dX12_copy_116 ⟨_, rfl, i124, g128, (iv_wk b127 (by decide)), (by omega)⟩
            · have f135 : 0 ≤ a2.toInt := by
                have q : _ := c120
                simp only [ti_nle, ti_nlt, ti_le, ti_lt, ti_eq, ti_ne, Classical.not_not, kt_0] at q
                omega
              have b136 : IV a2 0 2147483647 := ⟨by have q1 := kc_0; have q2 := (iv_any a2); omega, by have q1 := kc_0; have q2 := (iv_any a2); omega⟩
              refine m_iload C dX12_copy_66 rfl ?_
              refine m_if_lt (tgt := 111) C dX12_copy_68 (by decide) (fun c137 => ?_) (fun c137 => ?_)
              · have f138 : a4.toInt < 0 := by
                  have q : _ := c137
                  simp only [ti_nle, ti_nlt, ti_le, ti_lt, ti_eq, ti_ne, Classical.not_not, kt_0] at q
                  omega
                have b139 : IV a4 (-2147483648) (-1) := ⟨by have q1 := (iv_any a4); have q2 := kc_0; omega, by have q1 := (iv_any a4); have q2 := kc_0; omega⟩
                refine m_aload_n C dX12_copy_111 rfl rfl ?_
                refine m_iconst (v := 2) C dX12_copy_112 (by decide) ?_
                refine m_callV (n := 1) (ci := 11) (st := []) C (c_X12_met l G τ83 (2) i84 (iv_wk kc_2 (by decide))) (by decide) (by decide) rfl rfl rfl q4_196 q4_193 q4_195 q0_26 q1_7 (by decide +kernel) rfl (by decide) (by decide) rfl (Nat.le_of_ble_eq_true rfl) dX12_copy_113 ?_
                rintro _ τ140 ⟨x143, rfl, i141, f142, b144, h146⟩
                have g145 : Fr MS_X12_copyE AS_X12_copyE σ τ140 := Fr.call (g88) f142 (by decide)
                have q147 : (gV τ140 26 0 (a1.toInt.toNat)).toInt = (gV σ 26 0 (a1.toInt.toNat)).toInt := congrArg Int32.toInt (show (gV τ140 26 0 (a1.toInt.toNat)) = (gV σ 26 0 (a1.toInt.toNat)) from (show gV τ140 26 0 (a1.toInt.toNat) = (gV σ 26 0 (a1.toInt.toNat)) from (f142.1 26 0 ((a1.toInt.toNat)) (by simp) (by decide)).trans (show gV τ83 26 0 (a1.toInt.toNat) = (gV σ 26 0 (a1.toInt.toNat)) from (f85.1 26 0 ((a1.toInt.toNat)) (by simp) (by decide)).trans (show gV τ66 26 0 (a1.toInt.toNat) = (gV σ 26 0 (a1.toInt.toNat)) from (f68.1 26 0 ((a1.toInt.toNat)) (by simp) (by decide)).trans rfl))))
                have q148 : (gV τ140 26 0 (a3.toInt.toNat)).toInt = (gV σ 26 0 (a3.toInt.toNat)).toInt := congrArg Int32.toInt (show (gV τ140 26 0 (a3.toInt.toNat)) = (gV σ 26 0 (a3.toInt.toNat)) from (show gV τ140 26 0 (a3.toInt.toNat) = (gV σ 26 0 (a3.toInt.toNat)) from (f142.1 26 0 ((a3.toInt.toNat)) (by simp) (by decide)).trans (show gV τ83 26 0 (a3.toInt.toNat) = (gV σ 26 0 (a3.toInt.toNat)) from (f85.1 26 0 ((a3.toInt.toNat)) (by simp) (by decide)).trans (show gV τ66 26 0 (a3.toInt.toNat) = (gV σ 26 0 (a3.toInt.toNat)) from (f68.1 26 0 ((a3.toInt.toNat)) (by simp) (by decide)).trans rfl))))
                have q149 : (gV τ140 27 0 (a1.toInt.toNat)).toInt = (gV σ 27 0 (a1.toInt.toNat)).toInt := congrArg Int32.toInt (show (gV τ140 27 0 (a1.toInt.toNat)) = (gV σ 27 0 (a1.toInt.toNat)) from (show gV τ140 27 0 (a1.toInt.toNat) = (gV σ 27 0 (a1.toInt.toNat)) from (f142.1 27 0 ((a1.toInt.toNat)) (by simp) (by decide)).trans (show gV τ83 27 0 (a1.toInt.toNat) = (gV σ 27 0 (a1.toInt.toNat)) from (f85.1 27 0 ((a1.toInt.toNat)) (by simp) (by decide)).trans (show gV τ66 27 0 (a1.toInt.toNat) = (gV σ 27 0 (a1.toInt.toNat)) from (f68.1 27 0 ((a1.toInt.toNat)) (by simp) (by decide)).trans rfl))))
                have q150 : (gV τ140 27 0 (a3.toInt.toNat)).toInt = (gV σ 27 0 (a3.toInt.toNat)).toInt := congrArg Int32.toInt (show (gV τ140 27 0 (a3.toInt.toNat)) = (gV σ 27 0 (a3.toInt.toNat)) from (show gV τ140 27 0 (a3.toInt.toNat) = (gV σ 27 0 (a3.toInt.toNat)) from (f142.1 27 0 ((a3.toInt.toNat)) (by simp) (by decide)).trans (show gV τ83 27 0 (a3.toInt.toNat) = (gV σ 27 0 (a3.toInt.toNat)) from (f85.1 27 0 ((a3.toInt.toNat)) (by simp) (by decide)).trans (show gV τ66 27 0 (a3.toInt.toNat) = (gV σ 27 0 (a3.toInt.toNat)) from (f68.1 27 0 ((a3.toInt.toNat)) (by simp) (by decide)).trans rfl))))
                have q151 := kt_2
                show MW p l e _ s m args below meth c _ 7 G 0 0 116 [some (.ref (G.1 22 0)), some (.int a1), some (.int a2), some (.int a3), some (.int a4), some (.int a5), none] [.int x143] τ140
                exact m_iret C hr hlk (by decide) (by decide) dX12_copy_116 ⟨_, rfl, i141, g145, (iv_wk b144 (by decide)), (by omega)⟩
              · have f152 : 0 ≤ a4.toInt := by
                  have q : _ := c137
                  simp only [ti_nle, ti_nlt, ti_le, ti_lt, ti_eq, ti_ne, Classical.not_not, kt_0] at q
                  omega
                have b153 : IV a4 0 2147483647 := ⟨by have q1 := kc_0; have q2 := (iv_any a4); omega, by have q1 := kc_0; have q2 := (iv_any a4); omega⟩
                refine m_iload C dX12_copy_71 rfl ?_
                refine m_if_lt (tgt := 111) C dX12_copy_73 (by decide) (fun c154 => ?_) (fun c154 => ?_)
                · have f155 : a5.toInt < 0 := by
                    have q : _ := c154
                    simp only [ti_nle, ti_nlt, ti_le, ti_lt, ti_eq, ti_ne, Classical.not_not, kt_0] at q
                    omega
                  have b156 : IV a5 (-2147483648) (-1) := ⟨by have q1 := (iv_any a5); have q2 := kc_0; omega, by have q1 := (iv_any a5); have q2 := kc_0; omega⟩
                  refine m_aload_n C dX12_copy_111 rfl rfl ?_
                  refine m_iconst (v := 2) C dX12_copy_112 (by decide) ?_
                  refine m_callV (n := 1) (ci := 11) (st := []) C (c_X12_met l G τ83 (2) i84 (iv_wk kc_2 (by decide))) (by decide) (by decide) rfl rfl rfl q4_196 q4_193 q4_195 q0_26 q1_7 (by decide +kernel) rfl (by decide) (by decide) rfl (Nat.le_of_ble_eq_true rfl) dX12_copy_113 ?_
                  rintro _ τ157 ⟨x160, rfl, i158, f159, b161, h163⟩
                  have g162 : Fr MS_X12_copyE AS_X12_copyE σ τ157 := Fr.call (g88) f159 (by decide)
                  have q164 : (gV τ157 26 0 (a1.toInt.toNat)).toInt = (gV σ 26 0 (a1.toInt.toNat)).toInt := congrArg Int32.toInt (show (gV τ157 26 0 (a1.toInt.toNat)) = (gV σ 26 0 (a1.toInt.toNat)) from (show gV τ157 26 0 (a1.toInt.toNat) = (gV σ 26 0 (a1.toInt.toNat)) from (f159.1 26 0 ((a1.toInt.toNat)) (by simp) (by decide)).trans (show gV τ83 26 0 (a1.toInt.toNat) = (gV σ 26 0 (a1.toInt.toNat)) from (f85.1 26 0 ((a1.toInt.toNat)) (by simp) (by decide)).trans (show gV τ66 26 0 (a1.toInt.toNat) = (gV σ 26 0 (a1.toInt.toNat)) from (f68.1 26 0 ((a1.toInt.toNat)) (by simp) (by decide)).trans rfl))))
                  have q165 : (gV τ157 26 0 (a3.toInt.toNat)).toInt = (gV σ 26 0 (a3.toInt.toNat)).toInt := congrArg Int32.toInt (show (gV τ157 26 0 (a3.toInt.toNat)) = (gV σ 26 0 (a3.toInt.toNat)) from (show gV τ157 26 0 (a3.toInt.toNat) = (gV σ 26 0 (a3.toInt.toNat)) from (f159.1 26 0 ((a3.toInt.toNat)) (by simp) (by decide)).trans (show gV τ83 26 0 (a3.toInt.toNat) = (gV σ 26 0 (a3.toInt.toNat)) from (f85.1 26 0 ((a3.toInt.toNat)) (by simp) (by decide)).trans (show gV τ66 26 0 (a3.toInt.toNat) = (gV σ 26 0 (a3.toInt.toNat)) from (f68.1 26 0 ((a3.toInt.toNat)) (by simp) (by decide)).trans rfl))))
                  have q166 : (gV τ157 27 0 (a1.toInt.toNat)).toInt = (gV σ 27 0 (a1.toInt.toNat)).toInt := congrArg Int32.toInt (show (gV τ157 27 0 (a1.toInt.toNat)) = (gV σ 27 0 (a1.toInt.toNat)) from (show gV τ157 27 0 (a1.toInt.toNat) = (gV σ 27 0 (a1.toInt.toNat)) from (f159.1 27 0 ((a1.toInt.toNat)) (by simp) (by decide)).trans (show gV τ83 27 0 (a1.toInt.toNat) = (gV σ 27 0 (a1.toInt.toNat)) from (f85.1 27 0 ((a1.toInt.toNat)) (by simp) (by decide)).trans (show gV τ66 27 0 (a1.toInt.toNat) = (gV σ 27 0 (a1.toInt.toNat)) from (f68.1 27 0 ((a1.toInt.toNat)) (by simp) (by decide)).trans rfl))))
                  have q167 : (gV τ157 27 0 (a3.toInt.toNat)).toInt = (gV σ 27 0 (a3.toInt.toNat)).toInt := congrArg Int32.toInt (show (gV τ157 27 0 (a3.toInt.toNat)) = (gV σ 27 0 (a3.toInt.toNat)) from (show gV τ157 27 0 (a3.toInt.toNat) = (gV σ 27 0 (a3.toInt.toNat)) from (f159.1 27 0 ((a3.toInt.toNat)) (by simp) (by decide)).trans (show gV τ83 27 0 (a3.toInt.toNat) = (gV σ 27 0 (a3.toInt.toNat)) from (f85.1 27 0 ((a3.toInt.toNat)) (by simp) (by decide)).trans (show gV τ66 27 0 (a3.toInt.toNat) = (gV σ 27 0 (a3.toInt.toNat)) from (f68.1 27 0 ((a3.toInt.toNat)) (by simp) (by decide)).trans rfl))))
                  have q168 := kt_2
                  show MW p l e _ s m args below meth c _ 7 G 0 0 116 [some (.ref (G.1 22 0)), some (.int a1), some (.int a2), some (.int a3), some (.int a4), some (.int a5), none] [.int x160] τ157
                  exact m_iret C hr hlk (by decide) (by decide) dX12_copy_116 ⟨_, rfl, i158, g162, (iv_wk b161 (by decide)), (by omega)⟩
                · have f169 : 0 ≤ a5.toInt := by
                    have q : _ := c154
                    simp only [ti_nle, ti_nlt, ti_le, ti_lt, ti_eq, ti_ne, Classical.not_not, kt_0] at q
                    omega
                  have b170 : IV a5 0 2147483647 := ⟨by have q1 := kc_0; have q2 := (iv_any a5); omega, by have q1 := kc_0; have q2 := (iv_any a5); omega⟩
                  refine m_iload_n C dX12_copy_76 rfl rfl ?_
                  refine m_i2l C dX12_copy_77 ?_
                  refine m_iload C dX12_copy_78 rfl ?_
                  refine m_i2l C dX12_copy_80 ?_
                  refine m_ladd C dX12_copy_81 ?_
                  refine m_aload_n C dX12_copy_82 rfl rfl ?_
                  refine g_22_4 C q4_120 dX12_copy_83 ?_
                  refine m_iload_n C dX12_copy_86 rfl rfl ?_
                  refine al_27 C b82 (by decide) rfl dX12_copy_87 ?_
                  refine m_eqs (w := (gV σ 27 0 (a1.toInt.toNat))) (show gV τ83 27 0 (a1.toInt.toNat) = (gV σ 27 0 (a1.toInt.toNat)) from (f85.1 27 0 ((a1.toInt.toNat)) (by simp) (by decide)).trans (show gV τ66 27 0 (a1.toInt.toNat) = (gV σ 27 0 (a1.toInt.toNat)) from (f68.1 27 0 ((a1.toInt.toNat)) (by simp) (by decide)).trans rfl)) ?_
                  refine m_i2l C dX12_copy_88 ?_
                  refine m_lcmp C dX12_copy_89 ?_
                  refine m_topi (fun x171 ex171 => ?_)
                  have b172 : IV x171 (-1) 1 := by rw [ex171]; rcases lgc ((a2 : Int32).toInt64 + (a5 : Int32).toInt64) ((gV σ 27 0 (a1.toInt.toNat)) : Int32).toInt64 with q | q | q <;> omega
                  have f173 := lgc ((a2 : Int32).toInt64 + (a5 : Int32).toInt64) ((gV σ 27 0 (a1.toInt.toNat)) : Int32).toInt64
                  rw [← ex171] at f173
                  have f174 := tl_add a2 a5
                  have f175 := tl_i (gV σ 27 0 (a1.toInt.toNat))
                  refine m_if_gt (tgt := 111) C dX12_copy_90 (by decide) (fun c176 => ?_) (fun c176 => ?_)
                  · have f177 : 0 < x171.toInt := by
                      have q : _ := c176
                      simp only [ti_nle, ti_nlt, ti_le, ti_lt, ti_eq, ti_ne, Classical.not_not, kt_0] at q
                      omega
                    have b178 : IV x171 1 1 := ⟨by have q1 := kc_0; have q2 := b172; omega, by have q1 := kc_0; have q2 := b172; omega⟩
                    refine m_aload_n C dX12_copy_111 rfl rfl ?_
                    refine m_iconst (v := 2) C dX12_copy_112 (by decide) ?_
                    refine m_callV (n := 1) (ci := 11) (st := []) C (c_X12_met l G τ83 (2) i84 (iv_wk kc_2 (by decide))) (by decide) (by decide) rfl rfl rfl q4_196 q4_193 q4_195 q0_26 q1_7 (by decide +kernel) rfl (by decide) (by decide) rfl (Nat.le_of_ble_eq_true rfl) dX12_copy_113 ?_
                    rintro _ τ179 ⟨x182, rfl, i180, f181, b183, h185⟩
                    have g184 : Fr MS_X12_copyE AS_X12_copyE σ τ179 := Fr.call (g88) f181 (by decide)
                    have q186 : (gV τ179 26 0 (a1.toInt.toNat)).toInt = (gV σ 26 0 (a1.toInt.toNat)).toInt := congrArg Int32.toInt (show (gV τ179 26 0 (a1.toInt.toNat)) = (gV σ 26 0 (a1.toInt.toNat)) from (show gV τ179 26 0 (a1.toInt.toNat) = (gV σ 26 0 (a1.toInt.toNat)) from (f181.1 26 0 ((a1.toInt.toNat)) (by simp) (by decide)).trans (show gV τ83 26 0 (a1.toInt.toNat) = (gV σ 26 0 (a1.toInt.toNat)) from (f85.1 26 0 ((a1.toInt.toNat)) (by simp) (by decide)).trans (show gV τ66 26 0 (a1.toInt.toNat) = (gV σ 26 0 (a1.toInt.toNat)) from (f68.1 26 0 ((a1.toInt.toNat)) (by simp) (by decide)).trans rfl))))
                    have q187 : (gV τ179 26 0 (a3.toInt.toNat)).toInt = (gV σ 26 0 (a3.toInt.toNat)).toInt := congrArg Int32.toInt (show (gV τ179 26 0 (a3.toInt.toNat)) = (gV σ 26 0 (a3.toInt.toNat)) from (show gV τ179 26 0 (a3.toInt.toNat) = (gV σ 26 0 (a3.toInt.toNat)) from (f181.1 26 0 ((a3.toInt.toNat)) (by simp) (by decide)).trans (show gV τ83 26 0 (a3.toInt.toNat) = (gV σ 26 0 (a3.toInt.toNat)) from (f85.1 26 0 ((a3.toInt.toNat)) (by simp) (by decide)).trans (show gV τ66 26 0 (a3.toInt.toNat) = (gV σ 26 0 (a3.toInt.toNat)) from (f68.1 26 0 ((a3.toInt.toNat)) (by simp) (by decide)).trans rfl))))
                    have q188 : (gV τ179 27 0 (a1.toInt.toNat)).toInt = (gV σ 27 0 (a1.toInt.toNat)).toInt := congrArg Int32.toInt (show (gV τ179 27 0 (a1.toInt.toNat)) = (gV σ 27 0 (a1.toInt.toNat)) from (show gV τ179 27 0 (a1.toInt.toNat) = (gV σ 27 0 (a1.toInt.toNat)) from (f181.1 27 0 ((a1.toInt.toNat)) (by simp) (by decide)).trans (show gV τ83 27 0 (a1.toInt.toNat) = (gV σ 27 0 (a1.toInt.toNat)) from (f85.1 27 0 ((a1.toInt.toNat)) (by simp) (by decide)).trans (show gV τ66 27 0 (a1.toInt.toNat) = (gV σ 27 0 (a1.toInt.toNat)) from (f68.1 27 0 ((a1.toInt.toNat)) (by simp) (by decide)).trans rfl))))
                    have q189 : (gV τ179 27 0 (a3.toInt.toNat)).toInt = (gV σ 27 0 (a3.toInt.toNat)).toInt := congrArg Int32.toInt (show (gV τ179 27 0 (a3.toInt.toNat)) = (gV σ 27 0 (a3.toInt.toNat)) from (show gV τ179 27 0 (a3.toInt.toNat) = (gV σ 27 0 (a3.toInt.toNat)) from (f181.1 27 0 ((a3.toInt.toNat)) (by simp) (by decide)).trans (show gV τ83 27 0 (a3.toInt.toNat) = (gV σ 27 0 (a3.toInt.toNat)) from (f85.1 27 0 ((a3.toInt.toNat)) (by simp) (by decide)).trans (show gV τ66 27 0 (a3.toInt.toNat) = (gV σ 27 0 (a3.toInt.toNat)) from (f68.1 27 0 ((a3.toInt.toNat)) (by simp) (by decide)).trans rfl))))
                    have q190 := kt_2
                    show MW p l e _ s m args below meth c _ 7 G 0 0 116 [some (.ref (G.1 22 0)), some (.int a1), some (.int a2), some (.int a3), some (.int a4), some (.int a5), none] [.int x182] τ179
                    exact m_iret C hr hlk (by decide) (by decide) dX12_copy_116 ⟨_, rfl, i180, g184, (iv_wk b183 (by decide)), (by omega)⟩
                  · have f191 : x171.toInt ≤ 0 := by
                      have q : _ := c176
                      simp only [ti_nle, ti_nlt, ti_le, ti_lt, ti_eq, ti_ne, Classical.not_not, kt_0] at q
                      omega
                    have b192 : IV x171 (-1) 0 := ⟨by have q1 := b172; have q2 := kc_0; omega, by have q1 := b172; have q2 := kc_0; omega⟩
                    refine m_iload C dX12_copy_93 rfl ?_
                    refine m_i2l C dX12_copy_95 ?_
                    refine m_iload C dX12_copy_96 rfl ?_
                    refine m_i2l C dX12_copy_98 ?_
                    refine m_ladd C dX12_copy_99 ?_
                    refine m_aload_n C dX12_copy_100 rfl rfl ?_
                    refine g_22_4 C q4_120 dX12_copy_101 ?_
                    refine m_iload_n C dX12_copy_104 rfl rfl ?_
                    refine al_27 C b97 (by decide) rfl dX12_copy_105 ?_
                    refine m_eqs (w := (gV σ 27 0 (a3.toInt.toNat))) (show gV τ83 27 0 (a3.toInt.toNat) = (gV σ 27 0 (a3.toInt.toNat)) from (f85.1 27 0 ((a3.toInt.toNat)) (by simp) (by decide)).trans (show gV τ66 27 0 (a3.toInt.toNat) = (gV σ 27 0 (a3.toInt.toNat)) from (f68.1 27 0 ((a3.toInt.toNat)) (by simp) (by decide)).trans rfl)) ?_
                    refine m_i2l C dX12_copy_106 ?_
                    refine m_lcmp C dX12_copy_107 ?_
                    refine m_topi (fun x193 ex193 => ?_)
                    have b194 : IV x193 (-1) 1 := by rw [ex193]; rcases lgc ((a4 : Int32).toInt64 + (a5 : Int32).toInt64) ((gV σ 27 0 (a3.toInt.toNat)) : Int32).toInt64 with q | q | q <;> omega
                    have f195 := lgc ((a4 : Int32).toInt64 + (a5 : Int32).toInt64) ((gV σ 27 0 (a3.toInt.toNat)) : Int32).toInt64
                    rw [← ex193] at f195
                    have f196 := tl_add a4 a5
                    have f197 := tl_i (gV σ 27 0 (a3.toInt.toNat))
                    refine m_if_le (tgt := 117) C dX12_copy_108 (by decide) (fun c198 => ?_) (fun c198 => ?_)
                    · have f199 : x193.toInt ≤ 0 := by
                        have q : _ := c198
                        simp only [ti_nle, ti_nlt, ti_le, ti_lt, ti_eq, ti_ne, Classical.not_not, kt_0] at q
                        omega
                      have b200 : IV x193 (-1) 0 := ⟨by have q1 := b194; have q2 := kc_0; omega, by have q1 := b194; have q2 := kc_0; omega⟩
                      have b201 : IV a5 0 40 := ⟨by have q1 := b170; omega, by have q1 := b170; omega⟩
                      have b202 : IV a2 0 40 := ⟨by have q1 := b136; omega, by have q1 := b136; omega⟩
                      have b203 : IV a4 0 40 := ⟨by have q1 := b153; omega, by have q1 := b153; omega⟩
                      refine m_iconst (v := 0) C dX12_copy_117 (by decide) ?_
                      refine m_istore (L1 := [some (.ref (G.1 22 0)), some (.int a1), some (.int a2), some (.int a3), some (.int a4), some (.int a5), some (.int 0)]) C dX12_copy_118 (by decide) rfl rfl ?_
                      exact J120 ((40 - (0 : Int32).toInt).toNat + 1) τ83 0 i84 g88 b82 b202 b97 b203 b201 (iv_wk kc_0 (by decide)) (by omega) (by omega) (Nat.lt_succ_self _)
                    · have f204 : 0 < x193.toInt := by
                        have q : _ := c198
                        simp only [ti_nle, ti_nlt, ti_le, ti_lt, ti_eq, ti_ne, Classical.not_not, kt_0] at q
                        omega
                      have b205 : IV x193 1 1 := ⟨by have q1 := kc_0; have q2 := b194; omega, by have q1 := kc_0; have q2 := b194; omega⟩
                      refine m_aload_n C dX12_copy_111 rfl rfl ?_
                      refine m_iconst (v := 2) C dX12_copy_112 (by decide) ?_
                      refine m_callV (n := 1) (ci := 11) (st := []) C (c_X12_met l G τ83 (2) i84 (iv_wk kc_2 (by decide))) (by decide) (by decide) rfl rfl rfl q4_196 q4_193 q4_195 q0_26 q1_7 (by decide +kernel) rfl (by decide) (by decide) rfl (Nat.le_of_ble_eq_true rfl) dX12_copy_113 ?_
                      rintro _ τ206 ⟨x209, rfl, i207, f208, b210, h212⟩
                      have g211 : Fr MS_X12_copyE AS_X12_copyE σ τ206 := Fr.call (g88) f208 (by decide)
                      have q213 : (gV τ206 26 0 (a1.toInt.toNat)).toInt = (gV σ 26 0 (a1.toInt.toNat)).toInt := congrArg Int32.toInt (show (gV τ206 26 0 (a1.toInt.toNat)) = (gV σ 26 0 (a1.toInt.toNat)) from (show gV τ206 26 0 (a1.toInt.toNat) = (gV σ 26 0 (a1.toInt.toNat)) from (f208.1 26 0 ((a1.toInt.toNat)) (by simp) (by decide)).trans (show gV τ83 26 0 (a1.toInt.toNat) = (gV σ 26 0 (a1.toInt.toNat)) from (f85.1 26 0 ((a1.toInt.toNat)) (by simp) (by decide)).trans (show gV τ66 26 0 (a1.toInt.toNat) = (gV σ 26 0 (a1.toInt.toNat)) from (f68.1 26 0 ((a1.toInt.toNat)) (by simp) (by decide)).trans rfl))))
                      have q214 : (gV τ206 26 0 (a3.toInt.toNat)).toInt = (gV σ 26 0 (a3.toInt.toNat)).toInt := congrArg Int32.toInt (show (gV τ206 26 0 (a3.toInt.toNat)) = (gV σ 26 0 (a3.toInt.toNat)) from (show gV τ206 26 0 (a3.toInt.toNat) = (gV σ 26 0 (a3.toInt.toNat)) from (f208.1 26 0 ((a3.toInt.toNat)) (by simp) (by decide)).trans (show gV τ83 26 0 (a3.toInt.toNat) = (gV σ 26 0 (a3.toInt.toNat)) from (f85.1 26 0 ((a3.toInt.toNat)) (by simp) (by decide)).trans (show gV τ66 26 0 (a3.toInt.toNat) = (gV σ 26 0 (a3.toInt.toNat)) from (f68.1 26 0 ((a3.toInt.toNat)) (by simp) (by decide)).trans rfl))))
                      have q215 : (gV τ206 27 0 (a1.toInt.toNat)).toInt = (gV σ 27 0 (a1.toInt.toNat)).toInt := congrArg Int32.toInt (show (gV τ206 27 0 (a1.toInt.toNat)) = (gV σ 27 0 (a1.toInt.toNat)) from (show gV τ206 27 0 (a1.toInt.toNat) = (gV σ 27 0 (a1.toInt.toNat)) from (f208.1 27 0 ((a1.toInt.toNat)) (by simp) (by decide)).trans (show gV τ83 27 0 (a1.toInt.toNat) = (gV σ 27 0 (a1.toInt.toNat)) from (f85.1 27 0 ((a1.toInt.toNat)) (by simp) (by decide)).trans (show gV τ66 27 0 (a1.toInt.toNat) = (gV σ 27 0 (a1.toInt.toNat)) from (f68.1 27 0 ((a1.toInt.toNat)) (by simp) (by decide)).trans rfl))))
                      have q216 : (gV τ206 27 0 (a3.toInt.toNat)).toInt = (gV σ 27 0 (a3.toInt.toNat)).toInt := congrArg Int32.toInt (show (gV τ206 27 0 (a3.toInt.toNat)) = (gV σ 27 0 (a3.toInt.toNat)) from (show gV τ206 27 0 (a3.toInt.toNat) = (gV σ 27 0 (a3.toInt.toNat)) from (f208.1 27 0 ((a3.toInt.toNat)) (by simp) (by decide)).trans (show gV τ83 27 0 (a3.toInt.toNat) = (gV σ 27 0 (a3.toInt.toNat)) from (f85.1 27 0 ((a3.toInt.toNat)) (by simp) (by decide)).trans (show gV τ66 27 0 (a3.toInt.toNat) = (gV σ 27 0 (a3.toInt.toNat)) from (f68.1 27 0 ((a3.toInt.toNat)) (by simp) (by decide)).trans rfl))))
                      have q217 := kt_2
                      show MW p l e _ s m args below meth c _ 7 G 0 0 116 [some (.ref (G.1 22 0)), some (.int a1), some (.int a2), some (.int a3), some (.int a4), some (.int a5), none] [.int x209] τ206
                      exact m_iret C hr hlk (by decide) (by decide) dX12_copy_116 ⟨_, rfl, i207, g211, (iv_wk b210 (by decide)), (by omega)⟩
          · have f218 : (gV σ 26 0 (a1.toInt.toNat)).toInt ≠ (gV σ 26 0 (a3.toInt.toNat)).toInt := by
              have q : _ := c118
              simp only [ti_nle, ti_nlt, ti_le, ti_lt, ti_eq, ti_ne, Classical.not_not] at q
              omega
            refine m_aload_n C dX12_copy_56 rfl rfl ?_
            refine m_iconst (v := 5) C dX12_copy_57 (by decide) ?_
            refine m_callV (n := 1) (ci := 11) (st := []) C (c_X12_met l G τ83 (5) i84 (iv_wk kc_5 (by decide))) (by decide) (by decide) rfl rfl rfl q4_196 q4_193 q4_195 q0_26 q1_7 (by decide +kernel) rfl (by decide) (by decide) rfl (Nat.le_of_ble_eq_true rfl) dX12_copy_58 ?_
            rintro _ τ219 ⟨x222, rfl, i220, f221, b223, h225⟩
            have g224 : Fr MS_X12_copyE AS_X12_copyE σ τ219 := Fr.call (g88) f221 (by decide)
            have q226 : (gV τ219 26 0 (a1.toInt.toNat)).toInt = (gV σ 26 0 (a1.toInt.toNat)).toInt := congrArg Int32.toInt (show (gV τ219 26 0 (a1.toInt.toNat)) = (gV σ 26 0 (a1.toInt.toNat)) from (show gV τ219 26 0 (a1.toInt.toNat) = (gV σ 26 0 (a1.toInt.toNat)) from (f221.1 26 0 ((a1.toInt.toNat)) (by simp) (by decide)).trans (show gV τ83 26 0 (a1.toInt.toNat) = (gV σ 26 0 (a1.toInt.toNat)) from (f85.1 26 0 ((a1.toInt.toNat)) (by simp) (by decide)).trans (show gV τ66 26 0 (a1.toInt.toNat) = (gV σ 26 0 (a1.toInt.toNat)) from (f68.1 26 0 ((a1.toInt.toNat)) (by simp) (by decide)).trans rfl))))
            have q227 : (gV τ219 26 0 (a3.toInt.toNat)).toInt = (gV σ 26 0 (a3.toInt.toNat)).toInt := congrArg Int32.toInt (show (gV τ219 26 0 (a3.toInt.toNat)) = (gV σ 26 0 (a3.toInt.toNat)) from (show gV τ219 26 0 (a3.toInt.toNat) = (gV σ 26 0 (a3.toInt.toNat)) from (f221.1 26 0 ((a3.toInt.toNat)) (by simp) (by decide)).trans (show gV τ83 26 0 (a3.toInt.toNat) = (gV σ 26 0 (a3.toInt.toNat)) from (f85.1 26 0 ((a3.toInt.toNat)) (by simp) (by decide)).trans (show gV τ66 26 0 (a3.toInt.toNat) = (gV σ 26 0 (a3.toInt.toNat)) from (f68.1 26 0 ((a3.toInt.toNat)) (by simp) (by decide)).trans rfl))))
            have q228 : (gV τ219 27 0 (a1.toInt.toNat)).toInt = (gV σ 27 0 (a1.toInt.toNat)).toInt := congrArg Int32.toInt (show (gV τ219 27 0 (a1.toInt.toNat)) = (gV σ 27 0 (a1.toInt.toNat)) from (show gV τ219 27 0 (a1.toInt.toNat) = (gV σ 27 0 (a1.toInt.toNat)) from (f221.1 27 0 ((a1.toInt.toNat)) (by simp) (by decide)).trans (show gV τ83 27 0 (a1.toInt.toNat) = (gV σ 27 0 (a1.toInt.toNat)) from (f85.1 27 0 ((a1.toInt.toNat)) (by simp) (by decide)).trans (show gV τ66 27 0 (a1.toInt.toNat) = (gV σ 27 0 (a1.toInt.toNat)) from (f68.1 27 0 ((a1.toInt.toNat)) (by simp) (by decide)).trans rfl))))
            have q229 : (gV τ219 27 0 (a3.toInt.toNat)).toInt = (gV σ 27 0 (a3.toInt.toNat)).toInt := congrArg Int32.toInt (show (gV τ219 27 0 (a3.toInt.toNat)) = (gV σ 27 0 (a3.toInt.toNat)) from (show gV τ219 27 0 (a3.toInt.toNat) = (gV σ 27 0 (a3.toInt.toNat)) from (f221.1 27 0 ((a3.toInt.toNat)) (by simp) (by decide)).trans (show gV τ83 27 0 (a3.toInt.toNat) = (gV σ 27 0 (a3.toInt.toNat)) from (f85.1 27 0 ((a3.toInt.toNat)) (by simp) (by decide)).trans (show gV τ66 27 0 (a3.toInt.toNat) = (gV σ 27 0 (a3.toInt.toNat)) from (f68.1 27 0 ((a3.toInt.toNat)) (by simp) (by decide)).trans rfl))))
            have q230 := kt_5
            show MW p l e _ s m args below meth c _ 7 G 0 0 61 [some (.ref (G.1 22 0)), some (.int a1), some (.int a2), some (.int a3), some (.int a4), some (.int a5), none] [.int x222] τ219
            exact m_iret C hr hlk (by decide) (by decide) dX12_copy_61 ⟨_, rfl, i220, g224, (iv_wk b223 (by decide)), (by omega)⟩
        · have f231 : (gV σ 26 0 (a3.toInt.toNat)).toInt < 0 := by
            have q : _ := c115
            simp only [ti_nle, ti_nlt, ti_le, ti_lt, ti_eq, ti_ne, Classical.not_not, kt_0] at q
            omega
          have b232 : IV (gV σ 26 0 (a3.toInt.toNat)) (-2147483648) (-1) := ⟨by have q1 := (iv_any (gV σ 26 0 (a3.toInt.toNat))); have q2 := kc_0; omega, by have q1 := (iv_any (gV σ 26 0 (a3.toInt.toNat))); have q2 := kc_0; omega⟩
          refine m_aload_n C dX12_copy_35 rfl rfl ?_
          refine m_iconst (v := 1) C dX12_copy_36 (by decide) ?_
          refine m_callV (n := 1) (ci := 11) (st := []) C (c_X12_met l G τ83 (1) i84 (iv_wk kc_1 (by decide))) (by decide) (by decide) rfl rfl rfl q4_196 q4_193 q4_195 q0_26 q1_7 (by decide +kernel) rfl (by decide) (by decide) rfl (Nat.le_of_ble_eq_true rfl) dX12_copy_37 ?_
          rintro _ τ233 ⟨x236, rfl, i234, f235, b237, h239⟩
          have g238 : Fr MS_X12_copyE AS_X12_copyE σ τ233 := Fr.call (g88) f235 (by decide)
          have q240 : (gV τ233 26 0 (a1.toInt.toNat)).toInt = (gV σ 26 0 (a1.toInt.toNat)).toInt := congrArg Int32.toInt (show (gV τ233 26 0 (a1.toInt.toNat)) = (gV σ 26 0 (a1.toInt.toNat)) from (show gV τ233 26 0 (a1.toInt.toNat) = (gV σ 26 0 (a1.toInt.toNat)) from (f235.1 26 0 ((a1.toInt.toNat)) (by simp) (by decide)).trans (show gV τ83 26 0 (a1.toInt.toNat) = (gV σ 26 0 (a1.toInt.toNat)) from (f85.1 26 0 ((a1.toInt.toNat)) (by simp) (by decide)).trans (show gV τ66 26 0 (a1.toInt.toNat) = (gV σ 26 0 (a1.toInt.toNat)) from (f68.1 26 0 ((a1.toInt.toNat)) (by simp) (by decide)).trans rfl))))
          have q241 : (gV τ233 26 0 (a3.toInt.toNat)).toInt = (gV σ 26 0 (a3.toInt.toNat)).toInt := congrArg Int32.toInt (show (gV τ233 26 0 (a3.toInt.toNat)) = (gV σ 26 0 (a3.toInt.toNat)) from (show gV τ233 26 0 (a3.toInt.toNat) = (gV σ 26 0 (a3.toInt.toNat)) from (f235.1 26 0 ((a3.toInt.toNat)) (by simp) (by decide)).trans (show gV τ83 26 0 (a3.toInt.toNat) = (gV σ 26 0 (a3.toInt.toNat)) from (f85.1 26 0 ((a3.toInt.toNat)) (by simp) (by decide)).trans (show gV τ66 26 0 (a3.toInt.toNat) = (gV σ 26 0 (a3.toInt.toNat)) from (f68.1 26 0 ((a3.toInt.toNat)) (by simp) (by decide)).trans rfl))))
          have q242 : (gV τ233 27 0 (a1.toInt.toNat)).toInt = (gV σ 27 0 (a1.toInt.toNat)).toInt := congrArg Int32.toInt (show (gV τ233 27 0 (a1.toInt.toNat)) = (gV σ 27 0 (a1.toInt.toNat)) from (show gV τ233 27 0 (a1.toInt.toNat) = (gV σ 27 0 (a1.toInt.toNat)) from (f235.1 27 0 ((a1.toInt.toNat)) (by simp) (by decide)).trans (show gV τ83 27 0 (a1.toInt.toNat) = (gV σ 27 0 (a1.toInt.toNat)) from (f85.1 27 0 ((a1.toInt.toNat)) (by simp) (by decide)).trans (show gV τ66 27 0 (a1.toInt.toNat) = (gV σ 27 0 (a1.toInt.toNat)) from (f68.1 27 0 ((a1.toInt.toNat)) (by simp) (by decide)).trans rfl))))
          have q243 : (gV τ233 27 0 (a3.toInt.toNat)).toInt = (gV σ 27 0 (a3.toInt.toNat)).toInt := congrArg Int32.toInt (show (gV τ233 27 0 (a3.toInt.toNat)) = (gV σ 27 0 (a3.toInt.toNat)) from (show gV τ233 27 0 (a3.toInt.toNat) = (gV σ 27 0 (a3.toInt.toNat)) from (f235.1 27 0 ((a3.toInt.toNat)) (by simp) (by decide)).trans (show gV τ83 27 0 (a3.toInt.toNat) = (gV σ 27 0 (a3.toInt.toNat)) from (f85.1 27 0 ((a3.toInt.toNat)) (by simp) (by decide)).trans (show gV τ66 27 0 (a3.toInt.toNat) = (gV σ 27 0 (a3.toInt.toNat)) from (f68.1 27 0 ((a3.toInt.toNat)) (by simp) (by decide)).trans rfl))))
          have q244 := kt_1
          show MW p l e _ s m args below meth c _ 7 G 0 0 40 [some (.ref (G.1 22 0)), some (.int a1), some (.int a2), some (.int a3), some (.int a4), some (.int a5), none] [.int x236] τ233
          exact m_iret C hr hlk (by decide) (by decide) dX12_copy_40 ⟨_, rfl, i234, g238, (iv_wk b237 (by decide)), (by omega)⟩
    · have f245 : x86.toInt = 0 := by
        have q : _ := c94
        simp only [ti_nle, ti_nlt, ti_le, ti_lt, ti_eq, ti_ne, Classical.not_not, kt_0] at q
        omega
      have b246 : IV x86 0 0 := ⟨by have q1 := b87; have q2 := kc_0; omega, by have q1 := b87; have q2 := kc_0; omega⟩
      refine m_ldc (v := (-1000001)) C dX12_copy_14 q4_192 ?_
      exact m_iret C hr hlk (by decide) (by decide) dX12_copy_16 ⟨_, rfl, i84, g88, (iv_wk kc_m1000001 (by decide)), (by have q := kt_m1000001; omega)⟩

abbrev MS_X11_dropE : List (Nat × Nat) := [(0, 12), (20, 1), (20, 2)]
abbrev AS_X11_dropE : List Nat := []
set_option maxHeartbeats 4000000 in
set_option maxRecDepth 100000 in
theorem c_X11_dropE (l : Launch) (G : Gt) (σ : Sg) (a1 : Int32) (hI : Inv σ) : Mc l G yX11_drop cX11_drop 4 (some .int) 1 21 0 0 [.ref (G.1 0 0), .int a1] σ (PI fun r τ => Inv τ ∧ Fr MS_X11_dropE AS_X11_dropE σ τ ∧ IV r (-2147483648) 2147483647 ∧ (((a1.toInt < 0 ∨ 7 < a1.toInt) ∧ r.toInt = -1000001 ∧ SameR σ τ) ∨ ((0 ≤ a1.toInt ∧ a1.toInt ≤ 7) ∧ (gV σ 20 (a1.toInt.toNat) 1).toInt = -1 ∧ r.toInt = -1000011 ∧ SameR σ τ) ∨ ((0 ≤ a1.toInt ∧ a1.toInt ≤ 7) ∧ ¬ ((gV σ 20 (a1.toInt.toNat) 1).toInt = -1) ∧ r.toInt = (gV σ 20 (a1.toInt.toNat) 2).toInt ∧ BG σ τ (a1.toInt.toNat) (-1) 0))) := by
  refine Mc.of (L0 := [some (.ref (G.1 0 0)), some (.int a1), none, none]) (by decide) (Nat.le_of_ble_eq_true rfl) rfl ?_
  intro p e s m args below meth c C hr hlk
  have C : Cx p s m args c cX11_drop 4 "LeanTower" := C
  have k0 : (0 : Int32).toInt = 0 := by decide
  have k1 : (1 : Int32).toInt = 1 := by decide
  have u1 : IV (gV σ 20 (a1.toInt.toNat) 2) 0 40 := hI.1 20 (a1.toInt.toNat) 2
  refine m_aload_n C dX11_drop_0 rfl rfl ?_
  refine m_iload_n C dX11_drop_1 rfl rfl ?_
  refine m_callV (n := 1) (ci := 10) (st := []) C (c_X11_rowAt l G σ (a1) hI ) (by decide) (by decide) rfl rfl rfl q1_233 q1_230 q1_232 q0_0 q1_1 (by decide +kernel) rfl (by decide) (by decide) rfl (Nat.le_of_ble_eq_true rfl) dX11_drop_2 ?_
  rintro _ τ2 ⟨x5, rfl, i3, f4, h8⟩
  have g7 : Fr MS_X11_dropE AS_X11_dropE σ τ2 := Fr.call (Fr.rf) f4 (by decide)
  have q9 : (gV τ2 20 (a1.toInt.toNat) 1).toInt = (gV σ 20 (a1.toInt.toNat) 1).toInt := congrArg Int32.toInt (show (gV τ2 20 (a1.toInt.toNat) 1) = (gV σ 20 (a1.toInt.toNat) 1) from (show gV τ2 20 (a1.toInt.toNat) 1 = (gV σ 20 (a1.toInt.toNat) 1) from (f4.1 20 (a1.toInt.toNat) (1) (by decide) (by decide)).trans rfl))
  have q10 : (gV τ2 20 (a1.toInt.toNat) 2).toInt = (gV σ 20 (a1.toInt.toNat) 2).toInt := congrArg Int32.toInt (show (gV τ2 20 (a1.toInt.toNat) 2) = (gV σ 20 (a1.toInt.toNat) 2) from (show gV τ2 20 (a1.toInt.toNat) 2 = (gV σ 20 (a1.toInt.toNat) 2) from (f4.1 20 (a1.toInt.toNat) (2) (by decide) (by decide)).trans rfl))
  rcases h8 with ⟨rfl, x5q⟩ | ⟨rfl, x5q⟩
  · skip
    show MW p l e _ s m args below meth c _ 4 G 0 0 5 [some (.ref (G.1 0 0)), some (.int a1), none, none] [.null] τ2
    refine m_astore_nN (L1 := [some (.ref (G.1 0 0)), some (.int a1), some (.null), none]) C dX11_drop_5 rfl (by decide) rfl rfl ?_
    refine m_aload_nN C dX11_drop_6 rfl rfl ?_
    refine m_ifnonnullN C dX11_drop_7 ?_
    refine m_ldc (v := (-1000001)) C dX11_drop_10 q1_234 ?_
    exact m_iret C hr hlk (by decide) (by decide) dX11_drop_12 ⟨_, rfl, i3, g7, (iv_wk kc_m1000001 (by decide)), (Or.inl ⟨by omega, (by have q := kt_m1000001; omega), (SameR.rf.fr f4 (by simp) (by decide))⟩)⟩
  · have b11 : IV a1 0 7 := ⟨by have q1 := (iv_any a1); omega, by have q1 := (iv_any a1); omega⟩
    show MW p l e _ s m args below meth c _ 4 G 0 0 5 [some (.ref (G.1 0 0)), some (.int a1), none, none] [.ref (G.1 20 (a1.toInt.toNat))] τ2
    refine m_astore_n (L1 := [some (.ref (G.1 0 0)), some (.int a1), some (.ref (G.1 20 (a1.toInt.toNat))), none]) C dX11_drop_5 rfl (by decide) rfl rfl ?_
    refine m_aload_n C dX11_drop_6 rfl rfl ?_
    refine m_ifnonnull (tgt := 13) C dX11_drop_7 (by decide) ?_
    refine m_aload_n C dX11_drop_13 rfl rfl ?_
    refine m_callV (n := 0) (ci := 6) (st := []) C (c_X7_isMissingE l G τ2 (j := (a1.toInt.toNat)) (iv_nat b11 (by decide))  i3 ) (by decide) (iv_nat b11 (by decide)) rfl rfl rfl q2_15 q2_12 q2_13 q2_14 q1_6 (by decide +kernel) rfl (by decide) (by decide) rfl (Nat.le_of_ble_eq_true rfl) dX11_drop_14 ?_
    rintro _ τ12 ⟨x15, rfl, i13, f14, b16, h18⟩
    have g17 : Fr MS_X11_dropE AS_X11_dropE σ τ12 := Fr.call (g7) f14 (by decide)
    have q19 : (gV τ12 20 (a1.toInt.toNat) 1).toInt = (gV σ 20 (a1.toInt.toNat) 1).toInt := congrArg Int32.toInt (show (gV τ12 20 (a1.toInt.toNat) 1) = (gV σ 20 (a1.toInt.toNat) 1) from (show gV τ12 20 (a1.toInt.toNat) 1 = (gV σ 20 (a1.toInt.toNat) 1) from (f14.1 20 (a1.toInt.toNat) (1) (by decide) (by decide)).trans (show gV τ2 20 (a1.toInt.toNat) 1 = (gV σ 20 (a1.toInt.toNat) 1) from (f4.1 20 (a1.toInt.toNat) (1) (by decide) (by decide)).trans rfl)))
    have q20 : (gV τ12 20 (a1.toInt.toNat) 2).toInt = (gV σ 20 (a1.toInt.toNat) 2).toInt := congrArg Int32.toInt (show (gV τ12 20 (a1.toInt.toNat) 2) = (gV σ 20 (a1.toInt.toNat) 2) from (show gV τ12 20 (a1.toInt.toNat) 2 = (gV σ 20 (a1.toInt.toNat) 2) from (f14.1 20 (a1.toInt.toNat) (2) (by decide) (by decide)).trans (show gV τ2 20 (a1.toInt.toNat) 2 = (gV σ 20 (a1.toInt.toNat) 2) from (f4.1 20 (a1.toInt.toNat) (2) (by decide) (by decide)).trans rfl)))
    show MW p l e _ s m args below meth c _ 4 G 0 0 17 [some (.ref (G.1 0 0)), some (.int a1), some (.ref (G.1 20 (a1.toInt.toNat))), none] [.int x15] τ12
    refine m_if_eq (tgt := 26) C dX11_drop_17 (by decide) (fun c21 => ?_) (fun c21 => ?_)
    · have f22 : x15.toInt = 0 := by
        have q : _ := c21
        simp only [ti_nle, ti_nlt, ti_le, ti_lt, ti_eq, ti_ne, Classical.not_not, kt_0] at q
        omega
      have b23 : IV x15 0 0 := ⟨by have q1 := b16; have q2 := kc_0; omega, by have q1 := b16; have q2 := kc_0; omega⟩
      refine m_aload_n C dX11_drop_26 rfl rfl ?_
      refine g_20_2 C (iv_nat b11 (by decide)) q1_177 dX11_drop_27 ?_
      refine m_eqs (w := (gV σ 20 (a1.toInt.toNat) 2)) (show gV τ12 20 (a1.toInt.toNat) 2 = (gV σ 20 (a1.toInt.toNat) 2) from (f14.1 20 (a1.toInt.toNat) (2) (by decide) (by decide)).trans (show gV τ2 20 (a1.toInt.toNat) 2 = (gV σ 20 (a1.toInt.toNat) 2) from (f4.1 20 (a1.toInt.toNat) (2) (by decide) (by decide)).trans rfl)) ?_
      refine m_istore_n (L1 := [some (.ref (G.1 0 0)), some (.int a1), some (.ref (G.1 20 (a1.toInt.toNat))), some (.int (gV σ 20 (a1.toInt.toNat) 2))]) C dX11_drop_30 rfl (by decide) rfl rfl ?_
      refine m_aload_n C dX11_drop_31 rfl rfl ?_
      refine m_callV (n := 0) (ci := 6) (st := []) C (c_X7_endE l G τ12 (j := (a1.toInt.toNat)) (iv_nat b11 (by decide))  i13 ) (by decide) (iv_nat b11 (by decide)) rfl rfl rfl q2_38 q2_35 q2_36 q2_37 q1_6 (by decide +kernel) rfl (by decide) (by decide) rfl (Nat.le_of_ble_eq_true rfl) dX11_drop_32 ?_
      rintro _ τ24 ⟨rfl, i25, f26, h30⟩
      have g29 : Fr MS_X11_dropE AS_X11_dropE σ τ24 := Fr.call (g17) f26 (by decide)
      have u31 : IV (gV τ24 20 (a1.toInt.toNat) 2) 0 40 := i25.1 20 (a1.toInt.toNat) 2
      show MW p l e _ s m args below meth c _ 4 G 0 0 35 [some (.ref (G.1 0 0)), some (.int a1), some (.ref (G.1 20 (a1.toInt.toNat))), some (.int (gV σ 20 (a1.toInt.toNat) 2))] [] τ24
      refine m_aload_n C dX11_drop_35 rfl rfl ?_
      refine m_iload_n C dX11_drop_36 rfl rfl ?_
      refine m_callV (n := 1) (ci := 10) (st := []) C (c_X11_clean l G τ24 ((gV σ 20 (a1.toInt.toNat) 2)) i25 ) (by decide) (by decide) rfl rfl rfl q2_7 q2_4 q2_6 q0_2 q1_1 (by decide +kernel) rfl (by decide) (by decide) rfl (Nat.le_of_ble_eq_true rfl) dX11_drop_37 ?_
      rintro _ τ32 ⟨x35, rfl, i33, f34, b36, h38⟩
      have g37 : Fr MS_X11_dropE AS_X11_dropE σ τ32 := Fr.call (g29) f34 (by decide)
      have q39 : (gV τ32 20 (a1.toInt.toNat) 1).toInt = (gV τ24 20 (a1.toInt.toNat) 1).toInt := congrArg Int32.toInt (show (gV τ32 20 (a1.toInt.toNat) 1) = (gV τ24 20 (a1.toInt.toNat) 1) from (show gV τ32 20 (a1.toInt.toNat) 1 = (gV τ24 20 (a1.toInt.toNat) 1) from (f34.1 20 (a1.toInt.toNat) (1) (by decide) (by decide)).trans rfl))
      have q40 : (gV τ32 20 (a1.toInt.toNat) 2).toInt = (gV τ24 20 (a1.toInt.toNat) 2).toInt := congrArg Int32.toInt (show (gV τ32 20 (a1.toInt.toNat) 2) = (gV τ24 20 (a1.toInt.toNat) 2) from (show gV τ32 20 (a1.toInt.toNat) 2 = (gV τ24 20 (a1.toInt.toNat) 2) from (f34.1 20 (a1.toInt.toNat) (2) (by decide) (by decide)).trans rfl))
      show MW p l e _ s m args below meth c _ 4 G 0 0 40 [some (.ref (G.1 0 0)), some (.int a1), some (.ref (G.1 20 (a1.toInt.toNat))), some (.int (gV σ 20 (a1.toInt.toNat) 2))] [.int x35] τ32
      exact m_iret C hr hlk (by decide) (by decide) dX11_drop_40 ⟨_, rfl, i33, g37, b36, (Or.inr (Or.inr ⟨by omega, by omega, by omega, (BG.from h30 ((SameR.rf.fr f4 (by simp) (by decide)).fr f14 (by simp) (by decide))).then (SameR.rf.fr f34 (by simp) (by decide))⟩))⟩
    · have f41 : x15.toInt ≠ 0 := by
        have q : _ := c21
        simp only [ti_nle, ti_nlt, ti_le, ti_lt, ti_eq, ti_ne, Classical.not_not, kt_0] at q
        omega
      have b42 : IV x15 1 1 := ⟨by have q1 := b16; have q2 := kc_0; omega, by have q1 := b16; have q2 := kc_0; omega⟩
      refine m_aload_n C dX11_drop_20 rfl rfl ?_
      refine m_iconst (v := 1) C dX11_drop_21 (by decide) ?_
      refine m_callV (n := 1) (ci := 10) (st := []) C (c_X11_found l G τ12 (1) i13 (iv_wk kc_1 (by decide))) (by decide) (by decide) rfl rfl rfl q1_238 q1_235 q1_237 q0_1 q1_1 (by decide +kernel) rfl (by decide) (by decide) rfl (Nat.le_of_ble_eq_true rfl) dX11_drop_22 ?_
      rintro _ τ43 ⟨x46, rfl, i44, f45, b47, h49⟩
      have g48 : Fr MS_X11_dropE AS_X11_dropE σ τ43 := Fr.call (g17) f45 (by decide)
      have q50 : (gV τ43 20 (a1.toInt.toNat) 1).toInt = (gV σ 20 (a1.toInt.toNat) 1).toInt := congrArg Int32.toInt (show (gV τ43 20 (a1.toInt.toNat) 1) = (gV σ 20 (a1.toInt.toNat) 1) from (show gV τ43 20 (a1.toInt.toNat) 1 = (gV σ 20 (a1.toInt.toNat) 1) from (f45.1 20 (a1.toInt.toNat) (1) (by decide) (by decide)).trans (show gV τ12 20 (a1.toInt.toNat) 1 = (gV σ 20 (a1.toInt.toNat) 1) from (f14.1 20 (a1.toInt.toNat) (1) (by decide) (by decide)).trans (show gV τ2 20 (a1.toInt.toNat) 1 = (gV σ 20 (a1.toInt.toNat) 1) from (f4.1 20 (a1.toInt.toNat) (1) (by decide) (by decide)).trans rfl))))
      have q51 : (gV τ43 20 (a1.toInt.toNat) 2).toInt = (gV σ 20 (a1.toInt.toNat) 2).toInt := congrArg Int32.toInt (show (gV τ43 20 (a1.toInt.toNat) 2) = (gV σ 20 (a1.toInt.toNat) 2) from (show gV τ43 20 (a1.toInt.toNat) 2 = (gV σ 20 (a1.toInt.toNat) 2) from (f45.1 20 (a1.toInt.toNat) (2) (by decide) (by decide)).trans (show gV τ12 20 (a1.toInt.toNat) 2 = (gV σ 20 (a1.toInt.toNat) 2) from (f14.1 20 (a1.toInt.toNat) (2) (by decide) (by decide)).trans (show gV τ2 20 (a1.toInt.toNat) 2 = (gV σ 20 (a1.toInt.toNat) 2) from (f4.1 20 (a1.toInt.toNat) (2) (by decide) (by decide)).trans rfl))))
      have q52 := kt_1
      show MW p l e _ s m args below meth c _ 4 G 0 0 25 [some (.ref (G.1 0 0)), some (.int a1), some (.ref (G.1 20 (a1.toInt.toNat))), none] [.int x46] τ43
      exact m_iret C hr hlk (by decide) (by decide) dX11_drop_25 ⟨_, rfl, i44, g48, (iv_wk b47 (by decide)), (Or.inr (Or.inl ⟨by omega, by omega, by omega, (((SameR.rf.fr f4 (by simp) (by decide)).fr f14 (by simp) (by decide)).fr f45 (by simp) (by decide))⟩))⟩

abbrev MS_X12_dropE : List (Nat × Nat) := [(22, 8)]
abbrev AS_X12_dropE : List Nat := [26]
set_option maxHeartbeats 4000000 in
set_option maxRecDepth 100000 in
theorem c_X12_dropE (l : Launch) (G : Gt) (σ : Sg) (a1 : Int32) (hI : Inv σ) : Mc l G yX12_drop cX12_drop 2 (some .int) 2 45 0 0 [.ref (G.1 22 0), .int a1] σ (PI fun r τ => Inv τ ∧ Fr MS_X12_dropE AS_X12_dropE σ τ ∧ IV r (-2147483648) 2147483647 ∧ (((a1.toInt < 0 ∨ 7 < a1.toInt) ∧ r.toInt = -1000001 ∧ SameL σ τ) ∨ ((0 ≤ a1.toInt ∧ a1.toInt ≤ 7) ∧ (gV σ 26 0 (a1.toInt.toNat)).toInt < 0 ∧ r.toInt = -1000011 ∧ SameL σ τ) ∨ ((0 ≤ a1.toInt ∧ a1.toInt ≤ 7) ∧ ¬ ((gV σ 26 0 (a1.toInt.toNat)).toInt < 0) ∧ r.toInt = (gV σ 27 0 (a1.toInt.toNat)).toInt ∧ LD σ τ (a1.toInt.toNat)))) := by
  refine Mc.of (L0 := [some (.ref (G.1 22 0)), some (.int a1)]) (by decide) (Nat.le_of_ble_eq_true rfl) rfl ?_
  intro p e s m args below meth c C hr hlk
  have C : Cx p s m args c cX12_drop 2 "LeanTowerModel" := C
  have k0 : (0 : Int32).toInt = 0 := by decide
  have k1 : (1 : Int32).toInt = 1 := by decide
  have u1 : IV (gV σ 27 0 (a1.toInt.toNat)) 0 40 := hI.1 27 0 (a1.toInt.toNat)
  refine m_iload_n C dX12_drop_0 rfl rfl ?_
  refine m_callS (n := 1) (st := []) C (c_X12_isRow l G σ (a1) hI ) q4_186 q4_184 q4_185 q1_7 (by decide +kernel) rfl (by decide) (by decide) rfl (Nat.le_of_ble_eq_true rfl) dX12_drop_1 ?_
  rintro _ τ2 ⟨x5, rfl, i3, f4, b6, h8⟩
  have g7 : Fr MS_X12_dropE AS_X12_dropE σ τ2 := Fr.call (Fr.rf) f4 (by decide)
  have q9 : (gV τ2 26 0 (a1.toInt.toNat)).toInt = (gV σ 26 0 (a1.toInt.toNat)).toInt := congrArg Int32.toInt (show (gV τ2 26 0 (a1.toInt.toNat)) = (gV σ 26 0 (a1.toInt.toNat)) from (show gV τ2 26 0 (a1.toInt.toNat) = (gV σ 26 0 (a1.toInt.toNat)) from (f4.1 26 0 ((a1.toInt.toNat)) (by simp) (by decide)).trans rfl))
  have q10 : (gV τ2 27 0 (a1.toInt.toNat)).toInt = (gV σ 27 0 (a1.toInt.toNat)).toInt := congrArg Int32.toInt (show (gV τ2 27 0 (a1.toInt.toNat)) = (gV σ 27 0 (a1.toInt.toNat)) from (show gV τ2 27 0 (a1.toInt.toNat) = (gV σ 27 0 (a1.toInt.toNat)) from (f4.1 27 0 ((a1.toInt.toNat)) (by simp) (by decide)).trans rfl))
  show MW p l e _ s m args below meth c _ 2 G 0 0 4 [some (.ref (G.1 22 0)), some (.int a1)] [.int x5] τ2
  refine m_if_ne (tgt := 10) C dX12_drop_4 (by decide) (fun c11 => ?_) (fun c11 => ?_)
  · have f12 : x5.toInt ≠ 0 := by
      have q : _ := c11
      simp only [ti_nle, ti_nlt, ti_le, ti_lt, ti_eq, ti_ne, Classical.not_not, kt_0] at q
      omega
    have b13 : IV x5 1 1 := ⟨by have q1 := b6; have q2 := kc_0; omega, by have q1 := b6; have q2 := kc_0; omega⟩
    have b14 : IV a1 0 7 := ⟨by have q1 := (iv_any a1); omega, by have q1 := (iv_any a1); omega⟩
    refine m_aload_n C dX12_drop_10 rfl rfl ?_
    refine g_22_3 C q4_119 dX12_drop_11 ?_
    refine m_iload_n C dX12_drop_14 rfl rfl ?_
    refine al_26 C b14 (by decide) rfl dX12_drop_15 ?_
    refine m_eqs (w := (gV σ 26 0 (a1.toInt.toNat))) (show gV τ2 26 0 (a1.toInt.toNat) = (gV σ 26 0 (a1.toInt.toNat)) from (f4.1 26 0 ((a1.toInt.toNat)) (by simp) (by decide)).trans rfl) ?_
    refine m_if_ge (tgt := 25) C dX12_drop_16 (by decide) (fun c15 => ?_) (fun c15 => ?_)
    · have f16 : 0 ≤ (gV σ 26 0 (a1.toInt.toNat)).toInt := by
        have q : _ := c15
        simp only [ti_nle, ti_nlt, ti_le, ti_lt, ti_eq, ti_ne, Classical.not_not, kt_0] at q
        omega
      have b17 : IV (gV σ 26 0 (a1.toInt.toNat)) 0 2147483647 := ⟨by have q1 := kc_0; have q2 := (iv_any (gV σ 26 0 (a1.toInt.toNat))); omega, by have q1 := kc_0; have q2 := (iv_any (gV σ 26 0 (a1.toInt.toNat))); omega⟩
      refine m_aload_n C dX12_drop_25 rfl rfl ?_
      refine g_22_3 C q4_119 dX12_drop_26 ?_
      refine m_iload_n C dX12_drop_29 rfl rfl ?_
      refine m_iconst (v := (-1)) C dX12_drop_30 (by decide) ?_
      refine as_26 C b14 (by decide) rfl dX12_drop_31 ?_
      refine m_tops (fun τ18 eτ18 => ?_)
      have i19 : Inv τ18 := eτ18 ▸ Inv.putF i3 (by decide) rfl
      have f20 : Fr MS_X12_dropE AS_X12_dropE σ τ18 := eτ18 ▸ Fr.put (g7) (Or.inr (by decide))
      refine m_aload_n C dX12_drop_32 rfl rfl ?_
      refine m_aload_n C dX12_drop_33 rfl rfl ?_
      refine g_22_4 C q4_120 dX12_drop_34 ?_
      refine m_iload_n C dX12_drop_37 rfl rfl ?_
      refine al_27 C b14 (by decide) rfl dX12_drop_38 ?_
      refine m_eqs (w := (gV σ 27 0 (a1.toInt.toNat))) (show gV τ18 27 0 (a1.toInt.toNat) = (gV σ 27 0 (a1.toInt.toNat)) from gV_put eτ18 (show gV τ2 27 0 (a1.toInt.toNat) = (gV σ 27 0 (a1.toInt.toNat)) from (f4.1 27 0 ((a1.toInt.toNat)) (by simp) (by decide)).trans rfl)) ?_
      refine m_callV (n := 1) (ci := 11) (st := []) C (c_X12_fine l G τ18 ((gV σ 27 0 (a1.toInt.toNat))) i19 ) (by decide) (by decide) rfl rfl rfl q4_201 q4_198 q4_200 q0_27 q1_7 (by decide +kernel) rfl (by decide) (by decide) rfl (Nat.le_of_ble_eq_true rfl) dX12_drop_39 ?_
      rintro _ τ21 ⟨x24, rfl, i22, f23, b25, h27⟩
      have g26 : Fr MS_X12_dropE AS_X12_dropE σ τ21 := Fr.call (f20) f23 (by decide)
      have q28 : (gV τ21 27 0 (a1.toInt.toNat)).toInt = (gV σ 27 0 (a1.toInt.toNat)).toInt := congrArg Int32.toInt (show (gV τ21 27 0 (a1.toInt.toNat)) = (gV σ 27 0 (a1.toInt.toNat)) from (show gV τ21 27 0 (a1.toInt.toNat) = (gV σ 27 0 (a1.toInt.toNat)) from (f23.1 27 0 ((a1.toInt.toNat)) (by simp) (by decide)).trans (show gV τ18 27 0 (a1.toInt.toNat) = (gV σ 27 0 (a1.toInt.toNat)) from gV_put eτ18 (show gV τ2 27 0 (a1.toInt.toNat) = (gV σ 27 0 (a1.toInt.toNat)) from (f4.1 27 0 ((a1.toInt.toNat)) (by simp) (by decide)).trans rfl))))
      have q29 : (gV τ21 26 0 (a1.toInt.toNat)).toInt = -1 := (congrArg Int32.toInt (show (gV τ21 26 0 (a1.toInt.toNat)) = (-1) from (show gV τ21 26 0 (a1.toInt.toNat) = (-1) from (f23.1 26 0 ((a1.toInt.toNat)) (by simp) (by decide)).trans (show gV τ18 26 0 (a1.toInt.toNat) = (-1) from gV_put eτ18 (gV_self _ _ _ _ _))))).trans kt_m1
      show MW p l e _ s m args below meth c _ 2 G 0 0 42 [some (.ref (G.1 22 0)), some (.int a1)] [.int x24] τ21
      exact m_iret C hr hlk (by decide) (by decide) dX12_drop_42 ⟨_, rfl, i22, g26, b25, (Or.inr (Or.inr ⟨by omega, by omega, by omega, (LD.mk (SameL.rf.fr f4 (by simp) (by decide)) eτ18).then (SameL.rf.fr f23 (by simp) (by decide))⟩))⟩
    · have f30 : (gV σ 26 0 (a1.toInt.toNat)).toInt < 0 := by
        have q : _ := c15
        simp only [ti_nle, ti_nlt, ti_le, ti_lt, ti_eq, ti_ne, Classical.not_not, kt_0] at q
        omega
      have b31 : IV (gV σ 26 0 (a1.toInt.toNat)) (-2147483648) (-1) := ⟨by have q1 := (iv_any (gV σ 26 0 (a1.toInt.toNat))); have q2 := kc_0; omega, by have q1 := (iv_any (gV σ 26 0 (a1.toInt.toNat))); have q2 := kc_0; omega⟩
      refine m_aload_n C dX12_drop_19 rfl rfl ?_
      refine m_iconst (v := 1) C dX12_drop_20 (by decide) ?_
      refine m_callV (n := 1) (ci := 11) (st := []) C (c_X12_met l G τ2 (1) i3 (iv_wk kc_1 (by decide))) (by decide) (by decide) rfl rfl rfl q4_196 q4_193 q4_195 q0_26 q1_7 (by decide +kernel) rfl (by decide) (by decide) rfl (Nat.le_of_ble_eq_true rfl) dX12_drop_21 ?_
      rintro _ τ32 ⟨x35, rfl, i33, f34, b36, h38⟩
      have g37 : Fr MS_X12_dropE AS_X12_dropE σ τ32 := Fr.call (g7) f34 (by decide)
      have q39 : (gV τ32 26 0 (a1.toInt.toNat)).toInt = (gV σ 26 0 (a1.toInt.toNat)).toInt := congrArg Int32.toInt (show (gV τ32 26 0 (a1.toInt.toNat)) = (gV σ 26 0 (a1.toInt.toNat)) from (show gV τ32 26 0 (a1.toInt.toNat) = (gV σ 26 0 (a1.toInt.toNat)) from (f34.1 26 0 ((a1.toInt.toNat)) (by simp) (by decide)).trans (show gV τ2 26 0 (a1.toInt.toNat) = (gV σ 26 0 (a1.toInt.toNat)) from (f4.1 26 0 ((a1.toInt.toNat)) (by simp) (by decide)).trans rfl)))
      have q40 : (gV τ32 27 0 (a1.toInt.toNat)).toInt = (gV σ 27 0 (a1.toInt.toNat)).toInt := congrArg Int32.toInt (show (gV τ32 27 0 (a1.toInt.toNat)) = (gV σ 27 0 (a1.toInt.toNat)) from (show gV τ32 27 0 (a1.toInt.toNat) = (gV σ 27 0 (a1.toInt.toNat)) from (f34.1 27 0 ((a1.toInt.toNat)) (by simp) (by decide)).trans (show gV τ2 27 0 (a1.toInt.toNat) = (gV σ 27 0 (a1.toInt.toNat)) from (f4.1 27 0 ((a1.toInt.toNat)) (by simp) (by decide)).trans rfl)))
      have q41 := kt_1
      show MW p l e _ s m args below meth c _ 2 G 0 0 24 [some (.ref (G.1 22 0)), some (.int a1)] [.int x35] τ32
      exact m_iret C hr hlk (by decide) (by decide) dX12_drop_24 ⟨_, rfl, i33, g37, (iv_wk b36 (by decide)), (Or.inr (Or.inl ⟨by omega, by omega, by omega, ((SameL.rf.fr f4 (by simp) (by decide)).fr f34 (by simp) (by decide))⟩))⟩
  · have f42 : x5.toInt = 0 := by
      have q : _ := c11
      simp only [ti_nle, ti_nlt, ti_le, ti_lt, ti_eq, ti_ne, Classical.not_not, kt_0] at q
      omega
    have b43 : IV x5 0 0 := ⟨by have q1 := b6; have q2 := kc_0; omega, by have q1 := b6; have q2 := kc_0; omega⟩
    refine m_ldc (v := (-1000001)) C dX12_drop_7 q4_192 ?_
    exact m_iret C hr hlk (by decide) (by decide) dX12_drop_9 ⟨_, rfl, i3, g7, (iv_wk kc_m1000001 (by decide)), (Or.inl ⟨by omega, (by have q := kt_m1000001; omega), (SameL.rf.fr f4 (by simp) (by decide))⟩)⟩

abbrev MS_X12_rowE : List (Nat × Nat) := [(22, 8)]
abbrev AS_X12_rowE : List Nat := [25, 26, 27]
set_option maxHeartbeats 4000000 in
set_option maxRecDepth 100000 in
theorem c_X12_rowE (l : Launch) (G : Gt) (σ : Sg) (a1 : Int32) (a2 : Int32) (a3 : Int32) (hI : Inv σ) : Mc l G yX12_row cX12_row 5 (some .int) 2 45 0 0 [.ref (G.1 22 0), .int a1, .int a2, .int a3] σ (PI fun r τ => Inv τ ∧ Fr MS_X12_rowE AS_X12_rowE σ τ ∧ IV r (-2147483648) 2147483647 ∧ (((a1.toInt < 0 ∨ 7 < a1.toInt ∨ a2.toInt < 0 ∨ 2 < a2.toInt ∨ 40 < a3.toInt) ∧ r.toInt = -1000001 ∧ SameL σ τ) ∨ ((0 ≤ a1.toInt ∧ a1.toInt ≤ 7 ∧ 0 ≤ a2.toInt ∧ a2.toInt ≤ 2 ∧ a3.toInt < 0) ∧ r.toInt = -1000014 ∧ SameL σ τ) ∨ ((0 ≤ a1.toInt ∧ a1.toInt ≤ 7 ∧ 0 ≤ a2.toInt ∧ a2.toInt ≤ 2 ∧ 0 ≤ a3.toInt ∧ a3.toInt ≤ 40) ∧ r.toInt = a3.toInt ∧ LU σ τ (a1.toInt.toNat) a2 a3))) := by
  refine Mc.of (L0 := [some (.ref (G.1 22 0)), some (.int a1), some (.int a2), some (.int a3), none]) (by decide) (Nat.le_of_ble_eq_true rfl) rfl ?_
  intro p e s m args below meth c C hr hlk
  have C : Cx p s m args c cX12_row 5 "LeanTowerModel" := C
  have k0 : (0 : Int32).toInt = 0 := by decide
  have k1 : (1 : Int32).toInt = 1 := by decide
  have J55 : ∀ (n : Nat) (τ : Sg) (y4 : Int32), Inv τ → Fr MS_X12_rowE AS_X12_rowE σ τ → IV a1 0 7 → IV a2 0 2 → IV a3 0 40 → IV y4 0 40 → (0 ≤ a1.toInt ∧ a1.toInt ≤ 7 ∧ 0 ≤ a2.toInt ∧ a2.toInt ≤ 2 ∧ 0 ≤ a3.toInt ∧ a3.toInt ≤ 40) → (LU σ τ (a1.toInt.toNat) a2 a3) → (40 - y4.toInt).toNat < n → MW p l e { frames := 2, cells := 0, slots := 0, locals := 45 } s m args below meth c (MQ below (QP G (PI fun r τ => Inv τ ∧ Fr MS_X12_rowE AS_X12_rowE σ τ ∧ IV r (-2147483648) 2147483647 ∧ (((a1.toInt < 0 ∨ 7 < a1.toInt ∨ a2.toInt < 0 ∨ 2 < a2.toInt ∨ 40 < a3.toInt) ∧ r.toInt = -1000001 ∧ SameL σ τ) ∨ ((0 ≤ a1.toInt ∧ a1.toInt ≤ 7 ∧ 0 ≤ a2.toInt ∧ a2.toInt ≤ 2 ∧ a3.toInt < 0) ∧ r.toInt = -1000014 ∧ SameL σ τ) ∨ ((0 ≤ a1.toInt ∧ a1.toInt ≤ 7 ∧ 0 ≤ a2.toInt ∧ a2.toInt ≤ 2 ∧ 0 ≤ a3.toInt ∧ a3.toInt ≤ 40) ∧ r.toInt = a3.toInt ∧ LU σ τ (a1.toInt.toNat) a2 a3)))) args s 0 0 (aG G)) 5 G 0 0 55 [some (.ref (G.1 22 0)), some (.int a1), none, some (.int a3), some (.int y4)] [] τ := by
    intro n
    induction n with
    | zero => intro τ y4 iτ fτ b_a1 b_a2 b_a3 b_y4 n1 nU hm; exact absurd hm (Nat.not_lt_zero _)
    | succ n ih55 =>
      intro τ y4 iτ fτ b_a1 b_a2 b_a3 b_y4 n1 nU hm55
      refine m_iload C dX12_row_55 rfl ?_
      refine m_iload_n C dX12_row_57 rfl rfl ?_
      refine m_icmp_ge (tgt := 80) C dX12_row_58 (by decide) (fun c2 => ?_) (fun c2 => ?_)
      · have f3 : a3.toInt ≤ y4.toInt := by
          have q : _ := c2
          simp only [ti_nle, ti_nlt, ti_le, ti_lt, ti_eq, ti_ne, Classical.not_not] at q
          omega
        refine m_aload_n C dX12_row_80 rfl rfl ?_
        refine m_iload_n C dX12_row_81 rfl rfl ?_
        refine m_callV (n := 1) (ci := 11) (st := []) C (c_X12_fine l G τ (a3) iτ ) (by decide) (by decide) rfl rfl rfl q4_201 q4_198 q4_200 q0_27 q1_7 (by decide +kernel) rfl (by decide) (by decide) rfl (Nat.le_of_ble_eq_true rfl) dX12_row_82 ?_
        rintro _ τ4 ⟨x7, rfl, i5, f6, b8, h10⟩
        have g9 : Fr MS_X12_rowE AS_X12_rowE σ τ4 := Fr.call (fτ) f6 (by decide)
        show MW p l e _ s m args below meth c _ 5 G 0 0 85 [some (.ref (G.1 22 0)), some (.int a1), none, some (.int a3), some (.int y4)] [.int x7] τ4
        exact m_iret C hr hlk (by decide) (by decide) dX12_row_85 ⟨_, rfl, i5, g9, b8, (Or.inr (Or.inr ⟨by omega, by omega, nU.then (SameL.rf.fr f6 (by simp) (by decide))⟩))⟩
      · have f11 : y4.toInt < a3.toInt := by
          have q : _ := c2
          simp only [ti_nle, ti_nlt, ti_le, ti_lt, ti_eq, ti_ne, Classical.not_not] at q
          omega
        have b12 : IV y4 0 39 := ⟨by have q1 := b_y4; have q2 := b_a3; omega, by have q1 := b_y4; have q2 := b_a3; omega⟩
        have b13 : IV a3 1 40 := ⟨by have q1 := b_y4; have q2 := b_a3; omega, by have q1 := b_y4; have q2 := b_a3; omega⟩
        refine m_aload_n C dX12_row_61 rfl rfl ?_
        refine g_22_2 C q4_118 dX12_row_62 ?_
        refine m_bipush (v := 40) C dX12_row_65 (by decide) ?_
        refine m_iload_n C dX12_row_67 rfl rfl ?_
        refine m_imul C dX12_row_68 ?_
        refine m_topi (fun x14 ex14 => ?_)
        have tx14 : x14.toInt = 40 * a1.toInt := by rw [ex14, ti_mulv kc_40 b_a1 (by decide), kt_40]
        have b15 : IV x14 0 280 := by rw [ex14]; exact iv_mul kc_40 b_a1 (by decide)
        refine m_iload C dX12_row_69 rfl ?_
        refine m_iadd C dX12_row_71 ?_
        refine m_topi (fun x16 ex16 => ?_)
        have tx16 : x16.toInt = x14.toInt + y4.toInt := by rw [ex16, ti_addv b15 b12 (by decide)]
        have b17 : IV x16 0 319 := by rw [ex16]; exact iv_add b15 b12 (by decide)
        refine m_iconst (v := 0) C dX12_row_72 (by decide) ?_
        refine as_25 C b17 (by decide) rfl dX12_row_73 ?_
        refine m_tops (fun τ18 eτ18 => ?_)
        have i19 : Inv τ18 := eτ18 ▸ Inv.putF iτ (by decide) rfl
        have f20 : Fr MS_X12_rowE AS_X12_rowE σ τ18 := eτ18 ▸ Fr.put (fτ) (Or.inr (by decide))
        obtain ⟨x21, ex21⟩ : ∃ y : Int32, y = y4 + 1 := ⟨_, rfl⟩
        have tx21 : x21.toInt = y4.toInt + 1 := by rw [ex21, ti_addv b12 kc_1 (by decide), kt_1]
        have b22 : IV x21 1 40 := by rw [ex21]; exact iv_add b12 kc_1 (by decide)
        refine m_iinc (v := x21) (L1 := [some (.ref (G.1 22 0)), some (.int a1), none, some (.int a3), some (.int x21)]) C dX12_row_74 rfl (by rw [ex21]; rfl) (by decide) rfl rfl ?_
        refine m_goto (tgt := 55) C dX12_row_77 (by decide) ?_
        exact ih55 τ18 x21 i19 f20 b_a1 b_a2 (iv_wk b13 (by decide)) (iv_wk b22 (by decide)) (by omega) (nU.then (SameL.rf.put eτ18 (by decide) (by decide))) (by have q := hm55; omega)
  refine m_iload_n C dX12_row_0 rfl rfl ?_
  refine m_callS (n := 1) (st := []) C (c_X12_isRow l G σ (a1) hI ) q4_186 q4_184 q4_185 q1_7 (by decide +kernel) rfl (by decide) (by decide) rfl (Nat.le_of_ble_eq_true rfl) dX12_row_1 ?_
  rintro _ τ23 ⟨x26, rfl, i24, f25, b27, h29⟩
  have g28 : Fr MS_X12_rowE AS_X12_rowE σ τ23 := Fr.call (Fr.rf) f25 (by decide)
  show MW p l e _ s m args below meth c _ 5 G 0 0 4 [some (.ref (G.1 22 0)), some (.int a1), some (.int a2), some (.int a3), none] [.int x26] τ23
  refine m_if_eq (tgt := 25) C dX12_row_4 (by decide) (fun c30 => ?_) (fun c30 => ?_)
  · have f31 : x26.toInt = 0 := by
      have q : _ := c30
      simp only [ti_nle, ti_nlt, ti_le, ti_lt, ti_eq, ti_ne, Classical.not_not, kt_0] at q
      omega
    have b32 : IV x26 0 0 := ⟨by have q1 := b27; have q2 := kc_0; omega, by have q1 := b27; have q2 := kc_0; omega⟩
    refine m_ldc (v := (-1000001)) C dX12_row_25 q4_192 ?_
    exact m_iret C hr hlk (by decide) (by decide) dX12_row_27 ⟨_, rfl, i24, g28, (iv_wk kc_m1000001 (by decide)), (Or.inl ⟨by omega, (by have q := kt_m1000001; omega), (SameL.rf.fr f25 (by simp) (by decide))⟩)⟩
  · have f33 : x26.toInt ≠ 0 := by
      have q : _ := c30
      simp only [ti_nle, ti_nlt, ti_le, ti_lt, ti_eq, ti_ne, Classical.not_not, kt_0] at q
      omega
    have b34 : IV x26 1 1 := ⟨by have q1 := b27; have q2 := kc_0; omega, by have q1 := b27; have q2 := kc_0; omega⟩
    have b35 : IV a1 0 7 := ⟨by have q1 := (iv_any a1); omega, by have q1 := (iv_any a1); omega⟩
    refine m_iload_n C dX12_row_7 rfl rfl ?_
    refine m_i2l C dX12_row_8 ?_
    refine m_lconst (v := 0) C dX12_row_9 (by decide) ?_
    refine m_ldc2 (v := 2) C dX12_row_10 q4_191 ?_
    refine m_callS (n := 3) (st := []) C (c_X12_in l G τ23 ((a2 : Int32).toInt64) (0) (2) i24 ) q4_190 q4_188 q4_189 q1_7 (by decide +kernel) rfl (by decide) (by decide) rfl (Nat.le_of_ble_eq_true rfl) dX12_row_13 ?_
    rintro _ τ36 ⟨x39, rfl, i37, f38, b40, h42⟩
    have g41 : Fr MS_X12_rowE AS_X12_rowE σ τ36 := Fr.call (g28) f38 (by decide)
    have f43 := tl_i a2
    have f44 := kl_0
    have f45 := kl_2
    show MW p l e _ s m args below meth c _ 5 G 0 0 16 [some (.ref (G.1 22 0)), some (.int a1), some (.int a2), some (.int a3), none] [.int x39] τ36
    refine m_if_eq (tgt := 25) C dX12_row_16 (by decide) (fun c46 => ?_) (fun c46 => ?_)
    · have f47 : x39.toInt = 0 := by
        have q : _ := c46
        simp only [ti_nle, ti_nlt, ti_le, ti_lt, ti_eq, ti_ne, Classical.not_not, kt_0] at q
        omega
      have b48 : IV x39 0 0 := ⟨by have q1 := b40; have q2 := kc_0; omega, by have q1 := b40; have q2 := kc_0; omega⟩
      refine m_ldc (v := (-1000001)) C dX12_row_25 q4_192 ?_
      exact m_iret C hr hlk (by decide) (by decide) dX12_row_27 ⟨_, rfl, i37, g41, (iv_wk kc_m1000001 (by decide)), (Or.inl ⟨by omega, (by have q := kt_m1000001; omega), ((SameL.rf.fr f25 (by simp) (by decide)).fr f38 (by simp) (by decide))⟩)⟩
    · have f49 : x39.toInt ≠ 0 := by
        have q : _ := c46
        simp only [ti_nle, ti_nlt, ti_le, ti_lt, ti_eq, ti_ne, Classical.not_not, kt_0] at q
        omega
      have b50 : IV x39 1 1 := ⟨by have q1 := b40; have q2 := kc_0; omega, by have q1 := b40; have q2 := kc_0; omega⟩
      have b51 : IV a2 0 2 := ⟨by have q1 := (iv_any a2); omega, by have q1 := (iv_any a2); omega⟩
      refine m_iload_n C dX12_row_19 rfl rfl ?_
      refine m_bipush (v := 40) C dX12_row_20 (by decide) ?_
      refine m_icmp_le (tgt := 28) C dX12_row_22 (by decide) (fun c52 => ?_) (fun c52 => ?_)
      · have f53 : a3.toInt ≤ 40 := by
          have q : _ := c52
          simp only [ti_nle, ti_nlt, ti_le, ti_lt, ti_eq, ti_ne, Classical.not_not, kt_40] at q
          omega
        have b54 : IV a3 (-2147483648) 40 := ⟨by have q1 := (iv_any a3); have q2 := kc_40; omega, by have q1 := (iv_any a3); have q2 := kc_40; omega⟩
        refine m_iload_n C dX12_row_28 rfl rfl ?_
        refine m_if_ge (tgt := 38) C dX12_row_29 (by decide) (fun c55 => ?_) (fun c55 => ?_)
        · have f56 : 0 ≤ a3.toInt := by
            have q : _ := c55
            simp only [ti_nle, ti_nlt, ti_le, ti_lt, ti_eq, ti_ne, Classical.not_not, kt_0] at q
            omega
          have b57 : IV a3 0 40 := ⟨by have q1 := kc_0; have q2 := b54; omega, by have q1 := kc_0; have q2 := b54; omega⟩
          refine m_aload_n C dX12_row_38 rfl rfl ?_
          refine g_22_3 C q4_119 dX12_row_39 ?_
          refine m_iload_n C dX12_row_42 rfl rfl ?_
          refine m_iload_n C dX12_row_43 rfl rfl ?_
          refine as_26 C b35 (by decide) rfl dX12_row_44 ?_
          refine m_tops (fun τ58 eτ58 => ?_)
          have i59 : Inv τ58 := eτ58 ▸ Inv.putF i37 (by decide) rfl
          have f60 : Fr MS_X12_rowE AS_X12_rowE σ τ58 := eτ58 ▸ Fr.put (g41) (Or.inr (by decide))
          refine m_aload_n C dX12_row_45 rfl rfl ?_
          refine g_22_4 C q4_120 dX12_row_46 ?_
          refine m_iload_n C dX12_row_49 rfl rfl ?_
          refine m_iload_n C dX12_row_50 rfl rfl ?_
          refine as_27 C b35 (by decide) rfl dX12_row_51 ?_
          refine m_tops (fun τ61 eτ61 => ?_)
          have i62 : Inv τ61 := eτ61 ▸ Inv.put i59 (by decide) b57
          have f63 : Fr MS_X12_rowE AS_X12_rowE σ τ61 := eτ61 ▸ Fr.put (f60) (Or.inr (by decide))
          refine m_iconst (v := 0) C dX12_row_52 (by decide) ?_
          refine m_istore (L1 := [some (.ref (G.1 22 0)), some (.int a1), some (.int a2), some (.int a3), some (.int 0)]) C dX12_row_53 (by decide) rfl rfl ?_
          refine m_sub (L1 := [some (.ref (G.1 22 0)), some (.int a1), none, some (.int a3), some (.int 0)]) ⟨rfl, ⟨rfl, ⟨rfl, ⟨rfl, trivial⟩⟩⟩⟩ ?_
          exact J55 ((40 - (0 : Int32).toInt).toNat + 1) τ61 0 i62 f63 b35 b51 b57 (iv_wk kc_0 (by decide)) (by omega) (LU.mk ((SameL.rf.fr f25 (by simp) (by decide)).fr f38 (by simp) (by decide)) eτ58 eτ61) (Nat.lt_succ_self _)
        · have f64 : a3.toInt < 0 := by
            have q : _ := c55
            simp only [ti_nle, ti_nlt, ti_le, ti_lt, ti_eq, ti_ne, Classical.not_not, kt_0] at q
            omega
          have b65 : IV a3 (-2147483648) (-1) := ⟨by have q1 := b54; have q2 := kc_0; omega, by have q1 := b54; have q2 := kc_0; omega⟩
          refine m_aload_n C dX12_row_32 rfl rfl ?_
          refine m_iconst (v := 4) C dX12_row_33 (by decide) ?_
          refine m_callV (n := 1) (ci := 11) (st := []) C (c_X12_met l G τ36 (4) i37 (iv_wk kc_4 (by decide))) (by decide) (by decide) rfl rfl rfl q4_196 q4_193 q4_195 q0_26 q1_7 (by decide +kernel) rfl (by decide) (by decide) rfl (Nat.le_of_ble_eq_true rfl) dX12_row_34 ?_
          rintro _ τ66 ⟨x69, rfl, i67, f68, b70, h72⟩
          have g71 : Fr MS_X12_rowE AS_X12_rowE σ τ66 := Fr.call (g41) f68 (by decide)
          have q73 := kt_4
          show MW p l e _ s m args below meth c _ 5 G 0 0 37 [some (.ref (G.1 22 0)), some (.int a1), some (.int a2), some (.int a3), none] [.int x69] τ66
          exact m_iret C hr hlk (by decide) (by decide) dX12_row_37 ⟨_, rfl, i67, g71, (iv_wk b70 (by decide)), (Or.inr (Or.inl ⟨by omega, by omega, (((SameL.rf.fr f25 (by simp) (by decide)).fr f38 (by simp) (by decide)).fr f68 (by simp) (by decide))⟩))⟩
      · have f74 : 40 < a3.toInt := by
          have q : _ := c52
          simp only [ti_nle, ti_nlt, ti_le, ti_lt, ti_eq, ti_ne, Classical.not_not, kt_40] at q
          omega
        have b75 : IV a3 41 2147483647 := ⟨by have q1 := kc_40; have q2 := (iv_any a3); omega, by have q1 := kc_40; have q2 := (iv_any a3); omega⟩
        refine m_ldc (v := (-1000001)) C dX12_row_25 q4_192 ?_
        exact m_iret C hr hlk (by decide) (by decide) dX12_row_27 ⟨_, rfl, i37, g41, (iv_wk kc_m1000001 (by decide)), (Or.inl ⟨by omega, (by have q := kt_m1000001; omega), ((SameL.rf.fr f25 (by simp) (by decide)).fr f38 (by simp) (by decide))⟩)⟩

abbrev MS_X6_appendE : List (Nat × Nat) := [(12, 1)]
abbrev AS_X6_appendE : List Nat := [13]
set_option maxHeartbeats 4000000 in
set_option maxRecDepth 100000 in
theorem c_X6_appendE (l : Launch) (G : Gt) (σ : Sg) (a1 : Int32) (hI : Inv σ) : Mc l G yX6_append cX6_append 2 none 0 0 0 0 [.ref (G.1 12 0), .int a1] σ (PV fun τ => Inv τ ∧ Fr MS_X6_appendE AS_X6_appendE σ τ ∧ ((gV σ 12 0 1).toInt < 400 → (gV τ 12 0 1).toInt = (gV σ 12 0 1).toInt + 1)) := by
  refine Mc.of (L0 := [some (.ref (G.1 12 0)), some (.int a1)]) (by decide) (Nat.le_of_ble_eq_true rfl) rfl ?_
  intro p e s m args below meth c C hr hlk
  have C : Cx p s m args c cX6_append 2 "LeanTower$Reader" := C
  have k0 : (0 : Int32).toInt = 0 := by decide
  have k1 : (1 : Int32).toInt = 1 := by decide
  have u1 : IV (gV σ 12 0 1) 0 400 := hI.1 12 0 1
  refine m_aload_n C dX6_append_0 rfl rfl ?_
  refine g_12_1 C q1_38 dX6_append_1 ?_
  refine m_eqs (w := (gV σ 12 0 1)) rfl ?_
  refine m_sipush (v := 400) C dX6_append_4 (by decide) ?_
  refine m_icmp_ge (tgt := 30) C dX6_append_7 (by decide) (fun c2 => ?_) (fun c2 => ?_)
  · have f3 : 400 ≤ (gV σ 12 0 1).toInt := by
      have q : _ := c2
      simp only [ti_nle, ti_nlt, ti_le, ti_lt, ti_eq, ti_ne, Classical.not_not, kt_400] at q
      omega
    have b4 : IV (gV σ 12 0 1) 400 400 := ⟨by have q1 := kc_400; have q2 := u1; omega, by have q1 := kc_400; have q2 := u1; omega⟩
    exact m_vret C hr hlk (by decide) (by decide) dX6_append_30 ⟨rfl, hI, Fr.rf, (by omega)⟩
  · have f5 : (gV σ 12 0 1).toInt < 400 := by
      have q : _ := c2
      simp only [ti_nle, ti_nlt, ti_le, ti_lt, ti_eq, ti_ne, Classical.not_not, kt_400] at q
      omega
    have b6 : IV (gV σ 12 0 1) 0 399 := ⟨by have q1 := u1; have q2 := kc_400; omega, by have q1 := u1; have q2 := kc_400; omega⟩
    refine m_aload_n C dX6_append_10 rfl rfl ?_
    refine g_12_0 C q1_37 dX6_append_11 ?_
    refine m_aload_n C dX6_append_14 rfl rfl ?_
    refine g_12_1 C q1_38 dX6_append_15 ?_
    refine m_eqs (w := (gV σ 12 0 1)) rfl ?_
    refine m_iload_n C dX6_append_18 rfl rfl ?_
    refine as_13 C b6 (by decide) rfl dX6_append_19 ?_
    obtain ⟨x7, ex7⟩ : ∃ y : Int32, y = vp_nar .byte a1 := ⟨_, rfl⟩
    rw [← ex7]
    refine m_tops (fun τ8 eτ8 => ?_)
    have i9 : Inv τ8 := eτ8 ▸ Inv.putF hI (by decide) rfl
    have f10 : Fr MS_X6_appendE AS_X6_appendE σ τ8 := eτ8 ▸ Fr.put (Fr.rf) (Or.inr (by decide))
    refine m_aload_n C dX6_append_20 rfl rfl ?_
    refine m_dup C dX6_append_21 rfl ?_
    refine g_12_1 C q1_38 dX6_append_22 ?_
    refine m_eqs (w := (gV σ 12 0 1)) (show gV τ8 12 0 1 = (gV σ 12 0 1) from gV_put eτ8 rfl) ?_
    refine m_iconst (v := 1) C dX6_append_25 (by decide) ?_
    refine m_iadd C dX6_append_26 ?_
    refine m_topi (fun x11 ex11 => ?_)
    have tx11 : x11.toInt = (gV σ 12 0 1).toInt + 1 := by rw [ex11, ti_addv b6 kc_1 (by decide), kt_1]
    have b12 : IV x11 1 400 := by rw [ex11]; exact iv_add b6 kc_1 (by decide)
    refine p_12_1 C q1_38 dX6_append_27 ?_
    refine m_tops (fun τ13 eτ13 => ?_)
    have i14 : Inv τ13 := eτ13 ▸ Inv.put i9 (by decide) (iv_wk b12 (by decide))
    have f15 : Fr MS_X6_appendE AS_X6_appendE σ τ13 := eτ13 ▸ Fr.put (f10) (Or.inl (by decide))
    have q16 : (gV τ13 12 0 1).toInt = x11.toInt := congrArg Int32.toInt (show (gV τ13 12 0 1) = x11 from (show gV τ13 12 0 1 = x11 from gV_put eτ13 (gV_self _ _ _ _ _)))
    exact m_vret C hr hlk (by decide) (by decide) dX6_append_30 ⟨rfl, i14, f15, (by omega)⟩

abbrev MS_X11_feedE : List (Nat × Nat) := [(12, 1)]
abbrev AS_X11_feedE : List Nat := [13]
set_option maxHeartbeats 4000000 in
set_option maxRecDepth 100000 in
theorem c_X11_feedE (l : Launch) (G : Gt) (σ : Sg) (a1 : Int64) (a2 : Int32) (hI : Inv σ) : Mc l G yX11_feed cX11_feed 5 (some .int) 1 21 0 0 [.ref (G.1 0 0), .long a1, .int a2] σ (PI fun r τ => Inv τ ∧ Fr MS_X11_feedE AS_X11_feedE σ τ ∧ IV r (-1000003) 400 ∧ (((a2.toInt < 1 ∨ 8 < a2.toInt) ∧ r.toInt = -1000001 ∧ (gV τ 12 0 1).toInt = (gV σ 12 0 1).toInt) ∨ ((1 ≤ a2.toInt ∧ a2.toInt ≤ 8) ∧ 400 < (gV σ 12 0 1).toInt + a2.toInt ∧ r.toInt = -1000003 ∧ (gV τ 12 0 1).toInt = (gV σ 12 0 1).toInt) ∨ ((1 ≤ a2.toInt ∧ a2.toInt ≤ 8) ∧ (gV σ 12 0 1).toInt + a2.toInt ≤ 400 ∧ r.toInt = (gV σ 12 0 1).toInt + a2.toInt ∧ (gV τ 12 0 1).toInt = (gV σ 12 0 1).toInt + a2.toInt))) := by
  refine Mc.of (L0 := [some (.ref (G.1 0 0)), some (.long a1), none, some (.int a2), none]) (by decide) (Nat.le_of_ble_eq_true rfl) rfl ?_
  intro p e s m args below meth c C hr hlk
  have C : Cx p s m args c cX11_feed 5 "LeanTower" := C
  have k0 : (0 : Int32).toInt = 0 := by decide
  have k1 : (1 : Int32).toInt = 1 := by decide
  have J37 : ∀ (n : Nat) (τ : Sg) (y4 : Int32), Inv τ → Fr MS_X11_feedE AS_X11_feedE σ τ → IV a2 1 8 → IV y4 (-1) 7 → ((gV τ 12 0 1).toInt + y4.toInt + 1 = (gV σ 12 0 1).toInt + a2.toInt) → ((gV σ 12 0 1).toInt + a2.toInt ≤ 400) → (y4.toInt - (-1)).toNat < n → MW p l e { frames := 1, cells := 0, slots := 0, locals := 21 } s m args below meth c (MQ below (QP G (PI fun r τ => Inv τ ∧ Fr MS_X11_feedE AS_X11_feedE σ τ ∧ IV r (-1000003) 400 ∧ (((a2.toInt < 1 ∨ 8 < a2.toInt) ∧ r.toInt = -1000001 ∧ (gV τ 12 0 1).toInt = (gV σ 12 0 1).toInt) ∨ ((1 ≤ a2.toInt ∧ a2.toInt ≤ 8) ∧ 400 < (gV σ 12 0 1).toInt + a2.toInt ∧ r.toInt = -1000003 ∧ (gV τ 12 0 1).toInt = (gV σ 12 0 1).toInt) ∨ ((1 ≤ a2.toInt ∧ a2.toInt ≤ 8) ∧ (gV σ 12 0 1).toInt + a2.toInt ≤ 400 ∧ r.toInt = (gV σ 12 0 1).toInt + a2.toInt ∧ (gV τ 12 0 1).toInt = (gV σ 12 0 1).toInt + a2.toInt)))) args s 0 0 (aG G)) 5 G 0 0 37 [some (.ref (G.1 0 0)), some (.long a1), none, none, some (.int y4)] [] τ := by
    intro n
    induction n with
    | zero => intro τ y4 iτ fτ b_a2 b_y4 n1 n2 hm; exact absurd hm (Nat.not_lt_zero _)
    | succ n ih37 =>
      intro τ y4 iτ fτ b_a2 b_y4 n1 n2 hm37
      have u3 : IV (gV τ 12 0 1) 0 400 := iτ.1 12 0 1
      refine m_iload C dX11_feed_37 rfl ?_
      refine m_if_lt (tgt := 64) C dX11_feed_39 (by decide) (fun c4 => ?_) (fun c4 => ?_)
      · have f5 : y4.toInt < 0 := by
          have q : _ := c4
          simp only [ti_nle, ti_nlt, ti_le, ti_lt, ti_eq, ti_ne, Classical.not_not, kt_0] at q
          omega
        have b6 : IV y4 (-1) (-1) := ⟨by have q1 := b_y4; have q2 := kc_0; omega, by have q1 := b_y4; have q2 := kc_0; omega⟩
        refine m_aload_n C dX11_feed_64 rfl rfl ?_
        refine g_0_1 C q1_187 dX11_feed_65 ?_
        refine g_12_1 C q1_39 dX11_feed_68 ?_
        refine m_eqs (w := (gV τ 12 0 1)) rfl ?_
        exact m_iret C hr hlk (by decide) (by decide) dX11_feed_71 ⟨_, rfl, iτ, fτ, (iv_wk u3 (by decide)), (by omega)⟩
      · have f7 : 0 ≤ y4.toInt := by
          have q : _ := c4
          simp only [ti_nle, ti_nlt, ti_le, ti_lt, ti_eq, ti_ne, Classical.not_not, kt_0] at q
          omega
        have b8 : IV y4 0 7 := ⟨by have q1 := kc_0; have q2 := b_y4; omega, by have q1 := kc_0; have q2 := b_y4; omega⟩
        refine m_aload_n C dX11_feed_42 rfl rfl ?_
        refine g_0_1 C q1_187 dX11_feed_43 ?_
        refine m_lload_n C dX11_feed_46 rfl rfl ?_
        refine m_bipush (v := 8) C dX11_feed_47 (by decide) ?_
        refine m_iload C dX11_feed_49 rfl ?_
        refine m_imul C dX11_feed_51 ?_
        refine m_topi (fun x9 ex9 => ?_)
        have tx9 : x9.toInt = 8 * y4.toInt := by rw [ex9, ti_mulv kc_8 b8 (by decide), kt_8]
        have b10 : IV x9 0 56 := by rw [ex9]; exact iv_mul kc_8 b8 (by decide)
        refine m_lshr C dX11_feed_52 ?_
        refine m_topl (fun w11 ew11 => ?_)
        refine m_l2i C dX11_feed_53 ?_
        refine m_topi (fun x12 ex12 => ?_)
        refine m_i2b C dX11_feed_54 ?_
        refine m_topi (fun x13 ex13 => ?_)
        refine m_callV (n := 1) (ci := 5) (st := []) C (c_X6_appendE l G τ (x13) iτ ) (by decide) (by decide) rfl rfl rfl q2_47 q2_44 q2_45 q2_46 q1_2 (by decide +kernel) rfl (by decide) (by decide) rfl (Nat.le_of_ble_eq_true rfl) dX11_feed_55 ?_
        rintro _ τ14 ⟨rfl, i15, f16, h20⟩
        have g19 : Fr MS_X11_feedE AS_X11_feedE σ τ14 := Fr.call (fτ) f16 (by decide)
        have u21 : IV (gV τ14 12 0 1) 0 400 := i15.1 12 0 1
        show MW p l e _ s m args below meth c _ 5 G 0 0 58 [some (.ref (G.1 0 0)), some (.long a1), none, none, some (.int y4)] [] τ14
        obtain ⟨x22, ex22⟩ : ∃ y : Int32, y = y4 + (-1) := ⟨_, rfl⟩
        have tx22 : x22.toInt = y4.toInt + (-1) := by rw [ex22, ti_addv b8 kc_m1 (by decide), kt_m1]
        have b23 : IV x22 (-1) 6 := by rw [ex22]; exact iv_add b8 kc_m1 (by decide)
        refine m_iinc (v := x22) (L1 := [some (.ref (G.1 0 0)), some (.long a1), none, none, some (.int x22)]) C dX11_feed_58 rfl (by rw [ex22]; rfl) (by decide) rfl rfl ?_
        refine m_goto (tgt := 37) C dX11_feed_61 (by decide) ?_
        exact ih37 τ14 x22 i15 g19 b_a2 (iv_wk b23 (by decide)) (by omega) (by omega) (by have q := hm37; omega)
  have u24 : IV (gV σ 12 0 1) 0 400 := hI.1 12 0 1
  refine m_iload_n C dX11_feed_0 rfl rfl ?_
  refine m_iconst (v := 1) C dX11_feed_1 (by decide) ?_
  refine m_icmp_lt (tgt := 11) C dX11_feed_2 (by decide) (fun c25 => ?_) (fun c25 => ?_)
  · have f26 : a2.toInt < 1 := by
      have q : _ := c25
      simp only [ti_nle, ti_nlt, ti_le, ti_lt, ti_eq, ti_ne, Classical.not_not, kt_1] at q
      omega
    have b27 : IV a2 (-2147483648) 0 := ⟨by have q1 := (iv_any a2); have q2 := kc_1; omega, by have q1 := (iv_any a2); have q2 := kc_1; omega⟩
    refine m_ldc (v := (-1000001)) C dX11_feed_11 q1_234 ?_
    exact m_iret C hr hlk (by decide) (by decide) dX11_feed_13 ⟨_, rfl, hI, Fr.rf, (iv_wk kc_m1000001 (by decide)), (by have q := kt_m1000001; omega)⟩
  · have f28 : 1 ≤ a2.toInt := by
      have q : _ := c25
      simp only [ti_nle, ti_nlt, ti_le, ti_lt, ti_eq, ti_ne, Classical.not_not, kt_1] at q
      omega
    have b29 : IV a2 1 2147483647 := ⟨by have q1 := kc_1; have q2 := (iv_any a2); omega, by have q1 := kc_1; have q2 := (iv_any a2); omega⟩
    refine m_iload_n C dX11_feed_5 rfl rfl ?_
    refine m_bipush (v := 8) C dX11_feed_6 (by decide) ?_
    refine m_icmp_le (tgt := 14) C dX11_feed_8 (by decide) (fun c30 => ?_) (fun c30 => ?_)
    · have f31 : a2.toInt ≤ 8 := by
        have q : _ := c30
        simp only [ti_nle, ti_nlt, ti_le, ti_lt, ti_eq, ti_ne, Classical.not_not, kt_8] at q
        omega
      have b32 : IV a2 1 8 := ⟨by have q1 := b29; have q2 := kc_8; omega, by have q1 := b29; have q2 := kc_8; omega⟩
      refine m_aload_n C dX11_feed_14 rfl rfl ?_
      refine g_0_1 C q1_187 dX11_feed_15 ?_
      refine g_12_1 C q1_39 dX11_feed_18 ?_
      refine m_eqs (w := (gV σ 12 0 1)) rfl ?_
      refine m_iload_n C dX11_feed_21 rfl rfl ?_
      refine m_iadd C dX11_feed_22 ?_
      refine m_topi (fun x33 ex33 => ?_)
      have tx33 : x33.toInt = (gV σ 12 0 1).toInt + a2.toInt := by rw [ex33, ti_addv u24 b32 (by decide)]
      have b34 : IV x33 1 408 := by rw [ex33]; exact iv_add u24 b32 (by decide)
      refine m_sipush (v := 400) C dX11_feed_23 (by decide) ?_
      refine m_icmp_le (tgt := 32) C dX11_feed_26 (by decide) (fun c35 => ?_) (fun c35 => ?_)
      · have f36 : x33.toInt ≤ 400 := by
          have q : _ := c35
          simp only [ti_nle, ti_nlt, ti_le, ti_lt, ti_eq, ti_ne, Classical.not_not, kt_400] at q
          omega
        have b37 : IV x33 1 400 := ⟨by have q1 := b34; have q2 := kc_400; omega, by have q1 := b34; have q2 := kc_400; omega⟩
        refine m_iload_n C dX11_feed_32 rfl rfl ?_
        refine m_iconst (v := 1) C dX11_feed_33 (by decide) ?_
        refine m_isub C dX11_feed_34 ?_
        refine m_topi (fun x38 ex38 => ?_)
        have tx38 : x38.toInt = a2.toInt - 1 := by rw [ex38, ti_subv b32 kc_1 (by decide), kt_1]
        have b39 : IV x38 0 7 := by rw [ex38]; exact iv_sub b32 kc_1 (by decide)
        refine m_istore (L1 := [some (.ref (G.1 0 0)), some (.long a1), none, some (.int a2), some (.int x38)]) C dX11_feed_35 (by decide) rfl rfl ?_
        refine m_sub (L1 := [some (.ref (G.1 0 0)), some (.long a1), none, none, some (.int x38)]) ⟨rfl, ⟨rfl, ⟨rfl, trivial⟩⟩⟩ ?_
        exact J37 ((x38.toInt - (-1)).toNat + 1) σ x38 hI Fr.rf b32 (iv_wk b39 (by decide)) (by omega) (by omega) (Nat.lt_succ_self _)
      · have f40 : 400 < x33.toInt := by
          have q : _ := c35
          simp only [ti_nle, ti_nlt, ti_le, ti_lt, ti_eq, ti_ne, Classical.not_not, kt_400] at q
          omega
        have b41 : IV x33 401 408 := ⟨by have q1 := kc_400; have q2 := b34; omega, by have q1 := kc_400; have q2 := b34; omega⟩
        refine m_ldc (v := (-1000003)) C dX11_feed_29 q2_43 ?_
        exact m_iret C hr hlk (by decide) (by decide) dX11_feed_31 ⟨_, rfl, hI, Fr.rf, (iv_wk kc_m1000003 (by decide)), (by have q := kt_m1000003; omega)⟩
    · have f42 : 8 < a2.toInt := by
        have q : _ := c30
        simp only [ti_nle, ti_nlt, ti_le, ti_lt, ti_eq, ti_ne, Classical.not_not, kt_8] at q
        omega
      have b43 : IV a2 9 2147483647 := ⟨by have q1 := kc_8; have q2 := b29; omega, by have q1 := kc_8; have q2 := b29; omega⟩
      refine m_ldc (v := (-1000001)) C dX11_feed_11 q1_234 ?_
      exact m_iret C hr hlk (by decide) (by decide) dX11_feed_13 ⟨_, rfl, hI, Fr.rf, (iv_wk kc_m1000001 (by decide)), (by have q := kt_m1000001; omega)⟩

abbrev MS_X12_feedE : List (Nat × Nat) := [(22, 6)]
abbrev AS_X12_feedE : List Nat := [28]
set_option maxHeartbeats 4000000 in
set_option maxRecDepth 100000 in
theorem c_X12_feedE (l : Launch) (G : Gt) (σ : Sg) (a1 : Int64) (a2 : Int32) (hI : Inv σ) : Mc l G yX12_feed cX12_feed 5 (some .int) 1 25 0 0 [.ref (G.1 22 0), .long a1, .int a2] σ (PI fun r τ => Inv τ ∧ Fr MS_X12_feedE AS_X12_feedE σ τ ∧ IV r (-1000003) 400 ∧ (((a2.toInt < 1 ∨ 8 < a2.toInt) ∧ r.toInt = -1000001 ∧ (gV τ 22 0 6).toInt = (gV σ 22 0 6).toInt) ∨ ((1 ≤ a2.toInt ∧ a2.toInt ≤ 8) ∧ 400 < (gV σ 22 0 6).toInt + a2.toInt ∧ r.toInt = -1000003 ∧ (gV τ 22 0 6).toInt = (gV σ 22 0 6).toInt) ∨ ((1 ≤ a2.toInt ∧ a2.toInt ≤ 8) ∧ (gV σ 22 0 6).toInt + a2.toInt ≤ 400 ∧ r.toInt = (gV σ 22 0 6).toInt + a2.toInt ∧ (gV τ 22 0 6).toInt = (gV σ 22 0 6).toInt + a2.toInt))) := by
  refine Mc.of (L0 := [some (.ref (G.1 22 0)), some (.long a1), none, some (.int a2), none]) (by decide) (Nat.le_of_ble_eq_true rfl) rfl ?_
  intro p e s m args below meth c C hr hlk
  have C : Cx p s m args c cX12_feed 5 "LeanTowerModel" := C
  have k0 : (0 : Int32).toInt = 0 := by decide
  have k1 : (1 : Int32).toInt = 1 := by decide
  have J35 : ∀ (n : Nat) (τ : Sg) (y4 : Int32), Inv τ → Fr MS_X12_feedE AS_X12_feedE σ τ → IV a2 1 8 → IV y4 (-1) 7 → ((gV τ 22 0 6).toInt + y4.toInt ≤ 399) → ((gV τ 22 0 6).toInt + y4.toInt + 1 = (gV σ 22 0 6).toInt + a2.toInt) → ((gV σ 22 0 6).toInt + a2.toInt ≤ 400) → (y4.toInt - (-1)).toNat < n → MW p l e { frames := 1, cells := 0, slots := 0, locals := 25 } s m args below meth c (MQ below (QP G (PI fun r τ => Inv τ ∧ Fr MS_X12_feedE AS_X12_feedE σ τ ∧ IV r (-1000003) 400 ∧ (((a2.toInt < 1 ∨ 8 < a2.toInt) ∧ r.toInt = -1000001 ∧ (gV τ 22 0 6).toInt = (gV σ 22 0 6).toInt) ∨ ((1 ≤ a2.toInt ∧ a2.toInt ≤ 8) ∧ 400 < (gV σ 22 0 6).toInt + a2.toInt ∧ r.toInt = -1000003 ∧ (gV τ 22 0 6).toInt = (gV σ 22 0 6).toInt) ∨ ((1 ≤ a2.toInt ∧ a2.toInt ≤ 8) ∧ (gV σ 22 0 6).toInt + a2.toInt ≤ 400 ∧ r.toInt = (gV σ 22 0 6).toInt + a2.toInt ∧ (gV τ 22 0 6).toInt = (gV σ 22 0 6).toInt + a2.toInt)))) args s 0 0 (aG G)) 5 G 0 0 35 [some (.ref (G.1 22 0)), some (.long a1), none, none, some (.int y4)] [] τ := by
    intro n
    induction n with
    | zero => intro τ y4 iτ fτ b_a2 b_y4 n1 n2 n3 hm; exact absurd hm (Nat.not_lt_zero _)
    | succ n ih35 =>
      intro τ y4 iτ fτ b_a2 b_y4 n1 n2 n3 hm35
      have u4 : IV (gV τ 22 0 6) 0 400 := iτ.1 22 0 6
      refine m_iload C dX12_feed_35 rfl ?_
      refine m_if_lt (tgt := 77) C dX12_feed_37 (by decide) (fun c5 => ?_) (fun c5 => ?_)
      · have f6 : y4.toInt < 0 := by
          have q : _ := c5
          simp only [ti_nle, ti_nlt, ti_le, ti_lt, ti_eq, ti_ne, Classical.not_not, kt_0] at q
          omega
        have b7 : IV y4 (-1) (-1) := ⟨by have q1 := b_y4; have q2 := kc_0; omega, by have q1 := b_y4; have q2 := kc_0; omega⟩
        refine m_aload_n C dX12_feed_77 rfl rfl ?_
        refine g_22_6 C q4_122 dX12_feed_78 ?_
        refine m_eqs (w := (gV τ 22 0 6)) rfl ?_
        exact m_iret C hr hlk (by decide) (by decide) dX12_feed_81 ⟨_, rfl, iτ, fτ, (iv_wk u4 (by decide)), (by omega)⟩
      · have f8 : 0 ≤ y4.toInt := by
          have q : _ := c5
          simp only [ti_nle, ti_nlt, ti_le, ti_lt, ti_eq, ti_ne, Classical.not_not, kt_0] at q
          omega
        have b9 : IV y4 0 7 := ⟨by have q1 := kc_0; have q2 := b_y4; omega, by have q1 := kc_0; have q2 := b_y4; omega⟩
        refine m_aload_n C dX12_feed_40 rfl rfl ?_
        refine g_22_5 C q4_121 dX12_feed_41 ?_
        refine m_aload_n C dX12_feed_44 rfl rfl ?_
        refine g_22_6 C q4_122 dX12_feed_45 ?_
        refine m_eqs (w := (gV τ 22 0 6)) rfl ?_
        refine m_lload_n C dX12_feed_48 rfl rfl ?_
        refine m_bipush (v := 8) C dX12_feed_49 (by decide) ?_
        refine m_iload C dX12_feed_51 rfl ?_
        refine m_imul C dX12_feed_53 ?_
        refine m_topi (fun x10 ex10 => ?_)
        have tx10 : x10.toInt = 8 * y4.toInt := by rw [ex10, ti_mulv kc_8 b9 (by decide), kt_8]
        have b11 : IV x10 0 56 := by rw [ex10]; exact iv_mul kc_8 b9 (by decide)
        refine m_lshr C dX12_feed_54 ?_
        refine m_topl (fun w12 ew12 => ?_)
        refine m_ldc2 (v := 255) C dX12_feed_55 q4_223 ?_
        refine m_land C dX12_feed_58 ?_
        refine m_topl (fun w13 ew13 => ?_)
        refine m_l2i C dX12_feed_59 ?_
        refine m_topi (fun x14 ex14 => ?_)
        have b15 : IV (gV τ 22 0 6) 0 399 := ⟨by have q1 := u4; omega, by have q1 := u4; omega⟩
        refine as_28 C b15 (by decide) rfl dX12_feed_60 ?_
        refine m_tops (fun τ16 eτ16 => ?_)
        have i17 : Inv τ16 := eτ16 ▸ Inv.putF iτ (by decide) rfl
        have f18 : Fr MS_X12_feedE AS_X12_feedE σ τ16 := eτ16 ▸ Fr.put (fτ) (Or.inr (by decide))
        refine m_aload_n C dX12_feed_61 rfl rfl ?_
        refine m_dup C dX12_feed_62 rfl ?_
        refine g_22_6 C q4_122 dX12_feed_63 ?_
        refine m_eqs (w := (gV τ 22 0 6)) (show gV τ16 22 0 6 = (gV τ 22 0 6) from gV_put eτ16 rfl) ?_
        refine m_iconst (v := 1) C dX12_feed_66 (by decide) ?_
        refine m_iadd C dX12_feed_67 ?_
        refine m_topi (fun x19 ex19 => ?_)
        have tx19 : x19.toInt = (gV τ 22 0 6).toInt + 1 := by rw [ex19, ti_addv b15 kc_1 (by decide), kt_1]
        have b20 : IV x19 1 400 := by rw [ex19]; exact iv_add b15 kc_1 (by decide)
        refine p_22_6 C q4_122 dX12_feed_68 ?_
        refine m_tops (fun τ21 eτ21 => ?_)
        have i22 : Inv τ21 := eτ21 ▸ Inv.put i17 (by decide) (iv_wk b20 (by decide))
        have f23 : Fr MS_X12_feedE AS_X12_feedE σ τ21 := eτ21 ▸ Fr.put (f18) (Or.inl (by decide))
        obtain ⟨x24, ex24⟩ : ∃ y : Int32, y = y4 + (-1) := ⟨_, rfl⟩
        have tx24 : x24.toInt = y4.toInt + (-1) := by rw [ex24, ti_addv b9 kc_m1 (by decide), kt_m1]
        have b25 : IV x24 (-1) 6 := by rw [ex24]; exact iv_add b9 kc_m1 (by decide)
        refine m_iinc (v := x24) (L1 := [some (.ref (G.1 22 0)), some (.long a1), none, none, some (.int x24)]) C dX12_feed_71 rfl (by rw [ex24]; rfl) (by decide) rfl rfl ?_
        refine m_goto (tgt := 35) C dX12_feed_74 (by decide) ?_
        have q26 : (gV τ21 22 0 6).toInt = x19.toInt := congrArg Int32.toInt (show (gV τ21 22 0 6) = x19 from (show gV τ21 22 0 6 = x19 from gV_put eτ21 (gV_self _ _ _ _ _)))
        exact ih35 τ21 x24 i22 f23 b_a2 (iv_wk b25 (by decide)) (by omega) (by omega) (by omega) (by have q := hm35; omega)
  have u27 : IV (gV σ 22 0 6) 0 400 := hI.1 22 0 6
  refine m_iload_n C dX12_feed_0 rfl rfl ?_
  refine m_i2l C dX12_feed_1 ?_
  refine m_lconst (v := 1) C dX12_feed_2 (by decide) ?_
  refine m_ldc2 (v := 8) C dX12_feed_3 q4_221 ?_
  refine m_callS (n := 3) (st := []) C (c_X12_in l G σ ((a2 : Int32).toInt64) (1) (8) hI ) q4_190 q4_188 q4_189 q1_7 (by decide +kernel) rfl (by decide) (by decide) rfl (Nat.le_of_ble_eq_true rfl) dX12_feed_6 ?_
  rintro _ τ28 ⟨x31, rfl, i29, f30, b32, h34⟩
  have g33 : Fr MS_X12_feedE AS_X12_feedE σ τ28 := Fr.call (Fr.rf) f30 (by decide)
  have q35 : (gV τ28 22 0 6).toInt = (gV σ 22 0 6).toInt := congrArg Int32.toInt (show (gV τ28 22 0 6) = (gV σ 22 0 6) from (show gV τ28 22 0 6 = (gV σ 22 0 6) from (f30.1 22 0 (6) (by decide) (by decide)).trans rfl))
  have f36 := tl_i a2
  have f37 := kl_1
  have f38 := kl_8
  show MW p l e _ s m args below meth c _ 5 G 0 0 9 [some (.ref (G.1 22 0)), some (.long a1), none, some (.int a2), none] [.int x31] τ28
  refine m_if_ne (tgt := 15) C dX12_feed_9 (by decide) (fun c39 => ?_) (fun c39 => ?_)
  · have f40 : x31.toInt ≠ 0 := by
      have q : _ := c39
      simp only [ti_nle, ti_nlt, ti_le, ti_lt, ti_eq, ti_ne, Classical.not_not, kt_0] at q
      omega
    have b41 : IV x31 1 1 := ⟨by have q1 := b32; have q2 := kc_0; omega, by have q1 := b32; have q2 := kc_0; omega⟩
    have b42 : IV a2 1 8 := ⟨by have q1 := (iv_any a2); omega, by have q1 := (iv_any a2); omega⟩
    refine m_aload_n C dX12_feed_15 rfl rfl ?_
    refine g_22_6 C q4_122 dX12_feed_16 ?_
    refine m_eqs (w := (gV σ 22 0 6)) (show gV τ28 22 0 6 = (gV σ 22 0 6) from (f30.1 22 0 (6) (by decide) (by decide)).trans rfl) ?_
    refine m_iload_n C dX12_feed_19 rfl rfl ?_
    refine m_iadd C dX12_feed_20 ?_
    refine m_topi (fun x43 ex43 => ?_)
    have tx43 : x43.toInt = (gV σ 22 0 6).toInt + a2.toInt := by rw [ex43, ti_addv u27 b42 (by decide)]
    have b44 : IV x43 1 408 := by rw [ex43]; exact iv_add u27 b42 (by decide)
    refine m_sipush (v := 400) C dX12_feed_21 (by decide) ?_
    refine m_icmp_le (tgt := 30) C dX12_feed_24 (by decide) (fun c45 => ?_) (fun c45 => ?_)
    · have f46 : x43.toInt ≤ 400 := by
        have q : _ := c45
        simp only [ti_nle, ti_nlt, ti_le, ti_lt, ti_eq, ti_ne, Classical.not_not, kt_400] at q
        omega
      have b47 : IV x43 1 400 := ⟨by have q1 := b44; have q2 := kc_400; omega, by have q1 := b44; have q2 := kc_400; omega⟩
      refine m_iload_n C dX12_feed_30 rfl rfl ?_
      refine m_iconst (v := 1) C dX12_feed_31 (by decide) ?_
      refine m_isub C dX12_feed_32 ?_
      refine m_topi (fun x48 ex48 => ?_)
      have tx48 : x48.toInt = a2.toInt - 1 := by rw [ex48, ti_subv b42 kc_1 (by decide), kt_1]
      have b49 : IV x48 0 7 := by rw [ex48]; exact iv_sub b42 kc_1 (by decide)
      refine m_istore (L1 := [some (.ref (G.1 22 0)), some (.long a1), none, some (.int a2), some (.int x48)]) C dX12_feed_33 (by decide) rfl rfl ?_
      refine m_sub (L1 := [some (.ref (G.1 22 0)), some (.long a1), none, none, some (.int x48)]) ⟨rfl, ⟨rfl, ⟨rfl, trivial⟩⟩⟩ ?_
      exact J35 ((x48.toInt - (-1)).toNat + 1) τ28 x48 i29 g33 b42 (iv_wk b49 (by decide)) (by omega) (by omega) (by omega) (Nat.lt_succ_self _)
    · have f50 : 400 < x43.toInt := by
        have q : _ := c45
        simp only [ti_nle, ti_nlt, ti_le, ti_lt, ti_eq, ti_ne, Classical.not_not, kt_400] at q
        omega
      have b51 : IV x43 401 408 := ⟨by have q1 := kc_400; have q2 := b44; omega, by have q1 := kc_400; have q2 := b44; omega⟩
      refine m_ldc (v := (-1000003)) C dX12_feed_27 q4_222 ?_
      exact m_iret C hr hlk (by decide) (by decide) dX12_feed_29 ⟨_, rfl, i29, g33, (iv_wk kc_m1000003 (by decide)), (by have q := kt_m1000003; omega)⟩
  · have f52 : x31.toInt = 0 := by
      have q : _ := c39
      simp only [ti_nle, ti_nlt, ti_le, ti_lt, ti_eq, ti_ne, Classical.not_not, kt_0] at q
      omega
    have b53 : IV x31 0 0 := ⟨by have q1 := b32; have q2 := kc_0; omega, by have q1 := b32; have q2 := kc_0; omega⟩
    refine m_ldc (v := (-1000001)) C dX12_feed_12 q4_192 ?_
    exact m_iret C hr hlk (by decide) (by decide) dX12_feed_14 ⟨_, rfl, i29, g33, (iv_wk kc_m1000001 (by decide)), (by have q := kt_m1000001; omega)⟩

abbrev MS_X6_readIntoE : List (Nat × Nat) := [(1, 0), (1, 1), (1, 2), (1, 3), (1, 9), (1, 10), (1, 11), (12, 1), (12, 2), (12, 3), (12, 4), (12, 5), (12, 6), (12, 7)]
abbrev AS_X6_readIntoE : List Nat := [2, 3, 4, 5, 6, 99]
set_option maxHeartbeats 4000000 in
set_option maxRecDepth 100000 in
theorem c_X6_readIntoE (l : Launch) (G : Gt) (σ : Sg) {j2 : Nat} (hj2 : j2 < 28) (hI : Inv σ) : Mc l G yX6_readInto cX6_readInto 4 (some .boolean) 7 158 8 24 [.ref (G.1 12 0), .ref (G.1 1 j2)] σ (PI fun r τ => Inv τ ∧ Fr MS_X6_readIntoE AS_X6_readIntoE σ τ ∧ IV r 0 1 ∧ (gV τ 12 0 1).toInt = 0) := by
  refine Mc.of (L0 := [some (.ref (G.1 12 0)), some (.ref (G.1 1 j2)), none, none]) (by decide) (Nat.le_of_ble_eq_true rfl) rfl ?_
  intro p e s m args below meth c C hr hlk
  have C : Cx p s m args c cX6_readInto 4 "LeanTower$Reader" := C
  have k0 : (0 : Int32).toInt = 0 := by decide
  have k1 : (1 : Int32).toInt = 1 := by decide
  have J84 : ∀ (τ : Sg) (y2 : Int32), Inv τ → Fr MS_X6_readIntoE AS_X6_readIntoE σ τ → IV y2 0 1 → MW p l e { frames := 7, cells := 8, slots := 24, locals := 158 } s m args below meth c (MQ below (QP G (PI fun r τ => Inv τ ∧ Fr MS_X6_readIntoE AS_X6_readIntoE σ τ ∧ IV r 0 1 ∧ (gV τ 12 0 1).toInt = 0)) args s 8 24 (aG G)) 4 G 8 24 84 [some (.ref (G.1 12 0)), none, some (.int y2), none] [] τ := by
    intro τ y2 iτ fτ b_y2
    have u1 : IV (gV τ 12 0 1) 0 400 := iτ.1 12 0 1
    refine m_iload_n C dX6_readInto_84 rfl rfl ?_
    refine m_if_eq (tgt := 107) C dX6_readInto_85 (by decide) (fun c2 => ?_) (fun c2 => ?_)
    · have f3 : y2.toInt = 0 := by
        have q : _ := c2
        simp only [ti_nle, ti_nlt, ti_le, ti_lt, ti_eq, ti_ne, Classical.not_not, kt_0] at q
        omega
      have b4 : IV y2 0 0 := ⟨by have q1 := b_y2; have q2 := kc_0; omega, by have q1 := b_y2; have q2 := kc_0; omega⟩
      refine m_iconst (v := 0) C dX6_readInto_107 (by decide) ?_
      refine m_istore_n (L1 := [some (.ref (G.1 12 0)), none, some (.int 0), none]) C dX6_readInto_108 rfl (by decide) rfl rfl ?_
      refine m_aload_n C dX6_readInto_109 rfl rfl ?_
      refine m_iconst (v := 0) C dX6_readInto_110 (by decide) ?_
      refine p_12_1 C q1_38 dX6_readInto_111 ?_
      refine m_tops (fun τ5 eτ5 => ?_)
      have i6 : Inv τ5 := eτ5 ▸ Inv.put iτ (by decide) (iv_wk kc_0 (by decide))
      have f7 : Fr MS_X6_readIntoE AS_X6_readIntoE σ τ5 := eτ5 ▸ Fr.put (fτ) (Or.inl (by decide))
      refine m_iload_n C dX6_readInto_114 rfl rfl ?_
      have q8 : (gV τ5 12 0 1).toInt = 0 := (congrArg Int32.toInt (show (gV τ5 12 0 1) = 0 from (show gV τ5 12 0 1 = 0 from gV_put eτ5 (gV_self _ _ _ _ _)))).trans kt_0
      exact m_zret C hr rfl hlk (by decide) (by decide) dX6_readInto_115 ⟨_, rfl, i6, f7, (iv_wk kc_0 (by decide)), (by omega)⟩
    · have f9 : y2.toInt ≠ 0 := by
        have q : _ := c2
        simp only [ti_nle, ti_nlt, ti_le, ti_lt, ti_eq, ti_ne, Classical.not_not, kt_0] at q
        omega
      have b10 : IV y2 1 1 := ⟨by have q1 := b_y2; have q2 := kc_0; omega, by have q1 := b_y2; have q2 := kc_0; omega⟩
      refine m_aload_n C dX6_readInto_88 rfl rfl ?_
      refine g_12_6 C q1_46 dX6_readInto_89 ?_
      refine m_topi (fun x11 ex11 => ?_)
      refine m_if_eq (tgt := 103) C dX6_readInto_92 (by decide) (fun c12 => ?_) (fun c12 => ?_)
      · have f13 : x11.toInt = 0 := by
          have q : _ := c12
          simp only [ti_nle, ti_nlt, ti_le, ti_lt, ti_eq, ti_ne, Classical.not_not, kt_0] at q
          omega
        have b14 : IV x11 0 0 := ⟨by have q1 := (iv_any x11); have q2 := kc_0; omega, by have q1 := (iv_any x11); have q2 := kc_0; omega⟩
        refine m_iconst (v := 1) C dX6_readInto_103 (by decide) ?_
        refine m_goto (tgt := 108) C dX6_readInto_104 (by decide) ?_
        refine m_istore_n (L1 := [some (.ref (G.1 12 0)), none, some (.int 1), none]) C dX6_readInto_108 rfl (by decide) rfl rfl ?_
        refine m_aload_n C dX6_readInto_109 rfl rfl ?_
        refine m_iconst (v := 0) C dX6_readInto_110 (by decide) ?_
        refine p_12_1 C q1_38 dX6_readInto_111 ?_
        refine m_tops (fun τ15 eτ15 => ?_)
        have i16 : Inv τ15 := eτ15 ▸ Inv.put iτ (by decide) (iv_wk kc_0 (by decide))
        have f17 : Fr MS_X6_readIntoE AS_X6_readIntoE σ τ15 := eτ15 ▸ Fr.put (fτ) (Or.inl (by decide))
        refine m_iload_n C dX6_readInto_114 rfl rfl ?_
        have q18 : (gV τ15 12 0 1).toInt = 0 := (congrArg Int32.toInt (show (gV τ15 12 0 1) = 0 from (show gV τ15 12 0 1 = 0 from gV_put eτ15 (gV_self _ _ _ _ _)))).trans kt_0
        exact m_zret C hr rfl hlk (by decide) (by decide) dX6_readInto_115 ⟨_, rfl, i16, f17, (iv_wk kc_1 (by decide)), (by omega)⟩
      · have f19 : x11.toInt ≠ 0 := by
          have q : _ := c12
          simp only [ti_nle, ti_nlt, ti_le, ti_lt, ti_eq, ti_ne, Classical.not_not, kt_0] at q
          omega
        refine m_aload_n C dX6_readInto_95 rfl rfl ?_
        refine m_iconst (v := 1) C dX6_readInto_96 (by decide) ?_
        refine m_callV (n := 1) (ci := 5) (st := []) C (c_X6_refuse l G τ (1) iτ ) (by decide) (by decide) rfl rfl rfl q2_141 q2_138 q2_140 q0_8 q1_2 (by decide +kernel) rfl (by decide) (by decide) rfl (Nat.le_of_ble_eq_true rfl) dX6_readInto_97 ?_
        rintro _ τ20 ⟨x23, rfl, i21, f22, b24⟩
        have g25 : Fr MS_X6_readIntoE AS_X6_readIntoE σ τ20 := Fr.call (fτ) f22 (by decide)
        show MW p l e _ s m args below meth c _ 4 G 8 24 100 [some (.ref (G.1 12 0)), none, some (.int y2), none] [.int x23] τ20
        refine m_if_eq (tgt := 107) C dX6_readInto_100 (by decide) (fun c27 => ?_) (fun c27 => ?_)
        · have f28 : x23.toInt = 0 := by
            have q : _ := c27
            simp only [ti_nle, ti_nlt, ti_le, ti_lt, ti_eq, ti_ne, Classical.not_not, kt_0] at q
            omega
          refine m_iconst (v := 0) C dX6_readInto_107 (by decide) ?_
          refine m_istore_n (L1 := [some (.ref (G.1 12 0)), none, some (.int 0), none]) C dX6_readInto_108 rfl (by decide) rfl rfl ?_
          refine m_aload_n C dX6_readInto_109 rfl rfl ?_
          refine m_iconst (v := 0) C dX6_readInto_110 (by decide) ?_
          refine p_12_1 C q1_38 dX6_readInto_111 ?_
          refine m_tops (fun τ29 eτ29 => ?_)
          have i30 : Inv τ29 := eτ29 ▸ Inv.put i21 (by decide) (iv_wk kc_0 (by decide))
          have f31 : Fr MS_X6_readIntoE AS_X6_readIntoE σ τ29 := eτ29 ▸ Fr.put (g25) (Or.inl (by decide))
          refine m_iload_n C dX6_readInto_114 rfl rfl ?_
          have q32 : (gV τ29 12 0 1).toInt = 0 := (congrArg Int32.toInt (show (gV τ29 12 0 1) = 0 from (show gV τ29 12 0 1 = 0 from gV_put eτ29 (gV_self _ _ _ _ _)))).trans kt_0
          exact m_zret C hr rfl hlk (by decide) (by decide) dX6_readInto_115 ⟨_, rfl, i30, f31, (iv_wk kc_0 (by decide)), (by omega)⟩
        · exfalso
          have q : _ := c27
          simp only [ti_nle, ti_nlt, ti_le, ti_lt, ti_eq, ti_ne, Classical.not_not, kt_0] at q
          have q1 := b24; have q2 := kc_0; omega
  have J54 : ∀ (n : Nat) (τ : Sg) (y2 : Int32) (y3 : Int32), Inv τ → Fr MS_X6_readIntoE AS_X6_readIntoE σ τ → IV y2 0 1 → IV y3 0 5 → (5 - y3.toInt).toNat < n → MW p l e { frames := 7, cells := 8, slots := 24, locals := 158 } s m args below meth c (MQ below (QP G (PI fun r τ => Inv τ ∧ Fr MS_X6_readIntoE AS_X6_readIntoE σ τ ∧ IV r 0 1 ∧ (gV τ 12 0 1).toInt = 0)) args s 8 24 (aG G)) 4 G 8 24 54 [some (.ref (G.1 12 0)), some (.ref (G.1 1 j2)), some (.int y2), some (.int y3)] [] τ := by
    intro n
    induction n with
    | zero => intro τ y2 y3 iτ fτ b_y2 b_y3 hm; exact absurd hm (Nat.not_lt_zero _)
    | succ n ih54 =>
      intro τ y2 y3 iτ fτ b_y2 b_y3 hm54
      have u34 : IV (gV τ 12 0 1) 0 400 := iτ.1 12 0 1
      refine m_iload_n C dX6_readInto_54 rfl rfl ?_
      refine m_if_eq (tgt := 84) C dX6_readInto_55 (by decide) (fun c35 => ?_) (fun c35 => ?_)
      · have f36 : y2.toInt = 0 := by
          have q : _ := c35
          simp only [ti_nle, ti_nlt, ti_le, ti_lt, ti_eq, ti_ne, Classical.not_not, kt_0] at q
          omega
        have b37 : IV y2 0 0 := ⟨by have q1 := b_y2; have q2 := kc_0; omega, by have q1 := b_y2; have q2 := kc_0; omega⟩
        refine m_widen (c2 := 8) (s2 := 24) (by omega) (by omega) ?_
        refine m_sub (L1 := [some (.ref (G.1 12 0)), none, some (.int y2), none]) ⟨rfl, ⟨rfl, trivial⟩⟩ ?_
        exact J84 τ y2 iτ fτ (iv_wk b37 (by decide))
      · have f38 : y2.toInt ≠ 0 := by
          have q : _ := c35
          simp only [ti_nle, ti_nlt, ti_le, ti_lt, ti_eq, ti_ne, Classical.not_not, kt_0] at q
          omega
        have b39 : IV y2 1 1 := ⟨by have q1 := b_y2; have q2 := kc_0; omega, by have q1 := b_y2; have q2 := kc_0; omega⟩
        refine m_iload_n C dX6_readInto_58 rfl rfl ?_
        refine m_iconst (v := 4) C dX6_readInto_59 (by decide) ?_
        refine m_icmp_gt (tgt := 84) C dX6_readInto_60 (by decide) (fun c40 => ?_) (fun c40 => ?_)
        · have f41 : 4 < y3.toInt := by
            have q : _ := c40
            simp only [ti_nle, ti_nlt, ti_le, ti_lt, ti_eq, ti_ne, Classical.not_not, kt_4] at q
            omega
          have b42 : IV y3 5 5 := ⟨by have q1 := kc_4; have q2 := b_y3; omega, by have q1 := kc_4; have q2 := b_y3; omega⟩
          refine m_widen (c2 := 8) (s2 := 24) (by omega) (by omega) ?_
          refine m_sub (L1 := [some (.ref (G.1 12 0)), none, some (.int y2), none]) ⟨rfl, ⟨rfl, trivial⟩⟩ ?_
          exact J84 τ y2 iτ fτ (iv_wk b39 (by decide))
        · have f43 : y3.toInt ≤ 4 := by
            have q : _ := c40
            simp only [ti_nle, ti_nlt, ti_le, ti_lt, ti_eq, ti_ne, Classical.not_not, kt_4] at q
            omega
          have b44 : IV y3 0 4 := ⟨by have q1 := b_y3; have q2 := kc_4; omega, by have q1 := b_y3; have q2 := kc_4; omega⟩
          refine m_aload_n C dX6_readInto_63 rfl rfl ?_
          refine s_ldc (w := 7) (tx := "") C rfl (by decide) rfl dX6_readInto_64 ?_
          refine m_callV (n := 1) (ci := 5) (st := []) C (c_X6_isWord l G τ (w := 7) (by decide) iτ ) (by decide) (by decide) rfl rfl rfl q2_89 q2_86 q2_88 q0_7 q1_2 (by decide +kernel) rfl (by decide) (by decide) rfl (Nat.le_of_ble_eq_true rfl) dX6_readInto_66 ?_
          rintro _ τ45 ⟨x48, rfl, i46, f47, b49⟩
          have g50 : Fr MS_X6_readIntoE AS_X6_readIntoE σ τ45 := Fr.call (fτ) f47 (by decide)
          show MW p l e _ s m args below meth c _ 4 G 8 24 69 [some (.ref (G.1 12 0)), some (.ref (G.1 1 j2)), some (.int y2), some (.int y3)] [.int x48] τ45
          refine m_if_eq (tgt := 84) C dX6_readInto_69 (by decide) (fun c52 => ?_) (fun c52 => ?_)
          · have f53 : x48.toInt = 0 := by
              have q : _ := c52
              simp only [ti_nle, ti_nlt, ti_le, ti_lt, ti_eq, ti_ne, Classical.not_not, kt_0] at q
              omega
            have b54 : IV x48 0 0 := ⟨by have q1 := b49; have q2 := kc_0; omega, by have q1 := b49; have q2 := kc_0; omega⟩
            refine m_widen (c2 := 8) (s2 := 24) (by omega) (by omega) ?_
            refine m_sub (L1 := [some (.ref (G.1 12 0)), none, some (.int y2), none]) ⟨rfl, ⟨rfl, trivial⟩⟩ ?_
            have q55 : (gV τ45 12 0 1).toInt = (gV τ 12 0 1).toInt := congrArg Int32.toInt (show (gV τ45 12 0 1) = (gV τ 12 0 1) from (show gV τ45 12 0 1 = (gV τ 12 0 1) from (f47.1 12 0 (1) (by decide) (by decide)).trans rfl))
            exact J84 τ45 y2 i46 g50 (iv_wk b39 (by decide))
          · have f56 : x48.toInt ≠ 0 := by
              have q : _ := c52
              simp only [ti_nle, ti_nlt, ti_le, ti_lt, ti_eq, ti_ne, Classical.not_not, kt_0] at q
              omega
            have b57 : IV x48 1 1 := ⟨by have q1 := b49; have q2 := kc_0; omega, by have q1 := b49; have q2 := kc_0; omega⟩
            refine m_aload_n C dX6_readInto_72 rfl rfl ?_
            refine m_aload_n C dX6_readInto_73 rfl rfl ?_
            refine m_callV (n := 1) (ci := 5) (st := []) C (c_X6_readStone l G τ45 (j2 := j2) hj2 i46 ) (by decide) (by decide) rfl rfl rfl q3_0 q2_237 q2_239 q0_13 q1_2 (by decide +kernel) rfl (by decide) (by decide) rfl (Nat.le_of_ble_eq_true rfl) dX6_readInto_74 ?_
            rintro _ τ58 ⟨x61, rfl, i59, f60, b62⟩
            have g63 : Fr MS_X6_readIntoE AS_X6_readIntoE σ τ58 := Fr.call (g50) f60 (by decide)
            show MW p l e _ s m args below meth c _ 4 G 8 24 77 [some (.ref (G.1 12 0)), some (.ref (G.1 1 j2)), some (.int y2), some (.int y3)] [.int x61] τ58
            refine m_istore_n (L1 := [some (.ref (G.1 12 0)), some (.ref (G.1 1 j2)), some (.int x61), some (.int y3)]) C dX6_readInto_77 rfl (by decide) rfl rfl ?_
            obtain ⟨x65, ex65⟩ : ∃ y : Int32, y = y3 + 1 := ⟨_, rfl⟩
            have tx65 : x65.toInt = y3.toInt + 1 := by rw [ex65, ti_addv b44 kc_1 (by decide), kt_1]
            have b66 : IV x65 1 5 := by rw [ex65]; exact iv_add b44 kc_1 (by decide)
            refine m_iinc (v := x65) (L1 := [some (.ref (G.1 12 0)), some (.ref (G.1 1 j2)), some (.int x61), some (.int x65)]) C dX6_readInto_78 rfl (by rw [ex65]; rfl) (by decide) rfl rfl ?_
            refine m_goto (tgt := 54) C dX6_readInto_81 (by decide) ?_
            refine m_widen (c2 := 8) (s2 := 24) (by omega) (by omega) ?_
            have q67 : (gV τ58 12 0 1).toInt = (gV τ 12 0 1).toInt := congrArg Int32.toInt (show (gV τ58 12 0 1) = (gV τ 12 0 1) from (show gV τ58 12 0 1 = (gV τ 12 0 1) from (f60.1 12 0 (1) (by decide) (by decide)).trans (show gV τ45 12 0 1 = (gV τ 12 0 1) from (f47.1 12 0 (1) (by decide) (by decide)).trans rfl)))
            exact ih54 τ58 x61 x65 i59 g63 b62 (iv_wk b66 (by decide)) (by have q := hm54; omega)
  have J52 : ∀ (τ : Sg) (y2 : Int32), Inv τ → Fr MS_X6_readIntoE AS_X6_readIntoE σ τ → IV y2 0 1 → MW p l e { frames := 7, cells := 8, slots := 24, locals := 158 } s m args below meth c (MQ below (QP G (PI fun r τ => Inv τ ∧ Fr MS_X6_readIntoE AS_X6_readIntoE σ τ ∧ IV r 0 1 ∧ (gV τ 12 0 1).toInt = 0)) args s 8 24 (aG G)) 4 G 8 24 52 [some (.ref (G.1 12 0)), some (.ref (G.1 1 j2)), some (.int y2), none] [] τ := by
    intro τ y2 iτ fτ b_y2
    have u68 : IV (gV τ 12 0 1) 0 400 := iτ.1 12 0 1
    refine m_iconst (v := 0) C dX6_readInto_52 (by decide) ?_
    refine m_istore_n (L1 := [some (.ref (G.1 12 0)), some (.ref (G.1 1 j2)), some (.int y2), some (.int 0)]) C dX6_readInto_53 rfl (by decide) rfl rfl ?_
    refine m_widen (c2 := 8) (s2 := 24) (by omega) (by omega) ?_
    exact J54 ((5 - (0 : Int32).toInt).toNat + 1) τ y2 0 iτ fτ b_y2 (iv_wk kc_0 (by decide)) (Nat.lt_succ_self _)
  have J21 : ∀ (n : Nat) (τ : Sg) (y2 : Int32) (y3 : Int32), Inv τ → Fr MS_X6_readIntoE AS_X6_readIntoE σ τ → IV y2 0 1 → IV y3 0 8 → (8 - y3.toInt).toNat < n → MW p l e { frames := 7, cells := 8, slots := 24, locals := 158 } s m args below meth c (MQ below (QP G (PI fun r τ => Inv τ ∧ Fr MS_X6_readIntoE AS_X6_readIntoE σ τ ∧ IV r 0 1 ∧ (gV τ 12 0 1).toInt = 0)) args s 8 24 (aG G)) 4 G (y3.toInt.toNat) (3 * y3.toInt.toNat) 21 [some (.ref (G.1 12 0)), some (.ref (G.1 1 j2)), some (.int y2), some (.int y3)] [] τ := by
    intro n
    induction n with
    | zero => intro τ y2 y3 iτ fτ b_y2 b_y3 hm; exact absurd hm (Nat.not_lt_zero _)
    | succ n ih21 =>
      intro τ y2 y3 iτ fτ b_y2 b_y3 hm21
      have u69 : IV (gV τ 12 0 1) 0 400 := iτ.1 12 0 1
      refine m_iload_n C dX6_readInto_21 rfl rfl ?_
      refine m_if_eq (tgt := 52) C dX6_readInto_22 (by decide) (fun c70 => ?_) (fun c70 => ?_)
      · have f71 : y2.toInt = 0 := by
          have q : _ := c70
          simp only [ti_nle, ti_nlt, ti_le, ti_lt, ti_eq, ti_ne, Classical.not_not, kt_0] at q
          omega
        have b72 : IV y2 0 0 := ⟨by have q1 := b_y2; have q2 := kc_0; omega, by have q1 := b_y2; have q2 := kc_0; omega⟩
        refine m_widen (c2 := 8) (s2 := 24) (by omega) (by omega) ?_
        refine m_sub (L1 := [some (.ref (G.1 12 0)), some (.ref (G.1 1 j2)), some (.int y2), none]) ⟨rfl, ⟨rfl, ⟨rfl, trivial⟩⟩⟩ ?_
        exact J52 τ y2 iτ fτ (iv_wk b72 (by decide))
      · have f73 : y2.toInt ≠ 0 := by
          have q : _ := c70
          simp only [ti_nle, ti_nlt, ti_le, ti_lt, ti_eq, ti_ne, Classical.not_not, kt_0] at q
          omega
        have b74 : IV y2 1 1 := ⟨by have q1 := b_y2; have q2 := kc_0; omega, by have q1 := b_y2; have q2 := kc_0; omega⟩
        refine m_iload_n C dX6_readInto_25 rfl rfl ?_
        refine m_bipush (v := 7) C dX6_readInto_26 (by decide) ?_
        refine m_icmp_gt (tgt := 52) C dX6_readInto_28 (by decide) (fun c75 => ?_) (fun c75 => ?_)
        · have f76 : 7 < y3.toInt := by
            have q : _ := c75
            simp only [ti_nle, ti_nlt, ti_le, ti_lt, ti_eq, ti_ne, Classical.not_not, kt_7] at q
            omega
          have b77 : IV y3 8 8 := ⟨by have q1 := kc_7; have q2 := b_y3; omega, by have q1 := kc_7; have q2 := b_y3; omega⟩
          refine m_widen (c2 := 8) (s2 := 24) (by omega) (by omega) ?_
          refine m_sub (L1 := [some (.ref (G.1 12 0)), some (.ref (G.1 1 j2)), some (.int y2), none]) ⟨rfl, ⟨rfl, ⟨rfl, trivial⟩⟩⟩ ?_
          exact J52 τ y2 iτ fτ (iv_wk b74 (by decide))
        · have f78 : y3.toInt ≤ 7 := by
            have q : _ := c75
            simp only [ti_nle, ti_nlt, ti_le, ti_lt, ti_eq, ti_ne, Classical.not_not, kt_7] at q
            omega
          have b79 : IV y3 0 7 := ⟨by have q1 := b_y3; have q2 := kc_7; omega, by have q1 := b_y3; have q2 := kc_7; omega⟩
          refine m_aload_n C dX6_readInto_31 rfl rfl ?_
          refine s_ldc (w := 1) (tx := "") C rfl (by decide) rfl dX6_readInto_32 ?_
          refine m_callV (n := 1) (ci := 5) (st := []) C (c_X6_isWord l G τ (w := 1) (by decide) iτ ) (by decide) (by decide) rfl rfl rfl q2_89 q2_86 q2_88 q0_7 q1_2 (by decide +kernel) rfl (by decide) ⟨by show (y3.toInt.toNat) + 0 ≤ 8; omega, by show (3 * y3.toInt.toNat) + 0 ≤ 24; omega⟩ rfl (Nat.le_of_ble_eq_true rfl) dX6_readInto_34 ?_
          rintro _ τ80 ⟨x83, rfl, i81, f82, b84⟩
          have g85 : Fr MS_X6_readIntoE AS_X6_readIntoE σ τ80 := Fr.call (fτ) f82 (by decide)
          show MW p l e _ s m args below meth c _ 4 G (y3.toInt.toNat) (3 * y3.toInt.toNat) 37 [some (.ref (G.1 12 0)), some (.ref (G.1 1 j2)), some (.int y2), some (.int y3)] [.int x83] τ80
          refine m_if_eq (tgt := 52) C dX6_readInto_37 (by decide) (fun c87 => ?_) (fun c87 => ?_)
          · have f88 : x83.toInt = 0 := by
              have q : _ := c87
              simp only [ti_nle, ti_nlt, ti_le, ti_lt, ti_eq, ti_ne, Classical.not_not, kt_0] at q
              omega
            have b89 : IV x83 0 0 := ⟨by have q1 := b84; have q2 := kc_0; omega, by have q1 := b84; have q2 := kc_0; omega⟩
            refine m_widen (c2 := 8) (s2 := 24) (by omega) (by omega) ?_
            refine m_sub (L1 := [some (.ref (G.1 12 0)), some (.ref (G.1 1 j2)), some (.int y2), none]) ⟨rfl, ⟨rfl, ⟨rfl, trivial⟩⟩⟩ ?_
            have q90 : (gV τ80 12 0 1).toInt = (gV τ 12 0 1).toInt := congrArg Int32.toInt (show (gV τ80 12 0 1) = (gV τ 12 0 1) from (show gV τ80 12 0 1 = (gV τ 12 0 1) from (f82.1 12 0 (1) (by decide) (by decide)).trans rfl))
            exact J52 τ80 y2 i81 g85 (iv_wk b74 (by decide))
          · have f91 : x83.toInt ≠ 0 := by
              have q : _ := c87
              simp only [ti_nle, ti_nlt, ti_le, ti_lt, ti_eq, ti_ne, Classical.not_not, kt_0] at q
              omega
            have b92 : IV x83 1 1 := ⟨by have q1 := b84; have q2 := kc_0; omega, by have q1 := b84; have q2 := kc_0; omega⟩
            refine m_aload_n C dX6_readInto_40 rfl rfl ?_
            refine m_aload_n C dX6_readInto_41 rfl rfl ?_
            refine m_callV (n := 1) (ci := 5) (st := []) C (c_X6_readPerson l G τ80 (j2 := j2) hj2 i81 ) (by decide) (by decide) rfl rfl rfl q2_154 q2_151 q2_153 q0_11 q1_2 (by decide +kernel) rfl (by decide) ⟨by show (y3.toInt.toNat) + 1 ≤ 8; omega, by show (3 * y3.toInt.toNat) + 3 ≤ 24; omega⟩ rfl (Nat.le_of_ble_eq_true rfl) dX6_readInto_42 ?_
            rintro _ τ93 ⟨x96, rfl, i94, f95, b97⟩
            have g98 : Fr MS_X6_readIntoE AS_X6_readIntoE σ τ93 := Fr.call (g85) f95 (by decide)
            show MW p l e _ s m args below meth c _ 4 G ((y3.toInt.toNat) + 1) ((3 * y3.toInt.toNat) + 3) 45 [some (.ref (G.1 12 0)), some (.ref (G.1 1 j2)), some (.int y2), some (.int y3)] [.int x96] τ93
            refine m_istore_n (L1 := [some (.ref (G.1 12 0)), some (.ref (G.1 1 j2)), some (.int x96), some (.int y3)]) C dX6_readInto_45 rfl (by decide) rfl rfl ?_
            obtain ⟨x100, ex100⟩ : ∃ y : Int32, y = y3 + 1 := ⟨_, rfl⟩
            have tx100 : x100.toInt = y3.toInt + 1 := by rw [ex100, ti_addv b79 kc_1 (by decide), kt_1]
            have b101 : IV x100 1 8 := by rw [ex100]; exact iv_add b79 kc_1 (by decide)
            refine m_iinc (v := x100) (L1 := [some (.ref (G.1 12 0)), some (.ref (G.1 1 j2)), some (.int x96), some (.int x100)]) C dX6_readInto_46 rfl (by rw [ex100]; rfl) (by decide) rfl rfl ?_
            refine m_goto (tgt := 21) C dX6_readInto_49 (by decide) ?_
            refine m_widen (c2 := (x100.toInt.toNat)) (s2 := (3 * x100.toInt.toNat)) (by omega) (by omega) ?_
            have q102 : (gV τ93 12 0 1).toInt = (gV τ 12 0 1).toInt := congrArg Int32.toInt (show (gV τ93 12 0 1) = (gV τ 12 0 1) from (show gV τ93 12 0 1 = (gV τ 12 0 1) from (f95.1 12 0 (1) (by decide) (by decide)).trans (show gV τ80 12 0 1 = (gV τ 12 0 1) from (f82.1 12 0 (1) (by decide) (by decide)).trans rfl)))
            exact ih21 τ93 x96 x100 i94 g98 b97 (iv_wk b101 (by decide)) (by have q := hm21; omega)
  have u103 : IV (gV σ 12 0 1) 0 400 := hI.1 12 0 1
  refine m_aload_n C dX6_readInto_0 rfl rfl ?_
  refine m_callV (n := 0) (ci := 7) (st := []) C (c_X8_clear l G σ (j := j2) hj2  hI ) (by decide) hj2 rfl rfl rfl q2_59 q2_56 q2_57 q2_58 q1_3 (by decide +kernel) rfl (by decide) (by decide) rfl (Nat.le_of_ble_eq_true rfl) dX6_readInto_1 ?_
  rintro _ τ104 ⟨rfl, i105, f106⟩
  have g109 : Fr MS_X6_readIntoE AS_X6_readIntoE σ τ104 := Fr.call (Fr.rf) f106 (by decide)
  show MW p l e _ s m args below meth c _ 4 G 0 0 4 [some (.ref (G.1 12 0)), some (.ref (G.1 1 j2)), none, none] [] τ104
  refine m_aload_n C dX6_readInto_4 rfl rfl ?_
  refine m_iconst (v := 0) C dX6_readInto_5 (by decide) ?_
  refine p_12_5 C q1_45 dX6_readInto_6 ?_
  refine m_tops (fun τ111 eτ111 => ?_)
  have i112 : Inv τ111 := eτ111 ▸ Inv.put i105 (by decide) (iv_wk kc_0 (by decide))
  have f113 : Fr MS_X6_readIntoE AS_X6_readIntoE σ τ111 := eτ111 ▸ Fr.put (g109) (Or.inl (by decide))
  refine m_aload_n C dX6_readInto_9 rfl rfl ?_
  refine m_callV (n := 0) (ci := 5) (st := []) C (c_X6_next l G τ111  i112 ) (by decide) (by decide) rfl rfl rfl q2_63 q2_60 q2_62 q0_3 q1_2 (by decide +kernel) rfl (by decide) (by decide) rfl (Nat.le_of_ble_eq_true rfl) dX6_readInto_10 ?_
  rintro _ τ114 ⟨rfl, i115, f116⟩
  have g119 : Fr MS_X6_readIntoE AS_X6_readIntoE σ τ114 := Fr.call (f113) f116 (by decide)
  show MW p l e _ s m args below meth c _ 4 G 0 0 13 [some (.ref (G.1 12 0)), some (.ref (G.1 1 j2)), none, none] [] τ114
  refine m_aload_n C dX6_readInto_13 rfl rfl ?_
  refine m_aload_n C dX6_readInto_14 rfl rfl ?_
  refine m_callV (n := 1) (ci := 5) (st := []) C (c_X6_readLaw l G τ114 (j2 := j2) hj2 i115 ) (by decide) (by decide) rfl rfl rfl q2_84 q2_81 q2_83 q0_6 q1_2 (by decide +kernel) rfl (by decide) (by decide) rfl (Nat.le_of_ble_eq_true rfl) dX6_readInto_15 ?_
  rintro _ τ121 ⟨x124, rfl, i122, f123, b125⟩
  have g126 : Fr MS_X6_readIntoE AS_X6_readIntoE σ τ121 := Fr.call (g119) f123 (by decide)
  show MW p l e _ s m args below meth c _ 4 G 0 0 18 [some (.ref (G.1 12 0)), some (.ref (G.1 1 j2)), none, none] [.int x124] τ121
  refine m_istore_n (L1 := [some (.ref (G.1 12 0)), some (.ref (G.1 1 j2)), some (.int x124), none]) C dX6_readInto_18 rfl (by decide) rfl rfl ?_
  refine m_iconst (v := 0) C dX6_readInto_19 (by decide) ?_
  refine m_istore_n (L1 := [some (.ref (G.1 12 0)), some (.ref (G.1 1 j2)), some (.int x124), some (.int 0)]) C dX6_readInto_20 rfl (by decide) rfl rfl ?_
  refine m_widen (c2 := ((0 : Int32).toInt.toNat)) (s2 := (3 * (0 : Int32).toInt.toNat)) (by omega) (by omega) ?_
  have q128 : (gV τ121 12 0 1).toInt = (gV σ 12 0 1).toInt := congrArg Int32.toInt (show (gV τ121 12 0 1) = (gV σ 12 0 1) from (show gV τ121 12 0 1 = (gV σ 12 0 1) from (f123.1 12 0 (1) (by decide) (by decide)).trans (show gV τ114 12 0 1 = (gV σ 12 0 1) from (f116.1 12 0 (1) (by decide) (by decide)).trans (show gV τ111 12 0 1 = (gV σ 12 0 1) from gV_put eτ111 (show gV τ104 12 0 1 = (gV σ 12 0 1) from (f106.1 12 0 (1) (by decide) (by decide)).trans rfl)))))
  exact J21 ((8 - (0 : Int32).toInt).toNat + 1) τ121 x124 0 i122 g126 b125 (iv_wk kc_0 (by decide)) (Nat.lt_succ_self _)

abbrev MS_X11_towerE : List (Nat × Nat) := [(0, 6), (1, 0), (1, 1), (1, 2), (1, 3), (1, 9), (1, 10), (1, 11), (12, 1), (12, 2), (12, 3), (12, 4), (12, 5), (12, 6), (12, 7)]
abbrev AS_X11_towerE : List Nat := [2, 3, 4, 5, 6, 99]
set_option maxHeartbeats 4000000 in
set_option maxRecDepth 100000 in
theorem c_X11_towerE (l : Launch) (G : Gt) (σ : Sg) (hI : Inv σ) : Mc l G yX11_tower cX11_tower 1 (some .int) 8 181 8 24 [.ref (G.1 0 0)] σ (PI fun r τ => Inv τ ∧ Fr MS_X11_towerE AS_X11_towerE σ τ ∧ IV r (-2147483648) 2147483647 ∧ (gV τ 12 0 1).toInt = 0) := by
  refine Mc.of (L0 := [some (.ref (G.1 0 0))]) (by decide) (Nat.le_of_ble_eq_true rfl) rfl ?_
  intro p e s m args below meth c C hr hlk
  have C : Cx p s m args c cX11_tower 1 "LeanTower" := C
  have k0 : (0 : Int32).toInt = 0 := by decide
  have k1 : (1 : Int32).toInt = 1 := by decide
  have u1 : IV (gV σ 12 0 1) 0 400 := hI.1 12 0 1
  refine m_aload_n C dX11_tower_0 rfl rfl ?_
  refine g_0_1 C q1_187 dX11_tower_1 ?_
  refine m_aload_n C dX11_tower_4 rfl rfl ?_
  refine g_0_3 C q1_189 dX11_tower_5 ?_
  refine m_callV (n := 1) (ci := 5) (st := []) C (c_X6_readIntoE l G σ (j2 := 1) (by decide) hI ) (by decide) (by decide) rfl rfl rfl q2_55 q2_52 q2_53 q2_54 q1_2 (by decide +kernel) rfl (by decide) (by decide) rfl (Nat.le_of_ble_eq_true rfl) dX11_tower_8 ?_
  rintro _ τ2 ⟨x5, rfl, i3, f4, b6, h8⟩
  have g7 : Fr MS_X11_towerE AS_X11_towerE σ τ2 := Fr.call (Fr.rf) f4 (by decide)
  have u9 : IV (gV τ2 12 0 1) 0 400 := i3.1 12 0 1
  show MW p l e _ s m args below meth c _ 1 G 8 24 11 [some (.ref (G.1 0 0))] [.int x5] τ2
  refine m_if_ne (tgt := 25) C dX11_tower_11 (by decide) (fun c10 => ?_) (fun c10 => ?_)
  · have f11 : x5.toInt ≠ 0 := by
      have q : _ := c10
      simp only [ti_nle, ti_nlt, ti_le, ti_lt, ti_eq, ti_ne, Classical.not_not, kt_0] at q
      omega
    have b12 : IV x5 1 1 := ⟨by have q1 := b6; have q2 := kc_0; omega, by have q1 := b6; have q2 := kc_0; omega⟩
    refine m_aload_n C dX11_tower_25 rfl rfl ?_
    refine g_0_2 C q1_188 dX11_tower_26 ?_
    refine m_aload_n C dX11_tower_29 rfl rfl ?_
    refine g_0_3 C q1_189 dX11_tower_30 ?_
    refine m_callV (n := 1) (ci := 7) (st := []) C (c_X8_takeFrom l G τ2 (j := 0) (by decide) (j2 := 1) (by decide) i3 ) (by decide) (by decide) rfl rfl rfl q3_9 q3_6 q3_7 q3_8 q1_3 (by decide +kernel) rfl (by decide) (by decide) rfl (Nat.le_of_ble_eq_true rfl) dX11_tower_33 ?_
    rintro _ τ13 ⟨rfl, i14, f15⟩
    have g18 : Fr MS_X11_towerE AS_X11_towerE σ τ13 := Fr.call (g7) f15 (by decide)
    show MW p l e _ s m args below meth c _ 1 G 8 24 36 [some (.ref (G.1 0 0))] [] τ13
    refine m_aload_n C dX11_tower_36 rfl rfl ?_
    refine m_iconst (v := 0) C dX11_tower_37 (by decide) ?_
    refine p_0_6 C q1_192 dX11_tower_38 ?_
    refine m_tops (fun τ20 eτ20 => ?_)
    have i21 : Inv τ20 := eτ20 ▸ Inv.put i14 (by decide) (iv_wk kc_0 (by decide))
    have f22 : Fr MS_X11_towerE AS_X11_towerE σ τ20 := eτ20 ▸ Fr.put (g18) (Or.inl (by decide))
    refine m_aload_n C dX11_tower_41 rfl rfl ?_
    refine g_0_2 C q1_188 dX11_tower_42 ?_
    refine g_1_2 C (by decide) q1_82 dX11_tower_45 ?_
    refine m_topi (fun x23 ex23 => ?_)
    have b24 : IV x23 0 7 := by rw [ex23]; exact i21.1 1 0 2
    have q25 : (gV τ20 12 0 1).toInt = (gV τ2 12 0 1).toInt := congrArg Int32.toInt (show (gV τ20 12 0 1) = (gV τ2 12 0 1) from (show gV τ20 12 0 1 = (gV τ2 12 0 1) from gV_put eτ20 (show gV τ13 12 0 1 = (gV τ2 12 0 1) from (f15.1 12 0 (1) (by decide) (by decide)).trans rfl)))
    exact m_iret C hr hlk (by decide) (by decide) dX11_tower_48 ⟨_, rfl, i21, f22, (iv_wk b24 (by decide)), (by omega)⟩
  · have f26 : x5.toInt = 0 := by
      have q : _ := c10
      simp only [ti_nle, ti_nlt, ti_le, ti_lt, ti_eq, ti_ne, Classical.not_not, kt_0] at q
      omega
    have b27 : IV x5 0 0 := ⟨by have q1 := b6; have q2 := kc_0; omega, by have q1 := b6; have q2 := kc_0; omega⟩
    refine m_ldc (v := (-1000100)) C dX11_tower_14 q3_5 ?_
    refine m_aload_n C dX11_tower_16 rfl rfl ?_
    refine g_0_1 C q1_187 dX11_tower_17 ?_
    refine g_12_3 C q1_42 dX11_tower_20 ?_
    refine m_topi (fun x28 ex28 => ?_)
    refine m_isub C dX11_tower_23 ?_
    refine m_topi (fun x29 ex29 => ?_)
    exact m_iret C hr hlk (by decide) (by decide) dX11_tower_24 ⟨_, rfl, i3, g7, (iv_any x29), (by omega)⟩

abbrev MS_X12_towerE : List (Nat × Nat) := [(22, 6), (22, 7), (22, 9), (22, 11), (22, 12), (22, 13), (22, 15), (22, 16)]
abbrev AS_X12_towerE : List Nat := [23]
set_option maxHeartbeats 4000000 in
set_option maxRecDepth 100000 in
theorem c_X12_towerE (l : Launch) (G : Gt) (σ : Sg) (hI : Inv σ) : Mc l G yX12_tower cX12_tower 2 (some .int) 4 92 0 0 [.ref (G.1 22 0)] σ (PI fun r τ => Inv τ ∧ Fr MS_X12_towerE AS_X12_towerE σ τ ∧ IV r (-2147483648) 2147483647 ∧ (gV τ 22 0 6).toInt = 0) := by
  refine Mc.of (L0 := [some (.ref (G.1 22 0)), none]) (by decide) (Nat.le_of_ble_eq_true rfl) rfl ?_
  intro p e s m args below meth c C hr hlk
  have C : Cx p s m args c cX12_tower 2 "LeanTowerModel" := C
  have k0 : (0 : Int32).toInt = 0 := by decide
  have k1 : (1 : Int32).toInt = 1 := by decide
  have J131 : ∀ (τ : Sg) (z0 : Int32), Inv τ → Fr MS_X12_towerE AS_X12_towerE σ τ → IV z0 (-2147483648) 2147483647 → (PF τ) → ((z0.toInt = 0 → (gV τ 22 0 16).toInt = 0)) → MW p l e { frames := 4, cells := 0, slots := 0, locals := 92 } s m args below meth c (MQ below (QP G (PI fun r τ => Inv τ ∧ Fr MS_X12_towerE AS_X12_towerE σ τ ∧ IV r (-2147483648) 2147483647 ∧ (gV τ 22 0 6).toInt = 0)) args s 0 0 (aG G)) 2 G 0 0 131 [some (.ref (G.1 22 0)), none] [.int z0, .ref (G.1 22 0)] τ := by
    intro τ z0 iτ fτ b_z0 v_PF n1
    have u2 : IV (gV τ 23 0 152) 0 7 := iτ.1 23 0 152
    have u3 : IV (gV τ 22 0 11) 0 400 := iτ.1 22 0 11
    have u4 : IV (gV τ 22 0 6) 0 400 := iτ.1 22 0 6
    have u5 : IV (gV τ 23 0 188) 0 4 := iτ.1 23 0 188
    refine p_22_16 C q4_132 dX12_tower_131 ?_
    refine m_tops (fun τ6 eτ6 => ?_)
    have i7 : Inv τ6 := eτ6 ▸ Inv.putF iτ (by decide) rfl
    have f8 : Fr MS_X12_towerE AS_X12_towerE σ τ6 := eτ6 ▸ Fr.put (fτ) (Or.inl (by decide))
    have v9 : PF τ6 := v_PF.fault eτ6 (by omega)
    refine m_aload_n C dX12_tower_134 rfl rfl ?_
    refine m_iconst (v := 0) C dX12_tower_135 (by decide) ?_
    refine p_22_6 C q4_122 dX12_tower_136 ?_
    refine m_tops (fun τ10 eτ10 => ?_)
    have i11 : Inv τ10 := eτ10 ▸ Inv.put i7 (by decide) (iv_wk kc_0 (by decide))
    have f12 : Fr MS_X12_towerE AS_X12_towerE σ τ10 := eτ10 ▸ Fr.put (f8) (Or.inl (by decide))
    have v13 : PF τ10 := v9.put eτ10 (Or.inr (by decide)) (Or.inl (by decide))
    refine m_aload_n C dX12_tower_139 rfl rfl ?_
    refine g_22_16 C q4_132 dX12_tower_140 ?_
    refine m_eqs (w := z0) (show gV τ10 22 0 16 = z0 from gV_put eτ10 (show gV τ6 22 0 16 = z0 from gV_put eτ6 (gV_self _ _ _ _ _))) ?_
    refine m_if_eq (tgt := 162) C dX12_tower_143 (by decide) (fun c14 => ?_) (fun c14 => ?_)
    · have f15 : z0.toInt = 0 := by
        have q : _ := c14
        simp only [ti_nle, ti_nlt, ti_le, ti_lt, ti_eq, ti_ne, Classical.not_not, kt_0] at q
        omega
      have b16 : IV z0 0 0 := ⟨by have q1 := b_z0; have q2 := kc_0; omega, by have q1 := b_z0; have q2 := kc_0; omega⟩
      refine m_aload_n C dX12_tower_162 rfl rfl ?_
      refine m_sipush (v := 150) C dX12_tower_163 (by decide) ?_
      refine m_iconst (v := 0) C dX12_tower_166 (by decide) ?_
      have q17 : (gV τ10 23 0 152).toInt = (gV τ 23 0 152).toInt := congrArg Int32.toInt (show (gV τ10 23 0 152) = (gV τ 23 0 152) from (show gV τ10 23 0 152 = (gV τ 23 0 152) from gV_put eτ10 (show gV τ6 23 0 152 = (gV τ 23 0 152) from gV_put eτ6 rfl)))
      have q18 : (gV τ10 22 0 11).toInt = (gV τ 22 0 11).toInt := congrArg Int32.toInt (show (gV τ10 22 0 11) = (gV τ 22 0 11) from (show gV τ10 22 0 11 = (gV τ 22 0 11) from gV_put eτ10 (show gV τ6 22 0 11 = (gV τ 22 0 11) from gV_put eτ6 rfl)))
      have q19 : (gV τ10 23 0 188).toInt = (gV τ 23 0 188).toInt := congrArg Int32.toInt (show (gV τ10 23 0 188) = (gV τ 23 0 188) from (show gV τ10 23 0 188 = (gV τ 23 0 188) from gV_put eτ10 (show gV τ6 23 0 188 = (gV τ 23 0 188) from gV_put eτ6 rfl)))
      have q20 : (gV τ10 22 0 16).toInt = z0.toInt := congrArg Int32.toInt (show (gV τ10 22 0 16) = z0 from (show gV τ10 22 0 16 = z0 from gV_put eτ10 (show gV τ6 22 0 16 = z0 from gV_put eτ6 (gV_self _ _ _ _ _))))
      have q21 : (gV τ10 22 0 6).toInt = 0 := (congrArg Int32.toInt (show (gV τ10 22 0 6) = 0 from (show gV τ10 22 0 6 = 0 from gV_put eτ10 (gV_self _ _ _ _ _)))).trans kt_0
      have q22 := kt_150
      have q23 := kt_0
      refine m_callV (n := 2) (ci := 11) (st := []) C (c_X12_copyAll l G τ10 (150) (0) i11 (iv_wk kc_150 (by decide)) (iv_wk kc_0 (by decide)) (by omega) (by omega) (by omega) (Or.inr (v13 (by omega)))) (by decide) (by decide) rfl rfl rfl q5_38 q5_35 q5_37 q0_35 q1_7 (by decide +kernel) rfl (by decide) (by decide) rfl (Nat.le_of_ble_eq_true rfl) dX12_tower_167 ?_
      rintro _ τ24 ⟨rfl, i25, f26, h30⟩
      have g29 : Fr MS_X12_towerE AS_X12_towerE σ τ24 := Fr.call (f12) f26 (by decide)
      have u32 : IV (gV τ24 23 0 152) 0 7 := i25.1 23 0 152
      have u33 : IV (gV τ24 23 0 188) 0 4 := i25.1 23 0 188
      have q34 : (gV τ24 22 0 11).toInt = (gV τ 22 0 11).toInt := congrArg Int32.toInt (show (gV τ24 22 0 11) = (gV τ 22 0 11) from (show gV τ24 22 0 11 = (gV τ 22 0 11) from (f26.1 22 0 (11) (by decide) (by decide)).trans (show gV τ10 22 0 11 = (gV τ 22 0 11) from gV_put eτ10 (show gV τ6 22 0 11 = (gV τ 22 0 11) from gV_put eτ6 rfl))))
      have q35 : (gV τ24 22 0 16).toInt = z0.toInt := congrArg Int32.toInt (show (gV τ24 22 0 16) = z0 from (show gV τ24 22 0 16 = z0 from (f26.1 22 0 (16) (by decide) (by decide)).trans (show gV τ10 22 0 16 = z0 from gV_put eτ10 (show gV τ6 22 0 16 = z0 from gV_put eτ6 (gV_self _ _ _ _ _)))))
      have q36 : (gV τ24 22 0 6).toInt = 0 := (congrArg Int32.toInt (show (gV τ24 22 0 6) = 0 from (show gV τ24 22 0 6 = 0 from (f26.1 22 0 (6) (by decide) (by decide)).trans (show gV τ10 22 0 6 = 0 from gV_put eτ10 (gV_self _ _ _ _ _))))).trans kt_0
      show MW p l e _ s m args below meth c _ 2 G 0 0 170 [some (.ref (G.1 22 0)), none] [] τ24
      refine m_aload_n C dX12_tower_170 rfl rfl ?_
      refine m_iconst (v := 0) C dX12_tower_171 (by decide) ?_
      refine p_22_9 C q4_125 dX12_tower_172 ?_
      refine m_tops (fun τ37 eτ37 => ?_)
      have i38 : Inv τ37 := eτ37 ▸ Inv.put i25 (by decide) (iv_wk kc_0 (by decide))
      have f39 : Fr MS_X12_towerE AS_X12_towerE σ τ37 := eτ37 ▸ Fr.put (g29) (Or.inl (by decide))
      refine m_aload_n C dX12_tower_175 rfl rfl ?_
      refine g_22_0 C q4_116 dX12_tower_176 ?_
      refine m_iconst (v := 2) C dX12_tower_179 (by decide) ?_
      refine al_23 C kc_2 (by decide) kn_2 dX12_tower_180 ?_
      refine m_topi (fun x40 ex40 => ?_)
      have b41 : IV x40 0 7 := by rw [ex40]; exact i38.1 23 0 2
      have q42 : (gV τ37 22 0 11).toInt = (gV τ 22 0 11).toInt := congrArg Int32.toInt (show (gV τ37 22 0 11) = (gV τ 22 0 11) from (show gV τ37 22 0 11 = (gV τ 22 0 11) from gV_put eτ37 (show gV τ24 22 0 11 = (gV τ 22 0 11) from (f26.1 22 0 (11) (by decide) (by decide)).trans (show gV τ10 22 0 11 = (gV τ 22 0 11) from gV_put eτ10 (show gV τ6 22 0 11 = (gV τ 22 0 11) from gV_put eτ6 rfl)))))
      have q43 : (gV τ37 22 0 16).toInt = z0.toInt := congrArg Int32.toInt (show (gV τ37 22 0 16) = z0 from (show gV τ37 22 0 16 = z0 from gV_put eτ37 (show gV τ24 22 0 16 = z0 from (f26.1 22 0 (16) (by decide) (by decide)).trans (show gV τ10 22 0 16 = z0 from gV_put eτ10 (show gV τ6 22 0 16 = z0 from gV_put eτ6 (gV_self _ _ _ _ _))))))
      have q44 : (gV τ37 22 0 6).toInt = 0 := (congrArg Int32.toInt (show (gV τ37 22 0 6) = 0 from (show gV τ37 22 0 6 = 0 from gV_put eτ37 (show gV τ24 22 0 6 = 0 from (f26.1 22 0 (6) (by decide) (by decide)).trans (show gV τ10 22 0 6 = 0 from gV_put eτ10 (gV_self _ _ _ _ _)))))).trans kt_0
      have q45 : (gV τ37 23 0 152).toInt = (gV τ24 23 0 152).toInt := congrArg Int32.toInt (show (gV τ37 23 0 152) = (gV τ24 23 0 152) from (show gV τ37 23 0 152 = (gV τ24 23 0 152) from gV_put eτ37 rfl))
      have q46 : (gV τ37 23 0 188).toInt = (gV τ24 23 0 188).toInt := congrArg Int32.toInt (show (gV τ37 23 0 188) = (gV τ24 23 0 188) from (show gV τ37 23 0 188 = (gV τ24 23 0 188) from gV_put eτ37 rfl))
      exact m_iret C hr hlk (by decide) (by decide) dX12_tower_181 ⟨_, rfl, i38, f39, (iv_wk b41 (by decide)), (by omega)⟩
    · have f47 : z0.toInt ≠ 0 := by
        have q : _ := c14
        simp only [ti_nle, ti_nlt, ti_le, ti_lt, ti_eq, ti_ne, Classical.not_not, kt_0] at q
        omega
      refine m_aload_n C dX12_tower_146 rfl rfl ?_
      refine m_aload_n C dX12_tower_147 rfl rfl ?_
      refine g_22_16 C q4_132 dX12_tower_148 ?_
      refine m_eqs (w := z0) (show gV τ10 22 0 16 = z0 from gV_put eτ10 (show gV τ6 22 0 16 = z0 from gV_put eτ6 (gV_self _ _ _ _ _))) ?_
      refine p_22_7 C q4_123 dX12_tower_151 ?_
      refine m_tops (fun τ48 eτ48 => ?_)
      have i49 : Inv τ48 := eτ48 ▸ Inv.putF i11 (by decide) rfl
      have f50 : Fr MS_X12_towerE AS_X12_towerE σ τ48 := eτ48 ▸ Fr.put (f12) (Or.inl (by decide))
      have v51 : PF τ48 := v13.put eτ48 (Or.inr (by decide)) (Or.inl (by decide))
      refine m_ldc (v := (-1000100)) C dX12_tower_154 q5_34 ?_
      refine m_aload_n C dX12_tower_156 rfl rfl ?_
      refine g_22_12 C q4_128 dX12_tower_157 ?_
      refine m_topi (fun x52 ex52 => ?_)
      refine m_isub C dX12_tower_160 ?_
      refine m_topi (fun x53 ex53 => ?_)
      have q54 : (gV τ48 23 0 152).toInt = (gV τ 23 0 152).toInt := congrArg Int32.toInt (show (gV τ48 23 0 152) = (gV τ 23 0 152) from (show gV τ48 23 0 152 = (gV τ 23 0 152) from gV_put eτ48 (show gV τ10 23 0 152 = (gV τ 23 0 152) from gV_put eτ10 (show gV τ6 23 0 152 = (gV τ 23 0 152) from gV_put eτ6 rfl))))
      have q55 : (gV τ48 22 0 11).toInt = (gV τ 22 0 11).toInt := congrArg Int32.toInt (show (gV τ48 22 0 11) = (gV τ 22 0 11) from (show gV τ48 22 0 11 = (gV τ 22 0 11) from gV_put eτ48 (show gV τ10 22 0 11 = (gV τ 22 0 11) from gV_put eτ10 (show gV τ6 22 0 11 = (gV τ 22 0 11) from gV_put eτ6 rfl))))
      have q56 : (gV τ48 23 0 188).toInt = (gV τ 23 0 188).toInt := congrArg Int32.toInt (show (gV τ48 23 0 188) = (gV τ 23 0 188) from (show gV τ48 23 0 188 = (gV τ 23 0 188) from gV_put eτ48 (show gV τ10 23 0 188 = (gV τ 23 0 188) from gV_put eτ10 (show gV τ6 23 0 188 = (gV τ 23 0 188) from gV_put eτ6 rfl))))
      have q57 : (gV τ48 22 0 16).toInt = z0.toInt := congrArg Int32.toInt (show (gV τ48 22 0 16) = z0 from (show gV τ48 22 0 16 = z0 from gV_put eτ48 (show gV τ10 22 0 16 = z0 from gV_put eτ10 (show gV τ6 22 0 16 = z0 from gV_put eτ6 (gV_self _ _ _ _ _)))))
      have q58 : (gV τ48 22 0 6).toInt = 0 := (congrArg Int32.toInt (show (gV τ48 22 0 6) = 0 from (show gV τ48 22 0 6 = 0 from gV_put eτ48 (show gV τ10 22 0 6 = 0 from gV_put eτ10 (gV_self _ _ _ _ _))))).trans kt_0
      exact m_iret C hr hlk (by decide) (by decide) dX12_tower_161 ⟨_, rfl, i49, f50, (iv_any x53), (by omega)⟩
  have J107 : ∀ (τ : Sg), Inv τ → Fr MS_X12_towerE AS_X12_towerE σ τ → (PF τ) → MW p l e { frames := 4, cells := 0, slots := 0, locals := 92 } s m args below meth c (MQ below (QP G (PI fun r τ => Inv τ ∧ Fr MS_X12_towerE AS_X12_towerE σ τ ∧ IV r (-2147483648) 2147483647 ∧ (gV τ 22 0 6).toInt = 0)) args s 0 0 (aG G)) 2 G 0 0 107 [some (.ref (G.1 22 0)), none] [] τ := by
    intro τ iτ fτ v_PF
    have u59 : IV (gV τ 23 0 152) 0 7 := iτ.1 23 0 152
    have u60 : IV (gV τ 22 0 11) 0 400 := iτ.1 22 0 11
    have u61 : IV (gV τ 22 0 6) 0 400 := iτ.1 22 0 6
    have u62 : IV (gV τ 23 0 188) 0 4 := iτ.1 23 0 188
    refine m_aload_n C dX12_tower_107 rfl rfl ?_
    refine m_aload_n C dX12_tower_108 rfl rfl ?_
    refine g_22_16 C q4_132 dX12_tower_109 ?_
    refine m_eqs (w := (gV τ 22 0 16)) rfl ?_
    refine m_if_ne (tgt := 127) C dX12_tower_112 (by decide) (fun c63 => ?_) (fun c63 => ?_)
    · have f64 : (gV τ 22 0 16).toInt ≠ 0 := by
        have q : _ := c63
        simp only [ti_nle, ti_nlt, ti_le, ti_lt, ti_eq, ti_ne, Classical.not_not, kt_0] at q
        omega
      refine m_aload_n C dX12_tower_127 rfl rfl ?_
      refine g_22_16 C q4_132 dX12_tower_128 ?_
      refine m_eqs (w := (gV τ 22 0 16)) rfl ?_
      exact J131 τ (gV τ 22 0 16) iτ fτ (iv_any (gV τ 22 0 16)) v_PF (by omega)
    · have f65 : (gV τ 22 0 16).toInt = 0 := by
        have q : _ := c63
        simp only [ti_nle, ti_nlt, ti_le, ti_lt, ti_eq, ti_ne, Classical.not_not, kt_0] at q
        omega
      have b66 : IV (gV τ 22 0 16) 0 0 := ⟨by have q1 := (iv_any (gV τ 22 0 16)); have q2 := kc_0; omega, by have q1 := (iv_any (gV τ 22 0 16)); have q2 := kc_0; omega⟩
      refine m_aload_n C dX12_tower_115 rfl rfl ?_
      refine g_22_13 C q4_129 dX12_tower_116 ?_
      refine m_topi (fun x67 ex67 => ?_)
      refine m_iconst (v := 4) C dX12_tower_119 (by decide) ?_
      refine m_icmp_eq (tgt := 127) C dX12_tower_120 (by decide) (fun c68 => ?_) (fun c68 => ?_)
      · have f69 : x67.toInt = 4 := by
          have q : _ := c68
          simp only [ti_nle, ti_nlt, ti_le, ti_lt, ti_eq, ti_ne, Classical.not_not, kt_4] at q
          omega
        have b70 : IV x67 4 4 := ⟨by have q1 := (iv_any x67); have q2 := kc_4; omega, by have q1 := (iv_any x67); have q2 := kc_4; omega⟩
        refine m_aload_n C dX12_tower_127 rfl rfl ?_
        refine g_22_16 C q4_132 dX12_tower_128 ?_
        refine m_eqs (w := (gV τ 22 0 16)) rfl ?_
        exact J131 τ (gV τ 22 0 16) iτ fτ (iv_wk b66 (by decide)) v_PF (by omega)
      · have f71 : x67.toInt ≠ 4 := by
          have q : _ := c68
          simp only [ti_nle, ti_nlt, ti_le, ti_lt, ti_eq, ti_ne, Classical.not_not, kt_4] at q
          omega
        refine m_iconst (v := 1) C dX12_tower_123 (by decide) ?_
        refine m_goto (tgt := 131) C dX12_tower_124 (by decide) ?_
        exact J131 τ 1 iτ fτ (iv_wk kc_1 (by decide)) v_PF (by omega)
  have J75 : ∀ (n : Nat) (τ : Sg), Inv τ → Fr MS_X12_towerE AS_X12_towerE σ τ → (PF τ) → ((gV τ 22 0 11).toInt ≤ (gV τ 22 0 6).toInt) → (2 * (5 - (gV τ 23 0 188).toInt) + 1 - min 1 (max (gV τ 22 0 16).toInt (-(gV τ 22 0 16).toInt))).toNat < n → MW p l e { frames := 4, cells := 0, slots := 0, locals := 92 } s m args below meth c (MQ below (QP G (PI fun r τ => Inv τ ∧ Fr MS_X12_towerE AS_X12_towerE σ τ ∧ IV r (-2147483648) 2147483647 ∧ (gV τ 22 0 6).toInt = 0)) args s 0 0 (aG G)) 2 G 0 0 75 [some (.ref (G.1 22 0)), none] [] τ := by
    intro n
    induction n with
    | zero => intro τ iτ fτ v_PF n72 hm; exact absurd hm (Nat.not_lt_zero _)
    | succ n ih75 =>
      intro τ iτ fτ v_PF n72 hm75
      have u73 : IV (gV τ 23 0 152) 0 7 := iτ.1 23 0 152
      have u74 : IV (gV τ 22 0 11) 0 400 := iτ.1 22 0 11
      have u75 : IV (gV τ 22 0 6) 0 400 := iτ.1 22 0 6
      have u76 : IV (gV τ 23 0 188) 0 4 := iτ.1 23 0 188
      refine m_aload_n C dX12_tower_75 rfl rfl ?_
      refine g_22_16 C q4_132 dX12_tower_76 ?_
      refine m_eqs (w := (gV τ 22 0 16)) rfl ?_
      refine m_if_ne (tgt := 107) C dX12_tower_79 (by decide) (fun c77 => ?_) (fun c77 => ?_)
      · have f78 : (gV τ 22 0 16).toInt ≠ 0 := by
          have q : _ := c77
          simp only [ti_nle, ti_nlt, ti_le, ti_lt, ti_eq, ti_ne, Classical.not_not, kt_0] at q
          omega
        exact J107 τ iτ fτ v_PF
      · have f79 : (gV τ 22 0 16).toInt = 0 := by
          have q : _ := c77
          simp only [ti_nle, ti_nlt, ti_le, ti_lt, ti_eq, ti_ne, Classical.not_not, kt_0] at q
          omega
        have b80 : IV (gV τ 22 0 16) 0 0 := ⟨by have q1 := (iv_any (gV τ 22 0 16)); have q2 := kc_0; omega, by have q1 := (iv_any (gV τ 22 0 16)); have q2 := kc_0; omega⟩
        refine m_aload_n C dX12_tower_82 rfl rfl ?_
        refine g_22_13 C q4_129 dX12_tower_83 ?_
        refine m_topi (fun x81 ex81 => ?_)
        refine m_if_ne (tgt := 107) C dX12_tower_86 (by decide) (fun c82 => ?_) (fun c82 => ?_)
        · have f83 : x81.toInt ≠ 0 := by
            have q : _ := c82
            simp only [ti_nle, ti_nlt, ti_le, ti_lt, ti_eq, ti_ne, Classical.not_not, kt_0] at q
            omega
          exact J107 τ iτ fτ v_PF
        · have f84 : x81.toInt = 0 := by
            have q : _ := c82
            simp only [ti_nle, ti_nlt, ti_le, ti_lt, ti_eq, ti_ne, Classical.not_not, kt_0] at q
            omega
          have b85 : IV x81 0 0 := ⟨by have q1 := (iv_any x81); have q2 := kc_0; omega, by have q1 := (iv_any x81); have q2 := kc_0; omega⟩
          refine m_aload_n C dX12_tower_89 rfl rfl ?_
          refine g_22_14 C q4_130 dX12_tower_90 ?_
          refine m_topl (fun w86 ew86 => ?_)
          refine m_ldc2 (v := 20594117) C dX12_tower_93 q5_29 ?_
          refine m_lcmp C dX12_tower_96 ?_
          refine m_topi (fun x87 ex87 => ?_)
          have b88 : IV x87 (-1) 1 := by rw [ex87]; rcases lgc w86 20594117 with q | q | q <;> omega
          have f89 := lgc w86 20594117
          rw [← ex87] at f89
          have f91 := kl_20594117
          refine m_if_ne (tgt := 107) C dX12_tower_97 (by decide) (fun c92 => ?_) (fun c92 => ?_)
          · have f93 : x87.toInt ≠ 0 := by
              have q : _ := c92
              simp only [ti_nle, ti_nlt, ti_le, ti_lt, ti_eq, ti_ne, Classical.not_not, kt_0] at q
              omega
            exact J107 τ iτ fτ v_PF
          · have f94 : x87.toInt = 0 := by
              have q : _ := c92
              simp only [ti_nle, ti_nlt, ti_le, ti_lt, ti_eq, ti_ne, Classical.not_not, kt_0] at q
              omega
            have b95 : IV x87 0 0 := ⟨by have q1 := b88; have q2 := kc_0; omega, by have q1 := b88; have q2 := kc_0; omega⟩
            refine m_aload_n C dX12_tower_100 rfl rfl ?_
            refine m_callV (n := 0) (ci := 11) (st := []) C (c_X12_takeStone l G τ  iτ (by omega) (by omega) (v_PF (by omega))) (by decide) (by decide) rfl rfl rfl q5_33 q5_30 q5_32 q0_34 q1_7 (by decide +kernel) rfl (by decide) (by decide) rfl (Nat.le_of_ble_eq_true rfl) dX12_tower_101 ?_
            rintro _ τ96 ⟨rfl, i97, f98, h102⟩
            have g101 : Fr MS_X12_towerE AS_X12_towerE σ τ96 := Fr.call (fτ) f98 (by decide)
            have v103 : PF τ96 := (fun _ => h102.2.1)
            have u104 : IV (gV τ96 23 0 152) 0 7 := i97.1 23 0 152
            have u105 : IV (gV τ96 22 0 11) 0 400 := i97.1 22 0 11
            have u106 : IV (gV τ96 23 0 188) 0 4 := i97.1 23 0 188
            have q107 : (gV τ96 22 0 6).toInt = (gV τ 22 0 6).toInt := congrArg Int32.toInt (show (gV τ96 22 0 6) = (gV τ 22 0 6) from (show gV τ96 22 0 6 = (gV τ 22 0 6) from (f98.1 22 0 (6) (by decide) (by decide)).trans rfl))
            show MW p l e _ s m args below meth c _ 2 G 0 0 104 [some (.ref (G.1 22 0)), none] [] τ96
            refine m_goto (tgt := 75) C dX12_tower_104 (by decide) ?_
            exact ih75 τ96 i97 g101 v103 (by omega) (by have q := hm75; omega)
  have J43 : ∀ (n : Nat) (τ : Sg), Inv τ → Fr MS_X12_towerE AS_X12_towerE σ τ → (PF τ) → ((gV τ 22 0 11).toInt ≤ (gV τ 22 0 6).toInt) → (2 * (8 - (gV τ 23 0 152).toInt) + 1 - min 1 (max (gV τ 22 0 16).toInt (-(gV τ 22 0 16).toInt))).toNat < n → MW p l e { frames := 4, cells := 0, slots := 0, locals := 92 } s m args below meth c (MQ below (QP G (PI fun r τ => Inv τ ∧ Fr MS_X12_towerE AS_X12_towerE σ τ ∧ IV r (-2147483648) 2147483647 ∧ (gV τ 22 0 6).toInt = 0)) args s 0 0 (aG G)) 2 G 0 0 43 [some (.ref (G.1 22 0)), none] [] τ := by
    intro n
    induction n with
    | zero => intro τ iτ fτ v_PF n108 hm; exact absurd hm (Nat.not_lt_zero _)
    | succ n ih43 =>
      intro τ iτ fτ v_PF n108 hm43
      have u109 : IV (gV τ 23 0 152) 0 7 := iτ.1 23 0 152
      have u110 : IV (gV τ 22 0 11) 0 400 := iτ.1 22 0 11
      have u111 : IV (gV τ 22 0 6) 0 400 := iτ.1 22 0 6
      have u112 : IV (gV τ 23 0 188) 0 4 := iτ.1 23 0 188
      refine m_aload_n C dX12_tower_43 rfl rfl ?_
      refine g_22_16 C q4_132 dX12_tower_44 ?_
      refine m_eqs (w := (gV τ 22 0 16)) rfl ?_
      refine m_if_ne (tgt := 75) C dX12_tower_47 (by decide) (fun c113 => ?_) (fun c113 => ?_)
      · have f114 : (gV τ 22 0 16).toInt ≠ 0 := by
          have q : _ := c113
          simp only [ti_nle, ti_nlt, ti_le, ti_lt, ti_eq, ti_ne, Classical.not_not, kt_0] at q
          omega
        exact J75 ((2 * (5 - (gV τ 23 0 188).toInt) + 1 - min 1 (max (gV τ 22 0 16).toInt (-(gV τ 22 0 16).toInt))).toNat + 1) τ iτ fτ v_PF (by omega) (Nat.lt_succ_self _)
      · have f115 : (gV τ 22 0 16).toInt = 0 := by
          have q : _ := c113
          simp only [ti_nle, ti_nlt, ti_le, ti_lt, ti_eq, ti_ne, Classical.not_not, kt_0] at q
          omega
        have b116 : IV (gV τ 22 0 16) 0 0 := ⟨by have q1 := (iv_any (gV τ 22 0 16)); have q2 := kc_0; omega, by have q1 := (iv_any (gV τ 22 0 16)); have q2 := kc_0; omega⟩
        refine m_aload_n C dX12_tower_50 rfl rfl ?_
        refine g_22_13 C q4_129 dX12_tower_51 ?_
        refine m_topi (fun x117 ex117 => ?_)
        refine m_if_ne (tgt := 75) C dX12_tower_54 (by decide) (fun c118 => ?_) (fun c118 => ?_)
        · have f119 : x117.toInt ≠ 0 := by
            have q : _ := c118
            simp only [ti_nle, ti_nlt, ti_le, ti_lt, ti_eq, ti_ne, Classical.not_not, kt_0] at q
            omega
          exact J75 ((2 * (5 - (gV τ 23 0 188).toInt) + 1 - min 1 (max (gV τ 22 0 16).toInt (-(gV τ 22 0 16).toInt))).toNat + 1) τ iτ fτ v_PF (by omega) (Nat.lt_succ_self _)
        · have f120 : x117.toInt = 0 := by
            have q : _ := c118
            simp only [ti_nle, ti_nlt, ti_le, ti_lt, ti_eq, ti_ne, Classical.not_not, kt_0] at q
            omega
          have b121 : IV x117 0 0 := ⟨by have q1 := (iv_any x117); have q2 := kc_0; omega, by have q1 := (iv_any x117); have q2 := kc_0; omega⟩
          refine m_aload_n C dX12_tower_57 rfl rfl ?_
          refine g_22_14 C q4_130 dX12_tower_58 ?_
          refine m_topl (fun w122 ew122 => ?_)
          refine m_ldc2 (v := 542723566) C dX12_tower_61 q5_16 ?_
          refine m_lcmp C dX12_tower_64 ?_
          refine m_topi (fun x123 ex123 => ?_)
          have b124 : IV x123 (-1) 1 := by rw [ex123]; rcases lgc w122 542723566 with q | q | q <;> omega
          have f125 := lgc w122 542723566
          rw [← ex123] at f125
          have f127 := kl_542723566
          refine m_if_ne (tgt := 75) C dX12_tower_65 (by decide) (fun c128 => ?_) (fun c128 => ?_)
          · have f129 : x123.toInt ≠ 0 := by
              have q : _ := c128
              simp only [ti_nle, ti_nlt, ti_le, ti_lt, ti_eq, ti_ne, Classical.not_not, kt_0] at q
              omega
            exact J75 ((2 * (5 - (gV τ 23 0 188).toInt) + 1 - min 1 (max (gV τ 22 0 16).toInt (-(gV τ 22 0 16).toInt))).toNat + 1) τ iτ fτ v_PF (by omega) (Nat.lt_succ_self _)
          · have f130 : x123.toInt = 0 := by
              have q : _ := c128
              simp only [ti_nle, ti_nlt, ti_le, ti_lt, ti_eq, ti_ne, Classical.not_not, kt_0] at q
              omega
            have b131 : IV x123 0 0 := ⟨by have q1 := b124; have q2 := kc_0; omega, by have q1 := b124; have q2 := kc_0; omega⟩
            refine m_aload_n C dX12_tower_68 rfl rfl ?_
            refine m_callV (n := 0) (ci := 11) (st := []) C (c_X12_takePerson l G τ  iτ (by omega) (by omega) (v_PF (by omega))) (by decide) (by decide) rfl rfl rfl q5_20 q5_17 q5_19 q0_33 q1_7 (by decide +kernel) rfl (by decide) (by decide) rfl (Nat.le_of_ble_eq_true rfl) dX12_tower_69 ?_
            rintro _ τ132 ⟨rfl, i133, f134, h138⟩
            have g137 : Fr MS_X12_towerE AS_X12_towerE σ τ132 := Fr.call (fτ) f134 (by decide)
            have v139 : PF τ132 := (fun q => h138.2.1 q)
            have u140 : IV (gV τ132 23 0 152) 0 7 := i133.1 23 0 152
            have u141 : IV (gV τ132 22 0 11) 0 400 := i133.1 22 0 11
            have u142 : IV (gV τ132 23 0 188) 0 4 := i133.1 23 0 188
            have q143 : (gV τ132 22 0 6).toInt = (gV τ 22 0 6).toInt := congrArg Int32.toInt (show (gV τ132 22 0 6) = (gV τ 22 0 6) from (show gV τ132 22 0 6 = (gV τ 22 0 6) from (f134.1 22 0 (6) (by decide) (by decide)).trans rfl))
            show MW p l e _ s m args below meth c _ 2 G 0 0 72 [some (.ref (G.1 22 0)), none] [] τ132
            refine m_goto (tgt := 43) C dX12_tower_72 (by decide) ?_
            exact ih43 τ132 i133 g137 v139 (by omega) (by have q := hm43; omega)
  have J2 : ∀ (n : Nat) (τ : Sg) (y1 : Int32), Inv τ → Fr MS_X12_towerE AS_X12_towerE σ τ → IV y1 0 50 → ((3 ≤ y1.toInt → (gV τ 23 0 152).toInt = 0)) → (50 - y1.toInt).toNat < n → MW p l e { frames := 4, cells := 0, slots := 0, locals := 92 } s m args below meth c (MQ below (QP G (PI fun r τ => Inv τ ∧ Fr MS_X12_towerE AS_X12_towerE σ τ ∧ IV r (-2147483648) 2147483647 ∧ (gV τ 22 0 6).toInt = 0)) args s 0 0 (aG G)) 2 G 0 0 2 [some (.ref (G.1 22 0)), some (.int y1)] [] τ := by
    intro n
    induction n with
    | zero => intro τ y1 iτ fτ b_y1 nz hm; exact absurd hm (Nat.not_lt_zero _)
    | succ n ih2 =>
      intro τ y1 iτ fτ b_y1 nz hm2
      have u144 : IV (gV τ 23 0 152) 0 7 := iτ.1 23 0 152
      have u145 : IV (gV τ 22 0 11) 0 400 := iτ.1 22 0 11
      have u146 : IV (gV τ 22 0 6) 0 400 := iτ.1 22 0 6
      have u147 : IV (gV τ 23 0 188) 0 4 := iτ.1 23 0 188
      refine m_iload_n C dX12_tower_2 rfl rfl ?_
      refine m_bipush (v := 50) C dX12_tower_3 (by decide) ?_
      refine m_icmp_ge (tgt := 25) C dX12_tower_5 (by decide) (fun c148 => ?_) (fun c148 => ?_)
      · have f149 : 50 ≤ y1.toInt := by
          have q : _ := c148
          simp only [ti_nle, ti_nlt, ti_le, ti_lt, ti_eq, ti_ne, Classical.not_not, kt_50] at q
          omega
        have b150 : IV y1 50 50 := ⟨by have q1 := kc_50; have q2 := b_y1; omega, by have q1 := kc_50; have q2 := b_y1; omega⟩
        refine m_aload_n C dX12_tower_25 rfl rfl ?_
        refine m_iconst (v := 0) C dX12_tower_26 (by decide) ?_
        refine p_22_11 C q4_127 dX12_tower_27 ?_
        refine m_tops (fun τ151 eτ151 => ?_)
        have i152 : Inv τ151 := eτ151 ▸ Inv.put iτ (by decide) (iv_wk kc_0 (by decide))
        have f153 : Fr MS_X12_towerE AS_X12_towerE σ τ151 := eτ151 ▸ Fr.put (fτ) (Or.inl (by decide))
        refine m_aload_n C dX12_tower_30 rfl rfl ?_
        refine m_iconst (v := 0) C dX12_tower_31 (by decide) ?_
        refine p_22_16 C q4_132 dX12_tower_32 ?_
        refine m_tops (fun τ154 eτ154 => ?_)
        have i155 : Inv τ154 := eτ154 ▸ Inv.putF i152 (by decide) rfl
        have f156 : Fr MS_X12_towerE AS_X12_towerE σ τ154 := eτ154 ▸ Fr.put (f153) (Or.inl (by decide))
        refine m_aload_n C dX12_tower_35 rfl rfl ?_
        have q157 : (gV τ154 23 0 152).toInt = (gV τ 23 0 152).toInt := congrArg Int32.toInt (show (gV τ154 23 0 152) = (gV τ 23 0 152) from (show gV τ154 23 0 152 = (gV τ 23 0 152) from gV_put eτ154 (show gV τ151 23 0 152 = (gV τ 23 0 152) from gV_put eτ151 rfl)))
        have q158 : (gV τ154 22 0 6).toInt = (gV τ 22 0 6).toInt := congrArg Int32.toInt (show (gV τ154 22 0 6) = (gV τ 22 0 6) from (show gV τ154 22 0 6 = (gV τ 22 0 6) from gV_put eτ154 (show gV τ151 22 0 6 = (gV τ 22 0 6) from gV_put eτ151 rfl)))
        have q159 : (gV τ154 23 0 188).toInt = (gV τ 23 0 188).toInt := congrArg Int32.toInt (show (gV τ154 23 0 188) = (gV τ 23 0 188) from (show gV τ154 23 0 188 = (gV τ 23 0 188) from gV_put eτ154 (show gV τ151 23 0 188 = (gV τ 23 0 188) from gV_put eτ151 rfl)))
        have q160 : (gV τ154 22 0 11).toInt = 0 := (congrArg Int32.toInt (show (gV τ154 22 0 11) = 0 from (show gV τ154 22 0 11 = 0 from gV_put eτ154 (show gV τ151 22 0 11 = 0 from gV_put eτ151 (gV_self _ _ _ _ _))))).trans kt_0
        have q161 : (gV τ154 22 0 16).toInt = 0 := (congrArg Int32.toInt (show (gV τ154 22 0 16) = 0 from (show gV τ154 22 0 16 = 0 from gV_put eτ154 (gV_self _ _ _ _ _)))).trans kt_0
        refine m_callV (n := 0) (ci := 11) (st := []) C (c_X12_next l G τ154  i155 (by omega)) (by decide) (by decide) rfl rfl rfl q4_231 q4_228 q4_230 q0_28 q1_7 (by decide +kernel) rfl (by decide) (by decide) rfl (Nat.le_of_ble_eq_true rfl) dX12_tower_36 ?_
        rintro _ τ162 ⟨rfl, i163, f164, h168⟩
        have g167 : Fr MS_X12_towerE AS_X12_towerE σ τ162 := Fr.call (f156) f164 (by decide)
        have u169 : IV (gV τ162 22 0 11) 0 400 := i163.1 22 0 11
        have q170 : (gV τ162 23 0 152).toInt = (gV τ 23 0 152).toInt := congrArg Int32.toInt (show (gV τ162 23 0 152) = (gV τ 23 0 152) from (show gV τ162 23 0 152 = (gV τ 23 0 152) from (f164.1 23 0 (152) (by decide) (by decide)).trans (show gV τ154 23 0 152 = (gV τ 23 0 152) from gV_put eτ154 (show gV τ151 23 0 152 = (gV τ 23 0 152) from gV_put eτ151 rfl))))
        have q171 : (gV τ162 22 0 6).toInt = (gV τ 22 0 6).toInt := congrArg Int32.toInt (show (gV τ162 22 0 6) = (gV τ 22 0 6) from (show gV τ162 22 0 6 = (gV τ 22 0 6) from (f164.1 22 0 (6) (by decide) (by decide)).trans (show gV τ154 22 0 6 = (gV τ 22 0 6) from gV_put eτ154 (show gV τ151 22 0 6 = (gV τ 22 0 6) from gV_put eτ151 rfl))))
        have q172 : (gV τ162 23 0 188).toInt = (gV τ 23 0 188).toInt := congrArg Int32.toInt (show (gV τ162 23 0 188) = (gV τ 23 0 188) from (show gV τ162 23 0 188 = (gV τ 23 0 188) from (f164.1 23 0 (188) (by decide) (by decide)).trans (show gV τ154 23 0 188 = (gV τ 23 0 188) from gV_put eτ154 (show gV τ151 23 0 188 = (gV τ 23 0 188) from gV_put eτ151 rfl))))
        have q173 : (gV τ162 22 0 16).toInt = 0 := (congrArg Int32.toInt (show (gV τ162 22 0 16) = 0 from (show gV τ162 22 0 16 = 0 from (f164.1 22 0 (16) (by decide) (by decide)).trans (show gV τ154 22 0 16 = 0 from gV_put eτ154 (gV_self _ _ _ _ _))))).trans kt_0
        show MW p l e _ s m args below meth c _ 2 G 0 0 39 [some (.ref (G.1 22 0)), some (.int y1)] [] τ162
        refine m_aload_n C dX12_tower_39 rfl rfl ?_
        refine m_callV (n := 0) (ci := 11) (st := []) C (c_X12_takeLaw l G τ162  i163 (by omega)) (by decide) (by decide) rfl rfl rfl q5_2 q4_239 q5_1 q0_29 q1_7 (by decide +kernel) rfl (by decide) (by decide) rfl (Nat.le_of_ble_eq_true rfl) dX12_tower_40 ?_
        rintro _ τ174 ⟨rfl, i175, f176, h180⟩
        have g179 : Fr MS_X12_towerE AS_X12_towerE σ τ174 := Fr.call (g167) f176 (by decide)
        have u181 : IV (gV τ174 23 0 152) 0 7 := i175.1 23 0 152
        have u182 : IV (gV τ174 22 0 11) 0 400 := i175.1 22 0 11
        have u183 : IV (gV τ174 23 0 188) 0 4 := i175.1 23 0 188
        have q184 : (gV τ174 22 0 6).toInt = (gV τ 22 0 6).toInt := congrArg Int32.toInt (show (gV τ174 22 0 6) = (gV τ 22 0 6) from (show gV τ174 22 0 6 = (gV τ 22 0 6) from (f176.1 22 0 (6) (by decide) (by decide)).trans (show gV τ162 22 0 6 = (gV τ 22 0 6) from (f164.1 22 0 (6) (by decide) (by decide)).trans (show gV τ154 22 0 6 = (gV τ 22 0 6) from gV_put eτ154 (show gV τ151 22 0 6 = (gV τ 22 0 6) from gV_put eτ151 rfl)))))
        have v185 : PF τ174 := PF.zero (by omega)
        show MW p l e _ s m args below meth c _ 2 G 0 0 43 [some (.ref (G.1 22 0)), some (.int y1)] [] τ174
        refine m_sub (L1 := [some (.ref (G.1 22 0)), none]) ⟨rfl, trivial⟩ ?_
        exact J43 ((2 * (8 - (gV τ174 23 0 152).toInt) + 1 - min 1 (max (gV τ174 22 0 16).toInt (-(gV τ174 22 0 16).toInt))).toNat + 1) τ174 i175 g179 v185 (by omega) (Nat.lt_succ_self _)
      · have f186 : y1.toInt < 50 := by
          have q : _ := c148
          simp only [ti_nle, ti_nlt, ti_le, ti_lt, ti_eq, ti_ne, Classical.not_not, kt_50] at q
          omega
        have b187 : IV y1 0 49 := ⟨by have q1 := b_y1; have q2 := kc_50; omega, by have q1 := b_y1; have q2 := kc_50; omega⟩
        refine m_aload_n C dX12_tower_8 rfl rfl ?_
        refine g_22_0 C q4_116 dX12_tower_9 ?_
        refine m_sipush (v := 150) C dX12_tower_12 (by decide) ?_
        refine m_iload_n C dX12_tower_15 rfl rfl ?_
        refine m_iadd C dX12_tower_16 ?_
        refine m_topi (fun x188 ex188 => ?_)
        have tx188 : x188.toInt = 150 + y1.toInt := by rw [ex188, ti_addv kc_150 b187 (by decide), kt_150]
        have b189 : IV x188 150 199 := by rw [ex188]; exact iv_add kc_150 b187 (by decide)
        refine m_iconst (v := 0) C dX12_tower_17 (by decide) ?_
        refine as_23 C b189 (by decide) rfl dX12_tower_18 ?_
        refine m_tops (fun τ190 eτ190 => ?_)
        have i191 : Inv τ190 := eτ190 ▸ Inv.putR0 iτ (by omega) kt_0
        have f192 : Fr MS_X12_towerE AS_X12_towerE σ τ190 := eτ190 ▸ Fr.put (fτ) (Or.inr (by decide))
        obtain ⟨x193, ex193⟩ : ∃ y : Int32, y = y1 + 1 := ⟨_, rfl⟩
        have tx193 : x193.toInt = y1.toInt + 1 := by rw [ex193, ti_addv b187 kc_1 (by decide), kt_1]
        have b194 : IV x193 1 50 := by rw [ex193]; exact iv_add b187 kc_1 (by decide)
        refine m_iinc (v := x193) (L1 := [some (.ref (G.1 22 0)), some (.int x193)]) C dX12_tower_19 rfl (by rw [ex193]; rfl) (by decide) rfl rfl ?_
        refine m_goto (tgt := 2) C dX12_tower_22 (by decide) ?_
        have q195 : (gV τ190 22 0 16).toInt = (gV τ 22 0 16).toInt := congrArg Int32.toInt (show (gV τ190 22 0 16) = (gV τ 22 0 16) from (show gV τ190 22 0 16 = (gV τ 22 0 16) from gV_put eτ190 rfl))
        have q196 : (gV τ190 22 0 11).toInt = (gV τ 22 0 11).toInt := congrArg Int32.toInt (show (gV τ190 22 0 11) = (gV τ 22 0 11) from (show gV τ190 22 0 11 = (gV τ 22 0 11) from gV_put eτ190 rfl))
        have q197 : (gV τ190 22 0 6).toInt = (gV τ 22 0 6).toInt := congrArg Int32.toInt (show (gV τ190 22 0 6) = (gV τ 22 0 6) from (show gV τ190 22 0 6 = (gV τ 22 0 6) from gV_put eτ190 rfl))
        exact ih2 τ190 x193 i191 f192 (iv_wk b194 (by decide)) (fun q => zero152 eτ190 kt_0 (by omega)) (by have q := hm2; omega)
  have u198 : IV (gV σ 23 0 152) 0 7 := hI.1 23 0 152
  have u199 : IV (gV σ 22 0 11) 0 400 := hI.1 22 0 11
  have u200 : IV (gV σ 22 0 6) 0 400 := hI.1 22 0 6
  have u201 : IV (gV σ 23 0 188) 0 4 := hI.1 23 0 188
  refine m_iconst (v := 0) C dX12_tower_0 (by decide) ?_
  refine m_istore_n (L1 := [some (.ref (G.1 22 0)), some (.int 0)]) C dX12_tower_1 rfl (by decide) rfl rfl ?_
  exact J2 ((50 - (0 : Int32).toInt).toNat + 1) σ 0 hI Fr.rf (iv_wk kc_0 (by decide)) (by omega) (Nat.lt_succ_self _)

theorem Rel.rowB {σ τ υ : Sg} {a1 a2 a3 r1 r2 : Int32} (h : Rel σ) (f1 : Fr MS_X11_rowE AS_X11_rowE σ τ) (f2 : Fr MS_X12_rowE AS_X12_rowE τ υ) (hC : (((a1.toInt < 0 ∨ 7 < a1.toInt ∨ a2.toInt < 0 ∨ 2 < a2.toInt ∨ 40 < a3.toInt) ∧ r1.toInt = -1000001 ∧ SameR σ τ) ∨ ((0 ≤ a1.toInt ∧ a1.toInt ≤ 7 ∧ 0 ≤ a2.toInt ∧ a2.toInt ≤ 2 ∧ a3.toInt < 0) ∧ r1.toInt = -1000014 ∧ SameR σ τ) ∨ ((0 ≤ a1.toInt ∧ a1.toInt ≤ 7 ∧ 0 ≤ a2.toInt ∧ a2.toInt ≤ 2 ∧ 0 ≤ a3.toInt ∧ a3.toInt ≤ 40) ∧ r1.toInt = a3.toInt ∧ BG σ τ (a1.toInt.toNat) a2 a3))) (hM : (((a1.toInt < 0 ∨ 7 < a1.toInt ∨ a2.toInt < 0 ∨ 2 < a2.toInt ∨ 40 < a3.toInt) ∧ r2.toInt = -1000001 ∧ SameL τ υ) ∨ ((0 ≤ a1.toInt ∧ a1.toInt ≤ 7 ∧ 0 ≤ a2.toInt ∧ a2.toInt ≤ 2 ∧ a3.toInt < 0) ∧ r2.toInt = -1000014 ∧ SameL τ υ) ∨ ((0 ≤ a1.toInt ∧ a1.toInt ≤ 7 ∧ 0 ≤ a2.toInt ∧ a2.toInt ≤ 2 ∧ 0 ≤ a3.toInt ∧ a3.toInt ≤ 40) ∧ r2.toInt = a3.toInt ∧ LU τ υ (a1.toInt.toNat) a2 a3))) : Rel υ ∧ r1.toInt = r2.toInt := by
  have l1 : SameL σ τ := SameL.rf.fr f1 (by simp) (by decide)
  have l2 : SameR τ υ := SameR.rf.fr f2 (by simp) (by decide)
  have t1 : gV υ 12 0 1 = gV σ 12 0 1 := (f2.1 12 0 1 (by decide) (by decide)).trans (f1.1 12 0 1 (by decide) (by decide))
  have t2 : gV υ 22 0 6 = gV σ 22 0 6 := (f2.1 22 0 6 (by decide) (by decide)).trans (f1.1 22 0 6 (by decide) (by decide))
  rcases hC with ⟨c1, c2, c3⟩ | ⟨c1, c2, c3⟩ | ⟨c1, c2, c3⟩ <;> rcases hM with ⟨m1, m2, m3⟩ | ⟨m1, m2, m3⟩ | ⟨m1, m2, m3⟩
  · exact ⟨h.same ⟨fun j k => (l2 j k).trans (c3 j k), fun k => ⟨(m3 k).1.trans (l1 k).1, (m3 k).2.trans (l1 k).2⟩, t1, t2⟩, by omega⟩
  · exfalso; omega
  · exfalso; omega
  · exfalso; omega
  · exact ⟨h.same ⟨fun j k => (l2 j k).trans (c3 j k), fun k => ⟨(m3 k).1.trans (l1 k).1, (m3 k).2.trans (l1 k).2⟩, t1, t2⟩, by omega⟩
  · exfalso; omega
  · exfalso; omega
  · exfalso; omega
  · exact ⟨h.begin c3 m3 l1 l2 t1 t2 (by omega), by omega⟩
theorem Rel.dropB {σ τ υ : Sg} {a1 r1 r2 : Int32} (h : Rel σ) (f1 : Fr MS_X11_dropE AS_X11_dropE σ τ) (f2 : Fr MS_X12_dropE AS_X12_dropE τ υ) (hC : (((a1.toInt < 0 ∨ 7 < a1.toInt) ∧ r1.toInt = -1000001 ∧ SameR σ τ) ∨ ((0 ≤ a1.toInt ∧ a1.toInt ≤ 7) ∧ (gV σ 20 (a1.toInt.toNat) 1).toInt = -1 ∧ r1.toInt = -1000011 ∧ SameR σ τ) ∨ ((0 ≤ a1.toInt ∧ a1.toInt ≤ 7) ∧ ¬ ((gV σ 20 (a1.toInt.toNat) 1).toInt = -1) ∧ r1.toInt = (gV σ 20 (a1.toInt.toNat) 2).toInt ∧ BG σ τ (a1.toInt.toNat) (-1) 0))) (hM : (((a1.toInt < 0 ∨ 7 < a1.toInt) ∧ r2.toInt = -1000001 ∧ SameL τ υ) ∨ ((0 ≤ a1.toInt ∧ a1.toInt ≤ 7) ∧ (gV τ 26 0 (a1.toInt.toNat)).toInt < 0 ∧ r2.toInt = -1000011 ∧ SameL τ υ) ∨ ((0 ≤ a1.toInt ∧ a1.toInt ≤ 7) ∧ ¬ ((gV τ 26 0 (a1.toInt.toNat)).toInt < 0) ∧ r2.toInt = (gV τ 27 0 (a1.toInt.toNat)).toInt ∧ LD τ υ (a1.toInt.toNat)))) : Rel υ ∧ r1.toInt = r2.toInt := by
  have l1 : SameL σ τ := SameL.rf.fr f1 (by simp) (by decide)
  have l2 : SameR τ υ := SameR.rf.fr f2 (by simp) (by decide)
  have t1 : gV υ 12 0 1 = gV σ 12 0 1 := (f2.1 12 0 1 (by decide) (by decide)).trans (f1.1 12 0 1 (by decide) (by decide))
  have t2 : gV υ 22 0 6 = gV σ 22 0 6 := (f2.1 22 0 6 (by decide) (by decide)).trans (f1.1 22 0 6 (by decide) (by decide))
  have g1 : (a1.toInt.toNat) < 8 → (gV σ 20 (a1.toInt.toNat) 1).toInt = (gV τ 26 0 (a1.toInt.toNat)).toInt ∧ -1 ≤ (gV τ 26 0 (a1.toInt.toNat)).toInt ∧ (0 ≤ (gV τ 26 0 (a1.toInt.toNat)).toInt → (gV σ 20 (a1.toInt.toNat) 2).toInt = (gV τ 27 0 (a1.toInt.toNat)).toInt) := fun hj => by
    rw [(l1 (a1.toInt.toNat)).1, (l1 (a1.toInt.toNat)).2]
    exact ⟨congrArg Int32.toInt (h.1 (a1.toInt.toNat) hj).1, (h.1 (a1.toInt.toNat) hj).2.1, fun q => congrArg Int32.toInt ((h.1 (a1.toInt.toNat) hj).2.2 q)⟩
  rcases hC with ⟨c1, c3, c4⟩ | ⟨c1, c2, c3, c4⟩ | ⟨c1, c2, c3, c4⟩ <;> rcases hM with ⟨m1, m3, m4⟩ | ⟨m1, m2, m3, m4⟩ | ⟨m1, m2, m3, m4⟩
  · exact ⟨h.same ⟨fun j k => (l2 j k).trans (c4 j k), fun k => ⟨(m4 k).1.trans (l1 k).1, (m4 k).2.trans (l1 k).2⟩, t1, t2⟩, by omega⟩
  · exfalso; omega
  · exfalso; omega
  · exfalso; omega
  · exact ⟨h.same ⟨fun j k => (l2 j k).trans (c4 j k), fun k => ⟨(m4 k).1.trans (l1 k).1, (m4 k).2.trans (l1 k).2⟩, t1, t2⟩, by omega⟩
  · have q := g1 (by omega)
    exfalso; omega
  · exfalso; omega
  · have q := g1 (by omega)
    exfalso; omega
  · have q := g1 (by omega)
    exact ⟨h.drop c4 m4 l1 l2 t1 t2, by omega⟩
theorem Rel.setB {σ τ υ : Sg} {a1 a2 a3 r1 r2 : Int32} (h : Rel σ) (f1 : Fr MS_X11_setE AS_X11_setE σ τ) (f2 : Fr MS_X12_setE AS_X12_setE τ υ) (hC : (((a1.toInt < 0 ∨ 7 < a1.toInt) ∧ r1.toInt = -1000001) ∨ ((0 ≤ a1.toInt ∧ a1.toInt ≤ 7) ∧ (gV σ 20 (a1.toInt.toNat) 1).toInt = -1 ∧ r1.toInt = -1000011) ∨ ((0 ≤ a1.toInt ∧ a1.toInt ≤ 7) ∧ ¬ ((gV σ 20 (a1.toInt.toNat) 1).toInt = -1) ∧ (a2.toInt < 0 ∨ (gV σ 20 (a1.toInt.toNat) 2).toInt ≤ a2.toInt) ∧ r1.toInt = -1000012) ∨ ((0 ≤ a1.toInt ∧ a1.toInt ≤ 7) ∧ ¬ ((gV σ 20 (a1.toInt.toNat) 1).toInt = -1) ∧ 0 ≤ a2.toInt ∧ a2.toInt < (gV σ 20 (a1.toInt.toNat) 2).toInt ∧ r1.toInt = (cutF (gV σ 20 (a1.toInt.toNat) 1) a3).toInt))) (hM : (((a1.toInt < 0 ∨ 7 < a1.toInt) ∧ r2.toInt = -1000001) ∨ ((0 ≤ a1.toInt ∧ a1.toInt ≤ 7) ∧ (gV τ 26 0 (a1.toInt.toNat)).toInt < 0 ∧ r2.toInt = -1000011) ∨ ((0 ≤ a1.toInt ∧ a1.toInt ≤ 7) ∧ ¬ ((gV τ 26 0 (a1.toInt.toNat)).toInt < 0) ∧ (a2.toInt < 0 ∨ (gV τ 27 0 (a1.toInt.toNat)).toInt ≤ a2.toInt) ∧ r2.toInt = -1000012) ∨ ((0 ≤ a1.toInt ∧ a1.toInt ≤ 7) ∧ ¬ ((gV τ 26 0 (a1.toInt.toNat)).toInt < 0) ∧ 0 ≤ a2.toInt ∧ a2.toInt < (gV τ 27 0 (a1.toInt.toNat)).toInt ∧ r2.toInt = (cutF (gV τ 26 0 (a1.toInt.toNat)) a3).toInt))) : r1.toInt = r2.toInt := by
  have l1 : SameL σ τ := SameL.rf.fr f1 (by simp) (by decide)
  have l2 : SameR τ υ := SameR.rf.fr f2 (by simp) (by decide)
  have g1 : (a1.toInt.toNat) < 8 → (gV σ 20 (a1.toInt.toNat) 1).toInt = (gV τ 26 0 (a1.toInt.toNat)).toInt ∧ -1 ≤ (gV τ 26 0 (a1.toInt.toNat)).toInt ∧ (0 ≤ (gV τ 26 0 (a1.toInt.toNat)).toInt → (gV σ 20 (a1.toInt.toNat) 2).toInt = (gV τ 27 0 (a1.toInt.toNat)).toInt) := fun hj => by
    rw [(l1 (a1.toInt.toNat)).1, (l1 (a1.toInt.toNat)).2]
    exact ⟨congrArg Int32.toInt (h.1 (a1.toInt.toNat) hj).1, (h.1 (a1.toInt.toNat) hj).2.1, fun q => congrArg Int32.toInt ((h.1 (a1.toInt.toNat) hj).2.2 q)⟩
  rcases hC with c | ⟨c1, c2⟩ | ⟨c1, c2⟩ | ⟨c1, c2, c3, c4, c5⟩
  · omega
  · have q := g1 (by omega)
    omega
  · have q := g1 (by omega)
    omega
  · have q := g1 (by omega)
    rw [show gV σ 20 (a1.toInt.toNat) 1 = gV τ 26 0 (a1.toInt.toNat) from Int32.toInt_inj.mp q.1] at c5
    omega
theorem Rel.copyB {σ τ υ : Sg} {a1 a2 a3 a4 a5 r1 r2 : Int32} (h : Rel σ) (f1 : Fr MS_X11_copyE AS_X11_copyE σ τ) (f2 : Fr MS_X12_copyE AS_X12_copyE τ υ) (hC : (((a1.toInt < 0 ∨ 7 < a1.toInt ∨ a3.toInt < 0 ∨ 7 < a3.toInt) ∧ r1.toInt = -1000001) ∨ ((0 ≤ a1.toInt ∧ a1.toInt ≤ 7 ∧ 0 ≤ a3.toInt ∧ a3.toInt ≤ 7) ∧ ((gV σ 20 (a1.toInt.toNat) 1).toInt = -1 ∨ (gV σ 20 (a3.toInt.toNat) 1).toInt = -1) ∧ r1.toInt = -1000011) ∨ ((0 ≤ a1.toInt ∧ a1.toInt ≤ 7 ∧ 0 ≤ a3.toInt ∧ a3.toInt ≤ 7) ∧ ¬ ((gV σ 20 (a1.toInt.toNat) 1).toInt = -1) ∧ ¬ ((gV σ 20 (a3.toInt.toNat) 1).toInt = -1) ∧ (gV σ 20 (a1.toInt.toNat) 1).toInt ≠ (gV σ 20 (a3.toInt.toNat) 1).toInt ∧ r1.toInt = -1000015) ∨ ((0 ≤ a1.toInt ∧ a1.toInt ≤ 7 ∧ 0 ≤ a3.toInt ∧ a3.toInt ≤ 7) ∧ ¬ ((gV σ 20 (a1.toInt.toNat) 1).toInt = -1) ∧ ¬ ((gV σ 20 (a3.toInt.toNat) 1).toInt = -1) ∧ (gV σ 20 (a1.toInt.toNat) 1).toInt = (gV σ 20 (a3.toInt.toNat) 1).toInt ∧ ¬ (0 ≤ a2.toInt ∧ 0 ≤ a4.toInt ∧ 0 ≤ a5.toInt ∧ a2.toInt + a5.toInt ≤ (gV σ 20 (a1.toInt.toNat) 2).toInt ∧ a4.toInt + a5.toInt ≤ (gV σ 20 (a3.toInt.toNat) 2).toInt) ∧ r1.toInt = -1000012) ∨ ((0 ≤ a1.toInt ∧ a1.toInt ≤ 7 ∧ 0 ≤ a3.toInt ∧ a3.toInt ≤ 7) ∧ ¬ ((gV σ 20 (a1.toInt.toNat) 1).toInt = -1) ∧ ¬ ((gV σ 20 (a3.toInt.toNat) 1).toInt = -1) ∧ (gV σ 20 (a1.toInt.toNat) 1).toInt = (gV σ 20 (a3.toInt.toNat) 1).toInt ∧ (0 ≤ a2.toInt ∧ 0 ≤ a4.toInt ∧ 0 ≤ a5.toInt ∧ a2.toInt + a5.toInt ≤ (gV σ 20 (a1.toInt.toNat) 2).toInt ∧ a4.toInt + a5.toInt ≤ (gV σ 20 (a3.toInt.toNat) 2).toInt) ∧ r1.toInt = a5.toInt))) (hM : (((a1.toInt < 0 ∨ 7 < a1.toInt ∨ a3.toInt < 0 ∨ 7 < a3.toInt) ∧ r2.toInt = -1000001) ∨ ((0 ≤ a1.toInt ∧ a1.toInt ≤ 7 ∧ 0 ≤ a3.toInt ∧ a3.toInt ≤ 7) ∧ ((gV τ 26 0 (a1.toInt.toNat)).toInt < 0 ∨ (gV τ 26 0 (a3.toInt.toNat)).toInt < 0) ∧ r2.toInt = -1000011) ∨ ((0 ≤ a1.toInt ∧ a1.toInt ≤ 7 ∧ 0 ≤ a3.toInt ∧ a3.toInt ≤ 7) ∧ ¬ ((gV τ 26 0 (a1.toInt.toNat)).toInt < 0) ∧ ¬ ((gV τ 26 0 (a3.toInt.toNat)).toInt < 0) ∧ (gV τ 26 0 (a1.toInt.toNat)).toInt ≠ (gV τ 26 0 (a3.toInt.toNat)).toInt ∧ r2.toInt = -1000015) ∨ ((0 ≤ a1.toInt ∧ a1.toInt ≤ 7 ∧ 0 ≤ a3.toInt ∧ a3.toInt ≤ 7) ∧ ¬ ((gV τ 26 0 (a1.toInt.toNat)).toInt < 0) ∧ ¬ ((gV τ 26 0 (a3.toInt.toNat)).toInt < 0) ∧ (gV τ 26 0 (a1.toInt.toNat)).toInt = (gV τ 26 0 (a3.toInt.toNat)).toInt ∧ ¬ (0 ≤ a2.toInt ∧ 0 ≤ a4.toInt ∧ 0 ≤ a5.toInt ∧ a2.toInt + a5.toInt ≤ (gV τ 27 0 (a1.toInt.toNat)).toInt ∧ a4.toInt + a5.toInt ≤ (gV τ 27 0 (a3.toInt.toNat)).toInt) ∧ r2.toInt = -1000012) ∨ ((0 ≤ a1.toInt ∧ a1.toInt ≤ 7 ∧ 0 ≤ a3.toInt ∧ a3.toInt ≤ 7) ∧ ¬ ((gV τ 26 0 (a1.toInt.toNat)).toInt < 0) ∧ ¬ ((gV τ 26 0 (a3.toInt.toNat)).toInt < 0) ∧ (gV τ 26 0 (a1.toInt.toNat)).toInt = (gV τ 26 0 (a3.toInt.toNat)).toInt ∧ (0 ≤ a2.toInt ∧ 0 ≤ a4.toInt ∧ 0 ≤ a5.toInt ∧ a2.toInt + a5.toInt ≤ (gV τ 27 0 (a1.toInt.toNat)).toInt ∧ a4.toInt + a5.toInt ≤ (gV τ 27 0 (a3.toInt.toNat)).toInt) ∧ r2.toInt = a5.toInt))) : r1.toInt = r2.toInt := by
  have l1 : SameL σ τ := SameL.rf.fr f1 (by simp) (by decide)
  have l2 : SameR τ υ := SameR.rf.fr f2 (by simp) (by decide)
  have g1 : (a1.toInt.toNat) < 8 → (gV σ 20 (a1.toInt.toNat) 1).toInt = (gV τ 26 0 (a1.toInt.toNat)).toInt ∧ -1 ≤ (gV τ 26 0 (a1.toInt.toNat)).toInt ∧ (0 ≤ (gV τ 26 0 (a1.toInt.toNat)).toInt → (gV σ 20 (a1.toInt.toNat) 2).toInt = (gV τ 27 0 (a1.toInt.toNat)).toInt) := fun hj => by
    rw [(l1 (a1.toInt.toNat)).1, (l1 (a1.toInt.toNat)).2]
    exact ⟨congrArg Int32.toInt (h.1 (a1.toInt.toNat) hj).1, (h.1 (a1.toInt.toNat) hj).2.1, fun q => congrArg Int32.toInt ((h.1 (a1.toInt.toNat) hj).2.2 q)⟩
  have g3 : (a3.toInt.toNat) < 8 → (gV σ 20 (a3.toInt.toNat) 1).toInt = (gV τ 26 0 (a3.toInt.toNat)).toInt ∧ -1 ≤ (gV τ 26 0 (a3.toInt.toNat)).toInt ∧ (0 ≤ (gV τ 26 0 (a3.toInt.toNat)).toInt → (gV σ 20 (a3.toInt.toNat) 2).toInt = (gV τ 27 0 (a3.toInt.toNat)).toInt) := fun hj => by
    rw [(l1 (a3.toInt.toNat)).1, (l1 (a3.toInt.toNat)).2]
    exact ⟨congrArg Int32.toInt (h.1 (a3.toInt.toNat) hj).1, (h.1 (a3.toInt.toNat) hj).2.1, fun q => congrArg Int32.toInt ((h.1 (a3.toInt.toNat) hj).2.2 q)⟩
  rcases hC with c | ⟨c1, c2⟩ | ⟨c1, c2⟩ | ⟨c1, c2⟩ | ⟨c1, c2⟩
  · omega
  · have q := g1 (by omega)
    have q3 := g3 (by omega)
    omega
  · have q := g1 (by omega)
    have q3 := g3 (by omega)
    omega
  · have q := g1 (by omega)
    have q3 := g3 (by omega)
    omega
  · have q := g1 (by omega)
    have q3 := g3 (by omega)
    omega
theorem Rel.feedB {σ τ υ : Sg} {a2 r1 r2 : Int32} (h : Rel σ) (f1 : Fr MS_X11_feedE AS_X11_feedE σ τ) (f2 : Fr MS_X12_feedE AS_X12_feedE τ υ) (hC : (((a2.toInt < 1 ∨ 8 < a2.toInt) ∧ r1.toInt = -1000001 ∧ (gV τ 12 0 1).toInt = (gV σ 12 0 1).toInt) ∨ ((1 ≤ a2.toInt ∧ a2.toInt ≤ 8) ∧ 400 < (gV σ 12 0 1).toInt + a2.toInt ∧ r1.toInt = -1000003 ∧ (gV τ 12 0 1).toInt = (gV σ 12 0 1).toInt) ∨ ((1 ≤ a2.toInt ∧ a2.toInt ≤ 8) ∧ (gV σ 12 0 1).toInt + a2.toInt ≤ 400 ∧ r1.toInt = (gV σ 12 0 1).toInt + a2.toInt ∧ (gV τ 12 0 1).toInt = (gV σ 12 0 1).toInt + a2.toInt))) (hM : (((a2.toInt < 1 ∨ 8 < a2.toInt) ∧ r2.toInt = -1000001 ∧ (gV υ 22 0 6).toInt = (gV τ 22 0 6).toInt) ∨ ((1 ≤ a2.toInt ∧ a2.toInt ≤ 8) ∧ 400 < (gV τ 22 0 6).toInt + a2.toInt ∧ r2.toInt = -1000003 ∧ (gV υ 22 0 6).toInt = (gV τ 22 0 6).toInt) ∨ ((1 ≤ a2.toInt ∧ a2.toInt ≤ 8) ∧ (gV τ 22 0 6).toInt + a2.toInt ≤ 400 ∧ r2.toInt = (gV τ 22 0 6).toInt + a2.toInt ∧ (gV υ 22 0 6).toInt = (gV τ 22 0 6).toInt + a2.toInt))) : Rel υ ∧ r1.toInt = r2.toInt := by
  have l1 : SameR σ υ := (SameR.rf.fr f1 (by simp) (by decide)).fr f2 (by simp) (by decide)
  have l2 : SameL σ υ := (SameL.rf.fr f1 (by simp) (by decide)).fr f2 (by simp) (by decide)
  have t1 : (gV υ 12 0 1).toInt = (gV τ 12 0 1).toInt := congrArg Int32.toInt (f2.1 12 0 1 (by decide) (by decide))
  have t2 : (gV τ 22 0 6).toInt = (gV σ 22 0 6).toInt := congrArg Int32.toInt (f1.1 22 0 6 (by decide) (by decide))
  have t3 : (gV σ 12 0 1).toInt = (gV σ 22 0 6).toInt := congrArg Int32.toInt h.2
  exact ⟨h.tape l1 l2 (by omega), by omega⟩
theorem Rel.towerB {σ τ υ : Sg} {a2 r1 r2 : Int32} (h : Rel σ) (f1 : Fr MS_X11_towerE AS_X11_towerE σ τ) (f2 : Fr MS_X12_towerE AS_X12_towerE τ υ) (hC : (gV τ 12 0 1).toInt = 0) (hM : (gV υ 22 0 6).toInt = 0) : Rel υ := by
  have l1 : SameR σ υ := (SameR.rf.fr f1 (by simp) (by decide)).fr f2 (by simp) (by decide)
  have l2 : SameL σ υ := (SameL.rf.fr f1 (by simp) (by decide)).fr f2 (by simp) (by decide)
  have t1 : (gV υ 12 0 1).toInt = (gV τ 12 0 1).toInt := congrArg Int32.toInt (f2.1 12 0 1 (by decide) (by decide))
  have t2 : (gV τ 22 0 6).toInt = (gV σ 22 0 6).toInt := congrArg Int32.toInt (f1.1 22 0 6 (by decide) (by decide))
  have t3 : (gV σ 12 0 1).toInt = (gV σ 22 0 6).toInt := congrArg Int32.toInt h.2
  exact h.tape l1 l2 (by omega)
