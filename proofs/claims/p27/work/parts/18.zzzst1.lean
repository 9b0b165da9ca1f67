/-! ===== what no act of a tower changes: steps, how many people, of each the kind, the burden, the pace ===== -/
abbrev Stt : Type := Int × Int × (Nat → Int × Int × Int)
/-- the kind of a person of class c -/
def kdF (c : Nat) : Int := if c = 4 then 1 else if c = 9 then 2 else if c = 2 then 3 else if c = 3 then 4 else 5
/-- the burden of a weight -/
def buF (k w : Int) : Int := if k = 2 then 2 * w else if k = 5 then w + 5 else if k = 3 then w / 2 else w
/-- the persons that are there stay as they are -/
def PGr (σ τ : Sg) : Prop := ∀ a, a ∈ σ.2.2.2.1 → a ∈ τ.2.2.2.1 ∧ τ.2.2.2.2.1 a = σ.2.2.2.2.1 a ∧ τ.2.2.2.2.2 a = σ.2.2.2.2.2 a
theorem PGr.rf {σ : Sg} : PGr σ σ := fun _ h => ⟨h, rfl, rfl⟩
theorem PGr.eq {σ τ : Sg} (e : τ.2.2.2 = σ.2.2.2) : PGr σ τ := fun a h => by rw [e]; exact ⟨h, rfl, rfl⟩
theorem PGr.fr {M : List (Nat × Nat)} {A : List Nat} {σ τ : Sg} (f : Fr M A σ τ) (h : A.contains 99 = false) : PGr σ τ := PGr.eq (f.2.2 (fun q => by rw [List.contains_iff_mem.mpr q] at h; exact absurd h (by decide)))
theorem PGr.trans {σ τ υ : Sg} (h : PGr σ τ) (g : PGr τ υ) : PGr σ υ := fun a ha => ⟨(g a (h a ha).1).1, (g a (h a ha).1).2.1.trans (h a ha).2.1, (g a (h a ha).1).2.2.trans (h a ha).2.2⟩
/-- of person a -/
def PeC (σ : Sg) (a : Nat) (i : Nat) (q : Int × Int × Int) : Prop := a ∈ σ.2.2.2.1 ∧ kdF (σ.2.2.2.2.1 a) = q.1 ∧ (σ.2.2.2.2.2 a 0).toInt = (i : Int) ∧ (σ.2.2.2.2.2 a 1).toInt = q.2.1 ∧ (σ.2.2.2.2.2 a 2).toInt = q.2.2
theorem PeC.gr {σ τ : Sg} {a i : Nat} {q : Int × Int × Int} (h : PeC σ a i q) (g : PGr σ τ) : PeC τ a i q := by
  obtain ⟨g1, g2, g3⟩ := g a h.1
  unfold PeC
  rw [g2, g3]
  exact ⟨g1, h.2⟩
/-- tower j of the class -/
def StC (σ : Sg) (j : Nat) (S : Stt) : Prop := S.2.1 ≤ 7 ∧ (gV σ 1 j 0).toInt = S.1 ∧ (gV σ 1 j 2).toInt = S.2.1 ∧ ∀ i : Nat, (i : Int) < S.2.1 → ∃ a, σ.2.1 j i = some a ∧ PeC σ a i (S.2.2 i)
theorem StC.same {σ τ : Sg} {j j2 : Nat} {S : Stt} (h : StC σ j S) (e0 : (gV τ 1 j2 0).toInt = (gV σ 1 j 0).toInt) (e2 : (gV τ 1 j2 2).toInt = (gV σ 1 j 2).toInt) (ep : ∀ i, i < 7 → τ.2.1 j2 i = σ.2.1 j i) (g : PGr σ τ) : StC τ j2 S := by
  obtain ⟨h1, h2, h3, h4⟩ := h
  refine ⟨h1, e0.trans h2, e2.trans h3, fun i hi => ?_⟩
  obtain ⟨a, a1, a2⟩ := h4 i hi
  exact ⟨a, (ep i (by omega)).trans a1, a2.gr g⟩
/-- but for tower j nothing of this is touched; n of its persons are those of tower j2 -/
def TF (j j2 n : Nat) (σ τ : Sg) : Prop := (∀ j', j' ≠ j → gV τ 1 j' 0 = gV σ 1 j' 0 ∧ gV τ 1 j' 2 = gV σ 1 j' 2 ∧ ∀ i, τ.2.1 j' i = σ.2.1 j' i) ∧ ∀ i, i < n → τ.2.1 j i = σ.2.1 j2 i
theorem TF.rf {j j2 : Nat} {σ : Sg} : TF j j2 0 σ σ := ⟨fun _ _ => ⟨rfl, rfl, fun _ => rfl⟩, fun _ h => absurd h (Nat.not_lt_zero _)⟩
theorem TF.put {j j2 n k : Nat} {v : Int32} {σ τ υ : Sg} (h : TF j j2 n σ τ) (e : υ = sV τ 1 j k v) : TF j j2 n σ υ := by
  subst e
  refine ⟨fun j' hj => ?_, h.2⟩
  rw [gV_ne (Or.inr (Or.inl hj)), gV_ne (Or.inr (Or.inl hj))]
  exact h.1 j' hj
theorem TF.putO {j j2 n t j3 k : Nat} {v : Int32} {σ τ υ : Sg} (h : TF j j2 n σ τ) (e : υ = sV τ t j3 k v) (ht : t ≠ 1) : TF j j2 n σ υ := by
  subst e
  refine ⟨fun j' hj => ?_, h.2⟩
  rw [gV_ne (Or.inl (Ne.symm ht)), gV_ne (Or.inl (Ne.symm ht))]
  exact h.1 j' hj
theorem TF.putQ {j j2 n : Nat} {v : Option Nat} {σ τ υ : Sg} (h : TF j j2 n σ τ) (e : υ = sQ τ j n v) (hj : j2 ≠ j) (hv : τ.2.1 j2 n = v) : TF j j2 (n + 1) σ υ := by
  subst e
  refine ⟨fun j' hj' => ⟨(h.1 j' hj').1, (h.1 j' hj').2.1, fun i => ?_⟩, fun i hi => ?_⟩
  · show (if j' = j ∧ i = n then v else τ.2.1 j' i) = _
    rw [if_neg (fun q => hj' q.1)]
    exact (h.1 j' hj').2.2 i
  · show (if j = j ∧ i = n then v else τ.2.1 j i) = _
    by_cases g : i = n
    · subst g
      rw [if_pos ⟨rfl, rfl⟩, ← hv]
      exact (h.1 j2 hj).2.2 i
    · rw [if_neg (fun q => g q.2)]
      exact h.2 i (by omega)
theorem TF.cast {j j2 n m : Nat} {σ τ : Sg} (h : TF j j2 n σ τ) (e : n = m) : TF j j2 m σ τ := e ▸ h
/-- tower j is as j2 was -/
def TFa (j j2 : Nat) (σ τ : Sg) : Prop := TF j j2 7 σ τ ∧ (gV τ 1 j 0).toInt = (gV σ 1 j2 0).toInt ∧ (gV τ 1 j 2).toInt = (gV σ 1 j2 2).toInt
theorem TFa.stc {j j2 : Nat} {σ τ : Sg} {S : Stt} (h : TFa j j2 σ τ) (g : PGr σ τ) (s : StC σ j2 S) : StC τ j S := s.same h.2.1 h.2.2 h.1.2 g
theorem TFa.sto {j j2 j' : Nat} {σ τ : Sg} {S : Stt} (h : TFa j j2 σ τ) (g : PGr σ τ) (hj : j' ≠ j) (s : StC σ j' S) : StC τ j' S := s.same (congrArg Int32.toInt (h.1.1 j' hj).1) (congrArg Int32.toInt (h.1.1 j' hj).2.1) (fun i _ => (h.1.1 j' hj).2.2 i) g
/-- nothing of this is touched but in the trial -/
def SFc (σ τ : Sg) : Prop := ∀ j, j ≠ 1 → gV τ 1 j 0 = gV σ 1 j 0 ∧ gV τ 1 j 2 = gV σ 1 j 2 ∧ ∀ i, τ.2.1 j i = σ.2.1 j i
theorem SFc.rf {σ : Sg} : SFc σ σ := fun _ _ => ⟨rfl, rfl, fun _ => rfl⟩
theorem SFc.trans {σ τ υ : Sg} (h : SFc σ τ) (g : SFc τ υ) : SFc σ υ := fun j hj => ⟨(g j hj).1.trans (h j hj).1, (g j hj).2.1.trans (h j hj).2.1, fun i => ((g j hj).2.2 i).trans ((h j hj).2.2 i)⟩
theorem SFc.take {σ τ υ : Sg} {j2 : Nat} (h : SFc σ τ) (g : TFa 1 j2 τ υ) : SFc σ υ := h.trans g.1.1
theorem SFc.put {σ τ υ : Sg} {t j k : Nat} {v : Int32} (h : SFc σ τ) (e : υ = sV τ t j k v) (hk : t ≠ 1 ∨ (k ≠ 0 ∧ k ≠ 2)) : SFc σ υ := by
  subst e
  refine h.trans (fun q _ => ⟨gV_ne ?_, gV_ne ?_, fun _ => rfl⟩)
  · rcases hk with g | g
    · exact Or.inl (Ne.symm g)
    · exact Or.inr (Or.inr (Ne.symm g.1))
  · rcases hk with g | g
    · exact Or.inl (Ne.symm g)
    · exact Or.inr (Or.inr (Ne.symm g.2))
theorem SFc.row {σ τ υ : Sg} {t j : Nat} {g : Nat → Int32} (h : SFc σ τ) (e : υ = sR τ t j g) (ht : t ≠ 1) : SFc σ υ := by
  subst e
  exact h.trans (fun q _ => ⟨gV_sR (Or.inl (Ne.symm ht)), gV_sR (Or.inl (Ne.symm ht)), fun _ => rfl⟩)
theorem SFc.fr {M : List (Nat × Nat)} {A : List Nat} {σ τ υ : Sg} (h : SFc σ τ) (f : Fr M A τ υ) (hm : (M.contains (1, 0) || M.contains (1, 2)) = false) (ha : (A.contains 1 || A.contains 6) = false) : SFc σ υ := by
  rw [Bool.or_eq_false_iff] at hm ha
  have n1 : (1, 0) ∉ M := fun q => by rw [List.contains_iff_mem.mpr q] at hm; exact absurd hm.1 (by decide)
  have n2 : (1, 2) ∉ M := fun q => by rw [List.contains_iff_mem.mpr q] at hm; exact absurd hm.2 (by decide)
  have n3 : 1 ∉ A := fun q => by rw [List.contains_iff_mem.mpr q] at ha; exact absurd ha.1 (by decide)
  have n4 : 6 ∉ A := fun q => by rw [List.contains_iff_mem.mpr q] at ha; exact absurd ha.2 (by decide)
  exact h.trans (fun q _ => ⟨f.1 1 q 0 n1 n3, f.1 1 q 2 n2 n3, fun i => by rw [f.2.1 n4]⟩)
/-- the class: the tower, what can be undone, the images -/
def CA (σ : Sg) (S : Stt) (I : Nat → Stt) : Prop := StC σ 0 S ∧ (∀ k : Nat, (k : Int) < (gV σ 0 0 6).toInt → StC σ ((((gV σ 0 0 5).toInt.toNat + k) % 24) + 2) S) ∧ ∀ k, k < 2 → StC σ (k + 26) (I k)
theorem CA.same {σ τ : Sg} {S : Stt} {I : Nat → Stt} (h : CA σ S I) (g : SFc σ τ) (p : PGr σ τ) (e5 : gV τ 0 0 5 = gV σ 0 0 5) (e6 : gV τ 0 0 6 = gV σ 0 0 6) : CA τ S I := by
  have key : ∀ j S', j ≠ 1 → StC σ j S' → StC τ j S' := fun j S' hj s => s.same (congrArg Int32.toInt (g j hj).1) (congrArg Int32.toInt (g j hj).2.1) (fun i _ => (g j hj).2.2 i) p
  refine ⟨key 0 S (by decide) h.1, fun k hk => ?_, fun k hk => key _ _ (by omega) (h.2.2 k hk)⟩
  rw [e6] at hk
  rw [e5]
  exact key _ _ (by omega) (h.2.1 k hk)
theorem CA.sf {M : List (Nat × Nat)} {A : List Nat} {σ τ : Sg} {S : Stt} {I : Nat → Stt} (h : CA σ S I) (f : Fr M A σ τ) (g : SFc σ τ) (hm : (M.contains (0, 5) || M.contains (0, 6)) = false) (ha : (A.contains 0 || A.contains 99) = false) : CA τ S I := by
  rw [Bool.or_eq_false_iff] at hm ha
  have n1 : (0, 5) ∉ M := fun q => by rw [List.contains_iff_mem.mpr q] at hm; exact absurd hm.1 (by decide)
  have n2 : (0, 6) ∉ M := fun q => by rw [List.contains_iff_mem.mpr q] at hm; exact absurd hm.2 (by decide)
  have n3 : 0 ∉ A := fun q => by rw [List.contains_iff_mem.mpr q] at ha; exact absurd ha.1 (by decide)
  exact h.same g (PGr.fr f ha.2) (f.1 0 0 5 n1 n3) (f.1 0 0 6 n2 n3)
theorem CA.fr {M : List (Nat × Nat)} {A : List Nat} {σ τ : Sg} {S : Stt} {I : Nat → Stt} (h : CA σ S I) (f : Fr M A σ τ) (hm : ((M.contains (0, 5) || M.contains (0, 6)) || (M.contains (1, 0) || M.contains (1, 2))) = false) (ha : ((A.contains 0 || A.contains 99) || (A.contains 1 || A.contains 6)) = false) : CA τ S I := by
  rw [Bool.or_eq_false_iff] at hm ha
  exact h.sf f (SFc.rf.fr f hm.2 ha.2) hm.1 ha.1
theorem CA.put {σ τ : Sg} {S : Stt} {I : Nat → Stt} {t j k : Nat} {v : Int32} (h : CA σ S I) (e : τ = sV σ t j k v) (h0 : t ≠ 0 ∨ (k ≠ 5 ∧ k ≠ 6)) (h1 : t ≠ 1 ∨ (k ≠ 0 ∧ k ≠ 2)) : CA τ S I := by
  refine h.same (SFc.rf.put e h1) (PGr.eq (by rw [e]; rfl)) (gV_putn e ?_) (gV_putn e ?_)
  · rcases h0 with g | g
    · exact Or.inl (Ne.symm g)
    · exact Or.inr (Or.inr (Ne.symm g.1))
  · rcases h0 with g | g
    · exact Or.inl (Ne.symm g)
    · exact Or.inr (Or.inr (Ne.symm g.2))
/-- one of those that can be undone becomes the tower -/
theorem CA.keep {M : List (Nat × Nat)} {A : List Nat} {σ τ : Sg} {S : Stt} {I : Nat → Stt} {x : Nat} (h : CA σ S I) (f : Fr M A σ τ) (g : TFa (x + 2) 0 σ τ) (hx : x < 24) (hm : (M.contains (0, 5) || M.contains (0, 6)) = false) (ha : (A.contains 0 || A.contains 99) = false) : CA τ S I ∧ StC τ (x + 2) S := by
  rw [Bool.or_eq_false_iff] at hm ha
  have n1 : (0, 5) ∉ M := fun q => by rw [List.contains_iff_mem.mpr q] at hm; exact absurd hm.1 (by decide)
  have n2 : (0, 6) ∉ M := fun q => by rw [List.contains_iff_mem.mpr q] at hm; exact absurd hm.2 (by decide)
  have n3 : 0 ∉ A := fun q => by rw [List.contains_iff_mem.mpr q] at ha; exact absurd ha.1 (by decide)
  have p : PGr σ τ := PGr.fr f ha.2
  have s := g.stc p h.1
  refine ⟨⟨g.sto p (by omega) h.1, fun k hk => ?_, fun k hk => g.sto p (by omega) (h.2.2 k hk)⟩, s⟩
  rw [f.1 0 0 6 n2 n3] at hk
  rw [f.1 0 0 5 n1 n3]
  by_cases q : ((gV σ 0 0 5).toInt.toNat + k) % 24 = x
  · rw [q]
    exact s
  · exact g.sto p (by omega) (h.2.1 k hk)
theorem CA.older {σ τ : Sg} {S : Stt} {I : Nat → Stt} {v : Int32} (h : CA σ S I) (hI : Inv σ) (e : τ = sV σ 0 0 5 v) (hv : v.toInt = ((gV σ 0 0 5).toInt + 1) % 24) (h6 : (gV σ 0 0 6).toInt = 24) : CA τ S I := by
  have b : IV (gV σ 0 0 5) 0 23 := hI.1 0 0 5
  have b1 := b.1
  have b2 := b.2
  have key : ∀ j S', StC σ j S' → StC τ j S' := fun j S' s => s.same (congrArg Int32.toInt (gV_putn e (Or.inl (by decide)))) (congrArg Int32.toInt (gV_putn e (Or.inl (by decide)))) (fun i _ => by rw [e]; rfl) (PGr.eq (by rw [e]; rfl))
  refine ⟨key _ _ h.1, fun k hk => ?_, fun k hk => key _ _ (h.2.2 k hk)⟩
  rw [gV_putn e (Or.inr (Or.inr (by decide))), h6] at hk
  have ev : gV τ 0 0 5 = v := by rw [e, gV_self]
  rw [ev, show (v.toInt.toNat + k) % 24 = ((gV σ 0 0 5).toInt.toNat + (k + 1) % 24) % 24 by omega]
  exact key _ _ (h.2.1 ((k + 1) % 24) (by omega))
theorem CA.more {σ τ : Sg} {S : Stt} {I : Nat → Stt} {v : Int32} {x : Nat} (h : CA σ S I) (hI : Inv σ) (s : StC σ (x + 2) S) (hx : (x : Int) = ((gV σ 0 0 5).toInt + (gV σ 0 0 6).toInt) % 24) (e : τ = sV σ 0 0 6 v) (hv : v.toInt = (gV σ 0 0 6).toInt + 1) : CA τ S I := by
  have b : IV (gV σ 0 0 5) 0 23 := hI.1 0 0 5
  have b1 := b.1
  have b2 := b.2
  have c : IV (gV σ 0 0 6) 0 24 := hI.1 0 0 6
  have c1 := c.1
  have c2 := c.2
  have key : ∀ j S', StC σ j S' → StC τ j S' := fun j S' s => s.same (congrArg Int32.toInt (gV_putn e (Or.inl (by decide)))) (congrArg Int32.toInt (gV_putn e (Or.inl (by decide)))) (fun i _ => by rw [e]; rfl) (PGr.eq (by rw [e]; rfl))
  refine ⟨key _ _ h.1, fun k hk => ?_, fun k hk => key _ _ (h.2.2 k hk)⟩
  have ev : gV τ 0 0 6 = v := by rw [e, gV_self]
  rw [ev, hv] at hk
  rw [gV_putn e (Or.inr (Or.inr (by decide)))]
  by_cases q : (k : Int) < (gV σ 0 0 6).toInt
  · exact key _ _ (h.2.1 k q)
  · rw [show ((gV σ 0 0 5).toInt.toNat + k) % 24 = x by omega]
    exact key _ _ s
/-- fewer can be undone; the one that is left out is there yet -/
theorem CA.less {σ τ : Sg} {S : Stt} {I : Nat → Stt} {v : Int32} (h : CA σ S I) (e : τ = sV σ 0 0 6 v) (hv : v.toInt ≤ (gV σ 0 0 6).toInt) : CA τ S I ∧ ∀ k : Nat, (k : Int) < (gV σ 0 0 6).toInt → StC τ ((((gV τ 0 0 5).toInt.toNat + k) % 24) + 2) S := by
  have key : ∀ j S', StC σ j S' → StC τ j S' := fun j S' s => s.same (congrArg Int32.toInt (gV_putn e (Or.inl (by decide)))) (congrArg Int32.toInt (gV_putn e (Or.inl (by decide)))) (fun i _ => by rw [e]; rfl) (PGr.eq (by rw [e]; rfl))
  have e5 : gV τ 0 0 5 = gV σ 0 0 5 := gV_putn e (Or.inr (Or.inr (by decide)))
  have ev : gV τ 0 0 6 = v := by rw [e, gV_self]
  refine ⟨⟨key _ _ h.1, fun k hk => ?_, fun k hk => key _ _ (h.2.2 k hk)⟩, fun k hk => ?_⟩
  · rw [ev] at hk
    rw [e5]
    exact key _ _ (h.2.1 k (by omega))
  · rw [e5]
    exact key _ _ (h.2.1 k hk)
/-- the tower becomes what j2 is -/
theorem CA.back {M : List (Nat × Nat)} {A : List Nat} {σ τ : Sg} {S S' : Stt} {I : Nat → Stt} {j2 : Nat} (h : CA σ S I) (f : Fr M A σ τ) (g : TFa 0 j2 σ τ) (s : StC σ j2 S') (hm : (M.contains (0, 5) || M.contains (0, 6)) = false) (ha : (A.contains 0 || A.contains 99) = false) (hS : S' = S ∨ (gV σ 0 0 6).toInt ≤ 0) : CA τ S' I := by
  rw [Bool.or_eq_false_iff] at hm ha
  have n1 : (0, 5) ∉ M := fun q => by rw [List.contains_iff_mem.mpr q] at hm; exact absurd hm.1 (by decide)
  have n2 : (0, 6) ∉ M := fun q => by rw [List.contains_iff_mem.mpr q] at hm; exact absurd hm.2 (by decide)
  have n3 : 0 ∉ A := fun q => by rw [List.contains_iff_mem.mpr q] at ha; exact absurd ha.1 (by decide)
  have p : PGr σ τ := PGr.fr f ha.2
  refine ⟨g.stc p s, fun k hk => ?_, fun k hk => g.sto p (by omega) (h.2.2 k hk)⟩
  rw [f.1 0 0 6 n2 n3] at hk
  rw [f.1 0 0 5 n1 n3]
  rcases hS with q | q
  · subst q
    exact g.sto p (by omega) (h.2.1 k hk)
  · omega
/-- image k becomes the tower -/
def upI (I : Nat → Stt) (k : Nat) (S : Stt) : Nat → Stt := fun q => if q = k then S else I q
theorem CA.image {M : List (Nat × Nat)} {A : List Nat} {σ τ : Sg} {S : Stt} {I : Nat → Stt} {k : Nat} (h : CA σ S I) (f : Fr M A σ τ) (g : TFa (k + 26) 0 σ τ) (hm : (M.contains (0, 5) || M.contains (0, 6)) = false) (ha : (A.contains 0 || A.contains 99) = false) : CA τ S (upI I k S) := by
  rw [Bool.or_eq_false_iff] at hm ha
  have n1 : (0, 5) ∉ M := fun q => by rw [List.contains_iff_mem.mpr q] at hm; exact absurd hm.1 (by decide)
  have n2 : (0, 6) ∉ M := fun q => by rw [List.contains_iff_mem.mpr q] at hm; exact absurd hm.2 (by decide)
  have n3 : 0 ∉ A := fun q => by rw [List.contains_iff_mem.mpr q] at ha; exact absurd ha.1 (by decide)
  have p : PGr σ τ := PGr.fr f ha.2
  refine ⟨g.sto p (by omega) h.1, fun q hq => ?_, fun q hq => ?_⟩
  · rw [f.1 0 0 6 n2 n3] at hq
    rw [f.1 0 0 5 n1 n3]
    exact g.sto p (by omega) (h.2.1 q hq)
  · unfold upI
    by_cases e : q = k
    · rw [if_pos e, e]
      exact g.stc p h.1
    · rw [if_neg e]
      exact g.sto p (by omega) (h.2.2 q hq)
theorem ti_rem {x y : Int32} {a b c : Int} (hx : IV x a b) (hy : IV y c c) (h : 0 ≤ a ∧ 0 < c) : (x - x / y * y).toInt = x.toInt % c := by
  obtain ⟨h1, h2⟩ := h
  obtain ⟨x1, x2⟩ := hx
  obtain ⟨y1, y2⟩ := hy
  have e0 : (0 : Int32).toInt = 0 := by decide
  have hx0 : ¬ x < 0 := by rw [ti_nlt]; omega
  have hy0 : ¬ y < 0 := by rw [ti_nlt]; omega
  obtain ⟨i, hi', rfl⟩ := nI_of hx0
  obtain ⟨j, hj, rfl⟩ := nI_of hy0
  rw [nI_toInt hj] at y1 y2
  have hm : i % j < j := Nat.mod_lt _ (by omega)
  rw [pk_rem hi' (by omega) hj, nI_toInt (by omega), nI_toInt hi', show c = (j : Int) by omega]
  rfl
/-- another tower, nothing to be undone -/
theorem CA.fresh {σ τ υ : Sg} {S' : Stt} {I : Nat → Stt} {j2 : Nat} {v : Int32} (h : ∀ k, k < 2 → StC σ (k + 26) (I k)) (p : PGr σ τ) (g : TFa 0 j2 σ τ) (s : StC σ j2 S') (e : υ = sV τ 0 0 6 v) (hv : v.toInt = 0) : CA υ S' I := by
  have key : ∀ j S', StC τ j S' → StC υ j S' := fun j S' s => s.same (congrArg Int32.toInt (gV_putn e (Or.inl (by decide)))) (congrArg Int32.toInt (gV_putn e (Or.inl (by decide)))) (fun i _ => by rw [e]; rfl) (PGr.eq (by rw [e]; rfl))
  refine ⟨key _ _ (g.stc p s), fun k hk => ?_, fun k hk => key _ _ (g.sto p (by omega) (h k hk))⟩
  rw [show gV υ 0 0 6 = v by rw [e, gV_self], hv] at hk
  exact absurd hk (by omega)
