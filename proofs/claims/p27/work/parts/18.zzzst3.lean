/-! ===== the same of the reference ===== -/
def StM (σ : Sg) (b : Nat) (S : Stt) : Prop := (S.2.1 ≤ 7 ∧ 0 ≤ S.1 ∧ S.1 ≤ 32) ∧ (gV σ 23 0 b).toInt = S.1 ∧ (gV σ 23 0 (b + 2)).toInt = S.2.1 ∧ ∀ i : Nat, (i : Int) < S.2.1 → (gV σ 23 0 (b + (3 + i))).toInt = (S.2.2 i).1 ∧ buF (S.2.2 i).1 (gV σ 23 0 (b + (10 + i))).toInt = (S.2.2 i).2.1 ∧ (gV σ 23 0 (b + (17 + i))).toInt = (S.2.2 i).2.2 ∧ (1 ≤ (gV σ 23 0 (b + (10 + i))).toInt ∧ (gV σ 23 0 (b + (10 + i))).toInt ≤ 20) ∧ (1 ≤ (S.2.2 i).1 ∧ (S.2.2 i).1 ≤ 5) ∧ (1 ≤ (S.2.2 i).2.2 ∧ (S.2.2 i).2.2 ≤ 4)
theorem StM.same {σ τ : Sg} {b d : Nat} {S : Stt} (h : StM σ b S) (e : ∀ k, k < 24 → gV τ 23 0 (d + k) = gV σ 23 0 (b + k)) : StM τ d S := by
  obtain ⟨h1, h2, h3, h4⟩ := h
  refine ⟨h1, ?_, ?_, fun i hi => ?_⟩
  · have q := e 0 (by decide)
    rw [Nat.add_zero, Nat.add_zero] at q
    rw [q]
    exact h2
  · rw [e 2 (by decide)]
    exact h3
  · rw [e (3 + i) (by omega), e (10 + i) (by omega), e (17 + i) (by omega)]
    exact h4 i hi
/-- nothing of this is touched but in the text's and in the trial's block -/
def SFm (σ τ : Sg) : Prop := ∀ k, k % 50 < 24 → k / 50 ≠ 3 → k / 50 ≠ 4 → gV τ 23 0 k = gV σ 23 0 k
theorem SFm.rf {σ : Sg} : SFm σ σ := fun _ _ _ _ => rfl
theorem SFm.trans {σ τ υ : Sg} (h : SFm σ τ) (g : SFm τ υ) : SFm σ υ := fun k h1 h2 h3 => (g k h1 h2 h3).trans (h k h1 h2 h3)
theorem SFm.put {σ τ υ : Sg} {k : Nat} {v : Int32} (h : SFm σ τ) (e : υ = sV τ 23 0 k v) (hk : 24 ≤ k % 50 ∨ k / 50 = 3 ∨ k / 50 = 4) : SFm σ υ := h.trans (fun q h1 h2 h3 => gV_putn e (Or.inr (Or.inr (fun z => by subst z; omega))))
theorem SFm.putO {σ τ υ : Sg} {t j k : Nat} {v : Int32} (h : SFm σ τ) (e : υ = sV τ t j k v) (ht : t ≠ 23) : SFm σ υ := h.trans (fun q _ _ _ => gV_putn e (Or.inl (Ne.symm ht)))
theorem SFm.fr {M : List (Nat × Nat)} {A : List Nat} {σ τ υ : Sg} (h : SFm σ τ) (f : Fr M A τ υ) (hm : ∀ k, (23, k) ∉ M) (ha : 23 ∉ A) : SFm σ υ := h.trans (fun q _ _ _ => f.1 23 0 q (hm q) ha)
theorem SFm.cp {σ τ υ : Sg} {s d : Nat} (h : SFm σ τ) (g : CpI s d 50 τ υ) (hd : d = 200) : SFm σ υ := h.trans (fun q h1 h2 h3 => g.2.2 23 0 q (Or.inr (Or.inr (by omega))))
/-- the reference: the tower, what can be undone, the images -/
def MA (σ : Sg) (S : Stt) (I : Nat → Stt) : Prop := StM σ 0 S ∧ (∀ k : Nat, (k : Int) < (gV σ 22 0 9).toInt → StM σ (250 + 50 * k) S) ∧ ∀ k, k < 2 → StM σ (50 + 50 * k) (I k) ∧ (((gV σ 24 0 k).toInt = 1 ∧ 0 < (I k).1) ∨ ((gV σ 24 0 k).toInt = 0 ∧ (I k).1 ≤ 0))
theorem MA.same {σ τ : Sg} {S : Stt} {I : Nat → Stt} (h : MA σ S I) (hI : Inv σ) (g : SFm σ τ) (e9 : gV τ 22 0 9 = gV σ 22 0 9) (ek : ∀ k, gV τ 24 0 k = gV σ 24 0 k) : MA τ S I := by
  have c : IV (gV σ 22 0 9) 0 24 := hI.1 22 0 9
  have c2 := c.2
  refine ⟨h.1.same (fun k hk => g _ (by omega) (by omega) (by omega)), fun k hk => ?_, fun k hk => ⟨(h.2.2 k hk).1.same (fun q hq => g _ (by omega) (by omega) (by omega)), ?_⟩⟩
  · rw [e9] at hk
    exact (h.2.1 k hk).same (fun q hq => g _ (by omega) (by omega) (by omega))
  · rw [ek]
    exact (h.2.2 k hk).2
theorem MA.sf {M : List (Nat × Nat)} {A : List Nat} {σ τ : Sg} {S : Stt} {I : Nat → Stt} (h : MA σ S I) (hI : Inv σ) (f : Fr M A σ τ) (g : SFm σ τ) (hm : (M.contains (22, 9) || M.any fun q => q.1 == 24) = false) (ha : (A.contains 22 || A.contains 24) = false) : MA τ S I := by
  rw [Bool.or_eq_false_iff] at hm ha
  have n1 : (22, 9) ∉ M := fun q => by rw [List.contains_iff_mem.mpr q] at hm; exact absurd hm.1 (by decide)
  have n2 : ∀ k, (24, k) ∉ M := fun k q => by
    have z := hm.2
    rw [List.any_eq_true.mpr ⟨(24, k), q, rfl⟩] at z
    exact absurd z (by decide)
  have n3 : 22 ∉ A := fun q => by rw [List.contains_iff_mem.mpr q] at ha; exact absurd ha.1 (by decide)
  have n4 : 24 ∉ A := fun q => by rw [List.contains_iff_mem.mpr q] at ha; exact absurd ha.2 (by decide)
  exact h.same hI g (f.1 22 0 9 n1 n3) (fun k => f.1 24 0 k (n2 k) n4)
theorem MA.fr {M : List (Nat × Nat)} {A : List Nat} {σ τ : Sg} {S : Stt} {I : Nat → Stt} (h : MA σ S I) (hI : Inv σ) (f : Fr M A σ τ) (hm : ((M.contains (22, 9) || M.any fun q => q.1 == 24) || M.any fun q => q.1 == 23) = false) (ha : ((A.contains 22 || A.contains 24) || A.contains 23) = false) : MA τ S I := by
  rw [Bool.or_eq_false_iff] at hm ha
  have n2 : ∀ k, (23, k) ∉ M := fun k q => by
    have z := hm.2
    rw [List.any_eq_true.mpr ⟨(23, k), q, rfl⟩] at z
    exact absurd z (by decide)
  have n3 : 23 ∉ A := fun q => by rw [List.contains_iff_mem.mpr q] at ha; exact absurd ha.2 (by decide)
  exact h.sf hI f (SFm.rf.fr f n2 n3) hm.1 ha.1
theorem MA.put23 {σ τ : Sg} {S : Stt} {I : Nat → Stt} {k : Nat} {v : Int32} (h : MA σ S I) (hI : Inv σ) (e : τ = sV σ 23 0 k v) (hk : 24 ≤ k % 50 ∨ k / 50 = 3 ∨ k / 50 = 4) : MA τ S I := h.same hI (SFm.rf.put e hk) (gV_putn e (Or.inl (by decide))) (fun _ => gV_putn e (Or.inl (by decide)))
theorem MA.put {σ τ : Sg} {S : Stt} {I : Nat → Stt} {t j k : Nat} {v : Int32} (h : MA σ S I) (hI : Inv σ) (e : τ = sV σ t j k v) (h2 : t ≠ 22 ∨ k ≠ 9) (h3 : t ≠ 23) (h4 : t ≠ 24) : MA τ S I := by
  refine h.same hI (SFm.rf.putO e h3) (gV_putn e ?_) (fun _ => gV_putn e (Or.inl (Ne.symm h4)))
  rcases h2 with g | g
  · exact Or.inl (Ne.symm g)
  · exact Or.inr (Or.inr (Ne.symm g))
/-- a block of the ring becomes one that is like the tower -/
theorem MA.ring {σ τ : Sg} {S : Stt} {I : Nat → Stt} {s d x : Nat} (h : MA σ S I) (g : CpI s d 50 σ τ) (hs : StM σ s S) (hd : d = 250 + 50 * x) : MA τ S I ∧ StM τ d S := by
  have hS : StM τ d S := hs.same (fun k hk => g.2.1 k (by omega))
  refine ⟨⟨h.1.same (fun k hk => g.2.2 23 0 _ (Or.inr (Or.inr (by omega)))), fun k hk => ?_, fun k hk => ⟨(h.2.2 k hk).1.same (fun q hq => g.2.2 23 0 _ (Or.inr (Or.inr (by omega)))), ?_⟩⟩, hS⟩
  · rw [g.2.2 22 0 9 (Or.inl (by decide))] at hk
    by_cases e : k = x
    · rw [e, ← hd]
      exact hS
    · exact (h.2.1 k hk).same (fun q hq => g.2.2 23 0 _ (Or.inr (Or.inr (by omega))))
  · rw [g.2.2 24 0 k (Or.inl (by decide))]
    exact (h.2.2 k hk).2
theorem MA.more {σ τ : Sg} {S : Stt} {I : Nat → Stt} {v : Int32} {d : Nat} (h : MA σ S I) (s : StM σ d S) (hd : (d : Int) = 250 + 50 * (gV σ 22 0 9).toInt) (e : τ = sV σ 22 0 9 v) (hv : v.toInt ≤ (gV σ 22 0 9).toInt + 1) : MA τ S I := by
  have key : ∀ b S', StM σ b S' → StM τ b S' := fun b S' s => s.same (fun k _ => gV_putn e (Or.inl (by decide)))
  refine ⟨key _ _ h.1, fun k hk => ?_, fun k hk => ⟨key _ _ (h.2.2 k hk).1, ?_⟩⟩
  · rw [show gV τ 22 0 9 = v by rw [e, gV_self]] at hk
    by_cases q : (k : Int) < (gV σ 22 0 9).toInt
    · exact key _ _ (h.2.1 k q)
    · rw [show 250 + 50 * k = d by omega]
      exact key _ _ s
  · rw [gV_putn e (Or.inl (by decide))]
    exact (h.2.2 k hk).2
theorem MA.less {σ τ : Sg} {S : Stt} {I : Nat → Stt} {v : Int32} (h : MA σ S I) (e : τ = sV σ 22 0 9 v) (hv : v.toInt ≤ (gV σ 22 0 9).toInt) : MA τ S I ∧ ∀ k : Nat, (k : Int) < (gV σ 22 0 9).toInt → StM τ (250 + 50 * k) S := by
  have key : ∀ b S', StM σ b S' → StM τ b S' := fun b S' s => s.same (fun k _ => gV_putn e (Or.inl (by decide)))
  refine ⟨⟨key _ _ h.1, fun k hk => ?_, fun k hk => ⟨key _ _ (h.2.2 k hk).1, ?_⟩⟩, fun k hk => key _ _ (h.2.1 k hk)⟩
  · rw [show gV τ 22 0 9 = v by rw [e, gV_self]] at hk
    exact key _ _ (h.2.1 k (by omega))
  · rw [gV_putn e (Or.inl (by decide))]
    exact (h.2.2 k hk).2
/-- the tower becomes what block s is -/
theorem MA.back {σ τ : Sg} {S S' : Stt} {I : Nat → Stt} {s d : Nat} (h : MA σ S I) (g : CpI s d 50 σ τ) (hs : StM σ s S') (hd : d = 0) (hS : S' = S ∨ (gV σ 22 0 9).toInt ≤ 0) : MA τ S' I := by
  subst hd
  refine ⟨hs.same (fun k hk => g.2.1 k (by omega)), fun k hk => ?_, fun k hk => ⟨(h.2.2 k hk).1.same (fun q hq => g.2.2 23 0 _ (Or.inr (Or.inr (by omega)))), ?_⟩⟩
  · rw [g.2.2 22 0 9 (Or.inl (by decide))] at hk
    rcases hS with q | q
    · subst q
      exact (h.2.1 k hk).same (fun q hq => g.2.2 23 0 _ (Or.inr (Or.inr (by omega))))
    · omega
  · rw [g.2.2 24 0 k (Or.inl (by decide))]
    exact (h.2.2 k hk).2
theorem MA.image {σ τ υ : Sg} {S : Stt} {I : Nat → Stt} {s d k : Nat} {v : Int32} (h : MA σ S I) (hI : Inv σ) (g : CpI s d 50 σ τ) (hs : s = 0) (hd : d = 50 + 50 * k) (hk : k < 2) (e : υ = sV τ 24 0 k v) (hv : v.toInt = 1) (h0 : 0 < S.1) : MA υ S (upI I k S) := by
  have c : IV (gV σ 22 0 9) 0 24 := hI.1 22 0 9
  have c2 := c.2
  have key : ∀ b S', StM τ b S' → StM υ b S' := fun b S' s => s.same (fun k _ => gV_putn e (Or.inl (by decide)))
  refine ⟨key _ _ (h.1.same (fun q hq => g.2.2 23 0 _ (Or.inr (Or.inr (by omega))))), fun q hq => ?_, fun q hq => ?_⟩
  · rw [gV_putn e (Or.inl (by decide)), g.2.2 22 0 9 (Or.inl (by decide))] at hq
    exact key _ _ ((h.2.1 q hq).same (fun z hz => g.2.2 23 0 _ (Or.inr (Or.inr (by omega)))))
  · unfold upI
    by_cases z : q = k
    · subst z
      rw [if_pos rfl, show gV υ 24 0 q = v by rw [e, gV_self], ← hd]
      subst hs
      exact ⟨key _ _ (h.1.same (fun y hy => g.2.1 y (by omega))), Or.inl ⟨hv, h0⟩⟩
    · rw [if_neg z, gV_putn e (Or.inr (Or.inr z)), g.2.2 24 0 q (Or.inl (by decide))]
      exact ⟨key _ _ ((h.2.2 q hq).1.same (fun y hy => g.2.2 23 0 _ (Or.inr (Or.inr (by omega))))), (h.2.2 q hq).2⟩
theorem MA.fresh {σ τ υ : Sg} {S S' : Stt} {I : Nat → Stt} {s d : Nat} {v : Int32} (h : MA σ S I) (g : CpI s d 50 σ τ) (hs : StM σ s S') (hd : d = 0) (e : υ = sV τ 22 0 9 v) (hv : v.toInt = 0) : MA υ S' I := by
  subst hd
  have key : ∀ b S', StM τ b S' → StM υ b S' := fun b S' s => s.same (fun k _ => gV_putn e (Or.inl (by decide)))
  refine ⟨key _ _ (hs.same (fun k hk => g.2.1 k (by omega))), fun k hk => ?_, fun k hk => ⟨key _ _ ((h.2.2 k hk).1.same (fun q hq => g.2.2 23 0 _ (Or.inr (Or.inr (by omega))))), ?_⟩⟩
  · rw [show gV υ 22 0 9 = v by rw [e, gV_self], hv] at hk
    exact absurd hk (by omega)
  · rw [gV_putn e (Or.inl (by decide)), g.2.2 24 0 k (Or.inl (by decide))]
    exact (h.2.2 k hk).2
