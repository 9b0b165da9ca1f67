/-! ===== reading a tower ===== -/
theorem Inv.putR {σ : Sg} (h : Inv σ) {k : Nat} {v : Int32} (hk : k / 50 = 3) (hv : IV v (bT 23 k).1 (bT 23 k).2) : Inv (sV σ 23 0 k v) := ⟨h.1.put hv, h.2.1.put (Or.inr (Or.inr hk)), h.2.2⟩
theorem bT_o {k : Nat} (h : k % 50 ≠ 2 ∧ k % 50 ≠ 38) : bT 23 k = mm := by
  show (if k % 50 = 2 then _ else if k % 50 = 38 then _ else _) = _
  rw [if_neg h.1, if_neg h.2]
theorem Inv.putRo {σ : Sg} (h : Inv σ) {k : Nat} {v : Int32} (hk : k / 50 = 3 ∧ k % 50 ≠ 2 ∧ k % 50 ≠ 38) : Inv (sV σ 23 0 k v) := h.putR hk.1 (by rw [bT_o hk.2]; exact iv_any v)
theorem Inv.putR0 {σ : Sg} (h : Inv σ) {k : Nat} {v : Int32} (hk : k / 50 = 3) (hv : v.toInt = 0) : Inv (sV σ 23 0 k v) := h.putR hk (by
  show IV v (if k % 50 = 2 then _ else if k % 50 = 38 then _ else _ : Int × Int).1 (if k % 50 = 2 then _ else if k % 50 = 38 then _ else _ : Int × Int).2
  by_cases g : k % 50 = 2
  · rw [if_pos g]
    exact ⟨by rw [hv]; decide, by rw [hv]; decide⟩
  · rw [if_neg g]
    by_cases g2 : k % 50 = 38
    · rw [if_pos g2]
      exact ⟨by rw [hv]; decide, by rw [hv]; decide⟩
    · rw [if_neg g2]
      exact iv_any v)
theorem zero152 {τ υ : Sg} {n : Nat} {v : Int32} (e : υ = sV τ 23 0 n v) (hv : v.toInt = 0) (h : n = 152 ∨ (gV τ 23 0 152).toInt = 0) : (gV υ 23 0 152).toInt = 0 := by
  subst e
  by_cases g : n = 152
  · subst g
    rw [gV_self]
    exact hv
  · rw [gV_ne (Or.inr (Or.inr (Ne.symm g)))]
    rcases h with q | q
    · exact absurd q g
    · exact q
/-- the paces of those below P -/
def CP (P : Int) (σ : Sg) : Prop := ∀ q : Nat, (q : Int) < P → 1 ≤ (gV σ 23 0 (167 + q)).toInt
theorem CP.put {P : Int} {σ τ : Sg} {t j k : Nat} {v : Int32} (h : CP P σ) (e : τ = sV σ t j k v) (hk : t ≠ 23 ∨ ∀ q : Nat, (q : Int) < P → 167 + q ≠ k) : CP P τ := fun q hq => by
  rw [gV_putn e (hk.elim (fun g => Or.inl (Ne.symm g)) (fun g => Or.inr (Or.inr (g q hq))))]
  exact h q hq
theorem CP.call {P : Int} {σ τ : Sg} (h : CP P σ) (e : ∀ k, gV τ 23 0 k = gV σ 23 0 k) : CP P τ := fun q hq => by rw [e]; exact h q hq
def CQ (P : Nat) (σ : Sg) : Prop := (gV σ 22 0 16).toInt = 0 → 1 ≤ (gV σ 23 0 (167 + P)).toInt
theorem CQ.put {P : Nat} {σ τ : Sg} {t j k : Nat} {v : Int32} (h : CQ P σ) (e : τ = sV σ t j k v) (h16 : t ≠ 22 ∨ k ≠ 16) (hk : t ≠ 23 ∨ 167 + P ≠ k) : CQ P τ := fun q => by
  rw [gV_putn e (h16.elim (fun g => Or.inl (Ne.symm g)) (fun g => Or.inr (Or.inr (Ne.symm g))))] at q
  rw [gV_putn e (hk.elim (fun g => Or.inl (Ne.symm g)) (fun g => Or.inr (Or.inr g)))]
  exact h q
theorem CQ.call {P : Nat} {σ τ : Sg} (h : CQ P σ) (hf : (gV τ 22 0 16).toInt = 0 → (gV σ 22 0 16).toInt = 0) (e : ∀ k, gV τ 23 0 k = gV σ 23 0 k) : CQ P τ := fun q => by rw [e]; exact h (hf q)
theorem Pb.mk {τ : Sg} {P : Int} (hP : 0 ≤ P) (h1 : CP P τ) (h2 : 1 ≤ (gV τ 23 0 (167 + P.toNat)).toInt) (hw : (gV τ 23 0 152).toInt = P + 1) : Pb τ := fun p hp hlt => by
  by_cases g : (p : Int) < P
  · exact h1 p g
  · rw [show p = P.toNat by omega]
    exact h2
theorem Pb.cp {σ : Sg} (h : Pb σ) (hI : Inv σ) : CP (gV σ 23 0 152).toInt σ := fun q hq => h q (by have b : IV (gV σ 23 0 152) 0 7 := hI.1 23 0 152; omega) hq
theorem Pb.put {σ τ : Sg} {t j k : Nat} {v : Int32} (h : Pb σ) (e : τ = sV σ t j k v) (hk : t ≠ 23 ∨ (k ≠ 152 ∧ (k < 167 ∨ 173 < k))) : Pb τ := fun p hp hlt => by
  rw [gV_putn e (hk.elim (fun g => Or.inl (Ne.symm g)) (fun g => Or.inr (Or.inr (by omega))))] at hlt
  rw [gV_putn e (hk.elim (fun g => Or.inl (Ne.symm g)) (fun g => Or.inr (Or.inr (by omega))))]
  exact h p hp hlt
theorem Pb.call {σ τ : Sg} (h : Pb σ) (e : ∀ k, gV τ 23 0 k = gV σ 23 0 k) : Pb τ := fun p hp hlt => by
  rw [e] at hlt ⊢
  exact h p hp hlt
/-- without a fault what was read is good -/
def PF (σ : Sg) : Prop := (gV σ 22 0 16).toInt = 0 → Pb σ
theorem PF.put {σ τ : Sg} {t j k : Nat} {v : Int32} (h : PF σ) (e : τ = sV σ t j k v) (h16 : t ≠ 22 ∨ k ≠ 16) (hk : t ≠ 23 ∨ (k ≠ 152 ∧ (k < 167 ∨ 173 < k))) : PF τ := fun q => by
  rw [gV_putn e (h16.elim (fun g => Or.inl (Ne.symm g)) (fun g => Or.inr (Or.inr (Ne.symm g))))] at q
  exact (h q).put e hk
theorem PF.fault {σ τ : Sg} {v : Int32} (h : PF σ) (e : τ = sV σ 22 0 16 v) (hv : v.toInt = 0 → (gV σ 22 0 16).toInt = 0) : PF τ := fun q => by
  have e2 : gV τ 22 0 16 = v := by rw [e]; exact gV_self _ _ _ _ _
  rw [e2] at q
  exact (h (hv q)).put e (Or.inl (by decide))
theorem PF.call {σ τ : Sg} (h : PF σ) (hf : (gV τ 22 0 16).toInt = 0 → (gV σ 22 0 16).toInt = 0) (e : ∀ k, gV τ 23 0 k = gV σ 23 0 k) : PF τ := fun q => (h (hf q)).call e
theorem PF.zero {σ : Sg} (h : (gV σ 23 0 152).toInt = 0) : PF σ := fun _ p _ hlt => absurd hlt (by rw [h]; omega)
