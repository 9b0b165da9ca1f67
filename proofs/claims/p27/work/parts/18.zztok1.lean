/-! ===== tokens of a tape ===== -/
def isBl (v : Int) : Bool := decide (v = 32 ∨ v = 10)
def isLe (v : Int) : Bool := decide (97 ≤ v ∧ v ≤ 122)
def isFi (v : Int) : Bool := decide (48 ≤ v ∧ v ≤ 57)
theorem isBl_t {v : Int} (h : v = 32 ∨ v = 10) : isBl v = true := decide_eq_true h
theorem isBl_f {v : Int} (h : ¬ (v = 32 ∨ v = 10)) : isBl v = false := decide_eq_false h
theorem isLe_t {v : Int} (h : 97 ≤ v ∧ v ≤ 122) : isLe v = true := decide_eq_true h
theorem isLe_f {v : Int} (h : ¬ (97 ≤ v ∧ v ≤ 122)) : isLe v = false := decide_eq_false h
theorem isFi_t {v : Int} (h : 48 ≤ v ∧ v ≤ 57) : isFi v = true := decide_eq_true h
theorem isFi_f {v : Int} (h : ¬ (48 ≤ v ∧ v ≤ 57)) : isFi v = false := decide_eq_false h
def scf (P : Int → Bool) (T : Nat → Int) : Nat → Nat → Nat
  | 0, i => i
  | n + 1, i => if P (T i) = true then scf P T n (i + 1) else i
/-- the first place from i on that isn't such a one -/
def sc (P : Int → Bool) (T : Nat → Int) (i : Nat) : Nat := scf P T (401 - i) i
theorem sc_go {P : Int → Bool} {T : Nat → Int} {i : Nat} (hi : i ≤ 400) (h : P (T i) = true) : sc P T (i + 1) = sc P T i := by
  unfold sc
  rw [show 401 - i = (401 - (i + 1)) + 1 by omega]
  show _ = if P (T i) = true then _ else _
  rw [if_pos h]
theorem sc_no {P : Int → Bool} {T : Nat → Int} {i : Nat} (h : P (T i) = false) : sc P T i = i := by
  unfold sc
  cases 401 - i with
  | zero => rfl
  | succ n =>
    show (if P (T i) = true then _ else i) = i
    rw [if_neg (by rw [h]; decide)]
theorem scf_ge (P : Int → Bool) (T : Nat → Int) : ∀ n i, i ≤ scf P T n i := by
  intro n
  induction n with
  | zero => intro i; exact Nat.le_refl _
  | succ n ih =>
    intro i
    show i ≤ if P (T i) = true then scf P T n (i + 1) else i
    by_cases h : P (T i) = true
    · rw [if_pos h]
      exact Nat.le_trans (Nat.le_succ i) (ih _)
    · rw [if_neg h]
      exact Nat.le_refl _
theorem scf_all (P : Int → Bool) (T : Nat → Int) : ∀ n i k, i ≤ k → k < scf P T n i → P (T k) = true := by
  intro n
  induction n with
  | zero => intro i k h1 h2; exact absurd h2 (by show ¬ k < i; omega)
  | succ n ih =>
    intro i k h1 h2
    by_cases h : P (T i) = true
    · by_cases e : k = i
      · rw [e]; exact h
      · refine ih (i + 1) k (by omega) ?_
        have h3 : k < if P (T i) = true then scf P T n (i + 1) else i := h2
        rw [if_pos h] at h3
        exact h3
    · have h3 : k < if P (T i) = true then scf P T n (i + 1) else i := h2
      rw [if_neg h] at h3
      omega
theorem sc_ge (P : Int → Bool) (T : Nat → Int) (i : Nat) : i ≤ sc P T i := scf_ge P T _ i
theorem sc_all {P : Int → Bool} {T : Nat → Int} {i k : Nat} (h1 : i ≤ k) (h2 : k < sc P T i) : P (T k) = true := scf_all P T _ i k h1 h2
theorem le_i {v : Int} (h : isLe v = true) : 97 ≤ v ∧ v ≤ 122 := of_decide_eq_true h
theorem fi_i {v : Int} (h : isFi v = true) : 48 ≤ v ∧ v ≤ 57 := of_decide_eq_true h
/-- where the token behind place i begins -/
def tS (T : Nat → Int) (i : Nat) : Nat := sc isBl T i
/-- what it is: 0 the end, 1 a name, 2 a number, 3 the sign, 4 nothing -/
def tK (T : Nat → Int) (N i : Nat) : Int := if N ≤ tS T i then 0 else if isLe (T (tS T i)) = true then 1 else if isFi (T (tS T i)) = true then (if sc isFi T (tS T i) ≤ tS T i + 3 then 2 else 4) else if T (tS T i) = 59 then 3 else 4
/-- where it ends -/
def tE (T : Nat → Int) (N i : Nat) : Nat := if N ≤ tS T i then tS T i else if isLe (T (tS T i)) = true then sc isLe T (tS T i) else if isFi (T (tS T i)) = true then sc isFi T (tS T i) else tS T i + 1
/-- the value of n figures -/
def nv (T : Nat → Int) (s : Nat) : Nat → Int
  | 0 => 0
  | n + 1 => 10 * nv T s n + (T (s + n) - 48)
def tV (T : Nat → Int) (i : Nat) : Int := nv T (tS T i) (sc isFi T (tS T i) - tS T i)
theorem tok0 {T : Nat → Int} {N i : Nat} (h : N ≤ tS T i) : tK T N i = 0 ∧ tE T N i = tS T i := by
  unfold tK tE
  rw [if_pos h, if_pos h]
  exact ⟨rfl, rfl⟩
theorem tok1 {T : Nat → Int} {N i : Nat} (h : tS T i < N) (h1 : 97 ≤ T (tS T i) ∧ T (tS T i) ≤ 122) : tK T N i = 1 ∧ tE T N i = sc isLe T (tS T i) := by
  have hN : ¬ N ≤ tS T i := by omega
  exact ⟨by unfold tK; rw [if_neg hN, if_pos (isLe_t h1)], by unfold tE; rw [if_neg hN, if_pos (isLe_t h1)]⟩
theorem tok2 {T : Nat → Int} {N i : Nat} (h : tS T i < N) (h1 : 48 ≤ T (tS T i) ∧ T (tS T i) ≤ 57) : (((sc isFi T (tS T i) : Nat) : Int) ≤ (tS T i : Int) + 3 ∧ tK T N i = 2 ∨ (tS T i : Int) + 3 < ((sc isFi T (tS T i) : Nat) : Int) ∧ tK T N i = 4) ∧ tE T N i = sc isFi T (tS T i) := by
  have hN : ¬ N ≤ tS T i := by omega
  have hl : ¬ isLe (T (tS T i)) = true := by rw [isLe_f (by omega)]; decide
  refine ⟨?_, by unfold tE; rw [if_neg hN, if_neg hl, if_pos (isFi_t h1)]⟩
  have e : tK T N i = if sc isFi T (tS T i) ≤ tS T i + 3 then 2 else 4 := by unfold tK; rw [if_neg hN, if_neg hl, if_pos (isFi_t h1)]
  by_cases g : sc isFi T (tS T i) ≤ tS T i + 3
  · exact Or.inl ⟨by omega, by rw [e, if_pos g]⟩
  · exact Or.inr ⟨by omega, by rw [e, if_neg g]⟩
theorem tok3 {T : Nat → Int} {N i : Nat} (h : tS T i < N) (h1 : ¬ (97 ≤ T (tS T i) ∧ T (tS T i) ≤ 122)) (h2 : ¬ (48 ≤ T (tS T i) ∧ T (tS T i) ≤ 57)) : (T (tS T i) = 59 ∧ tK T N i = 3 ∨ T (tS T i) ≠ 59 ∧ tK T N i = 4) ∧ tE T N i = tS T i + 1 := by
  have hN : ¬ N ≤ tS T i := by omega
  have hl : ¬ isLe (T (tS T i)) = true := by rw [isLe_f h1]; decide
  have hf : ¬ isFi (T (tS T i)) = true := by rw [isFi_f h2]; decide
  refine ⟨?_, by unfold tE; rw [if_neg hN, if_neg hl, if_neg hf]⟩
  have e : tK T N i = if T (tS T i) = 59 then 3 else 4 := by unfold tK; rw [if_neg hN, if_neg hl, if_neg hf]
  by_cases g : T (tS T i) = 59
  · exact Or.inl ⟨g, by rw [e, if_pos g]⟩
  · exact Or.inr ⟨g, by rw [e, if_neg g]⟩
/-- figures up to e, from s on, with value v -/
def NVI (T : Nat → Int) (s : Nat) (e v : Int) : Prop := (s : Int) ≤ e ∧ (e ≤ s + 3 → v = nv T s (e.toNat - s) ∧ 0 ≤ v ∧ (e ≤ s → v = 0) ∧ (e ≤ s + 1 → v ≤ 9) ∧ (e ≤ s + 2 → v ≤ 99) ∧ v ≤ 999)
theorem NVI.zero {T : Nat → Int} {s : Nat} {e v : Int} (h : e = s) (hv : v = 0) : NVI T s e v := by
  refine ⟨by omega, fun _ => ⟨?_, by omega, fun _ => by omega, fun _ => by omega, fun _ => by omega, by omega⟩⟩
  rw [show e.toNat - s = 0 by omega, hv]
  rfl
theorem NVI.more {T : Nat → Int} {s : Nat} {e v e' v' : Int} {k : Nat} (h : NVI T s e v) (hk : (k : Int) = e) (he : e' = e + 1) (ht : 48 ≤ T k ∧ T k ≤ 57) (hv : e ≤ s + 2 → v' = 10 * v + (T k - 48)) : NVI T s e' v' := by
  have h0 := h.1
  refine ⟨by omega, fun g => ?_⟩
  have h1 := h.2 (by omega)
  have h2 := hv (by omega)
  refine ⟨?_, by omega, fun _ => by omega, fun _ => by omega, fun _ => by omega, by omega⟩
  rw [show e'.toNat - s = (e.toNat - s) + 1 by omega]
  show v' = 10 * nv T s (e.toNat - s) + (T (s + (e.toNat - s)) - 48)
  rw [show s + (e.toNat - s) = k by omega, ← h1.1]
  exact h2
theorem NVI.val {T : Nat → Int} {s : Nat} {e v : Int} (h : NVI T s e v) (he : e = (sc isFi T s : Nat)) (h3 : e ≤ s + 3) : v = nv T s (sc isFi T s - s) := by
  have := (h.2 h3).1
  rw [this, show e.toNat = sc isFi T s by omega]
/-- the tape of the class, of the reference -/
def TpC (σ : Sg) (T : Nat → Int) (N : Nat) : Prop := (gV σ 12 0 1).toInt = (N : Int) ∧ N ≤ 400 ∧ (∀ k, k < N → -128 ≤ (gV σ 13 0 k).toInt ∧ (gV σ 13 0 k).toInt ≤ 127 ∧ T k = (gV σ 13 0 k).toInt % 256) ∧ ∀ k, N ≤ k → T k = 0
def TpM (σ : Sg) (T : Nat → Int) (N : Nat) : Prop := (gV σ 22 0 6).toInt = (N : Int) ∧ N ≤ 400 ∧ (∀ k, k < N → (gV σ 28 0 k).toInt = T k) ∧ ∀ k, N ≤ k → T k = 0
theorem TpC.put {σ τ : Sg} {T : Nat → Int} {N t j k : Nat} {v : Int32} (h : TpC σ T N) (e : τ = sV σ t j k v) (h1 : t ≠ 12 ∨ k ≠ 1) (h2 : t ≠ 13) : TpC τ T N := by
  refine ⟨?_, h.2.1, fun q hq => ?_, h.2.2.2⟩
  · rw [gV_putn e (by rcases h1 with g | g; exact Or.inl (Ne.symm g); exact Or.inr (Or.inr (Ne.symm g)))]
    exact h.1
  · rw [gV_putn e (Or.inl (Ne.symm h2))]
    exact h.2.2.1 q hq
theorem TpM.put {σ τ : Sg} {T : Nat → Int} {N t j k : Nat} {v : Int32} (h : TpM σ T N) (e : τ = sV σ t j k v) (h1 : t ≠ 22 ∨ k ≠ 6) (h2 : t ≠ 28) : TpM τ T N := by
  refine ⟨?_, h.2.1, fun q hq => ?_, h.2.2.2⟩
  · rw [gV_putn e (by rcases h1 with g | g; exact Or.inl (Ne.symm g); exact Or.inr (Or.inr (Ne.symm g)))]
    exact h.1
  · rw [gV_putn e (Or.inl (Ne.symm h2))]
    exact h.2.2.1 q hq
theorem TpC.fr {M : List (Nat × Nat)} {A : List Nat} {σ τ : Sg} {T : Nat → Int} {N : Nat} (h : TpC σ T N) (f : Fr M A σ τ) (h1 : (12, 1) ∉ M) (h2 : 12 ∉ A) (h3 : ∀ k, (13, k) ∉ M) (h4 : 13 ∉ A) : TpC τ T N := by
  refine ⟨?_, h.2.1, fun q hq => ?_, h.2.2.2⟩
  · rw [f.1 12 0 1 h1 h2]
    exact h.1
  · rw [f.1 13 0 q (h3 q) h4]
    exact h.2.2.1 q hq
theorem TpM.fr {M : List (Nat × Nat)} {A : List Nat} {σ τ : Sg} {T : Nat → Int} {N : Nat} (h : TpM σ T N) (f : Fr M A σ τ) (h1 : (22, 6) ∉ M) (h2 : 22 ∉ A) (h3 : ∀ k, (28, k) ∉ M) (h4 : 28 ∉ A) : TpM τ T N := by
  refine ⟨?_, h.2.1, fun q hq => ?_, h.2.2.2⟩
  · rw [f.1 22 0 6 h1 h2]
    exact h.1
  · rw [f.1 28 0 q (h3 q) h4]
    exact h.2.2.1 q hq
/-- a token's word: 1 if it is that one -/
def wq (T : Nat → Int) (s e w : Nat) : Int := if e = s + tx_len.getD w 0 ∧ ∀ k, k < tx_len.getD w 0 → T (s + k) = ((tx_byt.getD w []).getD k 0).toInt then 1 else 0
def tW (T : Nat → Int) (N i w : Nat) : Int := wq T (tS T i) (tE T N i) w
theorem tW_t {T : Nat → Int} {N i w : Nat} (h1 : tE T N i = tS T i + tx_len.getD w 0) (h2 : ∀ k, k < tx_len.getD w 0 → T (tS T i + k) = ((tx_byt.getD w []).getD k 0).toInt) : tW T N i w = 1 := by
  unfold tW wq
  rw [if_pos ⟨h1, h2⟩]
theorem tW_f {T : Nat → Int} {N i w : Nat} (h : ¬ (tE T N i = tS T i + tx_len.getD w 0 ∧ ∀ k, k < tx_len.getD w 0 → T (tS T i + k) = ((tx_byt.getD w []).getD k 0).toInt)) : tW T N i w = 0 := by
  unfold tW wq
  rw [if_neg h]
theorem tW_01 (T : Nat → Int) (N i w : Nat) : tW T N i w = 0 ∨ tW T N i w = 1 := by
  unfold tW wq
  by_cases h : tE T N i = tS T i + tx_len.getD w 0 ∧ ∀ k, k < tx_len.getD w 0 → T (tS T i + k) = ((tx_byt.getD w []).getD k 0).toInt
  · rw [if_pos h]; exact Or.inr rfl
  · rw [if_neg h]; exact Or.inl rfl
/-- the kind that a token names -/
def tQ (T : Nat → Int) (N i : Nat) : Int := if tK T N i ≠ 1 then 0 else if tW T N i 2 = 1 then 1 else if tW T N i 3 = 1 then 2 else if tW T N i 4 = 1 then 3 else if tW T N i 5 = 1 then 4 else if tW T N i 6 = 1 then 5 else 0
theorem tQ_def (T : Nat → Int) (N i : Nat) : ((tK T N i ≠ 1) ∧ tQ T N i = 0) ∨ (¬ (tK T N i ≠ 1) ∧ (tW T N i 2 = 1) ∧ tQ T N i = 1) ∨ (¬ (tK T N i ≠ 1) ∧ ¬ (tW T N i 2 = 1) ∧ (tW T N i 3 = 1) ∧ tQ T N i = 2) ∨ (¬ (tK T N i ≠ 1) ∧ ¬ (tW T N i 2 = 1) ∧ ¬ (tW T N i 3 = 1) ∧ (tW T N i 4 = 1) ∧ tQ T N i = 3) ∨ (¬ (tK T N i ≠ 1) ∧ ¬ (tW T N i 2 = 1) ∧ ¬ (tW T N i 3 = 1) ∧ ¬ (tW T N i 4 = 1) ∧ (tW T N i 5 = 1) ∧ tQ T N i = 4) ∨ (¬ (tK T N i ≠ 1) ∧ ¬ (tW T N i 2 = 1) ∧ ¬ (tW T N i 3 = 1) ∧ ¬ (tW T N i 4 = 1) ∧ ¬ (tW T N i 5 = 1) ∧ (tW T N i 6 = 1) ∧ tQ T N i = 5) ∨ (¬ (tK T N i ≠ 1) ∧ ¬ (tW T N i 2 = 1) ∧ ¬ (tW T N i 3 = 1) ∧ ¬ (tW T N i 4 = 1) ∧ ¬ (tW T N i 5 = 1) ∧ ¬ (tW T N i 6 = 1) ∧ tQ T N i = 0) := by
  by_cases h0 : tK T N i ≠ 1
  · exact Or.inl ⟨h0, by unfold tQ; rw [if_pos h0]⟩
  by_cases h1 : tW T N i 2 = 1
  · exact Or.inr (Or.inl ⟨h0, h1, by unfold tQ; rw [if_neg h0, if_pos h1]⟩)
  by_cases h2 : tW T N i 3 = 1
  · exact Or.inr (Or.inr (Or.inl ⟨h0, h1, h2, by unfold tQ; rw [if_neg h0, if_neg h1, if_pos h2]⟩))
  by_cases h3 : tW T N i 4 = 1
  · exact Or.inr (Or.inr (Or.inr (Or.inl ⟨h0, h1, h2, h3, by unfold tQ; rw [if_neg h0, if_neg h1, if_neg h2, if_pos h3]⟩)))
  by_cases h4 : tW T N i 5 = 1
  · exact Or.inr (Or.inr (Or.inr (Or.inr (Or.inl ⟨h0, h1, h2, h3, h4, by unfold tQ; rw [if_neg h0, if_neg h1, if_neg h2, if_neg h3, if_pos h4]⟩))))
  by_cases h5 : tW T N i 6 = 1
  · exact Or.inr (Or.inr (Or.inr (Or.inr (Or.inr (Or.inl ⟨h0, h1, h2, h3, h4, h5, by unfold tQ; rw [if_neg h0, if_neg h1, if_neg h2, if_neg h3, if_neg h4, if_pos h5]⟩)))))
  exact Or.inr (Or.inr (Or.inr (Or.inr (Or.inr (Or.inr (⟨h0, h1, h2, h3, h4, h5, by unfold tQ; rw [if_neg h0, if_neg h1, if_neg h2, if_neg h3, if_neg h4, if_neg h5]⟩))))))
theorem tQ_a1 {T : Nat → Int} {N i : Nat} (hK : tK T N i = 1) (h2 : tW T N i 2 = 1) : tQ T N i = 1 := by unfold tQ; rw [if_neg (fun q => q hK), if_pos h2]
theorem tQ_a2 {T : Nat → Int} {N i : Nat} (hK : tK T N i = 1) (n2 : ¬ tW T N i 2 = 1) (h3 : tW T N i 3 = 1) : tQ T N i = 2 := by unfold tQ; rw [if_neg (fun q => q hK), if_neg n2, if_pos h3]
theorem tQ_a3 {T : Nat → Int} {N i : Nat} (hK : tK T N i = 1) (n2 : ¬ tW T N i 2 = 1) (n3 : ¬ tW T N i 3 = 1) (h4 : tW T N i 4 = 1) : tQ T N i = 3 := by unfold tQ; rw [if_neg (fun q => q hK), if_neg n2, if_neg n3, if_pos h4]
theorem tQ_a4 {T : Nat → Int} {N i : Nat} (hK : tK T N i = 1) (n2 : ¬ tW T N i 2 = 1) (n3 : ¬ tW T N i 3 = 1) (n4 : ¬ tW T N i 4 = 1) (h5 : tW T N i 5 = 1) : tQ T N i = 4 := by unfold tQ; rw [if_neg (fun q => q hK), if_neg n2, if_neg n3, if_neg n4, if_pos h5]
theorem tQ_a5 {T : Nat → Int} {N i : Nat} (hK : tK T N i = 1) (n2 : ¬ tW T N i 2 = 1) (n3 : ¬ tW T N i 3 = 1) (n4 : ¬ tW T N i 4 = 1) (n5 : ¬ tW T N i 5 = 1) (h6 : tW T N i 6 = 1) : tQ T N i = 5 := by unfold tQ; rw [if_neg (fun q => q hK), if_neg n2, if_neg n3, if_neg n4, if_neg n5, if_pos h6]
theorem tQ_a0 {T : Nat → Int} {N i : Nat} (hK : tK T N i = 1) (n2 : ¬ tW T N i 2 = 1) (n3 : ¬ tW T N i 3 = 1) (n4 : ¬ tW T N i 4 = 1) (n5 : ¬ tW T N i 5 = 1) (n6 : ¬ tW T N i 6 = 1) : tQ T N i = 0 := by unfold tQ; rw [if_neg (fun q => q hK), if_neg n2, if_neg n3, if_neg n4, if_neg n5, if_neg n6]
def lawF (T : Nat → Int) (N i : Nat) : Int := if ¬ (tK T N i = 1 ∧ tW T N i 0 = 1) then 1 else if tK T N (tE T N i) ≠ 2 then 1 else if ¬ (4 ≤ tV T (tE T N i) ∧ tV T (tE T N i) ≤ 32) then 2 else if tK T N (tE T N (tE T N i)) ≠ 2 then 1 else if ¬ (1 ≤ tV T (tE T N (tE T N i)) ∧ tV T (tE T N (tE T N i)) ≤ 99) then 2 else if tK T N (tE T N (tE T N (tE T N i))) ≠ 3 then 1 else 0
def lawP (T : Nat → Int) (N i : Nat) : Int := if ¬ (tK T N i = 1 ∧ tW T N i 0 = 1) then (tS T i : Int) else if tK T N (tE T N i) ≠ 2 then (tS T (tE T N i) : Int) else if ¬ (4 ≤ tV T (tE T N i) ∧ tV T (tE T N i) ≤ 32) then (tS T (tE T N i) : Int) else if tK T N (tE T N (tE T N i)) ≠ 2 then (tS T (tE T N (tE T N i)) : Int) else if ¬ (1 ≤ tV T (tE T N (tE T N i)) ∧ tV T (tE T N (tE T N i)) ≤ 99) then (tS T (tE T N (tE T N i)) : Int) else if tK T N (tE T N (tE T N (tE T N i))) ≠ 3 then (tS T (tE T N (tE T N (tE T N i))) : Int) else 0
theorem law_def (T : Nat → Int) (N i : Nat) : ((¬ (tK T N i = 1 ∧ tW T N i 0 = 1)) ∧ lawF T N i = 1 ∧ lawP T N i = (tS T i : Int)) ∨ (¬ (¬ (tK T N i = 1 ∧ tW T N i 0 = 1)) ∧ (tK T N (tE T N i) ≠ 2) ∧ lawF T N i = 1 ∧ lawP T N i = (tS T (tE T N i) : Int)) ∨ (¬ (¬ (tK T N i = 1 ∧ tW T N i 0 = 1)) ∧ ¬ (tK T N (tE T N i) ≠ 2) ∧ (¬ (4 ≤ tV T (tE T N i) ∧ tV T (tE T N i) ≤ 32)) ∧ lawF T N i = 2 ∧ lawP T N i = (tS T (tE T N i) : Int)) ∨ (¬ (¬ (tK T N i = 1 ∧ tW T N i 0 = 1)) ∧ ¬ (tK T N (tE T N i) ≠ 2) ∧ ¬ (¬ (4 ≤ tV T (tE T N i) ∧ tV T (tE T N i) ≤ 32)) ∧ (tK T N (tE T N (tE T N i)) ≠ 2) ∧ lawF T N i = 1 ∧ lawP T N i = (tS T (tE T N (tE T N i)) : Int)) ∨ (¬ (¬ (tK T N i = 1 ∧ tW T N i 0 = 1)) ∧ ¬ (tK T N (tE T N i) ≠ 2) ∧ ¬ (¬ (4 ≤ tV T (tE T N i) ∧ tV T (tE T N i) ≤ 32)) ∧ ¬ (tK T N (tE T N (tE T N i)) ≠ 2) ∧ (¬ (1 ≤ tV T (tE T N (tE T N i)) ∧ tV T (tE T N (tE T N i)) ≤ 99)) ∧ lawF T N i = 2 ∧ lawP T N i = (tS T (tE T N (tE T N i)) : Int)) ∨ (¬ (¬ (tK T N i = 1 ∧ tW T N i 0 = 1)) ∧ ¬ (tK T N (tE T N i) ≠ 2) ∧ ¬ (¬ (4 ≤ tV T (tE T N i) ∧ tV T (tE T N i) ≤ 32)) ∧ ¬ (tK T N (tE T N (tE T N i)) ≠ 2) ∧ ¬ (¬ (1 ≤ tV T (tE T N (tE T N i)) ∧ tV T (tE T N (tE T N i)) ≤ 99)) ∧ (tK T N (tE T N (tE T N (tE T N i))) ≠ 3) ∧ lawF T N i = 1 ∧ lawP T N i = (tS T (tE T N (tE T N (tE T N i))) : Int)) ∨ (¬ (¬ (tK T N i = 1 ∧ tW T N i 0 = 1)) ∧ ¬ (tK T N (tE T N i) ≠ 2) ∧ ¬ (¬ (4 ≤ tV T (tE T N i) ∧ tV T (tE T N i) ≤ 32)) ∧ ¬ (tK T N (tE T N (tE T N i)) ≠ 2) ∧ ¬ (¬ (1 ≤ tV T (tE T N (tE T N i)) ∧ tV T (tE T N (tE T N i)) ≤ 99)) ∧ ¬ (tK T N (tE T N (tE T N (tE T N i))) ≠ 3) ∧ lawF T N i = 0) := by
  by_cases h0 : ¬ (tK T N i = 1 ∧ tW T N i 0 = 1)
  · exact Or.inl ⟨h0, by unfold lawF; rw [if_pos h0], by unfold lawP; rw [if_pos h0]⟩
  by_cases h1 : tK T N (tE T N i) ≠ 2
  · exact Or.inr (Or.inl ⟨h0, h1, by unfold lawF; rw [if_neg h0, if_pos h1], by unfold lawP; rw [if_neg h0, if_pos h1]⟩)
  by_cases h2 : ¬ (4 ≤ tV T (tE T N i) ∧ tV T (tE T N i) ≤ 32)
  · exact Or.inr (Or.inr (Or.inl ⟨h0, h1, h2, by unfold lawF; rw [if_neg h0, if_neg h1, if_pos h2], by unfold lawP; rw [if_neg h0, if_neg h1, if_pos h2]⟩))
  by_cases h3 : tK T N (tE T N (tE T N i)) ≠ 2
  · exact Or.inr (Or.inr (Or.inr (Or.inl ⟨h0, h1, h2, h3, by unfold lawF; rw [if_neg h0, if_neg h1, if_neg h2, if_pos h3], by unfold lawP; rw [if_neg h0, if_neg h1, if_neg h2, if_pos h3]⟩)))
  by_cases h4 : ¬ (1 ≤ tV T (tE T N (tE T N i)) ∧ tV T (tE T N (tE T N i)) ≤ 99)
  · exact Or.inr (Or.inr (Or.inr (Or.inr (Or.inl ⟨h0, h1, h2, h3, h4, by unfold lawF; rw [if_neg h0, if_neg h1, if_neg h2, if_neg h3, if_pos h4], by unfold lawP; rw [if_neg h0, if_neg h1, if_neg h2, if_neg h3, if_pos h4]⟩))))
  by_cases h5 : tK T N (tE T N (tE T N (tE T N i))) ≠ 3
  · exact Or.inr (Or.inr (Or.inr (Or.inr (Or.inr (Or.inl ⟨h0, h1, h2, h3, h4, h5, by unfold lawF; rw [if_neg h0, if_neg h1, if_neg h2, if_neg h3, if_neg h4, if_pos h5], by unfold lawP; rw [if_neg h0, if_neg h1, if_neg h2, if_neg h3, if_neg h4, if_pos h5]⟩)))))
  exact Or.inr (Or.inr (Or.inr (Or.inr (Or.inr (Or.inr (⟨h0, h1, h2, h3, h4, h5, by unfold lawF; rw [if_neg h0, if_neg h1, if_neg h2, if_neg h3, if_neg h4, if_neg h5]⟩))))))
theorem law_0 (T : Nat → Int) (N i : Nat) (h0 : ¬ (tK T N i = 1 ∧ tW T N i 0 = 1)) : lawF T N i = 1 ∧ lawP T N i = (tS T i : Int) := ⟨by unfold lawF; rw [if_pos h0], by unfold lawP; rw [if_pos h0]⟩
theorem law_1 (T : Nat → Int) (N i : Nat) (h0 : ¬ (¬ (tK T N i = 1 ∧ tW T N i 0 = 1))) (h1 : tK T N (tE T N i) ≠ 2) : lawF T N i = 1 ∧ lawP T N i = (tS T (tE T N i) : Int) := ⟨by unfold lawF; rw [if_neg h0, if_pos h1], by unfold lawP; rw [if_neg h0, if_pos h1]⟩
theorem law_2 (T : Nat → Int) (N i : Nat) (h0 : ¬ (¬ (tK T N i = 1 ∧ tW T N i 0 = 1))) (h1 : ¬ (tK T N (tE T N i) ≠ 2)) (h2 : ¬ (4 ≤ tV T (tE T N i) ∧ tV T (tE T N i) ≤ 32)) : lawF T N i = 2 ∧ lawP T N i = (tS T (tE T N i) : Int) := ⟨by unfold lawF; rw [if_neg h0, if_neg h1, if_pos h2], by unfold lawP; rw [if_neg h0, if_neg h1, if_pos h2]⟩
theorem law_3 (T : Nat → Int) (N i : Nat) (h0 : ¬ (¬ (tK T N i = 1 ∧ tW T N i 0 = 1))) (h1 : ¬ (tK T N (tE T N i) ≠ 2)) (h2 : ¬ (¬ (4 ≤ tV T (tE T N i) ∧ tV T (tE T N i) ≤ 32))) (h3 : tK T N (tE T N (tE T N i)) ≠ 2) : lawF T N i = 1 ∧ lawP T N i = (tS T (tE T N (tE T N i)) : Int) := ⟨by unfold lawF; rw [if_neg h0, if_neg h1, if_neg h2, if_pos h3], by unfold lawP; rw [if_neg h0, if_neg h1, if_neg h2, if_pos h3]⟩
theorem law_4 (T : Nat → Int) (N i : Nat) (h0 : ¬ (¬ (tK T N i = 1 ∧ tW T N i 0 = 1))) (h1 : ¬ (tK T N (tE T N i) ≠ 2)) (h2 : ¬ (¬ (4 ≤ tV T (tE T N i) ∧ tV T (tE T N i) ≤ 32))) (h3 : ¬ (tK T N (tE T N (tE T N i)) ≠ 2)) (h4 : ¬ (1 ≤ tV T (tE T N (tE T N i)) ∧ tV T (tE T N (tE T N i)) ≤ 99)) : lawF T N i = 2 ∧ lawP T N i = (tS T (tE T N (tE T N i)) : Int) := ⟨by unfold lawF; rw [if_neg h0, if_neg h1, if_neg h2, if_neg h3, if_pos h4], by unfold lawP; rw [if_neg h0, if_neg h1, if_neg h2, if_neg h3, if_pos h4]⟩
theorem law_5 (T : Nat → Int) (N i : Nat) (h0 : ¬ (¬ (tK T N i = 1 ∧ tW T N i 0 = 1))) (h1 : ¬ (tK T N (tE T N i) ≠ 2)) (h2 : ¬ (¬ (4 ≤ tV T (tE T N i) ∧ tV T (tE T N i) ≤ 32))) (h3 : ¬ (tK T N (tE T N (tE T N i)) ≠ 2)) (h4 : ¬ (¬ (1 ≤ tV T (tE T N (tE T N i)) ∧ tV T (tE T N (tE T N i)) ≤ 99))) (h5 : tK T N (tE T N (tE T N (tE T N i))) ≠ 3) : lawF T N i = 1 ∧ lawP T N i = (tS T (tE T N (tE T N (tE T N i))) : Int) := ⟨by unfold lawF; rw [if_neg h0, if_neg h1, if_neg h2, if_neg h3, if_neg h4, if_pos h5], by unfold lawP; rw [if_neg h0, if_neg h1, if_neg h2, if_neg h3, if_neg h4, if_pos h5]⟩
theorem law_ok (T : Nat → Int) (N i : Nat) (h0 : ¬ (¬ (tK T N i = 1 ∧ tW T N i 0 = 1))) (h1 : ¬ (tK T N (tE T N i) ≠ 2)) (h2 : ¬ (¬ (4 ≤ tV T (tE T N i) ∧ tV T (tE T N i) ≤ 32))) (h3 : ¬ (tK T N (tE T N (tE T N i)) ≠ 2)) (h4 : ¬ (¬ (1 ≤ tV T (tE T N (tE T N i)) ∧ tV T (tE T N (tE T N i)) ≤ 99))) (h5 : ¬ (tK T N (tE T N (tE T N (tE T N i))) ≠ 3)) : lawF T N i = 0 := by unfold lawF; rw [if_neg h0, if_neg h1, if_neg h2, if_neg h3, if_neg h4, if_neg h5]
def perF (T : Nat → Int) (N : Nat) (st c : Int) (i : Nat) : Int := if 7 ≤ c then 3 else if tQ T N (tE T N i) = 0 then 1 else if tK T N (tE T N (tE T N i)) ≠ 2 then 1 else if ¬ (1 ≤ tV T (tE T N (tE T N i)) ∧ tV T (tE T N (tE T N i)) ≤ 20) then 2 else if tK T N (tE T N (tE T N (tE T N i))) ≠ 2 then 1 else if ¬ (1 ≤ tV T (tE T N (tE T N (tE T N i))) ∧ tV T (tE T N (tE T N (tE T N i))) ≤ 4) then 2 else if tK T N (tE T N (tE T N (tE T N (tE T N i)))) ≠ 2 then 1 else if ¬ (tV T (tE T N (tE T N (tE T N (tE T N i)))) = 99 ∨ (0 ≤ tV T (tE T N (tE T N (tE T N (tE T N i)))) ∧ tV T (tE T N (tE T N (tE T N (tE T N i)))) ≤ st - 1)) then 2 else if tK T N (tE T N (tE T N (tE T N (tE T N (tE T N i))))) ≠ 3 then 1 else 0
def perP (T : Nat → Int) (N : Nat) (st c : Int) (i : Nat) : Int := if 7 ≤ c then (tS T i : Int) else if tQ T N (tE T N i) = 0 then (tS T (tE T N i) : Int) else if tK T N (tE T N (tE T N i)) ≠ 2 then (tS T (tE T N (tE T N i)) : Int) else if ¬ (1 ≤ tV T (tE T N (tE T N i)) ∧ tV T (tE T N (tE T N i)) ≤ 20) then (tS T (tE T N (tE T N i)) : Int) else if tK T N (tE T N (tE T N (tE T N i))) ≠ 2 then (tS T (tE T N (tE T N (tE T N i))) : Int) else if ¬ (1 ≤ tV T (tE T N (tE T N (tE T N i))) ∧ tV T (tE T N (tE T N (tE T N i))) ≤ 4) then (tS T (tE T N (tE T N (tE T N i))) : Int) else if tK T N (tE T N (tE T N (tE T N (tE T N i)))) ≠ 2 then (tS T (tE T N (tE T N (tE T N (tE T N i)))) : Int) else if ¬ (tV T (tE T N (tE T N (tE T N (tE T N i)))) = 99 ∨ (0 ≤ tV T (tE T N (tE T N (tE T N (tE T N i)))) ∧ tV T (tE T N (tE T N (tE T N (tE T N i)))) ≤ st - 1)) then (tS T (tE T N (tE T N (tE T N (tE T N i)))) : Int) else if tK T N (tE T N (tE T N (tE T N (tE T N (tE T N i))))) ≠ 3 then (tS T (tE T N (tE T N (tE T N (tE T N (tE T N i))))) : Int) else 0
theorem per_def (T : Nat → Int) (N : Nat) (st c : Int) (i : Nat) : ((7 ≤ c) ∧ perF T N st c i = 3 ∧ perP T N st c i = (tS T i : Int)) ∨ (¬ (7 ≤ c) ∧ (tQ T N (tE T N i) = 0) ∧ perF T N st c i = 1 ∧ perP T N st c i = (tS T (tE T N i) : Int)) ∨ (¬ (7 ≤ c) ∧ ¬ (tQ T N (tE T N i) = 0) ∧ (tK T N (tE T N (tE T N i)) ≠ 2) ∧ perF T N st c i = 1 ∧ perP T N st c i = (tS T (tE T N (tE T N i)) : Int)) ∨ (¬ (7 ≤ c) ∧ ¬ (tQ T N (tE T N i) = 0) ∧ ¬ (tK T N (tE T N (tE T N i)) ≠ 2) ∧ (¬ (1 ≤ tV T (tE T N (tE T N i)) ∧ tV T (tE T N (tE T N i)) ≤ 20)) ∧ perF T N st c i = 2 ∧ perP T N st c i = (tS T (tE T N (tE T N i)) : Int)) ∨ (¬ (7 ≤ c) ∧ ¬ (tQ T N (tE T N i) = 0) ∧ ¬ (tK T N (tE T N (tE T N i)) ≠ 2) ∧ ¬ (¬ (1 ≤ tV T (tE T N (tE T N i)) ∧ tV T (tE T N (tE T N i)) ≤ 20)) ∧ (tK T N (tE T N (tE T N (tE T N i))) ≠ 2) ∧ perF T N st c i = 1 ∧ perP T N st c i = (tS T (tE T N (tE T N (tE T N i))) : Int)) ∨ (¬ (7 ≤ c) ∧ ¬ (tQ T N (tE T N i) = 0) ∧ ¬ (tK T N (tE T N (tE T N i)) ≠ 2) ∧ ¬ (¬ (1 ≤ tV T (tE T N (tE T N i)) ∧ tV T (tE T N (tE T N i)) ≤ 20)) ∧ ¬ (tK T N (tE T N (tE T N (tE T N i))) ≠ 2) ∧ (¬ (1 ≤ tV T (tE T N (tE T N (tE T N i))) ∧ tV T (tE T N (tE T N (tE T N i))) ≤ 4)) ∧ perF T N st c i = 2 ∧ perP T N st c i = (tS T (tE T N (tE T N (tE T N i))) : Int)) ∨ (¬ (7 ≤ c) ∧ ¬ (tQ T N (tE T N i) = 0) ∧ ¬ (tK T N (tE T N (tE T N i)) ≠ 2) ∧ ¬ (¬ (1 ≤ tV T (tE T N (tE T N i)) ∧ tV T (tE T N (tE T N i)) ≤ 20)) ∧ ¬ (tK T N (tE T N (tE T N (tE T N i))) ≠ 2) ∧ ¬ (¬ (1 ≤ tV T (tE T N (tE T N (tE T N i))) ∧ tV T (tE T N (tE T N (tE T N i))) ≤ 4)) ∧ (tK T N (tE T N (tE T N (tE T N (tE T N i)))) ≠ 2) ∧ perF T N st c i = 1 ∧ perP T N st c i = (tS T (tE T N (tE T N (tE T N (tE T N i)))) : Int)) ∨ (¬ (7 ≤ c) ∧ ¬ (tQ T N (tE T N i) = 0) ∧ ¬ (tK T N (tE T N (tE T N i)) ≠ 2) ∧ ¬ (¬ (1 ≤ tV T (tE T N (tE T N i)) ∧ tV T (tE T N (tE T N i)) ≤ 20)) ∧ ¬ (tK T N (tE T N (tE T N (tE T N i))) ≠ 2) ∧ ¬ (¬ (1 ≤ tV T (tE T N (tE T N (tE T N i))) ∧ tV T (tE T N (tE T N (tE T N i))) ≤ 4)) ∧ ¬ (tK T N (tE T N (tE T N (tE T N (tE T N i)))) ≠ 2) ∧ (¬ (tV T (tE T N (tE T N (tE T N (tE T N i)))) = 99 ∨ (0 ≤ tV T (tE T N (tE T N (tE T N (tE T N i)))) ∧ tV T (tE T N (tE T N (tE T N (tE T N i)))) ≤ st - 1))) ∧ perF T N st c i = 2 ∧ perP T N st c i = (tS T (tE T N (tE T N (tE T N (tE T N i)))) : Int)) ∨ (¬ (7 ≤ c) ∧ ¬ (tQ T N (tE T N i) = 0) ∧ ¬ (tK T N (tE T N (tE T N i)) ≠ 2) ∧ ¬ (¬ (1 ≤ tV T (tE T N (tE T N i)) ∧ tV T (tE T N (tE T N i)) ≤ 20)) ∧ ¬ (tK T N (tE T N (tE T N (tE T N i))) ≠ 2) ∧ ¬ (¬ (1 ≤ tV T (tE T N (tE T N (tE T N i))) ∧ tV T (tE T N (tE T N (tE T N i))) ≤ 4)) ∧ ¬ (tK T N (tE T N (tE T N (tE T N (tE T N i)))) ≠ 2) ∧ ¬ (¬ (tV T (tE T N (tE T N (tE T N (tE T N i)))) = 99 ∨ (0 ≤ tV T (tE T N (tE T N (tE T N (tE T N i)))) ∧ tV T (tE T N (tE T N (tE T N (tE T N i)))) ≤ st - 1))) ∧ (tK T N (tE T N (tE T N (tE T N (tE T N (tE T N i))))) ≠ 3) ∧ perF T N st c i = 1 ∧ perP T N st c i = (tS T (tE T N (tE T N (tE T N (tE T N (tE T N i))))) : Int)) ∨ (¬ (7 ≤ c) ∧ ¬ (tQ T N (tE T N i) = 0) ∧ ¬ (tK T N (tE T N (tE T N i)) ≠ 2) ∧ ¬ (¬ (1 ≤ tV T (tE T N (tE T N i)) ∧ tV T (tE T N (tE T N i)) ≤ 20)) ∧ ¬ (tK T N (tE T N (tE T N (tE T N i))) ≠ 2) ∧ ¬ (¬ (1 ≤ tV T (tE T N (tE T N (tE T N i))) ∧ tV T (tE T N (tE T N (tE T N i))) ≤ 4)) ∧ ¬ (tK T N (tE T N (tE T N (tE T N (tE T N i)))) ≠ 2) ∧ ¬ (¬ (tV T (tE T N (tE T N (tE T N (tE T N i)))) = 99 ∨ (0 ≤ tV T (tE T N (tE T N (tE T N (tE T N i)))) ∧ tV T (tE T N (tE T N (tE T N (tE T N i)))) ≤ st - 1))) ∧ ¬ (tK T N (tE T N (tE T N (tE T N (tE T N (tE T N i))))) ≠ 3) ∧ perF T N st c i = 0) := by
  by_cases h0 : 7 ≤ c
  · exact Or.inl ⟨h0, by unfold perF; rw [if_pos h0], by unfold perP; rw [if_pos h0]⟩
  by_cases h1 : tQ T N (tE T N i) = 0
  · exact Or.inr (Or.inl ⟨h0, h1, by unfold perF; rw [if_neg h0, if_pos h1], by unfold perP; rw [if_neg h0, if_pos h1]⟩)
  by_cases h2 : tK T N (tE T N (tE T N i)) ≠ 2
  · exact Or.inr (Or.inr (Or.inl ⟨h0, h1, h2, by unfold perF; rw [if_neg h0, if_neg h1, if_pos h2], by unfold perP; rw [if_neg h0, if_neg h1, if_pos h2]⟩))
  by_cases h3 : ¬ (1 ≤ tV T (tE T N (tE T N i)) ∧ tV T (tE T N (tE T N i)) ≤ 20)
  · exact Or.inr (Or.inr (Or.inr (Or.inl ⟨h0, h1, h2, h3, by unfold perF; rw [if_neg h0, if_neg h1, if_neg h2, if_pos h3], by unfold perP; rw [if_neg h0, if_neg h1, if_neg h2, if_pos h3]⟩)))
  by_cases h4 : tK T N (tE T N (tE T N (tE T N i))) ≠ 2
  · exact Or.inr (Or.inr (Or.inr (Or.inr (Or.inl ⟨h0, h1, h2, h3, h4, by unfold perF; rw [if_neg h0, if_neg h1, if_neg h2, if_neg h3, if_pos h4], by unfold perP; rw [if_neg h0, if_neg h1, if_neg h2, if_neg h3, if_pos h4]⟩))))
  by_cases h5 : ¬ (1 ≤ tV T (tE T N (tE T N (tE T N i))) ∧ tV T (tE T N (tE T N (tE T N i))) ≤ 4)
  · exact Or.inr (Or.inr (Or.inr (Or.inr (Or.inr (Or.inl ⟨h0, h1, h2, h3, h4, h5, by unfold perF; rw [if_neg h0, if_neg h1, if_neg h2, if_neg h3, if_neg h4, if_pos h5], by unfold perP; rw [if_neg h0, if_neg h1, if_neg h2, if_neg h3, if_neg h4, if_pos h5]⟩)))))
  by_cases h6 : tK T N (tE T N (tE T N (tE T N (tE T N i)))) ≠ 2
  · exact Or.inr (Or.inr (Or.inr (Or.inr (Or.inr (Or.inr (Or.inl ⟨h0, h1, h2, h3, h4, h5, h6, by unfold perF; rw [if_neg h0, if_neg h1, if_neg h2, if_neg h3, if_neg h4, if_neg h5, if_pos h6], by unfold perP; rw [if_neg h0, if_neg h1, if_neg h2, if_neg h3, if_neg h4, if_neg h5, if_pos h6]⟩))))))
  by_cases h7 : ¬ (tV T (tE T N (tE T N (tE T N (tE T N i)))) = 99 ∨ (0 ≤ tV T (tE T N (tE T N (tE T N (tE T N i)))) ∧ tV T (tE T N (tE T N (tE T N (tE T N i)))) ≤ st - 1))
  · exact Or.inr (Or.inr (Or.inr (Or.inr (Or.inr (Or.inr (Or.inr (Or.inl ⟨h0, h1, h2, h3, h4, h5, h6, h7, by unfold perF; rw [if_neg h0, if_neg h1, if_neg h2, if_neg h3, if_neg h4, if_neg h5, if_neg h6, if_pos h7], by unfold perP; rw [if_neg h0, if_neg h1, if_neg h2, if_neg h3, if_neg h4, if_neg h5, if_neg h6, if_pos h7]⟩)))))))
  by_cases h8 : tK T N (tE T N (tE T N (tE T N (tE T N (tE T N i))))) ≠ 3
  · exact Or.inr (Or.inr (Or.inr (Or.inr (Or.inr (Or.inr (Or.inr (Or.inr (Or.inl ⟨h0, h1, h2, h3, h4, h5, h6, h7, h8, by unfold perF; rw [if_neg h0, if_neg h1, if_neg h2, if_neg h3, if_neg h4, if_neg h5, if_neg h6, if_neg h7, if_pos h8], by unfold perP; rw [if_neg h0, if_neg h1, if_neg h2, if_neg h3, if_neg h4, if_neg h5, if_neg h6, if_neg h7, if_pos h8]⟩))))))))
  exact Or.inr (Or.inr (Or.inr (Or.inr (Or.inr (Or.inr (Or.inr (Or.inr (Or.inr (⟨h0, h1, h2, h3, h4, h5, h6, h7, h8, by unfold perF; rw [if_neg h0, if_neg h1, if_neg h2, if_neg h3, if_neg h4, if_neg h5, if_neg h6, if_neg h7, if_neg h8]⟩)))))))))
theorem per_0 (T : Nat → Int) (N : Nat) (st c : Int) (i : Nat) (h0 : 7 ≤ c) : perF T N st c i = 3 ∧ perP T N st c i = (tS T i : Int) := ⟨by unfold perF; rw [if_pos h0], by unfold perP; rw [if_pos h0]⟩
theorem per_1 (T : Nat → Int) (N : Nat) (st c : Int) (i : Nat) (h0 : ¬ (7 ≤ c)) (h1 : tQ T N (tE T N i) = 0) : perF T N st c i = 1 ∧ perP T N st c i = (tS T (tE T N i) : Int) := ⟨by unfold perF; rw [if_neg h0, if_pos h1], by unfold perP; rw [if_neg h0, if_pos h1]⟩
theorem per_2 (T : Nat → Int) (N : Nat) (st c : Int) (i : Nat) (h0 : ¬ (7 ≤ c)) (h1 : ¬ (tQ T N (tE T N i) = 0)) (h2 : tK T N (tE T N (tE T N i)) ≠ 2) : perF T N st c i = 1 ∧ perP T N st c i = (tS T (tE T N (tE T N i)) : Int) := ⟨by unfold perF; rw [if_neg h0, if_neg h1, if_pos h2], by unfold perP; rw [if_neg h0, if_neg h1, if_pos h2]⟩
theorem per_3 (T : Nat → Int) (N : Nat) (st c : Int) (i : Nat) (h0 : ¬ (7 ≤ c)) (h1 : ¬ (tQ T N (tE T N i) = 0)) (h2 : ¬ (tK T N (tE T N (tE T N i)) ≠ 2)) (h3 : ¬ (1 ≤ tV T (tE T N (tE T N i)) ∧ tV T (tE T N (tE T N i)) ≤ 20)) : perF T N st c i = 2 ∧ perP T N st c i = (tS T (tE T N (tE T N i)) : Int) := ⟨by unfold perF; rw [if_neg h0, if_neg h1, if_neg h2, if_pos h3], by unfold perP; rw [if_neg h0, if_neg h1, if_neg h2, if_pos h3]⟩
theorem per_4 (T : Nat → Int) (N : Nat) (st c : Int) (i : Nat) (h0 : ¬ (7 ≤ c)) (h1 : ¬ (tQ T N (tE T N i) = 0)) (h2 : ¬ (tK T N (tE T N (tE T N i)) ≠ 2)) (h3 : ¬ (¬ (1 ≤ tV T (tE T N (tE T N i)) ∧ tV T (tE T N (tE T N i)) ≤ 20))) (h4 : tK T N (tE T N (tE T N (tE T N i))) ≠ 2) : perF T N st c i = 1 ∧ perP T N st c i = (tS T (tE T N (tE T N (tE T N i))) : Int) := ⟨by unfold perF; rw [if_neg h0, if_neg h1, if_neg h2, if_neg h3, if_pos h4], by unfold perP; rw [if_neg h0, if_neg h1, if_neg h2, if_neg h3, if_pos h4]⟩
theorem per_5 (T : Nat → Int) (N : Nat) (st c : Int) (i : Nat) (h0 : ¬ (7 ≤ c)) (h1 : ¬ (tQ T N (tE T N i) = 0)) (h2 : ¬ (tK T N (tE T N (tE T N i)) ≠ 2)) (h3 : ¬ (¬ (1 ≤ tV T (tE T N (tE T N i)) ∧ tV T (tE T N (tE T N i)) ≤ 20))) (h4 : ¬ (tK T N (tE T N (tE T N (tE T N i))) ≠ 2)) (h5 : ¬ (1 ≤ tV T (tE T N (tE T N (tE T N i))) ∧ tV T (tE T N (tE T N (tE T N i))) ≤ 4)) : perF T N st c i = 2 ∧ perP T N st c i = (tS T (tE T N (tE T N (tE T N i))) : Int) := ⟨by unfold perF; rw [if_neg h0, if_neg h1, if_neg h2, if_neg h3, if_neg h4, if_pos h5], by unfold perP; rw [if_neg h0, if_neg h1, if_neg h2, if_neg h3, if_neg h4, if_pos h5]⟩
theorem per_6 (T : Nat → Int) (N : Nat) (st c : Int) (i : Nat) (h0 : ¬ (7 ≤ c)) (h1 : ¬ (tQ T N (tE T N i) = 0)) (h2 : ¬ (tK T N (tE T N (tE T N i)) ≠ 2)) (h3 : ¬ (¬ (1 ≤ tV T (tE T N (tE T N i)) ∧ tV T (tE T N (tE T N i)) ≤ 20))) (h4 : ¬ (tK T N (tE T N (tE T N (tE T N i))) ≠ 2)) (h5 : ¬ (¬ (1 ≤ tV T (tE T N (tE T N (tE T N i))) ∧ tV T (tE T N (tE T N (tE T N i))) ≤ 4))) (h6 : tK T N (tE T N (tE T N (tE T N (tE T N i)))) ≠ 2) : perF T N st c i = 1 ∧ perP T N st c i = (tS T (tE T N (tE T N (tE T N (tE T N i)))) : Int) := ⟨by unfold perF; rw [if_neg h0, if_neg h1, if_neg h2, if_neg h3, if_neg h4, if_neg h5, if_pos h6], by unfold perP; rw [if_neg h0, if_neg h1, if_neg h2, if_neg h3, if_neg h4, if_neg h5, if_pos h6]⟩
theorem per_7 (T : Nat → Int) (N : Nat) (st c : Int) (i : Nat) (h0 : ¬ (7 ≤ c)) (h1 : ¬ (tQ T N (tE T N i) = 0)) (h2 : ¬ (tK T N (tE T N (tE T N i)) ≠ 2)) (h3 : ¬ (¬ (1 ≤ tV T (tE T N (tE T N i)) ∧ tV T (tE T N (tE T N i)) ≤ 20))) (h4 : ¬ (tK T N (tE T N (tE T N (tE T N i))) ≠ 2)) (h5 : ¬ (¬ (1 ≤ tV T (tE T N (tE T N (tE T N i))) ∧ tV T (tE T N (tE T N (tE T N i))) ≤ 4))) (h6 : ¬ (tK T N (tE T N (tE T N (tE T N (tE T N i)))) ≠ 2)) (h7 : ¬ (tV T (tE T N (tE T N (tE T N (tE T N i)))) = 99 ∨ (0 ≤ tV T (tE T N (tE T N (tE T N (tE T N i)))) ∧ tV T (tE T N (tE T N (tE T N (tE T N i)))) ≤ st - 1))) : perF T N st c i = 2 ∧ perP T N st c i = (tS T (tE T N (tE T N (tE T N (tE T N i)))) : Int) := ⟨by unfold perF; rw [if_neg h0, if_neg h1, if_neg h2, if_neg h3, if_neg h4, if_neg h5, if_neg h6, if_pos h7], by unfold perP; rw [if_neg h0, if_neg h1, if_neg h2, if_neg h3, if_neg h4, if_neg h5, if_neg h6, if_pos h7]⟩
theorem per_8 (T : Nat → Int) (N : Nat) (st c : Int) (i : Nat) (h0 : ¬ (7 ≤ c)) (h1 : ¬ (tQ T N (tE T N i) = 0)) (h2 : ¬ (tK T N (tE T N (tE T N i)) ≠ 2)) (h3 : ¬ (¬ (1 ≤ tV T (tE T N (tE T N i)) ∧ tV T (tE T N (tE T N i)) ≤ 20))) (h4 : ¬ (tK T N (tE T N (tE T N (tE T N i))) ≠ 2)) (h5 : ¬ (¬ (1 ≤ tV T (tE T N (tE T N (tE T N i))) ∧ tV T (tE T N (tE T N (tE T N i))) ≤ 4))) (h6 : ¬ (tK T N (tE T N (tE T N (tE T N (tE T N i)))) ≠ 2)) (h7 : ¬ (¬ (tV T (tE T N (tE T N (tE T N (tE T N i)))) = 99 ∨ (0 ≤ tV T (tE T N (tE T N (tE T N (tE T N i)))) ∧ tV T (tE T N (tE T N (tE T N (tE T N i)))) ≤ st - 1)))) (h8 : tK T N (tE T N (tE T N (tE T N (tE T N (tE T N i))))) ≠ 3) : perF T N st c i = 1 ∧ perP T N st c i = (tS T (tE T N (tE T N (tE T N (tE T N (tE T N i))))) : Int) := ⟨by unfold perF; rw [if_neg h0, if_neg h1, if_neg h2, if_neg h3, if_neg h4, if_neg h5, if_neg h6, if_neg h7, if_pos h8], by unfold perP; rw [if_neg h0, if_neg h1, if_neg h2, if_neg h3, if_neg h4, if_neg h5, if_neg h6, if_neg h7, if_pos h8]⟩
theorem per_ok (T : Nat → Int) (N : Nat) (st c : Int) (i : Nat) (h0 : ¬ (7 ≤ c)) (h1 : ¬ (tQ T N (tE T N i) = 0)) (h2 : ¬ (tK T N (tE T N (tE T N i)) ≠ 2)) (h3 : ¬ (¬ (1 ≤ tV T (tE T N (tE T N i)) ∧ tV T (tE T N (tE T N i)) ≤ 20))) (h4 : ¬ (tK T N (tE T N (tE T N (tE T N i))) ≠ 2)) (h5 : ¬ (¬ (1 ≤ tV T (tE T N (tE T N (tE T N i))) ∧ tV T (tE T N (tE T N (tE T N i))) ≤ 4))) (h6 : ¬ (tK T N (tE T N (tE T N (tE T N (tE T N i)))) ≠ 2)) (h7 : ¬ (¬ (tV T (tE T N (tE T N (tE T N (tE T N i)))) = 99 ∨ (0 ≤ tV T (tE T N (tE T N (tE T N (tE T N i)))) ∧ tV T (tE T N (tE T N (tE T N (tE T N i)))) ≤ st - 1)))) (h8 : ¬ (tK T N (tE T N (tE T N (tE T N (tE T N (tE T N i))))) ≠ 3)) : perF T N st c i = 0 := by unfold perF; rw [if_neg h0, if_neg h1, if_neg h2, if_neg h3, if_neg h4, if_neg h5, if_neg h6, if_neg h7, if_neg h8]
def stoF (T : Nat → Int) (N : Nat) (c : Int) (i : Nat) : Int := if 4 ≤ c then 3 else if tK T N (tE T N i) ≠ 2 then 1 else if ¬ (1 ≤ tV T (tE T N i) ∧ tV T (tE T N i) ≤ 20) then 2 else if tK T N (tE T N (tE T N i)) ≠ 2 then 1 else if ¬ (0 ≤ tV T (tE T N (tE T N i)) ∧ tV T (tE T N (tE T N i)) ≤ 3) then 2 else if tK T N (tE T N (tE T N (tE T N i))) ≠ 3 then 1 else 0
def stoP (T : Nat → Int) (N : Nat) (c : Int) (i : Nat) : Int := if 4 ≤ c then (tS T i : Int) else if tK T N (tE T N i) ≠ 2 then (tS T (tE T N i) : Int) else if ¬ (1 ≤ tV T (tE T N i) ∧ tV T (tE T N i) ≤ 20) then (tS T (tE T N i) : Int) else if tK T N (tE T N (tE T N i)) ≠ 2 then (tS T (tE T N (tE T N i)) : Int) else if ¬ (0 ≤ tV T (tE T N (tE T N i)) ∧ tV T (tE T N (tE T N i)) ≤ 3) then (tS T (tE T N (tE T N i)) : Int) else if tK T N (tE T N (tE T N (tE T N i))) ≠ 3 then (tS T (tE T N (tE T N (tE T N i))) : Int) else 0
theorem sto_def (T : Nat → Int) (N : Nat) (c : Int) (i : Nat) : ((4 ≤ c) ∧ stoF T N c i = 3 ∧ stoP T N c i = (tS T i : Int)) ∨ (¬ (4 ≤ c) ∧ (tK T N (tE T N i) ≠ 2) ∧ stoF T N c i = 1 ∧ stoP T N c i = (tS T (tE T N i) : Int)) ∨ (¬ (4 ≤ c) ∧ ¬ (tK T N (tE T N i) ≠ 2) ∧ (¬ (1 ≤ tV T (tE T N i) ∧ tV T (tE T N i) ≤ 20)) ∧ stoF T N c i = 2 ∧ stoP T N c i = (tS T (tE T N i) : Int)) ∨ (¬ (4 ≤ c) ∧ ¬ (tK T N (tE T N i) ≠ 2) ∧ ¬ (¬ (1 ≤ tV T (tE T N i) ∧ tV T (tE T N i) ≤ 20)) ∧ (tK T N (tE T N (tE T N i)) ≠ 2) ∧ stoF T N c i = 1 ∧ stoP T N c i = (tS T (tE T N (tE T N i)) : Int)) ∨ (¬ (4 ≤ c) ∧ ¬ (tK T N (tE T N i) ≠ 2) ∧ ¬ (¬ (1 ≤ tV T (tE T N i) ∧ tV T (tE T N i) ≤ 20)) ∧ ¬ (tK T N (tE T N (tE T N i)) ≠ 2) ∧ (¬ (0 ≤ tV T (tE T N (tE T N i)) ∧ tV T (tE T N (tE T N i)) ≤ 3)) ∧ stoF T N c i = 2 ∧ stoP T N c i = (tS T (tE T N (tE T N i)) : Int)) ∨ (¬ (4 ≤ c) ∧ ¬ (tK T N (tE T N i) ≠ 2) ∧ ¬ (¬ (1 ≤ tV T (tE T N i) ∧ tV T (tE T N i) ≤ 20)) ∧ ¬ (tK T N (tE T N (tE T N i)) ≠ 2) ∧ ¬ (¬ (0 ≤ tV T (tE T N (tE T N i)) ∧ tV T (tE T N (tE T N i)) ≤ 3)) ∧ (tK T N (tE T N (tE T N (tE T N i))) ≠ 3) ∧ stoF T N c i = 1 ∧ stoP T N c i = (tS T (tE T N (tE T N (tE T N i))) : Int)) ∨ (¬ (4 ≤ c) ∧ ¬ (tK T N (tE T N i) ≠ 2) ∧ ¬ (¬ (1 ≤ tV T (tE T N i) ∧ tV T (tE T N i) ≤ 20)) ∧ ¬ (tK T N (tE T N (tE T N i)) ≠ 2) ∧ ¬ (¬ (0 ≤ tV T (tE T N (tE T N i)) ∧ tV T (tE T N (tE T N i)) ≤ 3)) ∧ ¬ (tK T N (tE T N (tE T N (tE T N i))) ≠ 3) ∧ stoF T N c i = 0) := by
  by_cases h0 : 4 ≤ c
  · exact Or.inl ⟨h0, by unfold stoF; rw [if_pos h0], by unfold stoP; rw [if_pos h0]⟩
  by_cases h1 : tK T N (tE T N i) ≠ 2
  · exact Or.inr (Or.inl ⟨h0, h1, by unfold stoF; rw [if_neg h0, if_pos h1], by unfold stoP; rw [if_neg h0, if_pos h1]⟩)
  by_cases h2 : ¬ (1 ≤ tV T (tE T N i) ∧ tV T (tE T N i) ≤ 20)
  · exact Or.inr (Or.inr (Or.inl ⟨h0, h1, h2, by unfold stoF; rw [if_neg h0, if_neg h1, if_pos h2], by unfold stoP; rw [if_neg h0, if_neg h1, if_pos h2]⟩))
  by_cases h3 : tK T N (tE T N (tE T N i)) ≠ 2
  · exact Or.inr (Or.inr (Or.inr (Or.inl ⟨h0, h1, h2, h3, by unfold stoF; rw [if_neg h0, if_neg h1, if_neg h2, if_pos h3], by unfold stoP; rw [if_neg h0, if_neg h1, if_neg h2, if_pos h3]⟩)))
  by_cases h4 : ¬ (0 ≤ tV T (tE T N (tE T N i)) ∧ tV T (tE T N (tE T N i)) ≤ 3)
  · exact Or.inr (Or.inr (Or.inr (Or.inr (Or.inl ⟨h0, h1, h2, h3, h4, by unfold stoF; rw [if_neg h0, if_neg h1, if_neg h2, if_neg h3, if_pos h4], by unfold stoP; rw [if_neg h0, if_neg h1, if_neg h2, if_neg h3, if_pos h4]⟩))))
  by_cases h5 : tK T N (tE T N (tE T N (tE T N i))) ≠ 3
  · exact Or.inr (Or.inr (Or.inr (Or.inr (Or.inr (Or.inl ⟨h0, h1, h2, h3, h4, h5, by unfold stoF; rw [if_neg h0, if_neg h1, if_neg h2, if_neg h3, if_neg h4, if_pos h5], by unfold stoP; rw [if_neg h0, if_neg h1, if_neg h2, if_neg h3, if_neg h4, if_pos h5]⟩)))))
  exact Or.inr (Or.inr (Or.inr (Or.inr (Or.inr (Or.inr (⟨h0, h1, h2, h3, h4, h5, by unfold stoF; rw [if_neg h0, if_neg h1, if_neg h2, if_neg h3, if_neg h4, if_neg h5]⟩))))))
theorem sto_0 (T : Nat → Int) (N : Nat) (c : Int) (i : Nat) (h0 : 4 ≤ c) : stoF T N c i = 3 ∧ stoP T N c i = (tS T i : Int) := ⟨by unfold stoF; rw [if_pos h0], by unfold stoP; rw [if_pos h0]⟩
theorem sto_1 (T : Nat → Int) (N : Nat) (c : Int) (i : Nat) (h0 : ¬ (4 ≤ c)) (h1 : tK T N (tE T N i) ≠ 2) : stoF T N c i = 1 ∧ stoP T N c i = (tS T (tE T N i) : Int) := ⟨by unfold stoF; rw [if_neg h0, if_pos h1], by unfold stoP; rw [if_neg h0, if_pos h1]⟩
theorem sto_2 (T : Nat → Int) (N : Nat) (c : Int) (i : Nat) (h0 : ¬ (4 ≤ c)) (h1 : ¬ (tK T N (tE T N i) ≠ 2)) (h2 : ¬ (1 ≤ tV T (tE T N i) ∧ tV T (tE T N i) ≤ 20)) : stoF T N c i = 2 ∧ stoP T N c i = (tS T (tE T N i) : Int) := ⟨by unfold stoF; rw [if_neg h0, if_neg h1, if_pos h2], by unfold stoP; rw [if_neg h0, if_neg h1, if_pos h2]⟩
theorem sto_3 (T : Nat → Int) (N : Nat) (c : Int) (i : Nat) (h0 : ¬ (4 ≤ c)) (h1 : ¬ (tK T N (tE T N i) ≠ 2)) (h2 : ¬ (¬ (1 ≤ tV T (tE T N i) ∧ tV T (tE T N i) ≤ 20))) (h3 : tK T N (tE T N (tE T N i)) ≠ 2) : stoF T N c i = 1 ∧ stoP T N c i = (tS T (tE T N (tE T N i)) : Int) := ⟨by unfold stoF; rw [if_neg h0, if_neg h1, if_neg h2, if_pos h3], by unfold stoP; rw [if_neg h0, if_neg h1, if_neg h2, if_pos h3]⟩
theorem sto_4 (T : Nat → Int) (N : Nat) (c : Int) (i : Nat) (h0 : ¬ (4 ≤ c)) (h1 : ¬ (tK T N (tE T N i) ≠ 2)) (h2 : ¬ (¬ (1 ≤ tV T (tE T N i) ∧ tV T (tE T N i) ≤ 20))) (h3 : ¬ (tK T N (tE T N (tE T N i)) ≠ 2)) (h4 : ¬ (0 ≤ tV T (tE T N (tE T N i)) ∧ tV T (tE T N (tE T N i)) ≤ 3)) : stoF T N c i = 2 ∧ stoP T N c i = (tS T (tE T N (tE T N i)) : Int) := ⟨by unfold stoF; rw [if_neg h0, if_neg h1, if_neg h2, if_neg h3, if_pos h4], by unfold stoP; rw [if_neg h0, if_neg h1, if_neg h2, if_neg h3, if_pos h4]⟩
theorem sto_5 (T : Nat → Int) (N : Nat) (c : Int) (i : Nat) (h0 : ¬ (4 ≤ c)) (h1 : ¬ (tK T N (tE T N i) ≠ 2)) (h2 : ¬ (¬ (1 ≤ tV T (tE T N i) ∧ tV T (tE T N i) ≤ 20))) (h3 : ¬ (tK T N (tE T N (tE T N i)) ≠ 2)) (h4 : ¬ (¬ (0 ≤ tV T (tE T N (tE T N i)) ∧ tV T (tE T N (tE T N i)) ≤ 3))) (h5 : tK T N (tE T N (tE T N (tE T N i))) ≠ 3) : stoF T N c i = 1 ∧ stoP T N c i = (tS T (tE T N (tE T N (tE T N i))) : Int) := ⟨by unfold stoF; rw [if_neg h0, if_neg h1, if_neg h2, if_neg h3, if_neg h4, if_pos h5], by unfold stoP; rw [if_neg h0, if_neg h1, if_neg h2, if_neg h3, if_neg h4, if_pos h5]⟩
theorem sto_ok (T : Nat → Int) (N : Nat) (c : Int) (i : Nat) (h0 : ¬ (4 ≤ c)) (h1 : ¬ (tK T N (tE T N i) ≠ 2)) (h2 : ¬ (¬ (1 ≤ tV T (tE T N i) ∧ tV T (tE T N i) ≤ 20))) (h3 : ¬ (tK T N (tE T N (tE T N i)) ≠ 2)) (h4 : ¬ (¬ (0 ≤ tV T (tE T N (tE T N i)) ∧ tV T (tE T N (tE T N i)) ≤ 3))) (h5 : ¬ (tK T N (tE T N (tE T N (tE T N i))) ≠ 3)) : stoF T N c i = 0 := by unfold stoF; rw [if_neg h0, if_neg h1, if_neg h2, if_neg h3, if_neg h4, if_neg h5]
def t4 (T : Nat → Int) (N i : Nat) : Nat := (tE T N (tE T N (tE T N (tE T N i))))
def t6 (T : Nat → Int) (N i : Nat) : Nat := (tE T N (tE T N (tE T N (tE T N (tE T N (tE T N i))))))
/-- the persons from token i on, c of them read: fault, its place, how many, where -/
def prun (T : Nat → Int) (N : Nat) (st : Int) : Nat → Nat → Nat → Int × Int × Nat × Nat
  | 0, c, i => (0, 0, c, i)
  | n + 1, c, i => if tK T N i = 1 ∧ tW T N i 1 = 1 then (if perF T N st c i = 0 then prun T N st n (c + 1) (t6 T N i) else (perF T N st c i, perP T N st c i, c, i)) else (0, 0, c, i)
def srun (T : Nat → Int) (N : Nat) : Nat → Nat → Nat → Int × Int × Nat × Nat
  | 0, c, i => (0, 0, c, i)
  | n + 1, c, i => if tK T N i = 1 ∧ tW T N i 7 = 1 then (if stoF T N c i = 0 then srun T N n (c + 1) (t4 T N i) else (stoF T N c i, stoP T N c i, c, i)) else (0, 0, c, i)
def prs (T : Nat → Int) (N : Nat) (st : Int) (c i : Nat) : Int × Int × Nat × Nat := prun T N st (8 - c) c i
def srs (T : Nat → Int) (N : Nat) (c i : Nat) : Int × Int × Nat × Nat := srun T N (5 - c) c i
theorem prs_go {T : Nat → Int} {N : Nat} {st : Int} {c i : Nat} (hc : c < 8) (hw : tK T N i = 1 ∧ tW T N i 1 = 1) (hf : perF T N st c i = 0) : prs T N st (c + 1) (t6 T N i) = prs T N st c i := by
  unfold prs
  rw [show 8 - c = (8 - (c + 1)) + 1 by omega]
  show _ = if _ then _ else _
  rw [if_pos hw, if_pos hf]
theorem prs_bad {T : Nat → Int} {N : Nat} {st : Int} {c i : Nat} (hc : c < 8) (hw : tK T N i = 1 ∧ tW T N i 1 = 1) (hf : perF T N st c i ≠ 0) : prs T N st c i = (perF T N st c i, perP T N st c i, c, i) := by
  unfold prs
  rw [show 8 - c = (8 - (c + 1)) + 1 by omega]
  show (if _ then _ else _) = _
  rw [if_pos hw, if_neg hf]
theorem prs_no {T : Nat → Int} {N : Nat} {st : Int} {c i : Nat} (hw : ¬ (tK T N i = 1 ∧ tW T N i 1 = 1)) : prs T N st c i = (0, 0, c, i) := by
  unfold prs
  cases 8 - c with
  | zero => rfl
  | succ n =>
    show (if _ then _ else _) = _
    rw [if_neg hw]
theorem srs_go {T : Nat → Int} {N : Nat} {c i : Nat} (hc : c < 5) (hw : tK T N i = 1 ∧ tW T N i 7 = 1) (hf : stoF T N c i = 0) : srs T N (c + 1) (t4 T N i) = srs T N c i := by
  unfold srs
  rw [show 5 - c = (5 - (c + 1)) + 1 by omega]
  show _ = if _ then _ else _
  rw [if_pos hw, if_pos hf]
theorem srs_bad {T : Nat → Int} {N : Nat} {c i : Nat} (hc : c < 5) (hw : tK T N i = 1 ∧ tW T N i 7 = 1) (hf : stoF T N c i ≠ 0) : srs T N c i = (stoF T N c i, stoP T N c i, c, i) := by
  unfold srs
  rw [show 5 - c = (5 - (c + 1)) + 1 by omega]
  show (if _ then _ else _) = _
  rw [if_pos hw, if_neg hf]
theorem srs_no {T : Nat → Int} {N : Nat} {c i : Nat} (hw : ¬ (tK T N i = 1 ∧ tW T N i 7 = 1)) : srs T N c i = (0, 0, c, i) := by
  unfold srs
  cases 5 - c with
  | zero => rfl
  | succ n =>
    show (if _ then _ else _) = _
    rw [if_neg hw]
/-- the whole text: persons, stones, outcome -/
def pall (T : Nat → Int) (N : Nat) : Int × Int × Nat × Nat := prs T N (tV T (tE T N 0)) 0 (t4 T N 0)
def sall (T : Nat → Int) (N : Nat) : Int × Int × Nat × Nat := srs T N 0 (pall T N).2.2.2
def outF (T : Nat → Int) (N : Nat) : Int := if lawF T N 0 ≠ 0 then lawF T N 0 else if (pall T N).1 ≠ 0 then (pall T N).1 else if (sall T N).1 ≠ 0 then (sall T N).1 else if tK T N (sall T N).2.2.2 ≠ 0 then 1 else 0
def outP (T : Nat → Int) (N : Nat) : Int := if lawF T N 0 ≠ 0 then lawP T N 0 else if (pall T N).1 ≠ 0 then (pall T N).2.1 else if (sall T N).1 ≠ 0 then (sall T N).2.1 else (tS T (sall T N).2.2.2 : Int)
def outN (T : Nat → Int) (N : Nat) : Int := ((pall T N).2.2.1 : Int)
theorem out_law {T : Nat → Int} {N : Nat} (h : lawF T N 0 ≠ 0) : outF T N = lawF T N 0 ∧ outP T N = lawP T N 0 := by
  exact ⟨by unfold outF; rw [if_pos h], by unfold outP; rw [if_pos h]⟩
/-- c persons are read, the token at q is at hand -/
def PI_ (T : Nat → Int) (N c q : Nat) : Prop := lawF T N 0 = 0 ∧ prs T N (tV T (tE T N 0)) c q = pall T N
theorem PI_.start {T : Nat → Int} {N : Nat} (h : lawF T N 0 = 0) : PI_ T N 0 (t4 T N 0) := ⟨h, rfl⟩
theorem PI_.go {T : Nat → Int} {N c q : Nat} (h : PI_ T N c q) (hc : c < 8) (hw : tK T N q = 1 ∧ tW T N q 1 = 1) (hf : perF T N (tV T (tE T N 0)) c q = 0) : PI_ T N (c + 1) (t6 T N q) := ⟨h.1, (prs_go hc hw hf).trans h.2⟩
theorem PI_.bad {T : Nat → Int} {N c q : Nat} (h : PI_ T N c q) (hc : c < 8) (hw : tK T N q = 1 ∧ tW T N q 1 = 1) (hf : perF T N (tV T (tE T N 0)) c q ≠ 0) : outF T N = perF T N (tV T (tE T N 0)) c q ∧ outP T N = perP T N (tV T (tE T N 0)) c q := by
  have e : pall T N = _ := h.2.symm.trans (prs_bad hc hw hf)
  have e1 : (pall T N).1 ≠ 0 := by rw [e]; exact hf
  have n1 : ¬ lawF T N 0 ≠ 0 := by rw [h.1]; decide
  exact ⟨by unfold outF; rw [if_neg n1, if_pos e1, e], by unfold outP; rw [if_neg n1, if_pos e1, e]⟩
/-- c stones are read, m persons -/
def SI_ (T : Nat → Int) (N m c q : Nat) : Prop := lawF T N 0 = 0 ∧ (pall T N).1 = 0 ∧ (pall T N).2.2.1 = m ∧ srs T N c q = sall T N
theorem PI_.no {T : Nat → Int} {N c q : Nat} (h : PI_ T N c q) (hw : ¬ (tK T N q = 1 ∧ tW T N q 1 = 1)) : SI_ T N c 0 q := by
  have e : pall T N = _ := h.2.symm.trans (prs_no hw)
  refine ⟨h.1, by rw [e], by rw [e], ?_⟩
  unfold sall
  rw [e]
theorem SI_.go {T : Nat → Int} {N m c q : Nat} (h : SI_ T N m c q) (hc : c < 5) (hw : tK T N q = 1 ∧ tW T N q 7 = 1) (hf : stoF T N c q = 0) : SI_ T N m (c + 1) (t4 T N q) := ⟨h.1, h.2.1, h.2.2.1, (srs_go hc hw hf).trans h.2.2.2⟩
theorem SI_.bad {T : Nat → Int} {N m c q : Nat} (h : SI_ T N m c q) (hc : c < 5) (hw : tK T N q = 1 ∧ tW T N q 7 = 1) (hf : stoF T N c q ≠ 0) : outF T N = stoF T N c q ∧ outP T N = stoP T N c q := by
  have e : sall T N = _ := h.2.2.2.symm.trans (srs_bad hc hw hf)
  have e1 : (sall T N).1 ≠ 0 := by rw [e]; exact hf
  have n1 : ¬ lawF T N 0 ≠ 0 := by rw [h.1]; decide
  have n2 : ¬ (pall T N).1 ≠ 0 := by rw [h.2.1]; decide
  exact ⟨by unfold outF; rw [if_neg n1, if_neg n2, if_pos e1, e], by unfold outP; rw [if_neg n1, if_neg n2, if_pos e1, e]⟩
theorem SI_.no {T : Nat → Int} {N m c q : Nat} (h : SI_ T N m c q) (hw : ¬ (tK T N q = 1 ∧ tW T N q 7 = 1)) : (tK T N q ≠ 0 ∧ outF T N = 1 ∧ outP T N = (tS T q : Int)) ∨ (tK T N q = 0 ∧ outF T N = 0 ∧ outN T N = (m : Int)) := by
  have e : sall T N = _ := h.2.2.2.symm.trans (srs_no hw)
  have e1 : (sall T N).1 = 0 := by rw [e]
  have e2 : (sall T N).2.2.2 = q := by rw [e]
  by_cases g : tK T N q = 0
  · refine Or.inr ⟨g, ?_, ?_⟩
    · unfold outF
      rw [if_neg (by rw [h.1]; decide), if_neg (by rw [h.2.1]; decide), if_neg (by rw [e1]; decide), if_neg (by rw [e2, g]; decide)]
    · unfold outN
      rw [h.2.2.1]
  · refine Or.inl ⟨g, ?_, ?_⟩
    · unfold outF
      rw [if_neg (by rw [h.1]; decide), if_neg (by rw [h.2.1]; decide), if_neg (by rw [e1]; decide), if_pos (by rw [e2]; exact g)]
    · unfold outP
      rw [if_neg (by rw [h.1]; decide), if_neg (by rw [h.2.1]; decide), if_neg (by rw [e1]; decide), e2]
theorem fig_step {tv b x1 x2 x3 : Int32} (e1 : x1 = 10 * tv) (e2 : x2 = x1 + b) (e3 : x3 = x2 - 48) (h : 0 ≤ tv.toInt ∧ tv.toInt ≤ 99) (hb : 48 ≤ b.toInt ∧ b.toInt ≤ 57) : x3.toInt = 10 * tv.toInt + (b.toInt - 48) := by
  have v0 : IV tv 0 99 := ⟨h.1, h.2⟩
  have vb : IV b 48 57 := ⟨hb.1, hb.2⟩
  have v1 : IV x1 0 990 := by rw [e1]; exact iv_mul kc_10 v0 (by decide)
  have t1 : x1.toInt = 10 * tv.toInt := by rw [e1, ti_mulv kc_10 v0 (by decide), kt_10]
  have v2 : IV x2 48 1047 := by rw [e2]; exact iv_add v1 vb (by decide)
  have t2 : x2.toInt = x1.toInt + b.toInt := by rw [e2, ti_addv v1 vb (by decide)]
  have t3 : x3.toInt = x2.toInt - 48 := by rw [e3, ti_subv v2 kc_48 (by decide), kt_48]
  omega
theorem tx_pos : ∀ w, w < 8 → ∀ k, k < tx_len.getD w 0 → 0 ≤ ((tx_byt.getD w []).getD k 0).toInt ∧ ((tx_byt.getD w []).getD k 0).toInt ≤ 127 := by decide +kernel
theorem ch_b : ∀ w, w < 8 → ∀ k, k < tx_len.getD w 0 → (((tx_byt.getD w []).getD k 0 &&& 255).toUInt32 % 65536).toInt32.toInt = ((tx_byt.getD w []).getD k 0).toInt := by decide +kernel
theorem zero188 {τ υ : Sg} {n : Nat} {v : Int32} (e : υ = sV τ 23 0 n v) (hv : v.toInt = 0) (h : n = 188 ∨ (gV τ 23 0 188).toInt = 0) : (gV υ 23 0 188).toInt = 0 := by
  subst e
  by_cases g : n = 188
  · subst g
    rw [gV_self]
    exact hv
  · rw [gV_ne (Or.inr (Or.inr (Ne.symm g)))]
    rcases h with h | h
    · exact absurd h g
    · exact h
theorem tE_le {T : Nat → Int} {N i : Nat} (hT : ∀ k, N ≤ k → T k = 0) (h : tK T N i = 1) : tE T N i ≤ N := by
  by_cases g : N ≤ tS T i
  · have := (tok0 g).1
    omega
  · by_cases l : 97 ≤ T (tS T i) ∧ T (tS T i) ≤ 122
    · have e := (tok1 (N := N) (by omega) l).2
      by_cases c : tE T N i ≤ N
      · exact c
      · have q := le_i (sc_all (P := isLe) (T := T) (i := tS T i) (k := tE T N i - 1) (by omega) (by omega))
        have q2 := hT (tE T N i - 1) (by omega)
        omega
    · by_cases f : 48 ≤ T (tS T i) ∧ T (tS T i) ≤ 57
      · have := (tok2 (N := N) (by omega) f).1
        omega
      · have := (tok3 (N := N) (by omega) l f).1
        omega
