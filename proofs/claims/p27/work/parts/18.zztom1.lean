/-- the number of n letters -/
def ln (T : Nat → Int) (s : Nat) : Nat → Int
  | 0 => 0
  | n + 1 => 32 * ln T s n + (T (s + n) - 96)
theorem ln_b {T : Nat → Int} {s : Nat} : ∀ n, (∀ k, k < n → 97 ≤ T (s + k) ∧ T (s + k) ≤ 122) → 0 ≤ ln T s n ∧ ln T s n < (32 : Int) ^ n := by
  intro n
  induction n with
  | zero => intro _; exact ⟨(by decide : (0 : Int) ≤ 0), (by decide : (0 : Int) < 32 ^ 0)⟩
  | succ n ih =>
    intro h
    have h1 := ih (fun k hk => h k (by omega))
    have h2 := h n (by omega)
    have e : (32 : Int) ^ (n + 1) = 32 * 32 ^ n := by rw [Int.pow_succ]; omega
    show 0 ≤ 32 * ln T s n + (T (s + n) - 96) ∧ 32 * ln T s n + (T (s + n) - 96) < (32 : Int) ^ (n + 1)
    rw [e]
    omega
set_option maxHeartbeats 2000000 in
theorem wi_0 {T : Nat → Int} {s n : Nat} (ha : ∀ k, k < n → 97 ≤ T (s + k) ∧ T (s + k) ≤ 122) (h1 : 1 ≤ n) (h9 : n ≤ 9) : ln T s n = 12343 ↔ (n = 3 ∧ T (s + 0) = 108 ∧ T (s + 1) = 97 ∧ T (s + 2) = 119) := by
  constructor
  · intro h
    have hn : n = 1 ∨ n = 2 ∨ n = 3 ∨ n = 4 ∨ n = 5 ∨ n = 6 ∨ n = 7 ∨ n = 8 ∨ n = 9 := by omega
    rcases hn with rfl | rfl | rfl | rfl | rfl | rfl | rfl | rfl | rfl
    · have h2 : 32 * (0) + (T (s + 0) - 96) = 12343 := h
      have a0 := ha 0 (by decide)
      omega
    · have h2 : 32 * (32 * (0) + (T (s + 0) - 96)) + (T (s + 1) - 96) = 12343 := h
      have a0 := ha 0 (by decide)
      have a1 := ha 1 (by decide)
      omega
    · have h2 : 32 * (32 * (32 * (0) + (T (s + 0) - 96)) + (T (s + 1) - 96)) + (T (s + 2) - 96) = 12343 := h
      have a0 := ha 0 (by decide)
      have a1 := ha 1 (by decide)
      have a2 := ha 2 (by decide)
      omega
    · have h2 : 32 * (32 * (32 * (32 * (0) + (T (s + 0) - 96)) + (T (s + 1) - 96)) + (T (s + 2) - 96)) + (T (s + 3) - 96) = 12343 := h
      have a0 := ha 0 (by decide)
      have a1 := ha 1 (by decide)
      have a2 := ha 2 (by decide)
      have a3 := ha 3 (by decide)
      omega
    · have h2 : 32 * (32 * (32 * (32 * (32 * (0) + (T (s + 0) - 96)) + (T (s + 1) - 96)) + (T (s + 2) - 96)) + (T (s + 3) - 96)) + (T (s + 4) - 96) = 12343 := h
      have a0 := ha 0 (by decide)
      have a1 := ha 1 (by decide)
      have a2 := ha 2 (by decide)
      have a3 := ha 3 (by decide)
      have a4 := ha 4 (by decide)
      omega
    · have h2 : 32 * (32 * (32 * (32 * (32 * (32 * (0) + (T (s + 0) - 96)) + (T (s + 1) - 96)) + (T (s + 2) - 96)) + (T (s + 3) - 96)) + (T (s + 4) - 96)) + (T (s + 5) - 96) = 12343 := h
      have a0 := ha 0 (by decide)
      have a1 := ha 1 (by decide)
      have a2 := ha 2 (by decide)
      have a3 := ha 3 (by decide)
      have a4 := ha 4 (by decide)
      have a5 := ha 5 (by decide)
      omega
    · have h2 : 32 * (32 * (32 * (32 * (32 * (32 * (32 * (0) + (T (s + 0) - 96)) + (T (s + 1) - 96)) + (T (s + 2) - 96)) + (T (s + 3) - 96)) + (T (s + 4) - 96)) + (T (s + 5) - 96)) + (T (s + 6) - 96) = 12343 := h
      have a0 := ha 0 (by decide)
      have a1 := ha 1 (by decide)
      have a2 := ha 2 (by decide)
      have a3 := ha 3 (by decide)
      have a4 := ha 4 (by decide)
      have a5 := ha 5 (by decide)
      have a6 := ha 6 (by decide)
      omega
    · have h2 : 32 * (32 * (32 * (32 * (32 * (32 * (32 * (32 * (0) + (T (s + 0) - 96)) + (T (s + 1) - 96)) + (T (s + 2) - 96)) + (T (s + 3) - 96)) + (T (s + 4) - 96)) + (T (s + 5) - 96)) + (T (s + 6) - 96)) + (T (s + 7) - 96) = 12343 := h
      have a0 := ha 0 (by decide)
      have a1 := ha 1 (by decide)
      have a2 := ha 2 (by decide)
      have a3 := ha 3 (by decide)
      have a4 := ha 4 (by decide)
      have a5 := ha 5 (by decide)
      have a6 := ha 6 (by decide)
      have a7 := ha 7 (by decide)
      omega
    · have h2 : 32 * (32 * (32 * (32 * (32 * (32 * (32 * (32 * (32 * (0) + (T (s + 0) - 96)) + (T (s + 1) - 96)) + (T (s + 2) - 96)) + (T (s + 3) - 96)) + (T (s + 4) - 96)) + (T (s + 5) - 96)) + (T (s + 6) - 96)) + (T (s + 7) - 96)) + (T (s + 8) - 96) = 12343 := h
      have a0 := ha 0 (by decide)
      have a1 := ha 1 (by decide)
      have a2 := ha 2 (by decide)
      have a3 := ha 3 (by decide)
      have a4 := ha 4 (by decide)
      have a5 := ha 5 (by decide)
      have a6 := ha 6 (by decide)
      have a7 := ha 7 (by decide)
      have a8 := ha 8 (by decide)
      omega
  · rintro ⟨rfl, b0, b1, b2⟩
    show 32 * (32 * (32 * (0) + (T (s + 0) - 96)) + (T (s + 1) - 96)) + (T (s + 2) - 96) = 12343
    omega
theorem wk_0 {T : Nat → Int} {s n : Nat} : wq T s (s + n) 0 = 1 ↔ (n = 3 ∧ T (s + 0) = 108 ∧ T (s + 1) = 97 ∧ T (s + 2) = 119) := by
  unfold wq
  constructor
  · intro h
    by_cases g : s + n = s + tx_len.getD 0 0 ∧ ∀ k, k < tx_len.getD 0 0 → T (s + k) = ((tx_byt.getD 0 []).getD k 0).toInt
    · have g1 : s + n = s + 3 := g.1
      exact ⟨by omega, (g.2 0 (by decide)).trans (by decide), (g.2 1 (by decide)).trans (by decide), (g.2 2 (by decide)).trans (by decide)⟩
    · rw [if_neg g] at h
      exact absurd h (by decide)
  · rintro ⟨rfl, b0, b1, b2⟩
    refine if_pos ⟨rfl, fun k hk => ?_⟩
    have hk2 : k < 3 := hk
    have hn : k = 0 ∨ k = 1 ∨ k = 2 := by omega
    rcases hn with rfl | rfl | rfl
    · exact b0.trans (by decide)
    · exact b1.trans (by decide)
    · exact b2.trans (by decide)
set_option maxHeartbeats 2000000 in
theorem wi_1 {T : Nat → Int} {s n : Nat} (ha : ∀ k, k < n → 97 ≤ T (s + k) ∧ T (s + k) ≤ 122) (h1 : 1 ≤ n) (h9 : n ≤ 9) : ln T s n = 542723566 ↔ (n = 6 ∧ T (s + 0) = 112 ∧ T (s + 1) = 101 ∧ T (s + 2) = 114 ∧ T (s + 3) = 115 ∧ T (s + 4) = 111 ∧ T (s + 5) = 110) := by
  constructor
  · intro h
    have hn : n = 1 ∨ n = 2 ∨ n = 3 ∨ n = 4 ∨ n = 5 ∨ n = 6 ∨ n = 7 ∨ n = 8 ∨ n = 9 := by omega
    rcases hn with rfl | rfl | rfl | rfl | rfl | rfl | rfl | rfl | rfl
    · have h2 : 32 * (0) + (T (s + 0) - 96) = 542723566 := h
      have a0 := ha 0 (by decide)
      omega
    · have h2 : 32 * (32 * (0) + (T (s + 0) - 96)) + (T (s + 1) - 96) = 542723566 := h
      have a0 := ha 0 (by decide)
      have a1 := ha 1 (by decide)
      omega
    · have h2 : 32 * (32 * (32 * (0) + (T (s + 0) - 96)) + (T (s + 1) - 96)) + (T (s + 2) - 96) = 542723566 := h
      have a0 := ha 0 (by decide)
      have a1 := ha 1 (by decide)
      have a2 := ha 2 (by decide)
      omega
    · have h2 : 32 * (32 * (32 * (32 * (0) + (T (s + 0) - 96)) + (T (s + 1) - 96)) + (T (s + 2) - 96)) + (T (s + 3) - 96) = 542723566 := h
      have a0 := ha 0 (by decide)
      have a1 := ha 1 (by decide)
      have a2 := ha 2 (by decide)
      have a3 := ha 3 (by decide)
      omega
    · have h2 : 32 * (32 * (32 * (32 * (32 * (0) + (T (s + 0) - 96)) + (T (s + 1) - 96)) + (T (s + 2) - 96)) + (T (s + 3) - 96)) + (T (s + 4) - 96) = 542723566 := h
      have a0 := ha 0 (by decide)
      have a1 := ha 1 (by decide)
      have a2 := ha 2 (by decide)
      have a3 := ha 3 (by decide)
      have a4 := ha 4 (by decide)
      omega
    · have h2 : 32 * (32 * (32 * (32 * (32 * (32 * (0) + (T (s + 0) - 96)) + (T (s + 1) - 96)) + (T (s + 2) - 96)) + (T (s + 3) - 96)) + (T (s + 4) - 96)) + (T (s + 5) - 96) = 542723566 := h
      have a0 := ha 0 (by decide)
      have a1 := ha 1 (by decide)
      have a2 := ha 2 (by decide)
      have a3 := ha 3 (by decide)
      have a4 := ha 4 (by decide)
      have a5 := ha 5 (by decide)
      omega
    · have h2 : 32 * (32 * (32 * (32 * (32 * (32 * (32 * (0) + (T (s + 0) - 96)) + (T (s + 1) - 96)) + (T (s + 2) - 96)) + (T (s + 3) - 96)) + (T (s + 4) - 96)) + (T (s + 5) - 96)) + (T (s + 6) - 96) = 542723566 := h
      have a0 := ha 0 (by decide)
      have a1 := ha 1 (by decide)
      have a2 := ha 2 (by decide)
      have a3 := ha 3 (by decide)
      have a4 := ha 4 (by decide)
      have a5 := ha 5 (by decide)
      have a6 := ha 6 (by decide)
      omega
    · have h2 : 32 * (32 * (32 * (32 * (32 * (32 * (32 * (32 * (0) + (T (s + 0) - 96)) + (T (s + 1) - 96)) + (T (s + 2) - 96)) + (T (s + 3) - 96)) + (T (s + 4) - 96)) + (T (s + 5) - 96)) + (T (s + 6) - 96)) + (T (s + 7) - 96) = 542723566 := h
      have a0 := ha 0 (by decide)
      have a1 := ha 1 (by decide)
      have a2 := ha 2 (by decide)
      have a3 := ha 3 (by decide)
      have a4 := ha 4 (by decide)
      have a5 := ha 5 (by decide)
      have a6 := ha 6 (by decide)
      have a7 := ha 7 (by decide)
      omega
    · have h2 : 32 * (32 * (32 * (32 * (32 * (32 * (32 * (32 * (32 * (0) + (T (s + 0) - 96)) + (T (s + 1) - 96)) + (T (s + 2) - 96)) + (T (s + 3) - 96)) + (T (s + 4) - 96)) + (T (s + 5) - 96)) + (T (s + 6) - 96)) + (T (s + 7) - 96)) + (T (s + 8) - 96) = 542723566 := h
      have a0 := ha 0 (by decide)
      have a1 := ha 1 (by decide)
      have a2 := ha 2 (by decide)
      have a3 := ha 3 (by decide)
      have a4 := ha 4 (by decide)
      have a5 := ha 5 (by decide)
      have a6 := ha 6 (by decide)
      have a7 := ha 7 (by decide)
      have a8 := ha 8 (by decide)
      omega
  · rintro ⟨rfl, b0, b1, b2, b3, b4, b5⟩
    show 32 * (32 * (32 * (32 * (32 * (32 * (0) + (T (s + 0) - 96)) + (T (s + 1) - 96)) + (T (s + 2) - 96)) + (T (s + 3) - 96)) + (T (s + 4) - 96)) + (T (s + 5) - 96) = 542723566
    omega
theorem wk_1 {T : Nat → Int} {s n : Nat} : wq T s (s + n) 1 = 1 ↔ (n = 6 ∧ T (s + 0) = 112 ∧ T (s + 1) = 101 ∧ T (s + 2) = 114 ∧ T (s + 3) = 115 ∧ T (s + 4) = 111 ∧ T (s + 5) = 110) := by
  unfold wq
  constructor
  · intro h
    by_cases g : s + n = s + tx_len.getD 1 0 ∧ ∀ k, k < tx_len.getD 1 0 → T (s + k) = ((tx_byt.getD 1 []).getD k 0).toInt
    · have g1 : s + n = s + 6 := g.1
      exact ⟨by omega, (g.2 0 (by decide)).trans (by decide), (g.2 1 (by decide)).trans (by decide), (g.2 2 (by decide)).trans (by decide), (g.2 3 (by decide)).trans (by decide), (g.2 4 (by decide)).trans (by decide), (g.2 5 (by decide)).trans (by decide)⟩
    · rw [if_neg g] at h
      exact absurd h (by decide)
  · rintro ⟨rfl, b0, b1, b2, b3, b4, b5⟩
    refine if_pos ⟨rfl, fun k hk => ?_⟩
    have hk2 : k < 6 := hk
    have hn : k = 0 ∨ k = 1 ∨ k = 2 ∨ k = 3 ∨ k = 4 ∨ k = 5 := by omega
    rcases hn with rfl | rfl | rfl | rfl | rfl | rfl
    · exact b0.trans (by decide)
    · exact b1.trans (by decide)
    · exact b2.trans (by decide)
    · exact b3.trans (by decide)
    · exact b4.trans (by decide)
    · exact b5.trans (by decide)
set_option maxHeartbeats 2000000 in
theorem wi_2 {T : Nat → Int} {s n : Nat} (ha : ∀ k, k < n → 97 ≤ T (s + k) ∧ T (s + k) ≤ 122) (h1 : 1 ≤ n) (h9 : n ≤ 9) : ln T s n = 17494690093 ↔ (n = 7 ∧ T (s + 0) = 112 ∧ T (s + 1) = 105 ∧ T (s + 2) = 108 ∧ T (s + 3) = 103 ∧ T (s + 4) = 114 ∧ T (s + 5) = 105 ∧ T (s + 6) = 109) := by
  constructor
  · intro h
    have hn : n = 1 ∨ n = 2 ∨ n = 3 ∨ n = 4 ∨ n = 5 ∨ n = 6 ∨ n = 7 ∨ n = 8 ∨ n = 9 := by omega
    rcases hn with rfl | rfl | rfl | rfl | rfl | rfl | rfl | rfl | rfl
    · have h2 : 32 * (0) + (T (s + 0) - 96) = 17494690093 := h
      have a0 := ha 0 (by decide)
      omega
    · have h2 : 32 * (32 * (0) + (T (s + 0) - 96)) + (T (s + 1) - 96) = 17494690093 := h
      have a0 := ha 0 (by decide)
      have a1 := ha 1 (by decide)
      omega
    · have h2 : 32 * (32 * (32 * (0) + (T (s + 0) - 96)) + (T (s + 1) - 96)) + (T (s + 2) - 96) = 17494690093 := h
      have a0 := ha 0 (by decide)
      have a1 := ha 1 (by decide)
      have a2 := ha 2 (by decide)
      omega
    · have h2 : 32 * (32 * (32 * (32 * (0) + (T (s + 0) - 96)) + (T (s + 1) - 96)) + (T (s + 2) - 96)) + (T (s + 3) - 96) = 17494690093 := h
      have a0 := ha 0 (by decide)
      have a1 := ha 1 (by decide)
      have a2 := ha 2 (by decide)
      have a3 := ha 3 (by decide)
      omega
    · have h2 : 32 * (32 * (32 * (32 * (32 * (0) + (T (s + 0) - 96)) + (T (s + 1) - 96)) + (T (s + 2) - 96)) + (T (s + 3) - 96)) + (T (s + 4) - 96) = 17494690093 := h
      have a0 := ha 0 (by decide)
      have a1 := ha 1 (by decide)
      have a2 := ha 2 (by decide)
      have a3 := ha 3 (by decide)
      have a4 := ha 4 (by decide)
      omega
    · have h2 : 32 * (32 * (32 * (32 * (32 * (32 * (0) + (T (s + 0) - 96)) + (T (s + 1) - 96)) + (T (s + 2) - 96)) + (T (s + 3) - 96)) + (T (s + 4) - 96)) + (T (s + 5) - 96) = 17494690093 := h
      have a0 := ha 0 (by decide)
      have a1 := ha 1 (by decide)
      have a2 := ha 2 (by decide)
      have a3 := ha 3 (by decide)
      have a4 := ha 4 (by decide)
      have a5 := ha 5 (by decide)
      omega
    · have h2 : 32 * (32 * (32 * (32 * (32 * (32 * (32 * (0) + (T (s + 0) - 96)) + (T (s + 1) - 96)) + (T (s + 2) - 96)) + (T (s + 3) - 96)) + (T (s + 4) - 96)) + (T (s + 5) - 96)) + (T (s + 6) - 96) = 17494690093 := h
      have a0 := ha 0 (by decide)
      have a1 := ha 1 (by decide)
      have a2 := ha 2 (by decide)
      have a3 := ha 3 (by decide)
      have a4 := ha 4 (by decide)
      have a5 := ha 5 (by decide)
      have a6 := ha 6 (by decide)
      omega
    · have h2 : 32 * (32 * (32 * (32 * (32 * (32 * (32 * (32 * (0) + (T (s + 0) - 96)) + (T (s + 1) - 96)) + (T (s + 2) - 96)) + (T (s + 3) - 96)) + (T (s + 4) - 96)) + (T (s + 5) - 96)) + (T (s + 6) - 96)) + (T (s + 7) - 96) = 17494690093 := h
      have a0 := ha 0 (by decide)
      have a1 := ha 1 (by decide)
      have a2 := ha 2 (by decide)
      have a3 := ha 3 (by decide)
      have a4 := ha 4 (by decide)
      have a5 := ha 5 (by decide)
      have a6 := ha 6 (by decide)
      have a7 := ha 7 (by decide)
      omega
    · have h2 : 32 * (32 * (32 * (32 * (32 * (32 * (32 * (32 * (32 * (0) + (T (s + 0) - 96)) + (T (s + 1) - 96)) + (T (s + 2) - 96)) + (T (s + 3) - 96)) + (T (s + 4) - 96)) + (T (s + 5) - 96)) + (T (s + 6) - 96)) + (T (s + 7) - 96)) + (T (s + 8) - 96) = 17494690093 := h
      have a0 := ha 0 (by decide)
      have a1 := ha 1 (by decide)
      have a2 := ha 2 (by decide)
      have a3 := ha 3 (by decide)
      have a4 := ha 4 (by decide)
      have a5 := ha 5 (by decide)
      have a6 := ha 6 (by decide)
      have a7 := ha 7 (by decide)
      have a8 := ha 8 (by decide)
      omega
  · rintro ⟨rfl, b0, b1, b2, b3, b4, b5, b6⟩
    show 32 * (32 * (32 * (32 * (32 * (32 * (32 * (0) + (T (s + 0) - 96)) + (T (s + 1) - 96)) + (T (s + 2) - 96)) + (T (s + 3) - 96)) + (T (s + 4) - 96)) + (T (s + 5) - 96)) + (T (s + 6) - 96) = 17494690093
    omega
theorem wk_2 {T : Nat → Int} {s n : Nat} : wq T s (s + n) 2 = 1 ↔ (n = 7 ∧ T (s + 0) = 112 ∧ T (s + 1) = 105 ∧ T (s + 2) = 108 ∧ T (s + 3) = 103 ∧ T (s + 4) = 114 ∧ T (s + 5) = 105 ∧ T (s + 6) = 109) := by
  unfold wq
  constructor
  · intro h
    by_cases g : s + n = s + tx_len.getD 2 0 ∧ ∀ k, k < tx_len.getD 2 0 → T (s + k) = ((tx_byt.getD 2 []).getD k 0).toInt
    · have g1 : s + n = s + 7 := g.1
      exact ⟨by omega, (g.2 0 (by decide)).trans (by decide), (g.2 1 (by decide)).trans (by decide), (g.2 2 (by decide)).trans (by decide), (g.2 3 (by decide)).trans (by decide), (g.2 4 (by decide)).trans (by decide), (g.2 5 (by decide)).trans (by decide), (g.2 6 (by decide)).trans (by decide)⟩
    · rw [if_neg g] at h
      exact absurd h (by decide)
  · rintro ⟨rfl, b0, b1, b2, b3, b4, b5, b6⟩
    refine if_pos ⟨rfl, fun k hk => ?_⟩
    have hk2 : k < 7 := hk
    have hn : k = 0 ∨ k = 1 ∨ k = 2 ∨ k = 3 ∨ k = 4 ∨ k = 5 ∨ k = 6 := by omega
    rcases hn with rfl | rfl | rfl | rfl | rfl | rfl | rfl
    · exact b0.trans (by decide)
    · exact b1.trans (by decide)
    · exact b2.trans (by decide)
    · exact b3.trans (by decide)
    · exact b4.trans (by decide)
    · exact b5.trans (by decide)
    · exact b6.trans (by decide)
set_option maxHeartbeats 2000000 in
theorem wi_3 {T : Nat → Int} {s n : Nat} (ha : ∀ k, k < n → 97 ≤ T (s + k) ∧ T (s + k) ≤ 122) (h1 : 1 ≤ n) (h9 : n ≤ 9) : ln T s n = 24416759 ↔ (n = 5 ∧ T (s + 0) = 119 ∧ T (s + 1) = 105 ∧ T (s + 2) = 100 ∧ T (s + 3) = 111 ∧ T (s + 4) = 119) := by
  constructor
  · intro h
    have hn : n = 1 ∨ n = 2 ∨ n = 3 ∨ n = 4 ∨ n = 5 ∨ n = 6 ∨ n = 7 ∨ n = 8 ∨ n = 9 := by omega
    rcases hn with rfl | rfl | rfl | rfl | rfl | rfl | rfl | rfl | rfl
    · have h2 : 32 * (0) + (T (s + 0) - 96) = 24416759 := h
      have a0 := ha 0 (by decide)
      omega
    · have h2 : 32 * (32 * (0) + (T (s + 0) - 96)) + (T (s + 1) - 96) = 24416759 := h
      have a0 := ha 0 (by decide)
      have a1 := ha 1 (by decide)
      omega
    · have h2 : 32 * (32 * (32 * (0) + (T (s + 0) - 96)) + (T (s + 1) - 96)) + (T (s + 2) - 96) = 24416759 := h
      have a0 := ha 0 (by decide)
      have a1 := ha 1 (by decide)
      have a2 := ha 2 (by decide)
      omega
    · have h2 : 32 * (32 * (32 * (32 * (0) + (T (s + 0) - 96)) + (T (s + 1) - 96)) + (T (s + 2) - 96)) + (T (s + 3) - 96) = 24416759 := h
      have a0 := ha 0 (by decide)
      have a1 := ha 1 (by decide)
      have a2 := ha 2 (by decide)
      have a3 := ha 3 (by decide)
      omega
    · have h2 : 32 * (32 * (32 * (32 * (32 * (0) + (T (s + 0) - 96)) + (T (s + 1) - 96)) + (T (s + 2) - 96)) + (T (s + 3) - 96)) + (T (s + 4) - 96) = 24416759 := h
      have a0 := ha 0 (by decide)
      have a1 := ha 1 (by decide)
      have a2 := ha 2 (by decide)
      have a3 := ha 3 (by decide)
      have a4 := ha 4 (by decide)
      omega
    · have h2 : 32 * (32 * (32 * (32 * (32 * (32 * (0) + (T (s + 0) - 96)) + (T (s + 1) - 96)) + (T (s + 2) - 96)) + (T (s + 3) - 96)) + (T (s + 4) - 96)) + (T (s + 5) - 96) = 24416759 := h
      have a0 := ha 0 (by decide)
      have a1 := ha 1 (by decide)
      have a2 := ha 2 (by decide)
      have a3 := ha 3 (by decide)
      have a4 := ha 4 (by decide)
      have a5 := ha 5 (by decide)
      omega
    · have h2 : 32 * (32 * (32 * (32 * (32 * (32 * (32 * (0) + (T (s + 0) - 96)) + (T (s + 1) - 96)) + (T (s + 2) - 96)) + (T (s + 3) - 96)) + (T (s + 4) - 96)) + (T (s + 5) - 96)) + (T (s + 6) - 96) = 24416759 := h
      have a0 := ha 0 (by decide)
      have a1 := ha 1 (by decide)
      have a2 := ha 2 (by decide)
      have a3 := ha 3 (by decide)
      have a4 := ha 4 (by decide)
      have a5 := ha 5 (by decide)
      have a6 := ha 6 (by decide)
      omega
    · have h2 : 32 * (32 * (32 * (32 * (32 * (32 * (32 * (32 * (0) + (T (s + 0) - 96)) + (T (s + 1) - 96)) + (T (s + 2) - 96)) + (T (s + 3) - 96)) + (T (s + 4) - 96)) + (T (s + 5) - 96)) + (T (s + 6) - 96)) + (T (s + 7) - 96) = 24416759 := h
      have a0 := ha 0 (by decide)
      have a1 := ha 1 (by decide)
      have a2 := ha 2 (by decide)
      have a3 := ha 3 (by decide)
      have a4 := ha 4 (by decide)
      have a5 := ha 5 (by decide)
      have a6 := ha 6 (by decide)
      have a7 := ha 7 (by decide)
      omega
    · have h2 : 32 * (32 * (32 * (32 * (32 * (32 * (32 * (32 * (32 * (0) + (T (s + 0) - 96)) + (T (s + 1) - 96)) + (T (s + 2) - 96)) + (T (s + 3) - 96)) + (T (s + 4) - 96)) + (T (s + 5) - 96)) + (T (s + 6) - 96)) + (T (s + 7) - 96)) + (T (s + 8) - 96) = 24416759 := h
      have a0 := ha 0 (by decide)
      have a1 := ha 1 (by decide)
      have a2 := ha 2 (by decide)
      have a3 := ha 3 (by decide)
      have a4 := ha 4 (by decide)
      have a5 := ha 5 (by decide)
      have a6 := ha 6 (by decide)
      have a7 := ha 7 (by decide)
      have a8 := ha 8 (by decide)
      omega
  · rintro ⟨rfl, b0, b1, b2, b3, b4⟩
    show 32 * (32 * (32 * (32 * (32 * (0) + (T (s + 0) - 96)) + (T (s + 1) - 96)) + (T (s + 2) - 96)) + (T (s + 3) - 96)) + (T (s + 4) - 96) = 24416759
    omega
theorem wk_3 {T : Nat → Int} {s n : Nat} : wq T s (s + n) 3 = 1 ↔ (n = 5 ∧ T (s + 0) = 119 ∧ T (s + 1) = 105 ∧ T (s + 2) = 100 ∧ T (s + 3) = 111 ∧ T (s + 4) = 119) := by
  unfold wq
  constructor
  · intro h
    by_cases g : s + n = s + tx_len.getD 3 0 ∧ ∀ k, k < tx_len.getD 3 0 → T (s + k) = ((tx_byt.getD 3 []).getD k 0).toInt
    · have g1 : s + n = s + 5 := g.1
      exact ⟨by omega, (g.2 0 (by decide)).trans (by decide), (g.2 1 (by decide)).trans (by decide), (g.2 2 (by decide)).trans (by decide), (g.2 3 (by decide)).trans (by decide), (g.2 4 (by decide)).trans (by decide)⟩
    · rw [if_neg g] at h
      exact absurd h (by decide)
  · rintro ⟨rfl, b0, b1, b2, b3, b4⟩
    refine if_pos ⟨rfl, fun k hk => ?_⟩
    have hk2 : k < 5 := hk
    have hn : k = 0 ∨ k = 1 ∨ k = 2 ∨ k = 3 ∨ k = 4 := by omega
    rcases hn with rfl | rfl | rfl | rfl | rfl
    · exact b0.trans (by decide)
    · exact b1.trans (by decide)
    · exact b2.trans (by decide)
    · exact b3.trans (by decide)
    · exact b4.trans (by decide)
set_option maxHeartbeats 2000000 in
theorem wi_4 {T : Nat → Int} {s n : Nat} (ha : ∀ k, k < n → 97 ≤ T (s + k) ∧ T (s + k) ≤ 122) (h1 : 1 ≤ n) (h9 : n ≤ 9) : ln T s n = 2553 ↔ (n = 3 ∧ T (s + 0) = 98 ∧ T (s + 1) = 111 ∧ T (s + 2) = 121) := by
  constructor
  · intro h
    have hn : n = 1 ∨ n = 2 ∨ n = 3 ∨ n = 4 ∨ n = 5 ∨ n = 6 ∨ n = 7 ∨ n = 8 ∨ n = 9 := by omega
    rcases hn with rfl | rfl | rfl | rfl | rfl | rfl | rfl | rfl | rfl
    · have h2 : 32 * (0) + (T (s + 0) - 96) = 2553 := h
      have a0 := ha 0 (by decide)
      omega
    · have h2 : 32 * (32 * (0) + (T (s + 0) - 96)) + (T (s + 1) - 96) = 2553 := h
      have a0 := ha 0 (by decide)
      have a1 := ha 1 (by decide)
      omega
    · have h2 : 32 * (32 * (32 * (0) + (T (s + 0) - 96)) + (T (s + 1) - 96)) + (T (s + 2) - 96) = 2553 := h
      have a0 := ha 0 (by decide)
      have a1 := ha 1 (by decide)
      have a2 := ha 2 (by decide)
      omega
    · have h2 : 32 * (32 * (32 * (32 * (0) + (T (s + 0) - 96)) + (T (s + 1) - 96)) + (T (s + 2) - 96)) + (T (s + 3) - 96) = 2553 := h
      have a0 := ha 0 (by decide)
      have a1 := ha 1 (by decide)
      have a2 := ha 2 (by decide)
      have a3 := ha 3 (by decide)
      omega
    · have h2 : 32 * (32 * (32 * (32 * (32 * (0) + (T (s + 0) - 96)) + (T (s + 1) - 96)) + (T (s + 2) - 96)) + (T (s + 3) - 96)) + (T (s + 4) - 96) = 2553 := h
      have a0 := ha 0 (by decide)
      have a1 := ha 1 (by decide)
      have a2 := ha 2 (by decide)
      have a3 := ha 3 (by decide)
      have a4 := ha 4 (by decide)
      omega
    · have h2 : 32 * (32 * (32 * (32 * (32 * (32 * (0) + (T (s + 0) - 96)) + (T (s + 1) - 96)) + (T (s + 2) - 96)) + (T (s + 3) - 96)) + (T (s + 4) - 96)) + (T (s + 5) - 96) = 2553 := h
      have a0 := ha 0 (by decide)
      have a1 := ha 1 (by decide)
      have a2 := ha 2 (by decide)
      have a3 := ha 3 (by decide)
      have a4 := ha 4 (by decide)
      have a5 := ha 5 (by decide)
      omega
    · have h2 : 32 * (32 * (32 * (32 * (32 * (32 * (32 * (0) + (T (s + 0) - 96)) + (T (s + 1) - 96)) + (T (s + 2) - 96)) + (T (s + 3) - 96)) + (T (s + 4) - 96)) + (T (s + 5) - 96)) + (T (s + 6) - 96) = 2553 := h
      have a0 := ha 0 (by decide)
      have a1 := ha 1 (by decide)
      have a2 := ha 2 (by decide)
      have a3 := ha 3 (by decide)
      have a4 := ha 4 (by decide)
      have a5 := ha 5 (by decide)
      have a6 := ha 6 (by decide)
      omega
    · have h2 : 32 * (32 * (32 * (32 * (32 * (32 * (32 * (32 * (0) + (T (s + 0) - 96)) + (T (s + 1) - 96)) + (T (s + 2) - 96)) + (T (s + 3) - 96)) + (T (s + 4) - 96)) + (T (s + 5) - 96)) + (T (s + 6) - 96)) + (T (s + 7) - 96) = 2553 := h
      have a0 := ha 0 (by decide)
      have a1 := ha 1 (by decide)
      have a2 := ha 2 (by decide)
      have a3 := ha 3 (by decide)
      have a4 := ha 4 (by decide)
      have a5 := ha 5 (by decide)
      have a6 := ha 6 (by decide)
      have a7 := ha 7 (by decide)
      omega
    · have h2 : 32 * (32 * (32 * (32 * (32 * (32 * (32 * (32 * (32 * (0) + (T (s + 0) - 96)) + (T (s + 1) - 96)) + (T (s + 2) - 96)) + (T (s + 3) - 96)) + (T (s + 4) - 96)) + (T (s + 5) - 96)) + (T (s + 6) - 96)) + (T (s + 7) - 96)) + (T (s + 8) - 96) = 2553 := h
      have a0 := ha 0 (by decide)
      have a1 := ha 1 (by decide)
      have a2 := ha 2 (by decide)
      have a3 := ha 3 (by decide)
      have a4 := ha 4 (by decide)
      have a5 := ha 5 (by decide)
      have a6 := ha 6 (by decide)
      have a7 := ha 7 (by decide)
      have a8 := ha 8 (by decide)
      omega
  · rintro ⟨rfl, b0, b1, b2⟩
    show 32 * (32 * (32 * (0) + (T (s + 0) - 96)) + (T (s + 1) - 96)) + (T (s + 2) - 96) = 2553
    omega
theorem wk_4 {T : Nat → Int} {s n : Nat} : wq T s (s + n) 4 = 1 ↔ (n = 3 ∧ T (s + 0) = 98 ∧ T (s + 1) = 111 ∧ T (s + 2) = 121) := by
  unfold wq
  constructor
  · intro h
    by_cases g : s + n = s + tx_len.getD 4 0 ∧ ∀ k, k < tx_len.getD 4 0 → T (s + k) = ((tx_byt.getD 4 []).getD k 0).toInt
    · have g1 : s + n = s + 3 := g.1
      exact ⟨by omega, (g.2 0 (by decide)).trans (by decide), (g.2 1 (by decide)).trans (by decide), (g.2 2 (by decide)).trans (by decide)⟩
    · rw [if_neg g] at h
      exact absurd h (by decide)
  · rintro ⟨rfl, b0, b1, b2⟩
    refine if_pos ⟨rfl, fun k hk => ?_⟩
    have hk2 : k < 3 := hk
    have hn : k = 0 ∨ k = 1 ∨ k = 2 := by omega
    rcases hn with rfl | rfl | rfl
    · exact b0.trans (by decide)
    · exact b1.trans (by decide)
    · exact b2.trans (by decide)
set_option maxHeartbeats 2000000 in
theorem wi_5 {T : Nat → Int} {s n : Nat} (ha : ∀ k, k < n → 97 ≤ T (s + k) ∧ T (s + k) ≤ 122) (h1 : 1 ≤ n) (h9 : n ≤ 9) : ln T s n = 441803 ↔ (n = 4 ∧ T (s + 0) = 109 ∧ T (s + 1) = 111 ∧ T (s + 2) = 110 ∧ T (s + 3) = 107) := by
  constructor
  · intro h
    have hn : n = 1 ∨ n = 2 ∨ n = 3 ∨ n = 4 ∨ n = 5 ∨ n = 6 ∨ n = 7 ∨ n = 8 ∨ n = 9 := by omega
    rcases hn with rfl | rfl | rfl | rfl | rfl | rfl | rfl | rfl | rfl
    · have h2 : 32 * (0) + (T (s + 0) - 96) = 441803 := h
      have a0 := ha 0 (by decide)
      omega
    · have h2 : 32 * (32 * (0) + (T (s + 0) - 96)) + (T (s + 1) - 96) = 441803 := h
      have a0 := ha 0 (by decide)
      have a1 := ha 1 (by decide)
      omega
    · have h2 : 32 * (32 * (32 * (0) + (T (s + 0) - 96)) + (T (s + 1) - 96)) + (T (s + 2) - 96) = 441803 := h
      have a0 := ha 0 (by decide)
      have a1 := ha 1 (by decide)
      have a2 := ha 2 (by decide)
      omega
    · have h2 : 32 * (32 * (32 * (32 * (0) + (T (s + 0) - 96)) + (T (s + 1) - 96)) + (T (s + 2) - 96)) + (T (s + 3) - 96) = 441803 := h
      have a0 := ha 0 (by decide)
      have a1 := ha 1 (by decide)
      have a2 := ha 2 (by decide)
      have a3 := ha 3 (by decide)
      omega
    · have h2 : 32 * (32 * (32 * (32 * (32 * (0) + (T (s + 0) - 96)) + (T (s + 1) - 96)) + (T (s + 2) - 96)) + (T (s + 3) - 96)) + (T (s + 4) - 96) = 441803 := h
      have a0 := ha 0 (by decide)
      have a1 := ha 1 (by decide)
      have a2 := ha 2 (by decide)
      have a3 := ha 3 (by decide)
      have a4 := ha 4 (by decide)
      omega
    · have h2 : 32 * (32 * (32 * (32 * (32 * (32 * (0) + (T (s + 0) - 96)) + (T (s + 1) - 96)) + (T (s + 2) - 96)) + (T (s + 3) - 96)) + (T (s + 4) - 96)) + (T (s + 5) - 96) = 441803 := h
      have a0 := ha 0 (by decide)
      have a1 := ha 1 (by decide)
      have a2 := ha 2 (by decide)
      have a3 := ha 3 (by decide)
      have a4 := ha 4 (by decide)
      have a5 := ha 5 (by decide)
      omega
    · have h2 : 32 * (32 * (32 * (32 * (32 * (32 * (32 * (0) + (T (s + 0) - 96)) + (T (s + 1) - 96)) + (T (s + 2) - 96)) + (T (s + 3) - 96)) + (T (s + 4) - 96)) + (T (s + 5) - 96)) + (T (s + 6) - 96) = 441803 := h
      have a0 := ha 0 (by decide)
      have a1 := ha 1 (by decide)
      have a2 := ha 2 (by decide)
      have a3 := ha 3 (by decide)
      have a4 := ha 4 (by decide)
      have a5 := ha 5 (by decide)
      have a6 := ha 6 (by decide)
      omega
    · have h2 : 32 * (32 * (32 * (32 * (32 * (32 * (32 * (32 * (0) + (T (s + 0) - 96)) + (T (s + 1) - 96)) + (T (s + 2) - 96)) + (T (s + 3) - 96)) + (T (s + 4) - 96)) + (T (s + 5) - 96)) + (T (s + 6) - 96)) + (T (s + 7) - 96) = 441803 := h
      have a0 := ha 0 (by decide)
      have a1 := ha 1 (by decide)
      have a2 := ha 2 (by decide)
      have a3 := ha 3 (by decide)
      have a4 := ha 4 (by decide)
      have a5 := ha 5 (by decide)
      have a6 := ha 6 (by decide)
      have a7 := ha 7 (by decide)
      omega
    · have h2 : 32 * (32 * (32 * (32 * (32 * (32 * (32 * (32 * (32 * (0) + (T (s + 0) - 96)) + (T (s + 1) - 96)) + (T (s + 2) - 96)) + (T (s + 3) - 96)) + (T (s + 4) - 96)) + (T (s + 5) - 96)) + (T (s + 6) - 96)) + (T (s + 7) - 96)) + (T (s + 8) - 96) = 441803 := h
      have a0 := ha 0 (by decide)
      have a1 := ha 1 (by decide)
      have a2 := ha 2 (by decide)
      have a3 := ha 3 (by decide)
      have a4 := ha 4 (by decide)
      have a5 := ha 5 (by decide)
      have a6 := ha 6 (by decide)
      have a7 := ha 7 (by decide)
      have a8 := ha 8 (by decide)
      omega
  · rintro ⟨rfl, b0, b1, b2, b3⟩
    show 32 * (32 * (32 * (32 * (0) + (T (s + 0) - 96)) + (T (s + 1) - 96)) + (T (s + 2) - 96)) + (T (s + 3) - 96) = 441803
    omega
theorem wk_5 {T : Nat → Int} {s n : Nat} : wq T s (s + n) 5 = 1 ↔ (n = 4 ∧ T (s + 0) = 109 ∧ T (s + 1) = 111 ∧ T (s + 2) = 110 ∧ T (s + 3) = 107) := by
  unfold wq
  constructor
  · intro h
    by_cases g : s + n = s + tx_len.getD 5 0 ∧ ∀ k, k < tx_len.getD 5 0 → T (s + k) = ((tx_byt.getD 5 []).getD k 0).toInt
    · have g1 : s + n = s + 4 := g.1
      exact ⟨by omega, (g.2 0 (by decide)).trans (by decide), (g.2 1 (by decide)).trans (by decide), (g.2 2 (by decide)).trans (by decide), (g.2 3 (by decide)).trans (by decide)⟩
    · rw [if_neg g] at h
      exact absurd h (by decide)
  · rintro ⟨rfl, b0, b1, b2, b3⟩
    refine if_pos ⟨rfl, fun k hk => ?_⟩
    have hk2 : k < 4 := hk
    have hn : k = 0 ∨ k = 1 ∨ k = 2 ∨ k = 3 := by omega
    rcases hn with rfl | rfl | rfl | rfl
    · exact b0.trans (by decide)
    · exact b1.trans (by decide)
    · exact b2.trans (by decide)
    · exact b3.trans (by decide)
set_option maxHeartbeats 2000000 in
theorem wi_6 {T : Nat → Int} {s n : Nat} (ha : ∀ k, k < n → 97 ≤ T (s + k) ∧ T (s + k) ≤ 122) (h1 : 1 ≤ n) (h9 : n ≤ 9) : ln T s n = 77177328 ↔ (n = 6 ∧ T (s + 0) = 98 ∧ T (s + 1) = 105 ∧ T (s + 2) = 115 ∧ T (s + 3) = 104 ∧ T (s + 4) = 111 ∧ T (s + 5) = 112) := by
  constructor
  · intro h
    have hn : n = 1 ∨ n = 2 ∨ n = 3 ∨ n = 4 ∨ n = 5 ∨ n = 6 ∨ n = 7 ∨ n = 8 ∨ n = 9 := by omega
    rcases hn with rfl | rfl | rfl | rfl | rfl | rfl | rfl | rfl | rfl
    · have h2 : 32 * (0) + (T (s + 0) - 96) = 77177328 := h
      have a0 := ha 0 (by decide)
      omega
    · have h2 : 32 * (32 * (0) + (T (s + 0) - 96)) + (T (s + 1) - 96) = 77177328 := h
      have a0 := ha 0 (by decide)
      have a1 := ha 1 (by decide)
      omega
    · have h2 : 32 * (32 * (32 * (0) + (T (s + 0) - 96)) + (T (s + 1) - 96)) + (T (s + 2) - 96) = 77177328 := h
      have a0 := ha 0 (by decide)
      have a1 := ha 1 (by decide)
      have a2 := ha 2 (by decide)
      omega
    · have h2 : 32 * (32 * (32 * (32 * (0) + (T (s + 0) - 96)) + (T (s + 1) - 96)) + (T (s + 2) - 96)) + (T (s + 3) - 96) = 77177328 := h
      have a0 := ha 0 (by decide)
      have a1 := ha 1 (by decide)
      have a2 := ha 2 (by decide)
      have a3 := ha 3 (by decide)
      omega
    · have h2 : 32 * (32 * (32 * (32 * (32 * (0) + (T (s + 0) - 96)) + (T (s + 1) - 96)) + (T (s + 2) - 96)) + (T (s + 3) - 96)) + (T (s + 4) - 96) = 77177328 := h
      have a0 := ha 0 (by decide)
      have a1 := ha 1 (by decide)
      have a2 := ha 2 (by decide)
      have a3 := ha 3 (by decide)
      have a4 := ha 4 (by decide)
      omega
    · have h2 : 32 * (32 * (32 * (32 * (32 * (32 * (0) + (T (s + 0) - 96)) + (T (s + 1) - 96)) + (T (s + 2) - 96)) + (T (s + 3) - 96)) + (T (s + 4) - 96)) + (T (s + 5) - 96) = 77177328 := h
      have a0 := ha 0 (by decide)
      have a1 := ha 1 (by decide)
      have a2 := ha 2 (by decide)
      have a3 := ha 3 (by decide)
      have a4 := ha 4 (by decide)
      have a5 := ha 5 (by decide)
      omega
    · have h2 : 32 * (32 * (32 * (32 * (32 * (32 * (32 * (0) + (T (s + 0) - 96)) + (T (s + 1) - 96)) + (T (s + 2) - 96)) + (T (s + 3) - 96)) + (T (s + 4) - 96)) + (T (s + 5) - 96)) + (T (s + 6) - 96) = 77177328 := h
      have a0 := ha 0 (by decide)
      have a1 := ha 1 (by decide)
      have a2 := ha 2 (by decide)
      have a3 := ha 3 (by decide)
      have a4 := ha 4 (by decide)
      have a5 := ha 5 (by decide)
      have a6 := ha 6 (by decide)
      omega
    · have h2 : 32 * (32 * (32 * (32 * (32 * (32 * (32 * (32 * (0) + (T (s + 0) - 96)) + (T (s + 1) - 96)) + (T (s + 2) - 96)) + (T (s + 3) - 96)) + (T (s + 4) - 96)) + (T (s + 5) - 96)) + (T (s + 6) - 96)) + (T (s + 7) - 96) = 77177328 := h
      have a0 := ha 0 (by decide)
      have a1 := ha 1 (by decide)
      have a2 := ha 2 (by decide)
      have a3 := ha 3 (by decide)
      have a4 := ha 4 (by decide)
      have a5 := ha 5 (by decide)
      have a6 := ha 6 (by decide)
      have a7 := ha 7 (by decide)
      omega
    · have h2 : 32 * (32 * (32 * (32 * (32 * (32 * (32 * (32 * (32 * (0) + (T (s + 0) - 96)) + (T (s + 1) - 96)) + (T (s + 2) - 96)) + (T (s + 3) - 96)) + (T (s + 4) - 96)) + (T (s + 5) - 96)) + (T (s + 6) - 96)) + (T (s + 7) - 96)) + (T (s + 8) - 96) = 77177328 := h
      have a0 := ha 0 (by decide)
      have a1 := ha 1 (by decide)
      have a2 := ha 2 (by decide)
      have a3 := ha 3 (by decide)
      have a4 := ha 4 (by decide)
      have a5 := ha 5 (by decide)
      have a6 := ha 6 (by decide)
      have a7 := ha 7 (by decide)
      have a8 := ha 8 (by decide)
      omega
  · rintro ⟨rfl, b0, b1, b2, b3, b4, b5⟩
    show 32 * (32 * (32 * (32 * (32 * (32 * (0) + (T (s + 0) - 96)) + (T (s + 1) - 96)) + (T (s + 2) - 96)) + (T (s + 3) - 96)) + (T (s + 4) - 96)) + (T (s + 5) - 96) = 77177328
    omega
theorem wk_6 {T : Nat → Int} {s n : Nat} : wq T s (s + n) 6 = 1 ↔ (n = 6 ∧ T (s + 0) = 98 ∧ T (s + 1) = 105 ∧ T (s + 2) = 115 ∧ T (s + 3) = 104 ∧ T (s + 4) = 111 ∧ T (s + 5) = 112) := by
  unfold wq
  constructor
  · intro h
    by_cases g : s + n = s + tx_len.getD 6 0 ∧ ∀ k, k < tx_len.getD 6 0 → T (s + k) = ((tx_byt.getD 6 []).getD k 0).toInt
    · have g1 : s + n = s + 6 := g.1
      exact ⟨by omega, (g.2 0 (by decide)).trans (by decide), (g.2 1 (by decide)).trans (by decide), (g.2 2 (by decide)).trans (by decide), (g.2 3 (by decide)).trans (by decide), (g.2 4 (by decide)).trans (by decide), (g.2 5 (by decide)).trans (by decide)⟩
    · rw [if_neg g] at h
      exact absurd h (by decide)
  · rintro ⟨rfl, b0, b1, b2, b3, b4, b5⟩
    refine if_pos ⟨rfl, fun k hk => ?_⟩
    have hk2 : k < 6 := hk
    have hn : k = 0 ∨ k = 1 ∨ k = 2 ∨ k = 3 ∨ k = 4 ∨ k = 5 := by omega
    rcases hn with rfl | rfl | rfl | rfl | rfl | rfl
    · exact b0.trans (by decide)
    · exact b1.trans (by decide)
    · exact b2.trans (by decide)
    · exact b3.trans (by decide)
    · exact b4.trans (by decide)
    · exact b5.trans (by decide)
set_option maxHeartbeats 2000000 in
theorem wi_7 {T : Nat → Int} {s n : Nat} (ha : ∀ k, k < n → 97 ≤ T (s + k) ∧ T (s + k) ≤ 122) (h1 : 1 ≤ n) (h9 : n ≤ 9) : ln T s n = 20594117 ↔ (n = 5 ∧ T (s + 0) = 115 ∧ T (s + 1) = 116 ∧ T (s + 2) = 111 ∧ T (s + 3) = 110 ∧ T (s + 4) = 101) := by
  constructor
  · intro h
    have hn : n = 1 ∨ n = 2 ∨ n = 3 ∨ n = 4 ∨ n = 5 ∨ n = 6 ∨ n = 7 ∨ n = 8 ∨ n = 9 := by omega
    rcases hn with rfl | rfl | rfl | rfl | rfl | rfl | rfl | rfl | rfl
    · have h2 : 32 * (0) + (T (s + 0) - 96) = 20594117 := h
      have a0 := ha 0 (by decide)
      omega
    · have h2 : 32 * (32 * (0) + (T (s + 0) - 96)) + (T (s + 1) - 96) = 20594117 := h
      have a0 := ha 0 (by decide)
      have a1 := ha 1 (by decide)
      omega
    · have h2 : 32 * (32 * (32 * (0) + (T (s + 0) - 96)) + (T (s + 1) - 96)) + (T (s + 2) - 96) = 20594117 := h
      have a0 := ha 0 (by decide)
      have a1 := ha 1 (by decide)
      have a2 := ha 2 (by decide)
      omega
    · have h2 : 32 * (32 * (32 * (32 * (0) + (T (s + 0) - 96)) + (T (s + 1) - 96)) + (T (s + 2) - 96)) + (T (s + 3) - 96) = 20594117 := h
      have a0 := ha 0 (by decide)
      have a1 := ha 1 (by decide)
      have a2 := ha 2 (by decide)
      have a3 := ha 3 (by decide)
      omega
    · have h2 : 32 * (32 * (32 * (32 * (32 * (0) + (T (s + 0) - 96)) + (T (s + 1) - 96)) + (T (s + 2) - 96)) + (T (s + 3) - 96)) + (T (s + 4) - 96) = 20594117 := h
      have a0 := ha 0 (by decide)
      have a1 := ha 1 (by decide)
      have a2 := ha 2 (by decide)
      have a3 := ha 3 (by decide)
      have a4 := ha 4 (by decide)
      omega
    · have h2 : 32 * (32 * (32 * (32 * (32 * (32 * (0) + (T (s + 0) - 96)) + (T (s + 1) - 96)) + (T (s + 2) - 96)) + (T (s + 3) - 96)) + (T (s + 4) - 96)) + (T (s + 5) - 96) = 20594117 := h
      have a0 := ha 0 (by decide)
      have a1 := ha 1 (by decide)
      have a2 := ha 2 (by decide)
      have a3 := ha 3 (by decide)
      have a4 := ha 4 (by decide)
      have a5 := ha 5 (by decide)
      omega
    · have h2 : 32 * (32 * (32 * (32 * (32 * (32 * (32 * (0) + (T (s + 0) - 96)) + (T (s + 1) - 96)) + (T (s + 2) - 96)) + (T (s + 3) - 96)) + (T (s + 4) - 96)) + (T (s + 5) - 96)) + (T (s + 6) - 96) = 20594117 := h
      have a0 := ha 0 (by decide)
      have a1 := ha 1 (by decide)
      have a2 := ha 2 (by decide)
      have a3 := ha 3 (by decide)
      have a4 := ha 4 (by decide)
      have a5 := ha 5 (by decide)
      have a6 := ha 6 (by decide)
      omega
    · have h2 : 32 * (32 * (32 * (32 * (32 * (32 * (32 * (32 * (0) + (T (s + 0) - 96)) + (T (s + 1) - 96)) + (T (s + 2) - 96)) + (T (s + 3) - 96)) + (T (s + 4) - 96)) + (T (s + 5) - 96)) + (T (s + 6) - 96)) + (T (s + 7) - 96) = 20594117 := h
      have a0 := ha 0 (by decide)
      have a1 := ha 1 (by decide)
      have a2 := ha 2 (by decide)
      have a3 := ha 3 (by decide)
      have a4 := ha 4 (by decide)
      have a5 := ha 5 (by decide)
      have a6 := ha 6 (by decide)
      have a7 := ha 7 (by decide)
      omega
    · have h2 : 32 * (32 * (32 * (32 * (32 * (32 * (32 * (32 * (32 * (0) + (T (s + 0) - 96)) + (T (s + 1) - 96)) + (T (s + 2) - 96)) + (T (s + 3) - 96)) + (T (s + 4) - 96)) + (T (s + 5) - 96)) + (T (s + 6) - 96)) + (T (s + 7) - 96)) + (T (s + 8) - 96) = 20594117 := h
      have a0 := ha 0 (by decide)
      have a1 := ha 1 (by decide)
      have a2 := ha 2 (by decide)
      have a3 := ha 3 (by decide)
      have a4 := ha 4 (by decide)
      have a5 := ha 5 (by decide)
      have a6 := ha 6 (by decide)
      have a7 := ha 7 (by decide)
      have a8 := ha 8 (by decide)
      omega
  · rintro ⟨rfl, b0, b1, b2, b3, b4⟩
    show 32 * (32 * (32 * (32 * (32 * (0) + (T (s + 0) - 96)) + (T (s + 1) - 96)) + (T (s + 2) - 96)) + (T (s + 3) - 96)) + (T (s + 4) - 96) = 20594117
    omega
theorem wk_7 {T : Nat → Int} {s n : Nat} : wq T s (s + n) 7 = 1 ↔ (n = 5 ∧ T (s + 0) = 115 ∧ T (s + 1) = 116 ∧ T (s + 2) = 111 ∧ T (s + 3) = 110 ∧ T (s + 4) = 101) := by
  unfold wq
  constructor
  · intro h
    by_cases g : s + n = s + tx_len.getD 7 0 ∧ ∀ k, k < tx_len.getD 7 0 → T (s + k) = ((tx_byt.getD 7 []).getD k 0).toInt
    · have g1 : s + n = s + 5 := g.1
      exact ⟨by omega, (g.2 0 (by decide)).trans (by decide), (g.2 1 (by decide)).trans (by decide), (g.2 2 (by decide)).trans (by decide), (g.2 3 (by decide)).trans (by decide), (g.2 4 (by decide)).trans (by decide)⟩
    · rw [if_neg g] at h
      exact absurd h (by decide)
  · rintro ⟨rfl, b0, b1, b2, b3, b4⟩
    refine if_pos ⟨rfl, fun k hk => ?_⟩
    have hk2 : k < 5 := hk
    have hn : k = 0 ∨ k = 1 ∨ k = 2 ∨ k = 3 ∨ k = 4 := by omega
    rcases hn with rfl | rfl | rfl | rfl | rfl
    · exact b0.trans (by decide)
    · exact b1.trans (by decide)
    · exact b2.trans (by decide)
    · exact b3.trans (by decide)
    · exact b4.trans (by decide)
def wcd : List Int := [12343, 542723566, 17494690093, 24416759, 2553, 441803, 77177328, 20594117]
theorem word_iff {T : Nat → Int} {s n : Nat} (ha : ∀ k, k < n → 97 ≤ T (s + k) ∧ T (s + k) ≤ 122) (h1 : 1 ≤ n) (h9 : n ≤ 9) : ∀ w, w < 8 → (ln T s n = wcd.getD w 0 ↔ wq T s (s + n) w = 1)
  | 0, _ => (wi_0 ha h1 h9).trans wk_0.symm
  | 1, _ => (wi_1 ha h1 h9).trans wk_1.symm
  | 2, _ => (wi_2 ha h1 h9).trans wk_2.symm
  | 3, _ => (wi_3 ha h1 h9).trans wk_3.symm
  | 4, _ => (wi_4 ha h1 h9).trans wk_4.symm
  | 5, _ => (wi_5 ha h1 h9).trans wk_5.symm
  | 6, _ => (wi_6 ha h1 h9).trans wk_6.symm
  | 7, _ => (wi_7 ha h1 h9).trans wk_7.symm
  | w + 8, h => absurd h (by omega)
theorem tx_len7 : ∀ w, w < 8 → tx_len.getD w 0 ≤ 7 := by decide
theorem wcd_pos : ∀ w, w < 8 → 0 ≤ wcd.getD w 0 := by decide
/-- letters up to e, from s on, packed in L -/
def LNI (T : Nat → Int) (s : Nat) (e : Int) (L : Int64) : Prop := (s : Int) ≤ e ∧ (∀ k, k < e.toNat - s → 97 ≤ T (s + k) ∧ T (s + k) ≤ 122) ∧ (e ≤ s + 9 → L.toInt = ln T s (e.toNat - s)) ∧ ((s : Int) + 9 < e → L.toInt = -1)
theorem LNI.zero {T : Nat → Int} {s : Nat} {e : Int} {L : Int64} (h : e = s) (hv : L.toInt = 0) : LNI T s e L := by
  refine ⟨by omega, fun k hk => absurd hk (by omega), fun _ => ?_, fun _ => by omega⟩
  rw [show e.toNat - s = 0 by omega, hv]
  rfl
theorem LNI.more {T : Nat → Int} {s : Nat} {e e' : Int} {L L' : Int64} {k : Nat} (h : LNI T s e L) (hk : (k : Int) = e) (he : e' = e + 1) (ht : 97 ≤ T k ∧ T k ≤ 122) (hv : e ≤ s + 8 → L'.toInt = 32 * L.toInt + (T k - 96)) (hw : (s : Int) + 9 ≤ e → L'.toInt = -1) : LNI T s e' L' := by
  have h0 := h.1
  refine ⟨by omega, fun q hq => ?_, fun g => ?_, fun g => hw (by omega)⟩
  · by_cases c : q < e.toNat - s
    · exact h.2.1 q c
    · rw [show s + q = k by omega]
      exact ht
  · have h1 := h.2.2.1 (by omega)
    have h2 := hv (by omega)
    rw [show e'.toNat - s = (e.toNat - s) + 1 by omega]
    show L'.toInt = 32 * ln T s (e.toNat - s) + (T (s + (e.toNat - s)) - 96)
    rw [show s + (e.toNat - s) = k by omega, ← h1]
    exact h2
theorem LNI.bd {T : Nat → Int} {s : Nat} {e : Int} {L : Int64} (h : LNI T s e L) (g : e ≤ s + 8) : 0 ≤ L.toInt ∧ L.toInt < 1099511627776 := by
  have h0 := h.1
  have h1 := h.2.2.1 (by omega)
  have h2 := ln_b (T := T) (s := s) (e.toNat - s) h.2.1
  have h3 : ∀ n : Nat, n ≤ 8 → (32 : Int) ^ n ≤ 1099511627776 := fun n hn => by
    have hc : n = 0 ∨ n = 1 ∨ n = 2 ∨ n = 3 ∨ n = 4 ∨ n = 5 ∨ n = 6 ∨ n = 7 ∨ n = 8 := by omega
    rcases hc with c | c | c | c | c | c | c | c | c <;> rw [c] <;> decide
  have h5 := h3 (e.toNat - s) (by omega)
  omega
theorem let_step {L L1 L2 L3 : Int64} {x : Int32} (e1 : L1 = 32 * L) (e2 : L2 = L1 + x.toInt64) (e3 : L3 = L2 - 96) (h : 0 ≤ L.toInt ∧ L.toInt < 1099511627776) (hx : 97 ≤ x.toInt ∧ x.toInt ≤ 122) : L3.toInt = 32 * L.toInt + (x.toInt - 96) := by
  have k32 : (32 : Int64).toInt = 32 := by decide
  have k96 : (96 : Int64).toInt = 96 := by decide
  have tx : x.toInt64.toInt = x.toInt := tl_i x
  have t1 : L1.toInt = 32 * L.toInt := by
    rw [e1, Int64.toInt_mul, k32]
    show Int.bmod _ 18446744073709551616 = _
    rw [Int.bmod]
    split <;> omega
  have t2 : L2.toInt = L1.toInt + x.toInt := by
    rw [e2, Int64.toInt_add, tx]
    show Int.bmod _ 18446744073709551616 = _
    rw [Int.bmod]
    split <;> omega
  have t3 : L3.toInt = L2.toInt - 96 := by
    rw [e3, Int64.toInt_sub, k96]
    show Int.bmod _ 18446744073709551616 = _
    rw [Int.bmod]
    split <;> omega
  omega
/-- which word the letters are -/
def LW (T : Nat → Int) (N i : Nat) (L : Int64) : Prop := tK T N i = 1 → ∀ w, w < 8 → (L.toInt = wcd.getD w 0 ↔ tW T N i w = 1)
theorem LW.none {T : Nat → Int} {N i : Nat} {L : Int64} (h : tK T N i ≠ 1) : LW T N i L := fun g => absurd g h
theorem LW.of {T : Nat → Int} {N i : Nat} {e : Int} {L : Int64} (h : LNI T (tS T i) e L) (he : e = (tE T N i : Int)) (hs : (tS T i : Int) < e) : LW T N i L := by
  intro _ w hw
  have h0 := h.1
  by_cases g : e ≤ (tS T i : Int) + 9
  · have h1 := h.2.2.1 g
    have h2 := word_iff (T := T) (s := tS T i) (n := e.toNat - tS T i) h.2.1 (by omega) (by omega) w hw
    rw [← h1, show tS T i + (e.toNat - tS T i) = tE T N i by omega] at h2
    exact h2
  · have h1 := h.2.2.2 (by omega)
    have h3 := wcd_pos w hw
    have h4 := tx_len7 w hw
    constructor
    · intro q
      omega
    · intro q
      have q2 := tW_f (T := T) (N := N) (i := i) (w := w) (fun p => by have := p.1; omega)
      omega
theorem LW.at0 {T : Nat → Int} {N i : Nat} {L : Int64} (h : LW T N i L) (hk : tK T N i = 1) : L.toInt = 12343 ↔ tW T N i 0 = 1 := h hk 0 (by decide)
theorem LW.at1 {T : Nat → Int} {N i : Nat} {L : Int64} (h : LW T N i L) (hk : tK T N i = 1) : L.toInt = 542723566 ↔ tW T N i 1 = 1 := h hk 1 (by decide)
theorem LW.at2 {T : Nat → Int} {N i : Nat} {L : Int64} (h : LW T N i L) (hk : tK T N i = 1) : L.toInt = 17494690093 ↔ tW T N i 2 = 1 := h hk 2 (by decide)
theorem LW.at3 {T : Nat → Int} {N i : Nat} {L : Int64} (h : LW T N i L) (hk : tK T N i = 1) : L.toInt = 24416759 ↔ tW T N i 3 = 1 := h hk 3 (by decide)
theorem LW.at4 {T : Nat → Int} {N i : Nat} {L : Int64} (h : LW T N i L) (hk : tK T N i = 1) : L.toInt = 2553 ↔ tW T N i 4 = 1 := h hk 4 (by decide)
theorem LW.at5 {T : Nat → Int} {N i : Nat} {L : Int64} (h : LW T N i L) (hk : tK T N i = 1) : L.toInt = 441803 ↔ tW T N i 5 = 1 := h hk 5 (by decide)
theorem LW.at6 {T : Nat → Int} {N i : Nat} {L : Int64} (h : LW T N i L) (hk : tK T N i = 1) : L.toInt = 77177328 ↔ tW T N i 6 = 1 := h hk 6 (by decide)
theorem LW.at7 {T : Nat → Int} {N i : Nat} {L : Int64} (h : LW T N i L) (hk : tK T N i = 1) : L.toInt = 20594117 ↔ tW T N i 7 = 1 := h hk 7 (by decide)
