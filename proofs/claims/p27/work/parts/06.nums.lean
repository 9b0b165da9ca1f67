/-! ===== whole numbers within bounds ===== -/
abbrev IV (x : Int32) (a b : Int) : Prop := a ≤ x.toInt ∧ x.toInt ≤ b
theorem iv_any (x : Int32) : IV x (-2147483648) 2147483647 := by
  have h1 := Int32.minValue_le_toInt x
  have h2 := Int32.toInt_le x
  have e1 : Int32.minValue.toInt = -2147483648 := by decide
  have e2 : Int32.maxValue.toInt = 2147483647 := by decide
  exact ⟨by omega, by omega⟩
theorem iv_wk {x : Int32} {a b c d : Int} (h : IV x a b) (hh : c ≤ a ∧ b ≤ d) : IV x c d := ⟨Int.le_trans hh.1 h.1, Int.le_trans h.2 hh.2⟩
theorem ti_bm {z : Int} (h1 : -2147483648 ≤ z) (h2 : z ≤ 2147483647) : z.bmod (2 ^ 32) = z := by
  show Int.bmod z 4294967296 = z
  rw [Int.bmod]
  split <;> omega
theorem ti_add {x y : Int32} (h1 : -2147483648 ≤ x.toInt + y.toInt) (h2 : x.toInt + y.toInt ≤ 2147483647) : (x + y).toInt = x.toInt + y.toInt := by rw [Int32.toInt_add, ti_bm h1 h2]
theorem ti_sub {x y : Int32} (h1 : -2147483648 ≤ x.toInt - y.toInt) (h2 : x.toInt - y.toInt ≤ 2147483647) : (x - y).toInt = x.toInt - y.toInt := by rw [Int32.toInt_sub, ti_bm h1 h2]
theorem ti_mul {x y : Int32} (h1 : -2147483648 ≤ x.toInt * y.toInt) (h2 : x.toInt * y.toInt ≤ 2147483647) : (x * y).toInt = x.toInt * y.toInt := by rw [Int32.toInt_mul, ti_bm h1 h2]
theorem iv_add {x y : Int32} {a b c d lo hi : Int} (hx : IV x a b) (hy : IV y c d) (h : lo ≤ a + c ∧ b + d ≤ hi ∧ -2147483648 ≤ lo ∧ hi ≤ 2147483647) : IV (x + y) lo hi := by
  obtain ⟨x1, x2⟩ := hx
  obtain ⟨y1, y2⟩ := hy
  have e := ti_add (x := x) (y := y) (by omega) (by omega)
  exact ⟨by omega, by omega⟩
theorem iv_sub {x y : Int32} {a b c d lo hi : Int} (hx : IV x a b) (hy : IV y c d) (h : lo ≤ a - d ∧ b - c ≤ hi ∧ -2147483648 ≤ lo ∧ hi ≤ 2147483647) : IV (x - y) lo hi := by
  obtain ⟨x1, x2⟩ := hx
  obtain ⟨y1, y2⟩ := hy
  have e := ti_sub (x := x) (y := y) (by omega) (by omega)
  exact ⟨by omega, by omega⟩
theorem iv_mul {x y : Int32} {a b c d hi : Int} (hx : IV x a b) (hy : IV y c d) (h : 0 ≤ a ∧ 0 ≤ c ∧ b * d ≤ hi ∧ hi ≤ 2147483647) : IV (x * y) 0 hi := by
  obtain ⟨x1, x2⟩ := hx
  obtain ⟨y1, y2⟩ := hy
  have h1 : 0 ≤ x.toInt * y.toInt := Int.mul_nonneg (by omega) (by omega)
  have h2 : x.toInt * y.toInt ≤ b * d := Int.mul_le_mul x2 y2 (by omega) (by omega)
  have e := ti_mul (x := x) (y := y) (by omega) (by omega)
  exact ⟨by omega, by omega⟩
theorem ti_inc {x : Int32} {a b : Int} (hx : IV x a b) (h : b ≤ 2147483646) : (x + 1).toInt = x.toInt + 1 := by
  have e1 : (1 : Int32).toInt = 1 := by decide
  obtain ⟨x1, x2⟩ := hx
  have h0 := (iv_any x).1
  rw [ti_add (by omega) (by omega), e1]
theorem ti_dec {x : Int32} {a b : Int} (hx : IV x a b) (h : -2147483647 ≤ a) : (x + (-1)).toInt = x.toInt - 1 := by
  have e1 : (-1 : Int32).toInt = -1 := by decide
  obtain ⟨x1, x2⟩ := hx
  have h0 := (iv_any x).2
  rw [ti_add (by omega) (by omega), e1]
  omega
theorem ti_le {x y : Int32} : x ≤ y ↔ x.toInt ≤ y.toInt := Int32.le_iff_toInt_le
theorem ti_lt {x y : Int32} : x < y ↔ x.toInt < y.toInt := Int32.lt_iff_toInt_lt
theorem ti_nle {x y : Int32} : ¬ x ≤ y ↔ y.toInt < x.toInt := by rw [ti_le]; omega
theorem ti_nlt {x y : Int32} : ¬ x < y ↔ y.toInt ≤ x.toInt := by rw [ti_lt]; omega
theorem ti_eq {x y : Int32} : x = y ↔ x.toInt = y.toInt := Int32.toInt_inj.symm
theorem ti_ne {x y : Int32} : ¬ x = y ↔ x.toInt ≠ y.toInt := by rw [ti_eq]
/-- what a comparison says of both bounds -/
theorem r_lt {x y : Int32} {a b c d : Int} (hx : IV x a b) (hy : IV y c d) (h : x.toInt < y.toInt) : IV x a (min b (d - 1)) ∧ IV y (max c (a + 1)) d := by
  obtain ⟨x1, x2⟩ := hx
  obtain ⟨y1, y2⟩ := hy
  exact ⟨⟨x1, by omega⟩, ⟨by omega, y2⟩⟩
theorem r_le {x y : Int32} {a b c d : Int} (hx : IV x a b) (hy : IV y c d) (h : x.toInt ≤ y.toInt) : IV x a (min b d) ∧ IV y (max c a) d := by
  obtain ⟨x1, x2⟩ := hx
  obtain ⟨y1, y2⟩ := hy
  exact ⟨⟨x1, by omega⟩, ⟨by omega, y2⟩⟩
theorem r_eq {x y : Int32} {a b c d : Int} (hx : IV x a b) (hy : IV y c d) (h : x.toInt = y.toInt) : IV x (max a c) (min b d) ∧ IV y (max a c) (min b d) := by
  obtain ⟨x1, x2⟩ := hx
  obtain ⟨y1, y2⟩ := hy
  exact ⟨⟨by omega, by omega⟩, ⟨by omega, by omega⟩⟩
theorem r_ne_hi {x y : Int32} {a b c : Int} (hx : IV x a b) (hy : IV y c c) (h : x.toInt ≠ y.toInt) (hb : b = c) : IV x a (b - 1) := by
  obtain ⟨x1, x2⟩ := hx
  obtain ⟨y1, y2⟩ := hy
  exact ⟨x1, by omega⟩
theorem r_ne_lo {x y : Int32} {a b c : Int} (hx : IV x a b) (hy : IV y c c) (h : x.toInt ≠ y.toInt) (hb : a = c) : IV x (a + 1) b := by
  obtain ⟨x1, x2⟩ := hx
  obtain ⟨y1, y2⟩ := hy
  exact ⟨by omega, x2⟩
theorem ti_nat {x : Int32} (h : 0 ≤ x.toInt) : (x.toBitVec.toNat : Int) = x.toInt := by
  have h' : 0 ≤ x.toBitVec.toInt := h
  show (x.toBitVec.toNat : Int) = x.toBitVec.toInt
  rw [BitVec.toInt_eq_toNat_cond] at h' ⊢
  have := x.toBitVec.isLt
  split
  · rfl
  · rename_i hn
    rw [if_neg hn] at h'
    omega
theorem ti_of_nat {x : Int32} (h : x.toBitVec.toNat < 2147483648) : x.toInt = (x.toBitVec.toNat : Int) := by
  show x.toBitVec.toInt = _
  rw [BitVec.toInt_eq_toNat_cond]
  rw [if_pos (by omega)]
theorem iv_and_r {x y : Int32} {a b : Int} (hy : IV y a b) (h : 0 ≤ a) : IV (x &&& y) 0 b := by
  have e := ti_nat (x := y) (by have := hy.1; omega)
  have hle : (x &&& y).toBitVec.toNat ≤ y.toBitVec.toNat := by
    rw [Int32.toBitVec_and, BitVec.toNat_and]
    exact Nat.and_le_right
  have hb := (iv_any y).2
  have e2 := ti_of_nat (x := x &&& y) (by omega)
  have := hy.2
  exact ⟨by omega, by omega⟩
theorem iv_and_l {x y : Int32} {a b : Int} (hx : IV x a b) (h : 0 ≤ a) : IV (x &&& y) 0 b := by
  have e := ti_nat (x := x) (by have := hx.1; omega)
  have hle : (x &&& y).toBitVec.toNat ≤ x.toBitVec.toNat := by
    rw [Int32.toBitVec_and, BitVec.toNat_and]
    exact Nat.and_le_left
  have hb := (iv_any x).2
  have e2 := ti_of_nat (x := x &&& y) (by omega)
  have := hx.2
  exact ⟨by omega, by omega⟩
theorem iv_or {x y : Int32} {a b c d : Int} (k : Nat) (hx : IV x a b) (hy : IV y c d) (h : 0 ≤ a ∧ 0 ≤ c ∧ b < 2 ^ k ∧ d < 2 ^ k ∧ k ≤ 30) : IV (x ||| y) 0 (2 ^ k - 1) := by
  obtain ⟨h1, h2, h3, h4, h5⟩ := h
  have e := ti_nat (x := x) (by have := hx.1; omega)
  have e1 := ti_nat (x := y) (by have := hy.1; omega)
  have hk : (2 : Nat) ^ k ≤ 2 ^ 30 := Nat.pow_le_pow_right (by decide) h5
  have hc : ((2 ^ k : Nat) : Int) = (2 : Int) ^ k := by simp
  have hx2 : x.toBitVec.toNat < 2 ^ k := by have := hx.2; omega
  have hy2 : y.toBitVec.toNat < 2 ^ k := by have := hy.2; omega
  have hle : (x ||| y).toBitVec.toNat < 2 ^ k := by
    rw [Int32.toBitVec_or, BitVec.toNat_or]
    exact Nat.or_lt_two_pow hx2 hy2
  have e2 := ti_of_nat (x := x ||| y) (by omega)
  exact ⟨by omega, by omega⟩
theorem shl1_all : ∀ n, n < 31 → ((1 : Int32) <<< (nI n &&& 31)).toInt = 2 ^ n := by decide +kernel
theorem iv_shl1 {y : Int32} {a b hi : Int} (hy : IV y a b) (h : 0 ≤ a ∧ b ≤ 30 ∧ (2 : Int) ^ b.toNat ≤ hi) : IV ((1 : Int32) <<< (y &&& 31)) 1 hi := by
  obtain ⟨h1, h2, h3⟩ := h
  obtain ⟨y1, y2⟩ := hy
  have hy0 : ¬ y < 0 := by rw [ti_nlt]; show (0 : Int32).toInt ≤ _; have e0 : (0 : Int32).toInt = 0 := by decide
                           omega
  obtain ⟨j, hj, rfl⟩ := nI_of hy0
  have ej := nI_toInt hj
  rw [ej] at y1 y2
  have hj31 : j < 31 := by omega
  have e := shl1_all j hj31
  have hp : (2 : Nat) ^ j ≤ 2 ^ b.toNat := Nat.pow_le_pow_right (by decide) (by omega)
  have hc : ((2 ^ j : Nat) : Int) = (2 : Int) ^ j := by simp
  have hc2 : ((2 ^ b.toNat : Nat) : Int) = (2 : Int) ^ b.toNat := by simp
  have hpos : 0 < (2 : Nat) ^ j := Nat.pow_pos (by decide)
  rw [IV, e]
  exact ⟨by omega, by omega⟩
theorem iv_rem {x y : Int32} {a b c hi : Int} (hx : IV x a b) (hy : IV y c c) (h : 0 ≤ a ∧ 0 < c ∧ c - 1 ≤ hi) : IV (x - x / y * y) 0 hi := by
  obtain ⟨h1, h2, h3⟩ := h
  obtain ⟨x1, x2⟩ := hx
  obtain ⟨y1, y2⟩ := hy
  have e0 : (0 : Int32).toInt = 0 := by decide
  have hx0 : ¬ x < 0 := by rw [ti_nlt]; omega
  have hy0 : ¬ y < 0 := by rw [ti_nlt]; omega
  obtain ⟨i, hi', rfl⟩ := nI_of hx0
  obtain ⟨j, hj, rfl⟩ := nI_of hy0
  rw [nI_toInt hj] at y1 y2
  have hm : i % j < j := Nat.mod_lt _ (by omega)
  rw [pk_rem hi' (by omega) hj, IV, nI_toInt (by omega)]
  exact ⟨by omega, by omega⟩
theorem iv_nz {x : Int32} {a b : Int} (hx : IV x a b) (h : 0 < a ∨ b < 0) : ¬ x = 0 := by
  rw [ti_ne]
  have e0 : (0 : Int32).toInt = 0 := by decide
  obtain ⟨x1, x2⟩ := hx
  omega
theorem iv_zar {v : Int32} : IV (vp_nar .boolean v) 0 1 := by
  have h : ∀ w : Int32, vp_nar .boolean w = w &&& 1 := fun w => by first | rfl | simp [vp_nar, narrow]
  rw [h]
  exact iv_and_r (a := 1) (b := 1) ⟨by decide, by decide⟩ (by decide)
/-! ===== what holds of every state that the calls can come to ===== -/
abbrev mm : Int × Int := (-2147483648, 2147483647)
def bT (t k : Nat) : Int × Int := match t with
  | 0 => if k = 5 then (0, 23) else if k = 6 then (0, 24) else mm
  | 1 => if k = 2 then (0, 7) else if k = 3 then (0, 4) else mm
  | 12 => if k = 1 then (0, 400) else if k = 4 then (0, 400) else if k = 5 then (0, 400) else mm
  | 14 => if k = 1 then (0, 16) else mm
  | 16 => if k = 2 then (0, 5) else mm
  | 20 => if k = 2 then (0, 40) else mm
  | 22 => if k = 6 then (0, 400) else if k = 11 then (0, 400) else if k = 9 then (0, 24) else if k = 20 then (0, 13) else mm
  | 23 => if k % 50 = 2 then (0, 7) else if k % 50 = 38 then (0, 4) else mm
  | 27 => (0, 40)
  | _ => mm
def In (σ : Sg) : Prop := ∀ t j k, IV (gV σ t j k) (bT t k).1 (bT t k).2
/-- who goes has a pace -/
def Pa (σ : Sg) : Prop := ∀ b p : Nat, b < 29 → b ≠ 3 → p < 7 → (p : Int) < (gV σ 23 0 (50 * b + 2)).toInt → 1 ≤ (gV σ 23 0 (50 * b + 17 + p)).toInt
def Ps (σ : Sg) : Prop := (∀ j i a, σ.2.1 j i = some a → a ∈ σ.2.2.2.1) ∧ ∀ a ∈ σ.2.2.2.1, σ.2.2.2.2.1 a ∈ [1, 2, 3, 4, 9]
def Inv (σ : Sg) : Prop := In σ ∧ Pa σ ∧ Ps σ
theorem In.put {σ : Sg} (h : In σ) {t j k : Nat} {v : Int32} (hv : IV v (bT t k).1 (bT t k).2) : In (sV σ t j k v) := by
  intro t' j' k'
  by_cases g : t' = t ∧ k' = k ∧ j' = j
  · obtain ⟨rfl, rfl, rfl⟩ := g
    rw [gV_self]
    exact hv
  · rw [gV_ne (by by_cases g1 : t' = t <;> by_cases g2 : k' = k <;> simp_all)]
    exact h t' j' k'
theorem Pa.put {σ : Sg} (h : Pa σ) {t j k : Nat} {v : Int32} (hk : t ≠ 23 ∨ (k % 50 ≠ 2 ∧ (k % 50 < 17 ∨ 23 < k % 50)) ∨ k / 50 = 3) : Pa (sV σ t j k v) := by
  intro b p hb hb3 hp
  rw [gV_ne (t' := 23) (k' := 50 * b + 2) (by by_cases g : t = 23; · exact Or.inr (Or.inr (by omega))
                                              · exact Or.inl (Ne.symm g)), gV_ne (t' := 23) (k' := 50 * b + 17 + p) (by by_cases g : t = 23; · exact Or.inr (Or.inr (by omega))
                                                                                                                        · exact Or.inl (Ne.symm g))]
  exact h b p hb hb3 hp
theorem Inv.put {σ : Sg} (h : Inv σ) {t j k : Nat} {v : Int32} (ht : t ≠ 23) (hv : IV v (bT t k).1 (bT t k).2) : Inv (sV σ t j k v) := ⟨h.1.put hv, h.2.1.put (Or.inl ht), h.2.2⟩
theorem Inv.putF {σ : Sg} (h : Inv σ) {t j k : Nat} {v : Int32} (ht : t ≠ 23) (hm : bT t k = mm) : Inv (sV σ t j k v) := ⟨h.1.put (by rw [hm]; exact iv_any v), h.2.1.put (Or.inl ht), h.2.2⟩
/-- a number of the reference's long row that isn't one of those that count -/
theorem Inv.putW {σ : Sg} (h : Inv σ) {k : Nat} {v : Int32} (hk : (k % 50 ≠ 2 ∧ (k % 50 < 17 ∨ 23 < k % 50)) ∧ k % 50 ≠ 38) : Inv (sV σ 23 0 k v) := ⟨h.1.put (by
  have e : bT 23 k = mm := by
    show (if k % 50 = 2 then _ else if k % 50 = 38 then _ else _) = _
    rw [if_neg (by omega), if_neg (by omega)]
  rw [e]
  exact iv_any v), h.2.1.put (Or.inr (Or.inl hk.1)), h.2.2⟩
/-- only places of these sorts have changed; 6: the persons' rows, 99: the persons -/
def Fr (M : List (Nat × Nat)) (A : List Nat) (σ τ : Sg) : Prop := (∀ t j k, (t, k) ∉ M → t ∉ A → gV τ t j k = gV σ t j k) ∧ (6 ∉ A → τ.2.1 = σ.2.1) ∧ (99 ∉ A → τ.2.2.2 = σ.2.2.2)
theorem Fr.rf {M : List (Nat × Nat)} {A : List Nat} {σ : Sg} : Fr M A σ σ := ⟨fun _ _ _ _ _ => rfl, fun _ => rfl, fun _ => rfl⟩
theorem Fr.put {M : List (Nat × Nat)} {A : List Nat} {σ τ : Sg} (h : Fr M A σ τ) {t j k : Nat} {v : Int32} (hm : (t, k) ∈ M ∨ t ∈ A) : Fr M A σ (sV τ t j k v) := by
  refine ⟨?_, h.2⟩
  intro t' j' k' h1 h2
  rw [gV_ne (by
    by_cases g1 : t' = t
    · subst g1
      by_cases g2 : k' = k
      · subst g2
        rcases hm with q | q
        · exact absurd q h1
        · exact absurd q h2
      · exact Or.inr (Or.inr g2)
    · exact Or.inl g1)]
  exact h.1 t' j' k' h1 h2
theorem Fr.call {M M' : List (Nat × Nat)} {A A' : List Nat} {σ τ υ : Sg} (h : Fr M A σ τ) (h2 : Fr M' A' τ υ) (hs : (M'.all (fun q => M.contains q || A.contains q.1) && A'.all (fun q => A.contains q)) = true) : Fr M A σ υ := by
  rw [Bool.and_eq_true, List.all_eq_true, List.all_eq_true] at hs
  have hA : ∀ t, t ∉ A → t ∉ A' := fun t b q => b (by have := hs.2 _ q; simpa using this)
  refine ⟨fun t j k a b => ?_, fun b => (h2.2.1 (hA 6 b)).trans (h.2.1 b), fun b => (h2.2.2 (hA 99 b)).trans (h.2.2 b)⟩
  rw [h2.1 t j k (fun q => by
    have := hs.1 _ q
    simp only [Bool.or_eq_true, List.contains_iff_mem] at this
    rcases this with g | g
    · exact a g
    · exact b g) (hA t b)]
  exact h.1 t j k a b
/-- an answer that is an int; none -/
def PI (P : Int32 → Sg → Prop) : Option Value → Sg → Prop := fun r τ => ∃ x : Int32, r = some (.int x) ∧ P x τ
def PV (P : Sg → Prop) : Option Value → Sg → Prop := fun r τ => r = none ∧ P τ
def PR (P : Value → Sg → Prop) : Option Value → Sg → Prop := fun r τ => ∃ x : Value, r = some x ∧ P x τ
theorem ti_addv {x y : Int32} {a b c d : Int} (hx : IV x a b) (hy : IV y c d) (h : -2147483648 ≤ a + c ∧ b + d ≤ 2147483647) : (x + y).toInt = x.toInt + y.toInt := ti_add (by have := hx.1; have := hy.1; omega) (by have := hx.2; have := hy.2; omega)
theorem ti_subv {x y : Int32} {a b c d : Int} (hx : IV x a b) (hy : IV y c d) (h : -2147483648 ≤ a - d ∧ b - c ≤ 2147483647) : (x - y).toInt = x.toInt - y.toInt := ti_sub (by have := hx.1; have := hy.2; omega) (by have := hx.2; have := hy.1; omega)
theorem ti_mulv {x y : Int32} {a b c d : Int} (hx : IV x a b) (hy : IV y c d) (h : 0 ≤ a ∧ 0 ≤ c ∧ b * d ≤ 2147483647) : (x * y).toInt = x.toInt * y.toInt := by
  obtain ⟨x1, x2⟩ := hx
  obtain ⟨y1, y2⟩ := hy
  have h1 : 0 ≤ x.toInt * y.toInt := Int.mul_nonneg (by omega) (by omega)
  have h2 : x.toInt * y.toInt ≤ b * d := Int.mul_le_mul x2 y2 (by omega) (by omega)
  exact ti_mul (by omega) (by omega)
theorem iv_nat {x : Int32} {a b : Int} {n : Nat} (h : IV x a b) (hh : 0 ≤ a ∧ b < (n : Int)) : x.toInt.toNat < n := by
  obtain ⟨h1, h2⟩ := h
  omega
theorem tl_i (x : Int32) : x.toInt64.toInt = x.toInt := Int32.toInt_toInt64 x
theorem lgc (x y : Int64) : (x.toInt < y.toInt ∧ (lg_cmp x y).toInt = -1) ∨ (x.toInt = y.toInt ∧ (lg_cmp x y).toInt = 0) ∨ (y.toInt < x.toInt ∧ (lg_cmp x y).toInt = 1) := by
  have h1 : x < y ↔ x.toInt < y.toInt := Int64.lt_iff_toInt_lt
  have h2 : x = y ↔ x.toInt = y.toInt := Int64.toInt_inj.symm
  have k0 : (0 : Int32).toInt = 0 := by decide
  have k1 : (1 : Int32).toInt = 1 := by decide
  have k2 : (-1 : Int32).toInt = -1 := by decide
  unfold lg_cmp
  by_cases g1 : x < y
  · have g2 : ¬ x = y := fun q => by rw [h1] at g1; rw [h2] at q; omega
    have g3 : ¬ y < x := fun q => by rw [h1] at g1; have := Int64.lt_iff_toInt_lt.mp q; omega
    simp only [g1, g2, g3, if_true, if_false]
    simp
    exact h1.mp g1
  · by_cases g2 : x = y
    · subst g2
      simp
    · have g3 : y < x := by
        rw [Int64.lt_iff_toInt_lt]
        rw [h1] at g1
        rw [h2] at g2
        omega
      simp only [g1, g2, g3, if_true, if_false]
      simp
      exact Int64.lt_iff_toInt_lt.mp g3
theorem kc_m1000100 : IV (-1000100 : Int32) (-1000100) (-1000100) := by decide
theorem kt_m1000100 : (-1000100 : Int32).toInt = -1000100 := by decide
theorem kc_m1000010 : IV (-1000010 : Int32) (-1000010) (-1000010) := by decide
theorem kt_m1000010 : (-1000010 : Int32).toInt = -1000010 := by decide
theorem kc_m1000003 : IV (-1000003 : Int32) (-1000003) (-1000003) := by decide
theorem kt_m1000003 : (-1000003 : Int32).toInt = -1000003 := by decide
theorem kc_m1000002 : IV (-1000002 : Int32) (-1000002) (-1000002) := by decide
theorem kt_m1000002 : (-1000002 : Int32).toInt = -1000002 := by decide
theorem kc_m1000001 : IV (-1000001 : Int32) (-1000001) (-1000001) := by decide
theorem kt_m1000001 : (-1000001 : Int32).toInt = -1000001 := by decide
theorem kc_m1000000 : IV (-1000000 : Int32) (-1000000) (-1000000) := by decide
theorem kt_m1000000 : (-1000000 : Int32).toInt = -1000000 := by decide
theorem kc_m999 : IV (-999 : Int32) (-999) (-999) := by decide
theorem kt_m999 : (-999 : Int32).toInt = -999 := by decide
theorem kc_m100 : IV (-100 : Int32) (-100) (-100) := by decide
theorem kt_m100 : (-100 : Int32).toInt = -100 := by decide
theorem kc_m96 : IV (-96 : Int32) (-96) (-96) := by decide
theorem kt_m96 : (-96 : Int32).toInt = -96 := by decide
theorem kc_m48 : IV (-48 : Int32) (-48) (-48) := by decide
theorem kt_m48 : (-48 : Int32).toInt = -48 := by decide
theorem kc_m1 : IV (-1 : Int32) (-1) (-1) := by decide
theorem kt_m1 : (-1 : Int32).toInt = -1 := by decide
theorem kc_0 : IV (0 : Int32) (0) (0) := by decide
theorem kt_0 : (0 : Int32).toInt = 0 := by decide
theorem kn_0 : (0 : Int32).toInt.toNat = 0 := by decide
theorem kc_1 : IV (1 : Int32) (1) (1) := by decide
theorem kt_1 : (1 : Int32).toInt = 1 := by decide
theorem kn_1 : (1 : Int32).toInt.toNat = 1 := by decide
theorem kc_2 : IV (2 : Int32) (2) (2) := by decide
theorem kt_2 : (2 : Int32).toInt = 2 := by decide
theorem kn_2 : (2 : Int32).toInt.toNat = 2 := by decide
theorem kc_3 : IV (3 : Int32) (3) (3) := by decide
theorem kt_3 : (3 : Int32).toInt = 3 := by decide
theorem kn_3 : (3 : Int32).toInt.toNat = 3 := by decide
theorem kc_4 : IV (4 : Int32) (4) (4) := by decide
theorem kt_4 : (4 : Int32).toInt = 4 := by decide
theorem kn_4 : (4 : Int32).toInt.toNat = 4 := by decide
theorem kc_5 : IV (5 : Int32) (5) (5) := by decide
theorem kt_5 : (5 : Int32).toInt = 5 := by decide
theorem kn_5 : (5 : Int32).toInt.toNat = 5 := by decide
theorem kc_6 : IV (6 : Int32) (6) (6) := by decide
theorem kt_6 : (6 : Int32).toInt = 6 := by decide
theorem kn_6 : (6 : Int32).toInt.toNat = 6 := by decide
theorem kc_7 : IV (7 : Int32) (7) (7) := by decide
theorem kt_7 : (7 : Int32).toInt = 7 := by decide
theorem kn_7 : (7 : Int32).toInt.toNat = 7 := by decide
theorem kc_8 : IV (8 : Int32) (8) (8) := by decide
theorem kt_8 : (8 : Int32).toInt = 8 := by decide
theorem kn_8 : (8 : Int32).toInt.toNat = 8 := by decide
theorem kc_9 : IV (9 : Int32) (9) (9) := by decide
theorem kt_9 : (9 : Int32).toInt = 9 := by decide
theorem kn_9 : (9 : Int32).toInt.toNat = 9 := by decide
theorem kc_10 : IV (10 : Int32) (10) (10) := by decide
theorem kt_10 : (10 : Int32).toInt = 10 := by decide
theorem kn_10 : (10 : Int32).toInt.toNat = 10 := by decide
theorem kc_11 : IV (11 : Int32) (11) (11) := by decide
theorem kt_11 : (11 : Int32).toInt = 11 := by decide
theorem kn_11 : (11 : Int32).toInt.toNat = 11 := by decide
theorem kc_12 : IV (12 : Int32) (12) (12) := by decide
theorem kt_12 : (12 : Int32).toInt = 12 := by decide
theorem kn_12 : (12 : Int32).toInt.toNat = 12 := by decide
theorem kc_13 : IV (13 : Int32) (13) (13) := by decide
theorem kt_13 : (13 : Int32).toInt = 13 := by decide
theorem kn_13 : (13 : Int32).toInt.toNat = 13 := by decide
theorem kc_14 : IV (14 : Int32) (14) (14) := by decide
theorem kt_14 : (14 : Int32).toInt = 14 := by decide
theorem kn_14 : (14 : Int32).toInt.toNat = 14 := by decide
theorem kc_15 : IV (15 : Int32) (15) (15) := by decide
theorem kt_15 : (15 : Int32).toInt = 15 := by decide
theorem kn_15 : (15 : Int32).toInt.toNat = 15 := by decide
theorem kc_16 : IV (16 : Int32) (16) (16) := by decide
theorem kt_16 : (16 : Int32).toInt = 16 := by decide
theorem kn_16 : (16 : Int32).toInt.toNat = 16 := by decide
theorem kc_17 : IV (17 : Int32) (17) (17) := by decide
theorem kt_17 : (17 : Int32).toInt = 17 := by decide
theorem kn_17 : (17 : Int32).toInt.toNat = 17 := by decide
theorem kc_18 : IV (18 : Int32) (18) (18) := by decide
theorem kt_18 : (18 : Int32).toInt = 18 := by decide
theorem kn_18 : (18 : Int32).toInt.toNat = 18 := by decide
theorem kc_19 : IV (19 : Int32) (19) (19) := by decide
theorem kt_19 : (19 : Int32).toInt = 19 := by decide
theorem kn_19 : (19 : Int32).toInt.toNat = 19 := by decide
theorem kc_20 : IV (20 : Int32) (20) (20) := by decide
theorem kt_20 : (20 : Int32).toInt = 20 := by decide
theorem kn_20 : (20 : Int32).toInt.toNat = 20 := by decide
theorem kc_21 : IV (21 : Int32) (21) (21) := by decide
theorem kt_21 : (21 : Int32).toInt = 21 := by decide
theorem kn_21 : (21 : Int32).toInt.toNat = 21 := by decide
theorem kc_22 : IV (22 : Int32) (22) (22) := by decide
theorem kt_22 : (22 : Int32).toInt = 22 := by decide
theorem kn_22 : (22 : Int32).toInt.toNat = 22 := by decide
theorem kc_23 : IV (23 : Int32) (23) (23) := by decide
theorem kt_23 : (23 : Int32).toInt = 23 := by decide
theorem kn_23 : (23 : Int32).toInt.toNat = 23 := by decide
theorem kc_24 : IV (24 : Int32) (24) (24) := by decide
theorem kt_24 : (24 : Int32).toInt = 24 := by decide
theorem kn_24 : (24 : Int32).toInt.toNat = 24 := by decide
theorem kc_25 : IV (25 : Int32) (25) (25) := by decide
theorem kt_25 : (25 : Int32).toInt = 25 := by decide
theorem kn_25 : (25 : Int32).toInt.toNat = 25 := by decide
theorem kc_26 : IV (26 : Int32) (26) (26) := by decide
theorem kt_26 : (26 : Int32).toInt = 26 := by decide
theorem kn_26 : (26 : Int32).toInt.toNat = 26 := by decide
theorem kc_27 : IV (27 : Int32) (27) (27) := by decide
theorem kt_27 : (27 : Int32).toInt = 27 := by decide
theorem kn_27 : (27 : Int32).toInt.toNat = 27 := by decide
theorem kc_28 : IV (28 : Int32) (28) (28) := by decide
theorem kt_28 : (28 : Int32).toInt = 28 := by decide
theorem kn_28 : (28 : Int32).toInt.toNat = 28 := by decide
theorem kc_29 : IV (29 : Int32) (29) (29) := by decide
theorem kt_29 : (29 : Int32).toInt = 29 := by decide
theorem kn_29 : (29 : Int32).toInt.toNat = 29 := by decide
theorem kc_30 : IV (30 : Int32) (30) (30) := by decide
theorem kt_30 : (30 : Int32).toInt = 30 := by decide
theorem kn_30 : (30 : Int32).toInt.toNat = 30 := by decide
theorem kc_31 : IV (31 : Int32) (31) (31) := by decide
theorem kt_31 : (31 : Int32).toInt = 31 := by decide
theorem kn_31 : (31 : Int32).toInt.toNat = 31 := by decide
theorem kc_32 : IV (32 : Int32) (32) (32) := by decide
theorem kt_32 : (32 : Int32).toInt = 32 := by decide
theorem kn_32 : (32 : Int32).toInt.toNat = 32 := by decide
theorem kc_33 : IV (33 : Int32) (33) (33) := by decide
theorem kt_33 : (33 : Int32).toInt = 33 := by decide
theorem kn_33 : (33 : Int32).toInt.toNat = 33 := by decide
theorem kc_34 : IV (34 : Int32) (34) (34) := by decide
theorem kt_34 : (34 : Int32).toInt = 34 := by decide
theorem kn_34 : (34 : Int32).toInt.toNat = 34 := by decide
theorem kc_35 : IV (35 : Int32) (35) (35) := by decide
theorem kt_35 : (35 : Int32).toInt = 35 := by decide
theorem kn_35 : (35 : Int32).toInt.toNat = 35 := by decide
theorem kc_36 : IV (36 : Int32) (36) (36) := by decide
theorem kt_36 : (36 : Int32).toInt = 36 := by decide
theorem kn_36 : (36 : Int32).toInt.toNat = 36 := by decide
theorem kc_37 : IV (37 : Int32) (37) (37) := by decide
theorem kt_37 : (37 : Int32).toInt = 37 := by decide
theorem kn_37 : (37 : Int32).toInt.toNat = 37 := by decide
theorem kc_38 : IV (38 : Int32) (38) (38) := by decide
theorem kt_38 : (38 : Int32).toInt = 38 := by decide
theorem kn_38 : (38 : Int32).toInt.toNat = 38 := by decide
theorem kc_39 : IV (39 : Int32) (39) (39) := by decide
theorem kt_39 : (39 : Int32).toInt = 39 := by decide
theorem kn_39 : (39 : Int32).toInt.toNat = 39 := by decide
theorem kc_40 : IV (40 : Int32) (40) (40) := by decide
theorem kt_40 : (40 : Int32).toInt = 40 := by decide
theorem kn_40 : (40 : Int32).toInt.toNat = 40 := by decide
theorem kc_41 : IV (41 : Int32) (41) (41) := by decide
theorem kt_41 : (41 : Int32).toInt = 41 := by decide
theorem kn_41 : (41 : Int32).toInt.toNat = 41 := by decide
theorem kc_42 : IV (42 : Int32) (42) (42) := by decide
theorem kt_42 : (42 : Int32).toInt = 42 := by decide
theorem kn_42 : (42 : Int32).toInt.toNat = 42 := by decide
theorem kc_43 : IV (43 : Int32) (43) (43) := by decide
theorem kt_43 : (43 : Int32).toInt = 43 := by decide
theorem kn_43 : (43 : Int32).toInt.toNat = 43 := by decide
theorem kc_44 : IV (44 : Int32) (44) (44) := by decide
theorem kt_44 : (44 : Int32).toInt = 44 := by decide
theorem kn_44 : (44 : Int32).toInt.toNat = 44 := by decide
theorem kc_45 : IV (45 : Int32) (45) (45) := by decide
theorem kt_45 : (45 : Int32).toInt = 45 := by decide
theorem kn_45 : (45 : Int32).toInt.toNat = 45 := by decide
theorem kc_46 : IV (46 : Int32) (46) (46) := by decide
theorem kt_46 : (46 : Int32).toInt = 46 := by decide
theorem kn_46 : (46 : Int32).toInt.toNat = 46 := by decide
theorem kc_47 : IV (47 : Int32) (47) (47) := by decide
theorem kt_47 : (47 : Int32).toInt = 47 := by decide
theorem kn_47 : (47 : Int32).toInt.toNat = 47 := by decide
theorem kc_48 : IV (48 : Int32) (48) (48) := by decide
theorem kt_48 : (48 : Int32).toInt = 48 := by decide
theorem kn_48 : (48 : Int32).toInt.toNat = 48 := by decide
theorem kc_49 : IV (49 : Int32) (49) (49) := by decide
theorem kt_49 : (49 : Int32).toInt = 49 := by decide
theorem kn_49 : (49 : Int32).toInt.toNat = 49 := by decide
theorem kc_50 : IV (50 : Int32) (50) (50) := by decide
theorem kt_50 : (50 : Int32).toInt = 50 := by decide
theorem kn_50 : (50 : Int32).toInt.toNat = 50 := by decide
theorem kc_51 : IV (51 : Int32) (51) (51) := by decide
theorem kt_51 : (51 : Int32).toInt = 51 := by decide
theorem kn_51 : (51 : Int32).toInt.toNat = 51 := by decide
theorem kc_52 : IV (52 : Int32) (52) (52) := by decide
theorem kt_52 : (52 : Int32).toInt = 52 := by decide
theorem kn_52 : (52 : Int32).toInt.toNat = 52 := by decide
theorem kc_53 : IV (53 : Int32) (53) (53) := by decide
theorem kt_53 : (53 : Int32).toInt = 53 := by decide
theorem kn_53 : (53 : Int32).toInt.toNat = 53 := by decide
theorem kc_54 : IV (54 : Int32) (54) (54) := by decide
theorem kt_54 : (54 : Int32).toInt = 54 := by decide
theorem kn_54 : (54 : Int32).toInt.toNat = 54 := by decide
theorem kc_55 : IV (55 : Int32) (55) (55) := by decide
theorem kt_55 : (55 : Int32).toInt = 55 := by decide
theorem kn_55 : (55 : Int32).toInt.toNat = 55 := by decide
theorem kc_56 : IV (56 : Int32) (56) (56) := by decide
theorem kt_56 : (56 : Int32).toInt = 56 := by decide
theorem kn_56 : (56 : Int32).toInt.toNat = 56 := by decide
theorem kc_57 : IV (57 : Int32) (57) (57) := by decide
theorem kt_57 : (57 : Int32).toInt = 57 := by decide
theorem kn_57 : (57 : Int32).toInt.toNat = 57 := by decide
theorem kc_58 : IV (58 : Int32) (58) (58) := by decide
theorem kt_58 : (58 : Int32).toInt = 58 := by decide
theorem kn_58 : (58 : Int32).toInt.toNat = 58 := by decide
theorem kc_59 : IV (59 : Int32) (59) (59) := by decide
theorem kt_59 : (59 : Int32).toInt = 59 := by decide
theorem kn_59 : (59 : Int32).toInt.toNat = 59 := by decide
theorem kc_63 : IV (63 : Int32) (63) (63) := by decide
theorem kt_63 : (63 : Int32).toInt = 63 := by decide
theorem kn_63 : (63 : Int32).toInt.toNat = 63 := by decide
theorem kc_64 : IV (64 : Int32) (64) (64) := by decide
theorem kt_64 : (64 : Int32).toInt = 64 := by decide
theorem kn_64 : (64 : Int32).toInt.toNat = 64 := by decide
theorem kc_96 : IV (96 : Int32) (96) (96) := by decide
theorem kt_96 : (96 : Int32).toInt = 96 := by decide
theorem kn_96 : (96 : Int32).toInt.toNat = 96 := by decide
theorem kc_97 : IV (97 : Int32) (97) (97) := by decide
theorem kt_97 : (97 : Int32).toInt = 97 := by decide
theorem kn_97 : (97 : Int32).toInt.toNat = 97 := by decide
theorem kc_98 : IV (98 : Int32) (98) (98) := by decide
theorem kt_98 : (98 : Int32).toInt = 98 := by decide
theorem kn_98 : (98 : Int32).toInt.toNat = 98 := by decide
theorem kc_99 : IV (99 : Int32) (99) (99) := by decide
theorem kt_99 : (99 : Int32).toInt = 99 := by decide
theorem kn_99 : (99 : Int32).toInt.toNat = 99 := by decide
theorem kc_100 : IV (100 : Int32) (100) (100) := by decide
theorem kt_100 : (100 : Int32).toInt = 100 := by decide
theorem kn_100 : (100 : Int32).toInt.toNat = 100 := by decide
theorem kc_122 : IV (122 : Int32) (122) (122) := by decide
theorem kt_122 : (122 : Int32).toInt = 122 := by decide
theorem kn_122 : (122 : Int32).toInt.toNat = 122 := by decide
theorem kc_127 : IV (127 : Int32) (127) (127) := by decide
theorem kt_127 : (127 : Int32).toInt = 127 := by decide
theorem kn_127 : (127 : Int32).toInt.toNat = 127 := by decide
theorem kc_128 : IV (128 : Int32) (128) (128) := by decide
theorem kt_128 : (128 : Int32).toInt = 128 := by decide
theorem kn_128 : (128 : Int32).toInt.toNat = 128 := by decide
theorem kc_150 : IV (150 : Int32) (150) (150) := by decide
theorem kt_150 : (150 : Int32).toInt = 150 := by decide
theorem kn_150 : (150 : Int32).toInt.toNat = 150 := by decide
theorem kc_152 : IV (152 : Int32) (152) (152) := by decide
theorem kt_152 : (152 : Int32).toInt = 152 := by decide
theorem kn_152 : (152 : Int32).toInt.toNat = 152 := by decide
theorem kc_188 : IV (188 : Int32) (188) (188) := by decide
theorem kt_188 : (188 : Int32).toInt = 188 := by decide
theorem kn_188 : (188 : Int32).toInt.toNat = 188 := by decide
theorem kc_200 : IV (200 : Int32) (200) (200) := by decide
theorem kt_200 : (200 : Int32).toInt = 200 := by decide
theorem kn_200 : (200 : Int32).toInt.toNat = 200 := by decide
theorem kc_224 : IV (224 : Int32) (224) (224) := by decide
theorem kt_224 : (224 : Int32).toInt = 224 := by decide
theorem kn_224 : (224 : Int32).toInt.toNat = 224 := by decide
theorem kc_231 : IV (231 : Int32) (231) (231) := by decide
theorem kt_231 : (231 : Int32).toInt = 231 := by decide
theorem kn_231 : (231 : Int32).toInt.toNat = 231 := by decide
theorem kc_243 : IV (243 : Int32) (243) (243) := by decide
theorem kt_243 : (243 : Int32).toInt = 243 := by decide
theorem kn_243 : (243 : Int32).toInt.toNat = 243 := by decide
theorem kc_247 : IV (247 : Int32) (247) (247) := by decide
theorem kt_247 : (247 : Int32).toInt = 247 := by decide
theorem kn_247 : (247 : Int32).toInt.toNat = 247 := by decide
theorem kc_248 : IV (248 : Int32) (248) (248) := by decide
theorem kt_248 : (248 : Int32).toInt = 248 := by decide
theorem kn_248 : (248 : Int32).toInt.toNat = 248 := by decide
theorem kc_249 : IV (249 : Int32) (249) (249) := by decide
theorem kt_249 : (249 : Int32).toInt = 249 := by decide
theorem kn_249 : (249 : Int32).toInt.toNat = 249 := by decide
theorem kc_250 : IV (250 : Int32) (250) (250) := by decide
theorem kt_250 : (250 : Int32).toInt = 250 := by decide
theorem kn_250 : (250 : Int32).toInt.toNat = 250 := by decide
theorem kc_255 : IV (255 : Int32) (255) (255) := by decide
theorem kt_255 : (255 : Int32).toInt = 255 := by decide
theorem kn_255 : (255 : Int32).toInt.toNat = 255 := by decide
theorem kc_256 : IV (256 : Int32) (256) (256) := by decide
theorem kt_256 : (256 : Int32).toInt = 256 := by decide
theorem kn_256 : (256 : Int32).toInt.toNat = 256 := by decide
theorem kc_320 : IV (320 : Int32) (320) (320) := by decide
theorem kt_320 : (320 : Int32).toInt = 320 := by decide
theorem kn_320 : (320 : Int32).toInt.toNat = 320 := by decide
theorem kc_400 : IV (400 : Int32) (400) (400) := by decide
theorem kt_400 : (400 : Int32).toInt = 400 := by decide
theorem kn_400 : (400 : Int32).toInt.toNat = 400 := by decide
theorem kc_999 : IV (999 : Int32) (999) (999) := by decide
theorem kt_999 : (999 : Int32).toInt = 999 := by decide
theorem kn_999 : (999 : Int32).toInt.toNat = 999 := by decide
theorem kc_1000 : IV (1000 : Int32) (1000) (1000) := by decide
theorem kt_1000 : (1000 : Int32).toInt = 1000 := by decide
theorem kn_1000 : (1000 : Int32).toInt.toNat = 1000 := by decide
theorem kc_1450 : IV (1450 : Int32) (1450) (1450) := by decide
theorem kt_1450 : (1450 : Int32).toInt = 1450 := by decide
theorem kn_1450 : (1450 : Int32).toInt.toNat = 1450 := by decide
theorem kc_9999 : IV (9999 : Int32) (9999) (9999) := by decide
theorem kt_9999 : (9999 : Int32).toInt = 9999 := by decide
theorem kn_9999 : (9999 : Int32).toInt.toNat = 9999 := by decide
theorem kl_m1 : (-1 : Int64).toInt = -1 := by decide
theorem kl_0 : (0 : Int64).toInt = 0 := by decide
theorem kl_1 : (1 : Int64).toInt = 1 := by decide
theorem kl_2 : (2 : Int64).toInt = 2 := by decide
theorem kl_3 : (3 : Int64).toInt = 3 := by decide
theorem kl_4 : (4 : Int64).toInt = 4 := by decide
theorem kl_5 : (5 : Int64).toInt = 5 := by decide
theorem kl_7 : (7 : Int64).toInt = 7 := by decide
theorem kl_8 : (8 : Int64).toInt = 8 := by decide
theorem kl_9 : (9 : Int64).toInt = 9 := by decide
theorem kl_16 : (16 : Int64).toInt = 16 := by decide
theorem kl_32 : (32 : Int64).toInt = 32 := by decide
theorem kl_63 : (63 : Int64).toInt = 63 := by decide
theorem kl_64 : (64 : Int64).toInt = 64 := by decide
theorem kl_97 : (97 : Int64).toInt = 97 := by decide
theorem kl_122 : (122 : Int64).toInt = 122 := by decide
theorem kl_48 : (48 : Int64).toInt = 48 := by decide
theorem kl_57 : (57 : Int64).toInt = 57 := by decide
theorem kl_255 : (255 : Int64).toInt = 255 := by decide
theorem kl_999 : (999 : Int64).toInt = 999 := by decide
theorem kl_m999 : (-999 : Int64).toInt = -999 := by decide
theorem kl_20 : (20 : Int64).toInt = 20 := by decide
theorem kl_40 : (40 : Int64).toInt = 40 := by decide
