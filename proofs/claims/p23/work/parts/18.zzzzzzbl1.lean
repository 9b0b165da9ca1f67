theorem ti_negv {x : Int32} {a b : Int} (h : IV x a b) (hh : -1000000 ≤ a ∧ b ≤ 1000000) : (-x).toInt = -x.toInt := by
  have h1 := h.1
  have h2 := h.2
  have e : (0 : Int32).toInt = 0 := by decide
  have q := ti_sub (x := 0) (y := x) (by rw [e]; omega) (by rw [e]; omega)
  rw [show -x = 0 - x by rw [Int32.zero_sub], q, e]
  omega
theorem ti_rem {x y : Int32} {a b c : Int} (hx : IV x a b) (hy : IV y c c) (h : 0 ≤ a ∧ 0 < c) : (x - x / y * y).toInt = x.toInt % c := by
  obtain ⟨h1, h2⟩ := h
  obtain ⟨x1, x2⟩ := hx
  obtain ⟨y1, y2⟩ := hy
  have e0 : (0 : Int32).toInt = 0 := by decide
  have hx0 : ¬ x < 0 := by rw [ti_nlt]; omega
  have hy0 : ¬ y < 0 := by rw [ti_nlt]; omega
  obtain ⟨i, hi', rfl⟩ := nI_of hx0
  obtain ⟨j, hj, rfl⟩ := nI_of hy0
  rw [nI_toInt hj] at y1 y2
  have hm : i % j < j := Nat.mod_lt _ (by omega)
  rw [pk_rem hi' (by omega) hj, nI_toInt (by omega), nI_toInt hi', show c = (j : Int) by omega]
  rfl
/-! ===== bells: the first best order ===== -/
theorem kc_101 : IV (101 : Int32) (101) (101) := by decide
theorem kt_101 : (101 : Int32).toInt = 101 := by decide
theorem kn_101 : (101 : Int32).toInt.toNat = 101 := by decide
theorem pr2 {a b c d : Int} (h : a = c) (g : b = d) : (a, b) = (c, d) := by rw [h, g]
/-- the sum and the greatest sum on the way, without sign, when d is rung from place i on -/
def bst (ν : Nat → Int) : Nat → Int → Int → List Nat → Int × Int
  | _, s, g, [] => (s, g)
  | i, s, g, b :: d => bst ν (i + 1) (if i % 2 = 0 then s + ν b else s - ν b) (max g (max (if i % 2 = 0 then s + ν b else s - ν b) (-(if i % 2 = 0 then s + ν b else s - ν b)))) d
theorem bst_app (ν : Nat → Int) : ∀ (d e : List Nat) (i : Nat) (s g : Int), bst ν i s g (d ++ e) = bst ν (i + d.length) (bst ν i s g d).1 (bst ν i s g d).2 e
  | [], e, i, s, g => rfl
  | b :: d, e, i, s, g => by
    show bst ν (i + 1) _ _ (d ++ e) = _
    rw [bst_app ν d e]
    show _ = bst ν (i + (d.length + 1)) (bst ν (i + 1) _ _ d).1 (bst ν (i + 1) _ _ d).2 e
    rw [show i + 1 + d.length = i + (d.length + 1) by omega]
theorem bst_ge (ν : Nat → Int) : ∀ (d : List Nat) (i : Nat) (s g : Int), g ≤ (bst ν i s g d).2
  | [], _, _, g => Int.le_refl g
  | b :: d, i, s, g => Int.le_trans (Int.le_max_left _ _) (bst_ge ν d (i + 1) _ _)
/-- all sums stay below -/
theorem bst_le (ν : Nat → Int) (h : ∀ b, 0 ≤ ν b ∧ ν b ≤ 20) : ∀ (d : List Nat) (i : Nat) (s g : Int) (m : Int), 0 ≤ m → -m ≤ s → s ≤ m → g ≤ m → (bst ν i s g d).2 ≤ m + 20 * d.length
  | [], _, s, g, m, h0, h1, h2, h3 => by
    show g ≤ m + 20 * ((0 : Nat) : Int)
    omega
  | b :: d, i, s, g, m, h0, h1, h2, h3 => by
    have hb := h b
    have q := bst_le ν h d (i + 1) (if i % 2 = 0 then s + ν b else s - ν b) (max g (max (if i % 2 = 0 then s + ν b else s - ν b) (-(if i % 2 = 0 then s + ν b else s - ν b)))) (m + 20) (by omega) (by split <;> omega) (by split <;> omega) (by split <;> omega)
    show (bst ν (i + 1) _ _ d).2 ≤ m + 20 * ((d.length + 1 : Nat) : Int)
    omega
def bcost (ν : Nat → Int) (d : List Nat) : Int := (bst ν 0 0 0 d).2
theorem bcost_pre (ν : Nat → Int) (d e : List Nat) : bcost ν d ≤ bcost ν (d ++ e) := by
  unfold bcost
  rw [bst_app]
  exact bst_ge ν e _ _ _
def bupd (ν : Nat → Int) (acc : Int × List Nat) (d : List Nat) : Int × List Nat := if bcost ν d < acc.1 then (bcost ν d, d) else acc
/-- the orders that begin so, the first ones first -/
def bperm (n : Nat) : Nat → List Nat → List (List Nat)
  | 0, p => [p]
  | f + 1, p => (List.range n).flatMap (fun b => if b ∈ p then [] else bperm n f (p ++ [b]))
theorem bperm_pre (n : Nat) : ∀ (f : Nat) (p d : List Nat), d ∈ bperm n f p → ∃ e, d = p ++ e
  | 0, p, d, h => ⟨[], by rw [List.append_nil]; exact List.mem_singleton.mp h⟩
  | f + 1, p, d, h => by
    obtain ⟨b, _, h2⟩ := List.mem_flatMap.mp h
    by_cases g : b ∈ p
    · rw [if_pos g] at h2
      exact absurd h2 List.not_mem_nil
    · rw [if_neg g] at h2
      obtain ⟨e, he⟩ := bperm_pre n f (p ++ [b]) d h2
      exact ⟨[b] ++ e, by rw [he, List.append_assoc]⟩
theorem bfold_id (ν : Nat → Int) : ∀ (l : List (List Nat)) (acc : Int × List Nat), (∀ d, d ∈ l → acc.1 ≤ bcost ν d) → l.foldl (bupd ν) acc = acc
  | [], _, _ => rfl
  | d :: l, acc, h => by
    have e : bupd ν acc d = acc := by
      unfold bupd
      rw [if_neg (by have := h d List.mem_cons_self; omega)]
    show l.foldl (bupd ν) (bupd ν acc d) = acc
    rw [e]
    exact bfold_id ν l acc (fun q hq => h q (List.mem_cons_of_mem _ hq))
/-- an order that is not better so far is given up -/
theorem bfold_cut (ν : Nat → Int) (n f : Nat) (p : List Nat) (acc : Int × List Nat) (h : acc.1 ≤ bcost ν p) : (bperm n f p).foldl (bupd ν) acc = acc := bfold_id ν _ acc (fun d hd => by
  obtain ⟨e, he⟩ := bperm_pre n f p d hd
  rw [he]
  exact Int.le_trans h (bcost_pre ν p e))
/-- the bells before y, behind p -/
def bpart (n f : Nat) (p : List Nat) (y : Nat) : List (List Nat) := (List.range y).flatMap (fun b => if b ∈ p then [] else bperm n f (p ++ [b]))
theorem bpart_zero (n f : Nat) (p : List Nat) : bpart n f p 0 = [] := rfl
theorem bpart_in {n f y : Nat} {p : List Nat} (h : y ∈ p) : bpart n f p (y + 1) = bpart n f p y := by
  unfold bpart
  rw [List.range_succ, List.flatMap_append]
  simp [h]
theorem bpart_out {n f y : Nat} {p : List Nat} (h : y ∉ p) : bpart n f p (y + 1) = bpart n f p y ++ bperm n f (p ++ [y]) := by
  unfold bpart
  rw [List.range_succ, List.flatMap_append]
  simp [h]
/-- the digits of a code -/
def bdg (n c : Nat) : List Nat := (List.range n).map (fun i => c / n ^ (n - 1 - i) % n)
def bok (n c : Nat) : Bool := decide (bdg n c).Nodup
theorem bcodes : ∀ n, n < 6 → 1 ≤ n → ((List.range (n ^ n)).filter (bok n)).map (bdg n) = bperm n n [] := by decide +kernel
theorem ti_absv {x z : Int32} {a b : Int} (e : z = (if 0 ≤ x then x else 0 - x)) (h : IV x a b) (hh : -1000000 ≤ a ∧ b ≤ 1000000) : z.toInt = max x.toInt (-x.toInt) := by
  have h1 := h.1
  have h2 := h.2
  have k : (0 : Int32).toInt = 0 := by decide
  by_cases g : 0 ≤ x
  · rw [if_pos g] at e
    have g2 : 0 ≤ x.toInt := by
      have q := ti_le.mp g
      omega
    rw [e]
    omega
  · rw [if_neg g] at e
    have g2 : x.toInt < 0 := by
      have q := ti_nle.mp g
      omega
    have q := ti_sub (x := 0) (y := x) (by rw [k]; omega) (by rw [k]; omega)
    rw [e, q, k]
    omega
/-- the belfry: how many bells, their nods -/
def RNG (σ : Sg) (n : Nat) (ν : Nat → Int) : Prop := (gV σ 16 0 2).toInt = (n : Int) ∧ n ≤ 5 ∧ ∀ i, i < n → (gV σ 17 0 i).toInt = ν i
theorem RNG.fr {M : List (Nat × Nat)} {A : List Nat} {σ τ : Sg} {n : Nat} {ν : Nat → Int} (h : RNG σ n ν) (f : Fr M A σ τ) (h1 : (16, 2) ∉ M) (h2 : 16 ∉ A) (h3 : ∀ k, (17, k) ∉ M) (h4 : 17 ∉ A) : RNG τ n ν := ⟨by rw [f.1 16 0 2 h1 h2]; exact h.1, h.2.1, fun i hi => by rw [f.1 17 0 i (h3 i) h4]; exact h.2.2 i hi⟩
/-- the best so far -/
def ACC (σ : Sg) (n : Nat) (acc : Int × List Nat) : Prop := (gV σ 16 0 4).toInt = acc.1 ∧ (acc.2 = [] ∨ (acc.2.length = n ∧ ∀ i, i < n → (gV σ 19 0 i).toInt = ((acc.2.getD i 0 : Nat) : Int)))
theorem ACC.same {σ τ : Sg} {n : Nat} {acc : Int × List Nat} (h : ACC σ n acc) (e1 : gV τ 16 0 4 = gV σ 16 0 4) (e2 : ∀ i, gV τ 19 0 i = gV σ 19 0 i) : ACC τ n acc := by
  refine ⟨by rw [e1]; exact h.1, ?_⟩
  rcases h.2 with q | q
  · exact Or.inl q
  · exact Or.inr ⟨q.1, fun i hi => by rw [e2]; exact q.2 i hi⟩
/-- the order so far -/
def ORD (σ : Sg) (p : List Nat) : Prop := ∀ i, i < p.length → (gV σ 18 0 i).toInt = ((p.getD i 0 : Nat) : Int)
theorem ORD.same {σ τ : Sg} {p : List Nat} (h : ORD σ p) (e : ∀ i, i < p.length → gV τ 18 0 i = gV σ 18 0 i) : ORD τ p := fun i hi => by
  rw [e i hi]
  exact h i hi
theorem ORD.more {σ τ : Sg} {p : List Nat} {k b : Nat} {v : Int32} (h : ORD σ p) (e : τ = sV σ 18 0 k v) (hk : k = p.length) (hv : v.toInt = (b : Int)) : ORD τ (p ++ [b]) := fun i hi => by
  rw [List.length_append] at hi
  simp only [List.length_cons, List.length_nil] at hi
  rw [List.getD_eq_getElem?_getD]
  by_cases g : i < p.length
  · rw [List.getElem?_append_left g, ← List.getD_eq_getElem?_getD, gV_putn e (Or.inr (Or.inr (by omega)))]
    exact h i g
  · have g2 : i = p.length := by omega
    subst g2
    rw [List.getElem?_append_right (Nat.le_refl _), Nat.sub_self, e, hk, gV_self, hv]
    rfl
/-- who has been rung, as bits -/
def RBT (x : Int32) (p : List Nat) : Prop := (0 ≤ x.toInt ∧ x.toInt ≤ 31) ∧ ∀ b, b < 5 → (bt x.toInt.toNat b = 1 ↔ b ∈ p)
theorem bt_ob : ∀ x, x < 32 → ∀ b, b < 5 → ob x b < 32 ∧ ∀ c, c < 5 → (bt (ob x b) c = 1 ↔ (bt x c = 1 ∨ c = b)) := by decide +kernel
theorem RBT.more {x y z : Int32} {p : List Nat} {b : Int32} (h : RBT x p) (er : z = x ||| y) (es : y = (1 : Int32) <<< (b &&& 31)) (hb : IV b 0 4) : RBT z (p ++ [b.toInt.toNat]) := by
  have h1 := h.1
  have hb1 := hb.1
  have hb2 := hb.2
  have q := or_i er es ⟨h1.1, by omega⟩ (iv_wk hb (by decide))
  have o := bt_ob x.toInt.toNat (by omega) b.toInt.toNat (by omega)
  rw [← q] at o
  have z0 : 0 ≤ z.toInt := by
    have e : z.toInt = (ob x.toInt.toNat b.toInt.toNat : Nat) := by
      obtain ⟨i, hi, rfl, ei⟩ := iv_nI (b := 31) ⟨h1.1, h1.2⟩
      obtain ⟨j, hj, rfl, ej⟩ := iv_nI hb
      rw [er, es, or_all i (by omega) j (by omega), ei, ej]
      rfl
    rw [e]
    omega
  refine ⟨⟨z0, by omega⟩, fun c hc => ?_⟩
  rw [o.2 c hc, h.2 c hc, List.mem_append, List.mem_singleton]
theorem RNG.put_ {σ τ : Sg} {n t j k : Nat} {ν : Nat → Int} {v : Int32} (h : RNG σ n ν) (e : τ = sV σ t j k v) (h1 : (t ≠ 16 ∧ t ≠ 17) ∨ (t = 16 ∧ k ≠ 2)) : RNG τ n ν := by
  refine ⟨?_, h.2.1, fun i hi => ?_⟩
  · rw [gV_putn e (by rcases h1 with q | q; exact Or.inl (Ne.symm q.1); exact Or.inr (Or.inr (Ne.symm q.2)))]
    exact h.1
  · rw [gV_putn e (Or.inl (by rcases h1 with q | q; exact Ne.symm q.2; rw [q.1]; decide))]
    exact h.2.2 i hi
theorem bst_one {ν : Nat → Int} {p : List Nat} {s g : Int} {b k : Nat} (h : bst ν 0 0 0 p = (s, g)) (hk : p.length = k) : bst ν 0 0 0 (p ++ [b]) = (if k % 2 = 0 then s + ν b else s - ν b, max g (max (if k % 2 = 0 then s + ν b else s - ν b) (-(if k % 2 = 0 then s + ν b else s - ν b)))) := by
  rw [bst_app, h, hk, Nat.zero_add]
  rfl
theorem bcost_of {ν : Nat → Int} {p : List Nat} {s g : Int} (h : bst ν 0 0 0 p = (s, g)) : bcost ν p = g := by
  unfold bcost
  rw [h]
theorem bleaf {ν : Nat → Int} {n : Nat} {p : List Nat} {acc : Int × List Nat} (h : n ≤ p.length) (hc : bcost ν p < acc.1) : (bperm n (n - p.length) p).foldl (bupd ν) acc = (bcost ν p, p) := by
  rw [Nat.sub_eq_zero_of_le h]
  show bupd ν acc p = _
  unfold bupd
  rw [if_pos hc]
theorem ACC.leaf {σ τ υ : Sg} {n s d m : Nat} {p : List Nat} {v : Int32} {c : Int} (h : ORD σ p) (e1 : τ = sV σ 16 0 4 v) (e2 : υ = sR τ 19 0 (va_cpy (τ.1 18 0) (τ.1 19 0) s d m)) (hs : s = 0) (hd : d = 0) (hm : m = n) (hp : p.length = n) (hv : v.toInt = c) : ACC υ n (c, p) := by
  subst hs; subst hd; subst hm
  refine ⟨?_, Or.inr ⟨hp, fun i hi => ?_⟩⟩
  · rw [e2, gV_sR (Or.inl (by decide)), e1, gV_self]
    exact hv
  · rw [e2, gV_sRs]
    show ((if 0 ≤ i ∧ i < 0 + m then τ.1 18 0 (0 + (i - 0)) else τ.1 19 0 i)).toInt = _
    rw [if_pos (by omega), show 0 + (i - 0) = i by omega]
    have q : τ.1 18 0 i = gV σ 18 0 i := gV_putn e1 (Or.inl (by decide))
    rw [q]
    exact h i (by omega)
theorem bstep {ν : Nat → Int} {n : Nat} {p : List Nat} {b : Nat} {acc : Int × List Nat} {τ : Sg} (h : ACC τ n ((bperm n (n - (p ++ [b]).length) (p ++ [b])).foldl (bupd ν) acc)) : ACC τ n ((bperm n (n - p.length - 1) (p ++ [b])).foldl (bupd ν) acc) := by
  rw [List.length_append, List.length_singleton, ← Nat.sub_sub] at h
  exact h
theorem bwhole {ν : Nat → Int} {n : Nat} {p : List Nat} {acc : Int × List Nat} {τ : Sg} (hp : p.length < n) (h : ACC τ n ((bpart n (n - p.length - 1) p n).foldl (bupd ν) acc)) : ACC τ n ((bperm n (n - p.length) p).foldl (bupd ν) acc) := by
  rw [show n - p.length = (n - p.length - 1) + 1 by omega]
  exact h
theorem rbt_nil : RBT 0 [] := ⟨by decide, by decide +kernel⟩
/-- every order is as long as there are bells -/
theorem bperm_len (n : Nat) : ∀ (f : Nat) (p d : List Nat), d ∈ bperm n f p → d.length = p.length + f
  | 0, p, d, h => by rw [List.mem_singleton.mp h]; rfl
  | f + 1, p, d, h => by
    obtain ⟨b, _, h2⟩ := List.mem_flatMap.mp h
    by_cases g : b ∈ p
    · rw [if_pos g] at h2
      exact absurd h2 List.not_mem_nil
    · rw [if_neg g] at h2
      have q := bperm_len n f (p ++ [b]) d h2
      rw [List.length_append, List.length_singleton] at q
      omega
theorem bfold_ne (ν : Nat → Int) : ∀ (l : List (List Nat)) (acc : Int × List Nat), (∀ d, d ∈ l → d ≠ []) → (acc.2 ≠ [] ∨ ∃ d, d ∈ l ∧ bcost ν d < acc.1) → (l.foldl (bupd ν) acc).2 ≠ []
  | [], acc, _, h => by
    rcases h with h | ⟨d, h, _⟩
    · exact h
    · exact absurd h List.not_mem_nil
  | d :: l, acc, h1, h => by
    show (l.foldl (bupd ν) (bupd ν acc d)).2 ≠ []
    refine bfold_ne ν l _ (fun q hq => h1 q (List.mem_cons_of_mem _ hq)) ?_
    unfold bupd
    by_cases g : bcost ν d < acc.1
    · rw [if_pos g]
      exact Or.inl (h1 d List.mem_cons_self)
    · rw [if_neg g]
      rcases h with h | ⟨e, he, hc⟩
      · exact Or.inl h
      · rcases List.mem_cons.mp he with q | q
        · rw [q] at hc
          exact absurd hc g
        · exact Or.inr ⟨e, q, hc⟩
theorem bperm_some : ∀ n, n < 6 → 1 ≤ n → bperm n n [] ≠ [] := by decide +kernel
/-- the first best order, its cost -/
def bbest (ν : Nat → Int) (n : Nat) : Int × List Nat := (bperm n n []).foldl (bupd ν) (101, [])
theorem bbest_ne {ν : Nat → Int} {n : Nat} (h : ∀ b, 0 ≤ ν b ∧ ν b ≤ 20) (h1 : 1 ≤ n) (h5 : n ≤ 5) : (bbest ν n).2 ≠ [] := by
  refine bfold_ne ν _ _ (fun d hd e => ?_) (Or.inr ?_)
  · have q := bperm_len n n [] d hd
    rw [e] at q
    simp at q
    omega
  · obtain ⟨d, hd⟩ := List.exists_mem_of_ne_nil _ (bperm_some n (by omega) h1)
    refine ⟨d, hd, ?_⟩
    have q := bst_le ν h d 0 0 0 0 (by omega) (by omega) (by omega) (by omega)
    have l := bperm_len n n [] d hd
    have l2 : d.length = n := by
      rw [l]
      simp
    show (bst ν 0 0 0 d).2 < 101
    omega
/-! ===== bells of the reference: all codes ===== -/
def bacc (ν : Nat → Int) (n c : Nat) : Int × List Nat := (((List.range c).filter (bok n)).map (bdg n)).foldl (bupd ν) (101, [])
theorem bacc_succ (ν : Nat → Int) (n c : Nat) : bacc ν n (c + 1) = if bok n c = true then bupd ν (bacc ν n c) (bdg n c) else bacc ν n c := by
  unfold bacc
  rw [List.range_succ, List.filter_append, List.map_append, List.foldl_append]
  by_cases h : bok n c = true
  · rw [if_pos h]
    simp [h]
  · rw [if_neg h]
    simp [h]
theorem bacc_all {ν : Nat → Int} {n : Nat} (h1 : 1 ≤ n) (h5 : n ≤ 5) : bacc ν n (n ^ n) = bbest ν n := by
  unfold bacc bbest
  rw [bcodes n (by omega) h1]
/-- the best code and its cost -/
def BRL (ν : Nat → Int) (n : Nat) (b l : Int32) (acc : Int × List Nat) : Prop := (b.toInt < 0 ∧ acc = (101, [])) ∨ (0 ≤ b.toInt ∧ acc.1 = l.toInt ∧ acc.2 = bdg n b.toInt.toNat)
theorem bdg_len (n c : Nat) : (bdg n c).length = n := by
  unfold bdg
  rw [List.length_map, List.length_range]
theorem bcost_lt {ν : Nat → Int} {n c : Nat} (h : ∀ b, 0 ≤ ν b ∧ ν b ≤ 20) (h5 : n ≤ 5) : bcost ν (bdg n c) < 101 := by
  have q := bst_le ν h (bdg n c) 0 0 0 0 (by omega) (by omega) (by omega) (by omega)
  rw [bdg_len] at q
  show (bst ν 0 0 0 (bdg n c)).2 < 101
  omega
theorem BRL.no {ν : Nat → Int} {n : Nat} {b l c c2 : Int32} (h : BRL ν n b l (bacc ν n c.toInt.toNat)) (hk : ¬ bok n c.toInt.toNat = true) (e : c2.toInt.toNat = c.toInt.toNat + 1) : BRL ν n b l (bacc ν n c2.toInt.toNat) := by
  rw [e, bacc_succ, if_neg hk]
  exact h
theorem BRL.stay {ν : Nat → Int} {n : Nat} {b l c c2 m : Int32} (h : BRL ν n b l (bacc ν n c.toInt.toNat)) (hk : bok n c.toInt.toNat = true) (e : c2.toInt.toNat = c.toInt.toNat + 1) (hm : m.toInt = bcost ν (bdg n c.toInt.toNat)) (hb : 0 ≤ b.toInt) (hl : l.toInt ≤ m.toInt) : BRL ν n b l (bacc ν n c2.toInt.toNat) := by
  rw [e, bacc_succ, if_pos hk]
  rcases h with q | q
  · exact absurd q.1 (by omega)
  · unfold bupd
    rw [if_neg (by rw [q.2.1, ← hm]; omega)]
    exact Or.inr q
theorem BRL.new {ν : Nat → Int} {n : Nat} {b l c c2 m : Int32} (h : BRL ν n b l (bacc ν n c.toInt.toNat)) (hν : ∀ b, 0 ≤ ν b ∧ ν b ≤ 20) (h5 : n ≤ 5) (hc : 0 ≤ c.toInt) (hk : bok n c.toInt.toNat = true) (e : c2.toInt.toNat = c.toInt.toNat + 1) (hm : m.toInt = bcost ν (bdg n c.toInt.toNat)) (hl : b.toInt < 0 ∨ m.toInt < l.toInt) : BRL ν n c m (bacc ν n c2.toInt.toNat) := by
  rw [e, bacc_succ, if_pos hk]
  have g : bcost ν (bdg n c.toInt.toNat) < (bacc ν n c.toInt.toNat).1 := by
    rcases h with q | q
    · rw [q.2]
      exact bcost_lt hν h5
    · rw [q.2.1, ← hm]
      omega
  unfold bupd
  rw [if_pos g]
  exact Or.inr ⟨hc, hm.symm, rfl⟩
def usedX (n c : Nat) : Int32 := (List.range n).foldl (fun u i => u ||| ((1 : Int32) <<< (nI (c / n ^ (n - 1 - i) % n) &&& 31))) 0
def usedB (n a : Nat) : Bool := (List.range 56).all fun b => !decide (56 * a + b < n ^ n) || (decide (usedX n (56 * a + b) = nI (2 ^ n - 1)) == bok n (56 * a + b))
theorem used_ab : ∀ n, n < 6 → 1 ≤ n → ∀ a, a < 56 → usedB n a = true := by decide +kernel
theorem npow6 : ∀ n, n < 6 → n ^ n ≤ 3125 := by decide
theorem used_all (n : Nat) (h6 : n < 6) (h1 : 1 ≤ n) (c : Nat) (hc : c < n ^ n) : usedX n c = nI (2 ^ n - 1) ↔ bok n c = true := by
  have q := npow6 n h6
  have u := List.all_eq_true.mp (used_ab n h6 h1 (c / 56) (by omega)) (c % 56) (List.mem_range.mpr (by omega))
  rw [show 56 * (c / 56) + c % 56 = c by omega, decide_eq_true hc, Bool.not_true, Bool.false_or, beq_iff_eq] at u
  rw [← u, decide_eq_true_iff]
theorem nI_of_ti {x : Int32} {m : Nat} (h : x.toInt = (m : Int)) (hm : m < 2 ^ 31) : x = nI m := Int32.toInt_inj.mp (by rw [h, nI_toInt hm])
theorem ti_divc {x y : Int32} {a b c : Int} (hx : IV x a b) (hy : IV y c c) (h : 0 ≤ a ∧ 0 < c) : (x / y).toInt = x.toInt / c := by
  obtain ⟨h1, h2⟩ := h
  obtain ⟨x1, x2⟩ := hx
  obtain ⟨y1, y2⟩ := hy
  have e0 : (0 : Int32).toInt = 0 := by decide
  have hx0 : ¬ x < 0 := by rw [ti_nlt]; omega
  have hy0 : ¬ y < 0 := by rw [ti_nlt]; omega
  obtain ⟨i, hi', rfl⟩ := nI_of hx0
  obtain ⟨j, hj, rfl⟩ := nI_of hy0
  rw [nI_toInt hj] at y1 y2
  have hm : i / j ≤ i := Nat.div_le_self _ _
  rw [pk_div hi' (by omega) hj, nI_toInt (by omega), nI_toInt hi', show c = (j : Int) by omega]
  rfl
/-- what bells answers, from the best order -/
def RESB (r a3 : Int32) (n : Nat) (F : Int × List Nat) : Prop := (a3.toInt < 0 → r.toInt = F.1) ∧ (0 ≤ a3.toInt → a3.toInt < (n : Int) → r.toInt = ((F.2.getD a3.toInt.toNat 0 : Nat) : Int)) ∧ ((n : Int) ≤ a3.toInt → r.toInt = -1000000)
theorem RESB.eq {r1 r2 a3 : Int32} {n : Nat} {F : Int × List Nat} (h : RESB r1 a3 n F) (g : RESB r2 a3 n F) : r1.toInt = r2.toInt := by
  by_cases h1 : a3.toInt < 0
  · rw [h.1 h1, g.1 h1]
  · by_cases h2 : a3.toInt < (n : Int)
    · rw [h.2.1 (by omega) h2, g.2.1 (by omega) h2]
    · rw [h.2.2 (by omega), g.2.2 (by omega)]
/-- the nods of the first n items -/
def nuJ (σ : Sg) (r n : Nat) : Nat → Int := fun i => if i < n then (gV σ 25 0 (40 * r + i)).toInt else 0
def nuI (σ : Sg) (j n : Nat) : Nat → Int := fun i => if i < n then (gV σ 21 j i).toInt else 0
theorem nuJ_b {σ : Sg} {r n : Nat} {m : Int} (h : AlJ σ r m 1 20) (hm : (n : Int) ≤ m) : ∀ b, 0 ≤ nuJ σ r n b ∧ nuJ σ r n b ≤ 20 := fun b => by
  unfold nuJ
  by_cases g : b < n
  · rw [if_pos g]
    have q := h b (by omega)
    omega
  · rw [if_neg g]
    omega
theorem nuI_b {σ : Sg} {r n : Nat} {m : Int} (h : AlI σ r m 1 20) (hm : (n : Int) ≤ m) : ∀ b, 0 ≤ nuI σ r n b ∧ nuI σ r n b ≤ 20 := fun b => by
  unfold nuI
  by_cases g : b < n
  · rw [if_pos g]
    have q := h b (by omega)
    omega
  · rw [if_neg g]
    omega
theorem RI.nu {σ : Sg} {r n : Nat} (h : RI σ) (hr : r < 8) (hl : 0 ≤ (gV σ 26 0 r).toInt) (hn : (n : Int) ≤ (gV σ 27 0 r).toInt) : nuI σ r n = nuJ σ r n := by
  funext i
  unfold nuI nuJ
  by_cases g : i < n
  · rw [if_pos g, if_pos g, h r hr hl i (by omega)]
  · rw [if_neg g, if_neg g]
/-- at the last code -/
theorem BRL.fin {ν : Nat → Int} {n : Nat} {b l c : Int32} (h : BRL ν n b l (bacc ν n c.toInt.toNat)) (hc : c.toInt.toNat = n ^ n) (hν : ∀ b, 0 ≤ ν b ∧ ν b ≤ 20) (h1 : 1 ≤ n) (h5 : n ≤ 5) : 0 ≤ b.toInt ∧ (bbest ν n).1 = l.toInt ∧ (bbest ν n).2 = bdg n b.toInt.toNat := by
  rw [hc, bacc_all h1 h5] at h
  rcases h with q | q
  · exact absurd (by rw [q.2]) (bbest_ne hν h1 h5)
  · exact q
