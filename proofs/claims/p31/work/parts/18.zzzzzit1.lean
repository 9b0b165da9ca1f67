/-! ===== the rows' items ===== -/
def SameI (σ τ : Sg) : Prop := ∀ j i, gV τ 21 j i = gV σ 21 j i
def SameJ (σ τ : Sg) : Prop := ∀ k, gV τ 25 0 k = gV σ 25 0 k
/-- row j is all 0 -/
def IZ (σ τ : Sg) (j n : Nat) : Prop := (∀ i, i < n → gV τ 21 j i = 0) ∧ ∀ j' i, j' ≠ j → gV τ 21 j' i = gV σ 21 j' i
theorem IZ.start {σ τ : Sg} {j n : Nat} (h : SameI σ τ) (hn : n = 0) : IZ σ τ j n := ⟨fun i hi => absurd hi (by omega), fun j' i _ => h j' i⟩
theorem IZ.more {σ τ υ : Sg} {j n m : Nat} (h : IZ σ τ j n) (e : υ = sV τ 21 j n 0) (hm : m = n + 1) : IZ σ υ j m := by
  refine ⟨fun i hi => ?_, fun j' i hj => (gV_putn e (Or.inr (Or.inl hj))).trans (h.2 j' i hj)⟩
  by_cases g : i = n
  · rw [e, g, gV_self]
  · rw [gV_putn e (Or.inr (Or.inr g))]
    exact h.1 i (by omega)
theorem IZ.cast {σ τ : Sg} {j n m : Nat} (h : IZ σ τ j n) (e : n = m) : IZ σ τ j m := e ▸ h
theorem IZ.then {σ τ υ : Sg} {j n : Nat} (h : IZ σ τ j n) (e : SameI τ υ) : IZ σ υ j n := ⟨fun i hi => (e j i).trans (h.1 i hi), fun j' i hj => (e j' i).trans (h.2 j' i hj)⟩
theorem IZ.from {σ τ υ : Sg} {j n : Nat} (h : IZ τ υ j n) (e : SameI σ τ) : IZ σ υ j n := ⟨h.1, fun j' i hj => (h.2 j' i hj).trans (e j' i)⟩
/-- n items of the reference from b on are 0 -/
def JZ (σ τ : Sg) (b n : Nat) : Prop := (∀ i, i < n → gV τ 25 0 (b + i) = 0) ∧ ∀ k, (k < b ∨ b + n ≤ k) → gV τ 25 0 k = gV σ 25 0 k
theorem JZ.start {σ τ : Sg} {b n : Nat} (h : SameJ σ τ) (hn : n = 0) : JZ σ τ b n := ⟨fun i hi => absurd hi (by omega), fun k _ => h k⟩
theorem JZ.more {σ τ υ : Sg} {b n m k : Nat} (h : JZ σ τ b n) (e : υ = sV τ 25 0 k 0) (hk : k = b + n) (hm : m = n + 1) : JZ σ υ b m := by
  subst hk
  refine ⟨fun i hi => ?_, fun k hk => (gV_putn e (Or.inr (Or.inr (by omega)))).trans (h.2 k (by omega))⟩
  by_cases g : i = n
  · rw [e, g, gV_self]
  · rw [gV_putn e (Or.inr (Or.inr (by omega)))]
    exact h.1 i (by omega)
theorem JZ.then {σ τ υ : Sg} {b n : Nat} (h : JZ σ τ b n) (e : SameJ τ υ) : JZ σ υ b n := ⟨fun i hi => (e _).trans (h.1 i hi), fun k hk => (e k).trans (h.2 k hk)⟩
/-- one item -/
def I1 (σ τ : Sg) (j i : Nat) (v : Int32) : Prop := gV τ 21 j i = v ∧ ∀ j' i', (j' ≠ j ∨ i' ≠ i) → gV τ 21 j' i' = gV σ 21 j' i'
def J1_ (σ τ : Sg) (k : Nat) (v : Int32) : Prop := gV τ 25 0 k = v ∧ ∀ q, q ≠ k → gV τ 25 0 q = gV σ 25 0 q
theorem I1.mk {σ τ υ ω : Sg} {j i : Nat} {v : Int32} (h : SameI σ τ) (e : υ = sV τ 21 j i v) (g : SameI υ ω) : I1 σ ω j i v := ⟨(g j i).trans (by rw [e, gV_self]), fun j' i' h' => (g j' i').trans ((gV_putn e (by rcases h' with q | q; exact Or.inr (Or.inl q); exact Or.inr (Or.inr q))).trans (h j' i'))⟩
theorem J1_.mk {σ τ υ ω : Sg} {k : Nat} {v : Int32} (h : SameJ σ τ) (e : υ = sV τ 25 0 k v) (g : SameJ υ ω) : J1_ σ ω k v := ⟨(g k).trans (by rw [e, gV_self]), fun q h' => (g q).trans ((gV_putn e (Or.inr (Or.inr h'))).trans (h q))⟩
/-- n items of row a from s on come to row b from d on -/
def IC (σ τ : Sg) (a s b d n : Nat) : Prop := ∀ j i, gV τ 21 j i = if j = b ∧ d ≤ i ∧ i < d + n then gV σ 21 a (s + (i - d)) else gV σ 21 j i
theorem IC.mk {σ τ υ ω : Sg} {a s b d n : Nat} (h : SameI σ τ) (e : υ = sR τ 21 b (va_cpy (τ.1 21 a) (τ.1 21 b) s d n)) (g : SameI υ ω) : IC σ ω a s b d n := by
  intro j i
  rw [g j i, e]
  by_cases hj : j = b
  · subst hj
    rw [gV_sRs]
    show (if d ≤ i ∧ i < d + n then τ.1 21 a (s + (i - d)) else τ.1 21 j i) = _
    by_cases hc : d ≤ i ∧ i < d + n
    · rw [if_pos hc, if_pos ⟨rfl, hc⟩]
      exact h a _
    · rw [if_neg hc, if_neg (fun z => hc z.2)]
      exact h j i
  · rw [gV_sR (Or.inr hj), if_neg (fun z => hj z.1)]
    exact h j i
/-- the same of the reference: first to the hand, then from it -/
def HC (σ τ : Sg) (s n : Nat) : Prop := SameJ σ τ ∧ ∀ k, k < n → gV τ 29 0 k = gV σ 25 0 (s + k)
theorem HC.start {σ τ : Sg} {s n : Nat} (h : SameJ σ τ) (hn : n = 0) : HC σ τ s n := ⟨h, fun k hk => absurd hk (by omega)⟩
theorem HC.more {σ τ υ : Sg} {s n m q : Nat} {v : Int32} (h : HC σ τ s n) (e : υ = sV τ 29 0 n v) (hv : gV τ 25 0 q = v) (hq : q = s + n) (hm : m = n + 1) : HC σ υ s m := by
  refine ⟨fun k => (gV_putn e (Or.inl (by decide))).trans (h.1 k), fun k hk => ?_⟩
  by_cases g : k = n
  · rw [e, g, gV_self, ← hv, hq]
    exact h.1 _
  · rw [gV_putn e (Or.inr (Or.inr g))]
    exact h.2 k (by omega)
def JC (σ τ : Sg) (s d n : Nat) : Prop := ∀ k, gV τ 25 0 k = if d ≤ k ∧ k < d + n then gV σ 25 0 (s + (k - d)) else gV σ 25 0 k
theorem JC.start {σ τ : Sg} {s d n : Nat} (h : SameJ σ τ) (hn : n = 0) : JC σ τ s d n := fun k => by
  rw [if_neg (by omega)]
  exact h k
theorem JC.more {σ τ υ : Sg} {s d n m q : Nat} {v : Int32} (h : JC σ τ s d n) (e : υ = sV τ 25 0 q v) (hv : v = gV σ 25 0 (s + n)) (hq : q = d + n) (hm : m = n + 1) : JC σ υ s d m := fun k => by
  by_cases g : k = q
  · rw [e, g, gV_self, if_pos (by omega), hv, show s + (q - d) = s + n by omega]
  · rw [gV_putn e (Or.inr (Or.inr g)), h k]
    by_cases c : d ≤ k ∧ k < d + n
    · rw [if_pos c, if_pos (by omega)]
    · rw [if_neg c, if_neg (by omega)]
theorem JC.then {σ τ υ : Sg} {s d n : Nat} (h : JC σ τ s d n) (e : SameJ τ υ) : JC σ υ s d n := fun k => (e k).trans (h k)
/-- the items of both agree -/
def RI (σ : Sg) : Prop := ∀ r, r < 8 → 0 ≤ (gV σ 26 0 r).toInt → ∀ i : Nat, (i : Int) < (gV σ 27 0 r).toInt → gV σ 21 r i = gV σ 25 0 (40 * r + i)
theorem RI.call {M : List (Nat × Nat)} {A : List Nat} {σ τ : Sg} (h : RI σ) (f : Fr M A σ τ) (hm : (M.all fun q => q.1 != 21 && q.1 != 25 && q.1 != 26 && q.1 != 27) = true) (ha : (A.all fun q => q != 21 && q != 25 && q != 26 && q != 27) = true) : RI τ := by
  have hm' : ∀ q ∈ M, q.1 ≠ 21 ∧ q.1 ≠ 25 ∧ q.1 ≠ 26 ∧ q.1 ≠ 27 := fun q hq => by
    have := List.all_eq_true.mp hm q hq
    simpa [and_assoc] using this
  have ha' : ∀ q ∈ A, q ≠ 21 ∧ q ≠ 25 ∧ q ≠ 26 ∧ q ≠ 27 := fun q hq => by
    have := List.all_eq_true.mp ha q hq
    simpa [and_assoc] using this
  intro r hr h1 i hi
  rw [f.1 26 0 r (fun q => (hm' _ q).2.2.1 rfl) (fun q => (ha' _ q).2.2.1 rfl)] at h1
  rw [f.1 27 0 r (fun q => (hm' _ q).2.2.2 rfl) (fun q => (ha' _ q).2.2.2 rfl)] at hi
  rw [f.1 21 r i (fun q => (hm' _ q).1 rfl) (fun q => (ha' _ q).1 rfl), f.1 25 0 _ (fun q => (hm' _ q).2.1 rfl) (fun q => (ha' _ q).2.1 rfl)]
  exact h r hr h1 i hi
theorem RI.same {σ υ : Sg} (h : RI σ) (e1 : SameI σ υ) (e2 : SameJ σ υ) (e3 : SameL σ υ) : RI υ := fun r hr h1 i hi => by
  rw [(e3 r).1] at h1
  rw [(e3 r).2] at hi
  rw [e1, e2]
  exact h r hr h1 i hi
theorem RI.begin {σ τ υ : Sg} {r : Nat} {l n : Int32} (h : RI σ) (hI : Inv σ) (c : IZ σ τ r 40) (e1 : SameI τ υ) (e2 : SameJ σ τ) (e3 : SameL σ τ) (m : JZ τ υ (40 * r) n.toInt.toNat) (u : LU τ υ r l n) (hn : n.toInt ≤ 40) : RI υ := fun q hq h1 i hi => by
  rw [e1]
  by_cases g : q = r
  · subst g
    rw [u.2.1] at hi
    rw [c.1 i (by omega), m.1 i (by omega)]
  · rw [(u.2.2 q g).1, (e3 q).1] at h1
    rw [(u.2.2 q g).2, (e3 q).2] at hi
    have b : IV (gV σ 27 0 q) 0 40 := hI.1 27 0 q
    have b2 := b.2
    rw [c.2 q i g, m.2 _ (by omega), e2]
    exact h q hq h1 i hi
theorem RI.drop {σ τ υ : Sg} {r : Nat} (h : RI σ) (e1 : SameI σ υ) (e2 : SameJ σ υ) (e3 : SameL σ τ) (u : LD τ υ r) : RI υ := fun q hq h1 i hi => by
  by_cases g : q = r
  · subst g
    rw [u.1] at h1
    exact absurd h1 (by decide)
  · rw [u.2.1 q g, (e3 q).1] at h1
    rw [u.2.2 q, (e3 q).2] at hi
    rw [e1, e2]
    exact h q hq h1 i hi
theorem RI.set {σ τ υ : Sg} {r k : Nat} {v w : Int32} (h : RI σ) (c : I1 σ τ r k v) (e1 : SameI τ υ) (e2 : SameJ σ τ) (m : J1_ τ υ (40 * r + k) w) (e3 : SameL σ υ) (hI : Inv σ) (hk : k < 40) (hv : v = w) : RI υ := fun q hq h1 i hi => by
  rw [(e3 q).1] at h1
  rw [(e3 q).2] at hi
  have b : IV (gV σ 27 0 q) 0 40 := hI.1 27 0 q
  have b2 := b.2
  rw [e1]
  by_cases g : q = r ∧ i = k
  · obtain ⟨g1, g2⟩ := g
    subst g1; subst g2
    rw [c.1, m.1]
    exact hv
  · rw [c.2 q i (if z : q = r then Or.inr (fun y => g ⟨z, y⟩) else Or.inl z), m.2 _ (by omega), e2]
    exact h q hq h1 i hi
theorem RI.copy {σ τ υ : Sg} {a s b d n : Nat} (h : RI σ) (hI : Inv σ) (c : IC σ τ a s b d n) (e1 : SameI τ υ) (e2 : SameJ σ τ) (m : JC τ υ (40 * a + s) (40 * b + d) n) (e3 : SameL σ υ) (ha : a < 8) (hl : 0 ≤ (gV σ 26 0 a).toInt) (hs : (s : Int) + n ≤ (gV σ 27 0 a).toInt) (hd : (d : Int) + n ≤ 40) : RI υ := fun q hq h1 i hi => by
  rw [(e3 q).1] at h1
  rw [(e3 q).2] at hi
  have b0 : IV (gV σ 27 0 q) 0 40 := hI.1 27 0 q
  have b2 := b0.2
  rw [e1, c q i, m]
  by_cases g : q = b ∧ d ≤ i ∧ i < d + n
  · obtain ⟨g1, g2⟩ := g
    subst g1
    rw [if_pos ⟨rfl, g2⟩, if_pos (by omega), e2, show 40 * a + s + (40 * q + i - (40 * q + d)) = 40 * a + (s + (i - d)) by omega]
    exact h a ha hl _ (by omega)
  · rw [if_neg g, if_neg (by
      intro z
      by_cases y : q = b
      · subst y
        exact g ⟨rfl, by omega, by omega⟩
      · omega), e2]
    exact h q hq h1 i hi
def HD (σ τ : Sg) (s n : Nat) : Prop := ∀ k, k < n → gV τ 29 0 k = gV σ 25 0 (s + k)
theorem HD.put {σ τ υ : Sg} {s n q : Nat} {v : Int32} (h : HD σ τ s n) (e : υ = sV τ 25 0 q v) : HD σ υ s n := fun k hk => (gV_putn e (Or.inl (by decide))).trans (h k hk)
/-- the first n items of row j lie between -/
def AlI (σ : Sg) (j : Nat) (n lo hi : Int) : Prop := ∀ i : Nat, (i : Int) < n → lo ≤ (gV σ 21 j i).toInt ∧ (gV σ 21 j i).toInt ≤ hi
def AlJ (σ : Sg) (r : Nat) (n lo hi : Int) : Prop := ∀ i : Nat, (i : Int) < n → lo ≤ (gV σ 25 0 (40 * r + i)).toInt ∧ (gV σ 25 0 (40 * r + i)).toInt ≤ hi
theorem RI.all {σ : Sg} {r : Nat} {n lo hi : Int} (h : RI σ) (hr : r < 8) (hl : 0 ≤ (gV σ 26 0 r).toInt) (hn : n ≤ (gV σ 27 0 r).toInt) : AlI σ r n lo hi ↔ AlJ σ r n lo hi := by
  constructor
  · intro g i hi
    rw [← h r hr hl i (by omega)]
    exact g i hi
  · intro g i hi
    rw [h r hr hl i (by omega)]
    exact g i hi
theorem AlI.eq {σ τ : Sg} {j : Nat} {n lo hi : Int} (e : ∀ i, gV τ 21 j i = gV σ 21 j i) : AlI τ j n lo hi ↔ AlI σ j n lo hi := by
  unfold AlI
  simp only [e]
theorem AlJ.eq {σ τ : Sg} {r : Nat} {n lo hi : Int} (e : ∀ k, gV τ 25 0 k = gV σ 25 0 k) : AlJ τ r n lo hi ↔ AlJ σ r n lo hi := by
  unfold AlJ
  simp only [e]
theorem AlI.zero {σ : Sg} {j : Nat} {n lo hi : Int} (h : n ≤ 0) : AlI σ j n lo hi := fun i hi => absurd hi (by omega)
theorem AlI.more {σ : Sg} {j k : Nat} {n m lo hi : Int} (h : AlI σ j n lo hi) (hk : (k : Int) = n) (hm : m = n + 1) (v : lo ≤ (gV σ 21 j k).toInt ∧ (gV σ 21 j k).toInt ≤ hi) : AlI σ j m lo hi := fun i hi => by
  by_cases g : i = k
  · subst g
    exact v
  · exact h i (by omega)
theorem AlI.all {σ : Sg} {j : Nat} {n m lo hi : Int} (h : AlI σ j n lo hi) (hm : m ≤ n) : AlI σ j m lo hi := fun i hi => h i (by omega)
theorem AlJ.zero {σ : Sg} {j : Nat} {n lo hi : Int} (h : n ≤ 0) : AlJ σ j n lo hi := fun i hi => absurd hi (by omega)
theorem AlJ.more {σ : Sg} {j k : Nat} {n m lo hi : Int} (h : AlJ σ j n lo hi) (hk : (k : Int) = n) (hm : m = n + 1) (v : lo ≤ (gV σ 25 0 (40 * j + k)).toInt ∧ (gV σ 25 0 (40 * j + k)).toInt ≤ hi) : AlJ σ j m lo hi := fun i hi => by
  by_cases g : i = k
  · subst g
    exact v
  · exact h i (by omega)
theorem AlJ.all {σ : Sg} {j : Nat} {n m lo hi : Int} (h : AlJ σ j n lo hi) (hm : m ≤ n) : AlJ σ j m lo hi := fun i hi => h i (by omega)
/-- bells: what becomes of the finding -/
def BLC (σ τ : Sg) (a1 a3 : Int32) (n : Int) : Prop := ((a1.toInt < 0 ∨ 7 < a1.toInt ∨ n < 1 ∨ 5 < n ∨ a3.toInt < -1) ∧ (gV τ 0 0 12).toInt = (gV σ 0 0 12).toInt) ∨ (((0 ≤ a1.toInt ∧ a1.toInt ≤ 7) ∧ 1 ≤ n ∧ n ≤ 5 ∧ -1 ≤ a3.toInt) ∧ (gV σ 20 (a1.toInt.toNat) 1).toInt = -1 ∧ (gV τ 0 0 12).toInt = 1) ∨ (((0 ≤ a1.toInt ∧ a1.toInt ≤ 7) ∧ 1 ≤ n ∧ n ≤ 5 ∧ -1 ≤ a3.toInt) ∧ (gV σ 20 (a1.toInt.toNat) 1).toInt ≠ -1 ∧ (gV σ 20 (a1.toInt.toNat) 2).toInt < n ∧ (gV τ 0 0 12).toInt = 2) ∨ (((0 ≤ a1.toInt ∧ a1.toInt ≤ 7) ∧ 1 ≤ n ∧ n ≤ 5 ∧ -1 ≤ a3.toInt) ∧ (gV σ 20 (a1.toInt.toNat) 1).toInt ≠ -1 ∧ n ≤ (gV σ 20 (a1.toInt.toNat) 2).toInt ∧ ¬ AlI σ (a1.toInt.toNat) n 1 20 ∧ (gV τ 0 0 12).toInt = (gV σ 0 0 12).toInt) ∨ (((0 ≤ a1.toInt ∧ a1.toInt ≤ 7) ∧ 1 ≤ n ∧ n ≤ 5 ∧ -1 ≤ a3.toInt) ∧ (gV σ 20 (a1.toInt.toNat) 1).toInt ≠ -1 ∧ n ≤ (gV σ 20 (a1.toInt.toNat) 2).toInt ∧ AlI σ (a1.toInt.toNat) n 1 20 ∧ (gV τ 0 0 12).toInt = 0)
def BLM (σ τ : Sg) (a1 a3 : Int32) (n : Int) : Prop := ((a1.toInt < 0 ∨ 7 < a1.toInt ∨ n < 1 ∨ 5 < n ∨ a3.toInt < -1) ∧ (gV τ 22 0 8).toInt = (gV σ 22 0 8).toInt) ∨ (((0 ≤ a1.toInt ∧ a1.toInt ≤ 7) ∧ 1 ≤ n ∧ n ≤ 5 ∧ -1 ≤ a3.toInt) ∧ (gV σ 26 0 (a1.toInt.toNat)).toInt < 0 ∧ (gV τ 22 0 8).toInt = 1) ∨ (((0 ≤ a1.toInt ∧ a1.toInt ≤ 7) ∧ 1 ≤ n ∧ n ≤ 5 ∧ -1 ≤ a3.toInt) ∧ 0 ≤ (gV σ 26 0 (a1.toInt.toNat)).toInt ∧ (gV σ 27 0 (a1.toInt.toNat)).toInt < n ∧ (gV τ 22 0 8).toInt = 2) ∨ (((0 ≤ a1.toInt ∧ a1.toInt ≤ 7) ∧ 1 ≤ n ∧ n ≤ 5 ∧ -1 ≤ a3.toInt) ∧ 0 ≤ (gV σ 26 0 (a1.toInt.toNat)).toInt ∧ n ≤ (gV σ 27 0 (a1.toInt.toNat)).toInt ∧ ¬ AlJ σ (a1.toInt.toNat) n 1 20 ∧ (gV τ 22 0 8).toInt = (gV σ 22 0 8).toInt) ∨ (((0 ≤ a1.toInt ∧ a1.toInt ≤ 7) ∧ 1 ≤ n ∧ n ≤ 5 ∧ -1 ≤ a3.toInt) ∧ 0 ≤ (gV σ 26 0 (a1.toInt.toNat)).toInt ∧ n ≤ (gV σ 27 0 (a1.toInt.toNat)).toInt ∧ AlJ σ (a1.toInt.toNat) n 1 20 ∧ (gV τ 22 0 8).toInt = 0)
abbrev MS_X11_foundQ : List (Nat × Nat) := [(0, 12)]
abbrev AS_X11_foundQ : List Nat := []
set_option maxHeartbeats 4000000 in
set_option maxRecDepth 100000 in
theorem c_X11_foundQ (l : Launch) (G : Gt) (σ : Sg) (a1 : Int32) (hI : Inv σ) (ha1 : IV a1 0 5) : Mc l G yX11_found cX11_found 2 (some .int) 0 0 0 0 [.ref (G.1 0 0), .int a1] σ (PI fun r τ => Inv τ ∧ Fr MS_X11_foundQ AS_X11_foundQ σ τ ∧ IV r (-1000015) (-1000010) ∧ (r.toInt = -1000010 - a1.toInt ∧ (gV τ 0 0 12).toInt = a1.toInt)) := by
  refine Mc.of (L0 := [some (.ref (G.1 0 0)), some (.int a1)]) (by decide) (Nat.le_of_ble_eq_true rfl) rfl ?_
  intro p e s m args below meth c C hr hlk
  have C : Cx p s m args c cX11_found 2 "LeanTower" := C
  have k0 : (0 : Int32).toInt = 0 := by decide
  have k1 : (1 : Int32).toInt = 1 := by decide
  refine m_aload_n C dX11_found_0 rfl rfl ?_
  refine m_iload_n C dX11_found_1 rfl rfl ?_
  refine p_0_12 C q1_198 dX11_found_2 ?_
  refine m_tops (fun τ1 eτ1 => ?_)
  have i2 : Inv τ1 := eτ1 ▸ Inv.putF hI (by decide) rfl
  have f3 : Fr MS_X11_foundQ AS_X11_foundQ σ τ1 := eτ1 ▸ Fr.put (Fr.rf) (Or.inl (by decide))
  refine m_ldcw (v := (-1000010)) C dX11_found_5 q1_239 ?_
  refine m_iload_n C dX11_found_8 rfl rfl ?_
  refine m_isub C dX11_found_9 ?_
  refine m_topi (fun x4 ex4 => ?_)
  have tx4 : x4.toInt = -1000010 - a1.toInt := by rw [ex4, ti_subv kc_m1000010 ha1 (by decide), kt_m1000010]
  have b5 : IV x4 (-1000015) (-1000010) := by rw [ex4]; exact iv_sub kc_m1000010 ha1 (by decide)
  have q6 : (gV τ1 0 0 12).toInt = a1.toInt := congrArg Int32.toInt (show (gV τ1 0 0 12) = a1 from (show gV τ1 0 0 12 = a1 from gV_put eτ1 (gV_self _ _ _ _ _)))
  exact m_iret C hr hlk (by decide) (by decide) dX11_found_10 ⟨_, rfl, i2, f3, b5, (by omega)⟩

abbrev MS_X11_cleanQ : List (Nat × Nat) := [(0, 12)]
abbrev AS_X11_cleanQ : List Nat := []
set_option maxHeartbeats 4000000 in
set_option maxRecDepth 100000 in
theorem c_X11_cleanQ (l : Launch) (G : Gt) (σ : Sg) (a1 : Int32) (hI : Inv σ) : Mc l G yX11_clean cX11_clean 2 (some .int) 0 0 0 0 [.ref (G.1 0 0), .int a1] σ (PI fun r τ => Inv τ ∧ Fr MS_X11_cleanQ AS_X11_cleanQ σ τ ∧ IV r (-2147483648) 2147483647 ∧ (r.toInt = a1.toInt ∧ (gV τ 0 0 12).toInt = 0)) := by
  refine Mc.of (L0 := [some (.ref (G.1 0 0)), some (.int a1)]) (by decide) (Nat.le_of_ble_eq_true rfl) rfl ?_
  intro p e s m args below meth c C hr hlk
  have C : Cx p s m args c cX11_clean 2 "LeanTower" := C
  have k0 : (0 : Int32).toInt = 0 := by decide
  have k1 : (1 : Int32).toInt = 1 := by decide
  refine m_aload_n C dX11_clean_0 rfl rfl ?_
  refine m_iconst (v := 0) C dX11_clean_1 (by decide) ?_
  refine p_0_12 C q1_198 dX11_clean_2 ?_
  refine m_tops (fun τ1 eτ1 => ?_)
  have i2 : Inv τ1 := eτ1 ▸ Inv.putF hI (by decide) rfl
  have f3 : Fr MS_X11_cleanQ AS_X11_cleanQ σ τ1 := eτ1 ▸ Fr.put (Fr.rf) (Or.inl (by decide))
  refine m_iload_n C dX11_clean_5 rfl rfl ?_
  have q4 : (gV τ1 0 0 12).toInt = 0 := (congrArg Int32.toInt (show (gV τ1 0 0 12) = 0 from (show gV τ1 0 0 12 = 0 from gV_put eτ1 (gV_self _ _ _ _ _)))).trans kt_0
  exact m_iret C hr hlk (by decide) (by decide) dX11_clean_6 ⟨_, rfl, i2, f3, (iv_any a1), (by omega)⟩

abbrev MS_X12_metQ : List (Nat × Nat) := [(22, 8)]
abbrev AS_X12_metQ : List Nat := []
set_option maxHeartbeats 4000000 in
set_option maxRecDepth 100000 in
theorem c_X12_metQ (l : Launch) (G : Gt) (σ : Sg) (a1 : Int32) (hI : Inv σ) (ha1 : IV a1 0 5) : Mc l G yX12_met cX12_met 2 (some .int) 0 0 0 0 [.ref (G.1 22 0), .int a1] σ (PI fun r τ => Inv τ ∧ Fr MS_X12_metQ AS_X12_metQ σ τ ∧ IV r (-1000015) (-1000010) ∧ (r.toInt = -1000010 - a1.toInt ∧ (gV τ 22 0 8).toInt = a1.toInt)) := by
  refine Mc.of (L0 := [some (.ref (G.1 22 0)), some (.int a1)]) (by decide) (Nat.le_of_ble_eq_true rfl) rfl ?_
  intro p e s m args below meth c C hr hlk
  have C : Cx p s m args c cX12_met 2 "LeanTowerModel" := C
  have k0 : (0 : Int32).toInt = 0 := by decide
  have k1 : (1 : Int32).toInt = 1 := by decide
  refine m_aload_n C dX12_met_0 rfl rfl ?_
  refine m_iload_n C dX12_met_1 rfl rfl ?_
  refine p_22_8 C q4_124 dX12_met_2 ?_
  refine m_tops (fun τ1 eτ1 => ?_)
  have i2 : Inv τ1 := eτ1 ▸ Inv.putF hI (by decide) rfl
  have f3 : Fr MS_X12_metQ AS_X12_metQ σ τ1 := eτ1 ▸ Fr.put (Fr.rf) (Or.inl (by decide))
  refine m_ldc (v := (-1000010)) C dX12_met_5 q4_197 ?_
  refine m_iload_n C dX12_met_7 rfl rfl ?_
  refine m_isub C dX12_met_8 ?_
  refine m_topi (fun x4 ex4 => ?_)
  have tx4 : x4.toInt = -1000010 - a1.toInt := by rw [ex4, ti_subv kc_m1000010 ha1 (by decide), kt_m1000010]
  have b5 : IV x4 (-1000015) (-1000010) := by rw [ex4]; exact iv_sub kc_m1000010 ha1 (by decide)
  have q6 : (gV τ1 22 0 8).toInt = a1.toInt := congrArg Int32.toInt (show (gV τ1 22 0 8) = a1 from (show gV τ1 22 0 8 = a1 from gV_put eτ1 (gV_self _ _ _ _ _)))
  exact m_iret C hr hlk (by decide) (by decide) dX12_met_9 ⟨_, rfl, i2, f3, b5, (by omega)⟩

abbrev MS_X12_fineQ : List (Nat × Nat) := [(22, 8)]
abbrev AS_X12_fineQ : List Nat := []
set_option maxHeartbeats 4000000 in
set_option maxRecDepth 100000 in
theorem c_X12_fineQ (l : Launch) (G : Gt) (σ : Sg) (a1 : Int32) (hI : Inv σ) : Mc l G yX12_fine cX12_fine 2 (some .int) 0 0 0 0 [.ref (G.1 22 0), .int a1] σ (PI fun r τ => Inv τ ∧ Fr MS_X12_fineQ AS_X12_fineQ σ τ ∧ IV r (-2147483648) 2147483647 ∧ (r.toInt = a1.toInt ∧ (gV τ 22 0 8).toInt = 0)) := by
  refine Mc.of (L0 := [some (.ref (G.1 22 0)), some (.int a1)]) (by decide) (Nat.le_of_ble_eq_true rfl) rfl ?_
  intro p e s m args below meth c C hr hlk
  have C : Cx p s m args c cX12_fine 2 "LeanTowerModel" := C
  have k0 : (0 : Int32).toInt = 0 := by decide
  have k1 : (1 : Int32).toInt = 1 := by decide
  refine m_aload_n C dX12_fine_0 rfl rfl ?_
  refine m_iconst (v := 0) C dX12_fine_1 (by decide) ?_
  refine p_22_8 C q4_124 dX12_fine_2 ?_
  refine m_tops (fun τ1 eτ1 => ?_)
  have i2 : Inv τ1 := eτ1 ▸ Inv.putF hI (by decide) rfl
  have f3 : Fr MS_X12_fineQ AS_X12_fineQ σ τ1 := eτ1 ▸ Fr.put (Fr.rf) (Or.inl (by decide))
  refine m_iload_n C dX12_fine_5 rfl rfl ?_
  have q4 : (gV τ1 22 0 8).toInt = 0 := (congrArg Int32.toInt (show (gV τ1 22 0 8) = 0 from (show gV τ1 22 0 8 = 0 from gV_put eτ1 (gV_self _ _ _ _ _)))).trans kt_0
  exact m_iret C hr hlk (by decide) (by decide) dX12_fine_6 ⟨_, rfl, i2, f3, (iv_any a1), (by omega)⟩

abbrev MS_X7_beginQ : List (Nat × Nat) := [(20, 1), (20, 2)]
abbrev AS_X7_beginQ : List Nat := [21]
set_option maxHeartbeats 4000000 in
set_option maxRecDepth 100000 in
theorem c_X7_beginQ (l : Launch) (G : Gt) (σ : Sg) {j : Nat} (hj : j < 8) (a1 : Int32) (a2 : Int32) (hI : Inv σ) (ha2 : IV a2 0 40) : Mc l G yX7_begin cX7_begin 4 none 0 0 0 0 [.ref (G.1 20 j), .int a1, .int a2] σ (PV fun τ => Inv τ ∧ Fr MS_X7_beginQ AS_X7_beginQ σ τ ∧ (BG σ τ j a1 a2 ∧ IZ σ τ j 40)) := by
  refine Mc.of (L0 := [some (.ref (G.1 20 j)), some (.int a1), some (.int a2), none]) (by decide) (Nat.le_of_ble_eq_true rfl) rfl ?_
  intro p e s m args below meth c C hr hlk
  have C : Cx p s m args c cX7_begin 4 "LeanTower$Row" := C
  have k0 : (0 : Int32).toInt = 0 := by decide
  have k1 : (1 : Int32).toInt = 1 := by decide
  have J12 : ∀ (n : Nat) (τ : Sg) (y3 : Int32), Inv τ → Fr MS_X7_beginQ AS_X7_beginQ σ τ → IV a1 (-2147483648) 2147483647 → IV a2 0 40 → IV y3 0 40 → (BG σ τ j a1 a2) → (IZ σ τ j y3.toInt.toNat) → (40 - y3.toInt).toNat < n → MW p l e { frames := 0, cells := 0, slots := 0, locals := 0 } s m args below meth c (MQ below (QP G (PV fun τ => Inv τ ∧ Fr MS_X7_beginQ AS_X7_beginQ σ τ ∧ (BG σ τ j a1 a2 ∧ IZ σ τ j 40))) args s 0 0 (aG G)) 4 G 0 0 12 [some (.ref (G.1 20 j)), none, none, some (.int y3)] [] τ := by
    intro n
    induction n with
    | zero => intro τ y3 iτ fτ b_a1 b_a2 b_y3 nB nI hm; exact absurd hm (Nat.not_lt_zero _)
    | succ n ih12 =>
      intro τ y3 iτ fτ b_a1 b_a2 b_y3 nB nI hm12
      refine m_iload_n C dX7_begin_12 rfl rfl ?_
      refine m_bipush (v := 40) C dX7_begin_13 (by decide) ?_
      refine m_icmp_ge (tgt := 31) C dX7_begin_15 (by decide) (fun c1 => ?_) (fun c1 => ?_)
      · have f2 : 40 ≤ y3.toInt := by
          have q : _ := c1
          simp only [ti_nle, ti_nlt, ti_le, ti_lt, ti_eq, ti_ne, Classical.not_not, kt_40] at q
          omega
        have b3 : IV y3 40 40 := ⟨by have q1 := kc_40; have q2 := b_y3; omega, by have q1 := kc_40; have q2 := b_y3; omega⟩
        exact m_vret C hr hlk (by decide) (by decide) dX7_begin_31 ⟨rfl, iτ, fτ, ⟨nB, (nI.cast (by omega))⟩⟩
      · have f4 : y3.toInt < 40 := by
          have q : _ := c1
          simp only [ti_nle, ti_nlt, ti_le, ti_lt, ti_eq, ti_ne, Classical.not_not, kt_40] at q
          omega
        have b5 : IV y3 0 39 := ⟨by have q1 := b_y3; have q2 := kc_40; omega, by have q1 := b_y3; have q2 := kc_40; omega⟩
        refine m_aload_n C dX7_begin_18 rfl rfl ?_
        refine g_20_0 C hj q1_172 dX7_begin_19 ?_
        refine m_iload_n C dX7_begin_22 rfl rfl ?_
        refine m_iconst (v := 0) C dX7_begin_23 (by decide) ?_
        refine as_21 C hj b5 (by decide) rfl dX7_begin_24 ?_
        refine m_tops (fun τ6 eτ6 => ?_)
        have i7 : Inv τ6 := eτ6 ▸ Inv.putF iτ (by decide) rfl
        have f8 : Fr MS_X7_beginQ AS_X7_beginQ σ τ6 := eτ6 ▸ Fr.put (fτ) (Or.inr (by decide))
        obtain ⟨x9, ex9⟩ : ∃ y : Int32, y = y3 + 1 := ⟨_, rfl⟩
        have tx9 : x9.toInt = y3.toInt + 1 := by rw [ex9, ti_addv b5 kc_1 (by decide), kt_1]
        have b10 : IV x9 1 40 := by rw [ex9]; exact iv_add b5 kc_1 (by decide)
        refine m_iinc (v := x9) (L1 := [some (.ref (G.1 20 j)), none, none, some (.int x9)]) C dX7_begin_25 rfl (by rw [ex9]; rfl) (by decide) rfl rfl ?_
        refine m_goto (tgt := 12) C dX7_begin_28 (by decide) ?_
        exact ih12 τ6 x9 i7 f8 b_a1 b_a2 (iv_wk b10 (by decide)) (nB.then (fun _ _ => gV_putn eτ6 (Or.inl (by decide)))) (nI.more eτ6 (by omega)) (by have q := hm12; omega)
  refine m_aload_n C dX7_begin_0 rfl rfl ?_
  refine m_iload_n C dX7_begin_1 rfl rfl ?_
  refine p_20_1 C hj q1_174 dX7_begin_2 ?_
  refine m_tops (fun τ11 eτ11 => ?_)
  have i12 : Inv τ11 := eτ11 ▸ Inv.putF hI (by decide) rfl
  have f13 : Fr MS_X7_beginQ AS_X7_beginQ σ τ11 := eτ11 ▸ Fr.put (Fr.rf) (Or.inl (by decide))
  refine m_aload_n C dX7_begin_5 rfl rfl ?_
  refine m_iload_n C dX7_begin_6 rfl rfl ?_
  refine p_20_2 C hj q1_176 dX7_begin_7 ?_
  refine m_tops (fun τ14 eτ14 => ?_)
  have i15 : Inv τ14 := eτ14 ▸ Inv.put i12 (by decide) ha2
  have f16 : Fr MS_X7_beginQ AS_X7_beginQ σ τ14 := eτ14 ▸ Fr.put (f13) (Or.inl (by decide))
  refine m_iconst (v := 0) C dX7_begin_10 (by decide) ?_
  refine m_istore_n (L1 := [some (.ref (G.1 20 j)), some (.int a1), some (.int a2), some (.int 0)]) C dX7_begin_11 rfl (by decide) rfl rfl ?_
  refine m_sub (L1 := [some (.ref (G.1 20 j)), none, none, some (.int 0)]) ⟨rfl, ⟨rfl, trivial⟩⟩ ?_
  exact J12 ((40 - (0 : Int32).toInt).toNat + 1) τ14 0 i15 f16 (iv_any a1) ha2 (iv_wk kc_0 (by decide)) (BG.mk eτ11 eτ14) (IZ.start (fun j i => (gV_putn eτ14 (Or.inl (by decide))).trans ((fun j i => (gV_putn eτ11 (Or.inl (by decide))).trans ((fun _ _ => rfl) j i)) j i)) kn_0) (Nat.lt_succ_self _)

abbrev MS_X11_rowQ : List (Nat × Nat) := [(0, 12), (20, 1), (20, 2)]
abbrev AS_X11_rowQ : List Nat := [21]
set_option maxHeartbeats 4000000 in
set_option maxRecDepth 100000 in
theorem c_X11_rowQ (l : Launch) (G : Gt) (σ : Sg) (a1 : Int32) (a2 : Int32) (a3 : Int32) (hI : Inv σ) : Mc l G yX11_row cX11_row 5 (some .int) 1 23 0 0 [.ref (G.1 0 0), .int a1, .int a2, .int a3] σ (PI fun r τ => Inv τ ∧ Fr MS_X11_rowQ AS_X11_rowQ σ τ ∧ IV r (-2147483648) 2147483647 ∧ ((((a1.toInt < 0 ∨ 7 < a1.toInt ∨ a2.toInt < 0 ∨ 2 < a2.toInt ∨ 40 < a3.toInt) ∧ r.toInt = -1000001 ∧ SameR σ τ) ∨ ((0 ≤ a1.toInt ∧ a1.toInt ≤ 7 ∧ 0 ≤ a2.toInt ∧ a2.toInt ≤ 2 ∧ a3.toInt < 0) ∧ r.toInt = -1000014 ∧ SameR σ τ) ∨ ((0 ≤ a1.toInt ∧ a1.toInt ≤ 7 ∧ 0 ≤ a2.toInt ∧ a2.toInt ≤ 2 ∧ 0 ≤ a3.toInt ∧ a3.toInt ≤ 40) ∧ r.toInt = a3.toInt ∧ BG σ τ (a1.toInt.toNat) a2 a3)) ∧ (((a1.toInt < 0 ∨ 7 < a1.toInt ∨ a2.toInt < 0 ∨ 2 < a2.toInt ∨ 40 < a3.toInt) → (gV τ 0 0 12).toInt = (gV σ 0 0 12).toInt) ∧ (((0 ≤ a1.toInt ∧ a1.toInt ≤ 7 ∧ 0 ≤ a2.toInt ∧ a2.toInt ≤ 2) ∧ a3.toInt < 0) → (gV τ 0 0 12).toInt = 4) ∧ (((0 ≤ a1.toInt ∧ a1.toInt ≤ 7 ∧ 0 ≤ a2.toInt ∧ a2.toInt ≤ 2) ∧ 0 ≤ a3.toInt ∧ a3.toInt ≤ 40) → (gV τ 0 0 12).toInt = 0)) ∧ ((((0 ≤ a1.toInt ∧ a1.toInt ≤ 7 ∧ 0 ≤ a2.toInt ∧ a2.toInt ≤ 2) ∧ 0 ≤ a3.toInt ∧ a3.toInt ≤ 40) → IZ σ τ (a1.toInt.toNat) 40) ∧ (¬ ((0 ≤ a1.toInt ∧ a1.toInt ≤ 7 ∧ 0 ≤ a2.toInt ∧ a2.toInt ≤ 2) ∧ 0 ≤ a3.toInt ∧ a3.toInt ≤ 40) → SameI σ τ)))) := by
  refine Mc.of (L0 := [some (.ref (G.1 0 0)), some (.int a1), some (.int a2), some (.int a3), none]) (by decide) (Nat.le_of_ble_eq_true rfl) rfl ?_
  intro p e s m args below meth c C hr hlk
  have C : Cx p s m args c cX11_row 5 "LeanTower" := C
  have k0 : (0 : Int32).toInt = 0 := by decide
  have k1 : (1 : Int32).toInt = 1 := by decide
  refine m_aload_n C dX11_row_0 rfl rfl ?_
  refine m_iload_n C dX11_row_1 rfl rfl ?_
  refine m_callV (n := 1) (ci := 10) (st := []) C (c_X11_rowAt l G σ (a1) hI ) (by decide) (by decide) rfl rfl rfl q1_233 q1_230 q1_232 q0_0 q1_1 (by decide +kernel) rfl (by decide) (by decide) rfl (Nat.le_of_ble_eq_true rfl) dX11_row_2 ?_
  rintro _ τ1 ⟨x4, rfl, i2, f3, h7⟩
  have g6 : Fr MS_X11_rowQ AS_X11_rowQ σ τ1 := Fr.call (Fr.rf) f3 (by decide)
  have q8 : (gV τ1 0 0 12).toInt = (gV σ 0 0 12).toInt := congrArg Int32.toInt (show (gV τ1 0 0 12) = (gV σ 0 0 12) from (show gV τ1 0 0 12 = (gV σ 0 0 12) from (f3.1 0 0 (12) (by decide) (by decide)).trans rfl))
  rcases h7 with ⟨rfl, x4q⟩ | ⟨rfl, x4q⟩
  · skip
    show MW p l e _ s m args below meth c _ 5 G 0 0 5 [some (.ref (G.1 0 0)), some (.int a1), some (.int a2), some (.int a3), none] [.null] τ1
    refine m_astoreN (L1 := [some (.ref (G.1 0 0)), some (.int a1), some (.int a2), some (.int a3), some (.null)]) C dX11_row_5 (by decide) rfl rfl ?_
    refine m_aloadN C dX11_row_7 rfl ?_
    refine m_ifnullN (tgt := 27) C dX11_row_9 (by decide) ?_
    refine m_ldc (v := (-1000001)) C dX11_row_27 q1_234 ?_
    exact m_iret C hr hlk (by decide) (by decide) dX11_row_29 ⟨_, rfl, i2, g6, (iv_wk kc_m1000001 (by decide)), ⟨(Or.inl ⟨by omega, (by have q := kt_m1000001; omega), (SameR.rf.fr f3 (by simp) (by decide))⟩), (by have qk := kt_m1000001; omega), ⟨fun h => absurd h (by omega), fun _ => (fun j i => (f3.1 21 j i (by simp) (by decide)).trans ((fun _ _ => rfl) j i))⟩⟩⟩
  · have b9 : IV a1 0 7 := ⟨by have q1 := (iv_any a1); omega, by have q1 := (iv_any a1); omega⟩
    show MW p l e _ s m args below meth c _ 5 G 0 0 5 [some (.ref (G.1 0 0)), some (.int a1), some (.int a2), some (.int a3), none] [.ref (G.1 20 (a1.toInt.toNat))] τ1
    refine m_astore (L1 := [some (.ref (G.1 0 0)), some (.int a1), some (.int a2), some (.int a3), some (.ref (G.1 20 (a1.toInt.toNat)))]) C dX11_row_5 (by decide) rfl rfl ?_
    refine m_aload C dX11_row_7 rfl ?_
    refine m_ifnull C dX11_row_9 ?_
    refine m_iload_n C dX11_row_12 rfl rfl ?_
    refine m_if_lt (tgt := 27) C dX11_row_13 (by decide) (fun c10 => ?_) (fun c10 => ?_)
    · have f11 : a2.toInt < 0 := by
        have q : _ := c10
        simp only [ti_nle, ti_nlt, ti_le, ti_lt, ti_eq, ti_ne, Classical.not_not, kt_0] at q
        omega
      have b12 : IV a2 (-2147483648) (-1) := ⟨by have q1 := (iv_any a2); have q2 := kc_0; omega, by have q1 := (iv_any a2); have q2 := kc_0; omega⟩
      refine m_ldc (v := (-1000001)) C dX11_row_27 q1_234 ?_
      exact m_iret C hr hlk (by decide) (by decide) dX11_row_29 ⟨_, rfl, i2, g6, (iv_wk kc_m1000001 (by decide)), ⟨(Or.inl ⟨by omega, (by have q := kt_m1000001; omega), (SameR.rf.fr f3 (by simp) (by decide))⟩), (by have qk := kt_m1000001; omega), ⟨fun h => absurd h (by omega), fun _ => (fun j i => (f3.1 21 j i (by simp) (by decide)).trans ((fun _ _ => rfl) j i))⟩⟩⟩
    · have f13 : 0 ≤ a2.toInt := by
        have q : _ := c10
        simp only [ti_nle, ti_nlt, ti_le, ti_lt, ti_eq, ti_ne, Classical.not_not, kt_0] at q
        omega
      have b14 : IV a2 0 2147483647 := ⟨by have q1 := kc_0; have q2 := (iv_any a2); omega, by have q1 := kc_0; have q2 := (iv_any a2); omega⟩
      refine m_iload_n C dX11_row_16 rfl rfl ?_
      refine m_iconst (v := 2) C dX11_row_17 (by decide) ?_
      refine m_icmp_gt (tgt := 27) C dX11_row_18 (by decide) (fun c15 => ?_) (fun c15 => ?_)
      · have f16 : 2 < a2.toInt := by
          have q : _ := c15
          simp only [ti_nle, ti_nlt, ti_le, ti_lt, ti_eq, ti_ne, Classical.not_not, kt_2] at q
          omega
        have b17 : IV a2 3 2147483647 := ⟨by have q1 := kc_2; have q2 := b14; omega, by have q1 := kc_2; have q2 := b14; omega⟩
        refine m_ldc (v := (-1000001)) C dX11_row_27 q1_234 ?_
        exact m_iret C hr hlk (by decide) (by decide) dX11_row_29 ⟨_, rfl, i2, g6, (iv_wk kc_m1000001 (by decide)), ⟨(Or.inl ⟨by omega, (by have q := kt_m1000001; omega), (SameR.rf.fr f3 (by simp) (by decide))⟩), (by have qk := kt_m1000001; omega), ⟨fun h => absurd h (by omega), fun _ => (fun j i => (f3.1 21 j i (by simp) (by decide)).trans ((fun _ _ => rfl) j i))⟩⟩⟩
      · have f18 : a2.toInt ≤ 2 := by
          have q : _ := c15
          simp only [ti_nle, ti_nlt, ti_le, ti_lt, ti_eq, ti_ne, Classical.not_not, kt_2] at q
          omega
        have b19 : IV a2 0 2 := ⟨by have q1 := b14; have q2 := kc_2; omega, by have q1 := b14; have q2 := kc_2; omega⟩
        refine m_iload_n C dX11_row_21 rfl rfl ?_
        refine m_bipush (v := 40) C dX11_row_22 (by decide) ?_
        refine m_icmp_le (tgt := 30) C dX11_row_24 (by decide) (fun c20 => ?_) (fun c20 => ?_)
        · have f21 : a3.toInt ≤ 40 := by
            have q : _ := c20
            simp only [ti_nle, ti_nlt, ti_le, ti_lt, ti_eq, ti_ne, Classical.not_not, kt_40] at q
            omega
          have b22 : IV a3 (-2147483648) 40 := ⟨by have q1 := (iv_any a3); have q2 := kc_40; omega, by have q1 := (iv_any a3); have q2 := kc_40; omega⟩
          refine m_iload_n C dX11_row_30 rfl rfl ?_
          refine m_if_ge (tgt := 40) C dX11_row_31 (by decide) (fun c23 => ?_) (fun c23 => ?_)
          · have f24 : 0 ≤ a3.toInt := by
              have q : _ := c23
              simp only [ti_nle, ti_nlt, ti_le, ti_lt, ti_eq, ti_ne, Classical.not_not, kt_0] at q
              omega
            have b25 : IV a3 0 40 := ⟨by have q1 := kc_0; have q2 := b22; omega, by have q1 := kc_0; have q2 := b22; omega⟩
            refine m_aload C dX11_row_40 rfl ?_
            refine m_iload_n C dX11_row_42 rfl rfl ?_
            refine m_iload_n C dX11_row_43 rfl rfl ?_
            refine m_callV (n := 2) (ci := 6) (st := []) C (c_X7_beginQ l G τ1 (j := (a1.toInt.toNat)) (iv_nat b9 (by decide)) (a2) (a3) i2 b25) (by decide) (iv_nat b9 (by decide)) rfl rfl rfl q2_3 q2_0 q2_1 q2_2 q1_6 (by decide +kernel) rfl (by decide) (by decide) rfl (Nat.le_of_ble_eq_true rfl) dX11_row_44 ?_
            rintro _ τ26 ⟨rfl, i27, f28, h32⟩
            obtain ⟨h32, h32t0⟩ := h32
            have g31 : Fr MS_X11_rowQ AS_X11_rowQ σ τ26 := Fr.call (g6) f28 (by decide)
            have q33 : (gV τ26 0 0 12).toInt = (gV σ 0 0 12).toInt := congrArg Int32.toInt (show (gV τ26 0 0 12) = (gV σ 0 0 12) from (show gV τ26 0 0 12 = (gV σ 0 0 12) from (f28.1 0 0 (12) (by decide) (by decide)).trans (show gV τ1 0 0 12 = (gV σ 0 0 12) from (f3.1 0 0 (12) (by decide) (by decide)).trans rfl)))
            show MW p l e _ s m args below meth c _ 5 G 0 0 47 [some (.ref (G.1 0 0)), some (.int a1), some (.int a2), some (.int a3), some (.ref (G.1 20 (a1.toInt.toNat)))] [] τ26
            refine m_aload_n C dX11_row_47 rfl rfl ?_
            refine m_iload_n C dX11_row_48 rfl rfl ?_
            refine m_callV (n := 1) (ci := 10) (st := []) C (c_X11_cleanQ l G τ26 (a3) i27 ) (by decide) (by decide) rfl rfl rfl q2_7 q2_4 q2_6 q0_2 q1_1 (by decide +kernel) rfl (by decide) (by decide) rfl (Nat.le_of_ble_eq_true rfl) dX11_row_49 ?_
            rintro _ τ34 ⟨x37, rfl, i35, f36, b38, h40⟩
            have g39 : Fr MS_X11_rowQ AS_X11_rowQ σ τ34 := Fr.call (g31) f36 (by decide)
            show MW p l e _ s m args below meth c _ 5 G 0 0 52 [some (.ref (G.1 0 0)), some (.int a1), some (.int a2), some (.int a3), some (.ref (G.1 20 (a1.toInt.toNat)))] [.int x37] τ34
            exact m_iret C hr hlk (by decide) (by decide) dX11_row_52 ⟨_, rfl, i35, g39, b38, ⟨(Or.inr (Or.inr ⟨by omega, by omega, (BG.from h32 (SameR.rf.fr f3 (by simp) (by decide))).then (SameR.rf.fr f36 (by simp) (by decide))⟩)), (by omega), ⟨fun _ => (IZ.from h32t0 (fun j i => (f3.1 21 j i (by simp) (by decide)).trans ((fun _ _ => rfl) j i))).then (fun j i => (f36.1 21 j i (by simp) (by decide)).trans ((fun _ _ => rfl) j i)), fun h => absurd (by omega) h⟩⟩⟩
          · have f41 : a3.toInt < 0 := by
              have q : _ := c23
              simp only [ti_nle, ti_nlt, ti_le, ti_lt, ti_eq, ti_ne, Classical.not_not, kt_0] at q
              omega
            have b42 : IV a3 (-2147483648) (-1) := ⟨by have q1 := b22; have q2 := kc_0; omega, by have q1 := b22; have q2 := kc_0; omega⟩
            refine m_aload_n C dX11_row_34 rfl rfl ?_
            refine m_iconst (v := 4) C dX11_row_35 (by decide) ?_
            have q43 := kt_4
            refine m_callV (n := 1) (ci := 10) (st := []) C (c_X11_foundQ l G τ1 (4) i2 (iv_wk kc_4 (by decide))) (by decide) (by decide) rfl rfl rfl q1_238 q1_235 q1_237 q0_1 q1_1 (by decide +kernel) rfl (by decide) (by decide) rfl (Nat.le_of_ble_eq_true rfl) dX11_row_36 ?_
            rintro _ τ44 ⟨x47, rfl, i45, f46, b48, h50⟩
            have g49 : Fr MS_X11_rowQ AS_X11_rowQ σ τ44 := Fr.call (g6) f46 (by decide)
            have q51 := kt_4
            show MW p l e _ s m args below meth c _ 5 G 0 0 39 [some (.ref (G.1 0 0)), some (.int a1), some (.int a2), some (.int a3), some (.ref (G.1 20 (a1.toInt.toNat)))] [.int x47] τ44
            exact m_iret C hr hlk (by decide) (by decide) dX11_row_39 ⟨_, rfl, i45, g49, (iv_wk b48 (by decide)), ⟨(Or.inr (Or.inl ⟨by omega, by omega, ((SameR.rf.fr f3 (by simp) (by decide)).fr f46 (by simp) (by decide))⟩)), (by omega), ⟨fun h => absurd h (by omega), fun _ => (fun j i => (f46.1 21 j i (by simp) (by decide)).trans ((fun j i => (f3.1 21 j i (by simp) (by decide)).trans ((fun _ _ => rfl) j i)) j i))⟩⟩⟩
        · have f52 : 40 < a3.toInt := by
            have q : _ := c20
            simp only [ti_nle, ti_nlt, ti_le, ti_lt, ti_eq, ti_ne, Classical.not_not, kt_40] at q
            omega
          have b53 : IV a3 41 2147483647 := ⟨by have q1 := kc_40; have q2 := (iv_any a3); omega, by have q1 := kc_40; have q2 := (iv_any a3); omega⟩
          refine m_ldc (v := (-1000001)) C dX11_row_27 q1_234 ?_
          exact m_iret C hr hlk (by decide) (by decide) dX11_row_29 ⟨_, rfl, i2, g6, (iv_wk kc_m1000001 (by decide)), ⟨(Or.inl ⟨by omega, (by have q := kt_m1000001; omega), (SameR.rf.fr f3 (by simp) (by decide))⟩), (by have qk := kt_m1000001; omega), ⟨fun h => absurd h (by omega), fun _ => (fun j i => (f3.1 21 j i (by simp) (by decide)).trans ((fun _ _ => rfl) j i))⟩⟩⟩

abbrev MS_X12_rowQ : List (Nat × Nat) := [(22, 8)]
abbrev AS_X12_rowQ : List Nat := [25, 26, 27]
set_option maxHeartbeats 4000000 in
set_option maxRecDepth 100000 in
theorem c_X12_rowQ (l : Launch) (G : Gt) (σ : Sg) (a1 : Int32) (a2 : Int32) (a3 : Int32) (hI : Inv σ) : Mc l G yX12_row cX12_row 5 (some .int) 2 45 0 0 [.ref (G.1 22 0), .int a1, .int a2, .int a3] σ (PI fun r τ => Inv τ ∧ Fr MS_X12_rowQ AS_X12_rowQ σ τ ∧ IV r (-2147483648) 2147483647 ∧ ((((a1.toInt < 0 ∨ 7 < a1.toInt ∨ a2.toInt < 0 ∨ 2 < a2.toInt ∨ 40 < a3.toInt) ∧ r.toInt = -1000001 ∧ SameL σ τ) ∨ ((0 ≤ a1.toInt ∧ a1.toInt ≤ 7 ∧ 0 ≤ a2.toInt ∧ a2.toInt ≤ 2 ∧ a3.toInt < 0) ∧ r.toInt = -1000014 ∧ SameL σ τ) ∨ ((0 ≤ a1.toInt ∧ a1.toInt ≤ 7 ∧ 0 ≤ a2.toInt ∧ a2.toInt ≤ 2 ∧ 0 ≤ a3.toInt ∧ a3.toInt ≤ 40) ∧ r.toInt = a3.toInt ∧ LU σ τ (a1.toInt.toNat) a2 a3)) ∧ (((a1.toInt < 0 ∨ 7 < a1.toInt ∨ a2.toInt < 0 ∨ 2 < a2.toInt ∨ 40 < a3.toInt) → (gV τ 22 0 8).toInt = (gV σ 22 0 8).toInt) ∧ (((0 ≤ a1.toInt ∧ a1.toInt ≤ 7 ∧ 0 ≤ a2.toInt ∧ a2.toInt ≤ 2) ∧ a3.toInt < 0) → (gV τ 22 0 8).toInt = 4) ∧ (((0 ≤ a1.toInt ∧ a1.toInt ≤ 7 ∧ 0 ≤ a2.toInt ∧ a2.toInt ≤ 2) ∧ 0 ≤ a3.toInt ∧ a3.toInt ≤ 40) → (gV τ 22 0 8).toInt = 0)) ∧ ((((0 ≤ a1.toInt ∧ a1.toInt ≤ 7 ∧ 0 ≤ a2.toInt ∧ a2.toInt ≤ 2) ∧ 0 ≤ a3.toInt ∧ a3.toInt ≤ 40) → JZ σ τ (40 * (a1.toInt.toNat)) a3.toInt.toNat) ∧ (¬ ((0 ≤ a1.toInt ∧ a1.toInt ≤ 7 ∧ 0 ≤ a2.toInt ∧ a2.toInt ≤ 2) ∧ 0 ≤ a3.toInt ∧ a3.toInt ≤ 40) → SameJ σ τ)))) := by
  refine Mc.of (L0 := [some (.ref (G.1 22 0)), some (.int a1), some (.int a2), some (.int a3), none]) (by decide) (Nat.le_of_ble_eq_true rfl) rfl ?_
  intro p e s m args below meth c C hr hlk
  have C : Cx p s m args c cX12_row 5 "LeanTowerModel" := C
  have k0 : (0 : Int32).toInt = 0 := by decide
  have k1 : (1 : Int32).toInt = 1 := by decide
  have J55 : ∀ (n : Nat) (τ : Sg) (y4 : Int32), Inv τ → Fr MS_X12_rowQ AS_X12_rowQ σ τ → IV a1 0 7 → IV a2 0 2 → IV a3 0 40 → IV y4 0 40 → (0 ≤ a1.toInt ∧ a1.toInt ≤ 7 ∧ 0 ≤ a2.toInt ∧ a2.toInt ≤ 2 ∧ 0 ≤ a3.toInt ∧ a3.toInt ≤ 40) → (LU σ τ (a1.toInt.toNat) a2 a3) → (y4.toInt ≤ a3.toInt) → (JZ σ τ (40 * (a1.toInt.toNat)) y4.toInt.toNat) → (40 - y4.toInt).toNat < n → MW p l e { frames := 2, cells := 0, slots := 0, locals := 45 } s m args below meth c (MQ below (QP G (PI fun r τ => Inv τ ∧ Fr MS_X12_rowQ AS_X12_rowQ σ τ ∧ IV r (-2147483648) 2147483647 ∧ ((((a1.toInt < 0 ∨ 7 < a1.toInt ∨ a2.toInt < 0 ∨ 2 < a2.toInt ∨ 40 < a3.toInt) ∧ r.toInt = -1000001 ∧ SameL σ τ) ∨ ((0 ≤ a1.toInt ∧ a1.toInt ≤ 7 ∧ 0 ≤ a2.toInt ∧ a2.toInt ≤ 2 ∧ a3.toInt < 0) ∧ r.toInt = -1000014 ∧ SameL σ τ) ∨ ((0 ≤ a1.toInt ∧ a1.toInt ≤ 7 ∧ 0 ≤ a2.toInt ∧ a2.toInt ≤ 2 ∧ 0 ≤ a3.toInt ∧ a3.toInt ≤ 40) ∧ r.toInt = a3.toInt ∧ LU σ τ (a1.toInt.toNat) a2 a3)) ∧ (((a1.toInt < 0 ∨ 7 < a1.toInt ∨ a2.toInt < 0 ∨ 2 < a2.toInt ∨ 40 < a3.toInt) → (gV τ 22 0 8).toInt = (gV σ 22 0 8).toInt) ∧ (((0 ≤ a1.toInt ∧ a1.toInt ≤ 7 ∧ 0 ≤ a2.toInt ∧ a2.toInt ≤ 2) ∧ a3.toInt < 0) → (gV τ 22 0 8).toInt = 4) ∧ (((0 ≤ a1.toInt ∧ a1.toInt ≤ 7 ∧ 0 ≤ a2.toInt ∧ a2.toInt ≤ 2) ∧ 0 ≤ a3.toInt ∧ a3.toInt ≤ 40) → (gV τ 22 0 8).toInt = 0)) ∧ ((((0 ≤ a1.toInt ∧ a1.toInt ≤ 7 ∧ 0 ≤ a2.toInt ∧ a2.toInt ≤ 2) ∧ 0 ≤ a3.toInt ∧ a3.toInt ≤ 40) → JZ σ τ (40 * (a1.toInt.toNat)) a3.toInt.toNat) ∧ (¬ ((0 ≤ a1.toInt ∧ a1.toInt ≤ 7 ∧ 0 ≤ a2.toInt ∧ a2.toInt ≤ 2) ∧ 0 ≤ a3.toInt ∧ a3.toInt ≤ 40) → SameJ σ τ))))) args s 0 0 (aG G)) 5 G 0 0 55 [some (.ref (G.1 22 0)), some (.int a1), none, some (.int a3), some (.int y4)] [] τ := by
    intro n
    induction n with
    | zero => intro τ y4 iτ fτ b_a1 b_a2 b_a3 b_y4 n1 nU n2 nJ hm; exact absurd hm (Nat.not_lt_zero _)
    | succ n ih55 =>
      intro τ y4 iτ fτ b_a1 b_a2 b_a3 b_y4 n1 nU n2 nJ hm55
      refine m_iload C dX12_row_55 rfl ?_
      refine m_iload_n C dX12_row_57 rfl rfl ?_
      refine m_icmp_ge (tgt := 80) C dX12_row_58 (by decide) (fun c3 => ?_) (fun c3 => ?_)
      · have f4 : a3.toInt ≤ y4.toInt := by
          have q : _ := c3
          simp only [ti_nle, ti_nlt, ti_le, ti_lt, ti_eq, ti_ne, Classical.not_not] at q
          omega
        refine m_aload_n C dX12_row_80 rfl rfl ?_
        refine m_iload_n C dX12_row_81 rfl rfl ?_
        refine m_callV (n := 1) (ci := 11) (st := []) C (c_X12_fineQ l G τ (a3) iτ ) (by decide) (by decide) rfl rfl rfl q4_201 q4_198 q4_200 q0_27 q1_7 (by decide +kernel) rfl (by decide) (by decide) rfl (Nat.le_of_ble_eq_true rfl) dX12_row_82 ?_
        rintro _ τ5 ⟨x8, rfl, i6, f7, b9, h11⟩
        have g10 : Fr MS_X12_rowQ AS_X12_rowQ σ τ5 := Fr.call (fτ) f7 (by decide)
        show MW p l e _ s m args below meth c _ 5 G 0 0 85 [some (.ref (G.1 22 0)), some (.int a1), none, some (.int a3), some (.int y4)] [.int x8] τ5
        exact m_iret C hr hlk (by decide) (by decide) dX12_row_85 ⟨_, rfl, i6, g10, b9, ⟨(Or.inr (Or.inr ⟨by omega, by omega, nU.then (SameL.rf.fr f7 (by simp) (by decide))⟩)), (by omega), ⟨fun _ => by rw [show a3.toInt.toNat = y4.toInt.toNat by omega]; exact nJ.then (fun k => (f7.1 25 0 k (by simp) (by decide)).trans ((fun _ => rfl) k)), fun h => absurd (by omega) h⟩⟩⟩
      · have f12 : y4.toInt < a3.toInt := by
          have q : _ := c3
          simp only [ti_nle, ti_nlt, ti_le, ti_lt, ti_eq, ti_ne, Classical.not_not] at q
          omega
        have b13 : IV y4 0 39 := ⟨by have q1 := b_y4; have q2 := b_a3; omega, by have q1 := b_y4; have q2 := b_a3; omega⟩
        have b14 : IV a3 1 40 := ⟨by have q1 := b_y4; have q2 := b_a3; omega, by have q1 := b_y4; have q2 := b_a3; omega⟩
        refine m_aload_n C dX12_row_61 rfl rfl ?_
        refine g_22_2 C q4_118 dX12_row_62 ?_
        refine m_bipush (v := 40) C dX12_row_65 (by decide) ?_
        refine m_iload_n C dX12_row_67 rfl rfl ?_
        refine m_imul C dX12_row_68 ?_
        refine m_topi (fun x15 ex15 => ?_)
        have tx15 : x15.toInt = 40 * a1.toInt := by rw [ex15, ti_mulv kc_40 b_a1 (by decide), kt_40]
        have b16 : IV x15 0 280 := by rw [ex15]; exact iv_mul kc_40 b_a1 (by decide)
        refine m_iload C dX12_row_69 rfl ?_
        refine m_iadd C dX12_row_71 ?_
        refine m_topi (fun x17 ex17 => ?_)
        have tx17 : x17.toInt = x15.toInt + y4.toInt := by rw [ex17, ti_addv b16 b13 (by decide)]
        have b18 : IV x17 0 319 := by rw [ex17]; exact iv_add b16 b13 (by decide)
        refine m_iconst (v := 0) C dX12_row_72 (by decide) ?_
        refine as_25 C b18 (by decide) rfl dX12_row_73 ?_
        refine m_tops (fun τ19 eτ19 => ?_)
        have i20 : Inv τ19 := eτ19 ▸ Inv.putF iτ (by decide) rfl
        have f21 : Fr MS_X12_rowQ AS_X12_rowQ σ τ19 := eτ19 ▸ Fr.put (fτ) (Or.inr (by decide))
        obtain ⟨x22, ex22⟩ : ∃ y : Int32, y = y4 + 1 := ⟨_, rfl⟩
        have tx22 : x22.toInt = y4.toInt + 1 := by rw [ex22, ti_addv b13 kc_1 (by decide), kt_1]
        have b23 : IV x22 1 40 := by rw [ex22]; exact iv_add b13 kc_1 (by decide)
        refine m_iinc (v := x22) (L1 := [some (.ref (G.1 22 0)), some (.int a1), none, some (.int a3), some (.int x22)]) C dX12_row_74 rfl (by rw [ex22]; rfl) (by decide) rfl rfl ?_
        refine m_goto (tgt := 55) C dX12_row_77 (by decide) ?_
        have q24 : (gV τ19 22 0 8).toInt = (gV τ 22 0 8).toInt := congrArg Int32.toInt (show (gV τ19 22 0 8) = (gV τ 22 0 8) from (show gV τ19 22 0 8 = (gV τ 22 0 8) from gV_put eτ19 rfl))
        exact ih55 τ19 x22 i20 f21 b_a1 b_a2 (iv_wk b14 (by decide)) (iv_wk b23 (by decide)) (by omega) (nU.then (SameL.rf.put eτ19 (by decide) (by decide))) (by omega) (nJ.more eτ19 (by omega) (by omega)) (by have q := hm55; omega)
  refine m_iload_n C dX12_row_0 rfl rfl ?_
  refine m_callS (n := 1) (st := []) C (c_X12_isRow l G σ (a1) hI ) q4_186 q4_184 q4_185 q1_7 (by decide +kernel) rfl (by decide) (by decide) rfl (Nat.le_of_ble_eq_true rfl) dX12_row_1 ?_
  rintro _ τ25 ⟨x28, rfl, i26, f27, b29, h31⟩
  have g30 : Fr MS_X12_rowQ AS_X12_rowQ σ τ25 := Fr.call (Fr.rf) f27 (by decide)
  have q32 : (gV τ25 22 0 8).toInt = (gV σ 22 0 8).toInt := congrArg Int32.toInt (show (gV τ25 22 0 8) = (gV σ 22 0 8) from (show gV τ25 22 0 8 = (gV σ 22 0 8) from (f27.1 22 0 (8) (by decide) (by decide)).trans rfl))
  rcases h31 with ⟨h31_0, h31_1, h31_2⟩ | ⟨h31_0, h31_1⟩
  · skip
    have b33 : IV x28 1 1 := ⟨by omega, by omega⟩
    show MW p l e _ s m args below meth c _ 5 G 0 0 4 [some (.ref (G.1 22 0)), some (.int a1), some (.int a2), some (.int a3), none] [.int x28] τ25
    refine m_if_eq (tgt := 25) C dX12_row_4 (by decide) (fun c34 => ?_) (fun c34 => ?_)
    · exfalso
      have q : _ := c34
      simp only [ti_nle, ti_nlt, ti_le, ti_lt, ti_eq, ti_ne, Classical.not_not, kt_0] at q
      have q1 := b33; have q2 := kc_0; omega
    · have f36 : x28.toInt ≠ 0 := by
        have q : _ := c34
        simp only [ti_nle, ti_nlt, ti_le, ti_lt, ti_eq, ti_ne, Classical.not_not, kt_0] at q
        omega
      have b37 : IV a1 0 7 := ⟨by have q1 := (iv_any a1); omega, by have q1 := (iv_any a1); omega⟩
      refine m_iload_n C dX12_row_7 rfl rfl ?_
      refine m_i2l C dX12_row_8 ?_
      refine m_lconst (v := 0) C dX12_row_9 (by decide) ?_
      refine m_ldc2 (v := 2) C dX12_row_10 q4_191 ?_
      refine m_callS (n := 3) (st := []) C (c_X12_in l G τ25 ((a2 : Int32).toInt64) (0) (2) i26 ) q4_190 q4_188 q4_189 q1_7 (by decide +kernel) rfl (by decide) (by decide) rfl (Nat.le_of_ble_eq_true rfl) dX12_row_13 ?_
      rintro _ τ38 ⟨x41, rfl, i39, f40, b42, h44⟩
      have g43 : Fr MS_X12_rowQ AS_X12_rowQ σ τ38 := Fr.call (g30) f40 (by decide)
      have q45 : (gV τ38 22 0 8).toInt = (gV σ 22 0 8).toInt := congrArg Int32.toInt (show (gV τ38 22 0 8) = (gV σ 22 0 8) from (show gV τ38 22 0 8 = (gV σ 22 0 8) from (f40.1 22 0 (8) (by decide) (by decide)).trans (show gV τ25 22 0 8 = (gV σ 22 0 8) from (f27.1 22 0 (8) (by decide) (by decide)).trans rfl)))
      have f46 := tl_i a2
      have f47 := kl_0
      have f48 := kl_2
      rcases h44 with ⟨h44_0, h44_1, h44_2⟩ | ⟨h44_0, h44_1⟩
      · skip
        have b49 : IV x41 1 1 := ⟨by omega, by omega⟩
        show MW p l e _ s m args below meth c _ 5 G 0 0 16 [some (.ref (G.1 22 0)), some (.int a1), some (.int a2), some (.int a3), none] [.int x41] τ38
        refine m_if_eq (tgt := 25) C dX12_row_16 (by decide) (fun c50 => ?_) (fun c50 => ?_)
        · exfalso
          have q : _ := c50
          simp only [ti_nle, ti_nlt, ti_le, ti_lt, ti_eq, ti_ne, Classical.not_not, kt_0] at q
          have q1 := b49; have q2 := kc_0; omega
        · have f52 : x41.toInt ≠ 0 := by
            have q : _ := c50
            simp only [ti_nle, ti_nlt, ti_le, ti_lt, ti_eq, ti_ne, Classical.not_not, kt_0] at q
            omega
          have b53 : IV a2 0 2 := ⟨by have q1 := (iv_any a2); omega, by have q1 := (iv_any a2); omega⟩
          refine m_iload_n C dX12_row_19 rfl rfl ?_
          refine m_bipush (v := 40) C dX12_row_20 (by decide) ?_
          refine m_icmp_le (tgt := 28) C dX12_row_22 (by decide) (fun c54 => ?_) (fun c54 => ?_)
          · have f55 : a3.toInt ≤ 40 := by
              have q : _ := c54
              simp only [ti_nle, ti_nlt, ti_le, ti_lt, ti_eq, ti_ne, Classical.not_not, kt_40] at q
              omega
            have b56 : IV a3 (-2147483648) 40 := ⟨by have q1 := (iv_any a3); have q2 := kc_40; omega, by have q1 := (iv_any a3); have q2 := kc_40; omega⟩
            refine m_iload_n C dX12_row_28 rfl rfl ?_
            refine m_if_ge (tgt := 38) C dX12_row_29 (by decide) (fun c57 => ?_) (fun c57 => ?_)
            · have f58 : 0 ≤ a3.toInt := by
                have q : _ := c57
                simp only [ti_nle, ti_nlt, ti_le, ti_lt, ti_eq, ti_ne, Classical.not_not, kt_0] at q
                omega
              have b59 : IV a3 0 40 := ⟨by have q1 := kc_0; have q2 := b56; omega, by have q1 := kc_0; have q2 := b56; omega⟩
              refine m_aload_n C dX12_row_38 rfl rfl ?_
              refine g_22_3 C q4_119 dX12_row_39 ?_
              refine m_iload_n C dX12_row_42 rfl rfl ?_
              refine m_iload_n C dX12_row_43 rfl rfl ?_
              refine as_26 C b37 (by decide) rfl dX12_row_44 ?_
              refine m_tops (fun τ60 eτ60 => ?_)
              have i61 : Inv τ60 := eτ60 ▸ Inv.putF i39 (by decide) rfl
              have f62 : Fr MS_X12_rowQ AS_X12_rowQ σ τ60 := eτ60 ▸ Fr.put (g43) (Or.inr (by decide))
              refine m_aload_n C dX12_row_45 rfl rfl ?_
              refine g_22_4 C q4_120 dX12_row_46 ?_
              refine m_iload_n C dX12_row_49 rfl rfl ?_
              refine m_iload_n C dX12_row_50 rfl rfl ?_
              refine as_27 C b37 (by decide) rfl dX12_row_51 ?_
              refine m_tops (fun τ63 eτ63 => ?_)
              have i64 : Inv τ63 := eτ63 ▸ Inv.put i61 (by decide) b59
              have f65 : Fr MS_X12_rowQ AS_X12_rowQ σ τ63 := eτ63 ▸ Fr.put (f62) (Or.inr (by decide))
              refine m_iconst (v := 0) C dX12_row_52 (by decide) ?_
              refine m_istore (L1 := [some (.ref (G.1 22 0)), some (.int a1), some (.int a2), some (.int a3), some (.int 0)]) C dX12_row_53 (by decide) rfl rfl ?_
              refine m_sub (L1 := [some (.ref (G.1 22 0)), some (.int a1), none, some (.int a3), some (.int 0)]) ⟨rfl, ⟨rfl, ⟨rfl, ⟨rfl, trivial⟩⟩⟩⟩ ?_
              have q66 : (gV τ63 22 0 8).toInt = (gV σ 22 0 8).toInt := congrArg Int32.toInt (show (gV τ63 22 0 8) = (gV σ 22 0 8) from (show gV τ63 22 0 8 = (gV σ 22 0 8) from gV_put eτ63 (show gV τ60 22 0 8 = (gV σ 22 0 8) from gV_put eτ60 (show gV τ38 22 0 8 = (gV σ 22 0 8) from (f40.1 22 0 (8) (by decide) (by decide)).trans (show gV τ25 22 0 8 = (gV σ 22 0 8) from (f27.1 22 0 (8) (by decide) (by decide)).trans rfl)))))
              exact J55 ((40 - (0 : Int32).toInt).toNat + 1) τ63 0 i64 f65 b37 b53 b59 (iv_wk kc_0 (by decide)) (by omega) (LU.mk ((SameL.rf.fr f27 (by simp) (by decide)).fr f40 (by simp) (by decide)) eτ60 eτ63) (by omega) (JZ.start (fun k => (gV_putn eτ63 (Or.inl (by decide))).trans ((fun k => (gV_putn eτ60 (Or.inl (by decide))).trans ((fun k => (f40.1 25 0 k (by simp) (by decide)).trans ((fun k => (f27.1 25 0 k (by simp) (by decide)).trans ((fun _ => rfl) k)) k)) k)) k)) kn_0) (Nat.lt_succ_self _)
            · have f67 : a3.toInt < 0 := by
                have q : _ := c57
                simp only [ti_nle, ti_nlt, ti_le, ti_lt, ti_eq, ti_ne, Classical.not_not, kt_0] at q
                omega
              have b68 : IV a3 (-2147483648) (-1) := ⟨by have q1 := b56; have q2 := kc_0; omega, by have q1 := b56; have q2 := kc_0; omega⟩
              refine m_aload_n C dX12_row_32 rfl rfl ?_
              refine m_iconst (v := 4) C dX12_row_33 (by decide) ?_
              have q69 := kt_4
              refine m_callV (n := 1) (ci := 11) (st := []) C (c_X12_metQ l G τ38 (4) i39 (iv_wk kc_4 (by decide))) (by decide) (by decide) rfl rfl rfl q4_196 q4_193 q4_195 q0_26 q1_7 (by decide +kernel) rfl (by decide) (by decide) rfl (Nat.le_of_ble_eq_true rfl) dX12_row_34 ?_
              rintro _ τ70 ⟨x73, rfl, i71, f72, b74, h76⟩
              have g75 : Fr MS_X12_rowQ AS_X12_rowQ σ τ70 := Fr.call (g43) f72 (by decide)
              have q77 := kt_4
              show MW p l e _ s m args below meth c _ 5 G 0 0 37 [some (.ref (G.1 22 0)), some (.int a1), some (.int a2), some (.int a3), none] [.int x73] τ70
              exact m_iret C hr hlk (by decide) (by decide) dX12_row_37 ⟨_, rfl, i71, g75, (iv_wk b74 (by decide)), ⟨(Or.inr (Or.inl ⟨by omega, by omega, (((SameL.rf.fr f27 (by simp) (by decide)).fr f40 (by simp) (by decide)).fr f72 (by simp) (by decide))⟩)), (by omega), ⟨fun h => absurd h (by omega), fun _ => (fun k => (f72.1 25 0 k (by simp) (by decide)).trans ((fun k => (f40.1 25 0 k (by simp) (by decide)).trans ((fun k => (f27.1 25 0 k (by simp) (by decide)).trans ((fun _ => rfl) k)) k)) k))⟩⟩⟩
          · have f78 : 40 < a3.toInt := by
              have q : _ := c54
              simp only [ti_nle, ti_nlt, ti_le, ti_lt, ti_eq, ti_ne, Classical.not_not, kt_40] at q
              omega
            have b79 : IV a3 41 2147483647 := ⟨by have q1 := kc_40; have q2 := (iv_any a3); omega, by have q1 := kc_40; have q2 := (iv_any a3); omega⟩
            refine m_ldc (v := (-1000001)) C dX12_row_25 q4_192 ?_
            exact m_iret C hr hlk (by decide) (by decide) dX12_row_27 ⟨_, rfl, i39, g43, (iv_wk kc_m1000001 (by decide)), ⟨(Or.inl ⟨by omega, (by have q := kt_m1000001; omega), ((SameL.rf.fr f27 (by simp) (by decide)).fr f40 (by simp) (by decide))⟩), (by have qk := kt_m1000001; omega), ⟨fun h => absurd h (by omega), fun _ => (fun k => (f40.1 25 0 k (by simp) (by decide)).trans ((fun k => (f27.1 25 0 k (by simp) (by decide)).trans ((fun _ => rfl) k)) k))⟩⟩⟩
      · skip
        have b80 : IV x41 0 0 := ⟨by omega, by omega⟩
        show MW p l e _ s m args below meth c _ 5 G 0 0 16 [some (.ref (G.1 22 0)), some (.int a1), some (.int a2), some (.int a3), none] [.int x41] τ38
        refine m_if_eq (tgt := 25) C dX12_row_16 (by decide) (fun c81 => ?_) (fun c81 => ?_)
        · have f82 : x41.toInt = 0 := by
            have q : _ := c81
            simp only [ti_nle, ti_nlt, ti_le, ti_lt, ti_eq, ti_ne, Classical.not_not, kt_0] at q
            omega
          refine m_ldc (v := (-1000001)) C dX12_row_25 q4_192 ?_
          exact m_iret C hr hlk (by decide) (by decide) dX12_row_27 ⟨_, rfl, i39, g43, (iv_wk kc_m1000001 (by decide)), ⟨(Or.inl ⟨by omega, (by have q := kt_m1000001; omega), ((SameL.rf.fr f27 (by simp) (by decide)).fr f40 (by simp) (by decide))⟩), (by have qk := kt_m1000001; omega), ⟨fun h => absurd h (by omega), fun _ => (fun k => (f40.1 25 0 k (by simp) (by decide)).trans ((fun k => (f27.1 25 0 k (by simp) (by decide)).trans ((fun _ => rfl) k)) k))⟩⟩⟩
        · exfalso
          have q : _ := c81
          simp only [ti_nle, ti_nlt, ti_le, ti_lt, ti_eq, ti_ne, Classical.not_not, kt_0] at q
          have q1 := b80; have q2 := kc_0; omega
  · skip
    have b84 : IV x28 0 0 := ⟨by omega, by omega⟩
    show MW p l e _ s m args below meth c _ 5 G 0 0 4 [some (.ref (G.1 22 0)), some (.int a1), some (.int a2), some (.int a3), none] [.int x28] τ25
    refine m_if_eq (tgt := 25) C dX12_row_4 (by decide) (fun c85 => ?_) (fun c85 => ?_)
    · have f86 : x28.toInt = 0 := by
        have q : _ := c85
        simp only [ti_nle, ti_nlt, ti_le, ti_lt, ti_eq, ti_ne, Classical.not_not, kt_0] at q
        omega
      refine m_ldc (v := (-1000001)) C dX12_row_25 q4_192 ?_
      exact m_iret C hr hlk (by decide) (by decide) dX12_row_27 ⟨_, rfl, i26, g30, (iv_wk kc_m1000001 (by decide)), ⟨(Or.inl ⟨by omega, (by have q := kt_m1000001; omega), (SameL.rf.fr f27 (by simp) (by decide))⟩), (by have qk := kt_m1000001; omega), ⟨fun h => absurd h (by omega), fun _ => (fun k => (f27.1 25 0 k (by simp) (by decide)).trans ((fun _ => rfl) k))⟩⟩⟩
    · exfalso
      have q : _ := c85
      simp only [ti_nle, ti_nlt, ti_le, ti_lt, ti_eq, ti_ne, Classical.not_not, kt_0] at q
      have q1 := b84; have q2 := kc_0; omega

abbrev MS_X11_setQ : List (Nat × Nat) := [(0, 12)]
abbrev AS_X11_setQ : List Nat := [21]
set_option maxHeartbeats 4000000 in
set_option maxRecDepth 100000 in
theorem c_X11_setQ (l : Launch) (G : Gt) (σ : Sg) (a1 : Int32) (a2 : Int32) (a3 : Int32) (hI : Inv σ) : Mc l G yX11_set cX11_set 5 (some .int) 1 21 0 0 [.ref (G.1 0 0), .int a1, .int a2, .int a3] σ (PI fun r τ => Inv τ ∧ Fr MS_X11_setQ AS_X11_setQ σ τ ∧ IV r (-2147483648) 2147483647 ∧ ((((a1.toInt < 0 ∨ 7 < a1.toInt) ∧ r.toInt = -1000001) ∨ ((0 ≤ a1.toInt ∧ a1.toInt ≤ 7) ∧ (gV σ 20 (a1.toInt.toNat) 1).toInt = -1 ∧ r.toInt = -1000011) ∨ ((0 ≤ a1.toInt ∧ a1.toInt ≤ 7) ∧ ¬ ((gV σ 20 (a1.toInt.toNat) 1).toInt = -1) ∧ (a2.toInt < 0 ∨ (gV σ 20 (a1.toInt.toNat) 2).toInt ≤ a2.toInt) ∧ r.toInt = -1000012) ∨ ((0 ≤ a1.toInt ∧ a1.toInt ≤ 7) ∧ ¬ ((gV σ 20 (a1.toInt.toNat) 1).toInt = -1) ∧ 0 ≤ a2.toInt ∧ a2.toInt < (gV σ 20 (a1.toInt.toNat) 2).toInt ∧ r.toInt = (cutF (gV σ 20 (a1.toInt.toNat) 1) a3).toInt)) ∧ (((a1.toInt < 0 ∨ 7 < a1.toInt) → (gV τ 0 0 12).toInt = (gV σ 0 0 12).toInt) ∧ (((0 ≤ a1.toInt ∧ a1.toInt ≤ 7) ∧ (gV σ 20 (a1.toInt.toNat) 1).toInt = -1) → (gV τ 0 0 12).toInt = 1) ∧ (((0 ≤ a1.toInt ∧ a1.toInt ≤ 7) ∧ ¬ ((gV σ 20 (a1.toInt.toNat) 1).toInt = -1) ∧ (a2.toInt < 0 ∨ (gV σ 20 (a1.toInt.toNat) 2).toInt ≤ a2.toInt)) → (gV τ 0 0 12).toInt = 2) ∧ (((0 ≤ a1.toInt ∧ a1.toInt ≤ 7) ∧ ¬ ((gV σ 20 (a1.toInt.toNat) 1).toInt = -1) ∧ 0 ≤ a2.toInt ∧ a2.toInt < (gV σ 20 (a1.toInt.toNat) 2).toInt) → (gV τ 0 0 12).toInt = 0)) ∧ ((((0 ≤ a1.toInt ∧ a1.toInt ≤ 7) ∧ ¬ ((gV σ 20 (a1.toInt.toNat) 1).toInt = -1) ∧ 0 ≤ a2.toInt ∧ a2.toInt < (gV σ 20 (a1.toInt.toNat) 2).toInt) → ∃ v : Int32, v.toInt = r.toInt ∧ I1 σ τ (a1.toInt.toNat) (a2.toInt.toNat) v) ∧ (¬ ((0 ≤ a1.toInt ∧ a1.toInt ≤ 7) ∧ ¬ ((gV σ 20 (a1.toInt.toNat) 1).toInt = -1) ∧ 0 ≤ a2.toInt ∧ a2.toInt < (gV σ 20 (a1.toInt.toNat) 2).toInt) → SameI σ τ)))) := by
  refine Mc.of (L0 := [some (.ref (G.1 0 0)), some (.int a1), some (.int a2), some (.int a3), none]) (by decide) (Nat.le_of_ble_eq_true rfl) rfl ?_
  intro p e s m args below meth c C hr hlk
  have C : Cx p s m args c cX11_set 5 "LeanTower" := C
  have k0 : (0 : Int32).toInt = 0 := by decide
  have k1 : (1 : Int32).toInt = 1 := by decide
  have u1 : IV (gV σ 20 (a1.toInt.toNat) 2) 0 40 := hI.1 20 (a1.toInt.toNat) 2
  refine m_aload_n C dX11_set_0 rfl rfl ?_
  refine m_iload_n C dX11_set_1 rfl rfl ?_
  refine m_callV (n := 1) (ci := 10) (st := []) C (c_X11_rowAt l G σ (a1) hI ) (by decide) (by decide) rfl rfl rfl q1_233 q1_230 q1_232 q0_0 q1_1 (by decide +kernel) rfl (by decide) (by decide) rfl (Nat.le_of_ble_eq_true rfl) dX11_set_2 ?_
  rintro _ τ2 ⟨x5, rfl, i3, f4, h8⟩
  have g7 : Fr MS_X11_setQ AS_X11_setQ σ τ2 := Fr.call (Fr.rf) f4 (by decide)
  have q9 : (gV τ2 0 0 12).toInt = (gV σ 0 0 12).toInt := congrArg Int32.toInt (show (gV τ2 0 0 12) = (gV σ 0 0 12) from (show gV τ2 0 0 12 = (gV σ 0 0 12) from (f4.1 0 0 (12) (by decide) (by decide)).trans rfl))
  have q10 : (gV τ2 20 (a1.toInt.toNat) 1).toInt = (gV σ 20 (a1.toInt.toNat) 1).toInt := congrArg Int32.toInt (show (gV τ2 20 (a1.toInt.toNat) 1) = (gV σ 20 (a1.toInt.toNat) 1) from (show gV τ2 20 (a1.toInt.toNat) 1 = (gV σ 20 (a1.toInt.toNat) 1) from (f4.1 20 (a1.toInt.toNat) (1) (by decide) (by decide)).trans rfl))
  have q11 : (gV τ2 20 (a1.toInt.toNat) 2).toInt = (gV σ 20 (a1.toInt.toNat) 2).toInt := congrArg Int32.toInt (show (gV τ2 20 (a1.toInt.toNat) 2) = (gV σ 20 (a1.toInt.toNat) 2) from (show gV τ2 20 (a1.toInt.toNat) 2 = (gV σ 20 (a1.toInt.toNat) 2) from (f4.1 20 (a1.toInt.toNat) (2) (by decide) (by decide)).trans rfl))
  rcases h8 with ⟨rfl, x5q⟩ | ⟨rfl, x5q⟩
  · skip
    show MW p l e _ s m args below meth c _ 5 G 0 0 5 [some (.ref (G.1 0 0)), some (.int a1), some (.int a2), some (.int a3), none] [.null] τ2
    refine m_astoreN (L1 := [some (.ref (G.1 0 0)), some (.int a1), some (.int a2), some (.int a3), some (.null)]) C dX11_set_5 (by decide) rfl rfl ?_
    refine m_aloadN C dX11_set_7 rfl ?_
    refine m_ifnonnullN C dX11_set_9 ?_
    refine m_ldc (v := (-1000001)) C dX11_set_12 q1_234 ?_
    exact m_iret C hr hlk (by decide) (by decide) dX11_set_14 ⟨_, rfl, i3, g7, (iv_wk kc_m1000001 (by decide)), ⟨(Or.inl ⟨by have q := kt_m1000001; omega, by have q := kt_m1000001; omega⟩), (by have qk := kt_m1000001; omega), ⟨fun h => absurd h (by omega), fun _ => (fun j i => (f4.1 21 j i (by simp) (by decide)).trans ((fun _ _ => rfl) j i))⟩⟩⟩
  · have b12 : IV a1 0 7 := ⟨by have q1 := (iv_any a1); omega, by have q1 := (iv_any a1); omega⟩
    show MW p l e _ s m args below meth c _ 5 G 0 0 5 [some (.ref (G.1 0 0)), some (.int a1), some (.int a2), some (.int a3), none] [.ref (G.1 20 (a1.toInt.toNat))] τ2
    refine m_astore (L1 := [some (.ref (G.1 0 0)), some (.int a1), some (.int a2), some (.int a3), some (.ref (G.1 20 (a1.toInt.toNat)))]) C dX11_set_5 (by decide) rfl rfl ?_
    refine m_aload C dX11_set_7 rfl ?_
    refine m_ifnonnull (tgt := 15) C dX11_set_9 (by decide) ?_
    refine m_aload C dX11_set_15 rfl ?_
    refine m_callV (n := 0) (ci := 6) (st := []) C (c_X7_isMissingE l G τ2 (j := (a1.toInt.toNat)) (iv_nat b12 (by decide))  i3 ) (by decide) (iv_nat b12 (by decide)) rfl rfl rfl q2_15 q2_12 q2_13 q2_14 q1_6 (by decide +kernel) rfl (by decide) (by decide) rfl (Nat.le_of_ble_eq_true rfl) dX11_set_17 ?_
    rintro _ τ13 ⟨x16, rfl, i14, f15, b17, h19⟩
    have g18 : Fr MS_X11_setQ AS_X11_setQ σ τ13 := Fr.call (g7) f15 (by decide)
    have q20 : (gV τ13 0 0 12).toInt = (gV σ 0 0 12).toInt := congrArg Int32.toInt (show (gV τ13 0 0 12) = (gV σ 0 0 12) from (show gV τ13 0 0 12 = (gV σ 0 0 12) from (f15.1 0 0 (12) (by decide) (by decide)).trans (show gV τ2 0 0 12 = (gV σ 0 0 12) from (f4.1 0 0 (12) (by decide) (by decide)).trans rfl)))
    have q21 : (gV τ13 20 (a1.toInt.toNat) 1).toInt = (gV σ 20 (a1.toInt.toNat) 1).toInt := congrArg Int32.toInt (show (gV τ13 20 (a1.toInt.toNat) 1) = (gV σ 20 (a1.toInt.toNat) 1) from (show gV τ13 20 (a1.toInt.toNat) 1 = (gV σ 20 (a1.toInt.toNat) 1) from (f15.1 20 (a1.toInt.toNat) (1) (by decide) (by decide)).trans (show gV τ2 20 (a1.toInt.toNat) 1 = (gV σ 20 (a1.toInt.toNat) 1) from (f4.1 20 (a1.toInt.toNat) (1) (by decide) (by decide)).trans rfl)))
    have q22 : (gV τ13 20 (a1.toInt.toNat) 2).toInt = (gV σ 20 (a1.toInt.toNat) 2).toInt := congrArg Int32.toInt (show (gV τ13 20 (a1.toInt.toNat) 2) = (gV σ 20 (a1.toInt.toNat) 2) from (show gV τ13 20 (a1.toInt.toNat) 2 = (gV σ 20 (a1.toInt.toNat) 2) from (f15.1 20 (a1.toInt.toNat) (2) (by decide) (by decide)).trans (show gV τ2 20 (a1.toInt.toNat) 2 = (gV σ 20 (a1.toInt.toNat) 2) from (f4.1 20 (a1.toInt.toNat) (2) (by decide) (by decide)).trans rfl)))
    rcases h19 with ⟨h19_0, h19_1⟩ | ⟨h19_0, h19_1⟩
    · skip
      have b23 : IV x16 1 1 := ⟨by omega, by omega⟩
      show MW p l e _ s m args below meth c _ 5 G 0 0 20 [some (.ref (G.1 0 0)), some (.int a1), some (.int a2), some (.int a3), some (.ref (G.1 20 (a1.toInt.toNat)))] [.int x16] τ13
      refine m_if_eq (tgt := 29) C dX11_set_20 (by decide) (fun c24 => ?_) (fun c24 => ?_)
      · exfalso
        have q : _ := c24
        simp only [ti_nle, ti_nlt, ti_le, ti_lt, ti_eq, ti_ne, Classical.not_not, kt_0] at q
        have q1 := b23; have q2 := kc_0; omega
      · have f26 : x16.toInt ≠ 0 := by
          have q : _ := c24
          simp only [ti_nle, ti_nlt, ti_le, ti_lt, ti_eq, ti_ne, Classical.not_not, kt_0] at q
          omega
        refine m_aload_n C dX11_set_23 rfl rfl ?_
        refine m_iconst (v := 1) C dX11_set_24 (by decide) ?_
        have q27 := kt_1
        refine m_callV (n := 1) (ci := 10) (st := []) C (c_X11_foundQ l G τ13 (1) i14 (iv_wk kc_1 (by decide))) (by decide) (by decide) rfl rfl rfl q1_238 q1_235 q1_237 q0_1 q1_1 (by decide +kernel) rfl (by decide) (by decide) rfl (Nat.le_of_ble_eq_true rfl) dX11_set_25 ?_
        rintro _ τ28 ⟨x31, rfl, i29, f30, b32, h34⟩
        have g33 : Fr MS_X11_setQ AS_X11_setQ σ τ28 := Fr.call (g18) f30 (by decide)
        have q35 : (gV τ28 20 (a1.toInt.toNat) 1).toInt = (gV σ 20 (a1.toInt.toNat) 1).toInt := congrArg Int32.toInt (show (gV τ28 20 (a1.toInt.toNat) 1) = (gV σ 20 (a1.toInt.toNat) 1) from (show gV τ28 20 (a1.toInt.toNat) 1 = (gV σ 20 (a1.toInt.toNat) 1) from (f30.1 20 (a1.toInt.toNat) (1) (by decide) (by decide)).trans (show gV τ13 20 (a1.toInt.toNat) 1 = (gV σ 20 (a1.toInt.toNat) 1) from (f15.1 20 (a1.toInt.toNat) (1) (by decide) (by decide)).trans (show gV τ2 20 (a1.toInt.toNat) 1 = (gV σ 20 (a1.toInt.toNat) 1) from (f4.1 20 (a1.toInt.toNat) (1) (by decide) (by decide)).trans rfl))))
        have q36 : (gV τ28 20 (a1.toInt.toNat) 2).toInt = (gV σ 20 (a1.toInt.toNat) 2).toInt := congrArg Int32.toInt (show (gV τ28 20 (a1.toInt.toNat) 2) = (gV σ 20 (a1.toInt.toNat) 2) from (show gV τ28 20 (a1.toInt.toNat) 2 = (gV σ 20 (a1.toInt.toNat) 2) from (f30.1 20 (a1.toInt.toNat) (2) (by decide) (by decide)).trans (show gV τ13 20 (a1.toInt.toNat) 2 = (gV σ 20 (a1.toInt.toNat) 2) from (f15.1 20 (a1.toInt.toNat) (2) (by decide) (by decide)).trans (show gV τ2 20 (a1.toInt.toNat) 2 = (gV σ 20 (a1.toInt.toNat) 2) from (f4.1 20 (a1.toInt.toNat) (2) (by decide) (by decide)).trans rfl))))
        have q37 := kt_1
        show MW p l e _ s m args below meth c _ 5 G 0 0 28 [some (.ref (G.1 0 0)), some (.int a1), some (.int a2), some (.int a3), some (.ref (G.1 20 (a1.toInt.toNat)))] [.int x31] τ28
        exact m_iret C hr hlk (by decide) (by decide) dX11_set_28 ⟨_, rfl, i29, g33, (iv_wk b32 (by decide)), ⟨(Or.inr (Or.inl ⟨by omega, by omega, by omega⟩)), (by omega), ⟨fun h => absurd h (by omega), fun _ => (fun j i => (f30.1 21 j i (by simp) (by decide)).trans ((fun j i => (f15.1 21 j i (by simp) (by decide)).trans ((fun j i => (f4.1 21 j i (by simp) (by decide)).trans ((fun _ _ => rfl) j i)) j i)) j i))⟩⟩⟩
    · skip
      have b38 : IV x16 0 0 := ⟨by omega, by omega⟩
      show MW p l e _ s m args below meth c _ 5 G 0 0 20 [some (.ref (G.1 0 0)), some (.int a1), some (.int a2), some (.int a3), some (.ref (G.1 20 (a1.toInt.toNat)))] [.int x16] τ13
      refine m_if_eq (tgt := 29) C dX11_set_20 (by decide) (fun c39 => ?_) (fun c39 => ?_)
      · have f40 : x16.toInt = 0 := by
          have q : _ := c39
          simp only [ti_nle, ti_nlt, ti_le, ti_lt, ti_eq, ti_ne, Classical.not_not, kt_0] at q
          omega
        refine m_iload_n C dX11_set_29 rfl rfl ?_
        refine m_if_lt (tgt := 42) C dX11_set_30 (by decide) (fun c41 => ?_) (fun c41 => ?_)
        · have f42 : a2.toInt < 0 := by
            have q : _ := c41
            simp only [ti_nle, ti_nlt, ti_le, ti_lt, ti_eq, ti_ne, Classical.not_not, kt_0] at q
            omega
          have b43 : IV a2 (-2147483648) (-1) := ⟨by have q1 := (iv_any a2); have q2 := kc_0; omega, by have q1 := (iv_any a2); have q2 := kc_0; omega⟩
          refine m_aload_n C dX11_set_42 rfl rfl ?_
          refine m_iconst (v := 2) C dX11_set_43 (by decide) ?_
          have q44 := kt_2
          refine m_callV (n := 1) (ci := 10) (st := []) C (c_X11_foundQ l G τ13 (2) i14 (iv_wk kc_2 (by decide))) (by decide) (by decide) rfl rfl rfl q1_238 q1_235 q1_237 q0_1 q1_1 (by decide +kernel) rfl (by decide) (by decide) rfl (Nat.le_of_ble_eq_true rfl) dX11_set_44 ?_
          rintro _ τ45 ⟨x48, rfl, i46, f47, b49, h51⟩
          have g50 : Fr MS_X11_setQ AS_X11_setQ σ τ45 := Fr.call (g18) f47 (by decide)
          have q52 : (gV τ45 20 (a1.toInt.toNat) 1).toInt = (gV σ 20 (a1.toInt.toNat) 1).toInt := congrArg Int32.toInt (show (gV τ45 20 (a1.toInt.toNat) 1) = (gV σ 20 (a1.toInt.toNat) 1) from (show gV τ45 20 (a1.toInt.toNat) 1 = (gV σ 20 (a1.toInt.toNat) 1) from (f47.1 20 (a1.toInt.toNat) (1) (by decide) (by decide)).trans (show gV τ13 20 (a1.toInt.toNat) 1 = (gV σ 20 (a1.toInt.toNat) 1) from (f15.1 20 (a1.toInt.toNat) (1) (by decide) (by decide)).trans (show gV τ2 20 (a1.toInt.toNat) 1 = (gV σ 20 (a1.toInt.toNat) 1) from (f4.1 20 (a1.toInt.toNat) (1) (by decide) (by decide)).trans rfl))))
          have q53 : (gV τ45 20 (a1.toInt.toNat) 2).toInt = (gV σ 20 (a1.toInt.toNat) 2).toInt := congrArg Int32.toInt (show (gV τ45 20 (a1.toInt.toNat) 2) = (gV σ 20 (a1.toInt.toNat) 2) from (show gV τ45 20 (a1.toInt.toNat) 2 = (gV σ 20 (a1.toInt.toNat) 2) from (f47.1 20 (a1.toInt.toNat) (2) (by decide) (by decide)).trans (show gV τ13 20 (a1.toInt.toNat) 2 = (gV σ 20 (a1.toInt.toNat) 2) from (f15.1 20 (a1.toInt.toNat) (2) (by decide) (by decide)).trans (show gV τ2 20 (a1.toInt.toNat) 2 = (gV σ 20 (a1.toInt.toNat) 2) from (f4.1 20 (a1.toInt.toNat) (2) (by decide) (by decide)).trans rfl))))
          have q54 := kt_2
          show MW p l e _ s m args below meth c _ 5 G 0 0 47 [some (.ref (G.1 0 0)), some (.int a1), some (.int a2), some (.int a3), some (.ref (G.1 20 (a1.toInt.toNat)))] [.int x48] τ45
          exact m_iret C hr hlk (by decide) (by decide) dX11_set_47 ⟨_, rfl, i46, g50, (iv_wk b49 (by decide)), ⟨(Or.inr (Or.inr (Or.inl ⟨by omega, by omega, by omega, by omega⟩))), (by omega), ⟨fun h => absurd h (by omega), fun _ => (fun j i => (f47.1 21 j i (by simp) (by decide)).trans ((fun j i => (f15.1 21 j i (by simp) (by decide)).trans ((fun j i => (f4.1 21 j i (by simp) (by decide)).trans ((fun _ _ => rfl) j i)) j i)) j i))⟩⟩⟩
        · have f55 : 0 ≤ a2.toInt := by
            have q : _ := c41
            simp only [ti_nle, ti_nlt, ti_le, ti_lt, ti_eq, ti_ne, Classical.not_not, kt_0] at q
            omega
          have b56 : IV a2 0 2147483647 := ⟨by have q1 := kc_0; have q2 := (iv_any a2); omega, by have q1 := kc_0; have q2 := (iv_any a2); omega⟩
          refine m_iload_n C dX11_set_33 rfl rfl ?_
          refine m_aload C dX11_set_34 rfl ?_
          refine g_20_2 C (iv_nat b12 (by decide)) q1_177 dX11_set_36 ?_
          refine m_eqs (w := (gV σ 20 (a1.toInt.toNat) 2)) (show gV τ13 20 (a1.toInt.toNat) 2 = (gV σ 20 (a1.toInt.toNat) 2) from (f15.1 20 (a1.toInt.toNat) (2) (by decide) (by decide)).trans (show gV τ2 20 (a1.toInt.toNat) 2 = (gV σ 20 (a1.toInt.toNat) 2) from (f4.1 20 (a1.toInt.toNat) (2) (by decide) (by decide)).trans rfl)) ?_
          refine m_icmp_lt (tgt := 48) C dX11_set_39 (by decide) (fun c57 => ?_) (fun c57 => ?_)
          · have f58 : a2.toInt < (gV σ 20 (a1.toInt.toNat) 2).toInt := by
              have q : _ := c57
              simp only [ti_nle, ti_nlt, ti_le, ti_lt, ti_eq, ti_ne, Classical.not_not] at q
              omega
            have b59 : IV a2 0 39 := ⟨by have q1 := b56; have q2 := u1; omega, by have q1 := b56; have q2 := u1; omega⟩
            have b60 : IV (gV σ 20 (a1.toInt.toNat) 2) 1 40 := ⟨by have q1 := b56; have q2 := u1; omega, by have q1 := b56; have q2 := u1; omega⟩
            refine m_aload C dX11_set_48 rfl ?_
            refine g_20_0 C (iv_nat b12 (by decide)) q1_173 dX11_set_50 ?_
            refine m_iload_n C dX11_set_53 rfl rfl ?_
            refine m_aload C dX11_set_54 rfl ?_
            refine m_iload_n C dX11_set_56 rfl rfl ?_
            refine m_callV (n := 1) (ci := 6) (st := [.int a2, .ref (G.1 21 (a1.toInt.toNat))]) C (c_X7_narrowedE l G τ13 (j := (a1.toInt.toNat)) (iv_nat b12 (by decide)) (a3) i14 ) (by decide) (iv_nat b12 (by decide)) rfl rfl rfl q2_19 q2_16 q2_17 q2_18 q1_6 (by decide +kernel) rfl (by decide) (by decide) rfl (Nat.le_of_ble_eq_true rfl) dX11_set_57 ?_
            rintro _ τ61 ⟨x64, rfl, i62, f63, b65, h67⟩
            have g66 : Fr MS_X11_setQ AS_X11_setQ σ τ61 := Fr.call (g18) f63 (by decide)
            have q68 : (gV τ61 0 0 12).toInt = (gV σ 0 0 12).toInt := congrArg Int32.toInt (show (gV τ61 0 0 12) = (gV σ 0 0 12) from (show gV τ61 0 0 12 = (gV σ 0 0 12) from (f63.1 0 0 (12) (by decide) (by decide)).trans (show gV τ13 0 0 12 = (gV σ 0 0 12) from (f15.1 0 0 (12) (by decide) (by decide)).trans (show gV τ2 0 0 12 = (gV σ 0 0 12) from (f4.1 0 0 (12) (by decide) (by decide)).trans rfl))))
            have q69 : (gV τ61 20 (a1.toInt.toNat) 1).toInt = (gV σ 20 (a1.toInt.toNat) 1).toInt := congrArg Int32.toInt (show (gV τ61 20 (a1.toInt.toNat) 1) = (gV σ 20 (a1.toInt.toNat) 1) from (show gV τ61 20 (a1.toInt.toNat) 1 = (gV σ 20 (a1.toInt.toNat) 1) from (f63.1 20 (a1.toInt.toNat) (1) (by decide) (by decide)).trans (show gV τ13 20 (a1.toInt.toNat) 1 = (gV σ 20 (a1.toInt.toNat) 1) from (f15.1 20 (a1.toInt.toNat) (1) (by decide) (by decide)).trans (show gV τ2 20 (a1.toInt.toNat) 1 = (gV σ 20 (a1.toInt.toNat) 1) from (f4.1 20 (a1.toInt.toNat) (1) (by decide) (by decide)).trans rfl))))
            have q70 : (gV τ61 20 (a1.toInt.toNat) 2).toInt = (gV σ 20 (a1.toInt.toNat) 2).toInt := congrArg Int32.toInt (show (gV τ61 20 (a1.toInt.toNat) 2) = (gV σ 20 (a1.toInt.toNat) 2) from (show gV τ61 20 (a1.toInt.toNat) 2 = (gV σ 20 (a1.toInt.toNat) 2) from (f63.1 20 (a1.toInt.toNat) (2) (by decide) (by decide)).trans (show gV τ13 20 (a1.toInt.toNat) 2 = (gV σ 20 (a1.toInt.toNat) 2) from (f15.1 20 (a1.toInt.toNat) (2) (by decide) (by decide)).trans (show gV τ2 20 (a1.toInt.toNat) 2 = (gV σ 20 (a1.toInt.toNat) 2) from (f4.1 20 (a1.toInt.toNat) (2) (by decide) (by decide)).trans rfl))))
            have q71 : x64.toInt = (cutF (gV σ 20 (a1.toInt.toNat) 1) a3).toInt := by rw [h67, show gV τ13 20 (a1.toInt.toNat) 1 = (gV σ 20 (a1.toInt.toNat) 1) from (show gV τ13 20 (a1.toInt.toNat) 1 = (gV σ 20 (a1.toInt.toNat) 1) from (f15.1 20 (a1.toInt.toNat) (1) (by decide) (by decide)).trans (show gV τ2 20 (a1.toInt.toNat) 1 = (gV σ 20 (a1.toInt.toNat) 1) from (f4.1 20 (a1.toInt.toNat) (1) (by decide) (by decide)).trans rfl))]
            show MW p l e _ s m args below meth c _ 5 G 0 0 60 [some (.ref (G.1 0 0)), some (.int a1), some (.int a2), some (.int a3), some (.ref (G.1 20 (a1.toInt.toNat)))] [.int x64, .int a2, .ref (G.1 21 (a1.toInt.toNat))] τ61
            refine as_21 C (iv_nat b12 (by decide)) b59 (by decide) rfl dX11_set_60 ?_
            refine m_tops (fun τ72 eτ72 => ?_)
            have i73 : Inv τ72 := eτ72 ▸ Inv.putF i62 (by decide) rfl
            have f74 : Fr MS_X11_setQ AS_X11_setQ σ τ72 := eτ72 ▸ Fr.put (g66) (Or.inr (by decide))
            refine m_aload_n C dX11_set_61 rfl rfl ?_
            refine m_aload C dX11_set_62 rfl ?_
            refine g_20_0 C (iv_nat b12 (by decide)) q1_173 dX11_set_64 ?_
            refine m_iload_n C dX11_set_67 rfl rfl ?_
            refine al_21 C (iv_nat b12 (by decide)) b59 (by decide) rfl dX11_set_68 ?_
            refine m_eqs (w := x64) (show gV τ72 21 (a1.toInt.toNat) (a2.toInt.toNat) = x64 from gV_put eτ72 (gV_self _ _ _ _ _)) ?_
            have q75 : (gV τ72 0 0 12).toInt = (gV σ 0 0 12).toInt := congrArg Int32.toInt (show (gV τ72 0 0 12) = (gV σ 0 0 12) from (show gV τ72 0 0 12 = (gV σ 0 0 12) from gV_put eτ72 (show gV τ61 0 0 12 = (gV σ 0 0 12) from (f63.1 0 0 (12) (by decide) (by decide)).trans (show gV τ13 0 0 12 = (gV σ 0 0 12) from (f15.1 0 0 (12) (by decide) (by decide)).trans (show gV τ2 0 0 12 = (gV σ 0 0 12) from (f4.1 0 0 (12) (by decide) (by decide)).trans rfl)))))
            have q76 : (gV τ72 20 (a1.toInt.toNat) 1).toInt = (gV σ 20 (a1.toInt.toNat) 1).toInt := congrArg Int32.toInt (show (gV τ72 20 (a1.toInt.toNat) 1) = (gV σ 20 (a1.toInt.toNat) 1) from (show gV τ72 20 (a1.toInt.toNat) 1 = (gV σ 20 (a1.toInt.toNat) 1) from gV_put eτ72 (show gV τ61 20 (a1.toInt.toNat) 1 = (gV σ 20 (a1.toInt.toNat) 1) from (f63.1 20 (a1.toInt.toNat) (1) (by decide) (by decide)).trans (show gV τ13 20 (a1.toInt.toNat) 1 = (gV σ 20 (a1.toInt.toNat) 1) from (f15.1 20 (a1.toInt.toNat) (1) (by decide) (by decide)).trans (show gV τ2 20 (a1.toInt.toNat) 1 = (gV σ 20 (a1.toInt.toNat) 1) from (f4.1 20 (a1.toInt.toNat) (1) (by decide) (by decide)).trans rfl)))))
            have q77 : (gV τ72 20 (a1.toInt.toNat) 2).toInt = (gV σ 20 (a1.toInt.toNat) 2).toInt := congrArg Int32.toInt (show (gV τ72 20 (a1.toInt.toNat) 2) = (gV σ 20 (a1.toInt.toNat) 2) from (show gV τ72 20 (a1.toInt.toNat) 2 = (gV σ 20 (a1.toInt.toNat) 2) from gV_put eτ72 (show gV τ61 20 (a1.toInt.toNat) 2 = (gV σ 20 (a1.toInt.toNat) 2) from (f63.1 20 (a1.toInt.toNat) (2) (by decide) (by decide)).trans (show gV τ13 20 (a1.toInt.toNat) 2 = (gV σ 20 (a1.toInt.toNat) 2) from (f15.1 20 (a1.toInt.toNat) (2) (by decide) (by decide)).trans (show gV τ2 20 (a1.toInt.toNat) 2 = (gV σ 20 (a1.toInt.toNat) 2) from (f4.1 20 (a1.toInt.toNat) (2) (by decide) (by decide)).trans rfl)))))
            refine m_callV (n := 1) (ci := 10) (st := []) C (c_X11_cleanQ l G τ72 (x64) i73 ) (by decide) (by decide) rfl rfl rfl q2_7 q2_4 q2_6 q0_2 q1_1 (by decide +kernel) rfl (by decide) (by decide) rfl (Nat.le_of_ble_eq_true rfl) dX11_set_69 ?_
            rintro _ τ78 ⟨x81, rfl, i79, f80, b82, h84⟩
            have g83 : Fr MS_X11_setQ AS_X11_setQ σ τ78 := Fr.call (f74) f80 (by decide)
            have q85 : (gV τ78 20 (a1.toInt.toNat) 1).toInt = (gV σ 20 (a1.toInt.toNat) 1).toInt := congrArg Int32.toInt (show (gV τ78 20 (a1.toInt.toNat) 1) = (gV σ 20 (a1.toInt.toNat) 1) from (show gV τ78 20 (a1.toInt.toNat) 1 = (gV σ 20 (a1.toInt.toNat) 1) from (f80.1 20 (a1.toInt.toNat) (1) (by decide) (by decide)).trans (show gV τ72 20 (a1.toInt.toNat) 1 = (gV σ 20 (a1.toInt.toNat) 1) from gV_put eτ72 (show gV τ61 20 (a1.toInt.toNat) 1 = (gV σ 20 (a1.toInt.toNat) 1) from (f63.1 20 (a1.toInt.toNat) (1) (by decide) (by decide)).trans (show gV τ13 20 (a1.toInt.toNat) 1 = (gV σ 20 (a1.toInt.toNat) 1) from (f15.1 20 (a1.toInt.toNat) (1) (by decide) (by decide)).trans (show gV τ2 20 (a1.toInt.toNat) 1 = (gV σ 20 (a1.toInt.toNat) 1) from (f4.1 20 (a1.toInt.toNat) (1) (by decide) (by decide)).trans rfl))))))
            have q86 : (gV τ78 20 (a1.toInt.toNat) 2).toInt = (gV σ 20 (a1.toInt.toNat) 2).toInt := congrArg Int32.toInt (show (gV τ78 20 (a1.toInt.toNat) 2) = (gV σ 20 (a1.toInt.toNat) 2) from (show gV τ78 20 (a1.toInt.toNat) 2 = (gV σ 20 (a1.toInt.toNat) 2) from (f80.1 20 (a1.toInt.toNat) (2) (by decide) (by decide)).trans (show gV τ72 20 (a1.toInt.toNat) 2 = (gV σ 20 (a1.toInt.toNat) 2) from gV_put eτ72 (show gV τ61 20 (a1.toInt.toNat) 2 = (gV σ 20 (a1.toInt.toNat) 2) from (f63.1 20 (a1.toInt.toNat) (2) (by decide) (by decide)).trans (show gV τ13 20 (a1.toInt.toNat) 2 = (gV σ 20 (a1.toInt.toNat) 2) from (f15.1 20 (a1.toInt.toNat) (2) (by decide) (by decide)).trans (show gV τ2 20 (a1.toInt.toNat) 2 = (gV σ 20 (a1.toInt.toNat) 2) from (f4.1 20 (a1.toInt.toNat) (2) (by decide) (by decide)).trans rfl))))))
            show MW p l e _ s m args below meth c _ 5 G 0 0 72 [some (.ref (G.1 0 0)), some (.int a1), some (.int a2), some (.int a3), some (.ref (G.1 20 (a1.toInt.toNat)))] [.int x81] τ78
            exact m_iret C hr hlk (by decide) (by decide) dX11_set_72 ⟨_, rfl, i79, g83, b82, ⟨(Or.inr (Or.inr (Or.inr (⟨by omega, by omega, by omega, by omega, by omega⟩)))), (by omega), ⟨fun _ => ⟨x64, by omega, I1.mk (fun j i => (f63.1 21 j i (by simp) (by decide)).trans ((fun j i => (f15.1 21 j i (by simp) (by decide)).trans ((fun j i => (f4.1 21 j i (by simp) (by decide)).trans ((fun _ _ => rfl) j i)) j i)) j i)) eτ72 (fun j i => (f80.1 21 j i (by simp) (by decide)).trans ((fun _ _ => rfl) j i))⟩, fun h => absurd (by omega) h⟩⟩⟩
          · have f87 : (gV σ 20 (a1.toInt.toNat) 2).toInt ≤ a2.toInt := by
              have q : _ := c57
              simp only [ti_nle, ti_nlt, ti_le, ti_lt, ti_eq, ti_ne, Classical.not_not] at q
              omega
            refine m_aload_n C dX11_set_42 rfl rfl ?_
            refine m_iconst (v := 2) C dX11_set_43 (by decide) ?_
            have q88 := kt_2
            refine m_callV (n := 1) (ci := 10) (st := []) C (c_X11_foundQ l G τ13 (2) i14 (iv_wk kc_2 (by decide))) (by decide) (by decide) rfl rfl rfl q1_238 q1_235 q1_237 q0_1 q1_1 (by decide +kernel) rfl (by decide) (by decide) rfl (Nat.le_of_ble_eq_true rfl) dX11_set_44 ?_
            rintro _ τ89 ⟨x92, rfl, i90, f91, b93, h95⟩
            have g94 : Fr MS_X11_setQ AS_X11_setQ σ τ89 := Fr.call (g18) f91 (by decide)
            have q96 : (gV τ89 20 (a1.toInt.toNat) 1).toInt = (gV σ 20 (a1.toInt.toNat) 1).toInt := congrArg Int32.toInt (show (gV τ89 20 (a1.toInt.toNat) 1) = (gV σ 20 (a1.toInt.toNat) 1) from (show gV τ89 20 (a1.toInt.toNat) 1 = (gV σ 20 (a1.toInt.toNat) 1) from (f91.1 20 (a1.toInt.toNat) (1) (by decide) (by decide)).trans (show gV τ13 20 (a1.toInt.toNat) 1 = (gV σ 20 (a1.toInt.toNat) 1) from (f15.1 20 (a1.toInt.toNat) (1) (by decide) (by decide)).trans (show gV τ2 20 (a1.toInt.toNat) 1 = (gV σ 20 (a1.toInt.toNat) 1) from (f4.1 20 (a1.toInt.toNat) (1) (by decide) (by decide)).trans rfl))))
            have q97 : (gV τ89 20 (a1.toInt.toNat) 2).toInt = (gV σ 20 (a1.toInt.toNat) 2).toInt := congrArg Int32.toInt (show (gV τ89 20 (a1.toInt.toNat) 2) = (gV σ 20 (a1.toInt.toNat) 2) from (show gV τ89 20 (a1.toInt.toNat) 2 = (gV σ 20 (a1.toInt.toNat) 2) from (f91.1 20 (a1.toInt.toNat) (2) (by decide) (by decide)).trans (show gV τ13 20 (a1.toInt.toNat) 2 = (gV σ 20 (a1.toInt.toNat) 2) from (f15.1 20 (a1.toInt.toNat) (2) (by decide) (by decide)).trans (show gV τ2 20 (a1.toInt.toNat) 2 = (gV σ 20 (a1.toInt.toNat) 2) from (f4.1 20 (a1.toInt.toNat) (2) (by decide) (by decide)).trans rfl))))
            have q98 := kt_2
            show MW p l e _ s m args below meth c _ 5 G 0 0 47 [some (.ref (G.1 0 0)), some (.int a1), some (.int a2), some (.int a3), some (.ref (G.1 20 (a1.toInt.toNat)))] [.int x92] τ89
            exact m_iret C hr hlk (by decide) (by decide) dX11_set_47 ⟨_, rfl, i90, g94, (iv_wk b93 (by decide)), ⟨(Or.inr (Or.inr (Or.inl ⟨by omega, by omega, by omega, by omega⟩))), (by omega), ⟨fun h => absurd h (by omega), fun _ => (fun j i => (f91.1 21 j i (by simp) (by decide)).trans ((fun j i => (f15.1 21 j i (by simp) (by decide)).trans ((fun j i => (f4.1 21 j i (by simp) (by decide)).trans ((fun _ _ => rfl) j i)) j i)) j i))⟩⟩⟩
      · exfalso
        have q : _ := c39
        simp only [ti_nle, ti_nlt, ti_le, ti_lt, ti_eq, ti_ne, Classical.not_not, kt_0] at q
        have q1 := b38; have q2 := kc_0; omega

abbrev MS_X12_setQ : List (Nat × Nat) := [(22, 8)]
abbrev AS_X12_setQ : List Nat := [25]
set_option maxHeartbeats 4000000 in
set_option maxRecDepth 100000 in
theorem c_X12_setQ (l : Launch) (G : Gt) (σ : Sg) (a1 : Int32) (a2 : Int32) (a3 : Int32) (hI : Inv σ) : Mc l G yX12_set cX12_set 4 (some .int) 2 45 0 0 [.ref (G.1 22 0), .int a1, .int a2, .int a3] σ (PI fun r τ => Inv τ ∧ Fr MS_X12_setQ AS_X12_setQ σ τ ∧ IV r (-2147483648) 2147483647 ∧ ((((a1.toInt < 0 ∨ 7 < a1.toInt) ∧ r.toInt = -1000001) ∨ ((0 ≤ a1.toInt ∧ a1.toInt ≤ 7) ∧ (gV σ 26 0 (a1.toInt.toNat)).toInt < 0 ∧ r.toInt = -1000011) ∨ ((0 ≤ a1.toInt ∧ a1.toInt ≤ 7) ∧ ¬ ((gV σ 26 0 (a1.toInt.toNat)).toInt < 0) ∧ (a2.toInt < 0 ∨ (gV σ 27 0 (a1.toInt.toNat)).toInt ≤ a2.toInt) ∧ r.toInt = -1000012) ∨ ((0 ≤ a1.toInt ∧ a1.toInt ≤ 7) ∧ ¬ ((gV σ 26 0 (a1.toInt.toNat)).toInt < 0) ∧ 0 ≤ a2.toInt ∧ a2.toInt < (gV σ 27 0 (a1.toInt.toNat)).toInt ∧ r.toInt = (cutF (gV σ 26 0 (a1.toInt.toNat)) a3).toInt)) ∧ (((a1.toInt < 0 ∨ 7 < a1.toInt) → (gV τ 22 0 8).toInt = (gV σ 22 0 8).toInt) ∧ (((0 ≤ a1.toInt ∧ a1.toInt ≤ 7) ∧ (gV σ 26 0 (a1.toInt.toNat)).toInt < 0) → (gV τ 22 0 8).toInt = 1) ∧ (((0 ≤ a1.toInt ∧ a1.toInt ≤ 7) ∧ ¬ ((gV σ 26 0 (a1.toInt.toNat)).toInt < 0) ∧ (a2.toInt < 0 ∨ (gV σ 27 0 (a1.toInt.toNat)).toInt ≤ a2.toInt)) → (gV τ 22 0 8).toInt = 2) ∧ (((0 ≤ a1.toInt ∧ a1.toInt ≤ 7) ∧ ¬ ((gV σ 26 0 (a1.toInt.toNat)).toInt < 0) ∧ 0 ≤ a2.toInt ∧ a2.toInt < (gV σ 27 0 (a1.toInt.toNat)).toInt) → (gV τ 22 0 8).toInt = 0)) ∧ ((((0 ≤ a1.toInt ∧ a1.toInt ≤ 7) ∧ ¬ ((gV σ 26 0 (a1.toInt.toNat)).toInt < 0) ∧ 0 ≤ a2.toInt ∧ a2.toInt < (gV σ 27 0 (a1.toInt.toNat)).toInt) → ∃ v : Int32, v.toInt = r.toInt ∧ J1_ σ τ (40 * (a1.toInt.toNat) + (a2.toInt.toNat)) v) ∧ (¬ ((0 ≤ a1.toInt ∧ a1.toInt ≤ 7) ∧ ¬ ((gV σ 26 0 (a1.toInt.toNat)).toInt < 0) ∧ 0 ≤ a2.toInt ∧ a2.toInt < (gV σ 27 0 (a1.toInt.toNat)).toInt) → SameJ σ τ)))) := by
  refine Mc.of (L0 := [some (.ref (G.1 22 0)), some (.int a1), some (.int a2), some (.int a3)]) (by decide) (Nat.le_of_ble_eq_true rfl) rfl ?_
  intro p e s m args below meth c C hr hlk
  have C : Cx p s m args c cX12_set 4 "LeanTowerModel" := C
  have k0 : (0 : Int32).toInt = 0 := by decide
  have k1 : (1 : Int32).toInt = 1 := by decide
  have u1 : IV (gV σ 27 0 (a1.toInt.toNat)) 0 40 := hI.1 27 0 (a1.toInt.toNat)
  refine m_iload_n C dX12_set_0 rfl rfl ?_
  refine m_callS (n := 1) (st := []) C (c_X12_isRow l G σ (a1) hI ) q4_186 q4_184 q4_185 q1_7 (by decide +kernel) rfl (by decide) (by decide) rfl (Nat.le_of_ble_eq_true rfl) dX12_set_1 ?_
  rintro _ τ2 ⟨x5, rfl, i3, f4, b6, h8⟩
  have g7 : Fr MS_X12_setQ AS_X12_setQ σ τ2 := Fr.call (Fr.rf) f4 (by decide)
  have q9 : (gV τ2 22 0 8).toInt = (gV σ 22 0 8).toInt := congrArg Int32.toInt (show (gV τ2 22 0 8) = (gV σ 22 0 8) from (show gV τ2 22 0 8 = (gV σ 22 0 8) from (f4.1 22 0 (8) (by decide) (by decide)).trans rfl))
  have q10 : (gV τ2 26 0 (a1.toInt.toNat)).toInt = (gV σ 26 0 (a1.toInt.toNat)).toInt := congrArg Int32.toInt (show (gV τ2 26 0 (a1.toInt.toNat)) = (gV σ 26 0 (a1.toInt.toNat)) from (show gV τ2 26 0 (a1.toInt.toNat) = (gV σ 26 0 (a1.toInt.toNat)) from (f4.1 26 0 ((a1.toInt.toNat)) (by simp) (by decide)).trans rfl))
  have q11 : (gV τ2 27 0 (a1.toInt.toNat)).toInt = (gV σ 27 0 (a1.toInt.toNat)).toInt := congrArg Int32.toInt (show (gV τ2 27 0 (a1.toInt.toNat)) = (gV σ 27 0 (a1.toInt.toNat)) from (show gV τ2 27 0 (a1.toInt.toNat) = (gV σ 27 0 (a1.toInt.toNat)) from (f4.1 27 0 ((a1.toInt.toNat)) (by simp) (by decide)).trans rfl))
  rcases h8 with ⟨h8_0, h8_1, h8_2⟩ | ⟨h8_0, h8_1⟩
  · skip
    have b12 : IV x5 1 1 := ⟨by omega, by omega⟩
    show MW p l e _ s m args below meth c _ 4 G 0 0 4 [some (.ref (G.1 22 0)), some (.int a1), some (.int a2), some (.int a3)] [.int x5] τ2
    refine m_if_ne (tgt := 10) C dX12_set_4 (by decide) (fun c13 => ?_) (fun c13 => ?_)
    · have f14 : x5.toInt ≠ 0 := by
        have q : _ := c13
        simp only [ti_nle, ti_nlt, ti_le, ti_lt, ti_eq, ti_ne, Classical.not_not, kt_0] at q
        omega
      have b15 : IV a1 0 7 := ⟨by have q1 := (iv_any a1); omega, by have q1 := (iv_any a1); omega⟩
      refine m_aload_n C dX12_set_10 rfl rfl ?_
      refine g_22_3 C q4_119 dX12_set_11 ?_
      refine m_iload_n C dX12_set_14 rfl rfl ?_
      refine al_26 C b15 (by decide) rfl dX12_set_15 ?_
      refine m_eqs (w := (gV σ 26 0 (a1.toInt.toNat))) (show gV τ2 26 0 (a1.toInt.toNat) = (gV σ 26 0 (a1.toInt.toNat)) from (f4.1 26 0 ((a1.toInt.toNat)) (by simp) (by decide)).trans rfl) ?_
      refine m_if_ge (tgt := 25) C dX12_set_16 (by decide) (fun c16 => ?_) (fun c16 => ?_)
      · have f17 : 0 ≤ (gV σ 26 0 (a1.toInt.toNat)).toInt := by
          have q : _ := c16
          simp only [ti_nle, ti_nlt, ti_le, ti_lt, ti_eq, ti_ne, Classical.not_not, kt_0] at q
          omega
        have b18 : IV (gV σ 26 0 (a1.toInt.toNat)) 0 2147483647 := ⟨by have q1 := kc_0; have q2 := (iv_any (gV σ 26 0 (a1.toInt.toNat))); omega, by have q1 := kc_0; have q2 := (iv_any (gV σ 26 0 (a1.toInt.toNat))); omega⟩
        refine m_iload_n C dX12_set_25 rfl rfl ?_
        refine m_i2l C dX12_set_26 ?_
        refine m_lconst (v := 0) C dX12_set_27 (by decide) ?_
        refine m_aload_n C dX12_set_28 rfl rfl ?_
        refine g_22_4 C q4_120 dX12_set_29 ?_
        refine m_iload_n C dX12_set_32 rfl rfl ?_
        refine al_27 C b15 (by decide) rfl dX12_set_33 ?_
        refine m_eqs (w := (gV σ 27 0 (a1.toInt.toNat))) (show gV τ2 27 0 (a1.toInt.toNat) = (gV σ 27 0 (a1.toInt.toNat)) from (f4.1 27 0 ((a1.toInt.toNat)) (by simp) (by decide)).trans rfl) ?_
        refine m_iconst (v := 1) C dX12_set_34 (by decide) ?_
        refine m_isub C dX12_set_35 ?_
        refine m_topi (fun x19 ex19 => ?_)
        have tx19 : x19.toInt = (gV σ 27 0 (a1.toInt.toNat)).toInt - 1 := by rw [ex19, ti_subv u1 kc_1 (by decide), kt_1]
        have b20 : IV x19 (-1) 39 := by rw [ex19]; exact iv_sub u1 kc_1 (by decide)
        refine m_i2l C dX12_set_36 ?_
        refine m_callS (n := 3) (st := []) C (c_X12_in l G τ2 ((a2 : Int32).toInt64) (0) ((x19 : Int32).toInt64) i3 ) q4_190 q4_188 q4_189 q1_7 (by decide +kernel) rfl (by decide) (by decide) rfl (Nat.le_of_ble_eq_true rfl) dX12_set_37 ?_
        rintro _ τ21 ⟨x24, rfl, i22, f23, b25, h27⟩
        have g26 : Fr MS_X12_setQ AS_X12_setQ σ τ21 := Fr.call (g7) f23 (by decide)
        have q28 : (gV τ21 22 0 8).toInt = (gV σ 22 0 8).toInt := congrArg Int32.toInt (show (gV τ21 22 0 8) = (gV σ 22 0 8) from (show gV τ21 22 0 8 = (gV σ 22 0 8) from (f23.1 22 0 (8) (by decide) (by decide)).trans (show gV τ2 22 0 8 = (gV σ 22 0 8) from (f4.1 22 0 (8) (by decide) (by decide)).trans rfl)))
        have q29 : (gV τ21 26 0 (a1.toInt.toNat)).toInt = (gV σ 26 0 (a1.toInt.toNat)).toInt := congrArg Int32.toInt (show (gV τ21 26 0 (a1.toInt.toNat)) = (gV σ 26 0 (a1.toInt.toNat)) from (show gV τ21 26 0 (a1.toInt.toNat) = (gV σ 26 0 (a1.toInt.toNat)) from (f23.1 26 0 ((a1.toInt.toNat)) (by simp) (by decide)).trans (show gV τ2 26 0 (a1.toInt.toNat) = (gV σ 26 0 (a1.toInt.toNat)) from (f4.1 26 0 ((a1.toInt.toNat)) (by simp) (by decide)).trans rfl)))
        have q30 : (gV τ21 27 0 (a1.toInt.toNat)).toInt = (gV σ 27 0 (a1.toInt.toNat)).toInt := congrArg Int32.toInt (show (gV τ21 27 0 (a1.toInt.toNat)) = (gV σ 27 0 (a1.toInt.toNat)) from (show gV τ21 27 0 (a1.toInt.toNat) = (gV σ 27 0 (a1.toInt.toNat)) from (f23.1 27 0 ((a1.toInt.toNat)) (by simp) (by decide)).trans (show gV τ2 27 0 (a1.toInt.toNat) = (gV σ 27 0 (a1.toInt.toNat)) from (f4.1 27 0 ((a1.toInt.toNat)) (by simp) (by decide)).trans rfl)))
        have f31 := tl_i a2
        have f32 := kl_0
        have f33 := tl_i x19
        have q34 := b20
        rcases h27 with ⟨h27_0, h27_1, h27_2⟩ | ⟨h27_0, h27_1⟩
        · skip
          have b35 : IV x24 1 1 := ⟨by omega, by omega⟩
          show MW p l e _ s m args below meth c _ 4 G 0 0 40 [some (.ref (G.1 22 0)), some (.int a1), some (.int a2), some (.int a3)] [.int x24] τ21
          refine m_if_ne (tgt := 49) C dX12_set_40 (by decide) (fun c36 => ?_) (fun c36 => ?_)
          · have f37 : x24.toInt ≠ 0 := by
              have q : _ := c36
              simp only [ti_nle, ti_nlt, ti_le, ti_lt, ti_eq, ti_ne, Classical.not_not, kt_0] at q
              omega
            have b38 : IV a2 0 39 := ⟨by have q1 := (iv_any a2); omega, by have q1 := (iv_any a2); omega⟩
            refine m_aload_n C dX12_set_49 rfl rfl ?_
            refine g_22_2 C q4_118 dX12_set_50 ?_
            refine m_bipush (v := 40) C dX12_set_53 (by decide) ?_
            refine m_iload_n C dX12_set_55 rfl rfl ?_
            refine m_imul C dX12_set_56 ?_
            refine m_topi (fun x39 ex39 => ?_)
            have tx39 : x39.toInt = 40 * a1.toInt := by rw [ex39, ti_mulv kc_40 b15 (by decide), kt_40]
            have b40 : IV x39 0 280 := by rw [ex39]; exact iv_mul kc_40 b15 (by decide)
            refine m_iload_n C dX12_set_57 rfl rfl ?_
            refine m_iadd C dX12_set_58 ?_
            refine m_topi (fun x41 ex41 => ?_)
            have tx41 : x41.toInt = x39.toInt + a2.toInt := by rw [ex41, ti_addv b40 b38 (by decide)]
            have b42 : IV x41 0 319 := by rw [ex41]; exact iv_add b40 b38 (by decide)
            refine m_aload_n C dX12_set_59 rfl rfl ?_
            refine g_22_3 C q4_119 dX12_set_60 ?_
            refine m_iload_n C dX12_set_63 rfl rfl ?_
            refine al_26 C b15 (by decide) rfl dX12_set_64 ?_
            refine m_eqs (w := (gV σ 26 0 (a1.toInt.toNat))) (show gV τ21 26 0 (a1.toInt.toNat) = (gV σ 26 0 (a1.toInt.toNat)) from (f23.1 26 0 ((a1.toInt.toNat)) (by simp) (by decide)).trans (show gV τ2 26 0 (a1.toInt.toNat) = (gV σ 26 0 (a1.toInt.toNat)) from (f4.1 26 0 ((a1.toInt.toNat)) (by simp) (by decide)).trans rfl)) ?_
            refine m_iload_n C dX12_set_65 rfl rfl ?_
            refine m_callS (n := 2) (st := [.int x41, .ref (G.1 25 0)]) C (c_X12_cutE l G τ21 ((gV σ 26 0 (a1.toInt.toNat))) (a3) i22 ) q4_208 q4_206 q4_207 q1_7 (by decide +kernel) rfl (by decide) (by decide) rfl (Nat.le_of_ble_eq_true rfl) dX12_set_66 ?_
            rintro _ τ43 ⟨x46, rfl, i44, f45, b47, h49⟩
            have g48 : Fr MS_X12_setQ AS_X12_setQ σ τ43 := Fr.call (g26) f45 (by decide)
            have q50 : (gV τ43 22 0 8).toInt = (gV σ 22 0 8).toInt := congrArg Int32.toInt (show (gV τ43 22 0 8) = (gV σ 22 0 8) from (show gV τ43 22 0 8 = (gV σ 22 0 8) from (f45.1 22 0 (8) (by decide) (by decide)).trans (show gV τ21 22 0 8 = (gV σ 22 0 8) from (f23.1 22 0 (8) (by decide) (by decide)).trans (show gV τ2 22 0 8 = (gV σ 22 0 8) from (f4.1 22 0 (8) (by decide) (by decide)).trans rfl))))
            have q51 : (gV τ43 26 0 (a1.toInt.toNat)).toInt = (gV σ 26 0 (a1.toInt.toNat)).toInt := congrArg Int32.toInt (show (gV τ43 26 0 (a1.toInt.toNat)) = (gV σ 26 0 (a1.toInt.toNat)) from (show gV τ43 26 0 (a1.toInt.toNat) = (gV σ 26 0 (a1.toInt.toNat)) from (f45.1 26 0 ((a1.toInt.toNat)) (by simp) (by decide)).trans (show gV τ21 26 0 (a1.toInt.toNat) = (gV σ 26 0 (a1.toInt.toNat)) from (f23.1 26 0 ((a1.toInt.toNat)) (by simp) (by decide)).trans (show gV τ2 26 0 (a1.toInt.toNat) = (gV σ 26 0 (a1.toInt.toNat)) from (f4.1 26 0 ((a1.toInt.toNat)) (by simp) (by decide)).trans rfl))))
            have q52 : (gV τ43 27 0 (a1.toInt.toNat)).toInt = (gV σ 27 0 (a1.toInt.toNat)).toInt := congrArg Int32.toInt (show (gV τ43 27 0 (a1.toInt.toNat)) = (gV σ 27 0 (a1.toInt.toNat)) from (show gV τ43 27 0 (a1.toInt.toNat) = (gV σ 27 0 (a1.toInt.toNat)) from (f45.1 27 0 ((a1.toInt.toNat)) (by simp) (by decide)).trans (show gV τ21 27 0 (a1.toInt.toNat) = (gV σ 27 0 (a1.toInt.toNat)) from (f23.1 27 0 ((a1.toInt.toNat)) (by simp) (by decide)).trans (show gV τ2 27 0 (a1.toInt.toNat) = (gV σ 27 0 (a1.toInt.toNat)) from (f4.1 27 0 ((a1.toInt.toNat)) (by simp) (by decide)).trans rfl))))
            have q53 : x46.toInt = (cutF (gV σ 26 0 (a1.toInt.toNat)) a3).toInt := congrArg Int32.toInt h49
            show MW p l e _ s m args below meth c _ 4 G 0 0 69 [some (.ref (G.1 22 0)), some (.int a1), some (.int a2), some (.int a3)] [.int x46, .int x41, .ref (G.1 25 0)] τ43
            refine as_25 C b42 (by decide) rfl dX12_set_69 ?_
            refine m_tops (fun τ54 eτ54 => ?_)
            have i55 : Inv τ54 := eτ54 ▸ Inv.putF i44 (by decide) rfl
            have f56 : Fr MS_X12_setQ AS_X12_setQ σ τ54 := eτ54 ▸ Fr.put (g48) (Or.inr (by decide))
            refine m_aload_n C dX12_set_70 rfl rfl ?_
            refine m_aload_n C dX12_set_71 rfl rfl ?_
            refine g_22_2 C q4_118 dX12_set_72 ?_
            refine m_bipush (v := 40) C dX12_set_75 (by decide) ?_
            refine m_iload_n C dX12_set_77 rfl rfl ?_
            refine m_imul C dX12_set_78 ?_
            refine m_topi (fun x57 ex57 => ?_)
            have tx57 : x57.toInt = 40 * a1.toInt := by rw [ex57, ti_mulv kc_40 b15 (by decide), kt_40]
            have b58 : IV x57 0 280 := by rw [ex57]; exact iv_mul kc_40 b15 (by decide)
            refine m_iload_n C dX12_set_79 rfl rfl ?_
            refine m_iadd C dX12_set_80 ?_
            refine m_topi (fun x59 ex59 => ?_)
            have tx59 : x59.toInt = x57.toInt + a2.toInt := by rw [ex59, ti_addv b58 b38 (by decide)]
            have b60 : IV x59 0 319 := by rw [ex59]; exact iv_add b58 b38 (by decide)
            refine al_25 C b60 (by decide) rfl dX12_set_81 ?_
            refine m_topi (fun x61 ex61 => ?_)
            have q62 : x61.toInt = x46.toInt := by rw [ex61, show x59.toInt.toNat = (x41.toInt.toNat) by omega]; exact congrArg Int32.toInt (show gV τ54 25 0 (x41.toInt.toNat) = x46 from gV_put eτ54 (gV_self _ _ _ _ _))
            have q63 : (gV τ54 22 0 8).toInt = (gV σ 22 0 8).toInt := congrArg Int32.toInt (show (gV τ54 22 0 8) = (gV σ 22 0 8) from (show gV τ54 22 0 8 = (gV σ 22 0 8) from gV_put eτ54 (show gV τ43 22 0 8 = (gV σ 22 0 8) from (f45.1 22 0 (8) (by decide) (by decide)).trans (show gV τ21 22 0 8 = (gV σ 22 0 8) from (f23.1 22 0 (8) (by decide) (by decide)).trans (show gV τ2 22 0 8 = (gV σ 22 0 8) from (f4.1 22 0 (8) (by decide) (by decide)).trans rfl)))))
            have q64 : (gV τ54 26 0 (a1.toInt.toNat)).toInt = (gV σ 26 0 (a1.toInt.toNat)).toInt := congrArg Int32.toInt (show (gV τ54 26 0 (a1.toInt.toNat)) = (gV σ 26 0 (a1.toInt.toNat)) from (show gV τ54 26 0 (a1.toInt.toNat) = (gV σ 26 0 (a1.toInt.toNat)) from gV_put eτ54 (show gV τ43 26 0 (a1.toInt.toNat) = (gV σ 26 0 (a1.toInt.toNat)) from (f45.1 26 0 ((a1.toInt.toNat)) (by simp) (by decide)).trans (show gV τ21 26 0 (a1.toInt.toNat) = (gV σ 26 0 (a1.toInt.toNat)) from (f23.1 26 0 ((a1.toInt.toNat)) (by simp) (by decide)).trans (show gV τ2 26 0 (a1.toInt.toNat) = (gV σ 26 0 (a1.toInt.toNat)) from (f4.1 26 0 ((a1.toInt.toNat)) (by simp) (by decide)).trans rfl)))))
            have q65 : (gV τ54 27 0 (a1.toInt.toNat)).toInt = (gV σ 27 0 (a1.toInt.toNat)).toInt := congrArg Int32.toInt (show (gV τ54 27 0 (a1.toInt.toNat)) = (gV σ 27 0 (a1.toInt.toNat)) from (show gV τ54 27 0 (a1.toInt.toNat) = (gV σ 27 0 (a1.toInt.toNat)) from gV_put eτ54 (show gV τ43 27 0 (a1.toInt.toNat) = (gV σ 27 0 (a1.toInt.toNat)) from (f45.1 27 0 ((a1.toInt.toNat)) (by simp) (by decide)).trans (show gV τ21 27 0 (a1.toInt.toNat) = (gV σ 27 0 (a1.toInt.toNat)) from (f23.1 27 0 ((a1.toInt.toNat)) (by simp) (by decide)).trans (show gV τ2 27 0 (a1.toInt.toNat) = (gV σ 27 0 (a1.toInt.toNat)) from (f4.1 27 0 ((a1.toInt.toNat)) (by simp) (by decide)).trans rfl)))))
            refine m_callV (n := 1) (ci := 11) (st := []) C (c_X12_fineQ l G τ54 (x61) i55 ) (by decide) (by decide) rfl rfl rfl q4_201 q4_198 q4_200 q0_27 q1_7 (by decide +kernel) rfl (by decide) (by decide) rfl (Nat.le_of_ble_eq_true rfl) dX12_set_82 ?_
            rintro _ τ66 ⟨x69, rfl, i67, f68, b70, h72⟩
            have g71 : Fr MS_X12_setQ AS_X12_setQ σ τ66 := Fr.call (f56) f68 (by decide)
            have q73 : (gV τ66 26 0 (a1.toInt.toNat)).toInt = (gV σ 26 0 (a1.toInt.toNat)).toInt := congrArg Int32.toInt (show (gV τ66 26 0 (a1.toInt.toNat)) = (gV σ 26 0 (a1.toInt.toNat)) from (show gV τ66 26 0 (a1.toInt.toNat) = (gV σ 26 0 (a1.toInt.toNat)) from (f68.1 26 0 ((a1.toInt.toNat)) (by simp) (by decide)).trans (show gV τ54 26 0 (a1.toInt.toNat) = (gV σ 26 0 (a1.toInt.toNat)) from gV_put eτ54 (show gV τ43 26 0 (a1.toInt.toNat) = (gV σ 26 0 (a1.toInt.toNat)) from (f45.1 26 0 ((a1.toInt.toNat)) (by simp) (by decide)).trans (show gV τ21 26 0 (a1.toInt.toNat) = (gV σ 26 0 (a1.toInt.toNat)) from (f23.1 26 0 ((a1.toInt.toNat)) (by simp) (by decide)).trans (show gV τ2 26 0 (a1.toInt.toNat) = (gV σ 26 0 (a1.toInt.toNat)) from (f4.1 26 0 ((a1.toInt.toNat)) (by simp) (by decide)).trans rfl))))))
            have q74 : (gV τ66 27 0 (a1.toInt.toNat)).toInt = (gV σ 27 0 (a1.toInt.toNat)).toInt := congrArg Int32.toInt (show (gV τ66 27 0 (a1.toInt.toNat)) = (gV σ 27 0 (a1.toInt.toNat)) from (show gV τ66 27 0 (a1.toInt.toNat) = (gV σ 27 0 (a1.toInt.toNat)) from (f68.1 27 0 ((a1.toInt.toNat)) (by simp) (by decide)).trans (show gV τ54 27 0 (a1.toInt.toNat) = (gV σ 27 0 (a1.toInt.toNat)) from gV_put eτ54 (show gV τ43 27 0 (a1.toInt.toNat) = (gV σ 27 0 (a1.toInt.toNat)) from (f45.1 27 0 ((a1.toInt.toNat)) (by simp) (by decide)).trans (show gV τ21 27 0 (a1.toInt.toNat) = (gV σ 27 0 (a1.toInt.toNat)) from (f23.1 27 0 ((a1.toInt.toNat)) (by simp) (by decide)).trans (show gV τ2 27 0 (a1.toInt.toNat) = (gV σ 27 0 (a1.toInt.toNat)) from (f4.1 27 0 ((a1.toInt.toNat)) (by simp) (by decide)).trans rfl))))))
            show MW p l e _ s m args below meth c _ 4 G 0 0 85 [some (.ref (G.1 22 0)), some (.int a1), some (.int a2), some (.int a3)] [.int x69] τ66
            exact m_iret C hr hlk (by decide) (by decide) dX12_set_85 ⟨_, rfl, i67, g71, b70, ⟨(Or.inr (Or.inr (Or.inr (⟨by omega, by omega, by omega, by omega, by omega⟩)))), (by omega), ⟨fun _ => ⟨x46, by omega, by have q := J1_.mk (fun k => (f45.1 25 0 k (by simp) (by decide)).trans ((fun k => (f23.1 25 0 k (by simp) (by decide)).trans ((fun k => (f4.1 25 0 k (by simp) (by decide)).trans ((fun _ => rfl) k)) k)) k)) eτ54 (fun k => (f68.1 25 0 k (by simp) (by decide)).trans ((fun _ => rfl) k)); rw [show (x41.toInt.toNat) = 40 * (a1.toInt.toNat) + (a2.toInt.toNat) by omega] at q; exact q⟩, fun h => absurd (by omega) h⟩⟩⟩
          · exfalso
            have q : _ := c36
            simp only [ti_nle, ti_nlt, ti_le, ti_lt, ti_eq, ti_ne, Classical.not_not, kt_0] at q
            have q1 := b35; have q2 := kc_0; omega
        · skip
          have b76 : IV x24 0 0 := ⟨by omega, by omega⟩
          show MW p l e _ s m args below meth c _ 4 G 0 0 40 [some (.ref (G.1 22 0)), some (.int a1), some (.int a2), some (.int a3)] [.int x24] τ21
          refine m_if_ne (tgt := 49) C dX12_set_40 (by decide) (fun c77 => ?_) (fun c77 => ?_)
          · exfalso
            have q : _ := c77
            simp only [ti_nle, ti_nlt, ti_le, ti_lt, ti_eq, ti_ne, Classical.not_not, kt_0] at q
            have q1 := b76; have q2 := kc_0; omega
          · have f79 : x24.toInt = 0 := by
              have q : _ := c77
              simp only [ti_nle, ti_nlt, ti_le, ti_lt, ti_eq, ti_ne, Classical.not_not, kt_0] at q
              omega
            refine m_aload_n C dX12_set_43 rfl rfl ?_
            refine m_iconst (v := 2) C dX12_set_44 (by decide) ?_
            have q80 := kt_2
            refine m_callV (n := 1) (ci := 11) (st := []) C (c_X12_metQ l G τ21 (2) i22 (iv_wk kc_2 (by decide))) (by decide) (by decide) rfl rfl rfl q4_196 q4_193 q4_195 q0_26 q1_7 (by decide +kernel) rfl (by decide) (by decide) rfl (Nat.le_of_ble_eq_true rfl) dX12_set_45 ?_
            rintro _ τ81 ⟨x84, rfl, i82, f83, b85, h87⟩
            have g86 : Fr MS_X12_setQ AS_X12_setQ σ τ81 := Fr.call (g26) f83 (by decide)
            have q88 : (gV τ81 26 0 (a1.toInt.toNat)).toInt = (gV σ 26 0 (a1.toInt.toNat)).toInt := congrArg Int32.toInt (show (gV τ81 26 0 (a1.toInt.toNat)) = (gV σ 26 0 (a1.toInt.toNat)) from (show gV τ81 26 0 (a1.toInt.toNat) = (gV σ 26 0 (a1.toInt.toNat)) from (f83.1 26 0 ((a1.toInt.toNat)) (by simp) (by decide)).trans (show gV τ21 26 0 (a1.toInt.toNat) = (gV σ 26 0 (a1.toInt.toNat)) from (f23.1 26 0 ((a1.toInt.toNat)) (by simp) (by decide)).trans (show gV τ2 26 0 (a1.toInt.toNat) = (gV σ 26 0 (a1.toInt.toNat)) from (f4.1 26 0 ((a1.toInt.toNat)) (by simp) (by decide)).trans rfl))))
            have q89 : (gV τ81 27 0 (a1.toInt.toNat)).toInt = (gV σ 27 0 (a1.toInt.toNat)).toInt := congrArg Int32.toInt (show (gV τ81 27 0 (a1.toInt.toNat)) = (gV σ 27 0 (a1.toInt.toNat)) from (show gV τ81 27 0 (a1.toInt.toNat) = (gV σ 27 0 (a1.toInt.toNat)) from (f83.1 27 0 ((a1.toInt.toNat)) (by simp) (by decide)).trans (show gV τ21 27 0 (a1.toInt.toNat) = (gV σ 27 0 (a1.toInt.toNat)) from (f23.1 27 0 ((a1.toInt.toNat)) (by simp) (by decide)).trans (show gV τ2 27 0 (a1.toInt.toNat) = (gV σ 27 0 (a1.toInt.toNat)) from (f4.1 27 0 ((a1.toInt.toNat)) (by simp) (by decide)).trans rfl))))
            have q90 := kt_2
            show MW p l e _ s m args below meth c _ 4 G 0 0 48 [some (.ref (G.1 22 0)), some (.int a1), some (.int a2), some (.int a3)] [.int x84] τ81
            exact m_iret C hr hlk (by decide) (by decide) dX12_set_48 ⟨_, rfl, i82, g86, (iv_wk b85 (by decide)), ⟨(Or.inr (Or.inr (Or.inl ⟨by omega, by omega, by omega, by omega⟩))), (by omega), ⟨fun h => absurd h (by omega), fun _ => (fun k => (f83.1 25 0 k (by simp) (by decide)).trans ((fun k => (f23.1 25 0 k (by simp) (by decide)).trans ((fun k => (f4.1 25 0 k (by simp) (by decide)).trans ((fun _ => rfl) k)) k)) k))⟩⟩⟩
      · have f91 : (gV σ 26 0 (a1.toInt.toNat)).toInt < 0 := by
          have q : _ := c16
          simp only [ti_nle, ti_nlt, ti_le, ti_lt, ti_eq, ti_ne, Classical.not_not, kt_0] at q
          omega
        have b92 : IV (gV σ 26 0 (a1.toInt.toNat)) (-2147483648) (-1) := ⟨by have q1 := (iv_any (gV σ 26 0 (a1.toInt.toNat))); have q2 := kc_0; omega, by have q1 := (iv_any (gV σ 26 0 (a1.toInt.toNat))); have q2 := kc_0; omega⟩
        refine m_aload_n C dX12_set_19 rfl rfl ?_
        refine m_iconst (v := 1) C dX12_set_20 (by decide) ?_
        have q93 := kt_1
        refine m_callV (n := 1) (ci := 11) (st := []) C (c_X12_metQ l G τ2 (1) i3 (iv_wk kc_1 (by decide))) (by decide) (by decide) rfl rfl rfl q4_196 q4_193 q4_195 q0_26 q1_7 (by decide +kernel) rfl (by decide) (by decide) rfl (Nat.le_of_ble_eq_true rfl) dX12_set_21 ?_
        rintro _ τ94 ⟨x97, rfl, i95, f96, b98, h100⟩
        have g99 : Fr MS_X12_setQ AS_X12_setQ σ τ94 := Fr.call (g7) f96 (by decide)
        have q101 : (gV τ94 26 0 (a1.toInt.toNat)).toInt = (gV σ 26 0 (a1.toInt.toNat)).toInt := congrArg Int32.toInt (show (gV τ94 26 0 (a1.toInt.toNat)) = (gV σ 26 0 (a1.toInt.toNat)) from (show gV τ94 26 0 (a1.toInt.toNat) = (gV σ 26 0 (a1.toInt.toNat)) from (f96.1 26 0 ((a1.toInt.toNat)) (by simp) (by decide)).trans (show gV τ2 26 0 (a1.toInt.toNat) = (gV σ 26 0 (a1.toInt.toNat)) from (f4.1 26 0 ((a1.toInt.toNat)) (by simp) (by decide)).trans rfl)))
        have q102 : (gV τ94 27 0 (a1.toInt.toNat)).toInt = (gV σ 27 0 (a1.toInt.toNat)).toInt := congrArg Int32.toInt (show (gV τ94 27 0 (a1.toInt.toNat)) = (gV σ 27 0 (a1.toInt.toNat)) from (show gV τ94 27 0 (a1.toInt.toNat) = (gV σ 27 0 (a1.toInt.toNat)) from (f96.1 27 0 ((a1.toInt.toNat)) (by simp) (by decide)).trans (show gV τ2 27 0 (a1.toInt.toNat) = (gV σ 27 0 (a1.toInt.toNat)) from (f4.1 27 0 ((a1.toInt.toNat)) (by simp) (by decide)).trans rfl)))
        have q103 := kt_1
        show MW p l e _ s m args below meth c _ 4 G 0 0 24 [some (.ref (G.1 22 0)), some (.int a1), some (.int a2), some (.int a3)] [.int x97] τ94
        exact m_iret C hr hlk (by decide) (by decide) dX12_set_24 ⟨_, rfl, i95, g99, (iv_wk b98 (by decide)), ⟨(Or.inr (Or.inl ⟨by omega, by omega, by omega⟩)), (by omega), ⟨fun h => absurd h (by omega), fun _ => (fun k => (f96.1 25 0 k (by simp) (by decide)).trans ((fun k => (f4.1 25 0 k (by simp) (by decide)).trans ((fun _ => rfl) k)) k))⟩⟩⟩
    · exfalso
      have q : _ := c13
      simp only [ti_nle, ti_nlt, ti_le, ti_lt, ti_eq, ti_ne, Classical.not_not, kt_0] at q
      have q1 := b12; have q2 := kc_0; omega
  · skip
    have b105 : IV x5 0 0 := ⟨by omega, by omega⟩
    show MW p l e _ s m args below meth c _ 4 G 0 0 4 [some (.ref (G.1 22 0)), some (.int a1), some (.int a2), some (.int a3)] [.int x5] τ2
    refine m_if_ne (tgt := 10) C dX12_set_4 (by decide) (fun c106 => ?_) (fun c106 => ?_)
    · exfalso
      have q : _ := c106
      simp only [ti_nle, ti_nlt, ti_le, ti_lt, ti_eq, ti_ne, Classical.not_not, kt_0] at q
      have q1 := b105; have q2 := kc_0; omega
    · have f108 : x5.toInt = 0 := by
        have q : _ := c106
        simp only [ti_nle, ti_nlt, ti_le, ti_lt, ti_eq, ti_ne, Classical.not_not, kt_0] at q
        omega
      refine m_ldc (v := (-1000001)) C dX12_set_7 q4_192 ?_
      exact m_iret C hr hlk (by decide) (by decide) dX12_set_9 ⟨_, rfl, i3, g7, (iv_wk kc_m1000001 (by decide)), ⟨(Or.inl ⟨by have q := kt_m1000001; omega, by have q := kt_m1000001; omega⟩), (by have qk := kt_m1000001; omega), ⟨fun h => absurd h (by omega), fun _ => (fun k => (f4.1 25 0 k (by simp) (by decide)).trans ((fun _ => rfl) k))⟩⟩⟩

abbrev MS_X11_copyQ : List (Nat × Nat) := [(0, 12)]
abbrev AS_X11_copyQ : List Nat := [21]
set_option maxHeartbeats 4000000 in
set_option maxRecDepth 100000 in
theorem c_X11_copyQ (l : Launch) (G : Gt) (σ : Sg) (a1 : Int32) (a2 : Int32) (a3 : Int32) (a4 : Int32) (a5 : Int32) (hI : Inv σ) : Mc l G yX11_copy cX11_copy 8 (some .int) 1 60 0 0 [.ref (G.1 0 0), .int a1, .int a2, .int a3, .int a4, .int a5] σ (PI fun r τ => Inv τ ∧ Fr MS_X11_copyQ AS_X11_copyQ σ τ ∧ IV r (-2147483648) 2147483647 ∧ ((((a1.toInt < 0 ∨ 7 < a1.toInt ∨ a3.toInt < 0 ∨ 7 < a3.toInt) ∧ r.toInt = -1000001) ∨ ((0 ≤ a1.toInt ∧ a1.toInt ≤ 7 ∧ 0 ≤ a3.toInt ∧ a3.toInt ≤ 7) ∧ ((gV σ 20 (a1.toInt.toNat) 1).toInt = -1 ∨ (gV σ 20 (a3.toInt.toNat) 1).toInt = -1) ∧ r.toInt = -1000011) ∨ ((0 ≤ a1.toInt ∧ a1.toInt ≤ 7 ∧ 0 ≤ a3.toInt ∧ a3.toInt ≤ 7) ∧ ¬ ((gV σ 20 (a1.toInt.toNat) 1).toInt = -1) ∧ ¬ ((gV σ 20 (a3.toInt.toNat) 1).toInt = -1) ∧ (gV σ 20 (a1.toInt.toNat) 1).toInt ≠ (gV σ 20 (a3.toInt.toNat) 1).toInt ∧ r.toInt = -1000015) ∨ ((0 ≤ a1.toInt ∧ a1.toInt ≤ 7 ∧ 0 ≤ a3.toInt ∧ a3.toInt ≤ 7) ∧ ¬ ((gV σ 20 (a1.toInt.toNat) 1).toInt = -1) ∧ ¬ ((gV σ 20 (a3.toInt.toNat) 1).toInt = -1) ∧ (gV σ 20 (a1.toInt.toNat) 1).toInt = (gV σ 20 (a3.toInt.toNat) 1).toInt ∧ ¬ (0 ≤ a2.toInt ∧ 0 ≤ a4.toInt ∧ 0 ≤ a5.toInt ∧ a2.toInt + a5.toInt ≤ (gV σ 20 (a1.toInt.toNat) 2).toInt ∧ a4.toInt + a5.toInt ≤ (gV σ 20 (a3.toInt.toNat) 2).toInt) ∧ r.toInt = -1000012) ∨ ((0 ≤ a1.toInt ∧ a1.toInt ≤ 7 ∧ 0 ≤ a3.toInt ∧ a3.toInt ≤ 7) ∧ ¬ ((gV σ 20 (a1.toInt.toNat) 1).toInt = -1) ∧ ¬ ((gV σ 20 (a3.toInt.toNat) 1).toInt = -1) ∧ (gV σ 20 (a1.toInt.toNat) 1).toInt = (gV σ 20 (a3.toInt.toNat) 1).toInt ∧ (0 ≤ a2.toInt ∧ 0 ≤ a4.toInt ∧ 0 ≤ a5.toInt ∧ a2.toInt + a5.toInt ≤ (gV σ 20 (a1.toInt.toNat) 2).toInt ∧ a4.toInt + a5.toInt ≤ (gV σ 20 (a3.toInt.toNat) 2).toInt) ∧ r.toInt = a5.toInt)) ∧ (((a1.toInt < 0 ∨ 7 < a1.toInt ∨ a3.toInt < 0 ∨ 7 < a3.toInt) → (gV τ 0 0 12).toInt = (gV σ 0 0 12).toInt) ∧ (((0 ≤ a1.toInt ∧ a1.toInt ≤ 7 ∧ 0 ≤ a3.toInt ∧ a3.toInt ≤ 7) ∧ ((gV σ 20 (a1.toInt.toNat) 1).toInt = -1 ∨ (gV σ 20 (a3.toInt.toNat) 1).toInt = -1)) → (gV τ 0 0 12).toInt = 1) ∧ (((0 ≤ a1.toInt ∧ a1.toInt ≤ 7 ∧ 0 ≤ a3.toInt ∧ a3.toInt ≤ 7) ∧ ¬ ((gV σ 20 (a1.toInt.toNat) 1).toInt = -1) ∧ ¬ ((gV σ 20 (a3.toInt.toNat) 1).toInt = -1) ∧ ¬ ((gV σ 20 (a1.toInt.toNat) 1).toInt = (gV σ 20 (a3.toInt.toNat) 1).toInt)) → (gV τ 0 0 12).toInt = 5) ∧ (((0 ≤ a1.toInt ∧ a1.toInt ≤ 7 ∧ 0 ≤ a3.toInt ∧ a3.toInt ≤ 7) ∧ ¬ ((gV σ 20 (a1.toInt.toNat) 1).toInt = -1) ∧ ¬ ((gV σ 20 (a3.toInt.toNat) 1).toInt = -1) ∧ (gV σ 20 (a1.toInt.toNat) 1).toInt = (gV σ 20 (a3.toInt.toNat) 1).toInt ∧ ¬ (0 ≤ a2.toInt ∧ 0 ≤ a4.toInt ∧ 0 ≤ a5.toInt ∧ a2.toInt + a5.toInt ≤ (gV σ 20 (a1.toInt.toNat) 2).toInt ∧ a4.toInt + a5.toInt ≤ (gV σ 20 (a3.toInt.toNat) 2).toInt)) → (gV τ 0 0 12).toInt = 2) ∧ (((0 ≤ a1.toInt ∧ a1.toInt ≤ 7 ∧ 0 ≤ a3.toInt ∧ a3.toInt ≤ 7) ∧ ¬ ((gV σ 20 (a1.toInt.toNat) 1).toInt = -1) ∧ ¬ ((gV σ 20 (a3.toInt.toNat) 1).toInt = -1) ∧ (gV σ 20 (a1.toInt.toNat) 1).toInt = (gV σ 20 (a3.toInt.toNat) 1).toInt ∧ (0 ≤ a2.toInt ∧ 0 ≤ a4.toInt ∧ 0 ≤ a5.toInt ∧ a2.toInt + a5.toInt ≤ (gV σ 20 (a1.toInt.toNat) 2).toInt ∧ a4.toInt + a5.toInt ≤ (gV σ 20 (a3.toInt.toNat) 2).toInt)) → (gV τ 0 0 12).toInt = 0)) ∧ ((((0 ≤ a1.toInt ∧ a1.toInt ≤ 7 ∧ 0 ≤ a3.toInt ∧ a3.toInt ≤ 7) ∧ ¬ ((gV σ 20 (a1.toInt.toNat) 1).toInt = -1) ∧ ¬ ((gV σ 20 (a3.toInt.toNat) 1).toInt = -1) ∧ (gV σ 20 (a1.toInt.toNat) 1).toInt = (gV σ 20 (a3.toInt.toNat) 1).toInt ∧ (0 ≤ a2.toInt ∧ 0 ≤ a4.toInt ∧ 0 ≤ a5.toInt ∧ a2.toInt + a5.toInt ≤ (gV σ 20 (a1.toInt.toNat) 2).toInt ∧ a4.toInt + a5.toInt ≤ (gV σ 20 (a3.toInt.toNat) 2).toInt)) → IC σ τ (a1.toInt.toNat) (a2.toInt.toNat) (a3.toInt.toNat) (a4.toInt.toNat) (a5.toInt.toNat)) ∧ (¬ ((0 ≤ a1.toInt ∧ a1.toInt ≤ 7 ∧ 0 ≤ a3.toInt ∧ a3.toInt ≤ 7) ∧ ¬ ((gV σ 20 (a1.toInt.toNat) 1).toInt = -1) ∧ ¬ ((gV σ 20 (a3.toInt.toNat) 1).toInt = -1) ∧ (gV σ 20 (a1.toInt.toNat) 1).toInt = (gV σ 20 (a3.toInt.toNat) 1).toInt ∧ (0 ≤ a2.toInt ∧ 0 ≤ a4.toInt ∧ 0 ≤ a5.toInt ∧ a2.toInt + a5.toInt ≤ (gV σ 20 (a1.toInt.toNat) 2).toInt ∧ a4.toInt + a5.toInt ≤ (gV σ 20 (a3.toInt.toNat) 2).toInt)) → SameI σ τ)))) := by
  refine Mc.of (L0 := [some (.ref (G.1 0 0)), some (.int a1), some (.int a2), some (.int a3), some (.int a4), some (.int a5), none, none]) (by decide) (Nat.le_of_ble_eq_true rfl) rfl ?_
  intro p e s m args below meth c C hr hlk
  have C : Cx p s m args c cX11_copy 8 "LeanTower" := C
  have k0 : (0 : Int32).toInt = 0 := by decide
  have k1 : (1 : Int32).toInt = 1 := by decide
  have u1 : IV (gV σ 20 (a1.toInt.toNat) 2) 0 40 := hI.1 20 (a1.toInt.toNat) 2
  have u2 : IV (gV σ 20 (a3.toInt.toNat) 2) 0 40 := hI.1 20 (a3.toInt.toNat) 2
  refine m_aload_n C dX11_copy_0 rfl rfl ?_
  refine m_iload_n C dX11_copy_1 rfl rfl ?_
  refine m_callV (n := 1) (ci := 10) (st := []) C (c_X11_rowAt l G σ (a1) hI ) (by decide) (by decide) rfl rfl rfl q1_233 q1_230 q1_232 q0_0 q1_1 (by decide +kernel) rfl (by decide) (by decide) rfl (Nat.le_of_ble_eq_true rfl) dX11_copy_2 ?_
  rintro _ τ3 ⟨x6, rfl, i4, f5, h9⟩
  have g8 : Fr MS_X11_copyQ AS_X11_copyQ σ τ3 := Fr.call (Fr.rf) f5 (by decide)
  have q10 : (gV τ3 0 0 12).toInt = (gV σ 0 0 12).toInt := congrArg Int32.toInt (show (gV τ3 0 0 12) = (gV σ 0 0 12) from (show gV τ3 0 0 12 = (gV σ 0 0 12) from (f5.1 0 0 (12) (by decide) (by decide)).trans rfl))
  have q11 : (gV τ3 20 (a1.toInt.toNat) 1).toInt = (gV σ 20 (a1.toInt.toNat) 1).toInt := congrArg Int32.toInt (show (gV τ3 20 (a1.toInt.toNat) 1) = (gV σ 20 (a1.toInt.toNat) 1) from (show gV τ3 20 (a1.toInt.toNat) 1 = (gV σ 20 (a1.toInt.toNat) 1) from (f5.1 20 (a1.toInt.toNat) (1) (by decide) (by decide)).trans rfl))
  have q12 : (gV τ3 20 (a1.toInt.toNat) 2).toInt = (gV σ 20 (a1.toInt.toNat) 2).toInt := congrArg Int32.toInt (show (gV τ3 20 (a1.toInt.toNat) 2) = (gV σ 20 (a1.toInt.toNat) 2) from (show gV τ3 20 (a1.toInt.toNat) 2 = (gV σ 20 (a1.toInt.toNat) 2) from (f5.1 20 (a1.toInt.toNat) (2) (by decide) (by decide)).trans rfl))
  have q13 : (gV τ3 20 (a3.toInt.toNat) 1).toInt = (gV σ 20 (a3.toInt.toNat) 1).toInt := congrArg Int32.toInt (show (gV τ3 20 (a3.toInt.toNat) 1) = (gV σ 20 (a3.toInt.toNat) 1) from (show gV τ3 20 (a3.toInt.toNat) 1 = (gV σ 20 (a3.toInt.toNat) 1) from (f5.1 20 (a3.toInt.toNat) (1) (by decide) (by decide)).trans rfl))
  have q14 : (gV τ3 20 (a3.toInt.toNat) 2).toInt = (gV σ 20 (a3.toInt.toNat) 2).toInt := congrArg Int32.toInt (show (gV τ3 20 (a3.toInt.toNat) 2) = (gV σ 20 (a3.toInt.toNat) 2) from (show gV τ3 20 (a3.toInt.toNat) 2 = (gV σ 20 (a3.toInt.toNat) 2) from (f5.1 20 (a3.toInt.toNat) (2) (by decide) (by decide)).trans rfl))
  rcases h9 with ⟨rfl, x6q⟩ | ⟨rfl, x6q⟩
  · skip
    show MW p l e _ s m args below meth c _ 8 G 0 0 5 [some (.ref (G.1 0 0)), some (.int a1), some (.int a2), some (.int a3), some (.int a4), some (.int a5), none, none] [.null] τ3
    refine m_astoreN (L1 := [some (.ref (G.1 0 0)), some (.int a1), some (.int a2), some (.int a3), some (.int a4), some (.int a5), some (.null), none]) C dX11_copy_5 (by decide) rfl rfl ?_
    refine m_aload_n C dX11_copy_7 rfl rfl ?_
    refine m_iload_n C dX11_copy_8 rfl rfl ?_
    refine m_callV (n := 1) (ci := 10) (st := []) C (c_X11_rowAt l G τ3 (a3) i4 ) (by decide) (by decide) rfl rfl rfl q1_233 q1_230 q1_232 q0_0 q1_1 (by decide +kernel) rfl (by decide) (by decide) rfl (Nat.le_of_ble_eq_true rfl) dX11_copy_9 ?_
    rintro _ τ15 ⟨x18, rfl, i16, f17, h21⟩
    have g20 : Fr MS_X11_copyQ AS_X11_copyQ σ τ15 := Fr.call (g8) f17 (by decide)
    have q22 : (gV τ15 0 0 12).toInt = (gV σ 0 0 12).toInt := congrArg Int32.toInt (show (gV τ15 0 0 12) = (gV σ 0 0 12) from (show gV τ15 0 0 12 = (gV σ 0 0 12) from (f17.1 0 0 (12) (by decide) (by decide)).trans (show gV τ3 0 0 12 = (gV σ 0 0 12) from (f5.1 0 0 (12) (by decide) (by decide)).trans rfl)))
    have q23 : (gV τ15 20 (a1.toInt.toNat) 1).toInt = (gV σ 20 (a1.toInt.toNat) 1).toInt := congrArg Int32.toInt (show (gV τ15 20 (a1.toInt.toNat) 1) = (gV σ 20 (a1.toInt.toNat) 1) from (show gV τ15 20 (a1.toInt.toNat) 1 = (gV σ 20 (a1.toInt.toNat) 1) from (f17.1 20 (a1.toInt.toNat) (1) (by decide) (by decide)).trans (show gV τ3 20 (a1.toInt.toNat) 1 = (gV σ 20 (a1.toInt.toNat) 1) from (f5.1 20 (a1.toInt.toNat) (1) (by decide) (by decide)).trans rfl)))
    have q24 : (gV τ15 20 (a1.toInt.toNat) 2).toInt = (gV σ 20 (a1.toInt.toNat) 2).toInt := congrArg Int32.toInt (show (gV τ15 20 (a1.toInt.toNat) 2) = (gV σ 20 (a1.toInt.toNat) 2) from (show gV τ15 20 (a1.toInt.toNat) 2 = (gV σ 20 (a1.toInt.toNat) 2) from (f17.1 20 (a1.toInt.toNat) (2) (by decide) (by decide)).trans (show gV τ3 20 (a1.toInt.toNat) 2 = (gV σ 20 (a1.toInt.toNat) 2) from (f5.1 20 (a1.toInt.toNat) (2) (by decide) (by decide)).trans rfl)))
    have q25 : (gV τ15 20 (a3.toInt.toNat) 1).toInt = (gV σ 20 (a3.toInt.toNat) 1).toInt := congrArg Int32.toInt (show (gV τ15 20 (a3.toInt.toNat) 1) = (gV σ 20 (a3.toInt.toNat) 1) from (show gV τ15 20 (a3.toInt.toNat) 1 = (gV σ 20 (a3.toInt.toNat) 1) from (f17.1 20 (a3.toInt.toNat) (1) (by decide) (by decide)).trans (show gV τ3 20 (a3.toInt.toNat) 1 = (gV σ 20 (a3.toInt.toNat) 1) from (f5.1 20 (a3.toInt.toNat) (1) (by decide) (by decide)).trans rfl)))
    have q26 : (gV τ15 20 (a3.toInt.toNat) 2).toInt = (gV σ 20 (a3.toInt.toNat) 2).toInt := congrArg Int32.toInt (show (gV τ15 20 (a3.toInt.toNat) 2) = (gV σ 20 (a3.toInt.toNat) 2) from (show gV τ15 20 (a3.toInt.toNat) 2 = (gV σ 20 (a3.toInt.toNat) 2) from (f17.1 20 (a3.toInt.toNat) (2) (by decide) (by decide)).trans (show gV τ3 20 (a3.toInt.toNat) 2 = (gV σ 20 (a3.toInt.toNat) 2) from (f5.1 20 (a3.toInt.toNat) (2) (by decide) (by decide)).trans rfl)))
    rcases h21 with ⟨rfl, x18q⟩ | ⟨rfl, x18q⟩
    · skip
      show MW p l e _ s m args below meth c _ 8 G 0 0 12 [some (.ref (G.1 0 0)), some (.int a1), some (.int a2), some (.int a3), some (.int a4), some (.int a5), some (.null), none] [.null] τ15
      refine m_astoreN (L1 := [some (.ref (G.1 0 0)), some (.int a1), some (.int a2), some (.int a3), some (.int a4), some (.int a5), some (.null), some (.null)]) C dX11_copy_12 (by decide) rfl rfl ?_
      refine m_aloadN C dX11_copy_14 rfl ?_
      refine m_ifnullN (tgt := 24) C dX11_copy_16 (by decide) ?_
      refine m_ldc (v := (-1000001)) C dX11_copy_24 q1_234 ?_
      exact m_iret C hr hlk (by decide) (by decide) dX11_copy_26 ⟨_, rfl, i16, g20, (iv_wk kc_m1000001 (by decide)), ⟨(Or.inl ⟨by have q := kt_m1000001; omega, by have q := kt_m1000001; omega⟩), (by have qk := kt_m1000001; omega), ⟨fun h => absurd h (by omega), fun _ => (fun j i => (f17.1 21 j i (by simp) (by decide)).trans ((fun j i => (f5.1 21 j i (by simp) (by decide)).trans ((fun _ _ => rfl) j i)) j i))⟩⟩⟩
    · have b27 : IV a3 0 7 := ⟨by have q1 := (iv_any a3); omega, by have q1 := (iv_any a3); omega⟩
      show MW p l e _ s m args below meth c _ 8 G 0 0 12 [some (.ref (G.1 0 0)), some (.int a1), some (.int a2), some (.int a3), some (.int a4), some (.int a5), some (.null), none] [.ref (G.1 20 (a3.toInt.toNat))] τ15
      refine m_astore (L1 := [some (.ref (G.1 0 0)), some (.int a1), some (.int a2), some (.int a3), some (.int a4), some (.int a5), some (.null), some (.ref (G.1 20 (a3.toInt.toNat)))]) C dX11_copy_12 (by decide) rfl rfl ?_
      refine m_aloadN C dX11_copy_14 rfl ?_
      refine m_ifnullN (tgt := 24) C dX11_copy_16 (by decide) ?_
      refine m_ldc (v := (-1000001)) C dX11_copy_24 q1_234 ?_
      exact m_iret C hr hlk (by decide) (by decide) dX11_copy_26 ⟨_, rfl, i16, g20, (iv_wk kc_m1000001 (by decide)), ⟨(Or.inl ⟨by have q := kt_m1000001; omega, by have q := kt_m1000001; omega⟩), (by have qk := kt_m1000001; omega), ⟨fun h => absurd h (by omega), fun _ => (fun j i => (f17.1 21 j i (by simp) (by decide)).trans ((fun j i => (f5.1 21 j i (by simp) (by decide)).trans ((fun _ _ => rfl) j i)) j i))⟩⟩⟩
  · have b28 : IV a1 0 7 := ⟨by have q1 := (iv_any a1); omega, by have q1 := (iv_any a1); omega⟩
    show MW p l e _ s m args below meth c _ 8 G 0 0 5 [some (.ref (G.1 0 0)), some (.int a1), some (.int a2), some (.int a3), some (.int a4), some (.int a5), none, none] [.ref (G.1 20 (a1.toInt.toNat))] τ3
    refine m_astore (L1 := [some (.ref (G.1 0 0)), some (.int a1), some (.int a2), some (.int a3), some (.int a4), some (.int a5), some (.ref (G.1 20 (a1.toInt.toNat))), none]) C dX11_copy_5 (by decide) rfl rfl ?_
    refine m_aload_n C dX11_copy_7 rfl rfl ?_
    refine m_iload_n C dX11_copy_8 rfl rfl ?_
    refine m_callV (n := 1) (ci := 10) (st := []) C (c_X11_rowAt l G τ3 (a3) i4 ) (by decide) (by decide) rfl rfl rfl q1_233 q1_230 q1_232 q0_0 q1_1 (by decide +kernel) rfl (by decide) (by decide) rfl (Nat.le_of_ble_eq_true rfl) dX11_copy_9 ?_
    rintro _ τ29 ⟨x32, rfl, i30, f31, h35⟩
    have g34 : Fr MS_X11_copyQ AS_X11_copyQ σ τ29 := Fr.call (g8) f31 (by decide)
    have q36 : (gV τ29 0 0 12).toInt = (gV σ 0 0 12).toInt := congrArg Int32.toInt (show (gV τ29 0 0 12) = (gV σ 0 0 12) from (show gV τ29 0 0 12 = (gV σ 0 0 12) from (f31.1 0 0 (12) (by decide) (by decide)).trans (show gV τ3 0 0 12 = (gV σ 0 0 12) from (f5.1 0 0 (12) (by decide) (by decide)).trans rfl)))
    have q37 : (gV τ29 20 (a1.toInt.toNat) 1).toInt = (gV σ 20 (a1.toInt.toNat) 1).toInt := congrArg Int32.toInt (show (gV τ29 20 (a1.toInt.toNat) 1) = (gV σ 20 (a1.toInt.toNat) 1) from (show gV τ29 20 (a1.toInt.toNat) 1 = (gV σ 20 (a1.toInt.toNat) 1) from (f31.1 20 (a1.toInt.toNat) (1) (by decide) (by decide)).trans (show gV τ3 20 (a1.toInt.toNat) 1 = (gV σ 20 (a1.toInt.toNat) 1) from (f5.1 20 (a1.toInt.toNat) (1) (by decide) (by decide)).trans rfl)))
    have q38 : (gV τ29 20 (a1.toInt.toNat) 2).toInt = (gV σ 20 (a1.toInt.toNat) 2).toInt := congrArg Int32.toInt (show (gV τ29 20 (a1.toInt.toNat) 2) = (gV σ 20 (a1.toInt.toNat) 2) from (show gV τ29 20 (a1.toInt.toNat) 2 = (gV σ 20 (a1.toInt.toNat) 2) from (f31.1 20 (a1.toInt.toNat) (2) (by decide) (by decide)).trans (show gV τ3 20 (a1.toInt.toNat) 2 = (gV σ 20 (a1.toInt.toNat) 2) from (f5.1 20 (a1.toInt.toNat) (2) (by decide) (by decide)).trans rfl)))
    have q39 : (gV τ29 20 (a3.toInt.toNat) 1).toInt = (gV σ 20 (a3.toInt.toNat) 1).toInt := congrArg Int32.toInt (show (gV τ29 20 (a3.toInt.toNat) 1) = (gV σ 20 (a3.toInt.toNat) 1) from (show gV τ29 20 (a3.toInt.toNat) 1 = (gV σ 20 (a3.toInt.toNat) 1) from (f31.1 20 (a3.toInt.toNat) (1) (by decide) (by decide)).trans (show gV τ3 20 (a3.toInt.toNat) 1 = (gV σ 20 (a3.toInt.toNat) 1) from (f5.1 20 (a3.toInt.toNat) (1) (by decide) (by decide)).trans rfl)))
    have q40 : (gV τ29 20 (a3.toInt.toNat) 2).toInt = (gV σ 20 (a3.toInt.toNat) 2).toInt := congrArg Int32.toInt (show (gV τ29 20 (a3.toInt.toNat) 2) = (gV σ 20 (a3.toInt.toNat) 2) from (show gV τ29 20 (a3.toInt.toNat) 2 = (gV σ 20 (a3.toInt.toNat) 2) from (f31.1 20 (a3.toInt.toNat) (2) (by decide) (by decide)).trans (show gV τ3 20 (a3.toInt.toNat) 2 = (gV σ 20 (a3.toInt.toNat) 2) from (f5.1 20 (a3.toInt.toNat) (2) (by decide) (by decide)).trans rfl)))
    rcases h35 with ⟨rfl, x32q⟩ | ⟨rfl, x32q⟩
    · skip
      show MW p l e _ s m args below meth c _ 8 G 0 0 12 [some (.ref (G.1 0 0)), some (.int a1), some (.int a2), some (.int a3), some (.int a4), some (.int a5), some (.ref (G.1 20 (a1.toInt.toNat))), none] [.null] τ29
      refine m_astoreN (L1 := [some (.ref (G.1 0 0)), some (.int a1), some (.int a2), some (.int a3), some (.int a4), some (.int a5), some (.ref (G.1 20 (a1.toInt.toNat))), some (.null)]) C dX11_copy_12 (by decide) rfl rfl ?_
      refine m_aload C dX11_copy_14 rfl ?_
      refine m_ifnull C dX11_copy_16 ?_
      refine m_aloadN C dX11_copy_19 rfl ?_
      refine m_ifnonnullN C dX11_copy_21 ?_
      refine m_ldc (v := (-1000001)) C dX11_copy_24 q1_234 ?_
      exact m_iret C hr hlk (by decide) (by decide) dX11_copy_26 ⟨_, rfl, i30, g34, (iv_wk kc_m1000001 (by decide)), ⟨(Or.inl ⟨by have q := kt_m1000001; omega, by have q := kt_m1000001; omega⟩), (by have qk := kt_m1000001; omega), ⟨fun h => absurd h (by omega), fun _ => (fun j i => (f31.1 21 j i (by simp) (by decide)).trans ((fun j i => (f5.1 21 j i (by simp) (by decide)).trans ((fun _ _ => rfl) j i)) j i))⟩⟩⟩
    · have b41 : IV a3 0 7 := ⟨by have q1 := (iv_any a3); omega, by have q1 := (iv_any a3); omega⟩
      show MW p l e _ s m args below meth c _ 8 G 0 0 12 [some (.ref (G.1 0 0)), some (.int a1), some (.int a2), some (.int a3), some (.int a4), some (.int a5), some (.ref (G.1 20 (a1.toInt.toNat))), none] [.ref (G.1 20 (a3.toInt.toNat))] τ29
      refine m_astore (L1 := [some (.ref (G.1 0 0)), some (.int a1), some (.int a2), some (.int a3), some (.int a4), some (.int a5), some (.ref (G.1 20 (a1.toInt.toNat))), some (.ref (G.1 20 (a3.toInt.toNat)))]) C dX11_copy_12 (by decide) rfl rfl ?_
      refine m_aload C dX11_copy_14 rfl ?_
      refine m_ifnull C dX11_copy_16 ?_
      refine m_aload C dX11_copy_19 rfl ?_
      refine m_ifnonnull (tgt := 27) C dX11_copy_21 (by decide) ?_
      refine m_aload C dX11_copy_27 rfl ?_
      refine m_callV (n := 0) (ci := 6) (st := []) C (c_X7_isMissingE l G τ29 (j := (a1.toInt.toNat)) (iv_nat b28 (by decide))  i30 ) (by decide) (iv_nat b28 (by decide)) rfl rfl rfl q2_15 q2_12 q2_13 q2_14 q1_6 (by decide +kernel) rfl (by decide) (by decide) rfl (Nat.le_of_ble_eq_true rfl) dX11_copy_29 ?_
      rintro _ τ42 ⟨x45, rfl, i43, f44, b46, h48⟩
      have g47 : Fr MS_X11_copyQ AS_X11_copyQ σ τ42 := Fr.call (g34) f44 (by decide)
      have q49 : (gV τ42 0 0 12).toInt = (gV σ 0 0 12).toInt := congrArg Int32.toInt (show (gV τ42 0 0 12) = (gV σ 0 0 12) from (show gV τ42 0 0 12 = (gV σ 0 0 12) from (f44.1 0 0 (12) (by decide) (by decide)).trans (show gV τ29 0 0 12 = (gV σ 0 0 12) from (f31.1 0 0 (12) (by decide) (by decide)).trans (show gV τ3 0 0 12 = (gV σ 0 0 12) from (f5.1 0 0 (12) (by decide) (by decide)).trans rfl))))
      have q50 : (gV τ42 20 (a1.toInt.toNat) 1).toInt = (gV σ 20 (a1.toInt.toNat) 1).toInt := congrArg Int32.toInt (show (gV τ42 20 (a1.toInt.toNat) 1) = (gV σ 20 (a1.toInt.toNat) 1) from (show gV τ42 20 (a1.toInt.toNat) 1 = (gV σ 20 (a1.toInt.toNat) 1) from (f44.1 20 (a1.toInt.toNat) (1) (by decide) (by decide)).trans (show gV τ29 20 (a1.toInt.toNat) 1 = (gV σ 20 (a1.toInt.toNat) 1) from (f31.1 20 (a1.toInt.toNat) (1) (by decide) (by decide)).trans (show gV τ3 20 (a1.toInt.toNat) 1 = (gV σ 20 (a1.toInt.toNat) 1) from (f5.1 20 (a1.toInt.toNat) (1) (by decide) (by decide)).trans rfl))))
      have q51 : (gV τ42 20 (a1.toInt.toNat) 2).toInt = (gV σ 20 (a1.toInt.toNat) 2).toInt := congrArg Int32.toInt (show (gV τ42 20 (a1.toInt.toNat) 2) = (gV σ 20 (a1.toInt.toNat) 2) from (show gV τ42 20 (a1.toInt.toNat) 2 = (gV σ 20 (a1.toInt.toNat) 2) from (f44.1 20 (a1.toInt.toNat) (2) (by decide) (by decide)).trans (show gV τ29 20 (a1.toInt.toNat) 2 = (gV σ 20 (a1.toInt.toNat) 2) from (f31.1 20 (a1.toInt.toNat) (2) (by decide) (by decide)).trans (show gV τ3 20 (a1.toInt.toNat) 2 = (gV σ 20 (a1.toInt.toNat) 2) from (f5.1 20 (a1.toInt.toNat) (2) (by decide) (by decide)).trans rfl))))
      have q52 : (gV τ42 20 (a3.toInt.toNat) 1).toInt = (gV σ 20 (a3.toInt.toNat) 1).toInt := congrArg Int32.toInt (show (gV τ42 20 (a3.toInt.toNat) 1) = (gV σ 20 (a3.toInt.toNat) 1) from (show gV τ42 20 (a3.toInt.toNat) 1 = (gV σ 20 (a3.toInt.toNat) 1) from (f44.1 20 (a3.toInt.toNat) (1) (by decide) (by decide)).trans (show gV τ29 20 (a3.toInt.toNat) 1 = (gV σ 20 (a3.toInt.toNat) 1) from (f31.1 20 (a3.toInt.toNat) (1) (by decide) (by decide)).trans (show gV τ3 20 (a3.toInt.toNat) 1 = (gV σ 20 (a3.toInt.toNat) 1) from (f5.1 20 (a3.toInt.toNat) (1) (by decide) (by decide)).trans rfl))))
      have q53 : (gV τ42 20 (a3.toInt.toNat) 2).toInt = (gV σ 20 (a3.toInt.toNat) 2).toInt := congrArg Int32.toInt (show (gV τ42 20 (a3.toInt.toNat) 2) = (gV σ 20 (a3.toInt.toNat) 2) from (show gV τ42 20 (a3.toInt.toNat) 2 = (gV σ 20 (a3.toInt.toNat) 2) from (f44.1 20 (a3.toInt.toNat) (2) (by decide) (by decide)).trans (show gV τ29 20 (a3.toInt.toNat) 2 = (gV σ 20 (a3.toInt.toNat) 2) from (f31.1 20 (a3.toInt.toNat) (2) (by decide) (by decide)).trans (show gV τ3 20 (a3.toInt.toNat) 2 = (gV σ 20 (a3.toInt.toNat) 2) from (f5.1 20 (a3.toInt.toNat) (2) (by decide) (by decide)).trans rfl))))
      rcases h48 with ⟨h48_0, h48_1⟩ | ⟨h48_0, h48_1⟩
      · skip
        have b54 : IV x45 1 1 := ⟨by omega, by omega⟩
        show MW p l e _ s m args below meth c _ 8 G 0 0 32 [some (.ref (G.1 0 0)), some (.int a1), some (.int a2), some (.int a3), some (.int a4), some (.int a5), some (.ref (G.1 20 (a1.toInt.toNat))), some (.ref (G.1 20 (a3.toInt.toNat)))] [.int x45] τ42
        refine m_if_ne (tgt := 43) C dX11_copy_32 (by decide) (fun c55 => ?_) (fun c55 => ?_)
        · have f56 : x45.toInt ≠ 0 := by
            have q : _ := c55
            simp only [ti_nle, ti_nlt, ti_le, ti_lt, ti_eq, ti_ne, Classical.not_not, kt_0] at q
            omega
          refine m_aload_n C dX11_copy_43 rfl rfl ?_
          refine m_iconst (v := 1) C dX11_copy_44 (by decide) ?_
          have q57 := kt_1
          refine m_callV (n := 1) (ci := 10) (st := []) C (c_X11_foundQ l G τ42 (1) i43 (iv_wk kc_1 (by decide))) (by decide) (by decide) rfl rfl rfl q1_238 q1_235 q1_237 q0_1 q1_1 (by decide +kernel) rfl (by decide) (by decide) rfl (Nat.le_of_ble_eq_true rfl) dX11_copy_45 ?_
          rintro _ τ58 ⟨x61, rfl, i59, f60, b62, h64⟩
          have g63 : Fr MS_X11_copyQ AS_X11_copyQ σ τ58 := Fr.call (g47) f60 (by decide)
          have q65 : (gV τ58 20 (a1.toInt.toNat) 1).toInt = (gV σ 20 (a1.toInt.toNat) 1).toInt := congrArg Int32.toInt (show (gV τ58 20 (a1.toInt.toNat) 1) = (gV σ 20 (a1.toInt.toNat) 1) from (show gV τ58 20 (a1.toInt.toNat) 1 = (gV σ 20 (a1.toInt.toNat) 1) from (f60.1 20 (a1.toInt.toNat) (1) (by decide) (by decide)).trans (show gV τ42 20 (a1.toInt.toNat) 1 = (gV σ 20 (a1.toInt.toNat) 1) from (f44.1 20 (a1.toInt.toNat) (1) (by decide) (by decide)).trans (show gV τ29 20 (a1.toInt.toNat) 1 = (gV σ 20 (a1.toInt.toNat) 1) from (f31.1 20 (a1.toInt.toNat) (1) (by decide) (by decide)).trans (show gV τ3 20 (a1.toInt.toNat) 1 = (gV σ 20 (a1.toInt.toNat) 1) from (f5.1 20 (a1.toInt.toNat) (1) (by decide) (by decide)).trans rfl)))))
          have q66 : (gV τ58 20 (a1.toInt.toNat) 2).toInt = (gV σ 20 (a1.toInt.toNat) 2).toInt := congrArg Int32.toInt (show (gV τ58 20 (a1.toInt.toNat) 2) = (gV σ 20 (a1.toInt.toNat) 2) from (show gV τ58 20 (a1.toInt.toNat) 2 = (gV σ 20 (a1.toInt.toNat) 2) from (f60.1 20 (a1.toInt.toNat) (2) (by decide) (by decide)).trans (show gV τ42 20 (a1.toInt.toNat) 2 = (gV σ 20 (a1.toInt.toNat) 2) from (f44.1 20 (a1.toInt.toNat) (2) (by decide) (by decide)).trans (show gV τ29 20 (a1.toInt.toNat) 2 = (gV σ 20 (a1.toInt.toNat) 2) from (f31.1 20 (a1.toInt.toNat) (2) (by decide) (by decide)).trans (show gV τ3 20 (a1.toInt.toNat) 2 = (gV σ 20 (a1.toInt.toNat) 2) from (f5.1 20 (a1.toInt.toNat) (2) (by decide) (by decide)).trans rfl)))))
          have q67 : (gV τ58 20 (a3.toInt.toNat) 1).toInt = (gV σ 20 (a3.toInt.toNat) 1).toInt := congrArg Int32.toInt (show (gV τ58 20 (a3.toInt.toNat) 1) = (gV σ 20 (a3.toInt.toNat) 1) from (show gV τ58 20 (a3.toInt.toNat) 1 = (gV σ 20 (a3.toInt.toNat) 1) from (f60.1 20 (a3.toInt.toNat) (1) (by decide) (by decide)).trans (show gV τ42 20 (a3.toInt.toNat) 1 = (gV σ 20 (a3.toInt.toNat) 1) from (f44.1 20 (a3.toInt.toNat) (1) (by decide) (by decide)).trans (show gV τ29 20 (a3.toInt.toNat) 1 = (gV σ 20 (a3.toInt.toNat) 1) from (f31.1 20 (a3.toInt.toNat) (1) (by decide) (by decide)).trans (show gV τ3 20 (a3.toInt.toNat) 1 = (gV σ 20 (a3.toInt.toNat) 1) from (f5.1 20 (a3.toInt.toNat) (1) (by decide) (by decide)).trans rfl)))))
          have q68 : (gV τ58 20 (a3.toInt.toNat) 2).toInt = (gV σ 20 (a3.toInt.toNat) 2).toInt := congrArg Int32.toInt (show (gV τ58 20 (a3.toInt.toNat) 2) = (gV σ 20 (a3.toInt.toNat) 2) from (show gV τ58 20 (a3.toInt.toNat) 2 = (gV σ 20 (a3.toInt.toNat) 2) from (f60.1 20 (a3.toInt.toNat) (2) (by decide) (by decide)).trans (show gV τ42 20 (a3.toInt.toNat) 2 = (gV σ 20 (a3.toInt.toNat) 2) from (f44.1 20 (a3.toInt.toNat) (2) (by decide) (by decide)).trans (show gV τ29 20 (a3.toInt.toNat) 2 = (gV σ 20 (a3.toInt.toNat) 2) from (f31.1 20 (a3.toInt.toNat) (2) (by decide) (by decide)).trans (show gV τ3 20 (a3.toInt.toNat) 2 = (gV σ 20 (a3.toInt.toNat) 2) from (f5.1 20 (a3.toInt.toNat) (2) (by decide) (by decide)).trans rfl)))))
          have q69 := kt_1
          show MW p l e _ s m args below meth c _ 8 G 0 0 48 [some (.ref (G.1 0 0)), some (.int a1), some (.int a2), some (.int a3), some (.int a4), some (.int a5), some (.ref (G.1 20 (a1.toInt.toNat))), some (.ref (G.1 20 (a3.toInt.toNat)))] [.int x61] τ58
          exact m_iret C hr hlk (by decide) (by decide) dX11_copy_48 ⟨_, rfl, i59, g63, (iv_wk b62 (by decide)), ⟨(Or.inr (Or.inl ⟨by omega, by omega, by omega⟩)), (by omega), ⟨fun h => absurd h (by omega), fun _ => (fun j i => (f60.1 21 j i (by simp) (by decide)).trans ((fun j i => (f44.1 21 j i (by simp) (by decide)).trans ((fun j i => (f31.1 21 j i (by simp) (by decide)).trans ((fun j i => (f5.1 21 j i (by simp) (by decide)).trans ((fun _ _ => rfl) j i)) j i)) j i)) j i))⟩⟩⟩
        · exfalso
          have q : _ := c55
          simp only [ti_nle, ti_nlt, ti_le, ti_lt, ti_eq, ti_ne, Classical.not_not, kt_0] at q
          have q1 := b54; have q2 := kc_0; omega
      · skip
        have b71 : IV x45 0 0 := ⟨by omega, by omega⟩
        show MW p l e _ s m args below meth c _ 8 G 0 0 32 [some (.ref (G.1 0 0)), some (.int a1), some (.int a2), some (.int a3), some (.int a4), some (.int a5), some (.ref (G.1 20 (a1.toInt.toNat))), some (.ref (G.1 20 (a3.toInt.toNat)))] [.int x45] τ42
        refine m_if_ne (tgt := 43) C dX11_copy_32 (by decide) (fun c72 => ?_) (fun c72 => ?_)
        · exfalso
          have q : _ := c72
          simp only [ti_nle, ti_nlt, ti_le, ti_lt, ti_eq, ti_ne, Classical.not_not, kt_0] at q
          have q1 := b71; have q2 := kc_0; omega
        · have f74 : x45.toInt = 0 := by
            have q : _ := c72
            simp only [ti_nle, ti_nlt, ti_le, ti_lt, ti_eq, ti_ne, Classical.not_not, kt_0] at q
            omega
          refine m_aload C dX11_copy_35 rfl ?_
          refine m_callV (n := 0) (ci := 6) (st := []) C (c_X7_isMissingE l G τ42 (j := (a3.toInt.toNat)) (iv_nat b41 (by decide))  i43 ) (by decide) (iv_nat b41 (by decide)) rfl rfl rfl q2_15 q2_12 q2_13 q2_14 q1_6 (by decide +kernel) rfl (by decide) (by decide) rfl (Nat.le_of_ble_eq_true rfl) dX11_copy_37 ?_
          rintro _ τ75 ⟨x78, rfl, i76, f77, b79, h81⟩
          have g80 : Fr MS_X11_copyQ AS_X11_copyQ σ τ75 := Fr.call (g47) f77 (by decide)
          have q82 : (gV τ75 0 0 12).toInt = (gV σ 0 0 12).toInt := congrArg Int32.toInt (show (gV τ75 0 0 12) = (gV σ 0 0 12) from (show gV τ75 0 0 12 = (gV σ 0 0 12) from (f77.1 0 0 (12) (by decide) (by decide)).trans (show gV τ42 0 0 12 = (gV σ 0 0 12) from (f44.1 0 0 (12) (by decide) (by decide)).trans (show gV τ29 0 0 12 = (gV σ 0 0 12) from (f31.1 0 0 (12) (by decide) (by decide)).trans (show gV τ3 0 0 12 = (gV σ 0 0 12) from (f5.1 0 0 (12) (by decide) (by decide)).trans rfl)))))
          have q83 : (gV τ75 20 (a1.toInt.toNat) 1).toInt = (gV σ 20 (a1.toInt.toNat) 1).toInt := congrArg Int32.toInt (show (gV τ75 20 (a1.toInt.toNat) 1) = (gV σ 20 (a1.toInt.toNat) 1) from (show gV τ75 20 (a1.toInt.toNat) 1 = (gV σ 20 (a1.toInt.toNat) 1) from (f77.1 20 (a1.toInt.toNat) (1) (by decide) (by decide)).trans (show gV τ42 20 (a1.toInt.toNat) 1 = (gV σ 20 (a1.toInt.toNat) 1) from (f44.1 20 (a1.toInt.toNat) (1) (by decide) (by decide)).trans (show gV τ29 20 (a1.toInt.toNat) 1 = (gV σ 20 (a1.toInt.toNat) 1) from (f31.1 20 (a1.toInt.toNat) (1) (by decide) (by decide)).trans (show gV τ3 20 (a1.toInt.toNat) 1 = (gV σ 20 (a1.toInt.toNat) 1) from (f5.1 20 (a1.toInt.toNat) (1) (by decide) (by decide)).trans rfl)))))
          have q84 : (gV τ75 20 (a1.toInt.toNat) 2).toInt = (gV σ 20 (a1.toInt.toNat) 2).toInt := congrArg Int32.toInt (show (gV τ75 20 (a1.toInt.toNat) 2) = (gV σ 20 (a1.toInt.toNat) 2) from (show gV τ75 20 (a1.toInt.toNat) 2 = (gV σ 20 (a1.toInt.toNat) 2) from (f77.1 20 (a1.toInt.toNat) (2) (by decide) (by decide)).trans (show gV τ42 20 (a1.toInt.toNat) 2 = (gV σ 20 (a1.toInt.toNat) 2) from (f44.1 20 (a1.toInt.toNat) (2) (by decide) (by decide)).trans (show gV τ29 20 (a1.toInt.toNat) 2 = (gV σ 20 (a1.toInt.toNat) 2) from (f31.1 20 (a1.toInt.toNat) (2) (by decide) (by decide)).trans (show gV τ3 20 (a1.toInt.toNat) 2 = (gV σ 20 (a1.toInt.toNat) 2) from (f5.1 20 (a1.toInt.toNat) (2) (by decide) (by decide)).trans rfl)))))
          have q85 : (gV τ75 20 (a3.toInt.toNat) 1).toInt = (gV σ 20 (a3.toInt.toNat) 1).toInt := congrArg Int32.toInt (show (gV τ75 20 (a3.toInt.toNat) 1) = (gV σ 20 (a3.toInt.toNat) 1) from (show gV τ75 20 (a3.toInt.toNat) 1 = (gV σ 20 (a3.toInt.toNat) 1) from (f77.1 20 (a3.toInt.toNat) (1) (by decide) (by decide)).trans (show gV τ42 20 (a3.toInt.toNat) 1 = (gV σ 20 (a3.toInt.toNat) 1) from (f44.1 20 (a3.toInt.toNat) (1) (by decide) (by decide)).trans (show gV τ29 20 (a3.toInt.toNat) 1 = (gV σ 20 (a3.toInt.toNat) 1) from (f31.1 20 (a3.toInt.toNat) (1) (by decide) (by decide)).trans (show gV τ3 20 (a3.toInt.toNat) 1 = (gV σ 20 (a3.toInt.toNat) 1) from (f5.1 20 (a3.toInt.toNat) (1) (by decide) (by decide)).trans rfl)))))
          have q86 : (gV τ75 20 (a3.toInt.toNat) 2).toInt = (gV σ 20 (a3.toInt.toNat) 2).toInt := congrArg Int32.toInt (show (gV τ75 20 (a3.toInt.toNat) 2) = (gV σ 20 (a3.toInt.toNat) 2) from (show gV τ75 20 (a3.toInt.toNat) 2 = (gV σ 20 (a3.toInt.toNat) 2) from (f77.1 20 (a3.toInt.toNat) (2) (by decide) (by decide)).trans (show gV τ42 20 (a3.toInt.toNat) 2 = (gV σ 20 (a3.toInt.toNat) 2) from (f44.1 20 (a3.toInt.toNat) (2) (by decide) (by decide)).trans (show gV τ29 20 (a3.toInt.toNat) 2 = (gV σ 20 (a3.toInt.toNat) 2) from (f31.1 20 (a3.toInt.toNat) (2) (by decide) (by decide)).trans (show gV τ3 20 (a3.toInt.toNat) 2 = (gV σ 20 (a3.toInt.toNat) 2) from (f5.1 20 (a3.toInt.toNat) (2) (by decide) (by decide)).trans rfl)))))
          rcases h81 with ⟨h81_0, h81_1⟩ | ⟨h81_0, h81_1⟩
          · skip
            have b87 : IV x78 1 1 := ⟨by omega, by omega⟩
            show MW p l e _ s m args below meth c _ 8 G 0 0 40 [some (.ref (G.1 0 0)), some (.int a1), some (.int a2), some (.int a3), some (.int a4), some (.int a5), some (.ref (G.1 20 (a1.toInt.toNat))), some (.ref (G.1 20 (a3.toInt.toNat)))] [.int x78] τ75
            refine m_if_eq (tgt := 49) C dX11_copy_40 (by decide) (fun c88 => ?_) (fun c88 => ?_)
            · exfalso
              have q : _ := c88
              simp only [ti_nle, ti_nlt, ti_le, ti_lt, ti_eq, ti_ne, Classical.not_not, kt_0] at q
              have q1 := b87; have q2 := kc_0; omega
            · have f90 : x78.toInt ≠ 0 := by
                have q : _ := c88
                simp only [ti_nle, ti_nlt, ti_le, ti_lt, ti_eq, ti_ne, Classical.not_not, kt_0] at q
                omega
              refine m_aload_n C dX11_copy_43 rfl rfl ?_
              refine m_iconst (v := 1) C dX11_copy_44 (by decide) ?_
              have q91 := kt_1
              refine m_callV (n := 1) (ci := 10) (st := []) C (c_X11_foundQ l G τ75 (1) i76 (iv_wk kc_1 (by decide))) (by decide) (by decide) rfl rfl rfl q1_238 q1_235 q1_237 q0_1 q1_1 (by decide +kernel) rfl (by decide) (by decide) rfl (Nat.le_of_ble_eq_true rfl) dX11_copy_45 ?_
              rintro _ τ92 ⟨x95, rfl, i93, f94, b96, h98⟩
              have g97 : Fr MS_X11_copyQ AS_X11_copyQ σ τ92 := Fr.call (g80) f94 (by decide)
              have q99 : (gV τ92 20 (a1.toInt.toNat) 1).toInt = (gV σ 20 (a1.toInt.toNat) 1).toInt := congrArg Int32.toInt (show (gV τ92 20 (a1.toInt.toNat) 1) = (gV σ 20 (a1.toInt.toNat) 1) from (show gV τ92 20 (a1.toInt.toNat) 1 = (gV σ 20 (a1.toInt.toNat) 1) from (f94.1 20 (a1.toInt.toNat) (1) (by decide) (by decide)).trans (show gV τ75 20 (a1.toInt.toNat) 1 = (gV σ 20 (a1.toInt.toNat) 1) from (f77.1 20 (a1.toInt.toNat) (1) (by decide) (by decide)).trans (show gV τ42 20 (a1.toInt.toNat) 1 = (gV σ 20 (a1.toInt.toNat) 1) from (f44.1 20 (a1.toInt.toNat) (1) (by decide) (by decide)).trans (show gV τ29 20 (a1.toInt.toNat) 1 = (gV σ 20 (a1.toInt.toNat) 1) from (f31.1 20 (a1.toInt.toNat) (1) (by decide) (by decide)).trans (show gV τ3 20 (a1.toInt.toNat) 1 = (gV σ 20 (a1.toInt.toNat) 1) from (f5.1 20 (a1.toInt.toNat) (1) (by decide) (by decide)).trans rfl))))))
              have q100 : (gV τ92 20 (a1.toInt.toNat) 2).toInt = (gV σ 20 (a1.toInt.toNat) 2).toInt := congrArg Int32.toInt (show (gV τ92 20 (a1.toInt.toNat) 2) = (gV σ 20 (a1.toInt.toNat) 2) from (show gV τ92 20 (a1.toInt.toNat) 2 = (gV σ 20 (a1.toInt.toNat) 2) from (f94.1 20 (a1.toInt.toNat) (2) (by decide) (by decide)).trans (show gV τ75 20 (a1.toInt.toNat) 2 = (gV σ 20 (a1.toInt.toNat) 2) from (f77.1 20 (a1.toInt.toNat) (2) (by decide) (by decide)).trans (show gV τ42 20 (a1.toInt.toNat) 2 = (gV σ 20 (a1.toInt.toNat) 2) from (f44.1 20 (a1.toInt.toNat) (2) (by decide) (by decide)).trans (show gV τ29 20 (a1.toInt.toNat) 2 = (gV σ 20 (a1.toInt.toNat) 2) from (f31.1 20 (a1.toInt.toNat) (2) (by decide) (by decide)).trans (show gV τ3 20 (a1.toInt.toNat) 2 = (gV σ 20 (a1.toInt.toNat) 2) from (f5.1 20 (a1.toInt.toNat) (2) (by decide) (by decide)).trans rfl))))))
              have q101 : (gV τ92 20 (a3.toInt.toNat) 1).toInt = (gV σ 20 (a3.toInt.toNat) 1).toInt := congrArg Int32.toInt (show (gV τ92 20 (a3.toInt.toNat) 1) = (gV σ 20 (a3.toInt.toNat) 1) from (show gV τ92 20 (a3.toInt.toNat) 1 = (gV σ 20 (a3.toInt.toNat) 1) from (f94.1 20 (a3.toInt.toNat) (1) (by decide) (by decide)).trans (show gV τ75 20 (a3.toInt.toNat) 1 = (gV σ 20 (a3.toInt.toNat) 1) from (f77.1 20 (a3.toInt.toNat) (1) (by decide) (by decide)).trans (show gV τ42 20 (a3.toInt.toNat) 1 = (gV σ 20 (a3.toInt.toNat) 1) from (f44.1 20 (a3.toInt.toNat) (1) (by decide) (by decide)).trans (show gV τ29 20 (a3.toInt.toNat) 1 = (gV σ 20 (a3.toInt.toNat) 1) from (f31.1 20 (a3.toInt.toNat) (1) (by decide) (by decide)).trans (show gV τ3 20 (a3.toInt.toNat) 1 = (gV σ 20 (a3.toInt.toNat) 1) from (f5.1 20 (a3.toInt.toNat) (1) (by decide) (by decide)).trans rfl))))))
              have q102 : (gV τ92 20 (a3.toInt.toNat) 2).toInt = (gV σ 20 (a3.toInt.toNat) 2).toInt := congrArg Int32.toInt (show (gV τ92 20 (a3.toInt.toNat) 2) = (gV σ 20 (a3.toInt.toNat) 2) from (show gV τ92 20 (a3.toInt.toNat) 2 = (gV σ 20 (a3.toInt.toNat) 2) from (f94.1 20 (a3.toInt.toNat) (2) (by decide) (by decide)).trans (show gV τ75 20 (a3.toInt.toNat) 2 = (gV σ 20 (a3.toInt.toNat) 2) from (f77.1 20 (a3.toInt.toNat) (2) (by decide) (by decide)).trans (show gV τ42 20 (a3.toInt.toNat) 2 = (gV σ 20 (a3.toInt.toNat) 2) from (f44.1 20 (a3.toInt.toNat) (2) (by decide) (by decide)).trans (show gV τ29 20 (a3.toInt.toNat) 2 = (gV σ 20 (a3.toInt.toNat) 2) from (f31.1 20 (a3.toInt.toNat) (2) (by decide) (by decide)).trans (show gV τ3 20 (a3.toInt.toNat) 2 = (gV σ 20 (a3.toInt.toNat) 2) from (f5.1 20 (a3.toInt.toNat) (2) (by decide) (by decide)).trans rfl))))))
              have q103 := kt_1
              show MW p l e _ s m args below meth c _ 8 G 0 0 48 [some (.ref (G.1 0 0)), some (.int a1), some (.int a2), some (.int a3), some (.int a4), some (.int a5), some (.ref (G.1 20 (a1.toInt.toNat))), some (.ref (G.1 20 (a3.toInt.toNat)))] [.int x95] τ92
              exact m_iret C hr hlk (by decide) (by decide) dX11_copy_48 ⟨_, rfl, i93, g97, (iv_wk b96 (by decide)), ⟨(Or.inr (Or.inl ⟨by omega, by omega, by omega⟩)), (by omega), ⟨fun h => absurd h (by omega), fun _ => (fun j i => (f94.1 21 j i (by simp) (by decide)).trans ((fun j i => (f77.1 21 j i (by simp) (by decide)).trans ((fun j i => (f44.1 21 j i (by simp) (by decide)).trans ((fun j i => (f31.1 21 j i (by simp) (by decide)).trans ((fun j i => (f5.1 21 j i (by simp) (by decide)).trans ((fun _ _ => rfl) j i)) j i)) j i)) j i)) j i))⟩⟩⟩
          · skip
            have b104 : IV x78 0 0 := ⟨by omega, by omega⟩
            show MW p l e _ s m args below meth c _ 8 G 0 0 40 [some (.ref (G.1 0 0)), some (.int a1), some (.int a2), some (.int a3), some (.int a4), some (.int a5), some (.ref (G.1 20 (a1.toInt.toNat))), some (.ref (G.1 20 (a3.toInt.toNat)))] [.int x78] τ75
            refine m_if_eq (tgt := 49) C dX11_copy_40 (by decide) (fun c105 => ?_) (fun c105 => ?_)
            · have f106 : x78.toInt = 0 := by
                have q : _ := c105
                simp only [ti_nle, ti_nlt, ti_le, ti_lt, ti_eq, ti_ne, Classical.not_not, kt_0] at q
                omega
              refine m_aload C dX11_copy_49 rfl ?_
              refine g_20_1 C (iv_nat b28 (by decide)) q1_175 dX11_copy_51 ?_
              refine m_eqs (w := (gV σ 20 (a1.toInt.toNat) 1)) (show gV τ75 20 (a1.toInt.toNat) 1 = (gV σ 20 (a1.toInt.toNat) 1) from (f77.1 20 (a1.toInt.toNat) (1) (by decide) (by decide)).trans (show gV τ42 20 (a1.toInt.toNat) 1 = (gV σ 20 (a1.toInt.toNat) 1) from (f44.1 20 (a1.toInt.toNat) (1) (by decide) (by decide)).trans (show gV τ29 20 (a1.toInt.toNat) 1 = (gV σ 20 (a1.toInt.toNat) 1) from (f31.1 20 (a1.toInt.toNat) (1) (by decide) (by decide)).trans (show gV τ3 20 (a1.toInt.toNat) 1 = (gV σ 20 (a1.toInt.toNat) 1) from (f5.1 20 (a1.toInt.toNat) (1) (by decide) (by decide)).trans rfl)))) ?_
              refine m_aload C dX11_copy_54 rfl ?_
              refine g_20_1 C (iv_nat b41 (by decide)) q1_175 dX11_copy_56 ?_
              refine m_eqs (w := (gV σ 20 (a3.toInt.toNat) 1)) (show gV τ75 20 (a3.toInt.toNat) 1 = (gV σ 20 (a3.toInt.toNat) 1) from (f77.1 20 (a3.toInt.toNat) (1) (by decide) (by decide)).trans (show gV τ42 20 (a3.toInt.toNat) 1 = (gV σ 20 (a3.toInt.toNat) 1) from (f44.1 20 (a3.toInt.toNat) (1) (by decide) (by decide)).trans (show gV τ29 20 (a3.toInt.toNat) 1 = (gV σ 20 (a3.toInt.toNat) 1) from (f31.1 20 (a3.toInt.toNat) (1) (by decide) (by decide)).trans (show gV τ3 20 (a3.toInt.toNat) 1 = (gV σ 20 (a3.toInt.toNat) 1) from (f5.1 20 (a3.toInt.toNat) (1) (by decide) (by decide)).trans rfl)))) ?_
              refine m_icmp_eq (tgt := 68) C dX11_copy_59 (by decide) (fun c107 => ?_) (fun c107 => ?_)
              · have f108 : (gV σ 20 (a1.toInt.toNat) 1).toInt = (gV σ 20 (a3.toInt.toNat) 1).toInt := by
                  have q : _ := c107
                  simp only [ti_nle, ti_nlt, ti_le, ti_lt, ti_eq, ti_ne, Classical.not_not] at q
                  omega
                refine m_aload C dX11_copy_68 rfl ?_
                refine m_iload_n C dX11_copy_70 rfl rfl ?_
                refine m_iload C dX11_copy_71 rfl ?_
                refine m_callV (n := 2) (ci := 6) (st := []) C (c_X7_reachesE l G τ75 (j := (a1.toInt.toNat)) (iv_nat b28 (by decide)) (a2) (a5) i76 ) (by decide) (iv_nat b28 (by decide)) rfl rfl rfl q2_27 q2_24 q2_25 q2_26 q1_6 (by decide +kernel) rfl (by decide) (by decide) rfl (Nat.le_of_ble_eq_true rfl) dX11_copy_73 ?_
                rintro _ τ109 ⟨x112, rfl, i110, f111, b113, h115⟩
                have g114 : Fr MS_X11_copyQ AS_X11_copyQ σ τ109 := Fr.call (g80) f111 (by decide)
                have q116 : (gV τ109 0 0 12).toInt = (gV σ 0 0 12).toInt := congrArg Int32.toInt (show (gV τ109 0 0 12) = (gV σ 0 0 12) from (show gV τ109 0 0 12 = (gV σ 0 0 12) from (f111.1 0 0 (12) (by decide) (by decide)).trans (show gV τ75 0 0 12 = (gV σ 0 0 12) from (f77.1 0 0 (12) (by decide) (by decide)).trans (show gV τ42 0 0 12 = (gV σ 0 0 12) from (f44.1 0 0 (12) (by decide) (by decide)).trans (show gV τ29 0 0 12 = (gV σ 0 0 12) from (f31.1 0 0 (12) (by decide) (by decide)).trans (show gV τ3 0 0 12 = (gV σ 0 0 12) from (f5.1 0 0 (12) (by decide) (by decide)).trans rfl))))))
                have q117 : (gV τ109 20 (a1.toInt.toNat) 1).toInt = (gV σ 20 (a1.toInt.toNat) 1).toInt := congrArg Int32.toInt (show (gV τ109 20 (a1.toInt.toNat) 1) = (gV σ 20 (a1.toInt.toNat) 1) from (show gV τ109 20 (a1.toInt.toNat) 1 = (gV σ 20 (a1.toInt.toNat) 1) from (f111.1 20 (a1.toInt.toNat) (1) (by decide) (by decide)).trans (show gV τ75 20 (a1.toInt.toNat) 1 = (gV σ 20 (a1.toInt.toNat) 1) from (f77.1 20 (a1.toInt.toNat) (1) (by decide) (by decide)).trans (show gV τ42 20 (a1.toInt.toNat) 1 = (gV σ 20 (a1.toInt.toNat) 1) from (f44.1 20 (a1.toInt.toNat) (1) (by decide) (by decide)).trans (show gV τ29 20 (a1.toInt.toNat) 1 = (gV σ 20 (a1.toInt.toNat) 1) from (f31.1 20 (a1.toInt.toNat) (1) (by decide) (by decide)).trans (show gV τ3 20 (a1.toInt.toNat) 1 = (gV σ 20 (a1.toInt.toNat) 1) from (f5.1 20 (a1.toInt.toNat) (1) (by decide) (by decide)).trans rfl))))))
                have q118 : (gV τ109 20 (a1.toInt.toNat) 2).toInt = (gV σ 20 (a1.toInt.toNat) 2).toInt := congrArg Int32.toInt (show (gV τ109 20 (a1.toInt.toNat) 2) = (gV σ 20 (a1.toInt.toNat) 2) from (show gV τ109 20 (a1.toInt.toNat) 2 = (gV σ 20 (a1.toInt.toNat) 2) from (f111.1 20 (a1.toInt.toNat) (2) (by decide) (by decide)).trans (show gV τ75 20 (a1.toInt.toNat) 2 = (gV σ 20 (a1.toInt.toNat) 2) from (f77.1 20 (a1.toInt.toNat) (2) (by decide) (by decide)).trans (show gV τ42 20 (a1.toInt.toNat) 2 = (gV σ 20 (a1.toInt.toNat) 2) from (f44.1 20 (a1.toInt.toNat) (2) (by decide) (by decide)).trans (show gV τ29 20 (a1.toInt.toNat) 2 = (gV σ 20 (a1.toInt.toNat) 2) from (f31.1 20 (a1.toInt.toNat) (2) (by decide) (by decide)).trans (show gV τ3 20 (a1.toInt.toNat) 2 = (gV σ 20 (a1.toInt.toNat) 2) from (f5.1 20 (a1.toInt.toNat) (2) (by decide) (by decide)).trans rfl))))))
                have q119 : (gV τ109 20 (a3.toInt.toNat) 1).toInt = (gV σ 20 (a3.toInt.toNat) 1).toInt := congrArg Int32.toInt (show (gV τ109 20 (a3.toInt.toNat) 1) = (gV σ 20 (a3.toInt.toNat) 1) from (show gV τ109 20 (a3.toInt.toNat) 1 = (gV σ 20 (a3.toInt.toNat) 1) from (f111.1 20 (a3.toInt.toNat) (1) (by decide) (by decide)).trans (show gV τ75 20 (a3.toInt.toNat) 1 = (gV σ 20 (a3.toInt.toNat) 1) from (f77.1 20 (a3.toInt.toNat) (1) (by decide) (by decide)).trans (show gV τ42 20 (a3.toInt.toNat) 1 = (gV σ 20 (a3.toInt.toNat) 1) from (f44.1 20 (a3.toInt.toNat) (1) (by decide) (by decide)).trans (show gV τ29 20 (a3.toInt.toNat) 1 = (gV σ 20 (a3.toInt.toNat) 1) from (f31.1 20 (a3.toInt.toNat) (1) (by decide) (by decide)).trans (show gV τ3 20 (a3.toInt.toNat) 1 = (gV σ 20 (a3.toInt.toNat) 1) from (f5.1 20 (a3.toInt.toNat) (1) (by decide) (by decide)).trans rfl))))))
                have q120 : (gV τ109 20 (a3.toInt.toNat) 2).toInt = (gV σ 20 (a3.toInt.toNat) 2).toInt := congrArg Int32.toInt (show (gV τ109 20 (a3.toInt.toNat) 2) = (gV σ 20 (a3.toInt.toNat) 2) from (show gV τ109 20 (a3.toInt.toNat) 2 = (gV σ 20 (a3.toInt.toNat) 2) from (f111.1 20 (a3.toInt.toNat) (2) (by decide) (by decide)).trans (show gV τ75 20 (a3.toInt.toNat) 2 = (gV σ 20 (a3.toInt.toNat) 2) from (f77.1 20 (a3.toInt.toNat) (2) (by decide) (by decide)).trans (show gV τ42 20 (a3.toInt.toNat) 2 = (gV σ 20 (a3.toInt.toNat) 2) from (f44.1 20 (a3.toInt.toNat) (2) (by decide) (by decide)).trans (show gV τ29 20 (a3.toInt.toNat) 2 = (gV σ 20 (a3.toInt.toNat) 2) from (f31.1 20 (a3.toInt.toNat) (2) (by decide) (by decide)).trans (show gV τ3 20 (a3.toInt.toNat) 2 = (gV σ 20 (a3.toInt.toNat) 2) from (f5.1 20 (a3.toInt.toNat) (2) (by decide) (by decide)).trans rfl))))))
                rcases h115 with ⟨h115_0, h115_1, h115_2, h115_3⟩ | ⟨h115_0, h115_1⟩
                · skip
                  have b121 : IV x112 1 1 := ⟨by omega, by omega⟩
                  show MW p l e _ s m args below meth c _ 8 G 0 0 76 [some (.ref (G.1 0 0)), some (.int a1), some (.int a2), some (.int a3), some (.int a4), some (.int a5), some (.ref (G.1 20 (a1.toInt.toNat))), some (.ref (G.1 20 (a3.toInt.toNat)))] [.int x112] τ109
                  refine m_if_eq (tgt := 91) C dX11_copy_76 (by decide) (fun c122 => ?_) (fun c122 => ?_)
                  · exfalso
                    have q : _ := c122
                    simp only [ti_nle, ti_nlt, ti_le, ti_lt, ti_eq, ti_ne, Classical.not_not, kt_0] at q
                    have q1 := b121; have q2 := kc_0; omega
                  · have f124 : x112.toInt ≠ 0 := by
                      have q : _ := c122
                      simp only [ti_nle, ti_nlt, ti_le, ti_lt, ti_eq, ti_ne, Classical.not_not, kt_0] at q
                      omega
                    refine m_aload C dX11_copy_79 rfl ?_
                    refine m_iload C dX11_copy_81 rfl ?_
                    refine m_iload C dX11_copy_83 rfl ?_
                    refine m_callV (n := 2) (ci := 6) (st := []) C (c_X7_reachesE l G τ109 (j := (a3.toInt.toNat)) (iv_nat b41 (by decide)) (a4) (a5) i110 ) (by decide) (iv_nat b41 (by decide)) rfl rfl rfl q2_27 q2_24 q2_25 q2_26 q1_6 (by decide +kernel) rfl (by decide) (by decide) rfl (Nat.le_of_ble_eq_true rfl) dX11_copy_85 ?_
                    rintro _ τ125 ⟨x128, rfl, i126, f127, b129, h131⟩
                    have g130 : Fr MS_X11_copyQ AS_X11_copyQ σ τ125 := Fr.call (g114) f127 (by decide)
                    have q132 : (gV τ125 0 0 12).toInt = (gV σ 0 0 12).toInt := congrArg Int32.toInt (show (gV τ125 0 0 12) = (gV σ 0 0 12) from (show gV τ125 0 0 12 = (gV σ 0 0 12) from (f127.1 0 0 (12) (by decide) (by decide)).trans (show gV τ109 0 0 12 = (gV σ 0 0 12) from (f111.1 0 0 (12) (by decide) (by decide)).trans (show gV τ75 0 0 12 = (gV σ 0 0 12) from (f77.1 0 0 (12) (by decide) (by decide)).trans (show gV τ42 0 0 12 = (gV σ 0 0 12) from (f44.1 0 0 (12) (by decide) (by decide)).trans (show gV τ29 0 0 12 = (gV σ 0 0 12) from (f31.1 0 0 (12) (by decide) (by decide)).trans (show gV τ3 0 0 12 = (gV σ 0 0 12) from (f5.1 0 0 (12) (by decide) (by decide)).trans rfl)))))))
                    have q133 : (gV τ125 20 (a1.toInt.toNat) 1).toInt = (gV σ 20 (a1.toInt.toNat) 1).toInt := congrArg Int32.toInt (show (gV τ125 20 (a1.toInt.toNat) 1) = (gV σ 20 (a1.toInt.toNat) 1) from (show gV τ125 20 (a1.toInt.toNat) 1 = (gV σ 20 (a1.toInt.toNat) 1) from (f127.1 20 (a1.toInt.toNat) (1) (by decide) (by decide)).trans (show gV τ109 20 (a1.toInt.toNat) 1 = (gV σ 20 (a1.toInt.toNat) 1) from (f111.1 20 (a1.toInt.toNat) (1) (by decide) (by decide)).trans (show gV τ75 20 (a1.toInt.toNat) 1 = (gV σ 20 (a1.toInt.toNat) 1) from (f77.1 20 (a1.toInt.toNat) (1) (by decide) (by decide)).trans (show gV τ42 20 (a1.toInt.toNat) 1 = (gV σ 20 (a1.toInt.toNat) 1) from (f44.1 20 (a1.toInt.toNat) (1) (by decide) (by decide)).trans (show gV τ29 20 (a1.toInt.toNat) 1 = (gV σ 20 (a1.toInt.toNat) 1) from (f31.1 20 (a1.toInt.toNat) (1) (by decide) (by decide)).trans (show gV τ3 20 (a1.toInt.toNat) 1 = (gV σ 20 (a1.toInt.toNat) 1) from (f5.1 20 (a1.toInt.toNat) (1) (by decide) (by decide)).trans rfl)))))))
                    have q134 : (gV τ125 20 (a1.toInt.toNat) 2).toInt = (gV σ 20 (a1.toInt.toNat) 2).toInt := congrArg Int32.toInt (show (gV τ125 20 (a1.toInt.toNat) 2) = (gV σ 20 (a1.toInt.toNat) 2) from (show gV τ125 20 (a1.toInt.toNat) 2 = (gV σ 20 (a1.toInt.toNat) 2) from (f127.1 20 (a1.toInt.toNat) (2) (by decide) (by decide)).trans (show gV τ109 20 (a1.toInt.toNat) 2 = (gV σ 20 (a1.toInt.toNat) 2) from (f111.1 20 (a1.toInt.toNat) (2) (by decide) (by decide)).trans (show gV τ75 20 (a1.toInt.toNat) 2 = (gV σ 20 (a1.toInt.toNat) 2) from (f77.1 20 (a1.toInt.toNat) (2) (by decide) (by decide)).trans (show gV τ42 20 (a1.toInt.toNat) 2 = (gV σ 20 (a1.toInt.toNat) 2) from (f44.1 20 (a1.toInt.toNat) (2) (by decide) (by decide)).trans (show gV τ29 20 (a1.toInt.toNat) 2 = (gV σ 20 (a1.toInt.toNat) 2) from (f31.1 20 (a1.toInt.toNat) (2) (by decide) (by decide)).trans (show gV τ3 20 (a1.toInt.toNat) 2 = (gV σ 20 (a1.toInt.toNat) 2) from (f5.1 20 (a1.toInt.toNat) (2) (by decide) (by decide)).trans rfl)))))))
                    have q135 : (gV τ125 20 (a3.toInt.toNat) 1).toInt = (gV σ 20 (a3.toInt.toNat) 1).toInt := congrArg Int32.toInt (show (gV τ125 20 (a3.toInt.toNat) 1) = (gV σ 20 (a3.toInt.toNat) 1) from (show gV τ125 20 (a3.toInt.toNat) 1 = (gV σ 20 (a3.toInt.toNat) 1) from (f127.1 20 (a3.toInt.toNat) (1) (by decide) (by decide)).trans (show gV τ109 20 (a3.toInt.toNat) 1 = (gV σ 20 (a3.toInt.toNat) 1) from (f111.1 20 (a3.toInt.toNat) (1) (by decide) (by decide)).trans (show gV τ75 20 (a3.toInt.toNat) 1 = (gV σ 20 (a3.toInt.toNat) 1) from (f77.1 20 (a3.toInt.toNat) (1) (by decide) (by decide)).trans (show gV τ42 20 (a3.toInt.toNat) 1 = (gV σ 20 (a3.toInt.toNat) 1) from (f44.1 20 (a3.toInt.toNat) (1) (by decide) (by decide)).trans (show gV τ29 20 (a3.toInt.toNat) 1 = (gV σ 20 (a3.toInt.toNat) 1) from (f31.1 20 (a3.toInt.toNat) (1) (by decide) (by decide)).trans (show gV τ3 20 (a3.toInt.toNat) 1 = (gV σ 20 (a3.toInt.toNat) 1) from (f5.1 20 (a3.toInt.toNat) (1) (by decide) (by decide)).trans rfl)))))))
                    have q136 : (gV τ125 20 (a3.toInt.toNat) 2).toInt = (gV σ 20 (a3.toInt.toNat) 2).toInt := congrArg Int32.toInt (show (gV τ125 20 (a3.toInt.toNat) 2) = (gV σ 20 (a3.toInt.toNat) 2) from (show gV τ125 20 (a3.toInt.toNat) 2 = (gV σ 20 (a3.toInt.toNat) 2) from (f127.1 20 (a3.toInt.toNat) (2) (by decide) (by decide)).trans (show gV τ109 20 (a3.toInt.toNat) 2 = (gV σ 20 (a3.toInt.toNat) 2) from (f111.1 20 (a3.toInt.toNat) (2) (by decide) (by decide)).trans (show gV τ75 20 (a3.toInt.toNat) 2 = (gV σ 20 (a3.toInt.toNat) 2) from (f77.1 20 (a3.toInt.toNat) (2) (by decide) (by decide)).trans (show gV τ42 20 (a3.toInt.toNat) 2 = (gV σ 20 (a3.toInt.toNat) 2) from (f44.1 20 (a3.toInt.toNat) (2) (by decide) (by decide)).trans (show gV τ29 20 (a3.toInt.toNat) 2 = (gV σ 20 (a3.toInt.toNat) 2) from (f31.1 20 (a3.toInt.toNat) (2) (by decide) (by decide)).trans (show gV τ3 20 (a3.toInt.toNat) 2 = (gV σ 20 (a3.toInt.toNat) 2) from (f5.1 20 (a3.toInt.toNat) (2) (by decide) (by decide)).trans rfl)))))))
                    rcases h131 with ⟨h131_0, h131_1, h131_2, h131_3⟩ | ⟨h131_0, h131_1⟩
                    · skip
                      have b137 : IV x128 1 1 := ⟨by omega, by omega⟩
                      show MW p l e _ s m args below meth c _ 8 G 0 0 88 [some (.ref (G.1 0 0)), some (.int a1), some (.int a2), some (.int a3), some (.int a4), some (.int a5), some (.ref (G.1 20 (a1.toInt.toNat))), some (.ref (G.1 20 (a3.toInt.toNat)))] [.int x128] τ125
                      refine m_if_ne (tgt := 97) C dX11_copy_88 (by decide) (fun c138 => ?_) (fun c138 => ?_)
                      · have f139 : x128.toInt ≠ 0 := by
                          have q : _ := c138
                          simp only [ti_nle, ti_nlt, ti_le, ti_lt, ti_eq, ti_ne, Classical.not_not, kt_0] at q
                          omega
                        refine m_aload C dX11_copy_97 rfl ?_
                        refine g_20_0 C (iv_nat b28 (by decide)) q1_173 dX11_copy_99 ?_
                        refine m_iload_n C dX11_copy_102 rfl rfl ?_
                        refine m_aload C dX11_copy_103 rfl ?_
                        refine g_20_0 C (iv_nat b41 (by decide)) q1_173 dX11_copy_105 ?_
                        refine m_iload C dX11_copy_108 rfl ?_
                        refine m_iload C dX11_copy_110 rfl ?_
                        have q140 := (iv_any a5)
                        have q141 := kt_0
                        refine m_copy (t0 := 21) (n0 := 40) (t1 := 21) (n1 := 40) (st := []) C (by decide) (iv_nat b28 (by decide)) rfl (by decide) (iv_nat b41 (by decide)) (fun _ => rfl) ⟨by omega, by omega, by omega, by omega, by omega⟩ q2_28 q2_30 q2_29 q1_8 ⟨by decide, by decide +kernel⟩ dX11_copy_112 ?_
                        refine m_tops (fun τ142 eτ142 => ?_)
                        have i143 : Inv τ142 := eτ142 ▸ Inv.putRow i126 (by decide) (fun _ => rfl)
                        have f144 : Fr MS_X11_copyQ AS_X11_copyQ σ τ142 := eτ142 ▸ Fr.putRow (g130) (by decide)
                        refine m_aload_n C dX11_copy_115 rfl rfl ?_
                        refine m_iload C dX11_copy_116 rfl ?_
                        refine m_callV (n := 1) (ci := 10) (st := []) C (c_X11_cleanQ l G τ142 (a5) i143 ) (by decide) (by decide) rfl rfl rfl q2_7 q2_4 q2_6 q0_2 q1_1 (by decide +kernel) rfl (by decide) (by decide) rfl (Nat.le_of_ble_eq_true rfl) dX11_copy_118 ?_
                        rintro _ τ145 ⟨x148, rfl, i146, f147, b149, h151⟩
                        have g150 : Fr MS_X11_copyQ AS_X11_copyQ σ τ145 := Fr.call (f144) f147 (by decide)
                        have u152 : IV (gV τ145 20 (a1.toInt.toNat) 2) 0 40 := i146.1 20 (a1.toInt.toNat) 2
                        have u153 : IV (gV τ145 20 (a3.toInt.toNat) 2) 0 40 := i146.1 20 (a3.toInt.toNat) 2
                        show MW p l e _ s m args below meth c _ 8 G 0 0 121 [some (.ref (G.1 0 0)), some (.int a1), some (.int a2), some (.int a3), some (.int a4), some (.int a5), some (.ref (G.1 20 (a1.toInt.toNat))), some (.ref (G.1 20 (a3.toInt.toNat)))] [.int x148] τ145
                        exact m_iret C hr hlk (by decide) (by decide) dX11_copy_121 ⟨_, rfl, i146, g150, b149, ⟨(Or.inr (Or.inr (Or.inr (Or.inr (⟨by omega, by omega, by omega, by omega, by omega, by omega⟩))))), (by omega), ⟨fun _ => IC.mk (fun j i => (f127.1 21 j i (by simp) (by decide)).trans ((fun j i => (f111.1 21 j i (by simp) (by decide)).trans ((fun j i => (f77.1 21 j i (by simp) (by decide)).trans ((fun j i => (f44.1 21 j i (by simp) (by decide)).trans ((fun j i => (f31.1 21 j i (by simp) (by decide)).trans ((fun j i => (f5.1 21 j i (by simp) (by decide)).trans ((fun _ _ => rfl) j i)) j i)) j i)) j i)) j i)) j i)) eτ142 (fun j i => (f147.1 21 j i (by simp) (by decide)).trans ((fun _ _ => rfl) j i)), fun h => absurd (by omega) h⟩⟩⟩
                      · exfalso
                        have q : _ := c138
                        simp only [ti_nle, ti_nlt, ti_le, ti_lt, ti_eq, ti_ne, Classical.not_not, kt_0] at q
                        have q1 := b137; have q2 := kc_0; omega
                    · skip
                      have b155 : IV x128 0 0 := ⟨by omega, by omega⟩
                      show MW p l e _ s m args below meth c _ 8 G 0 0 88 [some (.ref (G.1 0 0)), some (.int a1), some (.int a2), some (.int a3), some (.int a4), some (.int a5), some (.ref (G.1 20 (a1.toInt.toNat))), some (.ref (G.1 20 (a3.toInt.toNat)))] [.int x128] τ125
                      refine m_if_ne (tgt := 97) C dX11_copy_88 (by decide) (fun c156 => ?_) (fun c156 => ?_)
                      · exfalso
                        have q : _ := c156
                        simp only [ti_nle, ti_nlt, ti_le, ti_lt, ti_eq, ti_ne, Classical.not_not, kt_0] at q
                        have q1 := b155; have q2 := kc_0; omega
                      · have f158 : x128.toInt = 0 := by
                          have q : _ := c156
                          simp only [ti_nle, ti_nlt, ti_le, ti_lt, ti_eq, ti_ne, Classical.not_not, kt_0] at q
                          omega
                        refine m_aload_n C dX11_copy_91 rfl rfl ?_
                        refine m_iconst (v := 2) C dX11_copy_92 (by decide) ?_
                        have q159 := kt_2
                        refine m_callV (n := 1) (ci := 10) (st := []) C (c_X11_foundQ l G τ125 (2) i126 (iv_wk kc_2 (by decide))) (by decide) (by decide) rfl rfl rfl q1_238 q1_235 q1_237 q0_1 q1_1 (by decide +kernel) rfl (by decide) (by decide) rfl (Nat.le_of_ble_eq_true rfl) dX11_copy_93 ?_
                        rintro _ τ160 ⟨x163, rfl, i161, f162, b164, h166⟩
                        have g165 : Fr MS_X11_copyQ AS_X11_copyQ σ τ160 := Fr.call (g130) f162 (by decide)
                        have q167 : (gV τ160 20 (a1.toInt.toNat) 1).toInt = (gV σ 20 (a1.toInt.toNat) 1).toInt := congrArg Int32.toInt (show (gV τ160 20 (a1.toInt.toNat) 1) = (gV σ 20 (a1.toInt.toNat) 1) from (show gV τ160 20 (a1.toInt.toNat) 1 = (gV σ 20 (a1.toInt.toNat) 1) from (f162.1 20 (a1.toInt.toNat) (1) (by decide) (by decide)).trans (show gV τ125 20 (a1.toInt.toNat) 1 = (gV σ 20 (a1.toInt.toNat) 1) from (f127.1 20 (a1.toInt.toNat) (1) (by decide) (by decide)).trans (show gV τ109 20 (a1.toInt.toNat) 1 = (gV σ 20 (a1.toInt.toNat) 1) from (f111.1 20 (a1.toInt.toNat) (1) (by decide) (by decide)).trans (show gV τ75 20 (a1.toInt.toNat) 1 = (gV σ 20 (a1.toInt.toNat) 1) from (f77.1 20 (a1.toInt.toNat) (1) (by decide) (by decide)).trans (show gV τ42 20 (a1.toInt.toNat) 1 = (gV σ 20 (a1.toInt.toNat) 1) from (f44.1 20 (a1.toInt.toNat) (1) (by decide) (by decide)).trans (show gV τ29 20 (a1.toInt.toNat) 1 = (gV σ 20 (a1.toInt.toNat) 1) from (f31.1 20 (a1.toInt.toNat) (1) (by decide) (by decide)).trans (show gV τ3 20 (a1.toInt.toNat) 1 = (gV σ 20 (a1.toInt.toNat) 1) from (f5.1 20 (a1.toInt.toNat) (1) (by decide) (by decide)).trans rfl))))))))
                        have q168 : (gV τ160 20 (a1.toInt.toNat) 2).toInt = (gV σ 20 (a1.toInt.toNat) 2).toInt := congrArg Int32.toInt (show (gV τ160 20 (a1.toInt.toNat) 2) = (gV σ 20 (a1.toInt.toNat) 2) from (show gV τ160 20 (a1.toInt.toNat) 2 = (gV σ 20 (a1.toInt.toNat) 2) from (f162.1 20 (a1.toInt.toNat) (2) (by decide) (by decide)).trans (show gV τ125 20 (a1.toInt.toNat) 2 = (gV σ 20 (a1.toInt.toNat) 2) from (f127.1 20 (a1.toInt.toNat) (2) (by decide) (by decide)).trans (show gV τ109 20 (a1.toInt.toNat) 2 = (gV σ 20 (a1.toInt.toNat) 2) from (f111.1 20 (a1.toInt.toNat) (2) (by decide) (by decide)).trans (show gV τ75 20 (a1.toInt.toNat) 2 = (gV σ 20 (a1.toInt.toNat) 2) from (f77.1 20 (a1.toInt.toNat) (2) (by decide) (by decide)).trans (show gV τ42 20 (a1.toInt.toNat) 2 = (gV σ 20 (a1.toInt.toNat) 2) from (f44.1 20 (a1.toInt.toNat) (2) (by decide) (by decide)).trans (show gV τ29 20 (a1.toInt.toNat) 2 = (gV σ 20 (a1.toInt.toNat) 2) from (f31.1 20 (a1.toInt.toNat) (2) (by decide) (by decide)).trans (show gV τ3 20 (a1.toInt.toNat) 2 = (gV σ 20 (a1.toInt.toNat) 2) from (f5.1 20 (a1.toInt.toNat) (2) (by decide) (by decide)).trans rfl))))))))
                        have q169 : (gV τ160 20 (a3.toInt.toNat) 1).toInt = (gV σ 20 (a3.toInt.toNat) 1).toInt := congrArg Int32.toInt (show (gV τ160 20 (a3.toInt.toNat) 1) = (gV σ 20 (a3.toInt.toNat) 1) from (show gV τ160 20 (a3.toInt.toNat) 1 = (gV σ 20 (a3.toInt.toNat) 1) from (f162.1 20 (a3.toInt.toNat) (1) (by decide) (by decide)).trans (show gV τ125 20 (a3.toInt.toNat) 1 = (gV σ 20 (a3.toInt.toNat) 1) from (f127.1 20 (a3.toInt.toNat) (1) (by decide) (by decide)).trans (show gV τ109 20 (a3.toInt.toNat) 1 = (gV σ 20 (a3.toInt.toNat) 1) from (f111.1 20 (a3.toInt.toNat) (1) (by decide) (by decide)).trans (show gV τ75 20 (a3.toInt.toNat) 1 = (gV σ 20 (a3.toInt.toNat) 1) from (f77.1 20 (a3.toInt.toNat) (1) (by decide) (by decide)).trans (show gV τ42 20 (a3.toInt.toNat) 1 = (gV σ 20 (a3.toInt.toNat) 1) from (f44.1 20 (a3.toInt.toNat) (1) (by decide) (by decide)).trans (show gV τ29 20 (a3.toInt.toNat) 1 = (gV σ 20 (a3.toInt.toNat) 1) from (f31.1 20 (a3.toInt.toNat) (1) (by decide) (by decide)).trans (show gV τ3 20 (a3.toInt.toNat) 1 = (gV σ 20 (a3.toInt.toNat) 1) from (f5.1 20 (a3.toInt.toNat) (1) (by decide) (by decide)).trans rfl))))))))
                        have q170 : (gV τ160 20 (a3.toInt.toNat) 2).toInt = (gV σ 20 (a3.toInt.toNat) 2).toInt := congrArg Int32.toInt (show (gV τ160 20 (a3.toInt.toNat) 2) = (gV σ 20 (a3.toInt.toNat) 2) from (show gV τ160 20 (a3.toInt.toNat) 2 = (gV σ 20 (a3.toInt.toNat) 2) from (f162.1 20 (a3.toInt.toNat) (2) (by decide) (by decide)).trans (show gV τ125 20 (a3.toInt.toNat) 2 = (gV σ 20 (a3.toInt.toNat) 2) from (f127.1 20 (a3.toInt.toNat) (2) (by decide) (by decide)).trans (show gV τ109 20 (a3.toInt.toNat) 2 = (gV σ 20 (a3.toInt.toNat) 2) from (f111.1 20 (a3.toInt.toNat) (2) (by decide) (by decide)).trans (show gV τ75 20 (a3.toInt.toNat) 2 = (gV σ 20 (a3.toInt.toNat) 2) from (f77.1 20 (a3.toInt.toNat) (2) (by decide) (by decide)).trans (show gV τ42 20 (a3.toInt.toNat) 2 = (gV σ 20 (a3.toInt.toNat) 2) from (f44.1 20 (a3.toInt.toNat) (2) (by decide) (by decide)).trans (show gV τ29 20 (a3.toInt.toNat) 2 = (gV σ 20 (a3.toInt.toNat) 2) from (f31.1 20 (a3.toInt.toNat) (2) (by decide) (by decide)).trans (show gV τ3 20 (a3.toInt.toNat) 2 = (gV σ 20 (a3.toInt.toNat) 2) from (f5.1 20 (a3.toInt.toNat) (2) (by decide) (by decide)).trans rfl))))))))
                        have q171 := kt_2
                        show MW p l e _ s m args below meth c _ 8 G 0 0 96 [some (.ref (G.1 0 0)), some (.int a1), some (.int a2), some (.int a3), some (.int a4), some (.int a5), some (.ref (G.1 20 (a1.toInt.toNat))), some (.ref (G.1 20 (a3.toInt.toNat)))] [.int x163] τ160
                        exact m_iret C hr hlk (by decide) (by decide) dX11_copy_96 ⟨_, rfl, i161, g165, (iv_wk b164 (by decide)), ⟨(Or.inr (Or.inr (Or.inr (Or.inl ⟨by omega, by omega, by omega, by omega, by omega, by omega⟩)))), (by omega), ⟨fun h => absurd h (by omega), fun _ => (fun j i => (f162.1 21 j i (by simp) (by decide)).trans ((fun j i => (f127.1 21 j i (by simp) (by decide)).trans ((fun j i => (f111.1 21 j i (by simp) (by decide)).trans ((fun j i => (f77.1 21 j i (by simp) (by decide)).trans ((fun j i => (f44.1 21 j i (by simp) (by decide)).trans ((fun j i => (f31.1 21 j i (by simp) (by decide)).trans ((fun j i => (f5.1 21 j i (by simp) (by decide)).trans ((fun _ _ => rfl) j i)) j i)) j i)) j i)) j i)) j i)) j i))⟩⟩⟩
                · skip
                  have b172 : IV x112 0 0 := ⟨by omega, by omega⟩
                  show MW p l e _ s m args below meth c _ 8 G 0 0 76 [some (.ref (G.1 0 0)), some (.int a1), some (.int a2), some (.int a3), some (.int a4), some (.int a5), some (.ref (G.1 20 (a1.toInt.toNat))), some (.ref (G.1 20 (a3.toInt.toNat)))] [.int x112] τ109
                  refine m_if_eq (tgt := 91) C dX11_copy_76 (by decide) (fun c173 => ?_) (fun c173 => ?_)
                  · have f174 : x112.toInt = 0 := by
                      have q : _ := c173
                      simp only [ti_nle, ti_nlt, ti_le, ti_lt, ti_eq, ti_ne, Classical.not_not, kt_0] at q
                      omega
                    refine m_aload_n C dX11_copy_91 rfl rfl ?_
                    refine m_iconst (v := 2) C dX11_copy_92 (by decide) ?_
                    have q175 := kt_2
                    refine m_callV (n := 1) (ci := 10) (st := []) C (c_X11_foundQ l G τ109 (2) i110 (iv_wk kc_2 (by decide))) (by decide) (by decide) rfl rfl rfl q1_238 q1_235 q1_237 q0_1 q1_1 (by decide +kernel) rfl (by decide) (by decide) rfl (Nat.le_of_ble_eq_true rfl) dX11_copy_93 ?_
                    rintro _ τ176 ⟨x179, rfl, i177, f178, b180, h182⟩
                    have g181 : Fr MS_X11_copyQ AS_X11_copyQ σ τ176 := Fr.call (g114) f178 (by decide)
                    have q183 : (gV τ176 20 (a1.toInt.toNat) 1).toInt = (gV σ 20 (a1.toInt.toNat) 1).toInt := congrArg Int32.toInt (show (gV τ176 20 (a1.toInt.toNat) 1) = (gV σ 20 (a1.toInt.toNat) 1) from (show gV τ176 20 (a1.toInt.toNat) 1 = (gV σ 20 (a1.toInt.toNat) 1) from (f178.1 20 (a1.toInt.toNat) (1) (by decide) (by decide)).trans (show gV τ109 20 (a1.toInt.toNat) 1 = (gV σ 20 (a1.toInt.toNat) 1) from (f111.1 20 (a1.toInt.toNat) (1) (by decide) (by decide)).trans (show gV τ75 20 (a1.toInt.toNat) 1 = (gV σ 20 (a1.toInt.toNat) 1) from (f77.1 20 (a1.toInt.toNat) (1) (by decide) (by decide)).trans (show gV τ42 20 (a1.toInt.toNat) 1 = (gV σ 20 (a1.toInt.toNat) 1) from (f44.1 20 (a1.toInt.toNat) (1) (by decide) (by decide)).trans (show gV τ29 20 (a1.toInt.toNat) 1 = (gV σ 20 (a1.toInt.toNat) 1) from (f31.1 20 (a1.toInt.toNat) (1) (by decide) (by decide)).trans (show gV τ3 20 (a1.toInt.toNat) 1 = (gV σ 20 (a1.toInt.toNat) 1) from (f5.1 20 (a1.toInt.toNat) (1) (by decide) (by decide)).trans rfl)))))))
                    have q184 : (gV τ176 20 (a1.toInt.toNat) 2).toInt = (gV σ 20 (a1.toInt.toNat) 2).toInt := congrArg Int32.toInt (show (gV τ176 20 (a1.toInt.toNat) 2) = (gV σ 20 (a1.toInt.toNat) 2) from (show gV τ176 20 (a1.toInt.toNat) 2 = (gV σ 20 (a1.toInt.toNat) 2) from (f178.1 20 (a1.toInt.toNat) (2) (by decide) (by decide)).trans (show gV τ109 20 (a1.toInt.toNat) 2 = (gV σ 20 (a1.toInt.toNat) 2) from (f111.1 20 (a1.toInt.toNat) (2) (by decide) (by decide)).trans (show gV τ75 20 (a1.toInt.toNat) 2 = (gV σ 20 (a1.toInt.toNat) 2) from (f77.1 20 (a1.toInt.toNat) (2) (by decide) (by decide)).trans (show gV τ42 20 (a1.toInt.toNat) 2 = (gV σ 20 (a1.toInt.toNat) 2) from (f44.1 20 (a1.toInt.toNat) (2) (by decide) (by decide)).trans (show gV τ29 20 (a1.toInt.toNat) 2 = (gV σ 20 (a1.toInt.toNat) 2) from (f31.1 20 (a1.toInt.toNat) (2) (by decide) (by decide)).trans (show gV τ3 20 (a1.toInt.toNat) 2 = (gV σ 20 (a1.toInt.toNat) 2) from (f5.1 20 (a1.toInt.toNat) (2) (by decide) (by decide)).trans rfl)))))))
                    have q185 : (gV τ176 20 (a3.toInt.toNat) 1).toInt = (gV σ 20 (a3.toInt.toNat) 1).toInt := congrArg Int32.toInt (show (gV τ176 20 (a3.toInt.toNat) 1) = (gV σ 20 (a3.toInt.toNat) 1) from (show gV τ176 20 (a3.toInt.toNat) 1 = (gV σ 20 (a3.toInt.toNat) 1) from (f178.1 20 (a3.toInt.toNat) (1) (by decide) (by decide)).trans (show gV τ109 20 (a3.toInt.toNat) 1 = (gV σ 20 (a3.toInt.toNat) 1) from (f111.1 20 (a3.toInt.toNat) (1) (by decide) (by decide)).trans (show gV τ75 20 (a3.toInt.toNat) 1 = (gV σ 20 (a3.toInt.toNat) 1) from (f77.1 20 (a3.toInt.toNat) (1) (by decide) (by decide)).trans (show gV τ42 20 (a3.toInt.toNat) 1 = (gV σ 20 (a3.toInt.toNat) 1) from (f44.1 20 (a3.toInt.toNat) (1) (by decide) (by decide)).trans (show gV τ29 20 (a3.toInt.toNat) 1 = (gV σ 20 (a3.toInt.toNat) 1) from (f31.1 20 (a3.toInt.toNat) (1) (by decide) (by decide)).trans (show gV τ3 20 (a3.toInt.toNat) 1 = (gV σ 20 (a3.toInt.toNat) 1) from (f5.1 20 (a3.toInt.toNat) (1) (by decide) (by decide)).trans rfl)))))))
                    have q186 : (gV τ176 20 (a3.toInt.toNat) 2).toInt = (gV σ 20 (a3.toInt.toNat) 2).toInt := congrArg Int32.toInt (show (gV τ176 20 (a3.toInt.toNat) 2) = (gV σ 20 (a3.toInt.toNat) 2) from (show gV τ176 20 (a3.toInt.toNat) 2 = (gV σ 20 (a3.toInt.toNat) 2) from (f178.1 20 (a3.toInt.toNat) (2) (by decide) (by decide)).trans (show gV τ109 20 (a3.toInt.toNat) 2 = (gV σ 20 (a3.toInt.toNat) 2) from (f111.1 20 (a3.toInt.toNat) (2) (by decide) (by decide)).trans (show gV τ75 20 (a3.toInt.toNat) 2 = (gV σ 20 (a3.toInt.toNat) 2) from (f77.1 20 (a3.toInt.toNat) (2) (by decide) (by decide)).trans (show gV τ42 20 (a3.toInt.toNat) 2 = (gV σ 20 (a3.toInt.toNat) 2) from (f44.1 20 (a3.toInt.toNat) (2) (by decide) (by decide)).trans (show gV τ29 20 (a3.toInt.toNat) 2 = (gV σ 20 (a3.toInt.toNat) 2) from (f31.1 20 (a3.toInt.toNat) (2) (by decide) (by decide)).trans (show gV τ3 20 (a3.toInt.toNat) 2 = (gV σ 20 (a3.toInt.toNat) 2) from (f5.1 20 (a3.toInt.toNat) (2) (by decide) (by decide)).trans rfl)))))))
                    have q187 := kt_2
                    show MW p l e _ s m args below meth c _ 8 G 0 0 96 [some (.ref (G.1 0 0)), some (.int a1), some (.int a2), some (.int a3), some (.int a4), some (.int a5), some (.ref (G.1 20 (a1.toInt.toNat))), some (.ref (G.1 20 (a3.toInt.toNat)))] [.int x179] τ176
                    exact m_iret C hr hlk (by decide) (by decide) dX11_copy_96 ⟨_, rfl, i177, g181, (iv_wk b180 (by decide)), ⟨(Or.inr (Or.inr (Or.inr (Or.inl ⟨by omega, by omega, by omega, by omega, by omega, by omega⟩)))), (by omega), ⟨fun h => absurd h (by omega), fun _ => (fun j i => (f178.1 21 j i (by simp) (by decide)).trans ((fun j i => (f111.1 21 j i (by simp) (by decide)).trans ((fun j i => (f77.1 21 j i (by simp) (by decide)).trans ((fun j i => (f44.1 21 j i (by simp) (by decide)).trans ((fun j i => (f31.1 21 j i (by simp) (by decide)).trans ((fun j i => (f5.1 21 j i (by simp) (by decide)).trans ((fun _ _ => rfl) j i)) j i)) j i)) j i)) j i)) j i))⟩⟩⟩
                  · exfalso
                    have q : _ := c173
                    simp only [ti_nle, ti_nlt, ti_le, ti_lt, ti_eq, ti_ne, Classical.not_not, kt_0] at q
                    have q1 := b172; have q2 := kc_0; omega
              · have f189 : (gV σ 20 (a1.toInt.toNat) 1).toInt ≠ (gV σ 20 (a3.toInt.toNat) 1).toInt := by
                  have q : _ := c107
                  simp only [ti_nle, ti_nlt, ti_le, ti_lt, ti_eq, ti_ne, Classical.not_not] at q
                  omega
                refine m_aload_n C dX11_copy_62 rfl rfl ?_
                refine m_iconst (v := 5) C dX11_copy_63 (by decide) ?_
                have q190 := kt_5
                refine m_callV (n := 1) (ci := 10) (st := []) C (c_X11_foundQ l G τ75 (5) i76 (iv_wk kc_5 (by decide))) (by decide) (by decide) rfl rfl rfl q1_238 q1_235 q1_237 q0_1 q1_1 (by decide +kernel) rfl (by decide) (by decide) rfl (Nat.le_of_ble_eq_true rfl) dX11_copy_64 ?_
                rintro _ τ191 ⟨x194, rfl, i192, f193, b195, h197⟩
                have g196 : Fr MS_X11_copyQ AS_X11_copyQ σ τ191 := Fr.call (g80) f193 (by decide)
                have q198 : (gV τ191 20 (a1.toInt.toNat) 1).toInt = (gV σ 20 (a1.toInt.toNat) 1).toInt := congrArg Int32.toInt (show (gV τ191 20 (a1.toInt.toNat) 1) = (gV σ 20 (a1.toInt.toNat) 1) from (show gV τ191 20 (a1.toInt.toNat) 1 = (gV σ 20 (a1.toInt.toNat) 1) from (f193.1 20 (a1.toInt.toNat) (1) (by decide) (by decide)).trans (show gV τ75 20 (a1.toInt.toNat) 1 = (gV σ 20 (a1.toInt.toNat) 1) from (f77.1 20 (a1.toInt.toNat) (1) (by decide) (by decide)).trans (show gV τ42 20 (a1.toInt.toNat) 1 = (gV σ 20 (a1.toInt.toNat) 1) from (f44.1 20 (a1.toInt.toNat) (1) (by decide) (by decide)).trans (show gV τ29 20 (a1.toInt.toNat) 1 = (gV σ 20 (a1.toInt.toNat) 1) from (f31.1 20 (a1.toInt.toNat) (1) (by decide) (by decide)).trans (show gV τ3 20 (a1.toInt.toNat) 1 = (gV σ 20 (a1.toInt.toNat) 1) from (f5.1 20 (a1.toInt.toNat) (1) (by decide) (by decide)).trans rfl))))))
                have q199 : (gV τ191 20 (a1.toInt.toNat) 2).toInt = (gV σ 20 (a1.toInt.toNat) 2).toInt := congrArg Int32.toInt (show (gV τ191 20 (a1.toInt.toNat) 2) = (gV σ 20 (a1.toInt.toNat) 2) from (show gV τ191 20 (a1.toInt.toNat) 2 = (gV σ 20 (a1.toInt.toNat) 2) from (f193.1 20 (a1.toInt.toNat) (2) (by decide) (by decide)).trans (show gV τ75 20 (a1.toInt.toNat) 2 = (gV σ 20 (a1.toInt.toNat) 2) from (f77.1 20 (a1.toInt.toNat) (2) (by decide) (by decide)).trans (show gV τ42 20 (a1.toInt.toNat) 2 = (gV σ 20 (a1.toInt.toNat) 2) from (f44.1 20 (a1.toInt.toNat) (2) (by decide) (by decide)).trans (show gV τ29 20 (a1.toInt.toNat) 2 = (gV σ 20 (a1.toInt.toNat) 2) from (f31.1 20 (a1.toInt.toNat) (2) (by decide) (by decide)).trans (show gV τ3 20 (a1.toInt.toNat) 2 = (gV σ 20 (a1.toInt.toNat) 2) from (f5.1 20 (a1.toInt.toNat) (2) (by decide) (by decide)).trans rfl))))))
                have q200 : (gV τ191 20 (a3.toInt.toNat) 1).toInt = (gV σ 20 (a3.toInt.toNat) 1).toInt := congrArg Int32.toInt (show (gV τ191 20 (a3.toInt.toNat) 1) = (gV σ 20 (a3.toInt.toNat) 1) from (show gV τ191 20 (a3.toInt.toNat) 1 = (gV σ 20 (a3.toInt.toNat) 1) from (f193.1 20 (a3.toInt.toNat) (1) (by decide) (by decide)).trans (show gV τ75 20 (a3.toInt.toNat) 1 = (gV σ 20 (a3.toInt.toNat) 1) from (f77.1 20 (a3.toInt.toNat) (1) (by decide) (by decide)).trans (show gV τ42 20 (a3.toInt.toNat) 1 = (gV σ 20 (a3.toInt.toNat) 1) from (f44.1 20 (a3.toInt.toNat) (1) (by decide) (by decide)).trans (show gV τ29 20 (a3.toInt.toNat) 1 = (gV σ 20 (a3.toInt.toNat) 1) from (f31.1 20 (a3.toInt.toNat) (1) (by decide) (by decide)).trans (show gV τ3 20 (a3.toInt.toNat) 1 = (gV σ 20 (a3.toInt.toNat) 1) from (f5.1 20 (a3.toInt.toNat) (1) (by decide) (by decide)).trans rfl))))))
                have q201 : (gV τ191 20 (a3.toInt.toNat) 2).toInt = (gV σ 20 (a3.toInt.toNat) 2).toInt := congrArg Int32.toInt (show (gV τ191 20 (a3.toInt.toNat) 2) = (gV σ 20 (a3.toInt.toNat) 2) from (show gV τ191 20 (a3.toInt.toNat) 2 = (gV σ 20 (a3.toInt.toNat) 2) from (f193.1 20 (a3.toInt.toNat) (2) (by decide) (by decide)).trans (show gV τ75 20 (a3.toInt.toNat) 2 = (gV σ 20 (a3.toInt.toNat) 2) from (f77.1 20 (a3.toInt.toNat) (2) (by decide) (by decide)).trans (show gV τ42 20 (a3.toInt.toNat) 2 = (gV σ 20 (a3.toInt.toNat) 2) from (f44.1 20 (a3.toInt.toNat) (2) (by decide) (by decide)).trans (show gV τ29 20 (a3.toInt.toNat) 2 = (gV σ 20 (a3.toInt.toNat) 2) from (f31.1 20 (a3.toInt.toNat) (2) (by decide) (by decide)).trans (show gV τ3 20 (a3.toInt.toNat) 2 = (gV σ 20 (a3.toInt.toNat) 2) from (f5.1 20 (a3.toInt.toNat) (2) (by decide) (by decide)).trans rfl))))))
                have q202 := kt_5
                show MW p l e _ s m args below meth c _ 8 G 0 0 67 [some (.ref (G.1 0 0)), some (.int a1), some (.int a2), some (.int a3), some (.int a4), some (.int a5), some (.ref (G.1 20 (a1.toInt.toNat))), some (.ref (G.1 20 (a3.toInt.toNat)))] [.int x194] τ191
                exact m_iret C hr hlk (by decide) (by decide) dX11_copy_67 ⟨_, rfl, i192, g196, (iv_wk b195 (by decide)), ⟨(Or.inr (Or.inr (Or.inl ⟨by omega, by omega, by omega, by omega, by omega⟩))), (by omega), ⟨fun h => absurd h (by omega), fun _ => (fun j i => (f193.1 21 j i (by simp) (by decide)).trans ((fun j i => (f77.1 21 j i (by simp) (by decide)).trans ((fun j i => (f44.1 21 j i (by simp) (by decide)).trans ((fun j i => (f31.1 21 j i (by simp) (by decide)).trans ((fun j i => (f5.1 21 j i (by simp) (by decide)).trans ((fun _ _ => rfl) j i)) j i)) j i)) j i)) j i))⟩⟩⟩
            · exfalso
              have q : _ := c105
              simp only [ti_nle, ti_nlt, ti_le, ti_lt, ti_eq, ti_ne, Classical.not_not, kt_0] at q
              have q1 := b104; have q2 := kc_0; omega

abbrev MS_X12_copyQ : List (Nat × Nat) := [(22, 8)]
abbrev AS_X12_copyQ : List Nat := [25, 29]
set_option maxHeartbeats 4000000 in
set_option maxRecDepth 100000 in
theorem c_X12_copyQ (l : Launch) (G : Gt) (σ : Sg) (a1 : Int32) (a2 : Int32) (a3 : Int32) (a4 : Int32) (a5 : Int32) (hI : Inv σ) : Mc l G yX12_copy cX12_copy 7 (some .int) 2 45 0 0 [.ref (G.1 22 0), .int a1, .int a2, .int a3, .int a4, .int a5] σ (PI fun r τ => Inv τ ∧ Fr MS_X12_copyQ AS_X12_copyQ σ τ ∧ IV r (-2147483648) 2147483647 ∧ ((((a1.toInt < 0 ∨ 7 < a1.toInt ∨ a3.toInt < 0 ∨ 7 < a3.toInt) ∧ r.toInt = -1000001) ∨ ((0 ≤ a1.toInt ∧ a1.toInt ≤ 7 ∧ 0 ≤ a3.toInt ∧ a3.toInt ≤ 7) ∧ ((gV σ 26 0 (a1.toInt.toNat)).toInt < 0 ∨ (gV σ 26 0 (a3.toInt.toNat)).toInt < 0) ∧ r.toInt = -1000011) ∨ ((0 ≤ a1.toInt ∧ a1.toInt ≤ 7 ∧ 0 ≤ a3.toInt ∧ a3.toInt ≤ 7) ∧ ¬ ((gV σ 26 0 (a1.toInt.toNat)).toInt < 0) ∧ ¬ ((gV σ 26 0 (a3.toInt.toNat)).toInt < 0) ∧ (gV σ 26 0 (a1.toInt.toNat)).toInt ≠ (gV σ 26 0 (a3.toInt.toNat)).toInt ∧ r.toInt = -1000015) ∨ ((0 ≤ a1.toInt ∧ a1.toInt ≤ 7 ∧ 0 ≤ a3.toInt ∧ a3.toInt ≤ 7) ∧ ¬ ((gV σ 26 0 (a1.toInt.toNat)).toInt < 0) ∧ ¬ ((gV σ 26 0 (a3.toInt.toNat)).toInt < 0) ∧ (gV σ 26 0 (a1.toInt.toNat)).toInt = (gV σ 26 0 (a3.toInt.toNat)).toInt ∧ ¬ (0 ≤ a2.toInt ∧ 0 ≤ a4.toInt ∧ 0 ≤ a5.toInt ∧ a2.toInt + a5.toInt ≤ (gV σ 27 0 (a1.toInt.toNat)).toInt ∧ a4.toInt + a5.toInt ≤ (gV σ 27 0 (a3.toInt.toNat)).toInt) ∧ r.toInt = -1000012) ∨ ((0 ≤ a1.toInt ∧ a1.toInt ≤ 7 ∧ 0 ≤ a3.toInt ∧ a3.toInt ≤ 7) ∧ ¬ ((gV σ 26 0 (a1.toInt.toNat)).toInt < 0) ∧ ¬ ((gV σ 26 0 (a3.toInt.toNat)).toInt < 0) ∧ (gV σ 26 0 (a1.toInt.toNat)).toInt = (gV σ 26 0 (a3.toInt.toNat)).toInt ∧ (0 ≤ a2.toInt ∧ 0 ≤ a4.toInt ∧ 0 ≤ a5.toInt ∧ a2.toInt + a5.toInt ≤ (gV σ 27 0 (a1.toInt.toNat)).toInt ∧ a4.toInt + a5.toInt ≤ (gV σ 27 0 (a3.toInt.toNat)).toInt) ∧ r.toInt = a5.toInt)) ∧ (((a1.toInt < 0 ∨ 7 < a1.toInt ∨ a3.toInt < 0 ∨ 7 < a3.toInt) → (gV τ 22 0 8).toInt = (gV σ 22 0 8).toInt) ∧ (((0 ≤ a1.toInt ∧ a1.toInt ≤ 7 ∧ 0 ≤ a3.toInt ∧ a3.toInt ≤ 7) ∧ ((gV σ 26 0 (a1.toInt.toNat)).toInt < 0 ∨ (gV σ 26 0 (a3.toInt.toNat)).toInt < 0)) → (gV τ 22 0 8).toInt = 1) ∧ (((0 ≤ a1.toInt ∧ a1.toInt ≤ 7 ∧ 0 ≤ a3.toInt ∧ a3.toInt ≤ 7) ∧ ¬ ((gV σ 26 0 (a1.toInt.toNat)).toInt < 0) ∧ ¬ ((gV σ 26 0 (a3.toInt.toNat)).toInt < 0) ∧ ¬ ((gV σ 26 0 (a1.toInt.toNat)).toInt = (gV σ 26 0 (a3.toInt.toNat)).toInt)) → (gV τ 22 0 8).toInt = 5) ∧ (((0 ≤ a1.toInt ∧ a1.toInt ≤ 7 ∧ 0 ≤ a3.toInt ∧ a3.toInt ≤ 7) ∧ ¬ ((gV σ 26 0 (a1.toInt.toNat)).toInt < 0) ∧ ¬ ((gV σ 26 0 (a3.toInt.toNat)).toInt < 0) ∧ (gV σ 26 0 (a1.toInt.toNat)).toInt = (gV σ 26 0 (a3.toInt.toNat)).toInt ∧ ¬ (0 ≤ a2.toInt ∧ 0 ≤ a4.toInt ∧ 0 ≤ a5.toInt ∧ a2.toInt + a5.toInt ≤ (gV σ 27 0 (a1.toInt.toNat)).toInt ∧ a4.toInt + a5.toInt ≤ (gV σ 27 0 (a3.toInt.toNat)).toInt)) → (gV τ 22 0 8).toInt = 2) ∧ (((0 ≤ a1.toInt ∧ a1.toInt ≤ 7 ∧ 0 ≤ a3.toInt ∧ a3.toInt ≤ 7) ∧ ¬ ((gV σ 26 0 (a1.toInt.toNat)).toInt < 0) ∧ ¬ ((gV σ 26 0 (a3.toInt.toNat)).toInt < 0) ∧ (gV σ 26 0 (a1.toInt.toNat)).toInt = (gV σ 26 0 (a3.toInt.toNat)).toInt ∧ (0 ≤ a2.toInt ∧ 0 ≤ a4.toInt ∧ 0 ≤ a5.toInt ∧ a2.toInt + a5.toInt ≤ (gV σ 27 0 (a1.toInt.toNat)).toInt ∧ a4.toInt + a5.toInt ≤ (gV σ 27 0 (a3.toInt.toNat)).toInt)) → (gV τ 22 0 8).toInt = 0)) ∧ ((((0 ≤ a1.toInt ∧ a1.toInt ≤ 7 ∧ 0 ≤ a3.toInt ∧ a3.toInt ≤ 7) ∧ ¬ ((gV σ 26 0 (a1.toInt.toNat)).toInt < 0) ∧ ¬ ((gV σ 26 0 (a3.toInt.toNat)).toInt < 0) ∧ (gV σ 26 0 (a1.toInt.toNat)).toInt = (gV σ 26 0 (a3.toInt.toNat)).toInt ∧ (0 ≤ a2.toInt ∧ 0 ≤ a4.toInt ∧ 0 ≤ a5.toInt ∧ a2.toInt + a5.toInt ≤ (gV σ 27 0 (a1.toInt.toNat)).toInt ∧ a4.toInt + a5.toInt ≤ (gV σ 27 0 (a3.toInt.toNat)).toInt)) → JC σ τ (40 * (a1.toInt.toNat) + (a2.toInt.toNat)) (40 * (a3.toInt.toNat) + (a4.toInt.toNat)) (a5.toInt.toNat)) ∧ (¬ ((0 ≤ a1.toInt ∧ a1.toInt ≤ 7 ∧ 0 ≤ a3.toInt ∧ a3.toInt ≤ 7) ∧ ¬ ((gV σ 26 0 (a1.toInt.toNat)).toInt < 0) ∧ ¬ ((gV σ 26 0 (a3.toInt.toNat)).toInt < 0) ∧ (gV σ 26 0 (a1.toInt.toNat)).toInt = (gV σ 26 0 (a3.toInt.toNat)).toInt ∧ (0 ≤ a2.toInt ∧ 0 ≤ a4.toInt ∧ 0 ≤ a5.toInt ∧ a2.toInt + a5.toInt ≤ (gV σ 27 0 (a1.toInt.toNat)).toInt ∧ a4.toInt + a5.toInt ≤ (gV σ 27 0 (a3.toInt.toNat)).toInt)) → SameJ σ τ)))) := by
  refine Mc.of (L0 := [some (.ref (G.1 22 0)), some (.int a1), some (.int a2), some (.int a3), some (.int a4), some (.int a5), none]) (by decide) (Nat.le_of_ble_eq_true rfl) rfl ?_
  intro p e s m args below meth c C hr hlk
  have C : Cx p s m args c cX12_copy 7 "LeanTowerModel" := C
  have k0 : (0 : Int32).toInt = 0 := by decide
  have k1 : (1 : Int32).toInt = 1 := by decide
  have J157 : ∀ (n : Nat) (τ : Sg) (y6 : Int32), Inv τ → Fr MS_X12_copyQ AS_X12_copyQ σ τ → IV a1 0 7 → IV a2 0 40 → IV a3 0 7 → IV a4 0 40 → IV a5 0 40 → IV y6 0 40 → (a2.toInt + a5.toInt ≤ 40 ∧ a4.toInt + a5.toInt ≤ 40) → (((0 ≤ a1.toInt ∧ a1.toInt ≤ 7 ∧ 0 ≤ a3.toInt ∧ a3.toInt ≤ 7) ∧ 0 ≤ (gV σ 26 0 (a1.toInt.toNat)).toInt ∧ 0 ≤ (gV σ 26 0 (a3.toInt.toNat)).toInt ∧ (gV σ 26 0 (a1.toInt.toNat)).toInt = (gV σ 26 0 (a3.toInt.toNat)).toInt ∧ (0 ≤ a2.toInt ∧ 0 ≤ a4.toInt ∧ 0 ≤ a5.toInt ∧ a2.toInt + a5.toInt ≤ (gV σ 27 0 (a1.toInt.toNat)).toInt ∧ a4.toInt + a5.toInt ≤ (gV σ 27 0 (a3.toInt.toNat)).toInt))) → (y6.toInt ≤ a5.toInt) → (HD σ τ (40 * (a1.toInt.toNat) + (a2.toInt.toNat)) (a5.toInt.toNat)) → (JC σ τ (40 * (a1.toInt.toNat) + (a2.toInt.toNat)) (40 * (a3.toInt.toNat) + (a4.toInt.toNat)) y6.toInt.toNat) → (40 - y6.toInt).toNat < n → MW p l e { frames := 2, cells := 0, slots := 0, locals := 45 } s m args below meth c (MQ below (QP G (PI fun r τ => Inv τ ∧ Fr MS_X12_copyQ AS_X12_copyQ σ τ ∧ IV r (-2147483648) 2147483647 ∧ ((((a1.toInt < 0 ∨ 7 < a1.toInt ∨ a3.toInt < 0 ∨ 7 < a3.toInt) ∧ r.toInt = -1000001) ∨ ((0 ≤ a1.toInt ∧ a1.toInt ≤ 7 ∧ 0 ≤ a3.toInt ∧ a3.toInt ≤ 7) ∧ ((gV σ 26 0 (a1.toInt.toNat)).toInt < 0 ∨ (gV σ 26 0 (a3.toInt.toNat)).toInt < 0) ∧ r.toInt = -1000011) ∨ ((0 ≤ a1.toInt ∧ a1.toInt ≤ 7 ∧ 0 ≤ a3.toInt ∧ a3.toInt ≤ 7) ∧ ¬ ((gV σ 26 0 (a1.toInt.toNat)).toInt < 0) ∧ ¬ ((gV σ 26 0 (a3.toInt.toNat)).toInt < 0) ∧ (gV σ 26 0 (a1.toInt.toNat)).toInt ≠ (gV σ 26 0 (a3.toInt.toNat)).toInt ∧ r.toInt = -1000015) ∨ ((0 ≤ a1.toInt ∧ a1.toInt ≤ 7 ∧ 0 ≤ a3.toInt ∧ a3.toInt ≤ 7) ∧ ¬ ((gV σ 26 0 (a1.toInt.toNat)).toInt < 0) ∧ ¬ ((gV σ 26 0 (a3.toInt.toNat)).toInt < 0) ∧ (gV σ 26 0 (a1.toInt.toNat)).toInt = (gV σ 26 0 (a3.toInt.toNat)).toInt ∧ ¬ (0 ≤ a2.toInt ∧ 0 ≤ a4.toInt ∧ 0 ≤ a5.toInt ∧ a2.toInt + a5.toInt ≤ (gV σ 27 0 (a1.toInt.toNat)).toInt ∧ a4.toInt + a5.toInt ≤ (gV σ 27 0 (a3.toInt.toNat)).toInt) ∧ r.toInt = -1000012) ∨ ((0 ≤ a1.toInt ∧ a1.toInt ≤ 7 ∧ 0 ≤ a3.toInt ∧ a3.toInt ≤ 7) ∧ ¬ ((gV σ 26 0 (a1.toInt.toNat)).toInt < 0) ∧ ¬ ((gV σ 26 0 (a3.toInt.toNat)).toInt < 0) ∧ (gV σ 26 0 (a1.toInt.toNat)).toInt = (gV σ 26 0 (a3.toInt.toNat)).toInt ∧ (0 ≤ a2.toInt ∧ 0 ≤ a4.toInt ∧ 0 ≤ a5.toInt ∧ a2.toInt + a5.toInt ≤ (gV σ 27 0 (a1.toInt.toNat)).toInt ∧ a4.toInt + a5.toInt ≤ (gV σ 27 0 (a3.toInt.toNat)).toInt) ∧ r.toInt = a5.toInt)) ∧ (((a1.toInt < 0 ∨ 7 < a1.toInt ∨ a3.toInt < 0 ∨ 7 < a3.toInt) → (gV τ 22 0 8).toInt = (gV σ 22 0 8).toInt) ∧ (((0 ≤ a1.toInt ∧ a1.toInt ≤ 7 ∧ 0 ≤ a3.toInt ∧ a3.toInt ≤ 7) ∧ ((gV σ 26 0 (a1.toInt.toNat)).toInt < 0 ∨ (gV σ 26 0 (a3.toInt.toNat)).toInt < 0)) → (gV τ 22 0 8).toInt = 1) ∧ (((0 ≤ a1.toInt ∧ a1.toInt ≤ 7 ∧ 0 ≤ a3.toInt ∧ a3.toInt ≤ 7) ∧ ¬ ((gV σ 26 0 (a1.toInt.toNat)).toInt < 0) ∧ ¬ ((gV σ 26 0 (a3.toInt.toNat)).toInt < 0) ∧ ¬ ((gV σ 26 0 (a1.toInt.toNat)).toInt = (gV σ 26 0 (a3.toInt.toNat)).toInt)) → (gV τ 22 0 8).toInt = 5) ∧ (((0 ≤ a1.toInt ∧ a1.toInt ≤ 7 ∧ 0 ≤ a3.toInt ∧ a3.toInt ≤ 7) ∧ ¬ ((gV σ 26 0 (a1.toInt.toNat)).toInt < 0) ∧ ¬ ((gV σ 26 0 (a3.toInt.toNat)).toInt < 0) ∧ (gV σ 26 0 (a1.toInt.toNat)).toInt = (gV σ 26 0 (a3.toInt.toNat)).toInt ∧ ¬ (0 ≤ a2.toInt ∧ 0 ≤ a4.toInt ∧ 0 ≤ a5.toInt ∧ a2.toInt + a5.toInt ≤ (gV σ 27 0 (a1.toInt.toNat)).toInt ∧ a4.toInt + a5.toInt ≤ (gV σ 27 0 (a3.toInt.toNat)).toInt)) → (gV τ 22 0 8).toInt = 2) ∧ (((0 ≤ a1.toInt ∧ a1.toInt ≤ 7 ∧ 0 ≤ a3.toInt ∧ a3.toInt ≤ 7) ∧ ¬ ((gV σ 26 0 (a1.toInt.toNat)).toInt < 0) ∧ ¬ ((gV σ 26 0 (a3.toInt.toNat)).toInt < 0) ∧ (gV σ 26 0 (a1.toInt.toNat)).toInt = (gV σ 26 0 (a3.toInt.toNat)).toInt ∧ (0 ≤ a2.toInt ∧ 0 ≤ a4.toInt ∧ 0 ≤ a5.toInt ∧ a2.toInt + a5.toInt ≤ (gV σ 27 0 (a1.toInt.toNat)).toInt ∧ a4.toInt + a5.toInt ≤ (gV σ 27 0 (a3.toInt.toNat)).toInt)) → (gV τ 22 0 8).toInt = 0)) ∧ ((((0 ≤ a1.toInt ∧ a1.toInt ≤ 7 ∧ 0 ≤ a3.toInt ∧ a3.toInt ≤ 7) ∧ ¬ ((gV σ 26 0 (a1.toInt.toNat)).toInt < 0) ∧ ¬ ((gV σ 26 0 (a3.toInt.toNat)).toInt < 0) ∧ (gV σ 26 0 (a1.toInt.toNat)).toInt = (gV σ 26 0 (a3.toInt.toNat)).toInt ∧ (0 ≤ a2.toInt ∧ 0 ≤ a4.toInt ∧ 0 ≤ a5.toInt ∧ a2.toInt + a5.toInt ≤ (gV σ 27 0 (a1.toInt.toNat)).toInt ∧ a4.toInt + a5.toInt ≤ (gV σ 27 0 (a3.toInt.toNat)).toInt)) → JC σ τ (40 * (a1.toInt.toNat) + (a2.toInt.toNat)) (40 * (a3.toInt.toNat) + (a4.toInt.toNat)) (a5.toInt.toNat)) ∧ (¬ ((0 ≤ a1.toInt ∧ a1.toInt ≤ 7 ∧ 0 ≤ a3.toInt ∧ a3.toInt ≤ 7) ∧ ¬ ((gV σ 26 0 (a1.toInt.toNat)).toInt < 0) ∧ ¬ ((gV σ 26 0 (a3.toInt.toNat)).toInt < 0) ∧ (gV σ 26 0 (a1.toInt.toNat)).toInt = (gV σ 26 0 (a3.toInt.toNat)).toInt ∧ (0 ≤ a2.toInt ∧ 0 ≤ a4.toInt ∧ 0 ≤ a5.toInt ∧ a2.toInt + a5.toInt ≤ (gV σ 27 0 (a1.toInt.toNat)).toInt ∧ a4.toInt + a5.toInt ≤ (gV σ 27 0 (a3.toInt.toNat)).toInt)) → SameJ σ τ))))) args s 0 0 (aG G)) 7 G 0 0 157 [some (.ref (G.1 22 0)), none, none, some (.int a3), some (.int a4), some (.int a5), some (.int y6)] [] τ := by
    intro n
    induction n with
    | zero => intro τ y6 iτ fτ b_a1 b_a2 b_a3 b_a4 b_a5 b_y6 n1 n2 n3 nD nC hm; exact absurd hm (Nat.not_lt_zero _)
    | succ n ih157 =>
      intro τ y6 iτ fτ b_a1 b_a2 b_a3 b_a4 b_a5 b_y6 n1 n2 n3 nD nC hm157
      have u4 : IV (gV τ 27 0 (a1.toInt.toNat)) 0 40 := iτ.1 27 0 (a1.toInt.toNat)
      have u5 : IV (gV τ 27 0 (a3.toInt.toNat)) 0 40 := iτ.1 27 0 (a3.toInt.toNat)
      refine m_iload C dX12_copy_157 rfl ?_
      refine m_iload C dX12_copy_159 rfl ?_
      refine m_icmp_ge (tgt := 192) C dX12_copy_161 (by decide) (fun c6 => ?_) (fun c6 => ?_)
      · have f7 : a5.toInt ≤ y6.toInt := by
          have q : _ := c6
          simp only [ti_nle, ti_nlt, ti_le, ti_lt, ti_eq, ti_ne, Classical.not_not] at q
          omega
        refine m_aload_n C dX12_copy_192 rfl rfl ?_
        refine m_iload C dX12_copy_193 rfl ?_
        refine m_callV (n := 1) (ci := 11) (st := []) C (c_X12_fineQ l G τ (a5) iτ ) (by decide) (by decide) rfl rfl rfl q4_201 q4_198 q4_200 q0_27 q1_7 (by decide +kernel) rfl (by decide) (by decide) rfl (Nat.le_of_ble_eq_true rfl) dX12_copy_195 ?_
        rintro _ τ8 ⟨x11, rfl, i9, f10, b12, h14⟩
        have g13 : Fr MS_X12_copyQ AS_X12_copyQ σ τ8 := Fr.call (fτ) f10 (by decide)
        have q15 : (gV τ8 26 0 (a1.toInt.toNat)).toInt = (gV τ 26 0 (a1.toInt.toNat)).toInt := congrArg Int32.toInt (show (gV τ8 26 0 (a1.toInt.toNat)) = (gV τ 26 0 (a1.toInt.toNat)) from (show gV τ8 26 0 (a1.toInt.toNat) = (gV τ 26 0 (a1.toInt.toNat)) from (f10.1 26 0 ((a1.toInt.toNat)) (by simp) (by decide)).trans rfl))
        have q16 : (gV τ8 26 0 (a3.toInt.toNat)).toInt = (gV τ 26 0 (a3.toInt.toNat)).toInt := congrArg Int32.toInt (show (gV τ8 26 0 (a3.toInt.toNat)) = (gV τ 26 0 (a3.toInt.toNat)) from (show gV τ8 26 0 (a3.toInt.toNat) = (gV τ 26 0 (a3.toInt.toNat)) from (f10.1 26 0 ((a3.toInt.toNat)) (by simp) (by decide)).trans rfl))
        have q17 : (gV τ8 27 0 (a1.toInt.toNat)).toInt = (gV τ 27 0 (a1.toInt.toNat)).toInt := congrArg Int32.toInt (show (gV τ8 27 0 (a1.toInt.toNat)) = (gV τ 27 0 (a1.toInt.toNat)) from (show gV τ8 27 0 (a1.toInt.toNat) = (gV τ 27 0 (a1.toInt.toNat)) from (f10.1 27 0 ((a1.toInt.toNat)) (by simp) (by decide)).trans rfl))
        have q18 : (gV τ8 27 0 (a3.toInt.toNat)).toInt = (gV τ 27 0 (a3.toInt.toNat)).toInt := congrArg Int32.toInt (show (gV τ8 27 0 (a3.toInt.toNat)) = (gV τ 27 0 (a3.toInt.toNat)) from (show gV τ8 27 0 (a3.toInt.toNat) = (gV τ 27 0 (a3.toInt.toNat)) from (f10.1 27 0 ((a3.toInt.toNat)) (by simp) (by decide)).trans rfl))
        show MW p l e _ s m args below meth c _ 7 G 0 0 198 [some (.ref (G.1 22 0)), none, none, some (.int a3), some (.int a4), some (.int a5), some (.int y6)] [.int x11] τ8
        exact m_iret C hr hlk (by decide) (by decide) dX12_copy_198 ⟨_, rfl, i9, g13, b12, ⟨(Or.inr (Or.inr (Or.inr (Or.inr (⟨by omega, by omega, by omega, by omega, by omega, by omega⟩))))), (by omega), ⟨fun _ => by rw [show (a5.toInt.toNat) = y6.toInt.toNat by omega]; exact nC.then (fun k => (f10.1 25 0 k (by simp) (by decide)).trans ((fun _ => rfl) k)), fun h => absurd (by omega) h⟩⟩⟩
      · have f19 : y6.toInt < a5.toInt := by
          have q : _ := c6
          simp only [ti_nle, ti_nlt, ti_le, ti_lt, ti_eq, ti_ne, Classical.not_not] at q
          omega
        have b20 : IV y6 0 39 := ⟨by have q1 := b_y6; have q2 := b_a5; omega, by have q1 := b_y6; have q2 := b_a5; omega⟩
        have b21 : IV a5 1 40 := ⟨by have q1 := b_y6; have q2 := b_a5; omega, by have q1 := b_y6; have q2 := b_a5; omega⟩
        refine m_aload_n C dX12_copy_164 rfl rfl ?_
        refine g_22_2 C q4_118 dX12_copy_165 ?_
        refine m_bipush (v := 40) C dX12_copy_168 (by decide) ?_
        refine m_iload_n C dX12_copy_170 rfl rfl ?_
        refine m_imul C dX12_copy_171 ?_
        refine m_topi (fun x22 ex22 => ?_)
        have tx22 : x22.toInt = 40 * a3.toInt := by rw [ex22, ti_mulv kc_40 b_a3 (by decide), kt_40]
        have b23 : IV x22 0 280 := by rw [ex22]; exact iv_mul kc_40 b_a3 (by decide)
        refine m_iload C dX12_copy_172 rfl ?_
        refine m_iadd C dX12_copy_174 ?_
        refine m_topi (fun x24 ex24 => ?_)
        have tx24 : x24.toInt = x22.toInt + a4.toInt := by rw [ex24, ti_addv b23 b_a4 (by decide)]
        have b25 : IV x24 0 320 := by rw [ex24]; exact iv_add b23 b_a4 (by decide)
        refine m_iload C dX12_copy_175 rfl ?_
        refine m_iadd C dX12_copy_177 ?_
        refine m_topi (fun x26 ex26 => ?_)
        have tx26 : x26.toInt = x24.toInt + y6.toInt := by rw [ex26, ti_addv b25 b20 (by decide)]
        have b27 : IV x26 0 359 := by rw [ex26]; exact iv_add b25 b20 (by decide)
        refine m_aload_n C dX12_copy_178 rfl rfl ?_
        refine g_22_10 C q4_126 dX12_copy_179 ?_
        refine m_iload C dX12_copy_182 rfl ?_
        refine al_29 C b20 (by decide) rfl dX12_copy_184 ?_
        refine m_topi (fun x28 ex28 => ?_)
        have b29 : IV x26 0 319 := ⟨by have q1 := b27; omega, by have q1 := b27; omega⟩
        refine as_25 C b29 (by decide) rfl dX12_copy_185 ?_
        refine m_tops (fun τ30 eτ30 => ?_)
        have i31 : Inv τ30 := eτ30 ▸ Inv.putF iτ (by decide) rfl
        have f32 : Fr MS_X12_copyQ AS_X12_copyQ σ τ30 := eτ30 ▸ Fr.put (fτ) (Or.inr (by decide))
        obtain ⟨x33, ex33⟩ : ∃ y : Int32, y = y6 + 1 := ⟨_, rfl⟩
        have tx33 : x33.toInt = y6.toInt + 1 := by rw [ex33, ti_addv b20 kc_1 (by decide), kt_1]
        have b34 : IV x33 1 40 := by rw [ex33]; exact iv_add b20 kc_1 (by decide)
        refine m_iinc (v := x33) (L1 := [some (.ref (G.1 22 0)), none, none, some (.int a3), some (.int a4), some (.int a5), some (.int x33)]) C dX12_copy_186 rfl (by rw [ex33]; rfl) (by decide) rfl rfl ?_
        refine m_goto (tgt := 157) C dX12_copy_189 (by decide) ?_
        have q35 : (gV τ30 22 0 8).toInt = (gV τ 22 0 8).toInt := congrArg Int32.toInt (show (gV τ30 22 0 8) = (gV τ 22 0 8) from (show gV τ30 22 0 8 = (gV τ 22 0 8) from gV_put eτ30 rfl))
        have q36 : (gV τ30 26 0 (a1.toInt.toNat)).toInt = (gV τ 26 0 (a1.toInt.toNat)).toInt := congrArg Int32.toInt (show (gV τ30 26 0 (a1.toInt.toNat)) = (gV τ 26 0 (a1.toInt.toNat)) from (show gV τ30 26 0 (a1.toInt.toNat) = (gV τ 26 0 (a1.toInt.toNat)) from gV_put eτ30 rfl))
        have q37 : (gV τ30 26 0 (a3.toInt.toNat)).toInt = (gV τ 26 0 (a3.toInt.toNat)).toInt := congrArg Int32.toInt (show (gV τ30 26 0 (a3.toInt.toNat)) = (gV τ 26 0 (a3.toInt.toNat)) from (show gV τ30 26 0 (a3.toInt.toNat) = (gV τ 26 0 (a3.toInt.toNat)) from gV_put eτ30 rfl))
        have q38 : (gV τ30 27 0 (a1.toInt.toNat)).toInt = (gV τ 27 0 (a1.toInt.toNat)).toInt := congrArg Int32.toInt (show (gV τ30 27 0 (a1.toInt.toNat)) = (gV τ 27 0 (a1.toInt.toNat)) from (show gV τ30 27 0 (a1.toInt.toNat) = (gV τ 27 0 (a1.toInt.toNat)) from gV_put eτ30 rfl))
        have q39 : (gV τ30 27 0 (a3.toInt.toNat)).toInt = (gV τ 27 0 (a3.toInt.toNat)).toInt := congrArg Int32.toInt (show (gV τ30 27 0 (a3.toInt.toNat)) = (gV τ 27 0 (a3.toInt.toNat)) from (show gV τ30 27 0 (a3.toInt.toNat) = (gV τ 27 0 (a3.toInt.toNat)) from gV_put eτ30 rfl))
        exact ih157 τ30 x33 i31 f32 b_a1 b_a2 b_a3 b_a4 (iv_wk b21 (by decide)) (iv_wk b34 (by decide)) (by omega) (by omega) (by omega) (nD.put eτ30) (nC.more eτ30 (ex28.trans (nD _ (by omega))) (by omega) (by omega)) (by have q := hm157; omega)
  have J120 : ∀ (n : Nat) (τ : Sg) (y6 : Int32), Inv τ → Fr MS_X12_copyQ AS_X12_copyQ σ τ → IV a1 0 7 → IV a2 0 40 → IV a3 0 7 → IV a4 0 40 → IV a5 0 40 → IV y6 0 40 → (a2.toInt + a5.toInt ≤ 40 ∧ a4.toInt + a5.toInt ≤ 40) → (((0 ≤ a1.toInt ∧ a1.toInt ≤ 7 ∧ 0 ≤ a3.toInt ∧ a3.toInt ≤ 7) ∧ 0 ≤ (gV σ 26 0 (a1.toInt.toNat)).toInt ∧ 0 ≤ (gV σ 26 0 (a3.toInt.toNat)).toInt ∧ (gV σ 26 0 (a1.toInt.toNat)).toInt = (gV σ 26 0 (a3.toInt.toNat)).toInt ∧ (0 ≤ a2.toInt ∧ 0 ≤ a4.toInt ∧ 0 ≤ a5.toInt ∧ a2.toInt + a5.toInt ≤ (gV σ 27 0 (a1.toInt.toNat)).toInt ∧ a4.toInt + a5.toInt ≤ (gV σ 27 0 (a3.toInt.toNat)).toInt))) → (HC σ τ (40 * (a1.toInt.toNat) + (a2.toInt.toNat)) y6.toInt.toNat) → (40 - y6.toInt).toNat < n → MW p l e { frames := 2, cells := 0, slots := 0, locals := 45 } s m args below meth c (MQ below (QP G (PI fun r τ => Inv τ ∧ Fr MS_X12_copyQ AS_X12_copyQ σ τ ∧ IV r (-2147483648) 2147483647 ∧ ((((a1.toInt < 0 ∨ 7 < a1.toInt ∨ a3.toInt < 0 ∨ 7 < a3.toInt) ∧ r.toInt = -1000001) ∨ ((0 ≤ a1.toInt ∧ a1.toInt ≤ 7 ∧ 0 ≤ a3.toInt ∧ a3.toInt ≤ 7) ∧ ((gV σ 26 0 (a1.toInt.toNat)).toInt < 0 ∨ (gV σ 26 0 (a3.toInt.toNat)).toInt < 0) ∧ r.toInt = -1000011) ∨ ((0 ≤ a1.toInt ∧ a1.toInt ≤ 7 ∧ 0 ≤ a3.toInt ∧ a3.toInt ≤ 7) ∧ ¬ ((gV σ 26 0 (a1.toInt.toNat)).toInt < 0) ∧ ¬ ((gV σ 26 0 (a3.toInt.toNat)).toInt < 0) ∧ (gV σ 26 0 (a1.toInt.toNat)).toInt ≠ (gV σ 26 0 (a3.toInt.toNat)).toInt ∧ r.toInt = -1000015) ∨ ((0 ≤ a1.toInt ∧ a1.toInt ≤ 7 ∧ 0 ≤ a3.toInt ∧ a3.toInt ≤ 7) ∧ ¬ ((gV σ 26 0 (a1.toInt.toNat)).toInt < 0) ∧ ¬ ((gV σ 26 0 (a3.toInt.toNat)).toInt < 0) ∧ (gV σ 26 0 (a1.toInt.toNat)).toInt = (gV σ 26 0 (a3.toInt.toNat)).toInt ∧ ¬ (0 ≤ a2.toInt ∧ 0 ≤ a4.toInt ∧ 0 ≤ a5.toInt ∧ a2.toInt + a5.toInt ≤ (gV σ 27 0 (a1.toInt.toNat)).toInt ∧ a4.toInt + a5.toInt ≤ (gV σ 27 0 (a3.toInt.toNat)).toInt) ∧ r.toInt = -1000012) ∨ ((0 ≤ a1.toInt ∧ a1.toInt ≤ 7 ∧ 0 ≤ a3.toInt ∧ a3.toInt ≤ 7) ∧ ¬ ((gV σ 26 0 (a1.toInt.toNat)).toInt < 0) ∧ ¬ ((gV σ 26 0 (a3.toInt.toNat)).toInt < 0) ∧ (gV σ 26 0 (a1.toInt.toNat)).toInt = (gV σ 26 0 (a3.toInt.toNat)).toInt ∧ (0 ≤ a2.toInt ∧ 0 ≤ a4.toInt ∧ 0 ≤ a5.toInt ∧ a2.toInt + a5.toInt ≤ (gV σ 27 0 (a1.toInt.toNat)).toInt ∧ a4.toInt + a5.toInt ≤ (gV σ 27 0 (a3.toInt.toNat)).toInt) ∧ r.toInt = a5.toInt)) ∧ (((a1.toInt < 0 ∨ 7 < a1.toInt ∨ a3.toInt < 0 ∨ 7 < a3.toInt) → (gV τ 22 0 8).toInt = (gV σ 22 0 8).toInt) ∧ (((0 ≤ a1.toInt ∧ a1.toInt ≤ 7 ∧ 0 ≤ a3.toInt ∧ a3.toInt ≤ 7) ∧ ((gV σ 26 0 (a1.toInt.toNat)).toInt < 0 ∨ (gV σ 26 0 (a3.toInt.toNat)).toInt < 0)) → (gV τ 22 0 8).toInt = 1) ∧ (((0 ≤ a1.toInt ∧ a1.toInt ≤ 7 ∧ 0 ≤ a3.toInt ∧ a3.toInt ≤ 7) ∧ ¬ ((gV σ 26 0 (a1.toInt.toNat)).toInt < 0) ∧ ¬ ((gV σ 26 0 (a3.toInt.toNat)).toInt < 0) ∧ ¬ ((gV σ 26 0 (a1.toInt.toNat)).toInt = (gV σ 26 0 (a3.toInt.toNat)).toInt)) → (gV τ 22 0 8).toInt = 5) ∧ (((0 ≤ a1.toInt ∧ a1.toInt ≤ 7 ∧ 0 ≤ a3.toInt ∧ a3.toInt ≤ 7) ∧ ¬ ((gV σ 26 0 (a1.toInt.toNat)).toInt < 0) ∧ ¬ ((gV σ 26 0 (a3.toInt.toNat)).toInt < 0) ∧ (gV σ 26 0 (a1.toInt.toNat)).toInt = (gV σ 26 0 (a3.toInt.toNat)).toInt ∧ ¬ (0 ≤ a2.toInt ∧ 0 ≤ a4.toInt ∧ 0 ≤ a5.toInt ∧ a2.toInt + a5.toInt ≤ (gV σ 27 0 (a1.toInt.toNat)).toInt ∧ a4.toInt + a5.toInt ≤ (gV σ 27 0 (a3.toInt.toNat)).toInt)) → (gV τ 22 0 8).toInt = 2) ∧ (((0 ≤ a1.toInt ∧ a1.toInt ≤ 7 ∧ 0 ≤ a3.toInt ∧ a3.toInt ≤ 7) ∧ ¬ ((gV σ 26 0 (a1.toInt.toNat)).toInt < 0) ∧ ¬ ((gV σ 26 0 (a3.toInt.toNat)).toInt < 0) ∧ (gV σ 26 0 (a1.toInt.toNat)).toInt = (gV σ 26 0 (a3.toInt.toNat)).toInt ∧ (0 ≤ a2.toInt ∧ 0 ≤ a4.toInt ∧ 0 ≤ a5.toInt ∧ a2.toInt + a5.toInt ≤ (gV σ 27 0 (a1.toInt.toNat)).toInt ∧ a4.toInt + a5.toInt ≤ (gV σ 27 0 (a3.toInt.toNat)).toInt)) → (gV τ 22 0 8).toInt = 0)) ∧ ((((0 ≤ a1.toInt ∧ a1.toInt ≤ 7 ∧ 0 ≤ a3.toInt ∧ a3.toInt ≤ 7) ∧ ¬ ((gV σ 26 0 (a1.toInt.toNat)).toInt < 0) ∧ ¬ ((gV σ 26 0 (a3.toInt.toNat)).toInt < 0) ∧ (gV σ 26 0 (a1.toInt.toNat)).toInt = (gV σ 26 0 (a3.toInt.toNat)).toInt ∧ (0 ≤ a2.toInt ∧ 0 ≤ a4.toInt ∧ 0 ≤ a5.toInt ∧ a2.toInt + a5.toInt ≤ (gV σ 27 0 (a1.toInt.toNat)).toInt ∧ a4.toInt + a5.toInt ≤ (gV σ 27 0 (a3.toInt.toNat)).toInt)) → JC σ τ (40 * (a1.toInt.toNat) + (a2.toInt.toNat)) (40 * (a3.toInt.toNat) + (a4.toInt.toNat)) (a5.toInt.toNat)) ∧ (¬ ((0 ≤ a1.toInt ∧ a1.toInt ≤ 7 ∧ 0 ≤ a3.toInt ∧ a3.toInt ≤ 7) ∧ ¬ ((gV σ 26 0 (a1.toInt.toNat)).toInt < 0) ∧ ¬ ((gV σ 26 0 (a3.toInt.toNat)).toInt < 0) ∧ (gV σ 26 0 (a1.toInt.toNat)).toInt = (gV σ 26 0 (a3.toInt.toNat)).toInt ∧ (0 ≤ a2.toInt ∧ 0 ≤ a4.toInt ∧ 0 ≤ a5.toInt ∧ a2.toInt + a5.toInt ≤ (gV σ 27 0 (a1.toInt.toNat)).toInt ∧ a4.toInt + a5.toInt ≤ (gV σ 27 0 (a3.toInt.toNat)).toInt)) → SameJ σ τ))))) args s 0 0 (aG G)) 7 G 0 0 120 [some (.ref (G.1 22 0)), some (.int a1), some (.int a2), some (.int a3), some (.int a4), some (.int a5), some (.int y6)] [] τ := by
    intro n
    induction n with
    | zero => intro τ y6 iτ fτ b_a1 b_a2 b_a3 b_a4 b_a5 b_y6 n40 n41 nH hm; exact absurd hm (Nat.not_lt_zero _)
    | succ n ih120 =>
      intro τ y6 iτ fτ b_a1 b_a2 b_a3 b_a4 b_a5 b_y6 n40 n41 nH hm120
      have u42 : IV (gV τ 27 0 (a1.toInt.toNat)) 0 40 := iτ.1 27 0 (a1.toInt.toNat)
      have u43 : IV (gV τ 27 0 (a3.toInt.toNat)) 0 40 := iτ.1 27 0 (a3.toInt.toNat)
      refine m_iload C dX12_copy_120 rfl ?_
      refine m_iload C dX12_copy_122 rfl ?_
      refine m_icmp_ge (tgt := 154) C dX12_copy_124 (by decide) (fun c44 => ?_) (fun c44 => ?_)
      · have f45 : a5.toInt ≤ y6.toInt := by
          have q : _ := c44
          simp only [ti_nle, ti_nlt, ti_le, ti_lt, ti_eq, ti_ne, Classical.not_not] at q
          omega
        refine m_iconst (v := 0) C dX12_copy_154 (by decide) ?_
        refine m_istore (L1 := [some (.ref (G.1 22 0)), some (.int a1), some (.int a2), some (.int a3), some (.int a4), some (.int a5), some (.int 0)]) C dX12_copy_155 (by decide) rfl rfl ?_
        refine m_sub (L1 := [some (.ref (G.1 22 0)), none, none, some (.int a3), some (.int a4), some (.int a5), some (.int 0)]) ⟨rfl, ⟨rfl, ⟨rfl, ⟨rfl, ⟨rfl, trivial⟩⟩⟩⟩⟩ ?_
        exact J157 ((40 - (0 : Int32).toInt).toNat + 1) τ 0 iτ fτ b_a1 b_a2 b_a3 b_a4 b_a5 (iv_wk kc_0 (by decide)) (by omega) (by omega) (by omega) (fun k hk => nH.2 k (by omega)) (JC.start nH.1 kn_0) (Nat.lt_succ_self _)
      · have f46 : y6.toInt < a5.toInt := by
          have q : _ := c44
          simp only [ti_nle, ti_nlt, ti_le, ti_lt, ti_eq, ti_ne, Classical.not_not] at q
          omega
        have b47 : IV y6 0 39 := ⟨by have q1 := b_y6; have q2 := b_a5; omega, by have q1 := b_y6; have q2 := b_a5; omega⟩
        have b48 : IV a5 1 40 := ⟨by have q1 := b_y6; have q2 := b_a5; omega, by have q1 := b_y6; have q2 := b_a5; omega⟩
        refine m_aload_n C dX12_copy_127 rfl rfl ?_
        refine g_22_10 C q4_126 dX12_copy_128 ?_
        refine m_iload C dX12_copy_131 rfl ?_
        refine m_aload_n C dX12_copy_133 rfl rfl ?_
        refine g_22_2 C q4_118 dX12_copy_134 ?_
        refine m_bipush (v := 40) C dX12_copy_137 (by decide) ?_
        refine m_iload_n C dX12_copy_139 rfl rfl ?_
        refine m_imul C dX12_copy_140 ?_
        refine m_topi (fun x49 ex49 => ?_)
        have tx49 : x49.toInt = 40 * a1.toInt := by rw [ex49, ti_mulv kc_40 b_a1 (by decide), kt_40]
        have b50 : IV x49 0 280 := by rw [ex49]; exact iv_mul kc_40 b_a1 (by decide)
        refine m_iload_n C dX12_copy_141 rfl rfl ?_
        refine m_iadd C dX12_copy_142 ?_
        refine m_topi (fun x51 ex51 => ?_)
        have tx51 : x51.toInt = x49.toInt + a2.toInt := by rw [ex51, ti_addv b50 b_a2 (by decide)]
        have b52 : IV x51 0 320 := by rw [ex51]; exact iv_add b50 b_a2 (by decide)
        refine m_iload C dX12_copy_143 rfl ?_
        refine m_iadd C dX12_copy_145 ?_
        refine m_topi (fun x53 ex53 => ?_)
        have tx53 : x53.toInt = x51.toInt + y6.toInt := by rw [ex53, ti_addv b52 b47 (by decide)]
        have b54 : IV x53 0 359 := by rw [ex53]; exact iv_add b52 b47 (by decide)
        have b55 : IV x53 0 319 := ⟨by have q1 := b54; omega, by have q1 := b54; omega⟩
        refine al_25 C b55 (by decide) rfl dX12_copy_146 ?_
        refine m_topi (fun x56 ex56 => ?_)
        refine as_29 C b47 (by decide) rfl dX12_copy_147 ?_
        refine m_tops (fun τ57 eτ57 => ?_)
        have i58 : Inv τ57 := eτ57 ▸ Inv.putF iτ (by decide) rfl
        have f59 : Fr MS_X12_copyQ AS_X12_copyQ σ τ57 := eτ57 ▸ Fr.put (fτ) (Or.inr (by decide))
        obtain ⟨x60, ex60⟩ : ∃ y : Int32, y = y6 + 1 := ⟨_, rfl⟩
        have tx60 : x60.toInt = y6.toInt + 1 := by rw [ex60, ti_addv b47 kc_1 (by decide), kt_1]
        have b61 : IV x60 1 40 := by rw [ex60]; exact iv_add b47 kc_1 (by decide)
        refine m_iinc (v := x60) (L1 := [some (.ref (G.1 22 0)), some (.int a1), some (.int a2), some (.int a3), some (.int a4), some (.int a5), some (.int x60)]) C dX12_copy_148 rfl (by rw [ex60]; rfl) (by decide) rfl rfl ?_
        refine m_goto (tgt := 120) C dX12_copy_151 (by decide) ?_
        have q62 : (gV τ57 22 0 8).toInt = (gV τ 22 0 8).toInt := congrArg Int32.toInt (show (gV τ57 22 0 8) = (gV τ 22 0 8) from (show gV τ57 22 0 8 = (gV τ 22 0 8) from gV_put eτ57 rfl))
        have q63 : (gV τ57 26 0 (a1.toInt.toNat)).toInt = (gV τ 26 0 (a1.toInt.toNat)).toInt := congrArg Int32.toInt (show (gV τ57 26 0 (a1.toInt.toNat)) = (gV τ 26 0 (a1.toInt.toNat)) from (show gV τ57 26 0 (a1.toInt.toNat) = (gV τ 26 0 (a1.toInt.toNat)) from gV_put eτ57 rfl))
        have q64 : (gV τ57 26 0 (a3.toInt.toNat)).toInt = (gV τ 26 0 (a3.toInt.toNat)).toInt := congrArg Int32.toInt (show (gV τ57 26 0 (a3.toInt.toNat)) = (gV τ 26 0 (a3.toInt.toNat)) from (show gV τ57 26 0 (a3.toInt.toNat) = (gV τ 26 0 (a3.toInt.toNat)) from gV_put eτ57 rfl))
        have q65 : (gV τ57 27 0 (a1.toInt.toNat)).toInt = (gV τ 27 0 (a1.toInt.toNat)).toInt := congrArg Int32.toInt (show (gV τ57 27 0 (a1.toInt.toNat)) = (gV τ 27 0 (a1.toInt.toNat)) from (show gV τ57 27 0 (a1.toInt.toNat) = (gV τ 27 0 (a1.toInt.toNat)) from gV_put eτ57 rfl))
        have q66 : (gV τ57 27 0 (a3.toInt.toNat)).toInt = (gV τ 27 0 (a3.toInt.toNat)).toInt := congrArg Int32.toInt (show (gV τ57 27 0 (a3.toInt.toNat)) = (gV τ 27 0 (a3.toInt.toNat)) from (show gV τ57 27 0 (a3.toInt.toNat) = (gV τ 27 0 (a3.toInt.toNat)) from gV_put eτ57 rfl))
        exact ih120 τ57 x60 i58 f59 b_a1 b_a2 b_a3 b_a4 (iv_wk b48 (by decide)) (iv_wk b61 (by decide)) (by omega) (by omega) (nH.more eτ57 ex56.symm (by omega) (by omega)) (by have q := hm120; omega)
  have u67 : IV (gV σ 27 0 (a1.toInt.toNat)) 0 40 := hI.1 27 0 (a1.toInt.toNat)
  have u68 : IV (gV σ 27 0 (a3.toInt.toNat)) 0 40 := hI.1 27 0 (a3.toInt.toNat)
  refine m_iload_n C dX12_copy_0 rfl rfl ?_
  refine m_callS (n := 1) (st := []) C (c_X12_isRow l G σ (a1) hI ) q4_186 q4_184 q4_185 q1_7 (by decide +kernel) rfl (by decide) (by decide) rfl (Nat.le_of_ble_eq_true rfl) dX12_copy_1 ?_
  rintro _ τ69 ⟨x72, rfl, i70, f71, b73, h75⟩
  have g74 : Fr MS_X12_copyQ AS_X12_copyQ σ τ69 := Fr.call (Fr.rf) f71 (by decide)
  have q76 : (gV τ69 22 0 8).toInt = (gV σ 22 0 8).toInt := congrArg Int32.toInt (show (gV τ69 22 0 8) = (gV σ 22 0 8) from (show gV τ69 22 0 8 = (gV σ 22 0 8) from (f71.1 22 0 (8) (by decide) (by decide)).trans rfl))
  have q77 : (gV τ69 26 0 (a1.toInt.toNat)).toInt = (gV σ 26 0 (a1.toInt.toNat)).toInt := congrArg Int32.toInt (show (gV τ69 26 0 (a1.toInt.toNat)) = (gV σ 26 0 (a1.toInt.toNat)) from (show gV τ69 26 0 (a1.toInt.toNat) = (gV σ 26 0 (a1.toInt.toNat)) from (f71.1 26 0 ((a1.toInt.toNat)) (by simp) (by decide)).trans rfl))
  have q78 : (gV τ69 26 0 (a3.toInt.toNat)).toInt = (gV σ 26 0 (a3.toInt.toNat)).toInt := congrArg Int32.toInt (show (gV τ69 26 0 (a3.toInt.toNat)) = (gV σ 26 0 (a3.toInt.toNat)) from (show gV τ69 26 0 (a3.toInt.toNat) = (gV σ 26 0 (a3.toInt.toNat)) from (f71.1 26 0 ((a3.toInt.toNat)) (by simp) (by decide)).trans rfl))
  have q79 : (gV τ69 27 0 (a1.toInt.toNat)).toInt = (gV σ 27 0 (a1.toInt.toNat)).toInt := congrArg Int32.toInt (show (gV τ69 27 0 (a1.toInt.toNat)) = (gV σ 27 0 (a1.toInt.toNat)) from (show gV τ69 27 0 (a1.toInt.toNat) = (gV σ 27 0 (a1.toInt.toNat)) from (f71.1 27 0 ((a1.toInt.toNat)) (by simp) (by decide)).trans rfl))
  have q80 : (gV τ69 27 0 (a3.toInt.toNat)).toInt = (gV σ 27 0 (a3.toInt.toNat)).toInt := congrArg Int32.toInt (show (gV τ69 27 0 (a3.toInt.toNat)) = (gV σ 27 0 (a3.toInt.toNat)) from (show gV τ69 27 0 (a3.toInt.toNat) = (gV σ 27 0 (a3.toInt.toNat)) from (f71.1 27 0 ((a3.toInt.toNat)) (by simp) (by decide)).trans rfl))
  rcases h75 with ⟨h75_0, h75_1, h75_2⟩ | ⟨h75_0, h75_1⟩
  · skip
    have b81 : IV x72 1 1 := ⟨by omega, by omega⟩
    show MW p l e _ s m args below meth c _ 7 G 0 0 4 [some (.ref (G.1 22 0)), some (.int a1), some (.int a2), some (.int a3), some (.int a4), some (.int a5), none] [.int x72] τ69
    refine m_if_eq (tgt := 14) C dX12_copy_4 (by decide) (fun c82 => ?_) (fun c82 => ?_)
    · exfalso
      have q : _ := c82
      simp only [ti_nle, ti_nlt, ti_le, ti_lt, ti_eq, ti_ne, Classical.not_not, kt_0] at q
      have q1 := b81; have q2 := kc_0; omega
    · have f84 : x72.toInt ≠ 0 := by
        have q : _ := c82
        simp only [ti_nle, ti_nlt, ti_le, ti_lt, ti_eq, ti_ne, Classical.not_not, kt_0] at q
        omega
      have b85 : IV a1 0 7 := ⟨by have q1 := (iv_any a1); omega, by have q1 := (iv_any a1); omega⟩
      refine m_iload_n C dX12_copy_7 rfl rfl ?_
      refine m_callS (n := 1) (st := []) C (c_X12_isRow l G τ69 (a3) i70 ) q4_186 q4_184 q4_185 q1_7 (by decide +kernel) rfl (by decide) (by decide) rfl (Nat.le_of_ble_eq_true rfl) dX12_copy_8 ?_
      rintro _ τ86 ⟨x89, rfl, i87, f88, b90, h92⟩
      have g91 : Fr MS_X12_copyQ AS_X12_copyQ σ τ86 := Fr.call (g74) f88 (by decide)
      have q93 : (gV τ86 22 0 8).toInt = (gV σ 22 0 8).toInt := congrArg Int32.toInt (show (gV τ86 22 0 8) = (gV σ 22 0 8) from (show gV τ86 22 0 8 = (gV σ 22 0 8) from (f88.1 22 0 (8) (by decide) (by decide)).trans (show gV τ69 22 0 8 = (gV σ 22 0 8) from (f71.1 22 0 (8) (by decide) (by decide)).trans rfl)))
      have q94 : (gV τ86 26 0 (a1.toInt.toNat)).toInt = (gV σ 26 0 (a1.toInt.toNat)).toInt := congrArg Int32.toInt (show (gV τ86 26 0 (a1.toInt.toNat)) = (gV σ 26 0 (a1.toInt.toNat)) from (show gV τ86 26 0 (a1.toInt.toNat) = (gV σ 26 0 (a1.toInt.toNat)) from (f88.1 26 0 ((a1.toInt.toNat)) (by simp) (by decide)).trans (show gV τ69 26 0 (a1.toInt.toNat) = (gV σ 26 0 (a1.toInt.toNat)) from (f71.1 26 0 ((a1.toInt.toNat)) (by simp) (by decide)).trans rfl)))
      have q95 : (gV τ86 26 0 (a3.toInt.toNat)).toInt = (gV σ 26 0 (a3.toInt.toNat)).toInt := congrArg Int32.toInt (show (gV τ86 26 0 (a3.toInt.toNat)) = (gV σ 26 0 (a3.toInt.toNat)) from (show gV τ86 26 0 (a3.toInt.toNat) = (gV σ 26 0 (a3.toInt.toNat)) from (f88.1 26 0 ((a3.toInt.toNat)) (by simp) (by decide)).trans (show gV τ69 26 0 (a3.toInt.toNat) = (gV σ 26 0 (a3.toInt.toNat)) from (f71.1 26 0 ((a3.toInt.toNat)) (by simp) (by decide)).trans rfl)))
      have q96 : (gV τ86 27 0 (a1.toInt.toNat)).toInt = (gV σ 27 0 (a1.toInt.toNat)).toInt := congrArg Int32.toInt (show (gV τ86 27 0 (a1.toInt.toNat)) = (gV σ 27 0 (a1.toInt.toNat)) from (show gV τ86 27 0 (a1.toInt.toNat) = (gV σ 27 0 (a1.toInt.toNat)) from (f88.1 27 0 ((a1.toInt.toNat)) (by simp) (by decide)).trans (show gV τ69 27 0 (a1.toInt.toNat) = (gV σ 27 0 (a1.toInt.toNat)) from (f71.1 27 0 ((a1.toInt.toNat)) (by simp) (by decide)).trans rfl)))
      have q97 : (gV τ86 27 0 (a3.toInt.toNat)).toInt = (gV σ 27 0 (a3.toInt.toNat)).toInt := congrArg Int32.toInt (show (gV τ86 27 0 (a3.toInt.toNat)) = (gV σ 27 0 (a3.toInt.toNat)) from (show gV τ86 27 0 (a3.toInt.toNat) = (gV σ 27 0 (a3.toInt.toNat)) from (f88.1 27 0 ((a3.toInt.toNat)) (by simp) (by decide)).trans (show gV τ69 27 0 (a3.toInt.toNat) = (gV σ 27 0 (a3.toInt.toNat)) from (f71.1 27 0 ((a3.toInt.toNat)) (by simp) (by decide)).trans rfl)))
      rcases h92 with ⟨h92_0, h92_1, h92_2⟩ | ⟨h92_0, h92_1⟩
      · skip
        have b98 : IV x89 1 1 := ⟨by omega, by omega⟩
        show MW p l e _ s m args below meth c _ 7 G 0 0 11 [some (.ref (G.1 22 0)), some (.int a1), some (.int a2), some (.int a3), some (.int a4), some (.int a5), none] [.int x89] τ86
        refine m_if_ne (tgt := 17) C dX12_copy_11 (by decide) (fun c99 => ?_) (fun c99 => ?_)
        · have f100 : x89.toInt ≠ 0 := by
            have q : _ := c99
            simp only [ti_nle, ti_nlt, ti_le, ti_lt, ti_eq, ti_ne, Classical.not_not, kt_0] at q
            omega
          have b101 : IV a3 0 7 := ⟨by have q1 := (iv_any a3); omega, by have q1 := (iv_any a3); omega⟩
          refine m_aload_n C dX12_copy_17 rfl rfl ?_
          refine g_22_3 C q4_119 dX12_copy_18 ?_
          refine m_iload_n C dX12_copy_21 rfl rfl ?_
          refine al_26 C b85 (by decide) rfl dX12_copy_22 ?_
          refine m_eqs (w := (gV σ 26 0 (a1.toInt.toNat))) (show gV τ86 26 0 (a1.toInt.toNat) = (gV σ 26 0 (a1.toInt.toNat)) from (f88.1 26 0 ((a1.toInt.toNat)) (by simp) (by decide)).trans (show gV τ69 26 0 (a1.toInt.toNat) = (gV σ 26 0 (a1.toInt.toNat)) from (f71.1 26 0 ((a1.toInt.toNat)) (by simp) (by decide)).trans rfl)) ?_
          refine m_if_lt (tgt := 35) C dX12_copy_23 (by decide) (fun c102 => ?_) (fun c102 => ?_)
          · have f103 : (gV σ 26 0 (a1.toInt.toNat)).toInt < 0 := by
              have q : _ := c102
              simp only [ti_nle, ti_nlt, ti_le, ti_lt, ti_eq, ti_ne, Classical.not_not, kt_0] at q
              omega
            have b104 : IV (gV σ 26 0 (a1.toInt.toNat)) (-2147483648) (-1) := ⟨by have q1 := (iv_any (gV σ 26 0 (a1.toInt.toNat))); have q2 := kc_0; omega, by have q1 := (iv_any (gV σ 26 0 (a1.toInt.toNat))); have q2 := kc_0; omega⟩
            refine m_aload_n C dX12_copy_35 rfl rfl ?_
            refine m_iconst (v := 1) C dX12_copy_36 (by decide) ?_
            have q105 := kt_1
            refine m_callV (n := 1) (ci := 11) (st := []) C (c_X12_metQ l G τ86 (1) i87 (iv_wk kc_1 (by decide))) (by decide) (by decide) rfl rfl rfl q4_196 q4_193 q4_195 q0_26 q1_7 (by decide +kernel) rfl (by decide) (by decide) rfl (Nat.le_of_ble_eq_true rfl) dX12_copy_37 ?_
            rintro _ τ106 ⟨x109, rfl, i107, f108, b110, h112⟩
            have g111 : Fr MS_X12_copyQ AS_X12_copyQ σ τ106 := Fr.call (g91) f108 (by decide)
            have q113 : (gV τ106 26 0 (a1.toInt.toNat)).toInt = (gV σ 26 0 (a1.toInt.toNat)).toInt := congrArg Int32.toInt (show (gV τ106 26 0 (a1.toInt.toNat)) = (gV σ 26 0 (a1.toInt.toNat)) from (show gV τ106 26 0 (a1.toInt.toNat) = (gV σ 26 0 (a1.toInt.toNat)) from (f108.1 26 0 ((a1.toInt.toNat)) (by simp) (by decide)).trans (show gV τ86 26 0 (a1.toInt.toNat) = (gV σ 26 0 (a1.toInt.toNat)) from (f88.1 26 0 ((a1.toInt.toNat)) (by simp) (by decide)).trans (show gV τ69 26 0 (a1.toInt.toNat) = (gV σ 26 0 (a1.toInt.toNat)) from (f71.1 26 0 ((a1.toInt.toNat)) (by simp) (by decide)).trans rfl))))
            have q114 : (gV τ106 26 0 (a3.toInt.toNat)).toInt = (gV σ 26 0 (a3.toInt.toNat)).toInt := congrArg Int32.toInt (show (gV τ106 26 0 (a3.toInt.toNat)) = (gV σ 26 0 (a3.toInt.toNat)) from (show gV τ106 26 0 (a3.toInt.toNat) = (gV σ 26 0 (a3.toInt.toNat)) from (f108.1 26 0 ((a3.toInt.toNat)) (by simp) (by decide)).trans (show gV τ86 26 0 (a3.toInt.toNat) = (gV σ 26 0 (a3.toInt.toNat)) from (f88.1 26 0 ((a3.toInt.toNat)) (by simp) (by decide)).trans (show gV τ69 26 0 (a3.toInt.toNat) = (gV σ 26 0 (a3.toInt.toNat)) from (f71.1 26 0 ((a3.toInt.toNat)) (by simp) (by decide)).trans rfl))))
            have q115 : (gV τ106 27 0 (a1.toInt.toNat)).toInt = (gV σ 27 0 (a1.toInt.toNat)).toInt := congrArg Int32.toInt (show (gV τ106 27 0 (a1.toInt.toNat)) = (gV σ 27 0 (a1.toInt.toNat)) from (show gV τ106 27 0 (a1.toInt.toNat) = (gV σ 27 0 (a1.toInt.toNat)) from (f108.1 27 0 ((a1.toInt.toNat)) (by simp) (by decide)).trans (show gV τ86 27 0 (a1.toInt.toNat) = (gV σ 27 0 (a1.toInt.toNat)) from (f88.1 27 0 ((a1.toInt.toNat)) (by simp) (by decide)).trans (show gV τ69 27 0 (a1.toInt.toNat) = (gV σ 27 0 (a1.toInt.toNat)) from (f71.1 27 0 ((a1.toInt.toNat)) (by simp) (by decide)).trans rfl))))
            have q116 : (gV τ106 27 0 (a3.toInt.toNat)).toInt = (gV σ 27 0 (a3.toInt.toNat)).toInt := congrArg Int32.toInt (show (gV τ106 27 0 (a3.toInt.toNat)) = (gV σ 27 0 (a3.toInt.toNat)) from (show gV τ106 27 0 (a3.toInt.toNat) = (gV σ 27 0 (a3.toInt.toNat)) from (f108.1 27 0 ((a3.toInt.toNat)) (by simp) (by decide)).trans (show gV τ86 27 0 (a3.toInt.toNat) = (gV σ 27 0 (a3.toInt.toNat)) from (f88.1 27 0 ((a3.toInt.toNat)) (by simp) (by decide)).trans (show gV τ69 27 0 (a3.toInt.toNat) = (gV σ 27 0 (a3.toInt.toNat)) from (f71.1 27 0 ((a3.toInt.toNat)) (by simp) (by decide)).trans rfl))))
            have q117 := kt_1
            show MW p l e _ s m args below meth c _ 7 G 0 0 40 [some (.ref (G.1 22 0)), some (.int a1), some (.int a2), some (.int a3), some (.int a4), some (.int a5), none] [.int x109] τ106
            exact m_iret C hr hlk (by decide) (by decide) dX12_copy_40 ⟨_, rfl, i107, g111, (iv_wk b110 (by decide)), ⟨(Or.inr (Or.inl ⟨by omega, by omega, by omega⟩)), (by omega), ⟨fun h => absurd h (by omega), fun _ => (fun k => (f108.1 25 0 k (by simp) (by decide)).trans ((fun k => (f88.1 25 0 k (by simp) (by decide)).trans ((fun k => (f71.1 25 0 k (by simp) (by decide)).trans ((fun _ => rfl) k)) k)) k))⟩⟩⟩
          · have f118 : 0 ≤ (gV σ 26 0 (a1.toInt.toNat)).toInt := by
              have q : _ := c102
              simp only [ti_nle, ti_nlt, ti_le, ti_lt, ti_eq, ti_ne, Classical.not_not, kt_0] at q
              omega
            have b119 : IV (gV σ 26 0 (a1.toInt.toNat)) 0 2147483647 := ⟨by have q1 := kc_0; have q2 := (iv_any (gV σ 26 0 (a1.toInt.toNat))); omega, by have q1 := kc_0; have q2 := (iv_any (gV σ 26 0 (a1.toInt.toNat))); omega⟩
            refine m_aload_n C dX12_copy_26 rfl rfl ?_
            refine g_22_3 C q4_119 dX12_copy_27 ?_
            refine m_iload_n C dX12_copy_30 rfl rfl ?_
            refine al_26 C b101 (by decide) rfl dX12_copy_31 ?_
            refine m_eqs (w := (gV σ 26 0 (a3.toInt.toNat))) (show gV τ86 26 0 (a3.toInt.toNat) = (gV σ 26 0 (a3.toInt.toNat)) from (f88.1 26 0 ((a3.toInt.toNat)) (by simp) (by decide)).trans (show gV τ69 26 0 (a3.toInt.toNat) = (gV σ 26 0 (a3.toInt.toNat)) from (f71.1 26 0 ((a3.toInt.toNat)) (by simp) (by decide)).trans rfl)) ?_
            refine m_if_ge (tgt := 41) C dX12_copy_32 (by decide) (fun c120 => ?_) (fun c120 => ?_)
            · have f121 : 0 ≤ (gV σ 26 0 (a3.toInt.toNat)).toInt := by
                have q : _ := c120
                simp only [ti_nle, ti_nlt, ti_le, ti_lt, ti_eq, ti_ne, Classical.not_not, kt_0] at q
                omega
              have b122 : IV (gV σ 26 0 (a3.toInt.toNat)) 0 2147483647 := ⟨by have q1 := kc_0; have q2 := (iv_any (gV σ 26 0 (a3.toInt.toNat))); omega, by have q1 := kc_0; have q2 := (iv_any (gV σ 26 0 (a3.toInt.toNat))); omega⟩
              refine m_aload_n C dX12_copy_41 rfl rfl ?_
              refine g_22_3 C q4_119 dX12_copy_42 ?_
              refine m_iload_n C dX12_copy_45 rfl rfl ?_
              refine al_26 C b85 (by decide) rfl dX12_copy_46 ?_
              refine m_eqs (w := (gV σ 26 0 (a1.toInt.toNat))) (show gV τ86 26 0 (a1.toInt.toNat) = (gV σ 26 0 (a1.toInt.toNat)) from (f88.1 26 0 ((a1.toInt.toNat)) (by simp) (by decide)).trans (show gV τ69 26 0 (a1.toInt.toNat) = (gV σ 26 0 (a1.toInt.toNat)) from (f71.1 26 0 ((a1.toInt.toNat)) (by simp) (by decide)).trans rfl)) ?_
              refine m_aload_n C dX12_copy_47 rfl rfl ?_
              refine g_22_3 C q4_119 dX12_copy_48 ?_
              refine m_iload_n C dX12_copy_51 rfl rfl ?_
              refine al_26 C b101 (by decide) rfl dX12_copy_52 ?_
              refine m_eqs (w := (gV σ 26 0 (a3.toInt.toNat))) (show gV τ86 26 0 (a3.toInt.toNat) = (gV σ 26 0 (a3.toInt.toNat)) from (f88.1 26 0 ((a3.toInt.toNat)) (by simp) (by decide)).trans (show gV τ69 26 0 (a3.toInt.toNat) = (gV σ 26 0 (a3.toInt.toNat)) from (f71.1 26 0 ((a3.toInt.toNat)) (by simp) (by decide)).trans rfl)) ?_
              refine m_icmp_eq (tgt := 62) C dX12_copy_53 (by decide) (fun c123 => ?_) (fun c123 => ?_)
              · have f124 : (gV σ 26 0 (a1.toInt.toNat)).toInt = (gV σ 26 0 (a3.toInt.toNat)).toInt := by
                  have q : _ := c123
                  simp only [ti_nle, ti_nlt, ti_le, ti_lt, ti_eq, ti_ne, Classical.not_not] at q
                  omega
                refine m_iload_n C dX12_copy_62 rfl rfl ?_
                refine m_if_lt (tgt := 111) C dX12_copy_63 (by decide) (fun c125 => ?_) (fun c125 => ?_)
                · have f126 : a2.toInt < 0 := by
                    have q : _ := c125
                    simp only [ti_nle, ti_nlt, ti_le, ti_lt, ti_eq, ti_ne, Classical.not_not, kt_0] at q
                    omega
                  have b127 : IV a2 (-2147483648) (-1) := ⟨by have q1 := (iv_any a2); have q2 := kc_0; omega, by have q1 := (iv_any a2); have q2 := kc_0; omega⟩
                  refine m_aload_n C dX12_copy_111 rfl rfl ?_
                  refine m_iconst (v := 2) C dX12_copy_112 (by decide) ?_
                  have q128 := kt_2
                  refine m_callV (n := 1) (ci := 11) (st := []) C (c_X12_metQ l G τ86 (2) i87 (iv_wk kc_2 (by decide))) (by decide) (by decide) rfl rfl rfl q4_196 q4_193 q4_195 q0_26 q1_7 (by decide +kernel) rfl (by decide) (by decide) rfl (Nat.le_of_ble_eq_true rfl) dX12_copy_113 ?_
                  rintro _ τ129 ⟨x132, rfl, i130, f131, b133, h135⟩
                  have g134 : Fr MS_X12_copyQ AS_X12_copyQ σ τ129 := Fr.call (g91) f131 (by decide)
                  have q136 : (gV τ129 26 0 (a1.toInt.toNat)).toInt = (gV σ 26 0 (a1.toInt.toNat)).toInt := congrArg Int32.toInt (show (gV τ129 26 0 (a1.toInt.toNat)) = (gV σ 26 0 (a1.toInt.toNat)) from (show gV τ129 26 0 (a1.toInt.toNat) = (gV σ 26 0 (a1.toInt.toNat)) from (f131.1 26 0 ((a1.toInt.toNat)) (by simp) (by decide)).trans (show gV τ86 26 0 (a1.toInt.toNat) = (gV σ 26 0 (a1.toInt.toNat)) from (f88.1 26 0 ((a1.toInt.toNat)) (by simp) (by decide)).trans (show gV τ69 26 0 (a1.toInt.toNat) = (gV σ 26 0 (a1.toInt.toNat)) from (f71.1 26 0 ((a1.toInt.toNat)) (by simp) (by decide)).trans rfl))))
                  have q137 : (gV τ129 26 0 (a3.toInt.toNat)).toInt = (gV σ 26 0 (a3.toInt.toNat)).toInt := congrArg Int32.toInt (show (gV τ129 26 0 (a3.toInt.toNat)) = (gV σ 26 0 (a3.toInt.toNat)) from (show gV τ129 26 0 (a3.toInt.toNat) = (gV σ 26 0 (a3.toInt.toNat)) from (f131.1 26 0 ((a3.toInt.toNat)) (by simp) (by decide)).trans (show gV τ86 26 0 (a3.toInt.toNat) = (gV σ 26 0 (a3.toInt.toNat)) from (f88.1 26 0 ((a3.toInt.toNat)) (by simp) (by decide)).trans (show gV τ69 26 0 (a3.toInt.toNat) = (gV σ 26 0 (a3.toInt.toNat)) from (f71.1 26 0 ((a3.toInt.toNat)) (by simp) (by decide)).trans rfl))))
                  have q138 : (gV τ129 27 0 (a1.toInt.toNat)).toInt = (gV σ 27 0 (a1.toInt.toNat)).toInt := congrArg Int32.toInt (show (gV τ129 27 0 (a1.toInt.toNat)) = (gV σ 27 0 (a1.toInt.toNat)) from (show gV τ129 27 0 (a1.toInt.toNat) = (gV σ 27 0 (a1.toInt.toNat)) from (f131.1 27 0 ((a1.toInt.toNat)) (by simp) (by decide)).trans (show gV τ86 27 0 (a1.toInt.toNat) = (gV σ 27 0 (a1.toInt.toNat)) from (f88.1 27 0 ((a1.toInt.toNat)) (by simp) (by decide)).trans (show gV τ69 27 0 (a1.toInt.toNat) = (gV σ 27 0 (a1.toInt.toNat)) from (f71.1 27 0 ((a1.toInt.toNat)) (by simp) (by decide)).trans rfl))))
                  have q139 : (gV τ129 27 0 (a3.toInt.toNat)).toInt = (gV σ 27 0 (a3.toInt.toNat)).toInt := congrArg Int32.toInt (show (gV τ129 27 0 (a3.toInt.toNat)) = (gV σ 27 0 (a3.toInt.toNat)) from (show gV τ129 27 0 (a3.toInt.toNat) = (gV σ 27 0 (a3.toInt.toNat)) from (f131.1 27 0 ((a3.toInt.toNat)) (by simp) (by decide)).trans (show gV τ86 27 0 (a3.toInt.toNat) = (gV σ 27 0 (a3.toInt.toNat)) from (f88.1 27 0 ((a3.toInt.toNat)) (by simp) (by decide)).trans (show gV τ69 27 0 (a3.toInt.toNat) = (gV σ 27 0 (a3.toInt.toNat)) from (f71.1 27 0 ((a3.toInt.toNat)) (by simp) (by decide)).trans rfl))))
                  have q140 := kt_2
                  show MW p l e _ s m args below meth c _ 7 G 0 0 116 [some (.ref (G.1 22 0)), some (.int a1), some (.int a2), some (.int a3), some (.int a4), some (.int a5), none] [.int x132] τ129
                  exact m_iret C hr hlk (by decide) (by decide) dX12_copy_116 ⟨_, rfl, i130, g134, (iv_wk b133 (by decide)), ⟨(Or.inr (Or.inr (Or.inr (Or.inl ⟨by omega, by omega, by omega, by omega, by omega, by omega⟩)))), (by omega), ⟨fun h => absurd h (by omega), fun _ => (fun k => (f131.1 25 0 k (by simp) (by decide)).trans ((fun k => (f88.1 25 0 k (by simp) (by decide)).trans ((fun k => (f71.1 25 0 k (by simp) (by decide)).trans ((fun _ => rfl) k)) k)) k))⟩⟩⟩
                · have f141 : 0 ≤ a2.toInt := by
                    have q : _ := c125
                    simp only [ti_nle, ti_nlt, ti_le, ti_lt, ti_eq, ti_ne, Classical.not_not, kt_0] at q
                    omega
                  have b142 : IV a2 0 2147483647 := ⟨by have q1 := kc_0; have q2 := (iv_any a2); omega, by have q1 := kc_0; have q2 := (iv_any a2); omega⟩
                  refine m_iload C dX12_copy_66 rfl ?_
                  refine m_if_lt (tgt := 111) C dX12_copy_68 (by decide) (fun c143 => ?_) (fun c143 => ?_)
                  · have f144 : a4.toInt < 0 := by
                      have q : _ := c143
                      simp only [ti_nle, ti_nlt, ti_le, ti_lt, ti_eq, ti_ne, Classical.not_not, kt_0] at q
                      omega
                    have b145 : IV a4 (-2147483648) (-1) := ⟨by have q1 := (iv_any a4); have q2 := kc_0; omega, by have q1 := (iv_any a4); have q2 := kc_0; omega⟩
                    refine m_aload_n C dX12_copy_111 rfl rfl ?_
                    refine m_iconst (v := 2) C dX12_copy_112 (by decide) ?_
                    have q146 := kt_2
                    refine m_callV (n := 1) (ci := 11) (st := []) C (c_X12_metQ l G τ86 (2) i87 (iv_wk kc_2 (by decide))) (by decide) (by decide) rfl rfl rfl q4_196 q4_193 q4_195 q0_26 q1_7 (by decide +kernel) rfl (by decide) (by decide) rfl (Nat.le_of_ble_eq_true rfl) dX12_copy_113 ?_
                    rintro _ τ147 ⟨x150, rfl, i148, f149, b151, h153⟩
                    have g152 : Fr MS_X12_copyQ AS_X12_copyQ σ τ147 := Fr.call (g91) f149 (by decide)
                    have q154 : (gV τ147 26 0 (a1.toInt.toNat)).toInt = (gV σ 26 0 (a1.toInt.toNat)).toInt := congrArg Int32.toInt (show (gV τ147 26 0 (a1.toInt.toNat)) = (gV σ 26 0 (a1.toInt.toNat)) from (show gV τ147 26 0 (a1.toInt.toNat) = (gV σ 26 0 (a1.toInt.toNat)) from (f149.1 26 0 ((a1.toInt.toNat)) (by simp) (by decide)).trans (show gV τ86 26 0 (a1.toInt.toNat) = (gV σ 26 0 (a1.toInt.toNat)) from (f88.1 26 0 ((a1.toInt.toNat)) (by simp) (by decide)).trans (show gV τ69 26 0 (a1.toInt.toNat) = (gV σ 26 0 (a1.toInt.toNat)) from (f71.1 26 0 ((a1.toInt.toNat)) (by simp) (by decide)).trans rfl))))
                    have q155 : (gV τ147 26 0 (a3.toInt.toNat)).toInt = (gV σ 26 0 (a3.toInt.toNat)).toInt := congrArg Int32.toInt (show (gV τ147 26 0 (a3.toInt.toNat)) = (gV σ 26 0 (a3.toInt.toNat)) from (show gV τ147 26 0 (a3.toInt.toNat) = (gV σ 26 0 (a3.toInt.toNat)) from (f149.1 26 0 ((a3.toInt.toNat)) (by simp) (by decide)).trans (show gV τ86 26 0 (a3.toInt.toNat) = (gV σ 26 0 (a3.toInt.toNat)) from (f88.1 26 0 ((a3.toInt.toNat)) (by simp) (by decide)).trans (show gV τ69 26 0 (a3.toInt.toNat) = (gV σ 26 0 (a3.toInt.toNat)) from (f71.1 26 0 ((a3.toInt.toNat)) (by simp) (by decide)).trans rfl))))
                    have q156 : (gV τ147 27 0 (a1.toInt.toNat)).toInt = (gV σ 27 0 (a1.toInt.toNat)).toInt := congrArg Int32.toInt (show (gV τ147 27 0 (a1.toInt.toNat)) = (gV σ 27 0 (a1.toInt.toNat)) from (show gV τ147 27 0 (a1.toInt.toNat) = (gV σ 27 0 (a1.toInt.toNat)) from (f149.1 27 0 ((a1.toInt.toNat)) (by simp) (by decide)).trans (show gV τ86 27 0 (a1.toInt.toNat) = (gV σ 27 0 (a1.toInt.toNat)) from (f88.1 27 0 ((a1.toInt.toNat)) (by simp) (by decide)).trans (show gV τ69 27 0 (a1.toInt.toNat) = (gV σ 27 0 (a1.toInt.toNat)) from (f71.1 27 0 ((a1.toInt.toNat)) (by simp) (by decide)).trans rfl))))
                    have q157 : (gV τ147 27 0 (a3.toInt.toNat)).toInt = (gV σ 27 0 (a3.toInt.toNat)).toInt := congrArg Int32.toInt (show (gV τ147 27 0 (a3.toInt.toNat)) = (gV σ 27 0 (a3.toInt.toNat)) from (show gV τ147 27 0 (a3.toInt.toNat) = (gV σ 27 0 (a3.toInt.toNat)) from (f149.1 27 0 ((a3.toInt.toNat)) (by simp) (by decide)).trans (show gV τ86 27 0 (a3.toInt.toNat) = (gV σ 27 0 (a3.toInt.toNat)) from (f88.1 27 0 ((a3.toInt.toNat)) (by simp) (by decide)).trans (show gV τ69 27 0 (a3.toInt.toNat) = (gV σ 27 0 (a3.toInt.toNat)) from (f71.1 27 0 ((a3.toInt.toNat)) (by simp) (by decide)).trans rfl))))
                    have q158 := kt_2
                    show MW p l e _ s m args below meth c _ 7 G 0 0 116 [some (.ref (G.1 22 0)), some (.int a1), some (.int a2), some (.int a3), some (.int a4), some (.int a5), none] [.int x150] τ147
                    exact m_iret C hr hlk (by decide) (by decide) dX12_copy_116 ⟨_, rfl, i148, g152, (iv_wk b151 (by decide)), ⟨(Or.inr (Or.inr (Or.inr (Or.inl ⟨by omega, by omega, by omega, by omega, by omega, by omega⟩)))), (by omega), ⟨fun h => absurd h (by omega), fun _ => (fun k => (f149.1 25 0 k (by simp) (by decide)).trans ((fun k => (f88.1 25 0 k (by simp) (by decide)).trans ((fun k => (f71.1 25 0 k (by simp) (by decide)).trans ((fun _ => rfl) k)) k)) k))⟩⟩⟩
                  · have f159 : 0 ≤ a4.toInt := by
                      have q : _ := c143
                      simp only [ti_nle, ti_nlt, ti_le, ti_lt, ti_eq, ti_ne, Classical.not_not, kt_0] at q
                      omega
                    have b160 : IV a4 0 2147483647 := ⟨by have q1 := kc_0; have q2 := (iv_any a4); omega, by have q1 := kc_0; have q2 := (iv_any a4); omega⟩
                    refine m_iload C dX12_copy_71 rfl ?_
                    refine m_if_lt (tgt := 111) C dX12_copy_73 (by decide) (fun c161 => ?_) (fun c161 => ?_)
                    · have f162 : a5.toInt < 0 := by
                        have q : _ := c161
                        simp only [ti_nle, ti_nlt, ti_le, ti_lt, ti_eq, ti_ne, Classical.not_not, kt_0] at q
                        omega
                      have b163 : IV a5 (-2147483648) (-1) := ⟨by have q1 := (iv_any a5); have q2 := kc_0; omega, by have q1 := (iv_any a5); have q2 := kc_0; omega⟩
                      refine m_aload_n C dX12_copy_111 rfl rfl ?_
                      refine m_iconst (v := 2) C dX12_copy_112 (by decide) ?_
                      have q164 := kt_2
                      refine m_callV (n := 1) (ci := 11) (st := []) C (c_X12_metQ l G τ86 (2) i87 (iv_wk kc_2 (by decide))) (by decide) (by decide) rfl rfl rfl q4_196 q4_193 q4_195 q0_26 q1_7 (by decide +kernel) rfl (by decide) (by decide) rfl (Nat.le_of_ble_eq_true rfl) dX12_copy_113 ?_
                      rintro _ τ165 ⟨x168, rfl, i166, f167, b169, h171⟩
                      have g170 : Fr MS_X12_copyQ AS_X12_copyQ σ τ165 := Fr.call (g91) f167 (by decide)
                      have q172 : (gV τ165 26 0 (a1.toInt.toNat)).toInt = (gV σ 26 0 (a1.toInt.toNat)).toInt := congrArg Int32.toInt (show (gV τ165 26 0 (a1.toInt.toNat)) = (gV σ 26 0 (a1.toInt.toNat)) from (show gV τ165 26 0 (a1.toInt.toNat) = (gV σ 26 0 (a1.toInt.toNat)) from (f167.1 26 0 ((a1.toInt.toNat)) (by simp) (by decide)).trans (show gV τ86 26 0 (a1.toInt.toNat) = (gV σ 26 0 (a1.toInt.toNat)) from (f88.1 26 0 ((a1.toInt.toNat)) (by simp) (by decide)).trans (show gV τ69 26 0 (a1.toInt.toNat) = (gV σ 26 0 (a1.toInt.toNat)) from (f71.1 26 0 ((a1.toInt.toNat)) (by simp) (by decide)).trans rfl))))
                      have q173 : (gV τ165 26 0 (a3.toInt.toNat)).toInt = (gV σ 26 0 (a3.toInt.toNat)).toInt := congrArg Int32.toInt (show (gV τ165 26 0 (a3.toInt.toNat)) = (gV σ 26 0 (a3.toInt.toNat)) from (show gV τ165 26 0 (a3.toInt.toNat) = (gV σ 26 0 (a3.toInt.toNat)) from (f167.1 26 0 ((a3.toInt.toNat)) (by simp) (by decide)).trans (show gV τ86 26 0 (a3.toInt.toNat) = (gV σ 26 0 (a3.toInt.toNat)) from (f88.1 26 0 ((a3.toInt.toNat)) (by simp) (by decide)).trans (show gV τ69 26 0 (a3.toInt.toNat) = (gV σ 26 0 (a3.toInt.toNat)) from (f71.1 26 0 ((a3.toInt.toNat)) (by simp) (by decide)).trans rfl))))
                      have q174 : (gV τ165 27 0 (a1.toInt.toNat)).toInt = (gV σ 27 0 (a1.toInt.toNat)).toInt := congrArg Int32.toInt (show (gV τ165 27 0 (a1.toInt.toNat)) = (gV σ 27 0 (a1.toInt.toNat)) from (show gV τ165 27 0 (a1.toInt.toNat) = (gV σ 27 0 (a1.toInt.toNat)) from (f167.1 27 0 ((a1.toInt.toNat)) (by simp) (by decide)).trans (show gV τ86 27 0 (a1.toInt.toNat) = (gV σ 27 0 (a1.toInt.toNat)) from (f88.1 27 0 ((a1.toInt.toNat)) (by simp) (by decide)).trans (show gV τ69 27 0 (a1.toInt.toNat) = (gV σ 27 0 (a1.toInt.toNat)) from (f71.1 27 0 ((a1.toInt.toNat)) (by simp) (by decide)).trans rfl))))
                      have q175 : (gV τ165 27 0 (a3.toInt.toNat)).toInt = (gV σ 27 0 (a3.toInt.toNat)).toInt := congrArg Int32.toInt (show (gV τ165 27 0 (a3.toInt.toNat)) = (gV σ 27 0 (a3.toInt.toNat)) from (show gV τ165 27 0 (a3.toInt.toNat) = (gV σ 27 0 (a3.toInt.toNat)) from (f167.1 27 0 ((a3.toInt.toNat)) (by simp) (by decide)).trans (show gV τ86 27 0 (a3.toInt.toNat) = (gV σ 27 0 (a3.toInt.toNat)) from (f88.1 27 0 ((a3.toInt.toNat)) (by simp) (by decide)).trans (show gV τ69 27 0 (a3.toInt.toNat) = (gV σ 27 0 (a3.toInt.toNat)) from (f71.1 27 0 ((a3.toInt.toNat)) (by simp) (by decide)).trans rfl))))
                      have q176 := kt_2
                      show MW p l e _ s m args below meth c _ 7 G 0 0 116 [some (.ref (G.1 22 0)), some (.int a1), some (.int a2), some (.int a3), some (.int a4), some (.int a5), none] [.int x168] τ165
                      exact m_iret C hr hlk (by decide) (by decide) dX12_copy_116 ⟨_, rfl, i166, g170, (iv_wk b169 (by decide)), ⟨(Or.inr (Or.inr (Or.inr (Or.inl ⟨by omega, by omega, by omega, by omega, by omega, by omega⟩)))), (by omega), ⟨fun h => absurd h (by omega), fun _ => (fun k => (f167.1 25 0 k (by simp) (by decide)).trans ((fun k => (f88.1 25 0 k (by simp) (by decide)).trans ((fun k => (f71.1 25 0 k (by simp) (by decide)).trans ((fun _ => rfl) k)) k)) k))⟩⟩⟩
                    · have f177 : 0 ≤ a5.toInt := by
                        have q : _ := c161
                        simp only [ti_nle, ti_nlt, ti_le, ti_lt, ti_eq, ti_ne, Classical.not_not, kt_0] at q
                        omega
                      have b178 : IV a5 0 2147483647 := ⟨by have q1 := kc_0; have q2 := (iv_any a5); omega, by have q1 := kc_0; have q2 := (iv_any a5); omega⟩
                      refine m_iload_n C dX12_copy_76 rfl rfl ?_
                      refine m_i2l C dX12_copy_77 ?_
                      refine m_iload C dX12_copy_78 rfl ?_
                      refine m_i2l C dX12_copy_80 ?_
                      refine m_ladd C dX12_copy_81 ?_
                      refine m_aload_n C dX12_copy_82 rfl rfl ?_
                      refine g_22_4 C q4_120 dX12_copy_83 ?_
                      refine m_iload_n C dX12_copy_86 rfl rfl ?_
                      refine al_27 C b85 (by decide) rfl dX12_copy_87 ?_
                      refine m_eqs (w := (gV σ 27 0 (a1.toInt.toNat))) (show gV τ86 27 0 (a1.toInt.toNat) = (gV σ 27 0 (a1.toInt.toNat)) from (f88.1 27 0 ((a1.toInt.toNat)) (by simp) (by decide)).trans (show gV τ69 27 0 (a1.toInt.toNat) = (gV σ 27 0 (a1.toInt.toNat)) from (f71.1 27 0 ((a1.toInt.toNat)) (by simp) (by decide)).trans rfl)) ?_
                      refine m_i2l C dX12_copy_88 ?_
                      refine m_lcmp C dX12_copy_89 ?_
                      refine m_topi (fun x179 ex179 => ?_)
                      have b180 : IV x179 (-1) 1 := by rw [ex179]; rcases lgc ((a2 : Int32).toInt64 + (a5 : Int32).toInt64) ((gV σ 27 0 (a1.toInt.toNat)) : Int32).toInt64 with q | q | q <;> omega
                      have f181 := lgc ((a2 : Int32).toInt64 + (a5 : Int32).toInt64) ((gV σ 27 0 (a1.toInt.toNat)) : Int32).toInt64
                      rw [← ex179] at f181
                      have f182 := tl_add a2 a5
                      have f183 := tl_i (gV σ 27 0 (a1.toInt.toNat))
                      refine m_if_gt (tgt := 111) C dX12_copy_90 (by decide) (fun c184 => ?_) (fun c184 => ?_)
                      · have f185 : 0 < x179.toInt := by
                          have q : _ := c184
                          simp only [ti_nle, ti_nlt, ti_le, ti_lt, ti_eq, ti_ne, Classical.not_not, kt_0] at q
                          omega
                        have b186 : IV x179 1 1 := ⟨by have q1 := kc_0; have q2 := b180; omega, by have q1 := kc_0; have q2 := b180; omega⟩
                        refine m_aload_n C dX12_copy_111 rfl rfl ?_
                        refine m_iconst (v := 2) C dX12_copy_112 (by decide) ?_
                        have q187 := kt_2
                        refine m_callV (n := 1) (ci := 11) (st := []) C (c_X12_metQ l G τ86 (2) i87 (iv_wk kc_2 (by decide))) (by decide) (by decide) rfl rfl rfl q4_196 q4_193 q4_195 q0_26 q1_7 (by decide +kernel) rfl (by decide) (by decide) rfl (Nat.le_of_ble_eq_true rfl) dX12_copy_113 ?_
                        rintro _ τ188 ⟨x191, rfl, i189, f190, b192, h194⟩
                        have g193 : Fr MS_X12_copyQ AS_X12_copyQ σ τ188 := Fr.call (g91) f190 (by decide)
                        have q195 : (gV τ188 26 0 (a1.toInt.toNat)).toInt = (gV σ 26 0 (a1.toInt.toNat)).toInt := congrArg Int32.toInt (show (gV τ188 26 0 (a1.toInt.toNat)) = (gV σ 26 0 (a1.toInt.toNat)) from (show gV τ188 26 0 (a1.toInt.toNat) = (gV σ 26 0 (a1.toInt.toNat)) from (f190.1 26 0 ((a1.toInt.toNat)) (by simp) (by decide)).trans (show gV τ86 26 0 (a1.toInt.toNat) = (gV σ 26 0 (a1.toInt.toNat)) from (f88.1 26 0 ((a1.toInt.toNat)) (by simp) (by decide)).trans (show gV τ69 26 0 (a1.toInt.toNat) = (gV σ 26 0 (a1.toInt.toNat)) from (f71.1 26 0 ((a1.toInt.toNat)) (by simp) (by decide)).trans rfl))))
                        have q196 : (gV τ188 26 0 (a3.toInt.toNat)).toInt = (gV σ 26 0 (a3.toInt.toNat)).toInt := congrArg Int32.toInt (show (gV τ188 26 0 (a3.toInt.toNat)) = (gV σ 26 0 (a3.toInt.toNat)) from (show gV τ188 26 0 (a3.toInt.toNat) = (gV σ 26 0 (a3.toInt.toNat)) from (f190.1 26 0 ((a3.toInt.toNat)) (by simp) (by decide)).trans (show gV τ86 26 0 (a3.toInt.toNat) = (gV σ 26 0 (a3.toInt.toNat)) from (f88.1 26 0 ((a3.toInt.toNat)) (by simp) (by decide)).trans (show gV τ69 26 0 (a3.toInt.toNat) = (gV σ 26 0 (a3.toInt.toNat)) from (f71.1 26 0 ((a3.toInt.toNat)) (by simp) (by decide)).trans rfl))))
                        have q197 : (gV τ188 27 0 (a1.toInt.toNat)).toInt = (gV σ 27 0 (a1.toInt.toNat)).toInt := congrArg Int32.toInt (show (gV τ188 27 0 (a1.toInt.toNat)) = (gV σ 27 0 (a1.toInt.toNat)) from (show gV τ188 27 0 (a1.toInt.toNat) = (gV σ 27 0 (a1.toInt.toNat)) from (f190.1 27 0 ((a1.toInt.toNat)) (by simp) (by decide)).trans (show gV τ86 27 0 (a1.toInt.toNat) = (gV σ 27 0 (a1.toInt.toNat)) from (f88.1 27 0 ((a1.toInt.toNat)) (by simp) (by decide)).trans (show gV τ69 27 0 (a1.toInt.toNat) = (gV σ 27 0 (a1.toInt.toNat)) from (f71.1 27 0 ((a1.toInt.toNat)) (by simp) (by decide)).trans rfl))))
                        have q198 : (gV τ188 27 0 (a3.toInt.toNat)).toInt = (gV σ 27 0 (a3.toInt.toNat)).toInt := congrArg Int32.toInt (show (gV τ188 27 0 (a3.toInt.toNat)) = (gV σ 27 0 (a3.toInt.toNat)) from (show gV τ188 27 0 (a3.toInt.toNat) = (gV σ 27 0 (a3.toInt.toNat)) from (f190.1 27 0 ((a3.toInt.toNat)) (by simp) (by decide)).trans (show gV τ86 27 0 (a3.toInt.toNat) = (gV σ 27 0 (a3.toInt.toNat)) from (f88.1 27 0 ((a3.toInt.toNat)) (by simp) (by decide)).trans (show gV τ69 27 0 (a3.toInt.toNat) = (gV σ 27 0 (a3.toInt.toNat)) from (f71.1 27 0 ((a3.toInt.toNat)) (by simp) (by decide)).trans rfl))))
                        have q199 := kt_2
                        show MW p l e _ s m args below meth c _ 7 G 0 0 116 [some (.ref (G.1 22 0)), some (.int a1), some (.int a2), some (.int a3), some (.int a4), some (.int a5), none] [.int x191] τ188
                        exact m_iret C hr hlk (by decide) (by decide) dX12_copy_116 ⟨_, rfl, i189, g193, (iv_wk b192 (by decide)), ⟨(Or.inr (Or.inr (Or.inr (Or.inl ⟨by omega, by omega, by omega, by omega, by omega, by omega⟩)))), (by omega), ⟨fun h => absurd h (by omega), fun _ => (fun k => (f190.1 25 0 k (by simp) (by decide)).trans ((fun k => (f88.1 25 0 k (by simp) (by decide)).trans ((fun k => (f71.1 25 0 k (by simp) (by decide)).trans ((fun _ => rfl) k)) k)) k))⟩⟩⟩
                      · have f200 : x179.toInt ≤ 0 := by
                          have q : _ := c184
                          simp only [ti_nle, ti_nlt, ti_le, ti_lt, ti_eq, ti_ne, Classical.not_not, kt_0] at q
                          omega
                        have b201 : IV x179 (-1) 0 := ⟨by have q1 := b180; have q2 := kc_0; omega, by have q1 := b180; have q2 := kc_0; omega⟩
                        refine m_iload C dX12_copy_93 rfl ?_
                        refine m_i2l C dX12_copy_95 ?_
                        refine m_iload C dX12_copy_96 rfl ?_
                        refine m_i2l C dX12_copy_98 ?_
                        refine m_ladd C dX12_copy_99 ?_
                        refine m_aload_n C dX12_copy_100 rfl rfl ?_
                        refine g_22_4 C q4_120 dX12_copy_101 ?_
                        refine m_iload_n C dX12_copy_104 rfl rfl ?_
                        refine al_27 C b101 (by decide) rfl dX12_copy_105 ?_
                        refine m_eqs (w := (gV σ 27 0 (a3.toInt.toNat))) (show gV τ86 27 0 (a3.toInt.toNat) = (gV σ 27 0 (a3.toInt.toNat)) from (f88.1 27 0 ((a3.toInt.toNat)) (by simp) (by decide)).trans (show gV τ69 27 0 (a3.toInt.toNat) = (gV σ 27 0 (a3.toInt.toNat)) from (f71.1 27 0 ((a3.toInt.toNat)) (by simp) (by decide)).trans rfl)) ?_
                        refine m_i2l C dX12_copy_106 ?_
                        refine m_lcmp C dX12_copy_107 ?_
                        refine m_topi (fun x202 ex202 => ?_)
                        have b203 : IV x202 (-1) 1 := by rw [ex202]; rcases lgc ((a4 : Int32).toInt64 + (a5 : Int32).toInt64) ((gV σ 27 0 (a3.toInt.toNat)) : Int32).toInt64 with q | q | q <;> omega
                        have f204 := lgc ((a4 : Int32).toInt64 + (a5 : Int32).toInt64) ((gV σ 27 0 (a3.toInt.toNat)) : Int32).toInt64
                        rw [← ex202] at f204
                        have f205 := tl_add a4 a5
                        have f206 := tl_i (gV σ 27 0 (a3.toInt.toNat))
                        refine m_if_le (tgt := 117) C dX12_copy_108 (by decide) (fun c207 => ?_) (fun c207 => ?_)
                        · have f208 : x202.toInt ≤ 0 := by
                            have q : _ := c207
                            simp only [ti_nle, ti_nlt, ti_le, ti_lt, ti_eq, ti_ne, Classical.not_not, kt_0] at q
                            omega
                          have b209 : IV x202 (-1) 0 := ⟨by have q1 := b203; have q2 := kc_0; omega, by have q1 := b203; have q2 := kc_0; omega⟩
                          have b210 : IV a5 0 40 := ⟨by have q1 := b178; omega, by have q1 := b178; omega⟩
                          have b211 : IV a2 0 40 := ⟨by have q1 := b142; omega, by have q1 := b142; omega⟩
                          have b212 : IV a4 0 40 := ⟨by have q1 := b160; omega, by have q1 := b160; omega⟩
                          refine m_iconst (v := 0) C dX12_copy_117 (by decide) ?_
                          refine m_istore (L1 := [some (.ref (G.1 22 0)), some (.int a1), some (.int a2), some (.int a3), some (.int a4), some (.int a5), some (.int 0)]) C dX12_copy_118 (by decide) rfl rfl ?_
                          exact J120 ((40 - (0 : Int32).toInt).toNat + 1) τ86 0 i87 g91 b85 b211 b101 b212 b210 (iv_wk kc_0 (by decide)) (by omega) (by omega) (HC.start (fun k => (f88.1 25 0 k (by simp) (by decide)).trans ((fun k => (f71.1 25 0 k (by simp) (by decide)).trans ((fun _ => rfl) k)) k)) kn_0) (Nat.lt_succ_self _)
                        · have f213 : 0 < x202.toInt := by
                            have q : _ := c207
                            simp only [ti_nle, ti_nlt, ti_le, ti_lt, ti_eq, ti_ne, Classical.not_not, kt_0] at q
                            omega
                          have b214 : IV x202 1 1 := ⟨by have q1 := kc_0; have q2 := b203; omega, by have q1 := kc_0; have q2 := b203; omega⟩
                          refine m_aload_n C dX12_copy_111 rfl rfl ?_
                          refine m_iconst (v := 2) C dX12_copy_112 (by decide) ?_
                          have q215 := kt_2
                          refine m_callV (n := 1) (ci := 11) (st := []) C (c_X12_metQ l G τ86 (2) i87 (iv_wk kc_2 (by decide))) (by decide) (by decide) rfl rfl rfl q4_196 q4_193 q4_195 q0_26 q1_7 (by decide +kernel) rfl (by decide) (by decide) rfl (Nat.le_of_ble_eq_true rfl) dX12_copy_113 ?_
                          rintro _ τ216 ⟨x219, rfl, i217, f218, b220, h222⟩
                          have g221 : Fr MS_X12_copyQ AS_X12_copyQ σ τ216 := Fr.call (g91) f218 (by decide)
                          have q223 : (gV τ216 26 0 (a1.toInt.toNat)).toInt = (gV σ 26 0 (a1.toInt.toNat)).toInt := congrArg Int32.toInt (show (gV τ216 26 0 (a1.toInt.toNat)) = (gV σ 26 0 (a1.toInt.toNat)) from (show gV τ216 26 0 (a1.toInt.toNat) = (gV σ 26 0 (a1.toInt.toNat)) from (f218.1 26 0 ((a1.toInt.toNat)) (by simp) (by decide)).trans (show gV τ86 26 0 (a1.toInt.toNat) = (gV σ 26 0 (a1.toInt.toNat)) from (f88.1 26 0 ((a1.toInt.toNat)) (by simp) (by decide)).trans (show gV τ69 26 0 (a1.toInt.toNat) = (gV σ 26 0 (a1.toInt.toNat)) from (f71.1 26 0 ((a1.toInt.toNat)) (by simp) (by decide)).trans rfl))))
                          have q224 : (gV τ216 26 0 (a3.toInt.toNat)).toInt = (gV σ 26 0 (a3.toInt.toNat)).toInt := congrArg Int32.toInt (show (gV τ216 26 0 (a3.toInt.toNat)) = (gV σ 26 0 (a3.toInt.toNat)) from (show gV τ216 26 0 (a3.toInt.toNat) = (gV σ 26 0 (a3.toInt.toNat)) from (f218.1 26 0 ((a3.toInt.toNat)) (by simp) (by decide)).trans (show gV τ86 26 0 (a3.toInt.toNat) = (gV σ 26 0 (a3.toInt.toNat)) from (f88.1 26 0 ((a3.toInt.toNat)) (by simp) (by decide)).trans (show gV τ69 26 0 (a3.toInt.toNat) = (gV σ 26 0 (a3.toInt.toNat)) from (f71.1 26 0 ((a3.toInt.toNat)) (by simp) (by decide)).trans rfl))))
                          have q225 : (gV τ216 27 0 (a1.toInt.toNat)).toInt = (gV σ 27 0 (a1.toInt.toNat)).toInt := congrArg Int32.toInt (show (gV τ216 27 0 (a1.toInt.toNat)) = (gV σ 27 0 (a1.toInt.toNat)) from (show gV τ216 27 0 (a1.toInt.toNat) = (gV σ 27 0 (a1.toInt.toNat)) from (f218.1 27 0 ((a1.toInt.toNat)) (by simp) (by decide)).trans (show gV τ86 27 0 (a1.toInt.toNat) = (gV σ 27 0 (a1.toInt.toNat)) from (f88.1 27 0 ((a1.toInt.toNat)) (by simp) (by decide)).trans (show gV τ69 27 0 (a1.toInt.toNat) = (gV σ 27 0 (a1.toInt.toNat)) from (f71.1 27 0 ((a1.toInt.toNat)) (by simp) (by decide)).trans rfl))))
                          have q226 : (gV τ216 27 0 (a3.toInt.toNat)).toInt = (gV σ 27 0 (a3.toInt.toNat)).toInt := congrArg Int32.toInt (show (gV τ216 27 0 (a3.toInt.toNat)) = (gV σ 27 0 (a3.toInt.toNat)) from (show gV τ216 27 0 (a3.toInt.toNat) = (gV σ 27 0 (a3.toInt.toNat)) from (f218.1 27 0 ((a3.toInt.toNat)) (by simp) (by decide)).trans (show gV τ86 27 0 (a3.toInt.toNat) = (gV σ 27 0 (a3.toInt.toNat)) from (f88.1 27 0 ((a3.toInt.toNat)) (by simp) (by decide)).trans (show gV τ69 27 0 (a3.toInt.toNat) = (gV σ 27 0 (a3.toInt.toNat)) from (f71.1 27 0 ((a3.toInt.toNat)) (by simp) (by decide)).trans rfl))))
                          have q227 := kt_2
                          show MW p l e _ s m args below meth c _ 7 G 0 0 116 [some (.ref (G.1 22 0)), some (.int a1), some (.int a2), some (.int a3), some (.int a4), some (.int a5), none] [.int x219] τ216
                          exact m_iret C hr hlk (by decide) (by decide) dX12_copy_116 ⟨_, rfl, i217, g221, (iv_wk b220 (by decide)), ⟨(Or.inr (Or.inr (Or.inr (Or.inl ⟨by omega, by omega, by omega, by omega, by omega, by omega⟩)))), (by omega), ⟨fun h => absurd h (by omega), fun _ => (fun k => (f218.1 25 0 k (by simp) (by decide)).trans ((fun k => (f88.1 25 0 k (by simp) (by decide)).trans ((fun k => (f71.1 25 0 k (by simp) (by decide)).trans ((fun _ => rfl) k)) k)) k))⟩⟩⟩
              · have f228 : (gV σ 26 0 (a1.toInt.toNat)).toInt ≠ (gV σ 26 0 (a3.toInt.toNat)).toInt := by
                  have q : _ := c123
                  simp only [ti_nle, ti_nlt, ti_le, ti_lt, ti_eq, ti_ne, Classical.not_not] at q
                  omega
                refine m_aload_n C dX12_copy_56 rfl rfl ?_
                refine m_iconst (v := 5) C dX12_copy_57 (by decide) ?_
                have q229 := kt_5
                refine m_callV (n := 1) (ci := 11) (st := []) C (c_X12_metQ l G τ86 (5) i87 (iv_wk kc_5 (by decide))) (by decide) (by decide) rfl rfl rfl q4_196 q4_193 q4_195 q0_26 q1_7 (by decide +kernel) rfl (by decide) (by decide) rfl (Nat.le_of_ble_eq_true rfl) dX12_copy_58 ?_
                rintro _ τ230 ⟨x233, rfl, i231, f232, b234, h236⟩
                have g235 : Fr MS_X12_copyQ AS_X12_copyQ σ τ230 := Fr.call (g91) f232 (by decide)
                have q237 : (gV τ230 26 0 (a1.toInt.toNat)).toInt = (gV σ 26 0 (a1.toInt.toNat)).toInt := congrArg Int32.toInt (show (gV τ230 26 0 (a1.toInt.toNat)) = (gV σ 26 0 (a1.toInt.toNat)) from (show gV τ230 26 0 (a1.toInt.toNat) = (gV σ 26 0 (a1.toInt.toNat)) from (f232.1 26 0 ((a1.toInt.toNat)) (by simp) (by decide)).trans (show gV τ86 26 0 (a1.toInt.toNat) = (gV σ 26 0 (a1.toInt.toNat)) from (f88.1 26 0 ((a1.toInt.toNat)) (by simp) (by decide)).trans (show gV τ69 26 0 (a1.toInt.toNat) = (gV σ 26 0 (a1.toInt.toNat)) from (f71.1 26 0 ((a1.toInt.toNat)) (by simp) (by decide)).trans rfl))))
                have q238 : (gV τ230 26 0 (a3.toInt.toNat)).toInt = (gV σ 26 0 (a3.toInt.toNat)).toInt := congrArg Int32.toInt (show (gV τ230 26 0 (a3.toInt.toNat)) = (gV σ 26 0 (a3.toInt.toNat)) from (show gV τ230 26 0 (a3.toInt.toNat) = (gV σ 26 0 (a3.toInt.toNat)) from (f232.1 26 0 ((a3.toInt.toNat)) (by simp) (by decide)).trans (show gV τ86 26 0 (a3.toInt.toNat) = (gV σ 26 0 (a3.toInt.toNat)) from (f88.1 26 0 ((a3.toInt.toNat)) (by simp) (by decide)).trans (show gV τ69 26 0 (a3.toInt.toNat) = (gV σ 26 0 (a3.toInt.toNat)) from (f71.1 26 0 ((a3.toInt.toNat)) (by simp) (by decide)).trans rfl))))
                have q239 : (gV τ230 27 0 (a1.toInt.toNat)).toInt = (gV σ 27 0 (a1.toInt.toNat)).toInt := congrArg Int32.toInt (show (gV τ230 27 0 (a1.toInt.toNat)) = (gV σ 27 0 (a1.toInt.toNat)) from (show gV τ230 27 0 (a1.toInt.toNat) = (gV σ 27 0 (a1.toInt.toNat)) from (f232.1 27 0 ((a1.toInt.toNat)) (by simp) (by decide)).trans (show gV τ86 27 0 (a1.toInt.toNat) = (gV σ 27 0 (a1.toInt.toNat)) from (f88.1 27 0 ((a1.toInt.toNat)) (by simp) (by decide)).trans (show gV τ69 27 0 (a1.toInt.toNat) = (gV σ 27 0 (a1.toInt.toNat)) from (f71.1 27 0 ((a1.toInt.toNat)) (by simp) (by decide)).trans rfl))))
                have q240 : (gV τ230 27 0 (a3.toInt.toNat)).toInt = (gV σ 27 0 (a3.toInt.toNat)).toInt := congrArg Int32.toInt (show (gV τ230 27 0 (a3.toInt.toNat)) = (gV σ 27 0 (a3.toInt.toNat)) from (show gV τ230 27 0 (a3.toInt.toNat) = (gV σ 27 0 (a3.toInt.toNat)) from (f232.1 27 0 ((a3.toInt.toNat)) (by simp) (by decide)).trans (show gV τ86 27 0 (a3.toInt.toNat) = (gV σ 27 0 (a3.toInt.toNat)) from (f88.1 27 0 ((a3.toInt.toNat)) (by simp) (by decide)).trans (show gV τ69 27 0 (a3.toInt.toNat) = (gV σ 27 0 (a3.toInt.toNat)) from (f71.1 27 0 ((a3.toInt.toNat)) (by simp) (by decide)).trans rfl))))
                have q241 := kt_5
                show MW p l e _ s m args below meth c _ 7 G 0 0 61 [some (.ref (G.1 22 0)), some (.int a1), some (.int a2), some (.int a3), some (.int a4), some (.int a5), none] [.int x233] τ230
                exact m_iret C hr hlk (by decide) (by decide) dX12_copy_61 ⟨_, rfl, i231, g235, (iv_wk b234 (by decide)), ⟨(Or.inr (Or.inr (Or.inl ⟨by omega, by omega, by omega, by omega, by omega⟩))), (by omega), ⟨fun h => absurd h (by omega), fun _ => (fun k => (f232.1 25 0 k (by simp) (by decide)).trans ((fun k => (f88.1 25 0 k (by simp) (by decide)).trans ((fun k => (f71.1 25 0 k (by simp) (by decide)).trans ((fun _ => rfl) k)) k)) k))⟩⟩⟩
            · have f242 : (gV σ 26 0 (a3.toInt.toNat)).toInt < 0 := by
                have q : _ := c120
                simp only [ti_nle, ti_nlt, ti_le, ti_lt, ti_eq, ti_ne, Classical.not_not, kt_0] at q
                omega
              have b243 : IV (gV σ 26 0 (a3.toInt.toNat)) (-2147483648) (-1) := ⟨by have q1 := (iv_any (gV σ 26 0 (a3.toInt.toNat))); have q2 := kc_0; omega, by have q1 := (iv_any (gV σ 26 0 (a3.toInt.toNat))); have q2 := kc_0; omega⟩
              refine m_aload_n C dX12_copy_35 rfl rfl ?_
              refine m_iconst (v := 1) C dX12_copy_36 (by decide) ?_
              have q244 := kt_1
              refine m_callV (n := 1) (ci := 11) (st := []) C (c_X12_metQ l G τ86 (1) i87 (iv_wk kc_1 (by decide))) (by decide) (by decide) rfl rfl rfl q4_196 q4_193 q4_195 q0_26 q1_7 (by decide +kernel) rfl (by decide) (by decide) rfl (Nat.le_of_ble_eq_true rfl) dX12_copy_37 ?_
              rintro _ τ245 ⟨x248, rfl, i246, f247, b249, h251⟩
              have g250 : Fr MS_X12_copyQ AS_X12_copyQ σ τ245 := Fr.call (g91) f247 (by decide)
              have q252 : (gV τ245 26 0 (a1.toInt.toNat)).toInt = (gV σ 26 0 (a1.toInt.toNat)).toInt := congrArg Int32.toInt (show (gV τ245 26 0 (a1.toInt.toNat)) = (gV σ 26 0 (a1.toInt.toNat)) from (show gV τ245 26 0 (a1.toInt.toNat) = (gV σ 26 0 (a1.toInt.toNat)) from (f247.1 26 0 ((a1.toInt.toNat)) (by simp) (by decide)).trans (show gV τ86 26 0 (a1.toInt.toNat) = (gV σ 26 0 (a1.toInt.toNat)) from (f88.1 26 0 ((a1.toInt.toNat)) (by simp) (by decide)).trans (show gV τ69 26 0 (a1.toInt.toNat) = (gV σ 26 0 (a1.toInt.toNat)) from (f71.1 26 0 ((a1.toInt.toNat)) (by simp) (by decide)).trans rfl))))
              have q253 : (gV τ245 26 0 (a3.toInt.toNat)).toInt = (gV σ 26 0 (a3.toInt.toNat)).toInt := congrArg Int32.toInt (show (gV τ245 26 0 (a3.toInt.toNat)) = (gV σ 26 0 (a3.toInt.toNat)) from (show gV τ245 26 0 (a3.toInt.toNat) = (gV σ 26 0 (a3.toInt.toNat)) from (f247.1 26 0 ((a3.toInt.toNat)) (by simp) (by decide)).trans (show gV τ86 26 0 (a3.toInt.toNat) = (gV σ 26 0 (a3.toInt.toNat)) from (f88.1 26 0 ((a3.toInt.toNat)) (by simp) (by decide)).trans (show gV τ69 26 0 (a3.toInt.toNat) = (gV σ 26 0 (a3.toInt.toNat)) from (f71.1 26 0 ((a3.toInt.toNat)) (by simp) (by decide)).trans rfl))))
              have q254 : (gV τ245 27 0 (a1.toInt.toNat)).toInt = (gV σ 27 0 (a1.toInt.toNat)).toInt := congrArg Int32.toInt (show (gV τ245 27 0 (a1.toInt.toNat)) = (gV σ 27 0 (a1.toInt.toNat)) from (show gV τ245 27 0 (a1.toInt.toNat) = (gV σ 27 0 (a1.toInt.toNat)) from (f247.1 27 0 ((a1.toInt.toNat)) (by simp) (by decide)).trans (show gV τ86 27 0 (a1.toInt.toNat) = (gV σ 27 0 (a1.toInt.toNat)) from (f88.1 27 0 ((a1.toInt.toNat)) (by simp) (by decide)).trans (show gV τ69 27 0 (a1.toInt.toNat) = (gV σ 27 0 (a1.toInt.toNat)) from (f71.1 27 0 ((a1.toInt.toNat)) (by simp) (by decide)).trans rfl))))
              have q255 : (gV τ245 27 0 (a3.toInt.toNat)).toInt = (gV σ 27 0 (a3.toInt.toNat)).toInt := congrArg Int32.toInt (show (gV τ245 27 0 (a3.toInt.toNat)) = (gV σ 27 0 (a3.toInt.toNat)) from (show gV τ245 27 0 (a3.toInt.toNat) = (gV σ 27 0 (a3.toInt.toNat)) from (f247.1 27 0 ((a3.toInt.toNat)) (by simp) (by decide)).trans (show gV τ86 27 0 (a3.toInt.toNat) = (gV σ 27 0 (a3.toInt.toNat)) from (f88.1 27 0 ((a3.toInt.toNat)) (by simp) (by decide)).trans (show gV τ69 27 0 (a3.toInt.toNat) = (gV σ 27 0 (a3.toInt.toNat)) from (f71.1 27 0 ((a3.toInt.toNat)) (by simp) (by decide)).trans rfl))))
              have q256 := kt_1
              show MW p l e _ s m args below meth c _ 7 G 0 0 40 [some (.ref (G.1 22 0)), some (.int a1), some (.int a2), some (.int a3), some (.int a4), some (.int a5), none] [.int x248] τ245
              exact m_iret C hr hlk (by decide) (by decide) dX12_copy_40 ⟨_, rfl, i246, g250, (iv_wk b249 (by decide)), ⟨(Or.inr (Or.inl ⟨by omega, by omega, by omega⟩)), (by omega), ⟨fun h => absurd h (by omega), fun _ => (fun k => (f247.1 25 0 k (by simp) (by decide)).trans ((fun k => (f88.1 25 0 k (by simp) (by decide)).trans ((fun k => (f71.1 25 0 k (by simp) (by decide)).trans ((fun _ => rfl) k)) k)) k))⟩⟩⟩
        · exfalso
          have q : _ := c99
          simp only [ti_nle, ti_nlt, ti_le, ti_lt, ti_eq, ti_ne, Classical.not_not, kt_0] at q
          have q1 := b98; have q2 := kc_0; omega
      · skip
        have b258 : IV x89 0 0 := ⟨by omega, by omega⟩
        show MW p l e _ s m args below meth c _ 7 G 0 0 11 [some (.ref (G.1 22 0)), some (.int a1), some (.int a2), some (.int a3), some (.int a4), some (.int a5), none] [.int x89] τ86
        refine m_if_ne (tgt := 17) C dX12_copy_11 (by decide) (fun c259 => ?_) (fun c259 => ?_)
        · exfalso
          have q : _ := c259
          simp only [ti_nle, ti_nlt, ti_le, ti_lt, ti_eq, ti_ne, Classical.not_not, kt_0] at q
          have q1 := b258; have q2 := kc_0; omega
        · have f261 : x89.toInt = 0 := by
            have q : _ := c259
            simp only [ti_nle, ti_nlt, ti_le, ti_lt, ti_eq, ti_ne, Classical.not_not, kt_0] at q
            omega
          refine m_ldc (v := (-1000001)) C dX12_copy_14 q4_192 ?_
          exact m_iret C hr hlk (by decide) (by decide) dX12_copy_16 ⟨_, rfl, i87, g91, (iv_wk kc_m1000001 (by decide)), ⟨(Or.inl ⟨by have q := kt_m1000001; omega, by have q := kt_m1000001; omega⟩), (by have qk := kt_m1000001; omega), ⟨fun h => absurd h (by omega), fun _ => (fun k => (f88.1 25 0 k (by simp) (by decide)).trans ((fun k => (f71.1 25 0 k (by simp) (by decide)).trans ((fun _ => rfl) k)) k))⟩⟩⟩
  · skip
    have b262 : IV x72 0 0 := ⟨by omega, by omega⟩
    show MW p l e _ s m args below meth c _ 7 G 0 0 4 [some (.ref (G.1 22 0)), some (.int a1), some (.int a2), some (.int a3), some (.int a4), some (.int a5), none] [.int x72] τ69
    refine m_if_eq (tgt := 14) C dX12_copy_4 (by decide) (fun c263 => ?_) (fun c263 => ?_)
    · have f264 : x72.toInt = 0 := by
        have q : _ := c263
        simp only [ti_nle, ti_nlt, ti_le, ti_lt, ti_eq, ti_ne, Classical.not_not, kt_0] at q
        omega
      refine m_ldc (v := (-1000001)) C dX12_copy_14 q4_192 ?_
      exact m_iret C hr hlk (by decide) (by decide) dX12_copy_16 ⟨_, rfl, i70, g74, (iv_wk kc_m1000001 (by decide)), ⟨(Or.inl ⟨by have q := kt_m1000001; omega, by have q := kt_m1000001; omega⟩), (by have qk := kt_m1000001; omega), ⟨fun h => absurd h (by omega), fun _ => (fun k => (f71.1 25 0 k (by simp) (by decide)).trans ((fun _ => rfl) k))⟩⟩⟩
    · exfalso
      have q : _ := c263
      simp only [ti_nle, ti_nlt, ti_le, ti_lt, ti_eq, ti_ne, Classical.not_not, kt_0] at q
      have q1 := b262; have q2 := kc_0; omega

abbrev MS_X11_dropQ : List (Nat × Nat) := [(0, 12), (20, 1), (20, 2)]
abbrev AS_X11_dropQ : List Nat := []
set_option maxHeartbeats 4000000 in
set_option maxRecDepth 100000 in
theorem c_X11_dropQ (l : Launch) (G : Gt) (σ : Sg) (a1 : Int32) (hI : Inv σ) : Mc l G yX11_drop cX11_drop 4 (some .int) 1 21 0 0 [.ref (G.1 0 0), .int a1] σ (PI fun r τ => Inv τ ∧ Fr MS_X11_dropQ AS_X11_dropQ σ τ ∧ IV r (-2147483648) 2147483647 ∧ ((((a1.toInt < 0 ∨ 7 < a1.toInt) ∧ r.toInt = -1000001 ∧ SameR σ τ) ∨ ((0 ≤ a1.toInt ∧ a1.toInt ≤ 7) ∧ (gV σ 20 (a1.toInt.toNat) 1).toInt = -1 ∧ r.toInt = -1000011 ∧ SameR σ τ) ∨ ((0 ≤ a1.toInt ∧ a1.toInt ≤ 7) ∧ ¬ ((gV σ 20 (a1.toInt.toNat) 1).toInt = -1) ∧ r.toInt = (gV σ 20 (a1.toInt.toNat) 2).toInt ∧ BG σ τ (a1.toInt.toNat) (-1) 0)) ∧ (((a1.toInt < 0 ∨ 7 < a1.toInt) → (gV τ 0 0 12).toInt = (gV σ 0 0 12).toInt) ∧ (((0 ≤ a1.toInt ∧ a1.toInt ≤ 7) ∧ (gV σ 20 (a1.toInt.toNat) 1).toInt = -1) → (gV τ 0 0 12).toInt = 1) ∧ (((0 ≤ a1.toInt ∧ a1.toInt ≤ 7) ∧ ¬ ((gV σ 20 (a1.toInt.toNat) 1).toInt = -1)) → (gV τ 0 0 12).toInt = 0)) ∧ SameI σ τ)) := by
  refine Mc.of (L0 := [some (.ref (G.1 0 0)), some (.int a1), none, none]) (by decide) (Nat.le_of_ble_eq_true rfl) rfl ?_
  intro p e s m args below meth c C hr hlk
  have C : Cx p s m args c cX11_drop 4 "LeanTower" := C
  have k0 : (0 : Int32).toInt = 0 := by decide
  have k1 : (1 : Int32).toInt = 1 := by decide
  have u1 : IV (gV σ 20 (a1.toInt.toNat) 2) 0 40 := hI.1 20 (a1.toInt.toNat) 2
  refine m_aload_n C dX11_drop_0 rfl rfl ?_
  refine m_iload_n C dX11_drop_1 rfl rfl ?_
  refine m_callV (n := 1) (ci := 10) (st := []) C (c_X11_rowAt l G σ (a1) hI ) (by decide) (by decide) rfl rfl rfl q1_233 q1_230 q1_232 q0_0 q1_1 (by decide +kernel) rfl (by decide) (by decide) rfl (Nat.le_of_ble_eq_true rfl) dX11_drop_2 ?_
  rintro _ τ2 ⟨x5, rfl, i3, f4, h8⟩
  have g7 : Fr MS_X11_dropQ AS_X11_dropQ σ τ2 := Fr.call (Fr.rf) f4 (by decide)
  have q9 : (gV τ2 0 0 12).toInt = (gV σ 0 0 12).toInt := congrArg Int32.toInt (show (gV τ2 0 0 12) = (gV σ 0 0 12) from (show gV τ2 0 0 12 = (gV σ 0 0 12) from (f4.1 0 0 (12) (by decide) (by decide)).trans rfl))
  have q10 : (gV τ2 20 (a1.toInt.toNat) 1).toInt = (gV σ 20 (a1.toInt.toNat) 1).toInt := congrArg Int32.toInt (show (gV τ2 20 (a1.toInt.toNat) 1) = (gV σ 20 (a1.toInt.toNat) 1) from (show gV τ2 20 (a1.toInt.toNat) 1 = (gV σ 20 (a1.toInt.toNat) 1) from (f4.1 20 (a1.toInt.toNat) (1) (by decide) (by decide)).trans rfl))
  have q11 : (gV τ2 20 (a1.toInt.toNat) 2).toInt = (gV σ 20 (a1.toInt.toNat) 2).toInt := congrArg Int32.toInt (show (gV τ2 20 (a1.toInt.toNat) 2) = (gV σ 20 (a1.toInt.toNat) 2) from (show gV τ2 20 (a1.toInt.toNat) 2 = (gV σ 20 (a1.toInt.toNat) 2) from (f4.1 20 (a1.toInt.toNat) (2) (by decide) (by decide)).trans rfl))
  rcases h8 with ⟨rfl, x5q⟩ | ⟨rfl, x5q⟩
  · skip
    show MW p l e _ s m args below meth c _ 4 G 0 0 5 [some (.ref (G.1 0 0)), some (.int a1), none, none] [.null] τ2
    refine m_astore_nN (L1 := [some (.ref (G.1 0 0)), some (.int a1), some (.null), none]) C dX11_drop_5 rfl (by decide) rfl rfl ?_
    refine m_aload_nN C dX11_drop_6 rfl rfl ?_
    refine m_ifnonnullN C dX11_drop_7 ?_
    refine m_ldc (v := (-1000001)) C dX11_drop_10 q1_234 ?_
    exact m_iret C hr hlk (by decide) (by decide) dX11_drop_12 ⟨_, rfl, i3, g7, (iv_wk kc_m1000001 (by decide)), ⟨(Or.inl ⟨by omega, (by have q := kt_m1000001; omega), (SameR.rf.fr f4 (by simp) (by decide))⟩), (by have qk := kt_m1000001; omega), (fun j i => (f4.1 21 j i (by simp) (by decide)).trans ((fun _ _ => rfl) j i))⟩⟩
  · have b12 : IV a1 0 7 := ⟨by have q1 := (iv_any a1); omega, by have q1 := (iv_any a1); omega⟩
    show MW p l e _ s m args below meth c _ 4 G 0 0 5 [some (.ref (G.1 0 0)), some (.int a1), none, none] [.ref (G.1 20 (a1.toInt.toNat))] τ2
    refine m_astore_n (L1 := [some (.ref (G.1 0 0)), some (.int a1), some (.ref (G.1 20 (a1.toInt.toNat))), none]) C dX11_drop_5 rfl (by decide) rfl rfl ?_
    refine m_aload_n C dX11_drop_6 rfl rfl ?_
    refine m_ifnonnull (tgt := 13) C dX11_drop_7 (by decide) ?_
    refine m_aload_n C dX11_drop_13 rfl rfl ?_
    refine m_callV (n := 0) (ci := 6) (st := []) C (c_X7_isMissingE l G τ2 (j := (a1.toInt.toNat)) (iv_nat b12 (by decide))  i3 ) (by decide) (iv_nat b12 (by decide)) rfl rfl rfl q2_15 q2_12 q2_13 q2_14 q1_6 (by decide +kernel) rfl (by decide) (by decide) rfl (Nat.le_of_ble_eq_true rfl) dX11_drop_14 ?_
    rintro _ τ13 ⟨x16, rfl, i14, f15, b17, h19⟩
    have g18 : Fr MS_X11_dropQ AS_X11_dropQ σ τ13 := Fr.call (g7) f15 (by decide)
    have q20 : (gV τ13 0 0 12).toInt = (gV σ 0 0 12).toInt := congrArg Int32.toInt (show (gV τ13 0 0 12) = (gV σ 0 0 12) from (show gV τ13 0 0 12 = (gV σ 0 0 12) from (f15.1 0 0 (12) (by decide) (by decide)).trans (show gV τ2 0 0 12 = (gV σ 0 0 12) from (f4.1 0 0 (12) (by decide) (by decide)).trans rfl)))
    have q21 : (gV τ13 20 (a1.toInt.toNat) 1).toInt = (gV σ 20 (a1.toInt.toNat) 1).toInt := congrArg Int32.toInt (show (gV τ13 20 (a1.toInt.toNat) 1) = (gV σ 20 (a1.toInt.toNat) 1) from (show gV τ13 20 (a1.toInt.toNat) 1 = (gV σ 20 (a1.toInt.toNat) 1) from (f15.1 20 (a1.toInt.toNat) (1) (by decide) (by decide)).trans (show gV τ2 20 (a1.toInt.toNat) 1 = (gV σ 20 (a1.toInt.toNat) 1) from (f4.1 20 (a1.toInt.toNat) (1) (by decide) (by decide)).trans rfl)))
    have q22 : (gV τ13 20 (a1.toInt.toNat) 2).toInt = (gV σ 20 (a1.toInt.toNat) 2).toInt := congrArg Int32.toInt (show (gV τ13 20 (a1.toInt.toNat) 2) = (gV σ 20 (a1.toInt.toNat) 2) from (show gV τ13 20 (a1.toInt.toNat) 2 = (gV σ 20 (a1.toInt.toNat) 2) from (f15.1 20 (a1.toInt.toNat) (2) (by decide) (by decide)).trans (show gV τ2 20 (a1.toInt.toNat) 2 = (gV σ 20 (a1.toInt.toNat) 2) from (f4.1 20 (a1.toInt.toNat) (2) (by decide) (by decide)).trans rfl)))
    rcases h19 with ⟨h19_0, h19_1⟩ | ⟨h19_0, h19_1⟩
    · skip
      have b23 : IV x16 1 1 := ⟨by omega, by omega⟩
      show MW p l e _ s m args below meth c _ 4 G 0 0 17 [some (.ref (G.1 0 0)), some (.int a1), some (.ref (G.1 20 (a1.toInt.toNat))), none] [.int x16] τ13
      refine m_if_eq (tgt := 26) C dX11_drop_17 (by decide) (fun c24 => ?_) (fun c24 => ?_)
      · exfalso
        have q : _ := c24
        simp only [ti_nle, ti_nlt, ti_le, ti_lt, ti_eq, ti_ne, Classical.not_not, kt_0] at q
        have q1 := b23; have q2 := kc_0; omega
      · have f26 : x16.toInt ≠ 0 := by
          have q : _ := c24
          simp only [ti_nle, ti_nlt, ti_le, ti_lt, ti_eq, ti_ne, Classical.not_not, kt_0] at q
          omega
        refine m_aload_n C dX11_drop_20 rfl rfl ?_
        refine m_iconst (v := 1) C dX11_drop_21 (by decide) ?_
        have q27 := kt_1
        refine m_callV (n := 1) (ci := 10) (st := []) C (c_X11_foundQ l G τ13 (1) i14 (iv_wk kc_1 (by decide))) (by decide) (by decide) rfl rfl rfl q1_238 q1_235 q1_237 q0_1 q1_1 (by decide +kernel) rfl (by decide) (by decide) rfl (Nat.le_of_ble_eq_true rfl) dX11_drop_22 ?_
        rintro _ τ28 ⟨x31, rfl, i29, f30, b32, h34⟩
        have g33 : Fr MS_X11_dropQ AS_X11_dropQ σ τ28 := Fr.call (g18) f30 (by decide)
        have q35 : (gV τ28 20 (a1.toInt.toNat) 1).toInt = (gV σ 20 (a1.toInt.toNat) 1).toInt := congrArg Int32.toInt (show (gV τ28 20 (a1.toInt.toNat) 1) = (gV σ 20 (a1.toInt.toNat) 1) from (show gV τ28 20 (a1.toInt.toNat) 1 = (gV σ 20 (a1.toInt.toNat) 1) from (f30.1 20 (a1.toInt.toNat) (1) (by decide) (by decide)).trans (show gV τ13 20 (a1.toInt.toNat) 1 = (gV σ 20 (a1.toInt.toNat) 1) from (f15.1 20 (a1.toInt.toNat) (1) (by decide) (by decide)).trans (show gV τ2 20 (a1.toInt.toNat) 1 = (gV σ 20 (a1.toInt.toNat) 1) from (f4.1 20 (a1.toInt.toNat) (1) (by decide) (by decide)).trans rfl))))
        have q36 : (gV τ28 20 (a1.toInt.toNat) 2).toInt = (gV σ 20 (a1.toInt.toNat) 2).toInt := congrArg Int32.toInt (show (gV τ28 20 (a1.toInt.toNat) 2) = (gV σ 20 (a1.toInt.toNat) 2) from (show gV τ28 20 (a1.toInt.toNat) 2 = (gV σ 20 (a1.toInt.toNat) 2) from (f30.1 20 (a1.toInt.toNat) (2) (by decide) (by decide)).trans (show gV τ13 20 (a1.toInt.toNat) 2 = (gV σ 20 (a1.toInt.toNat) 2) from (f15.1 20 (a1.toInt.toNat) (2) (by decide) (by decide)).trans (show gV τ2 20 (a1.toInt.toNat) 2 = (gV σ 20 (a1.toInt.toNat) 2) from (f4.1 20 (a1.toInt.toNat) (2) (by decide) (by decide)).trans rfl))))
        have q37 := kt_1
        show MW p l e _ s m args below meth c _ 4 G 0 0 25 [some (.ref (G.1 0 0)), some (.int a1), some (.ref (G.1 20 (a1.toInt.toNat))), none] [.int x31] τ28
        exact m_iret C hr hlk (by decide) (by decide) dX11_drop_25 ⟨_, rfl, i29, g33, (iv_wk b32 (by decide)), ⟨(Or.inr (Or.inl ⟨by omega, by omega, by omega, (((SameR.rf.fr f4 (by simp) (by decide)).fr f15 (by simp) (by decide)).fr f30 (by simp) (by decide))⟩)), (by omega), (fun j i => (f30.1 21 j i (by simp) (by decide)).trans ((fun j i => (f15.1 21 j i (by simp) (by decide)).trans ((fun j i => (f4.1 21 j i (by simp) (by decide)).trans ((fun _ _ => rfl) j i)) j i)) j i))⟩⟩
    · skip
      have b38 : IV x16 0 0 := ⟨by omega, by omega⟩
      show MW p l e _ s m args below meth c _ 4 G 0 0 17 [some (.ref (G.1 0 0)), some (.int a1), some (.ref (G.1 20 (a1.toInt.toNat))), none] [.int x16] τ13
      refine m_if_eq (tgt := 26) C dX11_drop_17 (by decide) (fun c39 => ?_) (fun c39 => ?_)
      · have f40 : x16.toInt = 0 := by
          have q : _ := c39
          simp only [ti_nle, ti_nlt, ti_le, ti_lt, ti_eq, ti_ne, Classical.not_not, kt_0] at q
          omega
        refine m_aload_n C dX11_drop_26 rfl rfl ?_
        refine g_20_2 C (iv_nat b12 (by decide)) q1_177 dX11_drop_27 ?_
        refine m_eqs (w := (gV σ 20 (a1.toInt.toNat) 2)) (show gV τ13 20 (a1.toInt.toNat) 2 = (gV σ 20 (a1.toInt.toNat) 2) from (f15.1 20 (a1.toInt.toNat) (2) (by decide) (by decide)).trans (show gV τ2 20 (a1.toInt.toNat) 2 = (gV σ 20 (a1.toInt.toNat) 2) from (f4.1 20 (a1.toInt.toNat) (2) (by decide) (by decide)).trans rfl)) ?_
        refine m_istore_n (L1 := [some (.ref (G.1 0 0)), some (.int a1), some (.ref (G.1 20 (a1.toInt.toNat))), some (.int (gV σ 20 (a1.toInt.toNat) 2))]) C dX11_drop_30 rfl (by decide) rfl rfl ?_
        refine m_aload_n C dX11_drop_31 rfl rfl ?_
        refine m_callV (n := 0) (ci := 6) (st := []) C (c_X7_endE l G τ13 (j := (a1.toInt.toNat)) (iv_nat b12 (by decide))  i14 ) (by decide) (iv_nat b12 (by decide)) rfl rfl rfl q2_38 q2_35 q2_36 q2_37 q1_6 (by decide +kernel) rfl (by decide) (by decide) rfl (Nat.le_of_ble_eq_true rfl) dX11_drop_32 ?_
        rintro _ τ41 ⟨rfl, i42, f43, h47⟩
        have g46 : Fr MS_X11_dropQ AS_X11_dropQ σ τ41 := Fr.call (g18) f43 (by decide)
        have u48 : IV (gV τ41 20 (a1.toInt.toNat) 2) 0 40 := i42.1 20 (a1.toInt.toNat) 2
        have q49 : (gV τ41 0 0 12).toInt = (gV σ 0 0 12).toInt := congrArg Int32.toInt (show (gV τ41 0 0 12) = (gV σ 0 0 12) from (show gV τ41 0 0 12 = (gV σ 0 0 12) from (f43.1 0 0 (12) (by decide) (by decide)).trans (show gV τ13 0 0 12 = (gV σ 0 0 12) from (f15.1 0 0 (12) (by decide) (by decide)).trans (show gV τ2 0 0 12 = (gV σ 0 0 12) from (f4.1 0 0 (12) (by decide) (by decide)).trans rfl))))
        show MW p l e _ s m args below meth c _ 4 G 0 0 35 [some (.ref (G.1 0 0)), some (.int a1), some (.ref (G.1 20 (a1.toInt.toNat))), some (.int (gV σ 20 (a1.toInt.toNat) 2))] [] τ41
        refine m_aload_n C dX11_drop_35 rfl rfl ?_
        refine m_iload_n C dX11_drop_36 rfl rfl ?_
        refine m_callV (n := 1) (ci := 10) (st := []) C (c_X11_cleanQ l G τ41 ((gV σ 20 (a1.toInt.toNat) 2)) i42 ) (by decide) (by decide) rfl rfl rfl q2_7 q2_4 q2_6 q0_2 q1_1 (by decide +kernel) rfl (by decide) (by decide) rfl (Nat.le_of_ble_eq_true rfl) dX11_drop_37 ?_
        rintro _ τ50 ⟨x53, rfl, i51, f52, b54, h56⟩
        have g55 : Fr MS_X11_dropQ AS_X11_dropQ σ τ50 := Fr.call (g46) f52 (by decide)
        have q57 : (gV τ50 20 (a1.toInt.toNat) 1).toInt = (gV τ41 20 (a1.toInt.toNat) 1).toInt := congrArg Int32.toInt (show (gV τ50 20 (a1.toInt.toNat) 1) = (gV τ41 20 (a1.toInt.toNat) 1) from (show gV τ50 20 (a1.toInt.toNat) 1 = (gV τ41 20 (a1.toInt.toNat) 1) from (f52.1 20 (a1.toInt.toNat) (1) (by decide) (by decide)).trans rfl))
        have q58 : (gV τ50 20 (a1.toInt.toNat) 2).toInt = (gV τ41 20 (a1.toInt.toNat) 2).toInt := congrArg Int32.toInt (show (gV τ50 20 (a1.toInt.toNat) 2) = (gV τ41 20 (a1.toInt.toNat) 2) from (show gV τ50 20 (a1.toInt.toNat) 2 = (gV τ41 20 (a1.toInt.toNat) 2) from (f52.1 20 (a1.toInt.toNat) (2) (by decide) (by decide)).trans rfl))
        show MW p l e _ s m args below meth c _ 4 G 0 0 40 [some (.ref (G.1 0 0)), some (.int a1), some (.ref (G.1 20 (a1.toInt.toNat))), some (.int (gV σ 20 (a1.toInt.toNat) 2))] [.int x53] τ50
        exact m_iret C hr hlk (by decide) (by decide) dX11_drop_40 ⟨_, rfl, i51, g55, b54, ⟨(Or.inr (Or.inr ⟨by omega, by omega, by omega, (BG.from h47 ((SameR.rf.fr f4 (by simp) (by decide)).fr f15 (by simp) (by decide))).then (SameR.rf.fr f52 (by simp) (by decide))⟩)), (by omega), (fun j i => (f52.1 21 j i (by simp) (by decide)).trans ((fun j i => (f43.1 21 j i (by simp) (by decide)).trans ((fun j i => (f15.1 21 j i (by simp) (by decide)).trans ((fun j i => (f4.1 21 j i (by simp) (by decide)).trans ((fun _ _ => rfl) j i)) j i)) j i)) j i))⟩⟩
      · exfalso
        have q : _ := c39
        simp only [ti_nle, ti_nlt, ti_le, ti_lt, ti_eq, ti_ne, Classical.not_not, kt_0] at q
        have q1 := b38; have q2 := kc_0; omega

abbrev MS_X12_dropQ : List (Nat × Nat) := [(22, 8)]
abbrev AS_X12_dropQ : List Nat := [26]
set_option maxHeartbeats 4000000 in
set_option maxRecDepth 100000 in
theorem c_X12_dropQ (l : Launch) (G : Gt) (σ : Sg) (a1 : Int32) (hI : Inv σ) : Mc l G yX12_drop cX12_drop 2 (some .int) 2 45 0 0 [.ref (G.1 22 0), .int a1] σ (PI fun r τ => Inv τ ∧ Fr MS_X12_dropQ AS_X12_dropQ σ τ ∧ IV r (-2147483648) 2147483647 ∧ ((((a1.toInt < 0 ∨ 7 < a1.toInt) ∧ r.toInt = -1000001 ∧ SameL σ τ) ∨ ((0 ≤ a1.toInt ∧ a1.toInt ≤ 7) ∧ (gV σ 26 0 (a1.toInt.toNat)).toInt < 0 ∧ r.toInt = -1000011 ∧ SameL σ τ) ∨ ((0 ≤ a1.toInt ∧ a1.toInt ≤ 7) ∧ ¬ ((gV σ 26 0 (a1.toInt.toNat)).toInt < 0) ∧ r.toInt = (gV σ 27 0 (a1.toInt.toNat)).toInt ∧ LD σ τ (a1.toInt.toNat))) ∧ (((a1.toInt < 0 ∨ 7 < a1.toInt) → (gV τ 22 0 8).toInt = (gV σ 22 0 8).toInt) ∧ (((0 ≤ a1.toInt ∧ a1.toInt ≤ 7) ∧ (gV σ 26 0 (a1.toInt.toNat)).toInt < 0) → (gV τ 22 0 8).toInt = 1) ∧ (((0 ≤ a1.toInt ∧ a1.toInt ≤ 7) ∧ ¬ ((gV σ 26 0 (a1.toInt.toNat)).toInt < 0)) → (gV τ 22 0 8).toInt = 0)) ∧ SameJ σ τ)) := by
  refine Mc.of (L0 := [some (.ref (G.1 22 0)), some (.int a1)]) (by decide) (Nat.le_of_ble_eq_true rfl) rfl ?_
  intro p e s m args below meth c C hr hlk
  have C : Cx p s m args c cX12_drop 2 "LeanTowerModel" := C
  have k0 : (0 : Int32).toInt = 0 := by decide
  have k1 : (1 : Int32).toInt = 1 := by decide
  have u1 : IV (gV σ 27 0 (a1.toInt.toNat)) 0 40 := hI.1 27 0 (a1.toInt.toNat)
  refine m_iload_n C dX12_drop_0 rfl rfl ?_
  refine m_callS (n := 1) (st := []) C (c_X12_isRow l G σ (a1) hI ) q4_186 q4_184 q4_185 q1_7 (by decide +kernel) rfl (by decide) (by decide) rfl (Nat.le_of_ble_eq_true rfl) dX12_drop_1 ?_
  rintro _ τ2 ⟨x5, rfl, i3, f4, b6, h8⟩
  have g7 : Fr MS_X12_dropQ AS_X12_dropQ σ τ2 := Fr.call (Fr.rf) f4 (by decide)
  have q9 : (gV τ2 22 0 8).toInt = (gV σ 22 0 8).toInt := congrArg Int32.toInt (show (gV τ2 22 0 8) = (gV σ 22 0 8) from (show gV τ2 22 0 8 = (gV σ 22 0 8) from (f4.1 22 0 (8) (by decide) (by decide)).trans rfl))
  have q10 : (gV τ2 26 0 (a1.toInt.toNat)).toInt = (gV σ 26 0 (a1.toInt.toNat)).toInt := congrArg Int32.toInt (show (gV τ2 26 0 (a1.toInt.toNat)) = (gV σ 26 0 (a1.toInt.toNat)) from (show gV τ2 26 0 (a1.toInt.toNat) = (gV σ 26 0 (a1.toInt.toNat)) from (f4.1 26 0 ((a1.toInt.toNat)) (by simp) (by decide)).trans rfl))
  have q11 : (gV τ2 27 0 (a1.toInt.toNat)).toInt = (gV σ 27 0 (a1.toInt.toNat)).toInt := congrArg Int32.toInt (show (gV τ2 27 0 (a1.toInt.toNat)) = (gV σ 27 0 (a1.toInt.toNat)) from (show gV τ2 27 0 (a1.toInt.toNat) = (gV σ 27 0 (a1.toInt.toNat)) from (f4.1 27 0 ((a1.toInt.toNat)) (by simp) (by decide)).trans rfl))
  rcases h8 with ⟨h8_0, h8_1, h8_2⟩ | ⟨h8_0, h8_1⟩
  · skip
    have b12 : IV x5 1 1 := ⟨by omega, by omega⟩
    show MW p l e _ s m args below meth c _ 2 G 0 0 4 [some (.ref (G.1 22 0)), some (.int a1)] [.int x5] τ2
    refine m_if_ne (tgt := 10) C dX12_drop_4 (by decide) (fun c13 => ?_) (fun c13 => ?_)
    · have f14 : x5.toInt ≠ 0 := by
        have q : _ := c13
        simp only [ti_nle, ti_nlt, ti_le, ti_lt, ti_eq, ti_ne, Classical.not_not, kt_0] at q
        omega
      have b15 : IV a1 0 7 := ⟨by have q1 := (iv_any a1); omega, by have q1 := (iv_any a1); omega⟩
      refine m_aload_n C dX12_drop_10 rfl rfl ?_
      refine g_22_3 C q4_119 dX12_drop_11 ?_
      refine m_iload_n C dX12_drop_14 rfl rfl ?_
      refine al_26 C b15 (by decide) rfl dX12_drop_15 ?_
      refine m_eqs (w := (gV σ 26 0 (a1.toInt.toNat))) (show gV τ2 26 0 (a1.toInt.toNat) = (gV σ 26 0 (a1.toInt.toNat)) from (f4.1 26 0 ((a1.toInt.toNat)) (by simp) (by decide)).trans rfl) ?_
      refine m_if_ge (tgt := 25) C dX12_drop_16 (by decide) (fun c16 => ?_) (fun c16 => ?_)
      · have f17 : 0 ≤ (gV σ 26 0 (a1.toInt.toNat)).toInt := by
          have q : _ := c16
          simp only [ti_nle, ti_nlt, ti_le, ti_lt, ti_eq, ti_ne, Classical.not_not, kt_0] at q
          omega
        have b18 : IV (gV σ 26 0 (a1.toInt.toNat)) 0 2147483647 := ⟨by have q1 := kc_0; have q2 := (iv_any (gV σ 26 0 (a1.toInt.toNat))); omega, by have q1 := kc_0; have q2 := (iv_any (gV σ 26 0 (a1.toInt.toNat))); omega⟩
        refine m_aload_n C dX12_drop_25 rfl rfl ?_
        refine g_22_3 C q4_119 dX12_drop_26 ?_
        refine m_iload_n C dX12_drop_29 rfl rfl ?_
        refine m_iconst (v := (-1)) C dX12_drop_30 (by decide) ?_
        refine as_26 C b15 (by decide) rfl dX12_drop_31 ?_
        refine m_tops (fun τ19 eτ19 => ?_)
        have i20 : Inv τ19 := eτ19 ▸ Inv.putF i3 (by decide) rfl
        have f21 : Fr MS_X12_dropQ AS_X12_dropQ σ τ19 := eτ19 ▸ Fr.put (g7) (Or.inr (by decide))
        refine m_aload_n C dX12_drop_32 rfl rfl ?_
        refine m_aload_n C dX12_drop_33 rfl rfl ?_
        refine g_22_4 C q4_120 dX12_drop_34 ?_
        refine m_iload_n C dX12_drop_37 rfl rfl ?_
        refine al_27 C b15 (by decide) rfl dX12_drop_38 ?_
        refine m_eqs (w := (gV σ 27 0 (a1.toInt.toNat))) (show gV τ19 27 0 (a1.toInt.toNat) = (gV σ 27 0 (a1.toInt.toNat)) from gV_put eτ19 (show gV τ2 27 0 (a1.toInt.toNat) = (gV σ 27 0 (a1.toInt.toNat)) from (f4.1 27 0 ((a1.toInt.toNat)) (by simp) (by decide)).trans rfl)) ?_
        have q22 : (gV τ19 22 0 8).toInt = (gV σ 22 0 8).toInt := congrArg Int32.toInt (show (gV τ19 22 0 8) = (gV σ 22 0 8) from (show gV τ19 22 0 8 = (gV σ 22 0 8) from gV_put eτ19 (show gV τ2 22 0 8 = (gV σ 22 0 8) from (f4.1 22 0 (8) (by decide) (by decide)).trans rfl)))
        have q23 : (gV τ19 27 0 (a1.toInt.toNat)).toInt = (gV σ 27 0 (a1.toInt.toNat)).toInt := congrArg Int32.toInt (show (gV τ19 27 0 (a1.toInt.toNat)) = (gV σ 27 0 (a1.toInt.toNat)) from (show gV τ19 27 0 (a1.toInt.toNat) = (gV σ 27 0 (a1.toInt.toNat)) from gV_put eτ19 (show gV τ2 27 0 (a1.toInt.toNat) = (gV σ 27 0 (a1.toInt.toNat)) from (f4.1 27 0 ((a1.toInt.toNat)) (by simp) (by decide)).trans rfl)))
        have q24 : (gV τ19 26 0 (a1.toInt.toNat)).toInt = -1 := (congrArg Int32.toInt (show (gV τ19 26 0 (a1.toInt.toNat)) = (-1) from (show gV τ19 26 0 (a1.toInt.toNat) = (-1) from gV_put eτ19 (gV_self _ _ _ _ _)))).trans kt_m1
        refine m_callV (n := 1) (ci := 11) (st := []) C (c_X12_fineQ l G τ19 ((gV σ 27 0 (a1.toInt.toNat))) i20 ) (by decide) (by decide) rfl rfl rfl q4_201 q4_198 q4_200 q0_27 q1_7 (by decide +kernel) rfl (by decide) (by decide) rfl (Nat.le_of_ble_eq_true rfl) dX12_drop_39 ?_
        rintro _ τ25 ⟨x28, rfl, i26, f27, b29, h31⟩
        have g30 : Fr MS_X12_dropQ AS_X12_dropQ σ τ25 := Fr.call (f21) f27 (by decide)
        have q32 : (gV τ25 27 0 (a1.toInt.toNat)).toInt = (gV σ 27 0 (a1.toInt.toNat)).toInt := congrArg Int32.toInt (show (gV τ25 27 0 (a1.toInt.toNat)) = (gV σ 27 0 (a1.toInt.toNat)) from (show gV τ25 27 0 (a1.toInt.toNat) = (gV σ 27 0 (a1.toInt.toNat)) from (f27.1 27 0 ((a1.toInt.toNat)) (by simp) (by decide)).trans (show gV τ19 27 0 (a1.toInt.toNat) = (gV σ 27 0 (a1.toInt.toNat)) from gV_put eτ19 (show gV τ2 27 0 (a1.toInt.toNat) = (gV σ 27 0 (a1.toInt.toNat)) from (f4.1 27 0 ((a1.toInt.toNat)) (by simp) (by decide)).trans rfl))))
        have q33 : (gV τ25 26 0 (a1.toInt.toNat)).toInt = -1 := (congrArg Int32.toInt (show (gV τ25 26 0 (a1.toInt.toNat)) = (-1) from (show gV τ25 26 0 (a1.toInt.toNat) = (-1) from (f27.1 26 0 ((a1.toInt.toNat)) (by simp) (by decide)).trans (show gV τ19 26 0 (a1.toInt.toNat) = (-1) from gV_put eτ19 (gV_self _ _ _ _ _))))).trans kt_m1
        show MW p l e _ s m args below meth c _ 2 G 0 0 42 [some (.ref (G.1 22 0)), some (.int a1)] [.int x28] τ25
        exact m_iret C hr hlk (by decide) (by decide) dX12_drop_42 ⟨_, rfl, i26, g30, b29, ⟨(Or.inr (Or.inr ⟨by omega, by omega, by omega, (LD.mk (SameL.rf.fr f4 (by simp) (by decide)) eτ19).then (SameL.rf.fr f27 (by simp) (by decide))⟩)), (by omega), (fun k => (f27.1 25 0 k (by simp) (by decide)).trans ((fun k => (gV_putn eτ19 (Or.inl (by decide))).trans ((fun k => (f4.1 25 0 k (by simp) (by decide)).trans ((fun _ => rfl) k)) k)) k))⟩⟩
      · have f34 : (gV σ 26 0 (a1.toInt.toNat)).toInt < 0 := by
          have q : _ := c16
          simp only [ti_nle, ti_nlt, ti_le, ti_lt, ti_eq, ti_ne, Classical.not_not, kt_0] at q
          omega
        have b35 : IV (gV σ 26 0 (a1.toInt.toNat)) (-2147483648) (-1) := ⟨by have q1 := (iv_any (gV σ 26 0 (a1.toInt.toNat))); have q2 := kc_0; omega, by have q1 := (iv_any (gV σ 26 0 (a1.toInt.toNat))); have q2 := kc_0; omega⟩
        refine m_aload_n C dX12_drop_19 rfl rfl ?_
        refine m_iconst (v := 1) C dX12_drop_20 (by decide) ?_
        have q36 := kt_1
        refine m_callV (n := 1) (ci := 11) (st := []) C (c_X12_metQ l G τ2 (1) i3 (iv_wk kc_1 (by decide))) (by decide) (by decide) rfl rfl rfl q4_196 q4_193 q4_195 q0_26 q1_7 (by decide +kernel) rfl (by decide) (by decide) rfl (Nat.le_of_ble_eq_true rfl) dX12_drop_21 ?_
        rintro _ τ37 ⟨x40, rfl, i38, f39, b41, h43⟩
        have g42 : Fr MS_X12_dropQ AS_X12_dropQ σ τ37 := Fr.call (g7) f39 (by decide)
        have q44 : (gV τ37 26 0 (a1.toInt.toNat)).toInt = (gV σ 26 0 (a1.toInt.toNat)).toInt := congrArg Int32.toInt (show (gV τ37 26 0 (a1.toInt.toNat)) = (gV σ 26 0 (a1.toInt.toNat)) from (show gV τ37 26 0 (a1.toInt.toNat) = (gV σ 26 0 (a1.toInt.toNat)) from (f39.1 26 0 ((a1.toInt.toNat)) (by simp) (by decide)).trans (show gV τ2 26 0 (a1.toInt.toNat) = (gV σ 26 0 (a1.toInt.toNat)) from (f4.1 26 0 ((a1.toInt.toNat)) (by simp) (by decide)).trans rfl)))
        have q45 : (gV τ37 27 0 (a1.toInt.toNat)).toInt = (gV σ 27 0 (a1.toInt.toNat)).toInt := congrArg Int32.toInt (show (gV τ37 27 0 (a1.toInt.toNat)) = (gV σ 27 0 (a1.toInt.toNat)) from (show gV τ37 27 0 (a1.toInt.toNat) = (gV σ 27 0 (a1.toInt.toNat)) from (f39.1 27 0 ((a1.toInt.toNat)) (by simp) (by decide)).trans (show gV τ2 27 0 (a1.toInt.toNat) = (gV σ 27 0 (a1.toInt.toNat)) from (f4.1 27 0 ((a1.toInt.toNat)) (by simp) (by decide)).trans rfl)))
        have q46 := kt_1
        show MW p l e _ s m args below meth c _ 2 G 0 0 24 [some (.ref (G.1 22 0)), some (.int a1)] [.int x40] τ37
        exact m_iret C hr hlk (by decide) (by decide) dX12_drop_24 ⟨_, rfl, i38, g42, (iv_wk b41 (by decide)), ⟨(Or.inr (Or.inl ⟨by omega, by omega, by omega, ((SameL.rf.fr f4 (by simp) (by decide)).fr f39 (by simp) (by decide))⟩)), (by omega), (fun k => (f39.1 25 0 k (by simp) (by decide)).trans ((fun k => (f4.1 25 0 k (by simp) (by decide)).trans ((fun _ => rfl) k)) k))⟩⟩
    · exfalso
      have q : _ := c13
      simp only [ti_nle, ti_nlt, ti_le, ti_lt, ti_eq, ti_ne, Classical.not_not, kt_0] at q
      have q1 := b12; have q2 := kc_0; omega
  · skip
    have b48 : IV x5 0 0 := ⟨by omega, by omega⟩
    show MW p l e _ s m args below meth c _ 2 G 0 0 4 [some (.ref (G.1 22 0)), some (.int a1)] [.int x5] τ2
    refine m_if_ne (tgt := 10) C dX12_drop_4 (by decide) (fun c49 => ?_) (fun c49 => ?_)
    · exfalso
      have q : _ := c49
      simp only [ti_nle, ti_nlt, ti_le, ti_lt, ti_eq, ti_ne, Classical.not_not, kt_0] at q
      have q1 := b48; have q2 := kc_0; omega
    · have f51 : x5.toInt = 0 := by
        have q : _ := c49
        simp only [ti_nle, ti_nlt, ti_le, ti_lt, ti_eq, ti_ne, Classical.not_not, kt_0] at q
        omega
      refine m_ldc (v := (-1000001)) C dX12_drop_7 q4_192 ?_
      exact m_iret C hr hlk (by decide) (by decide) dX12_drop_9 ⟨_, rfl, i3, g7, (iv_wk kc_m1000001 (by decide)), ⟨(Or.inl ⟨by omega, (by have q := kt_m1000001; omega), (SameL.rf.fr f4 (by simp) (by decide))⟩), (by have qk := kt_m1000001; omega), (fun k => (f4.1 25 0 k (by simp) (by decide)).trans ((fun _ => rfl) k))⟩⟩
