/-! ===== asks and their trace ===== -/
/-- the row u, as long as cell k of t says, has L more -/
def Tp (t k u : Nat) (σ τ : Sg) (L : List Int) : Prop := (gV τ t 0 k).toInt = (gV σ t 0 k).toInt + (L.length : Int) ∧ (∀ i : Nat, (i : Int) < (gV σ t 0 k).toInt → gV τ u 0 i = gV σ u 0 i) ∧ ∀ q : Nat, q < L.length → (gV τ u 0 ((gV σ t 0 k).toInt.toNat + q)).toInt = L.getD q 0
theorem Tp.trans {t k u : Nat} {σ τ υ : Sg} {L L' : List Int} (h : Tp t k u σ τ L) (g : Tp t k u τ υ L') (h0 : 0 ≤ (gV σ t 0 k).toInt) : Tp t k u σ υ (L ++ L') := by
  obtain ⟨h1, h2, h3⟩ := h
  obtain ⟨g1, g2, g3⟩ := g
  refine ⟨?_, fun i hi => ?_, fun q hq => ?_⟩
  · rw [g1, h1, List.length_append]
    omega
  · rw [g2 i (by omega)]
    exact h2 i hi
  · rw [List.length_append] at hq
    rw [List.getD_eq_getElem?_getD]
    by_cases c : q < L.length
    · rw [g2 _ (by omega), h3 q c, List.getD_eq_getElem?_getD, List.getElem?_append_left c]
    · rw [List.getElem?_append_right (by omega), ← List.getD_eq_getElem?_getD, ← g3 (q - L.length) (by omega), show (gV τ t 0 k).toInt.toNat + (q - L.length) = (gV σ t 0 k).toInt.toNat + q by omega]
theorem Tp.one {σ τ υ : Sg} {n : Nat} {v x : Int32} {w : Int} (e1 : τ = sV σ 15 0 n v) (e2 : υ = sV τ 14 0 1 x) (hn : (n : Int) = (gV σ 14 0 1).toInt) (hx : x.toInt = (gV σ 14 0 1).toInt + 1) (hv : v.toInt = w) : Tp 14 1 15 σ υ [w] := by
  refine ⟨?_, fun i hi => ?_, fun q hq => ?_⟩
  · rw [e2, gV_self, hx]
    rfl
  · rw [gV_putn e2 (Or.inl (by decide)), gV_putn e1 (Or.inr (Or.inr (by omega)))]
  · have hq0 : q = 0 := by
      simp only [List.length_cons, List.length_nil] at hq
      omega
    subst hq0
    rw [gV_putn e2 (Or.inl (by decide)), show (gV σ 14 0 1).toInt.toNat + 0 = n by omega, e1, gV_self, hv]
    rfl
theorem Tp.three {σ τ1 τ2 τ3 υ : Sg} {n n1 n2 : Nat} {a b c x : Int32} (e1 : τ1 = sV σ 31 0 n a) (e2 : τ2 = sV τ1 31 0 n1 b) (e3 : τ3 = sV τ2 31 0 n2 c) (e4 : υ = sV τ3 22 0 20 x) (hn : (n : Int) = (gV σ 22 0 20).toInt) (h1 : n1 = n + 1) (h2 : n2 = n + 2) : (x.toInt = (gV σ 22 0 20).toInt + 3 → Tp 22 20 31 σ υ [a.toInt, b.toInt, c.toInt]) ∧ (x.toInt = (gV σ 22 0 20).toInt + 2 → Tp 22 20 31 σ υ [a.toInt, b.toInt]) := by
  have ea : gV υ 31 0 n = a := by rw [gV_putn e4 (Or.inl (by decide)), gV_putn e3 (Or.inr (Or.inr (by omega))), gV_putn e2 (Or.inr (Or.inr (by omega))), e1, gV_self]
  have eb : gV υ 31 0 (n + 1) = b := by rw [gV_putn e4 (Or.inl (by decide)), gV_putn e3 (Or.inr (Or.inr (by omega))), ← h1, e2, gV_self]
  have ec : gV υ 31 0 (n + 2) = c := by rw [gV_putn e4 (Or.inl (by decide)), ← h2, e3, gV_self]
  have ek : ∀ i, i < n → gV υ 31 0 i = gV σ 31 0 i := fun i hi => by rw [gV_putn e4 (Or.inl (by decide)), gV_putn e3 (Or.inr (Or.inr (by omega))), gV_putn e2 (Or.inr (Or.inr (by omega))), gV_putn e1 (Or.inr (Or.inr (by omega)))]
  have el : gV υ 22 0 20 = x := by rw [e4, gV_self]
  have eN : (gV σ 22 0 20).toInt.toNat = n := by omega
  refine ⟨fun hx => ⟨?_, fun i hi => ek i (by omega), fun q hq => ?_⟩, fun hx => ⟨?_, fun i hi => ek i (by omega), fun q hq => ?_⟩⟩
  · rw [el, hx]; rfl
  · rw [eN]
    simp only [List.length_cons, List.length_nil] at hq
    match q, hq with
    | 0, _ => rw [Nat.add_zero, ea]; rfl
    | 1, _ => rw [eb]; rfl
    | 2, _ => rw [ec]; rfl
  · rw [el, hx]; rfl
  · rw [eN]
    simp only [List.length_cons, List.length_nil] at hq
    match q, hq with
    | 0, _ => rw [Nat.add_zero, ea]; rfl
    | 1, _ => rw [eb]; rfl
/-- the trace is L -/
def TrI (t k u : Nat) (τ : Sg) (L : List Int) : Prop := (gV τ t 0 k).toInt = (L.length : Int) ∧ ∀ q : Nat, q < L.length → (gV τ u 0 q).toInt = L.getD q 0
theorem Tp.is {t k u : Nat} {σ τ : Sg} {L : List Int} (h : Tp t k u σ τ L) (h0 : (gV σ t 0 k).toInt = 0) : TrI t k u τ L := by
  refine ⟨by rw [h.1, h0]; omega, fun q hq => ?_⟩
  have := h.2.2 q hq
  rw [h0] at this
  rw [show (0 : Int).toNat + q = q by omega] at this
  exact this
/-- both traces are alike -/
def TR (σ : Sg) : Prop := (gV σ 14 0 1).toInt = (gV σ 22 0 20).toInt ∧ ∀ i : Nat, (i : Int) < (gV σ 14 0 1).toInt → (gV σ 15 0 i).toInt = (gV σ 31 0 i).toInt
theorem TR.call {M : List (Nat × Nat)} {A : List Nat} {σ τ : Sg} (h : TR σ) (f : Fr M A σ τ) (hm : (M.all fun q => q.1 != 15 && q.1 != 31 && q != (14, 1) && q != (22, 20)) = true) (ha : (A.all fun q => q != 14 && q != 15 && q != 22 && q != 31) = true) : TR τ := by
  have hm' : ∀ q ∈ M, q.1 ≠ 15 ∧ q.1 ≠ 31 ∧ q ≠ (14, 1) ∧ q ≠ (22, 20) := fun q hq => by
    have := List.all_eq_true.mp hm q hq
    simpa [and_assoc] using this
  have ha' : ∀ q ∈ A, q ≠ 14 ∧ q ≠ 15 ∧ q ≠ 22 ∧ q ≠ 31 := fun q hq => by
    have := List.all_eq_true.mp ha q hq
    simpa [and_assoc] using this
  have e1 : gV τ 14 0 1 = gV σ 14 0 1 := f.1 14 0 1 (fun q => (hm' _ q).2.2.1 rfl) (fun q => (ha' _ q).1 rfl)
  have e2 : gV τ 22 0 20 = gV σ 22 0 20 := f.1 22 0 20 (fun q => (hm' _ q).2.2.2 rfl) (fun q => (ha' _ q).2.2.1 rfl)
  refine ⟨by rw [e1, e2]; exact h.1, fun i hi => ?_⟩
  rw [e1] at hi
  rw [f.1 15 0 i (fun q => (hm' _ q).1 rfl) (fun q => (ha' _ q).2.1 rfl), f.1 31 0 i (fun q => (hm' _ q).2.1 rfl) (fun q => (ha' _ q).2.2.2 rfl)]
  exact h.2 i hi
theorem TR.of {σ : Sg} {L : List Int} (h : TrI 14 1 15 σ L) (g : TrI 22 20 31 σ L) : TR σ := ⟨h.1.trans g.1.symm, fun i hi => by
  rw [h.1] at hi
  rw [h.2 i (by omega), g.2 i (by omega)]⟩
theorem TrI.fr {t k u : Nat} {M : List (Nat × Nat)} {A : List Nat} {σ τ : Sg} {L : List Int} (h : TrI t k u σ L) (f : Fr M A σ τ) (h1 : (t, k) ∉ M) (h2 : t ∉ A) (h3 : ∀ q, (u, q) ∉ M) (h4 : u ∉ A) : TrI t k u τ L := by
  refine ⟨by rw [f.1 t 0 k h1 h2]; exact h.1, fun q hq => ?_⟩
  rw [f.1 u 0 q (h3 q) h4]
  exact h.2 q hq
def szV (k n b p : Int) : Int := if k = 1 then b + (n + p) else if k = 2 then b + (n + p - 1000) else if k = 3 then -(b + 2 * (n + p)) else if k = 4 then b - 100 else 2 * (b - 100)
def mkV (k n b p : Int) : Int := if k = 1 then n + p else if k = 2 then n + p - 1000 else if k = 3 then 2 * (n + p) else if k = 4 then n - (b - 100) else n - 2 * (b - 100)
def szL (k : Int) : List Int := if k = 1 then [11, 10, 21, 20] else if k = 2 then [11, 10, 22, 21, 20] else if k = 3 then [12, 11, 10, 24, 21, 20] else if k = 4 then [13, 10] else [14, 13, 10]
def mkL (k : Int) : List Int := if k = 1 then [21, 20] else if k = 2 then [22, 21, 20] else if k = 3 then [24, 21, 20] else if k = 4 then [23, 20, 13, 10] else [23, 20, 14, 13, 10]
def asV (w k n b p : Int) : Int := if w = 0 then szV k n b p else mkV k n b p
def asL (w k : Int) : List Int := if w = 0 then szL k else mkL k
/-- a person's number, burden, pace -/
def PNb (σ : Sg) (a : Nat) (n b p : Int) : Prop := ((σ.2.2.2.2.2 a 0).toInt = n ∧ (σ.2.2.2.2.2 a 1).toInt = b ∧ (σ.2.2.2.2.2 a 2).toInt = p) ∧ (0 ≤ n ∧ n ≤ 6) ∧ (0 ≤ b ∧ b ≤ 40) ∧ 1 ≤ p ∧ p ≤ 4
theorem PNb.eq {σ τ : Sg} {a : Nat} {n b p : Int} (h : PNb σ a n b p) (e : τ.2.2.2 = σ.2.2.2) : PNb τ a n b p := by
  unfold PNb
  rw [e]
  exact h
theorem PeC.nb {σ : Sg} {a i : Nat} {S : Stt} (h : PeC σ a i (S.2.2 i)) (v : StV S) (hi : (i : Int) < S.2.1) (h6 : i ≤ 6) : PNb σ a i (S.2.2 i).2.1 (S.2.2 i).2.2 := ⟨⟨h.2.2.1, h.2.2.2.1, h.2.2.2.2⟩, ⟨by omega, by omega⟩, (v i hi).2.1, (v i hi).2.2⟩
theorem buF_b {k w : Int} (h1 : 1 ≤ w ∧ w ≤ 20) : 0 ≤ buF k w ∧ buF k w ≤ 40 := by
  unfold buF
  repeat' split
  all_goals omega
theorem MA.stv {σ : Sg} {S : Stt} {I : Nat → Stt} (h : MA σ S I) : StV S := fun i hi => by
  obtain ⟨h1, h2, h3, h4, h5, h6⟩ := h.1.2.2.2 i hi
  refine ⟨h5, ?_, h6⟩
  rw [← h2]
  exact buF_b h4
theorem ti_dbl {x : Int32} {a b : Int} (h : IV x a b) (hh : -1000000 ≤ a ∧ b ≤ 1000000) : (2 * x).toInt = 2 * x.toInt := by
  have h1 := h.1
  have h2 := h.2
  have e : (2 : Int32).toInt = 2 := by decide
  have q := ti_mul (x := 2) (y := x) (by rw [e]; omega) (by rw [e]; omega)
  rw [q, e]
theorem ti_negv {x : Int32} {a b : Int} (h : IV x a b) (hh : -1000000 ≤ a ∧ b ≤ 1000000) : (-x).toInt = -x.toInt := by
  have h1 := h.1
  have h2 := h.2
  have e : (0 : Int32).toInt = 0 := by decide
  have q := ti_sub (x := 0) (y := x) (by rw [e]; omega) (by rw [e]; omega)
  rw [show -x = 0 - x by rw [Int32.zero_sub], q, e]
  omega
theorem szV_1 (n b p : Int) : szV 1 n b p = b + (n + p) := by unfold szV; rw [if_pos rfl]
theorem szV_2 (n b p : Int) : szV 2 n b p = b + (n + p - 1000) := by unfold szV; rw [if_neg (by decide), if_pos rfl]
theorem szV_3 (n b p : Int) : szV 3 n b p = -(b + 2 * (n + p)) := by unfold szV; rw [if_neg (by decide), if_neg (by decide), if_pos rfl]
theorem szV_4 (n b p : Int) : szV 4 n b p = b - 100 := by unfold szV; rw [if_neg (by decide), if_neg (by decide), if_neg (by decide), if_pos rfl]
theorem szV_5 (n b p : Int) : szV 5 n b p = 2 * (b - 100) := by unfold szV; rw [if_neg (by decide), if_neg (by decide), if_neg (by decide), if_neg (by decide)]
theorem mkV_1 (n b p : Int) : mkV 1 n b p = n + p := by unfold mkV; rw [if_pos rfl]
theorem mkV_2 (n b p : Int) : mkV 2 n b p = n + p - 1000 := by unfold mkV; rw [if_neg (by decide), if_pos rfl]
theorem mkV_3 (n b p : Int) : mkV 3 n b p = 2 * (n + p) := by unfold mkV; rw [if_neg (by decide), if_neg (by decide), if_pos rfl]
theorem mkV_4 (n b p : Int) : mkV 4 n b p = n - (b - 100) := by unfold mkV; rw [if_neg (by decide), if_neg (by decide), if_neg (by decide), if_pos rfl]
theorem mkV_5 (n b p : Int) : mkV 5 n b p = n - 2 * (b - 100) := by unfold mkV; rw [if_neg (by decide), if_neg (by decide), if_neg (by decide), if_neg (by decide)]
theorem szL_1 : szL 1 = [11, 10, 21, 20] := by unfold szL; rw [if_pos rfl]
theorem szL_2 : szL 2 = [11, 10, 22, 21, 20] := by unfold szL; rw [if_neg (by decide), if_pos rfl]
theorem szL_3 : szL 3 = [12, 11, 10, 24, 21, 20] := by unfold szL; rw [if_neg (by decide), if_neg (by decide), if_pos rfl]
theorem szL_4 : szL 4 = [13, 10] := by unfold szL; rw [if_neg (by decide), if_neg (by decide), if_neg (by decide), if_pos rfl]
theorem szL_5 : szL 5 = [14, 13, 10] := by unfold szL; rw [if_neg (by decide), if_neg (by decide), if_neg (by decide), if_neg (by decide)]
theorem mkL_1 : mkL 1 = [21, 20] := by unfold mkL; rw [if_pos rfl]
theorem mkL_2 : mkL 2 = [22, 21, 20] := by unfold mkL; rw [if_neg (by decide), if_pos rfl]
theorem mkL_3 : mkL 3 = [24, 21, 20] := by unfold mkL; rw [if_neg (by decide), if_neg (by decide), if_pos rfl]
theorem mkL_4 : mkL 4 = [23, 20, 13, 10] := by unfold mkL; rw [if_neg (by decide), if_neg (by decide), if_neg (by decide), if_pos rfl]
theorem mkL_5 : mkL 5 = [23, 20, 14, 13, 10] := by unfold mkL; rw [if_neg (by decide), if_neg (by decide), if_neg (by decide), if_neg (by decide)]
theorem asV_0 (k n b p : Int) : asV 0 k n b p = szV k n b p := by unfold asV; rw [if_pos rfl]
theorem asV_1 (k n b p : Int) : asV 1 k n b p = mkV k n b p := by unfold asV; rw [if_neg (by decide)]
theorem asL_0 (k : Int) : asL 0 k = szL k := by unfold asL; rw [if_pos rfl]
theorem asL_1 (k : Int) : asL 1 k = mkL k := by unfold asL; rw [if_neg (by decide)]
theorem buF_k {k w : Int} : (k = 2 → buF k w = 2 * w) ∧ (k = 5 → buF k w = w + 5) ∧ (k = 3 → buF k w = w / 2) ∧ (k ≠ 2 → k ≠ 5 → k ≠ 3 → buF k w = w) := by
  refine ⟨fun h => ?_, fun h => ?_, fun h => ?_, fun h1 h2 h3 => ?_⟩
  · unfold buF; rw [if_pos h]
  · unfold buF; rw [if_neg (by omega), if_pos h]
  · unfold buF; rw [if_neg (by omega), if_neg (by omega), if_pos h]
  · unfold buF; rw [if_neg h1, if_neg h2, if_neg h3]
theorem ti_div2 {x : Int32} (h : IV x 1 20) : (x / 2).toInt = x.toInt / 2 := by
  have e := (bu_of h).2.2.1
  rw [e]
  unfold buF
  rw [if_neg (by decide), if_neg (by decide), if_pos rfl]
theorem Tp.from {t k u : Nat} {σ τ υ : Sg} {L : List Int} (h : Tp t k u τ υ L) (e1 : gV τ t 0 k = gV σ t 0 k) (e2 : ∀ i, gV τ u 0 i = gV σ u 0 i) : Tp t k u σ υ L := by
  obtain ⟨h1, h2, h3⟩ := h
  rw [e1] at h1 h2 h3
  exact ⟨h1, fun i hi => (h2 i hi).trans (e2 i), h3⟩
abbrev MS_X9_leaveS : List (Nat × Nat) := [(14, 1)]
abbrev AS_X9_leaveS : List Nat := [15]
set_option maxHeartbeats 4000000 in
set_option maxRecDepth 100000 in
theorem c_X9_leaveS (l : Launch) (G : Gt) (σ : Sg) (a1 : Int32) (hI : Inv σ) (htl : (gV σ 14 0 1).toInt ≤ 15) : Mc l G yX9_leave cX9_leave 2 none 0 0 0 0 [.ref (G.1 14 0), .int a1] σ (PV fun τ => Inv τ ∧ Fr MS_X9_leaveS AS_X9_leaveS σ τ ∧ ∀ v : Int, a1.toInt = v → Tp 14 1 15 σ τ [v]) := by
  refine Mc.of (L0 := [some (.ref (G.1 14 0)), some (.int a1)]) (by decide) (Nat.le_of_ble_eq_true rfl) rfl ?_
  intro p e s m args below meth c C hr hlk
  have C : Cx p s m args c cX9_leave 2 "LeanTower$Trace" := C
  have k0 : (0 : Int32).toInt = 0 := by decide
  have k1 : (1 : Int32).toInt = 1 := by decide
  have u1 : IV (gV σ 14 0 1) 0 16 := hI.1 14 0 1
  refine m_aload_n C dX9_leave_0 rfl rfl ?_
  refine g_14_1 C q1_136 dX9_leave_1 ?_
  refine m_eqs (w := (gV σ 14 0 1)) rfl ?_
  refine m_bipush (v := 16) C dX9_leave_4 (by decide) ?_
  refine m_icmp_ge (tgt := 29) C dX9_leave_6 (by decide) (fun c2 => ?_) (fun c2 => ?_)
  · have f3 : 16 ≤ (gV σ 14 0 1).toInt := by
      have q : _ := c2
      simp only [ti_nle, ti_nlt, ti_le, ti_lt, ti_eq, ti_ne, Classical.not_not, kt_16] at q
      omega
    have b4 : IV (gV σ 14 0 1) 16 16 := ⟨by have q1 := kc_16; have q2 := u1; omega, by have q1 := kc_16; have q2 := u1; omega⟩
    exact m_vret C hr hlk (by decide) (by decide) dX9_leave_29 ⟨rfl, hI, Fr.rf, (fun _ _ => absurd htl (by omega))⟩
  · have f5 : (gV σ 14 0 1).toInt < 16 := by
      have q : _ := c2
      simp only [ti_nle, ti_nlt, ti_le, ti_lt, ti_eq, ti_ne, Classical.not_not, kt_16] at q
      omega
    have b6 : IV (gV σ 14 0 1) 0 15 := ⟨by have q1 := u1; have q2 := kc_16; omega, by have q1 := u1; have q2 := kc_16; omega⟩
    refine m_aload_n C dX9_leave_9 rfl rfl ?_
    refine g_14_0 C q1_134 dX9_leave_10 ?_
    refine m_aload_n C dX9_leave_13 rfl rfl ?_
    refine g_14_1 C q1_136 dX9_leave_14 ?_
    refine m_eqs (w := (gV σ 14 0 1)) rfl ?_
    refine m_iload_n C dX9_leave_17 rfl rfl ?_
    refine as_15 C b6 (by decide) rfl dX9_leave_18 ?_
    refine m_tops (fun τ7 eτ7 => ?_)
    have i8 : Inv τ7 := eτ7 ▸ Inv.putF hI (by decide) rfl
    have f9 : Fr MS_X9_leaveS AS_X9_leaveS σ τ7 := eτ7 ▸ Fr.put (Fr.rf) (Or.inr (by decide))
    refine m_aload_n C dX9_leave_19 rfl rfl ?_
    refine m_dup C dX9_leave_20 rfl ?_
    refine g_14_1 C q1_136 dX9_leave_21 ?_
    refine m_eqs (w := (gV σ 14 0 1)) (show gV τ7 14 0 1 = (gV σ 14 0 1) from gV_put eτ7 rfl) ?_
    refine m_iconst (v := 1) C dX9_leave_24 (by decide) ?_
    refine m_iadd C dX9_leave_25 ?_
    refine m_topi (fun x10 ex10 => ?_)
    have tx10 : x10.toInt = (gV σ 14 0 1).toInt + 1 := by rw [ex10, ti_addv b6 kc_1 (by decide), kt_1]
    have b11 : IV x10 1 16 := by rw [ex10]; exact iv_add b6 kc_1 (by decide)
    refine p_14_1 C q1_136 dX9_leave_26 ?_
    refine m_tops (fun τ12 eτ12 => ?_)
    have i13 : Inv τ12 := eτ12 ▸ Inv.put i8 (by decide) (iv_wk b11 (by decide))
    have f14 : Fr MS_X9_leaveS AS_X9_leaveS σ τ12 := eτ12 ▸ Fr.put (f9) (Or.inl (by decide))
    have q15 : (gV τ12 14 0 1).toInt = x10.toInt := congrArg Int32.toInt (show (gV τ12 14 0 1) = x10 from (show gV τ12 14 0 1 = x10 from gV_put eτ12 (gV_self _ _ _ _ _)))
    exact m_vret C hr hlk (by decide) (by decide) dX9_leave_29 ⟨rfl, i13, f14, (fun v hv => Tp.one eτ7 eτ12 (by omega) (by omega) hv)⟩

abbrev MS_X4_sizeS : List (Nat × Nat) := [(14, 1)]
abbrev AS_X4_sizeS : List Nat := [15]
set_option maxHeartbeats 4000000 in
set_option maxRecDepth 100000 in
theorem c_X4_sizeS (l : Launch) (G : Gt) (σ : Sg) (nb : Int) (bb : Int) (pb : Int) (a0 : Nat) (hI : Inv σ) (ha0 : a0 ∈ σ.2.2.2.1) (hpb : PNb σ a0 nb bb pb) (htl : (gV σ 14 0 1).toInt ≤ 15) : Mc l G yX4_size cX4_size 2 (some .int) 1 21 0 0 [.ref a0, .ref (G.1 14 0)] σ (PI fun r τ => Inv τ ∧ Fr MS_X4_sizeS AS_X4_sizeS σ τ ∧ IV r 0 40 ∧ (r.toInt = bb ∧ Tp 14 1 15 σ τ [10])) := by
  refine Mc.of (L0 := [some (.ref a0), some (.ref (G.1 14 0))]) (by decide) (Nat.le_of_ble_eq_true rfl) rfl ?_
  intro p e s m args below meth c C hr hlk
  have C : Cx p s m args c cX4_size 2 "LeanTower$Person" := C
  have k0 : (0 : Int32).toInt = 0 := by decide
  have k1 : (1 : Int32).toInt = 1 := by decide
  have u1 : IV (gV σ 14 0 1) 0 16 := hI.1 14 0 1
  refine m_aload_n C dX4_size_0 rfl rfl ?_
  refine m_bipush (v := 10) C dX4_size_1 (by decide) ?_
  have q2 := kt_10
  refine m_callV (n := 1) (ci := 8) (st := []) C (c_X9_leaveS l G σ (10) hI (by omega)) (by decide) (by decide) rfl rfl rfl q4_52 q4_84 q4_50 q4_51 q1_4 (by decide +kernel) rfl (by decide) (by decide) rfl (Nat.le_of_ble_eq_true rfl) dX4_size_3 ?_
  rintro _ τ3 ⟨rfl, i4, f5, h9⟩
  have g8 : Fr MS_X4_sizeS AS_X4_sizeS σ τ3 := Fr.call (Fr.rf) f5 (by decide)
  have v10 : PNb τ3 a0 nb bb pb := hpb.eq (f5.2.2 (by decide))
  have v11 : a0 ∈ τ3.2.2.2.1 := by rw [f5.2.2 (by decide)]; exact ha0
  have v12 : Tp 14 1 15 σ τ3 [10] := h9 10 kt_10
  have q13 := v12.1
  simp only [List.length_cons, List.length_nil] at q13
  have u14 : IV (gV τ3 14 0 1) 0 16 := i4.1 14 0 1
  show MW p l e _ s m args below meth c _ 2 G 0 0 6 [some (.ref a0), some (.ref (G.1 14 0))] [] τ3
  refine m_aload_n C dX4_size_6 rfl rfl ?_
  refine gp_1 C i4.2.2 v11 q2_180 dX4_size_7 ?_
  refine m_topi (fun x15 ex15 => ?_)
  have q17 : x15.toInt = bb := by rw [ex15]; exact v10.1.2.1
  have q18 := v10.2
  have b16 : IV x15 0 40 := ⟨by omega, by omega⟩
  exact m_iret C hr hlk (by decide) (by decide) dX4_size_10 ⟨_, rfl, i4, g8, b16, ⟨by omega, v12⟩⟩

abbrev MS_X4_markS : List (Nat × Nat) := [(14, 1)]
abbrev AS_X4_markS : List Nat := [15]
set_option maxHeartbeats 4000000 in
set_option maxRecDepth 100000 in
theorem c_X4_markS (l : Launch) (G : Gt) (σ : Sg) (nb : Int) (bb : Int) (pb : Int) (a0 : Nat) (hI : Inv σ) (ha0 : a0 ∈ σ.2.2.2.1) (hpb : PNb σ a0 nb bb pb) (htl : (gV σ 14 0 1).toInt ≤ 15) : Mc l G yX4_mark cX4_mark 2 (some .int) 1 21 0 0 [.ref a0, .ref (G.1 14 0)] σ (PI fun r τ => Inv τ ∧ Fr MS_X4_markS AS_X4_markS σ τ ∧ IV r 0 6 ∧ (r.toInt = nb ∧ Tp 14 1 15 σ τ [20])) := by
  refine Mc.of (L0 := [some (.ref a0), some (.ref (G.1 14 0))]) (by decide) (Nat.le_of_ble_eq_true rfl) rfl ?_
  intro p e s m args below meth c C hr hlk
  have C : Cx p s m args c cX4_mark 2 "LeanTower$Person" := C
  have k0 : (0 : Int32).toInt = 0 := by decide
  have k1 : (1 : Int32).toInt = 1 := by decide
  have u1 : IV (gV σ 14 0 1) 0 16 := hI.1 14 0 1
  refine m_aload_n C dX4_mark_0 rfl rfl ?_
  refine m_bipush (v := 20) C dX4_mark_1 (by decide) ?_
  have q2 := kt_20
  refine m_callV (n := 1) (ci := 8) (st := []) C (c_X9_leaveS l G σ (20) hI (by omega)) (by decide) (by decide) rfl rfl rfl q4_52 q4_84 q4_50 q4_51 q1_4 (by decide +kernel) rfl (by decide) (by decide) rfl (Nat.le_of_ble_eq_true rfl) dX4_mark_3 ?_
  rintro _ τ3 ⟨rfl, i4, f5, h9⟩
  have g8 : Fr MS_X4_markS AS_X4_markS σ τ3 := Fr.call (Fr.rf) f5 (by decide)
  have v10 : PNb τ3 a0 nb bb pb := hpb.eq (f5.2.2 (by decide))
  have v11 : a0 ∈ τ3.2.2.2.1 := by rw [f5.2.2 (by decide)]; exact ha0
  have v12 : Tp 14 1 15 σ τ3 [20] := h9 20 kt_20
  have q13 := v12.1
  simp only [List.length_cons, List.length_nil] at q13
  have u14 : IV (gV τ3 14 0 1) 0 16 := i4.1 14 0 1
  show MW p l e _ s m args below meth c _ 2 G 0 0 6 [some (.ref a0), some (.ref (G.1 14 0))] [] τ3
  refine m_aload_n C dX4_mark_6 rfl rfl ?_
  refine gp_0 C i4.2.2 v11 q2_179 dX4_mark_7 ?_
  refine m_topi (fun x15 ex15 => ?_)
  have q17 : x15.toInt = nb := by rw [ex15]; exact v10.1.1
  have q18 := v10.2
  have b16 : IV x15 0 6 := ⟨by omega, by omega⟩
  exact m_iret C hr hlk (by decide) (by decide) dX4_mark_10 ⟨_, rfl, i4, g8, b16, ⟨by omega, v12⟩⟩

abbrev MS_X5_markS : List (Nat × Nat) := [(14, 1)]
abbrev AS_X5_markS : List Nat := [15]
set_option maxHeartbeats 4000000 in
set_option maxRecDepth 100000 in
theorem c_X5_markS (l : Launch) (G : Gt) (σ : Sg) (nb : Int) (bb : Int) (pb : Int) (a0 : Nat) (hI : Inv σ) (ha0 : a0 ∈ σ.2.2.2.1) (hpb : PNb σ a0 nb bb pb) (htl : (gV σ 14 0 1).toInt ≤ 14) : Mc l G yX5_mark cX5_mark 2 (some .int) 2 42 0 0 [.ref a0, .ref (G.1 14 0)] σ (PI fun r τ => Inv τ ∧ Fr MS_X5_markS AS_X5_markS σ τ ∧ IV r 1 10 ∧ (r.toInt = nb + pb ∧ Tp 14 1 15 σ τ [21, 20])) := by
  refine Mc.of (L0 := [some (.ref a0), some (.ref (G.1 14 0))]) (by decide) (Nat.le_of_ble_eq_true rfl) rfl ?_
  intro p e s m args below meth c C hr hlk
  have C : Cx p s m args c cX5_mark 2 "LeanTower$Pilgrim" := C
  have k0 : (0 : Int32).toInt = 0 := by decide
  have k1 : (1 : Int32).toInt = 1 := by decide
  have u1 : IV (gV σ 14 0 1) 0 16 := hI.1 14 0 1
  refine m_aload_n C dX5_mark_0 rfl rfl ?_
  refine m_bipush (v := 21) C dX5_mark_1 (by decide) ?_
  have q2 := kt_21
  refine m_callV (n := 1) (ci := 8) (st := []) C (c_X9_leaveS l G σ (21) hI (by omega)) (by decide) (by decide) rfl rfl rfl q4_52 q4_65 q4_50 q4_51 q1_4 (by decide +kernel) rfl (by decide) (by decide) rfl (Nat.le_of_ble_eq_true rfl) dX5_mark_3 ?_
  rintro _ τ3 ⟨rfl, i4, f5, h9⟩
  have g8 : Fr MS_X5_markS AS_X5_markS σ τ3 := Fr.call (Fr.rf) f5 (by decide)
  have v10 : PNb τ3 a0 nb bb pb := hpb.eq (f5.2.2 (by decide))
  have v11 : a0 ∈ τ3.2.2.2.1 := by rw [f5.2.2 (by decide)]; exact ha0
  have v12 : Tp 14 1 15 σ τ3 [21] := h9 21 kt_21
  have q13 := v12.1
  simp only [List.length_cons, List.length_nil] at q13
  have u14 : IV (gV τ3 14 0 1) 0 16 := i4.1 14 0 1
  show MW p l e _ s m args below meth c _ 2 G 0 0 6 [some (.ref a0), some (.ref (G.1 14 0))] [] τ3
  refine m_aload_n C dX5_mark_6 rfl rfl ?_
  refine m_aload_n C dX5_mark_7 rfl rfl ?_
  refine m_callSU (n := 1) (st := []) C (c_X4_markS l G τ3 nb bb pb a0  i4 v11  v10 (by omega)) i4.2.2 v11 q4_83 q4_81 q5_225 q2_231 q4_82 q1_13 (by decide +kernel) rfl (by decide) (by decide) rfl (Nat.le_of_ble_eq_true rfl) dX5_mark_8 ?_
  rintro _ τ15 ⟨x18, rfl, i16, f17, b21, h20⟩
  have g19 : Fr MS_X5_markS AS_X5_markS σ τ15 := Fr.call (g8) f17 (by decide)
  have v22 : PNb τ15 a0 nb bb pb := v10.eq (f17.2.2 (by decide))
  have v23 : a0 ∈ τ15.2.2.2.1 := by rw [f17.2.2 (by decide)]; exact v11
  have v24 : Tp 14 1 15 σ τ15 [21, 20] := Tp.trans v12 (h20.2) (by omega)
  have q25 := v24.1
  simp only [List.length_cons, List.length_nil] at q25
  have u26 : IV (gV τ15 14 0 1) 0 16 := i16.1 14 0 1
  have q27 : x18.toInt = nb := h20.1
  have q28 := v22.2
  have b29 : IV x18 0 6 := ⟨by omega, by omega⟩
  show MW p l e _ s m args below meth c _ 2 G 0 0 11 [some (.ref a0), some (.ref (G.1 14 0))] [.int x18] τ15
  refine m_aload_n C dX5_mark_11 rfl rfl ?_
  refine gp_2s C i16.2.2 v23 q2_184 q2_185 dX5_mark_12 ?_
  refine m_topi (fun x30 ex30 => ?_)
  have q32 : x30.toInt = pb := by rw [ex30]; exact v22.1.2.2
  have q33 := v22.2
  have b31 : IV x30 1 4 := ⟨by omega, by omega⟩
  refine m_iadd C dX5_mark_15 ?_
  refine m_topi (fun x34 ex34 => ?_)
  have tx34 : x34.toInt = x18.toInt + x30.toInt := by rw [ex34, ti_addv b29 b31 (by decide)]
  have b35 : IV x34 1 10 := by rw [ex34]; exact iv_add b29 b31 (by decide)
  exact m_iret C hr hlk (by decide) (by decide) dX5_mark_16 ⟨_, rfl, i16, g19, b35, ⟨by omega, v24⟩⟩

abbrev MS_X10_markS : List (Nat × Nat) := [(14, 1)]
abbrev AS_X10_markS : List Nat := [15]
set_option maxHeartbeats 4000000 in
set_option maxRecDepth 100000 in
theorem c_X10_markS (l : Launch) (G : Gt) (σ : Sg) (nb : Int) (bb : Int) (pb : Int) (a0 : Nat) (hI : Inv σ) (ha0 : a0 ∈ σ.2.2.2.1) (hpb : PNb σ a0 nb bb pb) (htl : (gV σ 14 0 1).toInt ≤ 13) : Mc l G yX10_mark cX10_mark 2 (some .int) 3 63 0 0 [.ref a0, .ref (G.1 14 0)] σ (PI fun r τ => Inv τ ∧ Fr MS_X10_markS AS_X10_markS σ τ ∧ IV r (-999) (-990) ∧ (r.toInt = nb + pb - 1000 ∧ Tp 14 1 15 σ τ [22, 21, 20])) := by
  refine Mc.of (L0 := [some (.ref a0), some (.ref (G.1 14 0))]) (by decide) (Nat.le_of_ble_eq_true rfl) rfl ?_
  intro p e s m args below meth c C hr hlk
  have C : Cx p s m args c cX10_mark 2 "LeanTower$Widow" := C
  have k0 : (0 : Int32).toInt = 0 := by decide
  have k1 : (1 : Int32).toInt = 1 := by decide
  have u1 : IV (gV σ 14 0 1) 0 16 := hI.1 14 0 1
  refine m_aload_n C dX10_mark_0 rfl rfl ?_
  refine m_bipush (v := 22) C dX10_mark_1 (by decide) ?_
  have q2 := kt_22
  refine m_callV (n := 1) (ci := 8) (st := []) C (c_X9_leaveS l G σ (22) hI (by omega)) (by decide) (by decide) rfl rfl rfl q4_52 q4_78 q4_50 q4_51 q1_4 (by decide +kernel) rfl (by decide) (by decide) rfl (Nat.le_of_ble_eq_true rfl) dX10_mark_3 ?_
  rintro _ τ3 ⟨rfl, i4, f5, h9⟩
  have g8 : Fr MS_X10_markS AS_X10_markS σ τ3 := Fr.call (Fr.rf) f5 (by decide)
  have v10 : PNb τ3 a0 nb bb pb := hpb.eq (f5.2.2 (by decide))
  have v11 : a0 ∈ τ3.2.2.2.1 := by rw [f5.2.2 (by decide)]; exact ha0
  have v12 : Tp 14 1 15 σ τ3 [22] := h9 22 kt_22
  have q13 := v12.1
  simp only [List.length_cons, List.length_nil] at q13
  have u14 : IV (gV τ3 14 0 1) 0 16 := i4.1 14 0 1
  show MW p l e _ s m args below meth c _ 2 G 0 0 6 [some (.ref a0), some (.ref (G.1 14 0))] [] τ3
  refine m_aload_n C dX10_mark_6 rfl rfl ?_
  refine m_aload_n C dX10_mark_7 rfl rfl ?_
  refine m_callSU (n := 1) (st := []) C (c_X5_markS l G τ3 nb bb pb a0  i4 v11  v10 (by omega)) i4.2.2 v11 q4_80 q4_79 q4_70 q2_194 q4_68 q1_14 (by decide +kernel) rfl (by decide) (by decide) rfl (Nat.le_of_ble_eq_true rfl) dX10_mark_8 ?_
  rintro _ τ15 ⟨x18, rfl, i16, f17, b21, h20⟩
  have g19 : Fr MS_X10_markS AS_X10_markS σ τ15 := Fr.call (g8) f17 (by decide)
  have v22 : PNb τ15 a0 nb bb pb := v10.eq (f17.2.2 (by decide))
  have v23 : a0 ∈ τ15.2.2.2.1 := by rw [f17.2.2 (by decide)]; exact v11
  have v24 : Tp 14 1 15 σ τ15 [22, 21, 20] := Tp.trans v12 (h20.2) (by omega)
  have q25 := v24.1
  simp only [List.length_cons, List.length_nil] at q25
  have u26 : IV (gV τ15 14 0 1) 0 16 := i16.1 14 0 1
  have q27 : x18.toInt = nb + pb := h20.1
  have q28 := v22.2
  have b29 : IV x18 1 10 := ⟨by omega, by omega⟩
  show MW p l e _ s m args below meth c _ 2 G 0 0 11 [some (.ref a0), some (.ref (G.1 14 0))] [.int x18] τ15
  refine m_sipush (v := 1000) C dX10_mark_11 (by decide) ?_
  refine m_isub C dX10_mark_14 ?_
  refine m_topi (fun x30 ex30 => ?_)
  have tx30 : x30.toInt = x18.toInt - 1000 := by rw [ex30, ti_subv b29 kc_1000 (by decide), kt_1000]
  have b31 : IV x30 (-999) (-990) := by rw [ex30]; exact iv_sub b29 kc_1000 (by decide)
  exact m_iret C hr hlk (by decide) (by decide) dX10_mark_15 ⟨_, rfl, i16, g19, b31, ⟨by omega, v24⟩⟩

abbrev MS_X2_markS : List (Nat × Nat) := [(14, 1)]
abbrev AS_X2_markS : List Nat := [15]
set_option maxHeartbeats 4000000 in
set_option maxRecDepth 100000 in
theorem c_X2_markS (l : Launch) (G : Gt) (σ : Sg) (nb : Int) (bb : Int) (pb : Int) (a0 : Nat) (hI : Inv σ) (ha0 : a0 ∈ σ.2.2.2.1) (hpb : PNb σ a0 nb bb pb) (htl : (gV σ 14 0 1).toInt ≤ 13) : Mc l G yX2_mark cX2_mark 2 (some .int) 3 63 0 0 [.ref a0, .ref (G.1 14 0)] σ (PI fun r τ => Inv τ ∧ Fr MS_X2_markS AS_X2_markS σ τ ∧ IV r 0 20 ∧ (r.toInt = 2 * (nb + pb) ∧ Tp 14 1 15 σ τ [24, 21, 20])) := by
  refine Mc.of (L0 := [some (.ref a0), some (.ref (G.1 14 0))]) (by decide) (Nat.le_of_ble_eq_true rfl) rfl ?_
  intro p e s m args below meth c C hr hlk
  have C : Cx p s m args c cX2_mark 2 "LeanTower$Boy" := C
  have k0 : (0 : Int32).toInt = 0 := by decide
  have k1 : (1 : Int32).toInt = 1 := by decide
  have u1 : IV (gV σ 14 0 1) 0 16 := hI.1 14 0 1
  refine m_aload_n C dX2_mark_0 rfl rfl ?_
  refine m_bipush (v := 24) C dX2_mark_1 (by decide) ?_
  have q2 := kt_24
  refine m_callV (n := 1) (ci := 8) (st := []) C (c_X9_leaveS l G σ (24) hI (by omega)) (by decide) (by decide) rfl rfl rfl q4_52 q4_61 q4_50 q4_51 q1_4 (by decide +kernel) rfl (by decide) (by decide) rfl (Nat.le_of_ble_eq_true rfl) dX2_mark_3 ?_
  rintro _ τ3 ⟨rfl, i4, f5, h9⟩
  have g8 : Fr MS_X2_markS AS_X2_markS σ τ3 := Fr.call (Fr.rf) f5 (by decide)
  have v10 : PNb τ3 a0 nb bb pb := hpb.eq (f5.2.2 (by decide))
  have v11 : a0 ∈ τ3.2.2.2.1 := by rw [f5.2.2 (by decide)]; exact ha0
  have v12 : Tp 14 1 15 σ τ3 [24] := h9 24 kt_24
  have q13 := v12.1
  simp only [List.length_cons, List.length_nil] at q13
  have u14 : IV (gV τ3 14 0 1) 0 16 := i4.1 14 0 1
  show MW p l e _ s m args below meth c _ 2 G 0 0 6 [some (.ref a0), some (.ref (G.1 14 0))] [] τ3
  refine m_iconst (v := 2) C dX2_mark_6 (by decide) ?_
  refine m_aload_n C dX2_mark_7 rfl rfl ?_
  refine m_aload_n C dX2_mark_8 rfl rfl ?_
  refine m_callSU (n := 1) (st := [.int 2]) C (c_X5_markS l G τ3 nb bb pb a0  i4 v11  v10 (by omega)) i4.2.2 v11 q4_80 q4_74 q4_70 q2_204 q4_68 q1_14 (by decide +kernel) rfl (by decide) (by decide) rfl (Nat.le_of_ble_eq_true rfl) dX2_mark_9 ?_
  rintro _ τ15 ⟨x18, rfl, i16, f17, b21, h20⟩
  have g19 : Fr MS_X2_markS AS_X2_markS σ τ15 := Fr.call (g8) f17 (by decide)
  have v22 : PNb τ15 a0 nb bb pb := v10.eq (f17.2.2 (by decide))
  have v23 : a0 ∈ τ15.2.2.2.1 := by rw [f17.2.2 (by decide)]; exact v11
  have v24 : Tp 14 1 15 σ τ15 [24, 21, 20] := Tp.trans v12 (h20.2) (by omega)
  have q25 := v24.1
  simp only [List.length_cons, List.length_nil] at q25
  have u26 : IV (gV τ15 14 0 1) 0 16 := i16.1 14 0 1
  have q27 : x18.toInt = nb + pb := h20.1
  have q28 := v22.2
  have b29 : IV x18 1 10 := ⟨by omega, by omega⟩
  show MW p l e _ s m args below meth c _ 2 G 0 0 12 [some (.ref a0), some (.ref (G.1 14 0))] [.int x18, .int 2] τ15
  refine m_imul C dX2_mark_12 ?_
  refine m_topi (fun x30 ex30 => ?_)
  have tx30 : x30.toInt = 2 * x18.toInt := by rw [ex30, ti_mulv kc_2 b29 (by decide), kt_2]
  have b31 : IV x30 0 20 := by rw [ex30]; exact iv_mul kc_2 b29 (by decide)
  exact m_iret C hr hlk (by decide) (by decide) dX2_mark_13 ⟨_, rfl, i16, g19, b31, ⟨by omega, v24⟩⟩

set_option maxHeartbeats 4000000 in
theorem v_pm4 {nb bb pb : Int} {p : Program} {l : Launch} {e : Env} {R : Room} {s : State} {m : MethodId} {args : Array Value} {below : List Frame} {meth : Method} {c : Code} {cells slots : Nat} {Q : State → Prop} {cc : ByteArray} {nL : Nat} {own : String} {G : Gt} {σ : Sg} {pc : Nat} {L : List (Option Value)} {st : List Value} (C : Cx p s m args c cc nL own) {index a : Nat} (ql : Cond.methodLink own index ⟨"LeanTower$Pilgrim", "mark", "(LLeanTower$Trace;)I"⟩ ∈ WA) (hI : Inv σ) (ha : a ∈ σ.2.2.2.1) (hk : σ.2.2.2.2.1 a = 4) (hpb : PNb σ a nb bb pb) (htl : (gV σ 14 0 1).toInt ≤ 14) (hR : 3 ≤ R.frames ∧ 63 ≤ R.locals) (hf : cells ≤ R.cells ∧ slots ≤ R.slots) (hW : (st.map fun v => v.category).sum ≤ 8) (d : decode cc pc = .ok (.invokevirtual index, 3)) (kk : ∀ (r : Int32) (τ : Sg), Inv τ → Fr [(14, 1)] [15] σ τ → ((r.toInt = nb + pb ∧ Tp 14 1 15 σ τ [21, 20])) → MW p l e R s m args below meth c Q nL G cells slots (pc + 3) L (.int r :: st) τ) : MW p l e R s m args below meth c Q nL G cells slots pc L (.ref (G.1 14 0) :: .ref a :: st) σ := by
  rcases hk with hk
  · refine m_callU (x := ⟨"LeanTower$Pilgrim", "mark", "(LLeanTower$Trace;)I"⟩) (owner := "LeanTower$Pilgrim") (n := 1) (As := [.ref (G.1 14 0)]) (st := st) C (c_X5_markS l G σ nb bb pb a hI ha  hpb htl) ha hk rfl (fun hK => va_cwU (owner := "LeanTower$Pilgrim") 1 C.2.2.2.2 (goodIn_app (wa_gl (List.forall_mem_cons.mpr ⟨ql, List.forall_mem_cons.mpr ⟨q4_70, List.forall_mem_cons.mpr ⟨q4_69, List.forall_mem_cons.mpr ⟨q4_68, List.forall_mem_cons.mpr ⟨q1_14, fun _ h => absurd h List.not_mem_nil⟩⟩⟩⟩⟩)) (wa_goodIn _ _ _ _ q4_80)) rfl rfl rfl rfl (by decide +kernel) ⟨Nat.le_trans (by decide) hR.1, Nat.le_trans (by decide) hR.2⟩) rfl hf rfl hW d ?_
    rintro _ τ ⟨r, rfl, i, f, _, hx⟩
    exact kk r τ i (Fr.call Fr.rf f (by decide)) (hx)

set_option maxHeartbeats 4000000 in
theorem v_pm9 {nb bb pb : Int} {p : Program} {l : Launch} {e : Env} {R : Room} {s : State} {m : MethodId} {args : Array Value} {below : List Frame} {meth : Method} {c : Code} {cells slots : Nat} {Q : State → Prop} {cc : ByteArray} {nL : Nat} {own : String} {G : Gt} {σ : Sg} {pc : Nat} {L : List (Option Value)} {st : List Value} (C : Cx p s m args c cc nL own) {index a : Nat} (ql : Cond.methodLink own index ⟨"LeanTower$Pilgrim", "mark", "(LLeanTower$Trace;)I"⟩ ∈ WA) (hI : Inv σ) (ha : a ∈ σ.2.2.2.1) (hk : σ.2.2.2.2.1 a = 9) (hpb : PNb σ a nb bb pb) (htl : (gV σ 14 0 1).toInt ≤ 13) (hR : 4 ≤ R.frames ∧ 84 ≤ R.locals) (hf : cells ≤ R.cells ∧ slots ≤ R.slots) (hW : (st.map fun v => v.category).sum ≤ 8) (d : decode cc pc = .ok (.invokevirtual index, 3)) (kk : ∀ (r : Int32) (τ : Sg), Inv τ → Fr [(14, 1)] [15] σ τ → ((r.toInt = nb + pb - 1000 ∧ Tp 14 1 15 σ τ [22, 21, 20])) → MW p l e R s m args below meth c Q nL G cells slots (pc + 3) L (.int r :: st) τ) : MW p l e R s m args below meth c Q nL G cells slots pc L (.ref (G.1 14 0) :: .ref a :: st) σ := by
  rcases hk with hk
  · refine m_callU (x := ⟨"LeanTower$Pilgrim", "mark", "(LLeanTower$Trace;)I"⟩) (owner := "LeanTower$Pilgrim") (n := 1) (As := [.ref (G.1 14 0)]) (st := st) C (c_X10_markS l G σ nb bb pb a hI ha  hpb htl) ha hk rfl (fun hK => va_cwO (owner := "LeanTower$Pilgrim") 1 C.2.2.2.2 (goodIn_app (wa_gl (List.forall_mem_cons.mpr ⟨ql, List.forall_mem_cons.mpr ⟨q4_70, List.forall_mem_cons.mpr ⟨q4_68, List.forall_mem_cons.mpr ⟨q4_75, List.forall_mem_cons.mpr ⟨q4_76, List.forall_mem_cons.mpr ⟨q1_15, fun _ h => absurd h List.not_mem_nil⟩⟩⟩⟩⟩⟩)) (wa_goodIn _ _ _ _ q4_77)) rfl rfl rfl q4_80 (by decide +kernel) ⟨Nat.le_trans (by decide) hR.1, Nat.le_trans (by decide) hR.2⟩) rfl hf rfl hW d ?_
    rintro _ τ ⟨r, rfl, i, f, _, hx⟩
    exact kk r τ i (Fr.call Fr.rf f (by decide)) (hx)

set_option maxHeartbeats 4000000 in
theorem v_pm2 {nb bb pb : Int} {p : Program} {l : Launch} {e : Env} {R : Room} {s : State} {m : MethodId} {args : Array Value} {below : List Frame} {meth : Method} {c : Code} {cells slots : Nat} {Q : State → Prop} {cc : ByteArray} {nL : Nat} {own : String} {G : Gt} {σ : Sg} {pc : Nat} {L : List (Option Value)} {st : List Value} (C : Cx p s m args c cc nL own) {index a : Nat} (ql : Cond.methodLink own index ⟨"LeanTower$Pilgrim", "mark", "(LLeanTower$Trace;)I"⟩ ∈ WA) (hI : Inv σ) (ha : a ∈ σ.2.2.2.1) (hk : σ.2.2.2.2.1 a = 2) (hpb : PNb σ a nb bb pb) (htl : (gV σ 14 0 1).toInt ≤ 13) (hR : 4 ≤ R.frames ∧ 84 ≤ R.locals) (hf : cells ≤ R.cells ∧ slots ≤ R.slots) (hW : (st.map fun v => v.category).sum ≤ 8) (d : decode cc pc = .ok (.invokevirtual index, 3)) (kk : ∀ (r : Int32) (τ : Sg), Inv τ → Fr [(14, 1)] [15] σ τ → ((r.toInt = 2 * (nb + pb) ∧ Tp 14 1 15 σ τ [24, 21, 20])) → MW p l e R s m args below meth c Q nL G cells slots (pc + 3) L (.int r :: st) τ) : MW p l e R s m args below meth c Q nL G cells slots pc L (.ref (G.1 14 0) :: .ref a :: st) σ := by
  rcases hk with hk
  · refine m_callU (x := ⟨"LeanTower$Pilgrim", "mark", "(LLeanTower$Trace;)I"⟩) (owner := "LeanTower$Pilgrim") (n := 1) (As := [.ref (G.1 14 0)]) (st := st) C (c_X2_markS l G σ nb bb pb a hI ha  hpb htl) ha hk rfl (fun hK => va_cwO (owner := "LeanTower$Pilgrim") 1 C.2.2.2.2 (goodIn_app (wa_gl (List.forall_mem_cons.mpr ⟨ql, List.forall_mem_cons.mpr ⟨q4_70, List.forall_mem_cons.mpr ⟨q4_68, List.forall_mem_cons.mpr ⟨q4_71, List.forall_mem_cons.mpr ⟨q4_72, List.forall_mem_cons.mpr ⟨q1_16, fun _ h => absurd h List.not_mem_nil⟩⟩⟩⟩⟩⟩)) (wa_goodIn _ _ _ _ q4_73)) rfl rfl rfl q4_80 (by decide +kernel) ⟨Nat.le_trans (by decide) hR.1, Nat.le_trans (by decide) hR.2⟩) rfl hf rfl hW d ?_
    rintro _ τ ⟨r, rfl, i, f, _, hx⟩
    exact kk r τ i (Fr.call Fr.rf f (by decide)) (hx)

abbrev MS_X5_sizeS_4 : List (Nat × Nat) := [(14, 1)]
abbrev AS_X5_sizeS_4 : List Nat := [15]
set_option maxHeartbeats 4000000 in
set_option maxRecDepth 100000 in
theorem c_X5_sizeS_4 (l : Launch) (G : Gt) (σ : Sg) (nb : Int) (bb : Int) (pb : Int) (a0 : Nat) (hI : Inv σ) (ha0 : a0 ∈ σ.2.2.2.1) (hk0 : σ.2.2.2.2.1 a0 = 4) (hpb : PNb σ a0 nb bb pb) (htl : (gV σ 14 0 1).toInt ≤ 12) : Mc l G yX5_size cX5_size 3 (some .int) 3 63 0 0 [.ref a0, .ref (G.1 14 0)] σ (PI fun r τ => Inv τ ∧ Fr MS_X5_sizeS_4 AS_X5_sizeS_4 σ τ ∧ IV r 1 50 ∧ (r.toInt = bb + (nb + pb) ∧ Tp 14 1 15 σ τ [11, 10, 21, 20])) := by
  refine Mc.of (L0 := [some (.ref a0), some (.ref (G.1 14 0)), none]) (by decide) (Nat.le_of_ble_eq_true rfl) rfl ?_
  intro p e s m args below meth c C hr hlk
  have C : Cx p s m args c cX5_size 3 "LeanTower$Pilgrim" := C
  have k0 : (0 : Int32).toInt = 0 := by decide
  have k1 : (1 : Int32).toInt = 1 := by decide
  have u1 : IV (gV σ 14 0 1) 0 16 := hI.1 14 0 1
  refine m_aload_n C dX5_size_0 rfl rfl ?_
  refine m_bipush (v := 11) C dX5_size_1 (by decide) ?_
  have q2 := kt_11
  refine m_callV (n := 1) (ci := 8) (st := []) C (c_X9_leaveS l G σ (11) hI (by omega)) (by decide) (by decide) rfl rfl rfl q4_52 q4_65 q4_50 q4_51 q1_4 (by decide +kernel) rfl (by decide) (by decide) rfl (Nat.le_of_ble_eq_true rfl) dX5_size_3 ?_
  rintro _ τ3 ⟨rfl, i4, f5, h9⟩
  have g8 : Fr MS_X5_sizeS_4 AS_X5_sizeS_4 σ τ3 := Fr.call (Fr.rf) f5 (by decide)
  have v10 : PNb τ3 a0 nb bb pb := hpb.eq (f5.2.2 (by decide))
  have v11 : a0 ∈ τ3.2.2.2.1 := by rw [f5.2.2 (by decide)]; exact ha0
  have v12 : τ3.2.2.2.2.1 a0 = 4 := by rw [f5.2.2 (by decide)]; exact hk0
  have v13 : Tp 14 1 15 σ τ3 [11] := h9 11 kt_11
  have q14 := v13.1
  simp only [List.length_cons, List.length_nil] at q14
  have u15 : IV (gV τ3 14 0 1) 0 16 := i4.1 14 0 1
  show MW p l e _ s m args below meth c _ 3 G 0 0 6 [some (.ref a0), some (.ref (G.1 14 0)), none] [] τ3
  refine m_aload_n C dX5_size_6 rfl rfl ?_
  refine m_aload_n C dX5_size_7 rfl rfl ?_
  refine m_callSU (n := 1) (st := []) C (c_X4_sizeS l G τ3 nb bb pb a0  i4 v11  v10 (by omega)) i4.2.2 v11 q4_88 q4_66 q4_45 q2_231 q4_44 q1_13 (by decide +kernel) rfl (by decide) (by decide) rfl (Nat.le_of_ble_eq_true rfl) dX5_size_8 ?_
  rintro _ τ16 ⟨x19, rfl, i17, f18, b22, h21⟩
  have g20 : Fr MS_X5_sizeS_4 AS_X5_sizeS_4 σ τ16 := Fr.call (g8) f18 (by decide)
  have v23 : PNb τ16 a0 nb bb pb := v10.eq (f18.2.2 (by decide))
  have v24 : a0 ∈ τ16.2.2.2.1 := by rw [f18.2.2 (by decide)]; exact v11
  have v25 : τ16.2.2.2.2.1 a0 = 4 := by rw [f18.2.2 (by decide)]; exact v12
  have v26 : Tp 14 1 15 σ τ16 [11, 10] := Tp.trans v13 (h21.2) (by omega)
  have q27 := v26.1
  simp only [List.length_cons, List.length_nil] at q27
  have u28 : IV (gV τ16 14 0 1) 0 16 := i17.1 14 0 1
  have q29 : x19.toInt = bb := h21.1
  have q30 := v23.2
  have b31 : IV x19 0 40 := ⟨by omega, by omega⟩
  show MW p l e _ s m args below meth c _ 3 G 0 0 11 [some (.ref a0), some (.ref (G.1 14 0)), none] [.int x19] τ16
  refine m_istore_n (L1 := [some (.ref a0), some (.ref (G.1 14 0)), some (.int x19)]) C dX5_size_11 rfl (by decide) rfl rfl ?_
  refine m_iload_n C dX5_size_12 rfl rfl ?_
  refine m_aload_n C dX5_size_13 rfl rfl ?_
  refine m_aload_n C dX5_size_14 rfl rfl ?_
  refine v_pm4 (st := [.int x19]) C q4_67 i17 v24 v25 v23 (by omega) (by decide) (by decide) (Nat.le_of_ble_eq_true rfl) dX5_size_15 (fun x35 τ32 i33 f34 h37 => ?_)
  have g36 : Fr MS_X5_sizeS_4 AS_X5_sizeS_4 σ τ32 := Fr.call (g20) f34 (by decide)
  have v38 : PNb τ32 a0 nb bb pb := v23.eq (f34.2.2 (by decide))
  have v39 : a0 ∈ τ32.2.2.2.1 := by rw [f34.2.2 (by decide)]; exact v24
  have v40 : τ32.2.2.2.2.1 a0 = 4 := by rw [f34.2.2 (by decide)]; exact v25
  have v41 : Tp 14 1 15 σ τ32 [11, 10, 21, 20] := Tp.trans v26 (h37.2) (by omega)
  have q42 := v41.1
  simp only [List.length_cons, List.length_nil] at q42
  have u43 : IV (gV τ32 14 0 1) 0 16 := i33.1 14 0 1
  have q44 : x35.toInt = nb + pb := h37.1
  have q45 := v38.2
  have b46 : IV x35 1 10 := ⟨by omega, by omega⟩
  show MW p l e _ s m args below meth c _ 3 G 0 0 18 [some (.ref a0), some (.ref (G.1 14 0)), some (.int x19)] [.int x35, .int x19] τ32
  refine m_iadd C dX5_size_18 ?_
  refine m_topi (fun x47 ex47 => ?_)
  have tx47 : x47.toInt = x19.toInt + x35.toInt := by rw [ex47, ti_addv b31 b46 (by decide)]
  have b48 : IV x47 1 50 := by rw [ex47]; exact iv_add b31 b46 (by decide)
  exact m_iret C hr hlk (by decide) (by decide) dX5_size_19 ⟨_, rfl, i33, g36, b48, ⟨by omega, v41⟩⟩

abbrev MS_X5_sizeS_9 : List (Nat × Nat) := [(14, 1)]
abbrev AS_X5_sizeS_9 : List Nat := [15]
set_option maxHeartbeats 4000000 in
set_option maxRecDepth 100000 in
theorem c_X5_sizeS_9 (l : Launch) (G : Gt) (σ : Sg) (nb : Int) (bb : Int) (pb : Int) (a0 : Nat) (hI : Inv σ) (ha0 : a0 ∈ σ.2.2.2.1) (hk0 : σ.2.2.2.2.1 a0 = 9) (hpb : PNb σ a0 nb bb pb) (htl : (gV σ 14 0 1).toInt ≤ 11) : Mc l G yX5_size cX5_size 3 (some .int) 4 84 0 0 [.ref a0, .ref (G.1 14 0)] σ (PI fun r τ => Inv τ ∧ Fr MS_X5_sizeS_9 AS_X5_sizeS_9 σ τ ∧ IV r (-999) (-950) ∧ (r.toInt = bb + (nb + pb - 1000) ∧ Tp 14 1 15 σ τ [11, 10, 22, 21, 20])) := by
  refine Mc.of (L0 := [some (.ref a0), some (.ref (G.1 14 0)), none]) (by decide) (Nat.le_of_ble_eq_true rfl) rfl ?_
  intro p e s m args below meth c C hr hlk
  have C : Cx p s m args c cX5_size 3 "LeanTower$Pilgrim" := C
  have k0 : (0 : Int32).toInt = 0 := by decide
  have k1 : (1 : Int32).toInt = 1 := by decide
  have u1 : IV (gV σ 14 0 1) 0 16 := hI.1 14 0 1
  refine m_aload_n C dX5_size_0 rfl rfl ?_
  refine m_bipush (v := 11) C dX5_size_1 (by decide) ?_
  have q2 := kt_11
  refine m_callV (n := 1) (ci := 8) (st := []) C (c_X9_leaveS l G σ (11) hI (by omega)) (by decide) (by decide) rfl rfl rfl q4_52 q4_65 q4_50 q4_51 q1_4 (by decide +kernel) rfl (by decide) (by decide) rfl (Nat.le_of_ble_eq_true rfl) dX5_size_3 ?_
  rintro _ τ3 ⟨rfl, i4, f5, h9⟩
  have g8 : Fr MS_X5_sizeS_9 AS_X5_sizeS_9 σ τ3 := Fr.call (Fr.rf) f5 (by decide)
  have v10 : PNb τ3 a0 nb bb pb := hpb.eq (f5.2.2 (by decide))
  have v11 : a0 ∈ τ3.2.2.2.1 := by rw [f5.2.2 (by decide)]; exact ha0
  have v12 : τ3.2.2.2.2.1 a0 = 9 := by rw [f5.2.2 (by decide)]; exact hk0
  have v13 : Tp 14 1 15 σ τ3 [11] := h9 11 kt_11
  have q14 := v13.1
  simp only [List.length_cons, List.length_nil] at q14
  have u15 : IV (gV τ3 14 0 1) 0 16 := i4.1 14 0 1
  show MW p l e _ s m args below meth c _ 3 G 0 0 6 [some (.ref a0), some (.ref (G.1 14 0)), none] [] τ3
  refine m_aload_n C dX5_size_6 rfl rfl ?_
  refine m_aload_n C dX5_size_7 rfl rfl ?_
  refine m_callSU (n := 1) (st := []) C (c_X4_sizeS l G τ3 nb bb pb a0  i4 v11  v10 (by omega)) i4.2.2 v11 q4_88 q4_66 q4_45 q2_231 q4_44 q1_13 (by decide +kernel) rfl (by decide) (by decide) rfl (Nat.le_of_ble_eq_true rfl) dX5_size_8 ?_
  rintro _ τ16 ⟨x19, rfl, i17, f18, b22, h21⟩
  have g20 : Fr MS_X5_sizeS_9 AS_X5_sizeS_9 σ τ16 := Fr.call (g8) f18 (by decide)
  have v23 : PNb τ16 a0 nb bb pb := v10.eq (f18.2.2 (by decide))
  have v24 : a0 ∈ τ16.2.2.2.1 := by rw [f18.2.2 (by decide)]; exact v11
  have v25 : τ16.2.2.2.2.1 a0 = 9 := by rw [f18.2.2 (by decide)]; exact v12
  have v26 : Tp 14 1 15 σ τ16 [11, 10] := Tp.trans v13 (h21.2) (by omega)
  have q27 := v26.1
  simp only [List.length_cons, List.length_nil] at q27
  have u28 : IV (gV τ16 14 0 1) 0 16 := i17.1 14 0 1
  have q29 : x19.toInt = bb := h21.1
  have q30 := v23.2
  have b31 : IV x19 0 40 := ⟨by omega, by omega⟩
  show MW p l e _ s m args below meth c _ 3 G 0 0 11 [some (.ref a0), some (.ref (G.1 14 0)), none] [.int x19] τ16
  refine m_istore_n (L1 := [some (.ref a0), some (.ref (G.1 14 0)), some (.int x19)]) C dX5_size_11 rfl (by decide) rfl rfl ?_
  refine m_iload_n C dX5_size_12 rfl rfl ?_
  refine m_aload_n C dX5_size_13 rfl rfl ?_
  refine m_aload_n C dX5_size_14 rfl rfl ?_
  refine v_pm9 (st := [.int x19]) C q4_67 i17 v24 v25 v23 (by omega) (by decide) (by decide) (Nat.le_of_ble_eq_true rfl) dX5_size_15 (fun x35 τ32 i33 f34 h37 => ?_)
  have g36 : Fr MS_X5_sizeS_9 AS_X5_sizeS_9 σ τ32 := Fr.call (g20) f34 (by decide)
  have v38 : PNb τ32 a0 nb bb pb := v23.eq (f34.2.2 (by decide))
  have v39 : a0 ∈ τ32.2.2.2.1 := by rw [f34.2.2 (by decide)]; exact v24
  have v40 : τ32.2.2.2.2.1 a0 = 9 := by rw [f34.2.2 (by decide)]; exact v25
  have v41 : Tp 14 1 15 σ τ32 [11, 10, 22, 21, 20] := Tp.trans v26 (h37.2) (by omega)
  have q42 := v41.1
  simp only [List.length_cons, List.length_nil] at q42
  have u43 : IV (gV τ32 14 0 1) 0 16 := i33.1 14 0 1
  have q44 : x35.toInt = nb + pb - 1000 := h37.1
  have q45 := v38.2
  have b46 : IV x35 (-999) (-990) := ⟨by omega, by omega⟩
  show MW p l e _ s m args below meth c _ 3 G 0 0 18 [some (.ref a0), some (.ref (G.1 14 0)), some (.int x19)] [.int x35, .int x19] τ32
  refine m_iadd C dX5_size_18 ?_
  refine m_topi (fun x47 ex47 => ?_)
  have tx47 : x47.toInt = x19.toInt + x35.toInt := by rw [ex47, ti_addv b31 b46 (by decide)]
  have b48 : IV x47 (-999) (-950) := by rw [ex47]; exact iv_add b31 b46 (by decide)
  exact m_iret C hr hlk (by decide) (by decide) dX5_size_19 ⟨_, rfl, i33, g36, b48, ⟨by omega, v41⟩⟩

abbrev MS_X5_sizeS_2 : List (Nat × Nat) := [(14, 1)]
abbrev AS_X5_sizeS_2 : List Nat := [15]
set_option maxHeartbeats 4000000 in
set_option maxRecDepth 100000 in
theorem c_X5_sizeS_2 (l : Launch) (G : Gt) (σ : Sg) (nb : Int) (bb : Int) (pb : Int) (a0 : Nat) (hI : Inv σ) (ha0 : a0 ∈ σ.2.2.2.1) (hk0 : σ.2.2.2.2.1 a0 = 2) (hpb : PNb σ a0 nb bb pb) (htl : (gV σ 14 0 1).toInt ≤ 11) : Mc l G yX5_size cX5_size 3 (some .int) 4 84 0 0 [.ref a0, .ref (G.1 14 0)] σ (PI fun r τ => Inv τ ∧ Fr MS_X5_sizeS_2 AS_X5_sizeS_2 σ τ ∧ IV r 0 60 ∧ (r.toInt = bb + 2 * (nb + pb) ∧ Tp 14 1 15 σ τ [11, 10, 24, 21, 20])) := by
  refine Mc.of (L0 := [some (.ref a0), some (.ref (G.1 14 0)), none]) (by decide) (Nat.le_of_ble_eq_true rfl) rfl ?_
  intro p e s m args below meth c C hr hlk
  have C : Cx p s m args c cX5_size 3 "LeanTower$Pilgrim" := C
  have k0 : (0 : Int32).toInt = 0 := by decide
  have k1 : (1 : Int32).toInt = 1 := by decide
  have u1 : IV (gV σ 14 0 1) 0 16 := hI.1 14 0 1
  refine m_aload_n C dX5_size_0 rfl rfl ?_
  refine m_bipush (v := 11) C dX5_size_1 (by decide) ?_
  have q2 := kt_11
  refine m_callV (n := 1) (ci := 8) (st := []) C (c_X9_leaveS l G σ (11) hI (by omega)) (by decide) (by decide) rfl rfl rfl q4_52 q4_65 q4_50 q4_51 q1_4 (by decide +kernel) rfl (by decide) (by decide) rfl (Nat.le_of_ble_eq_true rfl) dX5_size_3 ?_
  rintro _ τ3 ⟨rfl, i4, f5, h9⟩
  have g8 : Fr MS_X5_sizeS_2 AS_X5_sizeS_2 σ τ3 := Fr.call (Fr.rf) f5 (by decide)
  have v10 : PNb τ3 a0 nb bb pb := hpb.eq (f5.2.2 (by decide))
  have v11 : a0 ∈ τ3.2.2.2.1 := by rw [f5.2.2 (by decide)]; exact ha0
  have v12 : τ3.2.2.2.2.1 a0 = 2 := by rw [f5.2.2 (by decide)]; exact hk0
  have v13 : Tp 14 1 15 σ τ3 [11] := h9 11 kt_11
  have q14 := v13.1
  simp only [List.length_cons, List.length_nil] at q14
  have u15 : IV (gV τ3 14 0 1) 0 16 := i4.1 14 0 1
  show MW p l e _ s m args below meth c _ 3 G 0 0 6 [some (.ref a0), some (.ref (G.1 14 0)), none] [] τ3
  refine m_aload_n C dX5_size_6 rfl rfl ?_
  refine m_aload_n C dX5_size_7 rfl rfl ?_
  refine m_callSU (n := 1) (st := []) C (c_X4_sizeS l G τ3 nb bb pb a0  i4 v11  v10 (by omega)) i4.2.2 v11 q4_88 q4_66 q4_45 q2_231 q4_44 q1_13 (by decide +kernel) rfl (by decide) (by decide) rfl (Nat.le_of_ble_eq_true rfl) dX5_size_8 ?_
  rintro _ τ16 ⟨x19, rfl, i17, f18, b22, h21⟩
  have g20 : Fr MS_X5_sizeS_2 AS_X5_sizeS_2 σ τ16 := Fr.call (g8) f18 (by decide)
  have v23 : PNb τ16 a0 nb bb pb := v10.eq (f18.2.2 (by decide))
  have v24 : a0 ∈ τ16.2.2.2.1 := by rw [f18.2.2 (by decide)]; exact v11
  have v25 : τ16.2.2.2.2.1 a0 = 2 := by rw [f18.2.2 (by decide)]; exact v12
  have v26 : Tp 14 1 15 σ τ16 [11, 10] := Tp.trans v13 (h21.2) (by omega)
  have q27 := v26.1
  simp only [List.length_cons, List.length_nil] at q27
  have u28 : IV (gV τ16 14 0 1) 0 16 := i17.1 14 0 1
  have q29 : x19.toInt = bb := h21.1
  have q30 := v23.2
  have b31 : IV x19 0 40 := ⟨by omega, by omega⟩
  show MW p l e _ s m args below meth c _ 3 G 0 0 11 [some (.ref a0), some (.ref (G.1 14 0)), none] [.int x19] τ16
  refine m_istore_n (L1 := [some (.ref a0), some (.ref (G.1 14 0)), some (.int x19)]) C dX5_size_11 rfl (by decide) rfl rfl ?_
  refine m_iload_n C dX5_size_12 rfl rfl ?_
  refine m_aload_n C dX5_size_13 rfl rfl ?_
  refine m_aload_n C dX5_size_14 rfl rfl ?_
  refine v_pm2 (st := [.int x19]) C q4_67 i17 v24 v25 v23 (by omega) (by decide) (by decide) (Nat.le_of_ble_eq_true rfl) dX5_size_15 (fun x35 τ32 i33 f34 h37 => ?_)
  have g36 : Fr MS_X5_sizeS_2 AS_X5_sizeS_2 σ τ32 := Fr.call (g20) f34 (by decide)
  have v38 : PNb τ32 a0 nb bb pb := v23.eq (f34.2.2 (by decide))
  have v39 : a0 ∈ τ32.2.2.2.1 := by rw [f34.2.2 (by decide)]; exact v24
  have v40 : τ32.2.2.2.2.1 a0 = 2 := by rw [f34.2.2 (by decide)]; exact v25
  have v41 : Tp 14 1 15 σ τ32 [11, 10, 24, 21, 20] := Tp.trans v26 (h37.2) (by omega)
  have q42 := v41.1
  simp only [List.length_cons, List.length_nil] at q42
  have u43 : IV (gV τ32 14 0 1) 0 16 := i33.1 14 0 1
  have q44 : x35.toInt = 2 * (nb + pb) := h37.1
  have q45 := v38.2
  have b46 : IV x35 0 20 := ⟨by omega, by omega⟩
  show MW p l e _ s m args below meth c _ 3 G 0 0 18 [some (.ref a0), some (.ref (G.1 14 0)), some (.int x19)] [.int x35, .int x19] τ32
  refine m_iadd C dX5_size_18 ?_
  refine m_topi (fun x47 ex47 => ?_)
  have tx47 : x47.toInt = x19.toInt + x35.toInt := by rw [ex47, ti_addv b31 b46 (by decide)]
  have b48 : IV x47 0 60 := by rw [ex47]; exact iv_add b31 b46 (by decide)
  exact m_iret C hr hlk (by decide) (by decide) dX5_size_19 ⟨_, rfl, i33, g36, b48, ⟨by omega, v41⟩⟩

abbrev MS_X2_sizeS : List (Nat × Nat) := [(14, 1)]
abbrev AS_X2_sizeS : List Nat := [15]
set_option maxHeartbeats 4000000 in
set_option maxRecDepth 100000 in
theorem c_X2_sizeS (l : Launch) (G : Gt) (σ : Sg) (nb : Int) (bb : Int) (pb : Int) (a0 : Nat) (hI : Inv σ) (ha0 : a0 ∈ σ.2.2.2.1) (hk0 : σ.2.2.2.2.1 a0 = 2) (hpb : PNb σ a0 nb bb pb) (htl : (gV σ 14 0 1).toInt ≤ 10) : Mc l G yX2_size cX2_size 2 (some .int) 5 106 0 0 [.ref a0, .ref (G.1 14 0)] σ (PI fun r τ => Inv τ ∧ Fr MS_X2_sizeS AS_X2_sizeS σ τ ∧ IV r (-60) 0 ∧ (r.toInt = -(bb + 2 * (nb + pb)) ∧ Tp 14 1 15 σ τ [12, 11, 10, 24, 21, 20])) := by
  refine Mc.of (L0 := [some (.ref a0), some (.ref (G.1 14 0))]) (by decide) (Nat.le_of_ble_eq_true rfl) rfl ?_
  intro p e s m args below meth c C hr hlk
  have C : Cx p s m args c cX2_size 2 "LeanTower$Boy" := C
  have k0 : (0 : Int32).toInt = 0 := by decide
  have k1 : (1 : Int32).toInt = 1 := by decide
  have u1 : IV (gV σ 14 0 1) 0 16 := hI.1 14 0 1
  refine m_aload_n C dX2_size_0 rfl rfl ?_
  refine m_bipush (v := 12) C dX2_size_1 (by decide) ?_
  have q2 := kt_12
  refine m_callV (n := 1) (ci := 8) (st := []) C (c_X9_leaveS l G σ (12) hI (by omega)) (by decide) (by decide) rfl rfl rfl q4_52 q4_61 q4_50 q4_51 q1_4 (by decide +kernel) rfl (by decide) (by decide) rfl (Nat.le_of_ble_eq_true rfl) dX2_size_3 ?_
  rintro _ τ3 ⟨rfl, i4, f5, h9⟩
  have g8 : Fr MS_X2_sizeS AS_X2_sizeS σ τ3 := Fr.call (Fr.rf) f5 (by decide)
  have v10 : PNb τ3 a0 nb bb pb := hpb.eq (f5.2.2 (by decide))
  have v11 : a0 ∈ τ3.2.2.2.1 := by rw [f5.2.2 (by decide)]; exact ha0
  have v12 : τ3.2.2.2.2.1 a0 = 2 := by rw [f5.2.2 (by decide)]; exact hk0
  have v13 : Tp 14 1 15 σ τ3 [12] := h9 12 kt_12
  have q14 := v13.1
  simp only [List.length_cons, List.length_nil] at q14
  have u15 : IV (gV τ3 14 0 1) 0 16 := i4.1 14 0 1
  show MW p l e _ s m args below meth c _ 2 G 0 0 6 [some (.ref a0), some (.ref (G.1 14 0))] [] τ3
  refine m_aload_n C dX2_size_6 rfl rfl ?_
  refine m_aload_n C dX2_size_7 rfl rfl ?_
  refine m_callSU (n := 1) (st := []) C (c_X5_sizeS_2 l G τ3 nb bb pb a0  i4 v11 (v12) v10 (by omega)) i4.2.2 v11 q4_64 q4_62 q5_224 q2_204 q4_63 q1_14 (by decide +kernel) rfl (by decide) (by decide) rfl (Nat.le_of_ble_eq_true rfl) dX2_size_8 ?_
  rintro _ τ16 ⟨x19, rfl, i17, f18, b22, h21⟩
  have g20 : Fr MS_X2_sizeS AS_X2_sizeS σ τ16 := Fr.call (g8) f18 (by decide)
  have v23 : PNb τ16 a0 nb bb pb := v10.eq (f18.2.2 (by decide))
  have v24 : a0 ∈ τ16.2.2.2.1 := by rw [f18.2.2 (by decide)]; exact v11
  have v25 : τ16.2.2.2.2.1 a0 = 2 := by rw [f18.2.2 (by decide)]; exact v12
  have v26 : Tp 14 1 15 σ τ16 [12, 11, 10, 24, 21, 20] := Tp.trans v13 (h21.2) (by omega)
  have q27 := v26.1
  simp only [List.length_cons, List.length_nil] at q27
  have u28 : IV (gV τ16 14 0 1) 0 16 := i17.1 14 0 1
  have q29 : x19.toInt = bb + 2 * (nb + pb) := h21.1
  have q30 := v23.2
  have b31 : IV x19 0 60 := ⟨by omega, by omega⟩
  show MW p l e _ s m args below meth c _ 2 G 0 0 11 [some (.ref a0), some (.ref (G.1 14 0))] [.int x19] τ16
  refine m_ineg C dX2_size_11 ?_
  refine m_topi (fun x32 ex32 => ?_)
  have q34 : x32.toInt = -x19.toInt := by rw [ex32]; exact ti_negv b31 (by decide)
  have b33 : IV x32 (-60) 0 := ⟨by omega, by omega⟩
  exact m_iret C hr hlk (by decide) (by decide) dX2_size_12 ⟨_, rfl, i17, g20, b33, ⟨by omega, v26⟩⟩

abbrev MS_X3_sizeS : List (Nat × Nat) := [(14, 1)]
abbrev AS_X3_sizeS : List Nat := [15]
set_option maxHeartbeats 4000000 in
set_option maxRecDepth 100000 in
theorem c_X3_sizeS (l : Launch) (G : Gt) (σ : Sg) (nb : Int) (bb : Int) (pb : Int) (a0 : Nat) (hI : Inv σ) (ha0 : a0 ∈ σ.2.2.2.1) (hpb : PNb σ a0 nb bb pb) (htl : (gV σ 14 0 1).toInt ≤ 14) : Mc l G yX3_size cX3_size 2 (some .int) 2 42 0 0 [.ref a0, .ref (G.1 14 0)] σ (PI fun r τ => Inv τ ∧ Fr MS_X3_sizeS AS_X3_sizeS σ τ ∧ IV r (-100) (-60) ∧ (r.toInt = bb - 100 ∧ Tp 14 1 15 σ τ [13, 10])) := by
  refine Mc.of (L0 := [some (.ref a0), some (.ref (G.1 14 0))]) (by decide) (Nat.le_of_ble_eq_true rfl) rfl ?_
  intro p e s m args below meth c C hr hlk
  have C : Cx p s m args c cX3_size 2 "LeanTower$Monk" := C
  have k0 : (0 : Int32).toInt = 0 := by decide
  have k1 : (1 : Int32).toInt = 1 := by decide
  have u1 : IV (gV σ 14 0 1) 0 16 := hI.1 14 0 1
  refine m_aload_n C dX3_size_0 rfl rfl ?_
  refine m_bipush (v := 13) C dX3_size_1 (by decide) ?_
  have q2 := kt_13
  refine m_callV (n := 1) (ci := 8) (st := []) C (c_X9_leaveS l G σ (13) hI (by omega)) (by decide) (by decide) rfl rfl rfl q4_52 q4_56 q4_50 q4_51 q1_4 (by decide +kernel) rfl (by decide) (by decide) rfl (Nat.le_of_ble_eq_true rfl) dX3_size_3 ?_
  rintro _ τ3 ⟨rfl, i4, f5, h9⟩
  have g8 : Fr MS_X3_sizeS AS_X3_sizeS σ τ3 := Fr.call (Fr.rf) f5 (by decide)
  have v10 : PNb τ3 a0 nb bb pb := hpb.eq (f5.2.2 (by decide))
  have v11 : a0 ∈ τ3.2.2.2.1 := by rw [f5.2.2 (by decide)]; exact ha0
  have v12 : Tp 14 1 15 σ τ3 [13] := h9 13 kt_13
  have q13 := v12.1
  simp only [List.length_cons, List.length_nil] at q13
  have u14 : IV (gV τ3 14 0 1) 0 16 := i4.1 14 0 1
  show MW p l e _ s m args below meth c _ 2 G 0 0 6 [some (.ref a0), some (.ref (G.1 14 0))] [] τ3
  refine m_aload_n C dX3_size_6 rfl rfl ?_
  refine m_aload_n C dX3_size_7 rfl rfl ?_
  refine m_callSU (n := 1) (st := []) C (c_X4_sizeS l G τ3 nb bb pb a0  i4 v11  v10 (by omega)) i4.2.2 v11 q4_88 q4_57 q4_45 q2_214 q4_44 q1_13 (by decide +kernel) rfl (by decide) (by decide) rfl (Nat.le_of_ble_eq_true rfl) dX3_size_8 ?_
  rintro _ τ15 ⟨x18, rfl, i16, f17, b21, h20⟩
  have g19 : Fr MS_X3_sizeS AS_X3_sizeS σ τ15 := Fr.call (g8) f17 (by decide)
  have v22 : PNb τ15 a0 nb bb pb := v10.eq (f17.2.2 (by decide))
  have v23 : a0 ∈ τ15.2.2.2.1 := by rw [f17.2.2 (by decide)]; exact v11
  have v24 : Tp 14 1 15 σ τ15 [13, 10] := Tp.trans v12 (h20.2) (by omega)
  have q25 := v24.1
  simp only [List.length_cons, List.length_nil] at q25
  have u26 : IV (gV τ15 14 0 1) 0 16 := i16.1 14 0 1
  have q27 : x18.toInt = bb := h20.1
  have q28 := v22.2
  have b29 : IV x18 0 40 := ⟨by omega, by omega⟩
  show MW p l e _ s m args below meth c _ 2 G 0 0 11 [some (.ref a0), some (.ref (G.1 14 0))] [.int x18] τ15
  refine m_bipush (v := 100) C dX3_size_11 (by decide) ?_
  refine m_isub C dX3_size_13 ?_
  refine m_topi (fun x30 ex30 => ?_)
  have tx30 : x30.toInt = x18.toInt - 100 := by rw [ex30, ti_subv b29 kc_100 (by decide), kt_100]
  have b31 : IV x30 (-100) (-60) := by rw [ex30]; exact iv_sub b29 kc_100 (by decide)
  exact m_iret C hr hlk (by decide) (by decide) dX3_size_14 ⟨_, rfl, i16, g19, b31, ⟨by omega, v24⟩⟩

abbrev MS_X1_sizeS : List (Nat × Nat) := [(14, 1)]
abbrev AS_X1_sizeS : List Nat := [15]
set_option maxHeartbeats 4000000 in
set_option maxRecDepth 100000 in
theorem c_X1_sizeS (l : Launch) (G : Gt) (σ : Sg) (nb : Int) (bb : Int) (pb : Int) (a0 : Nat) (hI : Inv σ) (ha0 : a0 ∈ σ.2.2.2.1) (hpb : PNb σ a0 nb bb pb) (htl : (gV σ 14 0 1).toInt ≤ 13) : Mc l G yX1_size cX1_size 2 (some .int) 3 63 0 0 [.ref a0, .ref (G.1 14 0)] σ (PI fun r τ => Inv τ ∧ Fr MS_X1_sizeS AS_X1_sizeS σ τ ∧ IV r (-200) (-120) ∧ (r.toInt = 2 * (bb - 100) ∧ Tp 14 1 15 σ τ [14, 13, 10])) := by
  refine Mc.of (L0 := [some (.ref a0), some (.ref (G.1 14 0))]) (by decide) (Nat.le_of_ble_eq_true rfl) rfl ?_
  intro p e s m args below meth c C hr hlk
  have C : Cx p s m args c cX1_size 2 "LeanTower$Bishop" := C
  have k0 : (0 : Int32).toInt = 0 := by decide
  have k1 : (1 : Int32).toInt = 1 := by decide
  have u1 : IV (gV σ 14 0 1) 0 16 := hI.1 14 0 1
  refine m_aload_n C dX1_size_0 rfl rfl ?_
  refine m_bipush (v := 14) C dX1_size_1 (by decide) ?_
  have q2 := kt_14
  refine m_callV (n := 1) (ci := 8) (st := []) C (c_X9_leaveS l G σ (14) hI (by omega)) (by decide) (by decide) rfl rfl rfl q4_52 q4_49 q4_50 q4_51 q1_4 (by decide +kernel) rfl (by decide) (by decide) rfl (Nat.le_of_ble_eq_true rfl) dX1_size_3 ?_
  rintro _ τ3 ⟨rfl, i4, f5, h9⟩
  have g8 : Fr MS_X1_sizeS AS_X1_sizeS σ τ3 := Fr.call (Fr.rf) f5 (by decide)
  have v10 : PNb τ3 a0 nb bb pb := hpb.eq (f5.2.2 (by decide))
  have v11 : a0 ∈ τ3.2.2.2.1 := by rw [f5.2.2 (by decide)]; exact ha0
  have v12 : Tp 14 1 15 σ τ3 [14] := h9 14 kt_14
  have q13 := v12.1
  simp only [List.length_cons, List.length_nil] at q13
  have u14 : IV (gV τ3 14 0 1) 0 16 := i4.1 14 0 1
  show MW p l e _ s m args below meth c _ 2 G 0 0 6 [some (.ref a0), some (.ref (G.1 14 0))] [] τ3
  refine m_iconst (v := 2) C dX1_size_6 (by decide) ?_
  refine m_aload_n C dX1_size_7 rfl rfl ?_
  refine m_aload_n C dX1_size_8 rfl rfl ?_
  refine m_callSU (n := 1) (st := [.int 2]) C (c_X3_sizeS l G τ3 nb bb pb a0  i4 v11  v10 (by omega)) i4.2.2 v11 q4_55 q4_53 q5_223 q2_224 q4_54 q1_17 (by decide +kernel) rfl (by decide) (by decide) rfl (Nat.le_of_ble_eq_true rfl) dX1_size_9 ?_
  rintro _ τ15 ⟨x18, rfl, i16, f17, b21, h20⟩
  have g19 : Fr MS_X1_sizeS AS_X1_sizeS σ τ15 := Fr.call (g8) f17 (by decide)
  have v22 : PNb τ15 a0 nb bb pb := v10.eq (f17.2.2 (by decide))
  have v23 : a0 ∈ τ15.2.2.2.1 := by rw [f17.2.2 (by decide)]; exact v11
  have v24 : Tp 14 1 15 σ τ15 [14, 13, 10] := Tp.trans v12 (h20.2) (by omega)
  have q25 := v24.1
  simp only [List.length_cons, List.length_nil] at q25
  have u26 : IV (gV τ15 14 0 1) 0 16 := i16.1 14 0 1
  have q27 : x18.toInt = bb - 100 := h20.1
  have q28 := v22.2
  have b29 : IV x18 (-100) (-60) := ⟨by omega, by omega⟩
  show MW p l e _ s m args below meth c _ 2 G 0 0 12 [some (.ref a0), some (.ref (G.1 14 0))] [.int x18, .int 2] τ15
  refine m_imul C dX1_size_12 ?_
  refine m_topi (fun x30 ex30 => ?_)
  have q32 : x30.toInt = 2 * x18.toInt := by rw [ex30]; exact ti_dbl b29 (by decide)
  have b31 : IV x30 (-200) (-120) := ⟨by omega, by omega⟩
  exact m_iret C hr hlk (by decide) (by decide) dX1_size_13 ⟨_, rfl, i16, g19, b31, ⟨by omega, v24⟩⟩

set_option maxHeartbeats 4000000 in
theorem v_ms3 {nb bb pb : Int} {p : Program} {l : Launch} {e : Env} {R : Room} {s : State} {m : MethodId} {args : Array Value} {below : List Frame} {meth : Method} {c : Code} {cells slots : Nat} {Q : State → Prop} {cc : ByteArray} {nL : Nat} {own : String} {G : Gt} {σ : Sg} {pc : Nat} {L : List (Option Value)} {st : List Value} (C : Cx p s m args c cc nL own) {index a : Nat} (ql : Cond.methodLink own index ⟨"LeanTower$Monk", "size", "(LLeanTower$Trace;)I"⟩ ∈ WA) (hI : Inv σ) (ha : a ∈ σ.2.2.2.1) (hk : σ.2.2.2.2.1 a = 3) (hpb : PNb σ a nb bb pb) (htl : (gV σ 14 0 1).toInt ≤ 14) (hR : 3 ≤ R.frames ∧ 63 ≤ R.locals) (hf : cells ≤ R.cells ∧ slots ≤ R.slots) (hW : (st.map fun v => v.category).sum ≤ 8) (d : decode cc pc = .ok (.invokevirtual index, 3)) (kk : ∀ (r : Int32) (τ : Sg), Inv τ → Fr [(14, 1)] [15] σ τ → ((r.toInt = bb - 100 ∧ Tp 14 1 15 σ τ [13, 10])) → MW p l e R s m args below meth c Q nL G cells slots (pc + 3) L (.int r :: st) τ) : MW p l e R s m args below meth c Q nL G cells slots pc L (.ref (G.1 14 0) :: .ref a :: st) σ := by
  rcases hk with hk
  · refine m_callU (x := ⟨"LeanTower$Monk", "size", "(LLeanTower$Trace;)I"⟩) (owner := "LeanTower$Monk") (n := 1) (As := [.ref (G.1 14 0)]) (st := st) C (c_X3_sizeS l G σ nb bb pb a hI ha  hpb htl) ha hk rfl (fun hK => va_cwU (owner := "LeanTower$Monk") 1 C.2.2.2.2 (goodIn_app (wa_gl (List.forall_mem_cons.mpr ⟨ql, List.forall_mem_cons.mpr ⟨q5_223, List.forall_mem_cons.mpr ⟨q5_228, List.forall_mem_cons.mpr ⟨q4_54, List.forall_mem_cons.mpr ⟨q1_17, fun _ h => absurd h List.not_mem_nil⟩⟩⟩⟩⟩)) (wa_goodIn _ _ _ _ q4_55)) rfl rfl rfl rfl (by decide +kernel) ⟨Nat.le_trans (by decide) hR.1, Nat.le_trans (by decide) hR.2⟩) rfl hf rfl hW d ?_
    rintro _ τ ⟨r, rfl, i, f, _, hx⟩
    exact kk r τ i (Fr.call Fr.rf f (by decide)) (hx)

set_option maxHeartbeats 4000000 in
theorem v_ms1 {nb bb pb : Int} {p : Program} {l : Launch} {e : Env} {R : Room} {s : State} {m : MethodId} {args : Array Value} {below : List Frame} {meth : Method} {c : Code} {cells slots : Nat} {Q : State → Prop} {cc : ByteArray} {nL : Nat} {own : String} {G : Gt} {σ : Sg} {pc : Nat} {L : List (Option Value)} {st : List Value} (C : Cx p s m args c cc nL own) {index a : Nat} (ql : Cond.methodLink own index ⟨"LeanTower$Monk", "size", "(LLeanTower$Trace;)I"⟩ ∈ WA) (hI : Inv σ) (ha : a ∈ σ.2.2.2.1) (hk : σ.2.2.2.2.1 a = 1) (hpb : PNb σ a nb bb pb) (htl : (gV σ 14 0 1).toInt ≤ 13) (hR : 4 ≤ R.frames ∧ 84 ≤ R.locals) (hf : cells ≤ R.cells ∧ slots ≤ R.slots) (hW : (st.map fun v => v.category).sum ≤ 8) (d : decode cc pc = .ok (.invokevirtual index, 3)) (kk : ∀ (r : Int32) (τ : Sg), Inv τ → Fr [(14, 1)] [15] σ τ → ((r.toInt = 2 * (bb - 100) ∧ Tp 14 1 15 σ τ [14, 13, 10])) → MW p l e R s m args below meth c Q nL G cells slots (pc + 3) L (.int r :: st) τ) : MW p l e R s m args below meth c Q nL G cells slots pc L (.ref (G.1 14 0) :: .ref a :: st) σ := by
  rcases hk with hk
  · refine m_callU (x := ⟨"LeanTower$Monk", "size", "(LLeanTower$Trace;)I"⟩) (owner := "LeanTower$Monk") (n := 1) (As := [.ref (G.1 14 0)]) (st := st) C (c_X1_sizeS l G σ nb bb pb a hI ha  hpb htl) ha hk rfl (fun hK => va_cwO (owner := "LeanTower$Monk") 1 C.2.2.2.2 (goodIn_app (wa_gl (List.forall_mem_cons.mpr ⟨ql, List.forall_mem_cons.mpr ⟨q5_223, List.forall_mem_cons.mpr ⟨q4_54, List.forall_mem_cons.mpr ⟨q5_227, List.forall_mem_cons.mpr ⟨q4_47, List.forall_mem_cons.mpr ⟨q1_18, fun _ h => absurd h List.not_mem_nil⟩⟩⟩⟩⟩⟩)) (wa_goodIn _ _ _ _ q4_48)) rfl rfl rfl q4_55 (by decide +kernel) ⟨Nat.le_trans (by decide) hR.1, Nat.le_trans (by decide) hR.2⟩) rfl hf rfl hW d ?_
    rintro _ τ ⟨r, rfl, i, f, _, hx⟩
    exact kk r τ i (Fr.call Fr.rf f (by decide)) (hx)

abbrev MS_X3_markS_3 : List (Nat × Nat) := [(14, 1)]
abbrev AS_X3_markS_3 : List Nat := [15]
set_option maxHeartbeats 4000000 in
set_option maxRecDepth 100000 in
theorem c_X3_markS_3 (l : Launch) (G : Gt) (σ : Sg) (nb : Int) (bb : Int) (pb : Int) (a0 : Nat) (hI : Inv σ) (ha0 : a0 ∈ σ.2.2.2.1) (hk0 : σ.2.2.2.2.1 a0 = 3) (hpb : PNb σ a0 nb bb pb) (htl : (gV σ 14 0 1).toInt ≤ 12) : Mc l G yX3_mark cX3_mark 3 (some .int) 3 63 0 0 [.ref a0, .ref (G.1 14 0)] σ (PI fun r τ => Inv τ ∧ Fr MS_X3_markS_3 AS_X3_markS_3 σ τ ∧ IV r 60 106 ∧ (r.toInt = nb - (bb - 100) ∧ Tp 14 1 15 σ τ [23, 20, 13, 10])) := by
  refine Mc.of (L0 := [some (.ref a0), some (.ref (G.1 14 0)), none]) (by decide) (Nat.le_of_ble_eq_true rfl) rfl ?_
  intro p e s m args below meth c C hr hlk
  have C : Cx p s m args c cX3_mark 3 "LeanTower$Monk" := C
  have k0 : (0 : Int32).toInt = 0 := by decide
  have k1 : (1 : Int32).toInt = 1 := by decide
  have u1 : IV (gV σ 14 0 1) 0 16 := hI.1 14 0 1
  refine m_aload_n C dX3_mark_0 rfl rfl ?_
  refine m_bipush (v := 23) C dX3_mark_1 (by decide) ?_
  have q2 := kt_23
  refine m_callV (n := 1) (ci := 8) (st := []) C (c_X9_leaveS l G σ (23) hI (by omega)) (by decide) (by decide) rfl rfl rfl q4_52 q4_56 q4_50 q4_51 q1_4 (by decide +kernel) rfl (by decide) (by decide) rfl (Nat.le_of_ble_eq_true rfl) dX3_mark_3 ?_
  rintro _ τ3 ⟨rfl, i4, f5, h9⟩
  have g8 : Fr MS_X3_markS_3 AS_X3_markS_3 σ τ3 := Fr.call (Fr.rf) f5 (by decide)
  have v10 : PNb τ3 a0 nb bb pb := hpb.eq (f5.2.2 (by decide))
  have v11 : a0 ∈ τ3.2.2.2.1 := by rw [f5.2.2 (by decide)]; exact ha0
  have v12 : τ3.2.2.2.2.1 a0 = 3 := by rw [f5.2.2 (by decide)]; exact hk0
  have v13 : Tp 14 1 15 σ τ3 [23] := h9 23 kt_23
  have q14 := v13.1
  simp only [List.length_cons, List.length_nil] at q14
  have u15 : IV (gV τ3 14 0 1) 0 16 := i4.1 14 0 1
  show MW p l e _ s m args below meth c _ 3 G 0 0 6 [some (.ref a0), some (.ref (G.1 14 0)), none] [] τ3
  refine m_aload_n C dX3_mark_6 rfl rfl ?_
  refine m_aload_n C dX3_mark_7 rfl rfl ?_
  refine m_callSU (n := 1) (st := []) C (c_X4_markS l G τ3 nb bb pb a0  i4 v11  v10 (by omega)) i4.2.2 v11 q4_83 q4_92 q5_225 q2_214 q4_82 q1_13 (by decide +kernel) rfl (by decide) (by decide) rfl (Nat.le_of_ble_eq_true rfl) dX3_mark_8 ?_
  rintro _ τ16 ⟨x19, rfl, i17, f18, b22, h21⟩
  have g20 : Fr MS_X3_markS_3 AS_X3_markS_3 σ τ16 := Fr.call (g8) f18 (by decide)
  have v23 : PNb τ16 a0 nb bb pb := v10.eq (f18.2.2 (by decide))
  have v24 : a0 ∈ τ16.2.2.2.1 := by rw [f18.2.2 (by decide)]; exact v11
  have v25 : τ16.2.2.2.2.1 a0 = 3 := by rw [f18.2.2 (by decide)]; exact v12
  have v26 : Tp 14 1 15 σ τ16 [23, 20] := Tp.trans v13 (h21.2) (by omega)
  have q27 := v26.1
  simp only [List.length_cons, List.length_nil] at q27
  have u28 : IV (gV τ16 14 0 1) 0 16 := i17.1 14 0 1
  have q29 : x19.toInt = nb := h21.1
  have q30 := v23.2
  have b31 : IV x19 0 6 := ⟨by omega, by omega⟩
  show MW p l e _ s m args below meth c _ 3 G 0 0 11 [some (.ref a0), some (.ref (G.1 14 0)), none] [.int x19] τ16
  refine m_istore_n (L1 := [some (.ref a0), some (.ref (G.1 14 0)), some (.int x19)]) C dX3_mark_11 rfl (by decide) rfl rfl ?_
  refine m_iload_n C dX3_mark_12 rfl rfl ?_
  refine m_aload_n C dX3_mark_13 rfl rfl ?_
  refine m_aload_n C dX3_mark_14 rfl rfl ?_
  refine v_ms3 (st := [.int x19]) C q4_93 i17 v24 v25 v23 (by omega) (by decide) (by decide) (Nat.le_of_ble_eq_true rfl) dX3_mark_15 (fun x35 τ32 i33 f34 h37 => ?_)
  have g36 : Fr MS_X3_markS_3 AS_X3_markS_3 σ τ32 := Fr.call (g20) f34 (by decide)
  have v38 : PNb τ32 a0 nb bb pb := v23.eq (f34.2.2 (by decide))
  have v39 : a0 ∈ τ32.2.2.2.1 := by rw [f34.2.2 (by decide)]; exact v24
  have v40 : τ32.2.2.2.2.1 a0 = 3 := by rw [f34.2.2 (by decide)]; exact v25
  have v41 : Tp 14 1 15 σ τ32 [23, 20, 13, 10] := Tp.trans v26 (h37.2) (by omega)
  have q42 := v41.1
  simp only [List.length_cons, List.length_nil] at q42
  have u43 : IV (gV τ32 14 0 1) 0 16 := i33.1 14 0 1
  have q44 : x35.toInt = bb - 100 := h37.1
  have q45 := v38.2
  have b46 : IV x35 (-100) (-60) := ⟨by omega, by omega⟩
  show MW p l e _ s m args below meth c _ 3 G 0 0 18 [some (.ref a0), some (.ref (G.1 14 0)), some (.int x19)] [.int x35, .int x19] τ32
  refine m_isub C dX3_mark_18 ?_
  refine m_topi (fun x47 ex47 => ?_)
  have tx47 : x47.toInt = x19.toInt - x35.toInt := by rw [ex47, ti_subv b31 b46 (by decide)]
  have b48 : IV x47 60 106 := by rw [ex47]; exact iv_sub b31 b46 (by decide)
  exact m_iret C hr hlk (by decide) (by decide) dX3_mark_19 ⟨_, rfl, i33, g36, b48, ⟨by omega, v41⟩⟩

abbrev MS_X3_markS_1 : List (Nat × Nat) := [(14, 1)]
abbrev AS_X3_markS_1 : List Nat := [15]
set_option maxHeartbeats 4000000 in
set_option maxRecDepth 100000 in
theorem c_X3_markS_1 (l : Launch) (G : Gt) (σ : Sg) (nb : Int) (bb : Int) (pb : Int) (a0 : Nat) (hI : Inv σ) (ha0 : a0 ∈ σ.2.2.2.1) (hk0 : σ.2.2.2.2.1 a0 = 1) (hpb : PNb σ a0 nb bb pb) (htl : (gV σ 14 0 1).toInt ≤ 11) : Mc l G yX3_mark cX3_mark 3 (some .int) 4 84 0 0 [.ref a0, .ref (G.1 14 0)] σ (PI fun r τ => Inv τ ∧ Fr MS_X3_markS_1 AS_X3_markS_1 σ τ ∧ IV r 120 206 ∧ (r.toInt = nb - 2 * (bb - 100) ∧ Tp 14 1 15 σ τ [23, 20, 14, 13, 10])) := by
  refine Mc.of (L0 := [some (.ref a0), some (.ref (G.1 14 0)), none]) (by decide) (Nat.le_of_ble_eq_true rfl) rfl ?_
  intro p e s m args below meth c C hr hlk
  have C : Cx p s m args c cX3_mark 3 "LeanTower$Monk" := C
  have k0 : (0 : Int32).toInt = 0 := by decide
  have k1 : (1 : Int32).toInt = 1 := by decide
  have u1 : IV (gV σ 14 0 1) 0 16 := hI.1 14 0 1
  refine m_aload_n C dX3_mark_0 rfl rfl ?_
  refine m_bipush (v := 23) C dX3_mark_1 (by decide) ?_
  have q2 := kt_23
  refine m_callV (n := 1) (ci := 8) (st := []) C (c_X9_leaveS l G σ (23) hI (by omega)) (by decide) (by decide) rfl rfl rfl q4_52 q4_56 q4_50 q4_51 q1_4 (by decide +kernel) rfl (by decide) (by decide) rfl (Nat.le_of_ble_eq_true rfl) dX3_mark_3 ?_
  rintro _ τ3 ⟨rfl, i4, f5, h9⟩
  have g8 : Fr MS_X3_markS_1 AS_X3_markS_1 σ τ3 := Fr.call (Fr.rf) f5 (by decide)
  have v10 : PNb τ3 a0 nb bb pb := hpb.eq (f5.2.2 (by decide))
  have v11 : a0 ∈ τ3.2.2.2.1 := by rw [f5.2.2 (by decide)]; exact ha0
  have v12 : τ3.2.2.2.2.1 a0 = 1 := by rw [f5.2.2 (by decide)]; exact hk0
  have v13 : Tp 14 1 15 σ τ3 [23] := h9 23 kt_23
  have q14 := v13.1
  simp only [List.length_cons, List.length_nil] at q14
  have u15 : IV (gV τ3 14 0 1) 0 16 := i4.1 14 0 1
  show MW p l e _ s m args below meth c _ 3 G 0 0 6 [some (.ref a0), some (.ref (G.1 14 0)), none] [] τ3
  refine m_aload_n C dX3_mark_6 rfl rfl ?_
  refine m_aload_n C dX3_mark_7 rfl rfl ?_
  refine m_callSU (n := 1) (st := []) C (c_X4_markS l G τ3 nb bb pb a0  i4 v11  v10 (by omega)) i4.2.2 v11 q4_83 q4_92 q5_225 q2_214 q4_82 q1_13 (by decide +kernel) rfl (by decide) (by decide) rfl (Nat.le_of_ble_eq_true rfl) dX3_mark_8 ?_
  rintro _ τ16 ⟨x19, rfl, i17, f18, b22, h21⟩
  have g20 : Fr MS_X3_markS_1 AS_X3_markS_1 σ τ16 := Fr.call (g8) f18 (by decide)
  have v23 : PNb τ16 a0 nb bb pb := v10.eq (f18.2.2 (by decide))
  have v24 : a0 ∈ τ16.2.2.2.1 := by rw [f18.2.2 (by decide)]; exact v11
  have v25 : τ16.2.2.2.2.1 a0 = 1 := by rw [f18.2.2 (by decide)]; exact v12
  have v26 : Tp 14 1 15 σ τ16 [23, 20] := Tp.trans v13 (h21.2) (by omega)
  have q27 := v26.1
  simp only [List.length_cons, List.length_nil] at q27
  have u28 : IV (gV τ16 14 0 1) 0 16 := i17.1 14 0 1
  have q29 : x19.toInt = nb := h21.1
  have q30 := v23.2
  have b31 : IV x19 0 6 := ⟨by omega, by omega⟩
  show MW p l e _ s m args below meth c _ 3 G 0 0 11 [some (.ref a0), some (.ref (G.1 14 0)), none] [.int x19] τ16
  refine m_istore_n (L1 := [some (.ref a0), some (.ref (G.1 14 0)), some (.int x19)]) C dX3_mark_11 rfl (by decide) rfl rfl ?_
  refine m_iload_n C dX3_mark_12 rfl rfl ?_
  refine m_aload_n C dX3_mark_13 rfl rfl ?_
  refine m_aload_n C dX3_mark_14 rfl rfl ?_
  refine v_ms1 (st := [.int x19]) C q4_93 i17 v24 v25 v23 (by omega) (by decide) (by decide) (Nat.le_of_ble_eq_true rfl) dX3_mark_15 (fun x35 τ32 i33 f34 h37 => ?_)
  have g36 : Fr MS_X3_markS_1 AS_X3_markS_1 σ τ32 := Fr.call (g20) f34 (by decide)
  have v38 : PNb τ32 a0 nb bb pb := v23.eq (f34.2.2 (by decide))
  have v39 : a0 ∈ τ32.2.2.2.1 := by rw [f34.2.2 (by decide)]; exact v24
  have v40 : τ32.2.2.2.2.1 a0 = 1 := by rw [f34.2.2 (by decide)]; exact v25
  have v41 : Tp 14 1 15 σ τ32 [23, 20, 14, 13, 10] := Tp.trans v26 (h37.2) (by omega)
  have q42 := v41.1
  simp only [List.length_cons, List.length_nil] at q42
  have u43 : IV (gV τ32 14 0 1) 0 16 := i33.1 14 0 1
  have q44 : x35.toInt = 2 * (bb - 100) := h37.1
  have q45 := v38.2
  have b46 : IV x35 (-200) (-120) := ⟨by omega, by omega⟩
  show MW p l e _ s m args below meth c _ 3 G 0 0 18 [some (.ref a0), some (.ref (G.1 14 0)), some (.int x19)] [.int x35, .int x19] τ32
  refine m_isub C dX3_mark_18 ?_
  refine m_topi (fun x47 ex47 => ?_)
  have tx47 : x47.toInt = x19.toInt - x35.toInt := by rw [ex47, ti_subv b31 b46 (by decide)]
  have b48 : IV x47 120 206 := by rw [ex47]; exact iv_sub b31 b46 (by decide)
  exact m_iret C hr hlk (by decide) (by decide) dX3_mark_19 ⟨_, rfl, i33, g36, b48, ⟨by omega, v41⟩⟩

set_option maxHeartbeats 4000000 in
theorem v_sizeS {nb bb pb : Int} {p : Program} {l : Launch} {e : Env} {R : Room} {s : State} {m : MethodId} {args : Array Value} {below : List Frame} {meth : Method} {c : Code} {cells slots : Nat} {Q : State → Prop} {cc : ByteArray} {nL : Nat} {own : String} {G : Gt} {σ : Sg} {pc : Nat} {L : List (Option Value)} {st : List Value} (C : Cx p s m args c cc nL own) {index a : Nat} (ql : Cond.methodLink own index ⟨"LeanTower$Person", "size", "(LLeanTower$Trace;)I"⟩ ∈ WA) (hI : Inv σ) (ha : a ∈ σ.2.2.2.1) (hpb : PNb σ a nb bb pb) (htl : (gV σ 14 0 1).toInt ≤ 10) (hR : 6 ≤ R.frames ∧ 127 ≤ R.locals) (hf : cells ≤ R.cells ∧ slots ≤ R.slots) (hW : (st.map fun v => v.category).sum ≤ 8) (d : decode cc pc = .ok (.invokevirtual index, 3)) (kk : ∀ (r : Int32) (τ : Sg), Inv τ → Fr [(14, 1)] [15] σ τ → (r.toInt = szV (kdF (σ.2.2.2.2.1 a)) nb bb pb ∧ Tp 14 1 15 σ τ (szL (kdF (σ.2.2.2.2.1 a)))) → MW p l e R s m args below meth c Q nL G cells slots (pc + 3) L (.int r :: st) τ) : MW p l e R s m args below meth c Q nL G cells slots pc L (.ref (G.1 14 0) :: .ref a :: st) σ := by
  have hk := hI.2.2.2 a ha
  simp only [List.mem_cons, List.not_mem_nil, or_false] at hk
  rcases hk with hk | hk | hk | hk | hk
  · refine m_callU (x := ⟨"LeanTower$Person", "size", "(LLeanTower$Trace;)I"⟩) (owner := "LeanTower$Person") (n := 1) (As := [.ref (G.1 14 0)]) (st := st) C (c_X1_sizeS l G σ nb bb pb a hI ha  hpb (by omega)) ha hk rfl (fun hK => va_cwO (owner := "LeanTower$Person") 1 C.2.2.2.2 (goodIn_app (wa_gl (List.forall_mem_cons.mpr ⟨ql, List.forall_mem_cons.mpr ⟨q4_45, List.forall_mem_cons.mpr ⟨q4_44, List.forall_mem_cons.mpr ⟨q4_46, List.forall_mem_cons.mpr ⟨q4_47, List.forall_mem_cons.mpr ⟨q1_18, fun _ h => absurd h List.not_mem_nil⟩⟩⟩⟩⟩⟩)) (wa_goodIn _ _ _ _ q4_48)) rfl rfl rfl q4_88 (by decide +kernel) ⟨Nat.le_trans (by decide) hR.1, Nat.le_trans (by decide) hR.2⟩) rfl hf rfl hW d ?_
    rintro _ τ ⟨r, rfl, i, f, _, hx⟩
    exact kk r τ i (Fr.call Fr.rf f (by decide)) (by rw [hk]; exact hx)
  · refine m_callU (x := ⟨"LeanTower$Person", "size", "(LLeanTower$Trace;)I"⟩) (owner := "LeanTower$Person") (n := 1) (As := [.ref (G.1 14 0)]) (st := st) C (c_X2_sizeS l G σ nb bb pb a hI ha (by simp [hk]) hpb (by omega)) ha hk rfl (fun hK => va_cwO (owner := "LeanTower$Person") 1 C.2.2.2.2 (goodIn_app (wa_gl (List.forall_mem_cons.mpr ⟨ql, List.forall_mem_cons.mpr ⟨q4_45, List.forall_mem_cons.mpr ⟨q4_44, List.forall_mem_cons.mpr ⟨q4_58, List.forall_mem_cons.mpr ⟨q4_59, List.forall_mem_cons.mpr ⟨q1_16, fun _ h => absurd h List.not_mem_nil⟩⟩⟩⟩⟩⟩)) (wa_goodIn _ _ _ _ q4_60)) rfl rfl rfl q4_88 (by decide +kernel) ⟨Nat.le_trans (by decide) hR.1, Nat.le_trans (by decide) hR.2⟩) rfl hf rfl hW d ?_
    rintro _ τ ⟨r, rfl, i, f, _, hx⟩
    exact kk r τ i (Fr.call Fr.rf f (by decide)) (by rw [hk]; exact hx)
  · refine m_callU (x := ⟨"LeanTower$Person", "size", "(LLeanTower$Trace;)I"⟩) (owner := "LeanTower$Person") (n := 1) (As := [.ref (G.1 14 0)]) (st := st) C (c_X3_sizeS l G σ nb bb pb a hI ha  hpb (by omega)) ha hk rfl (fun hK => va_cwO (owner := "LeanTower$Person") 1 C.2.2.2.2 (goodIn_app (wa_gl (List.forall_mem_cons.mpr ⟨ql, List.forall_mem_cons.mpr ⟨q4_45, List.forall_mem_cons.mpr ⟨q4_44, List.forall_mem_cons.mpr ⟨q4_85, List.forall_mem_cons.mpr ⟨q4_54, List.forall_mem_cons.mpr ⟨q1_17, fun _ h => absurd h List.not_mem_nil⟩⟩⟩⟩⟩⟩)) (wa_goodIn _ _ _ _ q4_55)) rfl rfl rfl q4_88 (by decide +kernel) ⟨Nat.le_trans (by decide) hR.1, Nat.le_trans (by decide) hR.2⟩) rfl hf rfl hW d ?_
    rintro _ τ ⟨r, rfl, i, f, _, hx⟩
    exact kk r τ i (Fr.call Fr.rf f (by decide)) (by rw [hk]; exact hx)
  · refine m_callU (x := ⟨"LeanTower$Person", "size", "(LLeanTower$Trace;)I"⟩) (owner := "LeanTower$Person") (n := 1) (As := [.ref (G.1 14 0)]) (st := st) C (c_X5_sizeS_4 l G σ nb bb pb a hI ha (by simp [hk]) hpb (by omega)) ha hk rfl (fun hK => va_cwO (owner := "LeanTower$Person") 1 C.2.2.2.2 (goodIn_app (wa_gl (List.forall_mem_cons.mpr ⟨ql, List.forall_mem_cons.mpr ⟨q4_45, List.forall_mem_cons.mpr ⟨q4_44, List.forall_mem_cons.mpr ⟨q4_86, List.forall_mem_cons.mpr ⟨q4_63, List.forall_mem_cons.mpr ⟨q1_14, fun _ h => absurd h List.not_mem_nil⟩⟩⟩⟩⟩⟩)) (wa_goodIn _ _ _ _ q4_64)) rfl rfl rfl q4_88 (by decide +kernel) ⟨Nat.le_trans (by decide) hR.1, Nat.le_trans (by decide) hR.2⟩) rfl hf rfl hW d ?_
    rintro _ τ ⟨r, rfl, i, f, _, hx⟩
    exact kk r τ i (Fr.call Fr.rf f (by decide)) (by rw [hk]; exact hx)
  · refine m_callU (x := ⟨"LeanTower$Person", "size", "(LLeanTower$Trace;)I"⟩) (owner := "LeanTower$Person") (n := 1) (As := [.ref (G.1 14 0)]) (st := st) C (c_X5_sizeS_9 l G σ nb bb pb a hI ha (by simp [hk]) hpb (by omega)) ha hk rfl (fun hK => va_cwO (owner := "LeanTower$Person") 1 C.2.2.2.2 (goodIn_app (wa_gl (List.forall_mem_cons.mpr ⟨ql, List.forall_mem_cons.mpr ⟨q4_45, List.forall_mem_cons.mpr ⟨q4_44, List.forall_mem_cons.mpr ⟨q4_87, List.forall_mem_cons.mpr ⟨q4_63, List.forall_mem_cons.mpr ⟨q1_14, fun _ h => absurd h List.not_mem_nil⟩⟩⟩⟩⟩⟩)) (wa_goodIn _ _ _ _ q4_64)) rfl rfl rfl q4_88 (by decide +kernel) ⟨Nat.le_trans (by decide) hR.1, Nat.le_trans (by decide) hR.2⟩) rfl hf rfl hW d ?_
    rintro _ τ ⟨r, rfl, i, f, _, hx⟩
    exact kk r τ i (Fr.call Fr.rf f (by decide)) (by rw [hk]; exact hx)

set_option maxHeartbeats 4000000 in
theorem v_markS {nb bb pb : Int} {p : Program} {l : Launch} {e : Env} {R : Room} {s : State} {m : MethodId} {args : Array Value} {below : List Frame} {meth : Method} {c : Code} {cells slots : Nat} {Q : State → Prop} {cc : ByteArray} {nL : Nat} {own : String} {G : Gt} {σ : Sg} {pc : Nat} {L : List (Option Value)} {st : List Value} (C : Cx p s m args c cc nL own) {index a : Nat} (ql : Cond.methodLink own index ⟨"LeanTower$Person", "mark", "(LLeanTower$Trace;)I"⟩ ∈ WA) (hI : Inv σ) (ha : a ∈ σ.2.2.2.1) (hpb : PNb σ a nb bb pb) (htl : (gV σ 14 0 1).toInt ≤ 10) (hR : 5 ≤ R.frames ∧ 106 ≤ R.locals) (hf : cells ≤ R.cells ∧ slots ≤ R.slots) (hW : (st.map fun v => v.category).sum ≤ 8) (d : decode cc pc = .ok (.invokevirtual index, 3)) (kk : ∀ (r : Int32) (τ : Sg), Inv τ → Fr [(14, 1)] [15] σ τ → (r.toInt = mkV (kdF (σ.2.2.2.2.1 a)) nb bb pb ∧ Tp 14 1 15 σ τ (mkL (kdF (σ.2.2.2.2.1 a)))) → MW p l e R s m args below meth c Q nL G cells slots (pc + 3) L (.int r :: st) τ) : MW p l e R s m args below meth c Q nL G cells slots pc L (.ref (G.1 14 0) :: .ref a :: st) σ := by
  have hk := hI.2.2.2 a ha
  simp only [List.mem_cons, List.not_mem_nil, or_false] at hk
  rcases hk with hk | hk | hk | hk | hk
  · refine m_callU (x := ⟨"LeanTower$Person", "mark", "(LLeanTower$Trace;)I"⟩) (owner := "LeanTower$Person") (n := 1) (As := [.ref (G.1 14 0)]) (st := st) C (c_X3_markS_1 l G σ nb bb pb a hI ha (by simp [hk]) hpb (by omega)) ha hk rfl (fun hK => va_cwO (owner := "LeanTower$Person") 1 C.2.2.2.2 (goodIn_app (wa_gl (List.forall_mem_cons.mpr ⟨ql, List.forall_mem_cons.mpr ⟨q5_225, List.forall_mem_cons.mpr ⟨q4_82, List.forall_mem_cons.mpr ⟨q5_226, List.forall_mem_cons.mpr ⟨q4_90, List.forall_mem_cons.mpr ⟨q1_17, fun _ h => absurd h List.not_mem_nil⟩⟩⟩⟩⟩⟩)) (wa_goodIn _ _ _ _ q4_91)) rfl rfl rfl q4_83 (by decide +kernel) ⟨Nat.le_trans (by decide) hR.1, Nat.le_trans (by decide) hR.2⟩) rfl hf rfl hW d ?_
    rintro _ τ ⟨r, rfl, i, f, _, hx⟩
    exact kk r τ i (Fr.call Fr.rf f (by decide)) (by rw [hk]; exact hx)
  · refine m_callU (x := ⟨"LeanTower$Person", "mark", "(LLeanTower$Trace;)I"⟩) (owner := "LeanTower$Person") (n := 1) (As := [.ref (G.1 14 0)]) (st := st) C (c_X2_markS l G σ nb bb pb a hI ha  hpb (by omega)) ha hk rfl (fun hK => va_cwO (owner := "LeanTower$Person") 1 C.2.2.2.2 (goodIn_app (wa_gl (List.forall_mem_cons.mpr ⟨ql, List.forall_mem_cons.mpr ⟨q5_225, List.forall_mem_cons.mpr ⟨q4_82, List.forall_mem_cons.mpr ⟨q5_229, List.forall_mem_cons.mpr ⟨q4_72, List.forall_mem_cons.mpr ⟨q1_16, fun _ h => absurd h List.not_mem_nil⟩⟩⟩⟩⟩⟩)) (wa_goodIn _ _ _ _ q4_73)) rfl rfl rfl q4_83 (by decide +kernel) ⟨Nat.le_trans (by decide) hR.1, Nat.le_trans (by decide) hR.2⟩) rfl hf rfl hW d ?_
    rintro _ τ ⟨r, rfl, i, f, _, hx⟩
    exact kk r τ i (Fr.call Fr.rf f (by decide)) (by rw [hk]; exact hx)
  · refine m_callU (x := ⟨"LeanTower$Person", "mark", "(LLeanTower$Trace;)I"⟩) (owner := "LeanTower$Person") (n := 1) (As := [.ref (G.1 14 0)]) (st := st) C (c_X3_markS_3 l G σ nb bb pb a hI ha (by simp [hk]) hpb (by omega)) ha hk rfl (fun hK => va_cwO (owner := "LeanTower$Person") 1 C.2.2.2.2 (goodIn_app (wa_gl (List.forall_mem_cons.mpr ⟨ql, List.forall_mem_cons.mpr ⟨q5_225, List.forall_mem_cons.mpr ⟨q4_82, List.forall_mem_cons.mpr ⟨q5_230, List.forall_mem_cons.mpr ⟨q4_90, List.forall_mem_cons.mpr ⟨q1_17, fun _ h => absurd h List.not_mem_nil⟩⟩⟩⟩⟩⟩)) (wa_goodIn _ _ _ _ q4_91)) rfl rfl rfl q4_83 (by decide +kernel) ⟨Nat.le_trans (by decide) hR.1, Nat.le_trans (by decide) hR.2⟩) rfl hf rfl hW d ?_
    rintro _ τ ⟨r, rfl, i, f, _, hx⟩
    exact kk r τ i (Fr.call Fr.rf f (by decide)) (by rw [hk]; exact hx)
  · refine m_callU (x := ⟨"LeanTower$Person", "mark", "(LLeanTower$Trace;)I"⟩) (owner := "LeanTower$Person") (n := 1) (As := [.ref (G.1 14 0)]) (st := st) C (c_X5_markS l G σ nb bb pb a hI ha  hpb (by omega)) ha hk rfl (fun hK => va_cwO (owner := "LeanTower$Person") 1 C.2.2.2.2 (goodIn_app (wa_gl (List.forall_mem_cons.mpr ⟨ql, List.forall_mem_cons.mpr ⟨q5_225, List.forall_mem_cons.mpr ⟨q4_82, List.forall_mem_cons.mpr ⟨q5_231, List.forall_mem_cons.mpr ⟨q4_68, List.forall_mem_cons.mpr ⟨q1_14, fun _ h => absurd h List.not_mem_nil⟩⟩⟩⟩⟩⟩)) (wa_goodIn _ _ _ _ q4_80)) rfl rfl rfl q4_83 (by decide +kernel) ⟨Nat.le_trans (by decide) hR.1, Nat.le_trans (by decide) hR.2⟩) rfl hf rfl hW d ?_
    rintro _ τ ⟨r, rfl, i, f, _, hx⟩
    exact kk r τ i (Fr.call Fr.rf f (by decide)) (by rw [hk]; exact hx)
  · refine m_callU (x := ⟨"LeanTower$Person", "mark", "(LLeanTower$Trace;)I"⟩) (owner := "LeanTower$Person") (n := 1) (As := [.ref (G.1 14 0)]) (st := st) C (c_X10_markS l G σ nb bb pb a hI ha  hpb (by omega)) ha hk rfl (fun hK => va_cwO (owner := "LeanTower$Person") 1 C.2.2.2.2 (goodIn_app (wa_gl (List.forall_mem_cons.mpr ⟨ql, List.forall_mem_cons.mpr ⟨q5_225, List.forall_mem_cons.mpr ⟨q4_82, List.forall_mem_cons.mpr ⟨q5_232, List.forall_mem_cons.mpr ⟨q4_76, List.forall_mem_cons.mpr ⟨q1_15, fun _ h => absurd h List.not_mem_nil⟩⟩⟩⟩⟩⟩)) (wa_goodIn _ _ _ _ q4_77)) rfl rfl rfl q4_83 (by decide +kernel) ⟨Nat.le_trans (by decide) hR.1, Nat.le_trans (by decide) hR.2⟩) rfl hf rfl hW d ?_
    rintro _ τ ⟨r, rfl, i, f, _, hx⟩
    exact kk r τ i (Fr.call Fr.rf f (by decide)) (by rw [hk]; exact hx)
