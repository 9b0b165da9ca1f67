def Hid (P : Prop) : Prop := P
theorem Hid.mk {P : Prop} (h : P) : Hid P := h
theorem RT.faultB {σ τ : Sg} {r1 r2 : Int32} (h : RT σ) (f1 : Fr MS_X11_faultT AS_X11_faultT σ τ) (hC : r1.toInt = (gV σ 12 0 2).toInt) (hM : r2.toInt = (gV τ 22 0 7).toInt) : r1.toInt = r2.toInt := by
  rw [hC, hM, f1.1 22 0 7 (by decide) (by decide)]
  exact h.2
theorem RS.imageB {τ υ : Sg} {S : Stt} {I : Nat → Stt} {a1 r1 r2 : Int32} (f2 : Fr MS_X12_imageS AS_X12_imageS τ υ) (hC : (((a1.toInt < 0 ∨ 1 < a1.toInt) ∧ r1.toInt = -1000001 ∧ CA τ S I) ∨ ((0 ≤ a1.toInt ∧ a1.toInt ≤ 1) ∧ S.1 ≤ 0 ∧ r1.toInt = -1000002 ∧ CA τ S I) ∨ ((0 ≤ a1.toInt ∧ a1.toInt ≤ 1) ∧ 0 < S.1 ∧ r1.toInt = 1 ∧ CA τ S (upI I (a1.toInt.toNat) S)))) (hM : (((a1.toInt < 0 ∨ 1 < a1.toInt) ∧ r2.toInt = -1000001 ∧ MA υ S I) ∨ ((0 ≤ a1.toInt ∧ a1.toInt ≤ 1) ∧ S.1 ≤ 0 ∧ r2.toInt = -1000002 ∧ MA υ S I) ∨ ((0 ≤ a1.toInt ∧ a1.toInt ≤ 1) ∧ 0 < S.1 ∧ r2.toInt = 1 ∧ MA υ S (upI I (a1.toInt.toNat) S)))) : ∃ I5, CA υ S I5 ∧ MA υ S I5 ∧ r1.toInt = r2.toInt := by
  rcases hC with ⟨c1, c2, c4⟩ | ⟨c1, c2, c3, c4⟩ | ⟨c1, c2, c3, c4⟩ <;> rcases hM with ⟨m1, m2, m4⟩ | ⟨m1, m2, m3, m4⟩ | ⟨m1, m2, m3, m4⟩
  · exact ⟨_, CA.fr c4 f2 (by decide) (by decide), m4, by omega⟩
  · exfalso; omega
  · exfalso; omega
  · exfalso; omega
  · exact ⟨_, CA.fr c4 f2 (by decide) (by decide), m4, by omega⟩
  · exfalso; omega
  · exfalso; omega
  · exfalso; omega
  · exact ⟨_, CA.fr c4 f2 (by decide) (by decide), m4, by omega⟩
theorem RS.restoreB {τ υ : Sg} {S : Stt} {I : Nat → Stt} {a1 r1 r2 : Int32} (f2 : Fr MS_X12_restoreS AS_X12_restoreS τ υ) (hC : (((a1.toInt < 0 ∨ 1 < a1.toInt) ∧ r1.toInt = -1000001 ∧ CA τ S I) ∨ ((0 ≤ a1.toInt ∧ a1.toInt ≤ 1) ∧ (I (a1.toInt.toNat)).1 ≤ 0 ∧ r1.toInt = -1000002 ∧ CA τ S I) ∨ ((0 ≤ a1.toInt ∧ a1.toInt ≤ 1) ∧ 0 < (I (a1.toInt.toNat)).1 ∧ r1.toInt = 1 ∧ CA τ (I (a1.toInt.toNat)) I))) (hM : (((a1.toInt < 0 ∨ 1 < a1.toInt) ∧ r2.toInt = -1000001 ∧ MA υ S I) ∨ ((0 ≤ a1.toInt ∧ a1.toInt ≤ 1) ∧ (I (a1.toInt.toNat)).1 ≤ 0 ∧ r2.toInt = -1000002 ∧ MA υ S I) ∨ ((0 ≤ a1.toInt ∧ a1.toInt ≤ 1) ∧ 0 < (I (a1.toInt.toNat)).1 ∧ r2.toInt = 1 ∧ MA υ (I (a1.toInt.toNat)) I))) : ∃ S5, CA υ S5 I ∧ MA υ S5 I ∧ r1.toInt = r2.toInt := by
  rcases hC with ⟨c1, c2, c4⟩ | ⟨c1, c2, c3, c4⟩ | ⟨c1, c2, c3, c4⟩ <;> rcases hM with ⟨m1, m2, m4⟩ | ⟨m1, m2, m3, m4⟩ | ⟨m1, m2, m3, m4⟩
  · exact ⟨_, CA.fr c4 f2 (by decide) (by decide), m4, by omega⟩
  · exfalso; omega
  · exfalso; omega
  · exfalso; omega
  · exact ⟨_, CA.fr c4 f2 (by decide) (by decide), m4, by omega⟩
  · exfalso; omega
  · exfalso; omega
  · exfalso; omega
  · exact ⟨_, CA.fr c4 f2 (by decide) (by decide), m4, by omega⟩
theorem RS.kindB {S : Stt} {a1 r1 r2 : Int32} (hC : (((a1.toInt < 0 ∨ S.2.1 ≤ a1.toInt) ∧ r1.toInt = -1000001) ∨ ((0 ≤ a1.toInt ∧ a1.toInt < S.2.1) ∧ r1.toInt = (S.2.2 a1.toInt.toNat).1))) (hM : (((a1.toInt < 0 ∨ S.2.1 ≤ a1.toInt) ∧ r2.toInt = -1000001) ∨ ((0 ≤ a1.toInt ∧ a1.toInt < S.2.1) ∧ r2.toInt = (S.2.2 a1.toInt.toNat).1))) : r1.toInt = r2.toInt := by omega
theorem RS.asB {S : Stt} {a1 a2 r1 r2 : Int32} (hC : ((((a1.toInt < 0 ∨ S.2.1 ≤ a1.toInt) ∨ a2.toInt < 0 ∨ 5 < a2.toInt) ∧ r1.toInt = -1000001) ∨ ((0 ≤ a1.toInt ∧ a1.toInt < S.2.1) ∧ 0 ≤ a2.toInt ∧ a2.toInt ≤ 5 ∧ (a2.toInt = 0 ∨ (S.2.2 a1.toInt.toNat).1 = a2.toInt ∨ (a2.toInt = 1 ∧ (S.2.2 a1.toInt.toNat).1 ≤ 3) ∨ (a2.toInt = 4 ∧ (S.2.2 a1.toInt.toNat).1 = 5)) ∧ r1.toInt = a1.toInt) ∨ ((0 ≤ a1.toInt ∧ a1.toInt < S.2.1) ∧ 0 ≤ a2.toInt ∧ a2.toInt ≤ 5 ∧ ¬ (a2.toInt = 0 ∨ (S.2.2 a1.toInt.toNat).1 = a2.toInt ∨ (a2.toInt = 1 ∧ (S.2.2 a1.toInt.toNat).1 ≤ 3) ∨ (a2.toInt = 4 ∧ (S.2.2 a1.toInt.toNat).1 = 5)) ∧ r1.toInt = -1000013))) (hM : ((((a1.toInt < 0 ∨ S.2.1 ≤ a1.toInt) ∨ a2.toInt < 0 ∨ 5 < a2.toInt) ∧ r2.toInt = -1000001) ∨ ((0 ≤ a1.toInt ∧ a1.toInt < S.2.1) ∧ 0 ≤ a2.toInt ∧ a2.toInt ≤ 5 ∧ (a2.toInt = 0 ∨ (S.2.2 a1.toInt.toNat).1 = a2.toInt ∨ (a2.toInt = 1 ∧ (S.2.2 a1.toInt.toNat).1 ≤ 3) ∨ (a2.toInt = 4 ∧ (S.2.2 a1.toInt.toNat).1 = 5)) ∧ r2.toInt = a1.toInt) ∨ ((0 ≤ a1.toInt ∧ a1.toInt < S.2.1) ∧ 0 ≤ a2.toInt ∧ a2.toInt ≤ 5 ∧ ¬ (a2.toInt = 0 ∨ (S.2.2 a1.toInt.toNat).1 = a2.toInt ∨ (a2.toInt = 1 ∧ (S.2.2 a1.toInt.toNat).1 ≤ 3) ∨ (a2.toInt = 4 ∧ (S.2.2 a1.toInt.toNat).1 = 5)) ∧ r2.toInt = -1000013))) : r1.toInt = r2.toInt := by omega
abbrev MS_X11_statusQ : List (Nat × Nat) := []
abbrev AS_X11_statusQ : List Nat := []
set_option maxHeartbeats 4000000 in
set_option maxRecDepth 100000 in
theorem c_X11_statusQ (l : Launch) (G : Gt) (σ : Sg) (hI : Inv σ) : Mc l G yX11_status cX11_status 1 (some .int) 0 0 0 0 [.ref (G.1 0 0)] σ (PI fun r τ => Inv τ ∧ Fr MS_X11_statusQ AS_X11_statusQ σ τ ∧ IV r (-2147483648) 2147483647 ∧ r.toInt = (gV σ 0 0 12).toInt) := by
  refine Mc.of (L0 := [some (.ref (G.1 0 0))]) (by decide) (Nat.le_of_ble_eq_true rfl) rfl ?_
  intro p e s m args below meth c C hr hlk
  have C : Cx p s m args c cX11_status 1 "LeanTower" := C
  have k0 : (0 : Int32).toInt = 0 := by decide
  have k1 : (1 : Int32).toInt = 1 := by decide
  refine m_aload_n C dX11_status_0 rfl rfl ?_
  refine g_0_12 C q1_198 dX11_status_1 ?_
  refine m_eqs (w := (gV σ 0 0 12)) rfl ?_
  exact m_iret C hr hlk (by decide) (by decide) dX11_status_4 ⟨_, rfl, hI, Fr.rf, (iv_any (gV σ 0 0 12)), (by omega)⟩

abbrev MS_X12_statusQ : List (Nat × Nat) := []
abbrev AS_X12_statusQ : List Nat := []
set_option maxHeartbeats 4000000 in
set_option maxRecDepth 100000 in
theorem c_X12_statusQ (l : Launch) (G : Gt) (σ : Sg) (hI : Inv σ) : Mc l G yX12_status cX12_status 1 (some .int) 0 0 0 0 [.ref (G.1 22 0)] σ (PI fun r τ => Inv τ ∧ Fr MS_X12_statusQ AS_X12_statusQ σ τ ∧ IV r (-2147483648) 2147483647 ∧ r.toInt = (gV σ 22 0 8).toInt) := by
  refine Mc.of (L0 := [some (.ref (G.1 22 0))]) (by decide) (Nat.le_of_ble_eq_true rfl) rfl ?_
  intro p e s m args below meth c C hr hlk
  have C : Cx p s m args c cX12_status 1 "LeanTowerModel" := C
  have k0 : (0 : Int32).toInt = 0 := by decide
  have k1 : (1 : Int32).toInt = 1 := by decide
  refine m_aload_n C dX12_status_0 rfl rfl ?_
  refine g_22_8 C q4_124 dX12_status_1 ?_
  refine m_eqs (w := (gV σ 22 0 8)) rfl ?_
  exact m_iret C hr hlk (by decide) (by decide) dX12_status_4 ⟨_, rfl, hI, Fr.rf, (iv_any (gV σ 22 0 8)), (by omega)⟩

/-- the latest findings agree -/
def ST (σ : Sg) : Prop := (gV σ 0 0 12).toInt = (gV σ 22 0 8).toInt
theorem ST.call {M : List (Nat × Nat)} {A : List Nat} {σ τ : Sg} (h : ST σ) (f : Fr M A σ τ) (hm : (M.contains (0, 12) || M.contains (22, 8)) = false) (ha : (A.contains 0 || A.contains 22) = false) : ST τ := by
  rw [Bool.or_eq_false_iff] at hm ha
  have n : ∀ q, M.contains q = false → q ∉ M := fun q hq z => by rw [List.contains_iff_mem.mpr z] at hq; exact absurd hq (by decide)
  have a : ∀ q, A.contains q = false → q ∉ A := fun q hq z => by rw [List.contains_iff_mem.mpr z] at hq; exact absurd hq (by decide)
  unfold ST
  rw [f.1 0 0 12 (n _ hm.1) (a _ ha.1), f.1 22 0 8 (n _ hm.2) (a _ ha.2)]
  exact h
theorem RB.rowB {σ τ υ : Sg} {a1 a2 a3 r1 r2 : Int32} (h : Rel σ) (hI : Inv σ) (hi : RI σ) (f1 : Fr MS_X11_rowQ AS_X11_rowQ σ τ) (f2 : Fr MS_X12_rowQ AS_X12_rowQ τ υ) (c0 : (((a1.toInt < 0 ∨ 7 < a1.toInt ∨ a2.toInt < 0 ∨ 2 < a2.toInt ∨ 40 < a3.toInt) ∧ r1.toInt = -1000001 ∧ SameR σ τ) ∨ ((0 ≤ a1.toInt ∧ a1.toInt ≤ 7 ∧ 0 ≤ a2.toInt ∧ a2.toInt ≤ 2 ∧ a3.toInt < 0) ∧ r1.toInt = -1000014 ∧ SameR σ τ) ∨ ((0 ≤ a1.toInt ∧ a1.toInt ≤ 7 ∧ 0 ≤ a2.toInt ∧ a2.toInt ≤ 2 ∧ 0 ≤ a3.toInt ∧ a3.toInt ≤ 40) ∧ r1.toInt = a3.toInt ∧ BG σ τ (a1.toInt.toNat) a2 a3))) (c1 : (((a1.toInt < 0 ∨ 7 < a1.toInt ∨ a2.toInt < 0 ∨ 2 < a2.toInt ∨ 40 < a3.toInt) → (gV τ 0 0 12).toInt = (gV σ 0 0 12).toInt) ∧ (((0 ≤ a1.toInt ∧ a1.toInt ≤ 7 ∧ 0 ≤ a2.toInt ∧ a2.toInt ≤ 2) ∧ a3.toInt < 0) → (gV τ 0 0 12).toInt = 4) ∧ (((0 ≤ a1.toInt ∧ a1.toInt ≤ 7 ∧ 0 ≤ a2.toInt ∧ a2.toInt ≤ 2) ∧ 0 ≤ a3.toInt ∧ a3.toInt ≤ 40) → (gV τ 0 0 12).toInt = 0))) (c2 : ((((0 ≤ a1.toInt ∧ a1.toInt ≤ 7 ∧ 0 ≤ a2.toInt ∧ a2.toInt ≤ 2) ∧ 0 ≤ a3.toInt ∧ a3.toInt ≤ 40) → IZ σ τ (a1.toInt.toNat) 40) ∧ (¬ ((0 ≤ a1.toInt ∧ a1.toInt ≤ 7 ∧ 0 ≤ a2.toInt ∧ a2.toInt ≤ 2) ∧ 0 ≤ a3.toInt ∧ a3.toInt ≤ 40) → SameI σ τ))) (m0 : (((a1.toInt < 0 ∨ 7 < a1.toInt ∨ a2.toInt < 0 ∨ 2 < a2.toInt ∨ 40 < a3.toInt) ∧ r2.toInt = -1000001 ∧ SameL τ υ) ∨ ((0 ≤ a1.toInt ∧ a1.toInt ≤ 7 ∧ 0 ≤ a2.toInt ∧ a2.toInt ≤ 2 ∧ a3.toInt < 0) ∧ r2.toInt = -1000014 ∧ SameL τ υ) ∨ ((0 ≤ a1.toInt ∧ a1.toInt ≤ 7 ∧ 0 ≤ a2.toInt ∧ a2.toInt ≤ 2 ∧ 0 ≤ a3.toInt ∧ a3.toInt ≤ 40) ∧ r2.toInt = a3.toInt ∧ LU τ υ (a1.toInt.toNat) a2 a3))) (m1 : (((a1.toInt < 0 ∨ 7 < a1.toInt ∨ a2.toInt < 0 ∨ 2 < a2.toInt ∨ 40 < a3.toInt) → (gV υ 22 0 8).toInt = (gV τ 22 0 8).toInt) ∧ (((0 ≤ a1.toInt ∧ a1.toInt ≤ 7 ∧ 0 ≤ a2.toInt ∧ a2.toInt ≤ 2) ∧ a3.toInt < 0) → (gV υ 22 0 8).toInt = 4) ∧ (((0 ≤ a1.toInt ∧ a1.toInt ≤ 7 ∧ 0 ≤ a2.toInt ∧ a2.toInt ≤ 2) ∧ 0 ≤ a3.toInt ∧ a3.toInt ≤ 40) → (gV υ 22 0 8).toInt = 0))) (m2 : ((((0 ≤ a1.toInt ∧ a1.toInt ≤ 7 ∧ 0 ≤ a2.toInt ∧ a2.toInt ≤ 2) ∧ 0 ≤ a3.toInt ∧ a3.toInt ≤ 40) → JZ τ υ (40 * (a1.toInt.toNat)) a3.toInt.toNat) ∧ (¬ ((0 ≤ a1.toInt ∧ a1.toInt ≤ 7 ∧ 0 ≤ a2.toInt ∧ a2.toInt ≤ 2) ∧ 0 ≤ a3.toInt ∧ a3.toInt ≤ 40) → SameJ τ υ))) : RI υ := by
  have e2 : SameJ σ τ := fun k => f1.1 25 0 k (by simp) (by decide)
  have e1 : SameI τ υ := fun j i => f2.1 21 j i (by simp) (by decide)
  have e3 : SameL σ τ := SameL.rf.fr f1 (by simp) (by decide)
  by_cases g : ((0 ≤ a1.toInt ∧ a1.toInt ≤ 7 ∧ 0 ≤ a2.toInt ∧ a2.toInt ≤ 2) ∧ 0 ≤ a3.toInt ∧ a3.toInt ≤ 40)
  · rcases m0 with ⟨m, _⟩ | ⟨m, _⟩ | ⟨_, _, u⟩
    · exfalso; omega
    · exfalso; omega
    · exact hi.begin hI (c2.1 g) e1 e2 e3 (m2.1 g) u (by omega)
  · have k : SameL τ υ := by
      rcases m0 with ⟨_, _, u⟩ | ⟨_, _, u⟩ | ⟨q, _⟩
      · exact u
      · exact u
      · exfalso; omega
    exact hi.same (fun j i => (e1 j i).trans (c2.2 g j i)) (fun q => (m2.2 g q).trans (e2 q)) (fun q => ⟨(k q).1.trans (e3 q).1, (k q).2.trans (e3 q).2⟩)
theorem RB.setB {σ τ υ : Sg} {a1 a2 a3 r1 r2 : Int32} (h : Rel σ) (hI : Inv σ) (hi : RI σ) (f1 : Fr MS_X11_setQ AS_X11_setQ σ τ) (f2 : Fr MS_X12_setQ AS_X12_setQ τ υ) (c0 : (((a1.toInt < 0 ∨ 7 < a1.toInt) ∧ r1.toInt = -1000001) ∨ ((0 ≤ a1.toInt ∧ a1.toInt ≤ 7) ∧ (gV σ 20 (a1.toInt.toNat) 1).toInt = -1 ∧ r1.toInt = -1000011) ∨ ((0 ≤ a1.toInt ∧ a1.toInt ≤ 7) ∧ ¬ ((gV σ 20 (a1.toInt.toNat) 1).toInt = -1) ∧ (a2.toInt < 0 ∨ (gV σ 20 (a1.toInt.toNat) 2).toInt ≤ a2.toInt) ∧ r1.toInt = -1000012) ∨ ((0 ≤ a1.toInt ∧ a1.toInt ≤ 7) ∧ ¬ ((gV σ 20 (a1.toInt.toNat) 1).toInt = -1) ∧ 0 ≤ a2.toInt ∧ a2.toInt < (gV σ 20 (a1.toInt.toNat) 2).toInt ∧ r1.toInt = (cutF (gV σ 20 (a1.toInt.toNat) 1) a3).toInt))) (c1 : (((a1.toInt < 0 ∨ 7 < a1.toInt) → (gV τ 0 0 12).toInt = (gV σ 0 0 12).toInt) ∧ (((0 ≤ a1.toInt ∧ a1.toInt ≤ 7) ∧ (gV σ 20 (a1.toInt.toNat) 1).toInt = -1) → (gV τ 0 0 12).toInt = 1) ∧ (((0 ≤ a1.toInt ∧ a1.toInt ≤ 7) ∧ ¬ ((gV σ 20 (a1.toInt.toNat) 1).toInt = -1) ∧ (a2.toInt < 0 ∨ (gV σ 20 (a1.toInt.toNat) 2).toInt ≤ a2.toInt)) → (gV τ 0 0 12).toInt = 2) ∧ (((0 ≤ a1.toInt ∧ a1.toInt ≤ 7) ∧ ¬ ((gV σ 20 (a1.toInt.toNat) 1).toInt = -1) ∧ 0 ≤ a2.toInt ∧ a2.toInt < (gV σ 20 (a1.toInt.toNat) 2).toInt) → (gV τ 0 0 12).toInt = 0))) (c2 : ((((0 ≤ a1.toInt ∧ a1.toInt ≤ 7) ∧ ¬ ((gV σ 20 (a1.toInt.toNat) 1).toInt = -1) ∧ 0 ≤ a2.toInt ∧ a2.toInt < (gV σ 20 (a1.toInt.toNat) 2).toInt) → ∃ v : Int32, v.toInt = r1.toInt ∧ I1 σ τ (a1.toInt.toNat) (a2.toInt.toNat) v) ∧ (¬ ((0 ≤ a1.toInt ∧ a1.toInt ≤ 7) ∧ ¬ ((gV σ 20 (a1.toInt.toNat) 1).toInt = -1) ∧ 0 ≤ a2.toInt ∧ a2.toInt < (gV σ 20 (a1.toInt.toNat) 2).toInt) → SameI σ τ))) (m0 : (((a1.toInt < 0 ∨ 7 < a1.toInt) ∧ r2.toInt = -1000001) ∨ ((0 ≤ a1.toInt ∧ a1.toInt ≤ 7) ∧ (gV τ 26 0 (a1.toInt.toNat)).toInt < 0 ∧ r2.toInt = -1000011) ∨ ((0 ≤ a1.toInt ∧ a1.toInt ≤ 7) ∧ ¬ ((gV τ 26 0 (a1.toInt.toNat)).toInt < 0) ∧ (a2.toInt < 0 ∨ (gV τ 27 0 (a1.toInt.toNat)).toInt ≤ a2.toInt) ∧ r2.toInt = -1000012) ∨ ((0 ≤ a1.toInt ∧ a1.toInt ≤ 7) ∧ ¬ ((gV τ 26 0 (a1.toInt.toNat)).toInt < 0) ∧ 0 ≤ a2.toInt ∧ a2.toInt < (gV τ 27 0 (a1.toInt.toNat)).toInt ∧ r2.toInt = (cutF (gV τ 26 0 (a1.toInt.toNat)) a3).toInt))) (m1 : (((a1.toInt < 0 ∨ 7 < a1.toInt) → (gV υ 22 0 8).toInt = (gV τ 22 0 8).toInt) ∧ (((0 ≤ a1.toInt ∧ a1.toInt ≤ 7) ∧ (gV τ 26 0 (a1.toInt.toNat)).toInt < 0) → (gV υ 22 0 8).toInt = 1) ∧ (((0 ≤ a1.toInt ∧ a1.toInt ≤ 7) ∧ ¬ ((gV τ 26 0 (a1.toInt.toNat)).toInt < 0) ∧ (a2.toInt < 0 ∨ (gV τ 27 0 (a1.toInt.toNat)).toInt ≤ a2.toInt)) → (gV υ 22 0 8).toInt = 2) ∧ (((0 ≤ a1.toInt ∧ a1.toInt ≤ 7) ∧ ¬ ((gV τ 26 0 (a1.toInt.toNat)).toInt < 0) ∧ 0 ≤ a2.toInt ∧ a2.toInt < (gV τ 27 0 (a1.toInt.toNat)).toInt) → (gV υ 22 0 8).toInt = 0))) (m2 : ((((0 ≤ a1.toInt ∧ a1.toInt ≤ 7) ∧ ¬ ((gV τ 26 0 (a1.toInt.toNat)).toInt < 0) ∧ 0 ≤ a2.toInt ∧ a2.toInt < (gV τ 27 0 (a1.toInt.toNat)).toInt) → ∃ v : Int32, v.toInt = r2.toInt ∧ J1_ τ υ (40 * (a1.toInt.toNat) + (a2.toInt.toNat)) v) ∧ (¬ ((0 ≤ a1.toInt ∧ a1.toInt ≤ 7) ∧ ¬ ((gV τ 26 0 (a1.toInt.toNat)).toInt < 0) ∧ 0 ≤ a2.toInt ∧ a2.toInt < (gV τ 27 0 (a1.toInt.toNat)).toInt) → SameJ τ υ))) : RI υ := by
  have e2 : SameJ σ τ := fun k => f1.1 25 0 k (by simp) (by decide)
  have e1 : SameI τ υ := fun j i => f2.1 21 j i (by simp) (by decide)
  have l1 : SameL σ τ := SameL.rf.fr f1 (by simp) (by decide)
  have g1 : (a1.toInt.toNat) < 8 → (gV σ 20 (a1.toInt.toNat) 1).toInt = (gV τ 26 0 (a1.toInt.toNat)).toInt ∧ -1 ≤ (gV τ 26 0 (a1.toInt.toNat)).toInt ∧ (0 ≤ (gV τ 26 0 (a1.toInt.toNat)).toInt → (gV σ 20 (a1.toInt.toNat) 2).toInt = (gV τ 27 0 (a1.toInt.toNat)).toInt) := fun hj => by
    rw [(l1 (a1.toInt.toNat)).1, (l1 (a1.toInt.toNat)).2]
    exact ⟨congrArg Int32.toInt (h.1 (a1.toInt.toNat) hj).1, (h.1 (a1.toInt.toNat) hj).2.1, fun q => congrArg Int32.toInt ((h.1 (a1.toInt.toNat) hj).2.2 q)⟩
  have e3 : SameL σ υ := fun q => ⟨(f2.1 26 0 q (by simp) (by decide)).trans (l1 q).1, (f2.1 27 0 q (by simp) (by decide)).trans (l1 q).2⟩
  have hr := Rel.setB h f1 f2 c0 m0
  by_cases hin : 0 ≤ a1.toInt ∧ a1.toInt ≤ 7
  · have q := g1 (by omega)
    by_cases g : ((0 ≤ a1.toInt ∧ a1.toInt ≤ 7) ∧ ¬ ((gV σ 20 (a1.toInt.toNat) 1).toInt = -1) ∧ 0 ≤ a2.toInt ∧ a2.toInt < (gV σ 20 (a1.toInt.toNat) 2).toInt)
    · have g' : ((0 ≤ a1.toInt ∧ a1.toInt ≤ 7) ∧ ¬ ((gV τ 26 0 (a1.toInt.toNat)).toInt < 0) ∧ 0 ≤ a2.toInt ∧ a2.toInt < (gV τ 27 0 (a1.toInt.toNat)).toInt) := by omega
      obtain ⟨v, v1, v2⟩ := c2.1 g
      obtain ⟨w, w1, w2⟩ := m2.1 g'
      have b : IV (gV σ 20 (a1.toInt.toNat) 2) 0 40 := hI.1 20 (a1.toInt.toNat) 2
      have b2 := b.2
      exact hi.set v2 e1 e2 w2 e3 hI (by omega) (Int32.toInt_inj.mp (by omega))
    · have g' : ¬ ((0 ≤ a1.toInt ∧ a1.toInt ≤ 7) ∧ ¬ ((gV τ 26 0 (a1.toInt.toNat)).toInt < 0) ∧ 0 ≤ a2.toInt ∧ a2.toInt < (gV τ 27 0 (a1.toInt.toNat)).toInt) := by omega
      exact hi.same (fun j i => (e1 j i).trans (c2.2 g j i)) (fun z => (m2.2 g' z).trans (e2 z)) e3
  · skip
    exact hi.same (fun j i => (e1 j i).trans (c2.2 (by omega) j i)) (fun z => (m2.2 (by omega) z).trans (e2 z)) e3
theorem RB.copyB {σ τ υ : Sg} {a1 a2 a3 a4 a5 r1 r2 : Int32} (h : Rel σ) (hI : Inv σ) (hi : RI σ) (f1 : Fr MS_X11_copyQ AS_X11_copyQ σ τ) (f2 : Fr MS_X12_copyQ AS_X12_copyQ τ υ) (c0 : (((a1.toInt < 0 ∨ 7 < a1.toInt ∨ a3.toInt < 0 ∨ 7 < a3.toInt) ∧ r1.toInt = -1000001) ∨ ((0 ≤ a1.toInt ∧ a1.toInt ≤ 7 ∧ 0 ≤ a3.toInt ∧ a3.toInt ≤ 7) ∧ ((gV σ 20 (a1.toInt.toNat) 1).toInt = -1 ∨ (gV σ 20 (a3.toInt.toNat) 1).toInt = -1) ∧ r1.toInt = -1000011) ∨ ((0 ≤ a1.toInt ∧ a1.toInt ≤ 7 ∧ 0 ≤ a3.toInt ∧ a3.toInt ≤ 7) ∧ ¬ ((gV σ 20 (a1.toInt.toNat) 1).toInt = -1) ∧ ¬ ((gV σ 20 (a3.toInt.toNat) 1).toInt = -1) ∧ (gV σ 20 (a1.toInt.toNat) 1).toInt ≠ (gV σ 20 (a3.toInt.toNat) 1).toInt ∧ r1.toInt = -1000015) ∨ ((0 ≤ a1.toInt ∧ a1.toInt ≤ 7 ∧ 0 ≤ a3.toInt ∧ a3.toInt ≤ 7) ∧ ¬ ((gV σ 20 (a1.toInt.toNat) 1).toInt = -1) ∧ ¬ ((gV σ 20 (a3.toInt.toNat) 1).toInt = -1) ∧ (gV σ 20 (a1.toInt.toNat) 1).toInt = (gV σ 20 (a3.toInt.toNat) 1).toInt ∧ ¬ (0 ≤ a2.toInt ∧ 0 ≤ a4.toInt ∧ 0 ≤ a5.toInt ∧ a2.toInt + a5.toInt ≤ (gV σ 20 (a1.toInt.toNat) 2).toInt ∧ a4.toInt + a5.toInt ≤ (gV σ 20 (a3.toInt.toNat) 2).toInt) ∧ r1.toInt = -1000012) ∨ ((0 ≤ a1.toInt ∧ a1.toInt ≤ 7 ∧ 0 ≤ a3.toInt ∧ a3.toInt ≤ 7) ∧ ¬ ((gV σ 20 (a1.toInt.toNat) 1).toInt = -1) ∧ ¬ ((gV σ 20 (a3.toInt.toNat) 1).toInt = -1) ∧ (gV σ 20 (a1.toInt.toNat) 1).toInt = (gV σ 20 (a3.toInt.toNat) 1).toInt ∧ (0 ≤ a2.toInt ∧ 0 ≤ a4.toInt ∧ 0 ≤ a5.toInt ∧ a2.toInt + a5.toInt ≤ (gV σ 20 (a1.toInt.toNat) 2).toInt ∧ a4.toInt + a5.toInt ≤ (gV σ 20 (a3.toInt.toNat) 2).toInt) ∧ r1.toInt = a5.toInt))) (c1 : (((a1.toInt < 0 ∨ 7 < a1.toInt ∨ a3.toInt < 0 ∨ 7 < a3.toInt) → (gV τ 0 0 12).toInt = (gV σ 0 0 12).toInt) ∧ (((0 ≤ a1.toInt ∧ a1.toInt ≤ 7 ∧ 0 ≤ a3.toInt ∧ a3.toInt ≤ 7) ∧ ((gV σ 20 (a1.toInt.toNat) 1).toInt = -1 ∨ (gV σ 20 (a3.toInt.toNat) 1).toInt = -1)) → (gV τ 0 0 12).toInt = 1) ∧ (((0 ≤ a1.toInt ∧ a1.toInt ≤ 7 ∧ 0 ≤ a3.toInt ∧ a3.toInt ≤ 7) ∧ ¬ ((gV σ 20 (a1.toInt.toNat) 1).toInt = -1) ∧ ¬ ((gV σ 20 (a3.toInt.toNat) 1).toInt = -1) ∧ ¬ ((gV σ 20 (a1.toInt.toNat) 1).toInt = (gV σ 20 (a3.toInt.toNat) 1).toInt)) → (gV τ 0 0 12).toInt = 5) ∧ (((0 ≤ a1.toInt ∧ a1.toInt ≤ 7 ∧ 0 ≤ a3.toInt ∧ a3.toInt ≤ 7) ∧ ¬ ((gV σ 20 (a1.toInt.toNat) 1).toInt = -1) ∧ ¬ ((gV σ 20 (a3.toInt.toNat) 1).toInt = -1) ∧ (gV σ 20 (a1.toInt.toNat) 1).toInt = (gV σ 20 (a3.toInt.toNat) 1).toInt ∧ ¬ (0 ≤ a2.toInt ∧ 0 ≤ a4.toInt ∧ 0 ≤ a5.toInt ∧ a2.toInt + a5.toInt ≤ (gV σ 20 (a1.toInt.toNat) 2).toInt ∧ a4.toInt + a5.toInt ≤ (gV σ 20 (a3.toInt.toNat) 2).toInt)) → (gV τ 0 0 12).toInt = 2) ∧ (((0 ≤ a1.toInt ∧ a1.toInt ≤ 7 ∧ 0 ≤ a3.toInt ∧ a3.toInt ≤ 7) ∧ ¬ ((gV σ 20 (a1.toInt.toNat) 1).toInt = -1) ∧ ¬ ((gV σ 20 (a3.toInt.toNat) 1).toInt = -1) ∧ (gV σ 20 (a1.toInt.toNat) 1).toInt = (gV σ 20 (a3.toInt.toNat) 1).toInt ∧ (0 ≤ a2.toInt ∧ 0 ≤ a4.toInt ∧ 0 ≤ a5.toInt ∧ a2.toInt + a5.toInt ≤ (gV σ 20 (a1.toInt.toNat) 2).toInt ∧ a4.toInt + a5.toInt ≤ (gV σ 20 (a3.toInt.toNat) 2).toInt)) → (gV τ 0 0 12).toInt = 0))) (c2 : ((((0 ≤ a1.toInt ∧ a1.toInt ≤ 7 ∧ 0 ≤ a3.toInt ∧ a3.toInt ≤ 7) ∧ ¬ ((gV σ 20 (a1.toInt.toNat) 1).toInt = -1) ∧ ¬ ((gV σ 20 (a3.toInt.toNat) 1).toInt = -1) ∧ (gV σ 20 (a1.toInt.toNat) 1).toInt = (gV σ 20 (a3.toInt.toNat) 1).toInt ∧ (0 ≤ a2.toInt ∧ 0 ≤ a4.toInt ∧ 0 ≤ a5.toInt ∧ a2.toInt + a5.toInt ≤ (gV σ 20 (a1.toInt.toNat) 2).toInt ∧ a4.toInt + a5.toInt ≤ (gV σ 20 (a3.toInt.toNat) 2).toInt)) → IC σ τ (a1.toInt.toNat) (a2.toInt.toNat) (a3.toInt.toNat) (a4.toInt.toNat) (a5.toInt.toNat)) ∧ (¬ ((0 ≤ a1.toInt ∧ a1.toInt ≤ 7 ∧ 0 ≤ a3.toInt ∧ a3.toInt ≤ 7) ∧ ¬ ((gV σ 20 (a1.toInt.toNat) 1).toInt = -1) ∧ ¬ ((gV σ 20 (a3.toInt.toNat) 1).toInt = -1) ∧ (gV σ 20 (a1.toInt.toNat) 1).toInt = (gV σ 20 (a3.toInt.toNat) 1).toInt ∧ (0 ≤ a2.toInt ∧ 0 ≤ a4.toInt ∧ 0 ≤ a5.toInt ∧ a2.toInt + a5.toInt ≤ (gV σ 20 (a1.toInt.toNat) 2).toInt ∧ a4.toInt + a5.toInt ≤ (gV σ 20 (a3.toInt.toNat) 2).toInt)) → SameI σ τ))) (m0 : (((a1.toInt < 0 ∨ 7 < a1.toInt ∨ a3.toInt < 0 ∨ 7 < a3.toInt) ∧ r2.toInt = -1000001) ∨ ((0 ≤ a1.toInt ∧ a1.toInt ≤ 7 ∧ 0 ≤ a3.toInt ∧ a3.toInt ≤ 7) ∧ ((gV τ 26 0 (a1.toInt.toNat)).toInt < 0 ∨ (gV τ 26 0 (a3.toInt.toNat)).toInt < 0) ∧ r2.toInt = -1000011) ∨ ((0 ≤ a1.toInt ∧ a1.toInt ≤ 7 ∧ 0 ≤ a3.toInt ∧ a3.toInt ≤ 7) ∧ ¬ ((gV τ 26 0 (a1.toInt.toNat)).toInt < 0) ∧ ¬ ((gV τ 26 0 (a3.toInt.toNat)).toInt < 0) ∧ (gV τ 26 0 (a1.toInt.toNat)).toInt ≠ (gV τ 26 0 (a3.toInt.toNat)).toInt ∧ r2.toInt = -1000015) ∨ ((0 ≤ a1.toInt ∧ a1.toInt ≤ 7 ∧ 0 ≤ a3.toInt ∧ a3.toInt ≤ 7) ∧ ¬ ((gV τ 26 0 (a1.toInt.toNat)).toInt < 0) ∧ ¬ ((gV τ 26 0 (a3.toInt.toNat)).toInt < 0) ∧ (gV τ 26 0 (a1.toInt.toNat)).toInt = (gV τ 26 0 (a3.toInt.toNat)).toInt ∧ ¬ (0 ≤ a2.toInt ∧ 0 ≤ a4.toInt ∧ 0 ≤ a5.toInt ∧ a2.toInt + a5.toInt ≤ (gV τ 27 0 (a1.toInt.toNat)).toInt ∧ a4.toInt + a5.toInt ≤ (gV τ 27 0 (a3.toInt.toNat)).toInt) ∧ r2.toInt = -1000012) ∨ ((0 ≤ a1.toInt ∧ a1.toInt ≤ 7 ∧ 0 ≤ a3.toInt ∧ a3.toInt ≤ 7) ∧ ¬ ((gV τ 26 0 (a1.toInt.toNat)).toInt < 0) ∧ ¬ ((gV τ 26 0 (a3.toInt.toNat)).toInt < 0) ∧ (gV τ 26 0 (a1.toInt.toNat)).toInt = (gV τ 26 0 (a3.toInt.toNat)).toInt ∧ (0 ≤ a2.toInt ∧ 0 ≤ a4.toInt ∧ 0 ≤ a5.toInt ∧ a2.toInt + a5.toInt ≤ (gV τ 27 0 (a1.toInt.toNat)).toInt ∧ a4.toInt + a5.toInt ≤ (gV τ 27 0 (a3.toInt.toNat)).toInt) ∧ r2.toInt = a5.toInt))) (m1 : (((a1.toInt < 0 ∨ 7 < a1.toInt ∨ a3.toInt < 0 ∨ 7 < a3.toInt) → (gV υ 22 0 8).toInt = (gV τ 22 0 8).toInt) ∧ (((0 ≤ a1.toInt ∧ a1.toInt ≤ 7 ∧ 0 ≤ a3.toInt ∧ a3.toInt ≤ 7) ∧ ((gV τ 26 0 (a1.toInt.toNat)).toInt < 0 ∨ (gV τ 26 0 (a3.toInt.toNat)).toInt < 0)) → (gV υ 22 0 8).toInt = 1) ∧ (((0 ≤ a1.toInt ∧ a1.toInt ≤ 7 ∧ 0 ≤ a3.toInt ∧ a3.toInt ≤ 7) ∧ ¬ ((gV τ 26 0 (a1.toInt.toNat)).toInt < 0) ∧ ¬ ((gV τ 26 0 (a3.toInt.toNat)).toInt < 0) ∧ ¬ ((gV τ 26 0 (a1.toInt.toNat)).toInt = (gV τ 26 0 (a3.toInt.toNat)).toInt)) → (gV υ 22 0 8).toInt = 5) ∧ (((0 ≤ a1.toInt ∧ a1.toInt ≤ 7 ∧ 0 ≤ a3.toInt ∧ a3.toInt ≤ 7) ∧ ¬ ((gV τ 26 0 (a1.toInt.toNat)).toInt < 0) ∧ ¬ ((gV τ 26 0 (a3.toInt.toNat)).toInt < 0) ∧ (gV τ 26 0 (a1.toInt.toNat)).toInt = (gV τ 26 0 (a3.toInt.toNat)).toInt ∧ ¬ (0 ≤ a2.toInt ∧ 0 ≤ a4.toInt ∧ 0 ≤ a5.toInt ∧ a2.toInt + a5.toInt ≤ (gV τ 27 0 (a1.toInt.toNat)).toInt ∧ a4.toInt + a5.toInt ≤ (gV τ 27 0 (a3.toInt.toNat)).toInt)) → (gV υ 22 0 8).toInt = 2) ∧ (((0 ≤ a1.toInt ∧ a1.toInt ≤ 7 ∧ 0 ≤ a3.toInt ∧ a3.toInt ≤ 7) ∧ ¬ ((gV τ 26 0 (a1.toInt.toNat)).toInt < 0) ∧ ¬ ((gV τ 26 0 (a3.toInt.toNat)).toInt < 0) ∧ (gV τ 26 0 (a1.toInt.toNat)).toInt = (gV τ 26 0 (a3.toInt.toNat)).toInt ∧ (0 ≤ a2.toInt ∧ 0 ≤ a4.toInt ∧ 0 ≤ a5.toInt ∧ a2.toInt + a5.toInt ≤ (gV τ 27 0 (a1.toInt.toNat)).toInt ∧ a4.toInt + a5.toInt ≤ (gV τ 27 0 (a3.toInt.toNat)).toInt)) → (gV υ 22 0 8).toInt = 0))) (m2 : ((((0 ≤ a1.toInt ∧ a1.toInt ≤ 7 ∧ 0 ≤ a3.toInt ∧ a3.toInt ≤ 7) ∧ ¬ ((gV τ 26 0 (a1.toInt.toNat)).toInt < 0) ∧ ¬ ((gV τ 26 0 (a3.toInt.toNat)).toInt < 0) ∧ (gV τ 26 0 (a1.toInt.toNat)).toInt = (gV τ 26 0 (a3.toInt.toNat)).toInt ∧ (0 ≤ a2.toInt ∧ 0 ≤ a4.toInt ∧ 0 ≤ a5.toInt ∧ a2.toInt + a5.toInt ≤ (gV τ 27 0 (a1.toInt.toNat)).toInt ∧ a4.toInt + a5.toInt ≤ (gV τ 27 0 (a3.toInt.toNat)).toInt)) → JC τ υ (40 * (a1.toInt.toNat) + (a2.toInt.toNat)) (40 * (a3.toInt.toNat) + (a4.toInt.toNat)) (a5.toInt.toNat)) ∧ (¬ ((0 ≤ a1.toInt ∧ a1.toInt ≤ 7 ∧ 0 ≤ a3.toInt ∧ a3.toInt ≤ 7) ∧ ¬ ((gV τ 26 0 (a1.toInt.toNat)).toInt < 0) ∧ ¬ ((gV τ 26 0 (a3.toInt.toNat)).toInt < 0) ∧ (gV τ 26 0 (a1.toInt.toNat)).toInt = (gV τ 26 0 (a3.toInt.toNat)).toInt ∧ (0 ≤ a2.toInt ∧ 0 ≤ a4.toInt ∧ 0 ≤ a5.toInt ∧ a2.toInt + a5.toInt ≤ (gV τ 27 0 (a1.toInt.toNat)).toInt ∧ a4.toInt + a5.toInt ≤ (gV τ 27 0 (a3.toInt.toNat)).toInt)) → SameJ τ υ))) : RI υ := by
  have e2 : SameJ σ τ := fun k => f1.1 25 0 k (by simp) (by decide)
  have e1 : SameI τ υ := fun j i => f2.1 21 j i (by simp) (by decide)
  have l1 : SameL σ τ := SameL.rf.fr f1 (by simp) (by decide)
  have g1 : (a1.toInt.toNat) < 8 → (gV σ 20 (a1.toInt.toNat) 1).toInt = (gV τ 26 0 (a1.toInt.toNat)).toInt ∧ -1 ≤ (gV τ 26 0 (a1.toInt.toNat)).toInt ∧ (0 ≤ (gV τ 26 0 (a1.toInt.toNat)).toInt → (gV σ 20 (a1.toInt.toNat) 2).toInt = (gV τ 27 0 (a1.toInt.toNat)).toInt) := fun hj => by
    rw [(l1 (a1.toInt.toNat)).1, (l1 (a1.toInt.toNat)).2]
    exact ⟨congrArg Int32.toInt (h.1 (a1.toInt.toNat) hj).1, (h.1 (a1.toInt.toNat) hj).2.1, fun q => congrArg Int32.toInt ((h.1 (a1.toInt.toNat) hj).2.2 q)⟩
  have g3 : (a3.toInt.toNat) < 8 → (gV σ 20 (a3.toInt.toNat) 1).toInt = (gV τ 26 0 (a3.toInt.toNat)).toInt ∧ -1 ≤ (gV τ 26 0 (a3.toInt.toNat)).toInt ∧ (0 ≤ (gV τ 26 0 (a3.toInt.toNat)).toInt → (gV σ 20 (a3.toInt.toNat) 2).toInt = (gV τ 27 0 (a3.toInt.toNat)).toInt) := fun hj => by
    rw [(l1 (a3.toInt.toNat)).1, (l1 (a3.toInt.toNat)).2]
    exact ⟨congrArg Int32.toInt (h.1 (a3.toInt.toNat) hj).1, (h.1 (a3.toInt.toNat) hj).2.1, fun q => congrArg Int32.toInt ((h.1 (a3.toInt.toNat) hj).2.2 q)⟩
  have e3 : SameL σ υ := fun q => ⟨(f2.1 26 0 q (by simp) (by decide)).trans (l1 q).1, (f2.1 27 0 q (by simp) (by decide)).trans (l1 q).2⟩
  by_cases hin : 0 ≤ a1.toInt ∧ a1.toInt ≤ 7 ∧ 0 ≤ a3.toInt ∧ a3.toInt ≤ 7
  · have q := g1 (by omega)
    have q3 := g3 (by omega)
    have b : IV (gV τ 27 0 (a3.toInt.toNat)) 0 40 := by rw [(l1 _).2]; exact hI.1 27 0 (a3.toInt.toNat)
    have b2 := b.2
    by_cases g : ((0 ≤ a1.toInt ∧ a1.toInt ≤ 7 ∧ 0 ≤ a3.toInt ∧ a3.toInt ≤ 7) ∧ ¬ ((gV σ 20 (a1.toInt.toNat) 1).toInt = -1) ∧ ¬ ((gV σ 20 (a3.toInt.toNat) 1).toInt = -1) ∧ (gV σ 20 (a1.toInt.toNat) 1).toInt = (gV σ 20 (a3.toInt.toNat) 1).toInt ∧ (0 ≤ a2.toInt ∧ 0 ≤ a4.toInt ∧ 0 ≤ a5.toInt ∧ a2.toInt + a5.toInt ≤ (gV σ 20 (a1.toInt.toNat) 2).toInt ∧ a4.toInt + a5.toInt ≤ (gV σ 20 (a3.toInt.toNat) 2).toInt))
    · have g' : ((0 ≤ a1.toInt ∧ a1.toInt ≤ 7 ∧ 0 ≤ a3.toInt ∧ a3.toInt ≤ 7) ∧ ¬ ((gV τ 26 0 (a1.toInt.toNat)).toInt < 0) ∧ ¬ ((gV τ 26 0 (a3.toInt.toNat)).toInt < 0) ∧ (gV τ 26 0 (a1.toInt.toNat)).toInt = (gV τ 26 0 (a3.toInt.toNat)).toInt ∧ (0 ≤ a2.toInt ∧ 0 ≤ a4.toInt ∧ 0 ≤ a5.toInt ∧ a2.toInt + a5.toInt ≤ (gV τ 27 0 (a1.toInt.toNat)).toInt ∧ a4.toInt + a5.toInt ≤ (gV τ 27 0 (a3.toInt.toNat)).toInt)) := by omega
      exact hi.copy hI (c2.1 g) e1 e2 (m2.1 g') e3 (by omega) (by rw [← (l1 _).1]; omega) (by rw [← (l1 _).2]; omega) (by omega)
    · have g' : ¬ ((0 ≤ a1.toInt ∧ a1.toInt ≤ 7 ∧ 0 ≤ a3.toInt ∧ a3.toInt ≤ 7) ∧ ¬ ((gV τ 26 0 (a1.toInt.toNat)).toInt < 0) ∧ ¬ ((gV τ 26 0 (a3.toInt.toNat)).toInt < 0) ∧ (gV τ 26 0 (a1.toInt.toNat)).toInt = (gV τ 26 0 (a3.toInt.toNat)).toInt ∧ (0 ≤ a2.toInt ∧ 0 ≤ a4.toInt ∧ 0 ≤ a5.toInt ∧ a2.toInt + a5.toInt ≤ (gV τ 27 0 (a1.toInt.toNat)).toInt ∧ a4.toInt + a5.toInt ≤ (gV τ 27 0 (a3.toInt.toNat)).toInt)) := by omega
      exact hi.same (fun j i => (e1 j i).trans (c2.2 g j i)) (fun z => (m2.2 g' z).trans (e2 z)) e3
  · skip
    exact hi.same (fun j i => (e1 j i).trans (c2.2 (by omega) j i)) (fun z => (m2.2 (by omega) z).trans (e2 z)) e3
theorem RB.dropB {σ τ υ : Sg} {a1 r1 r2 : Int32} (h : Rel σ) (hI : Inv σ) (hi : RI σ) (f1 : Fr MS_X11_dropQ AS_X11_dropQ σ τ) (f2 : Fr MS_X12_dropQ AS_X12_dropQ τ υ) (c0 : (((a1.toInt < 0 ∨ 7 < a1.toInt) ∧ r1.toInt = -1000001 ∧ SameR σ τ) ∨ ((0 ≤ a1.toInt ∧ a1.toInt ≤ 7) ∧ (gV σ 20 (a1.toInt.toNat) 1).toInt = -1 ∧ r1.toInt = -1000011 ∧ SameR σ τ) ∨ ((0 ≤ a1.toInt ∧ a1.toInt ≤ 7) ∧ ¬ ((gV σ 20 (a1.toInt.toNat) 1).toInt = -1) ∧ r1.toInt = (gV σ 20 (a1.toInt.toNat) 2).toInt ∧ BG σ τ (a1.toInt.toNat) (-1) 0))) (c1 : (((a1.toInt < 0 ∨ 7 < a1.toInt) → (gV τ 0 0 12).toInt = (gV σ 0 0 12).toInt) ∧ (((0 ≤ a1.toInt ∧ a1.toInt ≤ 7) ∧ (gV σ 20 (a1.toInt.toNat) 1).toInt = -1) → (gV τ 0 0 12).toInt = 1) ∧ (((0 ≤ a1.toInt ∧ a1.toInt ≤ 7) ∧ ¬ ((gV σ 20 (a1.toInt.toNat) 1).toInt = -1)) → (gV τ 0 0 12).toInt = 0))) (c2 : SameI σ τ) (m0 : (((a1.toInt < 0 ∨ 7 < a1.toInt) ∧ r2.toInt = -1000001 ∧ SameL τ υ) ∨ ((0 ≤ a1.toInt ∧ a1.toInt ≤ 7) ∧ (gV τ 26 0 (a1.toInt.toNat)).toInt < 0 ∧ r2.toInt = -1000011 ∧ SameL τ υ) ∨ ((0 ≤ a1.toInt ∧ a1.toInt ≤ 7) ∧ ¬ ((gV τ 26 0 (a1.toInt.toNat)).toInt < 0) ∧ r2.toInt = (gV τ 27 0 (a1.toInt.toNat)).toInt ∧ LD τ υ (a1.toInt.toNat)))) (m1 : (((a1.toInt < 0 ∨ 7 < a1.toInt) → (gV υ 22 0 8).toInt = (gV τ 22 0 8).toInt) ∧ (((0 ≤ a1.toInt ∧ a1.toInt ≤ 7) ∧ (gV τ 26 0 (a1.toInt.toNat)).toInt < 0) → (gV υ 22 0 8).toInt = 1) ∧ (((0 ≤ a1.toInt ∧ a1.toInt ≤ 7) ∧ ¬ ((gV τ 26 0 (a1.toInt.toNat)).toInt < 0)) → (gV υ 22 0 8).toInt = 0))) (m2 : SameJ τ υ) : RI υ := by
  have e2 : SameJ σ τ := fun k => f1.1 25 0 k (by simp) (by decide)
  have e1 : SameI τ υ := fun j i => f2.1 21 j i (by simp) (by decide)
  have l1 : SameL σ τ := SameL.rf.fr f1 (by simp) (by decide)
  have g1 : (a1.toInt.toNat) < 8 → (gV σ 20 (a1.toInt.toNat) 1).toInt = (gV τ 26 0 (a1.toInt.toNat)).toInt ∧ -1 ≤ (gV τ 26 0 (a1.toInt.toNat)).toInt ∧ (0 ≤ (gV τ 26 0 (a1.toInt.toNat)).toInt → (gV σ 20 (a1.toInt.toNat) 2).toInt = (gV τ 27 0 (a1.toInt.toNat)).toInt) := fun hj => by
    rw [(l1 (a1.toInt.toNat)).1, (l1 (a1.toInt.toNat)).2]
    exact ⟨congrArg Int32.toInt (h.1 (a1.toInt.toNat) hj).1, (h.1 (a1.toInt.toNat) hj).2.1, fun q => congrArg Int32.toInt ((h.1 (a1.toInt.toNat) hj).2.2 q)⟩
  have d1 : SameI σ υ := fun j i => (e1 j i).trans (c2 j i)
  have d2 : SameJ σ υ := fun k => (m2 k).trans (e2 k)
  · rcases m0 with ⟨_, _, u⟩ | ⟨_, _, _, u⟩ | ⟨_, _, _, u⟩
    · exact hi.same d1 d2 (fun q => ⟨(u q).1.trans (l1 q).1, (u q).2.trans (l1 q).2⟩)
    · exact hi.same d1 d2 (fun q => ⟨(u q).1.trans (l1 q).1, (u q).2.trans (l1 q).2⟩)
    · exact hi.drop d1 d2 l1 u
theorem SQ.rowB {σ τ υ : Sg} {a1 a2 a3 : Int32} (h : Rel σ) (hs : ST σ) (f1 : Fr MS_X11_rowQ AS_X11_rowQ σ τ) (f2 : Fr MS_X12_rowQ AS_X12_rowQ τ υ) (c1 : Hid (((a1.toInt < 0 ∨ 7 < a1.toInt ∨ a2.toInt < 0 ∨ 2 < a2.toInt ∨ 40 < a3.toInt) → (gV τ 0 0 12).toInt = (gV σ 0 0 12).toInt) ∧ (((0 ≤ a1.toInt ∧ a1.toInt ≤ 7 ∧ 0 ≤ a2.toInt ∧ a2.toInt ≤ 2) ∧ a3.toInt < 0) → (gV τ 0 0 12).toInt = 4) ∧ (((0 ≤ a1.toInt ∧ a1.toInt ≤ 7 ∧ 0 ≤ a2.toInt ∧ a2.toInt ≤ 2) ∧ 0 ≤ a3.toInt ∧ a3.toInt ≤ 40) → (gV τ 0 0 12).toInt = 0))) (m1 : Hid (((a1.toInt < 0 ∨ 7 < a1.toInt ∨ a2.toInt < 0 ∨ 2 < a2.toInt ∨ 40 < a3.toInt) → (gV υ 22 0 8).toInt = (gV τ 22 0 8).toInt) ∧ (((0 ≤ a1.toInt ∧ a1.toInt ≤ 7 ∧ 0 ≤ a2.toInt ∧ a2.toInt ≤ 2) ∧ a3.toInt < 0) → (gV υ 22 0 8).toInt = 4) ∧ (((0 ≤ a1.toInt ∧ a1.toInt ≤ 7 ∧ 0 ≤ a2.toInt ∧ a2.toInt ≤ 2) ∧ 0 ≤ a3.toInt ∧ a3.toInt ≤ 40) → (gV υ 22 0 8).toInt = 0))) : ST υ := by
  have s1 : (gV υ 0 0 12).toInt = (gV τ 0 0 12).toInt := congrArg Int32.toInt (f2.1 0 0 12 (by decide) (by decide))
  have s2 : (gV τ 22 0 8).toInt = (gV σ 22 0 8).toInt := congrArg Int32.toInt (f1.1 22 0 8 (by decide) (by decide))
  have s3 : (gV σ 0 0 12).toInt = (gV σ 22 0 8).toInt := hs
  by_cases p0 : (a1.toInt < 0 ∨ 7 < a1.toInt ∨ a2.toInt < 0 ∨ 2 < a2.toInt ∨ 40 < a3.toInt)
  · have x : (a1.toInt < 0 ∨ 7 < a1.toInt ∨ a2.toInt < 0 ∨ 2 < a2.toInt ∨ 40 < a3.toInt) := p0
    have e := c1.1 x
    have f := m1.1 x
    show (gV υ 0 0 12).toInt = (gV υ 22 0 8).toInt
    omega
  · skip
    by_cases p1 : a3.toInt < 0
    · have x : ((0 ≤ a1.toInt ∧ a1.toInt ≤ 7 ∧ 0 ≤ a2.toInt ∧ a2.toInt ≤ 2) ∧ a3.toInt < 0) := (by omega)
      have e := c1.2.1 x
      have f := m1.2.1 x
      show (gV υ 0 0 12).toInt = (gV υ 22 0 8).toInt
      omega
    · skip
      have x : ((0 ≤ a1.toInt ∧ a1.toInt ≤ 7 ∧ 0 ≤ a2.toInt ∧ a2.toInt ≤ 2) ∧ 0 ≤ a3.toInt ∧ a3.toInt ≤ 40) := (by omega)
      have e := c1.2.2 x
      have f := m1.2.2 x
      show (gV υ 0 0 12).toInt = (gV υ 22 0 8).toInt
      omega
theorem SQ.setB {σ τ υ : Sg} {a1 a2 : Int32} (h : Rel σ) (hs : ST σ) (f1 : Fr MS_X11_setQ AS_X11_setQ σ τ) (f2 : Fr MS_X12_setQ AS_X12_setQ τ υ) (c1 : Hid (((a1.toInt < 0 ∨ 7 < a1.toInt) → (gV τ 0 0 12).toInt = (gV σ 0 0 12).toInt) ∧ (((0 ≤ a1.toInt ∧ a1.toInt ≤ 7) ∧ (gV σ 20 (a1.toInt.toNat) 1).toInt = -1) → (gV τ 0 0 12).toInt = 1) ∧ (((0 ≤ a1.toInt ∧ a1.toInt ≤ 7) ∧ ¬ ((gV σ 20 (a1.toInt.toNat) 1).toInt = -1) ∧ (a2.toInt < 0 ∨ (gV σ 20 (a1.toInt.toNat) 2).toInt ≤ a2.toInt)) → (gV τ 0 0 12).toInt = 2) ∧ (((0 ≤ a1.toInt ∧ a1.toInt ≤ 7) ∧ ¬ ((gV σ 20 (a1.toInt.toNat) 1).toInt = -1) ∧ 0 ≤ a2.toInt ∧ a2.toInt < (gV σ 20 (a1.toInt.toNat) 2).toInt) → (gV τ 0 0 12).toInt = 0))) (m1 : Hid (((a1.toInt < 0 ∨ 7 < a1.toInt) → (gV υ 22 0 8).toInt = (gV τ 22 0 8).toInt) ∧ (((0 ≤ a1.toInt ∧ a1.toInt ≤ 7) ∧ (gV τ 26 0 (a1.toInt.toNat)).toInt < 0) → (gV υ 22 0 8).toInt = 1) ∧ (((0 ≤ a1.toInt ∧ a1.toInt ≤ 7) ∧ ¬ ((gV τ 26 0 (a1.toInt.toNat)).toInt < 0) ∧ (a2.toInt < 0 ∨ (gV τ 27 0 (a1.toInt.toNat)).toInt ≤ a2.toInt)) → (gV υ 22 0 8).toInt = 2) ∧ (((0 ≤ a1.toInt ∧ a1.toInt ≤ 7) ∧ ¬ ((gV τ 26 0 (a1.toInt.toNat)).toInt < 0) ∧ 0 ≤ a2.toInt ∧ a2.toInt < (gV τ 27 0 (a1.toInt.toNat)).toInt) → (gV υ 22 0 8).toInt = 0))) : ST υ := by
  have s1 : (gV υ 0 0 12).toInt = (gV τ 0 0 12).toInt := congrArg Int32.toInt (f2.1 0 0 12 (by decide) (by decide))
  have s2 : (gV τ 22 0 8).toInt = (gV σ 22 0 8).toInt := congrArg Int32.toInt (f1.1 22 0 8 (by decide) (by decide))
  have s3 : (gV σ 0 0 12).toInt = (gV σ 22 0 8).toInt := hs
  have l1 : SameL σ τ := SameL.rf.fr f1 (by simp) (by decide)
  have g1 : (a1.toInt.toNat) < 8 → (gV σ 20 (a1.toInt.toNat) 1).toInt = (gV τ 26 0 (a1.toInt.toNat)).toInt ∧ -1 ≤ (gV τ 26 0 (a1.toInt.toNat)).toInt ∧ (0 ≤ (gV τ 26 0 (a1.toInt.toNat)).toInt → (gV σ 20 (a1.toInt.toNat) 2).toInt = (gV τ 27 0 (a1.toInt.toNat)).toInt) := fun hj => by
    rw [(l1 (a1.toInt.toNat)).1, (l1 (a1.toInt.toNat)).2]
    exact ⟨congrArg Int32.toInt (h.1 (a1.toInt.toNat) hj).1, (h.1 (a1.toInt.toNat) hj).2.1, fun q => congrArg Int32.toInt ((h.1 (a1.toInt.toNat) hj).2.2 q)⟩
  by_cases p0 : (a1.toInt < 0 ∨ 7 < a1.toInt)
  · have x : (a1.toInt < 0 ∨ 7 < a1.toInt) := p0
    have e := c1.1 x
    clear g1
    have f := m1.1 x
    show (gV υ 0 0 12).toInt = (gV υ 22 0 8).toInt
    omega
  · skip
    by_cases p1 : (gV σ 20 (a1.toInt.toNat) 1).toInt = -1
    · have x : ((0 ≤ a1.toInt ∧ a1.toInt ≤ 7) ∧ (gV σ 20 (a1.toInt.toNat) 1).toInt = -1) := (by omega)
      have e := c1.2.1 x
      have q1 := g1 (by omega)
      clear g1
      have f := m1.2.1 (by omega)
      show (gV υ 0 0 12).toInt = (gV υ 22 0 8).toInt
      omega
    · skip
      by_cases p2 : (a2.toInt < 0 ∨ (gV σ 20 (a1.toInt.toNat) 2).toInt ≤ a2.toInt)
      · have x : ((0 ≤ a1.toInt ∧ a1.toInt ≤ 7) ∧ ¬ ((gV σ 20 (a1.toInt.toNat) 1).toInt = -1) ∧ (a2.toInt < 0 ∨ (gV σ 20 (a1.toInt.toNat) 2).toInt ≤ a2.toInt)) := (by omega)
        have e := c1.2.2.1 x
        have q1 := g1 (by omega)
        clear g1
        have f := m1.2.2.1 (by omega)
        show (gV υ 0 0 12).toInt = (gV υ 22 0 8).toInt
        omega
      · skip
        have x : ((0 ≤ a1.toInt ∧ a1.toInt ≤ 7) ∧ ¬ ((gV σ 20 (a1.toInt.toNat) 1).toInt = -1) ∧ 0 ≤ a2.toInt ∧ a2.toInt < (gV σ 20 (a1.toInt.toNat) 2).toInt) := (by omega)
        have e := c1.2.2.2 x
        have q1 := g1 (by omega)
        clear g1
        have f := m1.2.2.2 (by omega)
        show (gV υ 0 0 12).toInt = (gV υ 22 0 8).toInt
        omega
theorem SQ.copyB {σ τ υ : Sg} {a1 a2 a3 a4 a5 : Int32} (h : Rel σ) (hs : ST σ) (f1 : Fr MS_X11_copyQ AS_X11_copyQ σ τ) (f2 : Fr MS_X12_copyQ AS_X12_copyQ τ υ) (c1 : Hid (((a1.toInt < 0 ∨ 7 < a1.toInt ∨ a3.toInt < 0 ∨ 7 < a3.toInt) → (gV τ 0 0 12).toInt = (gV σ 0 0 12).toInt) ∧ (((0 ≤ a1.toInt ∧ a1.toInt ≤ 7 ∧ 0 ≤ a3.toInt ∧ a3.toInt ≤ 7) ∧ ((gV σ 20 (a1.toInt.toNat) 1).toInt = -1 ∨ (gV σ 20 (a3.toInt.toNat) 1).toInt = -1)) → (gV τ 0 0 12).toInt = 1) ∧ (((0 ≤ a1.toInt ∧ a1.toInt ≤ 7 ∧ 0 ≤ a3.toInt ∧ a3.toInt ≤ 7) ∧ ¬ ((gV σ 20 (a1.toInt.toNat) 1).toInt = -1) ∧ ¬ ((gV σ 20 (a3.toInt.toNat) 1).toInt = -1) ∧ ¬ ((gV σ 20 (a1.toInt.toNat) 1).toInt = (gV σ 20 (a3.toInt.toNat) 1).toInt)) → (gV τ 0 0 12).toInt = 5) ∧ (((0 ≤ a1.toInt ∧ a1.toInt ≤ 7 ∧ 0 ≤ a3.toInt ∧ a3.toInt ≤ 7) ∧ ¬ ((gV σ 20 (a1.toInt.toNat) 1).toInt = -1) ∧ ¬ ((gV σ 20 (a3.toInt.toNat) 1).toInt = -1) ∧ (gV σ 20 (a1.toInt.toNat) 1).toInt = (gV σ 20 (a3.toInt.toNat) 1).toInt ∧ ¬ (0 ≤ a2.toInt ∧ 0 ≤ a4.toInt ∧ 0 ≤ a5.toInt ∧ a2.toInt + a5.toInt ≤ (gV σ 20 (a1.toInt.toNat) 2).toInt ∧ a4.toInt + a5.toInt ≤ (gV σ 20 (a3.toInt.toNat) 2).toInt)) → (gV τ 0 0 12).toInt = 2) ∧ (((0 ≤ a1.toInt ∧ a1.toInt ≤ 7 ∧ 0 ≤ a3.toInt ∧ a3.toInt ≤ 7) ∧ ¬ ((gV σ 20 (a1.toInt.toNat) 1).toInt = -1) ∧ ¬ ((gV σ 20 (a3.toInt.toNat) 1).toInt = -1) ∧ (gV σ 20 (a1.toInt.toNat) 1).toInt = (gV σ 20 (a3.toInt.toNat) 1).toInt ∧ (0 ≤ a2.toInt ∧ 0 ≤ a4.toInt ∧ 0 ≤ a5.toInt ∧ a2.toInt + a5.toInt ≤ (gV σ 20 (a1.toInt.toNat) 2).toInt ∧ a4.toInt + a5.toInt ≤ (gV σ 20 (a3.toInt.toNat) 2).toInt)) → (gV τ 0 0 12).toInt = 0))) (m1 : Hid (((a1.toInt < 0 ∨ 7 < a1.toInt ∨ a3.toInt < 0 ∨ 7 < a3.toInt) → (gV υ 22 0 8).toInt = (gV τ 22 0 8).toInt) ∧ (((0 ≤ a1.toInt ∧ a1.toInt ≤ 7 ∧ 0 ≤ a3.toInt ∧ a3.toInt ≤ 7) ∧ ((gV τ 26 0 (a1.toInt.toNat)).toInt < 0 ∨ (gV τ 26 0 (a3.toInt.toNat)).toInt < 0)) → (gV υ 22 0 8).toInt = 1) ∧ (((0 ≤ a1.toInt ∧ a1.toInt ≤ 7 ∧ 0 ≤ a3.toInt ∧ a3.toInt ≤ 7) ∧ ¬ ((gV τ 26 0 (a1.toInt.toNat)).toInt < 0) ∧ ¬ ((gV τ 26 0 (a3.toInt.toNat)).toInt < 0) ∧ ¬ ((gV τ 26 0 (a1.toInt.toNat)).toInt = (gV τ 26 0 (a3.toInt.toNat)).toInt)) → (gV υ 22 0 8).toInt = 5) ∧ (((0 ≤ a1.toInt ∧ a1.toInt ≤ 7 ∧ 0 ≤ a3.toInt ∧ a3.toInt ≤ 7) ∧ ¬ ((gV τ 26 0 (a1.toInt.toNat)).toInt < 0) ∧ ¬ ((gV τ 26 0 (a3.toInt.toNat)).toInt < 0) ∧ (gV τ 26 0 (a1.toInt.toNat)).toInt = (gV τ 26 0 (a3.toInt.toNat)).toInt ∧ ¬ (0 ≤ a2.toInt ∧ 0 ≤ a4.toInt ∧ 0 ≤ a5.toInt ∧ a2.toInt + a5.toInt ≤ (gV τ 27 0 (a1.toInt.toNat)).toInt ∧ a4.toInt + a5.toInt ≤ (gV τ 27 0 (a3.toInt.toNat)).toInt)) → (gV υ 22 0 8).toInt = 2) ∧ (((0 ≤ a1.toInt ∧ a1.toInt ≤ 7 ∧ 0 ≤ a3.toInt ∧ a3.toInt ≤ 7) ∧ ¬ ((gV τ 26 0 (a1.toInt.toNat)).toInt < 0) ∧ ¬ ((gV τ 26 0 (a3.toInt.toNat)).toInt < 0) ∧ (gV τ 26 0 (a1.toInt.toNat)).toInt = (gV τ 26 0 (a3.toInt.toNat)).toInt ∧ (0 ≤ a2.toInt ∧ 0 ≤ a4.toInt ∧ 0 ≤ a5.toInt ∧ a2.toInt + a5.toInt ≤ (gV τ 27 0 (a1.toInt.toNat)).toInt ∧ a4.toInt + a5.toInt ≤ (gV τ 27 0 (a3.toInt.toNat)).toInt)) → (gV υ 22 0 8).toInt = 0))) : ST υ := by
  have s1 : (gV υ 0 0 12).toInt = (gV τ 0 0 12).toInt := congrArg Int32.toInt (f2.1 0 0 12 (by decide) (by decide))
  have s2 : (gV τ 22 0 8).toInt = (gV σ 22 0 8).toInt := congrArg Int32.toInt (f1.1 22 0 8 (by decide) (by decide))
  have s3 : (gV σ 0 0 12).toInt = (gV σ 22 0 8).toInt := hs
  have l1 : SameL σ τ := SameL.rf.fr f1 (by simp) (by decide)
  have g1 : (a1.toInt.toNat) < 8 → (gV σ 20 (a1.toInt.toNat) 1).toInt = (gV τ 26 0 (a1.toInt.toNat)).toInt ∧ -1 ≤ (gV τ 26 0 (a1.toInt.toNat)).toInt ∧ (0 ≤ (gV τ 26 0 (a1.toInt.toNat)).toInt → (gV σ 20 (a1.toInt.toNat) 2).toInt = (gV τ 27 0 (a1.toInt.toNat)).toInt) := fun hj => by
    rw [(l1 (a1.toInt.toNat)).1, (l1 (a1.toInt.toNat)).2]
    exact ⟨congrArg Int32.toInt (h.1 (a1.toInt.toNat) hj).1, (h.1 (a1.toInt.toNat) hj).2.1, fun q => congrArg Int32.toInt ((h.1 (a1.toInt.toNat) hj).2.2 q)⟩
  have g3 : (a3.toInt.toNat) < 8 → (gV σ 20 (a3.toInt.toNat) 1).toInt = (gV τ 26 0 (a3.toInt.toNat)).toInt ∧ -1 ≤ (gV τ 26 0 (a3.toInt.toNat)).toInt ∧ (0 ≤ (gV τ 26 0 (a3.toInt.toNat)).toInt → (gV σ 20 (a3.toInt.toNat) 2).toInt = (gV τ 27 0 (a3.toInt.toNat)).toInt) := fun hj => by
    rw [(l1 (a3.toInt.toNat)).1, (l1 (a3.toInt.toNat)).2]
    exact ⟨congrArg Int32.toInt (h.1 (a3.toInt.toNat) hj).1, (h.1 (a3.toInt.toNat) hj).2.1, fun q => congrArg Int32.toInt ((h.1 (a3.toInt.toNat) hj).2.2 q)⟩
  by_cases p0 : (a1.toInt < 0 ∨ 7 < a1.toInt ∨ a3.toInt < 0 ∨ 7 < a3.toInt)
  · have x : (a1.toInt < 0 ∨ 7 < a1.toInt ∨ a3.toInt < 0 ∨ 7 < a3.toInt) := p0
    have e := c1.1 x
    clear g1 g3
    have f := m1.1 x
    show (gV υ 0 0 12).toInt = (gV υ 22 0 8).toInt
    omega
  · skip
    by_cases p1 : ((gV σ 20 (a1.toInt.toNat) 1).toInt = -1 ∨ (gV σ 20 (a3.toInt.toNat) 1).toInt = -1)
    · have x : ((0 ≤ a1.toInt ∧ a1.toInt ≤ 7 ∧ 0 ≤ a3.toInt ∧ a3.toInt ≤ 7) ∧ ((gV σ 20 (a1.toInt.toNat) 1).toInt = -1 ∨ (gV σ 20 (a3.toInt.toNat) 1).toInt = -1)) := (by omega)
      have e := c1.2.1 x
      have q1 := g1 (by omega)
      have q3 := g3 (by omega)
      clear g1 g3
      have f := m1.2.1 (by omega)
      show (gV υ 0 0 12).toInt = (gV υ 22 0 8).toInt
      omega
    · skip
      by_cases p2 : ¬ ((gV σ 20 (a1.toInt.toNat) 1).toInt = (gV σ 20 (a3.toInt.toNat) 1).toInt)
      · have x : ((0 ≤ a1.toInt ∧ a1.toInt ≤ 7 ∧ 0 ≤ a3.toInt ∧ a3.toInt ≤ 7) ∧ ¬ ((gV σ 20 (a1.toInt.toNat) 1).toInt = -1) ∧ ¬ ((gV σ 20 (a3.toInt.toNat) 1).toInt = -1) ∧ ¬ ((gV σ 20 (a1.toInt.toNat) 1).toInt = (gV σ 20 (a3.toInt.toNat) 1).toInt)) := (by omega)
        have e := c1.2.2.1 x
        have q1 := g1 (by omega)
        have q3 := g3 (by omega)
        clear g1 g3
        have f := m1.2.2.1 (by omega)
        show (gV υ 0 0 12).toInt = (gV υ 22 0 8).toInt
        omega
      · skip
        by_cases p3 : ¬ (0 ≤ a2.toInt ∧ 0 ≤ a4.toInt ∧ 0 ≤ a5.toInt ∧ a2.toInt + a5.toInt ≤ (gV σ 20 (a1.toInt.toNat) 2).toInt ∧ a4.toInt + a5.toInt ≤ (gV σ 20 (a3.toInt.toNat) 2).toInt)
        · have x : ((0 ≤ a1.toInt ∧ a1.toInt ≤ 7 ∧ 0 ≤ a3.toInt ∧ a3.toInt ≤ 7) ∧ ¬ ((gV σ 20 (a1.toInt.toNat) 1).toInt = -1) ∧ ¬ ((gV σ 20 (a3.toInt.toNat) 1).toInt = -1) ∧ (gV σ 20 (a1.toInt.toNat) 1).toInt = (gV σ 20 (a3.toInt.toNat) 1).toInt ∧ ¬ (0 ≤ a2.toInt ∧ 0 ≤ a4.toInt ∧ 0 ≤ a5.toInt ∧ a2.toInt + a5.toInt ≤ (gV σ 20 (a1.toInt.toNat) 2).toInt ∧ a4.toInt + a5.toInt ≤ (gV σ 20 (a3.toInt.toNat) 2).toInt)) := (by omega)
          have e := c1.2.2.2.1 x
          have q1 := g1 (by omega)
          have q3 := g3 (by omega)
          clear g1 g3
          have f := m1.2.2.2.1 (by omega)
          show (gV υ 0 0 12).toInt = (gV υ 22 0 8).toInt
          omega
        · skip
          have x : ((0 ≤ a1.toInt ∧ a1.toInt ≤ 7 ∧ 0 ≤ a3.toInt ∧ a3.toInt ≤ 7) ∧ ¬ ((gV σ 20 (a1.toInt.toNat) 1).toInt = -1) ∧ ¬ ((gV σ 20 (a3.toInt.toNat) 1).toInt = -1) ∧ (gV σ 20 (a1.toInt.toNat) 1).toInt = (gV σ 20 (a3.toInt.toNat) 1).toInt ∧ (0 ≤ a2.toInt ∧ 0 ≤ a4.toInt ∧ 0 ≤ a5.toInt ∧ a2.toInt + a5.toInt ≤ (gV σ 20 (a1.toInt.toNat) 2).toInt ∧ a4.toInt + a5.toInt ≤ (gV σ 20 (a3.toInt.toNat) 2).toInt)) := (by omega)
          have e := c1.2.2.2.2 x
          have q1 := g1 (by omega)
          have q3 := g3 (by omega)
          clear g1 g3
          have f := m1.2.2.2.2 (by omega)
          show (gV υ 0 0 12).toInt = (gV υ 22 0 8).toInt
          omega
theorem SQ.dropB {σ τ υ : Sg} {a1 : Int32} (h : Rel σ) (hs : ST σ) (f1 : Fr MS_X11_dropQ AS_X11_dropQ σ τ) (f2 : Fr MS_X12_dropQ AS_X12_dropQ τ υ) (c1 : Hid (((a1.toInt < 0 ∨ 7 < a1.toInt) → (gV τ 0 0 12).toInt = (gV σ 0 0 12).toInt) ∧ (((0 ≤ a1.toInt ∧ a1.toInt ≤ 7) ∧ (gV σ 20 (a1.toInt.toNat) 1).toInt = -1) → (gV τ 0 0 12).toInt = 1) ∧ (((0 ≤ a1.toInt ∧ a1.toInt ≤ 7) ∧ ¬ ((gV σ 20 (a1.toInt.toNat) 1).toInt = -1)) → (gV τ 0 0 12).toInt = 0))) (m1 : Hid (((a1.toInt < 0 ∨ 7 < a1.toInt) → (gV υ 22 0 8).toInt = (gV τ 22 0 8).toInt) ∧ (((0 ≤ a1.toInt ∧ a1.toInt ≤ 7) ∧ (gV τ 26 0 (a1.toInt.toNat)).toInt < 0) → (gV υ 22 0 8).toInt = 1) ∧ (((0 ≤ a1.toInt ∧ a1.toInt ≤ 7) ∧ ¬ ((gV τ 26 0 (a1.toInt.toNat)).toInt < 0)) → (gV υ 22 0 8).toInt = 0))) : ST υ := by
  have s1 : (gV υ 0 0 12).toInt = (gV τ 0 0 12).toInt := congrArg Int32.toInt (f2.1 0 0 12 (by decide) (by decide))
  have s2 : (gV τ 22 0 8).toInt = (gV σ 22 0 8).toInt := congrArg Int32.toInt (f1.1 22 0 8 (by decide) (by decide))
  have s3 : (gV σ 0 0 12).toInt = (gV σ 22 0 8).toInt := hs
  have l1 : SameL σ τ := SameL.rf.fr f1 (by simp) (by decide)
  have g1 : (a1.toInt.toNat) < 8 → (gV σ 20 (a1.toInt.toNat) 1).toInt = (gV τ 26 0 (a1.toInt.toNat)).toInt ∧ -1 ≤ (gV τ 26 0 (a1.toInt.toNat)).toInt ∧ (0 ≤ (gV τ 26 0 (a1.toInt.toNat)).toInt → (gV σ 20 (a1.toInt.toNat) 2).toInt = (gV τ 27 0 (a1.toInt.toNat)).toInt) := fun hj => by
    rw [(l1 (a1.toInt.toNat)).1, (l1 (a1.toInt.toNat)).2]
    exact ⟨congrArg Int32.toInt (h.1 (a1.toInt.toNat) hj).1, (h.1 (a1.toInt.toNat) hj).2.1, fun q => congrArg Int32.toInt ((h.1 (a1.toInt.toNat) hj).2.2 q)⟩
  by_cases p0 : (a1.toInt < 0 ∨ 7 < a1.toInt)
  · have x : (a1.toInt < 0 ∨ 7 < a1.toInt) := p0
    have e := c1.1 x
    clear g1
    have f := m1.1 x
    show (gV υ 0 0 12).toInt = (gV υ 22 0 8).toInt
    omega
  · skip
    by_cases p1 : (gV σ 20 (a1.toInt.toNat) 1).toInt = -1
    · have x : ((0 ≤ a1.toInt ∧ a1.toInt ≤ 7) ∧ (gV σ 20 (a1.toInt.toNat) 1).toInt = -1) := (by omega)
      have e := c1.2.1 x
      have q1 := g1 (by omega)
      clear g1
      have f := m1.2.1 (by omega)
      show (gV υ 0 0 12).toInt = (gV υ 22 0 8).toInt
      omega
    · skip
      have x : ((0 ≤ a1.toInt ∧ a1.toInt ≤ 7) ∧ ¬ ((gV σ 20 (a1.toInt.toNat) 1).toInt = -1)) := (by omega)
      have e := c1.2.2 x
      have q1 := g1 (by omega)
      clear g1
      have f := m1.2.2 (by omega)
      show (gV υ 0 0 12).toInt = (gV υ 22 0 8).toInt
      omega
theorem SQ.asB {σ τ υ : Sg} {S : Stt} {a1 a2 : Int32} (h : Rel σ) (hs : ST σ) (f1 : Fr MS_X11_asQ AS_X11_asQ σ τ) (f2 : Fr MS_X12_asQ AS_X12_asQ τ υ) (c1 : Hid ((((a1.toInt < 0 ∨ S.2.1 ≤ a1.toInt) ∨ a2.toInt < 0 ∨ 5 < a2.toInt) → (gV τ 0 0 12).toInt = (gV σ 0 0 12).toInt) ∧ (((0 ≤ a1.toInt ∧ a1.toInt < S.2.1) ∧ 0 ≤ a2.toInt ∧ a2.toInt ≤ 5 ∧ (a2.toInt = 0 ∨ (S.2.2 a1.toInt.toNat).1 = a2.toInt ∨ (a2.toInt = 1 ∧ (S.2.2 a1.toInt.toNat).1 ≤ 3) ∨ (a2.toInt = 4 ∧ (S.2.2 a1.toInt.toNat).1 = 5))) → (gV τ 0 0 12).toInt = 0) ∧ (((0 ≤ a1.toInt ∧ a1.toInt < S.2.1) ∧ 0 ≤ a2.toInt ∧ a2.toInt ≤ 5 ∧ ¬ (a2.toInt = 0 ∨ (S.2.2 a1.toInt.toNat).1 = a2.toInt ∨ (a2.toInt = 1 ∧ (S.2.2 a1.toInt.toNat).1 ≤ 3) ∨ (a2.toInt = 4 ∧ (S.2.2 a1.toInt.toNat).1 = 5))) → (gV τ 0 0 12).toInt = 3))) (m1 : Hid ((((a1.toInt < 0 ∨ S.2.1 ≤ a1.toInt) ∨ a2.toInt < 0 ∨ 5 < a2.toInt) → (gV υ 22 0 8).toInt = (gV τ 22 0 8).toInt) ∧ (((0 ≤ a1.toInt ∧ a1.toInt < S.2.1) ∧ 0 ≤ a2.toInt ∧ a2.toInt ≤ 5 ∧ (a2.toInt = 0 ∨ (S.2.2 a1.toInt.toNat).1 = a2.toInt ∨ (a2.toInt = 1 ∧ (S.2.2 a1.toInt.toNat).1 ≤ 3) ∨ (a2.toInt = 4 ∧ (S.2.2 a1.toInt.toNat).1 = 5))) → (gV υ 22 0 8).toInt = 0) ∧ (((0 ≤ a1.toInt ∧ a1.toInt < S.2.1) ∧ 0 ≤ a2.toInt ∧ a2.toInt ≤ 5 ∧ ¬ (a2.toInt = 0 ∨ (S.2.2 a1.toInt.toNat).1 = a2.toInt ∨ (a2.toInt = 1 ∧ (S.2.2 a1.toInt.toNat).1 ≤ 3) ∨ (a2.toInt = 4 ∧ (S.2.2 a1.toInt.toNat).1 = 5))) → (gV υ 22 0 8).toInt = 3))) : ST υ := by
  have s1 : (gV υ 0 0 12).toInt = (gV τ 0 0 12).toInt := congrArg Int32.toInt (f2.1 0 0 12 (by decide) (by decide))
  have s2 : (gV τ 22 0 8).toInt = (gV σ 22 0 8).toInt := congrArg Int32.toInt (f1.1 22 0 8 (by decide) (by decide))
  have s3 : (gV σ 0 0 12).toInt = (gV σ 22 0 8).toInt := hs
  by_cases p0 : ((a1.toInt < 0 ∨ S.2.1 ≤ a1.toInt) ∨ a2.toInt < 0 ∨ 5 < a2.toInt)
  · have x : ((a1.toInt < 0 ∨ S.2.1 ≤ a1.toInt) ∨ a2.toInt < 0 ∨ 5 < a2.toInt) := p0
    have e := c1.1 x
    have f := m1.1 x
    show (gV υ 0 0 12).toInt = (gV υ 22 0 8).toInt
    omega
  · skip
    by_cases p1 : (a2.toInt = 0 ∨ (S.2.2 a1.toInt.toNat).1 = a2.toInt ∨ (a2.toInt = 1 ∧ (S.2.2 a1.toInt.toNat).1 ≤ 3) ∨ (a2.toInt = 4 ∧ (S.2.2 a1.toInt.toNat).1 = 5))
    · have x : ((0 ≤ a1.toInt ∧ a1.toInt < S.2.1) ∧ 0 ≤ a2.toInt ∧ a2.toInt ≤ 5 ∧ (a2.toInt = 0 ∨ (S.2.2 a1.toInt.toNat).1 = a2.toInt ∨ (a2.toInt = 1 ∧ (S.2.2 a1.toInt.toNat).1 ≤ 3) ∨ (a2.toInt = 4 ∧ (S.2.2 a1.toInt.toNat).1 = 5))) := ⟨by omega, by omega, by omega, p1⟩
      have e := c1.2.1 x
      have f := m1.2.1 x
      show (gV υ 0 0 12).toInt = (gV υ 22 0 8).toInt
      omega
    · skip
      have x : ((0 ≤ a1.toInt ∧ a1.toInt < S.2.1) ∧ 0 ≤ a2.toInt ∧ a2.toInt ≤ 5 ∧ ¬ (a2.toInt = 0 ∨ (S.2.2 a1.toInt.toNat).1 = a2.toInt ∨ (a2.toInt = 1 ∧ (S.2.2 a1.toInt.toNat).1 ≤ 3) ∨ (a2.toInt = 4 ∧ (S.2.2 a1.toInt.toNat).1 = 5))) := ⟨by omega, by omega, by omega, p1⟩
      have e := c1.2.2 x
      have f := m1.2.2 x
      show (gV υ 0 0 12).toInt = (gV υ 22 0 8).toInt
      omega
theorem RQ.marksB {σ τ υ : Sg} {S : Stt} {a1 a2 a3 a4 : Int32} (h : Rel σ) (hi : RI σ) (hs : ST σ) (f1 : Fr MS_X11_marksQ AS_X11_marksQ σ τ) (f2 : Fr MS_X12_marksQ AS_X12_marksQ τ υ) (hC : ((S.1 ≤ 0 ∧ (gV τ 0 0 12).toInt = (gV σ 0 0 12).toInt) ∨ (0 < S.1 ∧ (a1.toInt < 0 ∨ 7 < a1.toInt ∨ a2.toInt < -999 ∨ 999 < a2.toInt ∨ a3.toInt < -999 ∨ 999 < a3.toInt ∨ a4.toInt < -1) ∧ (gV τ 0 0 12).toInt = (gV σ 0 0 12).toInt) ∨ ((0 < S.1 ∧ ((0 ≤ a1.toInt ∧ a1.toInt ≤ 7) ∧ -999 ≤ a2.toInt ∧ a2.toInt ≤ 999 ∧ -999 ≤ a3.toInt ∧ a3.toInt ≤ 999 ∧ -1 ≤ a4.toInt)) ∧ (gV σ 20 (a1.toInt.toNat) 1).toInt = -1 ∧ (gV τ 0 0 12).toInt = 1) ∨ ((0 < S.1 ∧ ((0 ≤ a1.toInt ∧ a1.toInt ≤ 7) ∧ -999 ≤ a2.toInt ∧ a2.toInt ≤ 999 ∧ -999 ≤ a3.toInt ∧ a3.toInt ≤ 999 ∧ -1 ≤ a4.toInt)) ∧ (gV σ 20 (a1.toInt.toNat) 1).toInt ≠ -1 ∧ (gV σ 20 (a1.toInt.toNat) 2).toInt < S.2.1 ∧ (gV τ 0 0 12).toInt = 2) ∨ ((0 < S.1 ∧ ((0 ≤ a1.toInt ∧ a1.toInt ≤ 7) ∧ -999 ≤ a2.toInt ∧ a2.toInt ≤ 999 ∧ -999 ≤ a3.toInt ∧ a3.toInt ≤ 999 ∧ -1 ≤ a4.toInt)) ∧ (gV σ 20 (a1.toInt.toNat) 1).toInt ≠ -1 ∧ S.2.1 ≤ (gV σ 20 (a1.toInt.toNat) 2).toInt ∧ ¬ AlI σ (a1.toInt.toNat) S.2.1 (-1) (S.1 - 1) ∧ (gV τ 0 0 12).toInt = (gV σ 0 0 12).toInt) ∨ ((0 < S.1 ∧ ((0 ≤ a1.toInt ∧ a1.toInt ≤ 7) ∧ -999 ≤ a2.toInt ∧ a2.toInt ≤ 999 ∧ -999 ≤ a3.toInt ∧ a3.toInt ≤ 999 ∧ -1 ≤ a4.toInt)) ∧ (gV σ 20 (a1.toInt.toNat) 1).toInt ≠ -1 ∧ S.2.1 ≤ (gV σ 20 (a1.toInt.toNat) 2).toInt ∧ AlI σ (a1.toInt.toNat) S.2.1 (-1) (S.1 - 1) ∧ (gV τ 0 0 12).toInt = 0))) (hM : ((S.1 ≤ 0 ∧ (gV υ 22 0 8).toInt = (gV τ 22 0 8).toInt) ∨ (0 < S.1 ∧ (a1.toInt < 0 ∨ 7 < a1.toInt ∨ a2.toInt < -999 ∨ 999 < a2.toInt ∨ a3.toInt < -999 ∨ 999 < a3.toInt ∨ a4.toInt < -1) ∧ (gV υ 22 0 8).toInt = (gV τ 22 0 8).toInt) ∨ ((0 < S.1 ∧ ((0 ≤ a1.toInt ∧ a1.toInt ≤ 7) ∧ -999 ≤ a2.toInt ∧ a2.toInt ≤ 999 ∧ -999 ≤ a3.toInt ∧ a3.toInt ≤ 999 ∧ -1 ≤ a4.toInt)) ∧ (gV τ 26 0 (a1.toInt.toNat)).toInt < 0 ∧ (gV υ 22 0 8).toInt = 1) ∨ ((0 < S.1 ∧ ((0 ≤ a1.toInt ∧ a1.toInt ≤ 7) ∧ -999 ≤ a2.toInt ∧ a2.toInt ≤ 999 ∧ -999 ≤ a3.toInt ∧ a3.toInt ≤ 999 ∧ -1 ≤ a4.toInt)) ∧ 0 ≤ (gV τ 26 0 (a1.toInt.toNat)).toInt ∧ (gV τ 27 0 (a1.toInt.toNat)).toInt < S.2.1 ∧ (gV υ 22 0 8).toInt = 2) ∨ ((0 < S.1 ∧ ((0 ≤ a1.toInt ∧ a1.toInt ≤ 7) ∧ -999 ≤ a2.toInt ∧ a2.toInt ≤ 999 ∧ -999 ≤ a3.toInt ∧ a3.toInt ≤ 999 ∧ -1 ≤ a4.toInt)) ∧ 0 ≤ (gV τ 26 0 (a1.toInt.toNat)).toInt ∧ S.2.1 ≤ (gV τ 27 0 (a1.toInt.toNat)).toInt ∧ ¬ AlJ τ (a1.toInt.toNat) S.2.1 (-1) (S.1 - 1) ∧ (gV υ 22 0 8).toInt = (gV τ 22 0 8).toInt) ∨ ((0 < S.1 ∧ ((0 ≤ a1.toInt ∧ a1.toInt ≤ 7) ∧ -999 ≤ a2.toInt ∧ a2.toInt ≤ 999 ∧ -999 ≤ a3.toInt ∧ a3.toInt ≤ 999 ∧ -1 ≤ a4.toInt)) ∧ 0 ≤ (gV τ 26 0 (a1.toInt.toNat)).toInt ∧ S.2.1 ≤ (gV τ 27 0 (a1.toInt.toNat)).toInt ∧ AlJ τ (a1.toInt.toNat) S.2.1 (-1) (S.1 - 1) ∧ (gV υ 22 0 8).toInt = 0))) : ST υ := by
  have s1 : (gV υ 0 0 12).toInt = (gV τ 0 0 12).toInt := congrArg Int32.toInt (f2.1 0 0 12 (by decide) (by decide))
  have s2 : (gV τ 22 0 8).toInt = (gV σ 22 0 8).toInt := congrArg Int32.toInt (f1.1 22 0 8 (by decide) (by decide))
  have s3 : (gV σ 0 0 12).toInt = (gV σ 22 0 8).toInt := hs
  have l1 : SameL σ τ := SameL.rf.fr f1 (by simp) (by decide)
  have g1 : (a1.toInt.toNat) < 8 → (gV σ 20 (a1.toInt.toNat) 1).toInt = (gV τ 26 0 (a1.toInt.toNat)).toInt ∧ -1 ≤ (gV τ 26 0 (a1.toInt.toNat)).toInt ∧ (0 ≤ (gV τ 26 0 (a1.toInt.toNat)).toInt → (gV σ 20 (a1.toInt.toNat) 2).toInt = (gV τ 27 0 (a1.toInt.toNat)).toInt) := fun hj => by
    rw [(l1 (a1.toInt.toNat)).1, (l1 (a1.toInt.toNat)).2]
    exact ⟨congrArg Int32.toInt (h.1 (a1.toInt.toNat) hj).1, (h.1 (a1.toInt.toNat) hj).2.1, fun q => congrArg Int32.toInt ((h.1 (a1.toInt.toNat) hj).2.2 q)⟩
  have ea : 0 ≤ a1.toInt ∧ a1.toInt ≤ 7 → 0 ≤ (gV τ 26 0 (a1.toInt.toNat)).toInt → S.2.1 ≤ (gV τ 27 0 (a1.toInt.toNat)).toInt → (AlI σ (a1.toInt.toNat) S.2.1 (-1) (S.1 - 1) ↔ AlJ τ (a1.toInt.toNat) S.2.1 (-1) (S.1 - 1)) := fun z y x => by
    rw [(l1 _).1] at y
    rw [(l1 _).2] at x
    rw [AlJ.eq (σ := σ) (τ := τ) (fun k => f1.1 25 0 k (by simp) (by decide))]
    exact hi.all (by omega) y x
  rcases hC with ⟨c0, c1⟩ | ⟨c0, c1, c2⟩ | ⟨c0, c1, c2⟩ | ⟨c0, c1, c2, c3⟩ | ⟨c0, c1, c2, c3, c4⟩ | ⟨c0, c1, c2, c3, c4⟩ <;> rcases hM with ⟨m0, m1⟩ | ⟨m0, m1, m2⟩ | ⟨m0, m1, m2⟩ | ⟨m0, m1, m2, m3⟩ | ⟨m0, m1, m2, m3, m4⟩ | ⟨m0, m1, m2, m3, m4⟩
  · clear g1 ea
    show (gV υ 0 0 12).toInt = (gV υ 22 0 8).toInt
    omega
  · clear g1 ea
    show (gV υ 0 0 12).toInt = (gV υ 22 0 8).toInt
    omega
  · exfalso
    clear g1 ea
    omega
  · exfalso
    clear g1 ea
    omega
  · exfalso
    clear g1 ea
    omega
  · exfalso
    clear g1 ea
    omega
  · clear g1 ea
    show (gV υ 0 0 12).toInt = (gV υ 22 0 8).toInt
    omega
  · clear g1 ea
    show (gV υ 0 0 12).toInt = (gV υ 22 0 8).toInt
    omega
  · exfalso
    clear g1 ea
    omega
  · exfalso
    clear g1 ea
    omega
  · exfalso
    clear g1 ea
    omega
  · exfalso
    clear g1 ea
    omega
  · exfalso
    clear g1 ea
    omega
  · exfalso
    clear g1 ea
    omega
  · clear g1 ea
    show (gV υ 0 0 12).toInt = (gV υ 22 0 8).toInt
    omega
  · exfalso
    have q2 := g1 (by omega)
    clear g1 ea
    omega
  · exfalso
    have q2 := g1 (by omega)
    clear g1 ea
    omega
  · exfalso
    have q2 := g1 (by omega)
    clear g1 ea
    omega
  · exfalso
    clear g1 ea
    omega
  · exfalso
    clear g1 ea
    omega
  · exfalso
    have q2 := g1 (by omega)
    clear g1 ea
    omega
  · clear g1 ea
    show (gV υ 0 0 12).toInt = (gV υ 22 0 8).toInt
    omega
  · exfalso
    have q2 := g1 (by omega)
    clear g1 ea
    omega
  · exfalso
    have q2 := g1 (by omega)
    clear g1 ea
    omega
  · exfalso
    clear g1 ea
    omega
  · exfalso
    clear g1 ea
    omega
  · exfalso
    have q2 := g1 (by omega)
    clear g1 ea
    omega
  · exfalso
    have q2 := g1 (by omega)
    clear g1 ea
    omega
  · clear g1 ea
    show (gV υ 0 0 12).toInt = (gV υ 22 0 8).toInt
    omega
  · have q := g1 (by omega)
    exact absurd ((ea (by omega) (by omega) (by omega)).mpr m3) c3
  · exfalso
    clear g1 ea
    omega
  · exfalso
    clear g1 ea
    omega
  · exfalso
    have q2 := g1 (by omega)
    clear g1 ea
    omega
  · exfalso
    have q2 := g1 (by omega)
    clear g1 ea
    omega
  · have q := g1 (by omega)
    exact absurd ((ea (by omega) (by omega) (by omega)).mp c3) m3
  · clear g1 ea
    show (gV υ 0 0 12).toInt = (gV υ 22 0 8).toInt
    omega
theorem RQ.bellsB {σ τ υ : Sg} {a1 a2 a3 : Int32} (h : Rel σ) (hi : RI σ) (hs : ST σ) (f1 : Fr MS_X11_bellsQ AS_X11_bellsQ σ τ) (f2 : Fr [(22, 8)] [] τ υ) (hC : BLC σ τ a1 a3 a2.toInt) (hM : BLM τ υ a1 a3 a2.toInt) : ST υ := by
  have s1 : (gV υ 0 0 12).toInt = (gV τ 0 0 12).toInt := congrArg Int32.toInt (f2.1 0 0 12 (by decide) (by decide))
  have s2 : (gV τ 22 0 8).toInt = (gV σ 22 0 8).toInt := congrArg Int32.toInt (f1.1 22 0 8 (by decide) (by decide))
  have s3 : (gV σ 0 0 12).toInt = (gV σ 22 0 8).toInt := hs
  have l1 : SameL σ τ := SameL.rf.fr f1 (by simp) (by decide)
  have g1 : (a1.toInt.toNat) < 8 → (gV σ 20 (a1.toInt.toNat) 1).toInt = (gV τ 26 0 (a1.toInt.toNat)).toInt ∧ -1 ≤ (gV τ 26 0 (a1.toInt.toNat)).toInt ∧ (0 ≤ (gV τ 26 0 (a1.toInt.toNat)).toInt → (gV σ 20 (a1.toInt.toNat) 2).toInt = (gV τ 27 0 (a1.toInt.toNat)).toInt) := fun hj => by
    rw [(l1 (a1.toInt.toNat)).1, (l1 (a1.toInt.toNat)).2]
    exact ⟨congrArg Int32.toInt (h.1 (a1.toInt.toNat) hj).1, (h.1 (a1.toInt.toNat) hj).2.1, fun q => congrArg Int32.toInt ((h.1 (a1.toInt.toNat) hj).2.2 q)⟩
  have ea : 0 ≤ a1.toInt ∧ a1.toInt ≤ 7 → 0 ≤ (gV τ 26 0 (a1.toInt.toNat)).toInt → a2.toInt ≤ (gV τ 27 0 (a1.toInt.toNat)).toInt → (AlI σ (a1.toInt.toNat) a2.toInt 1 20 ↔ AlJ τ (a1.toInt.toNat) a2.toInt 1 20) := fun z y x => by
    rw [(l1 _).1] at y
    rw [(l1 _).2] at x
    rw [AlJ.eq (σ := σ) (τ := τ) (fun k => f1.1 25 0 k (by simp) (by decide))]
    exact hi.all (by omega) y x
  rcases hC with ⟨c0, c1⟩ | ⟨c0, c1, c2⟩ | ⟨c0, c1, c2, c3⟩ | ⟨c0, c1, c2, c3, c4⟩ | ⟨c0, c1, c2, c3, c4⟩ <;> rcases hM with ⟨m0, m1⟩ | ⟨m0, m1, m2⟩ | ⟨m0, m1, m2, m3⟩ | ⟨m0, m1, m2, m3, m4⟩ | ⟨m0, m1, m2, m3, m4⟩
  · clear g1 ea
    show (gV υ 0 0 12).toInt = (gV υ 22 0 8).toInt
    omega
  · exfalso
    clear g1 ea
    omega
  · exfalso
    clear g1 ea
    omega
  · exfalso
    clear g1 ea
    omega
  · exfalso
    clear g1 ea
    omega
  · exfalso
    clear g1 ea
    omega
  · clear g1 ea
    show (gV υ 0 0 12).toInt = (gV υ 22 0 8).toInt
    omega
  · exfalso
    have q2 := g1 (by omega)
    clear g1 ea
    omega
  · exfalso
    have q2 := g1 (by omega)
    clear g1 ea
    omega
  · exfalso
    have q2 := g1 (by omega)
    clear g1 ea
    omega
  · exfalso
    clear g1 ea
    omega
  · exfalso
    have q2 := g1 (by omega)
    clear g1 ea
    omega
  · clear g1 ea
    show (gV υ 0 0 12).toInt = (gV υ 22 0 8).toInt
    omega
  · exfalso
    have q2 := g1 (by omega)
    clear g1 ea
    omega
  · exfalso
    have q2 := g1 (by omega)
    clear g1 ea
    omega
  · exfalso
    clear g1 ea
    omega
  · exfalso
    have q2 := g1 (by omega)
    clear g1 ea
    omega
  · exfalso
    have q2 := g1 (by omega)
    clear g1 ea
    omega
  · clear g1 ea
    show (gV υ 0 0 12).toInt = (gV υ 22 0 8).toInt
    omega
  · have q := g1 (by omega)
    exact absurd ((ea (by omega) (by omega) (by omega)).mpr m3) c3
  · exfalso
    clear g1 ea
    omega
  · exfalso
    have q2 := g1 (by omega)
    clear g1 ea
    omega
  · exfalso
    have q2 := g1 (by omega)
    clear g1 ea
    omega
  · have q := g1 (by omega)
    exact absurd ((ea (by omega) (by omega) (by omega)).mp c3) m3
  · clear g1 ea
    show (gV υ 0 0 12).toInt = (gV υ 22 0 8).toInt
    omega
theorem RQ.statusB {σ τ : Sg} {r1 r2 : Int32} (hs : ST σ) (f1 : Fr MS_X11_statusQ AS_X11_statusQ σ τ) (hC : r1.toInt = (gV σ 0 0 12).toInt) (hM : r2.toInt = (gV τ 22 0 8).toInt) : r1.toInt = r2.toInt := by
  rw [hC, hM, f1.1 22 0 8 (by decide) (by decide)]
  exact hs
section LAW
set_option maxHeartbeats 8000000 in
set_option maxRecDepth 100000 in
theorem law_loop {p : Program} {e : Env} {s : State} {m : MethodId} {below : List Frame} {meth : Method} {c : Code} (l : Launch) {b L : Nat} {xs : Nat → Int32} (hL : L ≤ 3072) (C0 : lw_At p s m meth c b L xs) (G : Gt) (hG0 : G.2.2.2.1 = s.heap.size) : ∀ (n : Nat) (τ : Sg) (y3 : Int32) (S : Stt) (I : Nat → Stt), Inv τ → Rel τ → RT τ → CA τ S I → MA τ S I → RI τ → ST τ → IV y3 0 3078 → (3078 - y3.toInt).toNat < n → MW p l e room_1 s m #[Value.ref b] below meth c (lw_Z below #[Value.ref b] s) 4 G (250 + 8 * y3.toInt.toNat) (5300 + 24 * y3.toInt.toNat) 18 [some (.ref b), some (.ref (G.1 0 0)), some (.ref (G.1 22 0)), some (.int y3)] [] τ := by
  obtain ⟨hx, hb, hr, hml, hown, hts, hX, hbl, hlk, hgv⟩ := C0
  have C : Cx p s m #[Value.ref b] c cL_law 4 "LeanTowerLaw" := ⟨hx, hb, hml, hown, fun w hw => hts w (List.mem_filter.mp hw).1⟩
  have hbA : ¬ aG G b := fun q => by have q2 : G.2.2.2.1 ≤ b := q; omega
  have hL31 : L < 2 ^ 31 := by omega
  have k0 : (0 : Int32).toInt = 0 := by decide
  have k1 : (1 : Int32).toInt = 1 := by decide
  intro n
  induction n with
  | zero => intro τ y3 S I iτ rτ tτ cτ mτ jτ oτ b_y3 hm; exact absurd hm (Nat.not_lt_zero _)
  | succ n ih18 =>
      intro τ y3 S I iτ rτ tτ cτ mτ jτ oτ b_y3 hm18
      refine m_iload_n C dL_law_18 rfl rfl ?_
      refine m_aload_n C dL_law_19 rfl rfl ?_
      refine m_slen C hX hbl hbA hL31 dL_law_20 (fun x1 tx1 => ?_)
      have b2 : IV x1 0 3072 := ⟨by omega, by omega⟩
      refine m_bipush (v := 6) C dL_law_21 (by decide) ?_
      refine m_isub C dL_law_23 ?_
      refine m_topi (fun x3 ex3 => ?_)
      have tx3 : x3.toInt = x1.toInt - 6 := by rw [ex3, ti_subv b2 kc_6 (by decide), kt_6]
      have b4 : IV x3 (-6) 3066 := by rw [ex3]; exact iv_sub b2 kc_6 (by decide)
      refine m_icmp_gt (tgt := 1034) C dL_law_24 (by decide) (fun c5 => ?_) (fun c5 => ?_)
      · have f6 : x3.toInt < y3.toInt := by
          have q : _ := c5
          simp only [ti_nle, ti_nlt, ti_le, ti_lt, ti_eq, ti_ne, Classical.not_not] at q
          omega
        refine m_iconst (v := 1) C dL_law_1034 (by decide) ?_
        exact m_law1 C hG0 hr hlk ⟨by omega, by omega⟩ dL_law_1035
      · have f7 : y3.toInt ≤ x3.toInt := by
          have q : _ := c5
          simp only [ti_nle, ti_nlt, ti_le, ti_lt, ti_eq, ti_ne, Classical.not_not] at q
          omega
        have b8 : IV y3 0 3066 := ⟨by have q1 := b_y3; have q2 := b4; omega, by have q1 := b_y3; have q2 := b4; omega⟩
        have b9 : IV x3 0 3066 := ⟨by have q1 := b_y3; have q2 := b4; omega, by have q1 := b_y3; have q2 := b4; omega⟩
        refine m_aload_n C dL_law_27 rfl rfl ?_
        refine m_iload_n C dL_law_28 rfl rfl ?_
        refine m_sld C hX hbl hbA ⟨by omega, by omega⟩ dL_law_29 ?_
        refine m_topi (fun x10 ex10 => ?_)
        refine m_bipush (v := 31) C dL_law_30 (by decide) ?_
        refine m_iand C dL_law_32 ?_
        refine m_topi (fun x11 ex11 => ?_)
        have b12 : IV x11 0 31 := by rw [ex11]; exact iv_and_r kc_31 (by decide)
        by_cases s13 : x11.toInt < 0 ∨ 29 < x11.toInt
        · refine m_tableOut (tgt := 1028) C dL_law_33 s13 (by decide) ?_
          obtain ⟨x14, ex14⟩ : ∃ y : Int32, y = y3 + 6 := ⟨_, rfl⟩
          have tx14 : x14.toInt = y3.toInt + 6 := by rw [ex14, ti_addv b8 kc_6 (by decide), kt_6]
          have b15 : IV x14 6 3072 := by rw [ex14]; exact iv_add b8 kc_6 (by decide)
          refine m_iinc (v := x14) (L1 := [some (.ref b), some (.ref (G.1 0 0)), some (.ref (G.1 22 0)), some (.int x14)]) C dL_law_1028 rfl (by rw [ex14]; rfl) (by decide) rfl rfl ?_
          refine m_goto (tgt := 18) C dL_law_1031 (by decide) ?_
          refine m_widen (c2 := 250 + 8 * x14.toInt.toNat) (s2 := 5300 + 24 * x14.toInt.toNat) (by omega) (by omega) ?_
          exact ih18 τ x14 S I iτ rτ tτ cτ mτ jτ oτ (iv_wk b15 (by decide)) (by have q := hm18; omega)
        by_cases s16 : x11.toInt = 0
        · refine m_tableIn (tgt := 168) (off := 135) C dL_law_33 (by omega) (by omega) (by rw [s16]; rfl) (by decide) ?_
          have b17 : IV x11 0 0 := ⟨by omega, by omega⟩
          refine m_aload_n C dL_law_168 rfl rfl ?_
          refine m_aload_n C dL_law_169 rfl rfl ?_
          refine m_iload_n C dL_law_170 rfl rfl ?_
          refine m_iconst (v := 1) C dL_law_171 (by decide) ?_
          refine m_iadd C dL_law_172 ?_
          refine m_topi (fun x18 ex18 => ?_)
          have tx18 : x18.toInt = y3.toInt + 1 := by rw [ex18, ti_addv b8 kc_1 (by decide), kt_1]
          have b19 : IV x18 1 3067 := by rw [ex18]; exact iv_add b8 kc_1 (by decide)
          refine m_sld C hX hbl hbA ⟨by omega, by omega⟩ dL_law_173 ?_
          refine m_topi (fun x20 ex20 => ?_)
          refine m_aload_n C dL_law_174 rfl rfl ?_
          refine m_iload_n C dL_law_175 rfl rfl ?_
          refine m_iconst (v := 2) C dL_law_176 (by decide) ?_
          refine m_iadd C dL_law_177 ?_
          refine m_topi (fun x21 ex21 => ?_)
          have tx21 : x21.toInt = y3.toInt + 2 := by rw [ex21, ti_addv b8 kc_2 (by decide), kt_2]
          have b22 : IV x21 2 3068 := by rw [ex21]; exact iv_add b8 kc_2 (by decide)
          refine m_sld C hX hbl hbA ⟨by omega, by omega⟩ dL_law_178 ?_
          refine m_topi (fun x23 ex23 => ?_)
          refine m_aload_n C dL_law_179 rfl rfl ?_
          refine m_iload_n C dL_law_180 rfl rfl ?_
          refine m_iconst (v := 3) C dL_law_181 (by decide) ?_
          refine m_iadd C dL_law_182 ?_
          refine m_topi (fun x24 ex24 => ?_)
          have tx24 : x24.toInt = y3.toInt + 3 := by rw [ex24, ti_addv b8 kc_3 (by decide), kt_3]
          have b25 : IV x24 3 3069 := by rw [ex24]; exact iv_add b8 kc_3 (by decide)
          refine m_sld C hX hbl hbA ⟨by omega, by omega⟩ dL_law_183 ?_
          refine m_topi (fun x26 ex26 => ?_)
          refine m_callV (n := 3) (ci := 10) (st := []) C (c_X11_rowQ l G τ (x20) (x23) (x26) iτ ) (by decide) (by decide) rfl rfl rfl q1_229 q1_226 q1_227 q1_228 q1_1 (by decide +kernel) rfl (by decide) ⟨by show (250 + 8 * y3.toInt.toNat) + 0 ≤ 600000; omega, by show (5300 + 24 * y3.toInt.toNat) + 0 ≤ 7302250; omega⟩ rfl (Nat.le_of_ble_eq_true rfl) dL_law_184 ?_
          rintro _ τ27 ⟨x30, rfl, i28, f29, b31, h33⟩
          obtain ⟨h33, h33t0, h33t1⟩ := h33
          have r34 : MA τ27 S I := mτ.fr iτ f29 (by decide) (by decide)
          have r35 : RT τ27 := tτ.call f29 (by decide) (by decide)
          have r36 : CA τ27 S I := cτ.fr f29 (by decide) (by decide)
          have z37 := Hid.mk h33
          clear h33
          have z38 := Hid.mk h33t0
          clear h33t0
          have z39 := Hid.mk h33t1
          clear h33t1
          show MW p l e _ s m _ below meth c _ 4 G (250 + 8 * y3.toInt.toNat) (5300 + 24 * y3.toInt.toNat) 187 [some (.ref b), some (.ref (G.1 0 0)), some (.ref (G.1 22 0)), some (.int y3)] [.int x30] τ27
          refine m_pop C dL_law_187 rfl ?_
          refine m_aload_n C dL_law_188 rfl rfl ?_
          refine m_aload_n C dL_law_189 rfl rfl ?_
          refine m_iload_n C dL_law_190 rfl rfl ?_
          refine m_iconst (v := 1) C dL_law_191 (by decide) ?_
          refine m_iadd C dL_law_192 ?_
          refine m_topi (fun x40 ex40 => ?_)
          have tx40 : x40.toInt = y3.toInt + 1 := by rw [ex40, ti_addv b8 kc_1 (by decide), kt_1]
          have b41 : IV x40 1 3067 := by rw [ex40]; exact iv_add b8 kc_1 (by decide)
          refine m_sld C hX hbl hbA ⟨by omega, by omega⟩ dL_law_193 ?_
          refine m_eqs (w := x20) (by rw [ex20, show x40.toInt.toNat = x18.toInt.toNat by omega]) ?_
          refine m_aload_n C dL_law_194 rfl rfl ?_
          refine m_iload_n C dL_law_195 rfl rfl ?_
          refine m_iconst (v := 2) C dL_law_196 (by decide) ?_
          refine m_iadd C dL_law_197 ?_
          refine m_topi (fun x42 ex42 => ?_)
          have tx42 : x42.toInt = y3.toInt + 2 := by rw [ex42, ti_addv b8 kc_2 (by decide), kt_2]
          have b43 : IV x42 2 3068 := by rw [ex42]; exact iv_add b8 kc_2 (by decide)
          refine m_sld C hX hbl hbA ⟨by omega, by omega⟩ dL_law_198 ?_
          refine m_eqs (w := x23) (by rw [ex23, show x42.toInt.toNat = x21.toInt.toNat by omega]) ?_
          refine m_aload_n C dL_law_199 rfl rfl ?_
          refine m_iload_n C dL_law_200 rfl rfl ?_
          refine m_iconst (v := 3) C dL_law_201 (by decide) ?_
          refine m_iadd C dL_law_202 ?_
          refine m_topi (fun x44 ex44 => ?_)
          have tx44 : x44.toInt = y3.toInt + 3 := by rw [ex44, ti_addv b8 kc_3 (by decide), kt_3]
          have b45 : IV x44 3 3069 := by rw [ex44]; exact iv_add b8 kc_3 (by decide)
          refine m_sld C hX hbl hbA ⟨by omega, by omega⟩ dL_law_203 ?_
          refine m_eqs (w := x26) (by rw [ex26, show x44.toInt.toNat = x24.toInt.toNat by omega]) ?_
          refine m_callV (n := 3) (ci := 11) (st := []) C (c_X12_rowQ l G τ27 (x20) (x23) (x26) i28 ) (by decide) (by decide) rfl rfl rfl q4_183 q4_180 q4_181 q4_182 q1_7 (by decide +kernel) rfl (by decide) ⟨by show (250 + 8 * y3.toInt.toNat) + 0 ≤ 600000; omega, by show (5300 + 24 * y3.toInt.toNat) + 0 ≤ 7302250; omega⟩ rfl (Nat.le_of_ble_eq_true rfl) dL_law_204 ?_
          rintro _ τ46 ⟨x49, rfl, i47, f48, b50, h52⟩
          obtain ⟨h52, h52t0, h52t1⟩ := h52
          have r54 : RT τ46 := r35.call f48 (by decide) (by decide)
          have r55 : CA τ46 S I := r36.fr f48 (by decide) (by decide)
          have r56 : MA τ46 S I := r34.fr i28 f48 (by decide) (by decide)
          have g53 := Rel.rowB rτ f29 f48 z37 h52
          have r57 : Rel τ46 := g53.1
          have q58 := g53.2
          have r59 : RI τ46 := RB.rowB rτ iτ jτ f29 f48 z37 z38 z39 h52 h52t0 h52t1
          have r60 : ST τ46 := SQ.rowB rτ oτ f29 f48 z38 h52t0
          clear h52 z37 z38 z39 h52t0 h52t1
          show MW p l e _ s m _ below meth c _ 4 G (250 + 8 * y3.toInt.toNat) (5300 + 24 * y3.toInt.toNat) 207 [some (.ref b), some (.ref (G.1 0 0)), some (.ref (G.1 22 0)), some (.int y3)] [.int x49] τ46
          refine m_pop C dL_law_207 rfl ?_
          refine m_goto (tgt := 1028) C dL_law_208 (by decide) ?_
          obtain ⟨x61, ex61⟩ : ∃ y : Int32, y = y3 + 6 := ⟨_, rfl⟩
          have tx61 : x61.toInt = y3.toInt + 6 := by rw [ex61, ti_addv b8 kc_6 (by decide), kt_6]
          have b62 : IV x61 6 3072 := by rw [ex61]; exact iv_add b8 kc_6 (by decide)
          refine m_iinc (v := x61) (L1 := [some (.ref b), some (.ref (G.1 0 0)), some (.ref (G.1 22 0)), some (.int x61)]) C dL_law_1028 rfl (by rw [ex61]; rfl) (by decide) rfl rfl ?_
          refine m_goto (tgt := 18) C dL_law_1031 (by decide) ?_
          refine m_widen (c2 := 250 + 8 * x61.toInt.toNat) (s2 := 5300 + 24 * x61.toInt.toNat) (by omega) (by omega) ?_
          exact ih18 τ46 x61 S I i47 r57 r54 r55 r56 r59 r60 (iv_wk b62 (by decide)) (by have q := hm18; omega)
        by_cases s63 : x11.toInt = 1
        · refine m_tableIn (tgt := 211) (off := 178) C dL_law_33 (by omega) (by omega) (by rw [s63]; rfl) (by decide) ?_
          have b64 : IV x11 1 1 := ⟨by omega, by omega⟩
          refine m_aload_n C dL_law_211 rfl rfl ?_
          refine m_aload_n C dL_law_212 rfl rfl ?_
          refine m_iload_n C dL_law_213 rfl rfl ?_
          refine m_iconst (v := 1) C dL_law_214 (by decide) ?_
          refine m_iadd C dL_law_215 ?_
          refine m_topi (fun x65 ex65 => ?_)
          have tx65 : x65.toInt = y3.toInt + 1 := by rw [ex65, ti_addv b8 kc_1 (by decide), kt_1]
          have b66 : IV x65 1 3067 := by rw [ex65]; exact iv_add b8 kc_1 (by decide)
          refine m_sld C hX hbl hbA ⟨by omega, by omega⟩ dL_law_216 ?_
          refine m_topi (fun x67 ex67 => ?_)
          refine m_aload_n C dL_law_217 rfl rfl ?_
          refine m_iload_n C dL_law_218 rfl rfl ?_
          refine m_iconst (v := 2) C dL_law_219 (by decide) ?_
          refine m_iadd C dL_law_220 ?_
          refine m_topi (fun x68 ex68 => ?_)
          have tx68 : x68.toInt = y3.toInt + 2 := by rw [ex68, ti_addv b8 kc_2 (by decide), kt_2]
          have b69 : IV x68 2 3068 := by rw [ex68]; exact iv_add b8 kc_2 (by decide)
          refine m_sld C hX hbl hbA ⟨by omega, by omega⟩ dL_law_221 ?_
          refine m_topi (fun x70 ex70 => ?_)
          refine m_aload_n C dL_law_222 rfl rfl ?_
          refine m_iload_n C dL_law_223 rfl rfl ?_
          refine m_iconst (v := 3) C dL_law_224 (by decide) ?_
          refine m_iadd C dL_law_225 ?_
          refine m_topi (fun x71 ex71 => ?_)
          have tx71 : x71.toInt = y3.toInt + 3 := by rw [ex71, ti_addv b8 kc_3 (by decide), kt_3]
          have b72 : IV x71 3 3069 := by rw [ex71]; exact iv_add b8 kc_3 (by decide)
          refine m_sld C hX hbl hbA ⟨by omega, by omega⟩ dL_law_226 ?_
          refine m_topi (fun x73 ex73 => ?_)
          refine m_callV (n := 3) (ci := 10) (st := []) C (c_X11_setQ l G τ (x67) (x70) (x73) iτ ) (by decide) (by decide) rfl rfl rfl q2_11 q2_8 q2_9 q2_10 q1_1 (by decide +kernel) rfl (by decide) ⟨by show (250 + 8 * y3.toInt.toNat) + 0 ≤ 600000; omega, by show (5300 + 24 * y3.toInt.toNat) + 0 ≤ 7302250; omega⟩ rfl (Nat.le_of_ble_eq_true rfl) dL_law_227 ?_
          rintro _ τ74 ⟨x77, rfl, i75, f76, b78, h80⟩
          obtain ⟨h80, h80t0, h80t1⟩ := h80
          have r81 : MA τ74 S I := mτ.fr iτ f76 (by decide) (by decide)
          have r82 : RT τ74 := tτ.call f76 (by decide) (by decide)
          have r83 : CA τ74 S I := cτ.fr f76 (by decide) (by decide)
          have z84 := Hid.mk h80
          clear h80
          have z85 := Hid.mk h80t0
          clear h80t0
          have z86 := Hid.mk h80t1
          clear h80t1
          have r87 : Rel τ74 := rτ.call f76 (by decide) (by decide)
          show MW p l e _ s m _ below meth c _ 4 G (250 + 8 * y3.toInt.toNat) (5300 + 24 * y3.toInt.toNat) 230 [some (.ref b), some (.ref (G.1 0 0)), some (.ref (G.1 22 0)), some (.int y3)] [.int x77] τ74
          refine m_pop C dL_law_230 rfl ?_
          refine m_aload_n C dL_law_231 rfl rfl ?_
          refine m_aload_n C dL_law_232 rfl rfl ?_
          refine m_iload_n C dL_law_233 rfl rfl ?_
          refine m_iconst (v := 1) C dL_law_234 (by decide) ?_
          refine m_iadd C dL_law_235 ?_
          refine m_topi (fun x88 ex88 => ?_)
          have tx88 : x88.toInt = y3.toInt + 1 := by rw [ex88, ti_addv b8 kc_1 (by decide), kt_1]
          have b89 : IV x88 1 3067 := by rw [ex88]; exact iv_add b8 kc_1 (by decide)
          refine m_sld C hX hbl hbA ⟨by omega, by omega⟩ dL_law_236 ?_
          refine m_eqs (w := x67) (by rw [ex67, show x88.toInt.toNat = x65.toInt.toNat by omega]) ?_
          refine m_aload_n C dL_law_237 rfl rfl ?_
          refine m_iload_n C dL_law_238 rfl rfl ?_
          refine m_iconst (v := 2) C dL_law_239 (by decide) ?_
          refine m_iadd C dL_law_240 ?_
          refine m_topi (fun x90 ex90 => ?_)
          have tx90 : x90.toInt = y3.toInt + 2 := by rw [ex90, ti_addv b8 kc_2 (by decide), kt_2]
          have b91 : IV x90 2 3068 := by rw [ex90]; exact iv_add b8 kc_2 (by decide)
          refine m_sld C hX hbl hbA ⟨by omega, by omega⟩ dL_law_241 ?_
          refine m_eqs (w := x70) (by rw [ex70, show x90.toInt.toNat = x68.toInt.toNat by omega]) ?_
          refine m_aload_n C dL_law_242 rfl rfl ?_
          refine m_iload_n C dL_law_243 rfl rfl ?_
          refine m_iconst (v := 3) C dL_law_244 (by decide) ?_
          refine m_iadd C dL_law_245 ?_
          refine m_topi (fun x92 ex92 => ?_)
          have tx92 : x92.toInt = y3.toInt + 3 := by rw [ex92, ti_addv b8 kc_3 (by decide), kt_3]
          have b93 : IV x92 3 3069 := by rw [ex92]; exact iv_add b8 kc_3 (by decide)
          refine m_sld C hX hbl hbA ⟨by omega, by omega⟩ dL_law_246 ?_
          refine m_eqs (w := x73) (by rw [ex73, show x92.toInt.toNat = x71.toInt.toNat by omega]) ?_
          refine m_callV (n := 3) (ci := 11) (st := []) C (c_X12_setQ l G τ74 (x67) (x70) (x73) i75 ) (by decide) (by decide) rfl rfl rfl q4_205 q4_202 q4_203 q4_204 q1_7 (by decide +kernel) rfl (by decide) ⟨by show (250 + 8 * y3.toInt.toNat) + 0 ≤ 600000; omega, by show (5300 + 24 * y3.toInt.toNat) + 0 ≤ 7302250; omega⟩ rfl (Nat.le_of_ble_eq_true rfl) dL_law_247 ?_
          rintro _ τ94 ⟨x97, rfl, i95, f96, b98, h100⟩
          obtain ⟨h100, h100t0, h100t1⟩ := h100
          have r102 : RT τ94 := r82.call f96 (by decide) (by decide)
          have r103 : CA τ94 S I := r83.fr f96 (by decide) (by decide)
          have r104 : MA τ94 S I := r81.fr i75 f96 (by decide) (by decide)
          have g101 := Rel.setB rτ f76 f96 z84 h100
          have r105 : Rel τ94 := r87.call f96 (by decide) (by decide)
          have r106 : RI τ94 := RB.setB rτ iτ jτ f76 f96 z84 z85 z86 h100 h100t0 h100t1
          have r107 : ST τ94 := SQ.setB rτ oτ f76 f96 z85 h100t0
          clear h100 z84 z85 z86 h100t0 h100t1
          show MW p l e _ s m _ below meth c _ 4 G (250 + 8 * y3.toInt.toNat) (5300 + 24 * y3.toInt.toNat) 250 [some (.ref b), some (.ref (G.1 0 0)), some (.ref (G.1 22 0)), some (.int y3)] [.int x97] τ94
          refine m_pop C dL_law_250 rfl ?_
          refine m_goto (tgt := 1028) C dL_law_251 (by decide) ?_
          obtain ⟨x108, ex108⟩ : ∃ y : Int32, y = y3 + 6 := ⟨_, rfl⟩
          have tx108 : x108.toInt = y3.toInt + 6 := by rw [ex108, ti_addv b8 kc_6 (by decide), kt_6]
          have b109 : IV x108 6 3072 := by rw [ex108]; exact iv_add b8 kc_6 (by decide)
          refine m_iinc (v := x108) (L1 := [some (.ref b), some (.ref (G.1 0 0)), some (.ref (G.1 22 0)), some (.int x108)]) C dL_law_1028 rfl (by rw [ex108]; rfl) (by decide) rfl rfl ?_
          refine m_goto (tgt := 18) C dL_law_1031 (by decide) ?_
          refine m_widen (c2 := 250 + 8 * x108.toInt.toNat) (s2 := 5300 + 24 * x108.toInt.toNat) (by omega) (by omega) ?_
          exact ih18 τ94 x108 S I i95 r105 r102 r103 r104 r106 r107 (iv_wk b109 (by decide)) (by have q := hm18; omega)
        by_cases s110 : x11.toInt = 2
        · refine m_tableIn (tgt := 254) (off := 221) C dL_law_33 (by omega) (by omega) (by rw [s110]; rfl) (by decide) ?_
          have b111 : IV x11 2 2 := ⟨by omega, by omega⟩
          refine m_aload_n C dL_law_254 rfl rfl ?_
          refine m_aload_n C dL_law_255 rfl rfl ?_
          refine m_iload_n C dL_law_256 rfl rfl ?_
          refine m_iconst (v := 1) C dL_law_257 (by decide) ?_
          refine m_iadd C dL_law_258 ?_
          refine m_topi (fun x112 ex112 => ?_)
          have tx112 : x112.toInt = y3.toInt + 1 := by rw [ex112, ti_addv b8 kc_1 (by decide), kt_1]
          have b113 : IV x112 1 3067 := by rw [ex112]; exact iv_add b8 kc_1 (by decide)
          refine m_sld C hX hbl hbA ⟨by omega, by omega⟩ dL_law_259 ?_
          refine m_topi (fun x114 ex114 => ?_)
          refine m_aload_n C dL_law_260 rfl rfl ?_
          refine m_iload_n C dL_law_261 rfl rfl ?_
          refine m_iconst (v := 2) C dL_law_262 (by decide) ?_
          refine m_iadd C dL_law_263 ?_
          refine m_topi (fun x115 ex115 => ?_)
          have tx115 : x115.toInt = y3.toInt + 2 := by rw [ex115, ti_addv b8 kc_2 (by decide), kt_2]
          have b116 : IV x115 2 3068 := by rw [ex115]; exact iv_add b8 kc_2 (by decide)
          refine m_sld C hX hbl hbA ⟨by omega, by omega⟩ dL_law_264 ?_
          refine m_topi (fun x117 ex117 => ?_)
          refine m_aload_n C dL_law_265 rfl rfl ?_
          refine m_iload_n C dL_law_266 rfl rfl ?_
          refine m_iconst (v := 3) C dL_law_267 (by decide) ?_
          refine m_iadd C dL_law_268 ?_
          refine m_topi (fun x118 ex118 => ?_)
          have tx118 : x118.toInt = y3.toInt + 3 := by rw [ex118, ti_addv b8 kc_3 (by decide), kt_3]
          have b119 : IV x118 3 3069 := by rw [ex118]; exact iv_add b8 kc_3 (by decide)
          refine m_sld C hX hbl hbA ⟨by omega, by omega⟩ dL_law_269 ?_
          refine m_topi (fun x120 ex120 => ?_)
          refine m_aload_n C dL_law_270 rfl rfl ?_
          refine m_iload_n C dL_law_271 rfl rfl ?_
          refine m_iconst (v := 4) C dL_law_272 (by decide) ?_
          refine m_iadd C dL_law_273 ?_
          refine m_topi (fun x121 ex121 => ?_)
          have tx121 : x121.toInt = y3.toInt + 4 := by rw [ex121, ti_addv b8 kc_4 (by decide), kt_4]
          have b122 : IV x121 4 3070 := by rw [ex121]; exact iv_add b8 kc_4 (by decide)
          refine m_sld C hX hbl hbA ⟨by omega, by omega⟩ dL_law_274 ?_
          refine m_topi (fun x123 ex123 => ?_)
          refine m_aload_n C dL_law_275 rfl rfl ?_
          refine m_iload_n C dL_law_276 rfl rfl ?_
          refine m_iconst (v := 5) C dL_law_277 (by decide) ?_
          refine m_iadd C dL_law_278 ?_
          refine m_topi (fun x124 ex124 => ?_)
          have tx124 : x124.toInt = y3.toInt + 5 := by rw [ex124, ti_addv b8 kc_5 (by decide), kt_5]
          have b125 : IV x124 5 3071 := by rw [ex124]; exact iv_add b8 kc_5 (by decide)
          refine m_sld C hX hbl hbA ⟨by omega, by omega⟩ dL_law_279 ?_
          refine m_topi (fun x126 ex126 => ?_)
          refine m_callV (n := 5) (ci := 10) (st := []) C (c_X11_copyQ l G τ (x114) (x117) (x120) (x123) (x126) iτ ) (by decide) (by decide) rfl rfl rfl q2_23 q2_20 q2_21 q2_22 q1_1 (by decide +kernel) rfl (by decide) ⟨by show (250 + 8 * y3.toInt.toNat) + 0 ≤ 600000; omega, by show (5300 + 24 * y3.toInt.toNat) + 0 ≤ 7302250; omega⟩ rfl (Nat.le_of_ble_eq_true rfl) dL_law_280 ?_
          rintro _ τ127 ⟨x130, rfl, i128, f129, b131, h133⟩
          obtain ⟨h133, h133t0, h133t1⟩ := h133
          have r134 : MA τ127 S I := mτ.fr iτ f129 (by decide) (by decide)
          have r135 : RT τ127 := tτ.call f129 (by decide) (by decide)
          have r136 : CA τ127 S I := cτ.fr f129 (by decide) (by decide)
          have z137 := Hid.mk h133
          clear h133
          have z138 := Hid.mk h133t0
          clear h133t0
          have z139 := Hid.mk h133t1
          clear h133t1
          have r140 : Rel τ127 := rτ.call f129 (by decide) (by decide)
          show MW p l e _ s m _ below meth c _ 4 G (250 + 8 * y3.toInt.toNat) (5300 + 24 * y3.toInt.toNat) 283 [some (.ref b), some (.ref (G.1 0 0)), some (.ref (G.1 22 0)), some (.int y3)] [.int x130] τ127
          refine m_pop C dL_law_283 rfl ?_
          refine m_aload_n C dL_law_284 rfl rfl ?_
          refine m_aload_n C dL_law_285 rfl rfl ?_
          refine m_iload_n C dL_law_286 rfl rfl ?_
          refine m_iconst (v := 1) C dL_law_287 (by decide) ?_
          refine m_iadd C dL_law_288 ?_
          refine m_topi (fun x141 ex141 => ?_)
          have tx141 : x141.toInt = y3.toInt + 1 := by rw [ex141, ti_addv b8 kc_1 (by decide), kt_1]
          have b142 : IV x141 1 3067 := by rw [ex141]; exact iv_add b8 kc_1 (by decide)
          refine m_sld C hX hbl hbA ⟨by omega, by omega⟩ dL_law_289 ?_
          refine m_eqs (w := x114) (by rw [ex114, show x141.toInt.toNat = x112.toInt.toNat by omega]) ?_
          refine m_aload_n C dL_law_290 rfl rfl ?_
          refine m_iload_n C dL_law_291 rfl rfl ?_
          refine m_iconst (v := 2) C dL_law_292 (by decide) ?_
          refine m_iadd C dL_law_293 ?_
          refine m_topi (fun x143 ex143 => ?_)
          have tx143 : x143.toInt = y3.toInt + 2 := by rw [ex143, ti_addv b8 kc_2 (by decide), kt_2]
          have b144 : IV x143 2 3068 := by rw [ex143]; exact iv_add b8 kc_2 (by decide)
          refine m_sld C hX hbl hbA ⟨by omega, by omega⟩ dL_law_294 ?_
          refine m_eqs (w := x117) (by rw [ex117, show x143.toInt.toNat = x115.toInt.toNat by omega]) ?_
          refine m_aload_n C dL_law_295 rfl rfl ?_
          refine m_iload_n C dL_law_296 rfl rfl ?_
          refine m_iconst (v := 3) C dL_law_297 (by decide) ?_
          refine m_iadd C dL_law_298 ?_
          refine m_topi (fun x145 ex145 => ?_)
          have tx145 : x145.toInt = y3.toInt + 3 := by rw [ex145, ti_addv b8 kc_3 (by decide), kt_3]
          have b146 : IV x145 3 3069 := by rw [ex145]; exact iv_add b8 kc_3 (by decide)
          refine m_sld C hX hbl hbA ⟨by omega, by omega⟩ dL_law_299 ?_
          refine m_eqs (w := x120) (by rw [ex120, show x145.toInt.toNat = x118.toInt.toNat by omega]) ?_
          refine m_aload_n C dL_law_300 rfl rfl ?_
          refine m_iload_n C dL_law_301 rfl rfl ?_
          refine m_iconst (v := 4) C dL_law_302 (by decide) ?_
          refine m_iadd C dL_law_303 ?_
          refine m_topi (fun x147 ex147 => ?_)
          have tx147 : x147.toInt = y3.toInt + 4 := by rw [ex147, ti_addv b8 kc_4 (by decide), kt_4]
          have b148 : IV x147 4 3070 := by rw [ex147]; exact iv_add b8 kc_4 (by decide)
          refine m_sld C hX hbl hbA ⟨by omega, by omega⟩ dL_law_304 ?_
          refine m_eqs (w := x123) (by rw [ex123, show x147.toInt.toNat = x121.toInt.toNat by omega]) ?_
          refine m_aload_n C dL_law_305 rfl rfl ?_
          refine m_iload_n C dL_law_306 rfl rfl ?_
          refine m_iconst (v := 5) C dL_law_307 (by decide) ?_
          refine m_iadd C dL_law_308 ?_
          refine m_topi (fun x149 ex149 => ?_)
          have tx149 : x149.toInt = y3.toInt + 5 := by rw [ex149, ti_addv b8 kc_5 (by decide), kt_5]
          have b150 : IV x149 5 3071 := by rw [ex149]; exact iv_add b8 kc_5 (by decide)
          refine m_sld C hX hbl hbA ⟨by omega, by omega⟩ dL_law_309 ?_
          refine m_eqs (w := x126) (by rw [ex126, show x149.toInt.toNat = x124.toInt.toNat by omega]) ?_
          refine m_callV (n := 5) (ci := 11) (st := []) C (c_X12_copyQ l G τ127 (x114) (x117) (x120) (x123) (x126) i128 ) (by decide) (by decide) rfl rfl rfl q4_212 q4_209 q4_210 q4_211 q1_7 (by decide +kernel) rfl (by decide) ⟨by show (250 + 8 * y3.toInt.toNat) + 0 ≤ 600000; omega, by show (5300 + 24 * y3.toInt.toNat) + 0 ≤ 7302250; omega⟩ rfl (Nat.le_of_ble_eq_true rfl) dL_law_310 ?_
          rintro _ τ151 ⟨x154, rfl, i152, f153, b155, h157⟩
          obtain ⟨h157, h157t0, h157t1⟩ := h157
          have r159 : RT τ151 := r135.call f153 (by decide) (by decide)
          have r160 : CA τ151 S I := r136.fr f153 (by decide) (by decide)
          have r161 : MA τ151 S I := r134.fr i128 f153 (by decide) (by decide)
          have g158 := Rel.copyB rτ f129 f153 z137 h157
          have r162 : Rel τ151 := r140.call f153 (by decide) (by decide)
          have r163 : RI τ151 := RB.copyB rτ iτ jτ f129 f153 z137 z138 z139 h157 h157t0 h157t1
          have r164 : ST τ151 := SQ.copyB rτ oτ f129 f153 z138 h157t0
          clear h157 z137 z138 z139 h157t0 h157t1
          show MW p l e _ s m _ below meth c _ 4 G (250 + 8 * y3.toInt.toNat) (5300 + 24 * y3.toInt.toNat) 313 [some (.ref b), some (.ref (G.1 0 0)), some (.ref (G.1 22 0)), some (.int y3)] [.int x154] τ151
          refine m_pop C dL_law_313 rfl ?_
          refine m_goto (tgt := 1028) C dL_law_314 (by decide) ?_
          obtain ⟨x165, ex165⟩ : ∃ y : Int32, y = y3 + 6 := ⟨_, rfl⟩
          have tx165 : x165.toInt = y3.toInt + 6 := by rw [ex165, ti_addv b8 kc_6 (by decide), kt_6]
          have b166 : IV x165 6 3072 := by rw [ex165]; exact iv_add b8 kc_6 (by decide)
          refine m_iinc (v := x165) (L1 := [some (.ref b), some (.ref (G.1 0 0)), some (.ref (G.1 22 0)), some (.int x165)]) C dL_law_1028 rfl (by rw [ex165]; rfl) (by decide) rfl rfl ?_
          refine m_goto (tgt := 18) C dL_law_1031 (by decide) ?_
          refine m_widen (c2 := 250 + 8 * x165.toInt.toNat) (s2 := 5300 + 24 * x165.toInt.toNat) (by omega) (by omega) ?_
          exact ih18 τ151 x165 S I i152 r162 r159 r160 r161 r163 r164 (iv_wk b166 (by decide)) (by have q := hm18; omega)
        by_cases s167 : x11.toInt = 3
        · refine m_tableIn (tgt := 317) (off := 284) C dL_law_33 (by omega) (by omega) (by rw [s167]; rfl) (by decide) ?_
          have b168 : IV x11 3 3 := ⟨by omega, by omega⟩
          refine m_aload_n C dL_law_317 rfl rfl ?_
          refine m_aload_n C dL_law_318 rfl rfl ?_
          refine m_iload_n C dL_law_319 rfl rfl ?_
          refine m_iconst (v := 1) C dL_law_320 (by decide) ?_
          refine m_iadd C dL_law_321 ?_
          refine m_topi (fun x169 ex169 => ?_)
          have tx169 : x169.toInt = y3.toInt + 1 := by rw [ex169, ti_addv b8 kc_1 (by decide), kt_1]
          have b170 : IV x169 1 3067 := by rw [ex169]; exact iv_add b8 kc_1 (by decide)
          refine m_sld C hX hbl hbA ⟨by omega, by omega⟩ dL_law_322 ?_
          refine m_topi (fun x171 ex171 => ?_)
          refine m_callV (n := 1) (ci := 10) (st := []) C (c_X11_dropQ l G τ (x171) iτ ) (by decide) (by decide) rfl rfl rfl q2_34 q2_31 q2_32 q2_33 q1_1 (by decide +kernel) rfl (by decide) ⟨by show (250 + 8 * y3.toInt.toNat) + 0 ≤ 600000; omega, by show (5300 + 24 * y3.toInt.toNat) + 0 ≤ 7302250; omega⟩ rfl (Nat.le_of_ble_eq_true rfl) dL_law_323 ?_
          rintro _ τ172 ⟨x175, rfl, i173, f174, b176, h178⟩
          obtain ⟨h178, h178t0, h178t1⟩ := h178
          have r179 : MA τ172 S I := mτ.fr iτ f174 (by decide) (by decide)
          have r180 : RT τ172 := tτ.call f174 (by decide) (by decide)
          have r181 : CA τ172 S I := cτ.fr f174 (by decide) (by decide)
          have z182 := Hid.mk h178
          clear h178
          have z183 := Hid.mk h178t0
          clear h178t0
          have z184 := Hid.mk h178t1
          clear h178t1
          show MW p l e _ s m _ below meth c _ 4 G (250 + 8 * y3.toInt.toNat) (5300 + 24 * y3.toInt.toNat) 326 [some (.ref b), some (.ref (G.1 0 0)), some (.ref (G.1 22 0)), some (.int y3)] [.int x175] τ172
          refine m_pop C dL_law_326 rfl ?_
          refine m_aload_n C dL_law_327 rfl rfl ?_
          refine m_aload_n C dL_law_328 rfl rfl ?_
          refine m_iload_n C dL_law_329 rfl rfl ?_
          refine m_iconst (v := 1) C dL_law_330 (by decide) ?_
          refine m_iadd C dL_law_331 ?_
          refine m_topi (fun x185 ex185 => ?_)
          have tx185 : x185.toInt = y3.toInt + 1 := by rw [ex185, ti_addv b8 kc_1 (by decide), kt_1]
          have b186 : IV x185 1 3067 := by rw [ex185]; exact iv_add b8 kc_1 (by decide)
          refine m_sld C hX hbl hbA ⟨by omega, by omega⟩ dL_law_332 ?_
          refine m_eqs (w := x171) (by rw [ex171, show x185.toInt.toNat = x169.toInt.toNat by omega]) ?_
          refine m_callV (n := 1) (ci := 11) (st := []) C (c_X12_dropQ l G τ172 (x171) i173 ) (by decide) (by decide) rfl rfl rfl q4_216 q4_213 q4_214 q4_215 q1_7 (by decide +kernel) rfl (by decide) ⟨by show (250 + 8 * y3.toInt.toNat) + 0 ≤ 600000; omega, by show (5300 + 24 * y3.toInt.toNat) + 0 ≤ 7302250; omega⟩ rfl (Nat.le_of_ble_eq_true rfl) dL_law_333 ?_
          rintro _ τ187 ⟨x190, rfl, i188, f189, b191, h193⟩
          obtain ⟨h193, h193t0, h193t1⟩ := h193
          have r195 : RT τ187 := r180.call f189 (by decide) (by decide)
          have r196 : CA τ187 S I := r181.fr f189 (by decide) (by decide)
          have r197 : MA τ187 S I := r179.fr i173 f189 (by decide) (by decide)
          have g194 := Rel.dropB rτ f174 f189 z182 h193
          have r198 : Rel τ187 := g194.1
          have q199 := g194.2
          have r200 : RI τ187 := RB.dropB rτ iτ jτ f174 f189 z182 z183 z184 h193 h193t0 h193t1
          have r201 : ST τ187 := SQ.dropB rτ oτ f174 f189 z183 h193t0
          clear h193 z182 z183 z184 h193t0 h193t1
          show MW p l e _ s m _ below meth c _ 4 G (250 + 8 * y3.toInt.toNat) (5300 + 24 * y3.toInt.toNat) 336 [some (.ref b), some (.ref (G.1 0 0)), some (.ref (G.1 22 0)), some (.int y3)] [.int x190] τ187
          refine m_pop C dL_law_336 rfl ?_
          refine m_goto (tgt := 1028) C dL_law_337 (by decide) ?_
          obtain ⟨x202, ex202⟩ : ∃ y : Int32, y = y3 + 6 := ⟨_, rfl⟩
          have tx202 : x202.toInt = y3.toInt + 6 := by rw [ex202, ti_addv b8 kc_6 (by decide), kt_6]
          have b203 : IV x202 6 3072 := by rw [ex202]; exact iv_add b8 kc_6 (by decide)
          refine m_iinc (v := x202) (L1 := [some (.ref b), some (.ref (G.1 0 0)), some (.ref (G.1 22 0)), some (.int x202)]) C dL_law_1028 rfl (by rw [ex202]; rfl) (by decide) rfl rfl ?_
          refine m_goto (tgt := 18) C dL_law_1031 (by decide) ?_
          refine m_widen (c2 := 250 + 8 * x202.toInt.toNat) (s2 := 5300 + 24 * x202.toInt.toNat) (by omega) (by omega) ?_
          exact ih18 τ187 x202 S I i188 r198 r195 r196 r197 r200 r201 (iv_wk b203 (by decide)) (by have q := hm18; omega)
        by_cases s204 : x11.toInt = 4
        · refine m_tableIn (tgt := 340) (off := 307) C dL_law_33 (by omega) (by omega) (by rw [s204]; rfl) (by decide) ?_
          have b205 : IV x11 4 4 := ⟨by omega, by omega⟩
          refine m_aload_n C dL_law_340 rfl rfl ?_
          refine m_aload_n C dL_law_341 rfl rfl ?_
          refine m_iload_n C dL_law_342 rfl rfl ?_
          refine m_iconst (v := 1) C dL_law_343 (by decide) ?_
          refine m_iadd C dL_law_344 ?_
          refine m_topi (fun x206 ex206 => ?_)
          have tx206 : x206.toInt = y3.toInt + 1 := by rw [ex206, ti_addv b8 kc_1 (by decide), kt_1]
          have b207 : IV x206 1 3067 := by rw [ex206]; exact iv_add b8 kc_1 (by decide)
          refine m_sld C hX hbl hbA ⟨by omega, by omega⟩ dL_law_345 ?_
          refine m_topi (fun x208 ex208 => ?_)
          refine m_i2l C dL_law_346 ?_
          refine m_bipush (v := 32) C dL_law_347 (by decide) ?_
          refine m_lshl C dL_law_349 ?_
          refine m_topl (fun w209 ew209 => ?_)
          refine m_aload_n C dL_law_350 rfl rfl ?_
          refine m_iload_n C dL_law_351 rfl rfl ?_
          refine m_iconst (v := 2) C dL_law_352 (by decide) ?_
          refine m_iadd C dL_law_353 ?_
          refine m_topi (fun x210 ex210 => ?_)
          have tx210 : x210.toInt = y3.toInt + 2 := by rw [ex210, ti_addv b8 kc_2 (by decide), kt_2]
          have b211 : IV x210 2 3068 := by rw [ex210]; exact iv_add b8 kc_2 (by decide)
          refine m_sld C hX hbl hbA ⟨by omega, by omega⟩ dL_law_354 ?_
          refine m_topi (fun x212 ex212 => ?_)
          refine m_i2l C dL_law_355 ?_
          refine m_ldc2 (v := 4294967295) C dL_law_356 q5_222 ?_
          refine m_land C dL_law_359 ?_
          refine m_topl (fun w213 ew213 => ?_)
          refine m_lor C dL_law_360 ?_
          refine m_topl (fun w214 ew214 => ?_)
          refine m_aload_n C dL_law_361 rfl rfl ?_
          refine m_iload_n C dL_law_362 rfl rfl ?_
          refine m_iconst (v := 3) C dL_law_363 (by decide) ?_
          refine m_iadd C dL_law_364 ?_
          refine m_topi (fun x215 ex215 => ?_)
          have tx215 : x215.toInt = y3.toInt + 3 := by rw [ex215, ti_addv b8 kc_3 (by decide), kt_3]
          have b216 : IV x215 3 3069 := by rw [ex215]; exact iv_add b8 kc_3 (by decide)
          refine m_sld C hX hbl hbA ⟨by omega, by omega⟩ dL_law_365 ?_
          refine m_topi (fun x217 ex217 => ?_)
          refine m_callV (n := 2) (ci := 10) (st := []) C (c_X11_feedT l G τ (w214) (x217) iτ ) (by decide) (by decide) rfl rfl rfl q2_42 q2_39 q2_40 q2_41 q1_1 (by decide +kernel) rfl (by decide) ⟨by show (250 + 8 * y3.toInt.toNat) + 0 ≤ 600000; omega, by show (5300 + 24 * y3.toInt.toNat) + 0 ≤ 7302250; omega⟩ rfl (Nat.le_of_ble_eq_true rfl) dL_law_366 ?_
          rintro _ τ218 ⟨x221, rfl, i219, f220, b222, h224⟩
          have r225 : MA τ218 S I := mτ.fr iτ f220 (by decide) (by decide)
          have z226 := Hid.mk h224
          clear h224
          have r227 : CA τ218 S I := cτ.fr f220 (by decide) (by decide)
          have r228 : RI τ218 := jτ.call f220 (by decide) (by decide)
          have r229 : ST τ218 := oτ.call f220 (by decide) (by decide)
          show MW p l e _ s m _ below meth c _ 4 G (250 + 8 * y3.toInt.toNat) (5300 + 24 * y3.toInt.toNat) 369 [some (.ref b), some (.ref (G.1 0 0)), some (.ref (G.1 22 0)), some (.int y3)] [.int x221] τ218
          refine m_pop C dL_law_369 rfl ?_
          refine m_aload_n C dL_law_370 rfl rfl ?_
          refine m_aload_n C dL_law_371 rfl rfl ?_
          refine m_iload_n C dL_law_372 rfl rfl ?_
          refine m_iconst (v := 1) C dL_law_373 (by decide) ?_
          refine m_iadd C dL_law_374 ?_
          refine m_topi (fun x230 ex230 => ?_)
          have tx230 : x230.toInt = y3.toInt + 1 := by rw [ex230, ti_addv b8 kc_1 (by decide), kt_1]
          have b231 : IV x230 1 3067 := by rw [ex230]; exact iv_add b8 kc_1 (by decide)
          refine m_sld C hX hbl hbA ⟨by omega, by omega⟩ dL_law_375 ?_
          refine m_eqs (w := x208) (by rw [ex208, show x230.toInt.toNat = x206.toInt.toNat by omega]) ?_
          refine m_i2l C dL_law_376 ?_
          refine m_bipush (v := 32) C dL_law_377 (by decide) ?_
          refine m_lshl C dL_law_379 ?_
          refine m_topl (fun w232 ew232 => ?_)
          refine m_aload_n C dL_law_380 rfl rfl ?_
          refine m_iload_n C dL_law_381 rfl rfl ?_
          refine m_iconst (v := 2) C dL_law_382 (by decide) ?_
          refine m_iadd C dL_law_383 ?_
          refine m_topi (fun x233 ex233 => ?_)
          have tx233 : x233.toInt = y3.toInt + 2 := by rw [ex233, ti_addv b8 kc_2 (by decide), kt_2]
          have b234 : IV x233 2 3068 := by rw [ex233]; exact iv_add b8 kc_2 (by decide)
          refine m_sld C hX hbl hbA ⟨by omega, by omega⟩ dL_law_384 ?_
          refine m_eqs (w := x212) (by rw [ex212, show x233.toInt.toNat = x210.toInt.toNat by omega]) ?_
          refine m_i2l C dL_law_385 ?_
          refine m_ldc2 (v := 4294967295) C dL_law_386 q5_222 ?_
          refine m_land C dL_law_389 ?_
          refine m_topl (fun w235 ew235 => ?_)
          refine m_lor C dL_law_390 ?_
          refine m_topl (fun w236 ew236 => ?_)
          refine m_aload_n C dL_law_391 rfl rfl ?_
          refine m_iload_n C dL_law_392 rfl rfl ?_
          refine m_iconst (v := 3) C dL_law_393 (by decide) ?_
          refine m_iadd C dL_law_394 ?_
          refine m_topi (fun x237 ex237 => ?_)
          have tx237 : x237.toInt = y3.toInt + 3 := by rw [ex237, ti_addv b8 kc_3 (by decide), kt_3]
          have b238 : IV x237 3 3069 := by rw [ex237]; exact iv_add b8 kc_3 (by decide)
          refine m_sld C hX hbl hbA ⟨by omega, by omega⟩ dL_law_395 ?_
          refine m_eqs (w := x217) (by rw [ex217, show x237.toInt.toNat = x215.toInt.toNat by omega]) ?_
          have q239 : w236 = w214 := by rw [ew236, ew232, ew235, ew214, ew209, ew213]
          refine m_callV (n := 2) (ci := 11) (st := []) C (c_X12_feedT l G τ218 (w236) (x217) i219 ) (by decide) (by decide) rfl rfl rfl q4_220 q4_217 q4_218 q4_219 q1_7 (by decide +kernel) rfl (by decide) ⟨by show (250 + 8 * y3.toInt.toNat) + 0 ≤ 600000; omega, by show (5300 + 24 * y3.toInt.toNat) + 0 ≤ 7302250; omega⟩ rfl (Nat.le_of_ble_eq_true rfl) dL_law_396 ?_
          rintro _ τ240 ⟨x243, rfl, i241, f242, b244, h246⟩
          rw [q239] at h246
          have g247 := RT.feedB rτ tτ f220 f242 z226 h246
          have r248 : Rel τ240 := g247.1
          have r249 : RT τ240 := g247.2.1
          have q250 := g247.2.2
          have r251 : CA τ240 S I := r227.fr f242 (by decide) (by decide)
          have r252 : MA τ240 S I := r225.fr i219 f242 (by decide) (by decide)
          clear h246 z226
          have r253 : RI τ240 := r228.call f242 (by decide) (by decide)
          have r254 : ST τ240 := r229.call f242 (by decide) (by decide)
          show MW p l e _ s m _ below meth c _ 4 G (250 + 8 * y3.toInt.toNat) (5300 + 24 * y3.toInt.toNat) 399 [some (.ref b), some (.ref (G.1 0 0)), some (.ref (G.1 22 0)), some (.int y3)] [.int x243] τ240
          refine m_pop C dL_law_399 rfl ?_
          refine m_goto (tgt := 1028) C dL_law_400 (by decide) ?_
          obtain ⟨x255, ex255⟩ : ∃ y : Int32, y = y3 + 6 := ⟨_, rfl⟩
          have tx255 : x255.toInt = y3.toInt + 6 := by rw [ex255, ti_addv b8 kc_6 (by decide), kt_6]
          have b256 : IV x255 6 3072 := by rw [ex255]; exact iv_add b8 kc_6 (by decide)
          refine m_iinc (v := x255) (L1 := [some (.ref b), some (.ref (G.1 0 0)), some (.ref (G.1 22 0)), some (.int x255)]) C dL_law_1028 rfl (by rw [ex255]; rfl) (by decide) rfl rfl ?_
          refine m_goto (tgt := 18) C dL_law_1031 (by decide) ?_
          refine m_widen (c2 := 250 + 8 * x255.toInt.toNat) (s2 := 5300 + 24 * x255.toInt.toNat) (by omega) (by omega) ?_
          exact ih18 τ240 x255 S I i241 r248 r249 r251 r252 r253 r254 (iv_wk b256 (by decide)) (by have q := hm18; omega)
        by_cases s257 : x11.toInt = 5
        · refine m_tableIn (tgt := 403) (off := 370) C dL_law_33 (by omega) (by omega) (by rw [s257]; rfl) (by decide) ?_
          have b258 : IV x11 5 5 := ⟨by omega, by omega⟩
          refine m_aload_n C dL_law_403 rfl rfl ?_
          obtain ⟨⟨T, N, hTC, hTM⟩, hTL⟩ := id tτ
          refine m_callV (n := 0) (ci := 10) (st := []) C (c_X11_towerS l G τ T N S I  iτ hTC cτ) (by decide) (by decide) rfl rfl rfl q2_51 q2_48 q2_49 q2_50 q1_1 (by decide +kernel) rfl (by decide) ⟨by show (250 + 8 * y3.toInt.toNat) + 8 ≤ 600000; omega, by show (5300 + 24 * y3.toInt.toNat) + 24 ≤ 7302250; omega⟩ rfl (Nat.le_of_ble_eq_true rfl) dL_law_404 ?_
          rintro _ τ259 ⟨x262, rfl, i260, f261, b263, h265⟩
          obtain ⟨h265, h265t0, h265t1⟩ := h265
          have r266 : MA τ259 S I := mτ.fr iτ f261 (by decide) (by decide)
          have z267 := Hid.mk h265
          clear h265
          have r268 : RI τ259 := jτ.call f261 (by decide) (by decide)
          have r269 : ST τ259 := oτ.call f261 (by decide) (by decide)
          show MW p l e _ s m _ below meth c _ 4 G ((250 + 8 * y3.toInt.toNat) + 8) ((5300 + 24 * y3.toInt.toNat) + 24) 407 [some (.ref b), some (.ref (G.1 0 0)), some (.ref (G.1 22 0)), some (.int y3)] [.int x262] τ259
          refine m_pop C dL_law_407 rfl ?_
          refine m_aload_n C dL_law_408 rfl rfl ?_
          have hTM2 := hTM.fr f261 (by decide) (by decide) (by simp) (by decide)
          refine m_callV (n := 0) (ci := 11) (st := []) C (c_X12_towerS l G τ259 T N S I  i260 hTM2 r266) (by decide) (by decide) rfl rfl rfl q4_227 q4_224 q4_225 q4_226 q1_7 (by decide +kernel) rfl (by decide) ⟨by show ((250 + 8 * y3.toInt.toNat) + 8) + 0 ≤ 600000; omega, by show ((5300 + 24 * y3.toInt.toNat) + 24) + 0 ≤ 7302250; omega⟩ rfl (Nat.le_of_ble_eq_true rfl) dL_law_409 ?_
          rintro _ τ270 ⟨x273, rfl, i271, f272, b274, h276⟩
          obtain ⟨h276, h276t0, h276t1⟩ := h276
          have g277 := RT.towerB rτ tτ f261 f272 z267 h276
          have r278 : Rel τ270 := g277.1
          have r279 : RT τ270 := g277.2.1
          have q280 := g277.2.2
          obtain ⟨S281, h282, h283⟩ : ∃ S5, CA τ270 S5 I ∧ MA τ270 S5 I := by
            by_cases gF : outF T N = 0
            · exact ⟨_, (h265t1 gF).fr f272 (by decide) (by decide), h276t1 gF⟩
            · exact ⟨_, (h265t0 gF).fr f272 (by decide) (by decide), h276t0 gF⟩
          clear h265t0 h265t1 h276t0 h276t1
          clear h276 z267
          have r284 : RI τ270 := r268.call f272 (by decide) (by decide)
          have r285 : ST τ270 := r269.call f272 (by decide) (by decide)
          show MW p l e _ s m _ below meth c _ 4 G ((250 + 8 * y3.toInt.toNat) + 8) ((5300 + 24 * y3.toInt.toNat) + 24) 412 [some (.ref b), some (.ref (G.1 0 0)), some (.ref (G.1 22 0)), some (.int y3)] [.int x273] τ270
          refine m_pop C dL_law_412 rfl ?_
          refine m_goto (tgt := 1028) C dL_law_413 (by decide) ?_
          obtain ⟨x286, ex286⟩ : ∃ y : Int32, y = y3 + 6 := ⟨_, rfl⟩
          have tx286 : x286.toInt = y3.toInt + 6 := by rw [ex286, ti_addv b8 kc_6 (by decide), kt_6]
          have b287 : IV x286 6 3072 := by rw [ex286]; exact iv_add b8 kc_6 (by decide)
          refine m_iinc (v := x286) (L1 := [some (.ref b), some (.ref (G.1 0 0)), some (.ref (G.1 22 0)), some (.int x286)]) C dL_law_1028 rfl (by rw [ex286]; rfl) (by decide) rfl rfl ?_
          refine m_goto (tgt := 18) C dL_law_1031 (by decide) ?_
          refine m_widen (c2 := 250 + 8 * x286.toInt.toNat) (s2 := 5300 + 24 * x286.toInt.toNat) (by omega) (by omega) ?_
          exact ih18 τ270 x286 S281 I i271 r278 r279 h282 h283 r284 r285 (iv_wk b287 (by decide)) (by have q := hm18; omega)
        by_cases s288 : x11.toInt = 6
        · refine m_tableIn (tgt := 416) (off := 383) C dL_law_33 (by omega) (by omega) (by rw [s288]; rfl) (by decide) ?_
          have b289 : IV x11 6 6 := ⟨by omega, by omega⟩
          refine m_aload_n C dL_law_416 rfl rfl ?_
          refine m_callV (n := 0) (ci := 10) (st := []) C (c_X11_faultT l G τ  iτ ) (by decide) (by decide) rfl rfl rfl q3_13 q3_10 q3_11 q3_12 q1_1 (by decide +kernel) rfl (by decide) ⟨by show (250 + 8 * y3.toInt.toNat) + 0 ≤ 600000; omega, by show (5300 + 24 * y3.toInt.toNat) + 0 ≤ 7302250; omega⟩ rfl (Nat.le_of_ble_eq_true rfl) dL_law_417 ?_
          rintro _ τ290 ⟨x293, rfl, i291, f292, b294, h296⟩
          have r297 : MA τ290 S I := mτ.fr iτ f292 (by decide) (by decide)
          have z298 := Hid.mk h296
          clear h296
          have r299 : Rel τ290 := rτ.call f292 (by decide) (by decide)
          have r300 : RT τ290 := tτ.call f292 (by decide) (by decide)
          have r301 : CA τ290 S I := cτ.fr f292 (by decide) (by decide)
          have r302 : RI τ290 := jτ.call f292 (by decide) (by decide)
          have r303 : ST τ290 := oτ.call f292 (by decide) (by decide)
          show MW p l e _ s m _ below meth c _ 4 G (250 + 8 * y3.toInt.toNat) (5300 + 24 * y3.toInt.toNat) 420 [some (.ref b), some (.ref (G.1 0 0)), some (.ref (G.1 22 0)), some (.int y3)] [.int x293] τ290
          refine m_pop C dL_law_420 rfl ?_
          refine m_aload_n C dL_law_421 rfl rfl ?_
          refine m_callV (n := 0) (ci := 11) (st := []) C (c_X12_faultT l G τ290  i291 ) (by decide) (by decide) rfl rfl rfl q5_42 q5_39 q5_40 q5_41 q1_7 (by decide +kernel) rfl (by decide) ⟨by show (250 + 8 * y3.toInt.toNat) + 0 ≤ 600000; omega, by show (5300 + 24 * y3.toInt.toNat) + 0 ≤ 7302250; omega⟩ rfl (Nat.le_of_ble_eq_true rfl) dL_law_422 ?_
          rintro _ τ304 ⟨x307, rfl, i305, f306, b308, h310⟩
          have g311 := RT.faultB tτ f292 z298 h310
          have r312 : Rel τ304 := r299.call f306 (by decide) (by decide)
          have r313 : RT τ304 := r300.call f306 (by decide) (by decide)
          have r314 : CA τ304 S I := r301.fr f306 (by decide) (by decide)
          have r315 : MA τ304 S I := r297.fr i291 f306 (by decide) (by decide)
          clear h310 z298
          have r316 : RI τ304 := r302.call f306 (by decide) (by decide)
          have r317 : ST τ304 := r303.call f306 (by decide) (by decide)
          show MW p l e _ s m _ below meth c _ 4 G (250 + 8 * y3.toInt.toNat) (5300 + 24 * y3.toInt.toNat) 425 [some (.ref b), some (.ref (G.1 0 0)), some (.ref (G.1 22 0)), some (.int y3)] [.int x307] τ304
          refine m_pop C dL_law_425 rfl ?_
          refine m_goto (tgt := 1028) C dL_law_426 (by decide) ?_
          obtain ⟨x318, ex318⟩ : ∃ y : Int32, y = y3 + 6 := ⟨_, rfl⟩
          have tx318 : x318.toInt = y3.toInt + 6 := by rw [ex318, ti_addv b8 kc_6 (by decide), kt_6]
          have b319 : IV x318 6 3072 := by rw [ex318]; exact iv_add b8 kc_6 (by decide)
          refine m_iinc (v := x318) (L1 := [some (.ref b), some (.ref (G.1 0 0)), some (.ref (G.1 22 0)), some (.int x318)]) C dL_law_1028 rfl (by rw [ex318]; rfl) (by decide) rfl rfl ?_
          refine m_goto (tgt := 18) C dL_law_1031 (by decide) ?_
          refine m_widen (c2 := 250 + 8 * x318.toInt.toNat) (s2 := 5300 + 24 * x318.toInt.toNat) (by omega) (by omega) ?_
          exact ih18 τ304 x318 S I i305 r312 r313 r314 r315 r316 r317 (iv_wk b319 (by decide)) (by have q := hm18; omega)
        by_cases s320 : x11.toInt = 7
        · refine m_tableIn (tgt := 429) (off := 396) C dL_law_33 (by omega) (by omega) (by rw [s320]; rfl) (by decide) ?_
          have b321 : IV x11 7 7 := ⟨by omega, by omega⟩
          refine m_aload_n C dL_law_429 rfl rfl ?_
          refine m_aload_n C dL_law_430 rfl rfl ?_
          refine m_iload_n C dL_law_431 rfl rfl ?_
          refine m_iconst (v := 1) C dL_law_432 (by decide) ?_
          refine m_iadd C dL_law_433 ?_
          refine m_topi (fun x322 ex322 => ?_)
          have tx322 : x322.toInt = y3.toInt + 1 := by rw [ex322, ti_addv b8 kc_1 (by decide), kt_1]
          have b323 : IV x322 1 3067 := by rw [ex322]; exact iv_add b8 kc_1 (by decide)
          refine m_sld C hX hbl hbA ⟨by omega, by omega⟩ dL_law_434 ?_
          refine m_topi (fun x324 ex324 => ?_)
          refine m_aload_n C dL_law_435 rfl rfl ?_
          refine m_iload_n C dL_law_436 rfl rfl ?_
          refine m_iconst (v := 2) C dL_law_437 (by decide) ?_
          refine m_iadd C dL_law_438 ?_
          refine m_topi (fun x325 ex325 => ?_)
          have tx325 : x325.toInt = y3.toInt + 2 := by rw [ex325, ti_addv b8 kc_2 (by decide), kt_2]
          have b326 : IV x325 2 3068 := by rw [ex325]; exact iv_add b8 kc_2 (by decide)
          refine m_sld C hX hbl hbA ⟨by omega, by omega⟩ dL_law_439 ?_
          refine m_topi (fun x327 ex327 => ?_)
          refine m_callV (n := 2) (ci := 10) (st := []) C (c_X11_goS l G τ S I (x324) (x327) iτ cτ) (by decide) (by decide) rfl rfl rfl q3_17 q3_14 q3_15 q3_16 q1_1 (by decide +kernel) rfl (by decide) ⟨by show (250 + 8 * y3.toInt.toNat) + 0 ≤ 600000; omega, by show (5300 + 24 * y3.toInt.toNat) + 0 ≤ 7302250; omega⟩ rfl (Nat.le_of_ble_eq_true rfl) dL_law_440 ?_
          rintro _ τ328 ⟨x331, rfl, i329, f330, b332, h334⟩
          have r335 : MA τ328 S I := mτ.fr iτ f330 (by decide) (by decide)
          have r336 : Rel τ328 := rτ.call f330 (by decide) (by decide)
          have r337 : RT τ328 := tτ.call f330 (by decide) (by decide)
          have r338 : CA τ328 S I := h334
          have r339 : RI τ328 := jτ.call f330 (by decide) (by decide)
          have r340 : ST τ328 := oτ.call f330 (by decide) (by decide)
          show MW p l e _ s m _ below meth c _ 4 G (250 + 8 * y3.toInt.toNat) (5300 + 24 * y3.toInt.toNat) 443 [some (.ref b), some (.ref (G.1 0 0)), some (.ref (G.1 22 0)), some (.int y3)] [.int x331] τ328
          refine m_pop C dL_law_443 rfl ?_
          refine m_aload_n C dL_law_444 rfl rfl ?_
          refine m_aload_n C dL_law_445 rfl rfl ?_
          refine m_iload_n C dL_law_446 rfl rfl ?_
          refine m_iconst (v := 1) C dL_law_447 (by decide) ?_
          refine m_iadd C dL_law_448 ?_
          refine m_topi (fun x341 ex341 => ?_)
          have tx341 : x341.toInt = y3.toInt + 1 := by rw [ex341, ti_addv b8 kc_1 (by decide), kt_1]
          have b342 : IV x341 1 3067 := by rw [ex341]; exact iv_add b8 kc_1 (by decide)
          refine m_sld C hX hbl hbA ⟨by omega, by omega⟩ dL_law_449 ?_
          refine m_eqs (w := x324) (by rw [ex324, show x341.toInt.toNat = x322.toInt.toNat by omega]) ?_
          refine m_aload_n C dL_law_450 rfl rfl ?_
          refine m_iload_n C dL_law_451 rfl rfl ?_
          refine m_iconst (v := 2) C dL_law_452 (by decide) ?_
          refine m_iadd C dL_law_453 ?_
          refine m_topi (fun x343 ex343 => ?_)
          have tx343 : x343.toInt = y3.toInt + 2 := by rw [ex343, ti_addv b8 kc_2 (by decide), kt_2]
          have b344 : IV x343 2 3068 := by rw [ex343]; exact iv_add b8 kc_2 (by decide)
          refine m_sld C hX hbl hbA ⟨by omega, by omega⟩ dL_law_454 ?_
          refine m_eqs (w := x327) (by rw [ex327, show x343.toInt.toNat = x325.toInt.toNat by omega]) ?_
          refine m_callV (n := 2) (ci := 11) (st := []) C (c_X12_goS l G τ328 S I (x324) (x327) i329 r335) (by decide) (by decide) rfl rfl rfl q5_46 q5_43 q5_44 q5_45 q1_7 (by decide +kernel) rfl (by decide) ⟨by show (250 + 8 * y3.toInt.toNat) + 0 ≤ 600000; omega, by show (5300 + 24 * y3.toInt.toNat) + 0 ≤ 7302250; omega⟩ rfl (Nat.le_of_ble_eq_true rfl) dL_law_455 ?_
          rintro _ τ345 ⟨x348, rfl, i346, f347, b349, h351⟩
          have r352 : Rel τ345 := r336.call f347 (by decide) (by decide)
          have r353 : RT τ345 := r337.call f347 (by decide) (by decide)
          have r354 : CA τ345 S I := r338.fr f347 (by decide) (by decide)
          have r355 : MA τ345 S I := h351
          have r356 : RI τ345 := r339.call f347 (by decide) (by decide)
          have r357 : ST τ345 := r340.call f347 (by decide) (by decide)
          show MW p l e _ s m _ below meth c _ 4 G (250 + 8 * y3.toInt.toNat) (5300 + 24 * y3.toInt.toNat) 458 [some (.ref b), some (.ref (G.1 0 0)), some (.ref (G.1 22 0)), some (.int y3)] [.int x348] τ345
          refine m_pop C dL_law_458 rfl ?_
          refine m_goto (tgt := 1028) C dL_law_459 (by decide) ?_
          obtain ⟨x358, ex358⟩ : ∃ y : Int32, y = y3 + 6 := ⟨_, rfl⟩
          have tx358 : x358.toInt = y3.toInt + 6 := by rw [ex358, ti_addv b8 kc_6 (by decide), kt_6]
          have b359 : IV x358 6 3072 := by rw [ex358]; exact iv_add b8 kc_6 (by decide)
          refine m_iinc (v := x358) (L1 := [some (.ref b), some (.ref (G.1 0 0)), some (.ref (G.1 22 0)), some (.int x358)]) C dL_law_1028 rfl (by rw [ex358]; rfl) (by decide) rfl rfl ?_
          refine m_goto (tgt := 18) C dL_law_1031 (by decide) ?_
          refine m_widen (c2 := 250 + 8 * x358.toInt.toNat) (s2 := 5300 + 24 * x358.toInt.toNat) (by omega) (by omega) ?_
          exact ih18 τ345 x358 S I i346 r352 r353 r354 r355 r356 r357 (iv_wk b359 (by decide)) (by have q := hm18; omega)
        by_cases s360 : x11.toInt = 8
        · refine m_tableIn (tgt := 462) (off := 429) C dL_law_33 (by omega) (by omega) (by rw [s360]; rfl) (by decide) ?_
          have b361 : IV x11 8 8 := ⟨by omega, by omega⟩
          refine m_aload_n C dL_law_462 rfl rfl ?_
          refine m_aload_n C dL_law_463 rfl rfl ?_
          refine m_iload_n C dL_law_464 rfl rfl ?_
          refine m_iconst (v := 1) C dL_law_465 (by decide) ?_
          refine m_iadd C dL_law_466 ?_
          refine m_topi (fun x362 ex362 => ?_)
          have tx362 : x362.toInt = y3.toInt + 1 := by rw [ex362, ti_addv b8 kc_1 (by decide), kt_1]
          have b363 : IV x362 1 3067 := by rw [ex362]; exact iv_add b8 kc_1 (by decide)
          refine m_sld C hX hbl hbA ⟨by omega, by omega⟩ dL_law_467 ?_
          refine m_topi (fun x364 ex364 => ?_)
          refine m_aload_n C dL_law_468 rfl rfl ?_
          refine m_iload_n C dL_law_469 rfl rfl ?_
          refine m_iconst (v := 2) C dL_law_470 (by decide) ?_
          refine m_iadd C dL_law_471 ?_
          refine m_topi (fun x365 ex365 => ?_)
          have tx365 : x365.toInt = y3.toInt + 2 := by rw [ex365, ti_addv b8 kc_2 (by decide), kt_2]
          have b366 : IV x365 2 3068 := by rw [ex365]; exact iv_add b8 kc_2 (by decide)
          refine m_sld C hX hbl hbA ⟨by omega, by omega⟩ dL_law_472 ?_
          refine m_topi (fun x367 ex367 => ?_)
          refine m_callV (n := 2) (ci := 10) (st := []) C (c_X11_hangS l G τ S I (x364) (x367) iτ cτ) (by decide) (by decide) rfl rfl rfl q3_29 q3_26 q3_27 q3_28 q1_1 (by decide +kernel) rfl (by decide) ⟨by show (250 + 8 * y3.toInt.toNat) + 0 ≤ 600000; omega, by show (5300 + 24 * y3.toInt.toNat) + 0 ≤ 7302250; omega⟩ rfl (Nat.le_of_ble_eq_true rfl) dL_law_473 ?_
          rintro _ τ368 ⟨x371, rfl, i369, f370, b372, h374⟩
          have r375 : MA τ368 S I := mτ.fr iτ f370 (by decide) (by decide)
          have r376 : Rel τ368 := rτ.call f370 (by decide) (by decide)
          have r377 : RT τ368 := tτ.call f370 (by decide) (by decide)
          have r378 : CA τ368 S I := h374
          have r379 : RI τ368 := jτ.call f370 (by decide) (by decide)
          have r380 : ST τ368 := oτ.call f370 (by decide) (by decide)
          show MW p l e _ s m _ below meth c _ 4 G (250 + 8 * y3.toInt.toNat) (5300 + 24 * y3.toInt.toNat) 476 [some (.ref b), some (.ref (G.1 0 0)), some (.ref (G.1 22 0)), some (.int y3)] [.int x371] τ368
          refine m_pop C dL_law_476 rfl ?_
          refine m_aload_n C dL_law_477 rfl rfl ?_
          refine m_aload_n C dL_law_478 rfl rfl ?_
          refine m_iload_n C dL_law_479 rfl rfl ?_
          refine m_iconst (v := 1) C dL_law_480 (by decide) ?_
          refine m_iadd C dL_law_481 ?_
          refine m_topi (fun x381 ex381 => ?_)
          have tx381 : x381.toInt = y3.toInt + 1 := by rw [ex381, ti_addv b8 kc_1 (by decide), kt_1]
          have b382 : IV x381 1 3067 := by rw [ex381]; exact iv_add b8 kc_1 (by decide)
          refine m_sld C hX hbl hbA ⟨by omega, by omega⟩ dL_law_482 ?_
          refine m_eqs (w := x364) (by rw [ex364, show x381.toInt.toNat = x362.toInt.toNat by omega]) ?_
          refine m_aload_n C dL_law_483 rfl rfl ?_
          refine m_iload_n C dL_law_484 rfl rfl ?_
          refine m_iconst (v := 2) C dL_law_485 (by decide) ?_
          refine m_iadd C dL_law_486 ?_
          refine m_topi (fun x383 ex383 => ?_)
          have tx383 : x383.toInt = y3.toInt + 2 := by rw [ex383, ti_addv b8 kc_2 (by decide), kt_2]
          have b384 : IV x383 2 3068 := by rw [ex383]; exact iv_add b8 kc_2 (by decide)
          refine m_sld C hX hbl hbA ⟨by omega, by omega⟩ dL_law_487 ?_
          refine m_eqs (w := x367) (by rw [ex367, show x383.toInt.toNat = x365.toInt.toNat by omega]) ?_
          refine m_callV (n := 2) (ci := 11) (st := []) C (c_X12_hangS l G τ368 S I (x364) (x367) i369 r375) (by decide) (by decide) rfl rfl rfl q5_58 q5_55 q5_56 q5_57 q1_7 (by decide +kernel) rfl (by decide) ⟨by show (250 + 8 * y3.toInt.toNat) + 0 ≤ 600000; omega, by show (5300 + 24 * y3.toInt.toNat) + 0 ≤ 7302250; omega⟩ rfl (Nat.le_of_ble_eq_true rfl) dL_law_488 ?_
          rintro _ τ385 ⟨x388, rfl, i386, f387, b389, h391⟩
          have r392 : Rel τ385 := r376.call f387 (by decide) (by decide)
          have r393 : RT τ385 := r377.call f387 (by decide) (by decide)
          have r394 : CA τ385 S I := r378.fr f387 (by decide) (by decide)
          have r395 : MA τ385 S I := h391
          have r396 : RI τ385 := r379.call f387 (by decide) (by decide)
          have r397 : ST τ385 := r380.call f387 (by decide) (by decide)
          show MW p l e _ s m _ below meth c _ 4 G (250 + 8 * y3.toInt.toNat) (5300 + 24 * y3.toInt.toNat) 491 [some (.ref b), some (.ref (G.1 0 0)), some (.ref (G.1 22 0)), some (.int y3)] [.int x388] τ385
          refine m_pop C dL_law_491 rfl ?_
          refine m_goto (tgt := 1028) C dL_law_492 (by decide) ?_
          obtain ⟨x398, ex398⟩ : ∃ y : Int32, y = y3 + 6 := ⟨_, rfl⟩
          have tx398 : x398.toInt = y3.toInt + 6 := by rw [ex398, ti_addv b8 kc_6 (by decide), kt_6]
          have b399 : IV x398 6 3072 := by rw [ex398]; exact iv_add b8 kc_6 (by decide)
          refine m_iinc (v := x398) (L1 := [some (.ref b), some (.ref (G.1 0 0)), some (.ref (G.1 22 0)), some (.int x398)]) C dL_law_1028 rfl (by rw [ex398]; rfl) (by decide) rfl rfl ?_
          refine m_goto (tgt := 18) C dL_law_1031 (by decide) ?_
          refine m_widen (c2 := 250 + 8 * x398.toInt.toNat) (s2 := 5300 + 24 * x398.toInt.toNat) (by omega) (by omega) ?_
          exact ih18 τ385 x398 S I i386 r392 r393 r394 r395 r396 r397 (iv_wk b399 (by decide)) (by have q := hm18; omega)
        by_cases s400 : x11.toInt = 9
        · refine m_tableIn (tgt := 495) (off := 462) C dL_law_33 (by omega) (by omega) (by rw [s400]; rfl) (by decide) ?_
          have b401 : IV x11 9 9 := ⟨by omega, by omega⟩
          refine m_aload_n C dL_law_495 rfl rfl ?_
          refine m_aload_n C dL_law_496 rfl rfl ?_
          refine m_iload_n C dL_law_497 rfl rfl ?_
          refine m_iconst (v := 1) C dL_law_498 (by decide) ?_
          refine m_iadd C dL_law_499 ?_
          refine m_topi (fun x402 ex402 => ?_)
          have tx402 : x402.toInt = y3.toInt + 1 := by rw [ex402, ti_addv b8 kc_1 (by decide), kt_1]
          have b403 : IV x402 1 3067 := by rw [ex402]; exact iv_add b8 kc_1 (by decide)
          refine m_sld C hX hbl hbA ⟨by omega, by omega⟩ dL_law_500 ?_
          refine m_topi (fun x404 ex404 => ?_)
          refine m_callV (n := 1) (ci := 10) (st := []) C (c_X11_halvesS l G τ S I (x404) iτ cτ) (by decide) (by decide) rfl rfl rfl q3_37 q3_34 q3_35 q3_36 q1_1 (by decide +kernel) rfl (by decide) ⟨by show (250 + 8 * y3.toInt.toNat) + 0 ≤ 600000; omega, by show (5300 + 24 * y3.toInt.toNat) + 0 ≤ 7302250; omega⟩ rfl (Nat.le_of_ble_eq_true rfl) dL_law_501 ?_
          rintro _ τ405 ⟨x408, rfl, i406, f407, b409, h411⟩
          have r412 : MA τ405 S I := mτ.fr iτ f407 (by decide) (by decide)
          have r413 : Rel τ405 := rτ.call f407 (by decide) (by decide)
          have r414 : RT τ405 := tτ.call f407 (by decide) (by decide)
          have r415 : CA τ405 S I := h411
          have r416 : RI τ405 := jτ.call f407 (by decide) (by decide)
          have r417 : ST τ405 := oτ.call f407 (by decide) (by decide)
          show MW p l e _ s m _ below meth c _ 4 G (250 + 8 * y3.toInt.toNat) (5300 + 24 * y3.toInt.toNat) 504 [some (.ref b), some (.ref (G.1 0 0)), some (.ref (G.1 22 0)), some (.int y3)] [.int x408] τ405
          refine m_pop C dL_law_504 rfl ?_
          refine m_aload_n C dL_law_505 rfl rfl ?_
          refine m_aload_n C dL_law_506 rfl rfl ?_
          refine m_iload_n C dL_law_507 rfl rfl ?_
          refine m_iconst (v := 1) C dL_law_508 (by decide) ?_
          refine m_iadd C dL_law_509 ?_
          refine m_topi (fun x418 ex418 => ?_)
          have tx418 : x418.toInt = y3.toInt + 1 := by rw [ex418, ti_addv b8 kc_1 (by decide), kt_1]
          have b419 : IV x418 1 3067 := by rw [ex418]; exact iv_add b8 kc_1 (by decide)
          refine m_sld C hX hbl hbA ⟨by omega, by omega⟩ dL_law_510 ?_
          refine m_eqs (w := x404) (by rw [ex404, show x418.toInt.toNat = x402.toInt.toNat by omega]) ?_
          refine m_callV (n := 1) (ci := 11) (st := []) C (c_X12_halvesS l G τ405 S I (x404) i406 r412) (by decide) (by decide) rfl rfl rfl q5_63 q5_60 q5_61 q5_62 q1_7 (by decide +kernel) rfl (by decide) ⟨by show (250 + 8 * y3.toInt.toNat) + 0 ≤ 600000; omega, by show (5300 + 24 * y3.toInt.toNat) + 0 ≤ 7302250; omega⟩ rfl (Nat.le_of_ble_eq_true rfl) dL_law_511 ?_
          rintro _ τ420 ⟨x423, rfl, i421, f422, b424, h426⟩
          have r427 : Rel τ420 := r413.call f422 (by decide) (by decide)
          have r428 : RT τ420 := r414.call f422 (by decide) (by decide)
          have r429 : CA τ420 S I := r415.fr f422 (by decide) (by decide)
          have r430 : MA τ420 S I := h426
          have r431 : RI τ420 := r416.call f422 (by decide) (by decide)
          have r432 : ST τ420 := r417.call f422 (by decide) (by decide)
          show MW p l e _ s m _ below meth c _ 4 G (250 + 8 * y3.toInt.toNat) (5300 + 24 * y3.toInt.toNat) 514 [some (.ref b), some (.ref (G.1 0 0)), some (.ref (G.1 22 0)), some (.int y3)] [.int x423] τ420
          refine m_pop C dL_law_514 rfl ?_
          refine m_goto (tgt := 1028) C dL_law_515 (by decide) ?_
          obtain ⟨x433, ex433⟩ : ∃ y : Int32, y = y3 + 6 := ⟨_, rfl⟩
          have tx433 : x433.toInt = y3.toInt + 6 := by rw [ex433, ti_addv b8 kc_6 (by decide), kt_6]
          have b434 : IV x433 6 3072 := by rw [ex433]; exact iv_add b8 kc_6 (by decide)
          refine m_iinc (v := x433) (L1 := [some (.ref b), some (.ref (G.1 0 0)), some (.ref (G.1 22 0)), some (.int x433)]) C dL_law_1028 rfl (by rw [ex433]; rfl) (by decide) rfl rfl ?_
          refine m_goto (tgt := 18) C dL_law_1031 (by decide) ?_
          refine m_widen (c2 := 250 + 8 * x433.toInt.toNat) (s2 := 5300 + 24 * x433.toInt.toNat) (by omega) (by omega) ?_
          exact ih18 τ420 x433 S I i421 r427 r428 r429 r430 r431 r432 (iv_wk b434 (by decide)) (by have q := hm18; omega)
        by_cases s435 : x11.toInt = 10
        · refine m_tableIn (tgt := 518) (off := 485) C dL_law_33 (by omega) (by omega) (by rw [s435]; rfl) (by decide) ?_
          have b436 : IV x11 10 10 := ⟨by omega, by omega⟩
          refine m_aload_n C dL_law_518 rfl rfl ?_
          refine m_callV (n := 0) (ci := 10) (st := []) C (c_X11_yearS l G τ S I  iτ cτ) (by decide) (by decide) rfl rfl rfl q3_97 q3_94 q3_95 q3_96 q1_1 (by decide +kernel) rfl (by decide) ⟨by show (250 + 8 * y3.toInt.toNat) + 0 ≤ 600000; omega, by show (5300 + 24 * y3.toInt.toNat) + 0 ≤ 7302250; omega⟩ rfl (Nat.le_of_ble_eq_true rfl) dL_law_519 ?_
          rintro _ τ437 ⟨x440, rfl, i438, f439, b441, h443⟩
          have r444 : MA τ437 S I := mτ.fr iτ f439 (by decide) (by decide)
          have r445 : Rel τ437 := rτ.call f439 (by decide) (by decide)
          have r446 : RT τ437 := tτ.call f439 (by decide) (by decide)
          have r447 : CA τ437 S I := h443
          have r448 : RI τ437 := jτ.call f439 (by decide) (by decide)
          have r449 : ST τ437 := oτ.call f439 (by decide) (by decide)
          show MW p l e _ s m _ below meth c _ 4 G (250 + 8 * y3.toInt.toNat) (5300 + 24 * y3.toInt.toNat) 522 [some (.ref b), some (.ref (G.1 0 0)), some (.ref (G.1 22 0)), some (.int y3)] [.int x440] τ437
          refine m_pop C dL_law_522 rfl ?_
          refine m_aload_n C dL_law_523 rfl rfl ?_
          refine m_callV (n := 0) (ci := 11) (st := []) C (c_X12_yearS l G τ437 S I  i438 r444) (by decide) (by decide) rfl rfl rfl q5_103 q5_100 q5_101 q5_102 q1_7 (by decide +kernel) rfl (by decide) ⟨by show (250 + 8 * y3.toInt.toNat) + 0 ≤ 600000; omega, by show (5300 + 24 * y3.toInt.toNat) + 0 ≤ 7302250; omega⟩ rfl (Nat.le_of_ble_eq_true rfl) dL_law_524 ?_
          rintro _ τ450 ⟨x453, rfl, i451, f452, b454, h456⟩
          have r457 : Rel τ450 := r445.call f452 (by decide) (by decide)
          have r458 : RT τ450 := r446.call f452 (by decide) (by decide)
          have r459 : CA τ450 S I := r447.fr f452 (by decide) (by decide)
          have r460 : MA τ450 S I := h456
          have r461 : RI τ450 := r448.call f452 (by decide) (by decide)
          have r462 : ST τ450 := r449.call f452 (by decide) (by decide)
          show MW p l e _ s m _ below meth c _ 4 G (250 + 8 * y3.toInt.toNat) (5300 + 24 * y3.toInt.toNat) 527 [some (.ref b), some (.ref (G.1 0 0)), some (.ref (G.1 22 0)), some (.int y3)] [.int x453] τ450
          refine m_pop C dL_law_527 rfl ?_
          refine m_goto (tgt := 1028) C dL_law_528 (by decide) ?_
          obtain ⟨x463, ex463⟩ : ∃ y : Int32, y = y3 + 6 := ⟨_, rfl⟩
          have tx463 : x463.toInt = y3.toInt + 6 := by rw [ex463, ti_addv b8 kc_6 (by decide), kt_6]
          have b464 : IV x463 6 3072 := by rw [ex463]; exact iv_add b8 kc_6 (by decide)
          refine m_iinc (v := x463) (L1 := [some (.ref b), some (.ref (G.1 0 0)), some (.ref (G.1 22 0)), some (.int x463)]) C dL_law_1028 rfl (by rw [ex463]; rfl) (by decide) rfl rfl ?_
          refine m_goto (tgt := 18) C dL_law_1031 (by decide) ?_
          refine m_widen (c2 := 250 + 8 * x463.toInt.toNat) (s2 := 5300 + 24 * x463.toInt.toNat) (by omega) (by omega) ?_
          exact ih18 τ450 x463 S I i451 r457 r458 r459 r460 r461 r462 (iv_wk b464 (by decide)) (by have q := hm18; omega)
        by_cases s465 : x11.toInt = 11
        · refine m_tableIn (tgt := 531) (off := 498) C dL_law_33 (by omega) (by omega) (by rw [s465]; rfl) (by decide) ?_
          have b466 : IV x11 11 11 := ⟨by omega, by omega⟩
          refine m_aload_n C dL_law_531 rfl rfl ?_
          refine m_callV (n := 0) (ci := 10) (st := []) C (c_X11_undoS l G τ S I  iτ cτ) (by decide) (by decide) rfl rfl rfl q3_106 q3_103 q3_104 q3_105 q1_1 (by decide +kernel) rfl (by decide) ⟨by show (250 + 8 * y3.toInt.toNat) + 0 ≤ 600000; omega, by show (5300 + 24 * y3.toInt.toNat) + 0 ≤ 7302250; omega⟩ rfl (Nat.le_of_ble_eq_true rfl) dL_law_532 ?_
          rintro _ τ467 ⟨x470, rfl, i468, f469, b471, h473⟩
          have r474 : MA τ467 S I := mτ.fr iτ f469 (by decide) (by decide)
          have r475 : Rel τ467 := rτ.call f469 (by decide) (by decide)
          have r476 : RT τ467 := tτ.call f469 (by decide) (by decide)
          have r477 : CA τ467 S I := h473
          have r478 : RI τ467 := jτ.call f469 (by decide) (by decide)
          have r479 : ST τ467 := oτ.call f469 (by decide) (by decide)
          show MW p l e _ s m _ below meth c _ 4 G (250 + 8 * y3.toInt.toNat) (5300 + 24 * y3.toInt.toNat) 535 [some (.ref b), some (.ref (G.1 0 0)), some (.ref (G.1 22 0)), some (.int y3)] [.int x470] τ467
          refine m_pop C dL_law_535 rfl ?_
          refine m_aload_n C dL_law_536 rfl rfl ?_
          refine m_callV (n := 0) (ci := 11) (st := []) C (c_X12_undoS l G τ467 S I  i468 r474) (by decide) (by decide) rfl rfl rfl q5_111 q5_108 q5_109 q5_110 q1_7 (by decide +kernel) rfl (by decide) ⟨by show (250 + 8 * y3.toInt.toNat) + 0 ≤ 600000; omega, by show (5300 + 24 * y3.toInt.toNat) + 0 ≤ 7302250; omega⟩ rfl (Nat.le_of_ble_eq_true rfl) dL_law_537 ?_
          rintro _ τ480 ⟨x483, rfl, i481, f482, b484, h486⟩
          have r487 : Rel τ480 := r475.call f482 (by decide) (by decide)
          have r488 : RT τ480 := r476.call f482 (by decide) (by decide)
          have r489 : CA τ480 S I := r477.fr f482 (by decide) (by decide)
          have r490 : MA τ480 S I := h486
          have r491 : RI τ480 := r478.call f482 (by decide) (by decide)
          have r492 : ST τ480 := r479.call f482 (by decide) (by decide)
          show MW p l e _ s m _ below meth c _ 4 G (250 + 8 * y3.toInt.toNat) (5300 + 24 * y3.toInt.toNat) 540 [some (.ref b), some (.ref (G.1 0 0)), some (.ref (G.1 22 0)), some (.int y3)] [.int x483] τ480
          refine m_pop C dL_law_540 rfl ?_
          refine m_goto (tgt := 1028) C dL_law_541 (by decide) ?_
          obtain ⟨x493, ex493⟩ : ∃ y : Int32, y = y3 + 6 := ⟨_, rfl⟩
          have tx493 : x493.toInt = y3.toInt + 6 := by rw [ex493, ti_addv b8 kc_6 (by decide), kt_6]
          have b494 : IV x493 6 3072 := by rw [ex493]; exact iv_add b8 kc_6 (by decide)
          refine m_iinc (v := x493) (L1 := [some (.ref b), some (.ref (G.1 0 0)), some (.ref (G.1 22 0)), some (.int x493)]) C dL_law_1028 rfl (by rw [ex493]; rfl) (by decide) rfl rfl ?_
          refine m_goto (tgt := 18) C dL_law_1031 (by decide) ?_
          refine m_widen (c2 := 250 + 8 * x493.toInt.toNat) (s2 := 5300 + 24 * x493.toInt.toNat) (by omega) (by omega) ?_
          exact ih18 τ480 x493 S I i481 r487 r488 r489 r490 r491 r492 (iv_wk b494 (by decide)) (by have q := hm18; omega)
        by_cases s495 : x11.toInt = 12
        · refine m_tableIn (tgt := 544) (off := 511) C dL_law_33 (by omega) (by omega) (by rw [s495]; rfl) (by decide) ?_
          have b496 : IV x11 12 12 := ⟨by omega, by omega⟩
          refine m_aload_n C dL_law_544 rfl rfl ?_
          refine m_aload_n C dL_law_545 rfl rfl ?_
          refine m_iload_n C dL_law_546 rfl rfl ?_
          refine m_iconst (v := 1) C dL_law_547 (by decide) ?_
          refine m_iadd C dL_law_548 ?_
          refine m_topi (fun x497 ex497 => ?_)
          have tx497 : x497.toInt = y3.toInt + 1 := by rw [ex497, ti_addv b8 kc_1 (by decide), kt_1]
          have b498 : IV x497 1 3067 := by rw [ex497]; exact iv_add b8 kc_1 (by decide)
          refine m_sld C hX hbl hbA ⟨by omega, by omega⟩ dL_law_549 ?_
          refine m_topi (fun x499 ex499 => ?_)
          refine m_aload_n C dL_law_550 rfl rfl ?_
          refine m_iload_n C dL_law_551 rfl rfl ?_
          refine m_iconst (v := 2) C dL_law_552 (by decide) ?_
          refine m_iadd C dL_law_553 ?_
          refine m_topi (fun x500 ex500 => ?_)
          have tx500 : x500.toInt = y3.toInt + 2 := by rw [ex500, ti_addv b8 kc_2 (by decide), kt_2]
          have b501 : IV x500 2 3068 := by rw [ex500]; exact iv_add b8 kc_2 (by decide)
          refine m_sld C hX hbl hbA ⟨by omega, by omega⟩ dL_law_554 ?_
          refine m_topi (fun x502 ex502 => ?_)
          refine m_callV (n := 2) (ci := 10) (st := []) C (c_X11_person l G τ (x499) (x502) iτ ) (by decide) (by decide) rfl rfl rfl q3_110 q3_107 q3_108 q3_109 q1_1 (by decide +kernel) rfl (by decide) ⟨by show (250 + 8 * y3.toInt.toNat) + 0 ≤ 600000; omega, by show (5300 + 24 * y3.toInt.toNat) + 0 ≤ 7302250; omega⟩ rfl (Nat.le_of_ble_eq_true rfl) dL_law_555 ?_
          rintro _ τ503 ⟨x506, rfl, i504, f505, b507⟩
          have r510 : MA τ503 S I := mτ.fr iτ f505 (by decide) (by decide)
          have r511 : Rel τ503 := rτ.call f505 (by decide) (by decide)
          have r512 : RT τ503 := tτ.call f505 (by decide) (by decide)
          have r513 : CA τ503 S I := cτ.fr f505 (by decide) (by decide)
          have r514 : RI τ503 := jτ.call f505 (by decide) (by decide)
          have r515 : ST τ503 := oτ.call f505 (by decide) (by decide)
          show MW p l e _ s m _ below meth c _ 4 G (250 + 8 * y3.toInt.toNat) (5300 + 24 * y3.toInt.toNat) 558 [some (.ref b), some (.ref (G.1 0 0)), some (.ref (G.1 22 0)), some (.int y3)] [.int x506] τ503
          refine m_pop C dL_law_558 rfl ?_
          refine m_aload_n C dL_law_559 rfl rfl ?_
          refine m_aload_n C dL_law_560 rfl rfl ?_
          refine m_iload_n C dL_law_561 rfl rfl ?_
          refine m_iconst (v := 1) C dL_law_562 (by decide) ?_
          refine m_iadd C dL_law_563 ?_
          refine m_topi (fun x516 ex516 => ?_)
          have tx516 : x516.toInt = y3.toInt + 1 := by rw [ex516, ti_addv b8 kc_1 (by decide), kt_1]
          have b517 : IV x516 1 3067 := by rw [ex516]; exact iv_add b8 kc_1 (by decide)
          refine m_sld C hX hbl hbA ⟨by omega, by omega⟩ dL_law_564 ?_
          refine m_eqs (w := x499) (by rw [ex499, show x516.toInt.toNat = x497.toInt.toNat by omega]) ?_
          refine m_aload_n C dL_law_565 rfl rfl ?_
          refine m_iload_n C dL_law_566 rfl rfl ?_
          refine m_iconst (v := 2) C dL_law_567 (by decide) ?_
          refine m_iadd C dL_law_568 ?_
          refine m_topi (fun x518 ex518 => ?_)
          have tx518 : x518.toInt = y3.toInt + 2 := by rw [ex518, ti_addv b8 kc_2 (by decide), kt_2]
          have b519 : IV x518 2 3068 := by rw [ex518]; exact iv_add b8 kc_2 (by decide)
          refine m_sld C hX hbl hbA ⟨by omega, by omega⟩ dL_law_569 ?_
          refine m_eqs (w := x502) (by rw [ex502, show x518.toInt.toNat = x500.toInt.toNat by omega]) ?_
          refine m_callV (n := 2) (ci := 11) (st := []) C (c_X12_person l G τ503 (x499) (x502) i504 ) (by decide) (by decide) rfl rfl rfl q5_115 q5_112 q5_113 q5_114 q1_7 (by decide +kernel) rfl (by decide) ⟨by show (250 + 8 * y3.toInt.toNat) + 0 ≤ 600000; omega, by show (5300 + 24 * y3.toInt.toNat) + 0 ≤ 7302250; omega⟩ rfl (Nat.le_of_ble_eq_true rfl) dL_law_570 ?_
          rintro _ τ520 ⟨x523, rfl, i521, f522, b524⟩
          have r527 : Rel τ520 := r511.call f522 (by decide) (by decide)
          have r528 : RT τ520 := r512.call f522 (by decide) (by decide)
          have r529 : CA τ520 S I := r513.fr f522 (by decide) (by decide)
          have r530 : MA τ520 S I := r510.fr i504 f522 (by decide) (by decide)
          have r531 : RI τ520 := r514.call f522 (by decide) (by decide)
          have r532 : ST τ520 := r515.call f522 (by decide) (by decide)
          show MW p l e _ s m _ below meth c _ 4 G (250 + 8 * y3.toInt.toNat) (5300 + 24 * y3.toInt.toNat) 573 [some (.ref b), some (.ref (G.1 0 0)), some (.ref (G.1 22 0)), some (.int y3)] [.int x523] τ520
          refine m_pop C dL_law_573 rfl ?_
          refine m_goto (tgt := 1028) C dL_law_574 (by decide) ?_
          obtain ⟨x533, ex533⟩ : ∃ y : Int32, y = y3 + 6 := ⟨_, rfl⟩
          have tx533 : x533.toInt = y3.toInt + 6 := by rw [ex533, ti_addv b8 kc_6 (by decide), kt_6]
          have b534 : IV x533 6 3072 := by rw [ex533]; exact iv_add b8 kc_6 (by decide)
          refine m_iinc (v := x533) (L1 := [some (.ref b), some (.ref (G.1 0 0)), some (.ref (G.1 22 0)), some (.int x533)]) C dL_law_1028 rfl (by rw [ex533]; rfl) (by decide) rfl rfl ?_
          refine m_goto (tgt := 18) C dL_law_1031 (by decide) ?_
          refine m_widen (c2 := 250 + 8 * x533.toInt.toNat) (s2 := 5300 + 24 * x533.toInt.toNat) (by omega) (by omega) ?_
          exact ih18 τ520 x533 S I i521 r527 r528 r529 r530 r531 r532 (iv_wk b534 (by decide)) (by have q := hm18; omega)
        by_cases s535 : x11.toInt = 13
        · refine m_tableIn (tgt := 577) (off := 544) C dL_law_33 (by omega) (by omega) (by rw [s535]; rfl) (by decide) ?_
          have b536 : IV x11 13 13 := ⟨by omega, by omega⟩
          refine m_aload_n C dL_law_577 rfl rfl ?_
          refine m_aload_n C dL_law_578 rfl rfl ?_
          refine m_iload_n C dL_law_579 rfl rfl ?_
          refine m_iconst (v := 1) C dL_law_580 (by decide) ?_
          refine m_iadd C dL_law_581 ?_
          refine m_topi (fun x537 ex537 => ?_)
          have tx537 : x537.toInt = y3.toInt + 1 := by rw [ex537, ti_addv b8 kc_1 (by decide), kt_1]
          have b538 : IV x537 1 3067 := by rw [ex537]; exact iv_add b8 kc_1 (by decide)
          refine m_sld C hX hbl hbA ⟨by omega, by omega⟩ dL_law_582 ?_
          refine m_topi (fun x539 ex539 => ?_)
          refine m_callV (n := 1) (ci := 10) (st := []) C (c_X11_lean l G τ (x539) iτ ) (by decide) (by decide) rfl rfl rfl q3_120 q3_117 q3_118 q3_119 q1_1 (by decide +kernel) rfl (by decide) ⟨by show (250 + 8 * y3.toInt.toNat) + 0 ≤ 600000; omega, by show (5300 + 24 * y3.toInt.toNat) + 0 ≤ 7302250; omega⟩ rfl (Nat.le_of_ble_eq_true rfl) dL_law_583 ?_
          rintro _ τ540 ⟨x543, rfl, i541, f542, b544⟩
          have r547 : MA τ540 S I := mτ.fr iτ f542 (by decide) (by decide)
          have r548 : Rel τ540 := rτ.call f542 (by decide) (by decide)
          have r549 : RT τ540 := tτ.call f542 (by decide) (by decide)
          have r550 : CA τ540 S I := cτ.fr f542 (by decide) (by decide)
          have r551 : RI τ540 := jτ.call f542 (by decide) (by decide)
          have r552 : ST τ540 := oτ.call f542 (by decide) (by decide)
          show MW p l e _ s m _ below meth c _ 4 G (250 + 8 * y3.toInt.toNat) (5300 + 24 * y3.toInt.toNat) 586 [some (.ref b), some (.ref (G.1 0 0)), some (.ref (G.1 22 0)), some (.int y3)] [.int x543] τ540
          refine m_pop C dL_law_586 rfl ?_
          refine m_aload_n C dL_law_587 rfl rfl ?_
          refine m_aload_n C dL_law_588 rfl rfl ?_
          refine m_iload_n C dL_law_589 rfl rfl ?_
          refine m_iconst (v := 1) C dL_law_590 (by decide) ?_
          refine m_iadd C dL_law_591 ?_
          refine m_topi (fun x553 ex553 => ?_)
          have tx553 : x553.toInt = y3.toInt + 1 := by rw [ex553, ti_addv b8 kc_1 (by decide), kt_1]
          have b554 : IV x553 1 3067 := by rw [ex553]; exact iv_add b8 kc_1 (by decide)
          refine m_sld C hX hbl hbA ⟨by omega, by omega⟩ dL_law_592 ?_
          refine m_eqs (w := x539) (by rw [ex539, show x553.toInt.toNat = x537.toInt.toNat by omega]) ?_
          refine m_callV (n := 1) (ci := 11) (st := []) C (c_X12_lean l G τ540 (x539) i541 ) (by decide) (by decide) rfl rfl rfl q5_120 q5_117 q5_118 q5_119 q1_7 (by decide +kernel) rfl (by decide) ⟨by show (250 + 8 * y3.toInt.toNat) + 0 ≤ 600000; omega, by show (5300 + 24 * y3.toInt.toNat) + 0 ≤ 7302250; omega⟩ rfl (Nat.le_of_ble_eq_true rfl) dL_law_593 ?_
          rintro _ τ555 ⟨x558, rfl, i556, f557, b559⟩
          have r562 : Rel τ555 := r548.call f557 (by decide) (by decide)
          have r563 : RT τ555 := r549.call f557 (by decide) (by decide)
          have r564 : CA τ555 S I := r550.fr f557 (by decide) (by decide)
          have r565 : MA τ555 S I := r547.fr i541 f557 (by decide) (by decide)
          have r566 : RI τ555 := r551.call f557 (by decide) (by decide)
          have r567 : ST τ555 := r552.call f557 (by decide) (by decide)
          show MW p l e _ s m _ below meth c _ 4 G (250 + 8 * y3.toInt.toNat) (5300 + 24 * y3.toInt.toNat) 596 [some (.ref b), some (.ref (G.1 0 0)), some (.ref (G.1 22 0)), some (.int y3)] [.int x558] τ555
          refine m_pop C dL_law_596 rfl ?_
          refine m_goto (tgt := 1028) C dL_law_597 (by decide) ?_
          obtain ⟨x568, ex568⟩ : ∃ y : Int32, y = y3 + 6 := ⟨_, rfl⟩
          have tx568 : x568.toInt = y3.toInt + 6 := by rw [ex568, ti_addv b8 kc_6 (by decide), kt_6]
          have b569 : IV x568 6 3072 := by rw [ex568]; exact iv_add b8 kc_6 (by decide)
          refine m_iinc (v := x568) (L1 := [some (.ref b), some (.ref (G.1 0 0)), some (.ref (G.1 22 0)), some (.int x568)]) C dL_law_1028 rfl (by rw [ex568]; rfl) (by decide) rfl rfl ?_
          refine m_goto (tgt := 18) C dL_law_1031 (by decide) ?_
          refine m_widen (c2 := 250 + 8 * x568.toInt.toNat) (s2 := 5300 + 24 * x568.toInt.toNat) (by omega) (by omega) ?_
          exact ih18 τ555 x568 S I i556 r562 r563 r564 r565 r566 r567 (iv_wk b569 (by decide)) (by have q := hm18; omega)
        by_cases s570 : x11.toInt = 14
        · refine m_tableIn (tgt := 600) (off := 567) C dL_law_33 (by omega) (by omega) (by rw [s570]; rfl) (by decide) ?_
          have b571 : IV x11 14 14 := ⟨by omega, by omega⟩
          refine m_aload_n C dL_law_600 rfl rfl ?_
          refine m_aload_n C dL_law_601 rfl rfl ?_
          refine m_iload_n C dL_law_602 rfl rfl ?_
          refine m_iconst (v := 1) C dL_law_603 (by decide) ?_
          refine m_iadd C dL_law_604 ?_
          refine m_topi (fun x572 ex572 => ?_)
          have tx572 : x572.toInt = y3.toInt + 1 := by rw [ex572, ti_addv b8 kc_1 (by decide), kt_1]
          have b573 : IV x572 1 3067 := by rw [ex572]; exact iv_add b8 kc_1 (by decide)
          refine m_sld C hX hbl hbA ⟨by omega, by omega⟩ dL_law_605 ?_
          refine m_topi (fun x574 ex574 => ?_)
          refine m_callV (n := 1) (ci := 10) (st := []) C (c_X11_worstS l G τ (x574) iτ ) (by decide) (by decide) rfl rfl rfl q3_125 q3_122 q3_123 q3_124 q1_1 (by decide +kernel) rfl (by decide) ⟨by show (250 + 8 * y3.toInt.toNat) + 0 ≤ 600000; omega, by show (5300 + 24 * y3.toInt.toNat) + 0 ≤ 7302250; omega⟩ rfl (Nat.le_of_ble_eq_true rfl) dL_law_606 ?_
          rintro _ τ575 ⟨x578, rfl, i576, f577, b579, h581⟩
          have r582 : MA τ575 S I := mτ.fr iτ f577 (by decide) (by decide)
          have r583 : Rel τ575 := rτ.call f577 (by decide) (by decide)
          have r584 : RT τ575 := tτ.call f577 (by decide) (by decide)
          have r585 : CA τ575 S I := cτ.sf f577 h581 (by decide) (by decide)
          have r586 : RI τ575 := jτ.call f577 (by decide) (by decide)
          have r587 : ST τ575 := oτ.call f577 (by decide) (by decide)
          show MW p l e _ s m _ below meth c _ 4 G (250 + 8 * y3.toInt.toNat) (5300 + 24 * y3.toInt.toNat) 609 [some (.ref b), some (.ref (G.1 0 0)), some (.ref (G.1 22 0)), some (.int y3)] [.int x578] τ575
          refine m_pop C dL_law_609 rfl ?_
          refine m_aload_n C dL_law_610 rfl rfl ?_
          refine m_aload_n C dL_law_611 rfl rfl ?_
          refine m_iload_n C dL_law_612 rfl rfl ?_
          refine m_iconst (v := 1) C dL_law_613 (by decide) ?_
          refine m_iadd C dL_law_614 ?_
          refine m_topi (fun x588 ex588 => ?_)
          have tx588 : x588.toInt = y3.toInt + 1 := by rw [ex588, ti_addv b8 kc_1 (by decide), kt_1]
          have b589 : IV x588 1 3067 := by rw [ex588]; exact iv_add b8 kc_1 (by decide)
          refine m_sld C hX hbl hbA ⟨by omega, by omega⟩ dL_law_615 ?_
          refine m_eqs (w := x574) (by rw [ex574, show x588.toInt.toNat = x572.toInt.toNat by omega]) ?_
          refine m_callV (n := 1) (ci := 11) (st := []) C (c_X12_worstS l G τ575 (x574) i576 ) (by decide) (by decide) rfl rfl rfl q5_124 q5_121 q5_122 q5_123 q1_7 (by decide +kernel) rfl (by decide) ⟨by show (250 + 8 * y3.toInt.toNat) + 0 ≤ 600000; omega, by show (5300 + 24 * y3.toInt.toNat) + 0 ≤ 7302250; omega⟩ rfl (Nat.le_of_ble_eq_true rfl) dL_law_616 ?_
          rintro _ τ590 ⟨x593, rfl, i591, f592, b594, h596⟩
          have r597 : Rel τ590 := r583.call f592 (by decide) (by decide)
          have r598 : RT τ590 := r584.call f592 (by decide) (by decide)
          have r599 : CA τ590 S I := r585.fr f592 (by decide) (by decide)
          have r600 : MA τ590 S I := r582.sf i576 f592 h596 (by decide) (by decide)
          have r601 : RI τ590 := r586.call f592 (by decide) (by decide)
          have r602 : ST τ590 := r587.call f592 (by decide) (by decide)
          show MW p l e _ s m _ below meth c _ 4 G (250 + 8 * y3.toInt.toNat) (5300 + 24 * y3.toInt.toNat) 619 [some (.ref b), some (.ref (G.1 0 0)), some (.ref (G.1 22 0)), some (.int y3)] [.int x593] τ590
          refine m_pop C dL_law_619 rfl ?_
          refine m_goto (tgt := 1028) C dL_law_620 (by decide) ?_
          obtain ⟨x603, ex603⟩ : ∃ y : Int32, y = y3 + 6 := ⟨_, rfl⟩
          have tx603 : x603.toInt = y3.toInt + 6 := by rw [ex603, ti_addv b8 kc_6 (by decide), kt_6]
          have b604 : IV x603 6 3072 := by rw [ex603]; exact iv_add b8 kc_6 (by decide)
          refine m_iinc (v := x603) (L1 := [some (.ref b), some (.ref (G.1 0 0)), some (.ref (G.1 22 0)), some (.int x603)]) C dL_law_1028 rfl (by rw [ex603]; rfl) (by decide) rfl rfl ?_
          refine m_goto (tgt := 18) C dL_law_1031 (by decide) ?_
          refine m_widen (c2 := 250 + 8 * x603.toInt.toNat) (s2 := 5300 + 24 * x603.toInt.toNat) (by omega) (by omega) ?_
          exact ih18 τ590 x603 S I i591 r597 r598 r599 r600 r601 r602 (iv_wk b604 (by decide)) (by have q := hm18; omega)
        by_cases s605 : x11.toInt = 15
        · refine m_tableIn (tgt := 623) (off := 590) C dL_law_33 (by omega) (by omega) (by rw [s605]; rfl) (by decide) ?_
          have b606 : IV x11 15 15 := ⟨by omega, by omega⟩
          refine m_aload_n C dL_law_623 rfl rfl ?_
          refine m_callV (n := 0) (ci := 10) (st := []) C (c_X11_mostS l G τ  iτ ) (by decide) (by decide) rfl rfl rfl q3_139 q3_136 q3_137 q3_138 q1_1 (by decide +kernel) rfl (by decide) ⟨by show (250 + 8 * y3.toInt.toNat) + 0 ≤ 600000; omega, by show (5300 + 24 * y3.toInt.toNat) + 0 ≤ 7302250; omega⟩ rfl (Nat.le_of_ble_eq_true rfl) dL_law_624 ?_
          rintro _ τ607 ⟨x610, rfl, i608, f609, b611, h613⟩
          have r614 : MA τ607 S I := mτ.fr iτ f609 (by decide) (by decide)
          have r615 : Rel τ607 := rτ.call f609 (by decide) (by decide)
          have r616 : RT τ607 := tτ.call f609 (by decide) (by decide)
          have r617 : CA τ607 S I := cτ.sf f609 h613 (by decide) (by decide)
          have r618 : RI τ607 := jτ.call f609 (by decide) (by decide)
          have r619 : ST τ607 := oτ.call f609 (by decide) (by decide)
          show MW p l e _ s m _ below meth c _ 4 G (250 + 8 * y3.toInt.toNat) (5300 + 24 * y3.toInt.toNat) 627 [some (.ref b), some (.ref (G.1 0 0)), some (.ref (G.1 22 0)), some (.int y3)] [.int x610] τ607
          refine m_pop C dL_law_627 rfl ?_
          refine m_aload_n C dL_law_628 rfl rfl ?_
          refine m_callV (n := 0) (ci := 11) (st := []) C (c_X12_mostS l G τ607  i608 ) (by decide) (by decide) rfl rfl rfl q5_136 q5_133 q5_134 q5_135 q1_7 (by decide +kernel) rfl (by decide) ⟨by show (250 + 8 * y3.toInt.toNat) + 0 ≤ 600000; omega, by show (5300 + 24 * y3.toInt.toNat) + 0 ≤ 7302250; omega⟩ rfl (Nat.le_of_ble_eq_true rfl) dL_law_629 ?_
          rintro _ τ620 ⟨x623, rfl, i621, f622, b624, h626⟩
          have r627 : Rel τ620 := r615.call f622 (by decide) (by decide)
          have r628 : RT τ620 := r616.call f622 (by decide) (by decide)
          have r629 : CA τ620 S I := r617.fr f622 (by decide) (by decide)
          have r630 : MA τ620 S I := r614.sf i608 f622 h626 (by decide) (by decide)
          have r631 : RI τ620 := r618.call f622 (by decide) (by decide)
          have r632 : ST τ620 := r619.call f622 (by decide) (by decide)
          show MW p l e _ s m _ below meth c _ 4 G (250 + 8 * y3.toInt.toNat) (5300 + 24 * y3.toInt.toNat) 632 [some (.ref b), some (.ref (G.1 0 0)), some (.ref (G.1 22 0)), some (.int y3)] [.int x623] τ620
          refine m_pop C dL_law_632 rfl ?_
          refine m_goto (tgt := 1028) C dL_law_633 (by decide) ?_
          obtain ⟨x633, ex633⟩ : ∃ y : Int32, y = y3 + 6 := ⟨_, rfl⟩
          have tx633 : x633.toInt = y3.toInt + 6 := by rw [ex633, ti_addv b8 kc_6 (by decide), kt_6]
          have b634 : IV x633 6 3072 := by rw [ex633]; exact iv_add b8 kc_6 (by decide)
          refine m_iinc (v := x633) (L1 := [some (.ref b), some (.ref (G.1 0 0)), some (.ref (G.1 22 0)), some (.int x633)]) C dL_law_1028 rfl (by rw [ex633]; rfl) (by decide) rfl rfl ?_
          refine m_goto (tgt := 18) C dL_law_1031 (by decide) ?_
          refine m_widen (c2 := 250 + 8 * x633.toInt.toNat) (s2 := 5300 + 24 * x633.toInt.toNat) (by omega) (by omega) ?_
          exact ih18 τ620 x633 S I i621 r627 r628 r629 r630 r631 r632 (iv_wk b634 (by decide)) (by have q := hm18; omega)
        by_cases s635 : x11.toInt = 16
        · refine m_tableIn (tgt := 636) (off := 603) C dL_law_33 (by omega) (by omega) (by rw [s635]; rfl) (by decide) ?_
          have b636 : IV x11 16 16 := ⟨by omega, by omega⟩
          refine m_aload_n C dL_law_636 rfl rfl ?_
          refine m_aload_n C dL_law_637 rfl rfl ?_
          refine m_iload_n C dL_law_638 rfl rfl ?_
          refine m_iconst (v := 1) C dL_law_639 (by decide) ?_
          refine m_iadd C dL_law_640 ?_
          refine m_topi (fun x637 ex637 => ?_)
          have tx637 : x637.toInt = y3.toInt + 1 := by rw [ex637, ti_addv b8 kc_1 (by decide), kt_1]
          have b638 : IV x637 1 3067 := by rw [ex637]; exact iv_add b8 kc_1 (by decide)
          refine m_sld C hX hbl hbA ⟨by omega, by omega⟩ dL_law_641 ?_
          refine m_topi (fun x639 ex639 => ?_)
          refine m_aload_n C dL_law_642 rfl rfl ?_
          refine m_iload_n C dL_law_643 rfl rfl ?_
          refine m_iconst (v := 2) C dL_law_644 (by decide) ?_
          refine m_iadd C dL_law_645 ?_
          refine m_topi (fun x640 ex640 => ?_)
          have tx640 : x640.toInt = y3.toInt + 2 := by rw [ex640, ti_addv b8 kc_2 (by decide), kt_2]
          have b641 : IV x640 2 3068 := by rw [ex640]; exact iv_add b8 kc_2 (by decide)
          refine m_sld C hX hbl hbA ⟨by omega, by omega⟩ dL_law_646 ?_
          refine m_topi (fun x642 ex642 => ?_)
          refine m_aload_n C dL_law_647 rfl rfl ?_
          refine m_iload_n C dL_law_648 rfl rfl ?_
          refine m_iconst (v := 3) C dL_law_649 (by decide) ?_
          refine m_iadd C dL_law_650 ?_
          refine m_topi (fun x643 ex643 => ?_)
          have tx643 : x643.toInt = y3.toInt + 3 := by rw [ex643, ti_addv b8 kc_3 (by decide), kt_3]
          have b644 : IV x643 3 3069 := by rw [ex643]; exact iv_add b8 kc_3 (by decide)
          refine m_sld C hX hbl hbA ⟨by omega, by omega⟩ dL_law_651 ?_
          refine m_topi (fun x645 ex645 => ?_)
          refine m_callV (n := 3) (ci := 10) (st := []) C (c_X11_twoS l G τ (x639) (x642) (x645) iτ ) (by decide) (by decide) rfl rfl rfl q3_157 q3_154 q3_155 q3_156 q1_1 (by decide +kernel) rfl (by decide) ⟨by show (250 + 8 * y3.toInt.toNat) + 0 ≤ 600000; omega, by show (5300 + 24 * y3.toInt.toNat) + 0 ≤ 7302250; omega⟩ rfl (Nat.le_of_ble_eq_true rfl) dL_law_652 ?_
          rintro _ τ646 ⟨x649, rfl, i647, f648, b650, h652⟩
          have r653 : MA τ646 S I := mτ.fr iτ f648 (by decide) (by decide)
          have r654 : Rel τ646 := rτ.call f648 (by decide) (by decide)
          have r655 : RT τ646 := tτ.call f648 (by decide) (by decide)
          have r656 : CA τ646 S I := cτ.sf f648 h652 (by decide) (by decide)
          have r657 : RI τ646 := jτ.call f648 (by decide) (by decide)
          have r658 : ST τ646 := oτ.call f648 (by decide) (by decide)
          show MW p l e _ s m _ below meth c _ 4 G (250 + 8 * y3.toInt.toNat) (5300 + 24 * y3.toInt.toNat) 655 [some (.ref b), some (.ref (G.1 0 0)), some (.ref (G.1 22 0)), some (.int y3)] [.int x649] τ646
          refine m_pop C dL_law_655 rfl ?_
          refine m_aload_n C dL_law_656 rfl rfl ?_
          refine m_aload_n C dL_law_657 rfl rfl ?_
          refine m_iload_n C dL_law_658 rfl rfl ?_
          refine m_iconst (v := 1) C dL_law_659 (by decide) ?_
          refine m_iadd C dL_law_660 ?_
          refine m_topi (fun x659 ex659 => ?_)
          have tx659 : x659.toInt = y3.toInt + 1 := by rw [ex659, ti_addv b8 kc_1 (by decide), kt_1]
          have b660 : IV x659 1 3067 := by rw [ex659]; exact iv_add b8 kc_1 (by decide)
          refine m_sld C hX hbl hbA ⟨by omega, by omega⟩ dL_law_661 ?_
          refine m_eqs (w := x639) (by rw [ex639, show x659.toInt.toNat = x637.toInt.toNat by omega]) ?_
          refine m_aload_n C dL_law_662 rfl rfl ?_
          refine m_iload_n C dL_law_663 rfl rfl ?_
          refine m_iconst (v := 2) C dL_law_664 (by decide) ?_
          refine m_iadd C dL_law_665 ?_
          refine m_topi (fun x661 ex661 => ?_)
          have tx661 : x661.toInt = y3.toInt + 2 := by rw [ex661, ti_addv b8 kc_2 (by decide), kt_2]
          have b662 : IV x661 2 3068 := by rw [ex661]; exact iv_add b8 kc_2 (by decide)
          refine m_sld C hX hbl hbA ⟨by omega, by omega⟩ dL_law_666 ?_
          refine m_eqs (w := x642) (by rw [ex642, show x661.toInt.toNat = x640.toInt.toNat by omega]) ?_
          refine m_aload_n C dL_law_667 rfl rfl ?_
          refine m_iload_n C dL_law_668 rfl rfl ?_
          refine m_iconst (v := 3) C dL_law_669 (by decide) ?_
          refine m_iadd C dL_law_670 ?_
          refine m_topi (fun x663 ex663 => ?_)
          have tx663 : x663.toInt = y3.toInt + 3 := by rw [ex663, ti_addv b8 kc_3 (by decide), kt_3]
          have b664 : IV x663 3 3069 := by rw [ex663]; exact iv_add b8 kc_3 (by decide)
          refine m_sld C hX hbl hbA ⟨by omega, by omega⟩ dL_law_671 ?_
          refine m_eqs (w := x645) (by rw [ex645, show x663.toInt.toNat = x643.toInt.toNat by omega]) ?_
          refine m_callV (n := 3) (ci := 11) (st := []) C (c_X12_twoS l G τ646 (x639) (x642) (x645) i647 ) (by decide) (by decide) rfl rfl rfl q5_146 q5_143 q5_144 q5_145 q1_7 (by decide +kernel) rfl (by decide) ⟨by show (250 + 8 * y3.toInt.toNat) + 0 ≤ 600000; omega, by show (5300 + 24 * y3.toInt.toNat) + 0 ≤ 7302250; omega⟩ rfl (Nat.le_of_ble_eq_true rfl) dL_law_672 ?_
          rintro _ τ665 ⟨x668, rfl, i666, f667, b669, h671⟩
          have r672 : Rel τ665 := r654.call f667 (by decide) (by decide)
          have r673 : RT τ665 := r655.call f667 (by decide) (by decide)
          have r674 : CA τ665 S I := r656.fr f667 (by decide) (by decide)
          have r675 : MA τ665 S I := r653.sf i647 f667 h671 (by decide) (by decide)
          have r676 : RI τ665 := r657.call f667 (by decide) (by decide)
          have r677 : ST τ665 := r658.call f667 (by decide) (by decide)
          show MW p l e _ s m _ below meth c _ 4 G (250 + 8 * y3.toInt.toNat) (5300 + 24 * y3.toInt.toNat) 675 [some (.ref b), some (.ref (G.1 0 0)), some (.ref (G.1 22 0)), some (.int y3)] [.int x668] τ665
          refine m_pop C dL_law_675 rfl ?_
          refine m_goto (tgt := 1028) C dL_law_676 (by decide) ?_
          obtain ⟨x678, ex678⟩ : ∃ y : Int32, y = y3 + 6 := ⟨_, rfl⟩
          have tx678 : x678.toInt = y3.toInt + 6 := by rw [ex678, ti_addv b8 kc_6 (by decide), kt_6]
          have b679 : IV x678 6 3072 := by rw [ex678]; exact iv_add b8 kc_6 (by decide)
          refine m_iinc (v := x678) (L1 := [some (.ref b), some (.ref (G.1 0 0)), some (.ref (G.1 22 0)), some (.int x678)]) C dL_law_1028 rfl (by rw [ex678]; rfl) (by decide) rfl rfl ?_
          refine m_goto (tgt := 18) C dL_law_1031 (by decide) ?_
          refine m_widen (c2 := 250 + 8 * x678.toInt.toNat) (s2 := 5300 + 24 * x678.toInt.toNat) (by omega) (by omega) ?_
          exact ih18 τ665 x678 S I i666 r672 r673 r674 r675 r676 r677 (iv_wk b679 (by decide)) (by have q := hm18; omega)
        by_cases s680 : x11.toInt = 17
        · refine m_tableIn (tgt := 679) (off := 646) C dL_law_33 (by omega) (by omega) (by rw [s680]; rfl) (by decide) ?_
          have b681 : IV x11 17 17 := ⟨by omega, by omega⟩
          refine m_aload_n C dL_law_679 rfl rfl ?_
          refine m_aload_n C dL_law_680 rfl rfl ?_
          refine m_iload_n C dL_law_681 rfl rfl ?_
          refine m_iconst (v := 1) C dL_law_682 (by decide) ?_
          refine m_iadd C dL_law_683 ?_
          refine m_topi (fun x682 ex682 => ?_)
          have tx682 : x682.toInt = y3.toInt + 1 := by rw [ex682, ti_addv b8 kc_1 (by decide), kt_1]
          have b683 : IV x682 1 3067 := by rw [ex682]; exact iv_add b8 kc_1 (by decide)
          refine m_sld C hX hbl hbA ⟨by omega, by omega⟩ dL_law_684 ?_
          refine m_topi (fun x684 ex684 => ?_)
          refine m_callV (n := 1) (ci := 10) (st := []) C (c_X11_stonesS l G τ (x684) iτ ) (by decide) (by decide) rfl rfl rfl q3_170 q3_167 q3_168 q3_169 q1_1 (by decide +kernel) rfl (by decide) ⟨by show (250 + 8 * y3.toInt.toNat) + 0 ≤ 600000; omega, by show (5300 + 24 * y3.toInt.toNat) + 0 ≤ 7302250; omega⟩ rfl (Nat.le_of_ble_eq_true rfl) dL_law_685 ?_
          rintro _ τ685 ⟨x688, rfl, i686, f687, b689, h691⟩
          have r692 : MA τ685 S I := mτ.fr iτ f687 (by decide) (by decide)
          have r693 : Rel τ685 := rτ.call f687 (by decide) (by decide)
          have r694 : RT τ685 := tτ.call f687 (by decide) (by decide)
          have r695 : CA τ685 S I := cτ.sf f687 h691 (by decide) (by decide)
          have r696 : RI τ685 := jτ.call f687 (by decide) (by decide)
          have r697 : ST τ685 := oτ.call f687 (by decide) (by decide)
          show MW p l e _ s m _ below meth c _ 4 G (250 + 8 * y3.toInt.toNat) (5300 + 24 * y3.toInt.toNat) 688 [some (.ref b), some (.ref (G.1 0 0)), some (.ref (G.1 22 0)), some (.int y3)] [.int x688] τ685
          refine m_pop C dL_law_688 rfl ?_
          refine m_aload_n C dL_law_689 rfl rfl ?_
          refine m_aload_n C dL_law_690 rfl rfl ?_
          refine m_iload_n C dL_law_691 rfl rfl ?_
          refine m_iconst (v := 1) C dL_law_692 (by decide) ?_
          refine m_iadd C dL_law_693 ?_
          refine m_topi (fun x698 ex698 => ?_)
          have tx698 : x698.toInt = y3.toInt + 1 := by rw [ex698, ti_addv b8 kc_1 (by decide), kt_1]
          have b699 : IV x698 1 3067 := by rw [ex698]; exact iv_add b8 kc_1 (by decide)
          refine m_sld C hX hbl hbA ⟨by omega, by omega⟩ dL_law_694 ?_
          refine m_eqs (w := x684) (by rw [ex684, show x698.toInt.toNat = x682.toInt.toNat by omega]) ?_
          refine m_callV (n := 1) (ci := 11) (st := []) C (c_X12_stonesS l G τ685 (x684) i686 ) (by decide) (by decide) rfl rfl rfl q5_150 q5_147 q5_148 q5_149 q1_7 (by decide +kernel) rfl (by decide) ⟨by show (250 + 8 * y3.toInt.toNat) + 0 ≤ 600000; omega, by show (5300 + 24 * y3.toInt.toNat) + 0 ≤ 7302250; omega⟩ rfl (Nat.le_of_ble_eq_true rfl) dL_law_695 ?_
          rintro _ τ700 ⟨x703, rfl, i701, f702, b704, h706⟩
          have r707 : Rel τ700 := r693.call f702 (by decide) (by decide)
          have r708 : RT τ700 := r694.call f702 (by decide) (by decide)
          have r709 : CA τ700 S I := r695.fr f702 (by decide) (by decide)
          have r710 : MA τ700 S I := r692.sf i686 f702 h706 (by decide) (by decide)
          have r711 : RI τ700 := r696.call f702 (by decide) (by decide)
          have r712 : ST τ700 := r697.call f702 (by decide) (by decide)
          show MW p l e _ s m _ below meth c _ 4 G (250 + 8 * y3.toInt.toNat) (5300 + 24 * y3.toInt.toNat) 698 [some (.ref b), some (.ref (G.1 0 0)), some (.ref (G.1 22 0)), some (.int y3)] [.int x703] τ700
          refine m_pop C dL_law_698 rfl ?_
          refine m_goto (tgt := 1028) C dL_law_699 (by decide) ?_
          obtain ⟨x713, ex713⟩ : ∃ y : Int32, y = y3 + 6 := ⟨_, rfl⟩
          have tx713 : x713.toInt = y3.toInt + 6 := by rw [ex713, ti_addv b8 kc_6 (by decide), kt_6]
          have b714 : IV x713 6 3072 := by rw [ex713]; exact iv_add b8 kc_6 (by decide)
          refine m_iinc (v := x713) (L1 := [some (.ref b), some (.ref (G.1 0 0)), some (.ref (G.1 22 0)), some (.int x713)]) C dL_law_1028 rfl (by rw [ex713]; rfl) (by decide) rfl rfl ?_
          refine m_goto (tgt := 18) C dL_law_1031 (by decide) ?_
          refine m_widen (c2 := 250 + 8 * x713.toInt.toNat) (s2 := 5300 + 24 * x713.toInt.toNat) (by omega) (by omega) ?_
          exact ih18 τ700 x713 S I i701 r707 r708 r709 r710 r711 r712 (iv_wk b714 (by decide)) (by have q := hm18; omega)
        by_cases s715 : x11.toInt = 18
        · refine m_tableIn (tgt := 702) (off := 669) C dL_law_33 (by omega) (by omega) (by rw [s715]; rfl) (by decide) ?_
          have b716 : IV x11 18 18 := ⟨by omega, by omega⟩
          refine m_aload_n C dL_law_702 rfl rfl ?_
          refine m_aload_n C dL_law_703 rfl rfl ?_
          refine m_iload_n C dL_law_704 rfl rfl ?_
          refine m_iconst (v := 1) C dL_law_705 (by decide) ?_
          refine m_iadd C dL_law_706 ?_
          refine m_topi (fun x717 ex717 => ?_)
          have tx717 : x717.toInt = y3.toInt + 1 := by rw [ex717, ti_addv b8 kc_1 (by decide), kt_1]
          have b718 : IV x717 1 3067 := by rw [ex717]; exact iv_add b8 kc_1 (by decide)
          refine m_sld C hX hbl hbA ⟨by omega, by omega⟩ dL_law_707 ?_
          refine m_topi (fun x719 ex719 => ?_)
          refine m_aload_n C dL_law_708 rfl rfl ?_
          refine m_iload_n C dL_law_709 rfl rfl ?_
          refine m_iconst (v := 2) C dL_law_710 (by decide) ?_
          refine m_iadd C dL_law_711 ?_
          refine m_topi (fun x720 ex720 => ?_)
          have tx720 : x720.toInt = y3.toInt + 2 := by rw [ex720, ti_addv b8 kc_2 (by decide), kt_2]
          have b721 : IV x720 2 3068 := by rw [ex720]; exact iv_add b8 kc_2 (by decide)
          refine m_sld C hX hbl hbA ⟨by omega, by omega⟩ dL_law_712 ?_
          refine m_topi (fun x722 ex722 => ?_)
          refine m_aload_n C dL_law_713 rfl rfl ?_
          refine m_iload_n C dL_law_714 rfl rfl ?_
          refine m_iconst (v := 3) C dL_law_715 (by decide) ?_
          refine m_iadd C dL_law_716 ?_
          refine m_topi (fun x723 ex723 => ?_)
          have tx723 : x723.toInt = y3.toInt + 3 := by rw [ex723, ti_addv b8 kc_3 (by decide), kt_3]
          have b724 : IV x723 3 3069 := by rw [ex723]; exact iv_add b8 kc_3 (by decide)
          refine m_sld C hX hbl hbA ⟨by omega, by omega⟩ dL_law_717 ?_
          refine m_topi (fun x725 ex725 => ?_)
          refine m_aload_n C dL_law_718 rfl rfl ?_
          refine m_iload_n C dL_law_719 rfl rfl ?_
          refine m_iconst (v := 4) C dL_law_720 (by decide) ?_
          refine m_iadd C dL_law_721 ?_
          refine m_topi (fun x726 ex726 => ?_)
          have tx726 : x726.toInt = y3.toInt + 4 := by rw [ex726, ti_addv b8 kc_4 (by decide), kt_4]
          have b727 : IV x726 4 3070 := by rw [ex726]; exact iv_add b8 kc_4 (by decide)
          refine m_sld C hX hbl hbA ⟨by omega, by omega⟩ dL_law_722 ?_
          refine m_topi (fun x728 ex728 => ?_)
          refine m_callV (n := 4) (ci := 10) (st := []) C (c_X11_marksQ l G τ S I (x719) (x722) (x725) (x728) iτ cτ (mτ.1.1.2)) (by decide) (by decide) rfl rfl rfl q3_187 q3_184 q3_185 q3_186 q1_1 (by decide +kernel) rfl (by decide) ⟨by show (250 + 8 * y3.toInt.toNat) + 0 ≤ 600000; omega, by show (5300 + 24 * y3.toInt.toNat) + 0 ≤ 7302250; omega⟩ rfl (Nat.le_of_ble_eq_true rfl) dL_law_723 ?_
          rintro _ τ729 ⟨x732, rfl, i730, f731, b733, h735⟩
          have r736 : MA τ729 S I := mτ.fr iτ f731 (by decide) (by decide)
          have r737 : RT τ729 := tτ.call f731 (by decide) (by decide)
          have r738 : CA τ729 S I := cτ.sf f731 h735.1 (by decide) (by decide)
          have z739 := Hid.mk h735.2
          clear h735
          have r740 : Rel τ729 := rτ.call f731 (by decide) (by decide)
          have r741 : RI τ729 := jτ.call f731 (by decide) (by decide)
          show MW p l e _ s m _ below meth c _ 4 G (250 + 8 * y3.toInt.toNat) (5300 + 24 * y3.toInt.toNat) 726 [some (.ref b), some (.ref (G.1 0 0)), some (.ref (G.1 22 0)), some (.int y3)] [.int x732] τ729
          refine m_pop C dL_law_726 rfl ?_
          refine m_aload_n C dL_law_727 rfl rfl ?_
          refine m_aload_n C dL_law_728 rfl rfl ?_
          refine m_iload_n C dL_law_729 rfl rfl ?_
          refine m_iconst (v := 1) C dL_law_730 (by decide) ?_
          refine m_iadd C dL_law_731 ?_
          refine m_topi (fun x742 ex742 => ?_)
          have tx742 : x742.toInt = y3.toInt + 1 := by rw [ex742, ti_addv b8 kc_1 (by decide), kt_1]
          have b743 : IV x742 1 3067 := by rw [ex742]; exact iv_add b8 kc_1 (by decide)
          refine m_sld C hX hbl hbA ⟨by omega, by omega⟩ dL_law_732 ?_
          refine m_eqs (w := x719) (by rw [ex719, show x742.toInt.toNat = x717.toInt.toNat by omega]) ?_
          refine m_aload_n C dL_law_733 rfl rfl ?_
          refine m_iload_n C dL_law_734 rfl rfl ?_
          refine m_iconst (v := 2) C dL_law_735 (by decide) ?_
          refine m_iadd C dL_law_736 ?_
          refine m_topi (fun x744 ex744 => ?_)
          have tx744 : x744.toInt = y3.toInt + 2 := by rw [ex744, ti_addv b8 kc_2 (by decide), kt_2]
          have b745 : IV x744 2 3068 := by rw [ex744]; exact iv_add b8 kc_2 (by decide)
          refine m_sld C hX hbl hbA ⟨by omega, by omega⟩ dL_law_737 ?_
          refine m_eqs (w := x722) (by rw [ex722, show x744.toInt.toNat = x720.toInt.toNat by omega]) ?_
          refine m_aload_n C dL_law_738 rfl rfl ?_
          refine m_iload_n C dL_law_739 rfl rfl ?_
          refine m_iconst (v := 3) C dL_law_740 (by decide) ?_
          refine m_iadd C dL_law_741 ?_
          refine m_topi (fun x746 ex746 => ?_)
          have tx746 : x746.toInt = y3.toInt + 3 := by rw [ex746, ti_addv b8 kc_3 (by decide), kt_3]
          have b747 : IV x746 3 3069 := by rw [ex746]; exact iv_add b8 kc_3 (by decide)
          refine m_sld C hX hbl hbA ⟨by omega, by omega⟩ dL_law_742 ?_
          refine m_eqs (w := x725) (by rw [ex725, show x746.toInt.toNat = x723.toInt.toNat by omega]) ?_
          refine m_aload_n C dL_law_743 rfl rfl ?_
          refine m_iload_n C dL_law_744 rfl rfl ?_
          refine m_iconst (v := 4) C dL_law_745 (by decide) ?_
          refine m_iadd C dL_law_746 ?_
          refine m_topi (fun x748 ex748 => ?_)
          have tx748 : x748.toInt = y3.toInt + 4 := by rw [ex748, ti_addv b8 kc_4 (by decide), kt_4]
          have b749 : IV x748 4 3070 := by rw [ex748]; exact iv_add b8 kc_4 (by decide)
          refine m_sld C hX hbl hbA ⟨by omega, by omega⟩ dL_law_747 ?_
          refine m_eqs (w := x728) (by rw [ex728, show x748.toInt.toNat = x726.toInt.toNat by omega]) ?_
          refine m_callV (n := 4) (ci := 11) (st := []) C (c_X12_marksQ l G τ729 S I (x719) (x722) (x725) (x728) i730 r736) (by decide) (by decide) rfl rfl rfl q5_154 q5_151 q5_152 q5_153 q1_7 (by decide +kernel) rfl (by decide) ⟨by show (250 + 8 * y3.toInt.toNat) + 0 ≤ 600000; omega, by show (5300 + 24 * y3.toInt.toNat) + 0 ≤ 7302250; omega⟩ rfl (Nat.le_of_ble_eq_true rfl) dL_law_748 ?_
          rintro _ τ750 ⟨x753, rfl, i751, f752, b754, h756⟩
          have r758 : RT τ750 := r737.call f752 (by decide) (by decide)
          have r759 : CA τ750 S I := r738.fr f752 (by decide) (by decide)
          have r760 : MA τ750 S I := r736.sf i730 f752 h756.1 (by decide) (by decide)
          have r761 : Rel τ750 := r740.call f752 (by decide) (by decide)
          have r762 : RI τ750 := r741.call f752 (by decide) (by decide)
          have r763 : ST τ750 := RQ.marksB rτ jτ oτ f731 f752 z739 h756.2
          clear h756 z739
          show MW p l e _ s m _ below meth c _ 4 G (250 + 8 * y3.toInt.toNat) (5300 + 24 * y3.toInt.toNat) 751 [some (.ref b), some (.ref (G.1 0 0)), some (.ref (G.1 22 0)), some (.int y3)] [.int x753] τ750
          refine m_pop C dL_law_751 rfl ?_
          refine m_goto (tgt := 1028) C dL_law_752 (by decide) ?_
          obtain ⟨x764, ex764⟩ : ∃ y : Int32, y = y3 + 6 := ⟨_, rfl⟩
          have tx764 : x764.toInt = y3.toInt + 6 := by rw [ex764, ti_addv b8 kc_6 (by decide), kt_6]
          have b765 : IV x764 6 3072 := by rw [ex764]; exact iv_add b8 kc_6 (by decide)
          refine m_iinc (v := x764) (L1 := [some (.ref b), some (.ref (G.1 0 0)), some (.ref (G.1 22 0)), some (.int x764)]) C dL_law_1028 rfl (by rw [ex764]; rfl) (by decide) rfl rfl ?_
          refine m_goto (tgt := 18) C dL_law_1031 (by decide) ?_
          refine m_widen (c2 := 250 + 8 * x764.toInt.toNat) (s2 := 5300 + 24 * x764.toInt.toNat) (by omega) (by omega) ?_
          exact ih18 τ750 x764 S I i751 r761 r758 r759 r760 r762 r763 (iv_wk b765 (by decide)) (by have q := hm18; omega)
        by_cases s766 : x11.toInt = 19
        · refine m_tableIn (tgt := 755) (off := 722) C dL_law_33 (by omega) (by omega) (by rw [s766]; rfl) (by decide) ?_
          have b767 : IV x11 19 19 := ⟨by omega, by omega⟩
          refine m_aload_n C dL_law_755 rfl rfl ?_
          refine m_aload_n C dL_law_756 rfl rfl ?_
          refine m_iload_n C dL_law_757 rfl rfl ?_
          refine m_iconst (v := 1) C dL_law_758 (by decide) ?_
          refine m_iadd C dL_law_759 ?_
          refine m_topi (fun x768 ex768 => ?_)
          have tx768 : x768.toInt = y3.toInt + 1 := by rw [ex768, ti_addv b8 kc_1 (by decide), kt_1]
          have b769 : IV x768 1 3067 := by rw [ex768]; exact iv_add b8 kc_1 (by decide)
          refine m_sld C hX hbl hbA ⟨by omega, by omega⟩ dL_law_760 ?_
          refine m_topi (fun x770 ex770 => ?_)
          refine m_callV (n := 1) (ci := 10) (st := []) C (c_X11_rescue l G τ (x770) iτ ) (by decide) (by decide) rfl rfl rfl q3_202 q3_199 q3_200 q3_201 q1_1 (by decide +kernel) rfl (by decide) ⟨by show (250 + 8 * y3.toInt.toNat) + 0 ≤ 600000; omega, by show (5300 + 24 * y3.toInt.toNat) + 0 ≤ 7302250; omega⟩ rfl (Nat.le_of_ble_eq_true rfl) dL_law_761 ?_
          rintro _ τ771 ⟨x774, rfl, i772, f773, b775⟩
          have r778 : MA τ771 S I := mτ.fr iτ f773 (by decide) (by decide)
          have r779 : Rel τ771 := rτ.call f773 (by decide) (by decide)
          have r780 : RT τ771 := tτ.call f773 (by decide) (by decide)
          have r781 : CA τ771 S I := cτ.fr f773 (by decide) (by decide)
          have r782 : RI τ771 := jτ.call f773 (by decide) (by decide)
          have r783 : ST τ771 := oτ.call f773 (by decide) (by decide)
          show MW p l e _ s m _ below meth c _ 4 G (250 + 8 * y3.toInt.toNat) (5300 + 24 * y3.toInt.toNat) 764 [some (.ref b), some (.ref (G.1 0 0)), some (.ref (G.1 22 0)), some (.int y3)] [.int x774] τ771
          refine m_pop C dL_law_764 rfl ?_
          refine m_aload_n C dL_law_765 rfl rfl ?_
          refine m_aload_n C dL_law_766 rfl rfl ?_
          refine m_iload_n C dL_law_767 rfl rfl ?_
          refine m_iconst (v := 1) C dL_law_768 (by decide) ?_
          refine m_iadd C dL_law_769 ?_
          refine m_topi (fun x784 ex784 => ?_)
          have tx784 : x784.toInt = y3.toInt + 1 := by rw [ex784, ti_addv b8 kc_1 (by decide), kt_1]
          have b785 : IV x784 1 3067 := by rw [ex784]; exact iv_add b8 kc_1 (by decide)
          refine m_sld C hX hbl hbA ⟨by omega, by omega⟩ dL_law_770 ?_
          refine m_eqs (w := x770) (by rw [ex770, show x784.toInt.toNat = x768.toInt.toNat by omega]) ?_
          refine m_callV (n := 1) (ci := 11) (st := []) C (c_X12_rescueS l G τ771 (x770) i772 ) (by decide) (by decide) rfl rfl rfl q5_160 q5_157 q5_158 q5_159 q1_7 (by decide +kernel) rfl (by decide) ⟨by show (250 + 8 * y3.toInt.toNat) + 0 ≤ 600000; omega, by show (5300 + 24 * y3.toInt.toNat) + 0 ≤ 7302250; omega⟩ rfl (Nat.le_of_ble_eq_true rfl) dL_law_771 ?_
          rintro _ τ786 ⟨x789, rfl, i787, f788, b790, h792⟩
          have r793 : Rel τ786 := r779.call f788 (by decide) (by decide)
          have r794 : RT τ786 := r780.call f788 (by decide) (by decide)
          have r795 : CA τ786 S I := r781.fr f788 (by decide) (by decide)
          have r796 : MA τ786 S I := r778.sf i772 f788 h792 (by decide) (by decide)
          have r797 : RI τ786 := r782.call f788 (by decide) (by decide)
          have r798 : ST τ786 := r783.call f788 (by decide) (by decide)
          show MW p l e _ s m _ below meth c _ 4 G (250 + 8 * y3.toInt.toNat) (5300 + 24 * y3.toInt.toNat) 774 [some (.ref b), some (.ref (G.1 0 0)), some (.ref (G.1 22 0)), some (.int y3)] [.int x789] τ786
          refine m_pop C dL_law_774 rfl ?_
          refine m_goto (tgt := 1028) C dL_law_775 (by decide) ?_
          obtain ⟨x799, ex799⟩ : ∃ y : Int32, y = y3 + 6 := ⟨_, rfl⟩
          have tx799 : x799.toInt = y3.toInt + 6 := by rw [ex799, ti_addv b8 kc_6 (by decide), kt_6]
          have b800 : IV x799 6 3072 := by rw [ex799]; exact iv_add b8 kc_6 (by decide)
          refine m_iinc (v := x799) (L1 := [some (.ref b), some (.ref (G.1 0 0)), some (.ref (G.1 22 0)), some (.int x799)]) C dL_law_1028 rfl (by rw [ex799]; rfl) (by decide) rfl rfl ?_
          refine m_goto (tgt := 18) C dL_law_1031 (by decide) ?_
          refine m_widen (c2 := 250 + 8 * x799.toInt.toNat) (s2 := 5300 + 24 * x799.toInt.toNat) (by omega) (by omega) ?_
          exact ih18 τ786 x799 S I i787 r793 r794 r795 r796 r797 r798 (iv_wk b800 (by decide)) (by have q := hm18; omega)
        by_cases s801 : x11.toInt = 20
        · refine m_tableIn (tgt := 778) (off := 745) C dL_law_33 (by omega) (by omega) (by rw [s801]; rfl) (by decide) ?_
          have b802 : IV x11 20 20 := ⟨by omega, by omega⟩
          refine m_aload_n C dL_law_778 rfl rfl ?_
          refine m_callV (n := 0) (ci := 10) (st := []) C (c_X11_fallS l G τ  iτ ) (by decide) (by decide) rfl rfl rfl q3_220 q3_217 q3_218 q3_219 q1_1 (by decide +kernel) rfl (by decide) ⟨by show (250 + 8 * y3.toInt.toNat) + 0 ≤ 600000; omega, by show (5300 + 24 * y3.toInt.toNat) + 0 ≤ 7302250; omega⟩ rfl (Nat.le_of_ble_eq_true rfl) dL_law_779 ?_
          rintro _ τ803 ⟨x806, rfl, i804, f805, b807, h809⟩
          have r810 : MA τ803 S I := mτ.fr iτ f805 (by decide) (by decide)
          have r811 : Rel τ803 := rτ.call f805 (by decide) (by decide)
          have r812 : RT τ803 := tτ.call f805 (by decide) (by decide)
          have r813 : CA τ803 S I := cτ.sf f805 h809 (by decide) (by decide)
          have r814 : RI τ803 := jτ.call f805 (by decide) (by decide)
          have r815 : ST τ803 := oτ.call f805 (by decide) (by decide)
          show MW p l e _ s m _ below meth c _ 4 G (250 + 8 * y3.toInt.toNat) (5300 + 24 * y3.toInt.toNat) 782 [some (.ref b), some (.ref (G.1 0 0)), some (.ref (G.1 22 0)), some (.int y3)] [.int x806] τ803
          refine m_pop C dL_law_782 rfl ?_
          refine m_aload_n C dL_law_783 rfl rfl ?_
          refine m_callV (n := 0) (ci := 11) (st := []) C (c_X12_fallS l G τ803  i804 ) (by decide) (by decide) rfl rfl rfl q5_168 q5_165 q5_166 q5_167 q1_7 (by decide +kernel) rfl (by decide) ⟨by show (250 + 8 * y3.toInt.toNat) + 0 ≤ 600000; omega, by show (5300 + 24 * y3.toInt.toNat) + 0 ≤ 7302250; omega⟩ rfl (Nat.le_of_ble_eq_true rfl) dL_law_784 ?_
          rintro _ τ816 ⟨x819, rfl, i817, f818, b820, h822⟩
          have r823 : Rel τ816 := r811.call f818 (by decide) (by decide)
          have r824 : RT τ816 := r812.call f818 (by decide) (by decide)
          have r825 : CA τ816 S I := r813.fr f818 (by decide) (by decide)
          have r826 : MA τ816 S I := r810.sf i804 f818 h822 (by decide) (by decide)
          have r827 : RI τ816 := r814.call f818 (by decide) (by decide)
          have r828 : ST τ816 := r815.call f818 (by decide) (by decide)
          show MW p l e _ s m _ below meth c _ 4 G (250 + 8 * y3.toInt.toNat) (5300 + 24 * y3.toInt.toNat) 787 [some (.ref b), some (.ref (G.1 0 0)), some (.ref (G.1 22 0)), some (.int y3)] [.int x819] τ816
          refine m_pop C dL_law_787 rfl ?_
          refine m_goto (tgt := 1028) C dL_law_788 (by decide) ?_
          obtain ⟨x829, ex829⟩ : ∃ y : Int32, y = y3 + 6 := ⟨_, rfl⟩
          have tx829 : x829.toInt = y3.toInt + 6 := by rw [ex829, ti_addv b8 kc_6 (by decide), kt_6]
          have b830 : IV x829 6 3072 := by rw [ex829]; exact iv_add b8 kc_6 (by decide)
          refine m_iinc (v := x829) (L1 := [some (.ref b), some (.ref (G.1 0 0)), some (.ref (G.1 22 0)), some (.int x829)]) C dL_law_1028 rfl (by rw [ex829]; rfl) (by decide) rfl rfl ?_
          refine m_goto (tgt := 18) C dL_law_1031 (by decide) ?_
          refine m_widen (c2 := 250 + 8 * x829.toInt.toNat) (s2 := 5300 + 24 * x829.toInt.toNat) (by omega) (by omega) ?_
          exact ih18 τ816 x829 S I i817 r823 r824 r825 r826 r827 r828 (iv_wk b830 (by decide)) (by have q := hm18; omega)
        by_cases s831 : x11.toInt = 21
        · refine m_tableIn (tgt := 791) (off := 758) C dL_law_33 (by omega) (by omega) (by rw [s831]; rfl) (by decide) ?_
          have b832 : IV x11 21 21 := ⟨by omega, by omega⟩
          refine m_aload_n C dL_law_791 rfl rfl ?_
          refine m_aload_n C dL_law_792 rfl rfl ?_
          refine m_iload_n C dL_law_793 rfl rfl ?_
          refine m_iconst (v := 1) C dL_law_794 (by decide) ?_
          refine m_iadd C dL_law_795 ?_
          refine m_topi (fun x833 ex833 => ?_)
          have tx833 : x833.toInt = y3.toInt + 1 := by rw [ex833, ti_addv b8 kc_1 (by decide), kt_1]
          have b834 : IV x833 1 3067 := by rw [ex833]; exact iv_add b8 kc_1 (by decide)
          refine m_sld C hX hbl hbA ⟨by omega, by omega⟩ dL_law_796 ?_
          refine m_topi (fun x835 ex835 => ?_)
          refine m_aload_n C dL_law_797 rfl rfl ?_
          refine m_iload_n C dL_law_798 rfl rfl ?_
          refine m_iconst (v := 2) C dL_law_799 (by decide) ?_
          refine m_iadd C dL_law_800 ?_
          refine m_topi (fun x836 ex836 => ?_)
          have tx836 : x836.toInt = y3.toInt + 2 := by rw [ex836, ti_addv b8 kc_2 (by decide), kt_2]
          have b837 : IV x836 2 3068 := by rw [ex836]; exact iv_add b8 kc_2 (by decide)
          refine m_sld C hX hbl hbA ⟨by omega, by omega⟩ dL_law_801 ?_
          refine m_topi (fun x838 ex838 => ?_)
          refine m_aload_n C dL_law_802 rfl rfl ?_
          refine m_iload_n C dL_law_803 rfl rfl ?_
          refine m_iconst (v := 3) C dL_law_804 (by decide) ?_
          refine m_iadd C dL_law_805 ?_
          refine m_topi (fun x839 ex839 => ?_)
          have tx839 : x839.toInt = y3.toInt + 3 := by rw [ex839, ti_addv b8 kc_3 (by decide), kt_3]
          have b840 : IV x839 3 3069 := by rw [ex839]; exact iv_add b8 kc_3 (by decide)
          refine m_sld C hX hbl hbA ⟨by omega, by omega⟩ dL_law_806 ?_
          refine m_topi (fun x841 ex841 => ?_)
          refine m_callV (n := 3) (ci := 10) (st := []) C (c_X11_bellsQ l G τ (x835) (x838) (x841) iτ ) (by decide) (by decide) rfl rfl rfl q3_224 q3_221 q3_222 q3_223 q1_1 (by decide +kernel) rfl (by decide) ⟨by show (250 + 8 * y3.toInt.toNat) + 0 ≤ 600000; omega, by show (5300 + 24 * y3.toInt.toNat) + 0 ≤ 7302250; omega⟩ rfl (Nat.le_of_ble_eq_true rfl) dL_law_807 ?_
          rintro _ τ842 ⟨x845, rfl, i843, f844, b846, h848⟩
          have r849 : MA τ842 S I := mτ.fr iτ f844 (by decide) (by decide)
          have r850 : RT τ842 := tτ.call f844 (by decide) (by decide)
          have r851 : CA τ842 S I := cτ.fr f844 (by decide) (by decide)
          have z852 := Hid.mk h848
          clear h848
          have r853 : Rel τ842 := rτ.call f844 (by decide) (by decide)
          have r854 : RI τ842 := jτ.call f844 (by decide) (by decide)
          show MW p l e _ s m _ below meth c _ 4 G (250 + 8 * y3.toInt.toNat) (5300 + 24 * y3.toInt.toNat) 810 [some (.ref b), some (.ref (G.1 0 0)), some (.ref (G.1 22 0)), some (.int y3)] [.int x845] τ842
          refine m_pop C dL_law_810 rfl ?_
          refine m_aload_n C dL_law_811 rfl rfl ?_
          refine m_aload_n C dL_law_812 rfl rfl ?_
          refine m_iload_n C dL_law_813 rfl rfl ?_
          refine m_iconst (v := 1) C dL_law_814 (by decide) ?_
          refine m_iadd C dL_law_815 ?_
          refine m_topi (fun x855 ex855 => ?_)
          have tx855 : x855.toInt = y3.toInt + 1 := by rw [ex855, ti_addv b8 kc_1 (by decide), kt_1]
          have b856 : IV x855 1 3067 := by rw [ex855]; exact iv_add b8 kc_1 (by decide)
          refine m_sld C hX hbl hbA ⟨by omega, by omega⟩ dL_law_816 ?_
          refine m_eqs (w := x835) (by rw [ex835, show x855.toInt.toNat = x833.toInt.toNat by omega]) ?_
          refine m_aload_n C dL_law_817 rfl rfl ?_
          refine m_iload_n C dL_law_818 rfl rfl ?_
          refine m_iconst (v := 2) C dL_law_819 (by decide) ?_
          refine m_iadd C dL_law_820 ?_
          refine m_topi (fun x857 ex857 => ?_)
          have tx857 : x857.toInt = y3.toInt + 2 := by rw [ex857, ti_addv b8 kc_2 (by decide), kt_2]
          have b858 : IV x857 2 3068 := by rw [ex857]; exact iv_add b8 kc_2 (by decide)
          refine m_sld C hX hbl hbA ⟨by omega, by omega⟩ dL_law_821 ?_
          refine m_eqs (w := x838) (by rw [ex838, show x857.toInt.toNat = x836.toInt.toNat by omega]) ?_
          refine m_aload_n C dL_law_822 rfl rfl ?_
          refine m_iload_n C dL_law_823 rfl rfl ?_
          refine m_iconst (v := 3) C dL_law_824 (by decide) ?_
          refine m_iadd C dL_law_825 ?_
          refine m_topi (fun x859 ex859 => ?_)
          have tx859 : x859.toInt = y3.toInt + 3 := by rw [ex859, ti_addv b8 kc_3 (by decide), kt_3]
          have b860 : IV x859 3 3069 := by rw [ex859]; exact iv_add b8 kc_3 (by decide)
          refine m_sld C hX hbl hbA ⟨by omega, by omega⟩ dL_law_826 ?_
          refine m_eqs (w := x841) (by rw [ex841, show x859.toInt.toNat = x839.toInt.toNat by omega]) ?_
          refine m_callV (n := 3) (ci := 11) (st := []) C (c_X12_bellsQ l G τ842 (x835) (x838) (x841) i843 ) (by decide) (by decide) rfl rfl rfl q5_172 q5_169 q5_170 q5_171 q1_7 (by decide +kernel) rfl (by decide) ⟨by show (250 + 8 * y3.toInt.toNat) + 0 ≤ 600000; omega, by show (5300 + 24 * y3.toInt.toNat) + 0 ≤ 7302250; omega⟩ rfl (Nat.le_of_ble_eq_true rfl) dL_law_827 ?_
          rintro _ τ861 ⟨x864, rfl, i862, f863, b865, h867⟩
          have r869 : RT τ861 := r850.call f863 (by decide) (by decide)
          have r870 : CA τ861 S I := r851.fr f863 (by decide) (by decide)
          have r871 : MA τ861 S I := r849.fr i843 f863 (by decide) (by decide)
          have r872 : Rel τ861 := r853.call f863 (by decide) (by decide)
          have r873 : RI τ861 := r854.call f863 (by decide) (by decide)
          have r874 : ST τ861 := RQ.bellsB rτ jτ oτ f844 f863 z852 h867
          clear h867 z852
          show MW p l e _ s m _ below meth c _ 4 G (250 + 8 * y3.toInt.toNat) (5300 + 24 * y3.toInt.toNat) 830 [some (.ref b), some (.ref (G.1 0 0)), some (.ref (G.1 22 0)), some (.int y3)] [.int x864] τ861
          refine m_pop C dL_law_830 rfl ?_
          refine m_goto (tgt := 1028) C dL_law_831 (by decide) ?_
          obtain ⟨x875, ex875⟩ : ∃ y : Int32, y = y3 + 6 := ⟨_, rfl⟩
          have tx875 : x875.toInt = y3.toInt + 6 := by rw [ex875, ti_addv b8 kc_6 (by decide), kt_6]
          have b876 : IV x875 6 3072 := by rw [ex875]; exact iv_add b8 kc_6 (by decide)
          refine m_iinc (v := x875) (L1 := [some (.ref b), some (.ref (G.1 0 0)), some (.ref (G.1 22 0)), some (.int x875)]) C dL_law_1028 rfl (by rw [ex875]; rfl) (by decide) rfl rfl ?_
          refine m_goto (tgt := 18) C dL_law_1031 (by decide) ?_
          refine m_widen (c2 := 250 + 8 * x875.toInt.toNat) (s2 := 5300 + 24 * x875.toInt.toNat) (by omega) (by omega) ?_
          exact ih18 τ861 x875 S I i862 r872 r869 r870 r871 r873 r874 (iv_wk b876 (by decide)) (by have q := hm18; omega)
        by_cases s877 : x11.toInt = 22
        · refine m_tableIn (tgt := 834) (off := 801) C dL_law_33 (by omega) (by omega) (by rw [s877]; rfl) (by decide) ?_
          have b878 : IV x11 22 22 := ⟨by omega, by omega⟩
          refine m_aload_n C dL_law_834 rfl rfl ?_
          refine m_aload_n C dL_law_835 rfl rfl ?_
          refine m_iload_n C dL_law_836 rfl rfl ?_
          refine m_iconst (v := 1) C dL_law_837 (by decide) ?_
          refine m_iadd C dL_law_838 ?_
          refine m_topi (fun x879 ex879 => ?_)
          have tx879 : x879.toInt = y3.toInt + 1 := by rw [ex879, ti_addv b8 kc_1 (by decide), kt_1]
          have b880 : IV x879 1 3067 := by rw [ex879]; exact iv_add b8 kc_1 (by decide)
          refine m_sld C hX hbl hbA ⟨by omega, by omega⟩ dL_law_839 ?_
          refine m_topi (fun x881 ex881 => ?_)
          refine m_callV (n := 1) (ci := 10) (st := []) C (c_X11_imageS l G τ S I (x881) iτ cτ) (by decide) (by decide) rfl rfl rfl q4_0 q3_237 q3_238 q3_239 q1_1 (by decide +kernel) rfl (by decide) ⟨by show (250 + 8 * y3.toInt.toNat) + 0 ≤ 600000; omega, by show (5300 + 24 * y3.toInt.toNat) + 0 ≤ 7302250; omega⟩ rfl (Nat.le_of_ble_eq_true rfl) dL_law_840 ?_
          rintro _ τ882 ⟨x885, rfl, i883, f884, b886, h888⟩
          have r889 : MA τ882 S I := mτ.fr iτ f884 (by decide) (by decide)
          have z890 := Hid.mk h888
          clear h888
          have r891 : Rel τ882 := rτ.call f884 (by decide) (by decide)
          have r892 : RT τ882 := tτ.call f884 (by decide) (by decide)
          have r893 : RI τ882 := jτ.call f884 (by decide) (by decide)
          have r894 : ST τ882 := oτ.call f884 (by decide) (by decide)
          show MW p l e _ s m _ below meth c _ 4 G (250 + 8 * y3.toInt.toNat) (5300 + 24 * y3.toInt.toNat) 843 [some (.ref b), some (.ref (G.1 0 0)), some (.ref (G.1 22 0)), some (.int y3)] [.int x885] τ882
          refine m_pop C dL_law_843 rfl ?_
          refine m_aload_n C dL_law_844 rfl rfl ?_
          refine m_aload_n C dL_law_845 rfl rfl ?_
          refine m_iload_n C dL_law_846 rfl rfl ?_
          refine m_iconst (v := 1) C dL_law_847 (by decide) ?_
          refine m_iadd C dL_law_848 ?_
          refine m_topi (fun x895 ex895 => ?_)
          have tx895 : x895.toInt = y3.toInt + 1 := by rw [ex895, ti_addv b8 kc_1 (by decide), kt_1]
          have b896 : IV x895 1 3067 := by rw [ex895]; exact iv_add b8 kc_1 (by decide)
          refine m_sld C hX hbl hbA ⟨by omega, by omega⟩ dL_law_849 ?_
          refine m_eqs (w := x881) (by rw [ex881, show x895.toInt.toNat = x879.toInt.toNat by omega]) ?_
          refine m_callV (n := 1) (ci := 11) (st := []) C (c_X12_imageS l G τ882 S I (x881) i883 r889) (by decide) (by decide) rfl rfl rfl q5_178 q5_175 q5_176 q5_177 q1_7 (by decide +kernel) rfl (by decide) ⟨by show (250 + 8 * y3.toInt.toNat) + 0 ≤ 600000; omega, by show (5300 + 24 * y3.toInt.toNat) + 0 ≤ 7302250; omega⟩ rfl (Nat.le_of_ble_eq_true rfl) dL_law_850 ?_
          rintro _ τ897 ⟨x900, rfl, i898, f899, b901, h903⟩
          have r905 : Rel τ897 := r891.call f899 (by decide) (by decide)
          have r906 : RT τ897 := r892.call f899 (by decide) (by decide)
          obtain ⟨S907, h908, h909, q910⟩ := RS.imageB f899 z890 h903
          clear h903 z890
          have r911 : RI τ897 := r893.call f899 (by decide) (by decide)
          have r912 : ST τ897 := r894.call f899 (by decide) (by decide)
          show MW p l e _ s m _ below meth c _ 4 G (250 + 8 * y3.toInt.toNat) (5300 + 24 * y3.toInt.toNat) 853 [some (.ref b), some (.ref (G.1 0 0)), some (.ref (G.1 22 0)), some (.int y3)] [.int x900] τ897
          refine m_pop C dL_law_853 rfl ?_
          refine m_goto (tgt := 1028) C dL_law_854 (by decide) ?_
          obtain ⟨x913, ex913⟩ : ∃ y : Int32, y = y3 + 6 := ⟨_, rfl⟩
          have tx913 : x913.toInt = y3.toInt + 6 := by rw [ex913, ti_addv b8 kc_6 (by decide), kt_6]
          have b914 : IV x913 6 3072 := by rw [ex913]; exact iv_add b8 kc_6 (by decide)
          refine m_iinc (v := x913) (L1 := [some (.ref b), some (.ref (G.1 0 0)), some (.ref (G.1 22 0)), some (.int x913)]) C dL_law_1028 rfl (by rw [ex913]; rfl) (by decide) rfl rfl ?_
          refine m_goto (tgt := 18) C dL_law_1031 (by decide) ?_
          refine m_widen (c2 := 250 + 8 * x913.toInt.toNat) (s2 := 5300 + 24 * x913.toInt.toNat) (by omega) (by omega) ?_
          exact ih18 τ897 x913 S S907 i898 r905 r906 h908 h909 r911 r912 (iv_wk b914 (by decide)) (by have q := hm18; omega)
        by_cases s915 : x11.toInt = 23
        · refine m_tableIn (tgt := 857) (off := 824) C dL_law_33 (by omega) (by omega) (by rw [s915]; rfl) (by decide) ?_
          have b916 : IV x11 23 23 := ⟨by omega, by omega⟩
          refine m_aload_n C dL_law_857 rfl rfl ?_
          refine m_aload_n C dL_law_858 rfl rfl ?_
          refine m_iload_n C dL_law_859 rfl rfl ?_
          refine m_iconst (v := 1) C dL_law_860 (by decide) ?_
          refine m_iadd C dL_law_861 ?_
          refine m_topi (fun x917 ex917 => ?_)
          have tx917 : x917.toInt = y3.toInt + 1 := by rw [ex917, ti_addv b8 kc_1 (by decide), kt_1]
          have b918 : IV x917 1 3067 := by rw [ex917]; exact iv_add b8 kc_1 (by decide)
          refine m_sld C hX hbl hbA ⟨by omega, by omega⟩ dL_law_862 ?_
          refine m_topi (fun x919 ex919 => ?_)
          refine m_callV (n := 1) (ci := 10) (st := []) C (c_X11_restoreS l G τ S I (x919) iτ cτ) (by decide) (by decide) rfl rfl rfl q4_4 q4_1 q4_2 q4_3 q1_1 (by decide +kernel) rfl (by decide) ⟨by show (250 + 8 * y3.toInt.toNat) + 0 ≤ 600000; omega, by show (5300 + 24 * y3.toInt.toNat) + 0 ≤ 7302250; omega⟩ rfl (Nat.le_of_ble_eq_true rfl) dL_law_863 ?_
          rintro _ τ920 ⟨x923, rfl, i921, f922, b924, h926⟩
          have r927 : MA τ920 S I := mτ.fr iτ f922 (by decide) (by decide)
          have z928 := Hid.mk h926
          clear h926
          have r929 : Rel τ920 := rτ.call f922 (by decide) (by decide)
          have r930 : RT τ920 := tτ.call f922 (by decide) (by decide)
          have r931 : RI τ920 := jτ.call f922 (by decide) (by decide)
          have r932 : ST τ920 := oτ.call f922 (by decide) (by decide)
          show MW p l e _ s m _ below meth c _ 4 G (250 + 8 * y3.toInt.toNat) (5300 + 24 * y3.toInt.toNat) 866 [some (.ref b), some (.ref (G.1 0 0)), some (.ref (G.1 22 0)), some (.int y3)] [.int x923] τ920
          refine m_pop C dL_law_866 rfl ?_
          refine m_aload_n C dL_law_867 rfl rfl ?_
          refine m_aload_n C dL_law_868 rfl rfl ?_
          refine m_iload_n C dL_law_869 rfl rfl ?_
          refine m_iconst (v := 1) C dL_law_870 (by decide) ?_
          refine m_iadd C dL_law_871 ?_
          refine m_topi (fun x933 ex933 => ?_)
          have tx933 : x933.toInt = y3.toInt + 1 := by rw [ex933, ti_addv b8 kc_1 (by decide), kt_1]
          have b934 : IV x933 1 3067 := by rw [ex933]; exact iv_add b8 kc_1 (by decide)
          refine m_sld C hX hbl hbA ⟨by omega, by omega⟩ dL_law_872 ?_
          refine m_eqs (w := x919) (by rw [ex919, show x933.toInt.toNat = x917.toInt.toNat by omega]) ?_
          refine m_callV (n := 1) (ci := 11) (st := []) C (c_X12_restoreS l G τ920 S I (x919) i921 r927) (by decide) (by decide) rfl rfl rfl q5_182 q5_179 q5_180 q5_181 q1_7 (by decide +kernel) rfl (by decide) ⟨by show (250 + 8 * y3.toInt.toNat) + 0 ≤ 600000; omega, by show (5300 + 24 * y3.toInt.toNat) + 0 ≤ 7302250; omega⟩ rfl (Nat.le_of_ble_eq_true rfl) dL_law_873 ?_
          rintro _ τ935 ⟨x938, rfl, i936, f937, b939, h941⟩
          have r943 : Rel τ935 := r929.call f937 (by decide) (by decide)
          have r944 : RT τ935 := r930.call f937 (by decide) (by decide)
          obtain ⟨S945, h946, h947, q948⟩ := RS.restoreB f937 z928 h941
          clear h941 z928
          have r949 : RI τ935 := r931.call f937 (by decide) (by decide)
          have r950 : ST τ935 := r932.call f937 (by decide) (by decide)
          show MW p l e _ s m _ below meth c _ 4 G (250 + 8 * y3.toInt.toNat) (5300 + 24 * y3.toInt.toNat) 876 [some (.ref b), some (.ref (G.1 0 0)), some (.ref (G.1 22 0)), some (.int y3)] [.int x938] τ935
          refine m_pop C dL_law_876 rfl ?_
          refine m_goto (tgt := 1028) C dL_law_877 (by decide) ?_
          obtain ⟨x951, ex951⟩ : ∃ y : Int32, y = y3 + 6 := ⟨_, rfl⟩
          have tx951 : x951.toInt = y3.toInt + 6 := by rw [ex951, ti_addv b8 kc_6 (by decide), kt_6]
          have b952 : IV x951 6 3072 := by rw [ex951]; exact iv_add b8 kc_6 (by decide)
          refine m_iinc (v := x951) (L1 := [some (.ref b), some (.ref (G.1 0 0)), some (.ref (G.1 22 0)), some (.int x951)]) C dL_law_1028 rfl (by rw [ex951]; rfl) (by decide) rfl rfl ?_
          refine m_goto (tgt := 18) C dL_law_1031 (by decide) ?_
          refine m_widen (c2 := 250 + 8 * x951.toInt.toNat) (s2 := 5300 + 24 * x951.toInt.toNat) (by omega) (by omega) ?_
          exact ih18 τ935 x951 S945 I i936 r943 r944 h946 h947 r949 r950 (iv_wk b952 (by decide)) (by have q := hm18; omega)
        by_cases s953 : x11.toInt = 24
        · refine m_tableIn (tgt := 880) (off := 847) C dL_law_33 (by omega) (by omega) (by rw [s953]; rfl) (by decide) ?_
          have b954 : IV x11 24 24 := ⟨by omega, by omega⟩
          refine m_aload_n C dL_law_880 rfl rfl ?_
          refine m_aload_n C dL_law_881 rfl rfl ?_
          refine m_iload_n C dL_law_882 rfl rfl ?_
          refine m_iconst (v := 1) C dL_law_883 (by decide) ?_
          refine m_iadd C dL_law_884 ?_
          refine m_topi (fun x955 ex955 => ?_)
          have tx955 : x955.toInt = y3.toInt + 1 := by rw [ex955, ti_addv b8 kc_1 (by decide), kt_1]
          have b956 : IV x955 1 3067 := by rw [ex955]; exact iv_add b8 kc_1 (by decide)
          refine m_sld C hX hbl hbA ⟨by omega, by omega⟩ dL_law_885 ?_
          refine m_topi (fun x957 ex957 => ?_)
          refine m_callV (n := 1) (ci := 10) (st := []) C (c_X11_kindS l G τ S I (x957) iτ cτ) (by decide) (by decide) rfl rfl rfl q4_8 q4_5 q4_6 q4_7 q1_1 (by decide +kernel) rfl (by decide) ⟨by show (250 + 8 * y3.toInt.toNat) + 0 ≤ 600000; omega, by show (5300 + 24 * y3.toInt.toNat) + 0 ≤ 7302250; omega⟩ rfl (Nat.le_of_ble_eq_true rfl) dL_law_886 ?_
          rintro _ τ958 ⟨x961, rfl, i959, f960, b962, h964⟩
          have r965 : MA τ958 S I := mτ.fr iτ f960 (by decide) (by decide)
          have z966 := Hid.mk h964
          clear h964
          have r967 : Rel τ958 := rτ.call f960 (by decide) (by decide)
          have r968 : RT τ958 := tτ.call f960 (by decide) (by decide)
          have r969 : CA τ958 S I := cτ.fr f960 (by decide) (by decide)
          have r970 : RI τ958 := jτ.call f960 (by decide) (by decide)
          have r971 : ST τ958 := oτ.call f960 (by decide) (by decide)
          show MW p l e _ s m _ below meth c _ 4 G (250 + 8 * y3.toInt.toNat) (5300 + 24 * y3.toInt.toNat) 889 [some (.ref b), some (.ref (G.1 0 0)), some (.ref (G.1 22 0)), some (.int y3)] [.int x961] τ958
          refine m_pop C dL_law_889 rfl ?_
          refine m_aload_n C dL_law_890 rfl rfl ?_
          refine m_aload_n C dL_law_891 rfl rfl ?_
          refine m_iload_n C dL_law_892 rfl rfl ?_
          refine m_iconst (v := 1) C dL_law_893 (by decide) ?_
          refine m_iadd C dL_law_894 ?_
          refine m_topi (fun x972 ex972 => ?_)
          have tx972 : x972.toInt = y3.toInt + 1 := by rw [ex972, ti_addv b8 kc_1 (by decide), kt_1]
          have b973 : IV x972 1 3067 := by rw [ex972]; exact iv_add b8 kc_1 (by decide)
          refine m_sld C hX hbl hbA ⟨by omega, by omega⟩ dL_law_895 ?_
          refine m_eqs (w := x957) (by rw [ex957, show x972.toInt.toNat = x955.toInt.toNat by omega]) ?_
          refine m_callV (n := 1) (ci := 11) (st := []) C (c_X12_kindS l G τ958 S I (x957) i959 r965) (by decide) (by decide) rfl rfl rfl q5_186 q5_183 q5_184 q5_185 q1_7 (by decide +kernel) rfl (by decide) ⟨by show (250 + 8 * y3.toInt.toNat) + 0 ≤ 600000; omega, by show (5300 + 24 * y3.toInt.toNat) + 0 ≤ 7302250; omega⟩ rfl (Nat.le_of_ble_eq_true rfl) dL_law_896 ?_
          rintro _ τ974 ⟨x977, rfl, i975, f976, b978, h980⟩
          have r982 : Rel τ974 := r967.call f976 (by decide) (by decide)
          have r983 : RT τ974 := r968.call f976 (by decide) (by decide)
          have g981 := RS.kindB z966 h980
          have r984 : CA τ974 S I := r969.fr f976 (by decide) (by decide)
          have r985 : MA τ974 S I := r965.fr i959 f976 (by decide) (by decide)
          clear h980 z966
          have r986 : RI τ974 := r970.call f976 (by decide) (by decide)
          have r987 : ST τ974 := r971.call f976 (by decide) (by decide)
          show MW p l e _ s m _ below meth c _ 4 G (250 + 8 * y3.toInt.toNat) (5300 + 24 * y3.toInt.toNat) 899 [some (.ref b), some (.ref (G.1 0 0)), some (.ref (G.1 22 0)), some (.int y3)] [.int x977] τ974
          refine m_pop C dL_law_899 rfl ?_
          refine m_goto (tgt := 1028) C dL_law_900 (by decide) ?_
          obtain ⟨x988, ex988⟩ : ∃ y : Int32, y = y3 + 6 := ⟨_, rfl⟩
          have tx988 : x988.toInt = y3.toInt + 6 := by rw [ex988, ti_addv b8 kc_6 (by decide), kt_6]
          have b989 : IV x988 6 3072 := by rw [ex988]; exact iv_add b8 kc_6 (by decide)
          refine m_iinc (v := x988) (L1 := [some (.ref b), some (.ref (G.1 0 0)), some (.ref (G.1 22 0)), some (.int x988)]) C dL_law_1028 rfl (by rw [ex988]; rfl) (by decide) rfl rfl ?_
          refine m_goto (tgt := 18) C dL_law_1031 (by decide) ?_
          refine m_widen (c2 := 250 + 8 * x988.toInt.toNat) (s2 := 5300 + 24 * x988.toInt.toNat) (by omega) (by omega) ?_
          exact ih18 τ974 x988 S I i975 r982 r983 r984 r985 r986 r987 (iv_wk b989 (by decide)) (by have q := hm18; omega)
        by_cases s990 : x11.toInt = 25
        · refine m_tableIn (tgt := 903) (off := 870) C dL_law_33 (by omega) (by omega) (by rw [s990]; rfl) (by decide) ?_
          have b991 : IV x11 25 25 := ⟨by omega, by omega⟩
          refine m_aload_n C dL_law_903 rfl rfl ?_
          refine m_aload_n C dL_law_904 rfl rfl ?_
          refine m_iload_n C dL_law_905 rfl rfl ?_
          refine m_iconst (v := 1) C dL_law_906 (by decide) ?_
          refine m_iadd C dL_law_907 ?_
          refine m_topi (fun x992 ex992 => ?_)
          have tx992 : x992.toInt = y3.toInt + 1 := by rw [ex992, ti_addv b8 kc_1 (by decide), kt_1]
          have b993 : IV x992 1 3067 := by rw [ex992]; exact iv_add b8 kc_1 (by decide)
          refine m_sld C hX hbl hbA ⟨by omega, by omega⟩ dL_law_908 ?_
          refine m_topi (fun x994 ex994 => ?_)
          refine m_aload_n C dL_law_909 rfl rfl ?_
          refine m_iload_n C dL_law_910 rfl rfl ?_
          refine m_iconst (v := 2) C dL_law_911 (by decide) ?_
          refine m_iadd C dL_law_912 ?_
          refine m_topi (fun x995 ex995 => ?_)
          have tx995 : x995.toInt = y3.toInt + 2 := by rw [ex995, ti_addv b8 kc_2 (by decide), kt_2]
          have b996 : IV x995 2 3068 := by rw [ex995]; exact iv_add b8 kc_2 (by decide)
          refine m_sld C hX hbl hbA ⟨by omega, by omega⟩ dL_law_913 ?_
          refine m_topi (fun x997 ex997 => ?_)
          refine m_callV (n := 2) (ci := 10) (st := []) C (c_X11_asQ l G τ S I (x994) (x997) iτ cτ) (by decide) (by decide) rfl rfl rfl q4_30 q4_27 q4_28 q4_29 q1_1 (by decide +kernel) rfl (by decide) ⟨by show (250 + 8 * y3.toInt.toNat) + 0 ≤ 600000; omega, by show (5300 + 24 * y3.toInt.toNat) + 0 ≤ 7302250; omega⟩ rfl (Nat.le_of_ble_eq_true rfl) dL_law_914 ?_
          rintro _ τ998 ⟨x1001, rfl, i999, f1000, b1002, h1004⟩
          obtain ⟨h1004, h1004t0⟩ := h1004
          have r1005 : MA τ998 S I := mτ.fr iτ f1000 (by decide) (by decide)
          have r1006 : RT τ998 := tτ.call f1000 (by decide) (by decide)
          have r1007 : CA τ998 S I := cτ.fr f1000 (by decide) (by decide)
          have z1008 := Hid.mk h1004
          clear h1004
          have z1009 := Hid.mk h1004t0
          clear h1004t0
          have r1010 : Rel τ998 := rτ.call f1000 (by decide) (by decide)
          have r1011 : RI τ998 := jτ.call f1000 (by decide) (by decide)
          show MW p l e _ s m _ below meth c _ 4 G (250 + 8 * y3.toInt.toNat) (5300 + 24 * y3.toInt.toNat) 917 [some (.ref b), some (.ref (G.1 0 0)), some (.ref (G.1 22 0)), some (.int y3)] [.int x1001] τ998
          refine m_pop C dL_law_917 rfl ?_
          refine m_aload_n C dL_law_918 rfl rfl ?_
          refine m_aload_n C dL_law_919 rfl rfl ?_
          refine m_iload_n C dL_law_920 rfl rfl ?_
          refine m_iconst (v := 1) C dL_law_921 (by decide) ?_
          refine m_iadd C dL_law_922 ?_
          refine m_topi (fun x1012 ex1012 => ?_)
          have tx1012 : x1012.toInt = y3.toInt + 1 := by rw [ex1012, ti_addv b8 kc_1 (by decide), kt_1]
          have b1013 : IV x1012 1 3067 := by rw [ex1012]; exact iv_add b8 kc_1 (by decide)
          refine m_sld C hX hbl hbA ⟨by omega, by omega⟩ dL_law_923 ?_
          refine m_eqs (w := x994) (by rw [ex994, show x1012.toInt.toNat = x992.toInt.toNat by omega]) ?_
          refine m_aload_n C dL_law_924 rfl rfl ?_
          refine m_iload_n C dL_law_925 rfl rfl ?_
          refine m_iconst (v := 2) C dL_law_926 (by decide) ?_
          refine m_iadd C dL_law_927 ?_
          refine m_topi (fun x1014 ex1014 => ?_)
          have tx1014 : x1014.toInt = y3.toInt + 2 := by rw [ex1014, ti_addv b8 kc_2 (by decide), kt_2]
          have b1015 : IV x1014 2 3068 := by rw [ex1014]; exact iv_add b8 kc_2 (by decide)
          refine m_sld C hX hbl hbA ⟨by omega, by omega⟩ dL_law_928 ?_
          refine m_eqs (w := x997) (by rw [ex997, show x1014.toInt.toNat = x995.toInt.toNat by omega]) ?_
          refine m_callV (n := 2) (ci := 11) (st := []) C (c_X12_asQ l G τ998 S I (x994) (x997) i999 r1005) (by decide) (by decide) rfl rfl rfl q5_190 q5_187 q5_188 q5_189 q1_7 (by decide +kernel) rfl (by decide) ⟨by show (250 + 8 * y3.toInt.toNat) + 0 ≤ 600000; omega, by show (5300 + 24 * y3.toInt.toNat) + 0 ≤ 7302250; omega⟩ rfl (Nat.le_of_ble_eq_true rfl) dL_law_929 ?_
          rintro _ τ1016 ⟨x1019, rfl, i1017, f1018, b1020, h1022⟩
          obtain ⟨h1022, h1022t0⟩ := h1022
          have r1024 : RT τ1016 := r1006.call f1018 (by decide) (by decide)
          have r1025 : CA τ1016 S I := r1007.fr f1018 (by decide) (by decide)
          have r1026 : MA τ1016 S I := r1005.fr i999 f1018 (by decide) (by decide)
          have r1027 : Rel τ1016 := r1010.call f1018 (by decide) (by decide)
          have r1028 : RI τ1016 := r1011.call f1018 (by decide) (by decide)
          have g1023 := RS.asB z1008 h1022
          have r1029 : ST τ1016 := SQ.asB rτ oτ f1000 f1018 z1009 h1022t0
          clear h1022 z1008 z1009 h1022t0
          show MW p l e _ s m _ below meth c _ 4 G (250 + 8 * y3.toInt.toNat) (5300 + 24 * y3.toInt.toNat) 932 [some (.ref b), some (.ref (G.1 0 0)), some (.ref (G.1 22 0)), some (.int y3)] [.int x1019] τ1016
          refine m_pop C dL_law_932 rfl ?_
          refine m_goto (tgt := 1028) C dL_law_933 (by decide) ?_
          obtain ⟨x1030, ex1030⟩ : ∃ y : Int32, y = y3 + 6 := ⟨_, rfl⟩
          have tx1030 : x1030.toInt = y3.toInt + 6 := by rw [ex1030, ti_addv b8 kc_6 (by decide), kt_6]
          have b1031 : IV x1030 6 3072 := by rw [ex1030]; exact iv_add b8 kc_6 (by decide)
          refine m_iinc (v := x1030) (L1 := [some (.ref b), some (.ref (G.1 0 0)), some (.ref (G.1 22 0)), some (.int x1030)]) C dL_law_1028 rfl (by rw [ex1030]; rfl) (by decide) rfl rfl ?_
          refine m_goto (tgt := 18) C dL_law_1031 (by decide) ?_
          refine m_widen (c2 := 250 + 8 * x1030.toInt.toNat) (s2 := 5300 + 24 * x1030.toInt.toNat) (by omega) (by omega) ?_
          exact ih18 τ1016 x1030 S I i1017 r1027 r1024 r1025 r1026 r1028 r1029 (iv_wk b1031 (by decide)) (by have q := hm18; omega)
        by_cases s1032 : x11.toInt = 26
        · refine m_tableIn (tgt := 936) (off := 903) C dL_law_33 (by omega) (by omega) (by rw [s1032]; rfl) (by decide) ?_
          have b1033 : IV x11 26 26 := ⟨by omega, by omega⟩
          refine m_aload_n C dL_law_936 rfl rfl ?_
          refine m_aload_n C dL_law_937 rfl rfl ?_
          refine m_iload_n C dL_law_938 rfl rfl ?_
          refine m_iconst (v := 1) C dL_law_939 (by decide) ?_
          refine m_iadd C dL_law_940 ?_
          refine m_topi (fun x1034 ex1034 => ?_)
          have tx1034 : x1034.toInt = y3.toInt + 1 := by rw [ex1034, ti_addv b8 kc_1 (by decide), kt_1]
          have b1035 : IV x1034 1 3067 := by rw [ex1034]; exact iv_add b8 kc_1 (by decide)
          refine m_sld C hX hbl hbA ⟨by omega, by omega⟩ dL_law_941 ?_
          refine m_topi (fun x1036 ex1036 => ?_)
          refine m_aload_n C dL_law_942 rfl rfl ?_
          refine m_iload_n C dL_law_943 rfl rfl ?_
          refine m_iconst (v := 2) C dL_law_944 (by decide) ?_
          refine m_iadd C dL_law_945 ?_
          refine m_topi (fun x1037 ex1037 => ?_)
          have tx1037 : x1037.toInt = y3.toInt + 2 := by rw [ex1037, ti_addv b8 kc_2 (by decide), kt_2]
          have b1038 : IV x1037 2 3068 := by rw [ex1037]; exact iv_add b8 kc_2 (by decide)
          refine m_sld C hX hbl hbA ⟨by omega, by omega⟩ dL_law_946 ?_
          refine m_topi (fun x1039 ex1039 => ?_)
          refine m_callV (n := 2) (ci := 10) (st := []) C (c_X11_ask l G τ (x1036) (x1039) iτ ) (by decide) (by decide) rfl rfl rfl q4_42 q4_39 q4_40 q4_41 q1_1 (by decide +kernel) rfl (by decide) ⟨by show (250 + 8 * y3.toInt.toNat) + 0 ≤ 600000; omega, by show (5300 + 24 * y3.toInt.toNat) + 0 ≤ 7302250; omega⟩ rfl (Nat.le_of_ble_eq_true rfl) dL_law_947 ?_
          rintro _ τ1040 ⟨x1043, rfl, i1041, f1042, b1044⟩
          have r1047 : MA τ1040 S I := mτ.fr iτ f1042 (by decide) (by decide)
          have r1048 : Rel τ1040 := rτ.call f1042 (by decide) (by decide)
          have r1049 : RT τ1040 := tτ.call f1042 (by decide) (by decide)
          have r1050 : CA τ1040 S I := cτ.fr f1042 (by decide) (by decide)
          have r1051 : RI τ1040 := jτ.call f1042 (by decide) (by decide)
          have r1052 : ST τ1040 := oτ.call f1042 (by decide) (by decide)
          show MW p l e _ s m _ below meth c _ 4 G (250 + 8 * y3.toInt.toNat) (5300 + 24 * y3.toInt.toNat) 950 [some (.ref b), some (.ref (G.1 0 0)), some (.ref (G.1 22 0)), some (.int y3)] [.int x1043] τ1040
          refine m_pop C dL_law_950 rfl ?_
          refine m_aload_n C dL_law_951 rfl rfl ?_
          refine m_aload_n C dL_law_952 rfl rfl ?_
          refine m_iload_n C dL_law_953 rfl rfl ?_
          refine m_iconst (v := 1) C dL_law_954 (by decide) ?_
          refine m_iadd C dL_law_955 ?_
          refine m_topi (fun x1053 ex1053 => ?_)
          have tx1053 : x1053.toInt = y3.toInt + 1 := by rw [ex1053, ti_addv b8 kc_1 (by decide), kt_1]
          have b1054 : IV x1053 1 3067 := by rw [ex1053]; exact iv_add b8 kc_1 (by decide)
          refine m_sld C hX hbl hbA ⟨by omega, by omega⟩ dL_law_956 ?_
          refine m_eqs (w := x1036) (by rw [ex1036, show x1053.toInt.toNat = x1034.toInt.toNat by omega]) ?_
          refine m_aload_n C dL_law_957 rfl rfl ?_
          refine m_iload_n C dL_law_958 rfl rfl ?_
          refine m_iconst (v := 2) C dL_law_959 (by decide) ?_
          refine m_iadd C dL_law_960 ?_
          refine m_topi (fun x1055 ex1055 => ?_)
          have tx1055 : x1055.toInt = y3.toInt + 2 := by rw [ex1055, ti_addv b8 kc_2 (by decide), kt_2]
          have b1056 : IV x1055 2 3068 := by rw [ex1055]; exact iv_add b8 kc_2 (by decide)
          refine m_sld C hX hbl hbA ⟨by omega, by omega⟩ dL_law_961 ?_
          refine m_eqs (w := x1039) (by rw [ex1039, show x1055.toInt.toNat = x1037.toInt.toNat by omega]) ?_
          refine m_callV (n := 2) (ci := 11) (st := []) C (c_X12_ask l G τ1040 (x1036) (x1039) i1041 ) (by decide) (by decide) rfl rfl rfl q5_197 q5_194 q5_195 q5_196 q1_7 (by decide +kernel) rfl (by decide) ⟨by show (250 + 8 * y3.toInt.toNat) + 0 ≤ 600000; omega, by show (5300 + 24 * y3.toInt.toNat) + 0 ≤ 7302250; omega⟩ rfl (Nat.le_of_ble_eq_true rfl) dL_law_962 ?_
          rintro _ τ1057 ⟨x1060, rfl, i1058, f1059, b1061⟩
          have r1064 : Rel τ1057 := r1048.call f1059 (by decide) (by decide)
          have r1065 : RT τ1057 := r1049.call f1059 (by decide) (by decide)
          have r1066 : CA τ1057 S I := r1050.fr f1059 (by decide) (by decide)
          have r1067 : MA τ1057 S I := r1047.fr i1041 f1059 (by decide) (by decide)
          have r1068 : RI τ1057 := r1051.call f1059 (by decide) (by decide)
          have r1069 : ST τ1057 := r1052.call f1059 (by decide) (by decide)
          show MW p l e _ s m _ below meth c _ 4 G (250 + 8 * y3.toInt.toNat) (5300 + 24 * y3.toInt.toNat) 965 [some (.ref b), some (.ref (G.1 0 0)), some (.ref (G.1 22 0)), some (.int y3)] [.int x1060] τ1057
          refine m_pop C dL_law_965 rfl ?_
          refine m_goto (tgt := 1028) C dL_law_966 (by decide) ?_
          obtain ⟨x1070, ex1070⟩ : ∃ y : Int32, y = y3 + 6 := ⟨_, rfl⟩
          have tx1070 : x1070.toInt = y3.toInt + 6 := by rw [ex1070, ti_addv b8 kc_6 (by decide), kt_6]
          have b1071 : IV x1070 6 3072 := by rw [ex1070]; exact iv_add b8 kc_6 (by decide)
          refine m_iinc (v := x1070) (L1 := [some (.ref b), some (.ref (G.1 0 0)), some (.ref (G.1 22 0)), some (.int x1070)]) C dL_law_1028 rfl (by rw [ex1070]; rfl) (by decide) rfl rfl ?_
          refine m_goto (tgt := 18) C dL_law_1031 (by decide) ?_
          refine m_widen (c2 := 250 + 8 * x1070.toInt.toNat) (s2 := 5300 + 24 * x1070.toInt.toNat) (by omega) (by omega) ?_
          exact ih18 τ1057 x1070 S I i1058 r1064 r1065 r1066 r1067 r1068 r1069 (iv_wk b1071 (by decide)) (by have q := hm18; omega)
        by_cases s1072 : x11.toInt = 27
        · refine m_tableIn (tgt := 969) (off := 936) C dL_law_33 (by omega) (by omega) (by rw [s1072]; rfl) (by decide) ?_
          have b1073 : IV x11 27 27 := ⟨by omega, by omega⟩
          refine m_aload_n C dL_law_969 rfl rfl ?_
          refine m_aload_n C dL_law_970 rfl rfl ?_
          refine m_iload_n C dL_law_971 rfl rfl ?_
          refine m_iconst (v := 1) C dL_law_972 (by decide) ?_
          refine m_iadd C dL_law_973 ?_
          refine m_topi (fun x1074 ex1074 => ?_)
          have tx1074 : x1074.toInt = y3.toInt + 1 := by rw [ex1074, ti_addv b8 kc_1 (by decide), kt_1]
          have b1075 : IV x1074 1 3067 := by rw [ex1074]; exact iv_add b8 kc_1 (by decide)
          refine m_sld C hX hbl hbA ⟨by omega, by omega⟩ dL_law_974 ?_
          refine m_topi (fun x1076 ex1076 => ?_)
          refine m_callV (n := 1) (ci := 10) (st := []) C (c_X11_trace l G τ (x1076) iτ ) (by decide) (by decide) rfl rfl rfl q4_97 q4_94 q4_95 q4_96 q1_1 (by decide +kernel) rfl (by decide) ⟨by show (250 + 8 * y3.toInt.toNat) + 0 ≤ 600000; omega, by show (5300 + 24 * y3.toInt.toNat) + 0 ≤ 7302250; omega⟩ rfl (Nat.le_of_ble_eq_true rfl) dL_law_975 ?_
          rintro _ τ1077 ⟨x1080, rfl, i1078, f1079, b1081⟩
          have r1084 : MA τ1077 S I := mτ.fr iτ f1079 (by decide) (by decide)
          have r1085 : Rel τ1077 := rτ.call f1079 (by decide) (by decide)
          have r1086 : RT τ1077 := tτ.call f1079 (by decide) (by decide)
          have r1087 : CA τ1077 S I := cτ.fr f1079 (by decide) (by decide)
          have r1088 : RI τ1077 := jτ.call f1079 (by decide) (by decide)
          have r1089 : ST τ1077 := oτ.call f1079 (by decide) (by decide)
          show MW p l e _ s m _ below meth c _ 4 G (250 + 8 * y3.toInt.toNat) (5300 + 24 * y3.toInt.toNat) 978 [some (.ref b), some (.ref (G.1 0 0)), some (.ref (G.1 22 0)), some (.int y3)] [.int x1080] τ1077
          refine m_pop C dL_law_978 rfl ?_
          refine m_aload_n C dL_law_979 rfl rfl ?_
          refine m_aload_n C dL_law_980 rfl rfl ?_
          refine m_iload_n C dL_law_981 rfl rfl ?_
          refine m_iconst (v := 1) C dL_law_982 (by decide) ?_
          refine m_iadd C dL_law_983 ?_
          refine m_topi (fun x1090 ex1090 => ?_)
          have tx1090 : x1090.toInt = y3.toInt + 1 := by rw [ex1090, ti_addv b8 kc_1 (by decide), kt_1]
          have b1091 : IV x1090 1 3067 := by rw [ex1090]; exact iv_add b8 kc_1 (by decide)
          refine m_sld C hX hbl hbA ⟨by omega, by omega⟩ dL_law_984 ?_
          refine m_eqs (w := x1076) (by rw [ex1076, show x1090.toInt.toNat = x1074.toInt.toNat by omega]) ?_
          refine m_callV (n := 1) (ci := 11) (st := []) C (c_X12_trace l G τ1077 (x1076) i1078 ) (by decide) (by decide) rfl rfl rfl q5_213 q5_210 q5_211 q5_212 q1_7 (by decide +kernel) rfl (by decide) ⟨by show (250 + 8 * y3.toInt.toNat) + 0 ≤ 600000; omega, by show (5300 + 24 * y3.toInt.toNat) + 0 ≤ 7302250; omega⟩ rfl (Nat.le_of_ble_eq_true rfl) dL_law_985 ?_
          rintro _ τ1092 ⟨x1095, rfl, i1093, f1094, b1096⟩
          have r1099 : Rel τ1092 := r1085.call f1094 (by decide) (by decide)
          have r1100 : RT τ1092 := r1086.call f1094 (by decide) (by decide)
          have r1101 : CA τ1092 S I := r1087.fr f1094 (by decide) (by decide)
          have r1102 : MA τ1092 S I := r1084.fr i1078 f1094 (by decide) (by decide)
          have r1103 : RI τ1092 := r1088.call f1094 (by decide) (by decide)
          have r1104 : ST τ1092 := r1089.call f1094 (by decide) (by decide)
          show MW p l e _ s m _ below meth c _ 4 G (250 + 8 * y3.toInt.toNat) (5300 + 24 * y3.toInt.toNat) 988 [some (.ref b), some (.ref (G.1 0 0)), some (.ref (G.1 22 0)), some (.int y3)] [.int x1095] τ1092
          refine m_pop C dL_law_988 rfl ?_
          refine m_goto (tgt := 1028) C dL_law_989 (by decide) ?_
          obtain ⟨x1105, ex1105⟩ : ∃ y : Int32, y = y3 + 6 := ⟨_, rfl⟩
          have tx1105 : x1105.toInt = y3.toInt + 6 := by rw [ex1105, ti_addv b8 kc_6 (by decide), kt_6]
          have b1106 : IV x1105 6 3072 := by rw [ex1105]; exact iv_add b8 kc_6 (by decide)
          refine m_iinc (v := x1105) (L1 := [some (.ref b), some (.ref (G.1 0 0)), some (.ref (G.1 22 0)), some (.int x1105)]) C dL_law_1028 rfl (by rw [ex1105]; rfl) (by decide) rfl rfl ?_
          refine m_goto (tgt := 18) C dL_law_1031 (by decide) ?_
          refine m_widen (c2 := 250 + 8 * x1105.toInt.toNat) (s2 := 5300 + 24 * x1105.toInt.toNat) (by omega) (by omega) ?_
          exact ih18 τ1092 x1105 S I i1093 r1099 r1100 r1101 r1102 r1103 r1104 (iv_wk b1106 (by decide)) (by have q := hm18; omega)
        by_cases s1107 : x11.toInt = 28
        · refine m_tableIn (tgt := 992) (off := 959) C dL_law_33 (by omega) (by omega) (by rw [s1107]; rfl) (by decide) ?_
          have b1108 : IV x11 28 28 := ⟨by omega, by omega⟩
          refine m_aload_n C dL_law_992 rfl rfl ?_
          refine m_aload_n C dL_law_993 rfl rfl ?_
          refine m_iload_n C dL_law_994 rfl rfl ?_
          refine m_iconst (v := 1) C dL_law_995 (by decide) ?_
          refine m_iadd C dL_law_996 ?_
          refine m_topi (fun x1109 ex1109 => ?_)
          have tx1109 : x1109.toInt = y3.toInt + 1 := by rw [ex1109, ti_addv b8 kc_1 (by decide), kt_1]
          have b1110 : IV x1109 1 3067 := by rw [ex1109]; exact iv_add b8 kc_1 (by decide)
          refine m_sld C hX hbl hbA ⟨by omega, by omega⟩ dL_law_997 ?_
          refine m_topi (fun x1111 ex1111 => ?_)
          refine m_callV (n := 1) (ci := 10) (st := []) C (c_X11_count l G τ (x1111) iτ ) (by decide) (by decide) rfl rfl rfl q4_101 q4_98 q4_99 q4_100 q1_1 (by decide +kernel) rfl (by decide) ⟨by show (250 + 8 * y3.toInt.toNat) + 0 ≤ 600000; omega, by show (5300 + 24 * y3.toInt.toNat) + 0 ≤ 7302250; omega⟩ rfl (Nat.le_of_ble_eq_true rfl) dL_law_998 ?_
          rintro _ τ1112 ⟨x1115, rfl, i1113, f1114, b1116⟩
          have r1119 : MA τ1112 S I := mτ.fr iτ f1114 (by decide) (by decide)
          have r1120 : Rel τ1112 := rτ.call f1114 (by decide) (by decide)
          have r1121 : RT τ1112 := tτ.call f1114 (by decide) (by decide)
          have r1122 : CA τ1112 S I := cτ.fr f1114 (by decide) (by decide)
          have r1123 : RI τ1112 := jτ.call f1114 (by decide) (by decide)
          have r1124 : ST τ1112 := oτ.call f1114 (by decide) (by decide)
          show MW p l e _ s m _ below meth c _ 4 G (250 + 8 * y3.toInt.toNat) (5300 + 24 * y3.toInt.toNat) 1001 [some (.ref b), some (.ref (G.1 0 0)), some (.ref (G.1 22 0)), some (.int y3)] [.int x1115] τ1112
          refine m_pop C dL_law_1001 rfl ?_
          refine m_aload_n C dL_law_1002 rfl rfl ?_
          refine m_aload_n C dL_law_1003 rfl rfl ?_
          refine m_iload_n C dL_law_1004 rfl rfl ?_
          refine m_iconst (v := 1) C dL_law_1005 (by decide) ?_
          refine m_iadd C dL_law_1006 ?_
          refine m_topi (fun x1125 ex1125 => ?_)
          have tx1125 : x1125.toInt = y3.toInt + 1 := by rw [ex1125, ti_addv b8 kc_1 (by decide), kt_1]
          have b1126 : IV x1125 1 3067 := by rw [ex1125]; exact iv_add b8 kc_1 (by decide)
          refine m_sld C hX hbl hbA ⟨by omega, by omega⟩ dL_law_1007 ?_
          refine m_eqs (w := x1111) (by rw [ex1111, show x1125.toInt.toNat = x1109.toInt.toNat by omega]) ?_
          refine m_callV (n := 1) (ci := 11) (st := []) C (c_X12_count l G τ1112 (x1111) i1113 ) (by decide) (by decide) rfl rfl rfl q5_217 q5_214 q5_215 q5_216 q1_7 (by decide +kernel) rfl (by decide) ⟨by show (250 + 8 * y3.toInt.toNat) + 0 ≤ 600000; omega, by show (5300 + 24 * y3.toInt.toNat) + 0 ≤ 7302250; omega⟩ rfl (Nat.le_of_ble_eq_true rfl) dL_law_1008 ?_
          rintro _ τ1127 ⟨x1130, rfl, i1128, f1129, b1131⟩
          have r1134 : Rel τ1127 := r1120.call f1129 (by decide) (by decide)
          have r1135 : RT τ1127 := r1121.call f1129 (by decide) (by decide)
          have r1136 : CA τ1127 S I := r1122.fr f1129 (by decide) (by decide)
          have r1137 : MA τ1127 S I := r1119.fr i1113 f1129 (by decide) (by decide)
          have r1138 : RI τ1127 := r1123.call f1129 (by decide) (by decide)
          have r1139 : ST τ1127 := r1124.call f1129 (by decide) (by decide)
          show MW p l e _ s m _ below meth c _ 4 G (250 + 8 * y3.toInt.toNat) (5300 + 24 * y3.toInt.toNat) 1011 [some (.ref b), some (.ref (G.1 0 0)), some (.ref (G.1 22 0)), some (.int y3)] [.int x1130] τ1127
          refine m_pop C dL_law_1011 rfl ?_
          refine m_goto (tgt := 1028) C dL_law_1012 (by decide) ?_
          obtain ⟨x1140, ex1140⟩ : ∃ y : Int32, y = y3 + 6 := ⟨_, rfl⟩
          have tx1140 : x1140.toInt = y3.toInt + 6 := by rw [ex1140, ti_addv b8 kc_6 (by decide), kt_6]
          have b1141 : IV x1140 6 3072 := by rw [ex1140]; exact iv_add b8 kc_6 (by decide)
          refine m_iinc (v := x1140) (L1 := [some (.ref b), some (.ref (G.1 0 0)), some (.ref (G.1 22 0)), some (.int x1140)]) C dL_law_1028 rfl (by rw [ex1140]; rfl) (by decide) rfl rfl ?_
          refine m_goto (tgt := 18) C dL_law_1031 (by decide) ?_
          refine m_widen (c2 := 250 + 8 * x1140.toInt.toNat) (s2 := 5300 + 24 * x1140.toInt.toNat) (by omega) (by omega) ?_
          exact ih18 τ1127 x1140 S I i1128 r1134 r1135 r1136 r1137 r1138 r1139 (iv_wk b1141 (by decide)) (by have q := hm18; omega)
        by_cases s1142 : x11.toInt = 29
        · refine m_tableIn (tgt := 1015) (off := 982) C dL_law_33 (by omega) (by omega) (by rw [s1142]; rfl) (by decide) ?_
          have b1143 : IV x11 29 29 := ⟨by omega, by omega⟩
          refine m_aload_n C dL_law_1015 rfl rfl ?_
          refine m_callV (n := 0) (ci := 10) (st := []) C (c_X11_statusQ l G τ  iτ ) (by decide) (by decide) rfl rfl rfl q4_109 q4_106 q4_107 q4_108 q1_1 (by decide +kernel) rfl (by decide) ⟨by show (250 + 8 * y3.toInt.toNat) + 0 ≤ 600000; omega, by show (5300 + 24 * y3.toInt.toNat) + 0 ≤ 7302250; omega⟩ rfl (Nat.le_of_ble_eq_true rfl) dL_law_1016 ?_
          rintro _ τ1144 ⟨x1147, rfl, i1145, f1146, b1148, h1150⟩
          have r1151 : MA τ1144 S I := mτ.fr iτ f1146 (by decide) (by decide)
          have r1152 : RT τ1144 := tτ.call f1146 (by decide) (by decide)
          have r1153 : CA τ1144 S I := cτ.fr f1146 (by decide) (by decide)
          have z1154 := Hid.mk h1150
          clear h1150
          have r1155 : Rel τ1144 := rτ.call f1146 (by decide) (by decide)
          have r1156 : RI τ1144 := jτ.call f1146 (by decide) (by decide)
          have r1157 : ST τ1144 := oτ.call f1146 (by decide) (by decide)
          show MW p l e _ s m _ below meth c _ 4 G (250 + 8 * y3.toInt.toNat) (5300 + 24 * y3.toInt.toNat) 1019 [some (.ref b), some (.ref (G.1 0 0)), some (.ref (G.1 22 0)), some (.int y3)] [.int x1147] τ1144
          refine m_aload_n C dL_law_1019 rfl rfl ?_
          refine m_callV (n := 0) (ci := 11) (st := [.int x1147]) C (c_X12_statusQ l G τ1144  i1145 ) (by decide) (by decide) rfl rfl rfl q5_221 q5_218 q5_219 q5_220 q1_7 (by decide +kernel) rfl (by decide) ⟨by show (250 + 8 * y3.toInt.toNat) + 0 ≤ 600000; omega, by show (5300 + 24 * y3.toInt.toNat) + 0 ≤ 7302250; omega⟩ rfl (Nat.le_of_ble_eq_true rfl) dL_law_1020 ?_
          rintro _ τ1158 ⟨x1161, rfl, i1159, f1160, b1162, h1164⟩
          have r1166 : RT τ1158 := r1152.call f1160 (by decide) (by decide)
          have r1167 : CA τ1158 S I := r1153.fr f1160 (by decide) (by decide)
          have r1168 : MA τ1158 S I := r1151.fr i1145 f1160 (by decide) (by decide)
          have r1169 : Rel τ1158 := r1155.call f1160 (by decide) (by decide)
          have r1170 : RI τ1158 := r1156.call f1160 (by decide) (by decide)
          have g1165 := RQ.statusB oτ f1146 z1154 h1164
          have r1171 : ST τ1158 := r1157.call f1160 (by decide) (by decide)
          clear h1164 z1154
          show MW p l e _ s m _ below meth c _ 4 G (250 + 8 * y3.toInt.toNat) (5300 + 24 * y3.toInt.toNat) 1023 [some (.ref b), some (.ref (G.1 0 0)), some (.ref (G.1 22 0)), some (.int y3)] [.int x1161, .int x1147] τ1158
          refine m_icmp_eq (tgt := 1028) C dL_law_1023 (by decide) (fun c1172 => ?_) (fun c1172 => ?_)
          · have f1173 : x1147.toInt = x1161.toInt := by
              have q : _ := c1172
              simp only [ti_nle, ti_nlt, ti_le, ti_lt, ti_eq, ti_ne, Classical.not_not] at q
              omega
            obtain ⟨x1174, ex1174⟩ : ∃ y : Int32, y = y3 + 6 := ⟨_, rfl⟩
            have tx1174 : x1174.toInt = y3.toInt + 6 := by rw [ex1174, ti_addv b8 kc_6 (by decide), kt_6]
            have b1175 : IV x1174 6 3072 := by rw [ex1174]; exact iv_add b8 kc_6 (by decide)
            refine m_iinc (v := x1174) (L1 := [some (.ref b), some (.ref (G.1 0 0)), some (.ref (G.1 22 0)), some (.int x1174)]) C dL_law_1028 rfl (by rw [ex1174]; rfl) (by decide) rfl rfl ?_
            refine m_goto (tgt := 18) C dL_law_1031 (by decide) ?_
            refine m_widen (c2 := 250 + 8 * x1174.toInt.toNat) (s2 := 5300 + 24 * x1174.toInt.toNat) (by omega) (by omega) ?_
            exact ih18 τ1158 x1174 S I i1159 r1169 r1166 r1167 r1168 r1170 r1171 (iv_wk b1175 (by decide)) (by have q := hm18; omega)
          · have f1176 : x1147.toInt ≠ x1161.toInt := by
              have q : _ := c1172
              simp only [ti_nle, ti_nlt, ti_le, ti_lt, ti_eq, ti_ne, Classical.not_not] at q
              omega
            exfalso
            omega
        exact absurd s13 (by omega)
end LAW
