def Hid (P : Prop) : Prop := P
theorem Hid.mk {P : Prop} (h : P) : Hid P := h
theorem RT.faultB {σ τ : Sg} {r1 r2 : Int32} (h : RT σ) (f1 : Fr MS_X11_faultT AS_X11_faultT σ τ) (hC : r1.toInt = (gV σ 12 0 2).toInt) (hM : r2.toInt = (gV τ 22 0 7).toInt) : r1.toInt = r2.toInt := by
  rw [hC, hM, f1.1 22 0 7 (by decide) (by decide)]
  exact h.2
theorem RS.imageB {τ υ : Sg} {S : Stt} {I : Nat → Stt} {a1 r1 r2 : Int32} (f2 : Fr MS_X12_imageS AS_X12_imageS τ υ) (hC : (((a1.toInt < 0 ∨ 1 < a1.toInt) ∧ r1.toInt = -1000001 ∧ CA τ S I) ∨ ((0 ≤ a1.toInt ∧ a1.toInt ≤ 1) ∧ S.1 ≤ 0 ∧ r1.toInt = -1000002 ∧ CA τ S I) ∨ ((0 ≤ a1.toInt ∧ a1.toInt ≤ 1) ∧ 0 < S.1 ∧ r1.toInt = 1 ∧ CA τ S (upI I (a1.toInt.toNat) S)))) (hM : (((a1.toInt < 0 ∨ 1 < a1.toInt) ∧ r2.toInt = -1000001 ∧ MA υ S I) ∨ ((0 ≤ a1.toInt ∧ a1.toInt ≤ 1) ∧ S.1 ≤ 0 ∧ r2.toInt = -1000002 ∧ MA υ S I) ∨ ((0 ≤ a1.toInt ∧ a1.toInt ≤ 1) ∧ 0 < S.1 ∧ r2.toInt = 1 ∧ MA υ S (upI I (a1.toInt.toNat) S)))) : ∃ I5, CA υ S I5 ∧ MA υ S I5 ∧ r1.toInt = r2.toInt := by
  rcases hC with ⟨c1, c2, c4⟩ | ⟨c1, c2, c3, c4⟩ | ⟨c1, c2, c3, c4⟩ <;> rcases hM with ⟨m1, m2, m4⟩ | ⟨m1, m2, m3, m4⟩ | ⟨m1, m2, m3, m4⟩
  · exact ⟨_, CA.fr c4 f2 (by decide) (by decide), m4, by omega⟩
  · exfalso; omega
  · exfalso; omega
  · exfalso; omega
  · exact ⟨_, CA.fr c4 f2 (by decide) (by decide), m4, by omega⟩
  · exfalso; omega
  · exfalso; omega
  · exfalso; omega
  · exact ⟨_, CA.fr c4 f2 (by decide) (by decide), m4, by omega⟩
theorem RS.restoreB {τ υ : Sg} {S : Stt} {I : Nat → Stt} {a1 r1 r2 : Int32} (f2 : Fr MS_X12_restoreS AS_X12_restoreS τ υ) (hC : (((a1.toInt < 0 ∨ 1 < a1.toInt) ∧ r1.toInt = -1000001 ∧ CA τ S I) ∨ ((0 ≤ a1.toInt ∧ a1.toInt ≤ 1) ∧ (I (a1.toInt.toNat)).1 ≤ 0 ∧ r1.toInt = -1000002 ∧ CA τ S I) ∨ ((0 ≤ a1.toInt ∧ a1.toInt ≤ 1) ∧ 0 < (I (a1.toInt.toNat)).1 ∧ r1.toInt = 1 ∧ CA τ (I (a1.toInt.toNat)) I))) (hM : (((a1.toInt < 0 ∨ 1 < a1.toInt) ∧ r2.toInt = -1000001 ∧ MA υ S I) ∨ ((0 ≤ a1.toInt ∧ a1.toInt ≤ 1) ∧ (I (a1.toInt.toNat)).1 ≤ 0 ∧ r2.toInt = -1000002 ∧ MA υ S I) ∨ ((0 ≤ a1.toInt ∧ a1.toInt ≤ 1) ∧ 0 < (I (a1.toInt.toNat)).1 ∧ r2.toInt = 1 ∧ MA υ (I (a1.toInt.toNat)) I))) : ∃ S5, CA υ S5 I ∧ MA υ S5 I ∧ r1.toInt = r2.toInt := by
  rcases hC with ⟨c1, c2, c4⟩ | ⟨c1, c2, c3, c4⟩ | ⟨c1, c2, c3, c4⟩ <;> rcases hM with ⟨m1, m2, m4⟩ | ⟨m1, m2, m3, m4⟩ | ⟨m1, m2, m3, m4⟩
  · exact ⟨_, CA.fr c4 f2 (by decide) (by decide), m4, by omega⟩
  · exfalso; omega
  · exfalso; omega
  · exfalso; omega
  · exact ⟨_, CA.fr c4 f2 (by decide) (by decide), m4, by omega⟩
  · exfalso; omega
  · exfalso; omega
  · exfalso; omega
  · exact ⟨_, CA.fr c4 f2 (by decide) (by decide), m4, by omega⟩
theorem RS.kindB {S : Stt} {a1 r1 r2 : Int32} (hC : (((a1.toInt < 0 ∨ S.2.1 ≤ a1.toInt) ∧ r1.toInt = -1000001) ∨ ((0 ≤ a1.toInt ∧ a1.toInt < S.2.1) ∧ r1.toInt = (S.2.2 a1.toInt.toNat).1))) (hM : (((a1.toInt < 0 ∨ S.2.1 ≤ a1.toInt) ∧ r2.toInt = -1000001) ∨ ((0 ≤ a1.toInt ∧ a1.toInt < S.2.1) ∧ r2.toInt = (S.2.2 a1.toInt.toNat).1))) : r1.toInt = r2.toInt := by omega
theorem RS.asB {S : Stt} {a1 a2 r1 r2 : Int32} (hC : ((((a1.toInt < 0 ∨ S.2.1 ≤ a1.toInt) ∨ a2.toInt < 0 ∨ 5 < a2.toInt) ∧ r1.toInt = -1000001) ∨ ((0 ≤ a1.toInt ∧ a1.toInt < S.2.1) ∧ 0 ≤ a2.toInt ∧ a2.toInt ≤ 5 ∧ (a2.toInt = 0 ∨ (S.2.2 a1.toInt.toNat).1 = a2.toInt ∨ (a2.toInt = 1 ∧ (S.2.2 a1.toInt.toNat).1 ≤ 3) ∨ (a2.toInt = 4 ∧ (S.2.2 a1.toInt.toNat).1 = 5)) ∧ r1.toInt = a1.toInt) ∨ ((0 ≤ a1.toInt ∧ a1.toInt < S.2.1) ∧ 0 ≤ a2.toInt ∧ a2.toInt ≤ 5 ∧ ¬ (a2.toInt = 0 ∨ (S.2.2 a1.toInt.toNat).1 = a2.toInt ∨ (a2.toInt = 1 ∧ (S.2.2 a1.toInt.toNat).1 ≤ 3) ∨ (a2.toInt = 4 ∧ (S.2.2 a1.toInt.toNat).1 = 5)) ∧ r1.toInt = -1000013))) (hM : ((((a1.toInt < 0 ∨ S.2.1 ≤ a1.toInt) ∨ a2.toInt < 0 ∨ 5 < a2.toInt) ∧ r2.toInt = -1000001) ∨ ((0 ≤ a1.toInt ∧ a1.toInt < S.2.1) ∧ 0 ≤ a2.toInt ∧ a2.toInt ≤ 5 ∧ (a2.toInt = 0 ∨ (S.2.2 a1.toInt.toNat).1 = a2.toInt ∨ (a2.toInt = 1 ∧ (S.2.2 a1.toInt.toNat).1 ≤ 3) ∨ (a2.toInt = 4 ∧ (S.2.2 a1.toInt.toNat).1 = 5)) ∧ r2.toInt = a1.toInt) ∨ ((0 ≤ a1.toInt ∧ a1.toInt < S.2.1) ∧ 0 ≤ a2.toInt ∧ a2.toInt ≤ 5 ∧ ¬ (a2.toInt = 0 ∨ (S.2.2 a1.toInt.toNat).1 = a2.toInt ∨ (a2.toInt = 1 ∧ (S.2.2 a1.toInt.toNat).1 ≤ 3) ∨ (a2.toInt = 4 ∧ (S.2.2 a1.toInt.toNat).1 = 5)) ∧ r2.toInt = -1000013))) : r1.toInt = r2.toInt := by omega
abbrev MS_X11_statusQ : List (Nat × Nat) := []
abbrev AS_X11_statusQ : List Nat := []
set_option maxHeartbeats 4000000 in
set_option maxRecDepth 100000 in
theorem c_X11_statusQ (l : Launch) (G : Gt) (σ : Sg) (hI : Inv σ) : Mc l G yX11_status cX11_status 1 (some .int) 0 0 0 0 [.ref (G.1 0 0)] σ (PI fun r τ => Inv τ ∧ Fr MS_X11_statusQ AS_X11_statusQ σ τ ∧ IV r (-2147483648) 2147483647 ∧ r.toInt = (gV σ 0 0 12).toInt) := by
  refine Mc.of (L0 := [some (.ref (G.1 0 0))]) (by decide) (Nat.le_of_ble_eq_true rfl) rfl ?_
  intro p e s m args below meth c C hr hlk
  have C : Cx p s m args c cX11_status 1 "LeanTower" := C
  have k0 : (0 : Int32).toInt = 0 := by decide
  have k1 : (1 : Int32).toInt = 1 := by decide
  refine m_aload_n C dX11_status_0 rfl rfl ?_
  refine g_0_12 C q1_198 dX11_status_1 ?_
  refine m_eqs (w := (gV σ 0 0 12)) rfl ?_
  exact m_iret C hr hlk (by decide) (by decide) dX11_status_4 ⟨_, rfl, hI, Fr.rf, (iv_any (gV σ 0 0 12)), (by omega)⟩

abbrev MS_X12_statusQ : List (Nat × Nat) := []
abbrev AS_X12_statusQ : List Nat := []
set_option maxHeartbeats 4000000 in
set_option maxRecDepth 100000 in
theorem c_X12_statusQ (l : Launch) (G : Gt) (σ : Sg) (hI : Inv σ) : Mc l G yX12_status cX12_status 1 (some .int) 0 0 0 0 [.ref (G.1 22 0)] σ (PI fun r τ => Inv τ ∧ Fr MS_X12_statusQ AS_X12_statusQ σ τ ∧ IV r (-2147483648) 2147483647 ∧ r.toInt = (gV σ 22 0 8).toInt) := by
  refine Mc.of (L0 := [some (.ref (G.1 22 0))]) (by decide) (Nat.le_of_ble_eq_true rfl) rfl ?_
  intro p e s m args below meth c C hr hlk
  have C : Cx p s m args c cX12_status 1 "LeanTowerModel" := C
  have k0 : (0 : Int32).toInt = 0 := by decide
  have k1 : (1 : Int32).toInt = 1 := by decide
  refine m_aload_n C dX12_status_0 rfl rfl ?_
  refine g_22_8 C q4_124 dX12_status_1 ?_
  refine m_eqs (w := (gV σ 22 0 8)) rfl ?_
  exact m_iret C hr hlk (by decide) (by decide) dX12_status_4 ⟨_, rfl, hI, Fr.rf, (iv_any (gV σ 22 0 8)), (by omega)⟩

/-- the latest findings agree -/
def ST (σ : Sg) : Prop := (gV σ 0 0 12).toInt = (gV σ 22 0 8).toInt
theorem ST.call {M : List (Nat × Nat)} {A : List Nat} {σ τ : Sg} (h : ST σ) (f : Fr M A σ τ) (hm : (M.contains (0, 12) || M.contains (22, 8)) = false) (ha : (A.contains 0 || A.contains 22) = false) : ST τ := by
  rw [Bool.or_eq_false_iff] at hm ha
  have n : ∀ q, M.contains q = false → q ∉ M := fun q hq z => by rw [List.contains_iff_mem.mpr z] at hq; exact absurd hq (by decide)
  have a : ∀ q, A.contains q = false → q ∉ A := fun q hq z => by rw [List.contains_iff_mem.mpr z] at hq; exact absurd hq (by decide)
  unfold ST
  rw [f.1 0 0 12 (n _ hm.1) (a _ ha.1), f.1 22 0 8 (n _ hm.2) (a _ ha.2)]
  exact h
theorem RQ.rowB {σ τ υ : Sg} {a1 a2 a3 r1 r2 : Int32} (h : Rel σ) (hI : Inv σ) (hi : RI σ) (hs : ST σ) (f1 : Fr MS_X11_rowQ AS_X11_rowQ σ τ) (f2 : Fr MS_X12_rowQ AS_X12_rowQ τ υ) (c0 : (((a1.toInt < 0 ∨ 7 < a1.toInt ∨ a2.toInt < 0 ∨ 2 < a2.toInt ∨ 40 < a3.toInt) ∧ r1.toInt = -1000001 ∧ SameR σ τ) ∨ ((0 ≤ a1.toInt ∧ a1.toInt ≤ 7 ∧ 0 ≤ a2.toInt ∧ a2.toInt ≤ 2 ∧ a3.toInt < 0) ∧ r1.toInt = -1000014 ∧ SameR σ τ) ∨ ((0 ≤ a1.toInt ∧ a1.toInt ≤ 7 ∧ 0 ≤ a2.toInt ∧ a2.toInt ≤ 2 ∧ 0 ≤ a3.toInt ∧ a3.toInt ≤ 40) ∧ r1.toInt = a3.toInt ∧ BG σ τ (a1.toInt.toNat) a2 a3))) (c1 : (((a1.toInt < 0 ∨ 7 < a1.toInt ∨ a2.toInt < 0 ∨ 2 < a2.toInt ∨ 40 < a3.toInt) → (gV τ 0 0 12).toInt = (gV σ 0 0 12).toInt) ∧ (((0 ≤ a1.toInt ∧ a1.toInt ≤ 7 ∧ 0 ≤ a2.toInt ∧ a2.toInt ≤ 2) ∧ a3.toInt < 0) → (gV τ 0 0 12).toInt = 4) ∧ (((0 ≤ a1.toInt ∧ a1.toInt ≤ 7 ∧ 0 ≤ a2.toInt ∧ a2.toInt ≤ 2) ∧ 0 ≤ a3.toInt ∧ a3.toInt ≤ 40) → (gV τ 0 0 12).toInt = 0))) (c2 : ((((0 ≤ a1.toInt ∧ a1.toInt ≤ 7 ∧ 0 ≤ a2.toInt ∧ a2.toInt ≤ 2) ∧ 0 ≤ a3.toInt ∧ a3.toInt ≤ 40) → IZ σ τ (a1.toInt.toNat) 40) ∧ (¬ ((0 ≤ a1.toInt ∧ a1.toInt ≤ 7 ∧ 0 ≤ a2.toInt ∧ a2.toInt ≤ 2) ∧ 0 ≤ a3.toInt ∧ a3.toInt ≤ 40) → SameI σ τ))) (m0 : (((a1.toInt < 0 ∨ 7 < a1.toInt ∨ a2.toInt < 0 ∨ 2 < a2.toInt ∨ 40 < a3.toInt) ∧ r2.toInt = -1000001 ∧ SameL τ υ) ∨ ((0 ≤ a1.toInt ∧ a1.toInt ≤ 7 ∧ 0 ≤ a2.toInt ∧ a2.toInt ≤ 2 ∧ a3.toInt < 0) ∧ r2.toInt = -1000014 ∧ SameL τ υ) ∨ ((0 ≤ a1.toInt ∧ a1.toInt ≤ 7 ∧ 0 ≤ a2.toInt ∧ a2.toInt ≤ 2 ∧ 0 ≤ a3.toInt ∧ a3.toInt ≤ 40) ∧ r2.toInt = a3.toInt ∧ LU τ υ (a1.toInt.toNat) a2 a3))) (m1 : (((a1.toInt < 0 ∨ 7 < a1.toInt ∨ a2.toInt < 0 ∨ 2 < a2.toInt ∨ 40 < a3.toInt) → (gV υ 22 0 8).toInt = (gV τ 22 0 8).toInt) ∧ (((0 ≤ a1.toInt ∧ a1.toInt ≤ 7 ∧ 0 ≤ a2.toInt ∧ a2.toInt ≤ 2) ∧ a3.toInt < 0) → (gV υ 22 0 8).toInt = 4) ∧ (((0 ≤ a1.toInt ∧ a1.toInt ≤ 7 ∧ 0 ≤ a2.toInt ∧ a2.toInt ≤ 2) ∧ 0 ≤ a3.toInt ∧ a3.toInt ≤ 40) → (gV υ 22 0 8).toInt = 0))) (m2 : ((((0 ≤ a1.toInt ∧ a1.toInt ≤ 7 ∧ 0 ≤ a2.toInt ∧ a2.toInt ≤ 2) ∧ 0 ≤ a3.toInt ∧ a3.toInt ≤ 40) → JZ τ υ (40 * (a1.toInt.toNat)) a3.toInt.toNat) ∧ (¬ ((0 ≤ a1.toInt ∧ a1.toInt ≤ 7 ∧ 0 ≤ a2.toInt ∧ a2.toInt ≤ 2) ∧ 0 ≤ a3.toInt ∧ a3.toInt ≤ 40) → SameJ τ υ))) : RI υ ∧ ST υ := by
  have e2 : SameJ σ τ := fun k => f1.1 25 0 k (by simp) (by decide)
  have e1 : SameI τ υ := fun j i => f2.1 21 j i (by simp) (by decide)
  have s1 : (gV υ 0 0 12).toInt = (gV τ 0 0 12).toInt := congrArg Int32.toInt (f2.1 0 0 12 (by decide) (by decide))
  have s2 : (gV τ 22 0 8).toInt = (gV σ 22 0 8).toInt := congrArg Int32.toInt (f1.1 22 0 8 (by decide) (by decide))
  have s3 : (gV σ 0 0 12).toInt = (gV σ 22 0 8).toInt := hs
  have e3 : SameL σ τ := SameL.rf.fr f1 (by simp) (by decide)
  refine ⟨?_, by show (gV υ 0 0 12).toInt = (gV υ 22 0 8).toInt; omega⟩
  by_cases g : ((0 ≤ a1.toInt ∧ a1.toInt ≤ 7 ∧ 0 ≤ a2.toInt ∧ a2.toInt ≤ 2) ∧ 0 ≤ a3.toInt ∧ a3.toInt ≤ 40)
  · rcases m0 with ⟨m, _⟩ | ⟨m, _⟩ | ⟨_, _, u⟩
    · exfalso; omega
    · exfalso; omega
    · exact hi.begin hI (c2.1 g) e1 e2 e3 (m2.1 g) u (by omega)
  · have k : SameL τ υ := by
      rcases m0 with ⟨_, _, u⟩ | ⟨_, _, u⟩ | ⟨q, _⟩
      · exact u
      · exact u
      · exfalso; omega
    exact hi.same (fun j i => (e1 j i).trans (c2.2 g j i)) (fun q => (m2.2 g q).trans (e2 q)) (fun q => ⟨(k q).1.trans (e3 q).1, (k q).2.trans (e3 q).2⟩)
theorem RQ.setB {σ τ υ : Sg} {a1 a2 a3 r1 r2 : Int32} (h : Rel σ) (hI : Inv σ) (hi : RI σ) (hs : ST σ) (f1 : Fr MS_X11_setQ AS_X11_setQ σ τ) (f2 : Fr MS_X12_setQ AS_X12_setQ τ υ) (c0 : (((a1.toInt < 0 ∨ 7 < a1.toInt) ∧ r1.toInt = -1000001) ∨ ((0 ≤ a1.toInt ∧ a1.toInt ≤ 7) ∧ (gV σ 20 (a1.toInt.toNat) 1).toInt = -1 ∧ r1.toInt = -1000011) ∨ ((0 ≤ a1.toInt ∧ a1.toInt ≤ 7) ∧ ¬ ((gV σ 20 (a1.toInt.toNat) 1).toInt = -1) ∧ (a2.toInt < 0 ∨ (gV σ 20 (a1.toInt.toNat) 2).toInt ≤ a2.toInt) ∧ r1.toInt = -1000012) ∨ ((0 ≤ a1.toInt ∧ a1.toInt ≤ 7) ∧ ¬ ((gV σ 20 (a1.toInt.toNat) 1).toInt = -1) ∧ 0 ≤ a2.toInt ∧ a2.toInt < (gV σ 20 (a1.toInt.toNat) 2).toInt ∧ r1.toInt = (cutF (gV σ 20 (a1.toInt.toNat) 1) a3).toInt))) (c1 : (((a1.toInt < 0 ∨ 7 < a1.toInt) → (gV τ 0 0 12).toInt = (gV σ 0 0 12).toInt) ∧ (((0 ≤ a1.toInt ∧ a1.toInt ≤ 7) ∧ (gV σ 20 (a1.toInt.toNat) 1).toInt = -1) → (gV τ 0 0 12).toInt = 1) ∧ (((0 ≤ a1.toInt ∧ a1.toInt ≤ 7) ∧ ¬ ((gV σ 20 (a1.toInt.toNat) 1).toInt = -1) ∧ (a2.toInt < 0 ∨ (gV σ 20 (a1.toInt.toNat) 2).toInt ≤ a2.toInt)) → (gV τ 0 0 12).toInt = 2) ∧ (((0 ≤ a1.toInt ∧ a1.toInt ≤ 7) ∧ ¬ ((gV σ 20 (a1.toInt.toNat) 1).toInt = -1) ∧ 0 ≤ a2.toInt ∧ a2.toInt < (gV σ 20 (a1.toInt.toNat) 2).toInt) → (gV τ 0 0 12).toInt = 0))) (c2 : ((((0 ≤ a1.toInt ∧ a1.toInt ≤ 7) ∧ ¬ ((gV σ 20 (a1.toInt.toNat) 1).toInt = -1) ∧ 0 ≤ a2.toInt ∧ a2.toInt < (gV σ 20 (a1.toInt.toNat) 2).toInt) → ∃ v : Int32, v.toInt = r1.toInt ∧ I1 σ τ (a1.toInt.toNat) (a2.toInt.toNat) v) ∧ (¬ ((0 ≤ a1.toInt ∧ a1.toInt ≤ 7) ∧ ¬ ((gV σ 20 (a1.toInt.toNat) 1).toInt = -1) ∧ 0 ≤ a2.toInt ∧ a2.toInt < (gV σ 20 (a1.toInt.toNat) 2).toInt) → SameI σ τ))) (m0 : (((a1.toInt < 0 ∨ 7 < a1.toInt) ∧ r2.toInt = -1000001) ∨ ((0 ≤ a1.toInt ∧ a1.toInt ≤ 7) ∧ (gV τ 26 0 (a1.toInt.toNat)).toInt < 0 ∧ r2.toInt = -1000011) ∨ ((0 ≤ a1.toInt ∧ a1.toInt ≤ 7) ∧ ¬ ((gV τ 26 0 (a1.toInt.toNat)).toInt < 0) ∧ (a2.toInt < 0 ∨ (gV τ 27 0 (a1.toInt.toNat)).toInt ≤ a2.toInt) ∧ r2.toInt = -1000012) ∨ ((0 ≤ a1.toInt ∧ a1.toInt ≤ 7) ∧ ¬ ((gV τ 26 0 (a1.toInt.toNat)).toInt < 0) ∧ 0 ≤ a2.toInt ∧ a2.toInt < (gV τ 27 0 (a1.toInt.toNat)).toInt ∧ r2.toInt = (cutF (gV τ 26 0 (a1.toInt.toNat)) a3).toInt))) (m1 : (((a1.toInt < 0 ∨ 7 < a1.toInt) → (gV υ 22 0 8).toInt = (gV τ 22 0 8).toInt) ∧ (((0 ≤ a1.toInt ∧ a1.toInt ≤ 7) ∧ (gV τ 26 0 (a1.toInt.toNat)).toInt < 0) → (gV υ 22 0 8).toInt = 1) ∧ (((0 ≤ a1.toInt ∧ a1.toInt ≤ 7) ∧ ¬ ((gV τ 26 0 (a1.toInt.toNat)).toInt < 0) ∧ (a2.toInt < 0 ∨ (gV τ 27 0 (a1.toInt.toNat)).toInt ≤ a2.toInt)) → (gV υ 22 0 8).toInt = 2) ∧ (((0 ≤ a1.toInt ∧ a1.toInt ≤ 7) ∧ ¬ ((gV τ 26 0 (a1.toInt.toNat)).toInt < 0) ∧ 0 ≤ a2.toInt ∧ a2.toInt < (gV τ 27 0 (a1.toInt.toNat)).toInt) → (gV υ 22 0 8).toInt = 0))) (m2 : ((((0 ≤ a1.toInt ∧ a1.toInt ≤ 7) ∧ ¬ ((gV τ 26 0 (a1.toInt.toNat)).toInt < 0) ∧ 0 ≤ a2.toInt ∧ a2.toInt < (gV τ 27 0 (a1.toInt.toNat)).toInt) → ∃ v : Int32, v.toInt = r2.toInt ∧ J1_ τ υ (40 * (a1.toInt.toNat) + (a2.toInt.toNat)) v) ∧ (¬ ((0 ≤ a1.toInt ∧ a1.toInt ≤ 7) ∧ ¬ ((gV τ 26 0 (a1.toInt.toNat)).toInt < 0) ∧ 0 ≤ a2.toInt ∧ a2.toInt < (gV τ 27 0 (a1.toInt.toNat)).toInt) → SameJ τ υ))) : RI υ ∧ ST υ := by
  have e2 : SameJ σ τ := fun k => f1.1 25 0 k (by simp) (by decide)
  have e1 : SameI τ υ := fun j i => f2.1 21 j i (by simp) (by decide)
  have s1 : (gV υ 0 0 12).toInt = (gV τ 0 0 12).toInt := congrArg Int32.toInt (f2.1 0 0 12 (by decide) (by decide))
  have s2 : (gV τ 22 0 8).toInt = (gV σ 22 0 8).toInt := congrArg Int32.toInt (f1.1 22 0 8 (by decide) (by decide))
  have s3 : (gV σ 0 0 12).toInt = (gV σ 22 0 8).toInt := hs
  have l1 : SameL σ τ := SameL.rf.fr f1 (by simp) (by decide)
  have g1 : (a1.toInt.toNat) < 8 → (gV σ 20 (a1.toInt.toNat) 1).toInt = (gV τ 26 0 (a1.toInt.toNat)).toInt ∧ -1 ≤ (gV τ 26 0 (a1.toInt.toNat)).toInt ∧ (0 ≤ (gV τ 26 0 (a1.toInt.toNat)).toInt → (gV σ 20 (a1.toInt.toNat) 2).toInt = (gV τ 27 0 (a1.toInt.toNat)).toInt) := fun hj => by
    rw [(l1 (a1.toInt.toNat)).1, (l1 (a1.toInt.toNat)).2]
    exact ⟨congrArg Int32.toInt (h.1 (a1.toInt.toNat) hj).1, (h.1 (a1.toInt.toNat) hj).2.1, fun q => congrArg Int32.toInt ((h.1 (a1.toInt.toNat) hj).2.2 q)⟩
  have e3 : SameL σ υ := fun q => ⟨(f2.1 26 0 q (by simp) (by decide)).trans (l1 q).1, (f2.1 27 0 q (by simp) (by decide)).trans (l1 q).2⟩
  have hr := Rel.setB h f1 f2 c0 m0
  by_cases hin : 0 ≤ a1.toInt ∧ a1.toInt ≤ 7
  · have q := g1 (by omega)
    refine ⟨?_, by show (gV υ 0 0 12).toInt = (gV υ 22 0 8).toInt; omega⟩
    by_cases g : ((0 ≤ a1.toInt ∧ a1.toInt ≤ 7) ∧ ¬ ((gV σ 20 (a1.toInt.toNat) 1).toInt = -1) ∧ 0 ≤ a2.toInt ∧ a2.toInt < (gV σ 20 (a1.toInt.toNat) 2).toInt)
    · have g' : ((0 ≤ a1.toInt ∧ a1.toInt ≤ 7) ∧ ¬ ((gV τ 26 0 (a1.toInt.toNat)).toInt < 0) ∧ 0 ≤ a2.toInt ∧ a2.toInt < (gV τ 27 0 (a1.toInt.toNat)).toInt) := by omega
      obtain ⟨v, v1, v2⟩ := c2.1 g
      obtain ⟨w, w1, w2⟩ := m2.1 g'
      have b : IV (gV σ 20 (a1.toInt.toNat) 2) 0 40 := hI.1 20 (a1.toInt.toNat) 2
      have b2 := b.2
      exact hi.set v2 e1 e2 w2 e3 hI (by omega) (Int32.toInt_inj.mp (by omega))
    · have g' : ¬ ((0 ≤ a1.toInt ∧ a1.toInt ≤ 7) ∧ ¬ ((gV τ 26 0 (a1.toInt.toNat)).toInt < 0) ∧ 0 ≤ a2.toInt ∧ a2.toInt < (gV τ 27 0 (a1.toInt.toNat)).toInt) := by omega
      exact hi.same (fun j i => (e1 j i).trans (c2.2 g j i)) (fun z => (m2.2 g' z).trans (e2 z)) e3
  · refine ⟨?_, by show (gV υ 0 0 12).toInt = (gV υ 22 0 8).toInt; omega⟩
    exact hi.same (fun j i => (e1 j i).trans (c2.2 (by omega) j i)) (fun z => (m2.2 (by omega) z).trans (e2 z)) e3
theorem RQ.copyB {σ τ υ : Sg} {a1 a2 a3 a4 a5 r1 r2 : Int32} (h : Rel σ) (hI : Inv σ) (hi : RI σ) (hs : ST σ) (f1 : Fr MS_X11_copyQ AS_X11_copyQ σ τ) (f2 : Fr MS_X12_copyQ AS_X12_copyQ τ υ) (c0 : (((a1.toInt < 0 ∨ 7 < a1.toInt ∨ a3.toInt < 0 ∨ 7 < a3.toInt) ∧ r1.toInt = -1000001) ∨ ((0 ≤ a1.toInt ∧ a1.toInt ≤ 7 ∧ 0 ≤ a3.toInt ∧ a3.toInt ≤ 7) ∧ ((gV σ 20 (a1.toInt.toNat) 1).toInt = -1 ∨ (gV σ 20 (a3.toInt.toNat) 1).toInt = -1) ∧ r1.toInt = -1000011) ∨ ((0 ≤ a1.toInt ∧ a1.toInt ≤ 7 ∧ 0 ≤ a3.toInt ∧ a3.toInt ≤ 7) ∧ ¬ ((gV σ 20 (a1.toInt.toNat) 1).toInt = -1) ∧ ¬ ((gV σ 20 (a3.toInt.toNat) 1).toInt = -1) ∧ (gV σ 20 (a1.toInt.toNat) 1).toInt ≠ (gV σ 20 (a3.toInt.toNat) 1).toInt ∧ r1.toInt = -1000015) ∨ ((0 ≤ a1.toInt ∧ a1.toInt ≤ 7 ∧ 0 ≤ a3.toInt ∧ a3.toInt ≤ 7) ∧ ¬ ((gV σ 20 (a1.toInt.toNat) 1).toInt = -1) ∧ ¬ ((gV σ 20 (a3.toInt.toNat) 1).toInt = -1) ∧ (gV σ 20 (a1.toInt.toNat) 1).toInt = (gV σ 20 (a3.toInt.toNat) 1).toInt ∧ ¬ (0 ≤ a2.toInt ∧ 0 ≤ a4.toInt ∧ 0 ≤ a5.toInt ∧ a2.toInt + a5.toInt ≤ (gV σ 20 (a1.toInt.toNat) 2).toInt ∧ a4.toInt + a5.toInt ≤ (gV σ 20 (a3.toInt.toNat) 2).toInt) ∧ r1.toInt = -1000012) ∨ ((0 ≤ a1.toInt ∧ a1.toInt ≤ 7 ∧ 0 ≤ a3.toInt ∧ a3.toInt ≤ 7) ∧ ¬ ((gV σ 20 (a1.toInt.toNat) 1).toInt = -1) ∧ ¬ ((gV σ 20 (a3.toInt.toNat) 1).toInt = -1) ∧ (gV σ 20 (a1.toInt.toNat) 1).toInt = (gV σ 20 (a3.toInt.toNat) 1).toInt ∧ (0 ≤ a2.toInt ∧ 0 ≤ a4.toInt ∧ 0 ≤ a5.toInt ∧ a2.toInt + a5.toInt ≤ (gV σ 20 (a1.toInt.toNat) 2).toInt ∧ a4.toInt + a5.toInt ≤ (gV σ 20 (a3.toInt.toNat) 2).toInt) ∧ r1.toInt = a5.toInt))) (c1 : (((a1.toInt < 0 ∨ 7 < a1.toInt ∨ a3.toInt < 0 ∨ 7 < a3.toInt) → (gV τ 0 0 12).toInt = (gV σ 0 0 12).toInt) ∧ (((0 ≤ a1.toInt ∧ a1.toInt ≤ 7 ∧ 0 ≤ a3.toInt ∧ a3.toInt ≤ 7) ∧ ((gV σ 20 (a1.toInt.toNat) 1).toInt = -1 ∨ (gV σ 20 (a3.toInt.toNat) 1).toInt = -1)) → (gV τ 0 0 12).toInt = 1) ∧ (((0 ≤ a1.toInt ∧ a1.toInt ≤ 7 ∧ 0 ≤ a3.toInt ∧ a3.toInt ≤ 7) ∧ ¬ ((gV σ 20 (a1.toInt.toNat) 1).toInt = -1) ∧ ¬ ((gV σ 20 (a3.toInt.toNat) 1).toInt = -1) ∧ ¬ ((gV σ 20 (a1.toInt.toNat) 1).toInt = (gV σ 20 (a3.toInt.toNat) 1).toInt)) → (gV τ 0 0 12).toInt = 5) ∧ (((0 ≤ a1.toInt ∧ a1.toInt ≤ 7 ∧ 0 ≤ a3.toInt ∧ a3.toInt ≤ 7) ∧ ¬ ((gV σ 20 (a1.toInt.toNat) 1).toInt = -1) ∧ ¬ ((gV σ 20 (a3.toInt.toNat) 1).toInt = -1) ∧ (gV σ 20 (a1.toInt.toNat) 1).toInt = (gV σ 20 (a3.toInt.toNat) 1).toInt ∧ ¬ (0 ≤ a2.toInt ∧ 0 ≤ a4.toInt ∧ 0 ≤ a5.toInt ∧ a2.toInt + a5.toInt ≤ (gV σ 20 (a1.toInt.toNat) 2).toInt ∧ a4.toInt + a5.toInt ≤ (gV σ 20 (a3.toInt.toNat) 2).toInt)) → (gV τ 0 0 12).toInt = 2) ∧ (((0 ≤ a1.toInt ∧ a1.toInt ≤ 7 ∧ 0 ≤ a3.toInt ∧ a3.toInt ≤ 7) ∧ ¬ ((gV σ 20 (a1.toInt.toNat) 1).toInt = -1) ∧ ¬ ((gV σ 20 (a3.toInt.toNat) 1).toInt = -1) ∧ (gV σ 20 (a1.toInt.toNat) 1).toInt = (gV σ 20 (a3.toInt.toNat) 1).toInt ∧ (0 ≤ a2.toInt ∧ 0 ≤ a4.toInt ∧ 0 ≤ a5.toInt ∧ a2.toInt + a5.toInt ≤ (gV σ 20 (a1.toInt.toNat) 2).toInt ∧ a4.toInt + a5.toInt ≤ (gV σ 20 (a3.toInt.toNat) 2).toInt)) → (gV τ 0 0 12).toInt = 0))) (c2 : ((((0 ≤ a1.toInt ∧ a1.toInt ≤ 7 ∧ 0 ≤ a3.toInt ∧ a3.toInt ≤ 7) ∧ ¬ ((gV σ 20 (a1.toInt.toNat) 1).toInt = -1) ∧ ¬ ((gV σ 20 (a3.toInt.toNat) 1).toInt = -1) ∧ (gV σ 20 (a1.toInt.toNat) 1).toInt = (gV σ 20 (a3.toInt.toNat) 1).toInt ∧ (0 ≤ a2.toInt ∧ 0 ≤ a4.toInt ∧ 0 ≤ a5.toInt ∧ a2.toInt + a5.toInt ≤ (gV σ 20 (a1.toInt.toNat) 2).toInt ∧ a4.toInt + a5.toInt ≤ (gV σ 20 (a3.toInt.toNat) 2).toInt)) → IC σ τ (a1.toInt.toNat) (a2.toInt.toNat) (a3.toInt.toNat) (a4.toInt.toNat) (a5.toInt.toNat)) ∧ (¬ ((0 ≤ a1.toInt ∧ a1.toInt ≤ 7 ∧ 0 ≤ a3.toInt ∧ a3.toInt ≤ 7) ∧ ¬ ((gV σ 20 (a1.toInt.toNat) 1).toInt = -1) ∧ ¬ ((gV σ 20 (a3.toInt.toNat) 1).toInt = -1) ∧ (gV σ 20 (a1.toInt.toNat) 1).toInt = (gV σ 20 (a3.toInt.toNat) 1).toInt ∧ (0 ≤ a2.toInt ∧ 0 ≤ a4.toInt ∧ 0 ≤ a5.toInt ∧ a2.toInt + a5.toInt ≤ (gV σ 20 (a1.toInt.toNat) 2).toInt ∧ a4.toInt + a5.toInt ≤ (gV σ 20 (a3.toInt.toNat) 2).toInt)) → SameI σ τ))) (m0 : (((a1.toInt < 0 ∨ 7 < a1.toInt ∨ a3.toInt < 0 ∨ 7 < a3.toInt) ∧ r2.toInt = -1000001) ∨ ((0 ≤ a1.toInt ∧ a1.toInt ≤ 7 ∧ 0 ≤ a3.toInt ∧ a3.toInt ≤ 7) ∧ ((gV τ 26 0 (a1.toInt.toNat)).toInt < 0 ∨ (gV τ 26 0 (a3.toInt.toNat)).toInt < 0) ∧ r2.toInt = -1000011) ∨ ((0 ≤ a1.toInt ∧ a1.toInt ≤ 7 ∧ 0 ≤ a3.toInt ∧ a3.toInt ≤ 7) ∧ ¬ ((gV τ 26 0 (a1.toInt.toNat)).toInt < 0) ∧ ¬ ((gV τ 26 0 (a3.toInt.toNat)).toInt < 0) ∧ (gV τ 26 0 (a1.toInt.toNat)).toInt ≠ (gV τ 26 0 (a3.toInt.toNat)).toInt ∧ r2.toInt = -1000015) ∨ ((0 ≤ a1.toInt ∧ a1.toInt ≤ 7 ∧ 0 ≤ a3.toInt ∧ a3.toInt ≤ 7) ∧ ¬ ((gV τ 26 0 (a1.toInt.toNat)).toInt < 0) ∧ ¬ ((gV τ 26 0 (a3.toInt.toNat)).toInt < 0) ∧ (gV τ 26 0 (a1.toInt.toNat)).toInt = (gV τ 26 0 (a3.toInt.toNat)).toInt ∧ ¬ (0 ≤ a2.toInt ∧ 0 ≤ a4.toInt ∧ 0 ≤ a5.toInt ∧ a2.toInt + a5.toInt ≤ (gV τ 27 0 (a1.toInt.toNat)).toInt ∧ a4.toInt + a5.toInt ≤ (gV τ 27 0 (a3.toInt.toNat)).toInt) ∧ r2.toInt = -1000012) ∨ ((0 ≤ a1.toInt ∧ a1.toInt ≤ 7 ∧ 0 ≤ a3.toInt ∧ a3.toInt ≤ 7) ∧ ¬ ((gV τ 26 0 (a1.toInt.toNat)).toInt < 0) ∧ ¬ ((gV τ 26 0 (a3.toInt.toNat)).toInt < 0) ∧ (gV τ 26 0 (a1.toInt.toNat)).toInt = (gV τ 26 0 (a3.toInt.toNat)).toInt ∧ (0 ≤ a2.toInt ∧ 0 ≤ a4.toInt ∧ 0 ≤ a5.toInt ∧ a2.toInt + a5.toInt ≤ (gV τ 27 0 (a1.toInt.toNat)).toInt ∧ a4.toInt + a5.toInt ≤ (gV τ 27 0 (a3.toInt.toNat)).toInt) ∧ r2.toInt = a5.toInt))) (m1 : (((a1.toInt < 0 ∨ 7 < a1.toInt ∨ a3.toInt < 0 ∨ 7 < a3.toInt) → (gV υ 22 0 8).toInt = (gV τ 22 0 8).toInt) ∧ (((0 ≤ a1.toInt ∧ a1.toInt ≤ 7 ∧ 0 ≤ a3.toInt ∧ a3.toInt ≤ 7) ∧ ((gV τ 26 0 (a1.toInt.toNat)).toInt < 0 ∨ (gV τ 26 0 (a3.toInt.toNat)).toInt < 0)) → (gV υ 22 0 8).toInt = 1) ∧ (((0 ≤ a1.toInt ∧ a1.toInt ≤ 7 ∧ 0 ≤ a3.toInt ∧ a3.toInt ≤ 7) ∧ ¬ ((gV τ 26 0 (a1.toInt.toNat)).toInt < 0) ∧ ¬ ((gV τ 26 0 (a3.toInt.toNat)).toInt < 0) ∧ ¬ ((gV τ 26 0 (a1.toInt.toNat)).toInt = (gV τ 26 0 (a3.toInt.toNat)).toInt)) → (gV υ 22 0 8).toInt = 5) ∧ (((0 ≤ a1.toInt ∧ a1.toInt ≤ 7 ∧ 0 ≤ a3.toInt ∧ a3.toInt ≤ 7) ∧ ¬ ((gV τ 26 0 (a1.toInt.toNat)).toInt < 0) ∧ ¬ ((gV τ 26 0 (a3.toInt.toNat)).toInt < 0) ∧ (gV τ 26 0 (a1.toInt.toNat)).toInt = (gV τ 26 0 (a3.toInt.toNat)).toInt ∧ ¬ (0 ≤ a2.toInt ∧ 0 ≤ a4.toInt ∧ 0 ≤ a5.toInt ∧ a2.toInt + a5.toInt ≤ (gV τ 27 0 (a1.toInt.toNat)).toInt ∧ a4.toInt + a5.toInt ≤ (gV τ 27 0 (a3.toInt.toNat)).toInt)) → (gV υ 22 0 8).toInt = 2) ∧ (((0 ≤ a1.toInt ∧ a1.toInt ≤ 7 ∧ 0 ≤ a3.toInt ∧ a3.toInt ≤ 7) ∧ ¬ ((gV τ 26 0 (a1.toInt.toNat)).toInt < 0) ∧ ¬ ((gV τ 26 0 (a3.toInt.toNat)).toInt < 0) ∧ (gV τ 26 0 (a1.toInt.toNat)).toInt = (gV τ 26 0 (a3.toInt.toNat)).toInt ∧ (0 ≤ a2.toInt ∧ 0 ≤ a4.toInt ∧ 0 ≤ a5.toInt ∧ a2.toInt + a5.toInt ≤ (gV τ 27 0 (a1.toInt.toNat)).toInt ∧ a4.toInt + a5.toInt ≤ (gV τ 27 0 (a3.toInt.toNat)).toInt)) → (gV υ 22 0 8).toInt = 0))) (m2 : ((((0 ≤ a1.toInt ∧ a1.toInt ≤ 7 ∧ 0 ≤ a3.toInt ∧ a3.toInt ≤ 7) ∧ ¬ ((gV τ 26 0 (a1.toInt.toNat)).toInt < 0) ∧ ¬ ((gV τ 26 0 (a3.toInt.toNat)).toInt < 0) ∧ (gV τ 26 0 (a1.toInt.toNat)).toInt = (gV τ 26 0 (a3.toInt.toNat)).toInt ∧ (0 ≤ a2.toInt ∧ 0 ≤ a4.toInt ∧ 0 ≤ a5.toInt ∧ a2.toInt + a5.toInt ≤ (gV τ 27 0 (a1.toInt.toNat)).toInt ∧ a4.toInt + a5.toInt ≤ (gV τ 27 0 (a3.toInt.toNat)).toInt)) → JC τ υ (40 * (a1.toInt.toNat) + (a2.toInt.toNat)) (40 * (a3.toInt.toNat) + (a4.toInt.toNat)) (a5.toInt.toNat)) ∧ (¬ ((0 ≤ a1.toInt ∧ a1.toInt ≤ 7 ∧ 0 ≤ a3.toInt ∧ a3.toInt ≤ 7) ∧ ¬ ((gV τ 26 0 (a1.toInt.toNat)).toInt < 0) ∧ ¬ ((gV τ 26 0 (a3.toInt.toNat)).toInt < 0) ∧ (gV τ 26 0 (a1.toInt.toNat)).toInt = (gV τ 26 0 (a3.toInt.toNat)).toInt ∧ (0 ≤ a2.toInt ∧ 0 ≤ a4.toInt ∧ 0 ≤ a5.toInt ∧ a2.toInt + a5.toInt ≤ (gV τ 27 0 (a1.toInt.toNat)).toInt ∧ a4.toInt + a5.toInt ≤ (gV τ 27 0 (a3.toInt.toNat)).toInt)) → SameJ τ υ))) : RI υ ∧ ST υ := by
  have e2 : SameJ σ τ := fun k => f1.1 25 0 k (by simp) (by decide)
  have e1 : SameI τ υ := fun j i => f2.1 21 j i (by simp) (by decide)
  have s1 : (gV υ 0 0 12).toInt = (gV τ 0 0 12).toInt := congrArg Int32.toInt (f2.1 0 0 12 (by decide) (by decide))
  have s2 : (gV τ 22 0 8).toInt = (gV σ 22 0 8).toInt := congrArg Int32.toInt (f1.1 22 0 8 (by decide) (by decide))
  have s3 : (gV σ 0 0 12).toInt = (gV σ 22 0 8).toInt := hs
  have l1 : SameL σ τ := SameL.rf.fr f1 (by simp) (by decide)
  have g1 : (a1.toInt.toNat) < 8 → (gV σ 20 (a1.toInt.toNat) 1).toInt = (gV τ 26 0 (a1.toInt.toNat)).toInt ∧ -1 ≤ (gV τ 26 0 (a1.toInt.toNat)).toInt ∧ (0 ≤ (gV τ 26 0 (a1.toInt.toNat)).toInt → (gV σ 20 (a1.toInt.toNat) 2).toInt = (gV τ 27 0 (a1.toInt.toNat)).toInt) := fun hj => by
    rw [(l1 (a1.toInt.toNat)).1, (l1 (a1.toInt.toNat)).2]
    exact ⟨congrArg Int32.toInt (h.1 (a1.toInt.toNat) hj).1, (h.1 (a1.toInt.toNat) hj).2.1, fun q => congrArg Int32.toInt ((h.1 (a1.toInt.toNat) hj).2.2 q)⟩
  have g3 : (a3.toInt.toNat) < 8 → (gV σ 20 (a3.toInt.toNat) 1).toInt = (gV τ 26 0 (a3.toInt.toNat)).toInt ∧ -1 ≤ (gV τ 26 0 (a3.toInt.toNat)).toInt ∧ (0 ≤ (gV τ 26 0 (a3.toInt.toNat)).toInt → (gV σ 20 (a3.toInt.toNat) 2).toInt = (gV τ 27 0 (a3.toInt.toNat)).toInt) := fun hj => by
    rw [(l1 (a3.toInt.toNat)).1, (l1 (a3.toInt.toNat)).2]
    exact ⟨congrArg Int32.toInt (h.1 (a3.toInt.toNat) hj).1, (h.1 (a3.toInt.toNat) hj).2.1, fun q => congrArg Int32.toInt ((h.1 (a3.toInt.toNat) hj).2.2 q)⟩
  have e3 : SameL σ υ := fun q => ⟨(f2.1 26 0 q (by simp) (by decide)).trans (l1 q).1, (f2.1 27 0 q (by simp) (by decide)).trans (l1 q).2⟩
  by_cases hin : 0 ≤ a1.toInt ∧ a1.toInt ≤ 7 ∧ 0 ≤ a3.toInt ∧ a3.toInt ≤ 7
  · have q := g1 (by omega)
    have q3 := g3 (by omega)
    have b : IV (gV τ 27 0 (a3.toInt.toNat)) 0 40 := by rw [(l1 _).2]; exact hI.1 27 0 (a3.toInt.toNat)
    have b2 := b.2
    refine ⟨?_, by show (gV υ 0 0 12).toInt = (gV υ 22 0 8).toInt; omega⟩
    by_cases g : ((0 ≤ a1.toInt ∧ a1.toInt ≤ 7 ∧ 0 ≤ a3.toInt ∧ a3.toInt ≤ 7) ∧ ¬ ((gV σ 20 (a1.toInt.toNat) 1).toInt = -1) ∧ ¬ ((gV σ 20 (a3.toInt.toNat) 1).toInt = -1) ∧ (gV σ 20 (a1.toInt.toNat) 1).toInt = (gV σ 20 (a3.toInt.toNat) 1).toInt ∧ (0 ≤ a2.toInt ∧ 0 ≤ a4.toInt ∧ 0 ≤ a5.toInt ∧ a2.toInt + a5.toInt ≤ (gV σ 20 (a1.toInt.toNat) 2).toInt ∧ a4.toInt + a5.toInt ≤ (gV σ 20 (a3.toInt.toNat) 2).toInt))
    · have g' : ((0 ≤ a1.toInt ∧ a1.toInt ≤ 7 ∧ 0 ≤ a3.toInt ∧ a3.toInt ≤ 7) ∧ ¬ ((gV τ 26 0 (a1.toInt.toNat)).toInt < 0) ∧ ¬ ((gV τ 26 0 (a3.toInt.toNat)).toInt < 0) ∧ (gV τ 26 0 (a1.toInt.toNat)).toInt = (gV τ 26 0 (a3.toInt.toNat)).toInt ∧ (0 ≤ a2.toInt ∧ 0 ≤ a4.toInt ∧ 0 ≤ a5.toInt ∧ a2.toInt + a5.toInt ≤ (gV τ 27 0 (a1.toInt.toNat)).toInt ∧ a4.toInt + a5.toInt ≤ (gV τ 27 0 (a3.toInt.toNat)).toInt)) := by omega
      exact hi.copy hI (c2.1 g) e1 e2 (m2.1 g') e3 (by omega) (by rw [← (l1 _).1]; omega) (by rw [← (l1 _).2]; omega) (by omega)
    · have g' : ¬ ((0 ≤ a1.toInt ∧ a1.toInt ≤ 7 ∧ 0 ≤ a3.toInt ∧ a3.toInt ≤ 7) ∧ ¬ ((gV τ 26 0 (a1.toInt.toNat)).toInt < 0) ∧ ¬ ((gV τ 26 0 (a3.toInt.toNat)).toInt < 0) ∧ (gV τ 26 0 (a1.toInt.toNat)).toInt = (gV τ 26 0 (a3.toInt.toNat)).toInt ∧ (0 ≤ a2.toInt ∧ 0 ≤ a4.toInt ∧ 0 ≤ a5.toInt ∧ a2.toInt + a5.toInt ≤ (gV τ 27 0 (a1.toInt.toNat)).toInt ∧ a4.toInt + a5.toInt ≤ (gV τ 27 0 (a3.toInt.toNat)).toInt)) := by omega
      exact hi.same (fun j i => (e1 j i).trans (c2.2 g j i)) (fun z => (m2.2 g' z).trans (e2 z)) e3
  · refine ⟨?_, by show (gV υ 0 0 12).toInt = (gV υ 22 0 8).toInt; omega⟩
    exact hi.same (fun j i => (e1 j i).trans (c2.2 (by omega) j i)) (fun z => (m2.2 (by omega) z).trans (e2 z)) e3
theorem RQ.dropB {σ τ υ : Sg} {a1 r1 r2 : Int32} (h : Rel σ) (hI : Inv σ) (hi : RI σ) (hs : ST σ) (f1 : Fr MS_X11_dropQ AS_X11_dropQ σ τ) (f2 : Fr MS_X12_dropQ AS_X12_dropQ τ υ) (c0 : (((a1.toInt < 0 ∨ 7 < a1.toInt) ∧ r1.toInt = -1000001 ∧ SameR σ τ) ∨ ((0 ≤ a1.toInt ∧ a1.toInt ≤ 7) ∧ (gV σ 20 (a1.toInt.toNat) 1).toInt = -1 ∧ r1.toInt = -1000011 ∧ SameR σ τ) ∨ ((0 ≤ a1.toInt ∧ a1.toInt ≤ 7) ∧ ¬ ((gV σ 20 (a1.toInt.toNat) 1).toInt = -1) ∧ r1.toInt = (gV σ 20 (a1.toInt.toNat) 2).toInt ∧ BG σ τ (a1.toInt.toNat) (-1) 0))) (c1 : (((a1.toInt < 0 ∨ 7 < a1.toInt) → (gV τ 0 0 12).toInt = (gV σ 0 0 12).toInt) ∧ (((0 ≤ a1.toInt ∧ a1.toInt ≤ 7) ∧ (gV σ 20 (a1.toInt.toNat) 1).toInt = -1) → (gV τ 0 0 12).toInt = 1) ∧ (((0 ≤ a1.toInt ∧ a1.toInt ≤ 7) ∧ ¬ ((gV σ 20 (a1.toInt.toNat) 1).toInt = -1)) → (gV τ 0 0 12).toInt = 0))) (c2 : SameI σ τ) (m0 : (((a1.toInt < 0 ∨ 7 < a1.toInt) ∧ r2.toInt = -1000001 ∧ SameL τ υ) ∨ ((0 ≤ a1.toInt ∧ a1.toInt ≤ 7) ∧ (gV τ 26 0 (a1.toInt.toNat)).toInt < 0 ∧ r2.toInt = -1000011 ∧ SameL τ υ) ∨ ((0 ≤ a1.toInt ∧ a1.toInt ≤ 7) ∧ ¬ ((gV τ 26 0 (a1.toInt.toNat)).toInt < 0) ∧ r2.toInt = (gV τ 27 0 (a1.toInt.toNat)).toInt ∧ LD τ υ (a1.toInt.toNat)))) (m1 : (((a1.toInt < 0 ∨ 7 < a1.toInt) → (gV υ 22 0 8).toInt = (gV τ 22 0 8).toInt) ∧ (((0 ≤ a1.toInt ∧ a1.toInt ≤ 7) ∧ (gV τ 26 0 (a1.toInt.toNat)).toInt < 0) → (gV υ 22 0 8).toInt = 1) ∧ (((0 ≤ a1.toInt ∧ a1.toInt ≤ 7) ∧ ¬ ((gV τ 26 0 (a1.toInt.toNat)).toInt < 0)) → (gV υ 22 0 8).toInt = 0))) (m2 : SameJ τ υ) : RI υ ∧ ST υ := by
  have e2 : SameJ σ τ := fun k => f1.1 25 0 k (by simp) (by decide)
  have e1 : SameI τ υ := fun j i => f2.1 21 j i (by simp) (by decide)
  have s1 : (gV υ 0 0 12).toInt = (gV τ 0 0 12).toInt := congrArg Int32.toInt (f2.1 0 0 12 (by decide) (by decide))
  have s2 : (gV τ 22 0 8).toInt = (gV σ 22 0 8).toInt := congrArg Int32.toInt (f1.1 22 0 8 (by decide) (by decide))
  have s3 : (gV σ 0 0 12).toInt = (gV σ 22 0 8).toInt := hs
  have l1 : SameL σ τ := SameL.rf.fr f1 (by simp) (by decide)
  have g1 : (a1.toInt.toNat) < 8 → (gV σ 20 (a1.toInt.toNat) 1).toInt = (gV τ 26 0 (a1.toInt.toNat)).toInt ∧ -1 ≤ (gV τ 26 0 (a1.toInt.toNat)).toInt ∧ (0 ≤ (gV τ 26 0 (a1.toInt.toNat)).toInt → (gV σ 20 (a1.toInt.toNat) 2).toInt = (gV τ 27 0 (a1.toInt.toNat)).toInt) := fun hj => by
    rw [(l1 (a1.toInt.toNat)).1, (l1 (a1.toInt.toNat)).2]
    exact ⟨congrArg Int32.toInt (h.1 (a1.toInt.toNat) hj).1, (h.1 (a1.toInt.toNat) hj).2.1, fun q => congrArg Int32.toInt ((h.1 (a1.toInt.toNat) hj).2.2 q)⟩
  have d1 : SameI σ υ := fun j i => (e1 j i).trans (c2 j i)
  have d2 : SameJ σ υ := fun k => (m2 k).trans (e2 k)
  refine ⟨?_, ?_⟩
  · rcases m0 with ⟨_, _, u⟩ | ⟨_, _, _, u⟩ | ⟨_, _, _, u⟩
    · exact hi.same d1 d2 (fun q => ⟨(u q).1.trans (l1 q).1, (u q).2.trans (l1 q).2⟩)
    · exact hi.same d1 d2 (fun q => ⟨(u q).1.trans (l1 q).1, (u q).2.trans (l1 q).2⟩)
    · exact hi.drop d1 d2 l1 u
  · by_cases hin : 0 ≤ a1.toInt ∧ a1.toInt ≤ 7
    · have q := g1 (by omega)
      show (gV υ 0 0 12).toInt = (gV υ 22 0 8).toInt; omega
    · show (gV υ 0 0 12).toInt = (gV υ 22 0 8).toInt; omega
theorem RQ.asB {σ τ υ : Sg} {S : Stt} {a1 a2 : Int32} (hs : ST σ) (f1 : Fr MS_X11_asQ AS_X11_asQ σ τ) (f2 : Fr MS_X12_asQ AS_X12_asQ τ υ) (c1 : ((((a1.toInt < 0 ∨ S.2.1 ≤ a1.toInt) ∨ a2.toInt < 0 ∨ 5 < a2.toInt) → (gV τ 0 0 12).toInt = (gV σ 0 0 12).toInt) ∧ (((0 ≤ a1.toInt ∧ a1.toInt < S.2.1) ∧ 0 ≤ a2.toInt ∧ a2.toInt ≤ 5 ∧ (a2.toInt = 0 ∨ (S.2.2 a1.toInt.toNat).1 = a2.toInt ∨ (a2.toInt = 1 ∧ (S.2.2 a1.toInt.toNat).1 ≤ 3) ∨ (a2.toInt = 4 ∧ (S.2.2 a1.toInt.toNat).1 = 5))) → (gV τ 0 0 12).toInt = 0) ∧ (((0 ≤ a1.toInt ∧ a1.toInt < S.2.1) ∧ 0 ≤ a2.toInt ∧ a2.toInt ≤ 5 ∧ ¬ (a2.toInt = 0 ∨ (S.2.2 a1.toInt.toNat).1 = a2.toInt ∨ (a2.toInt = 1 ∧ (S.2.2 a1.toInt.toNat).1 ≤ 3) ∨ (a2.toInt = 4 ∧ (S.2.2 a1.toInt.toNat).1 = 5))) → (gV τ 0 0 12).toInt = 3))) (m1 : ((((a1.toInt < 0 ∨ S.2.1 ≤ a1.toInt) ∨ a2.toInt < 0 ∨ 5 < a2.toInt) → (gV υ 22 0 8).toInt = (gV τ 22 0 8).toInt) ∧ (((0 ≤ a1.toInt ∧ a1.toInt < S.2.1) ∧ 0 ≤ a2.toInt ∧ a2.toInt ≤ 5 ∧ (a2.toInt = 0 ∨ (S.2.2 a1.toInt.toNat).1 = a2.toInt ∨ (a2.toInt = 1 ∧ (S.2.2 a1.toInt.toNat).1 ≤ 3) ∨ (a2.toInt = 4 ∧ (S.2.2 a1.toInt.toNat).1 = 5))) → (gV υ 22 0 8).toInt = 0) ∧ (((0 ≤ a1.toInt ∧ a1.toInt < S.2.1) ∧ 0 ≤ a2.toInt ∧ a2.toInt ≤ 5 ∧ ¬ (a2.toInt = 0 ∨ (S.2.2 a1.toInt.toNat).1 = a2.toInt ∨ (a2.toInt = 1 ∧ (S.2.2 a1.toInt.toNat).1 ≤ 3) ∨ (a2.toInt = 4 ∧ (S.2.2 a1.toInt.toNat).1 = 5))) → (gV υ 22 0 8).toInt = 3))) : ST υ := by
  have s1 : (gV υ 0 0 12).toInt = (gV τ 0 0 12).toInt := congrArg Int32.toInt (f2.1 0 0 12 (by decide) (by decide))
  have s2 : (gV τ 22 0 8).toInt = (gV σ 22 0 8).toInt := congrArg Int32.toInt (f1.1 22 0 8 (by decide) (by decide))
  have s3 : (gV σ 0 0 12).toInt = (gV σ 22 0 8).toInt := hs
  show (gV υ 0 0 12).toInt = (gV υ 22 0 8).toInt; omega
theorem RQ.marksB {σ τ υ : Sg} {S : Stt} {a1 a2 a3 a4 : Int32} (h : Rel σ) (hi : RI σ) (hs : ST σ) (f1 : Fr MS_X11_marksQ AS_X11_marksQ σ τ) (f2 : Fr MS_X12_marksQ AS_X12_marksQ τ υ) (hC : ((S.1 ≤ 0 ∧ (gV τ 0 0 12).toInt = (gV σ 0 0 12).toInt) ∨ (0 < S.1 ∧ (a1.toInt < 0 ∨ 7 < a1.toInt ∨ a2.toInt < -999 ∨ 999 < a2.toInt ∨ a3.toInt < -999 ∨ 999 < a3.toInt ∨ a4.toInt < -1) ∧ (gV τ 0 0 12).toInt = (gV σ 0 0 12).toInt) ∨ ((0 < S.1 ∧ ((0 ≤ a1.toInt ∧ a1.toInt ≤ 7) ∧ -999 ≤ a2.toInt ∧ a2.toInt ≤ 999 ∧ -999 ≤ a3.toInt ∧ a3.toInt ≤ 999 ∧ -1 ≤ a4.toInt)) ∧ (gV σ 20 (a1.toInt.toNat) 1).toInt = -1 ∧ (gV τ 0 0 12).toInt = 1) ∨ ((0 < S.1 ∧ ((0 ≤ a1.toInt ∧ a1.toInt ≤ 7) ∧ -999 ≤ a2.toInt ∧ a2.toInt ≤ 999 ∧ -999 ≤ a3.toInt ∧ a3.toInt ≤ 999 ∧ -1 ≤ a4.toInt)) ∧ (gV σ 20 (a1.toInt.toNat) 1).toInt ≠ -1 ∧ (gV σ 20 (a1.toInt.toNat) 2).toInt < S.2.1 ∧ (gV τ 0 0 12).toInt = 2) ∨ ((0 < S.1 ∧ ((0 ≤ a1.toInt ∧ a1.toInt ≤ 7) ∧ -999 ≤ a2.toInt ∧ a2.toInt ≤ 999 ∧ -999 ≤ a3.toInt ∧ a3.toInt ≤ 999 ∧ -1 ≤ a4.toInt)) ∧ (gV σ 20 (a1.toInt.toNat) 1).toInt ≠ -1 ∧ S.2.1 ≤ (gV σ 20 (a1.toInt.toNat) 2).toInt ∧ ¬ AlI σ (a1.toInt.toNat) S.2.1 (-1) (S.1 - 1) ∧ (gV τ 0 0 12).toInt = (gV σ 0 0 12).toInt) ∨ ((0 < S.1 ∧ ((0 ≤ a1.toInt ∧ a1.toInt ≤ 7) ∧ -999 ≤ a2.toInt ∧ a2.toInt ≤ 999 ∧ -999 ≤ a3.toInt ∧ a3.toInt ≤ 999 ∧ -1 ≤ a4.toInt)) ∧ (gV σ 20 (a1.toInt.toNat) 1).toInt ≠ -1 ∧ S.2.1 ≤ (gV σ 20 (a1.toInt.toNat) 2).toInt ∧ AlI σ (a1.toInt.toNat) S.2.1 (-1) (S.1 - 1) ∧ (gV τ 0 0 12).toInt = 0))) (hM : ((S.1 ≤ 0 ∧ (gV υ 22 0 8).toInt = (gV τ 22 0 8).toInt) ∨ (0 < S.1 ∧ (a1.toInt < 0 ∨ 7 < a1.toInt ∨ a2.toInt < -999 ∨ 999 < a2.toInt ∨ a3.toInt < -999 ∨ 999 < a3.toInt ∨ a4.toInt < -1) ∧ (gV υ 22 0 8).toInt = (gV τ 22 0 8).toInt) ∨ ((0 < S.1 ∧ ((0 ≤ a1.toInt ∧ a1.toInt ≤ 7) ∧ -999 ≤ a2.toInt ∧ a2.toInt ≤ 999 ∧ -999 ≤ a3.toInt ∧ a3.toInt ≤ 999 ∧ -1 ≤ a4.toInt)) ∧ (gV τ 26 0 (a1.toInt.toNat)).toInt < 0 ∧ (gV υ 22 0 8).toInt = 1) ∨ ((0 < S.1 ∧ ((0 ≤ a1.toInt ∧ a1.toInt ≤ 7) ∧ -999 ≤ a2.toInt ∧ a2.toInt ≤ 999 ∧ -999 ≤ a3.toInt ∧ a3.toInt ≤ 999 ∧ -1 ≤ a4.toInt)) ∧ 0 ≤ (gV τ 26 0 (a1.toInt.toNat)).toInt ∧ (gV τ 27 0 (a1.toInt.toNat)).toInt < S.2.1 ∧ (gV υ 22 0 8).toInt = 2) ∨ ((0 < S.1 ∧ ((0 ≤ a1.toInt ∧ a1.toInt ≤ 7) ∧ -999 ≤ a2.toInt ∧ a2.toInt ≤ 999 ∧ -999 ≤ a3.toInt ∧ a3.toInt ≤ 999 ∧ -1 ≤ a4.toInt)) ∧ 0 ≤ (gV τ 26 0 (a1.toInt.toNat)).toInt ∧ S.2.1 ≤ (gV τ 27 0 (a1.toInt.toNat)).toInt ∧ ¬ AlJ τ (a1.toInt.toNat) S.2.1 (-1) (S.1 - 1) ∧ (gV υ 22 0 8).toInt = (gV τ 22 0 8).toInt) ∨ ((0 < S.1 ∧ ((0 ≤ a1.toInt ∧ a1.toInt ≤ 7) ∧ -999 ≤ a2.toInt ∧ a2.toInt ≤ 999 ∧ -999 ≤ a3.toInt ∧ a3.toInt ≤ 999 ∧ -1 ≤ a4.toInt)) ∧ 0 ≤ (gV τ 26 0 (a1.toInt.toNat)).toInt ∧ S.2.1 ≤ (gV τ 27 0 (a1.toInt.toNat)).toInt ∧ AlJ τ (a1.toInt.toNat) S.2.1 (-1) (S.1 - 1) ∧ (gV υ 22 0 8).toInt = 0))) : ST υ := by
  have s1 : (gV υ 0 0 12).toInt = (gV τ 0 0 12).toInt := congrArg Int32.toInt (f2.1 0 0 12 (by decide) (by decide))
  have s2 : (gV τ 22 0 8).toInt = (gV σ 22 0 8).toInt := congrArg Int32.toInt (f1.1 22 0 8 (by decide) (by decide))
  have s3 : (gV σ 0 0 12).toInt = (gV σ 22 0 8).toInt := hs
  have l1 : SameL σ τ := SameL.rf.fr f1 (by simp) (by decide)
  have g1 : (a1.toInt.toNat) < 8 → (gV σ 20 (a1.toInt.toNat) 1).toInt = (gV τ 26 0 (a1.toInt.toNat)).toInt ∧ -1 ≤ (gV τ 26 0 (a1.toInt.toNat)).toInt ∧ (0 ≤ (gV τ 26 0 (a1.toInt.toNat)).toInt → (gV σ 20 (a1.toInt.toNat) 2).toInt = (gV τ 27 0 (a1.toInt.toNat)).toInt) := fun hj => by
    rw [(l1 (a1.toInt.toNat)).1, (l1 (a1.toInt.toNat)).2]
    exact ⟨congrArg Int32.toInt (h.1 (a1.toInt.toNat) hj).1, (h.1 (a1.toInt.toNat) hj).2.1, fun q => congrArg Int32.toInt ((h.1 (a1.toInt.toNat) hj).2.2 q)⟩
  have ea : 0 ≤ a1.toInt ∧ a1.toInt ≤ 7 → 0 ≤ (gV τ 26 0 (a1.toInt.toNat)).toInt → S.2.1 ≤ (gV τ 27 0 (a1.toInt.toNat)).toInt → (AlI σ (a1.toInt.toNat) S.2.1 (-1) (S.1 - 1) ↔ AlJ τ (a1.toInt.toNat) S.2.1 (-1) (S.1 - 1)) := fun z y x => by
    rw [(l1 _).1] at y
    rw [(l1 _).2] at x
    rw [AlJ.eq (σ := σ) (τ := τ) (fun k => f1.1 25 0 k (by simp) (by decide))]
    exact hi.all (by omega) y x
  rcases hC with ⟨c0, c1⟩ | ⟨c0, c1, c2⟩ | ⟨c0, c1, c2⟩ | ⟨c0, c1, c2, c3⟩ | ⟨c0, c1, c2, c3, c4⟩ | ⟨c0, c1, c2, c3, c4⟩ <;> rcases hM with ⟨m0, m1⟩ | ⟨m0, m1, m2⟩ | ⟨m0, m1, m2⟩ | ⟨m0, m1, m2, m3⟩ | ⟨m0, m1, m2, m3, m4⟩ | ⟨m0, m1, m2, m3, m4⟩
  · show (gV υ 0 0 12).toInt = (gV υ 22 0 8).toInt; omega
  · show (gV υ 0 0 12).toInt = (gV υ 22 0 8).toInt; omega
  · exfalso
    have q : (a1.toInt.toNat) < 8 → _ := g1
    first | omega | (have q2 := g1 (by omega); omega)
  · exfalso
    have q : (a1.toInt.toNat) < 8 → _ := g1
    first | omega | (have q2 := g1 (by omega); omega)
  · exfalso
    have q : (a1.toInt.toNat) < 8 → _ := g1
    first | omega | (have q2 := g1 (by omega); omega)
  · exfalso
    have q : (a1.toInt.toNat) < 8 → _ := g1
    first | omega | (have q2 := g1 (by omega); omega)
  · show (gV υ 0 0 12).toInt = (gV υ 22 0 8).toInt; omega
  · show (gV υ 0 0 12).toInt = (gV υ 22 0 8).toInt; omega
  · exfalso
    have q : (a1.toInt.toNat) < 8 → _ := g1
    first | omega | (have q2 := g1 (by omega); omega)
  · exfalso
    have q : (a1.toInt.toNat) < 8 → _ := g1
    first | omega | (have q2 := g1 (by omega); omega)
  · exfalso
    have q : (a1.toInt.toNat) < 8 → _ := g1
    first | omega | (have q2 := g1 (by omega); omega)
  · exfalso
    have q : (a1.toInt.toNat) < 8 → _ := g1
    first | omega | (have q2 := g1 (by omega); omega)
  · exfalso
    have q : (a1.toInt.toNat) < 8 → _ := g1
    first | omega | (have q2 := g1 (by omega); omega)
  · exfalso
    have q : (a1.toInt.toNat) < 8 → _ := g1
    first | omega | (have q2 := g1 (by omega); omega)
  · show (gV υ 0 0 12).toInt = (gV υ 22 0 8).toInt; omega
  · exfalso
    have q : (a1.toInt.toNat) < 8 → _ := g1
    first | omega | (have q2 := g1 (by omega); omega)
  · exfalso
    have q : (a1.toInt.toNat) < 8 → _ := g1
    first | omega | (have q2 := g1 (by omega); omega)
  · exfalso
    have q : (a1.toInt.toNat) < 8 → _ := g1
    first | omega | (have q2 := g1 (by omega); omega)
  · exfalso
    have q : (a1.toInt.toNat) < 8 → _ := g1
    first | omega | (have q2 := g1 (by omega); omega)
  · exfalso
    have q : (a1.toInt.toNat) < 8 → _ := g1
    first | omega | (have q2 := g1 (by omega); omega)
  · exfalso
    have q : (a1.toInt.toNat) < 8 → _ := g1
    first | omega | (have q2 := g1 (by omega); omega)
  · show (gV υ 0 0 12).toInt = (gV υ 22 0 8).toInt; omega
  · exfalso
    have q : (a1.toInt.toNat) < 8 → _ := g1
    first | omega | (have q2 := g1 (by omega); omega)
  · exfalso
    have q : (a1.toInt.toNat) < 8 → _ := g1
    first | omega | (have q2 := g1 (by omega); omega)
  · exfalso
    have q : (a1.toInt.toNat) < 8 → _ := g1
    first | omega | (have q2 := g1 (by omega); omega)
  · exfalso
    have q : (a1.toInt.toNat) < 8 → _ := g1
    first | omega | (have q2 := g1 (by omega); omega)
  · exfalso
    have q : (a1.toInt.toNat) < 8 → _ := g1
    first | omega | (have q2 := g1 (by omega); omega)
  · exfalso
    have q : (a1.toInt.toNat) < 8 → _ := g1
    first | omega | (have q2 := g1 (by omega); omega)
  · show (gV υ 0 0 12).toInt = (gV υ 22 0 8).toInt; omega
  · have q := g1 (by omega)
    exact absurd ((ea (by omega) (by omega) (by omega)).mpr m3) c3
  · exfalso
    have q : (a1.toInt.toNat) < 8 → _ := g1
    first | omega | (have q2 := g1 (by omega); omega)
  · exfalso
    have q : (a1.toInt.toNat) < 8 → _ := g1
    first | omega | (have q2 := g1 (by omega); omega)
  · exfalso
    have q : (a1.toInt.toNat) < 8 → _ := g1
    first | omega | (have q2 := g1 (by omega); omega)
  · exfalso
    have q : (a1.toInt.toNat) < 8 → _ := g1
    first | omega | (have q2 := g1 (by omega); omega)
  · have q := g1 (by omega)
    exact absurd ((ea (by omega) (by omega) (by omega)).mp c3) m3
  · show (gV υ 0 0 12).toInt = (gV υ 22 0 8).toInt; omega
theorem RQ.bellsB {σ τ υ : Sg} {a1 a2 a3 : Int32} (h : Rel σ) (hi : RI σ) (hs : ST σ) (f1 : Fr MS_X11_bellsQ AS_X11_bellsQ σ τ) (f2 : Fr [(22, 8)] [] τ υ) (hC : BLC σ τ a1 a3 a2.toInt) (hM : BLM τ υ a1 a3 a2.toInt) : ST υ := by
  have s1 : (gV υ 0 0 12).toInt = (gV τ 0 0 12).toInt := congrArg Int32.toInt (f2.1 0 0 12 (by decide) (by decide))
  have s2 : (gV τ 22 0 8).toInt = (gV σ 22 0 8).toInt := congrArg Int32.toInt (f1.1 22 0 8 (by decide) (by decide))
  have s3 : (gV σ 0 0 12).toInt = (gV σ 22 0 8).toInt := hs
  have l1 : SameL σ τ := SameL.rf.fr f1 (by simp) (by decide)
  have g1 : (a1.toInt.toNat) < 8 → (gV σ 20 (a1.toInt.toNat) 1).toInt = (gV τ 26 0 (a1.toInt.toNat)).toInt ∧ -1 ≤ (gV τ 26 0 (a1.toInt.toNat)).toInt ∧ (0 ≤ (gV τ 26 0 (a1.toInt.toNat)).toInt → (gV σ 20 (a1.toInt.toNat) 2).toInt = (gV τ 27 0 (a1.toInt.toNat)).toInt) := fun hj => by
    rw [(l1 (a1.toInt.toNat)).1, (l1 (a1.toInt.toNat)).2]
    exact ⟨congrArg Int32.toInt (h.1 (a1.toInt.toNat) hj).1, (h.1 (a1.toInt.toNat) hj).2.1, fun q => congrArg Int32.toInt ((h.1 (a1.toInt.toNat) hj).2.2 q)⟩
  have ea : 0 ≤ a1.toInt ∧ a1.toInt ≤ 7 → 0 ≤ (gV τ 26 0 (a1.toInt.toNat)).toInt → a2.toInt ≤ (gV τ 27 0 (a1.toInt.toNat)).toInt → (AlI σ (a1.toInt.toNat) a2.toInt 1 20 ↔ AlJ τ (a1.toInt.toNat) a2.toInt 1 20) := fun z y x => by
    rw [(l1 _).1] at y
    rw [(l1 _).2] at x
    rw [AlJ.eq (σ := σ) (τ := τ) (fun k => f1.1 25 0 k (by simp) (by decide))]
    exact hi.all (by omega) y x
  rcases hC with ⟨c0, c1⟩ | ⟨c0, c1, c2⟩ | ⟨c0, c1, c2, c3⟩ | ⟨c0, c1, c2, c3, c4⟩ | ⟨c0, c1, c2, c3, c4⟩ <;> rcases hM with ⟨m0, m1⟩ | ⟨m0, m1, m2⟩ | ⟨m0, m1, m2, m3⟩ | ⟨m0, m1, m2, m3, m4⟩ | ⟨m0, m1, m2, m3, m4⟩
  · show (gV υ 0 0 12).toInt = (gV υ 22 0 8).toInt; omega
  · show (gV υ 0 0 12).toInt = (gV υ 22 0 8).toInt; omega
  · exfalso
    have q : (a1.toInt.toNat) < 8 → _ := g1
    first | omega | (have q2 := g1 (by omega); omega)
  · exfalso
    have q : (a1.toInt.toNat) < 8 → _ := g1
    first | omega | (have q2 := g1 (by omega); omega)
  · exfalso
    have q : (a1.toInt.toNat) < 8 → _ := g1
    first | omega | (have q2 := g1 (by omega); omega)
  · show (gV υ 0 0 12).toInt = (gV υ 22 0 8).toInt; omega
  · show (gV υ 0 0 12).toInt = (gV υ 22 0 8).toInt; omega
  · exfalso
    have q : (a1.toInt.toNat) < 8 → _ := g1
    first | omega | (have q2 := g1 (by omega); omega)
  · exfalso
    have q : (a1.toInt.toNat) < 8 → _ := g1
    first | omega | (have q2 := g1 (by omega); omega)
  · exfalso
    have q : (a1.toInt.toNat) < 8 → _ := g1
    first | omega | (have q2 := g1 (by omega); omega)
  · exfalso
    have q : (a1.toInt.toNat) < 8 → _ := g1
    first | omega | (have q2 := g1 (by omega); omega)
  · exfalso
    have q : (a1.toInt.toNat) < 8 → _ := g1
    first | omega | (have q2 := g1 (by omega); omega)
  · show (gV υ 0 0 12).toInt = (gV υ 22 0 8).toInt; omega
  · exfalso
    have q : (a1.toInt.toNat) < 8 → _ := g1
    first | omega | (have q2 := g1 (by omega); omega)
  · exfalso
    have q : (a1.toInt.toNat) < 8 → _ := g1
    first | omega | (have q2 := g1 (by omega); omega)
  · exfalso
    have q : (a1.toInt.toNat) < 8 → _ := g1
    first | omega | (have q2 := g1 (by omega); omega)
  · exfalso
    have q : (a1.toInt.toNat) < 8 → _ := g1
    first | omega | (have q2 := g1 (by omega); omega)
  · exfalso
    have q : (a1.toInt.toNat) < 8 → _ := g1
    first | omega | (have q2 := g1 (by omega); omega)
  · show (gV υ 0 0 12).toInt = (gV υ 22 0 8).toInt; omega
  · have q := g1 (by omega)
    exact absurd ((ea (by omega) (by omega) (by omega)).mpr m3) c3
  · exfalso
    have q : (a1.toInt.toNat) < 8 → _ := g1
    first | omega | (have q2 := g1 (by omega); omega)
  · exfalso
    have q : (a1.toInt.toNat) < 8 → _ := g1
    first | omega | (have q2 := g1 (by omega); omega)
  · exfalso
    have q : (a1.toInt.toNat) < 8 → _ := g1
    first | omega | (have q2 := g1 (by omega); omega)
  · have q := g1 (by omega)
    exact absurd ((ea (by omega) (by omega) (by omega)).mp c3) m3
  · show (gV υ 0 0 12).toInt = (gV υ 22 0 8).toInt; omega
theorem RQ.statusB {σ τ : Sg} {r1 r2 : Int32} (hs : ST σ) (f1 : Fr MS_X11_statusQ AS_X11_statusQ σ τ) (hC : r1.toInt = (gV σ 0 0 12).toInt) (hM : r2.toInt = (gV τ 22 0 8).toInt) : r1.toInt = r2.toInt := by
  rw [hC, hM, f1.1 22 0 8 (by decide) (by decide)]
  exact hs
section LAW
set_option maxHeartbeats 8000000 in
set_option maxRecDepth 100000 in
theorem law_loop {p : Program} {e : Env} {s : State} {m : MethodId} {below : List Frame} {meth : Method} {c : Code} (l : Launch) {b L : Nat} {xs : Nat → Int32} (hL : L ≤ 3072) (C0 : lw_At p s m meth c b L xs) (G : Gt) (hG0 : G.2.2.2.1 = s.heap.size) : ∀ (n : Nat) (τ : Sg) (y3 : Int32) (S : Stt) (I : Nat → Stt), Inv τ → Rel τ → RT τ → CA τ S I → MA τ S I → RI τ → ST τ → IV y3 0 3078 → (3078 - y3.toInt).toNat < n → MW p l e room_1 s m #[Value.ref b] below meth c (lw_Z below #[Value.ref b] s) 4 G (250 + 8 * y3.toInt.toNat) (5300 + 24 * y3.toInt.toNat) 18 [some (.ref b), some (.ref (G.1 0 0)), some (.ref (G.1 22 0)), some (.int y3)] [] τ := by
  obtain ⟨hx, hb, hr, hml, hown, hts, hX, hbl, hlk, hgv⟩ := C0
  have C : Cx p s m #[Value.ref b] c cL_law 4 "LeanTowerLaw" := ⟨hx, hb, hml, hown, fun w hw => hts w (List.mem_filter.mp hw).1⟩
  have hbA : ¬ aG G b := fun q => by have q2 : G.2.2.2.1 ≤ b := q; omega
  have hL31 : L < 2 ^ 31 := by omega
  have k0 : (0 : Int32).toInt = 0 := by decide
  have k1 : (1 : Int32).toInt = 1 := by decide
  intro n
  induction n with
  | zero => intro τ y3 S I iτ rτ tτ cτ mτ jτ oτ b_y3 hm; exact absurd hm (Nat.not_lt_zero _)
  | succ n ih18 =>
      intro τ y3 S I iτ rτ tτ cτ mτ jτ oτ b_y3 hm18
      refine m_iload_n C dL_law_18 rfl rfl ?_
      refine m_aload_n C dL_law_19 rfl rfl ?_
      refine m_slen C hX hbl hbA hL31 dL_law_20 (fun x1 tx1 => ?_)
      have b2 : IV x1 0 3072 := ⟨by omega, by omega⟩
      refine m_bipush (v := 6) C dL_law_21 (by decide) ?_
      refine m_isub C dL_law_23 ?_
      refine m_topi (fun x3 ex3 => ?_)
      have tx3 : x3.toInt = x1.toInt - 6 := by rw [ex3, ti_subv b2 kc_6 (by decide), kt_6]
      have b4 : IV x3 (-6) 3066 := by rw [ex3]; exact iv_sub b2 kc_6 (by decide)
      refine m_icmp_gt (tgt := 1034) C dL_law_24 (by decide) (fun c5 => ?_) (fun c5 => ?_)
      · have f6 : x3.toInt < y3.toInt := by
          have q : _ := c5
          simp only [ti_nle, ti_nlt, ti_le, ti_lt, ti_eq, ti_ne, Classical.not_not] at q
          omega
        refine m_iconst (v := 1) C dL_law_1034 (by decide) ?_
        exact m_law1 C hG0 hr hlk ⟨by omega, by omega⟩ dL_law_1035
      · have f7 : y3.toInt ≤ x3.toInt := by
          have q : _ := c5
          simp only [ti_nle, ti_nlt, ti_le, ti_lt, ti_eq, ti_ne, Classical.not_not] at q
          omega
        have b8 : IV y3 0 3066 := ⟨by have q1 := b_y3; have q2 := b4; omega, by have q1 := b_y3; have q2 := b4; omega⟩
        have b9 : IV x3 0 3066 := ⟨by have q1 := b_y3; have q2 := b4; omega, by have q1 := b_y3; have q2 := b4; omega⟩
        refine m_aload_n C dL_law_27 rfl rfl ?_
        refine m_iload_n C dL_law_28 rfl rfl ?_
        refine m_sld C hX hbl hbA ⟨by omega, by omega⟩ dL_law_29 ?_
        refine m_topi (fun x10 ex10 => ?_)
        refine m_bipush (v := 31) C dL_law_30 (by decide) ?_
        refine m_iand C dL_law_32 ?_
        refine m_topi (fun x11 ex11 => ?_)
        have b12 : IV x11 0 31 := by rw [ex11]; exact iv_and_r kc_31 (by decide)
        by_cases s13 : x11.toInt < 0 ∨ 29 < x11.toInt
        · refine m_tableOut (tgt := 1028) C dL_law_33 s13 (by decide) ?_
          obtain ⟨x14, ex14⟩ : ∃ y : Int32, y = y3 + 6 := ⟨_, rfl⟩
          have tx14 : x14.toInt = y3.toInt + 6 := by rw [ex14, ti_addv b8 kc_6 (by decide), kt_6]
          have b15 : IV x14 6 3072 := by rw [ex14]; exact iv_add b8 kc_6 (by decide)
          refine m_iinc (v := x14) (L1 := [some (.ref b), some (.ref (G.1 0 0)), some (.ref (G.1 22 0)), some (.int x14)]) C dL_law_1028 rfl (by rw [ex14]; rfl) (by decide) rfl rfl ?_
          refine m_goto (tgt := 18) C dL_law_1031 (by decide) ?_
          refine m_widen (c2 := 250 + 8 * x14.toInt.toNat) (s2 := 5300 + 24 * x14.toInt.toNat) (by omega) (by omega) ?_
          exact ih18 τ x14 S I iτ rτ tτ cτ mτ jτ oτ (iv_wk b15 (by decide)) (by have q := hm18; omega)
        by_cases s16 : x11.toInt = 0
        · refine m_tableIn (tgt := 168) (off := 135) C dL_law_33 (by omega) (by omega) (by rw [s16]; rfl) (by decide) ?_
          have b17 : IV x11 0 0 := ⟨by omega, by omega⟩
          refine m_aload_n C dL_law_168 rfl rfl ?_
          refine m_aload_n C dL_law_169 rfl rfl ?_
          refine m_iload_n C dL_law_170 rfl rfl ?_
          refine m_iconst (v := 1) C dL_law_171 (by decide) ?_
          refine m_iadd C dL_law_172 ?_
          refine m_topi (fun x18 ex18 => ?_)
          have tx18 : x18.toInt = y3.toInt + 1 := by rw [ex18, ti_addv b8 kc_1 (by decide), kt_1]
          have b19 : IV x18 1 3067 := by rw [ex18]; exact iv_add b8 kc_1 (by decide)
          refine m_sld C hX hbl hbA ⟨by omega, by omega⟩ dL_law_173 ?_
          refine m_topi (fun x20 ex20 => ?_)
          refine m_aload_n C dL_law_174 rfl rfl ?_
          refine m_iload_n C dL_law_175 rfl rfl ?_
          refine m_iconst (v := 2) C dL_law_176 (by decide) ?_
          refine m_iadd C dL_law_177 ?_
          refine m_topi (fun x21 ex21 => ?_)
          have tx21 : x21.toInt = y3.toInt + 2 := by rw [ex21, ti_addv b8 kc_2 (by decide), kt_2]
          have b22 : IV x21 2 3068 := by rw [ex21]; exact iv_add b8 kc_2 (by decide)
          refine m_sld C hX hbl hbA ⟨by omega, by omega⟩ dL_law_178 ?_
          refine m_topi (fun x23 ex23 => ?_)
          refine m_aload_n C dL_law_179 rfl rfl ?_
          refine m_iload_n C dL_law_180 rfl rfl ?_
          refine m_iconst (v := 3) C dL_law_181 (by decide) ?_
          refine m_iadd C dL_law_182 ?_
          refine m_topi (fun x24 ex24 => ?_)
          have tx24 : x24.toInt = y3.toInt + 3 := by rw [ex24, ti_addv b8 kc_3 (by decide), kt_3]
          have b25 : IV x24 3 3069 := by rw [ex24]; exact iv_add b8 kc_3 (by decide)
          refine m_sld C hX hbl hbA ⟨by omega, by omega⟩ dL_law_183 ?_
          refine m_topi (fun x26 ex26 => ?_)
          refine m_callV (n := 3) (ci := 10) (st := []) C (c_X11_rowQ l G τ (x20) (x23) (x26) iτ ) (by decide) (by decide) rfl rfl rfl q1_229 q1_226 q1_227 q1_228 q1_1 (by decide +kernel) rfl (by decide) ⟨by show (250 + 8 * y3.toInt.toNat) + 0 ≤ 600000; omega, by show (5300 + 24 * y3.toInt.toNat) + 0 ≤ 7302250; omega⟩ rfl (Nat.le_of_ble_eq_true rfl) dL_law_184 ?_
          rintro _ τ27 ⟨x30, rfl, i28, f29, b31, h33⟩
          obtain ⟨h33, h33t0, h33t1⟩ := h33
          have r34 : MA τ27 S I := mτ.fr iτ f29 (by decide) (by decide)
          have r35 : RT τ27 := tτ.call f29 (by decide) (by decide)
          have r36 : CA τ27 S I := cτ.fr f29 (by decide) (by decide)
          have z37 := Hid.mk h33
          clear h33
          have z38 := Hid.mk h33t0
          clear h33t0
          have z39 := Hid.mk h33t1
          clear h33t1
          show MW p l e _ s m _ below meth c _ 4 G (250 + 8 * y3.toInt.toNat) (5300 + 24 * y3.toInt.toNat) 187 [some (.ref b), some (.ref (G.1 0 0)), some (.ref (G.1 22 0)), some (.int y3)] [.int x30] τ27
          refine m_pop C dL_law_187 rfl ?_
          refine m_aload_n C dL_law_188 rfl rfl ?_
          refine m_aload_n C dL_law_189 rfl rfl ?_
          refine m_iload_n C dL_law_190 rfl rfl ?_
          refine m_iconst (v := 1) C dL_law_191 (by decide) ?_
          refine m_iadd C dL_law_192 ?_
          refine m_topi (fun x40 ex40 => ?_)
          have tx40 : x40.toInt = y3.toInt + 1 := by rw [ex40, ti_addv b8 kc_1 (by decide), kt_1]
          have b41 : IV x40 1 3067 := by rw [ex40]; exact iv_add b8 kc_1 (by decide)
          refine m_sld C hX hbl hbA ⟨by omega, by omega⟩ dL_law_193 ?_
          refine m_eqs (w := x20) (by rw [ex20, show x40.toInt.toNat = x18.toInt.toNat by omega]) ?_
          refine m_aload_n C dL_law_194 rfl rfl ?_
          refine m_iload_n C dL_law_195 rfl rfl ?_
          refine m_iconst (v := 2) C dL_law_196 (by decide) ?_
          refine m_iadd C dL_law_197 ?_
          refine m_topi (fun x42 ex42 => ?_)
          have tx42 : x42.toInt = y3.toInt + 2 := by rw [ex42, ti_addv b8 kc_2 (by decide), kt_2]
          have b43 : IV x42 2 3068 := by rw [ex42]; exact iv_add b8 kc_2 (by decide)
          refine m_sld C hX hbl hbA ⟨by omega, by omega⟩ dL_law_198 ?_
          refine m_eqs (w := x23) (by rw [ex23, show x42.toInt.toNat = x21.toInt.toNat by omega]) ?_
          refine m_aload_n C dL_law_199 rfl rfl ?_
          refine m_iload_n C dL_law_200 rfl rfl ?_
          refine m_iconst (v := 3) C dL_law_201 (by decide) ?_
          refine m_iadd C dL_law_202 ?_
          refine m_topi (fun x44 ex44 => ?_)
          have tx44 : x44.toInt = y3.toInt + 3 := by rw [ex44, ti_addv b8 kc_3 (by decide), kt_3]
          have b45 : IV x44 3 3069 := by rw [ex44]; exact iv_add b8 kc_3 (by decide)
          refine m_sld C hX hbl hbA ⟨by omega, by omega⟩ dL_law_203 ?_
          refine m_eqs (w := x26) (by rw [ex26, show x44.toInt.toNat = x24.toInt.toNat by omega]) ?_
          refine m_callV (n := 3) (ci := 11) (st := []) C (c_X12_rowQ l G τ27 (x20) (x23) (x26) i28 ) (by decide) (by decide) rfl rfl rfl q4_183 q4_180 q4_181 q4_182 q1_7 (by decide +kernel) rfl (by decide) ⟨by show (250 + 8 * y3.toInt.toNat) + 0 ≤ 600000; omega, by show (5300 + 24 * y3.toInt.toNat) + 0 ≤ 7302250; omega⟩ rfl (Nat.le_of_ble_eq_true rfl) dL_law_204 ?_
          rintro _ τ46 ⟨x49, rfl, i47, f48, b50, h52⟩
          obtain ⟨h52, h52t0, h52t1⟩ := h52
          have r54 : RT τ46 := r35.call f48 (by decide) (by decide)
          have r55 : CA τ46 S I := r36.fr f48 (by decide) (by decide)
          have r56 : MA τ46 S I := r34.fr i28 f48 (by decide) (by decide)
          have g53 := Rel.rowB rτ f29 f48 z37 h52
          have r57 : Rel τ46 := g53.1
          have q58 := g53.2
          have g59 := RQ.rowB rτ iτ jτ oτ f29 f48 z37 z38 z39 h52 h52t0 h52t1
          have r60 : RI τ46 := g59.1
          have r61 : ST τ46 := g59.2
          clear h52 z37 z38 z39 h52t0 h52t1
          show MW p l e _ s m _ below meth c _ 4 G (250 + 8 * y3.toInt.toNat) (5300 + 24 * y3.toInt.toNat) 207 [some (.ref b), some (.ref (G.1 0 0)), some (.ref (G.1 22 0)), some (.int y3)] [.int x49] τ46
          refine m_pop C dL_law_207 rfl ?_
          refine m_goto (tgt := 1028) C dL_law_208 (by decide) ?_
          obtain ⟨x62, ex62⟩ : ∃ y : Int32, y = y3 + 6 := ⟨_, rfl⟩
          have tx62 : x62.toInt = y3.toInt + 6 := by rw [ex62, ti_addv b8 kc_6 (by decide), kt_6]
          have b63 : IV x62 6 3072 := by rw [ex62]; exact iv_add b8 kc_6 (by decide)
          refine m_iinc (v := x62) (L1 := [some (.ref b), some (.ref (G.1 0 0)), some (.ref (G.1 22 0)), some (.int x62)]) C dL_law_1028 rfl (by rw [ex62]; rfl) (by decide) rfl rfl ?_
          refine m_goto (tgt := 18) C dL_law_1031 (by decide) ?_
          refine m_widen (c2 := 250 + 8 * x62.toInt.toNat) (s2 := 5300 + 24 * x62.toInt.toNat) (by omega) (by omega) ?_
          exact ih18 τ46 x62 S I i47 r57 r54 r55 r56 r60 r61 (iv_wk b63 (by decide)) (by have q := hm18; omega)
        by_cases s64 : x11.toInt = 1
        · refine m_tableIn (tgt := 211) (off := 178) C dL_law_33 (by omega) (by omega) (by rw [s64]; rfl) (by decide) ?_
          have b65 : IV x11 1 1 := ⟨by omega, by omega⟩
          refine m_aload_n C dL_law_211 rfl rfl ?_
          refine m_aload_n C dL_law_212 rfl rfl ?_
          refine m_iload_n C dL_law_213 rfl rfl ?_
          refine m_iconst (v := 1) C dL_law_214 (by decide) ?_
          refine m_iadd C dL_law_215 ?_
          refine m_topi (fun x66 ex66 => ?_)
          have tx66 : x66.toInt = y3.toInt + 1 := by rw [ex66, ti_addv b8 kc_1 (by decide), kt_1]
          have b67 : IV x66 1 3067 := by rw [ex66]; exact iv_add b8 kc_1 (by decide)
          refine m_sld C hX hbl hbA ⟨by omega, by omega⟩ dL_law_216 ?_
          refine m_topi (fun x68 ex68 => ?_)
          refine m_aload_n C dL_law_217 rfl rfl ?_
          refine m_iload_n C dL_law_218 rfl rfl ?_
          refine m_iconst (v := 2) C dL_law_219 (by decide) ?_
          refine m_iadd C dL_law_220 ?_
          refine m_topi (fun x69 ex69 => ?_)
          have tx69 : x69.toInt = y3.toInt + 2 := by rw [ex69, ti_addv b8 kc_2 (by decide), kt_2]
          have b70 : IV x69 2 3068 := by rw [ex69]; exact iv_add b8 kc_2 (by decide)
          refine m_sld C hX hbl hbA ⟨by omega, by omega⟩ dL_law_221 ?_
          refine m_topi (fun x71 ex71 => ?_)
          refine m_aload_n C dL_law_222 rfl rfl ?_
          refine m_iload_n C dL_law_223 rfl rfl ?_
          refine m_iconst (v := 3) C dL_law_224 (by decide) ?_
          refine m_iadd C dL_law_225 ?_
          refine m_topi (fun x72 ex72 => ?_)
          have tx72 : x72.toInt = y3.toInt + 3 := by rw [ex72, ti_addv b8 kc_3 (by decide), kt_3]
          have b73 : IV x72 3 3069 := by rw [ex72]; exact iv_add b8 kc_3 (by decide)
          refine m_sld C hX hbl hbA ⟨by omega, by omega⟩ dL_law_226 ?_
          refine m_topi (fun x74 ex74 => ?_)
          refine m_callV (n := 3) (ci := 10) (st := []) C (c_X11_setQ l G τ (x68) (x71) (x74) iτ ) (by decide) (by decide) rfl rfl rfl q2_11 q2_8 q2_9 q2_10 q1_1 (by decide +kernel) rfl (by decide) ⟨by show (250 + 8 * y3.toInt.toNat) + 0 ≤ 600000; omega, by show (5300 + 24 * y3.toInt.toNat) + 0 ≤ 7302250; omega⟩ rfl (Nat.le_of_ble_eq_true rfl) dL_law_227 ?_
          rintro _ τ75 ⟨x78, rfl, i76, f77, b79, h81⟩
          obtain ⟨h81, h81t0, h81t1⟩ := h81
          have r82 : MA τ75 S I := mτ.fr iτ f77 (by decide) (by decide)
          have r83 : RT τ75 := tτ.call f77 (by decide) (by decide)
          have r84 : CA τ75 S I := cτ.fr f77 (by decide) (by decide)
          have z85 := Hid.mk h81
          clear h81
          have z86 := Hid.mk h81t0
          clear h81t0
          have z87 := Hid.mk h81t1
          clear h81t1
          have r88 : Rel τ75 := rτ.call f77 (by decide) (by decide)
          show MW p l e _ s m _ below meth c _ 4 G (250 + 8 * y3.toInt.toNat) (5300 + 24 * y3.toInt.toNat) 230 [some (.ref b), some (.ref (G.1 0 0)), some (.ref (G.1 22 0)), some (.int y3)] [.int x78] τ75
          refine m_pop C dL_law_230 rfl ?_
          refine m_aload_n C dL_law_231 rfl rfl ?_
          refine m_aload_n C dL_law_232 rfl rfl ?_
          refine m_iload_n C dL_law_233 rfl rfl ?_
          refine m_iconst (v := 1) C dL_law_234 (by decide) ?_
          refine m_iadd C dL_law_235 ?_
          refine m_topi (fun x89 ex89 => ?_)
          have tx89 : x89.toInt = y3.toInt + 1 := by rw [ex89, ti_addv b8 kc_1 (by decide), kt_1]
          have b90 : IV x89 1 3067 := by rw [ex89]; exact iv_add b8 kc_1 (by decide)
          refine m_sld C hX hbl hbA ⟨by omega, by omega⟩ dL_law_236 ?_
          refine m_eqs (w := x68) (by rw [ex68, show x89.toInt.toNat = x66.toInt.toNat by omega]) ?_
          refine m_aload_n C dL_law_237 rfl rfl ?_
          refine m_iload_n C dL_law_238 rfl rfl ?_
          refine m_iconst (v := 2) C dL_law_239 (by decide) ?_
          refine m_iadd C dL_law_240 ?_
          refine m_topi (fun x91 ex91 => ?_)
          have tx91 : x91.toInt = y3.toInt + 2 := by rw [ex91, ti_addv b8 kc_2 (by decide), kt_2]
          have b92 : IV x91 2 3068 := by rw [ex91]; exact iv_add b8 kc_2 (by decide)
          refine m_sld C hX hbl hbA ⟨by omega, by omega⟩ dL_law_241 ?_
          refine m_eqs (w := x71) (by rw [ex71, show x91.toInt.toNat = x69.toInt.toNat by omega]) ?_
          refine m_aload_n C dL_law_242 rfl rfl ?_
          refine m_iload_n C dL_law_243 rfl rfl ?_
          refine m_iconst (v := 3) C dL_law_244 (by decide) ?_
          refine m_iadd C dL_law_245 ?_
          refine m_topi (fun x93 ex93 => ?_)
          have tx93 : x93.toInt = y3.toInt + 3 := by rw [ex93, ti_addv b8 kc_3 (by decide), kt_3]
          have b94 : IV x93 3 3069 := by rw [ex93]; exact iv_add b8 kc_3 (by decide)
          refine m_sld C hX hbl hbA ⟨by omega, by omega⟩ dL_law_246 ?_
          refine m_eqs (w := x74) (by rw [ex74, show x93.toInt.toNat = x72.toInt.toNat by omega]) ?_
          refine m_callV (n := 3) (ci := 11) (st := []) C (c_X12_setQ l G τ75 (x68) (x71) (x74) i76 ) (by decide) (by decide) rfl rfl rfl q4_205 q4_202 q4_203 q4_204 q1_7 (by decide +kernel) rfl (by decide) ⟨by show (250 + 8 * y3.toInt.toNat) + 0 ≤ 600000; omega, by show (5300 + 24 * y3.toInt.toNat) + 0 ≤ 7302250; omega⟩ rfl (Nat.le_of_ble_eq_true rfl) dL_law_247 ?_
          rintro _ τ95 ⟨x98, rfl, i96, f97, b99, h101⟩
          obtain ⟨h101, h101t0, h101t1⟩ := h101
          have r103 : RT τ95 := r83.call f97 (by decide) (by decide)
          have r104 : CA τ95 S I := r84.fr f97 (by decide) (by decide)
          have r105 : MA τ95 S I := r82.fr i76 f97 (by decide) (by decide)
          have g102 := Rel.setB rτ f77 f97 z85 h101
          have r106 : Rel τ95 := r88.call f97 (by decide) (by decide)
          have g107 := RQ.setB rτ iτ jτ oτ f77 f97 z85 z86 z87 h101 h101t0 h101t1
          have r108 : RI τ95 := g107.1
          have r109 : ST τ95 := g107.2
          clear h101 z85 z86 z87 h101t0 h101t1
          show MW p l e _ s m _ below meth c _ 4 G (250 + 8 * y3.toInt.toNat) (5300 + 24 * y3.toInt.toNat) 250 [some (.ref b), some (.ref (G.1 0 0)), some (.ref (G.1 22 0)), some (.int y3)] [.int x98] τ95
          refine m_pop C dL_law_250 rfl ?_
          refine m_goto (tgt := 1028) C dL_law_251 (by decide) ?_
          obtain ⟨x110, ex110⟩ : ∃ y : Int32, y = y3 + 6 := ⟨_, rfl⟩
          have tx110 : x110.toInt = y3.toInt + 6 := by rw [ex110, ti_addv b8 kc_6 (by decide), kt_6]
          have b111 : IV x110 6 3072 := by rw [ex110]; exact iv_add b8 kc_6 (by decide)
          refine m_iinc (v := x110) (L1 := [some (.ref b), some (.ref (G.1 0 0)), some (.ref (G.1 22 0)), some (.int x110)]) C dL_law_1028 rfl (by rw [ex110]; rfl) (by decide) rfl rfl ?_
          refine m_goto (tgt := 18) C dL_law_1031 (by decide) ?_
          refine m_widen (c2 := 250 + 8 * x110.toInt.toNat) (s2 := 5300 + 24 * x110.toInt.toNat) (by omega) (by omega) ?_
          exact ih18 τ95 x110 S I i96 r106 r103 r104 r105 r108 r109 (iv_wk b111 (by decide)) (by have q := hm18; omega)
        by_cases s112 : x11.toInt = 2
        · refine m_tableIn (tgt := 254) (off := 221) C dL_law_33 (by omega) (by omega) (by rw [s112]; rfl) (by decide) ?_
          have b113 : IV x11 2 2 := ⟨by omega, by omega⟩
          refine m_aload_n C dL_law_254 rfl rfl ?_
          refine m_aload_n C dL_law_255 rfl rfl ?_
          refine m_iload_n C dL_law_256 rfl rfl ?_
          refine m_iconst (v := 1) C dL_law_257 (by decide) ?_
          refine m_iadd C dL_law_258 ?_
          refine m_topi (fun x114 ex114 => ?_)
          have tx114 : x114.toInt = y3.toInt + 1 := by rw [ex114, ti_addv b8 kc_1 (by decide), kt_1]
          have b115 : IV x114 1 3067 := by rw [ex114]; exact iv_add b8 kc_1 (by decide)
          refine m_sld C hX hbl hbA ⟨by omega, by omega⟩ dL_law_259 ?_
          refine m_topi (fun x116 ex116 => ?_)
          refine m_aload_n C dL_law_260 rfl rfl ?_
          refine m_iload_n C dL_law_261 rfl rfl ?_
          refine m_iconst (v := 2) C dL_law_262 (by decide) ?_
          refine m_iadd C dL_law_263 ?_
          refine m_topi (fun x117 ex117 => ?_)
          have tx117 : x117.toInt = y3.toInt + 2 := by rw [ex117, ti_addv b8 kc_2 (by decide), kt_2]
          have b118 : IV x117 2 3068 := by rw [ex117]; exact iv_add b8 kc_2 (by decide)
          refine m_sld C hX hbl hbA ⟨by omega, by omega⟩ dL_law_264 ?_
          refine m_topi (fun x119 ex119 => ?_)
          refine m_aload_n C dL_law_265 rfl rfl ?_
          refine m_iload_n C dL_law_266 rfl rfl ?_
          refine m_iconst (v := 3) C dL_law_267 (by decide) ?_
          refine m_iadd C dL_law_268 ?_
          refine m_topi (fun x120 ex120 => ?_)
          have tx120 : x120.toInt = y3.toInt + 3 := by rw [ex120, ti_addv b8 kc_3 (by decide), kt_3]
          have b121 : IV x120 3 3069 := by rw [ex120]; exact iv_add b8 kc_3 (by decide)
          refine m_sld C hX hbl hbA ⟨by omega, by omega⟩ dL_law_269 ?_
          refine m_topi (fun x122 ex122 => ?_)
          refine m_aload_n C dL_law_270 rfl rfl ?_
          refine m_iload_n C dL_law_271 rfl rfl ?_
          refine m_iconst (v := 4) C dL_law_272 (by decide) ?_
          refine m_iadd C dL_law_273 ?_
          refine m_topi (fun x123 ex123 => ?_)
          have tx123 : x123.toInt = y3.toInt + 4 := by rw [ex123, ti_addv b8 kc_4 (by decide), kt_4]
          have b124 : IV x123 4 3070 := by rw [ex123]; exact iv_add b8 kc_4 (by decide)
          refine m_sld C hX hbl hbA ⟨by omega, by omega⟩ dL_law_274 ?_
          refine m_topi (fun x125 ex125 => ?_)
          refine m_aload_n C dL_law_275 rfl rfl ?_
          refine m_iload_n C dL_law_276 rfl rfl ?_
          refine m_iconst (v := 5) C dL_law_277 (by decide) ?_
          refine m_iadd C dL_law_278 ?_
          refine m_topi (fun x126 ex126 => ?_)
          have tx126 : x126.toInt = y3.toInt + 5 := by rw [ex126, ti_addv b8 kc_5 (by decide), kt_5]
          have b127 : IV x126 5 3071 := by rw [ex126]; exact iv_add b8 kc_5 (by decide)
          refine m_sld C hX hbl hbA ⟨by omega, by omega⟩ dL_law_279 ?_
          refine m_topi (fun x128 ex128 => ?_)
          refine m_callV (n := 5) (ci := 10) (st := []) C (c_X11_copyQ l G τ (x116) (x119) (x122) (x125) (x128) iτ ) (by decide) (by decide) rfl rfl rfl q2_23 q2_20 q2_21 q2_22 q1_1 (by decide +kernel) rfl (by decide) ⟨by show (250 + 8 * y3.toInt.toNat) + 0 ≤ 600000; omega, by show (5300 + 24 * y3.toInt.toNat) + 0 ≤ 7302250; omega⟩ rfl (Nat.le_of_ble_eq_true rfl) dL_law_280 ?_
          rintro _ τ129 ⟨x132, rfl, i130, f131, b133, h135⟩
          obtain ⟨h135, h135t0, h135t1⟩ := h135
          have r136 : MA τ129 S I := mτ.fr iτ f131 (by decide) (by decide)
          have r137 : RT τ129 := tτ.call f131 (by decide) (by decide)
          have r138 : CA τ129 S I := cτ.fr f131 (by decide) (by decide)
          have z139 := Hid.mk h135
          clear h135
          have z140 := Hid.mk h135t0
          clear h135t0
          have z141 := Hid.mk h135t1
          clear h135t1
          have r142 : Rel τ129 := rτ.call f131 (by decide) (by decide)
          show MW p l e _ s m _ below meth c _ 4 G (250 + 8 * y3.toInt.toNat) (5300 + 24 * y3.toInt.toNat) 283 [some (.ref b), some (.ref (G.1 0 0)), some (.ref (G.1 22 0)), some (.int y3)] [.int x132] τ129
          refine m_pop C dL_law_283 rfl ?_
          refine m_aload_n C dL_law_284 rfl rfl ?_
          refine m_aload_n C dL_law_285 rfl rfl ?_
          refine m_iload_n C dL_law_286 rfl rfl ?_
          refine m_iconst (v := 1) C dL_law_287 (by decide) ?_
          refine m_iadd C dL_law_288 ?_
          refine m_topi (fun x143 ex143 => ?_)
          have tx143 : x143.toInt = y3.toInt + 1 := by rw [ex143, ti_addv b8 kc_1 (by decide), kt_1]
          have b144 : IV x143 1 3067 := by rw [ex143]; exact iv_add b8 kc_1 (by decide)
          refine m_sld C hX hbl hbA ⟨by omega, by omega⟩ dL_law_289 ?_
          refine m_eqs (w := x116) (by rw [ex116, show x143.toInt.toNat = x114.toInt.toNat by omega]) ?_
          refine m_aload_n C dL_law_290 rfl rfl ?_
          refine m_iload_n C dL_law_291 rfl rfl ?_
          refine m_iconst (v := 2) C dL_law_292 (by decide) ?_
          refine m_iadd C dL_law_293 ?_
          refine m_topi (fun x145 ex145 => ?_)
          have tx145 : x145.toInt = y3.toInt + 2 := by rw [ex145, ti_addv b8 kc_2 (by decide), kt_2]
          have b146 : IV x145 2 3068 := by rw [ex145]; exact iv_add b8 kc_2 (by decide)
          refine m_sld C hX hbl hbA ⟨by omega, by omega⟩ dL_law_294 ?_
          refine m_eqs (w := x119) (by rw [ex119, show x145.toInt.toNat = x117.toInt.toNat by omega]) ?_
          refine m_aload_n C dL_law_295 rfl rfl ?_
          refine m_iload_n C dL_law_296 rfl rfl ?_
          refine m_iconst (v := 3) C dL_law_297 (by decide) ?_
          refine m_iadd C dL_law_298 ?_
          refine m_topi (fun x147 ex147 => ?_)
          have tx147 : x147.toInt = y3.toInt + 3 := by rw [ex147, ti_addv b8 kc_3 (by decide), kt_3]
          have b148 : IV x147 3 3069 := by rw [ex147]; exact iv_add b8 kc_3 (by decide)
          refine m_sld C hX hbl hbA ⟨by omega, by omega⟩ dL_law_299 ?_
          refine m_eqs (w := x122) (by rw [ex122, show x147.toInt.toNat = x120.toInt.toNat by omega]) ?_
          refine m_aload_n C dL_law_300 rfl rfl ?_
          refine m_iload_n C dL_law_301 rfl rfl ?_
          refine m_iconst (v := 4) C dL_law_302 (by decide) ?_
          refine m_iadd C dL_law_303 ?_
          refine m_topi (fun x149 ex149 => ?_)
          have tx149 : x149.toInt = y3.toInt + 4 := by rw [ex149, ti_addv b8 kc_4 (by decide), kt_4]
          have b150 : IV x149 4 3070 := by rw [ex149]; exact iv_add b8 kc_4 (by decide)
          refine m_sld C hX hbl hbA ⟨by omega, by omega⟩ dL_law_304 ?_
          refine m_eqs (w := x125) (by rw [ex125, show x149.toInt.toNat = x123.toInt.toNat by omega]) ?_
          refine m_aload_n C dL_law_305 rfl rfl ?_
          refine m_iload_n C dL_law_306 rfl rfl ?_
          refine m_iconst (v := 5) C dL_law_307 (by decide) ?_
          refine m_iadd C dL_law_308 ?_
          refine m_topi (fun x151 ex151 => ?_)
          have tx151 : x151.toInt = y3.toInt + 5 := by rw [ex151, ti_addv b8 kc_5 (by decide), kt_5]
          have b152 : IV x151 5 3071 := by rw [ex151]; exact iv_add b8 kc_5 (by decide)
          refine m_sld C hX hbl hbA ⟨by omega, by omega⟩ dL_law_309 ?_
          refine m_eqs (w := x128) (by rw [ex128, show x151.toInt.toNat = x126.toInt.toNat by omega]) ?_
          refine m_callV (n := 5) (ci := 11) (st := []) C (c_X12_copyQ l G τ129 (x116) (x119) (x122) (x125) (x128) i130 ) (by decide) (by decide) rfl rfl rfl q4_212 q4_209 q4_210 q4_211 q1_7 (by decide +kernel) rfl (by decide) ⟨by show (250 + 8 * y3.toInt.toNat) + 0 ≤ 600000; omega, by show (5300 + 24 * y3.toInt.toNat) + 0 ≤ 7302250; omega⟩ rfl (Nat.le_of_ble_eq_true rfl) dL_law_310 ?_
          rintro _ τ153 ⟨x156, rfl, i154, f155, b157, h159⟩
          obtain ⟨h159, h159t0, h159t1⟩ := h159
          have r161 : RT τ153 := r137.call f155 (by decide) (by decide)
          have r162 : CA τ153 S I := r138.fr f155 (by decide) (by decide)
          have r163 : MA τ153 S I := r136.fr i130 f155 (by decide) (by decide)
          have g160 := Rel.copyB rτ f131 f155 z139 h159
          have r164 : Rel τ153 := r142.call f155 (by decide) (by decide)
          have g165 := RQ.copyB rτ iτ jτ oτ f131 f155 z139 z140 z141 h159 h159t0 h159t1
          have r166 : RI τ153 := g165.1
          have r167 : ST τ153 := g165.2
          clear h159 z139 z140 z141 h159t0 h159t1
          show MW p l e _ s m _ below meth c _ 4 G (250 + 8 * y3.toInt.toNat) (5300 + 24 * y3.toInt.toNat) 313 [some (.ref b), some (.ref (G.1 0 0)), some (.ref (G.1 22 0)), some (.int y3)] [.int x156] τ153
          refine m_pop C dL_law_313 rfl ?_
          refine m_goto (tgt := 1028) C dL_law_314 (by decide) ?_
          obtain ⟨x168, ex168⟩ : ∃ y : Int32, y = y3 + 6 := ⟨_, rfl⟩
          have tx168 : x168.toInt = y3.toInt + 6 := by rw [ex168, ti_addv b8 kc_6 (by decide), kt_6]
          have b169 : IV x168 6 3072 := by rw [ex168]; exact iv_add b8 kc_6 (by decide)
          refine m_iinc (v := x168) (L1 := [some (.ref b), some (.ref (G.1 0 0)), some (.ref (G.1 22 0)), some (.int x168)]) C dL_law_1028 rfl (by rw [ex168]; rfl) (by decide) rfl rfl ?_
          refine m_goto (tgt := 18) C dL_law_1031 (by decide) ?_
          refine m_widen (c2 := 250 + 8 * x168.toInt.toNat) (s2 := 5300 + 24 * x168.toInt.toNat) (by omega) (by omega) ?_
          exact ih18 τ153 x168 S I i154 r164 r161 r162 r163 r166 r167 (iv_wk b169 (by decide)) (by have q := hm18; omega)
        by_cases s170 : x11.toInt = 3
        · refine m_tableIn (tgt := 317) (off := 284) C dL_law_33 (by omega) (by omega) (by rw [s170]; rfl) (by decide) ?_
          have b171 : IV x11 3 3 := ⟨by omega, by omega⟩
          refine m_aload_n C dL_law_317 rfl rfl ?_
          refine m_aload_n C dL_law_318 rfl rfl ?_
          refine m_iload_n C dL_law_319 rfl rfl ?_
          refine m_iconst (v := 1) C dL_law_320 (by decide) ?_
          refine m_iadd C dL_law_321 ?_
          refine m_topi (fun x172 ex172 => ?_)
          have tx172 : x172.toInt = y3.toInt + 1 := by rw [ex172, ti_addv b8 kc_1 (by decide), kt_1]
          have b173 : IV x172 1 3067 := by rw [ex172]; exact iv_add b8 kc_1 (by decide)
          refine m_sld C hX hbl hbA ⟨by omega, by omega⟩ dL_law_322 ?_
          refine m_topi (fun x174 ex174 => ?_)
          refine m_callV (n := 1) (ci := 10) (st := []) C (c_X11_dropQ l G τ (x174) iτ ) (by decide) (by decide) rfl rfl rfl q2_34 q2_31 q2_32 q2_33 q1_1 (by decide +kernel) rfl (by decide) ⟨by show (250 + 8 * y3.toInt.toNat) + 0 ≤ 600000; omega, by show (5300 + 24 * y3.toInt.toNat) + 0 ≤ 7302250; omega⟩ rfl (Nat.le_of_ble_eq_true rfl) dL_law_323 ?_
          rintro _ τ175 ⟨x178, rfl, i176, f177, b179, h181⟩
          obtain ⟨h181, h181t0, h181t1⟩ := h181
          have r182 : MA τ175 S I := mτ.fr iτ f177 (by decide) (by decide)
          have r183 : RT τ175 := tτ.call f177 (by decide) (by decide)
          have r184 : CA τ175 S I := cτ.fr f177 (by decide) (by decide)
          have z185 := Hid.mk h181
          clear h181
          have z186 := Hid.mk h181t0
          clear h181t0
          have z187 := Hid.mk h181t1
          clear h181t1
          show MW p l e _ s m _ below meth c _ 4 G (250 + 8 * y3.toInt.toNat) (5300 + 24 * y3.toInt.toNat) 326 [some (.ref b), some (.ref (G.1 0 0)), some (.ref (G.1 22 0)), some (.int y3)] [.int x178] τ175
          refine m_pop C dL_law_326 rfl ?_
          refine m_aload_n C dL_law_327 rfl rfl ?_
          refine m_aload_n C dL_law_328 rfl rfl ?_
          refine m_iload_n C dL_law_329 rfl rfl ?_
          refine m_iconst (v := 1) C dL_law_330 (by decide) ?_
          refine m_iadd C dL_law_331 ?_
          refine m_topi (fun x188 ex188 => ?_)
          have tx188 : x188.toInt = y3.toInt + 1 := by rw [ex188, ti_addv b8 kc_1 (by decide), kt_1]
          have b189 : IV x188 1 3067 := by rw [ex188]; exact iv_add b8 kc_1 (by decide)
          refine m_sld C hX hbl hbA ⟨by omega, by omega⟩ dL_law_332 ?_
          refine m_eqs (w := x174) (by rw [ex174, show x188.toInt.toNat = x172.toInt.toNat by omega]) ?_
          refine m_callV (n := 1) (ci := 11) (st := []) C (c_X12_dropQ l G τ175 (x174) i176 ) (by decide) (by decide) rfl rfl rfl q4_216 q4_213 q4_214 q4_215 q1_7 (by decide +kernel) rfl (by decide) ⟨by show (250 + 8 * y3.toInt.toNat) + 0 ≤ 600000; omega, by show (5300 + 24 * y3.toInt.toNat) + 0 ≤ 7302250; omega⟩ rfl (Nat.le_of_ble_eq_true rfl) dL_law_333 ?_
          rintro _ τ190 ⟨x193, rfl, i191, f192, b194, h196⟩
          obtain ⟨h196, h196t0, h196t1⟩ := h196
          have r198 : RT τ190 := r183.call f192 (by decide) (by decide)
          have r199 : CA τ190 S I := r184.fr f192 (by decide) (by decide)
          have r200 : MA τ190 S I := r182.fr i176 f192 (by decide) (by decide)
          have g197 := Rel.dropB rτ f177 f192 z185 h196
          have r201 : Rel τ190 := g197.1
          have q202 := g197.2
          have g203 := RQ.dropB rτ iτ jτ oτ f177 f192 z185 z186 z187 h196 h196t0 h196t1
          have r204 : RI τ190 := g203.1
          have r205 : ST τ190 := g203.2
          clear h196 z185 z186 z187 h196t0 h196t1
          show MW p l e _ s m _ below meth c _ 4 G (250 + 8 * y3.toInt.toNat) (5300 + 24 * y3.toInt.toNat) 336 [some (.ref b), some (.ref (G.1 0 0)), some (.ref (G.1 22 0)), some (.int y3)] [.int x193] τ190
          refine m_pop C dL_law_336 rfl ?_
          refine m_goto (tgt := 1028) C dL_law_337 (by decide) ?_
          obtain ⟨x206, ex206⟩ : ∃ y : Int32, y = y3 + 6 := ⟨_, rfl⟩
          have tx206 : x206.toInt = y3.toInt + 6 := by rw [ex206, ti_addv b8 kc_6 (by decide), kt_6]
          have b207 : IV x206 6 3072 := by rw [ex206]; exact iv_add b8 kc_6 (by decide)
          refine m_iinc (v := x206) (L1 := [some (.ref b), some (.ref (G.1 0 0)), some (.ref (G.1 22 0)), some (.int x206)]) C dL_law_1028 rfl (by rw [ex206]; rfl) (by decide) rfl rfl ?_
          refine m_goto (tgt := 18) C dL_law_1031 (by decide) ?_
          refine m_widen (c2 := 250 + 8 * x206.toInt.toNat) (s2 := 5300 + 24 * x206.toInt.toNat) (by omega) (by omega) ?_
          exact ih18 τ190 x206 S I i191 r201 r198 r199 r200 r204 r205 (iv_wk b207 (by decide)) (by have q := hm18; omega)
        by_cases s208 : x11.toInt = 4
        · refine m_tableIn (tgt := 340) (off := 307) C dL_law_33 (by omega) (by omega) (by rw [s208]; rfl) (by decide) ?_
          have b209 : IV x11 4 4 := ⟨by omega, by omega⟩
          refine m_aload_n C dL_law_340 rfl rfl ?_
          refine m_aload_n C dL_law_341 rfl rfl ?_
          refine m_iload_n C dL_law_342 rfl rfl ?_
          refine m_iconst (v := 1) C dL_law_343 (by decide) ?_
          refine m_iadd C dL_law_344 ?_
          refine m_topi (fun x210 ex210 => ?_)
          have tx210 : x210.toInt = y3.toInt + 1 := by rw [ex210, ti_addv b8 kc_1 (by decide), kt_1]
          have b211 : IV x210 1 3067 := by rw [ex210]; exact iv_add b8 kc_1 (by decide)
          refine m_sld C hX hbl hbA ⟨by omega, by omega⟩ dL_law_345 ?_
          refine m_topi (fun x212 ex212 => ?_)
          refine m_i2l C dL_law_346 ?_
          refine m_bipush (v := 32) C dL_law_347 (by decide) ?_
          refine m_lshl C dL_law_349 ?_
          refine m_topl (fun w213 ew213 => ?_)
          refine m_aload_n C dL_law_350 rfl rfl ?_
          refine m_iload_n C dL_law_351 rfl rfl ?_
          refine m_iconst (v := 2) C dL_law_352 (by decide) ?_
          refine m_iadd C dL_law_353 ?_
          refine m_topi (fun x214 ex214 => ?_)
          have tx214 : x214.toInt = y3.toInt + 2 := by rw [ex214, ti_addv b8 kc_2 (by decide), kt_2]
          have b215 : IV x214 2 3068 := by rw [ex214]; exact iv_add b8 kc_2 (by decide)
          refine m_sld C hX hbl hbA ⟨by omega, by omega⟩ dL_law_354 ?_
          refine m_topi (fun x216 ex216 => ?_)
          refine m_i2l C dL_law_355 ?_
          refine m_ldc2 (v := 4294967295) C dL_law_356 q5_222 ?_
          refine m_land C dL_law_359 ?_
          refine m_topl (fun w217 ew217 => ?_)
          refine m_lor C dL_law_360 ?_
          refine m_topl (fun w218 ew218 => ?_)
          refine m_aload_n C dL_law_361 rfl rfl ?_
          refine m_iload_n C dL_law_362 rfl rfl ?_
          refine m_iconst (v := 3) C dL_law_363 (by decide) ?_
          refine m_iadd C dL_law_364 ?_
          refine m_topi (fun x219 ex219 => ?_)
          have tx219 : x219.toInt = y3.toInt + 3 := by rw [ex219, ti_addv b8 kc_3 (by decide), kt_3]
          have b220 : IV x219 3 3069 := by rw [ex219]; exact iv_add b8 kc_3 (by decide)
          refine m_sld C hX hbl hbA ⟨by omega, by omega⟩ dL_law_365 ?_
          refine m_topi (fun x221 ex221 => ?_)
          refine m_callV (n := 2) (ci := 10) (st := []) C (c_X11_feedT l G τ (w218) (x221) iτ ) (by decide) (by decide) rfl rfl rfl q2_42 q2_39 q2_40 q2_41 q1_1 (by decide +kernel) rfl (by decide) ⟨by show (250 + 8 * y3.toInt.toNat) + 0 ≤ 600000; omega, by show (5300 + 24 * y3.toInt.toNat) + 0 ≤ 7302250; omega⟩ rfl (Nat.le_of_ble_eq_true rfl) dL_law_366 ?_
          rintro _ τ222 ⟨x225, rfl, i223, f224, b226, h228⟩
          have r229 : MA τ222 S I := mτ.fr iτ f224 (by decide) (by decide)
          have z230 := Hid.mk h228
          clear h228
          have r231 : CA τ222 S I := cτ.fr f224 (by decide) (by decide)
          have r232 : RI τ222 := jτ.call f224 (by decide) (by decide)
          have r233 : ST τ222 := oτ.call f224 (by decide) (by decide)
          show MW p l e _ s m _ below meth c _ 4 G (250 + 8 * y3.toInt.toNat) (5300 + 24 * y3.toInt.toNat) 369 [some (.ref b), some (.ref (G.1 0 0)), some (.ref (G.1 22 0)), some (.int y3)] [.int x225] τ222
          refine m_pop C dL_law_369 rfl ?_
          refine m_aload_n C dL_law_370 rfl rfl ?_
          refine m_aload_n C dL_law_371 rfl rfl ?_
          refine m_iload_n C dL_law_372 rfl rfl ?_
          refine m_iconst (v := 1) C dL_law_373 (by decide) ?_
          refine m_iadd C dL_law_374 ?_
          refine m_topi (fun x234 ex234 => ?_)
          have tx234 : x234.toInt = y3.toInt + 1 := by rw [ex234, ti_addv b8 kc_1 (by decide), kt_1]
          have b235 : IV x234 1 3067 := by rw [ex234]; exact iv_add b8 kc_1 (by decide)
          refine m_sld C hX hbl hbA ⟨by omega, by omega⟩ dL_law_375 ?_
          refine m_eqs (w := x212) (by rw [ex212, show x234.toInt.toNat = x210.toInt.toNat by omega]) ?_
          refine m_i2l C dL_law_376 ?_
          refine m_bipush (v := 32) C dL_law_377 (by decide) ?_
          refine m_lshl C dL_law_379 ?_
          refine m_topl (fun w236 ew236 => ?_)
          refine m_aload_n C dL_law_380 rfl rfl ?_
          refine m_iload_n C dL_law_381 rfl rfl ?_
          refine m_iconst (v := 2) C dL_law_382 (by decide) ?_
          refine m_iadd C dL_law_383 ?_
          refine m_topi (fun x237 ex237 => ?_)
          have tx237 : x237.toInt = y3.toInt + 2 := by rw [ex237, ti_addv b8 kc_2 (by decide), kt_2]
          have b238 : IV x237 2 3068 := by rw [ex237]; exact iv_add b8 kc_2 (by decide)
          refine m_sld C hX hbl hbA ⟨by omega, by omega⟩ dL_law_384 ?_
          refine m_eqs (w := x216) (by rw [ex216, show x237.toInt.toNat = x214.toInt.toNat by omega]) ?_
          refine m_i2l C dL_law_385 ?_
          refine m_ldc2 (v := 4294967295) C dL_law_386 q5_222 ?_
          refine m_land C dL_law_389 ?_
          refine m_topl (fun w239 ew239 => ?_)
          refine m_lor C dL_law_390 ?_
          refine m_topl (fun w240 ew240 => ?_)
          refine m_aload_n C dL_law_391 rfl rfl ?_
          refine m_iload_n C dL_law_392 rfl rfl ?_
          refine m_iconst (v := 3) C dL_law_393 (by decide) ?_
          refine m_iadd C dL_law_394 ?_
          refine m_topi (fun x241 ex241 => ?_)
          have tx241 : x241.toInt = y3.toInt + 3 := by rw [ex241, ti_addv b8 kc_3 (by decide), kt_3]
          have b242 : IV x241 3 3069 := by rw [ex241]; exact iv_add b8 kc_3 (by decide)
          refine m_sld C hX hbl hbA ⟨by omega, by omega⟩ dL_law_395 ?_
          refine m_eqs (w := x221) (by rw [ex221, show x241.toInt.toNat = x219.toInt.toNat by omega]) ?_
          have q243 : w240 = w218 := by rw [ew240, ew236, ew239, ew218, ew213, ew217]
          refine m_callV (n := 2) (ci := 11) (st := []) C (c_X12_feedT l G τ222 (w240) (x221) i223 ) (by decide) (by decide) rfl rfl rfl q4_220 q4_217 q4_218 q4_219 q1_7 (by decide +kernel) rfl (by decide) ⟨by show (250 + 8 * y3.toInt.toNat) + 0 ≤ 600000; omega, by show (5300 + 24 * y3.toInt.toNat) + 0 ≤ 7302250; omega⟩ rfl (Nat.le_of_ble_eq_true rfl) dL_law_396 ?_
          rintro _ τ244 ⟨x247, rfl, i245, f246, b248, h250⟩
          rw [q243] at h250
          have g251 := RT.feedB rτ tτ f224 f246 z230 h250
          have r252 : Rel τ244 := g251.1
          have r253 : RT τ244 := g251.2.1
          have q254 := g251.2.2
          have r255 : CA τ244 S I := r231.fr f246 (by decide) (by decide)
          have r256 : MA τ244 S I := r229.fr i223 f246 (by decide) (by decide)
          clear h250 z230
          have r257 : RI τ244 := r232.call f246 (by decide) (by decide)
          have r258 : ST τ244 := r233.call f246 (by decide) (by decide)
          show MW p l e _ s m _ below meth c _ 4 G (250 + 8 * y3.toInt.toNat) (5300 + 24 * y3.toInt.toNat) 399 [some (.ref b), some (.ref (G.1 0 0)), some (.ref (G.1 22 0)), some (.int y3)] [.int x247] τ244
          refine m_pop C dL_law_399 rfl ?_
          refine m_goto (tgt := 1028) C dL_law_400 (by decide) ?_
          obtain ⟨x259, ex259⟩ : ∃ y : Int32, y = y3 + 6 := ⟨_, rfl⟩
          have tx259 : x259.toInt = y3.toInt + 6 := by rw [ex259, ti_addv b8 kc_6 (by decide), kt_6]
          have b260 : IV x259 6 3072 := by rw [ex259]; exact iv_add b8 kc_6 (by decide)
          refine m_iinc (v := x259) (L1 := [some (.ref b), some (.ref (G.1 0 0)), some (.ref (G.1 22 0)), some (.int x259)]) C dL_law_1028 rfl (by rw [ex259]; rfl) (by decide) rfl rfl ?_
          refine m_goto (tgt := 18) C dL_law_1031 (by decide) ?_
          refine m_widen (c2 := 250 + 8 * x259.toInt.toNat) (s2 := 5300 + 24 * x259.toInt.toNat) (by omega) (by omega) ?_
          exact ih18 τ244 x259 S I i245 r252 r253 r255 r256 r257 r258 (iv_wk b260 (by decide)) (by have q := hm18; omega)
        by_cases s261 : x11.toInt = 5
        · refine m_tableIn (tgt := 403) (off := 370) C dL_law_33 (by omega) (by omega) (by rw [s261]; rfl) (by decide) ?_
          have b262 : IV x11 5 5 := ⟨by omega, by omega⟩
          refine m_aload_n C dL_law_403 rfl rfl ?_
          obtain ⟨⟨T, N, hTC, hTM⟩, hTL⟩ := id tτ
          refine m_callV (n := 0) (ci := 10) (st := []) C (c_X11_towerS l G τ T N S I  iτ hTC cτ) (by decide) (by decide) rfl rfl rfl q2_51 q2_48 q2_49 q2_50 q1_1 (by decide +kernel) rfl (by decide) ⟨by show (250 + 8 * y3.toInt.toNat) + 8 ≤ 600000; omega, by show (5300 + 24 * y3.toInt.toNat) + 24 ≤ 7302250; omega⟩ rfl (Nat.le_of_ble_eq_true rfl) dL_law_404 ?_
          rintro _ τ263 ⟨x266, rfl, i264, f265, b267, h269⟩
          obtain ⟨h269, h269t0, h269t1⟩ := h269
          have r270 : MA τ263 S I := mτ.fr iτ f265 (by decide) (by decide)
          have z271 := Hid.mk h269
          clear h269
          have r272 : RI τ263 := jτ.call f265 (by decide) (by decide)
          have r273 : ST τ263 := oτ.call f265 (by decide) (by decide)
          show MW p l e _ s m _ below meth c _ 4 G ((250 + 8 * y3.toInt.toNat) + 8) ((5300 + 24 * y3.toInt.toNat) + 24) 407 [some (.ref b), some (.ref (G.1 0 0)), some (.ref (G.1 22 0)), some (.int y3)] [.int x266] τ263
          refine m_pop C dL_law_407 rfl ?_
          refine m_aload_n C dL_law_408 rfl rfl ?_
          have hTM2 := hTM.fr f265 (by decide) (by decide) (by simp) (by decide)
          refine m_callV (n := 0) (ci := 11) (st := []) C (c_X12_towerS l G τ263 T N S I  i264 hTM2 r270) (by decide) (by decide) rfl rfl rfl q4_227 q4_224 q4_225 q4_226 q1_7 (by decide +kernel) rfl (by decide) ⟨by show ((250 + 8 * y3.toInt.toNat) + 8) + 0 ≤ 600000; omega, by show ((5300 + 24 * y3.toInt.toNat) + 24) + 0 ≤ 7302250; omega⟩ rfl (Nat.le_of_ble_eq_true rfl) dL_law_409 ?_
          rintro _ τ274 ⟨x277, rfl, i275, f276, b278, h280⟩
          obtain ⟨h280, h280t0, h280t1⟩ := h280
          have g281 := RT.towerB rτ tτ f265 f276 z271 h280
          have r282 : Rel τ274 := g281.1
          have r283 : RT τ274 := g281.2.1
          have q284 := g281.2.2
          obtain ⟨S285, h286, h287⟩ : ∃ S5, CA τ274 S5 I ∧ MA τ274 S5 I := by
            by_cases gF : outF T N = 0
            · exact ⟨_, (h269t1 gF).fr f276 (by decide) (by decide), h280t1 gF⟩
            · exact ⟨_, (h269t0 gF).fr f276 (by decide) (by decide), h280t0 gF⟩
          clear h269t0 h269t1 h280t0 h280t1
          clear h280 z271
          have r288 : RI τ274 := r272.call f276 (by decide) (by decide)
          have r289 : ST τ274 := r273.call f276 (by decide) (by decide)
          show MW p l e _ s m _ below meth c _ 4 G ((250 + 8 * y3.toInt.toNat) + 8) ((5300 + 24 * y3.toInt.toNat) + 24) 412 [some (.ref b), some (.ref (G.1 0 0)), some (.ref (G.1 22 0)), some (.int y3)] [.int x277] τ274
          refine m_pop C dL_law_412 rfl ?_
          refine m_goto (tgt := 1028) C dL_law_413 (by decide) ?_
          obtain ⟨x290, ex290⟩ : ∃ y : Int32, y = y3 + 6 := ⟨_, rfl⟩
          have tx290 : x290.toInt = y3.toInt + 6 := by rw [ex290, ti_addv b8 kc_6 (by decide), kt_6]
          have b291 : IV x290 6 3072 := by rw [ex290]; exact iv_add b8 kc_6 (by decide)
          refine m_iinc (v := x290) (L1 := [some (.ref b), some (.ref (G.1 0 0)), some (.ref (G.1 22 0)), some (.int x290)]) C dL_law_1028 rfl (by rw [ex290]; rfl) (by decide) rfl rfl ?_
          refine m_goto (tgt := 18) C dL_law_1031 (by decide) ?_
          refine m_widen (c2 := 250 + 8 * x290.toInt.toNat) (s2 := 5300 + 24 * x290.toInt.toNat) (by omega) (by omega) ?_
          exact ih18 τ274 x290 S285 I i275 r282 r283 h286 h287 r288 r289 (iv_wk b291 (by decide)) (by have q := hm18; omega)
        by_cases s292 : x11.toInt = 6
        · refine m_tableIn (tgt := 416) (off := 383) C dL_law_33 (by omega) (by omega) (by rw [s292]; rfl) (by decide) ?_
          have b293 : IV x11 6 6 := ⟨by omega, by omega⟩
          refine m_aload_n C dL_law_416 rfl rfl ?_
          refine m_callV (n := 0) (ci := 10) (st := []) C (c_X11_faultT l G τ  iτ ) (by decide) (by decide) rfl rfl rfl q3_13 q3_10 q3_11 q3_12 q1_1 (by decide +kernel) rfl (by decide) ⟨by show (250 + 8 * y3.toInt.toNat) + 0 ≤ 600000; omega, by show (5300 + 24 * y3.toInt.toNat) + 0 ≤ 7302250; omega⟩ rfl (Nat.le_of_ble_eq_true rfl) dL_law_417 ?_
          rintro _ τ294 ⟨x297, rfl, i295, f296, b298, h300⟩
          have r301 : MA τ294 S I := mτ.fr iτ f296 (by decide) (by decide)
          have z302 := Hid.mk h300
          clear h300
          have r303 : Rel τ294 := rτ.call f296 (by decide) (by decide)
          have r304 : RT τ294 := tτ.call f296 (by decide) (by decide)
          have r305 : CA τ294 S I := cτ.fr f296 (by decide) (by decide)
          have r306 : RI τ294 := jτ.call f296 (by decide) (by decide)
          have r307 : ST τ294 := oτ.call f296 (by decide) (by decide)
          show MW p l e _ s m _ below meth c _ 4 G (250 + 8 * y3.toInt.toNat) (5300 + 24 * y3.toInt.toNat) 420 [some (.ref b), some (.ref (G.1 0 0)), some (.ref (G.1 22 0)), some (.int y3)] [.int x297] τ294
          refine m_pop C dL_law_420 rfl ?_
          refine m_aload_n C dL_law_421 rfl rfl ?_
          refine m_callV (n := 0) (ci := 11) (st := []) C (c_X12_faultT l G τ294  i295 ) (by decide) (by decide) rfl rfl rfl q5_42 q5_39 q5_40 q5_41 q1_7 (by decide +kernel) rfl (by decide) ⟨by show (250 + 8 * y3.toInt.toNat) + 0 ≤ 600000; omega, by show (5300 + 24 * y3.toInt.toNat) + 0 ≤ 7302250; omega⟩ rfl (Nat.le_of_ble_eq_true rfl) dL_law_422 ?_
          rintro _ τ308 ⟨x311, rfl, i309, f310, b312, h314⟩
          have g315 := RT.faultB tτ f296 z302 h314
          have r316 : Rel τ308 := r303.call f310 (by decide) (by decide)
          have r317 : RT τ308 := r304.call f310 (by decide) (by decide)
          have r318 : CA τ308 S I := r305.fr f310 (by decide) (by decide)
          have r319 : MA τ308 S I := r301.fr i295 f310 (by decide) (by decide)
          clear h314 z302
          have r320 : RI τ308 := r306.call f310 (by decide) (by decide)
          have r321 : ST τ308 := r307.call f310 (by decide) (by decide)
          show MW p l e _ s m _ below meth c _ 4 G (250 + 8 * y3.toInt.toNat) (5300 + 24 * y3.toInt.toNat) 425 [some (.ref b), some (.ref (G.1 0 0)), some (.ref (G.1 22 0)), some (.int y3)] [.int x311] τ308
          refine m_pop C dL_law_425 rfl ?_
          refine m_goto (tgt := 1028) C dL_law_426 (by decide) ?_
          obtain ⟨x322, ex322⟩ : ∃ y : Int32, y = y3 + 6 := ⟨_, rfl⟩
          have tx322 : x322.toInt = y3.toInt + 6 := by rw [ex322, ti_addv b8 kc_6 (by decide), kt_6]
          have b323 : IV x322 6 3072 := by rw [ex322]; exact iv_add b8 kc_6 (by decide)
          refine m_iinc (v := x322) (L1 := [some (.ref b), some (.ref (G.1 0 0)), some (.ref (G.1 22 0)), some (.int x322)]) C dL_law_1028 rfl (by rw [ex322]; rfl) (by decide) rfl rfl ?_
          refine m_goto (tgt := 18) C dL_law_1031 (by decide) ?_
          refine m_widen (c2 := 250 + 8 * x322.toInt.toNat) (s2 := 5300 + 24 * x322.toInt.toNat) (by omega) (by omega) ?_
          exact ih18 τ308 x322 S I i309 r316 r317 r318 r319 r320 r321 (iv_wk b323 (by decide)) (by have q := hm18; omega)
        by_cases s324 : x11.toInt = 7
        · refine m_tableIn (tgt := 429) (off := 396) C dL_law_33 (by omega) (by omega) (by rw [s324]; rfl) (by decide) ?_
          have b325 : IV x11 7 7 := ⟨by omega, by omega⟩
          refine m_aload_n C dL_law_429 rfl rfl ?_
          refine m_aload_n C dL_law_430 rfl rfl ?_
          refine m_iload_n C dL_law_431 rfl rfl ?_
          refine m_iconst (v := 1) C dL_law_432 (by decide) ?_
          refine m_iadd C dL_law_433 ?_
          refine m_topi (fun x326 ex326 => ?_)
          have tx326 : x326.toInt = y3.toInt + 1 := by rw [ex326, ti_addv b8 kc_1 (by decide), kt_1]
          have b327 : IV x326 1 3067 := by rw [ex326]; exact iv_add b8 kc_1 (by decide)
          refine m_sld C hX hbl hbA ⟨by omega, by omega⟩ dL_law_434 ?_
          refine m_topi (fun x328 ex328 => ?_)
          refine m_aload_n C dL_law_435 rfl rfl ?_
          refine m_iload_n C dL_law_436 rfl rfl ?_
          refine m_iconst (v := 2) C dL_law_437 (by decide) ?_
          refine m_iadd C dL_law_438 ?_
          refine m_topi (fun x329 ex329 => ?_)
          have tx329 : x329.toInt = y3.toInt + 2 := by rw [ex329, ti_addv b8 kc_2 (by decide), kt_2]
          have b330 : IV x329 2 3068 := by rw [ex329]; exact iv_add b8 kc_2 (by decide)
          refine m_sld C hX hbl hbA ⟨by omega, by omega⟩ dL_law_439 ?_
          refine m_topi (fun x331 ex331 => ?_)
          refine m_callV (n := 2) (ci := 10) (st := []) C (c_X11_goS l G τ S I (x328) (x331) iτ cτ) (by decide) (by decide) rfl rfl rfl q3_17 q3_14 q3_15 q3_16 q1_1 (by decide +kernel) rfl (by decide) ⟨by show (250 + 8 * y3.toInt.toNat) + 0 ≤ 600000; omega, by show (5300 + 24 * y3.toInt.toNat) + 0 ≤ 7302250; omega⟩ rfl (Nat.le_of_ble_eq_true rfl) dL_law_440 ?_
          rintro _ τ332 ⟨x335, rfl, i333, f334, b336, h338⟩
          have r339 : MA τ332 S I := mτ.fr iτ f334 (by decide) (by decide)
          have r340 : Rel τ332 := rτ.call f334 (by decide) (by decide)
          have r341 : RT τ332 := tτ.call f334 (by decide) (by decide)
          have r342 : CA τ332 S I := h338
          have r343 : RI τ332 := jτ.call f334 (by decide) (by decide)
          have r344 : ST τ332 := oτ.call f334 (by decide) (by decide)
          show MW p l e _ s m _ below meth c _ 4 G (250 + 8 * y3.toInt.toNat) (5300 + 24 * y3.toInt.toNat) 443 [some (.ref b), some (.ref (G.1 0 0)), some (.ref (G.1 22 0)), some (.int y3)] [.int x335] τ332
          refine m_pop C dL_law_443 rfl ?_
          refine m_aload_n C dL_law_444 rfl rfl ?_
          refine m_aload_n C dL_law_445 rfl rfl ?_
          refine m_iload_n C dL_law_446 rfl rfl ?_
          refine m_iconst (v := 1) C dL_law_447 (by decide) ?_
          refine m_iadd C dL_law_448 ?_
          refine m_topi (fun x345 ex345 => ?_)
          have tx345 : x345.toInt = y3.toInt + 1 := by rw [ex345, ti_addv b8 kc_1 (by decide), kt_1]
          have b346 : IV x345 1 3067 := by rw [ex345]; exact iv_add b8 kc_1 (by decide)
          refine m_sld C hX hbl hbA ⟨by omega, by omega⟩ dL_law_449 ?_
          refine m_eqs (w := x328) (by rw [ex328, show x345.toInt.toNat = x326.toInt.toNat by omega]) ?_
          refine m_aload_n C dL_law_450 rfl rfl ?_
          refine m_iload_n C dL_law_451 rfl rfl ?_
          refine m_iconst (v := 2) C dL_law_452 (by decide) ?_
          refine m_iadd C dL_law_453 ?_
          refine m_topi (fun x347 ex347 => ?_)
          have tx347 : x347.toInt = y3.toInt + 2 := by rw [ex347, ti_addv b8 kc_2 (by decide), kt_2]
          have b348 : IV x347 2 3068 := by rw [ex347]; exact iv_add b8 kc_2 (by decide)
          refine m_sld C hX hbl hbA ⟨by omega, by omega⟩ dL_law_454 ?_
          refine m_eqs (w := x331) (by rw [ex331, show x347.toInt.toNat = x329.toInt.toNat by omega]) ?_
          refine m_callV (n := 2) (ci := 11) (st := []) C (c_X12_goS l G τ332 S I (x328) (x331) i333 r339) (by decide) (by decide) rfl rfl rfl q5_46 q5_43 q5_44 q5_45 q1_7 (by decide +kernel) rfl (by decide) ⟨by show (250 + 8 * y3.toInt.toNat) + 0 ≤ 600000; omega, by show (5300 + 24 * y3.toInt.toNat) + 0 ≤ 7302250; omega⟩ rfl (Nat.le_of_ble_eq_true rfl) dL_law_455 ?_
          rintro _ τ349 ⟨x352, rfl, i350, f351, b353, h355⟩
          have r356 : Rel τ349 := r340.call f351 (by decide) (by decide)
          have r357 : RT τ349 := r341.call f351 (by decide) (by decide)
          have r358 : CA τ349 S I := r342.fr f351 (by decide) (by decide)
          have r359 : MA τ349 S I := h355
          have r360 : RI τ349 := r343.call f351 (by decide) (by decide)
          have r361 : ST τ349 := r344.call f351 (by decide) (by decide)
          show MW p l e _ s m _ below meth c _ 4 G (250 + 8 * y3.toInt.toNat) (5300 + 24 * y3.toInt.toNat) 458 [some (.ref b), some (.ref (G.1 0 0)), some (.ref (G.1 22 0)), some (.int y3)] [.int x352] τ349
          refine m_pop C dL_law_458 rfl ?_
          refine m_goto (tgt := 1028) C dL_law_459 (by decide) ?_
          obtain ⟨x362, ex362⟩ : ∃ y : Int32, y = y3 + 6 := ⟨_, rfl⟩
          have tx362 : x362.toInt = y3.toInt + 6 := by rw [ex362, ti_addv b8 kc_6 (by decide), kt_6]
          have b363 : IV x362 6 3072 := by rw [ex362]; exact iv_add b8 kc_6 (by decide)
          refine m_iinc (v := x362) (L1 := [some (.ref b), some (.ref (G.1 0 0)), some (.ref (G.1 22 0)), some (.int x362)]) C dL_law_1028 rfl (by rw [ex362]; rfl) (by decide) rfl rfl ?_
          refine m_goto (tgt := 18) C dL_law_1031 (by decide) ?_
          refine m_widen (c2 := 250 + 8 * x362.toInt.toNat) (s2 := 5300 + 24 * x362.toInt.toNat) (by omega) (by omega) ?_
          exact ih18 τ349 x362 S I i350 r356 r357 r358 r359 r360 r361 (iv_wk b363 (by decide)) (by have q := hm18; omega)
        by_cases s364 : x11.toInt = 8
        · refine m_tableIn (tgt := 462) (off := 429) C dL_law_33 (by omega) (by omega) (by rw [s364]; rfl) (by decide) ?_
          have b365 : IV x11 8 8 := ⟨by omega, by omega⟩
          refine m_aload_n C dL_law_462 rfl rfl ?_
          refine m_aload_n C dL_law_463 rfl rfl ?_
          refine m_iload_n C dL_law_464 rfl rfl ?_
          refine m_iconst (v := 1) C dL_law_465 (by decide) ?_
          refine m_iadd C dL_law_466 ?_
          refine m_topi (fun x366 ex366 => ?_)
          have tx366 : x366.toInt = y3.toInt + 1 := by rw [ex366, ti_addv b8 kc_1 (by decide), kt_1]
          have b367 : IV x366 1 3067 := by rw [ex366]; exact iv_add b8 kc_1 (by decide)
          refine m_sld C hX hbl hbA ⟨by omega, by omega⟩ dL_law_467 ?_
          refine m_topi (fun x368 ex368 => ?_)
          refine m_aload_n C dL_law_468 rfl rfl ?_
          refine m_iload_n C dL_law_469 rfl rfl ?_
          refine m_iconst (v := 2) C dL_law_470 (by decide) ?_
          refine m_iadd C dL_law_471 ?_
          refine m_topi (fun x369 ex369 => ?_)
          have tx369 : x369.toInt = y3.toInt + 2 := by rw [ex369, ti_addv b8 kc_2 (by decide), kt_2]
          have b370 : IV x369 2 3068 := by rw [ex369]; exact iv_add b8 kc_2 (by decide)
          refine m_sld C hX hbl hbA ⟨by omega, by omega⟩ dL_law_472 ?_
          refine m_topi (fun x371 ex371 => ?_)
          refine m_callV (n := 2) (ci := 10) (st := []) C (c_X11_hangS l G τ S I (x368) (x371) iτ cτ) (by decide) (by decide) rfl rfl rfl q3_29 q3_26 q3_27 q3_28 q1_1 (by decide +kernel) rfl (by decide) ⟨by show (250 + 8 * y3.toInt.toNat) + 0 ≤ 600000; omega, by show (5300 + 24 * y3.toInt.toNat) + 0 ≤ 7302250; omega⟩ rfl (Nat.le_of_ble_eq_true rfl) dL_law_473 ?_
          rintro _ τ372 ⟨x375, rfl, i373, f374, b376, h378⟩
          have r379 : MA τ372 S I := mτ.fr iτ f374 (by decide) (by decide)
          have r380 : Rel τ372 := rτ.call f374 (by decide) (by decide)
          have r381 : RT τ372 := tτ.call f374 (by decide) (by decide)
          have r382 : CA τ372 S I := h378
          have r383 : RI τ372 := jτ.call f374 (by decide) (by decide)
          have r384 : ST τ372 := oτ.call f374 (by decide) (by decide)
          show MW p l e _ s m _ below meth c _ 4 G (250 + 8 * y3.toInt.toNat) (5300 + 24 * y3.toInt.toNat) 476 [some (.ref b), some (.ref (G.1 0 0)), some (.ref (G.1 22 0)), some (.int y3)] [.int x375] τ372
          refine m_pop C dL_law_476 rfl ?_
          refine m_aload_n C dL_law_477 rfl rfl ?_
          refine m_aload_n C dL_law_478 rfl rfl ?_
          refine m_iload_n C dL_law_479 rfl rfl ?_
          refine m_iconst (v := 1) C dL_law_480 (by decide) ?_
          refine m_iadd C dL_law_481 ?_
          refine m_topi (fun x385 ex385 => ?_)
          have tx385 : x385.toInt = y3.toInt + 1 := by rw [ex385, ti_addv b8 kc_1 (by decide), kt_1]
          have b386 : IV x385 1 3067 := by rw [ex385]; exact iv_add b8 kc_1 (by decide)
          refine m_sld C hX hbl hbA ⟨by omega, by omega⟩ dL_law_482 ?_
          refine m_eqs (w := x368) (by rw [ex368, show x385.toInt.toNat = x366.toInt.toNat by omega]) ?_
          refine m_aload_n C dL_law_483 rfl rfl ?_
          refine m_iload_n C dL_law_484 rfl rfl ?_
          refine m_iconst (v := 2) C dL_law_485 (by decide) ?_
          refine m_iadd C dL_law_486 ?_
          refine m_topi (fun x387 ex387 => ?_)
          have tx387 : x387.toInt = y3.toInt + 2 := by rw [ex387, ti_addv b8 kc_2 (by decide), kt_2]
          have b388 : IV x387 2 3068 := by rw [ex387]; exact iv_add b8 kc_2 (by decide)
          refine m_sld C hX hbl hbA ⟨by omega, by omega⟩ dL_law_487 ?_
          refine m_eqs (w := x371) (by rw [ex371, show x387.toInt.toNat = x369.toInt.toNat by omega]) ?_
          refine m_callV (n := 2) (ci := 11) (st := []) C (c_X12_hangS l G τ372 S I (x368) (x371) i373 r379) (by decide) (by decide) rfl rfl rfl q5_58 q5_55 q5_56 q5_57 q1_7 (by decide +kernel) rfl (by decide) ⟨by show (250 + 8 * y3.toInt.toNat) + 0 ≤ 600000; omega, by show (5300 + 24 * y3.toInt.toNat) + 0 ≤ 7302250; omega⟩ rfl (Nat.le_of_ble_eq_true rfl) dL_law_488 ?_
          rintro _ τ389 ⟨x392, rfl, i390, f391, b393, h395⟩
          have r396 : Rel τ389 := r380.call f391 (by decide) (by decide)
          have r397 : RT τ389 := r381.call f391 (by decide) (by decide)
          have r398 : CA τ389 S I := r382.fr f391 (by decide) (by decide)
          have r399 : MA τ389 S I := h395
          have r400 : RI τ389 := r383.call f391 (by decide) (by decide)
          have r401 : ST τ389 := r384.call f391 (by decide) (by decide)
          show MW p l e _ s m _ below meth c _ 4 G (250 + 8 * y3.toInt.toNat) (5300 + 24 * y3.toInt.toNat) 491 [some (.ref b), some (.ref (G.1 0 0)), some (.ref (G.1 22 0)), some (.int y3)] [.int x392] τ389
          refine m_pop C dL_law_491 rfl ?_
          refine m_goto (tgt := 1028) C dL_law_492 (by decide) ?_
          obtain ⟨x402, ex402⟩ : ∃ y : Int32, y = y3 + 6 := ⟨_, rfl⟩
          have tx402 : x402.toInt = y3.toInt + 6 := by rw [ex402, ti_addv b8 kc_6 (by decide), kt_6]
          have b403 : IV x402 6 3072 := by rw [ex402]; exact iv_add b8 kc_6 (by decide)
          refine m_iinc (v := x402) (L1 := [some (.ref b), some (.ref (G.1 0 0)), some (.ref (G.1 22 0)), some (.int x402)]) C dL_law_1028 rfl (by rw [ex402]; rfl) (by decide) rfl rfl ?_
          refine m_goto (tgt := 18) C dL_law_1031 (by decide) ?_
          refine m_widen (c2 := 250 + 8 * x402.toInt.toNat) (s2 := 5300 + 24 * x402.toInt.toNat) (by omega) (by omega) ?_
          exact ih18 τ389 x402 S I i390 r396 r397 r398 r399 r400 r401 (iv_wk b403 (by decide)) (by have q := hm18; omega)
        by_cases s404 : x11.toInt = 9
        · refine m_tableIn (tgt := 495) (off := 462) C dL_law_33 (by omega) (by omega) (by rw [s404]; rfl) (by decide) ?_
          have b405 : IV x11 9 9 := ⟨by omega, by omega⟩
          refine m_aload_n C dL_law_495 rfl rfl ?_
          refine m_aload_n C dL_law_496 rfl rfl ?_
          refine m_iload_n C dL_law_497 rfl rfl ?_
          refine m_iconst (v := 1) C dL_law_498 (by decide) ?_
          refine m_iadd C dL_law_499 ?_
          refine m_topi (fun x406 ex406 => ?_)
          have tx406 : x406.toInt = y3.toInt + 1 := by rw [ex406, ti_addv b8 kc_1 (by decide), kt_1]
          have b407 : IV x406 1 3067 := by rw [ex406]; exact iv_add b8 kc_1 (by decide)
          refine m_sld C hX hbl hbA ⟨by omega, by omega⟩ dL_law_500 ?_
          refine m_topi (fun x408 ex408 => ?_)
          refine m_callV (n := 1) (ci := 10) (st := []) C (c_X11_halvesS l G τ S I (x408) iτ cτ) (by decide) (by decide) rfl rfl rfl q3_37 q3_34 q3_35 q3_36 q1_1 (by decide +kernel) rfl (by decide) ⟨by show (250 + 8 * y3.toInt.toNat) + 0 ≤ 600000; omega, by show (5300 + 24 * y3.toInt.toNat) + 0 ≤ 7302250; omega⟩ rfl (Nat.le_of_ble_eq_true rfl) dL_law_501 ?_
          rintro _ τ409 ⟨x412, rfl, i410, f411, b413, h415⟩
          have r416 : MA τ409 S I := mτ.fr iτ f411 (by decide) (by decide)
          have r417 : Rel τ409 := rτ.call f411 (by decide) (by decide)
          have r418 : RT τ409 := tτ.call f411 (by decide) (by decide)
          have r419 : CA τ409 S I := h415
          have r420 : RI τ409 := jτ.call f411 (by decide) (by decide)
          have r421 : ST τ409 := oτ.call f411 (by decide) (by decide)
          show MW p l e _ s m _ below meth c _ 4 G (250 + 8 * y3.toInt.toNat) (5300 + 24 * y3.toInt.toNat) 504 [some (.ref b), some (.ref (G.1 0 0)), some (.ref (G.1 22 0)), some (.int y3)] [.int x412] τ409
          refine m_pop C dL_law_504 rfl ?_
          refine m_aload_n C dL_law_505 rfl rfl ?_
          refine m_aload_n C dL_law_506 rfl rfl ?_
          refine m_iload_n C dL_law_507 rfl rfl ?_
          refine m_iconst (v := 1) C dL_law_508 (by decide) ?_
          refine m_iadd C dL_law_509 ?_
          refine m_topi (fun x422 ex422 => ?_)
          have tx422 : x422.toInt = y3.toInt + 1 := by rw [ex422, ti_addv b8 kc_1 (by decide), kt_1]
          have b423 : IV x422 1 3067 := by rw [ex422]; exact iv_add b8 kc_1 (by decide)
          refine m_sld C hX hbl hbA ⟨by omega, by omega⟩ dL_law_510 ?_
          refine m_eqs (w := x408) (by rw [ex408, show x422.toInt.toNat = x406.toInt.toNat by omega]) ?_
          refine m_callV (n := 1) (ci := 11) (st := []) C (c_X12_halvesS l G τ409 S I (x408) i410 r416) (by decide) (by decide) rfl rfl rfl q5_63 q5_60 q5_61 q5_62 q1_7 (by decide +kernel) rfl (by decide) ⟨by show (250 + 8 * y3.toInt.toNat) + 0 ≤ 600000; omega, by show (5300 + 24 * y3.toInt.toNat) + 0 ≤ 7302250; omega⟩ rfl (Nat.le_of_ble_eq_true rfl) dL_law_511 ?_
          rintro _ τ424 ⟨x427, rfl, i425, f426, b428, h430⟩
          have r431 : Rel τ424 := r417.call f426 (by decide) (by decide)
          have r432 : RT τ424 := r418.call f426 (by decide) (by decide)
          have r433 : CA τ424 S I := r419.fr f426 (by decide) (by decide)
          have r434 : MA τ424 S I := h430
          have r435 : RI τ424 := r420.call f426 (by decide) (by decide)
          have r436 : ST τ424 := r421.call f426 (by decide) (by decide)
          show MW p l e _ s m _ below meth c _ 4 G (250 + 8 * y3.toInt.toNat) (5300 + 24 * y3.toInt.toNat) 514 [some (.ref b), some (.ref (G.1 0 0)), some (.ref (G.1 22 0)), some (.int y3)] [.int x427] τ424
          refine m_pop C dL_law_514 rfl ?_
          refine m_goto (tgt := 1028) C dL_law_515 (by decide) ?_
          obtain ⟨x437, ex437⟩ : ∃ y : Int32, y = y3 + 6 := ⟨_, rfl⟩
          have tx437 : x437.toInt = y3.toInt + 6 := by rw [ex437, ti_addv b8 kc_6 (by decide), kt_6]
          have b438 : IV x437 6 3072 := by rw [ex437]; exact iv_add b8 kc_6 (by decide)
          refine m_iinc (v := x437) (L1 := [some (.ref b), some (.ref (G.1 0 0)), some (.ref (G.1 22 0)), some (.int x437)]) C dL_law_1028 rfl (by rw [ex437]; rfl) (by decide) rfl rfl ?_
          refine m_goto (tgt := 18) C dL_law_1031 (by decide) ?_
          refine m_widen (c2 := 250 + 8 * x437.toInt.toNat) (s2 := 5300 + 24 * x437.toInt.toNat) (by omega) (by omega) ?_
          exact ih18 τ424 x437 S I i425 r431 r432 r433 r434 r435 r436 (iv_wk b438 (by decide)) (by have q := hm18; omega)
        by_cases s439 : x11.toInt = 10
        · refine m_tableIn (tgt := 518) (off := 485) C dL_law_33 (by omega) (by omega) (by rw [s439]; rfl) (by decide) ?_
          have b440 : IV x11 10 10 := ⟨by omega, by omega⟩
          refine m_aload_n C dL_law_518 rfl rfl ?_
          refine m_callV (n := 0) (ci := 10) (st := []) C (c_X11_yearS l G τ S I  iτ cτ) (by decide) (by decide) rfl rfl rfl q3_97 q3_94 q3_95 q3_96 q1_1 (by decide +kernel) rfl (by decide) ⟨by show (250 + 8 * y3.toInt.toNat) + 0 ≤ 600000; omega, by show (5300 + 24 * y3.toInt.toNat) + 0 ≤ 7302250; omega⟩ rfl (Nat.le_of_ble_eq_true rfl) dL_law_519 ?_
          rintro _ τ441 ⟨x444, rfl, i442, f443, b445, h447⟩
          have r448 : MA τ441 S I := mτ.fr iτ f443 (by decide) (by decide)
          have r449 : Rel τ441 := rτ.call f443 (by decide) (by decide)
          have r450 : RT τ441 := tτ.call f443 (by decide) (by decide)
          have r451 : CA τ441 S I := h447
          have r452 : RI τ441 := jτ.call f443 (by decide) (by decide)
          have r453 : ST τ441 := oτ.call f443 (by decide) (by decide)
          show MW p l e _ s m _ below meth c _ 4 G (250 + 8 * y3.toInt.toNat) (5300 + 24 * y3.toInt.toNat) 522 [some (.ref b), some (.ref (G.1 0 0)), some (.ref (G.1 22 0)), some (.int y3)] [.int x444] τ441
          refine m_pop C dL_law_522 rfl ?_
          refine m_aload_n C dL_law_523 rfl rfl ?_
          refine m_callV (n := 0) (ci := 11) (st := []) C (c_X12_yearS l G τ441 S I  i442 r448) (by decide) (by decide) rfl rfl rfl q5_103 q5_100 q5_101 q5_102 q1_7 (by decide +kernel) rfl (by decide) ⟨by show (250 + 8 * y3.toInt.toNat) + 0 ≤ 600000; omega, by show (5300 + 24 * y3.toInt.toNat) + 0 ≤ 7302250; omega⟩ rfl (Nat.le_of_ble_eq_true rfl) dL_law_524 ?_
          rintro _ τ454 ⟨x457, rfl, i455, f456, b458, h460⟩
          have r461 : Rel τ454 := r449.call f456 (by decide) (by decide)
          have r462 : RT τ454 := r450.call f456 (by decide) (by decide)
          have r463 : CA τ454 S I := r451.fr f456 (by decide) (by decide)
          have r464 : MA τ454 S I := h460
          have r465 : RI τ454 := r452.call f456 (by decide) (by decide)
          have r466 : ST τ454 := r453.call f456 (by decide) (by decide)
          show MW p l e _ s m _ below meth c _ 4 G (250 + 8 * y3.toInt.toNat) (5300 + 24 * y3.toInt.toNat) 527 [some (.ref b), some (.ref (G.1 0 0)), some (.ref (G.1 22 0)), some (.int y3)] [.int x457] τ454
          refine m_pop C dL_law_527 rfl ?_
          refine m_goto (tgt := 1028) C dL_law_528 (by decide) ?_
          obtain ⟨x467, ex467⟩ : ∃ y : Int32, y = y3 + 6 := ⟨_, rfl⟩
          have tx467 : x467.toInt = y3.toInt + 6 := by rw [ex467, ti_addv b8 kc_6 (by decide), kt_6]
          have b468 : IV x467 6 3072 := by rw [ex467]; exact iv_add b8 kc_6 (by decide)
          refine m_iinc (v := x467) (L1 := [some (.ref b), some (.ref (G.1 0 0)), some (.ref (G.1 22 0)), some (.int x467)]) C dL_law_1028 rfl (by rw [ex467]; rfl) (by decide) rfl rfl ?_
          refine m_goto (tgt := 18) C dL_law_1031 (by decide) ?_
          refine m_widen (c2 := 250 + 8 * x467.toInt.toNat) (s2 := 5300 + 24 * x467.toInt.toNat) (by omega) (by omega) ?_
          exact ih18 τ454 x467 S I i455 r461 r462 r463 r464 r465 r466 (iv_wk b468 (by decide)) (by have q := hm18; omega)
        by_cases s469 : x11.toInt = 11
        · refine m_tableIn (tgt := 531) (off := 498) C dL_law_33 (by omega) (by omega) (by rw [s469]; rfl) (by decide) ?_
          have b470 : IV x11 11 11 := ⟨by omega, by omega⟩
          refine m_aload_n C dL_law_531 rfl rfl ?_
          refine m_callV (n := 0) (ci := 10) (st := []) C (c_X11_undoS l G τ S I  iτ cτ) (by decide) (by decide) rfl rfl rfl q3_106 q3_103 q3_104 q3_105 q1_1 (by decide +kernel) rfl (by decide) ⟨by show (250 + 8 * y3.toInt.toNat) + 0 ≤ 600000; omega, by show (5300 + 24 * y3.toInt.toNat) + 0 ≤ 7302250; omega⟩ rfl (Nat.le_of_ble_eq_true rfl) dL_law_532 ?_
          rintro _ τ471 ⟨x474, rfl, i472, f473, b475, h477⟩
          have r478 : MA τ471 S I := mτ.fr iτ f473 (by decide) (by decide)
          have r479 : Rel τ471 := rτ.call f473 (by decide) (by decide)
          have r480 : RT τ471 := tτ.call f473 (by decide) (by decide)
          have r481 : CA τ471 S I := h477
          have r482 : RI τ471 := jτ.call f473 (by decide) (by decide)
          have r483 : ST τ471 := oτ.call f473 (by decide) (by decide)
          show MW p l e _ s m _ below meth c _ 4 G (250 + 8 * y3.toInt.toNat) (5300 + 24 * y3.toInt.toNat) 535 [some (.ref b), some (.ref (G.1 0 0)), some (.ref (G.1 22 0)), some (.int y3)] [.int x474] τ471
          refine m_pop C dL_law_535 rfl ?_
          refine m_aload_n C dL_law_536 rfl rfl ?_
          refine m_callV (n := 0) (ci := 11) (st := []) C (c_X12_undoS l G τ471 S I  i472 r478) (by decide) (by decide) rfl rfl rfl q5_111 q5_108 q5_109 q5_110 q1_7 (by decide +kernel) rfl (by decide) ⟨by show (250 + 8 * y3.toInt.toNat) + 0 ≤ 600000; omega, by show (5300 + 24 * y3.toInt.toNat) + 0 ≤ 7302250; omega⟩ rfl (Nat.le_of_ble_eq_true rfl) dL_law_537 ?_
          rintro _ τ484 ⟨x487, rfl, i485, f486, b488, h490⟩
          have r491 : Rel τ484 := r479.call f486 (by decide) (by decide)
          have r492 : RT τ484 := r480.call f486 (by decide) (by decide)
          have r493 : CA τ484 S I := r481.fr f486 (by decide) (by decide)
          have r494 : MA τ484 S I := h490
          have r495 : RI τ484 := r482.call f486 (by decide) (by decide)
          have r496 : ST τ484 := r483.call f486 (by decide) (by decide)
          show MW p l e _ s m _ below meth c _ 4 G (250 + 8 * y3.toInt.toNat) (5300 + 24 * y3.toInt.toNat) 540 [some (.ref b), some (.ref (G.1 0 0)), some (.ref (G.1 22 0)), some (.int y3)] [.int x487] τ484
          refine m_pop C dL_law_540 rfl ?_
          refine m_goto (tgt := 1028) C dL_law_541 (by decide) ?_
          obtain ⟨x497, ex497⟩ : ∃ y : Int32, y = y3 + 6 := ⟨_, rfl⟩
          have tx497 : x497.toInt = y3.toInt + 6 := by rw [ex497, ti_addv b8 kc_6 (by decide), kt_6]
          have b498 : IV x497 6 3072 := by rw [ex497]; exact iv_add b8 kc_6 (by decide)
          refine m_iinc (v := x497) (L1 := [some (.ref b), some (.ref (G.1 0 0)), some (.ref (G.1 22 0)), some (.int x497)]) C dL_law_1028 rfl (by rw [ex497]; rfl) (by decide) rfl rfl ?_
          refine m_goto (tgt := 18) C dL_law_1031 (by decide) ?_
          refine m_widen (c2 := 250 + 8 * x497.toInt.toNat) (s2 := 5300 + 24 * x497.toInt.toNat) (by omega) (by omega) ?_
          exact ih18 τ484 x497 S I i485 r491 r492 r493 r494 r495 r496 (iv_wk b498 (by decide)) (by have q := hm18; omega)
        by_cases s499 : x11.toInt = 12
        · refine m_tableIn (tgt := 544) (off := 511) C dL_law_33 (by omega) (by omega) (by rw [s499]; rfl) (by decide) ?_
          have b500 : IV x11 12 12 := ⟨by omega, by omega⟩
          refine m_aload_n C dL_law_544 rfl rfl ?_
          refine m_aload_n C dL_law_545 rfl rfl ?_
          refine m_iload_n C dL_law_546 rfl rfl ?_
          refine m_iconst (v := 1) C dL_law_547 (by decide) ?_
          refine m_iadd C dL_law_548 ?_
          refine m_topi (fun x501 ex501 => ?_)
          have tx501 : x501.toInt = y3.toInt + 1 := by rw [ex501, ti_addv b8 kc_1 (by decide), kt_1]
          have b502 : IV x501 1 3067 := by rw [ex501]; exact iv_add b8 kc_1 (by decide)
          refine m_sld C hX hbl hbA ⟨by omega, by omega⟩ dL_law_549 ?_
          refine m_topi (fun x503 ex503 => ?_)
          refine m_aload_n C dL_law_550 rfl rfl ?_
          refine m_iload_n C dL_law_551 rfl rfl ?_
          refine m_iconst (v := 2) C dL_law_552 (by decide) ?_
          refine m_iadd C dL_law_553 ?_
          refine m_topi (fun x504 ex504 => ?_)
          have tx504 : x504.toInt = y3.toInt + 2 := by rw [ex504, ti_addv b8 kc_2 (by decide), kt_2]
          have b505 : IV x504 2 3068 := by rw [ex504]; exact iv_add b8 kc_2 (by decide)
          refine m_sld C hX hbl hbA ⟨by omega, by omega⟩ dL_law_554 ?_
          refine m_topi (fun x506 ex506 => ?_)
          refine m_callV (n := 2) (ci := 10) (st := []) C (c_X11_person l G τ (x503) (x506) iτ ) (by decide) (by decide) rfl rfl rfl q3_110 q3_107 q3_108 q3_109 q1_1 (by decide +kernel) rfl (by decide) ⟨by show (250 + 8 * y3.toInt.toNat) + 0 ≤ 600000; omega, by show (5300 + 24 * y3.toInt.toNat) + 0 ≤ 7302250; omega⟩ rfl (Nat.le_of_ble_eq_true rfl) dL_law_555 ?_
          rintro _ τ507 ⟨x510, rfl, i508, f509, b511⟩
          have r514 : MA τ507 S I := mτ.fr iτ f509 (by decide) (by decide)
          have r515 : Rel τ507 := rτ.call f509 (by decide) (by decide)
          have r516 : RT τ507 := tτ.call f509 (by decide) (by decide)
          have r517 : CA τ507 S I := cτ.fr f509 (by decide) (by decide)
          have r518 : RI τ507 := jτ.call f509 (by decide) (by decide)
          have r519 : ST τ507 := oτ.call f509 (by decide) (by decide)
          show MW p l e _ s m _ below meth c _ 4 G (250 + 8 * y3.toInt.toNat) (5300 + 24 * y3.toInt.toNat) 558 [some (.ref b), some (.ref (G.1 0 0)), some (.ref (G.1 22 0)), some (.int y3)] [.int x510] τ507
          refine m_pop C dL_law_558 rfl ?_
          refine m_aload_n C dL_law_559 rfl rfl ?_
          refine m_aload_n C dL_law_560 rfl rfl ?_
          refine m_iload_n C dL_law_561 rfl rfl ?_
          refine m_iconst (v := 1) C dL_law_562 (by decide) ?_
          refine m_iadd C dL_law_563 ?_
          refine m_topi (fun x520 ex520 => ?_)
          have tx520 : x520.toInt = y3.toInt + 1 := by rw [ex520, ti_addv b8 kc_1 (by decide), kt_1]
          have b521 : IV x520 1 3067 := by rw [ex520]; exact iv_add b8 kc_1 (by decide)
          refine m_sld C hX hbl hbA ⟨by omega, by omega⟩ dL_law_564 ?_
          refine m_eqs (w := x503) (by rw [ex503, show x520.toInt.toNat = x501.toInt.toNat by omega]) ?_
          refine m_aload_n C dL_law_565 rfl rfl ?_
          refine m_iload_n C dL_law_566 rfl rfl ?_
          refine m_iconst (v := 2) C dL_law_567 (by decide) ?_
          refine m_iadd C dL_law_568 ?_
          refine m_topi (fun x522 ex522 => ?_)
          have tx522 : x522.toInt = y3.toInt + 2 := by rw [ex522, ti_addv b8 kc_2 (by decide), kt_2]
          have b523 : IV x522 2 3068 := by rw [ex522]; exact iv_add b8 kc_2 (by decide)
          refine m_sld C hX hbl hbA ⟨by omega, by omega⟩ dL_law_569 ?_
          refine m_eqs (w := x506) (by rw [ex506, show x522.toInt.toNat = x504.toInt.toNat by omega]) ?_
          refine m_callV (n := 2) (ci := 11) (st := []) C (c_X12_person l G τ507 (x503) (x506) i508 ) (by decide) (by decide) rfl rfl rfl q5_115 q5_112 q5_113 q5_114 q1_7 (by decide +kernel) rfl (by decide) ⟨by show (250 + 8 * y3.toInt.toNat) + 0 ≤ 600000; omega, by show (5300 + 24 * y3.toInt.toNat) + 0 ≤ 7302250; omega⟩ rfl (Nat.le_of_ble_eq_true rfl) dL_law_570 ?_
          rintro _ τ524 ⟨x527, rfl, i525, f526, b528⟩
          have r531 : Rel τ524 := r515.call f526 (by decide) (by decide)
          have r532 : RT τ524 := r516.call f526 (by decide) (by decide)
          have r533 : CA τ524 S I := r517.fr f526 (by decide) (by decide)
          have r534 : MA τ524 S I := r514.fr i508 f526 (by decide) (by decide)
          have r535 : RI τ524 := r518.call f526 (by decide) (by decide)
          have r536 : ST τ524 := r519.call f526 (by decide) (by decide)
          show MW p l e _ s m _ below meth c _ 4 G (250 + 8 * y3.toInt.toNat) (5300 + 24 * y3.toInt.toNat) 573 [some (.ref b), some (.ref (G.1 0 0)), some (.ref (G.1 22 0)), some (.int y3)] [.int x527] τ524
          refine m_pop C dL_law_573 rfl ?_
          refine m_goto (tgt := 1028) C dL_law_574 (by decide) ?_
          obtain ⟨x537, ex537⟩ : ∃ y : Int32, y = y3 + 6 := ⟨_, rfl⟩
          have tx537 : x537.toInt = y3.toInt + 6 := by rw [ex537, ti_addv b8 kc_6 (by decide), kt_6]
          have b538 : IV x537 6 3072 := by rw [ex537]; exact iv_add b8 kc_6 (by decide)
          refine m_iinc (v := x537) (L1 := [some (.ref b), some (.ref (G.1 0 0)), some (.ref (G.1 22 0)), some (.int x537)]) C dL_law_1028 rfl (by rw [ex537]; rfl) (by decide) rfl rfl ?_
          refine m_goto (tgt := 18) C dL_law_1031 (by decide) ?_
          refine m_widen (c2 := 250 + 8 * x537.toInt.toNat) (s2 := 5300 + 24 * x537.toInt.toNat) (by omega) (by omega) ?_
          exact ih18 τ524 x537 S I i525 r531 r532 r533 r534 r535 r536 (iv_wk b538 (by decide)) (by have q := hm18; omega)
        by_cases s539 : x11.toInt = 13
        · refine m_tableIn (tgt := 577) (off := 544) C dL_law_33 (by omega) (by omega) (by rw [s539]; rfl) (by decide) ?_
          have b540 : IV x11 13 13 := ⟨by omega, by omega⟩
          refine m_aload_n C dL_law_577 rfl rfl ?_
          refine m_aload_n C dL_law_578 rfl rfl ?_
          refine m_iload_n C dL_law_579 rfl rfl ?_
          refine m_iconst (v := 1) C dL_law_580 (by decide) ?_
          refine m_iadd C dL_law_581 ?_
          refine m_topi (fun x541 ex541 => ?_)
          have tx541 : x541.toInt = y3.toInt + 1 := by rw [ex541, ti_addv b8 kc_1 (by decide), kt_1]
          have b542 : IV x541 1 3067 := by rw [ex541]; exact iv_add b8 kc_1 (by decide)
          refine m_sld C hX hbl hbA ⟨by omega, by omega⟩ dL_law_582 ?_
          refine m_topi (fun x543 ex543 => ?_)
          refine m_callV (n := 1) (ci := 10) (st := []) C (c_X11_lean l G τ (x543) iτ ) (by decide) (by decide) rfl rfl rfl q3_120 q3_117 q3_118 q3_119 q1_1 (by decide +kernel) rfl (by decide) ⟨by show (250 + 8 * y3.toInt.toNat) + 0 ≤ 600000; omega, by show (5300 + 24 * y3.toInt.toNat) + 0 ≤ 7302250; omega⟩ rfl (Nat.le_of_ble_eq_true rfl) dL_law_583 ?_
          rintro _ τ544 ⟨x547, rfl, i545, f546, b548⟩
          have r551 : MA τ544 S I := mτ.fr iτ f546 (by decide) (by decide)
          have r552 : Rel τ544 := rτ.call f546 (by decide) (by decide)
          have r553 : RT τ544 := tτ.call f546 (by decide) (by decide)
          have r554 : CA τ544 S I := cτ.fr f546 (by decide) (by decide)
          have r555 : RI τ544 := jτ.call f546 (by decide) (by decide)
          have r556 : ST τ544 := oτ.call f546 (by decide) (by decide)
          show MW p l e _ s m _ below meth c _ 4 G (250 + 8 * y3.toInt.toNat) (5300 + 24 * y3.toInt.toNat) 586 [some (.ref b), some (.ref (G.1 0 0)), some (.ref (G.1 22 0)), some (.int y3)] [.int x547] τ544
          refine m_pop C dL_law_586 rfl ?_
          refine m_aload_n C dL_law_587 rfl rfl ?_
          refine m_aload_n C dL_law_588 rfl rfl ?_
          refine m_iload_n C dL_law_589 rfl rfl ?_
          refine m_iconst (v := 1) C dL_law_590 (by decide) ?_
          refine m_iadd C dL_law_591 ?_
          refine m_topi (fun x557 ex557 => ?_)
          have tx557 : x557.toInt = y3.toInt + 1 := by rw [ex557, ti_addv b8 kc_1 (by decide), kt_1]
          have b558 : IV x557 1 3067 := by rw [ex557]; exact iv_add b8 kc_1 (by decide)
          refine m_sld C hX hbl hbA ⟨by omega, by omega⟩ dL_law_592 ?_
          refine m_eqs (w := x543) (by rw [ex543, show x557.toInt.toNat = x541.toInt.toNat by omega]) ?_
          refine m_callV (n := 1) (ci := 11) (st := []) C (c_X12_lean l G τ544 (x543) i545 ) (by decide) (by decide) rfl rfl rfl q5_120 q5_117 q5_118 q5_119 q1_7 (by decide +kernel) rfl (by decide) ⟨by show (250 + 8 * y3.toInt.toNat) + 0 ≤ 600000; omega, by show (5300 + 24 * y3.toInt.toNat) + 0 ≤ 7302250; omega⟩ rfl (Nat.le_of_ble_eq_true rfl) dL_law_593 ?_
          rintro _ τ559 ⟨x562, rfl, i560, f561, b563⟩
          have r566 : Rel τ559 := r552.call f561 (by decide) (by decide)
          have r567 : RT τ559 := r553.call f561 (by decide) (by decide)
          have r568 : CA τ559 S I := r554.fr f561 (by decide) (by decide)
          have r569 : MA τ559 S I := r551.fr i545 f561 (by decide) (by decide)
          have r570 : RI τ559 := r555.call f561 (by decide) (by decide)
          have r571 : ST τ559 := r556.call f561 (by decide) (by decide)
          show MW p l e _ s m _ below meth c _ 4 G (250 + 8 * y3.toInt.toNat) (5300 + 24 * y3.toInt.toNat) 596 [some (.ref b), some (.ref (G.1 0 0)), some (.ref (G.1 22 0)), some (.int y3)] [.int x562] τ559
          refine m_pop C dL_law_596 rfl ?_
          refine m_goto (tgt := 1028) C dL_law_597 (by decide) ?_
          obtain ⟨x572, ex572⟩ : ∃ y : Int32, y = y3 + 6 := ⟨_, rfl⟩
          have tx572 : x572.toInt = y3.toInt + 6 := by rw [ex572, ti_addv b8 kc_6 (by decide), kt_6]
          have b573 : IV x572 6 3072 := by rw [ex572]; exact iv_add b8 kc_6 (by decide)
          refine m_iinc (v := x572) (L1 := [some (.ref b), some (.ref (G.1 0 0)), some (.ref (G.1 22 0)), some (.int x572)]) C dL_law_1028 rfl (by rw [ex572]; rfl) (by decide) rfl rfl ?_
          refine m_goto (tgt := 18) C dL_law_1031 (by decide) ?_
          refine m_widen (c2 := 250 + 8 * x572.toInt.toNat) (s2 := 5300 + 24 * x572.toInt.toNat) (by omega) (by omega) ?_
          exact ih18 τ559 x572 S I i560 r566 r567 r568 r569 r570 r571 (iv_wk b573 (by decide)) (by have q := hm18; omega)
        by_cases s574 : x11.toInt = 14
        · refine m_tableIn (tgt := 600) (off := 567) C dL_law_33 (by omega) (by omega) (by rw [s574]; rfl) (by decide) ?_
          have b575 : IV x11 14 14 := ⟨by omega, by omega⟩
          refine m_aload_n C dL_law_600 rfl rfl ?_
          refine m_aload_n C dL_law_601 rfl rfl ?_
          refine m_iload_n C dL_law_602 rfl rfl ?_
          refine m_iconst (v := 1) C dL_law_603 (by decide) ?_
          refine m_iadd C dL_law_604 ?_
          refine m_topi (fun x576 ex576 => ?_)
          have tx576 : x576.toInt = y3.toInt + 1 := by rw [ex576, ti_addv b8 kc_1 (by decide), kt_1]
          have b577 : IV x576 1 3067 := by rw [ex576]; exact iv_add b8 kc_1 (by decide)
          refine m_sld C hX hbl hbA ⟨by omega, by omega⟩ dL_law_605 ?_
          refine m_topi (fun x578 ex578 => ?_)
          refine m_callV (n := 1) (ci := 10) (st := []) C (c_X11_worstS l G τ (x578) iτ ) (by decide) (by decide) rfl rfl rfl q3_125 q3_122 q3_123 q3_124 q1_1 (by decide +kernel) rfl (by decide) ⟨by show (250 + 8 * y3.toInt.toNat) + 0 ≤ 600000; omega, by show (5300 + 24 * y3.toInt.toNat) + 0 ≤ 7302250; omega⟩ rfl (Nat.le_of_ble_eq_true rfl) dL_law_606 ?_
          rintro _ τ579 ⟨x582, rfl, i580, f581, b583, h585⟩
          have r586 : MA τ579 S I := mτ.fr iτ f581 (by decide) (by decide)
          have r587 : Rel τ579 := rτ.call f581 (by decide) (by decide)
          have r588 : RT τ579 := tτ.call f581 (by decide) (by decide)
          have r589 : CA τ579 S I := cτ.sf f581 h585 (by decide) (by decide)
          have r590 : RI τ579 := jτ.call f581 (by decide) (by decide)
          have r591 : ST τ579 := oτ.call f581 (by decide) (by decide)
          show MW p l e _ s m _ below meth c _ 4 G (250 + 8 * y3.toInt.toNat) (5300 + 24 * y3.toInt.toNat) 609 [some (.ref b), some (.ref (G.1 0 0)), some (.ref (G.1 22 0)), some (.int y3)] [.int x582] τ579
          refine m_pop C dL_law_609 rfl ?_
          refine m_aload_n C dL_law_610 rfl rfl ?_
          refine m_aload_n C dL_law_611 rfl rfl ?_
          refine m_iload_n C dL_law_612 rfl rfl ?_
          refine m_iconst (v := 1) C dL_law_613 (by decide) ?_
          refine m_iadd C dL_law_614 ?_
          refine m_topi (fun x592 ex592 => ?_)
          have tx592 : x592.toInt = y3.toInt + 1 := by rw [ex592, ti_addv b8 kc_1 (by decide), kt_1]
          have b593 : IV x592 1 3067 := by rw [ex592]; exact iv_add b8 kc_1 (by decide)
          refine m_sld C hX hbl hbA ⟨by omega, by omega⟩ dL_law_615 ?_
          refine m_eqs (w := x578) (by rw [ex578, show x592.toInt.toNat = x576.toInt.toNat by omega]) ?_
          refine m_callV (n := 1) (ci := 11) (st := []) C (c_X12_worstS l G τ579 (x578) i580 ) (by decide) (by decide) rfl rfl rfl q5_124 q5_121 q5_122 q5_123 q1_7 (by decide +kernel) rfl (by decide) ⟨by show (250 + 8 * y3.toInt.toNat) + 0 ≤ 600000; omega, by show (5300 + 24 * y3.toInt.toNat) + 0 ≤ 7302250; omega⟩ rfl (Nat.le_of_ble_eq_true rfl) dL_law_616 ?_
          rintro _ τ594 ⟨x597, rfl, i595, f596, b598, h600⟩
          have r601 : Rel τ594 := r587.call f596 (by decide) (by decide)
          have r602 : RT τ594 := r588.call f596 (by decide) (by decide)
          have r603 : CA τ594 S I := r589.fr f596 (by decide) (by decide)
          have r604 : MA τ594 S I := r586.sf i580 f596 h600 (by decide) (by decide)
          have r605 : RI τ594 := r590.call f596 (by decide) (by decide)
          have r606 : ST τ594 := r591.call f596 (by decide) (by decide)
          show MW p l e _ s m _ below meth c _ 4 G (250 + 8 * y3.toInt.toNat) (5300 + 24 * y3.toInt.toNat) 619 [some (.ref b), some (.ref (G.1 0 0)), some (.ref (G.1 22 0)), some (.int y3)] [.int x597] τ594
          refine m_pop C dL_law_619 rfl ?_
          refine m_goto (tgt := 1028) C dL_law_620 (by decide) ?_
          obtain ⟨x607, ex607⟩ : ∃ y : Int32, y = y3 + 6 := ⟨_, rfl⟩
          have tx607 : x607.toInt = y3.toInt + 6 := by rw [ex607, ti_addv b8 kc_6 (by decide), kt_6]
          have b608 : IV x607 6 3072 := by rw [ex607]; exact iv_add b8 kc_6 (by decide)
          refine m_iinc (v := x607) (L1 := [some (.ref b), some (.ref (G.1 0 0)), some (.ref (G.1 22 0)), some (.int x607)]) C dL_law_1028 rfl (by rw [ex607]; rfl) (by decide) rfl rfl ?_
          refine m_goto (tgt := 18) C dL_law_1031 (by decide) ?_
          refine m_widen (c2 := 250 + 8 * x607.toInt.toNat) (s2 := 5300 + 24 * x607.toInt.toNat) (by omega) (by omega) ?_
          exact ih18 τ594 x607 S I i595 r601 r602 r603 r604 r605 r606 (iv_wk b608 (by decide)) (by have q := hm18; omega)
        by_cases s609 : x11.toInt = 15
        · refine m_tableIn (tgt := 623) (off := 590) C dL_law_33 (by omega) (by omega) (by rw [s609]; rfl) (by decide) ?_
          have b610 : IV x11 15 15 := ⟨by omega, by omega⟩
          refine m_aload_n C dL_law_623 rfl rfl ?_
          refine m_callV (n := 0) (ci := 10) (st := []) C (c_X11_mostS l G τ  iτ ) (by decide) (by decide) rfl rfl rfl q3_139 q3_136 q3_137 q3_138 q1_1 (by decide +kernel) rfl (by decide) ⟨by show (250 + 8 * y3.toInt.toNat) + 0 ≤ 600000; omega, by show (5300 + 24 * y3.toInt.toNat) + 0 ≤ 7302250; omega⟩ rfl (Nat.le_of_ble_eq_true rfl) dL_law_624 ?_
          rintro _ τ611 ⟨x614, rfl, i612, f613, b615, h617⟩
          have r618 : MA τ611 S I := mτ.fr iτ f613 (by decide) (by decide)
          have r619 : Rel τ611 := rτ.call f613 (by decide) (by decide)
          have r620 : RT τ611 := tτ.call f613 (by decide) (by decide)
          have r621 : CA τ611 S I := cτ.sf f613 h617 (by decide) (by decide)
          have r622 : RI τ611 := jτ.call f613 (by decide) (by decide)
          have r623 : ST τ611 := oτ.call f613 (by decide) (by decide)
          show MW p l e _ s m _ below meth c _ 4 G (250 + 8 * y3.toInt.toNat) (5300 + 24 * y3.toInt.toNat) 627 [some (.ref b), some (.ref (G.1 0 0)), some (.ref (G.1 22 0)), some (.int y3)] [.int x614] τ611
          refine m_pop C dL_law_627 rfl ?_
          refine m_aload_n C dL_law_628 rfl rfl ?_
          refine m_callV (n := 0) (ci := 11) (st := []) C (c_X12_mostS l G τ611  i612 ) (by decide) (by decide) rfl rfl rfl q5_136 q5_133 q5_134 q5_135 q1_7 (by decide +kernel) rfl (by decide) ⟨by show (250 + 8 * y3.toInt.toNat) + 0 ≤ 600000; omega, by show (5300 + 24 * y3.toInt.toNat) + 0 ≤ 7302250; omega⟩ rfl (Nat.le_of_ble_eq_true rfl) dL_law_629 ?_
          rintro _ τ624 ⟨x627, rfl, i625, f626, b628, h630⟩
          have r631 : Rel τ624 := r619.call f626 (by decide) (by decide)
          have r632 : RT τ624 := r620.call f626 (by decide) (by decide)
          have r633 : CA τ624 S I := r621.fr f626 (by decide) (by decide)
          have r634 : MA τ624 S I := r618.sf i612 f626 h630 (by decide) (by decide)
          have r635 : RI τ624 := r622.call f626 (by decide) (by decide)
          have r636 : ST τ624 := r623.call f626 (by decide) (by decide)
          show MW p l e _ s m _ below meth c _ 4 G (250 + 8 * y3.toInt.toNat) (5300 + 24 * y3.toInt.toNat) 632 [some (.ref b), some (.ref (G.1 0 0)), some (.ref (G.1 22 0)), some (.int y3)] [.int x627] τ624
          refine m_pop C dL_law_632 rfl ?_
          refine m_goto (tgt := 1028) C dL_law_633 (by decide) ?_
          obtain ⟨x637, ex637⟩ : ∃ y : Int32, y = y3 + 6 := ⟨_, rfl⟩
          have tx637 : x637.toInt = y3.toInt + 6 := by rw [ex637, ti_addv b8 kc_6 (by decide), kt_6]
          have b638 : IV x637 6 3072 := by rw [ex637]; exact iv_add b8 kc_6 (by decide)
          refine m_iinc (v := x637) (L1 := [some (.ref b), some (.ref (G.1 0 0)), some (.ref (G.1 22 0)), some (.int x637)]) C dL_law_1028 rfl (by rw [ex637]; rfl) (by decide) rfl rfl ?_
          refine m_goto (tgt := 18) C dL_law_1031 (by decide) ?_
          refine m_widen (c2 := 250 + 8 * x637.toInt.toNat) (s2 := 5300 + 24 * x637.toInt.toNat) (by omega) (by omega) ?_
          exact ih18 τ624 x637 S I i625 r631 r632 r633 r634 r635 r636 (iv_wk b638 (by decide)) (by have q := hm18; omega)
        by_cases s639 : x11.toInt = 16
        · refine m_tableIn (tgt := 636) (off := 603) C dL_law_33 (by omega) (by omega) (by rw [s639]; rfl) (by decide) ?_
          have b640 : IV x11 16 16 := ⟨by omega, by omega⟩
          refine m_aload_n C dL_law_636 rfl rfl ?_
          refine m_aload_n C dL_law_637 rfl rfl ?_
          refine m_iload_n C dL_law_638 rfl rfl ?_
          refine m_iconst (v := 1) C dL_law_639 (by decide) ?_
          refine m_iadd C dL_law_640 ?_
          refine m_topi (fun x641 ex641 => ?_)
          have tx641 : x641.toInt = y3.toInt + 1 := by rw [ex641, ti_addv b8 kc_1 (by decide), kt_1]
          have b642 : IV x641 1 3067 := by rw [ex641]; exact iv_add b8 kc_1 (by decide)
          refine m_sld C hX hbl hbA ⟨by omega, by omega⟩ dL_law_641 ?_
          refine m_topi (fun x643 ex643 => ?_)
          refine m_aload_n C dL_law_642 rfl rfl ?_
          refine m_iload_n C dL_law_643 rfl rfl ?_
          refine m_iconst (v := 2) C dL_law_644 (by decide) ?_
          refine m_iadd C dL_law_645 ?_
          refine m_topi (fun x644 ex644 => ?_)
          have tx644 : x644.toInt = y3.toInt + 2 := by rw [ex644, ti_addv b8 kc_2 (by decide), kt_2]
          have b645 : IV x644 2 3068 := by rw [ex644]; exact iv_add b8 kc_2 (by decide)
          refine m_sld C hX hbl hbA ⟨by omega, by omega⟩ dL_law_646 ?_
          refine m_topi (fun x646 ex646 => ?_)
          refine m_aload_n C dL_law_647 rfl rfl ?_
          refine m_iload_n C dL_law_648 rfl rfl ?_
          refine m_iconst (v := 3) C dL_law_649 (by decide) ?_
          refine m_iadd C dL_law_650 ?_
          refine m_topi (fun x647 ex647 => ?_)
          have tx647 : x647.toInt = y3.toInt + 3 := by rw [ex647, ti_addv b8 kc_3 (by decide), kt_3]
          have b648 : IV x647 3 3069 := by rw [ex647]; exact iv_add b8 kc_3 (by decide)
          refine m_sld C hX hbl hbA ⟨by omega, by omega⟩ dL_law_651 ?_
          refine m_topi (fun x649 ex649 => ?_)
          refine m_callV (n := 3) (ci := 10) (st := []) C (c_X11_twoS l G τ (x643) (x646) (x649) iτ ) (by decide) (by decide) rfl rfl rfl q3_157 q3_154 q3_155 q3_156 q1_1 (by decide +kernel) rfl (by decide) ⟨by show (250 + 8 * y3.toInt.toNat) + 0 ≤ 600000; omega, by show (5300 + 24 * y3.toInt.toNat) + 0 ≤ 7302250; omega⟩ rfl (Nat.le_of_ble_eq_true rfl) dL_law_652 ?_
          rintro _ τ650 ⟨x653, rfl, i651, f652, b654, h656⟩
          have r657 : MA τ650 S I := mτ.fr iτ f652 (by decide) (by decide)
          have r658 : Rel τ650 := rτ.call f652 (by decide) (by decide)
          have r659 : RT τ650 := tτ.call f652 (by decide) (by decide)
          have r660 : CA τ650 S I := cτ.sf f652 h656 (by decide) (by decide)
          have r661 : RI τ650 := jτ.call f652 (by decide) (by decide)
          have r662 : ST τ650 := oτ.call f652 (by decide) (by decide)
          show MW p l e _ s m _ below meth c _ 4 G (250 + 8 * y3.toInt.toNat) (5300 + 24 * y3.toInt.toNat) 655 [some (.ref b), some (.ref (G.1 0 0)), some (.ref (G.1 22 0)), some (.int y3)] [.int x653] τ650
          refine m_pop C dL_law_655 rfl ?_
          refine m_aload_n C dL_law_656 rfl rfl ?_
          refine m_aload_n C dL_law_657 rfl rfl ?_
          refine m_iload_n C dL_law_658 rfl rfl ?_
          refine m_iconst (v := 1) C dL_law_659 (by decide) ?_
          refine m_iadd C dL_law_660 ?_
          refine m_topi (fun x663 ex663 => ?_)
          have tx663 : x663.toInt = y3.toInt + 1 := by rw [ex663, ti_addv b8 kc_1 (by decide), kt_1]
          have b664 : IV x663 1 3067 := by rw [ex663]; exact iv_add b8 kc_1 (by decide)
          refine m_sld C hX hbl hbA ⟨by omega, by omega⟩ dL_law_661 ?_
          refine m_eqs (w := x643) (by rw [ex643, show x663.toInt.toNat = x641.toInt.toNat by omega]) ?_
          refine m_aload_n C dL_law_662 rfl rfl ?_
          refine m_iload_n C dL_law_663 rfl rfl ?_
          refine m_iconst (v := 2) C dL_law_664 (by decide) ?_
          refine m_iadd C dL_law_665 ?_
          refine m_topi (fun x665 ex665 => ?_)
          have tx665 : x665.toInt = y3.toInt + 2 := by rw [ex665, ti_addv b8 kc_2 (by decide), kt_2]
          have b666 : IV x665 2 3068 := by rw [ex665]; exact iv_add b8 kc_2 (by decide)
          refine m_sld C hX hbl hbA ⟨by omega, by omega⟩ dL_law_666 ?_
          refine m_eqs (w := x646) (by rw [ex646, show x665.toInt.toNat = x644.toInt.toNat by omega]) ?_
          refine m_aload_n C dL_law_667 rfl rfl ?_
          refine m_iload_n C dL_law_668 rfl rfl ?_
          refine m_iconst (v := 3) C dL_law_669 (by decide) ?_
          refine m_iadd C dL_law_670 ?_
          refine m_topi (fun x667 ex667 => ?_)
          have tx667 : x667.toInt = y3.toInt + 3 := by rw [ex667, ti_addv b8 kc_3 (by decide), kt_3]
          have b668 : IV x667 3 3069 := by rw [ex667]; exact iv_add b8 kc_3 (by decide)
          refine m_sld C hX hbl hbA ⟨by omega, by omega⟩ dL_law_671 ?_
          refine m_eqs (w := x649) (by rw [ex649, show x667.toInt.toNat = x647.toInt.toNat by omega]) ?_
          refine m_callV (n := 3) (ci := 11) (st := []) C (c_X12_twoS l G τ650 (x643) (x646) (x649) i651 ) (by decide) (by decide) rfl rfl rfl q5_146 q5_143 q5_144 q5_145 q1_7 (by decide +kernel) rfl (by decide) ⟨by show (250 + 8 * y3.toInt.toNat) + 0 ≤ 600000; omega, by show (5300 + 24 * y3.toInt.toNat) + 0 ≤ 7302250; omega⟩ rfl (Nat.le_of_ble_eq_true rfl) dL_law_672 ?_
          rintro _ τ669 ⟨x672, rfl, i670, f671, b673, h675⟩
          have r676 : Rel τ669 := r658.call f671 (by decide) (by decide)
          have r677 : RT τ669 := r659.call f671 (by decide) (by decide)
          have r678 : CA τ669 S I := r660.fr f671 (by decide) (by decide)
          have r679 : MA τ669 S I := r657.sf i651 f671 h675 (by decide) (by decide)
          have r680 : RI τ669 := r661.call f671 (by decide) (by decide)
          have r681 : ST τ669 := r662.call f671 (by decide) (by decide)
          show MW p l e _ s m _ below meth c _ 4 G (250 + 8 * y3.toInt.toNat) (5300 + 24 * y3.toInt.toNat) 675 [some (.ref b), some (.ref (G.1 0 0)), some (.ref (G.1 22 0)), some (.int y3)] [.int x672] τ669
          refine m_pop C dL_law_675 rfl ?_
          refine m_goto (tgt := 1028) C dL_law_676 (by decide) ?_
          obtain ⟨x682, ex682⟩ : ∃ y : Int32, y = y3 + 6 := ⟨_, rfl⟩
          have tx682 : x682.toInt = y3.toInt + 6 := by rw [ex682, ti_addv b8 kc_6 (by decide), kt_6]
          have b683 : IV x682 6 3072 := by rw [ex682]; exact iv_add b8 kc_6 (by decide)
          refine m_iinc (v := x682) (L1 := [some (.ref b), some (.ref (G.1 0 0)), some (.ref (G.1 22 0)), some (.int x682)]) C dL_law_1028 rfl (by rw [ex682]; rfl) (by decide) rfl rfl ?_
          refine m_goto (tgt := 18) C dL_law_1031 (by decide) ?_
          refine m_widen (c2 := 250 + 8 * x682.toInt.toNat) (s2 := 5300 + 24 * x682.toInt.toNat) (by omega) (by omega) ?_
          exact ih18 τ669 x682 S I i670 r676 r677 r678 r679 r680 r681 (iv_wk b683 (by decide)) (by have q := hm18; omega)
        by_cases s684 : x11.toInt = 17
        · refine m_tableIn (tgt := 679) (off := 646) C dL_law_33 (by omega) (by omega) (by rw [s684]; rfl) (by decide) ?_
          have b685 : IV x11 17 17 := ⟨by omega, by omega⟩
          refine m_aload_n C dL_law_679 rfl rfl ?_
          refine m_aload_n C dL_law_680 rfl rfl ?_
          refine m_iload_n C dL_law_681 rfl rfl ?_
          refine m_iconst (v := 1) C dL_law_682 (by decide) ?_
          refine m_iadd C dL_law_683 ?_
          refine m_topi (fun x686 ex686 => ?_)
          have tx686 : x686.toInt = y3.toInt + 1 := by rw [ex686, ti_addv b8 kc_1 (by decide), kt_1]
          have b687 : IV x686 1 3067 := by rw [ex686]; exact iv_add b8 kc_1 (by decide)
          refine m_sld C hX hbl hbA ⟨by omega, by omega⟩ dL_law_684 ?_
          refine m_topi (fun x688 ex688 => ?_)
          refine m_callV (n := 1) (ci := 10) (st := []) C (c_X11_stonesS l G τ (x688) iτ ) (by decide) (by decide) rfl rfl rfl q3_170 q3_167 q3_168 q3_169 q1_1 (by decide +kernel) rfl (by decide) ⟨by show (250 + 8 * y3.toInt.toNat) + 0 ≤ 600000; omega, by show (5300 + 24 * y3.toInt.toNat) + 0 ≤ 7302250; omega⟩ rfl (Nat.le_of_ble_eq_true rfl) dL_law_685 ?_
          rintro _ τ689 ⟨x692, rfl, i690, f691, b693, h695⟩
          have r696 : MA τ689 S I := mτ.fr iτ f691 (by decide) (by decide)
          have r697 : Rel τ689 := rτ.call f691 (by decide) (by decide)
          have r698 : RT τ689 := tτ.call f691 (by decide) (by decide)
          have r699 : CA τ689 S I := cτ.sf f691 h695 (by decide) (by decide)
          have r700 : RI τ689 := jτ.call f691 (by decide) (by decide)
          have r701 : ST τ689 := oτ.call f691 (by decide) (by decide)
          show MW p l e _ s m _ below meth c _ 4 G (250 + 8 * y3.toInt.toNat) (5300 + 24 * y3.toInt.toNat) 688 [some (.ref b), some (.ref (G.1 0 0)), some (.ref (G.1 22 0)), some (.int y3)] [.int x692] τ689
          refine m_pop C dL_law_688 rfl ?_
          refine m_aload_n C dL_law_689 rfl rfl ?_
          refine m_aload_n C dL_law_690 rfl rfl ?_
          refine m_iload_n C dL_law_691 rfl rfl ?_
          refine m_iconst (v := 1) C dL_law_692 (by decide) ?_
          refine m_iadd C dL_law_693 ?_
          refine m_topi (fun x702 ex702 => ?_)
          have tx702 : x702.toInt = y3.toInt + 1 := by rw [ex702, ti_addv b8 kc_1 (by decide), kt_1]
          have b703 : IV x702 1 3067 := by rw [ex702]; exact iv_add b8 kc_1 (by decide)
          refine m_sld C hX hbl hbA ⟨by omega, by omega⟩ dL_law_694 ?_
          refine m_eqs (w := x688) (by rw [ex688, show x702.toInt.toNat = x686.toInt.toNat by omega]) ?_
          refine m_callV (n := 1) (ci := 11) (st := []) C (c_X12_stonesS l G τ689 (x688) i690 ) (by decide) (by decide) rfl rfl rfl q5_150 q5_147 q5_148 q5_149 q1_7 (by decide +kernel) rfl (by decide) ⟨by show (250 + 8 * y3.toInt.toNat) + 0 ≤ 600000; omega, by show (5300 + 24 * y3.toInt.toNat) + 0 ≤ 7302250; omega⟩ rfl (Nat.le_of_ble_eq_true rfl) dL_law_695 ?_
          rintro _ τ704 ⟨x707, rfl, i705, f706, b708, h710⟩
          have r711 : Rel τ704 := r697.call f706 (by decide) (by decide)
          have r712 : RT τ704 := r698.call f706 (by decide) (by decide)
          have r713 : CA τ704 S I := r699.fr f706 (by decide) (by decide)
          have r714 : MA τ704 S I := r696.sf i690 f706 h710 (by decide) (by decide)
          have r715 : RI τ704 := r700.call f706 (by decide) (by decide)
          have r716 : ST τ704 := r701.call f706 (by decide) (by decide)
          show MW p l e _ s m _ below meth c _ 4 G (250 + 8 * y3.toInt.toNat) (5300 + 24 * y3.toInt.toNat) 698 [some (.ref b), some (.ref (G.1 0 0)), some (.ref (G.1 22 0)), some (.int y3)] [.int x707] τ704
          refine m_pop C dL_law_698 rfl ?_
          refine m_goto (tgt := 1028) C dL_law_699 (by decide) ?_
          obtain ⟨x717, ex717⟩ : ∃ y : Int32, y = y3 + 6 := ⟨_, rfl⟩
          have tx717 : x717.toInt = y3.toInt + 6 := by rw [ex717, ti_addv b8 kc_6 (by decide), kt_6]
          have b718 : IV x717 6 3072 := by rw [ex717]; exact iv_add b8 kc_6 (by decide)
          refine m_iinc (v := x717) (L1 := [some (.ref b), some (.ref (G.1 0 0)), some (.ref (G.1 22 0)), some (.int x717)]) C dL_law_1028 rfl (by rw [ex717]; rfl) (by decide) rfl rfl ?_
          refine m_goto (tgt := 18) C dL_law_1031 (by decide) ?_
          refine m_widen (c2 := 250 + 8 * x717.toInt.toNat) (s2 := 5300 + 24 * x717.toInt.toNat) (by omega) (by omega) ?_
          exact ih18 τ704 x717 S I i705 r711 r712 r713 r714 r715 r716 (iv_wk b718 (by decide)) (by have q := hm18; omega)
        by_cases s719 : x11.toInt = 18
        · refine m_tableIn (tgt := 702) (off := 669) C dL_law_33 (by omega) (by omega) (by rw [s719]; rfl) (by decide) ?_
          have b720 : IV x11 18 18 := ⟨by omega, by omega⟩
          refine m_aload_n C dL_law_702 rfl rfl ?_
          refine m_aload_n C dL_law_703 rfl rfl ?_
          refine m_iload_n C dL_law_704 rfl rfl ?_
          refine m_iconst (v := 1) C dL_law_705 (by decide) ?_
          refine m_iadd C dL_law_706 ?_
          refine m_topi (fun x721 ex721 => ?_)
          have tx721 : x721.toInt = y3.toInt + 1 := by rw [ex721, ti_addv b8 kc_1 (by decide), kt_1]
          have b722 : IV x721 1 3067 := by rw [ex721]; exact iv_add b8 kc_1 (by decide)
          refine m_sld C hX hbl hbA ⟨by omega, by omega⟩ dL_law_707 ?_
          refine m_topi (fun x723 ex723 => ?_)
          refine m_aload_n C dL_law_708 rfl rfl ?_
          refine m_iload_n C dL_law_709 rfl rfl ?_
          refine m_iconst (v := 2) C dL_law_710 (by decide) ?_
          refine m_iadd C dL_law_711 ?_
          refine m_topi (fun x724 ex724 => ?_)
          have tx724 : x724.toInt = y3.toInt + 2 := by rw [ex724, ti_addv b8 kc_2 (by decide), kt_2]
          have b725 : IV x724 2 3068 := by rw [ex724]; exact iv_add b8 kc_2 (by decide)
          refine m_sld C hX hbl hbA ⟨by omega, by omega⟩ dL_law_712 ?_
          refine m_topi (fun x726 ex726 => ?_)
          refine m_aload_n C dL_law_713 rfl rfl ?_
          refine m_iload_n C dL_law_714 rfl rfl ?_
          refine m_iconst (v := 3) C dL_law_715 (by decide) ?_
          refine m_iadd C dL_law_716 ?_
          refine m_topi (fun x727 ex727 => ?_)
          have tx727 : x727.toInt = y3.toInt + 3 := by rw [ex727, ti_addv b8 kc_3 (by decide), kt_3]
          have b728 : IV x727 3 3069 := by rw [ex727]; exact iv_add b8 kc_3 (by decide)
          refine m_sld C hX hbl hbA ⟨by omega, by omega⟩ dL_law_717 ?_
          refine m_topi (fun x729 ex729 => ?_)
          refine m_aload_n C dL_law_718 rfl rfl ?_
          refine m_iload_n C dL_law_719 rfl rfl ?_
          refine m_iconst (v := 4) C dL_law_720 (by decide) ?_
          refine m_iadd C dL_law_721 ?_
          refine m_topi (fun x730 ex730 => ?_)
          have tx730 : x730.toInt = y3.toInt + 4 := by rw [ex730, ti_addv b8 kc_4 (by decide), kt_4]
          have b731 : IV x730 4 3070 := by rw [ex730]; exact iv_add b8 kc_4 (by decide)
          refine m_sld C hX hbl hbA ⟨by omega, by omega⟩ dL_law_722 ?_
          refine m_topi (fun x732 ex732 => ?_)
          refine m_callV (n := 4) (ci := 10) (st := []) C (c_X11_marksQ l G τ S I (x723) (x726) (x729) (x732) iτ cτ (mτ.1.1.2)) (by decide) (by decide) rfl rfl rfl q3_187 q3_184 q3_185 q3_186 q1_1 (by decide +kernel) rfl (by decide) ⟨by show (250 + 8 * y3.toInt.toNat) + 0 ≤ 600000; omega, by show (5300 + 24 * y3.toInt.toNat) + 0 ≤ 7302250; omega⟩ rfl (Nat.le_of_ble_eq_true rfl) dL_law_723 ?_
          rintro _ τ733 ⟨x736, rfl, i734, f735, b737, h739⟩
          have r740 : MA τ733 S I := mτ.fr iτ f735 (by decide) (by decide)
          have r741 : RT τ733 := tτ.call f735 (by decide) (by decide)
          have r742 : CA τ733 S I := cτ.sf f735 h739.1 (by decide) (by decide)
          have z743 := Hid.mk h739.2
          clear h739
          have r744 : Rel τ733 := rτ.call f735 (by decide) (by decide)
          have r745 : RI τ733 := jτ.call f735 (by decide) (by decide)
          show MW p l e _ s m _ below meth c _ 4 G (250 + 8 * y3.toInt.toNat) (5300 + 24 * y3.toInt.toNat) 726 [some (.ref b), some (.ref (G.1 0 0)), some (.ref (G.1 22 0)), some (.int y3)] [.int x736] τ733
          refine m_pop C dL_law_726 rfl ?_
          refine m_aload_n C dL_law_727 rfl rfl ?_
          refine m_aload_n C dL_law_728 rfl rfl ?_
          refine m_iload_n C dL_law_729 rfl rfl ?_
          refine m_iconst (v := 1) C dL_law_730 (by decide) ?_
          refine m_iadd C dL_law_731 ?_
          refine m_topi (fun x746 ex746 => ?_)
          have tx746 : x746.toInt = y3.toInt + 1 := by rw [ex746, ti_addv b8 kc_1 (by decide), kt_1]
          have b747 : IV x746 1 3067 := by rw [ex746]; exact iv_add b8 kc_1 (by decide)
          refine m_sld C hX hbl hbA ⟨by omega, by omega⟩ dL_law_732 ?_
          refine m_eqs (w := x723) (by rw [ex723, show x746.toInt.toNat = x721.toInt.toNat by omega]) ?_
          refine m_aload_n C dL_law_733 rfl rfl ?_
          refine m_iload_n C dL_law_734 rfl rfl ?_
          refine m_iconst (v := 2) C dL_law_735 (by decide) ?_
          refine m_iadd C dL_law_736 ?_
          refine m_topi (fun x748 ex748 => ?_)
          have tx748 : x748.toInt = y3.toInt + 2 := by rw [ex748, ti_addv b8 kc_2 (by decide), kt_2]
          have b749 : IV x748 2 3068 := by rw [ex748]; exact iv_add b8 kc_2 (by decide)
          refine m_sld C hX hbl hbA ⟨by omega, by omega⟩ dL_law_737 ?_
          refine m_eqs (w := x726) (by rw [ex726, show x748.toInt.toNat = x724.toInt.toNat by omega]) ?_
          refine m_aload_n C dL_law_738 rfl rfl ?_
          refine m_iload_n C dL_law_739 rfl rfl ?_
          refine m_iconst (v := 3) C dL_law_740 (by decide) ?_
          refine m_iadd C dL_law_741 ?_
          refine m_topi (fun x750 ex750 => ?_)
          have tx750 : x750.toInt = y3.toInt + 3 := by rw [ex750, ti_addv b8 kc_3 (by decide), kt_3]
          have b751 : IV x750 3 3069 := by rw [ex750]; exact iv_add b8 kc_3 (by decide)
          refine m_sld C hX hbl hbA ⟨by omega, by omega⟩ dL_law_742 ?_
          refine m_eqs (w := x729) (by rw [ex729, show x750.toInt.toNat = x727.toInt.toNat by omega]) ?_
          refine m_aload_n C dL_law_743 rfl rfl ?_
          refine m_iload_n C dL_law_744 rfl rfl ?_
          refine m_iconst (v := 4) C dL_law_745 (by decide) ?_
          refine m_iadd C dL_law_746 ?_
          refine m_topi (fun x752 ex752 => ?_)
          have tx752 : x752.toInt = y3.toInt + 4 := by rw [ex752, ti_addv b8 kc_4 (by decide), kt_4]
          have b753 : IV x752 4 3070 := by rw [ex752]; exact iv_add b8 kc_4 (by decide)
          refine m_sld C hX hbl hbA ⟨by omega, by omega⟩ dL_law_747 ?_
          refine m_eqs (w := x732) (by rw [ex732, show x752.toInt.toNat = x730.toInt.toNat by omega]) ?_
          refine m_callV (n := 4) (ci := 11) (st := []) C (c_X12_marksQ l G τ733 S I (x723) (x726) (x729) (x732) i734 r740) (by decide) (by decide) rfl rfl rfl q5_154 q5_151 q5_152 q5_153 q1_7 (by decide +kernel) rfl (by decide) ⟨by show (250 + 8 * y3.toInt.toNat) + 0 ≤ 600000; omega, by show (5300 + 24 * y3.toInt.toNat) + 0 ≤ 7302250; omega⟩ rfl (Nat.le_of_ble_eq_true rfl) dL_law_748 ?_
          rintro _ τ754 ⟨x757, rfl, i755, f756, b758, h760⟩
          have r762 : RT τ754 := r741.call f756 (by decide) (by decide)
          have r763 : CA τ754 S I := r742.fr f756 (by decide) (by decide)
          have r764 : MA τ754 S I := r740.sf i734 f756 h760.1 (by decide) (by decide)
          have r765 : Rel τ754 := r744.call f756 (by decide) (by decide)
          have r766 : RI τ754 := r745.call f756 (by decide) (by decide)
          have r767 : ST τ754 := RQ.marksB rτ jτ oτ f735 f756 z743 h760.2
          clear h760 z743
          show MW p l e _ s m _ below meth c _ 4 G (250 + 8 * y3.toInt.toNat) (5300 + 24 * y3.toInt.toNat) 751 [some (.ref b), some (.ref (G.1 0 0)), some (.ref (G.1 22 0)), some (.int y3)] [.int x757] τ754
          refine m_pop C dL_law_751 rfl ?_
          refine m_goto (tgt := 1028) C dL_law_752 (by decide) ?_
          obtain ⟨x768, ex768⟩ : ∃ y : Int32, y = y3 + 6 := ⟨_, rfl⟩
          have tx768 : x768.toInt = y3.toInt + 6 := by rw [ex768, ti_addv b8 kc_6 (by decide), kt_6]
          have b769 : IV x768 6 3072 := by rw [ex768]; exact iv_add b8 kc_6 (by decide)
          refine m_iinc (v := x768) (L1 := [some (.ref b), some (.ref (G.1 0 0)), some (.ref (G.1 22 0)), some (.int x768)]) C dL_law_1028 rfl (by rw [ex768]; rfl) (by decide) rfl rfl ?_
          refine m_goto (tgt := 18) C dL_law_1031 (by decide) ?_
          refine m_widen (c2 := 250 + 8 * x768.toInt.toNat) (s2 := 5300 + 24 * x768.toInt.toNat) (by omega) (by omega) ?_
          exact ih18 τ754 x768 S I i755 r765 r762 r763 r764 r766 r767 (iv_wk b769 (by decide)) (by have q := hm18; omega)
        by_cases s770 : x11.toInt = 19
        · refine m_tableIn (tgt := 755) (off := 722) C dL_law_33 (by omega) (by omega) (by rw [s770]; rfl) (by decide) ?_
          have b771 : IV x11 19 19 := ⟨by omega, by omega⟩
          refine m_aload_n C dL_law_755 rfl rfl ?_
          refine m_aload_n C dL_law_756 rfl rfl ?_
          refine m_iload_n C dL_law_757 rfl rfl ?_
          refine m_iconst (v := 1) C dL_law_758 (by decide) ?_
          refine m_iadd C dL_law_759 ?_
          refine m_topi (fun x772 ex772 => ?_)
          have tx772 : x772.toInt = y3.toInt + 1 := by rw [ex772, ti_addv b8 kc_1 (by decide), kt_1]
          have b773 : IV x772 1 3067 := by rw [ex772]; exact iv_add b8 kc_1 (by decide)
          refine m_sld C hX hbl hbA ⟨by omega, by omega⟩ dL_law_760 ?_
          refine m_topi (fun x774 ex774 => ?_)
          refine m_callV (n := 1) (ci := 10) (st := []) C (c_X11_rescue l G τ (x774) iτ ) (by decide) (by decide) rfl rfl rfl q3_202 q3_199 q3_200 q3_201 q1_1 (by decide +kernel) rfl (by decide) ⟨by show (250 + 8 * y3.toInt.toNat) + 0 ≤ 600000; omega, by show (5300 + 24 * y3.toInt.toNat) + 0 ≤ 7302250; omega⟩ rfl (Nat.le_of_ble_eq_true rfl) dL_law_761 ?_
          rintro _ τ775 ⟨x778, rfl, i776, f777, b779⟩
          have r782 : MA τ775 S I := mτ.fr iτ f777 (by decide) (by decide)
          have r783 : Rel τ775 := rτ.call f777 (by decide) (by decide)
          have r784 : RT τ775 := tτ.call f777 (by decide) (by decide)
          have r785 : CA τ775 S I := cτ.fr f777 (by decide) (by decide)
          have r786 : RI τ775 := jτ.call f777 (by decide) (by decide)
          have r787 : ST τ775 := oτ.call f777 (by decide) (by decide)
          show MW p l e _ s m _ below meth c _ 4 G (250 + 8 * y3.toInt.toNat) (5300 + 24 * y3.toInt.toNat) 764 [some (.ref b), some (.ref (G.1 0 0)), some (.ref (G.1 22 0)), some (.int y3)] [.int x778] τ775
          refine m_pop C dL_law_764 rfl ?_
          refine m_aload_n C dL_law_765 rfl rfl ?_
          refine m_aload_n C dL_law_766 rfl rfl ?_
          refine m_iload_n C dL_law_767 rfl rfl ?_
          refine m_iconst (v := 1) C dL_law_768 (by decide) ?_
          refine m_iadd C dL_law_769 ?_
          refine m_topi (fun x788 ex788 => ?_)
          have tx788 : x788.toInt = y3.toInt + 1 := by rw [ex788, ti_addv b8 kc_1 (by decide), kt_1]
          have b789 : IV x788 1 3067 := by rw [ex788]; exact iv_add b8 kc_1 (by decide)
          refine m_sld C hX hbl hbA ⟨by omega, by omega⟩ dL_law_770 ?_
          refine m_eqs (w := x774) (by rw [ex774, show x788.toInt.toNat = x772.toInt.toNat by omega]) ?_
          refine m_callV (n := 1) (ci := 11) (st := []) C (c_X12_rescueS l G τ775 (x774) i776 ) (by decide) (by decide) rfl rfl rfl q5_160 q5_157 q5_158 q5_159 q1_7 (by decide +kernel) rfl (by decide) ⟨by show (250 + 8 * y3.toInt.toNat) + 0 ≤ 600000; omega, by show (5300 + 24 * y3.toInt.toNat) + 0 ≤ 7302250; omega⟩ rfl (Nat.le_of_ble_eq_true rfl) dL_law_771 ?_
          rintro _ τ790 ⟨x793, rfl, i791, f792, b794, h796⟩
          have r797 : Rel τ790 := r783.call f792 (by decide) (by decide)
          have r798 : RT τ790 := r784.call f792 (by decide) (by decide)
          have r799 : CA τ790 S I := r785.fr f792 (by decide) (by decide)
          have r800 : MA τ790 S I := r782.sf i776 f792 h796 (by decide) (by decide)
          have r801 : RI τ790 := r786.call f792 (by decide) (by decide)
          have r802 : ST τ790 := r787.call f792 (by decide) (by decide)
          show MW p l e _ s m _ below meth c _ 4 G (250 + 8 * y3.toInt.toNat) (5300 + 24 * y3.toInt.toNat) 774 [some (.ref b), some (.ref (G.1 0 0)), some (.ref (G.1 22 0)), some (.int y3)] [.int x793] τ790
          refine m_pop C dL_law_774 rfl ?_
          refine m_goto (tgt := 1028) C dL_law_775 (by decide) ?_
          obtain ⟨x803, ex803⟩ : ∃ y : Int32, y = y3 + 6 := ⟨_, rfl⟩
          have tx803 : x803.toInt = y3.toInt + 6 := by rw [ex803, ti_addv b8 kc_6 (by decide), kt_6]
          have b804 : IV x803 6 3072 := by rw [ex803]; exact iv_add b8 kc_6 (by decide)
          refine m_iinc (v := x803) (L1 := [some (.ref b), some (.ref (G.1 0 0)), some (.ref (G.1 22 0)), some (.int x803)]) C dL_law_1028 rfl (by rw [ex803]; rfl) (by decide) rfl rfl ?_
          refine m_goto (tgt := 18) C dL_law_1031 (by decide) ?_
          refine m_widen (c2 := 250 + 8 * x803.toInt.toNat) (s2 := 5300 + 24 * x803.toInt.toNat) (by omega) (by omega) ?_
          exact ih18 τ790 x803 S I i791 r797 r798 r799 r800 r801 r802 (iv_wk b804 (by decide)) (by have q := hm18; omega)
        by_cases s805 : x11.toInt = 20
        · refine m_tableIn (tgt := 778) (off := 745) C dL_law_33 (by omega) (by omega) (by rw [s805]; rfl) (by decide) ?_
          have b806 : IV x11 20 20 := ⟨by omega, by omega⟩
          refine m_aload_n C dL_law_778 rfl rfl ?_
          refine m_callV (n := 0) (ci := 10) (st := []) C (c_X11_fallS l G τ  iτ ) (by decide) (by decide) rfl rfl rfl q3_220 q3_217 q3_218 q3_219 q1_1 (by decide +kernel) rfl (by decide) ⟨by show (250 + 8 * y3.toInt.toNat) + 0 ≤ 600000; omega, by show (5300 + 24 * y3.toInt.toNat) + 0 ≤ 7302250; omega⟩ rfl (Nat.le_of_ble_eq_true rfl) dL_law_779 ?_
          rintro _ τ807 ⟨x810, rfl, i808, f809, b811, h813⟩
          have r814 : MA τ807 S I := mτ.fr iτ f809 (by decide) (by decide)
          have r815 : Rel τ807 := rτ.call f809 (by decide) (by decide)
          have r816 : RT τ807 := tτ.call f809 (by decide) (by decide)
          have r817 : CA τ807 S I := cτ.sf f809 h813 (by decide) (by decide)
          have r818 : RI τ807 := jτ.call f809 (by decide) (by decide)
          have r819 : ST τ807 := oτ.call f809 (by decide) (by decide)
          show MW p l e _ s m _ below meth c _ 4 G (250 + 8 * y3.toInt.toNat) (5300 + 24 * y3.toInt.toNat) 782 [some (.ref b), some (.ref (G.1 0 0)), some (.ref (G.1 22 0)), some (.int y3)] [.int x810] τ807
          refine m_pop C dL_law_782 rfl ?_
          refine m_aload_n C dL_law_783 rfl rfl ?_
          refine m_callV (n := 0) (ci := 11) (st := []) C (c_X12_fallS l G τ807  i808 ) (by decide) (by decide) rfl rfl rfl q5_168 q5_165 q5_166 q5_167 q1_7 (by decide +kernel) rfl (by decide) ⟨by show (250 + 8 * y3.toInt.toNat) + 0 ≤ 600000; omega, by show (5300 + 24 * y3.toInt.toNat) + 0 ≤ 7302250; omega⟩ rfl (Nat.le_of_ble_eq_true rfl) dL_law_784 ?_
          rintro _ τ820 ⟨x823, rfl, i821, f822, b824, h826⟩
          have r827 : Rel τ820 := r815.call f822 (by decide) (by decide)
          have r828 : RT τ820 := r816.call f822 (by decide) (by decide)
          have r829 : CA τ820 S I := r817.fr f822 (by decide) (by decide)
          have r830 : MA τ820 S I := r814.sf i808 f822 h826 (by decide) (by decide)
          have r831 : RI τ820 := r818.call f822 (by decide) (by decide)
          have r832 : ST τ820 := r819.call f822 (by decide) (by decide)
          show MW p l e _ s m _ below meth c _ 4 G (250 + 8 * y3.toInt.toNat) (5300 + 24 * y3.toInt.toNat) 787 [some (.ref b), some (.ref (G.1 0 0)), some (.ref (G.1 22 0)), some (.int y3)] [.int x823] τ820
          refine m_pop C dL_law_787 rfl ?_
          refine m_goto (tgt := 1028) C dL_law_788 (by decide) ?_
          obtain ⟨x833, ex833⟩ : ∃ y : Int32, y = y3 + 6 := ⟨_, rfl⟩
          have tx833 : x833.toInt = y3.toInt + 6 := by rw [ex833, ti_addv b8 kc_6 (by decide), kt_6]
          have b834 : IV x833 6 3072 := by rw [ex833]; exact iv_add b8 kc_6 (by decide)
          refine m_iinc (v := x833) (L1 := [some (.ref b), some (.ref (G.1 0 0)), some (.ref (G.1 22 0)), some (.int x833)]) C dL_law_1028 rfl (by rw [ex833]; rfl) (by decide) rfl rfl ?_
          refine m_goto (tgt := 18) C dL_law_1031 (by decide) ?_
          refine m_widen (c2 := 250 + 8 * x833.toInt.toNat) (s2 := 5300 + 24 * x833.toInt.toNat) (by omega) (by omega) ?_
          exact ih18 τ820 x833 S I i821 r827 r828 r829 r830 r831 r832 (iv_wk b834 (by decide)) (by have q := hm18; omega)
        by_cases s835 : x11.toInt = 21
        · refine m_tableIn (tgt := 791) (off := 758) C dL_law_33 (by omega) (by omega) (by rw [s835]; rfl) (by decide) ?_
          have b836 : IV x11 21 21 := ⟨by omega, by omega⟩
          refine m_aload_n C dL_law_791 rfl rfl ?_
          refine m_aload_n C dL_law_792 rfl rfl ?_
          refine m_iload_n C dL_law_793 rfl rfl ?_
          refine m_iconst (v := 1) C dL_law_794 (by decide) ?_
          refine m_iadd C dL_law_795 ?_
          refine m_topi (fun x837 ex837 => ?_)
          have tx837 : x837.toInt = y3.toInt + 1 := by rw [ex837, ti_addv b8 kc_1 (by decide), kt_1]
          have b838 : IV x837 1 3067 := by rw [ex837]; exact iv_add b8 kc_1 (by decide)
          refine m_sld C hX hbl hbA ⟨by omega, by omega⟩ dL_law_796 ?_
          refine m_topi (fun x839 ex839 => ?_)
          refine m_aload_n C dL_law_797 rfl rfl ?_
          refine m_iload_n C dL_law_798 rfl rfl ?_
          refine m_iconst (v := 2) C dL_law_799 (by decide) ?_
          refine m_iadd C dL_law_800 ?_
          refine m_topi (fun x840 ex840 => ?_)
          have tx840 : x840.toInt = y3.toInt + 2 := by rw [ex840, ti_addv b8 kc_2 (by decide), kt_2]
          have b841 : IV x840 2 3068 := by rw [ex840]; exact iv_add b8 kc_2 (by decide)
          refine m_sld C hX hbl hbA ⟨by omega, by omega⟩ dL_law_801 ?_
          refine m_topi (fun x842 ex842 => ?_)
          refine m_aload_n C dL_law_802 rfl rfl ?_
          refine m_iload_n C dL_law_803 rfl rfl ?_
          refine m_iconst (v := 3) C dL_law_804 (by decide) ?_
          refine m_iadd C dL_law_805 ?_
          refine m_topi (fun x843 ex843 => ?_)
          have tx843 : x843.toInt = y3.toInt + 3 := by rw [ex843, ti_addv b8 kc_3 (by decide), kt_3]
          have b844 : IV x843 3 3069 := by rw [ex843]; exact iv_add b8 kc_3 (by decide)
          refine m_sld C hX hbl hbA ⟨by omega, by omega⟩ dL_law_806 ?_
          refine m_topi (fun x845 ex845 => ?_)
          refine m_callV (n := 3) (ci := 10) (st := []) C (c_X11_bellsQ l G τ (x839) (x842) (x845) iτ ) (by decide) (by decide) rfl rfl rfl q3_224 q3_221 q3_222 q3_223 q1_1 (by decide +kernel) rfl (by decide) ⟨by show (250 + 8 * y3.toInt.toNat) + 0 ≤ 600000; omega, by show (5300 + 24 * y3.toInt.toNat) + 0 ≤ 7302250; omega⟩ rfl (Nat.le_of_ble_eq_true rfl) dL_law_807 ?_
          rintro _ τ846 ⟨x849, rfl, i847, f848, b850, h852⟩
          have r853 : MA τ846 S I := mτ.fr iτ f848 (by decide) (by decide)
          have r854 : RT τ846 := tτ.call f848 (by decide) (by decide)
          have r855 : CA τ846 S I := cτ.fr f848 (by decide) (by decide)
          have z856 := Hid.mk h852
          clear h852
          have r857 : Rel τ846 := rτ.call f848 (by decide) (by decide)
          have r858 : RI τ846 := jτ.call f848 (by decide) (by decide)
          show MW p l e _ s m _ below meth c _ 4 G (250 + 8 * y3.toInt.toNat) (5300 + 24 * y3.toInt.toNat) 810 [some (.ref b), some (.ref (G.1 0 0)), some (.ref (G.1 22 0)), some (.int y3)] [.int x849] τ846
          refine m_pop C dL_law_810 rfl ?_
          refine m_aload_n C dL_law_811 rfl rfl ?_
          refine m_aload_n C dL_law_812 rfl rfl ?_
          refine m_iload_n C dL_law_813 rfl rfl ?_
          refine m_iconst (v := 1) C dL_law_814 (by decide) ?_
          refine m_iadd C dL_law_815 ?_
          refine m_topi (fun x859 ex859 => ?_)
          have tx859 : x859.toInt = y3.toInt + 1 := by rw [ex859, ti_addv b8 kc_1 (by decide), kt_1]
          have b860 : IV x859 1 3067 := by rw [ex859]; exact iv_add b8 kc_1 (by decide)
          refine m_sld C hX hbl hbA ⟨by omega, by omega⟩ dL_law_816 ?_
          refine m_eqs (w := x839) (by rw [ex839, show x859.toInt.toNat = x837.toInt.toNat by omega]) ?_
          refine m_aload_n C dL_law_817 rfl rfl ?_
          refine m_iload_n C dL_law_818 rfl rfl ?_
          refine m_iconst (v := 2) C dL_law_819 (by decide) ?_
          refine m_iadd C dL_law_820 ?_
          refine m_topi (fun x861 ex861 => ?_)
          have tx861 : x861.toInt = y3.toInt + 2 := by rw [ex861, ti_addv b8 kc_2 (by decide), kt_2]
          have b862 : IV x861 2 3068 := by rw [ex861]; exact iv_add b8 kc_2 (by decide)
          refine m_sld C hX hbl hbA ⟨by omega, by omega⟩ dL_law_821 ?_
          refine m_eqs (w := x842) (by rw [ex842, show x861.toInt.toNat = x840.toInt.toNat by omega]) ?_
          refine m_aload_n C dL_law_822 rfl rfl ?_
          refine m_iload_n C dL_law_823 rfl rfl ?_
          refine m_iconst (v := 3) C dL_law_824 (by decide) ?_
          refine m_iadd C dL_law_825 ?_
          refine m_topi (fun x863 ex863 => ?_)
          have tx863 : x863.toInt = y3.toInt + 3 := by rw [ex863, ti_addv b8 kc_3 (by decide), kt_3]
          have b864 : IV x863 3 3069 := by rw [ex863]; exact iv_add b8 kc_3 (by decide)
          refine m_sld C hX hbl hbA ⟨by omega, by omega⟩ dL_law_826 ?_
          refine m_eqs (w := x845) (by rw [ex845, show x863.toInt.toNat = x843.toInt.toNat by omega]) ?_
          refine m_callV (n := 3) (ci := 11) (st := []) C (c_X12_bellsQ l G τ846 (x839) (x842) (x845) i847 ) (by decide) (by decide) rfl rfl rfl q5_172 q5_169 q5_170 q5_171 q1_7 (by decide +kernel) rfl (by decide) ⟨by show (250 + 8 * y3.toInt.toNat) + 0 ≤ 600000; omega, by show (5300 + 24 * y3.toInt.toNat) + 0 ≤ 7302250; omega⟩ rfl (Nat.le_of_ble_eq_true rfl) dL_law_827 ?_
          rintro _ τ865 ⟨x868, rfl, i866, f867, b869, h871⟩
          have r873 : RT τ865 := r854.call f867 (by decide) (by decide)
          have r874 : CA τ865 S I := r855.fr f867 (by decide) (by decide)
          have r875 : MA τ865 S I := r853.fr i847 f867 (by decide) (by decide)
          have r876 : Rel τ865 := r857.call f867 (by decide) (by decide)
          have r877 : RI τ865 := r858.call f867 (by decide) (by decide)
          have r878 : ST τ865 := RQ.bellsB rτ jτ oτ f848 f867 z856 h871
          clear h871 z856
          show MW p l e _ s m _ below meth c _ 4 G (250 + 8 * y3.toInt.toNat) (5300 + 24 * y3.toInt.toNat) 830 [some (.ref b), some (.ref (G.1 0 0)), some (.ref (G.1 22 0)), some (.int y3)] [.int x868] τ865
          refine m_pop C dL_law_830 rfl ?_
          refine m_goto (tgt := 1028) C dL_law_831 (by decide) ?_
          obtain ⟨x879, ex879⟩ : ∃ y : Int32, y = y3 + 6 := ⟨_, rfl⟩
          have tx879 : x879.toInt = y3.toInt + 6 := by rw [ex879, ti_addv b8 kc_6 (by decide), kt_6]
          have b880 : IV x879 6 3072 := by rw [ex879]; exact iv_add b8 kc_6 (by decide)
          refine m_iinc (v := x879) (L1 := [some (.ref b), some (.ref (G.1 0 0)), some (.ref (G.1 22 0)), some (.int x879)]) C dL_law_1028 rfl (by rw [ex879]; rfl) (by decide) rfl rfl ?_
          refine m_goto (tgt := 18) C dL_law_1031 (by decide) ?_
          refine m_widen (c2 := 250 + 8 * x879.toInt.toNat) (s2 := 5300 + 24 * x879.toInt.toNat) (by omega) (by omega) ?_
          exact ih18 τ865 x879 S I i866 r876 r873 r874 r875 r877 r878 (iv_wk b880 (by decide)) (by have q := hm18; omega)
        by_cases s881 : x11.toInt = 22
        · refine m_tableIn (tgt := 834) (off := 801) C dL_law_33 (by omega) (by omega) (by rw [s881]; rfl) (by decide) ?_
          have b882 : IV x11 22 22 := ⟨by omega, by omega⟩
          refine m_aload_n C dL_law_834 rfl rfl ?_
          refine m_aload_n C dL_law_835 rfl rfl ?_
          refine m_iload_n C dL_law_836 rfl rfl ?_
          refine m_iconst (v := 1) C dL_law_837 (by decide) ?_
          refine m_iadd C dL_law_838 ?_
          refine m_topi (fun x883 ex883 => ?_)
          have tx883 : x883.toInt = y3.toInt + 1 := by rw [ex883, ti_addv b8 kc_1 (by decide), kt_1]
          have b884 : IV x883 1 3067 := by rw [ex883]; exact iv_add b8 kc_1 (by decide)
          refine m_sld C hX hbl hbA ⟨by omega, by omega⟩ dL_law_839 ?_
          refine m_topi (fun x885 ex885 => ?_)
          refine m_callV (n := 1) (ci := 10) (st := []) C (c_X11_imageS l G τ S I (x885) iτ cτ) (by decide) (by decide) rfl rfl rfl q4_0 q3_237 q3_238 q3_239 q1_1 (by decide +kernel) rfl (by decide) ⟨by show (250 + 8 * y3.toInt.toNat) + 0 ≤ 600000; omega, by show (5300 + 24 * y3.toInt.toNat) + 0 ≤ 7302250; omega⟩ rfl (Nat.le_of_ble_eq_true rfl) dL_law_840 ?_
          rintro _ τ886 ⟨x889, rfl, i887, f888, b890, h892⟩
          have r893 : MA τ886 S I := mτ.fr iτ f888 (by decide) (by decide)
          have z894 := Hid.mk h892
          clear h892
          have r895 : Rel τ886 := rτ.call f888 (by decide) (by decide)
          have r896 : RT τ886 := tτ.call f888 (by decide) (by decide)
          have r897 : RI τ886 := jτ.call f888 (by decide) (by decide)
          have r898 : ST τ886 := oτ.call f888 (by decide) (by decide)
          show MW p l e _ s m _ below meth c _ 4 G (250 + 8 * y3.toInt.toNat) (5300 + 24 * y3.toInt.toNat) 843 [some (.ref b), some (.ref (G.1 0 0)), some (.ref (G.1 22 0)), some (.int y3)] [.int x889] τ886
          refine m_pop C dL_law_843 rfl ?_
          refine m_aload_n C dL_law_844 rfl rfl ?_
          refine m_aload_n C dL_law_845 rfl rfl ?_
          refine m_iload_n C dL_law_846 rfl rfl ?_
          refine m_iconst (v := 1) C dL_law_847 (by decide) ?_
          refine m_iadd C dL_law_848 ?_
          refine m_topi (fun x899 ex899 => ?_)
          have tx899 : x899.toInt = y3.toInt + 1 := by rw [ex899, ti_addv b8 kc_1 (by decide), kt_1]
          have b900 : IV x899 1 3067 := by rw [ex899]; exact iv_add b8 kc_1 (by decide)
          refine m_sld C hX hbl hbA ⟨by omega, by omega⟩ dL_law_849 ?_
          refine m_eqs (w := x885) (by rw [ex885, show x899.toInt.toNat = x883.toInt.toNat by omega]) ?_
          refine m_callV (n := 1) (ci := 11) (st := []) C (c_X12_imageS l G τ886 S I (x885) i887 r893) (by decide) (by decide) rfl rfl rfl q5_178 q5_175 q5_176 q5_177 q1_7 (by decide +kernel) rfl (by decide) ⟨by show (250 + 8 * y3.toInt.toNat) + 0 ≤ 600000; omega, by show (5300 + 24 * y3.toInt.toNat) + 0 ≤ 7302250; omega⟩ rfl (Nat.le_of_ble_eq_true rfl) dL_law_850 ?_
          rintro _ τ901 ⟨x904, rfl, i902, f903, b905, h907⟩
          have r909 : Rel τ901 := r895.call f903 (by decide) (by decide)
          have r910 : RT τ901 := r896.call f903 (by decide) (by decide)
          obtain ⟨S911, h912, h913, q914⟩ := RS.imageB f903 z894 h907
          clear h907 z894
          have r915 : RI τ901 := r897.call f903 (by decide) (by decide)
          have r916 : ST τ901 := r898.call f903 (by decide) (by decide)
          show MW p l e _ s m _ below meth c _ 4 G (250 + 8 * y3.toInt.toNat) (5300 + 24 * y3.toInt.toNat) 853 [some (.ref b), some (.ref (G.1 0 0)), some (.ref (G.1 22 0)), some (.int y3)] [.int x904] τ901
          refine m_pop C dL_law_853 rfl ?_
          refine m_goto (tgt := 1028) C dL_law_854 (by decide) ?_
          obtain ⟨x917, ex917⟩ : ∃ y : Int32, y = y3 + 6 := ⟨_, rfl⟩
          have tx917 : x917.toInt = y3.toInt + 6 := by rw [ex917, ti_addv b8 kc_6 (by decide), kt_6]
          have b918 : IV x917 6 3072 := by rw [ex917]; exact iv_add b8 kc_6 (by decide)
          refine m_iinc (v := x917) (L1 := [some (.ref b), some (.ref (G.1 0 0)), some (.ref (G.1 22 0)), some (.int x917)]) C dL_law_1028 rfl (by rw [ex917]; rfl) (by decide) rfl rfl ?_
          refine m_goto (tgt := 18) C dL_law_1031 (by decide) ?_
          refine m_widen (c2 := 250 + 8 * x917.toInt.toNat) (s2 := 5300 + 24 * x917.toInt.toNat) (by omega) (by omega) ?_
          exact ih18 τ901 x917 S S911 i902 r909 r910 h912 h913 r915 r916 (iv_wk b918 (by decide)) (by have q := hm18; omega)
        by_cases s919 : x11.toInt = 23
        · refine m_tableIn (tgt := 857) (off := 824) C dL_law_33 (by omega) (by omega) (by rw [s919]; rfl) (by decide) ?_
          have b920 : IV x11 23 23 := ⟨by omega, by omega⟩
          refine m_aload_n C dL_law_857 rfl rfl ?_
          refine m_aload_n C dL_law_858 rfl rfl ?_
          refine m_iload_n C dL_law_859 rfl rfl ?_
          refine m_iconst (v := 1) C dL_law_860 (by decide) ?_
          refine m_iadd C dL_law_861 ?_
          refine m_topi (fun x921 ex921 => ?_)
          have tx921 : x921.toInt = y3.toInt + 1 := by rw [ex921, ti_addv b8 kc_1 (by decide), kt_1]
          have b922 : IV x921 1 3067 := by rw [ex921]; exact iv_add b8 kc_1 (by decide)
          refine m_sld C hX hbl hbA ⟨by omega, by omega⟩ dL_law_862 ?_
          refine m_topi (fun x923 ex923 => ?_)
          refine m_callV (n := 1) (ci := 10) (st := []) C (c_X11_restoreS l G τ S I (x923) iτ cτ) (by decide) (by decide) rfl rfl rfl q4_4 q4_1 q4_2 q4_3 q1_1 (by decide +kernel) rfl (by decide) ⟨by show (250 + 8 * y3.toInt.toNat) + 0 ≤ 600000; omega, by show (5300 + 24 * y3.toInt.toNat) + 0 ≤ 7302250; omega⟩ rfl (Nat.le_of_ble_eq_true rfl) dL_law_863 ?_
          rintro _ τ924 ⟨x927, rfl, i925, f926, b928, h930⟩
          have r931 : MA τ924 S I := mτ.fr iτ f926 (by decide) (by decide)
          have z932 := Hid.mk h930
          clear h930
          have r933 : Rel τ924 := rτ.call f926 (by decide) (by decide)
          have r934 : RT τ924 := tτ.call f926 (by decide) (by decide)
          have r935 : RI τ924 := jτ.call f926 (by decide) (by decide)
          have r936 : ST τ924 := oτ.call f926 (by decide) (by decide)
          show MW p l e _ s m _ below meth c _ 4 G (250 + 8 * y3.toInt.toNat) (5300 + 24 * y3.toInt.toNat) 866 [some (.ref b), some (.ref (G.1 0 0)), some (.ref (G.1 22 0)), some (.int y3)] [.int x927] τ924
          refine m_pop C dL_law_866 rfl ?_
          refine m_aload_n C dL_law_867 rfl rfl ?_
          refine m_aload_n C dL_law_868 rfl rfl ?_
          refine m_iload_n C dL_law_869 rfl rfl ?_
          refine m_iconst (v := 1) C dL_law_870 (by decide) ?_
          refine m_iadd C dL_law_871 ?_
          refine m_topi (fun x937 ex937 => ?_)
          have tx937 : x937.toInt = y3.toInt + 1 := by rw [ex937, ti_addv b8 kc_1 (by decide), kt_1]
          have b938 : IV x937 1 3067 := by rw [ex937]; exact iv_add b8 kc_1 (by decide)
          refine m_sld C hX hbl hbA ⟨by omega, by omega⟩ dL_law_872 ?_
          refine m_eqs (w := x923) (by rw [ex923, show x937.toInt.toNat = x921.toInt.toNat by omega]) ?_
          refine m_callV (n := 1) (ci := 11) (st := []) C (c_X12_restoreS l G τ924 S I (x923) i925 r931) (by decide) (by decide) rfl rfl rfl q5_182 q5_179 q5_180 q5_181 q1_7 (by decide +kernel) rfl (by decide) ⟨by show (250 + 8 * y3.toInt.toNat) + 0 ≤ 600000; omega, by show (5300 + 24 * y3.toInt.toNat) + 0 ≤ 7302250; omega⟩ rfl (Nat.le_of_ble_eq_true rfl) dL_law_873 ?_
          rintro _ τ939 ⟨x942, rfl, i940, f941, b943, h945⟩
          have r947 : Rel τ939 := r933.call f941 (by decide) (by decide)
          have r948 : RT τ939 := r934.call f941 (by decide) (by decide)
          obtain ⟨S949, h950, h951, q952⟩ := RS.restoreB f941 z932 h945
          clear h945 z932
          have r953 : RI τ939 := r935.call f941 (by decide) (by decide)
          have r954 : ST τ939 := r936.call f941 (by decide) (by decide)
          show MW p l e _ s m _ below meth c _ 4 G (250 + 8 * y3.toInt.toNat) (5300 + 24 * y3.toInt.toNat) 876 [some (.ref b), some (.ref (G.1 0 0)), some (.ref (G.1 22 0)), some (.int y3)] [.int x942] τ939
          refine m_pop C dL_law_876 rfl ?_
          refine m_goto (tgt := 1028) C dL_law_877 (by decide) ?_
          obtain ⟨x955, ex955⟩ : ∃ y : Int32, y = y3 + 6 := ⟨_, rfl⟩
          have tx955 : x955.toInt = y3.toInt + 6 := by rw [ex955, ti_addv b8 kc_6 (by decide), kt_6]
          have b956 : IV x955 6 3072 := by rw [ex955]; exact iv_add b8 kc_6 (by decide)
          refine m_iinc (v := x955) (L1 := [some (.ref b), some (.ref (G.1 0 0)), some (.ref (G.1 22 0)), some (.int x955)]) C dL_law_1028 rfl (by rw [ex955]; rfl) (by decide) rfl rfl ?_
          refine m_goto (tgt := 18) C dL_law_1031 (by decide) ?_
          refine m_widen (c2 := 250 + 8 * x955.toInt.toNat) (s2 := 5300 + 24 * x955.toInt.toNat) (by omega) (by omega) ?_
          exact ih18 τ939 x955 S949 I i940 r947 r948 h950 h951 r953 r954 (iv_wk b956 (by decide)) (by have q := hm18; omega)
        by_cases s957 : x11.toInt = 24
        · refine m_tableIn (tgt := 880) (off := 847) C dL_law_33 (by omega) (by omega) (by rw [s957]; rfl) (by decide) ?_
          have b958 : IV x11 24 24 := ⟨by omega, by omega⟩
          refine m_aload_n C dL_law_880 rfl rfl ?_
          refine m_aload_n C dL_law_881 rfl rfl ?_
          refine m_iload_n C dL_law_882 rfl rfl ?_
          refine m_iconst (v := 1) C dL_law_883 (by decide) ?_
          refine m_iadd C dL_law_884 ?_
          refine m_topi (fun x959 ex959 => ?_)
          have tx959 : x959.toInt = y3.toInt + 1 := by rw [ex959, ti_addv b8 kc_1 (by decide), kt_1]
          have b960 : IV x959 1 3067 := by rw [ex959]; exact iv_add b8 kc_1 (by decide)
          refine m_sld C hX hbl hbA ⟨by omega, by omega⟩ dL_law_885 ?_
          refine m_topi (fun x961 ex961 => ?_)
          refine m_callV (n := 1) (ci := 10) (st := []) C (c_X11_kindS l G τ S I (x961) iτ cτ) (by decide) (by decide) rfl rfl rfl q4_8 q4_5 q4_6 q4_7 q1_1 (by decide +kernel) rfl (by decide) ⟨by show (250 + 8 * y3.toInt.toNat) + 0 ≤ 600000; omega, by show (5300 + 24 * y3.toInt.toNat) + 0 ≤ 7302250; omega⟩ rfl (Nat.le_of_ble_eq_true rfl) dL_law_886 ?_
          rintro _ τ962 ⟨x965, rfl, i963, f964, b966, h968⟩
          have r969 : MA τ962 S I := mτ.fr iτ f964 (by decide) (by decide)
          have z970 := Hid.mk h968
          clear h968
          have r971 : Rel τ962 := rτ.call f964 (by decide) (by decide)
          have r972 : RT τ962 := tτ.call f964 (by decide) (by decide)
          have r973 : CA τ962 S I := cτ.fr f964 (by decide) (by decide)
          have r974 : RI τ962 := jτ.call f964 (by decide) (by decide)
          have r975 : ST τ962 := oτ.call f964 (by decide) (by decide)
          show MW p l e _ s m _ below meth c _ 4 G (250 + 8 * y3.toInt.toNat) (5300 + 24 * y3.toInt.toNat) 889 [some (.ref b), some (.ref (G.1 0 0)), some (.ref (G.1 22 0)), some (.int y3)] [.int x965] τ962
          refine m_pop C dL_law_889 rfl ?_
          refine m_aload_n C dL_law_890 rfl rfl ?_
          refine m_aload_n C dL_law_891 rfl rfl ?_
          refine m_iload_n C dL_law_892 rfl rfl ?_
          refine m_iconst (v := 1) C dL_law_893 (by decide) ?_
          refine m_iadd C dL_law_894 ?_
          refine m_topi (fun x976 ex976 => ?_)
          have tx976 : x976.toInt = y3.toInt + 1 := by rw [ex976, ti_addv b8 kc_1 (by decide), kt_1]
          have b977 : IV x976 1 3067 := by rw [ex976]; exact iv_add b8 kc_1 (by decide)
          refine m_sld C hX hbl hbA ⟨by omega, by omega⟩ dL_law_895 ?_
          refine m_eqs (w := x961) (by rw [ex961, show x976.toInt.toNat = x959.toInt.toNat by omega]) ?_
          refine m_callV (n := 1) (ci := 11) (st := []) C (c_X12_kindS l G τ962 S I (x961) i963 r969) (by decide) (by decide) rfl rfl rfl q5_186 q5_183 q5_184 q5_185 q1_7 (by decide +kernel) rfl (by decide) ⟨by show (250 + 8 * y3.toInt.toNat) + 0 ≤ 600000; omega, by show (5300 + 24 * y3.toInt.toNat) + 0 ≤ 7302250; omega⟩ rfl (Nat.le_of_ble_eq_true rfl) dL_law_896 ?_
          rintro _ τ978 ⟨x981, rfl, i979, f980, b982, h984⟩
          have r986 : Rel τ978 := r971.call f980 (by decide) (by decide)
          have r987 : RT τ978 := r972.call f980 (by decide) (by decide)
          have g985 := RS.kindB z970 h984
          have r988 : CA τ978 S I := r973.fr f980 (by decide) (by decide)
          have r989 : MA τ978 S I := r969.fr i963 f980 (by decide) (by decide)
          clear h984 z970
          have r990 : RI τ978 := r974.call f980 (by decide) (by decide)
          have r991 : ST τ978 := r975.call f980 (by decide) (by decide)
          show MW p l e _ s m _ below meth c _ 4 G (250 + 8 * y3.toInt.toNat) (5300 + 24 * y3.toInt.toNat) 899 [some (.ref b), some (.ref (G.1 0 0)), some (.ref (G.1 22 0)), some (.int y3)] [.int x981] τ978
          refine m_pop C dL_law_899 rfl ?_
          refine m_goto (tgt := 1028) C dL_law_900 (by decide) ?_
          obtain ⟨x992, ex992⟩ : ∃ y : Int32, y = y3 + 6 := ⟨_, rfl⟩
          have tx992 : x992.toInt = y3.toInt + 6 := by rw [ex992, ti_addv b8 kc_6 (by decide), kt_6]
          have b993 : IV x992 6 3072 := by rw [ex992]; exact iv_add b8 kc_6 (by decide)
          refine m_iinc (v := x992) (L1 := [some (.ref b), some (.ref (G.1 0 0)), some (.ref (G.1 22 0)), some (.int x992)]) C dL_law_1028 rfl (by rw [ex992]; rfl) (by decide) rfl rfl ?_
          refine m_goto (tgt := 18) C dL_law_1031 (by decide) ?_
          refine m_widen (c2 := 250 + 8 * x992.toInt.toNat) (s2 := 5300 + 24 * x992.toInt.toNat) (by omega) (by omega) ?_
          exact ih18 τ978 x992 S I i979 r986 r987 r988 r989 r990 r991 (iv_wk b993 (by decide)) (by have q := hm18; omega)
        by_cases s994 : x11.toInt = 25
        · refine m_tableIn (tgt := 903) (off := 870) C dL_law_33 (by omega) (by omega) (by rw [s994]; rfl) (by decide) ?_
          have b995 : IV x11 25 25 := ⟨by omega, by omega⟩
          refine m_aload_n C dL_law_903 rfl rfl ?_
          refine m_aload_n C dL_law_904 rfl rfl ?_
          refine m_iload_n C dL_law_905 rfl rfl ?_
          refine m_iconst (v := 1) C dL_law_906 (by decide) ?_
          refine m_iadd C dL_law_907 ?_
          refine m_topi (fun x996 ex996 => ?_)
          have tx996 : x996.toInt = y3.toInt + 1 := by rw [ex996, ti_addv b8 kc_1 (by decide), kt_1]
          have b997 : IV x996 1 3067 := by rw [ex996]; exact iv_add b8 kc_1 (by decide)
          refine m_sld C hX hbl hbA ⟨by omega, by omega⟩ dL_law_908 ?_
          refine m_topi (fun x998 ex998 => ?_)
          refine m_aload_n C dL_law_909 rfl rfl ?_
          refine m_iload_n C dL_law_910 rfl rfl ?_
          refine m_iconst (v := 2) C dL_law_911 (by decide) ?_
          refine m_iadd C dL_law_912 ?_
          refine m_topi (fun x999 ex999 => ?_)
          have tx999 : x999.toInt = y3.toInt + 2 := by rw [ex999, ti_addv b8 kc_2 (by decide), kt_2]
          have b1000 : IV x999 2 3068 := by rw [ex999]; exact iv_add b8 kc_2 (by decide)
          refine m_sld C hX hbl hbA ⟨by omega, by omega⟩ dL_law_913 ?_
          refine m_topi (fun x1001 ex1001 => ?_)
          refine m_callV (n := 2) (ci := 10) (st := []) C (c_X11_asQ l G τ S I (x998) (x1001) iτ cτ) (by decide) (by decide) rfl rfl rfl q4_30 q4_27 q4_28 q4_29 q1_1 (by decide +kernel) rfl (by decide) ⟨by show (250 + 8 * y3.toInt.toNat) + 0 ≤ 600000; omega, by show (5300 + 24 * y3.toInt.toNat) + 0 ≤ 7302250; omega⟩ rfl (Nat.le_of_ble_eq_true rfl) dL_law_914 ?_
          rintro _ τ1002 ⟨x1005, rfl, i1003, f1004, b1006, h1008⟩
          obtain ⟨h1008, h1008t0⟩ := h1008
          have r1009 : MA τ1002 S I := mτ.fr iτ f1004 (by decide) (by decide)
          have r1010 : RT τ1002 := tτ.call f1004 (by decide) (by decide)
          have r1011 : CA τ1002 S I := cτ.fr f1004 (by decide) (by decide)
          have z1012 := Hid.mk h1008
          clear h1008
          have z1013 := Hid.mk h1008t0
          clear h1008t0
          have r1014 : Rel τ1002 := rτ.call f1004 (by decide) (by decide)
          have r1015 : RI τ1002 := jτ.call f1004 (by decide) (by decide)
          show MW p l e _ s m _ below meth c _ 4 G (250 + 8 * y3.toInt.toNat) (5300 + 24 * y3.toInt.toNat) 917 [some (.ref b), some (.ref (G.1 0 0)), some (.ref (G.1 22 0)), some (.int y3)] [.int x1005] τ1002
          refine m_pop C dL_law_917 rfl ?_
          refine m_aload_n C dL_law_918 rfl rfl ?_
          refine m_aload_n C dL_law_919 rfl rfl ?_
          refine m_iload_n C dL_law_920 rfl rfl ?_
          refine m_iconst (v := 1) C dL_law_921 (by decide) ?_
          refine m_iadd C dL_law_922 ?_
          refine m_topi (fun x1016 ex1016 => ?_)
          have tx1016 : x1016.toInt = y3.toInt + 1 := by rw [ex1016, ti_addv b8 kc_1 (by decide), kt_1]
          have b1017 : IV x1016 1 3067 := by rw [ex1016]; exact iv_add b8 kc_1 (by decide)
          refine m_sld C hX hbl hbA ⟨by omega, by omega⟩ dL_law_923 ?_
          refine m_eqs (w := x998) (by rw [ex998, show x1016.toInt.toNat = x996.toInt.toNat by omega]) ?_
          refine m_aload_n C dL_law_924 rfl rfl ?_
          refine m_iload_n C dL_law_925 rfl rfl ?_
          refine m_iconst (v := 2) C dL_law_926 (by decide) ?_
          refine m_iadd C dL_law_927 ?_
          refine m_topi (fun x1018 ex1018 => ?_)
          have tx1018 : x1018.toInt = y3.toInt + 2 := by rw [ex1018, ti_addv b8 kc_2 (by decide), kt_2]
          have b1019 : IV x1018 2 3068 := by rw [ex1018]; exact iv_add b8 kc_2 (by decide)
          refine m_sld C hX hbl hbA ⟨by omega, by omega⟩ dL_law_928 ?_
          refine m_eqs (w := x1001) (by rw [ex1001, show x1018.toInt.toNat = x999.toInt.toNat by omega]) ?_
          refine m_callV (n := 2) (ci := 11) (st := []) C (c_X12_asQ l G τ1002 S I (x998) (x1001) i1003 r1009) (by decide) (by decide) rfl rfl rfl q5_190 q5_187 q5_188 q5_189 q1_7 (by decide +kernel) rfl (by decide) ⟨by show (250 + 8 * y3.toInt.toNat) + 0 ≤ 600000; omega, by show (5300 + 24 * y3.toInt.toNat) + 0 ≤ 7302250; omega⟩ rfl (Nat.le_of_ble_eq_true rfl) dL_law_929 ?_
          rintro _ τ1020 ⟨x1023, rfl, i1021, f1022, b1024, h1026⟩
          obtain ⟨h1026, h1026t0⟩ := h1026
          have r1028 : RT τ1020 := r1010.call f1022 (by decide) (by decide)
          have r1029 : CA τ1020 S I := r1011.fr f1022 (by decide) (by decide)
          have r1030 : MA τ1020 S I := r1009.fr i1003 f1022 (by decide) (by decide)
          have r1031 : Rel τ1020 := r1014.call f1022 (by decide) (by decide)
          have r1032 : RI τ1020 := r1015.call f1022 (by decide) (by decide)
          have g1027 := RS.asB z1012 h1026
          have r1033 : ST τ1020 := RQ.asB oτ f1004 f1022 z1013 h1026t0
          clear h1026 z1012 z1013 h1026t0
          show MW p l e _ s m _ below meth c _ 4 G (250 + 8 * y3.toInt.toNat) (5300 + 24 * y3.toInt.toNat) 932 [some (.ref b), some (.ref (G.1 0 0)), some (.ref (G.1 22 0)), some (.int y3)] [.int x1023] τ1020
          refine m_pop C dL_law_932 rfl ?_
          refine m_goto (tgt := 1028) C dL_law_933 (by decide) ?_
          obtain ⟨x1034, ex1034⟩ : ∃ y : Int32, y = y3 + 6 := ⟨_, rfl⟩
          have tx1034 : x1034.toInt = y3.toInt + 6 := by rw [ex1034, ti_addv b8 kc_6 (by decide), kt_6]
          have b1035 : IV x1034 6 3072 := by rw [ex1034]; exact iv_add b8 kc_6 (by decide)
          refine m_iinc (v := x1034) (L1 := [some (.ref b), some (.ref (G.1 0 0)), some (.ref (G.1 22 0)), some (.int x1034)]) C dL_law_1028 rfl (by rw [ex1034]; rfl) (by decide) rfl rfl ?_
          refine m_goto (tgt := 18) C dL_law_1031 (by decide) ?_
          refine m_widen (c2 := 250 + 8 * x1034.toInt.toNat) (s2 := 5300 + 24 * x1034.toInt.toNat) (by omega) (by omega) ?_
          exact ih18 τ1020 x1034 S I i1021 r1031 r1028 r1029 r1030 r1032 r1033 (iv_wk b1035 (by decide)) (by have q := hm18; omega)
        by_cases s1036 : x11.toInt = 26
        · refine m_tableIn (tgt := 936) (off := 903) C dL_law_33 (by omega) (by omega) (by rw [s1036]; rfl) (by decide) ?_
          have b1037 : IV x11 26 26 := ⟨by omega, by omega⟩
          refine m_aload_n C dL_law_936 rfl rfl ?_
          refine m_aload_n C dL_law_937 rfl rfl ?_
          refine m_iload_n C dL_law_938 rfl rfl ?_
          refine m_iconst (v := 1) C dL_law_939 (by decide) ?_
          refine m_iadd C dL_law_940 ?_
          refine m_topi (fun x1038 ex1038 => ?_)
          have tx1038 : x1038.toInt = y3.toInt + 1 := by rw [ex1038, ti_addv b8 kc_1 (by decide), kt_1]
          have b1039 : IV x1038 1 3067 := by rw [ex1038]; exact iv_add b8 kc_1 (by decide)
          refine m_sld C hX hbl hbA ⟨by omega, by omega⟩ dL_law_941 ?_
          refine m_topi (fun x1040 ex1040 => ?_)
          refine m_aload_n C dL_law_942 rfl rfl ?_
          refine m_iload_n C dL_law_943 rfl rfl ?_
          refine m_iconst (v := 2) C dL_law_944 (by decide) ?_
          refine m_iadd C dL_law_945 ?_
          refine m_topi (fun x1041 ex1041 => ?_)
          have tx1041 : x1041.toInt = y3.toInt + 2 := by rw [ex1041, ti_addv b8 kc_2 (by decide), kt_2]
          have b1042 : IV x1041 2 3068 := by rw [ex1041]; exact iv_add b8 kc_2 (by decide)
          refine m_sld C hX hbl hbA ⟨by omega, by omega⟩ dL_law_946 ?_
          refine m_topi (fun x1043 ex1043 => ?_)
          refine m_callV (n := 2) (ci := 10) (st := []) C (c_X11_ask l G τ (x1040) (x1043) iτ ) (by decide) (by decide) rfl rfl rfl q4_42 q4_39 q4_40 q4_41 q1_1 (by decide +kernel) rfl (by decide) ⟨by show (250 + 8 * y3.toInt.toNat) + 0 ≤ 600000; omega, by show (5300 + 24 * y3.toInt.toNat) + 0 ≤ 7302250; omega⟩ rfl (Nat.le_of_ble_eq_true rfl) dL_law_947 ?_
          rintro _ τ1044 ⟨x1047, rfl, i1045, f1046, b1048⟩
          have r1051 : MA τ1044 S I := mτ.fr iτ f1046 (by decide) (by decide)
          have r1052 : Rel τ1044 := rτ.call f1046 (by decide) (by decide)
          have r1053 : RT τ1044 := tτ.call f1046 (by decide) (by decide)
          have r1054 : CA τ1044 S I := cτ.fr f1046 (by decide) (by decide)
          have r1055 : RI τ1044 := jτ.call f1046 (by decide) (by decide)
          have r1056 : ST τ1044 := oτ.call f1046 (by decide) (by decide)
          show MW p l e _ s m _ below meth c _ 4 G (250 + 8 * y3.toInt.toNat) (5300 + 24 * y3.toInt.toNat) 950 [some (.ref b), some (.ref (G.1 0 0)), some (.ref (G.1 22 0)), some (.int y3)] [.int x1047] τ1044
          refine m_pop C dL_law_950 rfl ?_
          refine m_aload_n C dL_law_951 rfl rfl ?_
          refine m_aload_n C dL_law_952 rfl rfl ?_
          refine m_iload_n C dL_law_953 rfl rfl ?_
          refine m_iconst (v := 1) C dL_law_954 (by decide) ?_
          refine m_iadd C dL_law_955 ?_
          refine m_topi (fun x1057 ex1057 => ?_)
          have tx1057 : x1057.toInt = y3.toInt + 1 := by rw [ex1057, ti_addv b8 kc_1 (by decide), kt_1]
          have b1058 : IV x1057 1 3067 := by rw [ex1057]; exact iv_add b8 kc_1 (by decide)
          refine m_sld C hX hbl hbA ⟨by omega, by omega⟩ dL_law_956 ?_
          refine m_eqs (w := x1040) (by rw [ex1040, show x1057.toInt.toNat = x1038.toInt.toNat by omega]) ?_
          refine m_aload_n C dL_law_957 rfl rfl ?_
          refine m_iload_n C dL_law_958 rfl rfl ?_
          refine m_iconst (v := 2) C dL_law_959 (by decide) ?_
          refine m_iadd C dL_law_960 ?_
          refine m_topi (fun x1059 ex1059 => ?_)
          have tx1059 : x1059.toInt = y3.toInt + 2 := by rw [ex1059, ti_addv b8 kc_2 (by decide), kt_2]
          have b1060 : IV x1059 2 3068 := by rw [ex1059]; exact iv_add b8 kc_2 (by decide)
          refine m_sld C hX hbl hbA ⟨by omega, by omega⟩ dL_law_961 ?_
          refine m_eqs (w := x1043) (by rw [ex1043, show x1059.toInt.toNat = x1041.toInt.toNat by omega]) ?_
          refine m_callV (n := 2) (ci := 11) (st := []) C (c_X12_ask l G τ1044 (x1040) (x1043) i1045 ) (by decide) (by decide) rfl rfl rfl q5_197 q5_194 q5_195 q5_196 q1_7 (by decide +kernel) rfl (by decide) ⟨by show (250 + 8 * y3.toInt.toNat) + 0 ≤ 600000; omega, by show (5300 + 24 * y3.toInt.toNat) + 0 ≤ 7302250; omega⟩ rfl (Nat.le_of_ble_eq_true rfl) dL_law_962 ?_
          rintro _ τ1061 ⟨x1064, rfl, i1062, f1063, b1065⟩
          have r1068 : Rel τ1061 := r1052.call f1063 (by decide) (by decide)
          have r1069 : RT τ1061 := r1053.call f1063 (by decide) (by decide)
          have r1070 : CA τ1061 S I := r1054.fr f1063 (by decide) (by decide)
          have r1071 : MA τ1061 S I := r1051.fr i1045 f1063 (by decide) (by decide)
          have r1072 : RI τ1061 := r1055.call f1063 (by decide) (by decide)
          have r1073 : ST τ1061 := r1056.call f1063 (by decide) (by decide)
          show MW p l e _ s m _ below meth c _ 4 G (250 + 8 * y3.toInt.toNat) (5300 + 24 * y3.toInt.toNat) 965 [some (.ref b), some (.ref (G.1 0 0)), some (.ref (G.1 22 0)), some (.int y3)] [.int x1064] τ1061
          refine m_pop C dL_law_965 rfl ?_
          refine m_goto (tgt := 1028) C dL_law_966 (by decide) ?_
          obtain ⟨x1074, ex1074⟩ : ∃ y : Int32, y = y3 + 6 := ⟨_, rfl⟩
          have tx1074 : x1074.toInt = y3.toInt + 6 := by rw [ex1074, ti_addv b8 kc_6 (by decide), kt_6]
          have b1075 : IV x1074 6 3072 := by rw [ex1074]; exact iv_add b8 kc_6 (by decide)
          refine m_iinc (v := x1074) (L1 := [some (.ref b), some (.ref (G.1 0 0)), some (.ref (G.1 22 0)), some (.int x1074)]) C dL_law_1028 rfl (by rw [ex1074]; rfl) (by decide) rfl rfl ?_
          refine m_goto (tgt := 18) C dL_law_1031 (by decide) ?_
          refine m_widen (c2 := 250 + 8 * x1074.toInt.toNat) (s2 := 5300 + 24 * x1074.toInt.toNat) (by omega) (by omega) ?_
          exact ih18 τ1061 x1074 S I i1062 r1068 r1069 r1070 r1071 r1072 r1073 (iv_wk b1075 (by decide)) (by have q := hm18; omega)
        by_cases s1076 : x11.toInt = 27
        · refine m_tableIn (tgt := 969) (off := 936) C dL_law_33 (by omega) (by omega) (by rw [s1076]; rfl) (by decide) ?_
          have b1077 : IV x11 27 27 := ⟨by omega, by omega⟩
          refine m_aload_n C dL_law_969 rfl rfl ?_
          refine m_aload_n C dL_law_970 rfl rfl ?_
          refine m_iload_n C dL_law_971 rfl rfl ?_
          refine m_iconst (v := 1) C dL_law_972 (by decide) ?_
          refine m_iadd C dL_law_973 ?_
          refine m_topi (fun x1078 ex1078 => ?_)
          have tx1078 : x1078.toInt = y3.toInt + 1 := by rw [ex1078, ti_addv b8 kc_1 (by decide), kt_1]
          have b1079 : IV x1078 1 3067 := by rw [ex1078]; exact iv_add b8 kc_1 (by decide)
          refine m_sld C hX hbl hbA ⟨by omega, by omega⟩ dL_law_974 ?_
          refine m_topi (fun x1080 ex1080 => ?_)
          refine m_callV (n := 1) (ci := 10) (st := []) C (c_X11_trace l G τ (x1080) iτ ) (by decide) (by decide) rfl rfl rfl q4_97 q4_94 q4_95 q4_96 q1_1 (by decide +kernel) rfl (by decide) ⟨by show (250 + 8 * y3.toInt.toNat) + 0 ≤ 600000; omega, by show (5300 + 24 * y3.toInt.toNat) + 0 ≤ 7302250; omega⟩ rfl (Nat.le_of_ble_eq_true rfl) dL_law_975 ?_
          rintro _ τ1081 ⟨x1084, rfl, i1082, f1083, b1085⟩
          have r1088 : MA τ1081 S I := mτ.fr iτ f1083 (by decide) (by decide)
          have r1089 : Rel τ1081 := rτ.call f1083 (by decide) (by decide)
          have r1090 : RT τ1081 := tτ.call f1083 (by decide) (by decide)
          have r1091 : CA τ1081 S I := cτ.fr f1083 (by decide) (by decide)
          have r1092 : RI τ1081 := jτ.call f1083 (by decide) (by decide)
          have r1093 : ST τ1081 := oτ.call f1083 (by decide) (by decide)
          show MW p l e _ s m _ below meth c _ 4 G (250 + 8 * y3.toInt.toNat) (5300 + 24 * y3.toInt.toNat) 978 [some (.ref b), some (.ref (G.1 0 0)), some (.ref (G.1 22 0)), some (.int y3)] [.int x1084] τ1081
          refine m_pop C dL_law_978 rfl ?_
          refine m_aload_n C dL_law_979 rfl rfl ?_
          refine m_aload_n C dL_law_980 rfl rfl ?_
          refine m_iload_n C dL_law_981 rfl rfl ?_
          refine m_iconst (v := 1) C dL_law_982 (by decide) ?_
          refine m_iadd C dL_law_983 ?_
          refine m_topi (fun x1094 ex1094 => ?_)
          have tx1094 : x1094.toInt = y3.toInt + 1 := by rw [ex1094, ti_addv b8 kc_1 (by decide), kt_1]
          have b1095 : IV x1094 1 3067 := by rw [ex1094]; exact iv_add b8 kc_1 (by decide)
          refine m_sld C hX hbl hbA ⟨by omega, by omega⟩ dL_law_984 ?_
          refine m_eqs (w := x1080) (by rw [ex1080, show x1094.toInt.toNat = x1078.toInt.toNat by omega]) ?_
          refine m_callV (n := 1) (ci := 11) (st := []) C (c_X12_trace l G τ1081 (x1080) i1082 ) (by decide) (by decide) rfl rfl rfl q5_213 q5_210 q5_211 q5_212 q1_7 (by decide +kernel) rfl (by decide) ⟨by show (250 + 8 * y3.toInt.toNat) + 0 ≤ 600000; omega, by show (5300 + 24 * y3.toInt.toNat) + 0 ≤ 7302250; omega⟩ rfl (Nat.le_of_ble_eq_true rfl) dL_law_985 ?_
          rintro _ τ1096 ⟨x1099, rfl, i1097, f1098, b1100⟩
          have r1103 : Rel τ1096 := r1089.call f1098 (by decide) (by decide)
          have r1104 : RT τ1096 := r1090.call f1098 (by decide) (by decide)
          have r1105 : CA τ1096 S I := r1091.fr f1098 (by decide) (by decide)
          have r1106 : MA τ1096 S I := r1088.fr i1082 f1098 (by decide) (by decide)
          have r1107 : RI τ1096 := r1092.call f1098 (by decide) (by decide)
          have r1108 : ST τ1096 := r1093.call f1098 (by decide) (by decide)
          show MW p l e _ s m _ below meth c _ 4 G (250 + 8 * y3.toInt.toNat) (5300 + 24 * y3.toInt.toNat) 988 [some (.ref b), some (.ref (G.1 0 0)), some (.ref (G.1 22 0)), some (.int y3)] [.int x1099] τ1096
          refine m_pop C dL_law_988 rfl ?_
          refine m_goto (tgt := 1028) C dL_law_989 (by decide) ?_
          obtain ⟨x1109, ex1109⟩ : ∃ y : Int32, y = y3 + 6 := ⟨_, rfl⟩
          have tx1109 : x1109.toInt = y3.toInt + 6 := by rw [ex1109, ti_addv b8 kc_6 (by decide), kt_6]
          have b1110 : IV x1109 6 3072 := by rw [ex1109]; exact iv_add b8 kc_6 (by decide)
          refine m_iinc (v := x1109) (L1 := [some (.ref b), some (.ref (G.1 0 0)), some (.ref (G.1 22 0)), some (.int x1109)]) C dL_law_1028 rfl (by rw [ex1109]; rfl) (by decide) rfl rfl ?_
          refine m_goto (tgt := 18) C dL_law_1031 (by decide) ?_
          refine m_widen (c2 := 250 + 8 * x1109.toInt.toNat) (s2 := 5300 + 24 * x1109.toInt.toNat) (by omega) (by omega) ?_
          exact ih18 τ1096 x1109 S I i1097 r1103 r1104 r1105 r1106 r1107 r1108 (iv_wk b1110 (by decide)) (by have q := hm18; omega)
        by_cases s1111 : x11.toInt = 28
        · refine m_tableIn (tgt := 992) (off := 959) C dL_law_33 (by omega) (by omega) (by rw [s1111]; rfl) (by decide) ?_
          have b1112 : IV x11 28 28 := ⟨by omega, by omega⟩
          refine m_aload_n C dL_law_992 rfl rfl ?_
          refine m_aload_n C dL_law_993 rfl rfl ?_
          refine m_iload_n C dL_law_994 rfl rfl ?_
          refine m_iconst (v := 1) C dL_law_995 (by decide) ?_
          refine m_iadd C dL_law_996 ?_
          refine m_topi (fun x1113 ex1113 => ?_)
          have tx1113 : x1113.toInt = y3.toInt + 1 := by rw [ex1113, ti_addv b8 kc_1 (by decide), kt_1]
          have b1114 : IV x1113 1 3067 := by rw [ex1113]; exact iv_add b8 kc_1 (by decide)
          refine m_sld C hX hbl hbA ⟨by omega, by omega⟩ dL_law_997 ?_
          refine m_topi (fun x1115 ex1115 => ?_)
          refine m_callV (n := 1) (ci := 10) (st := []) C (c_X11_count l G τ (x1115) iτ ) (by decide) (by decide) rfl rfl rfl q4_101 q4_98 q4_99 q4_100 q1_1 (by decide +kernel) rfl (by decide) ⟨by show (250 + 8 * y3.toInt.toNat) + 0 ≤ 600000; omega, by show (5300 + 24 * y3.toInt.toNat) + 0 ≤ 7302250; omega⟩ rfl (Nat.le_of_ble_eq_true rfl) dL_law_998 ?_
          rintro _ τ1116 ⟨x1119, rfl, i1117, f1118, b1120⟩
          have r1123 : MA τ1116 S I := mτ.fr iτ f1118 (by decide) (by decide)
          have r1124 : Rel τ1116 := rτ.call f1118 (by decide) (by decide)
          have r1125 : RT τ1116 := tτ.call f1118 (by decide) (by decide)
          have r1126 : CA τ1116 S I := cτ.fr f1118 (by decide) (by decide)
          have r1127 : RI τ1116 := jτ.call f1118 (by decide) (by decide)
          have r1128 : ST τ1116 := oτ.call f1118 (by decide) (by decide)
          show MW p l e _ s m _ below meth c _ 4 G (250 + 8 * y3.toInt.toNat) (5300 + 24 * y3.toInt.toNat) 1001 [some (.ref b), some (.ref (G.1 0 0)), some (.ref (G.1 22 0)), some (.int y3)] [.int x1119] τ1116
          refine m_pop C dL_law_1001 rfl ?_
          refine m_aload_n C dL_law_1002 rfl rfl ?_
          refine m_aload_n C dL_law_1003 rfl rfl ?_
          refine m_iload_n C dL_law_1004 rfl rfl ?_
          refine m_iconst (v := 1) C dL_law_1005 (by decide) ?_
          refine m_iadd C dL_law_1006 ?_
          refine m_topi (fun x1129 ex1129 => ?_)
          have tx1129 : x1129.toInt = y3.toInt + 1 := by rw [ex1129, ti_addv b8 kc_1 (by decide), kt_1]
          have b1130 : IV x1129 1 3067 := by rw [ex1129]; exact iv_add b8 kc_1 (by decide)
          refine m_sld C hX hbl hbA ⟨by omega, by omega⟩ dL_law_1007 ?_
          refine m_eqs (w := x1115) (by rw [ex1115, show x1129.toInt.toNat = x1113.toInt.toNat by omega]) ?_
          refine m_callV (n := 1) (ci := 11) (st := []) C (c_X12_count l G τ1116 (x1115) i1117 ) (by decide) (by decide) rfl rfl rfl q5_217 q5_214 q5_215 q5_216 q1_7 (by decide +kernel) rfl (by decide) ⟨by show (250 + 8 * y3.toInt.toNat) + 0 ≤ 600000; omega, by show (5300 + 24 * y3.toInt.toNat) + 0 ≤ 7302250; omega⟩ rfl (Nat.le_of_ble_eq_true rfl) dL_law_1008 ?_
          rintro _ τ1131 ⟨x1134, rfl, i1132, f1133, b1135⟩
          have r1138 : Rel τ1131 := r1124.call f1133 (by decide) (by decide)
          have r1139 : RT τ1131 := r1125.call f1133 (by decide) (by decide)
          have r1140 : CA τ1131 S I := r1126.fr f1133 (by decide) (by decide)
          have r1141 : MA τ1131 S I := r1123.fr i1117 f1133 (by decide) (by decide)
          have r1142 : RI τ1131 := r1127.call f1133 (by decide) (by decide)
          have r1143 : ST τ1131 := r1128.call f1133 (by decide) (by decide)
          show MW p l e _ s m _ below meth c _ 4 G (250 + 8 * y3.toInt.toNat) (5300 + 24 * y3.toInt.toNat) 1011 [some (.ref b), some (.ref (G.1 0 0)), some (.ref (G.1 22 0)), some (.int y3)] [.int x1134] τ1131
          refine m_pop C dL_law_1011 rfl ?_
          refine m_goto (tgt := 1028) C dL_law_1012 (by decide) ?_
          obtain ⟨x1144, ex1144⟩ : ∃ y : Int32, y = y3 + 6 := ⟨_, rfl⟩
          have tx1144 : x1144.toInt = y3.toInt + 6 := by rw [ex1144, ti_addv b8 kc_6 (by decide), kt_6]
          have b1145 : IV x1144 6 3072 := by rw [ex1144]; exact iv_add b8 kc_6 (by decide)
          refine m_iinc (v := x1144) (L1 := [some (.ref b), some (.ref (G.1 0 0)), some (.ref (G.1 22 0)), some (.int x1144)]) C dL_law_1028 rfl (by rw [ex1144]; rfl) (by decide) rfl rfl ?_
          refine m_goto (tgt := 18) C dL_law_1031 (by decide) ?_
          refine m_widen (c2 := 250 + 8 * x1144.toInt.toNat) (s2 := 5300 + 24 * x1144.toInt.toNat) (by omega) (by omega) ?_
          exact ih18 τ1131 x1144 S I i1132 r1138 r1139 r1140 r1141 r1142 r1143 (iv_wk b1145 (by decide)) (by have q := hm18; omega)
        by_cases s1146 : x11.toInt = 29
        · refine m_tableIn (tgt := 1015) (off := 982) C dL_law_33 (by omega) (by omega) (by rw [s1146]; rfl) (by decide) ?_
          have b1147 : IV x11 29 29 := ⟨by omega, by omega⟩
          refine m_aload_n C dL_law_1015 rfl rfl ?_
          refine m_callV (n := 0) (ci := 10) (st := []) C (c_X11_statusQ l G τ  iτ ) (by decide) (by decide) rfl rfl rfl q4_109 q4_106 q4_107 q4_108 q1_1 (by decide +kernel) rfl (by decide) ⟨by show (250 + 8 * y3.toInt.toNat) + 0 ≤ 600000; omega, by show (5300 + 24 * y3.toInt.toNat) + 0 ≤ 7302250; omega⟩ rfl (Nat.le_of_ble_eq_true rfl) dL_law_1016 ?_
          rintro _ τ1148 ⟨x1151, rfl, i1149, f1150, b1152, h1154⟩
          have r1155 : MA τ1148 S I := mτ.fr iτ f1150 (by decide) (by decide)
          have r1156 : RT τ1148 := tτ.call f1150 (by decide) (by decide)
          have r1157 : CA τ1148 S I := cτ.fr f1150 (by decide) (by decide)
          have z1158 := Hid.mk h1154
          clear h1154
          have r1159 : Rel τ1148 := rτ.call f1150 (by decide) (by decide)
          have r1160 : RI τ1148 := jτ.call f1150 (by decide) (by decide)
          have r1161 : ST τ1148 := oτ.call f1150 (by decide) (by decide)
          show MW p l e _ s m _ below meth c _ 4 G (250 + 8 * y3.toInt.toNat) (5300 + 24 * y3.toInt.toNat) 1019 [some (.ref b), some (.ref (G.1 0 0)), some (.ref (G.1 22 0)), some (.int y3)] [.int x1151] τ1148
          refine m_aload_n C dL_law_1019 rfl rfl ?_
          refine m_callV (n := 0) (ci := 11) (st := [.int x1151]) C (c_X12_statusQ l G τ1148  i1149 ) (by decide) (by decide) rfl rfl rfl q5_221 q5_218 q5_219 q5_220 q1_7 (by decide +kernel) rfl (by decide) ⟨by show (250 + 8 * y3.toInt.toNat) + 0 ≤ 600000; omega, by show (5300 + 24 * y3.toInt.toNat) + 0 ≤ 7302250; omega⟩ rfl (Nat.le_of_ble_eq_true rfl) dL_law_1020 ?_
          rintro _ τ1162 ⟨x1165, rfl, i1163, f1164, b1166, h1168⟩
          have r1170 : RT τ1162 := r1156.call f1164 (by decide) (by decide)
          have r1171 : CA τ1162 S I := r1157.fr f1164 (by decide) (by decide)
          have r1172 : MA τ1162 S I := r1155.fr i1149 f1164 (by decide) (by decide)
          have r1173 : Rel τ1162 := r1159.call f1164 (by decide) (by decide)
          have r1174 : RI τ1162 := r1160.call f1164 (by decide) (by decide)
          have g1169 := RQ.statusB oτ f1150 z1158 h1168
          have r1175 : ST τ1162 := r1161.call f1164 (by decide) (by decide)
          clear h1168 z1158
          show MW p l e _ s m _ below meth c _ 4 G (250 + 8 * y3.toInt.toNat) (5300 + 24 * y3.toInt.toNat) 1023 [some (.ref b), some (.ref (G.1 0 0)), some (.ref (G.1 22 0)), some (.int y3)] [.int x1165, .int x1151] τ1162
          refine m_icmp_eq (tgt := 1028) C dL_law_1023 (by decide) (fun c1176 => ?_) (fun c1176 => ?_)
          · have f1177 : x1151.toInt = x1165.toInt := by
              have q : _ := c1176
              simp only [ti_nle, ti_nlt, ti_le, ti_lt, ti_eq, ti_ne, Classical.not_not] at q
              omega
            obtain ⟨x1178, ex1178⟩ : ∃ y : Int32, y = y3 + 6 := ⟨_, rfl⟩
            have tx1178 : x1178.toInt = y3.toInt + 6 := by rw [ex1178, ti_addv b8 kc_6 (by decide), kt_6]
            have b1179 : IV x1178 6 3072 := by rw [ex1178]; exact iv_add b8 kc_6 (by decide)
            refine m_iinc (v := x1178) (L1 := [some (.ref b), some (.ref (G.1 0 0)), some (.ref (G.1 22 0)), some (.int x1178)]) C dL_law_1028 rfl (by rw [ex1178]; rfl) (by decide) rfl rfl ?_
            refine m_goto (tgt := 18) C dL_law_1031 (by decide) ?_
            refine m_widen (c2 := 250 + 8 * x1178.toInt.toNat) (s2 := 5300 + 24 * x1178.toInt.toNat) (by omega) (by omega) ?_
            exact ih18 τ1162 x1178 S I i1163 r1173 r1170 r1171 r1172 r1174 r1175 (iv_wk b1179 (by decide)) (by have q := hm18; omega)
          · have f1180 : x1151.toInt ≠ x1165.toInt := by
              have q : _ := c1176
              simp only [ti_nle, ti_nlt, ti_le, ti_lt, ti_eq, ti_ne, Classical.not_not] at q
              omega
            exfalso
            omega
        exact absurd s13 (by omega)
end LAW
