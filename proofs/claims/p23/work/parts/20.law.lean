def Hid (P : Prop) : Prop := P
theorem Hid.mk {P : Prop} (h : P) : Hid P := h
theorem RB.rowB {σ τ υ : Sg} {a1 a2 a3 r1 r2 : Int32} (h : Rel σ) (hI : Inv σ) (hi : RI σ) (f1 : Fr MS_X11_rowQ AS_X11_rowQ σ τ) (f2 : Fr MS_X12_rowQ AS_X12_rowQ τ υ) (c0 : (((a1.toInt < 0 ∨ 7 < a1.toInt ∨ a2.toInt < 0 ∨ 2 < a2.toInt ∨ 40 < a3.toInt) ∧ r1.toInt = -1000001 ∧ SameR σ τ) ∨ ((0 ≤ a1.toInt ∧ a1.toInt ≤ 7 ∧ 0 ≤ a2.toInt ∧ a2.toInt ≤ 2 ∧ a3.toInt < 0) ∧ r1.toInt = -1000014 ∧ SameR σ τ) ∨ ((0 ≤ a1.toInt ∧ a1.toInt ≤ 7 ∧ 0 ≤ a2.toInt ∧ a2.toInt ≤ 2 ∧ 0 ≤ a3.toInt ∧ a3.toInt ≤ 40) ∧ r1.toInt = a3.toInt ∧ BG σ τ (a1.toInt.toNat) a2 a3))) (c1 : (((a1.toInt < 0 ∨ 7 < a1.toInt ∨ a2.toInt < 0 ∨ 2 < a2.toInt ∨ 40 < a3.toInt) → (gV τ 0 0 12).toInt = (gV σ 0 0 12).toInt) ∧ (((0 ≤ a1.toInt ∧ a1.toInt ≤ 7 ∧ 0 ≤ a2.toInt ∧ a2.toInt ≤ 2) ∧ a3.toInt < 0) → (gV τ 0 0 12).toInt = 4) ∧ (((0 ≤ a1.toInt ∧ a1.toInt ≤ 7 ∧ 0 ≤ a2.toInt ∧ a2.toInt ≤ 2) ∧ 0 ≤ a3.toInt ∧ a3.toInt ≤ 40) → (gV τ 0 0 12).toInt = 0))) (c2 : ((((0 ≤ a1.toInt ∧ a1.toInt ≤ 7 ∧ 0 ≤ a2.toInt ∧ a2.toInt ≤ 2) ∧ 0 ≤ a3.toInt ∧ a3.toInt ≤ 40) → IZ σ τ (a1.toInt.toNat) 40) ∧ (¬ ((0 ≤ a1.toInt ∧ a1.toInt ≤ 7 ∧ 0 ≤ a2.toInt ∧ a2.toInt ≤ 2) ∧ 0 ≤ a3.toInt ∧ a3.toInt ≤ 40) → SameI σ τ))) (m0 : (((a1.toInt < 0 ∨ 7 < a1.toInt ∨ a2.toInt < 0 ∨ 2 < a2.toInt ∨ 40 < a3.toInt) ∧ r2.toInt = -1000001 ∧ SameL τ υ) ∨ ((0 ≤ a1.toInt ∧ a1.toInt ≤ 7 ∧ 0 ≤ a2.toInt ∧ a2.toInt ≤ 2 ∧ a3.toInt < 0) ∧ r2.toInt = -1000014 ∧ SameL τ υ) ∨ ((0 ≤ a1.toInt ∧ a1.toInt ≤ 7 ∧ 0 ≤ a2.toInt ∧ a2.toInt ≤ 2 ∧ 0 ≤ a3.toInt ∧ a3.toInt ≤ 40) ∧ r2.toInt = a3.toInt ∧ LU τ υ (a1.toInt.toNat) a2 a3))) (m1 : (((a1.toInt < 0 ∨ 7 < a1.toInt ∨ a2.toInt < 0 ∨ 2 < a2.toInt ∨ 40 < a3.toInt) → (gV υ 22 0 8).toInt = (gV τ 22 0 8).toInt) ∧ (((0 ≤ a1.toInt ∧ a1.toInt ≤ 7 ∧ 0 ≤ a2.toInt ∧ a2.toInt ≤ 2) ∧ a3.toInt < 0) → (gV υ 22 0 8).toInt = 4) ∧ (((0 ≤ a1.toInt ∧ a1.toInt ≤ 7 ∧ 0 ≤ a2.toInt ∧ a2.toInt ≤ 2) ∧ 0 ≤ a3.toInt ∧ a3.toInt ≤ 40) → (gV υ 22 0 8).toInt = 0))) (m2 : ((((0 ≤ a1.toInt ∧ a1.toInt ≤ 7 ∧ 0 ≤ a2.toInt ∧ a2.toInt ≤ 2) ∧ 0 ≤ a3.toInt ∧ a3.toInt ≤ 40) → JZ τ υ (40 * (a1.toInt.toNat)) a3.toInt.toNat) ∧ (¬ ((0 ≤ a1.toInt ∧ a1.toInt ≤ 7 ∧ 0 ≤ a2.toInt ∧ a2.toInt ≤ 2) ∧ 0 ≤ a3.toInt ∧ a3.toInt ≤ 40) → SameJ τ υ))) : RI υ := by
  have e2 : SameJ σ τ := fun k => f1.1 25 0 k (by simp) (by decide)
  have e1 : SameI τ υ := fun j i => f2.1 21 j i (by simp) (by decide)
  have e3 : SameL σ τ := SameL.rf.fr f1 (by simp) (by decide)
  by_cases g : ((0 ≤ a1.toInt ∧ a1.toInt ≤ 7 ∧ 0 ≤ a2.toInt ∧ a2.toInt ≤ 2) ∧ 0 ≤ a3.toInt ∧ a3.toInt ≤ 40)
  · rcases m0 with ⟨m, _⟩ | ⟨m, _⟩ | ⟨_, _, u⟩
    · exfalso; omega
    · exfalso; omega
    · exact hi.begin hI (c2.1 g) e1 e2 e3 (m2.1 g) u (by omega)
  · have k : SameL τ υ := by
      rcases m0 with ⟨_, _, u⟩ | ⟨_, _, u⟩ | ⟨q, _⟩
      · exact u
      · exact u
      · exfalso; omega
    exact hi.same (fun j i => (e1 j i).trans (c2.2 g j i)) (fun q => (m2.2 g q).trans (e2 q)) (fun q => ⟨(k q).1.trans (e3 q).1, (k q).2.trans (e3 q).2⟩)
theorem RB.setB {σ τ υ : Sg} {a1 a2 a3 r1 r2 : Int32} (h : Rel σ) (hI : Inv σ) (hi : RI σ) (f1 : Fr MS_X11_setQ AS_X11_setQ σ τ) (f2 : Fr MS_X12_setQ AS_X12_setQ τ υ) (c0 : (((a1.toInt < 0 ∨ 7 < a1.toInt) ∧ r1.toInt = -1000001) ∨ ((0 ≤ a1.toInt ∧ a1.toInt ≤ 7) ∧ (gV σ 20 (a1.toInt.toNat) 1).toInt = -1 ∧ r1.toInt = -1000011) ∨ ((0 ≤ a1.toInt ∧ a1.toInt ≤ 7) ∧ ¬ ((gV σ 20 (a1.toInt.toNat) 1).toInt = -1) ∧ (a2.toInt < 0 ∨ (gV σ 20 (a1.toInt.toNat) 2).toInt ≤ a2.toInt) ∧ r1.toInt = -1000012) ∨ ((0 ≤ a1.toInt ∧ a1.toInt ≤ 7) ∧ ¬ ((gV σ 20 (a1.toInt.toNat) 1).toInt = -1) ∧ 0 ≤ a2.toInt ∧ a2.toInt < (gV σ 20 (a1.toInt.toNat) 2).toInt ∧ r1.toInt = (cutF (gV σ 20 (a1.toInt.toNat) 1) a3).toInt))) (c1 : (((a1.toInt < 0 ∨ 7 < a1.toInt) → (gV τ 0 0 12).toInt = (gV σ 0 0 12).toInt) ∧ (((0 ≤ a1.toInt ∧ a1.toInt ≤ 7) ∧ (gV σ 20 (a1.toInt.toNat) 1).toInt = -1) → (gV τ 0 0 12).toInt = 1) ∧ (((0 ≤ a1.toInt ∧ a1.toInt ≤ 7) ∧ ¬ ((gV σ 20 (a1.toInt.toNat) 1).toInt = -1) ∧ (a2.toInt < 0 ∨ (gV σ 20 (a1.toInt.toNat) 2).toInt ≤ a2.toInt)) → (gV τ 0 0 12).toInt = 2) ∧ (((0 ≤ a1.toInt ∧ a1.toInt ≤ 7) ∧ ¬ ((gV σ 20 (a1.toInt.toNat) 1).toInt = -1) ∧ 0 ≤ a2.toInt ∧ a2.toInt < (gV σ 20 (a1.toInt.toNat) 2).toInt) → (gV τ 0 0 12).toInt = 0))) (c2 : ((((0 ≤ a1.toInt ∧ a1.toInt ≤ 7) ∧ ¬ ((gV σ 20 (a1.toInt.toNat) 1).toInt = -1) ∧ 0 ≤ a2.toInt ∧ a2.toInt < (gV σ 20 (a1.toInt.toNat) 2).toInt) → ∃ v : Int32, v.toInt = r1.toInt ∧ I1 σ τ (a1.toInt.toNat) (a2.toInt.toNat) v) ∧ (¬ ((0 ≤ a1.toInt ∧ a1.toInt ≤ 7) ∧ ¬ ((gV σ 20 (a1.toInt.toNat) 1).toInt = -1) ∧ 0 ≤ a2.toInt ∧ a2.toInt < (gV σ 20 (a1.toInt.toNat) 2).toInt) → SameI σ τ))) (m0 : (((a1.toInt < 0 ∨ 7 < a1.toInt) ∧ r2.toInt = -1000001) ∨ ((0 ≤ a1.toInt ∧ a1.toInt ≤ 7) ∧ (gV τ 26 0 (a1.toInt.toNat)).toInt < 0 ∧ r2.toInt = -1000011) ∨ ((0 ≤ a1.toInt ∧ a1.toInt ≤ 7) ∧ ¬ ((gV τ 26 0 (a1.toInt.toNat)).toInt < 0) ∧ (a2.toInt < 0 ∨ (gV τ 27 0 (a1.toInt.toNat)).toInt ≤ a2.toInt) ∧ r2.toInt = -1000012) ∨ ((0 ≤ a1.toInt ∧ a1.toInt ≤ 7) ∧ ¬ ((gV τ 26 0 (a1.toInt.toNat)).toInt < 0) ∧ 0 ≤ a2.toInt ∧ a2.toInt < (gV τ 27 0 (a1.toInt.toNat)).toInt ∧ r2.toInt = (cutF (gV τ 26 0 (a1.toInt.toNat)) a3).toInt))) (m1 : (((a1.toInt < 0 ∨ 7 < a1.toInt) → (gV υ 22 0 8).toInt = (gV τ 22 0 8).toInt) ∧ (((0 ≤ a1.toInt ∧ a1.toInt ≤ 7) ∧ (gV τ 26 0 (a1.toInt.toNat)).toInt < 0) → (gV υ 22 0 8).toInt = 1) ∧ (((0 ≤ a1.toInt ∧ a1.toInt ≤ 7) ∧ ¬ ((gV τ 26 0 (a1.toInt.toNat)).toInt < 0) ∧ (a2.toInt < 0 ∨ (gV τ 27 0 (a1.toInt.toNat)).toInt ≤ a2.toInt)) → (gV υ 22 0 8).toInt = 2) ∧ (((0 ≤ a1.toInt ∧ a1.toInt ≤ 7) ∧ ¬ ((gV τ 26 0 (a1.toInt.toNat)).toInt < 0) ∧ 0 ≤ a2.toInt ∧ a2.toInt < (gV τ 27 0 (a1.toInt.toNat)).toInt) → (gV υ 22 0 8).toInt = 0))) (m2 : ((((0 ≤ a1.toInt ∧ a1.toInt ≤ 7) ∧ ¬ ((gV τ 26 0 (a1.toInt.toNat)).toInt < 0) ∧ 0 ≤ a2.toInt ∧ a2.toInt < (gV τ 27 0 (a1.toInt.toNat)).toInt) → ∃ v : Int32, v.toInt = r2.toInt ∧ J1_ τ υ (40 * (a1.toInt.toNat) + (a2.toInt.toNat)) v) ∧ (¬ ((0 ≤ a1.toInt ∧ a1.toInt ≤ 7) ∧ ¬ ((gV τ 26 0 (a1.toInt.toNat)).toInt < 0) ∧ 0 ≤ a2.toInt ∧ a2.toInt < (gV τ 27 0 (a1.toInt.toNat)).toInt) → SameJ τ υ))) : RI υ := by
  have e2 : SameJ σ τ := fun k => f1.1 25 0 k (by simp) (by decide)
  have e1 : SameI τ υ := fun j i => f2.1 21 j i (by simp) (by decide)
  have l1 : SameL σ τ := SameL.rf.fr f1 (by simp) (by decide)
  have g1 : (a1.toInt.toNat) < 8 → (gV σ 20 (a1.toInt.toNat) 1).toInt = (gV τ 26 0 (a1.toInt.toNat)).toInt ∧ -1 ≤ (gV τ 26 0 (a1.toInt.toNat)).toInt ∧ (0 ≤ (gV τ 26 0 (a1.toInt.toNat)).toInt → (gV σ 20 (a1.toInt.toNat) 2).toInt = (gV τ 27 0 (a1.toInt.toNat)).toInt) := fun hj => by
    rw [(l1 (a1.toInt.toNat)).1, (l1 (a1.toInt.toNat)).2]
    exact ⟨congrArg Int32.toInt (h.1 (a1.toInt.toNat) hj).1, (h.1 (a1.toInt.toNat) hj).2.1, fun q => congrArg Int32.toInt ((h.1 (a1.toInt.toNat) hj).2.2 q)⟩
  have e3 : SameL σ υ := fun q => ⟨(f2.1 26 0 q (by simp) (by decide)).trans (l1 q).1, (f2.1 27 0 q (by simp) (by decide)).trans (l1 q).2⟩
  have hr := Rel.setB h f1 f2 c0 m0
  by_cases hin : 0 ≤ a1.toInt ∧ a1.toInt ≤ 7
  · have q := g1 (by omega)
    by_cases g : ((0 ≤ a1.toInt ∧ a1.toInt ≤ 7) ∧ ¬ ((gV σ 20 (a1.toInt.toNat) 1).toInt = -1) ∧ 0 ≤ a2.toInt ∧ a2.toInt < (gV σ 20 (a1.toInt.toNat) 2).toInt)
    · have g' : ((0 ≤ a1.toInt ∧ a1.toInt ≤ 7) ∧ ¬ ((gV τ 26 0 (a1.toInt.toNat)).toInt < 0) ∧ 0 ≤ a2.toInt ∧ a2.toInt < (gV τ 27 0 (a1.toInt.toNat)).toInt) := by omega
      obtain ⟨v, v1, v2⟩ := c2.1 g
      obtain ⟨w, w1, w2⟩ := m2.1 g'
      have b : IV (gV σ 20 (a1.toInt.toNat) 2) 0 40 := hI.1 20 (a1.toInt.toNat) 2
      have b2 := b.2
      exact hi.set v2 e1 e2 w2 e3 hI (by omega) (Int32.toInt_inj.mp (by omega))
    · have g' : ¬ ((0 ≤ a1.toInt ∧ a1.toInt ≤ 7) ∧ ¬ ((gV τ 26 0 (a1.toInt.toNat)).toInt < 0) ∧ 0 ≤ a2.toInt ∧ a2.toInt < (gV τ 27 0 (a1.toInt.toNat)).toInt) := by omega
      exact hi.same (fun j i => (e1 j i).trans (c2.2 g j i)) (fun z => (m2.2 g' z).trans (e2 z)) e3
  · skip
    exact hi.same (fun j i => (e1 j i).trans (c2.2 (by omega) j i)) (fun z => (m2.2 (by omega) z).trans (e2 z)) e3
theorem RB.copyB {σ τ υ : Sg} {a1 a2 a3 a4 a5 r1 r2 : Int32} (h : Rel σ) (hI : Inv σ) (hi : RI σ) (f1 : Fr MS_X11_copyQ AS_X11_copyQ σ τ) (f2 : Fr MS_X12_copyQ AS_X12_copyQ τ υ) (c0 : (((a1.toInt < 0 ∨ 7 < a1.toInt ∨ a3.toInt < 0 ∨ 7 < a3.toInt) ∧ r1.toInt = -1000001) ∨ ((0 ≤ a1.toInt ∧ a1.toInt ≤ 7 ∧ 0 ≤ a3.toInt ∧ a3.toInt ≤ 7) ∧ ((gV σ 20 (a1.toInt.toNat) 1).toInt = -1 ∨ (gV σ 20 (a3.toInt.toNat) 1).toInt = -1) ∧ r1.toInt = -1000011) ∨ ((0 ≤ a1.toInt ∧ a1.toInt ≤ 7 ∧ 0 ≤ a3.toInt ∧ a3.toInt ≤ 7) ∧ ¬ ((gV σ 20 (a1.toInt.toNat) 1).toInt = -1) ∧ ¬ ((gV σ 20 (a3.toInt.toNat) 1).toInt = -1) ∧ (gV σ 20 (a1.toInt.toNat) 1).toInt ≠ (gV σ 20 (a3.toInt.toNat) 1).toInt ∧ r1.toInt = -1000015) ∨ ((0 ≤ a1.toInt ∧ a1.toInt ≤ 7 ∧ 0 ≤ a3.toInt ∧ a3.toInt ≤ 7) ∧ ¬ ((gV σ 20 (a1.toInt.toNat) 1).toInt = -1) ∧ ¬ ((gV σ 20 (a3.toInt.toNat) 1).toInt = -1) ∧ (gV σ 20 (a1.toInt.toNat) 1).toInt = (gV σ 20 (a3.toInt.toNat) 1).toInt ∧ ¬ (0 ≤ a2.toInt ∧ 0 ≤ a4.toInt ∧ 0 ≤ a5.toInt ∧ a2.toInt + a5.toInt ≤ (gV σ 20 (a1.toInt.toNat) 2).toInt ∧ a4.toInt + a5.toInt ≤ (gV σ 20 (a3.toInt.toNat) 2).toInt) ∧ r1.toInt = -1000012) ∨ ((0 ≤ a1.toInt ∧ a1.toInt ≤ 7 ∧ 0 ≤ a3.toInt ∧ a3.toInt ≤ 7) ∧ ¬ ((gV σ 20 (a1.toInt.toNat) 1).toInt = -1) ∧ ¬ ((gV σ 20 (a3.toInt.toNat) 1).toInt = -1) ∧ (gV σ 20 (a1.toInt.toNat) 1).toInt = (gV σ 20 (a3.toInt.toNat) 1).toInt ∧ (0 ≤ a2.toInt ∧ 0 ≤ a4.toInt ∧ 0 ≤ a5.toInt ∧ a2.toInt + a5.toInt ≤ (gV σ 20 (a1.toInt.toNat) 2).toInt ∧ a4.toInt + a5.toInt ≤ (gV σ 20 (a3.toInt.toNat) 2).toInt) ∧ r1.toInt = a5.toInt))) (c1 : (((a1.toInt < 0 ∨ 7 < a1.toInt ∨ a3.toInt < 0 ∨ 7 < a3.toInt) → (gV τ 0 0 12).toInt = (gV σ 0 0 12).toInt) ∧ (((0 ≤ a1.toInt ∧ a1.toInt ≤ 7 ∧ 0 ≤ a3.toInt ∧ a3.toInt ≤ 7) ∧ ((gV σ 20 (a1.toInt.toNat) 1).toInt = -1 ∨ (gV σ 20 (a3.toInt.toNat) 1).toInt = -1)) → (gV τ 0 0 12).toInt = 1) ∧ (((0 ≤ a1.toInt ∧ a1.toInt ≤ 7 ∧ 0 ≤ a3.toInt ∧ a3.toInt ≤ 7) ∧ ¬ ((gV σ 20 (a1.toInt.toNat) 1).toInt = -1) ∧ ¬ ((gV σ 20 (a3.toInt.toNat) 1).toInt = -1) ∧ ¬ ((gV σ 20 (a1.toInt.toNat) 1).toInt = (gV σ 20 (a3.toInt.toNat) 1).toInt)) → (gV τ 0 0 12).toInt = 5) ∧ (((0 ≤ a1.toInt ∧ a1.toInt ≤ 7 ∧ 0 ≤ a3.toInt ∧ a3.toInt ≤ 7) ∧ ¬ ((gV σ 20 (a1.toInt.toNat) 1).toInt = -1) ∧ ¬ ((gV σ 20 (a3.toInt.toNat) 1).toInt = -1) ∧ (gV σ 20 (a1.toInt.toNat) 1).toInt = (gV σ 20 (a3.toInt.toNat) 1).toInt ∧ ¬ (0 ≤ a2.toInt ∧ 0 ≤ a4.toInt ∧ 0 ≤ a5.toInt ∧ a2.toInt + a5.toInt ≤ (gV σ 20 (a1.toInt.toNat) 2).toInt ∧ a4.toInt + a5.toInt ≤ (gV σ 20 (a3.toInt.toNat) 2).toInt)) → (gV τ 0 0 12).toInt = 2) ∧ (((0 ≤ a1.toInt ∧ a1.toInt ≤ 7 ∧ 0 ≤ a3.toInt ∧ a3.toInt ≤ 7) ∧ ¬ ((gV σ 20 (a1.toInt.toNat) 1).toInt = -1) ∧ ¬ ((gV σ 20 (a3.toInt.toNat) 1).toInt = -1) ∧ (gV σ 20 (a1.toInt.toNat) 1).toInt = (gV σ 20 (a3.toInt.toNat) 1).toInt ∧ (0 ≤ a2.toInt ∧ 0 ≤ a4.toInt ∧ 0 ≤ a5.toInt ∧ a2.toInt + a5.toInt ≤ (gV σ 20 (a1.toInt.toNat) 2).toInt ∧ a4.toInt + a5.toInt ≤ (gV σ 20 (a3.toInt.toNat) 2).toInt)) → (gV τ 0 0 12).toInt = 0))) (c2 : ((((0 ≤ a1.toInt ∧ a1.toInt ≤ 7 ∧ 0 ≤ a3.toInt ∧ a3.toInt ≤ 7) ∧ ¬ ((gV σ 20 (a1.toInt.toNat) 1).toInt = -1) ∧ ¬ ((gV σ 20 (a3.toInt.toNat) 1).toInt = -1) ∧ (gV σ 20 (a1.toInt.toNat) 1).toInt = (gV σ 20 (a3.toInt.toNat) 1).toInt ∧ (0 ≤ a2.toInt ∧ 0 ≤ a4.toInt ∧ 0 ≤ a5.toInt ∧ a2.toInt + a5.toInt ≤ (gV σ 20 (a1.toInt.toNat) 2).toInt ∧ a4.toInt + a5.toInt ≤ (gV σ 20 (a3.toInt.toNat) 2).toInt)) → IC σ τ (a1.toInt.toNat) (a2.toInt.toNat) (a3.toInt.toNat) (a4.toInt.toNat) (a5.toInt.toNat)) ∧ (¬ ((0 ≤ a1.toInt ∧ a1.toInt ≤ 7 ∧ 0 ≤ a3.toInt ∧ a3.toInt ≤ 7) ∧ ¬ ((gV σ 20 (a1.toInt.toNat) 1).toInt = -1) ∧ ¬ ((gV σ 20 (a3.toInt.toNat) 1).toInt = -1) ∧ (gV σ 20 (a1.toInt.toNat) 1).toInt = (gV σ 20 (a3.toInt.toNat) 1).toInt ∧ (0 ≤ a2.toInt ∧ 0 ≤ a4.toInt ∧ 0 ≤ a5.toInt ∧ a2.toInt + a5.toInt ≤ (gV σ 20 (a1.toInt.toNat) 2).toInt ∧ a4.toInt + a5.toInt ≤ (gV σ 20 (a3.toInt.toNat) 2).toInt)) → SameI σ τ))) (m0 : (((a1.toInt < 0 ∨ 7 < a1.toInt ∨ a3.toInt < 0 ∨ 7 < a3.toInt) ∧ r2.toInt = -1000001) ∨ ((0 ≤ a1.toInt ∧ a1.toInt ≤ 7 ∧ 0 ≤ a3.toInt ∧ a3.toInt ≤ 7) ∧ ((gV τ 26 0 (a1.toInt.toNat)).toInt < 0 ∨ (gV τ 26 0 (a3.toInt.toNat)).toInt < 0) ∧ r2.toInt = -1000011) ∨ ((0 ≤ a1.toInt ∧ a1.toInt ≤ 7 ∧ 0 ≤ a3.toInt ∧ a3.toInt ≤ 7) ∧ ¬ ((gV τ 26 0 (a1.toInt.toNat)).toInt < 0) ∧ ¬ ((gV τ 26 0 (a3.toInt.toNat)).toInt < 0) ∧ (gV τ 26 0 (a1.toInt.toNat)).toInt ≠ (gV τ 26 0 (a3.toInt.toNat)).toInt ∧ r2.toInt = -1000015) ∨ ((0 ≤ a1.toInt ∧ a1.toInt ≤ 7 ∧ 0 ≤ a3.toInt ∧ a3.toInt ≤ 7) ∧ ¬ ((gV τ 26 0 (a1.toInt.toNat)).toInt < 0) ∧ ¬ ((gV τ 26 0 (a3.toInt.toNat)).toInt < 0) ∧ (gV τ 26 0 (a1.toInt.toNat)).toInt = (gV τ 26 0 (a3.toInt.toNat)).toInt ∧ ¬ (0 ≤ a2.toInt ∧ 0 ≤ a4.toInt ∧ 0 ≤ a5.toInt ∧ a2.toInt + a5.toInt ≤ (gV τ 27 0 (a1.toInt.toNat)).toInt ∧ a4.toInt + a5.toInt ≤ (gV τ 27 0 (a3.toInt.toNat)).toInt) ∧ r2.toInt = -1000012) ∨ ((0 ≤ a1.toInt ∧ a1.toInt ≤ 7 ∧ 0 ≤ a3.toInt ∧ a3.toInt ≤ 7) ∧ ¬ ((gV τ 26 0 (a1.toInt.toNat)).toInt < 0) ∧ ¬ ((gV τ 26 0 (a3.toInt.toNat)).toInt < 0) ∧ (gV τ 26 0 (a1.toInt.toNat)).toInt = (gV τ 26 0 (a3.toInt.toNat)).toInt ∧ (0 ≤ a2.toInt ∧ 0 ≤ a4.toInt ∧ 0 ≤ a5.toInt ∧ a2.toInt + a5.toInt ≤ (gV τ 27 0 (a1.toInt.toNat)).toInt ∧ a4.toInt + a5.toInt ≤ (gV τ 27 0 (a3.toInt.toNat)).toInt) ∧ r2.toInt = a5.toInt))) (m1 : (((a1.toInt < 0 ∨ 7 < a1.toInt ∨ a3.toInt < 0 ∨ 7 < a3.toInt) → (gV υ 22 0 8).toInt = (gV τ 22 0 8).toInt) ∧ (((0 ≤ a1.toInt ∧ a1.toInt ≤ 7 ∧ 0 ≤ a3.toInt ∧ a3.toInt ≤ 7) ∧ ((gV τ 26 0 (a1.toInt.toNat)).toInt < 0 ∨ (gV τ 26 0 (a3.toInt.toNat)).toInt < 0)) → (gV υ 22 0 8).toInt = 1) ∧ (((0 ≤ a1.toInt ∧ a1.toInt ≤ 7 ∧ 0 ≤ a3.toInt ∧ a3.toInt ≤ 7) ∧ ¬ ((gV τ 26 0 (a1.toInt.toNat)).toInt < 0) ∧ ¬ ((gV τ 26 0 (a3.toInt.toNat)).toInt < 0) ∧ ¬ ((gV τ 26 0 (a1.toInt.toNat)).toInt = (gV τ 26 0 (a3.toInt.toNat)).toInt)) → (gV υ 22 0 8).toInt = 5) ∧ (((0 ≤ a1.toInt ∧ a1.toInt ≤ 7 ∧ 0 ≤ a3.toInt ∧ a3.toInt ≤ 7) ∧ ¬ ((gV τ 26 0 (a1.toInt.toNat)).toInt < 0) ∧ ¬ ((gV τ 26 0 (a3.toInt.toNat)).toInt < 0) ∧ (gV τ 26 0 (a1.toInt.toNat)).toInt = (gV τ 26 0 (a3.toInt.toNat)).toInt ∧ ¬ (0 ≤ a2.toInt ∧ 0 ≤ a4.toInt ∧ 0 ≤ a5.toInt ∧ a2.toInt + a5.toInt ≤ (gV τ 27 0 (a1.toInt.toNat)).toInt ∧ a4.toInt + a5.toInt ≤ (gV τ 27 0 (a3.toInt.toNat)).toInt)) → (gV υ 22 0 8).toInt = 2) ∧ (((0 ≤ a1.toInt ∧ a1.toInt ≤ 7 ∧ 0 ≤ a3.toInt ∧ a3.toInt ≤ 7) ∧ ¬ ((gV τ 26 0 (a1.toInt.toNat)).toInt < 0) ∧ ¬ ((gV τ 26 0 (a3.toInt.toNat)).toInt < 0) ∧ (gV τ 26 0 (a1.toInt.toNat)).toInt = (gV τ 26 0 (a3.toInt.toNat)).toInt ∧ (0 ≤ a2.toInt ∧ 0 ≤ a4.toInt ∧ 0 ≤ a5.toInt ∧ a2.toInt + a5.toInt ≤ (gV τ 27 0 (a1.toInt.toNat)).toInt ∧ a4.toInt + a5.toInt ≤ (gV τ 27 0 (a3.toInt.toNat)).toInt)) → (gV υ 22 0 8).toInt = 0))) (m2 : ((((0 ≤ a1.toInt ∧ a1.toInt ≤ 7 ∧ 0 ≤ a3.toInt ∧ a3.toInt ≤ 7) ∧ ¬ ((gV τ 26 0 (a1.toInt.toNat)).toInt < 0) ∧ ¬ ((gV τ 26 0 (a3.toInt.toNat)).toInt < 0) ∧ (gV τ 26 0 (a1.toInt.toNat)).toInt = (gV τ 26 0 (a3.toInt.toNat)).toInt ∧ (0 ≤ a2.toInt ∧ 0 ≤ a4.toInt ∧ 0 ≤ a5.toInt ∧ a2.toInt + a5.toInt ≤ (gV τ 27 0 (a1.toInt.toNat)).toInt ∧ a4.toInt + a5.toInt ≤ (gV τ 27 0 (a3.toInt.toNat)).toInt)) → JC τ υ (40 * (a1.toInt.toNat) + (a2.toInt.toNat)) (40 * (a3.toInt.toNat) + (a4.toInt.toNat)) (a5.toInt.toNat)) ∧ (¬ ((0 ≤ a1.toInt ∧ a1.toInt ≤ 7 ∧ 0 ≤ a3.toInt ∧ a3.toInt ≤ 7) ∧ ¬ ((gV τ 26 0 (a1.toInt.toNat)).toInt < 0) ∧ ¬ ((gV τ 26 0 (a3.toInt.toNat)).toInt < 0) ∧ (gV τ 26 0 (a1.toInt.toNat)).toInt = (gV τ 26 0 (a3.toInt.toNat)).toInt ∧ (0 ≤ a2.toInt ∧ 0 ≤ a4.toInt ∧ 0 ≤ a5.toInt ∧ a2.toInt + a5.toInt ≤ (gV τ 27 0 (a1.toInt.toNat)).toInt ∧ a4.toInt + a5.toInt ≤ (gV τ 27 0 (a3.toInt.toNat)).toInt)) → SameJ τ υ))) : RI υ := by
  have e2 : SameJ σ τ := fun k => f1.1 25 0 k (by simp) (by decide)
  have e1 : SameI τ υ := fun j i => f2.1 21 j i (by simp) (by decide)
  have l1 : SameL σ τ := SameL.rf.fr f1 (by simp) (by decide)
  have g1 : (a1.toInt.toNat) < 8 → (gV σ 20 (a1.toInt.toNat) 1).toInt = (gV τ 26 0 (a1.toInt.toNat)).toInt ∧ -1 ≤ (gV τ 26 0 (a1.toInt.toNat)).toInt ∧ (0 ≤ (gV τ 26 0 (a1.toInt.toNat)).toInt → (gV σ 20 (a1.toInt.toNat) 2).toInt = (gV τ 27 0 (a1.toInt.toNat)).toInt) := fun hj => by
    rw [(l1 (a1.toInt.toNat)).1, (l1 (a1.toInt.toNat)).2]
    exact ⟨congrArg Int32.toInt (h.1 (a1.toInt.toNat) hj).1, (h.1 (a1.toInt.toNat) hj).2.1, fun q => congrArg Int32.toInt ((h.1 (a1.toInt.toNat) hj).2.2 q)⟩
  have g3 : (a3.toInt.toNat) < 8 → (gV σ 20 (a3.toInt.toNat) 1).toInt = (gV τ 26 0 (a3.toInt.toNat)).toInt ∧ -1 ≤ (gV τ 26 0 (a3.toInt.toNat)).toInt ∧ (0 ≤ (gV τ 26 0 (a3.toInt.toNat)).toInt → (gV σ 20 (a3.toInt.toNat) 2).toInt = (gV τ 27 0 (a3.toInt.toNat)).toInt) := fun hj => by
    rw [(l1 (a3.toInt.toNat)).1, (l1 (a3.toInt.toNat)).2]
    exact ⟨congrArg Int32.toInt (h.1 (a3.toInt.toNat) hj).1, (h.1 (a3.toInt.toNat) hj).2.1, fun q => congrArg Int32.toInt ((h.1 (a3.toInt.toNat) hj).2.2 q)⟩
  have e3 : SameL σ υ := fun q => ⟨(f2.1 26 0 q (by simp) (by decide)).trans (l1 q).1, (f2.1 27 0 q (by simp) (by decide)).trans (l1 q).2⟩
  by_cases hin : 0 ≤ a1.toInt ∧ a1.toInt ≤ 7 ∧ 0 ≤ a3.toInt ∧ a3.toInt ≤ 7
  · have q := g1 (by omega)
    have q3 := g3 (by omega)
    have b : IV (gV τ 27 0 (a3.toInt.toNat)) 0 40 := by rw [(l1 _).2]; exact hI.1 27 0 (a3.toInt.toNat)
    have b2 := b.2
    by_cases g : ((0 ≤ a1.toInt ∧ a1.toInt ≤ 7 ∧ 0 ≤ a3.toInt ∧ a3.toInt ≤ 7) ∧ ¬ ((gV σ 20 (a1.toInt.toNat) 1).toInt = -1) ∧ ¬ ((gV σ 20 (a3.toInt.toNat) 1).toInt = -1) ∧ (gV σ 20 (a1.toInt.toNat) 1).toInt = (gV σ 20 (a3.toInt.toNat) 1).toInt ∧ (0 ≤ a2.toInt ∧ 0 ≤ a4.toInt ∧ 0 ≤ a5.toInt ∧ a2.toInt + a5.toInt ≤ (gV σ 20 (a1.toInt.toNat) 2).toInt ∧ a4.toInt + a5.toInt ≤ (gV σ 20 (a3.toInt.toNat) 2).toInt))
    · have g' : ((0 ≤ a1.toInt ∧ a1.toInt ≤ 7 ∧ 0 ≤ a3.toInt ∧ a3.toInt ≤ 7) ∧ ¬ ((gV τ 26 0 (a1.toInt.toNat)).toInt < 0) ∧ ¬ ((gV τ 26 0 (a3.toInt.toNat)).toInt < 0) ∧ (gV τ 26 0 (a1.toInt.toNat)).toInt = (gV τ 26 0 (a3.toInt.toNat)).toInt ∧ (0 ≤ a2.toInt ∧ 0 ≤ a4.toInt ∧ 0 ≤ a5.toInt ∧ a2.toInt + a5.toInt ≤ (gV τ 27 0 (a1.toInt.toNat)).toInt ∧ a4.toInt + a5.toInt ≤ (gV τ 27 0 (a3.toInt.toNat)).toInt)) := by omega
      exact hi.copy hI (c2.1 g) e1 e2 (m2.1 g') e3 (by omega) (by rw [← (l1 _).1]; omega) (by rw [← (l1 _).2]; omega) (by omega)
    · have g' : ¬ ((0 ≤ a1.toInt ∧ a1.toInt ≤ 7 ∧ 0 ≤ a3.toInt ∧ a3.toInt ≤ 7) ∧ ¬ ((gV τ 26 0 (a1.toInt.toNat)).toInt < 0) ∧ ¬ ((gV τ 26 0 (a3.toInt.toNat)).toInt < 0) ∧ (gV τ 26 0 (a1.toInt.toNat)).toInt = (gV τ 26 0 (a3.toInt.toNat)).toInt ∧ (0 ≤ a2.toInt ∧ 0 ≤ a4.toInt ∧ 0 ≤ a5.toInt ∧ a2.toInt + a5.toInt ≤ (gV τ 27 0 (a1.toInt.toNat)).toInt ∧ a4.toInt + a5.toInt ≤ (gV τ 27 0 (a3.toInt.toNat)).toInt)) := by omega
      exact hi.same (fun j i => (e1 j i).trans (c2.2 g j i)) (fun z => (m2.2 g' z).trans (e2 z)) e3
  · skip
    exact hi.same (fun j i => (e1 j i).trans (c2.2 (by omega) j i)) (fun z => (m2.2 (by omega) z).trans (e2 z)) e3
theorem RB.dropB {σ τ υ : Sg} {a1 r1 r2 : Int32} (h : Rel σ) (hI : Inv σ) (hi : RI σ) (f1 : Fr MS_X11_dropQ AS_X11_dropQ σ τ) (f2 : Fr MS_X12_dropQ AS_X12_dropQ τ υ) (c0 : (((a1.toInt < 0 ∨ 7 < a1.toInt) ∧ r1.toInt = -1000001 ∧ SameR σ τ) ∨ ((0 ≤ a1.toInt ∧ a1.toInt ≤ 7) ∧ (gV σ 20 (a1.toInt.toNat) 1).toInt = -1 ∧ r1.toInt = -1000011 ∧ SameR σ τ) ∨ ((0 ≤ a1.toInt ∧ a1.toInt ≤ 7) ∧ ¬ ((gV σ 20 (a1.toInt.toNat) 1).toInt = -1) ∧ r1.toInt = (gV σ 20 (a1.toInt.toNat) 2).toInt ∧ BG σ τ (a1.toInt.toNat) (-1) 0))) (c1 : (((a1.toInt < 0 ∨ 7 < a1.toInt) → (gV τ 0 0 12).toInt = (gV σ 0 0 12).toInt) ∧ (((0 ≤ a1.toInt ∧ a1.toInt ≤ 7) ∧ (gV σ 20 (a1.toInt.toNat) 1).toInt = -1) → (gV τ 0 0 12).toInt = 1) ∧ (((0 ≤ a1.toInt ∧ a1.toInt ≤ 7) ∧ ¬ ((gV σ 20 (a1.toInt.toNat) 1).toInt = -1)) → (gV τ 0 0 12).toInt = 0))) (c2 : SameI σ τ) (m0 : (((a1.toInt < 0 ∨ 7 < a1.toInt) ∧ r2.toInt = -1000001 ∧ SameL τ υ) ∨ ((0 ≤ a1.toInt ∧ a1.toInt ≤ 7) ∧ (gV τ 26 0 (a1.toInt.toNat)).toInt < 0 ∧ r2.toInt = -1000011 ∧ SameL τ υ) ∨ ((0 ≤ a1.toInt ∧ a1.toInt ≤ 7) ∧ ¬ ((gV τ 26 0 (a1.toInt.toNat)).toInt < 0) ∧ r2.toInt = (gV τ 27 0 (a1.toInt.toNat)).toInt ∧ LD τ υ (a1.toInt.toNat)))) (m1 : (((a1.toInt < 0 ∨ 7 < a1.toInt) → (gV υ 22 0 8).toInt = (gV τ 22 0 8).toInt) ∧ (((0 ≤ a1.toInt ∧ a1.toInt ≤ 7) ∧ (gV τ 26 0 (a1.toInt.toNat)).toInt < 0) → (gV υ 22 0 8).toInt = 1) ∧ (((0 ≤ a1.toInt ∧ a1.toInt ≤ 7) ∧ ¬ ((gV τ 26 0 (a1.toInt.toNat)).toInt < 0)) → (gV υ 22 0 8).toInt = 0))) (m2 : SameJ τ υ) : RI υ := by
  have e2 : SameJ σ τ := fun k => f1.1 25 0 k (by simp) (by decide)
  have e1 : SameI τ υ := fun j i => f2.1 21 j i (by simp) (by decide)
  have l1 : SameL σ τ := SameL.rf.fr f1 (by simp) (by decide)
  have g1 : (a1.toInt.toNat) < 8 → (gV σ 20 (a1.toInt.toNat) 1).toInt = (gV τ 26 0 (a1.toInt.toNat)).toInt ∧ -1 ≤ (gV τ 26 0 (a1.toInt.toNat)).toInt ∧ (0 ≤ (gV τ 26 0 (a1.toInt.toNat)).toInt → (gV σ 20 (a1.toInt.toNat) 2).toInt = (gV τ 27 0 (a1.toInt.toNat)).toInt) := fun hj => by
    rw [(l1 (a1.toInt.toNat)).1, (l1 (a1.toInt.toNat)).2]
    exact ⟨congrArg Int32.toInt (h.1 (a1.toInt.toNat) hj).1, (h.1 (a1.toInt.toNat) hj).2.1, fun q => congrArg Int32.toInt ((h.1 (a1.toInt.toNat) hj).2.2 q)⟩
  have d1 : SameI σ υ := fun j i => (e1 j i).trans (c2 j i)
  have d2 : SameJ σ υ := fun k => (m2 k).trans (e2 k)
  · rcases m0 with ⟨_, _, u⟩ | ⟨_, _, _, u⟩ | ⟨_, _, _, u⟩
    · exact hi.same d1 d2 (fun q => ⟨(u q).1.trans (l1 q).1, (u q).2.trans (l1 q).2⟩)
    · exact hi.same d1 d2 (fun q => ⟨(u q).1.trans (l1 q).1, (u q).2.trans (l1 q).2⟩)
    · exact hi.drop d1 d2 l1 u
theorem RB.bellsB {σ τ υ : Sg} {a1 a2 a3 r1 r2 : Int32} (h : Rel σ) (hi : RI σ) (f1 : Fr MS_X11_bellsB AS_X11_bellsB σ τ) (hC : (((a1.toInt < 0 ∨ 7 < a1.toInt ∨ a2.toInt < 1 ∨ 5 < a2.toInt ∨ a3.toInt < -1) ∧ r1.toInt = -1000001) ∨ (((0 ≤ a1.toInt ∧ a1.toInt ≤ 7) ∧ 1 ≤ a2.toInt ∧ a2.toInt ≤ 5 ∧ -1 ≤ a3.toInt) ∧ (gV σ 20 (a1.toInt.toNat) 1).toInt = -1 ∧ r1.toInt = -1000011) ∨ (((0 ≤ a1.toInt ∧ a1.toInt ≤ 7) ∧ 1 ≤ a2.toInt ∧ a2.toInt ≤ 5 ∧ -1 ≤ a3.toInt) ∧ (gV σ 20 (a1.toInt.toNat) 1).toInt ≠ -1 ∧ (gV σ 20 (a1.toInt.toNat) 2).toInt < a2.toInt ∧ r1.toInt = -1000012) ∨ (((0 ≤ a1.toInt ∧ a1.toInt ≤ 7) ∧ 1 ≤ a2.toInt ∧ a2.toInt ≤ 5 ∧ -1 ≤ a3.toInt) ∧ (gV σ 20 (a1.toInt.toNat) 1).toInt ≠ -1 ∧ a2.toInt ≤ (gV σ 20 (a1.toInt.toNat) 2).toInt ∧ ¬ AlI σ (a1.toInt.toNat) a2.toInt 1 20 ∧ r1.toInt = -1000001) ∨ (((0 ≤ a1.toInt ∧ a1.toInt ≤ 7) ∧ 1 ≤ a2.toInt ∧ a2.toInt ≤ 5 ∧ -1 ≤ a3.toInt) ∧ (gV σ 20 (a1.toInt.toNat) 1).toInt ≠ -1 ∧ a2.toInt ≤ (gV σ 20 (a1.toInt.toNat) 2).toInt ∧ AlI σ (a1.toInt.toNat) a2.toInt 1 20 ∧ RESB r1 a3 a2.toInt.toNat (bbest (nuI σ (a1.toInt.toNat) a2.toInt.toNat) a2.toInt.toNat)))) (hM : (((a1.toInt < 0 ∨ 7 < a1.toInt ∨ a2.toInt < 1 ∨ 5 < a2.toInt ∨ a3.toInt < -1) ∧ r2.toInt = -1000001) ∨ (((0 ≤ a1.toInt ∧ a1.toInt ≤ 7) ∧ 1 ≤ a2.toInt ∧ a2.toInt ≤ 5 ∧ -1 ≤ a3.toInt) ∧ (gV τ 26 0 (a1.toInt.toNat)).toInt < 0 ∧ r2.toInt = -1000011) ∨ (((0 ≤ a1.toInt ∧ a1.toInt ≤ 7) ∧ 1 ≤ a2.toInt ∧ a2.toInt ≤ 5 ∧ -1 ≤ a3.toInt) ∧ 0 ≤ (gV τ 26 0 (a1.toInt.toNat)).toInt ∧ (gV τ 27 0 (a1.toInt.toNat)).toInt < a2.toInt ∧ r2.toInt = -1000012) ∨ (((0 ≤ a1.toInt ∧ a1.toInt ≤ 7) ∧ 1 ≤ a2.toInt ∧ a2.toInt ≤ 5 ∧ -1 ≤ a3.toInt) ∧ 0 ≤ (gV τ 26 0 (a1.toInt.toNat)).toInt ∧ a2.toInt ≤ (gV τ 27 0 (a1.toInt.toNat)).toInt ∧ ¬ AlJ τ (a1.toInt.toNat) a2.toInt 1 20 ∧ r2.toInt = -1000001) ∨ (((0 ≤ a1.toInt ∧ a1.toInt ≤ 7) ∧ 1 ≤ a2.toInt ∧ a2.toInt ≤ 5 ∧ -1 ≤ a3.toInt) ∧ 0 ≤ (gV τ 26 0 (a1.toInt.toNat)).toInt ∧ a2.toInt ≤ (gV τ 27 0 (a1.toInt.toNat)).toInt ∧ AlJ τ (a1.toInt.toNat) a2.toInt 1 20 ∧ RESB r2 a3 a2.toInt.toNat (bbest (nuJ τ (a1.toInt.toNat) a2.toInt.toNat) a2.toInt.toNat)))) : r1.toInt = r2.toInt := by
  have l1 : SameL σ τ := SameL.rf.fr f1 (by simp) (by decide)
  have g1 : (a1.toInt.toNat) < 8 → (gV σ 20 (a1.toInt.toNat) 1).toInt = (gV τ 26 0 (a1.toInt.toNat)).toInt ∧ -1 ≤ (gV τ 26 0 (a1.toInt.toNat)).toInt ∧ (0 ≤ (gV τ 26 0 (a1.toInt.toNat)).toInt → (gV σ 20 (a1.toInt.toNat) 2).toInt = (gV τ 27 0 (a1.toInt.toNat)).toInt) := fun hj => by
    rw [(l1 (a1.toInt.toNat)).1, (l1 (a1.toInt.toNat)).2]
    exact ⟨congrArg Int32.toInt (h.1 (a1.toInt.toNat) hj).1, (h.1 (a1.toInt.toNat) hj).2.1, fun q => congrArg Int32.toInt ((h.1 (a1.toInt.toNat) hj).2.2 q)⟩
  have ea : 0 ≤ a1.toInt ∧ a1.toInt ≤ 7 → 0 ≤ (gV τ 26 0 (a1.toInt.toNat)).toInt → a2.toInt ≤ (gV τ 27 0 (a1.toInt.toNat)).toInt → (AlI σ (a1.toInt.toNat) a2.toInt 1 20 ↔ AlJ τ (a1.toInt.toNat) a2.toInt 1 20) := fun z y x => by
    rw [(l1 _).1] at y
    rw [(l1 _).2] at x
    rw [AlJ.eq (σ := σ) (τ := τ) (fun k => f1.1 25 0 k (by simp) (by decide))]
    exact hi.all (by omega) y x
  have en : 0 ≤ a1.toInt ∧ a1.toInt ≤ 7 → 0 ≤ (gV τ 26 0 (a1.toInt.toNat)).toInt → 0 ≤ a2.toInt ∧ a2.toInt ≤ (gV τ 27 0 (a1.toInt.toNat)).toInt → nuI σ (a1.toInt.toNat) a2.toInt.toNat = nuJ τ (a1.toInt.toNat) a2.toInt.toNat := fun z y x => by
    rw [(l1 _).1] at y
    rw [(l1 _).2] at x
    have e : nuJ τ (a1.toInt.toNat) a2.toInt.toNat = nuJ σ (a1.toInt.toNat) a2.toInt.toNat := by
      funext i
      unfold nuJ
      rw [f1.1 25 0 _ (by simp) (by decide)]
    rw [e]
    exact hi.nu (by omega) y (by omega)
  rcases hC with ⟨c0, c1⟩ | ⟨c0, c1, c2⟩ | ⟨c0, c1, c2, c3⟩ | ⟨c0, c1, c2, c3, c4⟩ | ⟨c0, c1, c2, c3, c4⟩ <;> rcases hM with ⟨m0, m1⟩ | ⟨m0, m1, m2⟩ | ⟨m0, m1, m2, m3⟩ | ⟨m0, m1, m2, m3, m4⟩ | ⟨m0, m1, m2, m3, m4⟩
  · omega
  · exfalso
    first | omega | (have q2 := g1 (by omega); omega)
  · exfalso
    first | omega | (have q2 := g1 (by omega); omega)
  · exfalso
    first | omega | (have q2 := g1 (by omega); omega)
  · exfalso
    first | omega | (have q2 := g1 (by omega); omega)
  · exfalso
    first | omega | (have q2 := g1 (by omega); omega)
  · omega
  · exfalso
    first | omega | (have q2 := g1 (by omega); omega)
  · exfalso
    first | omega | (have q2 := g1 (by omega); omega)
  · exfalso
    first | omega | (have q2 := g1 (by omega); omega)
  · exfalso
    first | omega | (have q2 := g1 (by omega); omega)
  · exfalso
    first | omega | (have q2 := g1 (by omega); omega)
  · omega
  · exfalso
    first | omega | (have q2 := g1 (by omega); omega)
  · exfalso
    first | omega | (have q2 := g1 (by omega); omega)
  · exfalso
    first | omega | (have q2 := g1 (by omega); omega)
  · exfalso
    first | omega | (have q2 := g1 (by omega); omega)
  · exfalso
    first | omega | (have q2 := g1 (by omega); omega)
  · omega
  · have q := g1 (by omega)
    exact absurd ((ea (by omega) (by omega) (by omega)).mpr m3) c3
  · exfalso
    first | omega | (have q2 := g1 (by omega); omega)
  · exfalso
    first | omega | (have q2 := g1 (by omega); omega)
  · exfalso
    first | omega | (have q2 := g1 (by omega); omega)
  · have q := g1 (by omega)
    exact absurd ((ea (by omega) (by omega) (by omega)).mp c3) m3
  · have q := g1 (by omega)
    rw [en (by omega) (by omega) (by omega)] at c4
    exact c4.eq m4
section LAW
set_option maxHeartbeats 8000000 in
set_option maxRecDepth 100000 in
theorem law_loop {p : Program} {e : Env} {s : State} {m : MethodId} {below : List Frame} {meth : Method} {c : Code} (l : Launch) {b L : Nat} {xs : Nat → Int32} (hL : L ≤ 3072) (C0 : lw_At p s m meth c b L xs) (G : Gt) (hG0 : G.2.2.2.1 = s.heap.size) : ∀ (n : Nat) (τ : Sg) (y3 : Int32), Inv τ → Rel τ → RI τ → IV y3 0 3078 → (3078 - y3.toInt).toNat < n → MW p l e room_1 s m #[Value.ref b] below meth c (lw_Z below #[Value.ref b] s) 4 G (250 + 8 * y3.toInt.toNat) (5300 + 24 * y3.toInt.toNat) 18 [some (.ref b), some (.ref (G.1 0 0)), some (.ref (G.1 22 0)), some (.int y3)] [] τ := by
  obtain ⟨hx, hb, hr, hml, hown, hts, hX, hbl, hlk, hgv⟩ := C0
  have C : Cx p s m #[Value.ref b] c cL_law 4 "LeanTowerLaw" := ⟨hx, hb, hml, hown, fun w hw => hts w (List.mem_filter.mp hw).1⟩
  have hbA : ¬ aG G b := fun q => by have q2 : G.2.2.2.1 ≤ b := q; omega
  have hL31 : L < 2 ^ 31 := by omega
  have k0 : (0 : Int32).toInt = 0 := by decide
  have k1 : (1 : Int32).toInt = 1 := by decide
  intro n
  induction n with
  | zero => intro τ y3 iτ rτ jτ b_y3 hm; exact absurd hm (Nat.not_lt_zero _)
  | succ n ih18 =>
      intro τ y3 iτ rτ jτ b_y3 hm18
      refine m_iload_n C dL_law_18 rfl rfl ?_
      refine m_aload_n C dL_law_19 rfl rfl ?_
      refine m_slen C hX hbl hbA hL31 dL_law_20 (fun x1 tx1 => ?_)
      have b2 : IV x1 0 3072 := ⟨by omega, by omega⟩
      refine m_bipush (v := 6) C dL_law_21 (by decide) ?_
      refine m_isub C dL_law_23 ?_
      refine m_topi (fun x3 ex3 => ?_)
      have tx3 : x3.toInt = x1.toInt - 6 := by rw [ex3, ti_subv b2 kc_6 (by decide), kt_6]
      have b4 : IV x3 (-6) 3066 := by rw [ex3]; exact iv_sub b2 kc_6 (by decide)
      refine m_icmp_gt (tgt := 1034) C dL_law_24 (by decide) (fun c5 => ?_) (fun c5 => ?_)
      · have f6 : x3.toInt < y3.toInt := by
          have q : _ := c5
          simp only [ti_nle, ti_nlt, ti_le, ti_lt, ti_eq, ti_ne, Classical.not_not] at q
          omega
        refine m_iconst (v := 1) C dL_law_1034 (by decide) ?_
        exact m_law1 C hG0 hr hlk ⟨by omega, by omega⟩ dL_law_1035
      · have f7 : y3.toInt ≤ x3.toInt := by
          have q : _ := c5
          simp only [ti_nle, ti_nlt, ti_le, ti_lt, ti_eq, ti_ne, Classical.not_not] at q
          omega
        have b8 : IV y3 0 3066 := ⟨by have q1 := b_y3; have q2 := b4; omega, by have q1 := b_y3; have q2 := b4; omega⟩
        have b9 : IV x3 0 3066 := ⟨by have q1 := b_y3; have q2 := b4; omega, by have q1 := b_y3; have q2 := b4; omega⟩
        refine m_aload_n C dL_law_27 rfl rfl ?_
        refine m_iload_n C dL_law_28 rfl rfl ?_
        refine m_sld C hX hbl hbA ⟨by omega, by omega⟩ dL_law_29 ?_
        refine m_topi (fun x10 ex10 => ?_)
        refine m_bipush (v := 31) C dL_law_30 (by decide) ?_
        refine m_iand C dL_law_32 ?_
        refine m_topi (fun x11 ex11 => ?_)
        have b12 : IV x11 0 31 := by rw [ex11]; exact iv_and_r kc_31 (by decide)
        by_cases s13 : x11.toInt < 0 ∨ 29 < x11.toInt
        · refine m_tableOut (tgt := 1028) C dL_law_33 s13 (by decide) ?_
          obtain ⟨x14, ex14⟩ : ∃ y : Int32, y = y3 + 6 := ⟨_, rfl⟩
          have tx14 : x14.toInt = y3.toInt + 6 := by rw [ex14, ti_addv b8 kc_6 (by decide), kt_6]
          have b15 : IV x14 6 3072 := by rw [ex14]; exact iv_add b8 kc_6 (by decide)
          refine m_iinc (v := x14) (L1 := [some (.ref b), some (.ref (G.1 0 0)), some (.ref (G.1 22 0)), some (.int x14)]) C dL_law_1028 rfl (by rw [ex14]; rfl) (by decide) rfl rfl ?_
          refine m_goto (tgt := 18) C dL_law_1031 (by decide) ?_
          refine m_widen (c2 := 250 + 8 * x14.toInt.toNat) (s2 := 5300 + 24 * x14.toInt.toNat) (by omega) (by omega) ?_
          exact ih18 τ x14 iτ rτ jτ (iv_wk b15 (by decide)) (by have q := hm18; omega)
        by_cases s16 : x11.toInt = 0
        · refine m_tableIn (tgt := 168) (off := 135) C dL_law_33 (by omega) (by omega) (by rw [s16]; rfl) (by decide) ?_
          have b17 : IV x11 0 0 := ⟨by omega, by omega⟩
          refine m_aload_n C dL_law_168 rfl rfl ?_
          refine m_aload_n C dL_law_169 rfl rfl ?_
          refine m_iload_n C dL_law_170 rfl rfl ?_
          refine m_iconst (v := 1) C dL_law_171 (by decide) ?_
          refine m_iadd C dL_law_172 ?_
          refine m_topi (fun x18 ex18 => ?_)
          have tx18 : x18.toInt = y3.toInt + 1 := by rw [ex18, ti_addv b8 kc_1 (by decide), kt_1]
          have b19 : IV x18 1 3067 := by rw [ex18]; exact iv_add b8 kc_1 (by decide)
          refine m_sld C hX hbl hbA ⟨by omega, by omega⟩ dL_law_173 ?_
          refine m_topi (fun x20 ex20 => ?_)
          refine m_aload_n C dL_law_174 rfl rfl ?_
          refine m_iload_n C dL_law_175 rfl rfl ?_
          refine m_iconst (v := 2) C dL_law_176 (by decide) ?_
          refine m_iadd C dL_law_177 ?_
          refine m_topi (fun x21 ex21 => ?_)
          have tx21 : x21.toInt = y3.toInt + 2 := by rw [ex21, ti_addv b8 kc_2 (by decide), kt_2]
          have b22 : IV x21 2 3068 := by rw [ex21]; exact iv_add b8 kc_2 (by decide)
          refine m_sld C hX hbl hbA ⟨by omega, by omega⟩ dL_law_178 ?_
          refine m_topi (fun x23 ex23 => ?_)
          refine m_aload_n C dL_law_179 rfl rfl ?_
          refine m_iload_n C dL_law_180 rfl rfl ?_
          refine m_iconst (v := 3) C dL_law_181 (by decide) ?_
          refine m_iadd C dL_law_182 ?_
          refine m_topi (fun x24 ex24 => ?_)
          have tx24 : x24.toInt = y3.toInt + 3 := by rw [ex24, ti_addv b8 kc_3 (by decide), kt_3]
          have b25 : IV x24 3 3069 := by rw [ex24]; exact iv_add b8 kc_3 (by decide)
          refine m_sld C hX hbl hbA ⟨by omega, by omega⟩ dL_law_183 ?_
          refine m_topi (fun x26 ex26 => ?_)
          refine m_callV (n := 3) (ci := 10) (st := []) C (c_X11_rowQ l G τ (x20) (x23) (x26) iτ ) (by decide) (by decide) rfl rfl rfl q1_229 q1_226 q1_227 q1_228 q1_1 (by decide +kernel) rfl (by decide) ⟨by show (250 + 8 * y3.toInt.toNat) + 0 ≤ 600000; omega, by show (5300 + 24 * y3.toInt.toNat) + 0 ≤ 7302250; omega⟩ rfl (Nat.le_of_ble_eq_true rfl) dL_law_184 ?_
          rintro _ τ27 ⟨x30, rfl, i28, f29, b31, h33⟩
          obtain ⟨h33, h33t0, h33t1⟩ := h33
          have z34 := Hid.mk h33
          clear h33
          have z35 := Hid.mk h33t0
          clear h33t0
          have z36 := Hid.mk h33t1
          clear h33t1
          show MW p l e _ s m _ below meth c _ 4 G (250 + 8 * y3.toInt.toNat) (5300 + 24 * y3.toInt.toNat) 187 [some (.ref b), some (.ref (G.1 0 0)), some (.ref (G.1 22 0)), some (.int y3)] [.int x30] τ27
          refine m_pop C dL_law_187 rfl ?_
          refine m_aload_n C dL_law_188 rfl rfl ?_
          refine m_aload_n C dL_law_189 rfl rfl ?_
          refine m_iload_n C dL_law_190 rfl rfl ?_
          refine m_iconst (v := 1) C dL_law_191 (by decide) ?_
          refine m_iadd C dL_law_192 ?_
          refine m_topi (fun x37 ex37 => ?_)
          have tx37 : x37.toInt = y3.toInt + 1 := by rw [ex37, ti_addv b8 kc_1 (by decide), kt_1]
          have b38 : IV x37 1 3067 := by rw [ex37]; exact iv_add b8 kc_1 (by decide)
          refine m_sld C hX hbl hbA ⟨by omega, by omega⟩ dL_law_193 ?_
          refine m_eqs (w := x20) (by rw [ex20, show x37.toInt.toNat = x18.toInt.toNat by omega]) ?_
          refine m_aload_n C dL_law_194 rfl rfl ?_
          refine m_iload_n C dL_law_195 rfl rfl ?_
          refine m_iconst (v := 2) C dL_law_196 (by decide) ?_
          refine m_iadd C dL_law_197 ?_
          refine m_topi (fun x39 ex39 => ?_)
          have tx39 : x39.toInt = y3.toInt + 2 := by rw [ex39, ti_addv b8 kc_2 (by decide), kt_2]
          have b40 : IV x39 2 3068 := by rw [ex39]; exact iv_add b8 kc_2 (by decide)
          refine m_sld C hX hbl hbA ⟨by omega, by omega⟩ dL_law_198 ?_
          refine m_eqs (w := x23) (by rw [ex23, show x39.toInt.toNat = x21.toInt.toNat by omega]) ?_
          refine m_aload_n C dL_law_199 rfl rfl ?_
          refine m_iload_n C dL_law_200 rfl rfl ?_
          refine m_iconst (v := 3) C dL_law_201 (by decide) ?_
          refine m_iadd C dL_law_202 ?_
          refine m_topi (fun x41 ex41 => ?_)
          have tx41 : x41.toInt = y3.toInt + 3 := by rw [ex41, ti_addv b8 kc_3 (by decide), kt_3]
          have b42 : IV x41 3 3069 := by rw [ex41]; exact iv_add b8 kc_3 (by decide)
          refine m_sld C hX hbl hbA ⟨by omega, by omega⟩ dL_law_203 ?_
          refine m_eqs (w := x26) (by rw [ex26, show x41.toInt.toNat = x24.toInt.toNat by omega]) ?_
          refine m_callV (n := 3) (ci := 11) (st := []) C (c_X12_rowQ l G τ27 (x20) (x23) (x26) i28 ) (by decide) (by decide) rfl rfl rfl q4_183 q4_180 q4_181 q4_182 q1_7 (by decide +kernel) rfl (by decide) ⟨by show (250 + 8 * y3.toInt.toNat) + 0 ≤ 600000; omega, by show (5300 + 24 * y3.toInt.toNat) + 0 ≤ 7302250; omega⟩ rfl (Nat.le_of_ble_eq_true rfl) dL_law_204 ?_
          rintro _ τ43 ⟨x46, rfl, i44, f45, b47, h49⟩
          obtain ⟨h49, h49t0, h49t1⟩ := h49
          have g50 := Rel.rowB rτ f29 f45 z34 h49
          have r51 : Rel τ43 := g50.1
          have r52 : RI τ43 := RB.rowB rτ iτ jτ f29 f45 z34 z35 z36 h49 h49t0 h49t1
          clear h49 z34 z35 z36 h49t0 h49t1
          show MW p l e _ s m _ below meth c _ 4 G (250 + 8 * y3.toInt.toNat) (5300 + 24 * y3.toInt.toNat) 207 [some (.ref b), some (.ref (G.1 0 0)), some (.ref (G.1 22 0)), some (.int y3)] [.int x46] τ43
          refine m_pop C dL_law_207 rfl ?_
          refine m_goto (tgt := 1028) C dL_law_208 (by decide) ?_
          obtain ⟨x53, ex53⟩ : ∃ y : Int32, y = y3 + 6 := ⟨_, rfl⟩
          have tx53 : x53.toInt = y3.toInt + 6 := by rw [ex53, ti_addv b8 kc_6 (by decide), kt_6]
          have b54 : IV x53 6 3072 := by rw [ex53]; exact iv_add b8 kc_6 (by decide)
          refine m_iinc (v := x53) (L1 := [some (.ref b), some (.ref (G.1 0 0)), some (.ref (G.1 22 0)), some (.int x53)]) C dL_law_1028 rfl (by rw [ex53]; rfl) (by decide) rfl rfl ?_
          refine m_goto (tgt := 18) C dL_law_1031 (by decide) ?_
          refine m_widen (c2 := 250 + 8 * x53.toInt.toNat) (s2 := 5300 + 24 * x53.toInt.toNat) (by omega) (by omega) ?_
          exact ih18 τ43 x53 i44 r51 r52 (iv_wk b54 (by decide)) (by have q := hm18; omega)
        by_cases s55 : x11.toInt = 1
        · refine m_tableIn (tgt := 211) (off := 178) C dL_law_33 (by omega) (by omega) (by rw [s55]; rfl) (by decide) ?_
          have b56 : IV x11 1 1 := ⟨by omega, by omega⟩
          refine m_aload_n C dL_law_211 rfl rfl ?_
          refine m_aload_n C dL_law_212 rfl rfl ?_
          refine m_iload_n C dL_law_213 rfl rfl ?_
          refine m_iconst (v := 1) C dL_law_214 (by decide) ?_
          refine m_iadd C dL_law_215 ?_
          refine m_topi (fun x57 ex57 => ?_)
          have tx57 : x57.toInt = y3.toInt + 1 := by rw [ex57, ti_addv b8 kc_1 (by decide), kt_1]
          have b58 : IV x57 1 3067 := by rw [ex57]; exact iv_add b8 kc_1 (by decide)
          refine m_sld C hX hbl hbA ⟨by omega, by omega⟩ dL_law_216 ?_
          refine m_topi (fun x59 ex59 => ?_)
          refine m_aload_n C dL_law_217 rfl rfl ?_
          refine m_iload_n C dL_law_218 rfl rfl ?_
          refine m_iconst (v := 2) C dL_law_219 (by decide) ?_
          refine m_iadd C dL_law_220 ?_
          refine m_topi (fun x60 ex60 => ?_)
          have tx60 : x60.toInt = y3.toInt + 2 := by rw [ex60, ti_addv b8 kc_2 (by decide), kt_2]
          have b61 : IV x60 2 3068 := by rw [ex60]; exact iv_add b8 kc_2 (by decide)
          refine m_sld C hX hbl hbA ⟨by omega, by omega⟩ dL_law_221 ?_
          refine m_topi (fun x62 ex62 => ?_)
          refine m_aload_n C dL_law_222 rfl rfl ?_
          refine m_iload_n C dL_law_223 rfl rfl ?_
          refine m_iconst (v := 3) C dL_law_224 (by decide) ?_
          refine m_iadd C dL_law_225 ?_
          refine m_topi (fun x63 ex63 => ?_)
          have tx63 : x63.toInt = y3.toInt + 3 := by rw [ex63, ti_addv b8 kc_3 (by decide), kt_3]
          have b64 : IV x63 3 3069 := by rw [ex63]; exact iv_add b8 kc_3 (by decide)
          refine m_sld C hX hbl hbA ⟨by omega, by omega⟩ dL_law_226 ?_
          refine m_topi (fun x65 ex65 => ?_)
          refine m_callV (n := 3) (ci := 10) (st := []) C (c_X11_setQ l G τ (x59) (x62) (x65) iτ ) (by decide) (by decide) rfl rfl rfl q2_11 q2_8 q2_9 q2_10 q1_1 (by decide +kernel) rfl (by decide) ⟨by show (250 + 8 * y3.toInt.toNat) + 0 ≤ 600000; omega, by show (5300 + 24 * y3.toInt.toNat) + 0 ≤ 7302250; omega⟩ rfl (Nat.le_of_ble_eq_true rfl) dL_law_227 ?_
          rintro _ τ66 ⟨x69, rfl, i67, f68, b70, h72⟩
          obtain ⟨h72, h72t0, h72t1⟩ := h72
          have z73 := Hid.mk h72
          clear h72
          have z74 := Hid.mk h72t0
          clear h72t0
          have z75 := Hid.mk h72t1
          clear h72t1
          have r76 : Rel τ66 := rτ.call f68 (by decide) (by decide)
          show MW p l e _ s m _ below meth c _ 4 G (250 + 8 * y3.toInt.toNat) (5300 + 24 * y3.toInt.toNat) 230 [some (.ref b), some (.ref (G.1 0 0)), some (.ref (G.1 22 0)), some (.int y3)] [.int x69] τ66
          refine m_pop C dL_law_230 rfl ?_
          refine m_aload_n C dL_law_231 rfl rfl ?_
          refine m_aload_n C dL_law_232 rfl rfl ?_
          refine m_iload_n C dL_law_233 rfl rfl ?_
          refine m_iconst (v := 1) C dL_law_234 (by decide) ?_
          refine m_iadd C dL_law_235 ?_
          refine m_topi (fun x77 ex77 => ?_)
          have tx77 : x77.toInt = y3.toInt + 1 := by rw [ex77, ti_addv b8 kc_1 (by decide), kt_1]
          have b78 : IV x77 1 3067 := by rw [ex77]; exact iv_add b8 kc_1 (by decide)
          refine m_sld C hX hbl hbA ⟨by omega, by omega⟩ dL_law_236 ?_
          refine m_eqs (w := x59) (by rw [ex59, show x77.toInt.toNat = x57.toInt.toNat by omega]) ?_
          refine m_aload_n C dL_law_237 rfl rfl ?_
          refine m_iload_n C dL_law_238 rfl rfl ?_
          refine m_iconst (v := 2) C dL_law_239 (by decide) ?_
          refine m_iadd C dL_law_240 ?_
          refine m_topi (fun x79 ex79 => ?_)
          have tx79 : x79.toInt = y3.toInt + 2 := by rw [ex79, ti_addv b8 kc_2 (by decide), kt_2]
          have b80 : IV x79 2 3068 := by rw [ex79]; exact iv_add b8 kc_2 (by decide)
          refine m_sld C hX hbl hbA ⟨by omega, by omega⟩ dL_law_241 ?_
          refine m_eqs (w := x62) (by rw [ex62, show x79.toInt.toNat = x60.toInt.toNat by omega]) ?_
          refine m_aload_n C dL_law_242 rfl rfl ?_
          refine m_iload_n C dL_law_243 rfl rfl ?_
          refine m_iconst (v := 3) C dL_law_244 (by decide) ?_
          refine m_iadd C dL_law_245 ?_
          refine m_topi (fun x81 ex81 => ?_)
          have tx81 : x81.toInt = y3.toInt + 3 := by rw [ex81, ti_addv b8 kc_3 (by decide), kt_3]
          have b82 : IV x81 3 3069 := by rw [ex81]; exact iv_add b8 kc_3 (by decide)
          refine m_sld C hX hbl hbA ⟨by omega, by omega⟩ dL_law_246 ?_
          refine m_eqs (w := x65) (by rw [ex65, show x81.toInt.toNat = x63.toInt.toNat by omega]) ?_
          refine m_callV (n := 3) (ci := 11) (st := []) C (c_X12_setQ l G τ66 (x59) (x62) (x65) i67 ) (by decide) (by decide) rfl rfl rfl q4_205 q4_202 q4_203 q4_204 q1_7 (by decide +kernel) rfl (by decide) ⟨by show (250 + 8 * y3.toInt.toNat) + 0 ≤ 600000; omega, by show (5300 + 24 * y3.toInt.toNat) + 0 ≤ 7302250; omega⟩ rfl (Nat.le_of_ble_eq_true rfl) dL_law_247 ?_
          rintro _ τ83 ⟨x86, rfl, i84, f85, b87, h89⟩
          obtain ⟨h89, h89t0, h89t1⟩ := h89
          have g90 := Rel.setB rτ f68 f85 z73 h89
          have r91 : Rel τ83 := r76.call f85 (by decide) (by decide)
          have r92 : RI τ83 := RB.setB rτ iτ jτ f68 f85 z73 z74 z75 h89 h89t0 h89t1
          clear h89 z73 z74 z75 h89t0 h89t1
          show MW p l e _ s m _ below meth c _ 4 G (250 + 8 * y3.toInt.toNat) (5300 + 24 * y3.toInt.toNat) 250 [some (.ref b), some (.ref (G.1 0 0)), some (.ref (G.1 22 0)), some (.int y3)] [.int x86] τ83
          refine m_pop C dL_law_250 rfl ?_
          refine m_goto (tgt := 1028) C dL_law_251 (by decide) ?_
          obtain ⟨x93, ex93⟩ : ∃ y : Int32, y = y3 + 6 := ⟨_, rfl⟩
          have tx93 : x93.toInt = y3.toInt + 6 := by rw [ex93, ti_addv b8 kc_6 (by decide), kt_6]
          have b94 : IV x93 6 3072 := by rw [ex93]; exact iv_add b8 kc_6 (by decide)
          refine m_iinc (v := x93) (L1 := [some (.ref b), some (.ref (G.1 0 0)), some (.ref (G.1 22 0)), some (.int x93)]) C dL_law_1028 rfl (by rw [ex93]; rfl) (by decide) rfl rfl ?_
          refine m_goto (tgt := 18) C dL_law_1031 (by decide) ?_
          refine m_widen (c2 := 250 + 8 * x93.toInt.toNat) (s2 := 5300 + 24 * x93.toInt.toNat) (by omega) (by omega) ?_
          exact ih18 τ83 x93 i84 r91 r92 (iv_wk b94 (by decide)) (by have q := hm18; omega)
        by_cases s95 : x11.toInt = 2
        · refine m_tableIn (tgt := 254) (off := 221) C dL_law_33 (by omega) (by omega) (by rw [s95]; rfl) (by decide) ?_
          have b96 : IV x11 2 2 := ⟨by omega, by omega⟩
          refine m_aload_n C dL_law_254 rfl rfl ?_
          refine m_aload_n C dL_law_255 rfl rfl ?_
          refine m_iload_n C dL_law_256 rfl rfl ?_
          refine m_iconst (v := 1) C dL_law_257 (by decide) ?_
          refine m_iadd C dL_law_258 ?_
          refine m_topi (fun x97 ex97 => ?_)
          have tx97 : x97.toInt = y3.toInt + 1 := by rw [ex97, ti_addv b8 kc_1 (by decide), kt_1]
          have b98 : IV x97 1 3067 := by rw [ex97]; exact iv_add b8 kc_1 (by decide)
          refine m_sld C hX hbl hbA ⟨by omega, by omega⟩ dL_law_259 ?_
          refine m_topi (fun x99 ex99 => ?_)
          refine m_aload_n C dL_law_260 rfl rfl ?_
          refine m_iload_n C dL_law_261 rfl rfl ?_
          refine m_iconst (v := 2) C dL_law_262 (by decide) ?_
          refine m_iadd C dL_law_263 ?_
          refine m_topi (fun x100 ex100 => ?_)
          have tx100 : x100.toInt = y3.toInt + 2 := by rw [ex100, ti_addv b8 kc_2 (by decide), kt_2]
          have b101 : IV x100 2 3068 := by rw [ex100]; exact iv_add b8 kc_2 (by decide)
          refine m_sld C hX hbl hbA ⟨by omega, by omega⟩ dL_law_264 ?_
          refine m_topi (fun x102 ex102 => ?_)
          refine m_aload_n C dL_law_265 rfl rfl ?_
          refine m_iload_n C dL_law_266 rfl rfl ?_
          refine m_iconst (v := 3) C dL_law_267 (by decide) ?_
          refine m_iadd C dL_law_268 ?_
          refine m_topi (fun x103 ex103 => ?_)
          have tx103 : x103.toInt = y3.toInt + 3 := by rw [ex103, ti_addv b8 kc_3 (by decide), kt_3]
          have b104 : IV x103 3 3069 := by rw [ex103]; exact iv_add b8 kc_3 (by decide)
          refine m_sld C hX hbl hbA ⟨by omega, by omega⟩ dL_law_269 ?_
          refine m_topi (fun x105 ex105 => ?_)
          refine m_aload_n C dL_law_270 rfl rfl ?_
          refine m_iload_n C dL_law_271 rfl rfl ?_
          refine m_iconst (v := 4) C dL_law_272 (by decide) ?_
          refine m_iadd C dL_law_273 ?_
          refine m_topi (fun x106 ex106 => ?_)
          have tx106 : x106.toInt = y3.toInt + 4 := by rw [ex106, ti_addv b8 kc_4 (by decide), kt_4]
          have b107 : IV x106 4 3070 := by rw [ex106]; exact iv_add b8 kc_4 (by decide)
          refine m_sld C hX hbl hbA ⟨by omega, by omega⟩ dL_law_274 ?_
          refine m_topi (fun x108 ex108 => ?_)
          refine m_aload_n C dL_law_275 rfl rfl ?_
          refine m_iload_n C dL_law_276 rfl rfl ?_
          refine m_iconst (v := 5) C dL_law_277 (by decide) ?_
          refine m_iadd C dL_law_278 ?_
          refine m_topi (fun x109 ex109 => ?_)
          have tx109 : x109.toInt = y3.toInt + 5 := by rw [ex109, ti_addv b8 kc_5 (by decide), kt_5]
          have b110 : IV x109 5 3071 := by rw [ex109]; exact iv_add b8 kc_5 (by decide)
          refine m_sld C hX hbl hbA ⟨by omega, by omega⟩ dL_law_279 ?_
          refine m_topi (fun x111 ex111 => ?_)
          refine m_callV (n := 5) (ci := 10) (st := []) C (c_X11_copyQ l G τ (x99) (x102) (x105) (x108) (x111) iτ ) (by decide) (by decide) rfl rfl rfl q2_23 q2_20 q2_21 q2_22 q1_1 (by decide +kernel) rfl (by decide) ⟨by show (250 + 8 * y3.toInt.toNat) + 0 ≤ 600000; omega, by show (5300 + 24 * y3.toInt.toNat) + 0 ≤ 7302250; omega⟩ rfl (Nat.le_of_ble_eq_true rfl) dL_law_280 ?_
          rintro _ τ112 ⟨x115, rfl, i113, f114, b116, h118⟩
          obtain ⟨h118, h118t0, h118t1⟩ := h118
          have z119 := Hid.mk h118
          clear h118
          have z120 := Hid.mk h118t0
          clear h118t0
          have z121 := Hid.mk h118t1
          clear h118t1
          have r122 : Rel τ112 := rτ.call f114 (by decide) (by decide)
          show MW p l e _ s m _ below meth c _ 4 G (250 + 8 * y3.toInt.toNat) (5300 + 24 * y3.toInt.toNat) 283 [some (.ref b), some (.ref (G.1 0 0)), some (.ref (G.1 22 0)), some (.int y3)] [.int x115] τ112
          refine m_pop C dL_law_283 rfl ?_
          refine m_aload_n C dL_law_284 rfl rfl ?_
          refine m_aload_n C dL_law_285 rfl rfl ?_
          refine m_iload_n C dL_law_286 rfl rfl ?_
          refine m_iconst (v := 1) C dL_law_287 (by decide) ?_
          refine m_iadd C dL_law_288 ?_
          refine m_topi (fun x123 ex123 => ?_)
          have tx123 : x123.toInt = y3.toInt + 1 := by rw [ex123, ti_addv b8 kc_1 (by decide), kt_1]
          have b124 : IV x123 1 3067 := by rw [ex123]; exact iv_add b8 kc_1 (by decide)
          refine m_sld C hX hbl hbA ⟨by omega, by omega⟩ dL_law_289 ?_
          refine m_eqs (w := x99) (by rw [ex99, show x123.toInt.toNat = x97.toInt.toNat by omega]) ?_
          refine m_aload_n C dL_law_290 rfl rfl ?_
          refine m_iload_n C dL_law_291 rfl rfl ?_
          refine m_iconst (v := 2) C dL_law_292 (by decide) ?_
          refine m_iadd C dL_law_293 ?_
          refine m_topi (fun x125 ex125 => ?_)
          have tx125 : x125.toInt = y3.toInt + 2 := by rw [ex125, ti_addv b8 kc_2 (by decide), kt_2]
          have b126 : IV x125 2 3068 := by rw [ex125]; exact iv_add b8 kc_2 (by decide)
          refine m_sld C hX hbl hbA ⟨by omega, by omega⟩ dL_law_294 ?_
          refine m_eqs (w := x102) (by rw [ex102, show x125.toInt.toNat = x100.toInt.toNat by omega]) ?_
          refine m_aload_n C dL_law_295 rfl rfl ?_
          refine m_iload_n C dL_law_296 rfl rfl ?_
          refine m_iconst (v := 3) C dL_law_297 (by decide) ?_
          refine m_iadd C dL_law_298 ?_
          refine m_topi (fun x127 ex127 => ?_)
          have tx127 : x127.toInt = y3.toInt + 3 := by rw [ex127, ti_addv b8 kc_3 (by decide), kt_3]
          have b128 : IV x127 3 3069 := by rw [ex127]; exact iv_add b8 kc_3 (by decide)
          refine m_sld C hX hbl hbA ⟨by omega, by omega⟩ dL_law_299 ?_
          refine m_eqs (w := x105) (by rw [ex105, show x127.toInt.toNat = x103.toInt.toNat by omega]) ?_
          refine m_aload_n C dL_law_300 rfl rfl ?_
          refine m_iload_n C dL_law_301 rfl rfl ?_
          refine m_iconst (v := 4) C dL_law_302 (by decide) ?_
          refine m_iadd C dL_law_303 ?_
          refine m_topi (fun x129 ex129 => ?_)
          have tx129 : x129.toInt = y3.toInt + 4 := by rw [ex129, ti_addv b8 kc_4 (by decide), kt_4]
          have b130 : IV x129 4 3070 := by rw [ex129]; exact iv_add b8 kc_4 (by decide)
          refine m_sld C hX hbl hbA ⟨by omega, by omega⟩ dL_law_304 ?_
          refine m_eqs (w := x108) (by rw [ex108, show x129.toInt.toNat = x106.toInt.toNat by omega]) ?_
          refine m_aload_n C dL_law_305 rfl rfl ?_
          refine m_iload_n C dL_law_306 rfl rfl ?_
          refine m_iconst (v := 5) C dL_law_307 (by decide) ?_
          refine m_iadd C dL_law_308 ?_
          refine m_topi (fun x131 ex131 => ?_)
          have tx131 : x131.toInt = y3.toInt + 5 := by rw [ex131, ti_addv b8 kc_5 (by decide), kt_5]
          have b132 : IV x131 5 3071 := by rw [ex131]; exact iv_add b8 kc_5 (by decide)
          refine m_sld C hX hbl hbA ⟨by omega, by omega⟩ dL_law_309 ?_
          refine m_eqs (w := x111) (by rw [ex111, show x131.toInt.toNat = x109.toInt.toNat by omega]) ?_
          refine m_callV (n := 5) (ci := 11) (st := []) C (c_X12_copyQ l G τ112 (x99) (x102) (x105) (x108) (x111) i113 ) (by decide) (by decide) rfl rfl rfl q4_212 q4_209 q4_210 q4_211 q1_7 (by decide +kernel) rfl (by decide) ⟨by show (250 + 8 * y3.toInt.toNat) + 0 ≤ 600000; omega, by show (5300 + 24 * y3.toInt.toNat) + 0 ≤ 7302250; omega⟩ rfl (Nat.le_of_ble_eq_true rfl) dL_law_310 ?_
          rintro _ τ133 ⟨x136, rfl, i134, f135, b137, h139⟩
          obtain ⟨h139, h139t0, h139t1⟩ := h139
          have g140 := Rel.copyB rτ f114 f135 z119 h139
          have r141 : Rel τ133 := r122.call f135 (by decide) (by decide)
          have r142 : RI τ133 := RB.copyB rτ iτ jτ f114 f135 z119 z120 z121 h139 h139t0 h139t1
          clear h139 z119 z120 z121 h139t0 h139t1
          show MW p l e _ s m _ below meth c _ 4 G (250 + 8 * y3.toInt.toNat) (5300 + 24 * y3.toInt.toNat) 313 [some (.ref b), some (.ref (G.1 0 0)), some (.ref (G.1 22 0)), some (.int y3)] [.int x136] τ133
          refine m_pop C dL_law_313 rfl ?_
          refine m_goto (tgt := 1028) C dL_law_314 (by decide) ?_
          obtain ⟨x143, ex143⟩ : ∃ y : Int32, y = y3 + 6 := ⟨_, rfl⟩
          have tx143 : x143.toInt = y3.toInt + 6 := by rw [ex143, ti_addv b8 kc_6 (by decide), kt_6]
          have b144 : IV x143 6 3072 := by rw [ex143]; exact iv_add b8 kc_6 (by decide)
          refine m_iinc (v := x143) (L1 := [some (.ref b), some (.ref (G.1 0 0)), some (.ref (G.1 22 0)), some (.int x143)]) C dL_law_1028 rfl (by rw [ex143]; rfl) (by decide) rfl rfl ?_
          refine m_goto (tgt := 18) C dL_law_1031 (by decide) ?_
          refine m_widen (c2 := 250 + 8 * x143.toInt.toNat) (s2 := 5300 + 24 * x143.toInt.toNat) (by omega) (by omega) ?_
          exact ih18 τ133 x143 i134 r141 r142 (iv_wk b144 (by decide)) (by have q := hm18; omega)
        by_cases s145 : x11.toInt = 3
        · refine m_tableIn (tgt := 317) (off := 284) C dL_law_33 (by omega) (by omega) (by rw [s145]; rfl) (by decide) ?_
          have b146 : IV x11 3 3 := ⟨by omega, by omega⟩
          refine m_aload_n C dL_law_317 rfl rfl ?_
          refine m_aload_n C dL_law_318 rfl rfl ?_
          refine m_iload_n C dL_law_319 rfl rfl ?_
          refine m_iconst (v := 1) C dL_law_320 (by decide) ?_
          refine m_iadd C dL_law_321 ?_
          refine m_topi (fun x147 ex147 => ?_)
          have tx147 : x147.toInt = y3.toInt + 1 := by rw [ex147, ti_addv b8 kc_1 (by decide), kt_1]
          have b148 : IV x147 1 3067 := by rw [ex147]; exact iv_add b8 kc_1 (by decide)
          refine m_sld C hX hbl hbA ⟨by omega, by omega⟩ dL_law_322 ?_
          refine m_topi (fun x149 ex149 => ?_)
          refine m_callV (n := 1) (ci := 10) (st := []) C (c_X11_dropQ l G τ (x149) iτ ) (by decide) (by decide) rfl rfl rfl q2_34 q2_31 q2_32 q2_33 q1_1 (by decide +kernel) rfl (by decide) ⟨by show (250 + 8 * y3.toInt.toNat) + 0 ≤ 600000; omega, by show (5300 + 24 * y3.toInt.toNat) + 0 ≤ 7302250; omega⟩ rfl (Nat.le_of_ble_eq_true rfl) dL_law_323 ?_
          rintro _ τ150 ⟨x153, rfl, i151, f152, b154, h156⟩
          obtain ⟨h156, h156t0, h156t1⟩ := h156
          have z157 := Hid.mk h156
          clear h156
          have z158 := Hid.mk h156t0
          clear h156t0
          have z159 := Hid.mk h156t1
          clear h156t1
          show MW p l e _ s m _ below meth c _ 4 G (250 + 8 * y3.toInt.toNat) (5300 + 24 * y3.toInt.toNat) 326 [some (.ref b), some (.ref (G.1 0 0)), some (.ref (G.1 22 0)), some (.int y3)] [.int x153] τ150
          refine m_pop C dL_law_326 rfl ?_
          refine m_aload_n C dL_law_327 rfl rfl ?_
          refine m_aload_n C dL_law_328 rfl rfl ?_
          refine m_iload_n C dL_law_329 rfl rfl ?_
          refine m_iconst (v := 1) C dL_law_330 (by decide) ?_
          refine m_iadd C dL_law_331 ?_
          refine m_topi (fun x160 ex160 => ?_)
          have tx160 : x160.toInt = y3.toInt + 1 := by rw [ex160, ti_addv b8 kc_1 (by decide), kt_1]
          have b161 : IV x160 1 3067 := by rw [ex160]; exact iv_add b8 kc_1 (by decide)
          refine m_sld C hX hbl hbA ⟨by omega, by omega⟩ dL_law_332 ?_
          refine m_eqs (w := x149) (by rw [ex149, show x160.toInt.toNat = x147.toInt.toNat by omega]) ?_
          refine m_callV (n := 1) (ci := 11) (st := []) C (c_X12_dropQ l G τ150 (x149) i151 ) (by decide) (by decide) rfl rfl rfl q4_216 q4_213 q4_214 q4_215 q1_7 (by decide +kernel) rfl (by decide) ⟨by show (250 + 8 * y3.toInt.toNat) + 0 ≤ 600000; omega, by show (5300 + 24 * y3.toInt.toNat) + 0 ≤ 7302250; omega⟩ rfl (Nat.le_of_ble_eq_true rfl) dL_law_333 ?_
          rintro _ τ162 ⟨x165, rfl, i163, f164, b166, h168⟩
          obtain ⟨h168, h168t0, h168t1⟩ := h168
          have g169 := Rel.dropB rτ f152 f164 z157 h168
          have r170 : Rel τ162 := g169.1
          have r171 : RI τ162 := RB.dropB rτ iτ jτ f152 f164 z157 z158 z159 h168 h168t0 h168t1
          clear h168 z157 z158 z159 h168t0 h168t1
          show MW p l e _ s m _ below meth c _ 4 G (250 + 8 * y3.toInt.toNat) (5300 + 24 * y3.toInt.toNat) 336 [some (.ref b), some (.ref (G.1 0 0)), some (.ref (G.1 22 0)), some (.int y3)] [.int x165] τ162
          refine m_pop C dL_law_336 rfl ?_
          refine m_goto (tgt := 1028) C dL_law_337 (by decide) ?_
          obtain ⟨x172, ex172⟩ : ∃ y : Int32, y = y3 + 6 := ⟨_, rfl⟩
          have tx172 : x172.toInt = y3.toInt + 6 := by rw [ex172, ti_addv b8 kc_6 (by decide), kt_6]
          have b173 : IV x172 6 3072 := by rw [ex172]; exact iv_add b8 kc_6 (by decide)
          refine m_iinc (v := x172) (L1 := [some (.ref b), some (.ref (G.1 0 0)), some (.ref (G.1 22 0)), some (.int x172)]) C dL_law_1028 rfl (by rw [ex172]; rfl) (by decide) rfl rfl ?_
          refine m_goto (tgt := 18) C dL_law_1031 (by decide) ?_
          refine m_widen (c2 := 250 + 8 * x172.toInt.toNat) (s2 := 5300 + 24 * x172.toInt.toNat) (by omega) (by omega) ?_
          exact ih18 τ162 x172 i163 r170 r171 (iv_wk b173 (by decide)) (by have q := hm18; omega)
        by_cases s174 : x11.toInt = 4
        · refine m_tableIn (tgt := 340) (off := 307) C dL_law_33 (by omega) (by omega) (by rw [s174]; rfl) (by decide) ?_
          have b175 : IV x11 4 4 := ⟨by omega, by omega⟩
          refine m_aload_n C dL_law_340 rfl rfl ?_
          refine m_aload_n C dL_law_341 rfl rfl ?_
          refine m_iload_n C dL_law_342 rfl rfl ?_
          refine m_iconst (v := 1) C dL_law_343 (by decide) ?_
          refine m_iadd C dL_law_344 ?_
          refine m_topi (fun x176 ex176 => ?_)
          have tx176 : x176.toInt = y3.toInt + 1 := by rw [ex176, ti_addv b8 kc_1 (by decide), kt_1]
          have b177 : IV x176 1 3067 := by rw [ex176]; exact iv_add b8 kc_1 (by decide)
          refine m_sld C hX hbl hbA ⟨by omega, by omega⟩ dL_law_345 ?_
          refine m_topi (fun x178 ex178 => ?_)
          refine m_i2l C dL_law_346 ?_
          refine m_bipush (v := 32) C dL_law_347 (by decide) ?_
          refine m_lshl C dL_law_349 ?_
          refine m_topl (fun w179 ew179 => ?_)
          refine m_aload_n C dL_law_350 rfl rfl ?_
          refine m_iload_n C dL_law_351 rfl rfl ?_
          refine m_iconst (v := 2) C dL_law_352 (by decide) ?_
          refine m_iadd C dL_law_353 ?_
          refine m_topi (fun x180 ex180 => ?_)
          have tx180 : x180.toInt = y3.toInt + 2 := by rw [ex180, ti_addv b8 kc_2 (by decide), kt_2]
          have b181 : IV x180 2 3068 := by rw [ex180]; exact iv_add b8 kc_2 (by decide)
          refine m_sld C hX hbl hbA ⟨by omega, by omega⟩ dL_law_354 ?_
          refine m_topi (fun x182 ex182 => ?_)
          refine m_i2l C dL_law_355 ?_
          refine m_ldc2 (v := 4294967295) C dL_law_356 q5_222 ?_
          refine m_land C dL_law_359 ?_
          refine m_topl (fun w183 ew183 => ?_)
          refine m_lor C dL_law_360 ?_
          refine m_topl (fun w184 ew184 => ?_)
          refine m_aload_n C dL_law_361 rfl rfl ?_
          refine m_iload_n C dL_law_362 rfl rfl ?_
          refine m_iconst (v := 3) C dL_law_363 (by decide) ?_
          refine m_iadd C dL_law_364 ?_
          refine m_topi (fun x185 ex185 => ?_)
          have tx185 : x185.toInt = y3.toInt + 3 := by rw [ex185, ti_addv b8 kc_3 (by decide), kt_3]
          have b186 : IV x185 3 3069 := by rw [ex185]; exact iv_add b8 kc_3 (by decide)
          refine m_sld C hX hbl hbA ⟨by omega, by omega⟩ dL_law_365 ?_
          refine m_topi (fun x187 ex187 => ?_)
          refine m_callV (n := 2) (ci := 10) (st := []) C (c_X11_feedE l G τ (w184) (x187) iτ ) (by decide) (by decide) rfl rfl rfl q2_42 q2_39 q2_40 q2_41 q1_1 (by decide +kernel) rfl (by decide) ⟨by show (250 + 8 * y3.toInt.toNat) + 0 ≤ 600000; omega, by show (5300 + 24 * y3.toInt.toNat) + 0 ≤ 7302250; omega⟩ rfl (Nat.le_of_ble_eq_true rfl) dL_law_366 ?_
          rintro _ τ188 ⟨x191, rfl, i189, f190, b192, h194⟩
          have z195 := Hid.mk h194
          clear h194
          have r196 : RI τ188 := jτ.call f190 (by decide) (by decide)
          show MW p l e _ s m _ below meth c _ 4 G (250 + 8 * y3.toInt.toNat) (5300 + 24 * y3.toInt.toNat) 369 [some (.ref b), some (.ref (G.1 0 0)), some (.ref (G.1 22 0)), some (.int y3)] [.int x191] τ188
          refine m_pop C dL_law_369 rfl ?_
          refine m_aload_n C dL_law_370 rfl rfl ?_
          refine m_aload_n C dL_law_371 rfl rfl ?_
          refine m_iload_n C dL_law_372 rfl rfl ?_
          refine m_iconst (v := 1) C dL_law_373 (by decide) ?_
          refine m_iadd C dL_law_374 ?_
          refine m_topi (fun x197 ex197 => ?_)
          have tx197 : x197.toInt = y3.toInt + 1 := by rw [ex197, ti_addv b8 kc_1 (by decide), kt_1]
          have b198 : IV x197 1 3067 := by rw [ex197]; exact iv_add b8 kc_1 (by decide)
          refine m_sld C hX hbl hbA ⟨by omega, by omega⟩ dL_law_375 ?_
          refine m_eqs (w := x178) (by rw [ex178, show x197.toInt.toNat = x176.toInt.toNat by omega]) ?_
          refine m_i2l C dL_law_376 ?_
          refine m_bipush (v := 32) C dL_law_377 (by decide) ?_
          refine m_lshl C dL_law_379 ?_
          refine m_topl (fun w199 ew199 => ?_)
          refine m_aload_n C dL_law_380 rfl rfl ?_
          refine m_iload_n C dL_law_381 rfl rfl ?_
          refine m_iconst (v := 2) C dL_law_382 (by decide) ?_
          refine m_iadd C dL_law_383 ?_
          refine m_topi (fun x200 ex200 => ?_)
          have tx200 : x200.toInt = y3.toInt + 2 := by rw [ex200, ti_addv b8 kc_2 (by decide), kt_2]
          have b201 : IV x200 2 3068 := by rw [ex200]; exact iv_add b8 kc_2 (by decide)
          refine m_sld C hX hbl hbA ⟨by omega, by omega⟩ dL_law_384 ?_
          refine m_eqs (w := x182) (by rw [ex182, show x200.toInt.toNat = x180.toInt.toNat by omega]) ?_
          refine m_i2l C dL_law_385 ?_
          refine m_ldc2 (v := 4294967295) C dL_law_386 q5_222 ?_
          refine m_land C dL_law_389 ?_
          refine m_topl (fun w202 ew202 => ?_)
          refine m_lor C dL_law_390 ?_
          refine m_topl (fun w203 ew203 => ?_)
          refine m_aload_n C dL_law_391 rfl rfl ?_
          refine m_iload_n C dL_law_392 rfl rfl ?_
          refine m_iconst (v := 3) C dL_law_393 (by decide) ?_
          refine m_iadd C dL_law_394 ?_
          refine m_topi (fun x204 ex204 => ?_)
          have tx204 : x204.toInt = y3.toInt + 3 := by rw [ex204, ti_addv b8 kc_3 (by decide), kt_3]
          have b205 : IV x204 3 3069 := by rw [ex204]; exact iv_add b8 kc_3 (by decide)
          refine m_sld C hX hbl hbA ⟨by omega, by omega⟩ dL_law_395 ?_
          refine m_eqs (w := x187) (by rw [ex187, show x204.toInt.toNat = x185.toInt.toNat by omega]) ?_
          refine m_callV (n := 2) (ci := 11) (st := []) C (c_X12_feedE l G τ188 (w203) (x187) i189 ) (by decide) (by decide) rfl rfl rfl q4_220 q4_217 q4_218 q4_219 q1_7 (by decide +kernel) rfl (by decide) ⟨by show (250 + 8 * y3.toInt.toNat) + 0 ≤ 600000; omega, by show (5300 + 24 * y3.toInt.toNat) + 0 ≤ 7302250; omega⟩ rfl (Nat.le_of_ble_eq_true rfl) dL_law_396 ?_
          rintro _ τ206 ⟨x209, rfl, i207, f208, b210, h212⟩
          have g213 := Rel.feedB rτ f190 f208 z195 h212
          have r214 : Rel τ206 := g213.1
          have r215 : RI τ206 := r196.call f208 (by decide) (by decide)
          clear h212 z195
          show MW p l e _ s m _ below meth c _ 4 G (250 + 8 * y3.toInt.toNat) (5300 + 24 * y3.toInt.toNat) 399 [some (.ref b), some (.ref (G.1 0 0)), some (.ref (G.1 22 0)), some (.int y3)] [.int x209] τ206
          refine m_pop C dL_law_399 rfl ?_
          refine m_goto (tgt := 1028) C dL_law_400 (by decide) ?_
          obtain ⟨x216, ex216⟩ : ∃ y : Int32, y = y3 + 6 := ⟨_, rfl⟩
          have tx216 : x216.toInt = y3.toInt + 6 := by rw [ex216, ti_addv b8 kc_6 (by decide), kt_6]
          have b217 : IV x216 6 3072 := by rw [ex216]; exact iv_add b8 kc_6 (by decide)
          refine m_iinc (v := x216) (L1 := [some (.ref b), some (.ref (G.1 0 0)), some (.ref (G.1 22 0)), some (.int x216)]) C dL_law_1028 rfl (by rw [ex216]; rfl) (by decide) rfl rfl ?_
          refine m_goto (tgt := 18) C dL_law_1031 (by decide) ?_
          refine m_widen (c2 := 250 + 8 * x216.toInt.toNat) (s2 := 5300 + 24 * x216.toInt.toNat) (by omega) (by omega) ?_
          exact ih18 τ206 x216 i207 r214 r215 (iv_wk b217 (by decide)) (by have q := hm18; omega)
        by_cases s218 : x11.toInt = 5
        · refine m_tableIn (tgt := 403) (off := 370) C dL_law_33 (by omega) (by omega) (by rw [s218]; rfl) (by decide) ?_
          have b219 : IV x11 5 5 := ⟨by omega, by omega⟩
          refine m_aload_n C dL_law_403 rfl rfl ?_
          refine m_callV (n := 0) (ci := 10) (st := []) C (c_X11_towerE l G τ  iτ ) (by decide) (by decide) rfl rfl rfl q2_51 q2_48 q2_49 q2_50 q1_1 (by decide +kernel) rfl (by decide) ⟨by show (250 + 8 * y3.toInt.toNat) + 8 ≤ 600000; omega, by show (5300 + 24 * y3.toInt.toNat) + 24 ≤ 7302250; omega⟩ rfl (Nat.le_of_ble_eq_true rfl) dL_law_404 ?_
          rintro _ τ220 ⟨x223, rfl, i221, f222, b224, h226⟩
          have z227 := Hid.mk h226
          clear h226
          have r228 : RI τ220 := jτ.call f222 (by decide) (by decide)
          show MW p l e _ s m _ below meth c _ 4 G ((250 + 8 * y3.toInt.toNat) + 8) ((5300 + 24 * y3.toInt.toNat) + 24) 407 [some (.ref b), some (.ref (G.1 0 0)), some (.ref (G.1 22 0)), some (.int y3)] [.int x223] τ220
          refine m_pop C dL_law_407 rfl ?_
          refine m_aload_n C dL_law_408 rfl rfl ?_
          refine m_callV (n := 0) (ci := 11) (st := []) C (c_X12_towerE l G τ220  i221 ) (by decide) (by decide) rfl rfl rfl q4_227 q4_224 q4_225 q4_226 q1_7 (by decide +kernel) rfl (by decide) ⟨by show ((250 + 8 * y3.toInt.toNat) + 8) + 0 ≤ 600000; omega, by show ((5300 + 24 * y3.toInt.toNat) + 24) + 0 ≤ 7302250; omega⟩ rfl (Nat.le_of_ble_eq_true rfl) dL_law_409 ?_
          rintro _ τ229 ⟨x232, rfl, i230, f231, b233, h235⟩
          have g236 := Rel.towerB (a2 := 0) (r1 := 0) (r2 := 0) rτ f222 f231 z227 h235
          have r237 : Rel τ229 := g236
          have r238 : RI τ229 := r228.call f231 (by decide) (by decide)
          clear h235 z227
          show MW p l e _ s m _ below meth c _ 4 G ((250 + 8 * y3.toInt.toNat) + 8) ((5300 + 24 * y3.toInt.toNat) + 24) 412 [some (.ref b), some (.ref (G.1 0 0)), some (.ref (G.1 22 0)), some (.int y3)] [.int x232] τ229
          refine m_pop C dL_law_412 rfl ?_
          refine m_goto (tgt := 1028) C dL_law_413 (by decide) ?_
          obtain ⟨x239, ex239⟩ : ∃ y : Int32, y = y3 + 6 := ⟨_, rfl⟩
          have tx239 : x239.toInt = y3.toInt + 6 := by rw [ex239, ti_addv b8 kc_6 (by decide), kt_6]
          have b240 : IV x239 6 3072 := by rw [ex239]; exact iv_add b8 kc_6 (by decide)
          refine m_iinc (v := x239) (L1 := [some (.ref b), some (.ref (G.1 0 0)), some (.ref (G.1 22 0)), some (.int x239)]) C dL_law_1028 rfl (by rw [ex239]; rfl) (by decide) rfl rfl ?_
          refine m_goto (tgt := 18) C dL_law_1031 (by decide) ?_
          refine m_widen (c2 := 250 + 8 * x239.toInt.toNat) (s2 := 5300 + 24 * x239.toInt.toNat) (by omega) (by omega) ?_
          exact ih18 τ229 x239 i230 r237 r238 (iv_wk b240 (by decide)) (by have q := hm18; omega)
        by_cases s241 : x11.toInt = 6
        · refine m_tableIn (tgt := 416) (off := 383) C dL_law_33 (by omega) (by omega) (by rw [s241]; rfl) (by decide) ?_
          have b242 : IV x11 6 6 := ⟨by omega, by omega⟩
          refine m_aload_n C dL_law_416 rfl rfl ?_
          refine m_callV (n := 0) (ci := 10) (st := []) C (c_X11_fault l G τ  iτ ) (by decide) (by decide) rfl rfl rfl q3_13 q3_10 q3_11 q3_12 q1_1 (by decide +kernel) rfl (by decide) ⟨by show (250 + 8 * y3.toInt.toNat) + 0 ≤ 600000; omega, by show (5300 + 24 * y3.toInt.toNat) + 0 ≤ 7302250; omega⟩ rfl (Nat.le_of_ble_eq_true rfl) dL_law_417 ?_
          rintro _ τ243 ⟨x246, rfl, i244, f245, b247⟩
          have r250 : Rel τ243 := rτ.call f245 (by decide) (by decide)
          have r251 : RI τ243 := jτ.call f245 (by decide) (by decide)
          show MW p l e _ s m _ below meth c _ 4 G (250 + 8 * y3.toInt.toNat) (5300 + 24 * y3.toInt.toNat) 420 [some (.ref b), some (.ref (G.1 0 0)), some (.ref (G.1 22 0)), some (.int y3)] [.int x246] τ243
          refine m_pop C dL_law_420 rfl ?_
          refine m_aload_n C dL_law_421 rfl rfl ?_
          refine m_callV (n := 0) (ci := 11) (st := []) C (c_X12_fault l G τ243  i244 ) (by decide) (by decide) rfl rfl rfl q5_42 q5_39 q5_40 q5_41 q1_7 (by decide +kernel) rfl (by decide) ⟨by show (250 + 8 * y3.toInt.toNat) + 0 ≤ 600000; omega, by show (5300 + 24 * y3.toInt.toNat) + 0 ≤ 7302250; omega⟩ rfl (Nat.le_of_ble_eq_true rfl) dL_law_422 ?_
          rintro _ τ252 ⟨x255, rfl, i253, f254, b256⟩
          have r259 : Rel τ252 := r250.call f254 (by decide) (by decide)
          have r260 : RI τ252 := r251.call f254 (by decide) (by decide)
          show MW p l e _ s m _ below meth c _ 4 G (250 + 8 * y3.toInt.toNat) (5300 + 24 * y3.toInt.toNat) 425 [some (.ref b), some (.ref (G.1 0 0)), some (.ref (G.1 22 0)), some (.int y3)] [.int x255] τ252
          refine m_pop C dL_law_425 rfl ?_
          refine m_goto (tgt := 1028) C dL_law_426 (by decide) ?_
          obtain ⟨x261, ex261⟩ : ∃ y : Int32, y = y3 + 6 := ⟨_, rfl⟩
          have tx261 : x261.toInt = y3.toInt + 6 := by rw [ex261, ti_addv b8 kc_6 (by decide), kt_6]
          have b262 : IV x261 6 3072 := by rw [ex261]; exact iv_add b8 kc_6 (by decide)
          refine m_iinc (v := x261) (L1 := [some (.ref b), some (.ref (G.1 0 0)), some (.ref (G.1 22 0)), some (.int x261)]) C dL_law_1028 rfl (by rw [ex261]; rfl) (by decide) rfl rfl ?_
          refine m_goto (tgt := 18) C dL_law_1031 (by decide) ?_
          refine m_widen (c2 := 250 + 8 * x261.toInt.toNat) (s2 := 5300 + 24 * x261.toInt.toNat) (by omega) (by omega) ?_
          exact ih18 τ252 x261 i253 r259 r260 (iv_wk b262 (by decide)) (by have q := hm18; omega)
        by_cases s263 : x11.toInt = 7
        · refine m_tableIn (tgt := 429) (off := 396) C dL_law_33 (by omega) (by omega) (by rw [s263]; rfl) (by decide) ?_
          have b264 : IV x11 7 7 := ⟨by omega, by omega⟩
          refine m_aload_n C dL_law_429 rfl rfl ?_
          refine m_aload_n C dL_law_430 rfl rfl ?_
          refine m_iload_n C dL_law_431 rfl rfl ?_
          refine m_iconst (v := 1) C dL_law_432 (by decide) ?_
          refine m_iadd C dL_law_433 ?_
          refine m_topi (fun x265 ex265 => ?_)
          have tx265 : x265.toInt = y3.toInt + 1 := by rw [ex265, ti_addv b8 kc_1 (by decide), kt_1]
          have b266 : IV x265 1 3067 := by rw [ex265]; exact iv_add b8 kc_1 (by decide)
          refine m_sld C hX hbl hbA ⟨by omega, by omega⟩ dL_law_434 ?_
          refine m_topi (fun x267 ex267 => ?_)
          refine m_aload_n C dL_law_435 rfl rfl ?_
          refine m_iload_n C dL_law_436 rfl rfl ?_
          refine m_iconst (v := 2) C dL_law_437 (by decide) ?_
          refine m_iadd C dL_law_438 ?_
          refine m_topi (fun x268 ex268 => ?_)
          have tx268 : x268.toInt = y3.toInt + 2 := by rw [ex268, ti_addv b8 kc_2 (by decide), kt_2]
          have b269 : IV x268 2 3068 := by rw [ex268]; exact iv_add b8 kc_2 (by decide)
          refine m_sld C hX hbl hbA ⟨by omega, by omega⟩ dL_law_439 ?_
          refine m_topi (fun x270 ex270 => ?_)
          refine m_callV (n := 2) (ci := 10) (st := []) C (c_X11_go l G τ (x267) (x270) iτ ) (by decide) (by decide) rfl rfl rfl q3_17 q3_14 q3_15 q3_16 q1_1 (by decide +kernel) rfl (by decide) ⟨by show (250 + 8 * y3.toInt.toNat) + 0 ≤ 600000; omega, by show (5300 + 24 * y3.toInt.toNat) + 0 ≤ 7302250; omega⟩ rfl (Nat.le_of_ble_eq_true rfl) dL_law_440 ?_
          rintro _ τ271 ⟨x274, rfl, i272, f273, b275⟩
          have r278 : Rel τ271 := rτ.call f273 (by decide) (by decide)
          have r279 : RI τ271 := jτ.call f273 (by decide) (by decide)
          show MW p l e _ s m _ below meth c _ 4 G (250 + 8 * y3.toInt.toNat) (5300 + 24 * y3.toInt.toNat) 443 [some (.ref b), some (.ref (G.1 0 0)), some (.ref (G.1 22 0)), some (.int y3)] [.int x274] τ271
          refine m_pop C dL_law_443 rfl ?_
          refine m_aload_n C dL_law_444 rfl rfl ?_
          refine m_aload_n C dL_law_445 rfl rfl ?_
          refine m_iload_n C dL_law_446 rfl rfl ?_
          refine m_iconst (v := 1) C dL_law_447 (by decide) ?_
          refine m_iadd C dL_law_448 ?_
          refine m_topi (fun x280 ex280 => ?_)
          have tx280 : x280.toInt = y3.toInt + 1 := by rw [ex280, ti_addv b8 kc_1 (by decide), kt_1]
          have b281 : IV x280 1 3067 := by rw [ex280]; exact iv_add b8 kc_1 (by decide)
          refine m_sld C hX hbl hbA ⟨by omega, by omega⟩ dL_law_449 ?_
          refine m_eqs (w := x267) (by rw [ex267, show x280.toInt.toNat = x265.toInt.toNat by omega]) ?_
          refine m_aload_n C dL_law_450 rfl rfl ?_
          refine m_iload_n C dL_law_451 rfl rfl ?_
          refine m_iconst (v := 2) C dL_law_452 (by decide) ?_
          refine m_iadd C dL_law_453 ?_
          refine m_topi (fun x282 ex282 => ?_)
          have tx282 : x282.toInt = y3.toInt + 2 := by rw [ex282, ti_addv b8 kc_2 (by decide), kt_2]
          have b283 : IV x282 2 3068 := by rw [ex282]; exact iv_add b8 kc_2 (by decide)
          refine m_sld C hX hbl hbA ⟨by omega, by omega⟩ dL_law_454 ?_
          refine m_eqs (w := x270) (by rw [ex270, show x282.toInt.toNat = x268.toInt.toNat by omega]) ?_
          refine m_callV (n := 2) (ci := 11) (st := []) C (c_X12_go l G τ271 (x267) (x270) i272 ) (by decide) (by decide) rfl rfl rfl q5_46 q5_43 q5_44 q5_45 q1_7 (by decide +kernel) rfl (by decide) ⟨by show (250 + 8 * y3.toInt.toNat) + 0 ≤ 600000; omega, by show (5300 + 24 * y3.toInt.toNat) + 0 ≤ 7302250; omega⟩ rfl (Nat.le_of_ble_eq_true rfl) dL_law_455 ?_
          rintro _ τ284 ⟨x287, rfl, i285, f286, b288⟩
          have r291 : Rel τ284 := r278.call f286 (by decide) (by decide)
          have r292 : RI τ284 := r279.call f286 (by decide) (by decide)
          show MW p l e _ s m _ below meth c _ 4 G (250 + 8 * y3.toInt.toNat) (5300 + 24 * y3.toInt.toNat) 458 [some (.ref b), some (.ref (G.1 0 0)), some (.ref (G.1 22 0)), some (.int y3)] [.int x287] τ284
          refine m_pop C dL_law_458 rfl ?_
          refine m_goto (tgt := 1028) C dL_law_459 (by decide) ?_
          obtain ⟨x293, ex293⟩ : ∃ y : Int32, y = y3 + 6 := ⟨_, rfl⟩
          have tx293 : x293.toInt = y3.toInt + 6 := by rw [ex293, ti_addv b8 kc_6 (by decide), kt_6]
          have b294 : IV x293 6 3072 := by rw [ex293]; exact iv_add b8 kc_6 (by decide)
          refine m_iinc (v := x293) (L1 := [some (.ref b), some (.ref (G.1 0 0)), some (.ref (G.1 22 0)), some (.int x293)]) C dL_law_1028 rfl (by rw [ex293]; rfl) (by decide) rfl rfl ?_
          refine m_goto (tgt := 18) C dL_law_1031 (by decide) ?_
          refine m_widen (c2 := 250 + 8 * x293.toInt.toNat) (s2 := 5300 + 24 * x293.toInt.toNat) (by omega) (by omega) ?_
          exact ih18 τ284 x293 i285 r291 r292 (iv_wk b294 (by decide)) (by have q := hm18; omega)
        by_cases s295 : x11.toInt = 8
        · refine m_tableIn (tgt := 462) (off := 429) C dL_law_33 (by omega) (by omega) (by rw [s295]; rfl) (by decide) ?_
          have b296 : IV x11 8 8 := ⟨by omega, by omega⟩
          refine m_aload_n C dL_law_462 rfl rfl ?_
          refine m_aload_n C dL_law_463 rfl rfl ?_
          refine m_iload_n C dL_law_464 rfl rfl ?_
          refine m_iconst (v := 1) C dL_law_465 (by decide) ?_
          refine m_iadd C dL_law_466 ?_
          refine m_topi (fun x297 ex297 => ?_)
          have tx297 : x297.toInt = y3.toInt + 1 := by rw [ex297, ti_addv b8 kc_1 (by decide), kt_1]
          have b298 : IV x297 1 3067 := by rw [ex297]; exact iv_add b8 kc_1 (by decide)
          refine m_sld C hX hbl hbA ⟨by omega, by omega⟩ dL_law_467 ?_
          refine m_topi (fun x299 ex299 => ?_)
          refine m_aload_n C dL_law_468 rfl rfl ?_
          refine m_iload_n C dL_law_469 rfl rfl ?_
          refine m_iconst (v := 2) C dL_law_470 (by decide) ?_
          refine m_iadd C dL_law_471 ?_
          refine m_topi (fun x300 ex300 => ?_)
          have tx300 : x300.toInt = y3.toInt + 2 := by rw [ex300, ti_addv b8 kc_2 (by decide), kt_2]
          have b301 : IV x300 2 3068 := by rw [ex300]; exact iv_add b8 kc_2 (by decide)
          refine m_sld C hX hbl hbA ⟨by omega, by omega⟩ dL_law_472 ?_
          refine m_topi (fun x302 ex302 => ?_)
          refine m_callV (n := 2) (ci := 10) (st := []) C (c_X11_hang l G τ (x299) (x302) iτ ) (by decide) (by decide) rfl rfl rfl q3_29 q3_26 q3_27 q3_28 q1_1 (by decide +kernel) rfl (by decide) ⟨by show (250 + 8 * y3.toInt.toNat) + 0 ≤ 600000; omega, by show (5300 + 24 * y3.toInt.toNat) + 0 ≤ 7302250; omega⟩ rfl (Nat.le_of_ble_eq_true rfl) dL_law_473 ?_
          rintro _ τ303 ⟨x306, rfl, i304, f305, b307⟩
          have r310 : Rel τ303 := rτ.call f305 (by decide) (by decide)
          have r311 : RI τ303 := jτ.call f305 (by decide) (by decide)
          show MW p l e _ s m _ below meth c _ 4 G (250 + 8 * y3.toInt.toNat) (5300 + 24 * y3.toInt.toNat) 476 [some (.ref b), some (.ref (G.1 0 0)), some (.ref (G.1 22 0)), some (.int y3)] [.int x306] τ303
          refine m_pop C dL_law_476 rfl ?_
          refine m_aload_n C dL_law_477 rfl rfl ?_
          refine m_aload_n C dL_law_478 rfl rfl ?_
          refine m_iload_n C dL_law_479 rfl rfl ?_
          refine m_iconst (v := 1) C dL_law_480 (by decide) ?_
          refine m_iadd C dL_law_481 ?_
          refine m_topi (fun x312 ex312 => ?_)
          have tx312 : x312.toInt = y3.toInt + 1 := by rw [ex312, ti_addv b8 kc_1 (by decide), kt_1]
          have b313 : IV x312 1 3067 := by rw [ex312]; exact iv_add b8 kc_1 (by decide)
          refine m_sld C hX hbl hbA ⟨by omega, by omega⟩ dL_law_482 ?_
          refine m_eqs (w := x299) (by rw [ex299, show x312.toInt.toNat = x297.toInt.toNat by omega]) ?_
          refine m_aload_n C dL_law_483 rfl rfl ?_
          refine m_iload_n C dL_law_484 rfl rfl ?_
          refine m_iconst (v := 2) C dL_law_485 (by decide) ?_
          refine m_iadd C dL_law_486 ?_
          refine m_topi (fun x314 ex314 => ?_)
          have tx314 : x314.toInt = y3.toInt + 2 := by rw [ex314, ti_addv b8 kc_2 (by decide), kt_2]
          have b315 : IV x314 2 3068 := by rw [ex314]; exact iv_add b8 kc_2 (by decide)
          refine m_sld C hX hbl hbA ⟨by omega, by omega⟩ dL_law_487 ?_
          refine m_eqs (w := x302) (by rw [ex302, show x314.toInt.toNat = x300.toInt.toNat by omega]) ?_
          refine m_callV (n := 2) (ci := 11) (st := []) C (c_X12_hang l G τ303 (x299) (x302) i304 ) (by decide) (by decide) rfl rfl rfl q5_58 q5_55 q5_56 q5_57 q1_7 (by decide +kernel) rfl (by decide) ⟨by show (250 + 8 * y3.toInt.toNat) + 0 ≤ 600000; omega, by show (5300 + 24 * y3.toInt.toNat) + 0 ≤ 7302250; omega⟩ rfl (Nat.le_of_ble_eq_true rfl) dL_law_488 ?_
          rintro _ τ316 ⟨x319, rfl, i317, f318, b320⟩
          have r323 : Rel τ316 := r310.call f318 (by decide) (by decide)
          have r324 : RI τ316 := r311.call f318 (by decide) (by decide)
          show MW p l e _ s m _ below meth c _ 4 G (250 + 8 * y3.toInt.toNat) (5300 + 24 * y3.toInt.toNat) 491 [some (.ref b), some (.ref (G.1 0 0)), some (.ref (G.1 22 0)), some (.int y3)] [.int x319] τ316
          refine m_pop C dL_law_491 rfl ?_
          refine m_goto (tgt := 1028) C dL_law_492 (by decide) ?_
          obtain ⟨x325, ex325⟩ : ∃ y : Int32, y = y3 + 6 := ⟨_, rfl⟩
          have tx325 : x325.toInt = y3.toInt + 6 := by rw [ex325, ti_addv b8 kc_6 (by decide), kt_6]
          have b326 : IV x325 6 3072 := by rw [ex325]; exact iv_add b8 kc_6 (by decide)
          refine m_iinc (v := x325) (L1 := [some (.ref b), some (.ref (G.1 0 0)), some (.ref (G.1 22 0)), some (.int x325)]) C dL_law_1028 rfl (by rw [ex325]; rfl) (by decide) rfl rfl ?_
          refine m_goto (tgt := 18) C dL_law_1031 (by decide) ?_
          refine m_widen (c2 := 250 + 8 * x325.toInt.toNat) (s2 := 5300 + 24 * x325.toInt.toNat) (by omega) (by omega) ?_
          exact ih18 τ316 x325 i317 r323 r324 (iv_wk b326 (by decide)) (by have q := hm18; omega)
        by_cases s327 : x11.toInt = 9
        · refine m_tableIn (tgt := 495) (off := 462) C dL_law_33 (by omega) (by omega) (by rw [s327]; rfl) (by decide) ?_
          have b328 : IV x11 9 9 := ⟨by omega, by omega⟩
          refine m_aload_n C dL_law_495 rfl rfl ?_
          refine m_aload_n C dL_law_496 rfl rfl ?_
          refine m_iload_n C dL_law_497 rfl rfl ?_
          refine m_iconst (v := 1) C dL_law_498 (by decide) ?_
          refine m_iadd C dL_law_499 ?_
          refine m_topi (fun x329 ex329 => ?_)
          have tx329 : x329.toInt = y3.toInt + 1 := by rw [ex329, ti_addv b8 kc_1 (by decide), kt_1]
          have b330 : IV x329 1 3067 := by rw [ex329]; exact iv_add b8 kc_1 (by decide)
          refine m_sld C hX hbl hbA ⟨by omega, by omega⟩ dL_law_500 ?_
          refine m_topi (fun x331 ex331 => ?_)
          refine m_callV (n := 1) (ci := 10) (st := []) C (c_X11_halves l G τ (x331) iτ ) (by decide) (by decide) rfl rfl rfl q3_37 q3_34 q3_35 q3_36 q1_1 (by decide +kernel) rfl (by decide) ⟨by show (250 + 8 * y3.toInt.toNat) + 0 ≤ 600000; omega, by show (5300 + 24 * y3.toInt.toNat) + 0 ≤ 7302250; omega⟩ rfl (Nat.le_of_ble_eq_true rfl) dL_law_501 ?_
          rintro _ τ332 ⟨x335, rfl, i333, f334, b336⟩
          have r339 : Rel τ332 := rτ.call f334 (by decide) (by decide)
          have r340 : RI τ332 := jτ.call f334 (by decide) (by decide)
          show MW p l e _ s m _ below meth c _ 4 G (250 + 8 * y3.toInt.toNat) (5300 + 24 * y3.toInt.toNat) 504 [some (.ref b), some (.ref (G.1 0 0)), some (.ref (G.1 22 0)), some (.int y3)] [.int x335] τ332
          refine m_pop C dL_law_504 rfl ?_
          refine m_aload_n C dL_law_505 rfl rfl ?_
          refine m_aload_n C dL_law_506 rfl rfl ?_
          refine m_iload_n C dL_law_507 rfl rfl ?_
          refine m_iconst (v := 1) C dL_law_508 (by decide) ?_
          refine m_iadd C dL_law_509 ?_
          refine m_topi (fun x341 ex341 => ?_)
          have tx341 : x341.toInt = y3.toInt + 1 := by rw [ex341, ti_addv b8 kc_1 (by decide), kt_1]
          have b342 : IV x341 1 3067 := by rw [ex341]; exact iv_add b8 kc_1 (by decide)
          refine m_sld C hX hbl hbA ⟨by omega, by omega⟩ dL_law_510 ?_
          refine m_eqs (w := x331) (by rw [ex331, show x341.toInt.toNat = x329.toInt.toNat by omega]) ?_
          refine m_callV (n := 1) (ci := 11) (st := []) C (c_X12_halves l G τ332 (x331) i333 ) (by decide) (by decide) rfl rfl rfl q5_63 q5_60 q5_61 q5_62 q1_7 (by decide +kernel) rfl (by decide) ⟨by show (250 + 8 * y3.toInt.toNat) + 0 ≤ 600000; omega, by show (5300 + 24 * y3.toInt.toNat) + 0 ≤ 7302250; omega⟩ rfl (Nat.le_of_ble_eq_true rfl) dL_law_511 ?_
          rintro _ τ343 ⟨x346, rfl, i344, f345, b347⟩
          have r350 : Rel τ343 := r339.call f345 (by decide) (by decide)
          have r351 : RI τ343 := r340.call f345 (by decide) (by decide)
          show MW p l e _ s m _ below meth c _ 4 G (250 + 8 * y3.toInt.toNat) (5300 + 24 * y3.toInt.toNat) 514 [some (.ref b), some (.ref (G.1 0 0)), some (.ref (G.1 22 0)), some (.int y3)] [.int x346] τ343
          refine m_pop C dL_law_514 rfl ?_
          refine m_goto (tgt := 1028) C dL_law_515 (by decide) ?_
          obtain ⟨x352, ex352⟩ : ∃ y : Int32, y = y3 + 6 := ⟨_, rfl⟩
          have tx352 : x352.toInt = y3.toInt + 6 := by rw [ex352, ti_addv b8 kc_6 (by decide), kt_6]
          have b353 : IV x352 6 3072 := by rw [ex352]; exact iv_add b8 kc_6 (by decide)
          refine m_iinc (v := x352) (L1 := [some (.ref b), some (.ref (G.1 0 0)), some (.ref (G.1 22 0)), some (.int x352)]) C dL_law_1028 rfl (by rw [ex352]; rfl) (by decide) rfl rfl ?_
          refine m_goto (tgt := 18) C dL_law_1031 (by decide) ?_
          refine m_widen (c2 := 250 + 8 * x352.toInt.toNat) (s2 := 5300 + 24 * x352.toInt.toNat) (by omega) (by omega) ?_
          exact ih18 τ343 x352 i344 r350 r351 (iv_wk b353 (by decide)) (by have q := hm18; omega)
        by_cases s354 : x11.toInt = 10
        · refine m_tableIn (tgt := 518) (off := 485) C dL_law_33 (by omega) (by omega) (by rw [s354]; rfl) (by decide) ?_
          have b355 : IV x11 10 10 := ⟨by omega, by omega⟩
          refine m_aload_n C dL_law_518 rfl rfl ?_
          refine m_callV (n := 0) (ci := 10) (st := []) C (c_X11_year l G τ  iτ ) (by decide) (by decide) rfl rfl rfl q3_97 q3_94 q3_95 q3_96 q1_1 (by decide +kernel) rfl (by decide) ⟨by show (250 + 8 * y3.toInt.toNat) + 0 ≤ 600000; omega, by show (5300 + 24 * y3.toInt.toNat) + 0 ≤ 7302250; omega⟩ rfl (Nat.le_of_ble_eq_true rfl) dL_law_519 ?_
          rintro _ τ356 ⟨x359, rfl, i357, f358, b360⟩
          have r363 : Rel τ356 := rτ.call f358 (by decide) (by decide)
          have r364 : RI τ356 := jτ.call f358 (by decide) (by decide)
          show MW p l e _ s m _ below meth c _ 4 G (250 + 8 * y3.toInt.toNat) (5300 + 24 * y3.toInt.toNat) 522 [some (.ref b), some (.ref (G.1 0 0)), some (.ref (G.1 22 0)), some (.int y3)] [.int x359] τ356
          refine m_pop C dL_law_522 rfl ?_
          refine m_aload_n C dL_law_523 rfl rfl ?_
          refine m_callV (n := 0) (ci := 11) (st := []) C (c_X12_year l G τ356  i357 ) (by decide) (by decide) rfl rfl rfl q5_103 q5_100 q5_101 q5_102 q1_7 (by decide +kernel) rfl (by decide) ⟨by show (250 + 8 * y3.toInt.toNat) + 0 ≤ 600000; omega, by show (5300 + 24 * y3.toInt.toNat) + 0 ≤ 7302250; omega⟩ rfl (Nat.le_of_ble_eq_true rfl) dL_law_524 ?_
          rintro _ τ365 ⟨x368, rfl, i366, f367, b369⟩
          have r372 : Rel τ365 := r363.call f367 (by decide) (by decide)
          have r373 : RI τ365 := r364.call f367 (by decide) (by decide)
          show MW p l e _ s m _ below meth c _ 4 G (250 + 8 * y3.toInt.toNat) (5300 + 24 * y3.toInt.toNat) 527 [some (.ref b), some (.ref (G.1 0 0)), some (.ref (G.1 22 0)), some (.int y3)] [.int x368] τ365
          refine m_pop C dL_law_527 rfl ?_
          refine m_goto (tgt := 1028) C dL_law_528 (by decide) ?_
          obtain ⟨x374, ex374⟩ : ∃ y : Int32, y = y3 + 6 := ⟨_, rfl⟩
          have tx374 : x374.toInt = y3.toInt + 6 := by rw [ex374, ti_addv b8 kc_6 (by decide), kt_6]
          have b375 : IV x374 6 3072 := by rw [ex374]; exact iv_add b8 kc_6 (by decide)
          refine m_iinc (v := x374) (L1 := [some (.ref b), some (.ref (G.1 0 0)), some (.ref (G.1 22 0)), some (.int x374)]) C dL_law_1028 rfl (by rw [ex374]; rfl) (by decide) rfl rfl ?_
          refine m_goto (tgt := 18) C dL_law_1031 (by decide) ?_
          refine m_widen (c2 := 250 + 8 * x374.toInt.toNat) (s2 := 5300 + 24 * x374.toInt.toNat) (by omega) (by omega) ?_
          exact ih18 τ365 x374 i366 r372 r373 (iv_wk b375 (by decide)) (by have q := hm18; omega)
        by_cases s376 : x11.toInt = 11
        · refine m_tableIn (tgt := 531) (off := 498) C dL_law_33 (by omega) (by omega) (by rw [s376]; rfl) (by decide) ?_
          have b377 : IV x11 11 11 := ⟨by omega, by omega⟩
          refine m_aload_n C dL_law_531 rfl rfl ?_
          refine m_callV (n := 0) (ci := 10) (st := []) C (c_X11_undo l G τ  iτ ) (by decide) (by decide) rfl rfl rfl q3_106 q3_103 q3_104 q3_105 q1_1 (by decide +kernel) rfl (by decide) ⟨by show (250 + 8 * y3.toInt.toNat) + 0 ≤ 600000; omega, by show (5300 + 24 * y3.toInt.toNat) + 0 ≤ 7302250; omega⟩ rfl (Nat.le_of_ble_eq_true rfl) dL_law_532 ?_
          rintro _ τ378 ⟨x381, rfl, i379, f380, b382⟩
          have r385 : Rel τ378 := rτ.call f380 (by decide) (by decide)
          have r386 : RI τ378 := jτ.call f380 (by decide) (by decide)
          show MW p l e _ s m _ below meth c _ 4 G (250 + 8 * y3.toInt.toNat) (5300 + 24 * y3.toInt.toNat) 535 [some (.ref b), some (.ref (G.1 0 0)), some (.ref (G.1 22 0)), some (.int y3)] [.int x381] τ378
          refine m_pop C dL_law_535 rfl ?_
          refine m_aload_n C dL_law_536 rfl rfl ?_
          refine m_callV (n := 0) (ci := 11) (st := []) C (c_X12_undo l G τ378  i379 ) (by decide) (by decide) rfl rfl rfl q5_111 q5_108 q5_109 q5_110 q1_7 (by decide +kernel) rfl (by decide) ⟨by show (250 + 8 * y3.toInt.toNat) + 0 ≤ 600000; omega, by show (5300 + 24 * y3.toInt.toNat) + 0 ≤ 7302250; omega⟩ rfl (Nat.le_of_ble_eq_true rfl) dL_law_537 ?_
          rintro _ τ387 ⟨x390, rfl, i388, f389, b391⟩
          have r394 : Rel τ387 := r385.call f389 (by decide) (by decide)
          have r395 : RI τ387 := r386.call f389 (by decide) (by decide)
          show MW p l e _ s m _ below meth c _ 4 G (250 + 8 * y3.toInt.toNat) (5300 + 24 * y3.toInt.toNat) 540 [some (.ref b), some (.ref (G.1 0 0)), some (.ref (G.1 22 0)), some (.int y3)] [.int x390] τ387
          refine m_pop C dL_law_540 rfl ?_
          refine m_goto (tgt := 1028) C dL_law_541 (by decide) ?_
          obtain ⟨x396, ex396⟩ : ∃ y : Int32, y = y3 + 6 := ⟨_, rfl⟩
          have tx396 : x396.toInt = y3.toInt + 6 := by rw [ex396, ti_addv b8 kc_6 (by decide), kt_6]
          have b397 : IV x396 6 3072 := by rw [ex396]; exact iv_add b8 kc_6 (by decide)
          refine m_iinc (v := x396) (L1 := [some (.ref b), some (.ref (G.1 0 0)), some (.ref (G.1 22 0)), some (.int x396)]) C dL_law_1028 rfl (by rw [ex396]; rfl) (by decide) rfl rfl ?_
          refine m_goto (tgt := 18) C dL_law_1031 (by decide) ?_
          refine m_widen (c2 := 250 + 8 * x396.toInt.toNat) (s2 := 5300 + 24 * x396.toInt.toNat) (by omega) (by omega) ?_
          exact ih18 τ387 x396 i388 r394 r395 (iv_wk b397 (by decide)) (by have q := hm18; omega)
        by_cases s398 : x11.toInt = 12
        · refine m_tableIn (tgt := 544) (off := 511) C dL_law_33 (by omega) (by omega) (by rw [s398]; rfl) (by decide) ?_
          have b399 : IV x11 12 12 := ⟨by omega, by omega⟩
          refine m_aload_n C dL_law_544 rfl rfl ?_
          refine m_aload_n C dL_law_545 rfl rfl ?_
          refine m_iload_n C dL_law_546 rfl rfl ?_
          refine m_iconst (v := 1) C dL_law_547 (by decide) ?_
          refine m_iadd C dL_law_548 ?_
          refine m_topi (fun x400 ex400 => ?_)
          have tx400 : x400.toInt = y3.toInt + 1 := by rw [ex400, ti_addv b8 kc_1 (by decide), kt_1]
          have b401 : IV x400 1 3067 := by rw [ex400]; exact iv_add b8 kc_1 (by decide)
          refine m_sld C hX hbl hbA ⟨by omega, by omega⟩ dL_law_549 ?_
          refine m_topi (fun x402 ex402 => ?_)
          refine m_aload_n C dL_law_550 rfl rfl ?_
          refine m_iload_n C dL_law_551 rfl rfl ?_
          refine m_iconst (v := 2) C dL_law_552 (by decide) ?_
          refine m_iadd C dL_law_553 ?_
          refine m_topi (fun x403 ex403 => ?_)
          have tx403 : x403.toInt = y3.toInt + 2 := by rw [ex403, ti_addv b8 kc_2 (by decide), kt_2]
          have b404 : IV x403 2 3068 := by rw [ex403]; exact iv_add b8 kc_2 (by decide)
          refine m_sld C hX hbl hbA ⟨by omega, by omega⟩ dL_law_554 ?_
          refine m_topi (fun x405 ex405 => ?_)
          refine m_callV (n := 2) (ci := 10) (st := []) C (c_X11_person l G τ (x402) (x405) iτ ) (by decide) (by decide) rfl rfl rfl q3_110 q3_107 q3_108 q3_109 q1_1 (by decide +kernel) rfl (by decide) ⟨by show (250 + 8 * y3.toInt.toNat) + 0 ≤ 600000; omega, by show (5300 + 24 * y3.toInt.toNat) + 0 ≤ 7302250; omega⟩ rfl (Nat.le_of_ble_eq_true rfl) dL_law_555 ?_
          rintro _ τ406 ⟨x409, rfl, i407, f408, b410⟩
          have r413 : Rel τ406 := rτ.call f408 (by decide) (by decide)
          have r414 : RI τ406 := jτ.call f408 (by decide) (by decide)
          show MW p l e _ s m _ below meth c _ 4 G (250 + 8 * y3.toInt.toNat) (5300 + 24 * y3.toInt.toNat) 558 [some (.ref b), some (.ref (G.1 0 0)), some (.ref (G.1 22 0)), some (.int y3)] [.int x409] τ406
          refine m_pop C dL_law_558 rfl ?_
          refine m_aload_n C dL_law_559 rfl rfl ?_
          refine m_aload_n C dL_law_560 rfl rfl ?_
          refine m_iload_n C dL_law_561 rfl rfl ?_
          refine m_iconst (v := 1) C dL_law_562 (by decide) ?_
          refine m_iadd C dL_law_563 ?_
          refine m_topi (fun x415 ex415 => ?_)
          have tx415 : x415.toInt = y3.toInt + 1 := by rw [ex415, ti_addv b8 kc_1 (by decide), kt_1]
          have b416 : IV x415 1 3067 := by rw [ex415]; exact iv_add b8 kc_1 (by decide)
          refine m_sld C hX hbl hbA ⟨by omega, by omega⟩ dL_law_564 ?_
          refine m_eqs (w := x402) (by rw [ex402, show x415.toInt.toNat = x400.toInt.toNat by omega]) ?_
          refine m_aload_n C dL_law_565 rfl rfl ?_
          refine m_iload_n C dL_law_566 rfl rfl ?_
          refine m_iconst (v := 2) C dL_law_567 (by decide) ?_
          refine m_iadd C dL_law_568 ?_
          refine m_topi (fun x417 ex417 => ?_)
          have tx417 : x417.toInt = y3.toInt + 2 := by rw [ex417, ti_addv b8 kc_2 (by decide), kt_2]
          have b418 : IV x417 2 3068 := by rw [ex417]; exact iv_add b8 kc_2 (by decide)
          refine m_sld C hX hbl hbA ⟨by omega, by omega⟩ dL_law_569 ?_
          refine m_eqs (w := x405) (by rw [ex405, show x417.toInt.toNat = x403.toInt.toNat by omega]) ?_
          refine m_callV (n := 2) (ci := 11) (st := []) C (c_X12_person l G τ406 (x402) (x405) i407 ) (by decide) (by decide) rfl rfl rfl q5_115 q5_112 q5_113 q5_114 q1_7 (by decide +kernel) rfl (by decide) ⟨by show (250 + 8 * y3.toInt.toNat) + 0 ≤ 600000; omega, by show (5300 + 24 * y3.toInt.toNat) + 0 ≤ 7302250; omega⟩ rfl (Nat.le_of_ble_eq_true rfl) dL_law_570 ?_
          rintro _ τ419 ⟨x422, rfl, i420, f421, b423⟩
          have r426 : Rel τ419 := r413.call f421 (by decide) (by decide)
          have r427 : RI τ419 := r414.call f421 (by decide) (by decide)
          show MW p l e _ s m _ below meth c _ 4 G (250 + 8 * y3.toInt.toNat) (5300 + 24 * y3.toInt.toNat) 573 [some (.ref b), some (.ref (G.1 0 0)), some (.ref (G.1 22 0)), some (.int y3)] [.int x422] τ419
          refine m_pop C dL_law_573 rfl ?_
          refine m_goto (tgt := 1028) C dL_law_574 (by decide) ?_
          obtain ⟨x428, ex428⟩ : ∃ y : Int32, y = y3 + 6 := ⟨_, rfl⟩
          have tx428 : x428.toInt = y3.toInt + 6 := by rw [ex428, ti_addv b8 kc_6 (by decide), kt_6]
          have b429 : IV x428 6 3072 := by rw [ex428]; exact iv_add b8 kc_6 (by decide)
          refine m_iinc (v := x428) (L1 := [some (.ref b), some (.ref (G.1 0 0)), some (.ref (G.1 22 0)), some (.int x428)]) C dL_law_1028 rfl (by rw [ex428]; rfl) (by decide) rfl rfl ?_
          refine m_goto (tgt := 18) C dL_law_1031 (by decide) ?_
          refine m_widen (c2 := 250 + 8 * x428.toInt.toNat) (s2 := 5300 + 24 * x428.toInt.toNat) (by omega) (by omega) ?_
          exact ih18 τ419 x428 i420 r426 r427 (iv_wk b429 (by decide)) (by have q := hm18; omega)
        by_cases s430 : x11.toInt = 13
        · refine m_tableIn (tgt := 577) (off := 544) C dL_law_33 (by omega) (by omega) (by rw [s430]; rfl) (by decide) ?_
          have b431 : IV x11 13 13 := ⟨by omega, by omega⟩
          refine m_aload_n C dL_law_577 rfl rfl ?_
          refine m_aload_n C dL_law_578 rfl rfl ?_
          refine m_iload_n C dL_law_579 rfl rfl ?_
          refine m_iconst (v := 1) C dL_law_580 (by decide) ?_
          refine m_iadd C dL_law_581 ?_
          refine m_topi (fun x432 ex432 => ?_)
          have tx432 : x432.toInt = y3.toInt + 1 := by rw [ex432, ti_addv b8 kc_1 (by decide), kt_1]
          have b433 : IV x432 1 3067 := by rw [ex432]; exact iv_add b8 kc_1 (by decide)
          refine m_sld C hX hbl hbA ⟨by omega, by omega⟩ dL_law_582 ?_
          refine m_topi (fun x434 ex434 => ?_)
          refine m_callV (n := 1) (ci := 10) (st := []) C (c_X11_lean l G τ (x434) iτ ) (by decide) (by decide) rfl rfl rfl q3_120 q3_117 q3_118 q3_119 q1_1 (by decide +kernel) rfl (by decide) ⟨by show (250 + 8 * y3.toInt.toNat) + 0 ≤ 600000; omega, by show (5300 + 24 * y3.toInt.toNat) + 0 ≤ 7302250; omega⟩ rfl (Nat.le_of_ble_eq_true rfl) dL_law_583 ?_
          rintro _ τ435 ⟨x438, rfl, i436, f437, b439⟩
          have r442 : Rel τ435 := rτ.call f437 (by decide) (by decide)
          have r443 : RI τ435 := jτ.call f437 (by decide) (by decide)
          show MW p l e _ s m _ below meth c _ 4 G (250 + 8 * y3.toInt.toNat) (5300 + 24 * y3.toInt.toNat) 586 [some (.ref b), some (.ref (G.1 0 0)), some (.ref (G.1 22 0)), some (.int y3)] [.int x438] τ435
          refine m_pop C dL_law_586 rfl ?_
          refine m_aload_n C dL_law_587 rfl rfl ?_
          refine m_aload_n C dL_law_588 rfl rfl ?_
          refine m_iload_n C dL_law_589 rfl rfl ?_
          refine m_iconst (v := 1) C dL_law_590 (by decide) ?_
          refine m_iadd C dL_law_591 ?_
          refine m_topi (fun x444 ex444 => ?_)
          have tx444 : x444.toInt = y3.toInt + 1 := by rw [ex444, ti_addv b8 kc_1 (by decide), kt_1]
          have b445 : IV x444 1 3067 := by rw [ex444]; exact iv_add b8 kc_1 (by decide)
          refine m_sld C hX hbl hbA ⟨by omega, by omega⟩ dL_law_592 ?_
          refine m_eqs (w := x434) (by rw [ex434, show x444.toInt.toNat = x432.toInt.toNat by omega]) ?_
          refine m_callV (n := 1) (ci := 11) (st := []) C (c_X12_lean l G τ435 (x434) i436 ) (by decide) (by decide) rfl rfl rfl q5_120 q5_117 q5_118 q5_119 q1_7 (by decide +kernel) rfl (by decide) ⟨by show (250 + 8 * y3.toInt.toNat) + 0 ≤ 600000; omega, by show (5300 + 24 * y3.toInt.toNat) + 0 ≤ 7302250; omega⟩ rfl (Nat.le_of_ble_eq_true rfl) dL_law_593 ?_
          rintro _ τ446 ⟨x449, rfl, i447, f448, b450⟩
          have r453 : Rel τ446 := r442.call f448 (by decide) (by decide)
          have r454 : RI τ446 := r443.call f448 (by decide) (by decide)
          show MW p l e _ s m _ below meth c _ 4 G (250 + 8 * y3.toInt.toNat) (5300 + 24 * y3.toInt.toNat) 596 [some (.ref b), some (.ref (G.1 0 0)), some (.ref (G.1 22 0)), some (.int y3)] [.int x449] τ446
          refine m_pop C dL_law_596 rfl ?_
          refine m_goto (tgt := 1028) C dL_law_597 (by decide) ?_
          obtain ⟨x455, ex455⟩ : ∃ y : Int32, y = y3 + 6 := ⟨_, rfl⟩
          have tx455 : x455.toInt = y3.toInt + 6 := by rw [ex455, ti_addv b8 kc_6 (by decide), kt_6]
          have b456 : IV x455 6 3072 := by rw [ex455]; exact iv_add b8 kc_6 (by decide)
          refine m_iinc (v := x455) (L1 := [some (.ref b), some (.ref (G.1 0 0)), some (.ref (G.1 22 0)), some (.int x455)]) C dL_law_1028 rfl (by rw [ex455]; rfl) (by decide) rfl rfl ?_
          refine m_goto (tgt := 18) C dL_law_1031 (by decide) ?_
          refine m_widen (c2 := 250 + 8 * x455.toInt.toNat) (s2 := 5300 + 24 * x455.toInt.toNat) (by omega) (by omega) ?_
          exact ih18 τ446 x455 i447 r453 r454 (iv_wk b456 (by decide)) (by have q := hm18; omega)
        by_cases s457 : x11.toInt = 14
        · refine m_tableIn (tgt := 600) (off := 567) C dL_law_33 (by omega) (by omega) (by rw [s457]; rfl) (by decide) ?_
          have b458 : IV x11 14 14 := ⟨by omega, by omega⟩
          refine m_aload_n C dL_law_600 rfl rfl ?_
          refine m_aload_n C dL_law_601 rfl rfl ?_
          refine m_iload_n C dL_law_602 rfl rfl ?_
          refine m_iconst (v := 1) C dL_law_603 (by decide) ?_
          refine m_iadd C dL_law_604 ?_
          refine m_topi (fun x459 ex459 => ?_)
          have tx459 : x459.toInt = y3.toInt + 1 := by rw [ex459, ti_addv b8 kc_1 (by decide), kt_1]
          have b460 : IV x459 1 3067 := by rw [ex459]; exact iv_add b8 kc_1 (by decide)
          refine m_sld C hX hbl hbA ⟨by omega, by omega⟩ dL_law_605 ?_
          refine m_topi (fun x461 ex461 => ?_)
          refine m_callV (n := 1) (ci := 10) (st := []) C (c_X11_worst l G τ (x461) iτ ) (by decide) (by decide) rfl rfl rfl q3_125 q3_122 q3_123 q3_124 q1_1 (by decide +kernel) rfl (by decide) ⟨by show (250 + 8 * y3.toInt.toNat) + 0 ≤ 600000; omega, by show (5300 + 24 * y3.toInt.toNat) + 0 ≤ 7302250; omega⟩ rfl (Nat.le_of_ble_eq_true rfl) dL_law_606 ?_
          rintro _ τ462 ⟨x465, rfl, i463, f464, b466⟩
          have r469 : Rel τ462 := rτ.call f464 (by decide) (by decide)
          have r470 : RI τ462 := jτ.call f464 (by decide) (by decide)
          show MW p l e _ s m _ below meth c _ 4 G (250 + 8 * y3.toInt.toNat) (5300 + 24 * y3.toInt.toNat) 609 [some (.ref b), some (.ref (G.1 0 0)), some (.ref (G.1 22 0)), some (.int y3)] [.int x465] τ462
          refine m_pop C dL_law_609 rfl ?_
          refine m_aload_n C dL_law_610 rfl rfl ?_
          refine m_aload_n C dL_law_611 rfl rfl ?_
          refine m_iload_n C dL_law_612 rfl rfl ?_
          refine m_iconst (v := 1) C dL_law_613 (by decide) ?_
          refine m_iadd C dL_law_614 ?_
          refine m_topi (fun x471 ex471 => ?_)
          have tx471 : x471.toInt = y3.toInt + 1 := by rw [ex471, ti_addv b8 kc_1 (by decide), kt_1]
          have b472 : IV x471 1 3067 := by rw [ex471]; exact iv_add b8 kc_1 (by decide)
          refine m_sld C hX hbl hbA ⟨by omega, by omega⟩ dL_law_615 ?_
          refine m_eqs (w := x461) (by rw [ex461, show x471.toInt.toNat = x459.toInt.toNat by omega]) ?_
          refine m_callV (n := 1) (ci := 11) (st := []) C (c_X12_worst l G τ462 (x461) i463 ) (by decide) (by decide) rfl rfl rfl q5_124 q5_121 q5_122 q5_123 q1_7 (by decide +kernel) rfl (by decide) ⟨by show (250 + 8 * y3.toInt.toNat) + 0 ≤ 600000; omega, by show (5300 + 24 * y3.toInt.toNat) + 0 ≤ 7302250; omega⟩ rfl (Nat.le_of_ble_eq_true rfl) dL_law_616 ?_
          rintro _ τ473 ⟨x476, rfl, i474, f475, b477⟩
          have r480 : Rel τ473 := r469.call f475 (by decide) (by decide)
          have r481 : RI τ473 := r470.call f475 (by decide) (by decide)
          show MW p l e _ s m _ below meth c _ 4 G (250 + 8 * y3.toInt.toNat) (5300 + 24 * y3.toInt.toNat) 619 [some (.ref b), some (.ref (G.1 0 0)), some (.ref (G.1 22 0)), some (.int y3)] [.int x476] τ473
          refine m_pop C dL_law_619 rfl ?_
          refine m_goto (tgt := 1028) C dL_law_620 (by decide) ?_
          obtain ⟨x482, ex482⟩ : ∃ y : Int32, y = y3 + 6 := ⟨_, rfl⟩
          have tx482 : x482.toInt = y3.toInt + 6 := by rw [ex482, ti_addv b8 kc_6 (by decide), kt_6]
          have b483 : IV x482 6 3072 := by rw [ex482]; exact iv_add b8 kc_6 (by decide)
          refine m_iinc (v := x482) (L1 := [some (.ref b), some (.ref (G.1 0 0)), some (.ref (G.1 22 0)), some (.int x482)]) C dL_law_1028 rfl (by rw [ex482]; rfl) (by decide) rfl rfl ?_
          refine m_goto (tgt := 18) C dL_law_1031 (by decide) ?_
          refine m_widen (c2 := 250 + 8 * x482.toInt.toNat) (s2 := 5300 + 24 * x482.toInt.toNat) (by omega) (by omega) ?_
          exact ih18 τ473 x482 i474 r480 r481 (iv_wk b483 (by decide)) (by have q := hm18; omega)
        by_cases s484 : x11.toInt = 15
        · refine m_tableIn (tgt := 623) (off := 590) C dL_law_33 (by omega) (by omega) (by rw [s484]; rfl) (by decide) ?_
          have b485 : IV x11 15 15 := ⟨by omega, by omega⟩
          refine m_aload_n C dL_law_623 rfl rfl ?_
          refine m_callV (n := 0) (ci := 10) (st := []) C (c_X11_most l G τ  iτ ) (by decide) (by decide) rfl rfl rfl q3_139 q3_136 q3_137 q3_138 q1_1 (by decide +kernel) rfl (by decide) ⟨by show (250 + 8 * y3.toInt.toNat) + 0 ≤ 600000; omega, by show (5300 + 24 * y3.toInt.toNat) + 0 ≤ 7302250; omega⟩ rfl (Nat.le_of_ble_eq_true rfl) dL_law_624 ?_
          rintro _ τ486 ⟨x489, rfl, i487, f488, b490⟩
          have r493 : Rel τ486 := rτ.call f488 (by decide) (by decide)
          have r494 : RI τ486 := jτ.call f488 (by decide) (by decide)
          show MW p l e _ s m _ below meth c _ 4 G (250 + 8 * y3.toInt.toNat) (5300 + 24 * y3.toInt.toNat) 627 [some (.ref b), some (.ref (G.1 0 0)), some (.ref (G.1 22 0)), some (.int y3)] [.int x489] τ486
          refine m_pop C dL_law_627 rfl ?_
          refine m_aload_n C dL_law_628 rfl rfl ?_
          refine m_callV (n := 0) (ci := 11) (st := []) C (c_X12_most l G τ486  i487 ) (by decide) (by decide) rfl rfl rfl q5_136 q5_133 q5_134 q5_135 q1_7 (by decide +kernel) rfl (by decide) ⟨by show (250 + 8 * y3.toInt.toNat) + 0 ≤ 600000; omega, by show (5300 + 24 * y3.toInt.toNat) + 0 ≤ 7302250; omega⟩ rfl (Nat.le_of_ble_eq_true rfl) dL_law_629 ?_
          rintro _ τ495 ⟨x498, rfl, i496, f497, b499⟩
          have r502 : Rel τ495 := r493.call f497 (by decide) (by decide)
          have r503 : RI τ495 := r494.call f497 (by decide) (by decide)
          show MW p l e _ s m _ below meth c _ 4 G (250 + 8 * y3.toInt.toNat) (5300 + 24 * y3.toInt.toNat) 632 [some (.ref b), some (.ref (G.1 0 0)), some (.ref (G.1 22 0)), some (.int y3)] [.int x498] τ495
          refine m_pop C dL_law_632 rfl ?_
          refine m_goto (tgt := 1028) C dL_law_633 (by decide) ?_
          obtain ⟨x504, ex504⟩ : ∃ y : Int32, y = y3 + 6 := ⟨_, rfl⟩
          have tx504 : x504.toInt = y3.toInt + 6 := by rw [ex504, ti_addv b8 kc_6 (by decide), kt_6]
          have b505 : IV x504 6 3072 := by rw [ex504]; exact iv_add b8 kc_6 (by decide)
          refine m_iinc (v := x504) (L1 := [some (.ref b), some (.ref (G.1 0 0)), some (.ref (G.1 22 0)), some (.int x504)]) C dL_law_1028 rfl (by rw [ex504]; rfl) (by decide) rfl rfl ?_
          refine m_goto (tgt := 18) C dL_law_1031 (by decide) ?_
          refine m_widen (c2 := 250 + 8 * x504.toInt.toNat) (s2 := 5300 + 24 * x504.toInt.toNat) (by omega) (by omega) ?_
          exact ih18 τ495 x504 i496 r502 r503 (iv_wk b505 (by decide)) (by have q := hm18; omega)
        by_cases s506 : x11.toInt = 16
        · refine m_tableIn (tgt := 636) (off := 603) C dL_law_33 (by omega) (by omega) (by rw [s506]; rfl) (by decide) ?_
          have b507 : IV x11 16 16 := ⟨by omega, by omega⟩
          refine m_aload_n C dL_law_636 rfl rfl ?_
          refine m_aload_n C dL_law_637 rfl rfl ?_
          refine m_iload_n C dL_law_638 rfl rfl ?_
          refine m_iconst (v := 1) C dL_law_639 (by decide) ?_
          refine m_iadd C dL_law_640 ?_
          refine m_topi (fun x508 ex508 => ?_)
          have tx508 : x508.toInt = y3.toInt + 1 := by rw [ex508, ti_addv b8 kc_1 (by decide), kt_1]
          have b509 : IV x508 1 3067 := by rw [ex508]; exact iv_add b8 kc_1 (by decide)
          refine m_sld C hX hbl hbA ⟨by omega, by omega⟩ dL_law_641 ?_
          refine m_topi (fun x510 ex510 => ?_)
          refine m_aload_n C dL_law_642 rfl rfl ?_
          refine m_iload_n C dL_law_643 rfl rfl ?_
          refine m_iconst (v := 2) C dL_law_644 (by decide) ?_
          refine m_iadd C dL_law_645 ?_
          refine m_topi (fun x511 ex511 => ?_)
          have tx511 : x511.toInt = y3.toInt + 2 := by rw [ex511, ti_addv b8 kc_2 (by decide), kt_2]
          have b512 : IV x511 2 3068 := by rw [ex511]; exact iv_add b8 kc_2 (by decide)
          refine m_sld C hX hbl hbA ⟨by omega, by omega⟩ dL_law_646 ?_
          refine m_topi (fun x513 ex513 => ?_)
          refine m_aload_n C dL_law_647 rfl rfl ?_
          refine m_iload_n C dL_law_648 rfl rfl ?_
          refine m_iconst (v := 3) C dL_law_649 (by decide) ?_
          refine m_iadd C dL_law_650 ?_
          refine m_topi (fun x514 ex514 => ?_)
          have tx514 : x514.toInt = y3.toInt + 3 := by rw [ex514, ti_addv b8 kc_3 (by decide), kt_3]
          have b515 : IV x514 3 3069 := by rw [ex514]; exact iv_add b8 kc_3 (by decide)
          refine m_sld C hX hbl hbA ⟨by omega, by omega⟩ dL_law_651 ?_
          refine m_topi (fun x516 ex516 => ?_)
          refine m_callV (n := 3) (ci := 10) (st := []) C (c_X11_two l G τ (x510) (x513) (x516) iτ ) (by decide) (by decide) rfl rfl rfl q3_157 q3_154 q3_155 q3_156 q1_1 (by decide +kernel) rfl (by decide) ⟨by show (250 + 8 * y3.toInt.toNat) + 0 ≤ 600000; omega, by show (5300 + 24 * y3.toInt.toNat) + 0 ≤ 7302250; omega⟩ rfl (Nat.le_of_ble_eq_true rfl) dL_law_652 ?_
          rintro _ τ517 ⟨x520, rfl, i518, f519, b521⟩
          have r524 : Rel τ517 := rτ.call f519 (by decide) (by decide)
          have r525 : RI τ517 := jτ.call f519 (by decide) (by decide)
          show MW p l e _ s m _ below meth c _ 4 G (250 + 8 * y3.toInt.toNat) (5300 + 24 * y3.toInt.toNat) 655 [some (.ref b), some (.ref (G.1 0 0)), some (.ref (G.1 22 0)), some (.int y3)] [.int x520] τ517
          refine m_pop C dL_law_655 rfl ?_
          refine m_aload_n C dL_law_656 rfl rfl ?_
          refine m_aload_n C dL_law_657 rfl rfl ?_
          refine m_iload_n C dL_law_658 rfl rfl ?_
          refine m_iconst (v := 1) C dL_law_659 (by decide) ?_
          refine m_iadd C dL_law_660 ?_
          refine m_topi (fun x526 ex526 => ?_)
          have tx526 : x526.toInt = y3.toInt + 1 := by rw [ex526, ti_addv b8 kc_1 (by decide), kt_1]
          have b527 : IV x526 1 3067 := by rw [ex526]; exact iv_add b8 kc_1 (by decide)
          refine m_sld C hX hbl hbA ⟨by omega, by omega⟩ dL_law_661 ?_
          refine m_eqs (w := x510) (by rw [ex510, show x526.toInt.toNat = x508.toInt.toNat by omega]) ?_
          refine m_aload_n C dL_law_662 rfl rfl ?_
          refine m_iload_n C dL_law_663 rfl rfl ?_
          refine m_iconst (v := 2) C dL_law_664 (by decide) ?_
          refine m_iadd C dL_law_665 ?_
          refine m_topi (fun x528 ex528 => ?_)
          have tx528 : x528.toInt = y3.toInt + 2 := by rw [ex528, ti_addv b8 kc_2 (by decide), kt_2]
          have b529 : IV x528 2 3068 := by rw [ex528]; exact iv_add b8 kc_2 (by decide)
          refine m_sld C hX hbl hbA ⟨by omega, by omega⟩ dL_law_666 ?_
          refine m_eqs (w := x513) (by rw [ex513, show x528.toInt.toNat = x511.toInt.toNat by omega]) ?_
          refine m_aload_n C dL_law_667 rfl rfl ?_
          refine m_iload_n C dL_law_668 rfl rfl ?_
          refine m_iconst (v := 3) C dL_law_669 (by decide) ?_
          refine m_iadd C dL_law_670 ?_
          refine m_topi (fun x530 ex530 => ?_)
          have tx530 : x530.toInt = y3.toInt + 3 := by rw [ex530, ti_addv b8 kc_3 (by decide), kt_3]
          have b531 : IV x530 3 3069 := by rw [ex530]; exact iv_add b8 kc_3 (by decide)
          refine m_sld C hX hbl hbA ⟨by omega, by omega⟩ dL_law_671 ?_
          refine m_eqs (w := x516) (by rw [ex516, show x530.toInt.toNat = x514.toInt.toNat by omega]) ?_
          refine m_callV (n := 3) (ci := 11) (st := []) C (c_X12_two l G τ517 (x510) (x513) (x516) i518 ) (by decide) (by decide) rfl rfl rfl q5_146 q5_143 q5_144 q5_145 q1_7 (by decide +kernel) rfl (by decide) ⟨by show (250 + 8 * y3.toInt.toNat) + 0 ≤ 600000; omega, by show (5300 + 24 * y3.toInt.toNat) + 0 ≤ 7302250; omega⟩ rfl (Nat.le_of_ble_eq_true rfl) dL_law_672 ?_
          rintro _ τ532 ⟨x535, rfl, i533, f534, b536⟩
          have r539 : Rel τ532 := r524.call f534 (by decide) (by decide)
          have r540 : RI τ532 := r525.call f534 (by decide) (by decide)
          show MW p l e _ s m _ below meth c _ 4 G (250 + 8 * y3.toInt.toNat) (5300 + 24 * y3.toInt.toNat) 675 [some (.ref b), some (.ref (G.1 0 0)), some (.ref (G.1 22 0)), some (.int y3)] [.int x535] τ532
          refine m_pop C dL_law_675 rfl ?_
          refine m_goto (tgt := 1028) C dL_law_676 (by decide) ?_
          obtain ⟨x541, ex541⟩ : ∃ y : Int32, y = y3 + 6 := ⟨_, rfl⟩
          have tx541 : x541.toInt = y3.toInt + 6 := by rw [ex541, ti_addv b8 kc_6 (by decide), kt_6]
          have b542 : IV x541 6 3072 := by rw [ex541]; exact iv_add b8 kc_6 (by decide)
          refine m_iinc (v := x541) (L1 := [some (.ref b), some (.ref (G.1 0 0)), some (.ref (G.1 22 0)), some (.int x541)]) C dL_law_1028 rfl (by rw [ex541]; rfl) (by decide) rfl rfl ?_
          refine m_goto (tgt := 18) C dL_law_1031 (by decide) ?_
          refine m_widen (c2 := 250 + 8 * x541.toInt.toNat) (s2 := 5300 + 24 * x541.toInt.toNat) (by omega) (by omega) ?_
          exact ih18 τ532 x541 i533 r539 r540 (iv_wk b542 (by decide)) (by have q := hm18; omega)
        by_cases s543 : x11.toInt = 17
        · refine m_tableIn (tgt := 679) (off := 646) C dL_law_33 (by omega) (by omega) (by rw [s543]; rfl) (by decide) ?_
          have b544 : IV x11 17 17 := ⟨by omega, by omega⟩
          refine m_aload_n C dL_law_679 rfl rfl ?_
          refine m_aload_n C dL_law_680 rfl rfl ?_
          refine m_iload_n C dL_law_681 rfl rfl ?_
          refine m_iconst (v := 1) C dL_law_682 (by decide) ?_
          refine m_iadd C dL_law_683 ?_
          refine m_topi (fun x545 ex545 => ?_)
          have tx545 : x545.toInt = y3.toInt + 1 := by rw [ex545, ti_addv b8 kc_1 (by decide), kt_1]
          have b546 : IV x545 1 3067 := by rw [ex545]; exact iv_add b8 kc_1 (by decide)
          refine m_sld C hX hbl hbA ⟨by omega, by omega⟩ dL_law_684 ?_
          refine m_topi (fun x547 ex547 => ?_)
          refine m_callV (n := 1) (ci := 10) (st := []) C (c_X11_stones l G τ (x547) iτ ) (by decide) (by decide) rfl rfl rfl q3_170 q3_167 q3_168 q3_169 q1_1 (by decide +kernel) rfl (by decide) ⟨by show (250 + 8 * y3.toInt.toNat) + 0 ≤ 600000; omega, by show (5300 + 24 * y3.toInt.toNat) + 0 ≤ 7302250; omega⟩ rfl (Nat.le_of_ble_eq_true rfl) dL_law_685 ?_
          rintro _ τ548 ⟨x551, rfl, i549, f550, b552⟩
          have r555 : Rel τ548 := rτ.call f550 (by decide) (by decide)
          have r556 : RI τ548 := jτ.call f550 (by decide) (by decide)
          show MW p l e _ s m _ below meth c _ 4 G (250 + 8 * y3.toInt.toNat) (5300 + 24 * y3.toInt.toNat) 688 [some (.ref b), some (.ref (G.1 0 0)), some (.ref (G.1 22 0)), some (.int y3)] [.int x551] τ548
          refine m_pop C dL_law_688 rfl ?_
          refine m_aload_n C dL_law_689 rfl rfl ?_
          refine m_aload_n C dL_law_690 rfl rfl ?_
          refine m_iload_n C dL_law_691 rfl rfl ?_
          refine m_iconst (v := 1) C dL_law_692 (by decide) ?_
          refine m_iadd C dL_law_693 ?_
          refine m_topi (fun x557 ex557 => ?_)
          have tx557 : x557.toInt = y3.toInt + 1 := by rw [ex557, ti_addv b8 kc_1 (by decide), kt_1]
          have b558 : IV x557 1 3067 := by rw [ex557]; exact iv_add b8 kc_1 (by decide)
          refine m_sld C hX hbl hbA ⟨by omega, by omega⟩ dL_law_694 ?_
          refine m_eqs (w := x547) (by rw [ex547, show x557.toInt.toNat = x545.toInt.toNat by omega]) ?_
          refine m_callV (n := 1) (ci := 11) (st := []) C (c_X12_stones l G τ548 (x547) i549 ) (by decide) (by decide) rfl rfl rfl q5_150 q5_147 q5_148 q5_149 q1_7 (by decide +kernel) rfl (by decide) ⟨by show (250 + 8 * y3.toInt.toNat) + 0 ≤ 600000; omega, by show (5300 + 24 * y3.toInt.toNat) + 0 ≤ 7302250; omega⟩ rfl (Nat.le_of_ble_eq_true rfl) dL_law_695 ?_
          rintro _ τ559 ⟨x562, rfl, i560, f561, b563⟩
          have r566 : Rel τ559 := r555.call f561 (by decide) (by decide)
          have r567 : RI τ559 := r556.call f561 (by decide) (by decide)
          show MW p l e _ s m _ below meth c _ 4 G (250 + 8 * y3.toInt.toNat) (5300 + 24 * y3.toInt.toNat) 698 [some (.ref b), some (.ref (G.1 0 0)), some (.ref (G.1 22 0)), some (.int y3)] [.int x562] τ559
          refine m_pop C dL_law_698 rfl ?_
          refine m_goto (tgt := 1028) C dL_law_699 (by decide) ?_
          obtain ⟨x568, ex568⟩ : ∃ y : Int32, y = y3 + 6 := ⟨_, rfl⟩
          have tx568 : x568.toInt = y3.toInt + 6 := by rw [ex568, ti_addv b8 kc_6 (by decide), kt_6]
          have b569 : IV x568 6 3072 := by rw [ex568]; exact iv_add b8 kc_6 (by decide)
          refine m_iinc (v := x568) (L1 := [some (.ref b), some (.ref (G.1 0 0)), some (.ref (G.1 22 0)), some (.int x568)]) C dL_law_1028 rfl (by rw [ex568]; rfl) (by decide) rfl rfl ?_
          refine m_goto (tgt := 18) C dL_law_1031 (by decide) ?_
          refine m_widen (c2 := 250 + 8 * x568.toInt.toNat) (s2 := 5300 + 24 * x568.toInt.toNat) (by omega) (by omega) ?_
          exact ih18 τ559 x568 i560 r566 r567 (iv_wk b569 (by decide)) (by have q := hm18; omega)
        by_cases s570 : x11.toInt = 18
        · refine m_tableIn (tgt := 702) (off := 669) C dL_law_33 (by omega) (by omega) (by rw [s570]; rfl) (by decide) ?_
          have b571 : IV x11 18 18 := ⟨by omega, by omega⟩
          refine m_aload_n C dL_law_702 rfl rfl ?_
          refine m_aload_n C dL_law_703 rfl rfl ?_
          refine m_iload_n C dL_law_704 rfl rfl ?_
          refine m_iconst (v := 1) C dL_law_705 (by decide) ?_
          refine m_iadd C dL_law_706 ?_
          refine m_topi (fun x572 ex572 => ?_)
          have tx572 : x572.toInt = y3.toInt + 1 := by rw [ex572, ti_addv b8 kc_1 (by decide), kt_1]
          have b573 : IV x572 1 3067 := by rw [ex572]; exact iv_add b8 kc_1 (by decide)
          refine m_sld C hX hbl hbA ⟨by omega, by omega⟩ dL_law_707 ?_
          refine m_topi (fun x574 ex574 => ?_)
          refine m_aload_n C dL_law_708 rfl rfl ?_
          refine m_iload_n C dL_law_709 rfl rfl ?_
          refine m_iconst (v := 2) C dL_law_710 (by decide) ?_
          refine m_iadd C dL_law_711 ?_
          refine m_topi (fun x575 ex575 => ?_)
          have tx575 : x575.toInt = y3.toInt + 2 := by rw [ex575, ti_addv b8 kc_2 (by decide), kt_2]
          have b576 : IV x575 2 3068 := by rw [ex575]; exact iv_add b8 kc_2 (by decide)
          refine m_sld C hX hbl hbA ⟨by omega, by omega⟩ dL_law_712 ?_
          refine m_topi (fun x577 ex577 => ?_)
          refine m_aload_n C dL_law_713 rfl rfl ?_
          refine m_iload_n C dL_law_714 rfl rfl ?_
          refine m_iconst (v := 3) C dL_law_715 (by decide) ?_
          refine m_iadd C dL_law_716 ?_
          refine m_topi (fun x578 ex578 => ?_)
          have tx578 : x578.toInt = y3.toInt + 3 := by rw [ex578, ti_addv b8 kc_3 (by decide), kt_3]
          have b579 : IV x578 3 3069 := by rw [ex578]; exact iv_add b8 kc_3 (by decide)
          refine m_sld C hX hbl hbA ⟨by omega, by omega⟩ dL_law_717 ?_
          refine m_topi (fun x580 ex580 => ?_)
          refine m_aload_n C dL_law_718 rfl rfl ?_
          refine m_iload_n C dL_law_719 rfl rfl ?_
          refine m_iconst (v := 4) C dL_law_720 (by decide) ?_
          refine m_iadd C dL_law_721 ?_
          refine m_topi (fun x581 ex581 => ?_)
          have tx581 : x581.toInt = y3.toInt + 4 := by rw [ex581, ti_addv b8 kc_4 (by decide), kt_4]
          have b582 : IV x581 4 3070 := by rw [ex581]; exact iv_add b8 kc_4 (by decide)
          refine m_sld C hX hbl hbA ⟨by omega, by omega⟩ dL_law_722 ?_
          refine m_topi (fun x583 ex583 => ?_)
          refine m_callV (n := 4) (ci := 10) (st := []) C (c_X11_marks l G τ (x574) (x577) (x580) (x583) iτ ) (by decide) (by decide) rfl rfl rfl q3_187 q3_184 q3_185 q3_186 q1_1 (by decide +kernel) rfl (by decide) ⟨by show (250 + 8 * y3.toInt.toNat) + 0 ≤ 600000; omega, by show (5300 + 24 * y3.toInt.toNat) + 0 ≤ 7302250; omega⟩ rfl (Nat.le_of_ble_eq_true rfl) dL_law_723 ?_
          rintro _ τ584 ⟨x587, rfl, i585, f586, b588⟩
          have r591 : Rel τ584 := rτ.call f586 (by decide) (by decide)
          have r592 : RI τ584 := jτ.call f586 (by decide) (by decide)
          show MW p l e _ s m _ below meth c _ 4 G (250 + 8 * y3.toInt.toNat) (5300 + 24 * y3.toInt.toNat) 726 [some (.ref b), some (.ref (G.1 0 0)), some (.ref (G.1 22 0)), some (.int y3)] [.int x587] τ584
          refine m_pop C dL_law_726 rfl ?_
          refine m_aload_n C dL_law_727 rfl rfl ?_
          refine m_aload_n C dL_law_728 rfl rfl ?_
          refine m_iload_n C dL_law_729 rfl rfl ?_
          refine m_iconst (v := 1) C dL_law_730 (by decide) ?_
          refine m_iadd C dL_law_731 ?_
          refine m_topi (fun x593 ex593 => ?_)
          have tx593 : x593.toInt = y3.toInt + 1 := by rw [ex593, ti_addv b8 kc_1 (by decide), kt_1]
          have b594 : IV x593 1 3067 := by rw [ex593]; exact iv_add b8 kc_1 (by decide)
          refine m_sld C hX hbl hbA ⟨by omega, by omega⟩ dL_law_732 ?_
          refine m_eqs (w := x574) (by rw [ex574, show x593.toInt.toNat = x572.toInt.toNat by omega]) ?_
          refine m_aload_n C dL_law_733 rfl rfl ?_
          refine m_iload_n C dL_law_734 rfl rfl ?_
          refine m_iconst (v := 2) C dL_law_735 (by decide) ?_
          refine m_iadd C dL_law_736 ?_
          refine m_topi (fun x595 ex595 => ?_)
          have tx595 : x595.toInt = y3.toInt + 2 := by rw [ex595, ti_addv b8 kc_2 (by decide), kt_2]
          have b596 : IV x595 2 3068 := by rw [ex595]; exact iv_add b8 kc_2 (by decide)
          refine m_sld C hX hbl hbA ⟨by omega, by omega⟩ dL_law_737 ?_
          refine m_eqs (w := x577) (by rw [ex577, show x595.toInt.toNat = x575.toInt.toNat by omega]) ?_
          refine m_aload_n C dL_law_738 rfl rfl ?_
          refine m_iload_n C dL_law_739 rfl rfl ?_
          refine m_iconst (v := 3) C dL_law_740 (by decide) ?_
          refine m_iadd C dL_law_741 ?_
          refine m_topi (fun x597 ex597 => ?_)
          have tx597 : x597.toInt = y3.toInt + 3 := by rw [ex597, ti_addv b8 kc_3 (by decide), kt_3]
          have b598 : IV x597 3 3069 := by rw [ex597]; exact iv_add b8 kc_3 (by decide)
          refine m_sld C hX hbl hbA ⟨by omega, by omega⟩ dL_law_742 ?_
          refine m_eqs (w := x580) (by rw [ex580, show x597.toInt.toNat = x578.toInt.toNat by omega]) ?_
          refine m_aload_n C dL_law_743 rfl rfl ?_
          refine m_iload_n C dL_law_744 rfl rfl ?_
          refine m_iconst (v := 4) C dL_law_745 (by decide) ?_
          refine m_iadd C dL_law_746 ?_
          refine m_topi (fun x599 ex599 => ?_)
          have tx599 : x599.toInt = y3.toInt + 4 := by rw [ex599, ti_addv b8 kc_4 (by decide), kt_4]
          have b600 : IV x599 4 3070 := by rw [ex599]; exact iv_add b8 kc_4 (by decide)
          refine m_sld C hX hbl hbA ⟨by omega, by omega⟩ dL_law_747 ?_
          refine m_eqs (w := x583) (by rw [ex583, show x599.toInt.toNat = x581.toInt.toNat by omega]) ?_
          refine m_callV (n := 4) (ci := 11) (st := []) C (c_X12_marks l G τ584 (x574) (x577) (x580) (x583) i585 ) (by decide) (by decide) rfl rfl rfl q5_154 q5_151 q5_152 q5_153 q1_7 (by decide +kernel) rfl (by decide) ⟨by show (250 + 8 * y3.toInt.toNat) + 0 ≤ 600000; omega, by show (5300 + 24 * y3.toInt.toNat) + 0 ≤ 7302250; omega⟩ rfl (Nat.le_of_ble_eq_true rfl) dL_law_748 ?_
          rintro _ τ601 ⟨x604, rfl, i602, f603, b605⟩
          have r608 : Rel τ601 := r591.call f603 (by decide) (by decide)
          have r609 : RI τ601 := r592.call f603 (by decide) (by decide)
          show MW p l e _ s m _ below meth c _ 4 G (250 + 8 * y3.toInt.toNat) (5300 + 24 * y3.toInt.toNat) 751 [some (.ref b), some (.ref (G.1 0 0)), some (.ref (G.1 22 0)), some (.int y3)] [.int x604] τ601
          refine m_pop C dL_law_751 rfl ?_
          refine m_goto (tgt := 1028) C dL_law_752 (by decide) ?_
          obtain ⟨x610, ex610⟩ : ∃ y : Int32, y = y3 + 6 := ⟨_, rfl⟩
          have tx610 : x610.toInt = y3.toInt + 6 := by rw [ex610, ti_addv b8 kc_6 (by decide), kt_6]
          have b611 : IV x610 6 3072 := by rw [ex610]; exact iv_add b8 kc_6 (by decide)
          refine m_iinc (v := x610) (L1 := [some (.ref b), some (.ref (G.1 0 0)), some (.ref (G.1 22 0)), some (.int x610)]) C dL_law_1028 rfl (by rw [ex610]; rfl) (by decide) rfl rfl ?_
          refine m_goto (tgt := 18) C dL_law_1031 (by decide) ?_
          refine m_widen (c2 := 250 + 8 * x610.toInt.toNat) (s2 := 5300 + 24 * x610.toInt.toNat) (by omega) (by omega) ?_
          exact ih18 τ601 x610 i602 r608 r609 (iv_wk b611 (by decide)) (by have q := hm18; omega)
        by_cases s612 : x11.toInt = 19
        · refine m_tableIn (tgt := 755) (off := 722) C dL_law_33 (by omega) (by omega) (by rw [s612]; rfl) (by decide) ?_
          have b613 : IV x11 19 19 := ⟨by omega, by omega⟩
          refine m_aload_n C dL_law_755 rfl rfl ?_
          refine m_aload_n C dL_law_756 rfl rfl ?_
          refine m_iload_n C dL_law_757 rfl rfl ?_
          refine m_iconst (v := 1) C dL_law_758 (by decide) ?_
          refine m_iadd C dL_law_759 ?_
          refine m_topi (fun x614 ex614 => ?_)
          have tx614 : x614.toInt = y3.toInt + 1 := by rw [ex614, ti_addv b8 kc_1 (by decide), kt_1]
          have b615 : IV x614 1 3067 := by rw [ex614]; exact iv_add b8 kc_1 (by decide)
          refine m_sld C hX hbl hbA ⟨by omega, by omega⟩ dL_law_760 ?_
          refine m_topi (fun x616 ex616 => ?_)
          refine m_callV (n := 1) (ci := 10) (st := []) C (c_X11_rescue l G τ (x616) iτ ) (by decide) (by decide) rfl rfl rfl q3_202 q3_199 q3_200 q3_201 q1_1 (by decide +kernel) rfl (by decide) ⟨by show (250 + 8 * y3.toInt.toNat) + 0 ≤ 600000; omega, by show (5300 + 24 * y3.toInt.toNat) + 0 ≤ 7302250; omega⟩ rfl (Nat.le_of_ble_eq_true rfl) dL_law_761 ?_
          rintro _ τ617 ⟨x620, rfl, i618, f619, b621⟩
          have r624 : Rel τ617 := rτ.call f619 (by decide) (by decide)
          have r625 : RI τ617 := jτ.call f619 (by decide) (by decide)
          show MW p l e _ s m _ below meth c _ 4 G (250 + 8 * y3.toInt.toNat) (5300 + 24 * y3.toInt.toNat) 764 [some (.ref b), some (.ref (G.1 0 0)), some (.ref (G.1 22 0)), some (.int y3)] [.int x620] τ617
          refine m_pop C dL_law_764 rfl ?_
          refine m_aload_n C dL_law_765 rfl rfl ?_
          refine m_aload_n C dL_law_766 rfl rfl ?_
          refine m_iload_n C dL_law_767 rfl rfl ?_
          refine m_iconst (v := 1) C dL_law_768 (by decide) ?_
          refine m_iadd C dL_law_769 ?_
          refine m_topi (fun x626 ex626 => ?_)
          have tx626 : x626.toInt = y3.toInt + 1 := by rw [ex626, ti_addv b8 kc_1 (by decide), kt_1]
          have b627 : IV x626 1 3067 := by rw [ex626]; exact iv_add b8 kc_1 (by decide)
          refine m_sld C hX hbl hbA ⟨by omega, by omega⟩ dL_law_770 ?_
          refine m_eqs (w := x616) (by rw [ex616, show x626.toInt.toNat = x614.toInt.toNat by omega]) ?_
          refine m_callV (n := 1) (ci := 11) (st := []) C (c_X12_rescue l G τ617 (x616) i618 ) (by decide) (by decide) rfl rfl rfl q5_160 q5_157 q5_158 q5_159 q1_7 (by decide +kernel) rfl (by decide) ⟨by show (250 + 8 * y3.toInt.toNat) + 0 ≤ 600000; omega, by show (5300 + 24 * y3.toInt.toNat) + 0 ≤ 7302250; omega⟩ rfl (Nat.le_of_ble_eq_true rfl) dL_law_771 ?_
          rintro _ τ628 ⟨x631, rfl, i629, f630, b632⟩
          have r635 : Rel τ628 := r624.call f630 (by decide) (by decide)
          have r636 : RI τ628 := r625.call f630 (by decide) (by decide)
          show MW p l e _ s m _ below meth c _ 4 G (250 + 8 * y3.toInt.toNat) (5300 + 24 * y3.toInt.toNat) 774 [some (.ref b), some (.ref (G.1 0 0)), some (.ref (G.1 22 0)), some (.int y3)] [.int x631] τ628
          refine m_pop C dL_law_774 rfl ?_
          refine m_goto (tgt := 1028) C dL_law_775 (by decide) ?_
          obtain ⟨x637, ex637⟩ : ∃ y : Int32, y = y3 + 6 := ⟨_, rfl⟩
          have tx637 : x637.toInt = y3.toInt + 6 := by rw [ex637, ti_addv b8 kc_6 (by decide), kt_6]
          have b638 : IV x637 6 3072 := by rw [ex637]; exact iv_add b8 kc_6 (by decide)
          refine m_iinc (v := x637) (L1 := [some (.ref b), some (.ref (G.1 0 0)), some (.ref (G.1 22 0)), some (.int x637)]) C dL_law_1028 rfl (by rw [ex637]; rfl) (by decide) rfl rfl ?_
          refine m_goto (tgt := 18) C dL_law_1031 (by decide) ?_
          refine m_widen (c2 := 250 + 8 * x637.toInt.toNat) (s2 := 5300 + 24 * x637.toInt.toNat) (by omega) (by omega) ?_
          exact ih18 τ628 x637 i629 r635 r636 (iv_wk b638 (by decide)) (by have q := hm18; omega)
        by_cases s639 : x11.toInt = 20
        · refine m_tableIn (tgt := 778) (off := 745) C dL_law_33 (by omega) (by omega) (by rw [s639]; rfl) (by decide) ?_
          have b640 : IV x11 20 20 := ⟨by omega, by omega⟩
          refine m_aload_n C dL_law_778 rfl rfl ?_
          refine m_callV (n := 0) (ci := 10) (st := []) C (c_X11_fall l G τ  iτ ) (by decide) (by decide) rfl rfl rfl q3_220 q3_217 q3_218 q3_219 q1_1 (by decide +kernel) rfl (by decide) ⟨by show (250 + 8 * y3.toInt.toNat) + 0 ≤ 600000; omega, by show (5300 + 24 * y3.toInt.toNat) + 0 ≤ 7302250; omega⟩ rfl (Nat.le_of_ble_eq_true rfl) dL_law_779 ?_
          rintro _ τ641 ⟨x644, rfl, i642, f643, b645⟩
          have r648 : Rel τ641 := rτ.call f643 (by decide) (by decide)
          have r649 : RI τ641 := jτ.call f643 (by decide) (by decide)
          show MW p l e _ s m _ below meth c _ 4 G (250 + 8 * y3.toInt.toNat) (5300 + 24 * y3.toInt.toNat) 782 [some (.ref b), some (.ref (G.1 0 0)), some (.ref (G.1 22 0)), some (.int y3)] [.int x644] τ641
          refine m_pop C dL_law_782 rfl ?_
          refine m_aload_n C dL_law_783 rfl rfl ?_
          refine m_callV (n := 0) (ci := 11) (st := []) C (c_X12_fall l G τ641  i642 ) (by decide) (by decide) rfl rfl rfl q5_168 q5_165 q5_166 q5_167 q1_7 (by decide +kernel) rfl (by decide) ⟨by show (250 + 8 * y3.toInt.toNat) + 0 ≤ 600000; omega, by show (5300 + 24 * y3.toInt.toNat) + 0 ≤ 7302250; omega⟩ rfl (Nat.le_of_ble_eq_true rfl) dL_law_784 ?_
          rintro _ τ650 ⟨x653, rfl, i651, f652, b654⟩
          have r657 : Rel τ650 := r648.call f652 (by decide) (by decide)
          have r658 : RI τ650 := r649.call f652 (by decide) (by decide)
          show MW p l e _ s m _ below meth c _ 4 G (250 + 8 * y3.toInt.toNat) (5300 + 24 * y3.toInt.toNat) 787 [some (.ref b), some (.ref (G.1 0 0)), some (.ref (G.1 22 0)), some (.int y3)] [.int x653] τ650
          refine m_pop C dL_law_787 rfl ?_
          refine m_goto (tgt := 1028) C dL_law_788 (by decide) ?_
          obtain ⟨x659, ex659⟩ : ∃ y : Int32, y = y3 + 6 := ⟨_, rfl⟩
          have tx659 : x659.toInt = y3.toInt + 6 := by rw [ex659, ti_addv b8 kc_6 (by decide), kt_6]
          have b660 : IV x659 6 3072 := by rw [ex659]; exact iv_add b8 kc_6 (by decide)
          refine m_iinc (v := x659) (L1 := [some (.ref b), some (.ref (G.1 0 0)), some (.ref (G.1 22 0)), some (.int x659)]) C dL_law_1028 rfl (by rw [ex659]; rfl) (by decide) rfl rfl ?_
          refine m_goto (tgt := 18) C dL_law_1031 (by decide) ?_
          refine m_widen (c2 := 250 + 8 * x659.toInt.toNat) (s2 := 5300 + 24 * x659.toInt.toNat) (by omega) (by omega) ?_
          exact ih18 τ650 x659 i651 r657 r658 (iv_wk b660 (by decide)) (by have q := hm18; omega)
        by_cases s661 : x11.toInt = 21
        · refine m_tableIn (tgt := 791) (off := 758) C dL_law_33 (by omega) (by omega) (by rw [s661]; rfl) (by decide) ?_
          have b662 : IV x11 21 21 := ⟨by omega, by omega⟩
          refine m_aload_n C dL_law_791 rfl rfl ?_
          refine m_aload_n C dL_law_792 rfl rfl ?_
          refine m_iload_n C dL_law_793 rfl rfl ?_
          refine m_iconst (v := 1) C dL_law_794 (by decide) ?_
          refine m_iadd C dL_law_795 ?_
          refine m_topi (fun x663 ex663 => ?_)
          have tx663 : x663.toInt = y3.toInt + 1 := by rw [ex663, ti_addv b8 kc_1 (by decide), kt_1]
          have b664 : IV x663 1 3067 := by rw [ex663]; exact iv_add b8 kc_1 (by decide)
          refine m_sld C hX hbl hbA ⟨by omega, by omega⟩ dL_law_796 ?_
          refine m_topi (fun x665 ex665 => ?_)
          refine m_aload_n C dL_law_797 rfl rfl ?_
          refine m_iload_n C dL_law_798 rfl rfl ?_
          refine m_iconst (v := 2) C dL_law_799 (by decide) ?_
          refine m_iadd C dL_law_800 ?_
          refine m_topi (fun x666 ex666 => ?_)
          have tx666 : x666.toInt = y3.toInt + 2 := by rw [ex666, ti_addv b8 kc_2 (by decide), kt_2]
          have b667 : IV x666 2 3068 := by rw [ex666]; exact iv_add b8 kc_2 (by decide)
          refine m_sld C hX hbl hbA ⟨by omega, by omega⟩ dL_law_801 ?_
          refine m_topi (fun x668 ex668 => ?_)
          refine m_aload_n C dL_law_802 rfl rfl ?_
          refine m_iload_n C dL_law_803 rfl rfl ?_
          refine m_iconst (v := 3) C dL_law_804 (by decide) ?_
          refine m_iadd C dL_law_805 ?_
          refine m_topi (fun x669 ex669 => ?_)
          have tx669 : x669.toInt = y3.toInt + 3 := by rw [ex669, ti_addv b8 kc_3 (by decide), kt_3]
          have b670 : IV x669 3 3069 := by rw [ex669]; exact iv_add b8 kc_3 (by decide)
          refine m_sld C hX hbl hbA ⟨by omega, by omega⟩ dL_law_806 ?_
          refine m_topi (fun x671 ex671 => ?_)
          refine m_callV (n := 3) (ci := 10) (st := []) C (c_X11_bellsB l G τ (x665) (x668) (x671) iτ ) (by decide) (by decide) rfl rfl rfl q3_224 q3_221 q3_222 q3_223 q1_1 (by decide +kernel) rfl (by decide) ⟨by show (250 + 8 * y3.toInt.toNat) + 0 ≤ 600000; omega, by show (5300 + 24 * y3.toInt.toNat) + 0 ≤ 7302250; omega⟩ rfl (Nat.le_of_ble_eq_true rfl) dL_law_807 ?_
          rintro _ τ672 ⟨x675, rfl, i673, f674, b676, h678⟩
          have z679 := Hid.mk h678
          clear h678
          have r680 : Rel τ672 := rτ.call f674 (by decide) (by decide)
          have r681 : RI τ672 := jτ.call f674 (by decide) (by decide)
          show MW p l e _ s m _ below meth c _ 4 G (250 + 8 * y3.toInt.toNat) (5300 + 24 * y3.toInt.toNat) 810 [some (.ref b), some (.ref (G.1 0 0)), some (.ref (G.1 22 0)), some (.int y3)] [.int x675] τ672
          refine m_aload_n C dL_law_810 rfl rfl ?_
          refine m_aload_n C dL_law_811 rfl rfl ?_
          refine m_iload_n C dL_law_812 rfl rfl ?_
          refine m_iconst (v := 1) C dL_law_813 (by decide) ?_
          refine m_iadd C dL_law_814 ?_
          refine m_topi (fun x682 ex682 => ?_)
          have tx682 : x682.toInt = y3.toInt + 1 := by rw [ex682, ti_addv b8 kc_1 (by decide), kt_1]
          have b683 : IV x682 1 3067 := by rw [ex682]; exact iv_add b8 kc_1 (by decide)
          refine m_sld C hX hbl hbA ⟨by omega, by omega⟩ dL_law_815 ?_
          refine m_eqs (w := x665) (by rw [ex665, show x682.toInt.toNat = x663.toInt.toNat by omega]) ?_
          refine m_aload_n C dL_law_816 rfl rfl ?_
          refine m_iload_n C dL_law_817 rfl rfl ?_
          refine m_iconst (v := 2) C dL_law_818 (by decide) ?_
          refine m_iadd C dL_law_819 ?_
          refine m_topi (fun x684 ex684 => ?_)
          have tx684 : x684.toInt = y3.toInt + 2 := by rw [ex684, ti_addv b8 kc_2 (by decide), kt_2]
          have b685 : IV x684 2 3068 := by rw [ex684]; exact iv_add b8 kc_2 (by decide)
          refine m_sld C hX hbl hbA ⟨by omega, by omega⟩ dL_law_820 ?_
          refine m_eqs (w := x668) (by rw [ex668, show x684.toInt.toNat = x666.toInt.toNat by omega]) ?_
          refine m_aload_n C dL_law_821 rfl rfl ?_
          refine m_iload_n C dL_law_822 rfl rfl ?_
          refine m_iconst (v := 3) C dL_law_823 (by decide) ?_
          refine m_iadd C dL_law_824 ?_
          refine m_topi (fun x686 ex686 => ?_)
          have tx686 : x686.toInt = y3.toInt + 3 := by rw [ex686, ti_addv b8 kc_3 (by decide), kt_3]
          have b687 : IV x686 3 3069 := by rw [ex686]; exact iv_add b8 kc_3 (by decide)
          refine m_sld C hX hbl hbA ⟨by omega, by omega⟩ dL_law_825 ?_
          refine m_eqs (w := x671) (by rw [ex671, show x686.toInt.toNat = x669.toInt.toNat by omega]) ?_
          refine m_callV (n := 3) (ci := 11) (st := [.int x675]) C (c_X12_bellsZ l G τ672 (x665) (x668) (x671) i673 ) (by decide) (by decide) rfl rfl rfl q5_172 q5_169 q5_170 q5_171 q1_7 (by decide +kernel) rfl (by decide) ⟨by show (250 + 8 * y3.toInt.toNat) + 0 ≤ 600000; omega, by show (5300 + 24 * y3.toInt.toNat) + 0 ≤ 7302250; omega⟩ rfl (Nat.le_of_ble_eq_true rfl) dL_law_826 ?_
          rintro _ τ688 ⟨x691, rfl, i689, f690, b692, h694⟩
          have g695 := RB.bellsB (υ := τ688) rτ jτ f674 z679 h694
          have r696 : Rel τ688 := r680.call f690 (by decide) (by decide)
          have r697 : RI τ688 := r681.call f690 (by decide) (by decide)
          clear h694 z679
          show MW p l e _ s m _ below meth c _ 4 G (250 + 8 * y3.toInt.toNat) (5300 + 24 * y3.toInt.toNat) 829 [some (.ref b), some (.ref (G.1 0 0)), some (.ref (G.1 22 0)), some (.int y3)] [.int x691, .int x675] τ688
          refine m_icmp_eq (tgt := 1028) C dL_law_829 (by decide) (fun c698 => ?_) (fun c698 => ?_)
          · have f699 : x675.toInt = x691.toInt := by
              have q : _ := c698
              simp only [ti_nle, ti_nlt, ti_le, ti_lt, ti_eq, ti_ne, Classical.not_not] at q
              omega
            obtain ⟨x700, ex700⟩ : ∃ y : Int32, y = y3 + 6 := ⟨_, rfl⟩
            have tx700 : x700.toInt = y3.toInt + 6 := by rw [ex700, ti_addv b8 kc_6 (by decide), kt_6]
            have b701 : IV x700 6 3072 := by rw [ex700]; exact iv_add b8 kc_6 (by decide)
            refine m_iinc (v := x700) (L1 := [some (.ref b), some (.ref (G.1 0 0)), some (.ref (G.1 22 0)), some (.int x700)]) C dL_law_1028 rfl (by rw [ex700]; rfl) (by decide) rfl rfl ?_
            refine m_goto (tgt := 18) C dL_law_1031 (by decide) ?_
            refine m_widen (c2 := 250 + 8 * x700.toInt.toNat) (s2 := 5300 + 24 * x700.toInt.toNat) (by omega) (by omega) ?_
            exact ih18 τ688 x700 i689 r696 r697 (iv_wk b701 (by decide)) (by have q := hm18; omega)
          · have f702 : x675.toInt ≠ x691.toInt := by
              have q : _ := c698
              simp only [ti_nle, ti_nlt, ti_le, ti_lt, ti_eq, ti_ne, Classical.not_not] at q
              omega
            exfalso
            omega
        by_cases s703 : x11.toInt = 22
        · refine m_tableIn (tgt := 834) (off := 801) C dL_law_33 (by omega) (by omega) (by rw [s703]; rfl) (by decide) ?_
          have b704 : IV x11 22 22 := ⟨by omega, by omega⟩
          refine m_aload_n C dL_law_834 rfl rfl ?_
          refine m_aload_n C dL_law_835 rfl rfl ?_
          refine m_iload_n C dL_law_836 rfl rfl ?_
          refine m_iconst (v := 1) C dL_law_837 (by decide) ?_
          refine m_iadd C dL_law_838 ?_
          refine m_topi (fun x705 ex705 => ?_)
          have tx705 : x705.toInt = y3.toInt + 1 := by rw [ex705, ti_addv b8 kc_1 (by decide), kt_1]
          have b706 : IV x705 1 3067 := by rw [ex705]; exact iv_add b8 kc_1 (by decide)
          refine m_sld C hX hbl hbA ⟨by omega, by omega⟩ dL_law_839 ?_
          refine m_topi (fun x707 ex707 => ?_)
          refine m_callV (n := 1) (ci := 10) (st := []) C (c_X11_image l G τ (x707) iτ ) (by decide) (by decide) rfl rfl rfl q4_0 q3_237 q3_238 q3_239 q1_1 (by decide +kernel) rfl (by decide) ⟨by show (250 + 8 * y3.toInt.toNat) + 0 ≤ 600000; omega, by show (5300 + 24 * y3.toInt.toNat) + 0 ≤ 7302250; omega⟩ rfl (Nat.le_of_ble_eq_true rfl) dL_law_840 ?_
          rintro _ τ708 ⟨x711, rfl, i709, f710, b712⟩
          have r715 : Rel τ708 := rτ.call f710 (by decide) (by decide)
          have r716 : RI τ708 := jτ.call f710 (by decide) (by decide)
          show MW p l e _ s m _ below meth c _ 4 G (250 + 8 * y3.toInt.toNat) (5300 + 24 * y3.toInt.toNat) 843 [some (.ref b), some (.ref (G.1 0 0)), some (.ref (G.1 22 0)), some (.int y3)] [.int x711] τ708
          refine m_pop C dL_law_843 rfl ?_
          refine m_aload_n C dL_law_844 rfl rfl ?_
          refine m_aload_n C dL_law_845 rfl rfl ?_
          refine m_iload_n C dL_law_846 rfl rfl ?_
          refine m_iconst (v := 1) C dL_law_847 (by decide) ?_
          refine m_iadd C dL_law_848 ?_
          refine m_topi (fun x717 ex717 => ?_)
          have tx717 : x717.toInt = y3.toInt + 1 := by rw [ex717, ti_addv b8 kc_1 (by decide), kt_1]
          have b718 : IV x717 1 3067 := by rw [ex717]; exact iv_add b8 kc_1 (by decide)
          refine m_sld C hX hbl hbA ⟨by omega, by omega⟩ dL_law_849 ?_
          refine m_eqs (w := x707) (by rw [ex707, show x717.toInt.toNat = x705.toInt.toNat by omega]) ?_
          refine m_callV (n := 1) (ci := 11) (st := []) C (c_X12_image l G τ708 (x707) i709 ) (by decide) (by decide) rfl rfl rfl q5_178 q5_175 q5_176 q5_177 q1_7 (by decide +kernel) rfl (by decide) ⟨by show (250 + 8 * y3.toInt.toNat) + 0 ≤ 600000; omega, by show (5300 + 24 * y3.toInt.toNat) + 0 ≤ 7302250; omega⟩ rfl (Nat.le_of_ble_eq_true rfl) dL_law_850 ?_
          rintro _ τ719 ⟨x722, rfl, i720, f721, b723⟩
          have r726 : Rel τ719 := r715.call f721 (by decide) (by decide)
          have r727 : RI τ719 := r716.call f721 (by decide) (by decide)
          show MW p l e _ s m _ below meth c _ 4 G (250 + 8 * y3.toInt.toNat) (5300 + 24 * y3.toInt.toNat) 853 [some (.ref b), some (.ref (G.1 0 0)), some (.ref (G.1 22 0)), some (.int y3)] [.int x722] τ719
          refine m_pop C dL_law_853 rfl ?_
          refine m_goto (tgt := 1028) C dL_law_854 (by decide) ?_
          obtain ⟨x728, ex728⟩ : ∃ y : Int32, y = y3 + 6 := ⟨_, rfl⟩
          have tx728 : x728.toInt = y3.toInt + 6 := by rw [ex728, ti_addv b8 kc_6 (by decide), kt_6]
          have b729 : IV x728 6 3072 := by rw [ex728]; exact iv_add b8 kc_6 (by decide)
          refine m_iinc (v := x728) (L1 := [some (.ref b), some (.ref (G.1 0 0)), some (.ref (G.1 22 0)), some (.int x728)]) C dL_law_1028 rfl (by rw [ex728]; rfl) (by decide) rfl rfl ?_
          refine m_goto (tgt := 18) C dL_law_1031 (by decide) ?_
          refine m_widen (c2 := 250 + 8 * x728.toInt.toNat) (s2 := 5300 + 24 * x728.toInt.toNat) (by omega) (by omega) ?_
          exact ih18 τ719 x728 i720 r726 r727 (iv_wk b729 (by decide)) (by have q := hm18; omega)
        by_cases s730 : x11.toInt = 23
        · refine m_tableIn (tgt := 857) (off := 824) C dL_law_33 (by omega) (by omega) (by rw [s730]; rfl) (by decide) ?_
          have b731 : IV x11 23 23 := ⟨by omega, by omega⟩
          refine m_aload_n C dL_law_857 rfl rfl ?_
          refine m_aload_n C dL_law_858 rfl rfl ?_
          refine m_iload_n C dL_law_859 rfl rfl ?_
          refine m_iconst (v := 1) C dL_law_860 (by decide) ?_
          refine m_iadd C dL_law_861 ?_
          refine m_topi (fun x732 ex732 => ?_)
          have tx732 : x732.toInt = y3.toInt + 1 := by rw [ex732, ti_addv b8 kc_1 (by decide), kt_1]
          have b733 : IV x732 1 3067 := by rw [ex732]; exact iv_add b8 kc_1 (by decide)
          refine m_sld C hX hbl hbA ⟨by omega, by omega⟩ dL_law_862 ?_
          refine m_topi (fun x734 ex734 => ?_)
          refine m_callV (n := 1) (ci := 10) (st := []) C (c_X11_restore l G τ (x734) iτ ) (by decide) (by decide) rfl rfl rfl q4_4 q4_1 q4_2 q4_3 q1_1 (by decide +kernel) rfl (by decide) ⟨by show (250 + 8 * y3.toInt.toNat) + 0 ≤ 600000; omega, by show (5300 + 24 * y3.toInt.toNat) + 0 ≤ 7302250; omega⟩ rfl (Nat.le_of_ble_eq_true rfl) dL_law_863 ?_
          rintro _ τ735 ⟨x738, rfl, i736, f737, b739⟩
          have r742 : Rel τ735 := rτ.call f737 (by decide) (by decide)
          have r743 : RI τ735 := jτ.call f737 (by decide) (by decide)
          show MW p l e _ s m _ below meth c _ 4 G (250 + 8 * y3.toInt.toNat) (5300 + 24 * y3.toInt.toNat) 866 [some (.ref b), some (.ref (G.1 0 0)), some (.ref (G.1 22 0)), some (.int y3)] [.int x738] τ735
          refine m_pop C dL_law_866 rfl ?_
          refine m_aload_n C dL_law_867 rfl rfl ?_
          refine m_aload_n C dL_law_868 rfl rfl ?_
          refine m_iload_n C dL_law_869 rfl rfl ?_
          refine m_iconst (v := 1) C dL_law_870 (by decide) ?_
          refine m_iadd C dL_law_871 ?_
          refine m_topi (fun x744 ex744 => ?_)
          have tx744 : x744.toInt = y3.toInt + 1 := by rw [ex744, ti_addv b8 kc_1 (by decide), kt_1]
          have b745 : IV x744 1 3067 := by rw [ex744]; exact iv_add b8 kc_1 (by decide)
          refine m_sld C hX hbl hbA ⟨by omega, by omega⟩ dL_law_872 ?_
          refine m_eqs (w := x734) (by rw [ex734, show x744.toInt.toNat = x732.toInt.toNat by omega]) ?_
          refine m_callV (n := 1) (ci := 11) (st := []) C (c_X12_restore l G τ735 (x734) i736 ) (by decide) (by decide) rfl rfl rfl q5_182 q5_179 q5_180 q5_181 q1_7 (by decide +kernel) rfl (by decide) ⟨by show (250 + 8 * y3.toInt.toNat) + 0 ≤ 600000; omega, by show (5300 + 24 * y3.toInt.toNat) + 0 ≤ 7302250; omega⟩ rfl (Nat.le_of_ble_eq_true rfl) dL_law_873 ?_
          rintro _ τ746 ⟨x749, rfl, i747, f748, b750⟩
          have r753 : Rel τ746 := r742.call f748 (by decide) (by decide)
          have r754 : RI τ746 := r743.call f748 (by decide) (by decide)
          show MW p l e _ s m _ below meth c _ 4 G (250 + 8 * y3.toInt.toNat) (5300 + 24 * y3.toInt.toNat) 876 [some (.ref b), some (.ref (G.1 0 0)), some (.ref (G.1 22 0)), some (.int y3)] [.int x749] τ746
          refine m_pop C dL_law_876 rfl ?_
          refine m_goto (tgt := 1028) C dL_law_877 (by decide) ?_
          obtain ⟨x755, ex755⟩ : ∃ y : Int32, y = y3 + 6 := ⟨_, rfl⟩
          have tx755 : x755.toInt = y3.toInt + 6 := by rw [ex755, ti_addv b8 kc_6 (by decide), kt_6]
          have b756 : IV x755 6 3072 := by rw [ex755]; exact iv_add b8 kc_6 (by decide)
          refine m_iinc (v := x755) (L1 := [some (.ref b), some (.ref (G.1 0 0)), some (.ref (G.1 22 0)), some (.int x755)]) C dL_law_1028 rfl (by rw [ex755]; rfl) (by decide) rfl rfl ?_
          refine m_goto (tgt := 18) C dL_law_1031 (by decide) ?_
          refine m_widen (c2 := 250 + 8 * x755.toInt.toNat) (s2 := 5300 + 24 * x755.toInt.toNat) (by omega) (by omega) ?_
          exact ih18 τ746 x755 i747 r753 r754 (iv_wk b756 (by decide)) (by have q := hm18; omega)
        by_cases s757 : x11.toInt = 24
        · refine m_tableIn (tgt := 880) (off := 847) C dL_law_33 (by omega) (by omega) (by rw [s757]; rfl) (by decide) ?_
          have b758 : IV x11 24 24 := ⟨by omega, by omega⟩
          refine m_aload_n C dL_law_880 rfl rfl ?_
          refine m_aload_n C dL_law_881 rfl rfl ?_
          refine m_iload_n C dL_law_882 rfl rfl ?_
          refine m_iconst (v := 1) C dL_law_883 (by decide) ?_
          refine m_iadd C dL_law_884 ?_
          refine m_topi (fun x759 ex759 => ?_)
          have tx759 : x759.toInt = y3.toInt + 1 := by rw [ex759, ti_addv b8 kc_1 (by decide), kt_1]
          have b760 : IV x759 1 3067 := by rw [ex759]; exact iv_add b8 kc_1 (by decide)
          refine m_sld C hX hbl hbA ⟨by omega, by omega⟩ dL_law_885 ?_
          refine m_topi (fun x761 ex761 => ?_)
          refine m_callV (n := 1) (ci := 10) (st := []) C (c_X11_kind l G τ (x761) iτ ) (by decide) (by decide) rfl rfl rfl q4_8 q4_5 q4_6 q4_7 q1_1 (by decide +kernel) rfl (by decide) ⟨by show (250 + 8 * y3.toInt.toNat) + 0 ≤ 600000; omega, by show (5300 + 24 * y3.toInt.toNat) + 0 ≤ 7302250; omega⟩ rfl (Nat.le_of_ble_eq_true rfl) dL_law_886 ?_
          rintro _ τ762 ⟨x765, rfl, i763, f764, b766⟩
          have r769 : Rel τ762 := rτ.call f764 (by decide) (by decide)
          have r770 : RI τ762 := jτ.call f764 (by decide) (by decide)
          show MW p l e _ s m _ below meth c _ 4 G (250 + 8 * y3.toInt.toNat) (5300 + 24 * y3.toInt.toNat) 889 [some (.ref b), some (.ref (G.1 0 0)), some (.ref (G.1 22 0)), some (.int y3)] [.int x765] τ762
          refine m_pop C dL_law_889 rfl ?_
          refine m_aload_n C dL_law_890 rfl rfl ?_
          refine m_aload_n C dL_law_891 rfl rfl ?_
          refine m_iload_n C dL_law_892 rfl rfl ?_
          refine m_iconst (v := 1) C dL_law_893 (by decide) ?_
          refine m_iadd C dL_law_894 ?_
          refine m_topi (fun x771 ex771 => ?_)
          have tx771 : x771.toInt = y3.toInt + 1 := by rw [ex771, ti_addv b8 kc_1 (by decide), kt_1]
          have b772 : IV x771 1 3067 := by rw [ex771]; exact iv_add b8 kc_1 (by decide)
          refine m_sld C hX hbl hbA ⟨by omega, by omega⟩ dL_law_895 ?_
          refine m_eqs (w := x761) (by rw [ex761, show x771.toInt.toNat = x759.toInt.toNat by omega]) ?_
          refine m_callV (n := 1) (ci := 11) (st := []) C (c_X12_kind l G τ762 (x761) i763 ) (by decide) (by decide) rfl rfl rfl q5_186 q5_183 q5_184 q5_185 q1_7 (by decide +kernel) rfl (by decide) ⟨by show (250 + 8 * y3.toInt.toNat) + 0 ≤ 600000; omega, by show (5300 + 24 * y3.toInt.toNat) + 0 ≤ 7302250; omega⟩ rfl (Nat.le_of_ble_eq_true rfl) dL_law_896 ?_
          rintro _ τ773 ⟨x776, rfl, i774, f775, b777⟩
          have r780 : Rel τ773 := r769.call f775 (by decide) (by decide)
          have r781 : RI τ773 := r770.call f775 (by decide) (by decide)
          show MW p l e _ s m _ below meth c _ 4 G (250 + 8 * y3.toInt.toNat) (5300 + 24 * y3.toInt.toNat) 899 [some (.ref b), some (.ref (G.1 0 0)), some (.ref (G.1 22 0)), some (.int y3)] [.int x776] τ773
          refine m_pop C dL_law_899 rfl ?_
          refine m_goto (tgt := 1028) C dL_law_900 (by decide) ?_
          obtain ⟨x782, ex782⟩ : ∃ y : Int32, y = y3 + 6 := ⟨_, rfl⟩
          have tx782 : x782.toInt = y3.toInt + 6 := by rw [ex782, ti_addv b8 kc_6 (by decide), kt_6]
          have b783 : IV x782 6 3072 := by rw [ex782]; exact iv_add b8 kc_6 (by decide)
          refine m_iinc (v := x782) (L1 := [some (.ref b), some (.ref (G.1 0 0)), some (.ref (G.1 22 0)), some (.int x782)]) C dL_law_1028 rfl (by rw [ex782]; rfl) (by decide) rfl rfl ?_
          refine m_goto (tgt := 18) C dL_law_1031 (by decide) ?_
          refine m_widen (c2 := 250 + 8 * x782.toInt.toNat) (s2 := 5300 + 24 * x782.toInt.toNat) (by omega) (by omega) ?_
          exact ih18 τ773 x782 i774 r780 r781 (iv_wk b783 (by decide)) (by have q := hm18; omega)
        by_cases s784 : x11.toInt = 25
        · refine m_tableIn (tgt := 903) (off := 870) C dL_law_33 (by omega) (by omega) (by rw [s784]; rfl) (by decide) ?_
          have b785 : IV x11 25 25 := ⟨by omega, by omega⟩
          refine m_aload_n C dL_law_903 rfl rfl ?_
          refine m_aload_n C dL_law_904 rfl rfl ?_
          refine m_iload_n C dL_law_905 rfl rfl ?_
          refine m_iconst (v := 1) C dL_law_906 (by decide) ?_
          refine m_iadd C dL_law_907 ?_
          refine m_topi (fun x786 ex786 => ?_)
          have tx786 : x786.toInt = y3.toInt + 1 := by rw [ex786, ti_addv b8 kc_1 (by decide), kt_1]
          have b787 : IV x786 1 3067 := by rw [ex786]; exact iv_add b8 kc_1 (by decide)
          refine m_sld C hX hbl hbA ⟨by omega, by omega⟩ dL_law_908 ?_
          refine m_topi (fun x788 ex788 => ?_)
          refine m_aload_n C dL_law_909 rfl rfl ?_
          refine m_iload_n C dL_law_910 rfl rfl ?_
          refine m_iconst (v := 2) C dL_law_911 (by decide) ?_
          refine m_iadd C dL_law_912 ?_
          refine m_topi (fun x789 ex789 => ?_)
          have tx789 : x789.toInt = y3.toInt + 2 := by rw [ex789, ti_addv b8 kc_2 (by decide), kt_2]
          have b790 : IV x789 2 3068 := by rw [ex789]; exact iv_add b8 kc_2 (by decide)
          refine m_sld C hX hbl hbA ⟨by omega, by omega⟩ dL_law_913 ?_
          refine m_topi (fun x791 ex791 => ?_)
          refine m_callV (n := 2) (ci := 10) (st := []) C (c_X11_as l G τ (x788) (x791) iτ ) (by decide) (by decide) rfl rfl rfl q4_30 q4_27 q4_28 q4_29 q1_1 (by decide +kernel) rfl (by decide) ⟨by show (250 + 8 * y3.toInt.toNat) + 0 ≤ 600000; omega, by show (5300 + 24 * y3.toInt.toNat) + 0 ≤ 7302250; omega⟩ rfl (Nat.le_of_ble_eq_true rfl) dL_law_914 ?_
          rintro _ τ792 ⟨x795, rfl, i793, f794, b796⟩
          have r799 : Rel τ792 := rτ.call f794 (by decide) (by decide)
          have r800 : RI τ792 := jτ.call f794 (by decide) (by decide)
          show MW p l e _ s m _ below meth c _ 4 G (250 + 8 * y3.toInt.toNat) (5300 + 24 * y3.toInt.toNat) 917 [some (.ref b), some (.ref (G.1 0 0)), some (.ref (G.1 22 0)), some (.int y3)] [.int x795] τ792
          refine m_pop C dL_law_917 rfl ?_
          refine m_aload_n C dL_law_918 rfl rfl ?_
          refine m_aload_n C dL_law_919 rfl rfl ?_
          refine m_iload_n C dL_law_920 rfl rfl ?_
          refine m_iconst (v := 1) C dL_law_921 (by decide) ?_
          refine m_iadd C dL_law_922 ?_
          refine m_topi (fun x801 ex801 => ?_)
          have tx801 : x801.toInt = y3.toInt + 1 := by rw [ex801, ti_addv b8 kc_1 (by decide), kt_1]
          have b802 : IV x801 1 3067 := by rw [ex801]; exact iv_add b8 kc_1 (by decide)
          refine m_sld C hX hbl hbA ⟨by omega, by omega⟩ dL_law_923 ?_
          refine m_eqs (w := x788) (by rw [ex788, show x801.toInt.toNat = x786.toInt.toNat by omega]) ?_
          refine m_aload_n C dL_law_924 rfl rfl ?_
          refine m_iload_n C dL_law_925 rfl rfl ?_
          refine m_iconst (v := 2) C dL_law_926 (by decide) ?_
          refine m_iadd C dL_law_927 ?_
          refine m_topi (fun x803 ex803 => ?_)
          have tx803 : x803.toInt = y3.toInt + 2 := by rw [ex803, ti_addv b8 kc_2 (by decide), kt_2]
          have b804 : IV x803 2 3068 := by rw [ex803]; exact iv_add b8 kc_2 (by decide)
          refine m_sld C hX hbl hbA ⟨by omega, by omega⟩ dL_law_928 ?_
          refine m_eqs (w := x791) (by rw [ex791, show x803.toInt.toNat = x789.toInt.toNat by omega]) ?_
          refine m_callV (n := 2) (ci := 11) (st := []) C (c_X12_as l G τ792 (x788) (x791) i793 ) (by decide) (by decide) rfl rfl rfl q5_190 q5_187 q5_188 q5_189 q1_7 (by decide +kernel) rfl (by decide) ⟨by show (250 + 8 * y3.toInt.toNat) + 0 ≤ 600000; omega, by show (5300 + 24 * y3.toInt.toNat) + 0 ≤ 7302250; omega⟩ rfl (Nat.le_of_ble_eq_true rfl) dL_law_929 ?_
          rintro _ τ805 ⟨x808, rfl, i806, f807, b809⟩
          have r812 : Rel τ805 := r799.call f807 (by decide) (by decide)
          have r813 : RI τ805 := r800.call f807 (by decide) (by decide)
          show MW p l e _ s m _ below meth c _ 4 G (250 + 8 * y3.toInt.toNat) (5300 + 24 * y3.toInt.toNat) 932 [some (.ref b), some (.ref (G.1 0 0)), some (.ref (G.1 22 0)), some (.int y3)] [.int x808] τ805
          refine m_pop C dL_law_932 rfl ?_
          refine m_goto (tgt := 1028) C dL_law_933 (by decide) ?_
          obtain ⟨x814, ex814⟩ : ∃ y : Int32, y = y3 + 6 := ⟨_, rfl⟩
          have tx814 : x814.toInt = y3.toInt + 6 := by rw [ex814, ti_addv b8 kc_6 (by decide), kt_6]
          have b815 : IV x814 6 3072 := by rw [ex814]; exact iv_add b8 kc_6 (by decide)
          refine m_iinc (v := x814) (L1 := [some (.ref b), some (.ref (G.1 0 0)), some (.ref (G.1 22 0)), some (.int x814)]) C dL_law_1028 rfl (by rw [ex814]; rfl) (by decide) rfl rfl ?_
          refine m_goto (tgt := 18) C dL_law_1031 (by decide) ?_
          refine m_widen (c2 := 250 + 8 * x814.toInt.toNat) (s2 := 5300 + 24 * x814.toInt.toNat) (by omega) (by omega) ?_
          exact ih18 τ805 x814 i806 r812 r813 (iv_wk b815 (by decide)) (by have q := hm18; omega)
        by_cases s816 : x11.toInt = 26
        · refine m_tableIn (tgt := 936) (off := 903) C dL_law_33 (by omega) (by omega) (by rw [s816]; rfl) (by decide) ?_
          have b817 : IV x11 26 26 := ⟨by omega, by omega⟩
          refine m_aload_n C dL_law_936 rfl rfl ?_
          refine m_aload_n C dL_law_937 rfl rfl ?_
          refine m_iload_n C dL_law_938 rfl rfl ?_
          refine m_iconst (v := 1) C dL_law_939 (by decide) ?_
          refine m_iadd C dL_law_940 ?_
          refine m_topi (fun x818 ex818 => ?_)
          have tx818 : x818.toInt = y3.toInt + 1 := by rw [ex818, ti_addv b8 kc_1 (by decide), kt_1]
          have b819 : IV x818 1 3067 := by rw [ex818]; exact iv_add b8 kc_1 (by decide)
          refine m_sld C hX hbl hbA ⟨by omega, by omega⟩ dL_law_941 ?_
          refine m_topi (fun x820 ex820 => ?_)
          refine m_aload_n C dL_law_942 rfl rfl ?_
          refine m_iload_n C dL_law_943 rfl rfl ?_
          refine m_iconst (v := 2) C dL_law_944 (by decide) ?_
          refine m_iadd C dL_law_945 ?_
          refine m_topi (fun x821 ex821 => ?_)
          have tx821 : x821.toInt = y3.toInt + 2 := by rw [ex821, ti_addv b8 kc_2 (by decide), kt_2]
          have b822 : IV x821 2 3068 := by rw [ex821]; exact iv_add b8 kc_2 (by decide)
          refine m_sld C hX hbl hbA ⟨by omega, by omega⟩ dL_law_946 ?_
          refine m_topi (fun x823 ex823 => ?_)
          refine m_callV (n := 2) (ci := 10) (st := []) C (c_X11_ask l G τ (x820) (x823) iτ ) (by decide) (by decide) rfl rfl rfl q4_42 q4_39 q4_40 q4_41 q1_1 (by decide +kernel) rfl (by decide) ⟨by show (250 + 8 * y3.toInt.toNat) + 0 ≤ 600000; omega, by show (5300 + 24 * y3.toInt.toNat) + 0 ≤ 7302250; omega⟩ rfl (Nat.le_of_ble_eq_true rfl) dL_law_947 ?_
          rintro _ τ824 ⟨x827, rfl, i825, f826, b828⟩
          have r831 : Rel τ824 := rτ.call f826 (by decide) (by decide)
          have r832 : RI τ824 := jτ.call f826 (by decide) (by decide)
          show MW p l e _ s m _ below meth c _ 4 G (250 + 8 * y3.toInt.toNat) (5300 + 24 * y3.toInt.toNat) 950 [some (.ref b), some (.ref (G.1 0 0)), some (.ref (G.1 22 0)), some (.int y3)] [.int x827] τ824
          refine m_pop C dL_law_950 rfl ?_
          refine m_aload_n C dL_law_951 rfl rfl ?_
          refine m_aload_n C dL_law_952 rfl rfl ?_
          refine m_iload_n C dL_law_953 rfl rfl ?_
          refine m_iconst (v := 1) C dL_law_954 (by decide) ?_
          refine m_iadd C dL_law_955 ?_
          refine m_topi (fun x833 ex833 => ?_)
          have tx833 : x833.toInt = y3.toInt + 1 := by rw [ex833, ti_addv b8 kc_1 (by decide), kt_1]
          have b834 : IV x833 1 3067 := by rw [ex833]; exact iv_add b8 kc_1 (by decide)
          refine m_sld C hX hbl hbA ⟨by omega, by omega⟩ dL_law_956 ?_
          refine m_eqs (w := x820) (by rw [ex820, show x833.toInt.toNat = x818.toInt.toNat by omega]) ?_
          refine m_aload_n C dL_law_957 rfl rfl ?_
          refine m_iload_n C dL_law_958 rfl rfl ?_
          refine m_iconst (v := 2) C dL_law_959 (by decide) ?_
          refine m_iadd C dL_law_960 ?_
          refine m_topi (fun x835 ex835 => ?_)
          have tx835 : x835.toInt = y3.toInt + 2 := by rw [ex835, ti_addv b8 kc_2 (by decide), kt_2]
          have b836 : IV x835 2 3068 := by rw [ex835]; exact iv_add b8 kc_2 (by decide)
          refine m_sld C hX hbl hbA ⟨by omega, by omega⟩ dL_law_961 ?_
          refine m_eqs (w := x823) (by rw [ex823, show x835.toInt.toNat = x821.toInt.toNat by omega]) ?_
          refine m_callV (n := 2) (ci := 11) (st := []) C (c_X12_ask l G τ824 (x820) (x823) i825 ) (by decide) (by decide) rfl rfl rfl q5_197 q5_194 q5_195 q5_196 q1_7 (by decide +kernel) rfl (by decide) ⟨by show (250 + 8 * y3.toInt.toNat) + 0 ≤ 600000; omega, by show (5300 + 24 * y3.toInt.toNat) + 0 ≤ 7302250; omega⟩ rfl (Nat.le_of_ble_eq_true rfl) dL_law_962 ?_
          rintro _ τ837 ⟨x840, rfl, i838, f839, b841⟩
          have r844 : Rel τ837 := r831.call f839 (by decide) (by decide)
          have r845 : RI τ837 := r832.call f839 (by decide) (by decide)
          show MW p l e _ s m _ below meth c _ 4 G (250 + 8 * y3.toInt.toNat) (5300 + 24 * y3.toInt.toNat) 965 [some (.ref b), some (.ref (G.1 0 0)), some (.ref (G.1 22 0)), some (.int y3)] [.int x840] τ837
          refine m_pop C dL_law_965 rfl ?_
          refine m_goto (tgt := 1028) C dL_law_966 (by decide) ?_
          obtain ⟨x846, ex846⟩ : ∃ y : Int32, y = y3 + 6 := ⟨_, rfl⟩
          have tx846 : x846.toInt = y3.toInt + 6 := by rw [ex846, ti_addv b8 kc_6 (by decide), kt_6]
          have b847 : IV x846 6 3072 := by rw [ex846]; exact iv_add b8 kc_6 (by decide)
          refine m_iinc (v := x846) (L1 := [some (.ref b), some (.ref (G.1 0 0)), some (.ref (G.1 22 0)), some (.int x846)]) C dL_law_1028 rfl (by rw [ex846]; rfl) (by decide) rfl rfl ?_
          refine m_goto (tgt := 18) C dL_law_1031 (by decide) ?_
          refine m_widen (c2 := 250 + 8 * x846.toInt.toNat) (s2 := 5300 + 24 * x846.toInt.toNat) (by omega) (by omega) ?_
          exact ih18 τ837 x846 i838 r844 r845 (iv_wk b847 (by decide)) (by have q := hm18; omega)
        by_cases s848 : x11.toInt = 27
        · refine m_tableIn (tgt := 969) (off := 936) C dL_law_33 (by omega) (by omega) (by rw [s848]; rfl) (by decide) ?_
          have b849 : IV x11 27 27 := ⟨by omega, by omega⟩
          refine m_aload_n C dL_law_969 rfl rfl ?_
          refine m_aload_n C dL_law_970 rfl rfl ?_
          refine m_iload_n C dL_law_971 rfl rfl ?_
          refine m_iconst (v := 1) C dL_law_972 (by decide) ?_
          refine m_iadd C dL_law_973 ?_
          refine m_topi (fun x850 ex850 => ?_)
          have tx850 : x850.toInt = y3.toInt + 1 := by rw [ex850, ti_addv b8 kc_1 (by decide), kt_1]
          have b851 : IV x850 1 3067 := by rw [ex850]; exact iv_add b8 kc_1 (by decide)
          refine m_sld C hX hbl hbA ⟨by omega, by omega⟩ dL_law_974 ?_
          refine m_topi (fun x852 ex852 => ?_)
          refine m_callV (n := 1) (ci := 10) (st := []) C (c_X11_trace l G τ (x852) iτ ) (by decide) (by decide) rfl rfl rfl q4_97 q4_94 q4_95 q4_96 q1_1 (by decide +kernel) rfl (by decide) ⟨by show (250 + 8 * y3.toInt.toNat) + 0 ≤ 600000; omega, by show (5300 + 24 * y3.toInt.toNat) + 0 ≤ 7302250; omega⟩ rfl (Nat.le_of_ble_eq_true rfl) dL_law_975 ?_
          rintro _ τ853 ⟨x856, rfl, i854, f855, b857⟩
          have r860 : Rel τ853 := rτ.call f855 (by decide) (by decide)
          have r861 : RI τ853 := jτ.call f855 (by decide) (by decide)
          show MW p l e _ s m _ below meth c _ 4 G (250 + 8 * y3.toInt.toNat) (5300 + 24 * y3.toInt.toNat) 978 [some (.ref b), some (.ref (G.1 0 0)), some (.ref (G.1 22 0)), some (.int y3)] [.int x856] τ853
          refine m_pop C dL_law_978 rfl ?_
          refine m_aload_n C dL_law_979 rfl rfl ?_
          refine m_aload_n C dL_law_980 rfl rfl ?_
          refine m_iload_n C dL_law_981 rfl rfl ?_
          refine m_iconst (v := 1) C dL_law_982 (by decide) ?_
          refine m_iadd C dL_law_983 ?_
          refine m_topi (fun x862 ex862 => ?_)
          have tx862 : x862.toInt = y3.toInt + 1 := by rw [ex862, ti_addv b8 kc_1 (by decide), kt_1]
          have b863 : IV x862 1 3067 := by rw [ex862]; exact iv_add b8 kc_1 (by decide)
          refine m_sld C hX hbl hbA ⟨by omega, by omega⟩ dL_law_984 ?_
          refine m_eqs (w := x852) (by rw [ex852, show x862.toInt.toNat = x850.toInt.toNat by omega]) ?_
          refine m_callV (n := 1) (ci := 11) (st := []) C (c_X12_trace l G τ853 (x852) i854 ) (by decide) (by decide) rfl rfl rfl q5_213 q5_210 q5_211 q5_212 q1_7 (by decide +kernel) rfl (by decide) ⟨by show (250 + 8 * y3.toInt.toNat) + 0 ≤ 600000; omega, by show (5300 + 24 * y3.toInt.toNat) + 0 ≤ 7302250; omega⟩ rfl (Nat.le_of_ble_eq_true rfl) dL_law_985 ?_
          rintro _ τ864 ⟨x867, rfl, i865, f866, b868⟩
          have r871 : Rel τ864 := r860.call f866 (by decide) (by decide)
          have r872 : RI τ864 := r861.call f866 (by decide) (by decide)
          show MW p l e _ s m _ below meth c _ 4 G (250 + 8 * y3.toInt.toNat) (5300 + 24 * y3.toInt.toNat) 988 [some (.ref b), some (.ref (G.1 0 0)), some (.ref (G.1 22 0)), some (.int y3)] [.int x867] τ864
          refine m_pop C dL_law_988 rfl ?_
          refine m_goto (tgt := 1028) C dL_law_989 (by decide) ?_
          obtain ⟨x873, ex873⟩ : ∃ y : Int32, y = y3 + 6 := ⟨_, rfl⟩
          have tx873 : x873.toInt = y3.toInt + 6 := by rw [ex873, ti_addv b8 kc_6 (by decide), kt_6]
          have b874 : IV x873 6 3072 := by rw [ex873]; exact iv_add b8 kc_6 (by decide)
          refine m_iinc (v := x873) (L1 := [some (.ref b), some (.ref (G.1 0 0)), some (.ref (G.1 22 0)), some (.int x873)]) C dL_law_1028 rfl (by rw [ex873]; rfl) (by decide) rfl rfl ?_
          refine m_goto (tgt := 18) C dL_law_1031 (by decide) ?_
          refine m_widen (c2 := 250 + 8 * x873.toInt.toNat) (s2 := 5300 + 24 * x873.toInt.toNat) (by omega) (by omega) ?_
          exact ih18 τ864 x873 i865 r871 r872 (iv_wk b874 (by decide)) (by have q := hm18; omega)
        by_cases s875 : x11.toInt = 28
        · refine m_tableIn (tgt := 992) (off := 959) C dL_law_33 (by omega) (by omega) (by rw [s875]; rfl) (by decide) ?_
          have b876 : IV x11 28 28 := ⟨by omega, by omega⟩
          refine m_aload_n C dL_law_992 rfl rfl ?_
          refine m_aload_n C dL_law_993 rfl rfl ?_
          refine m_iload_n C dL_law_994 rfl rfl ?_
          refine m_iconst (v := 1) C dL_law_995 (by decide) ?_
          refine m_iadd C dL_law_996 ?_
          refine m_topi (fun x877 ex877 => ?_)
          have tx877 : x877.toInt = y3.toInt + 1 := by rw [ex877, ti_addv b8 kc_1 (by decide), kt_1]
          have b878 : IV x877 1 3067 := by rw [ex877]; exact iv_add b8 kc_1 (by decide)
          refine m_sld C hX hbl hbA ⟨by omega, by omega⟩ dL_law_997 ?_
          refine m_topi (fun x879 ex879 => ?_)
          refine m_callV (n := 1) (ci := 10) (st := []) C (c_X11_count l G τ (x879) iτ ) (by decide) (by decide) rfl rfl rfl q4_101 q4_98 q4_99 q4_100 q1_1 (by decide +kernel) rfl (by decide) ⟨by show (250 + 8 * y3.toInt.toNat) + 0 ≤ 600000; omega, by show (5300 + 24 * y3.toInt.toNat) + 0 ≤ 7302250; omega⟩ rfl (Nat.le_of_ble_eq_true rfl) dL_law_998 ?_
          rintro _ τ880 ⟨x883, rfl, i881, f882, b884⟩
          have r887 : Rel τ880 := rτ.call f882 (by decide) (by decide)
          have r888 : RI τ880 := jτ.call f882 (by decide) (by decide)
          show MW p l e _ s m _ below meth c _ 4 G (250 + 8 * y3.toInt.toNat) (5300 + 24 * y3.toInt.toNat) 1001 [some (.ref b), some (.ref (G.1 0 0)), some (.ref (G.1 22 0)), some (.int y3)] [.int x883] τ880
          refine m_pop C dL_law_1001 rfl ?_
          refine m_aload_n C dL_law_1002 rfl rfl ?_
          refine m_aload_n C dL_law_1003 rfl rfl ?_
          refine m_iload_n C dL_law_1004 rfl rfl ?_
          refine m_iconst (v := 1) C dL_law_1005 (by decide) ?_
          refine m_iadd C dL_law_1006 ?_
          refine m_topi (fun x889 ex889 => ?_)
          have tx889 : x889.toInt = y3.toInt + 1 := by rw [ex889, ti_addv b8 kc_1 (by decide), kt_1]
          have b890 : IV x889 1 3067 := by rw [ex889]; exact iv_add b8 kc_1 (by decide)
          refine m_sld C hX hbl hbA ⟨by omega, by omega⟩ dL_law_1007 ?_
          refine m_eqs (w := x879) (by rw [ex879, show x889.toInt.toNat = x877.toInt.toNat by omega]) ?_
          refine m_callV (n := 1) (ci := 11) (st := []) C (c_X12_count l G τ880 (x879) i881 ) (by decide) (by decide) rfl rfl rfl q5_217 q5_214 q5_215 q5_216 q1_7 (by decide +kernel) rfl (by decide) ⟨by show (250 + 8 * y3.toInt.toNat) + 0 ≤ 600000; omega, by show (5300 + 24 * y3.toInt.toNat) + 0 ≤ 7302250; omega⟩ rfl (Nat.le_of_ble_eq_true rfl) dL_law_1008 ?_
          rintro _ τ891 ⟨x894, rfl, i892, f893, b895⟩
          have r898 : Rel τ891 := r887.call f893 (by decide) (by decide)
          have r899 : RI τ891 := r888.call f893 (by decide) (by decide)
          show MW p l e _ s m _ below meth c _ 4 G (250 + 8 * y3.toInt.toNat) (5300 + 24 * y3.toInt.toNat) 1011 [some (.ref b), some (.ref (G.1 0 0)), some (.ref (G.1 22 0)), some (.int y3)] [.int x894] τ891
          refine m_pop C dL_law_1011 rfl ?_
          refine m_goto (tgt := 1028) C dL_law_1012 (by decide) ?_
          obtain ⟨x900, ex900⟩ : ∃ y : Int32, y = y3 + 6 := ⟨_, rfl⟩
          have tx900 : x900.toInt = y3.toInt + 6 := by rw [ex900, ti_addv b8 kc_6 (by decide), kt_6]
          have b901 : IV x900 6 3072 := by rw [ex900]; exact iv_add b8 kc_6 (by decide)
          refine m_iinc (v := x900) (L1 := [some (.ref b), some (.ref (G.1 0 0)), some (.ref (G.1 22 0)), some (.int x900)]) C dL_law_1028 rfl (by rw [ex900]; rfl) (by decide) rfl rfl ?_
          refine m_goto (tgt := 18) C dL_law_1031 (by decide) ?_
          refine m_widen (c2 := 250 + 8 * x900.toInt.toNat) (s2 := 5300 + 24 * x900.toInt.toNat) (by omega) (by omega) ?_
          exact ih18 τ891 x900 i892 r898 r899 (iv_wk b901 (by decide)) (by have q := hm18; omega)
        by_cases s902 : x11.toInt = 29
        · refine m_tableIn (tgt := 1015) (off := 982) C dL_law_33 (by omega) (by omega) (by rw [s902]; rfl) (by decide) ?_
          have b903 : IV x11 29 29 := ⟨by omega, by omega⟩
          refine m_aload_n C dL_law_1015 rfl rfl ?_
          refine m_callV (n := 0) (ci := 10) (st := []) C (c_X11_status l G τ  iτ ) (by decide) (by decide) rfl rfl rfl q4_109 q4_106 q4_107 q4_108 q1_1 (by decide +kernel) rfl (by decide) ⟨by show (250 + 8 * y3.toInt.toNat) + 0 ≤ 600000; omega, by show (5300 + 24 * y3.toInt.toNat) + 0 ≤ 7302250; omega⟩ rfl (Nat.le_of_ble_eq_true rfl) dL_law_1016 ?_
          rintro _ τ904 ⟨x907, rfl, i905, f906, b908⟩
          have r911 : Rel τ904 := rτ.call f906 (by decide) (by decide)
          have r912 : RI τ904 := jτ.call f906 (by decide) (by decide)
          show MW p l e _ s m _ below meth c _ 4 G (250 + 8 * y3.toInt.toNat) (5300 + 24 * y3.toInt.toNat) 1019 [some (.ref b), some (.ref (G.1 0 0)), some (.ref (G.1 22 0)), some (.int y3)] [.int x907] τ904
          refine m_pop C dL_law_1019 rfl ?_
          refine m_aload_n C dL_law_1020 rfl rfl ?_
          refine m_callV (n := 0) (ci := 11) (st := []) C (c_X12_status l G τ904  i905 ) (by decide) (by decide) rfl rfl rfl q5_221 q5_218 q5_219 q5_220 q1_7 (by decide +kernel) rfl (by decide) ⟨by show (250 + 8 * y3.toInt.toNat) + 0 ≤ 600000; omega, by show (5300 + 24 * y3.toInt.toNat) + 0 ≤ 7302250; omega⟩ rfl (Nat.le_of_ble_eq_true rfl) dL_law_1021 ?_
          rintro _ τ913 ⟨x916, rfl, i914, f915, b917⟩
          have r920 : Rel τ913 := r911.call f915 (by decide) (by decide)
          have r921 : RI τ913 := r912.call f915 (by decide) (by decide)
          show MW p l e _ s m _ below meth c _ 4 G (250 + 8 * y3.toInt.toNat) (5300 + 24 * y3.toInt.toNat) 1024 [some (.ref b), some (.ref (G.1 0 0)), some (.ref (G.1 22 0)), some (.int y3)] [.int x916] τ913
          refine m_pop C dL_law_1024 rfl ?_
          refine m_goto (tgt := 1028) C dL_law_1025 (by decide) ?_
          obtain ⟨x922, ex922⟩ : ∃ y : Int32, y = y3 + 6 := ⟨_, rfl⟩
          have tx922 : x922.toInt = y3.toInt + 6 := by rw [ex922, ti_addv b8 kc_6 (by decide), kt_6]
          have b923 : IV x922 6 3072 := by rw [ex922]; exact iv_add b8 kc_6 (by decide)
          refine m_iinc (v := x922) (L1 := [some (.ref b), some (.ref (G.1 0 0)), some (.ref (G.1 22 0)), some (.int x922)]) C dL_law_1028 rfl (by rw [ex922]; rfl) (by decide) rfl rfl ?_
          refine m_goto (tgt := 18) C dL_law_1031 (by decide) ?_
          refine m_widen (c2 := 250 + 8 * x922.toInt.toNat) (s2 := 5300 + 24 * x922.toInt.toNat) (by omega) (by omega) ?_
          exact ih18 τ913 x922 i914 r920 r921 (iv_wk b923 (by decide)) (by have q := hm18; omega)
        exact absurd s13 (by omega)
end LAW
