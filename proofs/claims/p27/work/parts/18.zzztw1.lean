/-! ===== the tower that a text tells ===== -/
/-- where the k-th person's word stands -/
def pp (T : Nat → Int) (N : Nat) : Nat → Nat
  | 0 => t4 T N 0
  | k + 1 => t6 T N (pp T N k)
/-- who he is -/
def PP (T : Nat → Int) (N : Nat) (k : Nat) : Int × Int × Int := (tQ T N (tE T N (pp T N k)), buF (tQ T N (tE T N (pp T N k))) (tV T (tE T N (tE T N (pp T N k)))), tV T (tE T N (tE T N (tE T N (pp T N k)))))
def SS (T : Nat → Int) (N : Nat) : Stt := (tV T (tE T N 0), outN T N, PP T N)
/-- but for tower j nothing of it is touched -/
def SFd (j : Nat) (σ τ : Sg) : Prop := ∀ j', j' ≠ j → gV τ 1 j' 0 = gV σ 1 j' 0 ∧ gV τ 1 j' 2 = gV σ 1 j' 2 ∧ ∀ i, τ.2.1 j' i = σ.2.1 j' i
theorem SFd.rf {j : Nat} {σ : Sg} : SFd j σ σ := fun _ _ => ⟨rfl, rfl, fun _ => rfl⟩
theorem SFd.trans {j : Nat} {σ τ υ : Sg} (h : SFd j σ τ) (g : SFd j τ υ) : SFd j σ υ := fun q hj => ⟨(g q hj).1.trans (h q hj).1, (g q hj).2.1.trans (h q hj).2.1, fun i => ((g q hj).2.2 i).trans ((h q hj).2.2 i)⟩
theorem SFd.putd {j k : Nat} {v : Int32} {σ τ υ : Sg} (h : SFd j σ τ) (e : υ = sV τ 1 j k v) : SFd j σ υ := h.trans (fun q hj => ⟨gV_putn e (Or.inr (Or.inl hj)), gV_putn e (Or.inr (Or.inl hj)), fun _ => by rw [e]; rfl⟩)
theorem SFd.put {j t j2 k : Nat} {v : Int32} {σ τ υ : Sg} (h : SFd j σ τ) (e : υ = sV τ t j2 k v) (ht : t ≠ 1) : SFd j σ υ := h.trans (fun q hj => ⟨gV_putn e (Or.inl (Ne.symm ht)), gV_putn e (Or.inl (Ne.symm ht)), fun _ => by rw [e]; rfl⟩)
theorem SFd.putQ {j k : Nat} {v : Option Nat} {σ τ υ : Sg} (h : SFd j σ τ) (e : υ = sQ τ j k v) : SFd j σ υ := h.trans (fun q hj => ⟨by rw [e]; rfl, by rw [e]; rfl, fun i => by
  rw [e]
  show (if q = j ∧ i = k then v else τ.2.1 q i) = _
  rw [if_neg (fun z => hj z.1)]⟩)
theorem SFd.fr {j : Nat} {M : List (Nat × Nat)} {A : List Nat} {σ τ υ : Sg} (h : SFd j σ τ) (f : Fr M A τ υ) (hm : (M.contains (1, 0) || M.contains (1, 2)) = false) (ha : (A.contains 1 || A.contains 6) = false) : SFd j σ υ := by
  rw [Bool.or_eq_false_iff] at hm ha
  have n1 : (1, 0) ∉ M := fun q => by rw [List.contains_iff_mem.mpr q] at hm; exact absurd hm.1 (by decide)
  have n2 : (1, 2) ∉ M := fun q => by rw [List.contains_iff_mem.mpr q] at hm; exact absurd hm.2 (by decide)
  have n3 : 1 ∉ A := fun q => by rw [List.contains_iff_mem.mpr q] at ha; exact absurd ha.1 (by decide)
  have n4 : 6 ∉ A := fun q => by rw [List.contains_iff_mem.mpr q] at ha; exact absurd ha.2 (by decide)
  exact h.trans (fun q _ => ⟨f.1 1 q 0 n1 n3, f.1 1 q 2 n2 n3, fun i => by rw [f.2.1 n4]⟩)
/-- the first n persons of tower j -/
def PrC (σ : Sg) (j n : Nat) (P : Nat → Int × Int × Int) : Prop := ∀ i, i < n → ∃ a, σ.2.1 j i = some a ∧ PeC σ a i (P i)
theorem PrC.zero {σ : Sg} {j n : Nat} {P : Nat → Int × Int × Int} (h : n = 0) : PrC σ j n P := fun i hi => absurd hi (by omega)
theorem PrC.cast {σ : Sg} {j n m : Nat} {P : Nat → Int × Int × Int} (h : PrC σ j n P) (e : n = m) : PrC σ j m P := e ▸ h
theorem PrC.same {σ τ : Sg} {j n : Nat} {P : Nat → Int × Int × Int} (h : PrC σ j n P) (e : ∀ i, i < n → τ.2.1 j i = σ.2.1 j i) (g : PGr σ τ) : PrC τ j n P := fun i hi => by
  obtain ⟨a, a1, a2⟩ := h i hi
  exact ⟨a, (e i hi).trans a1, a2.gr g⟩
theorem PrC.fr {σ τ : Sg} {j n : Nat} {P : Nat → Int × Int × Int} {M : List (Nat × Nat)} {A : List Nat} (h : PrC σ j n P) (f : Fr M A σ τ) (g : PGr σ τ) (ha : A.contains 6 = false) : PrC τ j n P := h.same (fun i _ => by rw [f.2.1 (fun q => by rw [List.contains_iff_mem.mpr q] at ha; exact absurd ha (by decide))]) g
/-- a person more in tower j -/
def ADP (σ τ : Sg) (j n b : Nat) : Prop := SFd j σ τ ∧ gV τ 1 j 0 = gV σ 1 j 0 ∧ τ.2.1 j n = some b ∧ ∀ i, i ≠ n → τ.2.1 j i = σ.2.1 j i
theorem ADP.mk {σ τ : Sg} {j n b : Nat} (e : τ = sQ σ j n (some b)) : ADP σ τ j n b := by
  refine ⟨SFd.rf.putQ e, by rw [e]; rfl, ?_, fun i hi => ?_⟩
  · rw [e]
    show (if j = j ∧ n = n then some b else _) = _
    rw [if_pos ⟨rfl, rfl⟩]
  · rw [e]
    show (if j = j ∧ i = n then some b else _) = _
    rw [if_neg (fun z => hi z.2)]
theorem ADP.put {σ τ υ : Sg} {j n b t j2 k : Nat} {v : Int32} (h : ADP σ τ j n b) (e : υ = sV τ t j2 k v) (ht : t ≠ 1) : ADP σ υ j n b := ⟨h.1.put e ht, (gV_putn e (Or.inl (Ne.symm ht))).trans h.2.1, by rw [e]; exact h.2.2.1, fun i hi => by rw [e]; exact h.2.2.2 i hi⟩
theorem ADP.putd {σ τ υ : Sg} {j n b k : Nat} {v : Int32} (h : ADP σ τ j n b) (e : υ = sV τ 1 j k v) (hk : k ≠ 0) : ADP σ υ j n b := ⟨h.1.putd e, (gV_putn e (Or.inr (Or.inr (Ne.symm hk)))).trans h.2.1, by rw [e]; exact h.2.2.1, fun i hi => by rw [e]; exact h.2.2.2 i hi⟩
theorem PrC.more {σ τ : Sg} {j n b : Nat} {P : Nat → Int × Int × Int} (h : PrC σ j n P) (d : ADP σ τ j n b) (g : PGr σ τ) (p : PeC σ b n (P n)) : PrC τ j (n + 1) P := fun i hi => by
  by_cases e : i = n
  · subst e
    exact ⟨b, d.2.2.1, p.gr g⟩
  · obtain ⟨a, a1, a2⟩ := h i (by omega)
    exact ⟨a, (d.2.2.2 i e).trans a1, a2.gr g⟩
theorem PrC.stc {σ : Sg} {j : Nat} {T : Nat → Int} {N : Nat} (h : PrC σ j (gV σ 1 j 2).toInt.toNat (PP T N)) (h7 : (gV σ 1 j 2).toInt ≤ 7) (h0 : 0 ≤ (gV σ 1 j 2).toInt) (e0 : (gV σ 1 j 0).toInt = tV T (tE T N 0)) (e2 : (gV σ 1 j 2).toInt = outN T N) : StC σ j (SS T N) := ⟨by show outN T N ≤ 7; omega, e0, e2, fun i hi => h i (by have q : (i : Int) < outN T N := hi; omega)⟩
/-- a person's numbers are told to him -/
def PIn (σ τ : Sg) (a : Nat) (x y z : Int32) : Prop := τ.2.2.2.1 = σ.2.2.2.1 ∧ τ.2.2.2.2.1 = σ.2.2.2.2.1 ∧ (∀ b, b ≠ a → τ.2.2.2.2.2 b = σ.2.2.2.2.2 b) ∧ τ.2.2.2.2.2 a 0 = x ∧ τ.2.2.2.2.2 a 1 = y ∧ τ.2.2.2.2.2 a 2 = z
theorem PIn.mk {σ τ1 τ2 τ3 : Sg} {a : Nat} {x y z : Int32} (e1 : τ1 = sP σ a 0 x) (e2 : τ2 = sP τ1 a 1 y) (e3 : τ3 = sP τ2 a 2 z) : PIn σ τ3 a x y z := by
  subst e1; subst e2; subst e3
  refine ⟨rfl, rfl, fun b hb => ?_, ?_, ?_, ?_⟩
  · simp [sP, va_up, hb]
  · simp [sP, va_up, upd]
  · simp [sP, va_up, upd]
  · simp [sP, va_up, upd]
theorem NPe {σ τ υ : Sg} {q ci i : Nat} {n b p : Int32} {k bu pa : Int} (e : τ = addP σ q ci) (hq : q ∉ σ.2.2.2.1) (h : PIn τ υ q n b p) (hk : kdF ci = k) (hn : n.toInt = (i : Int)) (hb : b.toInt = bu) (hp : p.toInt = pa) : q ∈ υ.2.2.2.1 ∧ PGr σ υ ∧ PeC υ q i (k, bu, pa) := by
  subst e
  obtain ⟨h1, h2, h3, h4, h5, h6⟩ := h
  have m : q ∈ υ.2.2.2.1 := by
    rw [h1]
    exact List.mem_append_right _ (List.mem_singleton.mpr rfl)
  refine ⟨m, fun a ha => ?_, m, ?_, ?_, ?_, ?_⟩
  · have ne : a ≠ q := fun z => hq (z ▸ ha)
    refine ⟨by rw [h1]; exact List.mem_append_left _ ha, ?_, ?_⟩
    · rw [h2]
      simp [addP, va_up, ne]
    · rw [h3 a ne]
      simp [addP, va_up, ne]
  · rw [h2]
    simpa [addP, va_up] using hk
  · rw [h4]; exact hn
  · rw [h5]; exact hb
  · rw [h6]; exact hp
theorem bu_all : ∀ i, i < 21 → (nI i).toInt = buF 1 (nI i).toInt ∧ (2 * nI i).toInt = buF 2 (nI i).toInt ∧ (nI i / 2).toInt = buF 3 (nI i).toInt ∧ (nI i).toInt = buF 4 (nI i).toInt ∧ (nI i + 5).toInt = buF 5 (nI i).toInt := by decide +kernel
theorem bu_of {a : Int32} (h : IV a 1 20) : a.toInt = buF 1 a.toInt ∧ (2 * a).toInt = buF 2 a.toInt ∧ (a / 2).toInt = buF 3 a.toInt ∧ a.toInt = buF 4 a.toInt ∧ (a + 5).toInt = buF 5 a.toInt := by
  have h1 := h.1
  have h2 := h.2
  obtain ⟨i, hi, rfl, ei⟩ := iv_nI (iv_wk h (by decide) : IV a 0 20)
  exact bu_all i (by omega)
/-- the reference's first n persons of the text -/
def PrM (σ : Sg) (n : Nat) (P : Nat → Int × Int × Int) : Prop := ∀ i, i < n → (gV σ 23 0 (150 + (3 + i))).toInt = (P i).1 ∧ buF (P i).1 (gV σ 23 0 (150 + (10 + i))).toInt = (P i).2.1 ∧ (gV σ 23 0 (150 + (17 + i))).toInt = (P i).2.2 ∧ (1 ≤ (gV σ 23 0 (150 + (10 + i))).toInt ∧ (gV σ 23 0 (150 + (10 + i))).toInt ≤ 20) ∧ (1 ≤ (P i).1 ∧ (P i).1 ≤ 5) ∧ (1 ≤ (P i).2.2 ∧ (P i).2.2 ≤ 4)
theorem PrM.zero {σ : Sg} {n : Nat} {P : Nat → Int × Int × Int} (h : n = 0) : PrM σ n P := fun i hi => absurd hi (by omega)
theorem PrM.cast {σ : Sg} {n m : Nat} {P : Nat → Int × Int × Int} (h : PrM σ n P) (e : n = m) : PrM σ m P := e ▸ h
theorem PrM.call {σ τ : Sg} {n : Nat} {P : Nat → Int × Int × Int} (h : PrM σ n P) (e : ∀ k, gV τ 23 0 k = gV σ 23 0 k) : PrM τ n P := fun i hi => by
  rw [e, e, e]
  exact h i hi
theorem PrM.put {σ τ : Sg} {n k : Nat} {v : Int32} {P : Nat → Int × Int × Int} (h : PrM σ n P) (e : τ = sV σ 23 0 k v) (hn : n ≤ 7) (hk : k < 153 ∨ (153 + n ≤ k ∧ k < 160) ∨ (160 + n ≤ k ∧ k < 167) ∨ 167 + n ≤ k) : PrM τ n P := fun i hi => by
  rw [gV_putn e (Or.inr (Or.inr (by omega))), gV_putn e (Or.inr (Or.inr (by omega))), gV_putn e (Or.inr (Or.inr (by omega)))]
  exact h i hi
theorem PrM.putO {σ τ : Sg} {n t j k : Nat} {v : Int32} {P : Nat → Int × Int × Int} (h : PrM σ n P) (e : τ = sV σ t j k v) (ht : t ≠ 23) : PrM τ n P := h.call (fun _ => gV_putn e (Or.inl (Ne.symm ht)))
theorem PrM.more {σ : Sg} {n : Nat} {P : Nat → Int × Int × Int} (h : PrM σ n P) (h1 : (gV σ 23 0 (153 + n)).toInt = (P n).1) (h2 : buF (P n).1 (gV σ 23 0 (160 + n)).toInt = (P n).2.1) (h3 : (gV σ 23 0 (167 + n)).toInt = (P n).2.2) (h4 : 1 ≤ (gV σ 23 0 (160 + n)).toInt ∧ (gV σ 23 0 (160 + n)).toInt ≤ 20) (h5 : 1 ≤ (P n).1 ∧ (P n).1 ≤ 5) (h6 : 1 ≤ (P n).2.2 ∧ (P n).2.2 ≤ 4) : PrM σ (n + 1) P := fun i hi => by
  by_cases e : i = n
  · subst e
    rw [show 150 + (3 + i) = 153 + i by omega, show 150 + (10 + i) = 160 + i by omega, show 150 + (17 + i) = 167 + i by omega]
    exact ⟨h1, h2, h3, h4, h5, h6⟩
  · exact h i (by omega)
theorem PrM.stm {σ : Sg} {T : Nat → Int} {N : Nat} (h : PrM σ (gV σ 23 0 152).toInt.toNat (PP T N)) (h7 : (gV σ 23 0 152).toInt ≤ 7) (h0 : 0 ≤ (gV σ 23 0 152).toInt) (e0 : (gV σ 23 0 150).toInt = tV T (tE T N 0)) (e2 : (gV σ 23 0 152).toInt = outN T N) (h32 : 0 ≤ tV T (tE T N 0) ∧ tV T (tE T N 0) ≤ 32) : StM σ 150 (SS T N) := ⟨⟨by show outN T N ≤ 7; omega, h32⟩, e0, e2, fun i hi => h i (by have q : (i : Int) < outN T N := hi; omega)⟩
theorem PrC.put {σ τ : Sg} {j n t j2 k : Nat} {v : Int32} {P : Nat → Int × Int × Int} (h : PrC σ j n P) (e : τ = sV σ t j2 k v) : PrC τ j n P := h.same (fun _ _ => by rw [e]; rfl) (PGr.eq (by rw [e]; rfl))
theorem tQ_r (T : Nat → Int) (N i : Nat) : 0 ≤ tQ T N i ∧ tQ T N i ≤ 5 := by
  unfold tQ
  repeat' split
  all_goals decide
section NEWF
variable {p : Program} {l : Launch} {e : Env} {R : Room} {s : State} {m : MethodId} {args : Array Value} {below : List Frame} {meth : Method} {c : Code} {cells slots : Nat} {Q : State → Prop} {cc : ByteArray} {nL : Nat} {own : String} {G : Gt} {σ : Sg} {pc : Nat} {L : List (Option Value)} {st : List Value}
theorem m_newF1 (C : Cx p s m args c cc nL own) {index : Nat} (qcl : Cond.classLink own index RX1 ∈ WA) (qin : Cond.instantiable RX1 3 ∈ WA) (qi : Cond.initialized RX1 ∈ WA) (hc : cells + 1 ≤ R.cells) (hs : slots + 3 ≤ R.slots) (d : decode cc pc = .ok (.new index, 3)) (kk : ∀ q : Nat, q ∉ σ.2.2.2.1 → MW p l e R s m args below meth c Q nL G (cells + 1) (slots + 3) (pc + 3) L (.ref q :: st) (addP σ q 1)) : MW p l e R s m args below meth c Q nL G cells slots pc L st σ := fun H locs ls hw hl => by
  refine va_new (C := RX1) (T := TX1) (N := 3) (ci := 1) (fs := [.int 0, .int 0, .int 0]) C.1 C.2.1 C.2.2.2.2 in_1 tyX1 tyX1_ok C.2.2.2.1 (C.2.2.2.2 _ qcl) (C.2.2.2.2 _ qin) (C.2.2.2.2 _ qi) hw.1.1 hw.2.1 hw.2.2.1 hw.2.2.2.1 (fun q h => Nat.le_trans hw.2.2.2.2 h) rfl (fun j hj => by match j, hj with | 0, _ => rfl | 1, _ => rfl | 2, _ => rfl) hc hs d (fun q H1 hP hD hS => ?_)
  have hq : q ∉ σ.2.2.2.1 := fun hm => by
    obtain ⟨k, hk⟩ := wl_pat G σ hm
    have hlt := (List.getElem?_eq_some_iff.mp hk).1
    have e1 : (wl G σ ++ [(q, Sum.inr (1, [Value.int 0, Value.int 0, Value.int 0]))])[k]? = some (q, pe σ.2.2.2 q) := by rw [List.getElem?_append_left hlt]; exact hk
    have e2 : (wl G σ ++ [(q, Sum.inr (1, [Value.int 0, Value.int 0, Value.int 0]))])[(wl G σ).length]? = some (q, Sum.inr (1, [Value.int 0, Value.int 0, Value.int 0])) := by rw [List.getElem?_append_right (Nat.le_refl _), Nat.sub_self]; rfl
    have := hD.1 _ _ _ _ e1 e2 rfl
    omega
  rw [wl_add G σ hq] at hP hD
  exact kk q hq H1 locs ls ⟨hw.1, hP, hD, hS, hw.2.2.2.2⟩ hl
theorem m_newF2 (C : Cx p s m args c cc nL own) {index : Nat} (qcl : Cond.classLink own index RX2 ∈ WA) (qin : Cond.instantiable RX2 3 ∈ WA) (qi : Cond.initialized RX2 ∈ WA) (hc : cells + 1 ≤ R.cells) (hs : slots + 3 ≤ R.slots) (d : decode cc pc = .ok (.new index, 3)) (kk : ∀ q : Nat, q ∉ σ.2.2.2.1 → MW p l e R s m args below meth c Q nL G (cells + 1) (slots + 3) (pc + 3) L (.ref q :: st) (addP σ q 2)) : MW p l e R s m args below meth c Q nL G cells slots pc L st σ := fun H locs ls hw hl => by
  refine va_new (C := RX2) (T := TX2) (N := 3) (ci := 2) (fs := [.int 0, .int 0, .int 0]) C.1 C.2.1 C.2.2.2.2 in_2 tyX2 tyX2_ok C.2.2.2.1 (C.2.2.2.2 _ qcl) (C.2.2.2.2 _ qin) (C.2.2.2.2 _ qi) hw.1.1 hw.2.1 hw.2.2.1 hw.2.2.2.1 (fun q h => Nat.le_trans hw.2.2.2.2 h) rfl (fun j hj => by match j, hj with | 0, _ => rfl | 1, _ => rfl | 2, _ => rfl) hc hs d (fun q H1 hP hD hS => ?_)
  have hq : q ∉ σ.2.2.2.1 := fun hm => by
    obtain ⟨k, hk⟩ := wl_pat G σ hm
    have hlt := (List.getElem?_eq_some_iff.mp hk).1
    have e1 : (wl G σ ++ [(q, Sum.inr (2, [Value.int 0, Value.int 0, Value.int 0]))])[k]? = some (q, pe σ.2.2.2 q) := by rw [List.getElem?_append_left hlt]; exact hk
    have e2 : (wl G σ ++ [(q, Sum.inr (2, [Value.int 0, Value.int 0, Value.int 0]))])[(wl G σ).length]? = some (q, Sum.inr (2, [Value.int 0, Value.int 0, Value.int 0])) := by rw [List.getElem?_append_right (Nat.le_refl _), Nat.sub_self]; rfl
    have := hD.1 _ _ _ _ e1 e2 rfl
    omega
  rw [wl_add G σ hq] at hP hD
  exact kk q hq H1 locs ls ⟨hw.1, hP, hD, hS, hw.2.2.2.2⟩ hl
theorem m_newF3 (C : Cx p s m args c cc nL own) {index : Nat} (qcl : Cond.classLink own index RX3 ∈ WA) (qin : Cond.instantiable RX3 3 ∈ WA) (qi : Cond.initialized RX3 ∈ WA) (hc : cells + 1 ≤ R.cells) (hs : slots + 3 ≤ R.slots) (d : decode cc pc = .ok (.new index, 3)) (kk : ∀ q : Nat, q ∉ σ.2.2.2.1 → MW p l e R s m args below meth c Q nL G (cells + 1) (slots + 3) (pc + 3) L (.ref q :: st) (addP σ q 3)) : MW p l e R s m args below meth c Q nL G cells slots pc L st σ := fun H locs ls hw hl => by
  refine va_new (C := RX3) (T := TX3) (N := 3) (ci := 3) (fs := [.int 0, .int 0, .int 0]) C.1 C.2.1 C.2.2.2.2 in_3 tyX3 tyX3_ok C.2.2.2.1 (C.2.2.2.2 _ qcl) (C.2.2.2.2 _ qin) (C.2.2.2.2 _ qi) hw.1.1 hw.2.1 hw.2.2.1 hw.2.2.2.1 (fun q h => Nat.le_trans hw.2.2.2.2 h) rfl (fun j hj => by match j, hj with | 0, _ => rfl | 1, _ => rfl | 2, _ => rfl) hc hs d (fun q H1 hP hD hS => ?_)
  have hq : q ∉ σ.2.2.2.1 := fun hm => by
    obtain ⟨k, hk⟩ := wl_pat G σ hm
    have hlt := (List.getElem?_eq_some_iff.mp hk).1
    have e1 : (wl G σ ++ [(q, Sum.inr (3, [Value.int 0, Value.int 0, Value.int 0]))])[k]? = some (q, pe σ.2.2.2 q) := by rw [List.getElem?_append_left hlt]; exact hk
    have e2 : (wl G σ ++ [(q, Sum.inr (3, [Value.int 0, Value.int 0, Value.int 0]))])[(wl G σ).length]? = some (q, Sum.inr (3, [Value.int 0, Value.int 0, Value.int 0])) := by rw [List.getElem?_append_right (Nat.le_refl _), Nat.sub_self]; rfl
    have := hD.1 _ _ _ _ e1 e2 rfl
    omega
  rw [wl_add G σ hq] at hP hD
  exact kk q hq H1 locs ls ⟨hw.1, hP, hD, hS, hw.2.2.2.2⟩ hl
theorem m_newF4 (C : Cx p s m args c cc nL own) {index : Nat} (qcl : Cond.classLink own index RX5 ∈ WA) (qin : Cond.instantiable RX5 3 ∈ WA) (qi : Cond.initialized RX5 ∈ WA) (hc : cells + 1 ≤ R.cells) (hs : slots + 3 ≤ R.slots) (d : decode cc pc = .ok (.new index, 3)) (kk : ∀ q : Nat, q ∉ σ.2.2.2.1 → MW p l e R s m args below meth c Q nL G (cells + 1) (slots + 3) (pc + 3) L (.ref q :: st) (addP σ q 4)) : MW p l e R s m args below meth c Q nL G cells slots pc L st σ := fun H locs ls hw hl => by
  refine va_new (C := RX5) (T := TX5) (N := 3) (ci := 4) (fs := [.int 0, .int 0, .int 0]) C.1 C.2.1 C.2.2.2.2 in_5 tyX5 tyX5_ok C.2.2.2.1 (C.2.2.2.2 _ qcl) (C.2.2.2.2 _ qin) (C.2.2.2.2 _ qi) hw.1.1 hw.2.1 hw.2.2.1 hw.2.2.2.1 (fun q h => Nat.le_trans hw.2.2.2.2 h) rfl (fun j hj => by match j, hj with | 0, _ => rfl | 1, _ => rfl | 2, _ => rfl) hc hs d (fun q H1 hP hD hS => ?_)
  have hq : q ∉ σ.2.2.2.1 := fun hm => by
    obtain ⟨k, hk⟩ := wl_pat G σ hm
    have hlt := (List.getElem?_eq_some_iff.mp hk).1
    have e1 : (wl G σ ++ [(q, Sum.inr (4, [Value.int 0, Value.int 0, Value.int 0]))])[k]? = some (q, pe σ.2.2.2 q) := by rw [List.getElem?_append_left hlt]; exact hk
    have e2 : (wl G σ ++ [(q, Sum.inr (4, [Value.int 0, Value.int 0, Value.int 0]))])[(wl G σ).length]? = some (q, Sum.inr (4, [Value.int 0, Value.int 0, Value.int 0])) := by rw [List.getElem?_append_right (Nat.le_refl _), Nat.sub_self]; rfl
    have := hD.1 _ _ _ _ e1 e2 rfl
    omega
  rw [wl_add G σ hq] at hP hD
  exact kk q hq H1 locs ls ⟨hw.1, hP, hD, hS, hw.2.2.2.2⟩ hl
theorem m_newF9 (C : Cx p s m args c cc nL own) {index : Nat} (qcl : Cond.classLink own index RX10 ∈ WA) (qin : Cond.instantiable RX10 3 ∈ WA) (qi : Cond.initialized RX10 ∈ WA) (hc : cells + 1 ≤ R.cells) (hs : slots + 3 ≤ R.slots) (d : decode cc pc = .ok (.new index, 3)) (kk : ∀ q : Nat, q ∉ σ.2.2.2.1 → MW p l e R s m args below meth c Q nL G (cells + 1) (slots + 3) (pc + 3) L (.ref q :: st) (addP σ q 9)) : MW p l e R s m args below meth c Q nL G cells slots pc L st σ := fun H locs ls hw hl => by
  refine va_new (C := RX10) (T := TX10) (N := 3) (ci := 9) (fs := [.int 0, .int 0, .int 0]) C.1 C.2.1 C.2.2.2.2 in_10 tyX10 tyX10_ok C.2.2.2.1 (C.2.2.2.2 _ qcl) (C.2.2.2.2 _ qin) (C.2.2.2.2 _ qi) hw.1.1 hw.2.1 hw.2.2.1 hw.2.2.2.1 (fun q h => Nat.le_trans hw.2.2.2.2 h) rfl (fun j hj => by match j, hj with | 0, _ => rfl | 1, _ => rfl | 2, _ => rfl) hc hs d (fun q H1 hP hD hS => ?_)
  have hq : q ∉ σ.2.2.2.1 := fun hm => by
    obtain ⟨k, hk⟩ := wl_pat G σ hm
    have hlt := (List.getElem?_eq_some_iff.mp hk).1
    have e1 : (wl G σ ++ [(q, Sum.inr (9, [Value.int 0, Value.int 0, Value.int 0]))])[k]? = some (q, pe σ.2.2.2 q) := by rw [List.getElem?_append_left hlt]; exact hk
    have e2 : (wl G σ ++ [(q, Sum.inr (9, [Value.int 0, Value.int 0, Value.int 0]))])[(wl G σ).length]? = some (q, Sum.inr (9, [Value.int 0, Value.int 0, Value.int 0])) := by rw [List.getElem?_append_right (Nat.le_refl _), Nat.sub_self]; rfl
    have := hD.1 _ _ _ _ e1 e2 rfl
    omega
  rw [wl_add G σ hq] at hP hD
  exact kk q hq H1 locs ls ⟨hw.1, hP, hD, hS, hw.2.2.2.2⟩ hl
end NEWF
