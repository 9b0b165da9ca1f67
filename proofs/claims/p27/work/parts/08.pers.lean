/-! ===== persons; rows of references; Math; arraycopy ===== -/
section PER
variable {p : Program} {l : Launch} {e : Env} {R : Room} {s : State} {m : MethodId} {args : Array Value} {below : List Frame} {meth : Method} {c : Code} {cells slots : Nat} {Q : State → Prop} {cc : ByteArray} {nL : Nat} {own : String} {G : Gt} {σ : Sg} {pc : Nat} {L : List (Option Value)} {st : List Value}
theorem wl_pat (G : Gt) (σ : Sg) {a : Nat} (h : a ∈ σ.2.2.2.1) : ∃ q0 : Nat, (wl G σ)[q0]? = some (a, pe σ.2.2.2 a) := List.getElem?_of_mem (List.mem_append_right _ (List.mem_map.mpr ⟨a, h, rfl⟩))
/-- the kinds: number of the class in the worlds, its name, its fields -/
def kinds : List (Nat × String × u_T) := [(1, RX1, TX1), (2, RX2, TX2), (3, RX3, TX3), (4, RX5, TX5), (9, RX10, TX10)]
theorem gp_0 (C : Cx p s m args c cc nL own) {a : Nat} (hs : Ps σ) (ha : a ∈ σ.2.2.2.1) {index : Nat} (hq : Cond.fieldLink own index "LeanTower$Person" "number" "I" ∈ WA) (d : decode cc pc = .ok (.getfield index, 3)) (kk : MW p l e R s m args below meth c Q nL G cells slots (pc + 3) L (.int (σ.2.2.2.2.2 a 0) :: st) σ) : MW p l e R s m args below meth c Q nL G cells slots pc L (.ref a :: st) σ := fun H locs ls hw hl => by
  obtain ⟨q0, h0⟩ := wl_pat G σ ha
  have hk := hs.2 a ha
  simp only [List.mem_cons, List.not_mem_nil, or_false] at hk
  unfold pe at h0
  rcases hk with hk | hk | hk | hk | hk <;> rw [hk] at h0
  · exact va_get (ref := "LeanTower$Person") (C := RX1) (T := TX1) (N := 3) C.1 C.2.1 C.2.2.2.2 in_1 C.2.2.2.1 hw.1.1 hw.2.1 q0 h0 rfl 0 (by decide) (C.2.2.2.2 _ hq) (fun _ h => h) rfl d (kk H locs ls hw hl)
  · exact va_get (ref := "LeanTower$Person") (C := RX2) (T := TX2) (N := 3) C.1 C.2.1 C.2.2.2.2 in_2 C.2.2.2.1 hw.1.1 hw.2.1 q0 h0 rfl 0 (by decide) (C.2.2.2.2 _ hq) (fun _ h => h) rfl d (kk H locs ls hw hl)
  · exact va_get (ref := "LeanTower$Person") (C := RX3) (T := TX3) (N := 3) C.1 C.2.1 C.2.2.2.2 in_3 C.2.2.2.1 hw.1.1 hw.2.1 q0 h0 rfl 0 (by decide) (C.2.2.2.2 _ hq) (fun _ h => h) rfl d (kk H locs ls hw hl)
  · exact va_get (ref := "LeanTower$Person") (C := RX5) (T := TX5) (N := 3) C.1 C.2.1 C.2.2.2.2 in_5 C.2.2.2.1 hw.1.1 hw.2.1 q0 h0 rfl 0 (by decide) (C.2.2.2.2 _ hq) (fun _ h => h) rfl d (kk H locs ls hw hl)
  · exact va_get (ref := "LeanTower$Person") (C := RX10) (T := TX10) (N := 3) C.1 C.2.1 C.2.2.2.2 in_10 C.2.2.2.1 hw.1.1 hw.2.1 q0 h0 rfl 0 (by decide) (C.2.2.2.2 _ hq) (fun _ h => h) rfl d (kk H locs ls hw hl)
theorem gp_1 (C : Cx p s m args c cc nL own) {a : Nat} (hs : Ps σ) (ha : a ∈ σ.2.2.2.1) {index : Nat} (hq : Cond.fieldLink own index "LeanTower$Person" "burden" "I" ∈ WA) (d : decode cc pc = .ok (.getfield index, 3)) (kk : MW p l e R s m args below meth c Q nL G cells slots (pc + 3) L (.int (σ.2.2.2.2.2 a 1) :: st) σ) : MW p l e R s m args below meth c Q nL G cells slots pc L (.ref a :: st) σ := fun H locs ls hw hl => by
  obtain ⟨q0, h0⟩ := wl_pat G σ ha
  have hk := hs.2 a ha
  simp only [List.mem_cons, List.not_mem_nil, or_false] at hk
  unfold pe at h0
  rcases hk with hk | hk | hk | hk | hk <;> rw [hk] at h0
  · exact va_get (ref := "LeanTower$Person") (C := RX1) (T := TX1) (N := 3) C.1 C.2.1 C.2.2.2.2 in_1 C.2.2.2.1 hw.1.1 hw.2.1 q0 h0 rfl 1 (by decide) (C.2.2.2.2 _ hq) (fun _ h => h) rfl d (kk H locs ls hw hl)
  · exact va_get (ref := "LeanTower$Person") (C := RX2) (T := TX2) (N := 3) C.1 C.2.1 C.2.2.2.2 in_2 C.2.2.2.1 hw.1.1 hw.2.1 q0 h0 rfl 1 (by decide) (C.2.2.2.2 _ hq) (fun _ h => h) rfl d (kk H locs ls hw hl)
  · exact va_get (ref := "LeanTower$Person") (C := RX3) (T := TX3) (N := 3) C.1 C.2.1 C.2.2.2.2 in_3 C.2.2.2.1 hw.1.1 hw.2.1 q0 h0 rfl 1 (by decide) (C.2.2.2.2 _ hq) (fun _ h => h) rfl d (kk H locs ls hw hl)
  · exact va_get (ref := "LeanTower$Person") (C := RX5) (T := TX5) (N := 3) C.1 C.2.1 C.2.2.2.2 in_5 C.2.2.2.1 hw.1.1 hw.2.1 q0 h0 rfl 1 (by decide) (C.2.2.2.2 _ hq) (fun _ h => h) rfl d (kk H locs ls hw hl)
  · exact va_get (ref := "LeanTower$Person") (C := RX10) (T := TX10) (N := 3) C.1 C.2.1 C.2.2.2.2 in_10 C.2.2.2.1 hw.1.1 hw.2.1 q0 h0 rfl 1 (by decide) (C.2.2.2.2 _ hq) (fun _ h => h) rfl d (kk H locs ls hw hl)
theorem gp_2 (C : Cx p s m args c cc nL own) {a : Nat} (hs : Ps σ) (ha : a ∈ σ.2.2.2.1) {index : Nat} (hq : Cond.fieldLink own index "LeanTower$Person" "pace" "I" ∈ WA) (d : decode cc pc = .ok (.getfield index, 3)) (kk : MW p l e R s m args below meth c Q nL G cells slots (pc + 3) L (.int (σ.2.2.2.2.2 a 2) :: st) σ) : MW p l e R s m args below meth c Q nL G cells slots pc L (.ref a :: st) σ := fun H locs ls hw hl => by
  obtain ⟨q0, h0⟩ := wl_pat G σ ha
  have hk := hs.2 a ha
  simp only [List.mem_cons, List.not_mem_nil, or_false] at hk
  unfold pe at h0
  rcases hk with hk | hk | hk | hk | hk <;> rw [hk] at h0
  · exact va_get (ref := "LeanTower$Person") (C := RX1) (T := TX1) (N := 3) C.1 C.2.1 C.2.2.2.2 in_1 C.2.2.2.1 hw.1.1 hw.2.1 q0 h0 rfl 2 (by decide) (C.2.2.2.2 _ hq) (fun _ h => h) rfl d (kk H locs ls hw hl)
  · exact va_get (ref := "LeanTower$Person") (C := RX2) (T := TX2) (N := 3) C.1 C.2.1 C.2.2.2.2 in_2 C.2.2.2.1 hw.1.1 hw.2.1 q0 h0 rfl 2 (by decide) (C.2.2.2.2 _ hq) (fun _ h => h) rfl d (kk H locs ls hw hl)
  · exact va_get (ref := "LeanTower$Person") (C := RX3) (T := TX3) (N := 3) C.1 C.2.1 C.2.2.2.2 in_3 C.2.2.2.1 hw.1.1 hw.2.1 q0 h0 rfl 2 (by decide) (C.2.2.2.2 _ hq) (fun _ h => h) rfl d (kk H locs ls hw hl)
  · exact va_get (ref := "LeanTower$Person") (C := RX5) (T := TX5) (N := 3) C.1 C.2.1 C.2.2.2.2 in_5 C.2.2.2.1 hw.1.1 hw.2.1 q0 h0 rfl 2 (by decide) (C.2.2.2.2 _ hq) (fun _ h => h) rfl d (kk H locs ls hw hl)
  · exact va_get (ref := "LeanTower$Person") (C := RX10) (T := TX10) (N := 3) C.1 C.2.1 C.2.2.2.2 in_10 C.2.2.2.1 hw.1.1 hw.2.1 q0 h0 rfl 2 (by decide) (C.2.2.2.2 _ hq) (fun _ h => h) rfl d (kk H locs ls hw hl)
theorem al_7 (C : Cx p s m args c cc nL own) {i : Int32} {a b : Int} {n : Nat} (hi : IV i a b) (hh : 0 ≤ a ∧ b ≤ 7) (hn : i.toInt.toNat = n) (d : decode cc pc = .ok (.aaload, 1)) (kk : MW p l e R s m args below meth c Q nL G cells slots (pc + 1) L ((.ref (G.1 20 n)) :: st) σ) : MW p l e R s m args below meth c Q nL G cells slots pc L (.int i :: .ref (G.1 7 0) :: st) σ := fun H locs ls hw hl => by
  subst hn
  obtain ⟨q0, h0, -⟩ := wl_at G σ (t := 7) (j := 0) (by decide) (by decide)
  exact va_aldq C.1 C.2.1 hw.1.1 hw.2.1 q0 4 h0 rfl (ivIn (n := 8) (by obtain ⟨h1, h2⟩ := hi; omega)) d (kk H locs ls hw hl)
theorem al_8 (C : Cx p s m args c cc nL own) {i : Int32} {a b : Int} {n : Nat} (hi : IV i a b) (hh : 0 ≤ a ∧ b ≤ 23) (hn : i.toInt.toNat = n) (d : decode cc pc = .ok (.aaload, 1)) (kk : MW p l e R s m args below meth c Q nL G cells slots (pc + 1) L ((.ref (G.1 1 (n + 2))) :: st) σ) : MW p l e R s m args below meth c Q nL G cells slots pc L (.int i :: .ref (G.1 8 0) :: st) σ := fun H locs ls hw hl => by
  subst hn
  obtain ⟨q0, h0, -⟩ := wl_at G σ (t := 8) (j := 0) (by decide) (by decide)
  exact va_aldq C.1 C.2.1 hw.1.1 hw.2.1 q0 5 h0 rfl (ivIn (n := 24) (by obtain ⟨h1, h2⟩ := hi; omega)) d (kk H locs ls hw hl)
theorem al_9 (C : Cx p s m args c cc nL own) {i : Int32} {a b : Int} {n : Nat} (hi : IV i a b) (hh : 0 ≤ a ∧ b ≤ 1) (hn : i.toInt.toNat = n) (d : decode cc pc = .ok (.aaload, 1)) (kk : MW p l e R s m args below meth c Q nL G cells slots (pc + 1) L ((.ref (G.1 1 (n + 26))) :: st) σ) : MW p l e R s m args below meth c Q nL G cells slots pc L (.int i :: .ref (G.1 9 0) :: st) σ := fun H locs ls hw hl => by
  subst hn
  obtain ⟨q0, h0, -⟩ := wl_at G σ (t := 9) (j := 0) (by decide) (by decide)
  exact va_aldq C.1 C.2.1 hw.1.1 hw.2.1 q0 5 h0 rfl (ivIn (n := 2) (by obtain ⟨h1, h2⟩ := hi; omega)) d (kk H locs ls hw hl)
theorem al_6 (C : Cx p s m args c cc nL own) {j : Nat} (hj : j < 28) {i : Int32} {a b : Int} {n : Nat} (hi : IV i a b) (hh : 0 ≤ a ∧ b ≤ 6) (hn : i.toInt.toNat = n) (d : decode cc pc = .ok (.aaload, 1)) (kn : σ.2.1 j n = none → MW p l e R s m args below meth c Q nL G cells slots (pc + 1) L (.null :: st) σ) (kk : ∀ x : Nat, σ.2.1 j n = some x → MW p l e R s m args below meth c Q nL G cells slots (pc + 1) L (.ref x :: st) σ) : MW p l e R s m args below meth c Q nL G cells slots pc L (.int i :: .ref (G.1 6 j) :: st) σ := fun H locs ls hw hl => by
  subst hn
  obtain ⟨q0, h0, -⟩ := wl_at G σ (t := 6) (j := j) (by decide) hj
  refine va_aldq C.1 C.2.1 hw.1.1 hw.2.1 q0 3 h0 rfl (ivIn (n := 7) (by obtain ⟨h1, h2⟩ := hi; omega)) d ?_
  show W p l e R s m args below meth c H locs cells slots Q (F0 m (pc + 1) ls (va_rf (σ.2.1 j i.toInt.toNat) :: st))
  cases hq : σ.2.1 j i.toInt.toNat with
  | none => exact kn hq H locs ls hw hl
  | some x => exact kk x hq H locs ls hw hl
/-- a person's row changes at one place -/
def sQ (σ : Sg) (j k : Nat) (v : Option Nat) : Sg := (σ.1, (fun j' k' => if j' = j ∧ k' = k then v else σ.2.1 j' k'), σ.2.2)
theorem sQ_row (σ : Sg) (j k : Nat) (v : Option Nat) : (sQ σ j k v).2.1 j = va_up (σ.2.1 j) k v := by
  funext q
  by_cases h : q = k <;> simp [sQ, va_up, h]
theorem sQ_ce {G : Gt} {σ : Sg} {j k : Nat} {v : Option Nat} : ∀ t' j', (t', j') ∈ idl → (t' ≠ 6 ∨ j' ≠ j) → ce G (sQ σ j k v) t' j' = ce G σ t' j' := fun t' j' hm h => by
  by_cases g : t' = 6
  · subst g
    have hj : j' ≠ j := h.elim (fun q => absurd rfl q) id
    show Sum.inl (G.2.2.1 3, 7, Sum.inr (Sum.inr (Sum.inr (Sum.inr ((sQ σ j k v).2.1 j'))))) = Sum.inl (G.2.2.1 3, 7, Sum.inr (Sum.inr (Sum.inr (Sum.inr (σ.2.1 j')))))
    have e : (sQ σ j k v).2.1 j' = σ.2.1 j' := by funext q; simp [sQ, hj]
    rw [e]
  · have ht := (idl_lt hm).1
    unfold ce ceF
    split <;> first | rfl | exact absurd rfl g
theorem Ps.put {σ : Sg} (h : Ps σ) {j k : Nat} {v : Option Nat} (hv : ∀ a, v = some a → a ∈ σ.2.2.2.1) : Ps (sQ σ j k v) := ⟨fun j' k' a q => by
  by_cases g : j' = j ∧ k' = k
  · simp only [sQ, g, and_self, if_true] at q
    exact hv a q
  · simp only [sQ, g, if_false] at q
    exact h.1 j' k' a q, h.2⟩
theorem Inv.putQ {σ : Sg} (h : Inv σ) {j k : Nat} {v : Option Nat} (hv : ∀ a, v = some a → a ∈ σ.2.2.2.1) : Inv (sQ σ j k v) := ⟨h.1, h.2.1, h.2.2.put hv⟩
theorem Fr.putQ {MM : List (Nat × Nat)} {AA : List Nat} {σ τ : Sg} (h : Fr MM AA σ τ) {j k : Nat} {v : Option Nat} (h6 : 6 ∈ AA) : Fr MM AA σ (sQ τ j k v) := ⟨h.1, fun q => absurd h6 q, h.2.2⟩
theorem gV_putQ {σ τ : Sg} {t' j' k' j k : Nat} {v : Option Nat} {w : Int32} (e : τ = sQ σ j k v) (h : gV (sQ σ j k v) t' j' k' = w) : gV τ t' j' k' = w := by rw [e]; exact h
theorem as_6N (C : Cx p s m args c cc nL own) {j : Nat} (hj : j < 28) {i : Int32} {a b : Int} (hi : IV i a b) (hh : 0 ≤ a ∧ b ≤ 6) (d : decode cc pc = .ok (.aastore, 1)) (kk : MW p l e R s m args below meth c Q nL G cells slots (pc + 1) L st (sQ σ j i.toInt.toNat none)) : MW p l e R s m args below meth c Q nL G cells slots pc L (.null :: .int i :: .ref (G.1 6 j) :: st) σ := fun H locs ls hw hl => by
  obtain ⟨q0, h0, hi0⟩ := wl_at G σ (t := 6) (j := j) (by decide) hj
  refine va_astqN C.1 C.2.1 hw.1.1 hw.2.1 hw.2.2.1 hw.2.2.2.1 q0 3 h0 rfl (ivIn (n := 7) (by obtain ⟨h1, h2⟩ := hi; omega)) d (fun H1 locs1 hP hD hS => ?_)
  have e := wl_set (σ' := sQ σ j i.toInt.toNat none) (e := Sum.inl (G.2.2.1 3, 7, Sum.inr (Sum.inr (Sum.inr (Sum.inr (va_up (σ.2.1 j) i.toInt.toNat none)))))) hw.2.2.1 h0 hi0 rfl (by show _ = Sum.inl (G.2.2.1 3, 7, Sum.inr (Sum.inr (Sum.inr (Sum.inr ((sQ σ j i.toInt.toNat none).2.1 j))))); rw [sQ_row]) sQ_ce
  exact kk H1 locs1 ls ⟨hw.1, by rw [← e]; exact hP, by rw [← e]; exact hD, hS, hw.2.2.2.2⟩ hl
theorem any_person {s : State} {H : Heap} {locs : List Loc} {a : Nat} (hw : Wd G s σ H locs) (hs : Ps σ) (ha : a ∈ σ.2.2.2.1) : va_Any "LeanTower$Person" s H a := by
  obtain ⟨q0, h0⟩ := wl_pat G σ ha
  have hk := hs.2 a ha
  simp only [List.mem_cons, List.not_mem_nil, or_false] at hk
  unfold pe at h0
  have cs : ∀ C1 : String, (C1, RX4) ∈ ca_l → ∀ comp c0 : ClassId, s.vm.findClass "LeanTower$Person" = some comp → s.vm.findClass C1 = some c0 → s.vm.assignable c0 comp = true := by
    intro C1 hm comp c0 e1 e2
    obtain ⟨c1, t1, f1, f2, f3⟩ := Cond.castable_spec (va_Nw.use (A := #[]) rfl (hw.1.2.2.2.2.2.1 _ hm))
    cases e2.symm.trans f1
    cases e1.symm.trans f2
    exact f3
  rcases hk with hk | hk | hk | hk | hk <;> rw [hk] at h0
  · exact va_rAny hw.1.1 hw.2.1 h0 (r := (RX1, TX1, 3)) rfl (cs RX1 (by decide))
  · exact va_rAny hw.1.1 hw.2.1 h0 (r := (RX2, TX2, 3)) rfl (cs RX2 (by decide))
  · exact va_rAny hw.1.1 hw.2.1 h0 (r := (RX3, TX3, 3)) rfl (cs RX3 (by decide))
  · exact va_rAny hw.1.1 hw.2.1 h0 (r := (RX5, TX5, 3)) rfl (cs RX5 (by decide))
  · exact va_rAny hw.1.1 hw.2.1 h0 (r := (RX10, TX10, 3)) rfl (cs RX10 (by decide))
theorem as_6 (C : Cx p s m args c cc nL own) {j : Nat} (hj : j < 28) {i : Int32} {a b : Int} {x : Nat} (hs : Ps σ) (hx : x ∈ σ.2.2.2.1) (hi : IV i a b) (hh : 0 ≤ a ∧ b ≤ 6) (d : decode cc pc = .ok (.aastore, 1)) (kk : MW p l e R s m args below meth c Q nL G cells slots (pc + 1) L st (sQ σ j i.toInt.toNat (some x))) : MW p l e R s m args below meth c Q nL G cells slots pc L (.ref x :: .int i :: .ref (G.1 6 j) :: st) σ := fun H locs ls hw hl => by
  obtain ⟨q0, h0, hi0⟩ := wl_at G σ (t := 6) (j := j) (by decide) hj
  refine va_astqM (E := "LeanTower$Person") C.1 C.2.1 hw.1.1 hw.2.1 hw.2.2.1 hw.2.2.2.1 q0 3 h0 rfl (any_person hw hs hx) (ivIn (n := 7) (by obtain ⟨h1, h2⟩ := hi; omega)) d (fun H1 locs1 hP hD hS => ?_)
  have e := wl_set (σ' := sQ σ j i.toInt.toNat (some x)) (e := Sum.inl (G.2.2.1 3, 7, Sum.inr (Sum.inr (Sum.inr (Sum.inr (va_up (σ.2.1 j) i.toInt.toNat (some x))))))) hw.2.2.1 h0 hi0 rfl (by show _ = Sum.inl (G.2.2.1 3, 7, Sum.inr (Sum.inr (Sum.inr (Sum.inr ((sQ σ j i.toInt.toNat (some x)).2.1 j))))); rw [sQ_row]) sQ_ce
  exact kk H1 locs1 ls ⟨hw.1, by rw [← e]; exact hP, by rw [← e]; exact hD, hS, hw.2.2.2.2⟩ hl
theorem m_max (C : Cx p s m args c cc nL own) {x y : Int32} {index : Nat} (ql : Cond.methodLink own index Lib.Math.max.name ∈ WA) (qs : Cond.static Lib.Math.max.name ∈ WA) (qi : Cond.initialized "java/lang/Math" ∈ WA) (qc : Cond.code Lib.Math.max.name Lib.Math.max.code 2 (some .int) ∈ WA) (hR : 1 ≤ R.frames ∧ (st.map fun v => v.category).sum + 13 ≤ R.locals) (hf : cells ≤ R.cells ∧ slots ≤ R.slots) (d : decode cc pc = .ok (.invokestatic index, 3)) (kk : ∀ z : Int32, z = (if x < y then y else x) → MW p l e R s m args below meth c Q nL G cells slots (pc + 3) L (.int z :: st) σ) : MW p l e R s m args below meth c Q nL G cells slots pc L (.int y :: .int x :: st) σ := fun H locs ls hw hl => va_mmax C.1 C.2.1 (C.2.2.1.trans hl.1.symm) C.2.2.2.1 (C.2.2.2.2 _ ql) (C.2.2.2.2 _ qs) (C.2.2.2.2 _ qi) (C.2.2.2.2 _ qc) hR.1 hR.2 hf.1 hf.2 d (kk _ rfl H locs ls hw hl)
theorem m_min (C : Cx p s m args c cc nL own) {x y : Int32} {index : Nat} (ql : Cond.methodLink own index Lib.Math.min.name ∈ WA) (qs : Cond.static Lib.Math.min.name ∈ WA) (qi : Cond.initialized "java/lang/Math" ∈ WA) (qc : Cond.code Lib.Math.min.name Lib.Math.min.code 2 (some .int) ∈ WA) (hR : 1 ≤ R.frames ∧ (st.map fun v => v.category).sum + 13 ≤ R.locals) (hf : cells ≤ R.cells ∧ slots ≤ R.slots) (d : decode cc pc = .ok (.invokestatic index, 3)) (kk : ∀ z : Int32, z = (if y < x then y else x) → MW p l e R s m args below meth c Q nL G cells slots (pc + 3) L (.int z :: st) σ) : MW p l e R s m args below meth c Q nL G cells slots pc L (.int y :: .int x :: st) σ := fun H locs ls hw hl => va_mmin C.1 C.2.1 (C.2.2.1.trans hl.1.symm) C.2.2.2.1 (C.2.2.2.2 _ ql) (C.2.2.2.2 _ qs) (C.2.2.2.2 _ qi) (C.2.2.2.2 _ qc) hR.1 hR.2 hf.1 hf.2 d (kk _ rfl H locs ls hw hl)
theorem m_abs (C : Cx p s m args c cc nL own) {x : Int32} {index : Nat} (ql : Cond.methodLink own index Lib.Math.abs.name ∈ WA) (qs : Cond.static Lib.Math.abs.name ∈ WA) (qi : Cond.initialized "java/lang/Math" ∈ WA) (qc : Cond.code Lib.Math.abs.name Lib.Math.abs.code 1 (some .int) ∈ WA) (hR : 1 ≤ R.frames ∧ (st.map fun v => v.category).sum + 13 ≤ R.locals) (hf : cells ≤ R.cells ∧ slots ≤ R.slots) (d : decode cc pc = .ok (.invokestatic index, 3)) (kk : ∀ z : Int32, z = (if 0 ≤ x then x else 0 - x) → MW p l e R s m args below meth c Q nL G cells slots (pc + 3) L (.int z :: st) σ) : MW p l e R s m args below meth c Q nL G cells slots pc L (.int x :: st) σ := fun H locs ls hw hl => va_mabs C.1 C.2.1 (C.2.2.1.trans hl.1.symm) C.2.2.2.1 (C.2.2.2.2 _ ql) (C.2.2.2.2 _ qs) (C.2.2.2.2 _ qi) (C.2.2.2.2 _ qc) hR.1 hR.2 hf.1 hf.2 d (kk _ rfl H locs ls hw hl)
theorem ti_max {x y z : Int32} (e : z = if x < y then y else x) : z.toInt = max x.toInt y.toInt := by
  by_cases h : x < y
  · rw [if_pos h] at e
    subst e
    rw [ti_lt] at h
    omega
  · rw [if_neg h] at e
    subst e
    rw [ti_nlt] at h
    omega
theorem ti_min {x y z : Int32} (e : z = if y < x then y else x) : z.toInt = min x.toInt y.toInt := by
  by_cases h : y < x
  · rw [if_pos h] at e
    subst e
    rw [ti_lt] at h
    omega
  · rw [if_neg h] at e
    subst e
    rw [ti_nlt] at h
    omega
/-- a whole row changes -/
def sR (σ : Sg) (t j : Nat) (f : Nat → Int32) : Sg := ((fun t' j' => if t' = t ∧ j' = j then f else σ.1 t' j'), σ.2)
theorem sR_ce {G : Gt} {σ : Sg} {t j : Nat} {f : Nat → Int32} : ∀ t' j', (t', j') ∈ idl → (t' ≠ t ∨ j' ≠ j) → ce G (sR σ t j f) t' j' = ce G σ t' j' := fun t' j' _ h => by
  unfold ce
  have e : (sR σ t j f).1 t' j' = σ.1 t' j' := by rcases h with h | h <;> simp [sR, h]
  rw [e]
  rfl
theorem sR_row (σ : Sg) (t j : Nat) (f : Nat → Int32) : (sR σ t j f).1 t j = f := by simp [sR]
theorem gV_sR {σ : Sg} {t j t' j' k' : Nat} {f : Nat → Int32} (h : t' ≠ t ∨ j' ≠ j) : gV (sR σ t j f) t' j' k' = gV σ t' j' k' := by
  rcases h with h | h <;> simp [gV, sR, h]
theorem gV_sRs (σ : Sg) (t j k : Nat) (f : Nat → Int32) : gV (sR σ t j f) t j k = f k := by simp [gV, sR]
theorem Inv.putRow {σ : Sg} (h : Inv σ) {t j : Nat} {f : Nat → Int32} (ht : t ≠ 23) (hm : ∀ k, bT t k = mm) : Inv (sR σ t j f) := by
  refine ⟨fun t' j' k' => ?_, fun b q hb hb3 hq => ?_, h.2.2⟩
  · by_cases g : t' = t ∧ j' = j
    · obtain ⟨rfl, rfl⟩ := g
      rw [hm]
      exact iv_any _
    · rw [gV_sR (by by_cases g1 : t' = t; · exact Or.inr (fun z => g ⟨g1, z⟩)
                    · exact Or.inl g1)]
      exact h.1 t' j' k'
  · rw [gV_sR (Or.inl (Ne.symm ht)), gV_sR (Or.inl (Ne.symm ht))]
    exact h.2.1 b q hb hb3 hq
theorem Fr.putRow {MM : List (Nat × Nat)} {AA : List Nat} {σ τ : Sg} (h : Fr MM AA σ τ) {t j : Nat} {f : Nat → Int32} (ht : t ∈ AA) : Fr MM AA σ (sR τ t j f) := ⟨fun t' j' k' h1 h2 => (gV_sR (Or.inl (fun q => h2 (by rw [q]; exact ht)))).trans (h.1 t' j' k' h1 h2), h.2⟩
theorem m_copy (C : Cx p s m args c cc nL own) {t0 j0 n0 t1 j1 n1 : Nat} (h0 : t0 < 32) (hj0 : j0 < nj t0) (hc0 : ce G σ t0 j0 = .inl (G.2.2.1 0, n0, .inl (σ.1 t0 j0))) (h1 : t1 < 32) (hj1 : j1 < nj t1) (hc1 : ∀ τ : Sg, ce G τ t1 j1 = .inl (G.2.2.1 0, n1, .inl (τ.1 t1 j1))) {sp dp n : Int32} (hin : 0 ≤ sp.toInt ∧ 0 ≤ dp.toInt ∧ 0 ≤ n.toInt ∧ sp.toInt + n.toInt ≤ n0 ∧ dp.toInt + n.toInt ≤ n1) {index : Nat} (ql : Cond.methodLink own index arraycopyName ∈ WA) (qn : Cond.native arraycopyName ∈ WA) (qs : Cond.static arraycopyName ∈ WA) (qi : Cond.initialized "java/lang/System" ∈ WA) (hR : 1 ≤ R.frames ∧ (st.map fun v => v.category).sum + (nativeFrameWords "java/lang/System" "arraycopy" 5 + 11) ≤ R.locals) (d : decode cc pc = .ok (.invokestatic index, 3))
    (kk : MW p l e R s m args below meth c Q nL G cells slots (pc + 3) L st (sR σ t1 j1 (va_cpy (σ.1 t0 j0) (σ.1 t1 j1) sp.toInt.toNat dp.toInt.toNat n.toInt.toNat))) : MW p l e R s m args below meth c Q nL G cells slots pc L (.int n :: .int dp :: .ref (G.1 t1 j1) :: .int sp :: .ref (G.1 t0 j0) :: st) σ := fun H locs ls hw hl => by
  obtain ⟨q0, a0, -⟩ := wl_at G σ h0 hj0
  obtain ⟨q1, a1, hi1⟩ := wl_at G σ h1 hj1
  have b1 := a1
  rw [hc0] at a0
  rw [hc1] at b1
  have e0 : (0 : Int32).toInt = 0 := by decide
  refine va_copyi (ty := .int) C.1 C.2.1 (C.2.2.1.trans hl.1.symm) C.2.2.2.1 (C.2.2.2.2 _ ql) (C.2.2.2.2 _ qn) (C.2.2.2.2 _ qs) (C.2.2.2.2 _ qi) hw.1.1 hw.2.1 hw.2.2.1 hw.2.2.2.1 q0 q1 0 0 a0 b1 rfl rfl rfl (by rw [ti_nlt]; omega) (by rw [ti_nlt]; omega) (by rw [ti_nlt]; omega) (by show sp.toInt.toNat + n.toInt.toNat ≤ n0; omega) (by show dp.toInt.toNat + n.toInt.toNat ≤ n1; omega) (fun _ _ => rfl) hR.1 hR.2 d (fun H1 locs1 hP hD hS => ?_)
  have e := wl_set (σ' := sR σ t1 j1 (va_cpy (σ.1 t0 j0) (σ.1 t1 j1) sp.toInt.toNat dp.toInt.toNat n.toInt.toNat)) (e := Sum.inl (G.2.2.1 0, n1, .inl (va_cpy (σ.1 t0 j0) (σ.1 t1 j1) sp.toInt.toNat dp.toInt.toNat n.toInt.toNat))) hw.2.2.1 a1 hi1 rfl (by rw [hc1, sR_row]) sR_ce
  exact kk H1 locs1 ls ⟨hw.1, by rw [← e]; exact hP, by rw [← e]; exact hD, hS, hw.2.2.2.2⟩ hl
theorem m_ldcw (C : Cx p s m args c cc nL own) {index : Nat} {v : Int32} (d : decode cc pc = .ok (.ldc_w index, 3)) (hq : Cond.constant own index v ∈ WA) (k : MW p l e R s m args below meth c Q nL G cells slots (pc + 3) L (.int v :: st) σ) : MW p l e R s m args below meth c Q nL G cells slots pc L st σ := fun H locs ls hw hl => lv_ldcw C.1 C.2.1 C.2.2.2.1 (C.2.2.2.2 _ hq) d (k H locs ls hw hl)
end PER
