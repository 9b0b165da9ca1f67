/-! ===== the world as one state: numbers by (sort t, which j, place k), the persons' rows, the letters, the persons ===== -/
abbrev Sg : Type := (Nat → Nat → Nat → Int32) × (Nat → Nat → Option Nat) × Int64 × List Nat × (Nat → Nat) × (Nat → Nat → Int32)
/-- addresses; classes and slots; the arrays' classes; the first address that is ours; the texts' cells -/
abbrev Gt : Type := (Nat → Nat → Nat) × va_G × (Nat → ClassId) × Nat × (Nat → Nat) × (Nat → Nat)
def gV (σ : Sg) (t j k : Nat) : Int32 := σ.1 t j k
def sV (σ : Sg) (t j k : Nat) (v : Int32) : Sg := (fun t' j' k' => if t' = t ∧ k' = k ∧ j' = j then v else σ.1 t' j' k', σ.2)
def ceF (G : Gt) (x : (Nat → Nat → Option Nat) × Int64 × List Nat × (Nat → Nat) × (Nat → Nat → Int32)) (t j : Nat) (r : Nat → Int32) : va_E := match t with
  | 0 => .inr (10, [.ref (G.1 7 0), .ref (G.1 12 0), .ref (G.1 1 0), .ref (G.1 1 1), .ref (G.1 8 0), .int (r 5), .int (r 6), .ref (G.1 9 0), .ref (G.1 14 0), .ref (G.1 16 0), .ref (G.1 10 0), .ref (G.1 11 0), .int (r 12)])
  | 1 => .inr (7, [.int (r 0), .int (r 1), .int (r 2), .int (r 3), .ref (G.1 6 j), .ref (G.1 2 j), .ref (G.1 3 j), .ref (G.1 4 j), .ref (G.1 5 j), .int (r 9), .int (r 10), .int (r 11)])
  | 2 => .inl (G.2.2.1 0, 7, .inl r)
  | 3 => .inl (G.2.2.1 0, 7, .inl r)
  | 4 => .inl (G.2.2.1 0, 4, .inl r)
  | 5 => .inl (G.2.2.1 0, 4, .inl r)
  | 6 => .inl (G.2.2.1 3, 7, .inr (.inr (.inr (.inr (x.1 j)))))
  | 7 => .inl (G.2.2.1 4, 8, .inr (.inr (.inr (.inr (fun i => some (G.1 20 i))))))
  | 8 => .inl (G.2.2.1 5, 24, .inr (.inr (.inr (.inr (fun i => some (G.1 1 (i + 2)))))))
  | 9 => .inl (G.2.2.1 5, 2, .inr (.inr (.inr (.inr (fun i => some (G.1 1 (i + 26)))))))
  | 10 => .inl (G.2.2.1 2, 128, .inl r)
  | 11 => .inl (G.2.2.1 0, 4, .inl r)
  | 12 => .inr (5, [.ref (G.1 13 0), .int (r 1), .int (r 2), .int (r 3), .int (r 4), .int (r 5), .int (r 6), .int (r 7)])
  | 13 => .inl (G.2.2.1 1, 400, .inl r)
  | 14 => .inr (8, [.ref (G.1 15 0), .int (r 1)])
  | 15 => .inl (G.2.2.1 0, 16, .inl r)
  | 16 => .inr (0, [.ref (G.1 17 0), .ref (G.1 18 0), .int (r 2), .ref (G.1 19 0), .int (r 4)])
  | 17 => .inl (G.2.2.1 0, 5, .inl r)
  | 18 => .inl (G.2.2.1 0, 5, .inl r)
  | 19 => .inl (G.2.2.1 0, 5, .inl r)
  | 20 => .inr (6, [.ref (G.1 21 j), .int (r 1), .int (r 2)])
  | 21 => .inl (G.2.2.1 0, 40, .inl r)
  | 22 => .inr (11, [.ref (G.1 23 0), .ref (G.1 24 0), .ref (G.1 25 0), .ref (G.1 26 0), .ref (G.1 27 0), .ref (G.1 28 0), .int (r 6), .int (r 7), .int (r 8), .int (r 9), .ref (G.1 29 0), .int (r 11), .int (r 12), .int (r 13), .long x.2.1, .int (r 15), .int (r 16), .int (r 17), .ref (G.1 30 0), .ref (G.1 31 0), .int (r 20)])
  | 23 => .inl (G.2.2.1 0, 1450, .inl r)
  | 24 => .inl (G.2.2.1 2, 2, .inl r)
  | 25 => .inl (G.2.2.1 0, 320, .inl r)
  | 26 => .inl (G.2.2.1 0, 8, .inl r)
  | 27 => .inl (G.2.2.1 0, 8, .inl r)
  | 28 => .inl (G.2.2.1 0, 400, .inl r)
  | 29 => .inl (G.2.2.1 0, 40, .inl r)
  | 30 => .inl (G.2.2.1 2, 128, .inl r)
  | _ => .inl (G.2.2.1 0, 16, .inl r)
def ce (G : Gt) (σ : Sg) (t j : Nat) : va_E := ceF G σ.2 t j (σ.1 t j)
/-- a person's cell -/
def pe (x : List Nat × (Nat → Nat) × (Nat → Nat → Int32)) (a : Nat) : va_E := .inr (x.2.1 a, [.int (x.2.2 a 0), .int (x.2.2 a 1), .int (x.2.2 a 2)])
def nj (t : Nat) : Nat := if 1 ≤ t ∧ t ≤ 6 then 28 else if t = 20 ∨ t = 21 then 8 else 1
def idl : List (Nat × Nat) := (List.range 32).flatMap (fun t => (List.range (nj t)).map (fun j => (t, j)))
theorem idl_mem {t j : Nat} (h : t < 32) (hj : j < nj t) : (t, j) ∈ idl := List.mem_flatMap.mpr ⟨t, List.mem_range.mpr h, List.mem_map.mpr ⟨j, List.mem_range.mpr hj, rfl⟩⟩
theorem idl_lt {t j : Nat} (h : (t, j) ∈ idl) : t < 32 ∧ j < nj t := by
  obtain ⟨t', h1, h2⟩ := List.mem_flatMap.mp h
  obtain ⟨j', h3, h4⟩ := List.mem_map.mp h2
  cases h4
  exact ⟨List.mem_range.mp h1, List.mem_range.mp h3⟩
def wl (G : Gt) (σ : Sg) : va_W := idl.map (fun q => (G.1 q.1 q.2, ce G σ q.1 q.2)) ++ σ.2.2.2.1.map (fun a => (a, pe σ.2.2.2 a))
theorem wl_at (G : Gt) (σ : Sg) {t j : Nat} (h : t < 32) (hj : j < nj t) : ∃ q0 : Nat, (wl G σ)[q0]? = some (G.1 t j, ce G σ t j) ∧ idl[q0]? = some (t, j) := by
  obtain ⟨q0, h0⟩ := List.getElem?_of_mem (idl_mem h hj)
  have hl := (List.getElem?_eq_some_iff.mp h0).1
  refine ⟨q0, ?_, h0⟩
  unfold wl
  rw [List.getElem?_append_left (by rw [List.length_map]; exact hl), List.getElem?_map, h0]
  rfl
theorem wl_set {A : Nat → Prop} {G : Gt} {σ σ' : Sg} {q0 t j : Nat} {e : va_E} (hD : va_D A (wl G σ)) (h : (wl G σ)[q0]? = some (G.1 t j, ce G σ t j)) (hq : idl[q0]? = some (t, j)) (hs : σ'.2.2.2 = σ.2.2.2) (he : e = ce G σ' t j) (ho : ∀ t' j', (t', j') ∈ idl → (t' ≠ t ∨ j' ≠ j) → ce G σ' t' j' = ce G σ t' j') : (wl G σ).set q0 (G.1 t j, e) = wl G σ' := by
  subst he
  have hl := (List.getElem?_eq_some_iff.mp hq).1
  have hlw := (List.getElem?_eq_some_iff.mp h).1
  apply List.ext_getElem?
  intro k
  by_cases hk : k = q0
  · subst hk
    rw [List.getElem?_set_self hlw]
    unfold wl
    rw [List.getElem?_append_left (by rw [List.length_map]; exact hl), List.getElem?_map, hq]
    rfl
  · rw [List.getElem?_set_ne (Ne.symm hk)]
    by_cases hkl : k < idl.length
    · obtain ⟨q, hqk⟩ : ∃ q, idl[k]? = some q := ⟨_, List.getElem?_eq_some_iff.mpr ⟨hkl, rfl⟩⟩
      have e1 : ∀ τ : Sg, (wl G τ)[k]? = some (G.1 q.1 q.2, ce G τ q.1 q.2) := fun τ => by
        unfold wl
        rw [List.getElem?_append_left (by rw [List.length_map]; exact hkl), List.getElem?_map, hqk]
        rfl
      rw [e1 σ, e1 σ']
      by_cases hqe : q.1 = t ∧ q.2 = j
      · exact absurd (hD.1 k q0 _ _ (e1 σ) h (by rw [hqe.1, hqe.2])) hk
      · rw [ho q.1 q.2 (List.mem_of_getElem? hqk) (if g : q.1 = t then Or.inr (fun z => hqe ⟨g, z⟩) else Or.inl g)]
    · unfold wl
      rw [List.getElem?_append_right (by rw [List.length_map]; omega), List.getElem?_append_right (by rw [List.length_map]; omega), List.length_map, List.length_map, hs]
theorem sV_row (σ : Sg) (t j k : Nat) (v : Int32) : (sV σ t j k v).1 t j = upd (σ.1 t j) k v := by
  funext q
  by_cases h : q = k
  · subst h
    simp [sV, upd]
  · simp [sV, upd, h]
theorem sV_ne (σ : Sg) {t j t' j' : Nat} (k : Nat) (v : Int32) (h : t' ≠ t ∨ j' ≠ j) : (sV σ t j k v).1 t' j' = σ.1 t' j' := by
  funext q
  rcases h with h | h <;> simp [sV, h]
theorem ce_other {G : Gt} {σ : Sg} {t j k : Nat} {v : Int32} : ∀ t' j', (t', j') ∈ idl → (t' ≠ t ∨ j' ≠ j) → ce G (sV σ t j k v) t' j' = ce G σ t' j' := fun t' j' _ h => by
  unfold ce
  rw [sV_ne σ k v h]
  rfl
theorem ce_self {G : Gt} {σ : Sg} {t j k : Nat} {v : Int32} : ce G (sV σ t j k v) t j = ceF G σ.2 t j (upd (σ.1 t j) k v) := by
  unfold ce
  rw [sV_row]
  rfl
theorem gV_self (σ : Sg) (t j k : Nat) (v : Int32) : gV (sV σ t j k v) t j k = v := by simp [gV, sV]
theorem gV_ne {σ : Sg} {t j k t' j' k' : Nat} {v : Int32} (h : t' ≠ t ∨ j' ≠ j ∨ k' ≠ k) : gV (sV σ t j k v) t' j' k' = gV σ t' j' k' := by
  rcases h with h | h | h <;> simp [gV, sV, h]
/-- from which address on all is ours -/
def aG (G : Gt) : Nat → Prop := fun q => G.2.2.2.1 ≤ q
abbrev tyl (G : Gt) : List (ClassId × FieldType) := [(G.2.2.1 0, .int), (G.2.2.1 1, .byte), (G.2.2.1 2, .boolean), (G.2.2.1 3, .object "LeanTower$Person"), (G.2.2.1 4, .object "LeanTower$Row"), (G.2.2.1 5, .object "LeanTower$Tower")]
def tx_len : List Nat := [3, 6, 7, 5, 3, 4, 6, 5]
def tx_byt : List (List Int32) := [[108, 97, 119], [112, 101, 114, 115, 111, 110], [112, 105, 108, 103, 114, 105, 109], [119, 105, 100, 111, 119], [98, 111, 121], [109, 111, 110, 107], [98, 105, 115, 104, 111, 112], [115, 116, 111, 110, 101]]
def tx_idx : List Nat := [55, 34, 95, 97, 99, 101, 103, 43]
def tx_txt : List String := ["law", "person", "pilgrim", "widow", "boy", "monk", "bishop", "stone"]
/-- pairs of our kinds of people that aren't castable -/
def nc_l : List (String × String) := [(RX1, RX5), (RX1, RX10), (RX1, RX2), (RX2, RX10), (RX2, RX3), (RX2, RX1), (RX3, RX5), (RX3, RX10), (RX3, RX2), (RX3, RX1), (RX5, RX10), (RX5, RX2), (RX5, RX3), (RX5, RX1), (RX10, RX2), (RX10, RX3), (RX10, RX1)]
def ca_l : List (String × String) := [(RX2, RX5), (RX10, RX5), (RX1, RX3), (RX10, RX4), (RX2, RX4), (RX3, RX4), (RX1, RX4), (RX5, RX4)]
def KX (G : Gt) (U : State) (H : Heap) : Prop := va_K G.2.1 vwCl (tyl G) U ∧ vk_S 8 tx_len tx_byt G.2.2.2.2.1 G.2.2.2.2.2 (aG G) U H ∧ (∀ i : Nat, i < 8 → vk_R RX6 (tx_idx.getD i 0) (tx_txt.getD i "") (G.2.2.2.2.1 i) U) ∧ va_Z "java/lang/String" "COMPACT_STRINGS" "Z" (.int 1) (aG G) U H ∧ (∀ q ∈ nc_l, va_Nc q.1 q.2 U) ∧ (∀ q ∈ ca_l, va_Nw (.castable q.1 q.2) U) ∧ va_Nw (.declares ⟨"LeanTower$Person", "ownKind", "()I"⟩) U ∧ va_Zq "jdk/internal/util/Preconditions" "SIOOBE_FORMATTER" "Ljava/util/function/BiFunction;" (aG G) U H
theorem KX.at {G : Gt} {s U : State} {H : Heap} {locs : List Loc} (h : KX G s s.heap) (hS : va_S (aG G) s.heap H locs) (hW : s.WarmedH U.vm) (hU : U.heap = H) : KX G U U.heap := by
  obtain ⟨h1, h2, h3, h4, h5, h6, h7, h8⟩ := h
  rw [hU]
  exact ⟨va_K.moved hW.alike h1, vk_S.moved hW.alike (h2.kept hS.2.1), fun i hi => (h3 i hi).warm hW, va_Z.moved hW.alike (h4.kept hS.2.1), fun q hq => va_Nc.moved hW.alike (h5 q hq), fun q hq => (h6 q hq).warmC hW, h7.warmD hW, va_Zq.moved hW.alike (h8.kept hS.2.1)⟩
theorem KX.blind {G : Gt} {U : State} (h : KX G U U.heap) (g : JFrame) (mk : MethodId) (a : Array Value) : KX G (U.calling g mk a) (U.calling g mk a).heap := by
  obtain ⟨h1, h2, h3, h4, h5, h6, h7, h8⟩ := h
  exact ⟨va_K.moved (u := U) (U := U.calling g mk a) (Vm.Alike.refl U.vm) h1, vk_S.moved (u := U) (U := U.calling g mk a) (Vm.Alike.refl U.vm) h2, fun i hi => (h3 i hi).same rfl, va_Z.moved (u := U) (U := U.calling g mk a) (Vm.Alike.refl U.vm) h4, fun q hq => va_Nc.moved (u := U) (U := U.calling g mk a) (Vm.Alike.refl U.vm) (h5 q hq), fun q hq => (h6 q hq).same rfl rfl, h7.same rfl rfl, va_Zq.moved (u := U) (U := U.calling g mk a) (Vm.Alike.refl U.vm) h8⟩
/-- a method's start -/
def WU (G : Gt) (σ : Sg) (U : State) : Prop := KX G U U.heap ∧ va_P G.2.1 vwCl (wl G σ) U.heap ∧ va_D (aG G) (wl G σ) ∧ G.2.2.2.1 ≤ U.heap.size
/-- within a method that began at s -/
def Wd (G : Gt) (s : State) (σ : Sg) (H : Heap) (locs : List Loc) : Prop := KX G s s.heap ∧ va_P G.2.1 vwCl (wl G σ) H ∧ va_D (aG G) (wl G σ) ∧ va_S (aG G) s.heap H locs ∧ G.2.2.2.1 ≤ s.heap.size
theorem WU.blind {G : Gt} {σ : Sg} {U : State} (h : WU G σ U) (g : JFrame) (mk : MethodId) (a : Array Value) : WU G σ (U.calling g mk a) := ⟨h.1.blind g mk a, h.2.1, h.2.2.1, h.2.2.2⟩
theorem Wd.at {G : Gt} {s U : State} {σ : Sg} {H : Heap} {locs : List Loc} (h : Wd G s σ H locs) (hW : s.WarmedH U.vm) (hU : U.heap = H) : WU G σ U := ⟨h.1.at h.2.2.2.1 hW hU, by rw [hU]; exact h.2.1, h.2.2.1, by rw [hU]; exact Nat.le_trans h.2.2.2.2 h.2.2.2.1.1⟩
/-- the locals, all places -/
def lo_as : Nat → List (Option Value) → List (Nat × Value)
  | _, [] => []
  | i, none :: L => lo_as (i + 1) L
  | i, some v :: L => (i, v) :: lo_as (i + 1) L
theorem lo_mem : ∀ (L : List (Option Value)) (i : Nat) (q : Nat × Value), q ∈ lo_as i L ↔ ∃ k, L[k]? = some (some q.2) ∧ q.1 = i + k
  | [], i, q => by simp [lo_as]
  | none :: L, i, q => by
    rw [lo_as, lo_mem L (i + 1) q]
    constructor
    · rintro ⟨k, h1, h2⟩
      exact ⟨k + 1, by simpa using h1, by omega⟩
    · rintro ⟨k, h1, h2⟩
      cases k with
      | zero => simp at h1
      | succ k => exact ⟨k, by simpa using h1, by omega⟩
  | some v :: L, i, q => by
    rw [lo_as, List.mem_cons, lo_mem L (i + 1) q]
    constructor
    · rintro (h | ⟨k, h1, h2⟩)
      · exact ⟨0, by simp [h], by simp [h]⟩
      · exact ⟨k + 1, by simpa using h1, by omega⟩
    · rintro ⟨k, h1, h2⟩
      cases k with
      | zero =>
        refine Or.inl ?_
        simp at h1
        exact Prod.ext (by simpa using h2) h1.symm
      | succ k => exact Or.inr ⟨k, by simpa using h1, by omega⟩
def lo_has (ls : Array Slot) (nL : Nat) (L : List (Option Value)) : Prop := lv_has ls nL (lo_as 0 L)
theorem lo_at {ls : Array Slot} {nL i : Nat} {L : List (Option Value)} {v : Value} (h : lo_has ls nL L) (hk : L[i]? = some (some v)) : ls[i]? = some (.val v) := h.2.2 (i, v) ((lo_mem L 0 (i, v)).mpr ⟨i, hk, by simp⟩)
/-- no long lies astride place i -/
def lo_nl (L : List (Option Value)) : Nat → Bool
  | 0 => true
  | i + 1 => match L[i]? with
    | some (some v) => v.category == 1
    | _ => true
theorem lo_set {ls : Array Slot} {nL i : Nat} {L : List (Option Value)} {v : Value} (hno : lo_nl L i = true) (h : lv_has ls nL ((i, v) :: (lo_as 0 L).filter (fun q => !(q.1 == i) && !(q.1 + 1 == i && q.2.category == 2)))) : lo_has ls nL (L.set i (some v)) := by
  refine ⟨h.1, h.2.1, fun q hq => ?_⟩
  obtain ⟨k, h1, h2⟩ := (lo_mem _ 0 q).mp hq
  have hk : q.1 = k := by omega
  by_cases hki : k = i
  · subst hki
    have hlt : k < (L.set k (some v)).length := (List.getElem?_eq_some_iff.mp h1).1
    rw [List.getElem?_set_self (by rw [List.length_set] at hlt; exact hlt)] at h1
    have : q = (k, v) := Prod.ext hk (by simpa using h1.symm)
    exact h.2.2 q (by rw [this]; exact List.mem_cons_self)
  · rw [List.getElem?_set_ne (Ne.symm hki)] at h1
    refine h.2.2 q (List.mem_cons_of_mem _ (List.mem_filter.mpr ⟨(lo_mem L 0 q).mpr ⟨k, h1, by omega⟩, ?_⟩))
    have a1 : (q.1 == i) = false := by simp [hk, hki]
    rw [a1]
    by_cases hb : q.1 + 1 = i
    · have hcat : q.2.category = 1 := by
        rw [hk] at hb
        subst hb
        simp only [lo_nl, h1] at hno
        simpa using hno
      simp [hcat]
    · simp [hb]
theorem lo_args_has : ∀ (vs : List Value) (i : Nat) (q : Nat × Value), q ∈ lv_args i vs → q ∈ lv_args i vs := fun _ _ _ h => h
/-! ===== the walk: MW at a pc, with locals L, stack st, state σ ===== -/
abbrev Cx (p : Program) (s : State) (m : MethodId) (args : Array Value) (c : Code) (cc : ByteArray) (nL : Nat) (own : String) : Prop := CallFix p m c cc nL s args WA own
def MW (p : Program) (l : Launch) (e : Env) (R : Room) (s : State) (m : MethodId) (args : Array Value) (below : List Frame) (meth : Method) (c : Code) (Q : State → Prop) (nL : Nat) (G : Gt) (cells slots pc : Nat) (L : List (Option Value)) (st : List Value) (σ : Sg) : Prop :=
  ∀ (H : Heap) (locs : List Loc) (ls : Array Slot), Wd G s σ H locs → lo_has ls nL L → W p l e R s m args below meth c H locs cells slots Q (F0 m pc ls st)
section MWR
variable {p : Program} {l : Launch} {e : Env} {R : Room} {s : State} {m : MethodId} {args : Array Value} {below : List Frame} {meth : Method} {c : Code} {cells slots : Nat} {Q : State → Prop} {cc : ByteArray} {nL : Nat} {own : String} {G : Gt} {σ : Sg} {pc : Nat} {L : List (Option Value)} {st : List Value}
theorem m_iconst (C : Cx p s m args c cc nL own) {n : Int} {v : Int32} (d : decode cc pc = .ok (.iconst n, 1)) (hv : Int32.ofInt n = v) (k : MW p l e R s m args below meth c Q nL G cells slots (pc + 1) L (.int v :: st) σ) : MW p l e R s m args below meth c Q nL G cells slots pc L st σ := fun H locs ls hw hl => lv_iconst C.1 C.2.1 d hv (k H locs ls hw hl)
theorem m_bipush (C : Cx p s m args c cc nL own) {n : Int} {v : Int32} (d : decode cc pc = .ok (.bipush n, 2)) (hv : (Int8.ofInt n).toInt32 = v) (k : MW p l e R s m args below meth c Q nL G cells slots (pc + 2) L (.int v :: st) σ) : MW p l e R s m args below meth c Q nL G cells slots pc L st σ := fun H locs ls hw hl => lv_bipush C.1 C.2.1 d hv (k H locs ls hw hl)
theorem m_sipush (C : Cx p s m args c cc nL own) {n : Int} {v : Int32} (d : decode cc pc = .ok (.sipush n, 3)) (hv : (Int16.ofInt n).toInt32 = v) (k : MW p l e R s m args below meth c Q nL G cells slots (pc + 3) L (.int v :: st) σ) : MW p l e R s m args below meth c Q nL G cells slots pc L st σ := fun H locs ls hw hl => lv_sipush C.1 C.2.1 d hv (k H locs ls hw hl)
theorem m_lconst (C : Cx p s m args c cc nL own) {n : Fin 2} {v : Int64} (d : decode cc pc = .ok (.lconst n, 1)) (hv : Int64.ofNat (n : Nat) = v) (k : MW p l e R s m args below meth c Q nL G cells slots (pc + 1) L (.long v :: st) σ) : MW p l e R s m args below meth c Q nL G cells slots pc L st σ := fun H locs ls hw hl => lv_lconst C.1 C.2.1 d hv (k H locs ls hw hl)
theorem m_ldc (C : Cx p s m args c cc nL own) {index : Nat} {v : Int32} (d : decode cc pc = .ok (.ldc index, 2)) (hq : Cond.constant own index v ∈ WA) (k : MW p l e R s m args below meth c Q nL G cells slots (pc + 2) L (.int v :: st) σ) : MW p l e R s m args below meth c Q nL G cells slots pc L st σ := fun H locs ls hw hl => lv_ldc C.1 C.2.1 C.2.2.2.1 (C.2.2.2.2 _ hq) d (k H locs ls hw hl)
theorem m_ldc2 (C : Cx p s m args c cc nL own) {index : Nat} {v : Int64} (d : decode cc pc = .ok (.ldc2_w index, 3)) (hq : Cond.constantLong own index v ∈ WA) (k : MW p l e R s m args below meth c Q nL G cells slots (pc + 3) L (.long v :: st) σ) : MW p l e R s m args below meth c Q nL G cells slots pc L st σ := fun H locs ls hw hl => lv_ldc2 C.1 C.2.1 C.2.2.2.1 (C.2.2.2.2 _ hq) d (k H locs ls hw hl)
theorem m_iload_n (C : Cx p s m args c cc nL own) {k0 : Fin 4} {i : Nat} {x : Int32} (d : decode cc pc = .ok (.iload_n k0, 1)) (hi : (k0 : Nat) = i) (hx : L[i]? = some (some (.int x))) (k : MW p l e R s m args below meth c Q nL G cells slots (pc + 1) L (.int x :: st) σ) : MW p l e R s m args below meth c Q nL G cells slots pc L st σ := fun H locs ls hw hl => lv_iload_n C.1 C.2.1 d hi (lo_at hl hx) (k H locs ls hw hl)
theorem m_iload (C : Cx p s m args c cc nL own) {i : Nat} {x : Int32} (d : decode cc pc = .ok (.iload i, 2)) (hx : L[i]? = some (some (.int x))) (k : MW p l e R s m args below meth c Q nL G cells slots (pc + 2) L (.int x :: st) σ) : MW p l e R s m args below meth c Q nL G cells slots pc L st σ := fun H locs ls hw hl => lv_iload C.1 C.2.1 d (lo_at hl hx) (k H locs ls hw hl)
theorem m_lload_n (C : Cx p s m args c cc nL own) {k0 : Fin 4} {i : Nat} {x : Int64} (d : decode cc pc = .ok (.lload_n k0, 1)) (hi : (k0 : Nat) = i) (hx : L[i]? = some (some (.long x))) (k : MW p l e R s m args below meth c Q nL G cells slots (pc + 1) L (.long x :: st) σ) : MW p l e R s m args below meth c Q nL G cells slots pc L st σ := fun H locs ls hw hl => lv_lload_n C.1 C.2.1 d hi (lo_at hl hx) (k H locs ls hw hl)
theorem m_lload (C : Cx p s m args c cc nL own) {i : Nat} {x : Int64} (d : decode cc pc = .ok (.lload i, 2)) (hx : L[i]? = some (some (.long x))) (k : MW p l e R s m args below meth c Q nL G cells slots (pc + 2) L (.long x :: st) σ) : MW p l e R s m args below meth c Q nL G cells slots pc L st σ := fun H locs ls hw hl => lv_lload C.1 C.2.1 d (lo_at hl hx) (k H locs ls hw hl)
theorem m_aload_n (C : Cx p s m args c cc nL own) {k0 : Fin 4} {i : Nat} {x : Nat} (d : decode cc pc = .ok (.aload_n k0, 1)) (hi : (k0 : Nat) = i) (hx : L[i]? = some (some (.ref x))) (k : MW p l e R s m args below meth c Q nL G cells slots (pc + 1) L (.ref x :: st) σ) : MW p l e R s m args below meth c Q nL G cells slots pc L st σ := fun H locs ls hw hl => lv_aload_n C.1 C.2.1 d hi (lo_at hl hx) (k H locs ls hw hl)
theorem m_aload (C : Cx p s m args c cc nL own) {i : Nat} {x : Nat} (d : decode cc pc = .ok (.aload i, 2)) (hx : L[i]? = some (some (.ref x))) (k : MW p l e R s m args below meth c Q nL G cells slots (pc + 2) L (.ref x :: st) σ) : MW p l e R s m args below meth c Q nL G cells slots pc L st σ := fun H locs ls hw hl => lv_aload C.1 C.2.1 d (lo_at hl hx) (k H locs ls hw hl)
theorem m_aload_nN (C : Cx p s m args c cc nL own) {k0 : Fin 4} {i : Nat} (d : decode cc pc = .ok (.aload_n k0, 1)) (hi : (k0 : Nat) = i) (hx : L[i]? = some (some .null)) (k : MW p l e R s m args below meth c Q nL G cells slots (pc + 1) L (.null :: st) σ) : MW p l e R s m args below meth c Q nL G cells slots pc L st σ := fun H locs ls hw hl => lv_aload_nN C.1 C.2.1 d hi (lo_at hl hx) (k H locs ls hw hl)
theorem m_aloadN (C : Cx p s m args c cc nL own) {i : Nat} (d : decode cc pc = .ok (.aload i, 2)) (hx : L[i]? = some (some .null)) (k : MW p l e R s m args below meth c Q nL G cells slots (pc + 2) L (.null :: st) σ) : MW p l e R s m args below meth c Q nL G cells slots pc L st σ := fun H locs ls hw hl => lv_aloadN C.1 C.2.1 d (lo_at hl hx) (k H locs ls hw hl)
theorem m_istore_n (C : Cx p s m args c cc nL own) {k0 : Fin 4} {i : Nat} {x : Int32} {L1 : List (Option Value)} (d : decode cc pc = .ok (.istore_n k0, 1)) (hi : (k0 : Nat) = i) (hn : i < nL) (hno : lo_nl L i = true) (hL : L.set i (some (.int x)) = L1) (k : MW p l e R s m args below meth c Q nL G cells slots (pc + 1) L1 st σ) : MW p l e R s m args below meth c Q nL G cells slots pc L (.int x :: st) σ := fun H locs ls hw hl => lv_istore_n C.1 C.2.1 d hi hl hn rfl (fun ls1 h1 => k H locs ls1 hw (hL ▸ lo_set hno h1))
theorem m_istore (C : Cx p s m args c cc nL own) {i : Nat} {x : Int32} {L1 : List (Option Value)} (d : decode cc pc = .ok (.istore i, 2)) (hn : i < nL) (hno : lo_nl L i = true) (hL : L.set i (some (.int x)) = L1) (k : MW p l e R s m args below meth c Q nL G cells slots (pc + 2) L1 st σ) : MW p l e R s m args below meth c Q nL G cells slots pc L (.int x :: st) σ := fun H locs ls hw hl => lv_istore C.1 C.2.1 d hl hn rfl (fun ls1 h1 => k H locs ls1 hw (hL ▸ lo_set hno h1))
theorem m_astore_n (C : Cx p s m args c cc nL own) {k0 : Fin 4} {i : Nat} {x : Nat} {L1 : List (Option Value)} (d : decode cc pc = .ok (.astore_n k0, 1)) (hi : (k0 : Nat) = i) (hn : i < nL) (hno : lo_nl L i = true) (hL : L.set i (some (.ref x)) = L1) (k : MW p l e R s m args below meth c Q nL G cells slots (pc + 1) L1 st σ) : MW p l e R s m args below meth c Q nL G cells slots pc L (.ref x :: st) σ := fun H locs ls hw hl => lv_astore_n C.1 C.2.1 d hi hl hn rfl (fun ls1 h1 => k H locs ls1 hw (hL ▸ lo_set hno h1))
theorem m_astore (C : Cx p s m args c cc nL own) {i : Nat} {x : Nat} {L1 : List (Option Value)} (d : decode cc pc = .ok (.astore i, 2)) (hn : i < nL) (hno : lo_nl L i = true) (hL : L.set i (some (.ref x)) = L1) (k : MW p l e R s m args below meth c Q nL G cells slots (pc + 2) L1 st σ) : MW p l e R s m args below meth c Q nL G cells slots pc L (.ref x :: st) σ := fun H locs ls hw hl => lv_astore C.1 C.2.1 d hl hn rfl (fun ls1 h1 => k H locs ls1 hw (hL ▸ lo_set hno h1))
theorem m_astore_nN (C : Cx p s m args c cc nL own) {k0 : Fin 4} {i : Nat} {L1 : List (Option Value)} (d : decode cc pc = .ok (.astore_n k0, 1)) (hi : (k0 : Nat) = i) (hn : i < nL) (hno : lo_nl L i = true) (hL : L.set i (some .null) = L1) (k : MW p l e R s m args below meth c Q nL G cells slots (pc + 1) L1 st σ) : MW p l e R s m args below meth c Q nL G cells slots pc L (.null :: st) σ := fun H locs ls hw hl => lv_astore_nN C.1 C.2.1 d hi hl hn rfl (fun ls1 h1 => k H locs ls1 hw (hL ▸ lo_set hno h1))
theorem m_astoreN (C : Cx p s m args c cc nL own) {i : Nat} {L1 : List (Option Value)} (d : decode cc pc = .ok (.astore i, 2)) (hn : i < nL) (hno : lo_nl L i = true) (hL : L.set i (some .null) = L1) (k : MW p l e R s m args below meth c Q nL G cells slots (pc + 2) L1 st σ) : MW p l e R s m args below meth c Q nL G cells slots pc L (.null :: st) σ := fun H locs ls hw hl => lv_astoreN C.1 C.2.1 d hl hn rfl (fun ls1 h1 => k H locs ls1 hw (hL ▸ lo_set hno h1))
theorem m_iinc (C : Cx p s m args c cc nL own) {i : Nat} {n : Int} {x v : Int32} {L1 : List (Option Value)} (d : decode cc pc = .ok (.iinc i n, 3)) (hx : L[i]? = some (some (.int x))) (hv : x + Int32.ofInt n = v) (hn : i < nL) (hno : lo_nl L i = true) (hL : L.set i (some (.int v)) = L1) (k : MW p l e R s m args below meth c Q nL G cells slots (pc + 3) L1 st σ) : MW p l e R s m args below meth c Q nL G cells slots pc L st σ := fun H locs ls hw hl => by
  obtain ⟨j, hj⟩ := List.getElem?_of_mem ((lo_mem L 0 (i, .int x)).mpr ⟨i, hx, by simp⟩)
  exact lv_iinc (k := j) C.1 C.2.1 d hl hj hv hn rfl (fun ls1 h1 => k H locs ls1 hw (hL ▸ lo_set hno h1))
theorem m_iadd (C : Cx p s m args c cc nL own) {x y : Int32} (d : decode cc pc = .ok (.iadd, 1)) (k : MW p l e R s m args below meth c Q nL G cells slots (pc + 1) L (.int (x + y) :: st) σ) : MW p l e R s m args below meth c Q nL G cells slots pc L (.int y :: .int x :: st) σ := fun H locs ls hw hl => lv_iadd C.1 C.2.1 d (k H locs ls hw hl)
theorem m_isub (C : Cx p s m args c cc nL own) {x y : Int32} (d : decode cc pc = .ok (.isub, 1)) (k : MW p l e R s m args below meth c Q nL G cells slots (pc + 1) L (.int (x - y) :: st) σ) : MW p l e R s m args below meth c Q nL G cells slots pc L (.int y :: .int x :: st) σ := fun H locs ls hw hl => lv_isub C.1 C.2.1 d (k H locs ls hw hl)
theorem m_imul (C : Cx p s m args c cc nL own) {x y : Int32} (d : decode cc pc = .ok (.imul, 1)) (k : MW p l e R s m args below meth c Q nL G cells slots (pc + 1) L (.int (x * y) :: st) σ) : MW p l e R s m args below meth c Q nL G cells slots pc L (.int y :: .int x :: st) σ := fun H locs ls hw hl => lv_imul C.1 C.2.1 d (k H locs ls hw hl)
theorem m_iand (C : Cx p s m args c cc nL own) {x y : Int32} (d : decode cc pc = .ok (.iand, 1)) (k : MW p l e R s m args below meth c Q nL G cells slots (pc + 1) L (.int (x &&& y) :: st) σ) : MW p l e R s m args below meth c Q nL G cells slots pc L (.int y :: .int x :: st) σ := fun H locs ls hw hl => lv_iand C.1 C.2.1 d (k H locs ls hw hl)
theorem m_ior (C : Cx p s m args c cc nL own) {x y : Int32} (d : decode cc pc = .ok (.ior, 1)) (k : MW p l e R s m args below meth c Q nL G cells slots (pc + 1) L (.int (x ||| y) :: st) σ) : MW p l e R s m args below meth c Q nL G cells slots pc L (.int y :: .int x :: st) σ := fun H locs ls hw hl => lv_ior C.1 C.2.1 d (k H locs ls hw hl)
theorem m_ixor (C : Cx p s m args c cc nL own) {x y : Int32} (d : decode cc pc = .ok (.ixor, 1)) (k : MW p l e R s m args below meth c Q nL G cells slots (pc + 1) L (.int (x ^^^ y) :: st) σ) : MW p l e R s m args below meth c Q nL G cells slots pc L (.int y :: .int x :: st) σ := fun H locs ls hw hl => lv_ixor C.1 C.2.1 d (k H locs ls hw hl)
theorem m_ishl (C : Cx p s m args c cc nL own) {x y : Int32} (d : decode cc pc = .ok (.ishl, 1)) (k : MW p l e R s m args below meth c Q nL G cells slots (pc + 1) L (.int (x <<< (y &&& 31)) :: st) σ) : MW p l e R s m args below meth c Q nL G cells slots pc L (.int y :: .int x :: st) σ := fun H locs ls hw hl => lv_ishl C.1 C.2.1 d (k H locs ls hw hl)
theorem m_ishr (C : Cx p s m args c cc nL own) {x y : Int32} (d : decode cc pc = .ok (.ishr, 1)) (k : MW p l e R s m args below meth c Q nL G cells slots (pc + 1) L (.int (x >>> (y &&& 31)) :: st) σ) : MW p l e R s m args below meth c Q nL G cells slots pc L (.int y :: .int x :: st) σ := fun H locs ls hw hl => lv_ishr C.1 C.2.1 d (k H locs ls hw hl)
theorem m_ineg (C : Cx p s m args c cc nL own) {x : Int32} (d : decode cc pc = .ok (.ineg, 1)) (k : MW p l e R s m args below meth c Q nL G cells slots (pc + 1) L (.int (-x) :: st) σ) : MW p l e R s m args below meth c Q nL G cells slots pc L (.int x :: st) σ := fun H locs ls hw hl => lv_ineg C.1 C.2.1 d (k H locs ls hw hl)
theorem m_idiv (C : Cx p s m args c cc nL own) {x y : Int32} (d : decode cc pc = .ok (.idiv, 1)) (hne : ¬ y = 0) (k : MW p l e R s m args below meth c Q nL G cells slots (pc + 1) L (.int (x / y) :: st) σ) : MW p l e R s m args below meth c Q nL G cells slots pc L (.int y :: .int x :: st) σ := fun H locs ls hw hl => lv_idiv C.1 C.2.1 d hne (k H locs ls hw hl)
theorem m_irem (C : Cx p s m args c cc nL own) {x y : Int32} (d : decode cc pc = .ok (.irem, 1)) (hne : ¬ y = 0) (k : MW p l e R s m args below meth c Q nL G cells slots (pc + 1) L (.int (x - x / y * y) :: st) σ) : MW p l e R s m args below meth c Q nL G cells slots pc L (.int y :: .int x :: st) σ := fun H locs ls hw hl => lv_irem C.1 C.2.1 d hne (k H locs ls hw hl)
theorem m_iushr (C : Cx p s m args c cc nL own) {x y : Int32} (d : decode cc pc = .ok (.iushr, 1)) (k : MW p l e R s m args below meth c Q nL G cells slots (pc + 1) L (.int ((x.toUInt32 >>> (y.toUInt32 &&& Int32.toUInt32 31)).toInt32) :: st) σ) : MW p l e R s m args below meth c Q nL G cells slots pc L (.int y :: .int x :: st) σ := fun H locs ls hw hl => lv_iushr C.1 C.2.1 d rfl (k H locs ls hw hl)
theorem m_ladd (C : Cx p s m args c cc nL own) {x y : Int64} (d : decode cc pc = .ok (.ladd, 1)) (k : MW p l e R s m args below meth c Q nL G cells slots (pc + 1) L (.long (x + y) :: st) σ) : MW p l e R s m args below meth c Q nL G cells slots pc L (.long y :: .long x :: st) σ := fun H locs ls hw hl => lv_ladd C.1 C.2.1 d (k H locs ls hw hl)
theorem m_lsub (C : Cx p s m args c cc nL own) {x y : Int64} (d : decode cc pc = .ok (.lsub, 1)) (k : MW p l e R s m args below meth c Q nL G cells slots (pc + 1) L (.long (x - y) :: st) σ) : MW p l e R s m args below meth c Q nL G cells slots pc L (.long y :: .long x :: st) σ := fun H locs ls hw hl => lv_lsub C.1 C.2.1 d (k H locs ls hw hl)
theorem m_lmul (C : Cx p s m args c cc nL own) {x y : Int64} (d : decode cc pc = .ok (.lmul, 1)) (k : MW p l e R s m args below meth c Q nL G cells slots (pc + 1) L (.long (x * y) :: st) σ) : MW p l e R s m args below meth c Q nL G cells slots pc L (.long y :: .long x :: st) σ := fun H locs ls hw hl => lv_lmul C.1 C.2.1 d (k H locs ls hw hl)
theorem m_land (C : Cx p s m args c cc nL own) {x y : Int64} (d : decode cc pc = .ok (.land, 1)) (k : MW p l e R s m args below meth c Q nL G cells slots (pc + 1) L (.long (x &&& y) :: st) σ) : MW p l e R s m args below meth c Q nL G cells slots pc L (.long y :: .long x :: st) σ := fun H locs ls hw hl => lv_land C.1 C.2.1 d (k H locs ls hw hl)
theorem m_lor (C : Cx p s m args c cc nL own) {x y : Int64} (d : decode cc pc = .ok (.lor, 1)) (k : MW p l e R s m args below meth c Q nL G cells slots (pc + 1) L (.long (x ||| y) :: st) σ) : MW p l e R s m args below meth c Q nL G cells slots pc L (.long y :: .long x :: st) σ := fun H locs ls hw hl => lv_lor C.1 C.2.1 d (k H locs ls hw hl)
theorem m_lshr (C : Cx p s m args c cc nL own) {x : Int64} {y : Int32} (d : decode cc pc = .ok (.lshr, 1)) (k : MW p l e R s m args below meth c Q nL G cells slots (pc + 1) L (.long (x >>> (y.toInt64 &&& 63)) :: st) σ) : MW p l e R s m args below meth c Q nL G cells slots pc L (.int y :: .long x :: st) σ := fun H locs ls hw hl => lv_lshr C.1 C.2.1 d rfl (k H locs ls hw hl)
theorem m_i2l (C : Cx p s m args c cc nL own) {x : Int32} (d : decode cc pc = .ok (.i2l, 1)) (k : MW p l e R s m args below meth c Q nL G cells slots (pc + 1) L (.long x.toInt64 :: st) σ) : MW p l e R s m args below meth c Q nL G cells slots pc L (.int x :: st) σ := fun H locs ls hw hl => lv_i2l C.1 C.2.1 d rfl (k H locs ls hw hl)
theorem m_l2i (C : Cx p s m args c cc nL own) {x : Int64} (d : decode cc pc = .ok (.l2i, 1)) (k : MW p l e R s m args below meth c Q nL G cells slots (pc + 1) L (.int x.toInt32 :: st) σ) : MW p l e R s m args below meth c Q nL G cells slots pc L (.long x :: st) σ := fun H locs ls hw hl => lv_l2i C.1 C.2.1 d rfl (k H locs ls hw hl)
theorem m_i2b (C : Cx p s m args c cc nL own) {x : Int32} (d : decode cc pc = .ok (.i2b, 1)) (k : MW p l e R s m args below meth c Q nL G cells slots (pc + 1) L (.int x.toInt8.toInt32 :: st) σ) : MW p l e R s m args below meth c Q nL G cells slots pc L (.int x :: st) σ := fun H locs ls hw hl => lv_i2b C.1 C.2.1 d rfl (k H locs ls hw hl)
theorem m_i2s (C : Cx p s m args c cc nL own) {x : Int32} (d : decode cc pc = .ok (.i2s, 1)) (k : MW p l e R s m args below meth c Q nL G cells slots (pc + 1) L (.int x.toInt16.toInt32 :: st) σ) : MW p l e R s m args below meth c Q nL G cells slots pc L (.int x :: st) σ := fun H locs ls hw hl => lv_i2s C.1 C.2.1 d rfl (k H locs ls hw hl)
theorem m_i2c (C : Cx p s m args c cc nL own) {x : Int32} (d : decode cc pc = .ok (.i2c, 1)) (k : MW p l e R s m args below meth c Q nL G cells slots (pc + 1) L (.int (x.toUInt32 % 65536).toInt32 :: st) σ) : MW p l e R s m args below meth c Q nL G cells slots pc L (.int x :: st) σ := fun H locs ls hw hl => lv_i2c C.1 C.2.1 d rfl (k H locs ls hw hl)
theorem m_lcmp (C : Cx p s m args c cc nL own) {x y : Int64} (d : decode cc pc = .ok (.lcmp, 1)) (k : MW p l e R s m args below meth c Q nL G cells slots (pc + 1) L (.int (lg_cmp x y) :: st) σ) : MW p l e R s m args below meth c Q nL G cells slots pc L (.long y :: .long x :: st) σ := fun H locs ls hw hl => W.lcmp C.1 C.2.1 d (k H locs ls hw hl)
theorem m_dup (C : Cx p s m args c cc nL own) {v : Value} (d : decode cc pc = .ok (.dup, 1)) (hv : v.category = 1) (k : MW p l e R s m args below meth c Q nL G cells slots (pc + 1) L (v :: v :: st) σ) : MW p l e R s m args below meth c Q nL G cells slots pc L (v :: st) σ := fun H locs ls hw hl => lv_dup C.1 C.2.1 d hv (k H locs ls hw hl)
theorem m_pop (C : Cx p s m args c cc nL own) {v : Value} (d : decode cc pc = .ok (.pop, 1)) (hv : v.category = 1) (k : MW p l e R s m args below meth c Q nL G cells slots (pc + 1) L st σ) : MW p l e R s m args below meth c Q nL G cells slots pc L (v :: st) σ := fun H locs ls hw hl => lv_pop C.1 C.2.1 d hv (k H locs ls hw hl)
theorem m_dup2 (C : Cx p s m args c cc nL own) {va vb : Value} (d : decode cc pc = .ok (.dup2, 1)) (hva : va.category = 1) (hvb : vb.category = 1) (k : MW p l e R s m args below meth c Q nL G cells slots (pc + 1) L (va :: vb :: va :: vb :: st) σ) : MW p l e R s m args below meth c Q nL G cells slots pc L (va :: vb :: st) σ := fun H locs ls hw hl => lv_dup2_11 C.1 C.2.1 d hva hvb (k H locs ls hw hl)
theorem m_null (C : Cx p s m args c cc nL own)  (d : decode cc pc = .ok (.aconst_null, 1)) (k : MW p l e R s m args below meth c Q nL G cells slots (pc + 1) L (.null :: st) σ) : MW p l e R s m args below meth c Q nL G cells slots pc L st σ := fun H locs ls hw hl => lv_null C.1 C.2.1 d (k H locs ls hw hl)
theorem m_goto (C : Cx p s m args c cc nL own) {off : Int} {tgt : Nat} (d : decode cc pc = .ok (.goto off, 3)) (ht : (pc : Int) + off = (tgt : Int)) (k : MW p l e R s m args below meth c Q nL G cells slots tgt L st σ) : MW p l e R s m args below meth c Q nL G cells slots pc L st σ := fun H locs ls hw hl => lv_goto C.1 C.2.1 d ht (k H locs ls hw hl)
theorem m_ifnonnull (C : Cx p s m args c cc nL own) {x : Nat} {off : Int} {tgt : Nat} (d : decode cc pc = .ok (.ifnonnull off, 3)) (ht : (pc : Int) + off = (tgt : Int)) (k : MW p l e R s m args below meth c Q nL G cells slots tgt L st σ) : MW p l e R s m args below meth c Q nL G cells slots pc L (.ref x :: st) σ := fun H locs ls hw hl => lv_ifnonnull C.1 C.2.1 d ht (k H locs ls hw hl)
theorem m_ifnull (C : Cx p s m args c cc nL own) {x : Nat} {off : Int} (d : decode cc pc = .ok (.ifnull off, 3)) (k : MW p l e R s m args below meth c Q nL G cells slots (pc + 3) L st σ) : MW p l e R s m args below meth c Q nL G cells slots pc L (.ref x :: st) σ := fun H locs ls hw hl => lv_ifnull C.1 C.2.1 d (k H locs ls hw hl)
theorem m_ifnullN (C : Cx p s m args c cc nL own) {off : Int} {tgt : Nat} (d : decode cc pc = .ok (.ifnull off, 3)) (ht : (pc : Int) + off = (tgt : Int)) (k : MW p l e R s m args below meth c Q nL G cells slots tgt L st σ) : MW p l e R s m args below meth c Q nL G cells slots pc L (.null :: st) σ := fun H locs ls hw hl => lv_ifnullN C.1 C.2.1 d ht (k H locs ls hw hl)
theorem m_ifnonnullN (C : Cx p s m args c cc nL own) {off : Int} (d : decode cc pc = .ok (.ifnonnull off, 3)) (k : MW p l e R s m args below meth c Q nL G cells slots (pc + 3) L st σ) : MW p l e R s m args below meth c Q nL G cells slots pc L (.null :: st) σ := fun H locs ls hw hl => lv_ifnonnullN C.1 C.2.1 d (k H locs ls hw hl)
theorem m_if_eq (C : Cx p s m args c cc nL own) {x : Int32} {off : Int} {tgt : Nat} (d : decode cc pc = .ok (.ifCond .eq off, 3)) (ht : (pc : Int) + off = (tgt : Int)) (kt : x = 0 → MW p l e R s m args below meth c Q nL G cells slots tgt L st σ) (kf : ¬ x = 0 → MW p l e R s m args below meth c Q nL G cells slots (pc + 3) L st σ) : MW p l e R s m args below meth c Q nL G cells slots pc L (.int x :: st) σ := fun H locs ls hw hl => lv_if_eq C.1 C.2.1 d ht (fun q => kt q H locs ls hw hl) (fun q => kf q H locs ls hw hl)
theorem m_icmp_eq (C : Cx p s m args c cc nL own) {x y : Int32} {off : Int} {tgt : Nat} (d : decode cc pc = .ok (.if_icmp .eq off, 3)) (ht : (pc : Int) + off = (tgt : Int)) (kt : x = y → MW p l e R s m args below meth c Q nL G cells slots tgt L st σ) (kf : ¬ x = y → MW p l e R s m args below meth c Q nL G cells slots (pc + 3) L st σ) : MW p l e R s m args below meth c Q nL G cells slots pc L (.int y :: .int x :: st) σ := fun H locs ls hw hl => lv_icmp_eq C.1 C.2.1 d ht (fun q => kt q H locs ls hw hl) (fun q => kf q H locs ls hw hl)
theorem m_if_ne (C : Cx p s m args c cc nL own) {x : Int32} {off : Int} {tgt : Nat} (d : decode cc pc = .ok (.ifCond .ne off, 3)) (ht : (pc : Int) + off = (tgt : Int)) (kt : ¬ x = 0 → MW p l e R s m args below meth c Q nL G cells slots tgt L st σ) (kf : x = 0 → MW p l e R s m args below meth c Q nL G cells slots (pc + 3) L st σ) : MW p l e R s m args below meth c Q nL G cells slots pc L (.int x :: st) σ := fun H locs ls hw hl => lv_if_ne C.1 C.2.1 d ht (fun q => kt q H locs ls hw hl) (fun q => kf q H locs ls hw hl)
theorem m_icmp_ne (C : Cx p s m args c cc nL own) {x y : Int32} {off : Int} {tgt : Nat} (d : decode cc pc = .ok (.if_icmp .ne off, 3)) (ht : (pc : Int) + off = (tgt : Int)) (kt : ¬ x = y → MW p l e R s m args below meth c Q nL G cells slots tgt L st σ) (kf : x = y → MW p l e R s m args below meth c Q nL G cells slots (pc + 3) L st σ) : MW p l e R s m args below meth c Q nL G cells slots pc L (.int y :: .int x :: st) σ := fun H locs ls hw hl => lv_icmp_ne C.1 C.2.1 d ht (fun q => kt q H locs ls hw hl) (fun q => kf q H locs ls hw hl)
theorem m_if_lt (C : Cx p s m args c cc nL own) {x : Int32} {off : Int} {tgt : Nat} (d : decode cc pc = .ok (.ifCond .lt off, 3)) (ht : (pc : Int) + off = (tgt : Int)) (kt : x < 0 → MW p l e R s m args below meth c Q nL G cells slots tgt L st σ) (kf : ¬ x < 0 → MW p l e R s m args below meth c Q nL G cells slots (pc + 3) L st σ) : MW p l e R s m args below meth c Q nL G cells slots pc L (.int x :: st) σ := fun H locs ls hw hl => lv_if_lt C.1 C.2.1 d ht (fun q => kt q H locs ls hw hl) (fun q => kf q H locs ls hw hl)
theorem m_icmp_lt (C : Cx p s m args c cc nL own) {x y : Int32} {off : Int} {tgt : Nat} (d : decode cc pc = .ok (.if_icmp .lt off, 3)) (ht : (pc : Int) + off = (tgt : Int)) (kt : x < y → MW p l e R s m args below meth c Q nL G cells slots tgt L st σ) (kf : ¬ x < y → MW p l e R s m args below meth c Q nL G cells slots (pc + 3) L st σ) : MW p l e R s m args below meth c Q nL G cells slots pc L (.int y :: .int x :: st) σ := fun H locs ls hw hl => lv_icmp_lt C.1 C.2.1 d ht (fun q => kt q H locs ls hw hl) (fun q => kf q H locs ls hw hl)
theorem m_if_ge (C : Cx p s m args c cc nL own) {x : Int32} {off : Int} {tgt : Nat} (d : decode cc pc = .ok (.ifCond .ge off, 3)) (ht : (pc : Int) + off = (tgt : Int)) (kt : 0 ≤ x → MW p l e R s m args below meth c Q nL G cells slots tgt L st σ) (kf : ¬ 0 ≤ x → MW p l e R s m args below meth c Q nL G cells slots (pc + 3) L st σ) : MW p l e R s m args below meth c Q nL G cells slots pc L (.int x :: st) σ := fun H locs ls hw hl => lv_if_ge C.1 C.2.1 d ht (fun q => kt q H locs ls hw hl) (fun q => kf q H locs ls hw hl)
theorem m_icmp_ge (C : Cx p s m args c cc nL own) {x y : Int32} {off : Int} {tgt : Nat} (d : decode cc pc = .ok (.if_icmp .ge off, 3)) (ht : (pc : Int) + off = (tgt : Int)) (kt : y ≤ x → MW p l e R s m args below meth c Q nL G cells slots tgt L st σ) (kf : ¬ y ≤ x → MW p l e R s m args below meth c Q nL G cells slots (pc + 3) L st σ) : MW p l e R s m args below meth c Q nL G cells slots pc L (.int y :: .int x :: st) σ := fun H locs ls hw hl => lv_icmp_ge C.1 C.2.1 d ht (fun q => kt q H locs ls hw hl) (fun q => kf q H locs ls hw hl)
theorem m_if_gt (C : Cx p s m args c cc nL own) {x : Int32} {off : Int} {tgt : Nat} (d : decode cc pc = .ok (.ifCond .gt off, 3)) (ht : (pc : Int) + off = (tgt : Int)) (kt : 0 < x → MW p l e R s m args below meth c Q nL G cells slots tgt L st σ) (kf : ¬ 0 < x → MW p l e R s m args below meth c Q nL G cells slots (pc + 3) L st σ) : MW p l e R s m args below meth c Q nL G cells slots pc L (.int x :: st) σ := fun H locs ls hw hl => lv_if_gt C.1 C.2.1 d ht (fun q => kt q H locs ls hw hl) (fun q => kf q H locs ls hw hl)
theorem m_icmp_gt (C : Cx p s m args c cc nL own) {x y : Int32} {off : Int} {tgt : Nat} (d : decode cc pc = .ok (.if_icmp .gt off, 3)) (ht : (pc : Int) + off = (tgt : Int)) (kt : y < x → MW p l e R s m args below meth c Q nL G cells slots tgt L st σ) (kf : ¬ y < x → MW p l e R s m args below meth c Q nL G cells slots (pc + 3) L st σ) : MW p l e R s m args below meth c Q nL G cells slots pc L (.int y :: .int x :: st) σ := fun H locs ls hw hl => lv_icmp_gt C.1 C.2.1 d ht (fun q => kt q H locs ls hw hl) (fun q => kf q H locs ls hw hl)
theorem m_if_le (C : Cx p s m args c cc nL own) {x : Int32} {off : Int} {tgt : Nat} (d : decode cc pc = .ok (.ifCond .le off, 3)) (ht : (pc : Int) + off = (tgt : Int)) (kt : x ≤ 0 → MW p l e R s m args below meth c Q nL G cells slots tgt L st σ) (kf : ¬ x ≤ 0 → MW p l e R s m args below meth c Q nL G cells slots (pc + 3) L st σ) : MW p l e R s m args below meth c Q nL G cells slots pc L (.int x :: st) σ := fun H locs ls hw hl => lv_if_le C.1 C.2.1 d ht (fun q => kt q H locs ls hw hl) (fun q => kf q H locs ls hw hl)
theorem m_icmp_le (C : Cx p s m args c cc nL own) {x y : Int32} {off : Int} {tgt : Nat} (d : decode cc pc = .ok (.if_icmp .le off, 3)) (ht : (pc : Int) + off = (tgt : Int)) (kt : x ≤ y → MW p l e R s m args below meth c Q nL G cells slots tgt L st σ) (kf : ¬ x ≤ y → MW p l e R s m args below meth c Q nL G cells slots (pc + 3) L st σ) : MW p l e R s m args below meth c Q nL G cells slots pc L (.int y :: .int x :: st) σ := fun H locs ls hw hl => lv_icmp_le C.1 C.2.1 d ht (fun q => kt q H locs ls hw hl) (fun q => kf q H locs ls hw hl)
theorem m_tableOut (C : Cx p s m args c cc nL own) {dflt lo hi : Int} {offs : Array Int} {len : Nat} {x : Int32} {tgt : Nat} (d : decode cc pc = .ok (.tableswitch dflt lo hi offs, len)) (h : x.toInt < lo ∨ hi < x.toInt) (ht : (pc : Int) + dflt = (tgt : Int)) (k : MW p l e R s m args below meth c Q nL G cells slots tgt L st σ) : MW p l e R s m args below meth c Q nL G cells slots pc L (.int x :: st) σ := fun H locs ls hw hl => lv_tableOut C.1 C.2.1 d h ht (k H locs ls hw hl)
theorem m_tableIn (C : Cx p s m args c cc nL own) {dflt lo hi : Int} {offs : Array Int} {len : Nat} {x : Int32} {off : Int} {tgt : Nat} (d : decode cc pc = .ok (.tableswitch dflt lo hi offs, len)) (h1 : ¬ x.toInt < lo) (h2 : ¬ hi < x.toInt) (ho : offs[(x.toInt - lo).toNat]? = some off) (ht : (pc : Int) + off = (tgt : Int)) (k : MW p l e R s m args below meth c Q nL G cells slots tgt L st σ) : MW p l e R s m args below meth c Q nL G cells slots pc L (.int x :: st) σ := fun H locs ls hw hl => lv_tableIn C.1 C.2.1 d h1 h2 ho ht (k H locs ls hw hl)
theorem m_lookup (C : Cx p s m args c cc nL own) {dflt : Int} {ps : Array (Int × Int)} {len : Nat} {x : Int32} {off : Int} {tgt : Nat} (d : decode cc pc = .ok (.lookupswitch dflt ps, len)) (hp : (ps.toList.zip (ps.toList.drop 1)).all (fun (a, next) => a.1 < next.1) = true) (ho : Op.lookupswitch.offset ps.toList dflt x.toInt = off) (ht : (pc : Int) + off = (tgt : Int)) (k : MW p l e R s m args below meth c Q nL G cells slots tgt L st σ) : MW p l e R s m args below meth c Q nL G cells slots pc L (.int x :: st) σ := fun H locs ls hw hl => lv_lookup C.1 C.2.1 d hp ho ht (k H locs ls hw hl)
/-- a computed number gets a name -/
theorem m_topi {x : Int32} (k : ∀ y : Int32, y = x → MW p l e R s m args below meth c Q nL G cells slots pc L (.int y :: st) σ) : MW p l e R s m args below meth c Q nL G cells slots pc L (.int x :: st) σ := k x rfl
theorem m_topl {x : Int64} (k : ∀ y : Int64, y = x → MW p l e R s m args below meth c Q nL G cells slots pc L (.long y :: st) σ) : MW p l e R s m args below meth c Q nL G cells slots pc L (.long x :: st) σ := k x rfl
theorem m_stk {v v2 : Value} (h : v = v2) (k : MW p l e R s m args below meth c Q nL G cells slots pc L (v2 :: st) σ) : MW p l e R s m args below meth c Q nL G cells slots pc L (v :: st) σ := h ▸ k
theorem m_get (C : Cx p s m args c cc nL own) {t j : Nat} (ht : t < 32) (hj : j < nj t) {ci : Nat} {fs : List Value} (hce : ce G σ t j = .inr (ci, fs)) {C1 : String} {T : u_T} {N : Nat} (hc : vwCl[ci]? = some (C1, T, N)) (hin : ∀ w ∈ u_ws C1 T N, w ∈ WA) (k : Nat) (hk : k < N) {v : Value} (hv : fs[k]? = some v) {index : Nat} (hq : Cond.fieldLink own index (T k).1 (T k).2.1 (T k).2.2.1 ∈ WA) (d : decode cc pc = .ok (.getfield index, 3))
    (kk : MW p l e R s m args below meth c Q nL G cells slots (pc + 3) L (v :: st) σ) : MW p l e R s m args below meth c Q nL G cells slots pc L (.ref (G.1 t j) :: st) σ := fun H locs ls hw hl => by
  obtain ⟨q0, h0, -⟩ := wl_at G σ ht hj
  rw [hce] at h0
  exact va_get (ref := (T k).1) C.1 C.2.1 C.2.2.2.2 hin C.2.2.2.1 hw.1.1 hw.2.1 q0 h0 hc k hk (C.2.2.2.2 _ hq) (fun _ h => h) hv d (kk H locs ls hw hl)
theorem m_put (C : Cx p s m args c cc nL own) {t j : Nat} (ht : t < 32) (hj : j < nj t) {ci : Nat} {fs : List Value} (hce : ce G σ t j = .inr (ci, fs)) {C1 : String} {T : u_T} {N : Nat} (hc : vwCl[ci]? = some (C1, T, N)) (hin : ∀ w ∈ u_ws C1 T N, w ∈ WA) (ty0 : Nat → FieldType) (hty : ∀ k, k < N → parseFieldDescriptor (T k).2.2.1 = some (ty0 k)) (hnm : ∀ a, a < N → ∀ b, b < N → a ≠ b → (T a).2.1 ≠ (T b).2.1) (k : Nat) (hk : k < N) (hkl : k < fs.length) (hfin : (T k).2.2.2 = false) (hd : parseFieldDescriptor (T k).2.2.1 = some .int) {index : Nat} (hq : Cond.fieldLink own index (T k).1 (T k).2.1 (T k).2.2.1 ∈ WA) {v : Int32} (hset : Sum.inr (ci, fs.set k (.int v)) = ceF G σ.2 t j (upd (σ.1 t j) k v)) (d : decode cc pc = .ok (.putfield index, 3))
    (kk : MW p l e R s m args below meth c Q nL G cells slots (pc + 3) L st (sV σ t j k v)) : MW p l e R s m args below meth c Q nL G cells slots pc L (.int v :: .ref (G.1 t j) :: st) σ := fun H locs ls hw hl => by
  obtain ⟨q0, h0, hi0⟩ := wl_at G σ ht hj
  have h1 := h0
  rw [hce] at h1
  refine va_put (ref := (T k).1) (ty := .int) C.1 C.2.1 C.2.2.2.2 hin ty0 hty hnm C.2.2.2.1 hw.1.1 hw.2.1 hw.2.2.1 hw.2.2.2.1 q0 h1 hc k hk (C.2.2.2.2 _ hq) (fun _ h => h) hfin hd rfl rfl hkl d (fun H1 locs1 hP hD hS => ?_)
  have e := wl_set (σ' := sV σ t j k v) (e := Sum.inr (ci, fs.set k (.int v))) hw.2.2.1 h0 hi0 rfl (hset.trans ce_self.symm) ce_other
  rw [e] at hP hD
  exact kk H1 locs1 ls ⟨hw.1, hP, hD, hS, hw.2.2.2.2⟩ hl
theorem ivIn {x : Int32} {n : Nat} (h : 0 ≤ x.toInt ∧ x.toInt < n) : vp_in x n := vp_in_iff.mpr h
theorem m_iald (C : Cx p s m args c cc nL own) {t j n : Nat} (ht : t < 32) (hj : j < nj t) (hce : ce G σ t j = .inl (G.2.2.1 0, n, .inl (σ.1 t j))) {i : Int32} (hin : 0 ≤ i.toInt ∧ i.toInt < n) (d : decode cc pc = .ok (.iaload, 1))
    (kk : MW p l e R s m args below meth c Q nL G cells slots (pc + 1) L (.int (gV σ t j i.toInt.toNat) :: st) σ) : MW p l e R s m args below meth c Q nL G cells slots pc L (.int i :: .ref (G.1 t j) :: st) σ := fun H locs ls hw hl => by
  obtain ⟨q0, h0, -⟩ := wl_at G σ ht hj
  rw [hce] at h0
  exact va_iald C.1 C.2.1 hw.1.1 hw.2.1 q0 0 h0 rfl (ivIn hin) d (kk H locs ls hw hl)
theorem m_iast (C : Cx p s m args c cc nL own) {t j n : Nat} (ht : t < 32) (hj : j < nj t) (hce : ∀ τ : Sg, ce G τ t j = .inl (G.2.2.1 0, n, .inl (τ.1 t j))) {i v : Int32} (hin : 0 ≤ i.toInt ∧ i.toInt < n) (d : decode cc pc = .ok (.iastore, 1))
    (kk : MW p l e R s m args below meth c Q nL G cells slots (pc + 1) L st (sV σ t j i.toInt.toNat v)) : MW p l e R s m args below meth c Q nL G cells slots pc L (.int v :: .int i :: .ref (G.1 t j) :: st) σ := fun H locs ls hw hl => by
  obtain ⟨q0, h0, hi0⟩ := wl_at G σ ht hj
  have h1 := h0
  rw [hce] at h1
  refine va_iast C.1 C.2.1 hw.1.1 hw.2.1 hw.2.2.1 hw.2.2.2.1 q0 0 h1 rfl (ivIn hin) d (fun H1 locs1 hP hD hS => ?_)
  have e := wl_set (σ' := sV σ t j i.toInt.toNat v) (e := Sum.inl (G.2.2.1 0, n, .inl (upd (σ.1 t j) i.toInt.toNat v))) hw.2.2.1 h0 hi0 rfl (by rw [hce, sV_row]) ce_other
  exact kk H1 locs1 ls ⟨hw.1, by rw [← e]; exact hP, by rw [← e]; exact hD, hS, hw.2.2.2.2⟩ hl
theorem m_bald (C : Cx p s m args c cc nL own) {t j n : Nat} (ht : t < 32) (hj : j < nj t) (hce : ce G σ t j = .inl (G.2.2.1 1, n, .inl (σ.1 t j))) {i : Int32} (hin : 0 ≤ i.toInt ∧ i.toInt < n) (d : decode cc pc = .ok (.baload, 1))
    (kk : MW p l e R s m args below meth c Q nL G cells slots (pc + 1) L (.int (gV σ t j i.toInt.toNat) :: st) σ) : MW p l e R s m args below meth c Q nL G cells slots pc L (.int i :: .ref (G.1 t j) :: st) σ := fun H locs ls hw hl => by
  obtain ⟨q0, h0, -⟩ := wl_at G σ ht hj
  rw [hce] at h0
  exact va_bald C.1 C.2.1 hw.1.1 hw.2.1 q0 1 h0 rfl (ivIn hin) d (kk H locs ls hw hl)
theorem m_bast (C : Cx p s m args c cc nL own) {t j n : Nat} (ht : t < 32) (hj : j < nj t) (hce : ∀ τ : Sg, ce G τ t j = .inl (G.2.2.1 1, n, .inl (τ.1 t j))) {i v : Int32} (hin : 0 ≤ i.toInt ∧ i.toInt < n) (d : decode cc pc = .ok (.bastore, 1))
    (kk : MW p l e R s m args below meth c Q nL G cells slots (pc + 1) L st (sV σ t j i.toInt.toNat (vp_nar .byte v))) : MW p l e R s m args below meth c Q nL G cells slots pc L (.int v :: .int i :: .ref (G.1 t j) :: st) σ := fun H locs ls hw hl => by
  obtain ⟨q0, h0, hi0⟩ := wl_at G σ ht hj
  have h1 := h0
  rw [hce] at h1
  refine va_bast C.1 C.2.1 hw.1.1 hw.2.1 hw.2.2.1 hw.2.2.2.1 q0 1 h1 rfl (ivIn hin) d (fun H1 locs1 hP hD hS => ?_)
  have e := wl_set (σ' := sV σ t j i.toInt.toNat (vp_nar .byte v)) (e := Sum.inl (G.2.2.1 1, n, .inl (upd (σ.1 t j) i.toInt.toNat (vp_nar .byte v)))) hw.2.2.1 h0 hi0 rfl (by rw [hce, sV_row]) ce_other
  exact kk H1 locs1 ls ⟨hw.1, by rw [← e]; exact hP, by rw [← e]; exact hD, hS, hw.2.2.2.2⟩ hl
theorem m_zald (C : Cx p s m args c cc nL own) {t j n : Nat} (ht : t < 32) (hj : j < nj t) (hce : ce G σ t j = .inl (G.2.2.1 2, n, .inl (σ.1 t j))) {i : Int32} (hin : 0 ≤ i.toInt ∧ i.toInt < n) (d : decode cc pc = .ok (.baload, 1))
    (kk : MW p l e R s m args below meth c Q nL G cells slots (pc + 1) L (.int (gV σ t j i.toInt.toNat) :: st) σ) : MW p l e R s m args below meth c Q nL G cells slots pc L (.int i :: .ref (G.1 t j) :: st) σ := fun H locs ls hw hl => by
  obtain ⟨q0, h0, -⟩ := wl_at G σ ht hj
  rw [hce] at h0
  exact va_zald C.1 C.2.1 hw.1.1 hw.2.1 q0 2 h0 rfl (ivIn hin) d (kk H locs ls hw hl)
theorem m_zast (C : Cx p s m args c cc nL own) {t j n : Nat} (ht : t < 32) (hj : j < nj t) (hce : ∀ τ : Sg, ce G τ t j = .inl (G.2.2.1 2, n, .inl (τ.1 t j))) {i v : Int32} (hin : 0 ≤ i.toInt ∧ i.toInt < n) (d : decode cc pc = .ok (.bastore, 1))
    (kk : MW p l e R s m args below meth c Q nL G cells slots (pc + 1) L st (sV σ t j i.toInt.toNat (vp_nar .boolean v))) : MW p l e R s m args below meth c Q nL G cells slots pc L (.int v :: .int i :: .ref (G.1 t j) :: st) σ := fun H locs ls hw hl => by
  obtain ⟨q0, h0, hi0⟩ := wl_at G σ ht hj
  have h1 := h0
  rw [hce] at h1
  refine va_zast C.1 C.2.1 hw.1.1 hw.2.1 hw.2.2.1 hw.2.2.2.1 q0 2 h1 rfl (ivIn hin) d (fun H1 locs1 hP hD hS => ?_)
  have e := wl_set (σ' := sV σ t j i.toInt.toNat (vp_nar .boolean v)) (e := Sum.inl (G.2.2.1 2, n, .inl (upd (σ.1 t j) i.toInt.toNat (vp_nar .boolean v)))) hw.2.2.1 h0 hi0 rfl (by rw [hce, sV_row]) ce_other
  exact kk H1 locs1 ls ⟨hw.1, by rw [← e]; exact hP, by rw [← e]; exact hD, hS, hw.2.2.2.2⟩ hl
/-- the contract of a method: from state σ, with these arguments; what it answers and the state behind it -/
def QP (G : Gt) (Post : Option Value → Sg → Prop) : Array Value → State → Outcome → State → Prop := fun _ st oc t => (∃ (r : Option Value) (τ : Sg), oc = .returned r ∧ Post r τ ∧ va_P G.2.1 vwCl (wl G τ) t.heap ∧ va_D (aG G) (wl G τ)) ∧ va_F (aG G) st t
def Mc (l : Launch) (G : Gt) (y : MethodName) (bytes : ByteArray) (maxL : Nat) (ret : Option FieldType) (fr lo mc ms : Nat) (av : List Value) (σ : Sg) (Post : Option Value → Sg → Prop) : Prop :=
  Met l y (Cond.code y bytes maxL ret :: WA) { frames := fr, cells := mc, slots := ms, locals := lo } (va_Pc av (WU G σ)) (QP G Post) mc ms (aG G)
theorem Mc.of {y : MethodName} {maxL fr lo mc ms : Nat} {ret : Option FieldType} {av : List Value} {Post : Option Value → Sg → Prop} {L0 : List (Option Value)} (hy : plainName y.cls = true) (hlen : (lg_sl av).length ≤ maxL) (hL : lo_as 0 L0 = lv_args 0 av)
    (body : ∀ (p : Program) (e : Env) (s : State) (m : MethodId) (args : Array Value) (below : List Frame) (meth : Method) (c : Code), Cx p s m args c cc maxL y.cls → meth.sig.returnType = ret → meth.locks = false → MW p l e { frames := fr, cells := mc, slots := ms, locals := lo } s m args below meth c (MQ below (QP G Post) args s mc ms (aG G)) maxL G 0 0 0 L0 [] σ) : Mc l G y cc maxL ret fr lo mc ms av σ Post := by
  refine Met.ofW (cc := cc) (maxL := maxL) (ret := ret) hy rfl ?_
  intro p e s m args below meth c s₁ B hml hv
  obtain ⟨rfl, hU⟩ := hv
  have hts := atoms_spec (ws := Cond.code y cc maxL ret :: WA) B.pre
  have hown : s.vm.findClass y.cls = some m.cls := findClass_of_methodNamed B.named
  have hb := body p e s m av.toArray below meth c ⟨B.exec, B.bytes, hml, hown, fun w hw => hts w (List.mem_cons_of_mem _ hw)⟩ B.returns B.notSynchronized
  have hl := lv_entry av hlen
  rw [lg_entry_eq]
  exact hb s.heap [] _ ⟨hU.1, hU.2.1, hU.2.2.1, va_S.rf, hU.2.2.2⟩ (by rw [lo_has, hL]; exact hl)
theorem m_iret (C : Cx p s m args c cc nL own) {Post : Option Value → Sg → Prop} {mc ms : Nat} {v : Int32} (hr : meth.sig.returnType = some .int) (hlk : meth.locks = false) (hc : cells ≤ mc) (hs : slots ≤ ms) (d : decode cc pc = .ok (.ireturn, 1)) (hp : Post (some (.int v)) σ) : MW p l e R s m args below meth c (MQ below (QP G Post) args s mc ms (aG G)) nL G cells slots pc L [.int v] σ := fun H locs ls hw hl => by
  refine W.widen hc hs ?_
  exact W.iret C.1 C.2.1 hr (fun t ht hW => ⟨⟨_, σ, rfl, hp, by rw [ht]; exact hw.2.1, hw.2.2.1⟩, hw.2.2.2.1.F ht⟩) hw.2.2.2.1.2.2 d hlk
theorem m_vret (C : Cx p s m args c cc nL own) {Post : Option Value → Sg → Prop} {mc ms : Nat} (hr : meth.sig.returnType = none) (hlk : meth.locks = false) (hc : cells ≤ mc) (hs : slots ≤ ms) (d : decode cc pc = .ok (.return_, 1)) (hp : Post none σ) : MW p l e R s m args below meth c (MQ below (QP G Post) args s mc ms (aG G)) nL G cells slots pc L [] σ := fun H locs ls hw hl => by
  refine W.widen hc hs ?_
  exact W.vret C.1 C.2.1 hr (fun t ht hW => ⟨⟨_, σ, rfl, hp, by rw [ht]; exact hw.2.1, hw.2.2.1⟩, hw.2.2.2.1.F ht⟩) hw.2.2.2.1.2.2 d hlk
theorem m_zret (C : Cx p s m args c cc nL own) {Post : Option Value → Sg → Prop} {mc ms : Nat} {v : Int32} {ty : FieldType} (hr : meth.sig.returnType = some ty) (hn : narrow ty (.int v) = .int v) (hlk : meth.locks = false) (hc : cells ≤ mc) (hs : slots ≤ ms) (d : decode cc pc = .ok (.ireturn, 1)) (hp : Post (some (.int v)) σ) : MW p l e R s m args below meth c (MQ below (QP G Post) args s mc ms (aG G)) nL G cells slots pc L [.int v] σ := fun H locs ls hw hl => by
  refine W.widen hc hs ?_
  exact W.zret C.1 C.2.1 hr hn (fun t ht hW => ⟨⟨_, σ, rfl, hp, by rw [ht]; exact hw.2.1, hw.2.2.1⟩, hw.2.2.2.1.F ht⟩) hw.2.2.2.1.2.2 d hlk
theorem m_aret (C : Cx p s m args c cc nL own) {Post : Option Value → Sg → Prop} {mc ms : Nat} {v : Value} {nm : String} (hr : meth.sig.returnType = some (.object nm)) (hv : v = .null ∨ ∃ a, v = .ref a) (hlk : meth.locks = false) (hc : cells ≤ mc) (hs : slots ≤ ms) (d : decode cc pc = .ok (.areturn, 1)) (hp : Post (some v) σ) : MW p l e R s m args below meth c (MQ below (QP G Post) args s mc ms (aG G)) nL G cells slots pc L [v] σ := fun H locs ls hw hl => by
  refine W.widen hc hs ?_
  exact W.aret C.1 C.2.1 hr (Or.inl ⟨nm, rfl⟩) hv (fun t ht hW => ⟨⟨_, σ, rfl, hp, by rw [ht]; exact hw.2.1, hw.2.2.1⟩, hw.2.2.2.1.F ht⟩) hw.2.2.2.1.2.2 d hlk
theorem wa_goodIn (y : MethodName) (bytes : ByteArray) (maxL : Nat) (ret : Option FieldType) (h : Cond.code y bytes maxL ret ∈ WA) : GoodIn WA (Cond.code y bytes maxL ret :: WA) := fun w hw => (List.mem_cons.mp hw).elim (fun e => ⟨e ▸ h, good_of_word (List.mem_filter.mp (e ▸ h : w ∈ WA)).2⟩) (fun h2 => ⟨h2, good_of_word (List.mem_filter.mp h2).2⟩)
theorem m_run (C : Cx p s m args c cc nL own) {Post : Option Value → Sg → Prop} {mc ms : Nat} {a : Array Value} {st0 rest : List Value} (hrun : ∀ (H : Heap) (locs : List Loc) (ls : Array Slot), Wd G s σ H locs → lo_has ls nL L → va_Run p l e R s m args below meth c H locs cells slots mc ms (F0 m pc ls st0) rest (QP G Post a) (aG G))
    (kk : ∀ (r : Option Value) (τ : Sg), Post r τ → MW p l e R s m args below meth c Q nL G (cells + mc) (slots + ms) (pc + 3) L (r.toList ++ rest) τ) : MW p l e R s m args below meth c Q nL G cells slots pc L st0 σ := fun H locs ls hw hl => by
  intro T hT X
  obtain ⟨v, st₀, t, T', L1, h0, X', hL, e1, e2, ⟨⟨r, τ, hv, hp, hP, hD⟩, hz, hk⟩, stp⟩ := hrun H locs ls hw hl T hT X
  cases hv
  rw [h0] at hz hk
  have hS := hw.2.2.2.1
  obtain ⟨t2, a1, b1⟩ := kk v τ hp T'.heap (locs ++ L1) ls ⟨hw.1, by rw [e1]; exact hP, hD, ⟨Nat.le_trans hS.1 (by rw [e1]; exact hz), fun q h1 h2 => by rw [e1, hk q (Nat.lt_of_lt_of_le h1 hS.1) h2]; exact hS.2.1 q h1 h2, fun q hq => by
      rcases List.mem_append.mp hq with h | h
      · exact hS.2.2 q h
      · exact hL q h⟩, hw.2.2.2.2⟩ hl T' rfl X'
  exact ⟨t2, stp t2 a1, b1⟩
theorem m_callV (C : Cx p s m args c cc nL own) {y : MethodName} {bytes : ByteArray} {maxL fr lo mc ms n index : Nat} {ret : Option FieldType} {As : List Value} {t j ci : Nat} {fs : List Value} {r0 : vw_C} {Post : Option Value → Sg → Prop} (hM : Mc l G y bytes maxL ret fr lo mc ms (.ref (G.1 t j) :: As) σ Post)
    (ht : t < 32) (hj : j < nj t) (hce : ce G σ t j = .inr (ci, fs)) (hc : vwCl[ci]? = some r0) (hy : y.cls = r0.1) (qc : Cond.code y bytes maxL ret ∈ WA) (ql : Cond.methodLink own index y ∈ WA) (qi : Cond.instanceMethod y ∈ WA) (qs : Cond.selects y.cls y y ∈ WA) (qn : Cond.initialized y.cls ∈ WA)
    (hd : y.cls ≠ "java/lang/invoke/MethodHandle" ∧ y.cls ≠ "java/lang/invoke/VarHandle" ∧ (parseMethodDescriptor y.desc).map (fun d => d.parameters.length) = some n) (hn : As.length = n) (hR : fr + 1 ≤ R.frames ∧ 8 + (maxL + 11) + lo ≤ R.locals) (hf : cells + mc ≤ R.cells ∧ slots + ms ≤ R.slots) {st0 : List Value} (hst : st0 = As.reverse ++ .ref (G.1 t j) :: st) (hW : (st.map fun v => v.category).sum ≤ 8) (d : decode cc pc = .ok (.invokevirtual index, 3))
    (kk : ∀ (r : Option Value) (τ : Sg), Post r τ → MW p l e R s m args below meth c Q nL G (cells + mc) (slots + ms) (pc + 3) L (r.toList ++ st) τ) : MW p l e R s m args below meth c Q nL G cells slots pc L st0 σ := by
  refine m_run C (mc := mc) (ms := ms) (rest := st) (a := (Value.ref (G.1 t j) :: As).toArray) (fun H locs ls hw hl => ?_) kk
  obtain ⟨q0, h0, -⟩ := wl_at G σ ht hj
  rw [hce] at h0
  have cb : CallB R s args own index y bytes maxL ret (Cond.code y bytes maxL ret :: WA) { frames := fr, cells := mc, slots := ms, locals := lo } mc ms n := callB_of n C.2.2.2.2 (wa_goodIn y bytes maxL ret qc) rfl rfl rfl (C.2.2.2.2 _ qn) (C.2.2.2.2 _ ql) hd hR
  exact va_runV (As := As) (rest := st) (C := y.cls) C hM ⟨cb, C.2.2.2.2 _ qi, C.2.2.2.2 _ qs⟩ ⟨fun a U g mk q => ⟨q.1, q.2.blind g mk a⟩, by rw [hy]; exact va_recv hw.1.1 hw.2.1 hc h0, fun U hU hW => ⟨rfl, hw.at hW hU⟩⟩ rfl hn hl.1 hst (lv_room hW) d hf
theorem m_callS (C : Cx p s m args c cc nL own) {y : MethodName} {bytes : ByteArray} {maxL fr lo mc ms n index : Nat} {ret : Option FieldType} {As : List Value} {Post : Option Value → Sg → Prop} (hM : Mc l G y bytes maxL ret fr lo mc ms As σ Post)
    (qc : Cond.code y bytes maxL ret ∈ WA) (ql : Cond.methodLink own index y ∈ WA) (qi : Cond.static y ∈ WA) (qn : Cond.initialized y.cls ∈ WA)
    (hd : y.cls ≠ "java/lang/invoke/MethodHandle" ∧ y.cls ≠ "java/lang/invoke/VarHandle" ∧ (parseMethodDescriptor y.desc).map (fun d => d.parameters.length) = some n) (hn : As.length = n) (hR : fr + 1 ≤ R.frames ∧ 8 + (maxL + 11) + lo ≤ R.locals) (hf : cells + mc ≤ R.cells ∧ slots + ms ≤ R.slots) {st0 : List Value} (hst : st0 = As.reverse ++ st) (hW : (st.map fun v => v.category).sum ≤ 8) (d : decode cc pc = .ok (.invokestatic index, 3))
    (kk : ∀ (r : Option Value) (τ : Sg), Post r τ → MW p l e R s m args below meth c Q nL G (cells + mc) (slots + ms) (pc + 3) L (r.toList ++ st) τ) : MW p l e R s m args below meth c Q nL G cells slots pc L st0 σ := by
  refine m_run C (mc := mc) (ms := ms) (rest := st) (a := As.toArray) (fun H locs ls hw hl => ?_) kk
  have cb : CallB R s args own index y bytes maxL ret (Cond.code y bytes maxL ret :: WA) { frames := fr, cells := mc, slots := ms, locals := lo } mc ms n := callB_of n C.2.2.2.2 (wa_goodIn y bytes maxL ret qc) rfl rfl rfl (C.2.2.2.2 _ qn) (C.2.2.2.2 _ ql) hd hR
  exact va_runS (As := As) (rest := st) C hM ⟨cb, C.2.2.2.2 _ qi⟩ ⟨fun a U g mk q => ⟨q.1, q.2.blind g mk a⟩, fun U hU hW => ⟨rfl, hw.at hW hU⟩⟩ rfl hn hl.1 hst (lv_room hW) d hf
end MWR
