/-! ===== the constructors: a world that grows, as a list up to its order ===== -/
def ao_l : List String := ["LeanTower$Row", "LeanTower$Tower", "LeanTower$Person"]
def ne_l : List (Nat × MethodName) := [(17, yX6_init), (24, yX8_init), (41, yX9_init), (48, yX0_init), (61, yX7_init)]
def KC (G : Gt) (U : State) (H : Heap) : Prop := KX G U H ∧ (∀ C ∈ ao_l, va_AO C U) ∧ ∀ q ∈ ne_l, va_Nw (.methodLinkNest "LeanTower" q.1 q.2 "LeanTower") U
theorem KC.at {G : Gt} {s U : State} {H : Heap} {locs : List Loc} (h : KC G s s.heap) (hS : va_S (aG G) s.heap H locs) (hW : s.WarmedH U.vm) (hU : U.heap = H) : KC G U U.heap := ⟨h.1.at hS hW hU, fun C hC => va_AO.moved hW.alike (h.2.1 C hC), fun q hq => (h.2.2 q hq).warmM hW⟩
theorem KC.blind {G : Gt} {U : State} (h : KC G U U.heap) (g : JFrame) (mk : MethodId) (a : Array Value) : KC G (U.calling g mk a) (U.calling g mk a).heap := ⟨h.1.blind g mk a, fun C hC => va_AO.moved (u := U) (U := U.calling g mk a) (Vm.Alike.refl U.vm) (h.2.1 C hC), fun q hq => (h.2.2 q hq).same rfl rfl⟩
def WUL (G : Gt) (w : va_W) (U : State) : Prop := KC G U U.heap ∧ va_P G.2.1 vwCl w U.heap ∧ va_D (aG G) w ∧ G.2.2.2.1 ≤ U.heap.size
def WdL (G : Gt) (s : State) (w : va_W) (H : Heap) (locs : List Loc) : Prop := KC G s s.heap ∧ va_P G.2.1 vwCl w H ∧ va_D (aG G) w ∧ va_S (aG G) s.heap H locs ∧ G.2.2.2.1 ≤ s.heap.size
theorem WUL.blind {G : Gt} {w : va_W} {U : State} (h : WUL G w U) (g : JFrame) (mk : MethodId) (a : Array Value) : WUL G w (U.calling g mk a) := ⟨h.1.blind g mk a, h.2.1, h.2.2.1, h.2.2.2⟩
theorem WdL.at {G : Gt} {s U : State} {w : va_W} {H : Heap} {locs : List Loc} (h : WdL G s w H locs) (hW : s.WarmedH U.vm) (hU : U.heap = H) : WUL G w U := ⟨h.1.at h.2.2.2.1 hW hU, by rw [hU]; exact h.2.1, h.2.2.1, by rw [hU]; exact Nat.le_trans h.2.2.2.2 h.2.2.2.1.1⟩
theorem va_P.perm {D : va_G} {cl : List vw_C} {w w' : va_W} {H : Heap} (hp : w.Perm w') (h : va_P D cl w H) : va_P D cl w' H := fun k q hk => by
  obtain ⟨k', hk'⟩ := List.getElem?_of_mem (hp.mem_iff.mpr (List.mem_of_getElem? hk))
  exact h k' q hk'
theorem dn_iff (w : va_W) : (∀ (i j : Nat) (p q : Nat × va_E), w[i]? = some p → w[j]? = some q → p.1 = q.1 → i = j) ↔ (w.map Prod.fst).Nodup := by
  rw [List.Nodup, List.pairwise_iff_getElem]
  constructor
  · intro h i j hi hj hij he
    rw [List.length_map] at hi hj
    rw [List.getElem_map, List.getElem_map] at he
    have := h i j _ _ (List.getElem?_eq_getElem hi) (List.getElem?_eq_getElem hj) he
    omega
  · intro h i j p q hi hj he
    obtain ⟨hi1, rfl⟩ := List.getElem?_eq_some_iff.mp hi
    obtain ⟨hj1, rfl⟩ := List.getElem?_eq_some_iff.mp hj
    rcases Nat.lt_trichotomy i j with g | g | g
    · exact absurd (by rw [List.getElem_map, List.getElem_map]; exact he) (h i j (by rw [List.length_map]; exact hi1) (by rw [List.length_map]; exact hj1) g)
    · exact g
    · exact absurd (by rw [List.getElem_map, List.getElem_map]; exact he.symm) (h j i (by rw [List.length_map]; exact hj1) (by rw [List.length_map]; exact hi1) g)
theorem va_D.perm {A : Nat → Prop} {w w' : va_W} (hp : w.Perm w') (h : va_D A w) : va_D A w' := by
  refine ⟨(dn_iff w').mpr (((hp.map Prod.fst).nodup_iff).mp ((dn_iff w).mp h.1)), fun k q hk => ?_⟩
  obtain ⟨k', hk'⟩ := List.getElem?_of_mem (hp.mem_iff.mpr (List.mem_of_getElem? hk))
  exact h.2 k' q hk'
theorem ra_inj {U : State} {c1 c2 : ClassId} {ty : FieldType} (h1 : va_RA U c1 ty) (h2 : va_RA U c2 ty) : c1 = c2 := by
  cases ty with
  | object C =>
    obtain ⟨_, _, _, _, _, a⟩ := h1
    obtain ⟨_, _, _, _, _, b⟩ := h2
    exact Option.some.inj (a.symm.trans b)
  | _ => exact Option.some.inj (Eq.trans (Eq.symm h1) h2)
theorem arrV_congr {cA : ClassId} {n : Nat} {f g : Nat → Value} (h : ∀ j, j < n → f j = g j) : arrV cA n f = arrV cA n g := by
  unfold arrV
  congr 2
  funext j
  exact h j.1 j.2
def NW (p : Program) (l : Launch) (e : Env) (R : Room) (s : State) (m : MethodId) (args : Array Value) (below : List Frame) (meth : Method) (c : Code) (Q : State → Prop) (nL : Nat) (G : Gt) (cells slots pc : Nat) (L : List (Option Value)) (st : List Value) (w : va_W) : Prop :=
  ∀ (H : Heap) (locs : List Loc) (ls : Array Slot), WdL G s w H locs → lo_has ls nL L → W p l e R s m args below meth c H locs cells slots Q (F0 m pc ls st)
section NWR
variable {p : Program} {l : Launch} {e : Env} {R : Room} {s : State} {m : MethodId} {args : Array Value} {below : List Frame} {meth : Method} {c : Code} {cells slots : Nat} {Q : State → Prop} {cc : ByteArray} {nL : Nat} {own : String} {G : Gt} {w : va_W} {pc : Nat} {L : List (Option Value)} {st : List Value}
theorem n_iconst (C : Cx p s m args c cc nL own) {n : Int} {v : Int32} (d : decode cc pc = .ok (.iconst n, 1)) (hv : Int32.ofInt n = v) (k : NW p l e R s m args below meth c Q nL G cells slots (pc + 1) L (.int v :: st) w) : NW p l e R s m args below meth c Q nL G cells slots pc L st w := fun H locs ls hw hl => lv_iconst C.1 C.2.1 d hv (k H locs ls hw hl)
theorem n_bipush (C : Cx p s m args c cc nL own) {n : Int} {v : Int32} (d : decode cc pc = .ok (.bipush n, 2)) (hv : (Int8.ofInt n).toInt32 = v) (k : NW p l e R s m args below meth c Q nL G cells slots (pc + 2) L (.int v :: st) w) : NW p l e R s m args below meth c Q nL G cells slots pc L st w := fun H locs ls hw hl => lv_bipush C.1 C.2.1 d hv (k H locs ls hw hl)
theorem n_sipush (C : Cx p s m args c cc nL own) {n : Int} {v : Int32} (d : decode cc pc = .ok (.sipush n, 3)) (hv : (Int16.ofInt n).toInt32 = v) (k : NW p l e R s m args below meth c Q nL G cells slots (pc + 3) L (.int v :: st) w) : NW p l e R s m args below meth c Q nL G cells slots pc L st w := fun H locs ls hw hl => lv_sipush C.1 C.2.1 d hv (k H locs ls hw hl)
theorem n_iload_n (C : Cx p s m args c cc nL own) {k0 : Fin 4} {i : Nat} {x : Int32} (d : decode cc pc = .ok (.iload_n k0, 1)) (hi : (k0 : Nat) = i) (hx : L[i]? = some (some (.int x))) (k : NW p l e R s m args below meth c Q nL G cells slots (pc + 1) L (.int x :: st) w) : NW p l e R s m args below meth c Q nL G cells slots pc L st w := fun H locs ls hw hl => lv_iload_n C.1 C.2.1 d hi (lo_at hl hx) (k H locs ls hw hl)
theorem n_aload_n (C : Cx p s m args c cc nL own) {k0 : Fin 4} {i : Nat} {x : Nat} (d : decode cc pc = .ok (.aload_n k0, 1)) (hi : (k0 : Nat) = i) (hx : L[i]? = some (some (.ref x))) (k : NW p l e R s m args below meth c Q nL G cells slots (pc + 1) L (.ref x :: st) w) : NW p l e R s m args below meth c Q nL G cells slots pc L st w := fun H locs ls hw hl => lv_aload_n C.1 C.2.1 d hi (lo_at hl hx) (k H locs ls hw hl)
theorem n_istore_n (C : Cx p s m args c cc nL own) {k0 : Fin 4} {i : Nat} {x : Int32} {L1 : List (Option Value)} (d : decode cc pc = .ok (.istore_n k0, 1)) (hi : (k0 : Nat) = i) (hn : i < nL) (hno : lo_nl L i = true) (hL : L.set i (some (.int x)) = L1) (k : NW p l e R s m args below meth c Q nL G cells slots (pc + 1) L1 st w) : NW p l e R s m args below meth c Q nL G cells slots pc L (.int x :: st) w := fun H locs ls hw hl => lv_istore_n C.1 C.2.1 d hi hl hn rfl (fun ls1 h1 => k H locs ls1 hw (hL ▸ lo_set hno h1))
theorem n_astore_n (C : Cx p s m args c cc nL own) {k0 : Fin 4} {i : Nat} {x : Nat} {L1 : List (Option Value)} (d : decode cc pc = .ok (.astore_n k0, 1)) (hi : (k0 : Nat) = i) (hn : i < nL) (hno : lo_nl L i = true) (hL : L.set i (some (.ref x)) = L1) (k : NW p l e R s m args below meth c Q nL G cells slots (pc + 1) L1 st w) : NW p l e R s m args below meth c Q nL G cells slots pc L (.ref x :: st) w := fun H locs ls hw hl => lv_astore_n C.1 C.2.1 d hi hl hn rfl (fun ls1 h1 => k H locs ls1 hw (hL ▸ lo_set hno h1))
theorem n_iinc (C : Cx p s m args c cc nL own) {i : Nat} {n : Int} {x v : Int32} {L1 : List (Option Value)} (d : decode cc pc = .ok (.iinc i n, 3)) (hx : L[i]? = some (some (.int x))) (hv : x + Int32.ofInt n = v) (hn : i < nL) (hno : lo_nl L i = true) (hL : L.set i (some (.int v)) = L1) (k : NW p l e R s m args below meth c Q nL G cells slots (pc + 3) L1 st w) : NW p l e R s m args below meth c Q nL G cells slots pc L st w := fun H locs ls hw hl => by
  obtain ⟨j, hj⟩ := List.getElem?_of_mem ((lo_mem L 0 (i, .int x)).mpr ⟨i, hx, by simp⟩)
  exact lv_iinc (k := j) C.1 C.2.1 d hl hj hv hn rfl (fun ls1 h1 => k H locs ls1 hw (hL ▸ lo_set hno h1))
theorem n_goto (C : Cx p s m args c cc nL own) {off : Int} {tgt : Nat} (d : decode cc pc = .ok (.goto off, 3)) (ht : (pc : Int) + off = (tgt : Int)) (k : NW p l e R s m args below meth c Q nL G cells slots tgt L st w) : NW p l e R s m args below meth c Q nL G cells slots pc L st w := fun H locs ls hw hl => lv_goto C.1 C.2.1 d ht (k H locs ls hw hl)
theorem n_dup (C : Cx p s m args c cc nL own) {v : Value} (d : decode cc pc = .ok (.dup, 1)) (hv : v.category = 1) (k : NW p l e R s m args below meth c Q nL G cells slots (pc + 1) L (v :: v :: st) w) : NW p l e R s m args below meth c Q nL G cells slots pc L (v :: st) w := fun H locs ls hw hl => lv_dup C.1 C.2.1 d hv (k H locs ls hw hl)
theorem n_icmp_ge (C : Cx p s m args c cc nL own) {x y : Int32} {off : Int} {tgt : Nat} (d : decode cc pc = .ok (.if_icmp .ge off, 3)) (ht : (pc : Int) + off = (tgt : Int)) (kt : y ≤ x → NW p l e R s m args below meth c Q nL G cells slots tgt L st w) (kf : ¬ y ≤ x → NW p l e R s m args below meth c Q nL G cells slots (pc + 3) L st w) : NW p l e R s m args below meth c Q nL G cells slots pc L (.int y :: .int x :: st) w := fun H locs ls hw hl => lv_icmp_ge C.1 C.2.1 d ht (fun q => kt q H locs ls hw hl) (fun q => kf q H locs ls hw hl)
theorem n_objInit (C : Cx p s m args c cc nL own) {index a : Nat} (ql : Cond.methodLink own index objectInit ∈ WA) (qi : Cond.instanceMethod objectInit ∈ WA) (qc : Cond.code objectInit ⟨#[0xb1]⟩ 1 none ∈ WA) (hR : 1 ≤ R.frames ∧ (st.map fun v => v.category).sum + 12 ≤ R.locals) (_hf : True) (d : decode cc pc = .ok (.invokespecial index, 3)) (k : NW p l e R s m args below meth c Q nL G cells slots (pc + 3) L st w) : NW p l e R s m args below meth c Q nL G cells slots pc L (.ref a :: st) w := fun H locs ls hw hl => W.objInit C.1 C.2.1 C.2.2.2.1 (C.2.2.2.2 _ ql) (C.2.2.2.2 _ qi) (C.2.2.2.2 _ qc) rfl (hl.1.trans C.2.2.1.symm) rfl d hR.1 (by show 2 * 0 + _ + 12 ≤ _; have := hR.2; omega) (k H locs ls hw hl)
theorem n_perm {w' : va_W} (hp : w.Perm w') (k : NW p l e R s m args below meth c Q nL G cells slots pc L st w') : NW p l e R s m args below meth c Q nL G cells slots pc L st w := fun H locs ls hw hl => k H locs ls ⟨hw.1, hw.2.1.perm hp, hw.2.2.1.perm hp, hw.2.2.2⟩ hl
theorem n_new (C : Cx p s m args c cc nL own) {C1 : String} {T : u_T} {N ci index : Nat} (hin : ∀ w ∈ u_ws C1 T N, w ∈ WA) (ty : Nat → FieldType) (hty : ∀ k, k < N → parseFieldDescriptor (T k).2.2.1 = some (ty k)) (qcl : Cond.classLink own index C1 ∈ WA) (qin : Cond.instantiable C1 N ∈ WA) (qi : Cond.initialized C1 ∈ WA) (hc : vwCl[ci]? = some (C1, T, N)) {fs : List Value} (hfs : ∀ j, j < N → defaultValue (ty j) = vp_V fs j) (h1 : cells + 1 ≤ R.cells) (h2 : slots + N ≤ R.slots) (d : decode cc pc = .ok (.new index, 3))
    (kk : ∀ q : Nat, NW p l e R s m args below meth c Q nL G (cells + 1) (slots + N) (pc + 3) L (.ref q :: st) ((q, .inr (ci, fs)) :: w)) : NW p l e R s m args below meth c Q nL G cells slots pc L st w := fun H locs ls hw hl => by
  refine va_new (C := C1) (T := T) (N := N) (ci := ci) (fs := fs) C.1 C.2.1 C.2.2.2.2 hin ty hty C.2.2.2.1 (C.2.2.2.2 _ qcl) (C.2.2.2.2 _ qin) (C.2.2.2.2 _ qi) hw.1.1.1 hw.2.1 hw.2.2.1 hw.2.2.2.1 (fun q h => Nat.le_trans hw.2.2.2.2 h) hc hfs h1 h2 d (fun q H1 hP hD hS => ?_)
  have hp := List.perm_append_singleton (q, (Sum.inr (ci, fs) : va_E)) w
  exact kk q H1 locs ls ⟨hw.1, hP.perm hp, hD.perm hp, hS, hw.2.2.2.2⟩ hl
theorem n_newa (C : Cx p s m args c cc nL own) {atype : ArrayType} {ty : FieldType} (hty : newarray.typeOf atype = ty) (qa : Cond.arrayClass ty ∈ WA) {ti : Nat} {cA : ClassId} (hti : (tyl G)[ti]? = some (cA, ty)) {n : Int32} {N : Nat} {a0 : vp_A} (ha : ∀ cA : ClassId, vp_cell cA a0 = arrV cA N (fun _ => defaultValue ty)) (hn : ¬ n < 0) (hN : n.toNatClampNeg = N) (hb : N * componentBytes ty ≤ 536870912) (h1 : cells + 1 ≤ R.cells) (h2 : slots + N ≤ R.slots) (d : decode cc pc = .ok (.newarray atype, 2))
    (kk : ∀ q : Nat, NW p l e R s m args below meth c Q nL G (cells + 1) (slots + N) (pc + 2) L (.ref q :: st) ((q, .inl (cA, a0)) :: w)) : NW p l e R s m args below meth c Q nL G cells slots pc L (.int n :: st) w := fun H locs ls hw hl => by
  refine va_newa C.1 C.2.1 (by rw [hty]; exact C.2.2.2.2 _ qa) hty hw.1.1.1 hw.2.1 hw.2.2.1 hw.2.2.2.1 (fun q h => Nat.le_trans hw.2.2.2.2 h) ha hn hN hb h1 h2 d (fun q cB H1 hK hP hD hS => ?_)
  have e : cB = cA := ra_inj (hK.2 (tyl G).length (cB, ty) (by rw [List.getElem?_append_right (Nat.le_refl _), Nat.sub_self]; rfl)).2 (hw.1.1.1.2 ti _ hti).2
  subst e
  have hp := List.perm_append_singleton (q, (Sum.inl (cB, a0) : va_E)) w
  exact kk q H1 locs ls ⟨hw.1, hP.perm hp, hD.perm hp, hS, hw.2.2.2.2⟩ hl
theorem n_newq (C : Cx p s m args c cc nL own) {C1 : String} {index : Nat} (qcl : Cond.classLink own index C1 ∈ WA) (hao : C1 ∈ ao_l) {ti : Nat} {cA : ClassId} (hti : (tyl G)[ti]? = some (cA, .object C1)) {n : Int32} {N : Nat} (hn : ¬ n < 0) (hN : n.toNatClampNeg = N) (hb : N * 4 ≤ 536870912) (h1 : cells + 1 ≤ R.cells) (h2 : slots + N ≤ R.slots) (d : decode cc pc = .ok (.anewarray index, 3))
    (kk : ∀ q : Nat, NW p l e R s m args below meth c Q nL G (cells + 1) (slots + N) (pc + 3) L (.ref q :: st) ((q, .inl (cA, N, .inr (.inr (.inr (.inr (fun _ => none)))))) :: w)) : NW p l e R s m args below meth c Q nL G cells slots pc L (.int n :: st) w := fun H locs ls hw hl => by
  refine va_newq C.1 C.2.1 C.2.2.2.1 (C.2.2.2.2 _ qcl) (hw.1.2.1 _ hao) hw.1.1.1 hw.2.1 hw.2.2.1 hw.2.2.2.1 (fun q h => Nat.le_trans hw.2.2.2.2 h) hn hN hb h1 h2 d (fun q cB H1 hK hP hD hS => ?_)
  have e : cB = cA := ra_inj (hK.2 (tyl G).length (cB, .object C1) (by rw [List.getElem?_append_right (Nat.le_refl _), Nat.sub_self]; rfl)).2 (hw.1.1.1.2 ti _ hti).2
  subst e
  have hp := List.perm_append_singleton (q, (Sum.inl (cB, N, .inr (.inr (.inr (.inr (fun _ => none))))) : va_E)) w
  exact kk q H1 locs ls ⟨hw.1, hP.perm hp, hD.perm hp, hS, hw.2.2.2.2⟩ hl
theorem n_putF (C : Cx p s m args c cc nL own) {C1 : String} {T : u_T} {N ci : Nat} (hin : ∀ w ∈ u_ws C1 T N, w ∈ WA) (ty0 : Nat → FieldType) (hty : ∀ k, k < N → parseFieldDescriptor (T k).2.2.1 = some (ty0 k)) (hnm : ∀ a, a < N → ∀ b, b < N → a ≠ b → (T a).2.1 ≠ (T b).2.1) (hc : vwCl[ci]? = some (C1, T, N)) {a b : Nat} {fs : List Value} (k : Nat) (hk : k < N) (hl0 : k < fs.length) (hfin : (T k).2.2.2 = true) (hin2 : meth.name = "<init>") (hdecl : (T k).1 = own) (hn : narrow (ty0 k) (.ref b) = .ref b) (hf : fits (ty0 k) (.ref b) = true) {index : Nat} (hq : Cond.fieldLink own index (T k).1 (T k).2.1 (T k).2.2.1 ∈ WA) (d : decode cc pc = .ok (.putfield index, 3))
    (kk : NW p l e R s m args below meth c Q nL G cells slots (pc + 3) L st ((a, .inr (ci, fs.set k (.ref b))) :: w)) : NW p l e R s m args below meth c Q nL G cells slots pc L (.ref b :: .ref a :: st) ((a, .inr (ci, fs)) :: w) := fun H locs ls hw hl =>
  va_putF (ref := (T k).1) (ty := ty0 k) C.1 C.2.1 C.2.2.2.2 hin ty0 hty hnm C.2.2.2.1 hw.1.1.1 hw.2.1 hw.2.2.1 hw.2.2.2.1 0 rfl hc k hk (C.2.2.2.2 _ hq) (fun _ h => h) hfin hin2 hdecl (hty k hk) hn hf hl0 d (fun H1 locs1 hP hD hS => kk H1 locs1 ls ⟨hw.1, hP, hD, hS, hw.2.2.2.2⟩ hl)
theorem n_put (C : Cx p s m args c cc nL own) {C1 : String} {T : u_T} {N ci : Nat} (hin : ∀ w ∈ u_ws C1 T N, w ∈ WA) (ty0 : Nat → FieldType) (hty : ∀ k, k < N → parseFieldDescriptor (T k).2.2.1 = some (ty0 k)) (hnm : ∀ a, a < N → ∀ b, b < N → a ≠ b → (T a).2.1 ≠ (T b).2.1) (hc : vwCl[ci]? = some (C1, T, N)) {a : Nat} {v : Int32} {fs : List Value} (k : Nat) (hk : k < N) (hl0 : k < fs.length) (hfin : (T k).2.2.2 = false) (hd : parseFieldDescriptor (T k).2.2.1 = some .int) {index : Nat} (hq : Cond.fieldLink own index (T k).1 (T k).2.1 (T k).2.2.1 ∈ WA) (d : decode cc pc = .ok (.putfield index, 3))
    (kk : NW p l e R s m args below meth c Q nL G cells slots (pc + 3) L st ((a, .inr (ci, fs.set k (.int v))) :: w)) : NW p l e R s m args below meth c Q nL G cells slots pc L (.int v :: .ref a :: st) ((a, .inr (ci, fs)) :: w) := fun H locs ls hw hl =>
  va_put (ref := (T k).1) (ty := .int) C.1 C.2.1 C.2.2.2.2 hin ty0 hty hnm C.2.2.2.1 hw.1.1.1 hw.2.1 hw.2.2.1 hw.2.2.2.1 0 rfl hc k hk (C.2.2.2.2 _ hq) (fun _ h => h) hfin hd rfl rfl hl0 d (fun H1 locs1 hP hD hS => kk H1 locs1 ls ⟨hw.1, hP, hD, hS, hw.2.2.2.2⟩ hl)
theorem n_get (C : Cx p s m args c cc nL own) {C1 : String} {T : u_T} {N ci : Nat} (hin : ∀ w ∈ u_ws C1 T N, w ∈ WA) (hc : vwCl[ci]? = some (C1, T, N)) {a : Nat} {fs : List Value} (hm : (a, (Sum.inr (ci, fs) : va_E)) ∈ w) (k : Nat) (hk : k < N) {v : Value} (hv : fs[k]? = some v) {index : Nat} (hq : Cond.fieldLink own index (T k).1 (T k).2.1 (T k).2.2.1 ∈ WA) (d : decode cc pc = .ok (.getfield index, 3))
    (kk : NW p l e R s m args below meth c Q nL G cells slots (pc + 3) L (v :: st) w) : NW p l e R s m args below meth c Q nL G cells slots pc L (.ref a :: st) w := fun H locs ls hw hl => by
  obtain ⟨q0, h0⟩ := List.getElem?_of_mem hm
  exact va_get (ref := (T k).1) C.1 C.2.1 C.2.2.2.2 hin C.2.2.2.1 hw.1.1.1 hw.2.1 q0 h0 hc k hk (C.2.2.2.2 _ hq) (fun _ h => h) hv d (kk H locs ls hw hl)
theorem n_aast (C : Cx p s m args c cc nL own) {ti ci : Nat} {cA : ClassId} {r : vw_C} {n a v : Nat} {vs : List Value} {f : Nat → Option Nat} (hti : (tyl G)[ti]? = some (cA, .object r.1)) (hm : (v, (Sum.inr (ci, vs) : va_E)) ∈ w) (hc : vwCl[ci]? = some r) {i : Int32} (hin : 0 ≤ i.toInt ∧ i.toInt < n) (d : decode cc pc = .ok (.aastore, 1))
    (kk : NW p l e R s m args below meth c Q nL G cells slots (pc + 1) L st ((a, .inl (cA, n, .inr (.inr (.inr (.inr (va_up f i.toNatClampNeg (some v))))))) :: w)) : NW p l e R s m args below meth c Q nL G cells slots pc L (.ref v :: .int i :: .ref a :: st) ((a, .inl (cA, n, .inr (.inr (.inr (.inr f))))) :: w) := fun H locs ls hw hl => by
  obtain ⟨q0, h0⟩ := List.getElem?_of_mem hm
  exact va_astq C.1 C.2.1 hw.1.1.1 hw.2.1 hw.2.2.1 hw.2.2.2.1 0 ti (q0 + 1) ci rfl hti (by rw [List.getElem?_cons_succ]; exact h0) hc (ivIn hin) d (fun H1 locs1 hP hD hS => kk H1 locs1 ls ⟨hw.1, hP, hD, hS, hw.2.2.2.2⟩ hl)
theorem n_iast (C : Cx p s m args c cc nL own) {n a : Nat} {f : Nat → Int32} {i v : Int32} (hin : 0 ≤ i.toInt ∧ i.toInt < n) (d : decode cc pc = .ok (.iastore, 1))
    (kk : NW p l e R s m args below meth c Q nL G cells slots (pc + 1) L st ((a, .inl (G.2.2.1 0, n, .inl (upd f i.toInt.toNat v))) :: w)) : NW p l e R s m args below meth c Q nL G cells slots pc L (.int v :: .int i :: .ref a :: st) ((a, .inl (G.2.2.1 0, n, .inl f)) :: w) := fun H locs ls hw hl =>
  va_iast C.1 C.2.1 hw.1.1.1 hw.2.1 hw.2.2.1 hw.2.2.2.1 0 0 rfl rfl (ivIn hin) d (fun H1 locs1 hP hD hS => kk H1 locs1 ls ⟨hw.1, hP, hD, hS, hw.2.2.2.2⟩ hl)
def QPL (G : Gt) (Post : va_W → Prop) : Array Value → State → Outcome → State → Prop := fun _ st oc t => (∃ w : va_W, oc = .returned none ∧ Post w ∧ va_P G.2.1 vwCl w t.heap ∧ va_D (aG G) w) ∧ va_F (aG G) st t
def McL (l : Launch) (G : Gt) (y : MethodName) (bytes : ByteArray) (maxL : Nat) (fr lo mc ms : Nat) (av : List Value) (w : va_W) (Post : va_W → Prop) : Prop :=
  Met l y (Cond.code y bytes maxL none :: WA) { frames := fr, cells := mc, slots := ms, locals := lo } (va_Pc av (WUL G w)) (QPL G Post) mc ms (aG G)
theorem McL.of {y : MethodName} {maxL fr lo mc ms : Nat} {av : List Value} {Post : va_W → Prop} {L0 : List (Option Value)} (hy : plainName y.cls = true) (hlen : (lg_sl av).length ≤ maxL) (hL : lo_as 0 L0 = lv_args 0 av)
    (body : ∀ (p : Program) (e : Env) (s : State) (m : MethodId) (args : Array Value) (below : List Frame) (meth : Method) (c : Code), Cx p s m args c cc maxL y.cls → meth.sig.returnType = none → meth.locks = false → meth.name = y.name → NW p l e { frames := fr, cells := mc, slots := ms, locals := lo } s m args below meth c (MQ below (QPL G Post) args s mc ms (aG G)) maxL G 0 0 0 L0 [] w) : McL l G y cc maxL fr lo mc ms av w Post := by
  refine Met.ofW (cc := cc) (maxL := maxL) (ret := none) hy rfl ?_
  intro p e s m args below meth c s₁ B hml hv
  obtain ⟨rfl, hU⟩ := hv
  have hts := atoms_spec (ws := Cond.code y cc maxL none :: WA) B.pre
  have hown : s.vm.findClass y.cls = some m.cls := findClass_of_methodNamed B.named
  have hb := body p e s m av.toArray below meth c ⟨B.exec, B.bytes, hml, hown, fun w hw => hts w (List.mem_cons_of_mem _ hw)⟩ B.returns B.notSynchronized (name_of_methodNamed B.named B.method).1
  have hl := lv_entry av hlen
  rw [lg_entry_eq]
  exact hb s.heap [] _ ⟨hU.1, hU.2.1, hU.2.2.1, va_S.rf, hU.2.2.2⟩ (by rw [lo_has, hL]; exact hl)
theorem n_vret (C : Cx p s m args c cc nL own) {Post : va_W → Prop} {mc ms : Nat} (hr : meth.sig.returnType = none) (hlk : meth.locks = false) (hc : cells ≤ mc) (hs : slots ≤ ms) (d : decode cc pc = .ok (.return_, 1)) (hp : Post w) : NW p l e R s m args below meth c (MQ below (QPL G Post) args s mc ms (aG G)) nL G cells slots pc L [] w := fun H locs ls hw hl => by
  refine W.widen hc hs ?_
  exact W.vret C.1 C.2.1 hr (fun t ht hW => ⟨⟨w, rfl, hp, by rw [ht]; exact hw.2.1, hw.2.2.1⟩, hw.2.2.2.1.F ht⟩) hw.2.2.2.1.2.2 d hlk
theorem n_widen {c2 s2 : Nat} (hc : cells ≤ c2) (hs : slots ≤ s2) (k : NW p l e R s m args below meth c Q nL G c2 s2 pc L st w) : NW p l e R s m args below meth c Q nL G cells slots pc L st w := fun H locs ls hw hl => W.widen hc hs (k H locs ls hw hl)
theorem n_run (C : Cx p s m args c cc nL own) {Post : va_W → Prop} {mc ms : Nat} {a : Array Value} {st0 rest : List Value} (hrun : ∀ (H : Heap) (locs : List Loc) (ls : Array Slot), WdL G s w H locs → lo_has ls nL L → va_Run p l e R s m args below meth c H locs cells slots mc ms (F0 m pc ls st0) rest (QPL G Post a) (aG G))
    (kk : ∀ w' : va_W, Post w' → NW p l e R s m args below meth c Q nL G (cells + mc) (slots + ms) (pc + 3) L rest w') : NW p l e R s m args below meth c Q nL G cells slots pc L st0 w := fun H locs ls hw hl => by
  intro T hT X
  obtain ⟨v, st₀, t, T', L1, h0, X', hL, e1, e2, ⟨⟨w', hv, hp, hP, hD⟩, hz, hk⟩, stp⟩ := hrun H locs ls hw hl T hT X
  cases hv
  rw [h0] at hz hk
  have hS := hw.2.2.2.1
  obtain ⟨t2, a1, b1⟩ := kk w' hp T'.heap (locs ++ L1) ls ⟨hw.1, by rw [e1]; exact hP, hD, ⟨Nat.le_trans hS.1 (by rw [e1]; exact hz), fun q h1 h2 => by rw [e1, hk q (Nat.lt_of_lt_of_le h1 hS.1) h2]; exact hS.2.1 q h1 h2, fun q hq => by
      rcases List.mem_append.mp hq with h | h
      · exact hS.2.2 q h
      · exact hL q h⟩, hw.2.2.2.2⟩ hl T' rfl X'
  exact ⟨t2, stp t2 a1, b1⟩
theorem n_callN (C : Cx p s m args c cc nL "LeanTower") {y : MethodName} {bytes : ByteArray} {maxL fr lo mc ms index : Nat} {a : Nat} {Post : va_W → Prop} (hM : McL l G y bytes maxL fr lo mc ms [.ref a] w Post) (hy : y.name = "<init>") (qc : Cond.code y bytes maxL none ∈ WA) (hne : (index, y) ∈ ne_l) (qi : Cond.instanceMethod y ∈ WA) (qn : Cond.initialized y.cls ∈ WA)
    (hd : y.cls ≠ "java/lang/invoke/MethodHandle" ∧ y.cls ≠ "java/lang/invoke/VarHandle" ∧ (parseMethodDescriptor y.desc).map (fun d => d.parameters.length) = some 0) (hR : fr + 1 ≤ R.frames ∧ 8 + (maxL + 11) + lo ≤ R.locals) (hf : cells + mc ≤ R.cells ∧ slots + ms ≤ R.slots) (hW : (st.map fun v => v.category).sum ≤ 8) (d : decode cc pc = .ok (.invokespecial index, 3))
    (kk : ∀ w' : va_W, Post w' → NW p l e R s m args below meth c Q nL G (cells + mc) (slots + ms) (pc + 3) L st w') : NW p l e R s m args below meth c Q nL G cells slots pc L (.ref a :: st) w := by
  refine n_run C (mc := mc) (ms := ms) (rest := st) (a := #[Value.ref a]) (fun H locs ls hw hl => ?_) kk
  have cb : va_CN R s args "LeanTower" index y "LeanTower" bytes maxL none (Cond.code y bytes maxL none :: WA) { frames := fr, cells := mc, slots := ms, locals := lo } mc ms 0 := va_cnB 0 C.2.2.2.2 (wa_goodIn y bytes maxL none qc) rfl rfl rfl (hw.1.2.2 _ hne) (C.2.2.2.2 _ qn) hd hR
  exact va_runIN (As := []) (rest := st) C hM ⟨cb, hy, C.2.2.2.2 _ qi⟩ ⟨fun a U g mk q => ⟨q.1, q.2.blind g mk a⟩, fun U hU hW => ⟨rfl, hw.at hW hU⟩⟩ rfl rfl hl.1 rfl (lv_room hW) d hf
theorem n_callI (C : Cx p s m args c cc nL own) {y : MethodName} {bytes : ByteArray} {maxL fr lo mc ms index : Nat} {a : Nat} {Post : va_W → Prop} (hM : McL l G y bytes maxL fr lo mc ms [.ref a] w Post) (hy : y.name = "<init>") (qc : Cond.code y bytes maxL none ∈ WA) (ql : Cond.methodLink own index y ∈ WA) (qi : Cond.instanceMethod y ∈ WA) (qn : Cond.initialized y.cls ∈ WA)
    (hd : y.cls ≠ "java/lang/invoke/MethodHandle" ∧ y.cls ≠ "java/lang/invoke/VarHandle" ∧ (parseMethodDescriptor y.desc).map (fun d => d.parameters.length) = some 0) (hR : fr + 1 ≤ R.frames ∧ 8 + (maxL + 11) + lo ≤ R.locals) (hf : cells + mc ≤ R.cells ∧ slots + ms ≤ R.slots) (hW : (st.map fun v => v.category).sum ≤ 8) (d : decode cc pc = .ok (.invokespecial index, 3))
    (kk : ∀ w' : va_W, Post w' → NW p l e R s m args below meth c Q nL G (cells + mc) (slots + ms) (pc + 3) L st w') : NW p l e R s m args below meth c Q nL G cells slots pc L (.ref a :: st) w := by
  refine n_run C (mc := mc) (ms := ms) (rest := st) (a := #[Value.ref a]) (fun H locs ls hw hl => ?_) kk
  have cb : CallB R s args own index y bytes maxL none (Cond.code y bytes maxL none :: WA) { frames := fr, cells := mc, slots := ms, locals := lo } mc ms 0 := callB_of 0 C.2.2.2.2 (wa_goodIn y bytes maxL none qc) rfl rfl rfl (C.2.2.2.2 _ qn) (C.2.2.2.2 _ ql) hd hR
  exact va_runI (As := []) (rest := st) C hM ⟨cb, hy, C.2.2.2.2 _ qi⟩ ⟨fun a U g mk q => ⟨q.1, q.2.blind g mk a⟩, fun U hU hW => ⟨rfl, hw.at hW hU⟩⟩ rfl rfl hl.1 rfl (lv_room hW) d hf
end NWR
