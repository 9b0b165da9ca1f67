/-! ===== the constructors: a world that grows, as a list up to its order ===== -/
def ao_l : List String := ["LeanTower$Row", "LeanTower$Tower", "LeanTower$Person"]
def ne_l : List (Nat × MethodName) := [(17, yX6_init), (24, yX8_init), (41, yX9_init), (48, yX0_init), (61, yX7_init)]
def KC (G : Gt) (U : State) (H : Heap) : Prop := KX G U H ∧ (∀ C ∈ ao_l, va_AO C U) ∧ ∀ q ∈ ne_l, va_Nw (.methodLinkNest "LeanTower" q.1 q.2 "LeanTower") U
theorem KC.at {G : Gt} {s U : State} {H : Heap} {locs : List Loc} (h : KC G s s.heap) (hS : va_S (aG G) s.heap H locs) (hW : s.WarmedH U.vm) (hU : U.heap = H) : KC G U U.heap := ⟨h.1.at hS hW hU, fun C hC => va_AO.moved hW.alike (h.2.1 C hC), fun q hq => (h.2.2 q hq).warmM hW⟩
theorem KC.blind {G : Gt} {U : State} (h : KC G U U.heap) (g : JFrame) (mk : MethodId) (a : Array Value) : KC G (U.calling g mk a) (U.calling g mk a).heap := ⟨h.1.blind g mk a, fun C hC => va_AO.moved (u := U) (U := U.calling g mk a) (Vm.Alike.refl U.vm) (h.2.1 C hC), fun q hq => (h.2.2 q hq).same rfl rfl⟩
def WUL (G : Gt) (w : va_W) (U : State) : Prop := KC G U U.heap ∧ va_P G.2.1 vwCl w U.heap ∧ va_D (aG G) w ∧ G.2.2.2.1 ≤ U.heap.size
def WdL (G : Gt) (s : State) (w : va_W) (H : Heap) (locs : List Loc) : Prop := KC G s s.heap ∧ va_P G.2.1 vwCl w H ∧ va_D (aG G) w ∧ va_S (aG G) s.heap H locs ∧ G.2.2.2.1 ≤ s.heap.size
theorem WUL.blind {G : Gt} {w : va_W} {U : State} (h : WUL G w U) (g : JFrame) (mk : MethodId) (a : Array Value) : WUL G w (U.calling g mk a) := ⟨h.1.blind g mk a, h.2.1, h.2.2.1, h.2.2.2⟩
theorem WdL.at {G : Gt} {s U : State} {w : va_W} {H : Heap} {locs : List Loc} (h : WdL G s w H locs) (hW : s.WarmedH U.vm) (hU : U.heap = H) : WUL G w U := ⟨h.1.at h.2.2.2.1 hW hU, by rw [hU]; exact h.2.1, h.2.2.1, by rw [hU]; exact Nat.le_trans h.2.2.2.2 h.2.2.2.1.1⟩
theorem va_P.perm {D : va_G} {cl : List vw_C} {w w' : va_W} {H : Heap} (hp : w.Perm w') (h : va_P D cl w H) : va_P D cl w' H := fun k q hk => by
  obtain ⟨k', hk'⟩ := List.getElem?_of_mem (hp.mem_iff.mpr (List.mem_of_getElem? hk))
  exact h k' q hk'
theorem dn_iff (w : va_W) : (∀ (i j : Nat) (p q : Nat × va_E), w[i]? = some p → w[j]? = some q → p.1 = q.1 → i = j) ↔ (w.map Prod.fst).Nodup := by
  rw [List.Nodup, List.pairwise_iff_getElem]
  constructor
  · intro h i j hi hj hij he
    rw [List.length_map] at hi hj
    rw [List.getElem_map, List.getElem_map] at he
    have := h i j _ _ (List.getElem?_eq_getElem hi) (List.getElem?_eq_getElem hj) he
    omega
  · intro h i j p q hi hj he
    obtain ⟨hi1, rfl⟩ := List.getElem?_eq_some_iff.mp hi
    obtain ⟨hj1, rfl⟩ := List.getElem?_eq_some_iff.mp hj
    rcases Nat.lt_trichotomy i j with g | g | g
    · exact absurd (by rw [List.getElem_map, List.getElem_map]; exact he) (h i j (by rw [List.length_map]; exact hi1) (by rw [List.length_map]; exact hj1) g)
    · exact g
    · exact absurd (by rw [List.getElem_map, List.getElem_map]; exact he.symm) (h j i (by rw [List.length_map]; exact hj1) (by rw [List.length_map]; exact hi1) g)
theorem va_D.perm {A : Nat → Prop} {w w' : va_W} (hp : w.Perm w') (h : va_D A w) : va_D A w' := by
  refine ⟨(dn_iff w').mpr (((hp.map Prod.fst).nodup_iff).mp ((dn_iff w).mp h.1)), fun k q hk => ?_⟩
  obtain ⟨k', hk'⟩ := List.getElem?_of_mem (hp.mem_iff.mpr (List.mem_of_getElem? hk))
  exact h.2 k' q hk'
theorem ra_inj {U : State} {c1 c2 : ClassId} {ty : FieldType} (h1 : va_RA U c1 ty) (h2 : va_RA U c2 ty) : c1 = c2 := by
  cases ty with
  | object C =>
    obtain ⟨_, _, _, _, _, a⟩ := h1
    obtain ⟨_, _, _, _, _, b⟩ := h2
    exact Option.some.inj (a.symm.trans b)
  | _ => exact Option.some.inj (Eq.trans (Eq.symm h1) h2)
theorem arrV_congr {cA : ClassId} {n : Nat} {f g : Nat → Value} (h : ∀ j, j < n → f j = g j) : arrV cA n f = arrV cA n g := by
  unfold arrV
  congr 2
  funext j
  exact h j.1 j.2
def NW (p : Program) (l : Launch) (e : Env) (R : Room) (s : State) (m : MethodId) (args : Array Value) (below : List Frame) (meth : Method) (c : Code) (Q : State → Prop) (nL : Nat) (G : Gt) (cells slots pc : Nat) (L : List (Option Value)) (st : List Value) (w : va_W) : Prop :=
  ∀ (H : Heap) (locs : List Loc) (ls : Array Slot), WdL G s w H locs → lo_has ls nL L → W p l e R s m args below meth c H locs cells slots Q (F0 m pc ls st)
section NWR
variable {p : Program} {l : Launch} {e : Env} {R : Room} {s : State} {m : MethodId} {args : Array Value} {below : List Frame} {meth : Method} {c : Code} {cells slots : Nat} {Q : State → Prop} {cc : ByteArray} {nL : Nat} {own : String} {G : Gt} {w : va_W} {pc : Nat} {L : List (Option Value)} {st : List Value}
theorem n_iconst (C : Cx p s m args c cc nL own) {n : Int} {v : Int32} (d : decode cc pc = .ok (.iconst n, 1)) (hv : Int32.ofInt n = v) (k : NW p l e R s m args below meth c Q nL G cells slots (pc + 1) L (.int v :: st) w) : NW p l e R s m args below meth c Q nL G cells slots pc L st w := fun H locs ls hw hl => lv_iconst C.1 C.2.1 d hv (k H locs ls hw hl)
theorem n_bipush (C : Cx p s m args c cc nL own) {n : Int} {v : Int32} (d : decode cc pc = .ok (.bipush n, 2)) (hv : (Int8.ofInt n).toInt32 = v) (k : NW p l e R s m args below meth c Q nL G cells slots (pc + 2) L (.int v :: st) w) : NW p l e R s m args below meth c Q nL G cells slots pc L st w := fun H locs ls hw hl => lv_bipush C.1 C.2.1 d hv (k H locs ls hw hl)
theorem n_sipush (C : Cx p s m args c cc nL own) {n : Int} {v : Int32} (d : decode cc pc = .ok (.sipush n, 3)) (hv : (Int16.ofInt n).toInt32 = v) (k : NW p l e R s m args below meth c Q nL G cells slots (pc + 3) L (.int v :: st) w) : NW p l e R s m args below meth c Q nL G cells slots pc L st w := fun H locs ls hw hl => lv_sipush C.1 C.2.1 d hv (k H locs ls hw hl)
theorem n_iload_n (C : Cx p s m args c cc nL own) {k0 : Fin 4} {i : Nat} {x : Int32} (d : decode cc pc = .ok (.iload_n k0, 1)) (hi : (k0 : Nat) = i) (hx : L[i]? = some (some (.int x))) (k : NW p l e R s m args below meth c Q nL G cells slots (pc + 1) L (.int x :: st) w) : NW p l e R s m args below meth c Q nL G cells slots pc L st w := fun H locs ls hw hl => lv_iload_n C.1 C.2.1 d hi (lo_at hl hx) (k H locs ls hw hl)
theorem n_aload_n (C : Cx p s m args c cc nL own) {k0 : Fin 4} {i : Nat} {x : Nat} (d : decode cc pc = .ok (.aload_n k0, 1)) (hi : (k0 : Nat) = i) (hx : L[i]? = some (some (.ref x))) (k : NW p l e R s m args below meth c Q nL G cells slots (pc + 1) L (.ref x :: st) w) : NW p l e R s m args below meth c Q nL G cells slots pc L st w := fun H locs ls hw hl => lv_aload_n C.1 C.2.1 d hi (lo_at hl hx) (k H locs ls hw hl)
theorem n_istore_n (C : Cx p s m args c cc nL own) {k0 : Fin 4} {i : Nat} {x : Int32} {L1 : List (Option Value)} (d : decode cc pc = .ok (.istore_n k0, 1)) (hi : (k0 : Nat) = i) (hn : i < nL) (hno : lo_nl L i = true) (hL : L.set i (some (.int x)) = L1) (k : NW p l e R s m args below meth c Q nL G cells slots (pc + 1) L1 st w) : NW p l e R s m args below meth c Q nL G cells slots pc L (.int x :: st) w := fun H locs ls hw hl => lv_istore_n C.1 C.2.1 d hi hl hn rfl (fun ls1 h1 => k H locs ls1 hw (hL ▸ lo_set hno h1))
theorem n_astore_n (C : Cx p s m args c cc nL own) {k0 : Fin 4} {i : Nat} {x : Nat} {L1 : List (Option Value)} (d : decode cc pc = .ok (.astore_n k0, 1)) (hi : (k0 : Nat) = i) (hn : i < nL) (hno : lo_nl L i = true) (hL : L.set i (some (.ref x)) = L1) (k : NW p l e R s m args below meth c Q nL G cells slots (pc + 1) L1 st w) : NW p l e R s m args below meth c Q nL G cells slots pc L (.ref x :: st) w := fun H locs ls hw hl => lv_astore_n C.1 C.2.1 d hi hl hn rfl (fun ls1 h1 => k H locs ls1 hw (hL ▸ lo_set hno h1))
theorem n_iinc (C : Cx p s m args c cc nL own) {i : Nat} {n : Int} {x v : Int32} {L1 : List (Option Value)} (d : decode cc pc = .ok (.iinc i n, 3)) (hx : L[i]? = some (some (.int x))) (hv : x + Int32.ofInt n = v) (hn : i < nL) (hno : lo_nl L i = true) (hL : L.set i (some (.int v)) = L1) (k : NW p l e R s m args below meth c Q nL G cells slots (pc + 3) L1 st w) : NW p l e R s m args below meth c Q nL G cells slots pc L st w := fun H locs ls hw hl => by
  obtain ⟨j, hj⟩ := List.getElem?_of_mem ((lo_mem L 0 (i, .int x)).mpr ⟨i, hx, by simp⟩)
  exact lv_iinc (k := j) C.1 C.2.1 d hl hj hv hn rfl (fun ls1 h1 => k H locs ls1 hw (hL ▸ lo_set hno h1))
theorem n_goto (C : Cx p s m args c cc nL own) {off : Int} {tgt : Nat} (d : decode cc pc = .ok (.goto off, 3)) (ht : (pc : Int) + off = (tgt : Int)) (k : NW p l e R s m args below meth c Q nL G cells slots tgt L st w) : NW p l e R s m args below meth c Q nL G cells slots pc L st w := fun H locs ls hw hl => lv_goto C.1 C.2.1 d ht (k H locs ls hw hl)
theorem n_dup (C : Cx p s m args c cc nL own) {v : Value} (d : decode cc pc = .ok (.dup, 1)) (hv : v.category = 1) (k : NW p l e R s m args below meth c Q nL G cells slots (pc + 1) L (v :: v :: st) w) : NW p l e R s m args below meth c Q nL G cells slots pc L (v :: st) w := fun H locs ls hw hl => lv_dup C.1 C.2.1 d hv (k H locs ls hw hl)
theorem n_icmp_ge (C : Cx p s m args c cc nL own) {x y : Int32} {off : Int} {tgt : Nat} (d : decode cc pc = .ok (.if_icmp .ge off, 3)) (ht : (pc : Int) + off = (tgt : Int)) (kt : y ≤ x → NW p l e R s m args below meth c Q nL G cells slots tgt L st w) (kf : ¬ y ≤ x → NW p l e R s m args below meth c Q nL G cells slots (pc + 3) L st w) : NW p l e R s m args below meth c Q nL G cells slots pc L (.int y :: .int x :: st) w := fun H locs ls hw hl => lv_icmp_ge C.1 C.2.1 d ht (fun q => kt q H locs ls hw hl) (fun q => kf q H locs ls hw hl)
theorem n_objInit (C : Cx p s m args c cc nL own) {index a : Nat} (ql : Cond.methodLink own index objectInit ∈ WA) (qi : Cond.instanceMethod objectInit ∈ WA) (qc : Cond.code objectInit ⟨#[0xb1]⟩ 1 none ∈ WA) (hR : 1 ≤ R.frames ∧ (st.map fun v => v.category).sum + 12 ≤ R.locals) (_hf : True) (d : decode cc pc = .ok (.invokespecial index, 3)) (k : NW p l e R s m args below meth c Q nL G cells slots (pc + 3) L st w) : NW p l e R s m args below meth c Q nL G cells slots pc L (.ref a :: st) w := fun H locs ls hw hl => W.objInit C.1 C.2.1 C.2.2.2.1 (C.2.2.2.2 _ ql) (C.2.2.2.2 _ qi) (C.2.2.2.2 _ qc) rfl (hl.1.trans C.2.2.1.symm) rfl d hR.1 (by show 2 * 0 + _ + 12 ≤ _; have := hR.2; omega) (k H locs ls hw hl)
theorem n_perm {w' : va_W} (hp : w.Perm w') (k : NW p l e R s m args below meth c Q nL G cells slots pc L st w') : NW p l e R s m args below meth c Q nL G cells slots pc L st w := fun H locs ls hw hl => k H locs ls ⟨hw.1, hw.2.1.perm hp, hw.2.2.1.perm hp, hw.2.2.2⟩ hl
theorem n_new (C : Cx p s m args c cc nL own) {C1 : String} {T : u_T} {N ci index : Nat} (hin : ∀ w ∈ u_ws C1 T N, w ∈ WA) (ty : Nat → FieldType) (hty : ∀ k, k < N → parseFieldDescriptor (T k).2.2.1 = some (ty k)) (qcl : Cond.classLink own index C1 ∈ WA) (qin : Cond.instantiable C1 N ∈ WA) (qi : Cond.initialized C1 ∈ WA) (hc : vwCl[ci]? = some (C1, T, N)) {fs : List Value} (hfs : ∀ j, j < N → defaultValue (ty j) = vp_V fs j) (h1 : cells + 1 ≤ R.cells) (h2 : slots + N ≤ R.slots) (d : decode cc pc = .ok (.new index, 3))
    (kk : ∀ q : Nat, NW p l e R s m args below meth c Q nL G (cells + 1) (slots + N) (pc + 3) L (.ref q :: st) ((q, .inr (ci, fs)) :: w)) : NW p l e R s m args below meth c Q nL G cells slots pc L st w := fun H locs ls hw hl => by
  refine va_new (C := C1) (T := T) (N := N) (ci := ci) (fs := fs) C.1 C.2.1 C.2.2.2.2 hin ty hty C.2.2.2.1 (C.2.2.2.2 _ qcl) (C.2.2.2.2 _ qin) (C.2.2.2.2 _ qi) hw.1.1.1 hw.2.1 hw.2.2.1 hw.2.2.2.1 (fun q h => Nat.le_trans hw.2.2.2.2 h) hc hfs h1 h2 d (fun q H1 hP hD hS => ?_)
  have hp := List.perm_append_singleton (q, (Sum.inr (ci, fs) : va_E)) w
  exact kk q H1 locs ls ⟨hw.1, hP.perm hp, hD.perm hp, hS, hw.2.2.2.2⟩ hl
theorem n_newa (C : Cx p s m args c cc nL own) {atype : ArrayType} {ty : FieldType} (hty : newarray.typeOf atype = ty) (qa : Cond.arrayClass ty ∈ WA) {ti : Nat} {cA : ClassId} (hti : (tyl G)[ti]? = some (cA, ty)) {n : Int32} {N : Nat} {a0 : vp_A} (ha : ∀ cA : ClassId, vp_cell cA a0 = arrV cA N (fun _ => defaultValue ty)) (hn : ¬ n < 0) (hN : n.toNatClampNeg = N) (hb : N * componentBytes ty ≤ 536870912) (h1 : cells + 1 ≤ R.cells) (h2 : slots + N ≤ R.slots) (d : decode cc pc = .ok (.newarray atype, 2))
    (kk : ∀ q : Nat, NW p l e R s m args below meth c Q nL G (cells + 1) (slots + N) (pc + 2) L (.ref q :: st) ((q, .inl (cA, a0)) :: w)) : NW p l e R s m args below meth c Q nL G cells slots pc L (.int n :: st) w := fun H locs ls hw hl => by
  refine va_newa C.1 C.2.1 (by rw [hty]; exact C.2.2.2.2 _ qa) hty hw.1.1.1 hw.2.1 hw.2.2.1 hw.2.2.2.1 (fun q h => Nat.le_trans hw.2.2.2.2 h) ha hn hN hb h1 h2 d (fun q cB H1 hK hP hD hS => ?_)
  have e : cB = cA := ra_inj (hK.2 (tyl G).length (cB, ty) (by rw [List.getElem?_append_right (Nat.le_refl _), Nat.sub_self]; rfl)).2 (hw.1.1.1.2 ti _ hti).2
  subst e
  have hp := List.perm_append_singleton (q, (Sum.inl (cB, a0) : va_E)) w
  exact kk q H1 locs ls ⟨hw.1, hP.perm hp, hD.perm hp, hS, hw.2.2.2.2⟩ hl
theorem n_newq (C : Cx p s m args c cc nL own) {C1 : String} {index : Nat} (qcl : Cond.classLink own index C1 ∈ WA) (hao : C1 ∈ ao_l) {ti : Nat} {cA : ClassId} (hti : (tyl G)[ti]? = some (cA, .object C1)) {n : Int32} {N : Nat} (hn : ¬ n < 0) (hN : n.toNatClampNeg = N) (hb : N * 4 ≤ 536870912) (h1 : cells + 1 ≤ R.cells) (h2 : slots + N ≤ R.slots) (d : decode cc pc = .ok (.anewarray index, 3))
    (kk : ∀ q : Nat, NW p l e R s m args below meth c Q nL G (cells + 1) (slots + N) (pc + 3) L (.ref q :: st) ((q, .inl (cA, N, .inr (.inr (.inr (.inr (fun _ => none)))))) :: w)) : NW p l e R s m args below meth c Q nL G cells slots pc L (.int n :: st) w := fun H locs ls hw hl => by
  refine va_newq C.1 C.2.1 C.2.2.2.1 (C.2.2.2.2 _ qcl) (hw.1.2.1 _ hao) hw.1.1.1 hw.2.1 hw.2.2.1 hw.2.2.2.1 (fun q h => Nat.le_trans hw.2.2.2.2 h) hn hN hb h1 h2 d (fun q cB H1 hK hP hD hS => ?_)
  have e : cB = cA := ra_inj (hK.2 (tyl G).length (cB, .object C1) (by rw [List.getElem?_append_right (Nat.le_refl _), Nat.sub_self]; rfl)).2 (hw.1.1.1.2 ti _ hti).2
  subst e
  have hp := List.perm_append_singleton (q, (Sum.inl (cB, N, .inr (.inr (.inr (.inr (fun _ => none))))) : va_E)) w
  exact kk q H1 locs ls ⟨hw.1, hP.perm hp, hD.perm hp, hS, hw.2.2.2.2⟩ hl
theorem n_putF (C : Cx p s m args c cc nL own) {C1 : String} {T : u_T} {N ci : Nat} (hin : ∀ w ∈ u_ws C1 T N, w ∈ WA) (ty0 : Nat → FieldType) (hty : ∀ k, k < N → parseFieldDescriptor (T k).2.2.1 = some (ty0 k)) (hnm : ∀ a, a < N → ∀ b, b < N → a ≠ b → (T a).2.1 ≠ (T b).2.1) (hc : vwCl[ci]? = some (C1, T, N)) {a b : Nat} {fs : List Value} (k : Nat) (hk : k < N) (hl0 : k < fs.length) (hfin : (T k).2.2.2 = true) (hin2 : meth.name = "<init>") (hdecl : (T k).1 = own) (hn : narrow (ty0 k) (.ref b) = .ref b) (hf : fits (ty0 k) (.ref b) = true) {index : Nat} (hq : Cond.fieldLink own index (T k).1 (T k).2.1 (T k).2.2.1 ∈ WA) (d : decode cc pc = .ok (.putfield index, 3))
    (kk : NW p l e R s m args below meth c Q nL G cells slots (pc + 3) L st ((a, .inr (ci, fs.set k (.ref b))) :: w)) : NW p l e R s m args below meth c Q nL G cells slots pc L (.ref b :: .ref a :: st) ((a, .inr (ci, fs)) :: w) := fun H locs ls hw hl =>
  va_putF (ref := (T k).1) (ty := ty0 k) C.1 C.2.1 C.2.2.2.2 hin ty0 hty hnm C.2.2.2.1 hw.1.1.1 hw.2.1 hw.2.2.1 hw.2.2.2.1 0 rfl hc k hk (C.2.2.2.2 _ hq) (fun _ h => h) hfin hin2 hdecl (hty k hk) hn hf hl0 d (fun H1 locs1 hP hD hS => kk H1 locs1 ls ⟨hw.1, hP, hD, hS, hw.2.2.2.2⟩ hl)
theorem n_put (C : Cx p s m args c cc nL own) {C1 : String} {T : u_T} {N ci : Nat} (hin : ∀ w ∈ u_ws C1 T N, w ∈ WA) (ty0 : Nat → FieldType) (hty : ∀ k, k < N → parseFieldDescriptor (T k).2.2.1 = some (ty0 k)) (hnm : ∀ a, a < N → ∀ b, b < N → a ≠ b → (T a).2.1 ≠ (T b).2.1) (hc : vwCl[ci]? = some (C1, T, N)) {a : Nat} {v : Int32} {fs : List Value} (k : Nat) (hk : k < N) (hl0 : k < fs.length) (hfin : (T k).2.2.2 = false) (hd : parseFieldDescriptor (T k).2.2.1 = some .int) {index : Nat} (hq : Cond.fieldLink own index (T k).1 (T k).2.1 (T k).2.2.1 ∈ WA) (d : decode cc pc = .ok (.putfield index, 3))
    (kk : NW p l e R s m args below meth c Q nL G cells slots (pc + 3) L st ((a, .inr (ci, fs.set k (.int v))) :: w)) : NW p l e R s m args below meth c Q nL G cells slots pc L (.int v :: .ref a :: st) ((a, .inr (ci, fs)) :: w) := fun H locs ls hw hl =>
  va_put (ref := (T k).1) (ty := .int) C.1 C.2.1 C.2.2.2.2 hin ty0 hty hnm C.2.2.2.1 hw.1.1.1 hw.2.1 hw.2.2.1 hw.2.2.2.1 0 rfl hc k hk (C.2.2.2.2 _ hq) (fun _ h => h) hfin hd rfl rfl hl0 d (fun H1 locs1 hP hD hS => kk H1 locs1 ls ⟨hw.1, hP, hD, hS, hw.2.2.2.2⟩ hl)
theorem n_get (C : Cx p s m args c cc nL own) {C1 : String} {T : u_T} {N ci : Nat} (hin : ∀ w ∈ u_ws C1 T N, w ∈ WA) (hc : vwCl[ci]? = some (C1, T, N)) {a : Nat} {fs : List Value} (hm : (a, (Sum.inr (ci, fs) : va_E)) ∈ w) (k : Nat) (hk : k < N) {v : Value} (hv : fs[k]? = some v) {index : Nat} (hq : Cond.fieldLink own index (T k).1 (T k).2.1 (T k).2.2.1 ∈ WA) (d : decode cc pc = .ok (.getfield index, 3))
    (kk : NW p l e R s m args below meth c Q nL G cells slots (pc + 3) L (v :: st) w) : NW p l e R s m args below meth c Q nL G cells slots pc L (.ref a :: st) w := fun H locs ls hw hl => by
  obtain ⟨q0, h0⟩ := List.getElem?_of_mem hm
  exact va_get (ref := (T k).1) C.1 C.2.1 C.2.2.2.2 hin C.2.2.2.1 hw.1.1.1 hw.2.1 q0 h0 hc k hk (C.2.2.2.2 _ hq) (fun _ h => h) hv d (kk H locs ls hw hl)
theorem n_aast (C : Cx p s m args c cc nL own) {ti ci : Nat} {cA : ClassId} {r : vw_C} {n a v : Nat} {vs : List Value} {f : Nat → Option Nat} (hti : (tyl G)[ti]? = some (cA, .object r.1)) (hm : (v, (Sum.inr (ci, vs) : va_E)) ∈ w) (hc : vwCl[ci]? = some r) {i : Int32} (hin : 0 ≤ i.toInt ∧ i.toInt < n) (d : decode cc pc = .ok (.aastore, 1))
    (kk : NW p l e R s m args below meth c Q nL G cells slots (pc + 1) L st ((a, .inl (cA, n, .inr (.inr (.inr (.inr (va_up f i.toNatClampNeg (some v))))))) :: w)) : NW p l e R s m args below meth c Q nL G cells slots pc L (.ref v :: .int i :: .ref a :: st) ((a, .inl (cA, n, .inr (.inr (.inr (.inr f))))) :: w) := fun H locs ls hw hl => by
  obtain ⟨q0, h0⟩ := List.getElem?_of_mem hm
  exact va_astq C.1 C.2.1 hw.1.1.1 hw.2.1 hw.2.2.1 hw.2.2.2.1 0 ti (q0 + 1) ci rfl hti (by rw [List.getElem?_cons_succ]; exact h0) hc (ivIn hin) d (fun H1 locs1 hP hD hS => kk H1 locs1 ls ⟨hw.1, hP, hD, hS, hw.2.2.2.2⟩ hl)
theorem n_iast (C : Cx p s m args c cc nL own) {n a : Nat} {f : Nat → Int32} {i v : Int32} (hin : 0 ≤ i.toInt ∧ i.toInt < n) (d : decode cc pc = .ok (.iastore, 1))
    (kk : NW p l e R s m args below meth c Q nL G cells slots (pc + 1) L st ((a, .inl (G.2.2.1 0, n, .inl (upd f i.toInt.toNat v))) :: w)) : NW p l e R s m args below meth c Q nL G cells slots pc L (.int v :: .int i :: .ref a :: st) ((a, .inl (G.2.2.1 0, n, .inl f)) :: w) := fun H locs ls hw hl =>
  va_iast C.1 C.2.1 hw.1.1.1 hw.2.1 hw.2.2.1 hw.2.2.2.1 0 0 rfl rfl (ivIn hin) d (fun H1 locs1 hP hD hS => kk H1 locs1 ls ⟨hw.1, hP, hD, hS, hw.2.2.2.2⟩ hl)
def QPL (G : Gt) (Post : va_W → Prop) : Array Value → State → Outcome → State → Prop := fun _ st oc t => (∃ w : va_W, oc = .returned none ∧ Post w ∧ va_P G.2.1 vwCl w t.heap ∧ va_D (aG G) w) ∧ va_F (aG G) st t
def McL (l : Launch) (G : Gt) (y : MethodName) (bytes : ByteArray) (maxL : Nat) (fr lo mc ms : Nat) (av : List Value) (w : va_W) (Post : va_W → Prop) : Prop :=
  Met l y (Cond.code y bytes maxL none :: WA) { frames := fr, cells := mc, slots := ms, locals := lo } (va_Pc av (WUL G w)) (QPL G Post) mc ms (aG G)
theorem McL.of {y : MethodName} {maxL fr lo mc ms : Nat} {av : List Value} {Post : va_W → Prop} {L0 : List (Option Value)} (hy : plainName y.cls = true) (hlen : (lg_sl av).length ≤ maxL) (hL : lo_as 0 L0 = lv_args 0 av)
    (body : ∀ (p : Program) (e : Env) (s : State) (m : MethodId) (args : Array Value) (below : List Frame) (meth : Method) (c : Code), Cx p s m args c cc maxL y.cls → meth.sig.returnType = none → meth.locks = false → meth.name = y.name → NW p l e { frames := fr, cells := mc, slots := ms, locals := lo } s m args below meth c (MQ below (QPL G Post) args s mc ms (aG G)) maxL G 0 0 0 L0 [] w) : McL l G y cc maxL fr lo mc ms av w Post := by
  refine Met.ofW (cc := cc) (maxL := maxL) (ret := none) hy rfl ?_
  intro p e s m args below meth c s₁ B hml hv
  obtain ⟨rfl, hU⟩ := hv
  have hts := atoms_spec (ws := Cond.code y cc maxL none :: WA) B.pre
  have hown : s.vm.findClass y.cls = some m.cls := findClass_of_methodNamed B.named
  have hb := body p e s m av.toArray below meth c ⟨B.exec, B.bytes, hml, hown, fun w hw => hts w (List.mem_cons_of_mem _ hw)⟩ B.returns B.notSynchronized (name_of_methodNamed B.named B.method).1
  have hl := lv_entry av hlen
  rw [lg_entry_eq]
  exact hb s.heap [] _ ⟨hU.1, hU.2.1, hU.2.2.1, va_S.rf, hU.2.2.2⟩ (by rw [lo_has, hL]; exact hl)
theorem n_vret (C : Cx p s m args c cc nL own) {Post : va_W → Prop} {mc ms : Nat} (hr : meth.sig.returnType = none) (hlk : meth.locks = false) (hc : cells ≤ mc) (hs : slots ≤ ms) (d : decode cc pc = .ok (.return_, 1)) (hp : Post w) : NW p l e R s m args below meth c (MQ below (QPL G Post) args s mc ms (aG G)) nL G cells slots pc L [] w := fun H locs ls hw hl => by
  refine W.widen hc hs ?_
  exact W.vret C.1 C.2.1 hr (fun t ht hW => ⟨⟨w, rfl, hp, by rw [ht]; exact hw.2.1, hw.2.2.1⟩, hw.2.2.2.1.F ht⟩) hw.2.2.2.1.2.2 d hlk
theorem n_widen {c2 s2 : Nat} (hc : cells ≤ c2) (hs : slots ≤ s2) (k : NW p l e R s m args below meth c Q nL G c2 s2 pc L st w) : NW p l e R s m args below meth c Q nL G cells slots pc L st w := fun H locs ls hw hl => W.widen hc hs (k H locs ls hw hl)
theorem n_run (C : Cx p s m args c cc nL own) {Post : va_W → Prop} {mc ms : Nat} {a : Array Value} {st0 rest : List Value} (hrun : ∀ (H : Heap) (locs : List Loc) (ls : Array Slot), WdL G s w H locs → lo_has ls nL L → va_Run p l e R s m args below meth c H locs cells slots mc ms (F0 m pc ls st0) rest (QPL G Post a) (aG G))
    (kk : ∀ w' : va_W, Post w' → NW p l e R s m args below meth c Q nL G (cells + mc) (slots + ms) (pc + 3) L rest w') : NW p l e R s m args below meth c Q nL G cells slots pc L st0 w := fun H locs ls hw hl => by
  intro T hT X
  obtain ⟨v, st₀, t, T', L1, h0, X', hL, e1, e2, ⟨⟨w', hv, hp, hP, hD⟩, hz, hk⟩, stp⟩ := hrun H locs ls hw hl T hT X
  cases hv
  rw [h0] at hz hk
  have hS := hw.2.2.2.1
  obtain ⟨t2, a1, b1⟩ := kk w' hp T'.heap (locs ++ L1) ls ⟨hw.1, by rw [e1]; exact hP, hD, ⟨Nat.le_trans hS.1 (by rw [e1]; exact hz), fun q h1 h2 => by rw [e1, hk q (Nat.lt_of_lt_of_le h1 hS.1) h2]; exact hS.2.1 q h1 h2, fun q hq => by
      rcases List.mem_append.mp hq with h | h
      · exact hS.2.2 q h
      · exact hL q h⟩, hw.2.2.2.2⟩ hl T' rfl X'
  exact ⟨t2, stp t2 a1, b1⟩
theorem n_callN (C : Cx p s m args c cc nL "LeanTower") {y : MethodName} {bytes : ByteArray} {maxL fr lo mc ms index : Nat} {a : Nat} {Post : va_W → Prop} (hM : McL l G y bytes maxL fr lo mc ms [.ref a] w Post) (hy : y.name = "<init>") (qc : Cond.code y bytes maxL none ∈ WA) (hne : (index, y) ∈ ne_l) (qi : Cond.instanceMethod y ∈ WA) (qn : Cond.initialized y.cls ∈ WA)
    (hd : y.cls ≠ "java/lang/invoke/MethodHandle" ∧ y.cls ≠ "java/lang/invoke/VarHandle" ∧ (parseMethodDescriptor y.desc).map (fun d => d.parameters.length) = some 0) (hR : fr + 1 ≤ R.frames ∧ 8 + (maxL + 11) + lo ≤ R.locals) (hf : cells + mc ≤ R.cells ∧ slots + ms ≤ R.slots) (hW : (st.map fun v => v.category).sum ≤ 8) (d : decode cc pc = .ok (.invokespecial index, 3))
    (kk : ∀ w' : va_W, Post w' → NW p l e R s m args below meth c Q nL G (cells + mc) (slots + ms) (pc + 3) L st w') : NW p l e R s m args below meth c Q nL G cells slots pc L (.ref a :: st) w := by
  refine n_run C (mc := mc) (ms := ms) (rest := st) (a := #[Value.ref a]) (fun H locs ls hw hl => ?_) kk
  have cb : va_CN R s args "LeanTower" index y "LeanTower" bytes maxL none (Cond.code y bytes maxL none :: WA) { frames := fr, cells := mc, slots := ms, locals := lo } mc ms 0 := va_cnB 0 C.2.2.2.2 (wa_goodIn y bytes maxL none qc) rfl rfl rfl (hw.1.2.2 _ hne) (C.2.2.2.2 _ qn) hd hR
  exact va_runIN (As := []) (rest := st) C hM ⟨cb, hy, C.2.2.2.2 _ qi⟩ ⟨fun a U g mk q => ⟨q.1, q.2.blind g mk a⟩, fun U hU hW => ⟨rfl, hw.at hW hU⟩⟩ rfl rfl hl.1 rfl (lv_room hW) d hf
theorem n_callI (C : Cx p s m args c cc nL own) {y : MethodName} {bytes : ByteArray} {maxL fr lo mc ms index : Nat} {a : Nat} {Post : va_W → Prop} (hM : McL l G y bytes maxL fr lo mc ms [.ref a] w Post) (hy : y.name = "<init>") (qc : Cond.code y bytes maxL none ∈ WA) (ql : Cond.methodLink own index y ∈ WA) (qi : Cond.instanceMethod y ∈ WA) (qn : Cond.initialized y.cls ∈ WA)
    (hd : y.cls ≠ "java/lang/invoke/MethodHandle" ∧ y.cls ≠ "java/lang/invoke/VarHandle" ∧ (parseMethodDescriptor y.desc).map (fun d => d.parameters.length) = some 0) (hR : fr + 1 ≤ R.frames ∧ 8 + (maxL + 11) + lo ≤ R.locals) (hf : cells + mc ≤ R.cells ∧ slots + ms ≤ R.slots) (hW : (st.map fun v => v.category).sum ≤ 8) (d : decode cc pc = .ok (.invokespecial index, 3))
    (kk : ∀ w' : va_W, Post w' → NW p l e R s m args below meth c Q nL G (cells + mc) (slots + ms) (pc + 3) L st w') : NW p l e R s m args below meth c Q nL G cells slots pc L (.ref a :: st) w := by
  refine n_run C (mc := mc) (ms := ms) (rest := st) (a := #[Value.ref a]) (fun H locs ls hw hl => ?_) kk
  have cb : CallB R s args own index y bytes maxL none (Cond.code y bytes maxL none :: WA) { frames := fr, cells := mc, slots := ms, locals := lo } mc ms 0 := callB_of 0 C.2.2.2.2 (wa_goodIn y bytes maxL none qc) rfl rfl rfl (C.2.2.2.2 _ qn) (C.2.2.2.2 _ ql) hd hR
  exact va_runI (As := []) (rest := st) C hM ⟨cb, hy, C.2.2.2.2 _ qi⟩ ⟨fun a U g mk q => ⟨q.1, q.2.blind g mk a⟩, fun U hU hW => ⟨rfl, hw.at hW hU⟩⟩ rfl rfl hl.1 rfl (lv_room hW) d hf
end NWR
/-! ===== what a constructor leaves ===== -/
abbrev zi : vp_A → va_E := fun a => .inl (0, a)
abbrev nq (cA : ClassId) (n : Nat) : va_E := .inl (cA, n, .inr (.inr (.inr (.inr (fun _ => none)))))
abbrev ia (cA : ClassId) (n : Nat) : va_E := .inl (cA, n, .inl (fun _ => 0))
def TB (G : Gt) (g : Nat → Nat) : va_W := [(g 0, .inr (7, [.int 0, .int 0, .int 0, .int 0, .ref (g 5), .ref (g 1), .ref (g 2), .ref (g 3), .ref (g 4), .int 0, .int 0, .int 0])), (g 4, ia (G.2.2.1 0) 4), (g 3, ia (G.2.2.1 0) 4), (g 2, ia (G.2.2.1 0) 7), (g 1, ia (G.2.2.1 0) 7), (g 5, nq (G.2.2.1 3) 7)]
def RB (G : Gt) (g : Nat → Nat) : va_W := [(g 0, .inr (6, [.ref (g 1), .int (-1), .int 0])), (g 1, ia (G.2.2.1 0) 40)]
def DB (G : Gt) (g : Nat → Nat) : va_W := [(g 0, .inr (5, [.ref (g 1), .int 0, .int 0, .int 0, .int 0, .int 0, .int 0, .int 0])), (g 1, ia (G.2.2.1 1) 400)]
def CB (G : Gt) (g : Nat → Nat) : va_W := [(g 0, .inr (8, [.ref (g 1), .int 0])), (g 1, ia (G.2.2.1 0) 16)]
def BB (G : Gt) (g : Nat → Nat) : va_W := [(g 0, .inr (0, [.ref (g 1), .ref (g 2), .int 0, .ref (g 3), .int 0])), (g 3, ia (G.2.2.1 0) 5), (g 2, ia (G.2.2.1 0) 5), (g 1, ia (G.2.2.1 0) 5)]
def gof (l : List Nat) : Nat → Nat := fun k => l.getD k 0
theorem fs_X8 : ∀ j, j < 12 → defaultValue (tyX8 j) = vp_V [.int 0, .int 0, .int 0, .int 0, .null, .null, .null, .null, .null, .int 0, .int 0, .int 0] j := by decide +kernel
theorem fs_X7 : ∀ j, j < 3 → defaultValue (tyX7 j) = vp_V [.null, .int 0, .int 0] j := by decide +kernel
theorem fs_X6 : ∀ j, j < 8 → defaultValue (tyX6 j) = vp_V [.null, .int 0, .int 0, .int 0, .int 0, .int 0, .int 0, .int 0] j := by decide +kernel
theorem fs_X9 : ∀ j, j < 2 → defaultValue (tyX9 j) = vp_V [.null, .int 0] j := by decide +kernel
theorem fs_X0 : ∀ j, j < 5 → defaultValue (tyX0 j) = vp_V [.null, .null, .int 0, .null, .int 0] j := by decide +kernel
theorem fs_X11 : ∀ j, j < 13 → defaultValue (tyX11 j) = vp_V [.null, .null, .null, .null, .null, .int 0, .int 0, .null, .null, .null, .null, .null, .int 0] j := by decide +kernel
theorem fs_X12 : ∀ j, j < 21 → defaultValue (tyX12 j) = vp_V [.null, .null, .null, .null, .null, .null, .int 0, .int 0, .int 0, .int 0, .null, .int 0, .int 0, .int 0, .long 0, .int 0, .int 0, .int 0, .null, .null, .int 0] j := by decide +kernel
set_option maxHeartbeats 4000000 in
theorem c_X8_init (l : Launch) (G : Gt) (a : Nat) (w : va_W) : McL l G yX8_init cX8_init 1 1 40 5 29 [.ref a] ((a, .inr (7, [.int 0, .int 0, .int 0, .int 0, .null, .null, .null, .null, .null, .int 0, .int 0, .int 0])) :: w) (fun w' => ∃ g : Nat → Nat, w' = TB G g ++ w ∧ g 0 = a) := by
  refine McL.of (L0 := [some (.ref a)]) (by decide) (Nat.le_of_ble_eq_true rfl) rfl ?_
  intro p e s m args below meth c C hr hlk hnm
  have C : Cx p s m args c cX8_init 1 "LeanTower$Tower" := C
  have hin : meth.name = "<init>" := hnm
  refine n_aload_n C dX8_init_0 rfl rfl ?_
  refine n_objInit C q1_71 q1_27 q1_28 ⟨by decide, Nat.le_of_ble_eq_true rfl⟩ trivial dX8_init_1 ?_
  refine n_aload_n C dX8_init_4 rfl rfl ?_
  refine n_bipush (v := 7) C dX8_init_5 (by decide) ?_
  refine n_newq (ti := 3) (N := 7) C q1_72 (by decide) rfl (by decide) (by decide) (by decide) (by decide) (by decide) dX8_init_7 (fun x1 => ?_)
  refine n_perm (List.Perm.swap _ _ _) ?_
  refine n_putF C in_8 tyX8 tyX8_ok nmX8 rfl 4 (by decide) (Nat.le_of_ble_eq_true rfl) rfl hin rfl rfl rfl q1_86 dX8_init_10 ?_
  refine n_aload_n C dX8_init_13 rfl rfl ?_
  refine n_bipush (v := 7) C dX8_init_14 (by decide) ?_
  refine n_newa (atype := .int) (ty := .int) (ti := 0) (N := 7) (a0 := (7, .inl (fun _ => 0))) C rfl q1_126 rfl (fun _ => rfl) (by decide) (by decide) (by decide) (by decide) (by decide) dX8_init_16 (fun x2 => ?_)
  refine n_perm (List.Perm.swap _ _ _) ?_
  refine n_putF C in_8 tyX8 tyX8_ok nmX8 rfl 5 (by decide) (Nat.le_of_ble_eq_true rfl) rfl hin rfl rfl rfl q1_87 dX8_init_18 ?_
  refine n_aload_n C dX8_init_21 rfl rfl ?_
  refine n_bipush (v := 7) C dX8_init_22 (by decide) ?_
  refine n_newa (atype := .int) (ty := .int) (ti := 0) (N := 7) (a0 := (7, .inl (fun _ => 0))) C rfl q1_126 rfl (fun _ => rfl) (by decide) (by decide) (by decide) (by decide) (by decide) dX8_init_24 (fun x3 => ?_)
  refine n_perm (List.Perm.swap _ _ _) ?_
  refine n_putF C in_8 tyX8 tyX8_ok nmX8 rfl 6 (by decide) (Nat.le_of_ble_eq_true rfl) rfl hin rfl rfl rfl q1_89 dX8_init_26 ?_
  refine n_aload_n C dX8_init_29 rfl rfl ?_
  refine n_iconst (v := 4) C dX8_init_30 (by decide) ?_
  refine n_newa (atype := .int) (ty := .int) (ti := 0) (N := 4) (a0 := (4, .inl (fun _ => 0))) C rfl q1_126 rfl (fun _ => rfl) (by decide) (by decide) (by decide) (by decide) (by decide) dX8_init_31 (fun x4 => ?_)
  refine n_perm (List.Perm.swap _ _ _) ?_
  refine n_putF C in_8 tyX8 tyX8_ok nmX8 rfl 7 (by decide) (Nat.le_of_ble_eq_true rfl) rfl hin rfl rfl rfl q1_91 dX8_init_33 ?_
  refine n_aload_n C dX8_init_36 rfl rfl ?_
  refine n_iconst (v := 4) C dX8_init_37 (by decide) ?_
  refine n_newa (atype := .int) (ty := .int) (ti := 0) (N := 4) (a0 := (4, .inl (fun _ => 0))) C rfl q1_126 rfl (fun _ => rfl) (by decide) (by decide) (by decide) (by decide) (by decide) dX8_init_38 (fun x5 => ?_)
  refine n_perm (List.Perm.swap _ _ _) ?_
  refine n_putF C in_8 tyX8 tyX8_ok nmX8 rfl 8 (by decide) (Nat.le_of_ble_eq_true rfl) rfl hin rfl rfl rfl q1_93 dX8_init_40 ?_
  exact n_vret C hr hlk (by decide) (by decide) dX8_init_43 ⟨gof [a, x2, x3, x4, x5, x1], rfl, rfl⟩
set_option maxHeartbeats 4000000 in
theorem c_X7_init (l : Launch) (G : Gt) (a : Nat) (w : va_W) : McL l G yX7_init cX7_init 1 1 40 1 40 [.ref a] ((a, .inr (6, [.null, .int 0, .int 0])) :: w) (fun w' => ∃ g : Nat → Nat, w' = RB G g ++ w ∧ g 0 = a) := by
  refine McL.of (L0 := [some (.ref a)]) (by decide) (Nat.le_of_ble_eq_true rfl) rfl ?_
  intro p e s m args below meth c C hr hlk hnm
  have C : Cx p s m args c cX7_init 1 "LeanTower$Row" := C
  have hin : meth.name = "<init>" := hnm
  refine n_aload_n C dX7_init_0 rfl rfl ?_
  refine n_objInit C q1_171 q1_27 q1_28 ⟨by decide, Nat.le_of_ble_eq_true rfl⟩ trivial dX7_init_1 ?_
  refine n_aload_n C dX7_init_4 rfl rfl ?_
  refine n_bipush (v := 40) C dX7_init_5 (by decide) ?_
  refine n_newa (atype := .int) (ty := .int) (ti := 0) (N := 40) (a0 := (40, .inl (fun _ => 0))) C rfl q1_126 rfl (fun _ => rfl) (by decide) (by decide) (by decide) (by decide) (by decide) dX7_init_7 (fun x1 => ?_)
  refine n_perm (List.Perm.swap _ _ _) ?_
  refine n_putF C in_7 tyX7 tyX7_ok nmX7 rfl 0 (by decide) (Nat.le_of_ble_eq_true rfl) rfl hin rfl rfl rfl q1_172 dX7_init_9 ?_
  refine n_aload_n C dX7_init_12 rfl rfl ?_
  refine n_iconst (v := (-1)) C dX7_init_13 (by decide) ?_
  refine n_put C in_7 tyX7 tyX7_ok nmX7 rfl 1 (by decide) (Nat.le_of_ble_eq_true rfl) rfl (by decide +kernel) q1_174 dX7_init_14 ?_
  exact n_vret C hr hlk (by decide) (by decide) dX7_init_17 ⟨gof [a, x1], rfl, rfl⟩
set_option maxHeartbeats 4000000 in
theorem c_X6_init (l : Launch) (G : Gt) (a : Nat) (w : va_W) : McL l G yX6_init cX6_init 1 1 40 1 400 [.ref a] ((a, .inr (5, [.null, .int 0, .int 0, .int 0, .int 0, .int 0, .int 0, .int 0])) :: w) (fun w' => ∃ g : Nat → Nat, w' = DB G g ++ w ∧ g 0 = a) := by
  refine McL.of (L0 := [some (.ref a)]) (by decide) (Nat.le_of_ble_eq_true rfl) rfl ?_
  intro p e s m args below meth c C hr hlk hnm
  have C : Cx p s m args c cX6_init 1 "LeanTower$Reader" := C
  have hin : meth.name = "<init>" := hnm
  refine n_aload_n C dX6_init_0 rfl rfl ?_
  refine n_objInit C q1_36 q1_27 q1_28 ⟨by decide, Nat.le_of_ble_eq_true rfl⟩ trivial dX6_init_1 ?_
  refine n_aload_n C dX6_init_4 rfl rfl ?_
  refine n_sipush (v := 400) C dX6_init_5 (by decide) ?_
  refine n_newa (atype := .byte) (ty := .byte) (ti := 1) (N := 400) (a0 := (400, .inl (fun _ => 0))) C rfl q1_65 rfl (fun _ => rfl) (by decide) (by decide) (by decide) (by decide) (by decide) dX6_init_8 (fun x1 => ?_)
  refine n_perm (List.Perm.swap _ _ _) ?_
  refine n_putF C in_6 tyX6 tyX6_ok nmX6 rfl 0 (by decide) (Nat.le_of_ble_eq_true rfl) rfl hin rfl rfl rfl q1_37 dX6_init_10 ?_
  exact n_vret C hr hlk (by decide) (by decide) dX6_init_13 ⟨gof [a, x1], rfl, rfl⟩
set_option maxHeartbeats 4000000 in
theorem c_X9_init (l : Launch) (G : Gt) (a : Nat) (w : va_W) : McL l G yX9_init cX9_init 1 1 40 1 16 [.ref a] ((a, .inr (8, [.null, .int 0])) :: w) (fun w' => ∃ g : Nat → Nat, w' = CB G g ++ w ∧ g 0 = a) := by
  refine McL.of (L0 := [some (.ref a)]) (by decide) (Nat.le_of_ble_eq_true rfl) rfl ?_
  intro p e s m args below meth c C hr hlk hnm
  have C : Cx p s m args c cX9_init 1 "LeanTower$Trace" := C
  have hin : meth.name = "<init>" := hnm
  refine n_aload_n C dX9_init_0 rfl rfl ?_
  refine n_objInit C q1_133 q1_27 q1_28 ⟨by decide, Nat.le_of_ble_eq_true rfl⟩ trivial dX9_init_1 ?_
  refine n_aload_n C dX9_init_4 rfl rfl ?_
  refine n_bipush (v := 16) C dX9_init_5 (by decide) ?_
  refine n_newa (atype := .int) (ty := .int) (ti := 0) (N := 16) (a0 := (16, .inl (fun _ => 0))) C rfl q1_126 rfl (fun _ => rfl) (by decide) (by decide) (by decide) (by decide) (by decide) dX9_init_7 (fun x1 => ?_)
  refine n_perm (List.Perm.swap _ _ _) ?_
  refine n_putF C in_9 tyX9 tyX9_ok nmX9 rfl 0 (by decide) (Nat.le_of_ble_eq_true rfl) rfl hin rfl rfl rfl q1_134 dX9_init_9 ?_
  exact n_vret C hr hlk (by decide) (by decide) dX9_init_12 ⟨gof [a, x1], rfl, rfl⟩
set_option maxHeartbeats 4000000 in
theorem c_X0_init (l : Launch) (G : Gt) (a : Nat) (w : va_W) : McL l G yX0_init cX0_init 1 1 40 3 15 [.ref a] ((a, .inr (0, [.null, .null, .int 0, .null, .int 0])) :: w) (fun w' => ∃ g : Nat → Nat, w' = BB G g ++ w ∧ g 0 = a) := by
  refine McL.of (L0 := [some (.ref a)]) (by decide) (Nat.le_of_ble_eq_true rfl) rfl ?_
  intro p e s m args below meth c C hr hlk hnm
  have C : Cx p s m args c cX0_init 1 "LeanTower$Bells" := C
  have hin : meth.name = "<init>" := hnm
  refine n_aload_n C dX0_init_0 rfl rfl ?_
  refine n_objInit C q1_148 q1_27 q1_28 ⟨by decide, Nat.le_of_ble_eq_true rfl⟩ trivial dX0_init_1 ?_
  refine n_aload_n C dX0_init_4 rfl rfl ?_
  refine n_iconst (v := 5) C dX0_init_5 (by decide) ?_
  refine n_newa (atype := .int) (ty := .int) (ti := 0) (N := 5) (a0 := (5, .inl (fun _ => 0))) C rfl q1_126 rfl (fun _ => rfl) (by decide) (by decide) (by decide) (by decide) (by decide) dX0_init_6 (fun x1 => ?_)
  refine n_perm (List.Perm.swap _ _ _) ?_
  refine n_putF C in_0 tyX0 tyX0_ok nmX0 rfl 0 (by decide) (Nat.le_of_ble_eq_true rfl) rfl hin rfl rfl rfl q1_149 dX0_init_8 ?_
  refine n_aload_n C dX0_init_11 rfl rfl ?_
  refine n_iconst (v := 5) C dX0_init_12 (by decide) ?_
  refine n_newa (atype := .int) (ty := .int) (ti := 0) (N := 5) (a0 := (5, .inl (fun _ => 0))) C rfl q1_126 rfl (fun _ => rfl) (by decide) (by decide) (by decide) (by decide) (by decide) dX0_init_13 (fun x2 => ?_)
  refine n_perm (List.Perm.swap _ _ _) ?_
  refine n_putF C in_0 tyX0 tyX0_ok nmX0 rfl 1 (by decide) (Nat.le_of_ble_eq_true rfl) rfl hin rfl rfl rfl q1_150 dX0_init_15 ?_
  refine n_aload_n C dX0_init_18 rfl rfl ?_
  refine n_iconst (v := 5) C dX0_init_19 (by decide) ?_
  refine n_newa (atype := .int) (ty := .int) (ti := 0) (N := 5) (a0 := (5, .inl (fun _ => 0))) C rfl q1_126 rfl (fun _ => rfl) (by decide) (by decide) (by decide) (by decide) (by decide) dX0_init_20 (fun x3 => ?_)
  refine n_perm (List.Perm.swap _ _ _) ?_
  refine n_putF C in_0 tyX0 tyX0_ok nmX0 rfl 3 (by decide) (Nat.le_of_ble_eq_true rfl) rfl hin rfl rfl rfl q1_152 dX0_init_22 ?_
  exact n_vret C hr hlk (by decide) (by decide) dX0_init_25 ⟨gof [a, x1, x2, x3], rfl, rfl⟩
def MB (G : Gt) (g : Nat → Nat) : va_W := [(g 0, .inr (11, [.ref (g 1), .ref (g 2), .ref (g 3), .ref (g 4), .ref (g 5), .ref (g 6), .int 0, .int 0, .int 0, .int 0, .ref (g 7), .int 0, .int 0, .int 0, .long 0, .int 0, .int 0, .int 0, .ref (g 8), .ref (g 9), .int 0])), (g 9, ia (G.2.2.1 0) 16), (g 8, ia (G.2.2.1 2) 128), (g 7, ia (G.2.2.1 0) 40), (g 6, ia (G.2.2.1 0) 400), (g 5, ia (G.2.2.1 0) 8), (g 4, .inl (G.2.2.1 0, 8, .inl (fun _ => -1))), (g 3, ia (G.2.2.1 0) 320), (g 2, ia (G.2.2.1 2) 2), (g 1, ia (G.2.2.1 0) 1450)]
def RW (G : Gt) (F : Nat → Nat → Nat) : Nat → va_W
  | 0 => []
  | n + 1 => RB G (F n) ++ RW G F n
def TW (G : Gt) (F : Nat → Nat → Nat) : Nat → va_W
  | 0 => []
  | n + 1 => TB G (F n) ++ TW G F n
theorem RW_congr (G : Gt) {F F' : Nat → Nat → Nat} : ∀ n : Nat, (∀ i, i < n → F' i = F i) → RW G F' n = RW G F n
  | 0, _ => rfl
  | n + 1, h => by rw [RW, RW, h n (Nat.lt_succ_self n), RW_congr G n (fun i hi => h i (Nat.lt_succ_of_lt hi))]
theorem TW_congr (G : Gt) {F F' : Nat → Nat → Nat} : ∀ n : Nat, (∀ i, i < n → F' i = F i) → TW G F' n = TW G F n
  | 0, _ => rfl
  | n + 1, h => by rw [TW, TW, h n (Nat.lt_succ_self n), TW_congr G n (fun i hi => h i (Nat.lt_succ_of_lt hi))]
theorem RW_step (G : Gt) (F : Nat → Nat → Nat) (g : Nat → Nat) (n : Nat) (X : va_W) : RB G g ++ (RW G F n ++ X) = RW G (va_up F n g) (n + 1) ++ X := by
  rw [RW, va_up_self, RW_congr G (F := F) (F' := va_up F n g) n (fun i hi => va_up_ne F g (by omega)), List.append_assoc]
theorem TW_step (G : Gt) (F : Nat → Nat → Nat) (g : Nat → Nat) (n : Nat) (X : va_W) : TB G g ++ (TW G F n ++ X) = TW G (va_up F n g) (n + 1) ++ X := by
  rw [TW, va_up_self, TW_congr G (F := F) (F' := va_up F n g) n (fun i hi => va_up_ne F g (by omega)), List.append_assoc]
theorem pm6 {a1 a2 a3 a4 a5 a6 x : Nat × va_E} {l : va_W} : (a1 :: a2 :: a3 :: a4 :: a5 :: a6 :: x :: l).Perm (x :: a1 :: a2 :: a3 :: a4 :: a5 :: a6 :: l) := List.perm_middle (l₁ := [a1, a2, a3, a4, a5, a6])
theorem pm1 {y : Nat × va_E} {A Y : va_W} : (A ++ (y :: Y)).Perm (y :: (A ++ Y)) := List.perm_middle
theorem pm3 {x y : Nat × va_E} {A B Y : va_W} : (x :: (A ++ (B ++ (y :: Y)))).Perm (y :: (x :: (A ++ (B ++ Y)))) := (List.Perm.cons _ (List.Perm.trans (List.Perm.append_left _ List.perm_middle) List.perm_middle)).trans (List.Perm.swap _ _ _)
theorem pm5 {x z y : Nat × va_E} {A B C Y : va_W} : (x :: (A ++ (z :: (B ++ (C ++ (y :: Y)))))).Perm (y :: (x :: (A ++ (z :: (B ++ (C ++ Y)))))) := (List.Perm.cons _ (List.Perm.trans (List.Perm.append_left _ pm3) List.perm_middle)).trans (List.Perm.swap _ _ _)
section NWS
variable {p : Program} {l : Launch} {e : Env} {R : Room} {s : State} {m : MethodId} {args : Array Value} {below : List Frame} {meth : Method} {c : Code} {cells slots : Nat} {Q : State → Prop} {cc : ByteArray} {nL : Nat} {own : String} {G : Gt} {w : va_W} {pc : Nat} {L : List (Option Value)} {st : List Value}
theorem n_same {a : Nat} {cA : ClassId} {x y : vp_A} (h : vp_cell cA x = vp_cell cA y) (k : NW p l e R s m args below meth c Q nL G cells slots pc L st ((a, .inl (cA, y)) :: w)) : NW p l e R s m args below meth c Q nL G cells slots pc L st ((a, .inl (cA, x)) :: w) := fun H locs ls hw hl => by
  refine k H locs ls ⟨hw.1, fun i q hi => ?_, ⟨(dn_iff _).mpr (show ((a :: w.map Prod.fst : List Nat)).Nodup from (dn_iff _).mp hw.2.2.1.1), fun i q hi => ?_⟩, hw.2.2.2⟩ hl
  · cases i with
    | zero =>
      cases hi
      have h0 : H[a]? = some (vp_cell cA x) := hw.2.1 0 _ rfl
      show H[a]? = some (vp_cell cA y)
      rw [← h]
      exact h0
    | succ i => exact hw.2.1 (i + 1) q hi
  · cases i with
    | zero =>
      cases hi
      exact hw.2.2.1.2 0 (a, .inl (cA, x)) rfl
    | succ i => exact hw.2.2.1.2 (i + 1) q hi
theorem qa_congr {cA : ClassId} {n : Nat} {f g : Nat → Option Nat} (h : ∀ j, j < n → f j = g j) : vp_cell cA (n, .inr (.inr (.inr (.inr f)))) = vp_cell cA (n, .inr (.inr (.inr (.inr g)))) := by
  rw [vp_cell_q, vp_cell_q]
  exact arrV_congr fun j hj => by rw [h j hj]
theorem ia_congr {cA : ClassId} {n : Nat} {f g : Nat → Int32} (h : ∀ j, j < n → f j = g j) : vp_cell cA (n, .inl f) = vp_cell cA (n, .inl g) := by
  rw [vp_cell_i, vp_cell_i]
  exact arrV_congr fun j hj => by rw [h j hj]
theorem y_inc {y : Int32} {n : Nat} (hy : y.toInt = (n : Int)) (hn : n < 100) : (y + 1).toInt = ((n + 1 : Nat) : Int) := by
  rw [ti_addv (x := y) (y := 1) (a := 0) (b := 100) (c := 1) (d := 1) ⟨by omega, by omega⟩ kc_1 (by decide), kt_1, hy]
  omega
end NWS
set_option maxHeartbeats 4000000 in
theorem lt_l1 {p : Program} {l : Launch} {e : Env} {s : State} {m : MethodId} {args : Array Value} {below : List Frame} {meth : Method} {c : Code} {Q : State → Prop} {G : Gt} (C : Cx p s m args c cX11_init 2 "LeanTower") {a r : Nat} {fs : List Value} {X : va_W} (hm : (a, (Sum.inr (10, fs) : va_E)) ∈ X) (h4 : fs[0]? = some (.ref r)) (kk : ∀ (F : Nat → Nat → Nat) (y : Int32), NW p l e { frames := 2, cells := 197, slots := 2104, locals := 60 } s m args below meth c Q 2 G (25 + 2 * 8) (694 + 43 * 8) 128 [some (.ref a), some (.int y)] [] ((r, .inl (G.2.2.1 4, 8, .inr (.inr (.inr (.inr (fun i => some (F i 0))))))) :: (RW G F 8 ++ X))) : ∀ (k n : Nat) (F : Nat → Nat → Nat) (f : Nat → Option Nat) (y : Int32), n + k = 8 → y.toInt = (n : Int) → (∀ j, j < n → f j = some (F j 0)) → NW p l e { frames := 2, cells := 197, slots := 2104, locals := 60 } s m args below meth c Q 2 G (25 + 2 * n) (694 + 43 * n) 103 [some (.ref a), some (.int y)] [] ((r, .inl (G.2.2.1 4, 8, .inr (.inr (.inr (.inr f))))) :: (RW G F n ++ X)) := by
  intro k
  induction k with
  | zero =>
    intro n F f y hn hy hf
    refine n_iload_n C dX11_init_103 rfl rfl ?_
    refine n_bipush (v := 8) C dX11_init_104 (by decide) ?_
    refine n_icmp_ge (tgt := 128) C dX11_init_106 (by decide) (fun q => ?_) (fun q => ?_)
    · have e : n = 8 := by omega
      subst e
      exact n_same (qa_congr hf) (kk F y)
    · exfalso
      have q2 : _ := q
      simp only [ti_nle, ti_nlt, ti_le, ti_lt, Classical.not_not, kt_8] at q2
      omega
  | succ k ih =>
    intro n F f y hn hy hf
    refine n_iload_n C dX11_init_103 rfl rfl ?_
    refine n_bipush (v := 8) C dX11_init_104 (by decide) ?_
    refine n_icmp_ge (tgt := 128) C dX11_init_106 (by decide) (fun q => ?_) (fun q => ?_)
    · exfalso
      have q2 : _ := q
      simp only [ti_nle, ti_nlt, ti_le, ti_lt, Classical.not_not, kt_8] at q2
      omega
    · refine n_aload_n C dX11_init_109 rfl rfl ?_
      refine n_get C in_11 rfl (List.mem_cons_of_mem _ (List.mem_append_right _ hm)) 0 (by decide) h4 q1_186 dX11_init_110 ?_
      refine n_iload_n C dX11_init_113 rfl rfl ?_
      refine n_new (C1 := RX7) (T := TX7) (N := 3) (ci := 6) (fs := [.null, .int 0, .int 0]) C in_7 tyX7 tyX7_ok q1_29 q1_167 q1_6 rfl (fun j hj => fs_X7 j hj) (by show _ ≤ 197; omega) (by show _ ≤ 2104; omega) dX11_init_114 (fun x => ?_)
      refine n_dup C dX11_init_117 rfl ?_
      refine n_callN C (c_X7_init l G x _) rfl q1_170 (by decide) q1_169 q1_6 (by decide +kernel) (by decide) ⟨by show _ ≤ 197; omega, by show _ ≤ 2104; omega⟩ (Nat.le_of_ble_eq_true rfl) dX11_init_118 ?_
      rintro _ ⟨g, rfl, rfl⟩
      refine n_perm List.perm_middle ?_
      refine n_aast (w := RB G g ++ (RW G F n ++ X)) (ti := 4) (ci := 6) C rfl (List.mem_append_left _ List.mem_cons_self) rfl ⟨by omega, by omega⟩ dX11_init_121 ?_
      rw [RW_step]
      refine n_iinc (v := y + 1) C dX11_init_122 rfl rfl (by decide) rfl rfl ?_
      refine n_goto (tgt := 103) C dX11_init_125 (by decide) ?_
      refine n_widen (c2 := 25 + 2 * (n + 1)) (s2 := 694 + 43 * (n + 1)) (by omega) (by omega) ?_
      refine ih (n + 1) (va_up F n g) _ (y + 1) (by omega) (y_inc hy (by omega)) (fun j hj => ?_)
      have en : y.toNatClampNeg = n := by show y.toInt.toNat = n; omega
      rw [en]
      by_cases hjn : j = n
      · subst hjn; rw [va_up_self, va_up_self]
      · rw [va_up_ne _ _ hjn, va_up_ne _ _ hjn]; exact hf j (by omega)
set_option maxHeartbeats 4000000 in
theorem lt_l2 {p : Program} {l : Launch} {e : Env} {s : State} {m : MethodId} {args : Array Value} {below : List Frame} {meth : Method} {c : Code} {Q : State → Prop} {G : Gt} (C : Cx p s m args c cX11_init 2 "LeanTower") {a r : Nat} {fs : List Value} {X : va_W} (hm : (a, (Sum.inr (10, fs) : va_E)) ∈ X) (h4 : fs[4]? = some (.ref r)) (kk : ∀ (F : Nat → Nat → Nat) (y : Int32), NW p l e { frames := 2, cells := 197, slots := 2104, locals := 60 } s m args below meth c Q 2 G (41 + 6 * 24) (1038 + 41 * 24) 155 [some (.ref a), some (.int y)] [] ((r, .inl (G.2.2.1 5, 24, .inr (.inr (.inr (.inr (fun i => some (F i 0))))))) :: (TW G F 24 ++ X))) : ∀ (k n : Nat) (F : Nat → Nat → Nat) (f : Nat → Option Nat) (y : Int32), n + k = 24 → y.toInt = (n : Int) → (∀ j, j < n → f j = some (F j 0)) → NW p l e { frames := 2, cells := 197, slots := 2104, locals := 60 } s m args below meth c Q 2 G (41 + 6 * n) (1038 + 41 * n) 130 [some (.ref a), some (.int y)] [] ((r, .inl (G.2.2.1 5, 24, .inr (.inr (.inr (.inr f))))) :: (TW G F n ++ X)) := by
  intro k
  induction k with
  | zero =>
    intro n F f y hn hy hf
    refine n_iload_n C dX11_init_130 rfl rfl ?_
    refine n_bipush (v := 24) C dX11_init_131 (by decide) ?_
    refine n_icmp_ge (tgt := 155) C dX11_init_133 (by decide) (fun q => ?_) (fun q => ?_)
    · have e : n = 24 := by omega
      subst e
      exact n_same (qa_congr hf) (kk F y)
    · exfalso
      have q2 : _ := q
      simp only [ti_nle, ti_nlt, ti_le, ti_lt, Classical.not_not, kt_24] at q2
      omega
  | succ k ih =>
    intro n F f y hn hy hf
    refine n_iload_n C dX11_init_130 rfl rfl ?_
    refine n_bipush (v := 24) C dX11_init_131 (by decide) ?_
    refine n_icmp_ge (tgt := 155) C dX11_init_133 (by decide) (fun q => ?_) (fun q => ?_)
    · exfalso
      have q2 : _ := q
      simp only [ti_nle, ti_nlt, ti_le, ti_lt, Classical.not_not, kt_24] at q2
      omega
    · refine n_aload_n C dX11_init_136 rfl rfl ?_
      refine n_get C in_11 rfl (List.mem_cons_of_mem _ (List.mem_append_right _ hm)) 4 (by decide) h4 q1_190 dX11_init_137 ?_
      refine n_iload_n C dX11_init_140 rfl rfl ?_
      refine n_new (C1 := RX8) (T := TX8) (N := 12) (ci := 7) (fs := [.int 0, .int 0, .int 0, .int 0, .null, .null, .null, .null, .null, .int 0, .int 0, .int 0]) C in_8 tyX8 tyX8_ok q1_66 q1_67 q1_3 rfl (fun j hj => fs_X8 j hj) (by show _ ≤ 197; omega) (by show _ ≤ 2104; omega) dX11_init_141 (fun x => ?_)
      refine n_dup C dX11_init_144 rfl ?_
      refine n_callN C (c_X8_init l G x _) rfl q1_70 (by decide) q1_69 q1_3 (by decide +kernel) (by decide) ⟨by show _ ≤ 197; omega, by show _ ≤ 2104; omega⟩ (Nat.le_of_ble_eq_true rfl) dX11_init_145 ?_
      rintro _ ⟨g, rfl, rfl⟩
      refine n_perm List.perm_middle ?_
      refine n_aast (w := TB G g ++ (TW G F n ++ X)) (ti := 5) (ci := 7) C rfl (List.mem_append_left _ List.mem_cons_self) rfl ⟨by omega, by omega⟩ dX11_init_148 ?_
      rw [TW_step]
      refine n_iinc (v := y + 1) C dX11_init_149 rfl rfl (by decide) rfl rfl ?_
      refine n_goto (tgt := 130) C dX11_init_152 (by decide) ?_
      refine n_widen (c2 := 41 + 6 * (n + 1)) (s2 := 1038 + 41 * (n + 1)) (by omega) (by omega) ?_
      refine ih (n + 1) (va_up F n g) _ (y + 1) (by omega) (y_inc hy (by omega)) (fun j hj => ?_)
      have en : y.toNatClampNeg = n := by show y.toInt.toNat = n; omega
      rw [en]
      by_cases hjn : j = n
      · subst hjn; rw [va_up_self, va_up_self]
      · rw [va_up_ne _ _ hjn, va_up_ne _ _ hjn]; exact hf j (by omega)
set_option maxHeartbeats 4000000 in
theorem lt_l3 {p : Program} {l : Launch} {e : Env} {s : State} {m : MethodId} {args : Array Value} {below : List Frame} {meth : Method} {c : Code} {Q : State → Prop} {G : Gt} (C : Cx p s m args c cX11_init 2 "LeanTower") {a r : Nat} {fs : List Value} {X : va_W} (hm : (a, (Sum.inr (10, fs) : va_E)) ∈ X) (h4 : fs[7]? = some (.ref r)) (kk : ∀ (F : Nat → Nat → Nat) (y : Int32), NW p l e { frames := 2, cells := 197, slots := 2104, locals := 60 } s m args below meth c Q 2 G (185 + 6 * 2) (2022 + 41 * 2) 181 [some (.ref a), some (.int y)] [] ((r, .inl (G.2.2.1 5, 2, .inr (.inr (.inr (.inr (fun i => some (F i 0))))))) :: (TW G F 2 ++ X))) : ∀ (k n : Nat) (F : Nat → Nat → Nat) (f : Nat → Option Nat) (y : Int32), n + k = 2 → y.toInt = (n : Int) → (∀ j, j < n → f j = some (F j 0)) → NW p l e { frames := 2, cells := 197, slots := 2104, locals := 60 } s m args below meth c Q 2 G (185 + 6 * n) (2022 + 41 * n) 157 [some (.ref a), some (.int y)] [] ((r, .inl (G.2.2.1 5, 2, .inr (.inr (.inr (.inr f))))) :: (TW G F n ++ X)) := by
  intro k
  induction k with
  | zero =>
    intro n F f y hn hy hf
    refine n_iload_n C dX11_init_157 rfl rfl ?_
    refine n_iconst (v := 2) C dX11_init_158 (by decide) ?_
    refine n_icmp_ge (tgt := 181) C dX11_init_159 (by decide) (fun q => ?_) (fun q => ?_)
    · have e : n = 2 := by omega
      subst e
      exact n_same (qa_congr hf) (kk F y)
    · exfalso
      have q2 : _ := q
      simp only [ti_nle, ti_nlt, ti_le, ti_lt, Classical.not_not, kt_2] at q2
      omega
  | succ k ih =>
    intro n F f y hn hy hf
    refine n_iload_n C dX11_init_157 rfl rfl ?_
    refine n_iconst (v := 2) C dX11_init_158 (by decide) ?_
    refine n_icmp_ge (tgt := 181) C dX11_init_159 (by decide) (fun q => ?_) (fun q => ?_)
    · exfalso
      have q2 : _ := q
      simp only [ti_nle, ti_nlt, ti_le, ti_lt, Classical.not_not, kt_2] at q2
      omega
    · refine n_aload_n C dX11_init_162 rfl rfl ?_
      refine n_get C in_11 rfl (List.mem_cons_of_mem _ (List.mem_append_right _ hm)) 7 (by decide) h4 q1_193 dX11_init_163 ?_
      refine n_iload_n C dX11_init_166 rfl rfl ?_
      refine n_new (C1 := RX8) (T := TX8) (N := 12) (ci := 7) (fs := [.int 0, .int 0, .int 0, .int 0, .null, .null, .null, .null, .null, .int 0, .int 0, .int 0]) C in_8 tyX8 tyX8_ok q1_66 q1_67 q1_3 rfl (fun j hj => fs_X8 j hj) (by show _ ≤ 197; omega) (by show _ ≤ 2104; omega) dX11_init_167 (fun x => ?_)
      refine n_dup C dX11_init_170 rfl ?_
      refine n_callN C (c_X8_init l G x _) rfl q1_70 (by decide) q1_69 q1_3 (by decide +kernel) (by decide) ⟨by show _ ≤ 197; omega, by show _ ≤ 2104; omega⟩ (Nat.le_of_ble_eq_true rfl) dX11_init_171 ?_
      rintro _ ⟨g, rfl, rfl⟩
      refine n_perm List.perm_middle ?_
      refine n_aast (w := TB G g ++ (TW G F n ++ X)) (ti := 5) (ci := 7) C rfl (List.mem_append_left _ List.mem_cons_self) rfl ⟨by omega, by omega⟩ dX11_init_174 ?_
      rw [TW_step]
      refine n_iinc (v := y + 1) C dX11_init_175 rfl rfl (by decide) rfl rfl ?_
      refine n_goto (tgt := 157) C dX11_init_178 (by decide) ?_
      refine n_widen (c2 := 185 + 6 * (n + 1)) (s2 := 2022 + 41 * (n + 1)) (by omega) (by omega) ?_
      refine ih (n + 1) (va_up F n g) _ (y + 1) (by omega) (y_inc hy (by omega)) (fun j hj => ?_)
      have en : y.toNatClampNeg = n := by show y.toInt.toNat = n; omega
      rw [en]
      by_cases hjn : j = n
      · subst hjn; rw [va_up_self, va_up_self]
      · rw [va_up_ne _ _ hjn, va_up_ne _ _ hjn]; exact hf j (by omega)
set_option maxHeartbeats 4000000 in
theorem mo_l {p : Program} {l : Launch} {e : Env} {s : State} {m : MethodId} {args : Array Value} {below : List Frame} {meth : Method} {c : Code} {Q : State → Prop} {G : Gt} (C : Cx p s m args c cX12_init 2 "LeanTowerModel") {a r : Nat} {fs : List Value} {X : va_W} (hm : (a, (Sum.inr (11, fs) : va_E)) ∈ X) (h4 : fs[3]? = some (.ref r)) (kk : ∀ y : Int32, NW p l e { frames := 1, cells := 9, slots := 2372, locals := 40 } s m args below meth c Q 2 G 9 2372 100 [some (.ref a), some (.int y)] [] ((r, .inl (G.2.2.1 0, 8, .inl (fun _ => -1))) :: X)) : ∀ (k n : Nat) (f : Nat → Int32) (y : Int32), n + k = 8 → y.toInt = (n : Int) → (∀ j, j < n → f j = -1) → NW p l e { frames := 1, cells := 9, slots := 2372, locals := 40 } s m args below meth c Q 2 G 9 2372 81 [some (.ref a), some (.int y)] [] ((r, .inl (G.2.2.1 0, 8, .inl f)) :: X) := by
  intro k
  induction k with
  | zero =>
    intro n f y hn hy hf
    refine n_iload_n C dX12_init_81 rfl rfl ?_
    refine n_bipush (v := 8) C dX12_init_82 (by decide) ?_
    refine n_icmp_ge (tgt := 100) C dX12_init_84 (by decide) (fun q => ?_) (fun q => ?_)
    · have e : n = 8 := by omega
      subst e
      exact n_same (ia_congr hf) (kk y)
    · exfalso
      have q2 : _ := q
      simp only [ti_nle, ti_nlt, ti_le, ti_lt, Classical.not_not, kt_8] at q2
      omega
  | succ k ih =>
    intro n f y hn hy hf
    refine n_iload_n C dX12_init_81 rfl rfl ?_
    refine n_bipush (v := 8) C dX12_init_82 (by decide) ?_
    refine n_icmp_ge (tgt := 100) C dX12_init_84 (by decide) (fun q => ?_) (fun q => ?_)
    · exfalso
      have q2 : _ := q
      simp only [ti_nle, ti_nlt, ti_le, ti_lt, Classical.not_not, kt_8] at q2
      omega
    · refine n_aload_n C dX12_init_87 rfl rfl ?_
      refine n_get C in_12 rfl (List.mem_cons_of_mem _ hm) 3 (by decide) h4 q4_119 dX12_init_88 ?_
      refine n_iload_n C dX12_init_91 rfl rfl ?_
      refine n_iconst (v := -1) C dX12_init_92 (by decide) ?_
      refine n_iast C ⟨by omega, by omega⟩ dX12_init_93 ?_
      refine n_iinc (v := y + 1) C dX12_init_94 rfl rfl (by decide) rfl rfl ?_
      refine n_goto (tgt := 81) C dX12_init_97 (by decide) ?_
      refine ih (n + 1) _ (y + 1) (by omega) (y_inc hy (by omega)) (fun j hj => ?_)
      have en : y.toInt.toNat = n := by omega
      rw [en]
      by_cases hjn : j = n
      · subst hjn; simp [upd]
      · simp only [upd, if_neg hjn]; exact hf j (by omega)
set_option maxHeartbeats 4000000 in
theorem c_X12_init (l : Launch) (G : Gt) (a : Nat) (w : va_W) : McL l G yX12_init cX12_init 2 1 40 9 2372 [.ref a] ((a, .inr (11, [.null, .null, .null, .null, .null, .null, .int 0, .int 0, .int 0, .int 0, .null, .int 0, .int 0, .int 0, .long 0, .int 0, .int 0, .int 0, .null, .null, .int 0])) :: w) (fun w' => ∃ g : Nat → Nat, w' = MB G g ++ w ∧ g 0 = a) := by
  refine McL.of (L0 := [some (.ref a), none]) (by decide) (Nat.le_of_ble_eq_true rfl) rfl ?_
  intro p e s m args below meth c C hr hlk hnm
  have C : Cx p s m args c cX12_init 2 "LeanTowerModel" := C
  have hin : meth.name = "<init>" := hnm
  refine n_aload_n C dX12_init_0 rfl rfl ?_
  refine n_objInit C q4_115 q1_27 q1_28 ⟨by decide, Nat.le_of_ble_eq_true rfl⟩ trivial dX12_init_1 ?_
  refine n_aload_n C dX12_init_4 rfl rfl ?_
  refine n_sipush (v := 1450) C dX12_init_5 (by decide) ?_
  refine n_newa (atype := .int) (ty := .int) (ti := 0) (N := 1450) (a0 := (1450, .inl (fun _ => 0))) C rfl q1_126 rfl (fun _ => rfl) (by decide) (by decide) (by decide) (by decide) (by decide) dX12_init_8 (fun x1 => ?_)
  refine n_perm (List.Perm.swap _ _ _) ?_
  refine n_putF C in_12 tyX12 tyX12_ok nmX12 rfl 0 (by decide) (Nat.le_of_ble_eq_true rfl) rfl hin rfl rfl rfl q4_116 dX12_init_10 ?_
  refine n_aload_n C dX12_init_13 rfl rfl ?_
  refine n_iconst (v := 2) C dX12_init_14 (by decide) ?_
  refine n_newa (atype := .boolean) (ty := .boolean) (ti := 2) (N := 2) (a0 := (2, .inl (fun _ => 0))) C rfl q1_185 rfl (fun _ => rfl) (by decide) (by decide) (by decide) (by decide) (by decide) dX12_init_15 (fun x2 => ?_)
  refine n_perm (List.Perm.swap _ _ _) ?_
  refine n_putF C in_12 tyX12 tyX12_ok nmX12 rfl 1 (by decide) (Nat.le_of_ble_eq_true rfl) rfl hin rfl rfl rfl q4_117 dX12_init_17 ?_
  refine n_aload_n C dX12_init_20 rfl rfl ?_
  refine n_sipush (v := 320) C dX12_init_21 (by decide) ?_
  refine n_newa (atype := .int) (ty := .int) (ti := 0) (N := 320) (a0 := (320, .inl (fun _ => 0))) C rfl q1_126 rfl (fun _ => rfl) (by decide) (by decide) (by decide) (by decide) (by decide) dX12_init_24 (fun x3 => ?_)
  refine n_perm (List.Perm.swap _ _ _) ?_
  refine n_putF C in_12 tyX12 tyX12_ok nmX12 rfl 2 (by decide) (Nat.le_of_ble_eq_true rfl) rfl hin rfl rfl rfl q4_118 dX12_init_26 ?_
  refine n_aload_n C dX12_init_29 rfl rfl ?_
  refine n_bipush (v := 8) C dX12_init_30 (by decide) ?_
  refine n_newa (atype := .int) (ty := .int) (ti := 0) (N := 8) (a0 := (8, .inl (fun _ => 0))) C rfl q1_126 rfl (fun _ => rfl) (by decide) (by decide) (by decide) (by decide) (by decide) dX12_init_32 (fun x4 => ?_)
  refine n_perm (List.Perm.swap _ _ _) ?_
  refine n_putF C in_12 tyX12 tyX12_ok nmX12 rfl 3 (by decide) (Nat.le_of_ble_eq_true rfl) rfl hin rfl rfl rfl q4_119 dX12_init_34 ?_
  refine n_aload_n C dX12_init_37 rfl rfl ?_
  refine n_bipush (v := 8) C dX12_init_38 (by decide) ?_
  refine n_newa (atype := .int) (ty := .int) (ti := 0) (N := 8) (a0 := (8, .inl (fun _ => 0))) C rfl q1_126 rfl (fun _ => rfl) (by decide) (by decide) (by decide) (by decide) (by decide) dX12_init_40 (fun x5 => ?_)
  refine n_perm (List.Perm.swap _ _ _) ?_
  refine n_putF C in_12 tyX12 tyX12_ok nmX12 rfl 4 (by decide) (Nat.le_of_ble_eq_true rfl) rfl hin rfl rfl rfl q4_120 dX12_init_42 ?_
  refine n_aload_n C dX12_init_45 rfl rfl ?_
  refine n_sipush (v := 400) C dX12_init_46 (by decide) ?_
  refine n_newa (atype := .int) (ty := .int) (ti := 0) (N := 400) (a0 := (400, .inl (fun _ => 0))) C rfl q1_126 rfl (fun _ => rfl) (by decide) (by decide) (by decide) (by decide) (by decide) dX12_init_49 (fun x6 => ?_)
  refine n_perm (List.Perm.swap _ _ _) ?_
  refine n_putF C in_12 tyX12 tyX12_ok nmX12 rfl 5 (by decide) (Nat.le_of_ble_eq_true rfl) rfl hin rfl rfl rfl q4_121 dX12_init_51 ?_
  refine n_aload_n C dX12_init_54 rfl rfl ?_
  refine n_bipush (v := 40) C dX12_init_55 (by decide) ?_
  refine n_newa (atype := .int) (ty := .int) (ti := 0) (N := 40) (a0 := (40, .inl (fun _ => 0))) C rfl q1_126 rfl (fun _ => rfl) (by decide) (by decide) (by decide) (by decide) (by decide) dX12_init_57 (fun x7 => ?_)
  refine n_perm (List.Perm.swap _ _ _) ?_
  refine n_putF C in_12 tyX12 tyX12_ok nmX12 rfl 10 (by decide) (Nat.le_of_ble_eq_true rfl) rfl hin rfl rfl rfl q4_126 dX12_init_59 ?_
  refine n_aload_n C dX12_init_62 rfl rfl ?_
  refine n_sipush (v := 128) C dX12_init_63 (by decide) ?_
  refine n_newa (atype := .boolean) (ty := .boolean) (ti := 2) (N := 128) (a0 := (128, .inl (fun _ => 0))) C rfl q1_185 rfl (fun _ => rfl) (by decide) (by decide) (by decide) (by decide) (by decide) dX12_init_66 (fun x8 => ?_)
  refine n_perm (List.Perm.swap _ _ _) ?_
  refine n_putF C in_12 tyX12 tyX12_ok nmX12 rfl 18 (by decide) (Nat.le_of_ble_eq_true rfl) rfl hin rfl rfl rfl q4_134 dX12_init_68 ?_
  refine n_aload_n C dX12_init_71 rfl rfl ?_
  refine n_bipush (v := 16) C dX12_init_72 (by decide) ?_
  refine n_newa (atype := .int) (ty := .int) (ti := 0) (N := 16) (a0 := (16, .inl (fun _ => 0))) C rfl q1_126 rfl (fun _ => rfl) (by decide) (by decide) (by decide) (by decide) (by decide) dX12_init_74 (fun x9 => ?_)
  refine n_perm (List.Perm.swap _ _ _) ?_
  refine n_putF C in_12 tyX12 tyX12_ok nmX12 rfl 19 (by decide) (Nat.le_of_ble_eq_true rfl) rfl hin rfl rfl rfl q4_135 dX12_init_76 ?_
  refine n_iconst (v := 0) C dX12_init_79 (by decide) ?_
  refine n_istore_n (L1 := [some (.ref a), some (.int 0)]) C dX12_init_80 rfl (by decide) rfl rfl ?_
  refine n_perm pm6 ?_
  refine mo_l C List.mem_cons_self rfl (fun y => ?_) 8 0 _ 0 rfl rfl (fun j hj => absurd hj (Nat.not_lt_zero _))
  refine n_perm pm6.symm ?_
  exact n_vret C hr hlk (by decide) (by decide) dX12_init_100 ⟨gof [a, x1, x2, x3, x4, x5, x6, x7, x8, x9], rfl, rfl⟩
/-! ===== the new tower's cells by their sorts ===== -/
def z0 (t _j k : Nat) : Int32 := match t with
  | 20 => if k = 1 then -1 else 0
  | 26 => -1
  | _ => 0
def x0 : (Nat → Nat → Option Nat) × Int64 × List Nat × (Nat → Nat) × (Nat → Nat → Int32) := (fun _ _ => none, 0, [], fun _ => 0, fun _ _ => 0)
def cl0 (G : Gt) (g : Nat → Nat → Nat) (q : Nat × Nat) : Nat × va_E := (g q.1 q.2, ceF (g, G.2) x0 q.1 q.2 (z0 q.1 q.2))
def TI (k : Nat) : Nat → List (Nat × Nat)
  | 0 => []
  | n + 1 => [(1, k + n), (5, k + n), (4, k + n), (3, k + n), (2, k + n), (6, k + n)] ++ TI k n
def RI : Nat → List (Nat × Nat)
  | 0 => []
  | n + 1 => [(20, n), (21, n)] ++ RI n
theorem TW_map (G : Gt) (g : Nat → Nat → Nat) (F : Nat → Nat → Nat) (k : Nat) : ∀ n : Nat, (∀ i, i < n → g 1 (k + i) = F i 0 ∧ g 2 (k + i) = F i 1 ∧ g 3 (k + i) = F i 2 ∧ g 4 (k + i) = F i 3 ∧ g 5 (k + i) = F i 4 ∧ g 6 (k + i) = F i 5) → TW G F n = (TI k n).map (cl0 G g)
  | 0, _ => rfl
  | n + 1, h => by
    obtain ⟨h1, h2, h3, h4, h5, h6⟩ := h n (Nat.lt_succ_self n)
    rw [TW, TI, List.map_append, TW_map G g F k n (fun i hi => h i (Nat.lt_succ_of_lt hi))]
    congr 1
    unfold TB
    rw [← h1, ← h2, ← h3, ← h4, ← h5, ← h6]
    rfl
theorem RW_map (G : Gt) (g : Nat → Nat → Nat) (F : Nat → Nat → Nat) : ∀ n : Nat, (∀ i, i < n → g 20 i = F i 0 ∧ g 21 i = F i 1) → RW G F n = (RI n).map (cl0 G g)
  | 0, _ => rfl
  | n + 1, h => by
    obtain ⟨h1, h2⟩ := h n (Nat.lt_succ_self n)
    rw [RW, RI, List.map_append, RW_map G g F n (fun i hi => h i (Nat.lt_succ_of_lt hi))]
    congr 1
    unfold RB
    rw [← h1, ← h2]
    rfl
/-- the towers' addresses -/
def ft (g0 g1 : Nat → Nat) (Fb Fi : Nat → Nat → Nat) (j : Nat) : Nat → Nat := if j = 0 then g0 else if j = 1 then g1 else if j < 26 then Fb (j - 2) else Fi (j - 26)
def gl (a ro be im re ra : Nat) (gD gC gB g0 g1 : Nat → Nat) (R Fb Fi : Nat → Nat → Nat) : Nat → Nat → Nat := fun t j => match t with
  | 0 => a
  | 1 => ft g0 g1 Fb Fi j 0
  | 2 => ft g0 g1 Fb Fi j 1
  | 3 => ft g0 g1 Fb Fi j 2
  | 4 => ft g0 g1 Fb Fi j 3
  | 5 => ft g0 g1 Fb Fi j 4
  | 6 => ft g0 g1 Fb Fi j 5
  | 7 => ro
  | 8 => be
  | 9 => im
  | 10 => re
  | 11 => ra
  | 12 => gD 0
  | 13 => gD 1
  | 14 => gC 0
  | 15 => gC 1
  | 16 => gB 0
  | 17 => gB 1
  | 18 => gB 2
  | 19 => gB 3
  | 20 => R j 0
  | 21 => R j 1
  | _ => 0
def LI : List (Nat × Nat) := (9, 0) :: (TI 26 2 ++ ((8, 0) :: (TI 2 24 ++ ((7, 0) :: (RI 8 ++ [(0, 0), (11, 0), (10, 0), (16, 0), (19, 0), (18, 0), (17, 0), (14, 0), (15, 0), (1, 1), (5, 1), (4, 1), (3, 1), (2, 1), (6, 1), (1, 0), (5, 0), (4, 0), (3, 0), (2, 0), (6, 0), (12, 0), (13, 0)])))))
/-- the arrays' places that matter are those below their lengths -/
theorem ft_b (g0 g1 : Nat → Nat) (Fb Fi : Nat → Nat → Nat) {i : Nat} (h : i < 24) : ft g0 g1 Fb Fi (2 + i) = Fb i := by
  unfold ft
  rw [if_neg (by omega), if_neg (by omega), if_pos (by omega), show 2 + i - 2 = i by omega]
theorem ft_i (g0 g1 : Nat → Nat) (Fb Fi : Nat → Nat → Nat) (i : Nat) : ft g0 g1 Fb Fi (26 + i) = Fi i := by
  unfold ft
  rw [if_neg (by omega), if_neg (by omega), if_neg (by omega), show 26 + i - 26 = i by omega]
theorem pmZ {y z : Nat × va_E} {X Y : va_W} : (y :: (X ++ (z :: Y))).Perm (z :: (X ++ (y :: Y))) := (List.Perm.cons _ List.perm_middle).trans ((List.Perm.swap _ _ _).trans (List.Perm.cons _ List.perm_middle.symm))
set_option maxHeartbeats 8000000 in
theorem c_X11_init (l : Launch) (G : Gt) (a : Nat) (w : va_W) : McL l G yX11_init cX11_init 2 2 60 197 2104 [.ref a] ((a, .inr (10, [.null, .null, .null, .null, .null, .int 0, .int 0, .null, .null, .null, .null, .null, .int 0])) :: w) (fun w' => ∃ g : Nat → Nat → Nat, w' = LI.map (cl0 G g) ++ w ∧ g 0 0 = a) := by
  refine McL.of (L0 := [some (.ref a), none]) (by decide) (Nat.le_of_ble_eq_true rfl) rfl ?_
  intro p e s m args below meth c C hr hlk hnm
  have C : Cx p s m args c cX11_init 2 "LeanTower" := C
  have hin : meth.name = "<init>" := hnm
  refine n_aload_n C dX11_init_0 rfl rfl ?_
  refine n_objInit C q1_26 q1_27 q1_28 ⟨by decide, Nat.le_of_ble_eq_true rfl⟩ trivial dX11_init_1 ?_
  refine n_aload_n C dX11_init_4 rfl rfl ?_
  refine n_bipush (v := 8) C dX11_init_5 (by decide) ?_
  refine n_newq (ti := 4) (N := 8) C q1_29 (by decide) rfl (by decide) (by decide) (by decide) (by decide) (by decide) dX11_init_7 (fun x1 => ?_)
  refine n_perm (List.Perm.swap _ _ _) ?_
  refine n_putF C in_11 tyX11 tyX11_ok nmX11 rfl 0 (by decide) (Nat.le_of_ble_eq_true rfl) rfl hin rfl rfl rfl q1_186 dX11_init_10 ?_
  refine n_aload_n C dX11_init_13 rfl rfl ?_
  refine n_new (C1 := RX6) (T := TX6) (N := 8) (ci := 5) (fs := [.null, .int 0, .int 0, .int 0, .int 0, .int 0, .int 0, .int 0]) C in_6 tyX6 tyX6_ok q1_31 q1_32 q1_2 rfl (fun j hj => fs_X6 j hj) (by decide) (by decide) dX11_init_14 (fun x2 => ?_)
  refine n_dup C dX11_init_17 rfl ?_
  refine n_callN C (c_X6_init l G x2 _) rfl q1_35 (by decide) q1_34 q1_2 (by decide +kernel) (by decide) (by decide) (Nat.le_of_ble_eq_true rfl) dX11_init_18 ?_
  rintro _ ⟨g3, rfl, rfl⟩
  refine n_perm List.perm_middle ?_
  refine n_putF C in_11 tyX11 tyX11_ok nmX11 rfl 1 (by decide) (Nat.le_of_ble_eq_true rfl) rfl hin rfl rfl rfl q1_187 dX11_init_21 ?_
  refine n_aload_n C dX11_init_24 rfl rfl ?_
  refine n_new (C1 := RX8) (T := TX8) (N := 12) (ci := 7) (fs := [.int 0, .int 0, .int 0, .int 0, .null, .null, .null, .null, .null, .int 0, .int 0, .int 0]) C in_8 tyX8 tyX8_ok q1_66 q1_67 q1_3 rfl (fun j hj => fs_X8 j hj) (by decide) (by decide) dX11_init_25 (fun x4 => ?_)
  refine n_dup C dX11_init_28 rfl ?_
  refine n_callN C (c_X8_init l G x4 _) rfl q1_70 (by decide) q1_69 q1_3 (by decide +kernel) (by decide) (by decide) (Nat.le_of_ble_eq_true rfl) dX11_init_29 ?_
  rintro _ ⟨g5, rfl, rfl⟩
  refine n_perm List.perm_middle ?_
  refine n_putF C in_11 tyX11 tyX11_ok nmX11 rfl 2 (by decide) (Nat.le_of_ble_eq_true rfl) rfl hin rfl rfl rfl q1_188 dX11_init_32 ?_
  refine n_aload_n C dX11_init_35 rfl rfl ?_
  refine n_new (C1 := RX8) (T := TX8) (N := 12) (ci := 7) (fs := [.int 0, .int 0, .int 0, .int 0, .null, .null, .null, .null, .null, .int 0, .int 0, .int 0]) C in_8 tyX8 tyX8_ok q1_66 q1_67 q1_3 rfl (fun j hj => fs_X8 j hj) (by decide) (by decide) dX11_init_36 (fun x6 => ?_)
  refine n_dup C dX11_init_39 rfl ?_
  refine n_callN C (c_X8_init l G x6 _) rfl q1_70 (by decide) q1_69 q1_3 (by decide +kernel) (by decide) (by decide) (Nat.le_of_ble_eq_true rfl) dX11_init_40 ?_
  rintro _ ⟨g7, rfl, rfl⟩
  refine n_perm List.perm_middle ?_
  refine n_putF C in_11 tyX11 tyX11_ok nmX11 rfl 3 (by decide) (Nat.le_of_ble_eq_true rfl) rfl hin rfl rfl rfl q1_189 dX11_init_43 ?_
  refine n_aload_n C dX11_init_46 rfl rfl ?_
  refine n_bipush (v := 24) C dX11_init_47 (by decide) ?_
  refine n_newq (ti := 5) (N := 24) C q1_66 (by decide) rfl (by decide) (by decide) (by decide) (by decide) (by decide) dX11_init_49 (fun x8 => ?_)
  refine n_perm (List.Perm.swap _ _ _) ?_
  refine n_putF C in_11 tyX11 tyX11_ok nmX11 rfl 4 (by decide) (Nat.le_of_ble_eq_true rfl) rfl hin rfl rfl rfl q1_190 dX11_init_52 ?_
  refine n_aload_n C dX11_init_55 rfl rfl ?_
  refine n_iconst (v := 2) C dX11_init_56 (by decide) ?_
  refine n_newq (ti := 5) (N := 2) C q1_66 (by decide) rfl (by decide) (by decide) (by decide) (by decide) (by decide) dX11_init_57 (fun x9 => ?_)
  refine n_perm (List.Perm.swap _ _ _) ?_
  refine n_putF C in_11 tyX11 tyX11_ok nmX11 rfl 7 (by decide) (Nat.le_of_ble_eq_true rfl) rfl hin rfl rfl rfl q1_193 dX11_init_60 ?_
  refine n_aload_n C dX11_init_63 rfl rfl ?_
  refine n_new (C1 := RX9) (T := TX9) (N := 2) (ci := 8) (fs := [.null, .int 0]) C in_9 tyX9 tyX9_ok q1_128 q1_129 q1_4 rfl (fun j hj => fs_X9 j hj) (by decide) (by decide) dX11_init_64 (fun x10 => ?_)
  refine n_dup C dX11_init_67 rfl ?_
  refine n_callN C (c_X9_init l G x10 _) rfl q1_132 (by decide) q1_131 q1_4 (by decide +kernel) (by decide) (by decide) (Nat.le_of_ble_eq_true rfl) dX11_init_68 ?_
  rintro _ ⟨g11, rfl, rfl⟩
  refine n_perm List.perm_middle ?_
  refine n_putF C in_11 tyX11 tyX11_ok nmX11 rfl 8 (by decide) (Nat.le_of_ble_eq_true rfl) rfl hin rfl rfl rfl q1_194 dX11_init_71 ?_
  refine n_aload_n C dX11_init_74 rfl rfl ?_
  refine n_new (C1 := RX0) (T := TX0) (N := 5) (ci := 0) (fs := [.null, .null, .int 0, .null, .int 0]) C in_0 tyX0 tyX0_ok q1_143 q1_144 q1_5 rfl (fun j hj => fs_X0 j hj) (by decide) (by decide) dX11_init_75 (fun x12 => ?_)
  refine n_dup C dX11_init_78 rfl ?_
  refine n_callN C (c_X0_init l G x12 _) rfl q1_147 (by decide) q1_146 q1_5 (by decide +kernel) (by decide) (by decide) (Nat.le_of_ble_eq_true rfl) dX11_init_79 ?_
  rintro _ ⟨g13, rfl, rfl⟩
  refine n_perm List.perm_middle ?_
  refine n_putF C in_11 tyX11 tyX11_ok nmX11 rfl 9 (by decide) (Nat.le_of_ble_eq_true rfl) rfl hin rfl rfl rfl q1_195 dX11_init_82 ?_
  refine n_aload_n C dX11_init_85 rfl rfl ?_
  refine n_sipush (v := 128) C dX11_init_86 (by decide) ?_
  refine n_newa (atype := .boolean) (ty := .boolean) (ti := 2) (N := 128) (a0 := (128, .inl (fun _ => 0))) C rfl q1_185 rfl (fun _ => rfl) (by decide) (by decide) (by decide) (by decide) (by decide) dX11_init_89 (fun x14 => ?_)
  refine n_perm (List.Perm.swap _ _ _) ?_
  refine n_putF C in_11 tyX11 tyX11_ok nmX11 rfl 10 (by decide) (Nat.le_of_ble_eq_true rfl) rfl hin rfl rfl rfl q1_196 dX11_init_91 ?_
  refine n_aload_n C dX11_init_94 rfl rfl ?_
  refine n_iconst (v := 4) C dX11_init_95 (by decide) ?_
  refine n_newa (atype := .int) (ty := .int) (ti := 0) (N := 4) (a0 := (4, .inl (fun _ => 0))) C rfl q1_126 rfl (fun _ => rfl) (by decide) (by decide) (by decide) (by decide) (by decide) dX11_init_96 (fun x15 => ?_)
  refine n_perm (List.Perm.swap _ _ _) ?_
  refine n_putF C in_11 tyX11 tyX11_ok nmX11 rfl 11 (by decide) (Nat.le_of_ble_eq_true rfl) rfl hin rfl rfl rfl q1_197 dX11_init_98 ?_
  refine n_iconst (v := 0) C dX11_init_101 (by decide) ?_
  refine n_istore_n (L1 := [some (.ref a), some (.int 0)]) C dX11_init_102 rfl (by decide) rfl rfl ?_
  have pmA : (((a, (Sum.inr (10, [.ref x1, .ref (g3 0), .ref (g5 0), .ref (g7 0), .ref x8, .int 0, .int 0, .ref x9, .ref (g11 0), .ref (g13 0), .ref x14, .ref x15, .int 0]) : va_E)) :: (x15, ia (G.2.2.1 0) 4) :: (x14, ia (G.2.2.1 2) 128) :: (BB G g13 ++ (CB G g11 ++ ((x9, (Sum.inl (G.2.2.1 5, 2, .inr (.inr (.inr (.inr (fun _ => none))))) : va_E)) :: (x8, (Sum.inl (G.2.2.1 5, 24, .inr (.inr (.inr (.inr (fun _ => none))))) : va_E)) :: (TB G g7 ++ (TB G g5 ++ DB G g3)))))) ++ ((x1, (Sum.inl (G.2.2.1 4, 8, .inr (.inr (.inr (.inr (fun _ => none))))) : va_E)) :: w)).Perm ((x1, (Sum.inl (G.2.2.1 4, 8, .inr (.inr (.inr (.inr (fun _ => none))))) : va_E)) :: (((a, (Sum.inr (10, [.ref x1, .ref (g3 0), .ref (g5 0), .ref (g7 0), .ref x8, .int 0, .int 0, .ref x9, .ref (g11 0), .ref (g13 0), .ref x14, .ref x15, .int 0]) : va_E)) :: (x15, ia (G.2.2.1 0) 4) :: (x14, ia (G.2.2.1 2) 128) :: (BB G g13 ++ (CB G g11 ++ ((x9, (Sum.inl (G.2.2.1 5, 2, .inr (.inr (.inr (.inr (fun _ => none))))) : va_E)) :: (x8, (Sum.inl (G.2.2.1 5, 24, .inr (.inr (.inr (.inr (fun _ => none))))) : va_E)) :: (TB G g7 ++ (TB G g5 ++ DB G g3)))))) ++ w)) := pm1
  refine n_perm pmA ?_
  refine lt_l1 (X := ((a, (Sum.inr (10, [.ref x1, .ref (g3 0), .ref (g5 0), .ref (g7 0), .ref x8, .int 0, .int 0, .ref x9, .ref (g11 0), .ref (g13 0), .ref x14, .ref x15, .int 0]) : va_E)) :: (x15, ia (G.2.2.1 0) 4) :: (x14, ia (G.2.2.1 2) 128) :: (BB G g13 ++ (CB G g11 ++ ((x9, (Sum.inl (G.2.2.1 5, 2, .inr (.inr (.inr (.inr (fun _ => none))))) : va_E)) :: (x8, (Sum.inl (G.2.2.1 5, 24, .inr (.inr (.inr (.inr (fun _ => none))))) : va_E)) :: (TB G g7 ++ (TB G g5 ++ DB G g3)))))) ++ w) C List.mem_cons_self rfl (fun R y => ?_) 8 0 (fun _ _ => 0) _ 0 rfl rfl (fun j hj => absurd hj (Nat.not_lt_zero _))
  refine n_iconst (v := 0) C dX11_init_128 (by decide) ?_
  refine n_istore_n (L1 := [some (.ref a), some (.int 0)]) C dX11_init_129 rfl (by decide) rfl rfl ?_
  have pmB : ((x1, (Sum.inl (G.2.2.1 4, 8, .inr (.inr (.inr (.inr (fun i => some (R i 0)))))) : va_E)) :: (RW G R 8 ++ (((a, (Sum.inr (10, [.ref x1, .ref (g3 0), .ref (g5 0), .ref (g7 0), .ref x8, .int 0, .int 0, .ref x9, .ref (g11 0), .ref (g13 0), .ref x14, .ref x15, .int 0]) : va_E)) :: (x15, ia (G.2.2.1 0) 4) :: (x14, ia (G.2.2.1 2) 128) :: (BB G g13 ++ (CB G g11 ++ [(x9, (Sum.inl (G.2.2.1 5, 2, .inr (.inr (.inr (.inr (fun _ => none))))) : va_E))]))) ++ ((x8, (Sum.inl (G.2.2.1 5, 24, .inr (.inr (.inr (.inr (fun _ => none))))) : va_E)) :: (TB G g7 ++ (TB G g5 ++ (DB G g3 ++ w))))))).Perm ((x8, (Sum.inl (G.2.2.1 5, 24, .inr (.inr (.inr (.inr (fun _ => none))))) : va_E)) :: ((x1, (Sum.inl (G.2.2.1 4, 8, .inr (.inr (.inr (.inr (fun i => some (R i 0)))))) : va_E)) :: (RW G R 8 ++ (((a, (Sum.inr (10, [.ref x1, .ref (g3 0), .ref (g5 0), .ref (g7 0), .ref x8, .int 0, .int 0, .ref x9, .ref (g11 0), .ref (g13 0), .ref x14, .ref x15, .int 0]) : va_E)) :: (x15, ia (G.2.2.1 0) 4) :: (x14, ia (G.2.2.1 2) 128) :: (BB G g13 ++ (CB G g11 ++ [(x9, (Sum.inl (G.2.2.1 5, 2, .inr (.inr (.inr (.inr (fun _ => none))))) : va_E))]))) ++ (TB G g7 ++ (TB G g5 ++ (DB G g3 ++ w))))))) := pm3
  refine n_perm pmB ?_
  refine lt_l2 (X := (x1, (Sum.inl (G.2.2.1 4, 8, .inr (.inr (.inr (.inr (fun i => some (R i 0)))))) : va_E)) :: (RW G R 8 ++ (((a, (Sum.inr (10, [.ref x1, .ref (g3 0), .ref (g5 0), .ref (g7 0), .ref x8, .int 0, .int 0, .ref x9, .ref (g11 0), .ref (g13 0), .ref x14, .ref x15, .int 0]) : va_E)) :: (x15, ia (G.2.2.1 0) 4) :: (x14, ia (G.2.2.1 2) 128) :: (BB G g13 ++ (CB G g11 ++ [(x9, (Sum.inl (G.2.2.1 5, 2, .inr (.inr (.inr (.inr (fun _ => none))))) : va_E))]))) ++ (TB G g7 ++ (TB G g5 ++ (DB G g3 ++ w)))))) C (List.mem_cons_of_mem _ (List.mem_append_right _ List.mem_cons_self)) rfl (fun Fb y => ?_) 24 0 (fun _ _ => 0) _ 0 rfl rfl (fun j hj => absurd hj (Nat.not_lt_zero _))
  refine n_iconst (v := 0) C dX11_init_155 (by decide) ?_
  refine n_istore_n (L1 := [some (.ref a), some (.int 0)]) C dX11_init_156 rfl (by decide) rfl rfl ?_
  have pmC : ((x8, (Sum.inl (G.2.2.1 5, 24, .inr (.inr (.inr (.inr (fun i => some (Fb i 0)))))) : va_E)) :: (TW G Fb 24 ++ ((x1, (Sum.inl (G.2.2.1 4, 8, .inr (.inr (.inr (.inr (fun i => some (R i 0)))))) : va_E)) :: (RW G R 8 ++ (((a, (Sum.inr (10, [.ref x1, .ref (g3 0), .ref (g5 0), .ref (g7 0), .ref x8, .int 0, .int 0, .ref x9, .ref (g11 0), .ref (g13 0), .ref x14, .ref x15, .int 0]) : va_E)) :: (x15, ia (G.2.2.1 0) 4) :: (x14, ia (G.2.2.1 2) 128) :: (BB G g13 ++ CB G g11)) ++ ((x9, (Sum.inl (G.2.2.1 5, 2, .inr (.inr (.inr (.inr (fun _ => none))))) : va_E)) :: (TB G g7 ++ (TB G g5 ++ (DB G g3 ++ w))))))))).Perm ((x9, (Sum.inl (G.2.2.1 5, 2, .inr (.inr (.inr (.inr (fun _ => none))))) : va_E)) :: ((x8, (Sum.inl (G.2.2.1 5, 24, .inr (.inr (.inr (.inr (fun i => some (Fb i 0)))))) : va_E)) :: (TW G Fb 24 ++ ((x1, (Sum.inl (G.2.2.1 4, 8, .inr (.inr (.inr (.inr (fun i => some (R i 0)))))) : va_E)) :: (RW G R 8 ++ (((a, (Sum.inr (10, [.ref x1, .ref (g3 0), .ref (g5 0), .ref (g7 0), .ref x8, .int 0, .int 0, .ref x9, .ref (g11 0), .ref (g13 0), .ref x14, .ref x15, .int 0]) : va_E)) :: (x15, ia (G.2.2.1 0) 4) :: (x14, ia (G.2.2.1 2) 128) :: (BB G g13 ++ CB G g11)) ++ (TB G g7 ++ (TB G g5 ++ (DB G g3 ++ w))))))))) := pm5
  refine n_perm pmC ?_
  refine lt_l3 (X := (x8, (Sum.inl (G.2.2.1 5, 24, .inr (.inr (.inr (.inr (fun i => some (Fb i 0)))))) : va_E)) :: (TW G Fb 24 ++ ((x1, (Sum.inl (G.2.2.1 4, 8, .inr (.inr (.inr (.inr (fun i => some (R i 0)))))) : va_E)) :: (RW G R 8 ++ (((a, (Sum.inr (10, [.ref x1, .ref (g3 0), .ref (g5 0), .ref (g7 0), .ref x8, .int 0, .int 0, .ref x9, .ref (g11 0), .ref (g13 0), .ref x14, .ref x15, .int 0]) : va_E)) :: (x15, ia (G.2.2.1 0) 4) :: (x14, ia (G.2.2.1 2) 128) :: (BB G g13 ++ CB G g11)) ++ (TB G g7 ++ (TB G g5 ++ (DB G g3 ++ w)))))))) C (List.mem_cons_of_mem _ (List.mem_append_right _ (List.mem_cons_of_mem _ (List.mem_append_right _ List.mem_cons_self)))) rfl (fun Fi y => ?_) 2 0 (fun _ _ => 0) _ 0 rfl rfl (fun j hj => absurd hj (Nat.not_lt_zero _))
  generalize hg : gl a x1 x8 x9 x14 x15 g3 g11 g13 g5 g7 R Fb Fi = g
  have e1 : TW G Fi 2 = (TI 26 2).map (cl0 G g) := TW_map G g Fi 26 2 (fun i hi => by subst hg; show ft g5 g7 Fb Fi (26 + i) 0 = _ ∧ ft g5 g7 Fb Fi (26 + i) 1 = _ ∧ ft g5 g7 Fb Fi (26 + i) 2 = _ ∧ ft g5 g7 Fb Fi (26 + i) 3 = _ ∧ ft g5 g7 Fb Fi (26 + i) 4 = _ ∧ ft g5 g7 Fb Fi (26 + i) 5 = _; rw [ft_i]; exact ⟨rfl, rfl, rfl, rfl, rfl, rfl⟩)
  have e2 : TW G Fb 24 = (TI 2 24).map (cl0 G g) := TW_map G g Fb 2 24 (fun i hi => by subst hg; show ft g5 g7 Fb Fi (2 + i) 0 = _ ∧ ft g5 g7 Fb Fi (2 + i) 1 = _ ∧ ft g5 g7 Fb Fi (2 + i) 2 = _ ∧ ft g5 g7 Fb Fi (2 + i) 3 = _ ∧ ft g5 g7 Fb Fi (2 + i) 4 = _ ∧ ft g5 g7 Fb Fi (2 + i) 5 = _; rw [ft_b _ _ _ _ hi]; exact ⟨rfl, rfl, rfl, rfl, rfl, rfl⟩)
  have e3 : RW G R 8 = (RI 8).map (cl0 G g) := RW_map G g R 8 (fun i hi => by subst hg; exact ⟨rfl, rfl⟩)
  have a0 : g 0 0 = a := by subst hg; rfl
  refine n_same (y := (2, .inr (.inr (.inr (.inr (fun i => some (g 1 (i + 26)))))))) (qa_congr (fun j hj => by subst hg; show some _ = some (ft g5 g7 Fb Fi (j + 26) 0); rw [Nat.add_comm j 26, ft_i])) ?_
  refine n_perm (pmZ (X := TW G Fi 2)) ?_
  refine n_same (y := (24, .inr (.inr (.inr (.inr (fun i => some (g 1 (i + 2)))))))) (qa_congr (fun j hj => by subst hg; show some _ = some (ft g5 g7 Fb Fi (j + 2) 0); rw [Nat.add_comm j 2, ft_b _ _ _ _ hj])) ?_
  refine n_perm (pmZ (X := TW G Fi 2)).symm ?_
  rw [e1, e2, e3]
  refine n_vret C hr hlk (by decide) (by decide) dX11_init_181 ⟨g, ?_, a0⟩
  rw [show (LI.map (cl0 G g) ++ w : va_W) = cl0 G g (9, 0) :: ((TI 26 2).map (cl0 G g) ++ (cl0 G g (8, 0) :: ((TI 2 24).map (cl0 G g) ++ (cl0 G g (7, 0) :: ((RI 8).map (cl0 G g) ++ (([(0, 0), (11, 0), (10, 0), (16, 0), (19, 0), (18, 0), (17, 0), (14, 0), (15, 0), (1, 1), (5, 1), (4, 1), (3, 1), (2, 1), (6, 1), (1, 0), (5, 0), (4, 0), (3, 0), (2, 0), (6, 0), (12, 0), (13, 0)] : List (Nat × Nat)).map (cl0 G g) ++ w)))))) by simp only [LI, List.map_cons, List.map_append, List.cons_append, List.append_assoc]]
  subst hg
  rfl
