/-! ===== calls of persons; new persons ===== -/
section PR2
variable {p : Program} {l : Launch} {e : Env} {R : Room} {s : State} {m : MethodId} {args : Array Value} {below : List Frame} {meth : Method} {c : Code} {cells slots : Nat} {Q : State → Prop} {cc : ByteArray} {nL : Nat} {own : String} {G : Gt} {σ : Sg} {pc : Nat} {L : List (Option Value)} {st : List Value}
theorem wa_gl {ws : List Cond} (h : ∀ w ∈ ws, w ∈ WA) : GoodIn WA ws := fun w hw => ⟨h w hw, good_of_word (List.mem_filter.mp (h w hw)).2⟩
theorem p_recv {s : State} {H : Heap} {locs : List Loc} {a ci : Nat} {r0 : vw_C} (hw : Wd G s σ H locs) (ha : a ∈ σ.2.2.2.1) (hk : σ.2.2.2.2.1 a = ci) (hc : vwCl[ci]? = some r0) : ∃ cell : Cell, H[a]? = some cell ∧ cell.vm.isStatics = false ∧ s.vm.findClass r0.1 = some cell.cls := by
  obtain ⟨q0, h0⟩ := wl_pat G σ ha
  unfold pe at h0
  rw [hk] at h0
  exact va_recv hw.1.1 hw.2.1 hc h0
theorem m_callU (C : Cx p s m args c cc nL own) {x y : MethodName} {owner : String} {bytes : ByteArray} {maxL fr lo mc ms n index : Nat} {ret : Option FieldType} {As : List Value} {a ci : Nat} {r0 : vw_C} {Post : Option Value → Sg → Prop} (hM : Mc l G y bytes maxL ret fr lo mc ms (.ref a :: As) σ Post) (ha : a ∈ σ.2.2.2.1) (hk : σ.2.2.2.2.1 a = ci) (hc : vwCl[ci]? = some r0)
    (cw : KX G s s.heap → va_CU R s args own r0.1 owner index x y bytes maxL ret (Cond.code y bytes maxL ret :: WA) { frames := fr, cells := mc, slots := ms, locals := lo } mc ms n) (hn : As.length = n) (hf : cells + mc ≤ R.cells ∧ slots + ms ≤ R.slots) {st0 : List Value} (hst : st0 = As.reverse ++ .ref a :: st) (hW : (st.map fun v => v.category).sum ≤ 8) (d : decode cc pc = .ok (.invokevirtual index, 3))
    (kk : ∀ (r : Option Value) (τ : Sg), Post r τ → MW p l e R s m args below meth c Q nL G (cells + mc) (slots + ms) (pc + 3) L (r.toList ++ st) τ) : MW p l e R s m args below meth c Q nL G cells slots pc L st0 σ := by
  refine m_run C (mc := mc) (ms := ms) (rest := st) (a := (Value.ref a :: As).toArray) (fun H locs ls hw hl => ?_) kk
  exact va_runU (As := As) (rest := st) (C := r0.1) C hM (cw hw.1) ⟨fun a U g mk q => ⟨q.1, q.2.blind g mk a⟩, p_recv hw ha hk hc, fun U hU hW => ⟨rfl, hw.at hW hU⟩⟩ rfl hn hl.1 hst (lv_room hW) d hf
theorem m_callSU (C : Cx p s m args c cc nL own) {y : MethodName} {bytes : ByteArray} {maxL fr lo mc ms n index : Nat} {ret : Option FieldType} {As : List Value} {a : Nat} {Post : Option Value → Sg → Prop} (hM : Mc l G y bytes maxL ret fr lo mc ms (.ref a :: As) σ Post) (hs : Ps σ) (ha : a ∈ σ.2.2.2.1) (qc : Cond.code y bytes maxL ret ∈ WA) (ql : Cond.methodLink own index y ∈ WA) (qm : Cond.sameMethod y.cls y.cls y.name y.desc ∈ WA) (qu : Cond.superclass own y.cls ∈ WA) (qi : Cond.instanceMethod y ∈ WA) (qn : Cond.initialized y.cls ∈ WA)
    (hd : y.name ≠ "<init>" ∧ (parseMethodDescriptor y.desc).map (fun d => d.parameters.length) = some n) (hn : As.length = n) (hR : fr + 1 ≤ R.frames ∧ 8 + (maxL + 11) + lo ≤ R.locals) (hf : cells + mc ≤ R.cells ∧ slots + ms ≤ R.slots) {st0 : List Value} (hst : st0 = As.reverse ++ .ref a :: st) (hW : (st.map fun v => v.category).sum ≤ 8) (d : decode cc pc = .ok (.invokespecial index, 3))
    (kk : ∀ (r : Option Value) (τ : Sg), Post r τ → MW p l e R s m args below meth c Q nL G (cells + mc) (slots + ms) (pc + 3) L (r.toList ++ st) τ) : MW p l e R s m args below meth c Q nL G cells slots pc L st0 σ := by
  refine m_run C (mc := mc) (ms := ms) (rest := st) (a := (Value.ref a :: As).toArray) (fun H locs ls hw hl => ?_) kk
  have cw : va_CS R s args own index y bytes maxL ret (Cond.code y bytes maxL ret :: WA) { frames := fr, cells := mc, slots := ms, locals := lo } mc ms n := va_cwSU n C.2.2.2.2 (goodIn_app (wa_gl (List.forall_mem_cons.mpr ⟨ql, List.forall_mem_cons.mpr ⟨qm, List.forall_mem_cons.mpr ⟨qu, List.forall_mem_cons.mpr ⟨qi, List.forall_mem_cons.mpr ⟨qn, fun _ h => absurd h List.not_mem_nil⟩⟩⟩⟩⟩)) (wa_goodIn y bytes maxL ret qc)) rfl rfl rfl hd hR
  have key : ∀ (ci : Nat) (r0 : vw_C), σ.2.2.2.2.1 a = ci → vwCl[ci]? = some r0 → va_Run p l e R s m args below meth c H locs cells slots mc ms (F0 m pc ls st0) st (QP G Post (Value.ref a :: As).toArray) (aG G) := fun ci r0 hk hc => va_runSU (As := As) (rest := st) (C := r0.1) (hw.1.1.1 ci r0 hc).2 C hM cw ⟨fun a U g mk q => ⟨q.1, q.2.blind g mk a⟩, p_recv hw ha hk hc, fun U hU hW => ⟨rfl, hw.at hW hU⟩⟩ rfl hn hl.1 hst (lv_room hW) d hf
  have hk := hs.2 a ha
  simp only [List.mem_cons, List.not_mem_nil, or_false] at hk
  rcases hk with hk | hk | hk | hk | hk
  · exact key 1 _ hk rfl
  · exact key 2 _ hk rfl
  · exact key 3 _ hk rfl
  · exact key 4 _ hk rfl
  · exact key 9 _ hk rfl
/-- a new person, of kind ci, at q -/
def addP (σ : Sg) (q ci : Nat) : Sg := (σ.1, σ.2.1, σ.2.2.1, σ.2.2.2.1 ++ [q], va_up σ.2.2.2.2.1 q ci, va_up σ.2.2.2.2.2 q (fun _ => 0))
/-- a person's number changes -/
def sP (σ : Sg) (a k : Nat) (v : Int32) : Sg := (σ.1, σ.2.1, σ.2.2.1, σ.2.2.2.1, σ.2.2.2.2.1, va_up σ.2.2.2.2.2 a (upd (σ.2.2.2.2.2 a) k v))
theorem wl_add (G : Gt) (σ : Sg) {q ci : Nat} (hq : q ∉ σ.2.2.2.1) : wl G σ ++ [(q, .inr (ci, [.int 0, .int 0, .int 0]))] = wl G (addP σ q ci) := by
  have e1 : idl.map (fun x => (G.1 x.1 x.2, ce G (addP σ q ci) x.1 x.2)) = idl.map (fun x => (G.1 x.1 x.2, ce G σ x.1 x.2)) := by
    apply List.map_congr_left
    intro x hx
    have : ce G (addP σ q ci) x.1 x.2 = ce G σ x.1 x.2 := by
      unfold ce ceF
      split <;> rfl
    rw [this]
  unfold wl
  rw [e1, List.append_assoc]
  congr 1
  show _ = (σ.2.2.2.1 ++ [q]).map (fun a => (a, pe (addP σ q ci).2.2.2 a))
  rw [List.map_append]
  congr 1
  · apply List.map_congr_left
    intro a ha
    have hne : a ≠ q := fun z => hq (z ▸ ha)
    simp [pe, addP, va_up, hne]
  · simp [pe, addP, va_up]
theorem Inv.addP {σ : Sg} (h : Inv σ) {q ci : Nat} (hc : ci ∈ [1, 2, 3, 4, 9]) : Inv (addP σ q ci) := ⟨h.1, h.2.1, ⟨fun j i a e => List.mem_append_left _ (h.2.2.1 j i a e), fun a ha => by
  by_cases g : a = q
  · subst g
    show va_up _ _ _ _ ∈ _
    simp only [va_up, if_true]
    exact hc
  · rcases List.mem_append.mp ha with q1 | q1
    · show va_up _ _ _ _ ∈ _
      simp only [va_up, if_neg g]
      exact h.2.2.2 a q1
    · exact absurd (List.mem_singleton.mp q1) g⟩⟩
theorem Inv.sP {σ : Sg} (h : Inv σ) {a k : Nat} {v : Int32} : Inv (sP σ a k v) := h
theorem Fr.addP {MM : List (Nat × Nat)} {AA : List Nat} {σ τ : Sg} (h : Fr MM AA σ τ) {q ci : Nat} (h99 : 99 ∈ AA) : Fr MM AA σ (addP τ q ci) := ⟨h.1, h.2.1, fun q => absurd h99 q⟩
theorem Fr.sP {MM : List (Nat × Nat)} {AA : List Nat} {σ τ : Sg} (h : Fr MM AA σ τ) {a k : Nat} {v : Int32} (h99 : 99 ∈ AA) : Fr MM AA σ (sP τ a k v) := ⟨h.1, h.2.1, fun q => absurd h99 q⟩
theorem m_new1 (C : Cx p s m args c cc nL own) {index : Nat} (qcl : Cond.classLink own index RX1 ∈ WA) (qin : Cond.instantiable RX1 3 ∈ WA) (qi : Cond.initialized RX1 ∈ WA) (hc : cells + 1 ≤ R.cells) (hs : slots + 3 ≤ R.slots) (d : decode cc pc = .ok (.new index, 3)) (kk : ∀ q : Nat, MW p l e R s m args below meth c Q nL G (cells + 1) (slots + 3) (pc + 3) L (.ref q :: st) (addP σ q 1)) : MW p l e R s m args below meth c Q nL G cells slots pc L st σ := fun H locs ls hw hl => by
  refine va_new (C := RX1) (T := TX1) (N := 3) (ci := 1) (fs := [.int 0, .int 0, .int 0]) C.1 C.2.1 C.2.2.2.2 in_1 tyX1 tyX1_ok C.2.2.2.1 (C.2.2.2.2 _ qcl) (C.2.2.2.2 _ qin) (C.2.2.2.2 _ qi) hw.1.1 hw.2.1 hw.2.2.1 hw.2.2.2.1 (fun q h => Nat.le_trans hw.2.2.2.2 h) rfl (fun j hj => by match j, hj with | 0, _ => rfl | 1, _ => rfl | 2, _ => rfl) hc hs d (fun q H1 hP hD hS => ?_)
  have hq : q ∉ σ.2.2.2.1 := fun hm => by
    obtain ⟨k, hk⟩ := wl_pat G σ hm
    have hlt := (List.getElem?_eq_some_iff.mp hk).1
    have e1 : (wl G σ ++ [(q, Sum.inr (1, [Value.int 0, Value.int 0, Value.int 0]))])[k]? = some (q, pe σ.2.2.2 q) := by rw [List.getElem?_append_left hlt]; exact hk
    have e2 : (wl G σ ++ [(q, Sum.inr (1, [Value.int 0, Value.int 0, Value.int 0]))])[(wl G σ).length]? = some (q, Sum.inr (1, [Value.int 0, Value.int 0, Value.int 0])) := by rw [List.getElem?_append_right (Nat.le_refl _), Nat.sub_self]; rfl
    have := hD.1 _ _ _ _ e1 e2 rfl
    omega
  rw [wl_add G σ hq] at hP hD
  exact kk q H1 locs ls ⟨hw.1, hP, hD, hS, hw.2.2.2.2⟩ hl
theorem m_new2 (C : Cx p s m args c cc nL own) {index : Nat} (qcl : Cond.classLink own index RX2 ∈ WA) (qin : Cond.instantiable RX2 3 ∈ WA) (qi : Cond.initialized RX2 ∈ WA) (hc : cells + 1 ≤ R.cells) (hs : slots + 3 ≤ R.slots) (d : decode cc pc = .ok (.new index, 3)) (kk : ∀ q : Nat, MW p l e R s m args below meth c Q nL G (cells + 1) (slots + 3) (pc + 3) L (.ref q :: st) (addP σ q 2)) : MW p l e R s m args below meth c Q nL G cells slots pc L st σ := fun H locs ls hw hl => by
  refine va_new (C := RX2) (T := TX2) (N := 3) (ci := 2) (fs := [.int 0, .int 0, .int 0]) C.1 C.2.1 C.2.2.2.2 in_2 tyX2 tyX2_ok C.2.2.2.1 (C.2.2.2.2 _ qcl) (C.2.2.2.2 _ qin) (C.2.2.2.2 _ qi) hw.1.1 hw.2.1 hw.2.2.1 hw.2.2.2.1 (fun q h => Nat.le_trans hw.2.2.2.2 h) rfl (fun j hj => by match j, hj with | 0, _ => rfl | 1, _ => rfl | 2, _ => rfl) hc hs d (fun q H1 hP hD hS => ?_)
  have hq : q ∉ σ.2.2.2.1 := fun hm => by
    obtain ⟨k, hk⟩ := wl_pat G σ hm
    have hlt := (List.getElem?_eq_some_iff.mp hk).1
    have e1 : (wl G σ ++ [(q, Sum.inr (2, [Value.int 0, Value.int 0, Value.int 0]))])[k]? = some (q, pe σ.2.2.2 q) := by rw [List.getElem?_append_left hlt]; exact hk
    have e2 : (wl G σ ++ [(q, Sum.inr (2, [Value.int 0, Value.int 0, Value.int 0]))])[(wl G σ).length]? = some (q, Sum.inr (2, [Value.int 0, Value.int 0, Value.int 0])) := by rw [List.getElem?_append_right (Nat.le_refl _), Nat.sub_self]; rfl
    have := hD.1 _ _ _ _ e1 e2 rfl
    omega
  rw [wl_add G σ hq] at hP hD
  exact kk q H1 locs ls ⟨hw.1, hP, hD, hS, hw.2.2.2.2⟩ hl
theorem m_new3 (C : Cx p s m args c cc nL own) {index : Nat} (qcl : Cond.classLink own index RX3 ∈ WA) (qin : Cond.instantiable RX3 3 ∈ WA) (qi : Cond.initialized RX3 ∈ WA) (hc : cells + 1 ≤ R.cells) (hs : slots + 3 ≤ R.slots) (d : decode cc pc = .ok (.new index, 3)) (kk : ∀ q : Nat, MW p l e R s m args below meth c Q nL G (cells + 1) (slots + 3) (pc + 3) L (.ref q :: st) (addP σ q 3)) : MW p l e R s m args below meth c Q nL G cells slots pc L st σ := fun H locs ls hw hl => by
  refine va_new (C := RX3) (T := TX3) (N := 3) (ci := 3) (fs := [.int 0, .int 0, .int 0]) C.1 C.2.1 C.2.2.2.2 in_3 tyX3 tyX3_ok C.2.2.2.1 (C.2.2.2.2 _ qcl) (C.2.2.2.2 _ qin) (C.2.2.2.2 _ qi) hw.1.1 hw.2.1 hw.2.2.1 hw.2.2.2.1 (fun q h => Nat.le_trans hw.2.2.2.2 h) rfl (fun j hj => by match j, hj with | 0, _ => rfl | 1, _ => rfl | 2, _ => rfl) hc hs d (fun q H1 hP hD hS => ?_)
  have hq : q ∉ σ.2.2.2.1 := fun hm => by
    obtain ⟨k, hk⟩ := wl_pat G σ hm
    have hlt := (List.getElem?_eq_some_iff.mp hk).1
    have e1 : (wl G σ ++ [(q, Sum.inr (3, [Value.int 0, Value.int 0, Value.int 0]))])[k]? = some (q, pe σ.2.2.2 q) := by rw [List.getElem?_append_left hlt]; exact hk
    have e2 : (wl G σ ++ [(q, Sum.inr (3, [Value.int 0, Value.int 0, Value.int 0]))])[(wl G σ).length]? = some (q, Sum.inr (3, [Value.int 0, Value.int 0, Value.int 0])) := by rw [List.getElem?_append_right (Nat.le_refl _), Nat.sub_self]; rfl
    have := hD.1 _ _ _ _ e1 e2 rfl
    omega
  rw [wl_add G σ hq] at hP hD
  exact kk q H1 locs ls ⟨hw.1, hP, hD, hS, hw.2.2.2.2⟩ hl
theorem m_new4 (C : Cx p s m args c cc nL own) {index : Nat} (qcl : Cond.classLink own index RX5 ∈ WA) (qin : Cond.instantiable RX5 3 ∈ WA) (qi : Cond.initialized RX5 ∈ WA) (hc : cells + 1 ≤ R.cells) (hs : slots + 3 ≤ R.slots) (d : decode cc pc = .ok (.new index, 3)) (kk : ∀ q : Nat, MW p l e R s m args below meth c Q nL G (cells + 1) (slots + 3) (pc + 3) L (.ref q :: st) (addP σ q 4)) : MW p l e R s m args below meth c Q nL G cells slots pc L st σ := fun H locs ls hw hl => by
  refine va_new (C := RX5) (T := TX5) (N := 3) (ci := 4) (fs := [.int 0, .int 0, .int 0]) C.1 C.2.1 C.2.2.2.2 in_5 tyX5 tyX5_ok C.2.2.2.1 (C.2.2.2.2 _ qcl) (C.2.2.2.2 _ qin) (C.2.2.2.2 _ qi) hw.1.1 hw.2.1 hw.2.2.1 hw.2.2.2.1 (fun q h => Nat.le_trans hw.2.2.2.2 h) rfl (fun j hj => by match j, hj with | 0, _ => rfl | 1, _ => rfl | 2, _ => rfl) hc hs d (fun q H1 hP hD hS => ?_)
  have hq : q ∉ σ.2.2.2.1 := fun hm => by
    obtain ⟨k, hk⟩ := wl_pat G σ hm
    have hlt := (List.getElem?_eq_some_iff.mp hk).1
    have e1 : (wl G σ ++ [(q, Sum.inr (4, [Value.int 0, Value.int 0, Value.int 0]))])[k]? = some (q, pe σ.2.2.2 q) := by rw [List.getElem?_append_left hlt]; exact hk
    have e2 : (wl G σ ++ [(q, Sum.inr (4, [Value.int 0, Value.int 0, Value.int 0]))])[(wl G σ).length]? = some (q, Sum.inr (4, [Value.int 0, Value.int 0, Value.int 0])) := by rw [List.getElem?_append_right (Nat.le_refl _), Nat.sub_self]; rfl
    have := hD.1 _ _ _ _ e1 e2 rfl
    omega
  rw [wl_add G σ hq] at hP hD
  exact kk q H1 locs ls ⟨hw.1, hP, hD, hS, hw.2.2.2.2⟩ hl
theorem m_new9 (C : Cx p s m args c cc nL own) {index : Nat} (qcl : Cond.classLink own index RX10 ∈ WA) (qin : Cond.instantiable RX10 3 ∈ WA) (qi : Cond.initialized RX10 ∈ WA) (hc : cells + 1 ≤ R.cells) (hs : slots + 3 ≤ R.slots) (d : decode cc pc = .ok (.new index, 3)) (kk : ∀ q : Nat, MW p l e R s m args below meth c Q nL G (cells + 1) (slots + 3) (pc + 3) L (.ref q :: st) (addP σ q 9)) : MW p l e R s m args below meth c Q nL G cells slots pc L st σ := fun H locs ls hw hl => by
  refine va_new (C := RX10) (T := TX10) (N := 3) (ci := 9) (fs := [.int 0, .int 0, .int 0]) C.1 C.2.1 C.2.2.2.2 in_10 tyX10 tyX10_ok C.2.2.2.1 (C.2.2.2.2 _ qcl) (C.2.2.2.2 _ qin) (C.2.2.2.2 _ qi) hw.1.1 hw.2.1 hw.2.2.1 hw.2.2.2.1 (fun q h => Nat.le_trans hw.2.2.2.2 h) rfl (fun j hj => by match j, hj with | 0, _ => rfl | 1, _ => rfl | 2, _ => rfl) hc hs d (fun q H1 hP hD hS => ?_)
  have hq : q ∉ σ.2.2.2.1 := fun hm => by
    obtain ⟨k, hk⟩ := wl_pat G σ hm
    have hlt := (List.getElem?_eq_some_iff.mp hk).1
    have e1 : (wl G σ ++ [(q, Sum.inr (9, [Value.int 0, Value.int 0, Value.int 0]))])[k]? = some (q, pe σ.2.2.2 q) := by rw [List.getElem?_append_left hlt]; exact hk
    have e2 : (wl G σ ++ [(q, Sum.inr (9, [Value.int 0, Value.int 0, Value.int 0]))])[(wl G σ).length]? = some (q, Sum.inr (9, [Value.int 0, Value.int 0, Value.int 0])) := by rw [List.getElem?_append_right (Nat.le_refl _), Nat.sub_self]; rfl
    have := hD.1 _ _ _ _ e1 e2 rfl
    omega
  rw [wl_add G σ hq] at hP hD
  exact kk q H1 locs ls ⟨hw.1, hP, hD, hS, hw.2.2.2.2⟩ hl
theorem pp_0 (C : Cx p s m args c cc nL own) {a : Nat} {v : Int32} (hin : meth.name = "<init>") (hown : own = "LeanTower$Person") (hs : Ps σ) (ha : a ∈ σ.2.2.2.1) {index : Nat} (hq : Cond.fieldLink own index "LeanTower$Person" "number" "I" ∈ WA) (d : decode cc pc = .ok (.putfield index, 3)) (kk : MW p l e R s m args below meth c Q nL G cells slots (pc + 3) L st (sP σ a 0 v)) : MW p l e R s m args below meth c Q nL G cells slots pc L (.int v :: .ref a :: st) σ := fun H locs ls hw hl => by
  obtain ⟨q0, h0⟩ := wl_pat G σ ha
  have fin : ∀ (ci : Nat) (C1 : String) (T : u_T), σ.2.2.2.2.1 a = ci → vwCl[ci]? = some (C1, T, 3) → (∀ w ∈ u_ws C1 T 3, w ∈ WA) → ∀ ty0 : Nat → FieldType, (∀ k, k < 3 → parseFieldDescriptor (T k).2.2.1 = some (ty0 k)) → (∀ a, a < 3 → ∀ b, b < 3 → a ≠ b → (T a).2.1 ≠ (T b).2.1) → T 0 = ("LeanTower$Person", "number", "I", true) → True = True → True = True → W p l e R s m args below meth c H locs cells slots Q (F0 m pc ls (.int v :: .ref a :: st)) := by
    intro ci C1 T hk hc hi ty0 hty hnm hT _ _
    have h1 := h0
    unfold pe at h1
    rw [hk] at h1
    refine va_putF (ref := "LeanTower$Person") (ty := .int) C.1 C.2.1 C.2.2.2.2 hi ty0 hty hnm C.2.2.2.1 hw.1.1 hw.2.1 hw.2.2.1 hw.2.2.2.1 q0 h1 hc 0 (by decide) (by rw [hT]; exact C.2.2.2.2 _ hq) (by rw [hT]; exact fun _ h => h) (by rw [hT]) hin (by rw [hT, hown]) (by rw [hT]; decide +kernel) rfl rfl (Nat.le_of_ble_eq_true rfl) d (fun H1 locs1 hP hD hS => ?_)
    have e : (wl G σ).set q0 (a, Sum.inr (ci, [Value.int (σ.2.2.2.2.2 a 0), .int (σ.2.2.2.2.2 a 1), .int (σ.2.2.2.2.2 a 2)].set 0 (.int v))) = wl G (sP σ a 0 v) := by
      apply List.ext_getElem?
      intro x
      have hlt := (List.getElem?_eq_some_iff.mp h0).1
      have ecl : ∀ y : Nat × Nat, ce G (sP σ a 0 v) y.1 y.2 = ce G σ y.1 y.2 := fun y => by
        unfold ce ceF
        split <;> rfl
      by_cases hx : x = q0
      · subst hx
        rw [List.getElem?_set_self hlt]
        unfold wl at h0 ⊢
        by_cases hxl : x < (idl.map (fun q => (G.1 q.1 q.2, ce G σ q.1 q.2))).length
        · exfalso
          rw [List.getElem?_append_left hxl] at h0
          rw [List.length_map] at hxl
          obtain ⟨y, hy⟩ : ∃ y, idl[x]? = some y := ⟨_, List.getElem?_eq_some_iff.mpr ⟨hxl, rfl⟩⟩
          obtain ⟨x2, hx2⟩ := List.getElem?_of_mem (List.mem_map.mpr ⟨a, ha, rfl⟩ : (a, pe σ.2.2.2 a) ∈ σ.2.2.2.1.map (fun a => (a, pe σ.2.2.2 a)))
          have hD := hw.2.2.1
          unfold wl at hD
          have := hD.1 x ((idl.map (fun q => (G.1 q.1 q.2, ce G σ q.1 q.2))).length + x2) (a, pe σ.2.2.2 a) (a, pe σ.2.2.2 a) (by rw [List.getElem?_append_left (by rw [List.length_map]; exact hxl)]; exact h0) (by rw [List.getElem?_append_right (Nat.le_add_right _ _), Nat.add_sub_cancel_left]; exact hx2) rfl
          rw [List.length_map] at this
          omega
        · rw [List.getElem?_append_right (Nat.le_of_not_lt hxl)] at h0
          rw [List.length_map] at hxl h0
          rw [List.getElem?_append_right (by rw [List.length_map]; omega), List.length_map]
          rw [List.getElem?_map] at h0 ⊢
          cases hy : σ.2.2.2.1[x - idl.length]? with
          | none => rw [hy] at h0; cases h0
          | some b =>
            rw [hy] at h0
            have eb : b = a := by simpa using congrArg (fun o => o.map Prod.fst) h0
            subst eb
            show _ = Option.map _ (σ.2.2.2.1[x - idl.length]?)
            rw [hy]
            simp [pe, sP, va_up, hk, upd]
      · rw [List.getElem?_set_ne (Ne.symm hx)]
        unfold wl
        by_cases hxl : x < idl.length
        · rw [List.getElem?_append_left (by rw [List.length_map]; exact hxl), List.getElem?_append_left (by rw [List.length_map]; exact hxl), List.getElem?_map, List.getElem?_map]
          cases hy : idl[x]? with
          | none => rfl
          | some y => simp only [Option.map_some, ecl y]
        · rw [List.getElem?_append_right (by rw [List.length_map]; omega), List.getElem?_append_right (by rw [List.length_map]; omega), List.length_map, List.length_map, List.getElem?_map, List.getElem?_map]
          show _ = Option.map _ (σ.2.2.2.1[x - idl.length]?)
          cases hy : σ.2.2.2.1[x - idl.length]? with
          | none => rfl
          | some b =>
            have hb : b ≠ a := fun z => by
              subst z
              have e1 : (wl G σ)[x]? = some (b, pe σ.2.2.2 b) := by
                unfold wl
                rw [List.getElem?_append_right (by rw [List.length_map]; omega), List.length_map, List.getElem?_map, hy]
                rfl
              exact hx (hw.2.2.1.1 x q0 _ _ e1 h0 rfl)
            simp [pe, sP, va_up, hb]
    rw [e] at hP hD
    exact kk H1 locs1 ls ⟨hw.1, hP, hD, hS, hw.2.2.2.2⟩ hl
  have hk := hs.2 a ha
  simp only [List.mem_cons, List.not_mem_nil, or_false] at hk
  rcases hk with hk | hk | hk | hk | hk
  · exact fin 1 RX1 TX1 hk rfl in_1 tyX1 tyX1_ok nmX1 rfl rfl rfl
  · exact fin 2 RX2 TX2 hk rfl in_2 tyX2 tyX2_ok nmX2 rfl rfl rfl
  · exact fin 3 RX3 TX3 hk rfl in_3 tyX3 tyX3_ok nmX3 rfl rfl rfl
  · exact fin 4 RX5 TX5 hk rfl in_5 tyX5 tyX5_ok nmX5 rfl rfl rfl
  · exact fin 9 RX10 TX10 hk rfl in_10 tyX10 tyX10_ok nmX10 rfl rfl rfl
theorem pp_1 (C : Cx p s m args c cc nL own) {a : Nat} {v : Int32} (hin : meth.name = "<init>") (hown : own = "LeanTower$Person") (hs : Ps σ) (ha : a ∈ σ.2.2.2.1) {index : Nat} (hq : Cond.fieldLink own index "LeanTower$Person" "burden" "I" ∈ WA) (d : decode cc pc = .ok (.putfield index, 3)) (kk : MW p l e R s m args below meth c Q nL G cells slots (pc + 3) L st (sP σ a 1 v)) : MW p l e R s m args below meth c Q nL G cells slots pc L (.int v :: .ref a :: st) σ := fun H locs ls hw hl => by
  obtain ⟨q0, h0⟩ := wl_pat G σ ha
  have fin : ∀ (ci : Nat) (C1 : String) (T : u_T), σ.2.2.2.2.1 a = ci → vwCl[ci]? = some (C1, T, 3) → (∀ w ∈ u_ws C1 T 3, w ∈ WA) → ∀ ty0 : Nat → FieldType, (∀ k, k < 3 → parseFieldDescriptor (T k).2.2.1 = some (ty0 k)) → (∀ a, a < 3 → ∀ b, b < 3 → a ≠ b → (T a).2.1 ≠ (T b).2.1) → T 1 = ("LeanTower$Person", "burden", "I", true) → True = True → True = True → W p l e R s m args below meth c H locs cells slots Q (F0 m pc ls (.int v :: .ref a :: st)) := by
    intro ci C1 T hk hc hi ty0 hty hnm hT _ _
    have h1 := h0
    unfold pe at h1
    rw [hk] at h1
    refine va_putF (ref := "LeanTower$Person") (ty := .int) C.1 C.2.1 C.2.2.2.2 hi ty0 hty hnm C.2.2.2.1 hw.1.1 hw.2.1 hw.2.2.1 hw.2.2.2.1 q0 h1 hc 1 (by decide) (by rw [hT]; exact C.2.2.2.2 _ hq) (by rw [hT]; exact fun _ h => h) (by rw [hT]) hin (by rw [hT, hown]) (by rw [hT]; decide +kernel) rfl rfl (Nat.le_of_ble_eq_true rfl) d (fun H1 locs1 hP hD hS => ?_)
    have e : (wl G σ).set q0 (a, Sum.inr (ci, [Value.int (σ.2.2.2.2.2 a 0), .int (σ.2.2.2.2.2 a 1), .int (σ.2.2.2.2.2 a 2)].set 1 (.int v))) = wl G (sP σ a 1 v) := by
      apply List.ext_getElem?
      intro x
      have hlt := (List.getElem?_eq_some_iff.mp h0).1
      have ecl : ∀ y : Nat × Nat, ce G (sP σ a 1 v) y.1 y.2 = ce G σ y.1 y.2 := fun y => by
        unfold ce ceF
        split <;> rfl
      by_cases hx : x = q0
      · subst hx
        rw [List.getElem?_set_self hlt]
        unfold wl at h0 ⊢
        by_cases hxl : x < (idl.map (fun q => (G.1 q.1 q.2, ce G σ q.1 q.2))).length
        · exfalso
          rw [List.getElem?_append_left hxl] at h0
          rw [List.length_map] at hxl
          obtain ⟨y, hy⟩ : ∃ y, idl[x]? = some y := ⟨_, List.getElem?_eq_some_iff.mpr ⟨hxl, rfl⟩⟩
          obtain ⟨x2, hx2⟩ := List.getElem?_of_mem (List.mem_map.mpr ⟨a, ha, rfl⟩ : (a, pe σ.2.2.2 a) ∈ σ.2.2.2.1.map (fun a => (a, pe σ.2.2.2 a)))
          have hD := hw.2.2.1
          unfold wl at hD
          have := hD.1 x ((idl.map (fun q => (G.1 q.1 q.2, ce G σ q.1 q.2))).length + x2) (a, pe σ.2.2.2 a) (a, pe σ.2.2.2 a) (by rw [List.getElem?_append_left (by rw [List.length_map]; exact hxl)]; exact h0) (by rw [List.getElem?_append_right (Nat.le_add_right _ _), Nat.add_sub_cancel_left]; exact hx2) rfl
          rw [List.length_map] at this
          omega
        · rw [List.getElem?_append_right (Nat.le_of_not_lt hxl)] at h0
          rw [List.length_map] at hxl h0
          rw [List.getElem?_append_right (by rw [List.length_map]; omega), List.length_map]
          rw [List.getElem?_map] at h0 ⊢
          cases hy : σ.2.2.2.1[x - idl.length]? with
          | none => rw [hy] at h0; cases h0
          | some b =>
            rw [hy] at h0
            have eb : b = a := by simpa using congrArg (fun o => o.map Prod.fst) h0
            subst eb
            show _ = Option.map _ (σ.2.2.2.1[x - idl.length]?)
            rw [hy]
            simp [pe, sP, va_up, hk, upd]
      · rw [List.getElem?_set_ne (Ne.symm hx)]
        unfold wl
        by_cases hxl : x < idl.length
        · rw [List.getElem?_append_left (by rw [List.length_map]; exact hxl), List.getElem?_append_left (by rw [List.length_map]; exact hxl), List.getElem?_map, List.getElem?_map]
          cases hy : idl[x]? with
          | none => rfl
          | some y => simp only [Option.map_some, ecl y]
        · rw [List.getElem?_append_right (by rw [List.length_map]; omega), List.getElem?_append_right (by rw [List.length_map]; omega), List.length_map, List.length_map, List.getElem?_map, List.getElem?_map]
          show _ = Option.map _ (σ.2.2.2.1[x - idl.length]?)
          cases hy : σ.2.2.2.1[x - idl.length]? with
          | none => rfl
          | some b =>
            have hb : b ≠ a := fun z => by
              subst z
              have e1 : (wl G σ)[x]? = some (b, pe σ.2.2.2 b) := by
                unfold wl
                rw [List.getElem?_append_right (by rw [List.length_map]; omega), List.length_map, List.getElem?_map, hy]
                rfl
              exact hx (hw.2.2.1.1 x q0 _ _ e1 h0 rfl)
            simp [pe, sP, va_up, hb]
    rw [e] at hP hD
    exact kk H1 locs1 ls ⟨hw.1, hP, hD, hS, hw.2.2.2.2⟩ hl
  have hk := hs.2 a ha
  simp only [List.mem_cons, List.not_mem_nil, or_false] at hk
  rcases hk with hk | hk | hk | hk | hk
  · exact fin 1 RX1 TX1 hk rfl in_1 tyX1 tyX1_ok nmX1 rfl rfl rfl
  · exact fin 2 RX2 TX2 hk rfl in_2 tyX2 tyX2_ok nmX2 rfl rfl rfl
  · exact fin 3 RX3 TX3 hk rfl in_3 tyX3 tyX3_ok nmX3 rfl rfl rfl
  · exact fin 4 RX5 TX5 hk rfl in_5 tyX5 tyX5_ok nmX5 rfl rfl rfl
  · exact fin 9 RX10 TX10 hk rfl in_10 tyX10 tyX10_ok nmX10 rfl rfl rfl
theorem pp_2 (C : Cx p s m args c cc nL own) {a : Nat} {v : Int32} (hin : meth.name = "<init>") (hown : own = "LeanTower$Person") (hs : Ps σ) (ha : a ∈ σ.2.2.2.1) {index : Nat} (hq : Cond.fieldLink own index "LeanTower$Person" "pace" "I" ∈ WA) (d : decode cc pc = .ok (.putfield index, 3)) (kk : MW p l e R s m args below meth c Q nL G cells slots (pc + 3) L st (sP σ a 2 v)) : MW p l e R s m args below meth c Q nL G cells slots pc L (.int v :: .ref a :: st) σ := fun H locs ls hw hl => by
  obtain ⟨q0, h0⟩ := wl_pat G σ ha
  have fin : ∀ (ci : Nat) (C1 : String) (T : u_T), σ.2.2.2.2.1 a = ci → vwCl[ci]? = some (C1, T, 3) → (∀ w ∈ u_ws C1 T 3, w ∈ WA) → ∀ ty0 : Nat → FieldType, (∀ k, k < 3 → parseFieldDescriptor (T k).2.2.1 = some (ty0 k)) → (∀ a, a < 3 → ∀ b, b < 3 → a ≠ b → (T a).2.1 ≠ (T b).2.1) → T 2 = ("LeanTower$Person", "pace", "I", true) → True = True → True = True → W p l e R s m args below meth c H locs cells slots Q (F0 m pc ls (.int v :: .ref a :: st)) := by
    intro ci C1 T hk hc hi ty0 hty hnm hT _ _
    have h1 := h0
    unfold pe at h1
    rw [hk] at h1
    refine va_putF (ref := "LeanTower$Person") (ty := .int) C.1 C.2.1 C.2.2.2.2 hi ty0 hty hnm C.2.2.2.1 hw.1.1 hw.2.1 hw.2.2.1 hw.2.2.2.1 q0 h1 hc 2 (by decide) (by rw [hT]; exact C.2.2.2.2 _ hq) (by rw [hT]; exact fun _ h => h) (by rw [hT]) hin (by rw [hT, hown]) (by rw [hT]; decide +kernel) rfl rfl (Nat.le_of_ble_eq_true rfl) d (fun H1 locs1 hP hD hS => ?_)
    have e : (wl G σ).set q0 (a, Sum.inr (ci, [Value.int (σ.2.2.2.2.2 a 0), .int (σ.2.2.2.2.2 a 1), .int (σ.2.2.2.2.2 a 2)].set 2 (.int v))) = wl G (sP σ a 2 v) := by
      apply List.ext_getElem?
      intro x
      have hlt := (List.getElem?_eq_some_iff.mp h0).1
      have ecl : ∀ y : Nat × Nat, ce G (sP σ a 2 v) y.1 y.2 = ce G σ y.1 y.2 := fun y => by
        unfold ce ceF
        split <;> rfl
      by_cases hx : x = q0
      · subst hx
        rw [List.getElem?_set_self hlt]
        unfold wl at h0 ⊢
        by_cases hxl : x < (idl.map (fun q => (G.1 q.1 q.2, ce G σ q.1 q.2))).length
        · exfalso
          rw [List.getElem?_append_left hxl] at h0
          rw [List.length_map] at hxl
          obtain ⟨y, hy⟩ : ∃ y, idl[x]? = some y := ⟨_, List.getElem?_eq_some_iff.mpr ⟨hxl, rfl⟩⟩
          obtain ⟨x2, hx2⟩ := List.getElem?_of_mem (List.mem_map.mpr ⟨a, ha, rfl⟩ : (a, pe σ.2.2.2 a) ∈ σ.2.2.2.1.map (fun a => (a, pe σ.2.2.2 a)))
          have hD := hw.2.2.1
          unfold wl at hD
          have := hD.1 x ((idl.map (fun q => (G.1 q.1 q.2, ce G σ q.1 q.2))).length + x2) (a, pe σ.2.2.2 a) (a, pe σ.2.2.2 a) (by rw [List.getElem?_append_left (by rw [List.length_map]; exact hxl)]; exact h0) (by rw [List.getElem?_append_right (Nat.le_add_right _ _), Nat.add_sub_cancel_left]; exact hx2) rfl
          rw [List.length_map] at this
          omega
        · rw [List.getElem?_append_right (Nat.le_of_not_lt hxl)] at h0
          rw [List.length_map] at hxl h0
          rw [List.getElem?_append_right (by rw [List.length_map]; omega), List.length_map]
          rw [List.getElem?_map] at h0 ⊢
          cases hy : σ.2.2.2.1[x - idl.length]? with
          | none => rw [hy] at h0; cases h0
          | some b =>
            rw [hy] at h0
            have eb : b = a := by simpa using congrArg (fun o => o.map Prod.fst) h0
            subst eb
            show _ = Option.map _ (σ.2.2.2.1[x - idl.length]?)
            rw [hy]
            simp [pe, sP, va_up, hk, upd]
      · rw [List.getElem?_set_ne (Ne.symm hx)]
        unfold wl
        by_cases hxl : x < idl.length
        · rw [List.getElem?_append_left (by rw [List.length_map]; exact hxl), List.getElem?_append_left (by rw [List.length_map]; exact hxl), List.getElem?_map, List.getElem?_map]
          cases hy : idl[x]? with
          | none => rfl
          | some y => simp only [Option.map_some, ecl y]
        · rw [List.getElem?_append_right (by rw [List.length_map]; omega), List.getElem?_append_right (by rw [List.length_map]; omega), List.length_map, List.length_map, List.getElem?_map, List.getElem?_map]
          show _ = Option.map _ (σ.2.2.2.1[x - idl.length]?)
          cases hy : σ.2.2.2.1[x - idl.length]? with
          | none => rfl
          | some b =>
            have hb : b ≠ a := fun z => by
              subst z
              have e1 : (wl G σ)[x]? = some (b, pe σ.2.2.2 b) := by
                unfold wl
                rw [List.getElem?_append_right (by rw [List.length_map]; omega), List.length_map, List.getElem?_map, hy]
                rfl
              exact hx (hw.2.2.1.1 x q0 _ _ e1 h0 rfl)
            simp [pe, sP, va_up, hb]
    rw [e] at hP hD
    exact kk H1 locs1 ls ⟨hw.1, hP, hD, hS, hw.2.2.2.2⟩ hl
  have hk := hs.2 a ha
  simp only [List.mem_cons, List.not_mem_nil, or_false] at hk
  rcases hk with hk | hk | hk | hk | hk
  · exact fin 1 RX1 TX1 hk rfl in_1 tyX1 tyX1_ok nmX1 rfl rfl rfl
  · exact fin 2 RX2 TX2 hk rfl in_2 tyX2 tyX2_ok nmX2 rfl rfl rfl
  · exact fin 3 RX3 TX3 hk rfl in_3 tyX3 tyX3_ok nmX3 rfl rfl rfl
  · exact fin 4 RX5 TX5 hk rfl in_5 tyX5 tyX5_ok nmX5 rfl rfl rfl
  · exact fin 9 RX10 TX10 hk rfl in_10 tyX10 tyX10_ok nmX10 rfl rfl rfl
theorem m_callI (C : Cx p s m args c cc nL own) {y : MethodName} {bytes : ByteArray} {maxL fr lo mc ms n index : Nat} {As : List Value} {a : Nat} {Post : Option Value → Sg → Prop} (hM : Mc l G y bytes maxL none fr lo mc ms (.ref a :: As) σ Post) (hy : y.name = "<init>") (qc : Cond.code y bytes maxL none ∈ WA) (ql : Cond.methodLink own index y ∈ WA) (qi : Cond.instanceMethod y ∈ WA) (qn : Cond.initialized y.cls ∈ WA)
    (hd : y.cls ≠ "java/lang/invoke/MethodHandle" ∧ y.cls ≠ "java/lang/invoke/VarHandle" ∧ (parseMethodDescriptor y.desc).map (fun d => d.parameters.length) = some n) (hn : As.length = n) (hR : fr + 1 ≤ R.frames ∧ 8 + (maxL + 11) + lo ≤ R.locals) (hf : cells + mc ≤ R.cells ∧ slots + ms ≤ R.slots) {st0 : List Value} (hst : st0 = As.reverse ++ .ref a :: st) (hW : (st.map fun v => v.category).sum ≤ 8) (d : decode cc pc = .ok (.invokespecial index, 3))
    (kk : ∀ (r : Option Value) (τ : Sg), Post r τ → MW p l e R s m args below meth c Q nL G (cells + mc) (slots + ms) (pc + 3) L (r.toList ++ st) τ) : MW p l e R s m args below meth c Q nL G cells slots pc L st0 σ := by
  refine m_run C (mc := mc) (ms := ms) (rest := st) (a := (Value.ref a :: As).toArray) (fun H locs ls hw hl => ?_) kk
  have cb : CallB R s args own index y bytes maxL none (Cond.code y bytes maxL none :: WA) { frames := fr, cells := mc, slots := ms, locals := lo } mc ms n := callB_of n C.2.2.2.2 (wa_goodIn y bytes maxL none qc) rfl rfl rfl (C.2.2.2.2 _ qn) (C.2.2.2.2 _ ql) hd hR
  exact va_runI (As := As) (rest := st) C hM ⟨cb, hy, C.2.2.2.2 _ qi⟩ ⟨fun a U g mk q => ⟨q.1, q.2.blind g mk a⟩, fun U hU hW => ⟨rfl, hw.at hW hU⟩⟩ rfl hn hl.1 hst (lv_room hW) d hf
theorem gp_2s (C : Cx p s m args c cc nL own) {a : Nat} (hs : Ps σ) (ha : a ∈ σ.2.2.2.1) {index : Nat} (hq : Cond.fieldLink own index "LeanTower$Pilgrim" "pace" "I" ∈ WA) (hf : Cond.sameField "LeanTower$Pilgrim" "LeanTower$Person" "pace" "I" ∈ WA) (d : decode cc pc = .ok (.getfield index, 3)) (kk : MW p l e R s m args below meth c Q nL G cells slots (pc + 3) L (.int (σ.2.2.2.2.2 a 2) :: st) σ) : MW p l e R s m args below meth c Q nL G cells slots pc L (.ref a :: st) σ := fun H locs ls hw hl => by
  obtain ⟨q0, h0⟩ := wl_pat G σ ha
  have hk := hs.2 a ha
  simp only [List.mem_cons, List.not_mem_nil, or_false] at hk
  unfold pe at h0
  have hsm := u_same (C.2.2.2.2 _ hf)
  rcases hk with hk | hk | hk | hk | hk <;> rw [hk] at h0
  · exact va_get (ref := "LeanTower$Pilgrim") (C := RX1) (T := TX1) (N := 3) C.1 C.2.1 C.2.2.2.2 in_1 C.2.2.2.1 hw.1.1 hw.2.1 q0 h0 rfl 2 (by decide) (C.2.2.2.2 _ hq) hsm rfl d (kk H locs ls hw hl)
  · exact va_get (ref := "LeanTower$Pilgrim") (C := RX2) (T := TX2) (N := 3) C.1 C.2.1 C.2.2.2.2 in_2 C.2.2.2.1 hw.1.1 hw.2.1 q0 h0 rfl 2 (by decide) (C.2.2.2.2 _ hq) hsm rfl d (kk H locs ls hw hl)
  · exact va_get (ref := "LeanTower$Pilgrim") (C := RX3) (T := TX3) (N := 3) C.1 C.2.1 C.2.2.2.2 in_3 C.2.2.2.1 hw.1.1 hw.2.1 q0 h0 rfl 2 (by decide) (C.2.2.2.2 _ hq) hsm rfl d (kk H locs ls hw hl)
  · exact va_get (ref := "LeanTower$Pilgrim") (C := RX5) (T := TX5) (N := 3) C.1 C.2.1 C.2.2.2.2 in_5 C.2.2.2.1 hw.1.1 hw.2.1 q0 h0 rfl 2 (by decide) (C.2.2.2.2 _ hq) hsm rfl d (kk H locs ls hw hl)
  · exact va_get (ref := "LeanTower$Pilgrim") (C := RX10) (T := TX10) (N := 3) C.1 C.2.1 C.2.2.2.2 in_10 C.2.2.2.1 hw.1.1 hw.2.1 q0 h0 rfl 2 (by decide) (C.2.2.2.2 _ hq) hsm rfl d (kk H locs ls hw hl)
theorem m_objInit (C : Cx p s m args c cc nL own) {index a : Nat} (ql : Cond.methodLink own index objectInit ∈ WA) (qi : Cond.instanceMethod objectInit ∈ WA) (qc : Cond.code objectInit ⟨#[0xb1]⟩ 1 none ∈ WA) (hR : 1 ≤ R.frames ∧ (st.map fun v => v.category).sum + 12 ≤ R.locals) (_hf : True) (d : decode cc pc = .ok (.invokespecial index, 3)) (k : MW p l e R s m args below meth c Q nL G cells slots (pc + 3) L st σ) : MW p l e R s m args below meth c Q nL G cells slots pc L (.ref a :: st) σ := fun H locs ls hw hl => W.objInit C.1 C.2.1 C.2.2.2.1 (C.2.2.2.2 _ ql) (C.2.2.2.2 _ qi) (C.2.2.2.2 _ qc) rfl (hl.1.trans C.2.2.1.symm) rfl d hR.1 (by show 2 * 0 + _ + 12 ≤ _; have := hR.2; omega) (k H locs ls hw hl)
theorem Mc.ofN {y : MethodName} {maxL fr lo mc ms : Nat} {ret : Option FieldType} {av : List Value} {Post : Option Value → Sg → Prop} {L0 : List (Option Value)} (hy : plainName y.cls = true) (hlen : (lg_sl av).length ≤ maxL) (hL : lo_as 0 L0 = lv_args 0 av)
    (body : ∀ (p : Program) (e : Env) (s : State) (m : MethodId) (args : Array Value) (below : List Frame) (meth : Method) (c : Code), Cx p s m args c cc maxL y.cls → meth.sig.returnType = ret → meth.locks = false → meth.name = y.name → MW p l e { frames := fr, cells := mc, slots := ms, locals := lo } s m args below meth c (MQ below (QP G Post) args s mc ms (aG G)) maxL G 0 0 0 L0 [] σ) : Mc l G y cc maxL ret fr lo mc ms av σ Post := by
  refine Met.ofW (cc := cc) (maxL := maxL) (ret := ret) hy rfl ?_
  intro p e s m args below meth c s₁ B hml hv
  obtain ⟨rfl, hU⟩ := hv
  have hts := atoms_spec (ws := Cond.code y cc maxL ret :: WA) B.pre
  have hown : s.vm.findClass y.cls = some m.cls := findClass_of_methodNamed B.named
  have hb := body p e s m av.toArray below meth c ⟨B.exec, B.bytes, hml, hown, fun w hw => hts w (List.mem_cons_of_mem _ hw)⟩ B.returns B.notSynchronized (name_of_methodNamed B.named B.method).1
  have hl := lv_entry av hlen
  rw [lg_entry_eq]
  exact hb s.heap [] _ ⟨hU.1, hU.2.1, hU.2.2.1, va_S.rf, hU.2.2.2⟩ (by rw [lo_has, hL]; exact hl)
end PR2
