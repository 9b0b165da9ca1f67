/-! ===== instanceof ===== -/
section INS
variable {p : Program} {l : Launch} {e : Env} {R : Room} {s : State} {m : MethodId} {args : Array Value} {below : List Frame} {meth : Method} {c : Code} {cells slots : Nat} {Q : State → Prop} {cc : ByteArray} {nL : Nat} {own : String} {G : Gt} {σ : Sg} {pc : Nat} {L : List (Option Value)} {st : List Value}
theorem m_inst_5 (C : Cx p s m args c cc nL own) {a index : Nat} (hs : Ps σ) (ha : a ∈ σ.2.2.2.1) (hq : Cond.classLink own index RX5 ∈ WA) (d : decode cc pc = .ok (.instanceof index, 3)) (kk : ∀ v : Int32, IV v 0 1 → MW p l e R s m args below meth c Q nL G cells slots (pc + 3) L (.int v :: st) σ) : MW p l e R s m args below meth c Q nL G cells slots pc L (.ref a :: st) σ := fun H locs ls hw hl => by
  have hk := hs.2 a ha
  have kc0 : IV 0 0 1 := by decide
  have kc1 : IV 1 0 1 := by decide
  simp only [List.mem_cons, List.not_mem_nil, or_false] at hk
  rcases hk with hk | hk | hk | hk | hk
  · exact va_instNo (C := RX1) C.1 C.2.1 C.2.2.2.1 (C.2.2.2.2 _ hq) (hw.1.2.2.2.2.1 (RX1, RX5) (by decide)) (p_recv hw ha hk rfl) d (kk 0 kc0 H locs ls hw hl)
  · exact va_instY (C := RX2) C.1 C.2.1 C.2.2.2.1 (C.2.2.2.2 _ hq) (hw.1.2.2.2.2.2.1 (RX2, RX5) (by decide)) (p_recv hw ha hk rfl) d (kk 1 kc1 H locs ls hw hl)
  · exact va_instNo (C := RX3) C.1 C.2.1 C.2.2.2.1 (C.2.2.2.2 _ hq) (hw.1.2.2.2.2.1 (RX3, RX5) (by decide)) (p_recv hw ha hk rfl) d (kk 0 kc0 H locs ls hw hl)
  · exact va_instS C.1 C.2.1 C.2.2.2.1 (C.2.2.2.2 _ hq) (hw.1.1.1 4 _ rfl).2 (p_recv hw ha hk rfl) d (kk 1 kc1 H locs ls hw hl)
  · exact va_instY (C := RX10) C.1 C.2.1 C.2.2.2.1 (C.2.2.2.2 _ hq) (hw.1.2.2.2.2.2.1 (RX10, RX5) (by decide)) (p_recv hw ha hk rfl) d (kk 1 kc1 H locs ls hw hl)

theorem m_inst_10 (C : Cx p s m args c cc nL own) {a index : Nat} (hs : Ps σ) (ha : a ∈ σ.2.2.2.1) (hq : Cond.classLink own index RX10 ∈ WA) (d : decode cc pc = .ok (.instanceof index, 3)) (kk : ∀ v : Int32, IV v 0 1 → MW p l e R s m args below meth c Q nL G cells slots (pc + 3) L (.int v :: st) σ) : MW p l e R s m args below meth c Q nL G cells slots pc L (.ref a :: st) σ := fun H locs ls hw hl => by
  have hk := hs.2 a ha
  have kc0 : IV 0 0 1 := by decide
  have kc1 : IV 1 0 1 := by decide
  simp only [List.mem_cons, List.not_mem_nil, or_false] at hk
  rcases hk with hk | hk | hk | hk | hk
  · exact va_instNo (C := RX1) C.1 C.2.1 C.2.2.2.1 (C.2.2.2.2 _ hq) (hw.1.2.2.2.2.1 (RX1, RX10) (by decide)) (p_recv hw ha hk rfl) d (kk 0 kc0 H locs ls hw hl)
  · exact va_instNo (C := RX2) C.1 C.2.1 C.2.2.2.1 (C.2.2.2.2 _ hq) (hw.1.2.2.2.2.1 (RX2, RX10) (by decide)) (p_recv hw ha hk rfl) d (kk 0 kc0 H locs ls hw hl)
  · exact va_instNo (C := RX3) C.1 C.2.1 C.2.2.2.1 (C.2.2.2.2 _ hq) (hw.1.2.2.2.2.1 (RX3, RX10) (by decide)) (p_recv hw ha hk rfl) d (kk 0 kc0 H locs ls hw hl)
  · exact va_instNo (C := RX5) C.1 C.2.1 C.2.2.2.1 (C.2.2.2.2 _ hq) (hw.1.2.2.2.2.1 (RX5, RX10) (by decide)) (p_recv hw ha hk rfl) d (kk 0 kc0 H locs ls hw hl)
  · exact va_instS C.1 C.2.1 C.2.2.2.1 (C.2.2.2.2 _ hq) (hw.1.1.1 9 _ rfl).2 (p_recv hw ha hk rfl) d (kk 1 kc1 H locs ls hw hl)

theorem m_inst_2 (C : Cx p s m args c cc nL own) {a index : Nat} (hs : Ps σ) (ha : a ∈ σ.2.2.2.1) (hq : Cond.classLink own index RX2 ∈ WA) (d : decode cc pc = .ok (.instanceof index, 3)) (kk : ∀ v : Int32, IV v 0 1 → MW p l e R s m args below meth c Q nL G cells slots (pc + 3) L (.int v :: st) σ) : MW p l e R s m args below meth c Q nL G cells slots pc L (.ref a :: st) σ := fun H locs ls hw hl => by
  have hk := hs.2 a ha
  have kc0 : IV 0 0 1 := by decide
  have kc1 : IV 1 0 1 := by decide
  simp only [List.mem_cons, List.not_mem_nil, or_false] at hk
  rcases hk with hk | hk | hk | hk | hk
  · exact va_instNo (C := RX1) C.1 C.2.1 C.2.2.2.1 (C.2.2.2.2 _ hq) (hw.1.2.2.2.2.1 (RX1, RX2) (by decide)) (p_recv hw ha hk rfl) d (kk 0 kc0 H locs ls hw hl)
  · exact va_instS C.1 C.2.1 C.2.2.2.1 (C.2.2.2.2 _ hq) (hw.1.1.1 2 _ rfl).2 (p_recv hw ha hk rfl) d (kk 1 kc1 H locs ls hw hl)
  · exact va_instNo (C := RX3) C.1 C.2.1 C.2.2.2.1 (C.2.2.2.2 _ hq) (hw.1.2.2.2.2.1 (RX3, RX2) (by decide)) (p_recv hw ha hk rfl) d (kk 0 kc0 H locs ls hw hl)
  · exact va_instNo (C := RX5) C.1 C.2.1 C.2.2.2.1 (C.2.2.2.2 _ hq) (hw.1.2.2.2.2.1 (RX5, RX2) (by decide)) (p_recv hw ha hk rfl) d (kk 0 kc0 H locs ls hw hl)
  · exact va_instNo (C := RX10) C.1 C.2.1 C.2.2.2.1 (C.2.2.2.2 _ hq) (hw.1.2.2.2.2.1 (RX10, RX2) (by decide)) (p_recv hw ha hk rfl) d (kk 0 kc0 H locs ls hw hl)

theorem m_inst_3 (C : Cx p s m args c cc nL own) {a index : Nat} (hs : Ps σ) (ha : a ∈ σ.2.2.2.1) (hq : Cond.classLink own index RX3 ∈ WA) (d : decode cc pc = .ok (.instanceof index, 3)) (kk : ∀ v : Int32, IV v 0 1 → MW p l e R s m args below meth c Q nL G cells slots (pc + 3) L (.int v :: st) σ) : MW p l e R s m args below meth c Q nL G cells slots pc L (.ref a :: st) σ := fun H locs ls hw hl => by
  have hk := hs.2 a ha
  have kc0 : IV 0 0 1 := by decide
  have kc1 : IV 1 0 1 := by decide
  simp only [List.mem_cons, List.not_mem_nil, or_false] at hk
  rcases hk with hk | hk | hk | hk | hk
  · exact va_instY (C := RX1) C.1 C.2.1 C.2.2.2.1 (C.2.2.2.2 _ hq) (hw.1.2.2.2.2.2.1 (RX1, RX3) (by decide)) (p_recv hw ha hk rfl) d (kk 1 kc1 H locs ls hw hl)
  · exact va_instNo (C := RX2) C.1 C.2.1 C.2.2.2.1 (C.2.2.2.2 _ hq) (hw.1.2.2.2.2.1 (RX2, RX3) (by decide)) (p_recv hw ha hk rfl) d (kk 0 kc0 H locs ls hw hl)
  · exact va_instS C.1 C.2.1 C.2.2.2.1 (C.2.2.2.2 _ hq) (hw.1.1.1 3 _ rfl).2 (p_recv hw ha hk rfl) d (kk 1 kc1 H locs ls hw hl)
  · exact va_instNo (C := RX5) C.1 C.2.1 C.2.2.2.1 (C.2.2.2.2 _ hq) (hw.1.2.2.2.2.1 (RX5, RX3) (by decide)) (p_recv hw ha hk rfl) d (kk 0 kc0 H locs ls hw hl)
  · exact va_instNo (C := RX10) C.1 C.2.1 C.2.2.2.1 (C.2.2.2.2 _ hq) (hw.1.2.2.2.2.1 (RX10, RX3) (by decide)) (p_recv hw ha hk rfl) d (kk 0 kc0 H locs ls hw hl)

theorem m_inst_1 (C : Cx p s m args c cc nL own) {a index : Nat} (hs : Ps σ) (ha : a ∈ σ.2.2.2.1) (hq : Cond.classLink own index RX1 ∈ WA) (d : decode cc pc = .ok (.instanceof index, 3)) (kk : ∀ v : Int32, IV v 0 1 → MW p l e R s m args below meth c Q nL G cells slots (pc + 3) L (.int v :: st) σ) : MW p l e R s m args below meth c Q nL G cells slots pc L (.ref a :: st) σ := fun H locs ls hw hl => by
  have hk := hs.2 a ha
  have kc0 : IV 0 0 1 := by decide
  have kc1 : IV 1 0 1 := by decide
  simp only [List.mem_cons, List.not_mem_nil, or_false] at hk
  rcases hk with hk | hk | hk | hk | hk
  · exact va_instS C.1 C.2.1 C.2.2.2.1 (C.2.2.2.2 _ hq) (hw.1.1.1 1 _ rfl).2 (p_recv hw ha hk rfl) d (kk 1 kc1 H locs ls hw hl)
  · exact va_instNo (C := RX2) C.1 C.2.1 C.2.2.2.1 (C.2.2.2.2 _ hq) (hw.1.2.2.2.2.1 (RX2, RX1) (by decide)) (p_recv hw ha hk rfl) d (kk 0 kc0 H locs ls hw hl)
  · exact va_instNo (C := RX3) C.1 C.2.1 C.2.2.2.1 (C.2.2.2.2 _ hq) (hw.1.2.2.2.2.1 (RX3, RX1) (by decide)) (p_recv hw ha hk rfl) d (kk 0 kc0 H locs ls hw hl)
  · exact va_instNo (C := RX5) C.1 C.2.1 C.2.2.2.1 (C.2.2.2.2 _ hq) (hw.1.2.2.2.2.1 (RX5, RX1) (by decide)) (p_recv hw ha hk rfl) d (kk 0 kc0 H locs ls hw hl)
  · exact va_instNo (C := RX10) C.1 C.2.1 C.2.2.2.1 (C.2.2.2.2 _ hq) (hw.1.2.2.2.2.1 (RX10, RX1) (by decide)) (p_recv hw ha hk rfl) d (kk 0 kc0 H locs ls hw hl)

end INS
