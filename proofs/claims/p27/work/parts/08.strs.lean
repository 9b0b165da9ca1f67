/-! ===== the texts ===== -/
section STR
variable {p : Program} {l : Launch} {e : Env} {R : Room} {s : State} {m : MethodId} {args : Array Value} {below : List Frame} {meth : Method} {c : Code} {cells slots : Nat} {Q : State → Prop} {cc : ByteArray} {nL : Nat} {own : String} {G : Gt} {σ : Sg} {pc : Nat} {L : List (Option Value)} {st : List Value}
theorem tx_all : ∀ w, w < 8 → 3 ≤ tx_len.getD w 0 ∧ tx_len.getD w 0 ≤ 7 := by decide
theorem s_value (C : Cx p s m args c cc nL own) {w : Nat} (hw8 : w < 8) {index : Nat} (hq : Cond.fieldLink own index "java/lang/String" "value" "[B" ∈ WA) (d : decode cc pc = .ok (.getfield index, 3)) (kk : MW p l e R s m args below meth c Q nL G cells slots (pc + 3) L (.ref (G.2.2.2.2.2 w) :: st) σ) : MW p l e R s m args below meth c Q nL G cells slots pc L (.ref (G.2.2.2.2.1 w) :: st) σ := fun H locs ls hw hl => vk_getf (hE := (hw.1.2.1.1 w hw8).2.2.1) (hS := hw.2.2.2.1) C.1 C.2.1 C.2.2.2.1 (C.2.2.2.2 _ hq) (fun _ h => h) d (kk H locs ls hw hl)
theorem s_coder (C : Cx p s m args c cc nL own) {w : Nat} (hw8 : w < 8) {index : Nat} (hq : Cond.fieldLink own index "java/lang/String" "coder" "B" ∈ WA) (d : decode cc pc = .ok (.getfield index, 3)) (kk : MW p l e R s m args below meth c Q nL G cells slots (pc + 3) L (.int 0 :: st) σ) : MW p l e R s m args below meth c Q nL G cells slots pc L (.ref (G.2.2.2.2.1 w) :: st) σ := fun H locs ls hw hl => vk_getf (hE := (hw.1.2.1.1 w hw8).2.1) (hS := hw.2.2.2.1) C.1 C.2.1 C.2.2.2.1 (C.2.2.2.2 _ hq) (fun _ h => h) d (kk H locs ls hw hl)
theorem s_compact (C : Cx p s m args c cc nL own) {index : Nat} (hq : Cond.fieldLink own index "java/lang/String" "COMPACT_STRINGS" "Z" ∈ WA) (d : decode cc pc = .ok (.getstatic index, 3)) (kk : MW p l e R s m args below meth c Q nL G cells slots (pc + 3) L (.int 1 :: st) σ) : MW p l e R s m args below meth c Q nL G cells slots pc L st σ := fun H locs ls hw hl => va_gets C.1 C.2.1 hw.1.2.2.2.1 hw.2.2.2.1 C.2.2.2.1 (C.2.2.2.2 _ hq) (fun _ h => h) d (kk H locs ls hw hl)
theorem s_fmt (C : Cx p s m args c cc nL own) {index : Nat} (hq : Cond.fieldLink own index "jdk/internal/util/Preconditions" "SIOOBE_FORMATTER" "Ljava/util/function/BiFunction;" ∈ WA) (d : decode cc pc = .ok (.getstatic index, 3)) (kn : MW p l e R s m args below meth c Q nL G cells slots (pc + 3) L (.null :: st) σ) (kk : ∀ x : Nat, MW p l e R s m args below meth c Q nL G cells slots (pc + 3) L (.ref x :: st) σ) : MW p l e R s m args below meth c Q nL G cells slots pc L st σ := fun H locs ls hw hl => by
  rcases hw.1.2.2.2.2.2.2.2 with h | ⟨x, h⟩
  · exact va_gets C.1 C.2.1 h hw.2.2.2.1 C.2.2.2.1 (C.2.2.2.2 _ hq) (fun _ h => h) d (kn H locs ls hw hl)
  · exact va_gets C.1 C.2.1 h hw.2.2.2.1 C.2.2.2.1 (C.2.2.2.2 _ hq) (fun _ h => h) d (kk x H locs ls hw hl)
theorem s_len (C : Cx p s m args c cc nL own) {w : Nat} (hw8 : w < 8) (d : decode cc pc = .ok (.arraylength, 1)) (kk : ∀ x : Int32, x.toInt = (tx_len.getD w 0 : Int) → MW p l e R s m args below meth c Q nL G cells slots (pc + 1) L (.int x :: st) σ) : MW p l e R s m args below meth c Q nL G cells slots pc L (.ref (G.2.2.2.2.2 w) :: st) σ := fun H locs ls hw hl => va_tlen C.1 C.2.1 (hw.1.2.1.1 w hw8).2.2.2 hw.2.2.2.1 rfl d (kk _ (nI_toInt (by have := tx_all w hw8; omega)) H locs ls hw hl)
theorem s_at (C : Cx p s m args c cc nL own) {w : Nat} (hw8 : w < 8) {i : Int32} (hi : 0 ≤ i.toInt ∧ i.toInt < (tx_len.getD w 0 : Int)) (d : decode cc pc = .ok (.baload, 1)) (kk : MW p l e R s m args below meth c Q nL G cells slots (pc + 1) L (.int ((tx_byt.getD w []).getD i.toInt.toNat 0) :: st) σ) : MW p l e R s m args below meth c Q nL G cells slots pc L (.int i :: .ref (G.2.2.2.2.2 w) :: st) σ := fun H locs ls hw hl => va_tb C.1 C.2.1 (hw.1.2.1.1 w hw8).2.2.2 hw.2.2.2.1 (ivIn hi) rfl d (kk H locs ls hw hl)
theorem s_ldc (C : Cx p s m args c cc nL own) (hown : own = RX6) {w index : Nat} {tx : String} (hw8 : w < 8) (hi : tx_idx.getD w 0 = index) (d : decode cc pc = .ok (.ldc index, 2)) (kk : MW p l e R s m args below meth c Q nL G cells slots (pc + 2) L (.ref (G.2.2.2.2.1 w) :: st) σ) : MW p l e R s m args below meth c Q nL G cells slots pc L st σ := fun H locs ls hw hl => by
  subst hi
  have h := hw.1.2.2.1 w hw8
  rw [← hown] at h
  exact va_ldcS C.1 C.2.1 C.2.2.2.1 h d (kk H locs ls hw hl)
theorem m_callK (C : Cx p s m args c cc nL own) {y : MethodName} {bytes : ByteArray} {maxL fr lo mc ms n index : Nat} {ret : Option FieldType} {As : List Value} {w : Nat} {Post : Option Value → Sg → Prop} (hM : Mc l G y bytes maxL ret fr lo mc ms (.ref (G.2.2.2.2.1 w) :: As) σ Post)
    (hw8 : w < 8) (hy : y.cls = "java/lang/String") (qc : Cond.code y bytes maxL ret ∈ WA) (ql : Cond.methodLink own index y ∈ WA) (qi : Cond.instanceMethod y ∈ WA) (qs : Cond.selects y.cls y y ∈ WA) (qn : Cond.initialized y.cls ∈ WA)
    (hd : y.cls ≠ "java/lang/invoke/MethodHandle" ∧ y.cls ≠ "java/lang/invoke/VarHandle" ∧ (parseMethodDescriptor y.desc).map (fun d => d.parameters.length) = some n) (hn : As.length = n) (hR : fr + 1 ≤ R.frames ∧ 8 + (maxL + 11) + lo ≤ R.locals) (hf : cells + mc ≤ R.cells ∧ slots + ms ≤ R.slots) {st0 : List Value} (hst : st0 = As.reverse ++ .ref (G.2.2.2.2.1 w) :: st) (hW : (st.map fun v => v.category).sum ≤ 8) (d : decode cc pc = .ok (.invokevirtual index, 3))
    (kk : ∀ (r : Option Value) (τ : Sg), Post r τ → MW p l e R s m args below meth c Q nL G (cells + mc) (slots + ms) (pc + 3) L (r.toList ++ st) τ) : MW p l e R s m args below meth c Q nL G cells slots pc L st0 σ := by
  refine m_run C (mc := mc) (ms := ms) (rest := st) (a := (Value.ref (G.2.2.2.2.1 w) :: As).toArray) (fun H locs ls hw hl => ?_) kk
  have cb : CallB R s args own index y bytes maxL ret (Cond.code y bytes maxL ret :: WA) { frames := fr, cells := mc, slots := ms, locals := lo } mc ms n := callB_of n C.2.2.2.2 (wa_goodIn y bytes maxL ret qc) rfl rfl rfl (C.2.2.2.2 _ qn) (C.2.2.2.2 _ ql) hd hR
  exact va_runV (As := As) (rest := st) (C := y.cls) C hM ⟨cb, C.2.2.2.2 _ qi, C.2.2.2.2 _ qs⟩ ⟨fun a U g mk q => ⟨q.1, q.2.blind g mk a⟩, by rw [hy]; exact vk_recv hw.1.2.1 hw8 hw.2.2.2.1, fun U hU hW => ⟨rfl, hw.at hW hU⟩⟩ rfl hn hl.1 hst (lv_room hW) d hf
theorem m_alen (C : Cx p s m args c cc nL own) {t j n : Nat} {v : Int32} (ht : t < 32) (hj : j < nj t) (hce : ∀ τ : Sg, ce G τ t j = .inl (G.2.2.1 0, n, .inl (τ.1 t j))) (hv : Int32.ofNat n = v) (d : decode cc pc = .ok (.arraylength, 1)) (kk : MW p l e R s m args below meth c Q nL G cells slots (pc + 1) L (.int v :: st) σ) : MW p l e R s m args below meth c Q nL G cells slots pc L (.ref (G.1 t j) :: st) σ := fun H locs ls hw hl => by
  obtain ⟨q0, h0, -⟩ := wl_at G σ ht hj
  rw [hce] at h0
  exact va_alen C.1 C.2.1 hw.1.1 hw.2.1 q0 0 h0 rfl hv d (kk H locs ls hw hl)
theorem m_widen {c2 s2 : Nat} (h1 : cells ≤ c2) (h2 : slots ≤ s2) (k : MW p l e R s m args below meth c Q nL G c2 s2 pc L st σ) : MW p l e R s m args below meth c Q nL G cells slots pc L st σ := fun H locs ls hw hl => W.widen h1 h2 (k H locs ls hw hl)
theorem ti_shr0 {x y z : Int32} (e : z = x >>> (y &&& 31)) (hy : y.toInt = 0) : z.toInt = x.toInt := by
  have h0 : y = 0 := by rw [ti_eq, hy]; decide
  subst h0
  rw [e, pk_shr x _ 0 (by decide)]
  simp
theorem iv_div {x y : Int32} {a b c hi : Int} (hx : IV x a b) (hy : IV y c c) (h : 0 ≤ a ∧ 0 < c ∧ b / c ≤ hi) : IV (x / y) 0 hi := by
  obtain ⟨h1, h2, h3⟩ := h
  obtain ⟨x1, x2⟩ := hx
  obtain ⟨y1, y2⟩ := hy
  have e0 : (0 : Int32).toInt = 0 := by decide
  have hx0 : ¬ x < 0 := by rw [ti_nlt]; omega
  have hy0 : ¬ y < 0 := by rw [ti_nlt]; omega
  obtain ⟨i, hi', rfl⟩ := nI_of hx0
  obtain ⟨j, hj, rfl⟩ := nI_of hy0
  rw [nI_toInt hj] at y1 y2
  rw [nI_toInt hi'] at x1 x2
  have hle : i / j ≤ i := Nat.div_le_self i j
  rw [pk_div hi' (by omega) hj, IV, nI_toInt (by omega)]
  have hc : c = (j : Int) := by omega
  subst hc
  have hm : ((i / j : Nat) : Int) ≤ b / (j : Int) := by
    rw [Int.natCast_ediv]
    exact Int.ediv_le_ediv (by omega) x2
  exact ⟨Int.natCast_nonneg _, Int.le_trans hm h3⟩
end STR
