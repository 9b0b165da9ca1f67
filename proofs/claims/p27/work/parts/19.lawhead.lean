/-! THE CLAIM OUT OF ONE WALK OF THE LAW'S BODY. Your part is whole_start (and what it stands on); all else here is the same for every law, but numbers. -/
def R_law : String := "LeanTowerLaw"
def lw_P (b : Addr) (xs : List Int32) (args : Array Value) (s : State) : Prop := args = #[.ref b] ∧ s.IntsAt b xs ∧ xs.length ≤ 3072 ∧ (Jvm.Cond.and given_1 narrow_1).before args s = true
def lw_Q (_ : Array Value) (s : State) (o : Outcome) (t : State) : Prop := o = .returned (some (.int 1)) ∧ Framed s o t [] 600000 7302250
def lw_Z (below : List Frame) (a : Array Value) (s : State) : State → Prop := fun t => ∃ o, t.status = .running ∧ Ended t below o ∧ lw_Q a s o t
/-- the law's own end, with 1 on the stack, nothing written that was there before, its room as the claim has it -/
theorem lw_ret {p : Program} {l : Launch} {e : Env} {s : State} {m : MethodId} {below : List Frame} {meth : Method} {c : Code} {b : Nat} (hx : p.tables.exec = Jvm.exec) (hb : c.code = code) (hr : meth.sig.returnType = ret) (hlocks : meth.locks = false) {pc : Nat} {H : Heap} {ls : Array Slot} (hdg : decode code pc = .ok (.ireturn, 1)) : W p l e room_1 s m #[Value.ref b] below meth c H [] 600000 7302250 (lw_Z below #[Value.ref b] s) (F0 m pc ls [.int 1]) := by
  intro T hT X
  obtain ⟨fs, hret, hrun, hended, hW, hframe⟩ := X.leave (v := some (.int 1)) (hlocks := hlocks) (fun h => by rw [hr] at h; cases h)
  have hmeth' : T.vm.method? m = some meth := X.method'
  refine ⟨T.setFrames fs, ?_, .returned (some (.int 1)), hrun, hended, rfl, ⟨_, rfl⟩, hW, hframe⟩
  jvm_step X.here [X.here.top, hx, hb, hdg, hmeth', hr, ret, narrow_b1]
  (try refine ⟨rfl, ?_⟩); (try refine ⟨rfl, ?_⟩)
  first | (intro acts; rw [hret _ acts rfl rfl rfl]) | rw [hret _ _ rfl rfl rfl]
  exact Steps.refl _
/-- what holds at the law's entry: the machine, the code, the tables' words (any of lw_tbl by 'hts w (by decide +kernel)'), the script of L ints xs at the cell b, what the Statement gives of the start (any of its parts by flat_of_before) -/
def lw_At (p : Program) (s : State) (m : MethodId) (meth : Method) (c : Code) (b L : Nat) (xs : Nat → Int32) : Prop :=
  p.tables.exec = Jvm.exec ∧ c.code = code ∧ meth.sig.returnType = ret ∧ c.maxLocals = 4 ∧ s.vm.findClass R_law = some m.cls ∧ (∀ w ∈ lw_tbl, w.before #[Value.ref b] s = true) ∧ va_X b L xs s s.heap ∧ b < s.heap.size ∧ meth.locks = false ∧ (Jvm.Cond.and given_1 narrow_1).before #[Value.ref b] s = true
section LWR
variable {p : Program} {l : Launch} {e : Env} {R : Room} {s : State} {m : MethodId} {args : Array Value} {below : List Frame} {meth : Method} {c : Code} {cells slots : Nat} {Q : State → Prop} {cc : ByteArray} {nL : Nat} {own : String} {G : Gt} {σ : Sg} {pc : Nat} {L : List (Option Value)} {st : List Value}
theorem m_slen (C : Cx p s m args c cc nL own) {b N : Nat} {xs : Nat → Int32} (hX : va_X b N xs s s.heap) (hbl : b < s.heap.size) (hbA : ¬ aG G b) (hN : N < 2 ^ 31) (d : decode cc pc = .ok (.arraylength, 1)) (kk : ∀ x : Int32, x.toInt = (N : Int) → MW p l e R s m args below meth c Q nL G cells slots (pc + 1) L (.int x :: st) σ) : MW p l e R s m args below meth c Q nL G cells slots pc L (.ref b :: st) σ := fun H locs ls hw hl => va_slen C.1 C.2.1 hX hbl hbA hw.2.2.2.1 d (kk _ (nI_toInt hN) H locs ls hw hl)
theorem m_sld (C : Cx p s m args c cc nL own) {b N : Nat} {xs : Nat → Int32} (hX : va_X b N xs s s.heap) (hbl : b < s.heap.size) (hbA : ¬ aG G b) {i : Int32} (hi : 0 ≤ i.toInt ∧ i.toInt < (N : Int)) (d : decode cc pc = .ok (.iaload, 1)) (kk : MW p l e R s m args below meth c Q nL G cells slots (pc + 1) L (.int (xs i.toInt.toNat) :: st) σ) : MW p l e R s m args below meth c Q nL G cells slots pc L (.int i :: .ref b :: st) σ := fun H locs ls hw hl => va_sld C.1 C.2.1 hX hbl hbA hw.2.2.2.1 (ivIn hi) d (kk H locs ls hw hl)
theorem m_lshl (C : Cx p s m args c cc nL own) {x : Int64} {y : Int32} (d : decode cc pc = .ok (.lshl, 1)) (k : MW p l e R s m args below meth c Q nL G cells slots (pc + 1) L (.long (x <<< (y.toInt64 &&& 63)) :: st) σ) : MW p l e R s m args below meth c Q nL G cells slots pc L (.int y :: .long x :: st) σ := fun H locs ls hw hl => lv_lshl C.1 C.2.1 d rfl (k H locs ls hw hl)
/-- the law's end -/
theorem m_law1 {b : Nat} (C : Cx p s m #[Value.ref b] c code 4 own) (hG0 : G.2.2.2.1 = s.heap.size) (hr : meth.sig.returnType = ret) (hlk : meth.locks = false) (hc : cells ≤ 600000 ∧ slots ≤ 7302250) (d : decode code pc = .ok (.ireturn, 1)) : MW p l e room_1 s m #[Value.ref b] below meth c (lw_Z below #[Value.ref b] s) nL G cells slots pc L [.int 1] σ := fun H locs ls hw hl => by
  refine va_forget (fun q hq => by have := hw.2.2.2.1.2.2 q hq; unfold aG at this; omega) ?_
  refine W.widen (k := 600000) (n := 7302250) hc.1 hc.2 ?_
  exact lw_ret C.1 C.2.1 hr hlk d
end LWR
