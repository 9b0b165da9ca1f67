/-! ===== who is of which kind ===== -/
theorem StC.null {σ : Sg} {j : Nat} {S : Stt} {a : Int32} (h : StC σ j S) (e : (a.toInt < 0 ∨ (gV σ 1 j 2).toInt ≤ a.toInt) ∨ σ.2.1 j a.toInt.toNat = none) : a.toInt < 0 ∨ S.2.1 ≤ a.toInt := by
  rcases e with e | e
  · rw [h.2.2.1] at e
    exact e
  · by_cases g : a.toInt < 0 ∨ S.2.1 ≤ a.toInt
    · exact g
    · obtain ⟨b, b1, _⟩ := h.2.2.2 a.toInt.toNat (by omega)
      rw [e] at b1
      exact absurd b1 (by simp)
theorem StC.who {σ : Sg} {j q : Nat} {S : Stt} {a : Int32} (h : StC σ j S) (h0 : 0 ≤ a.toInt) (h1 : a.toInt < (gV σ 1 j 2).toInt) (e : σ.2.1 j a.toInt.toNat = some q) : a.toInt < S.2.1 ∧ PeC σ q a.toInt.toNat (S.2.2 a.toInt.toNat) := by
  rw [h.2.2.1] at h1
  refine ⟨h1, ?_⟩
  obtain ⟨b, b1, b2⟩ := h.2.2.2 a.toInt.toNat (by omega)
  rw [e] at b1
  cases b1
  exact b2
/-- what a tower tells of a person is as the document says -/
def StV (S : Stt) : Prop := ∀ i : Nat, (i : Int) < S.2.1 → (1 ≤ (S.2.2 i).1 ∧ (S.2.2 i).1 ≤ 5) ∧ (0 ≤ (S.2.2 i).2.1 ∧ (S.2.2 i).2.1 ≤ 40) ∧ (1 ≤ (S.2.2 i).2.2 ∧ (S.2.2 i).2.2 ≤ 4)
/-- own kind and another: is he that one? -/
def isK (k w : Int) : Prop := w = 0 ∨ k = w ∨ (w = 1 ∧ k ≤ 3) ∨ (w = 4 ∧ k = 5)
theorem kdF_b (c : Nat) : 1 ≤ kdF c ∧ kdF c ≤ 5 := by
  unfold kdF
  repeat' split
  all_goals decide
/-! ===== instanceof, exactly ===== -/
section INSE
variable {p : Program} {l : Launch} {e : Env} {R : Room} {s : State} {m : MethodId} {args : Array Value} {below : List Frame} {meth : Method} {c : Code} {cells slots : Nat} {Q : State → Prop} {cc : ByteArray} {nL : Nat} {own : String} {G : Gt} {σ : Sg} {pc : Nat} {L : List (Option Value)} {st : List Value}
theorem m_instE_5 (C : Cx p s m args c cc nL own) {a index : Nat} (hs : Ps σ) (ha : a ∈ σ.2.2.2.1) (hq : Cond.classLink own index RX5 ∈ WA) (d : decode cc pc = .ok (.instanceof index, 3)) (kk : ∀ v : Int32, IV v 0 1 → ((v.toInt = 1 ∧ kdF (σ.2.2.2.2.1 a) ≤ 3) ∨ (v.toInt = 0 ∧ 4 ≤ kdF (σ.2.2.2.2.1 a))) → MW p l e R s m args below meth c Q nL G cells slots (pc + 3) L (.int v :: st) σ) : MW p l e R s m args below meth c Q nL G cells slots pc L (.ref a :: st) σ := fun H locs ls hw hl => by
  have hk := hs.2 a ha
  have kc0 : IV 0 0 1 := by decide
  have kc1 : IV 1 0 1 := by decide
  simp only [List.mem_cons, List.not_mem_nil, or_false] at hk
  rcases hk with hk | hk | hk | hk | hk
  · exact va_instNo (C := RX1) C.1 C.2.1 C.2.2.2.1 (C.2.2.2.2 _ hq) (hw.1.2.2.2.2.1 (RX1, RX5) (by decide)) (p_recv hw ha hk rfl) d (kk 0 kc0 (Or.inr ⟨kt_0, by rw [hk]; decide⟩) H locs ls hw hl)
  · exact va_instY (C := RX2) C.1 C.2.1 C.2.2.2.1 (C.2.2.2.2 _ hq) (hw.1.2.2.2.2.2.1 (RX2, RX5) (by decide)) (p_recv hw ha hk rfl) d (kk 1 kc1 (Or.inl ⟨kt_1, by rw [hk]; decide⟩) H locs ls hw hl)
  · exact va_instNo (C := RX3) C.1 C.2.1 C.2.2.2.1 (C.2.2.2.2 _ hq) (hw.1.2.2.2.2.1 (RX3, RX5) (by decide)) (p_recv hw ha hk rfl) d (kk 0 kc0 (Or.inr ⟨kt_0, by rw [hk]; decide⟩) H locs ls hw hl)
  · exact va_instS C.1 C.2.1 C.2.2.2.1 (C.2.2.2.2 _ hq) (hw.1.1.1 4 _ rfl).2 (p_recv hw ha hk rfl) d (kk 1 kc1 (Or.inl ⟨kt_1, by rw [hk]; decide⟩) H locs ls hw hl)
  · exact va_instY (C := RX10) C.1 C.2.1 C.2.2.2.1 (C.2.2.2.2 _ hq) (hw.1.2.2.2.2.2.1 (RX10, RX5) (by decide)) (p_recv hw ha hk rfl) d (kk 1 kc1 (Or.inl ⟨kt_1, by rw [hk]; decide⟩) H locs ls hw hl)

theorem m_instE_10 (C : Cx p s m args c cc nL own) {a index : Nat} (hs : Ps σ) (ha : a ∈ σ.2.2.2.1) (hq : Cond.classLink own index RX10 ∈ WA) (d : decode cc pc = .ok (.instanceof index, 3)) (kk : ∀ v : Int32, IV v 0 1 → ((v.toInt = 1 ∧ kdF (σ.2.2.2.2.1 a) = 2) ∨ (v.toInt = 0 ∧ kdF (σ.2.2.2.2.1 a) ≠ 2)) → MW p l e R s m args below meth c Q nL G cells slots (pc + 3) L (.int v :: st) σ) : MW p l e R s m args below meth c Q nL G cells slots pc L (.ref a :: st) σ := fun H locs ls hw hl => by
  have hk := hs.2 a ha
  have kc0 : IV 0 0 1 := by decide
  have kc1 : IV 1 0 1 := by decide
  simp only [List.mem_cons, List.not_mem_nil, or_false] at hk
  rcases hk with hk | hk | hk | hk | hk
  · exact va_instNo (C := RX1) C.1 C.2.1 C.2.2.2.1 (C.2.2.2.2 _ hq) (hw.1.2.2.2.2.1 (RX1, RX10) (by decide)) (p_recv hw ha hk rfl) d (kk 0 kc0 (Or.inr ⟨kt_0, by rw [hk]; decide⟩) H locs ls hw hl)
  · exact va_instNo (C := RX2) C.1 C.2.1 C.2.2.2.1 (C.2.2.2.2 _ hq) (hw.1.2.2.2.2.1 (RX2, RX10) (by decide)) (p_recv hw ha hk rfl) d (kk 0 kc0 (Or.inr ⟨kt_0, by rw [hk]; decide⟩) H locs ls hw hl)
  · exact va_instNo (C := RX3) C.1 C.2.1 C.2.2.2.1 (C.2.2.2.2 _ hq) (hw.1.2.2.2.2.1 (RX3, RX10) (by decide)) (p_recv hw ha hk rfl) d (kk 0 kc0 (Or.inr ⟨kt_0, by rw [hk]; decide⟩) H locs ls hw hl)
  · exact va_instNo (C := RX5) C.1 C.2.1 C.2.2.2.1 (C.2.2.2.2 _ hq) (hw.1.2.2.2.2.1 (RX5, RX10) (by decide)) (p_recv hw ha hk rfl) d (kk 0 kc0 (Or.inr ⟨kt_0, by rw [hk]; decide⟩) H locs ls hw hl)
  · exact va_instS C.1 C.2.1 C.2.2.2.1 (C.2.2.2.2 _ hq) (hw.1.1.1 9 _ rfl).2 (p_recv hw ha hk rfl) d (kk 1 kc1 (Or.inl ⟨kt_1, by rw [hk]; decide⟩) H locs ls hw hl)

theorem m_instE_2 (C : Cx p s m args c cc nL own) {a index : Nat} (hs : Ps σ) (ha : a ∈ σ.2.2.2.1) (hq : Cond.classLink own index RX2 ∈ WA) (d : decode cc pc = .ok (.instanceof index, 3)) (kk : ∀ v : Int32, IV v 0 1 → ((v.toInt = 1 ∧ kdF (σ.2.2.2.2.1 a) = 3) ∨ (v.toInt = 0 ∧ kdF (σ.2.2.2.2.1 a) ≠ 3)) → MW p l e R s m args below meth c Q nL G cells slots (pc + 3) L (.int v :: st) σ) : MW p l e R s m args below meth c Q nL G cells slots pc L (.ref a :: st) σ := fun H locs ls hw hl => by
  have hk := hs.2 a ha
  have kc0 : IV 0 0 1 := by decide
  have kc1 : IV 1 0 1 := by decide
  simp only [List.mem_cons, List.not_mem_nil, or_false] at hk
  rcases hk with hk | hk | hk | hk | hk
  · exact va_instNo (C := RX1) C.1 C.2.1 C.2.2.2.1 (C.2.2.2.2 _ hq) (hw.1.2.2.2.2.1 (RX1, RX2) (by decide)) (p_recv hw ha hk rfl) d (kk 0 kc0 (Or.inr ⟨kt_0, by rw [hk]; decide⟩) H locs ls hw hl)
  · exact va_instS C.1 C.2.1 C.2.2.2.1 (C.2.2.2.2 _ hq) (hw.1.1.1 2 _ rfl).2 (p_recv hw ha hk rfl) d (kk 1 kc1 (Or.inl ⟨kt_1, by rw [hk]; decide⟩) H locs ls hw hl)
  · exact va_instNo (C := RX3) C.1 C.2.1 C.2.2.2.1 (C.2.2.2.2 _ hq) (hw.1.2.2.2.2.1 (RX3, RX2) (by decide)) (p_recv hw ha hk rfl) d (kk 0 kc0 (Or.inr ⟨kt_0, by rw [hk]; decide⟩) H locs ls hw hl)
  · exact va_instNo (C := RX5) C.1 C.2.1 C.2.2.2.1 (C.2.2.2.2 _ hq) (hw.1.2.2.2.2.1 (RX5, RX2) (by decide)) (p_recv hw ha hk rfl) d (kk 0 kc0 (Or.inr ⟨kt_0, by rw [hk]; decide⟩) H locs ls hw hl)
  · exact va_instNo (C := RX10) C.1 C.2.1 C.2.2.2.1 (C.2.2.2.2 _ hq) (hw.1.2.2.2.2.1 (RX10, RX2) (by decide)) (p_recv hw ha hk rfl) d (kk 0 kc0 (Or.inr ⟨kt_0, by rw [hk]; decide⟩) H locs ls hw hl)

theorem m_instE_3 (C : Cx p s m args c cc nL own) {a index : Nat} (hs : Ps σ) (ha : a ∈ σ.2.2.2.1) (hq : Cond.classLink own index RX3 ∈ WA) (d : decode cc pc = .ok (.instanceof index, 3)) (kk : ∀ v : Int32, IV v 0 1 → ((v.toInt = 1 ∧ 4 ≤ kdF (σ.2.2.2.2.1 a)) ∨ (v.toInt = 0 ∧ kdF (σ.2.2.2.2.1 a) ≤ 3)) → MW p l e R s m args below meth c Q nL G cells slots (pc + 3) L (.int v :: st) σ) : MW p l e R s m args below meth c Q nL G cells slots pc L (.ref a :: st) σ := fun H locs ls hw hl => by
  have hk := hs.2 a ha
  have kc0 : IV 0 0 1 := by decide
  have kc1 : IV 1 0 1 := by decide
  simp only [List.mem_cons, List.not_mem_nil, or_false] at hk
  rcases hk with hk | hk | hk | hk | hk
  · exact va_instY (C := RX1) C.1 C.2.1 C.2.2.2.1 (C.2.2.2.2 _ hq) (hw.1.2.2.2.2.2.1 (RX1, RX3) (by decide)) (p_recv hw ha hk rfl) d (kk 1 kc1 (Or.inl ⟨kt_1, by rw [hk]; decide⟩) H locs ls hw hl)
  · exact va_instNo (C := RX2) C.1 C.2.1 C.2.2.2.1 (C.2.2.2.2 _ hq) (hw.1.2.2.2.2.1 (RX2, RX3) (by decide)) (p_recv hw ha hk rfl) d (kk 0 kc0 (Or.inr ⟨kt_0, by rw [hk]; decide⟩) H locs ls hw hl)
  · exact va_instS C.1 C.2.1 C.2.2.2.1 (C.2.2.2.2 _ hq) (hw.1.1.1 3 _ rfl).2 (p_recv hw ha hk rfl) d (kk 1 kc1 (Or.inl ⟨kt_1, by rw [hk]; decide⟩) H locs ls hw hl)
  · exact va_instNo (C := RX5) C.1 C.2.1 C.2.2.2.1 (C.2.2.2.2 _ hq) (hw.1.2.2.2.2.1 (RX5, RX3) (by decide)) (p_recv hw ha hk rfl) d (kk 0 kc0 (Or.inr ⟨kt_0, by rw [hk]; decide⟩) H locs ls hw hl)
  · exact va_instNo (C := RX10) C.1 C.2.1 C.2.2.2.1 (C.2.2.2.2 _ hq) (hw.1.2.2.2.2.1 (RX10, RX3) (by decide)) (p_recv hw ha hk rfl) d (kk 0 kc0 (Or.inr ⟨kt_0, by rw [hk]; decide⟩) H locs ls hw hl)

theorem m_instE_1 (C : Cx p s m args c cc nL own) {a index : Nat} (hs : Ps σ) (ha : a ∈ σ.2.2.2.1) (hq : Cond.classLink own index RX1 ∈ WA) (d : decode cc pc = .ok (.instanceof index, 3)) (kk : ∀ v : Int32, IV v 0 1 → ((v.toInt = 1 ∧ kdF (σ.2.2.2.2.1 a) = 5) ∨ (v.toInt = 0 ∧ kdF (σ.2.2.2.2.1 a) ≠ 5)) → MW p l e R s m args below meth c Q nL G cells slots (pc + 3) L (.int v :: st) σ) : MW p l e R s m args below meth c Q nL G cells slots pc L (.ref a :: st) σ := fun H locs ls hw hl => by
  have hk := hs.2 a ha
  have kc0 : IV 0 0 1 := by decide
  have kc1 : IV 1 0 1 := by decide
  simp only [List.mem_cons, List.not_mem_nil, or_false] at hk
  rcases hk with hk | hk | hk | hk | hk
  · exact va_instS C.1 C.2.1 C.2.2.2.1 (C.2.2.2.2 _ hq) (hw.1.1.1 1 _ rfl).2 (p_recv hw ha hk rfl) d (kk 1 kc1 (Or.inl ⟨kt_1, by rw [hk]; decide⟩) H locs ls hw hl)
  · exact va_instNo (C := RX2) C.1 C.2.1 C.2.2.2.1 (C.2.2.2.2 _ hq) (hw.1.2.2.2.2.1 (RX2, RX1) (by decide)) (p_recv hw ha hk rfl) d (kk 0 kc0 (Or.inr ⟨kt_0, by rw [hk]; decide⟩) H locs ls hw hl)
  · exact va_instNo (C := RX3) C.1 C.2.1 C.2.2.2.1 (C.2.2.2.2 _ hq) (hw.1.2.2.2.2.1 (RX3, RX1) (by decide)) (p_recv hw ha hk rfl) d (kk 0 kc0 (Or.inr ⟨kt_0, by rw [hk]; decide⟩) H locs ls hw hl)
  · exact va_instNo (C := RX5) C.1 C.2.1 C.2.2.2.1 (C.2.2.2.2 _ hq) (hw.1.2.2.2.2.1 (RX5, RX1) (by decide)) (p_recv hw ha hk rfl) d (kk 0 kc0 (Or.inr ⟨kt_0, by rw [hk]; decide⟩) H locs ls hw hl)
  · exact va_instNo (C := RX10) C.1 C.2.1 C.2.2.2.1 (C.2.2.2.2 _ hq) (hw.1.2.2.2.2.1 (RX10, RX1) (by decide)) (p_recv hw ha hk rfl) d (kk 0 kc0 (Or.inr ⟨kt_0, by rw [hk]; decide⟩) H locs ls hw hl)

end INSE
abbrev MS_X8_hasPersonS : List (Nat × Nat) := []
abbrev AS_X8_hasPersonS : List Nat := []
set_option maxHeartbeats 4000000 in
set_option maxRecDepth 100000 in
theorem c_X8_hasPersonS (l : Launch) (G : Gt) (σ : Sg) {j : Nat} (hj : j < 28) (a1 : Int32) (hI : Inv σ) : Mc l G yX8_hasPerson cX8_hasPerson 2 (some .boolean) 0 0 0 0 [.ref (G.1 1 j), .int a1] σ (PI fun r τ => Inv τ ∧ Fr MS_X8_hasPersonS AS_X8_hasPersonS σ τ ∧ IV r 0 1 ∧ ((r.toInt = 1 ∧ 0 ≤ a1.toInt ∧ a1.toInt < (gV σ 1 j 2).toInt) ∨ (r.toInt = 0 ∧ (a1.toInt < 0 ∨ (gV σ 1 j 2).toInt ≤ a1.toInt)))) := by
  refine Mc.of (L0 := [some (.ref (G.1 1 j)), some (.int a1)]) (by decide) (Nat.le_of_ble_eq_true rfl) rfl ?_
  intro p e s m args below meth c C hr hlk
  have C : Cx p s m args c cX8_hasPerson 2 "LeanTower$Tower" := C
  have k0 : (0 : Int32).toInt = 0 := by decide
  have k1 : (1 : Int32).toInt = 1 := by decide
  have u1 : IV (gV σ 1 j 2) 0 7 := hI.1 1 j 2
  refine m_iload_n C dX8_hasPerson_0 rfl rfl ?_
  refine m_if_lt (tgt := 16) C dX8_hasPerson_1 (by decide) (fun c2 => ?_) (fun c2 => ?_)
  · have f3 : a1.toInt < 0 := by
      have q : _ := c2
      simp only [ti_nle, ti_nlt, ti_le, ti_lt, ti_eq, ti_ne, Classical.not_not, kt_0] at q
      omega
    have b4 : IV a1 (-2147483648) (-1) := ⟨by have q1 := (iv_any a1); have q2 := kc_0; omega, by have q1 := (iv_any a1); have q2 := kc_0; omega⟩
    refine m_iconst (v := 0) C dX8_hasPerson_16 (by decide) ?_
    exact m_zret C hr rfl hlk (by decide) (by decide) dX8_hasPerson_17 ⟨_, rfl, hI, Fr.rf, (iv_wk kc_0 (by decide)), (by have q := kt_0; omega)⟩
  · have f5 : 0 ≤ a1.toInt := by
      have q : _ := c2
      simp only [ti_nle, ti_nlt, ti_le, ti_lt, ti_eq, ti_ne, Classical.not_not, kt_0] at q
      omega
    have b6 : IV a1 0 2147483647 := ⟨by have q1 := kc_0; have q2 := (iv_any a1); omega, by have q1 := kc_0; have q2 := (iv_any a1); omega⟩
    refine m_iload_n C dX8_hasPerson_4 rfl rfl ?_
    refine m_aload_n C dX8_hasPerson_5 rfl rfl ?_
    refine g_1_2 C hj q1_80 dX8_hasPerson_6 ?_
    refine m_eqs (w := (gV σ 1 j 2)) rfl ?_
    refine m_icmp_ge (tgt := 16) C dX8_hasPerson_9 (by decide) (fun c7 => ?_) (fun c7 => ?_)
    · have f8 : (gV σ 1 j 2).toInt ≤ a1.toInt := by
        have q : _ := c7
        simp only [ti_nle, ti_nlt, ti_le, ti_lt, ti_eq, ti_ne, Classical.not_not] at q
        omega
      refine m_iconst (v := 0) C dX8_hasPerson_16 (by decide) ?_
      exact m_zret C hr rfl hlk (by decide) (by decide) dX8_hasPerson_17 ⟨_, rfl, hI, Fr.rf, (iv_wk kc_0 (by decide)), (by have q := kt_0; omega)⟩
    · have f9 : a1.toInt < (gV σ 1 j 2).toInt := by
        have q : _ := c7
        simp only [ti_nle, ti_nlt, ti_le, ti_lt, ti_eq, ti_ne, Classical.not_not] at q
        omega
      have b10 : IV a1 0 6 := ⟨by have q1 := b6; have q2 := u1; omega, by have q1 := b6; have q2 := u1; omega⟩
      have b11 : IV (gV σ 1 j 2) 1 7 := ⟨by have q1 := b6; have q2 := u1; omega, by have q1 := b6; have q2 := u1; omega⟩
      refine m_iconst (v := 1) C dX8_hasPerson_12 (by decide) ?_
      refine m_goto (tgt := 17) C dX8_hasPerson_13 (by decide) ?_
      exact m_zret C hr rfl hlk (by decide) (by decide) dX8_hasPerson_17 ⟨_, rfl, hI, Fr.rf, (iv_wk kc_1 (by decide)), (by have q := kt_1; omega)⟩

abbrev MS_X8_whoS : List (Nat × Nat) := []
abbrev AS_X8_whoS : List Nat := []
set_option maxHeartbeats 4000000 in
set_option maxRecDepth 100000 in
theorem c_X8_whoS (l : Launch) (G : Gt) (σ : Sg) {j : Nat} (hj : j < 28) (a1 : Int32) (hI : Inv σ) : Mc l G yX8_who cX8_who 2 (some (.object "LeanTower$Person")) 1 21 0 0 [.ref (G.1 1 j), .int a1] σ (PR fun x τ => Inv τ ∧ Fr MS_X8_whoS AS_X8_whoS σ τ ∧ ((x = .null ∧ ((a1.toInt < 0 ∨ (gV σ 1 j 2).toInt ≤ a1.toInt) ∨ σ.2.1 j a1.toInt.toNat = none)) ∨ ∃ q : Nat, x = .ref q ∧ q ∈ τ.2.2.2.1 ∧ 0 ≤ a1.toInt ∧ a1.toInt < (gV σ 1 j 2).toInt ∧ σ.2.1 j a1.toInt.toNat = some q)) := by
  refine Mc.of (L0 := [some (.ref (G.1 1 j)), some (.int a1)]) (by decide) (Nat.le_of_ble_eq_true rfl) rfl ?_
  intro p e s m args below meth c C hr hlk
  have C : Cx p s m args c cX8_who 2 "LeanTower$Tower" := C
  have k0 : (0 : Int32).toInt = 0 := by decide
  have k1 : (1 : Int32).toInt = 1 := by decide
  have u1 : IV (gV σ 1 j 2) 0 7 := hI.1 1 j 2
  refine m_aload_n C dX8_who_0 rfl rfl ?_
  refine m_iload_n C dX8_who_1 rfl rfl ?_
  refine m_callV (n := 1) (ci := 7) (st := []) C (c_X8_hasPersonS l G σ (j := j) hj (a1) hI ) (by decide) hj rfl rfl rfl q3_21 q3_115 q3_19 q3_20 q1_3 (by decide +kernel) rfl (by decide) (by decide) rfl (Nat.le_of_ble_eq_true rfl) dX8_who_2 ?_
  rintro _ τ2 ⟨x5, rfl, i3, f4, b6, h8⟩
  have g7 : Fr MS_X8_whoS AS_X8_whoS σ τ2 := Fr.call (Fr.rf) f4 (by decide)
  have q9 : (gV τ2 1 j 2).toInt = (gV σ 1 j 2).toInt := congrArg Int32.toInt (show (gV τ2 1 j 2) = (gV σ 1 j 2) from (show gV τ2 1 j 2 = (gV σ 1 j 2) from (f4.1 1 j (2) (by decide) (by decide)).trans rfl))
  rcases h8 with ⟨h8_0, h8_1, h8_2⟩ | ⟨h8_0, h8_1⟩
  · skip
    have b10 : IV x5 1 1 := ⟨by omega, by omega⟩
    have b11 : IV a1 0 6 := ⟨by omega, by omega⟩
    show MW p l e _ s m args below meth c _ 2 G 0 0 5 [some (.ref (G.1 1 j)), some (.int a1)] [.int x5] τ2
    refine m_if_eq (tgt := 17) C dX8_who_5 (by decide) (fun c12 => ?_) (fun c12 => ?_)
    · exfalso
      have q : _ := c12
      simp only [ti_nle, ti_nlt, ti_le, ti_lt, ti_eq, ti_ne, Classical.not_not, kt_0] at q
      have q1 := b10; have q2 := kc_0; omega
    · have f14 : x5.toInt ≠ 0 := by
        have q : _ := c12
        simp only [ti_nle, ti_nlt, ti_le, ti_lt, ti_eq, ti_ne, Classical.not_not, kt_0] at q
        omega
      refine m_aload_n C dX8_who_8 rfl rfl ?_
      refine g_1_4 C hj q1_86 dX8_who_9 ?_
      refine m_iload_n C dX8_who_12 rfl rfl ?_
      refine al_6 (n := (a1.toInt.toNat)) C hj b11 (by decide) rfl dX8_who_13 (fun h16 => ?_) (fun x15 h16 => ?_)
      · skip
        refine m_goto (tgt := 18) C dX8_who_14 (by decide) ?_
        exact m_aret C hr (Or.inl rfl) hlk (by decide) (by decide) dX8_who_18 ⟨_, rfl, i3, g7, (Or.inl ⟨rfl, Or.inr (by rw [← (g7).2.1 (by decide)]; exact h16)⟩)⟩
      · have v17 : x15 ∈ τ2.2.2.2.1 := i3.2.2.1 _ _ _ h16
        refine m_goto (tgt := 18) C dX8_who_14 (by decide) ?_
        exact m_aret C hr (Or.inr ⟨_, rfl⟩) hlk (by decide) (by decide) dX8_who_18 ⟨_, rfl, i3, g7, (Or.inr ⟨_, rfl, v17, by omega, by omega, by rw [← (g7).2.1 (by decide)]; exact h16⟩)⟩
  · skip
    have b18 : IV x5 0 0 := ⟨by omega, by omega⟩
    show MW p l e _ s m args below meth c _ 2 G 0 0 5 [some (.ref (G.1 1 j)), some (.int a1)] [.int x5] τ2
    refine m_if_eq (tgt := 17) C dX8_who_5 (by decide) (fun c19 => ?_) (fun c19 => ?_)
    · have f20 : x5.toInt = 0 := by
        have q : _ := c19
        simp only [ti_nle, ti_nlt, ti_le, ti_lt, ti_eq, ti_ne, Classical.not_not, kt_0] at q
        omega
      refine m_null C dX8_who_17 ?_
      exact m_aret C hr (Or.inl rfl) hlk (by decide) (by decide) dX8_who_18 ⟨_, rfl, i3, g7, (Or.inl ⟨rfl, Or.inl (by omega)⟩)⟩
    · exfalso
      have q : _ := c19
      simp only [ti_nle, ti_nlt, ti_le, ti_lt, ti_eq, ti_ne, Classical.not_not, kt_0] at q
      have q1 := b18; have q2 := kc_0; omega

abbrev MS_X1_ownKindS : List (Nat × Nat) := []
abbrev AS_X1_ownKindS : List Nat := []
set_option maxHeartbeats 4000000 in
set_option maxRecDepth 100000 in
theorem c_X1_ownKindS (l : Launch) (G : Gt) (σ : Sg) (a0 : Nat) (hI : Inv σ) (ha0 : a0 ∈ σ.2.2.2.1) : Mc l G yX1_ownKind cX1_ownKind 1 (some .int) 0 0 0 0 [.ref a0] σ (PI fun r τ => Inv τ ∧ Fr MS_X1_ownKindS AS_X1_ownKindS σ τ ∧ IV r 5 5 ∧ r.toInt = 5) := by
  refine Mc.of (L0 := [some (.ref a0)]) (by decide) (Nat.le_of_ble_eq_true rfl) rfl ?_
  intro p e s m args below meth c C hr hlk
  have C : Cx p s m args c cX1_ownKind 1 "LeanTower$Bishop" := C
  have k0 : (0 : Int32).toInt = 0 := by decide
  have k1 : (1 : Int32).toInt = 1 := by decide
  refine m_iconst (v := 5) C dX1_ownKind_0 (by decide) ?_
  exact m_iret C hr hlk (by decide) (by decide) dX1_ownKind_1 ⟨_, rfl, hI, Fr.rf, kc_5, kt_5⟩

abbrev MS_X2_ownKindS : List (Nat × Nat) := []
abbrev AS_X2_ownKindS : List Nat := []
set_option maxHeartbeats 4000000 in
set_option maxRecDepth 100000 in
theorem c_X2_ownKindS (l : Launch) (G : Gt) (σ : Sg) (a0 : Nat) (hI : Inv σ) (ha0 : a0 ∈ σ.2.2.2.1) : Mc l G yX2_ownKind cX2_ownKind 1 (some .int) 0 0 0 0 [.ref a0] σ (PI fun r τ => Inv τ ∧ Fr MS_X2_ownKindS AS_X2_ownKindS σ τ ∧ IV r 3 3 ∧ r.toInt = 3) := by
  refine Mc.of (L0 := [some (.ref a0)]) (by decide) (Nat.le_of_ble_eq_true rfl) rfl ?_
  intro p e s m args below meth c C hr hlk
  have C : Cx p s m args c cX2_ownKind 1 "LeanTower$Boy" := C
  have k0 : (0 : Int32).toInt = 0 := by decide
  have k1 : (1 : Int32).toInt = 1 := by decide
  refine m_iconst (v := 3) C dX2_ownKind_0 (by decide) ?_
  exact m_iret C hr hlk (by decide) (by decide) dX2_ownKind_1 ⟨_, rfl, hI, Fr.rf, kc_3, kt_3⟩

abbrev MS_X3_ownKindS : List (Nat × Nat) := []
abbrev AS_X3_ownKindS : List Nat := []
set_option maxHeartbeats 4000000 in
set_option maxRecDepth 100000 in
theorem c_X3_ownKindS (l : Launch) (G : Gt) (σ : Sg) (a0 : Nat) (hI : Inv σ) (ha0 : a0 ∈ σ.2.2.2.1) : Mc l G yX3_ownKind cX3_ownKind 1 (some .int) 0 0 0 0 [.ref a0] σ (PI fun r τ => Inv τ ∧ Fr MS_X3_ownKindS AS_X3_ownKindS σ τ ∧ IV r 4 4 ∧ r.toInt = 4) := by
  refine Mc.of (L0 := [some (.ref a0)]) (by decide) (Nat.le_of_ble_eq_true rfl) rfl ?_
  intro p e s m args below meth c C hr hlk
  have C : Cx p s m args c cX3_ownKind 1 "LeanTower$Monk" := C
  have k0 : (0 : Int32).toInt = 0 := by decide
  have k1 : (1 : Int32).toInt = 1 := by decide
  refine m_iconst (v := 4) C dX3_ownKind_0 (by decide) ?_
  exact m_iret C hr hlk (by decide) (by decide) dX3_ownKind_1 ⟨_, rfl, hI, Fr.rf, kc_4, kt_4⟩

abbrev MS_X5_ownKindS : List (Nat × Nat) := []
abbrev AS_X5_ownKindS : List Nat := []
set_option maxHeartbeats 4000000 in
set_option maxRecDepth 100000 in
theorem c_X5_ownKindS (l : Launch) (G : Gt) (σ : Sg) (a0 : Nat) (hI : Inv σ) (ha0 : a0 ∈ σ.2.2.2.1) : Mc l G yX5_ownKind cX5_ownKind 1 (some .int) 0 0 0 0 [.ref a0] σ (PI fun r τ => Inv τ ∧ Fr MS_X5_ownKindS AS_X5_ownKindS σ τ ∧ IV r 1 1 ∧ r.toInt = 1) := by
  refine Mc.of (L0 := [some (.ref a0)]) (by decide) (Nat.le_of_ble_eq_true rfl) rfl ?_
  intro p e s m args below meth c C hr hlk
  have C : Cx p s m args c cX5_ownKind 1 "LeanTower$Pilgrim" := C
  have k0 : (0 : Int32).toInt = 0 := by decide
  have k1 : (1 : Int32).toInt = 1 := by decide
  refine m_iconst (v := 1) C dX5_ownKind_0 (by decide) ?_
  exact m_iret C hr hlk (by decide) (by decide) dX5_ownKind_1 ⟨_, rfl, hI, Fr.rf, kc_1, kt_1⟩

abbrev MS_X10_ownKindS : List (Nat × Nat) := []
abbrev AS_X10_ownKindS : List Nat := []
set_option maxHeartbeats 4000000 in
set_option maxRecDepth 100000 in
theorem c_X10_ownKindS (l : Launch) (G : Gt) (σ : Sg) (a0 : Nat) (hI : Inv σ) (ha0 : a0 ∈ σ.2.2.2.1) : Mc l G yX10_ownKind cX10_ownKind 1 (some .int) 0 0 0 0 [.ref a0] σ (PI fun r τ => Inv τ ∧ Fr MS_X10_ownKindS AS_X10_ownKindS σ τ ∧ IV r 2 2 ∧ r.toInt = 2) := by
  refine Mc.of (L0 := [some (.ref a0)]) (by decide) (Nat.le_of_ble_eq_true rfl) rfl ?_
  intro p e s m args below meth c C hr hlk
  have C : Cx p s m args c cX10_ownKind 1 "LeanTower$Widow" := C
  have k0 : (0 : Int32).toInt = 0 := by decide
  have k1 : (1 : Int32).toInt = 1 := by decide
  refine m_iconst (v := 2) C dX10_ownKind_0 (by decide) ?_
  exact m_iret C hr hlk (by decide) (by decide) dX10_ownKind_1 ⟨_, rfl, hI, Fr.rf, kc_2, kt_2⟩

set_option maxHeartbeats 4000000 in
theorem v_ownKindS {p : Program} {l : Launch} {e : Env} {R : Room} {s : State} {m : MethodId} {args : Array Value} {below : List Frame} {meth : Method} {c : Code} {cells slots : Nat} {Q : State → Prop} {cc : ByteArray} {nL : Nat} {own : String} {G : Gt} {σ : Sg} {pc : Nat} {L : List (Option Value)} {st : List Value} (C : Cx p s m args c cc nL own) {index a : Nat} (ql : Cond.methodLink own index ⟨"LeanTower$Person", "ownKind", "()I"⟩ ∈ WA) (hI : Inv σ) (ha : a ∈ σ.2.2.2.1) (hR : 1 ≤ R.frames ∧ 20 ≤ R.locals) (hf : cells ≤ R.cells ∧ slots ≤ R.slots) (hW : (st.map fun v => v.category).sum ≤ 8) (d : decode cc pc = .ok (.invokevirtual index, 3)) (kk : ∀ (r : Int32) (τ : Sg), Inv τ → Fr [] [] σ τ → (r.toInt = kdF (σ.2.2.2.2.1 a)) → MW p l e R s m args below meth c Q nL G cells slots (pc + 3) L (.int r :: st) τ) : MW p l e R s m args below meth c Q nL G cells slots pc L (.ref a :: st) σ := by
  have hk := hI.2.2.2 a ha
  simp only [List.mem_cons, List.not_mem_nil, or_false] at hk
  rcases hk with hk | hk | hk | hk | hk
  · refine m_callU (x := ⟨"LeanTower$Person", "ownKind", "()I"⟩) (owner := "LeanTower$Person") (n := 0) (As := []) (st := st) C (c_X1_ownKindS l G σ a hI ha ) ha hk rfl (fun hK => va_cwA (owner := "LeanTower$Person") 0 C.2.2.2.2 (goodIn_app (wa_gl (List.forall_mem_cons.mpr ⟨ql, List.forall_mem_cons.mpr ⟨q4_11, List.forall_mem_cons.mpr ⟨q4_12, List.forall_mem_cons.mpr ⟨q4_13, List.forall_mem_cons.mpr ⟨q1_18, fun _ h => absurd h List.not_mem_nil⟩⟩⟩⟩⟩)) (wa_goodIn _ _ _ _ q4_14)) rfl rfl rfl hK.2.2.2.2.2.2.1 (by decide +kernel) ⟨Nat.le_trans (by decide) hR.1, Nat.le_trans (by decide) hR.2⟩) rfl hf rfl hW d ?_
    rintro _ τ ⟨r, rfl, i, f, _, hx⟩
    exact kk r τ i (Fr.call Fr.rf f (by decide)) (hx.trans (by rw [hk]; decide))
  · refine m_callU (x := ⟨"LeanTower$Person", "ownKind", "()I"⟩) (owner := "LeanTower$Person") (n := 0) (As := []) (st := st) C (c_X2_ownKindS l G σ a hI ha ) ha hk rfl (fun hK => va_cwA (owner := "LeanTower$Person") 0 C.2.2.2.2 (goodIn_app (wa_gl (List.forall_mem_cons.mpr ⟨ql, List.forall_mem_cons.mpr ⟨q4_11, List.forall_mem_cons.mpr ⟨q4_15, List.forall_mem_cons.mpr ⟨q4_16, List.forall_mem_cons.mpr ⟨q1_16, fun _ h => absurd h List.not_mem_nil⟩⟩⟩⟩⟩)) (wa_goodIn _ _ _ _ q4_17)) rfl rfl rfl hK.2.2.2.2.2.2.1 (by decide +kernel) ⟨Nat.le_trans (by decide) hR.1, Nat.le_trans (by decide) hR.2⟩) rfl hf rfl hW d ?_
    rintro _ τ ⟨r, rfl, i, f, _, hx⟩
    exact kk r τ i (Fr.call Fr.rf f (by decide)) (hx.trans (by rw [hk]; decide))
  · refine m_callU (x := ⟨"LeanTower$Person", "ownKind", "()I"⟩) (owner := "LeanTower$Person") (n := 0) (As := []) (st := st) C (c_X3_ownKindS l G σ a hI ha ) ha hk rfl (fun hK => va_cwA (owner := "LeanTower$Person") 0 C.2.2.2.2 (goodIn_app (wa_gl (List.forall_mem_cons.mpr ⟨ql, List.forall_mem_cons.mpr ⟨q4_11, List.forall_mem_cons.mpr ⟨q4_18, List.forall_mem_cons.mpr ⟨q4_19, List.forall_mem_cons.mpr ⟨q1_17, fun _ h => absurd h List.not_mem_nil⟩⟩⟩⟩⟩)) (wa_goodIn _ _ _ _ q4_20)) rfl rfl rfl hK.2.2.2.2.2.2.1 (by decide +kernel) ⟨Nat.le_trans (by decide) hR.1, Nat.le_trans (by decide) hR.2⟩) rfl hf rfl hW d ?_
    rintro _ τ ⟨r, rfl, i, f, _, hx⟩
    exact kk r τ i (Fr.call Fr.rf f (by decide)) (hx.trans (by rw [hk]; decide))
  · refine m_callU (x := ⟨"LeanTower$Person", "ownKind", "()I"⟩) (owner := "LeanTower$Person") (n := 0) (As := []) (st := st) C (c_X5_ownKindS l G σ a hI ha ) ha hk rfl (fun hK => va_cwA (owner := "LeanTower$Person") 0 C.2.2.2.2 (goodIn_app (wa_gl (List.forall_mem_cons.mpr ⟨ql, List.forall_mem_cons.mpr ⟨q4_11, List.forall_mem_cons.mpr ⟨q4_21, List.forall_mem_cons.mpr ⟨q4_22, List.forall_mem_cons.mpr ⟨q1_14, fun _ h => absurd h List.not_mem_nil⟩⟩⟩⟩⟩)) (wa_goodIn _ _ _ _ q4_23)) rfl rfl rfl hK.2.2.2.2.2.2.1 (by decide +kernel) ⟨Nat.le_trans (by decide) hR.1, Nat.le_trans (by decide) hR.2⟩) rfl hf rfl hW d ?_
    rintro _ τ ⟨r, rfl, i, f, _, hx⟩
    exact kk r τ i (Fr.call Fr.rf f (by decide)) (hx.trans (by rw [hk]; decide))
  · refine m_callU (x := ⟨"LeanTower$Person", "ownKind", "()I"⟩) (owner := "LeanTower$Person") (n := 0) (As := []) (st := st) C (c_X10_ownKindS l G σ a hI ha ) ha hk rfl (fun hK => va_cwA (owner := "LeanTower$Person") 0 C.2.2.2.2 (goodIn_app (wa_gl (List.forall_mem_cons.mpr ⟨ql, List.forall_mem_cons.mpr ⟨q4_11, List.forall_mem_cons.mpr ⟨q4_24, List.forall_mem_cons.mpr ⟨q4_25, List.forall_mem_cons.mpr ⟨q1_15, fun _ h => absurd h List.not_mem_nil⟩⟩⟩⟩⟩)) (wa_goodIn _ _ _ _ q4_26)) rfl rfl rfl hK.2.2.2.2.2.2.1 (by decide +kernel) ⟨Nat.le_trans (by decide) hR.1, Nat.le_trans (by decide) hR.2⟩) rfl hf rfl hW d ?_
    rintro _ τ ⟨r, rfl, i, f, _, hx⟩
    exact kk r τ i (Fr.call Fr.rf f (by decide)) (hx.trans (by rw [hk]; decide))

abbrev MS_X11_kindS : List (Nat × Nat) := []
abbrev AS_X11_kindS : List Nat := []
set_option maxHeartbeats 4000000 in
set_option maxRecDepth 100000 in
theorem c_X11_kindS (l : Launch) (G : Gt) (σ : Sg) (S : Stt) (I : Nat → Stt) (a1 : Int32) (hI : Inv σ) (hCA : CA σ S I) : Mc l G yX11_kind cX11_kind 3 (some .int) 2 42 0 0 [.ref (G.1 0 0), .int a1] σ (PI fun r τ => Inv τ ∧ Fr MS_X11_kindS AS_X11_kindS σ τ ∧ IV r (-2147483648) 2147483647 ∧ (((a1.toInt < 0 ∨ S.2.1 ≤ a1.toInt) ∧ r.toInt = -1000001) ∨ ((0 ≤ a1.toInt ∧ a1.toInt < S.2.1) ∧ r.toInt = (S.2.2 a1.toInt.toNat).1))) := by
  refine Mc.of (L0 := [some (.ref (G.1 0 0)), some (.int a1), none]) (by decide) (Nat.le_of_ble_eq_true rfl) rfl ?_
  intro p e s m args below meth c C hr hlk
  have C : Cx p s m args c cX11_kind 3 "LeanTower" := C
  have k0 : (0 : Int32).toInt = 0 := by decide
  have k1 : (1 : Int32).toInt = 1 := by decide
  refine m_aload_n C dX11_kind_0 rfl rfl ?_
  refine g_0_2 C q1_188 dX11_kind_1 ?_
  refine m_iload_n C dX11_kind_4 rfl rfl ?_
  refine m_callV (n := 1) (ci := 7) (st := []) C (c_X8_whoS l G σ (j := 0) (by decide) (a1) hI ) (by decide) (by decide) rfl rfl rfl q3_114 q3_111 q3_112 q3_113 q1_3 (by decide +kernel) rfl (by decide) (by decide) rfl (Nat.le_of_ble_eq_true rfl) dX11_kind_5 ?_
  rintro _ τ1 ⟨x4, rfl, i2, f3, h7⟩
  have g6 : Fr MS_X11_kindS AS_X11_kindS σ τ1 := Fr.call (Fr.rf) f3 (by decide)
  rcases h7 with ⟨rfl, x4n⟩ | ⟨x4q, rfl, x4m, x4l, x4h, x4e⟩
  · show MW p l e _ s m args below meth c _ 3 G 0 0 8 [some (.ref (G.1 0 0)), some (.int a1), none] [.null] τ1
    have q8 := hCA.1.null x4n
    refine m_astore_nN (L1 := [some (.ref (G.1 0 0)), some (.int a1), some (.null)]) C dX11_kind_8 rfl (by decide) rfl rfl ?_
    refine m_aload_nN C dX11_kind_9 rfl rfl ?_
    refine m_ifnonnullN C dX11_kind_10 ?_
    refine m_ldc (v := (-1000001)) C dX11_kind_13 q1_234 ?_
    refine m_goto (tgt := 22) C dX11_kind_15 (by decide) ?_
    exact m_iret C hr hlk (by decide) (by decide) dX11_kind_22 ⟨_, rfl, i2, g6, (iv_wk kc_m1000001 (by decide)), (Or.inl ⟨by omega, kt_m1000001⟩)⟩
  · show MW p l e _ s m args below meth c _ 3 G 0 0 8 [some (.ref (G.1 0 0)), some (.int a1), none] [.ref x4q] τ1
    obtain ⟨x4u, x4v⟩ := hCA.1.who x4l x4h x4e
    have x4w := x4v.gr (PGr.fr f3 (by decide))
    have b9 : IV a1 0 6 := by have q7 := hCA.1.1; exact ⟨by omega, by omega⟩
    refine m_astore_n (L1 := [some (.ref (G.1 0 0)), some (.int a1), some (.ref x4q)]) C dX11_kind_8 rfl (by decide) rfl rfl ?_
    refine m_aload_n C dX11_kind_9 rfl rfl ?_
    refine m_ifnonnull (tgt := 18) C dX11_kind_10 (by decide) ?_
    refine m_aload_n C dX11_kind_18 rfl rfl ?_
    refine v_ownKindS (st := []) C q4_9 i2 x4m (by decide) (by decide) (Nat.le_of_ble_eq_true rfl) dX11_kind_19 (fun x13 τ10 i11 f12 h15 => ?_)
    have g14 : Fr MS_X11_kindS AS_X11_kindS σ τ10 := Fr.call (g6) f12 (by decide)
    have v16 : x4q ∈ τ10.2.2.2.1 := by rw [f12.2.2 (by decide)]; exact x4m
    show MW p l e _ s m args below meth c _ 3 G 0 0 22 [some (.ref (G.1 0 0)), some (.int a1), some (.ref x4q)] [.int x13] τ10
    exact m_iret C hr hlk (by decide) (by decide) dX11_kind_22 ⟨_, rfl, i11, g14, (iv_any x13), (Or.inr ⟨by omega, by rw [h15]; exact x4w.2.1⟩)⟩

abbrev MS_X11_isOneS : List (Nat × Nat) := []
abbrev AS_X11_isOneS : List Nat := []
set_option maxHeartbeats 4000000 in
set_option maxRecDepth 100000 in
theorem c_X11_isOneS (l : Launch) (G : Gt) (σ : Sg) (b1 : Nat) (a2 : Int32) (hI : Inv σ) (hb1 : b1 ∈ σ.2.2.2.1) : Mc l G yX11_isOne cX11_isOne 2 (some .boolean) 0 0 0 0 [.ref b1, .int a2] σ (PI fun r τ => Inv τ ∧ Fr MS_X11_isOneS AS_X11_isOneS σ τ ∧ IV r 0 1 ∧ ((r.toInt = 1 ∧ (a2.toInt = 0 ∨ kdF (σ.2.2.2.2.1 b1) = a2.toInt ∨ (a2.toInt = 1 ∧ kdF (σ.2.2.2.2.1 b1) ≤ 3) ∨ (a2.toInt = 4 ∧ kdF (σ.2.2.2.2.1 b1) = 5))) ∨ (r.toInt = 0 ∧ ¬ (a2.toInt = 0 ∨ kdF (σ.2.2.2.2.1 b1) = a2.toInt ∨ (a2.toInt = 1 ∧ kdF (σ.2.2.2.2.1 b1) ≤ 3) ∨ (a2.toInt = 4 ∧ kdF (σ.2.2.2.2.1 b1) = 5))))) := by
  refine Mc.of (L0 := [some (.ref b1), some (.int a2)]) (by decide) (Nat.le_of_ble_eq_true rfl) rfl ?_
  intro p e s m args below meth c C hr hlk
  have C : Cx p s m args c cX11_isOne 2 "LeanTower" := C
  have k0 : (0 : Int32).toInt = 0 := by decide
  have k1 : (1 : Int32).toInt = 1 := by decide
  refine m_iload_n C dX11_isOne_0 rfl rfl ?_
  by_cases s1 : a2.toInt < 0 ∨ 5 < a2.toInt
  · refine m_tableOut (tgt := 67) C dX11_isOne_1 s1 (by decide) ?_
    refine m_iconst (v := 0) C dX11_isOne_67 (by decide) ?_
    exact m_zret C hr rfl hlk (by decide) (by decide) dX11_isOne_68 ⟨_, rfl, hI, Fr.rf, (iv_wk kc_0 (by decide)), (by have q := kt_0; have qb := kdF_b (σ.2.2.2.2.1 b1); omega)⟩
  by_cases s2 : a2.toInt = 0
  · refine m_tableIn (tgt := 40) (off := 39) C dX11_isOne_1 (by omega) (by omega) (by rw [s2]; rfl) (by decide) ?_
    have b3 : IV a2 0 0 := ⟨by omega, by omega⟩
    refine m_iconst (v := 1) C dX11_isOne_40 (by decide) ?_
    exact m_zret C hr rfl hlk (by decide) (by decide) dX11_isOne_41 ⟨_, rfl, hI, Fr.rf, (iv_wk kc_1 (by decide)), (by have q := kt_1; have qb := kdF_b (σ.2.2.2.2.1 b1); omega)⟩
  by_cases s4 : a2.toInt = 1
  · refine m_tableIn (tgt := 42) (off := 41) C dX11_isOne_1 (by omega) (by omega) (by rw [s4]; rfl) (by decide) ?_
    have b5 : IV a2 1 1 := ⟨by omega, by omega⟩
    refine m_aload_n C dX11_isOne_42 rfl rfl ?_
    refine m_instE_5 C hI.2.2 hb1 q4_34 dX11_isOne_43 (fun x6 b7 h8 => ?_)
    exact m_zret C hr (nar_z b7) hlk (by decide) (by decide) dX11_isOne_46 ⟨_, rfl, hI, Fr.rf, b7, (by have qb := kdF_b (σ.2.2.2.2.1 b1); omega)⟩
  by_cases s9 : a2.toInt = 2
  · refine m_tableIn (tgt := 47) (off := 46) C dX11_isOne_1 (by omega) (by omega) (by rw [s9]; rfl) (by decide) ?_
    have b10 : IV a2 2 2 := ⟨by omega, by omega⟩
    refine m_aload_n C dX11_isOne_47 rfl rfl ?_
    refine m_instE_10 C hI.2.2 hb1 q4_35 dX11_isOne_48 (fun x11 b12 h13 => ?_)
    exact m_zret C hr (nar_z b12) hlk (by decide) (by decide) dX11_isOne_51 ⟨_, rfl, hI, Fr.rf, b12, (by have qb := kdF_b (σ.2.2.2.2.1 b1); omega)⟩
  by_cases s14 : a2.toInt = 3
  · refine m_tableIn (tgt := 52) (off := 51) C dX11_isOne_1 (by omega) (by omega) (by rw [s14]; rfl) (by decide) ?_
    have b15 : IV a2 3 3 := ⟨by omega, by omega⟩
    refine m_aload_n C dX11_isOne_52 rfl rfl ?_
    refine m_instE_2 C hI.2.2 hb1 q4_36 dX11_isOne_53 (fun x16 b17 h18 => ?_)
    exact m_zret C hr (nar_z b17) hlk (by decide) (by decide) dX11_isOne_56 ⟨_, rfl, hI, Fr.rf, b17, (by have qb := kdF_b (σ.2.2.2.2.1 b1); omega)⟩
  by_cases s19 : a2.toInt = 4
  · refine m_tableIn (tgt := 57) (off := 56) C dX11_isOne_1 (by omega) (by omega) (by rw [s19]; rfl) (by decide) ?_
    have b20 : IV a2 4 4 := ⟨by omega, by omega⟩
    refine m_aload_n C dX11_isOne_57 rfl rfl ?_
    refine m_instE_3 C hI.2.2 hb1 q4_37 dX11_isOne_58 (fun x21 b22 h23 => ?_)
    exact m_zret C hr (nar_z b22) hlk (by decide) (by decide) dX11_isOne_61 ⟨_, rfl, hI, Fr.rf, b22, (by have qb := kdF_b (σ.2.2.2.2.1 b1); omega)⟩
  by_cases s24 : a2.toInt = 5
  · refine m_tableIn (tgt := 62) (off := 61) C dX11_isOne_1 (by omega) (by omega) (by rw [s24]; rfl) (by decide) ?_
    have b25 : IV a2 5 5 := ⟨by omega, by omega⟩
    refine m_aload_n C dX11_isOne_62 rfl rfl ?_
    refine m_instE_1 C hI.2.2 hb1 q4_38 dX11_isOne_63 (fun x26 b27 h28 => ?_)
    exact m_zret C hr (nar_z b27) hlk (by decide) (by decide) dX11_isOne_66 ⟨_, rfl, hI, Fr.rf, b27, (by have qb := kdF_b (σ.2.2.2.2.1 b1); omega)⟩
  exact absurd s1 (by omega)

abbrev MS_X11_asS : List (Nat × Nat) := [(0, 12)]
abbrev AS_X11_asS : List Nat := []
set_option maxHeartbeats 4000000 in
set_option maxRecDepth 100000 in
theorem c_X11_asS (l : Launch) (G : Gt) (σ : Sg) (S : Stt) (I : Nat → Stt) (a1 : Int32) (a2 : Int32) (hI : Inv σ) (hCA : CA σ S I) : Mc l G yX11_as cX11_as 4 (some .int) 2 42 0 0 [.ref (G.1 0 0), .int a1, .int a2] σ (PI fun r τ => Inv τ ∧ Fr MS_X11_asS AS_X11_asS σ τ ∧ IV r (-2147483648) 2147483647 ∧ ((((a1.toInt < 0 ∨ S.2.1 ≤ a1.toInt) ∨ a2.toInt < 0 ∨ 5 < a2.toInt) ∧ r.toInt = -1000001) ∨ ((0 ≤ a1.toInt ∧ a1.toInt < S.2.1) ∧ 0 ≤ a2.toInt ∧ a2.toInt ≤ 5 ∧ (a2.toInt = 0 ∨ (S.2.2 a1.toInt.toNat).1 = a2.toInt ∨ (a2.toInt = 1 ∧ (S.2.2 a1.toInt.toNat).1 ≤ 3) ∨ (a2.toInt = 4 ∧ (S.2.2 a1.toInt.toNat).1 = 5)) ∧ r.toInt = a1.toInt) ∨ ((0 ≤ a1.toInt ∧ a1.toInt < S.2.1) ∧ 0 ≤ a2.toInt ∧ a2.toInt ≤ 5 ∧ ¬ (a2.toInt = 0 ∨ (S.2.2 a1.toInt.toNat).1 = a2.toInt ∨ (a2.toInt = 1 ∧ (S.2.2 a1.toInt.toNat).1 ≤ 3) ∨ (a2.toInt = 4 ∧ (S.2.2 a1.toInt.toNat).1 = 5)) ∧ r.toInt = -1000013))) := by
  refine Mc.of (L0 := [some (.ref (G.1 0 0)), some (.int a1), some (.int a2), none]) (by decide) (Nat.le_of_ble_eq_true rfl) rfl ?_
  intro p e s m args below meth c C hr hlk
  have C : Cx p s m args c cX11_as 4 "LeanTower" := C
  have k0 : (0 : Int32).toInt = 0 := by decide
  have k1 : (1 : Int32).toInt = 1 := by decide
  refine m_aload_n C dX11_as_0 rfl rfl ?_
  refine g_0_2 C q1_188 dX11_as_1 ?_
  refine m_iload_n C dX11_as_4 rfl rfl ?_
  refine m_callV (n := 1) (ci := 7) (st := []) C (c_X8_whoS l G σ (j := 0) (by decide) (a1) hI ) (by decide) (by decide) rfl rfl rfl q3_114 q3_111 q3_112 q3_113 q1_3 (by decide +kernel) rfl (by decide) (by decide) rfl (Nat.le_of_ble_eq_true rfl) dX11_as_5 ?_
  rintro _ τ1 ⟨x4, rfl, i2, f3, h7⟩
  have g6 : Fr MS_X11_asS AS_X11_asS σ τ1 := Fr.call (Fr.rf) f3 (by decide)
  rcases h7 with ⟨rfl, x4n⟩ | ⟨x4q, rfl, x4m, x4l, x4h, x4e⟩
  · show MW p l e _ s m args below meth c _ 4 G 0 0 8 [some (.ref (G.1 0 0)), some (.int a1), some (.int a2), none] [.null] τ1
    have q8 := hCA.1.null x4n
    refine m_astore_nN (L1 := [some (.ref (G.1 0 0)), some (.int a1), some (.int a2), some (.null)]) C dX11_as_8 rfl (by decide) rfl rfl ?_
    refine m_aload_nN C dX11_as_9 rfl rfl ?_
    refine m_ifnullN (tgt := 22) C dX11_as_10 (by decide) ?_
    refine m_ldc (v := (-1000001)) C dX11_as_22 q1_234 ?_
    exact m_iret C hr hlk (by decide) (by decide) dX11_as_24 ⟨_, rfl, i2, g6, (iv_wk kc_m1000001 (by decide)), (Or.inl ⟨by have q := kt_m1000001; omega, by have q := kt_m1000001; omega⟩)⟩
  · show MW p l e _ s m args below meth c _ 4 G 0 0 8 [some (.ref (G.1 0 0)), some (.int a1), some (.int a2), none] [.ref x4q] τ1
    obtain ⟨x4u, x4v⟩ := hCA.1.who x4l x4h x4e
    have x4w := x4v.gr (PGr.fr f3 (by decide))
    have b9 : IV a1 0 6 := by have q7 := hCA.1.1; exact ⟨by omega, by omega⟩
    refine m_astore_n (L1 := [some (.ref (G.1 0 0)), some (.int a1), some (.int a2), some (.ref x4q)]) C dX11_as_8 rfl (by decide) rfl rfl ?_
    refine m_aload_n C dX11_as_9 rfl rfl ?_
    refine m_ifnull C dX11_as_10 ?_
    refine m_iload_n C dX11_as_13 rfl rfl ?_
    refine m_if_lt (tgt := 22) C dX11_as_14 (by decide) (fun c10 => ?_) (fun c10 => ?_)
    · have f11 : a2.toInt < 0 := by
        have q : _ := c10
        simp only [ti_nle, ti_nlt, ti_le, ti_lt, ti_eq, ti_ne, Classical.not_not, kt_0] at q
        omega
      have b12 : IV a2 (-2147483648) (-1) := ⟨by have q1 := (iv_any a2); have q2 := kc_0; omega, by have q1 := (iv_any a2); have q2 := kc_0; omega⟩
      refine m_ldc (v := (-1000001)) C dX11_as_22 q1_234 ?_
      exact m_iret C hr hlk (by decide) (by decide) dX11_as_24 ⟨_, rfl, i2, g6, (iv_wk kc_m1000001 (by decide)), (Or.inl ⟨by have q := kt_m1000001; omega, by have q := kt_m1000001; omega⟩)⟩
    · have f13 : 0 ≤ a2.toInt := by
        have q : _ := c10
        simp only [ti_nle, ti_nlt, ti_le, ti_lt, ti_eq, ti_ne, Classical.not_not, kt_0] at q
        omega
      have b14 : IV a2 0 2147483647 := ⟨by have q1 := kc_0; have q2 := (iv_any a2); omega, by have q1 := kc_0; have q2 := (iv_any a2); omega⟩
      refine m_iload_n C dX11_as_17 rfl rfl ?_
      refine m_iconst (v := 5) C dX11_as_18 (by decide) ?_
      refine m_icmp_le (tgt := 25) C dX11_as_19 (by decide) (fun c15 => ?_) (fun c15 => ?_)
      · have f16 : a2.toInt ≤ 5 := by
          have q : _ := c15
          simp only [ti_nle, ti_nlt, ti_le, ti_lt, ti_eq, ti_ne, Classical.not_not, kt_5] at q
          omega
        have b17 : IV a2 0 5 := ⟨by have q1 := b14; have q2 := kc_5; omega, by have q1 := b14; have q2 := kc_5; omega⟩
        refine m_aload_n C dX11_as_25 rfl rfl ?_
        refine m_iload_n C dX11_as_26 rfl rfl ?_
        refine m_callS (n := 2) (st := []) C (c_X11_isOneS l G τ1 x4q (a2) i2 x4m) q4_33 q4_31 q4_32 q1_1 (by decide +kernel) rfl (by decide) (by decide) rfl (Nat.le_of_ble_eq_true rfl) dX11_as_27 ?_
        rintro _ τ18 ⟨x21, rfl, i19, f20, b22, h24⟩
        have g23 : Fr MS_X11_asS AS_X11_asS σ τ18 := Fr.call (g6) f20 (by decide)
        have v25 : x4q ∈ τ18.2.2.2.1 := by rw [f20.2.2 (by decide)]; exact x4m
        rcases h24 with ⟨h24_0, h24_1⟩ | ⟨h24_0, h24_1⟩
        · skip
          have b26 : IV x21 1 1 := ⟨by omega, by omega⟩
          rw [x4w.2.1] at h24_1
          show MW p l e _ s m args below meth c _ 4 G 0 0 30 [some (.ref (G.1 0 0)), some (.int a1), some (.int a2), some (.ref x4q)] [.int x21] τ18
          refine m_if_eq (tgt := 41) C dX11_as_30 (by decide) (fun c27 => ?_) (fun c27 => ?_)
          · exfalso
            have q : _ := c27
            simp only [ti_nle, ti_nlt, ti_le, ti_lt, ti_eq, ti_ne, Classical.not_not, kt_0] at q
            have q1 := b26; have q2 := kc_0; omega
          · have f29 : x21.toInt ≠ 0 := by
              have q : _ := c27
              simp only [ti_nle, ti_nlt, ti_le, ti_lt, ti_eq, ti_ne, Classical.not_not, kt_0] at q
              omega
            refine m_aload_n C dX11_as_33 rfl rfl ?_
            refine m_iload_n C dX11_as_34 rfl rfl ?_
            refine m_callV (n := 1) (ci := 10) (st := []) C (c_X11_clean l G τ18 (a1) i19 ) (by decide) (by decide) rfl rfl rfl q2_7 q2_4 q2_6 q0_2 q1_1 (by decide +kernel) rfl (by decide) (by decide) rfl (Nat.le_of_ble_eq_true rfl) dX11_as_35 ?_
            rintro _ τ30 ⟨x33, rfl, i31, f32, b34, h36⟩
            have g35 : Fr MS_X11_asS AS_X11_asS σ τ30 := Fr.call (g23) f32 (by decide)
            have v37 : x4q ∈ τ30.2.2.2.1 := by rw [f32.2.2 (by decide)]; exact v25
            show MW p l e _ s m args below meth c _ 4 G 0 0 38 [some (.ref (G.1 0 0)), some (.int a1), some (.int a2), some (.ref x4q)] [.int x33] τ30
            refine m_goto (tgt := 46) C dX11_as_38 (by decide) ?_
            exact m_iret C hr hlk (by decide) (by decide) dX11_as_46 ⟨_, rfl, i31, g35, b34, (Or.inr (Or.inl ⟨by omega, by omega, by omega, by omega, by omega⟩))⟩
        · skip
          have b38 : IV x21 0 0 := ⟨by omega, by omega⟩
          rw [x4w.2.1] at h24_1
          show MW p l e _ s m args below meth c _ 4 G 0 0 30 [some (.ref (G.1 0 0)), some (.int a1), some (.int a2), some (.ref x4q)] [.int x21] τ18
          refine m_if_eq (tgt := 41) C dX11_as_30 (by decide) (fun c39 => ?_) (fun c39 => ?_)
          · have f40 : x21.toInt = 0 := by
              have q : _ := c39
              simp only [ti_nle, ti_nlt, ti_le, ti_lt, ti_eq, ti_ne, Classical.not_not, kt_0] at q
              omega
            refine m_aload_n C dX11_as_41 rfl rfl ?_
            refine m_iconst (v := 3) C dX11_as_42 (by decide) ?_
            refine m_callV (n := 1) (ci := 10) (st := []) C (c_X11_found l G τ18 (3) i19 (iv_wk kc_3 (by decide))) (by decide) (by decide) rfl rfl rfl q1_238 q1_235 q1_237 q0_1 q1_1 (by decide +kernel) rfl (by decide) (by decide) rfl (Nat.le_of_ble_eq_true rfl) dX11_as_43 ?_
            rintro _ τ41 ⟨x44, rfl, i42, f43, b45, h47⟩
            have g46 : Fr MS_X11_asS AS_X11_asS σ τ41 := Fr.call (g23) f43 (by decide)
            have v48 : x4q ∈ τ41.2.2.2.1 := by rw [f43.2.2 (by decide)]; exact v25
            have q49 := kt_3
            show MW p l e _ s m args below meth c _ 4 G 0 0 46 [some (.ref (G.1 0 0)), some (.int a1), some (.int a2), some (.ref x4q)] [.int x44] τ41
            exact m_iret C hr hlk (by decide) (by decide) dX11_as_46 ⟨_, rfl, i42, g46, (iv_wk b45 (by decide)), (Or.inr (Or.inr (⟨by omega, by omega, by omega, by omega, by omega⟩)))⟩
          · exfalso
            have q : _ := c39
            simp only [ti_nle, ti_nlt, ti_le, ti_lt, ti_eq, ti_ne, Classical.not_not, kt_0] at q
            have q1 := b38; have q2 := kc_0; omega
      · have f51 : 5 < a2.toInt := by
          have q : _ := c15
          simp only [ti_nle, ti_nlt, ti_le, ti_lt, ti_eq, ti_ne, Classical.not_not, kt_5] at q
          omega
        have b52 : IV a2 6 2147483647 := ⟨by have q1 := kc_5; have q2 := b14; omega, by have q1 := kc_5; have q2 := b14; omega⟩
        refine m_ldc (v := (-1000001)) C dX11_as_22 q1_234 ?_
        exact m_iret C hr hlk (by decide) (by decide) dX11_as_24 ⟨_, rfl, i2, g6, (iv_wk kc_m1000001 (by decide)), (Or.inl ⟨by have q := kt_m1000001; omega, by have q := kt_m1000001; omega⟩)⟩

abbrev MS_X12_isOneS : List (Nat × Nat) := []
abbrev AS_X12_isOneS : List Nat := []
set_option maxHeartbeats 4000000 in
set_option maxRecDepth 100000 in
theorem c_X12_isOneS (l : Launch) (G : Gt) (σ : Sg) (a1 : Int32) (hI : Inv σ) : Mc l G yX12_isOne cX12_isOne 2 (some .boolean) 1 25 0 0 [.ref (G.1 22 0), .int a1] σ (PI fun r τ => Inv τ ∧ Fr MS_X12_isOneS AS_X12_isOneS σ τ ∧ IV r 0 1 ∧ ((r.toInt = 1 ∧ 0 ≤ a1.toInt ∧ a1.toInt < (gV σ 23 0 2).toInt) ∨ (r.toInt = 0 ∧ (a1.toInt < 0 ∨ (gV σ 23 0 2).toInt ≤ a1.toInt)))) := by
  refine Mc.of (L0 := [some (.ref (G.1 22 0)), some (.int a1)]) (by decide) (Nat.le_of_ble_eq_true rfl) rfl ?_
  intro p e s m args below meth c C hr hlk
  have C : Cx p s m args c cX12_isOne 2 "LeanTowerModel" := C
  have k0 : (0 : Int32).toInt = 0 := by decide
  have k1 : (1 : Int32).toInt = 1 := by decide
  have u1 : IV (gV σ 23 0 2) 0 7 := hI.1 23 0 2
  refine m_iload_n C dX12_isOne_0 rfl rfl ?_
  refine m_i2l C dX12_isOne_1 ?_
  refine m_lconst (v := 0) C dX12_isOne_2 (by decide) ?_
  refine m_aload_n C dX12_isOne_3 rfl rfl ?_
  refine g_22_0 C q4_116 dX12_isOne_4 ?_
  refine m_iconst (v := 2) C dX12_isOne_7 (by decide) ?_
  refine al_23 C kc_2 (by decide) kn_2 dX12_isOne_8 ?_
  refine m_eqs (w := (gV σ 23 0 2)) rfl ?_
  refine m_iconst (v := 1) C dX12_isOne_9 (by decide) ?_
  refine m_isub C dX12_isOne_10 ?_
  refine m_topi (fun x2 ex2 => ?_)
  have tx2 : x2.toInt = (gV σ 23 0 2).toInt - 1 := by rw [ex2, ti_subv u1 kc_1 (by decide), kt_1]
  have b3 : IV x2 (-1) 6 := by rw [ex2]; exact iv_sub u1 kc_1 (by decide)
  refine m_i2l C dX12_isOne_11 ?_
  refine m_callS (n := 3) (st := []) C (c_X12_in l G σ ((a1 : Int32).toInt64) (0) ((x2 : Int32).toInt64) hI ) q4_190 q4_188 q4_189 q1_7 (by decide +kernel) rfl (by decide) (by decide) rfl (Nat.le_of_ble_eq_true rfl) dX12_isOne_12 ?_
  rintro _ τ4 ⟨x7, rfl, i5, f6, b8, h10⟩
  have g9 : Fr MS_X12_isOneS AS_X12_isOneS σ τ4 := Fr.call (Fr.rf) f6 (by decide)
  have q11 : (gV τ4 23 0 2).toInt = (gV σ 23 0 2).toInt := congrArg Int32.toInt (show (gV τ4 23 0 2) = (gV σ 23 0 2) from (show gV τ4 23 0 2 = (gV σ 23 0 2) from (f6.1 23 0 (2) (by decide) (by decide)).trans rfl))
  have f12 := tl_i a1
  have f13 := kl_0
  have f14 := tl_i x2
  have q15 := b3
  rcases h10 with ⟨h10_0, h10_1, h10_2⟩ | ⟨h10_0, h10_1⟩
  · skip
    have b16 : IV x7 1 1 := ⟨by omega, by omega⟩
    show MW p l e _ s m args below meth c _ 2 G 0 0 15 [some (.ref (G.1 22 0)), some (.int a1)] [.int x7] τ4
    exact m_zret C hr (nar_z (iv_wk b16 (by decide))) hlk (by decide) (by decide) dX12_isOne_15 ⟨_, rfl, i5, g9, (iv_wk b16 (by decide)), (by omega)⟩
  · skip
    have b17 : IV x7 0 0 := ⟨by omega, by omega⟩
    show MW p l e _ s m args below meth c _ 2 G 0 0 15 [some (.ref (G.1 22 0)), some (.int a1)] [.int x7] τ4
    exact m_zret C hr (nar_z (iv_wk b17 (by decide))) hlk (by decide) (by decide) dX12_isOne_15 ⟨_, rfl, i5, g9, (iv_wk b17 (by decide)), (by omega)⟩

abbrev MS_X12_kindS : List (Nat × Nat) := []
abbrev AS_X12_kindS : List Nat := []
set_option maxHeartbeats 4000000 in
set_option maxRecDepth 100000 in
theorem c_X12_kindS (l : Launch) (G : Gt) (σ : Sg) (S : Stt) (I : Nat → Stt) (a1 : Int32) (hI : Inv σ) (hMA : MA σ S I) : Mc l G yX12_kind cX12_kind 2 (some .int) 2 46 0 0 [.ref (G.1 22 0), .int a1] σ (PI fun r τ => Inv τ ∧ Fr MS_X12_kindS AS_X12_kindS σ τ ∧ IV r (-2147483648) 2147483647 ∧ (((a1.toInt < 0 ∨ S.2.1 ≤ a1.toInt) ∧ r.toInt = -1000001) ∨ ((0 ≤ a1.toInt ∧ a1.toInt < S.2.1) ∧ r.toInt = (S.2.2 a1.toInt.toNat).1))) := by
  refine Mc.of (L0 := [some (.ref (G.1 22 0)), some (.int a1)]) (by decide) (Nat.le_of_ble_eq_true rfl) rfl ?_
  intro p e s m args below meth c C hr hlk
  have C : Cx p s m args c cX12_kind 2 "LeanTowerModel" := C
  have k0 : (0 : Int32).toInt = 0 := by decide
  have k1 : (1 : Int32).toInt = 1 := by decide
  have q1 : (gV σ 23 0 2).toInt = S.2.1 := hMA.1.2.2.1
  have q2 := hMA.1.1
  refine m_aload_n C dX12_kind_0 rfl rfl ?_
  refine m_iload_n C dX12_kind_1 rfl rfl ?_
  refine m_callV (n := 1) (ci := 11) (st := []) C (c_X12_isOneS l G σ (a1) hI ) (by decide) (by decide) rfl rfl rfl q5_50 q5_47 q5_49 q0_36 q1_7 (by decide +kernel) rfl (by decide) (by decide) rfl (Nat.le_of_ble_eq_true rfl) dX12_kind_2 ?_
  rintro _ τ3 ⟨x6, rfl, i4, f5, b7, h9⟩
  have g8 : Fr MS_X12_kindS AS_X12_kindS σ τ3 := Fr.call (Fr.rf) f5 (by decide)
  rcases h9 with ⟨h9_0, h9_1, h9_2⟩ | ⟨h9_0, h9_1⟩
  · skip
    have b10 : IV x6 1 1 := ⟨by omega, by omega⟩
    have b11 : IV a1 0 6 := ⟨by omega, by omega⟩
    show MW p l e _ s m args below meth c _ 2 G 0 0 5 [some (.ref (G.1 22 0)), some (.int a1)] [.int x6] τ3
    refine m_if_eq (tgt := 19) C dX12_kind_5 (by decide) (fun c12 => ?_) (fun c12 => ?_)
    · exfalso
      have q : _ := c12
      simp only [ti_nle, ti_nlt, ti_le, ti_lt, ti_eq, ti_ne, Classical.not_not, kt_0] at q
      have q1 := b10; have q2 := kc_0; omega
    · have f14 : x6.toInt ≠ 0 := by
        have q : _ := c12
        simp only [ti_nle, ti_nlt, ti_le, ti_lt, ti_eq, ti_ne, Classical.not_not, kt_0] at q
        omega
      refine m_aload_n C dX12_kind_8 rfl rfl ?_
      refine g_22_0 C q4_116 dX12_kind_9 ?_
      refine m_iconst (v := 3) C dX12_kind_12 (by decide) ?_
      refine m_iload_n C dX12_kind_13 rfl rfl ?_
      refine m_iadd C dX12_kind_14 ?_
      refine m_topi (fun x15 ex15 => ?_)
      have tx15 : x15.toInt = 3 + a1.toInt := by rw [ex15, ti_addv kc_3 b11 (by decide), kt_3]
      have b16 : IV x15 3 9 := by rw [ex15]; exact iv_add kc_3 b11 (by decide)
      refine al_23 C b16 (by decide) rfl dX12_kind_15 ?_
      refine m_topi (fun x17 ex17 => ?_)
      have q18 : x17.toInt = (S.2.2 a1.toInt.toNat).1 := by rw [← (hMA.1.2.2.2 a1.toInt.toNat (by omega)).1, show 0 + (3 + a1.toInt.toNat) = (x15.toInt.toNat) by omega, ← (g8).1 23 0 (x15.toInt.toNat) (by simp) (by decide), show gV τ3 23 0 (x15.toInt.toNat) = x17 from ex17.symm]
      refine m_goto (tgt := 21) C dX12_kind_16 (by decide) ?_
      exact m_iret C hr hlk (by decide) (by decide) dX12_kind_21 ⟨_, rfl, i4, g8, (iv_any x17), (Or.inr ⟨by omega, by omega⟩)⟩
  · skip
    have b19 : IV x6 0 0 := ⟨by omega, by omega⟩
    show MW p l e _ s m args below meth c _ 2 G 0 0 5 [some (.ref (G.1 22 0)), some (.int a1)] [.int x6] τ3
    refine m_if_eq (tgt := 19) C dX12_kind_5 (by decide) (fun c20 => ?_) (fun c20 => ?_)
    · have f21 : x6.toInt = 0 := by
        have q : _ := c20
        simp only [ti_nle, ti_nlt, ti_le, ti_lt, ti_eq, ti_ne, Classical.not_not, kt_0] at q
        omega
      refine m_ldc (v := (-1000001)) C dX12_kind_19 q4_192 ?_
      exact m_iret C hr hlk (by decide) (by decide) dX12_kind_21 ⟨_, rfl, i4, g8, (iv_wk kc_m1000001 (by decide)), (Or.inl ⟨by omega, kt_m1000001⟩)⟩
    · exfalso
      have q : _ := c20
      simp only [ti_nle, ti_nlt, ti_le, ti_lt, ti_eq, ti_ne, Classical.not_not, kt_0] at q
      have q1 := b19; have q2 := kc_0; omega

abbrev MS_X12_isOfS : List (Nat × Nat) := []
abbrev AS_X12_isOfS : List Nat := []
set_option maxHeartbeats 4000000 in
set_option maxRecDepth 100000 in
theorem c_X12_isOfS (l : Launch) (G : Gt) (σ : Sg) (a1 : Int32) (a2 : Int32) (hI : Inv σ) : Mc l G yX12_isOf cX12_isOf 2 (some .boolean) 0 0 0 0 [.int a1, .int a2] σ (PI fun r τ => Inv τ ∧ Fr MS_X12_isOfS AS_X12_isOfS σ τ ∧ IV r 0 1 ∧ ((r.toInt = 1 ∧ (a2.toInt = 0 ∨ a1.toInt = a2.toInt ∨ (a2.toInt = 1 ∧ a1.toInt ≤ 3) ∨ (a2.toInt = 4 ∧ a1.toInt = 5))) ∨ (r.toInt = 0 ∧ ¬ (a2.toInt = 0 ∨ a1.toInt = a2.toInt ∨ (a2.toInt = 1 ∧ a1.toInt ≤ 3) ∨ (a2.toInt = 4 ∧ a1.toInt = 5))))) := by
  refine Mc.of (L0 := [some (.int a1), some (.int a2)]) (by decide) (Nat.le_of_ble_eq_true rfl) rfl ?_
  intro p e s m args below meth c C hr hlk
  have C : Cx p s m args c cX12_isOf 2 "LeanTowerModel" := C
  have k0 : (0 : Int32).toInt = 0 := by decide
  have k1 : (1 : Int32).toInt = 1 := by decide
  refine m_iload_n C dX12_isOf_0 rfl rfl ?_
  refine m_if_eq (tgt := 29) C dX12_isOf_1 (by decide) (fun c1 => ?_) (fun c1 => ?_)
  · have f2 : a2.toInt = 0 := by
      have q : _ := c1
      simp only [ti_nle, ti_nlt, ti_le, ti_lt, ti_eq, ti_ne, Classical.not_not, kt_0] at q
      omega
    have b3 : IV a2 0 0 := ⟨by have q1 := (iv_any a2); have q2 := kc_0; omega, by have q1 := (iv_any a2); have q2 := kc_0; omega⟩
    refine m_iconst (v := 1) C dX12_isOf_29 (by decide) ?_
    refine m_goto (tgt := 34) C dX12_isOf_30 (by decide) ?_
    exact m_zret C hr rfl hlk (by decide) (by decide) dX12_isOf_34 ⟨_, rfl, hI, Fr.rf, (iv_wk kc_1 (by decide)), (by have q := kt_1; omega)⟩
  · have f4 : a2.toInt ≠ 0 := by
      have q : _ := c1
      simp only [ti_nle, ti_nlt, ti_le, ti_lt, ti_eq, ti_ne, Classical.not_not, kt_0] at q
      omega
    refine m_iload_n C dX12_isOf_4 rfl rfl ?_
    refine m_iload_n C dX12_isOf_5 rfl rfl ?_
    refine m_icmp_eq (tgt := 29) C dX12_isOf_6 (by decide) (fun c5 => ?_) (fun c5 => ?_)
    · have f6 : a1.toInt = a2.toInt := by
        have q : _ := c5
        simp only [ti_nle, ti_nlt, ti_le, ti_lt, ti_eq, ti_ne, Classical.not_not] at q
        omega
      refine m_iconst (v := 1) C dX12_isOf_29 (by decide) ?_
      refine m_goto (tgt := 34) C dX12_isOf_30 (by decide) ?_
      exact m_zret C hr rfl hlk (by decide) (by decide) dX12_isOf_34 ⟨_, rfl, hI, Fr.rf, (iv_wk kc_1 (by decide)), (by have q := kt_1; omega)⟩
    · have f7 : a1.toInt ≠ a2.toInt := by
        have q : _ := c5
        simp only [ti_nle, ti_nlt, ti_le, ti_lt, ti_eq, ti_ne, Classical.not_not] at q
        omega
      refine m_iload_n C dX12_isOf_9 rfl rfl ?_
      refine m_iconst (v := 1) C dX12_isOf_10 (by decide) ?_
      refine m_icmp_ne (tgt := 19) C dX12_isOf_11 (by decide) (fun c8 => ?_) (fun c8 => ?_)
      · have f9 : a2.toInt ≠ 1 := by
          have q : _ := c8
          simp only [ti_nle, ti_nlt, ti_le, ti_lt, ti_eq, ti_ne, Classical.not_not, kt_1] at q
          omega
        refine m_iload_n C dX12_isOf_19 rfl rfl ?_
        refine m_iconst (v := 4) C dX12_isOf_20 (by decide) ?_
        refine m_icmp_ne (tgt := 33) C dX12_isOf_21 (by decide) (fun c10 => ?_) (fun c10 => ?_)
        · have f11 : a2.toInt ≠ 4 := by
            have q : _ := c10
            simp only [ti_nle, ti_nlt, ti_le, ti_lt, ti_eq, ti_ne, Classical.not_not, kt_4] at q
            omega
          refine m_iconst (v := 0) C dX12_isOf_33 (by decide) ?_
          exact m_zret C hr rfl hlk (by decide) (by decide) dX12_isOf_34 ⟨_, rfl, hI, Fr.rf, (iv_wk kc_0 (by decide)), (by have q := kt_0; omega)⟩
        · have f12 : a2.toInt = 4 := by
            have q : _ := c10
            simp only [ti_nle, ti_nlt, ti_le, ti_lt, ti_eq, ti_ne, Classical.not_not, kt_4] at q
            omega
          have b13 : IV a2 4 4 := ⟨by have q1 := (iv_any a2); have q2 := kc_4; omega, by have q1 := (iv_any a2); have q2 := kc_4; omega⟩
          refine m_iload_n C dX12_isOf_24 rfl rfl ?_
          refine m_iconst (v := 5) C dX12_isOf_25 (by decide) ?_
          refine m_icmp_ne (tgt := 33) C dX12_isOf_26 (by decide) (fun c14 => ?_) (fun c14 => ?_)
          · have f15 : a1.toInt ≠ 5 := by
              have q : _ := c14
              simp only [ti_nle, ti_nlt, ti_le, ti_lt, ti_eq, ti_ne, Classical.not_not, kt_5] at q
              omega
            refine m_iconst (v := 0) C dX12_isOf_33 (by decide) ?_
            exact m_zret C hr rfl hlk (by decide) (by decide) dX12_isOf_34 ⟨_, rfl, hI, Fr.rf, (iv_wk kc_0 (by decide)), (by have q := kt_0; omega)⟩
          · have f16 : a1.toInt = 5 := by
              have q : _ := c14
              simp only [ti_nle, ti_nlt, ti_le, ti_lt, ti_eq, ti_ne, Classical.not_not, kt_5] at q
              omega
            have b17 : IV a1 5 5 := ⟨by have q1 := (iv_any a1); have q2 := kc_5; omega, by have q1 := (iv_any a1); have q2 := kc_5; omega⟩
            refine m_iconst (v := 1) C dX12_isOf_29 (by decide) ?_
            refine m_goto (tgt := 34) C dX12_isOf_30 (by decide) ?_
            exact m_zret C hr rfl hlk (by decide) (by decide) dX12_isOf_34 ⟨_, rfl, hI, Fr.rf, (iv_wk kc_1 (by decide)), (by have q := kt_1; omega)⟩
      · have f18 : a2.toInt = 1 := by
          have q : _ := c8
          simp only [ti_nle, ti_nlt, ti_le, ti_lt, ti_eq, ti_ne, Classical.not_not, kt_1] at q
          omega
        have b19 : IV a2 1 1 := ⟨by have q1 := (iv_any a2); have q2 := kc_1; omega, by have q1 := (iv_any a2); have q2 := kc_1; omega⟩
        refine m_iload_n C dX12_isOf_14 rfl rfl ?_
        refine m_iconst (v := 3) C dX12_isOf_15 (by decide) ?_
        refine m_icmp_le (tgt := 29) C dX12_isOf_16 (by decide) (fun c20 => ?_) (fun c20 => ?_)
        · have f21 : a1.toInt ≤ 3 := by
            have q : _ := c20
            simp only [ti_nle, ti_nlt, ti_le, ti_lt, ti_eq, ti_ne, Classical.not_not, kt_3] at q
            omega
          have b22 : IV a1 (-2147483648) 3 := ⟨by have q1 := (iv_any a1); have q2 := kc_3; omega, by have q1 := (iv_any a1); have q2 := kc_3; omega⟩
          refine m_iconst (v := 1) C dX12_isOf_29 (by decide) ?_
          refine m_goto (tgt := 34) C dX12_isOf_30 (by decide) ?_
          exact m_zret C hr rfl hlk (by decide) (by decide) dX12_isOf_34 ⟨_, rfl, hI, Fr.rf, (iv_wk kc_1 (by decide)), (by have q := kt_1; omega)⟩
        · have f23 : 3 < a1.toInt := by
            have q : _ := c20
            simp only [ti_nle, ti_nlt, ti_le, ti_lt, ti_eq, ti_ne, Classical.not_not, kt_3] at q
            omega
          have b24 : IV a1 4 2147483647 := ⟨by have q1 := kc_3; have q2 := (iv_any a1); omega, by have q1 := kc_3; have q2 := (iv_any a1); omega⟩
          refine m_iload_n C dX12_isOf_19 rfl rfl ?_
          refine m_iconst (v := 4) C dX12_isOf_20 (by decide) ?_
          refine m_icmp_ne (tgt := 33) C dX12_isOf_21 (by decide) (fun c25 => ?_) (fun c25 => ?_)
          · have f26 : a2.toInt ≠ 4 := by
              have q : _ := c25
              simp only [ti_nle, ti_nlt, ti_le, ti_lt, ti_eq, ti_ne, Classical.not_not, kt_4] at q
              omega
            refine m_iconst (v := 0) C dX12_isOf_33 (by decide) ?_
            exact m_zret C hr rfl hlk (by decide) (by decide) dX12_isOf_34 ⟨_, rfl, hI, Fr.rf, (iv_wk kc_0 (by decide)), (by have q := kt_0; omega)⟩
          · exfalso
            have q : _ := c25
            simp only [ti_nle, ti_nlt, ti_le, ti_lt, ti_eq, ti_ne, Classical.not_not, kt_4] at q
            have q1 := b19; have q2 := kc_4; omega

abbrev MS_X12_asS : List (Nat × Nat) := [(22, 8)]
abbrev AS_X12_asS : List Nat := []
set_option maxHeartbeats 4000000 in
set_option maxRecDepth 100000 in
theorem c_X12_asS (l : Launch) (G : Gt) (σ : Sg) (S : Stt) (I : Nat → Stt) (a1 : Int32) (a2 : Int32) (hI : Inv σ) (hMA : MA σ S I) : Mc l G yX12_as cX12_as 3 (some .int) 2 46 0 0 [.ref (G.1 22 0), .int a1, .int a2] σ (PI fun r τ => Inv τ ∧ Fr MS_X12_asS AS_X12_asS σ τ ∧ IV r (-2147483648) 2147483647 ∧ ((((a1.toInt < 0 ∨ S.2.1 ≤ a1.toInt) ∨ a2.toInt < 0 ∨ 5 < a2.toInt) ∧ r.toInt = -1000001) ∨ ((0 ≤ a1.toInt ∧ a1.toInt < S.2.1) ∧ 0 ≤ a2.toInt ∧ a2.toInt ≤ 5 ∧ (a2.toInt = 0 ∨ (S.2.2 a1.toInt.toNat).1 = a2.toInt ∨ (a2.toInt = 1 ∧ (S.2.2 a1.toInt.toNat).1 ≤ 3) ∨ (a2.toInt = 4 ∧ (S.2.2 a1.toInt.toNat).1 = 5)) ∧ r.toInt = a1.toInt) ∨ ((0 ≤ a1.toInt ∧ a1.toInt < S.2.1) ∧ 0 ≤ a2.toInt ∧ a2.toInt ≤ 5 ∧ ¬ (a2.toInt = 0 ∨ (S.2.2 a1.toInt.toNat).1 = a2.toInt ∨ (a2.toInt = 1 ∧ (S.2.2 a1.toInt.toNat).1 ≤ 3) ∨ (a2.toInt = 4 ∧ (S.2.2 a1.toInt.toNat).1 = 5)) ∧ r.toInt = -1000013))) := by
  refine Mc.of (L0 := [some (.ref (G.1 22 0)), some (.int a1), some (.int a2)]) (by decide) (Nat.le_of_ble_eq_true rfl) rfl ?_
  intro p e s m args below meth c C hr hlk
  have C : Cx p s m args c cX12_as 3 "LeanTowerModel" := C
  have k0 : (0 : Int32).toInt = 0 := by decide
  have k1 : (1 : Int32).toInt = 1 := by decide
  have q1 : (gV σ 23 0 2).toInt = S.2.1 := hMA.1.2.2.1
  have q2 := hMA.1.1
  refine m_aload_n C dX12_as_0 rfl rfl ?_
  refine m_iload_n C dX12_as_1 rfl rfl ?_
  refine m_callV (n := 1) (ci := 11) (st := []) C (c_X12_isOneS l G σ (a1) hI ) (by decide) (by decide) rfl rfl rfl q5_50 q5_47 q5_49 q0_36 q1_7 (by decide +kernel) rfl (by decide) (by decide) rfl (Nat.le_of_ble_eq_true rfl) dX12_as_2 ?_
  rintro _ τ3 ⟨x6, rfl, i4, f5, b7, h9⟩
  have g8 : Fr MS_X12_asS AS_X12_asS σ τ3 := Fr.call (Fr.rf) f5 (by decide)
  rcases h9 with ⟨h9_0, h9_1, h9_2⟩ | ⟨h9_0, h9_1⟩
  · skip
    have b10 : IV x6 1 1 := ⟨by omega, by omega⟩
    have b11 : IV a1 0 6 := ⟨by omega, by omega⟩
    show MW p l e _ s m args below meth c _ 3 G 0 0 5 [some (.ref (G.1 22 0)), some (.int a1), some (.int a2)] [.int x6] τ3
    refine m_if_eq (tgt := 20) C dX12_as_5 (by decide) (fun c12 => ?_) (fun c12 => ?_)
    · exfalso
      have q : _ := c12
      simp only [ti_nle, ti_nlt, ti_le, ti_lt, ti_eq, ti_ne, Classical.not_not, kt_0] at q
      have q1 := b10; have q2 := kc_0; omega
    · have f14 : x6.toInt ≠ 0 := by
        have q : _ := c12
        simp only [ti_nle, ti_nlt, ti_le, ti_lt, ti_eq, ti_ne, Classical.not_not, kt_0] at q
        omega
      refine m_iload_n C dX12_as_8 rfl rfl ?_
      refine m_i2l C dX12_as_9 ?_
      refine m_lconst (v := 0) C dX12_as_10 (by decide) ?_
      refine m_ldc2 (v := 5) C dX12_as_11 q5_173 ?_
      refine m_callS (n := 3) (st := []) C (c_X12_in l G τ3 ((a2 : Int32).toInt64) (0) (5) i4 ) q4_190 q4_188 q4_189 q1_7 (by decide +kernel) rfl (by decide) (by decide) rfl (Nat.le_of_ble_eq_true rfl) dX12_as_14 ?_
      rintro _ τ15 ⟨x18, rfl, i16, f17, b19, h21⟩
      have g20 : Fr MS_X12_asS AS_X12_asS σ τ15 := Fr.call (g8) f17 (by decide)
      have f22 := tl_i a2
      have f23 := kl_0
      have f24 := kl_5
      rcases h21 with ⟨h21_0, h21_1, h21_2⟩ | ⟨h21_0, h21_1⟩
      · skip
        have b25 : IV x18 1 1 := ⟨by omega, by omega⟩
        show MW p l e _ s m args below meth c _ 3 G 0 0 17 [some (.ref (G.1 22 0)), some (.int a1), some (.int a2)] [.int x18] τ15
        refine m_if_ne (tgt := 23) C dX12_as_17 (by decide) (fun c26 => ?_) (fun c26 => ?_)
        · have f27 : x18.toInt ≠ 0 := by
            have q : _ := c26
            simp only [ti_nle, ti_nlt, ti_le, ti_lt, ti_eq, ti_ne, Classical.not_not, kt_0] at q
            omega
          have b28 : IV a2 0 5 := ⟨by have q1 := (iv_any a2); omega, by have q1 := (iv_any a2); omega⟩
          refine m_aload_n C dX12_as_23 rfl rfl ?_
          refine g_22_0 C q4_116 dX12_as_24 ?_
          refine m_iconst (v := 3) C dX12_as_27 (by decide) ?_
          refine m_iload_n C dX12_as_28 rfl rfl ?_
          refine m_iadd C dX12_as_29 ?_
          refine m_topi (fun x29 ex29 => ?_)
          have tx29 : x29.toInt = 3 + a1.toInt := by rw [ex29, ti_addv kc_3 b11 (by decide), kt_3]
          have b30 : IV x29 3 9 := by rw [ex29]; exact iv_add kc_3 b11 (by decide)
          refine al_23 C b30 (by decide) rfl dX12_as_30 ?_
          refine m_topi (fun x31 ex31 => ?_)
          have q32 : x31.toInt = (S.2.2 a1.toInt.toNat).1 := by rw [← (hMA.1.2.2.2 a1.toInt.toNat (by omega)).1, show 0 + (3 + a1.toInt.toNat) = (x29.toInt.toNat) by omega, ← (g20).1 23 0 (x29.toInt.toNat) (by simp) (by decide), show gV τ15 23 0 (x29.toInt.toNat) = x31 from ex31.symm]
          refine m_iload_n C dX12_as_31 rfl rfl ?_
          refine m_callS (n := 2) (st := []) C (c_X12_isOfS l G τ15 (x31) (a2) i16 ) q5_193 q5_191 q5_192 q1_7 (by decide +kernel) rfl (by decide) (by decide) rfl (Nat.le_of_ble_eq_true rfl) dX12_as_32 ?_
          rintro _ τ33 ⟨x36, rfl, i34, f35, b37, h39⟩
          have g38 : Fr MS_X12_asS AS_X12_asS σ τ33 := Fr.call (g20) f35 (by decide)
          rcases h39 with ⟨h39_0, h39_1⟩ | ⟨h39_0, h39_1⟩
          · skip
            have b40 : IV x36 1 1 := ⟨by omega, by omega⟩
            show MW p l e _ s m args below meth c _ 3 G 0 0 35 [some (.ref (G.1 22 0)), some (.int a1), some (.int a2)] [.int x36] τ33
            refine m_if_eq (tgt := 46) C dX12_as_35 (by decide) (fun c41 => ?_) (fun c41 => ?_)
            · exfalso
              have q : _ := c41
              simp only [ti_nle, ti_nlt, ti_le, ti_lt, ti_eq, ti_ne, Classical.not_not, kt_0] at q
              have q1 := b40; have q2 := kc_0; omega
            · have f43 : x36.toInt ≠ 0 := by
                have q : _ := c41
                simp only [ti_nle, ti_nlt, ti_le, ti_lt, ti_eq, ti_ne, Classical.not_not, kt_0] at q
                omega
              refine m_aload_n C dX12_as_38 rfl rfl ?_
              refine m_iload_n C dX12_as_39 rfl rfl ?_
              refine m_callV (n := 1) (ci := 11) (st := []) C (c_X12_fine l G τ33 (a1) i34 ) (by decide) (by decide) rfl rfl rfl q4_201 q4_198 q4_200 q0_27 q1_7 (by decide +kernel) rfl (by decide) (by decide) rfl (Nat.le_of_ble_eq_true rfl) dX12_as_40 ?_
              rintro _ τ44 ⟨x47, rfl, i45, f46, b48, h50⟩
              have g49 : Fr MS_X12_asS AS_X12_asS σ τ44 := Fr.call (g38) f46 (by decide)
              show MW p l e _ s m args below meth c _ 3 G 0 0 43 [some (.ref (G.1 22 0)), some (.int a1), some (.int a2)] [.int x47] τ44
              refine m_goto (tgt := 51) C dX12_as_43 (by decide) ?_
              exact m_iret C hr hlk (by decide) (by decide) dX12_as_51 ⟨_, rfl, i45, g49, b48, (Or.inr (Or.inl ⟨by omega, by omega, by omega, by omega, by omega⟩))⟩
          · skip
            have b51 : IV x36 0 0 := ⟨by omega, by omega⟩
            show MW p l e _ s m args below meth c _ 3 G 0 0 35 [some (.ref (G.1 22 0)), some (.int a1), some (.int a2)] [.int x36] τ33
            refine m_if_eq (tgt := 46) C dX12_as_35 (by decide) (fun c52 => ?_) (fun c52 => ?_)
            · have f53 : x36.toInt = 0 := by
                have q : _ := c52
                simp only [ti_nle, ti_nlt, ti_le, ti_lt, ti_eq, ti_ne, Classical.not_not, kt_0] at q
                omega
              refine m_aload_n C dX12_as_46 rfl rfl ?_
              refine m_iconst (v := 3) C dX12_as_47 (by decide) ?_
              refine m_callV (n := 1) (ci := 11) (st := []) C (c_X12_met l G τ33 (3) i34 (iv_wk kc_3 (by decide))) (by decide) (by decide) rfl rfl rfl q4_196 q4_193 q4_195 q0_26 q1_7 (by decide +kernel) rfl (by decide) (by decide) rfl (Nat.le_of_ble_eq_true rfl) dX12_as_48 ?_
              rintro _ τ54 ⟨x57, rfl, i55, f56, b58, h60⟩
              have g59 : Fr MS_X12_asS AS_X12_asS σ τ54 := Fr.call (g38) f56 (by decide)
              have q61 := kt_3
              show MW p l e _ s m args below meth c _ 3 G 0 0 51 [some (.ref (G.1 22 0)), some (.int a1), some (.int a2)] [.int x57] τ54
              exact m_iret C hr hlk (by decide) (by decide) dX12_as_51 ⟨_, rfl, i55, g59, (iv_wk b58 (by decide)), (Or.inr (Or.inr (⟨by omega, by omega, by omega, by omega, by omega⟩)))⟩
            · exfalso
              have q : _ := c52
              simp only [ti_nle, ti_nlt, ti_le, ti_lt, ti_eq, ti_ne, Classical.not_not, kt_0] at q
              have q1 := b51; have q2 := kc_0; omega
        · exfalso
          have q : _ := c26
          simp only [ti_nle, ti_nlt, ti_le, ti_lt, ti_eq, ti_ne, Classical.not_not, kt_0] at q
          have q1 := b25; have q2 := kc_0; omega
      · skip
        have b64 : IV x18 0 0 := ⟨by omega, by omega⟩
        show MW p l e _ s m args below meth c _ 3 G 0 0 17 [some (.ref (G.1 22 0)), some (.int a1), some (.int a2)] [.int x18] τ15
        refine m_if_ne (tgt := 23) C dX12_as_17 (by decide) (fun c65 => ?_) (fun c65 => ?_)
        · exfalso
          have q : _ := c65
          simp only [ti_nle, ti_nlt, ti_le, ti_lt, ti_eq, ti_ne, Classical.not_not, kt_0] at q
          have q1 := b64; have q2 := kc_0; omega
        · have f67 : x18.toInt = 0 := by
            have q : _ := c65
            simp only [ti_nle, ti_nlt, ti_le, ti_lt, ti_eq, ti_ne, Classical.not_not, kt_0] at q
            omega
          refine m_ldc (v := (-1000001)) C dX12_as_20 q4_192 ?_
          exact m_iret C hr hlk (by decide) (by decide) dX12_as_22 ⟨_, rfl, i16, g20, (iv_wk kc_m1000001 (by decide)), (Or.inl ⟨by have q := kt_m1000001; omega, by have q := kt_m1000001; omega⟩)⟩
  · skip
    have b68 : IV x6 0 0 := ⟨by omega, by omega⟩
    show MW p l e _ s m args below meth c _ 3 G 0 0 5 [some (.ref (G.1 22 0)), some (.int a1), some (.int a2)] [.int x6] τ3
    refine m_if_eq (tgt := 20) C dX12_as_5 (by decide) (fun c69 => ?_) (fun c69 => ?_)
    · have f70 : x6.toInt = 0 := by
        have q : _ := c69
        simp only [ti_nle, ti_nlt, ti_le, ti_lt, ti_eq, ti_ne, Classical.not_not, kt_0] at q
        omega
      refine m_ldc (v := (-1000001)) C dX12_as_20 q4_192 ?_
      exact m_iret C hr hlk (by decide) (by decide) dX12_as_22 ⟨_, rfl, i4, g8, (iv_wk kc_m1000001 (by decide)), (Or.inl ⟨by have q := kt_m1000001; omega, by have q := kt_m1000001; omega⟩)⟩
    · exfalso
      have q : _ := c69
      simp only [ti_nle, ti_nlt, ti_le, ti_lt, ti_eq, ti_ne, Classical.not_not, kt_0] at q
      have q1 := b68; have q2 := kc_0; omega
