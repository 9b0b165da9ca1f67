abbrev MS_X4_stride : List (Nat × Nat) := []
abbrev AS_X4_stride : List Nat := []
set_option maxHeartbeats 4000000 in
set_option maxRecDepth 100000 in
theorem c_X4_stride (l : Launch) (G : Gt) (σ : Sg) (a0 : Nat) (hI : Inv σ) (ha0 : a0 ∈ σ.2.2.2.1) : Mc l G yX4_stride cX4_stride 1 (some .int) 0 0 0 0 [.ref a0] σ (PI fun r τ => Inv τ ∧ Fr MS_X4_stride AS_X4_stride σ τ ∧ IV r 1 1) := by
  refine Mc.of (L0 := [some (.ref a0)]) (by decide) (Nat.le_of_ble_eq_true rfl) rfl ?_
  intro p e s m args below meth c C hr hlk
  have C : Cx p s m args c cX4_stride 1 "LeanTower$Person" := C
  have k0 : (0 : Int32).toInt = 0 := by decide
  have k1 : (1 : Int32).toInt = 1 := by decide
  refine m_iconst (v := 1) C dX4_stride_0 (by decide) ?_
  exact m_iret C hr hlk (by decide) (by decide) dX4_stride_1 ⟨_, rfl, hI, Fr.rf, kc_1⟩

abbrev MS_X3_stride : List (Nat × Nat) := []
abbrev AS_X3_stride : List Nat := []
set_option maxHeartbeats 4000000 in
set_option maxRecDepth 100000 in
theorem c_X3_stride (l : Launch) (G : Gt) (σ : Sg) (a0 : Nat) (hI : Inv σ) (ha0 : a0 ∈ σ.2.2.2.1) : Mc l G yX3_stride cX3_stride 1 (some .int) 0 0 0 0 [.ref a0] σ (PI fun r τ => Inv τ ∧ Fr MS_X3_stride AS_X3_stride σ τ ∧ IV r 2 2) := by
  refine Mc.of (L0 := [some (.ref a0)]) (by decide) (Nat.le_of_ble_eq_true rfl) rfl ?_
  intro p e s m args below meth c C hr hlk
  have C : Cx p s m args c cX3_stride 1 "LeanTower$Monk" := C
  have k0 : (0 : Int32).toInt = 0 := by decide
  have k1 : (1 : Int32).toInt = 1 := by decide
  refine m_iconst (v := 2) C dX3_stride_0 (by decide) ?_
  exact m_iret C hr hlk (by decide) (by decide) dX3_stride_1 ⟨_, rfl, hI, Fr.rf, kc_2⟩

abbrev MS_X1_stride : List (Nat × Nat) := []
abbrev AS_X1_stride : List Nat := []
set_option maxHeartbeats 4000000 in
set_option maxRecDepth 100000 in
theorem c_X1_stride (l : Launch) (G : Gt) (σ : Sg) (a0 : Nat) (hI : Inv σ) (ha0 : a0 ∈ σ.2.2.2.1) : Mc l G yX1_stride cX1_stride 1 (some .int) 0 0 0 0 [.ref a0] σ (PI fun r τ => Inv τ ∧ Fr MS_X1_stride AS_X1_stride σ τ ∧ IV r 1 1) := by
  refine Mc.of (L0 := [some (.ref a0)]) (by decide) (Nat.le_of_ble_eq_true rfl) rfl ?_
  intro p e s m args below meth c C hr hlk
  have C : Cx p s m args c cX1_stride 1 "LeanTower$Bishop" := C
  have k0 : (0 : Int32).toInt = 0 := by decide
  have k1 : (1 : Int32).toInt = 1 := by decide
  refine m_iconst (v := 1) C dX1_stride_0 (by decide) ?_
  exact m_iret C hr hlk (by decide) (by decide) dX1_stride_1 ⟨_, rfl, hI, Fr.rf, kc_1⟩

abbrev MS_X1_ownKind : List (Nat × Nat) := []
abbrev AS_X1_ownKind : List Nat := []
set_option maxHeartbeats 4000000 in
set_option maxRecDepth 100000 in
theorem c_X1_ownKind (l : Launch) (G : Gt) (σ : Sg) (a0 : Nat) (hI : Inv σ) (ha0 : a0 ∈ σ.2.2.2.1) : Mc l G yX1_ownKind cX1_ownKind 1 (some .int) 0 0 0 0 [.ref a0] σ (PI fun r τ => Inv τ ∧ Fr MS_X1_ownKind AS_X1_ownKind σ τ ∧ IV r 5 5) := by
  refine Mc.of (L0 := [some (.ref a0)]) (by decide) (Nat.le_of_ble_eq_true rfl) rfl ?_
  intro p e s m args below meth c C hr hlk
  have C : Cx p s m args c cX1_ownKind 1 "LeanTower$Bishop" := C
  have k0 : (0 : Int32).toInt = 0 := by decide
  have k1 : (1 : Int32).toInt = 1 := by decide
  refine m_iconst (v := 5) C dX1_ownKind_0 (by decide) ?_
  exact m_iret C hr hlk (by decide) (by decide) dX1_ownKind_1 ⟨_, rfl, hI, Fr.rf, kc_5⟩

abbrev MS_X2_ownKind : List (Nat × Nat) := []
abbrev AS_X2_ownKind : List Nat := []
set_option maxHeartbeats 4000000 in
set_option maxRecDepth 100000 in
theorem c_X2_ownKind (l : Launch) (G : Gt) (σ : Sg) (a0 : Nat) (hI : Inv σ) (ha0 : a0 ∈ σ.2.2.2.1) : Mc l G yX2_ownKind cX2_ownKind 1 (some .int) 0 0 0 0 [.ref a0] σ (PI fun r τ => Inv τ ∧ Fr MS_X2_ownKind AS_X2_ownKind σ τ ∧ IV r 3 3) := by
  refine Mc.of (L0 := [some (.ref a0)]) (by decide) (Nat.le_of_ble_eq_true rfl) rfl ?_
  intro p e s m args below meth c C hr hlk
  have C : Cx p s m args c cX2_ownKind 1 "LeanTower$Boy" := C
  have k0 : (0 : Int32).toInt = 0 := by decide
  have k1 : (1 : Int32).toInt = 1 := by decide
  refine m_iconst (v := 3) C dX2_ownKind_0 (by decide) ?_
  exact m_iret C hr hlk (by decide) (by decide) dX2_ownKind_1 ⟨_, rfl, hI, Fr.rf, kc_3⟩

abbrev MS_X3_ownKind : List (Nat × Nat) := []
abbrev AS_X3_ownKind : List Nat := []
set_option maxHeartbeats 4000000 in
set_option maxRecDepth 100000 in
theorem c_X3_ownKind (l : Launch) (G : Gt) (σ : Sg) (a0 : Nat) (hI : Inv σ) (ha0 : a0 ∈ σ.2.2.2.1) : Mc l G yX3_ownKind cX3_ownKind 1 (some .int) 0 0 0 0 [.ref a0] σ (PI fun r τ => Inv τ ∧ Fr MS_X3_ownKind AS_X3_ownKind σ τ ∧ IV r 4 4) := by
  refine Mc.of (L0 := [some (.ref a0)]) (by decide) (Nat.le_of_ble_eq_true rfl) rfl ?_
  intro p e s m args below meth c C hr hlk
  have C : Cx p s m args c cX3_ownKind 1 "LeanTower$Monk" := C
  have k0 : (0 : Int32).toInt = 0 := by decide
  have k1 : (1 : Int32).toInt = 1 := by decide
  refine m_iconst (v := 4) C dX3_ownKind_0 (by decide) ?_
  exact m_iret C hr hlk (by decide) (by decide) dX3_ownKind_1 ⟨_, rfl, hI, Fr.rf, kc_4⟩

abbrev MS_X5_ownKind : List (Nat × Nat) := []
abbrev AS_X5_ownKind : List Nat := []
set_option maxHeartbeats 4000000 in
set_option maxRecDepth 100000 in
theorem c_X5_ownKind (l : Launch) (G : Gt) (σ : Sg) (a0 : Nat) (hI : Inv σ) (ha0 : a0 ∈ σ.2.2.2.1) : Mc l G yX5_ownKind cX5_ownKind 1 (some .int) 0 0 0 0 [.ref a0] σ (PI fun r τ => Inv τ ∧ Fr MS_X5_ownKind AS_X5_ownKind σ τ ∧ IV r 1 1) := by
  refine Mc.of (L0 := [some (.ref a0)]) (by decide) (Nat.le_of_ble_eq_true rfl) rfl ?_
  intro p e s m args below meth c C hr hlk
  have C : Cx p s m args c cX5_ownKind 1 "LeanTower$Pilgrim" := C
  have k0 : (0 : Int32).toInt = 0 := by decide
  have k1 : (1 : Int32).toInt = 1 := by decide
  refine m_iconst (v := 1) C dX5_ownKind_0 (by decide) ?_
  exact m_iret C hr hlk (by decide) (by decide) dX5_ownKind_1 ⟨_, rfl, hI, Fr.rf, kc_1⟩

abbrev MS_X10_ownKind : List (Nat × Nat) := []
abbrev AS_X10_ownKind : List Nat := []
set_option maxHeartbeats 4000000 in
set_option maxRecDepth 100000 in
theorem c_X10_ownKind (l : Launch) (G : Gt) (σ : Sg) (a0 : Nat) (hI : Inv σ) (ha0 : a0 ∈ σ.2.2.2.1) : Mc l G yX10_ownKind cX10_ownKind 1 (some .int) 0 0 0 0 [.ref a0] σ (PI fun r τ => Inv τ ∧ Fr MS_X10_ownKind AS_X10_ownKind σ τ ∧ IV r 2 2) := by
  refine Mc.of (L0 := [some (.ref a0)]) (by decide) (Nat.le_of_ble_eq_true rfl) rfl ?_
  intro p e s m args below meth c C hr hlk
  have C : Cx p s m args c cX10_ownKind 1 "LeanTower$Widow" := C
  have k0 : (0 : Int32).toInt = 0 := by decide
  have k1 : (1 : Int32).toInt = 1 := by decide
  refine m_iconst (v := 2) C dX10_ownKind_0 (by decide) ?_
  exact m_iret C hr hlk (by decide) (by decide) dX10_ownKind_1 ⟨_, rfl, hI, Fr.rf, kc_2⟩

set_option maxHeartbeats 4000000 in
theorem v_stride {p : Program} {l : Launch} {e : Env} {R : Room} {s : State} {m : MethodId} {args : Array Value} {below : List Frame} {meth : Method} {c : Code} {cells slots : Nat} {Q : State → Prop} {cc : ByteArray} {nL : Nat} {own : String} {G : Gt} {σ : Sg} {pc : Nat} {L : List (Option Value)} {st : List Value} (C : Cx p s m args c cc nL own) {index a : Nat} (ql : Cond.methodLink own index ⟨"LeanTower$Person", "stride", "()I"⟩ ∈ WA) (hI : Inv σ) (ha : a ∈ σ.2.2.2.1) (hR : 1 ≤ R.frames ∧ 20 ≤ R.locals) (hf : cells ≤ R.cells ∧ slots ≤ R.slots) (hW : (st.map fun v => v.category).sum ≤ 8) (d : decode cc pc = .ok (.invokevirtual index, 3)) (kk : ∀ (r : Int32) (τ : Sg), Inv τ → Fr [] [] σ τ → MW p l e R s m args below meth c Q nL G cells slots (pc + 3) L (.int r :: st) τ) : MW p l e R s m args below meth c Q nL G cells slots pc L (.ref a :: st) σ := by
  have hk := hI.2.2.2 a ha
  simp only [List.mem_cons, List.not_mem_nil, or_false] at hk
  rcases hk with hk | hk | hk | hk | hk
  · refine m_callU (x := ⟨"LeanTower$Person", "stride", "()I"⟩) (owner := "LeanTower$Person") (n := 0) (As := []) (st := st) C (c_X1_stride l G σ a hI ha ) ha hk rfl (fun hK => va_cwO (owner := "LeanTower$Person") 0 C.2.2.2.2 (goodIn_app (wa_gl (List.forall_mem_cons.mpr ⟨ql, List.forall_mem_cons.mpr ⟨q3_50, List.forall_mem_cons.mpr ⟨q3_49, List.forall_mem_cons.mpr ⟨q3_51, List.forall_mem_cons.mpr ⟨q3_52, List.forall_mem_cons.mpr ⟨q1_18, fun _ h => absurd h List.not_mem_nil⟩⟩⟩⟩⟩⟩)) (wa_goodIn _ _ _ _ q3_53)) rfl rfl rfl q3_60 (by decide +kernel) ⟨Nat.le_trans (by decide) hR.1, Nat.le_trans (by decide) hR.2⟩) rfl hf rfl hW d ?_
    rintro _ τ ⟨r, rfl, i, f, _⟩
    exact kk r τ i (Fr.call Fr.rf f (by decide))
  · refine m_callU (x := ⟨"LeanTower$Person", "stride", "()I"⟩) (owner := "LeanTower$Person") (n := 0) (As := []) (st := st) C (c_X4_stride l G σ a hI ha ) ha hk rfl (fun hK => va_cwU (owner := "LeanTower$Person") 0 C.2.2.2.2 (goodIn_app (wa_gl (List.forall_mem_cons.mpr ⟨ql, List.forall_mem_cons.mpr ⟨q3_50, List.forall_mem_cons.mpr ⟨q3_54, List.forall_mem_cons.mpr ⟨q3_49, List.forall_mem_cons.mpr ⟨q1_13, fun _ h => absurd h List.not_mem_nil⟩⟩⟩⟩⟩)) (wa_goodIn _ _ _ _ q3_60)) rfl rfl rfl rfl (by decide +kernel) ⟨Nat.le_trans (by decide) hR.1, Nat.le_trans (by decide) hR.2⟩) rfl hf rfl hW d ?_
    rintro _ τ ⟨r, rfl, i, f, _⟩
    exact kk r τ i (Fr.call Fr.rf f (by decide))
  · refine m_callU (x := ⟨"LeanTower$Person", "stride", "()I"⟩) (owner := "LeanTower$Person") (n := 0) (As := []) (st := st) C (c_X3_stride l G σ a hI ha ) ha hk rfl (fun hK => va_cwO (owner := "LeanTower$Person") 0 C.2.2.2.2 (goodIn_app (wa_gl (List.forall_mem_cons.mpr ⟨ql, List.forall_mem_cons.mpr ⟨q3_50, List.forall_mem_cons.mpr ⟨q3_49, List.forall_mem_cons.mpr ⟨q3_55, List.forall_mem_cons.mpr ⟨q3_56, List.forall_mem_cons.mpr ⟨q1_17, fun _ h => absurd h List.not_mem_nil⟩⟩⟩⟩⟩⟩)) (wa_goodIn _ _ _ _ q3_57)) rfl rfl rfl q3_60 (by decide +kernel) ⟨Nat.le_trans (by decide) hR.1, Nat.le_trans (by decide) hR.2⟩) rfl hf rfl hW d ?_
    rintro _ τ ⟨r, rfl, i, f, _⟩
    exact kk r τ i (Fr.call Fr.rf f (by decide))
  · refine m_callU (x := ⟨"LeanTower$Person", "stride", "()I"⟩) (owner := "LeanTower$Person") (n := 0) (As := []) (st := st) C (c_X4_stride l G σ a hI ha ) ha hk rfl (fun hK => va_cwU (owner := "LeanTower$Person") 0 C.2.2.2.2 (goodIn_app (wa_gl (List.forall_mem_cons.mpr ⟨ql, List.forall_mem_cons.mpr ⟨q3_50, List.forall_mem_cons.mpr ⟨q3_58, List.forall_mem_cons.mpr ⟨q3_49, List.forall_mem_cons.mpr ⟨q1_13, fun _ h => absurd h List.not_mem_nil⟩⟩⟩⟩⟩)) (wa_goodIn _ _ _ _ q3_60)) rfl rfl rfl rfl (by decide +kernel) ⟨Nat.le_trans (by decide) hR.1, Nat.le_trans (by decide) hR.2⟩) rfl hf rfl hW d ?_
    rintro _ τ ⟨r, rfl, i, f, _⟩
    exact kk r τ i (Fr.call Fr.rf f (by decide))
  · refine m_callU (x := ⟨"LeanTower$Person", "stride", "()I"⟩) (owner := "LeanTower$Person") (n := 0) (As := []) (st := st) C (c_X4_stride l G σ a hI ha ) ha hk rfl (fun hK => va_cwU (owner := "LeanTower$Person") 0 C.2.2.2.2 (goodIn_app (wa_gl (List.forall_mem_cons.mpr ⟨ql, List.forall_mem_cons.mpr ⟨q3_50, List.forall_mem_cons.mpr ⟨q3_59, List.forall_mem_cons.mpr ⟨q3_49, List.forall_mem_cons.mpr ⟨q1_13, fun _ h => absurd h List.not_mem_nil⟩⟩⟩⟩⟩)) (wa_goodIn _ _ _ _ q3_60)) rfl rfl rfl rfl (by decide +kernel) ⟨Nat.le_trans (by decide) hR.1, Nat.le_trans (by decide) hR.2⟩) rfl hf rfl hW d ?_
    rintro _ τ ⟨r, rfl, i, f, _⟩
    exact kk r τ i (Fr.call Fr.rf f (by decide))

set_option maxHeartbeats 4000000 in
theorem v_ownKind {p : Program} {l : Launch} {e : Env} {R : Room} {s : State} {m : MethodId} {args : Array Value} {below : List Frame} {meth : Method} {c : Code} {cells slots : Nat} {Q : State → Prop} {cc : ByteArray} {nL : Nat} {own : String} {G : Gt} {σ : Sg} {pc : Nat} {L : List (Option Value)} {st : List Value} (C : Cx p s m args c cc nL own) {index a : Nat} (ql : Cond.methodLink own index ⟨"LeanTower$Person", "ownKind", "()I"⟩ ∈ WA) (hI : Inv σ) (ha : a ∈ σ.2.2.2.1) (hR : 1 ≤ R.frames ∧ 20 ≤ R.locals) (hf : cells ≤ R.cells ∧ slots ≤ R.slots) (hW : (st.map fun v => v.category).sum ≤ 8) (d : decode cc pc = .ok (.invokevirtual index, 3)) (kk : ∀ (r : Int32) (τ : Sg), Inv τ → Fr [] [] σ τ → MW p l e R s m args below meth c Q nL G cells slots (pc + 3) L (.int r :: st) τ) : MW p l e R s m args below meth c Q nL G cells slots pc L (.ref a :: st) σ := by
  have hk := hI.2.2.2 a ha
  simp only [List.mem_cons, List.not_mem_nil, or_false] at hk
  rcases hk with hk | hk | hk | hk | hk
  · refine m_callU (x := ⟨"LeanTower$Person", "ownKind", "()I"⟩) (owner := "LeanTower$Person") (n := 0) (As := []) (st := st) C (c_X1_ownKind l G σ a hI ha ) ha hk rfl (fun hK => va_cwA (owner := "LeanTower$Person") 0 C.2.2.2.2 (goodIn_app (wa_gl (List.forall_mem_cons.mpr ⟨ql, List.forall_mem_cons.mpr ⟨q4_11, List.forall_mem_cons.mpr ⟨q4_12, List.forall_mem_cons.mpr ⟨q4_13, List.forall_mem_cons.mpr ⟨q1_18, fun _ h => absurd h List.not_mem_nil⟩⟩⟩⟩⟩)) (wa_goodIn _ _ _ _ q4_14)) rfl rfl rfl hK.2.2.2.2.2.2.1 (by decide +kernel) ⟨Nat.le_trans (by decide) hR.1, Nat.le_trans (by decide) hR.2⟩) rfl hf rfl hW d ?_
    rintro _ τ ⟨r, rfl, i, f, _⟩
    exact kk r τ i (Fr.call Fr.rf f (by decide))
  · refine m_callU (x := ⟨"LeanTower$Person", "ownKind", "()I"⟩) (owner := "LeanTower$Person") (n := 0) (As := []) (st := st) C (c_X2_ownKind l G σ a hI ha ) ha hk rfl (fun hK => va_cwA (owner := "LeanTower$Person") 0 C.2.2.2.2 (goodIn_app (wa_gl (List.forall_mem_cons.mpr ⟨ql, List.forall_mem_cons.mpr ⟨q4_11, List.forall_mem_cons.mpr ⟨q4_15, List.forall_mem_cons.mpr ⟨q4_16, List.forall_mem_cons.mpr ⟨q1_16, fun _ h => absurd h List.not_mem_nil⟩⟩⟩⟩⟩)) (wa_goodIn _ _ _ _ q4_17)) rfl rfl rfl hK.2.2.2.2.2.2.1 (by decide +kernel) ⟨Nat.le_trans (by decide) hR.1, Nat.le_trans (by decide) hR.2⟩) rfl hf rfl hW d ?_
    rintro _ τ ⟨r, rfl, i, f, _⟩
    exact kk r τ i (Fr.call Fr.rf f (by decide))
  · refine m_callU (x := ⟨"LeanTower$Person", "ownKind", "()I"⟩) (owner := "LeanTower$Person") (n := 0) (As := []) (st := st) C (c_X3_ownKind l G σ a hI ha ) ha hk rfl (fun hK => va_cwA (owner := "LeanTower$Person") 0 C.2.2.2.2 (goodIn_app (wa_gl (List.forall_mem_cons.mpr ⟨ql, List.forall_mem_cons.mpr ⟨q4_11, List.forall_mem_cons.mpr ⟨q4_18, List.forall_mem_cons.mpr ⟨q4_19, List.forall_mem_cons.mpr ⟨q1_17, fun _ h => absurd h List.not_mem_nil⟩⟩⟩⟩⟩)) (wa_goodIn _ _ _ _ q4_20)) rfl rfl rfl hK.2.2.2.2.2.2.1 (by decide +kernel) ⟨Nat.le_trans (by decide) hR.1, Nat.le_trans (by decide) hR.2⟩) rfl hf rfl hW d ?_
    rintro _ τ ⟨r, rfl, i, f, _⟩
    exact kk r τ i (Fr.call Fr.rf f (by decide))
  · refine m_callU (x := ⟨"LeanTower$Person", "ownKind", "()I"⟩) (owner := "LeanTower$Person") (n := 0) (As := []) (st := st) C (c_X5_ownKind l G σ a hI ha ) ha hk rfl (fun hK => va_cwA (owner := "LeanTower$Person") 0 C.2.2.2.2 (goodIn_app (wa_gl (List.forall_mem_cons.mpr ⟨ql, List.forall_mem_cons.mpr ⟨q4_11, List.forall_mem_cons.mpr ⟨q4_21, List.forall_mem_cons.mpr ⟨q4_22, List.forall_mem_cons.mpr ⟨q1_14, fun _ h => absurd h List.not_mem_nil⟩⟩⟩⟩⟩)) (wa_goodIn _ _ _ _ q4_23)) rfl rfl rfl hK.2.2.2.2.2.2.1 (by decide +kernel) ⟨Nat.le_trans (by decide) hR.1, Nat.le_trans (by decide) hR.2⟩) rfl hf rfl hW d ?_
    rintro _ τ ⟨r, rfl, i, f, _⟩
    exact kk r τ i (Fr.call Fr.rf f (by decide))
  · refine m_callU (x := ⟨"LeanTower$Person", "ownKind", "()I"⟩) (owner := "LeanTower$Person") (n := 0) (As := []) (st := st) C (c_X10_ownKind l G σ a hI ha ) ha hk rfl (fun hK => va_cwA (owner := "LeanTower$Person") 0 C.2.2.2.2 (goodIn_app (wa_gl (List.forall_mem_cons.mpr ⟨ql, List.forall_mem_cons.mpr ⟨q4_11, List.forall_mem_cons.mpr ⟨q4_24, List.forall_mem_cons.mpr ⟨q4_25, List.forall_mem_cons.mpr ⟨q1_15, fun _ h => absurd h List.not_mem_nil⟩⟩⟩⟩⟩)) (wa_goodIn _ _ _ _ q4_26)) rfl rfl rfl hK.2.2.2.2.2.2.1 (by decide +kernel) ⟨Nat.le_trans (by decide) hR.1, Nat.le_trans (by decide) hR.2⟩) rfl hf rfl hW d ?_
    rintro _ τ ⟨r, rfl, i, f, _⟩
    exact kk r τ i (Fr.call Fr.rf f (by decide))

abbrev MS_X4_size : List (Nat × Nat) := [(14, 1)]
abbrev AS_X4_size : List Nat := [15]
set_option maxHeartbeats 4000000 in
set_option maxRecDepth 100000 in
theorem c_X4_size (l : Launch) (G : Gt) (σ : Sg) (a0 : Nat) (hI : Inv σ) (ha0 : a0 ∈ σ.2.2.2.1) : Mc l G yX4_size cX4_size 2 (some .int) 1 21 0 0 [.ref a0, .ref (G.1 14 0)] σ (PI fun r τ => Inv τ ∧ Fr MS_X4_size AS_X4_size σ τ ∧ IV r (-2147483648) 2147483647) := by
  refine Mc.of (L0 := [some (.ref a0), some (.ref (G.1 14 0))]) (by decide) (Nat.le_of_ble_eq_true rfl) rfl ?_
  intro p e s m args below meth c C hr hlk
  have C : Cx p s m args c cX4_size 2 "LeanTower$Person" := C
  have k0 : (0 : Int32).toInt = 0 := by decide
  have k1 : (1 : Int32).toInt = 1 := by decide
  refine m_aload_n C dX4_size_0 rfl rfl ?_
  refine m_bipush (v := 10) C dX4_size_1 (by decide) ?_
  refine m_callV (n := 1) (ci := 8) (st := []) C (c_X9_leave l G σ (10) hI ) (by decide) (by decide) rfl rfl rfl q4_52 q4_84 q4_50 q4_51 q1_4 (by decide +kernel) rfl (by decide) (by decide) rfl (Nat.le_of_ble_eq_true rfl) dX4_size_3 ?_
  rintro _ τ1 ⟨rfl, i2, f3⟩
  have g6 : Fr MS_X4_size AS_X4_size σ τ1 := Fr.call (Fr.rf) f3 (by decide)
  have v8 : a0 ∈ τ1.2.2.2.1 := by rw [f3.2.2 (by decide)]; exact ha0
  show MW p l e _ s m args below meth c _ 2 G 0 0 6 [some (.ref a0), some (.ref (G.1 14 0))] [] τ1
  refine m_aload_n C dX4_size_6 rfl rfl ?_
  refine gp_1 C i2.2.2 v8 q2_180 dX4_size_7 ?_
  refine m_topi (fun x9 ex9 => ?_)
  exact m_iret C hr hlk (by decide) (by decide) dX4_size_10 ⟨_, rfl, i2, g6, (iv_any x9)⟩

abbrev MS_X4_mark : List (Nat × Nat) := [(14, 1)]
abbrev AS_X4_mark : List Nat := [15]
set_option maxHeartbeats 4000000 in
set_option maxRecDepth 100000 in
theorem c_X4_mark (l : Launch) (G : Gt) (σ : Sg) (a0 : Nat) (hI : Inv σ) (ha0 : a0 ∈ σ.2.2.2.1) : Mc l G yX4_mark cX4_mark 2 (some .int) 1 21 0 0 [.ref a0, .ref (G.1 14 0)] σ (PI fun r τ => Inv τ ∧ Fr MS_X4_mark AS_X4_mark σ τ ∧ IV r (-2147483648) 2147483647) := by
  refine Mc.of (L0 := [some (.ref a0), some (.ref (G.1 14 0))]) (by decide) (Nat.le_of_ble_eq_true rfl) rfl ?_
  intro p e s m args below meth c C hr hlk
  have C : Cx p s m args c cX4_mark 2 "LeanTower$Person" := C
  have k0 : (0 : Int32).toInt = 0 := by decide
  have k1 : (1 : Int32).toInt = 1 := by decide
  refine m_aload_n C dX4_mark_0 rfl rfl ?_
  refine m_bipush (v := 20) C dX4_mark_1 (by decide) ?_
  refine m_callV (n := 1) (ci := 8) (st := []) C (c_X9_leave l G σ (20) hI ) (by decide) (by decide) rfl rfl rfl q4_52 q4_84 q4_50 q4_51 q1_4 (by decide +kernel) rfl (by decide) (by decide) rfl (Nat.le_of_ble_eq_true rfl) dX4_mark_3 ?_
  rintro _ τ1 ⟨rfl, i2, f3⟩
  have g6 : Fr MS_X4_mark AS_X4_mark σ τ1 := Fr.call (Fr.rf) f3 (by decide)
  have v8 : a0 ∈ τ1.2.2.2.1 := by rw [f3.2.2 (by decide)]; exact ha0
  show MW p l e _ s m args below meth c _ 2 G 0 0 6 [some (.ref a0), some (.ref (G.1 14 0))] [] τ1
  refine m_aload_n C dX4_mark_6 rfl rfl ?_
  refine gp_0 C i2.2.2 v8 q2_179 dX4_mark_7 ?_
  refine m_topi (fun x9 ex9 => ?_)
  exact m_iret C hr hlk (by decide) (by decide) dX4_mark_10 ⟨_, rfl, i2, g6, (iv_any x9)⟩

abbrev MS_X5_mark : List (Nat × Nat) := [(14, 1)]
abbrev AS_X5_mark : List Nat := [15]
set_option maxHeartbeats 4000000 in
set_option maxRecDepth 100000 in
theorem c_X5_mark (l : Launch) (G : Gt) (σ : Sg) (a0 : Nat) (hI : Inv σ) (ha0 : a0 ∈ σ.2.2.2.1) : Mc l G yX5_mark cX5_mark 2 (some .int) 2 42 0 0 [.ref a0, .ref (G.1 14 0)] σ (PI fun r τ => Inv τ ∧ Fr MS_X5_mark AS_X5_mark σ τ ∧ IV r (-2147483648) 2147483647) := by
  refine Mc.of (L0 := [some (.ref a0), some (.ref (G.1 14 0))]) (by decide) (Nat.le_of_ble_eq_true rfl) rfl ?_
  intro p e s m args below meth c C hr hlk
  have C : Cx p s m args c cX5_mark 2 "LeanTower$Pilgrim" := C
  have k0 : (0 : Int32).toInt = 0 := by decide
  have k1 : (1 : Int32).toInt = 1 := by decide
  refine m_aload_n C dX5_mark_0 rfl rfl ?_
  refine m_bipush (v := 21) C dX5_mark_1 (by decide) ?_
  refine m_callV (n := 1) (ci := 8) (st := []) C (c_X9_leave l G σ (21) hI ) (by decide) (by decide) rfl rfl rfl q4_52 q4_65 q4_50 q4_51 q1_4 (by decide +kernel) rfl (by decide) (by decide) rfl (Nat.le_of_ble_eq_true rfl) dX5_mark_3 ?_
  rintro _ τ1 ⟨rfl, i2, f3⟩
  have g6 : Fr MS_X5_mark AS_X5_mark σ τ1 := Fr.call (Fr.rf) f3 (by decide)
  have v8 : a0 ∈ τ1.2.2.2.1 := by rw [f3.2.2 (by decide)]; exact ha0
  show MW p l e _ s m args below meth c _ 2 G 0 0 6 [some (.ref a0), some (.ref (G.1 14 0))] [] τ1
  refine m_aload_n C dX5_mark_6 rfl rfl ?_
  refine m_aload_n C dX5_mark_7 rfl rfl ?_
  refine m_callSU (n := 1) (st := []) C (c_X4_mark l G τ1 a0  i2 v8 ) i2.2.2 v8 q4_83 q4_81 q5_225 q2_231 q4_82 q1_13 (by decide +kernel) rfl (by decide) (by decide) rfl (Nat.le_of_ble_eq_true rfl) dX5_mark_8 ?_
  rintro _ τ9 ⟨x12, rfl, i10, f11, _⟩
  have g13 : Fr MS_X5_mark AS_X5_mark σ τ9 := Fr.call (g6) f11 (by decide)
  have v15 : a0 ∈ τ9.2.2.2.1 := by rw [f11.2.2 (by decide)]; exact v8
  show MW p l e _ s m args below meth c _ 2 G 0 0 11 [some (.ref a0), some (.ref (G.1 14 0))] [.int x12] τ9
  refine m_aload_n C dX5_mark_11 rfl rfl ?_
  refine gp_2s C i10.2.2 v15 q2_184 q2_185 dX5_mark_12 ?_
  refine m_topi (fun x16 ex16 => ?_)
  refine m_iadd C dX5_mark_15 ?_
  refine m_topi (fun x17 ex17 => ?_)
  exact m_iret C hr hlk (by decide) (by decide) dX5_mark_16 ⟨_, rfl, i10, g13, (iv_any x17)⟩

abbrev MS_X10_mark : List (Nat × Nat) := [(14, 1)]
abbrev AS_X10_mark : List Nat := [15]
set_option maxHeartbeats 4000000 in
set_option maxRecDepth 100000 in
theorem c_X10_mark (l : Launch) (G : Gt) (σ : Sg) (a0 : Nat) (hI : Inv σ) (ha0 : a0 ∈ σ.2.2.2.1) : Mc l G yX10_mark cX10_mark 2 (some .int) 3 63 0 0 [.ref a0, .ref (G.1 14 0)] σ (PI fun r τ => Inv τ ∧ Fr MS_X10_mark AS_X10_mark σ τ ∧ IV r (-2147483648) 2147483647) := by
  refine Mc.of (L0 := [some (.ref a0), some (.ref (G.1 14 0))]) (by decide) (Nat.le_of_ble_eq_true rfl) rfl ?_
  intro p e s m args below meth c C hr hlk
  have C : Cx p s m args c cX10_mark 2 "LeanTower$Widow" := C
  have k0 : (0 : Int32).toInt = 0 := by decide
  have k1 : (1 : Int32).toInt = 1 := by decide
  refine m_aload_n C dX10_mark_0 rfl rfl ?_
  refine m_bipush (v := 22) C dX10_mark_1 (by decide) ?_
  refine m_callV (n := 1) (ci := 8) (st := []) C (c_X9_leave l G σ (22) hI ) (by decide) (by decide) rfl rfl rfl q4_52 q4_78 q4_50 q4_51 q1_4 (by decide +kernel) rfl (by decide) (by decide) rfl (Nat.le_of_ble_eq_true rfl) dX10_mark_3 ?_
  rintro _ τ1 ⟨rfl, i2, f3⟩
  have g6 : Fr MS_X10_mark AS_X10_mark σ τ1 := Fr.call (Fr.rf) f3 (by decide)
  have v8 : a0 ∈ τ1.2.2.2.1 := by rw [f3.2.2 (by decide)]; exact ha0
  show MW p l e _ s m args below meth c _ 2 G 0 0 6 [some (.ref a0), some (.ref (G.1 14 0))] [] τ1
  refine m_aload_n C dX10_mark_6 rfl rfl ?_
  refine m_aload_n C dX10_mark_7 rfl rfl ?_
  refine m_callSU (n := 1) (st := []) C (c_X5_mark l G τ1 a0  i2 v8 ) i2.2.2 v8 q4_80 q4_79 q4_70 q2_194 q4_68 q1_14 (by decide +kernel) rfl (by decide) (by decide) rfl (Nat.le_of_ble_eq_true rfl) dX10_mark_8 ?_
  rintro _ τ9 ⟨x12, rfl, i10, f11, _⟩
  have g13 : Fr MS_X10_mark AS_X10_mark σ τ9 := Fr.call (g6) f11 (by decide)
  have v15 : a0 ∈ τ9.2.2.2.1 := by rw [f11.2.2 (by decide)]; exact v8
  show MW p l e _ s m args below meth c _ 2 G 0 0 11 [some (.ref a0), some (.ref (G.1 14 0))] [.int x12] τ9
  refine m_sipush (v := 1000) C dX10_mark_11 (by decide) ?_
  refine m_isub C dX10_mark_14 ?_
  refine m_topi (fun x16 ex16 => ?_)
  exact m_iret C hr hlk (by decide) (by decide) dX10_mark_15 ⟨_, rfl, i10, g13, (iv_any x16)⟩

abbrev MS_X2_mark : List (Nat × Nat) := [(14, 1)]
abbrev AS_X2_mark : List Nat := [15]
set_option maxHeartbeats 4000000 in
set_option maxRecDepth 100000 in
theorem c_X2_mark (l : Launch) (G : Gt) (σ : Sg) (a0 : Nat) (hI : Inv σ) (ha0 : a0 ∈ σ.2.2.2.1) : Mc l G yX2_mark cX2_mark 2 (some .int) 3 63 0 0 [.ref a0, .ref (G.1 14 0)] σ (PI fun r τ => Inv τ ∧ Fr MS_X2_mark AS_X2_mark σ τ ∧ IV r (-2147483648) 2147483647) := by
  refine Mc.of (L0 := [some (.ref a0), some (.ref (G.1 14 0))]) (by decide) (Nat.le_of_ble_eq_true rfl) rfl ?_
  intro p e s m args below meth c C hr hlk
  have C : Cx p s m args c cX2_mark 2 "LeanTower$Boy" := C
  have k0 : (0 : Int32).toInt = 0 := by decide
  have k1 : (1 : Int32).toInt = 1 := by decide
  refine m_aload_n C dX2_mark_0 rfl rfl ?_
  refine m_bipush (v := 24) C dX2_mark_1 (by decide) ?_
  refine m_callV (n := 1) (ci := 8) (st := []) C (c_X9_leave l G σ (24) hI ) (by decide) (by decide) rfl rfl rfl q4_52 q4_61 q4_50 q4_51 q1_4 (by decide +kernel) rfl (by decide) (by decide) rfl (Nat.le_of_ble_eq_true rfl) dX2_mark_3 ?_
  rintro _ τ1 ⟨rfl, i2, f3⟩
  have g6 : Fr MS_X2_mark AS_X2_mark σ τ1 := Fr.call (Fr.rf) f3 (by decide)
  have v8 : a0 ∈ τ1.2.2.2.1 := by rw [f3.2.2 (by decide)]; exact ha0
  show MW p l e _ s m args below meth c _ 2 G 0 0 6 [some (.ref a0), some (.ref (G.1 14 0))] [] τ1
  refine m_iconst (v := 2) C dX2_mark_6 (by decide) ?_
  refine m_aload_n C dX2_mark_7 rfl rfl ?_
  refine m_aload_n C dX2_mark_8 rfl rfl ?_
  refine m_callSU (n := 1) (st := [.int 2]) C (c_X5_mark l G τ1 a0  i2 v8 ) i2.2.2 v8 q4_80 q4_74 q4_70 q2_204 q4_68 q1_14 (by decide +kernel) rfl (by decide) (by decide) rfl (Nat.le_of_ble_eq_true rfl) dX2_mark_9 ?_
  rintro _ τ9 ⟨x12, rfl, i10, f11, _⟩
  have g13 : Fr MS_X2_mark AS_X2_mark σ τ9 := Fr.call (g6) f11 (by decide)
  have v15 : a0 ∈ τ9.2.2.2.1 := by rw [f11.2.2 (by decide)]; exact v8
  show MW p l e _ s m args below meth c _ 2 G 0 0 12 [some (.ref a0), some (.ref (G.1 14 0))] [.int x12, .int 2] τ9
  refine m_imul C dX2_mark_12 ?_
  refine m_topi (fun x16 ex16 => ?_)
  exact m_iret C hr hlk (by decide) (by decide) dX2_mark_13 ⟨_, rfl, i10, g13, (iv_any x16)⟩

set_option maxHeartbeats 4000000 in
theorem v_pmark {p : Program} {l : Launch} {e : Env} {R : Room} {s : State} {m : MethodId} {args : Array Value} {below : List Frame} {meth : Method} {c : Code} {cells slots : Nat} {Q : State → Prop} {cc : ByteArray} {nL : Nat} {own : String} {G : Gt} {σ : Sg} {pc : Nat} {L : List (Option Value)} {st : List Value} (C : Cx p s m args c cc nL own) {index a : Nat} (ql : Cond.methodLink own index ⟨"LeanTower$Pilgrim", "mark", "(LLeanTower$Trace;)I"⟩ ∈ WA) (hI : Inv σ) (ha : a ∈ σ.2.2.2.1) (hk : σ.2.2.2.2.1 a = 4 ∨ σ.2.2.2.2.1 a = 9 ∨ σ.2.2.2.2.1 a = 2) (hR : 4 ≤ R.frames ∧ 84 ≤ R.locals) (hf : cells ≤ R.cells ∧ slots ≤ R.slots) (hW : (st.map fun v => v.category).sum ≤ 8) (d : decode cc pc = .ok (.invokevirtual index, 3)) (kk : ∀ (r : Int32) (τ : Sg), Inv τ → Fr [(14, 1)] [15] σ τ → MW p l e R s m args below meth c Q nL G cells slots (pc + 3) L (.int r :: st) τ) : MW p l e R s m args below meth c Q nL G cells slots pc L (.ref (G.1 14 0) :: .ref a :: st) σ := by
  rcases hk with hk | hk | hk
  · refine m_callU (x := ⟨"LeanTower$Pilgrim", "mark", "(LLeanTower$Trace;)I"⟩) (owner := "LeanTower$Pilgrim") (n := 1) (As := [.ref (G.1 14 0)]) (st := st) C (c_X5_mark l G σ a hI ha ) ha hk rfl (fun hK => va_cwU (owner := "LeanTower$Pilgrim") 1 C.2.2.2.2 (goodIn_app (wa_gl (List.forall_mem_cons.mpr ⟨ql, List.forall_mem_cons.mpr ⟨q4_70, List.forall_mem_cons.mpr ⟨q4_69, List.forall_mem_cons.mpr ⟨q4_68, List.forall_mem_cons.mpr ⟨q1_14, fun _ h => absurd h List.not_mem_nil⟩⟩⟩⟩⟩)) (wa_goodIn _ _ _ _ q4_80)) rfl rfl rfl rfl (by decide +kernel) ⟨Nat.le_trans (by decide) hR.1, Nat.le_trans (by decide) hR.2⟩) rfl hf rfl hW d ?_
    rintro _ τ ⟨r, rfl, i, f, _⟩
    exact kk r τ i (Fr.call Fr.rf f (by decide))
  · refine m_callU (x := ⟨"LeanTower$Pilgrim", "mark", "(LLeanTower$Trace;)I"⟩) (owner := "LeanTower$Pilgrim") (n := 1) (As := [.ref (G.1 14 0)]) (st := st) C (c_X10_mark l G σ a hI ha ) ha hk rfl (fun hK => va_cwO (owner := "LeanTower$Pilgrim") 1 C.2.2.2.2 (goodIn_app (wa_gl (List.forall_mem_cons.mpr ⟨ql, List.forall_mem_cons.mpr ⟨q4_70, List.forall_mem_cons.mpr ⟨q4_68, List.forall_mem_cons.mpr ⟨q4_75, List.forall_mem_cons.mpr ⟨q4_76, List.forall_mem_cons.mpr ⟨q1_15, fun _ h => absurd h List.not_mem_nil⟩⟩⟩⟩⟩⟩)) (wa_goodIn _ _ _ _ q4_77)) rfl rfl rfl q4_80 (by decide +kernel) ⟨Nat.le_trans (by decide) hR.1, Nat.le_trans (by decide) hR.2⟩) rfl hf rfl hW d ?_
    rintro _ τ ⟨r, rfl, i, f, _⟩
    exact kk r τ i (Fr.call Fr.rf f (by decide))
  · refine m_callU (x := ⟨"LeanTower$Pilgrim", "mark", "(LLeanTower$Trace;)I"⟩) (owner := "LeanTower$Pilgrim") (n := 1) (As := [.ref (G.1 14 0)]) (st := st) C (c_X2_mark l G σ a hI ha ) ha hk rfl (fun hK => va_cwO (owner := "LeanTower$Pilgrim") 1 C.2.2.2.2 (goodIn_app (wa_gl (List.forall_mem_cons.mpr ⟨ql, List.forall_mem_cons.mpr ⟨q4_70, List.forall_mem_cons.mpr ⟨q4_68, List.forall_mem_cons.mpr ⟨q4_71, List.forall_mem_cons.mpr ⟨q4_72, List.forall_mem_cons.mpr ⟨q1_16, fun _ h => absurd h List.not_mem_nil⟩⟩⟩⟩⟩⟩)) (wa_goodIn _ _ _ _ q4_73)) rfl rfl rfl q4_80 (by decide +kernel) ⟨Nat.le_trans (by decide) hR.1, Nat.le_trans (by decide) hR.2⟩) rfl hf rfl hW d ?_
    rintro _ τ ⟨r, rfl, i, f, _⟩
    exact kk r τ i (Fr.call Fr.rf f (by decide))

abbrev MS_X5_size : List (Nat × Nat) := [(14, 1)]
abbrev AS_X5_size : List Nat := [15]
set_option maxHeartbeats 4000000 in
set_option maxRecDepth 100000 in
theorem c_X5_size (l : Launch) (G : Gt) (σ : Sg) (a0 : Nat) (hI : Inv σ) (ha0 : a0 ∈ σ.2.2.2.1) (hk0 : σ.2.2.2.2.1 a0 = 4 ∨ σ.2.2.2.2.1 a0 = 9 ∨ σ.2.2.2.2.1 a0 = 2) : Mc l G yX5_size cX5_size 3 (some .int) 4 84 0 0 [.ref a0, .ref (G.1 14 0)] σ (PI fun r τ => Inv τ ∧ Fr MS_X5_size AS_X5_size σ τ ∧ IV r (-2147483648) 2147483647) := by
  refine Mc.of (L0 := [some (.ref a0), some (.ref (G.1 14 0)), none]) (by decide) (Nat.le_of_ble_eq_true rfl) rfl ?_
  intro p e s m args below meth c C hr hlk
  have C : Cx p s m args c cX5_size 3 "LeanTower$Pilgrim" := C
  have k0 : (0 : Int32).toInt = 0 := by decide
  have k1 : (1 : Int32).toInt = 1 := by decide
  refine m_aload_n C dX5_size_0 rfl rfl ?_
  refine m_bipush (v := 11) C dX5_size_1 (by decide) ?_
  refine m_callV (n := 1) (ci := 8) (st := []) C (c_X9_leave l G σ (11) hI ) (by decide) (by decide) rfl rfl rfl q4_52 q4_65 q4_50 q4_51 q1_4 (by decide +kernel) rfl (by decide) (by decide) rfl (Nat.le_of_ble_eq_true rfl) dX5_size_3 ?_
  rintro _ τ1 ⟨rfl, i2, f3⟩
  have g6 : Fr MS_X5_size AS_X5_size σ τ1 := Fr.call (Fr.rf) f3 (by decide)
  have v8 : a0 ∈ τ1.2.2.2.1 := by rw [f3.2.2 (by decide)]; exact ha0
  have v9 : τ1.2.2.2.2.1 a0 = 4 ∨ τ1.2.2.2.2.1 a0 = 9 ∨ τ1.2.2.2.2.1 a0 = 2 := by rw [f3.2.2 (by decide)]; exact hk0
  show MW p l e _ s m args below meth c _ 3 G 0 0 6 [some (.ref a0), some (.ref (G.1 14 0)), none] [] τ1
  refine m_aload_n C dX5_size_6 rfl rfl ?_
  refine m_aload_n C dX5_size_7 rfl rfl ?_
  refine m_callSU (n := 1) (st := []) C (c_X4_size l G τ1 a0  i2 v8 ) i2.2.2 v8 q4_88 q4_66 q4_45 q2_231 q4_44 q1_13 (by decide +kernel) rfl (by decide) (by decide) rfl (Nat.le_of_ble_eq_true rfl) dX5_size_8 ?_
  rintro _ τ10 ⟨x13, rfl, i11, f12, _⟩
  have g14 : Fr MS_X5_size AS_X5_size σ τ10 := Fr.call (g6) f12 (by decide)
  have v16 : a0 ∈ τ10.2.2.2.1 := by rw [f12.2.2 (by decide)]; exact v8
  have v17 : τ10.2.2.2.2.1 a0 = 4 ∨ τ10.2.2.2.2.1 a0 = 9 ∨ τ10.2.2.2.2.1 a0 = 2 := by rw [f12.2.2 (by decide)]; exact v9
  show MW p l e _ s m args below meth c _ 3 G 0 0 11 [some (.ref a0), some (.ref (G.1 14 0)), none] [.int x13] τ10
  refine m_istore_n (L1 := [some (.ref a0), some (.ref (G.1 14 0)), some (.int x13)]) C dX5_size_11 rfl (by decide) rfl rfl ?_
  refine m_iload_n C dX5_size_12 rfl rfl ?_
  refine m_aload_n C dX5_size_13 rfl rfl ?_
  refine m_aload_n C dX5_size_14 rfl rfl ?_
  refine v_pmark (st := [.int x13]) C q4_67 i11 v16 v17 (by decide) (by decide) (Nat.le_of_ble_eq_true rfl) dX5_size_15 (fun x21 τ18 i19 f20 => ?_)
  have g22 : Fr MS_X5_size AS_X5_size σ τ18 := Fr.call (g14) f20 (by decide)
  have v23 : a0 ∈ τ18.2.2.2.1 := by rw [f20.2.2 (by decide)]; exact v16
  have v24 : τ18.2.2.2.2.1 a0 = 4 ∨ τ18.2.2.2.2.1 a0 = 9 ∨ τ18.2.2.2.2.1 a0 = 2 := by rw [f20.2.2 (by decide)]; exact v17
  show MW p l e _ s m args below meth c _ 3 G 0 0 18 [some (.ref a0), some (.ref (G.1 14 0)), some (.int x13)] [.int x21, .int x13] τ18
  refine m_iadd C dX5_size_18 ?_
  refine m_topi (fun x25 ex25 => ?_)
  exact m_iret C hr hlk (by decide) (by decide) dX5_size_19 ⟨_, rfl, i19, g22, (iv_any x25)⟩

abbrev MS_X2_size : List (Nat × Nat) := [(14, 1)]
abbrev AS_X2_size : List Nat := [15]
set_option maxHeartbeats 4000000 in
set_option maxRecDepth 100000 in
theorem c_X2_size (l : Launch) (G : Gt) (σ : Sg) (a0 : Nat) (hI : Inv σ) (ha0 : a0 ∈ σ.2.2.2.1) (hk0 : σ.2.2.2.2.1 a0 = 2) : Mc l G yX2_size cX2_size 2 (some .int) 5 106 0 0 [.ref a0, .ref (G.1 14 0)] σ (PI fun r τ => Inv τ ∧ Fr MS_X2_size AS_X2_size σ τ ∧ IV r (-2147483648) 2147483647) := by
  refine Mc.of (L0 := [some (.ref a0), some (.ref (G.1 14 0))]) (by decide) (Nat.le_of_ble_eq_true rfl) rfl ?_
  intro p e s m args below meth c C hr hlk
  have C : Cx p s m args c cX2_size 2 "LeanTower$Boy" := C
  have k0 : (0 : Int32).toInt = 0 := by decide
  have k1 : (1 : Int32).toInt = 1 := by decide
  refine m_aload_n C dX2_size_0 rfl rfl ?_
  refine m_bipush (v := 12) C dX2_size_1 (by decide) ?_
  refine m_callV (n := 1) (ci := 8) (st := []) C (c_X9_leave l G σ (12) hI ) (by decide) (by decide) rfl rfl rfl q4_52 q4_61 q4_50 q4_51 q1_4 (by decide +kernel) rfl (by decide) (by decide) rfl (Nat.le_of_ble_eq_true rfl) dX2_size_3 ?_
  rintro _ τ1 ⟨rfl, i2, f3⟩
  have g6 : Fr MS_X2_size AS_X2_size σ τ1 := Fr.call (Fr.rf) f3 (by decide)
  have v8 : a0 ∈ τ1.2.2.2.1 := by rw [f3.2.2 (by decide)]; exact ha0
  have v9 : τ1.2.2.2.2.1 a0 = 2 := by rw [f3.2.2 (by decide)]; exact hk0
  show MW p l e _ s m args below meth c _ 2 G 0 0 6 [some (.ref a0), some (.ref (G.1 14 0))] [] τ1
  refine m_aload_n C dX2_size_6 rfl rfl ?_
  refine m_aload_n C dX2_size_7 rfl rfl ?_
  refine m_callSU (n := 1) (st := []) C (c_X5_size l G τ1 a0  i2 v8 (by simp [v9])) i2.2.2 v8 q4_64 q4_62 q5_224 q2_204 q4_63 q1_14 (by decide +kernel) rfl (by decide) (by decide) rfl (Nat.le_of_ble_eq_true rfl) dX2_size_8 ?_
  rintro _ τ10 ⟨x13, rfl, i11, f12, _⟩
  have g14 : Fr MS_X2_size AS_X2_size σ τ10 := Fr.call (g6) f12 (by decide)
  have v16 : a0 ∈ τ10.2.2.2.1 := by rw [f12.2.2 (by decide)]; exact v8
  have v17 : τ10.2.2.2.2.1 a0 = 2 := by rw [f12.2.2 (by decide)]; exact v9
  show MW p l e _ s m args below meth c _ 2 G 0 0 11 [some (.ref a0), some (.ref (G.1 14 0))] [.int x13] τ10
  refine m_ineg C dX2_size_11 ?_
  refine m_topi (fun x18 ex18 => ?_)
  exact m_iret C hr hlk (by decide) (by decide) dX2_size_12 ⟨_, rfl, i11, g14, (iv_any x18)⟩

abbrev MS_X3_size : List (Nat × Nat) := [(14, 1)]
abbrev AS_X3_size : List Nat := [15]
set_option maxHeartbeats 4000000 in
set_option maxRecDepth 100000 in
theorem c_X3_size (l : Launch) (G : Gt) (σ : Sg) (a0 : Nat) (hI : Inv σ) (ha0 : a0 ∈ σ.2.2.2.1) : Mc l G yX3_size cX3_size 2 (some .int) 2 42 0 0 [.ref a0, .ref (G.1 14 0)] σ (PI fun r τ => Inv τ ∧ Fr MS_X3_size AS_X3_size σ τ ∧ IV r (-2147483648) 2147483647) := by
  refine Mc.of (L0 := [some (.ref a0), some (.ref (G.1 14 0))]) (by decide) (Nat.le_of_ble_eq_true rfl) rfl ?_
  intro p e s m args below meth c C hr hlk
  have C : Cx p s m args c cX3_size 2 "LeanTower$Monk" := C
  have k0 : (0 : Int32).toInt = 0 := by decide
  have k1 : (1 : Int32).toInt = 1 := by decide
  refine m_aload_n C dX3_size_0 rfl rfl ?_
  refine m_bipush (v := 13) C dX3_size_1 (by decide) ?_
  refine m_callV (n := 1) (ci := 8) (st := []) C (c_X9_leave l G σ (13) hI ) (by decide) (by decide) rfl rfl rfl q4_52 q4_56 q4_50 q4_51 q1_4 (by decide +kernel) rfl (by decide) (by decide) rfl (Nat.le_of_ble_eq_true rfl) dX3_size_3 ?_
  rintro _ τ1 ⟨rfl, i2, f3⟩
  have g6 : Fr MS_X3_size AS_X3_size σ τ1 := Fr.call (Fr.rf) f3 (by decide)
  have v8 : a0 ∈ τ1.2.2.2.1 := by rw [f3.2.2 (by decide)]; exact ha0
  show MW p l e _ s m args below meth c _ 2 G 0 0 6 [some (.ref a0), some (.ref (G.1 14 0))] [] τ1
  refine m_aload_n C dX3_size_6 rfl rfl ?_
  refine m_aload_n C dX3_size_7 rfl rfl ?_
  refine m_callSU (n := 1) (st := []) C (c_X4_size l G τ1 a0  i2 v8 ) i2.2.2 v8 q4_88 q4_57 q4_45 q2_214 q4_44 q1_13 (by decide +kernel) rfl (by decide) (by decide) rfl (Nat.le_of_ble_eq_true rfl) dX3_size_8 ?_
  rintro _ τ9 ⟨x12, rfl, i10, f11, _⟩
  have g13 : Fr MS_X3_size AS_X3_size σ τ9 := Fr.call (g6) f11 (by decide)
  have v15 : a0 ∈ τ9.2.2.2.1 := by rw [f11.2.2 (by decide)]; exact v8
  show MW p l e _ s m args below meth c _ 2 G 0 0 11 [some (.ref a0), some (.ref (G.1 14 0))] [.int x12] τ9
  refine m_bipush (v := 100) C dX3_size_11 (by decide) ?_
  refine m_isub C dX3_size_13 ?_
  refine m_topi (fun x16 ex16 => ?_)
  exact m_iret C hr hlk (by decide) (by decide) dX3_size_14 ⟨_, rfl, i10, g13, (iv_any x16)⟩

abbrev MS_X1_size : List (Nat × Nat) := [(14, 1)]
abbrev AS_X1_size : List Nat := [15]
set_option maxHeartbeats 4000000 in
set_option maxRecDepth 100000 in
theorem c_X1_size (l : Launch) (G : Gt) (σ : Sg) (a0 : Nat) (hI : Inv σ) (ha0 : a0 ∈ σ.2.2.2.1) : Mc l G yX1_size cX1_size 2 (some .int) 3 63 0 0 [.ref a0, .ref (G.1 14 0)] σ (PI fun r τ => Inv τ ∧ Fr MS_X1_size AS_X1_size σ τ ∧ IV r (-2147483648) 2147483647) := by
  refine Mc.of (L0 := [some (.ref a0), some (.ref (G.1 14 0))]) (by decide) (Nat.le_of_ble_eq_true rfl) rfl ?_
  intro p e s m args below meth c C hr hlk
  have C : Cx p s m args c cX1_size 2 "LeanTower$Bishop" := C
  have k0 : (0 : Int32).toInt = 0 := by decide
  have k1 : (1 : Int32).toInt = 1 := by decide
  refine m_aload_n C dX1_size_0 rfl rfl ?_
  refine m_bipush (v := 14) C dX1_size_1 (by decide) ?_
  refine m_callV (n := 1) (ci := 8) (st := []) C (c_X9_leave l G σ (14) hI ) (by decide) (by decide) rfl rfl rfl q4_52 q4_49 q4_50 q4_51 q1_4 (by decide +kernel) rfl (by decide) (by decide) rfl (Nat.le_of_ble_eq_true rfl) dX1_size_3 ?_
  rintro _ τ1 ⟨rfl, i2, f3⟩
  have g6 : Fr MS_X1_size AS_X1_size σ τ1 := Fr.call (Fr.rf) f3 (by decide)
  have v8 : a0 ∈ τ1.2.2.2.1 := by rw [f3.2.2 (by decide)]; exact ha0
  show MW p l e _ s m args below meth c _ 2 G 0 0 6 [some (.ref a0), some (.ref (G.1 14 0))] [] τ1
  refine m_iconst (v := 2) C dX1_size_6 (by decide) ?_
  refine m_aload_n C dX1_size_7 rfl rfl ?_
  refine m_aload_n C dX1_size_8 rfl rfl ?_
  refine m_callSU (n := 1) (st := [.int 2]) C (c_X3_size l G τ1 a0  i2 v8 ) i2.2.2 v8 q4_55 q4_53 q5_223 q2_224 q4_54 q1_17 (by decide +kernel) rfl (by decide) (by decide) rfl (Nat.le_of_ble_eq_true rfl) dX1_size_9 ?_
  rintro _ τ9 ⟨x12, rfl, i10, f11, _⟩
  have g13 : Fr MS_X1_size AS_X1_size σ τ9 := Fr.call (g6) f11 (by decide)
  have v15 : a0 ∈ τ9.2.2.2.1 := by rw [f11.2.2 (by decide)]; exact v8
  show MW p l e _ s m args below meth c _ 2 G 0 0 12 [some (.ref a0), some (.ref (G.1 14 0))] [.int x12, .int 2] τ9
  refine m_imul C dX1_size_12 ?_
  refine m_topi (fun x16 ex16 => ?_)
  exact m_iret C hr hlk (by decide) (by decide) dX1_size_13 ⟨_, rfl, i10, g13, (iv_any x16)⟩

set_option maxHeartbeats 4000000 in
theorem v_msize {p : Program} {l : Launch} {e : Env} {R : Room} {s : State} {m : MethodId} {args : Array Value} {below : List Frame} {meth : Method} {c : Code} {cells slots : Nat} {Q : State → Prop} {cc : ByteArray} {nL : Nat} {own : String} {G : Gt} {σ : Sg} {pc : Nat} {L : List (Option Value)} {st : List Value} (C : Cx p s m args c cc nL own) {index a : Nat} (ql : Cond.methodLink own index ⟨"LeanTower$Monk", "size", "(LLeanTower$Trace;)I"⟩ ∈ WA) (hI : Inv σ) (ha : a ∈ σ.2.2.2.1) (hk : σ.2.2.2.2.1 a = 3 ∨ σ.2.2.2.2.1 a = 1) (hR : 4 ≤ R.frames ∧ 84 ≤ R.locals) (hf : cells ≤ R.cells ∧ slots ≤ R.slots) (hW : (st.map fun v => v.category).sum ≤ 8) (d : decode cc pc = .ok (.invokevirtual index, 3)) (kk : ∀ (r : Int32) (τ : Sg), Inv τ → Fr [(14, 1)] [15] σ τ → MW p l e R s m args below meth c Q nL G cells slots (pc + 3) L (.int r :: st) τ) : MW p l e R s m args below meth c Q nL G cells slots pc L (.ref (G.1 14 0) :: .ref a :: st) σ := by
  rcases hk with hk | hk
  · refine m_callU (x := ⟨"LeanTower$Monk", "size", "(LLeanTower$Trace;)I"⟩) (owner := "LeanTower$Monk") (n := 1) (As := [.ref (G.1 14 0)]) (st := st) C (c_X3_size l G σ a hI ha ) ha hk rfl (fun hK => va_cwU (owner := "LeanTower$Monk") 1 C.2.2.2.2 (goodIn_app (wa_gl (List.forall_mem_cons.mpr ⟨ql, List.forall_mem_cons.mpr ⟨q5_223, List.forall_mem_cons.mpr ⟨q5_228, List.forall_mem_cons.mpr ⟨q4_54, List.forall_mem_cons.mpr ⟨q1_17, fun _ h => absurd h List.not_mem_nil⟩⟩⟩⟩⟩)) (wa_goodIn _ _ _ _ q4_55)) rfl rfl rfl rfl (by decide +kernel) ⟨Nat.le_trans (by decide) hR.1, Nat.le_trans (by decide) hR.2⟩) rfl hf rfl hW d ?_
    rintro _ τ ⟨r, rfl, i, f, _⟩
    exact kk r τ i (Fr.call Fr.rf f (by decide))
  · refine m_callU (x := ⟨"LeanTower$Monk", "size", "(LLeanTower$Trace;)I"⟩) (owner := "LeanTower$Monk") (n := 1) (As := [.ref (G.1 14 0)]) (st := st) C (c_X1_size l G σ a hI ha ) ha hk rfl (fun hK => va_cwO (owner := "LeanTower$Monk") 1 C.2.2.2.2 (goodIn_app (wa_gl (List.forall_mem_cons.mpr ⟨ql, List.forall_mem_cons.mpr ⟨q5_223, List.forall_mem_cons.mpr ⟨q4_54, List.forall_mem_cons.mpr ⟨q5_227, List.forall_mem_cons.mpr ⟨q4_47, List.forall_mem_cons.mpr ⟨q1_18, fun _ h => absurd h List.not_mem_nil⟩⟩⟩⟩⟩⟩)) (wa_goodIn _ _ _ _ q4_48)) rfl rfl rfl q4_55 (by decide +kernel) ⟨Nat.le_trans (by decide) hR.1, Nat.le_trans (by decide) hR.2⟩) rfl hf rfl hW d ?_
    rintro _ τ ⟨r, rfl, i, f, _⟩
    exact kk r τ i (Fr.call Fr.rf f (by decide))

abbrev MS_X3_mark : List (Nat × Nat) := [(14, 1)]
abbrev AS_X3_mark : List Nat := [15]
set_option maxHeartbeats 4000000 in
set_option maxRecDepth 100000 in
theorem c_X3_mark (l : Launch) (G : Gt) (σ : Sg) (a0 : Nat) (hI : Inv σ) (ha0 : a0 ∈ σ.2.2.2.1) (hk0 : σ.2.2.2.2.1 a0 = 3 ∨ σ.2.2.2.2.1 a0 = 1) : Mc l G yX3_mark cX3_mark 3 (some .int) 4 84 0 0 [.ref a0, .ref (G.1 14 0)] σ (PI fun r τ => Inv τ ∧ Fr MS_X3_mark AS_X3_mark σ τ ∧ IV r (-2147483648) 2147483647) := by
  refine Mc.of (L0 := [some (.ref a0), some (.ref (G.1 14 0)), none]) (by decide) (Nat.le_of_ble_eq_true rfl) rfl ?_
  intro p e s m args below meth c C hr hlk
  have C : Cx p s m args c cX3_mark 3 "LeanTower$Monk" := C
  have k0 : (0 : Int32).toInt = 0 := by decide
  have k1 : (1 : Int32).toInt = 1 := by decide
  refine m_aload_n C dX3_mark_0 rfl rfl ?_
  refine m_bipush (v := 23) C dX3_mark_1 (by decide) ?_
  refine m_callV (n := 1) (ci := 8) (st := []) C (c_X9_leave l G σ (23) hI ) (by decide) (by decide) rfl rfl rfl q4_52 q4_56 q4_50 q4_51 q1_4 (by decide +kernel) rfl (by decide) (by decide) rfl (Nat.le_of_ble_eq_true rfl) dX3_mark_3 ?_
  rintro _ τ1 ⟨rfl, i2, f3⟩
  have g6 : Fr MS_X3_mark AS_X3_mark σ τ1 := Fr.call (Fr.rf) f3 (by decide)
  have v8 : a0 ∈ τ1.2.2.2.1 := by rw [f3.2.2 (by decide)]; exact ha0
  have v9 : τ1.2.2.2.2.1 a0 = 3 ∨ τ1.2.2.2.2.1 a0 = 1 := by rw [f3.2.2 (by decide)]; exact hk0
  show MW p l e _ s m args below meth c _ 3 G 0 0 6 [some (.ref a0), some (.ref (G.1 14 0)), none] [] τ1
  refine m_aload_n C dX3_mark_6 rfl rfl ?_
  refine m_aload_n C dX3_mark_7 rfl rfl ?_
  refine m_callSU (n := 1) (st := []) C (c_X4_mark l G τ1 a0  i2 v8 ) i2.2.2 v8 q4_83 q4_92 q5_225 q2_214 q4_82 q1_13 (by decide +kernel) rfl (by decide) (by decide) rfl (Nat.le_of_ble_eq_true rfl) dX3_mark_8 ?_
  rintro _ τ10 ⟨x13, rfl, i11, f12, _⟩
  have g14 : Fr MS_X3_mark AS_X3_mark σ τ10 := Fr.call (g6) f12 (by decide)
  have v16 : a0 ∈ τ10.2.2.2.1 := by rw [f12.2.2 (by decide)]; exact v8
  have v17 : τ10.2.2.2.2.1 a0 = 3 ∨ τ10.2.2.2.2.1 a0 = 1 := by rw [f12.2.2 (by decide)]; exact v9
  show MW p l e _ s m args below meth c _ 3 G 0 0 11 [some (.ref a0), some (.ref (G.1 14 0)), none] [.int x13] τ10
  refine m_istore_n (L1 := [some (.ref a0), some (.ref (G.1 14 0)), some (.int x13)]) C dX3_mark_11 rfl (by decide) rfl rfl ?_
  refine m_iload_n C dX3_mark_12 rfl rfl ?_
  refine m_aload_n C dX3_mark_13 rfl rfl ?_
  refine m_aload_n C dX3_mark_14 rfl rfl ?_
  refine v_msize (st := [.int x13]) C q4_93 i11 v16 v17 (by decide) (by decide) (Nat.le_of_ble_eq_true rfl) dX3_mark_15 (fun x21 τ18 i19 f20 => ?_)
  have g22 : Fr MS_X3_mark AS_X3_mark σ τ18 := Fr.call (g14) f20 (by decide)
  have v23 : a0 ∈ τ18.2.2.2.1 := by rw [f20.2.2 (by decide)]; exact v16
  have v24 : τ18.2.2.2.2.1 a0 = 3 ∨ τ18.2.2.2.2.1 a0 = 1 := by rw [f20.2.2 (by decide)]; exact v17
  show MW p l e _ s m args below meth c _ 3 G 0 0 18 [some (.ref a0), some (.ref (G.1 14 0)), some (.int x13)] [.int x21, .int x13] τ18
  refine m_isub C dX3_mark_18 ?_
  refine m_topi (fun x25 ex25 => ?_)
  exact m_iret C hr hlk (by decide) (by decide) dX3_mark_19 ⟨_, rfl, i19, g22, (iv_any x25)⟩

set_option maxHeartbeats 4000000 in
theorem v_size {p : Program} {l : Launch} {e : Env} {R : Room} {s : State} {m : MethodId} {args : Array Value} {below : List Frame} {meth : Method} {c : Code} {cells slots : Nat} {Q : State → Prop} {cc : ByteArray} {nL : Nat} {own : String} {G : Gt} {σ : Sg} {pc : Nat} {L : List (Option Value)} {st : List Value} (C : Cx p s m args c cc nL own) {index a : Nat} (ql : Cond.methodLink own index ⟨"LeanTower$Person", "size", "(LLeanTower$Trace;)I"⟩ ∈ WA) (hI : Inv σ) (ha : a ∈ σ.2.2.2.1) (hR : 6 ≤ R.frames ∧ 127 ≤ R.locals) (hf : cells ≤ R.cells ∧ slots ≤ R.slots) (hW : (st.map fun v => v.category).sum ≤ 8) (d : decode cc pc = .ok (.invokevirtual index, 3)) (kk : ∀ (r : Int32) (τ : Sg), Inv τ → Fr [(14, 1)] [15] σ τ → MW p l e R s m args below meth c Q nL G cells slots (pc + 3) L (.int r :: st) τ) : MW p l e R s m args below meth c Q nL G cells slots pc L (.ref (G.1 14 0) :: .ref a :: st) σ := by
  have hk := hI.2.2.2 a ha
  simp only [List.mem_cons, List.not_mem_nil, or_false] at hk
  rcases hk with hk | hk | hk | hk | hk
  · refine m_callU (x := ⟨"LeanTower$Person", "size", "(LLeanTower$Trace;)I"⟩) (owner := "LeanTower$Person") (n := 1) (As := [.ref (G.1 14 0)]) (st := st) C (c_X1_size l G σ a hI ha ) ha hk rfl (fun hK => va_cwO (owner := "LeanTower$Person") 1 C.2.2.2.2 (goodIn_app (wa_gl (List.forall_mem_cons.mpr ⟨ql, List.forall_mem_cons.mpr ⟨q4_45, List.forall_mem_cons.mpr ⟨q4_44, List.forall_mem_cons.mpr ⟨q4_46, List.forall_mem_cons.mpr ⟨q4_47, List.forall_mem_cons.mpr ⟨q1_18, fun _ h => absurd h List.not_mem_nil⟩⟩⟩⟩⟩⟩)) (wa_goodIn _ _ _ _ q4_48)) rfl rfl rfl q4_88 (by decide +kernel) ⟨Nat.le_trans (by decide) hR.1, Nat.le_trans (by decide) hR.2⟩) rfl hf rfl hW d ?_
    rintro _ τ ⟨r, rfl, i, f, _⟩
    exact kk r τ i (Fr.call Fr.rf f (by decide))
  · refine m_callU (x := ⟨"LeanTower$Person", "size", "(LLeanTower$Trace;)I"⟩) (owner := "LeanTower$Person") (n := 1) (As := [.ref (G.1 14 0)]) (st := st) C (c_X2_size l G σ a hI ha (by simp [hk])) ha hk rfl (fun hK => va_cwO (owner := "LeanTower$Person") 1 C.2.2.2.2 (goodIn_app (wa_gl (List.forall_mem_cons.mpr ⟨ql, List.forall_mem_cons.mpr ⟨q4_45, List.forall_mem_cons.mpr ⟨q4_44, List.forall_mem_cons.mpr ⟨q4_58, List.forall_mem_cons.mpr ⟨q4_59, List.forall_mem_cons.mpr ⟨q1_16, fun _ h => absurd h List.not_mem_nil⟩⟩⟩⟩⟩⟩)) (wa_goodIn _ _ _ _ q4_60)) rfl rfl rfl q4_88 (by decide +kernel) ⟨Nat.le_trans (by decide) hR.1, Nat.le_trans (by decide) hR.2⟩) rfl hf rfl hW d ?_
    rintro _ τ ⟨r, rfl, i, f, _⟩
    exact kk r τ i (Fr.call Fr.rf f (by decide))
  · refine m_callU (x := ⟨"LeanTower$Person", "size", "(LLeanTower$Trace;)I"⟩) (owner := "LeanTower$Person") (n := 1) (As := [.ref (G.1 14 0)]) (st := st) C (c_X3_size l G σ a hI ha ) ha hk rfl (fun hK => va_cwO (owner := "LeanTower$Person") 1 C.2.2.2.2 (goodIn_app (wa_gl (List.forall_mem_cons.mpr ⟨ql, List.forall_mem_cons.mpr ⟨q4_45, List.forall_mem_cons.mpr ⟨q4_44, List.forall_mem_cons.mpr ⟨q4_85, List.forall_mem_cons.mpr ⟨q4_54, List.forall_mem_cons.mpr ⟨q1_17, fun _ h => absurd h List.not_mem_nil⟩⟩⟩⟩⟩⟩)) (wa_goodIn _ _ _ _ q4_55)) rfl rfl rfl q4_88 (by decide +kernel) ⟨Nat.le_trans (by decide) hR.1, Nat.le_trans (by decide) hR.2⟩) rfl hf rfl hW d ?_
    rintro _ τ ⟨r, rfl, i, f, _⟩
    exact kk r τ i (Fr.call Fr.rf f (by decide))
  · refine m_callU (x := ⟨"LeanTower$Person", "size", "(LLeanTower$Trace;)I"⟩) (owner := "LeanTower$Person") (n := 1) (As := [.ref (G.1 14 0)]) (st := st) C (c_X5_size l G σ a hI ha (by simp [hk])) ha hk rfl (fun hK => va_cwO (owner := "LeanTower$Person") 1 C.2.2.2.2 (goodIn_app (wa_gl (List.forall_mem_cons.mpr ⟨ql, List.forall_mem_cons.mpr ⟨q4_45, List.forall_mem_cons.mpr ⟨q4_44, List.forall_mem_cons.mpr ⟨q4_86, List.forall_mem_cons.mpr ⟨q4_63, List.forall_mem_cons.mpr ⟨q1_14, fun _ h => absurd h List.not_mem_nil⟩⟩⟩⟩⟩⟩)) (wa_goodIn _ _ _ _ q4_64)) rfl rfl rfl q4_88 (by decide +kernel) ⟨Nat.le_trans (by decide) hR.1, Nat.le_trans (by decide) hR.2⟩) rfl hf rfl hW d ?_
    rintro _ τ ⟨r, rfl, i, f, _⟩
    exact kk r τ i (Fr.call Fr.rf f (by decide))
  · refine m_callU (x := ⟨"LeanTower$Person", "size", "(LLeanTower$Trace;)I"⟩) (owner := "LeanTower$Person") (n := 1) (As := [.ref (G.1 14 0)]) (st := st) C (c_X5_size l G σ a hI ha (by simp [hk])) ha hk rfl (fun hK => va_cwO (owner := "LeanTower$Person") 1 C.2.2.2.2 (goodIn_app (wa_gl (List.forall_mem_cons.mpr ⟨ql, List.forall_mem_cons.mpr ⟨q4_45, List.forall_mem_cons.mpr ⟨q4_44, List.forall_mem_cons.mpr ⟨q4_87, List.forall_mem_cons.mpr ⟨q4_63, List.forall_mem_cons.mpr ⟨q1_14, fun _ h => absurd h List.not_mem_nil⟩⟩⟩⟩⟩⟩)) (wa_goodIn _ _ _ _ q4_64)) rfl rfl rfl q4_88 (by decide +kernel) ⟨Nat.le_trans (by decide) hR.1, Nat.le_trans (by decide) hR.2⟩) rfl hf rfl hW d ?_
    rintro _ τ ⟨r, rfl, i, f, _⟩
    exact kk r τ i (Fr.call Fr.rf f (by decide))

set_option maxHeartbeats 4000000 in
theorem v_mark {p : Program} {l : Launch} {e : Env} {R : Room} {s : State} {m : MethodId} {args : Array Value} {below : List Frame} {meth : Method} {c : Code} {cells slots : Nat} {Q : State → Prop} {cc : ByteArray} {nL : Nat} {own : String} {G : Gt} {σ : Sg} {pc : Nat} {L : List (Option Value)} {st : List Value} (C : Cx p s m args c cc nL own) {index a : Nat} (ql : Cond.methodLink own index ⟨"LeanTower$Person", "mark", "(LLeanTower$Trace;)I"⟩ ∈ WA) (hI : Inv σ) (ha : a ∈ σ.2.2.2.1) (hR : 5 ≤ R.frames ∧ 106 ≤ R.locals) (hf : cells ≤ R.cells ∧ slots ≤ R.slots) (hW : (st.map fun v => v.category).sum ≤ 8) (d : decode cc pc = .ok (.invokevirtual index, 3)) (kk : ∀ (r : Int32) (τ : Sg), Inv τ → Fr [(14, 1)] [15] σ τ → MW p l e R s m args below meth c Q nL G cells slots (pc + 3) L (.int r :: st) τ) : MW p l e R s m args below meth c Q nL G cells slots pc L (.ref (G.1 14 0) :: .ref a :: st) σ := by
  have hk := hI.2.2.2 a ha
  simp only [List.mem_cons, List.not_mem_nil, or_false] at hk
  rcases hk with hk | hk | hk | hk | hk
  · refine m_callU (x := ⟨"LeanTower$Person", "mark", "(LLeanTower$Trace;)I"⟩) (owner := "LeanTower$Person") (n := 1) (As := [.ref (G.1 14 0)]) (st := st) C (c_X3_mark l G σ a hI ha (by simp [hk])) ha hk rfl (fun hK => va_cwO (owner := "LeanTower$Person") 1 C.2.2.2.2 (goodIn_app (wa_gl (List.forall_mem_cons.mpr ⟨ql, List.forall_mem_cons.mpr ⟨q5_225, List.forall_mem_cons.mpr ⟨q4_82, List.forall_mem_cons.mpr ⟨q5_226, List.forall_mem_cons.mpr ⟨q4_90, List.forall_mem_cons.mpr ⟨q1_17, fun _ h => absurd h List.not_mem_nil⟩⟩⟩⟩⟩⟩)) (wa_goodIn _ _ _ _ q4_91)) rfl rfl rfl q4_83 (by decide +kernel) ⟨Nat.le_trans (by decide) hR.1, Nat.le_trans (by decide) hR.2⟩) rfl hf rfl hW d ?_
    rintro _ τ ⟨r, rfl, i, f, _⟩
    exact kk r τ i (Fr.call Fr.rf f (by decide))
  · refine m_callU (x := ⟨"LeanTower$Person", "mark", "(LLeanTower$Trace;)I"⟩) (owner := "LeanTower$Person") (n := 1) (As := [.ref (G.1 14 0)]) (st := st) C (c_X2_mark l G σ a hI ha ) ha hk rfl (fun hK => va_cwO (owner := "LeanTower$Person") 1 C.2.2.2.2 (goodIn_app (wa_gl (List.forall_mem_cons.mpr ⟨ql, List.forall_mem_cons.mpr ⟨q5_225, List.forall_mem_cons.mpr ⟨q4_82, List.forall_mem_cons.mpr ⟨q5_229, List.forall_mem_cons.mpr ⟨q4_72, List.forall_mem_cons.mpr ⟨q1_16, fun _ h => absurd h List.not_mem_nil⟩⟩⟩⟩⟩⟩)) (wa_goodIn _ _ _ _ q4_73)) rfl rfl rfl q4_83 (by decide +kernel) ⟨Nat.le_trans (by decide) hR.1, Nat.le_trans (by decide) hR.2⟩) rfl hf rfl hW d ?_
    rintro _ τ ⟨r, rfl, i, f, _⟩
    exact kk r τ i (Fr.call Fr.rf f (by decide))
  · refine m_callU (x := ⟨"LeanTower$Person", "mark", "(LLeanTower$Trace;)I"⟩) (owner := "LeanTower$Person") (n := 1) (As := [.ref (G.1 14 0)]) (st := st) C (c_X3_mark l G σ a hI ha (by simp [hk])) ha hk rfl (fun hK => va_cwO (owner := "LeanTower$Person") 1 C.2.2.2.2 (goodIn_app (wa_gl (List.forall_mem_cons.mpr ⟨ql, List.forall_mem_cons.mpr ⟨q5_225, List.forall_mem_cons.mpr ⟨q4_82, List.forall_mem_cons.mpr ⟨q5_230, List.forall_mem_cons.mpr ⟨q4_90, List.forall_mem_cons.mpr ⟨q1_17, fun _ h => absurd h List.not_mem_nil⟩⟩⟩⟩⟩⟩)) (wa_goodIn _ _ _ _ q4_91)) rfl rfl rfl q4_83 (by decide +kernel) ⟨Nat.le_trans (by decide) hR.1, Nat.le_trans (by decide) hR.2⟩) rfl hf rfl hW d ?_
    rintro _ τ ⟨r, rfl, i, f, _⟩
    exact kk r τ i (Fr.call Fr.rf f (by decide))
  · refine m_callU (x := ⟨"LeanTower$Person", "mark", "(LLeanTower$Trace;)I"⟩) (owner := "LeanTower$Person") (n := 1) (As := [.ref (G.1 14 0)]) (st := st) C (c_X5_mark l G σ a hI ha ) ha hk rfl (fun hK => va_cwO (owner := "LeanTower$Person") 1 C.2.2.2.2 (goodIn_app (wa_gl (List.forall_mem_cons.mpr ⟨ql, List.forall_mem_cons.mpr ⟨q5_225, List.forall_mem_cons.mpr ⟨q4_82, List.forall_mem_cons.mpr ⟨q5_231, List.forall_mem_cons.mpr ⟨q4_68, List.forall_mem_cons.mpr ⟨q1_14, fun _ h => absurd h List.not_mem_nil⟩⟩⟩⟩⟩⟩)) (wa_goodIn _ _ _ _ q4_80)) rfl rfl rfl q4_83 (by decide +kernel) ⟨Nat.le_trans (by decide) hR.1, Nat.le_trans (by decide) hR.2⟩) rfl hf rfl hW d ?_
    rintro _ τ ⟨r, rfl, i, f, _⟩
    exact kk r τ i (Fr.call Fr.rf f (by decide))
  · refine m_callU (x := ⟨"LeanTower$Person", "mark", "(LLeanTower$Trace;)I"⟩) (owner := "LeanTower$Person") (n := 1) (As := [.ref (G.1 14 0)]) (st := st) C (c_X10_mark l G σ a hI ha ) ha hk rfl (fun hK => va_cwO (owner := "LeanTower$Person") 1 C.2.2.2.2 (goodIn_app (wa_gl (List.forall_mem_cons.mpr ⟨ql, List.forall_mem_cons.mpr ⟨q5_225, List.forall_mem_cons.mpr ⟨q4_82, List.forall_mem_cons.mpr ⟨q5_232, List.forall_mem_cons.mpr ⟨q4_76, List.forall_mem_cons.mpr ⟨q1_15, fun _ h => absurd h List.not_mem_nil⟩⟩⟩⟩⟩⟩)) (wa_goodIn _ _ _ _ q4_77)) rfl rfl rfl q4_83 (by decide +kernel) ⟨Nat.le_trans (by decide) hR.1, Nat.le_trans (by decide) hR.2⟩) rfl hf rfl hW d ?_
    rintro _ τ ⟨r, rfl, i, f, _⟩
    exact kk r τ i (Fr.call Fr.rf f (by decide))
