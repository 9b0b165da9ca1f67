abbrev MS_X4_initS : List (Nat × Nat) := []
abbrev AS_X4_initS : List Nat := [99]
set_option maxHeartbeats 4000000 in
set_option maxRecDepth 100000 in
theorem c_X4_initS (l : Launch) (G : Gt) (σ : Sg) (a0 : Nat) (a1 : Int32) (a2 : Int32) (a3 : Int32) (hI : Inv σ) (ha0 : a0 ∈ σ.2.2.2.1) : Mc l G yX4_init cX4_init 4 none 1 40 0 0 [.ref a0, .int a1, .int a2, .int a3] σ (PV fun τ => Inv τ ∧ Fr MS_X4_initS AS_X4_initS σ τ ∧ PIn σ τ a0 a1 a2 a3) := by
  refine Mc.ofN (L0 := [some (.ref a0), some (.int a1), some (.int a2), some (.int a3)]) (by decide) (Nat.le_of_ble_eq_true rfl) rfl ?_
  intro p e s m args below meth c C hr hlk hnm
  have C : Cx p s m args c cX4_init 4 "LeanTower$Person" := C
  have hin : meth.name = "<init>" := hnm
  have k0 : (0 : Int32).toInt = 0 := by decide
  have k1 : (1 : Int32).toInt = 1 := by decide
  refine m_aload_n C dX4_init_0 rfl rfl ?_
  refine m_objInit (st := []) C q2_178 q1_27 q1_28 ⟨by decide, Nat.le_of_ble_eq_true rfl⟩ trivial dX4_init_1 ?_
  refine m_aload_n C dX4_init_4 rfl rfl ?_
  refine m_iload_n C dX4_init_5 rfl rfl ?_
  refine pp_0 C hin rfl hI.2.2 ha0 q2_179 dX4_init_6 ?_
  refine m_tops (fun τ1 eτ1 => ?_)
  have i2 : Inv τ1 := eτ1 ▸ Inv.sP hI
  have f3 : Fr MS_X4_initS AS_X4_initS σ τ1 := eτ1 ▸ Fr.sP (Fr.rf) (by decide)
  have v4 : a0 ∈ τ1.2.2.2.1 := by rw [eτ1]; exact ha0
  refine m_aload_n C dX4_init_9 rfl rfl ?_
  refine m_iload_n C dX4_init_10 rfl rfl ?_
  refine pp_1 C hin rfl i2.2.2 v4 q2_180 dX4_init_11 ?_
  refine m_tops (fun τ5 eτ5 => ?_)
  have i6 : Inv τ5 := eτ5 ▸ Inv.sP i2
  have f7 : Fr MS_X4_initS AS_X4_initS σ τ5 := eτ5 ▸ Fr.sP (f3) (by decide)
  have v8 : a0 ∈ τ5.2.2.2.1 := by rw [eτ5]; exact v4
  refine m_aload_n C dX4_init_14 rfl rfl ?_
  refine m_iload_n C dX4_init_15 rfl rfl ?_
  refine pp_2 C hin rfl i6.2.2 v8 q2_183 dX4_init_16 ?_
  refine m_tops (fun τ9 eτ9 => ?_)
  have i10 : Inv τ9 := eτ9 ▸ Inv.sP i6
  have f11 : Fr MS_X4_initS AS_X4_initS σ τ9 := eτ9 ▸ Fr.sP (f7) (by decide)
  have v12 : a0 ∈ τ9.2.2.2.1 := by rw [eτ9]; exact v8
  exact m_vret C hr hlk (by decide) (by decide) dX4_init_19 ⟨rfl, i10, f11, (PIn.mk eτ1 eτ5 eτ9)⟩

abbrev MS_X5_initS : List (Nat × Nat) := []
abbrev AS_X5_initS : List Nat := [99]
set_option maxHeartbeats 4000000 in
set_option maxRecDepth 100000 in
theorem c_X5_initS (l : Launch) (G : Gt) (σ : Sg) (a0 : Nat) (a1 : Int32) (a2 : Int32) (a3 : Int32) (hI : Inv σ) (ha0 : a0 ∈ σ.2.2.2.1) : Mc l G yX5_init cX5_init 4 none 2 63 0 0 [.ref a0, .int a1, .int a2, .int a3] σ (PV fun τ => Inv τ ∧ Fr MS_X5_initS AS_X5_initS σ τ ∧ PIn σ τ a0 a1 a2 a3) := by
  refine Mc.ofN (L0 := [some (.ref a0), some (.int a1), some (.int a2), some (.int a3)]) (by decide) (Nat.le_of_ble_eq_true rfl) rfl ?_
  intro p e s m args below meth c C hr hlk hnm
  have C : Cx p s m args c cX5_init 4 "LeanTower$Pilgrim" := C
  have hin : meth.name = "<init>" := hnm
  have k0 : (0 : Int32).toInt = 0 := by decide
  have k1 : (1 : Int32).toInt = 1 := by decide
  refine m_aload_n C dX5_init_0 rfl rfl ?_
  refine m_iload_n C dX5_init_1 rfl rfl ?_
  refine m_iload_n C dX5_init_2 rfl rfl ?_
  refine m_iload_n C dX5_init_3 rfl rfl ?_
  refine m_callI (n := 3) (st := []) C (c_X4_initS l G σ  a0 (a1) (a2) (a3) hI ha0  ) rfl q2_177 q2_175 q2_176 q1_13 (by decide +kernel) rfl (by decide) (by decide) rfl (Nat.le_of_ble_eq_true rfl) dX5_init_4 ?_
  rintro _ τ1 ⟨rfl, i2, f3, h6⟩
  have g5 : Fr MS_X5_initS AS_X5_initS σ τ1 := Fr.call (Fr.rf) f3 (by decide)
  have v7 : a0 ∈ τ1.2.2.2.1 := by rw [h6.1]; exact ha0
  show MW p l e _ s m args below meth c _ 4 G 0 0 7 [some (.ref a0), some (.int a1), some (.int a2), some (.int a3)] [] τ1
  exact m_vret C hr hlk (by decide) (by decide) dX5_init_7 ⟨rfl, i2, g5, h6⟩

abbrev MS_X3_initS : List (Nat × Nat) := []
abbrev AS_X3_initS : List Nat := [99]
set_option maxHeartbeats 4000000 in
set_option maxRecDepth 100000 in
theorem c_X3_initS (l : Launch) (G : Gt) (σ : Sg) (a0 : Nat) (a1 : Int32) (a2 : Int32) (a3 : Int32) (hI : Inv σ) (ha0 : a0 ∈ σ.2.2.2.1) : Mc l G yX3_init cX3_init 4 none 2 63 0 0 [.ref a0, .int a1, .int a2, .int a3] σ (PV fun τ => Inv τ ∧ Fr MS_X3_initS AS_X3_initS σ τ ∧ PIn σ τ a0 a1 a2 a3) := by
  refine Mc.ofN (L0 := [some (.ref a0), some (.int a1), some (.int a2), some (.int a3)]) (by decide) (Nat.le_of_ble_eq_true rfl) rfl ?_
  intro p e s m args below meth c C hr hlk hnm
  have C : Cx p s m args c cX3_init 4 "LeanTower$Monk" := C
  have hin : meth.name = "<init>" := hnm
  have k0 : (0 : Int32).toInt = 0 := by decide
  have k1 : (1 : Int32).toInt = 1 := by decide
  refine m_aload_n C dX3_init_0 rfl rfl ?_
  refine m_iload_n C dX3_init_1 rfl rfl ?_
  refine m_iload_n C dX3_init_2 rfl rfl ?_
  refine m_iload_n C dX3_init_3 rfl rfl ?_
  refine m_callI (n := 3) (st := []) C (c_X4_initS l G σ  a0 (a1) (a2) (a3) hI ha0  ) rfl q2_177 q2_210 q2_176 q1_13 (by decide +kernel) rfl (by decide) (by decide) rfl (Nat.le_of_ble_eq_true rfl) dX3_init_4 ?_
  rintro _ τ1 ⟨rfl, i2, f3, h6⟩
  have g5 : Fr MS_X3_initS AS_X3_initS σ τ1 := Fr.call (Fr.rf) f3 (by decide)
  have v7 : a0 ∈ τ1.2.2.2.1 := by rw [h6.1]; exact ha0
  show MW p l e _ s m args below meth c _ 4 G 0 0 7 [some (.ref a0), some (.int a1), some (.int a2), some (.int a3)] [] τ1
  exact m_vret C hr hlk (by decide) (by decide) dX3_init_7 ⟨rfl, i2, g5, h6⟩

abbrev MS_X10_initS : List (Nat × Nat) := []
abbrev AS_X10_initS : List Nat := [99]
set_option maxHeartbeats 4000000 in
set_option maxRecDepth 100000 in
theorem c_X10_initS (l : Launch) (G : Gt) (σ : Sg) (a0 : Nat) (a1 : Int32) (a2 : Int32) (a3 : Int32) (hI : Inv σ) (ha0 : a0 ∈ σ.2.2.2.1) : Mc l G yX10_init cX10_init 4 none 3 86 0 0 [.ref a0, .int a1, .int a2, .int a3] σ (PV fun τ => Inv τ ∧ Fr MS_X10_initS AS_X10_initS σ τ ∧ PIn σ τ a0 a1 (2 * a2) a3) := by
  refine Mc.ofN (L0 := [some (.ref a0), some (.int a1), some (.int a2), some (.int a3)]) (by decide) (Nat.le_of_ble_eq_true rfl) rfl ?_
  intro p e s m args below meth c C hr hlk hnm
  have C : Cx p s m args c cX10_init 4 "LeanTower$Widow" := C
  have hin : meth.name = "<init>" := hnm
  have k0 : (0 : Int32).toInt = 0 := by decide
  have k1 : (1 : Int32).toInt = 1 := by decide
  refine m_aload_n C dX10_init_0 rfl rfl ?_
  refine m_iload_n C dX10_init_1 rfl rfl ?_
  refine m_iconst (v := 2) C dX10_init_2 (by decide) ?_
  refine m_iload_n C dX10_init_3 rfl rfl ?_
  refine m_imul C dX10_init_4 ?_
  refine m_topi (fun x1 ex1 => ?_)
  refine m_iload_n C dX10_init_5 rfl rfl ?_
  refine m_callI (n := 3) (st := []) C (c_X5_initS l G σ  a0 (a1) (x1) (a3) hI ha0  ) rfl q2_174 q2_172 q2_173 q1_14 (by decide +kernel) rfl (by decide) (by decide) rfl (Nat.le_of_ble_eq_true rfl) dX10_init_6 ?_
  rintro _ τ2 ⟨rfl, i3, f4, h7⟩
  have g6 : Fr MS_X10_initS AS_X10_initS σ τ2 := Fr.call (Fr.rf) f4 (by decide)
  have v8 : a0 ∈ τ2.2.2.2.1 := by rw [h7.1]; exact ha0
  show MW p l e _ s m args below meth c _ 4 G 0 0 9 [some (.ref a0), some (.int a1), some (.int a2), some (.int a3)] [] τ2
  exact m_vret C hr hlk (by decide) (by decide) dX10_init_9 ⟨rfl, i3, g6, (by have q := h7; rw [ex1] at q; exact q)⟩

abbrev MS_X2_initS : List (Nat × Nat) := []
abbrev AS_X2_initS : List Nat := [99]
set_option maxHeartbeats 4000000 in
set_option maxRecDepth 100000 in
theorem c_X2_initS (l : Launch) (G : Gt) (σ : Sg) (a0 : Nat) (a1 : Int32) (a2 : Int32) (a3 : Int32) (hI : Inv σ) (ha0 : a0 ∈ σ.2.2.2.1) : Mc l G yX2_init cX2_init 4 none 3 86 0 0 [.ref a0, .int a1, .int a2, .int a3] σ (PV fun τ => Inv τ ∧ Fr MS_X2_initS AS_X2_initS σ τ ∧ PIn σ τ a0 a1 (a2 / 2) a3) := by
  refine Mc.ofN (L0 := [some (.ref a0), some (.int a1), some (.int a2), some (.int a3)]) (by decide) (Nat.le_of_ble_eq_true rfl) rfl ?_
  intro p e s m args below meth c C hr hlk hnm
  have C : Cx p s m args c cX2_init 4 "LeanTower$Boy" := C
  have hin : meth.name = "<init>" := hnm
  have k0 : (0 : Int32).toInt = 0 := by decide
  have k1 : (1 : Int32).toInt = 1 := by decide
  refine m_aload_n C dX2_init_0 rfl rfl ?_
  refine m_iload_n C dX2_init_1 rfl rfl ?_
  refine m_iload_n C dX2_init_2 rfl rfl ?_
  refine m_iconst (v := 2) C dX2_init_3 (by decide) ?_
  refine m_idiv C dX2_init_4 (iv_nz kc_2 (by decide)) ?_
  refine m_topi (fun x1 ex1 => ?_)
  refine m_iload_n C dX2_init_5 rfl rfl ?_
  refine m_callI (n := 3) (st := []) C (c_X5_initS l G σ  a0 (a1) (x1) (a3) hI ha0  ) rfl q2_174 q2_200 q2_173 q1_14 (by decide +kernel) rfl (by decide) (by decide) rfl (Nat.le_of_ble_eq_true rfl) dX2_init_6 ?_
  rintro _ τ2 ⟨rfl, i3, f4, h7⟩
  have g6 : Fr MS_X2_initS AS_X2_initS σ τ2 := Fr.call (Fr.rf) f4 (by decide)
  have v8 : a0 ∈ τ2.2.2.2.1 := by rw [h7.1]; exact ha0
  show MW p l e _ s m args below meth c _ 4 G 0 0 9 [some (.ref a0), some (.int a1), some (.int a2), some (.int a3)] [] τ2
  exact m_vret C hr hlk (by decide) (by decide) dX2_init_9 ⟨rfl, i3, g6, (by have q := h7; rw [ex1] at q; exact q)⟩

abbrev MS_X1_initS : List (Nat × Nat) := []
abbrev AS_X1_initS : List Nat := [99]
set_option maxHeartbeats 4000000 in
set_option maxRecDepth 100000 in
theorem c_X1_initS (l : Launch) (G : Gt) (σ : Sg) (a0 : Nat) (a1 : Int32) (a2 : Int32) (a3 : Int32) (hI : Inv σ) (ha0 : a0 ∈ σ.2.2.2.1) : Mc l G yX1_init cX1_init 4 none 3 86 0 0 [.ref a0, .int a1, .int a2, .int a3] σ (PV fun τ => Inv τ ∧ Fr MS_X1_initS AS_X1_initS σ τ ∧ PIn σ τ a0 a1 (a2 + 5) a3) := by
  refine Mc.ofN (L0 := [some (.ref a0), some (.int a1), some (.int a2), some (.int a3)]) (by decide) (Nat.le_of_ble_eq_true rfl) rfl ?_
  intro p e s m args below meth c C hr hlk hnm
  have C : Cx p s m args c cX1_init 4 "LeanTower$Bishop" := C
  have hin : meth.name = "<init>" := hnm
  have k0 : (0 : Int32).toInt = 0 := by decide
  have k1 : (1 : Int32).toInt = 1 := by decide
  refine m_aload_n C dX1_init_0 rfl rfl ?_
  refine m_iload_n C dX1_init_1 rfl rfl ?_
  refine m_iload_n C dX1_init_2 rfl rfl ?_
  refine m_iconst (v := 5) C dX1_init_3 (by decide) ?_
  refine m_iadd C dX1_init_4 ?_
  refine m_topi (fun x1 ex1 => ?_)
  refine m_iload_n C dX1_init_5 rfl rfl ?_
  refine m_callI (n := 3) (st := []) C (c_X3_initS l G σ  a0 (a1) (x1) (a3) hI ha0  ) rfl q2_209 q2_220 q2_208 q1_17 (by decide +kernel) rfl (by decide) (by decide) rfl (Nat.le_of_ble_eq_true rfl) dX1_init_6 ?_
  rintro _ τ2 ⟨rfl, i3, f4, h7⟩
  have g6 : Fr MS_X1_initS AS_X1_initS σ τ2 := Fr.call (Fr.rf) f4 (by decide)
  have v8 : a0 ∈ τ2.2.2.2.1 := by rw [h7.1]; exact ha0
  show MW p l e _ s m args below meth c _ 4 G 0 0 9 [some (.ref a0), some (.int a1), some (.int a2), some (.int a3)] [] τ2
  exact m_vret C hr hlk (by decide) (by decide) dX1_init_9 ⟨rfl, i3, g6, (by have q := h7; rw [ex1] at q; exact q)⟩

abbrev MS_X6_newPersonS : List (Nat × Nat) := []
abbrev AS_X6_newPersonS : List Nat := [99]
set_option maxHeartbeats 4000000 in
set_option maxRecDepth 100000 in
theorem c_X6_newPersonS (l : Launch) (G : Gt) (σ : Sg) (a1 : Int32) (a2 : Int32) (a3 : Int32) (a4 : Int32) (hI : Inv σ) (ha1 : IV a1 1 5) (ha2 : IV a2 0 6) (ha3 : IV a3 1 20) (ha4 : IV a4 1 4) : Mc l G yX6_newPerson cX6_newPerson 4 (some (.object "LeanTower$Person")) 4 109 1 3 [.int a1, .int a2, .int a3, .int a4] σ (PR fun x τ => Inv τ ∧ Fr MS_X6_newPersonS AS_X6_newPersonS σ τ ∧ (∃ q : Nat, x = .ref q ∧ q ∈ τ.2.2.2.1 ∧ PGr σ τ ∧ PeC τ q a2.toInt.toNat (a1.toInt, buF a1.toInt a3.toInt, a4.toInt))) := by
  refine Mc.of (L0 := [some (.int a1), some (.int a2), some (.int a3), some (.int a4)]) (by decide) (Nat.le_of_ble_eq_true rfl) rfl ?_
  intro p e s m args below meth c C hr hlk
  have C : Cx p s m args c cX6_newPerson 4 "LeanTower$Reader" := C
  have k0 : (0 : Int32).toInt = 0 := by decide
  have k1 : (1 : Int32).toInt = 1 := by decide
  refine m_iload_n C dX6_newPerson_0 rfl rfl ?_
  by_cases s1 : a1.toInt < 2 ∨ 5 < a1.toInt
  · refine m_tableOut (tgt := 76) C dX6_newPerson_1 s1 (by decide) ?_
    refine m_newF4 C q2_225 q2_226 q1_14 (by decide) (by decide) dX6_newPerson_76 (fun x2 h3 => ?_)
    refine m_tops (fun τ4 eτ4 => ?_)
    have i5 : Inv τ4 := eτ4 ▸ Inv.addP hI (by decide)
    have f6 : Fr MS_X6_newPersonS AS_X6_newPersonS σ τ4 := eτ4 ▸ Fr.addP (Fr.rf) (by decide)
    have v7 : x2 ∈ τ4.2.2.2.1 := by rw [eτ4]; exact List.mem_append_right _ (List.mem_singleton.mpr rfl)
    refine m_dup C dX6_newPerson_79 rfl ?_
    refine m_iload_n C dX6_newPerson_80 rfl rfl ?_
    refine m_iload_n C dX6_newPerson_81 rfl rfl ?_
    refine m_iload_n C dX6_newPerson_82 rfl rfl ?_
    refine m_callI (n := 3) (st := [.ref x2]) C (c_X5_initS l G τ4  x2 (a2) (a3) (a4) i5 v7  ) rfl q2_174 q2_227 q2_173 q1_14 (by decide +kernel) rfl (by decide) (by decide) rfl (Nat.le_of_ble_eq_true rfl) dX6_newPerson_83 ?_
    rintro _ τ8 ⟨rfl, i9, f10, h13⟩
    have g12 : Fr MS_X6_newPersonS AS_X6_newPersonS σ τ8 := Fr.call (f6) f10 (by decide)
    have v14 : x2 ∈ τ8.2.2.2.1 := by rw [h13.1]; exact v7
    show MW p l e _ s m args below meth c _ 4 G 1 3 86 [some (.int a1), some (.int a2), some (.int a3), some (.int a4)] [.ref x2] τ8
    exact m_aret C hr (Or.inr ⟨_, rfl⟩) hlk (by decide) (by decide) dX6_newPerson_86 ⟨_, rfl, i9, g12, (by have qk : a1.toInt = 1 := (by omega); have qn := NPe (i := a2.toInt.toNat) (k := a1.toInt) (bu := buF a1.toInt a3.toInt) (pa := a4.toInt) eτ4 h3 h13 (by rw [qk]; decide) (by omega) (by rw [qk]; exact (bu_of ha3).1) rfl; exact ⟨_, rfl, qn⟩)⟩
  by_cases s15 : a1.toInt = 2
  · refine m_tableIn (tgt := 32) (off := 31) C dX6_newPerson_1 (by omega) (by omega) (by rw [s15]; rfl) (by decide) ?_
    have b16 : IV a1 2 2 := ⟨by omega, by omega⟩
    refine m_newF9 C q2_167 q2_168 q1_15 (by decide) (by decide) dX6_newPerson_32 (fun x17 h18 => ?_)
    refine m_tops (fun τ19 eτ19 => ?_)
    have i20 : Inv τ19 := eτ19 ▸ Inv.addP hI (by decide)
    have f21 : Fr MS_X6_newPersonS AS_X6_newPersonS σ τ19 := eτ19 ▸ Fr.addP (Fr.rf) (by decide)
    have v22 : x17 ∈ τ19.2.2.2.1 := by rw [eτ19]; exact List.mem_append_right _ (List.mem_singleton.mpr rfl)
    refine m_dup C dX6_newPerson_35 rfl ?_
    refine m_iload_n C dX6_newPerson_36 rfl rfl ?_
    refine m_iload_n C dX6_newPerson_37 rfl rfl ?_
    refine m_iload_n C dX6_newPerson_38 rfl rfl ?_
    refine m_callI (n := 3) (st := [.ref x17]) C (c_X10_initS l G τ19  x17 (a2) (a3) (a4) i20 v22  ) rfl q2_171 q2_169 q2_170 q1_15 (by decide +kernel) rfl (by decide) (by decide) rfl (Nat.le_of_ble_eq_true rfl) dX6_newPerson_39 ?_
    rintro _ τ23 ⟨rfl, i24, f25, h28⟩
    have g27 : Fr MS_X6_newPersonS AS_X6_newPersonS σ τ23 := Fr.call (f21) f25 (by decide)
    have v29 : x17 ∈ τ23.2.2.2.1 := by rw [h28.1]; exact v22
    show MW p l e _ s m args below meth c _ 4 G 1 3 42 [some (.int a1), some (.int a2), some (.int a3), some (.int a4)] [.ref x17] τ23
    exact m_aret C hr (Or.inr ⟨_, rfl⟩) hlk (by decide) (by decide) dX6_newPerson_42 ⟨_, rfl, i24, g27, (by have qk : a1.toInt = 2 := (by omega); have qn := NPe (i := a2.toInt.toNat) (k := a1.toInt) (bu := buF a1.toInt a3.toInt) (pa := a4.toInt) eτ19 h18 h28 (by rw [qk]; decide) (by omega) (by rw [qk]; exact (bu_of ha3).2.1) rfl; exact ⟨_, rfl, qn⟩)⟩
  by_cases s30 : a1.toInt = 3
  · refine m_tableIn (tgt := 43) (off := 42) C dX6_newPerson_1 (by omega) (by omega) (by rw [s30]; rfl) (by decide) ?_
    have b31 : IV a1 3 3 := ⟨by omega, by omega⟩
    refine m_newF2 C q2_195 q2_196 q1_16 (by decide) (by decide) dX6_newPerson_43 (fun x32 h33 => ?_)
    refine m_tops (fun τ34 eτ34 => ?_)
    have i35 : Inv τ34 := eτ34 ▸ Inv.addP hI (by decide)
    have f36 : Fr MS_X6_newPersonS AS_X6_newPersonS σ τ34 := eτ34 ▸ Fr.addP (Fr.rf) (by decide)
    have v37 : x32 ∈ τ34.2.2.2.1 := by rw [eτ34]; exact List.mem_append_right _ (List.mem_singleton.mpr rfl)
    refine m_dup C dX6_newPerson_46 rfl ?_
    refine m_iload_n C dX6_newPerson_47 rfl rfl ?_
    refine m_iload_n C dX6_newPerson_48 rfl rfl ?_
    refine m_iload_n C dX6_newPerson_49 rfl rfl ?_
    refine m_callI (n := 3) (st := [.ref x32]) C (c_X2_initS l G τ34  x32 (a2) (a3) (a4) i35 v37  ) rfl q2_199 q2_197 q2_198 q1_16 (by decide +kernel) rfl (by decide) (by decide) rfl (Nat.le_of_ble_eq_true rfl) dX6_newPerson_50 ?_
    rintro _ τ38 ⟨rfl, i39, f40, h43⟩
    have g42 : Fr MS_X6_newPersonS AS_X6_newPersonS σ τ38 := Fr.call (f36) f40 (by decide)
    have v44 : x32 ∈ τ38.2.2.2.1 := by rw [h43.1]; exact v37
    show MW p l e _ s m args below meth c _ 4 G 1 3 53 [some (.int a1), some (.int a2), some (.int a3), some (.int a4)] [.ref x32] τ38
    exact m_aret C hr (Or.inr ⟨_, rfl⟩) hlk (by decide) (by decide) dX6_newPerson_53 ⟨_, rfl, i39, g42, (by have qk : a1.toInt = 3 := (by omega); have qn := NPe (i := a2.toInt.toNat) (k := a1.toInt) (bu := buF a1.toInt a3.toInt) (pa := a4.toInt) eτ34 h33 h43 (by rw [qk]; decide) (by omega) (by rw [qk]; exact (bu_of ha3).2.2.1) rfl; exact ⟨_, rfl, qn⟩)⟩
  by_cases s45 : a1.toInt = 4
  · refine m_tableIn (tgt := 54) (off := 53) C dX6_newPerson_1 (by omega) (by omega) (by rw [s45]; rfl) (by decide) ?_
    have b46 : IV a1 4 4 := ⟨by omega, by omega⟩
    refine m_newF3 C q2_205 q2_206 q1_17 (by decide) (by decide) dX6_newPerson_54 (fun x47 h48 => ?_)
    refine m_tops (fun τ49 eτ49 => ?_)
    have i50 : Inv τ49 := eτ49 ▸ Inv.addP hI (by decide)
    have f51 : Fr MS_X6_newPersonS AS_X6_newPersonS σ τ49 := eτ49 ▸ Fr.addP (Fr.rf) (by decide)
    have v52 : x47 ∈ τ49.2.2.2.1 := by rw [eτ49]; exact List.mem_append_right _ (List.mem_singleton.mpr rfl)
    refine m_dup C dX6_newPerson_57 rfl ?_
    refine m_iload_n C dX6_newPerson_58 rfl rfl ?_
    refine m_iload_n C dX6_newPerson_59 rfl rfl ?_
    refine m_iload_n C dX6_newPerson_60 rfl rfl ?_
    refine m_callI (n := 3) (st := [.ref x47]) C (c_X3_initS l G τ49  x47 (a2) (a3) (a4) i50 v52  ) rfl q2_209 q2_207 q2_208 q1_17 (by decide +kernel) rfl (by decide) (by decide) rfl (Nat.le_of_ble_eq_true rfl) dX6_newPerson_61 ?_
    rintro _ τ53 ⟨rfl, i54, f55, h58⟩
    have g57 : Fr MS_X6_newPersonS AS_X6_newPersonS σ τ53 := Fr.call (f51) f55 (by decide)
    have v59 : x47 ∈ τ53.2.2.2.1 := by rw [h58.1]; exact v52
    show MW p l e _ s m args below meth c _ 4 G 1 3 64 [some (.int a1), some (.int a2), some (.int a3), some (.int a4)] [.ref x47] τ53
    exact m_aret C hr (Or.inr ⟨_, rfl⟩) hlk (by decide) (by decide) dX6_newPerson_64 ⟨_, rfl, i54, g57, (by have qk : a1.toInt = 4 := (by omega); have qn := NPe (i := a2.toInt.toNat) (k := a1.toInt) (bu := buF a1.toInt a3.toInt) (pa := a4.toInt) eτ49 h48 h58 (by rw [qk]; decide) (by omega) (by rw [qk]; exact (bu_of ha3).2.2.2.1) rfl; exact ⟨_, rfl, qn⟩)⟩
  by_cases s60 : a1.toInt = 5
  · refine m_tableIn (tgt := 65) (off := 64) C dX6_newPerson_1 (by omega) (by omega) (by rw [s60]; rfl) (by decide) ?_
    have b61 : IV a1 5 5 := ⟨by omega, by omega⟩
    refine m_newF1 C q2_215 q2_216 q1_18 (by decide) (by decide) dX6_newPerson_65 (fun x62 h63 => ?_)
    refine m_tops (fun τ64 eτ64 => ?_)
    have i65 : Inv τ64 := eτ64 ▸ Inv.addP hI (by decide)
    have f66 : Fr MS_X6_newPersonS AS_X6_newPersonS σ τ64 := eτ64 ▸ Fr.addP (Fr.rf) (by decide)
    have v67 : x62 ∈ τ64.2.2.2.1 := by rw [eτ64]; exact List.mem_append_right _ (List.mem_singleton.mpr rfl)
    refine m_dup C dX6_newPerson_68 rfl ?_
    refine m_iload_n C dX6_newPerson_69 rfl rfl ?_
    refine m_iload_n C dX6_newPerson_70 rfl rfl ?_
    refine m_iload_n C dX6_newPerson_71 rfl rfl ?_
    refine m_callI (n := 3) (st := [.ref x62]) C (c_X1_initS l G τ64  x62 (a2) (a3) (a4) i65 v67  ) rfl q2_219 q2_217 q2_218 q1_18 (by decide +kernel) rfl (by decide) (by decide) rfl (Nat.le_of_ble_eq_true rfl) dX6_newPerson_72 ?_
    rintro _ τ68 ⟨rfl, i69, f70, h73⟩
    have g72 : Fr MS_X6_newPersonS AS_X6_newPersonS σ τ68 := Fr.call (f66) f70 (by decide)
    have v74 : x62 ∈ τ68.2.2.2.1 := by rw [h73.1]; exact v67
    show MW p l e _ s m args below meth c _ 4 G 1 3 75 [some (.int a1), some (.int a2), some (.int a3), some (.int a4)] [.ref x62] τ68
    exact m_aret C hr (Or.inr ⟨_, rfl⟩) hlk (by decide) (by decide) dX6_newPerson_75 ⟨_, rfl, i69, g72, (by have qk : a1.toInt = 5 := (by omega); have qn := NPe (i := a2.toInt.toNat) (k := a1.toInt) (bu := buF a1.toInt a3.toInt) (pa := a4.toInt) eτ64 h63 h73 (by rw [qk]; decide) (by omega) (by rw [qk]; exact (bu_of ha3).2.2.2.2) rfl; exact ⟨_, rfl, qn⟩)⟩
  exact absurd s1 (by omega)

abbrev MS_X8_clearS : List (Nat × Nat) := [(1, 0), (1, 1), (1, 2), (1, 3), (1, 9), (1, 10), (1, 11)]
abbrev AS_X8_clearS : List Nat := []
set_option maxHeartbeats 4000000 in
set_option maxRecDepth 100000 in
theorem c_X8_clearS (l : Launch) (G : Gt) (σ : Sg) {j : Nat} (hj : j < 28) (hI : Inv σ) : Mc l G yX8_clear cX8_clear 1 none 0 0 0 0 [.ref (G.1 1 j)] σ (PV fun τ => Inv τ ∧ Fr MS_X8_clearS AS_X8_clearS σ τ ∧ (((gV τ 1 j 2).toInt = 0 ∧ (gV τ 1 j 3).toInt = 0) ∧ SFd j σ τ)) := by
  refine Mc.of (L0 := [some (.ref (G.1 1 j))]) (by decide) (Nat.le_of_ble_eq_true rfl) rfl ?_
  intro p e s m args below meth c C hr hlk
  have C : Cx p s m args c cX8_clear 1 "LeanTower$Tower" := C
  have k0 : (0 : Int32).toInt = 0 := by decide
  have k1 : (1 : Int32).toInt = 1 := by decide
  have u1 : IV (gV σ 1 j 2) 0 7 := hI.1 1 j 2
  have u2 : IV (gV σ 1 j 3) 0 4 := hI.1 1 j 3
  refine m_aload_n C dX8_clear_0 rfl rfl ?_
  refine m_iconst (v := 0) C dX8_clear_1 (by decide) ?_
  refine p_1_0 C hj q1_74 dX8_clear_2 ?_
  refine m_tops (fun τ3 eτ3 => ?_)
  have i4 : Inv τ3 := eτ3 ▸ Inv.putF hI (by decide) rfl
  have f5 : Fr MS_X8_clearS AS_X8_clearS σ τ3 := eτ3 ▸ Fr.put (Fr.rf) (Or.inl (by decide))
  have v6 : SFd j σ τ3 := SFd.rf.putd eτ3
  refine m_aload_n C dX8_clear_5 rfl rfl ?_
  refine m_iconst (v := 0) C dX8_clear_6 (by decide) ?_
  refine p_1_1 C hj q1_77 dX8_clear_7 ?_
  refine m_tops (fun τ7 eτ7 => ?_)
  have i8 : Inv τ7 := eτ7 ▸ Inv.putF i4 (by decide) rfl
  have f9 : Fr MS_X8_clearS AS_X8_clearS σ τ7 := eτ7 ▸ Fr.put (f5) (Or.inl (by decide))
  have v10 : SFd j σ τ7 := v6.putd eτ7
  refine m_aload_n C dX8_clear_10 rfl rfl ?_
  refine m_iconst (v := 0) C dX8_clear_11 (by decide) ?_
  refine p_1_2 C hj q1_80 dX8_clear_12 ?_
  refine m_tops (fun τ11 eτ11 => ?_)
  have i12 : Inv τ11 := eτ11 ▸ Inv.put i8 (by decide) (iv_wk kc_0 (by decide))
  have f13 : Fr MS_X8_clearS AS_X8_clearS σ τ11 := eτ11 ▸ Fr.put (f9) (Or.inl (by decide))
  have v14 : SFd j σ τ11 := v10.putd eτ11
  refine m_aload_n C dX8_clear_15 rfl rfl ?_
  refine m_iconst (v := 0) C dX8_clear_16 (by decide) ?_
  refine p_1_3 C hj q1_83 dX8_clear_17 ?_
  refine m_tops (fun τ15 eτ15 => ?_)
  have i16 : Inv τ15 := eτ15 ▸ Inv.put i12 (by decide) (iv_wk kc_0 (by decide))
  have f17 : Fr MS_X8_clearS AS_X8_clearS σ τ15 := eτ15 ▸ Fr.put (f13) (Or.inl (by decide))
  have v18 : SFd j σ τ15 := v14.putd eτ15
  refine m_aload_n C dX8_clear_20 rfl rfl ?_
  refine m_iconst (v := 0) C dX8_clear_21 (by decide) ?_
  refine p_1_9 C hj q1_95 dX8_clear_22 ?_
  refine m_tops (fun τ19 eτ19 => ?_)
  have i20 : Inv τ19 := eτ19 ▸ Inv.putF i16 (by decide) rfl
  have f21 : Fr MS_X8_clearS AS_X8_clearS σ τ19 := eτ19 ▸ Fr.put (f17) (Or.inl (by decide))
  have v22 : SFd j σ τ19 := v18.putd eτ19
  refine m_aload_n C dX8_clear_25 rfl rfl ?_
  refine m_iconst (v := 0) C dX8_clear_26 (by decide) ?_
  refine p_1_10 C hj q1_97 dX8_clear_27 ?_
  refine m_tops (fun τ23 eτ23 => ?_)
  have i24 : Inv τ23 := eτ23 ▸ Inv.putF i20 (by decide) rfl
  have f25 : Fr MS_X8_clearS AS_X8_clearS σ τ23 := eτ23 ▸ Fr.put (f21) (Or.inl (by decide))
  have v26 : SFd j σ τ23 := v22.putd eτ23
  refine m_aload_n C dX8_clear_30 rfl rfl ?_
  refine m_iconst (v := 0) C dX8_clear_31 (by decide) ?_
  refine p_1_11 C hj q1_99 dX8_clear_32 ?_
  refine m_tops (fun τ27 eτ27 => ?_)
  have i28 : Inv τ27 := eτ27 ▸ Inv.putF i24 (by decide) rfl
  have f29 : Fr MS_X8_clearS AS_X8_clearS σ τ27 := eτ27 ▸ Fr.put (f25) (Or.inl (by decide))
  have v30 : SFd j σ τ27 := v26.putd eτ27
  have q31 : (gV τ27 1 j 0).toInt = 0 := (congrArg Int32.toInt (show (gV τ27 1 j 0) = 0 from (show gV τ27 1 j 0 = 0 from gV_put eτ27 (show gV τ23 1 j 0 = 0 from gV_put eτ23 (show gV τ19 1 j 0 = 0 from gV_put eτ19 (show gV τ15 1 j 0 = 0 from gV_put eτ15 (show gV τ11 1 j 0 = 0 from gV_put eτ11 (show gV τ7 1 j 0 = 0 from gV_put eτ7 (show gV τ3 1 j 0 = 0 from gV_put eτ3 (gV_self _ _ _ _ _)))))))))).trans kt_0
  have q32 : (gV τ27 1 j 2).toInt = 0 := (congrArg Int32.toInt (show (gV τ27 1 j 2) = 0 from (show gV τ27 1 j 2 = 0 from gV_put eτ27 (show gV τ23 1 j 2 = 0 from gV_put eτ23 (show gV τ19 1 j 2 = 0 from gV_put eτ19 (show gV τ15 1 j 2 = 0 from gV_put eτ15 (show gV τ11 1 j 2 = 0 from gV_put eτ11 (gV_self _ _ _ _ _)))))))).trans kt_0
  have q33 : (gV τ27 1 j 3).toInt = 0 := (congrArg Int32.toInt (show (gV τ27 1 j 3) = 0 from (show gV τ27 1 j 3 = 0 from gV_put eτ27 (show gV τ23 1 j 3 = 0 from gV_put eτ23 (show gV τ19 1 j 3 = 0 from gV_put eτ19 (show gV τ15 1 j 3 = 0 from gV_put eτ15 (gV_self _ _ _ _ _))))))).trans kt_0
  exact m_vret C hr hlk (by decide) (by decide) dX8_clear_35 ⟨rfl, i28, f29, ⟨(by omega), v30⟩⟩

abbrev MS_X8_addPersonS : List (Nat × Nat) := [(1, 2)]
abbrev AS_X8_addPersonS : List Nat := [2, 3, 6]
set_option maxHeartbeats 4000000 in
set_option maxRecDepth 100000 in
theorem c_X8_addPersonS (l : Launch) (G : Gt) (σ : Sg) {j : Nat} (hj : j < 28) (b1 : Nat) (a2 : Int32) (hI : Inv σ) (hb1 : b1 ∈ σ.2.2.2.1) : Mc l G yX8_addPerson cX8_addPerson 3 none 0 0 0 0 [.ref (G.1 1 j), .ref b1, .int a2] σ (PV fun τ => Inv τ ∧ Fr MS_X8_addPersonS AS_X8_addPersonS σ τ ∧ (((gV σ 1 j 2).toInt < 7 → (gV τ 1 j 2).toInt = (gV σ 1 j 2).toInt + 1) ∧ ((gV σ 1 j 2).toInt < 7 → ADP σ τ j (gV σ 1 j 2).toInt.toNat b1))) := by
  refine Mc.of (L0 := [some (.ref (G.1 1 j)), some (.ref b1), some (.int a2)]) (by decide) (Nat.le_of_ble_eq_true rfl) rfl ?_
  intro p e s m args below meth c C hr hlk
  have C : Cx p s m args c cX8_addPerson 3 "LeanTower$Tower" := C
  have k0 : (0 : Int32).toInt = 0 := by decide
  have k1 : (1 : Int32).toInt = 1 := by decide
  have u1 : IV (gV σ 1 j 2) 0 7 := hI.1 1 j 2
  refine m_aload_n C dX8_addPerson_0 rfl rfl ?_
  refine g_1_2 C hj q1_80 dX8_addPerson_1 ?_
  refine m_eqs (w := (gV σ 1 j 2)) rfl ?_
  refine m_bipush (v := 7) C dX8_addPerson_4 (by decide) ?_
  refine m_icmp_ge (tgt := 49) C dX8_addPerson_6 (by decide) (fun c2 => ?_) (fun c2 => ?_)
  · have f3 : 7 ≤ (gV σ 1 j 2).toInt := by
      have q : _ := c2
      simp only [ti_nle, ti_nlt, ti_le, ti_lt, ti_eq, ti_ne, Classical.not_not, kt_7] at q
      omega
    have b4 : IV (gV σ 1 j 2) 7 7 := ⟨by have q1 := kc_7; have q2 := u1; omega, by have q1 := kc_7; have q2 := u1; omega⟩
    exact m_vret C hr hlk (by decide) (by decide) dX8_addPerson_49 ⟨rfl, hI, Fr.rf, ⟨(by omega), (fun h => absurd h (by omega))⟩⟩
  · have f5 : (gV σ 1 j 2).toInt < 7 := by
      have q : _ := c2
      simp only [ti_nle, ti_nlt, ti_le, ti_lt, ti_eq, ti_ne, Classical.not_not, kt_7] at q
      omega
    have b6 : IV (gV σ 1 j 2) 0 6 := ⟨by have q1 := u1; have q2 := kc_7; omega, by have q1 := u1; have q2 := kc_7; omega⟩
    refine m_aload_n C dX8_addPerson_9 rfl rfl ?_
    refine g_1_4 C hj q1_86 dX8_addPerson_10 ?_
    refine m_aload_n C dX8_addPerson_13 rfl rfl ?_
    refine g_1_2 C hj q1_80 dX8_addPerson_14 ?_
    refine m_eqs (w := (gV σ 1 j 2)) rfl ?_
    refine m_aload_n C dX8_addPerson_17 rfl rfl ?_
    refine as_6 C hj hI.2.2 hb1 b6 (by decide) dX8_addPerson_18 ?_
    refine m_tops (fun τ7 eτ7 => ?_)
    have i8 : Inv τ7 := eτ7 ▸ Inv.putQ hI (fun _ h => by cases h; exact hb1)
    have f9 : Fr MS_X8_addPersonS AS_X8_addPersonS σ τ7 := eτ7 ▸ Fr.putQ (Fr.rf) (by decide)
    have v10 : b1 ∈ τ7.2.2.2.1 := by rw [eτ7]; exact hb1
    refine m_aload_n C dX8_addPerson_19 rfl rfl ?_
    refine g_1_5 C hj q1_87 dX8_addPerson_20 ?_
    refine m_aload_n C dX8_addPerson_23 rfl rfl ?_
    refine g_1_2 C hj q1_80 dX8_addPerson_24 ?_
    refine m_eqs (w := (gV σ 1 j 2)) (show gV τ7 1 j 2 = (gV σ 1 j 2) from gV_putQ eτ7 rfl) ?_
    refine m_iload_n C dX8_addPerson_27 rfl rfl ?_
    refine as_2 C hj b6 (by decide) rfl dX8_addPerson_28 ?_
    refine m_tops (fun τ11 eτ11 => ?_)
    have i12 : Inv τ11 := eτ11 ▸ Inv.putF i8 (by decide) rfl
    have f13 : Fr MS_X8_addPersonS AS_X8_addPersonS σ τ11 := eτ11 ▸ Fr.put (f9) (Or.inr (by decide))
    have v14 : b1 ∈ τ11.2.2.2.1 := by rw [eτ11]; exact v10
    refine m_aload_n C dX8_addPerson_29 rfl rfl ?_
    refine g_1_6 C hj q1_89 dX8_addPerson_30 ?_
    refine m_aload_n C dX8_addPerson_33 rfl rfl ?_
    refine g_1_2 C hj q1_80 dX8_addPerson_34 ?_
    refine m_eqs (w := (gV σ 1 j 2)) (show gV τ11 1 j 2 = (gV σ 1 j 2) from gV_put eτ11 (show gV τ7 1 j 2 = (gV σ 1 j 2) from gV_putQ eτ7 rfl)) ?_
    refine m_iconst (v := 0) C dX8_addPerson_37 (by decide) ?_
    refine as_3 C hj b6 (by decide) rfl dX8_addPerson_38 ?_
    refine m_tops (fun τ15 eτ15 => ?_)
    have i16 : Inv τ15 := eτ15 ▸ Inv.putF i12 (by decide) rfl
    have f17 : Fr MS_X8_addPersonS AS_X8_addPersonS σ τ15 := eτ15 ▸ Fr.put (f13) (Or.inr (by decide))
    have v18 : b1 ∈ τ15.2.2.2.1 := by rw [eτ15]; exact v14
    refine m_aload_n C dX8_addPerson_39 rfl rfl ?_
    refine m_dup C dX8_addPerson_40 rfl ?_
    refine g_1_2 C hj q1_80 dX8_addPerson_41 ?_
    refine m_eqs (w := (gV σ 1 j 2)) (show gV τ15 1 j 2 = (gV σ 1 j 2) from gV_put eτ15 (show gV τ11 1 j 2 = (gV σ 1 j 2) from gV_put eτ11 (show gV τ7 1 j 2 = (gV σ 1 j 2) from gV_putQ eτ7 rfl))) ?_
    refine m_iconst (v := 1) C dX8_addPerson_44 (by decide) ?_
    refine m_iadd C dX8_addPerson_45 ?_
    refine m_topi (fun x19 ex19 => ?_)
    have tx19 : x19.toInt = (gV σ 1 j 2).toInt + 1 := by rw [ex19, ti_addv b6 kc_1 (by decide), kt_1]
    have b20 : IV x19 1 7 := by rw [ex19]; exact iv_add b6 kc_1 (by decide)
    refine p_1_2 C hj q1_80 dX8_addPerson_46 ?_
    refine m_tops (fun τ21 eτ21 => ?_)
    have i22 : Inv τ21 := eτ21 ▸ Inv.put i16 (by decide) (iv_wk b20 (by decide))
    have f23 : Fr MS_X8_addPersonS AS_X8_addPersonS σ τ21 := eτ21 ▸ Fr.put (f17) (Or.inl (by decide))
    have v24 : b1 ∈ τ21.2.2.2.1 := by rw [eτ21]; exact v18
    have q25 : (gV τ21 1 j 2).toInt = x19.toInt := congrArg Int32.toInt (show (gV τ21 1 j 2) = x19 from (show gV τ21 1 j 2 = x19 from gV_put eτ21 (gV_self _ _ _ _ _)))
    exact m_vret C hr hlk (by decide) (by decide) dX8_addPerson_49 ⟨rfl, i22, f23, ⟨(by omega), (fun _ => ((((ADP.mk eτ7).put eτ11 (by decide)).put eτ15 (by decide)).putd eτ21 (by decide)))⟩⟩

abbrev MS_X6_readLawS : List (Nat × Nat) := [(1, 0), (1, 1), (12, 2), (12, 3), (12, 4), (12, 5), (12, 6), (12, 7)]
abbrev AS_X6_readLawS : List Nat := []
set_option maxHeartbeats 4000000 in
set_option maxRecDepth 100000 in
theorem c_X6_readLawS (l : Launch) (G : Gt) (σ : Sg) (T : Nat → Int) (N : Nat) (i : Nat) {j2 : Nat} (hj2 : j2 < 28) (hI : Inv σ) (hT : TpC σ T N) (hcur : ((gV σ 12 0 4).toInt = (tS T i : Int) ∧ (gV σ 12 0 5).toInt = (tE T N i : Int) ∧ (gV σ 12 0 6).toInt = tK T N i ∧ (tK T N i = 2 → (gV σ 12 0 7).toInt = tV T i))) : Mc l G yX6_readLaw cX6_readLaw 2 (some .boolean) 5 107 0 0 [.ref (G.1 12 0), .ref (G.1 1 j2)] σ (PI fun r τ => Inv τ ∧ Fr MS_X6_readLawS AS_X6_readLawS σ τ ∧ IV r 0 1 ∧ (((r.toInt = 0 ∧ lawF T N i ≠ 0 ∧ (gV τ 12 0 2).toInt = lawF T N i ∧ ((gV τ 12 0 3).toInt = lawP T N i ∧ 0 ≤ (gV τ 12 0 3).toInt ∧ (gV τ 12 0 3).toInt ≤ 400)) ∨ (r.toInt = 1 ∧ lawF T N i = 0 ∧ (gV τ 12 0 2).toInt = (gV σ 12 0 2).toInt ∧ ((gV τ 1 j2 0).toInt = tV T (tE T N i) ∧ 4 ≤ (gV τ 1 j2 0).toInt ∧ (gV τ 1 j2 0).toInt ≤ 32) ∧ ((gV τ 12 0 4).toInt = (tS T (tE T N (tE T N (tE T N (tE T N i)))) : Int) ∧ (gV τ 12 0 5).toInt = (tE T N (tE T N (tE T N (tE T N (tE T N i)))) : Int) ∧ (gV τ 12 0 6).toInt = tK T N (tE T N (tE T N (tE T N (tE T N i)))) ∧ (tK T N (tE T N (tE T N (tE T N (tE T N i)))) = 2 → (gV τ 12 0 7).toInt = tV T (tE T N (tE T N (tE T N (tE T N i)))))))) ∧ SFd j2 σ τ)) := by
  refine Mc.of (L0 := [some (.ref (G.1 12 0)), some (.ref (G.1 1 j2))]) (by decide) (Nat.le_of_ble_eq_true rfl) rfl ?_
  intro p e s m args below meth c C hr hlk
  have C : Cx p s m args c cX6_readLaw 2 "LeanTower$Reader" := C
  have k0 : (0 : Int32).toInt = 0 := by decide
  have k1 : (1 : Int32).toInt = 1 := by decide
  have u1 : IV (gV σ 12 0 4) 0 400 := hI.1 12 0 4
  have u2 : IV (gV σ 12 0 5) 0 400 := hI.1 12 0 5
  refine m_aload_n C dX6_readLaw_0 rfl rfl ?_
  refine s_ldc (w := 0) (tx := "") C rfl (by decide) rfl dX6_readLaw_1 ?_
  refine m_callV (n := 1) (ci := 5) (st := []) C (c_X6_isWordE l G σ T N i (w := 0) (by decide) hI hT (by omega)) (by decide) (by decide) rfl rfl rfl q2_89 q2_86 q2_88 q0_7 q1_2 (by decide +kernel) rfl (by decide) (by decide) rfl (Nat.le_of_ble_eq_true rfl) dX6_readLaw_3 ?_
  rintro _ τ3 ⟨x6, rfl, i4, f5, b7, h9⟩
  have g8 : Fr MS_X6_readLawS AS_X6_readLawS σ τ3 := Fr.call (Fr.rf) f5 (by decide)
  have v10 : TpC τ3 T N := hT.fr f5 (by decide) (by decide) (by simp) (by decide)
  have v11 : SFd j2 σ τ3 := SFd.rf.fr f5 (by decide) (by decide)
  have q12 : (gV τ3 1 j2 0).toInt = (gV σ 1 j2 0).toInt := congrArg Int32.toInt (show (gV τ3 1 j2 0) = (gV σ 1 j2 0) from (show gV τ3 1 j2 0 = (gV σ 1 j2 0) from (f5.1 1 j2 (0) (by decide) (by decide)).trans rfl))
  have q13 : (gV τ3 12 0 2).toInt = (gV σ 12 0 2).toInt := congrArg Int32.toInt (show (gV τ3 12 0 2) = (gV σ 12 0 2) from (show gV τ3 12 0 2 = (gV σ 12 0 2) from (f5.1 12 0 (2) (by decide) (by decide)).trans rfl))
  have q14 : (gV τ3 12 0 3).toInt = (gV σ 12 0 3).toInt := congrArg Int32.toInt (show (gV τ3 12 0 3) = (gV σ 12 0 3) from (show gV τ3 12 0 3 = (gV σ 12 0 3) from (f5.1 12 0 (3) (by decide) (by decide)).trans rfl))
  have q15 : (gV τ3 12 0 4).toInt = (gV σ 12 0 4).toInt := congrArg Int32.toInt (show (gV τ3 12 0 4) = (gV σ 12 0 4) from (show gV τ3 12 0 4 = (gV σ 12 0 4) from (f5.1 12 0 (4) (by decide) (by decide)).trans rfl))
  have q16 : (gV τ3 12 0 5).toInt = (gV σ 12 0 5).toInt := congrArg Int32.toInt (show (gV τ3 12 0 5) = (gV σ 12 0 5) from (show gV τ3 12 0 5 = (gV σ 12 0 5) from (f5.1 12 0 (5) (by decide) (by decide)).trans rfl))
  have q17 : (gV τ3 12 0 6).toInt = (gV σ 12 0 6).toInt := congrArg Int32.toInt (show (gV τ3 12 0 6) = (gV σ 12 0 6) from (show gV τ3 12 0 6 = (gV σ 12 0 6) from (f5.1 12 0 (6) (by decide) (by decide)).trans rfl))
  have q18 : (gV τ3 12 0 7).toInt = (gV σ 12 0 7).toInt := congrArg Int32.toInt (show (gV τ3 12 0 7) = (gV σ 12 0 7) from (show gV τ3 12 0 7 = (gV σ 12 0 7) from (f5.1 12 0 (7) (by decide) (by decide)).trans rfl))
  rcases h9 with ⟨h9_0, h9_1, h9_2⟩ | ⟨h9_0, h9_1⟩
  · skip
    have b19 : IV x6 1 1 := ⟨by omega, by omega⟩
    show MW p l e _ s m args below meth c _ 2 G 0 0 6 [some (.ref (G.1 12 0)), some (.ref (G.1 1 j2))] [.int x6] τ3
    refine m_if_ne (tgt := 15) C dX6_readLaw_6 (by decide) (fun c20 => ?_) (fun c20 => ?_)
    · have f21 : x6.toInt ≠ 0 := by
        have q : _ := c20
        simp only [ti_nle, ti_nlt, ti_le, ti_lt, ti_eq, ti_ne, Classical.not_not, kt_0] at q
        omega
      refine m_aload_n C dX6_readLaw_15 rfl rfl ?_
      refine m_callV (n := 0) (ci := 5) (st := []) C (c_X6_nextE l G τ3 T N (tE T N i)  i4 v10 (by omega)) (by decide) (by decide) rfl rfl rfl q2_63 q2_60 q2_62 q0_3 q1_2 (by decide +kernel) rfl (by decide) (by decide) rfl (Nat.le_of_ble_eq_true rfl) dX6_readLaw_16 ?_
      rintro _ τ22 ⟨rfl, i23, f24, h28⟩
      have g27 : Fr MS_X6_readLawS AS_X6_readLawS σ τ22 := Fr.call (g8) f24 (by decide)
      clear hcur
      have v29 : TpC τ22 T N := v10.fr f24 (by decide) (by decide) (by simp) (by decide)
      have v30 : SFd j2 σ τ22 := v11.fr f24 (by decide) (by decide)
      have u31 : IV (gV τ22 12 0 4) 0 400 := i23.1 12 0 4
      have u32 : IV (gV τ22 12 0 5) 0 400 := i23.1 12 0 5
      have q33 : (gV τ22 1 j2 0).toInt = (gV σ 1 j2 0).toInt := congrArg Int32.toInt (show (gV τ22 1 j2 0) = (gV σ 1 j2 0) from (show gV τ22 1 j2 0 = (gV σ 1 j2 0) from (f24.1 1 j2 (0) (by decide) (by decide)).trans (show gV τ3 1 j2 0 = (gV σ 1 j2 0) from (f5.1 1 j2 (0) (by decide) (by decide)).trans rfl)))
      have q34 : (gV τ22 12 0 2).toInt = (gV σ 12 0 2).toInt := congrArg Int32.toInt (show (gV τ22 12 0 2) = (gV σ 12 0 2) from (show gV τ22 12 0 2 = (gV σ 12 0 2) from (f24.1 12 0 (2) (by decide) (by decide)).trans (show gV τ3 12 0 2 = (gV σ 12 0 2) from (f5.1 12 0 (2) (by decide) (by decide)).trans rfl)))
      have q35 : (gV τ22 12 0 3).toInt = (gV σ 12 0 3).toInt := congrArg Int32.toInt (show (gV τ22 12 0 3) = (gV σ 12 0 3) from (show gV τ22 12 0 3 = (gV σ 12 0 3) from (f24.1 12 0 (3) (by decide) (by decide)).trans (show gV τ3 12 0 3 = (gV σ 12 0 3) from (f5.1 12 0 (3) (by decide) (by decide)).trans rfl)))
      show MW p l e _ s m args below meth c _ 2 G 0 0 19 [some (.ref (G.1 12 0)), some (.ref (G.1 1 j2))] [] τ22
      refine m_aload_n C dX6_readLaw_19 rfl rfl ?_
      refine m_aload_n C dX6_readLaw_20 rfl rfl ?_
      refine m_iconst (v := 4) C dX6_readLaw_21 (by decide) ?_
      refine m_bipush (v := 32) C dX6_readLaw_22 (by decide) ?_
      have q36 := kt_4
      have q37 := kt_32
      refine m_callV (n := 2) (ci := 5) (st := [.ref (G.1 1 j2)]) C (c_X6_numberE l G τ22 T N (tE T N i) (4) (32) i23 v29 (by omega)) (by decide) (by decide) rfl rfl rfl q2_145 q2_142 q2_144 q0_9 q1_2 (by decide +kernel) rfl (by decide) (by decide) rfl (Nat.le_of_ble_eq_true rfl) dX6_readLaw_24 ?_
      rintro _ τ38 ⟨x41, rfl, i39, f40, b42, h44⟩
      have g43 : Fr MS_X6_readLawS AS_X6_readLawS σ τ38 := Fr.call (g27) f40 (by decide)
      clear h28
      have v45 : TpC τ38 T N := v29.fr f40 (by decide) (by decide) (by simp) (by decide)
      have v46 : SFd j2 σ τ38 := v30.fr f40 (by decide) (by decide)
      have u47 : IV (gV τ38 12 0 4) 0 400 := i39.1 12 0 4
      have u48 : IV (gV τ38 12 0 5) 0 400 := i39.1 12 0 5
      have q49 : (gV τ38 1 j2 0).toInt = (gV σ 1 j2 0).toInt := congrArg Int32.toInt (show (gV τ38 1 j2 0) = (gV σ 1 j2 0) from (show gV τ38 1 j2 0 = (gV σ 1 j2 0) from (f40.1 1 j2 (0) (by decide) (by decide)).trans (show gV τ22 1 j2 0 = (gV σ 1 j2 0) from (f24.1 1 j2 (0) (by decide) (by decide)).trans (show gV τ3 1 j2 0 = (gV σ 1 j2 0) from (f5.1 1 j2 (0) (by decide) (by decide)).trans rfl))))
      rcases h44 with ⟨h44_0, h44_1, h44_2, h44_3⟩ | ⟨h44_0, h44_1, h44_2, h44_3, h44_4⟩ | ⟨h44_0, h44_1, h44_2, h44_3, h44_4, h44_5⟩
      · skip
        have b50 : IV x41 (-1) (-1) := ⟨by omega, by omega⟩
        show MW p l e _ s m args below meth c _ 2 G 0 0 27 [some (.ref (G.1 12 0)), some (.ref (G.1 1 j2))] [.int x41, .ref (G.1 1 j2)] τ38
        refine p_1_0 C hj2 q1_75 dX6_readLaw_27 ?_
        refine m_tops (fun τ51 eτ51 => ?_)
        have i52 : Inv τ51 := eτ51 ▸ Inv.putF i39 (by decide) rfl
        have f53 : Fr MS_X6_readLawS AS_X6_readLawS σ τ51 := eτ51 ▸ Fr.put (g43) (Or.inl (by decide))
        have v54 : TpC τ51 T N := v45.put eτ51 (Or.inl (by decide)) (by decide)
        have v55 : SFd j2 σ τ51 := v46.putd eτ51
        refine m_aload_n C dX6_readLaw_30 rfl rfl ?_
        refine g_1_0 C hj2 q1_75 dX6_readLaw_31 ?_
        refine m_eqs (w := x41) (show gV τ51 1 j2 0 = x41 from gV_put eτ51 (gV_self _ _ _ _ _)) ?_
        refine m_iconst (v := (-1)) C dX6_readLaw_34 (by decide) ?_
        refine m_icmp_ne (tgt := 40) C dX6_readLaw_35 (by decide) (fun c56 => ?_) (fun c56 => ?_)
        · exfalso
          have q : _ := c56
          simp only [ti_nle, ti_nlt, ti_le, ti_lt, ti_eq, ti_ne, Classical.not_not, kt_m1] at q
          have q1 := b50; have q2 := kc_m1; omega
        · have f58 : x41.toInt = -1 := by
            have q : _ := c56
            simp only [ti_nle, ti_nlt, ti_le, ti_lt, ti_eq, ti_ne, Classical.not_not, kt_m1] at q
            omega
          refine m_iconst (v := 0) C dX6_readLaw_38 (by decide) ?_
          have q59 : (gV τ51 12 0 2).toInt = (gV τ38 12 0 2).toInt := congrArg Int32.toInt (show (gV τ51 12 0 2) = (gV τ38 12 0 2) from (show gV τ51 12 0 2 = (gV τ38 12 0 2) from gV_put eτ51 rfl))
          have q60 : (gV τ51 12 0 3).toInt = (gV τ38 12 0 3).toInt := congrArg Int32.toInt (show (gV τ51 12 0 3) = (gV τ38 12 0 3) from (show gV τ51 12 0 3 = (gV τ38 12 0 3) from gV_put eτ51 rfl))
          have q61 : (gV τ51 12 0 4).toInt = (gV τ38 12 0 4).toInt := congrArg Int32.toInt (show (gV τ51 12 0 4) = (gV τ38 12 0 4) from (show gV τ51 12 0 4 = (gV τ38 12 0 4) from gV_put eτ51 rfl))
          have q62 : (gV τ51 12 0 5).toInt = (gV τ38 12 0 5).toInt := congrArg Int32.toInt (show (gV τ51 12 0 5) = (gV τ38 12 0 5) from (show gV τ51 12 0 5 = (gV τ38 12 0 5) from gV_put eτ51 rfl))
          have q63 : (gV τ51 12 0 6).toInt = (gV τ38 12 0 6).toInt := congrArg Int32.toInt (show (gV τ51 12 0 6) = (gV τ38 12 0 6) from (show gV τ51 12 0 6 = (gV τ38 12 0 6) from gV_put eτ51 rfl))
          have q64 : (gV τ51 12 0 7).toInt = (gV τ38 12 0 7).toInt := congrArg Int32.toInt (show (gV τ51 12 0 7) = (gV τ38 12 0 7) from (show gV τ51 12 0 7 = (gV τ38 12 0 7) from gV_put eτ51 rfl))
          have q65 : (gV τ51 1 j2 0).toInt = x41.toInt := congrArg Int32.toInt (show (gV τ51 1 j2 0) = x41 from (show gV τ51 1 j2 0 = x41 from gV_put eτ51 (gV_self _ _ _ _ _)))
          exact m_zret C hr rfl hlk (by decide) (by decide) dX6_readLaw_39 ⟨_, rfl, i52, f53, (iv_wk kc_0 (by decide)), ⟨(by have qd := law_1 T N i (by omega) (by omega); have qk := kt_0; refine Or.inl ⟨by omega, by omega, by omega, by omega⟩), v55⟩⟩
      · skip
        have b66 : IV x41 (-1) (-1) := ⟨by omega, by omega⟩
        show MW p l e _ s m args below meth c _ 2 G 0 0 27 [some (.ref (G.1 12 0)), some (.ref (G.1 1 j2))] [.int x41, .ref (G.1 1 j2)] τ38
        refine p_1_0 C hj2 q1_75 dX6_readLaw_27 ?_
        refine m_tops (fun τ67 eτ67 => ?_)
        have i68 : Inv τ67 := eτ67 ▸ Inv.putF i39 (by decide) rfl
        have f69 : Fr MS_X6_readLawS AS_X6_readLawS σ τ67 := eτ67 ▸ Fr.put (g43) (Or.inl (by decide))
        have v70 : TpC τ67 T N := v45.put eτ67 (Or.inl (by decide)) (by decide)
        have v71 : SFd j2 σ τ67 := v46.putd eτ67
        refine m_aload_n C dX6_readLaw_30 rfl rfl ?_
        refine g_1_0 C hj2 q1_75 dX6_readLaw_31 ?_
        refine m_eqs (w := x41) (show gV τ67 1 j2 0 = x41 from gV_put eτ67 (gV_self _ _ _ _ _)) ?_
        refine m_iconst (v := (-1)) C dX6_readLaw_34 (by decide) ?_
        refine m_icmp_ne (tgt := 40) C dX6_readLaw_35 (by decide) (fun c72 => ?_) (fun c72 => ?_)
        · exfalso
          have q : _ := c72
          simp only [ti_nle, ti_nlt, ti_le, ti_lt, ti_eq, ti_ne, Classical.not_not, kt_m1] at q
          have q1 := b66; have q2 := kc_m1; omega
        · have f74 : x41.toInt = -1 := by
            have q : _ := c72
            simp only [ti_nle, ti_nlt, ti_le, ti_lt, ti_eq, ti_ne, Classical.not_not, kt_m1] at q
            omega
          refine m_iconst (v := 0) C dX6_readLaw_38 (by decide) ?_
          have q75 : (gV τ67 12 0 2).toInt = (gV τ38 12 0 2).toInt := congrArg Int32.toInt (show (gV τ67 12 0 2) = (gV τ38 12 0 2) from (show gV τ67 12 0 2 = (gV τ38 12 0 2) from gV_put eτ67 rfl))
          have q76 : (gV τ67 12 0 3).toInt = (gV τ38 12 0 3).toInt := congrArg Int32.toInt (show (gV τ67 12 0 3) = (gV τ38 12 0 3) from (show gV τ67 12 0 3 = (gV τ38 12 0 3) from gV_put eτ67 rfl))
          have q77 : (gV τ67 12 0 4).toInt = (gV τ38 12 0 4).toInt := congrArg Int32.toInt (show (gV τ67 12 0 4) = (gV τ38 12 0 4) from (show gV τ67 12 0 4 = (gV τ38 12 0 4) from gV_put eτ67 rfl))
          have q78 : (gV τ67 12 0 5).toInt = (gV τ38 12 0 5).toInt := congrArg Int32.toInt (show (gV τ67 12 0 5) = (gV τ38 12 0 5) from (show gV τ67 12 0 5 = (gV τ38 12 0 5) from gV_put eτ67 rfl))
          have q79 : (gV τ67 12 0 6).toInt = (gV τ38 12 0 6).toInt := congrArg Int32.toInt (show (gV τ67 12 0 6) = (gV τ38 12 0 6) from (show gV τ67 12 0 6 = (gV τ38 12 0 6) from gV_put eτ67 rfl))
          have q80 : (gV τ67 12 0 7).toInt = (gV τ38 12 0 7).toInt := congrArg Int32.toInt (show (gV τ67 12 0 7) = (gV τ38 12 0 7) from (show gV τ67 12 0 7 = (gV τ38 12 0 7) from gV_put eτ67 rfl))
          have q81 : (gV τ67 1 j2 0).toInt = x41.toInt := congrArg Int32.toInt (show (gV τ67 1 j2 0) = x41 from (show gV τ67 1 j2 0 = x41 from gV_put eτ67 (gV_self _ _ _ _ _)))
          exact m_zret C hr rfl hlk (by decide) (by decide) dX6_readLaw_39 ⟨_, rfl, i68, f69, (iv_wk kc_0 (by decide)), ⟨(by have qd := law_2 T N i (by omega) (by omega) (by omega); have qk := kt_0; refine Or.inl ⟨by omega, by omega, by omega, by omega⟩), v71⟩⟩
      · skip
        show MW p l e _ s m args below meth c _ 2 G 0 0 27 [some (.ref (G.1 12 0)), some (.ref (G.1 1 j2))] [.int x41, .ref (G.1 1 j2)] τ38
        refine p_1_0 C hj2 q1_75 dX6_readLaw_27 ?_
        refine m_tops (fun τ82 eτ82 => ?_)
        have i83 : Inv τ82 := eτ82 ▸ Inv.putF i39 (by decide) rfl
        have f84 : Fr MS_X6_readLawS AS_X6_readLawS σ τ82 := eτ82 ▸ Fr.put (g43) (Or.inl (by decide))
        have v85 : TpC τ82 T N := v45.put eτ82 (Or.inl (by decide)) (by decide)
        have v86 : SFd j2 σ τ82 := v46.putd eτ82
        refine m_aload_n C dX6_readLaw_30 rfl rfl ?_
        refine g_1_0 C hj2 q1_75 dX6_readLaw_31 ?_
        refine m_eqs (w := x41) (show gV τ82 1 j2 0 = x41 from gV_put eτ82 (gV_self _ _ _ _ _)) ?_
        refine m_iconst (v := (-1)) C dX6_readLaw_34 (by decide) ?_
        refine m_icmp_ne (tgt := 40) C dX6_readLaw_35 (by decide) (fun c87 => ?_) (fun c87 => ?_)
        · have f88 : x41.toInt ≠ -1 := by
            have q : _ := c87
            simp only [ti_nle, ti_nlt, ti_le, ti_lt, ti_eq, ti_ne, Classical.not_not, kt_m1] at q
            omega
          refine m_aload_n C dX6_readLaw_40 rfl rfl ?_
          refine m_aload_n C dX6_readLaw_41 rfl rfl ?_
          refine m_iconst (v := 1) C dX6_readLaw_42 (by decide) ?_
          refine m_bipush (v := 99) C dX6_readLaw_43 (by decide) ?_
          have q89 : (gV τ82 12 0 2).toInt = (gV τ38 12 0 2).toInt := congrArg Int32.toInt (show (gV τ82 12 0 2) = (gV τ38 12 0 2) from (show gV τ82 12 0 2 = (gV τ38 12 0 2) from gV_put eτ82 rfl))
          have q90 : (gV τ82 12 0 3).toInt = (gV τ38 12 0 3).toInt := congrArg Int32.toInt (show (gV τ82 12 0 3) = (gV τ38 12 0 3) from (show gV τ82 12 0 3 = (gV τ38 12 0 3) from gV_put eτ82 rfl))
          have q91 : (gV τ82 12 0 4).toInt = (gV τ38 12 0 4).toInt := congrArg Int32.toInt (show (gV τ82 12 0 4) = (gV τ38 12 0 4) from (show gV τ82 12 0 4 = (gV τ38 12 0 4) from gV_put eτ82 rfl))
          have q92 : (gV τ82 12 0 5).toInt = (gV τ38 12 0 5).toInt := congrArg Int32.toInt (show (gV τ82 12 0 5) = (gV τ38 12 0 5) from (show gV τ82 12 0 5 = (gV τ38 12 0 5) from gV_put eτ82 rfl))
          have q93 : (gV τ82 12 0 6).toInt = (gV τ38 12 0 6).toInt := congrArg Int32.toInt (show (gV τ82 12 0 6) = (gV τ38 12 0 6) from (show gV τ82 12 0 6 = (gV τ38 12 0 6) from gV_put eτ82 rfl))
          have q94 : (gV τ82 12 0 7).toInt = (gV τ38 12 0 7).toInt := congrArg Int32.toInt (show (gV τ82 12 0 7) = (gV τ38 12 0 7) from (show gV τ82 12 0 7 = (gV τ38 12 0 7) from gV_put eτ82 rfl))
          have q95 : (gV τ82 1 j2 0).toInt = x41.toInt := congrArg Int32.toInt (show (gV τ82 1 j2 0) = x41 from (show gV τ82 1 j2 0 = x41 from gV_put eτ82 (gV_self _ _ _ _ _)))
          have q96 := kt_1
          have q97 := kt_99
          refine m_callV (n := 2) (ci := 5) (st := [.ref (G.1 1 j2)]) C (c_X6_numberE l G τ82 T N (tE T N (tE T N i)) (1) (99) i83 v85 (by omega)) (by decide) (by decide) rfl rfl rfl q2_145 q2_142 q2_144 q0_9 q1_2 (by decide +kernel) rfl (by decide) (by decide) rfl (Nat.le_of_ble_eq_true rfl) dX6_readLaw_45 ?_
          rintro _ τ98 ⟨x101, rfl, i99, f100, b102, h104⟩
          have g103 : Fr MS_X6_readLawS AS_X6_readLawS σ τ98 := Fr.call (f84) f100 (by decide)
          clear h44_5
          have v105 : TpC τ98 T N := v85.fr f100 (by decide) (by decide) (by simp) (by decide)
          have v106 : SFd j2 σ τ98 := v86.fr f100 (by decide) (by decide)
          have u107 : IV (gV τ98 12 0 4) 0 400 := i99.1 12 0 4
          have u108 : IV (gV τ98 12 0 5) 0 400 := i99.1 12 0 5
          have q109 : (gV τ98 1 j2 0).toInt = x41.toInt := congrArg Int32.toInt (show (gV τ98 1 j2 0) = x41 from (show gV τ98 1 j2 0 = x41 from (f100.1 1 j2 (0) (by decide) (by decide)).trans (show gV τ82 1 j2 0 = x41 from gV_put eτ82 (gV_self _ _ _ _ _))))
          rcases h104 with ⟨h104_0, h104_1, h104_2, h104_3⟩ | ⟨h104_0, h104_1, h104_2, h104_3, h104_4⟩ | ⟨h104_0, h104_1, h104_2, h104_3, h104_4, h104_5⟩
          · skip
            have b110 : IV x101 (-1) (-1) := ⟨by omega, by omega⟩
            show MW p l e _ s m args below meth c _ 2 G 0 0 48 [some (.ref (G.1 12 0)), some (.ref (G.1 1 j2))] [.int x101, .ref (G.1 1 j2)] τ98
            refine p_1_1 C hj2 q1_78 dX6_readLaw_48 ?_
            refine m_tops (fun τ111 eτ111 => ?_)
            have i112 : Inv τ111 := eτ111 ▸ Inv.putF i99 (by decide) rfl
            have f113 : Fr MS_X6_readLawS AS_X6_readLawS σ τ111 := eτ111 ▸ Fr.put (g103) (Or.inl (by decide))
            have v114 : TpC τ111 T N := v105.put eτ111 (Or.inl (by decide)) (by decide)
            have v115 : SFd j2 σ τ111 := v106.putd eτ111
            refine m_aload_n C dX6_readLaw_51 rfl rfl ?_
            refine g_1_1 C hj2 q1_78 dX6_readLaw_52 ?_
            refine m_eqs (w := x101) (show gV τ111 1 j2 1 = x101 from gV_put eτ111 (gV_self _ _ _ _ _)) ?_
            refine m_iconst (v := (-1)) C dX6_readLaw_55 (by decide) ?_
            refine m_icmp_eq (tgt := 70) C dX6_readLaw_56 (by decide) (fun c116 => ?_) (fun c116 => ?_)
            · have f117 : x101.toInt = -1 := by
                have q : _ := c116
                simp only [ti_nle, ti_nlt, ti_le, ti_lt, ti_eq, ti_ne, Classical.not_not, kt_m1] at q
                omega
              refine m_iconst (v := 0) C dX6_readLaw_70 (by decide) ?_
              have q118 : (gV τ111 1 j2 0).toInt = x41.toInt := congrArg Int32.toInt (show (gV τ111 1 j2 0) = x41 from (show gV τ111 1 j2 0 = x41 from gV_put eτ111 (show gV τ98 1 j2 0 = x41 from (f100.1 1 j2 (0) (by decide) (by decide)).trans (show gV τ82 1 j2 0 = x41 from gV_put eτ82 (gV_self _ _ _ _ _)))))
              have q119 : (gV τ111 12 0 2).toInt = (gV τ98 12 0 2).toInt := congrArg Int32.toInt (show (gV τ111 12 0 2) = (gV τ98 12 0 2) from (show gV τ111 12 0 2 = (gV τ98 12 0 2) from gV_put eτ111 rfl))
              have q120 : (gV τ111 12 0 3).toInt = (gV τ98 12 0 3).toInt := congrArg Int32.toInt (show (gV τ111 12 0 3) = (gV τ98 12 0 3) from (show gV τ111 12 0 3 = (gV τ98 12 0 3) from gV_put eτ111 rfl))
              have q121 : (gV τ111 12 0 4).toInt = (gV τ98 12 0 4).toInt := congrArg Int32.toInt (show (gV τ111 12 0 4) = (gV τ98 12 0 4) from (show gV τ111 12 0 4 = (gV τ98 12 0 4) from gV_put eτ111 rfl))
              have q122 : (gV τ111 12 0 5).toInt = (gV τ98 12 0 5).toInt := congrArg Int32.toInt (show (gV τ111 12 0 5) = (gV τ98 12 0 5) from (show gV τ111 12 0 5 = (gV τ98 12 0 5) from gV_put eτ111 rfl))
              have q123 : (gV τ111 12 0 6).toInt = (gV τ98 12 0 6).toInt := congrArg Int32.toInt (show (gV τ111 12 0 6) = (gV τ98 12 0 6) from (show gV τ111 12 0 6 = (gV τ98 12 0 6) from gV_put eτ111 rfl))
              have q124 : (gV τ111 12 0 7).toInt = (gV τ98 12 0 7).toInt := congrArg Int32.toInt (show (gV τ111 12 0 7) = (gV τ98 12 0 7) from (show gV τ111 12 0 7 = (gV τ98 12 0 7) from gV_put eτ111 rfl))
              exact m_zret C hr rfl hlk (by decide) (by decide) dX6_readLaw_71 ⟨_, rfl, i112, f113, (iv_wk kc_0 (by decide)), ⟨(by have qd := law_3 T N i (by omega) (by omega) (by omega) (by omega); have qk := kt_0; refine Or.inl ⟨by omega, by omega, by omega, by omega⟩), v115⟩⟩
            · exfalso
              have q : _ := c116
              simp only [ti_nle, ti_nlt, ti_le, ti_lt, ti_eq, ti_ne, Classical.not_not, kt_m1] at q
              have q1 := b110; have q2 := kc_m1; omega
          · skip
            have b126 : IV x101 (-1) (-1) := ⟨by omega, by omega⟩
            show MW p l e _ s m args below meth c _ 2 G 0 0 48 [some (.ref (G.1 12 0)), some (.ref (G.1 1 j2))] [.int x101, .ref (G.1 1 j2)] τ98
            refine p_1_1 C hj2 q1_78 dX6_readLaw_48 ?_
            refine m_tops (fun τ127 eτ127 => ?_)
            have i128 : Inv τ127 := eτ127 ▸ Inv.putF i99 (by decide) rfl
            have f129 : Fr MS_X6_readLawS AS_X6_readLawS σ τ127 := eτ127 ▸ Fr.put (g103) (Or.inl (by decide))
            have v130 : TpC τ127 T N := v105.put eτ127 (Or.inl (by decide)) (by decide)
            have v131 : SFd j2 σ τ127 := v106.putd eτ127
            refine m_aload_n C dX6_readLaw_51 rfl rfl ?_
            refine g_1_1 C hj2 q1_78 dX6_readLaw_52 ?_
            refine m_eqs (w := x101) (show gV τ127 1 j2 1 = x101 from gV_put eτ127 (gV_self _ _ _ _ _)) ?_
            refine m_iconst (v := (-1)) C dX6_readLaw_55 (by decide) ?_
            refine m_icmp_eq (tgt := 70) C dX6_readLaw_56 (by decide) (fun c132 => ?_) (fun c132 => ?_)
            · have f133 : x101.toInt = -1 := by
                have q : _ := c132
                simp only [ti_nle, ti_nlt, ti_le, ti_lt, ti_eq, ti_ne, Classical.not_not, kt_m1] at q
                omega
              refine m_iconst (v := 0) C dX6_readLaw_70 (by decide) ?_
              have q134 : (gV τ127 1 j2 0).toInt = x41.toInt := congrArg Int32.toInt (show (gV τ127 1 j2 0) = x41 from (show gV τ127 1 j2 0 = x41 from gV_put eτ127 (show gV τ98 1 j2 0 = x41 from (f100.1 1 j2 (0) (by decide) (by decide)).trans (show gV τ82 1 j2 0 = x41 from gV_put eτ82 (gV_self _ _ _ _ _)))))
              have q135 : (gV τ127 12 0 2).toInt = (gV τ98 12 0 2).toInt := congrArg Int32.toInt (show (gV τ127 12 0 2) = (gV τ98 12 0 2) from (show gV τ127 12 0 2 = (gV τ98 12 0 2) from gV_put eτ127 rfl))
              have q136 : (gV τ127 12 0 3).toInt = (gV τ98 12 0 3).toInt := congrArg Int32.toInt (show (gV τ127 12 0 3) = (gV τ98 12 0 3) from (show gV τ127 12 0 3 = (gV τ98 12 0 3) from gV_put eτ127 rfl))
              have q137 : (gV τ127 12 0 4).toInt = (gV τ98 12 0 4).toInt := congrArg Int32.toInt (show (gV τ127 12 0 4) = (gV τ98 12 0 4) from (show gV τ127 12 0 4 = (gV τ98 12 0 4) from gV_put eτ127 rfl))
              have q138 : (gV τ127 12 0 5).toInt = (gV τ98 12 0 5).toInt := congrArg Int32.toInt (show (gV τ127 12 0 5) = (gV τ98 12 0 5) from (show gV τ127 12 0 5 = (gV τ98 12 0 5) from gV_put eτ127 rfl))
              have q139 : (gV τ127 12 0 6).toInt = (gV τ98 12 0 6).toInt := congrArg Int32.toInt (show (gV τ127 12 0 6) = (gV τ98 12 0 6) from (show gV τ127 12 0 6 = (gV τ98 12 0 6) from gV_put eτ127 rfl))
              have q140 : (gV τ127 12 0 7).toInt = (gV τ98 12 0 7).toInt := congrArg Int32.toInt (show (gV τ127 12 0 7) = (gV τ98 12 0 7) from (show gV τ127 12 0 7 = (gV τ98 12 0 7) from gV_put eτ127 rfl))
              exact m_zret C hr rfl hlk (by decide) (by decide) dX6_readLaw_71 ⟨_, rfl, i128, f129, (iv_wk kc_0 (by decide)), ⟨(by have qd := law_4 T N i (by omega) (by omega) (by omega) (by omega) (by omega); have qk := kt_0; refine Or.inl ⟨by omega, by omega, by omega, by omega⟩), v131⟩⟩
            · exfalso
              have q : _ := c132
              simp only [ti_nle, ti_nlt, ti_le, ti_lt, ti_eq, ti_ne, Classical.not_not, kt_m1] at q
              have q1 := b126; have q2 := kc_m1; omega
          · skip
            show MW p l e _ s m args below meth c _ 2 G 0 0 48 [some (.ref (G.1 12 0)), some (.ref (G.1 1 j2))] [.int x101, .ref (G.1 1 j2)] τ98
            refine p_1_1 C hj2 q1_78 dX6_readLaw_48 ?_
            refine m_tops (fun τ142 eτ142 => ?_)
            have i143 : Inv τ142 := eτ142 ▸ Inv.putF i99 (by decide) rfl
            have f144 : Fr MS_X6_readLawS AS_X6_readLawS σ τ142 := eτ142 ▸ Fr.put (g103) (Or.inl (by decide))
            have v145 : TpC τ142 T N := v105.put eτ142 (Or.inl (by decide)) (by decide)
            have v146 : SFd j2 σ τ142 := v106.putd eτ142
            refine m_aload_n C dX6_readLaw_51 rfl rfl ?_
            refine g_1_1 C hj2 q1_78 dX6_readLaw_52 ?_
            refine m_eqs (w := x101) (show gV τ142 1 j2 1 = x101 from gV_put eτ142 (gV_self _ _ _ _ _)) ?_
            refine m_iconst (v := (-1)) C dX6_readLaw_55 (by decide) ?_
            refine m_icmp_eq (tgt := 70) C dX6_readLaw_56 (by decide) (fun c147 => ?_) (fun c147 => ?_)
            · have f148 : x101.toInt = -1 := by
                have q : _ := c147
                simp only [ti_nle, ti_nlt, ti_le, ti_lt, ti_eq, ti_ne, Classical.not_not, kt_m1] at q
                omega
              have b149 : IV x101 (-1) (-1) := ⟨by have q1 := b102; have q2 := kc_m1; omega, by have q1 := b102; have q2 := kc_m1; omega⟩
              refine m_iconst (v := 0) C dX6_readLaw_70 (by decide) ?_
              have q150 : (gV τ142 1 j2 0).toInt = x41.toInt := congrArg Int32.toInt (show (gV τ142 1 j2 0) = x41 from (show gV τ142 1 j2 0 = x41 from gV_put eτ142 (show gV τ98 1 j2 0 = x41 from (f100.1 1 j2 (0) (by decide) (by decide)).trans (show gV τ82 1 j2 0 = x41 from gV_put eτ82 (gV_self _ _ _ _ _)))))
              have q151 : (gV τ142 12 0 2).toInt = (gV τ98 12 0 2).toInt := congrArg Int32.toInt (show (gV τ142 12 0 2) = (gV τ98 12 0 2) from (show gV τ142 12 0 2 = (gV τ98 12 0 2) from gV_put eτ142 rfl))
              have q152 : (gV τ142 12 0 3).toInt = (gV τ98 12 0 3).toInt := congrArg Int32.toInt (show (gV τ142 12 0 3) = (gV τ98 12 0 3) from (show gV τ142 12 0 3 = (gV τ98 12 0 3) from gV_put eτ142 rfl))
              have q153 : (gV τ142 12 0 4).toInt = (gV τ98 12 0 4).toInt := congrArg Int32.toInt (show (gV τ142 12 0 4) = (gV τ98 12 0 4) from (show gV τ142 12 0 4 = (gV τ98 12 0 4) from gV_put eτ142 rfl))
              have q154 : (gV τ142 12 0 5).toInt = (gV τ98 12 0 5).toInt := congrArg Int32.toInt (show (gV τ142 12 0 5) = (gV τ98 12 0 5) from (show gV τ142 12 0 5 = (gV τ98 12 0 5) from gV_put eτ142 rfl))
              have q155 : (gV τ142 12 0 6).toInt = (gV τ98 12 0 6).toInt := congrArg Int32.toInt (show (gV τ142 12 0 6) = (gV τ98 12 0 6) from (show gV τ142 12 0 6 = (gV τ98 12 0 6) from gV_put eτ142 rfl))
              have q156 : (gV τ142 12 0 7).toInt = (gV τ98 12 0 7).toInt := congrArg Int32.toInt (show (gV τ142 12 0 7) = (gV τ98 12 0 7) from (show gV τ142 12 0 7 = (gV τ98 12 0 7) from gV_put eτ142 rfl))
              exact m_zret C hr rfl hlk (by decide) (by decide) dX6_readLaw_71 ⟨_, rfl, i143, f144, (iv_wk kc_0 (by decide)), ⟨(by have qd := law_ok T N i (by omega) (by omega) (by omega) (by omega) (by omega) (by omega); have qk := kt_0; refine Or.inl ⟨by omega, by omega, by omega, by omega⟩), v146⟩⟩
            · have f157 : x101.toInt ≠ -1 := by
                have q : _ := c147
                simp only [ti_nle, ti_nlt, ti_le, ti_lt, ti_eq, ti_ne, Classical.not_not, kt_m1] at q
                omega
              refine m_aload_n C dX6_readLaw_59 rfl rfl ?_
              have q158 : (gV τ142 1 j2 0).toInt = x41.toInt := congrArg Int32.toInt (show (gV τ142 1 j2 0) = x41 from (show gV τ142 1 j2 0 = x41 from gV_put eτ142 (show gV τ98 1 j2 0 = x41 from (f100.1 1 j2 (0) (by decide) (by decide)).trans (show gV τ82 1 j2 0 = x41 from gV_put eτ82 (gV_self _ _ _ _ _)))))
              have q159 : (gV τ142 12 0 2).toInt = (gV τ98 12 0 2).toInt := congrArg Int32.toInt (show (gV τ142 12 0 2) = (gV τ98 12 0 2) from (show gV τ142 12 0 2 = (gV τ98 12 0 2) from gV_put eτ142 rfl))
              have q160 : (gV τ142 12 0 3).toInt = (gV τ98 12 0 3).toInt := congrArg Int32.toInt (show (gV τ142 12 0 3) = (gV τ98 12 0 3) from (show gV τ142 12 0 3 = (gV τ98 12 0 3) from gV_put eτ142 rfl))
              have q161 : (gV τ142 12 0 4).toInt = (gV τ98 12 0 4).toInt := congrArg Int32.toInt (show (gV τ142 12 0 4) = (gV τ98 12 0 4) from (show gV τ142 12 0 4 = (gV τ98 12 0 4) from gV_put eτ142 rfl))
              have q162 : (gV τ142 12 0 5).toInt = (gV τ98 12 0 5).toInt := congrArg Int32.toInt (show (gV τ142 12 0 5) = (gV τ98 12 0 5) from (show gV τ142 12 0 5 = (gV τ98 12 0 5) from gV_put eτ142 rfl))
              have q163 : (gV τ142 12 0 6).toInt = (gV τ98 12 0 6).toInt := congrArg Int32.toInt (show (gV τ142 12 0 6) = (gV τ98 12 0 6) from (show gV τ142 12 0 6 = (gV τ98 12 0 6) from gV_put eτ142 rfl))
              have q164 : (gV τ142 12 0 7).toInt = (gV τ98 12 0 7).toInt := congrArg Int32.toInt (show (gV τ142 12 0 7) = (gV τ98 12 0 7) from (show gV τ142 12 0 7 = (gV τ98 12 0 7) from gV_put eτ142 rfl))
              refine m_callV (n := 0) (ci := 5) (st := []) C (c_X6_passSemicolonE l G τ142 T N (tE T N (tE T N (tE T N i)))  i143 v145 (by omega)) (by decide) (by decide) rfl rfl rfl q2_149 q2_146 q2_148 q0_10 q1_2 (by decide +kernel) rfl (by decide) (by decide) rfl (Nat.le_of_ble_eq_true rfl) dX6_readLaw_60 ?_
              rintro _ τ165 ⟨x168, rfl, i166, f167, b169, h171⟩
              have g170 : Fr MS_X6_readLawS AS_X6_readLawS σ τ165 := Fr.call (f144) f167 (by decide)
              clear h104_5
              have v172 : TpC τ165 T N := v145.fr f167 (by decide) (by decide) (by simp) (by decide)
              have v173 : SFd j2 σ τ165 := v146.fr f167 (by decide) (by decide)
              have u174 : IV (gV τ165 12 0 4) 0 400 := i166.1 12 0 4
              have u175 : IV (gV τ165 12 0 5) 0 400 := i166.1 12 0 5
              have q176 : (gV τ165 1 j2 0).toInt = x41.toInt := congrArg Int32.toInt (show (gV τ165 1 j2 0) = x41 from (show gV τ165 1 j2 0 = x41 from (f167.1 1 j2 (0) (by decide) (by decide)).trans (show gV τ142 1 j2 0 = x41 from gV_put eτ142 (show gV τ98 1 j2 0 = x41 from (f100.1 1 j2 (0) (by decide) (by decide)).trans (show gV τ82 1 j2 0 = x41 from gV_put eτ82 (gV_self _ _ _ _ _))))))
              rcases h171 with ⟨h171_0, h171_1, h171_2, h171_3⟩ | ⟨h171_0, h171_1, h171_2, h171_3⟩
              · skip
                have b177 : IV x168 0 0 := ⟨by omega, by omega⟩
                show MW p l e _ s m args below meth c _ 2 G 0 0 63 [some (.ref (G.1 12 0)), some (.ref (G.1 1 j2))] [.int x168] τ165
                refine m_if_eq (tgt := 70) C dX6_readLaw_63 (by decide) (fun c178 => ?_) (fun c178 => ?_)
                · have f179 : x168.toInt = 0 := by
                    have q : _ := c178
                    simp only [ti_nle, ti_nlt, ti_le, ti_lt, ti_eq, ti_ne, Classical.not_not, kt_0] at q
                    omega
                  refine m_iconst (v := 0) C dX6_readLaw_70 (by decide) ?_
                  exact m_zret C hr rfl hlk (by decide) (by decide) dX6_readLaw_71 ⟨_, rfl, i166, g170, (iv_wk kc_0 (by decide)), ⟨(by have qd := law_5 T N i (by omega) (by omega) (by omega) (by omega) (by omega) (by omega); have qk := kt_0; refine Or.inl ⟨by omega, by omega, by omega, by omega⟩), v173⟩⟩
                · exfalso
                  have q : _ := c178
                  simp only [ti_nle, ti_nlt, ti_le, ti_lt, ti_eq, ti_ne, Classical.not_not, kt_0] at q
                  have q1 := b177; have q2 := kc_0; omega
              · skip
                have b181 : IV x168 1 1 := ⟨by omega, by omega⟩
                show MW p l e _ s m args below meth c _ 2 G 0 0 63 [some (.ref (G.1 12 0)), some (.ref (G.1 1 j2))] [.int x168] τ165
                refine m_if_eq (tgt := 70) C dX6_readLaw_63 (by decide) (fun c182 => ?_) (fun c182 => ?_)
                · exfalso
                  have q : _ := c182
                  simp only [ti_nle, ti_nlt, ti_le, ti_lt, ti_eq, ti_ne, Classical.not_not, kt_0] at q
                  have q1 := b181; have q2 := kc_0; omega
                · have f184 : x168.toInt ≠ 0 := by
                    have q : _ := c182
                    simp only [ti_nle, ti_nlt, ti_le, ti_lt, ti_eq, ti_ne, Classical.not_not, kt_0] at q
                    omega
                  refine m_iconst (v := 1) C dX6_readLaw_66 (by decide) ?_
                  refine m_goto (tgt := 71) C dX6_readLaw_67 (by decide) ?_
                  exact m_zret C hr rfl hlk (by decide) (by decide) dX6_readLaw_71 ⟨_, rfl, i166, g170, (iv_wk kc_1 (by decide)), ⟨(by have qd := law_ok T N i (by omega) (by omega) (by omega) (by omega) (by omega) (by omega); have qk := kt_1; refine Or.inr ⟨by omega, by omega, by omega, by omega, by omega⟩), v173⟩⟩
        · have f185 : x41.toInt = -1 := by
            have q : _ := c87
            simp only [ti_nle, ti_nlt, ti_le, ti_lt, ti_eq, ti_ne, Classical.not_not, kt_m1] at q
            omega
          have b186 : IV x41 (-1) (-1) := ⟨by have q1 := b42; have q2 := kc_m1; omega, by have q1 := b42; have q2 := kc_m1; omega⟩
          refine m_iconst (v := 0) C dX6_readLaw_38 (by decide) ?_
          have q187 : (gV τ82 12 0 2).toInt = (gV τ38 12 0 2).toInt := congrArg Int32.toInt (show (gV τ82 12 0 2) = (gV τ38 12 0 2) from (show gV τ82 12 0 2 = (gV τ38 12 0 2) from gV_put eτ82 rfl))
          have q188 : (gV τ82 12 0 3).toInt = (gV τ38 12 0 3).toInt := congrArg Int32.toInt (show (gV τ82 12 0 3) = (gV τ38 12 0 3) from (show gV τ82 12 0 3 = (gV τ38 12 0 3) from gV_put eτ82 rfl))
          have q189 : (gV τ82 12 0 4).toInt = (gV τ38 12 0 4).toInt := congrArg Int32.toInt (show (gV τ82 12 0 4) = (gV τ38 12 0 4) from (show gV τ82 12 0 4 = (gV τ38 12 0 4) from gV_put eτ82 rfl))
          have q190 : (gV τ82 12 0 5).toInt = (gV τ38 12 0 5).toInt := congrArg Int32.toInt (show (gV τ82 12 0 5) = (gV τ38 12 0 5) from (show gV τ82 12 0 5 = (gV τ38 12 0 5) from gV_put eτ82 rfl))
          have q191 : (gV τ82 12 0 6).toInt = (gV τ38 12 0 6).toInt := congrArg Int32.toInt (show (gV τ82 12 0 6) = (gV τ38 12 0 6) from (show gV τ82 12 0 6 = (gV τ38 12 0 6) from gV_put eτ82 rfl))
          have q192 : (gV τ82 12 0 7).toInt = (gV τ38 12 0 7).toInt := congrArg Int32.toInt (show (gV τ82 12 0 7) = (gV τ38 12 0 7) from (show gV τ82 12 0 7 = (gV τ38 12 0 7) from gV_put eτ82 rfl))
          have q193 : (gV τ82 1 j2 0).toInt = x41.toInt := congrArg Int32.toInt (show (gV τ82 1 j2 0) = x41 from (show gV τ82 1 j2 0 = x41 from gV_put eτ82 (gV_self _ _ _ _ _)))
          exact m_zret C hr rfl hlk (by decide) (by decide) dX6_readLaw_39 ⟨_, rfl, i83, f84, (iv_wk kc_0 (by decide)), ⟨(by have qd := law_ok T N i (by omega) (by omega) (by omega) (by omega) (by omega) (by omega); have qk := kt_0; refine Or.inl ⟨by omega, by omega, by omega, by omega⟩), v86⟩⟩
    · exfalso
      have q : _ := c20
      simp only [ti_nle, ti_nlt, ti_le, ti_lt, ti_eq, ti_ne, Classical.not_not, kt_0] at q
      have q1 := b19; have q2 := kc_0; omega
  · skip
    have b195 : IV x6 0 0 := ⟨by omega, by omega⟩
    show MW p l e _ s m args below meth c _ 2 G 0 0 6 [some (.ref (G.1 12 0)), some (.ref (G.1 1 j2))] [.int x6] τ3
    refine m_if_ne (tgt := 15) C dX6_readLaw_6 (by decide) (fun c196 => ?_) (fun c196 => ?_)
    · exfalso
      have q : _ := c196
      simp only [ti_nle, ti_nlt, ti_le, ti_lt, ti_eq, ti_ne, Classical.not_not, kt_0] at q
      have q1 := b195; have q2 := kc_0; omega
    · have f198 : x6.toInt = 0 := by
        have q : _ := c196
        simp only [ti_nle, ti_nlt, ti_le, ti_lt, ti_eq, ti_ne, Classical.not_not, kt_0] at q
        omega
      refine m_aload_n C dX6_readLaw_9 rfl rfl ?_
      refine m_iconst (v := 1) C dX6_readLaw_10 (by decide) ?_
      have q199 := kt_1
      refine m_callV (n := 1) (ci := 5) (st := []) C (c_X6_refuseE l G τ3 (1) i4 ) (by decide) (by decide) rfl rfl rfl q2_141 q2_138 q2_140 q0_8 q1_2 (by decide +kernel) rfl (by decide) (by decide) rfl (Nat.le_of_ble_eq_true rfl) dX6_readLaw_11 ?_
      rintro _ τ200 ⟨x203, rfl, i201, f202, b204, h206⟩
      have g205 : Fr MS_X6_readLawS AS_X6_readLawS σ τ200 := Fr.call (g8) f202 (by decide)
      have v207 : TpC τ200 T N := v10.fr f202 (by decide) (by decide) (by simp) (by decide)
      have v208 : SFd j2 σ τ200 := v11.fr f202 (by decide) (by decide)
      have q209 : (gV τ200 1 j2 0).toInt = (gV σ 1 j2 0).toInt := congrArg Int32.toInt (show (gV τ200 1 j2 0) = (gV σ 1 j2 0) from (show gV τ200 1 j2 0 = (gV σ 1 j2 0) from (f202.1 1 j2 (0) (by decide) (by decide)).trans (show gV τ3 1 j2 0 = (gV σ 1 j2 0) from (f5.1 1 j2 (0) (by decide) (by decide)).trans rfl)))
      have q210 : (gV τ200 12 0 4).toInt = (gV σ 12 0 4).toInt := congrArg Int32.toInt (show (gV τ200 12 0 4) = (gV σ 12 0 4) from (show gV τ200 12 0 4 = (gV σ 12 0 4) from (f202.1 12 0 (4) (by decide) (by decide)).trans (show gV τ3 12 0 4 = (gV σ 12 0 4) from (f5.1 12 0 (4) (by decide) (by decide)).trans rfl)))
      have q211 : (gV τ200 12 0 5).toInt = (gV σ 12 0 5).toInt := congrArg Int32.toInt (show (gV τ200 12 0 5) = (gV σ 12 0 5) from (show gV τ200 12 0 5 = (gV σ 12 0 5) from (f202.1 12 0 (5) (by decide) (by decide)).trans (show gV τ3 12 0 5 = (gV σ 12 0 5) from (f5.1 12 0 (5) (by decide) (by decide)).trans rfl)))
      have q212 : (gV τ200 12 0 6).toInt = (gV σ 12 0 6).toInt := congrArg Int32.toInt (show (gV τ200 12 0 6) = (gV σ 12 0 6) from (show gV τ200 12 0 6 = (gV σ 12 0 6) from (f202.1 12 0 (6) (by decide) (by decide)).trans (show gV τ3 12 0 6 = (gV σ 12 0 6) from (f5.1 12 0 (6) (by decide) (by decide)).trans rfl)))
      have q213 : (gV τ200 12 0 7).toInt = (gV σ 12 0 7).toInt := congrArg Int32.toInt (show (gV τ200 12 0 7) = (gV σ 12 0 7) from (show gV τ200 12 0 7 = (gV σ 12 0 7) from (f202.1 12 0 (7) (by decide) (by decide)).trans (show gV τ3 12 0 7 = (gV σ 12 0 7) from (f5.1 12 0 (7) (by decide) (by decide)).trans rfl)))
      show MW p l e _ s m args below meth c _ 2 G 0 0 14 [some (.ref (G.1 12 0)), some (.ref (G.1 1 j2))] [.int x203] τ200
      exact m_zret C hr (nar_z (iv_wk b204 (by decide))) hlk (by decide) (by decide) dX6_readLaw_14 ⟨_, rfl, i201, g205, (iv_wk b204 (by decide)), ⟨(by have qd := law_0 T N i (by omega); refine Or.inl ⟨by omega, by omega, by omega, by omega⟩), v208⟩⟩
