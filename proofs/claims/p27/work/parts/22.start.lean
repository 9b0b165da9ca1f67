/-! ===== the start: what the tables and the premises give ===== -/
abbrev pre_l : List Cond := flatC (Jvm.Cond.and given_1 narrow_1)
theorem st_ex : ∀ i, i < 8 → Cond.exactly (.string RX6 (tx_idx.getD i 0)) "java/lang/String" ∈ pre_l := by decide +kernel
theorem st_co : ∀ i, i < 8 → Cond.eq (.field (.string RX6 (tx_idx.getD i 0)) "java/lang/String" "coder" "B") (.int 0) ∈ pre_l := by decide +kernel
theorem st_ar : ∀ i, i < 8 → Cond.arrayOf (.field (.string RX6 (tx_idx.getD i 0)) "java/lang/String" "value" "[B") .byte ∈ pre_l := by decide +kernel
theorem st_le : ∀ i, i < 8 → Cond.eq (.length (.field (.string RX6 (tx_idx.getD i 0)) "java/lang/String" "value" "[B")) (.int (Int32.ofNat (tx_len.getD i 0))) ∈ pre_l := by decide +kernel
theorem st_el : ∀ i, i < 8 → ∀ j, j < tx_len.getD i 0 → Cond.eq (.elem (.field (.string RX6 (tx_idx.getD i 0)) "java/lang/String" "value" "[B") (.int (Int32.ofNat j))) (.int ((tx_byt.getD i []).getD j 0)) ∈ pre_l := by decide +kernel
theorem st_ne : ∀ i, i < 8 → ∀ j, j < 8 → i ≠ j → Cond.not (Cond.eq (.string RX6 (tx_idx.getD i 0)) (.string RX6 (tx_idx.getD j 0))) ∈ pre_l ∨ Cond.not (Cond.eq (.string RX6 (tx_idx.getD j 0)) (.string RX6 (tx_idx.getD i 0))) ∈ pre_l := by decide +kernel
theorem st_sr : ∀ i, i < 8 → Cond.stringRef RX6 (tx_idx.getD i 0) (tx_txt.getD i "") ∈ lw_tbl := by decide +kernel
theorem st_nc : ∀ q ∈ nc_l, Cond.not (.castable q.1 q.2) ∈ pre_l := by decide +kernel
theorem st_ca : ∀ q ∈ ca_l, Cond.castable q.1 q.2 ∈ lw_tbl := by decide +kernel
theorem st_ao : ∀ C ∈ ao_l, Cond.arrayOver (.object C) ∈ lw_tbl := by decide +kernel
theorem st_nn : ∀ q ∈ ne_l, Cond.methodLinkNest "LeanTower" q.1 q.2 "LeanTower" ∈ lw_tbl := by decide +kernel
theorem st_len : ∀ i, i < 8 → tx_len.getD i 0 < 2 ^ 31 := by decide +kernel
theorem st_prim {A : Array Value} {s : State} {ty : FieldType} (h : (Cond.arrayClass ty).before A s = true) (hp : ∀ C, ty ≠ .object C) : ∃ cA : ClassId, ArrOfT s cA ty ∧ va_RA s cA ty := by
  obtain ⟨cA, k, comp, h1, h2, h3⟩ := Cond.arrayClass_spec h
  refine ⟨cA, fun n z => ⟨fun k h => (by cases h), k, h2, comp, h3⟩, ?_⟩
  cases ty with
  | object C => exact absurd rfl (hp C)
  | _ => exact h1
theorem st_obj {A : Array Value} {s : State} {C : String} (h : (Cond.arrayOver (.object C)).before A s = true) : ∃ cA : ClassId, ArrOfT s cA (.object C) ∧ va_RA s cA (.object C) := by
  obtain ⟨comp, cA, k, h1, _, h3, h4, h5⟩ := Cond.arrayOver_spec h
  exact ⟨cA, fun n z => ⟨fun k h => (by cases h), k, h3, comp, h4⟩, k, comp, h3, h4, h1, h5⟩
set_option maxHeartbeats 4000000 in
theorem kc_start {s : State} {b : Nat} (hts : ∀ w ∈ lw_tbl, w.before #[Value.ref b] s = true) (hgv : (Jvm.Cond.and given_1 narrow_1).before #[Value.ref b] s = true) : ∃ G : Gt, KC G s s.heap ∧ G.2.2.2.1 = s.heap.size := by
  have hF := flat_of_before _ hgv
  have hwa : ∀ w ∈ WA, w.before #[Value.ref b] s = true := fun w hw => hts w (List.mem_filter.mp hw).1
  have hA : ∀ a : Nat, a < s.heap.size → ¬ (s.heap.size ≤ a) := fun a h => by omega
  obtain ⟨c0, i0, k0⟩ := u_known hwa in_0 (hwa _ q1_144)
  obtain ⟨c1, i1, k1⟩ := u_known hwa in_1 (hwa _ q2_216)
  obtain ⟨c2, i2, k2⟩ := u_known hwa in_2 (hwa _ q2_196)
  obtain ⟨c3, i3, k3⟩ := u_known hwa in_3 (hwa _ q2_206)
  obtain ⟨c4, i4, k4⟩ := u_known hwa in_5 (hwa _ q2_226)
  obtain ⟨c5, i5, k5⟩ := u_known hwa in_6 (hwa _ q1_32)
  obtain ⟨c6, i6, k6⟩ := u_known hwa in_7 (hwa _ q1_167)
  obtain ⟨c7, i7, k7⟩ := u_known hwa in_8 (hwa _ q1_67)
  obtain ⟨c8, i8, k8⟩ := u_known hwa in_9 (hwa _ q1_129)
  obtain ⟨c9, i9, k9⟩ := u_known hwa in_10 (hwa _ q2_168)
  obtain ⟨c10, i10, k10⟩ := u_known hwa in_11 (hwa _ q1_22)
  obtain ⟨c11, i11, k11⟩ := u_known hwa in_12 (hwa _ q4_111)
  obtain ⟨a0, u0, v0⟩ := st_prim (ty := .int) (hwa _ q1_126) (fun C h => by cases h)
  obtain ⟨a1, u1, v1⟩ := st_prim (ty := .byte) (hwa _ q1_65) (fun C h => by cases h)
  obtain ⟨a2, u2, v2⟩ := st_prim (ty := .boolean) (hwa _ q1_185) (fun C h => by cases h)
  obtain ⟨a3, u3, v3⟩ := st_obj (C := "LeanTower$Person") (hts _ (st_ao _ (by decide)))
  obtain ⟨a4, u4, v4⟩ := st_obj (C := "LeanTower$Row") (hts _ (st_ao _ (by decide)))
  obtain ⟨a5, u5, v5⟩ := st_obj (C := "LeanTower$Tower") (hts _ (st_ao _ (by decide)))
  obtain ⟨adK, adV, hS, hE⟩ := vk_Sof (args := #[Value.ref b]) (s := s) (N := 8) (tm := fun i => .string RX6 (tx_idx.getD i 0)) (len := tx_len) (byt := tx_byt) (A := fun q => s.heap.size ≤ q) st_len (fun i hi => hF _ (st_ex i hi)) (fun i hi => hF _ (st_co i hi)) (fun i hi => hF _ (st_ar i hi)) (fun i hi => hF _ (st_le i hi)) (fun i hi j hj => hF _ (st_el i hi j hj)) (fun i j hi hj hij => (st_ne i hi j hj hij).imp (fun h => hF _ h) (fun h => hF _ h)) hA
  let dC : Nat → ClassId := fun k => [c0, c1, c2, c3, c4, c5, c6, c7, c8, c9, c10, c11].getD k 0
  let dI : Nat → Nat → Nat := fun k => [i0, i1, i2, i3, i4, i5, i6, i7, i8, i9, i10, i11].getD k (fun _ => 0)
  let aC : Nat → ClassId := fun k => [a0, a1, a2, a3, a4, a5].getD k 0
  refine ⟨(fun _ _ => 0, (dC, dI), aC, s.heap.size, adK, adV), ⟨⟨⟨?_, ?_⟩, hS, fun i hi => vk_R.of (hts _ (st_sr i hi)) (hE i hi), va_Zof (hts _ q2_99) (hwa _ q1_9) (va_eqi (hF _ (by decide +kernel))) hA, fun q hq => va_Nc.of (hF _ (st_nc q hq)), fun q hq => va_Nw.of rfl (hts _ (st_ca q hq)), va_Nw.of rfl (hts _ q4_10), va_Zqof (hts _ q2_115) (hwa _ q1_11) (hF _ (by decide +kernel)) hA⟩, fun C hC => va_AO.of (hts _ (st_ao C hC)), fun q hq => va_Nw.of rfl (hts _ (st_nn q hq))⟩, rfl⟩
  · intro k q hk
    match k, hk with
    | 0, hk => cases hk; exact k0
    | 1, hk => cases hk; exact k1
    | 2, hk => cases hk; exact k2
    | 3, hk => cases hk; exact k3
    | 4, hk => cases hk; exact k4
    | 5, hk => cases hk; exact k5
    | 6, hk => cases hk; exact k6
    | 7, hk => cases hk; exact k7
    | 8, hk => cases hk; exact k8
    | 9, hk => cases hk; exact k9
    | 10, hk => cases hk; exact k10
    | 11, hk => cases hk; exact k11
    | k + 12, hk => exact absurd hk (by simp)
  · intro k q hk
    match k, hk with
    | 0, hk => cases hk; exact ⟨u0, v0⟩
    | 1, hk => cases hk; exact ⟨u1, v1⟩
    | 2, hk => cases hk; exact ⟨u2, v2⟩
    | 3, hk => cases hk; exact ⟨u3, v3⟩
    | 4, hk => cases hk; exact ⟨u4, v4⟩
    | 5, hk => cases hk; exact ⟨u5, v5⟩
    | k + 6, hk => exact absurd hk (by simp)
/-! ===== the law from its entry ===== -/
def gx (g : Nat → Nat → Nat) (gm : Nat → Nat) : Nat → Nat → Nat := fun t j => match t with
  | 22 => gm 0
  | 23 => gm 1
  | 24 => gm 2
  | 25 => gm 3
  | 26 => gm 4
  | 27 => gm 5
  | 28 => gm 6
  | 29 => gm 7
  | 30 => gm 8
  | 31 => gm 9
  | _ => g t j
def MI : List (Nat × Nat) := [(22, 0), (31, 0), (30, 0), (29, 0), (28, 0), (27, 0), (26, 0), (25, 0), (24, 0), (23, 0)]
def s0 : Sg := (z0, x0)
theorem li_lt : ∀ q ∈ LI, q.1 < 22 := by decide +kernel
theorem li_perm : (MI ++ LI).Perm idl := by decide +kernel
theorem gx_cl (G : Gt) (g : Nat → Nat → Nat) (gm : Nat → Nat) (q : Nat × Nat) (h : q.1 < 22) : cl0 G g q = cl0 G (gx g gm) q := by
  obtain ⟨t, j⟩ := q
  match t, h with
  | 0, _ => rfl
  | 1, _ => rfl
  | 2, _ => rfl
  | 3, _ => rfl
  | 4, _ => rfl
  | 5, _ => rfl
  | 6, _ => rfl
  | 7, _ => rfl
  | 8, _ => rfl
  | 9, _ => rfl
  | 10, _ => rfl
  | 11, _ => rfl
  | 12, _ => rfl
  | 13, _ => rfl
  | 14, _ => rfl
  | 15, _ => rfl
  | 16, _ => rfl
  | 17, _ => rfl
  | 18, _ => rfl
  | 19, _ => rfl
  | 20, _ => rfl
  | 21, _ => rfl
  | t + 22, h => exact absurd h (by simp)
theorem bT_0 (t k : Nat) : (bT t k).1 ≤ 0 ∧ 0 ≤ (bT t k).2 := by
  unfold bT
  split <;> (repeat' split) <;> decide
theorem inv_0 : Inv s0 := by
  have h0 : (0 : Int32).toInt = 0 := by decide
  refine ⟨fun t j k => ?_, fun b p _ _ _ h => ?_, ⟨fun j i a (h : (none : Option Nat) = some a) => (nomatch h), fun a (h : a ∈ ([] : List Nat)) => absurd h List.not_mem_nil⟩⟩
  · have hz : z0 t j k = 0 ∨ bT t k = mm := by
      unfold z0 bT
      split
      · by_cases hk : k = 1
        · exact Or.inr (by subst hk; rfl)
        · exact Or.inl (by rw [if_neg hk])
      · exact Or.inr rfl
      · exact Or.inl rfl
    show IV (z0 t j k) _ _
    rcases hz with e | e
    · rw [e]
      have := bT_0 t k
      exact ⟨by omega, by omega⟩
    · rw [e]
      exact iv_any _
  · exfalso
    have h2 : (p : Int) < (0 : Int32).toInt := h
    omega
theorem rel_0 : Rel s0 := by
  refine ⟨fun r hr => ⟨rfl, ?_, fun h => ?_⟩, rfl⟩
  · show -1 ≤ (-1 : Int32).toInt
    decide
  · have h2 : 0 ≤ (-1 : Int32).toInt := h
    exact absurd h2 (by decide)
theorem rt_0 : RT s0 := RT.empty (by decide) (by decide) (by decide)
def S0 : Stt := (0, 0, fun _ => (0, 0, 0))
theorem stc_0 (j : Nat) : StC s0 j S0 := by
  refine ⟨by decide, ?_, ?_, fun i hi => ?_⟩
  · show (0 : Int32).toInt = 0
    decide
  · show (0 : Int32).toInt = 0
    decide
  · have q : (i : Int) < 0 := hi
    exact absurd q (by omega)
theorem stm_0 (b : Nat) : StM s0 b S0 := by
  refine ⟨by decide, ?_, ?_, fun i hi => ?_⟩
  · show (0 : Int32).toInt = 0
    decide
  · show (0 : Int32).toInt = 0
    decide
  · have q : (i : Int) < 0 := hi
    exact absurd q (by omega)
theorem ca_0 : CA s0 S0 (fun _ => S0) := ⟨stc_0 _, fun _ _ => stc_0 _, fun _ _ => stc_0 _⟩
theorem ma_0 : MA s0 S0 (fun _ => S0) := ⟨stm_0 _, fun _ _ => stm_0 _, fun k _ => ⟨stm_0 _, Or.inr ⟨by show (0 : Int32).toInt = 0; decide, by show S0.1 ≤ 0; decide⟩⟩⟩
set_option maxHeartbeats 4000000 in
theorem whole_start {p : Program} {e : Env} {s : State} {m : MethodId} {below : List Frame} {meth : Method} {c : Code} (l : Launch) {b L : Nat} {xs : Nat → Int32} (hL : L ≤ 3072) (C0 : lw_At p s m meth c b L xs) : W p l e room_1 s m #[Value.ref b] below meth c s.heap [] 0 0 (lw_Z below #[Value.ref b] s) (entryFrame m ([Value.ref b] : List Value).toArray 4) := by
  have C1 := C0
  obtain ⟨hx, hb, hr, hml, hown, hts, hX, hbl, hlk, hgv⟩ := C1
  have C : Cx p s m #[Value.ref b] c cL_law 4 "LeanTowerLaw" := ⟨hx, hb, hml, hown, fun w hw => hts w (List.mem_filter.mp hw).1⟩
  obtain ⟨G, hK, hG0⟩ := kc_start hts hgv
  have key : NW p l e room_1 s m #[Value.ref b] below meth c (lw_Z below #[Value.ref b] s) 4 G 0 0 0 [some (.ref b), none, none, none] [] [] := by
    refine n_new (C1 := RX11) (T := TX11) (N := 13) (ci := 10) (fs := [.null, .null, .null, .null, .null, .int 0, .int 0, .null, .null, .null, .null, .null, .int 0]) C in_11 tyX11 tyX11_ok q1_21 q1_22 q1_1 rfl (fun j hj => fs_X11 j hj) (by decide) (by decide) dL_law_0 (fun a => ?_)
    refine n_dup C dL_law_3 rfl ?_
    refine n_callI C (c_X11_init l G a _) rfl q1_25 q1_23 q1_24 q1_1 (by decide +kernel) (by decide) (by decide) (Nat.le_of_ble_eq_true rfl) dL_law_4 ?_
    rintro _ ⟨g, rfl, rfl⟩
    refine n_astore_n (L1 := [some (.ref b), some (.ref (g 0 0)), none, none]) C dL_law_7 rfl (by decide) rfl rfl ?_
    refine n_new (C1 := RX12) (T := TX12) (N := 21) (ci := 11) (fs := [.null, .null, .null, .null, .null, .null, .int 0, .int 0, .int 0, .int 0, .null, .int 0, .int 0, .int 0, .long 0, .int 0, .int 0, .int 0, .null, .null, .int 0]) C in_12 tyX12 tyX12_ok q4_110 q4_111 q1_7 rfl (fun j hj => fs_X12 j hj) (by decide) (by decide) dL_law_8 (fun a => ?_)
    refine n_dup C dL_law_11 rfl ?_
    refine n_callI C (c_X12_init l G a _) rfl q4_114 q4_112 q4_113 q1_7 (by decide +kernel) (by decide) (by decide) (Nat.le_of_ble_eq_true rfl) dL_law_12 ?_
    rintro _ ⟨gm, rfl, rfl⟩
    refine n_astore_n (L1 := [some (.ref b), some (.ref (g 0 0)), some (.ref (gm 0)), none]) C dL_law_15 rfl (by decide) rfl rfl ?_
    refine n_iconst (v := 0) C dL_law_16 (by decide) ?_
    refine n_istore_n (L1 := [some (.ref b), some (.ref (g 0 0)), some (.ref (gm 0)), some (.int 0)]) C dL_law_17 rfl (by decide) rfl rfl ?_
    intro H locs ls hw hl
    have hp : (MB G gm ++ (LI.map (cl0 G g) ++ [])).Perm (wl (gx g gm, G.2) s0) := by
      have e1 : LI.map (cl0 G g) = LI.map (cl0 G (gx g gm)) := List.map_congr_left (fun q hq => gx_cl G g gm q (li_lt q hq))
      have e2 : MB G gm ++ (LI.map (cl0 G g) ++ []) = (MI ++ LI).map (cl0 G (gx g gm)) := by
        rw [List.append_nil, e1, List.map_append]
        rfl
      have e3 : wl (gx g gm, G.2) s0 = idl.map (cl0 G (gx g gm)) := List.append_nil _
      rw [e2, e3]
      exact li_perm.map _
    refine W.widen (k := 250 + 8 * (0 : Int32).toInt.toNat) (n := 5300 + 24 * (0 : Int32).toInt.toNat) (by decide) (by decide) ?_
    exact law_loop l hL C0 (gx g gm, G.2) hG0 3079 s0 0 S0 (fun _ => S0) inv_0 rel_0 rt_0 ca_0 ma_0 ⟨by decide, by decide⟩ (by decide) H locs ls ⟨hw.1.1, hw.2.1.perm hp, hw.2.2.1.perm hp, hw.2.2.2.1, hw.2.2.2.2⟩ hl
  rw [lg_entry_eq]
  exact key s.heap [] _ ⟨hK, fun k q hk => by simp at hk, ⟨fun i j p q hi => by simp at hi, fun k q hk => by simp at hk⟩, va_S.rf, by rw [hG0]; exact Nat.le_refl _⟩ (by rw [lo_has]; exact lv_entry [Value.ref b] (Nat.le_of_ble_eq_true rfl))
