section MOR
variable {p : Program} {l : Launch} {e : Env} {R : Room} {s : State} {m : MethodId} {args : Array Value} {below : List Frame} {meth : Method} {c : Code} {cells slots : Nat} {Q : State → Prop} {cc : ByteArray} {nL : Nat} {own : String} {G : Gt} {σ : Sg} {pc : Nat} {L : List (Option Value)} {st : List Value}
/-- the state gets a name -/
theorem m_tops (k : ∀ τ : Sg, τ = σ → MW p l e R s m args below meth c Q nL G cells slots pc L st τ) : MW p l e R s m args below meth c Q nL G cells slots pc L st σ := k σ rfl
theorem nar_z {v : Int32} (h : IV v 0 1) : narrow .boolean (.int v) = .int v := by
  have k0 : (0 : Int32).toInt = 0 := by decide
  have k1 : (1 : Int32).toInt = 1 := by decide
  have hv : v = 0 ∨ v = 1 := by
    rw [ti_eq, ti_eq]
    obtain ⟨h1, h2⟩ := h
    omega
  rcases hv with rfl | rfl <;> rfl
theorem gV_put {σ τ : Sg} {t j k t' j' k' : Nat} {v w : Int32} (e : τ = sV σ t j k v) (h : gV (sV σ t j k v) t' j' k' = w) : gV τ t' j' k' = w := by rw [e]; exact h
theorem gV_putn {σ τ : Sg} {t j k t' j' k' : Nat} {v : Int32} (e : τ = sV σ t j k v) (h : t' ≠ t ∨ j' ≠ j ∨ k' ≠ k) : gV τ t' j' k' = gV σ t' j' k' := by rw [e]; exact gV_ne h
def sJ (σ : Sg) (w : Int64) : Sg := (σ.1, σ.2.1, w, σ.2.2.2)
theorem gV_putl {σ τ : Sg} {t' j' k' : Nat} {w : Int32} {v : Int64} (e : τ = sJ σ v) (h : gV (sJ σ v) t' j' k' = w) : gV τ t' j' k' = w := by rw [e]; exact h
theorem Inv.putJ {σ : Sg} (h : Inv σ) (w : Int64) : Inv (sJ σ w) := h
theorem Fr.putJ {MM : List (Nat × Nat)} {AA : List Nat} {σ τ : Sg} (h : Fr MM AA σ τ) (w : Int64) : Fr MM AA σ (sJ τ w) := h
theorem p_22_14 (C : Cx p s m args c cc nL own) {index : Nat} {v : Int64} (hq : Cond.fieldLink own index (TX12 14).1 (TX12 14).2.1 (TX12 14).2.2.1 ∈ WA) (d : decode cc pc = .ok (.putfield index, 3)) (kk : MW p l e R s m args below meth c Q nL G cells slots (pc + 3) L st (sJ σ v)) : MW p l e R s m args below meth c Q nL G cells slots pc L (.long v :: .ref (G.1 22 0) :: st) σ := fun H locs ls hw hl => by
  obtain ⟨q0, h0, hi0⟩ := wl_at G σ (t := 22) (j := 0) (by decide) (by decide)
  refine va_put (ref := (TX12 14).1) (ty := .long) (ci := 11) C.1 C.2.1 C.2.2.2.2 in_12 tyX12 tyX12_ok nmX12 C.2.2.2.1 hw.1.1 hw.2.1 hw.2.2.1 hw.2.2.2.1 q0 h0 rfl 14 (by decide) (C.2.2.2.2 _ hq) (fun _ h => h) rfl (by decide +kernel) rfl rfl (Nat.le_of_ble_eq_true rfl) d (fun H1 locs1 hP hD hS => ?_)
  have e := wl_set (σ' := sJ σ v) (e := _) hw.2.2.1 h0 hi0 rfl rfl (fun t' j' hm h => by
    by_cases g : t' = 22
    · subst g
      rcases h with h | h
      · exact absurd rfl h
      · exact absurd (Nat.lt_one_iff.mp (idl_lt hm).2) h
    · unfold ce ceF
      split <;> first | rfl | exact absurd rfl g)
  exact kk H1 locs1 ls ⟨hw.1, by rw [← e]; exact hP, by rw [← e]; exact hD, hS, hw.2.2.2.2⟩ hl
end MOR
theorem kl_96 : (96 : Int64).toInt = 96 := by decide
theorem kl_2553 : (2553 : Int64).toInt = 2553 := by decide
theorem kl_12343 : (12343 : Int64).toInt = 12343 := by decide
theorem kl_441803 : (441803 : Int64).toInt = 441803 := by decide
theorem kl_20594117 : (20594117 : Int64).toInt = 20594117 := by decide
theorem kl_24416759 : (24416759 : Int64).toInt = 24416759 := by decide
theorem kl_77177328 : (77177328 : Int64).toInt = 77177328 := by decide
theorem kl_542723566 : (542723566 : Int64).toInt = 542723566 := by decide
theorem kl_4294967295 : (4294967295 : Int64).toInt = 4294967295 := by decide
theorem kl_17494690093 : (17494690093 : Int64).toInt = 17494690093 := by decide
theorem kc_151 : IV (151 : Int32) (151) (151) := by decide
theorem kt_151 : (151 : Int32).toInt = 151 := by decide
theorem kn_151 : (151 : Int32).toInt.toNat = 151 := by decide
theorem kc_2553 : IV (2553 : Int32) (2553) (2553) := by decide
theorem kt_2553 : (2553 : Int32).toInt = 2553 := by decide
theorem kn_2553 : (2553 : Int32).toInt.toNat = 2553 := by decide
theorem kc_12343 : IV (12343 : Int32) (12343) (12343) := by decide
theorem kt_12343 : (12343 : Int32).toInt = 12343 := by decide
theorem kn_12343 : (12343 : Int32).toInt.toNat = 12343 := by decide
theorem kc_441803 : IV (441803 : Int32) (441803) (441803) := by decide
theorem kt_441803 : (441803 : Int32).toInt = 441803 := by decide
theorem kn_441803 : (441803 : Int32).toInt.toNat = 441803 := by decide
theorem kc_24416759 : IV (24416759 : Int32) (24416759) (24416759) := by decide
theorem kt_24416759 : (24416759 : Int32).toInt = 24416759 := by decide
theorem kn_24416759 : (24416759 : Int32).toInt.toNat = 24416759 := by decide
theorem kc_77177328 : IV (77177328 : Int32) (77177328) (77177328) := by decide
theorem kt_77177328 : (77177328 : Int32).toInt = 77177328 := by decide
theorem kn_77177328 : (77177328 : Int32).toInt.toNat = 77177328 := by decide
theorem tl_add (x y : Int32) : (x.toInt64 + y.toInt64).toInt = x.toInt + y.toInt := by
  have h1 := iv_any x
  have h2 := iv_any y
  rw [Int64.toInt_add, tl_i, tl_i]
  show Int.bmod _ 18446744073709551616 = _
  rw [Int.bmod]
  split <;> omega
theorem kc_153 : IV (153 : Int32) (153) (153) := by decide
theorem kt_153 : (153 : Int32).toInt = 153 := by decide
theorem kn_153 : (153 : Int32).toInt.toNat = 153 := by decide
theorem kc_160 : IV (160 : Int32) (160) (160) := by decide
theorem kt_160 : (160 : Int32).toInt = 160 := by decide
theorem kn_160 : (160 : Int32).toInt.toNat = 160 := by decide
theorem kc_167 : IV (167 : Int32) (167) (167) := by decide
theorem kt_167 : (167 : Int32).toInt = 167 := by decide
theorem kn_167 : (167 : Int32).toInt.toNat = 167 := by decide
theorem kc_174 : IV (174 : Int32) (174) (174) := by decide
theorem kt_174 : (174 : Int32).toInt = 174 := by decide
theorem kn_174 : (174 : Int32).toInt.toNat = 174 := by decide
theorem kc_181 : IV (181 : Int32) (181) (181) := by decide
theorem kt_181 : (181 : Int32).toInt = 181 := by decide
theorem kn_181 : (181 : Int32).toInt.toNat = 181 := by decide
theorem kc_189 : IV (189 : Int32) (189) (189) := by decide
theorem kt_189 : (189 : Int32).toInt = 189 := by decide
theorem kn_189 : (189 : Int32).toInt.toNat = 189 := by decide
theorem kc_193 : IV (193 : Int32) (193) (193) := by decide
theorem kt_193 : (193 : Int32).toInt = 193 := by decide
theorem kn_193 : (193 : Int32).toInt.toNat = 193 := by decide
theorem kc_20594117 : IV (20594117 : Int32) (20594117) (20594117) := by decide
theorem kt_20594117 : (20594117 : Int32).toInt = 20594117 := by decide
theorem kn_20594117 : (20594117 : Int32).toInt.toNat = 20594117 := by decide
theorem kc_542723566 : IV (542723566 : Int32) (542723566) (542723566) := by decide
theorem kt_542723566 : (542723566 : Int32).toInt = 542723566 := by decide
theorem kn_542723566 : (542723566 : Int32).toInt.toNat = 542723566 := by decide
theorem kc_252645135 : IV (252645135 : Int32) (252645135) (252645135) := by decide
theorem kt_252645135 : (252645135 : Int32).toInt = 252645135 := by decide
theorem kn_252645135 : (252645135 : Int32).toInt.toNat = 252645135 := by decide
theorem kc_858993459 : IV (858993459 : Int32) (858993459) (858993459) := by decide
theorem kt_858993459 : (858993459 : Int32).toInt = 858993459 := by decide
theorem kn_858993459 : (858993459 : Int32).toInt.toNat = 858993459 := by decide
theorem kc_1431655765 : IV (1431655765 : Int32) (1431655765) (1431655765) := by decide
theorem kt_1431655765 : (1431655765 : Int32).toInt = 1431655765 := by decide
theorem kn_1431655765 : (1431655765 : Int32).toInt.toNat = 1431655765 := by decide
theorem kc_125 : IV (125 : Int32) (125) (125) := by decide
theorem kt_125 : (125 : Int32).toInt = 125 := by decide
theorem kn_125 : (125 : Int32).toInt.toNat = 125 := by decide
theorem kc_625 : IV (625 : Int32) (625) (625) := by decide
theorem kt_625 : (625 : Int32).toInt = 625 := by decide
theorem kn_625 : (625 : Int32).toInt.toNat = 625 := by decide
theorem kc_3125 : IV (3125 : Int32) (3125) (3125) := by decide
theorem kt_3125 : (3125 : Int32).toInt = 3125 := by decide
theorem kn_3125 : (3125 : Int32).toInt.toNat = 3125 := by decide
