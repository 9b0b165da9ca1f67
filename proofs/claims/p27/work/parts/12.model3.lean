abbrev MS_X12_takePerson : List (Nat × Nat) := [(22, 11), (22, 12), (22, 13), (22, 15), (22, 16)]
abbrev AS_X12_takePerson : List Nat := [23]
set_option maxHeartbeats 4000000 in
set_option maxRecDepth 100000 in
theorem c_X12_takePerson (l : Launch) (G : Gt) (σ : Sg) (hI : Inv σ) (hat : (gV σ 22 0 11).toInt ≤ (gV σ 22 0 6).toInt) (hf0 : (gV σ 22 0 16).toInt = 0) (hPb : Pb σ) : Mc l G yX12_takePerson cX12_takePerson 4 none 3 69 0 0 [.ref (G.1 22 0)] σ (PV fun τ => Inv τ ∧ Fr MS_X12_takePerson AS_X12_takePerson σ τ ∧ ((gV τ 22 0 11).toInt ≤ (gV τ 22 0 6).toInt) ∧ ((gV τ 22 0 16).toInt = 0 → Pb τ) ∧ (((gV τ 22 0 16).toInt ≠ 0 ∧ (gV τ 23 0 152).toInt = (gV σ 23 0 152).toInt) ∨ (gV τ 23 0 152).toInt = (gV σ 23 0 152).toInt + 1)) := by
  refine Mc.of (L0 := [some (.ref (G.1 22 0)), none, none, none]) (by decide) (Nat.le_of_ble_eq_true rfl) rfl ?_
  intro p e s m args below meth c C hr hlk
  have C : Cx p s m args c cX12_takePerson 4 "LeanTowerModel" := C
  have k0 : (0 : Int32).toInt = 0 := by decide
  have k1 : (1 : Int32).toInt = 1 := by decide
  have J164 : ∀ (τ : Sg) (y1 : Int32) (z0 : Int32) (z1 : Int32), Inv τ → Fr MS_X12_takePerson AS_X12_takePerson σ τ → IV y1 0 6 → IV z0 (-2147483648) 2147483647 → IV z1 174 180 → (CP (gV σ 23 0 152).toInt τ) → (CQ (gV σ 23 0 152).toInt.toNat τ) → (z1.toInt = 174 + (gV σ 23 0 152).toInt) → (y1.toInt = (gV σ 23 0 152).toInt ∧ (gV σ 23 0 152).toInt ≤ 6) → ((gV τ 22 0 11).toInt ≤ (gV τ 22 0 6).toInt) → ((gV τ 23 0 152).toInt = (gV σ 23 0 152).toInt) → MW p l e { frames := 3, cells := 0, slots := 0, locals := 69 } s m args below meth c (MQ below (QP G (PV fun τ => Inv τ ∧ Fr MS_X12_takePerson AS_X12_takePerson σ τ ∧ ((gV τ 22 0 11).toInt ≤ (gV τ 22 0 6).toInt) ∧ ((gV τ 22 0 16).toInt = 0 → Pb τ) ∧ (((gV τ 22 0 16).toInt ≠ 0 ∧ (gV τ 23 0 152).toInt = (gV σ 23 0 152).toInt) ∨ (gV τ 23 0 152).toInt = (gV σ 23 0 152).toInt + 1))) args s 0 0 (aG G)) 4 G 0 0 164 [some (.ref (G.1 22 0)), some (.int y1), none, none] [.int z0, .int z1, .ref (G.1 23 0)] τ := by
    intro τ y1 z0 z1 iτ fτ b_y1 b_z0 b_z1 v_CP v_CQ n1 n2 n3 n4
    have u5 : IV (gV τ 23 0 152) 0 7 := iτ.1 23 0 152
    have u6 : IV (gV τ 22 0 11) 0 400 := iτ.1 22 0 11
    have u7 : IV (gV τ 22 0 6) 0 400 := iτ.1 22 0 6
    have b8 : IV (gV τ 23 0 152) 0 6 := ⟨by omega, by omega⟩
    refine as_23 C b_z1 (by decide) rfl dX12_takePerson_164 ?_
    refine m_tops (fun τ9 eτ9 => ?_)
    have i10 : Inv τ9 := eτ9 ▸ Inv.putRo iτ (by omega)
    have f11 : Fr MS_X12_takePerson AS_X12_takePerson σ τ9 := eτ9 ▸ Fr.put (fτ) (Or.inr (by decide))
    have v12 : CP (gV σ 23 0 152).toInt τ9 := v_CP.put eτ9 (Or.inr (fun q hq => by omega))
    have v13 : CQ (gV σ 23 0 152).toInt.toNat τ9 := v_CQ.put eτ9 (Or.inl (by decide)) (Or.inr (by omega))
    refine m_aload_n C dX12_takePerson_165 rfl rfl ?_
    refine g_22_0 C q4_116 dX12_takePerson_166 ?_
    refine m_sipush (v := 181) C dX12_takePerson_169 (by decide) ?_
    refine m_iload_n C dX12_takePerson_172 rfl rfl ?_
    refine m_iadd C dX12_takePerson_173 ?_
    refine m_topi (fun x14 ex14 => ?_)
    have tx14 : x14.toInt = 181 + y1.toInt := by rw [ex14, ti_addv kc_181 b_y1 (by decide), kt_181]
    have b15 : IV x14 181 187 := by rw [ex14]; exact iv_add kc_181 b_y1 (by decide)
    refine m_iconst (v := 0) C dX12_takePerson_174 (by decide) ?_
    refine as_23 C b15 (by decide) rfl dX12_takePerson_175 ?_
    refine m_tops (fun τ16 eτ16 => ?_)
    have i17 : Inv τ16 := eτ16 ▸ Inv.putR0 i10 (by omega) kt_0
    have f18 : Fr MS_X12_takePerson AS_X12_takePerson σ τ16 := eτ16 ▸ Fr.put (f11) (Or.inr (by decide))
    have v19 : CP (gV σ 23 0 152).toInt τ16 := v12.put eτ16 (Or.inr (fun q hq => by omega))
    have v20 : CQ (gV σ 23 0 152).toInt.toNat τ16 := v13.put eτ16 (Or.inl (by decide)) (Or.inr (by omega))
    refine m_aload_n C dX12_takePerson_176 rfl rfl ?_
    refine g_22_0 C q4_116 dX12_takePerson_177 ?_
    refine m_sipush (v := 152) C dX12_takePerson_180 (by decide) ?_
    refine m_dup2 C dX12_takePerson_183 rfl rfl ?_
    refine al_23 C kc_152 (by decide) kn_152 dX12_takePerson_184 ?_
    refine m_eqs (w := (gV τ 23 0 152)) (show gV τ16 23 0 152 = (gV τ 23 0 152) from (gV_putn eτ16 (Or.inr (Or.inr (by omega)))).trans (show gV τ9 23 0 152 = (gV τ 23 0 152) from (gV_putn eτ9 (Or.inr (Or.inr (by omega)))).trans rfl)) ?_
    refine m_iconst (v := 1) C dX12_takePerson_185 (by decide) ?_
    refine m_iadd C dX12_takePerson_186 ?_
    refine m_topi (fun x21 ex21 => ?_)
    have tx21 : x21.toInt = (gV τ 23 0 152).toInt + 1 := by rw [ex21, ti_addv b8 kc_1 (by decide), kt_1]
    have b22 : IV x21 1 7 := by rw [ex21]; exact iv_add b8 kc_1 (by decide)
    refine as_23 C kc_152 (by decide) kn_152 dX12_takePerson_187 ?_
    refine m_tops (fun τ23 eτ23 => ?_)
    have i24 : Inv τ23 := eτ23 ▸ Inv.putR i17 (by decide) (iv_wk b22 (by decide))
    have f25 : Fr MS_X12_takePerson AS_X12_takePerson σ τ23 := eτ23 ▸ Fr.put (f18) (Or.inr (by decide))
    have v26 : CP (gV σ 23 0 152).toInt τ23 := v19.put eτ23 (Or.inr (fun q hq => by omega))
    have v27 : CQ (gV σ 23 0 152).toInt.toNat τ23 := v20.put eτ23 (Or.inl (by decide)) (Or.inr (by omega))
    refine m_aload_n C dX12_takePerson_188 rfl rfl ?_
    have q28 : (gV τ23 22 0 16).toInt = (gV τ 22 0 16).toInt := congrArg Int32.toInt (show (gV τ23 22 0 16) = (gV τ 22 0 16) from (show gV τ23 22 0 16 = (gV τ 22 0 16) from gV_put eτ23 (show gV τ16 22 0 16 = (gV τ 22 0 16) from gV_put eτ16 (show gV τ9 22 0 16 = (gV τ 22 0 16) from gV_put eτ9 rfl))))
    have q29 : (gV τ23 22 0 11).toInt = (gV τ 22 0 11).toInt := congrArg Int32.toInt (show (gV τ23 22 0 11) = (gV τ 22 0 11) from (show gV τ23 22 0 11 = (gV τ 22 0 11) from gV_put eτ23 (show gV τ16 22 0 11 = (gV τ 22 0 11) from gV_put eτ16 (show gV τ9 22 0 11 = (gV τ 22 0 11) from gV_put eτ9 rfl))))
    have q30 : (gV τ23 22 0 6).toInt = (gV τ 22 0 6).toInt := congrArg Int32.toInt (show (gV τ23 22 0 6) = (gV τ 22 0 6) from (show gV τ23 22 0 6 = (gV τ 22 0 6) from gV_put eτ23 (show gV τ16 22 0 6 = (gV τ 22 0 6) from gV_put eτ16 (show gV τ9 22 0 6 = (gV τ 22 0 6) from gV_put eτ9 rfl))))
    have q31 : (gV τ23 23 0 152).toInt = x21.toInt := congrArg Int32.toInt (show (gV τ23 23 0 152) = x21 from (show gV τ23 23 0 152 = x21 from gV_put eτ23 (gV_self _ _ _ _ _)))
    refine m_callV (n := 0) (ci := 11) (st := []) C (c_X12_takeSign l G τ23  i24 (by omega)) (by decide) (by decide) rfl rfl rfl q5_15 q5_12 q5_14 q0_32 q1_7 (by decide +kernel) rfl (by decide) (by decide) rfl (Nat.le_of_ble_eq_true rfl) dX12_takePerson_189 ?_
    rintro _ τ32 ⟨rfl, i33, f34, h38⟩
    have g37 : Fr MS_X12_takePerson AS_X12_takePerson σ τ32 := Fr.call (f25) f34 (by decide)
    have v39 : CP (gV σ 23 0 152).toInt τ32 := v26.call (fun k => f34.1 23 0 k (by simp) (by decide))
    have v40 : CQ (gV σ 23 0 152).toInt.toNat τ32 := v27.call (fun q => by omega) (fun k => f34.1 23 0 k (by simp) (by decide))
    have u41 : IV (gV τ32 22 0 11) 0 400 := i33.1 22 0 11
    have q42 : (gV τ32 22 0 6).toInt = (gV τ 22 0 6).toInt := congrArg Int32.toInt (show (gV τ32 22 0 6) = (gV τ 22 0 6) from (show gV τ32 22 0 6 = (gV τ 22 0 6) from (f34.1 22 0 (6) (by decide) (by decide)).trans (show gV τ23 22 0 6 = (gV τ 22 0 6) from gV_put eτ23 (show gV τ16 22 0 6 = (gV τ 22 0 6) from gV_put eτ16 (show gV τ9 22 0 6 = (gV τ 22 0 6) from gV_put eτ9 rfl)))))
    have q43 : (gV τ32 23 0 152).toInt = x21.toInt := congrArg Int32.toInt (show (gV τ32 23 0 152) = x21 from (show gV τ32 23 0 152 = x21 from (f34.1 23 0 (152) (by decide) (by decide)).trans (show gV τ23 23 0 152 = x21 from gV_put eτ23 (gV_self _ _ _ _ _))))
    show MW p l e _ s m args below meth c _ 4 G 0 0 192 [some (.ref (G.1 22 0)), some (.int y1), none, none] [] τ32
    exact m_vret C hr hlk (by decide) (by decide) dX12_takePerson_192 ⟨rfl, i33, g37, ⟨by omega, (fun q => Pb.mk (by omega) v39 (v40 q) (by omega)), by omega⟩⟩
  have J143 : ∀ (τ : Sg) (y1 : Int32) (z0 : Int32), Inv τ → Fr MS_X12_takePerson AS_X12_takePerson σ τ → IV y1 0 6 → IV z0 (-2147483648) 2147483647 → (CP (gV σ 23 0 152).toInt τ) → (CQ (gV σ 23 0 152).toInt.toNat τ) → (y1.toInt = (gV σ 23 0 152).toInt ∧ (gV σ 23 0 152).toInt ≤ 6) → ((gV τ 22 0 11).toInt ≤ (gV τ 22 0 6).toInt) → ((gV τ 23 0 152).toInt = (gV σ 23 0 152).toInt) → MW p l e { frames := 3, cells := 0, slots := 0, locals := 69 } s m args below meth c (MQ below (QP G (PV fun τ => Inv τ ∧ Fr MS_X12_takePerson AS_X12_takePerson σ τ ∧ ((gV τ 22 0 11).toInt ≤ (gV τ 22 0 6).toInt) ∧ ((gV τ 22 0 16).toInt = 0 → Pb τ) ∧ (((gV τ 22 0 16).toInt ≠ 0 ∧ (gV τ 23 0 152).toInt = (gV σ 23 0 152).toInt) ∨ (gV τ 23 0 152).toInt = (gV σ 23 0 152).toInt + 1))) args s 0 0 (aG G)) 4 G 0 0 143 [some (.ref (G.1 22 0)), some (.int y1), none, none] [.int z0] τ := by
    intro τ y1 z0 iτ fτ b_y1 b_z0 v_CP v_CQ n44 n45 n46
    have u47 : IV (gV τ 23 0 152) 0 7 := iτ.1 23 0 152
    have u48 : IV (gV τ 22 0 11) 0 400 := iτ.1 22 0 11
    have u49 : IV (gV τ 22 0 6) 0 400 := iτ.1 22 0 6
    refine m_istore_n (L1 := [some (.ref (G.1 22 0)), some (.int y1), none, some (.int z0)]) C dX12_takePerson_143 rfl (by decide) rfl rfl ?_
    refine m_aload_n C dX12_takePerson_144 rfl rfl ?_
    refine g_22_0 C q4_116 dX12_takePerson_145 ?_
    refine m_sipush (v := 174) C dX12_takePerson_148 (by decide) ?_
    refine m_iload_n C dX12_takePerson_151 rfl rfl ?_
    refine m_iadd C dX12_takePerson_152 ?_
    refine m_topi (fun x50 ex50 => ?_)
    have tx50 : x50.toInt = 174 + y1.toInt := by rw [ex50, ti_addv kc_174 b_y1 (by decide), kt_174]
    have b51 : IV x50 174 180 := by rw [ex50]; exact iv_add kc_174 b_y1 (by decide)
    refine m_iload_n C dX12_takePerson_153 rfl rfl ?_
    refine m_bipush (v := 99) C dX12_takePerson_154 (by decide) ?_
    refine m_icmp_ne (tgt := 163) C dX12_takePerson_156 (by decide) (fun c52 => ?_) (fun c52 => ?_)
    · have f53 : z0.toInt ≠ 99 := by
        have q : _ := c52
        simp only [ti_nle, ti_nlt, ti_le, ti_lt, ti_eq, ti_ne, Classical.not_not, kt_99] at q
        omega
      refine m_iload_n C dX12_takePerson_163 rfl rfl ?_
      refine m_sub (L1 := [some (.ref (G.1 22 0)), some (.int y1), none, none]) ⟨rfl, ⟨rfl, trivial⟩⟩ ?_
      exact J164 τ y1 z0 x50 iτ fτ b_y1 b_z0 b51 v_CP v_CQ (by omega) (by omega) (by omega) (by omega)
    · have f54 : z0.toInt = 99 := by
        have q : _ := c52
        simp only [ti_nle, ti_nlt, ti_le, ti_lt, ti_eq, ti_ne, Classical.not_not, kt_99] at q
        omega
      have b55 : IV z0 99 99 := ⟨by have q1 := b_z0; have q2 := kc_99; omega, by have q1 := b_z0; have q2 := kc_99; omega⟩
      refine m_iconst (v := (-1)) C dX12_takePerson_159 (by decide) ?_
      refine m_goto (tgt := 164) C dX12_takePerson_160 (by decide) ?_
      refine m_sub (L1 := [some (.ref (G.1 22 0)), some (.int y1), none, none]) ⟨rfl, ⟨rfl, trivial⟩⟩ ?_
      exact J164 τ y1 (-1) x50 iτ fτ b_y1 (iv_wk kc_m1 (by decide)) b51 v_CP v_CQ (by omega) (by omega) (by omega) (by omega)
  have J114 : ∀ (τ : Sg) (y1 : Int32) (z0 : Int32) (z1 : Int32), Inv τ → Fr MS_X12_takePerson AS_X12_takePerson σ τ → IV y1 0 6 → IV z0 (-2147483648) 2147483647 → IV z1 167 173 → (CP (gV σ 23 0 152).toInt τ) → (((gV τ 22 0 16).toInt = 0 → 1 ≤ z0.toInt)) → (z1.toInt = 167 + (gV σ 23 0 152).toInt) → (y1.toInt = (gV σ 23 0 152).toInt ∧ (gV σ 23 0 152).toInt ≤ 6) → ((gV τ 22 0 11).toInt ≤ (gV τ 22 0 6).toInt) → ((gV τ 23 0 152).toInt = (gV σ 23 0 152).toInt) → MW p l e { frames := 3, cells := 0, slots := 0, locals := 69 } s m args below meth c (MQ below (QP G (PV fun τ => Inv τ ∧ Fr MS_X12_takePerson AS_X12_takePerson σ τ ∧ ((gV τ 22 0 11).toInt ≤ (gV τ 22 0 6).toInt) ∧ ((gV τ 22 0 16).toInt = 0 → Pb τ) ∧ (((gV τ 22 0 16).toInt ≠ 0 ∧ (gV τ 23 0 152).toInt = (gV σ 23 0 152).toInt) ∨ (gV τ 23 0 152).toInt = (gV σ 23 0 152).toInt + 1))) args s 0 0 (aG G)) 4 G 0 0 114 [some (.ref (G.1 22 0)), some (.int y1), none, none] [.int z0, .int z1, .ref (G.1 23 0)] τ := by
    intro τ y1 z0 z1 iτ fτ b_y1 b_z0 b_z1 v_CP n56 n57 n58 n59 n60
    have u61 : IV (gV τ 23 0 152) 0 7 := iτ.1 23 0 152
    have u62 : IV (gV τ 22 0 11) 0 400 := iτ.1 22 0 11
    have u63 : IV (gV τ 22 0 6) 0 400 := iτ.1 22 0 6
    refine as_23 C b_z1 (by decide) rfl dX12_takePerson_114 ?_
    refine m_tops (fun τ64 eτ64 => ?_)
    have i65 : Inv τ64 := eτ64 ▸ Inv.putRo iτ (by omega)
    have f66 : Fr MS_X12_takePerson AS_X12_takePerson σ τ64 := eτ64 ▸ Fr.put (fτ) (Or.inr (by decide))
    have v67 : CP (gV σ 23 0 152).toInt τ64 := v_CP.put eτ64 (Or.inr (fun q hq => by omega))
    have q68 : (gV τ64 23 0 152).toInt = (gV τ 23 0 152).toInt := congrArg Int32.toInt (show (gV τ64 23 0 152) = (gV τ 23 0 152) from (show gV τ64 23 0 152 = (gV τ 23 0 152) from (gV_putn eτ64 (Or.inr (Or.inr (by omega)))).trans rfl))
    have q69 : (gV τ64 22 0 16).toInt = (gV τ 22 0 16).toInt := congrArg Int32.toInt (show (gV τ64 22 0 16) = (gV τ 22 0 16) from (show gV τ64 22 0 16 = (gV τ 22 0 16) from gV_put eτ64 rfl))
    have q70 : (gV τ64 22 0 11).toInt = (gV τ 22 0 11).toInt := congrArg Int32.toInt (show (gV τ64 22 0 11) = (gV τ 22 0 11) from (show gV τ64 22 0 11 = (gV τ 22 0 11) from gV_put eτ64 rfl))
    have q71 : (gV τ64 22 0 6).toInt = (gV τ 22 0 6).toInt := congrArg Int32.toInt (show (gV τ64 22 0 6) = (gV τ 22 0 6) from (show gV τ64 22 0 6 = (gV τ 22 0 6) from gV_put eτ64 rfl))
    have v72 : CQ (gV σ 23 0 152).toInt.toNat τ64 := by
      intro q
      have q1 : gV τ64 23 0 (z1.toInt.toNat) = z0 := (show gV τ64 23 0 (z1.toInt.toNat) = z0 from gV_put eτ64 (gV_self _ _ _ _ _))
      rw [show 167 + (gV σ 23 0 152).toInt.toNat = (z1.toInt.toNat) by omega, q1]
      omega
    refine m_aload_n C dX12_takePerson_115 rfl rfl ?_
    refine g_22_16 C q4_132 dX12_takePerson_116 ?_
    refine m_eqs (w := (gV τ 22 0 16)) (show gV τ64 22 0 16 = (gV τ 22 0 16) from gV_put eτ64 rfl) ?_
    refine m_if_ne (tgt := 142) C dX12_takePerson_119 (by decide) (fun c73 => ?_) (fun c73 => ?_)
    · have f74 : (gV τ 22 0 16).toInt ≠ 0 := by
        have q : _ := c73
        simp only [ti_nle, ti_nlt, ti_le, ti_lt, ti_eq, ti_ne, Classical.not_not, kt_0] at q
        omega
      refine m_iconst (v := 0) C dX12_takePerson_142 (by decide) ?_
      exact J143 τ64 y1 0 i65 f66 b_y1 (iv_wk kc_0 (by decide)) v67 v72 (by omega) (by omega) (by omega)
    · have f75 : (gV τ 22 0 16).toInt = 0 := by
        have q : _ := c73
        simp only [ti_nle, ti_nlt, ti_le, ti_lt, ti_eq, ti_ne, Classical.not_not, kt_0] at q
        omega
      have b76 : IV (gV τ 22 0 16) 0 0 := ⟨by have q1 := (iv_any (gV τ 22 0 16)); have q2 := kc_0; omega, by have q1 := (iv_any (gV τ 22 0 16)); have q2 := kc_0; omega⟩
      refine m_aload_n C dX12_takePerson_122 rfl rfl ?_
      refine m_iconst (v := 0) C dX12_takePerson_123 (by decide) ?_
      refine m_aload_n C dX12_takePerson_124 rfl rfl ?_
      refine g_22_0 C q4_116 dX12_takePerson_125 ?_
      refine m_sipush (v := 150) C dX12_takePerson_128 (by decide) ?_
      refine al_23 C kc_150 (by decide) kn_150 dX12_takePerson_131 ?_
      refine m_topi (fun x77 ex77 => ?_)
      refine m_iconst (v := 1) C dX12_takePerson_132 (by decide) ?_
      refine m_isub C dX12_takePerson_133 ?_
      refine m_topi (fun x78 ex78 => ?_)
      refine m_bipush (v := 99) C dX12_takePerson_134 (by decide) ?_
      have q79 := kt_0
      have q80 := kt_99
      refine m_callV (n := 3) (ci := 11) (st := []) C (c_X12_takeNumber l G τ64 (0) (x78) (99) i65 (by omega)) (by decide) (by decide) rfl rfl rfl q5_7 q5_4 q5_6 q0_30 q1_7 (by decide +kernel) rfl (by decide) (by decide) rfl (Nat.le_of_ble_eq_true rfl) dX12_takePerson_136 ?_
      rintro _ τ81 ⟨x84, rfl, i82, f83, b85, h87⟩
      have g86 : Fr MS_X12_takePerson AS_X12_takePerson σ τ81 := Fr.call (f66) f83 (by decide)
      have v88 : CP (gV σ 23 0 152).toInt τ81 := v67.call (fun k => f83.1 23 0 k (by simp) (by decide))
      have v89 : CQ (gV σ 23 0 152).toInt.toNat τ81 := v72.call (fun q => by omega) (fun k => f83.1 23 0 k (by simp) (by decide))
      have u90 : IV (gV τ81 22 0 11) 0 400 := i82.1 22 0 11
      have q91 : (gV τ81 23 0 152).toInt = (gV τ 23 0 152).toInt := congrArg Int32.toInt (show (gV τ81 23 0 152) = (gV τ 23 0 152) from (show gV τ81 23 0 152 = (gV τ 23 0 152) from (f83.1 23 0 (152) (by decide) (by decide)).trans (show gV τ64 23 0 152 = (gV τ 23 0 152) from (gV_putn eτ64 (Or.inr (Or.inr (by omega)))).trans rfl)))
      have q92 : (gV τ81 22 0 6).toInt = (gV τ 22 0 6).toInt := congrArg Int32.toInt (show (gV τ81 22 0 6) = (gV τ 22 0 6) from (show gV τ81 22 0 6 = (gV τ 22 0 6) from (f83.1 22 0 (6) (by decide) (by decide)).trans (show gV τ64 22 0 6 = (gV τ 22 0 6) from gV_put eτ64 rfl)))
      have q93 := kt_0
      have q94 := kt_99
      show MW p l e _ s m args below meth c _ 4 G 0 0 139 [some (.ref (G.1 22 0)), some (.int y1), none, none] [.int x84] τ81
      refine m_goto (tgt := 143) C dX12_takePerson_139 (by decide) ?_
      exact J143 τ81 y1 x84 i82 g86 b_y1 b85 v88 v89 (by omega) (by omega) (by omega)
  have J43 : ∀ (τ : Sg) (y1 : Int32) (z0 : Int32), Inv τ → Fr MS_X12_takePerson AS_X12_takePerson σ τ → IV y1 0 6 → IV z0 (-1) 5 → (CP (gV σ 23 0 152).toInt τ) → ((gV τ 22 0 16).toInt = 0) → (y1.toInt = (gV σ 23 0 152).toInt ∧ (gV σ 23 0 152).toInt ≤ 6) → ((gV τ 22 0 11).toInt ≤ (gV τ 22 0 6).toInt) → ((gV τ 23 0 152).toInt = (gV σ 23 0 152).toInt) → MW p l e { frames := 3, cells := 0, slots := 0, locals := 69 } s m args below meth c (MQ below (QP G (PV fun τ => Inv τ ∧ Fr MS_X12_takePerson AS_X12_takePerson σ τ ∧ ((gV τ 22 0 11).toInt ≤ (gV τ 22 0 6).toInt) ∧ ((gV τ 22 0 16).toInt = 0 → Pb τ) ∧ (((gV τ 22 0 16).toInt ≠ 0 ∧ (gV τ 23 0 152).toInt = (gV σ 23 0 152).toInt) ∨ (gV τ 23 0 152).toInt = (gV σ 23 0 152).toInt + 1))) args s 0 0 (aG G)) 4 G 0 0 43 [some (.ref (G.1 22 0)), some (.int y1), none, none] [.int z0] τ := by
    intro τ y1 z0 iτ fτ b_y1 b_z0 v_CP n95 n96 n97 n98
    have u99 : IV (gV τ 23 0 152) 0 7 := iτ.1 23 0 152
    have u100 : IV (gV τ 22 0 11) 0 400 := iτ.1 22 0 11
    have u101 : IV (gV τ 22 0 6) 0 400 := iτ.1 22 0 6
    refine m_istore_n (L1 := [some (.ref (G.1 22 0)), some (.int y1), some (.int z0), none]) C dX12_takePerson_43 rfl (by decide) rfl rfl ?_
    refine m_iload_n C dX12_takePerson_44 rfl rfl ?_
    refine m_if_ge (tgt := 54) C dX12_takePerson_45 (by decide) (fun c102 => ?_) (fun c102 => ?_)
    · have f103 : 0 ≤ z0.toInt := by
        have q : _ := c102
        simp only [ti_nle, ti_nlt, ti_le, ti_lt, ti_eq, ti_ne, Classical.not_not, kt_0] at q
        omega
      have b104 : IV z0 0 5 := ⟨by have q1 := kc_0; have q2 := b_z0; omega, by have q1 := kc_0; have q2 := b_z0; omega⟩
      refine m_aload_n C dX12_takePerson_54 rfl rfl ?_
      refine m_callV (n := 0) (ci := 11) (st := []) C (c_X12_next l G τ  iτ (by omega)) (by decide) (by decide) rfl rfl rfl q4_231 q4_228 q4_230 q0_28 q1_7 (by decide +kernel) rfl (by decide) (by decide) rfl (Nat.le_of_ble_eq_true rfl) dX12_takePerson_55 ?_
      rintro _ τ105 ⟨rfl, i106, f107, h111⟩
      have g110 : Fr MS_X12_takePerson AS_X12_takePerson σ τ105 := Fr.call (fτ) f107 (by decide)
      have v112 : CP (gV σ 23 0 152).toInt τ105 := v_CP.call (fun k => f107.1 23 0 k (by simp) (by decide))
      have u113 : IV (gV τ105 22 0 11) 0 400 := i106.1 22 0 11
      have q114 : (gV τ105 23 0 152).toInt = (gV τ 23 0 152).toInt := congrArg Int32.toInt (show (gV τ105 23 0 152) = (gV τ 23 0 152) from (show gV τ105 23 0 152 = (gV τ 23 0 152) from (f107.1 23 0 (152) (by decide) (by decide)).trans rfl))
      have q115 : (gV τ105 22 0 16).toInt = (gV τ 22 0 16).toInt := congrArg Int32.toInt (show (gV τ105 22 0 16) = (gV τ 22 0 16) from (show gV τ105 22 0 16 = (gV τ 22 0 16) from (f107.1 22 0 (16) (by decide) (by decide)).trans rfl))
      have q116 : (gV τ105 22 0 6).toInt = (gV τ 22 0 6).toInt := congrArg Int32.toInt (show (gV τ105 22 0 6) = (gV τ 22 0 6) from (show gV τ105 22 0 6 = (gV τ 22 0 6) from (f107.1 22 0 (6) (by decide) (by decide)).trans rfl))
      show MW p l e _ s m args below meth c _ 4 G 0 0 58 [some (.ref (G.1 22 0)), some (.int y1), some (.int z0), none] [] τ105
      refine m_aload_n C dX12_takePerson_58 rfl rfl ?_
      refine g_22_0 C q4_116 dX12_takePerson_59 ?_
      refine m_sipush (v := 153) C dX12_takePerson_62 (by decide) ?_
      refine m_iload_n C dX12_takePerson_65 rfl rfl ?_
      refine m_iadd C dX12_takePerson_66 ?_
      refine m_topi (fun x117 ex117 => ?_)
      have tx117 : x117.toInt = 153 + y1.toInt := by rw [ex117, ti_addv kc_153 b_y1 (by decide), kt_153]
      have b118 : IV x117 153 159 := by rw [ex117]; exact iv_add kc_153 b_y1 (by decide)
      refine m_iload_n C dX12_takePerson_67 rfl rfl ?_
      refine as_23 C b118 (by decide) rfl dX12_takePerson_68 ?_
      refine m_tops (fun τ119 eτ119 => ?_)
      have i120 : Inv τ119 := eτ119 ▸ Inv.putRo i106 (by omega)
      have f121 : Fr MS_X12_takePerson AS_X12_takePerson σ τ119 := eτ119 ▸ Fr.put (g110) (Or.inr (by decide))
      have v122 : CP (gV σ 23 0 152).toInt τ119 := v112.put eτ119 (Or.inr (fun q hq => by omega))
      refine m_aload_n C dX12_takePerson_69 rfl rfl ?_
      refine g_22_0 C q4_116 dX12_takePerson_70 ?_
      refine m_sipush (v := 160) C dX12_takePerson_73 (by decide) ?_
      refine m_iload_n C dX12_takePerson_76 rfl rfl ?_
      refine m_iadd C dX12_takePerson_77 ?_
      refine m_topi (fun x123 ex123 => ?_)
      have tx123 : x123.toInt = 160 + y1.toInt := by rw [ex123, ti_addv kc_160 b_y1 (by decide), kt_160]
      have b124 : IV x123 160 166 := by rw [ex123]; exact iv_add kc_160 b_y1 (by decide)
      refine m_aload_n C dX12_takePerson_78 rfl rfl ?_
      refine m_iconst (v := 1) C dX12_takePerson_79 (by decide) ?_
      refine m_bipush (v := 20) C dX12_takePerson_80 (by decide) ?_
      refine m_iconst (v := 1) C dX12_takePerson_82 (by decide) ?_
      have q125 : (gV τ119 23 0 152).toInt = (gV τ 23 0 152).toInt := congrArg Int32.toInt (show (gV τ119 23 0 152) = (gV τ 23 0 152) from (show gV τ119 23 0 152 = (gV τ 23 0 152) from (gV_putn eτ119 (Or.inr (Or.inr (by omega)))).trans (show gV τ105 23 0 152 = (gV τ 23 0 152) from (f107.1 23 0 (152) (by decide) (by decide)).trans rfl)))
      have q126 : (gV τ119 22 0 16).toInt = (gV τ 22 0 16).toInt := congrArg Int32.toInt (show (gV τ119 22 0 16) = (gV τ 22 0 16) from (show gV τ119 22 0 16 = (gV τ 22 0 16) from gV_put eτ119 (show gV τ105 22 0 16 = (gV τ 22 0 16) from (f107.1 22 0 (16) (by decide) (by decide)).trans rfl)))
      have q127 : (gV τ119 22 0 6).toInt = (gV τ 22 0 6).toInt := congrArg Int32.toInt (show (gV τ119 22 0 6) = (gV τ 22 0 6) from (show gV τ119 22 0 6 = (gV τ 22 0 6) from gV_put eτ119 (show gV τ105 22 0 6 = (gV τ 22 0 6) from (f107.1 22 0 (6) (by decide) (by decide)).trans rfl)))
      have q128 : (gV τ119 22 0 11).toInt = (gV τ105 22 0 11).toInt := congrArg Int32.toInt (show (gV τ119 22 0 11) = (gV τ105 22 0 11) from (show gV τ119 22 0 11 = (gV τ105 22 0 11) from gV_put eτ119 rfl))
      have q129 := kt_1
      have q130 := kt_20
      have q131 := kt_1
      refine m_callV (n := 3) (ci := 11) (st := [.int x123, .ref (G.1 23 0)]) C (c_X12_takeNumber l G τ119 (1) (20) (1) i120 (by omega)) (by decide) (by decide) rfl rfl rfl q5_7 q5_4 q5_6 q0_30 q1_7 (by decide +kernel) rfl (by decide) (by decide) rfl (Nat.le_of_ble_eq_true rfl) dX12_takePerson_83 ?_
      rintro _ τ132 ⟨x135, rfl, i133, f134, b136, h138⟩
      have g137 : Fr MS_X12_takePerson AS_X12_takePerson σ τ132 := Fr.call (f121) f134 (by decide)
      have v139 : CP (gV σ 23 0 152).toInt τ132 := v122.call (fun k => f134.1 23 0 k (by simp) (by decide))
      have u140 : IV (gV τ132 22 0 11) 0 400 := i133.1 22 0 11
      have q141 : (gV τ132 23 0 152).toInt = (gV τ 23 0 152).toInt := congrArg Int32.toInt (show (gV τ132 23 0 152) = (gV τ 23 0 152) from (show gV τ132 23 0 152 = (gV τ 23 0 152) from (f134.1 23 0 (152) (by decide) (by decide)).trans (show gV τ119 23 0 152 = (gV τ 23 0 152) from (gV_putn eτ119 (Or.inr (Or.inr (by omega)))).trans (show gV τ105 23 0 152 = (gV τ 23 0 152) from (f107.1 23 0 (152) (by decide) (by decide)).trans rfl))))
      have q142 : (gV τ132 22 0 6).toInt = (gV τ 22 0 6).toInt := congrArg Int32.toInt (show (gV τ132 22 0 6) = (gV τ 22 0 6) from (show gV τ132 22 0 6 = (gV τ 22 0 6) from (f134.1 22 0 (6) (by decide) (by decide)).trans (show gV τ119 22 0 6 = (gV τ 22 0 6) from gV_put eτ119 (show gV τ105 22 0 6 = (gV τ 22 0 6) from (f107.1 22 0 (6) (by decide) (by decide)).trans rfl))))
      have q143 := kt_1
      have q144 := kt_20
      have q145 := kt_1
      show MW p l e _ s m args below meth c _ 4 G 0 0 86 [some (.ref (G.1 22 0)), some (.int y1), some (.int z0), none] [.int x135, .int x123, .ref (G.1 23 0)] τ132
      refine as_23 C b124 (by decide) rfl dX12_takePerson_86 ?_
      refine m_tops (fun τ146 eτ146 => ?_)
      have i147 : Inv τ146 := eτ146 ▸ Inv.putRo i133 (by omega)
      have f148 : Fr MS_X12_takePerson AS_X12_takePerson σ τ146 := eτ146 ▸ Fr.put (g137) (Or.inr (by decide))
      have v149 : CP (gV σ 23 0 152).toInt τ146 := v139.put eτ146 (Or.inr (fun q hq => by omega))
      refine m_aload_n C dX12_takePerson_87 rfl rfl ?_
      refine g_22_0 C q4_116 dX12_takePerson_88 ?_
      refine m_sipush (v := 167) C dX12_takePerson_91 (by decide) ?_
      refine m_iload_n C dX12_takePerson_94 rfl rfl ?_
      refine m_iadd C dX12_takePerson_95 ?_
      refine m_topi (fun x150 ex150 => ?_)
      have tx150 : x150.toInt = 167 + y1.toInt := by rw [ex150, ti_addv kc_167 b_y1 (by decide), kt_167]
      have b151 : IV x150 167 173 := by rw [ex150]; exact iv_add kc_167 b_y1 (by decide)
      refine m_aload_n C dX12_takePerson_96 rfl rfl ?_
      refine g_22_16 C q4_132 dX12_takePerson_97 ?_
      refine m_eqs (w := (gV τ132 22 0 16)) (show gV τ146 22 0 16 = (gV τ132 22 0 16) from gV_put eτ146 rfl) ?_
      refine m_if_ne (tgt := 113) C dX12_takePerson_100 (by decide) (fun c152 => ?_) (fun c152 => ?_)
      · have f153 : (gV τ132 22 0 16).toInt ≠ 0 := by
          have q : _ := c152
          simp only [ti_nle, ti_nlt, ti_le, ti_lt, ti_eq, ti_ne, Classical.not_not, kt_0] at q
          omega
        refine m_iconst (v := 0) C dX12_takePerson_113 (by decide) ?_
        refine m_sub (L1 := [some (.ref (G.1 22 0)), some (.int y1), none, none]) ⟨rfl, ⟨rfl, trivial⟩⟩ ?_
        have q154 : (gV τ146 23 0 152).toInt = (gV τ 23 0 152).toInt := congrArg Int32.toInt (show (gV τ146 23 0 152) = (gV τ 23 0 152) from (show gV τ146 23 0 152 = (gV τ 23 0 152) from (gV_putn eτ146 (Or.inr (Or.inr (by omega)))).trans (show gV τ132 23 0 152 = (gV τ 23 0 152) from (f134.1 23 0 (152) (by decide) (by decide)).trans (show gV τ119 23 0 152 = (gV τ 23 0 152) from (gV_putn eτ119 (Or.inr (Or.inr (by omega)))).trans (show gV τ105 23 0 152 = (gV τ 23 0 152) from (f107.1 23 0 (152) (by decide) (by decide)).trans rfl)))))
        have q155 : (gV τ146 22 0 6).toInt = (gV τ 22 0 6).toInt := congrArg Int32.toInt (show (gV τ146 22 0 6) = (gV τ 22 0 6) from (show gV τ146 22 0 6 = (gV τ 22 0 6) from gV_put eτ146 (show gV τ132 22 0 6 = (gV τ 22 0 6) from (f134.1 22 0 (6) (by decide) (by decide)).trans (show gV τ119 22 0 6 = (gV τ 22 0 6) from gV_put eτ119 (show gV τ105 22 0 6 = (gV τ 22 0 6) from (f107.1 22 0 (6) (by decide) (by decide)).trans rfl)))))
        have q156 : (gV τ146 22 0 16).toInt = (gV τ132 22 0 16).toInt := congrArg Int32.toInt (show (gV τ146 22 0 16) = (gV τ132 22 0 16) from (show gV τ146 22 0 16 = (gV τ132 22 0 16) from gV_put eτ146 rfl))
        have q157 : (gV τ146 22 0 11).toInt = (gV τ132 22 0 11).toInt := congrArg Int32.toInt (show (gV τ146 22 0 11) = (gV τ132 22 0 11) from (show gV τ146 22 0 11 = (gV τ132 22 0 11) from gV_put eτ146 rfl))
        exact J114 τ146 y1 0 x150 i147 f148 b_y1 (iv_wk kc_0 (by decide)) b151 v149 (by omega) (by omega) (by omega) (by omega) (by omega)
      · have f158 : (gV τ132 22 0 16).toInt = 0 := by
          have q : _ := c152
          simp only [ti_nle, ti_nlt, ti_le, ti_lt, ti_eq, ti_ne, Classical.not_not, kt_0] at q
          omega
        have b159 : IV (gV τ132 22 0 16) 0 0 := ⟨by have q1 := (iv_any (gV τ132 22 0 16)); have q2 := kc_0; omega, by have q1 := (iv_any (gV τ132 22 0 16)); have q2 := kc_0; omega⟩
        refine m_aload_n C dX12_takePerson_103 rfl rfl ?_
        refine m_iconst (v := 1) C dX12_takePerson_104 (by decide) ?_
        refine m_iconst (v := 4) C dX12_takePerson_105 (by decide) ?_
        refine m_iconst (v := 1) C dX12_takePerson_106 (by decide) ?_
        have q160 : (gV τ146 23 0 152).toInt = (gV τ 23 0 152).toInt := congrArg Int32.toInt (show (gV τ146 23 0 152) = (gV τ 23 0 152) from (show gV τ146 23 0 152 = (gV τ 23 0 152) from (gV_putn eτ146 (Or.inr (Or.inr (by omega)))).trans (show gV τ132 23 0 152 = (gV τ 23 0 152) from (f134.1 23 0 (152) (by decide) (by decide)).trans (show gV τ119 23 0 152 = (gV τ 23 0 152) from (gV_putn eτ119 (Or.inr (Or.inr (by omega)))).trans (show gV τ105 23 0 152 = (gV τ 23 0 152) from (f107.1 23 0 (152) (by decide) (by decide)).trans rfl)))))
        have q161 : (gV τ146 22 0 6).toInt = (gV τ 22 0 6).toInt := congrArg Int32.toInt (show (gV τ146 22 0 6) = (gV τ 22 0 6) from (show gV τ146 22 0 6 = (gV τ 22 0 6) from gV_put eτ146 (show gV τ132 22 0 6 = (gV τ 22 0 6) from (f134.1 22 0 (6) (by decide) (by decide)).trans (show gV τ119 22 0 6 = (gV τ 22 0 6) from gV_put eτ119 (show gV τ105 22 0 6 = (gV τ 22 0 6) from (f107.1 22 0 (6) (by decide) (by decide)).trans rfl)))))
        have q162 : (gV τ146 22 0 16).toInt = (gV τ132 22 0 16).toInt := congrArg Int32.toInt (show (gV τ146 22 0 16) = (gV τ132 22 0 16) from (show gV τ146 22 0 16 = (gV τ132 22 0 16) from gV_put eτ146 rfl))
        have q163 : (gV τ146 22 0 11).toInt = (gV τ132 22 0 11).toInt := congrArg Int32.toInt (show (gV τ146 22 0 11) = (gV τ132 22 0 11) from (show gV τ146 22 0 11 = (gV τ132 22 0 11) from gV_put eτ146 rfl))
        have q164 := kt_1
        have q165 := kt_4
        have q166 := kt_1
        refine m_callV (n := 3) (ci := 11) (st := [.int x150, .ref (G.1 23 0)]) C (c_X12_takeNumber l G τ146 (1) (4) (1) i147 (by omega)) (by decide) (by decide) rfl rfl rfl q5_7 q5_4 q5_6 q0_30 q1_7 (by decide +kernel) rfl (by decide) (by decide) rfl (Nat.le_of_ble_eq_true rfl) dX12_takePerson_107 ?_
        rintro _ τ167 ⟨x170, rfl, i168, f169, b171, h173⟩
        have g172 : Fr MS_X12_takePerson AS_X12_takePerson σ τ167 := Fr.call (f148) f169 (by decide)
        have v174 : CP (gV σ 23 0 152).toInt τ167 := v149.call (fun k => f169.1 23 0 k (by simp) (by decide))
        have u175 : IV (gV τ167 22 0 11) 0 400 := i168.1 22 0 11
        have q176 : (gV τ167 23 0 152).toInt = (gV τ 23 0 152).toInt := congrArg Int32.toInt (show (gV τ167 23 0 152) = (gV τ 23 0 152) from (show gV τ167 23 0 152 = (gV τ 23 0 152) from (f169.1 23 0 (152) (by decide) (by decide)).trans (show gV τ146 23 0 152 = (gV τ 23 0 152) from (gV_putn eτ146 (Or.inr (Or.inr (by omega)))).trans (show gV τ132 23 0 152 = (gV τ 23 0 152) from (f134.1 23 0 (152) (by decide) (by decide)).trans (show gV τ119 23 0 152 = (gV τ 23 0 152) from (gV_putn eτ119 (Or.inr (Or.inr (by omega)))).trans (show gV τ105 23 0 152 = (gV τ 23 0 152) from (f107.1 23 0 (152) (by decide) (by decide)).trans rfl))))))
        have q177 : (gV τ167 22 0 6).toInt = (gV τ 22 0 6).toInt := congrArg Int32.toInt (show (gV τ167 22 0 6) = (gV τ 22 0 6) from (show gV τ167 22 0 6 = (gV τ 22 0 6) from (f169.1 22 0 (6) (by decide) (by decide)).trans (show gV τ146 22 0 6 = (gV τ 22 0 6) from gV_put eτ146 (show gV τ132 22 0 6 = (gV τ 22 0 6) from (f134.1 22 0 (6) (by decide) (by decide)).trans (show gV τ119 22 0 6 = (gV τ 22 0 6) from gV_put eτ119 (show gV τ105 22 0 6 = (gV τ 22 0 6) from (f107.1 22 0 (6) (by decide) (by decide)).trans rfl))))))
        have q178 := kt_1
        have q179 := kt_4
        have q180 := kt_1
        show MW p l e _ s m args below meth c _ 4 G 0 0 110 [some (.ref (G.1 22 0)), some (.int y1), some (.int z0), none] [.int x170, .int x150, .ref (G.1 23 0)] τ167
        refine m_goto (tgt := 114) C dX12_takePerson_110 (by decide) ?_
        refine m_sub (L1 := [some (.ref (G.1 22 0)), some (.int y1), none, none]) ⟨rfl, ⟨rfl, trivial⟩⟩ ?_
        exact J114 τ167 y1 x170 x150 i168 g172 b_y1 b171 b151 v174 (by omega) (by omega) (by omega) (by omega) (by omega)
    · have f181 : z0.toInt < 0 := by
        have q : _ := c102
        simp only [ti_nle, ti_nlt, ti_le, ti_lt, ti_eq, ti_ne, Classical.not_not, kt_0] at q
        omega
      have b182 : IV z0 (-1) (-1) := ⟨by have q1 := b_z0; have q2 := kc_0; omega, by have q1 := b_z0; have q2 := kc_0; omega⟩
      refine m_aload_n C dX12_takePerson_48 rfl rfl ?_
      refine m_iconst (v := 1) C dX12_takePerson_49 (by decide) ?_
      refine p_22_16 C q4_132 dX12_takePerson_50 ?_
      refine m_tops (fun τ183 eτ183 => ?_)
      have i184 : Inv τ183 := eτ183 ▸ Inv.putF iτ (by decide) rfl
      have f185 : Fr MS_X12_takePerson AS_X12_takePerson σ τ183 := eτ183 ▸ Fr.put (fτ) (Or.inl (by decide))
      have v186 : CP (gV σ 23 0 152).toInt τ183 := v_CP.put eτ183 (Or.inl (by decide))
      have q187 : (gV τ183 23 0 152).toInt = (gV τ 23 0 152).toInt := congrArg Int32.toInt (show (gV τ183 23 0 152) = (gV τ 23 0 152) from (show gV τ183 23 0 152 = (gV τ 23 0 152) from gV_put eτ183 rfl))
      have q188 : (gV τ183 22 0 11).toInt = (gV τ 22 0 11).toInt := congrArg Int32.toInt (show (gV τ183 22 0 11) = (gV τ 22 0 11) from (show gV τ183 22 0 11 = (gV τ 22 0 11) from gV_put eτ183 rfl))
      have q189 : (gV τ183 22 0 6).toInt = (gV τ 22 0 6).toInt := congrArg Int32.toInt (show (gV τ183 22 0 6) = (gV τ 22 0 6) from (show gV τ183 22 0 6 = (gV τ 22 0 6) from gV_put eτ183 rfl))
      have q190 : (gV τ183 22 0 16).toInt = 1 := (congrArg Int32.toInt (show (gV τ183 22 0 16) = 1 from (show gV τ183 22 0 16 = 1 from gV_put eτ183 (gV_self _ _ _ _ _)))).trans kt_1
      exact m_vret C hr hlk (by decide) (by decide) dX12_takePerson_53 ⟨rfl, i184, f185, ⟨by omega, (fun q => absurd q (by omega)), by omega⟩⟩
  have u191 : IV (gV σ 23 0 152) 0 7 := hI.1 23 0 152
  have u192 : IV (gV σ 22 0 11) 0 400 := hI.1 22 0 11
  have u193 : IV (gV σ 22 0 6) 0 400 := hI.1 22 0 6
  refine m_aload_n C dX12_takePerson_0 rfl rfl ?_
  refine g_22_0 C q4_116 dX12_takePerson_1 ?_
  refine m_sipush (v := 152) C dX12_takePerson_4 (by decide) ?_
  refine al_23 C kc_152 (by decide) kn_152 dX12_takePerson_7 ?_
  refine m_eqs (w := (gV σ 23 0 152)) rfl ?_
  refine m_istore_n (L1 := [some (.ref (G.1 22 0)), some (.int (gV σ 23 0 152)), none, none]) C dX12_takePerson_8 rfl (by decide) rfl rfl ?_
  refine m_iload_n C dX12_takePerson_9 rfl rfl ?_
  refine m_bipush (v := 7) C dX12_takePerson_10 (by decide) ?_
  refine m_icmp_ne (tgt := 21) C dX12_takePerson_12 (by decide) (fun c194 => ?_) (fun c194 => ?_)
  · have f195 : (gV σ 23 0 152).toInt ≠ 7 := by
      have q : _ := c194
      simp only [ti_nle, ti_nlt, ti_le, ti_lt, ti_eq, ti_ne, Classical.not_not, kt_7] at q
      omega
    have b196 : IV (gV σ 23 0 152) 0 6 := ⟨by have q1 := u191; have q2 := kc_7; omega, by have q1 := u191; have q2 := kc_7; omega⟩
    refine m_aload_n C dX12_takePerson_21 rfl rfl ?_
    refine m_callV (n := 0) (ci := 11) (st := []) C (c_X12_next l G σ  hI (by omega)) (by decide) (by decide) rfl rfl rfl q4_231 q4_228 q4_230 q0_28 q1_7 (by decide +kernel) rfl (by decide) (by decide) rfl (Nat.le_of_ble_eq_true rfl) dX12_takePerson_22 ?_
    rintro _ τ197 ⟨rfl, i198, f199, h203⟩
    have g202 : Fr MS_X12_takePerson AS_X12_takePerson σ τ197 := Fr.call (Fr.rf) f199 (by decide)
    have v204 : CP (gV σ 23 0 152).toInt τ197 := (hPb.cp hI).call (fun k => f199.1 23 0 k (by simp) (by decide))
    have u205 : IV (gV τ197 22 0 11) 0 400 := i198.1 22 0 11
    have q206 : (gV τ197 23 0 152).toInt = (gV σ 23 0 152).toInt := congrArg Int32.toInt (show (gV τ197 23 0 152) = (gV σ 23 0 152) from (show gV τ197 23 0 152 = (gV σ 23 0 152) from (f199.1 23 0 (152) (by decide) (by decide)).trans rfl))
    have q207 : (gV τ197 22 0 16).toInt = (gV σ 22 0 16).toInt := congrArg Int32.toInt (show (gV τ197 22 0 16) = (gV σ 22 0 16) from (show gV τ197 22 0 16 = (gV σ 22 0 16) from (f199.1 22 0 (16) (by decide) (by decide)).trans rfl))
    have q208 : (gV τ197 22 0 6).toInt = (gV σ 22 0 6).toInt := congrArg Int32.toInt (show (gV τ197 22 0 6) = (gV σ 22 0 6) from (show gV τ197 22 0 6 = (gV σ 22 0 6) from (f199.1 22 0 (6) (by decide) (by decide)).trans rfl))
    show MW p l e _ s m args below meth c _ 4 G 0 0 25 [some (.ref (G.1 22 0)), some (.int (gV σ 23 0 152)), none, none] [] τ197
    refine m_aload_n C dX12_takePerson_25 rfl rfl ?_
    refine g_22_13 C q4_129 dX12_takePerson_26 ?_
    refine m_topi (fun x209 ex209 => ?_)
    refine m_if_ne (tgt := 42) C dX12_takePerson_29 (by decide) (fun c210 => ?_) (fun c210 => ?_)
    · have f211 : x209.toInt ≠ 0 := by
        have q : _ := c210
        simp only [ti_nle, ti_nlt, ti_le, ti_lt, ti_eq, ti_ne, Classical.not_not, kt_0] at q
        omega
      refine m_iconst (v := (-1)) C dX12_takePerson_42 (by decide) ?_
      exact J43 τ197 (gV σ 23 0 152) (-1) i198 g202 b196 (iv_wk kc_m1 (by decide)) v204 (by omega) (by omega) (by omega) (by omega)
    · have f212 : x209.toInt = 0 := by
        have q : _ := c210
        simp only [ti_nle, ti_nlt, ti_le, ti_lt, ti_eq, ti_ne, Classical.not_not, kt_0] at q
        omega
      have b213 : IV x209 0 0 := ⟨by have q1 := (iv_any x209); have q2 := kc_0; omega, by have q1 := (iv_any x209); have q2 := kc_0; omega⟩
      refine m_aload_n C dX12_takePerson_32 rfl rfl ?_
      refine g_22_14 C q4_130 dX12_takePerson_33 ?_
      refine m_topl (fun w214 ew214 => ?_)
      refine m_callS (n := 1) (st := []) C (c_X12_sortOf l G τ197 (w214) i198 ) q5_23 q5_21 q5_22 q1_7 (by decide +kernel) rfl (by decide) (by decide) rfl (Nat.le_of_ble_eq_true rfl) dX12_takePerson_36 ?_
      rintro _ τ215 ⟨x218, rfl, i216, f217, b219⟩
      have g220 : Fr MS_X12_takePerson AS_X12_takePerson σ τ215 := Fr.call (g202) f217 (by decide)
      have v222 : CP (gV σ 23 0 152).toInt τ215 := v204.call (fun k => f217.1 23 0 k (by simp) (by decide))
      show MW p l e _ s m args below meth c _ 4 G 0 0 39 [some (.ref (G.1 22 0)), some (.int (gV σ 23 0 152)), none, none] [.int x218] τ215
      refine m_goto (tgt := 43) C dX12_takePerson_39 (by decide) ?_
      have q223 : (gV τ215 23 0 152).toInt = (gV σ 23 0 152).toInt := congrArg Int32.toInt (show (gV τ215 23 0 152) = (gV σ 23 0 152) from (show gV τ215 23 0 152 = (gV σ 23 0 152) from (f217.1 23 0 (152) (by decide) (by decide)).trans (show gV τ197 23 0 152 = (gV σ 23 0 152) from (f199.1 23 0 (152) (by decide) (by decide)).trans rfl)))
      have q224 : (gV τ215 22 0 16).toInt = (gV σ 22 0 16).toInt := congrArg Int32.toInt (show (gV τ215 22 0 16) = (gV σ 22 0 16) from (show gV τ215 22 0 16 = (gV σ 22 0 16) from (f217.1 22 0 (16) (by decide) (by decide)).trans (show gV τ197 22 0 16 = (gV σ 22 0 16) from (f199.1 22 0 (16) (by decide) (by decide)).trans rfl)))
      have q225 : (gV τ215 22 0 6).toInt = (gV σ 22 0 6).toInt := congrArg Int32.toInt (show (gV τ215 22 0 6) = (gV σ 22 0 6) from (show gV τ215 22 0 6 = (gV σ 22 0 6) from (f217.1 22 0 (6) (by decide) (by decide)).trans (show gV τ197 22 0 6 = (gV σ 22 0 6) from (f199.1 22 0 (6) (by decide) (by decide)).trans rfl)))
      have q226 : (gV τ215 22 0 11).toInt = (gV τ197 22 0 11).toInt := congrArg Int32.toInt (show (gV τ215 22 0 11) = (gV τ197 22 0 11) from (show gV τ215 22 0 11 = (gV τ197 22 0 11) from (f217.1 22 0 (11) (by decide) (by decide)).trans rfl))
      exact J43 τ215 (gV σ 23 0 152) x218 i216 g220 b196 b219 v222 (by omega) (by omega) (by omega) (by omega)
  · have f227 : (gV σ 23 0 152).toInt = 7 := by
      have q : _ := c194
      simp only [ti_nle, ti_nlt, ti_le, ti_lt, ti_eq, ti_ne, Classical.not_not, kt_7] at q
      omega
    have b228 : IV (gV σ 23 0 152) 7 7 := ⟨by have q1 := u191; have q2 := kc_7; omega, by have q1 := u191; have q2 := kc_7; omega⟩
    refine m_aload_n C dX12_takePerson_15 rfl rfl ?_
    refine m_iconst (v := 3) C dX12_takePerson_16 (by decide) ?_
    refine p_22_16 C q4_132 dX12_takePerson_17 ?_
    refine m_tops (fun τ229 eτ229 => ?_)
    have i230 : Inv τ229 := eτ229 ▸ Inv.putF hI (by decide) rfl
    have f231 : Fr MS_X12_takePerson AS_X12_takePerson σ τ229 := eτ229 ▸ Fr.put (Fr.rf) (Or.inl (by decide))
    have v232 : CP (gV σ 23 0 152).toInt τ229 := (hPb.cp hI).put eτ229 (Or.inl (by decide))
    have q233 : (gV τ229 23 0 152).toInt = (gV σ 23 0 152).toInt := congrArg Int32.toInt (show (gV τ229 23 0 152) = (gV σ 23 0 152) from (show gV τ229 23 0 152 = (gV σ 23 0 152) from gV_put eτ229 rfl))
    have q234 : (gV τ229 22 0 11).toInt = (gV σ 22 0 11).toInt := congrArg Int32.toInt (show (gV τ229 22 0 11) = (gV σ 22 0 11) from (show gV τ229 22 0 11 = (gV σ 22 0 11) from gV_put eτ229 rfl))
    have q235 : (gV τ229 22 0 6).toInt = (gV σ 22 0 6).toInt := congrArg Int32.toInt (show (gV τ229 22 0 6) = (gV σ 22 0 6) from (show gV τ229 22 0 6 = (gV σ 22 0 6) from gV_put eτ229 rfl))
    have q236 : (gV τ229 22 0 16).toInt = 3 := (congrArg Int32.toInt (show (gV τ229 22 0 16) = 3 from (show gV τ229 22 0 16 = 3 from gV_put eτ229 (gV_self _ _ _ _ _)))).trans kt_3
    exact m_vret C hr hlk (by decide) (by decide) dX12_takePerson_20 ⟨rfl, i230, f231, ⟨by omega, (fun q => absurd q (by omega)), by omega⟩⟩

abbrev MS_X12_takeStone : List (Nat × Nat) := [(22, 11), (22, 12), (22, 13), (22, 15), (22, 16)]
abbrev AS_X12_takeStone : List Nat := [23]
set_option maxHeartbeats 4000000 in
set_option maxRecDepth 100000 in
theorem c_X12_takeStone (l : Launch) (G : Gt) (σ : Sg) (hI : Inv σ) (hat : (gV σ 22 0 11).toInt ≤ (gV σ 22 0 6).toInt) (hf0 : (gV σ 22 0 16).toInt = 0) (hPb : Pb σ) : Mc l G yX12_takeStone cX12_takeStone 2 none 3 69 0 0 [.ref (G.1 22 0)] σ (PV fun τ => Inv τ ∧ Fr MS_X12_takeStone AS_X12_takeStone σ τ ∧ ((gV τ 22 0 11).toInt ≤ (gV τ 22 0 6).toInt) ∧ Pb τ ∧ (((gV τ 22 0 16).toInt ≠ 0 ∧ (gV τ 23 0 188).toInt = (gV σ 23 0 188).toInt) ∨ (gV τ 23 0 188).toInt = (gV σ 23 0 188).toInt + 1)) := by
  refine Mc.of (L0 := [some (.ref (G.1 22 0)), none]) (by decide) (Nat.le_of_ble_eq_true rfl) rfl ?_
  intro p e s m args below meth c C hr hlk
  have C : Cx p s m args c cX12_takeStone 2 "LeanTowerModel" := C
  have k0 : (0 : Int32).toInt = 0 := by decide
  have k1 : (1 : Int32).toInt = 1 := by decide
  have J69 : ∀ (τ : Sg) (z0 : Int32) (z1 : Int32), Inv τ → Fr MS_X12_takeStone AS_X12_takeStone σ τ → IV z0 (-2147483648) 2147483647 → IV z1 193 196 → (Pb τ) → (z1.toInt = 193 + (gV σ 23 0 188).toInt ∧ (gV σ 23 0 188).toInt ≤ 3) → ((gV τ 22 0 11).toInt ≤ (gV τ 22 0 6).toInt) → ((gV τ 23 0 188).toInt = (gV σ 23 0 188).toInt) → MW p l e { frames := 3, cells := 0, slots := 0, locals := 69 } s m args below meth c (MQ below (QP G (PV fun τ => Inv τ ∧ Fr MS_X12_takeStone AS_X12_takeStone σ τ ∧ ((gV τ 22 0 11).toInt ≤ (gV τ 22 0 6).toInt) ∧ Pb τ ∧ (((gV τ 22 0 16).toInt ≠ 0 ∧ (gV τ 23 0 188).toInt = (gV σ 23 0 188).toInt) ∨ (gV τ 23 0 188).toInt = (gV σ 23 0 188).toInt + 1))) args s 0 0 (aG G)) 2 G 0 0 69 [some (.ref (G.1 22 0)), none] [.int z0, .int z1, .ref (G.1 23 0)] τ := by
    intro τ z0 z1 iτ fτ b_z0 b_z1 v_Pb n1 n2 n3
    have u4 : IV (gV τ 23 0 188) 0 4 := iτ.1 23 0 188
    have u5 : IV (gV τ 22 0 11) 0 400 := iτ.1 22 0 11
    have u6 : IV (gV τ 22 0 6) 0 400 := iτ.1 22 0 6
    have b7 : IV (gV τ 23 0 188) 0 3 := ⟨by omega, by omega⟩
    refine as_23 C b_z1 (by decide) rfl dX12_takeStone_69 ?_
    refine m_tops (fun τ8 eτ8 => ?_)
    have i9 : Inv τ8 := eτ8 ▸ Inv.putRo iτ (by omega)
    have f10 : Fr MS_X12_takeStone AS_X12_takeStone σ τ8 := eτ8 ▸ Fr.put (fτ) (Or.inr (by decide))
    have v11 : Pb τ8 := v_Pb.put eτ8 (Or.inr (by omega))
    refine m_aload_n C dX12_takeStone_70 rfl rfl ?_
    refine g_22_0 C q4_116 dX12_takeStone_71 ?_
    refine m_sipush (v := 188) C dX12_takeStone_74 (by decide) ?_
    refine m_dup2 C dX12_takeStone_77 rfl rfl ?_
    refine al_23 C kc_188 (by decide) kn_188 dX12_takeStone_78 ?_
    refine m_eqs (w := (gV τ 23 0 188)) (show gV τ8 23 0 188 = (gV τ 23 0 188) from (gV_putn eτ8 (Or.inr (Or.inr (by omega)))).trans rfl) ?_
    refine m_iconst (v := 1) C dX12_takeStone_79 (by decide) ?_
    refine m_iadd C dX12_takeStone_80 ?_
    refine m_topi (fun x12 ex12 => ?_)
    have tx12 : x12.toInt = (gV τ 23 0 188).toInt + 1 := by rw [ex12, ti_addv b7 kc_1 (by decide), kt_1]
    have b13 : IV x12 1 4 := by rw [ex12]; exact iv_add b7 kc_1 (by decide)
    refine as_23 C kc_188 (by decide) kn_188 dX12_takeStone_81 ?_
    refine m_tops (fun τ14 eτ14 => ?_)
    have i15 : Inv τ14 := eτ14 ▸ Inv.putR i9 (by decide) (iv_wk b13 (by decide))
    have f16 : Fr MS_X12_takeStone AS_X12_takeStone σ τ14 := eτ14 ▸ Fr.put (f10) (Or.inr (by decide))
    have v17 : Pb τ14 := v11.put eτ14 (Or.inr (by omega))
    refine m_aload_n C dX12_takeStone_82 rfl rfl ?_
    have q18 : (gV τ14 22 0 16).toInt = (gV τ 22 0 16).toInt := congrArg Int32.toInt (show (gV τ14 22 0 16) = (gV τ 22 0 16) from (show gV τ14 22 0 16 = (gV τ 22 0 16) from gV_put eτ14 (show gV τ8 22 0 16 = (gV τ 22 0 16) from gV_put eτ8 rfl)))
    have q19 : (gV τ14 22 0 11).toInt = (gV τ 22 0 11).toInt := congrArg Int32.toInt (show (gV τ14 22 0 11) = (gV τ 22 0 11) from (show gV τ14 22 0 11 = (gV τ 22 0 11) from gV_put eτ14 (show gV τ8 22 0 11 = (gV τ 22 0 11) from gV_put eτ8 rfl)))
    have q20 : (gV τ14 22 0 6).toInt = (gV τ 22 0 6).toInt := congrArg Int32.toInt (show (gV τ14 22 0 6) = (gV τ 22 0 6) from (show gV τ14 22 0 6 = (gV τ 22 0 6) from gV_put eτ14 (show gV τ8 22 0 6 = (gV τ 22 0 6) from gV_put eτ8 rfl)))
    have q21 : (gV τ14 23 0 188).toInt = x12.toInt := congrArg Int32.toInt (show (gV τ14 23 0 188) = x12 from (show gV τ14 23 0 188 = x12 from gV_put eτ14 (gV_self _ _ _ _ _)))
    refine m_callV (n := 0) (ci := 11) (st := []) C (c_X12_takeSign l G τ14  i15 (by omega)) (by decide) (by decide) rfl rfl rfl q5_15 q5_12 q5_14 q0_32 q1_7 (by decide +kernel) rfl (by decide) (by decide) rfl (Nat.le_of_ble_eq_true rfl) dX12_takeStone_83 ?_
    rintro _ τ22 ⟨rfl, i23, f24, h28⟩
    have g27 : Fr MS_X12_takeStone AS_X12_takeStone σ τ22 := Fr.call (f16) f24 (by decide)
    have v29 : Pb τ22 := v17.call (fun k => f24.1 23 0 k (by simp) (by decide))
    have u30 : IV (gV τ22 22 0 11) 0 400 := i23.1 22 0 11
    have q31 : (gV τ22 22 0 6).toInt = (gV τ 22 0 6).toInt := congrArg Int32.toInt (show (gV τ22 22 0 6) = (gV τ 22 0 6) from (show gV τ22 22 0 6 = (gV τ 22 0 6) from (f24.1 22 0 (6) (by decide) (by decide)).trans (show gV τ14 22 0 6 = (gV τ 22 0 6) from gV_put eτ14 (show gV τ8 22 0 6 = (gV τ 22 0 6) from gV_put eτ8 rfl))))
    have q32 : (gV τ22 23 0 188).toInt = x12.toInt := congrArg Int32.toInt (show (gV τ22 23 0 188) = x12 from (show gV τ22 23 0 188 = x12 from (f24.1 23 0 (188) (by decide) (by decide)).trans (show gV τ14 23 0 188 = x12 from gV_put eτ14 (gV_self _ _ _ _ _))))
    show MW p l e _ s m args below meth c _ 2 G 0 0 86 [some (.ref (G.1 22 0)), none] [] τ22
    exact m_vret C hr hlk (by decide) (by decide) dX12_takeStone_86 ⟨rfl, i23, g27, ⟨by omega, v29, by omega⟩⟩
  have u33 : IV (gV σ 23 0 188) 0 4 := hI.1 23 0 188
  have u34 : IV (gV σ 22 0 11) 0 400 := hI.1 22 0 11
  have u35 : IV (gV σ 22 0 6) 0 400 := hI.1 22 0 6
  refine m_aload_n C dX12_takeStone_0 rfl rfl ?_
  refine g_22_0 C q4_116 dX12_takeStone_1 ?_
  refine m_sipush (v := 188) C dX12_takeStone_4 (by decide) ?_
  refine al_23 C kc_188 (by decide) kn_188 dX12_takeStone_7 ?_
  refine m_eqs (w := (gV σ 23 0 188)) rfl ?_
  refine m_istore_n (L1 := [some (.ref (G.1 22 0)), some (.int (gV σ 23 0 188))]) C dX12_takeStone_8 rfl (by decide) rfl rfl ?_
  refine m_iload_n C dX12_takeStone_9 rfl rfl ?_
  refine m_iconst (v := 4) C dX12_takeStone_10 (by decide) ?_
  refine m_icmp_ne (tgt := 20) C dX12_takeStone_11 (by decide) (fun c36 => ?_) (fun c36 => ?_)
  · have f37 : (gV σ 23 0 188).toInt ≠ 4 := by
      have q : _ := c36
      simp only [ti_nle, ti_nlt, ti_le, ti_lt, ti_eq, ti_ne, Classical.not_not, kt_4] at q
      omega
    have b38 : IV (gV σ 23 0 188) 0 3 := ⟨by have q1 := u33; have q2 := kc_4; omega, by have q1 := u33; have q2 := kc_4; omega⟩
    refine m_aload_n C dX12_takeStone_20 rfl rfl ?_
    refine m_callV (n := 0) (ci := 11) (st := []) C (c_X12_next l G σ  hI (by omega)) (by decide) (by decide) rfl rfl rfl q4_231 q4_228 q4_230 q0_28 q1_7 (by decide +kernel) rfl (by decide) (by decide) rfl (Nat.le_of_ble_eq_true rfl) dX12_takeStone_21 ?_
    rintro _ τ39 ⟨rfl, i40, f41, h45⟩
    have g44 : Fr MS_X12_takeStone AS_X12_takeStone σ τ39 := Fr.call (Fr.rf) f41 (by decide)
    have v46 : Pb τ39 := hPb.call (fun k => f41.1 23 0 k (by simp) (by decide))
    have u47 : IV (gV τ39 22 0 11) 0 400 := i40.1 22 0 11
    have q48 : (gV τ39 23 0 188).toInt = (gV σ 23 0 188).toInt := congrArg Int32.toInt (show (gV τ39 23 0 188) = (gV σ 23 0 188) from (show gV τ39 23 0 188 = (gV σ 23 0 188) from (f41.1 23 0 (188) (by decide) (by decide)).trans rfl))
    have q49 : (gV τ39 22 0 16).toInt = (gV σ 22 0 16).toInt := congrArg Int32.toInt (show (gV τ39 22 0 16) = (gV σ 22 0 16) from (show gV τ39 22 0 16 = (gV σ 22 0 16) from (f41.1 22 0 (16) (by decide) (by decide)).trans rfl))
    have q50 : (gV τ39 22 0 6).toInt = (gV σ 22 0 6).toInt := congrArg Int32.toInt (show (gV τ39 22 0 6) = (gV σ 22 0 6) from (show gV τ39 22 0 6 = (gV σ 22 0 6) from (f41.1 22 0 (6) (by decide) (by decide)).trans rfl))
    show MW p l e _ s m args below meth c _ 2 G 0 0 24 [some (.ref (G.1 22 0)), some (.int (gV σ 23 0 188))] [] τ39
    refine m_aload_n C dX12_takeStone_24 rfl rfl ?_
    refine g_22_0 C q4_116 dX12_takeStone_25 ?_
    refine m_sipush (v := 189) C dX12_takeStone_28 (by decide) ?_
    refine m_iload_n C dX12_takeStone_31 rfl rfl ?_
    refine m_iadd C dX12_takeStone_32 ?_
    refine m_topi (fun x51 ex51 => ?_)
    have tx51 : x51.toInt = 189 + (gV σ 23 0 188).toInt := by rw [ex51, ti_addv kc_189 b38 (by decide), kt_189]
    have b52 : IV x51 189 192 := by rw [ex51]; exact iv_add kc_189 b38 (by decide)
    refine m_aload_n C dX12_takeStone_33 rfl rfl ?_
    refine m_iconst (v := 1) C dX12_takeStone_34 (by decide) ?_
    refine m_bipush (v := 20) C dX12_takeStone_35 (by decide) ?_
    refine m_iconst (v := 1) C dX12_takeStone_37 (by decide) ?_
    have q53 := kt_1
    have q54 := kt_20
    have q55 := kt_1
    refine m_callV (n := 3) (ci := 11) (st := [.int x51, .ref (G.1 23 0)]) C (c_X12_takeNumber l G τ39 (1) (20) (1) i40 (by omega)) (by decide) (by decide) rfl rfl rfl q5_7 q5_4 q5_6 q0_30 q1_7 (by decide +kernel) rfl (by decide) (by decide) rfl (Nat.le_of_ble_eq_true rfl) dX12_takeStone_38 ?_
    rintro _ τ56 ⟨x59, rfl, i57, f58, b60, h62⟩
    have g61 : Fr MS_X12_takeStone AS_X12_takeStone σ τ56 := Fr.call (g44) f58 (by decide)
    have v63 : Pb τ56 := v46.call (fun k => f58.1 23 0 k (by simp) (by decide))
    have u64 : IV (gV τ56 22 0 11) 0 400 := i57.1 22 0 11
    have q65 : (gV τ56 23 0 188).toInt = (gV σ 23 0 188).toInt := congrArg Int32.toInt (show (gV τ56 23 0 188) = (gV σ 23 0 188) from (show gV τ56 23 0 188 = (gV σ 23 0 188) from (f58.1 23 0 (188) (by decide) (by decide)).trans (show gV τ39 23 0 188 = (gV σ 23 0 188) from (f41.1 23 0 (188) (by decide) (by decide)).trans rfl)))
    have q66 : (gV τ56 22 0 6).toInt = (gV σ 22 0 6).toInt := congrArg Int32.toInt (show (gV τ56 22 0 6) = (gV σ 22 0 6) from (show gV τ56 22 0 6 = (gV σ 22 0 6) from (f58.1 22 0 (6) (by decide) (by decide)).trans (show gV τ39 22 0 6 = (gV σ 22 0 6) from (f41.1 22 0 (6) (by decide) (by decide)).trans rfl)))
    have q67 := kt_1
    have q68 := kt_20
    have q69 := kt_1
    show MW p l e _ s m args below meth c _ 2 G 0 0 41 [some (.ref (G.1 22 0)), some (.int (gV σ 23 0 188))] [.int x59, .int x51, .ref (G.1 23 0)] τ56
    refine as_23 C b52 (by decide) rfl dX12_takeStone_41 ?_
    refine m_tops (fun τ70 eτ70 => ?_)
    have i71 : Inv τ70 := eτ70 ▸ Inv.putRo i57 (by omega)
    have f72 : Fr MS_X12_takeStone AS_X12_takeStone σ τ70 := eτ70 ▸ Fr.put (g61) (Or.inr (by decide))
    have v73 : Pb τ70 := v63.put eτ70 (Or.inr (by omega))
    refine m_aload_n C dX12_takeStone_42 rfl rfl ?_
    refine g_22_0 C q4_116 dX12_takeStone_43 ?_
    refine m_sipush (v := 193) C dX12_takeStone_46 (by decide) ?_
    refine m_iload_n C dX12_takeStone_49 rfl rfl ?_
    refine m_iadd C dX12_takeStone_50 ?_
    refine m_topi (fun x74 ex74 => ?_)
    have tx74 : x74.toInt = 193 + (gV σ 23 0 188).toInt := by rw [ex74, ti_addv kc_193 b38 (by decide), kt_193]
    have b75 : IV x74 193 196 := by rw [ex74]; exact iv_add kc_193 b38 (by decide)
    refine m_aload_n C dX12_takeStone_51 rfl rfl ?_
    refine g_22_16 C q4_132 dX12_takeStone_52 ?_
    refine m_eqs (w := (gV τ56 22 0 16)) (show gV τ70 22 0 16 = (gV τ56 22 0 16) from gV_put eτ70 rfl) ?_
    refine m_if_ne (tgt := 68) C dX12_takeStone_55 (by decide) (fun c76 => ?_) (fun c76 => ?_)
    · have f77 : (gV τ56 22 0 16).toInt ≠ 0 := by
        have q : _ := c76
        simp only [ti_nle, ti_nlt, ti_le, ti_lt, ti_eq, ti_ne, Classical.not_not, kt_0] at q
        omega
      refine m_iconst (v := 0) C dX12_takeStone_68 (by decide) ?_
      refine m_sub (L1 := [some (.ref (G.1 22 0)), none]) ⟨rfl, trivial⟩ ?_
      have q78 : (gV τ70 23 0 188).toInt = (gV σ 23 0 188).toInt := congrArg Int32.toInt (show (gV τ70 23 0 188) = (gV σ 23 0 188) from (show gV τ70 23 0 188 = (gV σ 23 0 188) from (gV_putn eτ70 (Or.inr (Or.inr (by omega)))).trans (show gV τ56 23 0 188 = (gV σ 23 0 188) from (f58.1 23 0 (188) (by decide) (by decide)).trans (show gV τ39 23 0 188 = (gV σ 23 0 188) from (f41.1 23 0 (188) (by decide) (by decide)).trans rfl))))
      have q79 : (gV τ70 22 0 6).toInt = (gV σ 22 0 6).toInt := congrArg Int32.toInt (show (gV τ70 22 0 6) = (gV σ 22 0 6) from (show gV τ70 22 0 6 = (gV σ 22 0 6) from gV_put eτ70 (show gV τ56 22 0 6 = (gV σ 22 0 6) from (f58.1 22 0 (6) (by decide) (by decide)).trans (show gV τ39 22 0 6 = (gV σ 22 0 6) from (f41.1 22 0 (6) (by decide) (by decide)).trans rfl))))
      have q80 : (gV τ70 22 0 16).toInt = (gV τ56 22 0 16).toInt := congrArg Int32.toInt (show (gV τ70 22 0 16) = (gV τ56 22 0 16) from (show gV τ70 22 0 16 = (gV τ56 22 0 16) from gV_put eτ70 rfl))
      have q81 : (gV τ70 22 0 11).toInt = (gV τ56 22 0 11).toInt := congrArg Int32.toInt (show (gV τ70 22 0 11) = (gV τ56 22 0 11) from (show gV τ70 22 0 11 = (gV τ56 22 0 11) from gV_put eτ70 rfl))
      exact J69 τ70 0 x74 i71 f72 (iv_wk kc_0 (by decide)) b75 v73 (by omega) (by omega) (by omega)
    · have f82 : (gV τ56 22 0 16).toInt = 0 := by
        have q : _ := c76
        simp only [ti_nle, ti_nlt, ti_le, ti_lt, ti_eq, ti_ne, Classical.not_not, kt_0] at q
        omega
      have b83 : IV (gV τ56 22 0 16) 0 0 := ⟨by have q1 := (iv_any (gV τ56 22 0 16)); have q2 := kc_0; omega, by have q1 := (iv_any (gV τ56 22 0 16)); have q2 := kc_0; omega⟩
      refine m_aload_n C dX12_takeStone_58 rfl rfl ?_
      refine m_iconst (v := 0) C dX12_takeStone_59 (by decide) ?_
      refine m_iconst (v := 3) C dX12_takeStone_60 (by decide) ?_
      refine m_iconst (v := 0) C dX12_takeStone_61 (by decide) ?_
      have q84 : (gV τ70 23 0 188).toInt = (gV σ 23 0 188).toInt := congrArg Int32.toInt (show (gV τ70 23 0 188) = (gV σ 23 0 188) from (show gV τ70 23 0 188 = (gV σ 23 0 188) from (gV_putn eτ70 (Or.inr (Or.inr (by omega)))).trans (show gV τ56 23 0 188 = (gV σ 23 0 188) from (f58.1 23 0 (188) (by decide) (by decide)).trans (show gV τ39 23 0 188 = (gV σ 23 0 188) from (f41.1 23 0 (188) (by decide) (by decide)).trans rfl))))
      have q85 : (gV τ70 22 0 6).toInt = (gV σ 22 0 6).toInt := congrArg Int32.toInt (show (gV τ70 22 0 6) = (gV σ 22 0 6) from (show gV τ70 22 0 6 = (gV σ 22 0 6) from gV_put eτ70 (show gV τ56 22 0 6 = (gV σ 22 0 6) from (f58.1 22 0 (6) (by decide) (by decide)).trans (show gV τ39 22 0 6 = (gV σ 22 0 6) from (f41.1 22 0 (6) (by decide) (by decide)).trans rfl))))
      have q86 : (gV τ70 22 0 16).toInt = (gV τ56 22 0 16).toInt := congrArg Int32.toInt (show (gV τ70 22 0 16) = (gV τ56 22 0 16) from (show gV τ70 22 0 16 = (gV τ56 22 0 16) from gV_put eτ70 rfl))
      have q87 : (gV τ70 22 0 11).toInt = (gV τ56 22 0 11).toInt := congrArg Int32.toInt (show (gV τ70 22 0 11) = (gV τ56 22 0 11) from (show gV τ70 22 0 11 = (gV τ56 22 0 11) from gV_put eτ70 rfl))
      have q88 := kt_0
      have q89 := kt_3
      have q90 := kt_0
      refine m_callV (n := 3) (ci := 11) (st := [.int x74, .ref (G.1 23 0)]) C (c_X12_takeNumber l G τ70 (0) (3) (0) i71 (by omega)) (by decide) (by decide) rfl rfl rfl q5_7 q5_4 q5_6 q0_30 q1_7 (by decide +kernel) rfl (by decide) (by decide) rfl (Nat.le_of_ble_eq_true rfl) dX12_takeStone_62 ?_
      rintro _ τ91 ⟨x94, rfl, i92, f93, b95, h97⟩
      have g96 : Fr MS_X12_takeStone AS_X12_takeStone σ τ91 := Fr.call (f72) f93 (by decide)
      have v98 : Pb τ91 := v73.call (fun k => f93.1 23 0 k (by simp) (by decide))
      have u99 : IV (gV τ91 22 0 11) 0 400 := i92.1 22 0 11
      have q100 : (gV τ91 23 0 188).toInt = (gV σ 23 0 188).toInt := congrArg Int32.toInt (show (gV τ91 23 0 188) = (gV σ 23 0 188) from (show gV τ91 23 0 188 = (gV σ 23 0 188) from (f93.1 23 0 (188) (by decide) (by decide)).trans (show gV τ70 23 0 188 = (gV σ 23 0 188) from (gV_putn eτ70 (Or.inr (Or.inr (by omega)))).trans (show gV τ56 23 0 188 = (gV σ 23 0 188) from (f58.1 23 0 (188) (by decide) (by decide)).trans (show gV τ39 23 0 188 = (gV σ 23 0 188) from (f41.1 23 0 (188) (by decide) (by decide)).trans rfl)))))
      have q101 : (gV τ91 22 0 6).toInt = (gV σ 22 0 6).toInt := congrArg Int32.toInt (show (gV τ91 22 0 6) = (gV σ 22 0 6) from (show gV τ91 22 0 6 = (gV σ 22 0 6) from (f93.1 22 0 (6) (by decide) (by decide)).trans (show gV τ70 22 0 6 = (gV σ 22 0 6) from gV_put eτ70 (show gV τ56 22 0 6 = (gV σ 22 0 6) from (f58.1 22 0 (6) (by decide) (by decide)).trans (show gV τ39 22 0 6 = (gV σ 22 0 6) from (f41.1 22 0 (6) (by decide) (by decide)).trans rfl)))))
      have q102 := kt_0
      have q103 := kt_3
      have q104 := kt_0
      show MW p l e _ s m args below meth c _ 2 G 0 0 65 [some (.ref (G.1 22 0)), some (.int (gV σ 23 0 188))] [.int x94, .int x74, .ref (G.1 23 0)] τ91
      refine m_goto (tgt := 69) C dX12_takeStone_65 (by decide) ?_
      refine m_sub (L1 := [some (.ref (G.1 22 0)), none]) ⟨rfl, trivial⟩ ?_
      exact J69 τ91 x94 x74 i92 g96 b95 b75 v98 (by omega) (by omega) (by omega)
  · have f105 : (gV σ 23 0 188).toInt = 4 := by
      have q : _ := c36
      simp only [ti_nle, ti_nlt, ti_le, ti_lt, ti_eq, ti_ne, Classical.not_not, kt_4] at q
      omega
    have b106 : IV (gV σ 23 0 188) 4 4 := ⟨by have q1 := u33; have q2 := kc_4; omega, by have q1 := u33; have q2 := kc_4; omega⟩
    refine m_aload_n C dX12_takeStone_14 rfl rfl ?_
    refine m_iconst (v := 3) C dX12_takeStone_15 (by decide) ?_
    refine p_22_16 C q4_132 dX12_takeStone_16 ?_
    refine m_tops (fun τ107 eτ107 => ?_)
    have i108 : Inv τ107 := eτ107 ▸ Inv.putF hI (by decide) rfl
    have f109 : Fr MS_X12_takeStone AS_X12_takeStone σ τ107 := eτ107 ▸ Fr.put (Fr.rf) (Or.inl (by decide))
    have v110 : Pb τ107 := hPb.put eτ107 (Or.inl (by decide))
    have q111 : (gV τ107 23 0 188).toInt = (gV σ 23 0 188).toInt := congrArg Int32.toInt (show (gV τ107 23 0 188) = (gV σ 23 0 188) from (show gV τ107 23 0 188 = (gV σ 23 0 188) from gV_put eτ107 rfl))
    have q112 : (gV τ107 22 0 11).toInt = (gV σ 22 0 11).toInt := congrArg Int32.toInt (show (gV τ107 22 0 11) = (gV σ 22 0 11) from (show gV τ107 22 0 11 = (gV σ 22 0 11) from gV_put eτ107 rfl))
    have q113 : (gV τ107 22 0 6).toInt = (gV σ 22 0 6).toInt := congrArg Int32.toInt (show (gV τ107 22 0 6) = (gV σ 22 0 6) from (show gV τ107 22 0 6 = (gV σ 22 0 6) from gV_put eτ107 rfl))
    have q114 : (gV τ107 22 0 16).toInt = 3 := (congrArg Int32.toInt (show (gV τ107 22 0 16) = 3 from (show gV τ107 22 0 16 = 3 from gV_put eτ107 (gV_self _ _ _ _ _)))).trans kt_3
    exact m_vret C hr hlk (by decide) (by decide) dX12_takeStone_19 ⟨rfl, i108, f109, ⟨by omega, v110, by omega⟩⟩

abbrev MS_X12_tower : List (Nat × Nat) := [(22, 6), (22, 7), (22, 9), (22, 11), (22, 12), (22, 13), (22, 15), (22, 16)]
abbrev AS_X12_tower : List Nat := [23]
set_option maxHeartbeats 4000000 in
set_option maxRecDepth 100000 in
theorem c_X12_tower (l : Launch) (G : Gt) (σ : Sg) (hI : Inv σ) : Mc l G yX12_tower cX12_tower 2 (some .int) 4 92 0 0 [.ref (G.1 22 0)] σ (PI fun r τ => Inv τ ∧ Fr MS_X12_tower AS_X12_tower σ τ ∧ IV r (-2147483648) 2147483647) := by
  refine Mc.of (L0 := [some (.ref (G.1 22 0)), none]) (by decide) (Nat.le_of_ble_eq_true rfl) rfl ?_
  intro p e s m args below meth c C hr hlk
  have C : Cx p s m args c cX12_tower 2 "LeanTowerModel" := C
  have k0 : (0 : Int32).toInt = 0 := by decide
  have k1 : (1 : Int32).toInt = 1 := by decide
  have J131 : ∀ (τ : Sg) (z0 : Int32), Inv τ → Fr MS_X12_tower AS_X12_tower σ τ → IV z0 (-2147483648) 2147483647 → (PF τ) → ((z0.toInt = 0 → (gV τ 22 0 16).toInt = 0)) → MW p l e { frames := 4, cells := 0, slots := 0, locals := 92 } s m args below meth c (MQ below (QP G (PI fun r τ => Inv τ ∧ Fr MS_X12_tower AS_X12_tower σ τ ∧ IV r (-2147483648) 2147483647)) args s 0 0 (aG G)) 2 G 0 0 131 [some (.ref (G.1 22 0)), none] [.int z0, .ref (G.1 22 0)] τ := by
    intro τ z0 iτ fτ b_z0 v_PF n1
    have u2 : IV (gV τ 23 0 152) 0 7 := iτ.1 23 0 152
    have u3 : IV (gV τ 22 0 11) 0 400 := iτ.1 22 0 11
    have u4 : IV (gV τ 22 0 6) 0 400 := iτ.1 22 0 6
    have u5 : IV (gV τ 23 0 188) 0 4 := iτ.1 23 0 188
    refine p_22_16 C q4_132 dX12_tower_131 ?_
    refine m_tops (fun τ6 eτ6 => ?_)
    have i7 : Inv τ6 := eτ6 ▸ Inv.putF iτ (by decide) rfl
    have f8 : Fr MS_X12_tower AS_X12_tower σ τ6 := eτ6 ▸ Fr.put (fτ) (Or.inl (by decide))
    have v9 : PF τ6 := v_PF.fault eτ6 (by omega)
    refine m_aload_n C dX12_tower_134 rfl rfl ?_
    refine m_iconst (v := 0) C dX12_tower_135 (by decide) ?_
    refine p_22_6 C q4_122 dX12_tower_136 ?_
    refine m_tops (fun τ10 eτ10 => ?_)
    have i11 : Inv τ10 := eτ10 ▸ Inv.put i7 (by decide) (iv_wk kc_0 (by decide))
    have f12 : Fr MS_X12_tower AS_X12_tower σ τ10 := eτ10 ▸ Fr.put (f8) (Or.inl (by decide))
    have v13 : PF τ10 := v9.put eτ10 (Or.inr (by decide)) (Or.inl (by decide))
    refine m_aload_n C dX12_tower_139 rfl rfl ?_
    refine g_22_16 C q4_132 dX12_tower_140 ?_
    refine m_eqs (w := z0) (show gV τ10 22 0 16 = z0 from gV_put eτ10 (show gV τ6 22 0 16 = z0 from gV_put eτ6 (gV_self _ _ _ _ _))) ?_
    refine m_if_eq (tgt := 162) C dX12_tower_143 (by decide) (fun c14 => ?_) (fun c14 => ?_)
    · have f15 : z0.toInt = 0 := by
        have q : _ := c14
        simp only [ti_nle, ti_nlt, ti_le, ti_lt, ti_eq, ti_ne, Classical.not_not, kt_0] at q
        omega
      have b16 : IV z0 0 0 := ⟨by have q1 := b_z0; have q2 := kc_0; omega, by have q1 := b_z0; have q2 := kc_0; omega⟩
      refine m_aload_n C dX12_tower_162 rfl rfl ?_
      refine m_sipush (v := 150) C dX12_tower_163 (by decide) ?_
      refine m_iconst (v := 0) C dX12_tower_166 (by decide) ?_
      have q17 : (gV τ10 23 0 152).toInt = (gV τ 23 0 152).toInt := congrArg Int32.toInt (show (gV τ10 23 0 152) = (gV τ 23 0 152) from (show gV τ10 23 0 152 = (gV τ 23 0 152) from gV_put eτ10 (show gV τ6 23 0 152 = (gV τ 23 0 152) from gV_put eτ6 rfl)))
      have q18 : (gV τ10 22 0 11).toInt = (gV τ 22 0 11).toInt := congrArg Int32.toInt (show (gV τ10 22 0 11) = (gV τ 22 0 11) from (show gV τ10 22 0 11 = (gV τ 22 0 11) from gV_put eτ10 (show gV τ6 22 0 11 = (gV τ 22 0 11) from gV_put eτ6 rfl)))
      have q19 : (gV τ10 23 0 188).toInt = (gV τ 23 0 188).toInt := congrArg Int32.toInt (show (gV τ10 23 0 188) = (gV τ 23 0 188) from (show gV τ10 23 0 188 = (gV τ 23 0 188) from gV_put eτ10 (show gV τ6 23 0 188 = (gV τ 23 0 188) from gV_put eτ6 rfl)))
      have q20 : (gV τ10 22 0 16).toInt = z0.toInt := congrArg Int32.toInt (show (gV τ10 22 0 16) = z0 from (show gV τ10 22 0 16 = z0 from gV_put eτ10 (show gV τ6 22 0 16 = z0 from gV_put eτ6 (gV_self _ _ _ _ _))))
      have q21 : (gV τ10 22 0 6).toInt = 0 := (congrArg Int32.toInt (show (gV τ10 22 0 6) = 0 from (show gV τ10 22 0 6 = 0 from gV_put eτ10 (gV_self _ _ _ _ _)))).trans kt_0
      have q22 := kt_150
      have q23 := kt_0
      refine m_callV (n := 2) (ci := 11) (st := []) C (c_X12_copyAll l G τ10 (150) (0) i11 (iv_wk kc_150 (by decide)) (iv_wk kc_0 (by decide)) (by omega) (by omega) (by omega) (Or.inr (v13 (by omega)))) (by decide) (by decide) rfl rfl rfl q5_38 q5_35 q5_37 q0_35 q1_7 (by decide +kernel) rfl (by decide) (by decide) rfl (Nat.le_of_ble_eq_true rfl) dX12_tower_167 ?_
      rintro _ τ24 ⟨rfl, i25, f26, h30⟩
      have g29 : Fr MS_X12_tower AS_X12_tower σ τ24 := Fr.call (f12) f26 (by decide)
      have u32 : IV (gV τ24 23 0 152) 0 7 := i25.1 23 0 152
      have u33 : IV (gV τ24 23 0 188) 0 4 := i25.1 23 0 188
      have q34 : (gV τ24 22 0 11).toInt = (gV τ 22 0 11).toInt := congrArg Int32.toInt (show (gV τ24 22 0 11) = (gV τ 22 0 11) from (show gV τ24 22 0 11 = (gV τ 22 0 11) from (f26.1 22 0 (11) (by decide) (by decide)).trans (show gV τ10 22 0 11 = (gV τ 22 0 11) from gV_put eτ10 (show gV τ6 22 0 11 = (gV τ 22 0 11) from gV_put eτ6 rfl))))
      have q35 : (gV τ24 22 0 16).toInt = z0.toInt := congrArg Int32.toInt (show (gV τ24 22 0 16) = z0 from (show gV τ24 22 0 16 = z0 from (f26.1 22 0 (16) (by decide) (by decide)).trans (show gV τ10 22 0 16 = z0 from gV_put eτ10 (show gV τ6 22 0 16 = z0 from gV_put eτ6 (gV_self _ _ _ _ _)))))
      have q36 : (gV τ24 22 0 6).toInt = 0 := (congrArg Int32.toInt (show (gV τ24 22 0 6) = 0 from (show gV τ24 22 0 6 = 0 from (f26.1 22 0 (6) (by decide) (by decide)).trans (show gV τ10 22 0 6 = 0 from gV_put eτ10 (gV_self _ _ _ _ _))))).trans kt_0
      show MW p l e _ s m args below meth c _ 2 G 0 0 170 [some (.ref (G.1 22 0)), none] [] τ24
      refine m_aload_n C dX12_tower_170 rfl rfl ?_
      refine m_iconst (v := 0) C dX12_tower_171 (by decide) ?_
      refine p_22_9 C q4_125 dX12_tower_172 ?_
      refine m_tops (fun τ37 eτ37 => ?_)
      have i38 : Inv τ37 := eτ37 ▸ Inv.put i25 (by decide) (iv_wk kc_0 (by decide))
      have f39 : Fr MS_X12_tower AS_X12_tower σ τ37 := eτ37 ▸ Fr.put (g29) (Or.inl (by decide))
      refine m_aload_n C dX12_tower_175 rfl rfl ?_
      refine g_22_0 C q4_116 dX12_tower_176 ?_
      refine m_iconst (v := 2) C dX12_tower_179 (by decide) ?_
      refine al_23 C kc_2 (by decide) kn_2 dX12_tower_180 ?_
      refine m_topi (fun x40 ex40 => ?_)
      have b41 : IV x40 0 7 := by rw [ex40]; exact i38.1 23 0 2
      have q42 : (gV τ37 22 0 11).toInt = (gV τ 22 0 11).toInt := congrArg Int32.toInt (show (gV τ37 22 0 11) = (gV τ 22 0 11) from (show gV τ37 22 0 11 = (gV τ 22 0 11) from gV_put eτ37 (show gV τ24 22 0 11 = (gV τ 22 0 11) from (f26.1 22 0 (11) (by decide) (by decide)).trans (show gV τ10 22 0 11 = (gV τ 22 0 11) from gV_put eτ10 (show gV τ6 22 0 11 = (gV τ 22 0 11) from gV_put eτ6 rfl)))))
      have q43 : (gV τ37 22 0 16).toInt = z0.toInt := congrArg Int32.toInt (show (gV τ37 22 0 16) = z0 from (show gV τ37 22 0 16 = z0 from gV_put eτ37 (show gV τ24 22 0 16 = z0 from (f26.1 22 0 (16) (by decide) (by decide)).trans (show gV τ10 22 0 16 = z0 from gV_put eτ10 (show gV τ6 22 0 16 = z0 from gV_put eτ6 (gV_self _ _ _ _ _))))))
      have q44 : (gV τ37 22 0 6).toInt = 0 := (congrArg Int32.toInt (show (gV τ37 22 0 6) = 0 from (show gV τ37 22 0 6 = 0 from gV_put eτ37 (show gV τ24 22 0 6 = 0 from (f26.1 22 0 (6) (by decide) (by decide)).trans (show gV τ10 22 0 6 = 0 from gV_put eτ10 (gV_self _ _ _ _ _)))))).trans kt_0
      have q45 : (gV τ37 23 0 152).toInt = (gV τ24 23 0 152).toInt := congrArg Int32.toInt (show (gV τ37 23 0 152) = (gV τ24 23 0 152) from (show gV τ37 23 0 152 = (gV τ24 23 0 152) from gV_put eτ37 rfl))
      have q46 : (gV τ37 23 0 188).toInt = (gV τ24 23 0 188).toInt := congrArg Int32.toInt (show (gV τ37 23 0 188) = (gV τ24 23 0 188) from (show gV τ37 23 0 188 = (gV τ24 23 0 188) from gV_put eτ37 rfl))
      exact m_iret C hr hlk (by decide) (by decide) dX12_tower_181 ⟨_, rfl, i38, f39, (iv_wk b41 (by decide))⟩
    · have f47 : z0.toInt ≠ 0 := by
        have q : _ := c14
        simp only [ti_nle, ti_nlt, ti_le, ti_lt, ti_eq, ti_ne, Classical.not_not, kt_0] at q
        omega
      refine m_aload_n C dX12_tower_146 rfl rfl ?_
      refine m_aload_n C dX12_tower_147 rfl rfl ?_
      refine g_22_16 C q4_132 dX12_tower_148 ?_
      refine m_eqs (w := z0) (show gV τ10 22 0 16 = z0 from gV_put eτ10 (show gV τ6 22 0 16 = z0 from gV_put eτ6 (gV_self _ _ _ _ _))) ?_
      refine p_22_7 C q4_123 dX12_tower_151 ?_
      refine m_tops (fun τ48 eτ48 => ?_)
      have i49 : Inv τ48 := eτ48 ▸ Inv.putF i11 (by decide) rfl
      have f50 : Fr MS_X12_tower AS_X12_tower σ τ48 := eτ48 ▸ Fr.put (f12) (Or.inl (by decide))
      have v51 : PF τ48 := v13.put eτ48 (Or.inr (by decide)) (Or.inl (by decide))
      refine m_ldc (v := (-1000100)) C dX12_tower_154 q5_34 ?_
      refine m_aload_n C dX12_tower_156 rfl rfl ?_
      refine g_22_12 C q4_128 dX12_tower_157 ?_
      refine m_topi (fun x52 ex52 => ?_)
      refine m_isub C dX12_tower_160 ?_
      refine m_topi (fun x53 ex53 => ?_)
      have q54 : (gV τ48 23 0 152).toInt = (gV τ 23 0 152).toInt := congrArg Int32.toInt (show (gV τ48 23 0 152) = (gV τ 23 0 152) from (show gV τ48 23 0 152 = (gV τ 23 0 152) from gV_put eτ48 (show gV τ10 23 0 152 = (gV τ 23 0 152) from gV_put eτ10 (show gV τ6 23 0 152 = (gV τ 23 0 152) from gV_put eτ6 rfl))))
      have q55 : (gV τ48 22 0 11).toInt = (gV τ 22 0 11).toInt := congrArg Int32.toInt (show (gV τ48 22 0 11) = (gV τ 22 0 11) from (show gV τ48 22 0 11 = (gV τ 22 0 11) from gV_put eτ48 (show gV τ10 22 0 11 = (gV τ 22 0 11) from gV_put eτ10 (show gV τ6 22 0 11 = (gV τ 22 0 11) from gV_put eτ6 rfl))))
      have q56 : (gV τ48 23 0 188).toInt = (gV τ 23 0 188).toInt := congrArg Int32.toInt (show (gV τ48 23 0 188) = (gV τ 23 0 188) from (show gV τ48 23 0 188 = (gV τ 23 0 188) from gV_put eτ48 (show gV τ10 23 0 188 = (gV τ 23 0 188) from gV_put eτ10 (show gV τ6 23 0 188 = (gV τ 23 0 188) from gV_put eτ6 rfl))))
      have q57 : (gV τ48 22 0 16).toInt = z0.toInt := congrArg Int32.toInt (show (gV τ48 22 0 16) = z0 from (show gV τ48 22 0 16 = z0 from gV_put eτ48 (show gV τ10 22 0 16 = z0 from gV_put eτ10 (show gV τ6 22 0 16 = z0 from gV_put eτ6 (gV_self _ _ _ _ _)))))
      have q58 : (gV τ48 22 0 6).toInt = 0 := (congrArg Int32.toInt (show (gV τ48 22 0 6) = 0 from (show gV τ48 22 0 6 = 0 from gV_put eτ48 (show gV τ10 22 0 6 = 0 from gV_put eτ10 (gV_self _ _ _ _ _))))).trans kt_0
      exact m_iret C hr hlk (by decide) (by decide) dX12_tower_161 ⟨_, rfl, i49, f50, (iv_any x53)⟩
  have J107 : ∀ (τ : Sg), Inv τ → Fr MS_X12_tower AS_X12_tower σ τ → (PF τ) → MW p l e { frames := 4, cells := 0, slots := 0, locals := 92 } s m args below meth c (MQ below (QP G (PI fun r τ => Inv τ ∧ Fr MS_X12_tower AS_X12_tower σ τ ∧ IV r (-2147483648) 2147483647)) args s 0 0 (aG G)) 2 G 0 0 107 [some (.ref (G.1 22 0)), none] [] τ := by
    intro τ iτ fτ v_PF
    have u59 : IV (gV τ 23 0 152) 0 7 := iτ.1 23 0 152
    have u60 : IV (gV τ 22 0 11) 0 400 := iτ.1 22 0 11
    have u61 : IV (gV τ 22 0 6) 0 400 := iτ.1 22 0 6
    have u62 : IV (gV τ 23 0 188) 0 4 := iτ.1 23 0 188
    refine m_aload_n C dX12_tower_107 rfl rfl ?_
    refine m_aload_n C dX12_tower_108 rfl rfl ?_
    refine g_22_16 C q4_132 dX12_tower_109 ?_
    refine m_eqs (w := (gV τ 22 0 16)) rfl ?_
    refine m_if_ne (tgt := 127) C dX12_tower_112 (by decide) (fun c63 => ?_) (fun c63 => ?_)
    · have f64 : (gV τ 22 0 16).toInt ≠ 0 := by
        have q : _ := c63
        simp only [ti_nle, ti_nlt, ti_le, ti_lt, ti_eq, ti_ne, Classical.not_not, kt_0] at q
        omega
      refine m_aload_n C dX12_tower_127 rfl rfl ?_
      refine g_22_16 C q4_132 dX12_tower_128 ?_
      refine m_eqs (w := (gV τ 22 0 16)) rfl ?_
      exact J131 τ (gV τ 22 0 16) iτ fτ (iv_any (gV τ 22 0 16)) v_PF (by omega)
    · have f65 : (gV τ 22 0 16).toInt = 0 := by
        have q : _ := c63
        simp only [ti_nle, ti_nlt, ti_le, ti_lt, ti_eq, ti_ne, Classical.not_not, kt_0] at q
        omega
      have b66 : IV (gV τ 22 0 16) 0 0 := ⟨by have q1 := (iv_any (gV τ 22 0 16)); have q2 := kc_0; omega, by have q1 := (iv_any (gV τ 22 0 16)); have q2 := kc_0; omega⟩
      refine m_aload_n C dX12_tower_115 rfl rfl ?_
      refine g_22_13 C q4_129 dX12_tower_116 ?_
      refine m_topi (fun x67 ex67 => ?_)
      refine m_iconst (v := 4) C dX12_tower_119 (by decide) ?_
      refine m_icmp_eq (tgt := 127) C dX12_tower_120 (by decide) (fun c68 => ?_) (fun c68 => ?_)
      · have f69 : x67.toInt = 4 := by
          have q : _ := c68
          simp only [ti_nle, ti_nlt, ti_le, ti_lt, ti_eq, ti_ne, Classical.not_not, kt_4] at q
          omega
        have b70 : IV x67 4 4 := ⟨by have q1 := (iv_any x67); have q2 := kc_4; omega, by have q1 := (iv_any x67); have q2 := kc_4; omega⟩
        refine m_aload_n C dX12_tower_127 rfl rfl ?_
        refine g_22_16 C q4_132 dX12_tower_128 ?_
        refine m_eqs (w := (gV τ 22 0 16)) rfl ?_
        exact J131 τ (gV τ 22 0 16) iτ fτ (iv_wk b66 (by decide)) v_PF (by omega)
      · have f71 : x67.toInt ≠ 4 := by
          have q : _ := c68
          simp only [ti_nle, ti_nlt, ti_le, ti_lt, ti_eq, ti_ne, Classical.not_not, kt_4] at q
          omega
        refine m_iconst (v := 1) C dX12_tower_123 (by decide) ?_
        refine m_goto (tgt := 131) C dX12_tower_124 (by decide) ?_
        exact J131 τ 1 iτ fτ (iv_wk kc_1 (by decide)) v_PF (by omega)
  have J75 : ∀ (n : Nat) (τ : Sg), Inv τ → Fr MS_X12_tower AS_X12_tower σ τ → (PF τ) → ((gV τ 22 0 11).toInt ≤ (gV τ 22 0 6).toInt) → (2 * (5 - (gV τ 23 0 188).toInt) + 1 - min 1 (max (gV τ 22 0 16).toInt (-(gV τ 22 0 16).toInt))).toNat < n → MW p l e { frames := 4, cells := 0, slots := 0, locals := 92 } s m args below meth c (MQ below (QP G (PI fun r τ => Inv τ ∧ Fr MS_X12_tower AS_X12_tower σ τ ∧ IV r (-2147483648) 2147483647)) args s 0 0 (aG G)) 2 G 0 0 75 [some (.ref (G.1 22 0)), none] [] τ := by
    intro n
    induction n with
    | zero => intro τ iτ fτ v_PF n72 hm; exact absurd hm (Nat.not_lt_zero _)
    | succ n ih75 =>
      intro τ iτ fτ v_PF n72 hm75
      have u73 : IV (gV τ 23 0 152) 0 7 := iτ.1 23 0 152
      have u74 : IV (gV τ 22 0 11) 0 400 := iτ.1 22 0 11
      have u75 : IV (gV τ 22 0 6) 0 400 := iτ.1 22 0 6
      have u76 : IV (gV τ 23 0 188) 0 4 := iτ.1 23 0 188
      refine m_aload_n C dX12_tower_75 rfl rfl ?_
      refine g_22_16 C q4_132 dX12_tower_76 ?_
      refine m_eqs (w := (gV τ 22 0 16)) rfl ?_
      refine m_if_ne (tgt := 107) C dX12_tower_79 (by decide) (fun c77 => ?_) (fun c77 => ?_)
      · have f78 : (gV τ 22 0 16).toInt ≠ 0 := by
          have q : _ := c77
          simp only [ti_nle, ti_nlt, ti_le, ti_lt, ti_eq, ti_ne, Classical.not_not, kt_0] at q
          omega
        exact J107 τ iτ fτ v_PF
      · have f79 : (gV τ 22 0 16).toInt = 0 := by
          have q : _ := c77
          simp only [ti_nle, ti_nlt, ti_le, ti_lt, ti_eq, ti_ne, Classical.not_not, kt_0] at q
          omega
        have b80 : IV (gV τ 22 0 16) 0 0 := ⟨by have q1 := (iv_any (gV τ 22 0 16)); have q2 := kc_0; omega, by have q1 := (iv_any (gV τ 22 0 16)); have q2 := kc_0; omega⟩
        refine m_aload_n C dX12_tower_82 rfl rfl ?_
        refine g_22_13 C q4_129 dX12_tower_83 ?_
        refine m_topi (fun x81 ex81 => ?_)
        refine m_if_ne (tgt := 107) C dX12_tower_86 (by decide) (fun c82 => ?_) (fun c82 => ?_)
        · have f83 : x81.toInt ≠ 0 := by
            have q : _ := c82
            simp only [ti_nle, ti_nlt, ti_le, ti_lt, ti_eq, ti_ne, Classical.not_not, kt_0] at q
            omega
          exact J107 τ iτ fτ v_PF
        · have f84 : x81.toInt = 0 := by
            have q : _ := c82
            simp only [ti_nle, ti_nlt, ti_le, ti_lt, ti_eq, ti_ne, Classical.not_not, kt_0] at q
            omega
          have b85 : IV x81 0 0 := ⟨by have q1 := (iv_any x81); have q2 := kc_0; omega, by have q1 := (iv_any x81); have q2 := kc_0; omega⟩
          refine m_aload_n C dX12_tower_89 rfl rfl ?_
          refine g_22_14 C q4_130 dX12_tower_90 ?_
          refine m_topl (fun w86 ew86 => ?_)
          refine m_ldc2 (v := 20594117) C dX12_tower_93 q5_29 ?_
          refine m_lcmp C dX12_tower_96 ?_
          refine m_topi (fun x87 ex87 => ?_)
          have b88 : IV x87 (-1) 1 := by rw [ex87]; rcases lgc w86 20594117 with q | q | q <;> omega
          have f89 := lgc w86 20594117
          rw [← ex87] at f89
          have f91 := kl_20594117
          refine m_if_ne (tgt := 107) C dX12_tower_97 (by decide) (fun c92 => ?_) (fun c92 => ?_)
          · have f93 : x87.toInt ≠ 0 := by
              have q : _ := c92
              simp only [ti_nle, ti_nlt, ti_le, ti_lt, ti_eq, ti_ne, Classical.not_not, kt_0] at q
              omega
            exact J107 τ iτ fτ v_PF
          · have f94 : x87.toInt = 0 := by
              have q : _ := c92
              simp only [ti_nle, ti_nlt, ti_le, ti_lt, ti_eq, ti_ne, Classical.not_not, kt_0] at q
              omega
            have b95 : IV x87 0 0 := ⟨by have q1 := b88; have q2 := kc_0; omega, by have q1 := b88; have q2 := kc_0; omega⟩
            refine m_aload_n C dX12_tower_100 rfl rfl ?_
            refine m_callV (n := 0) (ci := 11) (st := []) C (c_X12_takeStone l G τ  iτ (by omega) (by omega) (v_PF (by omega))) (by decide) (by decide) rfl rfl rfl q5_33 q5_30 q5_32 q0_34 q1_7 (by decide +kernel) rfl (by decide) (by decide) rfl (Nat.le_of_ble_eq_true rfl) dX12_tower_101 ?_
            rintro _ τ96 ⟨rfl, i97, f98, h102⟩
            have g101 : Fr MS_X12_tower AS_X12_tower σ τ96 := Fr.call (fτ) f98 (by decide)
            have v103 : PF τ96 := (fun _ => h102.2.1)
            have u104 : IV (gV τ96 23 0 152) 0 7 := i97.1 23 0 152
            have u105 : IV (gV τ96 22 0 11) 0 400 := i97.1 22 0 11
            have u106 : IV (gV τ96 23 0 188) 0 4 := i97.1 23 0 188
            have q107 : (gV τ96 22 0 6).toInt = (gV τ 22 0 6).toInt := congrArg Int32.toInt (show (gV τ96 22 0 6) = (gV τ 22 0 6) from (show gV τ96 22 0 6 = (gV τ 22 0 6) from (f98.1 22 0 (6) (by decide) (by decide)).trans rfl))
            show MW p l e _ s m args below meth c _ 2 G 0 0 104 [some (.ref (G.1 22 0)), none] [] τ96
            refine m_goto (tgt := 75) C dX12_tower_104 (by decide) ?_
            exact ih75 τ96 i97 g101 v103 (by omega) (by have q := hm75; omega)
  have J43 : ∀ (n : Nat) (τ : Sg), Inv τ → Fr MS_X12_tower AS_X12_tower σ τ → (PF τ) → ((gV τ 22 0 11).toInt ≤ (gV τ 22 0 6).toInt) → (2 * (8 - (gV τ 23 0 152).toInt) + 1 - min 1 (max (gV τ 22 0 16).toInt (-(gV τ 22 0 16).toInt))).toNat < n → MW p l e { frames := 4, cells := 0, slots := 0, locals := 92 } s m args below meth c (MQ below (QP G (PI fun r τ => Inv τ ∧ Fr MS_X12_tower AS_X12_tower σ τ ∧ IV r (-2147483648) 2147483647)) args s 0 0 (aG G)) 2 G 0 0 43 [some (.ref (G.1 22 0)), none] [] τ := by
    intro n
    induction n with
    | zero => intro τ iτ fτ v_PF n108 hm; exact absurd hm (Nat.not_lt_zero _)
    | succ n ih43 =>
      intro τ iτ fτ v_PF n108 hm43
      have u109 : IV (gV τ 23 0 152) 0 7 := iτ.1 23 0 152
      have u110 : IV (gV τ 22 0 11) 0 400 := iτ.1 22 0 11
      have u111 : IV (gV τ 22 0 6) 0 400 := iτ.1 22 0 6
      have u112 : IV (gV τ 23 0 188) 0 4 := iτ.1 23 0 188
      refine m_aload_n C dX12_tower_43 rfl rfl ?_
      refine g_22_16 C q4_132 dX12_tower_44 ?_
      refine m_eqs (w := (gV τ 22 0 16)) rfl ?_
      refine m_if_ne (tgt := 75) C dX12_tower_47 (by decide) (fun c113 => ?_) (fun c113 => ?_)
      · have f114 : (gV τ 22 0 16).toInt ≠ 0 := by
          have q : _ := c113
          simp only [ti_nle, ti_nlt, ti_le, ti_lt, ti_eq, ti_ne, Classical.not_not, kt_0] at q
          omega
        exact J75 ((2 * (5 - (gV τ 23 0 188).toInt) + 1 - min 1 (max (gV τ 22 0 16).toInt (-(gV τ 22 0 16).toInt))).toNat + 1) τ iτ fτ v_PF (by omega) (Nat.lt_succ_self _)
      · have f115 : (gV τ 22 0 16).toInt = 0 := by
          have q : _ := c113
          simp only [ti_nle, ti_nlt, ti_le, ti_lt, ti_eq, ti_ne, Classical.not_not, kt_0] at q
          omega
        have b116 : IV (gV τ 22 0 16) 0 0 := ⟨by have q1 := (iv_any (gV τ 22 0 16)); have q2 := kc_0; omega, by have q1 := (iv_any (gV τ 22 0 16)); have q2 := kc_0; omega⟩
        refine m_aload_n C dX12_tower_50 rfl rfl ?_
        refine g_22_13 C q4_129 dX12_tower_51 ?_
        refine m_topi (fun x117 ex117 => ?_)
        refine m_if_ne (tgt := 75) C dX12_tower_54 (by decide) (fun c118 => ?_) (fun c118 => ?_)
        · have f119 : x117.toInt ≠ 0 := by
            have q : _ := c118
            simp only [ti_nle, ti_nlt, ti_le, ti_lt, ti_eq, ti_ne, Classical.not_not, kt_0] at q
            omega
          exact J75 ((2 * (5 - (gV τ 23 0 188).toInt) + 1 - min 1 (max (gV τ 22 0 16).toInt (-(gV τ 22 0 16).toInt))).toNat + 1) τ iτ fτ v_PF (by omega) (Nat.lt_succ_self _)
        · have f120 : x117.toInt = 0 := by
            have q : _ := c118
            simp only [ti_nle, ti_nlt, ti_le, ti_lt, ti_eq, ti_ne, Classical.not_not, kt_0] at q
            omega
          have b121 : IV x117 0 0 := ⟨by have q1 := (iv_any x117); have q2 := kc_0; omega, by have q1 := (iv_any x117); have q2 := kc_0; omega⟩
          refine m_aload_n C dX12_tower_57 rfl rfl ?_
          refine g_22_14 C q4_130 dX12_tower_58 ?_
          refine m_topl (fun w122 ew122 => ?_)
          refine m_ldc2 (v := 542723566) C dX12_tower_61 q5_16 ?_
          refine m_lcmp C dX12_tower_64 ?_
          refine m_topi (fun x123 ex123 => ?_)
          have b124 : IV x123 (-1) 1 := by rw [ex123]; rcases lgc w122 542723566 with q | q | q <;> omega
          have f125 := lgc w122 542723566
          rw [← ex123] at f125
          have f127 := kl_542723566
          refine m_if_ne (tgt := 75) C dX12_tower_65 (by decide) (fun c128 => ?_) (fun c128 => ?_)
          · have f129 : x123.toInt ≠ 0 := by
              have q : _ := c128
              simp only [ti_nle, ti_nlt, ti_le, ti_lt, ti_eq, ti_ne, Classical.not_not, kt_0] at q
              omega
            exact J75 ((2 * (5 - (gV τ 23 0 188).toInt) + 1 - min 1 (max (gV τ 22 0 16).toInt (-(gV τ 22 0 16).toInt))).toNat + 1) τ iτ fτ v_PF (by omega) (Nat.lt_succ_self _)
          · have f130 : x123.toInt = 0 := by
              have q : _ := c128
              simp only [ti_nle, ti_nlt, ti_le, ti_lt, ti_eq, ti_ne, Classical.not_not, kt_0] at q
              omega
            have b131 : IV x123 0 0 := ⟨by have q1 := b124; have q2 := kc_0; omega, by have q1 := b124; have q2 := kc_0; omega⟩
            refine m_aload_n C dX12_tower_68 rfl rfl ?_
            refine m_callV (n := 0) (ci := 11) (st := []) C (c_X12_takePerson l G τ  iτ (by omega) (by omega) (v_PF (by omega))) (by decide) (by decide) rfl rfl rfl q5_20 q5_17 q5_19 q0_33 q1_7 (by decide +kernel) rfl (by decide) (by decide) rfl (Nat.le_of_ble_eq_true rfl) dX12_tower_69 ?_
            rintro _ τ132 ⟨rfl, i133, f134, h138⟩
            have g137 : Fr MS_X12_tower AS_X12_tower σ τ132 := Fr.call (fτ) f134 (by decide)
            have v139 : PF τ132 := (fun q => h138.2.1 q)
            have u140 : IV (gV τ132 23 0 152) 0 7 := i133.1 23 0 152
            have u141 : IV (gV τ132 22 0 11) 0 400 := i133.1 22 0 11
            have u142 : IV (gV τ132 23 0 188) 0 4 := i133.1 23 0 188
            have q143 : (gV τ132 22 0 6).toInt = (gV τ 22 0 6).toInt := congrArg Int32.toInt (show (gV τ132 22 0 6) = (gV τ 22 0 6) from (show gV τ132 22 0 6 = (gV τ 22 0 6) from (f134.1 22 0 (6) (by decide) (by decide)).trans rfl))
            show MW p l e _ s m args below meth c _ 2 G 0 0 72 [some (.ref (G.1 22 0)), none] [] τ132
            refine m_goto (tgt := 43) C dX12_tower_72 (by decide) ?_
            exact ih43 τ132 i133 g137 v139 (by omega) (by have q := hm43; omega)
  have J2 : ∀ (n : Nat) (τ : Sg) (y1 : Int32), Inv τ → Fr MS_X12_tower AS_X12_tower σ τ → IV y1 0 50 → ((3 ≤ y1.toInt → (gV τ 23 0 152).toInt = 0)) → (50 - y1.toInt).toNat < n → MW p l e { frames := 4, cells := 0, slots := 0, locals := 92 } s m args below meth c (MQ below (QP G (PI fun r τ => Inv τ ∧ Fr MS_X12_tower AS_X12_tower σ τ ∧ IV r (-2147483648) 2147483647)) args s 0 0 (aG G)) 2 G 0 0 2 [some (.ref (G.1 22 0)), some (.int y1)] [] τ := by
    intro n
    induction n with
    | zero => intro τ y1 iτ fτ b_y1 nz hm; exact absurd hm (Nat.not_lt_zero _)
    | succ n ih2 =>
      intro τ y1 iτ fτ b_y1 nz hm2
      have u144 : IV (gV τ 23 0 152) 0 7 := iτ.1 23 0 152
      have u145 : IV (gV τ 22 0 11) 0 400 := iτ.1 22 0 11
      have u146 : IV (gV τ 22 0 6) 0 400 := iτ.1 22 0 6
      have u147 : IV (gV τ 23 0 188) 0 4 := iτ.1 23 0 188
      refine m_iload_n C dX12_tower_2 rfl rfl ?_
      refine m_bipush (v := 50) C dX12_tower_3 (by decide) ?_
      refine m_icmp_ge (tgt := 25) C dX12_tower_5 (by decide) (fun c148 => ?_) (fun c148 => ?_)
      · have f149 : 50 ≤ y1.toInt := by
          have q : _ := c148
          simp only [ti_nle, ti_nlt, ti_le, ti_lt, ti_eq, ti_ne, Classical.not_not, kt_50] at q
          omega
        have b150 : IV y1 50 50 := ⟨by have q1 := kc_50; have q2 := b_y1; omega, by have q1 := kc_50; have q2 := b_y1; omega⟩
        refine m_aload_n C dX12_tower_25 rfl rfl ?_
        refine m_iconst (v := 0) C dX12_tower_26 (by decide) ?_
        refine p_22_11 C q4_127 dX12_tower_27 ?_
        refine m_tops (fun τ151 eτ151 => ?_)
        have i152 : Inv τ151 := eτ151 ▸ Inv.put iτ (by decide) (iv_wk kc_0 (by decide))
        have f153 : Fr MS_X12_tower AS_X12_tower σ τ151 := eτ151 ▸ Fr.put (fτ) (Or.inl (by decide))
        refine m_aload_n C dX12_tower_30 rfl rfl ?_
        refine m_iconst (v := 0) C dX12_tower_31 (by decide) ?_
        refine p_22_16 C q4_132 dX12_tower_32 ?_
        refine m_tops (fun τ154 eτ154 => ?_)
        have i155 : Inv τ154 := eτ154 ▸ Inv.putF i152 (by decide) rfl
        have f156 : Fr MS_X12_tower AS_X12_tower σ τ154 := eτ154 ▸ Fr.put (f153) (Or.inl (by decide))
        refine m_aload_n C dX12_tower_35 rfl rfl ?_
        have q157 : (gV τ154 23 0 152).toInt = (gV τ 23 0 152).toInt := congrArg Int32.toInt (show (gV τ154 23 0 152) = (gV τ 23 0 152) from (show gV τ154 23 0 152 = (gV τ 23 0 152) from gV_put eτ154 (show gV τ151 23 0 152 = (gV τ 23 0 152) from gV_put eτ151 rfl)))
        have q158 : (gV τ154 22 0 6).toInt = (gV τ 22 0 6).toInt := congrArg Int32.toInt (show (gV τ154 22 0 6) = (gV τ 22 0 6) from (show gV τ154 22 0 6 = (gV τ 22 0 6) from gV_put eτ154 (show gV τ151 22 0 6 = (gV τ 22 0 6) from gV_put eτ151 rfl)))
        have q159 : (gV τ154 23 0 188).toInt = (gV τ 23 0 188).toInt := congrArg Int32.toInt (show (gV τ154 23 0 188) = (gV τ 23 0 188) from (show gV τ154 23 0 188 = (gV τ 23 0 188) from gV_put eτ154 (show gV τ151 23 0 188 = (gV τ 23 0 188) from gV_put eτ151 rfl)))
        have q160 : (gV τ154 22 0 11).toInt = 0 := (congrArg Int32.toInt (show (gV τ154 22 0 11) = 0 from (show gV τ154 22 0 11 = 0 from gV_put eτ154 (show gV τ151 22 0 11 = 0 from gV_put eτ151 (gV_self _ _ _ _ _))))).trans kt_0
        have q161 : (gV τ154 22 0 16).toInt = 0 := (congrArg Int32.toInt (show (gV τ154 22 0 16) = 0 from (show gV τ154 22 0 16 = 0 from gV_put eτ154 (gV_self _ _ _ _ _)))).trans kt_0
        refine m_callV (n := 0) (ci := 11) (st := []) C (c_X12_next l G τ154  i155 (by omega)) (by decide) (by decide) rfl rfl rfl q4_231 q4_228 q4_230 q0_28 q1_7 (by decide +kernel) rfl (by decide) (by decide) rfl (Nat.le_of_ble_eq_true rfl) dX12_tower_36 ?_
        rintro _ τ162 ⟨rfl, i163, f164, h168⟩
        have g167 : Fr MS_X12_tower AS_X12_tower σ τ162 := Fr.call (f156) f164 (by decide)
        have u169 : IV (gV τ162 22 0 11) 0 400 := i163.1 22 0 11
        have q170 : (gV τ162 23 0 152).toInt = (gV τ 23 0 152).toInt := congrArg Int32.toInt (show (gV τ162 23 0 152) = (gV τ 23 0 152) from (show gV τ162 23 0 152 = (gV τ 23 0 152) from (f164.1 23 0 (152) (by decide) (by decide)).trans (show gV τ154 23 0 152 = (gV τ 23 0 152) from gV_put eτ154 (show gV τ151 23 0 152 = (gV τ 23 0 152) from gV_put eτ151 rfl))))
        have q171 : (gV τ162 22 0 6).toInt = (gV τ 22 0 6).toInt := congrArg Int32.toInt (show (gV τ162 22 0 6) = (gV τ 22 0 6) from (show gV τ162 22 0 6 = (gV τ 22 0 6) from (f164.1 22 0 (6) (by decide) (by decide)).trans (show gV τ154 22 0 6 = (gV τ 22 0 6) from gV_put eτ154 (show gV τ151 22 0 6 = (gV τ 22 0 6) from gV_put eτ151 rfl))))
        have q172 : (gV τ162 23 0 188).toInt = (gV τ 23 0 188).toInt := congrArg Int32.toInt (show (gV τ162 23 0 188) = (gV τ 23 0 188) from (show gV τ162 23 0 188 = (gV τ 23 0 188) from (f164.1 23 0 (188) (by decide) (by decide)).trans (show gV τ154 23 0 188 = (gV τ 23 0 188) from gV_put eτ154 (show gV τ151 23 0 188 = (gV τ 23 0 188) from gV_put eτ151 rfl))))
        have q173 : (gV τ162 22 0 16).toInt = 0 := (congrArg Int32.toInt (show (gV τ162 22 0 16) = 0 from (show gV τ162 22 0 16 = 0 from (f164.1 22 0 (16) (by decide) (by decide)).trans (show gV τ154 22 0 16 = 0 from gV_put eτ154 (gV_self _ _ _ _ _))))).trans kt_0
        show MW p l e _ s m args below meth c _ 2 G 0 0 39 [some (.ref (G.1 22 0)), some (.int y1)] [] τ162
        refine m_aload_n C dX12_tower_39 rfl rfl ?_
        refine m_callV (n := 0) (ci := 11) (st := []) C (c_X12_takeLaw l G τ162  i163 (by omega)) (by decide) (by decide) rfl rfl rfl q5_2 q4_239 q5_1 q0_29 q1_7 (by decide +kernel) rfl (by decide) (by decide) rfl (Nat.le_of_ble_eq_true rfl) dX12_tower_40 ?_
        rintro _ τ174 ⟨rfl, i175, f176, h180⟩
        have g179 : Fr MS_X12_tower AS_X12_tower σ τ174 := Fr.call (g167) f176 (by decide)
        have u181 : IV (gV τ174 23 0 152) 0 7 := i175.1 23 0 152
        have u182 : IV (gV τ174 22 0 11) 0 400 := i175.1 22 0 11
        have u183 : IV (gV τ174 23 0 188) 0 4 := i175.1 23 0 188
        have q184 : (gV τ174 22 0 6).toInt = (gV τ 22 0 6).toInt := congrArg Int32.toInt (show (gV τ174 22 0 6) = (gV τ 22 0 6) from (show gV τ174 22 0 6 = (gV τ 22 0 6) from (f176.1 22 0 (6) (by decide) (by decide)).trans (show gV τ162 22 0 6 = (gV τ 22 0 6) from (f164.1 22 0 (6) (by decide) (by decide)).trans (show gV τ154 22 0 6 = (gV τ 22 0 6) from gV_put eτ154 (show gV τ151 22 0 6 = (gV τ 22 0 6) from gV_put eτ151 rfl)))))
        have v185 : PF τ174 := PF.zero (by omega)
        show MW p l e _ s m args below meth c _ 2 G 0 0 43 [some (.ref (G.1 22 0)), some (.int y1)] [] τ174
        refine m_sub (L1 := [some (.ref (G.1 22 0)), none]) ⟨rfl, trivial⟩ ?_
        exact J43 ((2 * (8 - (gV τ174 23 0 152).toInt) + 1 - min 1 (max (gV τ174 22 0 16).toInt (-(gV τ174 22 0 16).toInt))).toNat + 1) τ174 i175 g179 v185 (by omega) (Nat.lt_succ_self _)
      · have f186 : y1.toInt < 50 := by
          have q : _ := c148
          simp only [ti_nle, ti_nlt, ti_le, ti_lt, ti_eq, ti_ne, Classical.not_not, kt_50] at q
          omega
        have b187 : IV y1 0 49 := ⟨by have q1 := b_y1; have q2 := kc_50; omega, by have q1 := b_y1; have q2 := kc_50; omega⟩
        refine m_aload_n C dX12_tower_8 rfl rfl ?_
        refine g_22_0 C q4_116 dX12_tower_9 ?_
        refine m_sipush (v := 150) C dX12_tower_12 (by decide) ?_
        refine m_iload_n C dX12_tower_15 rfl rfl ?_
        refine m_iadd C dX12_tower_16 ?_
        refine m_topi (fun x188 ex188 => ?_)
        have tx188 : x188.toInt = 150 + y1.toInt := by rw [ex188, ti_addv kc_150 b187 (by decide), kt_150]
        have b189 : IV x188 150 199 := by rw [ex188]; exact iv_add kc_150 b187 (by decide)
        refine m_iconst (v := 0) C dX12_tower_17 (by decide) ?_
        refine as_23 C b189 (by decide) rfl dX12_tower_18 ?_
        refine m_tops (fun τ190 eτ190 => ?_)
        have i191 : Inv τ190 := eτ190 ▸ Inv.putR0 iτ (by omega) kt_0
        have f192 : Fr MS_X12_tower AS_X12_tower σ τ190 := eτ190 ▸ Fr.put (fτ) (Or.inr (by decide))
        obtain ⟨x193, ex193⟩ : ∃ y : Int32, y = y1 + 1 := ⟨_, rfl⟩
        have tx193 : x193.toInt = y1.toInt + 1 := by rw [ex193, ti_addv b187 kc_1 (by decide), kt_1]
        have b194 : IV x193 1 50 := by rw [ex193]; exact iv_add b187 kc_1 (by decide)
        refine m_iinc (v := x193) (L1 := [some (.ref (G.1 22 0)), some (.int x193)]) C dX12_tower_19 rfl (by rw [ex193]; rfl) (by decide) rfl rfl ?_
        refine m_goto (tgt := 2) C dX12_tower_22 (by decide) ?_
        have q195 : (gV τ190 22 0 16).toInt = (gV τ 22 0 16).toInt := congrArg Int32.toInt (show (gV τ190 22 0 16) = (gV τ 22 0 16) from (show gV τ190 22 0 16 = (gV τ 22 0 16) from gV_put eτ190 rfl))
        have q196 : (gV τ190 22 0 11).toInt = (gV τ 22 0 11).toInt := congrArg Int32.toInt (show (gV τ190 22 0 11) = (gV τ 22 0 11) from (show gV τ190 22 0 11 = (gV τ 22 0 11) from gV_put eτ190 rfl))
        have q197 : (gV τ190 22 0 6).toInt = (gV τ 22 0 6).toInt := congrArg Int32.toInt (show (gV τ190 22 0 6) = (gV τ 22 0 6) from (show gV τ190 22 0 6 = (gV τ 22 0 6) from gV_put eτ190 rfl))
        exact ih2 τ190 x193 i191 f192 (iv_wk b194 (by decide)) (fun q => zero152 eτ190 kt_0 (by omega)) (by have q := hm2; omega)
  have u198 : IV (gV σ 23 0 152) 0 7 := hI.1 23 0 152
  have u199 : IV (gV σ 22 0 11) 0 400 := hI.1 22 0 11
  have u200 : IV (gV σ 22 0 6) 0 400 := hI.1 22 0 6
  have u201 : IV (gV σ 23 0 188) 0 4 := hI.1 23 0 188
  refine m_iconst (v := 0) C dX12_tower_0 (by decide) ?_
  refine m_istore_n (L1 := [some (.ref (G.1 22 0)), some (.int 0)]) C dX12_tower_1 rfl (by decide) rfl rfl ?_
  exact J2 ((50 - (0 : Int32).toInt).toNat + 1) σ 0 hI Fr.rf (iv_wk kc_0 (by decide)) (by omega) (Nat.lt_succ_self _)
