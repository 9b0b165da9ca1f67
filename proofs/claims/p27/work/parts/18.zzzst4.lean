abbrev MS_X12_halfS : List (Nat × Nat) := []
abbrev AS_X12_halfS : List Nat := [23]
set_option maxHeartbeats 4000000 in
set_option maxRecDepth 100000 in
theorem c_X12_halfS (l : Launch) (G : Gt) (σ : Sg) (a1 : Int32) (hI : Inv σ) (ha1 : IV a1 0 200) (hr0 : (a1.toInt = 0 ∨ a1.toInt = 200)) : Mc l G yX12_half cX12_half 5 none 0 0 0 0 [.ref (G.1 22 0), .int a1] σ (PV fun τ => Inv τ ∧ Fr MS_X12_halfS AS_X12_halfS σ τ ∧ SFm σ τ) := by
  refine Mc.of (L0 := [some (.ref (G.1 22 0)), some (.int a1), none, none, none]) (by decide) (Nat.le_of_ble_eq_true rfl) rfl ?_
  intro p e s m args below meth c C hr hlk
  have C : Cx p s m args c cX12_half 5 "LeanTowerModel" := C
  have k0 : (0 : Int32).toInt = 0 := by decide
  have k1 : (1 : Int32).toInt = 1 := by decide
  have J15 : ∀ (n : Nat) (τ : Sg) (y2 : Int32), Inv τ → Fr MS_X12_halfS AS_X12_halfS σ τ → IV a1 0 200 → IV y2 0 7 → (SFm σ τ) → (7 - y2.toInt).toNat < n → MW p l e { frames := 0, cells := 0, slots := 0, locals := 0 } s m args below meth c (MQ below (QP G (PV fun τ => Inv τ ∧ Fr MS_X12_halfS AS_X12_halfS σ τ ∧ SFm σ τ)) args s 0 0 (aG G)) 5 G 0 0 15 [some (.ref (G.1 22 0)), some (.int a1), some (.int y2), none, none] [] τ := by
    intro n
    induction n with
    | zero => intro τ y2 iτ fτ b_a1 b_y2 v_SM hm; exact absurd hm (Nat.not_lt_zero _)
    | succ n ih15 =>
      intro τ y2 iτ fτ b_a1 b_y2 v_SM hm15
      have J133 : ∀ (τ : Sg) (y3 : Int32) (z0 : Int32), Inv τ → Fr MS_X12_halfS AS_X12_halfS σ τ → IV a1 0 200 → IV y2 0 6 → IV y3 (-2147483648) 2147483647 → IV z0 (-2147483648) 2147483647 → (SFm σ τ) → MW p l e { frames := 0, cells := 0, slots := 0, locals := 0 } s m args below meth c (MQ below (QP G (PV fun τ => Inv τ ∧ Fr MS_X12_halfS AS_X12_halfS σ τ ∧ SFm σ τ)) args s 0 0 (aG G)) 5 G 0 0 133 [some (.ref (G.1 22 0)), some (.int a1), some (.int y2), some (.int y3), none] [.int z0] τ := by
        intro τ y3 z0 iτ fτ b_a1 b_y2 b_y3 b_z0 v_SM
        have u1 : IV (gV τ 23 0 2) 0 7 := iτ.1 23 0 2
        refine m_istore (L1 := [some (.ref (G.1 22 0)), some (.int a1), some (.int y2), some (.int y3), some (.int z0)]) C dX12_half_133 (by decide) rfl rfl ?_
        refine m_aload_n C dX12_half_135 rfl rfl ?_
        refine g_22_0 C q4_116 dX12_half_136 ?_
        refine m_iload_n C dX12_half_139 rfl rfl ?_
        refine m_bipush (v := 24) C dX12_half_140 (by decide) ?_
        refine m_iadd C dX12_half_142 ?_
        refine m_topi (fun x2 ex2 => ?_)
        have tx2 : x2.toInt = a1.toInt + 24 := by rw [ex2, ti_addv b_a1 kc_24 (by decide), kt_24]
        have b3 : IV x2 24 224 := by rw [ex2]; exact iv_add b_a1 kc_24 (by decide)
        refine m_iload_n C dX12_half_143 rfl rfl ?_
        refine m_iadd C dX12_half_144 ?_
        refine m_topi (fun x4 ex4 => ?_)
        have tx4 : x4.toInt = x2.toInt + y2.toInt := by rw [ex4, ti_addv b3 b_y2 (by decide)]
        have b5 : IV x4 24 230 := by rw [ex4]; exact iv_add b3 b_y2 (by decide)
        refine m_iload C dX12_half_145 rfl ?_
        refine as_23 C b5 (by decide) rfl dX12_half_147 ?_
        refine m_tops (fun τ6 eτ6 => ?_)
        have i7 : Inv τ6 := eτ6 ▸ Inv.putW iτ (by omega)
        have f8 : Fr MS_X12_halfS AS_X12_halfS σ τ6 := eτ6 ▸ Fr.put (fτ) (Or.inr (by decide))
        have v9 : SFm σ τ6 := v_SM.put eτ6 (by omega)
        refine m_aload_n C dX12_half_148 rfl rfl ?_
        refine g_22_0 C q4_116 dX12_half_149 ?_
        refine m_iload_n C dX12_half_152 rfl rfl ?_
        refine m_bipush (v := 31) C dX12_half_153 (by decide) ?_
        refine m_iadd C dX12_half_155 ?_
        refine m_topi (fun x10 ex10 => ?_)
        have tx10 : x10.toInt = a1.toInt + 31 := by rw [ex10, ti_addv b_a1 kc_31 (by decide), kt_31]
        have b11 : IV x10 31 231 := by rw [ex10]; exact iv_add b_a1 kc_31 (by decide)
        refine m_iload_n C dX12_half_156 rfl rfl ?_
        refine m_iadd C dX12_half_157 ?_
        refine m_topi (fun x12 ex12 => ?_)
        have tx12 : x12.toInt = x10.toInt + y2.toInt := by rw [ex12, ti_addv b11 b_y2 (by decide)]
        have b13 : IV x12 31 237 := by rw [ex12]; exact iv_add b11 b_y2 (by decide)
        refine m_iload C dX12_half_158 rfl ?_
        refine m_iload_n C dX12_half_160 rfl rfl ?_
        refine m_if_le (tgt := 175) C dX12_half_161 (by decide) (fun c14 => ?_) (fun c14 => ?_)
        · have f15 : y3.toInt ≤ 0 := by
            have q : _ := c14
            simp only [ti_nle, ti_nlt, ti_le, ti_lt, ti_eq, ti_ne, Classical.not_not, kt_0] at q
            omega
          have b16 : IV y3 (-2147483648) 0 := ⟨by have q1 := b_y3; have q2 := kc_0; omega, by have q1 := b_y3; have q2 := kc_0; omega⟩
          refine m_iconst (v := (-1)) C dX12_half_175 (by decide) ?_
          refine m_icmp_ne (tgt := 183) C dX12_half_176 (by decide) (fun c17 => ?_) (fun c17 => ?_)
          · have f18 : z0.toInt ≠ -1 := by
              have q : _ := c17
              simp only [ti_nle, ti_nlt, ti_le, ti_lt, ti_eq, ti_ne, Classical.not_not, kt_m1] at q
              omega
            refine m_iload_n C dX12_half_183 rfl rfl ?_
            refine as_23 C b13 (by decide) rfl dX12_half_184 ?_
            refine m_tops (fun τ19 eτ19 => ?_)
            have i20 : Inv τ19 := eτ19 ▸ Inv.putW i7 (by omega)
            have f21 : Fr MS_X12_halfS AS_X12_halfS σ τ19 := eτ19 ▸ Fr.put (f8) (Or.inr (by decide))
            have v22 : SFm σ τ19 := v9.put eτ19 (by omega)
            obtain ⟨x23, ex23⟩ : ∃ y : Int32, y = y2 + 1 := ⟨_, rfl⟩
            have tx23 : x23.toInt = y2.toInt + 1 := by rw [ex23, ti_addv b_y2 kc_1 (by decide), kt_1]
            have b24 : IV x23 1 7 := by rw [ex23]; exact iv_add b_y2 kc_1 (by decide)
            refine m_iinc (v := x23) (L1 := [some (.ref (G.1 22 0)), some (.int a1), some (.int x23), some (.int y3), some (.int z0)]) C dX12_half_185 rfl (by rw [ex23]; rfl) (by decide) rfl rfl ?_
            refine m_goto (tgt := 15) C dX12_half_188 (by decide) ?_
            refine m_sub (L1 := [some (.ref (G.1 22 0)), some (.int a1), some (.int x23), none, none]) ⟨rfl, ⟨rfl, ⟨rfl, trivial⟩⟩⟩ ?_
            have q25 : (gV τ19 23 0 2).toInt = (gV τ 23 0 2).toInt := congrArg Int32.toInt (show (gV τ19 23 0 2) = (gV τ 23 0 2) from (show gV τ19 23 0 2 = (gV τ 23 0 2) from (gV_putn eτ19 (Or.inr (Or.inr (by omega)))).trans (show gV τ6 23 0 2 = (gV τ 23 0 2) from (gV_putn eτ6 (Or.inr (Or.inr (by omega)))).trans rfl)))
            exact ih15 τ19 x23 i20 f21 b_a1 (iv_wk b24 (by decide)) v22 (by have q := hm15; omega)
          · have f26 : z0.toInt = -1 := by
              have q : _ := c17
              simp only [ti_nle, ti_nlt, ti_le, ti_lt, ti_eq, ti_ne, Classical.not_not, kt_m1] at q
              omega
            have b27 : IV z0 (-1) (-1) := ⟨by have q1 := b_z0; have q2 := kc_m1; omega, by have q1 := b_z0; have q2 := kc_m1; omega⟩
            refine m_iconst (v := 0) C dX12_half_179 (by decide) ?_
            refine m_goto (tgt := 184) C dX12_half_180 (by decide) ?_
            refine as_23 C b13 (by decide) rfl dX12_half_184 ?_
            refine m_tops (fun τ28 eτ28 => ?_)
            have i29 : Inv τ28 := eτ28 ▸ Inv.putW i7 (by omega)
            have f30 : Fr MS_X12_halfS AS_X12_halfS σ τ28 := eτ28 ▸ Fr.put (f8) (Or.inr (by decide))
            have v31 : SFm σ τ28 := v9.put eτ28 (by omega)
            obtain ⟨x32, ex32⟩ : ∃ y : Int32, y = y2 + 1 := ⟨_, rfl⟩
            have tx32 : x32.toInt = y2.toInt + 1 := by rw [ex32, ti_addv b_y2 kc_1 (by decide), kt_1]
            have b33 : IV x32 1 7 := by rw [ex32]; exact iv_add b_y2 kc_1 (by decide)
            refine m_iinc (v := x32) (L1 := [some (.ref (G.1 22 0)), some (.int a1), some (.int x32), some (.int y3), some (.int z0)]) C dX12_half_185 rfl (by rw [ex32]; rfl) (by decide) rfl rfl ?_
            refine m_goto (tgt := 15) C dX12_half_188 (by decide) ?_
            refine m_sub (L1 := [some (.ref (G.1 22 0)), some (.int a1), some (.int x32), none, none]) ⟨rfl, ⟨rfl, ⟨rfl, trivial⟩⟩⟩ ?_
            have q34 : (gV τ28 23 0 2).toInt = (gV τ 23 0 2).toInt := congrArg Int32.toInt (show (gV τ28 23 0 2) = (gV τ 23 0 2) from (show gV τ28 23 0 2 = (gV τ 23 0 2) from (gV_putn eτ28 (Or.inr (Or.inr (by omega)))).trans (show gV τ6 23 0 2 = (gV τ 23 0 2) from (gV_putn eτ6 (Or.inr (Or.inr (by omega)))).trans rfl)))
            exact ih15 τ28 x32 i29 f30 b_a1 (iv_wk b33 (by decide)) v31 (by have q := hm15; omega)
        · have f35 : 0 < y3.toInt := by
            have q : _ := c14
            simp only [ti_nle, ti_nlt, ti_le, ti_lt, ti_eq, ti_ne, Classical.not_not, kt_0] at q
            omega
          have b36 : IV y3 1 2147483647 := ⟨by have q1 := kc_0; have q2 := b_y3; omega, by have q1 := kc_0; have q2 := b_y3; omega⟩
          refine m_aload_n C dX12_half_164 rfl rfl ?_
          refine g_22_0 C q4_116 dX12_half_165 ?_
          refine m_iconst (v := 0) C dX12_half_168 (by decide) ?_
          refine al_23 C kc_0 (by decide) kn_0 dX12_half_169 ?_
          refine m_topi (fun x37 ex37 => ?_)
          refine m_iconst (v := 1) C dX12_half_170 (by decide) ?_
          refine m_isub C dX12_half_171 ?_
          refine m_topi (fun x38 ex38 => ?_)
          refine m_goto (tgt := 176) C dX12_half_172 (by decide) ?_
          refine m_icmp_ne (tgt := 183) C dX12_half_176 (by decide) (fun c39 => ?_) (fun c39 => ?_)
          · have f40 : z0.toInt ≠ x38.toInt := by
              have q : _ := c39
              simp only [ti_nle, ti_nlt, ti_le, ti_lt, ti_eq, ti_ne, Classical.not_not] at q
              omega
            refine m_iload_n C dX12_half_183 rfl rfl ?_
            refine as_23 C b13 (by decide) rfl dX12_half_184 ?_
            refine m_tops (fun τ41 eτ41 => ?_)
            have i42 : Inv τ41 := eτ41 ▸ Inv.putW i7 (by omega)
            have f43 : Fr MS_X12_halfS AS_X12_halfS σ τ41 := eτ41 ▸ Fr.put (f8) (Or.inr (by decide))
            have v44 : SFm σ τ41 := v9.put eτ41 (by omega)
            obtain ⟨x45, ex45⟩ : ∃ y : Int32, y = y2 + 1 := ⟨_, rfl⟩
            have tx45 : x45.toInt = y2.toInt + 1 := by rw [ex45, ti_addv b_y2 kc_1 (by decide), kt_1]
            have b46 : IV x45 1 7 := by rw [ex45]; exact iv_add b_y2 kc_1 (by decide)
            refine m_iinc (v := x45) (L1 := [some (.ref (G.1 22 0)), some (.int a1), some (.int x45), some (.int y3), some (.int z0)]) C dX12_half_185 rfl (by rw [ex45]; rfl) (by decide) rfl rfl ?_
            refine m_goto (tgt := 15) C dX12_half_188 (by decide) ?_
            refine m_sub (L1 := [some (.ref (G.1 22 0)), some (.int a1), some (.int x45), none, none]) ⟨rfl, ⟨rfl, ⟨rfl, trivial⟩⟩⟩ ?_
            have q47 : (gV τ41 23 0 2).toInt = (gV τ 23 0 2).toInt := congrArg Int32.toInt (show (gV τ41 23 0 2) = (gV τ 23 0 2) from (show gV τ41 23 0 2 = (gV τ 23 0 2) from (gV_putn eτ41 (Or.inr (Or.inr (by omega)))).trans (show gV τ6 23 0 2 = (gV τ 23 0 2) from (gV_putn eτ6 (Or.inr (Or.inr (by omega)))).trans rfl)))
            exact ih15 τ41 x45 i42 f43 b_a1 (iv_wk b46 (by decide)) v44 (by have q := hm15; omega)
          · have f48 : z0.toInt = x38.toInt := by
              have q : _ := c39
              simp only [ti_nle, ti_nlt, ti_le, ti_lt, ti_eq, ti_ne, Classical.not_not] at q
              omega
            refine m_iconst (v := 0) C dX12_half_179 (by decide) ?_
            refine m_goto (tgt := 184) C dX12_half_180 (by decide) ?_
            refine as_23 C b13 (by decide) rfl dX12_half_184 ?_
            refine m_tops (fun τ49 eτ49 => ?_)
            have i50 : Inv τ49 := eτ49 ▸ Inv.putW i7 (by omega)
            have f51 : Fr MS_X12_halfS AS_X12_halfS σ τ49 := eτ49 ▸ Fr.put (f8) (Or.inr (by decide))
            have v52 : SFm σ τ49 := v9.put eτ49 (by omega)
            obtain ⟨x53, ex53⟩ : ∃ y : Int32, y = y2 + 1 := ⟨_, rfl⟩
            have tx53 : x53.toInt = y2.toInt + 1 := by rw [ex53, ti_addv b_y2 kc_1 (by decide), kt_1]
            have b54 : IV x53 1 7 := by rw [ex53]; exact iv_add b_y2 kc_1 (by decide)
            refine m_iinc (v := x53) (L1 := [some (.ref (G.1 22 0)), some (.int a1), some (.int x53), some (.int y3), some (.int z0)]) C dX12_half_185 rfl (by rw [ex53]; rfl) (by decide) rfl rfl ?_
            refine m_goto (tgt := 15) C dX12_half_188 (by decide) ?_
            refine m_sub (L1 := [some (.ref (G.1 22 0)), some (.int a1), some (.int x53), none, none]) ⟨rfl, ⟨rfl, ⟨rfl, trivial⟩⟩⟩ ?_
            have q55 : (gV τ49 23 0 2).toInt = (gV τ 23 0 2).toInt := congrArg Int32.toInt (show (gV τ49 23 0 2) = (gV τ 23 0 2) from (show gV τ49 23 0 2 = (gV τ 23 0 2) from (gV_putn eτ49 (Or.inr (Or.inr (by omega)))).trans (show gV τ6 23 0 2 = (gV τ 23 0 2) from (gV_putn eτ6 (Or.inr (Or.inr (by omega)))).trans rfl)))
            exact ih15 τ49 x53 i50 f51 b_a1 (iv_wk b54 (by decide)) v52 (by have q := hm15; omega)
      have J95 : ∀ (τ : Sg) (y3 : Int32) (z0 : Int32) (z1 : Int32) (z2 : Int32), Inv τ → Fr MS_X12_halfS AS_X12_halfS σ τ → IV a1 0 200 → IV y2 0 6 → IV y3 (-2147483648) 2147483647 → IV z0 1 2 → IV z1 (-2147483648) 2147483647 → IV z2 (-2147483648) 2147483647 → (SFm σ τ) → MW p l e { frames := 0, cells := 0, slots := 0, locals := 0 } s m args below meth c (MQ below (QP G (PV fun τ => Inv τ ∧ Fr MS_X12_halfS AS_X12_halfS σ τ ∧ SFm σ τ)) args s 0 0 (aG G)) 5 G 0 0 95 [some (.ref (G.1 22 0)), some (.int a1), some (.int y2), some (.int y3), none] [.int z0, .int z1, .int z2] τ := by
        intro τ y3 z0 z1 z2 iτ fτ b_a1 b_y2 b_y3 b_z0 b_z1 b_z2 v_SM
        have u56 : IV (gV τ 23 0 2) 0 7 := iτ.1 23 0 2
        refine m_imul C dX12_half_95 ?_
        refine m_topi (fun x57 ex57 => ?_)
        refine m_iadd C dX12_half_96 ?_
        refine m_topi (fun x58 ex58 => ?_)
        refine m_istore (L1 := [some (.ref (G.1 22 0)), some (.int a1), some (.int y2), some (.int y3), some (.int x58)]) C dX12_half_97 (by decide) rfl rfl ?_
        refine m_iload C dX12_half_99 rfl ?_
        refine m_iconst (v := (-1)) C dX12_half_101 (by decide) ?_
        refine m_icmp_ge (tgt := 109) C dX12_half_102 (by decide) (fun c59 => ?_) (fun c59 => ?_)
        · have f60 : -1 ≤ x58.toInt := by
            have q : _ := c59
            simp only [ti_nle, ti_nlt, ti_le, ti_lt, ti_eq, ti_ne, Classical.not_not, kt_m1] at q
            omega
          have b61 : IV x58 (-1) 2147483647 := ⟨by have q1 := kc_m1; have q2 := (iv_any x58); omega, by have q1 := kc_m1; have q2 := (iv_any x58); omega⟩
          refine m_iload C dX12_half_109 rfl ?_
          refine m_aload_n C dX12_half_111 rfl rfl ?_
          refine g_22_0 C q4_116 dX12_half_112 ?_
          refine m_iconst (v := 0) C dX12_half_115 (by decide) ?_
          refine al_23 C kc_0 (by decide) kn_0 dX12_half_116 ?_
          refine m_topi (fun x62 ex62 => ?_)
          refine m_icmp_lt (tgt := 131) C dX12_half_117 (by decide) (fun c63 => ?_) (fun c63 => ?_)
          · have f64 : x58.toInt < x62.toInt := by
              have q : _ := c63
              simp only [ti_nle, ti_nlt, ti_le, ti_lt, ti_eq, ti_ne, Classical.not_not] at q
              omega
            have b65 : IV x58 (-1) 2147483646 := ⟨by have q1 := b61; have q2 := (iv_any x62); omega, by have q1 := b61; have q2 := (iv_any x62); omega⟩
            have b66 : IV x62 0 2147483647 := ⟨by have q1 := b61; have q2 := (iv_any x62); omega, by have q1 := b61; have q2 := (iv_any x62); omega⟩
            refine m_iload C dX12_half_131 rfl ?_
            refine m_sub (L1 := [some (.ref (G.1 22 0)), some (.int a1), some (.int y2), some (.int y3), none]) ⟨rfl, ⟨rfl, ⟨rfl, ⟨rfl, trivial⟩⟩⟩⟩ ?_
            exact J133 τ y3 x58 iτ fτ b_a1 b_y2 b_y3 (iv_wk b65 (by decide)) v_SM
          · have f67 : x62.toInt ≤ x58.toInt := by
              have q : _ := c63
              simp only [ti_nle, ti_nlt, ti_le, ti_lt, ti_eq, ti_ne, Classical.not_not] at q
              omega
            refine m_aload_n C dX12_half_120 rfl rfl ?_
            refine g_22_0 C q4_116 dX12_half_121 ?_
            refine m_iconst (v := 0) C dX12_half_124 (by decide) ?_
            refine al_23 C kc_0 (by decide) kn_0 dX12_half_125 ?_
            refine m_eqs (w := x62) ex62.symm ?_
            refine m_iconst (v := 1) C dX12_half_126 (by decide) ?_
            refine m_isub C dX12_half_127 ?_
            refine m_topi (fun x68 ex68 => ?_)
            refine m_goto (tgt := 133) C dX12_half_128 (by decide) ?_
            refine m_sub (L1 := [some (.ref (G.1 22 0)), some (.int a1), some (.int y2), some (.int y3), none]) ⟨rfl, ⟨rfl, ⟨rfl, ⟨rfl, trivial⟩⟩⟩⟩ ?_
            exact J133 τ y3 x68 iτ fτ b_a1 b_y2 b_y3 (iv_any x68) v_SM
        · have f69 : x58.toInt < -1 := by
            have q : _ := c59
            simp only [ti_nle, ti_nlt, ti_le, ti_lt, ti_eq, ti_ne, Classical.not_not, kt_m1] at q
            omega
          have b70 : IV x58 (-2147483648) (-2) := ⟨by have q1 := (iv_any x58); have q2 := kc_m1; omega, by have q1 := (iv_any x58); have q2 := kc_m1; omega⟩
          refine m_iconst (v := (-1)) C dX12_half_105 (by decide) ?_
          refine m_goto (tgt := 133) C dX12_half_106 (by decide) ?_
          refine m_sub (L1 := [some (.ref (G.1 22 0)), some (.int a1), some (.int y2), some (.int y3), none]) ⟨rfl, ⟨rfl, ⟨rfl, ⟨rfl, trivial⟩⟩⟩⟩ ?_
          exact J133 τ y3 (-1) iτ fτ b_a1 b_y2 b_y3 (iv_wk kc_m1 (by decide)) v_SM
      have u71 : IV (gV τ 23 0 2) 0 7 := iτ.1 23 0 2
      refine m_iload_n C dX12_half_15 rfl rfl ?_
      refine m_aload_n C dX12_half_16 rfl rfl ?_
      refine g_22_0 C q4_116 dX12_half_17 ?_
      refine m_iconst (v := 2) C dX12_half_20 (by decide) ?_
      refine al_23 C kc_2 (by decide) kn_2 dX12_half_21 ?_
      refine m_eqs (w := (gV τ 23 0 2)) rfl ?_
      refine m_icmp_ge (tgt := 191) C dX12_half_22 (by decide) (fun c72 => ?_) (fun c72 => ?_)
      · have f73 : (gV τ 23 0 2).toInt ≤ y2.toInt := by
          have q : _ := c72
          simp only [ti_nle, ti_nlt, ti_le, ti_lt, ti_eq, ti_ne, Classical.not_not] at q
          omega
        exact m_vret C hr hlk (by decide) (by decide) dX12_half_191 ⟨rfl, iτ, fτ, v_SM⟩
      · have f74 : y2.toInt < (gV τ 23 0 2).toInt := by
          have q : _ := c72
          simp only [ti_nle, ti_nlt, ti_le, ti_lt, ti_eq, ti_ne, Classical.not_not] at q
          omega
        have b75 : IV y2 0 6 := ⟨by have q1 := b_y2; have q2 := u71; omega, by have q1 := b_y2; have q2 := u71; omega⟩
        have b76 : IV (gV τ 23 0 2) 1 7 := ⟨by have q1 := b_y2; have q2 := u71; omega, by have q1 := b_y2; have q2 := u71; omega⟩
        refine m_aload_n C dX12_half_25 rfl rfl ?_
        refine g_22_0 C q4_116 dX12_half_26 ?_
        refine m_iload_n C dX12_half_29 rfl rfl ?_
        refine m_bipush (v := 31) C dX12_half_30 (by decide) ?_
        refine m_iadd C dX12_half_32 ?_
        refine m_topi (fun x77 ex77 => ?_)
        have tx77 : x77.toInt = a1.toInt + 31 := by rw [ex77, ti_addv b_a1 kc_31 (by decide), kt_31]
        have b78 : IV x77 31 231 := by rw [ex77]; exact iv_add b_a1 kc_31 (by decide)
        refine m_iload_n C dX12_half_33 rfl rfl ?_
        refine m_iadd C dX12_half_34 ?_
        refine m_topi (fun x79 ex79 => ?_)
        have tx79 : x79.toInt = x77.toInt + y2.toInt := by rw [ex79, ti_addv b78 b75 (by decide)]
        have b80 : IV x79 31 237 := by rw [ex79]; exact iv_add b78 b75 (by decide)
        refine al_23 C b80 (by decide) rfl dX12_half_35 ?_
        refine m_topi (fun x81 ex81 => ?_)
        refine m_istore_n (L1 := [some (.ref (G.1 22 0)), some (.int a1), some (.int y2), some (.int x81), none]) C dX12_half_36 rfl (by decide) rfl rfl ?_
        refine m_iload_n C dX12_half_37 rfl rfl ?_
        refine m_if_eq (tgt := 185) C dX12_half_38 (by decide) (fun c82 => ?_) (fun c82 => ?_)
        · have f83 : x81.toInt = 0 := by
            have q : _ := c82
            simp only [ti_nle, ti_nlt, ti_le, ti_lt, ti_eq, ti_ne, Classical.not_not, kt_0] at q
            omega
          have b84 : IV x81 0 0 := ⟨by have q1 := (iv_any x81); have q2 := kc_0; omega, by have q1 := (iv_any x81); have q2 := kc_0; omega⟩
          obtain ⟨x85, ex85⟩ : ∃ y : Int32, y = y2 + 1 := ⟨_, rfl⟩
          have tx85 : x85.toInt = y2.toInt + 1 := by rw [ex85, ti_addv b75 kc_1 (by decide), kt_1]
          have b86 : IV x85 1 7 := by rw [ex85]; exact iv_add b75 kc_1 (by decide)
          refine m_iinc (v := x85) (L1 := [some (.ref (G.1 22 0)), some (.int a1), some (.int x85), some (.int x81), none]) C dX12_half_185 rfl (by rw [ex85]; rfl) (by decide) rfl rfl ?_
          refine m_goto (tgt := 15) C dX12_half_188 (by decide) ?_
          refine m_sub (L1 := [some (.ref (G.1 22 0)), some (.int a1), some (.int x85), none, none]) ⟨rfl, ⟨rfl, ⟨rfl, trivial⟩⟩⟩ ?_
          exact ih15 τ x85 iτ fτ b_a1 (iv_wk b86 (by decide)) v_SM (by have q := hm15; omega)
        · have f87 : x81.toInt ≠ 0 := by
            have q : _ := c82
            simp only [ti_nle, ti_nlt, ti_le, ti_lt, ti_eq, ti_ne, Classical.not_not, kt_0] at q
            omega
          refine m_aload_n C dX12_half_41 rfl rfl ?_
          refine g_22_0 C q4_116 dX12_half_42 ?_
          refine m_iload_n C dX12_half_45 rfl rfl ?_
          refine m_bipush (v := 47) C dX12_half_46 (by decide) ?_
          refine m_iadd C dX12_half_48 ?_
          refine m_topi (fun x88 ex88 => ?_)
          have tx88 : x88.toInt = a1.toInt + 47 := by rw [ex88, ti_addv b_a1 kc_47 (by decide), kt_47]
          have b89 : IV x88 47 247 := by rw [ex88]; exact iv_add b_a1 kc_47 (by decide)
          refine al_23 C b89 (by decide) rfl dX12_half_49 ?_
          refine m_topi (fun x90 ex90 => ?_)
          refine m_aload_n C dX12_half_50 rfl rfl ?_
          refine g_22_0 C q4_116 dX12_half_51 ?_
          refine m_bipush (v := 17) C dX12_half_54 (by decide) ?_
          refine m_iload_n C dX12_half_56 rfl rfl ?_
          refine m_iadd C dX12_half_57 ?_
          refine m_topi (fun x91 ex91 => ?_)
          have tx91 : x91.toInt = 17 + y2.toInt := by rw [ex91, ti_addv kc_17 b75 (by decide), kt_17]
          have b92 : IV x91 17 23 := by rw [ex91]; exact iv_add kc_17 b75 (by decide)
          refine al_23 C b92 (by decide) rfl dX12_half_58 ?_
          refine m_topi (fun x93 ex93 => ?_)
          have b94 : IV x93 1 2147483647 := by
            have q := iτ.2.1 0 y2.toInt.toNat (by decide) (by decide) (by omega) (by show _ < (gV τ 23 0 2).toInt; omega)
            have q2 : gV τ 23 0 ((x91.toInt.toNat)) = x93 := ex93.symm
            rw [show 50 * 0 + 17 + y2.toInt.toNat = (x91.toInt.toNat) by omega, q2] at q
            exact ⟨q, (iv_any _).2⟩
          refine m_irem C dX12_half_59 (iv_nz b94 (by decide)) ?_
          refine m_topi (fun x95 ex95 => ?_)
          refine m_if_eq (tgt := 66) C dX12_half_60 (by decide) (fun c96 => ?_) (fun c96 => ?_)
          · have f97 : x95.toInt = 0 := by
              have q : _ := c96
              simp only [ti_nle, ti_nlt, ti_le, ti_lt, ti_eq, ti_ne, Classical.not_not, kt_0] at q
              omega
            have b98 : IV x95 0 0 := ⟨by have q1 := (iv_any x95); have q2 := kc_0; omega, by have q1 := (iv_any x95); have q2 := kc_0; omega⟩
            refine m_aload_n C dX12_half_66 rfl rfl ?_
            refine g_22_0 C q4_116 dX12_half_67 ?_
            refine m_iload_n C dX12_half_70 rfl rfl ?_
            refine m_bipush (v := 24) C dX12_half_71 (by decide) ?_
            refine m_iadd C dX12_half_73 ?_
            refine m_topi (fun x99 ex99 => ?_)
            have tx99 : x99.toInt = a1.toInt + 24 := by rw [ex99, ti_addv b_a1 kc_24 (by decide), kt_24]
            have b100 : IV x99 24 224 := by rw [ex99]; exact iv_add b_a1 kc_24 (by decide)
            refine m_iload_n C dX12_half_74 rfl rfl ?_
            refine m_iadd C dX12_half_75 ?_
            refine m_topi (fun x101 ex101 => ?_)
            have tx101 : x101.toInt = x99.toInt + y2.toInt := by rw [ex101, ti_addv b100 b75 (by decide)]
            have b102 : IV x101 24 230 := by rw [ex101]; exact iv_add b100 b75 (by decide)
            refine al_23 C b102 (by decide) rfl dX12_half_76 ?_
            refine m_topi (fun x103 ex103 => ?_)
            refine m_iload_n C dX12_half_77 rfl rfl ?_
            refine m_aload_n C dX12_half_78 rfl rfl ?_
            refine g_22_0 C q4_116 dX12_half_79 ?_
            refine m_iconst (v := 3) C dX12_half_82 (by decide) ?_
            refine m_iload_n C dX12_half_83 rfl rfl ?_
            refine m_iadd C dX12_half_84 ?_
            refine m_topi (fun x104 ex104 => ?_)
            have tx104 : x104.toInt = 3 + y2.toInt := by rw [ex104, ti_addv kc_3 b75 (by decide), kt_3]
            have b105 : IV x104 3 9 := by rw [ex104]; exact iv_add kc_3 b75 (by decide)
            refine al_23 C b105 (by decide) rfl dX12_half_85 ?_
            refine m_topi (fun x106 ex106 => ?_)
            refine m_iconst (v := 4) C dX12_half_86 (by decide) ?_
            refine m_icmp_ne (tgt := 94) C dX12_half_87 (by decide) (fun c107 => ?_) (fun c107 => ?_)
            · have f108 : x106.toInt ≠ 4 := by
                have q : _ := c107
                simp only [ti_nle, ti_nlt, ti_le, ti_lt, ti_eq, ti_ne, Classical.not_not, kt_4] at q
                omega
              refine m_iconst (v := 1) C dX12_half_94 (by decide) ?_
              exact J95 τ x81 1 x81 x103 iτ fτ b_a1 b75 (iv_any x81) (iv_wk kc_1 (by decide)) (iv_any x81) (iv_any x103) v_SM
            · have f109 : x106.toInt = 4 := by
                have q : _ := c107
                simp only [ti_nle, ti_nlt, ti_le, ti_lt, ti_eq, ti_ne, Classical.not_not, kt_4] at q
                omega
              have b110 : IV x106 4 4 := ⟨by have q1 := (iv_any x106); have q2 := kc_4; omega, by have q1 := (iv_any x106); have q2 := kc_4; omega⟩
              refine m_iconst (v := 2) C dX12_half_90 (by decide) ?_
              refine m_goto (tgt := 95) C dX12_half_91 (by decide) ?_
              exact J95 τ x81 2 x81 x103 iτ fτ b_a1 b75 (iv_any x81) (iv_wk kc_2 (by decide)) (iv_any x81) (iv_any x103) v_SM
          · have f111 : x95.toInt ≠ 0 := by
              have q : _ := c96
              simp only [ti_nle, ti_nlt, ti_le, ti_lt, ti_eq, ti_ne, Classical.not_not, kt_0] at q
              omega
            refine m_goto (tgt := 185) C dX12_half_63 (by decide) ?_
            obtain ⟨x112, ex112⟩ : ∃ y : Int32, y = y2 + 1 := ⟨_, rfl⟩
            have tx112 : x112.toInt = y2.toInt + 1 := by rw [ex112, ti_addv b75 kc_1 (by decide), kt_1]
            have b113 : IV x112 1 7 := by rw [ex112]; exact iv_add b75 kc_1 (by decide)
            refine m_iinc (v := x112) (L1 := [some (.ref (G.1 22 0)), some (.int a1), some (.int x112), some (.int x81), none]) C dX12_half_185 rfl (by rw [ex112]; rfl) (by decide) rfl rfl ?_
            refine m_goto (tgt := 15) C dX12_half_188 (by decide) ?_
            refine m_sub (L1 := [some (.ref (G.1 22 0)), some (.int a1), some (.int x112), none, none]) ⟨rfl, ⟨rfl, ⟨rfl, trivial⟩⟩⟩ ?_
            exact ih15 τ x112 iτ fτ b_a1 (iv_wk b113 (by decide)) v_SM (by have q := hm15; omega)
  have u114 : IV (gV σ 23 0 2) 0 7 := hI.1 23 0 2
  refine m_aload_n C dX12_half_0 rfl rfl ?_
  refine g_22_0 C q4_116 dX12_half_1 ?_
  refine m_iload_n C dX12_half_4 rfl rfl ?_
  refine m_bipush (v := 47) C dX12_half_5 (by decide) ?_
  refine m_iadd C dX12_half_7 ?_
  refine m_topi (fun x115 ex115 => ?_)
  have tx115 : x115.toInt = a1.toInt + 47 := by rw [ex115, ti_addv ha1 kc_47 (by decide), kt_47]
  have b116 : IV x115 47 247 := by rw [ex115]; exact iv_add ha1 kc_47 (by decide)
  refine m_dup2 C dX12_half_8 rfl rfl ?_
  refine al_23 C b116 (by decide) rfl dX12_half_9 ?_
  refine m_topi (fun x117 ex117 => ?_)
  refine m_iconst (v := 1) C dX12_half_10 (by decide) ?_
  refine m_iadd C dX12_half_11 ?_
  refine m_topi (fun x118 ex118 => ?_)
  refine as_23 C b116 (by decide) rfl dX12_half_12 ?_
  refine m_tops (fun τ119 eτ119 => ?_)
  have i120 : Inv τ119 := eτ119 ▸ Inv.putW hI (by omega)
  have f121 : Fr MS_X12_halfS AS_X12_halfS σ τ119 := eτ119 ▸ Fr.put (Fr.rf) (Or.inr (by decide))
  have v122 : SFm σ τ119 := SFm.rf.put eτ119 (by omega)
  refine m_iconst (v := 0) C dX12_half_13 (by decide) ?_
  refine m_istore_n (L1 := [some (.ref (G.1 22 0)), some (.int a1), some (.int 0), none, none]) C dX12_half_14 rfl (by decide) rfl rfl ?_
  have q123 : (gV τ119 23 0 2).toInt = (gV σ 23 0 2).toInt := congrArg Int32.toInt (show (gV τ119 23 0 2) = (gV σ 23 0 2) from (show gV τ119 23 0 2 = (gV σ 23 0 2) from (gV_putn eτ119 (Or.inr (Or.inr (by omega)))).trans rfl))
  exact J15 ((7 - (0 : Int32).toInt).toNat + 1) τ119 0 i120 f121 ha1 (iv_wk kc_0 (by decide)) v122 (Nat.lt_succ_self _)

abbrev MS_X12_creepS : List (Nat × Nat) := []
abbrev AS_X12_creepS : List Nat := [23]
set_option maxHeartbeats 4000000 in
set_option maxRecDepth 100000 in
theorem c_X12_creepS (l : Launch) (G : Gt) (σ : Sg) (a1 : Int32) (hI : Inv σ) (ha1 : IV a1 0 200) (hr0 : (a1.toInt = 0 ∨ a1.toInt = 200)) : Mc l G yX12_creep cX12_creep 4 none 2 46 0 0 [.ref (G.1 22 0), .int a1] σ (PV fun τ => Inv τ ∧ Fr MS_X12_creepS AS_X12_creepS σ τ ∧ SFm σ τ) := by
  refine Mc.of (L0 := [some (.ref (G.1 22 0)), some (.int a1), none, none]) (by decide) (Nat.le_of_ble_eq_true rfl) rfl ?_
  intro p e s m args below meth c C hr hlk
  have C : Cx p s m args c cX12_creep 4 "LeanTowerModel" := C
  have k0 : (0 : Int32).toInt = 0 := by decide
  have k1 : (1 : Int32).toInt = 1 := by decide
  refine m_aload_n C dX12_creep_0 rfl rfl ?_
  refine m_iload_n C dX12_creep_1 rfl rfl ?_
  refine m_iconst (v := 1) C dX12_creep_2 (by decide) ?_
  have q1 := kt_1
  refine m_callV (n := 2) (ci := 11) (st := []) C (c_X12_leanOf l G σ (a1) (1) hI ha1 (by omega)) (by decide) (by decide) rfl rfl rfl q5_82 q5_79 q5_81 q0_41 q1_7 (by decide +kernel) rfl (by decide) (by decide) rfl (Nat.le_of_ble_eq_true rfl) dX12_creep_3 ?_
  rintro _ τ2 ⟨x5, rfl, i3, f4, b6⟩
  have g7 : Fr MS_X12_creepS AS_X12_creepS σ τ2 := Fr.call (Fr.rf) f4 (by decide)
  have v9 : SFm σ τ2 := SFm.rf.fr f4 (by simp) (by decide)
  show MW p l e _ s m args below meth c _ 4 G 0 0 6 [some (.ref (G.1 22 0)), some (.int a1), none, none] [.int x5] τ2
  refine m_bipush (v := 10) C dX12_creep_6 (by decide) ?_
  refine m_idiv C dX12_creep_8 (iv_nz kc_10 (by decide)) ?_
  refine m_topi (fun x10 ex10 => ?_)
  refine m_istore_n (L1 := [some (.ref (G.1 22 0)), some (.int a1), some (.int x10), none]) C dX12_creep_9 rfl (by decide) rfl rfl ?_
  refine m_aload_n C dX12_creep_10 rfl rfl ?_
  refine m_iload_n C dX12_creep_11 rfl rfl ?_
  refine m_iconst (v := 0) C dX12_creep_12 (by decide) ?_
  have q11 := kt_0
  refine m_callV (n := 2) (ci := 11) (st := []) C (c_X12_leanOf l G τ2 (a1) (0) i3 ha1 (by omega)) (by decide) (by decide) rfl rfl rfl q5_82 q5_79 q5_81 q0_41 q1_7 (by decide +kernel) rfl (by decide) (by decide) rfl (Nat.le_of_ble_eq_true rfl) dX12_creep_13 ?_
  rintro _ τ12 ⟨x15, rfl, i13, f14, b16⟩
  have g17 : Fr MS_X12_creepS AS_X12_creepS σ τ12 := Fr.call (g7) f14 (by decide)
  have v19 : SFm σ τ12 := v9.fr f14 (by simp) (by decide)
  show MW p l e _ s m args below meth c _ 4 G 0 0 16 [some (.ref (G.1 22 0)), some (.int a1), some (.int x10), none] [.int x15] τ12
  refine m_bipush (v := 10) C dX12_creep_16 (by decide) ?_
  refine m_idiv C dX12_creep_18 (iv_nz kc_10 (by decide)) ?_
  refine m_topi (fun x20 ex20 => ?_)
  refine m_istore_n (L1 := [some (.ref (G.1 22 0)), some (.int a1), some (.int x10), some (.int x20)]) C dX12_creep_19 rfl (by decide) rfl rfl ?_
  refine m_aload_n C dX12_creep_20 rfl rfl ?_
  refine g_22_0 C q4_116 dX12_creep_21 ?_
  refine m_iload_n C dX12_creep_24 rfl rfl ?_
  refine m_bipush (v := 48) C dX12_creep_25 (by decide) ?_
  refine m_iadd C dX12_creep_27 ?_
  refine m_topi (fun x21 ex21 => ?_)
  have tx21 : x21.toInt = a1.toInt + 48 := by rw [ex21, ti_addv ha1 kc_48 (by decide), kt_48]
  have b22 : IV x21 48 248 := by rw [ex21]; exact iv_add ha1 kc_48 (by decide)
  refine m_dup2 C dX12_creep_28 rfl rfl ?_
  refine al_23 C b22 (by decide) rfl dX12_creep_29 ?_
  refine m_topi (fun x23 ex23 => ?_)
  refine m_iload_n C dX12_creep_30 rfl rfl ?_
  refine m_iadd C dX12_creep_31 ?_
  refine m_topi (fun x24 ex24 => ?_)
  refine as_23 C b22 (by decide) rfl dX12_creep_32 ?_
  refine m_tops (fun τ25 eτ25 => ?_)
  have i26 : Inv τ25 := eτ25 ▸ Inv.putW i13 (by omega)
  have f27 : Fr MS_X12_creepS AS_X12_creepS σ τ25 := eτ25 ▸ Fr.put (g17) (Or.inr (by decide))
  have v28 : SFm σ τ25 := v19.put eτ25 (by omega)
  refine m_aload_n C dX12_creep_33 rfl rfl ?_
  refine g_22_0 C q4_116 dX12_creep_34 ?_
  refine m_iload_n C dX12_creep_37 rfl rfl ?_
  refine m_bipush (v := 49) C dX12_creep_38 (by decide) ?_
  refine m_iadd C dX12_creep_40 ?_
  refine m_topi (fun x29 ex29 => ?_)
  have tx29 : x29.toInt = a1.toInt + 49 := by rw [ex29, ti_addv ha1 kc_49 (by decide), kt_49]
  have b30 : IV x29 49 249 := by rw [ex29]; exact iv_add ha1 kc_49 (by decide)
  refine m_dup2 C dX12_creep_41 rfl rfl ?_
  refine al_23 C b30 (by decide) rfl dX12_creep_42 ?_
  refine m_topi (fun x31 ex31 => ?_)
  refine m_iload_n C dX12_creep_43 rfl rfl ?_
  refine m_iadd C dX12_creep_44 ?_
  refine m_topi (fun x32 ex32 => ?_)
  refine as_23 C b30 (by decide) rfl dX12_creep_45 ?_
  refine m_tops (fun τ33 eτ33 => ?_)
  have i34 : Inv τ33 := eτ33 ▸ Inv.putW i26 (by omega)
  have f35 : Fr MS_X12_creepS AS_X12_creepS σ τ33 := eτ33 ▸ Fr.put (f27) (Or.inr (by decide))
  have v36 : SFm σ τ33 := v28.put eτ33 (by omega)
  exact m_vret C hr hlk (by decide) (by decide) dX12_creep_46 ⟨rfl, i34, f35, v36⟩

abbrev MS_X12_foretellS : List (Nat × Nat) := [(22, 17)]
abbrev AS_X12_foretellS : List Nat := [23]
set_option maxHeartbeats 4000000 in
set_option maxRecDepth 100000 in
theorem c_X12_foretellS (l : Launch) (G : Gt) (σ : Sg) (a1 : Int32) (a2 : Int32) (hI : Inv σ) (ha1 : IV a1 (-1) 6) : Mc l G yX12_foretell cX12_foretell 6 (some .int) 3 67 0 0 [.ref (G.1 22 0), .int a1, .int a2] σ (PI fun r τ => Inv τ ∧ Fr MS_X12_foretellS AS_X12_foretellS σ τ ∧ IV r (-2147483648) 2147483647 ∧ SFm σ τ) := by
  refine Mc.of (L0 := [some (.ref (G.1 22 0)), some (.int a1), some (.int a2), none, none, none]) (by decide) (Nat.le_of_ble_eq_true rfl) rfl ?_
  intro p e s m args below meth c C hr hlk
  have C : Cx p s m args c cX12_foretell 6 "LeanTowerModel" := C
  have k0 : (0 : Int32).toInt = 0 := by decide
  have k1 : (1 : Int32).toInt = 1 := by decide
  have J11 : ∀ (n : Nat) (τ : Sg) (y3 : Int32) (y4 : Int32), Inv τ → Fr MS_X12_foretellS AS_X12_foretellS σ τ → IV a1 (-1) 6 → IV a2 (-2147483648) 2147483647 → IV y3 (-2147483648) 2147483647 → IV y4 0 65 → (SFm σ τ) → (65 - y4.toInt).toNat < n → MW p l e { frames := 3, cells := 0, slots := 0, locals := 67 } s m args below meth c (MQ below (QP G (PI fun r τ => Inv τ ∧ Fr MS_X12_foretellS AS_X12_foretellS σ τ ∧ IV r (-2147483648) 2147483647 ∧ SFm σ τ)) args s 0 0 (aG G)) 6 G 0 0 11 [some (.ref (G.1 22 0)), some (.int a1), some (.int a2), some (.int y3), some (.int y4), none] [] τ := by
    intro n
    induction n with
    | zero => intro τ y3 y4 iτ fτ b_a1 b_a2 b_y3 b_y4 v_SM hm; exact absurd hm (Nat.not_lt_zero _)
    | succ n ih11 =>
      intro τ y3 y4 iτ fτ b_a1 b_a2 b_y3 b_y4 v_SM hm11
      have J69 : ∀ (τ : Sg) (y5 : Int32) (z0 : Int32), Inv τ → Fr MS_X12_foretellS AS_X12_foretellS σ τ → IV a1 (-1) 6 → IV a2 (-2147483648) 2147483647 → IV y3 (-2147483648) 2147483647 → IV y4 0 64 → IV y5 (-2147483648) 2147483647 → IV z0 (-2147483648) 2147483647 → (SFm σ τ) → MW p l e { frames := 3, cells := 0, slots := 0, locals := 67 } s m args below meth c (MQ below (QP G (PI fun r τ => Inv τ ∧ Fr MS_X12_foretellS AS_X12_foretellS σ τ ∧ IV r (-2147483648) 2147483647 ∧ SFm σ τ)) args s 0 0 (aG G)) 6 G 0 0 69 [some (.ref (G.1 22 0)), some (.int a1), some (.int a2), some (.int y3), some (.int y4), some (.int y5)] [.int z0, .ref (G.1 22 0)] τ := by
        intro τ y5 z0 iτ fτ b_a1 b_a2 b_y3 b_y4 b_y5 b_z0 v_SM
        refine p_22_17 C q4_133 dX12_foretell_69 ?_
        refine m_tops (fun τ1 eτ1 => ?_)
        have i2 : Inv τ1 := eτ1 ▸ Inv.putF iτ (by decide) rfl
        have f3 : Fr MS_X12_foretellS AS_X12_foretellS σ τ1 := eτ1 ▸ Fr.put (fτ) (Or.inl (by decide))
        have v4 : SFm σ τ1 := v_SM.putO eτ1 (by decide)
        refine m_iload_n C dX12_foretell_72 rfl rfl ?_
        refine m_iload C dX12_foretell_73 rfl ?_
        refine m_callS (n := 2) (st := []) C (c_X12_greater l G τ1 (y3) (y5) i2 ) q5_99 q5_97 q5_98 q1_7 (by decide +kernel) rfl (by decide) (by decide) rfl (Nat.le_of_ble_eq_true rfl) dX12_foretell_75 ?_
        rintro _ τ5 ⟨x8, rfl, i6, f7, b9⟩
        have g10 : Fr MS_X12_foretellS AS_X12_foretellS σ τ5 := Fr.call (f3) f7 (by decide)
        have v12 : SFm σ τ5 := v4.fr f7 (by simp) (by decide)
        show MW p l e _ s m args below meth c _ 6 G 0 0 78 [some (.ref (G.1 22 0)), some (.int a1), some (.int a2), some (.int y3), some (.int y4), some (.int y5)] [.int x8] τ5
        refine m_istore_n (L1 := [some (.ref (G.1 22 0)), some (.int a1), some (.int a2), some (.int x8), some (.int y4), some (.int y5)]) C dX12_foretell_78 rfl (by decide) rfl rfl ?_
        refine m_iload C dX12_foretell_79 rfl ?_
        refine m_iload_n C dX12_foretell_81 rfl rfl ?_
        refine m_icmp_ne (tgt := 100) C dX12_foretell_82 (by decide) (fun c13 => ?_) (fun c13 => ?_)
        · have f14 : y4.toInt ≠ a2.toInt := by
            have q : _ := c13
            simp only [ti_nle, ti_nlt, ti_le, ti_lt, ti_eq, ti_ne, Classical.not_not] at q
            omega
          obtain ⟨x15, ex15⟩ : ∃ y : Int32, y = y4 + 1 := ⟨_, rfl⟩
          have tx15 : x15.toInt = y4.toInt + 1 := by rw [ex15, ti_addv b_y4 kc_1 (by decide), kt_1]
          have b16 : IV x15 1 65 := by rw [ex15]; exact iv_add b_y4 kc_1 (by decide)
          refine m_iinc (v := x15) (L1 := [some (.ref (G.1 22 0)), some (.int a1), some (.int a2), some (.int x8), some (.int x15), some (.int y5)]) C dX12_foretell_100 rfl (by rw [ex15]; rfl) (by decide) rfl rfl ?_
          refine m_goto (tgt := 11) C dX12_foretell_103 (by decide) ?_
          refine m_sub (L1 := [some (.ref (G.1 22 0)), some (.int a1), some (.int a2), some (.int x8), some (.int x15), none]) ⟨rfl, ⟨rfl, ⟨rfl, ⟨rfl, ⟨rfl, trivial⟩⟩⟩⟩⟩ ?_
          exact ih11 τ5 x8 x15 i6 g10 b_a1 b_a2 b9 (iv_wk b16 (by decide)) v12 (by have q := hm11; omega)
        · have f17 : y4.toInt = a2.toInt := by
            have q : _ := c13
            simp only [ti_nle, ti_nlt, ti_le, ti_lt, ti_eq, ti_ne, Classical.not_not] at q
            omega
          have b18 : IV a2 0 64 := ⟨by have q1 := b_y4; have q2 := b_a2; omega, by have q1 := b_y4; have q2 := b_a2; omega⟩
          refine m_iload_n C dX12_foretell_85 rfl rfl ?_
          refine m_if_lt (tgt := 100) C dX12_foretell_86 (by decide) (fun c19 => ?_) (fun c19 => ?_)
          · have f20 : a1.toInt < 0 := by
              have q : _ := c19
              simp only [ti_nle, ti_nlt, ti_le, ti_lt, ti_eq, ti_ne, Classical.not_not, kt_0] at q
              omega
            have b21 : IV a1 (-1) (-1) := ⟨by have q1 := b_a1; have q2 := kc_0; omega, by have q1 := b_a1; have q2 := kc_0; omega⟩
            obtain ⟨x22, ex22⟩ : ∃ y : Int32, y = y4 + 1 := ⟨_, rfl⟩
            have tx22 : x22.toInt = y4.toInt + 1 := by rw [ex22, ti_addv b_y4 kc_1 (by decide), kt_1]
            have b23 : IV x22 1 65 := by rw [ex22]; exact iv_add b_y4 kc_1 (by decide)
            refine m_iinc (v := x22) (L1 := [some (.ref (G.1 22 0)), some (.int a1), some (.int a2), some (.int x8), some (.int x22), some (.int y5)]) C dX12_foretell_100 rfl (by rw [ex22]; rfl) (by decide) rfl rfl ?_
            refine m_goto (tgt := 11) C dX12_foretell_103 (by decide) ?_
            refine m_sub (L1 := [some (.ref (G.1 22 0)), some (.int a1), some (.int a2), some (.int x8), some (.int x22), none]) ⟨rfl, ⟨rfl, ⟨rfl, ⟨rfl, ⟨rfl, trivial⟩⟩⟩⟩⟩ ?_
            exact ih11 τ5 x8 x22 i6 g10 (iv_wk b21 (by decide)) (iv_wk b18 (by decide)) b9 (iv_wk b23 (by decide)) v12 (by have q := hm11; omega)
          · have f24 : 0 ≤ a1.toInt := by
              have q : _ := c19
              simp only [ti_nle, ti_nlt, ti_le, ti_lt, ti_eq, ti_ne, Classical.not_not, kt_0] at q
              omega
            have b25 : IV a1 0 6 := ⟨by have q1 := kc_0; have q2 := b_a1; omega, by have q1 := kc_0; have q2 := b_a1; omega⟩
            refine m_aload_n C dX12_foretell_89 rfl rfl ?_
            refine g_22_0 C q4_116 dX12_foretell_90 ?_
            refine m_sipush (v := 231) C dX12_foretell_93 (by decide) ?_
            refine m_iload_n C dX12_foretell_96 rfl rfl ?_
            refine m_iadd C dX12_foretell_97 ?_
            refine m_topi (fun x26 ex26 => ?_)
            have tx26 : x26.toInt = 231 + a1.toInt := by rw [ex26, ti_addv kc_231 b25 (by decide), kt_231]
            have b27 : IV x26 231 237 := by rw [ex26]; exact iv_add kc_231 b25 (by decide)
            refine m_iconst (v := 1) C dX12_foretell_98 (by decide) ?_
            refine as_23 C b27 (by decide) rfl dX12_foretell_99 ?_
            refine m_tops (fun τ28 eτ28 => ?_)
            have i29 : Inv τ28 := eτ28 ▸ Inv.putW i6 (by omega)
            have f30 : Fr MS_X12_foretellS AS_X12_foretellS σ τ28 := eτ28 ▸ Fr.put (g10) (Or.inr (by decide))
            have v31 : SFm σ τ28 := v12.put eτ28 (by omega)
            obtain ⟨x32, ex32⟩ : ∃ y : Int32, y = y4 + 1 := ⟨_, rfl⟩
            have tx32 : x32.toInt = y4.toInt + 1 := by rw [ex32, ti_addv b_y4 kc_1 (by decide), kt_1]
            have b33 : IV x32 1 65 := by rw [ex32]; exact iv_add b_y4 kc_1 (by decide)
            refine m_iinc (v := x32) (L1 := [some (.ref (G.1 22 0)), some (.int a1), some (.int a2), some (.int x8), some (.int x32), some (.int y5)]) C dX12_foretell_100 rfl (by rw [ex32]; rfl) (by decide) rfl rfl ?_
            refine m_goto (tgt := 11) C dX12_foretell_103 (by decide) ?_
            refine m_sub (L1 := [some (.ref (G.1 22 0)), some (.int a1), some (.int a2), some (.int x8), some (.int x32), none]) ⟨rfl, ⟨rfl, ⟨rfl, ⟨rfl, ⟨rfl, trivial⟩⟩⟩⟩⟩ ?_
            exact ih11 τ28 x8 x32 i29 f30 (iv_wk b25 (by decide)) (iv_wk b18 (by decide)) b9 (iv_wk b33 (by decide)) v31 (by have q := hm11; omega)
      have J30 : ∀ (τ : Sg), Inv τ → Fr MS_X12_foretellS AS_X12_foretellS σ τ → IV a1 (-1) 6 → IV a2 (-2147483648) 2147483647 → IV y3 (-2147483648) 2147483647 → IV y4 0 64 → (SFm σ τ) → MW p l e { frames := 3, cells := 0, slots := 0, locals := 67 } s m args below meth c (MQ below (QP G (PI fun r τ => Inv τ ∧ Fr MS_X12_foretellS AS_X12_foretellS σ τ ∧ IV r (-2147483648) 2147483647 ∧ SFm σ τ)) args s 0 0 (aG G)) 6 G 0 0 30 [some (.ref (G.1 22 0)), some (.int a1), some (.int a2), some (.int y3), some (.int y4), none] [] τ := by
        intro τ iτ fτ b_a1 b_a2 b_y3 b_y4 v_SM
        refine m_aload_n C dX12_foretell_30 rfl rfl ?_
        refine m_sipush (v := 200) C dX12_foretell_31 (by decide) ?_
        have q34 := kt_200
        refine m_callV (n := 1) (ci := 11) (st := []) C (c_X12_worstOf l G τ (200) iτ (iv_wk kc_200 (by decide)) (by omega)) (by decide) (by decide) rfl rfl rfl q5_78 q5_75 q5_77 q0_40 q1_7 (by decide +kernel) rfl (by decide) (by decide) rfl (Nat.le_of_ble_eq_true rfl) dX12_foretell_34 ?_
        rintro _ τ35 ⟨x38, rfl, i36, f37, b39⟩
        have g40 : Fr MS_X12_foretellS AS_X12_foretellS σ τ35 := Fr.call (fτ) f37 (by decide)
        have v42 : SFm σ τ35 := v_SM.fr f37 (by simp) (by decide)
        show MW p l e _ s m args below meth c _ 6 G 0 0 37 [some (.ref (G.1 22 0)), some (.int a1), some (.int a2), some (.int y3), some (.int y4), none] [.int x38] τ35
        refine m_istore (L1 := [some (.ref (G.1 22 0)), some (.int a1), some (.int a2), some (.int y3), some (.int y4), some (.int x38)]) C dX12_foretell_37 (by decide) rfl rfl ?_
        refine m_aload_n C dX12_foretell_39 rfl rfl ?_
        refine m_aload_n C dX12_foretell_40 rfl rfl ?_
        refine g_22_17 C q4_133 dX12_foretell_41 ?_
        refine m_topi (fun x43 ex43 => ?_)
        refine m_ldc (v := (-1000000)) C dX12_foretell_44 q5_70 ?_
        refine m_icmp_ne (tgt := 65) C dX12_foretell_46 (by decide) (fun c44 => ?_) (fun c44 => ?_)
        · have f45 : x43.toInt ≠ -1000000 := by
            have q : _ := c44
            simp only [ti_nle, ti_nlt, ti_le, ti_lt, ti_eq, ti_ne, Classical.not_not, kt_m1000000] at q
            omega
          refine m_aload_n C dX12_foretell_65 rfl rfl ?_
          refine g_22_17 C q4_133 dX12_foretell_66 ?_
          refine m_eqs (w := x43) ex43.symm ?_
          exact J69 τ35 x38 x43 i36 g40 b_a1 b_a2 b_y3 b_y4 b39 (iv_any x43) v42
        · have f46 : x43.toInt = -1000000 := by
            have q : _ := c44
            simp only [ti_nle, ti_nlt, ti_le, ti_lt, ti_eq, ti_ne, Classical.not_not, kt_m1000000] at q
            omega
          have b47 : IV x43 (-1000000) (-1000000) := ⟨by have q1 := (iv_any x43); have q2 := kc_m1000000; omega, by have q1 := (iv_any x43); have q2 := kc_m1000000; omega⟩
          refine m_iload C dX12_foretell_49 rfl ?_
          refine m_aload_n C dX12_foretell_51 rfl rfl ?_
          refine g_22_0 C q4_116 dX12_foretell_52 ?_
          refine m_iconst (v := 1) C dX12_foretell_55 (by decide) ?_
          refine al_23 C kc_1 (by decide) kn_1 dX12_foretell_56 ?_
          refine m_topi (fun x48 ex48 => ?_)
          refine m_icmp_le (tgt := 65) C dX12_foretell_57 (by decide) (fun c49 => ?_) (fun c49 => ?_)
          · have f50 : x38.toInt ≤ x48.toInt := by
              have q : _ := c49
              simp only [ti_nle, ti_nlt, ti_le, ti_lt, ti_eq, ti_ne, Classical.not_not] at q
              omega
            refine m_aload_n C dX12_foretell_65 rfl rfl ?_
            refine g_22_17 C q4_133 dX12_foretell_66 ?_
            refine m_eqs (w := x43) ex43.symm ?_
            exact J69 τ35 x38 x43 i36 g40 b_a1 b_a2 b_y3 b_y4 b39 (iv_wk b47 (by decide)) v42
          · have f51 : x48.toInt < x38.toInt := by
              have q : _ := c49
              simp only [ti_nle, ti_nlt, ti_le, ti_lt, ti_eq, ti_ne, Classical.not_not] at q
              omega
            have b52 : IV x48 (-2147483648) 2147483646 := ⟨by have q1 := (iv_any x48); have q2 := b39; omega, by have q1 := (iv_any x48); have q2 := b39; omega⟩
            have b53 : IV x38 (-2147483647) 2147483647 := ⟨by have q1 := (iv_any x48); have q2 := b39; omega, by have q1 := (iv_any x48); have q2 := b39; omega⟩
            refine m_iload C dX12_foretell_60 rfl ?_
            refine m_goto (tgt := 69) C dX12_foretell_62 (by decide) ?_
            exact J69 τ35 x38 y4 i36 g40 b_a1 b_a2 b_y3 b_y4 (iv_wk b53 (by decide)) (iv_wk b_y4 (by decide)) v42
      refine m_iload C dX12_foretell_11 rfl ?_
      refine m_bipush (v := 64) C dX12_foretell_13 (by decide) ?_
      refine m_icmp_gt (tgt := 106) C dX12_foretell_15 (by decide) (fun c54 => ?_) (fun c54 => ?_)
      · have f55 : 64 < y4.toInt := by
          have q : _ := c54
          simp only [ti_nle, ti_nlt, ti_le, ti_lt, ti_eq, ti_ne, Classical.not_not, kt_64] at q
          omega
        have b56 : IV y4 65 65 := ⟨by have q1 := kc_64; have q2 := b_y4; omega, by have q1 := kc_64; have q2 := b_y4; omega⟩
        refine m_iload_n C dX12_foretell_106 rfl rfl ?_
        exact m_iret C hr hlk (by decide) (by decide) dX12_foretell_107 ⟨_, rfl, iτ, fτ, b_y3, v_SM⟩
      · have f57 : y4.toInt ≤ 64 := by
          have q : _ := c54
          simp only [ti_nle, ti_nlt, ti_le, ti_lt, ti_eq, ti_ne, Classical.not_not, kt_64] at q
          omega
        have b58 : IV y4 0 64 := ⟨by have q1 := b_y4; have q2 := kc_64; omega, by have q1 := b_y4; have q2 := kc_64; omega⟩
        refine m_iload C dX12_foretell_18 rfl ?_
        refine m_if_le (tgt := 30) C dX12_foretell_20 (by decide) (fun c59 => ?_) (fun c59 => ?_)
        · have f60 : y4.toInt ≤ 0 := by
            have q : _ := c59
            simp only [ti_nle, ti_nlt, ti_le, ti_lt, ti_eq, ti_ne, Classical.not_not, kt_0] at q
            omega
          have b61 : IV y4 0 0 := ⟨by have q1 := b58; have q2 := kc_0; omega, by have q1 := b58; have q2 := kc_0; omega⟩
          exact J30 τ iτ fτ b_a1 b_a2 b_y3 (iv_wk b61 (by decide)) v_SM
        · have f62 : 0 < y4.toInt := by
            have q : _ := c59
            simp only [ti_nle, ti_nlt, ti_le, ti_lt, ti_eq, ti_ne, Classical.not_not, kt_0] at q
            omega
          have b63 : IV y4 1 64 := ⟨by have q1 := kc_0; have q2 := b58; omega, by have q1 := kc_0; have q2 := b58; omega⟩
          refine m_aload_n C dX12_foretell_23 rfl rfl ?_
          refine m_sipush (v := 200) C dX12_foretell_24 (by decide) ?_
          have q64 := kt_200
          refine m_callV (n := 1) (ci := 11) (st := []) C (c_X12_halfS l G τ (200) iτ (iv_wk kc_200 (by decide)) (by omega)) (by decide) (by decide) rfl rfl rfl q5_74 q5_71 q5_73 q0_39 q1_7 (by decide +kernel) rfl (by decide) (by decide) rfl (Nat.le_of_ble_eq_true rfl) dX12_foretell_27 ?_
          rintro _ τ65 ⟨rfl, i66, f67, h71⟩
          have g70 : Fr MS_X12_foretellS AS_X12_foretellS σ τ65 := Fr.call (fτ) f67 (by decide)
          have v72 : SFm σ τ65 := v_SM.trans h71
          show MW p l e _ s m args below meth c _ 6 G 0 0 30 [some (.ref (G.1 22 0)), some (.int a1), some (.int a2), some (.int y3), some (.int y4), none] [] τ65
          exact J30 τ65 i66 g70 b_a1 b_a2 b_y3 (iv_wk b63 (by decide)) v72
  refine m_iconst (v := 0) C dX12_foretell_0 (by decide) ?_
  refine m_istore_n (L1 := [some (.ref (G.1 22 0)), some (.int a1), some (.int a2), some (.int 0), none, none]) C dX12_foretell_1 rfl (by decide) rfl rfl ?_
  refine m_aload_n C dX12_foretell_2 rfl rfl ?_
  refine m_ldc (v := (-1000000)) C dX12_foretell_3 q5_70 ?_
  refine p_22_17 C q4_133 dX12_foretell_5 ?_
  refine m_tops (fun τ73 eτ73 => ?_)
  have i74 : Inv τ73 := eτ73 ▸ Inv.putF hI (by decide) rfl
  have f75 : Fr MS_X12_foretellS AS_X12_foretellS σ τ73 := eτ73 ▸ Fr.put (Fr.rf) (Or.inl (by decide))
  have v76 : SFm σ τ73 := SFm.rf.putO eτ73 (by decide)
  refine m_iconst (v := 0) C dX12_foretell_8 (by decide) ?_
  refine m_istore (L1 := [some (.ref (G.1 22 0)), some (.int a1), some (.int a2), some (.int 0), some (.int 0), none]) C dX12_foretell_9 (by decide) rfl rfl ?_
  exact J11 ((65 - (0 : Int32).toInt).toNat + 1) τ73 0 0 i74 f75 ha1 (iv_any a2) (iv_wk kc_0 (by decide)) (iv_wk kc_0 (by decide)) v76 (Nat.lt_succ_self _)

abbrev MS_X12_foretellNowS : List (Nat × Nat) := [(22, 17)]
abbrev AS_X12_foretellNowS : List Nat := [23]
set_option maxHeartbeats 4000000 in
set_option maxRecDepth 100000 in
theorem c_X12_foretellNowS (l : Launch) (G : Gt) (σ : Sg) (hI : Inv σ) : Mc l G yX12_foretellNow cX12_foretellNow 1 (some .int) 4 92 0 0 [.ref (G.1 22 0)] σ (PI fun r τ => Inv τ ∧ Fr MS_X12_foretellNowS AS_X12_foretellNowS σ τ ∧ IV r (-2147483648) 2147483647 ∧ SFm σ τ) := by
  refine Mc.of (L0 := [some (.ref (G.1 22 0))]) (by decide) (Nat.le_of_ble_eq_true rfl) rfl ?_
  intro p e s m args below meth c C hr hlk
  have C : Cx p s m args c cX12_foretellNow 1 "LeanTowerModel" := C
  have k0 : (0 : Int32).toInt = 0 := by decide
  have k1 : (1 : Int32).toInt = 1 := by decide
  refine m_aload_n C dX12_foretellNow_0 rfl rfl ?_
  refine m_iconst (v := 0) C dX12_foretellNow_1 (by decide) ?_
  refine m_sipush (v := 200) C dX12_foretellNow_2 (by decide) ?_
  have q1 := kt_0
  have q2 := kt_200
  refine m_callV (n := 2) (ci := 11) (st := []) C (c_X12_copyAll l G σ (0) (200) hI (iv_wk kc_0 (by decide)) (iv_wk kc_200 (by decide)) (by omega) (by omega) (by omega) (Or.inl (by omega))) (by decide) (by decide) rfl rfl rfl q5_38 q5_35 q5_37 q0_35 q1_7 (by decide +kernel) rfl (by decide) (by decide) rfl (Nat.le_of_ble_eq_true rfl) dX12_foretellNow_5 ?_
  rintro _ τ3 ⟨rfl, i4, f5, h9⟩
  have g8 : Fr MS_X12_foretellNowS AS_X12_foretellNowS σ τ3 := Fr.call (Fr.rf) f5 (by decide)
  have v10 : SFm σ τ3 := SFm.rf.cp h9 (by decide)
  show MW p l e _ s m args below meth c _ 1 G 0 0 8 [some (.ref (G.1 22 0))] [] τ3
  refine m_aload_n C dX12_foretellNow_8 rfl rfl ?_
  refine m_iconst (v := (-1)) C dX12_foretellNow_9 (by decide) ?_
  refine m_iconst (v := 0) C dX12_foretellNow_10 (by decide) ?_
  refine m_callV (n := 2) (ci := 11) (st := []) C (c_X12_foretellS l G τ3 ((-1)) (0) i4 (iv_wk kc_m1 (by decide))) (by decide) (by decide) rfl rfl rfl q5_132 q5_129 q5_131 q0_46 q1_7 (by decide +kernel) rfl (by decide) (by decide) rfl (Nat.le_of_ble_eq_true rfl) dX12_foretellNow_11 ?_
  rintro _ τ11 ⟨x14, rfl, i12, f13, b15, h17⟩
  have g16 : Fr MS_X12_foretellNowS AS_X12_foretellNowS σ τ11 := Fr.call (g8) f13 (by decide)
  have v18 : SFm σ τ11 := v10.trans h17
  show MW p l e _ s m args below meth c _ 1 G 0 0 14 [some (.ref (G.1 22 0))] [.int x14] τ11
  exact m_iret C hr hlk (by decide) (by decide) dX12_foretellNow_14 ⟨_, rfl, i12, g16, b15, v18⟩

abbrev MS_X12_worstS : List (Nat × Nat) := [(22, 17)]
abbrev AS_X12_worstS : List Nat := [23]
set_option maxHeartbeats 4000000 in
set_option maxRecDepth 100000 in
theorem c_X12_worstS (l : Launch) (G : Gt) (σ : Sg) (a1 : Int32) (hI : Inv σ) : Mc l G yX12_worst cX12_worst 3 (some .int) 5 112 0 0 [.ref (G.1 22 0), .int a1] σ (PI fun r τ => Inv τ ∧ Fr MS_X12_worstS AS_X12_worstS σ τ ∧ IV r (-2147483648) 2147483647 ∧ SFm σ τ) := by
  refine Mc.of (L0 := [some (.ref (G.1 22 0)), some (.int a1), none]) (by decide) (Nat.le_of_ble_eq_true rfl) rfl ?_
  intro p e s m args below meth c C hr hlk
  have C : Cx p s m args c cX12_worst 3 "LeanTowerModel" := C
  have k0 : (0 : Int32).toInt = 0 := by decide
  have k1 : (1 : Int32).toInt = 1 := by decide
  refine m_aload_n C dX12_worst_0 rfl rfl ?_
  refine m_callV (n := 0) (ci := 11) (st := []) C (c_X12_isTower l G σ  hI ) (by decide) (by decide) rfl rfl rfl q5_67 q5_64 q5_66 q0_38 q1_7 (by decide +kernel) rfl (by decide) (by decide) rfl (Nat.le_of_ble_eq_true rfl) dX12_worst_1 ?_
  rintro _ τ1 ⟨x4, rfl, i2, f3, b5⟩
  have g6 : Fr MS_X12_worstS AS_X12_worstS σ τ1 := Fr.call (Fr.rf) f3 (by decide)
  have v8 : SFm σ τ1 := SFm.rf.fr f3 (by simp) (by decide)
  show MW p l e _ s m args below meth c _ 3 G 0 0 4 [some (.ref (G.1 22 0)), some (.int a1), none] [.int x4] τ1
  refine m_if_ne (tgt := 10) C dX12_worst_4 (by decide) (fun c9 => ?_) (fun c9 => ?_)
  · have f10 : x4.toInt ≠ 0 := by
      have q : _ := c9
      simp only [ti_nle, ti_nlt, ti_le, ti_lt, ti_eq, ti_ne, Classical.not_not, kt_0] at q
      omega
    have b11 : IV x4 1 1 := ⟨by have q1 := b5; have q2 := kc_0; omega, by have q1 := b5; have q2 := kc_0; omega⟩
    refine m_iload_n C dX12_worst_10 rfl rfl ?_
    refine m_i2l C dX12_worst_11 ?_
    refine m_lconst (v := 0) C dX12_worst_12 (by decide) ?_
    refine m_lconst (v := 1) C dX12_worst_13 (by decide) ?_
    refine m_callS (n := 3) (st := []) C (c_X12_in l G τ1 ((a1 : Int32).toInt64) (0) (1) i2 ) q4_190 q4_188 q4_189 q1_7 (by decide +kernel) rfl (by decide) (by decide) rfl (Nat.le_of_ble_eq_true rfl) dX12_worst_14 ?_
    rintro _ τ12 ⟨x15, rfl, i13, f14, b16, h18⟩
    have g17 : Fr MS_X12_worstS AS_X12_worstS σ τ12 := Fr.call (g6) f14 (by decide)
    have v19 : SFm σ τ12 := v8.fr f14 (by simp) (by decide)
    have f20 := tl_i a1
    have f21 := kl_0
    have f22 := kl_1
    rcases h18 with ⟨h18_0, h18_1, h18_2⟩ | ⟨h18_0, h18_1⟩
    · skip
      have b23 : IV x15 1 1 := ⟨by omega, by omega⟩
      show MW p l e _ s m args below meth c _ 3 G 0 0 17 [some (.ref (G.1 22 0)), some (.int a1), none] [.int x15] τ12
      refine m_if_ne (tgt := 23) C dX12_worst_17 (by decide) (fun c24 => ?_) (fun c24 => ?_)
      · have f25 : x15.toInt ≠ 0 := by
          have q : _ := c24
          simp only [ti_nle, ti_nlt, ti_le, ti_lt, ti_eq, ti_ne, Classical.not_not, kt_0] at q
          omega
        have b26 : IV a1 0 1 := ⟨by have q1 := (iv_any a1); omega, by have q1 := (iv_any a1); omega⟩
        refine m_aload_n C dX12_worst_23 rfl rfl ?_
        refine m_callV (n := 0) (ci := 11) (st := []) C (c_X12_foretellNowS l G τ12  i13 ) (by decide) (by decide) rfl rfl rfl q5_128 q5_125 q5_127 q0_45 q1_7 (by decide +kernel) rfl (by decide) (by decide) rfl (Nat.le_of_ble_eq_true rfl) dX12_worst_24 ?_
        rintro _ τ27 ⟨x30, rfl, i28, f29, b31, h33⟩
        have g32 : Fr MS_X12_worstS AS_X12_worstS σ τ27 := Fr.call (g17) f29 (by decide)
        have v34 : SFm σ τ27 := v19.trans h33
        show MW p l e _ s m args below meth c _ 3 G 0 0 27 [some (.ref (G.1 22 0)), some (.int a1), none] [.int x30] τ27
        refine m_istore_n (L1 := [some (.ref (G.1 22 0)), some (.int a1), some (.int x30)]) C dX12_worst_27 rfl (by decide) rfl rfl ?_
        refine m_iload_n C dX12_worst_28 rfl rfl ?_
        refine m_if_ne (tgt := 36) C dX12_worst_29 (by decide) (fun c35 => ?_) (fun c35 => ?_)
        · have f36 : a1.toInt ≠ 0 := by
            have q : _ := c35
            simp only [ti_nle, ti_nlt, ti_le, ti_lt, ti_eq, ti_ne, Classical.not_not, kt_0] at q
            omega
          have b37 : IV a1 1 1 := ⟨by have q1 := b26; have q2 := kc_0; omega, by have q1 := b26; have q2 := kc_0; omega⟩
          refine m_aload_n C dX12_worst_36 rfl rfl ?_
          refine g_22_17 C q4_133 dX12_worst_37 ?_
          refine m_topi (fun x38 ex38 => ?_)
          exact m_iret C hr hlk (by decide) (by decide) dX12_worst_40 ⟨_, rfl, i28, g32, (iv_any x38), v34⟩
        · have f39 : a1.toInt = 0 := by
            have q : _ := c35
            simp only [ti_nle, ti_nlt, ti_le, ti_lt, ti_eq, ti_ne, Classical.not_not, kt_0] at q
            omega
          have b40 : IV a1 0 0 := ⟨by have q1 := b26; have q2 := kc_0; omega, by have q1 := b26; have q2 := kc_0; omega⟩
          refine m_iload_n C dX12_worst_32 rfl rfl ?_
          refine m_goto (tgt := 40) C dX12_worst_33 (by decide) ?_
          exact m_iret C hr hlk (by decide) (by decide) dX12_worst_40 ⟨_, rfl, i28, g32, b31, v34⟩
      · exfalso
        have q : _ := c24
        simp only [ti_nle, ti_nlt, ti_le, ti_lt, ti_eq, ti_ne, Classical.not_not, kt_0] at q
        have q1 := b23; have q2 := kc_0; omega
    · skip
      have b42 : IV x15 0 0 := ⟨by omega, by omega⟩
      show MW p l e _ s m args below meth c _ 3 G 0 0 17 [some (.ref (G.1 22 0)), some (.int a1), none] [.int x15] τ12
      refine m_if_ne (tgt := 23) C dX12_worst_17 (by decide) (fun c43 => ?_) (fun c43 => ?_)
      · exfalso
        have q : _ := c43
        simp only [ti_nle, ti_nlt, ti_le, ti_lt, ti_eq, ti_ne, Classical.not_not, kt_0] at q
        have q1 := b42; have q2 := kc_0; omega
      · have f45 : x15.toInt = 0 := by
          have q : _ := c43
          simp only [ti_nle, ti_nlt, ti_le, ti_lt, ti_eq, ti_ne, Classical.not_not, kt_0] at q
          omega
        refine m_ldc (v := (-1000001)) C dX12_worst_20 q4_192 ?_
        exact m_iret C hr hlk (by decide) (by decide) dX12_worst_22 ⟨_, rfl, i13, g17, (iv_wk kc_m1000001 (by decide)), v19⟩
  · have f46 : x4.toInt = 0 := by
      have q : _ := c9
      simp only [ti_nle, ti_nlt, ti_le, ti_lt, ti_eq, ti_ne, Classical.not_not, kt_0] at q
      omega
    have b47 : IV x4 0 0 := ⟨by have q1 := b5; have q2 := kc_0; omega, by have q1 := b5; have q2 := kc_0; omega⟩
    refine m_ldc (v := (-1000002)) C dX12_worst_7 q5_68 ?_
    exact m_iret C hr hlk (by decide) (by decide) dX12_worst_9 ⟨_, rfl, i2, g6, (iv_wk kc_m1000002 (by decide)), v8⟩

abbrev MS_X12_mostS : List (Nat × Nat) := [(22, 17)]
abbrev AS_X12_mostS : List Nat := [23]
set_option maxHeartbeats 4000000 in
set_option maxRecDepth 100000 in
theorem c_X12_mostS (l : Launch) (G : Gt) (σ : Sg) (hI : Inv σ) : Mc l G yX12_most cX12_most 5 (some .int) 4 92 0 0 [.ref (G.1 22 0)] σ (PI fun r τ => Inv τ ∧ Fr MS_X12_mostS AS_X12_mostS σ τ ∧ IV r (-1000002) 127 ∧ SFm σ τ) := by
  refine Mc.of (L0 := [some (.ref (G.1 22 0)), none, none, none, none]) (by decide) (Nat.le_of_ble_eq_true rfl) rfl ?_
  intro p e s m args below meth c C hr hlk
  have C : Cx p s m args c cX12_most 5 "LeanTowerModel" := C
  have k0 : (0 : Int32).toInt = 0 := by decide
  have k1 : (1 : Int32).toInt = 1 := by decide
  have J57 : ∀ (n : Nat) (τ : Sg) (y1 : Int32) (y2 : Int32) (y3 : Int32), Inv τ → Fr MS_X12_mostS AS_X12_mostS σ τ → IV y1 0 127 → IV y2 (-1000000) 127 → IV y3 0 128 → (SFm σ τ) → (128 - y3.toInt).toNat < n → MW p l e { frames := 4, cells := 0, slots := 0, locals := 92 } s m args below meth c (MQ below (QP G (PI fun r τ => Inv τ ∧ Fr MS_X12_mostS AS_X12_mostS σ τ ∧ IV r (-1000002) 127 ∧ SFm σ τ)) args s 0 0 (aG G)) 5 G 0 0 57 [some (.ref (G.1 22 0)), some (.int y1), some (.int y2), some (.int y3), none] [] τ := by
    intro n
    induction n with
    | zero => intro τ y1 y2 y3 iτ fτ b_y1 b_y2 b_y3 v_SM hm; exact absurd hm (Nat.not_lt_zero _)
    | succ n ih57 =>
      intro τ y1 y2 y3 iτ fτ b_y1 b_y2 b_y3 v_SM hm57
      have J98 : ∀ (n : Nat) (τ : Sg) (y4 : Int32), Inv τ → Fr MS_X12_mostS AS_X12_mostS σ τ → IV y1 0 127 → IV y2 (-1000000) 127 → IV y3 0 127 → IV y4 0 7 → (SFm σ τ) → (7 - y4.toInt).toNat < n → MW p l e { frames := 4, cells := 0, slots := 0, locals := 92 } s m args below meth c (MQ below (QP G (PI fun r τ => Inv τ ∧ Fr MS_X12_mostS AS_X12_mostS σ τ ∧ IV r (-1000002) 127 ∧ SFm σ τ)) args s 0 0 (aG G)) 5 G 0 0 98 [some (.ref (G.1 22 0)), some (.int y1), some (.int y2), some (.int y3), some (.int y4)] [] τ := by
        intro n
        induction n with
        | zero => intro τ y4 iτ fτ b_y1 b_y2 b_y3 b_y4 v_SM hm; exact absurd hm (Nat.not_lt_zero _)
        | succ n ih98 =>
          intro τ y4 iτ fτ b_y1 b_y2 b_y3 b_y4 v_SM hm98
          refine m_iload C dX12_most_98 rfl ?_
          refine m_aload_n C dX12_most_100 rfl rfl ?_
          refine g_22_0 C q4_116 dX12_most_101 ?_
          refine m_iconst (v := 2) C dX12_most_104 (by decide) ?_
          refine al_23 C kc_2 (by decide) kn_2 dX12_most_105 ?_
          refine m_topi (fun x1 ex1 => ?_)
          have b2 : IV x1 0 7 := by rw [ex1]; exact iτ.1 23 0 2
          refine m_icmp_ge (tgt := 150) C dX12_most_106 (by decide) (fun c3 => ?_) (fun c3 => ?_)
          · have f4 : x1.toInt ≤ y4.toInt := by
              have q : _ := c3
              simp only [ti_nle, ti_nlt, ti_le, ti_lt, ti_eq, ti_ne, Classical.not_not] at q
              omega
            refine m_aload_n C dX12_most_150 rfl rfl ?_
            refine m_iconst (v := (-1)) C dX12_most_151 (by decide) ?_
            refine m_iconst (v := 0) C dX12_most_152 (by decide) ?_
            refine m_callV (n := 2) (ci := 11) (st := []) C (c_X12_foretellS l G τ ((-1)) (0) iτ (iv_wk kc_m1 (by decide))) (by decide) (by decide) rfl rfl rfl q5_132 q5_129 q5_131 q0_46 q1_7 (by decide +kernel) rfl (by decide) (by decide) rfl (Nat.le_of_ble_eq_true rfl) dX12_most_153 ?_
            rintro _ τ5 ⟨x8, rfl, i6, f7, b9, h11⟩
            have g10 : Fr MS_X12_mostS AS_X12_mostS σ τ5 := Fr.call (fτ) f7 (by decide)
            have v12 : SFm σ τ5 := v_SM.trans h11
            show MW p l e _ s m args below meth c _ 5 G 0 0 156 [some (.ref (G.1 22 0)), some (.int y1), some (.int y2), some (.int y3), some (.int y4)] [.int x8] τ5
            refine m_pop C dX12_most_156 rfl ?_
            refine m_aload_n C dX12_most_157 rfl rfl ?_
            refine g_22_17 C q4_133 dX12_most_158 ?_
            refine m_topi (fun x13 ex13 => ?_)
            refine m_ldc (v := (-1000000)) C dX12_most_161 q5_70 ?_
            refine m_icmp_ne (tgt := 170) C dX12_most_163 (by decide) (fun c14 => ?_) (fun c14 => ?_)
            · have f15 : x13.toInt ≠ -1000000 := by
                have q : _ := c14
                simp only [ti_nle, ti_nlt, ti_le, ti_lt, ti_eq, ti_ne, Classical.not_not, kt_m1000000] at q
                omega
              refine m_iload_n C dX12_most_170 rfl rfl ?_
              refine m_istore_n (L1 := [some (.ref (G.1 22 0)), some (.int y1), some (.int y2), some (.int y3), some (.int y4)]) C dX12_most_171 rfl (by decide) rfl rfl ?_
              obtain ⟨x16, ex16⟩ : ∃ y : Int32, y = y3 + 1 := ⟨_, rfl⟩
              have tx16 : x16.toInt = y3.toInt + 1 := by rw [ex16, ti_addv b_y3 kc_1 (by decide), kt_1]
              have b17 : IV x16 1 128 := by rw [ex16]; exact iv_add b_y3 kc_1 (by decide)
              refine m_iinc (v := x16) (L1 := [some (.ref (G.1 22 0)), some (.int y1), some (.int y2), some (.int x16), some (.int y4)]) C dX12_most_172 rfl (by rw [ex16]; rfl) (by decide) rfl rfl ?_
              refine m_goto (tgt := 57) C dX12_most_175 (by decide) ?_
              refine m_sub (L1 := [some (.ref (G.1 22 0)), some (.int y1), some (.int y2), some (.int x16), none]) ⟨rfl, ⟨rfl, ⟨rfl, ⟨rfl, trivial⟩⟩⟩⟩ ?_
              exact ih57 τ5 y1 y2 x16 i6 g10 b_y1 b_y2 (iv_wk b17 (by decide)) v12 (by have q := hm57; omega)
            · have f18 : x13.toInt = -1000000 := by
                have q : _ := c14
                simp only [ti_nle, ti_nlt, ti_le, ti_lt, ti_eq, ti_ne, Classical.not_not, kt_m1000000] at q
                omega
              have b19 : IV x13 (-1000000) (-1000000) := ⟨by have q1 := (iv_any x13); have q2 := kc_m1000000; omega, by have q1 := (iv_any x13); have q2 := kc_m1000000; omega⟩
              refine m_iload_n C dX12_most_166 rfl rfl ?_
              refine m_goto (tgt := 171) C dX12_most_167 (by decide) ?_
              refine m_istore_n (L1 := [some (.ref (G.1 22 0)), some (.int y1), some (.int y3), some (.int y3), some (.int y4)]) C dX12_most_171 rfl (by decide) rfl rfl ?_
              obtain ⟨x20, ex20⟩ : ∃ y : Int32, y = y3 + 1 := ⟨_, rfl⟩
              have tx20 : x20.toInt = y3.toInt + 1 := by rw [ex20, ti_addv b_y3 kc_1 (by decide), kt_1]
              have b21 : IV x20 1 128 := by rw [ex20]; exact iv_add b_y3 kc_1 (by decide)
              refine m_iinc (v := x20) (L1 := [some (.ref (G.1 22 0)), some (.int y1), some (.int y3), some (.int x20), some (.int y4)]) C dX12_most_172 rfl (by rw [ex20]; rfl) (by decide) rfl rfl ?_
              refine m_goto (tgt := 57) C dX12_most_175 (by decide) ?_
              refine m_sub (L1 := [some (.ref (G.1 22 0)), some (.int y1), some (.int y3), some (.int x20), none]) ⟨rfl, ⟨rfl, ⟨rfl, ⟨rfl, trivial⟩⟩⟩⟩ ?_
              exact ih57 τ5 y1 y3 x20 i6 g10 b_y1 (iv_wk b_y3 (by decide)) (iv_wk b21 (by decide)) v12 (by have q := hm57; omega)
          · have f22 : y4.toInt < x1.toInt := by
              have q : _ := c3
              simp only [ti_nle, ti_nlt, ti_le, ti_lt, ti_eq, ti_ne, Classical.not_not] at q
              omega
            have b23 : IV y4 0 6 := ⟨by have q1 := b_y4; have q2 := b2; omega, by have q1 := b_y4; have q2 := b2; omega⟩
            have b24 : IV x1 1 7 := ⟨by have q1 := b_y4; have q2 := b2; omega, by have q1 := b_y4; have q2 := b2; omega⟩
            refine m_aload_n C dX12_most_109 rfl rfl ?_
            refine g_22_0 C q4_116 dX12_most_110 ?_
            refine m_sipush (v := 231) C dX12_most_113 (by decide) ?_
            refine m_iload C dX12_most_116 rfl ?_
            refine m_iadd C dX12_most_118 ?_
            refine m_topi (fun x25 ex25 => ?_)
            have tx25 : x25.toInt = 231 + y4.toInt := by rw [ex25, ti_addv kc_231 b23 (by decide), kt_231]
            have b26 : IV x25 231 237 := by rw [ex25]; exact iv_add kc_231 b23 (by decide)
            refine m_iload_n C dX12_most_119 rfl rfl ?_
            refine m_iload C dX12_most_120 rfl ?_
            refine m_callS (n := 2) (st := [.int x25, .ref (G.1 23 0)]) C (c_X12_has l G τ (y3) (y4) iτ ) q5_142 q5_140 q5_141 q1_7 (by decide +kernel) rfl (by decide) (by decide) rfl (Nat.le_of_ble_eq_true rfl) dX12_most_122 ?_
            rintro _ τ27 ⟨x30, rfl, i28, f29, b31⟩
            have g32 : Fr MS_X12_mostS AS_X12_mostS σ τ27 := Fr.call (fτ) f29 (by decide)
            have v34 : SFm σ τ27 := v_SM.fr f29 (by simp) (by decide)
            show MW p l e _ s m args below meth c _ 5 G 0 0 125 [some (.ref (G.1 22 0)), some (.int y1), some (.int y2), some (.int y3), some (.int y4)] [.int x30, .int x25, .ref (G.1 23 0)] τ27
            refine m_if_eq (tgt := 132) C dX12_most_125 (by decide) (fun c35 => ?_) (fun c35 => ?_)
            · have f36 : x30.toInt = 0 := by
                have q : _ := c35
                simp only [ti_nle, ti_nlt, ti_le, ti_lt, ti_eq, ti_ne, Classical.not_not, kt_0] at q
                omega
              have b37 : IV x30 0 0 := ⟨by have q1 := b31; have q2 := kc_0; omega, by have q1 := b31; have q2 := kc_0; omega⟩
              refine m_aload_n C dX12_most_132 rfl rfl ?_
              refine g_22_0 C q4_116 dX12_most_133 ?_
              refine m_sipush (v := 231) C dX12_most_136 (by decide) ?_
              refine m_iload C dX12_most_139 rfl ?_
              refine m_iadd C dX12_most_141 ?_
              refine m_topi (fun x38 ex38 => ?_)
              have tx38 : x38.toInt = 231 + y4.toInt := by rw [ex38, ti_addv kc_231 b23 (by decide), kt_231]
              have b39 : IV x38 231 237 := by rw [ex38]; exact iv_add kc_231 b23 (by decide)
              refine al_23 C b39 (by decide) rfl dX12_most_142 ?_
              refine m_topi (fun x40 ex40 => ?_)
              refine as_23 C b26 (by decide) rfl dX12_most_143 ?_
              refine m_tops (fun τ41 eτ41 => ?_)
              have i42 : Inv τ41 := eτ41 ▸ Inv.putW i28 (by omega)
              have f43 : Fr MS_X12_mostS AS_X12_mostS σ τ41 := eτ41 ▸ Fr.put (g32) (Or.inr (by decide))
              have v44 : SFm σ τ41 := v34.put eτ41 (by omega)
              obtain ⟨x45, ex45⟩ : ∃ y : Int32, y = y4 + 1 := ⟨_, rfl⟩
              have tx45 : x45.toInt = y4.toInt + 1 := by rw [ex45, ti_addv b23 kc_1 (by decide), kt_1]
              have b46 : IV x45 1 7 := by rw [ex45]; exact iv_add b23 kc_1 (by decide)
              refine m_iinc (v := x45) (L1 := [some (.ref (G.1 22 0)), some (.int y1), some (.int y2), some (.int y3), some (.int x45)]) C dX12_most_144 rfl (by rw [ex45]; rfl) (by decide) rfl rfl ?_
              refine m_goto (tgt := 98) C dX12_most_147 (by decide) ?_
              exact ih98 τ41 x45 i42 f43 b_y1 b_y2 b_y3 (iv_wk b46 (by decide)) v44 (by have q := hm98; omega)
            · have f47 : x30.toInt ≠ 0 := by
                have q : _ := c35
                simp only [ti_nle, ti_nlt, ti_le, ti_lt, ti_eq, ti_ne, Classical.not_not, kt_0] at q
                omega
              have b48 : IV x30 1 1 := ⟨by have q1 := b31; have q2 := kc_0; omega, by have q1 := b31; have q2 := kc_0; omega⟩
              refine m_iconst (v := 1) C dX12_most_128 (by decide) ?_
              refine m_goto (tgt := 143) C dX12_most_129 (by decide) ?_
              refine as_23 C b26 (by decide) rfl dX12_most_143 ?_
              refine m_tops (fun τ49 eτ49 => ?_)
              have i50 : Inv τ49 := eτ49 ▸ Inv.putW i28 (by omega)
              have f51 : Fr MS_X12_mostS AS_X12_mostS σ τ49 := eτ49 ▸ Fr.put (g32) (Or.inr (by decide))
              have v52 : SFm σ τ49 := v34.put eτ49 (by omega)
              obtain ⟨x53, ex53⟩ : ∃ y : Int32, y = y4 + 1 := ⟨_, rfl⟩
              have tx53 : x53.toInt = y4.toInt + 1 := by rw [ex53, ti_addv b23 kc_1 (by decide), kt_1]
              have b54 : IV x53 1 7 := by rw [ex53]; exact iv_add b23 kc_1 (by decide)
              refine m_iinc (v := x53) (L1 := [some (.ref (G.1 22 0)), some (.int y1), some (.int y2), some (.int y3), some (.int x53)]) C dX12_most_144 rfl (by rw [ex53]; rfl) (by decide) rfl rfl ?_
              refine m_goto (tgt := 98) C dX12_most_147 (by decide) ?_
              exact ih98 τ49 x53 i50 f51 b_y1 b_y2 b_y3 (iv_wk b54 (by decide)) v52 (by have q := hm98; omega)
      have J87 : ∀ (τ : Sg), Inv τ → Fr MS_X12_mostS AS_X12_mostS σ τ → IV y1 0 127 → IV y2 (-1000000) 127 → IV y3 0 127 → (SFm σ τ) → MW p l e { frames := 4, cells := 0, slots := 0, locals := 92 } s m args below meth c (MQ below (QP G (PI fun r τ => Inv τ ∧ Fr MS_X12_mostS AS_X12_mostS σ τ ∧ IV r (-1000002) 127 ∧ SFm σ τ)) args s 0 0 (aG G)) 5 G 0 0 87 [some (.ref (G.1 22 0)), some (.int y1), some (.int y2), some (.int y3), none] [] τ := by
        intro τ iτ fτ b_y1 b_y2 b_y3 v_SM
        refine m_aload_n C dX12_most_87 rfl rfl ?_
        refine m_iconst (v := 0) C dX12_most_88 (by decide) ?_
        refine m_sipush (v := 200) C dX12_most_89 (by decide) ?_
        have q55 := kt_0
        have q56 := kt_200
        refine m_callV (n := 2) (ci := 11) (st := []) C (c_X12_copyAll l G τ (0) (200) iτ (iv_wk kc_0 (by decide)) (iv_wk kc_200 (by decide)) (by omega) (by omega) (by omega) (Or.inl (by omega))) (by decide) (by decide) rfl rfl rfl q5_38 q5_35 q5_37 q0_35 q1_7 (by decide +kernel) rfl (by decide) (by decide) rfl (Nat.le_of_ble_eq_true rfl) dX12_most_92 ?_
        rintro _ τ57 ⟨rfl, i58, f59, h63⟩
        have g62 : Fr MS_X12_mostS AS_X12_mostS σ τ57 := Fr.call (fτ) f59 (by decide)
        have v64 : SFm σ τ57 := v_SM.cp h63 (by decide)
        show MW p l e _ s m args below meth c _ 5 G 0 0 95 [some (.ref (G.1 22 0)), some (.int y1), some (.int y2), some (.int y3), none] [] τ57
        refine m_iconst (v := 0) C dX12_most_95 (by decide) ?_
        refine m_istore (L1 := [some (.ref (G.1 22 0)), some (.int y1), some (.int y2), some (.int y3), some (.int 0)]) C dX12_most_96 (by decide) rfl rfl ?_
        exact J98 ((7 - (0 : Int32).toInt).toNat + 1) τ57 0 i58 g62 b_y1 b_y2 b_y3 (iv_wk kc_0 (by decide)) v64 (Nat.lt_succ_self _)
      refine m_iload_n C dX12_most_57 rfl rfl ?_
      refine m_iload_n C dX12_most_58 rfl rfl ?_
      refine m_icmp_gt (tgt := 178) C dX12_most_59 (by decide) (fun c65 => ?_) (fun c65 => ?_)
      · have f66 : y1.toInt < y3.toInt := by
          have q : _ := c65
          simp only [ti_nle, ti_nlt, ti_le, ti_lt, ti_eq, ti_ne, Classical.not_not] at q
          omega
        have b67 : IV y3 1 128 := ⟨by have q1 := b_y1; have q2 := b_y3; omega, by have q1 := b_y1; have q2 := b_y3; omega⟩
        refine m_iload_n C dX12_most_178 rfl rfl ?_
        exact m_iret C hr hlk (by decide) (by decide) dX12_most_179 ⟨_, rfl, iτ, fτ, (iv_wk b_y2 (by decide)), v_SM⟩
      · have f68 : y3.toInt ≤ y1.toInt := by
          have q : _ := c65
          simp only [ti_nle, ti_nlt, ti_le, ti_lt, ti_eq, ti_ne, Classical.not_not] at q
          omega
        have b69 : IV y3 0 127 := ⟨by have q1 := b_y3; have q2 := b_y1; omega, by have q1 := b_y3; have q2 := b_y1; omega⟩
        refine m_iload_n C dX12_most_62 rfl rfl ?_
        refine m_iload_n C dX12_most_63 rfl rfl ?_
        refine m_iconst (v := (-1)) C dX12_most_64 (by decide) ?_
        refine m_ixor C dX12_most_65 ?_
        refine m_topi (fun x70 ex70 => ?_)
        refine m_iand C dX12_most_66 ?_
        refine m_topi (fun x71 ex71 => ?_)
        have b72 : IV x71 0 127 := by rw [ex71]; exact iv_and_l b69 (by decide)
        refine m_if_ne (tgt := 172) C dX12_most_67 (by decide) (fun c73 => ?_) (fun c73 => ?_)
        · have f74 : x71.toInt ≠ 0 := by
            have q : _ := c73
            simp only [ti_nle, ti_nlt, ti_le, ti_lt, ti_eq, ti_ne, Classical.not_not, kt_0] at q
            omega
          have b75 : IV x71 1 127 := ⟨by have q1 := b72; have q2 := kc_0; omega, by have q1 := b72; have q2 := kc_0; omega⟩
          obtain ⟨x76, ex76⟩ : ∃ y : Int32, y = y3 + 1 := ⟨_, rfl⟩
          have tx76 : x76.toInt = y3.toInt + 1 := by rw [ex76, ti_addv b69 kc_1 (by decide), kt_1]
          have b77 : IV x76 1 128 := by rw [ex76]; exact iv_add b69 kc_1 (by decide)
          refine m_iinc (v := x76) (L1 := [some (.ref (G.1 22 0)), some (.int y1), some (.int y2), some (.int x76), none]) C dX12_most_172 rfl (by rw [ex76]; rfl) (by decide) rfl rfl ?_
          refine m_goto (tgt := 57) C dX12_most_175 (by decide) ?_
          exact ih57 τ y1 y2 x76 iτ fτ b_y1 b_y2 (iv_wk b77 (by decide)) v_SM (by have q := hm57; omega)
        · have f78 : x71.toInt = 0 := by
            have q : _ := c73
            simp only [ti_nle, ti_nlt, ti_le, ti_lt, ti_eq, ti_ne, Classical.not_not, kt_0] at q
            omega
          have b79 : IV x71 0 0 := ⟨by have q1 := b72; have q2 := kc_0; omega, by have q1 := b72; have q2 := kc_0; omega⟩
          refine m_iload_n C dX12_most_70 rfl rfl ?_
          refine m_ldc (v := (-1000000)) C dX12_most_71 q5_70 ?_
          refine m_icmp_eq (tgt := 87) C dX12_most_73 (by decide) (fun c80 => ?_) (fun c80 => ?_)
          · have f81 : y2.toInt = -1000000 := by
              have q : _ := c80
              simp only [ti_nle, ti_nlt, ti_le, ti_lt, ti_eq, ti_ne, Classical.not_not, kt_m1000000] at q
              omega
            have b82 : IV y2 (-1000000) (-1000000) := ⟨by have q1 := b_y2; have q2 := kc_m1000000; omega, by have q1 := b_y2; have q2 := kc_m1000000; omega⟩
            exact J87 τ iτ fτ b_y1 (iv_wk b82 (by decide)) b69 v_SM
          · have f83 : y2.toInt ≠ -1000000 := by
              have q : _ := c80
              simp only [ti_nle, ti_nlt, ti_le, ti_lt, ti_eq, ti_ne, Classical.not_not, kt_m1000000] at q
              omega
            have b84 : IV y2 (-999999) 127 := ⟨by have q1 := b_y2; have q2 := kc_m1000000; omega, by have q1 := b_y2; have q2 := kc_m1000000; omega⟩
            refine m_iload_n C dX12_most_76 rfl rfl ?_
            refine m_callS (n := 1) (st := []) C (c_X12_ones l G τ (y3) iτ ) q5_139 q5_137 q5_138 q1_7 (by decide +kernel) rfl (by decide) (by decide) rfl (Nat.le_of_ble_eq_true rfl) dX12_most_77 ?_
            rintro _ τ85 ⟨x88, rfl, i86, f87, b89⟩
            have g90 : Fr MS_X12_mostS AS_X12_mostS σ τ85 := Fr.call (fτ) f87 (by decide)
            have v92 : SFm σ τ85 := v_SM.fr f87 (by simp) (by decide)
            show MW p l e _ s m args below meth c _ 5 G 0 0 80 [some (.ref (G.1 22 0)), some (.int y1), some (.int y2), some (.int y3), none] [.int x88] τ85
            refine m_iload_n C dX12_most_80 rfl rfl ?_
            refine m_callS (n := 1) (st := [.int x88]) C (c_X12_ones l G τ85 (y2) i86 ) q5_139 q5_137 q5_138 q1_7 (by decide +kernel) rfl (by decide) (by decide) rfl (Nat.le_of_ble_eq_true rfl) dX12_most_81 ?_
            rintro _ τ93 ⟨x96, rfl, i94, f95, b97⟩
            have g98 : Fr MS_X12_mostS AS_X12_mostS σ τ93 := Fr.call (g90) f95 (by decide)
            have v100 : SFm σ τ93 := v92.fr f95 (by simp) (by decide)
            show MW p l e _ s m args below meth c _ 5 G 0 0 84 [some (.ref (G.1 22 0)), some (.int y1), some (.int y2), some (.int y3), none] [.int x96, .int x88] τ93
            refine m_icmp_le (tgt := 172) C dX12_most_84 (by decide) (fun c101 => ?_) (fun c101 => ?_)
            · have f102 : x88.toInt ≤ x96.toInt := by
                have q : _ := c101
                simp only [ti_nle, ti_nlt, ti_le, ti_lt, ti_eq, ti_ne, Classical.not_not] at q
                omega
              obtain ⟨x103, ex103⟩ : ∃ y : Int32, y = y3 + 1 := ⟨_, rfl⟩
              have tx103 : x103.toInt = y3.toInt + 1 := by rw [ex103, ti_addv b69 kc_1 (by decide), kt_1]
              have b104 : IV x103 1 128 := by rw [ex103]; exact iv_add b69 kc_1 (by decide)
              refine m_iinc (v := x103) (L1 := [some (.ref (G.1 22 0)), some (.int y1), some (.int y2), some (.int x103), none]) C dX12_most_172 rfl (by rw [ex103]; rfl) (by decide) rfl rfl ?_
              refine m_goto (tgt := 57) C dX12_most_175 (by decide) ?_
              exact ih57 τ93 y1 y2 x103 i94 g98 b_y1 (iv_wk b84 (by decide)) (iv_wk b104 (by decide)) v100 (by have q := hm57; omega)
            · have f105 : x96.toInt < x88.toInt := by
                have q : _ := c101
                simp only [ti_nle, ti_nlt, ti_le, ti_lt, ti_eq, ti_ne, Classical.not_not] at q
                omega
              have b106 : IV x96 (-2147483648) 2147483646 := ⟨by have q1 := b97; have q2 := b89; omega, by have q1 := b97; have q2 := b89; omega⟩
              have b107 : IV x88 (-2147483647) 2147483647 := ⟨by have q1 := b97; have q2 := b89; omega, by have q1 := b97; have q2 := b89; omega⟩
              exact J87 τ93 i94 g98 b_y1 (iv_wk b84 (by decide)) b69 v100
  have J14 : ∀ (n : Nat) (τ : Sg) (y1 : Int32) (y2 : Int32), Inv τ → Fr MS_X12_mostS AS_X12_mostS σ τ → IV y1 0 127 → IV y2 0 7 → (SFm σ τ) → (7 - y2.toInt).toNat < n → MW p l e { frames := 4, cells := 0, slots := 0, locals := 92 } s m args below meth c (MQ below (QP G (PI fun r τ => Inv τ ∧ Fr MS_X12_mostS AS_X12_mostS σ τ ∧ IV r (-1000002) 127 ∧ SFm σ τ)) args s 0 0 (aG G)) 5 G 0 0 14 [some (.ref (G.1 22 0)), some (.int y1), some (.int y2), none, none] [] τ := by
    intro n
    induction n with
    | zero => intro τ y1 y2 iτ fτ b_y1 b_y2 v_SM hm; exact absurd hm (Nat.not_lt_zero _)
    | succ n ih14 =>
      intro τ y1 y2 iτ fτ b_y1 b_y2 v_SM hm14
      refine m_iload_n C dX12_most_14 rfl rfl ?_
      refine m_aload_n C dX12_most_15 rfl rfl ?_
      refine g_22_0 C q4_116 dX12_most_16 ?_
      refine m_iconst (v := 2) C dX12_most_19 (by decide) ?_
      refine al_23 C kc_2 (by decide) kn_2 dX12_most_20 ?_
      refine m_topi (fun x108 ex108 => ?_)
      have b109 : IV x108 0 7 := by rw [ex108]; exact iτ.1 23 0 2
      refine m_icmp_ge (tgt := 52) C dX12_most_21 (by decide) (fun c110 => ?_) (fun c110 => ?_)
      · have f111 : x108.toInt ≤ y2.toInt := by
          have q : _ := c110
          simp only [ti_nle, ti_nlt, ti_le, ti_lt, ti_eq, ti_ne, Classical.not_not] at q
          omega
        refine m_ldc (v := (-1000000)) C dX12_most_52 q5_70 ?_
        refine m_istore_n (L1 := [some (.ref (G.1 22 0)), some (.int y1), some (.int (-1000000)), none, none]) C dX12_most_54 rfl (by decide) rfl rfl ?_
        refine m_iconst (v := 0) C dX12_most_55 (by decide) ?_
        refine m_istore_n (L1 := [some (.ref (G.1 22 0)), some (.int y1), some (.int (-1000000)), some (.int 0), none]) C dX12_most_56 rfl (by decide) rfl rfl ?_
        exact J57 ((128 - (0 : Int32).toInt).toNat + 1) τ y1 (-1000000) 0 iτ fτ b_y1 (iv_wk kc_m1000000 (by decide)) (iv_wk kc_0 (by decide)) v_SM (Nat.lt_succ_self _)
      · have f112 : y2.toInt < x108.toInt := by
          have q : _ := c110
          simp only [ti_nle, ti_nlt, ti_le, ti_lt, ti_eq, ti_ne, Classical.not_not] at q
          omega
        have b113 : IV y2 0 6 := ⟨by have q1 := b_y2; have q2 := b109; omega, by have q1 := b_y2; have q2 := b109; omega⟩
        have b114 : IV x108 1 7 := ⟨by have q1 := b_y2; have q2 := b109; omega, by have q1 := b_y2; have q2 := b109; omega⟩
        refine m_iload_n C dX12_most_24 rfl rfl ?_
        refine m_aload_n C dX12_most_25 rfl rfl ?_
        refine g_22_0 C q4_116 dX12_most_26 ?_
        refine m_bipush (v := 24) C dX12_most_29 (by decide) ?_
        refine m_iload_n C dX12_most_31 rfl rfl ?_
        refine m_iadd C dX12_most_32 ?_
        refine m_topi (fun x115 ex115 => ?_)
        have tx115 : x115.toInt = 24 + y2.toInt := by rw [ex115, ti_addv kc_24 b113 (by decide), kt_24]
        have b116 : IV x115 24 30 := by rw [ex115]; exact iv_add kc_24 b113 (by decide)
        refine al_23 C b116 (by decide) rfl dX12_most_33 ?_
        refine m_topi (fun x117 ex117 => ?_)
        refine m_if_ge (tgt := 43) C dX12_most_34 (by decide) (fun c118 => ?_) (fun c118 => ?_)
        · have f119 : 0 ≤ x117.toInt := by
            have q : _ := c118
            simp only [ti_nle, ti_nlt, ti_le, ti_lt, ti_eq, ti_ne, Classical.not_not, kt_0] at q
            omega
          have b120 : IV x117 0 2147483647 := ⟨by have q1 := kc_0; have q2 := (iv_any x117); omega, by have q1 := kc_0; have q2 := (iv_any x117); omega⟩
          refine m_iconst (v := 0) C dX12_most_43 (by decide) ?_
          refine m_ior C dX12_most_44 ?_
          refine m_topi (fun x121 ex121 => ?_)
          have b122 : IV x121 0 127 := by rw [ex121]; exact iv_or 7 b_y1 kc_0 (by decide)
          refine m_istore_n (L1 := [some (.ref (G.1 22 0)), some (.int x121), some (.int y2), none, none]) C dX12_most_45 rfl (by decide) rfl rfl ?_
          obtain ⟨x123, ex123⟩ : ∃ y : Int32, y = y2 + 1 := ⟨_, rfl⟩
          have tx123 : x123.toInt = y2.toInt + 1 := by rw [ex123, ti_addv b113 kc_1 (by decide), kt_1]
          have b124 : IV x123 1 7 := by rw [ex123]; exact iv_add b113 kc_1 (by decide)
          refine m_iinc (v := x123) (L1 := [some (.ref (G.1 22 0)), some (.int x121), some (.int x123), none, none]) C dX12_most_46 rfl (by rw [ex123]; rfl) (by decide) rfl rfl ?_
          refine m_goto (tgt := 14) C dX12_most_49 (by decide) ?_
          exact ih14 τ x121 x123 iτ fτ b122 (iv_wk b124 (by decide)) v_SM (by have q := hm14; omega)
        · have f125 : x117.toInt < 0 := by
            have q : _ := c118
            simp only [ti_nle, ti_nlt, ti_le, ti_lt, ti_eq, ti_ne, Classical.not_not, kt_0] at q
            omega
          have b126 : IV x117 (-2147483648) (-1) := ⟨by have q1 := (iv_any x117); have q2 := kc_0; omega, by have q1 := (iv_any x117); have q2 := kc_0; omega⟩
          refine m_iconst (v := 1) C dX12_most_37 (by decide) ?_
          refine m_iload_n C dX12_most_38 rfl rfl ?_
          refine m_ishl C dX12_most_39 ?_
          refine m_topi (fun x127 ex127 => ?_)
          have b128 : IV x127 1 64 := by rw [ex127]; exact iv_shl1 b113 (by decide)
          refine m_goto (tgt := 44) C dX12_most_40 (by decide) ?_
          refine m_ior C dX12_most_44 ?_
          refine m_topi (fun x129 ex129 => ?_)
          have b130 : IV x129 0 127 := by rw [ex129]; exact iv_or 7 b_y1 b128 (by decide)
          refine m_istore_n (L1 := [some (.ref (G.1 22 0)), some (.int x129), some (.int y2), none, none]) C dX12_most_45 rfl (by decide) rfl rfl ?_
          obtain ⟨x131, ex131⟩ : ∃ y : Int32, y = y2 + 1 := ⟨_, rfl⟩
          have tx131 : x131.toInt = y2.toInt + 1 := by rw [ex131, ti_addv b113 kc_1 (by decide), kt_1]
          have b132 : IV x131 1 7 := by rw [ex131]; exact iv_add b113 kc_1 (by decide)
          refine m_iinc (v := x131) (L1 := [some (.ref (G.1 22 0)), some (.int x129), some (.int x131), none, none]) C dX12_most_46 rfl (by rw [ex131]; rfl) (by decide) rfl rfl ?_
          refine m_goto (tgt := 14) C dX12_most_49 (by decide) ?_
          exact ih14 τ x129 x131 iτ fτ b130 (iv_wk b132 (by decide)) v_SM (by have q := hm14; omega)
  refine m_aload_n C dX12_most_0 rfl rfl ?_
  refine m_callV (n := 0) (ci := 11) (st := []) C (c_X12_isTower l G σ  hI ) (by decide) (by decide) rfl rfl rfl q5_67 q5_64 q5_66 q0_38 q1_7 (by decide +kernel) rfl (by decide) (by decide) rfl (Nat.le_of_ble_eq_true rfl) dX12_most_1 ?_
  rintro _ τ133 ⟨x136, rfl, i134, f135, b137⟩
  have g138 : Fr MS_X12_mostS AS_X12_mostS σ τ133 := Fr.call (Fr.rf) f135 (by decide)
  have v140 : SFm σ τ133 := SFm.rf.fr f135 (by simp) (by decide)
  show MW p l e _ s m args below meth c _ 5 G 0 0 4 [some (.ref (G.1 22 0)), none, none, none, none] [.int x136] τ133
  refine m_if_ne (tgt := 10) C dX12_most_4 (by decide) (fun c141 => ?_) (fun c141 => ?_)
  · have f142 : x136.toInt ≠ 0 := by
      have q : _ := c141
      simp only [ti_nle, ti_nlt, ti_le, ti_lt, ti_eq, ti_ne, Classical.not_not, kt_0] at q
      omega
    have b143 : IV x136 1 1 := ⟨by have q1 := b137; have q2 := kc_0; omega, by have q1 := b137; have q2 := kc_0; omega⟩
    refine m_iconst (v := 0) C dX12_most_10 (by decide) ?_
    refine m_istore_n (L1 := [some (.ref (G.1 22 0)), some (.int 0), none, none, none]) C dX12_most_11 rfl (by decide) rfl rfl ?_
    refine m_iconst (v := 0) C dX12_most_12 (by decide) ?_
    refine m_istore_n (L1 := [some (.ref (G.1 22 0)), some (.int 0), some (.int 0), none, none]) C dX12_most_13 rfl (by decide) rfl rfl ?_
    exact J14 ((7 - (0 : Int32).toInt).toNat + 1) τ133 0 0 i134 g138 (iv_wk kc_0 (by decide)) (iv_wk kc_0 (by decide)) v140 (Nat.lt_succ_self _)
  · have f144 : x136.toInt = 0 := by
      have q : _ := c141
      simp only [ti_nle, ti_nlt, ti_le, ti_lt, ti_eq, ti_ne, Classical.not_not, kt_0] at q
      omega
    have b145 : IV x136 0 0 := ⟨by have q1 := b137; have q2 := kc_0; omega, by have q1 := b137; have q2 := kc_0; omega⟩
    refine m_ldc (v := (-1000002)) C dX12_most_7 q5_68 ?_
    exact m_iret C hr hlk (by decide) (by decide) dX12_most_9 ⟨_, rfl, i134, g138, (iv_wk kc_m1000002 (by decide)), v140⟩

abbrev MS_X12_twoS : List (Nat × Nat) := [(22, 17)]
abbrev AS_X12_twoS : List Nat := [23]
set_option maxHeartbeats 4000000 in
set_option maxRecDepth 100000 in
theorem c_X12_twoS (l : Launch) (G : Gt) (σ : Sg) (a1 : Int32) (a2 : Int32) (a3 : Int32) (hI : Inv σ) : Mc l G yX12_two cX12_two 8 (some .int) 4 92 0 0 [.ref (G.1 22 0), .int a1, .int a2, .int a3] σ (PI fun r τ => Inv τ ∧ Fr MS_X12_twoS AS_X12_twoS σ τ ∧ IV r (-2147483648) 2147483647 ∧ SFm σ τ) := by
  refine Mc.of (L0 := [some (.ref (G.1 22 0)), some (.int a1), some (.int a2), some (.int a3), none, none, none, none]) (by decide) (Nat.le_of_ble_eq_true rfl) rfl ?_
  intro p e s m args below meth c C hr hlk
  have C : Cx p s m args c cX12_two 8 "LeanTowerModel" := C
  have k0 : (0 : Int32).toInt = 0 := by decide
  have k1 : (1 : Int32).toInt = 1 := by decide
  have J67 : ∀ (n : Nat) (τ : Sg) (y4 : Int32) (y5 : Int32) (y6 : Int32), Inv τ → Fr MS_X12_twoS AS_X12_twoS σ τ → IV a1 0 6 → IV a2 0 6 → IV a3 0 1 → IV y4 0 16 → IV y5 (-2147483648) 2147483647 → IV y6 0 10 → (SFm σ τ) → (10 - y6.toInt).toNat < n → MW p l e { frames := 4, cells := 0, slots := 0, locals := 92 } s m args below meth c (MQ below (QP G (PI fun r τ => Inv τ ∧ Fr MS_X12_twoS AS_X12_twoS σ τ ∧ IV r (-2147483648) 2147483647 ∧ SFm σ τ)) args s 0 0 (aG G)) 8 G 0 0 67 [some (.ref (G.1 22 0)), some (.int a1), some (.int a2), some (.int a3), some (.int y4), some (.int y5), some (.int y6), none] [] τ := by
    intro n
    induction n with
    | zero => intro τ y4 y5 y6 iτ fτ b_a1 b_a2 b_a3 b_y4 b_y5 b_y6 v_SM hm; exact absurd hm (Nat.not_lt_zero _)
    | succ n ih67 =>
      intro τ y4 y5 y6 iτ fτ b_a1 b_a2 b_a3 b_y4 b_y5 b_y6 v_SM hm67
      have J132 : ∀ (τ : Sg) (y7 : Int32) (z0 : Int32), Inv τ → Fr MS_X12_twoS AS_X12_twoS σ τ → IV a1 0 6 → IV a2 0 6 → IV a3 0 1 → IV y5 (-2147483648) 2147483647 → IV y6 0 9 → IV y7 (-2147483648) 2147483647 → IV z0 0 16 → (SFm σ τ) → MW p l e { frames := 4, cells := 0, slots := 0, locals := 92 } s m args below meth c (MQ below (QP G (PI fun r τ => Inv τ ∧ Fr MS_X12_twoS AS_X12_twoS σ τ ∧ IV r (-2147483648) 2147483647 ∧ SFm σ τ)) args s 0 0 (aG G)) 8 G 0 0 132 [some (.ref (G.1 22 0)), some (.int a1), some (.int a2), some (.int a3), none, some (.int y5), some (.int y6), some (.int y7)] [.int z0] τ := by
        intro τ y7 z0 iτ fτ b_a1 b_a2 b_a3 b_y5 b_y6 b_y7 b_z0 v_SM
        refine m_istore (L1 := [some (.ref (G.1 22 0)), some (.int a1), some (.int a2), some (.int a3), some (.int z0), some (.int y5), some (.int y6), some (.int y7)]) C dX12_two_132 (by decide) rfl rfl ?_
        refine m_iload C dX12_two_134 rfl ?_
        refine m_if_eq (tgt := 146) C dX12_two_136 (by decide) (fun c1 => ?_) (fun c1 => ?_)
        · have f2 : y6.toInt = 0 := by
            have q : _ := c1
            simp only [ti_nle, ti_nlt, ti_le, ti_lt, ti_eq, ti_ne, Classical.not_not, kt_0] at q
            omega
          have b3 : IV y6 0 0 := ⟨by have q1 := b_y6; have q2 := kc_0; omega, by have q1 := b_y6; have q2 := kc_0; omega⟩
          refine m_iload C dX12_two_146 rfl ?_
          refine m_goto (tgt := 153) C dX12_two_148 (by decide) ?_
          refine m_istore (L1 := [some (.ref (G.1 22 0)), some (.int a1), some (.int a2), some (.int a3), some (.int z0), some (.int y7), some (.int y6), some (.int y7)]) C dX12_two_153 (by decide) rfl rfl ?_
          obtain ⟨x4, ex4⟩ : ∃ y : Int32, y = y6 + 1 := ⟨_, rfl⟩
          have tx4 : x4.toInt = y6.toInt + 1 := by rw [ex4, ti_addv b3 kc_1 (by decide), kt_1]
          have b5 : IV x4 1 1 := by rw [ex4]; exact iv_add b3 kc_1 (by decide)
          refine m_iinc (v := x4) (L1 := [some (.ref (G.1 22 0)), some (.int a1), some (.int a2), some (.int a3), some (.int z0), some (.int y7), some (.int x4), some (.int y7)]) C dX12_two_155 rfl (by rw [ex4]; rfl) (by decide) rfl rfl ?_
          refine m_goto (tgt := 67) C dX12_two_158 (by decide) ?_
          refine m_sub (L1 := [some (.ref (G.1 22 0)), some (.int a1), some (.int a2), some (.int a3), some (.int z0), some (.int y7), some (.int x4), none]) ⟨rfl, ⟨rfl, ⟨rfl, ⟨rfl, ⟨rfl, ⟨rfl, ⟨rfl, trivial⟩⟩⟩⟩⟩⟩⟩ ?_
          exact ih67 τ z0 y7 x4 iτ fτ b_a1 b_a2 b_a3 b_z0 b_y7 (iv_wk b5 (by decide)) v_SM (by have q := hm67; omega)
        · have f6 : y6.toInt ≠ 0 := by
            have q : _ := c1
            simp only [ti_nle, ti_nlt, ti_le, ti_lt, ti_eq, ti_ne, Classical.not_not, kt_0] at q
            omega
          have b7 : IV y6 1 9 := ⟨by have q1 := b_y6; have q2 := kc_0; omega, by have q1 := b_y6; have q2 := kc_0; omega⟩
          refine m_iload C dX12_two_139 rfl ?_
          refine m_iload C dX12_two_141 rfl ?_
          refine m_icmp_ge (tgt := 151) C dX12_two_143 (by decide) (fun c8 => ?_) (fun c8 => ?_)
          · have f9 : y5.toInt ≤ y7.toInt := by
              have q : _ := c8
              simp only [ti_nle, ti_nlt, ti_le, ti_lt, ti_eq, ti_ne, Classical.not_not] at q
              omega
            refine m_iload C dX12_two_151 rfl ?_
            refine m_istore (L1 := [some (.ref (G.1 22 0)), some (.int a1), some (.int a2), some (.int a3), some (.int z0), some (.int y5), some (.int y6), some (.int y7)]) C dX12_two_153 (by decide) rfl rfl ?_
            obtain ⟨x10, ex10⟩ : ∃ y : Int32, y = y6 + 1 := ⟨_, rfl⟩
            have tx10 : x10.toInt = y6.toInt + 1 := by rw [ex10, ti_addv b7 kc_1 (by decide), kt_1]
            have b11 : IV x10 2 10 := by rw [ex10]; exact iv_add b7 kc_1 (by decide)
            refine m_iinc (v := x10) (L1 := [some (.ref (G.1 22 0)), some (.int a1), some (.int a2), some (.int a3), some (.int z0), some (.int y5), some (.int x10), some (.int y7)]) C dX12_two_155 rfl (by rw [ex10]; rfl) (by decide) rfl rfl ?_
            refine m_goto (tgt := 67) C dX12_two_158 (by decide) ?_
            refine m_sub (L1 := [some (.ref (G.1 22 0)), some (.int a1), some (.int a2), some (.int a3), some (.int z0), some (.int y5), some (.int x10), none]) ⟨rfl, ⟨rfl, ⟨rfl, ⟨rfl, ⟨rfl, ⟨rfl, ⟨rfl, trivial⟩⟩⟩⟩⟩⟩⟩ ?_
            exact ih67 τ z0 y5 x10 iτ fτ b_a1 b_a2 b_a3 b_z0 b_y5 (iv_wk b11 (by decide)) v_SM (by have q := hm67; omega)
          · have f12 : y7.toInt < y5.toInt := by
              have q : _ := c8
              simp only [ti_nle, ti_nlt, ti_le, ti_lt, ti_eq, ti_ne, Classical.not_not] at q
              omega
            have b13 : IV y7 (-2147483648) 2147483646 := ⟨by have q1 := b_y7; have q2 := b_y5; omega, by have q1 := b_y7; have q2 := b_y5; omega⟩
            have b14 : IV y5 (-2147483647) 2147483647 := ⟨by have q1 := b_y7; have q2 := b_y5; omega, by have q1 := b_y7; have q2 := b_y5; omega⟩
            refine m_iload C dX12_two_146 rfl ?_
            refine m_goto (tgt := 153) C dX12_two_148 (by decide) ?_
            refine m_istore (L1 := [some (.ref (G.1 22 0)), some (.int a1), some (.int a2), some (.int a3), some (.int z0), some (.int y7), some (.int y6), some (.int y7)]) C dX12_two_153 (by decide) rfl rfl ?_
            obtain ⟨x15, ex15⟩ : ∃ y : Int32, y = y6 + 1 := ⟨_, rfl⟩
            have tx15 : x15.toInt = y6.toInt + 1 := by rw [ex15, ti_addv b7 kc_1 (by decide), kt_1]
            have b16 : IV x15 2 10 := by rw [ex15]; exact iv_add b7 kc_1 (by decide)
            refine m_iinc (v := x15) (L1 := [some (.ref (G.1 22 0)), some (.int a1), some (.int a2), some (.int a3), some (.int z0), some (.int y7), some (.int x15), some (.int y7)]) C dX12_two_155 rfl (by rw [ex15]; rfl) (by decide) rfl rfl ?_
            refine m_goto (tgt := 67) C dX12_two_158 (by decide) ?_
            refine m_sub (L1 := [some (.ref (G.1 22 0)), some (.int a1), some (.int a2), some (.int a3), some (.int z0), some (.int y7), some (.int x15), none]) ⟨rfl, ⟨rfl, ⟨rfl, ⟨rfl, ⟨rfl, ⟨rfl, ⟨rfl, trivial⟩⟩⟩⟩⟩⟩⟩ ?_
            exact ih67 τ z0 y7 x15 iτ fτ b_a1 b_a2 b_a3 b_z0 (iv_wk b13 (by decide)) (iv_wk b16 (by decide)) v_SM (by have q := hm67; omega)
      refine m_iload C dX12_two_67 rfl ?_
      refine m_bipush (v := 10) C dX12_two_69 (by decide) ?_
      refine m_icmp_ge (tgt := 161) C dX12_two_71 (by decide) (fun c17 => ?_) (fun c17 => ?_)
      · have f18 : 10 ≤ y6.toInt := by
          have q : _ := c17
          simp only [ti_nle, ti_nlt, ti_le, ti_lt, ti_eq, ti_ne, Classical.not_not, kt_10] at q
          omega
        have b19 : IV y6 10 10 := ⟨by have q1 := kc_10; have q2 := b_y6; omega, by have q1 := kc_10; have q2 := b_y6; omega⟩
        refine m_iload_n C dX12_two_161 rfl rfl ?_
        refine m_if_ne (tgt := 170) C dX12_two_162 (by decide) (fun c20 => ?_) (fun c20 => ?_)
        · have f21 : a3.toInt ≠ 0 := by
            have q : _ := c20
            simp only [ti_nle, ti_nlt, ti_le, ti_lt, ti_eq, ti_ne, Classical.not_not, kt_0] at q
            omega
          have b22 : IV a3 1 1 := ⟨by have q1 := b_a3; have q2 := kc_0; omega, by have q1 := b_a3; have q2 := kc_0; omega⟩
          refine m_iload C dX12_two_170 rfl ?_
          exact m_iret C hr hlk (by decide) (by decide) dX12_two_172 ⟨_, rfl, iτ, fτ, b_y5, v_SM⟩
        · have f23 : a3.toInt = 0 := by
            have q : _ := c20
            simp only [ti_nle, ti_nlt, ti_le, ti_lt, ti_eq, ti_ne, Classical.not_not, kt_0] at q
            omega
          have b24 : IV a3 0 0 := ⟨by have q1 := b_a3; have q2 := kc_0; omega, by have q1 := b_a3; have q2 := kc_0; omega⟩
          refine m_iload C dX12_two_165 rfl ?_
          refine m_goto (tgt := 172) C dX12_two_167 (by decide) ?_
          exact m_iret C hr hlk (by decide) (by decide) dX12_two_172 ⟨_, rfl, iτ, fτ, (iv_wk b_y4 (by decide)), v_SM⟩
      · have f25 : y6.toInt < 10 := by
          have q : _ := c17
          simp only [ti_nle, ti_nlt, ti_le, ti_lt, ti_eq, ti_ne, Classical.not_not, kt_10] at q
          omega
        have b26 : IV y6 0 9 := ⟨by have q1 := b_y6; have q2 := kc_10; omega, by have q1 := b_y6; have q2 := kc_10; omega⟩
        refine m_aload_n C dX12_two_74 rfl rfl ?_
        refine m_iconst (v := 0) C dX12_two_75 (by decide) ?_
        refine m_sipush (v := 200) C dX12_two_76 (by decide) ?_
        have q27 := kt_0
        have q28 := kt_200
        refine m_callV (n := 2) (ci := 11) (st := []) C (c_X12_copyAll l G τ (0) (200) iτ (iv_wk kc_0 (by decide)) (iv_wk kc_200 (by decide)) (by omega) (by omega) (by omega) (Or.inl (by omega))) (by decide) (by decide) rfl rfl rfl q5_38 q5_35 q5_37 q0_35 q1_7 (by decide +kernel) rfl (by decide) (by decide) rfl (Nat.le_of_ble_eq_true rfl) dX12_two_79 ?_
        rintro _ τ29 ⟨rfl, i30, f31, h35⟩
        have g34 : Fr MS_X12_twoS AS_X12_twoS σ τ29 := Fr.call (fτ) f31 (by decide)
        have v36 : SFm σ τ29 := v_SM.cp h35 (by decide)
        show MW p l e _ s m args below meth c _ 8 G 0 0 82 [some (.ref (G.1 22 0)), some (.int a1), some (.int a2), some (.int a3), some (.int y4), some (.int y5), some (.int y6), none] [] τ29
        refine m_aload_n C dX12_two_82 rfl rfl ?_
        refine g_22_0 C q4_116 dX12_two_83 ?_
        refine m_sipush (v := 231) C dX12_two_86 (by decide) ?_
        refine m_iload_n C dX12_two_89 rfl rfl ?_
        refine m_iadd C dX12_two_90 ?_
        refine m_topi (fun x37 ex37 => ?_)
        have tx37 : x37.toInt = 231 + a1.toInt := by rw [ex37, ti_addv kc_231 b_a1 (by decide), kt_231]
        have b38 : IV x37 231 237 := by rw [ex37]; exact iv_add kc_231 b_a1 (by decide)
        refine m_iconst (v := 1) C dX12_two_91 (by decide) ?_
        refine as_23 C b38 (by decide) rfl dX12_two_92 ?_
        refine m_tops (fun τ39 eτ39 => ?_)
        have i40 : Inv τ39 := eτ39 ▸ Inv.putW i30 (by omega)
        have f41 : Fr MS_X12_twoS AS_X12_twoS σ τ39 := eτ39 ▸ Fr.put (g34) (Or.inr (by decide))
        have v42 : SFm σ τ39 := v36.put eτ39 (by omega)
        refine m_aload_n C dX12_two_93 rfl rfl ?_
        refine g_22_0 C q4_116 dX12_two_94 ?_
        refine m_sipush (v := 231) C dX12_two_97 (by decide) ?_
        refine m_iload_n C dX12_two_100 rfl rfl ?_
        refine m_iadd C dX12_two_101 ?_
        refine m_topi (fun x43 ex43 => ?_)
        have tx43 : x43.toInt = 231 + a2.toInt := by rw [ex43, ti_addv kc_231 b_a2 (by decide), kt_231]
        have b44 : IV x43 231 237 := by rw [ex43]; exact iv_add kc_231 b_a2 (by decide)
        refine m_iconst (v := 0) C dX12_two_102 (by decide) ?_
        refine as_23 C b44 (by decide) rfl dX12_two_103 ?_
        refine m_tops (fun τ45 eτ45 => ?_)
        have i46 : Inv τ45 := eτ45 ▸ Inv.putW i40 (by omega)
        have f47 : Fr MS_X12_twoS AS_X12_twoS σ τ45 := eτ45 ▸ Fr.put (f41) (Or.inr (by decide))
        have v48 : SFm σ τ45 := v42.put eτ45 (by omega)
        refine m_aload_n C dX12_two_104 rfl rfl ?_
        refine m_iload_n C dX12_two_105 rfl rfl ?_
        refine m_iload C dX12_two_106 rfl ?_
        refine m_callV (n := 2) (ci := 11) (st := []) C (c_X12_foretellS l G τ45 (a2) (y6) i46 (iv_wk b_a2 (by decide))) (by decide) (by decide) rfl rfl rfl q5_132 q5_129 q5_131 q0_46 q1_7 (by decide +kernel) rfl (by decide) (by decide) rfl (Nat.le_of_ble_eq_true rfl) dX12_two_108 ?_
        rintro _ τ49 ⟨x52, rfl, i50, f51, b53, h55⟩
        have g54 : Fr MS_X12_twoS AS_X12_twoS σ τ49 := Fr.call (f47) f51 (by decide)
        have v56 : SFm σ τ49 := v48.trans h55
        show MW p l e _ s m args below meth c _ 8 G 0 0 111 [some (.ref (G.1 22 0)), some (.int a1), some (.int a2), some (.int a3), some (.int y4), some (.int y5), some (.int y6), none] [.int x52] τ49
        refine m_istore (L1 := [some (.ref (G.1 22 0)), some (.int a1), some (.int a2), some (.int a3), some (.int y4), some (.int y5), some (.int y6), some (.int x52)]) C dX12_two_111 (by decide) rfl rfl ?_
        refine m_iload C dX12_two_113 rfl ?_
        refine m_if_eq (tgt := 125) C dX12_two_115 (by decide) (fun c57 => ?_) (fun c57 => ?_)
        · have f58 : y6.toInt = 0 := by
            have q : _ := c57
            simp only [ti_nle, ti_nlt, ti_le, ti_lt, ti_eq, ti_ne, Classical.not_not, kt_0] at q
            omega
          have b59 : IV y6 0 0 := ⟨by have q1 := b26; have q2 := kc_0; omega, by have q1 := b26; have q2 := kc_0; omega⟩
          refine m_iload C dX12_two_125 rfl ?_
          refine m_goto (tgt := 132) C dX12_two_127 (by decide) ?_
          refine m_sub (L1 := [some (.ref (G.1 22 0)), some (.int a1), some (.int a2), some (.int a3), none, some (.int y5), some (.int y6), some (.int x52)]) ⟨rfl, ⟨rfl, ⟨rfl, ⟨rfl, ⟨rfl, ⟨rfl, ⟨rfl, trivial⟩⟩⟩⟩⟩⟩⟩ ?_
          exact J132 τ49 x52 y6 i50 g54 b_a1 b_a2 b_a3 b_y5 (iv_wk b59 (by decide)) b53 (iv_wk b59 (by decide)) v56
        · have f60 : y6.toInt ≠ 0 := by
            have q : _ := c57
            simp only [ti_nle, ti_nlt, ti_le, ti_lt, ti_eq, ti_ne, Classical.not_not, kt_0] at q
            omega
          have b61 : IV y6 1 9 := ⟨by have q1 := b26; have q2 := kc_0; omega, by have q1 := b26; have q2 := kc_0; omega⟩
          refine m_iload C dX12_two_118 rfl ?_
          refine m_iload C dX12_two_120 rfl ?_
          refine m_icmp_ge (tgt := 130) C dX12_two_122 (by decide) (fun c62 => ?_) (fun c62 => ?_)
          · have f63 : y5.toInt ≤ x52.toInt := by
              have q : _ := c62
              simp only [ti_nle, ti_nlt, ti_le, ti_lt, ti_eq, ti_ne, Classical.not_not] at q
              omega
            refine m_iload C dX12_two_130 rfl ?_
            refine m_sub (L1 := [some (.ref (G.1 22 0)), some (.int a1), some (.int a2), some (.int a3), none, some (.int y5), some (.int y6), some (.int x52)]) ⟨rfl, ⟨rfl, ⟨rfl, ⟨rfl, ⟨rfl, ⟨rfl, ⟨rfl, trivial⟩⟩⟩⟩⟩⟩⟩ ?_
            exact J132 τ49 x52 y4 i50 g54 b_a1 b_a2 b_a3 b_y5 (iv_wk b61 (by decide)) b53 b_y4 v56
          · have f64 : x52.toInt < y5.toInt := by
              have q : _ := c62
              simp only [ti_nle, ti_nlt, ti_le, ti_lt, ti_eq, ti_ne, Classical.not_not] at q
              omega
            have b65 : IV x52 (-2147483648) 2147483646 := ⟨by have q1 := b53; have q2 := b_y5; omega, by have q1 := b53; have q2 := b_y5; omega⟩
            have b66 : IV y5 (-2147483647) 2147483647 := ⟨by have q1 := b53; have q2 := b_y5; omega, by have q1 := b53; have q2 := b_y5; omega⟩
            refine m_iload C dX12_two_125 rfl ?_
            refine m_goto (tgt := 132) C dX12_two_127 (by decide) ?_
            refine m_sub (L1 := [some (.ref (G.1 22 0)), some (.int a1), some (.int a2), some (.int a3), none, some (.int y5), some (.int y6), some (.int x52)]) ⟨rfl, ⟨rfl, ⟨rfl, ⟨rfl, ⟨rfl, ⟨rfl, ⟨rfl, trivial⟩⟩⟩⟩⟩⟩⟩ ?_
            exact J132 τ49 x52 y6 i50 g54 b_a1 b_a2 b_a3 (iv_wk b66 (by decide)) (iv_wk b61 (by decide)) (iv_wk b65 (by decide)) (iv_wk b61 (by decide)) v56
  refine m_aload_n C dX12_two_0 rfl rfl ?_
  refine m_iload_n C dX12_two_1 rfl rfl ?_
  refine m_callV (n := 1) (ci := 11) (st := []) C (c_X12_isOne l G σ (a1) hI ) (by decide) (by decide) rfl rfl rfl q5_50 q5_47 q5_49 q0_36 q1_7 (by decide +kernel) rfl (by decide) (by decide) rfl (Nat.le_of_ble_eq_true rfl) dX12_two_2 ?_
  rintro _ τ67 ⟨x70, rfl, i68, f69, b71, h73⟩
  have g72 : Fr MS_X12_twoS AS_X12_twoS σ τ67 := Fr.call (Fr.rf) f69 (by decide)
  have v74 : SFm σ τ67 := SFm.rf.fr f69 (by simp) (by decide)
  show MW p l e _ s m args below meth c _ 8 G 0 0 5 [some (.ref (G.1 22 0)), some (.int a1), some (.int a2), some (.int a3), none, none, none, none] [.int x70] τ67
  refine m_if_eq (tgt := 55) C dX12_two_5 (by decide) (fun c75 => ?_) (fun c75 => ?_)
  · have f76 : x70.toInt = 0 := by
      have q : _ := c75
      simp only [ti_nle, ti_nlt, ti_le, ti_lt, ti_eq, ti_ne, Classical.not_not, kt_0] at q
      omega
    have b77 : IV x70 0 0 := ⟨by have q1 := b71; have q2 := kc_0; omega, by have q1 := b71; have q2 := kc_0; omega⟩
    refine m_ldc (v := (-1000001)) C dX12_two_55 q4_192 ?_
    exact m_iret C hr hlk (by decide) (by decide) dX12_two_57 ⟨_, rfl, i68, g72, (iv_wk kc_m1000001 (by decide)), v74⟩
  · have f78 : x70.toInt ≠ 0 := by
      have q : _ := c75
      simp only [ti_nle, ti_nlt, ti_le, ti_lt, ti_eq, ti_ne, Classical.not_not, kt_0] at q
      omega
    have b79 : IV x70 1 1 := ⟨by have q1 := b71; have q2 := kc_0; omega, by have q1 := b71; have q2 := kc_0; omega⟩
    have b80 : IV a1 0 6 := ⟨by have q1 := (iv_any a1); omega, by have q1 := (iv_any a1); omega⟩
    refine m_aload_n C dX12_two_8 rfl rfl ?_
    refine m_iload_n C dX12_two_9 rfl rfl ?_
    refine m_callV (n := 1) (ci := 11) (st := []) C (c_X12_isOne l G τ67 (a2) i68 ) (by decide) (by decide) rfl rfl rfl q5_50 q5_47 q5_49 q0_36 q1_7 (by decide +kernel) rfl (by decide) (by decide) rfl (Nat.le_of_ble_eq_true rfl) dX12_two_10 ?_
    rintro _ τ81 ⟨x84, rfl, i82, f83, b85, h87⟩
    have g86 : Fr MS_X12_twoS AS_X12_twoS σ τ81 := Fr.call (g72) f83 (by decide)
    have v88 : SFm σ τ81 := v74.fr f83 (by simp) (by decide)
    show MW p l e _ s m args below meth c _ 8 G 0 0 13 [some (.ref (G.1 22 0)), some (.int a1), some (.int a2), some (.int a3), none, none, none, none] [.int x84] τ81
    refine m_if_eq (tgt := 55) C dX12_two_13 (by decide) (fun c89 => ?_) (fun c89 => ?_)
    · have f90 : x84.toInt = 0 := by
        have q : _ := c89
        simp only [ti_nle, ti_nlt, ti_le, ti_lt, ti_eq, ti_ne, Classical.not_not, kt_0] at q
        omega
      have b91 : IV x84 0 0 := ⟨by have q1 := b85; have q2 := kc_0; omega, by have q1 := b85; have q2 := kc_0; omega⟩
      refine m_ldc (v := (-1000001)) C dX12_two_55 q4_192 ?_
      exact m_iret C hr hlk (by decide) (by decide) dX12_two_57 ⟨_, rfl, i82, g86, (iv_wk kc_m1000001 (by decide)), v88⟩
    · have f92 : x84.toInt ≠ 0 := by
        have q : _ := c89
        simp only [ti_nle, ti_nlt, ti_le, ti_lt, ti_eq, ti_ne, Classical.not_not, kt_0] at q
        omega
      have b93 : IV x84 1 1 := ⟨by have q1 := b85; have q2 := kc_0; omega, by have q1 := b85; have q2 := kc_0; omega⟩
      have b94 : IV a2 0 6 := ⟨by have q1 := (iv_any a2); omega, by have q1 := (iv_any a2); omega⟩
      refine m_iload_n C dX12_two_16 rfl rfl ?_
      refine m_iload_n C dX12_two_17 rfl rfl ?_
      refine m_icmp_eq (tgt := 55) C dX12_two_18 (by decide) (fun c95 => ?_) (fun c95 => ?_)
      · have f96 : a1.toInt = a2.toInt := by
          have q : _ := c95
          simp only [ti_nle, ti_nlt, ti_le, ti_lt, ti_eq, ti_ne, Classical.not_not] at q
          omega
        refine m_ldc (v := (-1000001)) C dX12_two_55 q4_192 ?_
        exact m_iret C hr hlk (by decide) (by decide) dX12_two_57 ⟨_, rfl, i82, g86, (iv_wk kc_m1000001 (by decide)), v88⟩
      · have f97 : a1.toInt ≠ a2.toInt := by
          have q : _ := c95
          simp only [ti_nle, ti_nlt, ti_le, ti_lt, ti_eq, ti_ne, Classical.not_not] at q
          omega
        refine m_aload_n C dX12_two_21 rfl rfl ?_
        refine g_22_0 C q4_116 dX12_two_22 ?_
        refine m_bipush (v := 24) C dX12_two_25 (by decide) ?_
        refine m_iload_n C dX12_two_27 rfl rfl ?_
        refine m_iadd C dX12_two_28 ?_
        refine m_topi (fun x98 ex98 => ?_)
        have tx98 : x98.toInt = 24 + a1.toInt := by rw [ex98, ti_addv kc_24 b80 (by decide), kt_24]
        have b99 : IV x98 24 30 := by rw [ex98]; exact iv_add kc_24 b80 (by decide)
        refine al_23 C b99 (by decide) rfl dX12_two_29 ?_
        refine m_topi (fun x100 ex100 => ?_)
        refine m_if_ge (tgt := 55) C dX12_two_30 (by decide) (fun c101 => ?_) (fun c101 => ?_)
        · have f102 : 0 ≤ x100.toInt := by
            have q : _ := c101
            simp only [ti_nle, ti_nlt, ti_le, ti_lt, ti_eq, ti_ne, Classical.not_not, kt_0] at q
            omega
          have b103 : IV x100 0 2147483647 := ⟨by have q1 := kc_0; have q2 := (iv_any x100); omega, by have q1 := kc_0; have q2 := (iv_any x100); omega⟩
          refine m_ldc (v := (-1000001)) C dX12_two_55 q4_192 ?_
          exact m_iret C hr hlk (by decide) (by decide) dX12_two_57 ⟨_, rfl, i82, g86, (iv_wk kc_m1000001 (by decide)), v88⟩
        · have f104 : x100.toInt < 0 := by
            have q : _ := c101
            simp only [ti_nle, ti_nlt, ti_le, ti_lt, ti_eq, ti_ne, Classical.not_not, kt_0] at q
            omega
          have b105 : IV x100 (-2147483648) (-1) := ⟨by have q1 := (iv_any x100); have q2 := kc_0; omega, by have q1 := (iv_any x100); have q2 := kc_0; omega⟩
          refine m_aload_n C dX12_two_33 rfl rfl ?_
          refine g_22_0 C q4_116 dX12_two_34 ?_
          refine m_bipush (v := 24) C dX12_two_37 (by decide) ?_
          refine m_iload_n C dX12_two_39 rfl rfl ?_
          refine m_iadd C dX12_two_40 ?_
          refine m_topi (fun x106 ex106 => ?_)
          have tx106 : x106.toInt = 24 + a2.toInt := by rw [ex106, ti_addv kc_24 b94 (by decide), kt_24]
          have b107 : IV x106 24 30 := by rw [ex106]; exact iv_add kc_24 b94 (by decide)
          refine al_23 C b107 (by decide) rfl dX12_two_41 ?_
          refine m_topi (fun x108 ex108 => ?_)
          refine m_if_ge (tgt := 55) C dX12_two_42 (by decide) (fun c109 => ?_) (fun c109 => ?_)
          · have f110 : 0 ≤ x108.toInt := by
              have q : _ := c109
              simp only [ti_nle, ti_nlt, ti_le, ti_lt, ti_eq, ti_ne, Classical.not_not, kt_0] at q
              omega
            have b111 : IV x108 0 2147483647 := ⟨by have q1 := kc_0; have q2 := (iv_any x108); omega, by have q1 := kc_0; have q2 := (iv_any x108); omega⟩
            refine m_ldc (v := (-1000001)) C dX12_two_55 q4_192 ?_
            exact m_iret C hr hlk (by decide) (by decide) dX12_two_57 ⟨_, rfl, i82, g86, (iv_wk kc_m1000001 (by decide)), v88⟩
          · have f112 : x108.toInt < 0 := by
              have q : _ := c109
              simp only [ti_nle, ti_nlt, ti_le, ti_lt, ti_eq, ti_ne, Classical.not_not, kt_0] at q
              omega
            have b113 : IV x108 (-2147483648) (-1) := ⟨by have q1 := (iv_any x108); have q2 := kc_0; omega, by have q1 := (iv_any x108); have q2 := kc_0; omega⟩
            refine m_iload_n C dX12_two_45 rfl rfl ?_
            refine m_i2l C dX12_two_46 ?_
            refine m_lconst (v := 0) C dX12_two_47 (by decide) ?_
            refine m_lconst (v := 1) C dX12_two_48 (by decide) ?_
            refine m_callS (n := 3) (st := []) C (c_X12_in l G τ81 ((a3 : Int32).toInt64) (0) (1) i82 ) q4_190 q4_188 q4_189 q1_7 (by decide +kernel) rfl (by decide) (by decide) rfl (Nat.le_of_ble_eq_true rfl) dX12_two_49 ?_
            rintro _ τ114 ⟨x117, rfl, i115, f116, b118, h120⟩
            have g119 : Fr MS_X12_twoS AS_X12_twoS σ τ114 := Fr.call (g86) f116 (by decide)
            have v121 : SFm σ τ114 := v88.fr f116 (by simp) (by decide)
            have f122 := tl_i a3
            have f123 := kl_0
            have f124 := kl_1
            rcases h120 with ⟨h120_0, h120_1, h120_2⟩ | ⟨h120_0, h120_1⟩
            · skip
              have b125 : IV x117 1 1 := ⟨by omega, by omega⟩
              show MW p l e _ s m args below meth c _ 8 G 0 0 52 [some (.ref (G.1 22 0)), some (.int a1), some (.int a2), some (.int a3), none, none, none, none] [.int x117] τ114
              refine m_if_ne (tgt := 58) C dX12_two_52 (by decide) (fun c126 => ?_) (fun c126 => ?_)
              · have f127 : x117.toInt ≠ 0 := by
                  have q : _ := c126
                  simp only [ti_nle, ti_nlt, ti_le, ti_lt, ti_eq, ti_ne, Classical.not_not, kt_0] at q
                  omega
                have b128 : IV a3 0 1 := ⟨by have q1 := (iv_any a3); omega, by have q1 := (iv_any a3); omega⟩
                refine m_iconst (v := 0) C dX12_two_58 (by decide) ?_
                refine m_istore (L1 := [some (.ref (G.1 22 0)), some (.int a1), some (.int a2), some (.int a3), some (.int 0), none, none, none]) C dX12_two_59 (by decide) rfl rfl ?_
                refine m_iconst (v := 0) C dX12_two_61 (by decide) ?_
                refine m_istore (L1 := [some (.ref (G.1 22 0)), some (.int a1), some (.int a2), some (.int a3), some (.int 0), some (.int 0), none, none]) C dX12_two_62 (by decide) rfl rfl ?_
                refine m_iconst (v := 0) C dX12_two_64 (by decide) ?_
                refine m_istore (L1 := [some (.ref (G.1 22 0)), some (.int a1), some (.int a2), some (.int a3), some (.int 0), some (.int 0), some (.int 0), none]) C dX12_two_65 (by decide) rfl rfl ?_
                exact J67 ((10 - (0 : Int32).toInt).toNat + 1) τ114 0 0 0 i115 g119 b80 b94 b128 (iv_wk kc_0 (by decide)) (iv_wk kc_0 (by decide)) (iv_wk kc_0 (by decide)) v121 (Nat.lt_succ_self _)
              · exfalso
                have q : _ := c126
                simp only [ti_nle, ti_nlt, ti_le, ti_lt, ti_eq, ti_ne, Classical.not_not, kt_0] at q
                have q1 := b125; have q2 := kc_0; omega
            · skip
              have b130 : IV x117 0 0 := ⟨by omega, by omega⟩
              show MW p l e _ s m args below meth c _ 8 G 0 0 52 [some (.ref (G.1 22 0)), some (.int a1), some (.int a2), some (.int a3), none, none, none, none] [.int x117] τ114
              refine m_if_ne (tgt := 58) C dX12_two_52 (by decide) (fun c131 => ?_) (fun c131 => ?_)
              · exfalso
                have q : _ := c131
                simp only [ti_nle, ti_nlt, ti_le, ti_lt, ti_eq, ti_ne, Classical.not_not, kt_0] at q
                have q1 := b130; have q2 := kc_0; omega
              · have f133 : x117.toInt = 0 := by
                  have q : _ := c131
                  simp only [ti_nle, ti_nlt, ti_le, ti_lt, ti_eq, ti_ne, Classical.not_not, kt_0] at q
                  omega
                refine m_ldc (v := (-1000001)) C dX12_two_55 q4_192 ?_
                exact m_iret C hr hlk (by decide) (by decide) dX12_two_57 ⟨_, rfl, i115, g119, (iv_wk kc_m1000001 (by decide)), v121⟩

abbrev MS_X12_stonesS : List (Nat × Nat) := [(22, 17)]
abbrev AS_X12_stonesS : List Nat := [23]
set_option maxHeartbeats 4000000 in
set_option maxRecDepth 100000 in
theorem c_X12_stonesS (l : Launch) (G : Gt) (σ : Sg) (a1 : Int32) (hI : Inv σ) : Mc l G yX12_stones cX12_stones 7 (some .int) 4 92 0 0 [.ref (G.1 22 0), .int a1] σ (PI fun r τ => Inv τ ∧ Fr MS_X12_stonesS AS_X12_stonesS σ τ ∧ IV r (-2147483648) 2147483647 ∧ SFm σ τ) := by
  refine Mc.of (L0 := [some (.ref (G.1 22 0)), some (.int a1), none, none, none, none, none]) (by decide) (Nat.le_of_ble_eq_true rfl) rfl ?_
  intro p e s m args below meth c C hr hlk
  have C : Cx p s m args c cX12_stones 7 "LeanTowerModel" := C
  have k0 : (0 : Int32).toInt = 0 := by decide
  have k1 : (1 : Int32).toInt = 1 := by decide
  have J44 : ∀ (n : Nat) (τ : Sg) (y2 : Int32) (y3 : Int32) (y4 : Int32) (y5 : Int32), Inv τ → Fr MS_X12_stonesS AS_X12_stonesS σ τ → IV a1 (-1) 3 → IV y2 0 4 → IV y3 0 256 → IV y4 (-2147483648) 2147483647 → IV y5 0 257 → (SFm σ τ) → (257 - y5.toInt).toNat < n → MW p l e { frames := 4, cells := 0, slots := 0, locals := 92 } s m args below meth c (MQ below (QP G (PI fun r τ => Inv τ ∧ Fr MS_X12_stonesS AS_X12_stonesS σ τ ∧ IV r (-2147483648) 2147483647 ∧ SFm σ τ)) args s 0 0 (aG G)) 7 G 0 0 44 [some (.ref (G.1 22 0)), some (.int a1), some (.int y2), some (.int y3), some (.int y4), some (.int y5), none] [] τ := by
    intro n
    induction n with
    | zero => intro τ y2 y3 y4 y5 iτ fτ b_a1 b_y2 b_y3 b_y4 b_y5 v_SM hm; exact absurd hm (Nat.not_lt_zero _)
    | succ n ih44 =>
      intro τ y2 y3 y4 y5 iτ fτ b_a1 b_y2 b_y3 b_y4 b_y5 v_SM hm44
      have J127 : ∀ (τ : Sg) (y6 : Int32) (z0 : Int32), Inv τ → Fr MS_X12_stonesS AS_X12_stonesS σ τ → IV a1 (-1) 3 → IV y2 0 4 → IV y4 (-2147483648) 2147483647 → IV y5 0 256 → IV y6 (-2147483648) 2147483647 → IV z0 0 256 → (SFm σ τ) → MW p l e { frames := 4, cells := 0, slots := 0, locals := 92 } s m args below meth c (MQ below (QP G (PI fun r τ => Inv τ ∧ Fr MS_X12_stonesS AS_X12_stonesS σ τ ∧ IV r (-2147483648) 2147483647 ∧ SFm σ τ)) args s 0 0 (aG G)) 7 G 0 0 127 [some (.ref (G.1 22 0)), some (.int a1), some (.int y2), none, some (.int y4), some (.int y5), some (.int y6)] [.int z0] τ := by
        intro τ y6 z0 iτ fτ b_a1 b_y2 b_y4 b_y5 b_y6 b_z0 v_SM
        refine m_istore_n (L1 := [some (.ref (G.1 22 0)), some (.int a1), some (.int y2), some (.int z0), some (.int y4), some (.int y5), some (.int y6)]) C dX12_stones_127 rfl (by decide) rfl rfl ?_
        refine m_iload C dX12_stones_128 rfl ?_
        refine m_if_eq (tgt := 140) C dX12_stones_130 (by decide) (fun c1 => ?_) (fun c1 => ?_)
        · have f2 : y5.toInt = 0 := by
            have q : _ := c1
            simp only [ti_nle, ti_nlt, ti_le, ti_lt, ti_eq, ti_ne, Classical.not_not, kt_0] at q
            omega
          have b3 : IV y5 0 0 := ⟨by have q1 := b_y5; have q2 := kc_0; omega, by have q1 := b_y5; have q2 := kc_0; omega⟩
          refine m_iload C dX12_stones_140 rfl ?_
          refine m_goto (tgt := 147) C dX12_stones_142 (by decide) ?_
          refine m_istore (L1 := [some (.ref (G.1 22 0)), some (.int a1), some (.int y2), some (.int z0), some (.int y6), some (.int y5), some (.int y6)]) C dX12_stones_147 (by decide) rfl rfl ?_
          obtain ⟨x4, ex4⟩ : ∃ y : Int32, y = y5 + 1 := ⟨_, rfl⟩
          have tx4 : x4.toInt = y5.toInt + 1 := by rw [ex4, ti_addv b3 kc_1 (by decide), kt_1]
          have b5 : IV x4 1 1 := by rw [ex4]; exact iv_add b3 kc_1 (by decide)
          refine m_iinc (v := x4) (L1 := [some (.ref (G.1 22 0)), some (.int a1), some (.int y2), some (.int z0), some (.int y6), some (.int x4), some (.int y6)]) C dX12_stones_149 rfl (by rw [ex4]; rfl) (by decide) rfl rfl ?_
          refine m_goto (tgt := 44) C dX12_stones_152 (by decide) ?_
          refine m_sub (L1 := [some (.ref (G.1 22 0)), some (.int a1), some (.int y2), some (.int z0), some (.int y6), some (.int x4), none]) ⟨rfl, ⟨rfl, ⟨rfl, ⟨rfl, ⟨rfl, ⟨rfl, trivial⟩⟩⟩⟩⟩⟩ ?_
          exact ih44 τ y2 z0 y6 x4 iτ fτ b_a1 b_y2 b_z0 b_y6 (iv_wk b5 (by decide)) v_SM (by have q := hm44; omega)
        · have f6 : y5.toInt ≠ 0 := by
            have q : _ := c1
            simp only [ti_nle, ti_nlt, ti_le, ti_lt, ti_eq, ti_ne, Classical.not_not, kt_0] at q
            omega
          have b7 : IV y5 1 256 := ⟨by have q1 := b_y5; have q2 := kc_0; omega, by have q1 := b_y5; have q2 := kc_0; omega⟩
          refine m_iload C dX12_stones_133 rfl ?_
          refine m_iload C dX12_stones_135 rfl ?_
          refine m_icmp_ge (tgt := 145) C dX12_stones_137 (by decide) (fun c8 => ?_) (fun c8 => ?_)
          · have f9 : y4.toInt ≤ y6.toInt := by
              have q : _ := c8
              simp only [ti_nle, ti_nlt, ti_le, ti_lt, ti_eq, ti_ne, Classical.not_not] at q
              omega
            refine m_iload C dX12_stones_145 rfl ?_
            refine m_istore (L1 := [some (.ref (G.1 22 0)), some (.int a1), some (.int y2), some (.int z0), some (.int y4), some (.int y5), some (.int y6)]) C dX12_stones_147 (by decide) rfl rfl ?_
            obtain ⟨x10, ex10⟩ : ∃ y : Int32, y = y5 + 1 := ⟨_, rfl⟩
            have tx10 : x10.toInt = y5.toInt + 1 := by rw [ex10, ti_addv b7 kc_1 (by decide), kt_1]
            have b11 : IV x10 2 257 := by rw [ex10]; exact iv_add b7 kc_1 (by decide)
            refine m_iinc (v := x10) (L1 := [some (.ref (G.1 22 0)), some (.int a1), some (.int y2), some (.int z0), some (.int y4), some (.int x10), some (.int y6)]) C dX12_stones_149 rfl (by rw [ex10]; rfl) (by decide) rfl rfl ?_
            refine m_goto (tgt := 44) C dX12_stones_152 (by decide) ?_
            refine m_sub (L1 := [some (.ref (G.1 22 0)), some (.int a1), some (.int y2), some (.int z0), some (.int y4), some (.int x10), none]) ⟨rfl, ⟨rfl, ⟨rfl, ⟨rfl, ⟨rfl, ⟨rfl, trivial⟩⟩⟩⟩⟩⟩ ?_
            exact ih44 τ y2 z0 y4 x10 iτ fτ b_a1 b_y2 b_z0 b_y4 (iv_wk b11 (by decide)) v_SM (by have q := hm44; omega)
          · have f12 : y6.toInt < y4.toInt := by
              have q : _ := c8
              simp only [ti_nle, ti_nlt, ti_le, ti_lt, ti_eq, ti_ne, Classical.not_not] at q
              omega
            have b13 : IV y6 (-2147483648) 2147483646 := ⟨by have q1 := b_y6; have q2 := b_y4; omega, by have q1 := b_y6; have q2 := b_y4; omega⟩
            have b14 : IV y4 (-2147483647) 2147483647 := ⟨by have q1 := b_y6; have q2 := b_y4; omega, by have q1 := b_y6; have q2 := b_y4; omega⟩
            refine m_iload C dX12_stones_140 rfl ?_
            refine m_goto (tgt := 147) C dX12_stones_142 (by decide) ?_
            refine m_istore (L1 := [some (.ref (G.1 22 0)), some (.int a1), some (.int y2), some (.int z0), some (.int y6), some (.int y5), some (.int y6)]) C dX12_stones_147 (by decide) rfl rfl ?_
            obtain ⟨x15, ex15⟩ : ∃ y : Int32, y = y5 + 1 := ⟨_, rfl⟩
            have tx15 : x15.toInt = y5.toInt + 1 := by rw [ex15, ti_addv b7 kc_1 (by decide), kt_1]
            have b16 : IV x15 2 257 := by rw [ex15]; exact iv_add b7 kc_1 (by decide)
            refine m_iinc (v := x15) (L1 := [some (.ref (G.1 22 0)), some (.int a1), some (.int y2), some (.int z0), some (.int y6), some (.int x15), some (.int y6)]) C dX12_stones_149 rfl (by rw [ex15]; rfl) (by decide) rfl rfl ?_
            refine m_goto (tgt := 44) C dX12_stones_152 (by decide) ?_
            refine m_sub (L1 := [some (.ref (G.1 22 0)), some (.int a1), some (.int y2), some (.int z0), some (.int y6), some (.int x15), none]) ⟨rfl, ⟨rfl, ⟨rfl, ⟨rfl, ⟨rfl, ⟨rfl, trivial⟩⟩⟩⟩⟩⟩ ?_
            exact ih44 τ y2 z0 y6 x15 iτ fτ b_a1 b_y2 b_z0 (iv_wk b13 (by decide)) (iv_wk b16 (by decide)) v_SM (by have q := hm44; omega)
      have J65 : ∀ (n : Nat) (τ : Sg) (y6 : Int32), Inv τ → Fr MS_X12_stonesS AS_X12_stonesS σ τ → IV a1 (-1) 3 → IV y2 0 4 → IV y3 0 256 → IV y4 (-2147483648) 2147483647 → IV y5 0 256 → IV y6 0 4 → (SFm σ τ) → (4 - y6.toInt).toNat < n → MW p l e { frames := 4, cells := 0, slots := 0, locals := 92 } s m args below meth c (MQ below (QP G (PI fun r τ => Inv τ ∧ Fr MS_X12_stonesS AS_X12_stonesS σ τ ∧ IV r (-2147483648) 2147483647 ∧ SFm σ τ)) args s 0 0 (aG G)) 7 G 0 0 65 [some (.ref (G.1 22 0)), some (.int a1), some (.int y2), some (.int y3), some (.int y4), some (.int y5), some (.int y6)] [] τ := by
        intro n
        induction n with
        | zero => intro τ y6 iτ fτ b_a1 b_y2 b_y3 b_y4 b_y5 b_y6 v_SM hm; exact absurd hm (Nat.not_lt_zero _)
        | succ n ih65 =>
          intro τ y6 iτ fτ b_a1 b_y2 b_y3 b_y4 b_y5 b_y6 v_SM hm65
          refine m_iload C dX12_stones_65 rfl ?_
          refine m_iload_n C dX12_stones_67 rfl rfl ?_
          refine m_icmp_ge (tgt := 101) C dX12_stones_68 (by decide) (fun c17 => ?_) (fun c17 => ?_)
          · have f18 : y2.toInt ≤ y6.toInt := by
              have q : _ := c17
              simp only [ti_nle, ti_nlt, ti_le, ti_lt, ti_eq, ti_ne, Classical.not_not] at q
              omega
            refine m_aload_n C dX12_stones_101 rfl rfl ?_
            refine m_iconst (v := (-1)) C dX12_stones_102 (by decide) ?_
            refine m_iconst (v := 0) C dX12_stones_103 (by decide) ?_
            refine m_callV (n := 2) (ci := 11) (st := []) C (c_X12_foretellS l G τ ((-1)) (0) iτ (iv_wk kc_m1 (by decide))) (by decide) (by decide) rfl rfl rfl q5_132 q5_129 q5_131 q0_46 q1_7 (by decide +kernel) rfl (by decide) (by decide) rfl (Nat.le_of_ble_eq_true rfl) dX12_stones_104 ?_
            rintro _ τ19 ⟨x22, rfl, i20, f21, b23, h25⟩
            have g24 : Fr MS_X12_stonesS AS_X12_stonesS σ τ19 := Fr.call (fτ) f21 (by decide)
            have v26 : SFm σ τ19 := v_SM.trans h25
            show MW p l e _ s m args below meth c _ 7 G 0 0 107 [some (.ref (G.1 22 0)), some (.int a1), some (.int y2), some (.int y3), some (.int y4), some (.int y5), some (.int y6)] [.int x22] τ19
            refine m_istore (L1 := [some (.ref (G.1 22 0)), some (.int a1), some (.int y2), some (.int y3), some (.int y4), some (.int y5), some (.int x22)]) C dX12_stones_107 (by decide) rfl rfl ?_
            refine m_iload C dX12_stones_109 rfl ?_
            refine m_if_eq (tgt := 121) C dX12_stones_111 (by decide) (fun c27 => ?_) (fun c27 => ?_)
            · have f28 : y5.toInt = 0 := by
                have q : _ := c27
                simp only [ti_nle, ti_nlt, ti_le, ti_lt, ti_eq, ti_ne, Classical.not_not, kt_0] at q
                omega
              have b29 : IV y5 0 0 := ⟨by have q1 := b_y5; have q2 := kc_0; omega, by have q1 := b_y5; have q2 := kc_0; omega⟩
              refine m_iload C dX12_stones_121 rfl ?_
              refine m_goto (tgt := 127) C dX12_stones_123 (by decide) ?_
              refine m_sub (L1 := [some (.ref (G.1 22 0)), some (.int a1), some (.int y2), none, some (.int y4), some (.int y5), some (.int x22)]) ⟨rfl, ⟨rfl, ⟨rfl, ⟨rfl, ⟨rfl, ⟨rfl, trivial⟩⟩⟩⟩⟩⟩ ?_
              exact J127 τ19 x22 y5 i20 g24 b_a1 b_y2 b_y4 (iv_wk b29 (by decide)) b23 (iv_wk b29 (by decide)) v26
            · have f30 : y5.toInt ≠ 0 := by
                have q : _ := c27
                simp only [ti_nle, ti_nlt, ti_le, ti_lt, ti_eq, ti_ne, Classical.not_not, kt_0] at q
                omega
              have b31 : IV y5 1 256 := ⟨by have q1 := b_y5; have q2 := kc_0; omega, by have q1 := b_y5; have q2 := kc_0; omega⟩
              refine m_iload C dX12_stones_114 rfl ?_
              refine m_iload C dX12_stones_116 rfl ?_
              refine m_icmp_ge (tgt := 126) C dX12_stones_118 (by decide) (fun c32 => ?_) (fun c32 => ?_)
              · have f33 : y4.toInt ≤ x22.toInt := by
                  have q : _ := c32
                  simp only [ti_nle, ti_nlt, ti_le, ti_lt, ti_eq, ti_ne, Classical.not_not] at q
                  omega
                refine m_iload_n C dX12_stones_126 rfl rfl ?_
                refine m_sub (L1 := [some (.ref (G.1 22 0)), some (.int a1), some (.int y2), none, some (.int y4), some (.int y5), some (.int x22)]) ⟨rfl, ⟨rfl, ⟨rfl, ⟨rfl, ⟨rfl, ⟨rfl, trivial⟩⟩⟩⟩⟩⟩ ?_
                exact J127 τ19 x22 y3 i20 g24 b_a1 b_y2 b_y4 (iv_wk b31 (by decide)) b23 b_y3 v26
              · have f34 : x22.toInt < y4.toInt := by
                  have q : _ := c32
                  simp only [ti_nle, ti_nlt, ti_le, ti_lt, ti_eq, ti_ne, Classical.not_not] at q
                  omega
                have b35 : IV x22 (-2147483648) 2147483646 := ⟨by have q1 := b23; have q2 := b_y4; omega, by have q1 := b23; have q2 := b_y4; omega⟩
                have b36 : IV y4 (-2147483647) 2147483647 := ⟨by have q1 := b23; have q2 := b_y4; omega, by have q1 := b23; have q2 := b_y4; omega⟩
                refine m_iload C dX12_stones_121 rfl ?_
                refine m_goto (tgt := 127) C dX12_stones_123 (by decide) ?_
                refine m_sub (L1 := [some (.ref (G.1 22 0)), some (.int a1), some (.int y2), none, some (.int y4), some (.int y5), some (.int x22)]) ⟨rfl, ⟨rfl, ⟨rfl, ⟨rfl, ⟨rfl, ⟨rfl, trivial⟩⟩⟩⟩⟩⟩ ?_
                exact J127 τ19 x22 y5 i20 g24 b_a1 b_y2 (iv_wk b36 (by decide)) (iv_wk b31 (by decide)) (iv_wk b35 (by decide)) (iv_wk b31 (by decide)) v26
          · have f37 : y6.toInt < y2.toInt := by
              have q : _ := c17
              simp only [ti_nle, ti_nlt, ti_le, ti_lt, ti_eq, ti_ne, Classical.not_not] at q
              omega
            have b38 : IV y6 0 3 := ⟨by have q1 := b_y6; have q2 := b_y2; omega, by have q1 := b_y6; have q2 := b_y2; omega⟩
            have b39 : IV y2 1 4 := ⟨by have q1 := b_y6; have q2 := b_y2; omega, by have q1 := b_y6; have q2 := b_y2; omega⟩
            refine m_aload_n C dX12_stones_71 rfl rfl ?_
            refine g_22_0 C q4_116 dX12_stones_72 ?_
            refine m_sipush (v := 243) C dX12_stones_75 (by decide) ?_
            refine m_iload C dX12_stones_78 rfl ?_
            refine m_iadd C dX12_stones_80 ?_
            refine m_topi (fun x40 ex40 => ?_)
            have tx40 : x40.toInt = 243 + y6.toInt := by rw [ex40, ti_addv kc_243 b38 (by decide), kt_243]
            have b41 : IV x40 243 246 := by rw [ex40]; exact iv_add kc_243 b38 (by decide)
            refine m_iload C dX12_stones_81 rfl ?_
            refine m_iconst (v := 2) C dX12_stones_83 (by decide) ?_
            refine m_iload_n C dX12_stones_84 rfl rfl ?_
            refine m_iconst (v := 1) C dX12_stones_85 (by decide) ?_
            refine m_isub C dX12_stones_86 ?_
            refine m_topi (fun x42 ex42 => ?_)
            have tx42 : x42.toInt = y2.toInt - 1 := by rw [ex42, ti_subv b39 kc_1 (by decide), kt_1]
            have b43 : IV x42 0 3 := by rw [ex42]; exact iv_sub b39 kc_1 (by decide)
            refine m_iload C dX12_stones_87 rfl ?_
            refine m_isub C dX12_stones_89 ?_
            refine m_topi (fun x44 ex44 => ?_)
            have tx44 : x44.toInt = x42.toInt - y6.toInt := by rw [ex44, ti_subv b43 b38 (by decide)]
            have b45 : IV x44 (-3) 3 := by rw [ex44]; exact iv_sub b43 b38 (by decide)
            refine m_imul C dX12_stones_90 ?_
            refine m_topi (fun x46 ex46 => ?_)
            refine m_ishr C dX12_stones_91 ?_
            refine m_topi (fun x47 ex47 => ?_)
            refine m_iconst (v := 3) C dX12_stones_92 (by decide) ?_
            refine m_iand C dX12_stones_93 ?_
            refine m_topi (fun x48 ex48 => ?_)
            have b49 : IV x48 0 3 := by rw [ex48]; exact iv_and_r kc_3 (by decide)
            refine as_23 C b41 (by decide) rfl dX12_stones_94 ?_
            refine m_tops (fun τ50 eτ50 => ?_)
            have i51 : Inv τ50 := eτ50 ▸ Inv.putW iτ (by omega)
            have f52 : Fr MS_X12_stonesS AS_X12_stonesS σ τ50 := eτ50 ▸ Fr.put (fτ) (Or.inr (by decide))
            have v53 : SFm σ τ50 := v_SM.put eτ50 (by omega)
            obtain ⟨x54, ex54⟩ : ∃ y : Int32, y = y6 + 1 := ⟨_, rfl⟩
            have tx54 : x54.toInt = y6.toInt + 1 := by rw [ex54, ti_addv b38 kc_1 (by decide), kt_1]
            have b55 : IV x54 1 4 := by rw [ex54]; exact iv_add b38 kc_1 (by decide)
            refine m_iinc (v := x54) (L1 := [some (.ref (G.1 22 0)), some (.int a1), some (.int y2), some (.int y3), some (.int y4), some (.int y5), some (.int x54)]) C dX12_stones_95 rfl (by rw [ex54]; rfl) (by decide) rfl rfl ?_
            refine m_goto (tgt := 65) C dX12_stones_98 (by decide) ?_
            exact ih65 τ50 x54 i51 f52 b_a1 (iv_wk b39 (by decide)) b_y3 b_y4 b_y5 (iv_wk b55 (by decide)) v53 (by have q := hm65; omega)
      refine m_iload C dX12_stones_44 rfl ?_
      refine m_iconst (v := 1) C dX12_stones_46 (by decide) ?_
      refine m_iconst (v := 2) C dX12_stones_47 (by decide) ?_
      refine m_iload_n C dX12_stones_48 rfl rfl ?_
      refine m_imul C dX12_stones_49 ?_
      refine m_topi (fun x56 ex56 => ?_)
      have tx56 : x56.toInt = 2 * y2.toInt := by rw [ex56, ti_mulv kc_2 b_y2 (by decide), kt_2]
      have b57 : IV x56 0 8 := by rw [ex56]; exact iv_mul kc_2 b_y2 (by decide)
      refine m_ishl C dX12_stones_50 ?_
      refine m_topi (fun x58 ex58 => ?_)
      have b59 : IV x58 1 256 := by rw [ex58]; exact iv_shl1 b57 (by decide)
      refine m_icmp_ge (tgt := 155) C dX12_stones_51 (by decide) (fun c60 => ?_) (fun c60 => ?_)
      · have f61 : x58.toInt ≤ y5.toInt := by
          have q : _ := c60
          simp only [ti_nle, ti_nlt, ti_le, ti_lt, ti_eq, ti_ne, Classical.not_not] at q
          omega
        have b62 : IV y5 1 257 := ⟨by have q1 := b59; have q2 := b_y5; omega, by have q1 := b59; have q2 := b_y5; omega⟩
        refine m_iload_n C dX12_stones_155 rfl rfl ?_
        refine m_if_ge (tgt := 164) C dX12_stones_156 (by decide) (fun c63 => ?_) (fun c63 => ?_)
        · have f64 : 0 ≤ a1.toInt := by
            have q : _ := c63
            simp only [ti_nle, ti_nlt, ti_le, ti_lt, ti_eq, ti_ne, Classical.not_not, kt_0] at q
            omega
          have b65 : IV a1 0 3 := ⟨by have q1 := kc_0; have q2 := b_a1; omega, by have q1 := kc_0; have q2 := b_a1; omega⟩
          refine m_iload_n C dX12_stones_164 rfl rfl ?_
          refine m_iconst (v := 2) C dX12_stones_165 (by decide) ?_
          refine m_iload_n C dX12_stones_166 rfl rfl ?_
          refine m_iconst (v := 1) C dX12_stones_167 (by decide) ?_
          refine m_isub C dX12_stones_168 ?_
          refine m_topi (fun x66 ex66 => ?_)
          have tx66 : x66.toInt = y2.toInt - 1 := by rw [ex66, ti_subv b_y2 kc_1 (by decide), kt_1]
          have b67 : IV x66 (-1) 3 := by rw [ex66]; exact iv_sub b_y2 kc_1 (by decide)
          refine m_iload_n C dX12_stones_169 rfl rfl ?_
          refine m_isub C dX12_stones_170 ?_
          refine m_topi (fun x68 ex68 => ?_)
          have tx68 : x68.toInt = x66.toInt - a1.toInt := by rw [ex68, ti_subv b67 b65 (by decide)]
          have b69 : IV x68 (-4) 3 := by rw [ex68]; exact iv_sub b67 b65 (by decide)
          refine m_imul C dX12_stones_171 ?_
          refine m_topi (fun x70 ex70 => ?_)
          refine m_ishr C dX12_stones_172 ?_
          refine m_topi (fun x71 ex71 => ?_)
          refine m_iconst (v := 3) C dX12_stones_173 (by decide) ?_
          refine m_iand C dX12_stones_174 ?_
          refine m_topi (fun x72 ex72 => ?_)
          have b73 : IV x72 0 3 := by rw [ex72]; exact iv_and_r kc_3 (by decide)
          exact m_iret C hr hlk (by decide) (by decide) dX12_stones_175 ⟨_, rfl, iτ, fτ, (iv_wk b73 (by decide)), v_SM⟩
        · have f74 : a1.toInt < 0 := by
            have q : _ := c63
            simp only [ti_nle, ti_nlt, ti_le, ti_lt, ti_eq, ti_ne, Classical.not_not, kt_0] at q
            omega
          have b75 : IV a1 (-1) (-1) := ⟨by have q1 := b_a1; have q2 := kc_0; omega, by have q1 := b_a1; have q2 := kc_0; omega⟩
          refine m_iload C dX12_stones_159 rfl ?_
          refine m_goto (tgt := 175) C dX12_stones_161 (by decide) ?_
          exact m_iret C hr hlk (by decide) (by decide) dX12_stones_175 ⟨_, rfl, iτ, fτ, b_y4, v_SM⟩
      · have f76 : y5.toInt < x58.toInt := by
          have q : _ := c60
          simp only [ti_nle, ti_nlt, ti_le, ti_lt, ti_eq, ti_ne, Classical.not_not] at q
          omega
        have b77 : IV y5 0 255 := ⟨by have q1 := b_y5; have q2 := b59; omega, by have q1 := b_y5; have q2 := b59; omega⟩
        refine m_aload_n C dX12_stones_54 rfl rfl ?_
        refine m_iconst (v := 0) C dX12_stones_55 (by decide) ?_
        refine m_sipush (v := 200) C dX12_stones_56 (by decide) ?_
        have q78 := kt_0
        have q79 := kt_200
        refine m_callV (n := 2) (ci := 11) (st := []) C (c_X12_copyAll l G τ (0) (200) iτ (iv_wk kc_0 (by decide)) (iv_wk kc_200 (by decide)) (by omega) (by omega) (by omega) (Or.inl (by omega))) (by decide) (by decide) rfl rfl rfl q5_38 q5_35 q5_37 q0_35 q1_7 (by decide +kernel) rfl (by decide) (by decide) rfl (Nat.le_of_ble_eq_true rfl) dX12_stones_59 ?_
        rintro _ τ80 ⟨rfl, i81, f82, h86⟩
        have g85 : Fr MS_X12_stonesS AS_X12_stonesS σ τ80 := Fr.call (fτ) f82 (by decide)
        have v87 : SFm σ τ80 := v_SM.cp h86 (by decide)
        show MW p l e _ s m args below meth c _ 7 G 0 0 62 [some (.ref (G.1 22 0)), some (.int a1), some (.int y2), some (.int y3), some (.int y4), some (.int y5), none] [] τ80
        refine m_iconst (v := 0) C dX12_stones_62 (by decide) ?_
        refine m_istore (L1 := [some (.ref (G.1 22 0)), some (.int a1), some (.int y2), some (.int y3), some (.int y4), some (.int y5), some (.int 0)]) C dX12_stones_63 (by decide) rfl rfl ?_
        exact J65 ((4 - (0 : Int32).toInt).toNat + 1) τ80 0 i81 g85 b_a1 b_y2 b_y3 b_y4 (iv_wk b77 (by decide)) (iv_wk kc_0 (by decide)) v87 (Nat.lt_succ_self _)
  refine m_aload_n C dX12_stones_0 rfl rfl ?_
  refine m_callV (n := 0) (ci := 11) (st := []) C (c_X12_isTower l G σ  hI ) (by decide) (by decide) rfl rfl rfl q5_67 q5_64 q5_66 q0_38 q1_7 (by decide +kernel) rfl (by decide) (by decide) rfl (Nat.le_of_ble_eq_true rfl) dX12_stones_1 ?_
  rintro _ τ88 ⟨x91, rfl, i89, f90, b92⟩
  have g93 : Fr MS_X12_stonesS AS_X12_stonesS σ τ88 := Fr.call (Fr.rf) f90 (by decide)
  have v95 : SFm σ τ88 := SFm.rf.fr f90 (by simp) (by decide)
  show MW p l e _ s m args below meth c _ 7 G 0 0 4 [some (.ref (G.1 22 0)), some (.int a1), none, none, none, none, none] [.int x91] τ88
  refine m_if_ne (tgt := 10) C dX12_stones_4 (by decide) (fun c96 => ?_) (fun c96 => ?_)
  · have f97 : x91.toInt ≠ 0 := by
      have q : _ := c96
      simp only [ti_nle, ti_nlt, ti_le, ti_lt, ti_eq, ti_ne, Classical.not_not, kt_0] at q
      omega
    have b98 : IV x91 1 1 := ⟨by have q1 := b92; have q2 := kc_0; omega, by have q1 := b92; have q2 := kc_0; omega⟩
    refine m_aload_n C dX12_stones_10 rfl rfl ?_
    refine g_22_0 C q4_116 dX12_stones_11 ?_
    refine m_bipush (v := 38) C dX12_stones_14 (by decide) ?_
    refine al_23 C kc_38 (by decide) kn_38 dX12_stones_16 ?_
    refine m_topi (fun x99 ex99 => ?_)
    have b100 : IV x99 0 4 := by rw [ex99]; exact i89.1 23 0 38
    refine m_istore_n (L1 := [some (.ref (G.1 22 0)), some (.int a1), some (.int x99), none, none, none, none]) C dX12_stones_17 rfl (by decide) rfl rfl ?_
    refine m_iload_n C dX12_stones_18 rfl rfl ?_
    refine m_i2l C dX12_stones_19 ?_
    refine m_ldc2 (v := (-1)) C dX12_stones_20 q4_236 ?_
    refine m_iload_n C dX12_stones_23 rfl rfl ?_
    refine m_iconst (v := 1) C dX12_stones_24 (by decide) ?_
    refine m_isub C dX12_stones_25 ?_
    refine m_topi (fun x101 ex101 => ?_)
    have tx101 : x101.toInt = x99.toInt - 1 := by rw [ex101, ti_subv b100 kc_1 (by decide), kt_1]
    have b102 : IV x101 (-1) 3 := by rw [ex101]; exact iv_sub b100 kc_1 (by decide)
    refine m_i2l C dX12_stones_26 ?_
    refine m_callS (n := 3) (st := []) C (c_X12_in l G τ88 ((a1 : Int32).toInt64) ((-1)) ((x101 : Int32).toInt64) i89 ) q4_190 q4_188 q4_189 q1_7 (by decide +kernel) rfl (by decide) (by decide) rfl (Nat.le_of_ble_eq_true rfl) dX12_stones_27 ?_
    rintro _ τ103 ⟨x106, rfl, i104, f105, b107, h109⟩
    have g108 : Fr MS_X12_stonesS AS_X12_stonesS σ τ103 := Fr.call (g93) f105 (by decide)
    have v110 : SFm σ τ103 := v95.fr f105 (by simp) (by decide)
    have f111 := tl_i a1
    have f112 := kl_m1
    have f113 := tl_i x101
    have q114 := b102
    rcases h109 with ⟨h109_0, h109_1, h109_2⟩ | ⟨h109_0, h109_1⟩
    · skip
      have b115 : IV x106 1 1 := ⟨by omega, by omega⟩
      show MW p l e _ s m args below meth c _ 7 G 0 0 30 [some (.ref (G.1 22 0)), some (.int a1), some (.int x99), none, none, none, none] [.int x106] τ103
      refine m_if_ne (tgt := 36) C dX12_stones_30 (by decide) (fun c116 => ?_) (fun c116 => ?_)
      · have f117 : x106.toInt ≠ 0 := by
          have q : _ := c116
          simp only [ti_nle, ti_nlt, ti_le, ti_lt, ti_eq, ti_ne, Classical.not_not, kt_0] at q
          omega
        have b118 : IV a1 (-1) 3 := ⟨by have q1 := (iv_any a1); omega, by have q1 := (iv_any a1); omega⟩
        refine m_iconst (v := 0) C dX12_stones_36 (by decide) ?_
        refine m_istore_n (L1 := [some (.ref (G.1 22 0)), some (.int a1), some (.int x99), some (.int 0), none, none, none]) C dX12_stones_37 rfl (by decide) rfl rfl ?_
        refine m_iconst (v := 0) C dX12_stones_38 (by decide) ?_
        refine m_istore (L1 := [some (.ref (G.1 22 0)), some (.int a1), some (.int x99), some (.int 0), some (.int 0), none, none]) C dX12_stones_39 (by decide) rfl rfl ?_
        refine m_iconst (v := 0) C dX12_stones_41 (by decide) ?_
        refine m_istore (L1 := [some (.ref (G.1 22 0)), some (.int a1), some (.int x99), some (.int 0), some (.int 0), some (.int 0), none]) C dX12_stones_42 (by decide) rfl rfl ?_
        exact J44 ((257 - (0 : Int32).toInt).toNat + 1) τ103 x99 0 0 0 i104 g108 b118 b100 (iv_wk kc_0 (by decide)) (iv_wk kc_0 (by decide)) (iv_wk kc_0 (by decide)) v110 (Nat.lt_succ_self _)
      · exfalso
        have q : _ := c116
        simp only [ti_nle, ti_nlt, ti_le, ti_lt, ti_eq, ti_ne, Classical.not_not, kt_0] at q
        have q1 := b115; have q2 := kc_0; omega
    · skip
      have b120 : IV x106 0 0 := ⟨by omega, by omega⟩
      show MW p l e _ s m args below meth c _ 7 G 0 0 30 [some (.ref (G.1 22 0)), some (.int a1), some (.int x99), none, none, none, none] [.int x106] τ103
      refine m_if_ne (tgt := 36) C dX12_stones_30 (by decide) (fun c121 => ?_) (fun c121 => ?_)
      · exfalso
        have q : _ := c121
        simp only [ti_nle, ti_nlt, ti_le, ti_lt, ti_eq, ti_ne, Classical.not_not, kt_0] at q
        have q1 := b120; have q2 := kc_0; omega
      · have f123 : x106.toInt = 0 := by
          have q : _ := c121
          simp only [ti_nle, ti_nlt, ti_le, ti_lt, ti_eq, ti_ne, Classical.not_not, kt_0] at q
          omega
        refine m_ldc (v := (-1000001)) C dX12_stones_33 q4_192 ?_
        exact m_iret C hr hlk (by decide) (by decide) dX12_stones_35 ⟨_, rfl, i104, g108, (iv_wk kc_m1000001 (by decide)), v110⟩
  · have f124 : x91.toInt = 0 := by
      have q : _ := c96
      simp only [ti_nle, ti_nlt, ti_le, ti_lt, ti_eq, ti_ne, Classical.not_not, kt_0] at q
      omega
    have b125 : IV x91 0 0 := ⟨by have q1 := b92; have q2 := kc_0; omega, by have q1 := b92; have q2 := kc_0; omega⟩
    refine m_ldc (v := (-1000002)) C dX12_stones_7 q5_68 ?_
    exact m_iret C hr hlk (by decide) (by decide) dX12_stones_9 ⟨_, rfl, i89, g93, (iv_wk kc_m1000002 (by decide)), v95⟩

abbrev MS_X12_marksS : List (Nat × Nat) := [(22, 8)]
abbrev AS_X12_marksS : List Nat := [23]
set_option maxHeartbeats 4000000 in
set_option maxRecDepth 100000 in
theorem c_X12_marksS (l : Launch) (G : Gt) (σ : Sg) (a1 : Int32) (a2 : Int32) (a3 : Int32) (a4 : Int32) (hI : Inv σ) : Mc l G yX12_marks cX12_marks 8 (some .int) 2 46 0 0 [.ref (G.1 22 0), .int a1, .int a2, .int a3, .int a4] σ (PI fun r τ => Inv τ ∧ Fr MS_X12_marksS AS_X12_marksS σ τ ∧ IV r (-2147483648) 2147483647 ∧ SFm σ τ) := by
  refine Mc.of (L0 := [some (.ref (G.1 22 0)), some (.int a1), some (.int a2), some (.int a3), some (.int a4), none, none, none]) (by decide) (Nat.le_of_ble_eq_true rfl) rfl ?_
  intro p e s m args below meth c C hr hlk
  have C : Cx p s m args c cX12_marks 8 "LeanTowerModel" := C
  have k0 : (0 : Int32).toInt = 0 := by decide
  have k1 : (1 : Int32).toInt = 1 := by decide
  have J158 : ∀ (n : Nat) (τ : Sg) (y5 : Int32) (y6 : Int32), Inv τ → Fr MS_X12_marksS AS_X12_marksS σ τ → IV a1 0 7 → IV a2 (-999) 999 → IV a3 (-999) 999 → IV a4 (-1) 2147483647 → IV y5 (-2147483648) 2147483647 → IV y6 0 128 → (SFm σ τ) → (128 - y6.toInt).toNat < n → MW p l e { frames := 2, cells := 0, slots := 0, locals := 46 } s m args below meth c (MQ below (QP G (PI fun r τ => Inv τ ∧ Fr MS_X12_marksS AS_X12_marksS σ τ ∧ IV r (-2147483648) 2147483647 ∧ SFm σ τ)) args s 0 0 (aG G)) 8 G 0 0 158 [some (.ref (G.1 22 0)), some (.int a1), some (.int a2), some (.int a3), some (.int a4), some (.int y5), some (.int y6), none] [] τ := by
    intro n
    induction n with
    | zero => intro τ y5 y6 iτ fτ b_a1 b_a2 b_a3 b_a4 b_y5 b_y6 v_SM hm; exact absurd hm (Nat.not_lt_zero _)
    | succ n ih158 =>
      intro τ y5 y6 iτ fτ b_a1 b_a2 b_a3 b_a4 b_y5 b_y6 v_SM hm158
      have J174 : ∀ (n : Nat) (τ : Sg) (y7 : Int32), Inv τ → Fr MS_X12_marksS AS_X12_marksS σ τ → IV a1 0 7 → IV a2 (-999) 999 → IV a3 (-999) 999 → IV a4 (-1) 2147483647 → IV y5 (-2147483648) 2147483647 → IV y6 0 127 → IV y7 0 7 → (SFm σ τ) → (7 - y7.toInt).toNat < n → MW p l e { frames := 2, cells := 0, slots := 0, locals := 46 } s m args below meth c (MQ below (QP G (PI fun r τ => Inv τ ∧ Fr MS_X12_marksS AS_X12_marksS σ τ ∧ IV r (-2147483648) 2147483647 ∧ SFm σ τ)) args s 0 0 (aG G)) 8 G 0 0 174 [some (.ref (G.1 22 0)), some (.int a1), some (.int a2), some (.int a3), some (.int a4), some (.int y5), some (.int y6), some (.int y7)] [] τ := by
        intro n
        induction n with
        | zero => intro τ y7 iτ fτ b_a1 b_a2 b_a3 b_a4 b_y5 b_y6 b_y7 v_SM hm; exact absurd hm (Nat.not_lt_zero _)
        | succ n ih174 =>
          intro τ y7 iτ fτ b_a1 b_a2 b_a3 b_a4 b_y5 b_y6 b_y7 v_SM hm174
          refine m_iload C dX12_marks_174 rfl ?_
          refine m_aload_n C dX12_marks_176 rfl rfl ?_
          refine g_22_0 C q4_116 dX12_marks_177 ?_
          refine m_iconst (v := 2) C dX12_marks_180 (by decide) ?_
          refine al_23 C kc_2 (by decide) kn_2 dX12_marks_181 ?_
          refine m_topi (fun x1 ex1 => ?_)
          have b2 : IV x1 0 7 := by rw [ex1]; exact iτ.1 23 0 2
          refine m_icmp_ge (tgt := 228) C dX12_marks_182 (by decide) (fun c3 => ?_) (fun c3 => ?_)
          · have f4 : x1.toInt ≤ y7.toInt := by
              have q : _ := c3
              simp only [ti_nle, ti_nlt, ti_le, ti_lt, ti_eq, ti_ne, Classical.not_not] at q
              omega
            refine m_aload_n C dX12_marks_228 rfl rfl ?_
            refine m_sipush (v := 200) C dX12_marks_229 (by decide) ?_
            refine m_iconst (v := 1) C dX12_marks_232 (by decide) ?_
            have q5 := kt_200
            have q6 := kt_1
            refine m_callV (n := 2) (ci := 11) (st := []) C (c_X12_leanOf l G τ (200) (1) iτ (iv_wk kc_200 (by decide)) (by omega)) (by decide) (by decide) rfl rfl rfl q5_82 q5_79 q5_81 q0_41 q1_7 (by decide +kernel) rfl (by decide) (by decide) rfl (Nat.le_of_ble_eq_true rfl) dX12_marks_233 ?_
            rintro _ τ7 ⟨x10, rfl, i8, f9, b11⟩
            have g12 : Fr MS_X12_marksS AS_X12_marksS σ τ7 := Fr.call (fτ) f9 (by decide)
            have v14 : SFm σ τ7 := v_SM.fr f9 (by simp) (by decide)
            show MW p l e _ s m args below meth c _ 8 G 0 0 236 [some (.ref (G.1 22 0)), some (.int a1), some (.int a2), some (.int a3), some (.int a4), some (.int y5), some (.int y6), some (.int y7)] [.int x10] τ7
            refine m_iload_n C dX12_marks_236 rfl rfl ?_
            refine m_icmp_ne (tgt := 269) C dX12_marks_237 (by decide) (fun c15 => ?_) (fun c15 => ?_)
            · have f16 : x10.toInt ≠ a2.toInt := by
                have q : _ := c15
                simp only [ti_nle, ti_nlt, ti_le, ti_lt, ti_eq, ti_ne, Classical.not_not] at q
                omega
              obtain ⟨x17, ex17⟩ : ∃ y : Int32, y = y6 + 1 := ⟨_, rfl⟩
              have tx17 : x17.toInt = y6.toInt + 1 := by rw [ex17, ti_addv b_y6 kc_1 (by decide), kt_1]
              have b18 : IV x17 1 128 := by rw [ex17]; exact iv_add b_y6 kc_1 (by decide)
              refine m_iinc (v := x17) (L1 := [some (.ref (G.1 22 0)), some (.int a1), some (.int a2), some (.int a3), some (.int a4), some (.int y5), some (.int x17), some (.int y7)]) C dX12_marks_269 rfl (by rw [ex17]; rfl) (by decide) rfl rfl ?_
              refine m_goto (tgt := 158) C dX12_marks_272 (by decide) ?_
              refine m_sub (L1 := [some (.ref (G.1 22 0)), some (.int a1), some (.int a2), some (.int a3), some (.int a4), some (.int y5), some (.int x17), none]) ⟨rfl, ⟨rfl, ⟨rfl, ⟨rfl, ⟨rfl, ⟨rfl, ⟨rfl, trivial⟩⟩⟩⟩⟩⟩⟩ ?_
              exact ih158 τ7 y5 x17 i8 g12 b_a1 b_a2 b_a3 b_a4 b_y5 (iv_wk b18 (by decide)) v14 (by have q := hm158; omega)
            · have f19 : x10.toInt = a2.toInt := by
                have q : _ := c15
                simp only [ti_nle, ti_nlt, ti_le, ti_lt, ti_eq, ti_ne, Classical.not_not] at q
                omega
              have b20 : IV x10 (-999) 999 := ⟨by have q1 := b11; have q2 := b_a2; omega, by have q1 := b11; have q2 := b_a2; omega⟩
              refine m_aload_n C dX12_marks_240 rfl rfl ?_
              refine m_sipush (v := 200) C dX12_marks_241 (by decide) ?_
              refine m_iconst (v := 0) C dX12_marks_244 (by decide) ?_
              have q21 := kt_200
              have q22 := kt_0
              refine m_callV (n := 2) (ci := 11) (st := []) C (c_X12_leanOf l G τ7 (200) (0) i8 (iv_wk kc_200 (by decide)) (by omega)) (by decide) (by decide) rfl rfl rfl q5_82 q5_79 q5_81 q0_41 q1_7 (by decide +kernel) rfl (by decide) (by decide) rfl (Nat.le_of_ble_eq_true rfl) dX12_marks_245 ?_
              rintro _ τ23 ⟨x26, rfl, i24, f25, b27⟩
              have g28 : Fr MS_X12_marksS AS_X12_marksS σ τ23 := Fr.call (g12) f25 (by decide)
              have v30 : SFm σ τ23 := v14.fr f25 (by simp) (by decide)
              show MW p l e _ s m args below meth c _ 8 G 0 0 248 [some (.ref (G.1 22 0)), some (.int a1), some (.int a2), some (.int a3), some (.int a4), some (.int y5), some (.int y6), some (.int y7)] [.int x26] τ23
              refine m_iload_n C dX12_marks_248 rfl rfl ?_
              refine m_icmp_ne (tgt := 269) C dX12_marks_249 (by decide) (fun c31 => ?_) (fun c31 => ?_)
              · have f32 : x26.toInt ≠ a3.toInt := by
                  have q : _ := c31
                  simp only [ti_nle, ti_nlt, ti_le, ti_lt, ti_eq, ti_ne, Classical.not_not] at q
                  omega
                obtain ⟨x33, ex33⟩ : ∃ y : Int32, y = y6 + 1 := ⟨_, rfl⟩
                have tx33 : x33.toInt = y6.toInt + 1 := by rw [ex33, ti_addv b_y6 kc_1 (by decide), kt_1]
                have b34 : IV x33 1 128 := by rw [ex33]; exact iv_add b_y6 kc_1 (by decide)
                refine m_iinc (v := x33) (L1 := [some (.ref (G.1 22 0)), some (.int a1), some (.int a2), some (.int a3), some (.int a4), some (.int y5), some (.int x33), some (.int y7)]) C dX12_marks_269 rfl (by rw [ex33]; rfl) (by decide) rfl rfl ?_
                refine m_goto (tgt := 158) C dX12_marks_272 (by decide) ?_
                refine m_sub (L1 := [some (.ref (G.1 22 0)), some (.int a1), some (.int a2), some (.int a3), some (.int a4), some (.int y5), some (.int x33), none]) ⟨rfl, ⟨rfl, ⟨rfl, ⟨rfl, ⟨rfl, ⟨rfl, ⟨rfl, trivial⟩⟩⟩⟩⟩⟩⟩ ?_
                exact ih158 τ23 y5 x33 i24 g28 b_a1 b_a2 b_a3 b_a4 b_y5 (iv_wk b34 (by decide)) v30 (by have q := hm158; omega)
              · have f35 : x26.toInt = a3.toInt := by
                  have q : _ := c31
                  simp only [ti_nle, ti_nlt, ti_le, ti_lt, ti_eq, ti_ne, Classical.not_not] at q
                  omega
                have b36 : IV x26 (-999) 999 := ⟨by have q1 := b27; have q2 := b_a3; omega, by have q1 := b27; have q2 := b_a3; omega⟩
                refine m_iload C dX12_marks_252 rfl ?_
                refine m_iload C dX12_marks_254 rfl ?_
                refine m_icmp_ne (tgt := 266) C dX12_marks_256 (by decide) (fun c37 => ?_) (fun c37 => ?_)
                · have f38 : y5.toInt ≠ a4.toInt := by
                    have q : _ := c37
                    simp only [ti_nle, ti_nlt, ti_le, ti_lt, ti_eq, ti_ne, Classical.not_not] at q
                    omega
                  obtain ⟨x39, ex39⟩ : ∃ y : Int32, y = y5 + 1 := ⟨_, rfl⟩
                  refine m_iinc (v := x39) (L1 := [some (.ref (G.1 22 0)), some (.int a1), some (.int a2), some (.int a3), some (.int a4), some (.int x39), some (.int y6), some (.int y7)]) C dX12_marks_266 rfl (by rw [ex39]; rfl) (by decide) rfl rfl ?_
                  obtain ⟨x40, ex40⟩ : ∃ y : Int32, y = y6 + 1 := ⟨_, rfl⟩
                  have tx40 : x40.toInt = y6.toInt + 1 := by rw [ex40, ti_addv b_y6 kc_1 (by decide), kt_1]
                  have b41 : IV x40 1 128 := by rw [ex40]; exact iv_add b_y6 kc_1 (by decide)
                  refine m_iinc (v := x40) (L1 := [some (.ref (G.1 22 0)), some (.int a1), some (.int a2), some (.int a3), some (.int a4), some (.int x39), some (.int x40), some (.int y7)]) C dX12_marks_269 rfl (by rw [ex40]; rfl) (by decide) rfl rfl ?_
                  refine m_goto (tgt := 158) C dX12_marks_272 (by decide) ?_
                  refine m_sub (L1 := [some (.ref (G.1 22 0)), some (.int a1), some (.int a2), some (.int a3), some (.int a4), some (.int x39), some (.int x40), none]) ⟨rfl, ⟨rfl, ⟨rfl, ⟨rfl, ⟨rfl, ⟨rfl, ⟨rfl, trivial⟩⟩⟩⟩⟩⟩⟩ ?_
                  exact ih158 τ23 x39 x40 i24 g28 b_a1 b_a2 b_a3 b_a4 (iv_any x39) (iv_wk b41 (by decide)) v30 (by have q := hm158; omega)
                · have f42 : y5.toInt = a4.toInt := by
                    have q : _ := c37
                    simp only [ti_nle, ti_nlt, ti_le, ti_lt, ti_eq, ti_ne, Classical.not_not] at q
                    omega
                  have b43 : IV y5 (-1) 2147483647 := ⟨by have q1 := b_y5; have q2 := b_a4; omega, by have q1 := b_y5; have q2 := b_a4; omega⟩
                  refine m_aload_n C dX12_marks_259 rfl rfl ?_
                  refine m_iload C dX12_marks_260 rfl ?_
                  refine m_callV (n := 1) (ci := 11) (st := []) C (c_X12_fine l G τ23 (y6) i24 ) (by decide) (by decide) rfl rfl rfl q4_201 q4_198 q4_200 q0_27 q1_7 (by decide +kernel) rfl (by decide) (by decide) rfl (Nat.le_of_ble_eq_true rfl) dX12_marks_262 ?_
                  rintro _ τ44 ⟨x47, rfl, i45, f46, b48, h50⟩
                  have g49 : Fr MS_X12_marksS AS_X12_marksS σ τ44 := Fr.call (g28) f46 (by decide)
                  have v51 : SFm σ τ44 := v30.fr f46 (by simp) (by decide)
                  show MW p l e _ s m args below meth c _ 8 G 0 0 265 [some (.ref (G.1 22 0)), some (.int a1), some (.int a2), some (.int a3), some (.int a4), some (.int y5), some (.int y6), some (.int y7)] [.int x47] τ44
                  exact m_iret C hr hlk (by decide) (by decide) dX12_marks_265 ⟨_, rfl, i45, g49, b48, v51⟩
          · have f52 : y7.toInt < x1.toInt := by
              have q : _ := c3
              simp only [ti_nle, ti_nlt, ti_le, ti_lt, ti_eq, ti_ne, Classical.not_not] at q
              omega
            have b53 : IV y7 0 6 := ⟨by have q1 := b_y7; have q2 := b2; omega, by have q1 := b_y7; have q2 := b2; omega⟩
            have b54 : IV x1 1 7 := ⟨by have q1 := b_y7; have q2 := b2; omega, by have q1 := b_y7; have q2 := b2; omega⟩
            refine m_aload_n C dX12_marks_185 rfl rfl ?_
            refine g_22_0 C q4_116 dX12_marks_186 ?_
            refine m_sipush (v := 224) C dX12_marks_189 (by decide) ?_
            refine m_iload C dX12_marks_192 rfl ?_
            refine m_iadd C dX12_marks_194 ?_
            refine m_topi (fun x55 ex55 => ?_)
            have tx55 : x55.toInt = 224 + y7.toInt := by rw [ex55, ti_addv kc_224 b53 (by decide), kt_224]
            have b56 : IV x55 224 230 := by rw [ex55]; exact iv_add kc_224 b53 (by decide)
            refine m_iload C dX12_marks_195 rfl ?_
            refine m_iload C dX12_marks_197 rfl ?_
            refine m_callS (n := 2) (st := [.int x55, .ref (G.1 23 0)]) C (c_X12_has l G τ (y6) (y7) iτ ) q5_142 q5_140 q5_141 q1_7 (by decide +kernel) rfl (by decide) (by decide) rfl (Nat.le_of_ble_eq_true rfl) dX12_marks_199 ?_
            rintro _ τ57 ⟨x60, rfl, i58, f59, b61⟩
            have g62 : Fr MS_X12_marksS AS_X12_marksS σ τ57 := Fr.call (fτ) f59 (by decide)
            have v64 : SFm σ τ57 := v_SM.fr f59 (by simp) (by decide)
            show MW p l e _ s m args below meth c _ 8 G 0 0 202 [some (.ref (G.1 22 0)), some (.int a1), some (.int a2), some (.int a3), some (.int a4), some (.int y5), some (.int y6), some (.int y7)] [.int x60, .int x55, .ref (G.1 23 0)] τ57
            refine m_if_eq (tgt := 220) C dX12_marks_202 (by decide) (fun c65 => ?_) (fun c65 => ?_)
            · have f66 : x60.toInt = 0 := by
                have q : _ := c65
                simp only [ti_nle, ti_nlt, ti_le, ti_lt, ti_eq, ti_ne, Classical.not_not, kt_0] at q
                omega
              have b67 : IV x60 0 0 := ⟨by have q1 := b61; have q2 := kc_0; omega, by have q1 := b61; have q2 := kc_0; omega⟩
              refine m_iconst (v := (-1)) C dX12_marks_220 (by decide) ?_
              refine as_23 C b56 (by decide) rfl dX12_marks_221 ?_
              refine m_tops (fun τ68 eτ68 => ?_)
              have i69 : Inv τ68 := eτ68 ▸ Inv.putW i58 (by omega)
              have f70 : Fr MS_X12_marksS AS_X12_marksS σ τ68 := eτ68 ▸ Fr.put (g62) (Or.inr (by decide))
              have v71 : SFm σ τ68 := v64.put eτ68 (by omega)
              obtain ⟨x72, ex72⟩ : ∃ y : Int32, y = y7 + 1 := ⟨_, rfl⟩
              have tx72 : x72.toInt = y7.toInt + 1 := by rw [ex72, ti_addv b53 kc_1 (by decide), kt_1]
              have b73 : IV x72 1 7 := by rw [ex72]; exact iv_add b53 kc_1 (by decide)
              refine m_iinc (v := x72) (L1 := [some (.ref (G.1 22 0)), some (.int a1), some (.int a2), some (.int a3), some (.int a4), some (.int y5), some (.int y6), some (.int x72)]) C dX12_marks_222 rfl (by rw [ex72]; rfl) (by decide) rfl rfl ?_
              refine m_goto (tgt := 174) C dX12_marks_225 (by decide) ?_
              exact ih174 τ68 x72 i69 f70 b_a1 b_a2 b_a3 b_a4 b_y5 b_y6 (iv_wk b73 (by decide)) v71 (by have q := hm174; omega)
            · have f74 : x60.toInt ≠ 0 := by
                have q : _ := c65
                simp only [ti_nle, ti_nlt, ti_le, ti_lt, ti_eq, ti_ne, Classical.not_not, kt_0] at q
                omega
              have b75 : IV x60 1 1 := ⟨by have q1 := b61; have q2 := kc_0; omega, by have q1 := b61; have q2 := kc_0; omega⟩
              refine m_aload_n C dX12_marks_205 rfl rfl ?_
              refine g_22_2 C q4_118 dX12_marks_206 ?_
              refine m_bipush (v := 40) C dX12_marks_209 (by decide) ?_
              refine m_iload_n C dX12_marks_211 rfl rfl ?_
              refine m_imul C dX12_marks_212 ?_
              refine m_topi (fun x76 ex76 => ?_)
              have tx76 : x76.toInt = 40 * a1.toInt := by rw [ex76, ti_mulv kc_40 b_a1 (by decide), kt_40]
              have b77 : IV x76 0 280 := by rw [ex76]; exact iv_mul kc_40 b_a1 (by decide)
              refine m_iload C dX12_marks_213 rfl ?_
              refine m_iadd C dX12_marks_215 ?_
              refine m_topi (fun x78 ex78 => ?_)
              have tx78 : x78.toInt = x76.toInt + y7.toInt := by rw [ex78, ti_addv b77 b53 (by decide)]
              have b79 : IV x78 0 286 := by rw [ex78]; exact iv_add b77 b53 (by decide)
              refine al_25 C b79 (by decide) rfl dX12_marks_216 ?_
              refine m_topi (fun x80 ex80 => ?_)
              refine m_goto (tgt := 221) C dX12_marks_217 (by decide) ?_
              refine as_23 C b56 (by decide) rfl dX12_marks_221 ?_
              refine m_tops (fun τ81 eτ81 => ?_)
              have i82 : Inv τ81 := eτ81 ▸ Inv.putW i58 (by omega)
              have f83 : Fr MS_X12_marksS AS_X12_marksS σ τ81 := eτ81 ▸ Fr.put (g62) (Or.inr (by decide))
              have v84 : SFm σ τ81 := v64.put eτ81 (by omega)
              obtain ⟨x85, ex85⟩ : ∃ y : Int32, y = y7 + 1 := ⟨_, rfl⟩
              have tx85 : x85.toInt = y7.toInt + 1 := by rw [ex85, ti_addv b53 kc_1 (by decide), kt_1]
              have b86 : IV x85 1 7 := by rw [ex85]; exact iv_add b53 kc_1 (by decide)
              refine m_iinc (v := x85) (L1 := [some (.ref (G.1 22 0)), some (.int a1), some (.int a2), some (.int a3), some (.int a4), some (.int y5), some (.int y6), some (.int x85)]) C dX12_marks_222 rfl (by rw [ex85]; rfl) (by decide) rfl rfl ?_
              refine m_goto (tgt := 174) C dX12_marks_225 (by decide) ?_
              exact ih174 τ81 x85 i82 f83 b_a1 b_a2 b_a3 b_a4 b_y5 b_y6 (iv_wk b86 (by decide)) v84 (by have q := hm174; omega)
      refine m_iload C dX12_marks_158 rfl ?_
      refine m_iconst (v := 1) C dX12_marks_160 (by decide) ?_
      refine m_aload_n C dX12_marks_161 rfl rfl ?_
      refine g_22_0 C q4_116 dX12_marks_162 ?_
      refine m_iconst (v := 2) C dX12_marks_165 (by decide) ?_
      refine al_23 C kc_2 (by decide) kn_2 dX12_marks_166 ?_
      refine m_topi (fun x87 ex87 => ?_)
      have b88 : IV x87 0 7 := by rw [ex87]; exact iτ.1 23 0 2
      refine m_ishl C dX12_marks_167 ?_
      refine m_topi (fun x89 ex89 => ?_)
      have b90 : IV x89 1 128 := by rw [ex89]; exact iv_shl1 b88 (by decide)
      refine m_icmp_ge (tgt := 275) C dX12_marks_168 (by decide) (fun c91 => ?_) (fun c91 => ?_)
      · have f92 : x89.toInt ≤ y6.toInt := by
          have q : _ := c91
          simp only [ti_nle, ti_nlt, ti_le, ti_lt, ti_eq, ti_ne, Classical.not_not] at q
          omega
        have b93 : IV y6 1 128 := ⟨by have q1 := b90; have q2 := b_y6; omega, by have q1 := b90; have q2 := b_y6; omega⟩
        refine m_aload_n C dX12_marks_275 rfl rfl ?_
        refine m_iload C dX12_marks_276 rfl ?_
        refine m_if_ge (tgt := 286) C dX12_marks_278 (by decide) (fun c94 => ?_) (fun c94 => ?_)
        · have f95 : 0 ≤ a4.toInt := by
            have q : _ := c94
            simp only [ti_nle, ti_nlt, ti_le, ti_lt, ti_eq, ti_ne, Classical.not_not, kt_0] at q
            omega
          have b96 : IV a4 0 2147483647 := ⟨by have q1 := kc_0; have q2 := b_a4; omega, by have q1 := kc_0; have q2 := b_a4; omega⟩
          refine m_ldc (v := (-1000000)) C dX12_marks_286 q5_70 ?_
          refine m_callV (n := 1) (ci := 11) (st := []) C (c_X12_fine l G τ ((-1000000)) iτ ) (by decide) (by decide) rfl rfl rfl q4_201 q4_198 q4_200 q0_27 q1_7 (by decide +kernel) rfl (by decide) (by decide) rfl (Nat.le_of_ble_eq_true rfl) dX12_marks_288 ?_
          rintro _ τ97 ⟨x100, rfl, i98, f99, b101, h103⟩
          have g102 : Fr MS_X12_marksS AS_X12_marksS σ τ97 := Fr.call (fτ) f99 (by decide)
          have v104 : SFm σ τ97 := v_SM.fr f99 (by simp) (by decide)
          have q105 := kt_m1000000
          show MW p l e _ s m args below meth c _ 8 G 0 0 291 [some (.ref (G.1 22 0)), some (.int a1), some (.int a2), some (.int a3), some (.int a4), some (.int y5), some (.int y6), none] [.int x100] τ97
          exact m_iret C hr hlk (by decide) (by decide) dX12_marks_291 ⟨_, rfl, i98, g102, b101, v104⟩
        · have f106 : a4.toInt < 0 := by
            have q : _ := c94
            simp only [ti_nle, ti_nlt, ti_le, ti_lt, ti_eq, ti_ne, Classical.not_not, kt_0] at q
            omega
          have b107 : IV a4 (-1) (-1) := ⟨by have q1 := b_a4; have q2 := kc_0; omega, by have q1 := b_a4; have q2 := kc_0; omega⟩
          refine m_iload C dX12_marks_281 rfl ?_
          refine m_goto (tgt := 288) C dX12_marks_283 (by decide) ?_
          refine m_callV (n := 1) (ci := 11) (st := []) C (c_X12_fine l G τ (y5) iτ ) (by decide) (by decide) rfl rfl rfl q4_201 q4_198 q4_200 q0_27 q1_7 (by decide +kernel) rfl (by decide) (by decide) rfl (Nat.le_of_ble_eq_true rfl) dX12_marks_288 ?_
          rintro _ τ108 ⟨x111, rfl, i109, f110, b112, h114⟩
          have g113 : Fr MS_X12_marksS AS_X12_marksS σ τ108 := Fr.call (fτ) f110 (by decide)
          have v115 : SFm σ τ108 := v_SM.fr f110 (by simp) (by decide)
          show MW p l e _ s m args below meth c _ 8 G 0 0 291 [some (.ref (G.1 22 0)), some (.int a1), some (.int a2), some (.int a3), some (.int a4), some (.int y5), some (.int y6), none] [.int x111] τ108
          exact m_iret C hr hlk (by decide) (by decide) dX12_marks_291 ⟨_, rfl, i109, g113, b112, v115⟩
      · have f116 : y6.toInt < x89.toInt := by
          have q : _ := c91
          simp only [ti_nle, ti_nlt, ti_le, ti_lt, ti_eq, ti_ne, Classical.not_not] at q
          omega
        have b117 : IV y6 0 127 := ⟨by have q1 := b_y6; have q2 := b90; omega, by have q1 := b_y6; have q2 := b90; omega⟩
        refine m_iconst (v := 0) C dX12_marks_171 (by decide) ?_
        refine m_istore (L1 := [some (.ref (G.1 22 0)), some (.int a1), some (.int a2), some (.int a3), some (.int a4), some (.int y5), some (.int y6), some (.int 0)]) C dX12_marks_172 (by decide) rfl rfl ?_
        exact J174 ((7 - (0 : Int32).toInt).toNat + 1) τ 0 iτ fτ b_a1 b_a2 b_a3 b_a4 b_y5 b117 (iv_wk kc_0 (by decide)) v_SM (Nat.lt_succ_self _)
  have J93 : ∀ (n : Nat) (τ : Sg) (y5 : Int32), Inv τ → Fr MS_X12_marksS AS_X12_marksS σ τ → IV a1 0 7 → IV a2 (-999) 999 → IV a3 (-999) 999 → IV a4 (-1) 2147483647 → IV y5 0 7 → (SFm σ τ) → (7 - y5.toInt).toNat < n → MW p l e { frames := 2, cells := 0, slots := 0, locals := 46 } s m args below meth c (MQ below (QP G (PI fun r τ => Inv τ ∧ Fr MS_X12_marksS AS_X12_marksS σ τ ∧ IV r (-2147483648) 2147483647 ∧ SFm σ τ)) args s 0 0 (aG G)) 8 G 0 0 93 [some (.ref (G.1 22 0)), some (.int a1), some (.int a2), some (.int a3), some (.int a4), some (.int y5), none, none] [] τ := by
    intro n
    induction n with
    | zero => intro τ y5 iτ fτ b_a1 b_a2 b_a3 b_a4 b_y5 v_SM hm; exact absurd hm (Nat.not_lt_zero _)
    | succ n ih93 =>
      intro τ y5 iτ fτ b_a1 b_a2 b_a3 b_a4 b_y5 v_SM hm93
      refine m_iload C dX12_marks_93 rfl ?_
      refine m_aload_n C dX12_marks_95 rfl rfl ?_
      refine g_22_0 C q4_116 dX12_marks_96 ?_
      refine m_iconst (v := 2) C dX12_marks_99 (by decide) ?_
      refine al_23 C kc_2 (by decide) kn_2 dX12_marks_100 ?_
      refine m_topi (fun x118 ex118 => ?_)
      have b119 : IV x118 0 7 := by rw [ex118]; exact iτ.1 23 0 2
      refine m_icmp_ge (tgt := 144) C dX12_marks_101 (by decide) (fun c120 => ?_) (fun c120 => ?_)
      · have f121 : x118.toInt ≤ y5.toInt := by
          have q : _ := c120
          simp only [ti_nle, ti_nlt, ti_le, ti_lt, ti_eq, ti_ne, Classical.not_not] at q
          omega
        refine m_aload_n C dX12_marks_144 rfl rfl ?_
        refine m_iconst (v := 0) C dX12_marks_145 (by decide) ?_
        refine m_sipush (v := 200) C dX12_marks_146 (by decide) ?_
        have q122 := kt_0
        have q123 := kt_200
        refine m_callV (n := 2) (ci := 11) (st := []) C (c_X12_copyAll l G τ (0) (200) iτ (iv_wk kc_0 (by decide)) (iv_wk kc_200 (by decide)) (by omega) (by omega) (by omega) (Or.inl (by omega))) (by decide) (by decide) rfl rfl rfl q5_38 q5_35 q5_37 q0_35 q1_7 (by decide +kernel) rfl (by decide) (by decide) rfl (Nat.le_of_ble_eq_true rfl) dX12_marks_149 ?_
        rintro _ τ124 ⟨rfl, i125, f126, h130⟩
        have g129 : Fr MS_X12_marksS AS_X12_marksS σ τ124 := Fr.call (fτ) f126 (by decide)
        have v131 : SFm σ τ124 := v_SM.cp h130 (by decide)
        show MW p l e _ s m args below meth c _ 8 G 0 0 152 [some (.ref (G.1 22 0)), some (.int a1), some (.int a2), some (.int a3), some (.int a4), some (.int y5), none, none] [] τ124
        refine m_iconst (v := 0) C dX12_marks_152 (by decide) ?_
        refine m_istore (L1 := [some (.ref (G.1 22 0)), some (.int a1), some (.int a2), some (.int a3), some (.int a4), some (.int 0), none, none]) C dX12_marks_153 (by decide) rfl rfl ?_
        refine m_iconst (v := 0) C dX12_marks_155 (by decide) ?_
        refine m_istore (L1 := [some (.ref (G.1 22 0)), some (.int a1), some (.int a2), some (.int a3), some (.int a4), some (.int 0), some (.int 0), none]) C dX12_marks_156 (by decide) rfl rfl ?_
        exact J158 ((128 - (0 : Int32).toInt).toNat + 1) τ124 0 0 i125 g129 b_a1 b_a2 b_a3 b_a4 (iv_wk kc_0 (by decide)) (iv_wk kc_0 (by decide)) v131 (Nat.lt_succ_self _)
      · have f132 : y5.toInt < x118.toInt := by
          have q : _ := c120
          simp only [ti_nle, ti_nlt, ti_le, ti_lt, ti_eq, ti_ne, Classical.not_not] at q
          omega
        have b133 : IV y5 0 6 := ⟨by have q1 := b_y5; have q2 := b119; omega, by have q1 := b_y5; have q2 := b119; omega⟩
        have b134 : IV x118 1 7 := ⟨by have q1 := b_y5; have q2 := b119; omega, by have q1 := b_y5; have q2 := b119; omega⟩
        refine m_aload_n C dX12_marks_104 rfl rfl ?_
        refine g_22_2 C q4_118 dX12_marks_105 ?_
        refine m_bipush (v := 40) C dX12_marks_108 (by decide) ?_
        refine m_iload_n C dX12_marks_110 rfl rfl ?_
        refine m_imul C dX12_marks_111 ?_
        refine m_topi (fun x135 ex135 => ?_)
        have tx135 : x135.toInt = 40 * a1.toInt := by rw [ex135, ti_mulv kc_40 b_a1 (by decide), kt_40]
        have b136 : IV x135 0 280 := by rw [ex135]; exact iv_mul kc_40 b_a1 (by decide)
        refine m_iload C dX12_marks_112 rfl ?_
        refine m_iadd C dX12_marks_114 ?_
        refine m_topi (fun x137 ex137 => ?_)
        have tx137 : x137.toInt = x135.toInt + y5.toInt := by rw [ex137, ti_addv b136 b133 (by decide)]
        have b138 : IV x137 0 286 := by rw [ex137]; exact iv_add b136 b133 (by decide)
        refine al_25 C b138 (by decide) rfl dX12_marks_115 ?_
        refine m_topi (fun x139 ex139 => ?_)
        refine m_i2l C dX12_marks_116 ?_
        refine m_ldc2 (v := (-1)) C dX12_marks_117 q4_236 ?_
        refine m_aload_n C dX12_marks_120 rfl rfl ?_
        refine g_22_0 C q4_116 dX12_marks_121 ?_
        refine m_iconst (v := 0) C dX12_marks_124 (by decide) ?_
        refine al_23 C kc_0 (by decide) kn_0 dX12_marks_125 ?_
        refine m_topi (fun x140 ex140 => ?_)
        refine m_iconst (v := 1) C dX12_marks_126 (by decide) ?_
        refine m_isub C dX12_marks_127 ?_
        refine m_topi (fun x141 ex141 => ?_)
        refine m_i2l C dX12_marks_128 ?_
        refine m_callS (n := 3) (st := []) C (c_X12_in l G τ ((x139 : Int32).toInt64) ((-1)) ((x141 : Int32).toInt64) iτ ) q4_190 q4_188 q4_189 q1_7 (by decide +kernel) rfl (by decide) (by decide) rfl (Nat.le_of_ble_eq_true rfl) dX12_marks_129 ?_
        rintro _ τ142 ⟨x145, rfl, i143, f144, b146, h148⟩
        have g147 : Fr MS_X12_marksS AS_X12_marksS σ τ142 := Fr.call (fτ) f144 (by decide)
        have v149 : SFm σ τ142 := v_SM.fr f144 (by simp) (by decide)
        have f150 := tl_i x139
        have f151 := kl_m1
        have f152 := tl_i x141
        have q153 := (iv_any x141)
        rcases h148 with ⟨h148_0, h148_1, h148_2⟩ | ⟨h148_0, h148_1⟩
        · skip
          have b154 : IV x145 1 1 := ⟨by omega, by omega⟩
          show MW p l e _ s m args below meth c _ 8 G 0 0 132 [some (.ref (G.1 22 0)), some (.int a1), some (.int a2), some (.int a3), some (.int a4), some (.int y5), none, none] [.int x145] τ142
          refine m_if_ne (tgt := 138) C dX12_marks_132 (by decide) (fun c155 => ?_) (fun c155 => ?_)
          · have f156 : x145.toInt ≠ 0 := by
              have q : _ := c155
              simp only [ti_nle, ti_nlt, ti_le, ti_lt, ti_eq, ti_ne, Classical.not_not, kt_0] at q
              omega
            have b157 : IV x139 (-1) 2147483647 := ⟨by have q1 := (iv_any x139); omega, by have q1 := (iv_any x139); omega⟩
            obtain ⟨x158, ex158⟩ : ∃ y : Int32, y = y5 + 1 := ⟨_, rfl⟩
            have tx158 : x158.toInt = y5.toInt + 1 := by rw [ex158, ti_addv b133 kc_1 (by decide), kt_1]
            have b159 : IV x158 1 7 := by rw [ex158]; exact iv_add b133 kc_1 (by decide)
            refine m_iinc (v := x158) (L1 := [some (.ref (G.1 22 0)), some (.int a1), some (.int a2), some (.int a3), some (.int a4), some (.int x158), none, none]) C dX12_marks_138 rfl (by rw [ex158]; rfl) (by decide) rfl rfl ?_
            refine m_goto (tgt := 93) C dX12_marks_141 (by decide) ?_
            exact ih93 τ142 x158 i143 g147 b_a1 b_a2 b_a3 b_a4 (iv_wk b159 (by decide)) v149 (by have q := hm93; omega)
          · exfalso
            have q : _ := c155
            simp only [ti_nle, ti_nlt, ti_le, ti_lt, ti_eq, ti_ne, Classical.not_not, kt_0] at q
            have q1 := b154; have q2 := kc_0; omega
        · skip
          have b161 : IV x145 0 0 := ⟨by omega, by omega⟩
          show MW p l e _ s m args below meth c _ 8 G 0 0 132 [some (.ref (G.1 22 0)), some (.int a1), some (.int a2), some (.int a3), some (.int a4), some (.int y5), none, none] [.int x145] τ142
          refine m_if_ne (tgt := 138) C dX12_marks_132 (by decide) (fun c162 => ?_) (fun c162 => ?_)
          · exfalso
            have q : _ := c162
            simp only [ti_nle, ti_nlt, ti_le, ti_lt, ti_eq, ti_ne, Classical.not_not, kt_0] at q
            have q1 := b161; have q2 := kc_0; omega
          · have f164 : x145.toInt = 0 := by
              have q : _ := c162
              simp only [ti_nle, ti_nlt, ti_le, ti_lt, ti_eq, ti_ne, Classical.not_not, kt_0] at q
              omega
            refine m_ldc (v := (-1000001)) C dX12_marks_135 q4_192 ?_
            exact m_iret C hr hlk (by decide) (by decide) dX12_marks_137 ⟨_, rfl, i143, g147, (iv_wk kc_m1000001 (by decide)), v149⟩
  refine m_aload_n C dX12_marks_0 rfl rfl ?_
  refine m_callV (n := 0) (ci := 11) (st := []) C (c_X12_isTower l G σ  hI ) (by decide) (by decide) rfl rfl rfl q5_67 q5_64 q5_66 q0_38 q1_7 (by decide +kernel) rfl (by decide) (by decide) rfl (Nat.le_of_ble_eq_true rfl) dX12_marks_1 ?_
  rintro _ τ165 ⟨x168, rfl, i166, f167, b169⟩
  have g170 : Fr MS_X12_marksS AS_X12_marksS σ τ165 := Fr.call (Fr.rf) f167 (by decide)
  have v172 : SFm σ τ165 := SFm.rf.fr f167 (by simp) (by decide)
  show MW p l e _ s m args below meth c _ 8 G 0 0 4 [some (.ref (G.1 22 0)), some (.int a1), some (.int a2), some (.int a3), some (.int a4), none, none, none] [.int x168] τ165
  refine m_if_ne (tgt := 10) C dX12_marks_4 (by decide) (fun c173 => ?_) (fun c173 => ?_)
  · have f174 : x168.toInt ≠ 0 := by
      have q : _ := c173
      simp only [ti_nle, ti_nlt, ti_le, ti_lt, ti_eq, ti_ne, Classical.not_not, kt_0] at q
      omega
    have b175 : IV x168 1 1 := ⟨by have q1 := b169; have q2 := kc_0; omega, by have q1 := b169; have q2 := kc_0; omega⟩
    refine m_iload_n C dX12_marks_10 rfl rfl ?_
    refine m_callS (n := 1) (st := []) C (c_X12_isRow l G τ165 (a1) i166 ) q4_186 q4_184 q4_185 q1_7 (by decide +kernel) rfl (by decide) (by decide) rfl (Nat.le_of_ble_eq_true rfl) dX12_marks_11 ?_
    rintro _ τ176 ⟨x179, rfl, i177, f178, b180, h182⟩
    have g181 : Fr MS_X12_marksS AS_X12_marksS σ τ176 := Fr.call (g170) f178 (by decide)
    have v183 : SFm σ τ176 := v172.fr f178 (by simp) (by decide)
    rcases h182 with ⟨h182_0, h182_1, h182_2⟩ | ⟨h182_0, h182_1⟩
    · skip
      have b184 : IV x179 1 1 := ⟨by omega, by omega⟩
      show MW p l e _ s m args below meth c _ 8 G 0 0 14 [some (.ref (G.1 22 0)), some (.int a1), some (.int a2), some (.int a3), some (.int a4), none, none, none] [.int x179] τ176
      refine m_if_eq (tgt := 51) C dX12_marks_14 (by decide) (fun c185 => ?_) (fun c185 => ?_)
      · exfalso
        have q : _ := c185
        simp only [ti_nle, ti_nlt, ti_le, ti_lt, ti_eq, ti_ne, Classical.not_not, kt_0] at q
        have q1 := b184; have q2 := kc_0; omega
      · have f187 : x179.toInt ≠ 0 := by
          have q : _ := c185
          simp only [ti_nle, ti_nlt, ti_le, ti_lt, ti_eq, ti_ne, Classical.not_not, kt_0] at q
          omega
        have b188 : IV a1 0 7 := ⟨by have q1 := (iv_any a1); omega, by have q1 := (iv_any a1); omega⟩
        refine m_iload_n C dX12_marks_17 rfl rfl ?_
        refine m_i2l C dX12_marks_18 ?_
        refine m_ldc2 (v := (-999)) C dX12_marks_19 q5_155 ?_
        refine m_ldc2 (v := 999) C dX12_marks_22 q5_156 ?_
        refine m_callS (n := 3) (st := []) C (c_X12_in l G τ176 ((a2 : Int32).toInt64) ((-999)) (999) i177 ) q4_190 q4_188 q4_189 q1_7 (by decide +kernel) rfl (by decide) (by decide) rfl (Nat.le_of_ble_eq_true rfl) dX12_marks_25 ?_
        rintro _ τ189 ⟨x192, rfl, i190, f191, b193, h195⟩
        have g194 : Fr MS_X12_marksS AS_X12_marksS σ τ189 := Fr.call (g181) f191 (by decide)
        have v196 : SFm σ τ189 := v183.fr f191 (by simp) (by decide)
        have f197 := tl_i a2
        have f198 := kl_m999
        have f199 := kl_999
        rcases h195 with ⟨h195_0, h195_1, h195_2⟩ | ⟨h195_0, h195_1⟩
        · skip
          have b200 : IV x192 1 1 := ⟨by omega, by omega⟩
          show MW p l e _ s m args below meth c _ 8 G 0 0 28 [some (.ref (G.1 22 0)), some (.int a1), some (.int a2), some (.int a3), some (.int a4), none, none, none] [.int x192] τ189
          refine m_if_eq (tgt := 51) C dX12_marks_28 (by decide) (fun c201 => ?_) (fun c201 => ?_)
          · exfalso
            have q : _ := c201
            simp only [ti_nle, ti_nlt, ti_le, ti_lt, ti_eq, ti_ne, Classical.not_not, kt_0] at q
            have q1 := b200; have q2 := kc_0; omega
          · have f203 : x192.toInt ≠ 0 := by
              have q : _ := c201
              simp only [ti_nle, ti_nlt, ti_le, ti_lt, ti_eq, ti_ne, Classical.not_not, kt_0] at q
              omega
            have b204 : IV a2 (-999) 999 := ⟨by have q1 := (iv_any a2); omega, by have q1 := (iv_any a2); omega⟩
            refine m_iload_n C dX12_marks_31 rfl rfl ?_
            refine m_i2l C dX12_marks_32 ?_
            refine m_ldc2 (v := (-999)) C dX12_marks_33 q5_155 ?_
            refine m_ldc2 (v := 999) C dX12_marks_36 q5_156 ?_
            refine m_callS (n := 3) (st := []) C (c_X12_in l G τ189 ((a3 : Int32).toInt64) ((-999)) (999) i190 ) q4_190 q4_188 q4_189 q1_7 (by decide +kernel) rfl (by decide) (by decide) rfl (Nat.le_of_ble_eq_true rfl) dX12_marks_39 ?_
            rintro _ τ205 ⟨x208, rfl, i206, f207, b209, h211⟩
            have g210 : Fr MS_X12_marksS AS_X12_marksS σ τ205 := Fr.call (g194) f207 (by decide)
            have v212 : SFm σ τ205 := v196.fr f207 (by simp) (by decide)
            have f213 := tl_i a3
            have f214 := kl_m999
            have f215 := kl_999
            rcases h211 with ⟨h211_0, h211_1, h211_2⟩ | ⟨h211_0, h211_1⟩
            · skip
              have b216 : IV x208 1 1 := ⟨by omega, by omega⟩
              show MW p l e _ s m args below meth c _ 8 G 0 0 42 [some (.ref (G.1 22 0)), some (.int a1), some (.int a2), some (.int a3), some (.int a4), none, none, none] [.int x208] τ205
              refine m_if_eq (tgt := 51) C dX12_marks_42 (by decide) (fun c217 => ?_) (fun c217 => ?_)
              · exfalso
                have q : _ := c217
                simp only [ti_nle, ti_nlt, ti_le, ti_lt, ti_eq, ti_ne, Classical.not_not, kt_0] at q
                have q1 := b216; have q2 := kc_0; omega
              · have f219 : x208.toInt ≠ 0 := by
                  have q : _ := c217
                  simp only [ti_nle, ti_nlt, ti_le, ti_lt, ti_eq, ti_ne, Classical.not_not, kt_0] at q
                  omega
                have b220 : IV a3 (-999) 999 := ⟨by have q1 := (iv_any a3); omega, by have q1 := (iv_any a3); omega⟩
                refine m_iload C dX12_marks_45 rfl ?_
                refine m_iconst (v := (-1)) C dX12_marks_47 (by decide) ?_
                refine m_icmp_ge (tgt := 54) C dX12_marks_48 (by decide) (fun c221 => ?_) (fun c221 => ?_)
                · have f222 : -1 ≤ a4.toInt := by
                    have q : _ := c221
                    simp only [ti_nle, ti_nlt, ti_le, ti_lt, ti_eq, ti_ne, Classical.not_not, kt_m1] at q
                    omega
                  have b223 : IV a4 (-1) 2147483647 := ⟨by have q1 := kc_m1; have q2 := (iv_any a4); omega, by have q1 := kc_m1; have q2 := (iv_any a4); omega⟩
                  refine m_aload_n C dX12_marks_54 rfl rfl ?_
                  refine g_22_3 C q4_119 dX12_marks_55 ?_
                  refine m_iload_n C dX12_marks_58 rfl rfl ?_
                  refine al_26 C b188 (by decide) rfl dX12_marks_59 ?_
                  refine m_topi (fun x224 ex224 => ?_)
                  refine m_if_ge (tgt := 69) C dX12_marks_60 (by decide) (fun c225 => ?_) (fun c225 => ?_)
                  · have f226 : 0 ≤ x224.toInt := by
                      have q : _ := c225
                      simp only [ti_nle, ti_nlt, ti_le, ti_lt, ti_eq, ti_ne, Classical.not_not, kt_0] at q
                      omega
                    have b227 : IV x224 0 2147483647 := ⟨by have q1 := kc_0; have q2 := (iv_any x224); omega, by have q1 := kc_0; have q2 := (iv_any x224); omega⟩
                    refine m_aload_n C dX12_marks_69 rfl rfl ?_
                    refine g_22_4 C q4_120 dX12_marks_70 ?_
                    refine m_iload_n C dX12_marks_73 rfl rfl ?_
                    refine al_27 C b188 (by decide) rfl dX12_marks_74 ?_
                    refine m_topi (fun x228 ex228 => ?_)
                    have b229 : IV x228 0 40 := by rw [ex228]; exact i206.1 27 0 _
                    refine m_aload_n C dX12_marks_75 rfl rfl ?_
                    refine g_22_0 C q4_116 dX12_marks_76 ?_
                    refine m_iconst (v := 2) C dX12_marks_79 (by decide) ?_
                    refine al_23 C kc_2 (by decide) kn_2 dX12_marks_80 ?_
                    refine m_topi (fun x230 ex230 => ?_)
                    have b231 : IV x230 0 7 := by rw [ex230]; exact i206.1 23 0 2
                    refine m_icmp_ge (tgt := 90) C dX12_marks_81 (by decide) (fun c232 => ?_) (fun c232 => ?_)
                    · have f233 : x230.toInt ≤ x228.toInt := by
                        have q : _ := c232
                        simp only [ti_nle, ti_nlt, ti_le, ti_lt, ti_eq, ti_ne, Classical.not_not] at q
                        omega
                      refine m_iconst (v := 0) C dX12_marks_90 (by decide) ?_
                      refine m_istore (L1 := [some (.ref (G.1 22 0)), some (.int a1), some (.int a2), some (.int a3), some (.int a4), some (.int 0), none, none]) C dX12_marks_91 (by decide) rfl rfl ?_
                      exact J93 ((7 - (0 : Int32).toInt).toNat + 1) τ205 0 i206 g210 b188 b204 b220 b223 (iv_wk kc_0 (by decide)) v212 (Nat.lt_succ_self _)
                    · have f234 : x228.toInt < x230.toInt := by
                        have q : _ := c232
                        simp only [ti_nle, ti_nlt, ti_le, ti_lt, ti_eq, ti_ne, Classical.not_not] at q
                        omega
                      have b235 : IV x228 0 6 := ⟨by have q1 := b229; have q2 := b231; omega, by have q1 := b229; have q2 := b231; omega⟩
                      have b236 : IV x230 1 7 := ⟨by have q1 := b229; have q2 := b231; omega, by have q1 := b229; have q2 := b231; omega⟩
                      refine m_aload_n C dX12_marks_84 rfl rfl ?_
                      refine m_iconst (v := 2) C dX12_marks_85 (by decide) ?_
                      refine m_callV (n := 1) (ci := 11) (st := []) C (c_X12_met l G τ205 (2) i206 (iv_wk kc_2 (by decide))) (by decide) (by decide) rfl rfl rfl q4_196 q4_193 q4_195 q0_26 q1_7 (by decide +kernel) rfl (by decide) (by decide) rfl (Nat.le_of_ble_eq_true rfl) dX12_marks_86 ?_
                      rintro _ τ237 ⟨x240, rfl, i238, f239, b241, h243⟩
                      have g242 : Fr MS_X12_marksS AS_X12_marksS σ τ237 := Fr.call (g210) f239 (by decide)
                      have v244 : SFm σ τ237 := v212.fr f239 (by simp) (by decide)
                      have q245 := kt_2
                      show MW p l e _ s m args below meth c _ 8 G 0 0 89 [some (.ref (G.1 22 0)), some (.int a1), some (.int a2), some (.int a3), some (.int a4), none, none, none] [.int x240] τ237
                      exact m_iret C hr hlk (by decide) (by decide) dX12_marks_89 ⟨_, rfl, i238, g242, (iv_wk b241 (by decide)), v244⟩
                  · have f246 : x224.toInt < 0 := by
                      have q : _ := c225
                      simp only [ti_nle, ti_nlt, ti_le, ti_lt, ti_eq, ti_ne, Classical.not_not, kt_0] at q
                      omega
                    have b247 : IV x224 (-2147483648) (-1) := ⟨by have q1 := (iv_any x224); have q2 := kc_0; omega, by have q1 := (iv_any x224); have q2 := kc_0; omega⟩
                    refine m_aload_n C dX12_marks_63 rfl rfl ?_
                    refine m_iconst (v := 1) C dX12_marks_64 (by decide) ?_
                    refine m_callV (n := 1) (ci := 11) (st := []) C (c_X12_met l G τ205 (1) i206 (iv_wk kc_1 (by decide))) (by decide) (by decide) rfl rfl rfl q4_196 q4_193 q4_195 q0_26 q1_7 (by decide +kernel) rfl (by decide) (by decide) rfl (Nat.le_of_ble_eq_true rfl) dX12_marks_65 ?_
                    rintro _ τ248 ⟨x251, rfl, i249, f250, b252, h254⟩
                    have g253 : Fr MS_X12_marksS AS_X12_marksS σ τ248 := Fr.call (g210) f250 (by decide)
                    have v255 : SFm σ τ248 := v212.fr f250 (by simp) (by decide)
                    have q256 := kt_1
                    show MW p l e _ s m args below meth c _ 8 G 0 0 68 [some (.ref (G.1 22 0)), some (.int a1), some (.int a2), some (.int a3), some (.int a4), none, none, none] [.int x251] τ248
                    exact m_iret C hr hlk (by decide) (by decide) dX12_marks_68 ⟨_, rfl, i249, g253, (iv_wk b252 (by decide)), v255⟩
                · have f257 : a4.toInt < -1 := by
                    have q : _ := c221
                    simp only [ti_nle, ti_nlt, ti_le, ti_lt, ti_eq, ti_ne, Classical.not_not, kt_m1] at q
                    omega
                  have b258 : IV a4 (-2147483648) (-2) := ⟨by have q1 := (iv_any a4); have q2 := kc_m1; omega, by have q1 := (iv_any a4); have q2 := kc_m1; omega⟩
                  refine m_ldc (v := (-1000001)) C dX12_marks_51 q4_192 ?_
                  exact m_iret C hr hlk (by decide) (by decide) dX12_marks_53 ⟨_, rfl, i206, g210, (iv_wk kc_m1000001 (by decide)), v212⟩
            · skip
              have b259 : IV x208 0 0 := ⟨by omega, by omega⟩
              show MW p l e _ s m args below meth c _ 8 G 0 0 42 [some (.ref (G.1 22 0)), some (.int a1), some (.int a2), some (.int a3), some (.int a4), none, none, none] [.int x208] τ205
              refine m_if_eq (tgt := 51) C dX12_marks_42 (by decide) (fun c260 => ?_) (fun c260 => ?_)
              · have f261 : x208.toInt = 0 := by
                  have q : _ := c260
                  simp only [ti_nle, ti_nlt, ti_le, ti_lt, ti_eq, ti_ne, Classical.not_not, kt_0] at q
                  omega
                refine m_ldc (v := (-1000001)) C dX12_marks_51 q4_192 ?_
                exact m_iret C hr hlk (by decide) (by decide) dX12_marks_53 ⟨_, rfl, i206, g210, (iv_wk kc_m1000001 (by decide)), v212⟩
              · exfalso
                have q : _ := c260
                simp only [ti_nle, ti_nlt, ti_le, ti_lt, ti_eq, ti_ne, Classical.not_not, kt_0] at q
                have q1 := b259; have q2 := kc_0; omega
        · skip
          have b263 : IV x192 0 0 := ⟨by omega, by omega⟩
          show MW p l e _ s m args below meth c _ 8 G 0 0 28 [some (.ref (G.1 22 0)), some (.int a1), some (.int a2), some (.int a3), some (.int a4), none, none, none] [.int x192] τ189
          refine m_if_eq (tgt := 51) C dX12_marks_28 (by decide) (fun c264 => ?_) (fun c264 => ?_)
          · have f265 : x192.toInt = 0 := by
              have q : _ := c264
              simp only [ti_nle, ti_nlt, ti_le, ti_lt, ti_eq, ti_ne, Classical.not_not, kt_0] at q
              omega
            refine m_ldc (v := (-1000001)) C dX12_marks_51 q4_192 ?_
            exact m_iret C hr hlk (by decide) (by decide) dX12_marks_53 ⟨_, rfl, i190, g194, (iv_wk kc_m1000001 (by decide)), v196⟩
          · exfalso
            have q : _ := c264
            simp only [ti_nle, ti_nlt, ti_le, ti_lt, ti_eq, ti_ne, Classical.not_not, kt_0] at q
            have q1 := b263; have q2 := kc_0; omega
    · skip
      have b267 : IV x179 0 0 := ⟨by omega, by omega⟩
      show MW p l e _ s m args below meth c _ 8 G 0 0 14 [some (.ref (G.1 22 0)), some (.int a1), some (.int a2), some (.int a3), some (.int a4), none, none, none] [.int x179] τ176
      refine m_if_eq (tgt := 51) C dX12_marks_14 (by decide) (fun c268 => ?_) (fun c268 => ?_)
      · have f269 : x179.toInt = 0 := by
          have q : _ := c268
          simp only [ti_nle, ti_nlt, ti_le, ti_lt, ti_eq, ti_ne, Classical.not_not, kt_0] at q
          omega
        refine m_ldc (v := (-1000001)) C dX12_marks_51 q4_192 ?_
        exact m_iret C hr hlk (by decide) (by decide) dX12_marks_53 ⟨_, rfl, i177, g181, (iv_wk kc_m1000001 (by decide)), v183⟩
      · exfalso
        have q : _ := c268
        simp only [ti_nle, ti_nlt, ti_le, ti_lt, ti_eq, ti_ne, Classical.not_not, kt_0] at q
        have q1 := b267; have q2 := kc_0; omega
  · have f271 : x168.toInt = 0 := by
      have q : _ := c173
      simp only [ti_nle, ti_nlt, ti_le, ti_lt, ti_eq, ti_ne, Classical.not_not, kt_0] at q
      omega
    have b272 : IV x168 0 0 := ⟨by have q1 := b169; have q2 := kc_0; omega, by have q1 := b169; have q2 := kc_0; omega⟩
    refine m_ldc (v := (-1000002)) C dX12_marks_7 q5_68 ?_
    exact m_iret C hr hlk (by decide) (by decide) dX12_marks_9 ⟨_, rfl, i166, g170, (iv_wk kc_m1000002 (by decide)), v172⟩

abbrev MS_X12_fallS : List (Nat × Nat) := []
abbrev AS_X12_fallS : List Nat := [23]
set_option maxHeartbeats 4000000 in
set_option maxRecDepth 100000 in
theorem c_X12_fallS (l : Launch) (G : Gt) (σ : Sg) (hI : Inv σ) : Mc l G yX12_fall cX12_fall 2 (some .int) 3 69 0 0 [.ref (G.1 22 0)] σ (PI fun r τ => Inv τ ∧ Fr MS_X12_fallS AS_X12_fallS σ τ ∧ IV r (-1000002) 99 ∧ SFm σ τ) := by
  refine Mc.of (L0 := [some (.ref (G.1 22 0)), none]) (by decide) (Nat.le_of_ble_eq_true rfl) rfl ?_
  intro p e s m args below meth c C hr hlk
  have C : Cx p s m args c cX12_fall 2 "LeanTowerModel" := C
  have k0 : (0 : Int32).toInt = 0 := by decide
  have k1 : (1 : Int32).toInt = 1 := by decide
  have J20 : ∀ (n : Nat) (τ : Sg) (y1 : Int32), Inv τ → Fr MS_X12_fallS AS_X12_fallS σ τ → IV y1 0 100 → (SFm σ τ) → (100 - y1.toInt).toNat < n → MW p l e { frames := 3, cells := 0, slots := 0, locals := 69 } s m args below meth c (MQ below (QP G (PI fun r τ => Inv τ ∧ Fr MS_X12_fallS AS_X12_fallS σ τ ∧ IV r (-1000002) 99 ∧ SFm σ τ)) args s 0 0 (aG G)) 2 G 0 0 20 [some (.ref (G.1 22 0)), some (.int y1)] [] τ := by
    intro n
    induction n with
    | zero => intro τ y1 iτ fτ b_y1 v_SM hm; exact absurd hm (Nat.not_lt_zero _)
    | succ n ih20 =>
      intro τ y1 iτ fτ b_y1 v_SM hm20
      refine m_iload_n C dX12_fall_20 rfl rfl ?_
      refine m_bipush (v := 100) C dX12_fall_21 (by decide) ?_
      refine m_icmp_ge (tgt := 57) C dX12_fall_23 (by decide) (fun c1 => ?_) (fun c1 => ?_)
      · have f2 : 100 ≤ y1.toInt := by
          have q : _ := c1
          simp only [ti_nle, ti_nlt, ti_le, ti_lt, ti_eq, ti_ne, Classical.not_not, kt_100] at q
          omega
        have b3 : IV y1 100 100 := ⟨by have q1 := kc_100; have q2 := b_y1; omega, by have q1 := kc_100; have q2 := b_y1; omega⟩
        refine m_ldc (v := (-1000000)) C dX12_fall_57 q5_70 ?_
        exact m_iret C hr hlk (by decide) (by decide) dX12_fall_59 ⟨_, rfl, iτ, fτ, (iv_wk kc_m1000000 (by decide)), v_SM⟩
      · have f4 : y1.toInt < 100 := by
          have q : _ := c1
          simp only [ti_nle, ti_nlt, ti_le, ti_lt, ti_eq, ti_ne, Classical.not_not, kt_100] at q
          omega
        have b5 : IV y1 0 99 := ⟨by have q1 := b_y1; have q2 := kc_100; omega, by have q1 := b_y1; have q2 := kc_100; omega⟩
        refine m_aload_n C dX12_fall_26 rfl rfl ?_
        refine m_sipush (v := 200) C dX12_fall_27 (by decide) ?_
        have q6 := kt_200
        refine m_callV (n := 1) (ci := 11) (st := []) C (c_X12_worstOf l G τ (200) iτ (iv_wk kc_200 (by decide)) (by omega)) (by decide) (by decide) rfl rfl rfl q5_78 q5_75 q5_77 q0_40 q1_7 (by decide +kernel) rfl (by decide) (by decide) rfl (Nat.le_of_ble_eq_true rfl) dX12_fall_30 ?_
        rintro _ τ7 ⟨x10, rfl, i8, f9, b11⟩
        have g12 : Fr MS_X12_fallS AS_X12_fallS σ τ7 := Fr.call (fτ) f9 (by decide)
        have v14 : SFm σ τ7 := v_SM.fr f9 (by simp) (by decide)
        show MW p l e _ s m args below meth c _ 2 G 0 0 33 [some (.ref (G.1 22 0)), some (.int y1)] [.int x10] τ7
        refine m_aload_n C dX12_fall_33 rfl rfl ?_
        refine g_22_0 C q4_116 dX12_fall_34 ?_
        refine m_iconst (v := 1) C dX12_fall_37 (by decide) ?_
        refine al_23 C kc_1 (by decide) kn_1 dX12_fall_38 ?_
        refine m_topi (fun x15 ex15 => ?_)
        refine m_icmp_le (tgt := 44) C dX12_fall_39 (by decide) (fun c16 => ?_) (fun c16 => ?_)
        · have f17 : x10.toInt ≤ x15.toInt := by
            have q : _ := c16
            simp only [ti_nle, ti_nlt, ti_le, ti_lt, ti_eq, ti_ne, Classical.not_not] at q
            omega
          refine m_aload_n C dX12_fall_44 rfl rfl ?_
          refine m_sipush (v := 200) C dX12_fall_45 (by decide) ?_
          have q18 := kt_200
          refine m_callV (n := 1) (ci := 11) (st := []) C (c_X12_creepS l G τ7 (200) i8 (iv_wk kc_200 (by decide)) (by omega)) (by decide) (by decide) rfl rfl rfl q5_107 q5_104 q5_106 q0_44 q1_7 (by decide +kernel) rfl (by decide) (by decide) rfl (Nat.le_of_ble_eq_true rfl) dX12_fall_48 ?_
          rintro _ τ19 ⟨rfl, i20, f21, h25⟩
          have g24 : Fr MS_X12_fallS AS_X12_fallS σ τ19 := Fr.call (g12) f21 (by decide)
          have v26 : SFm σ τ19 := v14.trans h25
          show MW p l e _ s m args below meth c _ 2 G 0 0 51 [some (.ref (G.1 22 0)), some (.int y1)] [] τ19
          obtain ⟨x27, ex27⟩ : ∃ y : Int32, y = y1 + 1 := ⟨_, rfl⟩
          have tx27 : x27.toInt = y1.toInt + 1 := by rw [ex27, ti_addv b5 kc_1 (by decide), kt_1]
          have b28 : IV x27 1 100 := by rw [ex27]; exact iv_add b5 kc_1 (by decide)
          refine m_iinc (v := x27) (L1 := [some (.ref (G.1 22 0)), some (.int x27)]) C dX12_fall_51 rfl (by rw [ex27]; rfl) (by decide) rfl rfl ?_
          refine m_goto (tgt := 20) C dX12_fall_54 (by decide) ?_
          exact ih20 τ19 x27 i20 g24 (iv_wk b28 (by decide)) v26 (by have q := hm20; omega)
        · have f29 : x15.toInt < x10.toInt := by
            have q : _ := c16
            simp only [ti_nle, ti_nlt, ti_le, ti_lt, ti_eq, ti_ne, Classical.not_not] at q
            omega
          have b30 : IV x15 (-2147483648) 2147483646 := ⟨by have q1 := (iv_any x15); have q2 := b11; omega, by have q1 := (iv_any x15); have q2 := b11; omega⟩
          have b31 : IV x10 (-2147483647) 2147483647 := ⟨by have q1 := (iv_any x15); have q2 := b11; omega, by have q1 := (iv_any x15); have q2 := b11; omega⟩
          refine m_iload_n C dX12_fall_42 rfl rfl ?_
          exact m_iret C hr hlk (by decide) (by decide) dX12_fall_43 ⟨_, rfl, i8, g12, (iv_wk b5 (by decide)), v14⟩
  refine m_aload_n C dX12_fall_0 rfl rfl ?_
  refine m_callV (n := 0) (ci := 11) (st := []) C (c_X12_isTower l G σ  hI ) (by decide) (by decide) rfl rfl rfl q5_67 q5_64 q5_66 q0_38 q1_7 (by decide +kernel) rfl (by decide) (by decide) rfl (Nat.le_of_ble_eq_true rfl) dX12_fall_1 ?_
  rintro _ τ32 ⟨x35, rfl, i33, f34, b36⟩
  have g37 : Fr MS_X12_fallS AS_X12_fallS σ τ32 := Fr.call (Fr.rf) f34 (by decide)
  have v39 : SFm σ τ32 := SFm.rf.fr f34 (by simp) (by decide)
  show MW p l e _ s m args below meth c _ 2 G 0 0 4 [some (.ref (G.1 22 0)), none] [.int x35] τ32
  refine m_if_ne (tgt := 10) C dX12_fall_4 (by decide) (fun c40 => ?_) (fun c40 => ?_)
  · have f41 : x35.toInt ≠ 0 := by
      have q : _ := c40
      simp only [ti_nle, ti_nlt, ti_le, ti_lt, ti_eq, ti_ne, Classical.not_not, kt_0] at q
      omega
    have b42 : IV x35 1 1 := ⟨by have q1 := b36; have q2 := kc_0; omega, by have q1 := b36; have q2 := kc_0; omega⟩
    refine m_aload_n C dX12_fall_10 rfl rfl ?_
    refine m_iconst (v := 0) C dX12_fall_11 (by decide) ?_
    refine m_sipush (v := 200) C dX12_fall_12 (by decide) ?_
    have q43 := kt_0
    have q44 := kt_200
    refine m_callV (n := 2) (ci := 11) (st := []) C (c_X12_copyAll l G τ32 (0) (200) i33 (iv_wk kc_0 (by decide)) (iv_wk kc_200 (by decide)) (by omega) (by omega) (by omega) (Or.inl (by omega))) (by decide) (by decide) rfl rfl rfl q5_38 q5_35 q5_37 q0_35 q1_7 (by decide +kernel) rfl (by decide) (by decide) rfl (Nat.le_of_ble_eq_true rfl) dX12_fall_15 ?_
    rintro _ τ45 ⟨rfl, i46, f47, h51⟩
    have g50 : Fr MS_X12_fallS AS_X12_fallS σ τ45 := Fr.call (g37) f47 (by decide)
    have v52 : SFm σ τ45 := v39.cp h51 (by decide)
    show MW p l e _ s m args below meth c _ 2 G 0 0 18 [some (.ref (G.1 22 0)), none] [] τ45
    refine m_iconst (v := 0) C dX12_fall_18 (by decide) ?_
    refine m_istore_n (L1 := [some (.ref (G.1 22 0)), some (.int 0)]) C dX12_fall_19 rfl (by decide) rfl rfl ?_
    exact J20 ((100 - (0 : Int32).toInt).toNat + 1) τ45 0 i46 g50 (iv_wk kc_0 (by decide)) v52 (Nat.lt_succ_self _)
  · have f53 : x35.toInt = 0 := by
      have q : _ := c40
      simp only [ti_nle, ti_nlt, ti_le, ti_lt, ti_eq, ti_ne, Classical.not_not, kt_0] at q
      omega
    have b54 : IV x35 0 0 := ⟨by have q1 := b36; have q2 := kc_0; omega, by have q1 := b36; have q2 := kc_0; omega⟩
    refine m_ldc (v := (-1000002)) C dX12_fall_7 q5_68 ?_
    exact m_iret C hr hlk (by decide) (by decide) dX12_fall_9 ⟨_, rfl, i33, g37, (iv_wk kc_m1000002 (by decide)), v39⟩
