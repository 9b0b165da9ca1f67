abbrev MS_X8_takeFromS : List (Nat × Nat) := [(1, 0), (1, 1), (1, 2), (1, 3), (1, 9), (1, 10), (1, 11)]
abbrev AS_X8_takeFromS : List Nat := [2, 3, 4, 5, 6]
set_option maxHeartbeats 4000000 in
set_option maxRecDepth 100000 in
theorem c_X8_takeFromS (l : Launch) (G : Gt) (σ : Sg) {j : Nat} (hj : j < 28) {j2 : Nat} (hj2 : j2 < 28) (hI : Inv σ) (hne : j2 ≠ j) : Mc l G yX8_takeFrom cX8_takeFrom 3 none 0 0 0 0 [.ref (G.1 1 j), .ref (G.1 1 j2)] σ (PV fun τ => Inv τ ∧ Fr MS_X8_takeFromS AS_X8_takeFromS σ τ ∧ TFa j j2 σ τ) := by
  refine Mc.of (L0 := [some (.ref (G.1 1 j)), some (.ref (G.1 1 j2)), none]) (by decide) (Nat.le_of_ble_eq_true rfl) rfl ?_
  intro p e s m args below meth c C hr hlk
  have C : Cx p s m args c cX8_takeFrom 3 "LeanTower$Tower" := C
  have k0 : (0 : Int32).toInt = 0 := by decide
  have k1 : (1 : Int32).toInt = 1 := by decide
  have J108 : ∀ (n : Nat) (τ : Sg) (y2 : Int32), Inv τ → Fr MS_X8_takeFromS AS_X8_takeFromS σ τ → IV y2 0 4 → ((gV τ 1 j 0).toInt = (gV σ 1 j2 0).toInt) → ((gV τ 1 j 2).toInt = (gV σ 1 j2 2).toInt) → (TF j j2 7 σ τ) → (4 - y2.toInt).toNat < n → MW p l e { frames := 0, cells := 0, slots := 0, locals := 0 } s m args below meth c (MQ below (QP G (PV fun τ => Inv τ ∧ Fr MS_X8_takeFromS AS_X8_takeFromS σ τ ∧ TFa j j2 σ τ)) args s 0 0 (aG G)) 3 G 0 0 108 [some (.ref (G.1 1 j)), some (.ref (G.1 1 j2)), some (.int y2)] [] τ := by
    intro n
    induction n with
    | zero => intro τ y2 iτ fτ b_y2 n1 n2 nT8 hm; exact absurd hm (Nat.not_lt_zero _)
    | succ n ih108 =>
      intro τ y2 iτ fτ b_y2 n1 n2 nT8 hm108
      have u3 : IV (gV τ 1 j 2) 0 7 := iτ.1 1 j 2
      have u4 : IV (gV τ 1 j2 2) 0 7 := iτ.1 1 j2 2
      refine m_iload_n C dX8_takeFrom_108 rfl rfl ?_
      refine m_iconst (v := 4) C dX8_takeFrom_109 (by decide) ?_
      refine m_icmp_ge (tgt := 143) C dX8_takeFrom_110 (by decide) (fun c5 => ?_) (fun c5 => ?_)
      · have f6 : 4 ≤ y2.toInt := by
          have q : _ := c5
          simp only [ti_nle, ti_nlt, ti_le, ti_lt, ti_eq, ti_ne, Classical.not_not, kt_4] at q
          omega
        have b7 : IV y2 4 4 := ⟨by have q1 := kc_4; have q2 := b_y2; omega, by have q1 := kc_4; have q2 := b_y2; omega⟩
        exact m_vret C hr hlk (by decide) (by decide) dX8_takeFrom_143 ⟨rfl, iτ, fτ, ⟨nT8, by omega, by omega⟩⟩
      · have f8 : y2.toInt < 4 := by
          have q : _ := c5
          simp only [ti_nle, ti_nlt, ti_le, ti_lt, ti_eq, ti_ne, Classical.not_not, kt_4] at q
          omega
        have b9 : IV y2 0 3 := ⟨by have q1 := b_y2; have q2 := kc_4; omega, by have q1 := b_y2; have q2 := kc_4; omega⟩
        refine m_aload_n C dX8_takeFrom_113 rfl rfl ?_
        refine g_1_7 C hj q1_91 dX8_takeFrom_114 ?_
        refine m_iload_n C dX8_takeFrom_117 rfl rfl ?_
        refine m_aload_n C dX8_takeFrom_118 rfl rfl ?_
        refine g_1_7 C hj2 q1_91 dX8_takeFrom_119 ?_
        refine m_iload_n C dX8_takeFrom_122 rfl rfl ?_
        refine al_4 C hj2 b9 (by decide) rfl dX8_takeFrom_123 ?_
        refine m_topi (fun x10 ex10 => ?_)
        refine as_4 C hj b9 (by decide) rfl dX8_takeFrom_124 ?_
        refine m_tops (fun τ11 eτ11 => ?_)
        have i12 : Inv τ11 := eτ11 ▸ Inv.putF iτ (by decide) rfl
        have f13 : Fr MS_X8_takeFromS AS_X8_takeFromS σ τ11 := eτ11 ▸ Fr.put (fτ) (Or.inr (by decide))
        refine m_aload_n C dX8_takeFrom_125 rfl rfl ?_
        refine g_1_8 C hj q1_93 dX8_takeFrom_126 ?_
        refine m_iload_n C dX8_takeFrom_129 rfl rfl ?_
        refine m_aload_n C dX8_takeFrom_130 rfl rfl ?_
        refine g_1_8 C hj2 q1_93 dX8_takeFrom_131 ?_
        refine m_iload_n C dX8_takeFrom_134 rfl rfl ?_
        refine al_5 C hj2 b9 (by decide) rfl dX8_takeFrom_135 ?_
        refine m_topi (fun x14 ex14 => ?_)
        refine as_5 C hj b9 (by decide) rfl dX8_takeFrom_136 ?_
        refine m_tops (fun τ15 eτ15 => ?_)
        have i16 : Inv τ15 := eτ15 ▸ Inv.putF i12 (by decide) rfl
        have f17 : Fr MS_X8_takeFromS AS_X8_takeFromS σ τ15 := eτ15 ▸ Fr.put (f13) (Or.inr (by decide))
        obtain ⟨x18, ex18⟩ : ∃ y : Int32, y = y2 + 1 := ⟨_, rfl⟩
        have tx18 : x18.toInt = y2.toInt + 1 := by rw [ex18, ti_addv b9 kc_1 (by decide), kt_1]
        have b19 : IV x18 1 4 := by rw [ex18]; exact iv_add b9 kc_1 (by decide)
        refine m_iinc (v := x18) (L1 := [some (.ref (G.1 1 j)), some (.ref (G.1 1 j2)), some (.int x18)]) C dX8_takeFrom_137 rfl (by rw [ex18]; rfl) (by decide) rfl rfl ?_
        refine m_goto (tgt := 108) C dX8_takeFrom_140 (by decide) ?_
        have q20 : (gV τ15 1 j 0).toInt = (gV τ 1 j 0).toInt := congrArg Int32.toInt (show (gV τ15 1 j 0) = (gV τ 1 j 0) from (show gV τ15 1 j 0 = (gV τ 1 j 0) from gV_put eτ15 (show gV τ11 1 j 0 = (gV τ 1 j 0) from gV_put eτ11 rfl)))
        have q21 : (gV τ15 1 j 2).toInt = (gV τ 1 j 2).toInt := congrArg Int32.toInt (show (gV τ15 1 j 2) = (gV τ 1 j 2) from (show gV τ15 1 j 2 = (gV τ 1 j 2) from gV_put eτ15 (show gV τ11 1 j 2 = (gV τ 1 j 2) from gV_put eτ11 rfl)))
        have q22 : (gV τ15 1 j2 0).toInt = (gV τ 1 j2 0).toInt := congrArg Int32.toInt (show (gV τ15 1 j2 0) = (gV τ 1 j2 0) from (show gV τ15 1 j2 0 = (gV τ 1 j2 0) from gV_put eτ15 (show gV τ11 1 j2 0 = (gV τ 1 j2 0) from gV_put eτ11 rfl)))
        have q23 : (gV τ15 1 j2 2).toInt = (gV τ 1 j2 2).toInt := congrArg Int32.toInt (show (gV τ15 1 j2 2) = (gV τ 1 j2 2) from (show gV τ15 1 j2 2 = (gV τ 1 j2 2) from gV_put eτ15 (show gV τ11 1 j2 2 = (gV τ 1 j2 2) from gV_put eτ11 rfl)))
        exact ih108 τ15 x18 i16 f17 (iv_wk b19 (by decide)) (by omega) (by omega) ((nT8.putO eτ11 (by decide)).putO eτ15 (by decide)) (by have q := hm108; omega)
  have J58 : ∀ (n : Nat) (τ : Sg) (y2 : Int32), Inv τ → Fr MS_X8_takeFromS AS_X8_takeFromS σ τ → IV y2 0 7 → ((gV τ 1 j 0).toInt = (gV σ 1 j2 0).toInt) → ((gV τ 1 j 2).toInt = (gV σ 1 j2 2).toInt) → (TF j j2 y2.toInt.toNat σ τ) → (7 - y2.toInt).toNat < n → MW p l e { frames := 0, cells := 0, slots := 0, locals := 0 } s m args below meth c (MQ below (QP G (PV fun τ => Inv τ ∧ Fr MS_X8_takeFromS AS_X8_takeFromS σ τ ∧ TFa j j2 σ τ)) args s 0 0 (aG G)) 3 G 0 0 58 [some (.ref (G.1 1 j)), some (.ref (G.1 1 j2)), some (.int y2)] [] τ := by
    intro n
    induction n with
    | zero => intro τ y2 iτ fτ b_y2 n24 n25 nT hm; exact absurd hm (Nat.not_lt_zero _)
    | succ n ih58 =>
      intro τ y2 iτ fτ b_y2 n24 n25 nT hm58
      have u26 : IV (gV τ 1 j 2) 0 7 := iτ.1 1 j 2
      have u27 : IV (gV τ 1 j2 2) 0 7 := iτ.1 1 j2 2
      refine m_iload_n C dX8_takeFrom_58 rfl rfl ?_
      refine m_bipush (v := 7) C dX8_takeFrom_59 (by decide) ?_
      refine m_icmp_ge (tgt := 106) C dX8_takeFrom_61 (by decide) (fun c28 => ?_) (fun c28 => ?_)
      · have f29 : 7 ≤ y2.toInt := by
          have q : _ := c28
          simp only [ti_nle, ti_nlt, ti_le, ti_lt, ti_eq, ti_ne, Classical.not_not, kt_7] at q
          omega
        have b30 : IV y2 7 7 := ⟨by have q1 := kc_7; have q2 := b_y2; omega, by have q1 := kc_7; have q2 := b_y2; omega⟩
        refine m_iconst (v := 0) C dX8_takeFrom_106 (by decide) ?_
        refine m_istore_n (L1 := [some (.ref (G.1 1 j)), some (.ref (G.1 1 j2)), some (.int 0)]) C dX8_takeFrom_107 rfl (by decide) rfl rfl ?_
        exact J108 ((4 - (0 : Int32).toInt).toNat + 1) τ 0 iτ fτ (iv_wk kc_0 (by decide)) (by omega) (by omega) (nT.cast (by omega)) (Nat.lt_succ_self _)
      · have f31 : y2.toInt < 7 := by
          have q : _ := c28
          simp only [ti_nle, ti_nlt, ti_le, ti_lt, ti_eq, ti_ne, Classical.not_not, kt_7] at q
          omega
        have b32 : IV y2 0 6 := ⟨by have q1 := b_y2; have q2 := kc_7; omega, by have q1 := b_y2; have q2 := kc_7; omega⟩
        refine m_aload_n C dX8_takeFrom_64 rfl rfl ?_
        refine g_1_4 C hj q1_86 dX8_takeFrom_65 ?_
        refine m_iload_n C dX8_takeFrom_68 rfl rfl ?_
        refine m_aload_n C dX8_takeFrom_69 rfl rfl ?_
        refine g_1_4 C hj2 q1_86 dX8_takeFrom_70 ?_
        refine m_iload_n C dX8_takeFrom_73 rfl rfl ?_
        refine al_6 (n := (y2.toInt.toNat)) C hj2 b32 (by decide) rfl dX8_takeFrom_74 (fun h34 => ?_) (fun x33 h34 => ?_)
        · skip
          refine as_6N C hj b32 (by decide) dX8_takeFrom_75 ?_
          refine m_tops (fun τ35 eτ35 => ?_)
          have i36 : Inv τ35 := eτ35 ▸ Inv.putQ iτ (fun _ h => nomatch h)
          have f37 : Fr MS_X8_takeFromS AS_X8_takeFromS σ τ35 := eτ35 ▸ Fr.putQ (fτ) (by decide)
          refine m_aload_n C dX8_takeFrom_76 rfl rfl ?_
          refine g_1_5 C hj q1_87 dX8_takeFrom_77 ?_
          refine m_iload_n C dX8_takeFrom_80 rfl rfl ?_
          refine m_aload_n C dX8_takeFrom_81 rfl rfl ?_
          refine g_1_5 C hj2 q1_87 dX8_takeFrom_82 ?_
          refine m_iload_n C dX8_takeFrom_85 rfl rfl ?_
          refine al_2 C hj2 b32 (by decide) rfl dX8_takeFrom_86 ?_
          refine m_topi (fun x38 ex38 => ?_)
          refine as_2 C hj b32 (by decide) rfl dX8_takeFrom_87 ?_
          refine m_tops (fun τ39 eτ39 => ?_)
          have i40 : Inv τ39 := eτ39 ▸ Inv.putF i36 (by decide) rfl
          have f41 : Fr MS_X8_takeFromS AS_X8_takeFromS σ τ39 := eτ39 ▸ Fr.put (f37) (Or.inr (by decide))
          refine m_aload_n C dX8_takeFrom_88 rfl rfl ?_
          refine g_1_6 C hj q1_89 dX8_takeFrom_89 ?_
          refine m_iload_n C dX8_takeFrom_92 rfl rfl ?_
          refine m_aload_n C dX8_takeFrom_93 rfl rfl ?_
          refine g_1_6 C hj2 q1_89 dX8_takeFrom_94 ?_
          refine m_iload_n C dX8_takeFrom_97 rfl rfl ?_
          refine al_3 C hj2 b32 (by decide) rfl dX8_takeFrom_98 ?_
          refine m_topi (fun x42 ex42 => ?_)
          refine as_3 C hj b32 (by decide) rfl dX8_takeFrom_99 ?_
          refine m_tops (fun τ43 eτ43 => ?_)
          have i44 : Inv τ43 := eτ43 ▸ Inv.putF i40 (by decide) rfl
          have f45 : Fr MS_X8_takeFromS AS_X8_takeFromS σ τ43 := eτ43 ▸ Fr.put (f41) (Or.inr (by decide))
          obtain ⟨x46, ex46⟩ : ∃ y : Int32, y = y2 + 1 := ⟨_, rfl⟩
          have tx46 : x46.toInt = y2.toInt + 1 := by rw [ex46, ti_addv b32 kc_1 (by decide), kt_1]
          have b47 : IV x46 1 7 := by rw [ex46]; exact iv_add b32 kc_1 (by decide)
          refine m_iinc (v := x46) (L1 := [some (.ref (G.1 1 j)), some (.ref (G.1 1 j2)), some (.int x46)]) C dX8_takeFrom_100 rfl (by rw [ex46]; rfl) (by decide) rfl rfl ?_
          refine m_goto (tgt := 58) C dX8_takeFrom_103 (by decide) ?_
          have q48 : (gV τ43 1 j 0).toInt = (gV τ 1 j 0).toInt := congrArg Int32.toInt (show (gV τ43 1 j 0) = (gV τ 1 j 0) from (show gV τ43 1 j 0 = (gV τ 1 j 0) from gV_put eτ43 (show gV τ39 1 j 0 = (gV τ 1 j 0) from gV_put eτ39 (show gV τ35 1 j 0 = (gV τ 1 j 0) from gV_putQ eτ35 rfl))))
          have q49 : (gV τ43 1 j 2).toInt = (gV τ 1 j 2).toInt := congrArg Int32.toInt (show (gV τ43 1 j 2) = (gV τ 1 j 2) from (show gV τ43 1 j 2 = (gV τ 1 j 2) from gV_put eτ43 (show gV τ39 1 j 2 = (gV τ 1 j 2) from gV_put eτ39 (show gV τ35 1 j 2 = (gV τ 1 j 2) from gV_putQ eτ35 rfl))))
          have q50 : (gV τ43 1 j2 0).toInt = (gV τ 1 j2 0).toInt := congrArg Int32.toInt (show (gV τ43 1 j2 0) = (gV τ 1 j2 0) from (show gV τ43 1 j2 0 = (gV τ 1 j2 0) from gV_put eτ43 (show gV τ39 1 j2 0 = (gV τ 1 j2 0) from gV_put eτ39 (show gV τ35 1 j2 0 = (gV τ 1 j2 0) from gV_putQ eτ35 rfl))))
          have q51 : (gV τ43 1 j2 2).toInt = (gV τ 1 j2 2).toInt := congrArg Int32.toInt (show (gV τ43 1 j2 2) = (gV τ 1 j2 2) from (show gV τ43 1 j2 2 = (gV τ 1 j2 2) from gV_put eτ43 (show gV τ39 1 j2 2 = (gV τ 1 j2 2) from gV_put eτ39 (show gV τ35 1 j2 2 = (gV τ 1 j2 2) from gV_putQ eτ35 rfl))))
          exact ih58 τ43 x46 i44 f45 (iv_wk b47 (by decide)) (by omega) (by omega) ((((nT.putQ eτ35 hne h34).putO eτ39 (by decide)).putO eτ43 (by decide)).cast (by omega)) (by have q := hm58; omega)
        · have v52 : x33 ∈ τ.2.2.2.1 := iτ.2.2.1 _ _ _ h34
          refine as_6 C hj iτ.2.2 v52 b32 (by decide) dX8_takeFrom_75 ?_
          refine m_tops (fun τ53 eτ53 => ?_)
          have i54 : Inv τ53 := eτ53 ▸ Inv.putQ iτ (fun _ h => by cases h; exact v52)
          have f55 : Fr MS_X8_takeFromS AS_X8_takeFromS σ τ53 := eτ53 ▸ Fr.putQ (fτ) (by decide)
          have v56 : x33 ∈ τ53.2.2.2.1 := by rw [eτ53]; exact v52
          refine m_aload_n C dX8_takeFrom_76 rfl rfl ?_
          refine g_1_5 C hj q1_87 dX8_takeFrom_77 ?_
          refine m_iload_n C dX8_takeFrom_80 rfl rfl ?_
          refine m_aload_n C dX8_takeFrom_81 rfl rfl ?_
          refine g_1_5 C hj2 q1_87 dX8_takeFrom_82 ?_
          refine m_iload_n C dX8_takeFrom_85 rfl rfl ?_
          refine al_2 C hj2 b32 (by decide) rfl dX8_takeFrom_86 ?_
          refine m_topi (fun x57 ex57 => ?_)
          refine as_2 C hj b32 (by decide) rfl dX8_takeFrom_87 ?_
          refine m_tops (fun τ58 eτ58 => ?_)
          have i59 : Inv τ58 := eτ58 ▸ Inv.putF i54 (by decide) rfl
          have f60 : Fr MS_X8_takeFromS AS_X8_takeFromS σ τ58 := eτ58 ▸ Fr.put (f55) (Or.inr (by decide))
          have v61 : x33 ∈ τ58.2.2.2.1 := by rw [eτ58]; exact v56
          refine m_aload_n C dX8_takeFrom_88 rfl rfl ?_
          refine g_1_6 C hj q1_89 dX8_takeFrom_89 ?_
          refine m_iload_n C dX8_takeFrom_92 rfl rfl ?_
          refine m_aload_n C dX8_takeFrom_93 rfl rfl ?_
          refine g_1_6 C hj2 q1_89 dX8_takeFrom_94 ?_
          refine m_iload_n C dX8_takeFrom_97 rfl rfl ?_
          refine al_3 C hj2 b32 (by decide) rfl dX8_takeFrom_98 ?_
          refine m_topi (fun x62 ex62 => ?_)
          refine as_3 C hj b32 (by decide) rfl dX8_takeFrom_99 ?_
          refine m_tops (fun τ63 eτ63 => ?_)
          have i64 : Inv τ63 := eτ63 ▸ Inv.putF i59 (by decide) rfl
          have f65 : Fr MS_X8_takeFromS AS_X8_takeFromS σ τ63 := eτ63 ▸ Fr.put (f60) (Or.inr (by decide))
          have v66 : x33 ∈ τ63.2.2.2.1 := by rw [eτ63]; exact v61
          obtain ⟨x67, ex67⟩ : ∃ y : Int32, y = y2 + 1 := ⟨_, rfl⟩
          have tx67 : x67.toInt = y2.toInt + 1 := by rw [ex67, ti_addv b32 kc_1 (by decide), kt_1]
          have b68 : IV x67 1 7 := by rw [ex67]; exact iv_add b32 kc_1 (by decide)
          refine m_iinc (v := x67) (L1 := [some (.ref (G.1 1 j)), some (.ref (G.1 1 j2)), some (.int x67)]) C dX8_takeFrom_100 rfl (by rw [ex67]; rfl) (by decide) rfl rfl ?_
          refine m_goto (tgt := 58) C dX8_takeFrom_103 (by decide) ?_
          have q69 : (gV τ63 1 j 0).toInt = (gV τ 1 j 0).toInt := congrArg Int32.toInt (show (gV τ63 1 j 0) = (gV τ 1 j 0) from (show gV τ63 1 j 0 = (gV τ 1 j 0) from gV_put eτ63 (show gV τ58 1 j 0 = (gV τ 1 j 0) from gV_put eτ58 (show gV τ53 1 j 0 = (gV τ 1 j 0) from gV_putQ eτ53 rfl))))
          have q70 : (gV τ63 1 j 2).toInt = (gV τ 1 j 2).toInt := congrArg Int32.toInt (show (gV τ63 1 j 2) = (gV τ 1 j 2) from (show gV τ63 1 j 2 = (gV τ 1 j 2) from gV_put eτ63 (show gV τ58 1 j 2 = (gV τ 1 j 2) from gV_put eτ58 (show gV τ53 1 j 2 = (gV τ 1 j 2) from gV_putQ eτ53 rfl))))
          have q71 : (gV τ63 1 j2 0).toInt = (gV τ 1 j2 0).toInt := congrArg Int32.toInt (show (gV τ63 1 j2 0) = (gV τ 1 j2 0) from (show gV τ63 1 j2 0 = (gV τ 1 j2 0) from gV_put eτ63 (show gV τ58 1 j2 0 = (gV τ 1 j2 0) from gV_put eτ58 (show gV τ53 1 j2 0 = (gV τ 1 j2 0) from gV_putQ eτ53 rfl))))
          have q72 : (gV τ63 1 j2 2).toInt = (gV τ 1 j2 2).toInt := congrArg Int32.toInt (show (gV τ63 1 j2 2) = (gV τ 1 j2 2) from (show gV τ63 1 j2 2 = (gV τ 1 j2 2) from gV_put eτ63 (show gV τ58 1 j2 2 = (gV τ 1 j2 2) from gV_put eτ58 (show gV τ53 1 j2 2 = (gV τ 1 j2 2) from gV_putQ eτ53 rfl))))
          exact ih58 τ63 x67 i64 f65 (iv_wk b68 (by decide)) (by omega) (by omega) ((((nT.putQ eτ53 hne h34).putO eτ58 (by decide)).putO eτ63 (by decide)).cast (by omega)) (by have q := hm58; omega)
  have u73 : IV (gV σ 1 j 2) 0 7 := hI.1 1 j 2
  have u74 : IV (gV σ 1 j2 2) 0 7 := hI.1 1 j2 2
  refine m_aload_n C dX8_takeFrom_0 rfl rfl ?_
  refine m_aload_n C dX8_takeFrom_1 rfl rfl ?_
  refine g_1_0 C hj2 q1_74 dX8_takeFrom_2 ?_
  refine m_eqs (w := (gV σ 1 j2 0)) rfl ?_
  refine p_1_0 C hj q1_74 dX8_takeFrom_5 ?_
  refine m_tops (fun τ75 eτ75 => ?_)
  have i76 : Inv τ75 := eτ75 ▸ Inv.putF hI (by decide) rfl
  have f77 : Fr MS_X8_takeFromS AS_X8_takeFromS σ τ75 := eτ75 ▸ Fr.put (Fr.rf) (Or.inl (by decide))
  refine m_aload_n C dX8_takeFrom_8 rfl rfl ?_
  refine m_aload_n C dX8_takeFrom_9 rfl rfl ?_
  refine g_1_1 C hj2 q1_77 dX8_takeFrom_10 ?_
  refine m_topi (fun x78 ex78 => ?_)
  refine p_1_1 C hj q1_77 dX8_takeFrom_13 ?_
  refine m_tops (fun τ79 eτ79 => ?_)
  have i80 : Inv τ79 := eτ79 ▸ Inv.putF i76 (by decide) rfl
  have f81 : Fr MS_X8_takeFromS AS_X8_takeFromS σ τ79 := eτ79 ▸ Fr.put (f77) (Or.inl (by decide))
  refine m_aload_n C dX8_takeFrom_16 rfl rfl ?_
  refine m_aload_n C dX8_takeFrom_17 rfl rfl ?_
  refine g_1_2 C hj2 q1_80 dX8_takeFrom_18 ?_
  refine m_eqs (w := (gV σ 1 j2 2)) (show gV τ79 1 j2 2 = (gV σ 1 j2 2) from gV_put eτ79 (show gV τ75 1 j2 2 = (gV σ 1 j2 2) from gV_put eτ75 rfl)) ?_
  refine p_1_2 C hj q1_80 dX8_takeFrom_21 ?_
  refine m_tops (fun τ82 eτ82 => ?_)
  have i83 : Inv τ82 := eτ82 ▸ Inv.put i80 (by decide) u74
  have f84 : Fr MS_X8_takeFromS AS_X8_takeFromS σ τ82 := eτ82 ▸ Fr.put (f81) (Or.inl (by decide))
  refine m_aload_n C dX8_takeFrom_24 rfl rfl ?_
  refine m_aload_n C dX8_takeFrom_25 rfl rfl ?_
  refine g_1_3 C hj2 q1_83 dX8_takeFrom_26 ?_
  refine m_topi (fun x85 ex85 => ?_)
  have b86 : IV x85 0 4 := by rw [ex85]; exact i83.1 1 j2 3
  refine p_1_3 C hj q1_83 dX8_takeFrom_29 ?_
  refine m_tops (fun τ87 eτ87 => ?_)
  have i88 : Inv τ87 := eτ87 ▸ Inv.put i83 (by decide) b86
  have f89 : Fr MS_X8_takeFromS AS_X8_takeFromS σ τ87 := eτ87 ▸ Fr.put (f84) (Or.inl (by decide))
  refine m_aload_n C dX8_takeFrom_32 rfl rfl ?_
  refine m_aload_n C dX8_takeFrom_33 rfl rfl ?_
  refine g_1_9 C hj2 q1_95 dX8_takeFrom_34 ?_
  refine m_topi (fun x90 ex90 => ?_)
  refine p_1_9 C hj q1_95 dX8_takeFrom_37 ?_
  refine m_tops (fun τ91 eτ91 => ?_)
  have i92 : Inv τ91 := eτ91 ▸ Inv.putF i88 (by decide) rfl
  have f93 : Fr MS_X8_takeFromS AS_X8_takeFromS σ τ91 := eτ91 ▸ Fr.put (f89) (Or.inl (by decide))
  refine m_aload_n C dX8_takeFrom_40 rfl rfl ?_
  refine m_aload_n C dX8_takeFrom_41 rfl rfl ?_
  refine g_1_10 C hj2 q1_97 dX8_takeFrom_42 ?_
  refine m_topi (fun x94 ex94 => ?_)
  refine p_1_10 C hj q1_97 dX8_takeFrom_45 ?_
  refine m_tops (fun τ95 eτ95 => ?_)
  have i96 : Inv τ95 := eτ95 ▸ Inv.putF i92 (by decide) rfl
  have f97 : Fr MS_X8_takeFromS AS_X8_takeFromS σ τ95 := eτ95 ▸ Fr.put (f93) (Or.inl (by decide))
  refine m_aload_n C dX8_takeFrom_48 rfl rfl ?_
  refine m_aload_n C dX8_takeFrom_49 rfl rfl ?_
  refine g_1_11 C hj2 q1_99 dX8_takeFrom_50 ?_
  refine m_topi (fun x98 ex98 => ?_)
  refine p_1_11 C hj q1_99 dX8_takeFrom_53 ?_
  refine m_tops (fun τ99 eτ99 => ?_)
  have i100 : Inv τ99 := eτ99 ▸ Inv.putF i96 (by decide) rfl
  have f101 : Fr MS_X8_takeFromS AS_X8_takeFromS σ τ99 := eτ99 ▸ Fr.put (f97) (Or.inl (by decide))
  refine m_iconst (v := 0) C dX8_takeFrom_56 (by decide) ?_
  refine m_istore_n (L1 := [some (.ref (G.1 1 j)), some (.ref (G.1 1 j2)), some (.int 0)]) C dX8_takeFrom_57 rfl (by decide) rfl rfl ?_
  have q102 : (gV τ99 1 j 0).toInt = (gV σ 1 j2 0).toInt := congrArg Int32.toInt (show (gV τ99 1 j 0) = (gV σ 1 j2 0) from (show gV τ99 1 j 0 = (gV σ 1 j2 0) from gV_put eτ99 (show gV τ95 1 j 0 = (gV σ 1 j2 0) from gV_put eτ95 (show gV τ91 1 j 0 = (gV σ 1 j2 0) from gV_put eτ91 (show gV τ87 1 j 0 = (gV σ 1 j2 0) from gV_put eτ87 (show gV τ82 1 j 0 = (gV σ 1 j2 0) from gV_put eτ82 (show gV τ79 1 j 0 = (gV σ 1 j2 0) from gV_put eτ79 (show gV τ75 1 j 0 = (gV σ 1 j2 0) from gV_put eτ75 (gV_self _ _ _ _ _)))))))))
  have q103 : (gV τ99 1 j 2).toInt = (gV σ 1 j2 2).toInt := congrArg Int32.toInt (show (gV τ99 1 j 2) = (gV σ 1 j2 2) from (show gV τ99 1 j 2 = (gV σ 1 j2 2) from gV_put eτ99 (show gV τ95 1 j 2 = (gV σ 1 j2 2) from gV_put eτ95 (show gV τ91 1 j 2 = (gV σ 1 j2 2) from gV_put eτ91 (show gV τ87 1 j 2 = (gV σ 1 j2 2) from gV_put eτ87 (show gV τ82 1 j 2 = (gV σ 1 j2 2) from gV_put eτ82 (gV_self _ _ _ _ _)))))))
  exact J58 ((7 - (0 : Int32).toInt).toNat + 1) τ99 0 i100 f101 (iv_wk kc_0 (by decide)) (by omega) (by omega) ((((((((TF.rf.put eτ75).put eτ79).put eτ82).put eτ87).put eτ91).put eτ95).put eτ99).cast kn_0.symm) (Nat.lt_succ_self _)

abbrev MS_X11_worstS : List (Nat × Nat) := [(1, 0), (1, 1), (1, 2), (1, 3), (1, 9), (1, 10), (1, 11)]
abbrev AS_X11_worstS : List Nat := [2, 3, 4, 5, 6]
set_option maxHeartbeats 4000000 in
set_option maxRecDepth 100000 in
theorem c_X11_worstS (l : Launch) (G : Gt) (σ : Sg) (a1 : Int32) (hI : Inv σ) : Mc l G yX11_worst cX11_worst 2 (some .int) 5 110 0 0 [.ref (G.1 0 0), .int a1] σ (PI fun r τ => Inv τ ∧ Fr MS_X11_worstS AS_X11_worstS σ τ ∧ IV r (-2147483648) 2147483647 ∧ SFc σ τ) := by
  refine Mc.of (L0 := [some (.ref (G.1 0 0)), some (.int a1)]) (by decide) (Nat.le_of_ble_eq_true rfl) rfl ?_
  intro p e s m args below meth c C hr hlk
  have C : Cx p s m args c cX11_worst 2 "LeanTower" := C
  have k0 : (0 : Int32).toInt = 0 := by decide
  have k1 : (1 : Int32).toInt = 1 := by decide
  refine m_aload_n C dX11_worst_0 rfl rfl ?_
  refine g_0_2 C q1_188 dX11_worst_1 ?_
  refine m_callV (n := 0) (ci := 7) (st := []) C (c_X8_stands l G σ (j := 0) (by decide)  hI ) (by decide) (by decide) rfl rfl rfl q3_41 q3_38 q3_39 q3_40 q1_3 (by decide +kernel) rfl (by decide) (by decide) rfl (Nat.le_of_ble_eq_true rfl) dX11_worst_4 ?_
  rintro _ τ1 ⟨x4, rfl, i2, f3, b5⟩
  have g6 : Fr MS_X11_worstS AS_X11_worstS σ τ1 := Fr.call (Fr.rf) f3 (by decide)
  have v8 : SFc σ τ1 := SFc.rf.fr f3 (by decide) (by decide)
  show MW p l e _ s m args below meth c _ 2 G 0 0 7 [some (.ref (G.1 0 0)), some (.int a1)] [.int x4] τ1
  refine m_if_ne (tgt := 13) C dX11_worst_7 (by decide) (fun c9 => ?_) (fun c9 => ?_)
  · have f10 : x4.toInt ≠ 0 := by
      have q : _ := c9
      simp only [ti_nle, ti_nlt, ti_le, ti_lt, ti_eq, ti_ne, Classical.not_not, kt_0] at q
      omega
    have b11 : IV x4 1 1 := ⟨by have q1 := b5; have q2 := kc_0; omega, by have q1 := b5; have q2 := kc_0; omega⟩
    refine m_iload_n C dX11_worst_13 rfl rfl ?_
    refine m_if_lt (tgt := 22) C dX11_worst_14 (by decide) (fun c12 => ?_) (fun c12 => ?_)
    · have f13 : a1.toInt < 0 := by
        have q : _ := c12
        simp only [ti_nle, ti_nlt, ti_le, ti_lt, ti_eq, ti_ne, Classical.not_not, kt_0] at q
        omega
      have b14 : IV a1 (-2147483648) (-1) := ⟨by have q1 := (iv_any a1); have q2 := kc_0; omega, by have q1 := (iv_any a1); have q2 := kc_0; omega⟩
      refine m_ldc (v := (-1000001)) C dX11_worst_22 q1_234 ?_
      exact m_iret C hr hlk (by decide) (by decide) dX11_worst_24 ⟨_, rfl, i2, g6, (iv_wk kc_m1000001 (by decide)), v8⟩
    · have f15 : 0 ≤ a1.toInt := by
        have q : _ := c12
        simp only [ti_nle, ti_nlt, ti_le, ti_lt, ti_eq, ti_ne, Classical.not_not, kt_0] at q
        omega
      have b16 : IV a1 0 2147483647 := ⟨by have q1 := kc_0; have q2 := (iv_any a1); omega, by have q1 := kc_0; have q2 := (iv_any a1); omega⟩
      refine m_iload_n C dX11_worst_17 rfl rfl ?_
      refine m_iconst (v := 1) C dX11_worst_18 (by decide) ?_
      refine m_icmp_le (tgt := 25) C dX11_worst_19 (by decide) (fun c17 => ?_) (fun c17 => ?_)
      · have f18 : a1.toInt ≤ 1 := by
          have q : _ := c17
          simp only [ti_nle, ti_nlt, ti_le, ti_lt, ti_eq, ti_ne, Classical.not_not, kt_1] at q
          omega
        have b19 : IV a1 0 1 := ⟨by have q1 := b16; have q2 := kc_1; omega, by have q1 := b16; have q2 := kc_1; omega⟩
        refine m_aload_n C dX11_worst_25 rfl rfl ?_
        refine g_0_3 C q1_189 dX11_worst_26 ?_
        refine m_aload_n C dX11_worst_29 rfl rfl ?_
        refine g_0_2 C q1_188 dX11_worst_30 ?_
        refine m_callV (n := 1) (ci := 7) (st := []) C (c_X8_takeFromS l G τ1 (j := 1) (by decide) (j2 := 0) (by decide) i2 (by omega)) (by decide) (by decide) rfl rfl rfl q3_9 q3_6 q3_7 q3_8 q1_3 (by decide +kernel) rfl (by decide) (by decide) rfl (Nat.le_of_ble_eq_true rfl) dX11_worst_33 ?_
        rintro _ τ20 ⟨rfl, i21, f22, h26⟩
        have g25 : Fr MS_X11_worstS AS_X11_worstS σ τ20 := Fr.call (g6) f22 (by decide)
        have v27 : SFc σ τ20 := v8.take h26
        show MW p l e _ s m args below meth c _ 2 G 0 0 36 [some (.ref (G.1 0 0)), some (.int a1)] [] τ20
        refine m_iload_n C dX11_worst_36 rfl rfl ?_
        refine m_if_ne (tgt := 52) C dX11_worst_37 (by decide) (fun c28 => ?_) (fun c28 => ?_)
        · have f29 : a1.toInt ≠ 0 := by
            have q : _ := c28
            simp only [ti_nle, ti_nlt, ti_le, ti_lt, ti_eq, ti_ne, Classical.not_not, kt_0] at q
            omega
          have b30 : IV a1 1 1 := ⟨by have q1 := b19; have q2 := kc_0; omega, by have q1 := b19; have q2 := kc_0; omega⟩
          refine m_aload_n C dX11_worst_52 rfl rfl ?_
          refine g_0_3 C q1_189 dX11_worst_53 ?_
          refine m_bipush (v := 64) C dX11_worst_56 (by decide) ?_
          refine m_callV (n := 1) (ci := 7) (st := []) C (c_X8_firstBeyond l G τ20 (j := 1) (by decide) (64) i21 (iv_wk kc_64 (by decide))) (by decide) (by decide) rfl rfl rfl q3_134 q3_131 q3_132 q3_133 q1_3 (by decide +kernel) rfl (by decide) (by decide) rfl (Nat.le_of_ble_eq_true rfl) dX11_worst_58 ?_
          rintro _ τ31 ⟨x34, rfl, i32, f33, b35⟩
          have g36 : Fr MS_X11_worstS AS_X11_worstS σ τ31 := Fr.call (g25) f33 (by decide)
          have v38 : SFc σ τ31 := v27.fr f33 (by decide) (by decide)
          show MW p l e _ s m args below meth c _ 2 G 0 0 61 [some (.ref (G.1 0 0)), some (.int a1)] [.int x34] τ31
          exact m_iret C hr hlk (by decide) (by decide) dX11_worst_61 ⟨_, rfl, i32, g36, (iv_wk b35 (by decide)), v38⟩
        · have f39 : a1.toInt = 0 := by
            have q : _ := c28
            simp only [ti_nle, ti_nlt, ti_le, ti_lt, ti_eq, ti_ne, Classical.not_not, kt_0] at q
            omega
          have b40 : IV a1 0 0 := ⟨by have q1 := b19; have q2 := kc_0; omega, by have q1 := b19; have q2 := kc_0; omega⟩
          refine m_aload_n C dX11_worst_40 rfl rfl ?_
          refine g_0_3 C q1_189 dX11_worst_41 ?_
          refine m_bipush (v := 64) C dX11_worst_44 (by decide) ?_
          refine m_callV (n := 1) (ci := 7) (st := []) C (c_X8_worstOver l G τ20 (j := 1) (by decide) (64) i21 (iv_wk kc_64 (by decide))) (by decide) (by decide) rfl rfl rfl q3_129 q3_126 q3_127 q3_128 q1_3 (by decide +kernel) rfl (by decide) (by decide) rfl (Nat.le_of_ble_eq_true rfl) dX11_worst_46 ?_
          rintro _ τ41 ⟨x44, rfl, i42, f43, b45⟩
          have g46 : Fr MS_X11_worstS AS_X11_worstS σ τ41 := Fr.call (g25) f43 (by decide)
          have v48 : SFc σ τ41 := v27.fr f43 (by decide) (by decide)
          show MW p l e _ s m args below meth c _ 2 G 0 0 49 [some (.ref (G.1 0 0)), some (.int a1)] [.int x44] τ41
          refine m_goto (tgt := 61) C dX11_worst_49 (by decide) ?_
          exact m_iret C hr hlk (by decide) (by decide) dX11_worst_61 ⟨_, rfl, i42, g46, b45, v48⟩
      · have f49 : 1 < a1.toInt := by
          have q : _ := c17
          simp only [ti_nle, ti_nlt, ti_le, ti_lt, ti_eq, ti_ne, Classical.not_not, kt_1] at q
          omega
        have b50 : IV a1 2 2147483647 := ⟨by have q1 := kc_1; have q2 := b16; omega, by have q1 := kc_1; have q2 := b16; omega⟩
        refine m_ldc (v := (-1000001)) C dX11_worst_22 q1_234 ?_
        exact m_iret C hr hlk (by decide) (by decide) dX11_worst_24 ⟨_, rfl, i2, g6, (iv_wk kc_m1000001 (by decide)), v8⟩
  · have f51 : x4.toInt = 0 := by
      have q : _ := c9
      simp only [ti_nle, ti_nlt, ti_le, ti_lt, ti_eq, ti_ne, Classical.not_not, kt_0] at q
      omega
    have b52 : IV x4 0 0 := ⟨by have q1 := b5; have q2 := kc_0; omega, by have q1 := b5; have q2 := kc_0; omega⟩
    refine m_ldc (v := (-1000002)) C dX11_worst_10 q3_42 ?_
    exact m_iret C hr hlk (by decide) (by decide) dX11_worst_12 ⟨_, rfl, i2, g6, (iv_wk kc_m1000002 (by decide)), v8⟩

abbrev MS_X11_mayGoUpS : List (Nat × Nat) := [(1, 0), (1, 1), (1, 2), (1, 3), (1, 9), (1, 10), (1, 11)]
abbrev AS_X11_mayGoUpS : List Nat := [2, 3, 4, 5, 6]
set_option maxHeartbeats 4000000 in
set_option maxRecDepth 100000 in
theorem c_X11_mayGoUpS (l : Launch) (G : Gt) (σ : Sg) (a1 : Int32) (hI : Inv σ) : Mc l G yX11_mayGoUp cX11_mayGoUp 3 (some .boolean) 5 110 0 0 [.ref (G.1 0 0), .int a1] σ (PI fun r τ => Inv τ ∧ Fr MS_X11_mayGoUpS AS_X11_mayGoUpS σ τ ∧ IV r 0 1 ∧ SFc σ τ) := by
  refine Mc.of (L0 := [some (.ref (G.1 0 0)), some (.int a1), none]) (by decide) (Nat.le_of_ble_eq_true rfl) rfl ?_
  intro p e s m args below meth c C hr hlk
  have C : Cx p s m args c cX11_mayGoUp 3 "LeanTower" := C
  have k0 : (0 : Int32).toInt = 0 := by decide
  have k1 : (1 : Int32).toInt = 1 := by decide
  have J13 : ∀ (n : Nat) (τ : Sg) (y2 : Int32), Inv τ → Fr MS_X11_mayGoUpS AS_X11_mayGoUpS σ τ → IV a1 (-2147483648) 2147483647 → IV y2 0 7 → (SFc σ τ) → (7 - y2.toInt).toNat < n → MW p l e { frames := 5, cells := 0, slots := 0, locals := 110 } s m args below meth c (MQ below (QP G (PI fun r τ => Inv τ ∧ Fr MS_X11_mayGoUpS AS_X11_mayGoUpS σ τ ∧ IV r 0 1 ∧ SFc σ τ)) args s 0 0 (aG G)) 3 G 0 0 13 [some (.ref (G.1 0 0)), some (.int a1), some (.int y2)] [] τ := by
    intro n
    induction n with
    | zero => intro τ y2 iτ fτ b_a1 b_y2 v_SC hm; exact absurd hm (Nat.not_lt_zero _)
    | succ n ih13 =>
      intro τ y2 iτ fτ b_a1 b_y2 v_SC hm13
      refine m_iload_n C dX11_mayGoUp_13 rfl rfl ?_
      refine m_aload_n C dX11_mayGoUp_14 rfl rfl ?_
      refine g_0_3 C q1_189 dX11_mayGoUp_15 ?_
      refine g_1_2 C (by decide) q1_82 dX11_mayGoUp_18 ?_
      refine m_topi (fun x1 ex1 => ?_)
      have b2 : IV x1 0 7 := by rw [ex1]; exact iτ.1 1 1 2
      refine m_icmp_ge (tgt := 49) C dX11_mayGoUp_21 (by decide) (fun c3 => ?_) (fun c3 => ?_)
      · have f4 : x1.toInt ≤ y2.toInt := by
          have q : _ := c3
          simp only [ti_nle, ti_nlt, ti_le, ti_lt, ti_eq, ti_ne, Classical.not_not] at q
          omega
        refine m_aload_n C dX11_mayGoUp_49 rfl rfl ?_
        refine g_0_3 C q1_189 dX11_mayGoUp_50 ?_
        refine m_bipush (v := 64) C dX11_mayGoUp_53 (by decide) ?_
        refine m_callV (n := 1) (ci := 7) (st := []) C (c_X8_firstBeyond l G τ (j := 1) (by decide) (64) iτ (iv_wk kc_64 (by decide))) (by decide) (by decide) rfl rfl rfl q3_134 q3_131 q3_132 q3_133 q1_3 (by decide +kernel) rfl (by decide) (by decide) rfl (Nat.le_of_ble_eq_true rfl) dX11_mayGoUp_55 ?_
        rintro _ τ5 ⟨x8, rfl, i6, f7, b9⟩
        have g10 : Fr MS_X11_mayGoUpS AS_X11_mayGoUpS σ τ5 := Fr.call (fτ) f7 (by decide)
        have v12 : SFc σ τ5 := v_SC.fr f7 (by decide) (by decide)
        show MW p l e _ s m args below meth c _ 3 G 0 0 58 [some (.ref (G.1 0 0)), some (.int a1), some (.int y2)] [.int x8] τ5
        refine m_ldc (v := (-1000000)) C dX11_mayGoUp_58 q3_43 ?_
        refine m_icmp_ne (tgt := 67) C dX11_mayGoUp_60 (by decide) (fun c13 => ?_) (fun c13 => ?_)
        · have f14 : x8.toInt ≠ -1000000 := by
            have q : _ := c13
            simp only [ti_nle, ti_nlt, ti_le, ti_lt, ti_eq, ti_ne, Classical.not_not, kt_m1000000] at q
            omega
          have b15 : IV x8 (-999999) 64 := ⟨by have q1 := b9; have q2 := kc_m1000000; omega, by have q1 := b9; have q2 := kc_m1000000; omega⟩
          refine m_iconst (v := 0) C dX11_mayGoUp_67 (by decide) ?_
          exact m_zret C hr rfl hlk (by decide) (by decide) dX11_mayGoUp_68 ⟨_, rfl, i6, g10, (iv_wk kc_0 (by decide)), v12⟩
        · have f16 : x8.toInt = -1000000 := by
            have q : _ := c13
            simp only [ti_nle, ti_nlt, ti_le, ti_lt, ti_eq, ti_ne, Classical.not_not, kt_m1000000] at q
            omega
          have b17 : IV x8 (-1000000) (-1000000) := ⟨by have q1 := b9; have q2 := kc_m1000000; omega, by have q1 := b9; have q2 := kc_m1000000; omega⟩
          refine m_iconst (v := 1) C dX11_mayGoUp_63 (by decide) ?_
          refine m_goto (tgt := 68) C dX11_mayGoUp_64 (by decide) ?_
          exact m_zret C hr rfl hlk (by decide) (by decide) dX11_mayGoUp_68 ⟨_, rfl, i6, g10, (iv_wk kc_1 (by decide)), v12⟩
      · have f18 : y2.toInt < x1.toInt := by
          have q : _ := c3
          simp only [ti_nle, ti_nlt, ti_le, ti_lt, ti_eq, ti_ne, Classical.not_not] at q
          omega
        have b19 : IV y2 0 6 := ⟨by have q1 := b_y2; have q2 := b2; omega, by have q1 := b_y2; have q2 := b2; omega⟩
        have b20 : IV x1 1 7 := ⟨by have q1 := b_y2; have q2 := b2; omega, by have q1 := b_y2; have q2 := b2; omega⟩
        refine m_iload_n C dX11_mayGoUp_24 rfl rfl ?_
        refine m_iload_n C dX11_mayGoUp_25 rfl rfl ?_
        refine m_ishr C dX11_mayGoUp_26 ?_
        refine m_topi (fun x21 ex21 => ?_)
        refine m_iconst (v := 1) C dX11_mayGoUp_27 (by decide) ?_
        refine m_iand C dX11_mayGoUp_28 ?_
        refine m_topi (fun x22 ex22 => ?_)
        have b23 : IV x22 0 1 := by rw [ex22]; exact iv_and_r kc_1 (by decide)
        refine m_iconst (v := 1) C dX11_mayGoUp_29 (by decide) ?_
        refine m_icmp_ne (tgt := 43) C dX11_mayGoUp_30 (by decide) (fun c24 => ?_) (fun c24 => ?_)
        · have f25 : x22.toInt ≠ 1 := by
            have q : _ := c24
            simp only [ti_nle, ti_nlt, ti_le, ti_lt, ti_eq, ti_ne, Classical.not_not, kt_1] at q
            omega
          have b26 : IV x22 0 0 := ⟨by have q1 := b23; have q2 := kc_1; omega, by have q1 := b23; have q2 := kc_1; omega⟩
          obtain ⟨x27, ex27⟩ : ∃ y : Int32, y = y2 + 1 := ⟨_, rfl⟩
          have tx27 : x27.toInt = y2.toInt + 1 := by rw [ex27, ti_addv b19 kc_1 (by decide), kt_1]
          have b28 : IV x27 1 7 := by rw [ex27]; exact iv_add b19 kc_1 (by decide)
          refine m_iinc (v := x27) (L1 := [some (.ref (G.1 0 0)), some (.int a1), some (.int x27)]) C dX11_mayGoUp_43 rfl (by rw [ex27]; rfl) (by decide) rfl rfl ?_
          refine m_goto (tgt := 13) C dX11_mayGoUp_46 (by decide) ?_
          exact ih13 τ x27 iτ fτ b_a1 (iv_wk b28 (by decide)) v_SC (by have q := hm13; omega)
        · have f29 : x22.toInt = 1 := by
            have q : _ := c24
            simp only [ti_nle, ti_nlt, ti_le, ti_lt, ti_eq, ti_ne, Classical.not_not, kt_1] at q
            omega
          have b30 : IV x22 1 1 := ⟨by have q1 := b23; have q2 := kc_1; omega, by have q1 := b23; have q2 := kc_1; omega⟩
          refine m_aload_n C dX11_mayGoUp_33 rfl rfl ?_
          refine g_0_3 C q1_189 dX11_mayGoUp_34 ?_
          refine g_1_6 C (by decide) q1_90 dX11_mayGoUp_37 ?_
          refine m_iload_n C dX11_mayGoUp_40 rfl rfl ?_
          refine m_iconst (v := 1) C dX11_mayGoUp_41 (by decide) ?_
          refine as_3 C (by decide) b19 (by decide) rfl dX11_mayGoUp_42 ?_
          refine m_tops (fun τ31 eτ31 => ?_)
          have i32 : Inv τ31 := eτ31 ▸ Inv.putF iτ (by decide) rfl
          have f33 : Fr MS_X11_mayGoUpS AS_X11_mayGoUpS σ τ31 := eτ31 ▸ Fr.put (fτ) (Or.inr (by decide))
          have v34 : SFc σ τ31 := v_SC.put eτ31 (Or.inl (by decide))
          obtain ⟨x35, ex35⟩ : ∃ y : Int32, y = y2 + 1 := ⟨_, rfl⟩
          have tx35 : x35.toInt = y2.toInt + 1 := by rw [ex35, ti_addv b19 kc_1 (by decide), kt_1]
          have b36 : IV x35 1 7 := by rw [ex35]; exact iv_add b19 kc_1 (by decide)
          refine m_iinc (v := x35) (L1 := [some (.ref (G.1 0 0)), some (.int a1), some (.int x35)]) C dX11_mayGoUp_43 rfl (by rw [ex35]; rfl) (by decide) rfl rfl ?_
          refine m_goto (tgt := 13) C dX11_mayGoUp_46 (by decide) ?_
          exact ih13 τ31 x35 i32 f33 b_a1 (iv_wk b36 (by decide)) v34 (by have q := hm13; omega)
  refine m_aload_n C dX11_mayGoUp_0 rfl rfl ?_
  refine g_0_3 C q1_189 dX11_mayGoUp_1 ?_
  refine m_aload_n C dX11_mayGoUp_4 rfl rfl ?_
  refine g_0_2 C q1_188 dX11_mayGoUp_5 ?_
  refine m_callV (n := 1) (ci := 7) (st := []) C (c_X8_takeFromS l G σ (j := 1) (by decide) (j2 := 0) (by decide) hI (by omega)) (by decide) (by decide) rfl rfl rfl q3_9 q3_6 q3_7 q3_8 q1_3 (by decide +kernel) rfl (by decide) (by decide) rfl (Nat.le_of_ble_eq_true rfl) dX11_mayGoUp_8 ?_
  rintro _ τ37 ⟨rfl, i38, f39, h43⟩
  have g42 : Fr MS_X11_mayGoUpS AS_X11_mayGoUpS σ τ37 := Fr.call (Fr.rf) f39 (by decide)
  have v44 : SFc σ τ37 := SFc.rf.take h43
  show MW p l e _ s m args below meth c _ 3 G 0 0 11 [some (.ref (G.1 0 0)), some (.int a1), none] [] τ37
  refine m_iconst (v := 0) C dX11_mayGoUp_11 (by decide) ?_
  refine m_istore_n (L1 := [some (.ref (G.1 0 0)), some (.int a1), some (.int 0)]) C dX11_mayGoUp_12 rfl (by decide) rfl rfl ?_
  exact J13 ((7 - (0 : Int32).toInt).toNat + 1) τ37 0 i38 g42 (iv_any a1) (iv_wk kc_0 (by decide)) v44 (Nat.lt_succ_self _)

abbrev MS_X11_mostS : List (Nat × Nat) := [(1, 0), (1, 1), (1, 2), (1, 3), (1, 9), (1, 10), (1, 11)]
abbrev AS_X11_mostS : List Nat := [2, 3, 4, 5, 6]
set_option maxHeartbeats 4000000 in
set_option maxRecDepth 100000 in
theorem c_X11_mostS (l : Launch) (G : Gt) (σ : Sg) (hI : Inv σ) : Mc l G yX11_most cX11_most 6 (some .int) 6 132 0 0 [.ref (G.1 0 0)] σ (PI fun r τ => Inv τ ∧ Fr MS_X11_mostS AS_X11_mostS σ τ ∧ IV r (-1000002) 127 ∧ SFc σ τ) := by
  refine Mc.of (L0 := [some (.ref (G.1 0 0)), none, none, none, none, none]) (by decide) (Nat.le_of_ble_eq_true rfl) rfl ?_
  intro p e s m args below meth c C hr hlk
  have C : Cx p s m args c cX11_most 6 "LeanTower" := C
  have k0 : (0 : Int32).toInt = 0 := by decide
  have k1 : (1 : Int32).toInt = 1 := by decide
  have J29 : ∀ (n : Nat) (τ : Sg) (y1 : Int32) (y2 : Int32) (y3 : Int32) (y4 : Int32), Inv τ → Fr MS_X11_mostS AS_X11_mostS σ τ → IV y1 0 127 → IV y2 (-1000000) 127 → IV y3 (-1) 63 → IV y4 0 128 → (SFc σ τ) → (128 - y4.toInt).toNat < n → MW p l e { frames := 6, cells := 0, slots := 0, locals := 132 } s m args below meth c (MQ below (QP G (PI fun r τ => Inv τ ∧ Fr MS_X11_mostS AS_X11_mostS σ τ ∧ IV r (-1000002) 127 ∧ SFc σ τ)) args s 0 0 (aG G)) 6 G 0 0 29 [some (.ref (G.1 0 0)), some (.int y1), some (.int y2), some (.int y3), some (.int y4), none] [] τ := by
    intro n
    induction n with
    | zero => intro τ y1 y2 y3 y4 iτ fτ b_y1 b_y2 b_y3 b_y4 v_SC hm; exact absurd hm (Nat.not_lt_zero _)
    | succ n ih29 =>
      intro τ y1 y2 y3 y4 iτ fτ b_y1 b_y2 b_y3 b_y4 v_SC hm29
      have J58 : ∀ (τ : Sg) (z0 : Int32), Inv τ → Fr MS_X11_mostS AS_X11_mostS σ τ → IV y1 0 127 → IV y2 (-1000000) 127 → IV y3 (-1) 63 → IV y4 0 127 → IV z0 0 1 → (SFc σ τ) → MW p l e { frames := 6, cells := 0, slots := 0, locals := 132 } s m args below meth c (MQ below (QP G (PI fun r τ => Inv τ ∧ Fr MS_X11_mostS AS_X11_mostS σ τ ∧ IV r (-1000002) 127 ∧ SFc σ τ)) args s 0 0 (aG G)) 6 G 0 0 58 [some (.ref (G.1 0 0)), some (.int y1), some (.int y2), some (.int y3), some (.int y4), none] [.int z0] τ := by
        intro τ z0 iτ fτ b_y1 b_y2 b_y3 b_y4 b_z0 v_SC
        refine m_istore (L1 := [some (.ref (G.1 0 0)), some (.int y1), some (.int y2), some (.int y3), some (.int y4), some (.int z0)]) C dX11_most_58 (by decide) rfl rfl ?_
        refine m_iload C dX11_most_60 rfl ?_
        refine m_if_eq (tgt := 83) C dX11_most_62 (by decide) (fun c1 => ?_) (fun c1 => ?_)
        · have f2 : z0.toInt = 0 := by
            have q : _ := c1
            simp only [ti_nle, ti_nlt, ti_le, ti_lt, ti_eq, ti_ne, Classical.not_not, kt_0] at q
            omega
          have b3 : IV z0 0 0 := ⟨by have q1 := b_z0; have q2 := kc_0; omega, by have q1 := b_z0; have q2 := kc_0; omega⟩
          obtain ⟨x4, ex4⟩ : ∃ y : Int32, y = y4 + 1 := ⟨_, rfl⟩
          have tx4 : x4.toInt = y4.toInt + 1 := by rw [ex4, ti_addv b_y4 kc_1 (by decide), kt_1]
          have b5 : IV x4 1 128 := by rw [ex4]; exact iv_add b_y4 kc_1 (by decide)
          refine m_iinc (v := x4) (L1 := [some (.ref (G.1 0 0)), some (.int y1), some (.int y2), some (.int y3), some (.int x4), some (.int z0)]) C dX11_most_83 rfl (by rw [ex4]; rfl) (by decide) rfl rfl ?_
          refine m_goto (tgt := 29) C dX11_most_86 (by decide) ?_
          refine m_sub (L1 := [some (.ref (G.1 0 0)), some (.int y1), some (.int y2), some (.int y3), some (.int x4), none]) ⟨rfl, ⟨rfl, ⟨rfl, ⟨rfl, ⟨rfl, trivial⟩⟩⟩⟩⟩ ?_
          exact ih29 τ y1 y2 y3 x4 iτ fτ b_y1 b_y2 b_y3 (iv_wk b5 (by decide)) v_SC (by have q := hm29; omega)
        · have f6 : z0.toInt ≠ 0 := by
            have q : _ := c1
            simp only [ti_nle, ti_nlt, ti_le, ti_lt, ti_eq, ti_ne, Classical.not_not, kt_0] at q
            omega
          have b7 : IV z0 1 1 := ⟨by have q1 := b_z0; have q2 := kc_0; omega, by have q1 := b_z0; have q2 := kc_0; omega⟩
          refine m_aload_n C dX11_most_65 rfl rfl ?_
          refine m_iload C dX11_most_66 rfl ?_
          refine m_callV (n := 1) (ci := 10) (st := []) C (c_X11_mayGoUpS l G τ (y4) iτ ) (by decide) (by decide) rfl rfl rfl q3_153 q3_150 q3_152 q0_16 q1_1 (by decide +kernel) rfl (by decide) (by decide) rfl (Nat.le_of_ble_eq_true rfl) dX11_most_68 ?_
          rintro _ τ8 ⟨x11, rfl, i9, f10, b12, h14⟩
          have g13 : Fr MS_X11_mostS AS_X11_mostS σ τ8 := Fr.call (fτ) f10 (by decide)
          have v15 : SFc σ τ8 := v_SC.trans h14
          show MW p l e _ s m args below meth c _ 6 G 0 0 71 [some (.ref (G.1 0 0)), some (.int y1), some (.int y2), some (.int y3), some (.int y4), some (.int z0)] [.int x11] τ8
          refine m_if_eq (tgt := 83) C dX11_most_71 (by decide) (fun c16 => ?_) (fun c16 => ?_)
          · have f17 : x11.toInt = 0 := by
              have q : _ := c16
              simp only [ti_nle, ti_nlt, ti_le, ti_lt, ti_eq, ti_ne, Classical.not_not, kt_0] at q
              omega
            have b18 : IV x11 0 0 := ⟨by have q1 := b12; have q2 := kc_0; omega, by have q1 := b12; have q2 := kc_0; omega⟩
            obtain ⟨x19, ex19⟩ : ∃ y : Int32, y = y4 + 1 := ⟨_, rfl⟩
            have tx19 : x19.toInt = y4.toInt + 1 := by rw [ex19, ti_addv b_y4 kc_1 (by decide), kt_1]
            have b20 : IV x19 1 128 := by rw [ex19]; exact iv_add b_y4 kc_1 (by decide)
            refine m_iinc (v := x19) (L1 := [some (.ref (G.1 0 0)), some (.int y1), some (.int y2), some (.int y3), some (.int x19), some (.int z0)]) C dX11_most_83 rfl (by rw [ex19]; rfl) (by decide) rfl rfl ?_
            refine m_goto (tgt := 29) C dX11_most_86 (by decide) ?_
            refine m_sub (L1 := [some (.ref (G.1 0 0)), some (.int y1), some (.int y2), some (.int y3), some (.int x19), none]) ⟨rfl, ⟨rfl, ⟨rfl, ⟨rfl, ⟨rfl, trivial⟩⟩⟩⟩⟩ ?_
            exact ih29 τ8 y1 y2 y3 x19 i9 g13 b_y1 b_y2 b_y3 (iv_wk b20 (by decide)) v15 (by have q := hm29; omega)
          · have f21 : x11.toInt ≠ 0 := by
              have q : _ := c16
              simp only [ti_nle, ti_nlt, ti_le, ti_lt, ti_eq, ti_ne, Classical.not_not, kt_0] at q
              omega
            have b22 : IV x11 1 1 := ⟨by have q1 := b12; have q2 := kc_0; omega, by have q1 := b12; have q2 := kc_0; omega⟩
            refine m_iload C dX11_most_74 rfl ?_
            refine m_istore_n (L1 := [some (.ref (G.1 0 0)), some (.int y1), some (.int y4), some (.int y3), some (.int y4), some (.int z0)]) C dX11_most_76 rfl (by decide) rfl rfl ?_
            refine m_iload C dX11_most_77 rfl ?_
            refine m_callS (n := 1) (st := []) C (c_J6_bitCount_0f7a4 l G τ8 (y4) i9 ) q3_146 q3_144 q3_145 q1_20 (by decide +kernel) rfl (by decide) (by decide) rfl (Nat.le_of_ble_eq_true rfl) dX11_most_79 ?_
            rintro _ τ23 ⟨x26, rfl, i24, f25, b27⟩
            have g28 : Fr MS_X11_mostS AS_X11_mostS σ τ23 := Fr.call (g13) f25 (by decide)
            have v30 : SFc σ τ23 := v15.fr f25 (by decide) (by decide)
            show MW p l e _ s m args below meth c _ 6 G 0 0 82 [some (.ref (G.1 0 0)), some (.int y1), some (.int y4), some (.int y3), some (.int y4), some (.int z0)] [.int x26] τ23
            refine m_istore_n (L1 := [some (.ref (G.1 0 0)), some (.int y1), some (.int y4), some (.int x26), some (.int y4), some (.int z0)]) C dX11_most_82 rfl (by decide) rfl rfl ?_
            obtain ⟨x31, ex31⟩ : ∃ y : Int32, y = y4 + 1 := ⟨_, rfl⟩
            have tx31 : x31.toInt = y4.toInt + 1 := by rw [ex31, ti_addv b_y4 kc_1 (by decide), kt_1]
            have b32 : IV x31 1 128 := by rw [ex31]; exact iv_add b_y4 kc_1 (by decide)
            refine m_iinc (v := x31) (L1 := [some (.ref (G.1 0 0)), some (.int y1), some (.int y4), some (.int x26), some (.int x31), some (.int z0)]) C dX11_most_83 rfl (by rw [ex31]; rfl) (by decide) rfl rfl ?_
            refine m_goto (tgt := 29) C dX11_most_86 (by decide) ?_
            refine m_sub (L1 := [some (.ref (G.1 0 0)), some (.int y1), some (.int y4), some (.int x26), some (.int x31), none]) ⟨rfl, ⟨rfl, ⟨rfl, ⟨rfl, ⟨rfl, trivial⟩⟩⟩⟩⟩ ?_
            exact ih29 τ23 y1 y4 x26 x31 i24 g28 b_y1 (iv_wk b_y4 (by decide)) (iv_wk b27 (by decide)) (iv_wk b32 (by decide)) v30 (by have q := hm29; omega)
      refine m_iload C dX11_most_29 rfl ?_
      refine m_iload_n C dX11_most_31 rfl rfl ?_
      refine m_icmp_gt (tgt := 89) C dX11_most_32 (by decide) (fun c33 => ?_) (fun c33 => ?_)
      · have f34 : y1.toInt < y4.toInt := by
          have q : _ := c33
          simp only [ti_nle, ti_nlt, ti_le, ti_lt, ti_eq, ti_ne, Classical.not_not] at q
          omega
        have b35 : IV y4 1 128 := ⟨by have q1 := b_y1; have q2 := b_y4; omega, by have q1 := b_y1; have q2 := b_y4; omega⟩
        refine m_iload_n C dX11_most_89 rfl rfl ?_
        exact m_iret C hr hlk (by decide) (by decide) dX11_most_90 ⟨_, rfl, iτ, fτ, (iv_wk b_y2 (by decide)), v_SC⟩
      · have f36 : y4.toInt ≤ y1.toInt := by
          have q : _ := c33
          simp only [ti_nle, ti_nlt, ti_le, ti_lt, ti_eq, ti_ne, Classical.not_not] at q
          omega
        have b37 : IV y4 0 127 := ⟨by have q1 := b_y4; have q2 := b_y1; omega, by have q1 := b_y4; have q2 := b_y1; omega⟩
        refine m_iload C dX11_most_35 rfl ?_
        refine m_iload_n C dX11_most_37 rfl rfl ?_
        refine m_iconst (v := (-1)) C dX11_most_38 (by decide) ?_
        refine m_ixor C dX11_most_39 ?_
        refine m_topi (fun x38 ex38 => ?_)
        refine m_iand C dX11_most_40 ?_
        refine m_topi (fun x39 ex39 => ?_)
        have b40 : IV x39 0 127 := by rw [ex39]; exact iv_and_l b37 (by decide)
        refine m_if_ne (tgt := 57) C dX11_most_41 (by decide) (fun c41 => ?_) (fun c41 => ?_)
        · have f42 : x39.toInt ≠ 0 := by
            have q : _ := c41
            simp only [ti_nle, ti_nlt, ti_le, ti_lt, ti_eq, ti_ne, Classical.not_not, kt_0] at q
            omega
          have b43 : IV x39 1 127 := ⟨by have q1 := b40; have q2 := kc_0; omega, by have q1 := b40; have q2 := kc_0; omega⟩
          refine m_iconst (v := 0) C dX11_most_57 (by decide) ?_
          exact J58 τ 0 iτ fτ b_y1 b_y2 b_y3 b37 (iv_wk kc_0 (by decide)) v_SC
        · have f44 : x39.toInt = 0 := by
            have q : _ := c41
            simp only [ti_nle, ti_nlt, ti_le, ti_lt, ti_eq, ti_ne, Classical.not_not, kt_0] at q
            omega
          have b45 : IV x39 0 0 := ⟨by have q1 := b40; have q2 := kc_0; omega, by have q1 := b40; have q2 := kc_0; omega⟩
          refine m_iload C dX11_most_44 rfl ?_
          refine m_callS (n := 1) (st := []) C (c_J6_bitCount_0f7a4 l G τ (y4) iτ ) q3_146 q3_144 q3_145 q1_20 (by decide +kernel) rfl (by decide) (by decide) rfl (Nat.le_of_ble_eq_true rfl) dX11_most_46 ?_
          rintro _ τ46 ⟨x49, rfl, i47, f48, b50⟩
          have g51 : Fr MS_X11_mostS AS_X11_mostS σ τ46 := Fr.call (fτ) f48 (by decide)
          have v53 : SFc σ τ46 := v_SC.fr f48 (by decide) (by decide)
          show MW p l e _ s m args below meth c _ 6 G 0 0 49 [some (.ref (G.1 0 0)), some (.int y1), some (.int y2), some (.int y3), some (.int y4), none] [.int x49] τ46
          refine m_iload_n C dX11_most_49 rfl rfl ?_
          refine m_icmp_le (tgt := 57) C dX11_most_50 (by decide) (fun c54 => ?_) (fun c54 => ?_)
          · have f55 : x49.toInt ≤ y3.toInt := by
              have q : _ := c54
              simp only [ti_nle, ti_nlt, ti_le, ti_lt, ti_eq, ti_ne, Classical.not_not] at q
              omega
            have b56 : IV y3 0 63 := ⟨by have q1 := b50; have q2 := b_y3; omega, by have q1 := b50; have q2 := b_y3; omega⟩
            refine m_iconst (v := 0) C dX11_most_57 (by decide) ?_
            exact J58 τ46 0 i47 g51 b_y1 b_y2 (iv_wk b56 (by decide)) b37 (iv_wk kc_0 (by decide)) v53
          · have f57 : y3.toInt < x49.toInt := by
              have q : _ := c54
              simp only [ti_nle, ti_nlt, ti_le, ti_lt, ti_eq, ti_ne, Classical.not_not] at q
              omega
            have b58 : IV y3 (-1) 62 := ⟨by have q1 := b_y3; have q2 := b50; omega, by have q1 := b_y3; have q2 := b50; omega⟩
            refine m_iconst (v := 1) C dX11_most_53 (by decide) ?_
            refine m_goto (tgt := 58) C dX11_most_54 (by decide) ?_
            exact J58 τ46 1 i47 g51 b_y1 b_y2 (iv_wk b58 (by decide)) b37 (iv_wk kc_1 (by decide)) v53
  refine m_aload_n C dX11_most_0 rfl rfl ?_
  refine g_0_2 C q1_188 dX11_most_1 ?_
  refine m_callV (n := 0) (ci := 7) (st := []) C (c_X8_stands l G σ (j := 0) (by decide)  hI ) (by decide) (by decide) rfl rfl rfl q3_41 q3_38 q3_39 q3_40 q1_3 (by decide +kernel) rfl (by decide) (by decide) rfl (Nat.le_of_ble_eq_true rfl) dX11_most_4 ?_
  rintro _ τ59 ⟨x62, rfl, i60, f61, b63⟩
  have g64 : Fr MS_X11_mostS AS_X11_mostS σ τ59 := Fr.call (Fr.rf) f61 (by decide)
  have v66 : SFc σ τ59 := SFc.rf.fr f61 (by decide) (by decide)
  show MW p l e _ s m args below meth c _ 6 G 0 0 7 [some (.ref (G.1 0 0)), none, none, none, none, none] [.int x62] τ59
  refine m_if_ne (tgt := 13) C dX11_most_7 (by decide) (fun c67 => ?_) (fun c67 => ?_)
  · have f68 : x62.toInt ≠ 0 := by
      have q : _ := c67
      simp only [ti_nle, ti_nlt, ti_le, ti_lt, ti_eq, ti_ne, Classical.not_not, kt_0] at q
      omega
    have b69 : IV x62 1 1 := ⟨by have q1 := b63; have q2 := kc_0; omega, by have q1 := b63; have q2 := kc_0; omega⟩
    refine m_aload_n C dX11_most_13 rfl rfl ?_
    refine g_0_2 C q1_188 dX11_most_14 ?_
    refine m_callV (n := 0) (ci := 7) (st := []) C (c_X8_outsideSet l G τ59 (j := 0) (by decide)  i60 ) (by decide) (by decide) rfl rfl rfl q3_143 q3_140 q3_141 q3_142 q1_3 (by decide +kernel) rfl (by decide) (by decide) rfl (Nat.le_of_ble_eq_true rfl) dX11_most_17 ?_
    rintro _ τ70 ⟨x73, rfl, i71, f72, b74⟩
    have g75 : Fr MS_X11_mostS AS_X11_mostS σ τ70 := Fr.call (g64) f72 (by decide)
    have v77 : SFc σ τ70 := v66.fr f72 (by decide) (by decide)
    show MW p l e _ s m args below meth c _ 6 G 0 0 20 [some (.ref (G.1 0 0)), none, none, none, none, none] [.int x73] τ70
    refine m_istore_n (L1 := [some (.ref (G.1 0 0)), some (.int x73), none, none, none, none]) C dX11_most_20 rfl (by decide) rfl rfl ?_
    refine m_ldc (v := (-1000000)) C dX11_most_21 q3_43 ?_
    refine m_istore_n (L1 := [some (.ref (G.1 0 0)), some (.int x73), some (.int (-1000000)), none, none, none]) C dX11_most_23 rfl (by decide) rfl rfl ?_
    refine m_iconst (v := (-1)) C dX11_most_24 (by decide) ?_
    refine m_istore_n (L1 := [some (.ref (G.1 0 0)), some (.int x73), some (.int (-1000000)), some (.int (-1)), none, none]) C dX11_most_25 rfl (by decide) rfl rfl ?_
    refine m_iconst (v := 0) C dX11_most_26 (by decide) ?_
    refine m_istore (L1 := [some (.ref (G.1 0 0)), some (.int x73), some (.int (-1000000)), some (.int (-1)), some (.int 0), none]) C dX11_most_27 (by decide) rfl rfl ?_
    exact J29 ((128 - (0 : Int32).toInt).toNat + 1) τ70 x73 (-1000000) (-1) 0 i71 g75 b74 (iv_wk kc_m1000000 (by decide)) (iv_wk kc_m1 (by decide)) (iv_wk kc_0 (by decide)) v77 (Nat.lt_succ_self _)
  · have f78 : x62.toInt = 0 := by
      have q : _ := c67
      simp only [ti_nle, ti_nlt, ti_le, ti_lt, ti_eq, ti_ne, Classical.not_not, kt_0] at q
      omega
    have b79 : IV x62 0 0 := ⟨by have q1 := b63; have q2 := kc_0; omega, by have q1 := b63; have q2 := kc_0; omega⟩
    refine m_ldc (v := (-1000002)) C dX11_most_10 q3_42 ?_
    exact m_iret C hr hlk (by decide) (by decide) dX11_most_12 ⟨_, rfl, i60, g64, (iv_wk kc_m1000002 (by decide)), v66⟩

abbrev MS_X11_worstOfTwoS : List (Nat × Nat) := [(1, 0), (1, 1), (1, 2), (1, 3), (1, 9), (1, 10), (1, 11)]
abbrev AS_X11_worstOfTwoS : List Nat := [2, 3, 4, 5, 6]
set_option maxHeartbeats 4000000 in
set_option maxRecDepth 100000 in
theorem c_X11_worstOfTwoS (l : Launch) (G : Gt) (σ : Sg) (a1 : Int32) (a2 : Int32) (a3 : Int32) (hI : Inv σ) (ha1 : IV a1 0 6) (ha2 : IV a2 0 6) (ha3 : IV a3 0 9) : Mc l G yX11_worstOfTwo cX11_worstOfTwo 5 (some .int) 4 109 0 0 [.ref (G.1 0 0), .int a1, .int a2, .int a3] σ (PI fun r τ => Inv τ ∧ Fr MS_X11_worstOfTwoS AS_X11_worstOfTwoS σ τ ∧ IV r (-2147483648) 2147483647 ∧ SFc σ τ) := by
  refine Mc.of (L0 := [some (.ref (G.1 0 0)), some (.int a1), some (.int a2), some (.int a3), none]) (by decide) (Nat.le_of_ble_eq_true rfl) rfl ?_
  intro p e s m args below meth c C hr hlk
  have C : Cx p s m args c cX11_worstOfTwo 5 "LeanTower" := C
  have k0 : (0 : Int32).toInt = 0 := by decide
  have k1 : (1 : Int32).toInt = 1 := by decide
  refine m_aload_n C dX11_worstOfTwo_0 rfl rfl ?_
  refine g_0_3 C q1_189 dX11_worstOfTwo_1 ?_
  refine m_aload_n C dX11_worstOfTwo_4 rfl rfl ?_
  refine g_0_2 C q1_188 dX11_worstOfTwo_5 ?_
  refine m_callV (n := 1) (ci := 7) (st := []) C (c_X8_takeFromS l G σ (j := 1) (by decide) (j2 := 0) (by decide) hI (by omega)) (by decide) (by decide) rfl rfl rfl q3_9 q3_6 q3_7 q3_8 q1_3 (by decide +kernel) rfl (by decide) (by decide) rfl (Nat.le_of_ble_eq_true rfl) dX11_worstOfTwo_8 ?_
  rintro _ τ1 ⟨rfl, i2, f3, h7⟩
  have g6 : Fr MS_X11_worstOfTwoS AS_X11_worstOfTwoS σ τ1 := Fr.call (Fr.rf) f3 (by decide)
  have v8 : SFc σ τ1 := SFc.rf.take h7
  show MW p l e _ s m args below meth c _ 5 G 0 0 11 [some (.ref (G.1 0 0)), some (.int a1), some (.int a2), some (.int a3), none] [] τ1
  refine m_aload_n C dX11_worstOfTwo_11 rfl rfl ?_
  refine g_0_3 C q1_189 dX11_worstOfTwo_12 ?_
  refine g_1_6 C (by decide) q1_90 dX11_worstOfTwo_15 ?_
  refine m_iload_n C dX11_worstOfTwo_18 rfl rfl ?_
  refine m_iconst (v := 1) C dX11_worstOfTwo_19 (by decide) ?_
  refine as_3 C (by decide) ha1 (by decide) rfl dX11_worstOfTwo_20 ?_
  refine m_tops (fun τ9 eτ9 => ?_)
  have i10 : Inv τ9 := eτ9 ▸ Inv.putF i2 (by decide) rfl
  have f11 : Fr MS_X11_worstOfTwoS AS_X11_worstOfTwoS σ τ9 := eτ9 ▸ Fr.put (g6) (Or.inr (by decide))
  have v12 : SFc σ τ9 := v8.put eτ9 (Or.inl (by decide))
  refine m_aload_n C dX11_worstOfTwo_21 rfl rfl ?_
  refine g_0_3 C q1_189 dX11_worstOfTwo_22 ?_
  refine g_1_6 C (by decide) q1_90 dX11_worstOfTwo_25 ?_
  refine m_iload_n C dX11_worstOfTwo_28 rfl rfl ?_
  refine m_iconst (v := 0) C dX11_worstOfTwo_29 (by decide) ?_
  refine as_3 C (by decide) ha2 (by decide) rfl dX11_worstOfTwo_30 ?_
  refine m_tops (fun τ13 eτ13 => ?_)
  have i14 : Inv τ13 := eτ13 ▸ Inv.putF i10 (by decide) rfl
  have f15 : Fr MS_X11_worstOfTwoS AS_X11_worstOfTwoS σ τ13 := eτ13 ▸ Fr.put (f11) (Or.inr (by decide))
  have v16 : SFc σ τ13 := v12.put eτ13 (Or.inl (by decide))
  refine m_aload_n C dX11_worstOfTwo_31 rfl rfl ?_
  refine g_0_3 C q1_189 dX11_worstOfTwo_32 ?_
  refine m_iload_n C dX11_worstOfTwo_35 rfl rfl ?_
  refine m_callV (n := 1) (ci := 7) (st := []) C (c_X8_worstOver l G τ13 (j := 1) (by decide) (a3) i14 (iv_wk ha3 (by decide))) (by decide) (by decide) rfl rfl rfl q3_129 q3_126 q3_127 q3_128 q1_3 (by decide +kernel) rfl (by decide) (by decide) rfl (Nat.le_of_ble_eq_true rfl) dX11_worstOfTwo_36 ?_
  rintro _ τ17 ⟨x20, rfl, i18, f19, b21⟩
  have g22 : Fr MS_X11_worstOfTwoS AS_X11_worstOfTwoS σ τ17 := Fr.call (f15) f19 (by decide)
  have v24 : SFc σ τ17 := v16.fr f19 (by decide) (by decide)
  show MW p l e _ s m args below meth c _ 5 G 0 0 39 [some (.ref (G.1 0 0)), some (.int a1), some (.int a2), some (.int a3), none] [.int x20] τ17
  refine m_istore (L1 := [some (.ref (G.1 0 0)), some (.int a1), some (.int a2), some (.int a3), some (.int x20)]) C dX11_worstOfTwo_39 (by decide) rfl rfl ?_
  refine m_aload_n C dX11_worstOfTwo_41 rfl rfl ?_
  refine g_0_3 C q1_189 dX11_worstOfTwo_42 ?_
  refine g_1_6 C (by decide) q1_90 dX11_worstOfTwo_45 ?_
  refine m_iload_n C dX11_worstOfTwo_48 rfl rfl ?_
  refine m_iconst (v := 1) C dX11_worstOfTwo_49 (by decide) ?_
  refine as_3 C (by decide) ha2 (by decide) rfl dX11_worstOfTwo_50 ?_
  refine m_tops (fun τ25 eτ25 => ?_)
  have i26 : Inv τ25 := eτ25 ▸ Inv.putF i18 (by decide) rfl
  have f27 : Fr MS_X11_worstOfTwoS AS_X11_worstOfTwoS σ τ25 := eτ25 ▸ Fr.put (g22) (Or.inr (by decide))
  have v28 : SFc σ τ25 := v24.put eτ25 (Or.inl (by decide))
  refine m_iload C dX11_worstOfTwo_51 rfl ?_
  refine m_aload_n C dX11_worstOfTwo_53 rfl rfl ?_
  refine g_0_3 C q1_189 dX11_worstOfTwo_54 ?_
  refine m_bipush (v := 64) C dX11_worstOfTwo_57 (by decide) ?_
  refine m_iload_n C dX11_worstOfTwo_59 rfl rfl ?_
  refine m_isub C dX11_worstOfTwo_60 ?_
  refine m_topi (fun x29 ex29 => ?_)
  have tx29 : x29.toInt = 64 - a3.toInt := by rw [ex29, ti_subv kc_64 ha3 (by decide), kt_64]
  have b30 : IV x29 55 64 := by rw [ex29]; exact iv_sub kc_64 ha3 (by decide)
  refine m_callV (n := 1) (ci := 7) (st := [.int x20]) C (c_X8_worstOver l G τ25 (j := 1) (by decide) (x29) i26 (iv_wk b30 (by decide))) (by decide) (by decide) rfl rfl rfl q3_129 q3_126 q3_127 q3_128 q1_3 (by decide +kernel) rfl (by decide) (by decide) rfl (Nat.le_of_ble_eq_true rfl) dX11_worstOfTwo_61 ?_
  rintro _ τ31 ⟨x34, rfl, i32, f33, b35⟩
  have g36 : Fr MS_X11_worstOfTwoS AS_X11_worstOfTwoS σ τ31 := Fr.call (f27) f33 (by decide)
  have v38 : SFc σ τ31 := v28.fr f33 (by decide) (by decide)
  show MW p l e _ s m args below meth c _ 5 G 0 0 64 [some (.ref (G.1 0 0)), some (.int a1), some (.int a2), some (.int a3), some (.int x20)] [.int x34, .int x20] τ31
  refine m_max (st := []) C q3_166 q3_92 q1_19 q3_93 ⟨by decide, Nat.le_of_ble_eq_true rfl⟩ (by decide) dX11_worstOfTwo_64 (fun x39 ex39 => ?_)
  have tx39 : x39.toInt = max (x20.toInt) (x34.toInt) := by rw [ti_max ex39]
  exact m_iret C hr hlk (by decide) (by decide) dX11_worstOfTwo_67 ⟨_, rfl, i32, g36, (iv_any x39), v38⟩

abbrev MS_X11_twoS : List (Nat × Nat) := [(1, 0), (1, 1), (1, 2), (1, 3), (1, 9), (1, 10), (1, 11)]
abbrev AS_X11_twoS : List Nat := [2, 3, 4, 5, 6]
set_option maxHeartbeats 4000000 in
set_option maxRecDepth 100000 in
theorem c_X11_twoS (l : Launch) (G : Gt) (σ : Sg) (a1 : Int32) (a2 : Int32) (a3 : Int32) (hI : Inv σ) : Mc l G yX11_two cX11_two 8 (some .int) 5 133 0 0 [.ref (G.1 0 0), .int a1, .int a2, .int a3] σ (PI fun r τ => Inv τ ∧ Fr MS_X11_twoS AS_X11_twoS σ τ ∧ IV r (-2147483648) 2147483647 ∧ SFc σ τ) := by
  refine Mc.of (L0 := [some (.ref (G.1 0 0)), some (.int a1), some (.int a2), some (.int a3), none, none, none, none]) (by decide) (Nat.le_of_ble_eq_true rfl) rfl ?_
  intro p e s m args below meth c C hr hlk
  have C : Cx p s m args c cX11_two 8 "LeanTower" := C
  have k0 : (0 : Int32).toInt = 0 := by decide
  have k1 : (1 : Int32).toInt = 1 := by decide
  have J54 : ∀ (n : Nat) (τ : Sg) (y4 : Int32) (y5 : Int32) (y6 : Int32), Inv τ → Fr MS_X11_twoS AS_X11_twoS σ τ → IV a1 0 6 → IV a2 0 6 → IV a3 0 1 → IV y4 0 16 → IV y5 (-2147483648) 2147483647 → IV y6 1 10 → (SFc σ τ) → (10 - y6.toInt).toNat < n → MW p l e { frames := 5, cells := 0, slots := 0, locals := 133 } s m args below meth c (MQ below (QP G (PI fun r τ => Inv τ ∧ Fr MS_X11_twoS AS_X11_twoS σ τ ∧ IV r (-2147483648) 2147483647 ∧ SFc σ τ)) args s 0 0 (aG G)) 8 G 0 0 54 [some (.ref (G.1 0 0)), some (.int a1), some (.int a2), some (.int a3), some (.int y4), some (.int y5), some (.int y6), none] [] τ := by
    intro n
    induction n with
    | zero => intro τ y4 y5 y6 iτ fτ b_a1 b_a2 b_a3 b_y4 b_y5 b_y6 v_SC hm; exact absurd hm (Nat.not_lt_zero _)
    | succ n ih54 =>
      intro τ y4 y5 y6 iτ fτ b_a1 b_a2 b_a3 b_y4 b_y5 b_y6 v_SC hm54
      refine m_iload C dX11_two_54 rfl ?_
      refine m_bipush (v := 9) C dX11_two_56 (by decide) ?_
      refine m_icmp_gt (tgt := 92) C dX11_two_58 (by decide) (fun c1 => ?_) (fun c1 => ?_)
      · have f2 : 9 < y6.toInt := by
          have q : _ := c1
          simp only [ti_nle, ti_nlt, ti_le, ti_lt, ti_eq, ti_ne, Classical.not_not, kt_9] at q
          omega
        have b3 : IV y6 10 10 := ⟨by have q1 := kc_9; have q2 := b_y6; omega, by have q1 := kc_9; have q2 := b_y6; omega⟩
        refine m_iload_n C dX11_two_92 rfl rfl ?_
        refine m_if_ne (tgt := 101) C dX11_two_93 (by decide) (fun c4 => ?_) (fun c4 => ?_)
        · have f5 : a3.toInt ≠ 0 := by
            have q : _ := c4
            simp only [ti_nle, ti_nlt, ti_le, ti_lt, ti_eq, ti_ne, Classical.not_not, kt_0] at q
            omega
          have b6 : IV a3 1 1 := ⟨by have q1 := b_a3; have q2 := kc_0; omega, by have q1 := b_a3; have q2 := kc_0; omega⟩
          refine m_iload C dX11_two_101 rfl ?_
          exact m_iret C hr hlk (by decide) (by decide) dX11_two_103 ⟨_, rfl, iτ, fτ, b_y5, v_SC⟩
        · have f7 : a3.toInt = 0 := by
            have q : _ := c4
            simp only [ti_nle, ti_nlt, ti_le, ti_lt, ti_eq, ti_ne, Classical.not_not, kt_0] at q
            omega
          have b8 : IV a3 0 0 := ⟨by have q1 := b_a3; have q2 := kc_0; omega, by have q1 := b_a3; have q2 := kc_0; omega⟩
          refine m_iload C dX11_two_96 rfl ?_
          refine m_goto (tgt := 103) C dX11_two_98 (by decide) ?_
          exact m_iret C hr hlk (by decide) (by decide) dX11_two_103 ⟨_, rfl, iτ, fτ, (iv_wk b_y4 (by decide)), v_SC⟩
      · have f9 : y6.toInt ≤ 9 := by
          have q : _ := c1
          simp only [ti_nle, ti_nlt, ti_le, ti_lt, ti_eq, ti_ne, Classical.not_not, kt_9] at q
          omega
        have b10 : IV y6 1 9 := ⟨by have q1 := b_y6; have q2 := kc_9; omega, by have q1 := b_y6; have q2 := kc_9; omega⟩
        refine m_aload_n C dX11_two_61 rfl rfl ?_
        refine m_iload_n C dX11_two_62 rfl rfl ?_
        refine m_iload_n C dX11_two_63 rfl rfl ?_
        refine m_iload C dX11_two_64 rfl ?_
        refine m_callV (n := 3) (ci := 10) (st := []) C (c_X11_worstOfTwoS l G τ (a1) (a2) (y6) iτ b_a1 b_a2 (iv_wk b10 (by decide))) (by decide) (by decide) rfl rfl rfl q3_165 q3_162 q3_164 q0_17 q1_1 (by decide +kernel) rfl (by decide) (by decide) rfl (Nat.le_of_ble_eq_true rfl) dX11_two_66 ?_
        rintro _ τ11 ⟨x14, rfl, i12, f13, b15, h17⟩
        have g16 : Fr MS_X11_twoS AS_X11_twoS σ τ11 := Fr.call (fτ) f13 (by decide)
        have v18 : SFc σ τ11 := v_SC.trans h17
        show MW p l e _ s m args below meth c _ 8 G 0 0 69 [some (.ref (G.1 0 0)), some (.int a1), some (.int a2), some (.int a3), some (.int y4), some (.int y5), some (.int y6), none] [.int x14] τ11
        refine m_istore (L1 := [some (.ref (G.1 0 0)), some (.int a1), some (.int a2), some (.int a3), some (.int y4), some (.int y5), some (.int y6), some (.int x14)]) C dX11_two_69 (by decide) rfl rfl ?_
        refine m_iload C dX11_two_71 rfl ?_
        refine m_iload C dX11_two_73 rfl ?_
        refine m_icmp_ge (tgt := 86) C dX11_two_75 (by decide) (fun c19 => ?_) (fun c19 => ?_)
        · have f20 : y5.toInt ≤ x14.toInt := by
            have q : _ := c19
            simp only [ti_nle, ti_nlt, ti_le, ti_lt, ti_eq, ti_ne, Classical.not_not] at q
            omega
          obtain ⟨x21, ex21⟩ : ∃ y : Int32, y = y6 + 1 := ⟨_, rfl⟩
          have tx21 : x21.toInt = y6.toInt + 1 := by rw [ex21, ti_addv b10 kc_1 (by decide), kt_1]
          have b22 : IV x21 2 10 := by rw [ex21]; exact iv_add b10 kc_1 (by decide)
          refine m_iinc (v := x21) (L1 := [some (.ref (G.1 0 0)), some (.int a1), some (.int a2), some (.int a3), some (.int y4), some (.int y5), some (.int x21), some (.int x14)]) C dX11_two_86 rfl (by rw [ex21]; rfl) (by decide) rfl rfl ?_
          refine m_goto (tgt := 54) C dX11_two_89 (by decide) ?_
          refine m_sub (L1 := [some (.ref (G.1 0 0)), some (.int a1), some (.int a2), some (.int a3), some (.int y4), some (.int y5), some (.int x21), none]) ⟨rfl, ⟨rfl, ⟨rfl, ⟨rfl, ⟨rfl, ⟨rfl, ⟨rfl, trivial⟩⟩⟩⟩⟩⟩⟩ ?_
          exact ih54 τ11 y4 y5 x21 i12 g16 b_a1 b_a2 b_a3 b_y4 b_y5 (iv_wk b22 (by decide)) v18 (by have q := hm54; omega)
        · have f23 : x14.toInt < y5.toInt := by
            have q : _ := c19
            simp only [ti_nle, ti_nlt, ti_le, ti_lt, ti_eq, ti_ne, Classical.not_not] at q
            omega
          have b24 : IV x14 (-2147483648) 2147483646 := ⟨by have q1 := b15; have q2 := b_y5; omega, by have q1 := b15; have q2 := b_y5; omega⟩
          have b25 : IV y5 (-2147483647) 2147483647 := ⟨by have q1 := b15; have q2 := b_y5; omega, by have q1 := b15; have q2 := b_y5; omega⟩
          refine m_iload C dX11_two_78 rfl ?_
          refine m_istore (L1 := [some (.ref (G.1 0 0)), some (.int a1), some (.int a2), some (.int a3), some (.int y4), some (.int x14), some (.int y6), some (.int x14)]) C dX11_two_80 (by decide) rfl rfl ?_
          refine m_iload C dX11_two_82 rfl ?_
          refine m_istore (L1 := [some (.ref (G.1 0 0)), some (.int a1), some (.int a2), some (.int a3), some (.int y6), some (.int x14), some (.int y6), some (.int x14)]) C dX11_two_84 (by decide) rfl rfl ?_
          obtain ⟨x26, ex26⟩ : ∃ y : Int32, y = y6 + 1 := ⟨_, rfl⟩
          have tx26 : x26.toInt = y6.toInt + 1 := by rw [ex26, ti_addv b10 kc_1 (by decide), kt_1]
          have b27 : IV x26 2 10 := by rw [ex26]; exact iv_add b10 kc_1 (by decide)
          refine m_iinc (v := x26) (L1 := [some (.ref (G.1 0 0)), some (.int a1), some (.int a2), some (.int a3), some (.int y6), some (.int x14), some (.int x26), some (.int x14)]) C dX11_two_86 rfl (by rw [ex26]; rfl) (by decide) rfl rfl ?_
          refine m_goto (tgt := 54) C dX11_two_89 (by decide) ?_
          refine m_sub (L1 := [some (.ref (G.1 0 0)), some (.int a1), some (.int a2), some (.int a3), some (.int y6), some (.int x14), some (.int x26), none]) ⟨rfl, ⟨rfl, ⟨rfl, ⟨rfl, ⟨rfl, ⟨rfl, ⟨rfl, trivial⟩⟩⟩⟩⟩⟩⟩ ?_
          exact ih54 τ11 y6 x14 x26 i12 g16 b_a1 b_a2 b_a3 (iv_wk b10 (by decide)) (iv_wk b24 (by decide)) (iv_wk b27 (by decide)) v18 (by have q := hm54; omega)
  refine m_aload_n C dX11_two_0 rfl rfl ?_
  refine g_0_2 C q1_188 dX11_two_1 ?_
  refine m_iload_n C dX11_two_4 rfl rfl ?_
  refine m_callV (n := 1) (ci := 7) (st := []) C (c_X8_isOutside l G σ (j := 0) (by decide) (a1) hI ) (by decide) (by decide) rfl rfl rfl q3_161 q3_158 q3_159 q3_160 q1_3 (by decide +kernel) rfl (by decide) (by decide) rfl (Nat.le_of_ble_eq_true rfl) dX11_two_5 ?_
  rintro _ τ28 ⟨x31, rfl, i29, f30, b32, h34⟩
  have g33 : Fr MS_X11_twoS AS_X11_twoS σ τ28 := Fr.call (Fr.rf) f30 (by decide)
  have v35 : SFc σ τ28 := SFc.rf.fr f30 (by decide) (by decide)
  show MW p l e _ s m args below meth c _ 8 G 0 0 8 [some (.ref (G.1 0 0)), some (.int a1), some (.int a2), some (.int a3), none, none, none, none] [.int x31] τ28
  refine m_if_eq (tgt := 36) C dX11_two_8 (by decide) (fun c36 => ?_) (fun c36 => ?_)
  · have f37 : x31.toInt = 0 := by
      have q : _ := c36
      simp only [ti_nle, ti_nlt, ti_le, ti_lt, ti_eq, ti_ne, Classical.not_not, kt_0] at q
      omega
    have b38 : IV x31 0 0 := ⟨by have q1 := b32; have q2 := kc_0; omega, by have q1 := b32; have q2 := kc_0; omega⟩
    refine m_ldc (v := (-1000001)) C dX11_two_36 q1_234 ?_
    exact m_iret C hr hlk (by decide) (by decide) dX11_two_38 ⟨_, rfl, i29, g33, (iv_wk kc_m1000001 (by decide)), v35⟩
  · have f39 : x31.toInt ≠ 0 := by
      have q : _ := c36
      simp only [ti_nle, ti_nlt, ti_le, ti_lt, ti_eq, ti_ne, Classical.not_not, kt_0] at q
      omega
    have b40 : IV x31 1 1 := ⟨by have q1 := b32; have q2 := kc_0; omega, by have q1 := b32; have q2 := kc_0; omega⟩
    have b41 : IV a1 0 6 := ⟨by have q1 := (iv_any a1); omega, by have q1 := (iv_any a1); omega⟩
    refine m_aload_n C dX11_two_11 rfl rfl ?_
    refine g_0_2 C q1_188 dX11_two_12 ?_
    refine m_iload_n C dX11_two_15 rfl rfl ?_
    refine m_callV (n := 1) (ci := 7) (st := []) C (c_X8_isOutside l G τ28 (j := 0) (by decide) (a2) i29 ) (by decide) (by decide) rfl rfl rfl q3_161 q3_158 q3_159 q3_160 q1_3 (by decide +kernel) rfl (by decide) (by decide) rfl (Nat.le_of_ble_eq_true rfl) dX11_two_16 ?_
    rintro _ τ42 ⟨x45, rfl, i43, f44, b46, h48⟩
    have g47 : Fr MS_X11_twoS AS_X11_twoS σ τ42 := Fr.call (g33) f44 (by decide)
    have v49 : SFc σ τ42 := v35.fr f44 (by decide) (by decide)
    show MW p l e _ s m args below meth c _ 8 G 0 0 19 [some (.ref (G.1 0 0)), some (.int a1), some (.int a2), some (.int a3), none, none, none, none] [.int x45] τ42
    refine m_if_eq (tgt := 36) C dX11_two_19 (by decide) (fun c50 => ?_) (fun c50 => ?_)
    · have f51 : x45.toInt = 0 := by
        have q : _ := c50
        simp only [ti_nle, ti_nlt, ti_le, ti_lt, ti_eq, ti_ne, Classical.not_not, kt_0] at q
        omega
      have b52 : IV x45 0 0 := ⟨by have q1 := b46; have q2 := kc_0; omega, by have q1 := b46; have q2 := kc_0; omega⟩
      refine m_ldc (v := (-1000001)) C dX11_two_36 q1_234 ?_
      exact m_iret C hr hlk (by decide) (by decide) dX11_two_38 ⟨_, rfl, i43, g47, (iv_wk kc_m1000001 (by decide)), v49⟩
    · have f53 : x45.toInt ≠ 0 := by
        have q : _ := c50
        simp only [ti_nle, ti_nlt, ti_le, ti_lt, ti_eq, ti_ne, Classical.not_not, kt_0] at q
        omega
      have b54 : IV x45 1 1 := ⟨by have q1 := b46; have q2 := kc_0; omega, by have q1 := b46; have q2 := kc_0; omega⟩
      have b55 : IV a2 0 6 := ⟨by have q1 := (iv_any a2); omega, by have q1 := (iv_any a2); omega⟩
      refine m_iload_n C dX11_two_22 rfl rfl ?_
      refine m_iload_n C dX11_two_23 rfl rfl ?_
      refine m_icmp_eq (tgt := 36) C dX11_two_24 (by decide) (fun c56 => ?_) (fun c56 => ?_)
      · have f57 : a1.toInt = a2.toInt := by
          have q : _ := c56
          simp only [ti_nle, ti_nlt, ti_le, ti_lt, ti_eq, ti_ne, Classical.not_not] at q
          omega
        refine m_ldc (v := (-1000001)) C dX11_two_36 q1_234 ?_
        exact m_iret C hr hlk (by decide) (by decide) dX11_two_38 ⟨_, rfl, i43, g47, (iv_wk kc_m1000001 (by decide)), v49⟩
      · have f58 : a1.toInt ≠ a2.toInt := by
          have q : _ := c56
          simp only [ti_nle, ti_nlt, ti_le, ti_lt, ti_eq, ti_ne, Classical.not_not] at q
          omega
        refine m_iload_n C dX11_two_27 rfl rfl ?_
        refine m_if_lt (tgt := 36) C dX11_two_28 (by decide) (fun c59 => ?_) (fun c59 => ?_)
        · have f60 : a3.toInt < 0 := by
            have q : _ := c59
            simp only [ti_nle, ti_nlt, ti_le, ti_lt, ti_eq, ti_ne, Classical.not_not, kt_0] at q
            omega
          have b61 : IV a3 (-2147483648) (-1) := ⟨by have q1 := (iv_any a3); have q2 := kc_0; omega, by have q1 := (iv_any a3); have q2 := kc_0; omega⟩
          refine m_ldc (v := (-1000001)) C dX11_two_36 q1_234 ?_
          exact m_iret C hr hlk (by decide) (by decide) dX11_two_38 ⟨_, rfl, i43, g47, (iv_wk kc_m1000001 (by decide)), v49⟩
        · have f62 : 0 ≤ a3.toInt := by
            have q : _ := c59
            simp only [ti_nle, ti_nlt, ti_le, ti_lt, ti_eq, ti_ne, Classical.not_not, kt_0] at q
            omega
          have b63 : IV a3 0 2147483647 := ⟨by have q1 := kc_0; have q2 := (iv_any a3); omega, by have q1 := kc_0; have q2 := (iv_any a3); omega⟩
          refine m_iload_n C dX11_two_31 rfl rfl ?_
          refine m_iconst (v := 1) C dX11_two_32 (by decide) ?_
          refine m_icmp_le (tgt := 39) C dX11_two_33 (by decide) (fun c64 => ?_) (fun c64 => ?_)
          · have f65 : a3.toInt ≤ 1 := by
              have q : _ := c64
              simp only [ti_nle, ti_nlt, ti_le, ti_lt, ti_eq, ti_ne, Classical.not_not, kt_1] at q
              omega
            have b66 : IV a3 0 1 := ⟨by have q1 := b63; have q2 := kc_1; omega, by have q1 := b63; have q2 := kc_1; omega⟩
            refine m_iconst (v := 0) C dX11_two_39 (by decide) ?_
            refine m_istore (L1 := [some (.ref (G.1 0 0)), some (.int a1), some (.int a2), some (.int a3), some (.int 0), none, none, none]) C dX11_two_40 (by decide) rfl rfl ?_
            refine m_aload_n C dX11_two_42 rfl rfl ?_
            refine m_iload_n C dX11_two_43 rfl rfl ?_
            refine m_iload_n C dX11_two_44 rfl rfl ?_
            refine m_iconst (v := 0) C dX11_two_45 (by decide) ?_
            refine m_callV (n := 3) (ci := 10) (st := []) C (c_X11_worstOfTwoS l G τ42 (a1) (a2) (0) i43 b41 b55 (iv_wk kc_0 (by decide))) (by decide) (by decide) rfl rfl rfl q3_165 q3_162 q3_164 q0_17 q1_1 (by decide +kernel) rfl (by decide) (by decide) rfl (Nat.le_of_ble_eq_true rfl) dX11_two_46 ?_
            rintro _ τ67 ⟨x70, rfl, i68, f69, b71, h73⟩
            have g72 : Fr MS_X11_twoS AS_X11_twoS σ τ67 := Fr.call (g47) f69 (by decide)
            have v74 : SFc σ τ67 := v49.trans h73
            show MW p l e _ s m args below meth c _ 8 G 0 0 49 [some (.ref (G.1 0 0)), some (.int a1), some (.int a2), some (.int a3), some (.int 0), none, none, none] [.int x70] τ67
            refine m_istore (L1 := [some (.ref (G.1 0 0)), some (.int a1), some (.int a2), some (.int a3), some (.int 0), some (.int x70), none, none]) C dX11_two_49 (by decide) rfl rfl ?_
            refine m_iconst (v := 1) C dX11_two_51 (by decide) ?_
            refine m_istore (L1 := [some (.ref (G.1 0 0)), some (.int a1), some (.int a2), some (.int a3), some (.int 0), some (.int x70), some (.int 1), none]) C dX11_two_52 (by decide) rfl rfl ?_
            exact J54 ((10 - (1 : Int32).toInt).toNat + 1) τ67 0 x70 1 i68 g72 b41 b55 b66 (iv_wk kc_0 (by decide)) b71 (iv_wk kc_1 (by decide)) v74 (Nat.lt_succ_self _)
          · have f75 : 1 < a3.toInt := by
              have q : _ := c64
              simp only [ti_nle, ti_nlt, ti_le, ti_lt, ti_eq, ti_ne, Classical.not_not, kt_1] at q
              omega
            have b76 : IV a3 2 2147483647 := ⟨by have q1 := kc_1; have q2 := b63; omega, by have q1 := kc_1; have q2 := b63; omega⟩
            refine m_ldc (v := (-1000001)) C dX11_two_36 q1_234 ?_
            exact m_iret C hr hlk (by decide) (by decide) dX11_two_38 ⟨_, rfl, i43, g47, (iv_wk kc_m1000001 (by decide)), v49⟩

abbrev MS_X11_measureReachS : List (Nat × Nat) := [(1, 0), (1, 1), (1, 2), (1, 3), (1, 9), (1, 10), (1, 11)]
abbrev AS_X11_measureReachS : List Nat := [2, 3, 4, 5, 6, 11]
set_option maxHeartbeats 4000000 in
set_option maxRecDepth 100000 in
theorem c_X11_measureReachS (l : Launch) (G : Gt) (σ : Sg) (hI : Inv σ) : Mc l G yX11_measureReach cX11_measureReach 4 none 3 86 0 0 [.ref (G.1 0 0)] σ (PV fun τ => Inv τ ∧ Fr MS_X11_measureReachS AS_X11_measureReachS σ τ ∧ SFc σ τ) := by
  refine Mc.of (L0 := [some (.ref (G.1 0 0)), none, none, none]) (by decide) (Nat.le_of_ble_eq_true rfl) rfl ?_
  intro p e s m args below meth c C hr hlk
  have C : Cx p s m args c cX11_measureReach 4 "LeanTower" := C
  have k0 : (0 : Int32).toInt = 0 := by decide
  have k1 : (1 : Int32).toInt = 1 := by decide
  have J21 : ∀ (n : Nat) (τ : Sg) (y1 : Int32), Inv τ → Fr MS_X11_measureReachS AS_X11_measureReachS σ τ → IV y1 0 65 → (SFc σ τ) → (65 - y1.toInt).toNat < n → MW p l e { frames := 3, cells := 0, slots := 0, locals := 86 } s m args below meth c (MQ below (QP G (PV fun τ => Inv τ ∧ Fr MS_X11_measureReachS AS_X11_measureReachS σ τ ∧ SFc σ τ)) args s 0 0 (aG G)) 4 G 0 0 21 [some (.ref (G.1 0 0)), some (.int y1), none, none] [] τ := by
    intro n
    induction n with
    | zero => intro τ y1 iτ fτ b_y1 v_SC hm; exact absurd hm (Nat.not_lt_zero _)
    | succ n ih21 =>
      intro τ y1 iτ fτ b_y1 v_SC hm21
      have J29 : ∀ (n : Nat) (τ : Sg) (y2 : Int32), Inv τ → Fr MS_X11_measureReachS AS_X11_measureReachS σ τ → IV y1 0 64 → IV y2 0 4 → (SFc σ τ) → (4 - y2.toInt).toNat < n → MW p l e { frames := 3, cells := 0, slots := 0, locals := 86 } s m args below meth c (MQ below (QP G (PV fun τ => Inv τ ∧ Fr MS_X11_measureReachS AS_X11_measureReachS σ τ ∧ SFc σ τ)) args s 0 0 (aG G)) 4 G 0 0 29 [some (.ref (G.1 0 0)), some (.int y1), some (.int y2), none] [] τ := by
        intro n
        induction n with
        | zero => intro τ y2 iτ fτ b_y1 b_y2 v_SC hm; exact absurd hm (Nat.not_lt_zero _)
        | succ n ih29 =>
          intro τ y2 iτ fτ b_y1 b_y2 v_SC hm29
          refine m_iload_n C dX11_measureReach_29 rfl rfl ?_
          refine m_iconst (v := 4) C dX11_measureReach_30 (by decide) ?_
          refine m_icmp_ge (tgt := 75) C dX11_measureReach_31 (by decide) (fun c1 => ?_) (fun c1 => ?_)
          · have f2 : 4 ≤ y2.toInt := by
              have q : _ := c1
              simp only [ti_nle, ti_nlt, ti_le, ti_lt, ti_eq, ti_ne, Classical.not_not, kt_4] at q
              omega
            have b3 : IV y2 4 4 := ⟨by have q1 := kc_4; have q2 := b_y2; omega, by have q1 := kc_4; have q2 := b_y2; omega⟩
            refine m_aload_n C dX11_measureReach_75 rfl rfl ?_
            refine g_0_3 C q1_189 dX11_measureReach_76 ?_
            refine m_callV (n := 0) (ci := 7) (st := []) C (c_X8_passHalf l G τ (j := 1) (by decide)  iτ ) (by decide) (by decide) rfl rfl rfl q3_47 q3_44 q3_45 q3_46 q1_3 (by decide +kernel) rfl (by decide) (by decide) rfl (Nat.le_of_ble_eq_true rfl) dX11_measureReach_79 ?_
            rintro _ τ4 ⟨rfl, i5, f6⟩
            have g9 : Fr MS_X11_measureReachS AS_X11_measureReachS σ τ4 := Fr.call (fτ) f6 (by decide)
            have v11 : SFc σ τ4 := v_SC.fr f6 (by decide) (by decide)
            show MW p l e _ s m args below meth c _ 4 G 0 0 82 [some (.ref (G.1 0 0)), some (.int y1), some (.int y2), none] [] τ4
            obtain ⟨x12, ex12⟩ : ∃ y : Int32, y = y1 + 1 := ⟨_, rfl⟩
            have tx12 : x12.toInt = y1.toInt + 1 := by rw [ex12, ti_addv b_y1 kc_1 (by decide), kt_1]
            have b13 : IV x12 1 65 := by rw [ex12]; exact iv_add b_y1 kc_1 (by decide)
            refine m_iinc (v := x12) (L1 := [some (.ref (G.1 0 0)), some (.int x12), some (.int y2), none]) C dX11_measureReach_82 rfl (by rw [ex12]; rfl) (by decide) rfl rfl ?_
            refine m_goto (tgt := 21) C dX11_measureReach_85 (by decide) ?_
            refine m_sub (L1 := [some (.ref (G.1 0 0)), some (.int x12), none, none]) ⟨rfl, ⟨rfl, trivial⟩⟩ ?_
            exact ih21 τ4 x12 i5 g9 (iv_wk b13 (by decide)) v11 (by have q := hm21; omega)
          · have f14 : y2.toInt < 4 := by
              have q : _ := c1
              simp only [ti_nle, ti_nlt, ti_le, ti_lt, ti_eq, ti_ne, Classical.not_not, kt_4] at q
              omega
            have b15 : IV y2 0 3 := ⟨by have q1 := b_y2; have q2 := kc_4; omega, by have q1 := b_y2; have q2 := kc_4; omega⟩
            refine m_aload_n C dX11_measureReach_34 rfl rfl ?_
            refine g_0_3 C q1_189 dX11_measureReach_35 ?_
            refine m_bipush (v := 127) C dX11_measureReach_38 (by decide) ?_
            refine m_iload_n C dX11_measureReach_40 rfl rfl ?_
            refine m_callV (n := 2) (ci := 7) (st := []) C (c_X8_leanWith l G τ (j := 1) (by decide) (127) (y2) iτ ) (by decide) (by decide) rfl rfl rfl q3_82 q3_121 q3_80 q3_81 q1_3 (by decide +kernel) rfl (by decide) (by decide) rfl (Nat.le_of_ble_eq_true rfl) dX11_measureReach_41 ?_
            rintro _ τ16 ⟨x19, rfl, i17, f18, b20⟩
            have g21 : Fr MS_X11_measureReachS AS_X11_measureReachS σ τ16 := Fr.call (fτ) f18 (by decide)
            have v23 : SFc σ τ16 := v_SC.fr f18 (by decide) (by decide)
            show MW p l e _ s m args below meth c _ 4 G 0 0 44 [some (.ref (G.1 0 0)), some (.int y1), some (.int y2), none] [.int x19] τ16
            refine m_istore_n (L1 := [some (.ref (G.1 0 0)), some (.int y1), some (.int y2), some (.int x19)]) C dX11_measureReach_44 rfl (by decide) rfl rfl ?_
            refine m_aload_n C dX11_measureReach_45 rfl rfl ?_
            refine g_0_11 C q1_197 dX11_measureReach_46 ?_
            refine m_iload_n C dX11_measureReach_49 rfl rfl ?_
            refine m_iload_n C dX11_measureReach_50 rfl rfl ?_
            refine m_if_ne (tgt := 58) C dX11_measureReach_51 (by decide) (fun c24 => ?_) (fun c24 => ?_)
            · have f25 : y1.toInt ≠ 0 := by
                have q : _ := c24
                simp only [ti_nle, ti_nlt, ti_le, ti_lt, ti_eq, ti_ne, Classical.not_not, kt_0] at q
                omega
              have b26 : IV y1 1 64 := ⟨by have q1 := b_y1; have q2 := kc_0; omega, by have q1 := b_y1; have q2 := kc_0; omega⟩
              refine m_aload_n C dX11_measureReach_58 rfl rfl ?_
              refine g_0_11 C q1_197 dX11_measureReach_59 ?_
              refine m_iload_n C dX11_measureReach_62 rfl rfl ?_
              refine al_11 C b15 (by decide) rfl dX11_measureReach_63 ?_
              refine m_topi (fun x27 ex27 => ?_)
              refine m_iload_n C dX11_measureReach_64 rfl rfl ?_
              refine m_max (st := [.int y2, .ref (G.1 11 0)]) C q3_166 q3_92 q1_19 q3_93 ⟨by decide, Nat.le_of_ble_eq_true rfl⟩ (by decide) dX11_measureReach_65 (fun x28 ex28 => ?_)
              have tx28 : x28.toInt = max (x27.toInt) (x19.toInt) := by rw [ti_max ex28]
              refine as_11 C b15 (by decide) rfl dX11_measureReach_68 ?_
              refine m_tops (fun τ29 eτ29 => ?_)
              have i30 : Inv τ29 := eτ29 ▸ Inv.putF i17 (by decide) rfl
              have f31 : Fr MS_X11_measureReachS AS_X11_measureReachS σ τ29 := eτ29 ▸ Fr.put (g21) (Or.inr (by decide))
              have v32 : SFc σ τ29 := v23.put eτ29 (Or.inl (by decide))
              obtain ⟨x33, ex33⟩ : ∃ y : Int32, y = y2 + 1 := ⟨_, rfl⟩
              have tx33 : x33.toInt = y2.toInt + 1 := by rw [ex33, ti_addv b15 kc_1 (by decide), kt_1]
              have b34 : IV x33 1 4 := by rw [ex33]; exact iv_add b15 kc_1 (by decide)
              refine m_iinc (v := x33) (L1 := [some (.ref (G.1 0 0)), some (.int y1), some (.int x33), some (.int x19)]) C dX11_measureReach_69 rfl (by rw [ex33]; rfl) (by decide) rfl rfl ?_
              refine m_goto (tgt := 29) C dX11_measureReach_72 (by decide) ?_
              refine m_sub (L1 := [some (.ref (G.1 0 0)), some (.int y1), some (.int x33), none]) ⟨rfl, ⟨rfl, ⟨rfl, trivial⟩⟩⟩ ?_
              exact ih29 τ29 x33 i30 f31 (iv_wk b26 (by decide)) (iv_wk b34 (by decide)) v32 (by have q := hm29; omega)
            · have f35 : y1.toInt = 0 := by
                have q : _ := c24
                simp only [ti_nle, ti_nlt, ti_le, ti_lt, ti_eq, ti_ne, Classical.not_not, kt_0] at q
                omega
              have b36 : IV y1 0 0 := ⟨by have q1 := b_y1; have q2 := kc_0; omega, by have q1 := b_y1; have q2 := kc_0; omega⟩
              refine m_iload_n C dX11_measureReach_54 rfl rfl ?_
              refine m_goto (tgt := 68) C dX11_measureReach_55 (by decide) ?_
              refine as_11 C b15 (by decide) rfl dX11_measureReach_68 ?_
              refine m_tops (fun τ37 eτ37 => ?_)
              have i38 : Inv τ37 := eτ37 ▸ Inv.putF i17 (by decide) rfl
              have f39 : Fr MS_X11_measureReachS AS_X11_measureReachS σ τ37 := eτ37 ▸ Fr.put (g21) (Or.inr (by decide))
              have v40 : SFc σ τ37 := v23.put eτ37 (Or.inl (by decide))
              obtain ⟨x41, ex41⟩ : ∃ y : Int32, y = y2 + 1 := ⟨_, rfl⟩
              have tx41 : x41.toInt = y2.toInt + 1 := by rw [ex41, ti_addv b15 kc_1 (by decide), kt_1]
              have b42 : IV x41 1 4 := by rw [ex41]; exact iv_add b15 kc_1 (by decide)
              refine m_iinc (v := x41) (L1 := [some (.ref (G.1 0 0)), some (.int y1), some (.int x41), some (.int x19)]) C dX11_measureReach_69 rfl (by rw [ex41]; rfl) (by decide) rfl rfl ?_
              refine m_goto (tgt := 29) C dX11_measureReach_72 (by decide) ?_
              refine m_sub (L1 := [some (.ref (G.1 0 0)), some (.int y1), some (.int x41), none]) ⟨rfl, ⟨rfl, ⟨rfl, trivial⟩⟩⟩ ?_
              exact ih29 τ37 x41 i38 f39 (iv_wk b36 (by decide)) (iv_wk b42 (by decide)) v40 (by have q := hm29; omega)
      refine m_iload_n C dX11_measureReach_21 rfl rfl ?_
      refine m_bipush (v := 64) C dX11_measureReach_22 (by decide) ?_
      refine m_icmp_gt (tgt := 88) C dX11_measureReach_24 (by decide) (fun c43 => ?_) (fun c43 => ?_)
      · have f44 : 64 < y1.toInt := by
          have q : _ := c43
          simp only [ti_nle, ti_nlt, ti_le, ti_lt, ti_eq, ti_ne, Classical.not_not, kt_64] at q
          omega
        have b45 : IV y1 65 65 := ⟨by have q1 := kc_64; have q2 := b_y1; omega, by have q1 := kc_64; have q2 := b_y1; omega⟩
        exact m_vret C hr hlk (by decide) (by decide) dX11_measureReach_88 ⟨rfl, iτ, fτ, v_SC⟩
      · have f46 : y1.toInt ≤ 64 := by
          have q : _ := c43
          simp only [ti_nle, ti_nlt, ti_le, ti_lt, ti_eq, ti_ne, Classical.not_not, kt_64] at q
          omega
        have b47 : IV y1 0 64 := ⟨by have q1 := b_y1; have q2 := kc_64; omega, by have q1 := b_y1; have q2 := kc_64; omega⟩
        refine m_iconst (v := 0) C dX11_measureReach_27 (by decide) ?_
        refine m_istore_n (L1 := [some (.ref (G.1 0 0)), some (.int y1), some (.int 0), none]) C dX11_measureReach_28 rfl (by decide) rfl rfl ?_
        exact J29 ((4 - (0 : Int32).toInt).toNat + 1) τ 0 iτ fτ b47 (iv_wk kc_0 (by decide)) v_SC (Nat.lt_succ_self _)
  refine m_aload_n C dX11_measureReach_0 rfl rfl ?_
  refine g_0_3 C q1_189 dX11_measureReach_1 ?_
  refine m_aload_n C dX11_measureReach_4 rfl rfl ?_
  refine g_0_2 C q1_188 dX11_measureReach_5 ?_
  refine m_callV (n := 1) (ci := 7) (st := []) C (c_X8_takeFromS l G σ (j := 1) (by decide) (j2 := 0) (by decide) hI (by omega)) (by decide) (by decide) rfl rfl rfl q3_9 q3_6 q3_7 q3_8 q1_3 (by decide +kernel) rfl (by decide) (by decide) rfl (Nat.le_of_ble_eq_true rfl) dX11_measureReach_8 ?_
  rintro _ τ48 ⟨rfl, i49, f50, h54⟩
  have g53 : Fr MS_X11_measureReachS AS_X11_measureReachS σ τ48 := Fr.call (Fr.rf) f50 (by decide)
  have v55 : SFc σ τ48 := SFc.rf.take h54
  show MW p l e _ s m args below meth c _ 4 G 0 0 11 [some (.ref (G.1 0 0)), none, none, none] [] τ48
  refine m_aload_n C dX11_measureReach_11 rfl rfl ?_
  refine g_0_3 C q1_189 dX11_measureReach_12 ?_
  refine m_iconst (v := 0) C dX11_measureReach_15 (by decide) ?_
  refine p_1_3 C (by decide) q1_85 dX11_measureReach_16 ?_
  refine m_tops (fun τ56 eτ56 => ?_)
  have i57 : Inv τ56 := eτ56 ▸ Inv.put i49 (by decide) (iv_wk kc_0 (by decide))
  have f58 : Fr MS_X11_measureReachS AS_X11_measureReachS σ τ56 := eτ56 ▸ Fr.put (g53) (Or.inl (by decide))
  have v59 : SFc σ τ56 := v55.put eτ56 (Or.inr (by decide))
  refine m_iconst (v := 0) C dX11_measureReach_19 (by decide) ?_
  refine m_istore_n (L1 := [some (.ref (G.1 0 0)), some (.int 0), none, none]) C dX11_measureReach_20 rfl (by decide) rfl rfl ?_
  exact J21 ((65 - (0 : Int32).toInt).toNat + 1) τ56 0 i57 f58 (iv_wk kc_0 (by decide)) v59 (Nat.lt_succ_self _)

abbrev MS_X11_stonesS : List (Nat × Nat) := [(1, 0), (1, 1), (1, 2), (1, 3), (1, 9), (1, 10), (1, 11)]
abbrev AS_X11_stonesS : List Nat := [2, 3, 4, 5, 6, 11]
set_option maxHeartbeats 4000000 in
set_option maxRecDepth 100000 in
theorem c_X11_stonesS (l : Launch) (G : Gt) (σ : Sg) (a1 : Int32) (hI : Inv σ) : Mc l G yX11_stones cX11_stones 7 (some .int) 4 109 0 0 [.ref (G.1 0 0), .int a1] σ (PI fun r τ => Inv τ ∧ Fr MS_X11_stonesS AS_X11_stonesS σ τ ∧ IV r (-1000002) 2147483647 ∧ SFc σ τ) := by
  refine Mc.of (L0 := [some (.ref (G.1 0 0)), some (.int a1), none, none, none, none, none]) (by decide) (Nat.le_of_ble_eq_true rfl) rfl ?_
  intro p e s m args below meth c C hr hlk
  have C : Cx p s m args c cX11_stones 7 "LeanTower" := C
  have k0 : (0 : Int32).toInt = 0 := by decide
  have k1 : (1 : Int32).toInt = 1 := by decide
  have J60 : ∀ (n : Nat) (τ : Sg) (y2 : Int32) (y3 : Int32) (y4 : Int32) (y5 : Int32), Inv τ → Fr MS_X11_stonesS AS_X11_stonesS σ τ → IV a1 (-1) 3 → IV y2 1 256 → IV y3 0 256 → IV y4 0 2147483647 → IV y5 1 256 → (SFc σ τ) → (256 - y5.toInt).toNat < n → MW p l e { frames := 4, cells := 0, slots := 0, locals := 109 } s m args below meth c (MQ below (QP G (PI fun r τ => Inv τ ∧ Fr MS_X11_stonesS AS_X11_stonesS σ τ ∧ IV r (-1000002) 2147483647 ∧ SFc σ τ)) args s 0 0 (aG G)) 7 G 0 0 60 [some (.ref (G.1 0 0)), some (.int a1), some (.int y2), some (.int y3), some (.int y4), some (.int y5), none] [] τ := by
    intro n
    induction n with
    | zero => intro τ y2 y3 y4 y5 iτ fτ b_a1 b_y2 b_y3 b_y4 b_y5 v_SC hm; exact absurd hm (Nat.not_lt_zero _)
    | succ n ih60 =>
      intro τ y2 y3 y4 y5 iτ fτ b_a1 b_y2 b_y3 b_y4 b_y5 v_SC hm60
      refine m_iload C dX11_stones_60 rfl ?_
      refine m_iload_n C dX11_stones_62 rfl rfl ?_
      refine m_icmp_ge (tgt := 94) C dX11_stones_63 (by decide) (fun c1 => ?_) (fun c1 => ?_)
      · have f2 : y2.toInt ≤ y5.toInt := by
          have q : _ := c1
          simp only [ti_nle, ti_nlt, ti_le, ti_lt, ti_eq, ti_ne, Classical.not_not] at q
          omega
        refine m_iload_n C dX11_stones_94 rfl rfl ?_
        refine m_iconst (v := (-1)) C dX11_stones_95 (by decide) ?_
        refine m_icmp_ne (tgt := 104) C dX11_stones_96 (by decide) (fun c3 => ?_) (fun c3 => ?_)
        · have f4 : a1.toInt ≠ -1 := by
            have q : _ := c3
            simp only [ti_nle, ti_nlt, ti_le, ti_lt, ti_eq, ti_ne, Classical.not_not, kt_m1] at q
            omega
          have b5 : IV a1 0 3 := ⟨by have q1 := b_a1; have q2 := kc_m1; omega, by have q1 := b_a1; have q2 := kc_m1; omega⟩
          refine m_aload_n C dX11_stones_104 rfl rfl ?_
          refine m_iload_n C dX11_stones_105 rfl rfl ?_
          refine m_iload_n C dX11_stones_106 rfl rfl ?_
          refine m_callV (n := 2) (ci := 10) (st := []) C (c_X11_sideIn l G τ (y3) (a1) iτ ) (by decide) (by decide) rfl rfl rfl q3_182 q3_179 q3_181 q0_20 q1_1 (by decide +kernel) rfl (by decide) (by decide) rfl (Nat.le_of_ble_eq_true rfl) dX11_stones_107 ?_
          rintro _ τ6 ⟨x9, rfl, i7, f8, b10⟩
          have g11 : Fr MS_X11_stonesS AS_X11_stonesS σ τ6 := Fr.call (fτ) f8 (by decide)
          have v13 : SFc σ τ6 := v_SC.fr f8 (by decide) (by decide)
          show MW p l e _ s m args below meth c _ 7 G 0 0 110 [some (.ref (G.1 0 0)), some (.int a1), some (.int y2), some (.int y3), some (.int y4), some (.int y5), none] [.int x9] τ6
          exact m_iret C hr hlk (by decide) (by decide) dX11_stones_110 ⟨_, rfl, i7, g11, (iv_wk b10 (by decide)), v13⟩
        · have f14 : a1.toInt = -1 := by
            have q : _ := c3
            simp only [ti_nle, ti_nlt, ti_le, ti_lt, ti_eq, ti_ne, Classical.not_not, kt_m1] at q
            omega
          have b15 : IV a1 (-1) (-1) := ⟨by have q1 := b_a1; have q2 := kc_m1; omega, by have q1 := b_a1; have q2 := kc_m1; omega⟩
          refine m_iload C dX11_stones_99 rfl ?_
          refine m_goto (tgt := 110) C dX11_stones_101 (by decide) ?_
          exact m_iret C hr hlk (by decide) (by decide) dX11_stones_110 ⟨_, rfl, iτ, fτ, (iv_wk b_y4 (by decide)), v_SC⟩
      · have f16 : y5.toInt < y2.toInt := by
          have q : _ := c1
          simp only [ti_nle, ti_nlt, ti_le, ti_lt, ti_eq, ti_ne, Classical.not_not] at q
          omega
        have b17 : IV y5 1 255 := ⟨by have q1 := b_y5; have q2 := b_y2; omega, by have q1 := b_y5; have q2 := b_y2; omega⟩
        have b18 : IV y2 2 256 := ⟨by have q1 := b_y5; have q2 := b_y2; omega, by have q1 := b_y5; have q2 := b_y2; omega⟩
        refine m_aload_n C dX11_stones_66 rfl rfl ?_
        refine m_iload C dX11_stones_67 rfl ?_
        refine m_callV (n := 1) (ci := 10) (st := []) C (c_X11_worstOfHanging l G τ (y5) iτ ) (by decide) (by decide) rfl rfl rfl q3_178 q3_175 q3_177 q0_19 q1_1 (by decide +kernel) rfl (by decide) (by decide) rfl (Nat.le_of_ble_eq_true rfl) dX11_stones_69 ?_
        rintro _ τ19 ⟨x22, rfl, i20, f21, b23⟩
        have g24 : Fr MS_X11_stonesS AS_X11_stonesS σ τ19 := Fr.call (fτ) f21 (by decide)
        have v26 : SFc σ τ19 := v_SC.fr f21 (by decide) (by decide)
        show MW p l e _ s m args below meth c _ 7 G 0 0 72 [some (.ref (G.1 0 0)), some (.int a1), some (.int y2), some (.int y3), some (.int y4), some (.int y5), none] [.int x22] τ19
        refine m_istore (L1 := [some (.ref (G.1 0 0)), some (.int a1), some (.int y2), some (.int y3), some (.int y4), some (.int y5), some (.int x22)]) C dX11_stones_72 (by decide) rfl rfl ?_
        refine m_iload C dX11_stones_74 rfl ?_
        refine m_iload C dX11_stones_76 rfl ?_
        refine m_icmp_ge (tgt := 88) C dX11_stones_78 (by decide) (fun c27 => ?_) (fun c27 => ?_)
        · have f28 : y4.toInt ≤ x22.toInt := by
            have q : _ := c27
            simp only [ti_nle, ti_nlt, ti_le, ti_lt, ti_eq, ti_ne, Classical.not_not] at q
            omega
          obtain ⟨x29, ex29⟩ : ∃ y : Int32, y = y5 + 1 := ⟨_, rfl⟩
          have tx29 : x29.toInt = y5.toInt + 1 := by rw [ex29, ti_addv b17 kc_1 (by decide), kt_1]
          have b30 : IV x29 2 256 := by rw [ex29]; exact iv_add b17 kc_1 (by decide)
          refine m_iinc (v := x29) (L1 := [some (.ref (G.1 0 0)), some (.int a1), some (.int y2), some (.int y3), some (.int y4), some (.int x29), some (.int x22)]) C dX11_stones_88 rfl (by rw [ex29]; rfl) (by decide) rfl rfl ?_
          refine m_goto (tgt := 60) C dX11_stones_91 (by decide) ?_
          refine m_sub (L1 := [some (.ref (G.1 0 0)), some (.int a1), some (.int y2), some (.int y3), some (.int y4), some (.int x29), none]) ⟨rfl, ⟨rfl, ⟨rfl, ⟨rfl, ⟨rfl, ⟨rfl, trivial⟩⟩⟩⟩⟩⟩ ?_
          exact ih60 τ19 y2 y3 y4 x29 i20 g24 b_a1 (iv_wk b18 (by decide)) b_y3 b_y4 (iv_wk b30 (by decide)) v26 (by have q := hm60; omega)
        · have f31 : x22.toInt < y4.toInt := by
            have q : _ := c27
            simp only [ti_nle, ti_nlt, ti_le, ti_lt, ti_eq, ti_ne, Classical.not_not] at q
            omega
          have b32 : IV x22 0 2147483646 := ⟨by have q1 := b23; have q2 := b_y4; omega, by have q1 := b23; have q2 := b_y4; omega⟩
          have b33 : IV y4 1 2147483647 := ⟨by have q1 := b23; have q2 := b_y4; omega, by have q1 := b23; have q2 := b_y4; omega⟩
          refine m_iload C dX11_stones_81 rfl ?_
          refine m_istore (L1 := [some (.ref (G.1 0 0)), some (.int a1), some (.int y2), some (.int y3), some (.int x22), some (.int y5), some (.int x22)]) C dX11_stones_83 (by decide) rfl rfl ?_
          refine m_iload C dX11_stones_85 rfl ?_
          refine m_istore_n (L1 := [some (.ref (G.1 0 0)), some (.int a1), some (.int y2), some (.int y5), some (.int x22), some (.int y5), some (.int x22)]) C dX11_stones_87 rfl (by decide) rfl rfl ?_
          obtain ⟨x34, ex34⟩ : ∃ y : Int32, y = y5 + 1 := ⟨_, rfl⟩
          have tx34 : x34.toInt = y5.toInt + 1 := by rw [ex34, ti_addv b17 kc_1 (by decide), kt_1]
          have b35 : IV x34 2 256 := by rw [ex34]; exact iv_add b17 kc_1 (by decide)
          refine m_iinc (v := x34) (L1 := [some (.ref (G.1 0 0)), some (.int a1), some (.int y2), some (.int y5), some (.int x22), some (.int x34), some (.int x22)]) C dX11_stones_88 rfl (by rw [ex34]; rfl) (by decide) rfl rfl ?_
          refine m_goto (tgt := 60) C dX11_stones_91 (by decide) ?_
          refine m_sub (L1 := [some (.ref (G.1 0 0)), some (.int a1), some (.int y2), some (.int y5), some (.int x22), some (.int x34), none]) ⟨rfl, ⟨rfl, ⟨rfl, ⟨rfl, ⟨rfl, ⟨rfl, trivial⟩⟩⟩⟩⟩⟩ ?_
          exact ih60 τ19 y2 y5 x22 x34 i20 g24 b_a1 (iv_wk b18 (by decide)) (iv_wk b17 (by decide)) (iv_wk b32 (by decide)) (iv_wk b35 (by decide)) v26 (by have q := hm60; omega)
  have J32 : ∀ (τ : Sg), Inv τ → Fr MS_X11_stonesS AS_X11_stonesS σ τ → IV a1 (-1) 3 → (SFc σ τ) → MW p l e { frames := 4, cells := 0, slots := 0, locals := 109 } s m args below meth c (MQ below (QP G (PI fun r τ => Inv τ ∧ Fr MS_X11_stonesS AS_X11_stonesS σ τ ∧ IV r (-1000002) 2147483647 ∧ SFc σ τ)) args s 0 0 (aG G)) 7 G 0 0 32 [some (.ref (G.1 0 0)), some (.int a1), none, none, none, none, none] [] τ := by
    intro τ iτ fτ b_a1 v_SC
    refine m_aload_n C dX11_stones_32 rfl rfl ?_
    refine m_callV (n := 0) (ci := 10) (st := []) C (c_X11_measureReachS l G τ  iτ ) (by decide) (by decide) rfl rfl rfl q3_174 q3_171 q3_173 q0_18 q1_1 (by decide +kernel) rfl (by decide) (by decide) rfl (Nat.le_of_ble_eq_true rfl) dX11_stones_33 ?_
    rintro _ τ36 ⟨rfl, i37, f38, h42⟩
    have g41 : Fr MS_X11_stonesS AS_X11_stonesS σ τ36 := Fr.call (fτ) f38 (by decide)
    have v43 : SFc σ τ36 := v_SC.trans h42
    show MW p l e _ s m args below meth c _ 7 G 0 0 36 [some (.ref (G.1 0 0)), some (.int a1), none, none, none, none, none] [] τ36
    refine m_iconst (v := 1) C dX11_stones_36 (by decide) ?_
    refine m_iconst (v := 2) C dX11_stones_37 (by decide) ?_
    refine m_aload_n C dX11_stones_38 rfl rfl ?_
    refine g_0_2 C q1_188 dX11_stones_39 ?_
    refine g_1_3 C (by decide) q1_85 dX11_stones_42 ?_
    refine m_topi (fun x44 ex44 => ?_)
    have b45 : IV x44 0 4 := by rw [ex44]; exact i37.1 1 0 3
    refine m_imul C dX11_stones_45 ?_
    refine m_topi (fun x46 ex46 => ?_)
    have tx46 : x46.toInt = 2 * x44.toInt := by rw [ex46, ti_mulv kc_2 b45 (by decide), kt_2]
    have b47 : IV x46 0 8 := by rw [ex46]; exact iv_mul kc_2 b45 (by decide)
    refine m_ishl C dX11_stones_46 ?_
    refine m_topi (fun x48 ex48 => ?_)
    have b49 : IV x48 1 256 := by rw [ex48]; exact iv_shl1 b47 (by decide)
    refine m_istore_n (L1 := [some (.ref (G.1 0 0)), some (.int a1), some (.int x48), none, none, none, none]) C dX11_stones_47 rfl (by decide) rfl rfl ?_
    refine m_iconst (v := 0) C dX11_stones_48 (by decide) ?_
    refine m_istore_n (L1 := [some (.ref (G.1 0 0)), some (.int a1), some (.int x48), some (.int 0), none, none, none]) C dX11_stones_49 rfl (by decide) rfl rfl ?_
    refine m_aload_n C dX11_stones_50 rfl rfl ?_
    refine m_iconst (v := 0) C dX11_stones_51 (by decide) ?_
    refine m_callV (n := 1) (ci := 10) (st := []) C (c_X11_worstOfHanging l G τ36 (0) i37 ) (by decide) (by decide) rfl rfl rfl q3_178 q3_175 q3_177 q0_19 q1_1 (by decide +kernel) rfl (by decide) (by decide) rfl (Nat.le_of_ble_eq_true rfl) dX11_stones_52 ?_
    rintro _ τ50 ⟨x53, rfl, i51, f52, b54⟩
    have g55 : Fr MS_X11_stonesS AS_X11_stonesS σ τ50 := Fr.call (g41) f52 (by decide)
    have v57 : SFc σ τ50 := v43.fr f52 (by decide) (by decide)
    show MW p l e _ s m args below meth c _ 7 G 0 0 55 [some (.ref (G.1 0 0)), some (.int a1), some (.int x48), some (.int 0), none, none, none] [.int x53] τ50
    refine m_istore (L1 := [some (.ref (G.1 0 0)), some (.int a1), some (.int x48), some (.int 0), some (.int x53), none, none]) C dX11_stones_55 (by decide) rfl rfl ?_
    refine m_iconst (v := 1) C dX11_stones_57 (by decide) ?_
    refine m_istore (L1 := [some (.ref (G.1 0 0)), some (.int a1), some (.int x48), some (.int 0), some (.int x53), some (.int 1), none]) C dX11_stones_58 (by decide) rfl rfl ?_
    exact J60 ((256 - (1 : Int32).toInt).toNat + 1) τ50 x48 0 x53 1 i51 g55 b_a1 b49 (iv_wk kc_0 (by decide)) b54 (iv_wk kc_1 (by decide)) v57 (Nat.lt_succ_self _)
  refine m_aload_n C dX11_stones_0 rfl rfl ?_
  refine g_0_2 C q1_188 dX11_stones_1 ?_
  refine m_callV (n := 0) (ci := 7) (st := []) C (c_X8_stands l G σ (j := 0) (by decide)  hI ) (by decide) (by decide) rfl rfl rfl q3_41 q3_38 q3_39 q3_40 q1_3 (by decide +kernel) rfl (by decide) (by decide) rfl (Nat.le_of_ble_eq_true rfl) dX11_stones_4 ?_
  rintro _ τ58 ⟨x61, rfl, i59, f60, b62⟩
  have g63 : Fr MS_X11_stonesS AS_X11_stonesS σ τ58 := Fr.call (Fr.rf) f60 (by decide)
  have v65 : SFc σ τ58 := SFc.rf.fr f60 (by decide) (by decide)
  show MW p l e _ s m args below meth c _ 7 G 0 0 7 [some (.ref (G.1 0 0)), some (.int a1), none, none, none, none, none] [.int x61] τ58
  refine m_if_ne (tgt := 13) C dX11_stones_7 (by decide) (fun c66 => ?_) (fun c66 => ?_)
  · have f67 : x61.toInt ≠ 0 := by
      have q : _ := c66
      simp only [ti_nle, ti_nlt, ti_le, ti_lt, ti_eq, ti_ne, Classical.not_not, kt_0] at q
      omega
    have b68 : IV x61 1 1 := ⟨by have q1 := b62; have q2 := kc_0; omega, by have q1 := b62; have q2 := kc_0; omega⟩
    refine m_iload_n C dX11_stones_13 rfl rfl ?_
    refine m_iconst (v := (-1)) C dX11_stones_14 (by decide) ?_
    refine m_icmp_eq (tgt := 32) C dX11_stones_15 (by decide) (fun c69 => ?_) (fun c69 => ?_)
    · have f70 : a1.toInt = -1 := by
        have q : _ := c69
        simp only [ti_nle, ti_nlt, ti_le, ti_lt, ti_eq, ti_ne, Classical.not_not, kt_m1] at q
        omega
      have b71 : IV a1 (-1) (-1) := ⟨by have q1 := (iv_any a1); have q2 := kc_m1; omega, by have q1 := (iv_any a1); have q2 := kc_m1; omega⟩
      exact J32 τ58 i59 g63 (iv_wk b71 (by decide)) v65
    · have f72 : a1.toInt ≠ -1 := by
        have q : _ := c69
        simp only [ti_nle, ti_nlt, ti_le, ti_lt, ti_eq, ti_ne, Classical.not_not, kt_m1] at q
        omega
      refine m_aload_n C dX11_stones_18 rfl rfl ?_
      refine g_0_2 C q1_188 dX11_stones_19 ?_
      refine m_iload_n C dX11_stones_22 rfl rfl ?_
      refine m_callV (n := 1) (ci := 7) (st := []) C (c_X8_hasStone l G τ58 (j := 0) (by decide) (a1) i59 ) (by decide) (by decide) rfl rfl rfl q3_33 q3_30 q3_31 q3_32 q1_3 (by decide +kernel) rfl (by decide) (by decide) rfl (Nat.le_of_ble_eq_true rfl) dX11_stones_23 ?_
      rintro _ τ73 ⟨x76, rfl, i74, f75, b77, h79⟩
      have g78 : Fr MS_X11_stonesS AS_X11_stonesS σ τ73 := Fr.call (g63) f75 (by decide)
      have v80 : SFc σ τ73 := v65.fr f75 (by decide) (by decide)
      show MW p l e _ s m args below meth c _ 7 G 0 0 26 [some (.ref (G.1 0 0)), some (.int a1), none, none, none, none, none] [.int x76] τ73
      refine m_if_ne (tgt := 32) C dX11_stones_26 (by decide) (fun c81 => ?_) (fun c81 => ?_)
      · have f82 : x76.toInt ≠ 0 := by
          have q : _ := c81
          simp only [ti_nle, ti_nlt, ti_le, ti_lt, ti_eq, ti_ne, Classical.not_not, kt_0] at q
          omega
        have b83 : IV x76 1 1 := ⟨by have q1 := b77; have q2 := kc_0; omega, by have q1 := b77; have q2 := kc_0; omega⟩
        have b84 : IV a1 0 3 := ⟨by have q1 := (iv_any a1); omega, by have q1 := (iv_any a1); omega⟩
        exact J32 τ73 i74 g78 (iv_wk b84 (by decide)) v80
      · have f85 : x76.toInt = 0 := by
          have q : _ := c81
          simp only [ti_nle, ti_nlt, ti_le, ti_lt, ti_eq, ti_ne, Classical.not_not, kt_0] at q
          omega
        have b86 : IV x76 0 0 := ⟨by have q1 := b77; have q2 := kc_0; omega, by have q1 := b77; have q2 := kc_0; omega⟩
        refine m_ldc (v := (-1000001)) C dX11_stones_29 q1_234 ?_
        exact m_iret C hr hlk (by decide) (by decide) dX11_stones_31 ⟨_, rfl, i74, g78, (iv_wk kc_m1000001 (by decide)), v80⟩
  · have f87 : x61.toInt = 0 := by
      have q : _ := c66
      simp only [ti_nle, ti_nlt, ti_le, ti_lt, ti_eq, ti_ne, Classical.not_not, kt_0] at q
      omega
    have b88 : IV x61 0 0 := ⟨by have q1 := b62; have q2 := kc_0; omega, by have q1 := b62; have q2 := kc_0; omega⟩
    refine m_ldc (v := (-1000002)) C dX11_stones_10 q3_42 ?_
    exact m_iret C hr hlk (by decide) (by decide) dX11_stones_12 ⟨_, rfl, i59, g63, (iv_wk kc_m1000002 (by decide)), v65⟩

abbrev MS_X11_marksS : List (Nat × Nat) := [(0, 12), (1, 0), (1, 1), (1, 2), (1, 3), (1, 9), (1, 10), (1, 11)]
abbrev AS_X11_marksS : List Nat := [2, 3, 4, 5, 6]
set_option maxHeartbeats 4000000 in
set_option maxRecDepth 100000 in
theorem c_X11_marksS (l : Launch) (G : Gt) (σ : Sg) (a1 : Int32) (a2 : Int32) (a3 : Int32) (a4 : Int32) (hI : Inv σ) : Mc l G yX11_marks cX11_marks 6 (some .int) 3 72 0 0 [.ref (G.1 0 0), .int a1, .int a2, .int a3, .int a4] σ (PI fun r τ => Inv τ ∧ Fr MS_X11_marksS AS_X11_marksS σ τ ∧ IV r (-2147483648) 2147483647 ∧ SFc σ τ) := by
  refine Mc.of (L0 := [some (.ref (G.1 0 0)), some (.int a1), some (.int a2), some (.int a3), some (.int a4), none]) (by decide) (Nat.le_of_ble_eq_true rfl) rfl ?_
  intro p e s m args below meth c C hr hlk
  have C : Cx p s m args c cX11_marks 6 "LeanTower" := C
  have k0 : (0 : Int32).toInt = 0 := by decide
  have k1 : (1 : Int32).toInt = 1 := by decide
  refine m_aload_n C dX11_marks_0 rfl rfl ?_
  refine g_0_2 C q1_188 dX11_marks_1 ?_
  refine m_callV (n := 0) (ci := 7) (st := []) C (c_X8_stands l G σ (j := 0) (by decide)  hI ) (by decide) (by decide) rfl rfl rfl q3_41 q3_38 q3_39 q3_40 q1_3 (by decide +kernel) rfl (by decide) (by decide) rfl (Nat.le_of_ble_eq_true rfl) dX11_marks_4 ?_
  rintro _ τ1 ⟨x4, rfl, i2, f3, b5⟩
  have g6 : Fr MS_X11_marksS AS_X11_marksS σ τ1 := Fr.call (Fr.rf) f3 (by decide)
  have v8 : SFc σ τ1 := SFc.rf.fr f3 (by decide) (by decide)
  show MW p l e _ s m args below meth c _ 6 G 0 0 7 [some (.ref (G.1 0 0)), some (.int a1), some (.int a2), some (.int a3), some (.int a4), none] [.int x4] τ1
  refine m_if_ne (tgt := 13) C dX11_marks_7 (by decide) (fun c9 => ?_) (fun c9 => ?_)
  · have f10 : x4.toInt ≠ 0 := by
      have q : _ := c9
      simp only [ti_nle, ti_nlt, ti_le, ti_lt, ti_eq, ti_ne, Classical.not_not, kt_0] at q
      omega
    have b11 : IV x4 1 1 := ⟨by have q1 := b5; have q2 := kc_0; omega, by have q1 := b5; have q2 := kc_0; omega⟩
    refine m_aload_n C dX11_marks_13 rfl rfl ?_
    refine m_iload_n C dX11_marks_14 rfl rfl ?_
    refine m_callV (n := 1) (ci := 10) (st := []) C (c_X11_rowAt l G τ1 (a1) i2 ) (by decide) (by decide) rfl rfl rfl q1_233 q1_230 q1_232 q0_0 q1_1 (by decide +kernel) rfl (by decide) (by decide) rfl (Nat.le_of_ble_eq_true rfl) dX11_marks_15 ?_
    rintro _ τ12 ⟨x15, rfl, i13, f14, h18⟩
    have g17 : Fr MS_X11_marksS AS_X11_marksS σ τ12 := Fr.call (g6) f14 (by decide)
    have v19 : SFc σ τ12 := v8.fr f14 (by decide) (by decide)
    rcases h18 with ⟨rfl, x15q⟩ | ⟨rfl, x15q⟩
    · skip
      show MW p l e _ s m args below meth c _ 6 G 0 0 18 [some (.ref (G.1 0 0)), some (.int a1), some (.int a2), some (.int a3), some (.int a4), none] [.null] τ12
      refine m_astoreN (L1 := [some (.ref (G.1 0 0)), some (.int a1), some (.int a2), some (.int a3), some (.int a4), some (.null)]) C dX11_marks_18 (by decide) rfl rfl ?_
      refine m_aloadN C dX11_marks_20 rfl ?_
      refine m_ifnullN (tgt := 45) C dX11_marks_22 (by decide) ?_
      refine m_ldc (v := (-1000001)) C dX11_marks_45 q1_234 ?_
      exact m_iret C hr hlk (by decide) (by decide) dX11_marks_47 ⟨_, rfl, i13, g17, (iv_wk kc_m1000001 (by decide)), v19⟩
    · have b20 : IV a1 0 7 := ⟨by have q1 := (iv_any a1); omega, by have q1 := (iv_any a1); omega⟩
      show MW p l e _ s m args below meth c _ 6 G 0 0 18 [some (.ref (G.1 0 0)), some (.int a1), some (.int a2), some (.int a3), some (.int a4), none] [.ref (G.1 20 (a1.toInt.toNat))] τ12
      refine m_astore (L1 := [some (.ref (G.1 0 0)), some (.int a1), some (.int a2), some (.int a3), some (.int a4), some (.ref (G.1 20 (a1.toInt.toNat)))]) C dX11_marks_18 (by decide) rfl rfl ?_
      refine m_aload C dX11_marks_20 rfl ?_
      refine m_ifnull C dX11_marks_22 ?_
      refine m_iload_n C dX11_marks_25 rfl rfl ?_
      refine m_callS (n := 1) (st := []) C (c_X11_isMark l G τ12 (a2) i13 ) q3_190 q3_188 q3_189 q1_1 (by decide +kernel) rfl (by decide) (by decide) rfl (Nat.le_of_ble_eq_true rfl) dX11_marks_26 ?_
      rintro _ τ21 ⟨x24, rfl, i22, f23, b25⟩
      have g26 : Fr MS_X11_marksS AS_X11_marksS σ τ21 := Fr.call (g17) f23 (by decide)
      have v28 : SFc σ τ21 := v19.fr f23 (by decide) (by decide)
      show MW p l e _ s m args below meth c _ 6 G 0 0 29 [some (.ref (G.1 0 0)), some (.int a1), some (.int a2), some (.int a3), some (.int a4), some (.ref (G.1 20 (a1.toInt.toNat)))] [.int x24] τ21
      refine m_if_eq (tgt := 45) C dX11_marks_29 (by decide) (fun c29 => ?_) (fun c29 => ?_)
      · have f30 : x24.toInt = 0 := by
          have q : _ := c29
          simp only [ti_nle, ti_nlt, ti_le, ti_lt, ti_eq, ti_ne, Classical.not_not, kt_0] at q
          omega
        have b31 : IV x24 0 0 := ⟨by have q1 := b25; have q2 := kc_0; omega, by have q1 := b25; have q2 := kc_0; omega⟩
        refine m_ldc (v := (-1000001)) C dX11_marks_45 q1_234 ?_
        exact m_iret C hr hlk (by decide) (by decide) dX11_marks_47 ⟨_, rfl, i22, g26, (iv_wk kc_m1000001 (by decide)), v28⟩
      · have f32 : x24.toInt ≠ 0 := by
          have q : _ := c29
          simp only [ti_nle, ti_nlt, ti_le, ti_lt, ti_eq, ti_ne, Classical.not_not, kt_0] at q
          omega
        have b33 : IV x24 1 1 := ⟨by have q1 := b25; have q2 := kc_0; omega, by have q1 := b25; have q2 := kc_0; omega⟩
        refine m_iload_n C dX11_marks_32 rfl rfl ?_
        refine m_callS (n := 1) (st := []) C (c_X11_isMark l G τ21 (a3) i22 ) q3_190 q3_188 q3_189 q1_1 (by decide +kernel) rfl (by decide) (by decide) rfl (Nat.le_of_ble_eq_true rfl) dX11_marks_33 ?_
        rintro _ τ34 ⟨x37, rfl, i35, f36, b38⟩
        have g39 : Fr MS_X11_marksS AS_X11_marksS σ τ34 := Fr.call (g26) f36 (by decide)
        have v41 : SFc σ τ34 := v28.fr f36 (by decide) (by decide)
        show MW p l e _ s m args below meth c _ 6 G 0 0 36 [some (.ref (G.1 0 0)), some (.int a1), some (.int a2), some (.int a3), some (.int a4), some (.ref (G.1 20 (a1.toInt.toNat)))] [.int x37] τ34
        refine m_if_eq (tgt := 45) C dX11_marks_36 (by decide) (fun c42 => ?_) (fun c42 => ?_)
        · have f43 : x37.toInt = 0 := by
            have q : _ := c42
            simp only [ti_nle, ti_nlt, ti_le, ti_lt, ti_eq, ti_ne, Classical.not_not, kt_0] at q
            omega
          have b44 : IV x37 0 0 := ⟨by have q1 := b38; have q2 := kc_0; omega, by have q1 := b38; have q2 := kc_0; omega⟩
          refine m_ldc (v := (-1000001)) C dX11_marks_45 q1_234 ?_
          exact m_iret C hr hlk (by decide) (by decide) dX11_marks_47 ⟨_, rfl, i35, g39, (iv_wk kc_m1000001 (by decide)), v41⟩
        · have f45 : x37.toInt ≠ 0 := by
            have q : _ := c42
            simp only [ti_nle, ti_nlt, ti_le, ti_lt, ti_eq, ti_ne, Classical.not_not, kt_0] at q
            omega
          have b46 : IV x37 1 1 := ⟨by have q1 := b38; have q2 := kc_0; omega, by have q1 := b38; have q2 := kc_0; omega⟩
          refine m_iload C dX11_marks_39 rfl ?_
          refine m_iconst (v := (-1)) C dX11_marks_41 (by decide) ?_
          refine m_icmp_ge (tgt := 48) C dX11_marks_42 (by decide) (fun c47 => ?_) (fun c47 => ?_)
          · have f48 : -1 ≤ a4.toInt := by
              have q : _ := c47
              simp only [ti_nle, ti_nlt, ti_le, ti_lt, ti_eq, ti_ne, Classical.not_not, kt_m1] at q
              omega
            have b49 : IV a4 (-1) 2147483647 := ⟨by have q1 := kc_m1; have q2 := (iv_any a4); omega, by have q1 := kc_m1; have q2 := (iv_any a4); omega⟩
            refine m_aload C dX11_marks_48 rfl ?_
            refine m_callV (n := 0) (ci := 6) (st := []) C (c_X7_isMissing l G τ34 (j := (a1.toInt.toNat)) (iv_nat b20 (by decide))  i35 ) (by decide) (iv_nat b20 (by decide)) rfl rfl rfl q2_15 q2_12 q2_13 q2_14 q1_6 (by decide +kernel) rfl (by decide) (by decide) rfl (Nat.le_of_ble_eq_true rfl) dX11_marks_50 ?_
            rintro _ τ50 ⟨x53, rfl, i51, f52, b54⟩
            have g55 : Fr MS_X11_marksS AS_X11_marksS σ τ50 := Fr.call (g39) f52 (by decide)
            have v57 : SFc σ τ50 := v41.fr f52 (by decide) (by decide)
            show MW p l e _ s m args below meth c _ 6 G 0 0 53 [some (.ref (G.1 0 0)), some (.int a1), some (.int a2), some (.int a3), some (.int a4), some (.ref (G.1 20 (a1.toInt.toNat)))] [.int x53] τ50
            refine m_if_eq (tgt := 62) C dX11_marks_53 (by decide) (fun c58 => ?_) (fun c58 => ?_)
            · have f59 : x53.toInt = 0 := by
                have q : _ := c58
                simp only [ti_nle, ti_nlt, ti_le, ti_lt, ti_eq, ti_ne, Classical.not_not, kt_0] at q
                omega
              have b60 : IV x53 0 0 := ⟨by have q1 := b54; have q2 := kc_0; omega, by have q1 := b54; have q2 := kc_0; omega⟩
              refine m_aload C dX11_marks_62 rfl ?_
              refine g_20_2 C (iv_nat b20 (by decide)) q1_177 dX11_marks_64 ?_
              refine m_topi (fun x61 ex61 => ?_)
              have b62 : IV x61 0 40 := by rw [ex61]; exact i51.1 20 (a1.toInt.toNat) 2
              refine m_aload_n C dX11_marks_67 rfl rfl ?_
              refine g_0_2 C q1_188 dX11_marks_68 ?_
              refine g_1_2 C (by decide) q1_82 dX11_marks_71 ?_
              refine m_topi (fun x63 ex63 => ?_)
              have b64 : IV x63 0 7 := by rw [ex63]; exact i51.1 1 0 2
              refine m_icmp_ge (tgt := 83) C dX11_marks_74 (by decide) (fun c65 => ?_) (fun c65 => ?_)
              · have f66 : x63.toInt ≤ x61.toInt := by
                  have q : _ := c65
                  simp only [ti_nle, ti_nlt, ti_le, ti_lt, ti_eq, ti_ne, Classical.not_not] at q
                  omega
                refine m_aload C dX11_marks_83 rfl ?_
                refine m_aload_n C dX11_marks_85 rfl rfl ?_
                refine g_0_2 C q1_188 dX11_marks_86 ?_
                refine g_1_2 C (by decide) q1_82 dX11_marks_89 ?_
                refine m_eqs (w := x63) ex63.symm ?_
                refine m_iconst (v := (-1)) C dX11_marks_92 (by decide) ?_
                refine m_aload_n C dX11_marks_93 rfl rfl ?_
                refine g_0_2 C q1_188 dX11_marks_94 ?_
                refine g_1_0 C (by decide) q1_76 dX11_marks_97 ?_
                refine m_topi (fun x67 ex67 => ?_)
                refine m_iconst (v := 1) C dX11_marks_100 (by decide) ?_
                refine m_isub C dX11_marks_101 ?_
                refine m_topi (fun x68 ex68 => ?_)
                refine m_callV (n := 3) (ci := 6) (st := []) C (c_X7_holds l G τ50 (j := (a1.toInt.toNat)) (iv_nat b20 (by decide)) (x63) ((-1)) (x68) i51 ) (by decide) (iv_nat b20 (by decide)) rfl rfl rfl q3_194 q3_191 q3_192 q3_193 q1_6 (by decide +kernel) rfl (by decide) (by decide) rfl (Nat.le_of_ble_eq_true rfl) dX11_marks_102 ?_
                rintro _ τ69 ⟨x72, rfl, i70, f71, b73⟩
                have g74 : Fr MS_X11_marksS AS_X11_marksS σ τ69 := Fr.call (g55) f71 (by decide)
                have v76 : SFc σ τ69 := v57.fr f71 (by decide) (by decide)
                show MW p l e _ s m args below meth c _ 6 G 0 0 105 [some (.ref (G.1 0 0)), some (.int a1), some (.int a2), some (.int a3), some (.int a4), some (.ref (G.1 20 (a1.toInt.toNat)))] [.int x72] τ69
                refine m_if_ne (tgt := 111) C dX11_marks_105 (by decide) (fun c77 => ?_) (fun c77 => ?_)
                · have f78 : x72.toInt ≠ 0 := by
                    have q : _ := c77
                    simp only [ti_nle, ti_nlt, ti_le, ti_lt, ti_eq, ti_ne, Classical.not_not, kt_0] at q
                    omega
                  have b79 : IV x72 1 1 := ⟨by have q1 := b73; have q2 := kc_0; omega, by have q1 := b73; have q2 := kc_0; omega⟩
                  refine m_aload_n C dX11_marks_111 rfl rfl ?_
                  refine g_0_3 C q1_189 dX11_marks_112 ?_
                  refine m_aload_n C dX11_marks_115 rfl rfl ?_
                  refine g_0_2 C q1_188 dX11_marks_116 ?_
                  refine m_callV (n := 1) (ci := 7) (st := []) C (c_X8_takeFromS l G τ69 (j := 1) (by decide) (j2 := 0) (by decide) i70 (by omega)) (by decide) (by decide) rfl rfl rfl q3_9 q3_6 q3_7 q3_8 q1_3 (by decide +kernel) rfl (by decide) (by decide) rfl (Nat.le_of_ble_eq_true rfl) dX11_marks_119 ?_
                  rintro _ τ80 ⟨rfl, i81, f82, h86⟩
                  have g85 : Fr MS_X11_marksS AS_X11_marksS σ τ80 := Fr.call (g74) f82 (by decide)
                  have v87 : SFc σ τ80 := v76.take h86
                  show MW p l e _ s m args below meth c _ 6 G 0 0 122 [some (.ref (G.1 0 0)), some (.int a1), some (.int a2), some (.int a3), some (.int a4), some (.ref (G.1 20 (a1.toInt.toNat)))] [] τ80
                  refine m_aload C dX11_marks_122 rfl ?_
                  refine g_20_0 C (iv_nat b20 (by decide)) q1_173 dX11_marks_124 ?_
                  refine m_iconst (v := 0) C dX11_marks_127 (by decide) ?_
                  refine m_aload_n C dX11_marks_128 rfl rfl ?_
                  refine g_0_3 C q1_189 dX11_marks_129 ?_
                  refine g_1_5 C (by decide) q1_88 dX11_marks_132 ?_
                  refine m_iconst (v := 0) C dX11_marks_135 (by decide) ?_
                  refine m_aload_n C dX11_marks_136 rfl rfl ?_
                  refine g_0_2 C q1_188 dX11_marks_137 ?_
                  refine g_1_2 C (by decide) q1_82 dX11_marks_140 ?_
                  refine m_topi (fun x88 ex88 => ?_)
                  have b89 : IV x88 0 7 := by rw [ex88]; exact i81.1 1 0 2
                  have q90 := b89
                  have q91 := kt_0
                  refine m_copy (t0 := 21) (n0 := 40) (t1 := 2) (n1 := 7) (st := []) C (by decide) (iv_nat b20 (by decide)) rfl (by decide) (by decide) (fun _ => rfl) ⟨by omega, by omega, by omega, by omega, by omega⟩ q2_28 q2_30 q2_29 q1_8 ⟨by decide, by decide +kernel⟩ dX11_marks_143 ?_
                  refine m_tops (fun τ92 eτ92 => ?_)
                  have i93 : Inv τ92 := eτ92 ▸ Inv.putRow i81 (by decide) (fun _ => rfl)
                  have f94 : Fr MS_X11_marksS AS_X11_marksS σ τ92 := eτ92 ▸ Fr.putRow (g85) (by decide)
                  have v95 : SFc σ τ92 := v87.row eτ92 (by decide)
                  refine m_aload_n C dX11_marks_146 rfl rfl ?_
                  refine m_aload_n C dX11_marks_147 rfl rfl ?_
                  refine m_iload_n C dX11_marks_148 rfl rfl ?_
                  refine m_iload_n C dX11_marks_149 rfl rfl ?_
                  refine m_iload C dX11_marks_150 rfl ?_
                  refine m_callV (n := 3) (ci := 10) (st := [.ref (G.1 0 0)]) C (c_X11_setThatMakes l G τ92 (a2) (a3) (a4) i93 ) (by decide) (by decide) rfl rfl rfl q3_198 q3_195 q3_197 q0_21 q1_1 (by decide +kernel) rfl (by decide) (by decide) rfl (Nat.le_of_ble_eq_true rfl) dX11_marks_152 ?_
                  rintro _ τ96 ⟨x99, rfl, i97, f98, b100⟩
                  have g101 : Fr MS_X11_marksS AS_X11_marksS σ τ96 := Fr.call (f94) f98 (by decide)
                  have v103 : SFc σ τ96 := v95.fr f98 (by decide) (by decide)
                  show MW p l e _ s m args below meth c _ 6 G 0 0 155 [some (.ref (G.1 0 0)), some (.int a1), some (.int a2), some (.int a3), some (.int a4), some (.ref (G.1 20 (a1.toInt.toNat)))] [.int x99, .ref (G.1 0 0)] τ96
                  refine m_callV (n := 1) (ci := 10) (st := []) C (c_X11_clean l G τ96 (x99) i97 ) (by decide) (by decide) rfl rfl rfl q2_7 q2_4 q2_6 q0_2 q1_1 (by decide +kernel) rfl (by decide) (by decide) rfl (Nat.le_of_ble_eq_true rfl) dX11_marks_155 ?_
                  rintro _ τ104 ⟨x107, rfl, i105, f106, b108, h110⟩
                  have g109 : Fr MS_X11_marksS AS_X11_marksS σ τ104 := Fr.call (g101) f106 (by decide)
                  have v111 : SFc σ τ104 := v103.fr f106 (by decide) (by decide)
                  show MW p l e _ s m args below meth c _ 6 G 0 0 158 [some (.ref (G.1 0 0)), some (.int a1), some (.int a2), some (.int a3), some (.int a4), some (.ref (G.1 20 (a1.toInt.toNat)))] [.int x107] τ104
                  exact m_iret C hr hlk (by decide) (by decide) dX11_marks_158 ⟨_, rfl, i105, g109, b108, v111⟩
                · have f112 : x72.toInt = 0 := by
                    have q : _ := c77
                    simp only [ti_nle, ti_nlt, ti_le, ti_lt, ti_eq, ti_ne, Classical.not_not, kt_0] at q
                    omega
                  have b113 : IV x72 0 0 := ⟨by have q1 := b73; have q2 := kc_0; omega, by have q1 := b73; have q2 := kc_0; omega⟩
                  refine m_ldc (v := (-1000001)) C dX11_marks_108 q1_234 ?_
                  exact m_iret C hr hlk (by decide) (by decide) dX11_marks_110 ⟨_, rfl, i70, g74, (iv_wk kc_m1000001 (by decide)), v76⟩
              · have f114 : x61.toInt < x63.toInt := by
                  have q : _ := c65
                  simp only [ti_nle, ti_nlt, ti_le, ti_lt, ti_eq, ti_ne, Classical.not_not] at q
                  omega
                have b115 : IV x61 0 6 := ⟨by have q1 := b62; have q2 := b64; omega, by have q1 := b62; have q2 := b64; omega⟩
                have b116 : IV x63 1 7 := ⟨by have q1 := b62; have q2 := b64; omega, by have q1 := b62; have q2 := b64; omega⟩
                refine m_aload_n C dX11_marks_77 rfl rfl ?_
                refine m_iconst (v := 2) C dX11_marks_78 (by decide) ?_
                refine m_callV (n := 1) (ci := 10) (st := []) C (c_X11_found l G τ50 (2) i51 (iv_wk kc_2 (by decide))) (by decide) (by decide) rfl rfl rfl q1_238 q1_235 q1_237 q0_1 q1_1 (by decide +kernel) rfl (by decide) (by decide) rfl (Nat.le_of_ble_eq_true rfl) dX11_marks_79 ?_
                rintro _ τ117 ⟨x120, rfl, i118, f119, b121, h123⟩
                have g122 : Fr MS_X11_marksS AS_X11_marksS σ τ117 := Fr.call (g55) f119 (by decide)
                have v124 : SFc σ τ117 := v57.fr f119 (by decide) (by decide)
                have q125 := kt_2
                show MW p l e _ s m args below meth c _ 6 G 0 0 82 [some (.ref (G.1 0 0)), some (.int a1), some (.int a2), some (.int a3), some (.int a4), some (.ref (G.1 20 (a1.toInt.toNat)))] [.int x120] τ117
                exact m_iret C hr hlk (by decide) (by decide) dX11_marks_82 ⟨_, rfl, i118, g122, (iv_wk b121 (by decide)), v124⟩
            · have f126 : x53.toInt ≠ 0 := by
                have q : _ := c58
                simp only [ti_nle, ti_nlt, ti_le, ti_lt, ti_eq, ti_ne, Classical.not_not, kt_0] at q
                omega
              have b127 : IV x53 1 1 := ⟨by have q1 := b54; have q2 := kc_0; omega, by have q1 := b54; have q2 := kc_0; omega⟩
              refine m_aload_n C dX11_marks_56 rfl rfl ?_
              refine m_iconst (v := 1) C dX11_marks_57 (by decide) ?_
              refine m_callV (n := 1) (ci := 10) (st := []) C (c_X11_found l G τ50 (1) i51 (iv_wk kc_1 (by decide))) (by decide) (by decide) rfl rfl rfl q1_238 q1_235 q1_237 q0_1 q1_1 (by decide +kernel) rfl (by decide) (by decide) rfl (Nat.le_of_ble_eq_true rfl) dX11_marks_58 ?_
              rintro _ τ128 ⟨x131, rfl, i129, f130, b132, h134⟩
              have g133 : Fr MS_X11_marksS AS_X11_marksS σ τ128 := Fr.call (g55) f130 (by decide)
              have v135 : SFc σ τ128 := v57.fr f130 (by decide) (by decide)
              have q136 := kt_1
              show MW p l e _ s m args below meth c _ 6 G 0 0 61 [some (.ref (G.1 0 0)), some (.int a1), some (.int a2), some (.int a3), some (.int a4), some (.ref (G.1 20 (a1.toInt.toNat)))] [.int x131] τ128
              exact m_iret C hr hlk (by decide) (by decide) dX11_marks_61 ⟨_, rfl, i129, g133, (iv_wk b132 (by decide)), v135⟩
          · have f137 : a4.toInt < -1 := by
              have q : _ := c47
              simp only [ti_nle, ti_nlt, ti_le, ti_lt, ti_eq, ti_ne, Classical.not_not, kt_m1] at q
              omega
            have b138 : IV a4 (-2147483648) (-2) := ⟨by have q1 := (iv_any a4); have q2 := kc_m1; omega, by have q1 := (iv_any a4); have q2 := kc_m1; omega⟩
            refine m_ldc (v := (-1000001)) C dX11_marks_45 q1_234 ?_
            exact m_iret C hr hlk (by decide) (by decide) dX11_marks_47 ⟨_, rfl, i35, g39, (iv_wk kc_m1000001 (by decide)), v41⟩
  · have f139 : x4.toInt = 0 := by
      have q : _ := c9
      simp only [ti_nle, ti_nlt, ti_le, ti_lt, ti_eq, ti_ne, Classical.not_not, kt_0] at q
      omega
    have b140 : IV x4 0 0 := ⟨by have q1 := b5; have q2 := kc_0; omega, by have q1 := b5; have q2 := kc_0; omega⟩
    refine m_ldc (v := (-1000002)) C dX11_marks_10 q3_42 ?_
    exact m_iret C hr hlk (by decide) (by decide) dX11_marks_12 ⟨_, rfl, i2, g6, (iv_wk kc_m1000002 (by decide)), v8⟩

abbrev MS_X11_fallS : List (Nat × Nat) := [(1, 0), (1, 1), (1, 2), (1, 3), (1, 9), (1, 10), (1, 11)]
abbrev AS_X11_fallS : List Nat := [2, 3, 4, 5, 6]
set_option maxHeartbeats 4000000 in
set_option maxRecDepth 100000 in
theorem c_X11_fallS (l : Launch) (G : Gt) (σ : Sg) (hI : Inv σ) : Mc l G yX11_fall cX11_fall 2 (some .int) 4 88 0 0 [.ref (G.1 0 0)] σ (PI fun r τ => Inv τ ∧ Fr MS_X11_fallS AS_X11_fallS σ τ ∧ IV r (-1000002) 99 ∧ SFc σ τ) := by
  refine Mc.of (L0 := [some (.ref (G.1 0 0)), none]) (by decide) (Nat.le_of_ble_eq_true rfl) rfl ?_
  intro p e s m args below meth c C hr hlk
  have C : Cx p s m args c cX11_fall 2 "LeanTower" := C
  have k0 : (0 : Int32).toInt = 0 := by decide
  have k1 : (1 : Int32).toInt = 1 := by decide
  have J26 : ∀ (n : Nat) (τ : Sg) (y1 : Int32), Inv τ → Fr MS_X11_fallS AS_X11_fallS σ τ → IV y1 0 100 → (SFc σ τ) → (100 - y1.toInt).toNat < n → MW p l e { frames := 4, cells := 0, slots := 0, locals := 88 } s m args below meth c (MQ below (QP G (PI fun r τ => Inv τ ∧ Fr MS_X11_fallS AS_X11_fallS σ τ ∧ IV r (-1000002) 99 ∧ SFc σ τ)) args s 0 0 (aG G)) 2 G 0 0 26 [some (.ref (G.1 0 0)), some (.int y1)] [] τ := by
    intro n
    induction n with
    | zero => intro τ y1 iτ fτ b_y1 v_SC hm; exact absurd hm (Nat.not_lt_zero _)
    | succ n ih26 =>
      intro τ y1 iτ fτ b_y1 v_SC hm26
      refine m_iload_n C dX11_fall_26 rfl rfl ?_
      refine m_bipush (v := 99) C dX11_fall_27 (by decide) ?_
      refine m_icmp_gt (tgt := 57) C dX11_fall_29 (by decide) (fun c1 => ?_) (fun c1 => ?_)
      · have f2 : 99 < y1.toInt := by
          have q : _ := c1
          simp only [ti_nle, ti_nlt, ti_le, ti_lt, ti_eq, ti_ne, Classical.not_not, kt_99] at q
          omega
        have b3 : IV y1 100 100 := ⟨by have q1 := kc_99; have q2 := b_y1; omega, by have q1 := kc_99; have q2 := b_y1; omega⟩
        refine m_ldc (v := (-1000000)) C dX11_fall_57 q3_43 ?_
        exact m_iret C hr hlk (by decide) (by decide) dX11_fall_59 ⟨_, rfl, iτ, fτ, (iv_wk kc_m1000000 (by decide)), v_SC⟩
      · have f4 : y1.toInt ≤ 99 := by
          have q : _ := c1
          simp only [ti_nle, ti_nlt, ti_le, ti_lt, ti_eq, ti_ne, Classical.not_not, kt_99] at q
          omega
        have b5 : IV y1 0 99 := ⟨by have q1 := b_y1; have q2 := kc_99; omega, by have q1 := b_y1; have q2 := kc_99; omega⟩
        refine m_aload_n C dX11_fall_32 rfl rfl ?_
        refine g_0_3 C q1_189 dX11_fall_33 ?_
        refine m_callV (n := 0) (ci := 7) (st := []) C (c_X8_isBeyond l G τ (j := 1) (by decide)  iτ ) (by decide) (by decide) rfl rfl rfl q3_74 q3_71 q3_72 q3_73 q1_3 (by decide +kernel) rfl (by decide) (by decide) rfl (Nat.le_of_ble_eq_true rfl) dX11_fall_36 ?_
        rintro _ τ6 ⟨x9, rfl, i7, f8, b10⟩
        have g11 : Fr MS_X11_fallS AS_X11_fallS σ τ6 := Fr.call (fτ) f8 (by decide)
        have v13 : SFc σ τ6 := v_SC.fr f8 (by decide) (by decide)
        show MW p l e _ s m args below meth c _ 2 G 0 0 39 [some (.ref (G.1 0 0)), some (.int y1)] [.int x9] τ6
        refine m_if_eq (tgt := 44) C dX11_fall_39 (by decide) (fun c14 => ?_) (fun c14 => ?_)
        · have f15 : x9.toInt = 0 := by
            have q : _ := c14
            simp only [ti_nle, ti_nlt, ti_le, ti_lt, ti_eq, ti_ne, Classical.not_not, kt_0] at q
            omega
          have b16 : IV x9 0 0 := ⟨by have q1 := b10; have q2 := kc_0; omega, by have q1 := b10; have q2 := kc_0; omega⟩
          refine m_aload_n C dX11_fall_44 rfl rfl ?_
          refine g_0_3 C q1_189 dX11_fall_45 ?_
          refine m_callV (n := 0) (ci := 7) (st := []) C (c_X8_passYear l G τ6 (j := 1) (by decide)  i7 ) (by decide) (by decide) rfl rfl rfl q3_102 q3_99 q3_100 q3_101 q1_3 (by decide +kernel) rfl (by decide) (by decide) rfl (Nat.le_of_ble_eq_true rfl) dX11_fall_48 ?_
          rintro _ τ17 ⟨rfl, i18, f19⟩
          have g22 : Fr MS_X11_fallS AS_X11_fallS σ τ17 := Fr.call (g11) f19 (by decide)
          have v24 : SFc σ τ17 := v13.fr f19 (by decide) (by decide)
          show MW p l e _ s m args below meth c _ 2 G 0 0 51 [some (.ref (G.1 0 0)), some (.int y1)] [] τ17
          obtain ⟨x25, ex25⟩ : ∃ y : Int32, y = y1 + 1 := ⟨_, rfl⟩
          have tx25 : x25.toInt = y1.toInt + 1 := by rw [ex25, ti_addv b5 kc_1 (by decide), kt_1]
          have b26 : IV x25 1 100 := by rw [ex25]; exact iv_add b5 kc_1 (by decide)
          refine m_iinc (v := x25) (L1 := [some (.ref (G.1 0 0)), some (.int x25)]) C dX11_fall_51 rfl (by rw [ex25]; rfl) (by decide) rfl rfl ?_
          refine m_goto (tgt := 26) C dX11_fall_54 (by decide) ?_
          exact ih26 τ17 x25 i18 g22 (iv_wk b26 (by decide)) v24 (by have q := hm26; omega)
        · have f27 : x9.toInt ≠ 0 := by
            have q : _ := c14
            simp only [ti_nle, ti_nlt, ti_le, ti_lt, ti_eq, ti_ne, Classical.not_not, kt_0] at q
            omega
          have b28 : IV x9 1 1 := ⟨by have q1 := b10; have q2 := kc_0; omega, by have q1 := b10; have q2 := kc_0; omega⟩
          refine m_iload_n C dX11_fall_42 rfl rfl ?_
          exact m_iret C hr hlk (by decide) (by decide) dX11_fall_43 ⟨_, rfl, i7, g11, (iv_wk b5 (by decide)), v13⟩
  refine m_aload_n C dX11_fall_0 rfl rfl ?_
  refine g_0_2 C q1_188 dX11_fall_1 ?_
  refine m_callV (n := 0) (ci := 7) (st := []) C (c_X8_stands l G σ (j := 0) (by decide)  hI ) (by decide) (by decide) rfl rfl rfl q3_41 q3_38 q3_39 q3_40 q1_3 (by decide +kernel) rfl (by decide) (by decide) rfl (Nat.le_of_ble_eq_true rfl) dX11_fall_4 ?_
  rintro _ τ29 ⟨x32, rfl, i30, f31, b33⟩
  have g34 : Fr MS_X11_fallS AS_X11_fallS σ τ29 := Fr.call (Fr.rf) f31 (by decide)
  have v36 : SFc σ τ29 := SFc.rf.fr f31 (by decide) (by decide)
  show MW p l e _ s m args below meth c _ 2 G 0 0 7 [some (.ref (G.1 0 0)), none] [.int x32] τ29
  refine m_if_ne (tgt := 13) C dX11_fall_7 (by decide) (fun c37 => ?_) (fun c37 => ?_)
  · have f38 : x32.toInt ≠ 0 := by
      have q : _ := c37
      simp only [ti_nle, ti_nlt, ti_le, ti_lt, ti_eq, ti_ne, Classical.not_not, kt_0] at q
      omega
    have b39 : IV x32 1 1 := ⟨by have q1 := b33; have q2 := kc_0; omega, by have q1 := b33; have q2 := kc_0; omega⟩
    refine m_aload_n C dX11_fall_13 rfl rfl ?_
    refine g_0_3 C q1_189 dX11_fall_14 ?_
    refine m_aload_n C dX11_fall_17 rfl rfl ?_
    refine g_0_2 C q1_188 dX11_fall_18 ?_
    refine m_callV (n := 1) (ci := 7) (st := []) C (c_X8_takeFromS l G τ29 (j := 1) (by decide) (j2 := 0) (by decide) i30 (by omega)) (by decide) (by decide) rfl rfl rfl q3_9 q3_6 q3_7 q3_8 q1_3 (by decide +kernel) rfl (by decide) (by decide) rfl (Nat.le_of_ble_eq_true rfl) dX11_fall_21 ?_
    rintro _ τ40 ⟨rfl, i41, f42, h46⟩
    have g45 : Fr MS_X11_fallS AS_X11_fallS σ τ40 := Fr.call (g34) f42 (by decide)
    have v47 : SFc σ τ40 := v36.take h46
    show MW p l e _ s m args below meth c _ 2 G 0 0 24 [some (.ref (G.1 0 0)), none] [] τ40
    refine m_iconst (v := 0) C dX11_fall_24 (by decide) ?_
    refine m_istore_n (L1 := [some (.ref (G.1 0 0)), some (.int 0)]) C dX11_fall_25 rfl (by decide) rfl rfl ?_
    exact J26 ((100 - (0 : Int32).toInt).toNat + 1) τ40 0 i41 g45 (iv_wk kc_0 (by decide)) v47 (Nat.lt_succ_self _)
  · have f48 : x32.toInt = 0 := by
      have q : _ := c37
      simp only [ti_nle, ti_nlt, ti_le, ti_lt, ti_eq, ti_ne, Classical.not_not, kt_0] at q
      omega
    have b49 : IV x32 0 0 := ⟨by have q1 := b33; have q2 := kc_0; omega, by have q1 := b33; have q2 := kc_0; omega⟩
    refine m_ldc (v := (-1000002)) C dX11_fall_10 q3_42 ?_
    exact m_iret C hr hlk (by decide) (by decide) dX11_fall_12 ⟨_, rfl, i30, g34, (iv_wk kc_m1000002 (by decide)), v36⟩

abbrev MS_X11_keepActS : List (Nat × Nat) := [(0, 5), (0, 6), (1, 0), (1, 1), (1, 2), (1, 3), (1, 9), (1, 10), (1, 11)]
abbrev AS_X11_keepActS : List Nat := [2, 3, 4, 5, 6]
set_option maxHeartbeats 4000000 in
set_option maxRecDepth 100000 in
theorem c_X11_keepActS (l : Launch) (G : Gt) (σ : Sg) (S : Stt) (I : Nat → Stt) (hI : Inv σ) (hCA : CA σ S I) : Mc l G yX11_keepAct cX11_keepAct 1 none 1 22 0 0 [.ref (G.1 0 0)] σ (PV fun τ => Inv τ ∧ Fr MS_X11_keepActS AS_X11_keepActS σ τ ∧ CA τ S I) := by
  refine Mc.of (L0 := [some (.ref (G.1 0 0))]) (by decide) (Nat.le_of_ble_eq_true rfl) rfl ?_
  intro p e s m args below meth c C hr hlk
  have C : Cx p s m args c cX11_keepAct 1 "LeanTower" := C
  have k0 : (0 : Int32).toInt = 0 := by decide
  have k1 : (1 : Int32).toInt = 1 := by decide
  have u1 : IV (gV σ 0 0 5) 0 23 := hI.1 0 0 5
  have u2 : IV (gV σ 0 0 6) 0 24 := hI.1 0 0 6
  refine m_aload_n C dX11_keepAct_0 rfl rfl ?_
  refine g_0_4 C q1_190 dX11_keepAct_1 ?_
  refine m_aload_n C dX11_keepAct_4 rfl rfl ?_
  refine g_0_5 C q1_191 dX11_keepAct_5 ?_
  refine m_eqs (w := (gV σ 0 0 5)) rfl ?_
  refine m_aload_n C dX11_keepAct_8 rfl rfl ?_
  refine g_0_6 C q1_192 dX11_keepAct_9 ?_
  refine m_eqs (w := (gV σ 0 0 6)) rfl ?_
  refine m_iadd C dX11_keepAct_12 ?_
  refine m_topi (fun x3 ex3 => ?_)
  have tx3 : x3.toInt = (gV σ 0 0 5).toInt + (gV σ 0 0 6).toInt := by rw [ex3, ti_addv u1 u2 (by decide)]
  have b4 : IV x3 0 47 := by rw [ex3]; exact iv_add u1 u2 (by decide)
  refine m_bipush (v := 24) C dX11_keepAct_13 (by decide) ?_
  refine m_irem C dX11_keepAct_15 (iv_nz kc_24 (by decide)) ?_
  refine m_topi (fun x5 ex5 => ?_)
  have b6 : IV x5 0 23 := by rw [ex5]; exact iv_rem b4 kc_24 (by decide)
  have tx5 : x5.toInt = x3.toInt % 24 := by rw [ex5]; exact ti_rem b4 kc_24 (by decide)
  refine al_8 (n := (x5.toInt.toNat)) C b6 (by decide) rfl dX11_keepAct_16 ?_
  refine m_aload_n C dX11_keepAct_17 rfl rfl ?_
  refine g_0_2 C q1_188 dX11_keepAct_18 ?_
  refine m_callV (n := 1) (ci := 7) (st := []) C (c_X8_takeFromS l G σ (j := ((x5.toInt.toNat) + 2)) (Nat.add_lt_add_right (iv_nat (n := 26) b6 (by decide)) 2) (j2 := 0) (by decide) hI (by omega)) (by decide) (Nat.add_lt_add_right (iv_nat (n := 26) b6 (by decide)) 2) rfl rfl rfl q3_9 q3_6 q3_7 q3_8 q1_3 (by decide +kernel) rfl (by decide) (by decide) rfl (Nat.le_of_ble_eq_true rfl) dX11_keepAct_21 ?_
  rintro _ τ7 ⟨rfl, i8, f9, h13⟩
  have g12 : Fr MS_X11_keepActS AS_X11_keepActS σ τ7 := Fr.call (Fr.rf) f9 (by decide)
  have v14 := hCA.keep (x := (x5.toInt.toNat)) f9 h13 (by omega) (by decide) (by decide)
  have q15 : (gV τ7 0 0 5).toInt = (gV σ 0 0 5).toInt := congrArg Int32.toInt (show (gV τ7 0 0 5) = (gV σ 0 0 5) from (show gV τ7 0 0 5 = (gV σ 0 0 5) from (f9.1 0 0 (5) (by decide) (by decide)).trans rfl))
  have q16 : (gV τ7 0 0 6).toInt = (gV σ 0 0 6).toInt := congrArg Int32.toInt (show (gV τ7 0 0 6) = (gV σ 0 0 6) from (show gV τ7 0 0 6 = (gV σ 0 0 6) from (f9.1 0 0 (6) (by decide) (by decide)).trans rfl))
  show MW p l e _ s m args below meth c _ 1 G 0 0 24 [some (.ref (G.1 0 0))] [] τ7
  refine m_aload_n C dX11_keepAct_24 rfl rfl ?_
  refine g_0_6 C q1_192 dX11_keepAct_25 ?_
  refine m_eqs (w := (gV σ 0 0 6)) (show gV τ7 0 0 6 = (gV σ 0 0 6) from (f9.1 0 0 (6) (by decide) (by decide)).trans rfl) ?_
  refine m_bipush (v := 24) C dX11_keepAct_28 (by decide) ?_
  refine m_icmp_ne (tgt := 49) C dX11_keepAct_30 (by decide) (fun c17 => ?_) (fun c17 => ?_)
  · have f18 : (gV σ 0 0 6).toInt ≠ 24 := by
      have q : _ := c17
      simp only [ti_nle, ti_nlt, ti_le, ti_lt, ti_eq, ti_ne, Classical.not_not, kt_24] at q
      omega
    have b19 : IV (gV σ 0 0 6) 0 23 := ⟨by have q1 := u2; have q2 := kc_24; omega, by have q1 := u2; have q2 := kc_24; omega⟩
    refine m_aload_n C dX11_keepAct_49 rfl rfl ?_
    refine m_dup C dX11_keepAct_50 rfl ?_
    refine g_0_6 C q1_192 dX11_keepAct_51 ?_
    refine m_eqs (w := (gV σ 0 0 6)) (show gV τ7 0 0 6 = (gV σ 0 0 6) from (f9.1 0 0 (6) (by decide) (by decide)).trans rfl) ?_
    refine m_iconst (v := 1) C dX11_keepAct_54 (by decide) ?_
    refine m_iadd C dX11_keepAct_55 ?_
    refine m_topi (fun x20 ex20 => ?_)
    have tx20 : x20.toInt = (gV σ 0 0 6).toInt + 1 := by rw [ex20, ti_addv b19 kc_1 (by decide), kt_1]
    have b21 : IV x20 1 24 := by rw [ex20]; exact iv_add b19 kc_1 (by decide)
    refine p_0_6 C q1_192 dX11_keepAct_56 ?_
    refine m_tops (fun τ22 eτ22 => ?_)
    have i23 : Inv τ22 := eτ22 ▸ Inv.put i8 (by decide) (iv_wk b21 (by decide))
    have f24 : Fr MS_X11_keepActS AS_X11_keepActS σ τ22 := eτ22 ▸ Fr.put (g12) (Or.inl (by decide))
    have v25 : CA τ22 S I := v14.1.more i8 v14.2 (by omega) eτ22 (by omega)
    have q26 : (gV τ22 0 0 5).toInt = (gV σ 0 0 5).toInt := congrArg Int32.toInt (show (gV τ22 0 0 5) = (gV σ 0 0 5) from (show gV τ22 0 0 5 = (gV σ 0 0 5) from gV_put eτ22 (show gV τ7 0 0 5 = (gV σ 0 0 5) from (f9.1 0 0 (5) (by decide) (by decide)).trans rfl)))
    have q27 : (gV τ22 0 0 6).toInt = x20.toInt := congrArg Int32.toInt (show (gV τ22 0 0 6) = x20 from (show gV τ22 0 0 6 = x20 from gV_put eτ22 (gV_self _ _ _ _ _)))
    exact m_vret C hr hlk (by decide) (by decide) dX11_keepAct_59 ⟨rfl, i23, f24, v25⟩
  · have f28 : (gV σ 0 0 6).toInt = 24 := by
      have q : _ := c17
      simp only [ti_nle, ti_nlt, ti_le, ti_lt, ti_eq, ti_ne, Classical.not_not, kt_24] at q
      omega
    have b29 : IV (gV σ 0 0 6) 24 24 := ⟨by have q1 := u2; have q2 := kc_24; omega, by have q1 := u2; have q2 := kc_24; omega⟩
    refine m_aload_n C dX11_keepAct_33 rfl rfl ?_
    refine m_aload_n C dX11_keepAct_34 rfl rfl ?_
    refine g_0_5 C q1_191 dX11_keepAct_35 ?_
    refine m_eqs (w := (gV σ 0 0 5)) (show gV τ7 0 0 5 = (gV σ 0 0 5) from (f9.1 0 0 (5) (by decide) (by decide)).trans rfl) ?_
    refine m_iconst (v := 1) C dX11_keepAct_38 (by decide) ?_
    refine m_iadd C dX11_keepAct_39 ?_
    refine m_topi (fun x30 ex30 => ?_)
    have tx30 : x30.toInt = (gV σ 0 0 5).toInt + 1 := by rw [ex30, ti_addv u1 kc_1 (by decide), kt_1]
    have b31 : IV x30 1 24 := by rw [ex30]; exact iv_add u1 kc_1 (by decide)
    refine m_bipush (v := 24) C dX11_keepAct_40 (by decide) ?_
    refine m_irem C dX11_keepAct_42 (iv_nz kc_24 (by decide)) ?_
    refine m_topi (fun x32 ex32 => ?_)
    have b33 : IV x32 0 23 := by rw [ex32]; exact iv_rem b31 kc_24 (by decide)
    have tx32 : x32.toInt = x30.toInt % 24 := by rw [ex32]; exact ti_rem b31 kc_24 (by decide)
    refine p_0_5 C q1_191 dX11_keepAct_43 ?_
    refine m_tops (fun τ34 eτ34 => ?_)
    have i35 : Inv τ34 := eτ34 ▸ Inv.put i8 (by decide) b33
    have f36 : Fr MS_X11_keepActS AS_X11_keepActS σ τ34 := eτ34 ▸ Fr.put (g12) (Or.inl (by decide))
    have v37 : CA τ34 S I := v14.1.older i8 eτ34 (by omega) (by omega)
    refine m_goto (tgt := 59) C dX11_keepAct_46 (by decide) ?_
    have q38 : (gV τ34 0 0 6).toInt = (gV σ 0 0 6).toInt := congrArg Int32.toInt (show (gV τ34 0 0 6) = (gV σ 0 0 6) from (show gV τ34 0 0 6 = (gV σ 0 0 6) from gV_put eτ34 (show gV τ7 0 0 6 = (gV σ 0 0 6) from (f9.1 0 0 (6) (by decide) (by decide)).trans rfl)))
    have q39 : (gV τ34 0 0 5).toInt = x32.toInt := congrArg Int32.toInt (show (gV τ34 0 0 5) = x32 from (show gV τ34 0 0 5 = x32 from gV_put eτ34 (gV_self _ _ _ _ _)))
    exact m_vret C hr hlk (by decide) (by decide) dX11_keepAct_59 ⟨rfl, i35, f36, v37⟩

abbrev MS_X11_goS : List (Nat × Nat) := [(0, 5), (0, 6), (1, 0), (1, 1), (1, 2), (1, 3), (1, 9), (1, 10), (1, 11)]
abbrev AS_X11_goS : List Nat := [2, 3, 4, 5, 6]
set_option maxHeartbeats 4000000 in
set_option maxRecDepth 100000 in
theorem c_X11_goS (l : Launch) (G : Gt) (σ : Sg) (S : Stt) (I : Nat → Stt) (a1 : Int32) (a2 : Int32) (hI : Inv σ) (hCA : CA σ S I) : Mc l G yX11_go cX11_go 4 (some .int) 2 42 0 0 [.ref (G.1 0 0), .int a1, .int a2] σ (PI fun r τ => Inv τ ∧ Fr MS_X11_goS AS_X11_goS σ τ ∧ IV r (-2147483648) 2147483647 ∧ CA τ S I) := by
  refine Mc.of (L0 := [some (.ref (G.1 0 0)), some (.int a1), some (.int a2), none]) (by decide) (Nat.le_of_ble_eq_true rfl) rfl ?_
  intro p e s m args below meth c C hr hlk
  have C : Cx p s m args c cX11_go 4 "LeanTower" := C
  have k0 : (0 : Int32).toInt = 0 := by decide
  have k1 : (1 : Int32).toInt = 1 := by decide
  refine m_aload_n C dX11_go_0 rfl rfl ?_
  refine g_0_2 C q1_188 dX11_go_1 ?_
  refine m_iload_n C dX11_go_4 rfl rfl ?_
  refine m_callV (n := 1) (ci := 7) (st := []) C (c_X8_hasPerson l G σ (j := 0) (by decide) (a1) hI ) (by decide) (by decide) rfl rfl rfl q3_21 q3_18 q3_19 q3_20 q1_3 (by decide +kernel) rfl (by decide) (by decide) rfl (Nat.le_of_ble_eq_true rfl) dX11_go_5 ?_
  rintro _ τ1 ⟨x4, rfl, i2, f3, b5, h7⟩
  have g6 : Fr MS_X11_goS AS_X11_goS σ τ1 := Fr.call (Fr.rf) f3 (by decide)
  have v8 : CA τ1 S I := hCA.fr f3 (by decide) (by decide)
  show MW p l e _ s m args below meth c _ 4 G 0 0 8 [some (.ref (G.1 0 0)), some (.int a1), some (.int a2), none] [.int x4] τ1
  refine m_if_eq (tgt := 21) C dX11_go_8 (by decide) (fun c9 => ?_) (fun c9 => ?_)
  · have f10 : x4.toInt = 0 := by
      have q : _ := c9
      simp only [ti_nle, ti_nlt, ti_le, ti_lt, ti_eq, ti_ne, Classical.not_not, kt_0] at q
      omega
    have b11 : IV x4 0 0 := ⟨by have q1 := b5; have q2 := kc_0; omega, by have q1 := b5; have q2 := kc_0; omega⟩
    refine m_ldc (v := (-1000001)) C dX11_go_21 q1_234 ?_
    exact m_iret C hr hlk (by decide) (by decide) dX11_go_23 ⟨_, rfl, i2, g6, (iv_wk kc_m1000001 (by decide)), v8⟩
  · have f12 : x4.toInt ≠ 0 := by
      have q : _ := c9
      simp only [ti_nle, ti_nlt, ti_le, ti_lt, ti_eq, ti_ne, Classical.not_not, kt_0] at q
      omega
    have b13 : IV x4 1 1 := ⟨by have q1 := b5; have q2 := kc_0; omega, by have q1 := b5; have q2 := kc_0; omega⟩
    have b14 : IV a1 0 6 := ⟨by have q1 := (iv_any a1); omega, by have q1 := (iv_any a1); omega⟩
    refine m_iload_n C dX11_go_11 rfl rfl ?_
    refine m_iconst (v := (-1)) C dX11_go_12 (by decide) ?_
    refine m_icmp_lt (tgt := 21) C dX11_go_13 (by decide) (fun c15 => ?_) (fun c15 => ?_)
    · have f16 : a2.toInt < -1 := by
        have q : _ := c15
        simp only [ti_nle, ti_nlt, ti_le, ti_lt, ti_eq, ti_ne, Classical.not_not, kt_m1] at q
        omega
      have b17 : IV a2 (-2147483648) (-2) := ⟨by have q1 := (iv_any a2); have q2 := kc_m1; omega, by have q1 := (iv_any a2); have q2 := kc_m1; omega⟩
      refine m_ldc (v := (-1000001)) C dX11_go_21 q1_234 ?_
      exact m_iret C hr hlk (by decide) (by decide) dX11_go_23 ⟨_, rfl, i2, g6, (iv_wk kc_m1000001 (by decide)), v8⟩
    · have f18 : -1 ≤ a2.toInt := by
        have q : _ := c15
        simp only [ti_nle, ti_nlt, ti_le, ti_lt, ti_eq, ti_ne, Classical.not_not, kt_m1] at q
        omega
      have b19 : IV a2 (-1) 2147483647 := ⟨by have q1 := kc_m1; have q2 := (iv_any a2); omega, by have q1 := kc_m1; have q2 := (iv_any a2); omega⟩
      refine m_iload_n C dX11_go_16 rfl rfl ?_
      refine m_iconst (v := 1) C dX11_go_17 (by decide) ?_
      refine m_icmp_le (tgt := 24) C dX11_go_18 (by decide) (fun c20 => ?_) (fun c20 => ?_)
      · have f21 : a2.toInt ≤ 1 := by
          have q : _ := c20
          simp only [ti_nle, ti_nlt, ti_le, ti_lt, ti_eq, ti_ne, Classical.not_not, kt_1] at q
          omega
        have b22 : IV a2 (-1) 1 := ⟨by have q1 := b19; have q2 := kc_1; omega, by have q1 := b19; have q2 := kc_1; omega⟩
        refine m_aload_n C dX11_go_24 rfl rfl ?_
        refine g_0_2 C q1_188 dX11_go_25 ?_
        refine g_1_6 C (by decide) q1_90 dX11_go_28 ?_
        refine m_iload_n C dX11_go_31 rfl rfl ?_
        refine al_3 C (by decide) b14 (by decide) rfl dX11_go_32 ?_
        refine m_topi (fun x23 ex23 => ?_)
        refine m_istore_n (L1 := [some (.ref (G.1 0 0)), some (.int a1), some (.int a2), some (.int x23)]) C dX11_go_33 rfl (by decide) rfl rfl ?_
        refine m_iload_n C dX11_go_34 rfl rfl ?_
        refine m_iload_n C dX11_go_35 rfl rfl ?_
        refine m_icmp_eq (tgt := 53) C dX11_go_36 (by decide) (fun c24 => ?_) (fun c24 => ?_)
        · have f25 : a2.toInt = x23.toInt := by
            have q : _ := c24
            simp only [ti_nle, ti_nlt, ti_le, ti_lt, ti_eq, ti_ne, Classical.not_not] at q
            omega
          have b26 : IV x23 (-1) 1 := ⟨by have q1 := b22; have q2 := (iv_any x23); omega, by have q1 := b22; have q2 := (iv_any x23); omega⟩
          refine m_iload_n C dX11_go_53 rfl rfl ?_
          exact m_iret C hr hlk (by decide) (by decide) dX11_go_54 ⟨_, rfl, i2, g6, (iv_wk b26 (by decide)), v8⟩
        · have f27 : a2.toInt ≠ x23.toInt := by
            have q : _ := c24
            simp only [ti_nle, ti_nlt, ti_le, ti_lt, ti_eq, ti_ne, Classical.not_not] at q
            omega
          refine m_aload_n C dX11_go_39 rfl rfl ?_
          refine m_callV (n := 0) (ci := 10) (st := []) C (c_X11_keepActS l G τ1 S I  i2 v8) (by decide) (by decide) rfl rfl rfl q3_25 q3_22 q3_24 q0_14 q1_1 (by decide +kernel) rfl (by decide) (by decide) rfl (Nat.le_of_ble_eq_true rfl) dX11_go_40 ?_
          rintro _ τ28 ⟨rfl, i29, f30, h34⟩
          have g33 : Fr MS_X11_goS AS_X11_goS σ τ28 := Fr.call (g6) f30 (by decide)
          have v35 : CA τ28 S I := h34
          show MW p l e _ s m args below meth c _ 4 G 0 0 43 [some (.ref (G.1 0 0)), some (.int a1), some (.int a2), some (.int x23)] [] τ28
          refine m_aload_n C dX11_go_43 rfl rfl ?_
          refine g_0_2 C q1_188 dX11_go_44 ?_
          refine g_1_6 C (by decide) q1_90 dX11_go_47 ?_
          refine m_iload_n C dX11_go_50 rfl rfl ?_
          refine m_iload_n C dX11_go_51 rfl rfl ?_
          refine as_3 C (by decide) b14 (by decide) rfl dX11_go_52 ?_
          refine m_tops (fun τ36 eτ36 => ?_)
          have i37 : Inv τ36 := eτ36 ▸ Inv.putF i29 (by decide) rfl
          have f38 : Fr MS_X11_goS AS_X11_goS σ τ36 := eτ36 ▸ Fr.put (g33) (Or.inr (by decide))
          have v39 : CA τ36 S I := v35.put eτ36 (Or.inl (by decide)) (Or.inl (by decide))
          refine m_iload_n C dX11_go_53 rfl rfl ?_
          exact m_iret C hr hlk (by decide) (by decide) dX11_go_54 ⟨_, rfl, i37, f38, (iv_any x23), v39⟩
      · have f40 : 1 < a2.toInt := by
          have q : _ := c20
          simp only [ti_nle, ti_nlt, ti_le, ti_lt, ti_eq, ti_ne, Classical.not_not, kt_1] at q
          omega
        have b41 : IV a2 2 2147483647 := ⟨by have q1 := kc_1; have q2 := b19; omega, by have q1 := kc_1; have q2 := b19; omega⟩
        refine m_ldc (v := (-1000001)) C dX11_go_21 q1_234 ?_
        exact m_iret C hr hlk (by decide) (by decide) dX11_go_23 ⟨_, rfl, i2, g6, (iv_wk kc_m1000001 (by decide)), v8⟩

abbrev MS_X11_hangS : List (Nat × Nat) := [(0, 5), (0, 6), (1, 0), (1, 1), (1, 2), (1, 3), (1, 9), (1, 10), (1, 11)]
abbrev AS_X11_hangS : List Nat := [2, 3, 4, 5, 6]
set_option maxHeartbeats 4000000 in
set_option maxRecDepth 100000 in
theorem c_X11_hangS (l : Launch) (G : Gt) (σ : Sg) (S : Stt) (I : Nat → Stt) (a1 : Int32) (a2 : Int32) (hI : Inv σ) (hCA : CA σ S I) : Mc l G yX11_hang cX11_hang 4 (some .int) 2 42 0 0 [.ref (G.1 0 0), .int a1, .int a2] σ (PI fun r τ => Inv τ ∧ Fr MS_X11_hangS AS_X11_hangS σ τ ∧ IV r (-2147483648) 2147483647 ∧ CA τ S I) := by
  refine Mc.of (L0 := [some (.ref (G.1 0 0)), some (.int a1), some (.int a2), none]) (by decide) (Nat.le_of_ble_eq_true rfl) rfl ?_
  intro p e s m args below meth c C hr hlk
  have C : Cx p s m args c cX11_hang 4 "LeanTower" := C
  have k0 : (0 : Int32).toInt = 0 := by decide
  have k1 : (1 : Int32).toInt = 1 := by decide
  refine m_aload_n C dX11_hang_0 rfl rfl ?_
  refine g_0_2 C q1_188 dX11_hang_1 ?_
  refine m_iload_n C dX11_hang_4 rfl rfl ?_
  refine m_callV (n := 1) (ci := 7) (st := []) C (c_X8_hasStone l G σ (j := 0) (by decide) (a1) hI ) (by decide) (by decide) rfl rfl rfl q3_33 q3_30 q3_31 q3_32 q1_3 (by decide +kernel) rfl (by decide) (by decide) rfl (Nat.le_of_ble_eq_true rfl) dX11_hang_5 ?_
  rintro _ τ1 ⟨x4, rfl, i2, f3, b5, h7⟩
  have g6 : Fr MS_X11_hangS AS_X11_hangS σ τ1 := Fr.call (Fr.rf) f3 (by decide)
  have v8 : CA τ1 S I := hCA.fr f3 (by decide) (by decide)
  show MW p l e _ s m args below meth c _ 4 G 0 0 8 [some (.ref (G.1 0 0)), some (.int a1), some (.int a2), none] [.int x4] τ1
  refine m_if_eq (tgt := 20) C dX11_hang_8 (by decide) (fun c9 => ?_) (fun c9 => ?_)
  · have f10 : x4.toInt = 0 := by
      have q : _ := c9
      simp only [ti_nle, ti_nlt, ti_le, ti_lt, ti_eq, ti_ne, Classical.not_not, kt_0] at q
      omega
    have b11 : IV x4 0 0 := ⟨by have q1 := b5; have q2 := kc_0; omega, by have q1 := b5; have q2 := kc_0; omega⟩
    refine m_ldc (v := (-1000001)) C dX11_hang_20 q1_234 ?_
    exact m_iret C hr hlk (by decide) (by decide) dX11_hang_22 ⟨_, rfl, i2, g6, (iv_wk kc_m1000001 (by decide)), v8⟩
  · have f12 : x4.toInt ≠ 0 := by
      have q : _ := c9
      simp only [ti_nle, ti_nlt, ti_le, ti_lt, ti_eq, ti_ne, Classical.not_not, kt_0] at q
      omega
    have b13 : IV x4 1 1 := ⟨by have q1 := b5; have q2 := kc_0; omega, by have q1 := b5; have q2 := kc_0; omega⟩
    have b14 : IV a1 0 3 := ⟨by have q1 := (iv_any a1); omega, by have q1 := (iv_any a1); omega⟩
    refine m_iload_n C dX11_hang_11 rfl rfl ?_
    refine m_if_lt (tgt := 20) C dX11_hang_12 (by decide) (fun c15 => ?_) (fun c15 => ?_)
    · have f16 : a2.toInt < 0 := by
        have q : _ := c15
        simp only [ti_nle, ti_nlt, ti_le, ti_lt, ti_eq, ti_ne, Classical.not_not, kt_0] at q
        omega
      have b17 : IV a2 (-2147483648) (-1) := ⟨by have q1 := (iv_any a2); have q2 := kc_0; omega, by have q1 := (iv_any a2); have q2 := kc_0; omega⟩
      refine m_ldc (v := (-1000001)) C dX11_hang_20 q1_234 ?_
      exact m_iret C hr hlk (by decide) (by decide) dX11_hang_22 ⟨_, rfl, i2, g6, (iv_wk kc_m1000001 (by decide)), v8⟩
    · have f18 : 0 ≤ a2.toInt := by
        have q : _ := c15
        simp only [ti_nle, ti_nlt, ti_le, ti_lt, ti_eq, ti_ne, Classical.not_not, kt_0] at q
        omega
      have b19 : IV a2 0 2147483647 := ⟨by have q1 := kc_0; have q2 := (iv_any a2); omega, by have q1 := kc_0; have q2 := (iv_any a2); omega⟩
      refine m_iload_n C dX11_hang_15 rfl rfl ?_
      refine m_iconst (v := 4) C dX11_hang_16 (by decide) ?_
      refine m_icmp_lt (tgt := 23) C dX11_hang_17 (by decide) (fun c20 => ?_) (fun c20 => ?_)
      · have f21 : a2.toInt < 4 := by
          have q : _ := c20
          simp only [ti_nle, ti_nlt, ti_le, ti_lt, ti_eq, ti_ne, Classical.not_not, kt_4] at q
          omega
        have b22 : IV a2 0 3 := ⟨by have q1 := b19; have q2 := kc_4; omega, by have q1 := b19; have q2 := kc_4; omega⟩
        refine m_aload_n C dX11_hang_23 rfl rfl ?_
        refine g_0_2 C q1_188 dX11_hang_24 ?_
        refine g_1_8 C (by decide) q1_94 dX11_hang_27 ?_
        refine m_iload_n C dX11_hang_30 rfl rfl ?_
        refine al_5 C (by decide) b14 (by decide) rfl dX11_hang_31 ?_
        refine m_topi (fun x23 ex23 => ?_)
        refine m_istore_n (L1 := [some (.ref (G.1 0 0)), some (.int a1), some (.int a2), some (.int x23)]) C dX11_hang_32 rfl (by decide) rfl rfl ?_
        refine m_iload_n C dX11_hang_33 rfl rfl ?_
        refine m_iload_n C dX11_hang_34 rfl rfl ?_
        refine m_icmp_eq (tgt := 52) C dX11_hang_35 (by decide) (fun c24 => ?_) (fun c24 => ?_)
        · have f25 : a2.toInt = x23.toInt := by
            have q : _ := c24
            simp only [ti_nle, ti_nlt, ti_le, ti_lt, ti_eq, ti_ne, Classical.not_not] at q
            omega
          have b26 : IV x23 0 3 := ⟨by have q1 := b22; have q2 := (iv_any x23); omega, by have q1 := b22; have q2 := (iv_any x23); omega⟩
          refine m_iload_n C dX11_hang_52 rfl rfl ?_
          exact m_iret C hr hlk (by decide) (by decide) dX11_hang_53 ⟨_, rfl, i2, g6, (iv_wk b26 (by decide)), v8⟩
        · have f27 : a2.toInt ≠ x23.toInt := by
            have q : _ := c24
            simp only [ti_nle, ti_nlt, ti_le, ti_lt, ti_eq, ti_ne, Classical.not_not] at q
            omega
          refine m_aload_n C dX11_hang_38 rfl rfl ?_
          refine m_callV (n := 0) (ci := 10) (st := []) C (c_X11_keepActS l G τ1 S I  i2 v8) (by decide) (by decide) rfl rfl rfl q3_25 q3_22 q3_24 q0_14 q1_1 (by decide +kernel) rfl (by decide) (by decide) rfl (Nat.le_of_ble_eq_true rfl) dX11_hang_39 ?_
          rintro _ τ28 ⟨rfl, i29, f30, h34⟩
          have g33 : Fr MS_X11_hangS AS_X11_hangS σ τ28 := Fr.call (g6) f30 (by decide)
          have v35 : CA τ28 S I := h34
          show MW p l e _ s m args below meth c _ 4 G 0 0 42 [some (.ref (G.1 0 0)), some (.int a1), some (.int a2), some (.int x23)] [] τ28
          refine m_aload_n C dX11_hang_42 rfl rfl ?_
          refine g_0_2 C q1_188 dX11_hang_43 ?_
          refine g_1_8 C (by decide) q1_94 dX11_hang_46 ?_
          refine m_iload_n C dX11_hang_49 rfl rfl ?_
          refine m_iload_n C dX11_hang_50 rfl rfl ?_
          refine as_5 C (by decide) b14 (by decide) rfl dX11_hang_51 ?_
          refine m_tops (fun τ36 eτ36 => ?_)
          have i37 : Inv τ36 := eτ36 ▸ Inv.putF i29 (by decide) rfl
          have f38 : Fr MS_X11_hangS AS_X11_hangS σ τ36 := eτ36 ▸ Fr.put (g33) (Or.inr (by decide))
          have v39 : CA τ36 S I := v35.put eτ36 (Or.inl (by decide)) (Or.inl (by decide))
          refine m_iload_n C dX11_hang_52 rfl rfl ?_
          exact m_iret C hr hlk (by decide) (by decide) dX11_hang_53 ⟨_, rfl, i37, f38, (iv_any x23), v39⟩
      · have f40 : 4 ≤ a2.toInt := by
          have q : _ := c20
          simp only [ti_nle, ti_nlt, ti_le, ti_lt, ti_eq, ti_ne, Classical.not_not, kt_4] at q
          omega
        have b41 : IV a2 4 2147483647 := ⟨by have q1 := kc_4; have q2 := b19; omega, by have q1 := kc_4; have q2 := b19; omega⟩
        refine m_ldc (v := (-1000001)) C dX11_hang_20 q1_234 ?_
        exact m_iret C hr hlk (by decide) (by decide) dX11_hang_22 ⟨_, rfl, i2, g6, (iv_wk kc_m1000001 (by decide)), v8⟩

abbrev MS_X11_halvesS : List (Nat × Nat) := [(0, 5), (0, 6), (1, 0), (1, 1), (1, 2), (1, 3), (1, 9), (1, 10), (1, 11)]
abbrev AS_X11_halvesS : List Nat := [2, 3, 4, 5, 6]
set_option maxHeartbeats 4000000 in
set_option maxRecDepth 100000 in
theorem c_X11_halvesS (l : Launch) (G : Gt) (σ : Sg) (S : Stt) (I : Nat → Stt) (a1 : Int32) (hI : Inv σ) (hCA : CA σ S I) : Mc l G yX11_halves cX11_halves 4 (some .int) 4 88 0 0 [.ref (G.1 0 0), .int a1] σ (PI fun r τ => Inv τ ∧ Fr MS_X11_halvesS AS_X11_halvesS σ τ ∧ IV r (-1000003) 64 ∧ CA τ S I) := by
  refine Mc.of (L0 := [some (.ref (G.1 0 0)), some (.int a1), none, none]) (by decide) (Nat.le_of_ble_eq_true rfl) rfl ?_
  intro p e s m args below meth c C hr hlk
  have C : Cx p s m args c cX11_halves 4 "LeanTower" := C
  have k0 : (0 : Int32).toInt = 0 := by decide
  have k1 : (1 : Int32).toInt = 1 := by decide
  have J54 : ∀ (n : Nat) (τ : Sg) (y2 : Int32) (y3 : Int32), Inv τ → Fr MS_X11_halvesS AS_X11_halvesS σ τ → IV a1 1 64 → IV y2 (-1000000) 64 → IV y3 1 65 → (CA τ S I) → (65 - y3.toInt).toNat < n → MW p l e { frames := 4, cells := 0, slots := 0, locals := 88 } s m args below meth c (MQ below (QP G (PI fun r τ => Inv τ ∧ Fr MS_X11_halvesS AS_X11_halvesS σ τ ∧ IV r (-1000003) 64 ∧ CA τ S I)) args s 0 0 (aG G)) 4 G 0 0 54 [some (.ref (G.1 0 0)), some (.int a1), some (.int y2), some (.int y3)] [] τ := by
    intro n
    induction n with
    | zero => intro τ y2 y3 iτ fτ b_a1 b_y2 b_y3 v_CA hm; exact absurd hm (Nat.not_lt_zero _)
    | succ n ih54 =>
      intro τ y2 y3 iτ fτ b_a1 b_y2 b_y3 v_CA hm54
      refine m_iload_n C dX11_halves_54 rfl rfl ?_
      refine m_iload_n C dX11_halves_55 rfl rfl ?_
      refine m_icmp_gt (tgt := 90) C dX11_halves_56 (by decide) (fun c1 => ?_) (fun c1 => ?_)
      · have f2 : a1.toInt < y3.toInt := by
          have q : _ := c1
          simp only [ti_nle, ti_nlt, ti_le, ti_lt, ti_eq, ti_ne, Classical.not_not] at q
          omega
        have b3 : IV y3 2 65 := ⟨by have q1 := b_a1; have q2 := b_y3; omega, by have q1 := b_a1; have q2 := b_y3; omega⟩
        refine m_iload_n C dX11_halves_90 rfl rfl ?_
        exact m_iret C hr hlk (by decide) (by decide) dX11_halves_91 ⟨_, rfl, iτ, fτ, (iv_wk b_y2 (by decide)), v_CA⟩
      · have f4 : y3.toInt ≤ a1.toInt := by
          have q : _ := c1
          simp only [ti_nle, ti_nlt, ti_le, ti_lt, ti_eq, ti_ne, Classical.not_not] at q
          omega
        have b5 : IV y3 1 64 := ⟨by have q1 := b_y3; have q2 := b_a1; omega, by have q1 := b_y3; have q2 := b_a1; omega⟩
        refine m_aload_n C dX11_halves_59 rfl rfl ?_
        refine g_0_2 C q1_188 dX11_halves_60 ?_
        refine m_callV (n := 0) (ci := 7) (st := []) C (c_X8_passHalf l G τ (j := 0) (by decide)  iτ ) (by decide) (by decide) rfl rfl rfl q3_47 q3_44 q3_45 q3_46 q1_3 (by decide +kernel) rfl (by decide) (by decide) rfl (Nat.le_of_ble_eq_true rfl) dX11_halves_63 ?_
        rintro _ τ6 ⟨rfl, i7, f8⟩
        have g11 : Fr MS_X11_halvesS AS_X11_halvesS σ τ6 := Fr.call (fτ) f8 (by decide)
        have v13 : CA τ6 S I := v_CA.fr f8 (by decide) (by decide)
        show MW p l e _ s m args below meth c _ 4 G 0 0 66 [some (.ref (G.1 0 0)), some (.int a1), some (.int y2), some (.int y3)] [] τ6
        refine m_iload_n C dX11_halves_66 rfl rfl ?_
        refine m_ldc (v := (-1000000)) C dX11_halves_67 q3_43 ?_
        refine m_icmp_ne (tgt := 84) C dX11_halves_69 (by decide) (fun c14 => ?_) (fun c14 => ?_)
        · have f15 : y2.toInt ≠ -1000000 := by
            have q : _ := c14
            simp only [ti_nle, ti_nlt, ti_le, ti_lt, ti_eq, ti_ne, Classical.not_not, kt_m1000000] at q
            omega
          have b16 : IV y2 (-999999) 64 := ⟨by have q1 := b_y2; have q2 := kc_m1000000; omega, by have q1 := b_y2; have q2 := kc_m1000000; omega⟩
          obtain ⟨x17, ex17⟩ : ∃ y : Int32, y = y3 + 1 := ⟨_, rfl⟩
          have tx17 : x17.toInt = y3.toInt + 1 := by rw [ex17, ti_addv b5 kc_1 (by decide), kt_1]
          have b18 : IV x17 2 65 := by rw [ex17]; exact iv_add b5 kc_1 (by decide)
          refine m_iinc (v := x17) (L1 := [some (.ref (G.1 0 0)), some (.int a1), some (.int y2), some (.int x17)]) C dX11_halves_84 rfl (by rw [ex17]; rfl) (by decide) rfl rfl ?_
          refine m_goto (tgt := 54) C dX11_halves_87 (by decide) ?_
          exact ih54 τ6 y2 x17 i7 g11 b_a1 (iv_wk b16 (by decide)) (iv_wk b18 (by decide)) v13 (by have q := hm54; omega)
        · have f19 : y2.toInt = -1000000 := by
            have q : _ := c14
            simp only [ti_nle, ti_nlt, ti_le, ti_lt, ti_eq, ti_ne, Classical.not_not, kt_m1000000] at q
            omega
          have b20 : IV y2 (-1000000) (-1000000) := ⟨by have q1 := b_y2; have q2 := kc_m1000000; omega, by have q1 := b_y2; have q2 := kc_m1000000; omega⟩
          refine m_aload_n C dX11_halves_72 rfl rfl ?_
          refine g_0_2 C q1_188 dX11_halves_73 ?_
          refine m_callV (n := 0) (ci := 7) (st := []) C (c_X8_isBeyond l G τ6 (j := 0) (by decide)  i7 ) (by decide) (by decide) rfl rfl rfl q3_74 q3_71 q3_72 q3_73 q1_3 (by decide +kernel) rfl (by decide) (by decide) rfl (Nat.le_of_ble_eq_true rfl) dX11_halves_76 ?_
          rintro _ τ21 ⟨x24, rfl, i22, f23, b25⟩
          have g26 : Fr MS_X11_halvesS AS_X11_halvesS σ τ21 := Fr.call (g11) f23 (by decide)
          have v28 : CA τ21 S I := v13.fr f23 (by decide) (by decide)
          show MW p l e _ s m args below meth c _ 4 G 0 0 79 [some (.ref (G.1 0 0)), some (.int a1), some (.int y2), some (.int y3)] [.int x24] τ21
          refine m_if_eq (tgt := 84) C dX11_halves_79 (by decide) (fun c29 => ?_) (fun c29 => ?_)
          · have f30 : x24.toInt = 0 := by
              have q : _ := c29
              simp only [ti_nle, ti_nlt, ti_le, ti_lt, ti_eq, ti_ne, Classical.not_not, kt_0] at q
              omega
            have b31 : IV x24 0 0 := ⟨by have q1 := b25; have q2 := kc_0; omega, by have q1 := b25; have q2 := kc_0; omega⟩
            obtain ⟨x32, ex32⟩ : ∃ y : Int32, y = y3 + 1 := ⟨_, rfl⟩
            have tx32 : x32.toInt = y3.toInt + 1 := by rw [ex32, ti_addv b5 kc_1 (by decide), kt_1]
            have b33 : IV x32 2 65 := by rw [ex32]; exact iv_add b5 kc_1 (by decide)
            refine m_iinc (v := x32) (L1 := [some (.ref (G.1 0 0)), some (.int a1), some (.int y2), some (.int x32)]) C dX11_halves_84 rfl (by rw [ex32]; rfl) (by decide) rfl rfl ?_
            refine m_goto (tgt := 54) C dX11_halves_87 (by decide) ?_
            exact ih54 τ21 y2 x32 i22 g26 b_a1 (iv_wk b20 (by decide)) (iv_wk b33 (by decide)) v28 (by have q := hm54; omega)
          · have f34 : x24.toInt ≠ 0 := by
              have q : _ := c29
              simp only [ti_nle, ti_nlt, ti_le, ti_lt, ti_eq, ti_ne, Classical.not_not, kt_0] at q
              omega
            have b35 : IV x24 1 1 := ⟨by have q1 := b25; have q2 := kc_0; omega, by have q1 := b25; have q2 := kc_0; omega⟩
            refine m_iload_n C dX11_halves_82 rfl rfl ?_
            refine m_istore_n (L1 := [some (.ref (G.1 0 0)), some (.int a1), some (.int y3), some (.int y3)]) C dX11_halves_83 rfl (by decide) rfl rfl ?_
            obtain ⟨x36, ex36⟩ : ∃ y : Int32, y = y3 + 1 := ⟨_, rfl⟩
            have tx36 : x36.toInt = y3.toInt + 1 := by rw [ex36, ti_addv b5 kc_1 (by decide), kt_1]
            have b37 : IV x36 2 65 := by rw [ex36]; exact iv_add b5 kc_1 (by decide)
            refine m_iinc (v := x36) (L1 := [some (.ref (G.1 0 0)), some (.int a1), some (.int y3), some (.int x36)]) C dX11_halves_84 rfl (by rw [ex36]; rfl) (by decide) rfl rfl ?_
            refine m_goto (tgt := 54) C dX11_halves_87 (by decide) ?_
            exact ih54 τ21 y3 x36 i22 g26 b_a1 (iv_wk b5 (by decide)) (iv_wk b37 (by decide)) v28 (by have q := hm54; omega)
  refine m_aload_n C dX11_halves_0 rfl rfl ?_
  refine g_0_2 C q1_188 dX11_halves_1 ?_
  refine m_callV (n := 0) (ci := 7) (st := []) C (c_X8_stands l G σ (j := 0) (by decide)  hI ) (by decide) (by decide) rfl rfl rfl q3_41 q3_38 q3_39 q3_40 q1_3 (by decide +kernel) rfl (by decide) (by decide) rfl (Nat.le_of_ble_eq_true rfl) dX11_halves_4 ?_
  rintro _ τ38 ⟨x41, rfl, i39, f40, b42⟩
  have g43 : Fr MS_X11_halvesS AS_X11_halvesS σ τ38 := Fr.call (Fr.rf) f40 (by decide)
  have v45 : CA τ38 S I := hCA.fr f40 (by decide) (by decide)
  show MW p l e _ s m args below meth c _ 4 G 0 0 7 [some (.ref (G.1 0 0)), some (.int a1), none, none] [.int x41] τ38
  refine m_if_ne (tgt := 13) C dX11_halves_7 (by decide) (fun c46 => ?_) (fun c46 => ?_)
  · have f47 : x41.toInt ≠ 0 := by
      have q : _ := c46
      simp only [ti_nle, ti_nlt, ti_le, ti_lt, ti_eq, ti_ne, Classical.not_not, kt_0] at q
      omega
    have b48 : IV x41 1 1 := ⟨by have q1 := b42; have q2 := kc_0; omega, by have q1 := b42; have q2 := kc_0; omega⟩
    refine m_iload_n C dX11_halves_13 rfl rfl ?_
    refine m_iconst (v := 1) C dX11_halves_14 (by decide) ?_
    refine m_icmp_lt (tgt := 24) C dX11_halves_15 (by decide) (fun c49 => ?_) (fun c49 => ?_)
    · have f50 : a1.toInt < 1 := by
        have q : _ := c49
        simp only [ti_nle, ti_nlt, ti_le, ti_lt, ti_eq, ti_ne, Classical.not_not, kt_1] at q
        omega
      have b51 : IV a1 (-2147483648) 0 := ⟨by have q1 := (iv_any a1); have q2 := kc_1; omega, by have q1 := (iv_any a1); have q2 := kc_1; omega⟩
      refine m_ldc (v := (-1000001)) C dX11_halves_24 q1_234 ?_
      exact m_iret C hr hlk (by decide) (by decide) dX11_halves_26 ⟨_, rfl, i39, g43, (iv_wk kc_m1000001 (by decide)), v45⟩
    · have f52 : 1 ≤ a1.toInt := by
        have q : _ := c49
        simp only [ti_nle, ti_nlt, ti_le, ti_lt, ti_eq, ti_ne, Classical.not_not, kt_1] at q
        omega
      have b53 : IV a1 1 2147483647 := ⟨by have q1 := kc_1; have q2 := (iv_any a1); omega, by have q1 := kc_1; have q2 := (iv_any a1); omega⟩
      refine m_iload_n C dX11_halves_18 rfl rfl ?_
      refine m_bipush (v := 64) C dX11_halves_19 (by decide) ?_
      refine m_icmp_le (tgt := 27) C dX11_halves_21 (by decide) (fun c54 => ?_) (fun c54 => ?_)
      · have f55 : a1.toInt ≤ 64 := by
          have q : _ := c54
          simp only [ti_nle, ti_nlt, ti_le, ti_lt, ti_eq, ti_ne, Classical.not_not, kt_64] at q
          omega
        have b56 : IV a1 1 64 := ⟨by have q1 := b53; have q2 := kc_64; omega, by have q1 := b53; have q2 := kc_64; omega⟩
        refine m_aload_n C dX11_halves_27 rfl rfl ?_
        refine g_0_2 C q1_188 dX11_halves_28 ?_
        refine g_1_9 C (by decide) q1_96 dX11_halves_31 ?_
        refine m_topi (fun x57 ex57 => ?_)
        refine m_iload_n C dX11_halves_34 rfl rfl ?_
        refine m_iadd C dX11_halves_35 ?_
        refine m_topi (fun x58 ex58 => ?_)
        refine m_sipush (v := 9999) C dX11_halves_36 (by decide) ?_
        refine m_icmp_le (tgt := 45) C dX11_halves_39 (by decide) (fun c59 => ?_) (fun c59 => ?_)
        · have f60 : x58.toInt ≤ 9999 := by
            have q : _ := c59
            simp only [ti_nle, ti_nlt, ti_le, ti_lt, ti_eq, ti_ne, Classical.not_not, kt_9999] at q
            omega
          have b61 : IV x58 (-2147483648) 9999 := ⟨by have q1 := (iv_any x58); have q2 := kc_9999; omega, by have q1 := (iv_any x58); have q2 := kc_9999; omega⟩
          refine m_aload_n C dX11_halves_45 rfl rfl ?_
          refine m_callV (n := 0) (ci := 10) (st := []) C (c_X11_keepActS l G τ38 S I  i39 v45) (by decide) (by decide) rfl rfl rfl q3_25 q3_22 q3_24 q0_14 q1_1 (by decide +kernel) rfl (by decide) (by decide) rfl (Nat.le_of_ble_eq_true rfl) dX11_halves_46 ?_
          rintro _ τ62 ⟨rfl, i63, f64, h68⟩
          have g67 : Fr MS_X11_halvesS AS_X11_halvesS σ τ62 := Fr.call (g43) f64 (by decide)
          have v69 : CA τ62 S I := h68
          show MW p l e _ s m args below meth c _ 4 G 0 0 49 [some (.ref (G.1 0 0)), some (.int a1), none, none] [] τ62
          refine m_ldc (v := (-1000000)) C dX11_halves_49 q3_43 ?_
          refine m_istore_n (L1 := [some (.ref (G.1 0 0)), some (.int a1), some (.int (-1000000)), none]) C dX11_halves_51 rfl (by decide) rfl rfl ?_
          refine m_iconst (v := 1) C dX11_halves_52 (by decide) ?_
          refine m_istore_n (L1 := [some (.ref (G.1 0 0)), some (.int a1), some (.int (-1000000)), some (.int 1)]) C dX11_halves_53 rfl (by decide) rfl rfl ?_
          exact J54 ((65 - (1 : Int32).toInt).toNat + 1) τ62 (-1000000) 1 i63 g67 b56 (iv_wk kc_m1000000 (by decide)) (iv_wk kc_1 (by decide)) v69 (Nat.lt_succ_self _)
        · have f70 : 9999 < x58.toInt := by
            have q : _ := c59
            simp only [ti_nle, ti_nlt, ti_le, ti_lt, ti_eq, ti_ne, Classical.not_not, kt_9999] at q
            omega
          have b71 : IV x58 10000 2147483647 := ⟨by have q1 := kc_9999; have q2 := (iv_any x58); omega, by have q1 := kc_9999; have q2 := (iv_any x58); omega⟩
          refine m_ldc (v := (-1000003)) C dX11_halves_42 q2_43 ?_
          exact m_iret C hr hlk (by decide) (by decide) dX11_halves_44 ⟨_, rfl, i39, g43, (iv_wk kc_m1000003 (by decide)), v45⟩
      · have f72 : 64 < a1.toInt := by
          have q : _ := c54
          simp only [ti_nle, ti_nlt, ti_le, ti_lt, ti_eq, ti_ne, Classical.not_not, kt_64] at q
          omega
        have b73 : IV a1 65 2147483647 := ⟨by have q1 := kc_64; have q2 := b53; omega, by have q1 := kc_64; have q2 := b53; omega⟩
        refine m_ldc (v := (-1000001)) C dX11_halves_24 q1_234 ?_
        exact m_iret C hr hlk (by decide) (by decide) dX11_halves_26 ⟨_, rfl, i39, g43, (iv_wk kc_m1000001 (by decide)), v45⟩
  · have f74 : x41.toInt = 0 := by
      have q : _ := c46
      simp only [ti_nle, ti_nlt, ti_le, ti_lt, ti_eq, ti_ne, Classical.not_not, kt_0] at q
      omega
    have b75 : IV x41 0 0 := ⟨by have q1 := b42; have q2 := kc_0; omega, by have q1 := b42; have q2 := kc_0; omega⟩
    refine m_ldc (v := (-1000002)) C dX11_halves_10 q3_42 ?_
    exact m_iret C hr hlk (by decide) (by decide) dX11_halves_12 ⟨_, rfl, i39, g43, (iv_wk kc_m1000002 (by decide)), v45⟩

abbrev MS_X11_yearS : List (Nat × Nat) := [(0, 5), (0, 6), (1, 0), (1, 1), (1, 2), (1, 3), (1, 9), (1, 10), (1, 11)]
abbrev AS_X11_yearS : List Nat := [2, 3, 4, 5, 6]
set_option maxHeartbeats 4000000 in
set_option maxRecDepth 100000 in
theorem c_X11_yearS (l : Launch) (G : Gt) (σ : Sg) (S : Stt) (I : Nat → Stt) (hI : Inv σ) (hCA : CA σ S I) : Mc l G yX11_year cX11_year 1 (some .int) 3 69 0 0 [.ref (G.1 0 0)] σ (PI fun r τ => Inv τ ∧ Fr MS_X11_yearS AS_X11_yearS σ τ ∧ IV r (-1000003) 1 ∧ CA τ S I) := by
  refine Mc.of (L0 := [some (.ref (G.1 0 0))]) (by decide) (Nat.le_of_ble_eq_true rfl) rfl ?_
  intro p e s m args below meth c C hr hlk
  have C : Cx p s m args c cX11_year 1 "LeanTower" := C
  have k0 : (0 : Int32).toInt = 0 := by decide
  have k1 : (1 : Int32).toInt = 1 := by decide
  refine m_aload_n C dX11_year_0 rfl rfl ?_
  refine g_0_2 C q1_188 dX11_year_1 ?_
  refine m_callV (n := 0) (ci := 7) (st := []) C (c_X8_stands l G σ (j := 0) (by decide)  hI ) (by decide) (by decide) rfl rfl rfl q3_41 q3_38 q3_39 q3_40 q1_3 (by decide +kernel) rfl (by decide) (by decide) rfl (Nat.le_of_ble_eq_true rfl) dX11_year_4 ?_
  rintro _ τ1 ⟨x4, rfl, i2, f3, b5⟩
  have g6 : Fr MS_X11_yearS AS_X11_yearS σ τ1 := Fr.call (Fr.rf) f3 (by decide)
  have v8 : CA τ1 S I := hCA.fr f3 (by decide) (by decide)
  show MW p l e _ s m args below meth c _ 1 G 0 0 7 [some (.ref (G.1 0 0))] [.int x4] τ1
  refine m_if_ne (tgt := 13) C dX11_year_7 (by decide) (fun c9 => ?_) (fun c9 => ?_)
  · have f10 : x4.toInt ≠ 0 := by
      have q : _ := c9
      simp only [ti_nle, ti_nlt, ti_le, ti_lt, ti_eq, ti_ne, Classical.not_not, kt_0] at q
      omega
    have b11 : IV x4 1 1 := ⟨by have q1 := b5; have q2 := kc_0; omega, by have q1 := b5; have q2 := kc_0; omega⟩
    refine m_aload_n C dX11_year_13 rfl rfl ?_
    refine g_0_2 C q1_188 dX11_year_14 ?_
    refine g_1_10 C (by decide) q1_98 dX11_year_17 ?_
    refine m_topi (fun x12 ex12 => ?_)
    refine m_abs (st := []) C q3_98 q3_66 q1_19 q3_67 ⟨by decide, Nat.le_of_ble_eq_true rfl⟩ (by decide) dX11_year_20 (fun x13 ex13 => ?_)
    refine m_sipush (v := 9999) C dX11_year_23 (by decide) ?_
    refine m_icmp_gt (tgt := 45) C dX11_year_26 (by decide) (fun c14 => ?_) (fun c14 => ?_)
    · have f15 : 9999 < x13.toInt := by
        have q : _ := c14
        simp only [ti_nle, ti_nlt, ti_le, ti_lt, ti_eq, ti_ne, Classical.not_not, kt_9999] at q
        omega
      have b16 : IV x13 10000 2147483647 := ⟨by have q1 := kc_9999; have q2 := (iv_any x13); omega, by have q1 := kc_9999; have q2 := (iv_any x13); omega⟩
      refine m_ldc (v := (-1000003)) C dX11_year_45 q2_43 ?_
      exact m_iret C hr hlk (by decide) (by decide) dX11_year_47 ⟨_, rfl, i2, g6, (iv_wk kc_m1000003 (by decide)), v8⟩
    · have f17 : x13.toInt ≤ 9999 := by
        have q : _ := c14
        simp only [ti_nle, ti_nlt, ti_le, ti_lt, ti_eq, ti_ne, Classical.not_not, kt_9999] at q
        omega
      have b18 : IV x13 (-2147483648) 9999 := ⟨by have q1 := (iv_any x13); have q2 := kc_9999; omega, by have q1 := (iv_any x13); have q2 := kc_9999; omega⟩
      refine m_aload_n C dX11_year_29 rfl rfl ?_
      refine g_0_2 C q1_188 dX11_year_30 ?_
      refine g_1_11 C (by decide) q1_100 dX11_year_33 ?_
      refine m_topi (fun x19 ex19 => ?_)
      refine m_abs (st := []) C q3_98 q3_66 q1_19 q3_67 ⟨by decide, Nat.le_of_ble_eq_true rfl⟩ (by decide) dX11_year_36 (fun x20 ex20 => ?_)
      refine m_sipush (v := 9999) C dX11_year_39 (by decide) ?_
      refine m_icmp_le (tgt := 48) C dX11_year_42 (by decide) (fun c21 => ?_) (fun c21 => ?_)
      · have f22 : x20.toInt ≤ 9999 := by
          have q : _ := c21
          simp only [ti_nle, ti_nlt, ti_le, ti_lt, ti_eq, ti_ne, Classical.not_not, kt_9999] at q
          omega
        have b23 : IV x20 (-2147483648) 9999 := ⟨by have q1 := (iv_any x20); have q2 := kc_9999; omega, by have q1 := (iv_any x20); have q2 := kc_9999; omega⟩
        refine m_aload_n C dX11_year_48 rfl rfl ?_
        refine m_callV (n := 0) (ci := 10) (st := []) C (c_X11_keepActS l G τ1 S I  i2 v8) (by decide) (by decide) rfl rfl rfl q3_25 q3_22 q3_24 q0_14 q1_1 (by decide +kernel) rfl (by decide) (by decide) rfl (Nat.le_of_ble_eq_true rfl) dX11_year_49 ?_
        rintro _ τ24 ⟨rfl, i25, f26, h30⟩
        have g29 : Fr MS_X11_yearS AS_X11_yearS σ τ24 := Fr.call (g6) f26 (by decide)
        have v31 : CA τ24 S I := h30
        show MW p l e _ s m args below meth c _ 1 G 0 0 52 [some (.ref (G.1 0 0))] [] τ24
        refine m_aload_n C dX11_year_52 rfl rfl ?_
        refine g_0_2 C q1_188 dX11_year_53 ?_
        refine m_callV (n := 0) (ci := 7) (st := []) C (c_X8_passYear l G τ24 (j := 0) (by decide)  i25 ) (by decide) (by decide) rfl rfl rfl q3_102 q3_99 q3_100 q3_101 q1_3 (by decide +kernel) rfl (by decide) (by decide) rfl (Nat.le_of_ble_eq_true rfl) dX11_year_56 ?_
        rintro _ τ32 ⟨rfl, i33, f34⟩
        have g37 : Fr MS_X11_yearS AS_X11_yearS σ τ32 := Fr.call (g29) f34 (by decide)
        have v39 : CA τ32 S I := v31.fr f34 (by decide) (by decide)
        show MW p l e _ s m args below meth c _ 1 G 0 0 59 [some (.ref (G.1 0 0))] [] τ32
        refine m_iconst (v := 1) C dX11_year_59 (by decide) ?_
        exact m_iret C hr hlk (by decide) (by decide) dX11_year_60 ⟨_, rfl, i33, g37, (iv_wk kc_1 (by decide)), v39⟩
      · have f40 : 9999 < x20.toInt := by
          have q : _ := c21
          simp only [ti_nle, ti_nlt, ti_le, ti_lt, ti_eq, ti_ne, Classical.not_not, kt_9999] at q
          omega
        have b41 : IV x20 10000 2147483647 := ⟨by have q1 := kc_9999; have q2 := (iv_any x20); omega, by have q1 := kc_9999; have q2 := (iv_any x20); omega⟩
        refine m_ldc (v := (-1000003)) C dX11_year_45 q2_43 ?_
        exact m_iret C hr hlk (by decide) (by decide) dX11_year_47 ⟨_, rfl, i2, g6, (iv_wk kc_m1000003 (by decide)), v8⟩
  · have f42 : x4.toInt = 0 := by
      have q : _ := c9
      simp only [ti_nle, ti_nlt, ti_le, ti_lt, ti_eq, ti_ne, Classical.not_not, kt_0] at q
      omega
    have b43 : IV x4 0 0 := ⟨by have q1 := b5; have q2 := kc_0; omega, by have q1 := b5; have q2 := kc_0; omega⟩
    refine m_ldc (v := (-1000002)) C dX11_year_10 q3_42 ?_
    exact m_iret C hr hlk (by decide) (by decide) dX11_year_12 ⟨_, rfl, i2, g6, (iv_wk kc_m1000002 (by decide)), v8⟩

abbrev MS_X11_undoS : List (Nat × Nat) := [(0, 6), (1, 0), (1, 1), (1, 2), (1, 3), (1, 9), (1, 10), (1, 11)]
abbrev AS_X11_undoS : List Nat := [2, 3, 4, 5, 6]
set_option maxHeartbeats 4000000 in
set_option maxRecDepth 100000 in
theorem c_X11_undoS (l : Launch) (G : Gt) (σ : Sg) (S : Stt) (I : Nat → Stt) (hI : Inv σ) (hCA : CA σ S I) : Mc l G yX11_undo cX11_undo 1 (some .int) 1 22 0 0 [.ref (G.1 0 0)] σ (PI fun r τ => Inv τ ∧ Fr MS_X11_undoS AS_X11_undoS σ τ ∧ IV r (-1000002) 23 ∧ CA τ S I) := by
  refine Mc.of (L0 := [some (.ref (G.1 0 0))]) (by decide) (Nat.le_of_ble_eq_true rfl) rfl ?_
  intro p e s m args below meth c C hr hlk
  have C : Cx p s m args c cX11_undo 1 "LeanTower" := C
  have k0 : (0 : Int32).toInt = 0 := by decide
  have k1 : (1 : Int32).toInt = 1 := by decide
  have u1 : IV (gV σ 0 0 5) 0 23 := hI.1 0 0 5
  have u2 : IV (gV σ 0 0 6) 0 24 := hI.1 0 0 6
  refine m_aload_n C dX11_undo_0 rfl rfl ?_
  refine g_0_6 C q1_192 dX11_undo_1 ?_
  refine m_eqs (w := (gV σ 0 0 6)) rfl ?_
  refine m_if_ne (tgt := 10) C dX11_undo_4 (by decide) (fun c3 => ?_) (fun c3 => ?_)
  · have f4 : (gV σ 0 0 6).toInt ≠ 0 := by
      have q : _ := c3
      simp only [ti_nle, ti_nlt, ti_le, ti_lt, ti_eq, ti_ne, Classical.not_not, kt_0] at q
      omega
    have b5 : IV (gV σ 0 0 6) 1 24 := ⟨by have q1 := u2; have q2 := kc_0; omega, by have q1 := u2; have q2 := kc_0; omega⟩
    refine m_aload_n C dX11_undo_10 rfl rfl ?_
    refine m_dup C dX11_undo_11 rfl ?_
    refine g_0_6 C q1_192 dX11_undo_12 ?_
    refine m_eqs (w := (gV σ 0 0 6)) rfl ?_
    refine m_iconst (v := 1) C dX11_undo_15 (by decide) ?_
    refine m_isub C dX11_undo_16 ?_
    refine m_topi (fun x6 ex6 => ?_)
    have tx6 : x6.toInt = (gV σ 0 0 6).toInt - 1 := by rw [ex6, ti_subv b5 kc_1 (by decide), kt_1]
    have b7 : IV x6 0 23 := by rw [ex6]; exact iv_sub b5 kc_1 (by decide)
    refine p_0_6 C q1_192 dX11_undo_17 ?_
    refine m_tops (fun τ8 eτ8 => ?_)
    have i9 : Inv τ8 := eτ8 ▸ Inv.put hI (by decide) (iv_wk b7 (by decide))
    have f10 : Fr MS_X11_undoS AS_X11_undoS σ τ8 := eτ8 ▸ Fr.put (Fr.rf) (Or.inl (by decide))
    have v11 := hCA.less eτ8 (by omega)
    refine m_aload_n C dX11_undo_20 rfl rfl ?_
    refine g_0_2 C q1_188 dX11_undo_21 ?_
    refine m_aload_n C dX11_undo_24 rfl rfl ?_
    refine g_0_4 C q1_190 dX11_undo_25 ?_
    refine m_aload_n C dX11_undo_28 rfl rfl ?_
    refine g_0_5 C q1_191 dX11_undo_29 ?_
    refine m_eqs (w := (gV σ 0 0 5)) (show gV τ8 0 0 5 = (gV σ 0 0 5) from gV_put eτ8 rfl) ?_
    refine m_aload_n C dX11_undo_32 rfl rfl ?_
    refine g_0_6 C q1_192 dX11_undo_33 ?_
    refine m_eqs (w := x6) (show gV τ8 0 0 6 = x6 from gV_put eτ8 (gV_self _ _ _ _ _)) ?_
    refine m_iadd C dX11_undo_36 ?_
    refine m_topi (fun x12 ex12 => ?_)
    have tx12 : x12.toInt = (gV σ 0 0 5).toInt + x6.toInt := by rw [ex12, ti_addv u1 b7 (by decide)]
    have b13 : IV x12 0 46 := by rw [ex12]; exact iv_add u1 b7 (by decide)
    refine m_bipush (v := 24) C dX11_undo_37 (by decide) ?_
    refine m_irem C dX11_undo_39 (iv_nz kc_24 (by decide)) ?_
    refine m_topi (fun x14 ex14 => ?_)
    have b15 : IV x14 0 23 := by rw [ex14]; exact iv_rem b13 kc_24 (by decide)
    have tx14 : x14.toInt = x12.toInt % 24 := by rw [ex14]; exact ti_rem b13 kc_24 (by decide)
    refine al_8 (n := (x14.toInt.toNat)) C b15 (by decide) rfl dX11_undo_40 ?_
    have q16 : (gV τ8 0 0 5).toInt = (gV σ 0 0 5).toInt := congrArg Int32.toInt (show (gV τ8 0 0 5) = (gV σ 0 0 5) from (show gV τ8 0 0 5 = (gV σ 0 0 5) from gV_put eτ8 rfl))
    have q17 : (gV τ8 0 0 6).toInt = x6.toInt := congrArg Int32.toInt (show (gV τ8 0 0 6) = x6 from (show gV τ8 0 0 6 = x6 from gV_put eτ8 (gV_self _ _ _ _ _)))
    refine m_callV (n := 1) (ci := 7) (st := []) C (c_X8_takeFromS l G τ8 (j := 0) (by decide) (j2 := ((x14.toInt.toNat) + 2)) (Nat.add_lt_add_right (iv_nat (n := 26) b15 (by decide)) 2) i9 (by omega)) (by decide) (by decide) rfl rfl rfl q3_9 q3_6 q3_7 q3_8 q1_3 (by decide +kernel) rfl (by decide) (by decide) rfl (Nat.le_of_ble_eq_true rfl) dX11_undo_41 ?_
    rintro _ τ18 ⟨rfl, i19, f20, h24⟩
    have g23 : Fr MS_X11_undoS AS_X11_undoS σ τ18 := Fr.call (f10) f20 (by decide)
    have v26 : StC τ8 ((x14.toInt.toNat) + 2) S := by have q := v11.2 (gV τ8 0 0 6).toInt.toNat (by omega); rw [show ((gV τ8 0 0 5).toInt.toNat + (gV τ8 0 0 6).toInt.toNat) % 24 = (x14.toInt.toNat) by omega] at q; exact q
    have v25 : CA τ18 S I := v11.1.back f20 h24 v26 (by decide) (by decide) (Or.inl rfl)
    have q27 : (gV τ18 0 0 5).toInt = (gV σ 0 0 5).toInt := congrArg Int32.toInt (show (gV τ18 0 0 5) = (gV σ 0 0 5) from (show gV τ18 0 0 5 = (gV σ 0 0 5) from (f20.1 0 0 (5) (by decide) (by decide)).trans (show gV τ8 0 0 5 = (gV σ 0 0 5) from gV_put eτ8 rfl)))
    have q28 : (gV τ18 0 0 6).toInt = x6.toInt := congrArg Int32.toInt (show (gV τ18 0 0 6) = x6 from (show gV τ18 0 0 6 = x6 from (f20.1 0 0 (6) (by decide) (by decide)).trans (show gV τ8 0 0 6 = x6 from gV_put eτ8 (gV_self _ _ _ _ _))))
    show MW p l e _ s m args below meth c _ 1 G 0 0 44 [some (.ref (G.1 0 0))] [] τ18
    refine m_aload_n C dX11_undo_44 rfl rfl ?_
    refine g_0_6 C q1_192 dX11_undo_45 ?_
    refine m_eqs (w := x6) (show gV τ18 0 0 6 = x6 from (f20.1 0 0 (6) (by decide) (by decide)).trans (show gV τ8 0 0 6 = x6 from gV_put eτ8 (gV_self _ _ _ _ _))) ?_
    exact m_iret C hr hlk (by decide) (by decide) dX11_undo_48 ⟨_, rfl, i19, g23, (iv_wk b7 (by decide)), v25⟩
  · have f29 : (gV σ 0 0 6).toInt = 0 := by
      have q : _ := c3
      simp only [ti_nle, ti_nlt, ti_le, ti_lt, ti_eq, ti_ne, Classical.not_not, kt_0] at q
      omega
    have b30 : IV (gV σ 0 0 6) 0 0 := ⟨by have q1 := u2; have q2 := kc_0; omega, by have q1 := u2; have q2 := kc_0; omega⟩
    refine m_ldc (v := (-1000002)) C dX11_undo_7 q3_42 ?_
    exact m_iret C hr hlk (by decide) (by decide) dX11_undo_9 ⟨_, rfl, hI, Fr.rf, (iv_wk kc_m1000002 (by decide)), hCA⟩

abbrev MS_X8_standsS : List (Nat × Nat) := []
abbrev AS_X8_standsS : List Nat := []
set_option maxHeartbeats 4000000 in
set_option maxRecDepth 100000 in
theorem c_X8_standsS (l : Launch) (G : Gt) (σ : Sg) {j : Nat} (hj : j < 28) (hI : Inv σ) : Mc l G yX8_stands cX8_stands 1 (some .boolean) 0 0 0 0 [.ref (G.1 1 j)] σ (PI fun r τ => Inv τ ∧ Fr MS_X8_standsS AS_X8_standsS σ τ ∧ IV r 0 1 ∧ ((r.toInt = 1 ∧ 0 < (gV σ 1 j 0).toInt) ∨ (r.toInt = 0 ∧ (gV σ 1 j 0).toInt ≤ 0))) := by
  refine Mc.of (L0 := [some (.ref (G.1 1 j))]) (by decide) (Nat.le_of_ble_eq_true rfl) rfl ?_
  intro p e s m args below meth c C hr hlk
  have C : Cx p s m args c cX8_stands 1 "LeanTower$Tower" := C
  have k0 : (0 : Int32).toInt = 0 := by decide
  have k1 : (1 : Int32).toInt = 1 := by decide
  refine m_aload_n C dX8_stands_0 rfl rfl ?_
  refine g_1_0 C hj q1_74 dX8_stands_1 ?_
  refine m_eqs (w := (gV σ 1 j 0)) rfl ?_
  refine m_if_le (tgt := 11) C dX8_stands_4 (by decide) (fun c1 => ?_) (fun c1 => ?_)
  · have f2 : (gV σ 1 j 0).toInt ≤ 0 := by
      have q : _ := c1
      simp only [ti_nle, ti_nlt, ti_le, ti_lt, ti_eq, ti_ne, Classical.not_not, kt_0] at q
      omega
    have b3 : IV (gV σ 1 j 0) (-2147483648) 0 := ⟨by have q1 := (iv_any (gV σ 1 j 0)); have q2 := kc_0; omega, by have q1 := (iv_any (gV σ 1 j 0)); have q2 := kc_0; omega⟩
    refine m_iconst (v := 0) C dX8_stands_11 (by decide) ?_
    exact m_zret C hr rfl hlk (by decide) (by decide) dX8_stands_12 ⟨_, rfl, hI, Fr.rf, (iv_wk kc_0 (by decide)), (by have q := kt_0; omega)⟩
  · have f4 : 0 < (gV σ 1 j 0).toInt := by
      have q : _ := c1
      simp only [ti_nle, ti_nlt, ti_le, ti_lt, ti_eq, ti_ne, Classical.not_not, kt_0] at q
      omega
    have b5 : IV (gV σ 1 j 0) 1 2147483647 := ⟨by have q1 := kc_0; have q2 := (iv_any (gV σ 1 j 0)); omega, by have q1 := kc_0; have q2 := (iv_any (gV σ 1 j 0)); omega⟩
    refine m_iconst (v := 1) C dX8_stands_7 (by decide) ?_
    refine m_goto (tgt := 12) C dX8_stands_8 (by decide) ?_
    exact m_zret C hr rfl hlk (by decide) (by decide) dX8_stands_12 ⟨_, rfl, hI, Fr.rf, (iv_wk kc_1 (by decide)), (by have q := kt_1; omega)⟩

abbrev MS_X11_imageS : List (Nat × Nat) := [(1, 0), (1, 1), (1, 2), (1, 3), (1, 9), (1, 10), (1, 11)]
abbrev AS_X11_imageS : List Nat := [2, 3, 4, 5, 6]
set_option maxHeartbeats 4000000 in
set_option maxRecDepth 100000 in
theorem c_X11_imageS (l : Launch) (G : Gt) (σ : Sg) (S : Stt) (I : Nat → Stt) (a1 : Int32) (hI : Inv σ) (hCA : CA σ S I) : Mc l G yX11_image cX11_image 2 (some .int) 1 22 0 0 [.ref (G.1 0 0), .int a1] σ (PI fun r τ => Inv τ ∧ Fr MS_X11_imageS AS_X11_imageS σ τ ∧ IV r (-1000002) 1 ∧ (((a1.toInt < 0 ∨ 1 < a1.toInt) ∧ r.toInt = -1000001 ∧ CA τ S I) ∨ ((0 ≤ a1.toInt ∧ a1.toInt ≤ 1) ∧ S.1 ≤ 0 ∧ r.toInt = -1000002 ∧ CA τ S I) ∨ ((0 ≤ a1.toInt ∧ a1.toInt ≤ 1) ∧ 0 < S.1 ∧ r.toInt = 1 ∧ CA τ S (upI I (a1.toInt.toNat) S)))) := by
  refine Mc.of (L0 := [some (.ref (G.1 0 0)), some (.int a1)]) (by decide) (Nat.le_of_ble_eq_true rfl) rfl ?_
  intro p e s m args below meth c C hr hlk
  have C : Cx p s m args c cX11_image 2 "LeanTower" := C
  have k0 : (0 : Int32).toInt = 0 := by decide
  have k1 : (1 : Int32).toInt = 1 := by decide
  refine m_iload_n C dX11_image_0 rfl rfl ?_
  refine m_if_lt (tgt := 9) C dX11_image_1 (by decide) (fun c1 => ?_) (fun c1 => ?_)
  · have f2 : a1.toInt < 0 := by
      have q : _ := c1
      simp only [ti_nle, ti_nlt, ti_le, ti_lt, ti_eq, ti_ne, Classical.not_not, kt_0] at q
      omega
    have b3 : IV a1 (-2147483648) (-1) := ⟨by have q1 := (iv_any a1); have q2 := kc_0; omega, by have q1 := (iv_any a1); have q2 := kc_0; omega⟩
    refine m_ldc (v := (-1000001)) C dX11_image_9 q1_234 ?_
    exact m_iret C hr hlk (by decide) (by decide) dX11_image_11 ⟨_, rfl, hI, Fr.rf, (iv_wk kc_m1000001 (by decide)), (Or.inl ⟨by have qk := kt_m1000001; omega, by have qk := kt_m1000001; omega, hCA⟩)⟩
  · have f4 : 0 ≤ a1.toInt := by
      have q : _ := c1
      simp only [ti_nle, ti_nlt, ti_le, ti_lt, ti_eq, ti_ne, Classical.not_not, kt_0] at q
      omega
    have b5 : IV a1 0 2147483647 := ⟨by have q1 := kc_0; have q2 := (iv_any a1); omega, by have q1 := kc_0; have q2 := (iv_any a1); omega⟩
    refine m_iload_n C dX11_image_4 rfl rfl ?_
    refine m_iconst (v := 2) C dX11_image_5 (by decide) ?_
    refine m_icmp_lt (tgt := 12) C dX11_image_6 (by decide) (fun c6 => ?_) (fun c6 => ?_)
    · have f7 : a1.toInt < 2 := by
        have q : _ := c6
        simp only [ti_nle, ti_nlt, ti_le, ti_lt, ti_eq, ti_ne, Classical.not_not, kt_2] at q
        omega
      have b8 : IV a1 0 1 := ⟨by have q1 := b5; have q2 := kc_2; omega, by have q1 := b5; have q2 := kc_2; omega⟩
      have q9 := hCA.1.2.1
      refine m_aload_n C dX11_image_12 rfl rfl ?_
      refine g_0_2 C q1_188 dX11_image_13 ?_
      refine m_callV (n := 0) (ci := 7) (st := []) C (c_X8_standsS l G σ (j := 0) (by decide)  hI ) (by decide) (by decide) rfl rfl rfl q3_41 q3_38 q3_39 q3_40 q1_3 (by decide +kernel) rfl (by decide) (by decide) rfl (Nat.le_of_ble_eq_true rfl) dX11_image_16 ?_
      rintro _ τ10 ⟨x13, rfl, i11, f12, b14, h16⟩
      have g15 : Fr MS_X11_imageS AS_X11_imageS σ τ10 := Fr.call (Fr.rf) f12 (by decide)
      have v17 : CA τ10 S I := hCA.fr f12 (by decide) (by decide)
      rcases h16 with ⟨h16_0, h16_1⟩ | ⟨h16_0, h16_1⟩
      · skip
        have b18 : IV x13 1 1 := ⟨by omega, by omega⟩
        show MW p l e _ s m args below meth c _ 2 G 0 0 19 [some (.ref (G.1 0 0)), some (.int a1)] [.int x13] τ10
        refine m_if_ne (tgt := 25) C dX11_image_19 (by decide) (fun c19 => ?_) (fun c19 => ?_)
        · have f20 : x13.toInt ≠ 0 := by
            have q : _ := c19
            simp only [ti_nle, ti_nlt, ti_le, ti_lt, ti_eq, ti_ne, Classical.not_not, kt_0] at q
            omega
          refine m_aload_n C dX11_image_25 rfl rfl ?_
          refine g_0_7 C q1_193 dX11_image_26 ?_
          refine m_iload_n C dX11_image_29 rfl rfl ?_
          refine al_9 (n := (a1.toInt.toNat)) C b8 (by decide) rfl dX11_image_30 ?_
          refine m_aload_n C dX11_image_31 rfl rfl ?_
          refine g_0_2 C q1_188 dX11_image_32 ?_
          refine m_callV (n := 1) (ci := 7) (st := []) C (c_X8_takeFromS l G τ10 (j := ((a1.toInt.toNat) + 26)) (Nat.add_lt_add_right (iv_nat (n := 2) b8 (by decide)) 26) (j2 := 0) (by decide) i11 (by omega)) (by decide) (Nat.add_lt_add_right (iv_nat (n := 2) b8 (by decide)) 26) rfl rfl rfl q3_9 q3_6 q3_7 q3_8 q1_3 (by decide +kernel) rfl (by decide) (by decide) rfl (Nat.le_of_ble_eq_true rfl) dX11_image_35 ?_
          rintro _ τ21 ⟨rfl, i22, f23, h27⟩
          have g26 : Fr MS_X11_imageS AS_X11_imageS σ τ21 := Fr.call (g15) f23 (by decide)
          have v28 := v17.image (k := (a1.toInt.toNat)) f23 h27 (by decide) (by decide)
          show MW p l e _ s m args below meth c _ 2 G 0 0 38 [some (.ref (G.1 0 0)), some (.int a1)] [] τ21
          refine m_iconst (v := 1) C dX11_image_38 (by decide) ?_
          exact m_iret C hr hlk (by decide) (by decide) dX11_image_39 ⟨_, rfl, i22, g26, (iv_wk kc_1 (by decide)), (Or.inr (Or.inr (⟨by have qk := kt_1; omega, by have qk := kt_1; omega, by have qk := kt_1; omega, v28⟩)))⟩
        · exfalso
          have q : _ := c19
          simp only [ti_nle, ti_nlt, ti_le, ti_lt, ti_eq, ti_ne, Classical.not_not, kt_0] at q
          have q1 := b18; have q2 := kc_0; omega
      · skip
        have b30 : IV x13 0 0 := ⟨by omega, by omega⟩
        show MW p l e _ s m args below meth c _ 2 G 0 0 19 [some (.ref (G.1 0 0)), some (.int a1)] [.int x13] τ10
        refine m_if_ne (tgt := 25) C dX11_image_19 (by decide) (fun c31 => ?_) (fun c31 => ?_)
        · exfalso
          have q : _ := c31
          simp only [ti_nle, ti_nlt, ti_le, ti_lt, ti_eq, ti_ne, Classical.not_not, kt_0] at q
          have q1 := b30; have q2 := kc_0; omega
        · have f33 : x13.toInt = 0 := by
            have q : _ := c31
            simp only [ti_nle, ti_nlt, ti_le, ti_lt, ti_eq, ti_ne, Classical.not_not, kt_0] at q
            omega
          refine m_ldc (v := (-1000002)) C dX11_image_22 q3_42 ?_
          exact m_iret C hr hlk (by decide) (by decide) dX11_image_24 ⟨_, rfl, i11, g15, (iv_wk kc_m1000002 (by decide)), (Or.inr (Or.inl ⟨by have qk := kt_m1000002; omega, by have qk := kt_m1000002; omega, by have qk := kt_m1000002; omega, v17⟩))⟩
    · have f34 : 2 ≤ a1.toInt := by
        have q : _ := c6
        simp only [ti_nle, ti_nlt, ti_le, ti_lt, ti_eq, ti_ne, Classical.not_not, kt_2] at q
        omega
      have b35 : IV a1 2 2147483647 := ⟨by have q1 := kc_2; have q2 := b5; omega, by have q1 := kc_2; have q2 := b5; omega⟩
      refine m_ldc (v := (-1000001)) C dX11_image_9 q1_234 ?_
      exact m_iret C hr hlk (by decide) (by decide) dX11_image_11 ⟨_, rfl, hI, Fr.rf, (iv_wk kc_m1000001 (by decide)), (Or.inl ⟨by have qk := kt_m1000001; omega, by have qk := kt_m1000001; omega, hCA⟩)⟩

abbrev MS_X11_restoreS : List (Nat × Nat) := [(0, 6), (1, 0), (1, 1), (1, 2), (1, 3), (1, 9), (1, 10), (1, 11)]
abbrev AS_X11_restoreS : List Nat := [2, 3, 4, 5, 6]
set_option maxHeartbeats 4000000 in
set_option maxRecDepth 100000 in
theorem c_X11_restoreS (l : Launch) (G : Gt) (σ : Sg) (S : Stt) (I : Nat → Stt) (a1 : Int32) (hI : Inv σ) (hCA : CA σ S I) : Mc l G yX11_restore cX11_restore 2 (some .int) 1 22 0 0 [.ref (G.1 0 0), .int a1] σ (PI fun r τ => Inv τ ∧ Fr MS_X11_restoreS AS_X11_restoreS σ τ ∧ IV r (-1000002) 1 ∧ (((a1.toInt < 0 ∨ 1 < a1.toInt) ∧ r.toInt = -1000001 ∧ CA τ S I) ∨ ((0 ≤ a1.toInt ∧ a1.toInt ≤ 1) ∧ (I (a1.toInt.toNat)).1 ≤ 0 ∧ r.toInt = -1000002 ∧ CA τ S I) ∨ ((0 ≤ a1.toInt ∧ a1.toInt ≤ 1) ∧ 0 < (I (a1.toInt.toNat)).1 ∧ r.toInt = 1 ∧ CA τ (I (a1.toInt.toNat)) I))) := by
  refine Mc.of (L0 := [some (.ref (G.1 0 0)), some (.int a1)]) (by decide) (Nat.le_of_ble_eq_true rfl) rfl ?_
  intro p e s m args below meth c C hr hlk
  have C : Cx p s m args c cX11_restore 2 "LeanTower" := C
  have k0 : (0 : Int32).toInt = 0 := by decide
  have k1 : (1 : Int32).toInt = 1 := by decide
  refine m_iload_n C dX11_restore_0 rfl rfl ?_
  refine m_if_lt (tgt := 9) C dX11_restore_1 (by decide) (fun c1 => ?_) (fun c1 => ?_)
  · have f2 : a1.toInt < 0 := by
      have q : _ := c1
      simp only [ti_nle, ti_nlt, ti_le, ti_lt, ti_eq, ti_ne, Classical.not_not, kt_0] at q
      omega
    have b3 : IV a1 (-2147483648) (-1) := ⟨by have q1 := (iv_any a1); have q2 := kc_0; omega, by have q1 := (iv_any a1); have q2 := kc_0; omega⟩
    refine m_ldc (v := (-1000001)) C dX11_restore_9 q1_234 ?_
    exact m_iret C hr hlk (by decide) (by decide) dX11_restore_11 ⟨_, rfl, hI, Fr.rf, (iv_wk kc_m1000001 (by decide)), (Or.inl ⟨by have qk := kt_m1000001; omega, by have qk := kt_m1000001; omega, hCA⟩)⟩
  · have f4 : 0 ≤ a1.toInt := by
      have q : _ := c1
      simp only [ti_nle, ti_nlt, ti_le, ti_lt, ti_eq, ti_ne, Classical.not_not, kt_0] at q
      omega
    have b5 : IV a1 0 2147483647 := ⟨by have q1 := kc_0; have q2 := (iv_any a1); omega, by have q1 := kc_0; have q2 := (iv_any a1); omega⟩
    refine m_iload_n C dX11_restore_4 rfl rfl ?_
    refine m_iconst (v := 2) C dX11_restore_5 (by decide) ?_
    refine m_icmp_lt (tgt := 12) C dX11_restore_6 (by decide) (fun c6 => ?_) (fun c6 => ?_)
    · have f7 : a1.toInt < 2 := by
        have q : _ := c6
        simp only [ti_nle, ti_nlt, ti_le, ti_lt, ti_eq, ti_ne, Classical.not_not, kt_2] at q
        omega
      have b8 : IV a1 0 1 := ⟨by have q1 := b5; have q2 := kc_2; omega, by have q1 := b5; have q2 := kc_2; omega⟩
      have q9 := (hCA.2.2 (a1.toInt.toNat) (by omega)).2.1
      refine m_aload_n C dX11_restore_12 rfl rfl ?_
      refine g_0_7 C q1_193 dX11_restore_13 ?_
      refine m_iload_n C dX11_restore_16 rfl rfl ?_
      refine al_9 (n := (a1.toInt.toNat)) C b8 (by decide) rfl dX11_restore_17 ?_
      refine m_callV (n := 0) (ci := 7) (st := []) C (c_X8_standsS l G σ (j := ((a1.toInt.toNat) + 26)) (Nat.add_lt_add_right (iv_nat (n := 2) b8 (by decide)) 26)  hI ) (by decide) (Nat.add_lt_add_right (iv_nat (n := 2) b8 (by decide)) 26) rfl rfl rfl q3_41 q3_38 q3_39 q3_40 q1_3 (by decide +kernel) rfl (by decide) (by decide) rfl (Nat.le_of_ble_eq_true rfl) dX11_restore_18 ?_
      rintro _ τ10 ⟨x13, rfl, i11, f12, b14, h16⟩
      have g15 : Fr MS_X11_restoreS AS_X11_restoreS σ τ10 := Fr.call (Fr.rf) f12 (by decide)
      have v17 : CA τ10 S I := hCA.fr f12 (by decide) (by decide)
      rcases h16 with ⟨h16_0, h16_1⟩ | ⟨h16_0, h16_1⟩
      · skip
        have b18 : IV x13 1 1 := ⟨by omega, by omega⟩
        show MW p l e _ s m args below meth c _ 2 G 0 0 21 [some (.ref (G.1 0 0)), some (.int a1)] [.int x13] τ10
        refine m_if_ne (tgt := 27) C dX11_restore_21 (by decide) (fun c19 => ?_) (fun c19 => ?_)
        · have f20 : x13.toInt ≠ 0 := by
            have q : _ := c19
            simp only [ti_nle, ti_nlt, ti_le, ti_lt, ti_eq, ti_ne, Classical.not_not, kt_0] at q
            omega
          refine m_aload_n C dX11_restore_27 rfl rfl ?_
          refine g_0_2 C q1_188 dX11_restore_28 ?_
          refine m_aload_n C dX11_restore_31 rfl rfl ?_
          refine g_0_7 C q1_193 dX11_restore_32 ?_
          refine m_iload_n C dX11_restore_35 rfl rfl ?_
          refine al_9 (n := (a1.toInt.toNat)) C b8 (by decide) rfl dX11_restore_36 ?_
          refine m_callV (n := 1) (ci := 7) (st := []) C (c_X8_takeFromS l G τ10 (j := 0) (by decide) (j2 := ((a1.toInt.toNat) + 26)) (Nat.add_lt_add_right (iv_nat (n := 2) b8 (by decide)) 26) i11 (by omega)) (by decide) (by decide) rfl rfl rfl q3_9 q3_6 q3_7 q3_8 q1_3 (by decide +kernel) rfl (by decide) (by decide) rfl (Nat.le_of_ble_eq_true rfl) dX11_restore_37 ?_
          rintro _ τ21 ⟨rfl, i22, f23, h27⟩
          have g26 : Fr MS_X11_restoreS AS_X11_restoreS σ τ21 := Fr.call (g15) f23 (by decide)
          show MW p l e _ s m args below meth c _ 2 G 0 0 40 [some (.ref (G.1 0 0)), some (.int a1)] [] τ21
          refine m_aload_n C dX11_restore_40 rfl rfl ?_
          refine m_iconst (v := 0) C dX11_restore_41 (by decide) ?_
          refine p_0_6 C q1_192 dX11_restore_42 ?_
          refine m_tops (fun τ29 eτ29 => ?_)
          have i30 : Inv τ29 := eτ29 ▸ Inv.put i22 (by decide) (iv_wk kc_0 (by decide))
          have f31 : Fr MS_X11_restoreS AS_X11_restoreS σ τ29 := eτ29 ▸ Fr.put (g26) (Or.inl (by decide))
          have v32 := CA.fresh v17.2.2 (PGr.fr f23 (by decide)) h27 (v17.2.2 (a1.toInt.toNat) (by omega)) eτ29 kt_0
          refine m_iconst (v := 1) C dX11_restore_45 (by decide) ?_
          exact m_iret C hr hlk (by decide) (by decide) dX11_restore_46 ⟨_, rfl, i30, f31, (iv_wk kc_1 (by decide)), (Or.inr (Or.inr (⟨by have qk := kt_1; omega, by have qk := kt_1; omega, by have qk := kt_1; omega, v32⟩)))⟩
        · exfalso
          have q : _ := c19
          simp only [ti_nle, ti_nlt, ti_le, ti_lt, ti_eq, ti_ne, Classical.not_not, kt_0] at q
          have q1 := b18; have q2 := kc_0; omega
      · skip
        have b34 : IV x13 0 0 := ⟨by omega, by omega⟩
        show MW p l e _ s m args below meth c _ 2 G 0 0 21 [some (.ref (G.1 0 0)), some (.int a1)] [.int x13] τ10
        refine m_if_ne (tgt := 27) C dX11_restore_21 (by decide) (fun c35 => ?_) (fun c35 => ?_)
        · exfalso
          have q : _ := c35
          simp only [ti_nle, ti_nlt, ti_le, ti_lt, ti_eq, ti_ne, Classical.not_not, kt_0] at q
          have q1 := b34; have q2 := kc_0; omega
        · have f37 : x13.toInt = 0 := by
            have q : _ := c35
            simp only [ti_nle, ti_nlt, ti_le, ti_lt, ti_eq, ti_ne, Classical.not_not, kt_0] at q
            omega
          refine m_ldc (v := (-1000002)) C dX11_restore_24 q3_42 ?_
          exact m_iret C hr hlk (by decide) (by decide) dX11_restore_26 ⟨_, rfl, i11, g15, (iv_wk kc_m1000002 (by decide)), (Or.inr (Or.inl ⟨by have qk := kt_m1000002; omega, by have qk := kt_m1000002; omega, by have qk := kt_m1000002; omega, v17⟩))⟩
    · have f38 : 2 ≤ a1.toInt := by
        have q : _ := c6
        simp only [ti_nle, ti_nlt, ti_le, ti_lt, ti_eq, ti_ne, Classical.not_not, kt_2] at q
        omega
      have b39 : IV a1 2 2147483647 := ⟨by have q1 := kc_2; have q2 := b5; omega, by have q1 := kc_2; have q2 := b5; omega⟩
      refine m_ldc (v := (-1000001)) C dX11_restore_9 q1_234 ?_
      exact m_iret C hr hlk (by decide) (by decide) dX11_restore_11 ⟨_, rfl, hI, Fr.rf, (iv_wk kc_m1000001 (by decide)), (Or.inl ⟨by have qk := kt_m1000001; omega, by have qk := kt_m1000001; omega, hCA⟩)⟩
