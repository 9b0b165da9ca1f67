set_option maxHeartbeats 4000000 in
theorem c_X12_bells (l : Launch) (G : Gt) (σ : Sg) (a1 : Int32) (a2 : Int32) (a3 : Int32) (hI : Inv σ) : Mc l G yX12_bells cX12_bells 14 (some .int) 2 60 0 0 [.ref (G.1 22 0), .int a1, .int a2, .int a3] σ (PI fun r τ => Inv τ ∧ Fr [(22, 8)] [] σ τ ∧ IV r (-2147483648) 2147483647) := by
  by_cases h1 : a2.toInt ≤ 0
  · exact c_X12_bells_lo l G σ a1 a2 a3 hI ⟨(iv_any a2).1, h1⟩
  by_cases h6 : 6 ≤ a2.toInt
  · exact c_X12_bells_hi l G σ a1 a2 a3 hI ⟨h6, (iv_any a2).2⟩
  have h : a2 = 1 ∨ a2 = 2 ∨ a2 = 3 ∨ a2 = 4 ∨ a2 = 5 := by
    simp only [ti_eq, kt_1, kt_2, kt_3, kt_4, kt_5]
    omega
  rcases h with rfl | rfl | rfl | rfl | rfl
  · exact c_X12_bells_1 l G σ a1 a3 hI
  · exact c_X12_bells_2 l G σ a1 a3 hI
  · exact c_X12_bells_3 l G σ a1 a3 hI
  · exact c_X12_bells_4 l G σ a1 a3 hI
  · exact c_X12_bells_5 l G σ a1 a3 hI
