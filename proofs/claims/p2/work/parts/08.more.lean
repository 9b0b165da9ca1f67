section MOR
variable {p : Program} {l : Launch} {e : Env} {R : Room} {s : State} {m : MethodId} {args : Array Value} {below : List Frame} {meth : Method} {c : Code} {cells slots : Nat} {Q : State → Prop} {cc : ByteArray} {nL : Nat} {own : String} {G : Gt} {σ : Sg} {pc : Nat} {L : List (Option Value)} {st : List Value}
/-- the state gets a name -/
theorem m_tops (k : ∀ τ : Sg, τ = σ → MW p l e R s m args below meth c Q nL G cells slots pc L st τ) : MW p l e R s m args below meth c Q nL G cells slots pc L st σ := k σ rfl
theorem nar_z {v : Int32} (h : IV v 0 1) : narrow .boolean (.int v) = .int v := by
  have k0 : (0 : Int32).toInt = 0 := by decide
  have k1 : (1 : Int32).toInt = 1 := by decide
  have hv : v = 0 ∨ v = 1 := by
    rw [ti_eq, ti_eq]
    obtain ⟨h1, h2⟩ := h
    omega
  rcases hv with rfl | rfl <;> rfl
end MOR
