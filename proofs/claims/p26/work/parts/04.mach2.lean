section AX
variable {K : KT} {pc : Nat} {ls : List (Option Value)} {st : List Value} {σ : aS}
theorem AW.cut {j : Nat} {v : Int32} (h : AW K j ls (.int v :: st) σ → AW K pc ls st σ) (k : AW K j ls (.int v :: st) σ) : AW K pc ls st σ := h k
theorem AW.vv {v u : Int32} (h : AW K pc ls (.int v :: st) σ) (e : u = v) : AW K pc ls (.int u :: st) σ := e ▸ h
theorem AW.to {ls2 : List (Option Value)} {σ2 : aS} (h : AW K pc ls2 st σ2) (e : ls = ls2) (e2 : σ = σ2) : AW K pc ls st σ := by subst e; subst e2; exact h
end AX
theorem hv_1 (x : Int32) : x + Int32.ofInt 1 = x + 1 := by rw [show Int32.ofInt 1 = 1 by decide]
theorem hv_6 (x : Int32) : x + Int32.ofInt 6 = x + 6 := by rw [show Int32.ofInt 6 = 6 by decide]
