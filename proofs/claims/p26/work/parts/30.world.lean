/-! the first world, and that the first numbers are in the relation -/
theorem in_us {o : Nat} (h : kd o < 10) : o ∈ uP := (show ∀ o, o < 707 → kd o < 10 → o ∈ uP by decide +kernel) o (kd_lt h) h
theorem us_kd {o : Nat} (h : o ∈ uP) : kd o < 10 := (show ∀ o, o ∈ uP → kd o < 10 by decide +kernel) o h
theorem Wd_mem {g : aG} {f : Nat → Nat} {us : List Nat} {o : Nat} (h : o ∈ us) : ∃ k : Nat, us[k]? = some o ∧ (Wd g f us)[k]? = some (f o, cX g f o) := by
  obtain ⟨k, hk⟩ := List.getElem?_of_mem h
  refine ⟨k, hk, ?_⟩
  unfold Wd
  rw [List.getElem?_map, hk]
  rfl
theorem arrV_cong {cA : ClassId} {n : Nat} {f g : Nat → Value} (h : ∀ k, k < n → f k = g k) : arrV cA n f = arrV cA n g := by
  unfold arrV
  have e : (Array.ofFn (n := n) fun j => f j.val) = Array.ofFn (n := n) fun j => g j.val := by
    congr 1
    funext j
    exact h j.val j.isLt
  rw [e]
theorem world_RH {g : aG} {f : Nat → Nat} {H : Heap} (hP : va_P (gD g) vwCl (Wd g f uP) H) : RH (gF g f) s0 H := by
  intro k q hk
  unfold wL at hk
  rw [List.getElem?_map] at hk
  cases hu : un[k]? with
  | none => rw [hu] at hk; cases hk
  | some o =>
    rw [hu] at hk
    cases hk
    have hko : kd o < 10 := by
      have := (List.mem_filter.mp (List.mem_of_getElem? hu)).2
      simpa using this
    obtain ⟨n, -, hn⟩ := Wd_mem (g := g) (f := f) (in_us hko)
    have h := hP n _ hn
    by_cases h9 : kd o = 9
    · have e602 : o = 602 := (show ∀ o, o < 707 → kd o = 9 → o = 602 by decide +kernel) o (kd_lt hko) h9
      subst e602
      have h : H[f 602]? = some (vp_cell (gQ g) (5, .inr (.inr (.inr (.inr (fun k => if k < 5 then some (f (100 * (k + 1))) else none)))))) := h
      show H[f 602]? = some (vp_cell (gQ g) (5, .inr (.inr (.inr (.inr (fun k => some (f (rf 602 k))))))))
      rw [h, vp_cell_q, vp_cell_q]
      refine congrArg some (arrV_cong (fun k hk => ?_))
      rw [if_pos hk]
      rfl
    · have e : cX g f o = cE (gF g f) s0 o := if_neg h9
      rw [e] at h
      exact h
theorem world_GL {g : aG} {f : Nat → Nat} (hD : va_D (gA g) (Wd g f uP)) : GL (gF g f) := by
  refine ⟨fun a b ha hb h => ?_, fun a ha => ?_⟩
  · obtain ⟨i, hi, hi2⟩ := Wd_mem (g := g) (f := f) (in_us ha)
    obtain ⟨j, hj, hj2⟩ := Wd_mem (g := g) (f := f) (in_us hb)
    have e := hD.1 i j _ _ hi2 hj2 h
    subst e
    rw [hi] at hj
    exact Option.some.inj hj
  · obtain ⟨i, -, hi2⟩ := Wd_mem (g := g) (f := f) (in_us ha)
    exact hD.2 i _ hi2
theorem wR_0 {f : aS} {a : Nat} (h : f a = fun _ => 0) : wR f a := by
  intro y _ i _
  rw [h]
  exact b_0 i
theorem Bg_0 {f : aS} (h : ∀ o, 5 ≤ o → o < 10 → f o = fun _ => 0) : Bg f :=
  ⟨⟨wR_0 (h 5 (by decide) (by decide)), wR_0 (h 6 (by decide) (by decide)), wR_0 (h 7 (by decide) (by decide)), wR_0 (h 8 (by decide) (by decide))⟩, fun k _ => ⟨0, Nat.zero_le _, by rw [h 9 (by decide) (by decide)]; rfl⟩⟩
theorem iv_0 : IV 0 0 0 s0 := by
  have z : ∀ o, o < 40 → o ≠ 1 → s0 o = fun _ => 0 := fun o h h1 => s0_0 (by omega) (by omega) (by omega)
  have zb : ∀ q, 10 ≤ q → q + 10 ≤ 40 → Bg (vw s0 q) := fun q hq hq2 => Bg_0 (fun o h5 h10 => by
    show s0 (q + o) = _
    exact z _ (by omega) (by omega))
  refine ⟨⟨by decide, by decide, by decide, by decide⟩, ⟨⟨zb 10 (by decide) (by decide), zb 20 (by decide) (by decide), zb 30 (by decide) (by decide)⟩, ⟨fun k => if k < 773 then s0 1 (k - 768) else 0, fun k hk => ?_, ?_, ?_⟩, ⟨0, 0, 0, Nat.le_refl _, by decide, by decide, by decide, by decide, by decide⟩, Or.inl (by decide), Or.inl (by decide)⟩, fun j hj => absurd hj (Nat.not_lt_zero j)⟩
  · have e : (768 + k) - 768 = k := by omega
    show s0 1 k = (if 768 + k < 773 then s0 1 (768 + k - 768) else 0) ∧ stG k (if 768 + k < 773 then s0 1 (768 + k - 768) else 0) = true
    rw [if_pos (by omega), e]
    exact ⟨rfl, (show ∀ k, k < 5 → stG k (s0 1 k) = true by decide) k hk⟩
  · exact ⟨by decide, by decide⟩
  · exact ⟨by decide, by decide⟩
