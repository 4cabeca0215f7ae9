/-! the history, the text, the whole relation -/
def Hst (σ : aS) (nx sz : Nat) : Prop := nx < 5 ∧ sz ≤ 5 ∧ σ 601 2 = nI nx ∧ σ 601 1 = nI sz ∧ σ 700 3 = nI sz ∧ ∀ j, j < sz → Sst (vw σ (100 * ((nx + 5 - sz + j) % 5 + 1))) (fun k => σ 702 (2374 * j + k))
def Txt (σ : aS) (n : Nat) : Prop := n ≤ 140 ∧ σ 603 1 = nI n ∧ σ 700 5 = nI n ∧ ∀ k, k < n → σ 604 k = σ 703 k
def Rel (σ : aS) : Prop := σ 700 0 = 0 ∧ (∃ nx sz, Hst σ nx sz) ∧ (∃ n, Txt σ n) ∧ Sst (vw σ 0) (σ 701)
theorem aC_3 (σ : aS) (q : Nat) : aC σ q 700 3 = nI (q + 1) := by
  unfold aC
  rw [sP_same, pk_us]
theorem aC_k (σ : aS) (q : Nat) {k : Nat} (h : k ≠ 3) : aC σ q 700 k = σ 700 k := by
  unfold aC
  rw [sP_same, pk_un h]
theorem aC1_k (σ : aS) {k : Nat} (h : k ≠ 3) : aC1 σ 700 k = σ 700 k := by
  unfold aC1
  rw [sP_same, pk_un h]
theorem aX_3 {σ : aS} {q : Nat} (h : q ≤ 5) : aX σ q 700 3 = nI (min (q + 1) 5) := by
  unfold aX
  by_cases c : q = 5
  · subst c
    rw [if_pos rfl, aC_3]
    rfl
  · rw [if_neg c, aC_3, show min (q + 1) 5 = q + 1 by omega]
theorem aX_k (σ : aS) (q : Nat) {k : Nat} (h : k ≠ 3) : aX σ q 700 k = σ 700 k := by
  unfold aX
  by_cases c : q = 5
  · rw [if_pos c, aC_k _ _ h, aC1_k _ h]
  · rw [if_neg c, aC_k _ _ h]
theorem aX_702 {σ : aS} {q : Nat} (h : q < 5) : aX σ q 702 = fb_put (σ 702) (σ 701) (2374 * q) 2374 := by
  unfold aX
  rw [if_neg (by omega)]
  unfold aC
  rw [sP_ne (by decide), sP_same]
theorem aX_5 (σ : aS) : aX σ 5 702 = fb_put (fa_fill (fun j => σ 702 (j + 2374)) (σ 702) 9496) (σ 701) 9496 2374 := by
  unfold aX
  rw [if_pos rfl]
  unfold aC
  rw [sP_ne (by decide), sP_same]
  unfold aC1
  rw [sP_ne (by decide), sP_same, sP_ne (by decide), sP_ne (by decide)]
theorem old_at {σ τ : aS} {nx p : Nat} {v u : Nat → Int32} (h1 : nx < 5) (hp : p < 5) (hne : p ≠ nx) (e1 : ∀ o, 100 ≤ o → o < 600 → τ o = kp σ nx o) (h : Sst (vw σ (100 * (p + 1))) v) (ev : ∀ k, k < 2374 → u k = v k) : Sst (vw τ (100 * (p + 1))) u :=
  Sst_fr h (fun o a b => (e1 o (by omega) (by omega)).trans (kp_ne (by omega) (by omega))) ev
theorem new_at {σ τ : aS} {nx : Nat} {v u : Nat → Int32} (h1 : nx < 5) (e1 : ∀ o, 100 ≤ o → o < 600 → τ o = kp σ nx o) (h : Sst (vw σ 0) v) (ev : ∀ k, k < 2374 → u k = v k) : Sst (vw τ (100 * (nx + 1))) u :=
  Sst_cong h (SAG_t (kp_cp h1) (SAG_eq (fun o ho => e1 _ (by omega) (by omega)))) ev
theorem kp_2 (σ : aS) (nx : Nat) : kp σ nx 601 2 = nI ((nx + 1) % 5) := by
  unfold kp
  rw [sP_same, pk_un (by decide), sP_same, pk_us]
theorem kp_1 (σ : aS) (nx : Nat) : kp σ nx 601 1 = if 5 < σ 601 1 + 1 then 5 else σ 601 1 + 1 := by
  unfold kp
  rw [sP_same, pk_us]
theorem sz_up : ∀ z, z ≤ 5 → (if (5 : Int32) < nI z + 1 then 5 else nI z + 1) = nI (min (z + 1) 5) := by decide +kernel
theorem sz_dn : ∀ z, z < 5 → (if nI (z + 1) - 1 < 0 then 0 else nI (z + 1) - 1) = nI z := by decide +kernel
theorem Hst_keep {σ s τ : aS} {nx sz : Nat} (h : Hst σ nx sz) (hS : Sst (vw σ 0) (σ 701)) (hs : ∀ o, 700 ≤ o → s o = σ o) (e1 : ∀ o, 100 ≤ o → o < 600 → τ o = kp σ nx o) (e2 : τ 601 = kp σ nx 601) (e3 : τ 702 = aX s sz 702) (e4 : τ 700 3 = aX s sz 700 3) : Hst τ ((nx + 1) % 5) (min (sz + 1) 5) := by
  obtain ⟨h1, h2, h3, h4, h5, h6⟩ := h
  refine ⟨by omega, by omega, ?_, ?_, ?_, fun j hj => ?_⟩
  · rw [e2, kp_2]
  · rw [e2, kp_1, h4]
    exact sz_up sz h2
  · rw [e4, aX_3 h2]
  · rcases Nat.lt_or_ge sz 5 with q | q
    · rw [show min (sz + 1) 5 = sz + 1 by omega] at hj ⊢
      rw [e3, aX_702 q, hs 702 (by decide), hs 701 (by decide)]
      by_cases qj : j = sz
      · subst qj
        rw [show ((nx + 1) % 5 + 5 - (j + 1) + j) % 5 = nx by omega]
        refine new_at h1 e1 hS (fun k hk => ?_)
        show fb_put (σ 702) (σ 701) (2374 * j) 2374 (2374 * j + k) = σ 701 k
        rw [fb_put_in (by omega) (by omega), show 2374 * j + k - 2374 * j = k by omega]
      · have I := h6 j (by omega)
        rw [show ((nx + 1) % 5 + 5 - (sz + 1) + j) % 5 = (nx + 5 - sz + j) % 5 by omega]
        refine old_at h1 (by omega) (by omega) e1 I (fun k hk => ?_)
        show fb_put (σ 702) (σ 701) (2374 * sz) 2374 (2374 * j + k) = σ 702 (2374 * j + k)
        rw [fb_put_out (by omega)]
    · have q5 : sz = 5 := by omega
      subst q5
      rw [show min (5 + 1) 5 = 5 by decide] at hj ⊢
      rw [e3, aX_5, hs 702 (by decide), hs 701 (by decide)]
      by_cases qj : j = 4
      · subst qj
        rw [show ((nx + 1) % 5 + 5 - 5 + 4) % 5 = nx by omega]
        refine new_at h1 e1 hS (fun k hk => ?_)
        show fb_put _ (σ 701) 9496 2374 (2374 * 4 + k) = σ 701 k
        rw [fb_put_in (by omega) (by omega), show 2374 * 4 + k - 9496 = k by omega]
      · have I := h6 (j + 1) (by omega)
        rw [show ((nx + 1) % 5 + 5 - 5 + j) % 5 = (nx + 5 - 5 + (j + 1)) % 5 by omega]
        refine old_at h1 (by omega) (by omega) e1 I (fun k hk => ?_)
        show fb_put _ (σ 701) 9496 2374 (2374 * j + k) = σ 702 (2374 * (j + 1) + k)
        rw [fb_put_out (by omega), fa_fill_in (by omega), show 2374 * j + k + 2374 = 2374 * (j + 1) + k by omega]
theorem Hst_undo {σ τ : aS} {nx sz : Nat} (h : Hst σ nx (sz + 1)) (e1 : ∀ o, 100 ≤ o → o < 600 → τ o = σ o) (e2 : τ 601 = gB_ σ nx 601) (e3 : τ 702 = σ 702) (e4 : τ 700 3 = nI sz) : Hst τ ((nx + 4) % 5) sz := by
  obtain ⟨h1, h2, h3, h4, h5, h6⟩ := h
  refine ⟨by omega, by omega, ?_, ?_, e4, fun j hj => ?_⟩
  · rw [e2]
    unfold gB_
    rw [sB_ne (by omega), sP_same, pk_un (by decide), sP_same, pk_us]
  · rw [e2]
    unfold gB_
    rw [sB_ne (by omega), sP_same, pk_us, h4]
    exact sz_dn sz (by omega)
  · have I := h6 j (by omega)
    rw [show ((nx + 4) % 5 + 5 - sz + j) % 5 = (nx + 5 - (sz + 1) + j) % 5 by omega]
    exact Sst_fr I (fun o a b => e1 o (by omega) (by omega)) (fun k hk => by rw [e3])
theorem Sst_undo {σ τ : aS} {nx sz : Nat} (h : Hst σ nx (sz + 1)) (e0 : ∀ o, o < 40 → τ o = gB_ σ nx o) (e7 : ∀ k, k < 2374 → τ 701 k = σ 702 (2374 * sz + k)) : Sst (vw τ 0) (τ 701) := by
  obtain ⟨h1, h2, h3, h4, h5, h6⟩ := h
  have I := h6 sz (by omega)
  rw [show (nx + 5 - (sz + 1) + sz) % 5 = (nx + 4) % 5 by omega] at I
  exact Sst_cong I (SAG_t (gB_cp h1) (SAG_eq (fun o ho => e0 _ (by omega)))) e7
theorem Txt_fr {σ τ : aS} {n : Nat} (h : Txt σ n) (e1 : τ 603 1 = σ 603 1) (e2 : τ 604 = σ 604) (e3 : τ 703 = σ 703) (e5 : τ 700 5 = σ 700 5) : Txt τ n :=
  ⟨h.1, e1.trans h.2.1, e5.trans h.2.2.1, fun k hk => by rw [e2, e3]; exact h.2.2.2 k hk⟩
theorem Sst_lo {σ τ : aS} (h : Sst (vw σ 0) (σ 701)) (e : ∀ o, o < 40 → τ o = σ o) (e7 : τ 701 = σ 701) : Sst (vw τ 0) (τ 701) := by
  rw [e7]
  exact Sst_fr h (fun o _ b => e o (by omega)) (fun k _ => rfl)
theorem Rel_fr {σ τ : aS} (h : Rel σ) (e : ∀ o, (o < 600 ∨ o = 601 ∨ o = 604 ∨ (701 ≤ o ∧ o < 704)) → τ o = σ o) (e3 : τ 603 1 = σ 603 1) (e0 : τ 700 0 = σ 700 0) (e33 : τ 700 3 = σ 700 3) (e5 : τ 700 5 = σ 700 5) : Rel τ := by
  obtain ⟨h0, ⟨nx, sz, h1, h2, h3, h4, h5, h6⟩, ⟨n, hT⟩, hS⟩ := h
  refine ⟨e0.trans h0, ⟨nx, sz, h1, h2, ?_, ?_, e33.trans h5, fun j hj => ?_⟩, ⟨n, Txt_fr hT e3 (e _ (by omega)) (e _ (by omega)) e5⟩, Sst_lo hS (fun o ho => e o (by omega)) (e _ (by omega))⟩
  · rw [e 601 (by omega)]
    exact h3
  · rw [e 601 (by omega)]
    exact h4
  · exact Sst_fr (h6 j hj) (fun o a b => e o (by omega)) (fun k _ => by rw [e 702 (by omega)])
/-- a call that keeps the state -/
theorem Rel_mut {σ s τ : aS} {nx sz : Nat} (hH : Hst σ nx sz) (hS : Sst (vw σ 0) (σ 701)) (h0 : σ 700 0 = 0) (hs : ∀ o, 700 ≤ o → s o = σ o) (e1 : ∀ o, 100 ≤ o → o < 602 → τ o = kp σ nx o) (e3 : τ 702 = aX s sz 702) (e0 : τ 700 0 = aX s sz 700 0) (e4 : τ 700 3 = aX s sz 700 3) (hT : ∃ n, Txt τ n) (hS2 : Sst (vw τ 0) (τ 701)) : Rel τ :=
  ⟨by rw [e0, aX_k _ _ (by decide), hs 700 (by decide)]; exact h0, ⟨_, _, Hst_keep hH hS hs (fun o a b => e1 o a (by omega)) (e1 601 (by decide) (by decide)) e3 e4⟩, hT, hS2⟩
/-- what the press's keeping and what follows it leaves of the text -/
theorem Txt_mut {σ s τ : aS} {nx sz n : Nat} (hT : Txt σ n) (hnx : nx < 5) (hs : ∀ o, 700 ≤ o → s o = σ o) (e1 : τ 603 = kp σ nx 603) (e2 : τ 604 = kp σ nx 604) (e3 : τ 703 = s 703) (e5 : τ 700 5 = aX s sz 700 5) : Txt τ n := by
  refine Txt_fr hT ?_ ?_ ?_ ?_
  · rw [e1, kp_ne (by omega) (by decide)]
  · rw [e2, kp_ne (by omega) (by decide)]
  · rw [e3, hs 703 (by decide)]
  · rw [e5, aX_k _ _ (by decide), hs 700 (by decide)]
