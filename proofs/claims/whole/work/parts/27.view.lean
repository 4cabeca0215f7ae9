/-! the relation of the two sides: a state of the press against the model's numbers -/
def vw (σ : aS) (b : Nat) : aS := fun o k => σ (b + o) k
theorem vw_vw (σ : aS) (b c : Nat) : vw (vw σ b) c = vw σ (b + c) := by
  funext o k
  simp only [vw, Nat.add_assoc]
theorem vw_0 (σ : aS) : vw σ 0 = σ := by
  funext o k
  simp only [vw, Nat.zero_add]
def zo (z : Int32) : Prop := z = 0 ∨ z = 1
def Bpic (f : aS) (w : Nat → Int32) : Prop := (wR f 5 ∧ wR f 6) ∧ ∀ k, k < 192 → px f 5 k = decide (w k = 1) ∧ px f 6 k = decide (w k = 2) ∧ (w k = 0 ∨ w k = 1 ∨ w k = 2)
def Blin (f : aS) (w : Nat → Int32) : Prop := wR f 7 ∧ ∀ k, k < 192 → px f 7 k = decide (w (192 + k) = 1) ∧ zo (w (192 + k))
def Bwer (f : aS) (w : Nat → Int32) : Prop := ∀ k, k < 192 → f 9 k = w (384 + k) ∧ (w (192 + k) = 0 → w (384 + k) = 0)
def Bcol (f : aS) (w : Nat → Int32) : Prop := wR f 8 ∧ ∀ k, k < 192 → px f 8 k = decide (w (576 + k) = 1) ∧ zo (w (576 + k))
def Bvw (f : aS) (w : Nat → Int32) : Prop := Bpic f w ∧ Blin f w ∧ Bwer f w ∧ Bcol f w
def BAG (f g : aS) : Prop := (∀ y, y < 12 → g 5 y = f 5 y) ∧ (∀ y, y < 12 → g 6 y = f 6 y) ∧ (∀ y, y < 12 → g 7 y = f 7 y) ∧ (∀ y, y < 12 → g 8 y = f 8 y) ∧ ∀ k, k < 192 → g 9 k = f 9 k
theorem px_cong {f g : aS} {a k : Nat} (h : ∀ y, y < 12 → g a y = f a y) (hk : k < 192) : px g a k = px f a k := by
  unfold px
  rw [h _ (by omega)]
theorem wR_cong {f g : aS} {a : Nat} (h : ∀ y, y < 12 → g a y = f a y) (q : wR f a) : wR g a := by
  intro y hy i hi
  rw [h y hy]
  exact q y hy i hi
theorem Bpic_cong {f g : aS} {w u : Nat → Int32} (h : Bpic f w) (e5 : ∀ y, y < 12 → g 5 y = f 5 y) (e6 : ∀ y, y < 12 → g 6 y = f 6 y) (ew : ∀ k, k < 192 → u k = w k) : Bpic g u := by
  refine ⟨⟨wR_cong e5 h.1.1, wR_cong e6 h.1.2⟩, fun k hk => ?_⟩
  rw [px_cong e5 hk, px_cong e6 hk, ew k hk]
  exact h.2 k hk
theorem Blin_cong {f g : aS} {w u : Nat → Int32} (h : Blin f w) (e : ∀ y, y < 12 → g 7 y = f 7 y) (ew : ∀ k, k < 192 → u (192 + k) = w (192 + k)) : Blin g u := by
  refine ⟨wR_cong e h.1, fun k hk => ?_⟩
  rw [px_cong e hk, ew k hk]
  exact h.2 k hk
theorem Bcol_cong {f g : aS} {w u : Nat → Int32} (h : Bcol f w) (e : ∀ y, y < 12 → g 8 y = f 8 y) (ew : ∀ k, k < 192 → u (576 + k) = w (576 + k)) : Bcol g u := by
  refine ⟨wR_cong e h.1, fun k hk => ?_⟩
  rw [px_cong e hk, ew k hk]
  exact h.2 k hk
theorem Bwer_cong {f g : aS} {w u : Nat → Int32} (h : Bwer f w) (e : ∀ k, k < 192 → g 9 k = f 9 k) (ew : ∀ k, k < 192 → u (192 + k) = w (192 + k)) (ew2 : ∀ k, k < 192 → u (384 + k) = w (384 + k)) : Bwer g u := by
  intro k hk
  rw [e k hk, ew k hk, ew2 k hk]
  exact h k hk
theorem Bvw_cong {f g : aS} {w u : Nat → Int32} (h : Bvw f w) (e : BAG f g) (ew : ∀ k, k < 768 → u k = w k) : Bvw g u :=
  ⟨Bpic_cong h.1 e.1 e.2.1 (fun k hk => ew k (by omega)), Blin_cong h.2.1 e.2.2.1 (fun k hk => ew _ (by omega)), Bwer_cong h.2.2.1 e.2.2.2.2 (fun k hk => ew _ (by omega)) (fun k hk => ew _ (by omega)), Bcol_cong h.2.2.2 e.2.2.2.1 (fun k hk => ew _ (by omega))⟩
def Sset (f : aS) (v : Nat → Int32) : Prop := (∀ k, k < 5 → f 1 k = v (768 + k) ∧ stG k (v (768 + k)) = true) ∧ (f 0 3 = v 773 ∧ wi (v 773) (-4) 4 = true) ∧ f 0 4 = v 774 ∧ wi (v 774) (-4) 4 = true
def Slog (f : aS) (v : Nat → Int32) (pn : Nat) : Prop := pn ≤ 5000 ∧ v 775 = nI pn ∧ f 0 5 = nI pn ∧ f 2 1 = nI (min pn 12) ∧ f 2 2 = nI (pn % 12) ∧ ∀ j, 1 ≤ j → j ≤ pn → pn < j + 12 → f 3 (j % 12 * 6) = nI j ∧ f 3 (j % 12 * 6 + 1) = v (776 + 5 * ((j - 1) % 12)) + 8 ∧ f 3 (j % 12 * 6 + 2) = v (776 + 5 * ((j - 1) % 12) + 1) + 8 ∧ f 3 (j % 12 * 6 + 3) = v (776 + 5 * ((j - 1) % 12) + 2) ∧ f 3 (j % 12 * 6 + 4) = v (776 + 5 * ((j - 1) % 12) + 3) ∧ f 3 (j % 12 * 6 + 5) = v (776 + 5 * ((j - 1) % 12) + 4)
def Ssnp (f : aS) (v : Nat → Int32) : Prop := ((f 0 8 = v 836 ∧ zo (v 836)) ∧ Bvw (vw f 20) (fun k => v (837 + k))) ∧ (f 0 9 = v 1605 ∧ zo (v 1605)) ∧ Bvw (vw f 30) (fun k => v (1606 + k))
def Sst (f : aS) (v : Nat → Int32) : Prop := Bvw (vw f 10) v ∧ Sset f v ∧ (∃ pn, Slog f v pn) ∧ Ssnp f v
def SAG (f g : aS) : Prop := BAG (vw f 10) (vw g 10) ∧ BAG (vw f 20) (vw g 20) ∧ BAG (vw f 30) (vw g 30) ∧ (∀ k, k < 5 → g 1 k = f 1 k) ∧ (g 2 1 = f 2 1 ∧ g 2 2 = f 2 2) ∧ (∀ k, k < 72 → g 3 k = f 3 k) ∧ (g 0 3 = f 0 3 ∧ g 0 4 = f 0 4 ∧ g 0 5 = f 0 5) ∧ g 0 8 = f 0 8 ∧ g 0 9 = f 0 9
theorem Sset_cong {f g : aS} {v u : Nat → Int32} (h : Sset f v) (e1 : ∀ k, k < 5 → g 1 k = f 1 k) (e3 : g 0 3 = f 0 3) (e4 : g 0 4 = f 0 4) (ev : ∀ k, 768 ≤ k → k < 775 → u k = v k) : Sset g u := by
  obtain ⟨h1, h2, h3⟩ := h
  refine ⟨fun k hk => ?_, ?_, ?_⟩
  · rw [e1 k hk, ev _ (by omega) (by omega)]
    exact h1 k hk
  · rw [e3, ev 773 (by decide) (by decide)]
    exact h2
  · rw [e4, ev 774 (by decide) (by decide)]
    exact h3
theorem Slog_cong {f g : aS} {v u : Nat → Int32} {pn : Nat} (h : Slog f v pn) (e5 : g 0 5 = f 0 5) (e2 : g 2 1 = f 2 1 ∧ g 2 2 = f 2 2) (e3 : ∀ k, k < 72 → g 3 k = f 3 k) (ev : ∀ k, 775 ≤ k → k < 836 → u k = v k) : Slog g u pn := by
  obtain ⟨h1, h2, h3, h4, h5, h6⟩ := h
  refine ⟨h1, by rw [ev 775 (by decide) (by decide)]; exact h2, e5.trans h3, e2.1.trans h4, e2.2.trans h5, fun j a b c => ?_⟩
  rw [e3 _ (by omega), e3 _ (by omega), e3 _ (by omega), e3 _ (by omega), e3 _ (by omega), e3 _ (by omega), ev _ (by omega) (by omega), ev _ (by omega) (by omega), ev _ (by omega) (by omega), ev _ (by omega) (by omega), ev _ (by omega) (by omega)]
  exact h6 j a b c
theorem Ssnp_cong {f g : aS} {v u : Nat → Int32} (h : Ssnp f v) (e20 : BAG (vw f 20) (vw g 20)) (e30 : BAG (vw f 30) (vw g 30)) (e8 : g 0 8 = f 0 8) (e9 : g 0 9 = f 0 9) (ev : ∀ k, 836 ≤ k → k < 2374 → u k = v k) : Ssnp g u := by
  obtain ⟨⟨h1, h2⟩, h3, h4⟩ := h
  refine ⟨⟨?_, Bvw_cong h2 e20 (fun k hk => ev _ (by omega) (by omega))⟩, ?_, Bvw_cong h4 e30 (fun k hk => ev _ (by omega) (by omega))⟩
  · rw [e8, ev 836 (by decide) (by decide)]
    exact h1
  · rw [e9, ev 1605 (by decide) (by decide)]
    exact h3
theorem Sst_cong {f g : aS} {v u : Nat → Int32} (h : Sst f v) (e : SAG f g) (ev : ∀ k, k < 2374 → u k = v k) : Sst g u := by
  obtain ⟨h1, h2, ⟨pn, h3⟩, h4⟩ := h
  obtain ⟨a1, a2, a3, a4, a5, a6, ⟨a7, a8, a9⟩, b1, b2⟩ := e
  exact ⟨Bvw_cong h1 a1 (fun k hk => ev k (by omega)), Sset_cong h2 a4 a7 a8 (fun k _ hk => ev k (by omega)), ⟨pn, Slog_cong h3 a9 a5 a6 (fun k _ hk => ev k (by omega))⟩, Ssnp_cong h4 a2 a3 b1 b2 (fun k _ hk => ev k hk)⟩
theorem BAG_eq {f g : aS} (h : ∀ o, 5 ≤ o → o < 10 → g o = f o) : BAG f g :=
  ⟨fun y _ => by rw [h 5 (by decide) (by decide)], fun y _ => by rw [h 6 (by decide) (by decide)], fun y _ => by rw [h 7 (by decide) (by decide)], fun y _ => by rw [h 8 (by decide) (by decide)], fun k _ => by rw [h 9 (by decide) (by decide)]⟩
theorem BAG_t {f g h : aS} (a : BAG f g) (b : BAG g h) : BAG f h :=
  ⟨fun y q => (b.1 y q).trans (a.1 y q), fun y q => (b.2.1 y q).trans (a.2.1 y q), fun y q => (b.2.2.1 y q).trans (a.2.2.1 y q), fun y q => (b.2.2.2.1 y q).trans (a.2.2.2.1 y q), fun y q => (b.2.2.2.2 y q).trans (a.2.2.2.2 y q)⟩
theorem vw_eq {σ τ : aS} {b c o : Nat} (h : σ (b + o) = τ (c + o)) : vw σ b o = vw τ c o := funext fun k => congrFun h k
theorem SAG_eq {σ τ : aS} {b c : Nat} (h : ∀ o, o < 40 → τ (c + o) = σ (b + o)) : SAG (vw σ b) (vw τ c) := by
  have e : ∀ o, o < 40 → vw τ c o = vw σ b o := fun o ho => vw_eq (h o ho)
  have eB : ∀ q, q + 10 ≤ 40 → BAG (vw (vw σ b) q) (vw (vw τ c) q) := by
    intro q hq
    refine BAG_eq (fun o h5 h10 => ?_)
    rw [vw_vw, vw_vw]
    refine vw_eq ?_
    rw [Nat.add_assoc, Nat.add_assoc]
    exact h _ (by omega)
  refine ⟨eB 10 (by decide), eB 20 (by decide), eB 30 (by decide), fun k _ => by rw [e 1 (by decide)], ⟨by rw [e 2 (by decide)], by rw [e 2 (by decide)]⟩, fun k _ => by rw [e 3 (by decide)], ⟨by rw [e 0 (by decide)], by rw [e 0 (by decide)], by rw [e 0 (by decide)]⟩, by rw [e 0 (by decide)], by rw [e 0 (by decide)]⟩
theorem SAG_t {f g h : aS} (a : SAG f g) (b : SAG g h) : SAG f h := by
  obtain ⟨a1, a2, a3, a4, a5, a6, a7, a8, a9⟩ := a
  obtain ⟨b1, b2, b3, b4, b5, b6, b7, b8, b9⟩ := b
  exact ⟨BAG_t a1 b1, BAG_t a2 b2, BAG_t a3 b3, fun k q => (b4 k q).trans (a4 k q), ⟨b5.1.trans a5.1, b5.2.trans a5.2⟩, fun k q => (b6 k q).trans (a6 k q), ⟨b7.1.trans a7.1, b7.2.1.trans a7.2.1, b7.2.2.trans a7.2.2⟩, b8.trans a8, b9.trans a9⟩
theorem Sst_fr {σ τ : aS} {v u : Nat → Int32} {b : Nat} (h : Sst (vw σ b) v) (e : ∀ o, b ≤ o → o < b + 40 → τ o = σ o) (ev : ∀ k, k < 2374 → u k = v k) : Sst (vw τ b) u :=
  Sst_cong h (SAG_eq (fun o ho => e _ (by omega) (by omega))) ev
/-! copies -/
theorem bL_at {σ : aS} {a b y : Nat} (hy : y < 12) : bL σ a b a y = σ b y := by
  unfold bL
  rw [sP_same]
  exact cpy_at _ _ hy
theorem bB_cp {σ : aS} {a b : Nat} (h : a + 10 ≤ b ∨ b + 10 ≤ a) : BAG (vw σ b) (vw (bB σ a b) a) := by
  refine ⟨fun y hy => ?_, fun y hy => ?_, fun y hy => ?_, fun y hy => ?_, fun k hk => ?_⟩
  · show bB σ a b (a + 1 + 4) y = σ (b + 1 + 4) y
    unfold bB
    rw [sP_ne (by omega), bL_ne (by omega), bL_ne (by omega), bL_ne (by omega), bL_at hy]
  · show bB σ a b (a + 2 + 4) y = σ (b + 2 + 4) y
    unfold bB
    rw [sP_ne (by omega), bL_ne (by omega), bL_ne (by omega), bL_at hy, bL_ne (by omega)]
  · show bB σ a b (a + 3 + 4) y = σ (b + 3 + 4) y
    unfold bB
    rw [sP_ne (by omega), bL_ne (by omega), bL_at hy, bL_ne (by omega), bL_ne (by omega)]
  · show bB σ a b (a + 4 + 4) y = σ (b + 4 + 4) y
    unfold bB
    rw [sP_ne (by omega), bL_at hy, bL_ne (by omega), bL_ne (by omega), bL_ne (by omega)]
  · show bB σ a b (a + 9) k = σ (b + 9) k
    unfold bB
    rw [sP_same, cpy_at _ _ hk, bL_ne (by omega), bL_ne (by omega), bL_ne (by omega), bL_ne (by omega)]
theorem lB_cp {σ : aS} {a b : Nat} (h : a + 2 ≤ b ∨ b + 2 ≤ a) : (lB σ a b a 1 = σ b 1 ∧ lB σ a b a 2 = σ b 2) ∧ ∀ k, k < 72 → lB σ a b (a + 1) k = σ (b + 1) k := by
  refine ⟨⟨?_, ?_⟩, fun k hk => ?_⟩
  · unfold lB
    rw [sP_same, pk_un (by decide), sP_same, pk_us, sP_ne (by omega)]
  · unfold lB
    rw [sP_same, pk_us, sP_ne (by omega), sP_ne (by omega)]
  · unfold lB
    rw [sP_ne (by omega), sP_ne (by omega), sP_same]
    exact cpy_at _ _ hk
theorem sB1_ne {σ : aS} {a b o : Nat} (h : o < a + 1 ∨ (a + 4 ≤ o ∧ o < a + 10) ∨ a + 20 ≤ o) : sB1 σ a b o = σ o := by
  unfold sB1
  rw [lB_ne (by omega), sP_ne (by omega), bB_ne (by omega)]
theorem sB2_ne {σ : aS} {a b o : Nat} (h : o ≠ a) : sB2 σ a b o = σ o := by
  unfold sB2
  rw [sP_ne h, sP_ne h, sP_ne h]
theorem sB3_ne {σ : aS} {a b o : Nat} (h : o < a + 20 ∨ a + 40 ≤ o) : sB3 σ a b o = σ o := by
  unfold sB3
  rw [bB_ne (by omega), bB_ne (by omega)]
theorem sB4_ne {σ : aS} {a b o : Nat} (h : o ≠ a) : sB4 σ a b o = σ o := by
  unfold sB4
  rw [sP_ne h, sP_ne h]
theorem sB_12 {σ : aS} {a b o : Nat} (h : o ≠ a) (h2 : o < a + 20 ∨ a + 40 ≤ o) : sB σ a b o = sB1 σ a b o := by
  unfold sB
  rw [sB4_ne h, sB3_ne h2, sB2_ne h]
theorem sB_out {σ : aS} {a b o : Nat} (h : o < a ∨ a + 40 ≤ o) : sB3 (sB2 (sB1 σ a b) a b) a b o = σ o := by
  rw [sB3_ne (by omega), sB2_ne (by omega), sB1_ne (by omega)]
theorem sB_cp {σ : aS} {a b : Nat} (h : a + 40 ≤ b ∨ b + 40 ≤ a) : SAG (vw σ b) (vw (sB σ a b) a) := by
  refine ⟨?_, ?_, ?_, fun k hk => ?_, ⟨?_, ?_⟩, fun k hk => ?_, ⟨?_, ?_, ?_⟩, ?_, ?_⟩
  · rw [vw_vw, vw_vw]
    refine BAG_t (bB_cp (σ := σ) (a := a + 10) (b := b + 10) (by omega)) (BAG_eq (fun o h5 h10 => vw_eq ?_))
    rw [sB_12 (by omega) (by omega)]
    unfold sB1
    rw [lB_ne (by omega), sP_ne (by omega)]
  · rw [vw_vw, vw_vw]
    refine BAG_t ?_ (BAG_t (bB_cp (σ := sB2 (sB1 σ a b) a b) (a := a + 20) (b := b + 20) (by omega)) (BAG_eq (fun o h5 h10 => vw_eq ?_)))
    · refine BAG_eq (fun o h5 h10 => vw_eq ?_)
      rw [sB2_ne (by omega), sB1_ne (by omega)]
    · unfold sB
      rw [sB4_ne (by omega)]
      unfold sB3
      rw [bB_ne (by omega)]
  · rw [vw_vw, vw_vw]
    refine BAG_t ?_ (BAG_t (bB_cp (σ := bB (sB2 (sB1 σ a b) a b) (a + 20) (b + 20)) (a := a + 30) (b := b + 30) (by omega)) (BAG_eq (fun o h5 h10 => vw_eq ?_)))
    · refine BAG_eq (fun o h5 h10 => vw_eq ?_)
      rw [bB_ne (by omega), sB2_ne (by omega), sB1_ne (by omega)]
    · unfold sB
      rw [sB4_ne (by omega)]
      rfl
  · show sB σ a b (a + 1) k = σ (b + 1) k
    rw [sB_12 (by omega) (by omega)]
    unfold sB1
    rw [lB_ne (by omega), sP_same, cpy_at _ _ hk, bB_ne (by omega)]
  · show sB σ a b (a + 2) 1 = σ (b + 2) 1
    rw [sB_12 (by omega) (by omega)]
    unfold sB1
    rw [(lB_cp (by omega)).1.1, sP_ne (by omega), bB_ne (by omega)]
  · show sB σ a b (a + 2) 2 = σ (b + 2) 2
    rw [sB_12 (by omega) (by omega)]
    unfold sB1
    rw [(lB_cp (by omega)).1.2, sP_ne (by omega), bB_ne (by omega)]
  · show sB σ a b (a + 2 + 1) k = σ (b + 2 + 1) k
    rw [sB_12 (by omega) (by omega)]
    unfold sB1
    rw [(lB_cp (by omega)).2 k hk, sP_ne (by omega), bB_ne (by omega)]
  · show sB σ a b a 3 = σ b 3
    unfold sB sB4
    rw [sP_same, pk_un (by decide), sP_same, pk_un (by decide), sB3_ne (by omega)]
    unfold sB2
    rw [sP_same, pk_un (by decide), sP_same, pk_un (by decide), sP_same, pk_us, sB1_ne (by omega)]
  · show sB σ a b a 4 = σ b 4
    unfold sB sB4
    rw [sP_same, pk_un (by decide), sP_same, pk_un (by decide), sB3_ne (by omega)]
    unfold sB2
    rw [sP_same, pk_un (by decide), sP_same, pk_us, sP_ne (by omega), sB1_ne (by omega)]
  · show sB σ a b a 5 = σ b 5
    unfold sB sB4
    rw [sP_same, pk_un (by decide), sP_same, pk_un (by decide), sB3_ne (by omega)]
    unfold sB2
    rw [sP_same, pk_us, sP_ne (by omega), sP_ne (by omega), sB1_ne (by omega)]
  · show sB σ a b a 8 = σ b 8
    unfold sB sB4
    rw [sP_same, pk_un (by decide), sP_same, pk_us, sB_out (by omega)]
  · show sB σ a b a 9 = σ b 9
    unfold sB sB4
    rw [sP_same, pk_us, sP_ne (by omega), sB_out (by omega)]
theorem kp_cp {σ : aS} {nx : Nat} (h : nx < 5) : SAG (vw σ 0) (vw (kp σ nx) (100 * (nx + 1))) := by
  have e : SAG (vw σ 0) (vw (sB σ (100 * (nx + 1)) 0) (100 * (nx + 1))) := sB_cp (by omega)
  have e2 : SAG (vw (sB σ (100 * (nx + 1)) 0) (100 * (nx + 1))) (vw (kp σ nx) (100 * (nx + 1))) := by
    refine SAG_eq (fun o ho => ?_)
    unfold kp
    rw [sP_ne (by omega), sP_ne (by omega)]
  exact SAG_t e e2
theorem gB_cp {σ : aS} {nx : Nat} (h : nx < 5) : SAG (vw σ (100 * ((nx + 4) % 5 + 1))) (vw (gB_ σ nx) 0) := by
  unfold gB_
  have e := sB_cp (σ := sP (sP σ 601 (upd (σ 601) 2 (nI ((nx + 4) % 5)))) 601 (upd (sP σ 601 (upd (σ 601) 2 (nI ((nx + 4) % 5))) 601) 1 (if σ 601 1 - 1 < 0 then 0 else σ 601 1 - 1))) (a := 0) (b := 100 * ((nx + 4) % 5 + 1)) (by omega)
  have e2 : SAG (vw σ (100 * ((nx + 4) % 5 + 1))) (vw (sP (sP σ 601 (upd (σ 601) 2 (nI ((nx + 4) % 5)))) 601 (upd (sP σ 601 (upd (σ 601) 2 (nI ((nx + 4) % 5))) 601) 1 (if σ 601 1 - 1 < 0 then 0 else σ 601 1 - 1))) (100 * ((nx + 4) % 5 + 1))) := by
    refine SAG_eq (fun o ho => ?_)
    rw [sP_ne (by omega), sP_ne (by omega)]
  exact SAG_t e2 e
