/-! both sides' calls, one behind the other: what changes the state -/
theorem Sst_blk {σ τ : aS} {v u : Nat → Int32} (h : Sst σ v) (hB : Bvw (vw τ 10) u) (e : ∀ o, (o < 10 ∨ (20 ≤ o ∧ o < 40)) → τ o = σ o) (ev : ∀ k, 768 ≤ k → k < 2374 → u k = v k) : Sst τ u := by
  obtain ⟨_, h2, ⟨pn, h3⟩, h4⟩ := h
  have e0 : τ 0 = σ 0 := e 0 (by omega)
  have eB : ∀ q, 20 ≤ q → q + 10 ≤ 40 → BAG (vw σ q) (vw τ q) := fun q h1 h2 => BAG_eq (fun o h5 h10 => vw_eq (e _ (by omega)))
  refine ⟨hB, Sset_cong h2 (fun k _ => by rw [e 1 (by omega)]) (by rw [e0]) (by rw [e0]) (fun k a b => ev k (by omega) (by omega)), ⟨pn, Slog_cong h3 (by rw [e0]) ⟨by rw [e 2 (by omega)], by rw [e 2 (by omega)]⟩ (fun k _ => by rw [e 3 (by omega)]) (fun k a b => ev k (by omega) (by omega))⟩, Ssnp_cong h4 (eB 20 (by decide) (by decide)) (eB 30 (by decide) (by decide)) (by rw [e0]) (by rw [e0]) (fun k a b => ev k (by omega) b)⟩
/-- what both sides leave, but for the state -/
theorem Rel_go {σ s τ : aS} {nx sz n : Nat} (h0 : σ 700 0 = 0) (hH : Hst σ nx sz) (hT : Txt σ n) (hS : Sst σ (σ 701)) (hs : ∀ o, 700 ≤ o → s o = σ o) (ef : ∀ o, 100 ≤ o → o < 605 → τ o = kp σ nx o) (e2 : τ 702 = aX s sz 702) (e3 : τ 703 = s 703) (e7 : ∀ k, (k = 0 ∨ k = 3 ∨ k = 5) → τ 700 k = aX s sz 700 k) (hS2 : Sst τ (τ 701)) : Rel τ :=
  Rel_mut hH (Sst_1 hS) h0 hs (fun o a b => ef o a (by omega)) e2 (e7 0 (by omega)) (e7 3 (by omega)) ⟨n, Txt_mut hT hH.1 hs (ef 603 (by decide) (by decide)) (ef 604 (by decide) (by decide)) e3 (e7 5 (by omega))⟩ (Sst_1 hS2)
theorem kp_hi {σ : aS} {nx o : Nat} (h : nx < 5) (ho : 602 ≤ o) : kp σ nx o = σ o := kp_ne (by omega) (by omega)
/-! one cell of a set of cells -/
theorem bt_one {x i : Nat} (hx : x < 16) (hi : i < 32) : bt ((1 : Int32) <<< (nI x &&& 31)) i = decide (i = x) := by
  rw [b_shl x (by omega) _ hi, bt_1]
  by_cases c : i = x
  · subst c
    rw [decide_eq_true (Nat.le_refl i), decide_eq_true (Nat.sub_self i), decide_eq_true rfl]
    rfl
  · rw [decide_eq_false c]
    by_cases q : x ≤ i
    · rw [decide_eq_false (show ¬ i - x = 0 by omega), Bool.and_false]
    · rw [decide_eq_false q, Bool.false_and]
theorem bt_pv {r z : Int32} {x i : Nat} (hx : x < 16) (hi : i < 32) : bt (pv r (nI x) z) i = if i = x then decide (¬ z = 0) else bt r i := by
  unfold pv
  by_cases c : z = 0
  · rw [if_pos c, b_and, bt_not _ hi, bt_one hx hi]
    by_cases q : i = x
    · rw [if_pos q, decide_eq_true q, (decide_eq_false (fun z => z c) : decide (¬ z = 0) = false)]
      exact Bool.and_false _
    · rw [if_neg q, decide_eq_false q]
      exact Bool.and_true _
  · rw [if_neg c, b_or, bt_one hx hi]
    by_cases q : i = x
    · rw [if_pos q, decide_eq_true q, decide_eq_true c]
      exact Bool.or_true _
    · rw [if_neg q, decide_eq_false q]
      exact Bool.or_false _
theorem pt_at {s : aS} {a x y : Nat} (hx : x < 16) (hy : y < 12) (z : Int32) : pt s a (nI x) (nI y) z = sP s a (upd (s a) y (pv (s a y) (nI x) z)) := by
  unfold pt
  rw [if_pos (pl_nI hx hy), cl_nI (by omega)]
theorem pt_ne {s : aS} {a o : Nat} {x y z : Int32} (h : o ≠ a) : pt s a x y z o = s o := by
  unfold pt
  split
  · exact sP_ne h
  · rfl
theorem pt_px {s : aS} {a x y k : Nat} (hx : x < 16) (hy : y < 12) (z : Int32) : px (pt s a (nI x) (nI y) z) a k = if k = 16 * y + x then decide (¬ z = 0) else px s a k := by
  rw [pt_at hx hy]
  unfold px
  rw [sP_same]
  by_cases c : k / 16 = y
  · rw [c, pk_us, bt_pv hx (by omega)]
    by_cases q : k % 16 = x
    · rw [if_pos q, if_pos (by omega)]
    · rw [if_neg q, if_neg (by omega)]
  · rw [pk_un c, if_neg (by omega)]
theorem pt_wR {s : aS} {a x y : Nat} (hx : x < 16) (hy : y < 12) (z : Int32) (h : wR s a) : wR (pt s a (nI x) (nI y) z) a := by
  intro r hr i hi
  rw [pt_at hx hy, sP_same]
  by_cases c : r = y
  · subst c
    rw [pk_us]
    rcases Nat.lt_or_ge i 32 with q | q
    · rw [bt_pv hx q, if_neg (by omega)]
      exact h r hr i hi
    · exact b_big q
  · rw [pk_un c]
    exact h r hr i hi
theorem px_pt {s : aS} {a b : Nat} {x y z : Int32} (h : a ≠ b) (k : Nat) : px (pt s b x y z) a k = px s a k := by
  unfold px
  rw [pt_ne h]
theorem if10 (c : Prop) [Decidable c] : decide (¬ (if c then (1 : Int32) else 0) = 0) = decide c := by
  by_cases h : c
  · rw [if_pos h, decide_eq_true h]
    rfl
  · rw [if_neg h, decide_eq_false h]
    rfl
/-! paint -/
def PI (B0 M0 : aS) (P M : aS × Int32) : Prop := (Bpic (vw P.1 10) (M.1 701) ∧ P.2 = M.2) ∧ (∀ o, o ≠ 15 → o ≠ 16 → P.1 o = B0 o) ∧ (∀ o, o ≠ 701 → M.1 o = M0 o) ∧ ∀ j, 192 ≤ j → M.1 701 j = M0 701 j
theorem pi_step {B0 M0 : aS} {P M : aS × Int32} {kind : Int32} {x y : Nat} (h : PI B0 M0 P M) (hk : wi kind 0 2 = true) (hx : x < 16) (hy : y < 12) : PI B0 M0 (fx1 P.1 10 kind (nI x) (nI y), P.2 + on (if kA P.1 10 (nI x) (nI y) = kind then 0 else 1)) (sP M.1 701 (upd (M.1 701) (16 * y + x) kind), M.2 + (if M.1 701 (16 * y + x) = kind then 0 else 1)) := by
  obtain ⟨⟨hB, h2⟩, h3, h4, h5⟩ := h
  have hk3 : kind = 0 ∨ kind = 1 ∨ kind = 2 := by
    obtain ⟨m, _, hm, rfl⟩ := wi_nat (lo := 0) (hi := 2) (by decide) (by decide) hk
    match m, hm with
    | 0, _ => exact Or.inl rfl
    | 1, _ => exact Or.inr (Or.inl rfl)
    | 2, _ => exact Or.inr (Or.inr rfl)
  have w5 : wR P.1 15 := hB.1.1
  have w6 : wR P.1 16 := hB.1.2
  have p5 : ∀ k, px (fx1 P.1 10 kind (nI x) (nI y)) 15 k = if k = 16 * y + x then decide (kind = 1) else px P.1 15 k := by
    intro k
    show px (pt (pt P.1 15 (nI x) (nI y) (if kind = 1 then 1 else 0)) 16 (nI x) (nI y) (if kind = 2 then 1 else 0)) 15 k = _
    rw [px_pt (by decide), pt_px hx hy, if10]
  have p6 : ∀ k, px (fx1 P.1 10 kind (nI x) (nI y)) 16 k = if k = 16 * y + x then decide (kind = 2) else px P.1 16 k := by
    intro k
    show px (pt (pt P.1 15 (nI x) (nI y) (if kind = 1 then 1 else 0)) 16 (nI x) (nI y) (if kind = 2 then 1 else 0)) 16 k = _
    rw [pt_px hx hy, if10, px_pt (by decide)]
  refine ⟨⟨⟨⟨?_, ?_⟩, fun k hk => ?_⟩, ?_⟩, fun o a b => ?_, fun o a => ?_, fun j a => ?_⟩
  · show wR (pt (pt P.1 15 (nI x) (nI y) (if kind = 1 then 1 else 0)) 16 (nI x) (nI y) (if kind = 2 then 1 else 0)) 15
    exact wR_to (pt_wR hx hy _ w5) (pt_ne (by decide))
  · show wR (pt (pt P.1 15 (nI x) (nI y) (if kind = 1 then 1 else 0)) 16 (nI x) (nI y) (if kind = 2 then 1 else 0)) 16
    exact pt_wR hx hy _ (wR_to w6 (pt_ne (by decide)))
  · show px (fx1 P.1 10 kind (nI x) (nI y)) 15 k = decide (sP M.1 701 (upd (M.1 701) (16 * y + x) kind) 701 k = 1) ∧ px (fx1 P.1 10 kind (nI x) (nI y)) 16 k = decide (sP M.1 701 (upd (M.1 701) (16 * y + x) kind) 701 k = 2) ∧ (sP M.1 701 (upd (M.1 701) (16 * y + x) kind) 701 k = 0 ∨ sP M.1 701 (upd (M.1 701) (16 * y + x) kind) 701 k = 1 ∨ sP M.1 701 (upd (M.1 701) (16 * y + x) kind) 701 k = 2)
    rw [p5, p6, sP_same]
    by_cases c : k = 16 * y + x
    · rw [if_pos c, if_pos c, c, pk_us]
      exact ⟨rfl, rfl, hk3⟩
    · rw [if_neg c, if_neg c, pk_un c]
      exact hB.2 k hk
  · show P.2 + _ = M.2 + _
    rw [kA_eq hB hx hy, h2]
    by_cases c : M.1 701 (16 * y + x) = kind
    · rw [if_pos c]
      rfl
    · rw [if_neg c]
      rfl
  · show pt (pt P.1 15 (nI x) (nI y) (if kind = 1 then 1 else 0)) 16 (nI x) (nI y) (if kind = 2 then 1 else 0) o = B0 o
    rw [pt_ne b, pt_ne a]
    exact h3 o a b
  · show sP M.1 701 _ o = M0 o
    rw [sP_ne a]
    exact h4 o a
  · show sP M.1 701 (upd (M.1 701) (16 * y + x) kind) 701 j = M0 701 j
    rw [sP_same, pk_un (by omega)]
    exact h5 j a
theorem pi_row {B0 M0 : aS} {kind : Int32} {x0 y : Nat} (hk : wi kind 0 2 = true) (hy : y < 12) {P M : aS × Int32} (h : PI B0 M0 P M) : ∀ n, x0 + n ≤ 16 → PI B0 M0 (fR 10 kind (nI y) x0 P n) (mR kind y x0 M n)
  | 0, _ => h
  | n + 1, hn => pi_step (pi_row hk hy h n (by omega)) hk (show x0 + n < 16 by omega) hy
theorem pi_area {B0 M0 : aS} {kind : Int32} {x0 y0 wd : Nat} (hk : wi kind 0 2 = true) (hw : x0 + wd ≤ 16) {P M : aS × Int32} (h : PI B0 M0 P M) : ∀ m, y0 + m ≤ 12 → PI B0 M0 (fA 10 kind x0 y0 wd P m) (mA kind x0 y0 wd M m)
  | 0, _ => h
  | m + 1, hm => pi_row hk (show y0 + m < 12 by omega) (pi_area hk hw h m (by omega)) wd hw
theorem kp_pic {σ : aS} {nx : Nat} {w : Nat → Int32} (h : Bpic (vw σ 10) w) : Bpic (vw (kp σ nx) 10) w :=
  Bpic_cong h (fun y _ => by show kp σ nx 15 y = σ 15 y; rw [kp_lo (by decide)]) (fun y _ => by show kp σ nx 16 y = σ 16 y; rw [kp_lo (by decide)]) (fun _ _ => rfl)
theorem pv_of {x y w h k : Int32} (q : pvP x y w h k = true) : ∃ x0 y0 wd ht : Nat, (x = nI x0 ∧ y = nI y0 ∧ w = nI wd ∧ h = nI ht) ∧ x0 < 16 ∧ y0 < 12 ∧ 1 ≤ wd ∧ x0 + wd ≤ 16 ∧ 1 ≤ ht ∧ y0 + ht ≤ 12 ∧ wi k 0 2 = true := by
  unfold pvP at q
  rw [Bool.and_eq_true, Bool.and_eq_true, Bool.and_eq_true] at q
  obtain ⟨q1, q2, q3, q4⟩ := q
  obtain ⟨i, j, hi, hj, rfl, rfl⟩ := pl_in q1
  rw [show (16 : Int32) - nI i = nI (16 - i) from pk_sub (a := 16) (by omega)] at q2
  rw [show (12 : Int32) - nI j = nI (12 - j) from pk_sub (a := 12) (by omega)] at q3
  obtain ⟨a, a1, a2, rfl⟩ := wi_nat (lo := 1) (by decide) (by omega) q2
  obtain ⟨b, b1, b2, rfl⟩ := wi_nat (lo := 1) (by decide) (by omega) q3
  exact ⟨i, j, a, b, ⟨rfl, rfl, rfl, rfl⟩, hi, hj, a1, by omega, b1, by omega, q4⟩
theorem duo_paint {g : aG} {l : Launch} {σ : aS} (hR : Rel σ) (x y w h k : Int32) : Duo g l yX6_paint wsX6_paint 5 111 yX7_paint wsX7_paint 2 43 [.int x, .int y, .int w, .int h, .int k] σ := by
  have h0 := hR.1
  obtain ⟨nx, sz, hH⟩ := hR.2.1
  obtain ⟨n, hT⟩ := hR.2.2.1
  have hS := Rel_S hR
  obtain ⟨hB, hE, ⟨pn, hG⟩, hN⟩ := hS
  have hNX : NX σ nx := NX_of hH hN
  have hW := WB_of hB
  have h3 : σ 700 3 = nI sz := hH.2.2.2.2.1
  have hnx := hH.1
  have hsz := hH.2.1
  cases hp : pvP x y w h k with
  | false => exact duo_of (zX6_paint_bad x y w h k hp) (zX7_paint_bad h0 x y w h k hp) rfl hR
  | true =>
    obtain ⟨x0, y0, wd, ht, ⟨rfl, rfl, rfl, rfl⟩, a1, a2, a3, a4, a5, a6, a7⟩ := pv_of hp
    have hx := zX6_paint_ok (g := g) (l := l) nx x0 y0 wd ht k hNX a1 a2 a3 a4 a5 a6 a7
    -- the press's frame: a run of both with the model's own start
    have I0 : PI (kp σ nx) σ (kp σ nx, 0) (σ, 0) := ⟨⟨kp_pic hB.1, rfl⟩, fun _ _ _ => rfl, fun _ _ => rfl, fun _ _ => rfl⟩
    have I1 := pi_area (y0 := y0) a7 a4 I0 ht a6
    generalize hs : (fA 10 k x0 y0 wd (kp σ nx, 0) ht) = X at hx I1
    have ehi : ∀ o, 700 ≤ o → X.1 o = σ o := fun o ho => (I1.2.1 o (by omega) (by omega)).trans (kp_hi hnx (by omega))
    have e0 : X.1 700 0 = 0 := by rw [ehi 700 (by decide)]; exact h0
    have e3 : X.1 700 3 = nI sz := by rw [ehi 700 (by decide)]; exact h3
    have hm := zX7_paint_ok (g := g) (l := l) e0 sz x0 y0 wd ht k hsz e3 a1 a2 a3 a4 a5 a6 a7
    have I2 : PI (kp σ nx) (aX X.1 sz) (kp σ nx, 0) (aX X.1 sz, 0) := by
      refine ⟨⟨?_, rfl⟩, fun _ _ _ => rfl, fun _ _ => rfl, fun _ _ => rfl⟩
      show Bpic (vw (kp σ nx) 10) (aX X.1 sz 701)
      rw [aX_701, ehi 701 (by decide)]
      exact kp_pic hB.1
    have I := pi_area (y0 := y0) a7 a4 I2 ht a6
    rw [hs] at I
    generalize mA k x0 y0 wd (aX X.1 sz, 0) ht = M at hm I
    obtain ⟨⟨b1, b2⟩, b3, b4, b5⟩ := I
    have elo : ∀ o, o < 700 → M.1 o = X.1 o := fun o ho => (b4 o (by omega)).trans (aX_ne (by omega) (by omega))
    have e7 : aX X.1 sz 701 = σ 701 := by rw [aX_701, ehi 701 (by decide)]
    refine duo_of hx hm b2.symm ?_
    refine Rel_go (s := X.1) h0 hH hT (Rel_S hR) ehi (fun o a b => ?_) (b4 702 (by decide)) ?_ (fun k _ => by rw [b4 700 (by decide)]) ?_
    · rw [elo o (by omega)]
      exact b3 o (by omega) (by omega)
    · rw [b4 703 (by decide), aX_ne (by decide) (by decide)]
    · refine Sst_blk (Rel_S hR) ⟨?_, ?_, ?_, ?_⟩ (fun o ho => ?_) (fun j hj _ => ?_)
      · refine Bpic_cong b1 (fun y _ => ?_) (fun y _ => ?_) (fun _ _ => rfl)
        · show M.1 15 y = X.1 15 y
          rw [elo 15 (by decide)]
        · show M.1 16 y = X.1 16 y
          rw [elo 16 (by decide)]
      · refine Blin_cong hB.2.1 (fun y _ => ?_) (fun j _ => by rw [b5 _ (by omega), e7])
        show M.1 17 y = σ 17 y
        rw [elo 17 (by decide), b3 17 (by decide) (by decide), kp_lo (by decide)]
      · refine Bwer_cong hB.2.2.1 (fun y _ => ?_) (fun j _ => by rw [b5 _ (by omega), e7]) (fun j _ => by rw [b5 _ (by omega), e7])
        show M.1 19 y = σ 19 y
        rw [elo 19 (by decide), b3 19 (by decide) (by decide), kp_lo (by decide)]
      · refine Bcol_cong hB.2.2.2 (fun y _ => ?_) (fun j _ => by rw [b5 _ (by omega), e7])
        show M.1 18 y = σ 18 y
        rw [elo 18 (by decide), b3 18 (by decide) (by decide), kp_lo (by decide)]
      · rw [elo o (by omega), b3 o (by omega) (by omega), kp_lo (by omega)]
      · rw [b5 j (by omega), e7]
