/-! cutting anew: what grows depends on the picture alone -/
theorem rw_cong {s s' : aS} {a a' : Nat} (h : ∀ y, y < 12 → s a y = s' a' y) {k : Nat} (hk : k ≤ 12) : rw_ s a (nI k) = rw_ s' a' (nI k) := by
  rcases Nat.lt_or_ge k 12 with q | q
  · rw [rw_nI _ _ q, rw_nI _ _ q, h k q]
  · rw [rw_ge _ _ q (by omega), rw_ge _ _ q (by omega)]
theorem gw_cong {s s' : aS} {a a' o o' y : Nat} (h : ∀ y, y < 12 → s a y = s' a' y) (ho : ∀ y, y < 12 → s o y = s' o' y) (hy : y < 12) : gw s a o y = gw s' a' o' y := by
  have e : (if y = 0 then 0 else s a (y - 1)) = (if y = 0 then 0 else s' a' (y - 1)) := by
    by_cases c : y = 0
    · rw [if_pos c, if_pos c]
    · rw [if_neg c, if_neg c, h _ (by omega)]
  unfold gw
  rw [e, h y hy, ho y hy, rw_cong h (show y + 1 ≤ 12 by omega)]
theorem gIn_at {s : aS} {a o y : Nat} (hy : y < 12) : gIn s a o a y = gw s a o y := by
  unfold gIn
  rw [sP_same, fa_fill_in hy]
theorem cNt_cong {s s' : aS} {a a' : Nat} (h5 : ∀ y, y < 12 → s 15 y = s' 15 y) (h6 : ∀ y, y < 12 → s 16 y = s' 16 y) (ha : a ≠ 16) (ha' : a' ≠ 16) : ∀ t y, y < 12 → cNt s a 15 16 t a y = cNt s' a' 15 16 t a' y
  | 0, y, hy => by
    show bL s a 15 a y = bL s' a' 15 a' y
    rw [bL_at hy, bL_at hy, h5 y hy]
  | t + 1, y, hy => by
    show gIn (cNt s a 15 16 t) a 16 a y = gIn (cNt s' a' 15 16 t) a' 16 a' y
    rw [gIn_at hy, gIn_at hy]
    refine gw_cong (cNt_cong h5 h6 ha ha' t) (fun z hz => ?_) hy
    rw [cNt_ne (Ne.symm ha), cNt_ne (Ne.symm ha')]
    exact h6 z hz
theorem gIn_up {s : aS} {a o k : Nat} (hk : k < 192) (h : px s a k = true) : px (gIn s a o) a k = true := by
  unfold px at h ⊢
  rw [gIn_at (by omega)]
  unfold gw
  rw [b_or, h]
  rfl
theorem gIn_dn {s : aS} {a o k : Nat} (hk : k < 192) (h : px (gIn s a o) a k = true) : px s a k = true ∨ px s o k = true := by
  unfold px at h ⊢
  rw [gIn_at (by omega)] at h
  unfold gw at h
  rw [b_or, b_and, Bool.or_eq_true, Bool.and_eq_true] at h
  rcases h with h | h
  · exact Or.inl h
  · exact Or.inr h.2
theorem cNt_15 {s : aS} {a k : Nat} (hk : k < 192) (h : px s 15 k = true) : ∀ t, px (cNt s a 15 16 t) a k = true
  | 0 => by
    unfold px at h ⊢
    show bt (bL s a 15 a (k / 16)) (k % 16) = true
    rw [bL_at (by omega)]
    exact h
  | t + 1 => gIn_up hk (cNt_15 hk h t)
theorem cNt_dn {s : aS} {a k : Nat} (hk : k < 192) (ha : a ≠ 16) : ∀ t, px (cNt s a 15 16 t) a k = true → px s 15 k = true ∨ px s 16 k = true
  | 0, h => by
    unfold px at h ⊢
    have h : bt (bL s a 15 a (k / 16)) (k % 16) = true := h
    rw [bL_at (by omega)] at h
    exact Or.inl h
  | t + 1, h => by
    rcases gIn_dn hk h with q | q
    · exact cNt_dn hk ha t q
    · unfold px at q ⊢
      rw [cNt_ne (Ne.symm ha)] at q
      exact Or.inr q
/-! what the looks depend on -/
theorem hs_cong {s s' : aS} {a a' : Nat} (h : ∀ y, y < 12 → s a y = s' a' y) (X Y : Int32) : hs s a X Y = hs s' a' X Y := by
  cases q : pl X Y with
  | false => rw [hs_f q, hs_f q]
  | true =>
    obtain ⟨i, j, hi, hj, rfl, rfl⟩ := pl_in q
    unfold hs
    rw [cl_nI (by omega), cl_nI (by omega), h j hj]
theorem hs_cong2 {s s' : aS} {a a' : Nat} (h : ∀ k, k < 192 → px s a k = px s' a' k) (X Y : Int32) : hs s a X Y = hs s' a' X Y := by
  cases q : pl X Y with
  | false => rw [hs_f q, hs_f q]
  | true =>
    obtain ⟨i, j, hi, hj, rfl, rfl⟩ := pl_in q
    rw [hs_nI _ _ hi hj, hs_nI _ _ hi hj, h _ (by omega)]
theorem px_rows {s s' : aS} {a a' k : Nat} (h : ∀ y, y < 12 → s a y = s' a' y) (hk : k < 192) : px s a k = px s' a' k := by
  unfold px
  rw [h _ (by omega)]
theorem gG_cong {s s' : aS} {li li' ci ci' : Nat} (h5 : ∀ k, k < 192 → px s 15 k = px s' 15 k) (h6 : ∀ k, k < 192 → px s 16 k = px s' 16 k) (hl : ∀ k, k < 192 → px s (li + 4) k = px s' (li' + 4) k) (hc : ∀ k, k < 192 → px s (ci + 4) k = px s' (ci' + 4) k) (a b : Int32) : ct (gG s 10 li ci a b) = ct (gG s' 10 li' ci' a b) := ct_cong (fun k hk => by
  show ((px s 15 k || px s 16 k) && !(px s (li + 4) k || hs s (ci + 4) (nI (k % 16) - a) (nI (k / 16) - b))) = ((px s' 15 k || px s' 16 k) && !(px s' (li' + 4) k || hs s' (ci' + 4) (nI (k % 16) - a) (nI (k / 16) - b)))
  rw [h5 k hk, h6 k hk, hl k hk, hs_cong2 hc])
theorem gS_cong {s s' : aS} {ci ci' : Nat} (h5 : ∀ k, k < 192 → px s 15 k = px s' 15 k) (h6 : ∀ k, k < 192 → px s 16 k = px s' 16 k) (hc : ∀ k, k < 192 → px s (ci + 4) k = px s' (ci' + 4) k) (a b : Int32) : ct (gS s 10 ci a b) = ct (gS s' 10 ci' a b) := ct_cong (fun k hk => by
  show (hs s (ci + 4) (nI (k % 16) - a) (nI (k / 16) - b) && !(px s 15 k || px s 16 k)) = (hs s' (ci' + 4) (nI (k % 16) - a) (nI (k / 16) - b) && !(px s' 15 k || px s' 16 k))
  rw [h5 k hk, h6 k hk, hs_cong2 hc])
theorem hgB_cong {s s' : aS} {li li' ci ci' : Nat} (h5 : ∀ k, k < 192 → px s 15 k = px s' 15 k) (h6 : ∀ k, k < 192 → px s 16 k = px s' 16 k) (hl : ∀ k, k < 192 → px s (li + 4) k = px s' (li' + 4) k) (hc : ∀ k, k < 192 → px s (ci + 4) k = px s' (ci' + 4) k) (r : Nat) : hgB s li ci r = hgB s' li' ci' r := by
  unfold hgB
  refine anyB_cong (fun i _ => ?_)
  unfold hgR
  refine anyB_cong (fun j _ => ?_)
  unfold hgP
  rw [gG_cong h5 h6 hl hc]
theorem sub_sh {i r d : Nat} (hi : i < 50) (hr : r < 50) (hd : d < 50) : nI (i + d) - nI (r + d) = nI i - nI r := by
  rw [fa_eq, sub_toI (by omega) (by omega), sub_toI (by omega) (by omega)]
  omega
theorem hgB_up {s : aS} {li ci r q : Nat} (hq : q ≤ 4) (hr : r ≤ q) (h : hgB s li ci r = true) : hgB s li ci q = true := by
  obtain ⟨i, hi, h⟩ := anyB_iff.mp h
  obtain ⟨j, hj, h⟩ := anyB_iff.mp h
  have e1 := sub_sh (i := i) (r := r) (d := q - r) (by omega) (by omega) (by omega)
  have e2 := sub_sh (i := j) (r := r) (d := q - r) (by omega) (by omega) (by omega)
  rw [show r + (q - r) = q by omega] at e1 e2
  refine anyB_yes (k := i + (q - r)) (by omega) (show hgR s li ci q (i + (q - r)) = true from anyB_yes (k := j + (q - r)) (by omega) ?_)
  unfold hgP at h ⊢
  rw [e1, e2]
  exact h
def tv (a b c d e : Bool) : Int32 := if a = true then -1009 else if b = true then 0 else if c = true then 1 else if d = true then 2 else if e = true then 3 else 4
theorem tolV_tv (p : Nat → Bool) : tolV p = tv (p 0) (p 1) (p 2) (p 3) (p 4) := rfl
theorem tv_lt : ∀ a b c d e : Bool, (a = true → tv a b c d e < 0) ∧ (b = true → tv a b c d e < 1) ∧ (c = true → tv a b c d e < 2) ∧ (d = true → tv a b c d e < 3) ∧ (e = true → tv a b c d e < 4) := by decide
theorem tv_ge : ∀ a b c d e : Bool, (a = false → ¬ tv a b c d e < 0) ∧ (a = false → b = false → ¬ tv a b c d e < 1) ∧ (a = false → b = false → c = false → ¬ tv a b c d e < 2) ∧ (a = false → b = false → c = false → d = false → ¬ tv a b c d e < 3) := by decide
theorem tv_cases : ∀ a b c d e : Bool, (a = true ∧ tv a b c d e = -1009) ∨ (a = false ∧ b = true ∧ tv a b c d e = 0) ∨ (b = false ∧ c = true ∧ tv a b c d e = 1) ∨ (c = false ∧ d = true ∧ tv a b c d e = 2) ∨ (d = false ∧ e = true ∧ tv a b c d e = 3) ∨ (e = false ∧ tv a b c d e = 4) := by decide
theorem tolV_lt {p : Nat → Bool} {w : Nat} (hw : w < 5) (h : p w = true) : tolV p < nI w := by
  rw [tolV_tv]
  have t := tv_lt (p 0) (p 1) (p 2) (p 3) (p 4)
  match w, hw with
  | 0, _ => exact t.1 h
  | 1, _ => exact t.2.1 h
  | 2, _ => exact t.2.2.1 h
  | 3, _ => exact t.2.2.2.1 h
  | 4, _ => exact t.2.2.2.2 h
theorem tolV_ge {p : Nat → Bool} {w : Nat} (hw : w < 4) (h : ∀ i, i ≤ w → p i = false) : ¬ tolV p < nI w := by
  rw [tolV_tv]
  have t := tv_ge (p 0) (p 1) (p 2) (p 3) (p 4)
  match w, hw with
  | 0, _ => exact t.1 (h 0 (by omega))
  | 1, _ => exact t.2.1 (h 0 (by omega)) (h 1 (by omega))
  | 2, _ => exact t.2.2.1 (h 0 (by omega)) (h 1 (by omega)) (h 2 (by omega))
  | 3, _ => exact t.2.2.2 (h 0 (by omega)) (h 1 (by omega)) (h 2 (by omega)) (h 3 (by omega))
theorem hgB_no {s : aS} {li ci w : Nat} (hw : w ≤ 4) (h : hgB s li ci w = false) : ∀ i, i ≤ w → hgB s li ci i = false := by
  intro i hi
  cases q : hgB s li ci i with
  | false => rfl
  | true =>
    rw [hgB_up hw hi q] at h
    cases h
/-! the blocks behind a cut -/
theorem cut_at (s : aS) (nx t : Nat) : (∀ o, o ≠ 17 → o ≠ 18 → o ≠ 19 → cAn (kp s nx) 10 t o = kp s nx o) ∧ (∀ y, y < 12 → cAn (kp s nx) 10 t 17 y = s 16 y) ∧ (∀ k, k < 192 → cAn (kp s nx) 10 t 19 k = 0) ∧ (∀ y, y < 12 → cAn (kp s nx) 10 t 18 y = cNt s 18 15 16 t 18 y) := by
  refine ⟨fun o a b c => ?_, fun y hy => ?_, fun k hk => ?_, fun y hy => ?_⟩
  · unfold cAn
    rw [cNt_ne (show o ≠ 18 from b), sP_ne (show o ≠ 19 from c), bL_ne (show o ≠ 17 from a)]
  · unfold cAn
    rw [cNt_ne (by decide), sP_ne (by decide)]
    show bL (kp s nx) 17 16 17 y = s 16 y
    rw [bL_at hy, kp_lo (by decide)]
  · unfold cAn
    rw [cNt_ne (by decide), show (10 + 9 : Nat) = 19 from rfl, sP_same, fa_fill_in hk]
  · unfold cAn
    refine cNt_cong (fun z hz => ?_) (fun z hz => ?_) (by decide) (by decide) t y hy
    · rw [sP_ne (by decide), bL_ne (by decide), kp_lo (by decide)]
    · rw [sP_ne (by decide), bL_ne (by decide), kp_lo (by decide)]
theorem cut_ok {g : aG} {l : Launch} {σ : aS} {P nx sz t : Nat} (h : IV P nx sz σ) (ht : t ≤ 4) : CN g l yX6_cut wsX6_cut 5 111 [.ref 600, .int (nI t)] σ (some (.int (nI (ct (px (cAn (kp σ nx) 10 t) 18))))) (cAn (kp σ nx) 10 t) ∧ IV P ((nx + 1) % 5) (min (sz + 1) 5) (cAn (kp σ nx) 10 t) := by
  obtain ⟨eo, e17, e19, e18⟩ := cut_at σ nx t
  have hW := IV_WB h
  have w18 : wR (cAn (kp σ nx) 10 t) 18 := wR_cAn hW.kp
  have hx := zX6_cut_ok (g := g) (l := l) nx t (IV_NX h) hW ht
  have hB := Bg_of (Gst_kp (nx := nx) h.2.1).1.1
  generalize cAn (kp σ nx) 10 t = X at *
  refine ⟨hx, (IV_act h (Nat.le_refl _) (fun o a b => eo o (by omega) (by omega) (by omega)) ?_).1⟩
  exact Gst_blk (Gst_kp (nx := nx) h.2.1) (Bg_to ⟨⟨wR_to hB.1.1 (eo 15 (by decide) (by decide) (by decide)), wR_to hB.1.2.1 (eo 16 (by decide) (by decide) (by decide)), fun y hy i hi => by rw [e17 y hy]; exact hW.2.1 y hy i hi, w18⟩, fun j hj => ⟨0, by omega, e19 j hj⟩⟩) (fun o ho => eo o (by omega) (by omega) (by omega))
/-- the ink behind a cut: the lines of the picture -/
theorem cut_ink {s : aS} {P nx t : Nat} (h : Gst P s) {k : Nat} (hk : k < 192) : px (iK (cAn (kp s nx) 10 t)) 611 k = px s 16 k := by
  obtain ⟨eo, e17, e19, e18⟩ := cut_at s nx t
  obtain ⟨n, h1, h2, hh⟩ := hard_nI h
  rw [iK_px _ hk, e19 k hk, eo 1 (by decide) (by decide) (by decide), kp_lo (by decide), hh, decide_eq_true (nI_pos' (by omega)), Bool.and_true]
  exact px_rows (fun y hy => e17 y hy) hk
theorem cut_hgB {s u : aS} {P nx t : Nat} (h : Gst P s) (e5 : u 15 = s 15) (e6 : u 16 = s 16) (r : Nat) : hgB (iK (cAn (kp s nx) 10 t)) 607 14 r = hgB (trS u (t + 1)) 12 608 r := by
  obtain ⟨eo, e17, e19, e18⟩ := cut_at s nx t
  refine hgB_cong (fun k hk => ?_) (fun k hk => ?_) (fun k hk => ?_) (fun k hk => ?_) r
  · refine px_rows (fun y hy => ?_) hk
    rw [iK_ne (by decide), eo 15 (by decide) (by decide) (by decide), kp_lo (by decide), trS_ne (by decide), e5]
  · refine px_rows (fun y hy => ?_) hk
    rw [iK_ne (by decide), eo 16 (by decide) (by decide) (by decide), kp_lo (by decide), trS_ne (by decide), e6]
  · show px (iK (cAn (kp s nx) 10 t)) 611 k = px (trS u (t + 1)) 16 k
    rw [cut_ink h hk]
    refine px_rows (fun y hy => ?_) hk
    rw [trS_ne (by decide), e6]
  · show px (iK (cAn (kp s nx) 10 t)) 18 k = px (trS u (t + 1)) 612 k
    refine px_rows (fun y hy => ?_) hk
    rw [iK_ne (by decide), e18 y hy]
    show cNt s 18 15 16 t 18 y = cNt (trS u t) 612 15 16 t 612 y
    refine cNt_cong (fun z hz => ?_) (fun z hz => ?_) (by decide) (by decide) t y hy
    · rw [trS_ne (by decide), e5]
    · rw [trS_ne (by decide), e6]
theorem nI_s0 (n : Nat) : nI n - 0 = nI n := by rw [Int32.sub_zero]
theorem shp_00 (s : aS) (a : Nat) {k : Nat} (hk : k < 192) : shp s a 0 0 k = px s a k := by
  unfold shp
  rw [nI_s0, nI_s0, hs_nI _ _ (by omega) (by omega), show 16 * (k / 16) + k % 16 = k by omega]
theorem ct_no {p : Nat → Bool} (h : ∀ k, k < 192 → p k = false) : ct p = 0 := fb_ct_zero.mpr h
theorem cut_no {s : aS} {P nx t : Nat} (h : Gst P s) : ct (gG (iK (cAn (kp s nx) 10 t)) 10 607 14 0 0) = 0 ∧ ct (gS (iK (cAn (kp s nx) 10 t)) 10 14 0 0) = 0 ∧ ct (gLo (iK (cAn (kp s nx) 10 t)) 10 607) = 0 := by
  obtain ⟨eo, e17, e19, e18⟩ := cut_at s nx t
  have p5 : ∀ k, k < 192 → px (iK (cAn (kp s nx) 10 t)) 15 k = px s 15 k := fun k hk => px_rows (fun y hy => by rw [iK_ne (by decide), eo 15 (by decide) (by decide) (by decide), kp_lo (by decide)]) hk
  have p6 : ∀ k, k < 192 → px (iK (cAn (kp s nx) 10 t)) 16 k = px s 16 k := fun k hk => px_rows (fun y hy => by rw [iK_ne (by decide), eo 16 (by decide) (by decide) (by decide), kp_lo (by decide)]) hk
  have p8 : ∀ k, k < 192 → px (iK (cAn (kp s nx) 10 t)) 18 k = px (cNt s 18 15 16 t) 18 k := fun k hk => px_rows (fun y hy => by rw [iK_ne (by decide), e18 y hy]) hk
  refine ⟨ct_no (fun k hk => ?_), ct_no (fun k hk => ?_), ct_no (fun k hk => ?_)⟩
  · show ((px (iK (cAn (kp s nx) 10 t)) 15 k || px (iK (cAn (kp s nx) 10 t)) 16 k) && !(px (iK (cAn (kp s nx) 10 t)) 611 k || shp (iK (cAn (kp s nx) 10 t)) 18 0 0 k)) = false
    rw [shp_00 _ _ hk, p5 k hk, p6 k hk, p8 k hk, cut_ink h hk]
    cases q : px s 15 k with
    | true =>
      rw [cNt_15 hk q t]
      cases px s 16 k <;> rfl
    | false => cases px s 16 k <;> rfl
  · show (shp (iK (cAn (kp s nx) 10 t)) 18 0 0 k && !(px (iK (cAn (kp s nx) 10 t)) 15 k || px (iK (cAn (kp s nx) 10 t)) 16 k)) = false
    rw [shp_00 _ _ hk, p5 k hk, p6 k hk, p8 k hk]
    cases q : px (cNt s 18 15 16 t) 18 k with
    | false => rfl
    | true =>
      rcases cNt_dn hk (by decide) t q with z | z
      · rw [z]; cases px s 16 k <;> rfl
      · rw [z]; cases px s 15 k <;> rfl
  · show (px (iK (cAn (kp s nx) 10 t)) 16 k && !px (iK (cAn (kp s nx) 10 t)) 611 k) = false
    rw [p6 k hk, cut_ink h hk]
    cases px s 16 k <;> rfl
theorem cut_less {s u : aS} {nx nx2 t : Nat} (e5 : u 15 = s 15) (e6 : u 16 = s 16) : ct (px (cAn (kp u nx2) 10 t) 18) ≤ ct (px (cAn (kp s nx) 10 (t + 1)) 18) := by
  obtain ⟨_, _, _, e18⟩ := cut_at s nx (t + 1)
  obtain ⟨_, _, _, f18⟩ := cut_at u nx2 t
  refine fb_ct_sub (fun k hk h => ?_)
  rw [px_rows f18 hk] at h
  rw [px_rows e18 hk]
  show px (gIn (cNt s 18 15 16 t) 18 16) 18 k = true
  refine gIn_up hk ?_
  rw [← h]
  exact px_rows (fun y hy => (cNt_cong (fun z hz => by rw [e5]) (fun z hz => by rw [e6]) (by decide) (by decide) t y hy).symm) hk
theorem trE_ne {s : aS} {r o : Nat} (h : o ≠ 612) : trE s r o = s o := by
  unfold trE
  split
  · exact trS_ne h _
  · exact trS_ne h _
/-! the best pins, set -/
theorem best_at (s : aS) : ∃ m : Nat, m < 81 ∧ bpR s 0 - 4 = nI (m / 9) - 4 ∧ bpR s 1 - 4 = nI (m % 9) - 4 ∧ bpR s 2 = bpW s m := by
  obtain ⟨m, hm, e⟩ := bpF_at s 81
  have e := e (Nat.le_refl _) (by decide)
  refine ⟨m, hm, ?_, ?_, ?_⟩
  · show 4 + (bpF s 81).1 - 4 = _
    rw [e, Int32.add_comm, Int32.add_sub_cancel]
  · show 4 + (bpF s 81).2.1 - 4 = _
    rw [e, Int32.add_comm, Int32.add_sub_cancel]
  · show (bpF s 81).2.2 = _
    rw [e]
theorem pins_sum {s : aS} {nx m : Nat} {v : Nat → Int32} (hSS : iK s = s) (hv : Sset s v) (hm : m < 81) : nI (ct (gG (iK (sPn (kp s nx) (nI (m / 9) - 4) (nI (m % 9) - 4))) 10 607 14 ((iK (sPn (kp s nx) (nI (m / 9) - 4) (nI (m % 9) - 4))) 0 3 + dX (iK (sPn (kp s nx) (nI (m / 9) - 4) (nI (m % 9) - 4))) 0) ((iK (sPn (kp s nx) (nI (m / 9) - 4) (nI (m % 9) - 4))) 0 4 + dY (iK (sPn (kp s nx) (nI (m / 9) - 4) (nI (m % 9) - 4))) 0))) + nI (ct (gS (iK (sPn (kp s nx) (nI (m / 9) - 4) (nI (m % 9) - 4))) 10 14 ((iK (sPn (kp s nx) (nI (m / 9) - 4) (nI (m % 9) - 4))) 0 3 + dX (iK (sPn (kp s nx) (nI (m / 9) - 4) (nI (m % 9) - 4))) 0) ((iK (sPn (kp s nx) (nI (m / 9) - 4) (nI (m % 9) - 4))) 0 4 + dY (iK (sPn (kp s nx) (nI (m / 9) - 4) (nI (m % 9) - 4))) 0))) = bpW s m := by
  have hE := Sset_pins (nx := nx) hv (wi4' (m / 9) (by omega)) (wi4' (m % 9) (by omega))
  have x3 := hE.2.1.1
  have x4 := hE.2.2.1
  have xo : ∀ o, 1 ≤ o → o < 40 → iK (sPn (kp s nx) (nI (m / 9) - 4) (nI (m % 9) - 4)) o = s o := fun o a b => by rw [iK_ne (by omega), sPn_ne (by omega), kp_lo (by omega)]
  have xi : ∀ k, k < 192 → px (iK (sPn (kp s nx) (nI (m / 9) - 4) (nI (m % 9) - 4))) 611 k = px s 611 k := fun k hk => by
    have q := iK_px s hk
    rw [hSS] at q
    rw [iK_px _ hk, q]
    unfold px
    rw [sPn_ne (by decide), kp_lo (by decide), sPn_ne (by decide), kp_lo (by decide), sPn_ne (by decide), kp_lo (by decide)]
  generalize iK (sPn (kp s nx) (nI (m / 9) - 4) (nI (m % 9) - 4)) = X at *
  have x3 : X 0 3 = nI (m / 9) - 4 := x3
  have x4 : X 0 4 = nI (m % 9) - 4 := x4
  have d1 : dX X 0 = dX s 0 := by
    show (X 1 0 - 50) * X 1 1 / 50 = (s 1 0 - 50) * s 1 1 / 50
    rw [xo 1 (by decide) (by decide)]
  have d2 : dY X 0 = dY s 0 := by
    show (X 1 0 - 50) * X 1 2 / 50 = (s 1 0 - 50) * s 1 2 / 50
    rw [xo 1 (by decide) (by decide)]
  have p : ∀ a, 1 ≤ a → a < 40 → ∀ k, k < 192 → px X a k = px s a k := fun a h1 h2 k hk => by
    unfold px
    rw [xo a h1 h2]
  rw [x3, x4, d1, d2, gG_cong (s' := s) (li' := 607) (ci' := 14) (p 15 (by decide) (by decide)) (p 16 (by decide) (by decide)) xi (p 18 (by decide) (by decide)), gS_cong (s' := s) (ci' := 14) (p 15 (by decide) (by decide)) (p 16 (by decide) (by decide)) (p 18 (by decide) (by decide))]
  rfl
