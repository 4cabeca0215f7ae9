/-! the press's looks and the model's, at two states with equal pictures and plates -/
theorem dec2 (v : Int32) (h : zo v) : (v = 0 ↔ decide (v = 1) = false) := by
  rcases h with rfl | rfl <;> decide
/-- plates: the ink's rows L and the colour block's rows C are the plate of the model -/
def Plt (s : aS) (L C : Nat) (p : Nat → Int32) : Prop := ∀ k, k < 192 → (px s L k = decide (p k = 1) ∧ zo (p k)) ∧ px s C k = decide (p (192 + k) = 1)
theorem hs_f {s : aS} {a : Nat} {x y : Int32} (h : pl x y = false) : hs s a x y = false := by
  unfold hs
  rw [h]
  rfl
theorem tn_eq {s t : aS} {C : Nat} (hc : ∀ k, k < 192 → px s C k = decide (t 704 (192 + k) = 1)) (x y a b : Int32) : hs s C (x - a) (y - b) = tnM t x y a b := by
  unfold tnM
  cases q : pl (x - a) (y - b) with
  | false =>
    rw [hs_f q]
    rfl
  | true =>
    obtain ⟨i, j, hi, hj, e1, e2⟩ := pl_in q
    rw [e1, e2, hs_nI _ _ hi hj, hc _ (by omega), cl_nI (by omega), cl_nI (by omega), Bool.true_and]
    rw [show 192 + (16 * j + i) = 192 + 16 * j + i by omega]
theorem lk_v : ∀ b : Bool, ∀ p : Int32, zo p → (2 * p + b2 b = 0 ↔ (p = 0 ∧ b = false)) ∧ (2 * p + b2 b - (2 * p + b2 b) / 2 * 2 = 1 ↔ b = true) ∧ (2 ≤ 2 * p + b2 b ↔ p = 1) := by
  intro b p h
  rcases h with rfl | rfl <;> cases b <;> decide
theorem bool_dec {b : Bool} {P : Prop} [Decidable P] (h : b = true ↔ P) : b = decide P := by
  cases b with
  | true => exact (decide_eq_true (h.mp rfl)).symm
  | false => exact (decide_eq_false (fun q => Bool.noConfusion (h.mpr q))).symm
theorem g_eq {s t : aS} {L C k : Nat} (hp : Bpic (vw s 10) (t 701)) (hl : Plt s L C (t 704)) (hk : k < 192) (a b : Int32) :
    ((px s 15 k || px s 16 k) && !(px s L k || shp s C a b k)) = cG t a b k ∧ (shp s C a b k && !(px s 15 k || px s 16 k)) = cS t a b k ∧ (px s 16 k && !px s L k) = cL_ t a b k := by
  obtain ⟨p1, p2, p3⟩ := hp.2 k hk
  have p1 : px s 15 k = decide (t 701 k = 1) := p1
  have p2 : px s 16 k = decide (t 701 k = 2) := p2
  obtain ⟨⟨l1, l2⟩, _⟩ := hl k hk
  have e : shp s C a b k = tnM t (nI (k % 16)) (nI (k / 16)) a b := tn_eq (fun q hq => (hl q hq).2) _ _ a b
  obtain ⟨v1, v2, v3⟩ := lk_v (tnM t (nI (k % 16)) (nI (k / 16)) a b) (t 704 k) l2
  unfold cG cS cL_ lkM
  rw [e, p1, p2, l1]
  generalize tnM t (nI (k % 16)) (nI (k / 16)) a b = u at *
  generalize t 701 k = v at *
  generalize t 704 k = p at *
  simp only [v1, v2, v3]
  rcases p3 with rfl | rfl | rfl <;> rcases l2 with rfl | rfl <;> cases u <;> decide
theorem ct_cong {p q : Nat → Bool} (h : ∀ k, k < 192 → p k = q k) : ct p = ct q := fb_ct_cong h
theorem gG_eq {s t : aS} {li ci : Nat} (hp : Bpic (vw s 10) (t 701)) (hl : Plt s (li + 4) (ci + 4) (t 704)) (a b : Int32) : ct (gG s 10 li ci a b) = ct (cG t a b) := ct_cong (fun _ hk => (g_eq hp hl hk a b).1)
theorem gS_eq {s t : aS} {li ci : Nat} (hp : Bpic (vw s 10) (t 701)) (hl : Plt s (li + 4) (ci + 4) (t 704)) (a b : Int32) : ct (gS s 10 ci a b) = ct (cS t a b) := ct_cong (fun _ hk => (g_eq hp hl hk a b).2.1)
theorem gL_eq {s t : aS} {li ci : Nat} (hp : Bpic (vw s 10) (t 701)) (hl : Plt s (li + 4) (ci + 4) (t 704)) (a b : Int32) : ct (gLo s 10 li) = ct (cL_ t a b) := ct_cong (fun _ hk => (g_eq hp hl hk a b).2.2)
/-! ink -/
theorem wo_bt (s : aS) (b : Nat) (h : Int32) (y : Nat) {i : Nat} (hi : i < 32) : ∀ x, x ≤ 16 → bt (wo s b h y x) i = (decide (i < x) && decide (¬ s (b + 9) (16 * y + i) ≤ h))
  | 0, _ => by
    show bt 0 i = _
    rw [b_0, decide_eq_false (Nat.not_lt_zero i), Bool.false_and]
  | x + 1, hx => by
    have hon : on (if s (b + 9) (16 * y + x) ≤ h then 0 else 1) = b2 (decide (¬ s (b + 9) (16 * y + x) ≤ h)) := by
      by_cases c : s (b + 9) (16 * y + x) ≤ h
      · rw [if_pos c, decide_eq_false (fun q => q c)]
        rfl
      · rw [if_neg c, decide_eq_true c]
        rfl
    show bt (wo s b h y x ||| (on (if s (b + 9) (16 * y + x) ≤ h then 0 else 1) <<< (nI x &&& 31))) i = _
    rw [b_or, wo_bt s b h y hi x (by omega), hon, b_shl x (by omega) _ hi, bt_b2]
    by_cases c : i = x
    · subst c
      rw [decide_eq_false (Nat.lt_irrefl i), Bool.false_and, Bool.false_or, decide_eq_true (Nat.le_refl i), Bool.true_and, Nat.sub_self, decide_eq_true (rfl : (0 : Nat) = 0), Bool.and_true, decide_eq_true (Nat.lt_succ_self i), Bool.true_and]
    · rcases Nat.lt_or_ge i x with q | q
      · rw [decide_eq_false (show ¬ x ≤ i by omega), Bool.false_and, Bool.or_false, decide_eq_true q, decide_eq_true (show i < x + 1 by omega)]
      · rw [decide_eq_false (show ¬ i < x by omega), decide_eq_false (show ¬ i - x = 0 by omega), decide_eq_false (show ¬ i < x + 1 by omega), Bool.and_false, Bool.and_false, Bool.false_and, Bool.or_false]
theorem iK_px (s : aS) {k : Nat} (hk : k < 192) : px (iK s) 611 k = (px s 17 k && decide (s 19 k ≤ s 1 3)) := by
  have hy : k / 16 < 12 := by omega
  have hi : k % 16 < 16 := by omega
  unfold px iK fI
  rw [show (607 + 4 : Nat) = 611 from rfl, sP_same, fa_fill_in hy]
  unfold ik
  rw [b_and, b_and, bt_not _ (by omega), wo_bt s 10 _ _ (by omega) 16 (by omega), b16 _ hi, Bool.and_true, decide_eq_true hi, Bool.true_and]
  show (bt (s 17 (k / 16)) (k % 16) && !decide (¬ s 19 (16 * (k / 16) + k % 16) ≤ s 1 3)) = _
  rw [show 16 * (k / 16) + k % 16 = k by omega]
  by_cases c : s 19 k ≤ s 1 3
  · rw [decide_eq_false (fun q => q c), decide_eq_true c]
    rfl
  · rw [decide_eq_true c, decide_eq_false c]
    rfl
theorem px_iK (s : aS) {a : Nat} (h : a ≠ 611) (k : Nat) : px (iK s) a k = px s a k := by
  unfold px
  rw [iK_ne h]
/-- what the plates of now are -/
theorem wM_and {s : aS} {k : Nat} (h : zo (s 701 (192 + k))) : lpV s k = b2 (decide (s 701 (192 + k) = 1) && decide (s 701 (384 + k) ≤ s 701 771)) ∧ wM s k = (decide (s 701 (192 + k) = 1) && decide (¬ s 701 (384 + k) ≤ s 701 771)) := by
  unfold lpV wM
  generalize s 701 (192 + k) = v at *
  refine ⟨?_, ?_⟩
  · by_cases c : s 701 (384 + k) ≤ s 701 771 <;> by_cases e : v = 1 <;> simp [c, e, b2]
  · by_cases c : s 701 (384 + k) ≤ s 701 771 <;> by_cases e : v = 1 <;> simp [c, e]
theorem lY_lo (s : aS) {k : Nat} (hk : k < 192) : lY s 704 k = lpV s k := by
  unfold lY
  rw [sP_same]
  unfold tw
  rw [if_pos hk]
theorem lY_hi (s : aS) {k : Nat} (hk : k < 192) : lY s 704 (192 + k) = s 701 (576 + k) := by
  unfold lY
  rw [sP_same]
  unfold tw
  rw [if_neg (by omega), if_pos (by omega), show 192 + k - 192 = k by omega]
theorem lY_ne {s : aS} {o : Nat} (h : o ≠ 704) : lY s o = s o := sP_ne h
theorem b2_zo (b : Bool) : zo (b2 b) := by
  cases b
  · exact Or.inl rfl
  · exact Or.inr rfl
theorem plt_now {s t : aS} (hB : Bvw (vw s 10) (t 701)) (hh : s 1 3 = t 701 771) : Plt (iK s) 611 18 (lY t 704) := by
  intro k hk
  have hL := hB.2.1.2 k hk
  have l1 : px s 17 k = decide (t 701 (192 + k) = 1) := hL.1
  have hC := (hB.2.2.2.2 k hk).1
  have c1 : px s 18 k = decide (t 701 (576 + k) = 1) := hC
  have w1 : s 19 k = t 701 (384 + k) := (hB.2.2.1 k hk).1
  obtain ⟨m1, m2⟩ := wM_and (s := t) hL.2
  rw [lY_lo _ hk, lY_hi _ hk, m1, iK_px _ hk, px_iK _ (by decide), l1, c1, w1, hh]
  refine ⟨⟨bool_dec b2_1.symm, b2_zo _⟩, rfl⟩
theorem Bpic_iK {s : aS} {w : Nat → Int32} (h : Bpic (vw s 10) w) : Bpic (vw (iK s) 10) w :=
  Bpic_cong h (fun y _ => by show iK s 15 y = s 15 y; rw [iK_ne (by decide)]) (fun y _ => by show iK s 16 y = s 16 y; rw [iK_ne (by decide)]) (fun _ _ => rfl)
/-! cells -/
theorem kA_eq {s : aS} {w : Nat → Int32} (hB : Bpic (vw s 10) w) {x y : Nat} (hx : x < 16) (hy : y < 12) : kA s 10 (nI x) (nI y) = w (16 * y + x) := by
  obtain ⟨p1, p2, p3⟩ := hB.2 (16 * y + x) (by omega)
  have p1 : px s 15 (16 * y + x) = decide (w (16 * y + x) = 1) := p1
  have p2 : px s 16 (16 * y + x) = decide (w (16 * y + x) = 2) := p2
  unfold kA
  rw [hs_nI _ _ hx hy, hs_nI _ _ hx hy]
  show (if px s 16 (16 * y + x) = true then 2 else b2 (px s 15 (16 * y + x))) = _
  rw [p1, p2]
  generalize w (16 * y + x) = v at *
  rcases p3 with rfl | rfl | rfl <;> decide
theorem wA_eq {s : aS} {w : Nat → Int32} (hB : Bwer (vw s 10) w) {x y : Nat} (hx : x < 16) (hy : y < 12) : wA s 10 (nI x) (nI y) = w (384 + (16 * y + x)) := by
  unfold wA
  rw [if_pos (pl_nI hx hy), ixN, cl_nI (by omega)]
  exact (hB _ (by omega)).1
theorem wn_eq {s t : aS} (hB : Bvw (vw s 10) (t 701)) (hh : s 1 3 = t 701 771) {x y : Nat} (hx : x < 16) (hy : y < 12) : wn s 10 (nI x) (nI y) (s 1 3) = wM t (16 * y + x) := by
  have hL := hB.2.1.2 (16 * y + x) (by omega)
  have l1 : px s 17 (16 * y + x) = decide (t 701 (192 + (16 * y + x)) = 1) := hL.1
  unfold wn
  rw [hs_nI _ _ hx hy, wA_eq hB.2.2.1 hx hy, (wM_and hL.2).2, hh]
  show (px s 17 (16 * y + x) && _) = _
  rw [l1]
/-! neighbors -/
theorem nI_m (x : Nat) : nI (x + 1) - 1 = nI x := nI_pred x
theorem pl_f1 : ∀ y, y < 12 → pl (nI 0 - 1) (nI y) = false := by decide +kernel
theorem pl_f2 : ∀ y, y < 12 → pl (nI 15 + 1) (nI y) = false := by decide +kernel
theorem pl_f3 : ∀ x, x < 16 → pl (nI x) (nI 0 - 1) = false := by decide +kernel
theorem pl_f4 : ∀ x, x < 16 → pl (nI x) (nI 11 + 1) = false := by decide +kernel
theorem cl_eq {v : Int32} {n : Nat} (h : v = nI n) (hn : n < 2 ^ 31) : v.toNatClampNeg = n := by rw [h, cl_nI hn]
theorem nIn1 {n : Nat} (h : n < 192) : ¬ nI n = -1 := fun e => by
  have h1 := nI_nn (a := n) (by omega)
  rw [e] at h1
  exact absurd h1 (by decide)
theorem b2_side {s : aS} {a k j n : Nat} {p : Nat → Int32} {X Y : Int32} (hl : ∀ k, k < 192 → px s a k = decide (p k = 1) ∧ zo (p k)) (hn : n < 192) (e : bsN k j = nI n) (h : hs s a X Y = px s a n) : hs s a X Y = !(decide (bsN k j = -1 ∨ p (bsN k j).toNatClampNeg = 0)) := by
  rw [h, e, cl_nI (by omega), (hl n hn).1]
  have z := (hl n hn).2
  have m1 : ¬ nI n = -1 := nIn1 hn
  simp only [m1, false_or]
  generalize p n = v at *
  rcases z with rfl | rfl <;> decide
theorem b2_none {s : aS} {a k j : Nat} {p : Nat → Int32} {X Y : Int32} (e : bsN k j = -1) (h : pl X Y = false) : hs s a X Y = !(decide (bsN k j = -1 ∨ p (bsN k j).toNatClampNeg = 0)) := by
  rw [hs_f h, decide_eq_true (Or.inl e)]
  rfl
theorem sides {s : aS} {a : Nat} {p : Nat → Int32} (hl : ∀ k, k < 192 → px s a k = decide (p k = 1) ∧ zo (p k)) {x y : Nat} (hx : x < 16) (hy : y < 12) :
    (hs s a (nI x - 1) (nI y) = !(decide (bsN (16 * y + x) 0 = -1 ∨ p (bsN (16 * y + x) 0).toNatClampNeg = 0)) ∧ hs s a (nI x + 1) (nI y) = !(decide (bsN (16 * y + x) 1 = -1 ∨ p (bsN (16 * y + x) 1).toNatClampNeg = 0))) ∧ hs s a (nI x) (nI y - 1) = !(decide (bsN (16 * y + x) 2 = -1 ∨ p (bsN (16 * y + x) 2).toNatClampNeg = 0)) ∧ hs s a (nI x) (nI y + 1) = !(decide (bsN (16 * y + x) 3 = -1 ∨ p (bsN (16 * y + x) 3).toNatClampNeg = 0)) := by
  refine ⟨⟨?_, ?_⟩, ?_, ?_⟩
  · cases x with
    | zero => exact b2_none (by unfold bsN; exact if_pos (by omega)) (pl_f1 y hy)
    | succ x =>
      refine b2_side (n := 16 * y + x) hl (by omega) ?_ (by rw [nI_m, hs_nI _ _ (by omega) hy])
      show (if (16 * y + (x + 1)) % 16 = 0 then -1 else nI (16 * y + (x + 1) - 1)) = _
      rw [if_neg (by omega), show 16 * y + (x + 1) - 1 = 16 * y + x by omega]
  · by_cases c : x = 15
    · subst c
      exact b2_none (by show (if (16 * y + 15) % 16 = 15 then (-1 : Int32) else _) = -1; exact if_pos (by omega)) (pl_f2 y hy)
    · refine b2_side (n := 16 * y + (x + 1)) hl (by omega) ?_ (by rw [nI_1, hs_nI _ _ (by omega) hy])
      show (if (16 * y + x) % 16 = 15 then -1 else nI (16 * y + x + 1)) = _
      rw [if_neg (by omega), show 16 * y + x + 1 = 16 * y + (x + 1) by omega]
  · cases y with
    | zero => exact b2_none (by show (if 16 * 0 + x < 16 then (-1 : Int32) else _) = -1; exact if_pos (by omega)) (pl_f3 x hx)
    | succ y =>
      refine b2_side (n := 16 * y + x) hl (by omega) ?_ (by rw [nI_m, hs_nI _ _ hx (by omega)])
      show (if 16 * (y + 1) + x < 16 then -1 else nI (16 * (y + 1) + x - 16)) = _
      rw [if_neg (by omega), show 16 * (y + 1) + x - 16 = 16 * y + x by omega]
  · by_cases c : y = 11
    · subst c
      exact b2_none (by show (if 176 ≤ 16 * 11 + x then (-1 : Int32) else _) = -1; exact if_pos (by omega)) (pl_f4 x hx)
    · refine b2_side (n := 16 * (y + 1) + x) hl (by omega) ?_ (by rw [nI_1, hs_nI _ _ hx (by omega)])
      show (if 176 ≤ 16 * y + x then -1 else nI (16 * y + x + 16)) = _
      rw [if_neg (by omega), show 16 * y + x + 16 = 16 * (y + 1) + x by omega]
theorem four : ∀ a b c d : Bool, 5 - (b2 (!a) + b2 (!b) + b2 (!c) + b2 (!d)) = 1 + nI (0 + (if a = true then 1 else 0) + (if b = true then 1 else 0) + (if c = true then 1 else 0) + (if d = true then 1 else 0)) := by decide
theorem rub_eq {s t : aS} {c k : Nat} (hl : ∀ k, k < 192 → px s (c + 4) k = decide (t 704 k = 1) ∧ zo (t 704 k)) (hk : k < 192) : eO s c k = ruV t k := by
  obtain ⟨⟨h1, h2⟩, h3, h4⟩ := sides hl (x := k % 16) (y := k / 16) (by omega) (by omega)
  rw [show 16 * (k / 16) + k % 16 = k by omega] at h1 h2 h3 h4
  unfold eO nb ruV
  rw [h1, h2, h3, h4]
  exact four (rb t k 0) (rb t k 1) (rb t k 2) (rb t k 3)
theorem ruV_pos (t : aS) (k : Nat) : ¬ ruV t k ≤ 0 := by
  have h1 := fb_ct_le (rb t k) 4
  unfold ruV
  rw [show (1 : Int32) = nI 1 from rfl, nI_add]
  exact nI_nle (by omega) (by omega)
