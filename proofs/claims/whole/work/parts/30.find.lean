/-! printsLeft, bestPins, tolerance -/
theorem pl_eq {s t : aS} (hl : ∀ k, k < 192 → px s 611 k = decide (t 704 k = 1) ∧ zo (t 704 k)) (hw : ∀ k, k < 192 → s 19 k = t 701 (384 + k)) (hh : s 1 3 = t 701 771) : ∀ n, n ≤ 192 → pW s 10 607 (s 1 3) n = plM t n
  | 0, _ => rfl
  | n + 1, hn => by
    have I := pl_eq hl hw hh n (by omega)
    have e := rub_eq (c := 607) hl (show n < 192 by omega)
    obtain ⟨h1, h2⟩ := hl n (by omega)
    have hp : ¬ eO s 607 n ≤ 0 := by rw [e]; exact ruV_pos t n
    show pW s 10 607 (s 1 3) (n + 1) = (if (if t 704 n = 1 then (t 701 771 - t 701 (384 + n)) / ruV t n + 1 else plM t n) < plM t n then (if t 704 n = 1 then (t 701 771 - t 701 (384 + n)) / ruV t n + 1 else plM t n) else plM t n)
    by_cases c : t 704 n = 1
    · have q : px s (607 + 4) n = true := h1.trans (decide_eq_true c)
      rw [pW_y q hp, I, e, show s (10 + 9) n = t 701 (384 + n) from hw n (by omega), hh, if_pos c]
    · have q : px s (607 + 4) n = false := h1.trans (decide_eq_false c)
      rw [pW_no q, I, if_neg c]
      exact (ite_self _).symm
theorem bp_eq {s t : aS} (hW : ∀ n, n < 81 → bpW s n = mpW t n) (hle : ∀ n, n < 81 → mpW t n ≤ 384) : ∀ n, n < 81 → bpF s (n + 1) = mpF t (n + 1)
  | 0, _ => by
    have e := hW 0 (by decide)
    have h2 := hle 0 (by decide)
    have hm : mpF t 1 = (nI (0 / 9) - 4, nI (0 % 9) - 4, mpW t 0) := by
      refine mpF_y (n := 0) (fun q => ?_)
      have q : (385 : Int32) ≤ mpW t 0 := q
      have := Int32.le_trans q h2
      exact absurd this (by decide)
    rw [hm]
    by_cases c : (384 : Int32) ≤ bpW s 0
    · have e3 : mpW t 0 = 384 := Int32.le_antisymm h2 (e ▸ c)
      rw [bpF_no (n := 0) c, e3]
      rfl
    · rw [bpF_y (n := 0) c, e]
  | n + 1, hn => by
    have I := bp_eq hW hle n (by omega)
    have e := hW (n + 1) hn
    by_cases c : (mpF t (n + 1)).2.2 ≤ mpW t (n + 1)
    · rw [mpF_no c, bpF_no (by rw [I, e]; exact c), I]
    · rw [mpF_y c, bpF_y (by rw [I, e]; exact c), e]
theorem sum_le (p q : Nat → Bool) : nI (ct p) + nI (ct q) ≤ 384 := by
  have h1 := ct_le p
  have h2 := ct_le q
  rw [nI_add]
  exact nI_le (b := 384) (by omega) (by decide)
theorem mpW_v (t : aS) (n : Nat) : mpW t n = nI (ct (cG t (sXM t (nI (n / 9) - 4)) (sYM t (nI (n % 9) - 4)))) + nI (ct (cS t (sXM t (nI (n / 9) - 4)) (sYM t (nI (n % 9) - 4)))) := by
  unfold mpW
  rw [kK_8, kK_9]
theorem best_eq {s t : aS} (hp : Bpic (vw s 10) (t 701)) (hl : Plt s 611 18 (t 704)) (h0 : s 1 0 = t 701 768) (h1 : s 1 1 = t 701 769) (h2 : s 1 2 = t 701 770) (a : Int32) (ha : wi a 0 2 = true) : bpR s a = mpR t a := by
  have hW : ∀ n, n < 81 → bpW s n = mpW t n := by
    intro n _
    rw [mpW_v]
    unfold bpW dX dY sXM sYM
    rw [show s (0 + 1) 0 = t 701 768 from h0, show s (0 + 1) 1 = t 701 769 from h1, show s (0 + 1) 2 = t 701 770 from h2, gG_eq (li := 607) (ci := 14) hp hl, gS_eq (li := 607) (ci := 14) hp hl]
  have e := bp_eq hW (fun n _ => by rw [mpW_v]; exact sum_le _ _) 80 (by decide)
  obtain ⟨m, _, m2, rfl⟩ := wi_nat (lo := 0) (hi := 2) (by decide) (by decide) ha
  unfold bpR mpR
  rw [show (81 : Nat) = 80 + 1 from rfl, e]
  match m, m2 with
  | 0, _ => exact Int32.add_comm _ _
  | 1, _ => exact Int32.add_comm _ _
  | 2, _ => rfl
/-! gaps within -/
theorem anyB_iff {p : Nat → Bool} {n : Nat} : anyB p n = true ↔ ∃ k, k < n ∧ p k = true := by
  refine ⟨fun h => ?_, fun ⟨k, h1, h2⟩ => anyB_yes h1 h2⟩
  cases q : anyB (fun k => p k) n with
  | false => rw [show anyB p n = false from q] at h; cases h
  | true =>
    refine Classical.byContradiction (fun z => ?_)
    have : anyB p n = anyB (fun _ => false) n := anyB_cong (fun k hk => by
      cases c : p k with
      | false => rfl
      | true => exact absurd ⟨k, hk, c⟩ z)
    rw [h] at this
    have f : ∀ m, anyB (fun _ => false) m = false := fun m => by
      induction m with
      | zero => rfl
      | succ m ih => show (anyB (fun _ => false) m || false) = false; rw [ih]; rfl
    rw [f n] at this
    cases this
theorem hM_iff (t : aS) (r : Nat) : ∀ n, (hM t r n).1 = true ↔ ∃ m, m < n ∧ 0 < ct (cG t (nI (m % (2 * r + 1)) - nI r) (nI (m / (2 * r + 1)) - nI r))
  | 0 => ⟨fun h => Bool.noConfusion h, fun ⟨m, h, _⟩ => absurd h (Nat.not_lt_zero m)⟩
  | n + 1 => by
    have I := hM_iff t r n
    cases q : (hM t r n).1 with
    | true =>
      rw [hM_t q, q]
      obtain ⟨m, h1, h2⟩ := I.mp q
      exact ⟨fun _ => ⟨m, by omega, h2⟩, fun _ => rfl⟩
    | false =>
      rw [hM_s q]
      show decide _ = true ↔ _
      rw [decide_eq_true_eq]
      refine ⟨fun h => ⟨n, Nat.lt_succ_self n, h⟩, fun ⟨m, h1, h2⟩ => ?_⟩
      rcases Nat.lt_or_ge m n with c | c
      · rw [I.mpr ⟨m, c, h2⟩] at q
        cases q
      · rw [show n = m by omega]
        exact h2
theorem hM_o {t : aS} {r o : Nat} (h : o ≠ 700) : ∀ n, (hM t r n).2 o = t o
  | 0 => rfl
  | n + 1 => by
    cases q : (hM t r n).1 with
    | true => rw [hM_t q]; exact hM_o h n
    | false => rw [hM_s q]; exact kK_ne h
theorem cG_of {t u : aS} (h1 : u 701 = t 701) (h4 : u 704 = t 704) (a b : Int32) : cG u a b = cG t a b := by
  funext k
  unfold cG lkM tnM
  rw [h1, h4]
theorem has_eq {s t : aS} {li ci r : Nat} (hp : Bpic (vw s 10) (t 701)) (hl : Plt s (li + 4) (ci + 4) (t 704)) : hgB s li ci r = (hMe t r).1 := by
  have e : hgB s li ci r = true ↔ (hMe t r).1 = true := by
    unfold hgB hMe
    rw [anyB_iff, hM_iff]
    constructor
    · rintro ⟨i, hi, h⟩
      obtain ⟨j, hj, h⟩ := anyB_iff.mp h
      have h := of_decide_eq_true h
      rw [gG_eq hp hl] at h
      refine ⟨(2 * r + 1) * j + i, mul_le2 hj hi, ?_⟩
      rw [(dm_1 hi).1, (dm_1 hi).2]
      exact h
    · rintro ⟨m, hm, h⟩
      have hd : m / (2 * r + 1) < 2 * r + 1 := Nat.div_lt_of_lt_mul hm
      refine ⟨m % (2 * r + 1), Nat.mod_lt _ (by omega), anyB_iff.mpr ⟨m / (2 * r + 1), hd, decide_eq_true ?_⟩⟩
      rw [gG_eq hp hl]
      exact h
  exact Bool.eq_iff_iff.mpr e
theorem tM_o {t : aS} {o : Nat} (h : o ≠ 700) : ∀ n, (tM t n).2 o = t o
  | 0 => rfl
  | n + 1 => by
    cases q : (tM t n).1 with
    | true => rw [tM_t q]; exact tM_o h n
    | false =>
      rw [tM_f q]
      unfold hMe
      rw [hM_o h, tM_o h n]
theorem tol_eq {s t : aS} (hp : Bpic (vw s 10) (t 701)) (hl : Plt s 611 18 (t 704)) : tolV (hgB s 607 14) = tolV (tMp t) := by
  have e : ∀ k, hgB s 607 14 k = tMp t k := by
    intro k
    unfold tMp
    refine has_eq (t := (tM t k).2) ?_ ?_
    · rw [tM_o (by decide)]
      exact hp
    · rw [tM_o (by decide)]
      exact hl
  rw [funext e]
/-! growth -/
def Gw (w : Nat → Int32) : Nat → Nat → Bool
  | 0, k => decide (w k = 1)
  | t + 1, k => Gw w t k || (decide (w k = 2) && anyB (fun j => decide (¬ bsN k j = -1) && Gw w t (bsN k j).toNatClampNeg) 4)
theorem Gw_s (w : Nat → Int32) (t k : Nat) : Gw w (t + 1) k = (Gw w t k || (decide (w k = 2) && anyB (fun j => decide (¬ bsN k j = -1) && Gw w t (bsN k j).toNatClampNeg) 4)) := rfl
theorem Gw_up {w : Nat → Int32} {k : Nat} : ∀ {t u : Nat}, t ≤ u → Gw w t k = true → Gw w u k = true
  | t, 0, h, q => by rw [show t = 0 by omega] at q; exact q
  | t, u + 1, h, q => by
    rcases Nat.lt_or_ge t (u + 1) with c | c
    · rw [Gw_s, Gw_up (show t ≤ u by omega) q]
      rfl
    · rw [show u + 1 = t by omega]
      exact q
/-- a side's cell of a set of cells -/
theorem side_px {s : aS} {a k j n : Nat} {q : Nat → Bool} {X Y : Int32} (hq : ∀ k, k < 192 → px s a k = q k) (hn : n < 192) (e : bsN k j = nI n) (h : hs s a X Y = px s a n) : hs s a X Y = (decide (¬ bsN k j = -1) && q (bsN k j).toNatClampNeg) := by
  rw [h, e, cl_nI (by omega), hq n hn, decide_eq_true (nIn1 hn), Bool.true_and]
theorem side_no {s : aS} {a k j : Nat} {q : Nat → Bool} {X Y : Int32} (e : bsN k j = -1) (h : pl X Y = false) : hs s a X Y = (decide (¬ bsN k j = -1) && q (bsN k j).toNatClampNeg) := by
  rw [hs_f h, decide_eq_false (fun z => z e), Bool.false_and]
theorem sideB {s : aS} {a : Nat} {q : Nat → Bool} (hq : ∀ k, k < 192 → px s a k = q k) {x y : Nat} (hx : x < 16) (hy : y < 12) :
    (hs s a (nI x - 1) (nI y) = (decide (¬ bsN (16 * y + x) 0 = -1) && q (bsN (16 * y + x) 0).toNatClampNeg) ∧ hs s a (nI x + 1) (nI y) = (decide (¬ bsN (16 * y + x) 1 = -1) && q (bsN (16 * y + x) 1).toNatClampNeg)) ∧ hs s a (nI x) (nI y - 1) = (decide (¬ bsN (16 * y + x) 2 = -1) && q (bsN (16 * y + x) 2).toNatClampNeg) ∧ hs s a (nI x) (nI y + 1) = (decide (¬ bsN (16 * y + x) 3 = -1) && q (bsN (16 * y + x) 3).toNatClampNeg) := by
  refine ⟨⟨?_, ?_⟩, ?_, ?_⟩
  · cases x with
    | zero => exact side_no (by unfold bsN; exact if_pos (by omega)) (pl_f1 y hy)
    | succ x =>
      refine side_px (n := 16 * y + x) hq (by omega) ?_ (by rw [nI_m, hs_nI _ _ (by omega) hy])
      show (if (16 * y + (x + 1)) % 16 = 0 then -1 else nI (16 * y + (x + 1) - 1)) = _
      rw [if_neg (by omega), show 16 * y + (x + 1) - 1 = 16 * y + x by omega]
  · by_cases c : x = 15
    · subst c
      exact side_no (by show (if (16 * y + 15) % 16 = 15 then (-1 : Int32) else _) = -1; exact if_pos (by omega)) (pl_f2 y hy)
    · refine side_px (n := 16 * y + (x + 1)) hq (by omega) ?_ (by rw [nI_1, hs_nI _ _ (by omega) hy])
      show (if (16 * y + x) % 16 = 15 then -1 else nI (16 * y + x + 1)) = _
      rw [if_neg (by omega), show 16 * y + x + 1 = 16 * y + (x + 1) by omega]
  · cases y with
    | zero => exact side_no (by show (if 16 * 0 + x < 16 then (-1 : Int32) else _) = -1; exact if_pos (by omega)) (pl_f3 x hx)
    | succ y =>
      refine side_px (n := 16 * y + x) hq (by omega) ?_ (by rw [nI_m, hs_nI _ _ hx (by omega)])
      show (if 16 * (y + 1) + x < 16 then -1 else nI (16 * (y + 1) + x - 16)) = _
      rw [if_neg (by omega), show 16 * (y + 1) + x - 16 = 16 * y + x by omega]
  · by_cases c : y = 11
    · subst c
      exact side_no (by show (if 176 ≤ 16 * 11 + x then (-1 : Int32) else _) = -1; exact if_pos (by omega)) (pl_f4 x hx)
    · refine side_px (n := 16 * (y + 1) + x) hq (by omega) ?_ (by rw [nI_1, hs_nI _ _ hx (by omega)])
      show (if 176 ≤ 16 * y + x then -1 else nI (16 * y + x + 16)) = _
      rw [if_neg (by omega), show 16 * y + x + 16 = 16 * (y + 1) + x by omega]
/-- the four sides in a row's bits -/
theorem bit_l {s : aS} {a x y : Nat} (hx : x < 16) (hy : y < 12) : bt (s a y <<< ((1 : Int32) &&& 31)) x = hs s a (nI x - 1) (nI y) := by
  rw [show (1 : Int32) = nI 1 from rfl, b_shl 1 (by decide) _ (by omega)]
  cases x with
  | zero => rw [show nI 1 = (1 : Int32) from rfl, hs_f (pl_f1 y hy)]; rfl
  | succ x => rw [show nI 1 = (1 : Int32) from rfl, nI_m, hs_nI _ _ (by omega) hy, px_at _ _ _ (by omega), decide_eq_true (show 1 ≤ x + 1 by omega), Bool.true_and, show x + 1 - 1 = x by omega]
theorem bit_r {s : aS} {a x y : Nat} (hw : wR s a) (hx : x < 16) (hy : y < 12) : bt (s a y >>> ((1 : Int32) &&& 31)) x = hs s a (nI x + 1) (nI y) := by
  rw [show (1 : Int32) = nI 1 from rfl, b_sshr 1 (by decide) _ (by omega), if_pos (by omega), show nI 1 = (1 : Int32) from rfl]
  by_cases c : x = 15
  · subst c
    rw [hs_f (pl_f2 y hy)]
    exact hw y hy 16 (by decide)
  · rw [nI_1, hs_nI _ _ (by omega) hy, px_at _ _ _ (by omega), show 1 + x = x + 1 by omega]
theorem bit_u {s : aS} {a x y : Nat} (hx : x < 16) (hy : y < 12) : bt (if y = 0 then 0 else s a (y - 1)) x = hs s a (nI x) (nI y - 1) := by
  cases y with
  | zero => rw [if_pos rfl, hs_f (pl_f3 x hx), b_0]
  | succ y => rw [if_neg (by omega), nI_m, hs_nI _ _ hx (by omega), px_at _ _ _ hx, show y + 1 - 1 = y by omega]
theorem bit_d {s : aS} {a x y : Nat} (hx : x < 16) (hy : y < 12) : bt (rw_ s a (nI (y + 1))) x = hs s a (nI x) (nI y + 1) := by
  by_cases c : y = 11
  · subst c
    rw [hs_f (pl_f4 x hx), rw_ge _ _ (by decide) (by decide), b_0]
  · rw [nI_1, hs_nI _ _ hx (by omega), px_at _ _ _ hx, rw_nI _ _ (by omega)]
theorem any4 (p : Nat → Bool) : anyB p 4 = (p 0 || p 1 || p 2 || p 3) := by
  show ((((false || p 0) || p 1) || p 2) || p 3) = _
  rw [Bool.false_or]
theorem or4 : ∀ h l a b c d : Bool, (h || ((((c || d) || a) || b) && l)) = (h || (l && (((a || b) || c) || d))) := by decide
theorem gIn_px {s : aS} {a o : Nat} {q l : Nat → Bool} (hw : wR s a) (hq : ∀ k, k < 192 → px s a k = q k) (ho : ∀ k, k < 192 → px s o k = l k) {k : Nat} (hk : k < 192) : px (gIn s a o) a k = (q k || (l k && anyB (fun j => decide (¬ bsN k j = -1) && q (bsN k j).toNatClampNeg) 4)) := by
  have hx : k % 16 < 16 := by omega
  have hy : k / 16 < 12 := by omega
  obtain ⟨⟨h1, h2⟩, h3, h4⟩ := sideB hq hx hy
  rw [show 16 * (k / 16) + k % 16 = k by omega] at h1 h2 h3 h4
  have hh := hq k hk
  have hl := ho k hk
  unfold px at hh hl ⊢
  unfold gIn
  rw [sP_same, fa_fill_in hy]
  unfold gw
  rw [b_or, b_and, b_or, b_or, b_or, bit_l hx hy, bit_r hw hx hy, bit_u hx hy, bit_d hx hy, h1, h2, h3, h4, hh, hl, any4]
  exact or4 _ _ _ _ _ _
theorem grow_px {s : aS} {a : Nat} {w : Nat → Int32} (h15 : wR s 15) (h16 : wR s 16) (ha5 : a ≠ 15) (ha6 : a ≠ 16) (h5 : ∀ k, k < 192 → px s 15 k = decide (w k = 1)) (h6 : ∀ k, k < 192 → px s 16 k = decide (w k = 2)) : ∀ t k, k < 192 → px (cNt s a 15 16 t) a k = Gw w t k
  | 0, k, hk => by
    have e : px (cNt s a 15 16 0) a k = px s 15 k := by
      unfold px
      show bt (bL s a 15 a (k / 16)) (k % 16) = _
      rw [bL_at (by omega)]
    rw [e]
    exact h5 k hk
  | t + 1, k, hk => by
    show px (gIn (cNt s a 15 16 t) a 16) a k = _
    have e6 : ∀ k, k < 192 → px (cNt s a 15 16 t) 16 k = decide (w k = 2) := by
      intro k hk
      have : px (cNt s a 15 16 t) 16 k = px s 16 k := by
        unfold px
        rw [cNt_ne (Ne.symm ha6)]
      rw [this]
      exact h6 k hk
    rw [gIn_px (wR_cNt h15 h16 (Ne.symm ha6) t) (grow_px h15 h16 ha5 ha6 h5 h6 t) e6 hk, Gw_s]
