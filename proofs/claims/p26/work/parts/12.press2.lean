def anyB (p : Nat → Bool) : Nat → Bool
  | 0 => false
  | n + 1 => anyB p n || p n
theorem anyB_no {p : Nat → Bool} : ∀ {n : Nat}, anyB p n = false → ∀ k, k < n → p k = false
  | 0, _, k, hk => absurd hk (Nat.not_lt_zero k)
  | n + 1, h, k, hk => by
    have h : (anyB p n || p n) = false := h
    rw [Bool.or_eq_false_iff] at h
    rcases Nat.lt_or_ge k n with q | q
    · exact anyB_no h.1 k q
    · rw [show k = n by omega]; exact h.2
theorem anyB_yes {p : Nat → Bool} {n k : Nat} (hk : k < n) (h : p k = true) : anyB p n = true := by
  cases q : anyB p n with
  | true => rfl
  | false => rw [anyB_no q k hk] at h; cases h
theorem anyB_cong {p q : Nat → Bool} : ∀ {n : Nat}, (∀ k, k < n → p k = q k) → anyB p n = anyB q n
  | 0, _ => rfl
  | n + 1, h => by
    show (anyB p n || p n) = (anyB q n || q n)
    rw [anyB_cong (fun k hk => h k (by omega)), h n (by omega)]
def hgP (σ : aS) (li ci r i j : Nat) : Bool := decide (0 < ct (gG σ 10 li ci (nI i - nI r) (nI j - nI r)))
def hgR (σ : aS) (li ci r i : Nat) : Bool := anyB (hgP σ li ci r i) (2 * r + 1)
def hgB (σ : aS) (li ci r : Nat) : Bool := anyB (hgR σ li ci r) (2 * r + 1)
theorem sub_toI {i r : Nat} (hi : i < 100) (hr : r < 100) : (nI i - nI r).toInt = (i : Int) - r := pk_sub_toInt (by omega) (by omega)
theorem cnt_in {i r : Nat} (hr : r ≤ 4) (hi : i < 2 * r + 1) : ¬ nI r < nI i - nI r := by
  rw [fa_lt, nI_toInt (by omega), sub_toI (by omega) (by omega)]
  omega
theorem cnt_out {r : Nat} (hr : r ≤ 4) : nI r < nI (2 * r + 1) - nI r := by
  rw [fa_lt, nI_toInt (by omega), sub_toI (by omega) (by omega)]
  omega
theorem sxk_r {i r : Nat} (hr : r ≤ 4) (hi : i < 2 * r + 1) : sxk (nI i - nI r) := by
  have e1 : (-8 : Int32).toInt = -8 := by decide
  have e2 : (8 : Int32).toInt = 8 := by decide
  refine ⟨?_, ?_⟩
  · rw [fa_lt, e1, sub_toI (by omega) (by omega)]
    omega
  · rw [fa_lt, e2, sub_toI (by omega) (by omega)]
    omega
theorem step_r (i r : Nat) : nI i - nI r + 1 = nI (i + 1) - nI r := by
  rw [← nI_1]
  rw [Int32.sub_eq_add_neg, Int32.sub_eq_add_neg, Int32.add_assoc, Int32.add_comm (-nI r) 1, ← Int32.add_assoc]
theorem neg_r (r : Nat) : -nI r = nI 0 - nI r := by
  rw [show nI 0 = (0 : Int32) from rfl, Int32.zero_sub]
theorem ct_le (p : Nat → Bool) : ct p ≤ 192 := fb_ct_le p 192
theorem ct_pos {p : Nat → Bool} (h : ¬ nI (ct p) ≤ 0) : 0 < ct p := by
  have := ct_le p
  rcases Nat.eq_zero_or_pos (ct p) with q | q
  · rw [q] at h
    exact absurd (Int32.le_refl _) h
  · exact q
theorem ct_zero {p : Nat → Bool} (h : nI (ct p) ≤ 0) : ct p = 0 := by
  have := ct_le p
  rcases Nat.eq_zero_or_pos (ct p) with q | q
  · exact q
  · exact absurd h (nI_nle q (by omega))
def tolV (p : Nat → Bool) : Int32 := if p 0 = true then -1009 else if p 1 = true then 0 else if p 2 = true then 1 else if p 3 = true then 2 else if p 4 = true then 3 else 4
theorem tol_0 {p : Nat → Bool} {k : Nat} (hk : k < 5) (h : ∀ i, i < k → p i = false) (hp : p k = true) (h0 : nI k = 0) : -1009 = tolV p := by
  have : k = 0 := (nI_eq (b := 0) (by omega) (by decide)).mp h0
  subst this
  simp [tolV, hp]
theorem tol_s {p : Nat → Bool} {k : Nat} (hk : k < 5) (h : ∀ i, i < k → p i = false) (hp : p k = true) (h0 : ¬ nI k = 0) : nI k - 1 = tolV p := by
  match k, hk with
  | 0, _ => exact absurd rfl h0
  | 1, _ => simp [tolV, hp, h 0]; rfl
  | 2, _ => simp [tolV, hp, h 0, h 1]; rfl
  | 3, _ => simp [tolV, hp, h 0, h 1, h 2]; rfl
  | 4, _ => simp [tolV, hp, h 0, h 1, h 2, h 3]; rfl
theorem tol_e {p : Nat → Bool} (h : ∀ i, i < 5 → p i = false) : 4 = tolV p := by simp [tolV, h 0, h 1, h 2, h 3, h 4]
def trS (σ : aS) : Nat → aS
  | 0 => σ
  | k + 1 => cNt (trS σ k) 612 15 16 k
def trP (σ : aS) (r k : Nat) : Bool := !hgB (trS σ (k + 1)) 12 608 r
theorem first_is {p : Nat → Bool} {n k : Nat} (hk : k < n) (h : ∀ i, i < k → p i = false) (hp : p k = true) : fa_first p n = k := by
  have h1 := fa_first_le p n
  rcases Nat.lt_trichotomy (fa_first p n) k with q | q | q
  · have := fa_first_yes p n (by omega)
    rw [h _ q] at this
    cases this
  · exact q
  · have := fa_first_no p n k q
    rw [hp] at this
    cases this
theorem first_no {p : Nat → Bool} {n : Nat} (h : ∀ i, i < n → p i = false) : fa_first p n = n := by
  have h1 := fa_first_le p n
  rcases Nat.lt_or_ge (fa_first p n) n with q | q
  · have := fa_first_yes p n q
    rw [h _ q] at this
    cases this
  · omega
def trF (σ : aS) (r : Nat) : Nat := fa_first (trP σ r) 5
def trR (σ : aS) (r : Nat) : Int32 := if trF σ r = 5 then -1009 else nI (trF σ r)
def trE (σ : aS) (r : Nat) : aS := if trF σ r = 5 then trS σ 5 else trS σ (trF σ r + 1)
theorem trS_ne {σ : aS} {o : Nat} (h : o ≠ 612) : ∀ k, trS σ k o = σ o
  | 0 => rfl
  | k + 1 => by
    show cNt (trS σ k) 612 15 16 k o = σ o
    rw [cNt_ne h, trS_ne h k]
theorem wR_trS {σ : aS} (h1 : wR σ 15) (h2 : wR σ 16) (k : Nat) : wR (trS σ (k + 1)) 612 := wR_cNt (wR_to h1 (trS_ne (by decide) k)) (wR_to h2 (trS_ne (by decide) k)) (by decide) k
def bpW (σ : aS) (n : Nat) : Int32 := nI (ct (gG σ 10 607 14 (nI (n / 9) - 4 + dX σ 0) (nI (n % 9) - 4 + dY σ 0))) + nI (ct (gS σ 10 14 (nI (n / 9) - 4 + dX σ 0) (nI (n % 9) - 4 + dY σ 0)))
def bpF (σ : aS) : Nat → Int32 × Int32 × Int32
  | 0 => (-4, -4, 384)
  | n + 1 => if (bpF σ n).2.2 ≤ bpW σ n then bpF σ n else (nI (n / 9) - 4, nI (n % 9) - 4, bpW σ n)
theorem nine_in {i : Nat} (hi : i < 9) : ¬ (4 : Int32) < nI i - nI 4 := cnt_in (r := 4) (by decide) hi
/-- one print -/
def mPx (σ : aS) : Int32 := iK σ 0 3 + dX (iK σ) 0
def mPy (σ : aS) : Int32 := iK σ 0 4 + dY (iK σ) 0
def mPg (σ : aS) : Int32 := nI (ct (gG (iK σ) 10 607 14 (mPx σ) (mPy σ)))
def mP1 (σ : aS) : aS := sP (iK σ) 0 (upd (iK σ 0) 5 (iK σ 0 5 + 1))
def mP2 (σ : aS) (la : Nat) : aS := aP (mP1 σ) 2 la (mP1 σ 0 5) (mPx σ) (mPy σ)
def mP3 (σ : aS) (la : Nat) : aS := aF (mP2 σ la) 2 ((la + 1) % 12) (mPg σ) (nI (ct (gS (mP2 σ la) 10 14 (mPx σ) (mPy σ)))) (nI (ct (gLo (mP2 σ la) 10 607)))
def mP (σ : aS) (la : Nat) : aS := dr (wDn (mP3 σ la) 10 607) 0
theorem aP_ne {σ : aS} {lo la o : Nat} {a b c : Int32} (h : o ≠ lo) (h2 : o ≠ lo + 1) : aP σ lo la a b c o = σ o := by
  unfold aP
  rw [sP_ne h2, sP_ne h2, sP_ne h2, sP_ne h, sP_ne h]
theorem aF_ne {σ : aS} {lo la o : Nat} {a b c : Int32} (h2 : o ≠ lo + 1) : aF σ lo la a b c o = σ o := by
  unfold aF
  rw [sP_ne h2, sP_ne h2, sP_ne h2]
theorem mP1_ne {σ : aS} {o : Nat} (h : o ≠ 0) (h2 : o ≠ 611) : mP1 σ o = σ o := by
  unfold mP1
  rw [sP_ne h, iK_ne h2]
theorem mP2_ne {σ : aS} {la o : Nat} (h : o ≠ 0) (h2 : o ≠ 611) (h3 : o ≠ 2) (h4 : o ≠ 3) : mP2 σ la o = σ o := by
  unfold mP2
  rw [aP_ne h3 h4, mP1_ne h h2]
theorem mP3_ne {σ : aS} {la o : Nat} (h : o ≠ 0) (h2 : o ≠ 611) (h3 : o ≠ 2) (h4 : o ≠ 3) : mP3 σ la o = σ o := by
  unfold mP3
  rw [aF_ne h4, mP2_ne h h2 h3 h4]
theorem mP_ne {σ : aS} {la o : Nat} (h : o ≠ 0) (h2 : o ≠ 611) (h3 : o ≠ 2) (h4 : o ≠ 3) (h5 : o ≠ 1) (h6 : o ≠ 19) : mP σ la o = σ o := by
  unfold mP dr wDn
  rw [sP_ne h5, sP_ne h6, mP3_ne h h2 h3 h4]
theorem WB.mP1 {σ : aS} (h : WB σ) : WB (mP1 σ) := h.to (mP1_ne (by decide) (by decide)) (mP1_ne (by decide) (by decide)) (mP1_ne (by decide) (by decide)) (mP1_ne (by decide) (by decide))
theorem WB.mP2 {σ : aS} (h : WB σ) (la : Nat) : WB (mP2 σ la) := h.to (mP2_ne (by decide) (by decide) (by decide) (by decide)) (mP2_ne (by decide) (by decide) (by decide) (by decide)) (mP2_ne (by decide) (by decide) (by decide) (by decide)) (mP2_ne (by decide) (by decide) (by decide) (by decide))
def MPk (σ : aS) (la : Nat) : Prop := la < 12 ∧ σ 2 2 = nI la ∧ WB σ ∧ sxk (mPx σ)
def pS (σ : aS) (la : Nat) : Nat → aS
  | 0 => σ
  | k + 1 => mP (pS σ la k) ((la + k) % 12)
def pG (σ : aS) (la : Nat) : Nat → Int32
  | 0 => 0
  | k + 1 => pG σ la k + mPg (pS σ la k)
theorem fa_of_nle2 {a b : Int32} (h : a ≤ b) : ¬ b < a := Int32.not_lt.mpr h
theorem aP_2 (σ : aS) (la : Nat) (a b c : Int32) : aP σ 2 la a b c 2 2 = nI ((la + 1) % 12) := by
  unfold aP
  rw [sP_ne (by decide), sP_ne (by decide), sP_ne (by decide), sP_same, sP_same]
  simp [upd]
section AI9
variable {K : KT} {cc : ByteArray} {own : String} {Ts : List Cond} {fr lo pc : Nat} {st : List Value} {σ : aS} {a0 a1 a2 a3 a4 a5 a6 a7 a8 a9 : Option Value} {t : List (Option Value)}
theorem s_iload9 {x : Int32} (hK : OKc K cc own Ts fr lo) (hd : decode cc pc = .ok (.iload 9, 2)) (k : AW K (pc + 2) (a0 :: a1 :: a2 :: a3 :: a4 :: a5 :: a6 :: a7 :: a8 :: some (.int x) :: t) (.int x :: st) σ) : AW K pc (a0 :: a1 :: a2 :: a3 :: a4 :: a5 :: a6 :: a7 :: a8 :: some (.int x) :: t) st σ := s_iloadg hK hd rfl k
theorem s_istore9 {x : Int32} (hK : OKc K cc own Ts fr lo) (hd : decode cc pc = .ok (.istore 9, 2)) (k : AW K (pc + 2) (a0 :: a1 :: a2 :: a3 :: a4 :: a5 :: a6 :: a7 :: a8 :: some (.int x) :: t) st σ) : AW K pc (a0 :: a1 :: a2 :: a3 :: a4 :: a5 :: a6 :: a7 :: a8 :: a9 :: t) (.int x :: st) σ := s_istoreg hK hd (by simp only [List.length_cons]; omega) k
end AI9
set_option maxHeartbeats 4000000 in
set_option maxRecDepth 100000 in
theorem zX6_hasGapsWithin {g : aG} {l : Launch} {σ : aS} (r li ci : Nat) (hr : r ≤ 4) (hl : kd li = 1) (hc : kd ci = 1) (h1 : wR σ 15) (h2 : wR σ 16) (hw : wR σ (ci + 4)) : CN g l yX6_hasGapsWithin wsX6_hasGapsWithin 3 72 [.ref 600, .int (nI r), .ref li, .ref ci] σ (some (.int (b2 (hgB σ li ci r)))) σ := by
  refine cn_of (cc := cX6_hasGapsWithin) (nL := 6) (ret := (some .boolean)) (own := RX6) (by decide +kernel) rfl rfl (Nat.le_of_ble_eq_true rfl) (fun K hg hl hK hE => ?_)
  subst hg; subst hl
  have i_5 : ∀ w ∈ u_ws RX5 TX5 10, w ∈ wsX6_hasGapsWithin := by decide +kernel
  have i_6 : ∀ w ∈ u_ws RX6 TX6 5, w ∈ wsX6_hasGapsWithin := by decide +kernel
  show AW K 0 [some (.ref 600), some (.int (nI r)), some (.ref li), some (.ref ci), none, none] [] σ
  have hx1 : (∀ z5 : Option Value, (anyB (hgR σ li ci r) (2 * r + 1) = false) → AW K 4 [some (.ref 600), some (.int (nI r)), some (.ref li), some (.ref ci), some (.int (nI (2 * r + 1) - nI r)), z5] [] (σ)) := by
    intro z5 hH1
    refine s_iload4 hK dX6_hasGapsWithin_4 ?_
    refine s_iload1 hK dX6_hasGapsWithin_6 ?_
    refine s_icmp_gt (tgt := 53) hK dX6_hasGapsWithin_7 (by decide) (fun c_7 => ?_) (fun c_7 => absurd c_7 (fun q => q (cnt_out hr)))
    refine s_iconst (v := 0) hK dX6_hasGapsWithin_53 (by decide) ?_
    exact s_iret hK hE dX6_hasGapsWithin_54 (by decide) (by rw [show hgB σ li ci r = false from hH1]; rfl) (rfl)
  have hb1 : ∀ k1 : Nat, k1 < (2 * r + 1) → (∀ z5 : Option Value, (anyB (hgR σ li ci r) (k1 + 1) = false) → AW K 4 [some (.ref 600), some (.int (nI r)), some (.ref li), some (.ref ci), some (.int (nI (k1 + 1) - nI r)), z5] [] (σ)) → (∀ z5 : Option Value, (anyB (hgR σ li ci r) k1 = false) → AW K 4 [some (.ref 600), some (.int (nI r)), some (.ref li), some (.ref ci), some (.int (nI k1 - nI r)), z5] [] (σ)) := by
    intro k1 hk1 ih1 z5 hH1
    have hx2 : ((anyB (hgP σ li ci r k1) (2 * r + 1) = false) → AW K 14 [some (.ref 600), some (.int (nI r)), some (.ref li), some (.ref ci), some (.int (nI k1 - nI r)), some (.int (nI (2 * r + 1) - nI r))] [] (σ)) := by
      intro hH2
      refine s_iload5 hK dX6_hasGapsWithin_14 ?_
      refine s_iload1 hK dX6_hasGapsWithin_16 ?_
      refine s_icmp_gt (tgt := 47) hK dX6_hasGapsWithin_17 (by decide) (fun c_17 => ?_) (fun c_17 => absurd c_17 (fun q => q (cnt_out hr)))
      refine s_iinc4 hK dX6_hasGapsWithin_47 (hv_1 _) ?_
      refine s_goto (tgt := 4) hK dX6_hasGapsWithin_50 (by decide) ?_
      exact AW.to (ih1 _ (by show (anyB (hgR σ li ci r) k1 || hgR σ li ci r k1) = false; rw [hH1, show hgR σ li ci r k1 = false from hH2]; rfl)) (by rw [step_r]) rfl
    have hb2 : ∀ k2 : Nat, k2 < (2 * r + 1) → ((anyB (hgP σ li ci r k1) (k2 + 1) = false) → AW K 14 [some (.ref 600), some (.int (nI r)), some (.ref li), some (.ref ci), some (.int (nI k1 - nI r)), some (.int (nI (k2 + 1) - nI r))] [] (σ)) → ((anyB (hgP σ li ci r k1) k2 = false) → AW K 14 [some (.ref 600), some (.int (nI r)), some (.ref li), some (.ref ci), some (.int (nI k1 - nI r)), some (.int (nI k2 - nI r))] [] (σ)) := by
      intro k2 hk2 ih2 hH2
      refine s_iload5 hK dX6_hasGapsWithin_14 ?_
      refine s_iload1 hK dX6_hasGapsWithin_16 ?_
      refine s_icmp_gt (tgt := 47) hK dX6_hasGapsWithin_17 (by decide) (fun c_17 => absurd c_17 (cnt_in hr hk2)) (fun c_17 => ?_)
      refine s_aload0 hK dX6_hasGapsWithin_20 ?_
      refine s_getr (ci := 6) (k := 0) hK rfl rfl i_6 (by decide +kernel) dX6_hasGapsWithin_21 (by decide) (by decide) (by decide) rfl rfl (rf_6_0 rfl) ?_
      refine s_getr (ci := 5) (k := 0) hK rfl rfl i_5 (by decide +kernel) dX6_hasGapsWithin_24 (by decide) (by decide) (by decide) rfl rfl (rf_5_0 rfl) ?_
      refine s_aload2 hK dX6_hasGapsWithin_27 ?_
      refine s_aload3 hK dX6_hasGapsWithin_28 ?_
      refine s_iload4 hK dX6_hasGapsWithin_29 ?_
      refine s_iload5 hK dX6_hasGapsWithin_31 ?_
      refine s_callV (ci := 0) hK mdX0_gaps (zX0_gaps 10 li ci _ _ rfl hl hc h1 h2 hw (sxk_r hr hk1)) gX6_hasGapsWithin_X0_gaps rfl rfl rfl (by decide) rfl ⟨Nat.le_of_ble_eq_true rfl, Nat.le_of_ble_eq_true rfl⟩ rfl (Nat.le_of_ble_eq_true rfl) dX6_hasGapsWithin_33 ?_
      try dsimp only [Option.toList, List.cons_append, List.nil_append]
      refine s_if_le (tgt := 41) hK dX6_hasGapsWithin_36 (by decide) (fun c_36 => ?_) (fun c_36 => ?_)
      · refine s_iinc5 hK dX6_hasGapsWithin_41 (hv_1 _) ?_
        refine s_goto (tgt := 14) hK dX6_hasGapsWithin_44 (by decide) ?_
        exact AW.to (ih2 (by show (anyB (hgP σ li ci r k1) k2 || hgP σ li ci r k1 k2) = false; rw [hH2, show hgP σ li ci r k1 k2 = false from decide_eq_false (by rw [ct_zero c_36]; decide)]; rfl)) (by rw [step_r]) (rfl)
      · refine s_iconst (v := 1) hK dX6_hasGapsWithin_39 (by decide) ?_
        exact s_iret hK hE dX6_hasGapsWithin_40 (by decide) (by rw [show hgB σ li ci r = true from anyB_yes hk1 (show hgR σ li ci r k1 = true from anyB_yes hk2 (decide_eq_true (ct_pos c_36)))]; rfl) (rfl)
    refine s_iload4 hK dX6_hasGapsWithin_4 ?_
    refine s_iload1 hK dX6_hasGapsWithin_6 ?_
    refine s_icmp_gt (tgt := 53) hK dX6_hasGapsWithin_7 (by decide) (fun c_7 => absurd c_7 (cnt_in hr hk1)) (fun c_7 => ?_)
    refine s_iload1 hK dX6_hasGapsWithin_10 ?_
    refine s_ineg hK dX6_hasGapsWithin_11 ?_
    refine s_istore5 hK dX6_hasGapsWithin_12 ?_
    exact AW.to (up_to (fun kx => (anyB (hgP σ li ci r k1) kx = false) → AW K 14 [some (.ref 600), some (.int (nI r)), some (.ref li), some (.ref ci), some (.int (nI k1 - nI r)), some (.int (nI kx - nI r))] [] (σ)) (2 * r + 1) hx2 hb2 (rfl)) (by rw [neg_r]) (rfl)
  refine s_iload1 hK dX6_hasGapsWithin_0 ?_
  refine s_ineg hK dX6_hasGapsWithin_1 ?_
  refine s_istore4 hK dX6_hasGapsWithin_2 ?_
  exact AW.to (up_to (fun kx => ∀ z5 : Option Value, (anyB (hgR σ li ci r) kx = false) → AW K 4 [some (.ref 600), some (.int (nI r)), some (.ref li), some (.ref ci), some (.int (nI kx - nI r)), z5] [] (σ)) (2 * r + 1) hx1 hb1 _ (rfl)) (by rw [neg_r]) (rfl)
set_option maxHeartbeats 4000000 in
set_option maxRecDepth 100000 in
theorem zX6_tolerance {g : aG} {l : Launch} {σ : aS} (h : WB σ) : CN g l yX6_tolerance wsX6_tolerance 4 97 [.ref 600] σ (some (.int (tolV (hgB (iK σ) 607 14)))) (iK σ) := by
  refine cn_of (cc := cX6_tolerance) (nL := 2) (ret := (some .int)) (own := RX6) (by decide +kernel) rfl rfl (Nat.le_of_ble_eq_true rfl) (fun K hg hl hK hE => ?_)
  subst hg; subst hl
  have i_0 : ∀ w ∈ u_ws RX0 TX0 5, w ∈ wsX6_tolerance := by decide +kernel
  have i_5 : ∀ w ∈ u_ws RX5 TX5 10, w ∈ wsX6_tolerance := by decide +kernel
  have i_6 : ∀ w ∈ u_ws RX6 TX6 5, w ∈ wsX6_tolerance := by decide +kernel
  show AW K 0 [some (.ref 600), none] [] σ
  have hx1 : ((∀ i, i < 5 → hgB (iK σ) 607 14 i = false) → AW K 6 [some (.ref 600), some (.int (nI 5))] [] (iK σ)) := by
    intro hH1
    refine s_iload1 hK dX6_tolerance_6 ?_
    refine s_iconst (v := 4) hK dX6_tolerance_7 (by decide) ?_
    refine s_icmp_gt (tgt := 53) hK dX6_tolerance_8 (by decide) (fun c_8 => ?_) (fun c_8 => absurd c_8 (fun q => q (nI_lt (a := 4) (b := 5) (by decide) (by decide))))
    refine s_iconst (v := 4) hK dX6_tolerance_53 (by decide) ?_
    exact s_iret hK hE dX6_tolerance_54 rfl (tol_e hH1) (rfl)
  have hb1 : ∀ k1 : Nat, k1 < 5 → ((∀ i, i < (k1 + 1) → hgB (iK σ) 607 14 i = false) → AW K 6 [some (.ref 600), some (.int (nI (k1 + 1)))] [] (iK σ)) → ((∀ i, i < k1 → hgB (iK σ) 607 14 i = false) → AW K 6 [some (.ref 600), some (.int (nI k1))] [] (iK σ)) := by
    intro k1 hk1 ih1 hH1
    refine s_iload1 hK dX6_tolerance_6 ?_
    refine s_iconst (v := 4) hK dX6_tolerance_7 (by decide) ?_
    refine s_icmp_gt (tgt := 53) hK dX6_tolerance_8 (by decide) (fun c_8 => absurd c_8 (nI_nlt (a := 4) (by omega) (by decide))) (fun c_8 => ?_)
    refine s_aload0 hK dX6_tolerance_11 ?_
    refine s_iload1 hK dX6_tolerance_12 ?_
    refine s_aload0 hK dX6_tolerance_13 ?_
    refine s_getr (ci := 6) (k := 3) hK rfl rfl i_6 (by decide +kernel) dX6_tolerance_14 (by decide) (by decide) (by decide) rfl rfl (rf_6_3 rfl) ?_
    refine s_aload0 hK dX6_tolerance_17 ?_
    refine s_getr (ci := 6) (k := 0) hK rfl rfl i_6 (by decide +kernel) dX6_tolerance_18 (by decide) (by decide) (by decide) rfl rfl (rf_6_0 rfl) ?_
    refine s_getr (ci := 5) (k := 0) hK rfl rfl i_5 (by decide +kernel) dX6_tolerance_21 (by decide) (by decide) (by decide) rfl rfl (rf_5_0 rfl) ?_
    refine s_getr (ci := 0) (k := 3) hK rfl rfl i_0 (by decide +kernel) dX6_tolerance_24 (by decide) (by decide) (by decide) rfl rfl (rf_0_3 rfl) ?_
    refine s_callV (ci := 6) hK mdX6_hasGapsWithin (zX6_hasGapsWithin k1 607 14 (by omega) rfl rfl h.iK.1 h.iK.2.1 h.iK.2.2.2) gX6_tolerance_X6_hasGapsWithin rfl rfl rfl (by decide) rfl ⟨Nat.le_of_ble_eq_true rfl, Nat.le_of_ble_eq_true rfl⟩ rfl (Nat.le_of_ble_eq_true rfl) dX6_tolerance_27 ?_
    try dsimp only [Option.toList, List.cons_append, List.nil_append]
    refine s_if_eq (tgt := 47) hK dX6_tolerance_30 (by decide) (fun c_30 => ?_) (fun c_30 => ?_)
    · refine s_iinc1 hK dX6_tolerance_47 (hv_1 _) ?_
      refine s_goto (tgt := 6) hK dX6_tolerance_50 (by decide) ?_
      exact AW.to (ih1 (fun i hi => by rcases Nat.lt_or_ge i k1 with q | q; exact hH1 i q; rw [show i = k1 by omega]; exact b2y c_30)) (by rw [nI_1]) (rfl)
    · refine s_iload1 hK dX6_tolerance_33 ?_
      refine s_if_ne (tgt := 43) hK dX6_tolerance_34 (by decide) (fun c_34 => ?_) (fun c_34 => ?_)
      · refine s_iload1 hK dX6_tolerance_43 ?_
        refine s_iconst (v := 1) hK dX6_tolerance_44 (by decide) ?_
        refine s_isub hK dX6_tolerance_45 ?_
        exact s_iret hK hE dX6_tolerance_46 rfl (by first | exact tol_0 (p := hgB (iK σ) 607 14) hk1 hH1 (b2n c_30) c_34 | exact tol_s (p := hgB (iK σ) 607 14) hk1 hH1 (b2n c_30) c_34) (rfl)
      · refine s_sipush (v := -1009) hK dX6_tolerance_37 (by decide) ?_
        refine s_goto (tgt := 46) hK dX6_tolerance_40 (by decide) ?_
        exact s_iret hK hE dX6_tolerance_46 rfl (by first | exact tol_0 (p := hgB (iK σ) 607 14) hk1 hH1 (b2n c_30) c_34 | exact tol_s (p := hgB (iK σ) 607 14) hk1 hH1 (b2n c_30) c_34) (rfl)
  refine s_aload0 hK dX6_tolerance_0 ?_
  refine s_callV (ci := 6) hK mdX6_findInk (zX6_findInk) gX6_tolerance_X6_findInk rfl rfl rfl (by decide) rfl ⟨Nat.le_of_ble_eq_true rfl, Nat.le_of_ble_eq_true rfl⟩ rfl (Nat.le_of_ble_eq_true rfl) dX6_tolerance_1 ?_
  try dsimp only [Option.toList, List.cons_append, List.nil_append]
  refine s_iconst (v := 0) hK dX6_tolerance_4 (by decide) ?_
  refine s_istore1 hK dX6_tolerance_5 ?_
  exact AW.to (up_to (fun kx => (∀ i, i < kx → hgB (iK σ) 607 14 i = false) → AW K 6 [some (.ref 600), some (.int (nI kx))] [] (iK σ)) 5 hx1 hb1 (fun i hi => absurd hi (Nat.not_lt_zero i))) (rfl) (rfl)
set_option maxHeartbeats 4000000 in
set_option maxRecDepth 100000 in
theorem zX6_trapFor_bad {g : aG} {l : Launch} {σ : aS} (r : Int32) (hbad : wi r 0 4 = false) : CN g l yX6_trapFor wsX6_trapFor 4 97 [.ref 600, .int r] σ (some (.int (-1001))) σ := by
  refine cn_of (cc := cX6_trapFor) (nL := 4) (ret := (some .int)) (own := RX6) (by decide +kernel) rfl rfl (Nat.le_of_ble_eq_true rfl) (fun K hg hl hK hE => ?_)
  subst hg; subst hl
  have i_0 : ∀ w ∈ u_ws RX0 TX0 5, w ∈ wsX6_trapFor := by decide +kernel
  have i_5 : ∀ w ∈ u_ws RX5 TX5 10, w ∈ wsX6_trapFor := by decide +kernel
  have i_6 : ∀ w ∈ u_ws RX6 TX6 5, w ∈ wsX6_trapFor := by decide +kernel
  show AW K 0 [some (.ref 600), some (.int r), none, none] [] σ
  refine s_iload1 hK dX6_trapFor_0 ?_
  refine s_iconst (v := 0) hK dX6_trapFor_1 (by decide) ?_
  refine s_iconst (v := 4) hK dX6_trapFor_2 (by decide) ?_
  refine s_callS hK mdX6_isWithin (zX6_isWithin _ _ _) gX6_trapFor_X6_isWithin rfl ⟨Nat.le_of_ble_eq_true rfl, Nat.le_of_ble_eq_true rfl⟩ rfl (Nat.le_of_ble_eq_true rfl) dX6_trapFor_3 ?_
  try dsimp only [Option.toList, List.cons_append, List.nil_append]
  refine s_if_ne (tgt := 13) hK dX6_trapFor_6 (by decide) (fun c_6 => absurd c_6 (fun q => q (b2f hbad))) (fun c_6 => ?_)
  refine s_sipush (v := -1001) hK dX6_trapFor_9 (by decide) ?_
  exact s_iret hK hE dX6_trapFor_12 rfl (rfl) (rfl)
set_option maxHeartbeats 4000000 in
set_option maxRecDepth 100000 in
theorem zX6_trapFor_ok {g : aG} {l : Launch} {σ : aS} (r : Nat) (hr : r ≤ 4) (h1 : wR σ 15) (h2 : wR σ 16) : CN g l yX6_trapFor wsX6_trapFor 4 97 [.ref 600, .int (nI r)] σ (some (.int (trR σ r))) (trE σ r) := by
  refine cn_of (cc := cX6_trapFor) (nL := 4) (ret := (some .int)) (own := RX6) (by decide +kernel) rfl rfl (Nat.le_of_ble_eq_true rfl) (fun K hg hl hK hE => ?_)
  subst hg; subst hl
  have i_0 : ∀ w ∈ u_ws RX0 TX0 5, w ∈ wsX6_trapFor := by decide +kernel
  have i_5 : ∀ w ∈ u_ws RX5 TX5 10, w ∈ wsX6_trapFor := by decide +kernel
  have i_6 : ∀ w ∈ u_ws RX6 TX6 5, w ∈ wsX6_trapFor := by decide +kernel
  show AW K 0 [some (.ref 600), some (.int (nI r)), none, none] [] σ
  have hx1 : ((∀ i, i < 5 → trP σ r i = false) → AW K 23 [some (.ref 600), some (.int (nI r)), some (.ref 10), some (.int (nI 5))] [] (trS σ 5)) := by
    intro hH1
    refine s_iload3 hK dX6_trapFor_23 ?_
    refine s_iconst (v := 4) hK dX6_trapFor_24 (by decide) ?_
    refine s_icmp_gt (tgt := 61) hK dX6_trapFor_25 (by decide) (fun c_25 => ?_) (fun c_25 => absurd c_25 (fun q => q (nI_lt (a := 4) (b := 5) (by decide) (by decide))))
    refine s_sipush (v := -1009) hK dX6_trapFor_61 (by decide) ?_
    exact s_iret hK hE dX6_trapFor_64 rfl (by rw [trR, trF, first_no hH1]; rfl) (by rw [trE, trF, first_no hH1]; rfl)
  have hb1 : ∀ k1 : Nat, k1 < 5 → ((∀ i, i < (k1 + 1) → trP σ r i = false) → AW K 23 [some (.ref 600), some (.int (nI r)), some (.ref 10), some (.int (nI (k1 + 1)))] [] (trS σ (k1 + 1))) → ((∀ i, i < k1 → trP σ r i = false) → AW K 23 [some (.ref 600), some (.int (nI r)), some (.ref 10), some (.int (nI k1))] [] (trS σ k1)) := by
    intro k1 hk1 ih1 hH1
    refine s_iload3 hK dX6_trapFor_23 ?_
    refine s_iconst (v := 4) hK dX6_trapFor_24 (by decide) ?_
    refine s_icmp_gt (tgt := 61) hK dX6_trapFor_25 (by decide) (fun c_25 => absurd c_25 (nI_nlt (a := 4) (by omega) (by decide))) (fun c_25 => ?_)
    refine s_aload2 hK dX6_trapFor_28 ?_
    refine s_aload0 hK dX6_trapFor_29 ?_
    refine s_getr (ci := 6) (k := 4) hK rfl rfl i_6 (by decide +kernel) dX6_trapFor_30 (by decide) (by decide) (by decide) rfl rfl (rf_6_4 rfl) ?_
    refine s_iload3 hK dX6_trapFor_33 ?_
    refine s_callV (ci := 0) hK mdX0_cutColour (zX0_cutColour 10 608 k1 (by omega) rfl rfl (by decide)) gX6_trapFor_X0_cutColour rfl rfl rfl (by decide) rfl ⟨Nat.le_of_ble_eq_true rfl, Nat.le_of_ble_eq_true rfl⟩ rfl (Nat.le_of_ble_eq_true rfl) dX6_trapFor_34 ?_
    try dsimp only [Option.toList, List.cons_append, List.nil_append]
    show AW K _ _ _ (trS σ (k1 + 1))
    refine s_aload0 hK dX6_trapFor_37 ?_
    refine s_iload1 hK dX6_trapFor_38 ?_
    refine s_aload2 hK dX6_trapFor_39 ?_
    refine s_getr (ci := 0) (k := 1) hK rfl rfl i_0 (by decide +kernel) dX6_trapFor_40 (by decide) (by decide) (by decide) rfl rfl (rf_0_1 rfl) ?_
    refine s_aload0 hK dX6_trapFor_43 ?_
    refine s_getr (ci := 6) (k := 4) hK rfl rfl i_6 (by decide +kernel) dX6_trapFor_44 (by decide) (by decide) (by decide) rfl rfl (rf_6_4 rfl) ?_
    refine s_callV (ci := 6) hK mdX6_hasGapsWithin (zX6_hasGapsWithin r 12 608 hr rfl rfl (wR_to h1 (trS_ne (by decide) (k1 + 1))) (wR_to h2 (trS_ne (by decide) (k1 + 1))) (wR_trS h1 h2 k1)) gX6_trapFor_X6_hasGapsWithin rfl rfl rfl (by decide) rfl ⟨Nat.le_of_ble_eq_true rfl, Nat.le_of_ble_eq_true rfl⟩ rfl (Nat.le_of_ble_eq_true rfl) dX6_trapFor_47 ?_
    try dsimp only [Option.toList, List.cons_append, List.nil_append]
    refine s_if_ne (tgt := 55) hK dX6_trapFor_50 (by decide) (fun c_50 => ?_) (fun c_50 => ?_)
    · refine s_iinc3 hK dX6_trapFor_55 (hv_1 _) ?_
      refine s_goto (tgt := 23) hK dX6_trapFor_58 (by decide) ?_
      exact AW.to (ih1 (fun i hi => by rcases Nat.lt_or_ge i k1 with q | q; exact hH1 i q; rw [show i = k1 by omega]; unfold trP; rw [b2n c_50]; rfl)) (by rw [nI_1]) (rfl)
    · refine s_iload3 hK dX6_trapFor_53 ?_
      exact s_iret hK hE dX6_trapFor_54 rfl (by rw [trR, trF, first_is hk1 hH1 (show trP σ r k1 = true by unfold trP; rw [b2y c_50]; rfl), if_neg (by omega)]) (by rw [trE, trF, first_is hk1 hH1 (show trP σ r k1 = true by unfold trP; rw [b2y c_50]; rfl), if_neg (by omega)])
  refine s_iload1 hK dX6_trapFor_0 ?_
  refine s_iconst (v := 0) hK dX6_trapFor_1 (by decide) ?_
  refine s_iconst (v := 4) hK dX6_trapFor_2 (by decide) ?_
  refine s_callS hK mdX6_isWithin (zX6_isWithin _ _ _) gX6_trapFor_X6_isWithin rfl ⟨Nat.le_of_ble_eq_true rfl, Nat.le_of_ble_eq_true rfl⟩ rfl (Nat.le_of_ble_eq_true rfl) dX6_trapFor_3 ?_
  try dsimp only [Option.toList, List.cons_append, List.nil_append]
  refine s_if_ne (tgt := 13) hK dX6_trapFor_6 (by decide) (fun c_6 => ?_) (fun c_6 => absurd c_6 (b2y' (wi_nI (N := 4) hr (by decide))))
  refine s_aload0 hK dX6_trapFor_13 ?_
  refine s_getr (ci := 6) (k := 0) hK rfl rfl i_6 (by decide +kernel) dX6_trapFor_14 (by decide) (by decide) (by decide) rfl rfl (rf_6_0 rfl) ?_
  refine s_getr (ci := 5) (k := 0) hK rfl rfl i_5 (by decide +kernel) dX6_trapFor_17 (by decide) (by decide) (by decide) rfl rfl (rf_5_0 rfl) ?_
  refine s_astore2 hK dX6_trapFor_20 ?_
  refine s_iconst (v := 0) hK dX6_trapFor_21 (by decide) ?_
  refine s_istore3 hK dX6_trapFor_22 ?_
  exact AW.to (up_to (fun kx => (∀ i, i < kx → trP σ r i = false) → AW K 23 [some (.ref 600), some (.int (nI r)), some (.ref 10), some (.int (nI kx))] [] (trS σ kx)) 5 hx1 hb1 (fun i hi => absurd hi (Nat.not_lt_zero i))) (rfl) (rfl)
set_option maxHeartbeats 4000000 in
set_option maxRecDepth 100000 in
theorem zX6_bestPins_bad {g : aG} {l : Launch} {σ : aS} (a : Int32) (hbad : wi a 0 2 = false) : CN g l yX6_bestPins wsX6_bestPins 4 94 [.ref 600, .int a] σ (some (.int (-1001))) σ := by
  refine cn_of (cc := cX6_bestPins) (nL := 10) (ret := (some .int)) (own := RX6) (by decide +kernel) rfl rfl (Nat.le_of_ble_eq_true rfl) (fun K hg hl hK hE => ?_)
  subst hg; subst hl
  have i_6 : ∀ w ∈ u_ws RX6 TX6 5, w ∈ wsX6_bestPins := by decide +kernel
  show AW K 0 [some (.ref 600), some (.int a), none, none, none, none, none, none, none, none] [] σ
  refine s_iload1 hK dX6_bestPins_0 ?_
  refine s_iconst (v := 0) hK dX6_bestPins_1 (by decide) ?_
  refine s_iconst (v := 2) hK dX6_bestPins_2 (by decide) ?_
  refine s_callS hK mdX6_isWithin (zX6_isWithin _ _ _) gX6_bestPins_X6_isWithin rfl ⟨Nat.le_of_ble_eq_true rfl, Nat.le_of_ble_eq_true rfl⟩ rfl (Nat.le_of_ble_eq_true rfl) dX6_bestPins_3 ?_
  try dsimp only [Option.toList, List.cons_append, List.nil_append]
  refine s_if_ne (tgt := 13) hK dX6_bestPins_6 (by decide) (fun c_6 => absurd c_6 (fun q => q (b2f hbad))) (fun c_6 => ?_)
  refine s_sipush (v := -1001) hK dX6_bestPins_9 (by decide) ?_
  exact s_iret hK hE dX6_bestPins_12 rfl (rfl) (rfl)
theorem bpF_no {σ : aS} {n : Nat} (h : (bpF σ n).2.2 ≤ bpW σ n) : bpF σ (n + 1) = bpF σ n := if_pos h
theorem bpF_y {σ : aS} {n : Nat} (h : ¬ (bpF σ n).2.2 ≤ bpW σ n) : bpF σ (n + 1) = (nI (n / 9) - 4, nI (n % 9) - 4, bpW σ n) := if_neg h
def bpR (σ : aS) (a : Int32) : Int32 := if a = 2 then (bpF σ 81).2.2 else if a = 0 then 4 + (bpF σ 81).1 else 4 + (bpF σ 81).2.1
set_option maxHeartbeats 4000000 in
set_option maxRecDepth 100000 in
theorem zX6_bestPins_ok {g : aG} {l : Launch} {σ : aS} (a : Int32) (h : WB σ) (ha : wi a 0 2 = true) (hx : ∀ i, i < 9 → sxk (nI i - 4 + dX (iK σ) 0)) : CN g l yX6_bestPins wsX6_bestPins 4 94 [.ref 600, .int a] σ (some (.int (bpR (iK σ) a))) (iK σ) := by
  refine cn_of (cc := cX6_bestPins) (nL := 10) (ret := (some .int)) (own := RX6) (by decide +kernel) rfl rfl (Nat.le_of_ble_eq_true rfl) (fun K hg hl hK hE => ?_)
  subst hg; subst hl
  have i_6 : ∀ w ∈ u_ws RX6 TX6 5, w ∈ wsX6_bestPins := by decide +kernel
  show AW K 0 [some (.ref 600), some (.int a), none, none, none, none, none, none, none, none] [] σ
  have hx1 : (∀ z6 : Option Value, ∀ z7 : Option Value, ∀ z8 : Option Value, ∀ z9 : Option Value, AW K 32 [some (.ref 600), some (.int a), some (.int (bpF (iK σ) (9 * 9)).1), some (.int (bpF (iK σ) (9 * 9)).2.1), some (.int (bpF (iK σ) (9 * 9)).2.2), some (.int (nI 9 - 4)), z6, z7, z8, z9] [] (iK σ)) := by
    intro z6 z7 z8 z9
    refine s_iload5 hK dX6_bestPins_32 ?_
    refine s_iconst (v := 4) hK dX6_bestPins_34 (by decide) ?_
    refine s_icmp_gt (tgt := 120) hK dX6_bestPins_35 (by decide) (fun c_35 => ?_) (fun c_35 => absurd c_35 (fun q => q (cnt_out (r := 4) (by decide))))
    refine s_iload1 hK dX6_bestPins_120 ?_
    refine s_iconst (v := 2) hK dX6_bestPins_121 (by decide) ?_
    refine s_icmp_ne (tgt := 128) hK dX6_bestPins_122 (by decide) (fun c_122 => ?_) (fun c_122 => ?_)
    · refine s_iconst (v := 4) hK dX6_bestPins_128 (by decide) ?_
      refine s_iload1 hK dX6_bestPins_129 ?_
      refine s_if_ne (tgt := 137) hK dX6_bestPins_130 (by decide) (fun c_130 => ?_) (fun c_130 => ?_)
      · refine s_iload3 hK dX6_bestPins_137 ?_
        refine s_iadd hK dX6_bestPins_138 ?_
        exact s_iret hK hE dX6_bestPins_139 rfl (by first | (simp only [bpR, c_122, c_130, if_true, if_false]; done) | (rw [bpR, if_pos c_122]; done) | (rw [bpR, if_neg c_122, if_pos c_130]; first | done | rfl) | (rw [bpR, if_neg c_122, if_neg c_130]; first | done | rfl)) (rfl)
      · refine s_iload2 hK dX6_bestPins_133 ?_
        refine s_goto (tgt := 138) hK dX6_bestPins_134 (by decide) ?_
        refine s_iadd hK dX6_bestPins_138 ?_
        exact s_iret hK hE dX6_bestPins_139 rfl (by first | (simp only [bpR, c_122, c_130, if_true, if_false]; done) | (rw [bpR, if_pos c_122]; done) | (rw [bpR, if_neg c_122, if_pos c_130]; first | done | rfl) | (rw [bpR, if_neg c_122, if_neg c_130]; first | done | rfl)) (rfl)
    · refine s_iload4 hK dX6_bestPins_125 ?_
      exact s_iret hK hE dX6_bestPins_127 rfl (by first | (simp only [bpR, c_122, c_130, if_true, if_false]; done) | (rw [bpR, if_pos c_122]; done) | (rw [bpR, if_neg c_122, if_pos c_130]; first | done | rfl) | (rw [bpR, if_neg c_122, if_neg c_130]; first | done | rfl)) (rfl)
  have hb1 : ∀ k1 : Nat, k1 < 9 → (∀ z6 : Option Value, ∀ z7 : Option Value, ∀ z8 : Option Value, ∀ z9 : Option Value, AW K 32 [some (.ref 600), some (.int a), some (.int (bpF (iK σ) (9 * (k1 + 1))).1), some (.int (bpF (iK σ) (9 * (k1 + 1))).2.1), some (.int (bpF (iK σ) (9 * (k1 + 1))).2.2), some (.int (nI (k1 + 1) - 4)), z6, z7, z8, z9] [] (iK σ)) → (∀ z6 : Option Value, ∀ z7 : Option Value, ∀ z8 : Option Value, ∀ z9 : Option Value, AW K 32 [some (.ref 600), some (.int a), some (.int (bpF (iK σ) (9 * k1)).1), some (.int (bpF (iK σ) (9 * k1)).2.1), some (.int (bpF (iK σ) (9 * k1)).2.2), some (.int (nI k1 - 4)), z6, z7, z8, z9] [] (iK σ)) := by
    intro k1 hk1 ih1 z6 z7 z8 z9
    have hx2 : (∀ z7 : Option Value, ∀ z8 : Option Value, ∀ z9 : Option Value, AW K 42 [some (.ref 600), some (.int a), some (.int (bpF (iK σ) (9 * k1 + 9)).1), some (.int (bpF (iK σ) (9 * k1 + 9)).2.1), some (.int (bpF (iK σ) (9 * k1 + 9)).2.2), some (.int (nI k1 - 4)), some (.int (nI 9 - 4)), z7, z8, z9] [] (iK σ)) := by
      intro z7 z8 z9
      refine s_iload6 hK dX6_bestPins_42 ?_
      refine s_iconst (v := 4) hK dX6_bestPins_44 (by decide) ?_
      refine s_icmp_gt (tgt := 114) hK dX6_bestPins_45 (by decide) (fun c_45 => ?_) (fun c_45 => absurd c_45 (fun q => q (cnt_out (r := 4) (by decide))))
      refine s_iinc5 hK dX6_bestPins_114 (hv_1 _) ?_
      refine s_goto (tgt := 32) hK dX6_bestPins_117 (by decide) ?_
      exact AW.to (ih1 _ _ _ _) (by rw [show (4 : Int32) = nI 4 from rfl, step_r, Nat.mul_succ]) rfl
    have hb2 : ∀ k2 : Nat, k2 < 9 → (∀ z7 : Option Value, ∀ z8 : Option Value, ∀ z9 : Option Value, AW K 42 [some (.ref 600), some (.int a), some (.int (bpF (iK σ) (9 * k1 + (k2 + 1))).1), some (.int (bpF (iK σ) (9 * k1 + (k2 + 1))).2.1), some (.int (bpF (iK σ) (9 * k1 + (k2 + 1))).2.2), some (.int (nI k1 - 4)), some (.int (nI (k2 + 1) - 4)), z7, z8, z9] [] (iK σ)) → (∀ z7 : Option Value, ∀ z8 : Option Value, ∀ z9 : Option Value, AW K 42 [some (.ref 600), some (.int a), some (.int (bpF (iK σ) (9 * k1 + k2)).1), some (.int (bpF (iK σ) (9 * k1 + k2)).2.1), some (.int (bpF (iK σ) (9 * k1 + k2)).2.2), some (.int (nI k1 - 4)), some (.int (nI k2 - 4)), z7, z8, z9] [] (iK σ)) := by
      intro k2 hk2 ih2 z7 z8 z9
      refine s_iload6 hK dX6_bestPins_42 ?_
      refine s_iconst (v := 4) hK dX6_bestPins_44 (by decide) ?_
      refine s_icmp_gt (tgt := 114) hK dX6_bestPins_45 (by decide) (fun c_45 => absurd c_45 (nine_in hk2)) (fun c_45 => ?_)
      refine s_iload5 hK dX6_bestPins_48 ?_
      refine s_aload0 hK dX6_bestPins_50 ?_
      refine s_getr (ci := 6) (k := 0) hK rfl rfl i_6 (by decide +kernel) dX6_bestPins_51 (by decide) (by decide) (by decide) rfl rfl (rf_6_0 rfl) ?_
      refine s_callV (ci := 5) hK mdX5_driftX (zX5_driftX 0 rfl) gX6_bestPins_X5_driftX rfl rfl rfl (by decide) rfl ⟨Nat.le_of_ble_eq_true rfl, Nat.le_of_ble_eq_true rfl⟩ rfl (Nat.le_of_ble_eq_true rfl) dX6_bestPins_54 ?_
      try dsimp only [Option.toList, List.cons_append, List.nil_append]
      refine s_iadd hK dX6_bestPins_57 ?_
      refine s_istore7 hK dX6_bestPins_58 ?_
      refine s_iload6 hK dX6_bestPins_60 ?_
      refine s_aload0 hK dX6_bestPins_62 ?_
      refine s_getr (ci := 6) (k := 0) hK rfl rfl i_6 (by decide +kernel) dX6_bestPins_63 (by decide) (by decide) (by decide) rfl rfl (rf_6_0 rfl) ?_
      refine s_callV (ci := 5) hK mdX5_driftY (zX5_driftY 0 rfl) gX6_bestPins_X5_driftY rfl rfl rfl (by decide) rfl ⟨Nat.le_of_ble_eq_true rfl, Nat.le_of_ble_eq_true rfl⟩ rfl (Nat.le_of_ble_eq_true rfl) dX6_bestPins_66 ?_
      try dsimp only [Option.toList, List.cons_append, List.nil_append]
      refine s_iadd hK dX6_bestPins_69 ?_
      refine s_istore8 hK dX6_bestPins_70 ?_
      refine s_aload0 hK dX6_bestPins_72 ?_
      refine s_iload7 hK dX6_bestPins_73 ?_
      refine s_iload8 hK dX6_bestPins_75 ?_
      refine s_callV (ci := 6) hK mdX6_gapsWith (zX6_gapsWith _ _ h.iK (hx k1 hk1)) gX6_bestPins_X6_gapsWith rfl rfl rfl (by decide) rfl ⟨Nat.le_of_ble_eq_true rfl, Nat.le_of_ble_eq_true rfl⟩ rfl (Nat.le_of_ble_eq_true rfl) dX6_bestPins_77 ?_
      try dsimp only [Option.toList, List.cons_append, List.nil_append]
      refine s_aload0 hK dX6_bestPins_80 ?_
      refine s_iload7 hK dX6_bestPins_81 ?_
      refine s_iload8 hK dX6_bestPins_83 ?_
      refine s_callV (ci := 6) hK mdX6_spillsWith (zX6_spillsWith _ _ h.iK (hx k1 hk1)) gX6_bestPins_X6_spillsWith rfl rfl rfl (by decide) rfl ⟨Nat.le_of_ble_eq_true rfl, Nat.le_of_ble_eq_true rfl⟩ rfl (Nat.le_of_ble_eq_true rfl) dX6_bestPins_85 ?_
      try dsimp only [Option.toList, List.cons_append, List.nil_append]
      refine s_iadd hK dX6_bestPins_88 ?_
      rw [show nI (ct (gG (iK σ) 10 607 14 (nI k1 - 4 + dX (iK σ) 0) (nI k2 - 4 + dY (iK σ) 0))) + nI (ct (gS (iK σ) 10 14 (nI k1 - 4 + dX (iK σ) 0) (nI k2 - 4 + dY (iK σ) 0))) = bpW (iK σ) (9 * k1 + k2) by simp only [bpW, show (9 * k1 + k2) / 9 = k1 by omega, show (9 * k1 + k2) % 9 = k2 by omega]]
      refine s_istore9 hK dX6_bestPins_89 ?_
      refine s_iload9 hK dX6_bestPins_91 ?_
      refine s_iload4 hK dX6_bestPins_93 ?_
      refine s_icmp_ge (tgt := 108) hK dX6_bestPins_95 (by decide) (fun c_95 => ?_) (fun c_95 => ?_)
      · refine s_iinc6 hK dX6_bestPins_108 (hv_1 _) ?_
        refine s_goto (tgt := 42) hK dX6_bestPins_111 (by decide) ?_
        exact AW.to (ih2 _ _ _) (by first | (rw [show 9 * k1 + (k2 + 1) = 9 * k1 + k2 + 1 from rfl, bpF_no c_95, show (4 : Int32) = nI 4 from rfl, step_r]; first | done | rfl) | (rw [show 9 * k1 + (k2 + 1) = 9 * k1 + k2 + 1 from rfl, bpF_y c_95, show (9 * k1 + k2) / 9 = k1 by omega, show (9 * k1 + k2) % 9 = k2 by omega, show (4 : Int32) = nI 4 from rfl, step_r]; first | done | rfl)) (rfl)
      · refine s_iload9 hK dX6_bestPins_98 ?_
        refine s_istore4 hK dX6_bestPins_100 ?_
        refine s_iload5 hK dX6_bestPins_102 ?_
        refine s_istore2 hK dX6_bestPins_104 ?_
        refine s_iload6 hK dX6_bestPins_105 ?_
        refine s_istore3 hK dX6_bestPins_107 ?_
        refine s_iinc6 hK dX6_bestPins_108 (hv_1 _) ?_
        refine s_goto (tgt := 42) hK dX6_bestPins_111 (by decide) ?_
        exact AW.to (ih2 _ _ _) (by first | (rw [show 9 * k1 + (k2 + 1) = 9 * k1 + k2 + 1 from rfl, bpF_no c_95, show (4 : Int32) = nI 4 from rfl, step_r]; first | done | rfl) | (rw [show 9 * k1 + (k2 + 1) = 9 * k1 + k2 + 1 from rfl, bpF_y c_95, show (9 * k1 + k2) / 9 = k1 by omega, show (9 * k1 + k2) % 9 = k2 by omega, show (4 : Int32) = nI 4 from rfl, step_r]; first | done | rfl)) (rfl)
    refine s_iload5 hK dX6_bestPins_32 ?_
    refine s_iconst (v := 4) hK dX6_bestPins_34 (by decide) ?_
    refine s_icmp_gt (tgt := 120) hK dX6_bestPins_35 (by decide) (fun c_35 => absurd c_35 (nine_in hk1)) (fun c_35 => ?_)
    refine s_bipush (v := -4) hK dX6_bestPins_38 (by decide) ?_
    refine s_istore6 hK dX6_bestPins_40 ?_
    exact AW.to (up_to (fun kx => ∀ z7 : Option Value, ∀ z8 : Option Value, ∀ z9 : Option Value, AW K 42 [some (.ref 600), some (.int a), some (.int (bpF (iK σ) (9 * k1 + kx)).1), some (.int (bpF (iK σ) (9 * k1 + kx)).2.1), some (.int (bpF (iK σ) (9 * k1 + kx)).2.2), some (.int (nI k1 - 4)), some (.int (nI kx - 4)), z7, z8, z9] [] (iK σ)) 9 hx2 hb2 _ _ _) (rfl) (rfl)
  refine s_iload1 hK dX6_bestPins_0 ?_
  refine s_iconst (v := 0) hK dX6_bestPins_1 (by decide) ?_
  refine s_iconst (v := 2) hK dX6_bestPins_2 (by decide) ?_
  refine s_callS hK mdX6_isWithin (zX6_isWithin _ _ _) gX6_bestPins_X6_isWithin rfl ⟨Nat.le_of_ble_eq_true rfl, Nat.le_of_ble_eq_true rfl⟩ rfl (Nat.le_of_ble_eq_true rfl) dX6_bestPins_3 ?_
  try dsimp only [Option.toList, List.cons_append, List.nil_append]
  refine s_if_ne (tgt := 13) hK dX6_bestPins_6 (by decide) (fun c_6 => ?_) (fun c_6 => absurd c_6 (b2y' ha))
  refine s_aload0 hK dX6_bestPins_13 ?_
  refine s_callV (ci := 6) hK mdX6_findInk (zX6_findInk) gX6_bestPins_X6_findInk rfl rfl rfl (by decide) rfl ⟨Nat.le_of_ble_eq_true rfl, Nat.le_of_ble_eq_true rfl⟩ rfl (Nat.le_of_ble_eq_true rfl) dX6_bestPins_14 ?_
  try dsimp only [Option.toList, List.cons_append, List.nil_append]
  refine s_bipush (v := -4) hK dX6_bestPins_17 (by decide) ?_
  refine s_istore2 hK dX6_bestPins_19 ?_
  refine s_bipush (v := -4) hK dX6_bestPins_20 (by decide) ?_
  refine s_istore3 hK dX6_bestPins_22 ?_
  refine s_sipush (v := 384) hK dX6_bestPins_23 (by decide) ?_
  refine s_istore4 hK dX6_bestPins_26 ?_
  refine s_bipush (v := -4) hK dX6_bestPins_28 (by decide) ?_
  refine s_istore5 hK dX6_bestPins_30 ?_
  exact AW.to (up_to (fun kx => ∀ z6 : Option Value, ∀ z7 : Option Value, ∀ z8 : Option Value, ∀ z9 : Option Value, AW K 32 [some (.ref 600), some (.int a), some (.int (bpF (iK σ) (9 * kx)).1), some (.int (bpF (iK σ) (9 * kx)).2.1), some (.int (bpF (iK σ) (9 * kx)).2.2), some (.int (nI kx - 4)), z6, z7, z8, z9] [] (iK σ)) 9 hx1 hb1 _ _ _ _) (rfl) (rfl)
set_option maxHeartbeats 4000000 in
set_option maxRecDepth 100000 in
theorem zX6_printsLeft {g : aG} {l : Launch} {σ : aS} : CN g l yX6_printsLeft wsX6_printsLeft 5 113 [.ref 600] σ (some (.int (if (500 : Int32) < pW (iK σ) 10 607 (iK σ 1 3) 192 then -1009 else pW (iK σ) 10 607 (iK σ 1 3) 192))) (iK σ) := by
  refine cn_of (cc := cX6_printsLeft) (nL := 2) (ret := (some .int)) (own := RX6) (by decide +kernel) rfl rfl (Nat.le_of_ble_eq_true rfl) (fun K hg hl hK hE => ?_)
  subst hg; subst hl
  have i_5 : ∀ w ∈ u_ws RX5 TX5 10, w ∈ wsX6_printsLeft := by decide +kernel
  have i_6 : ∀ w ∈ u_ws RX6 TX6 5, w ∈ wsX6_printsLeft := by decide +kernel
  show AW K 0 [some (.ref 600), none] [] σ
  refine s_aload0 hK dX6_printsLeft_0 ?_
  refine s_callV (ci := 6) hK mdX6_findInk (zX6_findInk) gX6_printsLeft_X6_findInk rfl rfl rfl (by decide) rfl ⟨Nat.le_of_ble_eq_true rfl, Nat.le_of_ble_eq_true rfl⟩ rfl (Nat.le_of_ble_eq_true rfl) dX6_printsLeft_1 ?_
  try dsimp only [Option.toList, List.cons_append, List.nil_append]
  refine s_aload0 hK dX6_printsLeft_4 ?_
  refine s_getr (ci := 6) (k := 0) hK rfl rfl i_6 (by decide +kernel) dX6_printsLeft_5 (by decide) (by decide) (by decide) rfl rfl (rf_6_0 rfl) ?_
  refine s_getr (ci := 5) (k := 0) hK rfl rfl i_5 (by decide +kernel) dX6_printsLeft_8 (by decide) (by decide) (by decide) rfl rfl (rf_5_0 rfl) ?_
  refine s_aload0 hK dX6_printsLeft_11 ?_
  refine s_getr (ci := 6) (k := 3) hK rfl rfl i_6 (by decide +kernel) dX6_printsLeft_12 (by decide) (by decide) (by decide) rfl rfl (rf_6_3 rfl) ?_
  refine s_aload0 hK dX6_printsLeft_15 ?_
  refine s_getr (ci := 6) (k := 0) hK rfl rfl i_6 (by decide +kernel) dX6_printsLeft_16 (by decide) (by decide) (by decide) rfl rfl (rf_6_0 rfl) ?_
  refine s_callV (ci := 5) hK mdX5_hardness (zX5_hardness 0 rfl) gX6_printsLeft_X5_hardness rfl rfl rfl (by decide) rfl ⟨Nat.le_of_ble_eq_true rfl, Nat.le_of_ble_eq_true rfl⟩ rfl (Nat.le_of_ble_eq_true rfl) dX6_printsLeft_19 ?_
  try dsimp only [Option.toList, List.cons_append, List.nil_append]
  refine s_callV (ci := 0) hK mdX0_printsUntilWorn (zX0_printsUntilWorn 10 607 _ rfl rfl) gX6_printsLeft_X0_printsUntilWorn rfl rfl rfl (by decide) rfl ⟨Nat.le_of_ble_eq_true rfl, Nat.le_of_ble_eq_true rfl⟩ rfl (Nat.le_of_ble_eq_true rfl) dX6_printsLeft_22 ?_
  try dsimp only [Option.toList, List.cons_append, List.nil_append]
  refine s_istore1 hK dX6_printsLeft_25 ?_
  refine s_iload1 hK dX6_printsLeft_26 ?_
  refine s_sipush (v := 500) hK dX6_printsLeft_27 (by decide) ?_
  refine s_icmp_le (tgt := 39) hK dX6_printsLeft_30 (by decide) (fun c_30 => ?_) (fun c_30 => ?_)
  · refine s_iload1 hK dX6_printsLeft_39 ?_
    exact s_iret hK hE dX6_printsLeft_40 rfl (by first | (rw [if_neg (fa_of_nle2 c_30)]; done) | (rw [if_pos (fa_of_nle c_30)]; done)) (rfl)
  · refine s_sipush (v := -1009) hK dX6_printsLeft_33 (by decide) ?_
    refine s_goto (tgt := 40) hK dX6_printsLeft_36 (by decide) ?_
    exact s_iret hK hE dX6_printsLeft_40 rfl (by first | (rw [if_neg (fa_of_nle2 c_30)]; done) | (rw [if_pos (fa_of_nle c_30)]; done)) (rfl)
set_option maxHeartbeats 4000000 in
set_option maxRecDepth 100000 in
theorem zX6_makeOnePrint {g : aG} {l : Launch} {σ : aS} (la : Nat) (h : MPk σ la) : CN g l yX6_makeOnePrint wsX6_makeOnePrint 5 110 [.ref 600] σ (some (.int (mPg σ))) (mP σ la) := by
  refine cn_of (cc := cX6_makeOnePrint) (nL := 4) (ret := (some .int)) (own := RX6) (by decide +kernel) rfl rfl (Nat.le_of_ble_eq_true rfl) (fun K hg hl hK hE => ?_)
  subst hg; subst hl
  have i_5 : ∀ w ∈ u_ws RX5 TX5 10, w ∈ wsX6_makeOnePrint := by decide +kernel
  have i_6 : ∀ w ∈ u_ws RX6 TX6 5, w ∈ wsX6_makeOnePrint := by decide +kernel
  show AW K 0 [some (.ref 600), none, none, none] [] σ
  refine s_aload0 hK dX6_makeOnePrint_0 ?_
  refine s_callV (ci := 6) hK mdX6_findInk (zX6_findInk) gX6_makeOnePrint_X6_findInk rfl rfl rfl (by decide) rfl ⟨Nat.le_of_ble_eq_true rfl, Nat.le_of_ble_eq_true rfl⟩ rfl (Nat.le_of_ble_eq_true rfl) dX6_makeOnePrint_1 ?_
  try dsimp only [Option.toList, List.cons_append, List.nil_append]
  refine s_aload0 hK dX6_makeOnePrint_4 ?_
  refine s_getr (ci := 6) (k := 0) hK rfl rfl i_6 (by decide +kernel) dX6_makeOnePrint_5 (by decide) (by decide) (by decide) rfl rfl (rf_6_0 rfl) ?_
  refine s_callV (ci := 5) hK mdX5_shiftX (zX5_shiftX 0 rfl) gX6_makeOnePrint_X5_shiftX rfl rfl rfl (by decide) rfl ⟨Nat.le_of_ble_eq_true rfl, Nat.le_of_ble_eq_true rfl⟩ rfl (Nat.le_of_ble_eq_true rfl) dX6_makeOnePrint_8 ?_
  try dsimp only [Option.toList, List.cons_append, List.nil_append]
  refine s_istore1 hK dX6_makeOnePrint_11 ?_
  refine s_aload0 hK dX6_makeOnePrint_12 ?_
  refine s_getr (ci := 6) (k := 0) hK rfl rfl i_6 (by decide +kernel) dX6_makeOnePrint_13 (by decide) (by decide) (by decide) rfl rfl (rf_6_0 rfl) ?_
  refine s_callV (ci := 5) hK mdX5_shiftY (zX5_shiftY 0 rfl) gX6_makeOnePrint_X5_shiftY rfl rfl rfl (by decide) rfl ⟨Nat.le_of_ble_eq_true rfl, Nat.le_of_ble_eq_true rfl⟩ rfl (Nat.le_of_ble_eq_true rfl) dX6_makeOnePrint_16 ?_
  try dsimp only [Option.toList, List.cons_append, List.nil_append]
  refine s_istore2 hK dX6_makeOnePrint_19 ?_
  refine s_aload0 hK dX6_makeOnePrint_20 ?_
  refine s_iload1 hK dX6_makeOnePrint_21 ?_
  refine s_iload2 hK dX6_makeOnePrint_22 ?_
  refine s_callV (ci := 6) hK mdX6_gapsWith (zX6_gapsWith (mPx σ) (mPy σ) h.2.2.1.iK h.2.2.2) gX6_makeOnePrint_X6_gapsWith rfl rfl rfl (by decide) rfl ⟨Nat.le_of_ble_eq_true rfl, Nat.le_of_ble_eq_true rfl⟩ rfl (Nat.le_of_ble_eq_true rfl) dX6_makeOnePrint_23 ?_
  try dsimp only [Option.toList, List.cons_append, List.nil_append]
  refine s_istore3 hK dX6_makeOnePrint_26 ?_
  refine s_aload0 hK dX6_makeOnePrint_27 ?_
  refine s_getr (ci := 6) (k := 0) hK rfl rfl i_6 (by decide +kernel) dX6_makeOnePrint_28 (by decide) (by decide) (by decide) rfl rfl (rf_6_0 rfl) ?_
  refine s_dup hK dX6_makeOnePrint_31 ?_
  refine s_geti (ci := 5) (k := 5) hK rfl rfl i_5 (by decide +kernel) dX6_makeOnePrint_32 (by decide) (by decide) (by decide) rfl rfl ?_
  refine s_iconst (v := 1) hK dX6_makeOnePrint_35 (by decide) ?_
  refine s_iadd hK dX6_makeOnePrint_36 ?_
  refine s_putg (ci := 5) (k := 5) (ty := .int) hK rfl rfl i_5 (by decide +kernel) dX6_makeOnePrint_37 tyX5_ok nmX5 (by decide) (by decide) (by decide) rfl rfl rfl (by decide +kernel) rfl rfl ?_
  show AW K _ _ _ (mP1 σ)
  refine s_aload0 hK dX6_makeOnePrint_40 ?_
  refine s_getr (ci := 6) (k := 0) hK rfl rfl i_6 (by decide +kernel) dX6_makeOnePrint_41 (by decide) (by decide) (by decide) rfl rfl (rf_6_0 rfl) ?_
  refine s_getr (ci := 5) (k := 2) hK rfl rfl i_5 (by decide +kernel) dX6_makeOnePrint_44 (by decide) (by decide) (by decide) rfl rfl (rf_5_2 rfl) ?_
  refine s_aload0 hK dX6_makeOnePrint_47 ?_
  refine s_getr (ci := 6) (k := 0) hK rfl rfl i_6 (by decide +kernel) dX6_makeOnePrint_48 (by decide) (by decide) (by decide) rfl rfl (rf_6_0 rfl) ?_
  refine s_geti (ci := 5) (k := 5) hK rfl rfl i_5 (by decide +kernel) dX6_makeOnePrint_51 (by decide) (by decide) (by decide) rfl rfl ?_
  refine s_iload1 hK dX6_makeOnePrint_54 ?_
  refine s_iload2 hK dX6_makeOnePrint_55 ?_
  refine s_callV (ci := 3) hK mdX3_addProof (zX3_addProof 2 la _ (mPx σ) (mPy σ) rfl h.1 (by rw [mP1_ne (by decide) (by decide)]; exact h.2.1)) gX6_makeOnePrint_X3_addProof rfl rfl rfl (by decide) rfl ⟨Nat.le_of_ble_eq_true rfl, Nat.le_of_ble_eq_true rfl⟩ rfl (Nat.le_of_ble_eq_true rfl) dX6_makeOnePrint_56 ?_
  try dsimp only [Option.toList, List.cons_append, List.nil_append]
  show AW K _ _ _ (mP2 σ la)
  refine s_aload0 hK dX6_makeOnePrint_59 ?_
  refine s_getr (ci := 6) (k := 0) hK rfl rfl i_6 (by decide +kernel) dX6_makeOnePrint_60 (by decide) (by decide) (by decide) rfl rfl (rf_6_0 rfl) ?_
  refine s_getr (ci := 5) (k := 2) hK rfl rfl i_5 (by decide +kernel) dX6_makeOnePrint_63 (by decide) (by decide) (by decide) rfl rfl (rf_5_2 rfl) ?_
  refine s_iload3 hK dX6_makeOnePrint_66 ?_
  refine s_aload0 hK dX6_makeOnePrint_67 ?_
  refine s_iload1 hK dX6_makeOnePrint_68 ?_
  refine s_iload2 hK dX6_makeOnePrint_69 ?_
  refine s_callV (ci := 6) hK mdX6_spillsWith (zX6_spillsWith (mPx σ) (mPy σ) (h.2.2.1.mP2 la) h.2.2.2) gX6_makeOnePrint_X6_spillsWith rfl rfl rfl (by decide) rfl ⟨Nat.le_of_ble_eq_true rfl, Nat.le_of_ble_eq_true rfl⟩ rfl (Nat.le_of_ble_eq_true rfl) dX6_makeOnePrint_70 ?_
  try dsimp only [Option.toList, List.cons_append, List.nil_append]
  refine s_aload0 hK dX6_makeOnePrint_73 ?_
  refine s_getr (ci := 6) (k := 0) hK rfl rfl i_6 (by decide +kernel) dX6_makeOnePrint_74 (by decide) (by decide) (by decide) rfl rfl (rf_6_0 rfl) ?_
  refine s_getr (ci := 5) (k := 0) hK rfl rfl i_5 (by decide +kernel) dX6_makeOnePrint_77 (by decide) (by decide) (by decide) rfl rfl (rf_5_0 rfl) ?_
  refine s_aload0 hK dX6_makeOnePrint_80 ?_
  refine s_getr (ci := 6) (k := 3) hK rfl rfl i_6 (by decide +kernel) dX6_makeOnePrint_81 (by decide) (by decide) (by decide) rfl rfl (rf_6_3 rfl) ?_
  refine s_callV (ci := 0) hK mdX0_lostLines (zX0_lostLines 10 607 rfl rfl (h.2.2.1.mP2 la).2.1) gX6_makeOnePrint_X0_lostLines rfl rfl rfl (by decide) rfl ⟨Nat.le_of_ble_eq_true rfl, Nat.le_of_ble_eq_true rfl⟩ rfl (Nat.le_of_ble_eq_true rfl) dX6_makeOnePrint_84 ?_
  try dsimp only [Option.toList, List.cons_append, List.nil_append]
  refine s_callV (ci := 3) hK mdX3_addFaults (zX3_addFaults 2 ((la + 1) % 12) _ _ _ rfl (by omega) (aP_2 _ la _ _ _)) gX6_makeOnePrint_X3_addFaults rfl rfl rfl (by decide) rfl ⟨Nat.le_of_ble_eq_true rfl, Nat.le_of_ble_eq_true rfl⟩ rfl (Nat.le_of_ble_eq_true rfl) dX6_makeOnePrint_87 ?_
  try dsimp only [Option.toList, List.cons_append, List.nil_append]
  show AW K _ _ _ (mP3 σ la)
  refine s_aload0 hK dX6_makeOnePrint_90 ?_
  refine s_getr (ci := 6) (k := 0) hK rfl rfl i_6 (by decide +kernel) dX6_makeOnePrint_91 (by decide) (by decide) (by decide) rfl rfl (rf_6_0 rfl) ?_
  refine s_getr (ci := 5) (k := 0) hK rfl rfl i_5 (by decide +kernel) dX6_makeOnePrint_94 (by decide) (by decide) (by decide) rfl rfl (rf_5_0 rfl) ?_
  refine s_aload0 hK dX6_makeOnePrint_97 ?_
  refine s_getr (ci := 6) (k := 3) hK rfl rfl i_6 (by decide +kernel) dX6_makeOnePrint_98 (by decide) (by decide) (by decide) rfl rfl (rf_6_3 rfl) ?_
  refine s_callV (ci := 0) hK mdX0_wearDown (zX0_wearDown 10 607 rfl rfl (by decide)) gX6_makeOnePrint_X0_wearDown rfl rfl rfl (by decide) rfl ⟨Nat.le_of_ble_eq_true rfl, Nat.le_of_ble_eq_true rfl⟩ rfl (Nat.le_of_ble_eq_true rfl) dX6_makeOnePrint_101 ?_
  try dsimp only [Option.toList, List.cons_append, List.nil_append]
  refine s_aload0 hK dX6_makeOnePrint_104 ?_
  refine s_getr (ci := 6) (k := 0) hK rfl rfl i_6 (by decide +kernel) dX6_makeOnePrint_105 (by decide) (by decide) (by decide) rfl rfl (rf_6_0 rfl) ?_
  refine s_callV (ci := 5) hK mdX5_dry (zX5_dry 0 rfl) gX6_makeOnePrint_X5_dry rfl rfl rfl (by decide) rfl ⟨Nat.le_of_ble_eq_true rfl, Nat.le_of_ble_eq_true rfl⟩ rfl (Nat.le_of_ble_eq_true rfl) dX6_makeOnePrint_108 ?_
  try dsimp only [Option.toList, List.cons_append, List.nil_append]
  refine s_iload3 hK dX6_makeOnePrint_111 ?_
  exact s_iret hK hE dX6_makeOnePrint_112 rfl (rfl) (rfl)
set_option maxHeartbeats 4000000 in
set_option maxRecDepth 100000 in
theorem zX6_print_bad {g : aG} {l : Launch} {σ : aS} (n : Int32) (hbad : wi n 1 100 = false) : CN g l yX6_print wsX6_print 6 133 [.ref 600, .int n] σ (some (.int (-1001))) σ := by
  refine cn_of (cc := cX6_print) (nL := 4) (ret := (some .int)) (own := RX6) (by decide +kernel) rfl rfl (Nat.le_of_ble_eq_true rfl) (fun K hg hl hK hE => ?_)
  subst hg; subst hl
  have i_5 : ∀ w ∈ u_ws RX5 TX5 10, w ∈ wsX6_print := by decide +kernel
  have i_6 : ∀ w ∈ u_ws RX6 TX6 5, w ∈ wsX6_print := by decide +kernel
  show AW K 0 [some (.ref 600), some (.int n), none, none] [] σ
  refine s_iload1 hK dX6_print_0 ?_
  refine s_iconst (v := 1) hK dX6_print_1 (by decide) ?_
  refine s_bipush (v := 100) hK dX6_print_2 (by decide) ?_
  refine s_callS hK mdX6_isWithin (zX6_isWithin _ _ _) gX6_print_X6_isWithin rfl ⟨Nat.le_of_ble_eq_true rfl, Nat.le_of_ble_eq_true rfl⟩ rfl (Nat.le_of_ble_eq_true rfl) dX6_print_4 ?_
  try dsimp only [Option.toList, List.cons_append, List.nil_append]
  refine s_if_ne (tgt := 14) hK dX6_print_7 (by decide) (fun c_7 => absurd c_7 (fun q => q (b2f hbad))) (fun c_7 => ?_)
  refine s_sipush (v := -1001) hK dX6_print_10 (by decide) ?_
  exact s_iret hK hE dX6_print_13 rfl (rfl) (rfl)
set_option maxHeartbeats 4000000 in
set_option maxRecDepth 100000 in
theorem zX6_print_ill {g : aG} {l : Launch} {σ : aS} (n : Int32) (hn : wi n 1 100 = true) (hbad : ¬ σ 0 5 + n ≤ 5000) : CN g l yX6_print wsX6_print 6 133 [.ref 600, .int n] σ (some (.int (-1003))) σ := by
  refine cn_of (cc := cX6_print) (nL := 4) (ret := (some .int)) (own := RX6) (by decide +kernel) rfl rfl (Nat.le_of_ble_eq_true rfl) (fun K hg hl hK hE => ?_)
  subst hg; subst hl
  have i_5 : ∀ w ∈ u_ws RX5 TX5 10, w ∈ wsX6_print := by decide +kernel
  have i_6 : ∀ w ∈ u_ws RX6 TX6 5, w ∈ wsX6_print := by decide +kernel
  show AW K 0 [some (.ref 600), some (.int n), none, none] [] σ
  refine s_iload1 hK dX6_print_0 ?_
  refine s_iconst (v := 1) hK dX6_print_1 (by decide) ?_
  refine s_bipush (v := 100) hK dX6_print_2 (by decide) ?_
  refine s_callS hK mdX6_isWithin (zX6_isWithin _ _ _) gX6_print_X6_isWithin rfl ⟨Nat.le_of_ble_eq_true rfl, Nat.le_of_ble_eq_true rfl⟩ rfl (Nat.le_of_ble_eq_true rfl) dX6_print_4 ?_
  try dsimp only [Option.toList, List.cons_append, List.nil_append]
  refine s_if_ne (tgt := 14) hK dX6_print_7 (by decide) (fun c_7 => ?_) (fun c_7 => absurd c_7 (b2y' hn))
  refine s_aload0 hK dX6_print_14 ?_
  refine s_getr (ci := 6) (k := 0) hK rfl rfl i_6 (by decide +kernel) dX6_print_15 (by decide) (by decide) (by decide) rfl rfl (rf_6_0 rfl) ?_
  refine s_geti (ci := 5) (k := 5) hK rfl rfl i_5 (by decide +kernel) dX6_print_18 (by decide) (by decide) (by decide) rfl rfl ?_
  refine s_iload1 hK dX6_print_21 ?_
  refine s_iadd hK dX6_print_22 ?_
  refine s_sipush (v := 5000) hK dX6_print_23 (by decide) ?_
  refine s_icmp_le (tgt := 33) hK dX6_print_26 (by decide) (fun c_26 => absurd c_26 hbad) (fun c_26 => ?_)
  refine s_sipush (v := -1003) hK dX6_print_29 (by decide) ?_
  exact s_iret hK hE dX6_print_32 rfl (rfl) (rfl)
set_option maxHeartbeats 4000000 in
set_option maxRecDepth 100000 in
theorem zX6_print_ok {g : aG} {l : Launch} {σ : aS} (nx la n : Nat) (hN : NX σ nx) (hn : n ≤ 100) (hw : wi (nI n) 1 100 = true) (hle : σ 0 5 + nI n ≤ 5000) (hP : ∀ k, k < n → MPk (pS (kp σ nx) la k) ((la + k) % 12)) : CN g l yX6_print wsX6_print 6 133 [.ref 600, .int (nI n)] σ (some (.int (pG (kp σ nx) la n))) (pS (kp σ nx) la n) := by
  refine cn_of (cc := cX6_print) (nL := 4) (ret := (some .int)) (own := RX6) (by decide +kernel) rfl rfl (Nat.le_of_ble_eq_true rfl) (fun K hg hl hK hE => ?_)
  subst hg; subst hl
  have i_5 : ∀ w ∈ u_ws RX5 TX5 10, w ∈ wsX6_print := by decide +kernel
  have i_6 : ∀ w ∈ u_ws RX6 TX6 5, w ∈ wsX6_print := by decide +kernel
  show AW K 0 [some (.ref 600), some (.int (nI n)), none, none] [] σ
  have hx1 : AW K 48 [some (.ref 600), some (.int (nI n)), some (.int (pG (kp σ nx) la n)), some (.int (nI n))] [] (pS (kp σ nx) la n) := by
    refine s_iload3 hK dX6_print_48 ?_
    refine s_iload1 hK dX6_print_49 ?_
    refine s_icmp_ge (tgt := 66) hK dX6_print_50 (by decide) (fun c_50 => ?_) (fun c_50 => absurd c_50 (fun q => q (ge_E rfl rfl)))
    refine s_iload2 hK dX6_print_66 ?_
    exact s_iret hK hE dX6_print_67 rfl (rfl) (rfl)
  have hb1 : ∀ k1 : Nat, k1 < n → AW K 48 [some (.ref 600), some (.int (nI n)), some (.int (pG (kp σ nx) la (k1 + 1))), some (.int (nI (k1 + 1)))] [] (pS (kp σ nx) la (k1 + 1)) → AW K 48 [some (.ref 600), some (.int (nI n)), some (.int (pG (kp σ nx) la k1)), some (.int (nI k1))] [] (pS (kp σ nx) la k1) := by
    intro k1 hk1 ih1 
    refine s_iload3 hK dX6_print_48 ?_
    refine s_iload1 hK dX6_print_49 ?_
    refine s_icmp_ge (tgt := 66) hK dX6_print_50 (by decide) (fun c_50 => absurd c_50 (ge_N rfl rfl hk1 (by omega))) (fun c_50 => ?_)
    refine s_iload2 hK dX6_print_53 ?_
    refine s_aload0 hK dX6_print_54 ?_
    refine s_callV (ci := 6) hK mdX6_makeOnePrint (zX6_makeOnePrint ((la + k1) % 12) (hP k1 hk1)) gX6_print_X6_makeOnePrint rfl rfl rfl (by decide) rfl ⟨Nat.le_of_ble_eq_true rfl, Nat.le_of_ble_eq_true rfl⟩ rfl (Nat.le_of_ble_eq_true rfl) dX6_print_55 ?_
    try dsimp only [Option.toList, List.cons_append, List.nil_append]
    refine s_iadd hK dX6_print_58 ?_
    refine s_istore2 hK dX6_print_59 ?_
    refine s_iinc3 hK dX6_print_60 (hv_1 _) ?_
    refine s_goto (tgt := 48) hK dX6_print_63 (by decide) ?_
    exact AW.to ih1 (by rw [nI_1]; rfl) (rfl)
  refine s_iload1 hK dX6_print_0 ?_
  refine s_iconst (v := 1) hK dX6_print_1 (by decide) ?_
  refine s_bipush (v := 100) hK dX6_print_2 (by decide) ?_
  refine s_callS hK mdX6_isWithin (zX6_isWithin _ _ _) gX6_print_X6_isWithin rfl ⟨Nat.le_of_ble_eq_true rfl, Nat.le_of_ble_eq_true rfl⟩ rfl (Nat.le_of_ble_eq_true rfl) dX6_print_4 ?_
  try dsimp only [Option.toList, List.cons_append, List.nil_append]
  refine s_if_ne (tgt := 14) hK dX6_print_7 (by decide) (fun c_7 => ?_) (fun c_7 => absurd c_7 (b2y' hw))
  refine s_aload0 hK dX6_print_14 ?_
  refine s_getr (ci := 6) (k := 0) hK rfl rfl i_6 (by decide +kernel) dX6_print_15 (by decide) (by decide) (by decide) rfl rfl (rf_6_0 rfl) ?_
  refine s_geti (ci := 5) (k := 5) hK rfl rfl i_5 (by decide +kernel) dX6_print_18 (by decide) (by decide) (by decide) rfl rfl ?_
  refine s_iload1 hK dX6_print_21 ?_
  refine s_iadd hK dX6_print_22 ?_
  refine s_sipush (v := 5000) hK dX6_print_23 (by decide) ?_
  refine s_icmp_le (tgt := 33) hK dX6_print_26 (by decide) (fun c_26 => ?_) (fun c_26 => absurd c_26 (fun q => q hle))
  refine s_aload0 hK dX6_print_33 ?_
  refine s_getr (ci := 6) (k := 1) hK rfl rfl i_6 (by decide +kernel) dX6_print_34 (by decide) (by decide) (by decide) rfl rfl (rf_6_1 rfl) ?_
  refine s_aload0 hK dX6_print_37 ?_
  refine s_getr (ci := 6) (k := 0) hK rfl rfl i_6 (by decide +kernel) dX6_print_38 (by decide) (by decide) (by decide) rfl rfl (rf_6_0 rfl) ?_
  refine s_callV (ci := 2) hK mdX2_keep (zX2_keep nx hN.1 hN.2.1 hN.2.2.1 hN.2.2.2) gX6_print_X2_keep rfl rfl rfl (by decide) rfl ⟨Nat.le_of_ble_eq_true rfl, Nat.le_of_ble_eq_true rfl⟩ rfl (Nat.le_of_ble_eq_true rfl) dX6_print_41 ?_
  try dsimp only [Option.toList, List.cons_append, List.nil_append]
  refine s_iconst (v := 0) hK dX6_print_44 (by decide) ?_
  refine s_istore2 hK dX6_print_45 ?_
  refine s_iconst (v := 0) hK dX6_print_46 (by decide) ?_
  refine s_istore3 hK dX6_print_47 ?_
  exact AW.to (up_to (fun kx => AW K 48 [some (.ref 600), some (.int (nI n)), some (.int (pG (kp σ nx) la kx)), some (.int (nI kx))] [] (pS (kp σ nx) la kx)) n hx1 hb1) (rfl) (rfl)
