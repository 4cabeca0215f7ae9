/-! the wear of prints, until the first cell is worn -/
def wN (S : aS) (j : Nat) : Nat := (S 19 j).toNatClampNeg
def eN (S : aS) (j : Nat) : Nat := (eO S 607 j).toNatClampNeg
theorem wN_at {P : Nat} {S : aS} (h : Gst P S) {j : Nat} (hj : j < 192) : wN S j ≤ 1005 ∧ S 19 j = nI (wN S j) := by
  obtain ⟨n, hn, e⟩ := (Bg_of h.1.1).2 j hj
  unfold wN
  rw [e, cl_nI (by omega)]
  exact ⟨hn, rfl⟩
theorem eN_at (S : aS) (j : Nat) : 1 ≤ eN S j ∧ eN S j ≤ 5 ∧ eO S 607 j = nI (eN S j) := by
  obtain ⟨n, h1, h2, e⟩ := eO_nI S 607 j
  unfold eN
  rw [e, cl_nI (by omega)]
  exact ⟨h1, h2, rfl⟩
theorem pW_spec {P h : Nat} {S : aS} (hG : Gst P S) (hh : h ≤ 1000) (hi : ∀ j, j < 192 → px S 611 j = true → wN S j ≤ h) : ∀ n, n ≤ 192 → ∃ q : Nat, pW S 10 607 (nI h) n = nI q ∧ 1 ≤ q ∧ q ≤ 501 ∧ (∀ j, j < n → px S 611 j = true → q ≤ (h - wN S j) / eN S j + 1) ∧ (q = 501 ∨ ∃ j, j < n ∧ px S 611 j = true ∧ q = (h - wN S j) / eN S j + 1)
  | 0, _ => ⟨501, rfl, by decide, by decide, fun j hj => absurd hj (Nat.not_lt_zero j), Or.inl rfl⟩
  | n + 1, hn => by
    obtain ⟨q, e, q1, q2, q3, q4⟩ := pW_spec hG hh hi n (by omega)
    obtain ⟨e1, e2, e3⟩ := eN_at S n
    obtain ⟨w1, w2⟩ := wN_at hG (show n < 192 by omega)
    have hp : ¬ eO S 607 n ≤ 0 := by rw [e3]; exact nI_nle (by omega) (by omega)
    cases c : px S 611 n with
    | false =>
      have c2 : px S (607 + 4) n = false := c
      refine ⟨q, by rw [pW_no c2]; exact e, q1, q2, fun j hj h1 => ?_, ?_⟩
      · rcases Nat.lt_or_ge j n with z | z
        · exact q3 j z h1
        · rw [show j = n by omega, c] at h1
          cases h1
      · rcases q4 with z | ⟨j, z1, z2⟩
        · exact Or.inl z
        · exact Or.inr ⟨j, by omega, z2⟩
    | true =>
      have c2 : px S (607 + 4) n = true := c
      have hv : (nI h - S (10 + 9) n) / eO S 607 n + 1 = nI ((h - wN S n) / eN S n + 1) := by
        show (nI h - S 19 n) / eO S 607 n + 1 = _
        rw [w2, e3, pk_sub (hi n (by omega) c), pk_div (by omega) (by omega) (by omega), nI_1]
      have hb : (h - wN S n) / eN S n ≤ h := Nat.le_trans (Nat.div_le_self _ _) (Nat.sub_le _ _)
      generalize hm : (h - wN S n) / eN S n + 1 = m at hv
      have hm1 : 1 ≤ m := by rw [← hm]; exact Nat.succ_le_succ (Nat.zero_le _)
      rw [pW_y c2 hp, hv, e]
      rcases Nat.lt_or_ge m q with z | z
      · rw [if_pos (nI_lt z (by omega))]
        refine ⟨m, rfl, by omega, by omega, fun j hj h1 => ?_, Or.inr ⟨n, by omega, c, hm.symm⟩⟩
        rcases Nat.lt_or_ge j n with y | y
        · have := q3 j y h1
          omega
        · rw [show j = n by omega, hm]
          exact Nat.le_refl _
      · rw [if_neg (nI_nlt z (by omega))]
        refine ⟨q, rfl, q1, q2, fun j hj h1 => ?_, ?_⟩
        · rcases Nat.lt_or_ge j n with y | y
          · exact q3 j y h1
          · rw [show j = n by omega, hm]
            exact z
        · rcases q4 with y | ⟨j, y1, y2⟩
          · exact Or.inl y
          · exact Or.inr ⟨j, by omega, y2⟩
/-- a state k prints behind S, the ink of which stands -/
def WS (S : aS) (k : Nat) (x : aS) : Prop := (x 17 = S 17 ∧ x 1 3 = S 1 3 ∧ x 1 4 = S 1 4) ∧ (∃ d d0 : Nat, S 1 0 = nI d0 ∧ x 1 0 = nI d ∧ d ≤ d0 ∧ d0 ≤ 100) ∧ ∀ j, j < 192 → x 19 j = nI (if px S 611 j = true then wN S j + k * eN S j else wN S j)
theorem WS_eq {S x y : aS} {k : Nat} (h : WS S k x) (e1 : y 1 = x 1) (e17 : y 17 = x 17) (e19 : y 19 = x 19) : WS S k y := by
  unfold WS
  rw [e1, e17, e19]
  exact h
theorem WS_0 {P : Nat} {S : aS} (h : Gst P S) : WS S 0 S := by
  obtain ⟨v, hv⟩ := h.2.1
  have a0 := hv.1 0 (by decide)
  obtain ⟨d, _, hd, e⟩ := wi_nat (lo := 0) (hi := 100) (by decide) (by decide) a0.2
  refine ⟨⟨rfl, rfl, rfl⟩, ⟨d, d, a0.1.trans e, a0.1.trans e, Nat.le_refl _, hd⟩, fun j hj => ?_⟩
  rw [Nat.zero_mul, Nat.add_zero, ite_self]
  exact (wN_at h hj).2
theorem WS_ink {S x : aS} {h k : Nat} (hSS : iK S = S) (hh : S 1 3 = nI h) (hh2 : h ≤ 1000) (hw : ∀ j, j < 192 → S 19 j = nI (wN S j)) (hx : WS S k x) (hk : ∀ j, j < 192 → px S 611 j = true → wN S j + k * eN S j ≤ h) : ∀ j, j < 192 → px (iK x) 611 j = px S 611 j := by
  intro j hj
  have a := iK_px x hj
  have b := iK_px S hj
  rw [hSS] at b
  have e17 : px x 17 j = px S 17 j := by unfold px; rw [hx.1.1]
  have e19 := hx.2.2 j hj
  rw [e17, hx.1.2.1, e19] at a
  cases c : px S 611 j with
  | true =>
    rw [c, if_pos rfl, hh] at a
    rw [c] at b
    have b := b.symm
    rw [Bool.and_eq_true] at b
    have q := hk j hj c
    rw [a, b.1, decide_eq_true (nI_le q (by omega))]
    rfl
  | false =>
    rw [c, if_neg (by decide), ← hw j hj, ← b] at a
    exact a.trans c
theorem mP_1k (x : aS) (la : Nat) {k : Nat} (h : k ≠ 0) : mP x la 1 k = x 1 k := by
  rw [mP_1, pk_un h]
theorem WS_mP {P : Nat} {S x : aS} {k la : Nat} (hG : Gst P x) (hx : WS S k x) (hi : ∀ j, j < 192 → px (iK x) 611 j = px S 611 j) : WS S (k + 1) (mP x la) := by
  obtain ⟨⟨x1, x2, x3⟩, ⟨d, d0, d1, d2, d3, d4⟩, x4⟩ := hx
  refine ⟨⟨?_, ?_, ?_⟩, ?_, fun j hj => ?_⟩
  · rw [mP_ne (by decide) (by decide) (by decide) (by decide) (by decide) (by decide)]
    exact x1
  · rw [mP_1k _ _ (by decide)]
    exact x2
  · rw [mP_1k _ _ (by decide)]
    exact x3
  · obtain ⟨v, hv⟩ := hG.2.1
    have a4 := hv.1 4 (by decide)
    obtain ⟨r, _, hr, e2⟩ := wi_nat (lo := 0) (hi := 10) (by decide) (by decide) a4.2
    refine ⟨d - r, d0, d1, ?_, by omega, d4⟩
    rw [mP_1, pk_us, d2, a4.1, e2]
    exact (show ∀ d, d ≤ 100 → ∀ r, r ≤ 10 → (if 0 < nI d - nI r then nI d - nI r else 0) = nI (d - r) by decide +kernel) d (by omega) r hr
  · have ee : eO (mP3 x la) 607 j = eO S 607 j := by
      have e6 : ∀ k, k < 192 → px (mP3 x la) 611 k = px S 611 k := fun k hk => by
        rw [← hi k hk]
        unfold px
        rw [mP3_iK (by decide) (by decide) (by decide)]
      unfold eO nb
      rw [hs_cong2 e6, hs_cong2 e6, hs_cong2 e6, hs_cong2 e6]
    rw [mP_19 _ _ hj, hi j hj, x4 j hj, ee, (eN_at S j).2.2]
    cases c : px S 611 j with
    | true =>
      rw [if_pos rfl, if_pos rfl, if_pos rfl, nI_add, Nat.succ_mul, Nat.add_assoc]
    | false =>
      rw [if_neg (by decide), if_neg (by decide), if_neg (by decide)]
theorem fb_ct_less {p q : Nat → Bool} {n j : Nat} (hj : j < n) (h : ∀ k, k < n → p k = true → q k = true) (h1 : q j = true) (h2 : p j = false) : fb_ct p n < fb_ct q n := by
  have e := fb_ct_upd q false (i := j) hj
  rw [if_pos h1, if_neg (by decide)] at e
  have s : fb_ct p n ≤ fb_ct (fun k => if k = j then false else q k) n := fb_ct_sub (fun k hk hp => by
    by_cases c : k = j
    · rw [c, h2] at hp
      cases hp
    · show (if k = j then false else q k) = true
      rw [if_neg c]
      exact h k hk hp)
  omega
/-- all prints until the first cell is worn -/
theorem WS_all {P h q la : Nat} {S Y : aS} (hSS : iK S = S) (hh : S 1 3 = nI h) (hh2 : h ≤ 1000) (hw : ∀ j, j < 192 → S 19 j = nI (wN S j)) (hY : Gst P Y) (hY0 : WS S 0 Y) (hla : la < 12) (eY : Y 2 2 = nI la) (hq : ∀ k, k < q → ∀ j, j < 192 → px S 611 j = true → wN S j + k * eN S j ≤ h) : ∀ k, k ≤ q → WS S k (pS Y la k)
  | 0, _ => hY0
  | k + 1, hk => by
    have I := WS_all hSS hh hh2 hw hY hY0 hla eY hq k (by omega)
    exact WS_mP (print_all hY hla eY k).1 I (WS_ink hSS hh hh2 hw I (hq k (by omega)))
theorem wC_same {S x : aS} (hSS : iK S = S) (e17 : x 17 = S 17) (hi : ∀ j, j < 192 → px (iK x) 611 j = px S 611 j) : wC x = wC S := by
  unfold wC
  rw [ct_cong hi, hSS, ct_cong (fun k hk => by rw [px_iK x (by decide)]; unfold px; rw [e17] : ∀ k, k < 192 → px (iK x) 17 k = px S 17 k)]
theorem wC_more {S x : aS} {h k j : Nat} (hSS : iK S = S) (hh : S 1 3 = nI h) (hh2 : h ≤ 1000) (hw : ∀ j, j < 192 → S 19 j = nI (wN S j)) (hx : WS S k x) (hj : j < 192) (h1 : px S 611 j = true) (hb : wN S j + k * eN S j < 100000) (h2 : h < wN S j + k * eN S j) : ¬ wC x ≤ wC S := by
  have e17 : ct (px (iK x) 17) = ct (px S 17) := ct_cong (fun k hk => by rw [px_iK x (by decide)]; unfold px; rw [hx.1.1])
  have sub : ∀ i, i < 192 → px (iK x) 611 i = true → px S 611 i = true := by
    intro i hi hp
    cases c : px S 611 i with
    | true => rfl
    | false =>
      have a := iK_px x hi
      have b := iK_px S hi
      rw [hSS, c] at b
      have e7 : px x 17 i = px S 17 i := by unfold px; rw [hx.1.1]
      rw [e7, hx.1.2.1, hx.2.2 i hi, c, if_neg (by decide), ← hw i hi, ← b] at a
      rw [a] at hp
      cases hp
  have no : px (iK x) 611 j = false := by
    have a := iK_px x hj
    rw [hx.1.2.1, hx.2.2 j hj, h1, if_pos rfl, hh, decide_eq_false (nI_ge h2 (by omega)), Bool.and_false] at a
    exact a
  have less : ct (px (iK x) 611) < ct (px S 611) := fb_ct_less hj sub h1 no
  have le : ct (px S 611) ≤ ct (px S 17) := fb_ct_sub (fun i hi hp => by
    have b := iK_px S hi
    rw [hSS, hp] at b
    have b := b.symm
    rw [Bool.and_eq_true] at b
    exact b.1)
  have c17 := ct_le (px S 17)
  unfold wC
  rw [e17, hSS, pk_sub (by omega), pk_sub le]
  exact nI_ge (by omega) (by omega)
