/-! print: one print of both sides -/
def StP (f : aS) (v : Nat → Int32) (pn : Nat) : Prop := Bvw (vw f 10) v ∧ Sset f v ∧ Slog f v pn ∧ Ssnp f v
theorem mP2_iK {x : aS} {la o : Nat} (h : o ≠ 0) (h2 : o ≠ 2) (h3 : o ≠ 3) : mP2 x la o = iK x o := by
  unfold mP2
  rw [aP_ne h2 h3]
  unfold mP1
  rw [sP_ne h]
theorem mP3_iK {x : aS} {la o : Nat} (h : o ≠ 0) (h2 : o ≠ 2) (h3 : o ≠ 3) : mP3 x la o = iK x o := by
  unfold mP3
  rw [aF_ne h3, mP2_iK h h2 h3]
theorem mP_3o {x : aS} {la o : Nat} (h : o ≠ 1) (h2 : o ≠ 19) : mP x la o = mP3 x la o := by
  unfold mP dr wDn
  rw [sP_ne h, sP_ne h2]
theorem mP_0 (x : aS) (la : Nat) : mP x la 0 = upd (x 0) 5 (x 0 5 + 1) := by
  rw [mP_3o (by decide) (by decide)]
  unfold mP3
  rw [aF_ne (by decide)]
  unfold mP2
  rw [aP_ne (by decide) (by decide)]
  unfold mP1
  rw [sP_same, iK_ne (by decide)]
theorem mP_1 (x : aS) (la : Nat) : mP x la 1 = upd (x 1) 0 (if 0 < x 1 0 - x 1 4 then x 1 0 - x 1 4 else 0) := by
  have e : wDn (mP3 x la) 10 607 1 = x 1 := by
    unfold wDn
    rw [sP_ne (by decide), mP3_iK (by decide) (by decide) (by decide), iK_ne (by decide)]
  unfold mP dr
  rw [show (0 + 1 : Nat) = 1 from rfl, sP_same, e]
theorem mP_2 (x : aS) (la : Nat) : mP x la 2 1 = (if 12 < x 2 1 + 1 then 12 else x 2 1 + 1) ∧ mP x la 2 2 = nI ((la + 1) % 12) := by
  have e1 : mP1 x 2 = x 2 := by
    unfold mP1
    rw [sP_ne (by decide), iK_ne (by decide)]
  rw [mP_3o (by decide) (by decide)]
  unfold mP3
  rw [aF_ne (by decide)]
  refine ⟨?_, ?_⟩
  · unfold mP2 aP
    rw [sP_ne (by decide), sP_ne (by decide), sP_ne (by decide), sP_same, pk_us, e1]
  · unfold mP2
    exact aP_2 _ _ _ _ _
theorem mP_19 (x : aS) (la : Nat) {k : Nat} (hk : k < 192) : mP x la 19 k = if px (iK x) 611 k = true then x 19 k + eO (mP3 x la) 607 k else x 19 k := by
  have e9 : mP3 x la (10 + 9) = x 19 := by
    rw [mP3_iK (by decide) (by decide) (by decide), iK_ne (by decide)]
  have e6 : px (mP3 x la) (607 + 4) k = px (iK x) 611 k := by
    unfold px
    rw [mP3_iK (by decide) (by decide) (by decide)]
  have e : mP x la 19 = fa_fill (wd (mP3 x la) 10 607) (mP3 x la (10 + 9)) 192 := by
    unfold mP dr
    rw [sP_ne (by decide)]
    unfold wDn
    exact sP_same _ _ _
  rw [e, fa_fill_in hk]
  unfold wd eO
  rw [e6, e9]
theorem mP_3 (x : aS) (la : Nat) : mP x la 3 = upd (upd (upd (upd (upd (upd (x 3) ((la + 1) % 12 * 6) (x 0 5 + 1)) ((la + 1) % 12 * 6 + 1) (mPx x + 8)) ((la + 1) % 12 * 6 + 2) (mPy x + 8)) ((la + 1) % 12 * 6 + 3) (mPg x)) ((la + 1) % 12 * 6 + 4) (nI (ct (gS (mP2 x la) 10 14 (mPx x) (mPy x))))) ((la + 1) % 12 * 6 + 5) (nI (ct (gLo (mP2 x la) 10 607))) := by
  have e1 : mP1 x 3 = x 3 := by
    unfold mP1
    rw [sP_ne (by decide), iK_ne (by decide)]
  have e0 : mP1 x 0 5 = x 0 5 + 1 := by
    unfold mP1
    rw [sP_same, pk_us, iK_ne (by decide)]
  have e2 : mP2 x la 3 = upd (upd (upd (x 3) ((la + 1) % 12 * 6) (x 0 5 + 1)) ((la + 1) % 12 * 6 + 1) (mPx x + 8)) ((la + 1) % 12 * 6 + 2) (mPy x + 8) := by
    unfold mP2 aP
    rw [show (2 + 1 : Nat) = 3 from rfl, sP_same, sP_same, sP_same, sP_ne (by decide), sP_ne (by decide), e1, e0]
  rw [mP_3o (by decide) (by decide)]
  unfold mP3
  generalize nI (ct (gS (mP2 x la) 10 14 (mPx x) (mPy x))) = S
  generalize nI (ct (gLo (mP2 x la) 10 607)) = L
  unfold aF
  rw [show (2 + 1 : Nat) = 3 from rfl, sP_same, sP_same, sP_same, e2]
/-! the model's -/
theorem q5_701 (σ : aS) (p j : Nat) : q5 σ p 701 j = if j = p + 4 then cNw σ 700 10 else if j = p + 3 then cNw σ 700 9 else if j = p + 2 then cNw σ 700 8 else if j = p + 1 then cNY σ else if j = p then cNX σ else σ 701 j := by
  unfold q5
  rw [s7_at, s7_at, s7_at, s7_at, s7_at, cNw_701]
theorem q6_701 (σ : aS) (pn j : Nat) : q6 σ pn 701 j = if j = 775 then nI (pn + 1) else q5 σ (776 + 5 * (pn % 12)) 701 j := by
  unfold q6
  rw [s7_at]
theorem q7_701 (σ : aS) (pn j : Nat) : q7 σ pn 701 j = fb_put (q6 σ pn 701) (qw σ pn) 384 192 j := by
  unfold q7
  rw [sP_same]
theorem q8_701 (σ : aS) (pn j : Nat) : q8 σ pn 701 j = if j = 768 then (if q7 σ pn 701 768 ≤ q7 σ pn 701 772 then 0 else q7 σ pn 701 768 - q7 σ pn 701 772) else q7 σ pn 701 j := by
  unfold q8
  rw [s7_at]
theorem q8_lo {σ : aS} {pn j : Nat} (h : j < 384 ∨ (576 ≤ j ∧ j < 768) ∨ (768 < j ∧ j < 775)) : q8 σ pn 701 j = σ 701 j := by
  rw [q8_701, if_neg (by omega), q7_701, fb_put_out (by omega), q6_lo (by omega)]
theorem q8_768 (σ : aS) (pn : Nat) : q8 σ pn 701 768 = if σ 701 768 ≤ σ 701 772 then 0 else σ 701 768 - σ 701 772 := by
  rw [q8_701, if_pos rfl, q7_701, q7_701, fb_put_out (by omega), fb_put_out (by omega), q6_lo (by omega), q6_lo (by omega)]
theorem q8_775 (σ : aS) (pn : Nat) : q8 σ pn 701 775 = nI (pn + 1) := by
  rw [q8_701, if_neg (by decide), q7_701, fb_put_out (by omega), q6_701, if_pos rfl]
theorem q8_hi {σ : aS} {pn j : Nat} (h : 775 < j) : q8 σ pn 701 j = q5 σ (776 + 5 * (pn % 12)) 701 j := by
  rw [q8_701, if_neg (by omega), q7_701, fb_put_out (by omega), q6_701, if_neg (by omega)]
theorem q8_w {σ : aS} {pn k : Nat} (hk : k < 192) : q8 σ pn 701 (384 + k) = σ 701 (384 + k) + (if lY σ 704 k = 1 then ruV (lY σ) k else 0) := by
  have e4 : cNw σ 704 = lY σ 704 := by
    unfold cNw
    exact kK_ne (by decide)
  rw [q8_701, if_neg (by omega), q7_701, fb_put_in (by omega) (by omega), show 384 + k - 384 = k by omega]
  unfold qw
  rw [q6_lo (by omega), e4, ruV_of e4]
theorem damp_eq : ∀ d, d ≤ 100 → ∀ r, r ≤ 10 → (if 0 < nI d - nI r then nI d - nI r else 0) = (if nI d ≤ nI r then 0 else nI d - nI r) ∧ stG 0 (if nI d ≤ nI r then 0 else nI d - nI r) = true := by decide +kernel
theorem log_up : ∀ z, z ≤ 12 → (if 12 < nI z + 1 then 12 else nI z + 1) = nI (min (z + 1) 12) := by decide +kernel
theorem Plt_to {s s2 : aS} {L C : Nat} {p : Nat → Int32} (h : Plt s L C p) (e1 : s2 L = s L) (e2 : s2 C = s C) : Plt s2 L C p := by
  intro k hk
  have a1 : px s2 L k = px s L k := by unfold px; rw [e1]
  have a2 : px s2 C k = px s C k := by unfold px; rw [e2]
  rw [a1, a2]
  exact h k hk
theorem print_in {x : aS} {v : Nat → Int32} {pn : Nat} (h : StP x v pn) : MPk x (pn % 12) := by
  obtain ⟨hB, hE, ⟨_, _, _, _, g5, _⟩, _⟩ := h
  refine ⟨by omega, g5, WB_of hB, ?_⟩
  unfold mPx
  rw [(Sset_iK hE).2.1.1]
  exact sx_pin (Sset_iK hE) (Sset_iK hE).2.1.2
theorem print_one {x mm : aS} {pn : Nat} (h : StP x (mm 701) pn) (hp : pn < 5000) : mPg x = nI (ct (cG (lY mm) (cNX mm) (cNY mm))) ∧ StP (mP x (pn % 12)) (q8 mm pn 701) (pn + 1) := by
  obtain ⟨hB, hE, ⟨g1, g2, g3, g4, g5, g6⟩, hN⟩ := h
  obtain ⟨n1, n2⟩ := now_pl hB (hE.1 3 (by decide)).1
  obtain ⟨s1, s2⟩ := sh_eq (Sset_iK hE)
  have s1 : mPx x = cNX mm := s1
  have s2 : mPy x = cNY mm := s2
  have eg : mPg x = nI (ct (cG (lY mm) (cNX mm) (cNY mm))) := by
    unfold mPg
    rw [s1, s2, gG_eq n1 n2]
  have m1 : Bpic (vw (mP2 x (pn % 12)) 10) (lY mm 701) := pic_to n1 (mP2_iK (by decide) (by decide) (by decide)) (mP2_iK (by decide) (by decide) (by decide)) (fun _ _ => rfl)
  have m2 : Plt (mP2 x (pn % 12)) 611 18 (lY mm 704) := Plt_to n2 (mP2_iK (by decide) (by decide) (by decide)) (mP2_iK (by decide) (by decide) (by decide))
  have es : nI (ct (gS (mP2 x (pn % 12)) 10 14 (mPx x) (mPy x))) = cNw mm 700 9 := by
    unfold cNw
    rw [kK_9, s1, s2, gS_eq (li := 607) m1 m2]
  have el : nI (ct (gLo (mP2 x (pn % 12)) 10 607)) = cNw mm 700 10 := by
    unfold cNw
    rw [kK_10, gL_eq (ci := 14) m1 m2 (cNX mm) (cNY mm)]
  have eg8 : mPg x = cNw mm 700 8 := by rw [eg, cNw_8]
  have xo : ∀ o, o ≠ 0 → o ≠ 611 → o ≠ 2 → o ≠ 3 → o ≠ 1 → o ≠ 19 → mP x (pn % 12) o = x o := fun o a b c d e f => mP_ne a b c d e f
  refine ⟨eg, ⟨?_, ?_, ?_, ?_⟩, ⟨fun k hk => ?_, ?_, ?_⟩, ⟨by omega, q8_775 mm pn, ?_, ?_, ?_, fun j j1 j2 j3 => ?_⟩, ?_⟩
  · exact pic_to hB.1 (xo 15 (by decide) (by decide) (by decide) (by decide) (by decide) (by decide)) (xo 16 (by decide) (by decide) (by decide) (by decide) (by decide) (by decide)) (fun k hk => q8_lo (by omega))
  · exact lin_to hB.2.1 (xo 17 (by decide) (by decide) (by decide) (by decide) (by decide) (by decide)) (fun k hk => q8_lo (by omega))
  · intro k hk
    show mP x (pn % 12) 19 k = _ ∧ _
    have hl : ∀ k, k < 192 → px (mP3 x (pn % 12)) (607 + 4) k = decide (lY mm 704 k = 1) ∧ zo (lY mm 704 k) := fun k hk => by
      have : px (mP3 x (pn % 12)) (607 + 4) k = px (iK x) 611 k := by
        unfold px
        rw [mP3_iK (by decide) (by decide) (by decide)]
      rw [this]
      exact (n2 k hk).1
    rw [mP_19 _ _ hk, q8_w hk, rub_eq (t := lY mm) hl hk, (n2 k hk).1.1, show x 19 k = mm 701 (384 + k) from (hB.2.2.1 k hk).1, q8_lo (show 192 + k < 384 ∨ _ by omega)]
    by_cases c : lY mm 704 k = 1
    · rw [if_pos (decide_eq_true c), if_pos c]
      refine ⟨rfl, fun z => ?_⟩
      exfalso
      rw [lY_lo _ hk, (wM_and (hB.2.1.2 k hk).2).1, z] at c
      revert c
      cases decide (mm 701 (384 + k) ≤ mm 701 771) <;> decide
    · rw [if_neg (fun q => c (of_decide_eq_true q)), if_neg c, Int32.add_zero]
      exact ⟨rfl, (hB.2.2.1 k hk).2⟩
  · exact col_to hB.2.2.2 (xo 18 (by decide) (by decide) (by decide) (by decide) (by decide) (by decide)) (fun k hk => q8_lo (by omega))
  · rw [mP_1]
    by_cases c : k = 0
    · subst c
      have a0 := hE.1 0 (by decide)
      have a4 := hE.1 4 (by decide)
      rw [pk_us, show (768 + 0 : Nat) = 768 from rfl, q8_768, a0.1, a4.1]
      obtain ⟨d, _, hd, e1⟩ := wi_nat (lo := 0) (hi := 100) (by decide) (by decide) a0.2
      obtain ⟨r, _, hr, e2⟩ := wi_nat (lo := 0) (hi := 10) (by decide) (by decide) a4.2
      rw [show (768 + 0 : Nat) = 768 from rfl] at e1 ⊢
      rw [show (768 + 4 : Nat) = 772 from rfl] at e2 ⊢
      rw [e1, e2]
      exact damp_eq d hd r hr
    · rw [pk_un c, q8_lo (by omega)]
      exact hE.1 k hk
  · rw [mP_0, pk_un (by decide), q8_lo (by omega)]
    exact hE.2.1
  · rw [mP_0, pk_un (by decide), q8_lo (by omega)]
    exact hE.2.2
  · rw [mP_0, pk_us, g3, nI_1]
  · rw [(mP_2 _ _).1, g4, log_up _ (by omega), show min (min pn 12 + 1) 12 = min (pn + 1) 12 by omega]
  · rw [(mP_2 _ _).2, show (pn % 12 + 1) % 12 = (pn + 1) % 12 by omega]
  · rw [mP_3, eg8, es, el, s1, s2, g3, nI_1, show (pn % 12 + 1) % 12 = (pn + 1) % 12 by omega]
    rw [q8_hi (by omega), q8_hi (by omega), q8_hi (by omega), q8_hi (by omega), q8_hi (by omega), q5_701, q5_701, q5_701, q5_701, q5_701]
    by_cases c : j = pn + 1
    · subst c
      rw [show pn + 1 - 1 = pn by omega]
      simp [upd]
    · have c1 : j % 12 ≠ (pn + 1) % 12 := by omega
      have c2 : (j - 1) % 12 ≠ pn % 12 := by omega
      have hu : ∀ i, i < 6 → ∀ a b c d e f : Int32, upd (upd (upd (upd (upd (upd (x 3) ((pn + 1) % 12 * 6) a) ((pn + 1) % 12 * 6 + 1) b) ((pn + 1) % 12 * 6 + 2) c) ((pn + 1) % 12 * 6 + 3) d) ((pn + 1) % 12 * 6 + 4) e) ((pn + 1) % 12 * 6 + 5) f (j % 12 * 6 + i) = x 3 (j % 12 * 6 + i) := by
        intro i hi a b c d e f
        rw [pk_un (by omega), pk_un (by omega), pk_un (by omega), pk_un (by omega), pk_un (by omega), pk_un (by omega)]
      have hv : ∀ i, i < 5 → ∀ a b c d e f : Int32, (if 776 + 5 * ((j - 1) % 12) + i = 776 + 5 * (pn % 12) + 4 then a else if 776 + 5 * ((j - 1) % 12) + i = 776 + 5 * (pn % 12) + 3 then b else if 776 + 5 * ((j - 1) % 12) + i = 776 + 5 * (pn % 12) + 2 then c else if 776 + 5 * ((j - 1) % 12) + i = 776 + 5 * (pn % 12) + 1 then d else if 776 + 5 * ((j - 1) % 12) + i = 776 + 5 * (pn % 12) then e else f) = f := by
        intro i hi a b c d e f
        rw [if_neg (by omega), if_neg (by omega), if_neg (by omega), if_neg (by omega), if_neg (by omega)]
      rw [hu 1 (by decide), hu 2 (by decide), hu 3 (by decide), hu 4 (by decide), hu 5 (by decide), hv 1 (by decide), hv 2 (by decide), hv 3 (by decide), hv 4 (by decide)]
      have v00 := hv 0 (by decide)
      rw [Nat.add_zero] at v00
      rw [v00]
      obtain ⟨z1, z2⟩ := g6 j j1 (by omega) (by omega)
      exact ⟨(hu 0 (by decide) _ _ _ _ _ _).trans z1, z2⟩
  · refine Ssnp_cong hN (BAG_eq (fun o a b => vw_eq (xo _ (by omega) (by omega) (by omega) (by omega) (by omega) (by omega)))) (BAG_eq (fun o a b => vw_eq (xo _ (by omega) (by omega) (by omega) (by omega) (by omega) (by omega)))) (by rw [mP_0, pk_un (by decide)]) (by rw [mP_0, pk_un (by decide)]) (fun k a b => ?_)
    rw [q8_hi (by omega), q5_701, if_neg (by omega), if_neg (by omega), if_neg (by omega), if_neg (by omega), if_neg (by omega)]
/-- all prints of a call -/
theorem print_all {Y A : aS} {pn m : Nat} (h : StP Y (A 701) pn) (hp : pn + m ≤ 5000) : ∀ k, k ≤ m → StP (pS Y (pn % 12) k) (qS A pn k 701) (pn + k) ∧ pG Y (pn % 12) k = qG A pn k
  | 0, _ => ⟨h, rfl⟩
  | k + 1, hk => by
    obtain ⟨I1, I2⟩ := print_all h hp k (by omega)
    obtain ⟨a1, a2⟩ := print_one I1 (by omega)
    refine ⟨?_, ?_⟩
    · show StP (mP (pS Y (pn % 12) k) ((pn % 12 + k) % 12)) (q8 (qS A pn k) (pn + k) 701) (pn + k + 1)
      rw [show (pn % 12 + k) % 12 = (pn + k) % 12 by omega]
      exact a2
    · show pG Y (pn % 12) k + mPg (pS Y (pn % 12) k) = qG A pn k + _
      rw [I2, a1]
theorem pS_ne {Y : aS} {la o : Nat} (h : o ≠ 0) (h2 : o ≠ 611) (h3 : o ≠ 2) (h4 : o ≠ 3) (h5 : o ≠ 1) (h6 : o ≠ 19) : ∀ k, pS Y la k o = Y o
  | 0 => rfl
  | k + 1 => by
    show mP (pS Y la k) ((la + k) % 12) o = Y o
    rw [mP_ne h h2 h3 h4 h5 h6, pS_ne h h2 h3 h4 h5 h6 k]
theorem qS_ne {A : aS} {pn o : Nat} (h : o ≠ 700) (h2 : o ≠ 704) (h3 : o ≠ 701) : ∀ k, qS A pn k o = A o
  | 0 => rfl
  | k + 1 => by
    show q8 (qS A pn k) (pn + k) o = A o
    rw [q8_ne h3, cNw_ne h h2, qS_ne h h2 h3 k]
theorem qS_700 {A : aS} {pn j : Nat} (h : j ≠ 8) (h2 : j ≠ 9) (h3 : j ≠ 10) : ∀ k, qS A pn k 700 j = A 700 j
  | 0 => rfl
  | k + 1 => by
    show q8 (qS A pn k) (pn + k) 700 j = A 700 j
    rw [q8_ne (by decide)]
    unfold cNw
    rw [kK_o _ _ _ ⟨h, h2, h3⟩, lY_ne (by decide), qS_700 h h2 h3 k]
theorem duo_print {g : aG} {l : Launch} {σ : aS} (hR : Rel σ) (a : Int32) : Duo g l yX6_print wsX6_print 6 133 yX7_print wsX7_print 7 159 [.int a] σ := by
  have h0 := hR.1
  obtain ⟨nx, sz, hH⟩ := hR.2.1
  obtain ⟨n, hT⟩ := hR.2.2.1
  have hS := Rel_S hR
  obtain ⟨hB, hE, ⟨pn, hG⟩, hN⟩ := hS
  have hNX : NX σ nx := NX_of hH hN
  have hW := WB_of hB
  have h3 : σ 700 3 = nI sz := hH.2.2.2.2.1
  have hnx := hH.1
  have hsz := hH.2.1
  have hh : σ 1 3 = σ 701 771 := (hE.1 3 (by decide)).1
  cases ha : wi a 1 100 with
  | false => exact duo_of (zX6_print_bad a ha) (zX7_print_bad h0 a ha) rfl hR
  | true =>
    by_cases hle : σ 0 5 + a ≤ 5000
    · obtain ⟨m, m1, m2, rfl⟩ := wi_nat (lo := 1) (hi := 100) (by decide) (by decide) ha
      have hle2 : pn + m ≤ 5000 := by
        have q := hle
        rw [hG.2.2.1, nI_add, show (5000 : Int32) = nI 5000 from rfl] at q
        exact (nI_leI (by have := hG.1; omega) (by decide)).mp q
      have hY : ∀ u : Nat → Int32, u = σ 701 → StP (kp σ nx) u pn := by
        intro u hu
        subst hu
        have e : ∀ o, o < 40 → kp σ nx o = σ o := fun o ho => kp_lo (by omega)
        have eB : ∀ q, q + 10 ≤ 40 → BAG (vw σ q) (vw (kp σ nx) q) := fun q h2 => BAG_eq (fun o h5 h10 => vw_eq (e _ (by omega)))
        exact ⟨Bvw_cong hB (eB 10 (by decide)) (fun _ _ => rfl), Sset_cong hE (fun k _ => by rw [e 1 (by decide)]) (by rw [e 0 (by decide)]) (by rw [e 0 (by decide)]) (fun _ _ _ => rfl), Slog_cong hG (by rw [e 0 (by decide)]) ⟨by rw [e 2 (by decide)], by rw [e 2 (by decide)]⟩ (fun k _ => by rw [e 3 (by decide)]) (fun _ _ _ => rfl), Ssnp_cong hN (eB 20 (by decide)) (eB 30 (by decide)) (by rw [e 0 (by decide)]) (by rw [e 0 (by decide)]) (fun _ _ _ => rfl)⟩
      have hxI := print_all (A := σ) (hY _ rfl) hle2
      have hx := zX6_print_ok (g := g) (l := l) nx (pn % 12) m hNX m2 ha hle (fun k hk => by
        rw [show (pn % 12 + k) % 12 = (pn + k) % 12 by omega]
        exact print_in (hxI k (by omega)).1)
      have xo : ∀ o, 20 ≤ o → o ≠ 611 → pS (kp σ nx) (pn % 12) m o = kp σ nx o := fun o a b => pS_ne (by omega) b (by omega) (by omega) (by omega) (by omega) m
      obtain ⟨X, hX⟩ : ∃ X, X = pS (kp σ nx) (pn % 12) m := ⟨_, rfl⟩
      rw [← hX] at hx xo
      have ehi : ∀ o, 700 ≤ o → X o = σ o := fun o ho => (xo o (by omega) (by omega)).trans (kp_hi hnx (by omega))
      have e0 : X 700 0 = 0 := by rw [ehi 700 (by decide)]; exact h0
      have e3 : X 700 3 = nI sz := by rw [ehi 700 (by decide)]; exact h3
      have eA : aX X sz 701 = σ 701 := by rw [aX_701, ehi 701 (by decide)]
      have hmI := print_all (A := aX X sz) (hY _ eA) hle2
      have hm := zX7_print_ok (g := g) (l := l) e0 sz pn m hsz e3 m2 hle2 (by rw [ehi 701 (by decide)]; exact hG.2.1) ha (fun k hk => (hmI k (by omega)).1.2.2.1.2.1)
      obtain ⟨L1, L2⟩ := hmI m (Nat.le_refl m)
      rw [← hX] at L1
      refine duo_of hx hm L2.symm ?_
      have to : ∀ o, o ≠ 700 → o ≠ 701 → o ≠ 704 → qS (aX X sz) pn m o = aX X sz o := fun o a b c => qS_ne a c b m
      have t0 : ∀ k, k ≠ 8 → k ≠ 9 → k ≠ 10 → qS (aX X sz) pn m 700 k = aX X sz 700 k := fun k a b c => qS_700 a b c m
      generalize qS (aX X sz) pn m = τ at to t0 L1
      have tlo : ∀ o, o < 700 → τ o = X o := fun o a => (to o (by omega) (by omega) (by omega)).trans (aX_ne (by omega) (by omega))
      refine Rel_go (s := X) h0 hH hT (Rel_S hR) ehi (fun o a b => ?_) (to 702 (by decide) (by decide) (by decide)) ?_ (fun k hk => t0 k (by omega) (by omega) (by omega)) ?_
      · rw [tlo o (by omega), xo o (by omega) (by omega)]
      · rw [to 703 (by decide) (by decide) (by decide), aX_ne (by decide) (by decide)]
      · have hS2 : Sst X (τ 701) := ⟨L1.1, L1.2.1, ⟨_, L1.2.2.1⟩, L1.2.2.2⟩
        exact Sst_0 (Sst_fr (Sst_1 hS2) (fun o _ d => tlo o (by omega)) (fun _ _ => rfl))
    · refine duo_of (zX6_print_ill a ha hle) (zX7_print_ill h0 a ha ?_) rfl hR
      rw [hG.2.1, ← hG.2.2.1]
      exact hle
