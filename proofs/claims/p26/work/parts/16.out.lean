/-! set, setPins, take, restore, print, undo: what they answer and leave -/
theorem stG_E {k : Nat} (hk : k < 5) {x : Int32} (h : stG k x = true) : ¬ isE x := by
  have d := (show ∀ k, k < 5 → stG k (-1001) = false ∧ stG k (-1002) = false ∧ stG k (-1003) = false by decide) k hk
  rintro (e | e | e) <;> (subst e; simp [d] at h)
theorem Gst_set {P : Nat} {σ τ : aS} {u : Nat → Int32} (h : Gst P σ) (e : ∀ o, 2 ≤ o → o < 40 → τ o = σ o) (e5 : τ 0 5 = σ 0 5) (e8 : τ 0 8 = σ 0 8) (e9 : τ 0 9 = σ 0 9) (hE : Sset τ u) : Gst P τ := by
  obtain ⟨⟨b1, b2, b3⟩, _, ⟨pn, la, ls, p1, p2, p3, p4, p5, p6⟩, z8, z9⟩ := h
  have e2 : τ 2 = σ 2 := e 2 (by omega) (by omega)
  have eB : ∀ q, 10 ≤ q → q + 10 ≤ 40 → BAG (vw σ q) (vw τ q) := fun q h1 h2 => BAG_eq (fun o h5 h10 => vw_eq (e _ (by omega) (by omega)))
  exact ⟨⟨Bg_cong b1 (eB 10 (by decide) (by decide)), Bg_cong b2 (eB 20 (by decide) (by decide)), Bg_cong b3 (eB 30 (by decide) (by decide))⟩, ⟨u, hE⟩, ⟨pn, la, ls, p1, p2, p3, by rw [e5]; exact p4, by rw [e2]; exact p5, by rw [e2]; exact p6⟩, by rw [e8]; exact z8, by rw [e9]; exact z9⟩
/-- what a state's flags and snapshots become -/
theorem Gst_snp {P : Nat} {σ τ : aS} (h : Gst P σ) (e : ∀ o, 1 ≤ o → o < 20 → τ o = σ o) (e0 : ∀ k, k ≠ 8 → k ≠ 9 → τ 0 k = σ 0 k) (b2 : Bg (vw τ 20)) (b3 : Bg (vw τ 30)) (z8 : zo (τ 0 8)) (z9 : zo (τ 0 9)) : Gst P τ := by
  obtain ⟨⟨b1, _, _⟩, ⟨v, hS⟩, ⟨pn, la, ls, p1, p2, p3, p4, p5, p6⟩, _, _⟩ := h
  have e1 : τ 1 = σ 1 := e 1 (by omega) (by omega)
  have e2 : τ 2 = σ 2 := e 2 (by omega) (by omega)
  exact ⟨⟨Bg_cong b1 (BAG_eq (fun o h5 h10 => vw_eq (e _ (by omega) (by omega)))), b2, b3⟩, ⟨v, Sset_cong hS (fun k _ => by rw [e1]) (e0 3 (by decide) (by decide)) (e0 4 (by decide) (by decide)) (fun _ _ _ => rfl)⟩, ⟨pn, la, ls, p1, p2, p3, by rw [e0 5 (by decide) (by decide)]; exact p4, by rw [e2]; exact p5, by rw [e2]; exact p6⟩, z8, z9⟩
theorem nI_2 {p q : Nat → Bool} : ∃ n : Nat, n ≤ 384 ∧ nI (ct p) + nI (ct q) = nI n := by
  have h1 := ct_le p
  have h2 := ct_le q
  exact ⟨ct p + ct q, by omega, nI_add _ _⟩
theorem eO_nI (s : aS) (c k : Nat) : ∃ e : Nat, 1 ≤ e ∧ e ≤ 5 ∧ eO s c k = nI e := by
  have key : ∀ a b c d : Bool, 5 - (b2 a + b2 b + b2 c + b2 d) = nI (5 - (a.toNat + b.toNat + c.toNat + d.toNat)) ∧ a.toNat + b.toNat + c.toNat + d.toNat ≤ 4 := by decide
  unfold eO nb
  obtain ⟨h1, h2⟩ := key (hs s (c + 4) (nI (k % 16) - 1) (nI (k / 16))) (hs s (c + 4) (nI (k % 16) + 1) (nI (k / 16))) (hs s (c + 4) (nI (k % 16)) (nI (k / 16) - 1)) (hs s (c + 4) (nI (k % 16)) (nI (k / 16) + 1))
  exact ⟨_, by omega, by omega, h1⟩
theorem hard_nI {P : Nat} {x : aS} (h : Gst P x) : ∃ n : Nat, 1 ≤ n ∧ n ≤ 1000 ∧ x 1 3 = nI n := by
  obtain ⟨_, ⟨v, hS⟩, _⟩ := h
  have h3 := hS.1 3 (by decide)
  obtain ⟨n, n1, n2, e⟩ := wi_nat (lo := 1) (hi := 1000) (by decide) (by decide) (show wi (v (768 + 3)) 1 1000 = true from h3.2)
  exact ⟨n, n1, n2, h3.1.trans e⟩
theorem print_in {P : Nat} {x : aS} {la : Nat} (h : Gst P x) (hla : la < 12) (e : x 2 2 = nI la) : MPk x la := by
  have hB := Bg_of h.1.1
  obtain ⟨v, hS⟩ := h.2.1
  refine ⟨hla, e, ⟨hB.1.1, hB.1.2.1, hB.1.2.2.1, hB.1.2.2.2⟩, ?_⟩
  unfold mPx
  rw [(Sset_iK hS).2.1.1]
  exact sx_pin (Sset_iK hS) (Sset_iK hS).2.1.2
theorem print_one {P : Nat} {x : aS} {la : Nat} (h : Gst P x) (hla : la < 12) (e : x 2 2 = nI la) : Gst (P + 1) (mP x la) ∧ mP x la 2 2 = nI ((la + 1) % 12) ∧ ∃ n : Nat, n ≤ 192 ∧ mPg x = nI n := by
  obtain ⟨nh, h1, h2, hh⟩ := hard_nI h
  obtain ⟨⟨b1, b2, b3⟩, ⟨v, hS⟩, ⟨pn, la', ls, p1, p2, p3, p4, p5, p6⟩, z8, z9⟩ := h
  have hB := Bg_of b1
  have xo : ∀ o, o ≠ 0 → o ≠ 611 → o ≠ 2 → o ≠ 3 → o ≠ 1 → o ≠ 19 → mP x la o = x o := fun o a b c d e f => mP_ne a b c d e f
  have eB : ∀ q, 20 ≤ q → q + 10 ≤ 40 → BAG (vw x q) (vw (mP x la) q) := fun q h1 h2 => BAG_eq (fun o h5 h10 => vw_eq (xo _ (by omega) (by omega) (by omega) (by omega) (by omega) (by omega)))
  refine ⟨⟨⟨Bg_to ⟨⟨?_, ?_, ?_, ?_⟩, fun k hk => ?_⟩, Bg_cong b2 (eB 20 (by decide) (by decide)), Bg_cong b3 (eB 30 (by decide) (by decide))⟩, ⟨fun j => if j = 768 then (if 0 < x 1 0 - x 1 4 then x 1 0 - x 1 4 else 0) else v j, fun k hk => ?_, ?_, ?_⟩, ⟨pn + 1, (la + 1) % 12, min (ls + 1) 12, by omega, by omega, by omega, ?_, ?_, (mP_2 x la).2⟩, ?_, ?_⟩, (mP_2 x la).2, ct (gG (iK x) 10 607 14 (mPx x) (mPy x)), ct_le _, rfl⟩
  · exact wR_to hB.1.1 (xo 15 (by decide) (by decide) (by decide) (by decide) (by decide) (by decide))
  · exact wR_to hB.1.2.1 (xo 16 (by decide) (by decide) (by decide) (by decide) (by decide) (by decide))
  · exact wR_to hB.1.2.2.1 (xo 17 (by decide) (by decide) (by decide) (by decide) (by decide) (by decide))
  · exact wR_to hB.1.2.2.2 (xo 18 (by decide) (by decide) (by decide) (by decide) (by decide) (by decide))
  · rw [mP_19 _ _ hk]
    obtain ⟨n, hn, en⟩ := hB.2 k hk
    by_cases c : px (iK x) 611 k = true
    · rw [if_pos c]
      rw [iK_px x hk, Bool.and_eq_true] at c
      have c2 := of_decide_eq_true c.2
      rw [en, hh, nI_leI (by omega) (by omega)] at c2
      obtain ⟨q, q1, q2, eq⟩ := eO_nI (mP3 x la) 607 k
      rw [en, eq, nI_add]
      exact ⟨n + q, by omega, rfl⟩
    · rw [if_neg c]
      exact ⟨n, hn, en⟩
  · rw [mP_1]
    by_cases c : k = 0
    · subst c
      have a0 := hS.1 0 (by decide)
      have a4 := hS.1 4 (by decide)
      obtain ⟨d, _, hd, e1⟩ := wi_nat (lo := 0) (hi := 100) (by decide) (by decide) a0.2
      obtain ⟨r, _, hr, e2⟩ := wi_nat (lo := 0) (hi := 10) (by decide) (by decide) a4.2
      rw [pk_us]
      dsimp only
      rw [if_pos (show 768 + 0 = 768 from rfl)]
      refine ⟨rfl, ?_⟩
      rw [a0.1, a4.1, e1, e2]
      have D := damp_eq d hd r hr
      rw [D.1]
      exact D.2
    · rw [pk_un c]
      show x 1 k = (if 768 + k = 768 then _ else _) ∧ stG k (if 768 + k = 768 then _ else _) = true
      rw [if_neg (by omega)]
      exact hS.1 k hk
  · rw [mP_0, pk_un (by decide)]
    exact hS.2.1
  · rw [mP_0, pk_un (by decide)]
    exact hS.2.2
  · rw [mP_0, pk_us, p4, nI_1]
  · rw [(mP_2 _ _).1, p5, log_up _ p3]
  · rw [mP_0, pk_un (by decide)]
    exact z8
  · rw [mP_0, pk_un (by decide)]
    exact z9
theorem print_all {P : Nat} {Y : aS} {la : Nat} (h : Gst P Y) (hla : la < 12) (e : Y 2 2 = nI la) : ∀ k, Gst (P + k) (pS Y la k) ∧ pS Y la k 2 2 = nI ((la + k) % 12) ∧ ∃ n : Nat, n ≤ 192 * k ∧ pG Y la k = nI n
  | 0 => ⟨h, by rw [Nat.add_zero, Nat.mod_eq_of_lt hla]; exact e, 0, Nat.le_refl _, rfl⟩
  | k + 1 => by
    obtain ⟨I1, I2, n, I3, I4⟩ := print_all h hla e k
    obtain ⟨J1, J2, m, J3, J4⟩ := print_one I1 (show (la + k) % 12 < 12 by omega) I2
    refine ⟨J1, ?_, n + m, by omega, ?_⟩
    · show mP (pS Y la k) ((la + k) % 12) 2 2 = _
      rw [J2, show ((la + k) % 12 + 1) % 12 = (la + (k + 1)) % 12 by omega]
    · show pG Y la k + mPg (pS Y la k) = _
      rw [I4, J4, nI_add]
section OV
variable {g : aG} {l : Launch} {σ : aS} {P nx sz : Nat}
theorem out_set (h : IV P nx sz σ) (a v : Int32) : ∃ (r : Int32) (τ : aS), CN g l yX6_set wsX6_set 5 111 [.ref 600, .int a, .int v] σ (some (.int r)) τ ∧ Out P nx sz σ r τ := by
  cases ha : wi a 0 4 with
  | false => exact ⟨_, _, zX6_set_bad a v ha, out_bad (Or.inl rfl)⟩
  | true =>
    obtain ⟨k, _, hk, rfl⟩ := wi_nat (lo := 0) (hi := 4) (by decide) (by decide) ha
    cases hv : stG k v with
    | false => exact ⟨_, _, zX6_set_bad2 k v (by omega) hv, out_bad (Or.inl rfl)⟩
    | true =>
      have hx := zX6_set_ok (g := g) (l := l) nx k v (IV_NX h) (by omega) hv
      obtain ⟨v0, hS⟩ := h.2.1.2.1
      have hr : ¬ isE (kp σ nx 1 k) := by
        rw [kp_lo (by decide), (hS.1 k (by omega)).1]
        exact stG_E (by omega) (hS.1 k (by omega)).2
      generalize hX : sP (kp σ nx) 1 (upd (kp σ nx 1) k v) = X at hx
      have xo : ∀ o, o ≠ 1 → X o = kp σ nx o := fun o a => by rw [← hX, sP_ne a]
      have x1 : X 1 = upd (σ 1) k v := by rw [← hX, sP_same, kp_lo (by decide)]
      have x0 : X 0 = σ 0 := (xo 0 (by decide)).trans (kp_lo (by decide))
      refine ⟨_, _, hx, out_ok h (Nat.le_refl _) hr (fun o a b => xo o (by omega)) ?_⟩
      refine Gst_set (u := fun j => if j = 768 + k then v else v0 j) h.2.1 (fun o a b => (xo o (by omega)).trans (kp_lo (by omega))) (by rw [x0]) (by rw [x0]) (by rw [x0]) ⟨fun j hj => ?_, ?_, ?_⟩
      · dsimp only
        rw [x1]
        by_cases c : j = k
        · rw [c, pk_us, if_pos rfl]
          exact ⟨rfl, hv⟩
        · rw [pk_un c, if_neg (by omega)]
          exact hS.1 j hj
      · dsimp only
        rw [x0, if_neg (by omega)]
        exact hS.2.1
      · dsimp only
        rw [x0, if_neg (by omega)]
        exact hS.2.2
theorem Sset_pins {v : Nat → Int32} {a b : Int32} (hS : Sset σ v) (ha : wi a (-4) 4 = true) (hb : wi b (-4) 4 = true) : Sset (iK (sPn (kp σ nx) a b)) (fun j => if j = 773 then a else if j = 774 then b else v j) := by
  have x1 : iK (sPn (kp σ nx) a b) 1 = σ 1 := by rw [iK_ne (by decide), sPn_ne (by decide), kp_lo (by decide)]
  have x3 : iK (sPn (kp σ nx) a b) 0 3 = a := by
    rw [iK_ne (by decide)]
    unfold sPn
    rw [sP_same, pk_un (by decide), sP_same, pk_us]
  have x4 : iK (sPn (kp σ nx) a b) 0 4 = b := by
    rw [iK_ne (by decide)]
    unfold sPn
    rw [sP_same, pk_us]
  refine ⟨fun k hk => ?_, ?_, ?_⟩
  · dsimp only
    rw [x1, if_neg (by omega), if_neg (by omega)]
    exact hS.1 k hk
  · dsimp only
    rw [x3, if_pos rfl]
    exact ⟨rfl, ha⟩
  · dsimp only
    rw [x4, if_neg (by decide), if_pos rfl]
    exact ⟨rfl, hb⟩
theorem out_setPins2 (h : IV P nx sz σ) (a b : Int32) (ha : wi a (-4) 4 = true) (hb : wi b (-4) 4 = true) : CN g l yX6_setPins wsX6_setPins 5 111 [.ref 600, .int a, .int b] σ (some (.int (nI (ct (gG (iK (sPn (kp σ nx) a b)) 10 607 14 ((iK (sPn (kp σ nx) a b)) 0 3 + dX (iK (sPn (kp σ nx) a b)) 0) ((iK (sPn (kp σ nx) a b)) 0 4 + dY (iK (sPn (kp σ nx) a b)) 0)))))) (iK (sPn (kp σ nx) a b)) ∧ IV P ((nx + 1) % 5) (min (sz + 1) 5) (iK (sPn (kp σ nx) a b)) ∧ SAG σ (vw (iK (sPn (kp σ nx) a b)) (100 * (nx + 1))) := by
  obtain ⟨v, hS⟩ := h.2.1.2.1
  have hE := Sset_pins (nx := nx) hS ha hb
  have hx := zX6_setPins_ok (g := g) (l := l) nx a b (IV_NX h) (IV_WB h) ha hb (sx_pin hE (by rw [hE.2.1.1]; exact hE.2.1.2))
  refine ⟨hx, IV_act h (Nat.le_refl _) (fun o p q => ?_) ?_⟩
  · rw [iK_ne (by omega), sPn_ne (by omega)]
  · have xo : ∀ o, o ≠ 0 → o ≠ 611 → iK (sPn (kp σ nx) a b) o = kp σ nx o := fun o p q => by rw [iK_ne q, sPn_ne p]
    have x0 : ∀ k, k ≠ 3 → k ≠ 4 → iK (sPn (kp σ nx) a b) 0 k = σ 0 k := fun k p q => by
      rw [iK_ne (by decide)]
      unfold sPn
      rw [sP_same, pk_un q, sP_same, pk_un p, kp_lo (by decide)]
    exact Gst_set h.2.1 (fun o p q => (xo o (by omega) (by omega)).trans (kp_lo (by omega))) (x0 5 (by decide) (by decide)) (x0 8 (by decide) (by decide)) (x0 9 (by decide) (by decide)) hE
theorem out_setPins (h : IV P nx sz σ) (a b : Int32) : ∃ (r : Int32) (τ : aS), CN g l yX6_setPins wsX6_setPins 5 111 [.ref 600, .int a, .int b] σ (some (.int r)) τ ∧ Out P nx sz σ r τ := by
  cases hp : (wi a (-4) 4 && wi b (-4) 4) with
  | false => exact ⟨_, _, zX6_setPins_bad a b hp, out_bad (Or.inl rfl)⟩
  | true =>
    rw [Bool.and_eq_true] at hp
    obtain ⟨h1, h2⟩ := out_setPins2 (g := g) (l := l) h a b hp.1 hp.2
    exact ⟨_, _, h1, Or.inr ⟨isE_nI (by have := ct_le (gG (iK (sPn (kp σ nx) a b)) 10 607 14 ((iK (sPn (kp σ nx) a b)) 0 3 + dX (iK (sPn (kp σ nx) a b)) 0) ((iK (sPn (kp σ nx) a b)) 0 4 + dY (iK (sPn (kp σ nx) a b)) 0)); omega), h2⟩⟩
theorem zo1 : zo 1 := Or.inr rfl
theorem Bg_kp {q : Nat} (h : Bg (vw σ q)) (hq : q + 10 ≤ 40) : Bg (vw (kp σ nx) q) := Bg_cong h (BAG_eq (fun o h5 h10 => vw_eq (kp_lo (by omega))))
theorem out_take (h : IV P nx sz σ) (s : Int32) : ∃ (r : Int32) (τ : aS), CN g l yX6_take wsX6_take 5 111 [.ref 600, .int s] σ (some (.int r)) τ ∧ Out P nx sz σ r τ := by
  cases hs : wi s 0 1 with
  | false => exact ⟨_, _, zX6_take_bad s hs, out_bad (Or.inl rfl)⟩
  | true =>
    have hG := Gst_kp (nx := nx) h.2.1
    have hB := Bg_of hG.1.1
    have z8 := hG.2.2.2.1
    have z9 := hG.2.2.2.2
    rcases wi01 hs with rfl | rfl
    · obtain ⟨t1, t2, t3, t4⟩ := tS_0 (kp σ nx)
      have eo : ∀ o, o ≠ 0 → (o < 20 ∨ 30 ≤ o) → tS (kp σ nx) 0 0 o = kp σ nx o := fun o a b => (t1 o a).trans (bB_ne (by omega))
      have hx := zX6_take_ok (g := g) (l := l) nx 0 (IV_NX h) hs (wR_to hB.1.1 (eo 15 (by decide) (by omega))) (wR_to hB.1.2.1 (eo 16 (by decide) (by omega)))
      obtain ⟨n, hn, e⟩ := nI_2 (p := px (tS (kp σ nx) 0 0) 15) (q := px (tS (kp σ nx) 0 0) 16)
      rw [e] at hx
      refine ⟨_, _, hx, out_ok h (Nat.le_refl _) (isE_nI (by omega)) (fun o a b => eo o (by omega) (by omega)) ?_⟩
      refine Gst_snp hG (fun o a b => eo o (by omega) (by omega)) (fun k a b => t4 k a b) ?_ ?_ (by rw [t2]; exact zo1) (by rw [t3, zo_keep z9 (by decide)]; exact z9)
      · refine Bg_cong hG.1.1 (BAG_t (bB_cp (a := 20) (b := 10) (by omega)) (BAG_eq (fun o h5 h10 => vw_eq ?_)))
        exact t1 _ (by omega)
      · exact Bg_cong hG.1.2.2 (BAG_eq (fun o h5 h10 => vw_eq (eo _ (by omega) (by omega))))
    · obtain ⟨t1, t2, t3, t4⟩ := tS_1 (kp σ nx)
      have eo : ∀ o, o ≠ 0 → (o < 30 ∨ 40 ≤ o) → tS (kp σ nx) 0 1 o = kp σ nx o := fun o a b => (t1 o a).trans (bB_ne (by omega))
      have hx := zX6_take_ok (g := g) (l := l) nx 1 (IV_NX h) hs (wR_to hB.1.1 (eo 15 (by decide) (by omega))) (wR_to hB.1.2.1 (eo 16 (by decide) (by omega)))
      obtain ⟨n, hn, e⟩ := nI_2 (p := px (tS (kp σ nx) 0 1) 15) (q := px (tS (kp σ nx) 0 1) 16)
      rw [e] at hx
      refine ⟨_, _, hx, out_ok h (Nat.le_refl _) (isE_nI (by omega)) (fun o a b => eo o (by omega) (by omega)) ?_⟩
      refine Gst_snp hG (fun o a b => eo o (by omega) (by omega)) (fun k a b => t4 k a b) ?_ ?_ (by rw [t3, zo_keep z8 (by decide)]; exact z8) (by rw [t2]; exact zo1)
      · exact Bg_cong hG.1.2.1 (BAG_eq (fun o h5 h10 => vw_eq (eo _ (by omega) (by omega))))
      · refine Bg_cong hG.1.1 (BAG_t (bB_cp (a := 30) (b := 10) (by omega)) (BAG_eq (fun o h5 h10 => vw_eq ?_)))
        exact t1 _ (by omega)
theorem out_restore (h : IV P nx sz σ) (s : Int32) : ∃ (r : Int32) (τ : aS), CN g l yX6_restore wsX6_restore 5 111 [.ref 600, .int s] σ (some (.int r)) τ ∧ Out P nx sz σ r τ := by
  cases hs : wi s 0 1 with
  | false => exact ⟨_, _, zX6_restore_bad s hs, out_bad (Or.inl rfl)⟩
  | true =>
    by_cases ht : (if s = 0 then σ 0 8 else σ 0 9) = 0
    · exact ⟨_, _, zX6_restore_ill nx s (IV_NX h) hs ht, out_bad (Or.inr (Or.inl rfl))⟩
    · have hG := Gst_kp (nx := nx) h.2.1
      have key : ∀ q : Nat, sb 0 s = q → 20 ≤ q → q + 10 ≤ 40 → Bg (vw (kp σ nx) q) → ∃ (r : Int32) (τ : aS), CN g l yX6_restore wsX6_restore 5 111 [.ref 600, .int s] σ (some (.int r)) τ ∧ Out P nx sz σ r τ := by
        intro q e q1 q2 hq
        have hB : Bg (vw (bB (kp σ nx) 10 q) 10) := Bg_cong hq (bB_cp (a := 10) (b := q) (by omega))
        have hx := zX6_restore_ok (g := g) (l := l) nx s (IV_NX h) hs ht (by rw [e]; exact (Bg_of hB).1.1) (by rw [e]; exact (Bg_of hB).1.2.1)
        obtain ⟨n, hn, en⟩ := nI_2 (p := px (bB (kp σ nx) 10 (sb 0 s)) 15) (q := px (bB (kp σ nx) 10 (sb 0 s)) 16)
        rw [en, e] at hx
        refine ⟨_, _, hx, out_ok h (Nat.le_refl _) (isE_nI (by omega)) (fun o a b => bB_ne (by omega)) ?_⟩
        exact Gst_blk hG hB (fun o ho => bB_ne (by omega))
      by_cases c : s = 0
      · exact key 20 (by unfold sb; rw [if_pos c]) (by decide) (by decide) hG.1.2.1
      · exact key 30 (by unfold sb; rw [if_neg c]) (by decide) (by decide) hG.1.2.2
theorem print_ok {m la : Nat} (h : IV P nx sz σ) (h1 : 1 ≤ m) (h2 : m ≤ 100) (hP : P + m ≤ 5000) (hla : la < 12) (e : σ 2 2 = nI la) : CN g l yX6_print wsX6_print 6 133 [.ref 600, .int (nI m)] σ (some (.int (pG (kp σ nx) la m))) (pS (kp σ nx) la m) ∧ IV (P + m) ((nx + 1) % 5) (min (sz + 1) 5) (pS (kp σ nx) la m) ∧ SAG σ (vw (pS (kp σ nx) la m) (100 * (nx + 1))) := by
  have hG := Gst_kp (nx := nx) h.2.1
  have e2 : kp σ nx 2 2 = nI la := by rw [kp_lo (by decide)]; exact e
  have hw : wi (nI m) 1 100 = true := decide_eq_true ⟨nI_nlt (a := m) (b := 1) h1 (by omega), nI_nlt (a := 100) (b := m) h2 (by decide)⟩
  have hle : σ 0 5 + nI m ≤ 5000 := by
    obtain ⟨pn, _, _, p1, _, _, p4, _⟩ := h.2.1.2.2.1
    rw [p4, nI_add]
    exact nI_le (b := 5000) (by omega) (by decide)
  have I := print_all hG hla e2
  refine ⟨zX6_print_ok nx la m (IV_NX h) h2 hw hle (fun k hk => print_in (I k).1 (by omega) (I k).2.1), IV_act h (by omega) (fun o a b => ?_) (I m).1⟩
  exact pS_ne (by omega) (by omega) (by omega) (by omega) (by omega) (by omega) m
theorem out_print (h : IV P nx sz σ) {m : Nat} (h1 : 1 ≤ m) (h2 : m ≤ 100) (hP : P + m ≤ 5000) : ∃ (r : Int32) (τ : aS), CN g l yX6_print wsX6_print 6 133 [.ref 600, .int (nI m)] σ (some (.int r)) τ ∧ Out (P + m) nx sz σ r τ := by
  obtain ⟨pn, la, ls, p1, p2, p3, p4, p5, p6⟩ := h.2.1.2.2.1
  obtain ⟨a, b⟩ := print_ok (g := g) (l := l) h h1 h2 hP p2 p6
  obtain ⟨n, hn, e⟩ := (print_all (Gst_kp (nx := nx) h.2.1) p2 (show kp σ nx 2 2 = nI la by rw [kp_lo (by decide)]; exact p6) m).2.2
  exact ⟨_, _, a, Or.inr ⟨by rw [e]; exact isE_nI (by omega), b⟩⟩
theorem undo_ok (h : IV P nx (sz + 1) σ) : CN g l yX6_undo wsX6_undo 5 111 [.ref 600] σ (some (.int (nI sz))) (gB_ σ nx) := by
  have I := h.2.2 sz (by omega)
  rw [show (nx + 5 - (sz + 1) + sz) % 5 = (nx + 4) % 5 by have := h.1.2.1; omega] at I
  have hx := zX6_undo_ok (g := g) (l := l) nx h.1.1 h.1.2.2.1 (by rw [h.1.2.2.2]; exact nI_ne0 (by omega) (by have := h.1.2.1; omega)) I.2.2.2.1 I.2.2.2.2
  rw [gB_1 h.1.2.2.2 (by have := h.1.2.1; omega)] at hx
  exact hx
theorem undo_no (h : IV P nx 0 σ) : CN g l yX6_undo wsX6_undo 5 111 [.ref 600] σ (some (.int (-1002))) σ := zX6_undo_ill h.1.2.2.2
/-- undo of whatever there is -/
theorem undo_any (h : IV P nx sz σ) : ∃ (r : Int32) (τ : aS) (nx2 : Nat), CN g l yX6_undo wsX6_undo 5 111 [.ref 600] σ (some (.int r)) τ ∧ IV P nx2 (sz - 1) τ := by
  match sz, h with
  | 0, h => exact ⟨_, _, nx, undo_no h, h⟩
  | n + 1, h => exact ⟨_, _, _, undo_ok h, (IV_undo h).1⟩
end OV
