/-! set, setPins, take, restore, undo, the text's calls -/
theorem Sst_set {σ τ : aS} {v u : Nat → Int32} (h : Sst σ v) (e : ∀ o, 2 ≤ o → o < 40 → τ o = σ o) (e5 : τ 0 5 = σ 0 5) (e8 : τ 0 8 = σ 0 8) (e9 : τ 0 9 = σ 0 9) (hE : Sset τ u) (ev : ∀ k, (k < 768 ∨ 775 ≤ k) → k < 2374 → u k = v k) : Sst τ u := by
  obtain ⟨h1, _, ⟨pn, h3⟩, h4⟩ := h
  have eB : ∀ q, q + 10 ≤ 40 → BAG (vw σ q) (vw τ q) := fun q h2 => BAG_eq (fun o h5 h10 => vw_eq (e _ (by omega) (by omega)))
  exact ⟨Bvw_cong h1 (eB 10 (by decide)) (fun k hk => ev k (by omega) (by omega)), hE, ⟨pn, Slog_cong h3 e5 ⟨by rw [e 2 (by omega) (by omega)], by rw [e 2 (by omega) (by omega)]⟩ (fun k _ => by rw [e 3 (by omega) (by omega)]) (fun k a b => ev k (by omega) (by omega))⟩, Ssnp_cong h4 (eB 20 (by decide)) (eB 30 (by decide)) e8 e9 (fun k a b => ev k (by omega) b)⟩
theorem wi_out {a : Int32} {N : Nat} (hN : N < 2 ^ 30) (h : wi a 0 (nI N) = false) : a.toInt < 0 ∨ (N : Int) < a.toInt := by
  have h := of_decide_eq_false h
  rw [fa_lt, fa_lt, nI_toInt (by omega), show (0 : Int32).toInt = 0 by decide] at h
  omega
theorem duo_set {g : aG} {l : Launch} {σ : aS} (hR : Rel σ) (a : Int32) (v : Int32) : Duo g l yX6_set wsX6_set 5 111 yX7_set wsX7_set 2 43 [.int a, .int v] σ := by
  have h0 := hR.1
  obtain ⟨nx, sz, hH⟩ := hR.2.1
  obtain ⟨n, hT⟩ := hR.2.2.1
  have hS := Rel_S hR
  obtain ⟨hB, hE, ⟨pn, hG⟩, hN⟩ := hS
  have hNX : NX σ nx := NX_of hH hN
  have hW := WB_of hB
  have h3 : σ 700 3 = nI sz := hH.2.2.2.2.1
  have hnx := hH.1
  have hsz := hH.2.1
  have hh : σ 1 3 = σ 701 771 := (hE.1 3 (by decide)).1
  cases ha : wi a 0 4 with
  | false => exact duo_of (zX6_set_bad a v ha) (zX7_set_bad h0 a v (wi_out (N := 4) (by decide) ha)) rfl hR
  | true =>
    obtain ⟨k, _, hk, rfl⟩ := wi_nat (lo := 0) (hi := 4) (by decide) (by decide) ha
    cases hv : stG k v with
    | false => exact duo_of (zX6_set_bad2 k v (by omega) hv) (zX7_set_bad2 h0 k v (by omega) hv) rfl hR
    | true =>
      have hx := zX6_set_ok (g := g) (l := l) nx k v hNX (by omega) hv
      generalize hX : sP (kp σ nx) 1 (upd (kp σ nx 1) k v) = X at hx
      have xo : ∀ o, o ≠ 1 → X o = kp σ nx o := fun o a => by rw [← hX, sP_ne a]
      have x1 : X 1 = upd (σ 1) k v := by rw [← hX, sP_same, kp_lo (by decide)]
      have ehi : ∀ o, 700 ≤ o → X o = σ o := fun o ho => (xo o (by omega)).trans (kp_hi hnx (by omega))
      have e0 : X 700 0 = 0 := by rw [ehi 700 (by decide)]; exact h0
      have e3 : X 700 3 = nI sz := by rw [ehi 700 (by decide)]; exact h3
      have to : ∀ o, o ≠ 701 → s7 (aX X sz) (768 + k) v o = aX X sz o := fun o a => by rw [s7_ne a]
      have tlo : ∀ o, o < 700 → s7 (aX X sz) (768 + k) v o = X o := fun o a => (to o (by omega)).trans (aX_ne (by omega) (by omega))
      have t7 : ∀ j, s7 (aX X sz) (768 + k) v 701 j = if j = 768 + k then v else σ 701 j := fun j => by
        rw [s7_at, aX_701, ehi 701 (by decide)]
      refine duo_of hx (zX7_set_ok e0 sz k v hsz e3 (by omega) hv) (by rw [ehi 701 (by decide), kp_lo (by decide)]; exact (hE.1 k (by omega)).1.symm) ?_
      generalize s7 (aX X sz) (768 + k) v = τ at to tlo t7
      have ek : ∀ o, o < 100 → o ≠ 1 → τ o = σ o := fun o a b => by rw [tlo o (by omega), xo o b, kp_lo a]
      refine Rel_go (s := X) h0 hH hT (Rel_S hR) ehi (fun o a b => ?_) (to 702 (by decide)) ?_ (fun k _ => by rw [to 700 (by decide)]) ?_
      · rw [tlo o (by omega)]
        exact xo o (by omega)
      · rw [to 703 (by decide), aX_ne (by decide) (by decide)]
      · refine Sst_set (Rel_S hR) (fun o a b => ek o (by omega) (by omega)) (by rw [ek 0 (by decide) (by decide)]) (by rw [ek 0 (by decide) (by decide)]) (by rw [ek 0 (by decide) (by decide)]) ⟨fun j hj => ?_, ?_, ?_⟩ (fun j _ _ => by rw [t7, if_neg (by omega)])
        · rw [tlo 1 (by decide), x1, t7]
          by_cases c : j = k
          · rw [c, pk_us, if_pos rfl]
            exact ⟨rfl, hv⟩
          · rw [pk_un c, if_neg (by omega)]
            exact hE.1 j hj
        · rw [ek 0 (by decide) (by decide), t7, if_neg (by omega)]
          exact hE.2.1
        · rw [ek 0 (by decide) (by decide), t7, if_neg (by omega)]
          exact hE.2.2
theorem sh_eq {s t : aS} (h : Sset s (t 701)) : s 0 3 + dX s 0 = cNX t ∧ s 0 4 + dY s 0 = cNY t := by
  unfold cNX cNY sXM sYM
  rw [(dX_of h).1, (dX_of h).2, h.2.1.1, h.2.2.1]
  exact ⟨rfl, rfl⟩
theorem duo_setPins {g : aG} {l : Launch} {σ : aS} (hR : Rel σ) (a : Int32) (b : Int32) : Duo g l yX6_setPins wsX6_setPins 5 111 yX7_setPins wsX7_setPins 6 137 [.int a, .int b] σ := by
  have h0 := hR.1
  obtain ⟨nx, sz, hH⟩ := hR.2.1
  obtain ⟨n, hT⟩ := hR.2.2.1
  have hS := Rel_S hR
  obtain ⟨hB, hE, ⟨pn, hG⟩, hN⟩ := hS
  have hNX : NX σ nx := NX_of hH hN
  have hW := WB_of hB
  have h3 : σ 700 3 = nI sz := hH.2.2.2.2.1
  have hnx := hH.1
  have hsz := hH.2.1
  have hh : σ 1 3 = σ 701 771 := (hE.1 3 (by decide)).1
  cases ha : (wi a (-4) 4 && wi b (-4) 4) with
  | false => exact duo_of (zX6_setPins_bad a b ha) (zX7_setPins_bad h0 a b ha) rfl hR
  | true =>
    rw [Bool.and_eq_true] at ha
    obtain ⟨ha, hb⟩ := ha
    have xo : ∀ o, o ≠ 0 → sPn (kp σ nx) a b o = kp σ nx o := fun o c => sPn_ne c
    have x0 : ∀ k, sPn (kp σ nx) a b 0 k = if k = 4 then b else if k = 3 then a else σ 0 k := fun k => by
      unfold sPn
      rw [sP_same, sP_same, kp_lo (by decide)]
      rfl
    have hx := fun q => zX6_setPins_ok (g := g) (l := l) nx a b hNX hW ha hb q
    generalize sPn (kp σ nx) a b = X at hx xo x0
    have ehi : ∀ o, 700 ≤ o → iK X o = σ o := fun o ho => (iK_ne (by omega)).trans ((xo o (by omega)).trans (kp_hi hnx (by omega)))
    have e0 : iK X 700 0 = 0 := by rw [ehi 700 (by decide)]; exact h0
    have e3 : iK X 700 3 = nI sz := by rw [ehi 700 (by decide)]; exact h3
    have hm := zX7_setPins_ok (g := g) (l := l) e0 sz a b hsz e3 ha hb
    have to : ∀ o, o ≠ 701 → s7 (s7 (aX (iK X) sz) 773 a) 774 b o = aX (iK X) sz o := fun o a => by rw [s7_ne a, s7_ne a]
    have t7 : ∀ j, s7 (s7 (aX (iK X) sz) 773 a) 774 b 701 j = if j = 774 then b else if j = 773 then a else σ 701 j := fun j => by
      rw [s7_at, s7_at, aX_701, ehi 701 (by decide)]
    generalize s7 (s7 (aX (iK X) sz) 773 a) 774 b = T at hm to t7
    have tlo : ∀ o, o < 700 → T o = iK X o := fun o a => (to o (by omega)).trans (aX_ne (by omega) (by omega))
    have ek : ∀ o, 1 ≤ o → o < 100 → X o = σ o := fun o a b => by rw [xo o (by omega), kp_lo b]
    have hEX : Sset X (T 701) := by
      refine ⟨fun k hk => ?_, ?_, ?_⟩
      · rw [ek 1 (by decide) (by decide), t7, if_neg (show ¬ 768 + k = 774 by omega), if_neg (show ¬ 768 + k = 773 by omega)]
        exact hE.1 k hk
      · rw [x0, t7]
        exact ⟨rfl, ha⟩
      · rw [x0, t7]
        exact ⟨rfl, hb⟩
    have hST : Sst (iK X) (T 701) := by
      refine Sst_set (Rel_S hR) (fun o a b => by rw [iK_ne (by omega), ek o (by omega) (by omega)]) ?_ ?_ ?_ (Sset_iK hEX) (fun j a b => by rw [t7, if_neg (by omega), if_neg (by omega)])
      · rw [iK_ne (by decide), x0]
        rfl
      · rw [iK_ne (by decide), x0]
        rfl
      · rw [iK_ne (by decide), x0]
        rfl
    have hBX : Bvw (vw X 10) (T 701) := Bvw_cong hST.1 (BAG_eq (fun o a b => vw_eq (by rw [iK_ne (by omega)]))) (fun _ _ => rfl)
    obtain ⟨n1, n2⟩ := now_pl hBX (hEX.1 3 (by decide)).1
    obtain ⟨s1, s2⟩ := sh_eq (Sset_iK hEX)
    refine duo_of (hx ?_) hm ?_ ?_
    · rw [(Sset_iK hEX).2.1.1]
      exact sx_pin (Sset_iK hEX) (Sset_iK hEX).2.1.2
    · rw [s1, s2, cNw_8, gG_eq n1 n2]
    · refine Rel_go (s := iK X) h0 hH hT (Rel_S hR) ehi (fun o c d => ?_) ?_ ?_ (fun k hk => ?_) ?_
      · rw [cNw_ne (by omega) (by omega), tlo o (by omega), iK_ne (by omega), xo o (by omega)]
      · rw [cNw_ne (by decide) (by decide), to 702 (by decide)]
      · rw [cNw_ne (by decide) (by decide), to 703 (by decide), aX_ne (by decide) (by decide)]
      · unfold cNw
        rw [kK_o _ _ _ ⟨by omega, by omega, by omega⟩, lY_ne (by decide), to 700 (by decide)]
      · rw [cNw_701]
        exact Sst_0 (Sst_fr (Sst_1 hST) (fun o _ d => by rw [cNw_ne (by omega) (by omega), tlo o (by omega)]) (fun _ _ => rfl))
theorem zo_keep {z : Int32} {P : Prop} [Decidable P] (h : zo z) (hp : P) : (if z = 0 ∧ P then (0 : Int32) else 1) = z := by
  rcases h with rfl | rfl
  · rw [if_pos ⟨rfl, hp⟩]
  · rw [if_neg (fun q => absurd q.1 (by decide))]
theorem tS_0 (s : aS) : (∀ o, o ≠ 0 → tS s 0 0 o = bB s 20 10 o) ∧ tS s 0 0 0 8 = 1 ∧ tS s 0 0 0 9 = (if s 0 9 = 0 ∧ ¬ (0 : Int32) = 1 then 0 else 1) ∧ ∀ k, k ≠ 8 → k ≠ 9 → tS s 0 0 0 k = s 0 k := by
  have e : bB s 20 10 0 = s 0 := bB_ne (by omega)
  have e2 : bB s (sb 0 0) (0 + 10) 0 = s 0 := e
  refine ⟨fun o h => ?_, ?_, ?_, fun k a b => ?_⟩
  · show sP (sP (bB s 20 10) 0 _) 0 _ o = _
    rw [sP_ne h, sP_ne h]
  · show sP (sP (bB s 20 10) 0 (upd (bB s 20 10 0) 8 (if bB s 20 10 0 8 = 0 ∧ ¬ (0 : Int32) = 0 then 0 else 1))) 0 _ 0 8 = 1
    rw [sP_same, pk_un (by decide), sP_same, pk_us, if_neg (fun q => q.2 rfl)]
  · show sP (sP (bB s 20 10) 0 (upd (bB s 20 10 0) 8 (if bB s 20 10 0 8 = 0 ∧ ¬ (0 : Int32) = 0 then 0 else 1))) 0 _ 0 9 = _
    rw [sP_same, pk_us, sP_same, pk_un (by decide), e2]
  · show sP (sP (bB s 20 10) 0 (upd (bB s 20 10 0) 8 (if bB s 20 10 0 8 = 0 ∧ ¬ (0 : Int32) = 0 then 0 else 1))) 0 _ 0 k = _
    rw [sP_same, pk_un b, sP_same, pk_un a, e2]
theorem tS_1 (s : aS) : (∀ o, o ≠ 0 → tS s 0 1 o = bB s 30 10 o) ∧ tS s 0 1 0 9 = 1 ∧ tS s 0 1 0 8 = (if s 0 8 = 0 ∧ ¬ (1 : Int32) = 0 then 0 else 1) ∧ ∀ k, k ≠ 8 → k ≠ 9 → tS s 0 1 0 k = s 0 k := by
  have e : bB s 30 10 0 = s 0 := bB_ne (by omega)
  have e2 : bB s (sb 0 1) (0 + 10) 0 = s 0 := e
  refine ⟨fun o h => ?_, ?_, ?_, fun k a b => ?_⟩
  · show sP (sP (bB s 30 10) 0 _) 0 _ o = _
    rw [sP_ne h, sP_ne h]
  · show sP (sP (bB s 30 10) 0 (upd (bB s 30 10 0) 8 (if bB s 30 10 0 8 = 0 ∧ ¬ (1 : Int32) = 0 then 0 else 1))) 0 (upd (sP (bB s 30 10) 0 (upd (bB s 30 10 0) 8 (if bB s 30 10 0 8 = 0 ∧ ¬ (1 : Int32) = 0 then 0 else 1)) 0) 9 (if sP (bB s 30 10) 0 (upd (bB s 30 10 0) 8 (if bB s 30 10 0 8 = 0 ∧ ¬ (1 : Int32) = 0 then 0 else 1)) 0 9 = 0 ∧ ¬ (1 : Int32) = 1 then 0 else 1)) 0 9 = 1
    rw [sP_same, pk_us]
    exact if_neg (fun q => q.2 rfl)
  · show sP (sP (bB s 30 10) 0 (upd (bB s 30 10 0) 8 (if bB s 30 10 0 8 = 0 ∧ ¬ (1 : Int32) = 0 then 0 else 1))) 0 _ 0 8 = _
    rw [sP_same, pk_un (by decide), sP_same, pk_us, e2]
  · show sP (sP (bB s 30 10) 0 (upd (bB s 30 10 0) 8 (if bB s 30 10 0 8 = 0 ∧ ¬ (1 : Int32) = 0 then 0 else 1))) 0 _ 0 k = _
    rw [sP_same, pk_un b, sP_same, pk_un a, e2]
/-- the state behind a snapshot -/
theorem Sst_take {σ τ : aS} {v u : Nat → Int32} (h : Sst σ v) (e : ∀ o, 1 ≤ o → o < 20 → τ o = σ o) (e3 : τ 0 3 = σ 0 3) (e4 : τ 0 4 = σ 0 4) (e5 : τ 0 5 = σ 0 5) (ev : ∀ k, k < 836 → u k = v k) (hN : Ssnp τ u) : Sst τ u := by
  obtain ⟨h1, h2, ⟨pn, h3⟩, _⟩ := h
  refine ⟨Bvw_cong h1 (BAG_eq (fun o h5 h10 => vw_eq (e _ (by omega) (by omega)))) (fun k hk => ev k (by omega)), Sset_cong h2 (fun k _ => by rw [e 1 (by omega) (by omega)]) e3 e4 (fun k _ b => ev k (by omega)), ⟨pn, Slog_cong h3 e5 ⟨by rw [e 2 (by omega) (by omega)], by rw [e 2 (by omega) (by omega)]⟩ (fun k _ => by rw [e 3 (by omega) (by omega)]) (fun k a b => ev k (by omega))⟩, hN⟩
theorem take_0 {g : aG} {l : Launch} {σ : aS} (hR : Rel σ) : Duo g l yX6_take wsX6_take 5 111 yX7_take wsX7_take 2 44 [.int 0] σ := by
  have h0 := hR.1
  obtain ⟨nx, sz, hH⟩ := hR.2.1
  obtain ⟨n, hT⟩ := hR.2.2.1
  have hS := Rel_S hR
  obtain ⟨hB, hE, ⟨pn, hG⟩, hN⟩ := hS
  have hNX : NX σ nx := NX_of hH hN
  have hW := WB_of hB
  have h3 : σ 700 3 = nI sz := hH.2.2.2.2.1
  have hnx := hH.1
  have hsz := hH.2.1
  have hh : σ 1 3 = σ 701 771 := (hE.1 3 (by decide)).1
  have hx := zX6_take_ok (g := g) (l := l) nx 0 hNX (by decide)
  obtain ⟨xo, x8, x9, xk⟩ := tS_0 (kp σ nx)
  generalize tS (kp σ nx) 0 0 = X at hx xo x8 x9 xk
  have xf : ∀ o, o ≠ 0 → (o < 20 ∨ 30 ≤ o) → X o = kp σ nx o := fun o a b => by rw [xo o a, bB_ne b]
  have ehi : ∀ o, 700 ≤ o → X o = σ o := fun o ho => (xf o (by omega) (by omega)).trans (kp_hi hnx (by omega))
  have e0 : X 700 0 = 0 := by rw [ehi 700 (by decide)]; exact h0
  have e3 : X 700 3 = nI sz := by rw [ehi 700 (by decide)]; exact h3
  have hm := zX7_take_ok (g := g) (l := l) e0 sz 0 hsz e3 (by decide)
  have to : ∀ o, o ≠ 701 → sP (aX X sz) 701 (fb_put (upd (X 701) (836 + 769 * 0) 1) (upd (X 701) (836 + 769 * 0) 1) ((836 + 769 * 0) + 1) 768) o = aX X sz o := fun o a => sP_ne a
  have t7 : sP (aX X sz) 701 (fb_put (upd (X 701) (836 + 769 * 0) 1) (upd (X 701) (836 + 769 * 0) 1) ((836 + 769 * 0) + 1) 768) 701 = fb_put (upd (σ 701) 836 1) (upd (σ 701) 836 1) 837 768 := by
    rw [sP_same, ehi 701 (by decide)]
  generalize sP (aX X sz) 701 (fb_put (upd (X 701) (836 + 769 * 0) 1) (upd (X 701) (836 + 769 * 0) 1) ((836 + 769 * 0) + 1) 768) = τ at hm to t7
  have u0 : ∀ k, (k < 836 ∨ 1605 ≤ k) → τ 701 k = σ 701 k := fun k hk => by rw [t7, fb_put_out (by omega), pk_un (by omega)]
  have u1 : τ 701 836 = 1 := by rw [t7, fb_put_out (by omega), pk_us]
  have u2 : ∀ k, k < 768 → τ 701 (837 + k) = σ 701 k := fun k hk => by rw [t7, fb_put_in (by omega) (by omega), show 837 + k - 837 = k by omega, pk_un (by omega)]
  have tlo : ∀ o, o < 700 → τ o = X o := fun o a => (to o (by omega)).trans (aX_ne (by omega) (by omega))
  have hpX : Bpic (vw X 10) (τ 701) := by
    refine pic_to hB.1 ?_ ?_ (fun k hk => u0 k (by omega))
    · rw [xf 15 (by decide) (by decide), kp_lo (by decide)]
    · rw [xf 16 (by decide) (by decide), kp_lo (by decide)]
  refine duo_of (hx hpX.1.1 hpX.1.2) hm (ct_white hpX).1.symm ?_
  refine Rel_go (s := X) h0 hH hT (Rel_S hR) ehi (fun o a b => ?_) (to 702 (by decide)) ?_ (fun k _ => by rw [to 700 (by decide)]) ?_
  · rw [tlo o (by omega), xf o (by omega) (by omega)]
  · rw [to 703 (by decide), aX_ne (by decide) (by decide)]
  · refine Sst_take (Rel_S hR) (fun o a b => ?_) ?_ ?_ ?_ (fun k hk => u0 k (by omega)) ?_
    · rw [tlo o (by omega), xf o (by omega) (by omega), kp_lo (by omega)]
    · rw [tlo 0 (by decide), xk 3 (by decide) (by decide), kp_lo (by decide)]
    · rw [tlo 0 (by decide), xk 4 (by decide) (by decide), kp_lo (by decide)]
    · rw [tlo 0 (by decide), xk 5 (by decide) (by decide), kp_lo (by decide)]
    · exact ⟨⟨(by rw [tlo 0 (by decide), x8, u1]; exact ⟨rfl, Or.inr rfl⟩), Bvw_cong (w := σ 701) hB (BAG_t (BAG_t (BAG_eq (f := vw σ 10) (g := vw (kp σ nx) 10) (fun o a b => vw_eq (by rw [kp_lo (by omega)]))) (bB_cp (σ := kp σ nx) (a := 20) (b := 10) (by omega))) (BAG_eq (fun o a b => vw_eq (by rw [tlo _ (by omega), xo _ (by omega)])))) u2⟩, (by rw [tlo 0 (by decide), x9, kp_lo (by decide), hN.2.1.1, zo_keep hN.2.1.2 (by decide), u0 1605 (by omega)]; exact ⟨rfl, hN.2.1.2⟩), Bvw_cong hN.2.2 (BAG_eq (fun o a b => vw_eq (by rw [tlo _ (by omega), xf _ (by omega) (by omega), kp_lo (by omega)]))) (fun k hk => u0 _ (by omega))⟩
theorem take_1 {g : aG} {l : Launch} {σ : aS} (hR : Rel σ) : Duo g l yX6_take wsX6_take 5 111 yX7_take wsX7_take 2 44 [.int 1] σ := by
  have h0 := hR.1
  obtain ⟨nx, sz, hH⟩ := hR.2.1
  obtain ⟨n, hT⟩ := hR.2.2.1
  have hS := Rel_S hR
  obtain ⟨hB, hE, ⟨pn, hG⟩, hN⟩ := hS
  have hNX : NX σ nx := NX_of hH hN
  have hW := WB_of hB
  have h3 : σ 700 3 = nI sz := hH.2.2.2.2.1
  have hnx := hH.1
  have hsz := hH.2.1
  have hh : σ 1 3 = σ 701 771 := (hE.1 3 (by decide)).1
  have hx := zX6_take_ok (g := g) (l := l) nx 1 hNX (by decide)
  obtain ⟨xo, x8, x9, xk⟩ := tS_1 (kp σ nx)
  generalize tS (kp σ nx) 0 1 = X at hx xo x8 x9 xk
  have xf : ∀ o, o ≠ 0 → (o < 30 ∨ 40 ≤ o) → X o = kp σ nx o := fun o a b => by rw [xo o a, bB_ne b]
  have ehi : ∀ o, 700 ≤ o → X o = σ o := fun o ho => (xf o (by omega) (by omega)).trans (kp_hi hnx (by omega))
  have e0 : X 700 0 = 0 := by rw [ehi 700 (by decide)]; exact h0
  have e3 : X 700 3 = nI sz := by rw [ehi 700 (by decide)]; exact h3
  have hm := zX7_take_ok (g := g) (l := l) e0 sz 1 hsz e3 (by decide)
  have to : ∀ o, o ≠ 701 → sP (aX X sz) 701 (fb_put (upd (X 701) (836 + 769 * 1) 1) (upd (X 701) (836 + 769 * 1) 1) ((836 + 769 * 1) + 1) 768) o = aX X sz o := fun o a => sP_ne a
  have t7 : sP (aX X sz) 701 (fb_put (upd (X 701) (836 + 769 * 1) 1) (upd (X 701) (836 + 769 * 1) 1) ((836 + 769 * 1) + 1) 768) 701 = fb_put (upd (σ 701) 1605 1) (upd (σ 701) 1605 1) 1606 768 := by
    rw [sP_same, ehi 701 (by decide)]
  generalize sP (aX X sz) 701 (fb_put (upd (X 701) (836 + 769 * 1) 1) (upd (X 701) (836 + 769 * 1) 1) ((836 + 769 * 1) + 1) 768) = τ at hm to t7
  have u0 : ∀ k, (k < 1605 ∨ 2374 ≤ k) → τ 701 k = σ 701 k := fun k hk => by rw [t7, fb_put_out (by omega), pk_un (by omega)]
  have u1 : τ 701 1605 = 1 := by rw [t7, fb_put_out (by omega), pk_us]
  have u2 : ∀ k, k < 768 → τ 701 (1606 + k) = σ 701 k := fun k hk => by rw [t7, fb_put_in (by omega) (by omega), show 1606 + k - 1606 = k by omega, pk_un (by omega)]
  have tlo : ∀ o, o < 700 → τ o = X o := fun o a => (to o (by omega)).trans (aX_ne (by omega) (by omega))
  have hpX : Bpic (vw X 10) (τ 701) := by
    refine pic_to hB.1 ?_ ?_ (fun k hk => u0 k (by omega))
    · rw [xf 15 (by decide) (by decide), kp_lo (by decide)]
    · rw [xf 16 (by decide) (by decide), kp_lo (by decide)]
  refine duo_of (hx hpX.1.1 hpX.1.2) hm (ct_white hpX).1.symm ?_
  refine Rel_go (s := X) h0 hH hT (Rel_S hR) ehi (fun o a b => ?_) (to 702 (by decide)) ?_ (fun k _ => by rw [to 700 (by decide)]) ?_
  · rw [tlo o (by omega), xf o (by omega) (by omega)]
  · rw [to 703 (by decide), aX_ne (by decide) (by decide)]
  · refine Sst_take (Rel_S hR) (fun o a b => ?_) ?_ ?_ ?_ (fun k hk => u0 k (by omega)) ?_
    · rw [tlo o (by omega), xf o (by omega) (by omega), kp_lo (by omega)]
    · rw [tlo 0 (by decide), xk 3 (by decide) (by decide), kp_lo (by decide)]
    · rw [tlo 0 (by decide), xk 4 (by decide) (by decide), kp_lo (by decide)]
    · rw [tlo 0 (by decide), xk 5 (by decide) (by decide), kp_lo (by decide)]
    · exact ⟨⟨(by rw [tlo 0 (by decide), x9, kp_lo (by decide), hN.1.1.1, zo_keep hN.1.1.2 (by decide), u0 836 (by omega)]; exact ⟨rfl, hN.1.1.2⟩), Bvw_cong hN.1.2 (BAG_eq (fun o a b => vw_eq (by rw [tlo _ (by omega), xf _ (by omega) (by omega), kp_lo (by omega)]))) (fun k hk => u0 _ (by omega))⟩, (by rw [tlo 0 (by decide), x8, u1]; exact ⟨rfl, Or.inr rfl⟩), Bvw_cong (w := σ 701) hB (BAG_t (BAG_t (BAG_eq (f := vw σ 10) (g := vw (kp σ nx) 10) (fun o a b => vw_eq (by rw [kp_lo (by omega)]))) (bB_cp (σ := kp σ nx) (a := 30) (b := 10) (by omega))) (BAG_eq (fun o a b => vw_eq (by rw [tlo _ (by omega), xo _ (by omega)])))) u2⟩
theorem duo_take {g : aG} {l : Launch} {σ : aS} (hR : Rel σ) (s : Int32) : Duo g l yX6_take wsX6_take 5 111 yX7_take wsX7_take 2 44 [.int s] σ := by
  cases hp : wi s 0 1 with
  | false => exact duo_of (zX6_take_bad s hp) (zX7_take_bad hR.1 s hp) rfl hR
  | true =>
    rcases wi01 hp with rfl | rfl
    · exact take_0 hR
    · exact take_1 hR
theorem restore_0 {g : aG} {l : Launch} {σ : aS} (hR : Rel σ) : Duo g l yX6_restore wsX6_restore 5 111 yX7_restore wsX7_restore 2 44 [.int 0] σ := by
  have h0 := hR.1
  obtain ⟨nx, sz, hH⟩ := hR.2.1
  obtain ⟨n, hT⟩ := hR.2.2.1
  have hS := Rel_S hR
  obtain ⟨hB, hE, ⟨pn, hG⟩, hN⟩ := hS
  have hNX : NX σ nx := NX_of hH hN
  have hW := WB_of hB
  have h3 : σ 700 3 = nI sz := hH.2.2.2.2.1
  have hnx := hH.1
  have hsz := hH.2.1
  have hh : σ 1 3 = σ 701 771 := (hE.1 3 (by decide)).1
  have e8 : σ 0 8 = σ 701 836 := hN.1.1.1
  by_cases ht : σ 701 836 = 0
  · exact duo_of (zX6_restore_ill nx 0 hNX (by decide) (e8.trans ht)) (zX7_restore_ill h0 0 (by decide) ht) rfl hR
  · have hx := zX6_restore_ok (g := g) (l := l) nx 0 hNX (by decide) (fun q => ht (e8.symm.trans q))
    have hcp : BAG (vw (kp σ nx) 20) (vw (bB (kp σ nx) 10 (sb 0 0)) 10) := bB_cp (by decide)
    have xf : ∀ o, (o < 10 ∨ 20 ≤ o) → bB (kp σ nx) 10 (sb 0 0) o = kp σ nx o := fun o b => bB_ne b
    generalize bB (kp σ nx) 10 (sb 0 0) = X at hx hcp xf
    have ehi : ∀ o, 700 ≤ o → X o = σ o := fun o ho => (xf o (by omega)).trans (kp_hi hnx (by omega))
    have e0 : X 700 0 = 0 := by rw [ehi 700 (by decide)]; exact h0
    have e3 : X 700 3 = nI sz := by rw [ehi 700 (by decide)]; exact h3
    have hm := zX7_restore_ok (g := g) (l := l) e0 sz 0 hsz e3 (by decide) (by rw [ehi 701 (by decide)]; exact ht)
    have to : ∀ o, o ≠ 701 → sP (aX X sz) 701 (fb_put (X 701) (fun j => X 701 ((836 + 769 * 0) + 1 + j)) 0 768) o = aX X sz o := fun o a => sP_ne a
    have t7 : sP (aX X sz) 701 (fb_put (X 701) (fun j => X 701 ((836 + 769 * 0) + 1 + j)) 0 768) 701 = fb_put (σ 701) (fun j => σ 701 (837 + j)) 0 768 := by
      rw [sP_same, ehi 701 (by decide)]
    generalize sP (aX X sz) 701 (fb_put (X 701) (fun j => X 701 ((836 + 769 * 0) + 1 + j)) 0 768) = τ at hm to t7
    have u0 : ∀ k, 768 ≤ k → τ 701 k = σ 701 k := fun k hk => by rw [t7, fb_put_out (by omega)]
    have u2 : ∀ k, k < 768 → τ 701 k = σ 701 (837 + k) := fun k hk => by rw [t7, fb_put_in (by omega) (by omega), Nat.sub_zero]
    have tlo : ∀ o, o < 700 → τ o = X o := fun o a => (to o (by omega)).trans (aX_ne (by omega) (by omega))
    have hBX : Bvw (vw X 10) (τ 701) := Bvw_cong hN.1.2 (BAG_t (BAG_eq (f := vw σ 20) (g := vw (kp σ nx) 20) (fun o a b => vw_eq (by rw [kp_lo (by omega)]))) hcp) u2
    refine duo_of (hx hBX.1.1.1 hBX.1.1.2) hm (ct_white hBX.1).1.symm ?_
    refine Rel_go (s := X) h0 hH hT (Rel_S hR) ehi (fun o a b => ?_) (to 702 (by decide)) ?_ (fun k _ => by rw [to 700 (by decide)]) ?_
    · rw [tlo o (by omega), xf o (by omega)]
    · rw [to 703 (by decide), aX_ne (by decide) (by decide)]
    · refine Sst_blk (Rel_S hR) (Bvw_cong hBX (BAG_eq (fun o a b => vw_eq (by rw [tlo _ (by omega)]))) (fun _ _ => rfl)) (fun o ho => ?_) (fun k hk _ => u0 k hk)
      rw [tlo o (by omega), xf o (by omega), kp_lo (by omega)]
theorem restore_1 {g : aG} {l : Launch} {σ : aS} (hR : Rel σ) : Duo g l yX6_restore wsX6_restore 5 111 yX7_restore wsX7_restore 2 44 [.int 1] σ := by
  have h0 := hR.1
  obtain ⟨nx, sz, hH⟩ := hR.2.1
  obtain ⟨n, hT⟩ := hR.2.2.1
  have hS := Rel_S hR
  obtain ⟨hB, hE, ⟨pn, hG⟩, hN⟩ := hS
  have hNX : NX σ nx := NX_of hH hN
  have hW := WB_of hB
  have h3 : σ 700 3 = nI sz := hH.2.2.2.2.1
  have hnx := hH.1
  have hsz := hH.2.1
  have hh : σ 1 3 = σ 701 771 := (hE.1 3 (by decide)).1
  have e8 : σ 0 9 = σ 701 1605 := hN.2.1.1
  by_cases ht : σ 701 1605 = 0
  · exact duo_of (zX6_restore_ill nx 1 hNX (by decide) (e8.trans ht)) (zX7_restore_ill h0 1 (by decide) ht) rfl hR
  · have hx := zX6_restore_ok (g := g) (l := l) nx 1 hNX (by decide) (fun q => ht (e8.symm.trans q))
    have hcp : BAG (vw (kp σ nx) 30) (vw (bB (kp σ nx) 10 (sb 0 1)) 10) := bB_cp (by decide)
    have xf : ∀ o, (o < 10 ∨ 20 ≤ o) → bB (kp σ nx) 10 (sb 0 1) o = kp σ nx o := fun o b => bB_ne b
    generalize bB (kp σ nx) 10 (sb 0 1) = X at hx hcp xf
    have ehi : ∀ o, 700 ≤ o → X o = σ o := fun o ho => (xf o (by omega)).trans (kp_hi hnx (by omega))
    have e0 : X 700 0 = 0 := by rw [ehi 700 (by decide)]; exact h0
    have e3 : X 700 3 = nI sz := by rw [ehi 700 (by decide)]; exact h3
    have hm := zX7_restore_ok (g := g) (l := l) e0 sz 1 hsz e3 (by decide) (by rw [ehi 701 (by decide)]; exact ht)
    have to : ∀ o, o ≠ 701 → sP (aX X sz) 701 (fb_put (X 701) (fun j => X 701 ((836 + 769 * 1) + 1 + j)) 0 768) o = aX X sz o := fun o a => sP_ne a
    have t7 : sP (aX X sz) 701 (fb_put (X 701) (fun j => X 701 ((836 + 769 * 1) + 1 + j)) 0 768) 701 = fb_put (σ 701) (fun j => σ 701 (1606 + j)) 0 768 := by
      rw [sP_same, ehi 701 (by decide)]
    generalize sP (aX X sz) 701 (fb_put (X 701) (fun j => X 701 ((836 + 769 * 1) + 1 + j)) 0 768) = τ at hm to t7
    have u0 : ∀ k, 768 ≤ k → τ 701 k = σ 701 k := fun k hk => by rw [t7, fb_put_out (by omega)]
    have u2 : ∀ k, k < 768 → τ 701 k = σ 701 (1606 + k) := fun k hk => by rw [t7, fb_put_in (by omega) (by omega), Nat.sub_zero]
    have tlo : ∀ o, o < 700 → τ o = X o := fun o a => (to o (by omega)).trans (aX_ne (by omega) (by omega))
    have hBX : Bvw (vw X 10) (τ 701) := Bvw_cong hN.2.2 (BAG_t (BAG_eq (f := vw σ 30) (g := vw (kp σ nx) 30) (fun o a b => vw_eq (by rw [kp_lo (by omega)]))) hcp) u2
    refine duo_of (hx hBX.1.1.1 hBX.1.1.2) hm (ct_white hBX.1).1.symm ?_
    refine Rel_go (s := X) h0 hH hT (Rel_S hR) ehi (fun o a b => ?_) (to 702 (by decide)) ?_ (fun k _ => by rw [to 700 (by decide)]) ?_
    · rw [tlo o (by omega), xf o (by omega)]
    · rw [to 703 (by decide), aX_ne (by decide) (by decide)]
    · refine Sst_blk (Rel_S hR) (Bvw_cong hBX (BAG_eq (fun o a b => vw_eq (by rw [tlo _ (by omega)]))) (fun _ _ => rfl)) (fun o ho => ?_) (fun k hk _ => u0 k hk)
      rw [tlo o (by omega), xf o (by omega), kp_lo (by omega)]
theorem duo_restore {g : aG} {l : Launch} {σ : aS} (hR : Rel σ) (s : Int32) : Duo g l yX6_restore wsX6_restore 5 111 yX7_restore wsX7_restore 2 44 [.int s] σ := by
  cases hp : wi s 0 1 with
  | false => exact duo_of (zX6_restore_bad s hp) (zX7_restore_bad hR.1 s hp) rfl hR
  | true =>
    rcases wi01 hp with rfl | rfl
    · exact restore_0 hR
    · exact restore_1 hR
