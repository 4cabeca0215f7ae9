/-! undo, append, clearText -/
theorem duo_undo {g : aG} {l : Launch} {σ : aS} (hR : Rel σ) : Duo g l yX6_undo wsX6_undo 5 111 yX7_undo wsX7_undo 0 0 [] σ := by
  have h0 := hR.1
  obtain ⟨nx, sz, hH⟩ := hR.2.1
  obtain ⟨n, hT⟩ := hR.2.2.1
  have hS := Rel_S hR
  obtain ⟨hB, hE, ⟨pn, hG⟩, hN⟩ := hS
  have hNX : NX σ nx := NX_of hH hN
  have hW := WB_of hB
  have h3 : σ 700 3 = nI sz := hH.2.2.2.2.1
  have hnx := hH.1
  have hsz := hH.2.1
  have hh : σ 1 3 = σ 701 771 := (hE.1 3 (by decide)).1
  cases sz with
  | zero => exact duo_of (zX6_undo_ill hH.2.2.2.1) (zX7_undo_ill h0 h3) rfl hR
  | succ sz =>
    have e1 : σ 601 1 = nI (sz + 1) := hH.2.2.2.1
    have hne : ¬ σ 601 1 = 0 := by rw [e1]; exact nI_ne0 (by omega) (by omega)
    obtain ⟨_, _, _, pN⟩ := hH.2.2.2.2.2 sz (by omega)
    rw [show (nx + 5 - (sz + 1) + sz) % 5 = (nx + 4) % 5 by omega] at pN
    obtain ⟨⟨⟨a1, a2⟩, _⟩, ⟨b1, b2⟩, _⟩ := pN
    have c1 : σ (100 * ((nx + 4) % 5 + 1)) 8 = σ 702 (2374 * sz + 836) := a1
    have c2 : σ (100 * ((nx + 4) % 5 + 1)) 9 = σ 702 (2374 * sz + 1605) := b1
    have hx := zX6_undo_ok (g := g) (l := l) nx hnx hH.2.2.1 hne (by rw [c1]; exact a2) (by rw [c2]; exact b2)
    have xo : ∀ o, 40 ≤ o → o ≠ 601 → gB_ σ nx o = σ o := fun o a b => by
      unfold gB_
      rw [sB_ne (by omega), sP_ne b, sP_ne b]
    have x1 : gB_ σ nx 601 1 = nI sz := by
      unfold gB_
      rw [sB_ne (by omega), sP_same, pk_us, e1]
      exact sz_dn sz (by omega)
    generalize hX : gB_ σ nx = X at hx xo x1
    have hm := zX7_undo_ok (g := g) (l := l) (σ := X) (by rw [xo 700 (by decide) (by decide)]; exact h0) sz (by omega) (by rw [xo 700 (by decide) (by decide)]; exact h3)
    refine duo_of hx hm x1.symm ?_
    have to : ∀ o, o ≠ 701 → o ≠ 700 → unM X sz 2374 o = X o := fun o a b => by
      unfold unM
      rw [sP_ne a, sP_ne b]
    have t0 : ∀ k, unM X sz 2374 700 k = if k = 3 then nI sz else σ 700 k := fun k => by
      unfold unM
      rw [sP_ne (by decide), sP_same, xo 700 (by decide) (by decide)]
      rfl
    have t7 : ∀ k, k < 2374 → unM X sz 2374 701 k = σ 702 (2374 * sz + k) := fun k hk => by
      unfold unM
      rw [sP_same, fb_put_in (by omega) (by omega), Nat.sub_zero, xo 702 (by decide) (by decide)]
    generalize unM X sz 2374 = τ at to t0 t7
    refine ⟨?_, ⟨_, _, Hst_undo hH (fun o a b => ?_) ?_ ?_ ?_⟩, ⟨n, Txt_fr hT ?_ ?_ ?_ ?_⟩, Sst_undo hH (fun o ho => ?_) t7⟩
    · rw [t0]
      exact h0
    · rw [to o (by omega) (by omega), xo o (by omega) (by omega)]
    · rw [to 601 (by decide) (by decide), hX]
    · rw [to 702 (by decide) (by decide), xo 702 (by decide) (by decide)]
    · rw [t0]
      rfl
    · rw [to 603 (by decide) (by decide), xo 603 (by decide) (by decide)]
    · rw [to 604 (by decide) (by decide), xo 604 (by decide) (by decide)]
    · rw [to 703 (by decide) (by decide), xo 703 (by decide) (by decide)]
    · rw [t0]
      rfl
    · rw [to o (by omega) (by omega), hX]
theorem Rel_txt {σ τ : aS} (h : Rel σ) (e : ∀ o, (o < 600 ∨ o = 601 ∨ o = 701 ∨ o = 702) → τ o = σ o) (e0 : τ 700 0 = σ 700 0) (e33 : τ 700 3 = σ 700 3) (hT : ∃ n, Txt τ n) : Rel τ := by
  obtain ⟨h0, ⟨nx, sz, h1, h2, h3, h4, h5, h6⟩, _, hS⟩ := h
  refine ⟨e0.trans h0, ⟨nx, sz, h1, h2, ?_, ?_, e33.trans h5, fun j hj => ?_⟩, hT, Sst_lo hS (fun o ho => e o (by omega)) (e _ (by omega))⟩
  · rw [e 601 (by omega)]
    exact h3
  · rw [e 601 (by omega)]
    exact h4
  · exact Sst_fr (h6 j hj) (fun o a b => e o (by omega)) (fun k _ => by rw [e 702 (by omega)])
theorem duo_append {g : aG} {l : Launch} {σ : aS} (hR : Rel σ) (c : Int32) : Duo g l yX6_append wsX6_append 1 22 yX7_append wsX7_append 1 22 [.int c] σ := by
  have h0 := hR.1
  obtain ⟨nx, sz, hH⟩ := hR.2.1
  obtain ⟨n, hT⟩ := hR.2.2.1
  have hS := Rel_S hR
  obtain ⟨hB, hE, ⟨pn, hG⟩, hN⟩ := hS
  have hNX : NX σ nx := NX_of hH hN
  have hW := WB_of hB
  have h3 : σ 700 3 = nI sz := hH.2.2.2.2.1
  have hnx := hH.1
  have hsz := hH.2.1
  have hh : σ 1 3 = σ 701 771 := (hE.1 3 (by decide)).1
  cases hc : wi c 1 255 with
  | false => exact duo_of (zX6_append_bad c hc) (zX7_append_bad h0 c hc) rfl hR
  | true =>
    obtain ⟨t1, t2, t3, t4⟩ := hT
    by_cases q : n < 140
    · have hx := zX6_append_ok (g := g) (l := l) n c hc q t2
      have xo : ∀ o, o ≠ 603 → o ≠ 604 → aCh σ n c o = σ o := fun o a b => by
        unfold aCh
        rw [sP_ne a, sP_ne b]
      have x3 : aCh σ n c 603 1 = nI (n + 1) := by
        unfold aCh
        rw [sP_same, pk_us]
      have x4 : aCh σ n c 604 = upd (σ 604) n c := by
        unfold aCh
        rw [sP_ne (by decide), sP_same]
      generalize aCh σ n c = X at hx xo x3 x4
      have hm := zX7_append_ok (g := g) (l := l) (σ := X) (by rw [xo 700 (by decide) (by decide)]; exact h0) n c hc q (by rw [xo 700 (by decide) (by decide)]; exact t3)
      refine duo_of hx hm rfl ?_
      have to : ∀ o, o ≠ 700 → o ≠ 703 → apM X n c o = X o := fun o a b => by
        unfold apM
        rw [sP_ne a, sP_ne b]
      have t0 : ∀ k, apM X n c 700 k = if k = 5 then nI (n + 1) else σ 700 k := fun k => by
        unfold apM
        rw [sP_same, sP_ne (by decide), xo 700 (by decide) (by decide)]
        rfl
      have t7 : apM X n c 703 = upd (σ 703) n c := by
        unfold apM
        rw [sP_ne (by decide), sP_same, xo 703 (by decide) (by decide)]
      generalize apM X n c = τ at to t0 t7
      refine Rel_txt hR (fun o ho => ?_) ?_ ?_ ⟨n + 1, by omega, ?_, ?_, fun k hk => ?_⟩
      · rw [to o (by omega) (by omega), xo o (by omega) (by omega)]
      · rw [t0]
        rfl
      · rw [t0]
        rfl
      · rw [to 603 (by decide) (by decide), x3]
      · rw [t0]
        rfl
      · rw [to 604 (by decide) (by decide), x4, t7]
        by_cases e : k = n
        · rw [e, pk_us, pk_us]
        · rw [pk_un e, pk_un e]
          exact t4 k (by omega)
    · have e : n = 140 := by omega
      subst e
      exact duo_of (zX6_append_ill c hc (by rw [t2]; exact nI_nlt (b := 140) (Nat.le_refl _) (by decide))) (zX7_append_ill h0 c hc t3) rfl hR
theorem duo_clearText {g : aG} {l : Launch} {σ : aS} (hR : Rel σ) : Duo g l yX6_clearText wsX6_clearText 1 20 yX7_clearText wsX7_clearText 0 0 [] σ := by
  have h0 := hR.1
  obtain ⟨nx, sz, hH⟩ := hR.2.1
  obtain ⟨n, hT⟩ := hR.2.2.1
  have hS := Rel_S hR
  obtain ⟨hB, hE, ⟨pn, hG⟩, hN⟩ := hS
  have hNX : NX σ nx := NX_of hH hN
  have hW := WB_of hB
  have h3 : σ 700 3 = nI sz := hH.2.2.2.2.1
  have hnx := hH.1
  have hsz := hH.2.1
  have hh : σ 1 3 = σ 701 771 := (hE.1 3 (by decide)).1
  obtain ⟨t1, t2, t3, t4⟩ := hT
  have hx := zX6_clearText (g := g) (l := l) (σ := σ)
  have e7 : sP σ 603 (upd (σ 603) 1 0) 700 = σ 700 := sP_ne (by decide)
  have hm := zX7_clearText (g := g) (l := l) (σ := sP σ 603 (upd (σ 603) 1 0)) (by rw [e7]; exact h0)
  refine duo_of hx hm (by rw [e7, t2, t3]) ?_
  refine Rel_txt hR (fun o ho => ?_) ?_ ?_ ⟨0, by omega, ?_, ?_, fun k hk => absurd hk (Nat.not_lt_zero k)⟩
  · rw [sP_ne (by omega), sP_ne (by omega)]
  · rw [sP_same, e7, pk_un (by decide)]
  · rw [sP_same, e7, pk_un (by decide)]
  · rw [sP_ne (by decide), sP_same, pk_us]
    rfl
  · rw [sP_same, pk_us]
    rfl
/-! cut -/
theorem ctA_lo (s : aS) (q t : Nat) {k : Nat} (hk : k < 192) : ctA s q t 704 k = b2 (decide (s 701 k = 2)) := by
  unfold ctA
  rw [lC_lo _ _ hk, lcV_b, mO_ne (by decide), aX_701]
theorem ctA_hi (s : aS) (q : Nat) {t k : Nat} (ht : t ≤ 4) (hk : k < 192) : ctA s q t 704 (192 + k) = b2 (Gw (s 701) t k) := by
  unfold ctA
  rw [lC_hi _ _ hk, lcC_eq (σ := aX s q) rfl hk ht, aX_701]
theorem ctA_701 (s : aS) (q t : Nat) : ctA s q t 701 = s 701 := by
  unfold ctA
  rw [lC_ne (by decide), mO_ne (by decide), aX_701]
theorem ctA_ne {s : aS} {q t o : Nat} (h : o ≠ 704) (h2 : o ≠ 705) : ctA s q t o = aX s q o := by
  unfold ctA
  rw [lC_ne h, mO_ne h2]
theorem duo_cut {g : aG} {l : Launch} {σ : aS} (hR : Rel σ) (a : Int32) : Duo g l yX6_cut wsX6_cut 5 111 yX7_cut wsX7_cut 5 114 [.int a] σ := by
  have h0 := hR.1
  obtain ⟨nx, sz, hH⟩ := hR.2.1
  obtain ⟨n, hT⟩ := hR.2.2.1
  have hS := Rel_S hR
  obtain ⟨hB, hE, ⟨pn, hG⟩, hN⟩ := hS
  have hNX : NX σ nx := NX_of hH hN
  have hW := WB_of hB
  have h3 : σ 700 3 = nI sz := hH.2.2.2.2.1
  have hnx := hH.1
  have hsz := hH.2.1
  have hh : σ 1 3 = σ 701 771 := (hE.1 3 (by decide)).1
  cases ha : wi a 0 4 with
  | false => exact duo_of (zX6_cut_bad a ha) (zX7_cut_bad h0 a ha) rfl hR
  | true =>
    obtain ⟨t, _, ht, rfl⟩ := wi_nat (lo := 0) (hi := 4) (by decide) (by decide) ha
    have hx := zX6_cut_ok (g := g) (l := l) nx t hNX hW ht
    have hY : Bpic (vw (kp σ nx) 10) (σ 701) := kp_pic hB.1
    -- the blocks that are cut
    generalize hY2 : kp σ nx = Y at hx hY
    have ylo : ∀ o, o < 100 → Y o = σ o := fun o a => by rw [← hY2, kp_lo a]
    have yhi : ∀ o, 602 ≤ o → Y o = σ o := fun o a => by rw [← hY2, kp_hi hnx a]
    obtain ⟨Z, hZ⟩ : ∃ Z, Z = sP (bL Y 17 16) 19 (fa_fill (fun _ => 0) (bL Y 17 16 19) 192) := ⟨_, rfl⟩
    have eX : cAn Y 10 t = cNt Z 18 15 16 t := by rw [hZ]; rfl
    have zo_ : ∀ o, o ≠ 17 → o ≠ 19 → Z o = Y o := fun o a b => by rw [hZ, sP_ne b, bL_ne a]
    have z17 : ∀ y, y < 12 → Z 17 y = Y 16 y := fun y hy => by rw [hZ, sP_ne (by decide), bL_at hy]
    have z19 : ∀ k, k < 192 → Z 19 k = 0 := fun k hk => by rw [hZ, sP_same, fa_fill_in hk]
    have z15 : Z 15 = Y 15 := zo_ 15 (by decide) (by decide)
    have z16 : Z 16 = Y 16 := zo_ 16 (by decide) (by decide)
    have b5 : ∀ k, k < 192 → px Z 15 k = decide (σ 701 k = 1) := fun k hk => by
      have : px Z 15 k = px Y 15 k := by unfold px; rw [z15]
      rw [this]
      exact (hY.2 k hk).1
    have b6 : ∀ k, k < 192 → px Z 16 k = decide (σ 701 k = 2) := fun k hk => by
      have : px Z 16 k = px Y 16 k := by unfold px; rw [z16]
      rw [this]
      exact (hY.2 k hk).2.1
    have w15 : wR Z 15 := wR_to hY.1.1 z15
    have w16 : wR Z 16 := wR_to hY.1.2 z16
    have g18 : ∀ k, k < 192 → px (cNt Z 18 15 16 t) 18 k = Gw (σ 701) t k := fun k hk => grow_px w15 w16 (by decide) (by decide) b5 b6 t k hk
    have w18 : wR (cNt Z 18 15 16 t) 18 := wR_cNt w15 w16 (by decide) t
    have cne : ∀ o, o ≠ 18 → cNt Z 18 15 16 t o = Z o := fun o a => cNt_ne a t
    rw [eX] at hx
    generalize cNt Z 18 15 16 t = X at hx g18 w18 cne
    have xo : ∀ o, o ≠ 17 → o ≠ 18 → o ≠ 19 → X o = Y o := fun o a b c => (cne o b).trans (zo_ o a c)
    have ehi : ∀ o, 700 ≤ o → X o = σ o := fun o ho => (xo o (by omega) (by omega) (by omega)).trans (yhi o (by omega))
    have e0 : X 700 0 = 0 := by rw [ehi 700 (by decide)]; exact h0
    have e3 : X 700 3 = nI sz := by rw [ehi 700 (by decide)]; exact h3
    have hm := zX7_cut_ok (g := g) (l := l) e0 sz t hsz e3 ht
    have to : ∀ o, o ≠ 701 → o ≠ 704 → o ≠ 705 → ctB X sz t o = aX X sz o := fun o a b c => by
      unfold ctB
      rw [sP_ne a, ctA_ne b c]
    have t7 : ctB X sz t 701 = th (ctA X sz t 704) (fun k => ctA X sz t 704 (192 + k)) (σ 701) 192 := by
      unfold ctB
      rw [sP_same, ctA_701, ehi 701 (by decide)]
    have u0 : ∀ k, (k < 192 ∨ 768 ≤ k) → ctB X sz t 701 k = σ 701 k := fun k hk => by
      rw [t7]
      unfold th
      rw [if_neg (by omega), if_neg (by omega), if_neg (by omega)]
    have u1 : ∀ k, k < 192 → ctB X sz t 701 (192 + k) = b2 (decide (σ 701 k = 2)) := fun k hk => by
      rw [t7]
      unfold th
      rw [if_pos (by omega), show 192 + k - 192 = k by omega, ctA_lo _ _ _ hk, ehi 701 (by decide)]
    have u2 : ∀ k, k < 192 → ctB X sz t 701 (384 + k) = 0 := fun k hk => by
      rw [t7]
      unfold th
      rw [if_neg (by omega), if_pos (by omega)]
    have u3 : ∀ k, k < 192 → ctB X sz t 701 (576 + k) = b2 (Gw (σ 701) t k) := fun k hk => by
      rw [t7]
      unfold th
      rw [if_neg (by omega), if_neg (by omega), if_pos (by omega), show 576 + k - 576 = k by omega]
      show ctA X sz t 704 (192 + k) = _
      rw [ctA_hi _ _ ht hk, ehi 701 (by decide)]
    generalize ctB X sz t = τ at hm to u0 u1 u2 u3
    have tlo : ∀ o, o < 700 → τ o = X o := fun o a => (to o (by omega) (by omega) (by omega)).trans (aX_ne (by omega) (by omega))
    refine duo_of hx hm ?_ ?_
    · refine congrArg nI (ct_cong (fun k hk => ?_))
      rw [g18 k hk]
      unfold mN
      rw [u3 k hk, dec_b2]
    · refine Rel_go (s := X) h0 hH hT (Rel_S hR) ehi (fun o a b => ?_) (to 702 (by decide) (by decide) (by decide)) ?_ (fun k _ => by rw [to 700 (by decide) (by decide) (by decide)]) ?_
      · rw [tlo o (by omega), xo o (by omega) (by omega) (by omega), hY2]
      · rw [to 703 (by decide) (by decide) (by decide), aX_ne (by decide) (by decide)]
      · refine Sst_blk (Rel_S hR) ⟨?_, ?_, ?_, ?_⟩ (fun o ho => ?_) (fun k hk _ => u0 k (by omega))
        · refine pic_to hB.1 ?_ ?_ (fun k hk => u0 k (by omega))
          · rw [tlo 15 (by decide), xo 15 (by decide) (by decide) (by decide), ylo 15 (by decide)]
          · rw [tlo 16 (by decide), xo 16 (by decide) (by decide) (by decide), ylo 16 (by decide)]
        · have e17 : ∀ y, y < 12 → τ 17 y = Z 16 y := fun y hy => by rw [tlo 17 (by decide), cne 17 (by decide), z17 y hy, z16]
          refine ⟨fun y hy i hi => ?_, fun k hk => ?_⟩
          · show bt (τ 17 y) i = false
            rw [e17 y hy]
            exact w16 y hy i hi
          · show px τ 17 k = _ ∧ _
            have : px τ 17 k = px Z 16 k := by
              unfold px
              rw [e17 _ (by omega)]
            rw [this, b6 k hk, u1 k hk, dec_b2]
            exact ⟨rfl, b2_zo _⟩
        · intro k hk
          show τ 19 k = _ ∧ _
          rw [tlo 19 (by decide), cne 19 (by decide), z19 k hk, u2 k hk]
          exact ⟨rfl, fun _ => rfl⟩
        · refine ⟨?_, fun k hk => ?_⟩
          · show wR τ 18
            exact wR_to w18 (tlo 18 (by decide))
          · show px τ 18 k = _ ∧ _
            have : px τ 18 k = px X 18 k := by
              unfold px
              rw [tlo 18 (by decide)]
            rw [this, g18 k hk, u3 k hk, dec_b2]
            exact ⟨rfl, b2_zo _⟩
        · rw [tlo o (by omega), xo o (by omega) (by omega) (by omega), ylo o (by omega)]
