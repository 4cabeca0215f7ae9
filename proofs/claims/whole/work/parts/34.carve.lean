/-! carve, plug, set, setPins, cut -/
theorem s7_k {σ : aS} {k j : Nat} {v : Int32} (h : j ≠ k) : s7 σ k v 701 j = σ 701 j := by rw [s7_at, if_neg h]
theorem s7_v {σ : aS} {k : Nat} {v : Int32} : s7 σ k v 701 k = v := by rw [s7_at, if_pos rfl]
theorem wi01 {z : Int32} (h : wi z 0 1 = true) : zo z := by
  obtain ⟨m, _, hm, rfl⟩ := wi_nat (lo := 0) (hi := 1) (by decide) (by decide) h
  match m, hm with
  | 0, _ => exact Or.inl rfl
  | 1, _ => exact Or.inr rfl
theorem zo_is {z : Int32} (h : zo z) : decide (¬ (if z = 1 then (1 : Int32) else 0) = 0) = decide (z = 1) := if10 (z = 1)
theorem cW_at {s : aS} {b x y : Nat} (hx : x < 16) (hy : y < 12) : cW s b (nI x) (nI y) = sP s (b + 9) (upd (s (b + 9)) (16 * y + x) 0) := by
  unfold cW
  rw [if_pos (pl_nI hx hy), ixN, cl_nI (by omega)]
theorem pic_to {σ τ : aS} {v u : Nat → Int32} (h : Bpic (vw σ 10) v) (e5 : τ 15 = σ 15) (e6 : τ 16 = σ 16) (ev : ∀ k, k < 192 → u k = v k) : Bpic (vw τ 10) u :=
  Bpic_cong h (fun y _ => by show τ 15 y = σ 15 y; rw [e5]) (fun y _ => by show τ 16 y = σ 16 y; rw [e6]) ev
theorem lin_to {σ τ : aS} {v u : Nat → Int32} (h : Blin (vw σ 10) v) (e : τ 17 = σ 17) (ev : ∀ k, k < 192 → u (192 + k) = v (192 + k)) : Blin (vw τ 10) u :=
  Blin_cong h (fun y _ => by show τ 17 y = σ 17 y; rw [e]) ev
theorem wer_to {σ τ : aS} {v u : Nat → Int32} (h : Bwer (vw σ 10) v) (e : τ 19 = σ 19) (ev : ∀ k, k < 192 → u (192 + k) = v (192 + k)) (ew : ∀ k, k < 192 → u (384 + k) = v (384 + k)) : Bwer (vw τ 10) u :=
  Bwer_cong h (fun y _ => by show τ 19 y = σ 19 y; rw [e]) ev ew
theorem col_to {σ τ : aS} {v u : Nat → Int32} (h : Bcol (vw σ 10) v) (e : τ 18 = σ 18) (ev : ∀ k, k < 192 → u (576 + k) = v (576 + k)) : Bcol (vw τ 10) u :=
  Bcol_cong h (fun y _ => by show τ 18 y = σ 18 y; rw [e]) ev
theorem duo_carve {g : aG} {l : Launch} {σ : aS} (hR : Rel σ) (b : Int32) (x : Int32) (y : Int32) (z : Int32) : Duo g l yX6_carve wsX6_carve 5 111 yX7_carve wsX7_carve 2 43 [.int b, .int x, .int y, .int z] σ := by
  have h0 := hR.1
  obtain ⟨nx, sz, hH⟩ := hR.2.1
  obtain ⟨n, hT⟩ := hR.2.2.1
  have hS := Rel_S hR
  obtain ⟨hB, hE, ⟨pn, hG⟩, hN⟩ := hS
  have hNX : NX σ nx := NX_of hH hN
  have hW := WB_of hB
  have h3 : σ 700 3 = nI sz := hH.2.2.2.2.1
  have hnx := hH.1
  have hsz := hH.2.1
  have hh : σ 1 3 = σ 701 771 := (hE.1 3 (by decide)).1
  cases hp : (wi b 0 1 && (pl x y && wi z 0 1)) with
  | false => exact duo_of (zX6_carve_bad b x y z hp) (zX7_carve_bad h0 b x y z hp) rfl hR
  | true =>
    rw [Bool.and_eq_true, Bool.and_eq_true] at hp
    obtain ⟨q1, q2, hz⟩ := hp
    have zz := wi01 hz
    obtain ⟨i, j, hi, hj, rfl, rfl⟩ := pl_in q2
    have hk : 16 * j + i < 192 := by omega
    rcases wi01 q1 with rfl | rfl
    · have hx := zX6_carve_0 (g := g) (l := l) nx (nI i) (nI j) z hNX q2 hz
      generalize hX : cW (pt (kp σ nx) 17 (nI i) (nI j) (if z = 1 then 1 else 0)) 10 (nI i) (nI j) = X at hx
      have x17 : X 17 = pt (kp σ nx) 17 (nI i) (nI j) (if z = 1 then 1 else 0) 17 := by rw [← hX, cW_ne (by decide)]
      have x19 : X 19 = upd (σ 19) (16 * j + i) 0 := by
        rw [← hX, cW_at hi hj, sP_same, pt_ne (by decide), kp_lo (by decide)]
      have xo : ∀ o, o ≠ 17 → o ≠ 19 → X o = kp σ nx o := fun o a b => by rw [← hX, cW_ne b, pt_ne a]
      have ehi : ∀ o, 700 ≤ o → X o = σ o := fun o ho => (xo o (by omega) (by omega)).trans (kp_hi hnx (by omega))
      have e0 : X 700 0 = 0 := by rw [ehi 700 (by decide)]; exact h0
      have e3 : X 700 3 = nI sz := by rw [ehi 700 (by decide)]; exact h3
      refine duo_of hx (zX7_carve_0 e0 sz i j z hsz e3 hi hj hz) ?_ ?_
      · rw [on_b2, hs_nI _ _ hi hj, ehi 701 (by decide)]
        have p : px (kp σ nx) 17 (16 * j + i) = px σ 17 (16 * j + i) := by
          unfold px
          rw [kp_lo (by decide)]
        rw [p, show px σ 17 (16 * j + i) = decide (σ 701 (192 + (16 * j + i)) = 1) from (hB.2.1.2 _ hk).1]
        exact (zo_b2 (hB.2.1.2 _ hk).2).symm
      · have to : ∀ o, o ≠ 701 → s7 (s7 (aX X sz) (192 + (16 * j + i)) z) (384 + (16 * j + i)) 0 o = aX X sz o := fun o a => by rw [s7_ne a, s7_ne a]
        have tlo : ∀ o, o < 700 → s7 (s7 (aX X sz) (192 + (16 * j + i)) z) (384 + (16 * j + i)) 0 o = X o := fun o a => (to o (by omega)).trans (aX_ne (by omega) (by omega))
        have t7 : ∀ k, s7 (s7 (aX X sz) (192 + (16 * j + i)) z) (384 + (16 * j + i)) 0 701 k = if k = 384 + (16 * j + i) then 0 else if k = 192 + (16 * j + i) then z else σ 701 k := fun k => by
          rw [s7_at, s7_at, aX_701, ehi 701 (by decide)]
        generalize s7 (s7 (aX X sz) (192 + (16 * j + i)) z) (384 + (16 * j + i)) 0 = τ at to tlo t7
        refine Rel_go (s := X) h0 hH hT (Rel_S hR) ehi (fun o a b => ?_) (to 702 (by decide)) ?_ (fun k _ => by rw [to 700 (by decide)]) ?_
        · rw [tlo o (by omega)]
          exact xo o (by omega) (by omega)
        · rw [to 703 (by decide), aX_ne (by decide) (by decide)]
        · refine Sst_blk (Rel_S hR) ⟨?_, ?_, ?_, ?_⟩ (fun o ho => ?_) (fun k hk _ => ?_)
          · refine pic_to hB.1 ?_ ?_ (fun k hk => by rw [t7, if_neg (by omega), if_neg (by omega)])
            · rw [tlo 15 (by decide), xo 15 (by decide) (by decide), kp_lo (by decide)]
            · rw [tlo 16 (by decide), xo 16 (by decide) (by decide), kp_lo (by decide)]
          · have w17 : wR (kp σ nx) 17 := wR_to hW.2.2.1 (kp_lo (by decide))
            refine ⟨?_, fun k hk => ?_⟩
            · show wR τ 17
              exact wR_to (pt_wR hi hj _ w17) (by rw [tlo 17 (by decide), x17])
            · show px τ 17 k = _ ∧ _
              have e : px τ 17 k = px (pt (kp σ nx) 17 (nI i) (nI j) (if z = 1 then 1 else 0)) 17 k := by
                unfold px
                rw [tlo 17 (by decide), x17]
              rw [e, pt_px hi hj, zo_is zz, t7, if_neg (show ¬ 192 + k = 384 + (16 * j + i) by omega)]
              by_cases c : k = 16 * j + i
              · rw [if_pos c, if_pos (by omega)]
                exact ⟨rfl, zz⟩
              · rw [if_neg c, if_neg (by omega)]
                have p : px (kp σ nx) 17 k = px σ 17 k := by
                  unfold px
                  rw [kp_lo (by decide)]
                rw [p]
                exact hB.2.1.2 k hk
          · intro k hk
            show τ 19 k = _ ∧ _
            rw [tlo 19 (by decide), x19, t7, t7]
            by_cases c : k = 16 * j + i
            · rw [c, pk_us, if_pos rfl]
              exact ⟨rfl, fun _ => rfl⟩
            · rw [pk_un c, if_neg (by omega), if_neg (by omega), if_neg (by omega), if_neg (by omega)]
              exact hB.2.2.1 k hk
          · refine col_to hB.2.2.2 ?_ (fun k hk => by rw [t7, if_neg (by omega), if_neg (by omega)])
            rw [tlo 18 (by decide), xo 18 (by decide) (by decide), kp_lo (by decide)]
          · rw [tlo o (by omega), xo o (by omega) (by omega), kp_lo (by omega)]
          · rw [t7, if_neg (by omega), if_neg (by omega)]
    · have hx := zX6_carve_1 (g := g) (l := l) nx (nI i) (nI j) z hNX q2 hz
      generalize hX : pt (kp σ nx) 18 (nI i) (nI j) (if z = 1 then 1 else 0) = X at hx
      have xo : ∀ o, o ≠ 18 → X o = kp σ nx o := fun o a => by rw [← hX, pt_ne a]
      have ehi : ∀ o, 700 ≤ o → X o = σ o := fun o ho => (xo o (by omega)).trans (kp_hi hnx (by omega))
      have e0 : X 700 0 = 0 := by rw [ehi 700 (by decide)]; exact h0
      have e3 : X 700 3 = nI sz := by rw [ehi 700 (by decide)]; exact h3
      refine duo_of hx (zX7_carve_1 e0 sz i j z hsz e3 hi hj hz) ?_ ?_
      · rw [on_b2, hs_nI _ _ hi hj, ehi 701 (by decide)]
        have p : px (kp σ nx) 18 (16 * j + i) = px σ 18 (16 * j + i) := by
          unfold px
          rw [kp_lo (by decide)]
        rw [p, show px σ 18 (16 * j + i) = decide (σ 701 (576 + (16 * j + i)) = 1) from (hB.2.2.2.2 _ hk).1]
        exact (zo_b2 (hB.2.2.2.2 _ hk).2).symm
      · have to : ∀ o, o ≠ 701 → s7 (aX X sz) (576 + (16 * j + i)) z o = aX X sz o := fun o a => by rw [s7_ne a]
        have tlo : ∀ o, o < 700 → s7 (aX X sz) (576 + (16 * j + i)) z o = X o := fun o a => (to o (by omega)).trans (aX_ne (by omega) (by omega))
        have t7 : ∀ k, s7 (aX X sz) (576 + (16 * j + i)) z 701 k = if k = 576 + (16 * j + i) then z else σ 701 k := fun k => by
          rw [s7_at, aX_701, ehi 701 (by decide)]
        generalize s7 (aX X sz) (576 + (16 * j + i)) z = τ at to tlo t7
        refine Rel_go (s := X) h0 hH hT (Rel_S hR) ehi (fun o a b => ?_) (to 702 (by decide)) ?_ (fun k _ => by rw [to 700 (by decide)]) ?_
        · rw [tlo o (by omega)]
          exact xo o (by omega)
        · rw [to 703 (by decide), aX_ne (by decide) (by decide)]
        · have ek : ∀ o, o < 100 → o ≠ 18 → τ o = σ o := fun o a b => by rw [tlo o (by omega), xo o b, kp_lo a]
          refine Sst_blk (Rel_S hR) ⟨?_, ?_, ?_, ?_⟩ (fun o ho => ek o (by omega) (by omega)) (fun k hk _ => ?_)
          · exact pic_to hB.1 (ek 15 (by decide) (by decide)) (ek 16 (by decide) (by decide)) (fun k hk => by rw [t7, if_neg (by omega)])
          · exact lin_to hB.2.1 (ek 17 (by decide) (by decide)) (fun k hk => by rw [t7, if_neg (by omega)])
          · exact wer_to hB.2.2.1 (ek 19 (by decide) (by decide)) (fun k hk => by rw [t7, if_neg (by omega)]) (fun k hk => by rw [t7, if_neg (by omega)])
          · have w18 : wR (kp σ nx) 18 := wR_to hW.2.2.2 (kp_lo (by decide))
            refine ⟨?_, fun k hk => ?_⟩
            · show wR τ 18
              exact wR_to (pt_wR hi hj _ w18) (by rw [tlo 18 (by decide), ← hX])
            · show px τ 18 k = _ ∧ _
              have e : px τ 18 k = px (pt (kp σ nx) 18 (nI i) (nI j) (if z = 1 then 1 else 0)) 18 k := by
                unfold px
                rw [tlo 18 (by decide), ← hX]
              rw [e, pt_px hi hj, zo_is zz, t7]
              by_cases c : k = 16 * j + i
              · rw [if_pos c, if_pos (by omega)]
                exact ⟨rfl, zz⟩
              · rw [if_neg c, if_neg (by omega)]
                have p : px (kp σ nx) 18 k = px σ 18 k := by
                  unfold px
                  rw [kp_lo (by decide)]
                rw [p]
                exact hB.2.2.2.2 k hk
          · rw [t7, if_neg (by omega)]
theorem duo_plug {g : aG} {l : Launch} {σ : aS} (hR : Rel σ) (x : Int32) (y : Int32) : Duo g l yX6_plug wsX6_plug 5 111 yX7_plug wsX7_plug 2 43 [.int x, .int y] σ := by
  have h0 := hR.1
  obtain ⟨nx, sz, hH⟩ := hR.2.1
  obtain ⟨n, hT⟩ := hR.2.2.1
  have hS := Rel_S hR
  obtain ⟨hB, hE, ⟨pn, hG⟩, hN⟩ := hS
  have hNX : NX σ nx := NX_of hH hN
  have hW := WB_of hB
  have h3 : σ 700 3 = nI sz := hH.2.2.2.2.1
  have hnx := hH.1
  have hsz := hH.2.1
  have hh : σ 1 3 = σ 701 771 := (hE.1 3 (by decide)).1
  cases hp : pl x y with
  | false => exact duo_of (zX6_plug_bad x y hp) (zX7_plug_bad h0 x y hp) rfl hR
  | true =>
    obtain ⟨i, j, hi, hj, rfl, rfl⟩ := pl_in hp
    have hk : 16 * j + i < 192 := by omega
    have ew := wn_eq hB hh hi hj
    cases hw : wn σ 10 (nI i) (nI j) (σ 1 3) with
    | false => exact duo_of (zX6_plug_ill (nI i) (nI j) hp hw) (zX7_plug_ill h0 i j hi hj (ew ▸ hw)) rfl hR
    | true =>
      have hwM : wM σ (16 * j + i) = true := ew ▸ hw
      have hx := zX6_plug_ok (g := g) (l := l) nx (nI i) (nI j) hNX hW hp hw
      generalize hX0 : cW (kp σ nx) 10 (nI i) (nI j) = X0 at hx
      have x0o : ∀ o, o ≠ 19 → X0 o = kp σ nx o := fun o a => by rw [← hX0, cW_ne a]
      have x19 : X0 19 = upd (σ 19) (16 * j + i) 0 := by
        rw [← hX0, cW_at hi hj, sP_same, kp_lo (by decide)]
      have ehi0 : ∀ o, 700 ≤ o → X0 o = σ o := fun o ho => (x0o o (by omega)).trans (kp_hi hnx (by omega))
      have ehi : ∀ o, 700 ≤ o → iK X0 o = σ o := fun o ho => (iK_ne (by omega)).trans (ehi0 o ho)
      have e0 : iK X0 700 0 = 0 := by rw [ehi 700 (by decide)]; exact h0
      have e3 : iK X0 700 3 = nI sz := by rw [ehi 700 (by decide)]; exact h3
      have hm := zX7_plug_ok (g := g) (l := l) e0 sz i j hsz e3 hi hj (by unfold wM; rw [ehi 701 (by decide)]; exact hwM)
      have to : ∀ o, o ≠ 701 → s7 (aX (iK X0) sz) (384 + (16 * j + i)) 0 o = aX (iK X0) sz o := fun o a => by rw [s7_ne a]
      have tlo : ∀ o, o < 700 → s7 (aX (iK X0) sz) (384 + (16 * j + i)) 0 o = iK X0 o := fun o a => (to o (by omega)).trans (aX_ne (by omega) (by omega))
      have t7 : ∀ k, s7 (aX (iK X0) sz) (384 + (16 * j + i)) 0 701 k = if k = 384 + (16 * j + i) then 0 else σ 701 k := fun k => by
        rw [s7_at, aX_701, ehi 701 (by decide)]
      generalize s7 (aX (iK X0) sz) (384 + (16 * j + i)) 0 = τ at hm to tlo t7
      have ek : ∀ o, o < 100 → o ≠ 19 → X0 o = σ o := fun o a b => by rw [x0o o b, kp_lo a]
      have hB2 : Bvw (vw X0 10) (τ 701) := by
        refine ⟨?_, ?_, ?_, ?_⟩
        · exact pic_to hB.1 (ek 15 (by decide) (by decide)) (ek 16 (by decide) (by decide)) (fun k hk => by rw [t7, if_neg (by omega)])
        · exact lin_to hB.2.1 (ek 17 (by decide) (by decide)) (fun k hk => by rw [t7, if_neg (by omega)])
        · intro k hk
          show X0 19 k = _ ∧ _
          rw [x19, t7, t7, if_neg (show ¬ 192 + k = 384 + (16 * j + i) by omega)]
          by_cases c : k = 16 * j + i
          · rw [c, pk_us, if_pos rfl]
            exact ⟨rfl, fun _ => rfl⟩
          · rw [pk_un c, if_neg (by omega)]
            exact hB.2.2.1 k hk
        · exact col_to hB.2.2.2 (ek 18 (by decide) (by decide)) (fun k hk => by rw [t7, if_neg (by omega)])
      refine duo_of hx hm (ct_worn hB2 (by rw [ek 1 (by decide) (by decide), hh, t7, if_neg (by omega)])).symm ?_
      refine Rel_go (s := iK X0) h0 hH hT (Rel_S hR) ehi (fun o a b => ?_) (to 702 (by decide)) ?_ (fun k _ => by rw [to 700 (by decide)]) ?_
      · rw [tlo o (by omega), iK_ne (by omega), x0o o (by omega)]
      · rw [to 703 (by decide), aX_ne (by decide) (by decide)]
      · refine Sst_blk (Rel_S hR) (Bvw_cong hB2 (BAG_eq (fun o a b => vw_eq ?_)) (fun _ _ => rfl)) (fun o ho => ?_) (fun k hk _ => by rw [t7, if_neg (by omega)])
        · rw [tlo _ (by omega), iK_ne (by omega)]
        · rw [tlo _ (by omega), iK_ne (by omega), ek o (by omega) (by omega)]
