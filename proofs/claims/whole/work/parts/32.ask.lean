/-! both sides' calls, one behind the other: questions -/
def Duo (g : aG) (l : Launch) (yX : MethodName) (wX : List Cond) (fX lX : Nat) (yM : MethodName) (wY : List Cond) (fY lY_ : Nat) (as : List Value) (σ : aS) : Prop :=
  ∃ (r : Int32) (σ1 σ2 : aS), CN g l yX wX fX lX (.ref 600 :: as) σ (some (.int r)) σ1 ∧ CN g l yM wY fY lY_ (.ref 700 :: as) σ1 (some (.int r)) σ2 ∧ Rel σ2
theorem duo_of {g : aG} {l : Launch} {yX : MethodName} {wX : List Cond} {fX lX : Nat} {yM : MethodName} {wY : List Cond} {fY lY_ : Nat} {as : List Value} {σ σ1 σ2 : aS} {r r2 : Int32} (hx : CN g l yX wX fX lX (.ref 600 :: as) σ (some (.int r)) σ1) (hm : CN g l yM wY fY lY_ (.ref 700 :: as) σ1 (some (.int r2)) σ2) (e : r2 = r) (hR : Rel σ2) : Duo g l yX wX fX lX yM wY fY lY_ as σ := by
  subst e
  exact ⟨_, _, _, hx, hm, hR⟩
def QX (σ τ : aS) : Prop := ∀ o, o ≠ 611 → o ≠ 612 → τ o = σ o
def QM (σ τ : aS) : Prop := (∀ o, o ≠ 700 → o ≠ 704 → o ≠ 705 → τ o = σ o) ∧ ∀ k, k ≠ 8 → k ≠ 9 → k ≠ 10 → τ 700 k = σ 700 k
theorem Rel_qX {σ τ : aS} (h : Rel σ) (q : QX σ τ) : Rel τ :=
  Rel_fr h (fun o ho => q o (by omega) (by omega)) (by rw [q 603 (by decide) (by decide)]) (by rw [q 700 (by decide) (by decide)]) (by rw [q 700 (by decide) (by decide)]) (by rw [q 700 (by decide) (by decide)])
theorem Rel_qM {σ τ : aS} (h : Rel σ) (q : QM σ τ) : Rel τ :=
  Rel_fr h (fun o ho => q.1 o (by omega) (by omega) (by omega)) (by rw [q.1 603 (by decide) (by decide) (by decide)]) (q.2 0 (by decide) (by decide) (by decide)) (q.2 3 (by decide) (by decide) (by decide)) (q.2 5 (by decide) (by decide) (by decide))
theorem QX_iK (σ : aS) : QX σ (iK σ) := fun _ h _ => iK_ne h
theorem QM_r (σ : aS) : QM σ σ := ⟨fun _ _ _ _ => rfl, fun _ _ _ _ => rfl⟩
theorem QM_t {a b c : aS} (h : QM a b) (h2 : QM b c) : QM a c := ⟨fun o p q r => (h2.1 o p q r).trans (h.1 o p q r), fun k p q r => (h2.2 k p q r).trans (h.2 k p q r)⟩
theorem QM_lY (σ : aS) : QM σ (lY σ) := ⟨fun _ _ h _ => lY_ne h, fun _ _ _ _ => by rw [lY_ne (by decide)]⟩
theorem QM_lC (σ : aS) (t : Int32) : QM σ (lC_ σ t) := ⟨fun _ _ h _ => lC_ne h, fun _ _ _ _ => by rw [lC_ne (by decide)]⟩
theorem QM_mO (σ : aS) (f : Nat) : QM σ (mO σ f) := ⟨fun _ _ _ h => mO_ne h f, fun _ _ _ _ => by rw [mO_ne (by decide) f]⟩
theorem QM_kK (σ : aS) (a b : Int32) : QM σ (kK σ a b) := ⟨fun _ h _ _ => kK_ne h, fun _ p q r => kK_o _ _ _ ⟨p, q, r⟩⟩
theorem QM_hM (σ : aS) (r : Nat) : ∀ n, QM σ (hM σ r n).2
  | 0 => QM_r σ
  | n + 1 => by
    cases q : (hM σ r n).1 with
    | true => rw [hM_t q]; exact QM_hM σ r n
    | false => rw [hM_s q]; exact QM_kK _ _ _
theorem QM_tM (σ : aS) : ∀ n, QM σ (tM σ n).2
  | 0 => QM_r σ
  | n + 1 => by
    cases q : (tM σ n).1 with
    | true => rw [tM_t q]; exact QM_tM σ n
    | false => rw [tM_f q]; exact QM_t (QM_tM σ n) (QM_hM _ _ _)
theorem QM_fM (σ : aS) (r : Nat) : ∀ n, QM σ (fM σ r n).2
  | 0 => QM_r σ
  | n + 1 => by
    cases q : (fM σ r n).1 with
    | true => rw [fM_t q]; exact QM_fM σ r n
    | false => rw [fM_f q]; exact QM_t (QM_fM σ r n) (QM_t (QM_lC _ _) (QM_hM _ _ _))
theorem QM_mpS (σ : aS) : ∀ n, QM σ (mpS σ n)
  | 0 => QM_r σ
  | _ + 1 => QM_kK _ _ _
theorem Sst_0 {σ : aS} {v : Nat → Int32} (h : Sst (vw σ 0) v) : Sst σ v := by rw [vw_0] at h; exact h
theorem Sst_1 {σ : aS} {v : Nat → Int32} (h : Sst σ v) : Sst (vw σ 0) v := by rw [vw_0]; exact h
theorem Rel_S {σ : aS} (h : Rel σ) : Sst σ (σ 701) := Sst_0 h.2.2.2
theorem WB_of {σ : aS} {w : Nat → Int32} (h : Bvw (vw σ 10) w) : WB σ := ⟨h.1.1.1, h.1.1.2, h.2.1.1, h.2.2.2.1⟩
theorem NX_of {σ : aS} {nx sz : Nat} {v : Nat → Int32} (h : Hst σ nx sz) (hS : Ssnp σ v) : NX σ nx := by
  obtain ⟨⟨⟨a1, a2⟩, _⟩, ⟨b1, b2⟩, _⟩ := hS
  refine ⟨h.1, h.2.2.1, ?_, ?_⟩
  · rw [a1]; exact a2
  · rw [b1]; exact b2
theorem now_pl {s t : aS} (hB : Bvw (vw s 10) (t 701)) (hh : s 1 3 = t 701 771) : Bpic (vw (iK s) 10) (lY t 701) ∧ Plt (iK s) 611 18 (lY t 704) := by
  refine ⟨?_, plt_now hB hh⟩
  rw [lY_ne (by decide)]
  exact Bpic_iK hB.1
theorem toI_nat {a : Int32} {N : Nat} (hN : N < 2 ^ 30) (h : ¬ (a.toInt < 0 ∨ (N : Int) < a.toInt)) : ∃ m : Nat, m ≤ N ∧ a = nI m := by
  refine ⟨a.toInt.toNat, by omega, ?_⟩
  rw [fa_eq, nI_toInt (by omega)]
  omega
/-! ranges of drift and shift -/
theorem wi4 {v : Int32} (h : wi v (-4) 4 = true) : ∃ i : Nat, i ≤ 8 ∧ v = nI i - 4 := by
  have h := of_decide_eq_true h
  obtain ⟨h1, h2⟩ := h
  rw [fa_lt, show (-4 : Int32).toInt = -4 by decide] at h1
  rw [fa_lt, show (4 : Int32).toInt = 4 by decide] at h2
  refine ⟨(v.toInt + 4).toNat, by omega, ?_⟩
  rw [fa_eq, show (4 : Int32) = nI 4 from rfl, pk_sub_toInt (by omega) (by decide)]
  omega
theorem dri : ∀ m, m ≤ 100 → ∀ i, i ≤ 8 → wi ((nI m - 50) * (nI i - 4) / 50) (-4) 4 = true := by decide +kernel
theorem add44 : ∀ i, i ≤ 8 → ∀ j, j ≤ 8 → ¬ (nI i - 4 + (nI j - 4) < -8) ∧ ¬ (8 : Int32) < nI i - 4 + (nI j - 4) := by decide +kernel
theorem sx_in {p d s : Int32} (hp : wi p (-4) 4 = true) (hd : stG 0 d = true) (hs : wi s (-4) 4 = true) : sxk (p + (d - 50) * s / 50) := by
  obtain ⟨m, _, hm, rfl⟩ := wi_nat (lo := 0) (hi := 100) (by decide) (by decide) hd
  obtain ⟨i, hi, rfl⟩ := wi4 hs
  obtain ⟨j, hj, e⟩ := wi4 (dri m hm i hi)
  rw [e]
  obtain ⟨k, hk, rfl⟩ := wi4 hp
  exact add44 k hk j hj
theorem dX_of {s : aS} {v : Nat → Int32} (h : Sset s v) : dX s 0 = (v 768 - 50) * v 769 / 50 ∧ dY s 0 = (v 768 - 50) * v 770 / 50 := by
  unfold dX dY
  rw [show s (0 + 1) 0 = v 768 from (h.1 0 (by decide)).1, show s (0 + 1) 1 = v 769 from (h.1 1 (by decide)).1, show s (0 + 1) 2 = v 770 from (h.1 2 (by decide)).1]
  exact ⟨rfl, rfl⟩
theorem sx_pin {s : aS} {v : Nat → Int32} (h : Sset s v) {p : Int32} (hp : wi p (-4) 4 = true) : sxk (p + dX s 0) := by
  rw [(dX_of h).1]
  exact sx_in hp (h.1 0 (by decide)).2 (h.1 1 (by decide)).2
theorem Sset_iK {s : aS} {v : Nat → Int32} (h : Sset s v) : Sset (iK s) v := Sset_cong h (fun _ _ => by rw [iK_ne (by decide)]) (by rw [iK_ne (by decide)]) (by rw [iK_ne (by decide)]) (fun _ _ _ => rfl)
/-! counts -/
theorem ct3 {p q r : Nat → Bool} (h : ∀ k, k < 192 → (p k, q k, r k) = (true, false, false) ∨ (p k, q k, r k) = (false, true, false) ∨ (p k, q k, r k) = (false, false, true)) : ct p + ct q + ct r = 192 := by
  have key : ∀ n, n ≤ 192 → fb_ct p n + fb_ct q n + fb_ct r n = n := by
    intro n
    induction n with
    | zero => intro _; rfl
    | succ n ih =>
      intro hn
      have I := ih (by omega)
      rw [fb_ct_s, fb_ct_s, fb_ct_s]
      rcases h n (by omega) with e | e | e <;> (simp only [Prod.mk.injEq] at e; obtain ⟨e1, e2, e3⟩ := e; rw [e1, e2, e3]; simp; omega)
  exact key 192 (Nat.le_refl _)
theorem ct_pic {s : aS} {w : Nat → Int32} (hB : Bpic (vw s 10) w) : ct (fun k => decide (w k = 0)) + ct (px s 15) + ct (px s 16) = 192 := by
  refine ct3 (fun k hk => ?_)
  obtain ⟨p1, p2, p3⟩ := hB.2 k hk
  have p1 : px s 15 k = decide (w k = 1) := p1
  have p2 : px s 16 k = decide (w k = 2) := p2
  rw [p1, p2]
  generalize w k = v at *
  rcases p3 with rfl | rfl | rfl
  · exact Or.inl (by decide)
  · exact Or.inr (Or.inl (by decide))
  · exact Or.inr (Or.inr (by decide))
theorem mN_0 (σ : aS) (v : Int32) : mN σ 0 v = fun k => decide (σ 701 k = v) := by
  funext k
  unfold mN
  rw [Nat.zero_add]
theorem ct_white {s t : aS} (hB : Bpic (vw s 10) (t 701)) : nI (ct (px s 15)) + nI (ct (px s 16)) = 192 - nI (ct (mN t 0 0)) ∧ nI (ct (mN t 0 0)) = 192 - (nI (ct (px s 15)) + nI (ct (px s 16))) := by
  have h := ct_pic hB
  rw [mN_0, nI_add, show (192 : Int32) = nI 192 from rfl, pk_sub (by omega), pk_sub (by omega)]
  exact ⟨congrArg nI (by omega), congrArg nI (by omega)⟩
theorem ct_worn {s t : aS} (hB : Bvw (vw s 10) (t 701)) (hh : s 1 3 = t 701 771) : wC s = nI (ct (wM t)) := by
  have e : ct (px (iK s) 17) = ct (px (iK s) 611) + ct (wM t) := by
    unfold ct
    rw [← fb_ct_or]
    · refine fb_ct_cong (fun k hk => ?_)
      have hL := hB.2.1.2 k hk
      have l1 : px s 17 k = decide (t 701 (192 + k) = 1) := hL.1
      have w1 : s 19 k = t 701 (384 + k) := (hB.2.2.1 k hk).1
      rw [px_iK _ (by decide), iK_px _ hk, (wM_and hL.2).2, l1, w1, hh]
      by_cases c : t 701 (384 + k) ≤ t 701 771
      · rw [decide_eq_true c, (decide_eq_false (fun q => q c) : decide (¬ t 701 (384 + k) ≤ t 701 771) = false), Bool.and_true, Bool.and_false, Bool.or_false]
      · rw [decide_eq_false c, decide_eq_true c, Bool.and_true, Bool.and_false, Bool.false_or]
    · rintro k hk ⟨h1, h2⟩
      have hL := hB.2.1.2 k hk
      have w1 : s 19 k = t 701 (384 + k) := (hB.2.2.1 k hk).1
      rw [iK_px _ hk, w1, hh, Bool.and_eq_true] at h1
      rw [(wM_and hL.2).2, Bool.and_eq_true] at h2
      exact of_decide_eq_true h2.2 (of_decide_eq_true h1.2)
  unfold wC
  rw [e, pk_sub (Nat.le_add_right _ _), Nat.add_sub_cancel_left]
theorem on_zo {z : Int32} (h : zo z) : on z = z := by
  rcases h with rfl | rfl <;> rfl

theorem ct_is {s : aS} {a : Nat} {p : Nat → Bool} (h : ∀ k, k < 192 → px s a k = p k) : ct (px s a) = ct p := ct_cong h
theorem log_n {pn : Nat} (h : pn ≤ 5000) : (if 12 ≤ nI pn then 12 else nI pn) = nI (min pn 12) := by
  by_cases c : 12 ≤ pn
  · rw [if_pos (show (12 : Int32) ≤ nI pn from nI_le (a := 12) c (by omega)), show min pn 12 = 12 by omega]
    rfl
  · rw [if_neg (show ¬ (12 : Int32) ≤ nI pn from nI_ge (a := pn) (b := 12) (by omega) (by decide)), show min pn 12 = pn by omega]
theorem duo_count {g : aG} {l : Launch} {σ : aS} (hR : Rel σ) (a : Int32) : Duo g l yX6_count wsX6_count 4 87 yX7_count wsX7_count 2 43 [.int a] σ := by
  have h0 := hR.1
  obtain ⟨nx, sz, hH⟩ := hR.2.1
  obtain ⟨n, hT⟩ := hR.2.2.1
  obtain ⟨hB, hS, ⟨pn, hG⟩, hN⟩ := Rel_S hR
  have hW := WB_of hB
  have hh : σ 1 3 = σ 701 771 := (hS.1 3 (by decide)).1
  by_cases hc : a.toInt < 0 ∨ (19 : Int) < a.toInt
  · exact duo_of (zX6_count_out a hc) (zX7_count_out h0 a hc) rfl hR
  · obtain ⟨m, hm, rfl⟩ := toI_nat (N := 19) (by decide) hc
    match m, hm with
    | 0, _ => exact show Duo g l yX6_count wsX6_count 4 87 yX7_count wsX7_count 2 43 [.int 0] σ from duo_of zX6_count_0 (zX7_count_0 h0) (hG.2.1.trans hG.2.2.1.symm) hR
    | 1, _ => exact show Duo g l yX6_count wsX6_count 4 87 yX7_count wsX7_count 2 43 [.int 1] σ from duo_of zX6_count_1 (zX7_count_1 h0) (hS.1 0 (by decide)).1.symm hR
    | 2, _ => exact show Duo g l yX6_count wsX6_count 4 87 yX7_count wsX7_count 2 43 [.int 2] σ from duo_of zX6_count_2 (zX7_count_2 h0) (hS.1 1 (by decide)).1.symm hR
    | 3, _ => exact show Duo g l yX6_count wsX6_count 4 87 yX7_count wsX7_count 2 43 [.int 3] σ from duo_of zX6_count_3 (zX7_count_3 h0) (hS.1 2 (by decide)).1.symm hR
    | 4, _ => exact show Duo g l yX6_count wsX6_count 4 87 yX7_count wsX7_count 2 43 [.int 4] σ from duo_of zX6_count_4 (zX7_count_4 h0) (hS.1 3 (by decide)).1.symm hR
    | 5, _ => exact show Duo g l yX6_count wsX6_count 4 87 yX7_count wsX7_count 2 43 [.int 5] σ from duo_of zX6_count_5 (zX7_count_5 h0) (hS.1 4 (by decide)).1.symm hR
    | 6, _ => exact show Duo g l yX6_count wsX6_count 4 87 yX7_count wsX7_count 2 43 [.int 6] σ from duo_of zX6_count_6 (zX7_count_6 h0) hS.2.1.1.symm hR
    | 7, _ => exact show Duo g l yX6_count wsX6_count 4 87 yX7_count wsX7_count 2 43 [.int 7] σ from duo_of zX6_count_7 (zX7_count_7 h0) hS.2.2.1.symm hR
    | 8, _ => exact show Duo g l yX6_count wsX6_count 4 87 yX7_count wsX7_count 2 43 [.int 8] σ from duo_of zX6_count_8 (zX7_count_8 h0) (by rw [(dX_of hS).1, hS.2.1.1]; rfl) hR
    | 9, _ => exact show Duo g l yX6_count wsX6_count 4 87 yX7_count wsX7_count 2 43 [.int 9] σ from duo_of zX6_count_9 (zX7_count_9 h0) (by rw [(dX_of hS).2, hS.2.2.1]; rfl) hR
    | 10, _ => exact show Duo g l yX6_count wsX6_count 4 87 yX7_count wsX7_count 2 43 [.int 10] σ from duo_of (zX6_count_10 hW) (zX7_count_10 h0) (ct_white hB.1).2 hR
    | 11, _ => exact show Duo g l yX6_count wsX6_count 4 87 yX7_count wsX7_count 2 43 [.int 11] σ from duo_of (zX6_count_11 hW) (zX7_count_11 h0) ((congrArg (fun p => nI (ct p)) (mN_0 σ 1)).trans (congrArg nI (ct_is (fun k hk => (hB.1.2 k hk).1)).symm)) hR
    | 12, _ => exact show Duo g l yX6_count wsX6_count 4 87 yX7_count wsX7_count 2 43 [.int 12] σ from duo_of (zX6_count_12 hW) (zX7_count_12 h0) ((congrArg (fun p => nI (ct p)) (mN_0 σ 2)).trans (congrArg nI (ct_is (fun k hk => (hB.1.2 k hk).2.1)).symm)) hR
    | 13, _ => exact show Duo g l yX6_count wsX6_count 4 87 yX7_count wsX7_count 2 43 [.int 13] σ from duo_of (zX6_count_13 hW) (zX7_count_13 h0) (congrArg nI (ct_is (fun k hk => (hB.2.1.2 k hk).1)).symm) hR
    | 14, _ => exact show Duo g l yX6_count wsX6_count 4 87 yX7_count wsX7_count 2 43 [.int 14] σ from duo_of (zX6_count_14 hW) (zX7_count_14 h0) (congrArg nI (ct_is (fun k hk => (hB.2.2.2.2 k hk).1)).symm) hR
    | 15, _ => exact show Duo g l yX6_count wsX6_count 4 87 yX7_count wsX7_count 2 43 [.int 15] σ from duo_of (zX6_count_15 hW) (zX7_count_15 (by rw [iK_ne (by decide)]; exact h0)) (by rw [ct_worn (t := iK σ) (by rw [iK_ne (by decide)]; exact hB) (by rw [iK_ne (by decide)]; exact hh)]) (Rel_qX hR (QX_iK σ))
    | 16, _ => exact show Duo g l yX6_count wsX6_count 4 87 yX7_count wsX7_count 2 43 [.int 16] σ from duo_of zX6_count_16 (zX7_count_16 h0) (by rw [hG.2.1, hG.2.2.2.1]; exact log_n hG.1) hR
    | 17, _ => exact show Duo g l yX6_count wsX6_count 4 87 yX7_count wsX7_count 2 43 [.int 17] σ from duo_of zX6_count_17 (zX7_count_17 h0) (by rw [on_zo (by rw [hN.1.1.1]; exact hN.1.1.2), on_zo (by rw [hN.2.1.1]; exact hN.2.1.2), hN.1.1.1, hN.2.1.1]) hR
    | 18, _ => exact show Duo g l yX6_count wsX6_count 4 87 yX7_count wsX7_count 2 43 [.int 18] σ from duo_of zX6_count_18 (zX7_count_18 h0) (by rw [hH.2.2.2.2.1, hH.2.2.2.1]) hR
    | 19, _ => exact show Duo g l yX6_count wsX6_count 4 87 yX7_count wsX7_count 2 43 [.int 19] σ from duo_of zX6_count_19 (zX7_count_19 h0) (by rw [hT.2.1, hT.2.2.1]) hR
    | m + 20, hm => exact absurd hm (by omega)
theorem zo_b2 {z : Int32} (h : zo z) : b2 (decide (z = 1)) = z := by
  rcases h with rfl | rfl <;> decide
theorem duo_cell {g : aG} {l : Launch} {σ : aS} (hR : Rel σ) (x y a : Int32) : Duo g l yX6_cell wsX6_cell 3 66 yX7_cell wsX7_cell 2 43 [.int x, .int y, .int a] σ := by
  have h0 := hR.1
  obtain ⟨hB, hS, _, _⟩ := Rel_S hR
  have hh : σ 1 3 = σ 701 771 := (hS.1 3 (by decide)).1
  cases hp : pl x y with
  | false => exact duo_of (zX6_cell_bad x y a hp) (zX7_cell_bad h0 x y a hp) rfl hR
  | true =>
    obtain ⟨i, j, hi, hj, rfl, rfl⟩ := pl_in hp
    by_cases hc : a.toInt < 0 ∨ (4 : Int) < a.toInt
    · exact duo_of (zX6_cell_out (nI i) (nI j) a hp hc) (zX7_cell_out h0 i j a hi hj hc) rfl hR
    · obtain ⟨m, hm, rfl⟩ := toI_nat (N := 4) (by decide) hc
      have hk : 16 * j + i < 192 := by omega
      have hL := hB.2.1.2 (16 * j + i) hk
      have hC := hB.2.2.2.2 (16 * j + i) hk
      have hE := hB.2.2.1 (16 * j + i) hk
      match m, hm with
      | 0, _ => exact show Duo g l yX6_cell wsX6_cell 3 66 yX7_cell wsX7_cell 2 43 [.int (nI i), .int (nI j), .int 0] σ from duo_of (zX6_cell_0 (nI i) (nI j) hp) (zX7_cell_0 h0 i j hi hj) (kA_eq hB.1 hi hj).symm hR
      | 1, _ =>
        refine show Duo g l yX6_cell wsX6_cell 3 66 yX7_cell wsX7_cell 2 43 [.int (nI i), .int (nI j), .int 1] σ from duo_of (zX6_cell_1 (nI i) (nI j) hp) (zX7_cell_1 h0 i j hi hj) ?_ hR
        rw [on_b2, hs_nI _ _ hi hj, show px σ 17 (16 * j + i) = decide (σ 701 (192 + (16 * j + i)) = 1) from hL.1]
        exact (zo_b2 hL.2).symm
      | 2, _ =>
        refine show Duo g l yX6_cell wsX6_cell 3 66 yX7_cell wsX7_cell 2 43 [.int (nI i), .int (nI j), .int 2] σ from duo_of (zX6_cell_2 (nI i) (nI j) hp) (zX7_cell_2 h0 i j hi hj) ?_ hR
        rw [on_b2, hs_nI _ _ hi hj, show px σ 18 (16 * j + i) = decide (σ 701 (576 + (16 * j + i)) = 1) from hC.1]
        exact (zo_b2 hC.2).symm
      | 3, _ =>
        refine show Duo g l yX6_cell wsX6_cell 3 66 yX7_cell wsX7_cell 2 43 [.int (nI i), .int (nI j), .int 3] σ from duo_of (zX6_cell_3 (nI i) (nI j) hp) (zX7_cell_3 h0 i j hi hj) ?_ hR
        rw [wA_eq hB.2.2.1 hi hj]
        rcases hL.2 with e | e
        · rw [if_neg (by rw [e]; decide), hE.2 e]
        · rw [if_pos e]
      | 4, _ =>
        refine show Duo g l yX6_cell wsX6_cell 3 66 yX7_cell wsX7_cell 2 43 [.int (nI i), .int (nI j), .int 4] σ from duo_of (zX6_cell_4 (nI i) (nI j) hp) (zX7_cell_4 h0 i j hi hj) ?_ hR
        rw [on_b2, wn_eq hB hh hi hj]
theorem duo_printed {g : aG} {l : Launch} {σ : aS} (hR : Rel σ) (x y a b : Int32) : Duo g l yX6_printed wsX6_printed 3 67 yX7_printed wsX7_printed 4 91 [.int x, .int y, .int a, .int b] σ := by
  have h0 := hR.1
  obtain ⟨hB, hS, _, _⟩ := Rel_S hR
  have hh : σ 1 3 = σ 701 771 := (hS.1 3 (by decide)).1
  cases hp : pl x y with
  | false => exact duo_of (zX6_printed_bad x y a b (by rw [hp]; rfl)) (zX7_printed_bad h0 x y a b (by rw [hp]; rfl)) rfl hR
  | true =>
    cases hs_ : sh a b with
    | false => exact duo_of (zX6_printed_bad x y a b (by rw [hp, hs_]; rfl)) (zX7_printed_bad h0 x y a b (by rw [hp, hs_]; rfl)) rfl hR
    | true =>
      obtain ⟨i, j, hi, hj, rfl, rfl⟩ := pl_in hp
      have hk : 16 * j + i < 192 := by omega
      obtain ⟨n1, n2⟩ := now_pl (s := σ) (t := iK σ) (by rw [iK_ne (by decide)]; exact hB) (by rw [iK_ne (by decide)]; exact hh)
      refine duo_of (zX6_printed_ok (nI i) (nI j) a b hp hs_) (zX7_printed_ok (by rw [iK_ne (by decide)]; exact h0) i j a b hi hj hs_) ?_ (Rel_qM (Rel_qX hR (QX_iK σ)) (QM_lY _))
      rw [on_b2, on_b2, tn_eq (fun q hq => (n2 q hq).2), hs_nI _ _ hi hj, (n2 _ hk).1.1, zo_b2 (n2 _ hk).1.2]
      unfold lkM
      rw [show (16 * j + i) % 16 = i by omega, show (16 * j + i) / 16 = j by omega]
      exact Int32.add_comm _ _
theorem duo_proof {g : aG} {l : Launch} {σ : aS} (hR : Rel σ) (b a : Int32) : Duo g l yX6_proof wsX6_proof 2 45 yX7_proof wsX7_proof 1 22 [.int b, .int a] σ := by
  have h0 := hR.1
  obtain ⟨_, _, ⟨pn, g1, g2, g3, g4, g5, g6⟩, _⟩ := Rel_S hR
  by_cases hb : b < 0
  · exact duo_of (zX6_proof_bad b a (fun q => absurd hb q)) (zX7_proof_bad h0 b a (fun q => absurd hb q)) rfl hR
  · cases ha : wi a 0 5 with
    | false => exact duo_of (zX6_proof_bad b a (fun _ => ha)) (zX7_proof_bad h0 b a (fun _ => ha)) rfl hR
    | true =>
      obtain ⟨m, hm, rfl⟩ := nI_of hb
      by_cases c : m < min pn 12
      · obtain ⟨wh, _, hwh, rfl⟩ := wi_nat (lo := 0) (hi := 5) (by decide) (by decide) ha
        refine duo_of (zX6_proof_ok (pn % 12) m wh (by omega) g5 (by omega) (by omega) (by rw [g4]; exact nI_lt c (by omega))) (zX7_proof_ok h0 pn m wh g1 g2 (by omega) (by omega) (by omega)) ?_ hR
        obtain ⟨e0, e1, e2, e3, e4, e5⟩ := g6 (pn - m) (by omega) (by omega) (by omega)
        rw [show (pn % 12 + 12 - m) % 12 = (pn - m) % 12 by omega]
        match wh, hwh with
        | 0, _ => exact e0.symm
        | 1, _ => exact e1.symm
        | 2, _ => exact e2.symm
        | 3, _ => exact e3.symm
        | 4, _ => exact e4.symm
        | 5, _ => exact e5.symm
      · refine duo_of (zX6_proof_none (nI m) a hb ha (by rw [g4]; exact nI_nlt (by omega) hm)) (zX7_proof_none h0 (nI m) a hb ha (fun q => ?_)) rfl hR
        rw [g2]
        refine nI_nlt ?_ hm
        rcases Nat.lt_or_ge m 12 with z | z
        · omega
        · exact absurd (nI_le (a := 12) z hm) q
theorem duo_faults {g : aG} {l : Launch} {σ : aS} (hR : Rel σ) (a b c : Int32) : Duo g l yX6_faults wsX6_faults 4 94 yX7_faults wsX7_faults 5 117 [.int a, .int b, .int c] σ := by
  have h0 := hR.1
  obtain ⟨hB, hS, _, _⟩ := Rel_S hR
  have hW := WB_of hB
  have hh : σ 1 3 = σ 701 771 := (hS.1 3 (by decide)).1
  have h0k : iK σ 700 0 = 0 := by rw [iK_ne (by decide)]; exact h0
  cases hs_ : sh a b with
  | false => exact duo_of (zX6_faults_bad a b c hs_) (zX7_faults_bad h0 a b c (by rw [hs_]; rfl)) rfl hR
  | true =>
    by_cases hc : c.toInt < 0 ∨ (2 : Int) < c.toInt
    · refine duo_of (zX6_faults_out a b c hs_ hc) (zX7_faults_bad h0k a b c ?_) rfl (Rel_qX hR (QX_iK σ))
      rw [hs_, Bool.true_and]
      refine decide_eq_false (fun q => ?_)
      obtain ⟨q1, q2⟩ := q
      rw [fa_lt, show (0 : Int32).toInt = 0 by decide] at q1
      rw [fa_lt, show (2 : Int32).toInt = 2 by decide] at q2
      omega
    · obtain ⟨m, hm, rfl⟩ := toI_nat (N := 2) (by decide) hc
      obtain ⟨n1, n2⟩ := now_pl (s := σ) (t := iK σ) (by rw [iK_ne (by decide)]; exact hB) (by rw [iK_ne (by decide)]; exact hh)
      have hF : Rel (kK (lY (iK σ)) a b) := Rel_qM (Rel_qX hR (QX_iK σ)) (QM_t (QM_lY _) (QM_kK _ _ _))
      match m, hm with
      | 0, _ => exact show Duo g l yX6_faults wsX6_faults 4 94 yX7_faults wsX7_faults 5 117 [.int a, .int b, .int 0] σ from duo_of (zX6_faults_0 a b hs_ hW) (zX7_faults_ok h0k a b 0 hs_ (by decide)) (by rw [gG_eq n1 n2]; rfl) hF
      | 1, _ => exact show Duo g l yX6_faults wsX6_faults 4 94 yX7_faults wsX7_faults 5 117 [.int a, .int b, .int 1] σ from duo_of (zX6_faults_1 a b hs_ hW) (zX7_faults_ok h0k a b 1 hs_ (by decide)) (by rw [gS_eq (li := 607) n1 n2]; rfl) hF
      | 2, _ => exact show Duo g l yX6_faults wsX6_faults 4 94 yX7_faults wsX7_faults 5 117 [.int a, .int b, .int 2] σ from duo_of (zX6_faults_2 a b hs_ hW) (zX7_faults_ok h0k a b 2 hs_ (by decide)) (by rw [gL_eq (ci := 14) n1 n2 a b]; rfl) hF
theorem why_v : ∀ (v p : Int32) (u w : Bool), (v = 0 ∨ v = 1 ∨ v = 2) → zo p → yM v (2 * p + b2 u) w = yV v (decide (p = 1)) u w := by
  intro v p u w h1 h2
  rcases h1 with rfl | rfl | rfl <;> rcases h2 with rfl | rfl <;> cases u <;> cases w <;> decide
theorem duo_why {g : aG} {l : Launch} {σ : aS} (hR : Rel σ) (x y : Int32) : Duo g l yX6_why wsX6_why 3 67 yX7_why wsX7_why 4 91 [.int x, .int y] σ := by
  have h0 := hR.1
  obtain ⟨hB, hS, _, _⟩ := Rel_S hR
  have hh : σ 1 3 = σ 701 771 := (hS.1 3 (by decide)).1
  cases hp : pl x y with
  | false => exact duo_of (zX6_why_bad x y hp) (zX7_why_bad h0 x y hp) rfl hR
  | true =>
    obtain ⟨i, j, hi, hj, rfl, rfl⟩ := pl_in hp
    have hk : 16 * j + i < 192 := by omega
    have e7 : iK σ 701 = σ 701 := iK_ne (by decide)
    obtain ⟨n1, n2⟩ := now_pl (s := σ) (t := iK σ) (by rw [e7]; exact hB) (by rw [e7]; exact hh)
    refine duo_of (zX6_why_ok (nI i) (nI j) hp) (zX7_why_ok (by rw [iK_ne (by decide)]; exact h0) i j hi hj) ?_ (Rel_qM (Rel_qX hR (QX_iK σ)) (QM_lY _))
    have hBk : Bvw (vw (iK σ) 10) (iK σ 701) := (Rel_S (Rel_qX hR (QX_iK σ))).1
    have hhk : iK σ 1 3 = iK σ 701 771 := by rw [iK_ne (by decide), e7]; exact hh
    have ew : wn (iK σ) 10 (nI i) (nI j) (iK σ 1 3) = wM (iK σ) (16 * j + i) := wn_eq hBk hhk hi hj
    have ew2 : wM (lY (iK σ)) (16 * j + i) = wM (iK σ) (16 * j + i) := wM_704
    have ex : mPx σ = cNX (iK σ) := by
      unfold mPx cNX sXM
      rw [(dX_of (Sset_iK hS)).1, e7, iK_ne (by decide), hS.2.1.1]
    have ey : mPy σ = cNY (iK σ) := by
      unfold mPy cNY sYM
      rw [(dX_of (Sset_iK hS)).2, e7, iK_ne (by decide), hS.2.2.1]
    rw [ew, ew2, ex, ey, kA_eq (w := iK σ 701) hBk.1 hi hj, tn_eq (fun q hq => (n2 q hq).2), hs_nI _ _ hi hj, (n2 _ hk).1.1]
    have hv := (hBk.1.2 _ hk).2.2
    unfold lkM
    rw [show (16 * j + i) % 16 = i by omega, show (16 * j + i) / 16 = j by omega]
    exact why_v _ _ _ _ hv (n2 _ hk).1.2
theorem duo_tolerance {g : aG} {l : Launch} {σ : aS} (hR : Rel σ) : Duo g l yX6_tolerance wsX6_tolerance 4 97 yX7_tolerance wsX7_tolerance 6 140 [] σ := by
  have h0 := hR.1
  obtain ⟨hB, hS, _, _⟩ := Rel_S hR
  have hh : σ 1 3 = σ 701 771 := (hS.1 3 (by decide)).1
  have e7 : iK σ 701 = σ 701 := iK_ne (by decide)
  obtain ⟨n1, n2⟩ := now_pl (s := σ) (t := iK σ) (by rw [e7]; exact hB) (by rw [e7]; exact hh)
  exact duo_of (zX6_tolerance (WB_of hB)) (zX7_tolerance (by rw [iK_ne (by decide)]; exact h0)) (tol_eq n1 n2).symm (Rel_qM (Rel_qX hR (QX_iK σ)) (QM_t (QM_lY _) (QM_tM _ _)))
theorem duo_trapFor {g : aG} {l : Launch} {σ : aS} (hR : Rel σ) (a : Int32) : Duo g l yX6_trapFor wsX6_trapFor 4 97 yX7_trapFor wsX7_trapFor 6 140 [.int a] σ := by
  have h0 := hR.1
  obtain ⟨hB, hS, _, _⟩ := Rel_S hR
  cases ha : wi a 0 4 with
  | false => exact duo_of (zX6_trapFor_bad a ha) (zX7_trapFor_bad h0 a ha) rfl hR
  | true =>
    obtain ⟨r, _, hr, rfl⟩ := wi_nat (lo := 0) (hi := 4) (by decide) (by decide) ha
    have hq : QX σ (trE σ r) := by
      intro o _ h2
      unfold trE
      split
      · exact trS_ne h2 _
      · exact trS_ne h2 _
    refine duo_of (zX6_trapFor_ok r hr hB.1.1.1 hB.1.1.2) (zX7_trapFor_ok (by rw [hq 700 (by decide) (by decide)]; exact h0) r hr) ?_ (Rel_qM (Rel_qX hR hq) (QM_t (QM_mO _ _) (QM_fM _ _ _)))
    refine (trap_eq (t := trE σ r) ?_).symm
    rw [hq 701 (by decide) (by decide)]
    exact hB.1
theorem nine : ∀ i, i < 9 → wi (nI i - 4) (-4) 4 = true := by decide
theorem duo_bestPins {g : aG} {l : Launch} {σ : aS} (hR : Rel σ) (a : Int32) : Duo g l yX6_bestPins wsX6_bestPins 4 94 yX7_bestPins wsX7_bestPins 5 117 [.int a] σ := by
  have h0 := hR.1
  obtain ⟨hB, hS, _, _⟩ := Rel_S hR
  have hh : σ 1 3 = σ 701 771 := (hS.1 3 (by decide)).1
  have e7 : iK σ 701 = σ 701 := iK_ne (by decide)
  cases ha : wi a 0 2 with
  | false => exact duo_of (zX6_bestPins_bad a ha) (zX7_bestPins_bad h0 a ha) rfl hR
  | true =>
    obtain ⟨n1, n2⟩ := now_pl (s := σ) (t := iK σ) (by rw [e7]; exact hB) (by rw [e7]; exact hh)
    have n1' : Bpic (vw (iK σ) 10) (lY (iK σ) 701) := n1
    refine duo_of (zX6_bestPins_ok a (WB_of hB) ha (fun i hi => sx_pin (Sset_iK hS) (nine i hi))) (zX7_bestPins_ok (by rw [iK_ne (by decide)]; exact h0) a ha) ?_ (Rel_qM (Rel_qX hR (QX_iK σ)) (QM_t (QM_lY _) (QM_mpS _ _)))
    refine (best_eq n1 n2 ?_ ?_ ?_ a ha).symm
    · rw [lY_ne (by decide), e7, iK_ne (by decide)]
      exact (hS.1 0 (by decide)).1
    · rw [lY_ne (by decide), e7, iK_ne (by decide)]
      exact (hS.1 1 (by decide)).1
    · rw [lY_ne (by decide), e7, iK_ne (by decide)]
      exact (hS.1 2 (by decide)).1
theorem duo_printsLeft {g : aG} {l : Launch} {σ : aS} (hR : Rel σ) : Duo g l yX6_printsLeft wsX6_printsLeft 5 113 yX7_printsLeft wsX7_printsLeft 4 90 [] σ := by
  have h0 := hR.1
  obtain ⟨hB, hS, _, _⟩ := Rel_S hR
  have hh : σ 1 3 = σ 701 771 := (hS.1 3 (by decide)).1
  have e7 : iK σ 701 = σ 701 := iK_ne (by decide)
  obtain ⟨n1, n2⟩ := now_pl (s := σ) (t := iK σ) (by rw [e7]; exact hB) (by rw [e7]; exact hh)
  refine duo_of zX6_printsLeft (zX7_printsLeft (by rw [iK_ne (by decide)]; exact h0)) ?_ (Rel_qM (Rel_qX hR (QX_iK σ)) (QM_lY _))
  rw [pl_eq (s := iK σ) (t := lY (iK σ)) (fun q hq => (n2 q hq).1) (fun q hq => by rw [iK_ne (by decide), lY_ne (by decide), e7]; exact (hB.2.2.1 q hq).1) (by rw [iK_ne (by decide), lY_ne (by decide), e7]; exact hh) 192 (Nat.le_refl _)]
