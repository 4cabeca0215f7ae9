def aX (σ : aS) (q : Nat) : aS := if q = 5 then aC (aC1 σ) 4 else aC σ q
theorem zX7_act {g : aG} {l : Launch} {σ : aS} (q : Nat) (hq : q ≤ 5) (h3 : σ 700 3 = nI q) : CN g l yX7_act wsX7_act 0 0 [.ref 700] σ none (aX σ q) := by
  unfold aX
  by_cases h : q = 5
  · subst h
    rw [if_pos rfl]
    exact zX7_act_5 h3
  · rw [if_neg h]
    exact zX7_act_lt q (by omega) h3
theorem aC_ne {σ : aS} {q o : Nat} (h : o ≠ 702) (h2 : o ≠ 700) : aC σ q o = σ o := by
  unfold aC
  rw [sP_ne h2, sP_ne h]
theorem aX_ne {σ : aS} {q o : Nat} (h : o ≠ 702) (h2 : o ≠ 700) : aX σ q o = σ o := by
  unfold aX
  split
  · rw [aC_ne h h2]
    unfold aC1
    rw [sP_ne h2, sP_ne h]
  · exact aC_ne h h2
theorem aX_701 (σ : aS) (q : Nat) : aX σ q 701 = σ 701 := aX_ne (by decide) (by decide)
def rb (σ : aS) (k j : Nat) : Bool := decide (bsN k j = -1 ∨ σ 704 (bsN k j).toNatClampNeg = 0)
def ruV (σ : aS) (k : Nat) : Int32 := 1 + nI (fb_ct (rb σ k) 4)
theorem rb_of {σ σ2 : aS} (h : σ2 704 = σ 704) (k : Nat) : rb σ2 k = rb σ k := by
  funext j
  unfold rb
  rw [h]
theorem ruV_of {σ σ2 : aS} (h : σ2 704 = σ 704) (k : Nat) : ruV σ2 k = ruV σ k := by
  unfold ruV
  rw [rb_of h]
theorem ruV_701 {σ : aS} {f : Nat → Int32} (k : Nat) : ruV (sP σ 701 f) k = ruV σ k := ruV_of (sP_ne (by decide)) k
def mR (kind : Int32) (y x0 : Nat) (p : aS × Int32) : Nat → aS × Int32
  | 0 => p
  | n + 1 => (sP (mR kind y x0 p n).1 701 (upd ((mR kind y x0 p n).1 701) (16 * y + (x0 + n)) kind), (mR kind y x0 p n).2 + (if (mR kind y x0 p n).1 701 (16 * y + (x0 + n)) = kind then 0 else 1))
def mA (kind : Int32) (x0 y0 wd : Nat) (p : aS × Int32) : Nat → aS × Int32
  | 0 => p
  | m + 1 => mR kind (y0 + m) x0 (mA kind x0 y0 wd p m) wd
/-- three runs of the state -/
def th (P C o : Nat → Int32) (k : Nat) : Nat → Int32 := fun j => if 192 ≤ j ∧ j < 192 + k then P (j - 192) else if 384 ≤ j ∧ j < 384 + k then 0 else if 576 ≤ j ∧ j < 576 + k then C (j - 576) else o j
theorem th_0 (P C o : Nat → Int32) : th P C o 0 = o := by
  funext j
  unfold th
  rw [if_neg (by omega), if_neg (by omega), if_neg (by omega)]
theorem th_s (P C o : Nat → Int32) {k : Nat} (hk : k < 192) : upd (upd (upd (th P C o k) (192 + k) (P k)) (384 + k) 0) (576 + k) (C k) = th P C o (k + 1) := by
  funext j
  unfold upd th
  by_cases h1 : j = 576 + k
  · subst h1
    have a1 : ¬ (192 ≤ 576 + k ∧ 576 + k < 192 + (k + 1)) := by omega
    have a2 : ¬ (384 ≤ 576 + k ∧ 576 + k < 384 + (k + 1)) := by omega
    have a3 : 576 ≤ 576 + k ∧ 576 + k < 576 + (k + 1) := by omega
    rw [if_pos rfl, if_neg a1, if_neg a2, if_pos a3, show 576 + k - 576 = k by omega]
  · rw [if_neg h1]
    by_cases h2 : j = 384 + k
    · subst h2
      have a1 : ¬ (192 ≤ 384 + k ∧ 384 + k < 192 + (k + 1)) := by omega
      have a2 : 384 ≤ 384 + k ∧ 384 + k < 384 + (k + 1) := by omega
      rw [if_pos rfl, if_neg a1, if_pos a2]
    · rw [if_neg h2]
      by_cases h3 : j = 192 + k
      · subst h3
        have a1 : 192 ≤ 192 + k ∧ 192 + k < 192 + (k + 1) := by omega
        rw [if_pos rfl, if_pos a1, show 192 + k - 192 = k by omega]
      · rw [if_neg h3]
        have e1 : (192 ≤ j ∧ j < 192 + k) ↔ (192 ≤ j ∧ j < 192 + (k + 1)) := by omega
        have e2 : (384 ≤ j ∧ j < 384 + k) ↔ (384 ≤ j ∧ j < 384 + (k + 1)) := by omega
        have e3 : (576 ≤ j ∧ j < 576 + k) ↔ (576 ≤ j ∧ j < 576 + (k + 1)) := by omega
        simp only [e1, e2, e3]
def ctA (σ : aS) (q t : Nat) : aS := lC_ (mO (aX σ q) 4) (nI t)
def ctB (σ : aS) (q t : Nat) : aS := sP (ctA σ q t) 701 (th (ctA σ q t 704) (fun k => ctA σ q t 704 (192 + k)) (ctA σ q t 701) 192)
theorem mIn_ne {σ : aS} {far o : Nat} (h : o ≠ 705) : ∀ k, mIn σ far k o = σ o
  | 0 => rfl
  | k + 1 => by
    show sP (mIn σ far k) 705 _ o = σ o
    rw [sP_ne h, mIn_ne h k]
theorem mO_ne {σ : aS} {o : Nat} (h : o ≠ 705) : ∀ f, mO σ f o = σ o
  | 0 => sP_ne h
  | f + 1 => by
    show mIn (mO σ f) f 192 o = σ o
    rw [mIn_ne h, mO_ne h f]
def s7 (σ : aS) (k : Nat) (v : Int32) : aS := sP σ 701 (upd (σ 701) k v)
theorem s7_ne {σ : aS} {k o : Nat} {v : Int32} (h : o ≠ 701) : s7 σ k v o = σ o := sP_ne h
theorem s7_at (σ : aS) (k : Nat) (v : Int32) (j : Nat) : s7 σ k v 701 j = if j = k then v else σ 701 j := by
  unfold s7
  rw [sP_same]
  rfl
/-- one print of the model -/
def q0 (σ : aS) (pn : Nat) : Nat := 776 + 5 * (pn % 12)
def q5 (σ : aS) (p : Nat) : aS := s7 (s7 (s7 (s7 (s7 (cNw σ) p (cNX σ)) (p + 1) (cNY σ)) (p + 2) (cNw σ 700 8)) (p + 3) (cNw σ 700 9)) (p + 4) (cNw σ 700 10)
def q6 (σ : aS) (pn : Nat) : aS := s7 (q5 σ (776 + 5 * (pn % 12))) 775 (nI (pn + 1))
def qw (σ : aS) (pn k : Nat) : Int32 := q6 σ pn 701 (384 + k) + (if cNw σ 704 k = 1 then ruV (cNw σ) k else 0)
def q7 (σ : aS) (pn : Nat) : aS := sP (q6 σ pn) 701 (fb_put (q6 σ pn 701) (qw σ pn) 384 192)
def q8 (σ : aS) (pn : Nat) : aS := s7 (q7 σ pn) 768 (if q7 σ pn 701 768 ≤ q7 σ pn 701 772 then 0 else q7 σ pn 701 768 - q7 σ pn 701 772)
theorem cNw_ne {σ : aS} {o : Nat} (h : o ≠ 700) (h2 : o ≠ 704) : cNw σ o = σ o := by
  unfold cNw
  rw [kK_ne h]
  exact sP_ne h2
theorem q5_lo {σ : aS} {p j : Nat} (hp : 776 ≤ p) (hj : j < 776) : q5 σ p 701 j = σ 701 j := by
  unfold q5
  rw [s7_at, if_neg (by omega), s7_at, if_neg (by omega), s7_at, if_neg (by omega), s7_at, if_neg (by omega), s7_at, if_neg (by omega), cNw_ne (by decide) (by decide)]
theorem q5_ne {σ : aS} {p o : Nat} (h : o ≠ 701) : q5 σ p o = cNw σ o := by
  unfold q5
  rw [s7_ne h, s7_ne h, s7_ne h, s7_ne h, s7_ne h]
theorem q6_lo {σ : aS} {pn j : Nat} (hj : j < 775) : q6 σ pn 701 j = σ 701 j := by
  unfold q6
  rw [s7_at, if_neg (by omega), q5_lo (by omega) (by omega)]
theorem q6_ne {σ : aS} {pn o : Nat} (h : o ≠ 701) : q6 σ pn o = cNw σ o := by
  unfold q6
  rw [s7_ne h, q5_ne h]
theorem q7_ne {σ : aS} {pn o : Nat} (h : o ≠ 701) : q7 σ pn o = cNw σ o := by
  unfold q7
  rw [sP_ne h, q6_ne h]
theorem q8_ne {σ : aS} {pn o : Nat} (h : o ≠ 701) : q8 σ pn o = cNw σ o := by
  unfold q8
  rw [s7_ne h, q7_ne h]
theorem ruV_q {σ : aS} {f : Nat → Int32} {pn k : Nat} : ruV (sP (q6 σ pn) 701 f) k = ruV (cNw σ) k := ruV_of (by rw [sP_ne (by decide), q6_ne (by decide)]) k
theorem sX_of {σ σ2 : aS} (h1 : σ2 701 768 = σ 701 768) (h2 : σ2 701 769 = σ 701 769) (p : Int32) : sXM σ2 p = sXM σ p := by simp only [sXM, h1, h2]
theorem sY_of {σ σ2 : aS} (h1 : σ2 701 768 = σ 701 768) (h2 : σ2 701 770 = σ 701 770) (p : Int32) : sYM σ2 p = sYM σ p := by simp only [sYM, h1, h2]
theorem cNw_701 (σ : aS) : cNw σ 701 = σ 701 := cNw_ne (by decide) (by decide)
/-- the prints of one call -/
def qS (σ : aS) (pn : Nat) : Nat → aS
  | 0 => σ
  | k + 1 => q8 (qS σ pn k) (pn + k)
def qG (σ : aS) (pn : Nat) : Nat → Int32
  | 0 => 0
  | k + 1 => qG σ pn k + nI (ct (cG (lY (qS σ pn k)) (cNX (qS σ pn k)) (cNY (qS σ pn k))))
theorem cNw_8 (σ : aS) : cNw σ 700 8 = nI (ct (cG (lY σ) (cNX σ) (cNY σ))) := kK_8 _ _ _
def tkM (σ : aS) (fr k : Nat) : aS := sP σ 701 (fb_put (upd (σ 701) fr 1) (upd (σ 701) fr 1) (fr + 1) k)
def rsM (σ : aS) (fr k : Nat) : aS := sP σ 701 (fb_put (σ 701) (fun j => σ 701 (fr + 1 + j)) 0 k)
def unM (σ : aS) (q k : Nat) : aS := sP (sP σ 700 (upd (σ 700) 3 (nI q))) 701 (fb_put (σ 701) (fun j => σ 702 (2374 * q + j)) 0 k)
def apM (σ : aS) (n : Nat) (c : Int32) : aS :=
  let σ1 := sP σ 703 (upd (σ 703) n c)
  sP σ1 700 (upd (σ1 700) 5 (nI (n + 1)))
theorem bsN_384 {k j : Nat} (hk : k < 192) (hj : j < 4) (h : ¬ bsN k j = -1) : vp_in (bsN k j) (ln 704) := by
  have q := vp_in_iff.mp (bsN_v hk hj h)
  show vp_in (bsN k j) 384
  exact vp_in_iff.mpr ⟨q.1, by omega⟩
set_option maxHeartbeats 4000000 in
set_option maxRecDepth 100000 in
theorem zX7_rubs {g : aG} {l : Launch} {σ : aS} (k : Nat) (hk : k < 192) : CN g l yX7_rubs wsX7_rubs 3 66 [.ref 700, .int (nI k)] σ (some (.int (ruV σ k))) σ := by
  refine cn_of (cc := cX7_rubs) (nL := 5) (ret := (some .int)) (own := RX7) (by decide +kernel) rfl rfl (Nat.le_of_ble_eq_true rfl) (fun K hg hl hK hE => ?_)
  subst hg; subst hl
  have i_7 : ∀ w ∈ u_ws RX7 TX7 15, w ∈ wsX7_rubs := by decide +kernel
  show AW K 0 [some (.ref 700), some (.int (nI k)), none, none, none] [] σ
  have hx1 : (∀ z4 : Option Value, AW K 4 [some (.ref 700), some (.int (nI k)), some (.int (1 + nI (fb_ct (rb σ k) 4))), some (.int (nI 4)), z4] [] (σ)) := by
    intro z4
    refine s_iload3 hK dX7_rubs_4 ?_
    refine s_iconst (v := 4) hK dX7_rubs_5 (by decide) ?_
    refine s_icmp_ge (tgt := 46) hK dX7_rubs_6 (by decide) (fun c_6 => ?_) (fun c_6 => absurd c_6 (fun q => q (ge_E rfl rfl)))
    refine s_iload2 hK dX7_rubs_46 ?_
    exact s_iret hK hE dX7_rubs_47 rfl (rfl) (rfl)
  have hb1 : ∀ k1 : Nat, k1 < 4 → (∀ z4 : Option Value, AW K 4 [some (.ref 700), some (.int (nI k)), some (.int (1 + nI (fb_ct (rb σ k) (k1 + 1)))), some (.int (nI (k1 + 1))), z4] [] (σ)) → (∀ z4 : Option Value, AW K 4 [some (.ref 700), some (.int (nI k)), some (.int (1 + nI (fb_ct (rb σ k) k1))), some (.int (nI k1)), z4] [] (σ)) := by
    intro k1 hk1 ih1 z4
    refine s_iload3 hK dX7_rubs_4 ?_
    refine s_iconst (v := 4) hK dX7_rubs_5 (by decide) ?_
    refine s_icmp_ge (tgt := 46) hK dX7_rubs_6 (by decide) (fun c_6 => absurd c_6 (ge_N rfl rfl hk1 (by decide))) (fun c_6 => ?_)
    refine s_iload1 hK dX7_rubs_9 ?_
    refine s_iload3 hK dX7_rubs_10 ?_
    refine s_callS hK mdX7_beside (zX7_beside _ _) gX7_rubs_X7_beside rfl ⟨Nat.le_of_ble_eq_true rfl, Nat.le_of_ble_eq_true rfl⟩ rfl (Nat.le_of_ble_eq_true rfl) dX7_rubs_11 ?_
    try dsimp only [Option.toList, List.cons_append, List.nil_append]
    rw [bs_ok k hk k1 hk1]
    refine s_istore4 hK dX7_rubs_14 ?_
    refine s_iload2 hK dX7_rubs_16 ?_
    refine AW.cut (j := 38) (v := b2 (rb σ k k1)) (fun hJ_38 => ?_) ?_
    · refine s_iload4 hK dX7_rubs_17 ?_
      refine s_iconst (v := -1) hK dX7_rubs_19 (by decide) ?_
      refine s_icmp_eq (tgt := 33) hK dX7_rubs_20 (by decide) (fun c_20 => ?_) (fun c_20 => ?_)
      · refine s_iconst (v := 1) hK dX7_rubs_33 (by decide) ?_
        refine s_goto (tgt := 38) hK dX7_rubs_34 (by decide) ?_
        exact AW.vv hJ_38 (by first | (rw [rb, decide_eq_true (p := _ ∨ _) (Or.inl c_20)]; rfl) | (rw [rb, decide_eq_true (p := _ ∨ _) (Or.inr c_30)]; rfl) | (rw [rb, decide_eq_false (fun e => e.elim c_20 c_30)]; rfl))
      · refine s_aload0 hK dX7_rubs_23 ?_
        refine s_getr (ci := 7) (k := 6) hK rfl rfl i_7 (by decide +kernel) dX7_rubs_24 (by decide) (by decide) (by decide) rfl rfl (rf_7_6 rfl) ?_
        refine s_iload4 hK dX7_rubs_27 ?_
        refine s_iald hK rfl (bsN_384 hk hk1 c_20) dX7_rubs_29 ?_
        refine s_if_ne (tgt := 37) hK dX7_rubs_30 (by decide) (fun c_30 => ?_) (fun c_30 => ?_)
        · refine s_iconst (v := 0) hK dX7_rubs_37 (by decide) ?_
          exact AW.vv hJ_38 (by first | (rw [rb, decide_eq_true (p := _ ∨ _) (Or.inl c_20)]; rfl) | (rw [rb, decide_eq_true (p := _ ∨ _) (Or.inr c_30)]; rfl) | (rw [rb, decide_eq_false (fun e => e.elim c_20 c_30)]; rfl))
        · refine s_iconst (v := 1) hK dX7_rubs_33 (by decide) ?_
          refine s_goto (tgt := 38) hK dX7_rubs_34 (by decide) ?_
          exact AW.vv hJ_38 (by first | (rw [rb, decide_eq_true (p := _ ∨ _) (Or.inl c_20)]; rfl) | (rw [rb, decide_eq_true (p := _ ∨ _) (Or.inr c_30)]; rfl) | (rw [rb, decide_eq_false (fun e => e.elim c_20 c_30)]; rfl))
    show AW K _ _ _ _
    refine s_iadd hK dX7_rubs_38 ?_
    refine s_istore2 hK dX7_rubs_39 ?_
    refine s_iinc3 hK dX7_rubs_40 (hv_1 _) ?_
    refine s_goto (tgt := 4) hK dX7_rubs_43 (by decide) ?_
    exact AW.to (ih1 _) (by rw [nI_1, Int32.add_assoc, acc_b2]) (rfl)
  refine s_iconst (v := 1) hK dX7_rubs_0 (by decide) ?_
  refine s_istore2 hK dX7_rubs_1 ?_
  refine s_iconst (v := 0) hK dX7_rubs_2 (by decide) ?_
  refine s_istore3 hK dX7_rubs_3 ?_
  exact AW.to (up_to (fun kx => ∀ z4 : Option Value, AW K 4 [some (.ref 700), some (.int (nI k)), some (.int (1 + nI (fb_ct (rb σ k) kx))), some (.int (nI kx)), z4] [] (σ)) 4 hx1 hb1 _) (rfl) (rfl)
set_option maxHeartbeats 4000000 in
set_option maxRecDepth 100000 in
theorem zX7_paint_bad {g : aG} {l : Launch} {σ : aS} (h0 : σ 700 0 = 0) (x y w h k : Int32) (hbad : pvP x y w h k = false) : CN g l yX7_paint wsX7_paint 2 43 [.ref 700, .int x, .int y, .int w, .int h, .int k] σ (some (.int (-1001))) σ := by
  refine cn_of (cc := cX7_paint) (nL := 10) (ret := (some .int)) (own := RX7) (by decide +kernel) rfl rfl (Nat.le_of_ble_eq_true rfl) (fun K hg hl hK hE => ?_)
  subst hg; subst hl
  have i_7 : ∀ w ∈ u_ws RX7 TX7 15, w ∈ wsX7_paint := by decide +kernel
  show AW K 0 [some (.ref 700), some (.int x), some (.int y), some (.int w), some (.int h), some (.int k), none, none, none, none] [] σ
  refine s_aload0 hK dX7_paint_0 ?_
  refine s_iconst (v := 0) hK dX7_paint_1 (by decide) ?_
  refine s_putg (ci := 7) (k := 0) (ty := .int) hK rfl rfl i_7 (by decide +kernel) dX7_paint_2 tyX7_ok nmX7 (by decide) (by decide) (by decide) rfl rfl rfl (by decide +kernel) rfl rfl ?_
  rw [thr h0]
  refine s_iload1 hK dX7_paint_5 ?_
  refine s_iload2 hK dX7_paint_6 ?_
  refine s_callS hK mdX7_isCell (zX7_isCell _ _) gX7_paint_X7_isCell rfl ⟨Nat.le_of_ble_eq_true rfl, Nat.le_of_ble_eq_true rfl⟩ rfl (Nat.le_of_ble_eq_true rfl) dX7_paint_7 ?_
  try dsimp only [Option.toList, List.cons_append, List.nil_append]
  refine s_if_eq (tgt := 48) hK dX7_paint_10 (by decide) (fun c_10 => ?_) (fun c_10 => ?_)
  · refine s_sipush (v := -1001) hK dX7_paint_48 (by decide) ?_
    exact s_iret hK hE dX7_paint_51 rfl (rfl) (rfl)
  · refine s_iload3 hK dX7_paint_13 ?_
    refine s_iconst (v := 1) hK dX7_paint_14 (by decide) ?_
    refine s_bipush (v := 16) hK dX7_paint_15 (by decide) ?_
    refine s_iload1 hK dX7_paint_17 ?_
    refine s_isub hK dX7_paint_18 ?_
    refine s_callS hK mdX7_in (zX7_in _ _ _) gX7_paint_X7_in rfl ⟨Nat.le_of_ble_eq_true rfl, Nat.le_of_ble_eq_true rfl⟩ rfl (Nat.le_of_ble_eq_true rfl) dX7_paint_19 ?_
    try dsimp only [Option.toList, List.cons_append, List.nil_append]
    refine s_if_eq (tgt := 48) hK dX7_paint_22 (by decide) (fun c_22 => ?_) (fun c_22 => ?_)
    · refine s_sipush (v := -1001) hK dX7_paint_48 (by decide) ?_
      exact s_iret hK hE dX7_paint_51 rfl (rfl) (rfl)
    · refine s_iload4 hK dX7_paint_25 ?_
      refine s_iconst (v := 1) hK dX7_paint_27 (by decide) ?_
      refine s_bipush (v := 12) hK dX7_paint_28 (by decide) ?_
      refine s_iload2 hK dX7_paint_30 ?_
      refine s_isub hK dX7_paint_31 ?_
      refine s_callS hK mdX7_in (zX7_in _ _ _) gX7_paint_X7_in rfl ⟨Nat.le_of_ble_eq_true rfl, Nat.le_of_ble_eq_true rfl⟩ rfl (Nat.le_of_ble_eq_true rfl) dX7_paint_32 ?_
      try dsimp only [Option.toList, List.cons_append, List.nil_append]
      refine s_if_eq (tgt := 48) hK dX7_paint_35 (by decide) (fun c_35 => ?_) (fun c_35 => ?_)
      · refine s_sipush (v := -1001) hK dX7_paint_48 (by decide) ?_
        exact s_iret hK hE dX7_paint_51 rfl (rfl) (rfl)
      · refine s_iload5 hK dX7_paint_38 ?_
        refine s_iconst (v := 0) hK dX7_paint_40 (by decide) ?_
        refine s_iconst (v := 2) hK dX7_paint_41 (by decide) ?_
        refine s_callS hK mdX7_in (zX7_in _ _ _) gX7_paint_X7_in rfl ⟨Nat.le_of_ble_eq_true rfl, Nat.le_of_ble_eq_true rfl⟩ rfl (Nat.le_of_ble_eq_true rfl) dX7_paint_42 ?_
        try dsimp only [Option.toList, List.cons_append, List.nil_append]
        refine s_if_ne (tgt := 52) hK dX7_paint_45 (by decide) (fun c_45 => ?_) (fun c_45 => ?_)
        · exact absurd hbad (by simp [pvP, b2n c_10, b2n c_22, b2n c_35, b2n c_45])
        · refine s_sipush (v := -1001) hK dX7_paint_48 (by decide) ?_
          exact s_iret hK hE dX7_paint_51 rfl (rfl) (rfl)
set_option maxHeartbeats 4000000 in
set_option maxRecDepth 100000 in
theorem zX7_paint_ok {g : aG} {l : Launch} {σ : aS} (h0 : σ 700 0 = 0) (q x0 y0 wd ht : Nat) (kind : Int32) (hq : q ≤ 5) (h3 : σ 700 3 = nI q) (hx : x0 < 16) (hy : y0 < 12) (hw : 1 ≤ wd) (hw2 : x0 + wd ≤ 16) (hh : 1 ≤ ht) (hh2 : y0 + ht ≤ 12) (hk : wi kind 0 2 = true) : CN g l yX7_paint wsX7_paint 2 43 [.ref 700, .int (nI x0), .int (nI y0), .int (nI wd), .int (nI ht), .int kind] σ (some (.int (mA kind x0 y0 wd (aX σ q, 0) ht).2)) (mA kind x0 y0 wd (aX σ q, 0) ht).1 := by
  refine cn_of (cc := cX7_paint) (nL := 10) (ret := (some .int)) (own := RX7) (by decide +kernel) rfl rfl (Nat.le_of_ble_eq_true rfl) (fun K hg hl hK hE => ?_)
  subst hg; subst hl
  have i_7 : ∀ w ∈ u_ws RX7 TX7 15, w ∈ wsX7_paint := by decide +kernel
  show AW K 0 [some (.ref 700), some (.int (nI x0)), some (.int (nI y0)), some (.int (nI wd)), some (.int (nI ht)), some (.int kind), none, none, none, none] [] σ
  have hx1 : (∀ z8 : Option Value, ∀ z9 : Option Value, AW K 62 [some (.ref 700), some (.int (nI x0)), some (.int (nI y0)), some (.int (nI wd)), some (.int (nI ht)), some (.int kind), some (.int (mA kind x0 y0 wd (aX σ q, 0) ht).2), some (.int (nI (y0 + ht))), z8, z9] [] ((mA kind x0 y0 wd (aX σ q, 0) ht).1)) := by
    intro z8 z9
    refine s_iload7 hK dX7_paint_62 ?_
    refine s_iload2 hK dX7_paint_64 ?_
    refine s_iload4 hK dX7_paint_65 ?_
    refine s_iadd hK dX7_paint_67 ?_
    refine s_icmp_ge (tgt := 137) hK dX7_paint_68 (by decide) (fun c_68 => ?_) (fun c_68 => absurd c_68 (fun q => q (ge_E (N := y0 + ht) rfl (nI_add _ _))))
    refine s_iload6 hK dX7_paint_137 ?_
    exact s_iret hK hE dX7_paint_139 rfl (rfl) (rfl)
  have hb1 : ∀ k1 : Nat, k1 < ht → (∀ z8 : Option Value, ∀ z9 : Option Value, AW K 62 [some (.ref 700), some (.int (nI x0)), some (.int (nI y0)), some (.int (nI wd)), some (.int (nI ht)), some (.int kind), some (.int (mA kind x0 y0 wd (aX σ q, 0) (k1 + 1)).2), some (.int (nI (y0 + (k1 + 1)))), z8, z9] [] ((mA kind x0 y0 wd (aX σ q, 0) (k1 + 1)).1)) → (∀ z8 : Option Value, ∀ z9 : Option Value, AW K 62 [some (.ref 700), some (.int (nI x0)), some (.int (nI y0)), some (.int (nI wd)), some (.int (nI ht)), some (.int kind), some (.int (mA kind x0 y0 wd (aX σ q, 0) k1).2), some (.int (nI (y0 + k1))), z8, z9] [] ((mA kind x0 y0 wd (aX σ q, 0) k1).1)) := by
    intro k1 hk1 ih1 z8 z9
    have hx2 : (∀ z9 : Option Value, AW K 74 [some (.ref 700), some (.int (nI x0)), some (.int (nI y0)), some (.int (nI wd)), some (.int (nI ht)), some (.int kind), some (.int (mR kind (y0 + k1) x0 (mA kind x0 y0 wd (aX σ q, 0) k1) wd).2), some (.int (nI (y0 + k1))), some (.int (nI (x0 + wd))), z9] [] ((mR kind (y0 + k1) x0 (mA kind x0 y0 wd (aX σ q, 0) k1) wd).1)) := by
      intro z9
      refine s_iload8 hK dX7_paint_74 ?_
      refine s_iload1 hK dX7_paint_76 ?_
      refine s_iload3 hK dX7_paint_77 ?_
      refine s_iadd hK dX7_paint_78 ?_
      refine s_icmp_ge (tgt := 131) hK dX7_paint_79 (by decide) (fun c_79 => ?_) (fun c_79 => absurd c_79 (fun q => q (ge_E (N := x0 + wd) rfl (nI_add _ _))))
      refine s_iinc7 hK dX7_paint_131 (hv_1 _) ?_
      refine s_goto (tgt := 62) hK dX7_paint_134 (by decide) ?_
      exact AW.to (ih1 _ _) (by rw [nI_1]; rfl) rfl
    have hb2 : ∀ k2 : Nat, k2 < wd → (∀ z9 : Option Value, AW K 74 [some (.ref 700), some (.int (nI x0)), some (.int (nI y0)), some (.int (nI wd)), some (.int (nI ht)), some (.int kind), some (.int (mR kind (y0 + k1) x0 (mA kind x0 y0 wd (aX σ q, 0) k1) (k2 + 1)).2), some (.int (nI (y0 + k1))), some (.int (nI (x0 + (k2 + 1)))), z9] [] ((mR kind (y0 + k1) x0 (mA kind x0 y0 wd (aX σ q, 0) k1) (k2 + 1)).1)) → (∀ z9 : Option Value, AW K 74 [some (.ref 700), some (.int (nI x0)), some (.int (nI y0)), some (.int (nI wd)), some (.int (nI ht)), some (.int kind), some (.int (mR kind (y0 + k1) x0 (mA kind x0 y0 wd (aX σ q, 0) k1) k2).2), some (.int (nI (y0 + k1))), some (.int (nI (x0 + k2))), z9] [] ((mR kind (y0 + k1) x0 (mA kind x0 y0 wd (aX σ q, 0) k1) k2).1)) := by
      intro k2 hk2 ih2 z9
      refine s_iload8 hK dX7_paint_74 ?_
      refine s_iload1 hK dX7_paint_76 ?_
      refine s_iload3 hK dX7_paint_77 ?_
      refine s_iadd hK dX7_paint_78 ?_
      refine s_icmp_ge (tgt := 131) hK dX7_paint_79 (by decide) (fun c_79 => absurd c_79 (ge_N (k := x0 + k2) (N := x0 + wd) rfl (nI_add _ _) (by omega) (by omega))) (fun c_79 => ?_)
      refine s_iconst (v := 0) hK dX7_paint_82 (by decide) ?_
      refine s_bipush (v := 16) hK dX7_paint_83 (by decide) ?_
      refine s_iload7 hK dX7_paint_85 ?_
      refine s_imul hK dX7_paint_87 ?_
      refine s_iadd hK dX7_paint_88 ?_
      refine s_iload8 hK dX7_paint_89 ?_
      refine s_iadd hK dX7_paint_91 ?_
      rw [show (0 : Int32) + 16 * nI (y0 + k1) + nI (x0 + k2) = nI (16 * (y0 + k1) + (x0 + k2)) from by rw [show (16 : Int32) = nI 16 from rfl, pk_mul, Int32.zero_add, nI_add]]
      refine s_istore9 hK dX7_paint_92 ?_
      refine s_iload6 hK dX7_paint_94 ?_
      refine AW.cut (j := 113) (v := if (mR kind (y0 + k1) x0 (mA kind x0 y0 wd (aX σ q, 0) k1) k2).1 701 (16 * (y0 + k1) + (x0 + k2)) = kind then 0 else 1) (fun hJ_113 => ?_) ?_
      · refine s_aload0 hK dX7_paint_96 ?_
        refine s_getr (ci := 7) (k := 1) hK rfl rfl i_7 (by decide +kernel) dX7_paint_97 (by decide) (by decide) (by decide) rfl rfl (rf_7_1 rfl) ?_
        refine s_iload9 hK dX7_paint_100 ?_
        refine s_iald hK rfl (show vp_in _ 2374 from vp_in_nI (show 16 * (y0 + k1) + (x0 + k2) < 2374 by omega) (by decide)) dX7_paint_102 ?_
        rw [cl_nI (show 16 * (y0 + k1) + (x0 + k2) < 2 ^ 31 by omega)]
        refine s_iload5 hK dX7_paint_103 ?_
        refine s_icmp_ne (tgt := 112) hK dX7_paint_105 (by decide) (fun c_105 => ?_) (fun c_105 => ?_)
        · refine s_iconst (v := 1) hK dX7_paint_112 (by decide) ?_
          exact AW.vv hJ_113 (by simp [c_105])
        · refine s_iconst (v := 0) hK dX7_paint_108 (by decide) ?_
          refine s_goto (tgt := 113) hK dX7_paint_109 (by decide) ?_
          exact AW.vv hJ_113 (by simp [c_105])
      show AW K _ _ _ _
      refine s_iadd hK dX7_paint_113 ?_
      refine s_istore6 hK dX7_paint_114 ?_
      refine s_aload0 hK dX7_paint_116 ?_
      refine s_getr (ci := 7) (k := 1) hK rfl rfl i_7 (by decide +kernel) dX7_paint_117 (by decide) (by decide) (by decide) rfl rfl (rf_7_1 rfl) ?_
      refine s_iload9 hK dX7_paint_120 ?_
      refine s_iload5 hK dX7_paint_122 ?_
      refine s_iast hK rfl (show vp_in _ 2374 from vp_in_nI (show 16 * (y0 + k1) + (x0 + k2) < 2374 by omega) (by decide)) dX7_paint_124 ?_
      rw [cl_nI (show 16 * (y0 + k1) + (x0 + k2) < 2 ^ 31 by omega)]
      refine s_iinc8 hK dX7_paint_125 (hv_1 _) ?_
      refine s_goto (tgt := 74) hK dX7_paint_128 (by decide) ?_
      exact AW.to (ih2 _) (by rw [nI_1]; rfl) (rfl)
    refine s_iload7 hK dX7_paint_62 ?_
    refine s_iload2 hK dX7_paint_64 ?_
    refine s_iload4 hK dX7_paint_65 ?_
    refine s_iadd hK dX7_paint_67 ?_
    refine s_icmp_ge (tgt := 137) hK dX7_paint_68 (by decide) (fun c_68 => absurd c_68 (ge_N (k := y0 + k1) (N := y0 + ht) rfl (nI_add _ _) (by omega) (by omega))) (fun c_68 => ?_)
    refine s_iload1 hK dX7_paint_71 ?_
    refine s_istore8 hK dX7_paint_72 ?_
    exact AW.to (up_to (fun kx => ∀ z9 : Option Value, AW K 74 [some (.ref 700), some (.int (nI x0)), some (.int (nI y0)), some (.int (nI wd)), some (.int (nI ht)), some (.int kind), some (.int (mR kind (y0 + k1) x0 (mA kind x0 y0 wd (aX σ q, 0) k1) kx).2), some (.int (nI (y0 + k1))), some (.int (nI (x0 + kx))), z9] [] ((mR kind (y0 + k1) x0 (mA kind x0 y0 wd (aX σ q, 0) k1) kx).1)) wd hx2 hb2 _) (rfl) (rfl)
  refine s_aload0 hK dX7_paint_0 ?_
  refine s_iconst (v := 0) hK dX7_paint_1 (by decide) ?_
  refine s_putg (ci := 7) (k := 0) (ty := .int) hK rfl rfl i_7 (by decide +kernel) dX7_paint_2 tyX7_ok nmX7 (by decide) (by decide) (by decide) rfl rfl rfl (by decide +kernel) rfl rfl ?_
  rw [thr h0]
  refine s_iload1 hK dX7_paint_5 ?_
  refine s_iload2 hK dX7_paint_6 ?_
  refine s_callS hK mdX7_isCell (zX7_isCell _ _) gX7_paint_X7_isCell rfl ⟨Nat.le_of_ble_eq_true rfl, Nat.le_of_ble_eq_true rfl⟩ rfl (Nat.le_of_ble_eq_true rfl) dX7_paint_7 ?_
  try dsimp only [Option.toList, List.cons_append, List.nil_append]
  refine s_if_eq (tgt := 48) hK dX7_paint_10 (by decide) (fun c_10 => absurd c_10 (b2y' (pl_nI hx hy))) (fun c_10 => ?_)
  refine s_iload3 hK dX7_paint_13 ?_
  refine s_iconst (v := 1) hK dX7_paint_14 (by decide) ?_
  refine s_bipush (v := 16) hK dX7_paint_15 (by decide) ?_
  refine s_iload1 hK dX7_paint_17 ?_
  refine s_isub hK dX7_paint_18 ?_
  refine s_callS hK mdX7_in (zX7_in _ _ _) gX7_paint_X7_in rfl ⟨Nat.le_of_ble_eq_true rfl, Nat.le_of_ble_eq_true rfl⟩ rfl (Nat.le_of_ble_eq_true rfl) dX7_paint_19 ?_
  try dsimp only [Option.toList, List.cons_append, List.nil_append]
  refine s_if_eq (tgt := 48) hK dX7_paint_22 (by decide) (fun c_22 => absurd c_22 (b2y' (wi_sub (N := 16) hw hw2 (by decide)))) (fun c_22 => ?_)
  refine s_iload4 hK dX7_paint_25 ?_
  refine s_iconst (v := 1) hK dX7_paint_27 (by decide) ?_
  refine s_bipush (v := 12) hK dX7_paint_28 (by decide) ?_
  refine s_iload2 hK dX7_paint_30 ?_
  refine s_isub hK dX7_paint_31 ?_
  refine s_callS hK mdX7_in (zX7_in _ _ _) gX7_paint_X7_in rfl ⟨Nat.le_of_ble_eq_true rfl, Nat.le_of_ble_eq_true rfl⟩ rfl (Nat.le_of_ble_eq_true rfl) dX7_paint_32 ?_
  try dsimp only [Option.toList, List.cons_append, List.nil_append]
  refine s_if_eq (tgt := 48) hK dX7_paint_35 (by decide) (fun c_35 => absurd c_35 (b2y' (wi_sub (N := 12) hh hh2 (by decide)))) (fun c_35 => ?_)
  refine s_iload5 hK dX7_paint_38 ?_
  refine s_iconst (v := 0) hK dX7_paint_40 (by decide) ?_
  refine s_iconst (v := 2) hK dX7_paint_41 (by decide) ?_
  refine s_callS hK mdX7_in (zX7_in _ _ _) gX7_paint_X7_in rfl ⟨Nat.le_of_ble_eq_true rfl, Nat.le_of_ble_eq_true rfl⟩ rfl (Nat.le_of_ble_eq_true rfl) dX7_paint_42 ?_
  try dsimp only [Option.toList, List.cons_append, List.nil_append]
  refine s_if_ne (tgt := 52) hK dX7_paint_45 (by decide) (fun c_45 => ?_) (fun c_45 => absurd c_45 (b2y' hk))
  refine s_aload0 hK dX7_paint_52 ?_
  refine s_callV (ci := 7) hK mdX7_act (zX7_act q hq h3) gX7_paint_X7_act rfl rfl rfl (by decide) rfl ⟨Nat.le_of_ble_eq_true rfl, Nat.le_of_ble_eq_true rfl⟩ rfl (Nat.le_of_ble_eq_true rfl) dX7_paint_53 ?_
  try dsimp only [Option.toList, List.cons_append, List.nil_append]
  refine s_iconst (v := 0) hK dX7_paint_56 (by decide) ?_
  refine s_istore6 hK dX7_paint_57 ?_
  refine s_iload2 hK dX7_paint_59 ?_
  refine s_istore7 hK dX7_paint_60 ?_
  exact AW.to (up_to (fun kx => ∀ z8 : Option Value, ∀ z9 : Option Value, AW K 62 [some (.ref 700), some (.int (nI x0)), some (.int (nI y0)), some (.int (nI wd)), some (.int (nI ht)), some (.int kind), some (.int (mA kind x0 y0 wd (aX σ q, 0) kx).2), some (.int (nI (y0 + kx))), z8, z9] [] ((mA kind x0 y0 wd (aX σ q, 0) kx).1)) ht hx1 hb1 _ _) (rfl) (rfl)
set_option maxHeartbeats 4000000 in
set_option maxRecDepth 100000 in
theorem zX7_cut_bad {g : aG} {l : Launch} {σ : aS} (h0 : σ 700 0 = 0) (t : Int32) (hbad : wi t 0 4 = false) : CN g l yX7_cut wsX7_cut 5 114 [.ref 700, .int t] σ (some (.int (-1001))) σ := by
  refine cn_of (cc := cX7_cut) (nL := 3) (ret := (some .int)) (own := RX7) (by decide +kernel) rfl rfl (Nat.le_of_ble_eq_true rfl) (fun K hg hl hK hE => ?_)
  subst hg; subst hl
  have i_7 : ∀ w ∈ u_ws RX7 TX7 15, w ∈ wsX7_cut := by decide +kernel
  show AW K 0 [some (.ref 700), some (.int t), none] [] σ
  refine s_aload0 hK dX7_cut_0 ?_
  refine s_iconst (v := 0) hK dX7_cut_1 (by decide) ?_
  refine s_putg (ci := 7) (k := 0) (ty := .int) hK rfl rfl i_7 (by decide +kernel) dX7_cut_2 tyX7_ok nmX7 (by decide) (by decide) (by decide) rfl rfl rfl (by decide +kernel) rfl rfl ?_
  rw [thr h0]
  refine s_iload1 hK dX7_cut_5 ?_
  refine s_iconst (v := 0) hK dX7_cut_6 (by decide) ?_
  refine s_iconst (v := 4) hK dX7_cut_7 (by decide) ?_
  refine s_callS hK mdX7_in (zX7_in _ _ _) gX7_cut_X7_in rfl ⟨Nat.le_of_ble_eq_true rfl, Nat.le_of_ble_eq_true rfl⟩ rfl (Nat.le_of_ble_eq_true rfl) dX7_cut_8 ?_
  try dsimp only [Option.toList, List.cons_append, List.nil_append]
  refine s_if_ne (tgt := 18) hK dX7_cut_11 (by decide) (fun c_11 => absurd c_11 (fun q => q (b2f hbad))) (fun c_11 => ?_)
  refine s_sipush (v := -1001) hK dX7_cut_14 (by decide) ?_
  exact s_iret hK hE dX7_cut_17 rfl (rfl) (rfl)
set_option maxHeartbeats 4000000 in
set_option maxRecDepth 100000 in
theorem zX7_cut_ok {g : aG} {l : Launch} {σ : aS} (h0 : σ 700 0 = 0) (q t : Nat) (hq : q ≤ 5) (h3 : σ 700 3 = nI q) (ht : t ≤ 4) : CN g l yX7_cut wsX7_cut 5 114 [.ref 700, .int (nI t)] σ (some (.int (nI (ct (mN (ctB σ q t) 576 1))))) (ctB σ q t) := by
  refine cn_of (cc := cX7_cut) (nL := 3) (ret := (some .int)) (own := RX7) (by decide +kernel) rfl rfl (Nat.le_of_ble_eq_true rfl) (fun K hg hl hK hE => ?_)
  subst hg; subst hl
  have i_7 : ∀ w ∈ u_ws RX7 TX7 15, w ∈ wsX7_cut := by decide +kernel
  show AW K 0 [some (.ref 700), some (.int (nI t)), none] [] σ
  have hx1 : AW K 33 [some (.ref 700), some (.int (nI t)), some (.int (nI 192))] [] (sP (ctA σ q t) 701 (th (ctA σ q t 704) (fun k => ctA σ q t 704 (192 + k)) (ctA σ q t 701) 192)) := by
    refine s_iload2 hK dX7_cut_33 ?_
    refine s_sipush (v := 192) hK dX7_cut_34 (by decide) ?_
    refine s_icmp_ge (tgt := 93) hK dX7_cut_37 (by decide) (fun c_37 => ?_) (fun c_37 => absurd c_37 (fun q => q (ge_E rfl rfl)))
    refine s_aload0 hK dX7_cut_93 ?_
    refine s_sipush (v := 576) hK dX7_cut_94 (by decide) ?_
    refine s_iconst (v := 1) hK dX7_cut_97 (by decide) ?_
    refine s_callV (ci := 7) hK mdX7_many (zX7_many 576 1 (by decide)) gX7_cut_X7_many rfl rfl rfl (by decide) rfl ⟨Nat.le_of_ble_eq_true rfl, Nat.le_of_ble_eq_true rfl⟩ rfl (Nat.le_of_ble_eq_true rfl) dX7_cut_98 ?_
    try dsimp only [Option.toList, List.cons_append, List.nil_append]
    exact s_iret hK hE dX7_cut_101 rfl (rfl) (rfl)
  have hb1 : ∀ k1 : Nat, k1 < 192 → AW K 33 [some (.ref 700), some (.int (nI t)), some (.int (nI (k1 + 1)))] [] (sP (ctA σ q t) 701 (th (ctA σ q t 704) (fun k => ctA σ q t 704 (192 + k)) (ctA σ q t 701) (k1 + 1))) → AW K 33 [some (.ref 700), some (.int (nI t)), some (.int (nI k1))] [] (sP (ctA σ q t) 701 (th (ctA σ q t 704) (fun k => ctA σ q t 704 (192 + k)) (ctA σ q t 701) k1)) := by
    intro k1 hk1 ih1 
    refine s_iload2 hK dX7_cut_33 ?_
    refine s_sipush (v := 192) hK dX7_cut_34 (by decide) ?_
    refine s_icmp_ge (tgt := 93) hK dX7_cut_37 (by decide) (fun c_37 => absurd c_37 (ge_N rfl rfl hk1 (by decide))) (fun c_37 => ?_)
    refine s_aload0 hK dX7_cut_40 ?_
    refine s_getr (ci := 7) (k := 1) hK rfl rfl i_7 (by decide +kernel) dX7_cut_41 (by decide) (by decide) (by decide) rfl rfl (rf_7_1 rfl) ?_
    refine s_sipush (v := 192) hK dX7_cut_44 (by decide) ?_
    refine s_iload2 hK dX7_cut_47 ?_
    refine s_iadd hK dX7_cut_48 ?_
    rw [show (192 : Int32) = nI 192 from rfl, nI_add]
    refine s_aload0 hK dX7_cut_49 ?_
    refine s_getr (ci := 7) (k := 6) hK rfl rfl i_7 (by decide +kernel) dX7_cut_50 (by decide) (by decide) (by decide) rfl rfl (rf_7_6 rfl) ?_
    refine s_iload2 hK dX7_cut_53 ?_
    refine s_iald hK rfl (show vp_in _ 384 from vp_in_nI (show k1 < 384 by omega) (by decide)) dX7_cut_54 ?_
    rw [sP_ne (by decide), cl_nI (show k1 < 2 ^ 31 by omega)]
    refine s_iast hK rfl (show vp_in _ 2374 from vp_in_nI (show 192 + k1 < 2374 by omega) (by decide)) dX7_cut_55 ?_
    rw [sP_sP, sP_same, cl_nI (show 192 + k1 < 2 ^ 31 by omega)]
    refine s_aload0 hK dX7_cut_56 ?_
    refine s_getr (ci := 7) (k := 1) hK rfl rfl i_7 (by decide +kernel) dX7_cut_57 (by decide) (by decide) (by decide) rfl rfl (rf_7_1 rfl) ?_
    refine s_sipush (v := 384) hK dX7_cut_60 (by decide) ?_
    refine s_iload2 hK dX7_cut_63 ?_
    refine s_iadd hK dX7_cut_64 ?_
    rw [show (384 : Int32) = nI 384 from rfl, nI_add]
    refine s_iconst (v := 0) hK dX7_cut_65 (by decide) ?_
    refine s_iast hK rfl (show vp_in _ 2374 from vp_in_nI (show 384 + k1 < 2374 by omega) (by decide)) dX7_cut_66 ?_
    rw [sP_sP, sP_same, cl_nI (show 384 + k1 < 2 ^ 31 by omega)]
    refine s_aload0 hK dX7_cut_67 ?_
    refine s_getr (ci := 7) (k := 1) hK rfl rfl i_7 (by decide +kernel) dX7_cut_68 (by decide) (by decide) (by decide) rfl rfl (rf_7_1 rfl) ?_
    refine s_sipush (v := 576) hK dX7_cut_71 (by decide) ?_
    refine s_iload2 hK dX7_cut_74 ?_
    refine s_iadd hK dX7_cut_75 ?_
    rw [show (576 : Int32) = nI 576 from rfl, nI_add]
    refine s_aload0 hK dX7_cut_76 ?_
    refine s_getr (ci := 7) (k := 6) hK rfl rfl i_7 (by decide +kernel) dX7_cut_77 (by decide) (by decide) (by decide) rfl rfl (rf_7_6 rfl) ?_
    refine s_sipush (v := 192) hK dX7_cut_80 (by decide) ?_
    refine s_iload2 hK dX7_cut_83 ?_
    refine s_iadd hK dX7_cut_84 ?_
    rw [show (192 : Int32) = nI 192 from rfl, nI_add]
    refine s_iald hK rfl (show vp_in _ 384 from vp_in_nI (show 192 + k1 < 384 by omega) (by decide)) dX7_cut_85 ?_
    rw [sP_ne (by decide), cl_nI (show 192 + k1 < 2 ^ 31 by omega)]
    refine s_iast hK rfl (show vp_in _ 2374 from vp_in_nI (show 576 + k1 < 2374 by omega) (by decide)) dX7_cut_86 ?_
    rw [sP_sP, sP_same, cl_nI (show 576 + k1 < 2 ^ 31 by omega)]
    refine s_iinc2 hK dX7_cut_87 (hv_1 _) ?_
    refine s_goto (tgt := 33) hK dX7_cut_90 (by decide) ?_
    exact AW.to ih1 (by rw [nI_1]) (by rw [← th_s _ _ _ hk1])
  refine s_aload0 hK dX7_cut_0 ?_
  refine s_iconst (v := 0) hK dX7_cut_1 (by decide) ?_
  refine s_putg (ci := 7) (k := 0) (ty := .int) hK rfl rfl i_7 (by decide +kernel) dX7_cut_2 tyX7_ok nmX7 (by decide) (by decide) (by decide) rfl rfl rfl (by decide +kernel) rfl rfl ?_
  rw [thr h0]
  refine s_iload1 hK dX7_cut_5 ?_
  refine s_iconst (v := 0) hK dX7_cut_6 (by decide) ?_
  refine s_iconst (v := 4) hK dX7_cut_7 (by decide) ?_
  refine s_callS hK mdX7_in (zX7_in _ _ _) gX7_cut_X7_in rfl ⟨Nat.le_of_ble_eq_true rfl, Nat.le_of_ble_eq_true rfl⟩ rfl (Nat.le_of_ble_eq_true rfl) dX7_cut_8 ?_
  try dsimp only [Option.toList, List.cons_append, List.nil_append]
  refine s_if_ne (tgt := 18) hK dX7_cut_11 (by decide) (fun c_11 => ?_) (fun c_11 => absurd c_11 (b2y' (wi_nI (N := 4) ht (by decide))))
  refine s_aload0 hK dX7_cut_18 ?_
  refine s_callV (ci := 7) hK mdX7_act (zX7_act q hq h3) gX7_cut_X7_act rfl rfl rfl (by decide) rfl ⟨Nat.le_of_ble_eq_true rfl, Nat.le_of_ble_eq_true rfl⟩ rfl (Nat.le_of_ble_eq_true rfl) dX7_cut_19 ?_
  try dsimp only [Option.toList, List.cons_append, List.nil_append]
  refine s_aload0 hK dX7_cut_22 ?_
  refine s_callV (ci := 7) hK mdX7_measure (zX7_measure) gX7_cut_X7_measure rfl rfl rfl (by decide) rfl ⟨Nat.le_of_ble_eq_true rfl, Nat.le_of_ble_eq_true rfl⟩ rfl (Nat.le_of_ble_eq_true rfl) dX7_cut_23 ?_
  try dsimp only [Option.toList, List.cons_append, List.nil_append]
  refine s_aload0 hK dX7_cut_26 ?_
  refine s_iload1 hK dX7_cut_27 ?_
  refine s_callV (ci := 7) hK mdX7_layCut (zX7_layCut (nI t)) gX7_cut_X7_layCut rfl rfl rfl (by decide) rfl ⟨Nat.le_of_ble_eq_true rfl, Nat.le_of_ble_eq_true rfl⟩ rfl (Nat.le_of_ble_eq_true rfl) dX7_cut_28 ?_
  try dsimp only [Option.toList, List.cons_append, List.nil_append]
  refine s_iconst (v := 0) hK dX7_cut_31 (by decide) ?_
  refine s_istore2 hK dX7_cut_32 ?_
  exact AW.to (up_to (fun kx => AW K 33 [some (.ref 700), some (.int (nI t)), some (.int (nI kx))] [] (sP (ctA σ q t) 701 (th (ctA σ q t 704) (fun k => ctA σ q t 704 (192 + k)) (ctA σ q t 701) kx))) 192 hx1 hb1) (rfl) (by rw [th_0, sP_id]; rfl)
set_option maxHeartbeats 4000000 in
set_option maxRecDepth 100000 in
theorem zX7_carve_bad {g : aG} {l : Launch} {σ : aS} (h0 : σ 700 0 = 0) (b x y z : Int32) (hbad : (wi b 0 1 && (pl x y && wi z 0 1)) = false) : CN g l yX7_carve wsX7_carve 2 43 [.ref 700, .int b, .int x, .int y, .int z] σ (some (.int (-1001))) σ := by
  refine cn_of (cc := cX7_carve) (nL := 7) (ret := (some .int)) (own := RX7) (by decide +kernel) rfl rfl (Nat.le_of_ble_eq_true rfl) (fun K hg hl hK hE => ?_)
  subst hg; subst hl
  have i_7 : ∀ w ∈ u_ws RX7 TX7 15, w ∈ wsX7_carve := by decide +kernel
  show AW K 0 [some (.ref 700), some (.int b), some (.int x), some (.int y), some (.int z), none, none] [] σ
  refine s_aload0 hK dX7_carve_0 ?_
  refine s_iconst (v := 0) hK dX7_carve_1 (by decide) ?_
  refine s_putg (ci := 7) (k := 0) (ty := .int) hK rfl rfl i_7 (by decide +kernel) dX7_carve_2 tyX7_ok nmX7 (by decide) (by decide) (by decide) rfl rfl rfl (by decide +kernel) rfl rfl ?_
  rw [thr h0]
  refine s_iload1 hK dX7_carve_5 ?_
  refine s_iconst (v := 0) hK dX7_carve_6 (by decide) ?_
  refine s_iconst (v := 1) hK dX7_carve_7 (by decide) ?_
  refine s_callS hK mdX7_in (zX7_in _ _ _) gX7_carve_X7_in rfl ⟨Nat.le_of_ble_eq_true rfl, Nat.le_of_ble_eq_true rfl⟩ rfl (Nat.le_of_ble_eq_true rfl) dX7_carve_8 ?_
  try dsimp only [Option.toList, List.cons_append, List.nil_append]
  refine s_if_eq (tgt := 32) hK dX7_carve_11 (by decide) (fun c_11 => ?_) (fun c_11 => ?_)
  · refine s_sipush (v := -1001) hK dX7_carve_32 (by decide) ?_
    exact s_iret hK hE dX7_carve_35 rfl (rfl) (rfl)
  · refine s_iload2 hK dX7_carve_14 ?_
    refine s_iload3 hK dX7_carve_15 ?_
    refine s_callS hK mdX7_isCell (zX7_isCell _ _) gX7_carve_X7_isCell rfl ⟨Nat.le_of_ble_eq_true rfl, Nat.le_of_ble_eq_true rfl⟩ rfl (Nat.le_of_ble_eq_true rfl) dX7_carve_16 ?_
    try dsimp only [Option.toList, List.cons_append, List.nil_append]
    refine s_if_eq (tgt := 32) hK dX7_carve_19 (by decide) (fun c_19 => ?_) (fun c_19 => ?_)
    · refine s_sipush (v := -1001) hK dX7_carve_32 (by decide) ?_
      exact s_iret hK hE dX7_carve_35 rfl (rfl) (rfl)
    · refine s_iload4 hK dX7_carve_22 ?_
      refine s_iconst (v := 0) hK dX7_carve_24 (by decide) ?_
      refine s_iconst (v := 1) hK dX7_carve_25 (by decide) ?_
      refine s_callS hK mdX7_in (zX7_in _ _ _) gX7_carve_X7_in rfl ⟨Nat.le_of_ble_eq_true rfl, Nat.le_of_ble_eq_true rfl⟩ rfl (Nat.le_of_ble_eq_true rfl) dX7_carve_26 ?_
      try dsimp only [Option.toList, List.cons_append, List.nil_append]
      refine s_if_ne (tgt := 36) hK dX7_carve_29 (by decide) (fun c_29 => ?_) (fun c_29 => ?_)
      · exact absurd hbad (by simp [b2n c_11, b2n c_19, b2n c_29])
      · refine s_sipush (v := -1001) hK dX7_carve_32 (by decide) ?_
        exact s_iret hK hE dX7_carve_35 rfl (rfl) (rfl)
set_option maxHeartbeats 4000000 in
set_option maxRecDepth 100000 in
theorem zX7_carve_0 {g : aG} {l : Launch} {σ : aS} (h0 : σ 700 0 = 0) (q x y : Nat) (z : Int32) (hq : q ≤ 5) (h3 : σ 700 3 = nI q) (hx : x < 16) (hy : y < 12) (hz : wi z 0 1 = true) : CN g l yX7_carve wsX7_carve 2 43 [.ref 700, .int 0, .int (nI x), .int (nI y), .int z] σ (some (.int (σ 701 (192 + (16 * y + x))))) (s7 (s7 (aX σ q) (192 + (16 * y + x)) z) (384 + (16 * y + x)) 0) := by
  refine cn_of (cc := cX7_carve) (nL := 7) (ret := (some .int)) (own := RX7) (by decide +kernel) rfl rfl (Nat.le_of_ble_eq_true rfl) (fun K hg hl hK hE => ?_)
  subst hg; subst hl
  have i_7 : ∀ w ∈ u_ws RX7 TX7 15, w ∈ wsX7_carve := by decide +kernel
  show AW K 0 [some (.ref 700), some (.int 0), some (.int (nI x)), some (.int (nI y)), some (.int z), none, none] [] σ
  refine s_aload0 hK dX7_carve_0 ?_
  refine s_iconst (v := 0) hK dX7_carve_1 (by decide) ?_
  refine s_putg (ci := 7) (k := 0) (ty := .int) hK rfl rfl i_7 (by decide +kernel) dX7_carve_2 tyX7_ok nmX7 (by decide) (by decide) (by decide) rfl rfl rfl (by decide +kernel) rfl rfl ?_
  rw [thr h0]
  refine s_iload1 hK dX7_carve_5 ?_
  refine s_iconst (v := 0) hK dX7_carve_6 (by decide) ?_
  refine s_iconst (v := 1) hK dX7_carve_7 (by decide) ?_
  refine s_callS hK mdX7_in (zX7_in _ _ _) gX7_carve_X7_in rfl ⟨Nat.le_of_ble_eq_true rfl, Nat.le_of_ble_eq_true rfl⟩ rfl (Nat.le_of_ble_eq_true rfl) dX7_carve_8 ?_
  try dsimp only [Option.toList, List.cons_append, List.nil_append]
  refine s_if_eq (tgt := 32) hK dX7_carve_11 (by decide) (fun c_11 => absurd c_11 (b2y' (by decide))) (fun c_11 => ?_)
  refine s_iload2 hK dX7_carve_14 ?_
  refine s_iload3 hK dX7_carve_15 ?_
  refine s_callS hK mdX7_isCell (zX7_isCell _ _) gX7_carve_X7_isCell rfl ⟨Nat.le_of_ble_eq_true rfl, Nat.le_of_ble_eq_true rfl⟩ rfl (Nat.le_of_ble_eq_true rfl) dX7_carve_16 ?_
  try dsimp only [Option.toList, List.cons_append, List.nil_append]
  refine s_if_eq (tgt := 32) hK dX7_carve_19 (by decide) (fun c_19 => absurd c_19 (b2y' (pl_nI hx hy))) (fun c_19 => ?_)
  refine s_iload4 hK dX7_carve_22 ?_
  refine s_iconst (v := 0) hK dX7_carve_24 (by decide) ?_
  refine s_iconst (v := 1) hK dX7_carve_25 (by decide) ?_
  refine s_callS hK mdX7_in (zX7_in _ _ _) gX7_carve_X7_in rfl ⟨Nat.le_of_ble_eq_true rfl, Nat.le_of_ble_eq_true rfl⟩ rfl (Nat.le_of_ble_eq_true rfl) dX7_carve_26 ?_
  try dsimp only [Option.toList, List.cons_append, List.nil_append]
  refine s_if_ne (tgt := 36) hK dX7_carve_29 (by decide) (fun c_29 => ?_) (fun c_29 => absurd c_29 (b2y' hz))
  refine s_aload0 hK dX7_carve_36 ?_
  refine s_callV (ci := 7) hK mdX7_act (zX7_act q hq h3) gX7_carve_X7_act rfl rfl rfl (by decide) rfl ⟨Nat.le_of_ble_eq_true rfl, Nat.le_of_ble_eq_true rfl⟩ rfl (Nat.le_of_ble_eq_true rfl) dX7_carve_37 ?_
  try dsimp only [Option.toList, List.cons_append, List.nil_append]
  refine s_iload1 hK dX7_carve_40 ?_
  refine s_if_ne (tgt := 50) hK dX7_carve_41 (by decide) (fun c_41 => absurd c_41 (fun q => q rfl)) (fun c_41 => ?_)
  refine s_sipush (v := 192) hK dX7_carve_44 (by decide) ?_
  refine s_goto (tgt := 53) hK dX7_carve_47 (by decide) ?_
  refine s_bipush (v := 16) hK dX7_carve_53 (by decide) ?_
  refine s_iload3 hK dX7_carve_55 ?_
  refine s_imul hK dX7_carve_56 ?_
  refine s_iadd hK dX7_carve_57 ?_
  refine s_iload2 hK dX7_carve_58 ?_
  refine s_iadd hK dX7_carve_59 ?_
  rw [show (192 : Int32) + 16 * nI y + nI x = nI (192 + (16 * y + x)) from by rw [show (16 : Int32) = nI 16 from rfl, show (192 : Int32) = nI 192 from rfl, pk_mul, nI_add, nI_add, Nat.add_assoc]]
  refine s_istore5 hK dX7_carve_60 ?_
  refine s_aload0 hK dX7_carve_62 ?_
  refine s_getr (ci := 7) (k := 1) hK rfl rfl i_7 (by decide +kernel) dX7_carve_63 (by decide) (by decide) (by decide) rfl rfl (rf_7_1 rfl) ?_
  refine s_iload5 hK dX7_carve_66 ?_
  refine s_iald hK rfl (show vp_in _ 2374 from vp_in_nI (show 192 + (16 * y + x) < 2374 by omega) (by decide)) dX7_carve_68 ?_
  rw [cl_nI (show 192 + (16 * y + x) < 2 ^ 31 by omega)]
  rw [aX_701]
  refine s_istore6 hK dX7_carve_69 ?_
  refine s_aload0 hK dX7_carve_71 ?_
  refine s_getr (ci := 7) (k := 1) hK rfl rfl i_7 (by decide +kernel) dX7_carve_72 (by decide) (by decide) (by decide) rfl rfl (rf_7_1 rfl) ?_
  refine s_iload5 hK dX7_carve_75 ?_
  refine s_iload4 hK dX7_carve_77 ?_
  refine s_iast hK rfl (show vp_in _ 2374 from vp_in_nI (show 192 + (16 * y + x) < 2374 by omega) (by decide)) dX7_carve_79 ?_
  rw [cl_nI (show 192 + (16 * y + x) < 2 ^ 31 by omega)]
  refine s_iload1 hK dX7_carve_80 ?_
  refine s_if_ne (tgt := 100) hK dX7_carve_81 (by decide) (fun c_81 => absurd c_81 (fun q => q rfl)) (fun c_81 => ?_)
  refine s_aload0 hK dX7_carve_84 ?_
  refine s_getr (ci := 7) (k := 1) hK rfl rfl i_7 (by decide +kernel) dX7_carve_85 (by decide) (by decide) (by decide) rfl rfl (rf_7_1 rfl) ?_
  refine s_sipush (v := 384) hK dX7_carve_88 (by decide) ?_
  refine s_bipush (v := 16) hK dX7_carve_91 (by decide) ?_
  refine s_iload3 hK dX7_carve_93 ?_
  refine s_imul hK dX7_carve_94 ?_
  refine s_iadd hK dX7_carve_95 ?_
  refine s_iload2 hK dX7_carve_96 ?_
  refine s_iadd hK dX7_carve_97 ?_
  rw [show (384 : Int32) + 16 * nI y + nI x = nI (384 + (16 * y + x)) from by rw [show (16 : Int32) = nI 16 from rfl, show (384 : Int32) = nI 384 from rfl, pk_mul, nI_add, nI_add, Nat.add_assoc]]
  refine s_iconst (v := 0) hK dX7_carve_98 (by decide) ?_
  refine s_iast hK rfl (show vp_in _ 2374 from vp_in_nI (show 384 + (16 * y + x) < 2374 by omega) (by decide)) dX7_carve_99 ?_
  rw [cl_nI (show 384 + (16 * y + x) < 2 ^ 31 by omega)]
  refine s_iload6 hK dX7_carve_100 ?_
  exact s_iret hK hE dX7_carve_102 rfl (rfl) (rfl)
set_option maxHeartbeats 4000000 in
set_option maxRecDepth 100000 in
theorem zX7_carve_1 {g : aG} {l : Launch} {σ : aS} (h0 : σ 700 0 = 0) (q x y : Nat) (z : Int32) (hq : q ≤ 5) (h3 : σ 700 3 = nI q) (hx : x < 16) (hy : y < 12) (hz : wi z 0 1 = true) : CN g l yX7_carve wsX7_carve 2 43 [.ref 700, .int 1, .int (nI x), .int (nI y), .int z] σ (some (.int (σ 701 (576 + (16 * y + x))))) (s7 (aX σ q) (576 + (16 * y + x)) z) := by
  refine cn_of (cc := cX7_carve) (nL := 7) (ret := (some .int)) (own := RX7) (by decide +kernel) rfl rfl (Nat.le_of_ble_eq_true rfl) (fun K hg hl hK hE => ?_)
  subst hg; subst hl
  have i_7 : ∀ w ∈ u_ws RX7 TX7 15, w ∈ wsX7_carve := by decide +kernel
  show AW K 0 [some (.ref 700), some (.int 1), some (.int (nI x)), some (.int (nI y)), some (.int z), none, none] [] σ
  refine s_aload0 hK dX7_carve_0 ?_
  refine s_iconst (v := 0) hK dX7_carve_1 (by decide) ?_
  refine s_putg (ci := 7) (k := 0) (ty := .int) hK rfl rfl i_7 (by decide +kernel) dX7_carve_2 tyX7_ok nmX7 (by decide) (by decide) (by decide) rfl rfl rfl (by decide +kernel) rfl rfl ?_
  rw [thr h0]
  refine s_iload1 hK dX7_carve_5 ?_
  refine s_iconst (v := 0) hK dX7_carve_6 (by decide) ?_
  refine s_iconst (v := 1) hK dX7_carve_7 (by decide) ?_
  refine s_callS hK mdX7_in (zX7_in _ _ _) gX7_carve_X7_in rfl ⟨Nat.le_of_ble_eq_true rfl, Nat.le_of_ble_eq_true rfl⟩ rfl (Nat.le_of_ble_eq_true rfl) dX7_carve_8 ?_
  try dsimp only [Option.toList, List.cons_append, List.nil_append]
  refine s_if_eq (tgt := 32) hK dX7_carve_11 (by decide) (fun c_11 => absurd c_11 (b2y' (by decide))) (fun c_11 => ?_)
  refine s_iload2 hK dX7_carve_14 ?_
  refine s_iload3 hK dX7_carve_15 ?_
  refine s_callS hK mdX7_isCell (zX7_isCell _ _) gX7_carve_X7_isCell rfl ⟨Nat.le_of_ble_eq_true rfl, Nat.le_of_ble_eq_true rfl⟩ rfl (Nat.le_of_ble_eq_true rfl) dX7_carve_16 ?_
  try dsimp only [Option.toList, List.cons_append, List.nil_append]
  refine s_if_eq (tgt := 32) hK dX7_carve_19 (by decide) (fun c_19 => absurd c_19 (b2y' (pl_nI hx hy))) (fun c_19 => ?_)
  refine s_iload4 hK dX7_carve_22 ?_
  refine s_iconst (v := 0) hK dX7_carve_24 (by decide) ?_
  refine s_iconst (v := 1) hK dX7_carve_25 (by decide) ?_
  refine s_callS hK mdX7_in (zX7_in _ _ _) gX7_carve_X7_in rfl ⟨Nat.le_of_ble_eq_true rfl, Nat.le_of_ble_eq_true rfl⟩ rfl (Nat.le_of_ble_eq_true rfl) dX7_carve_26 ?_
  try dsimp only [Option.toList, List.cons_append, List.nil_append]
  refine s_if_ne (tgt := 36) hK dX7_carve_29 (by decide) (fun c_29 => ?_) (fun c_29 => absurd c_29 (b2y' hz))
  refine s_aload0 hK dX7_carve_36 ?_
  refine s_callV (ci := 7) hK mdX7_act (zX7_act q hq h3) gX7_carve_X7_act rfl rfl rfl (by decide) rfl ⟨Nat.le_of_ble_eq_true rfl, Nat.le_of_ble_eq_true rfl⟩ rfl (Nat.le_of_ble_eq_true rfl) dX7_carve_37 ?_
  try dsimp only [Option.toList, List.cons_append, List.nil_append]
  refine s_iload1 hK dX7_carve_40 ?_
  refine s_if_ne (tgt := 50) hK dX7_carve_41 (by decide) (fun c_41 => ?_) (fun c_41 => absurd c_41 (by decide))
  refine s_sipush (v := 576) hK dX7_carve_50 (by decide) ?_
  refine s_bipush (v := 16) hK dX7_carve_53 (by decide) ?_
  refine s_iload3 hK dX7_carve_55 ?_
  refine s_imul hK dX7_carve_56 ?_
  refine s_iadd hK dX7_carve_57 ?_
  refine s_iload2 hK dX7_carve_58 ?_
  refine s_iadd hK dX7_carve_59 ?_
  rw [show (576 : Int32) + 16 * nI y + nI x = nI (576 + (16 * y + x)) from by rw [show (16 : Int32) = nI 16 from rfl, show (576 : Int32) = nI 576 from rfl, pk_mul, nI_add, nI_add, Nat.add_assoc]]
  refine s_istore5 hK dX7_carve_60 ?_
  refine s_aload0 hK dX7_carve_62 ?_
  refine s_getr (ci := 7) (k := 1) hK rfl rfl i_7 (by decide +kernel) dX7_carve_63 (by decide) (by decide) (by decide) rfl rfl (rf_7_1 rfl) ?_
  refine s_iload5 hK dX7_carve_66 ?_
  refine s_iald hK rfl (show vp_in _ 2374 from vp_in_nI (show 576 + (16 * y + x) < 2374 by omega) (by decide)) dX7_carve_68 ?_
  rw [cl_nI (show 576 + (16 * y + x) < 2 ^ 31 by omega)]
  rw [aX_701]
  refine s_istore6 hK dX7_carve_69 ?_
  refine s_aload0 hK dX7_carve_71 ?_
  refine s_getr (ci := 7) (k := 1) hK rfl rfl i_7 (by decide +kernel) dX7_carve_72 (by decide) (by decide) (by decide) rfl rfl (rf_7_1 rfl) ?_
  refine s_iload5 hK dX7_carve_75 ?_
  refine s_iload4 hK dX7_carve_77 ?_
  refine s_iast hK rfl (show vp_in _ 2374 from vp_in_nI (show 576 + (16 * y + x) < 2374 by omega) (by decide)) dX7_carve_79 ?_
  rw [cl_nI (show 576 + (16 * y + x) < 2 ^ 31 by omega)]
  refine s_iload1 hK dX7_carve_80 ?_
  refine s_if_ne (tgt := 100) hK dX7_carve_81 (by decide) (fun c_81 => ?_) (fun c_81 => absurd c_81 (by decide))
  refine s_iload6 hK dX7_carve_100 ?_
  exact s_iret hK hE dX7_carve_102 rfl (rfl) (rfl)
set_option maxHeartbeats 4000000 in
set_option maxRecDepth 100000 in
theorem zX7_plug_bad {g : aG} {l : Launch} {σ : aS} (h0 : σ 700 0 = 0) (x y : Int32) (hbad : pl x y = false) : CN g l yX7_plug wsX7_plug 2 43 [.ref 700, .int x, .int y] σ (some (.int (-1001))) σ := by
  refine cn_of (cc := cX7_plug) (nL := 3) (ret := (some .int)) (own := RX7) (by decide +kernel) rfl rfl (Nat.le_of_ble_eq_true rfl) (fun K hg hl hK hE => ?_)
  subst hg; subst hl
  have i_7 : ∀ w ∈ u_ws RX7 TX7 15, w ∈ wsX7_plug := by decide +kernel
  show AW K 0 [some (.ref 700), some (.int x), some (.int y)] [] σ
  refine s_aload0 hK dX7_plug_0 ?_
  refine s_iconst (v := 0) hK dX7_plug_1 (by decide) ?_
  refine s_putg (ci := 7) (k := 0) (ty := .int) hK rfl rfl i_7 (by decide +kernel) dX7_plug_2 tyX7_ok nmX7 (by decide) (by decide) (by decide) rfl rfl rfl (by decide +kernel) rfl rfl ?_
  rw [thr h0]
  refine s_iload1 hK dX7_plug_5 ?_
  refine s_iload2 hK dX7_plug_6 ?_
  refine s_callS hK mdX7_isCell (zX7_isCell _ _) gX7_plug_X7_isCell rfl ⟨Nat.le_of_ble_eq_true rfl, Nat.le_of_ble_eq_true rfl⟩ rfl (Nat.le_of_ble_eq_true rfl) dX7_plug_7 ?_
  try dsimp only [Option.toList, List.cons_append, List.nil_append]
  refine s_if_ne (tgt := 17) hK dX7_plug_10 (by decide) (fun c_10 => absurd c_10 (fun q => q (b2f hbad))) (fun c_10 => ?_)
  refine s_sipush (v := -1001) hK dX7_plug_13 (by decide) ?_
  exact s_iret hK hE dX7_plug_16 rfl (rfl) (rfl)
set_option maxHeartbeats 4000000 in
set_option maxRecDepth 100000 in
theorem zX7_plug_ill {g : aG} {l : Launch} {σ : aS} (h0 : σ 700 0 = 0) (x y : Nat) (hx : x < 16) (hy : y < 12) (hbad : wM σ (16 * y + x) = false) : CN g l yX7_plug wsX7_plug 2 43 [.ref 700, .int (nI x), .int (nI y)] σ (some (.int (-1002))) σ := by
  refine cn_of (cc := cX7_plug) (nL := 3) (ret := (some .int)) (own := RX7) (by decide +kernel) rfl rfl (Nat.le_of_ble_eq_true rfl) (fun K hg hl hK hE => ?_)
  subst hg; subst hl
  have i_7 : ∀ w ∈ u_ws RX7 TX7 15, w ∈ wsX7_plug := by decide +kernel
  show AW K 0 [some (.ref 700), some (.int (nI x)), some (.int (nI y))] [] σ
  refine s_aload0 hK dX7_plug_0 ?_
  refine s_iconst (v := 0) hK dX7_plug_1 (by decide) ?_
  refine s_putg (ci := 7) (k := 0) (ty := .int) hK rfl rfl i_7 (by decide +kernel) dX7_plug_2 tyX7_ok nmX7 (by decide) (by decide) (by decide) rfl rfl rfl (by decide +kernel) rfl rfl ?_
  rw [thr h0]
  refine s_iload1 hK dX7_plug_5 ?_
  refine s_iload2 hK dX7_plug_6 ?_
  refine s_callS hK mdX7_isCell (zX7_isCell _ _) gX7_plug_X7_isCell rfl ⟨Nat.le_of_ble_eq_true rfl, Nat.le_of_ble_eq_true rfl⟩ rfl (Nat.le_of_ble_eq_true rfl) dX7_plug_7 ?_
  try dsimp only [Option.toList, List.cons_append, List.nil_append]
  refine s_if_ne (tgt := 17) hK dX7_plug_10 (by decide) (fun c_10 => ?_) (fun c_10 => absurd c_10 (b2y' (pl_nI hx hy)))
  refine s_aload0 hK dX7_plug_17 ?_
  refine s_bipush (v := 16) hK dX7_plug_18 (by decide) ?_
  refine s_iload2 hK dX7_plug_20 ?_
  refine s_imul hK dX7_plug_21 ?_
  refine s_iload1 hK dX7_plug_22 ?_
  refine s_iadd hK dX7_plug_23 ?_
  rw [show (16 : Int32) * nI y + nI x = nI (16 * y + x) from by rw [show (16 : Int32) = nI 16 from rfl, pk_mul, nI_add]]
  refine s_callV (ci := 7) hK mdX7_isWorn (zX7_isWorn (16 * y + x) (by omega)) gX7_plug_X7_isWorn rfl rfl rfl (by decide) rfl ⟨Nat.le_of_ble_eq_true rfl, Nat.le_of_ble_eq_true rfl⟩ rfl (Nat.le_of_ble_eq_true rfl) dX7_plug_24 ?_
  try dsimp only [Option.toList, List.cons_append, List.nil_append]
  refine s_if_ne (tgt := 34) hK dX7_plug_27 (by decide) (fun c_27 => absurd c_27 (fun q => q (b2f hbad))) (fun c_27 => ?_)
  refine s_sipush (v := -1002) hK dX7_plug_30 (by decide) ?_
  exact s_iret hK hE dX7_plug_33 rfl (rfl) (rfl)
set_option maxHeartbeats 4000000 in
set_option maxRecDepth 100000 in
theorem zX7_plug_ok {g : aG} {l : Launch} {σ : aS} (h0 : σ 700 0 = 0) (q x y : Nat) (hq : q ≤ 5) (h3 : σ 700 3 = nI q) (hx : x < 16) (hy : y < 12) (hw : wM σ (16 * y + x) = true) : CN g l yX7_plug wsX7_plug 2 43 [.ref 700, .int (nI x), .int (nI y)] σ (some (.int (nI (ct (wM (s7 (aX σ q) (384 + (16 * y + x)) 0)))))) (s7 (aX σ q) (384 + (16 * y + x)) 0) := by
  refine cn_of (cc := cX7_plug) (nL := 3) (ret := (some .int)) (own := RX7) (by decide +kernel) rfl rfl (Nat.le_of_ble_eq_true rfl) (fun K hg hl hK hE => ?_)
  subst hg; subst hl
  have i_7 : ∀ w ∈ u_ws RX7 TX7 15, w ∈ wsX7_plug := by decide +kernel
  show AW K 0 [some (.ref 700), some (.int (nI x)), some (.int (nI y))] [] σ
  refine s_aload0 hK dX7_plug_0 ?_
  refine s_iconst (v := 0) hK dX7_plug_1 (by decide) ?_
  refine s_putg (ci := 7) (k := 0) (ty := .int) hK rfl rfl i_7 (by decide +kernel) dX7_plug_2 tyX7_ok nmX7 (by decide) (by decide) (by decide) rfl rfl rfl (by decide +kernel) rfl rfl ?_
  rw [thr h0]
  refine s_iload1 hK dX7_plug_5 ?_
  refine s_iload2 hK dX7_plug_6 ?_
  refine s_callS hK mdX7_isCell (zX7_isCell _ _) gX7_plug_X7_isCell rfl ⟨Nat.le_of_ble_eq_true rfl, Nat.le_of_ble_eq_true rfl⟩ rfl (Nat.le_of_ble_eq_true rfl) dX7_plug_7 ?_
  try dsimp only [Option.toList, List.cons_append, List.nil_append]
  refine s_if_ne (tgt := 17) hK dX7_plug_10 (by decide) (fun c_10 => ?_) (fun c_10 => absurd c_10 (b2y' (pl_nI hx hy)))
  refine s_aload0 hK dX7_plug_17 ?_
  refine s_bipush (v := 16) hK dX7_plug_18 (by decide) ?_
  refine s_iload2 hK dX7_plug_20 ?_
  refine s_imul hK dX7_plug_21 ?_
  refine s_iload1 hK dX7_plug_22 ?_
  refine s_iadd hK dX7_plug_23 ?_
  rw [show (16 : Int32) * nI y + nI x = nI (16 * y + x) from by rw [show (16 : Int32) = nI 16 from rfl, pk_mul, nI_add]]
  refine s_callV (ci := 7) hK mdX7_isWorn (zX7_isWorn (16 * y + x) (by omega)) gX7_plug_X7_isWorn rfl rfl rfl (by decide) rfl ⟨Nat.le_of_ble_eq_true rfl, Nat.le_of_ble_eq_true rfl⟩ rfl (Nat.le_of_ble_eq_true rfl) dX7_plug_24 ?_
  try dsimp only [Option.toList, List.cons_append, List.nil_append]
  refine s_if_ne (tgt := 34) hK dX7_plug_27 (by decide) (fun c_27 => ?_) (fun c_27 => absurd c_27 (b2y' hw))
  refine s_aload0 hK dX7_plug_34 ?_
  refine s_callV (ci := 7) hK mdX7_act (zX7_act q hq h3) gX7_plug_X7_act rfl rfl rfl (by decide) rfl ⟨Nat.le_of_ble_eq_true rfl, Nat.le_of_ble_eq_true rfl⟩ rfl (Nat.le_of_ble_eq_true rfl) dX7_plug_35 ?_
  try dsimp only [Option.toList, List.cons_append, List.nil_append]
  refine s_aload0 hK dX7_plug_38 ?_
  refine s_getr (ci := 7) (k := 1) hK rfl rfl i_7 (by decide +kernel) dX7_plug_39 (by decide) (by decide) (by decide) rfl rfl (rf_7_1 rfl) ?_
  refine s_sipush (v := 384) hK dX7_plug_42 (by decide) ?_
  refine s_bipush (v := 16) hK dX7_plug_45 (by decide) ?_
  refine s_iload2 hK dX7_plug_47 ?_
  refine s_imul hK dX7_plug_48 ?_
  refine s_iadd hK dX7_plug_49 ?_
  refine s_iload1 hK dX7_plug_50 ?_
  refine s_iadd hK dX7_plug_51 ?_
  rw [show (384 : Int32) + 16 * nI y + nI x = nI (384 + (16 * y + x)) from by rw [show (16 : Int32) = nI 16 from rfl, show (384 : Int32) = nI 384 from rfl, pk_mul, nI_add, nI_add, Nat.add_assoc]]
  refine s_iconst (v := 0) hK dX7_plug_52 (by decide) ?_
  refine s_iast hK rfl (show vp_in _ 2374 from vp_in_nI (show 384 + (16 * y + x) < 2374 by omega) (by decide)) dX7_plug_53 ?_
  rw [cl_nI (show 384 + (16 * y + x) < 2 ^ 31 by omega)]
  refine s_aload0 hK dX7_plug_54 ?_
  refine s_callV (ci := 7) hK mdX7_wornCells (zX7_wornCells) gX7_plug_X7_wornCells rfl rfl rfl (by decide) rfl ⟨Nat.le_of_ble_eq_true rfl, Nat.le_of_ble_eq_true rfl⟩ rfl (Nat.le_of_ble_eq_true rfl) dX7_plug_55 ?_
  try dsimp only [Option.toList, List.cons_append, List.nil_append]
  exact s_iret hK hE dX7_plug_58 rfl (rfl) (rfl)
set_option maxHeartbeats 4000000 in
set_option maxRecDepth 100000 in
theorem zX7_setPins_bad {g : aG} {l : Launch} {σ : aS} (h0 : σ 700 0 = 0) (a b : Int32) (hbad : (wi a (-4) 4 && wi b (-4) 4) = false) : CN g l yX7_setPins wsX7_setPins 6 137 [.ref 700, .int a, .int b] σ (some (.int (-1001))) σ := by
  refine cn_of (cc := cX7_setPins) (nL := 3) (ret := (some .int)) (own := RX7) (by decide +kernel) rfl rfl (Nat.le_of_ble_eq_true rfl) (fun K hg hl hK hE => ?_)
  subst hg; subst hl
  have i_7 : ∀ w ∈ u_ws RX7 TX7 15, w ∈ wsX7_setPins := by decide +kernel
  show AW K 0 [some (.ref 700), some (.int a), some (.int b)] [] σ
  refine s_aload0 hK dX7_setPins_0 ?_
  refine s_iconst (v := 0) hK dX7_setPins_1 (by decide) ?_
  refine s_putg (ci := 7) (k := 0) (ty := .int) hK rfl rfl i_7 (by decide +kernel) dX7_setPins_2 tyX7_ok nmX7 (by decide) (by decide) (by decide) rfl rfl rfl (by decide +kernel) rfl rfl ?_
  rw [thr h0]
  refine s_iload1 hK dX7_setPins_5 ?_
  refine s_bipush (v := -4) hK dX7_setPins_6 (by decide) ?_
  refine s_iconst (v := 4) hK dX7_setPins_8 (by decide) ?_
  refine s_callS hK mdX7_in (zX7_in _ _ _) gX7_setPins_X7_in rfl ⟨Nat.le_of_ble_eq_true rfl, Nat.le_of_ble_eq_true rfl⟩ rfl (Nat.le_of_ble_eq_true rfl) dX7_setPins_9 ?_
  try dsimp only [Option.toList, List.cons_append, List.nil_append]
  refine s_if_eq (tgt := 25) hK dX7_setPins_12 (by decide) (fun c_12 => ?_) (fun c_12 => ?_)
  · refine s_sipush (v := -1001) hK dX7_setPins_25 (by decide) ?_
    exact s_iret hK hE dX7_setPins_28 rfl (rfl) (rfl)
  · refine s_iload2 hK dX7_setPins_15 ?_
    refine s_bipush (v := -4) hK dX7_setPins_16 (by decide) ?_
    refine s_iconst (v := 4) hK dX7_setPins_18 (by decide) ?_
    refine s_callS hK mdX7_in (zX7_in _ _ _) gX7_setPins_X7_in rfl ⟨Nat.le_of_ble_eq_true rfl, Nat.le_of_ble_eq_true rfl⟩ rfl (Nat.le_of_ble_eq_true rfl) dX7_setPins_19 ?_
    try dsimp only [Option.toList, List.cons_append, List.nil_append]
    refine s_if_ne (tgt := 29) hK dX7_setPins_22 (by decide) (fun c_22 => ?_) (fun c_22 => ?_)
    · exact absurd hbad (by simp [b2n c_12, b2n c_22])
    · refine s_sipush (v := -1001) hK dX7_setPins_25 (by decide) ?_
      exact s_iret hK hE dX7_setPins_28 rfl (rfl) (rfl)
set_option maxHeartbeats 4000000 in
set_option maxRecDepth 100000 in
theorem zX7_setPins_ok {g : aG} {l : Launch} {σ : aS} (h0 : σ 700 0 = 0) (q : Nat) (a b : Int32) (hq : q ≤ 5) (h3 : σ 700 3 = nI q) (ha : wi a (-4) 4 = true) (hb : wi b (-4) 4 = true) : CN g l yX7_setPins wsX7_setPins 6 137 [.ref 700, .int a, .int b] σ (some (.int (cNw (s7 (s7 (aX σ q) 773 a) 774 b) 700 8))) (cNw (s7 (s7 (aX σ q) 773 a) 774 b)) := by
  refine cn_of (cc := cX7_setPins) (nL := 3) (ret := (some .int)) (own := RX7) (by decide +kernel) rfl rfl (Nat.le_of_ble_eq_true rfl) (fun K hg hl hK hE => ?_)
  subst hg; subst hl
  have i_7 : ∀ w ∈ u_ws RX7 TX7 15, w ∈ wsX7_setPins := by decide +kernel
  show AW K 0 [some (.ref 700), some (.int a), some (.int b)] [] σ
  refine s_aload0 hK dX7_setPins_0 ?_
  refine s_iconst (v := 0) hK dX7_setPins_1 (by decide) ?_
  refine s_putg (ci := 7) (k := 0) (ty := .int) hK rfl rfl i_7 (by decide +kernel) dX7_setPins_2 tyX7_ok nmX7 (by decide) (by decide) (by decide) rfl rfl rfl (by decide +kernel) rfl rfl ?_
  rw [thr h0]
  refine s_iload1 hK dX7_setPins_5 ?_
  refine s_bipush (v := -4) hK dX7_setPins_6 (by decide) ?_
  refine s_iconst (v := 4) hK dX7_setPins_8 (by decide) ?_
  refine s_callS hK mdX7_in (zX7_in _ _ _) gX7_setPins_X7_in rfl ⟨Nat.le_of_ble_eq_true rfl, Nat.le_of_ble_eq_true rfl⟩ rfl (Nat.le_of_ble_eq_true rfl) dX7_setPins_9 ?_
  try dsimp only [Option.toList, List.cons_append, List.nil_append]
  refine s_if_eq (tgt := 25) hK dX7_setPins_12 (by decide) (fun c_12 => absurd c_12 (b2y' ha)) (fun c_12 => ?_)
  refine s_iload2 hK dX7_setPins_15 ?_
  refine s_bipush (v := -4) hK dX7_setPins_16 (by decide) ?_
  refine s_iconst (v := 4) hK dX7_setPins_18 (by decide) ?_
  refine s_callS hK mdX7_in (zX7_in _ _ _) gX7_setPins_X7_in rfl ⟨Nat.le_of_ble_eq_true rfl, Nat.le_of_ble_eq_true rfl⟩ rfl (Nat.le_of_ble_eq_true rfl) dX7_setPins_19 ?_
  try dsimp only [Option.toList, List.cons_append, List.nil_append]
  refine s_if_ne (tgt := 29) hK dX7_setPins_22 (by decide) (fun c_22 => ?_) (fun c_22 => absurd c_22 (b2y' hb))
  refine s_aload0 hK dX7_setPins_29 ?_
  refine s_callV (ci := 7) hK mdX7_act (zX7_act q hq h3) gX7_setPins_X7_act rfl rfl rfl (by decide) rfl ⟨Nat.le_of_ble_eq_true rfl, Nat.le_of_ble_eq_true rfl⟩ rfl (Nat.le_of_ble_eq_true rfl) dX7_setPins_30 ?_
  try dsimp only [Option.toList, List.cons_append, List.nil_append]
  refine s_aload0 hK dX7_setPins_33 ?_
  refine s_getr (ci := 7) (k := 1) hK rfl rfl i_7 (by decide +kernel) dX7_setPins_34 (by decide) (by decide) (by decide) rfl rfl (rf_7_1 rfl) ?_
  refine s_sipush (v := 773) hK dX7_setPins_37 (by decide) ?_
  refine s_iload1 hK dX7_setPins_40 ?_
  refine s_iast hK rfl (show vp_in _ 2374 from vp_in_nI (n := 773) (by decide) (by decide)) dX7_setPins_41 ?_
  show AW K _ _ _ (s7 (aX σ q) 773 a)
  refine s_aload0 hK dX7_setPins_42 ?_
  refine s_getr (ci := 7) (k := 1) hK rfl rfl i_7 (by decide +kernel) dX7_setPins_43 (by decide) (by decide) (by decide) rfl rfl (rf_7_1 rfl) ?_
  refine s_sipush (v := 774) hK dX7_setPins_46 (by decide) ?_
  refine s_iload2 hK dX7_setPins_49 ?_
  refine s_iast hK rfl (show vp_in _ 2374 from vp_in_nI (n := 774) (by decide) (by decide)) dX7_setPins_50 ?_
  show AW K _ _ _ (s7 (s7 (aX σ q) 773 a) 774 b)
  refine s_aload0 hK dX7_setPins_51 ?_
  refine s_callV (ci := 7) hK mdX7_checkNow (zX7_checkNow) gX7_setPins_X7_checkNow rfl rfl rfl (by decide) rfl ⟨Nat.le_of_ble_eq_true rfl, Nat.le_of_ble_eq_true rfl⟩ rfl (Nat.le_of_ble_eq_true rfl) dX7_setPins_52 ?_
  try dsimp only [Option.toList, List.cons_append, List.nil_append]
  refine s_aload0 hK dX7_setPins_55 ?_
  refine s_geti (ci := 7) (k := 8) hK rfl rfl i_7 (by decide +kernel) dX7_setPins_56 (by decide) (by decide) (by decide) rfl rfl ?_
  exact s_iret hK hE dX7_setPins_59 rfl (rfl) (rfl)
def stG (k : Nat) (v : Int32) : Bool := wi v (tlo.getD k 0) (thi.getD k 0)
set_option maxHeartbeats 4000000 in
set_option maxRecDepth 100000 in
theorem zX7_isSetting_0 {g : aG} {l : Launch} {σ : aS} (v : Int32) : CN g l yX7_isSetting wsX7_isSetting 1 22 [.int 0, .int v] σ (some (.int (b2 (stG 0 v)))) σ := by
  refine cn_of (cc := cX7_isSetting) (nL := 2) (ret := (some .boolean)) (own := RX7) (by decide +kernel) rfl rfl (Nat.le_of_ble_eq_true rfl) (fun K hg hl hK hE => ?_)
  subst hg; subst hl
  show AW K 0 [some (.int 0), some (.int v)] [] σ
  refine s_iload0 hK dX7_isSetting_0 ?_
  refine s_tableIn (tgt := 36) hK dX7_isSetting_1 (by decide) (by decide) (off := 35) (by decide) (by decide) ?_
  refine s_iload1 hK dX7_isSetting_36 ?_
  refine s_iconst (v := 0) hK dX7_isSetting_37 (by decide) ?_
  refine s_bipush (v := 100) hK dX7_isSetting_38 (by decide) ?_
  refine s_callS hK mdX7_in (zX7_in _ _ _) gX7_isSetting_X7_in rfl ⟨Nat.le_of_ble_eq_true rfl, Nat.le_of_ble_eq_true rfl⟩ rfl (Nat.le_of_ble_eq_true rfl) dX7_isSetting_40 ?_
  try dsimp only [Option.toList, List.cons_append, List.nil_append]
  exact s_iret hK hE dX7_isSetting_43 (b2_z _) (rfl) (rfl)
set_option maxHeartbeats 4000000 in
set_option maxRecDepth 100000 in
theorem zX7_isSetting_1 {g : aG} {l : Launch} {σ : aS} (v : Int32) : CN g l yX7_isSetting wsX7_isSetting 1 22 [.int 1, .int v] σ (some (.int (b2 (stG 1 v)))) σ := by
  refine cn_of (cc := cX7_isSetting) (nL := 2) (ret := (some .boolean)) (own := RX7) (by decide +kernel) rfl rfl (Nat.le_of_ble_eq_true rfl) (fun K hg hl hK hE => ?_)
  subst hg; subst hl
  show AW K 0 [some (.int 1), some (.int v)] [] σ
  refine s_iload0 hK dX7_isSetting_0 ?_
  refine s_tableIn (tgt := 44) hK dX7_isSetting_1 (by decide) (by decide) (off := 43) (by decide) (by decide) ?_
  refine s_iload1 hK dX7_isSetting_44 ?_
  refine s_bipush (v := -4) hK dX7_isSetting_45 (by decide) ?_
  refine s_iconst (v := 4) hK dX7_isSetting_47 (by decide) ?_
  refine s_callS hK mdX7_in (zX7_in _ _ _) gX7_isSetting_X7_in rfl ⟨Nat.le_of_ble_eq_true rfl, Nat.le_of_ble_eq_true rfl⟩ rfl (Nat.le_of_ble_eq_true rfl) dX7_isSetting_48 ?_
  try dsimp only [Option.toList, List.cons_append, List.nil_append]
  exact s_iret hK hE dX7_isSetting_51 (b2_z _) (rfl) (rfl)
set_option maxHeartbeats 4000000 in
set_option maxRecDepth 100000 in
theorem zX7_isSetting_2 {g : aG} {l : Launch} {σ : aS} (v : Int32) : CN g l yX7_isSetting wsX7_isSetting 1 22 [.int 2, .int v] σ (some (.int (b2 (stG 2 v)))) σ := by
  refine cn_of (cc := cX7_isSetting) (nL := 2) (ret := (some .boolean)) (own := RX7) (by decide +kernel) rfl rfl (Nat.le_of_ble_eq_true rfl) (fun K hg hl hK hE => ?_)
  subst hg; subst hl
  show AW K 0 [some (.int 2), some (.int v)] [] σ
  refine s_iload0 hK dX7_isSetting_0 ?_
  refine s_tableIn (tgt := 44) hK dX7_isSetting_1 (by decide) (by decide) (off := 43) (by decide) (by decide) ?_
  refine s_iload1 hK dX7_isSetting_44 ?_
  refine s_bipush (v := -4) hK dX7_isSetting_45 (by decide) ?_
  refine s_iconst (v := 4) hK dX7_isSetting_47 (by decide) ?_
  refine s_callS hK mdX7_in (zX7_in _ _ _) gX7_isSetting_X7_in rfl ⟨Nat.le_of_ble_eq_true rfl, Nat.le_of_ble_eq_true rfl⟩ rfl (Nat.le_of_ble_eq_true rfl) dX7_isSetting_48 ?_
  try dsimp only [Option.toList, List.cons_append, List.nil_append]
  exact s_iret hK hE dX7_isSetting_51 (b2_z _) (rfl) (rfl)
set_option maxHeartbeats 4000000 in
set_option maxRecDepth 100000 in
theorem zX7_isSetting_3 {g : aG} {l : Launch} {σ : aS} (v : Int32) : CN g l yX7_isSetting wsX7_isSetting 1 22 [.int 3, .int v] σ (some (.int (b2 (stG 3 v)))) σ := by
  refine cn_of (cc := cX7_isSetting) (nL := 2) (ret := (some .boolean)) (own := RX7) (by decide +kernel) rfl rfl (Nat.le_of_ble_eq_true rfl) (fun K hg hl hK hE => ?_)
  subst hg; subst hl
  show AW K 0 [some (.int 3), some (.int v)] [] σ
  refine s_iload0 hK dX7_isSetting_0 ?_
  refine s_tableIn (tgt := 52) hK dX7_isSetting_1 (by decide) (by decide) (off := 51) (by decide) (by decide) ?_
  refine s_iload1 hK dX7_isSetting_52 ?_
  refine s_iconst (v := 1) hK dX7_isSetting_53 (by decide) ?_
  refine s_sipush (v := 1000) hK dX7_isSetting_54 (by decide) ?_
  refine s_callS hK mdX7_in (zX7_in _ _ _) gX7_isSetting_X7_in rfl ⟨Nat.le_of_ble_eq_true rfl, Nat.le_of_ble_eq_true rfl⟩ rfl (Nat.le_of_ble_eq_true rfl) dX7_isSetting_57 ?_
  try dsimp only [Option.toList, List.cons_append, List.nil_append]
  exact s_iret hK hE dX7_isSetting_60 (b2_z _) (rfl) (rfl)
set_option maxHeartbeats 4000000 in
set_option maxRecDepth 100000 in
theorem zX7_isSetting_4 {g : aG} {l : Launch} {σ : aS} (v : Int32) : CN g l yX7_isSetting wsX7_isSetting 1 22 [.int 4, .int v] σ (some (.int (b2 (stG 4 v)))) σ := by
  refine cn_of (cc := cX7_isSetting) (nL := 2) (ret := (some .boolean)) (own := RX7) (by decide +kernel) rfl rfl (Nat.le_of_ble_eq_true rfl) (fun K hg hl hK hE => ?_)
  subst hg; subst hl
  show AW K 0 [some (.int 4), some (.int v)] [] σ
  refine s_iload0 hK dX7_isSetting_0 ?_
  refine s_tableIn (tgt := 61) hK dX7_isSetting_1 (by decide) (by decide) (off := 60) (by decide) (by decide) ?_
  refine s_iload1 hK dX7_isSetting_61 ?_
  refine s_iconst (v := 0) hK dX7_isSetting_62 (by decide) ?_
  refine s_bipush (v := 10) hK dX7_isSetting_63 (by decide) ?_
  refine s_callS hK mdX7_in (zX7_in _ _ _) gX7_isSetting_X7_in rfl ⟨Nat.le_of_ble_eq_true rfl, Nat.le_of_ble_eq_true rfl⟩ rfl (Nat.le_of_ble_eq_true rfl) dX7_isSetting_65 ?_
  try dsimp only [Option.toList, List.cons_append, List.nil_append]
  exact s_iret hK hE dX7_isSetting_68 (b2_z _) (rfl) (rfl)
set_option maxHeartbeats 4000000 in
set_option maxRecDepth 100000 in
theorem zX7_isSetting_out {g : aG} {l : Launch} {σ : aS} (a v : Int32) (h : a.toInt < 0 ∨ 4 < a.toInt) : CN g l yX7_isSetting wsX7_isSetting 1 22 [.int a, .int v] σ (some (.int 0)) σ := by
  refine cn_of (cc := cX7_isSetting) (nL := 2) (ret := (some .boolean)) (own := RX7) (by decide +kernel) rfl rfl (Nat.le_of_ble_eq_true rfl) (fun K hg hl hK hE => ?_)
  subst hg; subst hl
  show AW K 0 [some (.int a), some (.int v)] [] σ
  refine s_iload0 hK dX7_isSetting_0 ?_
  refine s_tableOut (tgt := 69) hK dX7_isSetting_1 h (by decide) ?_
  refine s_iconst (v := 0) hK dX7_isSetting_69 (by decide) ?_
  exact s_iret hK hE dX7_isSetting_70 (by decide) (rfl) (rfl)
theorem zX7_isSetting {g : aG} {l : Launch} {σ : aS} (k : Nat) (v : Int32) (hk : k < 5) : CN g l yX7_isSetting wsX7_isSetting 1 22 [.int (nI k), .int v] σ (some (.int (b2 (stG k v)))) σ :=
  match k, hk with
  | 0, _ => zX7_isSetting_0 v
  | 1, _ => zX7_isSetting_1 v
  | 2, _ => zX7_isSetting_2 v
  | 3, _ => zX7_isSetting_3 v
  | 4, _ => zX7_isSetting_4 v
set_option maxHeartbeats 4000000 in
set_option maxRecDepth 100000 in
theorem zX7_set_bad {g : aG} {l : Launch} {σ : aS} (h0 : σ 700 0 = 0) (a v : Int32) (h : a.toInt < 0 ∨ 4 < a.toInt) : CN g l yX7_set wsX7_set 2 43 [.ref 700, .int a, .int v] σ (some (.int (-1001))) σ := by
  refine cn_of (cc := cX7_set) (nL := 4) (ret := (some .int)) (own := RX7) (by decide +kernel) rfl rfl (Nat.le_of_ble_eq_true rfl) (fun K hg hl hK hE => ?_)
  subst hg; subst hl
  have i_7 : ∀ w ∈ u_ws RX7 TX7 15, w ∈ wsX7_set := by decide +kernel
  show AW K 0 [some (.ref 700), some (.int a), some (.int v), none] [] σ
  refine s_aload0 hK dX7_set_0 ?_
  refine s_iconst (v := 0) hK dX7_set_1 (by decide) ?_
  refine s_putg (ci := 7) (k := 0) (ty := .int) hK rfl rfl i_7 (by decide +kernel) dX7_set_2 tyX7_ok nmX7 (by decide) (by decide) (by decide) rfl rfl rfl (by decide +kernel) rfl rfl ?_
  rw [thr h0]
  refine s_iload1 hK dX7_set_5 ?_
  refine s_iload2 hK dX7_set_6 ?_
  refine s_callS hK mdX7_isSetting (zX7_isSetting_out a v h) gX7_set_X7_isSetting rfl ⟨Nat.le_of_ble_eq_true rfl, Nat.le_of_ble_eq_true rfl⟩ rfl (Nat.le_of_ble_eq_true rfl) dX7_set_7 ?_
  try dsimp only [Option.toList, List.cons_append, List.nil_append]
  refine s_if_ne (tgt := 17) hK dX7_set_10 (by decide) (fun c_10 => absurd c_10 (fun q => q rfl)) (fun c_10 => ?_)
  refine s_sipush (v := -1001) hK dX7_set_13 (by decide) ?_
  exact s_iret hK hE dX7_set_16 rfl (rfl) (rfl)
set_option maxHeartbeats 4000000 in
set_option maxRecDepth 100000 in
theorem zX7_set_bad2 {g : aG} {l : Launch} {σ : aS} (h0 : σ 700 0 = 0) (k : Nat) (v : Int32) (hk : k < 5) (hbad : stG k v = false) : CN g l yX7_set wsX7_set 2 43 [.ref 700, .int (nI k), .int v] σ (some (.int (-1001))) σ := by
  refine cn_of (cc := cX7_set) (nL := 4) (ret := (some .int)) (own := RX7) (by decide +kernel) rfl rfl (Nat.le_of_ble_eq_true rfl) (fun K hg hl hK hE => ?_)
  subst hg; subst hl
  have i_7 : ∀ w ∈ u_ws RX7 TX7 15, w ∈ wsX7_set := by decide +kernel
  show AW K 0 [some (.ref 700), some (.int (nI k)), some (.int v), none] [] σ
  refine s_aload0 hK dX7_set_0 ?_
  refine s_iconst (v := 0) hK dX7_set_1 (by decide) ?_
  refine s_putg (ci := 7) (k := 0) (ty := .int) hK rfl rfl i_7 (by decide +kernel) dX7_set_2 tyX7_ok nmX7 (by decide) (by decide) (by decide) rfl rfl rfl (by decide +kernel) rfl rfl ?_
  rw [thr h0]
  refine s_iload1 hK dX7_set_5 ?_
  refine s_iload2 hK dX7_set_6 ?_
  refine s_callS hK mdX7_isSetting (zX7_isSetting k v hk) gX7_set_X7_isSetting rfl ⟨Nat.le_of_ble_eq_true rfl, Nat.le_of_ble_eq_true rfl⟩ rfl (Nat.le_of_ble_eq_true rfl) dX7_set_7 ?_
  try dsimp only [Option.toList, List.cons_append, List.nil_append]
  refine s_if_ne (tgt := 17) hK dX7_set_10 (by decide) (fun c_10 => absurd c_10 (fun q => q (b2f hbad))) (fun c_10 => ?_)
  refine s_sipush (v := -1001) hK dX7_set_13 (by decide) ?_
  exact s_iret hK hE dX7_set_16 rfl (rfl) (rfl)
set_option maxHeartbeats 4000000 in
set_option maxRecDepth 100000 in
theorem zX7_set_ok {g : aG} {l : Launch} {σ : aS} (h0 : σ 700 0 = 0) (q k : Nat) (v : Int32) (hq : q ≤ 5) (h3 : σ 700 3 = nI q) (hk : k < 5) (hv : stG k v = true) : CN g l yX7_set wsX7_set 2 43 [.ref 700, .int (nI k), .int v] σ (some (.int (σ 701 (768 + k)))) (s7 (aX σ q) (768 + k) v) := by
  refine cn_of (cc := cX7_set) (nL := 4) (ret := (some .int)) (own := RX7) (by decide +kernel) rfl rfl (Nat.le_of_ble_eq_true rfl) (fun K hg hl hK hE => ?_)
  subst hg; subst hl
  have i_7 : ∀ w ∈ u_ws RX7 TX7 15, w ∈ wsX7_set := by decide +kernel
  show AW K 0 [some (.ref 700), some (.int (nI k)), some (.int v), none] [] σ
  refine s_aload0 hK dX7_set_0 ?_
  refine s_iconst (v := 0) hK dX7_set_1 (by decide) ?_
  refine s_putg (ci := 7) (k := 0) (ty := .int) hK rfl rfl i_7 (by decide +kernel) dX7_set_2 tyX7_ok nmX7 (by decide) (by decide) (by decide) rfl rfl rfl (by decide +kernel) rfl rfl ?_
  rw [thr h0]
  refine s_iload1 hK dX7_set_5 ?_
  refine s_iload2 hK dX7_set_6 ?_
  refine s_callS hK mdX7_isSetting (zX7_isSetting k v hk) gX7_set_X7_isSetting rfl ⟨Nat.le_of_ble_eq_true rfl, Nat.le_of_ble_eq_true rfl⟩ rfl (Nat.le_of_ble_eq_true rfl) dX7_set_7 ?_
  try dsimp only [Option.toList, List.cons_append, List.nil_append]
  refine s_if_ne (tgt := 17) hK dX7_set_10 (by decide) (fun c_10 => ?_) (fun c_10 => absurd c_10 (b2y' hv))
  refine s_aload0 hK dX7_set_17 ?_
  refine s_callV (ci := 7) hK mdX7_act (zX7_act q hq h3) gX7_set_X7_act rfl rfl rfl (by decide) rfl ⟨Nat.le_of_ble_eq_true rfl, Nat.le_of_ble_eq_true rfl⟩ rfl (Nat.le_of_ble_eq_true rfl) dX7_set_18 ?_
  try dsimp only [Option.toList, List.cons_append, List.nil_append]
  refine s_aload0 hK dX7_set_21 ?_
  refine s_getr (ci := 7) (k := 1) hK rfl rfl i_7 (by decide +kernel) dX7_set_22 (by decide) (by decide) (by decide) rfl rfl (rf_7_1 rfl) ?_
  refine s_sipush (v := 768) hK dX7_set_25 (by decide) ?_
  refine s_iload1 hK dX7_set_28 ?_
  refine s_iadd hK dX7_set_29 ?_
  rw [show (768 : Int32) = nI 768 from rfl, nI_add]
  refine s_iald hK rfl (show vp_in _ 2374 from vp_in_nI (show 768 + k < 2374 by omega) (by decide)) dX7_set_30 ?_
  rw [cl_nI (show 768 + k < 2 ^ 31 by omega)]
  rw [aX_701]
  refine s_istore3 hK dX7_set_31 ?_
  refine s_aload0 hK dX7_set_32 ?_
  refine s_getr (ci := 7) (k := 1) hK rfl rfl i_7 (by decide +kernel) dX7_set_33 (by decide) (by decide) (by decide) rfl rfl (rf_7_1 rfl) ?_
  refine s_sipush (v := 768) hK dX7_set_36 (by decide) ?_
  refine s_iload1 hK dX7_set_39 ?_
  refine s_iadd hK dX7_set_40 ?_
  rw [show (768 : Int32) = nI 768 from rfl, nI_add]
  refine s_iload2 hK dX7_set_41 ?_
  refine s_iast hK rfl (show vp_in _ 2374 from vp_in_nI (show 768 + k < 2374 by omega) (by decide)) dX7_set_42 ?_
  rw [cl_nI (show 768 + k < 2 ^ 31 by omega)]
  refine s_iload3 hK dX7_set_43 ?_
  exact s_iret hK hE dX7_set_44 rfl (rfl) (rfl)
