theorem step1 (k : Nat) : 16 * k + 15 + 1 = 16 * (k + 1) := by omega
def upd3 (f : Nat → Int32) (a b c : Int32) : Nat → Int32 := upd (upd (upd f 8 a) 9 b) 10 c
theorem upd3_8 (f : Nat → Int32) (a b c : Int32) : upd3 f a b c 8 = a := by simp [upd3, upd]
theorem upd3_9 (f : Nat → Int32) (a b c : Int32) : upd3 f a b c 9 = b := by simp [upd3, upd]
theorem upd3_10 (f : Nat → Int32) (a b c : Int32) : upd3 f a b c 10 = c := by simp [upd3, upd]
theorem upd3_o (f : Nat → Int32) (a b c : Int32) {k : Nat} (h : k ≠ 8 ∧ k ≠ 9 ∧ k ≠ 10) : upd3 f a b c k = f k := by simp [upd3, upd, h]
theorem upd3_s8 (f : Nat → Int32) (a b c x : Int32) : upd (upd3 f a b c) 8 x = upd3 f x b c := by
  funext j
  by_cases h : j = 8 <;> by_cases h2 : j = 9 <;> by_cases h3 : j = 10 <;> simp_all [upd3, upd]
theorem upd3_s9 (f : Nat → Int32) (a b c x : Int32) : upd (upd3 f a b c) 9 x = upd3 f a x c := by
  funext j
  by_cases h : j = 8 <;> by_cases h2 : j = 9 <;> by_cases h3 : j = 10 <;> simp_all [upd3, upd]
theorem upd3_s10 (f : Nat → Int32) (a b c x : Int32) : upd (upd3 f a b c) 10 x = upd3 f a b x := by
  funext j
  by_cases h : j = 8 <;> by_cases h2 : j = 9 <;> by_cases h3 : j = 10 <;> simp_all [upd3, upd]
theorem upd3_3 (f : Nat → Int32) (a b c x y z : Int32) : upd3 (upd3 f a b c) x y z = upd3 f x y z := by
  funext j
  by_cases h : j = 8 <;> by_cases h2 : j = 9 <;> by_cases h3 : j = 10 <;> simp_all [upd3, upd]
def nG (σ : aS) (sx sy : Int32) (n : Nat) : Int32 := nI (fb_ct (cG σ sx sy) n)
def nS (σ : aS) (sx sy : Int32) (n : Nat) : Int32 := nI (fb_ct (cS σ sx sy) n)
def nL_ (σ : aS) (sx sy : Int32) (n : Nat) : Int32 := nI (fb_ct (cL_ σ sx sy) n)
def kS_ (σ : aS) (sx sy : Int32) (n : Nat) : aS := sP σ 700 (upd3 (σ 700) (nG σ sx sy n) (nS σ sx sy n) (nL_ σ sx sy n))
/-- check: what it leaves -/
def kK (σ : aS) (sx sy : Int32) : aS := kS_ σ sx sy 192
theorem lk_ne {σ : aS} {f : Nat → Int32} (k : Nat) (sx sy : Int32) : lkM (sP σ 700 f) k sx sy = lkM σ k sx sy := by simp [lkM, tnM_ne, sP_ne]
theorem cG_ne {σ : aS} {f : Nat → Int32} (sx sy : Int32) : cG (sP σ 700 f) sx sy = cG σ sx sy := by
  funext k
  simp [cG, lk_ne, sP_ne]
theorem cS_ne {σ : aS} {f : Nat → Int32} (sx sy : Int32) : cS (sP σ 700 f) sx sy = cS σ sx sy := by
  funext k
  simp [cS, lk_ne, sP_ne]
theorem cL_ne {σ : aS} {f : Nat → Int32} (sx sy : Int32) : cL_ (sP σ 700 f) sx sy = cL_ σ sx sy := by
  funext k
  simp [cL_, lk_ne, sP_ne]
theorem kK_kK (σ : aS) (a b c d : Int32) : kK (kK σ a b) c d = kK σ c d := by
  unfold kK kS_ nG nS nL_
  rw [cG_ne, cS_ne, cL_ne, sP_sP, sP_same, upd3_3]
theorem kK_ne {σ : aS} {a b : Int32} {o : Nat} (h : o ≠ 700) : kK σ a b o = σ o := sP_ne h
theorem kK_8 (σ : aS) (a b : Int32) : kK σ a b 700 8 = nI (ct (cG σ a b)) := (congrFun (sP_same σ 700 _) 8).trans (upd3_8 (σ 700) (nG σ a b 192) (nS σ a b 192) (nL_ σ a b 192))
theorem kK_9 (σ : aS) (a b : Int32) : kK σ a b 700 9 = nI (ct (cS σ a b)) := (congrFun (sP_same σ 700 _) 9).trans (upd3_9 (σ 700) (nG σ a b 192) (nS σ a b 192) (nL_ σ a b 192))
theorem kK_10 (σ : aS) (a b : Int32) : kK σ a b 700 10 = nI (ct (cL_ σ a b)) := (congrFun (sP_same σ 700 _) 10).trans (upd3_10 (σ 700) (nG σ a b 192) (nS σ a b 192) (nL_ σ a b 192))
theorem kK_o (σ : aS) (a b : Int32) {k : Nat} (h : k ≠ 8 ∧ k ≠ 9 ∧ k ≠ 10) : kK σ a b 700 k = σ 700 k := (congrFun (sP_same σ 700 _) k).trans (upd3_o (σ 700) (nG σ a b 192) (nS σ a b 192) (nL_ σ a b 192) h)
/-- has gaps: the state behind n checks, and whether one has been found -/
def hM (σ : aS) (r : Nat) : Nat → Bool × aS
  | 0 => (false, σ)
  | n + 1 => if (hM σ r n).1 = true then hM σ r n else (decide (0 < ct (cG σ (nI (n % (2 * r + 1)) - nI r) (nI (n / (2 * r + 1)) - nI r))), kK σ (nI (n % (2 * r + 1)) - nI r) (nI (n / (2 * r + 1)) - nI r))
theorem hM_t {σ : aS} {r n : Nat} (h : (hM σ r n).1 = true) : hM σ r (n + 1) = hM σ r n := if_pos h
theorem hM_stay {σ : aS} {r n : Nat} (h : (hM σ r n).1 = true) : ∀ m, hM σ r (n + m) = hM σ r n
  | 0 => rfl
  | m + 1 => by
    have e := hM_stay h m
    have h2 : (hM σ r (n + m)).1 = true := by rw [e]; exact h
    exact (hM_t h2).trans e
theorem hM_s {σ : aS} {r n : Nat} (h : (hM σ r n).1 = false) : hM σ r (n + 1) = (decide (0 < ct (cG σ (nI (n % (2 * r + 1)) - nI r) (nI (n / (2 * r + 1)) - nI r))), kK σ (nI (n % (2 * r + 1)) - nI r) (nI (n / (2 * r + 1)) - nI r)) := if_neg (by rw [h]; decide)
/-- before each check the state is the first one or one check's -/
theorem hM_kK {σ : aS} {r : Nat} (a b : Int32) : ∀ n, kK (hM σ r n).2 a b = kK σ a b
  | 0 => rfl
  | n + 1 => by
    cases q : (hM σ r n).1 with
    | true => rw [hM_t q]; exact hM_kK a b n
    | false => rw [hM_s q]; exact (kK_kK _ _ _ _ _).trans rfl
theorem hM_cG {σ : aS} {r : Nat} (a b : Int32) : ∀ n, cG (hM σ r n).2 a b = cG σ a b
  | 0 => rfl
  | n + 1 => by
    cases q : (hM σ r n).1 with
    | true => rw [hM_t q]; exact hM_cG a b n
    | false => rw [hM_s q]; exact cG_ne _ _
def hMe (σ : aS) (r : Nat) : Bool × aS := hM σ r ((2 * r + 1) * (2 * r + 1))
theorem hM_end {σ : aS} {r n : Nat} (h : (hM σ r n).1 = true) (hn : n ≤ (2 * r + 1) * (2 * r + 1)) : hMe σ r = hM σ r n := by
  have := hM_stay h ((2 * r + 1) * (2 * r + 1) - n)
  rw [show n + ((2 * r + 1) * (2 * r + 1) - n) = (2 * r + 1) * (2 * r + 1) by omega] at this
  exact this
theorem dm_1 {q i j : Nat} (h : j < q) : (q * i + j) / q = i ∧ (q * i + j) % q = j := by
  refine ⟨?_, ?_⟩
  · rw [Nat.mul_add_div (by omega), Nat.div_eq_of_lt h, Nat.add_zero]
  · rw [Nat.mul_add_mod, Nat.mod_eq_of_lt h]
theorem mul_le2 {q i j : Nat} (hi : i < q) (hj : j < q) : q * i + j + 1 ≤ q * q := by
  have h1 : q * i + q ≤ q * q := by
    have := Nat.mul_le_mul_left q (show i + 1 ≤ q by omega)
    rw [Nat.mul_succ] at this
    exact this
  omega
theorem lk_r (σ : aS) {x y : Nat} (hx : x < 16) (sx sy : Int32) : 2 * σ 704 (16 * y + x) + b2 (tnM σ (nI x) (nI y) sx sy) = lkM σ (16 * y + x) sx sy := by
  unfold lkM
  rw [show (16 * y + x) % 16 = x by omega, show (16 * y + x) / 16 = y by omega]
theorem wM_704 {σ : aS} {f : Nat → Int32} {k : Nat} : wM (sP σ 704 f) k = wM σ k := by simp [wM, sP_ne]
set_option maxHeartbeats 4000000 in
set_option maxRecDepth 100000 in
theorem zX7_lay {g : aG} {l : Launch} {σ : aS} : CN g l yX7_lay wsX7_lay 1 21 [.ref 700] σ none (lY σ) := by
  refine cn_of (cc := cX7_lay) (nL := 2) (ret := none) (own := RX7) (by decide +kernel) rfl rfl (Nat.le_of_ble_eq_true rfl) (fun K hg hl hK hE => ?_)
  subst hg; subst hl
  have i_7 : ∀ w ∈ u_ws RX7 TX7 15, w ∈ wsX7_lay := by decide +kernel
  show AW K 0 [some (.ref 700), none] [] σ
  have hx1 : AW K 2 [some (.ref 700), some (.int (nI 192))] [] (sP σ 704 (tw (lpV σ) (fun k => σ 701 (576 + k)) (σ 704) 192)) := by
    refine s_iload1 hK dX7_lay_2 ?_
    refine s_sipush (v := 192) hK dX7_lay_3 (by decide) ?_
    refine s_icmp_ge (tgt := 68) hK dX7_lay_6 (by decide) (fun c_6 => ?_) (fun c_6 => absurd c_6 (fun q => q (ge_E rfl rfl)))
    exact s_vret hK hE dX7_lay_68 (rfl)
  have hb1 : ∀ k1 : Nat, k1 < 192 → AW K 2 [some (.ref 700), some (.int (nI (k1 + 1)))] [] (sP σ 704 (tw (lpV σ) (fun k => σ 701 (576 + k)) (σ 704) (k1 + 1))) → AW K 2 [some (.ref 700), some (.int (nI k1))] [] (sP σ 704 (tw (lpV σ) (fun k => σ 701 (576 + k)) (σ 704) k1)) := by
    intro k1 hk1 ih1 
    refine s_iload1 hK dX7_lay_2 ?_
    refine s_sipush (v := 192) hK dX7_lay_3 (by decide) ?_
    refine s_icmp_ge (tgt := 68) hK dX7_lay_6 (by decide) (fun c_6 => absurd c_6 (ge_N rfl rfl hk1 (by decide))) (fun c_6 => ?_)
    refine s_aload0 hK dX7_lay_9 ?_
    refine s_getr (ci := 7) (k := 6) hK rfl rfl i_7 (by decide +kernel) dX7_lay_10 (by decide) (by decide) (by decide) rfl rfl (rf_7_6 rfl) ?_
    refine s_iload1 hK dX7_lay_13 ?_
    refine AW.cut (j := 41) (v := lpV σ k1) (fun hJ_41 => ?_) ?_
    · refine s_aload0 hK dX7_lay_14 ?_
      refine s_getr (ci := 7) (k := 1) hK rfl rfl i_7 (by decide +kernel) dX7_lay_15 (by decide) (by decide) (by decide) rfl rfl (rf_7_1 rfl) ?_
      refine s_sipush (v := 192) hK dX7_lay_18 (by decide) ?_
      refine s_iload1 hK dX7_lay_21 ?_
      refine s_iadd hK dX7_lay_22 ?_
      rw [show (192 : Int32) = nI 192 from rfl, nI_add]
      refine s_iald hK rfl (show vp_in _ 2374 from vp_in_nI (show 192 + k1 < 2374 by omega) (by decide)) dX7_lay_23 ?_
      rw [sP_ne (by decide), cl_nI (show 192 + k1 < 2 ^ 31 by omega)]
      refine s_iconst (v := 1) hK dX7_lay_24 (by decide) ?_
      refine s_icmp_ne (tgt := 40) hK dX7_lay_25 (by decide) (fun c_25 => ?_) (fun c_25 => ?_)
      · refine s_iconst (v := 0) hK dX7_lay_40 (by decide) ?_
        exact AW.vv hJ_41 (by first | (rw [lpV, if_pos ⟨c_25, by rw [← wM_704 (f := tw (lpV σ) (fun k => σ 701 (576 + k)) (σ 704) k1)]; exact b2y c_33⟩]; done) | (rw [lpV, if_neg (fun e => by have q := b2n c_33; rw [wM_704, e.2] at q; cases q)]; done) | (rw [lpV, if_neg (fun e => c_25 e.1)]; done))
      · refine s_aload0 hK dX7_lay_28 ?_
        refine s_iload1 hK dX7_lay_29 ?_
        refine s_callV (ci := 7) hK mdX7_isWorn (zX7_isWorn k1 hk1) gX7_lay_X7_isWorn rfl rfl rfl (by decide) rfl ⟨Nat.le_of_ble_eq_true rfl, Nat.le_of_ble_eq_true rfl⟩ rfl (Nat.le_of_ble_eq_true rfl) dX7_lay_30 ?_
        try dsimp only [Option.toList, List.cons_append, List.nil_append]
        refine s_if_ne (tgt := 40) hK dX7_lay_33 (by decide) (fun c_33 => ?_) (fun c_33 => ?_)
        · refine s_iconst (v := 0) hK dX7_lay_40 (by decide) ?_
          exact AW.vv hJ_41 (by first | (rw [lpV, if_pos ⟨c_25, by rw [← wM_704 (f := tw (lpV σ) (fun k => σ 701 (576 + k)) (σ 704) k1)]; exact b2y c_33⟩]; done) | (rw [lpV, if_neg (fun e => by have q := b2n c_33; rw [wM_704, e.2] at q; cases q)]; done) | (rw [lpV, if_neg (fun e => c_25 e.1)]; done))
        · refine s_iconst (v := 1) hK dX7_lay_36 (by decide) ?_
          refine s_goto (tgt := 41) hK dX7_lay_37 (by decide) ?_
          exact AW.vv hJ_41 (by first | (rw [lpV, if_pos ⟨c_25, by rw [← wM_704 (f := tw (lpV σ) (fun k => σ 701 (576 + k)) (σ 704) k1)]; exact b2y c_33⟩]; done) | (rw [lpV, if_neg (fun e => by have q := b2n c_33; rw [wM_704, e.2] at q; cases q)]; done) | (rw [lpV, if_neg (fun e => c_25 e.1)]; done))
    show AW K _ _ _ _
    refine s_iast hK rfl (show vp_in _ 384 from vp_in_nI (show k1 < 384 by omega) (by decide)) dX7_lay_41 ?_
    rw [sP_sP, sP_same, cl_nI (show k1 < 2 ^ 31 by omega)]
    refine s_aload0 hK dX7_lay_42 ?_
    refine s_getr (ci := 7) (k := 6) hK rfl rfl i_7 (by decide +kernel) dX7_lay_43 (by decide) (by decide) (by decide) rfl rfl (rf_7_6 rfl) ?_
    refine s_sipush (v := 192) hK dX7_lay_46 (by decide) ?_
    refine s_iload1 hK dX7_lay_49 ?_
    refine s_iadd hK dX7_lay_50 ?_
    rw [show (192 : Int32) = nI 192 from rfl, nI_add]
    refine s_aload0 hK dX7_lay_51 ?_
    refine s_getr (ci := 7) (k := 1) hK rfl rfl i_7 (by decide +kernel) dX7_lay_52 (by decide) (by decide) (by decide) rfl rfl (rf_7_1 rfl) ?_
    refine s_sipush (v := 576) hK dX7_lay_55 (by decide) ?_
    refine s_iload1 hK dX7_lay_58 ?_
    refine s_iadd hK dX7_lay_59 ?_
    rw [show (576 : Int32) = nI 576 from rfl, nI_add]
    refine s_iald hK rfl (show vp_in _ 2374 from vp_in_nI (show 576 + k1 < 2374 by omega) (by decide)) dX7_lay_60 ?_
    rw [sP_ne (by decide), cl_nI (show 576 + k1 < 2 ^ 31 by omega)]
    refine s_iast hK rfl (show vp_in _ 384 from vp_in_nI (show 192 + k1 < 384 by omega) (by decide)) dX7_lay_61 ?_
    rw [sP_sP, sP_same, cl_nI (show 192 + k1 < 2 ^ 31 by omega)]
    refine s_iinc1 hK dX7_lay_62 (hv_1 _) ?_
    refine s_goto (tgt := 2) hK dX7_lay_65 (by decide) ?_
    exact AW.to ih1 (by rw [nI_1]) (by rw [tw_s _ _ _ hk1])
  refine s_iconst (v := 0) hK dX7_lay_0 (by decide) ?_
  refine s_istore1 hK dX7_lay_1 ?_
  exact AW.to (up_to (fun kx => AW K 2 [some (.ref 700), some (.int (nI kx))] [] (sP σ 704 (tw (lpV σ) (fun k => σ 701 (576 + k)) (σ 704) kx))) 192 hx1 hb1) (rfl) (by rw [tw_0, sP_id])
set_option maxHeartbeats 4000000 in
set_option maxRecDepth 100000 in
theorem zX7_layCut {g : aG} {l : Launch} {σ : aS} (t : Int32) : CN g l yX7_layCut wsX7_layCut 0 0 [.ref 700, .int t] σ none (lC_ σ t) := by
  refine cn_of (cc := cX7_layCut) (nL := 3) (ret := none) (own := RX7) (by decide +kernel) rfl rfl (Nat.le_of_ble_eq_true rfl) (fun K hg hl hK hE => ?_)
  subst hg; subst hl
  have i_7 : ∀ w ∈ u_ws RX7 TX7 15, w ∈ wsX7_layCut := by decide +kernel
  show AW K 0 [some (.ref 700), some (.int t), none] [] σ
  have hx1 : AW K 2 [some (.ref 700), some (.int t), some (.int (nI 192))] [] (sP σ 704 (tw (lcV σ) (lcC σ t) (σ 704) 192)) := by
    refine s_iload2 hK dX7_layCut_2 ?_
    refine s_sipush (v := 192) hK dX7_layCut_3 (by decide) ?_
    refine s_icmp_ge (tgt := 63) hK dX7_layCut_6 (by decide) (fun c_6 => ?_) (fun c_6 => absurd c_6 (fun q => q (ge_E rfl rfl)))
    exact s_vret hK hE dX7_layCut_63 (rfl)
  have hb1 : ∀ k1 : Nat, k1 < 192 → AW K 2 [some (.ref 700), some (.int t), some (.int (nI (k1 + 1)))] [] (sP σ 704 (tw (lcV σ) (lcC σ t) (σ 704) (k1 + 1))) → AW K 2 [some (.ref 700), some (.int t), some (.int (nI k1))] [] (sP σ 704 (tw (lcV σ) (lcC σ t) (σ 704) k1)) := by
    intro k1 hk1 ih1 
    refine s_iload2 hK dX7_layCut_2 ?_
    refine s_sipush (v := 192) hK dX7_layCut_3 (by decide) ?_
    refine s_icmp_ge (tgt := 63) hK dX7_layCut_6 (by decide) (fun c_6 => absurd c_6 (ge_N rfl rfl hk1 (by decide))) (fun c_6 => ?_)
    refine s_aload0 hK dX7_layCut_9 ?_
    refine s_getr (ci := 7) (k := 6) hK rfl rfl i_7 (by decide +kernel) dX7_layCut_10 (by decide) (by decide) (by decide) rfl rfl (rf_7_6 rfl) ?_
    refine s_iload2 hK dX7_layCut_13 ?_
    refine AW.cut (j := 31) (v := lcV σ k1) (fun hJ_31 => ?_) ?_
    · refine s_aload0 hK dX7_layCut_14 ?_
      refine s_getr (ci := 7) (k := 1) hK rfl rfl i_7 (by decide +kernel) dX7_layCut_15 (by decide) (by decide) (by decide) rfl rfl (rf_7_1 rfl) ?_
      refine s_iconst (v := 0) hK dX7_layCut_18 (by decide) ?_
      refine s_iload2 hK dX7_layCut_19 ?_
      refine s_iadd hK dX7_layCut_20 ?_
      refine s_iald hK rfl (show vp_in _ 2374 from by rw [show (0 : Int32) = nI 0 from rfl, ix192]; exact vp_in_nI (show 0 + k1 < 2374 by omega) (by decide)) dX7_layCut_21 ?_
      rw [show (0 : Int32) + nI k1 = nI k1 from Int32.zero_add _, sP_ne (by decide), cl_nI (show k1 < 2 ^ 31 by omega)]
      refine s_iconst (v := 2) hK dX7_layCut_22 (by decide) ?_
      refine s_icmp_ne (tgt := 30) hK dX7_layCut_23 (by decide) (fun c_23 => ?_) (fun c_23 => ?_)
      · refine s_iconst (v := 0) hK dX7_layCut_30 (by decide) ?_
        exact AW.vv hJ_31 (by simp [lcV, c_23])
      · refine s_iconst (v := 1) hK dX7_layCut_26 (by decide) ?_
        refine s_goto (tgt := 31) hK dX7_layCut_27 (by decide) ?_
        exact AW.vv hJ_31 (by simp [lcV, c_23])
    show AW K _ _ _ _
    refine s_iast hK rfl (show vp_in _ 384 from vp_in_nI (show k1 < 384 by omega) (by decide)) dX7_layCut_31 ?_
    rw [sP_sP, sP_same, cl_nI (show k1 < 2 ^ 31 by omega)]
    refine s_aload0 hK dX7_layCut_32 ?_
    refine s_getr (ci := 7) (k := 6) hK rfl rfl i_7 (by decide +kernel) dX7_layCut_33 (by decide) (by decide) (by decide) rfl rfl (rf_7_6 rfl) ?_
    refine s_sipush (v := 192) hK dX7_layCut_36 (by decide) ?_
    refine s_iload2 hK dX7_layCut_39 ?_
    refine s_iadd hK dX7_layCut_40 ?_
    rw [show (192 : Int32) = nI 192 from rfl, nI_add]
    refine AW.cut (j := 56) (v := lcC σ t k1) (fun hJ_56 => ?_) ?_
    · refine s_aload0 hK dX7_layCut_41 ?_
      refine s_getr (ci := 7) (k := 7) hK rfl rfl i_7 (by decide +kernel) dX7_layCut_42 (by decide) (by decide) (by decide) rfl rfl (rf_7_7 rfl) ?_
      refine s_iload2 hK dX7_layCut_45 ?_
      refine s_iald hK rfl (show vp_in _ 192 from vp_in_nI hk1 (by decide)) dX7_layCut_46 ?_
      rw [sP_ne (by decide), cl_nI (show k1 < 2 ^ 31 by omega)]
      refine s_iload1 hK dX7_layCut_47 ?_
      refine s_icmp_gt (tgt := 55) hK dX7_layCut_48 (by decide) (fun c_48 => ?_) (fun c_48 => ?_)
      · refine s_iconst (v := 0) hK dX7_layCut_55 (by decide) ?_
        exact AW.vv hJ_56 (by simp [lcC, c_48])
      · refine s_iconst (v := 1) hK dX7_layCut_51 (by decide) ?_
        refine s_goto (tgt := 56) hK dX7_layCut_52 (by decide) ?_
        exact AW.vv hJ_56 (by simp [lcC, c_48])
    show AW K _ _ _ _
    refine s_iast hK rfl (show vp_in _ 384 from vp_in_nI (show 192 + k1 < 384 by omega) (by decide)) dX7_layCut_56 ?_
    rw [sP_sP, sP_same, cl_nI (show 192 + k1 < 2 ^ 31 by omega)]
    refine s_iinc2 hK dX7_layCut_57 (hv_1 _) ?_
    refine s_goto (tgt := 2) hK dX7_layCut_60 (by decide) ?_
    exact AW.to ih1 (by rw [nI_1]) (by rw [tw_s _ _ _ hk1])
  refine s_iconst (v := 0) hK dX7_layCut_0 (by decide) ?_
  refine s_istore2 hK dX7_layCut_1 ?_
  exact AW.to (up_to (fun kx => AW K 2 [some (.ref 700), some (.int t), some (.int (nI kx))] [] (sP σ 704 (tw (lcV σ) (lcC σ t) (σ 704) kx))) 192 hx1 hb1) (rfl) (by rw [tw_0, sP_id])
set_option maxHeartbeats 4000000 in
set_option maxRecDepth 100000 in
theorem zX7_isTinted {g : aG} {l : Launch} {σ : aS} (x y sx sy : Int32) : CN g l yX7_isTinted wsX7_isTinted 2 43 [.ref 700, .int x, .int y, .int sx, .int sy] σ (some (.int (b2 (tnM σ x y sx sy)))) σ := by
  refine cn_of (cc := cX7_isTinted) (nL := 5) (ret := (some .boolean)) (own := RX7) (by decide +kernel) rfl rfl (Nat.le_of_ble_eq_true rfl) (fun K hg hl hK hE => ?_)
  subst hg; subst hl
  have i_7 : ∀ w ∈ u_ws RX7 TX7 15, w ∈ wsX7_isTinted := by decide +kernel
  show AW K 0 [some (.ref 700), some (.int x), some (.int y), some (.int sx), some (.int sy)] [] σ
  refine s_iload1 hK dX7_isTinted_0 ?_
  refine s_iload3 hK dX7_isTinted_1 ?_
  refine s_isub hK dX7_isTinted_2 ?_
  refine s_iload2 hK dX7_isTinted_3 ?_
  refine s_iload4 hK dX7_isTinted_4 ?_
  refine s_isub hK dX7_isTinted_6 ?_
  refine s_callS hK mdX7_isCell (zX7_isCell _ _) gX7_isTinted_X7_isCell rfl ⟨Nat.le_of_ble_eq_true rfl, Nat.le_of_ble_eq_true rfl⟩ rfl (Nat.le_of_ble_eq_true rfl) dX7_isTinted_7 ?_
  try dsimp only [Option.toList, List.cons_append, List.nil_append]
  refine s_if_eq (tgt := 41) hK dX7_isTinted_10 (by decide) (fun c_10 => ?_) (fun c_10 => ?_)
  · refine s_iconst (v := 0) hK dX7_isTinted_41 (by decide) ?_
    exact s_iret hK hE dX7_isTinted_42 (by decide) (by first | (rw [tnM, b2y c_10, Bool.false_and]; rfl) | (rw [tnM, b2n c_10, Bool.true_and]; simp [b2, c_34]; done)) (rfl)
  · refine s_aload0 hK dX7_isTinted_13 ?_
    refine s_getr (ci := 7) (k := 6) hK rfl rfl i_7 (by decide +kernel) dX7_isTinted_14 (by decide) (by decide) (by decide) rfl rfl (rf_7_6 rfl) ?_
    refine s_sipush (v := 192) hK dX7_isTinted_17 (by decide) ?_
    refine s_bipush (v := 16) hK dX7_isTinted_20 (by decide) ?_
    refine s_iload2 hK dX7_isTinted_22 ?_
    refine s_iload4 hK dX7_isTinted_23 ?_
    refine s_isub hK dX7_isTinted_25 ?_
    refine s_imul hK dX7_isTinted_26 ?_
    refine s_iadd hK dX7_isTinted_27 ?_
    refine s_iload1 hK dX7_isTinted_28 ?_
    refine s_iadd hK dX7_isTinted_29 ?_
    refine s_iload3 hK dX7_isTinted_30 ?_
    refine s_isub hK dX7_isTinted_31 ?_
    refine s_iald hK rfl (show vp_in _ 384 from by rw [(tn_ix (b2n c_10)).1]; exact vp_in_nI (tn_ix (b2n c_10)).2 (by decide)) dX7_isTinted_32 ?_
    rw [(tn_ix (b2n c_10)).1, cl_nI (show _ < 2 ^ 31 from Nat.lt_trans (tn_ix (b2n c_10)).2 (by decide))]
    refine s_iconst (v := 1) hK dX7_isTinted_33 (by decide) ?_
    refine s_icmp_ne (tgt := 41) hK dX7_isTinted_34 (by decide) (fun c_34 => ?_) (fun c_34 => ?_)
    · refine s_iconst (v := 0) hK dX7_isTinted_41 (by decide) ?_
      exact s_iret hK hE dX7_isTinted_42 (by decide) (by first | (rw [tnM, b2y c_10, Bool.false_and]; rfl) | (rw [tnM, b2n c_10, Bool.true_and]; simp [b2, c_34]; done)) (rfl)
    · refine s_iconst (v := 1) hK dX7_isTinted_37 (by decide) ?_
      refine s_goto (tgt := 42) hK dX7_isTinted_38 (by decide) ?_
      exact s_iret hK hE dX7_isTinted_42 (by decide) (by first | (rw [tnM, b2y c_10, Bool.false_and]; rfl) | (rw [tnM, b2n c_10, Bool.true_and]; simp [b2, c_34]; done)) (rfl)
set_option maxHeartbeats 4000000 in
set_option maxRecDepth 100000 in
theorem zX7_look {g : aG} {l : Launch} {σ : aS} (x y : Nat) (sx sy : Int32) (hx : x < 16) (hy : y < 12) : CN g l yX7_look wsX7_look 3 67 [.ref 700, .int (nI x), .int (nI y), .int sx, .int sy] σ (some (.int (lkM σ (16 * y + x) sx sy))) σ := by
  refine cn_of (cc := cX7_look) (nL := 5) (ret := (some .int)) (own := RX7) (by decide +kernel) rfl rfl (Nat.le_of_ble_eq_true rfl) (fun K hg hl hK hE => ?_)
  subst hg; subst hl
  have i_7 : ∀ w ∈ u_ws RX7 TX7 15, w ∈ wsX7_look := by decide +kernel
  show AW K 0 [some (.ref 700), some (.int (nI x)), some (.int (nI y)), some (.int sx), some (.int sy)] [] σ
  refine s_iconst (v := 2) hK dX7_look_0 (by decide) ?_
  refine s_aload0 hK dX7_look_1 ?_
  refine s_getr (ci := 7) (k := 6) hK rfl rfl i_7 (by decide +kernel) dX7_look_2 (by decide) (by decide) (by decide) rfl rfl (rf_7_6 rfl) ?_
  refine s_bipush (v := 16) hK dX7_look_5 (by decide) ?_
  refine s_iload2 hK dX7_look_7 ?_
  refine s_imul hK dX7_look_8 ?_
  refine s_iload1 hK dX7_look_9 ?_
  refine s_iadd hK dX7_look_10 ?_
  rw [show (16 : Int32) = nI 16 from rfl, pk_mul, nI_add]
  refine s_iald hK rfl (show vp_in _ 384 from vp_in_nI (show 16 * y + x < 384 by omega) (by decide)) dX7_look_11 ?_
  rw [cl_nI (show 16 * y + x < 2 ^ 31 by omega)]
  refine s_imul hK dX7_look_12 ?_
  refine AW.cut (j := 30) (v := b2 (tnM σ (nI x) (nI y) sx sy)) (fun hJ_30 => ?_) ?_
  · refine s_aload0 hK dX7_look_13 ?_
    refine s_iload1 hK dX7_look_14 ?_
    refine s_iload2 hK dX7_look_15 ?_
    refine s_iload3 hK dX7_look_16 ?_
    refine s_iload4 hK dX7_look_17 ?_
    refine s_callV (ci := 7) hK mdX7_isTinted (zX7_isTinted _ _ _ _) gX7_look_X7_isTinted rfl rfl rfl (by decide) rfl ⟨Nat.le_of_ble_eq_true rfl, Nat.le_of_ble_eq_true rfl⟩ rfl (Nat.le_of_ble_eq_true rfl) dX7_look_19 ?_
    try dsimp only [Option.toList, List.cons_append, List.nil_append]
    refine s_if_eq (tgt := 29) hK dX7_look_22 (by decide) (fun c_22 => ?_) (fun c_22 => ?_)
    · refine s_iconst (v := 0) hK dX7_look_29 (by decide) ?_
      exact AW.vv hJ_30 (by first | (rw [b2y c_22]; rfl) | (rw [b2n c_22]; rfl))
    · refine s_iconst (v := 1) hK dX7_look_25 (by decide) ?_
      refine s_goto (tgt := 30) hK dX7_look_26 (by decide) ?_
      exact AW.vv hJ_30 (by first | (rw [b2y c_22]; rfl) | (rw [b2n c_22]; rfl))
  show AW K _ _ _ _
  refine s_iadd hK dX7_look_30 ?_
  exact s_iret hK hE dX7_look_31 rfl (by rw [lk_r σ hx]) (rfl)
set_option maxHeartbeats 4000000 in
set_option maxRecDepth 100000 in
theorem zX7_check {g : aG} {l : Launch} {σ : aS} (sx sy : Int32) : CN g l yX7_check wsX7_check 4 91 [.ref 700, .int sx, .int sy] σ none (kK σ sx sy) := by
  refine cn_of (cc := cX7_check) (nL := 7) (ret := none) (own := RX7) (by decide +kernel) rfl rfl (Nat.le_of_ble_eq_true rfl) (fun K hg hl hK hE => ?_)
  subst hg; subst hl
  have i_7 : ∀ w ∈ u_ws RX7 TX7 15, w ∈ wsX7_check := by decide +kernel
  show AW K 0 [some (.ref 700), some (.int sx), some (.int sy), none, none, none, none] [] σ
  have hx1 : (∀ z4 : Option Value, ∀ z5 : Option Value, ∀ z6 : Option Value, AW K 17 [some (.ref 700), some (.int sx), some (.int sy), some (.int (nI 12)), z4, z5, z6] [] (kS_ σ sx sy (16 * 12))) := by
    intro z4 z5 z6
    refine s_iload3 hK dX7_check_17 ?_
    refine s_bipush (v := 12) hK dX7_check_18 (by decide) ?_
    refine s_icmp_ge (tgt := 149) hK dX7_check_20 (by decide) (fun c_20 => ?_) (fun c_20 => absurd c_20 (fun q => q (ge_E rfl rfl)))
    exact s_vret hK hE dX7_check_149 (rfl)
  have hb1 : ∀ k1 : Nat, k1 < 12 → (∀ z4 : Option Value, ∀ z5 : Option Value, ∀ z6 : Option Value, AW K 17 [some (.ref 700), some (.int sx), some (.int sy), some (.int (nI (k1 + 1))), z4, z5, z6] [] (kS_ σ sx sy (16 * (k1 + 1)))) → (∀ z4 : Option Value, ∀ z5 : Option Value, ∀ z6 : Option Value, AW K 17 [some (.ref 700), some (.int sx), some (.int sy), some (.int (nI k1)), z4, z5, z6] [] (kS_ σ sx sy (16 * k1))) := by
    intro k1 hk1 ih1 z4 z5 z6
    have hx2 : (∀ z5 : Option Value, ∀ z6 : Option Value, AW K 26 [some (.ref 700), some (.int sx), some (.int sy), some (.int (nI k1)), some (.int (nI 16)), z5, z6] [] (kS_ σ sx sy (16 * k1 + 16))) := by
      intro z5 z6
      refine s_iload4 hK dX7_check_26 ?_
      refine s_bipush (v := 16) hK dX7_check_28 (by decide) ?_
      refine s_icmp_ge (tgt := 143) hK dX7_check_30 (by decide) (fun c_30 => ?_) (fun c_30 => absurd c_30 (fun q => q (ge_E rfl rfl)))
      refine s_iinc3 hK dX7_check_143 (hv_1 _) ?_
      refine s_goto (tgt := 17) hK dX7_check_146 (by decide) ?_
      exact AW.to (ih1 _ _ _) (by rw [nI_1]) (by rw [Nat.mul_succ])
    have hb2 : ∀ k2 : Nat, k2 < 16 → (∀ z5 : Option Value, ∀ z6 : Option Value, AW K 26 [some (.ref 700), some (.int sx), some (.int sy), some (.int (nI k1)), some (.int (nI (k2 + 1))), z5, z6] [] (kS_ σ sx sy (16 * k1 + (k2 + 1)))) → (∀ z5 : Option Value, ∀ z6 : Option Value, AW K 26 [some (.ref 700), some (.int sx), some (.int sy), some (.int (nI k1)), some (.int (nI k2)), z5, z6] [] (kS_ σ sx sy (16 * k1 + k2))) := by
      intro k2 hk2 ih2 z5 z6
      refine s_iload4 hK dX7_check_26 ?_
      refine s_bipush (v := 16) hK dX7_check_28 (by decide) ?_
      refine s_icmp_ge (tgt := 143) hK dX7_check_30 (by decide) (fun c_30 => absurd c_30 (ge_N rfl rfl hk2 (by decide))) (fun c_30 => ?_)
      refine s_aload0 hK dX7_check_33 ?_
      refine s_getr (ci := 7) (k := 1) hK rfl rfl i_7 (by decide +kernel) dX7_check_34 (by decide) (by decide) (by decide) rfl rfl (rf_7_1 rfl) ?_
      refine s_iconst (v := 0) hK dX7_check_37 (by decide) ?_
      refine s_bipush (v := 16) hK dX7_check_38 (by decide) ?_
      refine s_iload3 hK dX7_check_40 ?_
      refine s_imul hK dX7_check_41 ?_
      refine s_iadd hK dX7_check_42 ?_
      refine s_iload4 hK dX7_check_43 ?_
      refine s_iadd hK dX7_check_45 ?_
      rw [show (16 : Int32) = nI 16 from rfl, pk_mul, show (0 : Int32) = nI 0 from rfl, nI_add, nI_add]
      refine s_iald hK rfl (show vp_in _ 2374 from vp_in_nI (show 0 + 16 * k1 + k2 < 2374 by omega) (by decide)) dX7_check_46 ?_
      rw [cl_nI (show 0 + 16 * k1 + k2 < 2 ^ 31 by omega), show 0 + 16 * k1 + k2 = 16 * k1 + k2 by omega, show kS_ σ sx sy (16 * k1 + k2) 701 = σ 701 from sP_ne (by decide)]
      refine s_istore5 hK dX7_check_47 ?_
      refine s_aload0 hK dX7_check_49 ?_
      refine s_iload4 hK dX7_check_50 ?_
      refine s_iload3 hK dX7_check_52 ?_
      refine s_iload1 hK dX7_check_53 ?_
      refine s_iload2 hK dX7_check_54 ?_
      refine s_callV (ci := 7) hK mdX7_look (zX7_look k2 k1 sx sy hk2 hk1) gX7_check_X7_look rfl rfl rfl (by decide) rfl ⟨Nat.le_of_ble_eq_true rfl, Nat.le_of_ble_eq_true rfl⟩ rfl (Nat.le_of_ble_eq_true rfl) dX7_check_55 ?_
      try dsimp only [Option.toList, List.cons_append, List.nil_append]
      rw [show lkM (kS_ σ sx sy (16 * k1 + k2)) (16 * k1 + k2) sx sy = lkM σ (16 * k1 + k2) sx sy from lk_ne _ _ _]
      refine s_istore6 hK dX7_check_58 ?_
      refine s_aload0 hK dX7_check_60 ?_
      refine s_dup hK dX7_check_61 ?_
      refine s_getiv (v := nG σ sx sy (16 * k1 + k2)) (by show sP σ 700 _ 700 8 = _; rw [sP_same, upd3_8]) (ci := 7) (k := 8) hK rfl rfl i_7 (by decide +kernel) dX7_check_62 (by decide) (by decide) (by decide) rfl rfl ?_
      refine AW.cut (j := 80) (v := b2 (cG σ sx sy (16 * k1 + k2))) (fun hJ_80 => ?_) ?_
      · refine s_iload5 hK dX7_check_65 ?_
        refine s_if_eq (tgt := 79) hK dX7_check_67 (by decide) (fun c_67 => ?_) (fun c_67 => ?_)
        · refine s_iconst (v := 0) hK dX7_check_79 (by decide) ?_
          exact AW.vv hJ_80 (by first | (rw [cG, decide_eq_true (p := _ ∧ _) ⟨c_67, c_72⟩]; rfl) | (rw [cG, decide_eq_false (fun e => c_72 e.2)]; rfl) | (rw [cG, decide_eq_false (fun e => e.1 c_67)]; rfl))
        · refine s_iload6 hK dX7_check_70 ?_
          refine s_if_ne (tgt := 79) hK dX7_check_72 (by decide) (fun c_72 => ?_) (fun c_72 => ?_)
          · refine s_iconst (v := 0) hK dX7_check_79 (by decide) ?_
            exact AW.vv hJ_80 (by first | (rw [cG, decide_eq_true (p := _ ∧ _) ⟨c_67, c_72⟩]; rfl) | (rw [cG, decide_eq_false (fun e => c_72 e.2)]; rfl) | (rw [cG, decide_eq_false (fun e => e.1 c_67)]; rfl))
          · refine s_iconst (v := 1) hK dX7_check_75 (by decide) ?_
            refine s_goto (tgt := 80) hK dX7_check_76 (by decide) ?_
            exact AW.vv hJ_80 (by first | (rw [cG, decide_eq_true (p := _ ∧ _) ⟨c_67, c_72⟩]; rfl) | (rw [cG, decide_eq_false (fun e => c_72 e.2)]; rfl) | (rw [cG, decide_eq_false (fun e => e.1 c_67)]; rfl))
      show AW K _ _ _ _
      refine s_iadd hK dX7_check_80 ?_
      refine s_putg (ci := 7) (k := 8) (ty := .int) hK rfl rfl i_7 (by decide +kernel) dX7_check_81 tyX7_ok nmX7 (by decide) (by decide) (by decide) rfl rfl rfl (by decide +kernel) rfl rfl ?_
      show AW K _ _ _ (sP (kS_ σ sx sy (16 * k1 + k2)) 700 (upd (kS_ σ sx sy (16 * k1 + k2) 700) 8 _))
      rw [show sP (kS_ σ sx sy (16 * k1 + k2)) 700 (upd (kS_ σ sx sy (16 * k1 + k2) 700) 8 (nG σ sx sy (16 * k1 + k2) + b2 (cG σ sx sy (16 * k1 + k2)))) = sP σ 700 (upd3 (σ 700) (nG σ sx sy (16 * k1 + k2 + 1)) (nS σ sx sy (16 * k1 + k2)) (nL_ σ sx sy (16 * k1 + k2))) from by unfold kS_; rw [sP_sP, sP_same, upd3_s8]; unfold nG; rw [acc_b2]]
      refine s_aload0 hK dX7_check_84 ?_
      refine s_dup hK dX7_check_85 ?_
      refine s_getiv (v := nS σ sx sy (16 * k1 + k2)) (by rw [sP_same, upd3_9]) (ci := 7) (k := 9) hK rfl rfl i_7 (by decide +kernel) dX7_check_86 (by decide) (by decide) (by decide) rfl rfl ?_
      refine AW.cut (j := 107) (v := b2 (cS σ sx sy (16 * k1 + k2))) (fun hJ_107 => ?_) ?_
      · refine s_iload5 hK dX7_check_89 ?_
        refine s_if_ne (tgt := 106) hK dX7_check_91 (by decide) (fun c_91 => ?_) (fun c_91 => ?_)
        · refine s_iconst (v := 0) hK dX7_check_106 (by decide) ?_
          exact AW.vv hJ_107 (by first | (rw [cS, decide_eq_true (p := _ ∧ _) ⟨c_91, c_99⟩]; rfl) | (rw [cS, decide_eq_false (fun e => c_99 e.2)]; rfl) | (rw [cS, decide_eq_false (fun e => c_91 e.1)]; rfl))
        · refine s_iload6 hK dX7_check_94 ?_
          refine s_iconst (v := 2) hK dX7_check_96 (by decide) ?_
          refine s_irem hK dX7_check_97 (by decide) ?_
          refine s_iconst (v := 1) hK dX7_check_98 (by decide) ?_
          refine s_icmp_ne (tgt := 106) hK dX7_check_99 (by decide) (fun c_99 => ?_) (fun c_99 => ?_)
          · refine s_iconst (v := 0) hK dX7_check_106 (by decide) ?_
            exact AW.vv hJ_107 (by first | (rw [cS, decide_eq_true (p := _ ∧ _) ⟨c_91, c_99⟩]; rfl) | (rw [cS, decide_eq_false (fun e => c_99 e.2)]; rfl) | (rw [cS, decide_eq_false (fun e => c_91 e.1)]; rfl))
          · refine s_iconst (v := 1) hK dX7_check_102 (by decide) ?_
            refine s_goto (tgt := 107) hK dX7_check_103 (by decide) ?_
            exact AW.vv hJ_107 (by first | (rw [cS, decide_eq_true (p := _ ∧ _) ⟨c_91, c_99⟩]; rfl) | (rw [cS, decide_eq_false (fun e => c_99 e.2)]; rfl) | (rw [cS, decide_eq_false (fun e => c_91 e.1)]; rfl))
      show AW K _ _ _ _
      refine s_iadd hK dX7_check_107 ?_
      refine s_putg (ci := 7) (k := 9) (ty := .int) hK rfl rfl i_7 (by decide +kernel) dX7_check_108 tyX7_ok nmX7 (by decide) (by decide) (by decide) rfl rfl rfl (by decide +kernel) rfl rfl ?_
      rw [sP_sP, sP_same, upd3_s9, show nS σ sx sy (16 * k1 + k2) + b2 (cS σ sx sy (16 * k1 + k2)) = nS σ sx sy (16 * k1 + k2 + 1) from acc_b2 _ _]
      refine s_aload0 hK dX7_check_111 ?_
      refine s_dup hK dX7_check_112 ?_
      refine s_getiv (v := nL_ σ sx sy (16 * k1 + k2)) (by rw [sP_same, upd3_10]) (ci := 7) (k := 10) hK rfl rfl i_7 (by decide +kernel) dX7_check_113 (by decide) (by decide) (by decide) rfl rfl ?_
      refine AW.cut (j := 133) (v := b2 (cL_ σ sx sy (16 * k1 + k2))) (fun hJ_133 => ?_) ?_
      · refine s_iload5 hK dX7_check_116 ?_
        refine s_iconst (v := 2) hK dX7_check_118 (by decide) ?_
        refine s_icmp_ne (tgt := 132) hK dX7_check_119 (by decide) (fun c_119 => ?_) (fun c_119 => ?_)
        · refine s_iconst (v := 0) hK dX7_check_132 (by decide) ?_
          exact AW.vv hJ_133 (by first | (rw [cL_, decide_eq_true (p := _ ∧ _) ⟨c_119, c_125⟩]; rfl) | (simp [cL_, b2, c_119, c_125]; done) | (simp [cL_, b2, c_119]; done))
        · refine s_iload6 hK dX7_check_122 ?_
          refine s_iconst (v := 2) hK dX7_check_124 (by decide) ?_
          refine s_icmp_ge (tgt := 132) hK dX7_check_125 (by decide) (fun c_125 => ?_) (fun c_125 => ?_)
          · refine s_iconst (v := 0) hK dX7_check_132 (by decide) ?_
            exact AW.vv hJ_133 (by first | (rw [cL_, decide_eq_true (p := _ ∧ _) ⟨c_119, c_125⟩]; rfl) | (simp [cL_, b2, c_119, c_125]; done) | (simp [cL_, b2, c_119]; done))
          · refine s_iconst (v := 1) hK dX7_check_128 (by decide) ?_
            refine s_goto (tgt := 133) hK dX7_check_129 (by decide) ?_
            exact AW.vv hJ_133 (by first | (rw [cL_, decide_eq_true (p := _ ∧ _) ⟨c_119, c_125⟩]; rfl) | (simp [cL_, b2, c_119, c_125]; done) | (simp [cL_, b2, c_119]; done))
      show AW K _ _ _ _
      refine s_iadd hK dX7_check_133 ?_
      refine s_putg (ci := 7) (k := 10) (ty := .int) hK rfl rfl i_7 (by decide +kernel) dX7_check_134 tyX7_ok nmX7 (by decide) (by decide) (by decide) rfl rfl rfl (by decide +kernel) rfl rfl ?_
      rw [sP_sP, sP_same, upd3_s10, show nL_ σ sx sy (16 * k1 + k2) + b2 (cL_ σ sx sy (16 * k1 + k2)) = nL_ σ sx sy (16 * k1 + k2 + 1) from acc_b2 _ _]
      refine s_iinc4 hK dX7_check_137 (hv_1 _) ?_
      refine s_goto (tgt := 26) hK dX7_check_140 (by decide) ?_
      exact AW.to (ih2 _ _) (by rw [nI_1]) (rfl)
    refine s_iload3 hK dX7_check_17 ?_
    refine s_bipush (v := 12) hK dX7_check_18 (by decide) ?_
    refine s_icmp_ge (tgt := 149) hK dX7_check_20 (by decide) (fun c_20 => absurd c_20 (ge_N rfl rfl hk1 (by decide))) (fun c_20 => ?_)
    refine s_iconst (v := 0) hK dX7_check_23 (by decide) ?_
    refine s_istore4 hK dX7_check_24 ?_
    exact AW.to (up_to (fun kx => ∀ z5 : Option Value, ∀ z6 : Option Value, AW K 26 [some (.ref 700), some (.int sx), some (.int sy), some (.int (nI k1)), some (.int (nI kx)), z5, z6] [] (kS_ σ sx sy (16 * k1 + kx))) 16 hx2 hb2 _ _) (rfl) (rfl)
  refine s_aload0 hK dX7_check_0 ?_
  refine s_iconst (v := 0) hK dX7_check_1 (by decide) ?_
  refine s_putg (ci := 7) (k := 8) (ty := .int) hK rfl rfl i_7 (by decide +kernel) dX7_check_2 tyX7_ok nmX7 (by decide) (by decide) (by decide) rfl rfl rfl (by decide +kernel) rfl rfl ?_
  refine s_aload0 hK dX7_check_5 ?_
  refine s_iconst (v := 0) hK dX7_check_6 (by decide) ?_
  refine s_putg (ci := 7) (k := 9) (ty := .int) hK rfl rfl i_7 (by decide +kernel) dX7_check_7 tyX7_ok nmX7 (by decide) (by decide) (by decide) rfl rfl rfl (by decide +kernel) rfl rfl ?_
  refine s_aload0 hK dX7_check_10 ?_
  refine s_iconst (v := 0) hK dX7_check_11 (by decide) ?_
  refine s_putg (ci := 7) (k := 10) (ty := .int) hK rfl rfl i_7 (by decide +kernel) dX7_check_12 tyX7_ok nmX7 (by decide) (by decide) (by decide) rfl rfl rfl (by decide +kernel) rfl rfl ?_
  refine s_iconst (v := 0) hK dX7_check_15 (by decide) ?_
  refine s_istore3 hK dX7_check_16 ?_
  exact AW.to (up_to (fun kx => ∀ z4 : Option Value, ∀ z5 : Option Value, ∀ z6 : Option Value, AW K 17 [some (.ref 700), some (.int sx), some (.int sy), some (.int (nI kx)), z4, z5, z6] [] (kS_ σ sx sy (16 * kx))) 12 hx1 hb1 _ _ _) (rfl) (by rw [sP_sP, sP_sP, sP_same, sP_same]; rfl)
set_option maxHeartbeats 4000000 in
set_option maxRecDepth 100000 in
theorem zX7_shiftX {g : aG} {l : Launch} {σ : aS} (p : Int32) : CN g l yX7_shiftX wsX7_shiftX 0 0 [.ref 700, .int p] σ (some (.int (sXM σ p))) σ := by
  refine cn_of (cc := cX7_shiftX) (nL := 2) (ret := (some .int)) (own := RX7) (by decide +kernel) rfl rfl (Nat.le_of_ble_eq_true rfl) (fun K hg hl hK hE => ?_)
  subst hg; subst hl
  have i_7 : ∀ w ∈ u_ws RX7 TX7 15, w ∈ wsX7_shiftX := by decide +kernel
  show AW K 0 [some (.ref 700), some (.int p)] [] σ
  refine s_iload1 hK dX7_shiftX_0 ?_
  refine s_aload0 hK dX7_shiftX_1 ?_
  refine s_getr (ci := 7) (k := 1) hK rfl rfl i_7 (by decide +kernel) dX7_shiftX_2 (by decide) (by decide) (by decide) rfl rfl (rf_7_1 rfl) ?_
  refine s_sipush (v := 768) hK dX7_shiftX_5 (by decide) ?_
  refine s_ialdv (v := σ 701 768) (rfl) hK rfl (show vp_in _ 2374 from vp_in_nI (n := 768) (by decide) (by decide)) dX7_shiftX_8 ?_
  refine s_bipush (v := 50) hK dX7_shiftX_9 (by decide) ?_
  refine s_isub hK dX7_shiftX_11 ?_
  refine s_aload0 hK dX7_shiftX_12 ?_
  refine s_getr (ci := 7) (k := 1) hK rfl rfl i_7 (by decide +kernel) dX7_shiftX_13 (by decide) (by decide) (by decide) rfl rfl (rf_7_1 rfl) ?_
  refine s_sipush (v := 769) hK dX7_shiftX_16 (by decide) ?_
  refine s_ialdv (v := σ 701 769) (rfl) hK rfl (show vp_in _ 2374 from vp_in_nI (n := 769) (by decide) (by decide)) dX7_shiftX_19 ?_
  refine s_imul hK dX7_shiftX_20 ?_
  refine s_bipush (v := 50) hK dX7_shiftX_21 (by decide) ?_
  refine s_idiv hK dX7_shiftX_23 (by decide) ?_
  refine s_iadd hK dX7_shiftX_24 ?_
  exact s_iret hK hE dX7_shiftX_25 rfl (rfl) (rfl)
set_option maxHeartbeats 4000000 in
set_option maxRecDepth 100000 in
theorem zX7_shiftY {g : aG} {l : Launch} {σ : aS} (p : Int32) : CN g l yX7_shiftY wsX7_shiftY 0 0 [.ref 700, .int p] σ (some (.int (sYM σ p))) σ := by
  refine cn_of (cc := cX7_shiftY) (nL := 2) (ret := (some .int)) (own := RX7) (by decide +kernel) rfl rfl (Nat.le_of_ble_eq_true rfl) (fun K hg hl hK hE => ?_)
  subst hg; subst hl
  have i_7 : ∀ w ∈ u_ws RX7 TX7 15, w ∈ wsX7_shiftY := by decide +kernel
  show AW K 0 [some (.ref 700), some (.int p)] [] σ
  refine s_iload1 hK dX7_shiftY_0 ?_
  refine s_aload0 hK dX7_shiftY_1 ?_
  refine s_getr (ci := 7) (k := 1) hK rfl rfl i_7 (by decide +kernel) dX7_shiftY_2 (by decide) (by decide) (by decide) rfl rfl (rf_7_1 rfl) ?_
  refine s_sipush (v := 768) hK dX7_shiftY_5 (by decide) ?_
  refine s_ialdv (v := σ 701 768) (rfl) hK rfl (show vp_in _ 2374 from vp_in_nI (n := 768) (by decide) (by decide)) dX7_shiftY_8 ?_
  refine s_bipush (v := 50) hK dX7_shiftY_9 (by decide) ?_
  refine s_isub hK dX7_shiftY_11 ?_
  refine s_aload0 hK dX7_shiftY_12 ?_
  refine s_getr (ci := 7) (k := 1) hK rfl rfl i_7 (by decide +kernel) dX7_shiftY_13 (by decide) (by decide) (by decide) rfl rfl (rf_7_1 rfl) ?_
  refine s_sipush (v := 770) hK dX7_shiftY_16 (by decide) ?_
  refine s_ialdv (v := σ 701 770) (rfl) hK rfl (show vp_in _ 2374 from vp_in_nI (n := 770) (by decide) (by decide)) dX7_shiftY_19 ?_
  refine s_imul hK dX7_shiftY_20 ?_
  refine s_bipush (v := 50) hK dX7_shiftY_21 (by decide) ?_
  refine s_idiv hK dX7_shiftY_23 (by decide) ?_
  refine s_iadd hK dX7_shiftY_24 ?_
  exact s_iret hK hE dX7_shiftY_25 rfl (rfl) (rfl)
def cNX (σ : aS) : Int32 := sXM σ (σ 701 773)
def cNY (σ : aS) : Int32 := sYM σ (σ 701 774)
def cNw (σ : aS) : aS := kK (lY σ) (cNX σ) (cNY σ)
theorem lY_701 (σ : aS) : lY σ 701 = σ 701 := sP_ne (by decide)
theorem sXM_lY (σ : aS) (p : Int32) : sXM (lY σ) p = sXM σ p := by simp [sXM, lY_701]
theorem sYM_lY (σ : aS) (p : Int32) : sYM (lY σ) p = sYM σ p := by simp [sYM, lY_701]
set_option maxHeartbeats 4000000 in
set_option maxRecDepth 100000 in
theorem zX7_checkNow {g : aG} {l : Launch} {σ : aS} : CN g l yX7_checkNow wsX7_checkNow 5 117 [.ref 700] σ none (cNw σ) := by
  refine cn_of (cc := cX7_checkNow) (nL := 1) (ret := none) (own := RX7) (by decide +kernel) rfl rfl (Nat.le_of_ble_eq_true rfl) (fun K hg hl hK hE => ?_)
  subst hg; subst hl
  have i_7 : ∀ w ∈ u_ws RX7 TX7 15, w ∈ wsX7_checkNow := by decide +kernel
  show AW K 0 [some (.ref 700)] [] σ
  refine s_aload0 hK dX7_checkNow_0 ?_
  refine s_callV (ci := 7) hK mdX7_lay (zX7_lay) gX7_checkNow_X7_lay rfl rfl rfl (by decide) rfl ⟨Nat.le_of_ble_eq_true rfl, Nat.le_of_ble_eq_true rfl⟩ rfl (Nat.le_of_ble_eq_true rfl) dX7_checkNow_1 ?_
  try dsimp only [Option.toList, List.cons_append, List.nil_append]
  refine s_aload0 hK dX7_checkNow_4 ?_
  refine s_aload0 hK dX7_checkNow_5 ?_
  refine s_aload0 hK dX7_checkNow_6 ?_
  refine s_getr (ci := 7) (k := 1) hK rfl rfl i_7 (by decide +kernel) dX7_checkNow_7 (by decide) (by decide) (by decide) rfl rfl (rf_7_1 rfl) ?_
  refine s_sipush (v := 773) hK dX7_checkNow_10 (by decide) ?_
  refine s_ialdv (v := σ 701 773) (by rw [lY_701]; rfl) hK rfl (show vp_in _ 2374 from vp_in_nI (n := 773) (by decide) (by decide)) dX7_checkNow_13 ?_
  refine s_callV (ci := 7) hK mdX7_shiftX (zX7_shiftX _) gX7_checkNow_X7_shiftX rfl rfl rfl (by decide) rfl ⟨Nat.le_of_ble_eq_true rfl, Nat.le_of_ble_eq_true rfl⟩ rfl (Nat.le_of_ble_eq_true rfl) dX7_checkNow_14 ?_
  try dsimp only [Option.toList, List.cons_append, List.nil_append]
  rw [sXM_lY]
  refine s_aload0 hK dX7_checkNow_17 ?_
  refine s_aload0 hK dX7_checkNow_18 ?_
  refine s_getr (ci := 7) (k := 1) hK rfl rfl i_7 (by decide +kernel) dX7_checkNow_19 (by decide) (by decide) (by decide) rfl rfl (rf_7_1 rfl) ?_
  refine s_sipush (v := 774) hK dX7_checkNow_22 (by decide) ?_
  refine s_ialdv (v := σ 701 774) (by rw [lY_701]; rfl) hK rfl (show vp_in _ 2374 from vp_in_nI (n := 774) (by decide) (by decide)) dX7_checkNow_25 ?_
  refine s_callV (ci := 7) hK mdX7_shiftY (zX7_shiftY _) gX7_checkNow_X7_shiftY rfl rfl rfl (by decide) rfl ⟨Nat.le_of_ble_eq_true rfl, Nat.le_of_ble_eq_true rfl⟩ rfl (Nat.le_of_ble_eq_true rfl) dX7_checkNow_26 ?_
  try dsimp only [Option.toList, List.cons_append, List.nil_append]
  rw [sYM_lY]
  refine s_callV (ci := 7) hK mdX7_check (zX7_check (cNX σ) (cNY σ)) gX7_checkNow_X7_check rfl rfl rfl (by decide) rfl ⟨Nat.le_of_ble_eq_true rfl, Nat.le_of_ble_eq_true rfl⟩ rfl (Nat.le_of_ble_eq_true rfl) dX7_checkNow_29 ?_
  try dsimp only [Option.toList, List.cons_append, List.nil_append]
  exact s_vret hK hE dX7_checkNow_32 (rfl)
set_option maxHeartbeats 4000000 in
set_option maxRecDepth 100000 in
theorem zX7_hasGapsWithin {g : aG} {l : Launch} {σ : aS} (r : Nat) (hr : r ≤ 4) : CN g l yX7_hasGapsWithin wsX7_hasGapsWithin 5 117 [.ref 700, .int (nI r)] σ (some (.int (b2 (hMe σ r).1))) ((hMe σ r).2) := by
  refine cn_of (cc := cX7_hasGapsWithin) (nL := 4) (ret := (some .boolean)) (own := RX7) (by decide +kernel) rfl rfl (Nat.le_of_ble_eq_true rfl) (fun K hg hl hK hE => ?_)
  subst hg; subst hl
  have i_7 : ∀ w ∈ u_ws RX7 TX7 15, w ∈ wsX7_hasGapsWithin := by decide +kernel
  show AW K 0 [some (.ref 700), some (.int (nI r)), none, none] [] σ
  have hx1 : (∀ z3 : Option Value, ((hM σ r ((2 * r + 1) * (2 * r + 1))).1 = false) → AW K 3 [some (.ref 700), some (.int (nI r)), some (.int (nI (2 * r + 1) - nI r)), z3] [] ((hM σ r ((2 * r + 1) * (2 * r + 1))).2)) := by
    intro z3 hH1
    refine s_iload2 hK dX7_hasGapsWithin_3 ?_
    refine s_iload1 hK dX7_hasGapsWithin_4 ?_
    refine s_icmp_gt (tgt := 43) hK dX7_hasGapsWithin_5 (by decide) (fun c_5 => ?_) (fun c_5 => absurd c_5 (fun q => q (cnt_out hr)))
    refine s_iconst (v := 0) hK dX7_hasGapsWithin_43 (by decide) ?_
    exact s_iret hK hE dX7_hasGapsWithin_44 (by decide) (by rw [hMe, hH1]; rfl) (rfl)
  have hb1 : ∀ k1 : Nat, k1 < (2 * r + 1) → (∀ z3 : Option Value, ((hM σ r ((2 * r + 1) * (k1 + 1))).1 = false) → AW K 3 [some (.ref 700), some (.int (nI r)), some (.int (nI (k1 + 1) - nI r)), z3] [] ((hM σ r ((2 * r + 1) * (k1 + 1))).2)) → (∀ z3 : Option Value, ((hM σ r ((2 * r + 1) * k1)).1 = false) → AW K 3 [some (.ref 700), some (.int (nI r)), some (.int (nI k1 - nI r)), z3] [] ((hM σ r ((2 * r + 1) * k1)).2)) := by
    intro k1 hk1 ih1 z3 hH1
    have hx2 : (((hM σ r ((2 * r + 1) * k1 + (2 * r + 1))).1 = false) → AW K 11 [some (.ref 700), some (.int (nI r)), some (.int (nI k1 - nI r)), some (.int (nI (2 * r + 1) - nI r))] [] ((hM σ r ((2 * r + 1) * k1 + (2 * r + 1))).2)) := by
      intro hH2
      refine s_iload3 hK dX7_hasGapsWithin_11 ?_
      refine s_iload1 hK dX7_hasGapsWithin_12 ?_
      refine s_icmp_gt (tgt := 37) hK dX7_hasGapsWithin_13 (by decide) (fun c_13 => ?_) (fun c_13 => absurd c_13 (fun q => q (cnt_out hr)))
      refine s_iinc2 hK dX7_hasGapsWithin_37 (hv_1 _) ?_
      refine s_goto (tgt := 3) hK dX7_hasGapsWithin_40 (by decide) ?_
      exact AW.to (ih1 _ (by rw [Nat.mul_succ]; exact hH2)) (by rw [step_r]) (by rw [Nat.mul_succ])
    have hb2 : ∀ k2 : Nat, k2 < (2 * r + 1) → (((hM σ r ((2 * r + 1) * k1 + (k2 + 1))).1 = false) → AW K 11 [some (.ref 700), some (.int (nI r)), some (.int (nI k1 - nI r)), some (.int (nI (k2 + 1) - nI r))] [] ((hM σ r ((2 * r + 1) * k1 + (k2 + 1))).2)) → (((hM σ r ((2 * r + 1) * k1 + k2)).1 = false) → AW K 11 [some (.ref 700), some (.int (nI r)), some (.int (nI k1 - nI r)), some (.int (nI k2 - nI r))] [] ((hM σ r ((2 * r + 1) * k1 + k2)).2)) := by
      intro k2 hk2 ih2 hH2
      refine s_iload3 hK dX7_hasGapsWithin_11 ?_
      refine s_iload1 hK dX7_hasGapsWithin_12 ?_
      refine s_icmp_gt (tgt := 37) hK dX7_hasGapsWithin_13 (by decide) (fun c_13 => absurd c_13 (cnt_in hr hk2)) (fun c_13 => ?_)
      have hs1 : hM σ r ((2 * r + 1) * k1 + k2 + 1) = (decide (0 < ct (cG σ (nI k2 - nI r) (nI k1 - nI r))), kK σ (nI k2 - nI r) (nI k1 - nI r)) := by rw [hM_s hH2, (dm_1 hk2).1, (dm_1 hk2).2]
      refine s_aload0 hK dX7_hasGapsWithin_16 ?_
      refine s_iload3 hK dX7_hasGapsWithin_17 ?_
      refine s_iload2 hK dX7_hasGapsWithin_18 ?_
      refine s_callV (ci := 7) hK mdX7_check (zX7_check (nI k2 - nI r) (nI k1 - nI r)) gX7_hasGapsWithin_X7_check rfl rfl rfl (by decide) rfl ⟨Nat.le_of_ble_eq_true rfl, Nat.le_of_ble_eq_true rfl⟩ rfl (Nat.le_of_ble_eq_true rfl) dX7_hasGapsWithin_19 ?_
      try dsimp only [Option.toList, List.cons_append, List.nil_append]
      rw [hM_kK]
      refine s_aload0 hK dX7_hasGapsWithin_22 ?_
      refine s_getiv (v := nI (ct (cG σ (nI k2 - nI r) (nI k1 - nI r)))) (kK_8 _ _ _) (ci := 7) (k := 8) hK rfl rfl i_7 (by decide +kernel) dX7_hasGapsWithin_23 (by decide) (by decide) (by decide) rfl rfl ?_
      refine s_if_le (tgt := 31) hK dX7_hasGapsWithin_26 (by decide) (fun c_26 => ?_) (fun c_26 => ?_)
      · refine s_iinc3 hK dX7_hasGapsWithin_31 (hv_1 _) ?_
        refine s_goto (tgt := 11) hK dX7_hasGapsWithin_34 (by decide) ?_
        exact AW.to (ih2 (by rw [show (2 * r + 1) * k1 + (k2 + 1) = (2 * r + 1) * k1 + k2 + 1 from rfl, hs1]; exact decide_eq_false (by rw [ct_zero c_26]; decide))) (by rw [step_r]) (by rw [show (2 * r + 1) * k1 + (k2 + 1) = (2 * r + 1) * k1 + k2 + 1 from rfl, hs1])
      · refine s_iconst (v := 1) hK dX7_hasGapsWithin_29 (by decide) ?_
        exact s_iret hK hE dX7_hasGapsWithin_30 (by decide) (by rw [hM_end (n := (2 * r + 1) * k1 + k2 + 1) (by rw [hs1]; exact decide_eq_true (ct_pos c_26)) (mul_le2 hk1 hk2), hs1, show decide (0 < ct (cG σ (nI k2 - nI r) (nI k1 - nI r))) = true from decide_eq_true (ct_pos c_26)]; rfl) (by rw [hM_end (n := (2 * r + 1) * k1 + k2 + 1) (by rw [hs1]; exact decide_eq_true (ct_pos c_26)) (mul_le2 hk1 hk2), hs1])
    refine s_iload2 hK dX7_hasGapsWithin_3 ?_
    refine s_iload1 hK dX7_hasGapsWithin_4 ?_
    refine s_icmp_gt (tgt := 43) hK dX7_hasGapsWithin_5 (by decide) (fun c_5 => absurd c_5 (cnt_in hr hk1)) (fun c_5 => ?_)
    refine s_iload1 hK dX7_hasGapsWithin_8 ?_
    refine s_ineg hK dX7_hasGapsWithin_9 ?_
    refine s_istore3 hK dX7_hasGapsWithin_10 ?_
    exact AW.to (up_to (fun kx => ((hM σ r ((2 * r + 1) * k1 + kx)).1 = false) → AW K 11 [some (.ref 700), some (.int (nI r)), some (.int (nI k1 - nI r)), some (.int (nI kx - nI r))] [] ((hM σ r ((2 * r + 1) * k1 + kx)).2)) (2 * r + 1) hx2 hb2 (hH1)) (by rw [neg_r]) (rfl)
  refine s_iload1 hK dX7_hasGapsWithin_0 ?_
  refine s_ineg hK dX7_hasGapsWithin_1 ?_
  refine s_istore2 hK dX7_hasGapsWithin_2 ?_
  exact AW.to (up_to (fun kx => ∀ z3 : Option Value, ((hM σ r ((2 * r + 1) * kx)).1 = false) → AW K 3 [some (.ref 700), some (.int (nI r)), some (.int (nI kx - nI r)), z3] [] ((hM σ r ((2 * r + 1) * kx)).2)) (2 * r + 1) hx1 hb1 _ (rfl)) (by rw [neg_r]) (rfl)
