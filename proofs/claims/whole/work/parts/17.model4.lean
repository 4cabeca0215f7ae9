theorem q5_st {σ : aS} {p : Nat} (hp : 776 ≤ p) : True := trivial
def yM (kind look : Int32) (w : Bool) : Int32 := if ¬ kind = 0 ∧ look = 0 then (if w = true then 1 else 2) else if kind = 0 ∧ look - look / 2 * 2 = 1 then 3 else if ¬ kind = 2 then (if 2 ≤ look then 4 else 0) else (if 2 ≤ look then 0 else 5)
def mpW (σ : aS) (n : Nat) : Int32 := kK σ (sXM σ (nI (n / 9) - 4)) (sYM σ (nI (n % 9) - 4)) 700 8 + kK σ (sXM σ (nI (n / 9) - 4)) (sYM σ (nI (n % 9) - 4)) 700 9
def mpS (σ : aS) : Nat → aS
  | 0 => σ
  | n + 1 => kK σ (sXM σ (nI (n / 9) - 4)) (sYM σ (nI (n % 9) - 4))
def mpF (σ : aS) : Nat → Int32 × Int32 × Int32
  | 0 => (0, 0, 385)
  | n + 1 => if (mpF σ n).2.2 ≤ mpW σ n then mpF σ n else (nI (n / 9) - 4, nI (n % 9) - 4, mpW σ n)
theorem mpF_no {σ : aS} {n : Nat} (h : (mpF σ n).2.2 ≤ mpW σ n) : mpF σ (n + 1) = mpF σ n := if_pos h
theorem mpF_y {σ : aS} {n : Nat} (h : ¬ (mpF σ n).2.2 ≤ mpW σ n) : mpF σ (n + 1) = (nI (n / 9) - 4, nI (n % 9) - 4, mpW σ n) := if_neg h
theorem mpS_k (σ : aS) (a b : Int32) : ∀ n, kK (mpS σ n) a b = kK σ a b
  | 0 => rfl
  | _ + 1 => kK_kK _ _ _ _ _
theorem mpS_701 (σ : aS) : ∀ n, mpS σ n 701 = σ 701
  | 0 => rfl
  | _ + 1 => kK_ne (by decide)
theorem mpS_X (σ : aS) (p : Int32) (n : Nat) : sXM (mpS σ n) p = sXM σ p := by simp only [sXM, mpS_701]
theorem mpS_Y (σ : aS) (p : Int32) (n : Nat) : sYM (mpS σ n) p = sYM σ p := by simp only [sYM, mpS_701]
def mpR (σ : aS) (a : Int32) : Int32 := if a = 0 then (mpF σ 81).1 + 4 else if a = 1 then (mpF σ 81).2.1 + 4 else (mpF σ 81).2.2
/-- tolerance: state and whether found, behind r = 0 .. n - 1 -/
def tM (σ : aS) : Nat → Bool × aS
  | 0 => (false, σ)
  | n + 1 => if (tM σ n).1 = true then tM σ n else hMe (tM σ n).2 n
theorem tM_t {σ : aS} {n : Nat} (h : (tM σ n).1 = true) : tM σ (n + 1) = tM σ n := if_pos h
theorem tM_f {σ : aS} {n : Nat} (h : (tM σ n).1 = false) : tM σ (n + 1) = hMe (tM σ n).2 n := if_neg (by rw [h]; decide)
theorem tM_stay {σ : aS} {n : Nat} (h : (tM σ n).1 = true) : ∀ m, tM σ (n + m) = tM σ n
  | 0 => rfl
  | m + 1 => by
    have e := tM_stay h m
    have h2 : (tM σ (n + m)).1 = true := by rw [e]; exact h
    exact (tM_t h2).trans e
def tMp (σ : aS) (k : Nat) : Bool := (hMe (tM σ k).2 k).1
theorem tM_end {σ : aS} {k : Nat} (hk : k < 5) (h : (tM σ (k + 1)).1 = true) : tM σ 5 = tM σ (k + 1) := by
  have := tM_stay h (5 - (k + 1))
  rw [show k + 1 + (5 - (k + 1)) = 5 by omega] at this
  exact this
/-- trapFor -/
def fM (σ : aS) (r : Nat) : Nat → Bool × aS
  | 0 => (false, σ)
  | n + 1 => if (fM σ r n).1 = true then fM σ r n else (!(hMe (lC_ (fM σ r n).2 (nI n)) r).1, (hMe (lC_ (fM σ r n).2 (nI n)) r).2)
theorem fM_t {σ : aS} {r n : Nat} (h : (fM σ r n).1 = true) : fM σ r (n + 1) = fM σ r n := if_pos h
theorem fM_f {σ : aS} {r n : Nat} (h : (fM σ r n).1 = false) : fM σ r (n + 1) = (!(hMe (lC_ (fM σ r n).2 (nI n)) r).1, (hMe (lC_ (fM σ r n).2 (nI n)) r).2) := if_neg (by rw [h]; decide)
theorem fM_stay {σ : aS} {r n : Nat} (h : (fM σ r n).1 = true) : ∀ m, fM σ r (n + m) = fM σ r n
  | 0 => rfl
  | m + 1 => by
    have e := fM_stay h m
    have h2 : (fM σ r (n + m)).1 = true := by rw [e]; exact h
    exact (fM_t h2).trans e
def fMp (σ : aS) (r k : Nat) : Bool := !(hMe (lC_ (fM σ r k).2 (nI k)) r).1
theorem fM_end {σ : aS} {r k : Nat} (hk : k < 5) (h : (fM σ r (k + 1)).1 = true) : fM σ r 5 = fM σ r (k + 1) := by
  have := fM_stay h (5 - (k + 1))
  rw [show k + 1 + (5 - (k + 1)) = 5 by omega] at this
  exact this
def fMR (σ : aS) (r : Nat) : Int32 := if fa_first (fMp σ r) 5 = 5 then -1009 else nI (fa_first (fMp σ r) 5)
/-- printsLeft -/
def plM (σ : aS) : Nat → Int32
  | 0 => 501
  | n + 1 => if (if σ 704 n = 1 then (σ 701 771 - σ 701 (384 + n)) / ruV σ n + 1 else plM σ n) < plM σ n then (if σ 704 n = 1 then (σ 701 771 - σ 701 (384 + n)) / ruV σ n + 1 else plM σ n) else plM σ n
theorem ruV_ne0 (σ : aS) (k : Nat) : ¬ ruV σ k = 0 := by
  intro h
  have h1 := fb_ct_le (rb σ k) 4
  have h2 : ruV σ k = nI (1 + fb_ct (rb σ k) 4) := by
    unfold ruV
    rw [show (1 : Int32) = nI 1 from rfl, nI_add]
  rw [h2] at h
  exact nI_ne0 (by omega) (by omega) h
theorem sl_ix (s : Nat) : (836 : Int32) + 769 * nI s = nI (836 + 769 * s) := by
  rw [show (769 : Int32) = nI 769 from rfl, show (836 : Int32) = nI 836 from rfl, pk_mul, nI_add]
set_option maxHeartbeats 4000000 in
set_option maxRecDepth 100000 in
theorem zX7_printOne {g : aG} {l : Launch} {σ : aS} (pn : Nat) (hp : pn < 5000) (h5 : σ 701 775 = nI pn) : CN g l yX7_printOne wsX7_printOne 6 137 [.ref 700] σ none (q8 σ pn) := by
  refine cn_of (cc := cX7_printOne) (nL := 3) (ret := none) (own := RX7) (by decide +kernel) rfl rfl (Nat.le_of_ble_eq_true rfl) (fun K hg hl hK hE => ?_)
  subst hg; subst hl
  have i_7 : ∀ w ∈ u_ws RX7 TX7 15, w ∈ wsX7_printOne := by decide +kernel
  show AW K 0 [some (.ref 700), none, none] [] σ
  have hx1 : AW K 110 [some (.ref 700), some (.int (nI (776 + 5 * (pn % 12)))), some (.int (nI 192))] [] (sP (q6 σ pn) 701 (fb_put (q6 σ pn 701) (qw σ pn) 384 192)) := by
    refine s_iload2 hK dX7_printOne_110 ?_
    refine s_sipush (v := 192) hK dX7_printOne_111 (by decide) ?_
    refine s_icmp_ge (tgt := 155) hK dX7_printOne_114 (by decide) (fun c_114 => ?_) (fun c_114 => absurd c_114 (fun q => q (ge_E rfl rfl)))
    show AW K _ _ _ (q7 σ pn)
    refine s_aload0 hK dX7_printOne_155 ?_
    refine s_getr (ci := 7) (k := 1) hK rfl rfl i_7 (by decide +kernel) dX7_printOne_156 (by decide) (by decide) (by decide) rfl rfl (rf_7_1 rfl) ?_
    refine s_sipush (v := 768) hK dX7_printOne_159 (by decide) ?_
    refine AW.cut (j := 202) (v := if q7 σ pn 701 768 ≤ q7 σ pn 701 772 then 0 else q7 σ pn 701 768 - q7 σ pn 701 772) (fun hJ_202 => ?_) ?_
    · refine s_aload0 hK dX7_printOne_162 ?_
      refine s_getr (ci := 7) (k := 1) hK rfl rfl i_7 (by decide +kernel) dX7_printOne_163 (by decide) (by decide) (by decide) rfl rfl (rf_7_1 rfl) ?_
      refine s_sipush (v := 768) hK dX7_printOne_166 (by decide) ?_
      refine s_ialdv (v := q7 σ pn 701 768) (rfl) hK rfl (show vp_in _ 2374 from vp_in_nI (n := 768) (by decide) (by decide)) dX7_printOne_169 ?_
      refine s_aload0 hK dX7_printOne_170 ?_
      refine s_getr (ci := 7) (k := 1) hK rfl rfl i_7 (by decide +kernel) dX7_printOne_171 (by decide) (by decide) (by decide) rfl rfl (rf_7_1 rfl) ?_
      refine s_sipush (v := 772) hK dX7_printOne_174 (by decide) ?_
      refine s_ialdv (v := q7 σ pn 701 772) (rfl) hK rfl (show vp_in _ 2374 from vp_in_nI (n := 772) (by decide) (by decide)) dX7_printOne_177 ?_
      refine s_icmp_le (tgt := 201) hK dX7_printOne_178 (by decide) (fun c_178 => ?_) (fun c_178 => ?_)
      · refine s_iconst (v := 0) hK dX7_printOne_201 (by decide) ?_
        exact AW.vv hJ_202 (by simp [c_178])
      · refine s_aload0 hK dX7_printOne_181 ?_
        refine s_getr (ci := 7) (k := 1) hK rfl rfl i_7 (by decide +kernel) dX7_printOne_182 (by decide) (by decide) (by decide) rfl rfl (rf_7_1 rfl) ?_
        refine s_sipush (v := 768) hK dX7_printOne_185 (by decide) ?_
        refine s_ialdv (v := q7 σ pn 701 768) (rfl) hK rfl (show vp_in _ 2374 from vp_in_nI (n := 768) (by decide) (by decide)) dX7_printOne_188 ?_
        refine s_aload0 hK dX7_printOne_189 ?_
        refine s_getr (ci := 7) (k := 1) hK rfl rfl i_7 (by decide +kernel) dX7_printOne_190 (by decide) (by decide) (by decide) rfl rfl (rf_7_1 rfl) ?_
        refine s_sipush (v := 772) hK dX7_printOne_193 (by decide) ?_
        refine s_ialdv (v := q7 σ pn 701 772) (rfl) hK rfl (show vp_in _ 2374 from vp_in_nI (n := 772) (by decide) (by decide)) dX7_printOne_196 ?_
        refine s_isub hK dX7_printOne_197 ?_
        refine s_goto (tgt := 202) hK dX7_printOne_198 (by decide) ?_
        exact AW.vv hJ_202 (by simp [c_178])
    show AW K _ _ _ _
    refine s_iast hK rfl (show vp_in _ 2374 from vp_in_nI (n := 768) (by decide) (by decide)) dX7_printOne_202 ?_
    exact s_vret hK hE dX7_printOne_203 (rfl)
  have hb1 : ∀ k1 : Nat, k1 < 192 → AW K 110 [some (.ref 700), some (.int (nI (776 + 5 * (pn % 12)))), some (.int (nI (k1 + 1)))] [] (sP (q6 σ pn) 701 (fb_put (q6 σ pn 701) (qw σ pn) 384 (k1 + 1))) → AW K 110 [some (.ref 700), some (.int (nI (776 + 5 * (pn % 12)))), some (.int (nI k1))] [] (sP (q6 σ pn) 701 (fb_put (q6 σ pn 701) (qw σ pn) 384 k1)) := by
    intro k1 hk1 ih1 
    refine s_iload2 hK dX7_printOne_110 ?_
    refine s_sipush (v := 192) hK dX7_printOne_111 (by decide) ?_
    refine s_icmp_ge (tgt := 155) hK dX7_printOne_114 (by decide) (fun c_114 => absurd c_114 (ge_N rfl rfl hk1 (by decide))) (fun c_114 => ?_)
    refine s_aload0 hK dX7_printOne_117 ?_
    refine s_getr (ci := 7) (k := 1) hK rfl rfl i_7 (by decide +kernel) dX7_printOne_118 (by decide) (by decide) (by decide) rfl rfl (rf_7_1 rfl) ?_
    refine s_sipush (v := 384) hK dX7_printOne_121 (by decide) ?_
    refine s_iload2 hK dX7_printOne_124 ?_
    refine s_iadd hK dX7_printOne_125 ?_
    rw [show (384 : Int32) = nI 384 from rfl, nI_add]
    refine s_dup2 hK dX7_printOne_126 ?_
    refine s_iald hK rfl (show vp_in _ 2374 from vp_in_nI (show 384 + k1 < 2374 by omega) (by decide)) dX7_printOne_127 ?_
    rw [cl_nI (show 384 + k1 < 2 ^ 31 by omega), sP_same, fb_put_out (Or.inr (Nat.le_refl _))]
    refine AW.cut (j := 147) (v := if cNw σ 704 k1 = 1 then ruV (cNw σ) k1 else 0) (fun hJ_147 => ?_) ?_
    · refine s_aload0 hK dX7_printOne_128 ?_
      refine s_getr (ci := 7) (k := 6) hK rfl rfl i_7 (by decide +kernel) dX7_printOne_129 (by decide) (by decide) (by decide) rfl rfl (rf_7_6 rfl) ?_
      refine s_iload2 hK dX7_printOne_132 ?_
      refine s_iald hK rfl (show vp_in _ 384 from vp_in_nI (show k1 < 384 by omega) (by decide)) dX7_printOne_133 ?_
      rw [cl_nI (show k1 < 2 ^ 31 by omega), sP_ne (by decide), q6_ne (by decide)]
      refine s_iconst (v := 1) hK dX7_printOne_134 (by decide) ?_
      refine s_icmp_ne (tgt := 146) hK dX7_printOne_135 (by decide) (fun c_135 => ?_) (fun c_135 => ?_)
      · refine s_iconst (v := 0) hK dX7_printOne_146 (by decide) ?_
        exact AW.vv hJ_147 (by simp [c_135])
      · refine s_aload0 hK dX7_printOne_138 ?_
        refine s_iload2 hK dX7_printOne_139 ?_
        refine s_callV (ci := 7) hK mdX7_rubs (zX7_rubs k1 hk1) gX7_printOne_X7_rubs rfl rfl rfl (by decide) rfl ⟨Nat.le_of_ble_eq_true rfl, Nat.le_of_ble_eq_true rfl⟩ rfl (Nat.le_of_ble_eq_true rfl) dX7_printOne_140 ?_
        try dsimp only [Option.toList, List.cons_append, List.nil_append]
        rw [ruV_q]
        refine s_goto (tgt := 147) hK dX7_printOne_143 (by decide) ?_
        exact AW.vv hJ_147 (by simp [c_135])
    show AW K _ _ _ _
    refine s_iadd hK dX7_printOne_147 ?_
    refine s_iast hK rfl (show vp_in _ 2374 from vp_in_nI (show 384 + k1 < 2374 by omega) (by decide)) dX7_printOne_148 ?_
    rw [cl_nI (show 384 + k1 < 2 ^ 31 by omega), sP_sP, sP_same, show q6 σ pn 701 (384 + k1) + (if cNw σ 704 k1 = 1 then ruV (cNw σ) k1 else 0) = qw σ pn k1 from rfl, fb_put_succ]
    refine s_iinc2 hK dX7_printOne_149 (hv_1 _) ?_
    refine s_goto (tgt := 110) hK dX7_printOne_152 (by decide) ?_
    exact AW.to ih1 (by rw [nI_1]) (rfl)
  refine s_aload0 hK dX7_printOne_0 ?_
  refine s_callV (ci := 7) hK mdX7_checkNow (zX7_checkNow) gX7_printOne_X7_checkNow rfl rfl rfl (by decide) rfl ⟨Nat.le_of_ble_eq_true rfl, Nat.le_of_ble_eq_true rfl⟩ rfl (Nat.le_of_ble_eq_true rfl) dX7_printOne_1 ?_
  try dsimp only [Option.toList, List.cons_append, List.nil_append]
  refine s_sipush (v := 776) hK dX7_printOne_4 (by decide) ?_
  refine s_iconst (v := 5) hK dX7_printOne_7 (by decide) ?_
  refine s_aload0 hK dX7_printOne_8 ?_
  refine s_getr (ci := 7) (k := 1) hK rfl rfl i_7 (by decide +kernel) dX7_printOne_9 (by decide) (by decide) (by decide) rfl rfl (rf_7_1 rfl) ?_
  refine s_sipush (v := 775) hK dX7_printOne_12 (by decide) ?_
  refine s_ialdv (v := nI pn) (by show cNw σ 701 775 = _; rw [cNw_701]; exact h5) hK rfl (show vp_in _ 2374 from vp_in_nI (n := 775) (by decide) (by decide)) dX7_printOne_15 ?_
  refine s_bipush (v := 12) hK dX7_printOne_16 (by decide) ?_
  refine s_irem hK dX7_printOne_18 (by decide) ?_
  refine s_imul hK dX7_printOne_19 ?_
  refine s_iadd hK dX7_printOne_20 ?_
  rw [show (776 : Int32) + 5 * (nI pn - nI pn / 12 * 12) = nI (776 + 5 * (pn % 12)) from by rw [show nI pn - nI pn / 12 * 12 = nI (pn % 12) from rem_nI 12 (by omega) (by decide) (by decide), show (5 : Int32) = nI 5 from rfl, show (776 : Int32) = nI 776 from rfl, pk_mul, nI_add]]
  refine s_istore1 hK dX7_printOne_21 ?_
  refine s_aload0 hK dX7_printOne_22 ?_
  refine s_getr (ci := 7) (k := 1) hK rfl rfl i_7 (by decide +kernel) dX7_printOne_23 (by decide) (by decide) (by decide) rfl rfl (rf_7_1 rfl) ?_
  refine s_iload1 hK dX7_printOne_26 ?_
  refine s_aload0 hK dX7_printOne_27 ?_
  refine s_aload0 hK dX7_printOne_28 ?_
  refine s_getr (ci := 7) (k := 1) hK rfl rfl i_7 (by decide +kernel) dX7_printOne_29 (by decide) (by decide) (by decide) rfl rfl (rf_7_1 rfl) ?_
  refine s_sipush (v := 773) hK dX7_printOne_32 (by decide) ?_
  refine s_ialdv (v := σ 701 773) (by show cNw σ 701 773 = _; rw [cNw_701]) hK rfl (show vp_in _ 2374 from vp_in_nI (n := 773) (by decide) (by decide)) dX7_printOne_35 ?_
  refine s_callV (ci := 7) hK mdX7_shiftX (zX7_shiftX _) gX7_printOne_X7_shiftX rfl rfl rfl (by decide) rfl ⟨Nat.le_of_ble_eq_true rfl, Nat.le_of_ble_eq_true rfl⟩ rfl (Nat.le_of_ble_eq_true rfl) dX7_printOne_36 ?_
  try dsimp only [Option.toList, List.cons_append, List.nil_append]
  rw [show sXM (cNw σ) (σ 701 773) = cNX σ from by unfold cNX; exact sX_of (by rw [cNw_701]) (by rw [cNw_701]) _]
  refine s_iast hK rfl (show vp_in _ 2374 from vp_in_nI (show (776 + 5 * (pn % 12)) < 2374 by omega) (by decide)) dX7_printOne_39 ?_
  rw [cl_nI (show (776 + 5 * (pn % 12)) < 2 ^ 31 by omega)]
  show AW K _ _ _ (s7 (cNw σ) (776 + 5 * (pn % 12)) (cNX σ))
  refine s_aload0 hK dX7_printOne_40 ?_
  refine s_getr (ci := 7) (k := 1) hK rfl rfl i_7 (by decide +kernel) dX7_printOne_41 (by decide) (by decide) (by decide) rfl rfl (rf_7_1 rfl) ?_
  refine s_iload1 hK dX7_printOne_44 ?_
  refine s_iconst (v := 1) hK dX7_printOne_45 (by decide) ?_
  refine s_iadd hK dX7_printOne_46 ?_
  rw [show (1 : Int32) = nI 1 from rfl, nI_add]
  refine s_aload0 hK dX7_printOne_47 ?_
  refine s_aload0 hK dX7_printOne_48 ?_
  refine s_getr (ci := 7) (k := 1) hK rfl rfl i_7 (by decide +kernel) dX7_printOne_49 (by decide) (by decide) (by decide) rfl rfl (rf_7_1 rfl) ?_
  refine s_sipush (v := 774) hK dX7_printOne_52 (by decide) ?_
  refine s_ialdv (v := σ 701 774) (by show s7 (cNw σ) _ _ 701 774 = _; rw [s7_at, if_neg (by omega), cNw_701]) hK rfl (show vp_in _ 2374 from vp_in_nI (n := 774) (by decide) (by decide)) dX7_printOne_55 ?_
  refine s_callV (ci := 7) hK mdX7_shiftY (zX7_shiftY _) gX7_printOne_X7_shiftY rfl rfl rfl (by decide) rfl ⟨Nat.le_of_ble_eq_true rfl, Nat.le_of_ble_eq_true rfl⟩ rfl (Nat.le_of_ble_eq_true rfl) dX7_printOne_56 ?_
  try dsimp only [Option.toList, List.cons_append, List.nil_append]
  rw [show sYM (s7 (cNw σ) (776 + 5 * (pn % 12)) (cNX σ)) (σ 701 774) = cNY σ from by unfold cNY; exact sY_of (by rw [s7_at, if_neg (by omega), cNw_701]) (by rw [s7_at, if_neg (by omega), cNw_701]) _]
  refine s_iast hK rfl (show vp_in _ 2374 from vp_in_nI (show (776 + 5 * (pn % 12)) + 1 < 2374 by omega) (by decide)) dX7_printOne_59 ?_
  rw [cl_nI (show (776 + 5 * (pn % 12)) + 1 < 2 ^ 31 by omega)]
  show AW K _ _ _ (s7 (s7 (cNw σ) (776 + 5 * (pn % 12)) (cNX σ)) ((776 + 5 * (pn % 12)) + 1) (cNY σ))
  refine s_aload0 hK dX7_printOne_60 ?_
  refine s_getr (ci := 7) (k := 1) hK rfl rfl i_7 (by decide +kernel) dX7_printOne_61 (by decide) (by decide) (by decide) rfl rfl (rf_7_1 rfl) ?_
  refine s_iload1 hK dX7_printOne_64 ?_
  refine s_iconst (v := 2) hK dX7_printOne_65 (by decide) ?_
  refine s_iadd hK dX7_printOne_66 ?_
  rw [show (2 : Int32) = nI 2 from rfl, nI_add]
  refine s_aload0 hK dX7_printOne_67 ?_
  refine s_getiv (v := cNw σ 700 8) (by rw [s7_ne (by decide), s7_ne (by decide)]) (ci := 7) (k := 8) hK rfl rfl i_7 (by decide +kernel) dX7_printOne_68 (by decide) (by decide) (by decide) rfl rfl ?_
  refine s_iast hK rfl (show vp_in _ 2374 from vp_in_nI (show (776 + 5 * (pn % 12)) + 2 < 2374 by omega) (by decide)) dX7_printOne_71 ?_
  rw [cl_nI (show (776 + 5 * (pn % 12)) + 2 < 2 ^ 31 by omega)]
  show AW K _ _ _ (s7 (s7 (s7 (cNw σ) (776 + 5 * (pn % 12)) (cNX σ)) ((776 + 5 * (pn % 12)) + 1) (cNY σ)) ((776 + 5 * (pn % 12)) + 2) (cNw σ 700 8))
  refine s_aload0 hK dX7_printOne_72 ?_
  refine s_getr (ci := 7) (k := 1) hK rfl rfl i_7 (by decide +kernel) dX7_printOne_73 (by decide) (by decide) (by decide) rfl rfl (rf_7_1 rfl) ?_
  refine s_iload1 hK dX7_printOne_76 ?_
  refine s_iconst (v := 3) hK dX7_printOne_77 (by decide) ?_
  refine s_iadd hK dX7_printOne_78 ?_
  rw [show (3 : Int32) = nI 3 from rfl, nI_add]
  refine s_aload0 hK dX7_printOne_79 ?_
  refine s_getiv (v := cNw σ 700 9) (by rw [s7_ne (by decide), s7_ne (by decide), s7_ne (by decide)]) (ci := 7) (k := 9) hK rfl rfl i_7 (by decide +kernel) dX7_printOne_80 (by decide) (by decide) (by decide) rfl rfl ?_
  refine s_iast hK rfl (show vp_in _ 2374 from vp_in_nI (show (776 + 5 * (pn % 12)) + 3 < 2374 by omega) (by decide)) dX7_printOne_83 ?_
  rw [cl_nI (show (776 + 5 * (pn % 12)) + 3 < 2 ^ 31 by omega)]
  show AW K _ _ _ (s7 (s7 (s7 (s7 (cNw σ) (776 + 5 * (pn % 12)) (cNX σ)) ((776 + 5 * (pn % 12)) + 1) (cNY σ)) ((776 + 5 * (pn % 12)) + 2) (cNw σ 700 8)) ((776 + 5 * (pn % 12)) + 3) (cNw σ 700 9))
  refine s_aload0 hK dX7_printOne_84 ?_
  refine s_getr (ci := 7) (k := 1) hK rfl rfl i_7 (by decide +kernel) dX7_printOne_85 (by decide) (by decide) (by decide) rfl rfl (rf_7_1 rfl) ?_
  refine s_iload1 hK dX7_printOne_88 ?_
  refine s_iconst (v := 4) hK dX7_printOne_89 (by decide) ?_
  refine s_iadd hK dX7_printOne_90 ?_
  rw [show (4 : Int32) = nI 4 from rfl, nI_add]
  refine s_aload0 hK dX7_printOne_91 ?_
  refine s_getiv (v := cNw σ 700 10) (by rw [s7_ne (by decide), s7_ne (by decide), s7_ne (by decide), s7_ne (by decide)]) (ci := 7) (k := 10) hK rfl rfl i_7 (by decide +kernel) dX7_printOne_92 (by decide) (by decide) (by decide) rfl rfl ?_
  refine s_iast hK rfl (show vp_in _ 2374 from vp_in_nI (show (776 + 5 * (pn % 12)) + 4 < 2374 by omega) (by decide)) dX7_printOne_95 ?_
  rw [cl_nI (show (776 + 5 * (pn % 12)) + 4 < 2 ^ 31 by omega)]
  show AW K _ _ _ (q5 σ (776 + 5 * (pn % 12)))
  refine s_aload0 hK dX7_printOne_96 ?_
  refine s_getr (ci := 7) (k := 1) hK rfl rfl i_7 (by decide +kernel) dX7_printOne_97 (by decide) (by decide) (by decide) rfl rfl (rf_7_1 rfl) ?_
  refine s_sipush (v := 775) hK dX7_printOne_100 (by decide) ?_
  refine s_dup2 hK dX7_printOne_103 ?_
  refine s_ialdv (v := nI pn) (by show q5 σ _ 701 775 = _; rw [q5_lo (by omega) (by omega)]; exact h5) hK rfl (show vp_in _ 2374 from vp_in_nI (n := 775) (by decide) (by decide)) dX7_printOne_104 ?_
  refine s_iconst (v := 1) hK dX7_printOne_105 (by decide) ?_
  refine s_iadd hK dX7_printOne_106 ?_
  rw [nI_1]
  refine s_iast hK rfl (show vp_in _ 2374 from vp_in_nI (n := 775) (by decide) (by decide)) dX7_printOne_107 ?_
  show AW K _ _ _ (q6 σ pn)
  refine s_iconst (v := 0) hK dX7_printOne_108 (by decide) ?_
  refine s_istore2 hK dX7_printOne_109 ?_
  exact AW.to (up_to (fun kx => AW K 110 [some (.ref 700), some (.int (nI (776 + 5 * (pn % 12)))), some (.int (nI kx))] [] (sP (q6 σ pn) 701 (fb_put (q6 σ pn 701) (qw σ pn) 384 kx))) 192 hx1 hb1) (rfl) (by rw [fb_put_0, sP_id])
set_option maxHeartbeats 4000000 in
set_option maxRecDepth 100000 in
theorem zX7_print_bad {g : aG} {l : Launch} {σ : aS} (h0 : σ 700 0 = 0) (n : Int32) (hbad : wi n 1 100 = false) : CN g l yX7_print wsX7_print 7 159 [.ref 700, .int n] σ (some (.int (-1001))) σ := by
  refine cn_of (cc := cX7_print) (nL := 4) (ret := (some .int)) (own := RX7) (by decide +kernel) rfl rfl (Nat.le_of_ble_eq_true rfl) (fun K hg hl hK hE => ?_)
  subst hg; subst hl
  have i_7 : ∀ w ∈ u_ws RX7 TX7 15, w ∈ wsX7_print := by decide +kernel
  show AW K 0 [some (.ref 700), some (.int n), none, none] [] σ
  refine s_aload0 hK dX7_print_0 ?_
  refine s_iconst (v := 0) hK dX7_print_1 (by decide) ?_
  refine s_putg (ci := 7) (k := 0) (ty := .int) hK rfl rfl i_7 (by decide +kernel) dX7_print_2 tyX7_ok nmX7 (by decide) (by decide) (by decide) rfl rfl rfl (by decide +kernel) rfl rfl ?_
  rw [thr h0]
  refine s_iload1 hK dX7_print_5 ?_
  refine s_iconst (v := 1) hK dX7_print_6 (by decide) ?_
  refine s_bipush (v := 100) hK dX7_print_7 (by decide) ?_
  refine s_callS hK mdX7_in (zX7_in _ _ _) gX7_print_X7_in rfl ⟨Nat.le_of_ble_eq_true rfl, Nat.le_of_ble_eq_true rfl⟩ rfl (Nat.le_of_ble_eq_true rfl) dX7_print_9 ?_
  try dsimp only [Option.toList, List.cons_append, List.nil_append]
  refine s_if_ne (tgt := 19) hK dX7_print_12 (by decide) (fun c_12 => absurd c_12 (fun q => q (b2f hbad))) (fun c_12 => ?_)
  refine s_sipush (v := -1001) hK dX7_print_15 (by decide) ?_
  exact s_iret hK hE dX7_print_18 rfl (rfl) (rfl)
set_option maxHeartbeats 4000000 in
set_option maxRecDepth 100000 in
theorem zX7_print_ill {g : aG} {l : Launch} {σ : aS} (h0 : σ 700 0 = 0) (n : Int32) (hn : wi n 1 100 = true) (hbad : ¬ σ 701 775 + n ≤ 5000) : CN g l yX7_print wsX7_print 7 159 [.ref 700, .int n] σ (some (.int (-1003))) σ := by
  refine cn_of (cc := cX7_print) (nL := 4) (ret := (some .int)) (own := RX7) (by decide +kernel) rfl rfl (Nat.le_of_ble_eq_true rfl) (fun K hg hl hK hE => ?_)
  subst hg; subst hl
  have i_7 : ∀ w ∈ u_ws RX7 TX7 15, w ∈ wsX7_print := by decide +kernel
  show AW K 0 [some (.ref 700), some (.int n), none, none] [] σ
  refine s_aload0 hK dX7_print_0 ?_
  refine s_iconst (v := 0) hK dX7_print_1 (by decide) ?_
  refine s_putg (ci := 7) (k := 0) (ty := .int) hK rfl rfl i_7 (by decide +kernel) dX7_print_2 tyX7_ok nmX7 (by decide) (by decide) (by decide) rfl rfl rfl (by decide +kernel) rfl rfl ?_
  rw [thr h0]
  refine s_iload1 hK dX7_print_5 ?_
  refine s_iconst (v := 1) hK dX7_print_6 (by decide) ?_
  refine s_bipush (v := 100) hK dX7_print_7 (by decide) ?_
  refine s_callS hK mdX7_in (zX7_in _ _ _) gX7_print_X7_in rfl ⟨Nat.le_of_ble_eq_true rfl, Nat.le_of_ble_eq_true rfl⟩ rfl (Nat.le_of_ble_eq_true rfl) dX7_print_9 ?_
  try dsimp only [Option.toList, List.cons_append, List.nil_append]
  refine s_if_ne (tgt := 19) hK dX7_print_12 (by decide) (fun c_12 => ?_) (fun c_12 => absurd c_12 (b2y' hn))
  refine s_aload0 hK dX7_print_19 ?_
  refine s_getr (ci := 7) (k := 1) hK rfl rfl i_7 (by decide +kernel) dX7_print_20 (by decide) (by decide) (by decide) rfl rfl (rf_7_1 rfl) ?_
  refine s_sipush (v := 775) hK dX7_print_23 (by decide) ?_
  refine s_ialdv (v := σ 701 775) (rfl) hK rfl (show vp_in _ 2374 from vp_in_nI (n := 775) (by decide) (by decide)) dX7_print_26 ?_
  refine s_iload1 hK dX7_print_27 ?_
  refine s_iadd hK dX7_print_28 ?_
  refine s_sipush (v := 5000) hK dX7_print_29 (by decide) ?_
  refine s_icmp_le (tgt := 39) hK dX7_print_32 (by decide) (fun c_32 => absurd c_32 hbad) (fun c_32 => ?_)
  refine s_sipush (v := -1003) hK dX7_print_35 (by decide) ?_
  exact s_iret hK hE dX7_print_38 rfl (rfl) (rfl)
set_option maxHeartbeats 4000000 in
set_option maxRecDepth 100000 in
theorem zX7_print_ok {g : aG} {l : Launch} {σ : aS} (h0 : σ 700 0 = 0) (q pn n : Nat) (hq : q ≤ 5) (h3 : σ 700 3 = nI q) (hn : n ≤ 100) (hpn : pn + n ≤ 5000) (h5 : σ 701 775 = nI pn) (hw : wi (nI n) 1 100 = true) (hP : ∀ k, k < n → qS (aX σ q) pn k 701 775 = nI (pn + k)) : CN g l yX7_print wsX7_print 7 159 [.ref 700, .int (nI n)] σ (some (.int (qG (aX σ q) pn n))) (qS (aX σ q) pn n) := by
  refine cn_of (cc := cX7_print) (nL := 4) (ret := (some .int)) (own := RX7) (by decide +kernel) rfl rfl (Nat.le_of_ble_eq_true rfl) (fun K hg hl hK hE => ?_)
  subst hg; subst hl
  have i_7 : ∀ w ∈ u_ws RX7 TX7 15, w ∈ wsX7_print := by decide +kernel
  show AW K 0 [some (.ref 700), some (.int (nI n)), none, none] [] σ
  have hx1 : AW K 47 [some (.ref 700), some (.int (nI n)), some (.int (qG (aX σ q) pn n)), some (.int (nI n))] [] (qS (aX σ q) pn n) := by
    refine s_iload3 hK dX7_print_47 ?_
    refine s_iload1 hK dX7_print_48 ?_
    refine s_icmp_ge (tgt := 69) hK dX7_print_49 (by decide) (fun c_49 => ?_) (fun c_49 => absurd c_49 (fun q => q (ge_E rfl rfl)))
    refine s_iload2 hK dX7_print_69 ?_
    exact s_iret hK hE dX7_print_70 rfl (rfl) (rfl)
  have hb1 : ∀ k1 : Nat, k1 < n → AW K 47 [some (.ref 700), some (.int (nI n)), some (.int (qG (aX σ q) pn (k1 + 1))), some (.int (nI (k1 + 1)))] [] (qS (aX σ q) pn (k1 + 1)) → AW K 47 [some (.ref 700), some (.int (nI n)), some (.int (qG (aX σ q) pn k1)), some (.int (nI k1))] [] (qS (aX σ q) pn k1) := by
    intro k1 hk1 ih1 
    refine s_iload3 hK dX7_print_47 ?_
    refine s_iload1 hK dX7_print_48 ?_
    refine s_icmp_ge (tgt := 69) hK dX7_print_49 (by decide) (fun c_49 => absurd c_49 (ge_N rfl rfl hk1 (by omega))) (fun c_49 => ?_)
    refine s_aload0 hK dX7_print_52 ?_
    refine s_callV (ci := 7) hK mdX7_printOne (zX7_printOne (pn + k1) (by omega) (hP k1 hk1)) gX7_print_X7_printOne rfl rfl rfl (by decide) rfl ⟨Nat.le_of_ble_eq_true rfl, Nat.le_of_ble_eq_true rfl⟩ rfl (Nat.le_of_ble_eq_true rfl) dX7_print_53 ?_
    try dsimp only [Option.toList, List.cons_append, List.nil_append]
    refine s_iload2 hK dX7_print_56 ?_
    refine s_aload0 hK dX7_print_57 ?_
    refine s_getiv (v := nI (ct (cG (lY (qS (aX σ q) pn k1)) (cNX (qS (aX σ q) pn k1)) (cNY (qS (aX σ q) pn k1))))) (by rw [q8_ne (by decide), cNw_8]) (ci := 7) (k := 8) hK rfl rfl i_7 (by decide +kernel) dX7_print_58 (by decide) (by decide) (by decide) rfl rfl ?_
    refine s_iadd hK dX7_print_61 ?_
    refine s_istore2 hK dX7_print_62 ?_
    refine s_iinc3 hK dX7_print_63 (hv_1 _) ?_
    refine s_goto (tgt := 47) hK dX7_print_66 (by decide) ?_
    exact AW.to ih1 (by rw [nI_1]; rfl) (rfl)
  refine s_aload0 hK dX7_print_0 ?_
  refine s_iconst (v := 0) hK dX7_print_1 (by decide) ?_
  refine s_putg (ci := 7) (k := 0) (ty := .int) hK rfl rfl i_7 (by decide +kernel) dX7_print_2 tyX7_ok nmX7 (by decide) (by decide) (by decide) rfl rfl rfl (by decide +kernel) rfl rfl ?_
  rw [thr h0]
  refine s_iload1 hK dX7_print_5 ?_
  refine s_iconst (v := 1) hK dX7_print_6 (by decide) ?_
  refine s_bipush (v := 100) hK dX7_print_7 (by decide) ?_
  refine s_callS hK mdX7_in (zX7_in _ _ _) gX7_print_X7_in rfl ⟨Nat.le_of_ble_eq_true rfl, Nat.le_of_ble_eq_true rfl⟩ rfl (Nat.le_of_ble_eq_true rfl) dX7_print_9 ?_
  try dsimp only [Option.toList, List.cons_append, List.nil_append]
  refine s_if_ne (tgt := 19) hK dX7_print_12 (by decide) (fun c_12 => ?_) (fun c_12 => absurd c_12 (b2y' hw))
  refine s_aload0 hK dX7_print_19 ?_
  refine s_getr (ci := 7) (k := 1) hK rfl rfl i_7 (by decide +kernel) dX7_print_20 (by decide) (by decide) (by decide) rfl rfl (rf_7_1 rfl) ?_
  refine s_sipush (v := 775) hK dX7_print_23 (by decide) ?_
  refine s_ialdv (v := nI pn) (h5) hK rfl (show vp_in _ 2374 from vp_in_nI (n := 775) (by decide) (by decide)) dX7_print_26 ?_
  refine s_iload1 hK dX7_print_27 ?_
  refine s_iadd hK dX7_print_28 ?_
  refine s_sipush (v := 5000) hK dX7_print_29 (by decide) ?_
  refine s_icmp_le (tgt := 39) hK dX7_print_32 (by decide) (fun c_32 => ?_) (fun c_32 => absurd c_32 (fun e => e (by rw [nI_add]; exact nI_le (b := 5000) hpn (by decide))))
  refine s_aload0 hK dX7_print_39 ?_
  refine s_callV (ci := 7) hK mdX7_act (zX7_act q hq h3) gX7_print_X7_act rfl rfl rfl (by decide) rfl ⟨Nat.le_of_ble_eq_true rfl, Nat.le_of_ble_eq_true rfl⟩ rfl (Nat.le_of_ble_eq_true rfl) dX7_print_40 ?_
  try dsimp only [Option.toList, List.cons_append, List.nil_append]
  refine s_iconst (v := 0) hK dX7_print_43 (by decide) ?_
  refine s_istore2 hK dX7_print_44 ?_
  refine s_iconst (v := 0) hK dX7_print_45 (by decide) ?_
  refine s_istore3 hK dX7_print_46 ?_
  exact AW.to (up_to (fun kx => AW K 47 [some (.ref 700), some (.int (nI n)), some (.int (qG (aX σ q) pn kx)), some (.int (nI kx))] [] (qS (aX σ q) pn kx)) n hx1 hb1) (rfl) (rfl)
set_option maxHeartbeats 4000000 in
set_option maxRecDepth 100000 in
theorem zX7_take_bad {g : aG} {l : Launch} {σ : aS} (h0 : σ 700 0 = 0) (s : Int32) (hbad : wi s 0 1 = false) : CN g l yX7_take wsX7_take 2 44 [.ref 700, .int s] σ (some (.int (-1001))) σ := by
  refine cn_of (cc := cX7_take) (nL := 4) (ret := (some .int)) (own := RX7) (by decide +kernel) rfl rfl (Nat.le_of_ble_eq_true rfl) (fun K hg hl hK hE => ?_)
  subst hg; subst hl
  have i_7 : ∀ w ∈ u_ws RX7 TX7 15, w ∈ wsX7_take := by decide +kernel
  show AW K 0 [some (.ref 700), some (.int s), none, none] [] σ
  refine s_aload0 hK dX7_take_0 ?_
  refine s_iconst (v := 0) hK dX7_take_1 (by decide) ?_
  refine s_putg (ci := 7) (k := 0) (ty := .int) hK rfl rfl i_7 (by decide +kernel) dX7_take_2 tyX7_ok nmX7 (by decide) (by decide) (by decide) rfl rfl rfl (by decide +kernel) rfl rfl ?_
  rw [thr h0]
  refine s_iload1 hK dX7_take_5 ?_
  refine s_iconst (v := 0) hK dX7_take_6 (by decide) ?_
  refine s_iconst (v := 1) hK dX7_take_7 (by decide) ?_
  refine s_callS hK mdX7_in (zX7_in _ _ _) gX7_take_X7_in rfl ⟨Nat.le_of_ble_eq_true rfl, Nat.le_of_ble_eq_true rfl⟩ rfl (Nat.le_of_ble_eq_true rfl) dX7_take_8 ?_
  try dsimp only [Option.toList, List.cons_append, List.nil_append]
  refine s_if_ne (tgt := 18) hK dX7_take_11 (by decide) (fun c_11 => absurd c_11 (fun q => q (b2f hbad))) (fun c_11 => ?_)
  refine s_sipush (v := -1001) hK dX7_take_14 (by decide) ?_
  exact s_iret hK hE dX7_take_17 rfl (rfl) (rfl)
set_option maxHeartbeats 4000000 in
set_option maxRecDepth 100000 in
theorem zX7_restore_bad {g : aG} {l : Launch} {σ : aS} (h0 : σ 700 0 = 0) (s : Int32) (hbad : wi s 0 1 = false) : CN g l yX7_restore wsX7_restore 2 44 [.ref 700, .int s] σ (some (.int (-1001))) σ := by
  refine cn_of (cc := cX7_restore) (nL := 4) (ret := (some .int)) (own := RX7) (by decide +kernel) rfl rfl (Nat.le_of_ble_eq_true rfl) (fun K hg hl hK hE => ?_)
  subst hg; subst hl
  have i_7 : ∀ w ∈ u_ws RX7 TX7 15, w ∈ wsX7_restore := by decide +kernel
  show AW K 0 [some (.ref 700), some (.int s), none, none] [] σ
  refine s_aload0 hK dX7_restore_0 ?_
  refine s_iconst (v := 0) hK dX7_restore_1 (by decide) ?_
  refine s_putg (ci := 7) (k := 0) (ty := .int) hK rfl rfl i_7 (by decide +kernel) dX7_restore_2 tyX7_ok nmX7 (by decide) (by decide) (by decide) rfl rfl rfl (by decide +kernel) rfl rfl ?_
  rw [thr h0]
  refine s_iload1 hK dX7_restore_5 ?_
  refine s_iconst (v := 0) hK dX7_restore_6 (by decide) ?_
  refine s_iconst (v := 1) hK dX7_restore_7 (by decide) ?_
  refine s_callS hK mdX7_in (zX7_in _ _ _) gX7_restore_X7_in rfl ⟨Nat.le_of_ble_eq_true rfl, Nat.le_of_ble_eq_true rfl⟩ rfl (Nat.le_of_ble_eq_true rfl) dX7_restore_8 ?_
  try dsimp only [Option.toList, List.cons_append, List.nil_append]
  refine s_if_ne (tgt := 18) hK dX7_restore_11 (by decide) (fun c_11 => absurd c_11 (fun q => q (b2f hbad))) (fun c_11 => ?_)
  refine s_sipush (v := -1001) hK dX7_restore_14 (by decide) ?_
  exact s_iret hK hE dX7_restore_17 rfl (rfl) (rfl)
set_option maxHeartbeats 4000000 in
set_option maxRecDepth 100000 in
theorem zX7_take_ok {g : aG} {l : Launch} {σ : aS} (h0 : σ 700 0 = 0) (q s : Nat) (hq : q ≤ 5) (h3 : σ 700 3 = nI q) (hs : s ≤ 1) : CN g l yX7_take wsX7_take 2 44 [.ref 700, .int (nI s)] σ (some (.int (192 - nI (ct (mN (sP (aX σ q) 701 (fb_put (upd (σ 701) (836 + 769 * s) 1) (upd (σ 701) (836 + 769 * s) 1) ((836 + 769 * s) + 1) 768)) 0 0))))) (sP (aX σ q) 701 (fb_put (upd (σ 701) (836 + 769 * s) 1) (upd (σ 701) (836 + 769 * s) 1) ((836 + 769 * s) + 1) 768)) := by
  refine cn_of (cc := cX7_take) (nL := 4) (ret := (some .int)) (own := RX7) (by decide +kernel) rfl rfl (Nat.le_of_ble_eq_true rfl) (fun K hg hl hK hE => ?_)
  subst hg; subst hl
  have i_7 : ∀ w ∈ u_ws RX7 TX7 15, w ∈ wsX7_take := by decide +kernel
  show AW K 0 [some (.ref 700), some (.int (nI s)), none, none] [] σ
  have hx1 : AW K 41 [some (.ref 700), some (.int (nI s)), some (.int (nI (836 + 769 * s))), some (.int (nI 768))] [] (sP (aX σ q) 701 (fb_put (upd (σ 701) (836 + 769 * s) 1) (upd (σ 701) (836 + 769 * s) 1) ((836 + 769 * s) + 1) 768)) := by
    refine s_iload3 hK dX7_take_41 ?_
    refine s_sipush (v := 768) hK dX7_take_42 (by decide) ?_
    refine s_icmp_ge (tgt := 70) hK dX7_take_45 (by decide) (fun c_45 => ?_) (fun c_45 => absurd c_45 (fun q => q (ge_E rfl rfl)))
    refine s_aload0 hK dX7_take_70 ?_
    refine s_callV (ci := 7) hK mdX7_inked (zX7_inked) gX7_take_X7_inked rfl rfl rfl (by decide) rfl ⟨Nat.le_of_ble_eq_true rfl, Nat.le_of_ble_eq_true rfl⟩ rfl (Nat.le_of_ble_eq_true rfl) dX7_take_71 ?_
    try dsimp only [Option.toList, List.cons_append, List.nil_append]
    exact s_iret hK hE dX7_take_74 rfl (rfl) (rfl)
  have hb1 : ∀ k1 : Nat, k1 < 768 → AW K 41 [some (.ref 700), some (.int (nI s)), some (.int (nI (836 + 769 * s))), some (.int (nI (k1 + 1)))] [] (sP (aX σ q) 701 (fb_put (upd (σ 701) (836 + 769 * s) 1) (upd (σ 701) (836 + 769 * s) 1) ((836 + 769 * s) + 1) (k1 + 1))) → AW K 41 [some (.ref 700), some (.int (nI s)), some (.int (nI (836 + 769 * s))), some (.int (nI k1))] [] (sP (aX σ q) 701 (fb_put (upd (σ 701) (836 + 769 * s) 1) (upd (σ 701) (836 + 769 * s) 1) ((836 + 769 * s) + 1) k1)) := by
    intro k1 hk1 ih1 
    refine s_iload3 hK dX7_take_41 ?_
    refine s_sipush (v := 768) hK dX7_take_42 (by decide) ?_
    refine s_icmp_ge (tgt := 70) hK dX7_take_45 (by decide) (fun c_45 => absurd c_45 (ge_N rfl rfl hk1 (by decide))) (fun c_45 => ?_)
    refine s_aload0 hK dX7_take_48 ?_
    refine s_getr (ci := 7) (k := 1) hK rfl rfl i_7 (by decide +kernel) dX7_take_49 (by decide) (by decide) (by decide) rfl rfl (rf_7_1 rfl) ?_
    refine s_iload2 hK dX7_take_52 ?_
    refine s_iconst (v := 1) hK dX7_take_53 (by decide) ?_
    refine s_iadd hK dX7_take_54 ?_
    refine s_iload3 hK dX7_take_55 ?_
    refine s_iadd hK dX7_take_56 ?_
    rw [show (1 : Int32) = nI 1 from rfl, nI_add, nI_add]
    refine s_aload0 hK dX7_take_57 ?_
    refine s_getr (ci := 7) (k := 1) hK rfl rfl i_7 (by decide +kernel) dX7_take_58 (by decide) (by decide) (by decide) rfl rfl (rf_7_1 rfl) ?_
    refine s_iload3 hK dX7_take_61 ?_
    refine s_iald hK rfl (show vp_in _ 2374 from vp_in_nI (show k1 < 2374 by omega) (by decide)) dX7_take_62 ?_
    rw [cl_nI (show k1 < 2 ^ 31 by omega), sP_same, fb_put_out (Or.inl (show k1 < (836 + 769 * s) + 1 by omega))]
    refine s_iast hK rfl (show vp_in _ 2374 from vp_in_nI (show (836 + 769 * s) + 1 + k1 < 2374 by omega) (by decide)) dX7_take_63 ?_
    rw [cl_nI (show (836 + 769 * s) + 1 + k1 < 2 ^ 31 by omega), sP_sP, sP_same, fb_put_succ]
    refine s_iinc3 hK dX7_take_64 (hv_1 _) ?_
    refine s_goto (tgt := 41) hK dX7_take_67 (by decide) ?_
    exact AW.to ih1 (by rw [nI_1]) (rfl)
  refine s_aload0 hK dX7_take_0 ?_
  refine s_iconst (v := 0) hK dX7_take_1 (by decide) ?_
  refine s_putg (ci := 7) (k := 0) (ty := .int) hK rfl rfl i_7 (by decide +kernel) dX7_take_2 tyX7_ok nmX7 (by decide) (by decide) (by decide) rfl rfl rfl (by decide +kernel) rfl rfl ?_
  rw [thr h0]
  refine s_iload1 hK dX7_take_5 ?_
  refine s_iconst (v := 0) hK dX7_take_6 (by decide) ?_
  refine s_iconst (v := 1) hK dX7_take_7 (by decide) ?_
  refine s_callS hK mdX7_in (zX7_in _ _ _) gX7_take_X7_in rfl ⟨Nat.le_of_ble_eq_true rfl, Nat.le_of_ble_eq_true rfl⟩ rfl (Nat.le_of_ble_eq_true rfl) dX7_take_8 ?_
  try dsimp only [Option.toList, List.cons_append, List.nil_append]
  refine s_if_ne (tgt := 18) hK dX7_take_11 (by decide) (fun c_11 => ?_) (fun c_11 => absurd c_11 (b2y' (wi_nI (N := 1) hs (by decide))))
  refine s_aload0 hK dX7_take_18 ?_
  refine s_callV (ci := 7) hK mdX7_act (zX7_act q hq h3) gX7_take_X7_act rfl rfl rfl (by decide) rfl ⟨Nat.le_of_ble_eq_true rfl, Nat.le_of_ble_eq_true rfl⟩ rfl (Nat.le_of_ble_eq_true rfl) dX7_take_19 ?_
  try dsimp only [Option.toList, List.cons_append, List.nil_append]
  refine s_sipush (v := 836) hK dX7_take_22 (by decide) ?_
  refine s_sipush (v := 769) hK dX7_take_25 (by decide) ?_
  refine s_iload1 hK dX7_take_28 ?_
  refine s_imul hK dX7_take_29 ?_
  refine s_iadd hK dX7_take_30 ?_
  rw [sl_ix]
  refine s_istore2 hK dX7_take_31 ?_
  refine s_aload0 hK dX7_take_32 ?_
  refine s_getr (ci := 7) (k := 1) hK rfl rfl i_7 (by decide +kernel) dX7_take_33 (by decide) (by decide) (by decide) rfl rfl (rf_7_1 rfl) ?_
  refine s_iload2 hK dX7_take_36 ?_
  refine s_iconst (v := 1) hK dX7_take_37 (by decide) ?_
  refine s_iast hK rfl (show vp_in _ 2374 from vp_in_nI (show (836 + 769 * s) < 2374 by omega) (by decide)) dX7_take_38 ?_
  rw [cl_nI (show (836 + 769 * s) < 2 ^ 31 by omega)]
  rw [aX_701]
  refine s_iconst (v := 0) hK dX7_take_39 (by decide) ?_
  refine s_istore3 hK dX7_take_40 ?_
  exact AW.to (up_to (fun kx => AW K 41 [some (.ref 700), some (.int (nI s)), some (.int (nI (836 + 769 * s))), some (.int (nI kx))] [] (sP (aX σ q) 701 (fb_put (upd (σ 701) (836 + 769 * s) 1) (upd (σ 701) (836 + 769 * s) 1) ((836 + 769 * s) + 1) kx))) 768 hx1 hb1) (rfl) (by rw [fb_put_0])
set_option maxHeartbeats 4000000 in
set_option maxRecDepth 100000 in
theorem zX7_restore_ill {g : aG} {l : Launch} {σ : aS} (h0 : σ 700 0 = 0) (s : Nat) (hs : s ≤ 1) (hbad : σ 701 (836 + 769 * s) = 0) : CN g l yX7_restore wsX7_restore 2 44 [.ref 700, .int (nI s)] σ (some (.int (-1002))) σ := by
  refine cn_of (cc := cX7_restore) (nL := 4) (ret := (some .int)) (own := RX7) (by decide +kernel) rfl rfl (Nat.le_of_ble_eq_true rfl) (fun K hg hl hK hE => ?_)
  subst hg; subst hl
  have i_7 : ∀ w ∈ u_ws RX7 TX7 15, w ∈ wsX7_restore := by decide +kernel
  show AW K 0 [some (.ref 700), some (.int (nI s)), none, none] [] σ
  refine s_aload0 hK dX7_restore_0 ?_
  refine s_iconst (v := 0) hK dX7_restore_1 (by decide) ?_
  refine s_putg (ci := 7) (k := 0) (ty := .int) hK rfl rfl i_7 (by decide +kernel) dX7_restore_2 tyX7_ok nmX7 (by decide) (by decide) (by decide) rfl rfl rfl (by decide +kernel) rfl rfl ?_
  rw [thr h0]
  refine s_iload1 hK dX7_restore_5 ?_
  refine s_iconst (v := 0) hK dX7_restore_6 (by decide) ?_
  refine s_iconst (v := 1) hK dX7_restore_7 (by decide) ?_
  refine s_callS hK mdX7_in (zX7_in _ _ _) gX7_restore_X7_in rfl ⟨Nat.le_of_ble_eq_true rfl, Nat.le_of_ble_eq_true rfl⟩ rfl (Nat.le_of_ble_eq_true rfl) dX7_restore_8 ?_
  try dsimp only [Option.toList, List.cons_append, List.nil_append]
  refine s_if_ne (tgt := 18) hK dX7_restore_11 (by decide) (fun c_11 => ?_) (fun c_11 => absurd c_11 (b2y' (wi_nI (N := 1) hs (by decide))))
  refine s_sipush (v := 836) hK dX7_restore_18 (by decide) ?_
  refine s_sipush (v := 769) hK dX7_restore_21 (by decide) ?_
  refine s_iload1 hK dX7_restore_24 ?_
  refine s_imul hK dX7_restore_25 ?_
  refine s_iadd hK dX7_restore_26 ?_
  rw [sl_ix]
  refine s_istore2 hK dX7_restore_27 ?_
  refine s_aload0 hK dX7_restore_28 ?_
  refine s_getr (ci := 7) (k := 1) hK rfl rfl i_7 (by decide +kernel) dX7_restore_29 (by decide) (by decide) (by decide) rfl rfl (rf_7_1 rfl) ?_
  refine s_iload2 hK dX7_restore_32 ?_
  refine s_iald hK rfl (show vp_in _ 2374 from vp_in_nI (show (836 + 769 * s) < 2374 by omega) (by decide)) dX7_restore_33 ?_
  rw [cl_nI (show (836 + 769 * s) < 2 ^ 31 by omega)]
  refine s_if_ne (tgt := 41) hK dX7_restore_34 (by decide) (fun c_34 => absurd c_34 (fun q => q hbad)) (fun c_34 => ?_)
  refine s_sipush (v := -1002) hK dX7_restore_37 (by decide) ?_
  exact s_iret hK hE dX7_restore_40 rfl (rfl) (rfl)
set_option maxHeartbeats 4000000 in
set_option maxRecDepth 100000 in
theorem zX7_restore_ok {g : aG} {l : Launch} {σ : aS} (h0 : σ 700 0 = 0) (q s : Nat) (hq : q ≤ 5) (h3 : σ 700 3 = nI q) (hs : s ≤ 1) (ht : ¬ σ 701 (836 + 769 * s) = 0) : CN g l yX7_restore wsX7_restore 2 44 [.ref 700, .int (nI s)] σ (some (.int (192 - nI (ct (mN (sP (aX σ q) 701 (fb_put (σ 701) (fun j => σ 701 ((836 + 769 * s) + 1 + j)) 0 768)) 0 0))))) (sP (aX σ q) 701 (fb_put (σ 701) (fun j => σ 701 ((836 + 769 * s) + 1 + j)) 0 768)) := by
  refine cn_of (cc := cX7_restore) (nL := 4) (ret := (some .int)) (own := RX7) (by decide +kernel) rfl rfl (Nat.le_of_ble_eq_true rfl) (fun K hg hl hK hE => ?_)
  subst hg; subst hl
  have i_7 : ∀ w ∈ u_ws RX7 TX7 15, w ∈ wsX7_restore := by decide +kernel
  show AW K 0 [some (.ref 700), some (.int (nI s)), none, none] [] σ
  have hx1 : AW K 47 [some (.ref 700), some (.int (nI s)), some (.int (nI (836 + 769 * s))), some (.int (nI 768))] [] (sP (aX σ q) 701 (fb_put (σ 701) (fun j => σ 701 ((836 + 769 * s) + 1 + j)) 0 768)) := by
    refine s_iload3 hK dX7_restore_47 ?_
    refine s_sipush (v := 768) hK dX7_restore_48 (by decide) ?_
    refine s_icmp_ge (tgt := 76) hK dX7_restore_51 (by decide) (fun c_51 => ?_) (fun c_51 => absurd c_51 (fun q => q (ge_E rfl rfl)))
    refine s_aload0 hK dX7_restore_76 ?_
    refine s_callV (ci := 7) hK mdX7_inked (zX7_inked) gX7_restore_X7_inked rfl rfl rfl (by decide) rfl ⟨Nat.le_of_ble_eq_true rfl, Nat.le_of_ble_eq_true rfl⟩ rfl (Nat.le_of_ble_eq_true rfl) dX7_restore_77 ?_
    try dsimp only [Option.toList, List.cons_append, List.nil_append]
    exact s_iret hK hE dX7_restore_80 rfl (rfl) (rfl)
  have hb1 : ∀ k1 : Nat, k1 < 768 → AW K 47 [some (.ref 700), some (.int (nI s)), some (.int (nI (836 + 769 * s))), some (.int (nI (k1 + 1)))] [] (sP (aX σ q) 701 (fb_put (σ 701) (fun j => σ 701 ((836 + 769 * s) + 1 + j)) 0 (k1 + 1))) → AW K 47 [some (.ref 700), some (.int (nI s)), some (.int (nI (836 + 769 * s))), some (.int (nI k1))] [] (sP (aX σ q) 701 (fb_put (σ 701) (fun j => σ 701 ((836 + 769 * s) + 1 + j)) 0 k1)) := by
    intro k1 hk1 ih1 
    refine s_iload3 hK dX7_restore_47 ?_
    refine s_sipush (v := 768) hK dX7_restore_48 (by decide) ?_
    refine s_icmp_ge (tgt := 76) hK dX7_restore_51 (by decide) (fun c_51 => absurd c_51 (ge_N rfl rfl hk1 (by decide))) (fun c_51 => ?_)
    refine s_aload0 hK dX7_restore_54 ?_
    refine s_getr (ci := 7) (k := 1) hK rfl rfl i_7 (by decide +kernel) dX7_restore_55 (by decide) (by decide) (by decide) rfl rfl (rf_7_1 rfl) ?_
    refine s_iload3 hK dX7_restore_58 ?_
    refine s_aload0 hK dX7_restore_59 ?_
    refine s_getr (ci := 7) (k := 1) hK rfl rfl i_7 (by decide +kernel) dX7_restore_60 (by decide) (by decide) (by decide) rfl rfl (rf_7_1 rfl) ?_
    refine s_iload2 hK dX7_restore_63 ?_
    refine s_iconst (v := 1) hK dX7_restore_64 (by decide) ?_
    refine s_iadd hK dX7_restore_65 ?_
    rw [show (1 : Int32) = nI 1 from rfl, nI_add]
    refine s_iload3 hK dX7_restore_66 ?_
    refine s_iadd hK dX7_restore_67 ?_
    rw [nI_add]
    refine s_iald hK rfl (show vp_in _ 2374 from vp_in_nI (show (836 + 769 * s) + 1 + k1 < 2374 by omega) (by decide)) dX7_restore_68 ?_
    rw [cl_nI (show (836 + 769 * s) + 1 + k1 < 2 ^ 31 by omega), sP_same, fb_put_out (Or.inr (show 0 + k1 ≤ (836 + 769 * s) + 1 + k1 by omega))]
    refine s_iast hK rfl (show vp_in _ 2374 from vp_in_nI (show k1 < 2374 by omega) (by decide)) dX7_restore_69 ?_
    rw [cl_nI (show k1 < 2 ^ 31 by omega), sP_sP, sP_same]
    refine s_iinc3 hK dX7_restore_70 (hv_1 _) ?_
    refine s_goto (tgt := 47) hK dX7_restore_73 (by decide) ?_
    exact AW.to ih1 (by rw [nI_1]) (by rw [← fb_put_succ, Nat.zero_add])
  refine s_aload0 hK dX7_restore_0 ?_
  refine s_iconst (v := 0) hK dX7_restore_1 (by decide) ?_
  refine s_putg (ci := 7) (k := 0) (ty := .int) hK rfl rfl i_7 (by decide +kernel) dX7_restore_2 tyX7_ok nmX7 (by decide) (by decide) (by decide) rfl rfl rfl (by decide +kernel) rfl rfl ?_
  rw [thr h0]
  refine s_iload1 hK dX7_restore_5 ?_
  refine s_iconst (v := 0) hK dX7_restore_6 (by decide) ?_
  refine s_iconst (v := 1) hK dX7_restore_7 (by decide) ?_
  refine s_callS hK mdX7_in (zX7_in _ _ _) gX7_restore_X7_in rfl ⟨Nat.le_of_ble_eq_true rfl, Nat.le_of_ble_eq_true rfl⟩ rfl (Nat.le_of_ble_eq_true rfl) dX7_restore_8 ?_
  try dsimp only [Option.toList, List.cons_append, List.nil_append]
  refine s_if_ne (tgt := 18) hK dX7_restore_11 (by decide) (fun c_11 => ?_) (fun c_11 => absurd c_11 (b2y' (wi_nI (N := 1) hs (by decide))))
  refine s_sipush (v := 836) hK dX7_restore_18 (by decide) ?_
  refine s_sipush (v := 769) hK dX7_restore_21 (by decide) ?_
  refine s_iload1 hK dX7_restore_24 ?_
  refine s_imul hK dX7_restore_25 ?_
  refine s_iadd hK dX7_restore_26 ?_
  rw [sl_ix]
  refine s_istore2 hK dX7_restore_27 ?_
  refine s_aload0 hK dX7_restore_28 ?_
  refine s_getr (ci := 7) (k := 1) hK rfl rfl i_7 (by decide +kernel) dX7_restore_29 (by decide) (by decide) (by decide) rfl rfl (rf_7_1 rfl) ?_
  refine s_iload2 hK dX7_restore_32 ?_
  refine s_iald hK rfl (show vp_in _ 2374 from vp_in_nI (show (836 + 769 * s) < 2374 by omega) (by decide)) dX7_restore_33 ?_
  rw [cl_nI (show (836 + 769 * s) < 2 ^ 31 by omega)]
  refine s_if_ne (tgt := 41) hK dX7_restore_34 (by decide) (fun c_34 => ?_) (fun c_34 => absurd c_34 ht)
  refine s_aload0 hK dX7_restore_41 ?_
  refine s_callV (ci := 7) hK mdX7_act (zX7_act q hq h3) gX7_restore_X7_act rfl rfl rfl (by decide) rfl ⟨Nat.le_of_ble_eq_true rfl, Nat.le_of_ble_eq_true rfl⟩ rfl (Nat.le_of_ble_eq_true rfl) dX7_restore_42 ?_
  try dsimp only [Option.toList, List.cons_append, List.nil_append]
  refine s_iconst (v := 0) hK dX7_restore_45 (by decide) ?_
  refine s_istore3 hK dX7_restore_46 ?_
  exact AW.to (up_to (fun kx => AW K 47 [some (.ref 700), some (.int (nI s)), some (.int (nI (836 + 769 * s))), some (.int (nI kx))] [] (sP (aX σ q) 701 (fb_put (σ 701) (fun j => σ 701 ((836 + 769 * s) + 1 + j)) 0 kx))) 768 hx1 hb1) (rfl) (by rw [fb_put_0, ← aX_701 σ q, sP_id])
set_option maxHeartbeats 4000000 in
set_option maxRecDepth 100000 in
theorem zX7_undo_ill {g : aG} {l : Launch} {σ : aS} (h0 : σ 700 0 = 0) (h : σ 700 3 = 0) : CN g l yX7_undo wsX7_undo 0 0 [.ref 700] σ (some (.int (-1002))) σ := by
  refine cn_of (cc := cX7_undo) (nL := 2) (ret := (some .int)) (own := RX7) (by decide +kernel) rfl rfl (Nat.le_of_ble_eq_true rfl) (fun K hg hl hK hE => ?_)
  subst hg; subst hl
  have i_7 : ∀ w ∈ u_ws RX7 TX7 15, w ∈ wsX7_undo := by decide +kernel
  show AW K 0 [some (.ref 700), none] [] σ
  refine s_aload0 hK dX7_undo_0 ?_
  refine s_iconst (v := 0) hK dX7_undo_1 (by decide) ?_
  refine s_putg (ci := 7) (k := 0) (ty := .int) hK rfl rfl i_7 (by decide +kernel) dX7_undo_2 tyX7_ok nmX7 (by decide) (by decide) (by decide) rfl rfl rfl (by decide +kernel) rfl rfl ?_
  rw [thr h0]
  refine s_aload0 hK dX7_undo_5 ?_
  refine s_geti (ci := 7) (k := 3) hK rfl rfl i_7 (by decide +kernel) dX7_undo_6 (by decide) (by decide) (by decide) rfl rfl ?_
  refine s_if_ne (tgt := 16) hK dX7_undo_9 (by decide) (fun c_9 => absurd c_9 (fun q => q h)) (fun c_9 => ?_)
  refine s_sipush (v := -1002) hK dX7_undo_12 (by decide) ?_
  exact s_iret hK hE dX7_undo_15 rfl (rfl) (rfl)
set_option maxHeartbeats 4000000 in
set_option maxRecDepth 100000 in
theorem zX7_undo_ok {g : aG} {l : Launch} {σ : aS} (h0 : σ 700 0 = 0) (q : Nat) (hq : q < 5) (h3 : σ 700 3 = nI (q + 1)) : CN g l yX7_undo wsX7_undo 0 0 [.ref 700] σ (some (.int (nI q))) (unM σ q 2374) := by
  refine cn_of (cc := cX7_undo) (nL := 2) (ret := (some .int)) (own := RX7) (by decide +kernel) rfl rfl (Nat.le_of_ble_eq_true rfl) (fun K hg hl hK hE => ?_)
  subst hg; subst hl
  have i_7 : ∀ w ∈ u_ws RX7 TX7 15, w ∈ wsX7_undo := by decide +kernel
  show AW K 0 [some (.ref 700), none] [] σ
  have hx1 : AW K 28 [some (.ref 700), some (.int (nI 2374))] [] (unM σ q 2374) := by
    refine s_iload1 hK dX7_undo_28 ?_
    refine s_sipush (v := 2374) hK dX7_undo_29 (by decide) ?_
    refine s_icmp_ge (tgt := 62) hK dX7_undo_32 (by decide) (fun c_32 => ?_) (fun c_32 => absurd c_32 (fun q => q (ge_E rfl rfl)))
    refine s_aload0 hK dX7_undo_62 ?_
    refine s_getiv (v := nI q) (by unfold unM; rw [sP_ne (by decide), sP_same]; simp [upd]) (ci := 7) (k := 3) hK rfl rfl i_7 (by decide +kernel) dX7_undo_63 (by decide) (by decide) (by decide) rfl rfl ?_
    exact s_iret hK hE dX7_undo_66 rfl (rfl) (rfl)
  have hb1 : ∀ k1 : Nat, k1 < 2374 → AW K 28 [some (.ref 700), some (.int (nI (k1 + 1)))] [] (unM σ q (k1 + 1)) → AW K 28 [some (.ref 700), some (.int (nI k1))] [] (unM σ q k1) := by
    intro k1 hk1 ih1 
    refine s_iload1 hK dX7_undo_28 ?_
    refine s_sipush (v := 2374) hK dX7_undo_29 (by decide) ?_
    refine s_icmp_ge (tgt := 62) hK dX7_undo_32 (by decide) (fun c_32 => absurd c_32 (ge_N rfl rfl hk1 (by decide))) (fun c_32 => ?_)
    refine s_aload0 hK dX7_undo_35 ?_
    refine s_getr (ci := 7) (k := 1) hK rfl rfl i_7 (by decide +kernel) dX7_undo_36 (by decide) (by decide) (by decide) rfl rfl (rf_7_1 rfl) ?_
    refine s_iload1 hK dX7_undo_39 ?_
    refine s_aload0 hK dX7_undo_40 ?_
    refine s_getr (ci := 7) (k := 2) hK rfl rfl i_7 (by decide +kernel) dX7_undo_41 (by decide) (by decide) (by decide) rfl rfl (rf_7_2 rfl) ?_
    refine s_sipush (v := 2374) hK dX7_undo_44 (by decide) ?_
    refine s_aload0 hK dX7_undo_47 ?_
    refine s_getiv (v := nI q) (by unfold unM; rw [sP_ne (by decide), sP_same]; simp [upd]) (ci := 7) (k := 3) hK rfl rfl i_7 (by decide +kernel) dX7_undo_48 (by decide) (by decide) (by decide) rfl rfl ?_
    refine s_imul hK dX7_undo_51 ?_
    refine s_iload1 hK dX7_undo_52 ?_
    refine s_iadd hK dX7_undo_53 ?_
    rw [show (2374 : Int32) = nI 2374 from rfl, pk_mul, nI_add]
    refine s_iald hK rfl (show vp_in _ 11870 from vp_in_nI (show 2374 * q + k1 < 11870 by omega) (by decide)) dX7_undo_54 ?_
    rw [cl_nI (show 2374 * q + k1 < 2 ^ 31 by omega), show unM σ q k1 702 = σ 702 from by unfold unM; rw [sP_ne (by decide), sP_ne (by decide)]]
    refine s_iast hK rfl (show vp_in _ 2374 from vp_in_nI (show k1 < 2374 by omega) (by decide)) dX7_undo_55 ?_
    rw [cl_nI (show k1 < 2 ^ 31 by omega)]
    refine s_iinc1 hK dX7_undo_56 (hv_1 _) ?_
    refine s_goto (tgt := 28) hK dX7_undo_59 (by decide) ?_
    exact AW.to ih1 (by rw [nI_1]) (by unfold unM; rw [sP_sP, sP_same, ← fb_put_succ, Nat.zero_add])
  refine s_aload0 hK dX7_undo_0 ?_
  refine s_iconst (v := 0) hK dX7_undo_1 (by decide) ?_
  refine s_putg (ci := 7) (k := 0) (ty := .int) hK rfl rfl i_7 (by decide +kernel) dX7_undo_2 tyX7_ok nmX7 (by decide) (by decide) (by decide) rfl rfl rfl (by decide +kernel) rfl rfl ?_
  rw [thr h0]
  refine s_aload0 hK dX7_undo_5 ?_
  refine s_getiv (v := nI (q + 1)) (h3) (ci := 7) (k := 3) hK rfl rfl i_7 (by decide +kernel) dX7_undo_6 (by decide) (by decide) (by decide) rfl rfl ?_
  refine s_if_ne (tgt := 16) hK dX7_undo_9 (by decide) (fun c_9 => ?_) (fun c_9 => absurd c_9 (nI_ne0 (by omega) (by omega)))
  refine s_aload0 hK dX7_undo_16 ?_
  refine s_dup hK dX7_undo_17 ?_
  refine s_getiv (v := nI (q + 1)) (h3) (ci := 7) (k := 3) hK rfl rfl i_7 (by decide +kernel) dX7_undo_18 (by decide) (by decide) (by decide) rfl rfl ?_
  refine s_iconst (v := 1) hK dX7_undo_21 (by decide) ?_
  refine s_isub hK dX7_undo_22 ?_
  rw [nI_pred]
  refine s_putg (ci := 7) (k := 3) (ty := .int) hK rfl rfl i_7 (by decide +kernel) dX7_undo_23 tyX7_ok nmX7 (by decide) (by decide) (by decide) rfl rfl rfl (by decide +kernel) rfl rfl ?_
  refine s_iconst (v := 0) hK dX7_undo_26 (by decide) ?_
  refine s_istore1 hK dX7_undo_27 ?_
  exact AW.to (up_to (fun kx => AW K 28 [some (.ref 700), some (.int (nI kx))] [] (unM σ q kx)) 2374 hx1 hb1) (rfl) (by unfold unM; rw [fb_put_0]; exact (by rw [← sP_ne (σ := σ) (o := 700) (f := upd (σ 700) 3 (nI q)) (show 701 ≠ 700 by decide), sP_id]))
set_option maxHeartbeats 4000000 in
set_option maxRecDepth 100000 in
theorem zX7_append_bad {g : aG} {l : Launch} {σ : aS} (h0 : σ 700 0 = 0) (c : Int32) (hbad : wi c 1 255 = false) : CN g l yX7_append wsX7_append 1 22 [.ref 700, .int c] σ (some (.int (-1001))) σ := by
  refine cn_of (cc := cX7_append) (nL := 2) (ret := (some .int)) (own := RX7) (by decide +kernel) rfl rfl (Nat.le_of_ble_eq_true rfl) (fun K hg hl hK hE => ?_)
  subst hg; subst hl
  have i_7 : ∀ w ∈ u_ws RX7 TX7 15, w ∈ wsX7_append := by decide +kernel
  show AW K 0 [some (.ref 700), some (.int c)] [] σ
  refine s_aload0 hK dX7_append_0 ?_
  refine s_iconst (v := 0) hK dX7_append_1 (by decide) ?_
  refine s_putg (ci := 7) (k := 0) (ty := .int) hK rfl rfl i_7 (by decide +kernel) dX7_append_2 tyX7_ok nmX7 (by decide) (by decide) (by decide) rfl rfl rfl (by decide +kernel) rfl rfl ?_
  rw [thr h0]
  refine s_iload1 hK dX7_append_5 ?_
  refine s_iconst (v := 1) hK dX7_append_6 (by decide) ?_
  refine s_sipush (v := 255) hK dX7_append_7 (by decide) ?_
  refine s_callS hK mdX7_in (zX7_in _ _ _) gX7_append_X7_in rfl ⟨Nat.le_of_ble_eq_true rfl, Nat.le_of_ble_eq_true rfl⟩ rfl (Nat.le_of_ble_eq_true rfl) dX7_append_10 ?_
  try dsimp only [Option.toList, List.cons_append, List.nil_append]
  refine s_if_ne (tgt := 20) hK dX7_append_13 (by decide) (fun c_13 => absurd c_13 (fun q => q (b2f hbad))) (fun c_13 => ?_)
  refine s_sipush (v := -1001) hK dX7_append_16 (by decide) ?_
  exact s_iret hK hE dX7_append_19 rfl (rfl) (rfl)
set_option maxHeartbeats 4000000 in
set_option maxRecDepth 100000 in
theorem zX7_append_ill {g : aG} {l : Launch} {σ : aS} (h0 : σ 700 0 = 0) (c : Int32) (hc : wi c 1 255 = true) (h : σ 700 5 = 140) : CN g l yX7_append wsX7_append 1 22 [.ref 700, .int c] σ (some (.int (-1003))) σ := by
  refine cn_of (cc := cX7_append) (nL := 2) (ret := (some .int)) (own := RX7) (by decide +kernel) rfl rfl (Nat.le_of_ble_eq_true rfl) (fun K hg hl hK hE => ?_)
  subst hg; subst hl
  have i_7 : ∀ w ∈ u_ws RX7 TX7 15, w ∈ wsX7_append := by decide +kernel
  show AW K 0 [some (.ref 700), some (.int c)] [] σ
  refine s_aload0 hK dX7_append_0 ?_
  refine s_iconst (v := 0) hK dX7_append_1 (by decide) ?_
  refine s_putg (ci := 7) (k := 0) (ty := .int) hK rfl rfl i_7 (by decide +kernel) dX7_append_2 tyX7_ok nmX7 (by decide) (by decide) (by decide) rfl rfl rfl (by decide +kernel) rfl rfl ?_
  rw [thr h0]
  refine s_iload1 hK dX7_append_5 ?_
  refine s_iconst (v := 1) hK dX7_append_6 (by decide) ?_
  refine s_sipush (v := 255) hK dX7_append_7 (by decide) ?_
  refine s_callS hK mdX7_in (zX7_in _ _ _) gX7_append_X7_in rfl ⟨Nat.le_of_ble_eq_true rfl, Nat.le_of_ble_eq_true rfl⟩ rfl (Nat.le_of_ble_eq_true rfl) dX7_append_10 ?_
  try dsimp only [Option.toList, List.cons_append, List.nil_append]
  refine s_if_ne (tgt := 20) hK dX7_append_13 (by decide) (fun c_13 => ?_) (fun c_13 => absurd c_13 (b2y' hc))
  refine s_aload0 hK dX7_append_20 ?_
  refine s_geti (ci := 7) (k := 5) hK rfl rfl i_7 (by decide +kernel) dX7_append_21 (by decide) (by decide) (by decide) rfl rfl ?_
  refine s_sipush (v := 140) hK dX7_append_24 (by decide) ?_
  refine s_icmp_ne (tgt := 34) hK dX7_append_27 (by decide) (fun c_27 => absurd c_27 (fun q => q h)) (fun c_27 => ?_)
  refine s_sipush (v := -1003) hK dX7_append_30 (by decide) ?_
  exact s_iret hK hE dX7_append_33 rfl (rfl) (rfl)
set_option maxHeartbeats 4000000 in
set_option maxRecDepth 100000 in
theorem zX7_append_ok {g : aG} {l : Launch} {σ : aS} (h0 : σ 700 0 = 0) (n : Nat) (c : Int32) (hc : wi c 1 255 = true) (hn : n < 140) (h1 : σ 700 5 = nI n) : CN g l yX7_append wsX7_append 1 22 [.ref 700, .int c] σ (some (.int (nI (n + 1)))) (apM σ n c) := by
  refine cn_of (cc := cX7_append) (nL := 2) (ret := (some .int)) (own := RX7) (by decide +kernel) rfl rfl (Nat.le_of_ble_eq_true rfl) (fun K hg hl hK hE => ?_)
  subst hg; subst hl
  have i_7 : ∀ w ∈ u_ws RX7 TX7 15, w ∈ wsX7_append := by decide +kernel
  show AW K 0 [some (.ref 700), some (.int c)] [] σ
  refine s_aload0 hK dX7_append_0 ?_
  refine s_iconst (v := 0) hK dX7_append_1 (by decide) ?_
  refine s_putg (ci := 7) (k := 0) (ty := .int) hK rfl rfl i_7 (by decide +kernel) dX7_append_2 tyX7_ok nmX7 (by decide) (by decide) (by decide) rfl rfl rfl (by decide +kernel) rfl rfl ?_
  rw [thr h0]
  refine s_iload1 hK dX7_append_5 ?_
  refine s_iconst (v := 1) hK dX7_append_6 (by decide) ?_
  refine s_sipush (v := 255) hK dX7_append_7 (by decide) ?_
  refine s_callS hK mdX7_in (zX7_in _ _ _) gX7_append_X7_in rfl ⟨Nat.le_of_ble_eq_true rfl, Nat.le_of_ble_eq_true rfl⟩ rfl (Nat.le_of_ble_eq_true rfl) dX7_append_10 ?_
  try dsimp only [Option.toList, List.cons_append, List.nil_append]
  refine s_if_ne (tgt := 20) hK dX7_append_13 (by decide) (fun c_13 => ?_) (fun c_13 => absurd c_13 (b2y' hc))
  refine s_aload0 hK dX7_append_20 ?_
  refine s_geti (ci := 7) (k := 5) hK rfl rfl i_7 (by decide +kernel) dX7_append_21 (by decide) (by decide) (by decide) rfl rfl ?_
  refine s_sipush (v := 140) hK dX7_append_24 (by decide) ?_
  refine s_icmp_ne (tgt := 34) hK dX7_append_27 (by decide) (fun c_27 => ?_) (fun c_27 => absurd c_27 (fun e => absurd ((nI_eq (b := 140) (by omega) (by decide)).mp (h1.symm.trans e)) (by omega)))
  refine s_aload0 hK dX7_append_34 ?_
  refine s_getr (ci := 7) (k := 4) hK rfl rfl i_7 (by decide +kernel) dX7_append_35 (by decide) (by decide) (by decide) rfl rfl (rf_7_4 rfl) ?_
  refine s_aload0 hK dX7_append_38 ?_
  refine s_getiv (v := nI n) (h1) (ci := 7) (k := 5) hK rfl rfl i_7 (by decide +kernel) dX7_append_39 (by decide) (by decide) (by decide) rfl rfl ?_
  refine s_iload1 hK dX7_append_42 ?_
  refine s_iast hK rfl (show vp_in _ 140 from vp_in_nI hn (by decide)) dX7_append_43 ?_
  rw [cl_nI (show n < 2 ^ 31 by omega)]
  refine s_aload0 hK dX7_append_44 ?_
  refine s_dup hK dX7_append_45 ?_
  refine s_getiv (v := nI n) (by rw [sP_ne (by decide)]; exact h1) (ci := 7) (k := 5) hK rfl rfl i_7 (by decide +kernel) dX7_append_46 (by decide) (by decide) (by decide) rfl rfl ?_
  refine s_iconst (v := 1) hK dX7_append_49 (by decide) ?_
  refine s_iadd hK dX7_append_50 ?_
  rw [nI_1]
  refine s_putg (ci := 7) (k := 5) (ty := .int) hK rfl rfl i_7 (by decide +kernel) dX7_append_51 tyX7_ok nmX7 (by decide) (by decide) (by decide) rfl rfl rfl (by decide +kernel) rfl rfl ?_
  refine s_aload0 hK dX7_append_54 ?_
  refine s_getiv (v := nI (n + 1)) (by rw [sP_same]; simp [upd]) (ci := 7) (k := 5) hK rfl rfl i_7 (by decide +kernel) dX7_append_55 (by decide) (by decide) (by decide) rfl rfl ?_
  exact s_iret hK hE dX7_append_58 rfl (rfl) (rfl)
set_option maxHeartbeats 4000000 in
set_option maxRecDepth 100000 in
theorem zX7_clearText {g : aG} {l : Launch} {σ : aS} (h0 : σ 700 0 = 0) : CN g l yX7_clearText wsX7_clearText 0 0 [.ref 700] σ (some (.int (σ 700 5))) (sP σ 700 (upd (σ 700) 5 0)) := by
  refine cn_of (cc := cX7_clearText) (nL := 2) (ret := (some .int)) (own := RX7) (by decide +kernel) rfl rfl (Nat.le_of_ble_eq_true rfl) (fun K hg hl hK hE => ?_)
  subst hg; subst hl
  have i_7 : ∀ w ∈ u_ws RX7 TX7 15, w ∈ wsX7_clearText := by decide +kernel
  show AW K 0 [some (.ref 700), none] [] σ
  refine s_aload0 hK dX7_clearText_0 ?_
  refine s_iconst (v := 0) hK dX7_clearText_1 (by decide) ?_
  refine s_putg (ci := 7) (k := 0) (ty := .int) hK rfl rfl i_7 (by decide +kernel) dX7_clearText_2 tyX7_ok nmX7 (by decide) (by decide) (by decide) rfl rfl rfl (by decide +kernel) rfl rfl ?_
  rw [thr h0]
  refine s_aload0 hK dX7_clearText_5 ?_
  refine s_geti (ci := 7) (k := 5) hK rfl rfl i_7 (by decide +kernel) dX7_clearText_6 (by decide) (by decide) (by decide) rfl rfl ?_
  refine s_istore1 hK dX7_clearText_9 ?_
  refine s_aload0 hK dX7_clearText_10 ?_
  refine s_iconst (v := 0) hK dX7_clearText_11 (by decide) ?_
  refine s_putg (ci := 7) (k := 5) (ty := .int) hK rfl rfl i_7 (by decide +kernel) dX7_clearText_12 tyX7_ok nmX7 (by decide) (by decide) (by decide) rfl rfl rfl (by decide +kernel) rfl rfl ?_
  refine s_iload1 hK dX7_clearText_15 ?_
  exact s_iret hK hE dX7_clearText_16 rfl (rfl) (rfl)
set_option maxHeartbeats 4000000 in
set_option maxRecDepth 100000 in
theorem zX7_count_0 {g : aG} {l : Launch} {σ : aS} (h0 : σ 700 0 = 0) : CN g l yX7_count wsX7_count 2 43 [.ref 700, .int 0] σ (some (.int (σ 701 775))) σ := by
  refine cn_of (cc := cX7_count) (nL := 2) (ret := (some .int)) (own := RX7) (by decide +kernel) rfl rfl (Nat.le_of_ble_eq_true rfl) (fun K hg hl hK hE => ?_)
  subst hg; subst hl
  have i_7 : ∀ w ∈ u_ws RX7 TX7 15, w ∈ wsX7_count := by decide +kernel
  show AW K 0 [some (.ref 700), some (.int 0)] [] σ
  refine s_aload0 hK dX7_count_0 ?_
  refine s_iconst (v := 0) hK dX7_count_1 (by decide) ?_
  refine s_putg (ci := 7) (k := 0) (ty := .int) hK rfl rfl i_7 (by decide +kernel) dX7_count_2 tyX7_ok nmX7 (by decide) (by decide) (by decide) rfl rfl rfl (by decide +kernel) rfl rfl ?_
  rw [thr h0]
  refine s_iload1 hK dX7_count_5 ?_
  refine s_tableIn (tgt := 100) hK dX7_count_6 (by decide) (by decide) (off := 94) (by decide) (by decide) ?_
  refine s_aload0 hK dX7_count_100 ?_
  refine s_getr (ci := 7) (k := 1) hK rfl rfl i_7 (by decide +kernel) dX7_count_101 (by decide) (by decide) (by decide) rfl rfl (rf_7_1 rfl) ?_
  refine s_sipush (v := 775) hK dX7_count_104 (by decide) ?_
  refine s_ialdv (v := σ 701 775) (rfl) hK rfl (show vp_in _ 2374 from vp_in_nI (n := 775) (by decide) (by decide)) dX7_count_107 ?_
  exact s_iret hK hE dX7_count_108 rfl (rfl) (rfl)
set_option maxHeartbeats 4000000 in
set_option maxRecDepth 100000 in
theorem zX7_count_1 {g : aG} {l : Launch} {σ : aS} (h0 : σ 700 0 = 0) : CN g l yX7_count wsX7_count 2 43 [.ref 700, .int 1] σ (some (.int (σ 701 768))) σ := by
  refine cn_of (cc := cX7_count) (nL := 2) (ret := (some .int)) (own := RX7) (by decide +kernel) rfl rfl (Nat.le_of_ble_eq_true rfl) (fun K hg hl hK hE => ?_)
  subst hg; subst hl
  have i_7 : ∀ w ∈ u_ws RX7 TX7 15, w ∈ wsX7_count := by decide +kernel
  show AW K 0 [some (.ref 700), some (.int 1)] [] σ
  refine s_aload0 hK dX7_count_0 ?_
  refine s_iconst (v := 0) hK dX7_count_1 (by decide) ?_
  refine s_putg (ci := 7) (k := 0) (ty := .int) hK rfl rfl i_7 (by decide +kernel) dX7_count_2 tyX7_ok nmX7 (by decide) (by decide) (by decide) rfl rfl rfl (by decide +kernel) rfl rfl ?_
  rw [thr h0]
  refine s_iload1 hK dX7_count_5 ?_
  refine s_tableIn (tgt := 109) hK dX7_count_6 (by decide) (by decide) (off := 103) (by decide) (by decide) ?_
  refine s_aload0 hK dX7_count_109 ?_
  refine s_getr (ci := 7) (k := 1) hK rfl rfl i_7 (by decide +kernel) dX7_count_110 (by decide) (by decide) (by decide) rfl rfl (rf_7_1 rfl) ?_
  refine s_sipush (v := 768) hK dX7_count_113 (by decide) ?_
  refine s_iload1 hK dX7_count_116 ?_
  refine s_iadd hK dX7_count_117 ?_
  refine s_iconst (v := 1) hK dX7_count_118 (by decide) ?_
  refine s_isub hK dX7_count_119 ?_
  refine s_ialdv (v := σ 701 768) (rfl) hK rfl (by show vp_in _ 2374; unfold vp_in; decide) dX7_count_120 ?_
  exact s_iret hK hE dX7_count_121 rfl (rfl) (rfl)
set_option maxHeartbeats 4000000 in
set_option maxRecDepth 100000 in
theorem zX7_count_2 {g : aG} {l : Launch} {σ : aS} (h0 : σ 700 0 = 0) : CN g l yX7_count wsX7_count 2 43 [.ref 700, .int 2] σ (some (.int (σ 701 769))) σ := by
  refine cn_of (cc := cX7_count) (nL := 2) (ret := (some .int)) (own := RX7) (by decide +kernel) rfl rfl (Nat.le_of_ble_eq_true rfl) (fun K hg hl hK hE => ?_)
  subst hg; subst hl
  have i_7 : ∀ w ∈ u_ws RX7 TX7 15, w ∈ wsX7_count := by decide +kernel
  show AW K 0 [some (.ref 700), some (.int 2)] [] σ
  refine s_aload0 hK dX7_count_0 ?_
  refine s_iconst (v := 0) hK dX7_count_1 (by decide) ?_
  refine s_putg (ci := 7) (k := 0) (ty := .int) hK rfl rfl i_7 (by decide +kernel) dX7_count_2 tyX7_ok nmX7 (by decide) (by decide) (by decide) rfl rfl rfl (by decide +kernel) rfl rfl ?_
  rw [thr h0]
  refine s_iload1 hK dX7_count_5 ?_
  refine s_tableIn (tgt := 109) hK dX7_count_6 (by decide) (by decide) (off := 103) (by decide) (by decide) ?_
  refine s_aload0 hK dX7_count_109 ?_
  refine s_getr (ci := 7) (k := 1) hK rfl rfl i_7 (by decide +kernel) dX7_count_110 (by decide) (by decide) (by decide) rfl rfl (rf_7_1 rfl) ?_
  refine s_sipush (v := 768) hK dX7_count_113 (by decide) ?_
  refine s_iload1 hK dX7_count_116 ?_
  refine s_iadd hK dX7_count_117 ?_
  refine s_iconst (v := 1) hK dX7_count_118 (by decide) ?_
  refine s_isub hK dX7_count_119 ?_
  refine s_ialdv (v := σ 701 769) (rfl) hK rfl (by show vp_in _ 2374; unfold vp_in; decide) dX7_count_120 ?_
  exact s_iret hK hE dX7_count_121 rfl (rfl) (rfl)
set_option maxHeartbeats 4000000 in
set_option maxRecDepth 100000 in
theorem zX7_count_3 {g : aG} {l : Launch} {σ : aS} (h0 : σ 700 0 = 0) : CN g l yX7_count wsX7_count 2 43 [.ref 700, .int 3] σ (some (.int (σ 701 770))) σ := by
  refine cn_of (cc := cX7_count) (nL := 2) (ret := (some .int)) (own := RX7) (by decide +kernel) rfl rfl (Nat.le_of_ble_eq_true rfl) (fun K hg hl hK hE => ?_)
  subst hg; subst hl
  have i_7 : ∀ w ∈ u_ws RX7 TX7 15, w ∈ wsX7_count := by decide +kernel
  show AW K 0 [some (.ref 700), some (.int 3)] [] σ
  refine s_aload0 hK dX7_count_0 ?_
  refine s_iconst (v := 0) hK dX7_count_1 (by decide) ?_
  refine s_putg (ci := 7) (k := 0) (ty := .int) hK rfl rfl i_7 (by decide +kernel) dX7_count_2 tyX7_ok nmX7 (by decide) (by decide) (by decide) rfl rfl rfl (by decide +kernel) rfl rfl ?_
  rw [thr h0]
  refine s_iload1 hK dX7_count_5 ?_
  refine s_tableIn (tgt := 109) hK dX7_count_6 (by decide) (by decide) (off := 103) (by decide) (by decide) ?_
  refine s_aload0 hK dX7_count_109 ?_
  refine s_getr (ci := 7) (k := 1) hK rfl rfl i_7 (by decide +kernel) dX7_count_110 (by decide) (by decide) (by decide) rfl rfl (rf_7_1 rfl) ?_
  refine s_sipush (v := 768) hK dX7_count_113 (by decide) ?_
  refine s_iload1 hK dX7_count_116 ?_
  refine s_iadd hK dX7_count_117 ?_
  refine s_iconst (v := 1) hK dX7_count_118 (by decide) ?_
  refine s_isub hK dX7_count_119 ?_
  refine s_ialdv (v := σ 701 770) (rfl) hK rfl (by show vp_in _ 2374; unfold vp_in; decide) dX7_count_120 ?_
  exact s_iret hK hE dX7_count_121 rfl (rfl) (rfl)
set_option maxHeartbeats 4000000 in
set_option maxRecDepth 100000 in
theorem zX7_count_4 {g : aG} {l : Launch} {σ : aS} (h0 : σ 700 0 = 0) : CN g l yX7_count wsX7_count 2 43 [.ref 700, .int 4] σ (some (.int (σ 701 771))) σ := by
  refine cn_of (cc := cX7_count) (nL := 2) (ret := (some .int)) (own := RX7) (by decide +kernel) rfl rfl (Nat.le_of_ble_eq_true rfl) (fun K hg hl hK hE => ?_)
  subst hg; subst hl
  have i_7 : ∀ w ∈ u_ws RX7 TX7 15, w ∈ wsX7_count := by decide +kernel
  show AW K 0 [some (.ref 700), some (.int 4)] [] σ
  refine s_aload0 hK dX7_count_0 ?_
  refine s_iconst (v := 0) hK dX7_count_1 (by decide) ?_
  refine s_putg (ci := 7) (k := 0) (ty := .int) hK rfl rfl i_7 (by decide +kernel) dX7_count_2 tyX7_ok nmX7 (by decide) (by decide) (by decide) rfl rfl rfl (by decide +kernel) rfl rfl ?_
  rw [thr h0]
  refine s_iload1 hK dX7_count_5 ?_
  refine s_tableIn (tgt := 109) hK dX7_count_6 (by decide) (by decide) (off := 103) (by decide) (by decide) ?_
  refine s_aload0 hK dX7_count_109 ?_
  refine s_getr (ci := 7) (k := 1) hK rfl rfl i_7 (by decide +kernel) dX7_count_110 (by decide) (by decide) (by decide) rfl rfl (rf_7_1 rfl) ?_
  refine s_sipush (v := 768) hK dX7_count_113 (by decide) ?_
  refine s_iload1 hK dX7_count_116 ?_
  refine s_iadd hK dX7_count_117 ?_
  refine s_iconst (v := 1) hK dX7_count_118 (by decide) ?_
  refine s_isub hK dX7_count_119 ?_
  refine s_ialdv (v := σ 701 771) (rfl) hK rfl (by show vp_in _ 2374; unfold vp_in; decide) dX7_count_120 ?_
  exact s_iret hK hE dX7_count_121 rfl (rfl) (rfl)
set_option maxHeartbeats 4000000 in
set_option maxRecDepth 100000 in
theorem zX7_count_5 {g : aG} {l : Launch} {σ : aS} (h0 : σ 700 0 = 0) : CN g l yX7_count wsX7_count 2 43 [.ref 700, .int 5] σ (some (.int (σ 701 772))) σ := by
  refine cn_of (cc := cX7_count) (nL := 2) (ret := (some .int)) (own := RX7) (by decide +kernel) rfl rfl (Nat.le_of_ble_eq_true rfl) (fun K hg hl hK hE => ?_)
  subst hg; subst hl
  have i_7 : ∀ w ∈ u_ws RX7 TX7 15, w ∈ wsX7_count := by decide +kernel
  show AW K 0 [some (.ref 700), some (.int 5)] [] σ
  refine s_aload0 hK dX7_count_0 ?_
  refine s_iconst (v := 0) hK dX7_count_1 (by decide) ?_
  refine s_putg (ci := 7) (k := 0) (ty := .int) hK rfl rfl i_7 (by decide +kernel) dX7_count_2 tyX7_ok nmX7 (by decide) (by decide) (by decide) rfl rfl rfl (by decide +kernel) rfl rfl ?_
  rw [thr h0]
  refine s_iload1 hK dX7_count_5 ?_
  refine s_tableIn (tgt := 109) hK dX7_count_6 (by decide) (by decide) (off := 103) (by decide) (by decide) ?_
  refine s_aload0 hK dX7_count_109 ?_
  refine s_getr (ci := 7) (k := 1) hK rfl rfl i_7 (by decide +kernel) dX7_count_110 (by decide) (by decide) (by decide) rfl rfl (rf_7_1 rfl) ?_
  refine s_sipush (v := 768) hK dX7_count_113 (by decide) ?_
  refine s_iload1 hK dX7_count_116 ?_
  refine s_iadd hK dX7_count_117 ?_
  refine s_iconst (v := 1) hK dX7_count_118 (by decide) ?_
  refine s_isub hK dX7_count_119 ?_
  refine s_ialdv (v := σ 701 772) (rfl) hK rfl (by show vp_in _ 2374; unfold vp_in; decide) dX7_count_120 ?_
  exact s_iret hK hE dX7_count_121 rfl (rfl) (rfl)
set_option maxHeartbeats 4000000 in
set_option maxRecDepth 100000 in
theorem zX7_count_6 {g : aG} {l : Launch} {σ : aS} (h0 : σ 700 0 = 0) : CN g l yX7_count wsX7_count 2 43 [.ref 700, .int 6] σ (some (.int (σ 701 773))) σ := by
  refine cn_of (cc := cX7_count) (nL := 2) (ret := (some .int)) (own := RX7) (by decide +kernel) rfl rfl (Nat.le_of_ble_eq_true rfl) (fun K hg hl hK hE => ?_)
  subst hg; subst hl
  have i_7 : ∀ w ∈ u_ws RX7 TX7 15, w ∈ wsX7_count := by decide +kernel
  show AW K 0 [some (.ref 700), some (.int 6)] [] σ
  refine s_aload0 hK dX7_count_0 ?_
  refine s_iconst (v := 0) hK dX7_count_1 (by decide) ?_
  refine s_putg (ci := 7) (k := 0) (ty := .int) hK rfl rfl i_7 (by decide +kernel) dX7_count_2 tyX7_ok nmX7 (by decide) (by decide) (by decide) rfl rfl rfl (by decide +kernel) rfl rfl ?_
  rw [thr h0]
  refine s_iload1 hK dX7_count_5 ?_
  refine s_tableIn (tgt := 109) hK dX7_count_6 (by decide) (by decide) (off := 103) (by decide) (by decide) ?_
  refine s_aload0 hK dX7_count_109 ?_
  refine s_getr (ci := 7) (k := 1) hK rfl rfl i_7 (by decide +kernel) dX7_count_110 (by decide) (by decide) (by decide) rfl rfl (rf_7_1 rfl) ?_
  refine s_sipush (v := 768) hK dX7_count_113 (by decide) ?_
  refine s_iload1 hK dX7_count_116 ?_
  refine s_iadd hK dX7_count_117 ?_
  refine s_iconst (v := 1) hK dX7_count_118 (by decide) ?_
  refine s_isub hK dX7_count_119 ?_
  refine s_ialdv (v := σ 701 773) (rfl) hK rfl (by show vp_in _ 2374; unfold vp_in; decide) dX7_count_120 ?_
  exact s_iret hK hE dX7_count_121 rfl (rfl) (rfl)
set_option maxHeartbeats 4000000 in
set_option maxRecDepth 100000 in
theorem zX7_count_7 {g : aG} {l : Launch} {σ : aS} (h0 : σ 700 0 = 0) : CN g l yX7_count wsX7_count 2 43 [.ref 700, .int 7] σ (some (.int (σ 701 774))) σ := by
  refine cn_of (cc := cX7_count) (nL := 2) (ret := (some .int)) (own := RX7) (by decide +kernel) rfl rfl (Nat.le_of_ble_eq_true rfl) (fun K hg hl hK hE => ?_)
  subst hg; subst hl
  have i_7 : ∀ w ∈ u_ws RX7 TX7 15, w ∈ wsX7_count := by decide +kernel
  show AW K 0 [some (.ref 700), some (.int 7)] [] σ
  refine s_aload0 hK dX7_count_0 ?_
  refine s_iconst (v := 0) hK dX7_count_1 (by decide) ?_
  refine s_putg (ci := 7) (k := 0) (ty := .int) hK rfl rfl i_7 (by decide +kernel) dX7_count_2 tyX7_ok nmX7 (by decide) (by decide) (by decide) rfl rfl rfl (by decide +kernel) rfl rfl ?_
  rw [thr h0]
  refine s_iload1 hK dX7_count_5 ?_
  refine s_tableIn (tgt := 109) hK dX7_count_6 (by decide) (by decide) (off := 103) (by decide) (by decide) ?_
  refine s_aload0 hK dX7_count_109 ?_
  refine s_getr (ci := 7) (k := 1) hK rfl rfl i_7 (by decide +kernel) dX7_count_110 (by decide) (by decide) (by decide) rfl rfl (rf_7_1 rfl) ?_
  refine s_sipush (v := 768) hK dX7_count_113 (by decide) ?_
  refine s_iload1 hK dX7_count_116 ?_
  refine s_iadd hK dX7_count_117 ?_
  refine s_iconst (v := 1) hK dX7_count_118 (by decide) ?_
  refine s_isub hK dX7_count_119 ?_
  refine s_ialdv (v := σ 701 774) (rfl) hK rfl (by show vp_in _ 2374; unfold vp_in; decide) dX7_count_120 ?_
  exact s_iret hK hE dX7_count_121 rfl (rfl) (rfl)
set_option maxHeartbeats 4000000 in
set_option maxRecDepth 100000 in
theorem zX7_count_8 {g : aG} {l : Launch} {σ : aS} (h0 : σ 700 0 = 0) : CN g l yX7_count wsX7_count 2 43 [.ref 700, .int 8] σ (some (.int (cNX σ))) σ := by
  refine cn_of (cc := cX7_count) (nL := 2) (ret := (some .int)) (own := RX7) (by decide +kernel) rfl rfl (Nat.le_of_ble_eq_true rfl) (fun K hg hl hK hE => ?_)
  subst hg; subst hl
  have i_7 : ∀ w ∈ u_ws RX7 TX7 15, w ∈ wsX7_count := by decide +kernel
  show AW K 0 [some (.ref 700), some (.int 8)] [] σ
  refine s_aload0 hK dX7_count_0 ?_
  refine s_iconst (v := 0) hK dX7_count_1 (by decide) ?_
  refine s_putg (ci := 7) (k := 0) (ty := .int) hK rfl rfl i_7 (by decide +kernel) dX7_count_2 tyX7_ok nmX7 (by decide) (by decide) (by decide) rfl rfl rfl (by decide +kernel) rfl rfl ?_
  rw [thr h0]
  refine s_iload1 hK dX7_count_5 ?_
  refine s_tableIn (tgt := 122) hK dX7_count_6 (by decide) (by decide) (off := 116) (by decide) (by decide) ?_
  refine s_aload0 hK dX7_count_122 ?_
  refine s_aload0 hK dX7_count_123 ?_
  refine s_getr (ci := 7) (k := 1) hK rfl rfl i_7 (by decide +kernel) dX7_count_124 (by decide) (by decide) (by decide) rfl rfl (rf_7_1 rfl) ?_
  refine s_sipush (v := 773) hK dX7_count_127 (by decide) ?_
  refine s_ialdv (v := σ 701 773) (rfl) hK rfl (show vp_in _ 2374 from vp_in_nI (n := 773) (by decide) (by decide)) dX7_count_130 ?_
  refine s_callV (ci := 7) hK mdX7_shiftX (zX7_shiftX _) gX7_count_X7_shiftX rfl rfl rfl (by decide) rfl ⟨Nat.le_of_ble_eq_true rfl, Nat.le_of_ble_eq_true rfl⟩ rfl (Nat.le_of_ble_eq_true rfl) dX7_count_131 ?_
  try dsimp only [Option.toList, List.cons_append, List.nil_append]
  exact s_iret hK hE dX7_count_134 rfl (rfl) (rfl)
set_option maxHeartbeats 4000000 in
set_option maxRecDepth 100000 in
theorem zX7_count_9 {g : aG} {l : Launch} {σ : aS} (h0 : σ 700 0 = 0) : CN g l yX7_count wsX7_count 2 43 [.ref 700, .int 9] σ (some (.int (cNY σ))) σ := by
  refine cn_of (cc := cX7_count) (nL := 2) (ret := (some .int)) (own := RX7) (by decide +kernel) rfl rfl (Nat.le_of_ble_eq_true rfl) (fun K hg hl hK hE => ?_)
  subst hg; subst hl
  have i_7 : ∀ w ∈ u_ws RX7 TX7 15, w ∈ wsX7_count := by decide +kernel
  show AW K 0 [some (.ref 700), some (.int 9)] [] σ
  refine s_aload0 hK dX7_count_0 ?_
  refine s_iconst (v := 0) hK dX7_count_1 (by decide) ?_
  refine s_putg (ci := 7) (k := 0) (ty := .int) hK rfl rfl i_7 (by decide +kernel) dX7_count_2 tyX7_ok nmX7 (by decide) (by decide) (by decide) rfl rfl rfl (by decide +kernel) rfl rfl ?_
  rw [thr h0]
  refine s_iload1 hK dX7_count_5 ?_
  refine s_tableIn (tgt := 135) hK dX7_count_6 (by decide) (by decide) (off := 129) (by decide) (by decide) ?_
  refine s_aload0 hK dX7_count_135 ?_
  refine s_aload0 hK dX7_count_136 ?_
  refine s_getr (ci := 7) (k := 1) hK rfl rfl i_7 (by decide +kernel) dX7_count_137 (by decide) (by decide) (by decide) rfl rfl (rf_7_1 rfl) ?_
  refine s_sipush (v := 774) hK dX7_count_140 (by decide) ?_
  refine s_ialdv (v := σ 701 774) (rfl) hK rfl (show vp_in _ 2374 from vp_in_nI (n := 774) (by decide) (by decide)) dX7_count_143 ?_
  refine s_callV (ci := 7) hK mdX7_shiftY (zX7_shiftY _) gX7_count_X7_shiftY rfl rfl rfl (by decide) rfl ⟨Nat.le_of_ble_eq_true rfl, Nat.le_of_ble_eq_true rfl⟩ rfl (Nat.le_of_ble_eq_true rfl) dX7_count_144 ?_
  try dsimp only [Option.toList, List.cons_append, List.nil_append]
  exact s_iret hK hE dX7_count_147 rfl (rfl) (rfl)
set_option maxHeartbeats 4000000 in
set_option maxRecDepth 100000 in
theorem zX7_count_10 {g : aG} {l : Launch} {σ : aS} (h0 : σ 700 0 = 0) : CN g l yX7_count wsX7_count 2 43 [.ref 700, .int 10] σ (some (.int (nI (ct (mN σ 0 0))))) σ := by
  refine cn_of (cc := cX7_count) (nL := 2) (ret := (some .int)) (own := RX7) (by decide +kernel) rfl rfl (Nat.le_of_ble_eq_true rfl) (fun K hg hl hK hE => ?_)
  subst hg; subst hl
  have i_7 : ∀ w ∈ u_ws RX7 TX7 15, w ∈ wsX7_count := by decide +kernel
  show AW K 0 [some (.ref 700), some (.int 10)] [] σ
  refine s_aload0 hK dX7_count_0 ?_
  refine s_iconst (v := 0) hK dX7_count_1 (by decide) ?_
  refine s_putg (ci := 7) (k := 0) (ty := .int) hK rfl rfl i_7 (by decide +kernel) dX7_count_2 tyX7_ok nmX7 (by decide) (by decide) (by decide) rfl rfl rfl (by decide +kernel) rfl rfl ?_
  rw [thr h0]
  refine s_iload1 hK dX7_count_5 ?_
  refine s_tableIn (tgt := 148) hK dX7_count_6 (by decide) (by decide) (off := 142) (by decide) (by decide) ?_
  refine s_aload0 hK dX7_count_148 ?_
  refine s_iconst (v := 0) hK dX7_count_149 (by decide) ?_
  refine s_iload1 hK dX7_count_150 ?_
  refine s_bipush (v := 10) hK dX7_count_151 (by decide) ?_
  refine s_isub hK dX7_count_153 ?_
  refine s_callV (ci := 7) hK mdX7_many (zX7_many 0 0 (by decide)) gX7_count_X7_many rfl rfl rfl (by decide) rfl ⟨Nat.le_of_ble_eq_true rfl, Nat.le_of_ble_eq_true rfl⟩ rfl (Nat.le_of_ble_eq_true rfl) dX7_count_154 ?_
  try dsimp only [Option.toList, List.cons_append, List.nil_append]
  exact s_iret hK hE dX7_count_157 rfl (rfl) (rfl)
set_option maxHeartbeats 4000000 in
set_option maxRecDepth 100000 in
theorem zX7_count_11 {g : aG} {l : Launch} {σ : aS} (h0 : σ 700 0 = 0) : CN g l yX7_count wsX7_count 2 43 [.ref 700, .int 11] σ (some (.int (nI (ct (mN σ 0 1))))) σ := by
  refine cn_of (cc := cX7_count) (nL := 2) (ret := (some .int)) (own := RX7) (by decide +kernel) rfl rfl (Nat.le_of_ble_eq_true rfl) (fun K hg hl hK hE => ?_)
  subst hg; subst hl
  have i_7 : ∀ w ∈ u_ws RX7 TX7 15, w ∈ wsX7_count := by decide +kernel
  show AW K 0 [some (.ref 700), some (.int 11)] [] σ
  refine s_aload0 hK dX7_count_0 ?_
  refine s_iconst (v := 0) hK dX7_count_1 (by decide) ?_
  refine s_putg (ci := 7) (k := 0) (ty := .int) hK rfl rfl i_7 (by decide +kernel) dX7_count_2 tyX7_ok nmX7 (by decide) (by decide) (by decide) rfl rfl rfl (by decide +kernel) rfl rfl ?_
  rw [thr h0]
  refine s_iload1 hK dX7_count_5 ?_
  refine s_tableIn (tgt := 148) hK dX7_count_6 (by decide) (by decide) (off := 142) (by decide) (by decide) ?_
  refine s_aload0 hK dX7_count_148 ?_
  refine s_iconst (v := 0) hK dX7_count_149 (by decide) ?_
  refine s_iload1 hK dX7_count_150 ?_
  refine s_bipush (v := 10) hK dX7_count_151 (by decide) ?_
  refine s_isub hK dX7_count_153 ?_
  refine s_callV (ci := 7) hK mdX7_many (zX7_many 0 1 (by decide)) gX7_count_X7_many rfl rfl rfl (by decide) rfl ⟨Nat.le_of_ble_eq_true rfl, Nat.le_of_ble_eq_true rfl⟩ rfl (Nat.le_of_ble_eq_true rfl) dX7_count_154 ?_
  try dsimp only [Option.toList, List.cons_append, List.nil_append]
  exact s_iret hK hE dX7_count_157 rfl (rfl) (rfl)
set_option maxHeartbeats 4000000 in
set_option maxRecDepth 100000 in
theorem zX7_count_12 {g : aG} {l : Launch} {σ : aS} (h0 : σ 700 0 = 0) : CN g l yX7_count wsX7_count 2 43 [.ref 700, .int 12] σ (some (.int (nI (ct (mN σ 0 2))))) σ := by
  refine cn_of (cc := cX7_count) (nL := 2) (ret := (some .int)) (own := RX7) (by decide +kernel) rfl rfl (Nat.le_of_ble_eq_true rfl) (fun K hg hl hK hE => ?_)
  subst hg; subst hl
  have i_7 : ∀ w ∈ u_ws RX7 TX7 15, w ∈ wsX7_count := by decide +kernel
  show AW K 0 [some (.ref 700), some (.int 12)] [] σ
  refine s_aload0 hK dX7_count_0 ?_
  refine s_iconst (v := 0) hK dX7_count_1 (by decide) ?_
  refine s_putg (ci := 7) (k := 0) (ty := .int) hK rfl rfl i_7 (by decide +kernel) dX7_count_2 tyX7_ok nmX7 (by decide) (by decide) (by decide) rfl rfl rfl (by decide +kernel) rfl rfl ?_
  rw [thr h0]
  refine s_iload1 hK dX7_count_5 ?_
  refine s_tableIn (tgt := 148) hK dX7_count_6 (by decide) (by decide) (off := 142) (by decide) (by decide) ?_
  refine s_aload0 hK dX7_count_148 ?_
  refine s_iconst (v := 0) hK dX7_count_149 (by decide) ?_
  refine s_iload1 hK dX7_count_150 ?_
  refine s_bipush (v := 10) hK dX7_count_151 (by decide) ?_
  refine s_isub hK dX7_count_153 ?_
  refine s_callV (ci := 7) hK mdX7_many (zX7_many 0 2 (by decide)) gX7_count_X7_many rfl rfl rfl (by decide) rfl ⟨Nat.le_of_ble_eq_true rfl, Nat.le_of_ble_eq_true rfl⟩ rfl (Nat.le_of_ble_eq_true rfl) dX7_count_154 ?_
  try dsimp only [Option.toList, List.cons_append, List.nil_append]
  exact s_iret hK hE dX7_count_157 rfl (rfl) (rfl)
set_option maxHeartbeats 4000000 in
set_option maxRecDepth 100000 in
theorem zX7_count_13 {g : aG} {l : Launch} {σ : aS} (h0 : σ 700 0 = 0) : CN g l yX7_count wsX7_count 2 43 [.ref 700, .int 13] σ (some (.int (nI (ct (mN σ 192 1))))) σ := by
  refine cn_of (cc := cX7_count) (nL := 2) (ret := (some .int)) (own := RX7) (by decide +kernel) rfl rfl (Nat.le_of_ble_eq_true rfl) (fun K hg hl hK hE => ?_)
  subst hg; subst hl
  have i_7 : ∀ w ∈ u_ws RX7 TX7 15, w ∈ wsX7_count := by decide +kernel
  show AW K 0 [some (.ref 700), some (.int 13)] [] σ
  refine s_aload0 hK dX7_count_0 ?_
  refine s_iconst (v := 0) hK dX7_count_1 (by decide) ?_
  refine s_putg (ci := 7) (k := 0) (ty := .int) hK rfl rfl i_7 (by decide +kernel) dX7_count_2 tyX7_ok nmX7 (by decide) (by decide) (by decide) rfl rfl rfl (by decide +kernel) rfl rfl ?_
  rw [thr h0]
  refine s_iload1 hK dX7_count_5 ?_
  refine s_tableIn (tgt := 158) hK dX7_count_6 (by decide) (by decide) (off := 152) (by decide) (by decide) ?_
  refine s_aload0 hK dX7_count_158 ?_
  refine s_sipush (v := 192) hK dX7_count_159 (by decide) ?_
  refine s_iconst (v := 1) hK dX7_count_162 (by decide) ?_
  refine s_callV (ci := 7) hK mdX7_many (zX7_many 192 1 (by decide)) gX7_count_X7_many rfl rfl rfl (by decide) rfl ⟨Nat.le_of_ble_eq_true rfl, Nat.le_of_ble_eq_true rfl⟩ rfl (Nat.le_of_ble_eq_true rfl) dX7_count_163 ?_
  try dsimp only [Option.toList, List.cons_append, List.nil_append]
  exact s_iret hK hE dX7_count_166 rfl (rfl) (rfl)
set_option maxHeartbeats 4000000 in
set_option maxRecDepth 100000 in
theorem zX7_count_14 {g : aG} {l : Launch} {σ : aS} (h0 : σ 700 0 = 0) : CN g l yX7_count wsX7_count 2 43 [.ref 700, .int 14] σ (some (.int (nI (ct (mN σ 576 1))))) σ := by
  refine cn_of (cc := cX7_count) (nL := 2) (ret := (some .int)) (own := RX7) (by decide +kernel) rfl rfl (Nat.le_of_ble_eq_true rfl) (fun K hg hl hK hE => ?_)
  subst hg; subst hl
  have i_7 : ∀ w ∈ u_ws RX7 TX7 15, w ∈ wsX7_count := by decide +kernel
  show AW K 0 [some (.ref 700), some (.int 14)] [] σ
  refine s_aload0 hK dX7_count_0 ?_
  refine s_iconst (v := 0) hK dX7_count_1 (by decide) ?_
  refine s_putg (ci := 7) (k := 0) (ty := .int) hK rfl rfl i_7 (by decide +kernel) dX7_count_2 tyX7_ok nmX7 (by decide) (by decide) (by decide) rfl rfl rfl (by decide +kernel) rfl rfl ?_
  rw [thr h0]
  refine s_iload1 hK dX7_count_5 ?_
  refine s_tableIn (tgt := 167) hK dX7_count_6 (by decide) (by decide) (off := 161) (by decide) (by decide) ?_
  refine s_aload0 hK dX7_count_167 ?_
  refine s_sipush (v := 576) hK dX7_count_168 (by decide) ?_
  refine s_iconst (v := 1) hK dX7_count_171 (by decide) ?_
  refine s_callV (ci := 7) hK mdX7_many (zX7_many 576 1 (by decide)) gX7_count_X7_many rfl rfl rfl (by decide) rfl ⟨Nat.le_of_ble_eq_true rfl, Nat.le_of_ble_eq_true rfl⟩ rfl (Nat.le_of_ble_eq_true rfl) dX7_count_172 ?_
  try dsimp only [Option.toList, List.cons_append, List.nil_append]
  exact s_iret hK hE dX7_count_175 rfl (rfl) (rfl)
set_option maxHeartbeats 4000000 in
set_option maxRecDepth 100000 in
theorem zX7_count_15 {g : aG} {l : Launch} {σ : aS} (h0 : σ 700 0 = 0) : CN g l yX7_count wsX7_count 2 43 [.ref 700, .int 15] σ (some (.int (nI (ct (wM σ))))) σ := by
  refine cn_of (cc := cX7_count) (nL := 2) (ret := (some .int)) (own := RX7) (by decide +kernel) rfl rfl (Nat.le_of_ble_eq_true rfl) (fun K hg hl hK hE => ?_)
  subst hg; subst hl
  have i_7 : ∀ w ∈ u_ws RX7 TX7 15, w ∈ wsX7_count := by decide +kernel
  show AW K 0 [some (.ref 700), some (.int 15)] [] σ
  refine s_aload0 hK dX7_count_0 ?_
  refine s_iconst (v := 0) hK dX7_count_1 (by decide) ?_
  refine s_putg (ci := 7) (k := 0) (ty := .int) hK rfl rfl i_7 (by decide +kernel) dX7_count_2 tyX7_ok nmX7 (by decide) (by decide) (by decide) rfl rfl rfl (by decide +kernel) rfl rfl ?_
  rw [thr h0]
  refine s_iload1 hK dX7_count_5 ?_
  refine s_tableIn (tgt := 176) hK dX7_count_6 (by decide) (by decide) (off := 170) (by decide) (by decide) ?_
  refine s_aload0 hK dX7_count_176 ?_
  refine s_callV (ci := 7) hK mdX7_wornCells (zX7_wornCells) gX7_count_X7_wornCells rfl rfl rfl (by decide) rfl ⟨Nat.le_of_ble_eq_true rfl, Nat.le_of_ble_eq_true rfl⟩ rfl (Nat.le_of_ble_eq_true rfl) dX7_count_177 ?_
  try dsimp only [Option.toList, List.cons_append, List.nil_append]
  exact s_iret hK hE dX7_count_180 rfl (rfl) (rfl)
set_option maxHeartbeats 4000000 in
set_option maxRecDepth 100000 in
theorem zX7_count_16 {g : aG} {l : Launch} {σ : aS} (h0 : σ 700 0 = 0) : CN g l yX7_count wsX7_count 2 43 [.ref 700, .int 16] σ (some (.int (if 12 ≤ σ 701 775 then 12 else σ 701 775))) σ := by
  refine cn_of (cc := cX7_count) (nL := 2) (ret := (some .int)) (own := RX7) (by decide +kernel) rfl rfl (Nat.le_of_ble_eq_true rfl) (fun K hg hl hK hE => ?_)
  subst hg; subst hl
  have i_7 : ∀ w ∈ u_ws RX7 TX7 15, w ∈ wsX7_count := by decide +kernel
  show AW K 0 [some (.ref 700), some (.int 16)] [] σ
  refine s_aload0 hK dX7_count_0 ?_
  refine s_iconst (v := 0) hK dX7_count_1 (by decide) ?_
  refine s_putg (ci := 7) (k := 0) (ty := .int) hK rfl rfl i_7 (by decide +kernel) dX7_count_2 tyX7_ok nmX7 (by decide) (by decide) (by decide) rfl rfl rfl (by decide +kernel) rfl rfl ?_
  rw [thr h0]
  refine s_iload1 hK dX7_count_5 ?_
  refine s_tableIn (tgt := 181) hK dX7_count_6 (by decide) (by decide) (off := 175) (by decide) (by decide) ?_
  refine s_aload0 hK dX7_count_181 ?_
  refine s_getr (ci := 7) (k := 1) hK rfl rfl i_7 (by decide +kernel) dX7_count_182 (by decide) (by decide) (by decide) rfl rfl (rf_7_1 rfl) ?_
  refine s_sipush (v := 775) hK dX7_count_185 (by decide) ?_
  refine s_ialdv (v := σ 701 775) (rfl) hK rfl (show vp_in _ 2374 from vp_in_nI (n := 775) (by decide) (by decide)) dX7_count_188 ?_
  refine s_bipush (v := 12) hK dX7_count_189 (by decide) ?_
  refine s_icmp_ge (tgt := 205) hK dX7_count_191 (by decide) (fun c_191 => ?_) (fun c_191 => ?_)
  · refine s_bipush (v := 12) hK dX7_count_205 (by decide) ?_
    exact s_iret hK hE dX7_count_207 rfl (by simp [c_191]) (rfl)
  · refine s_aload0 hK dX7_count_194 ?_
    refine s_getr (ci := 7) (k := 1) hK rfl rfl i_7 (by decide +kernel) dX7_count_195 (by decide) (by decide) (by decide) rfl rfl (rf_7_1 rfl) ?_
    refine s_sipush (v := 775) hK dX7_count_198 (by decide) ?_
    refine s_ialdv (v := σ 701 775) (rfl) hK rfl (show vp_in _ 2374 from vp_in_nI (n := 775) (by decide) (by decide)) dX7_count_201 ?_
    refine s_goto (tgt := 207) hK dX7_count_202 (by decide) ?_
    exact s_iret hK hE dX7_count_207 rfl (by simp [c_191]) (rfl)
set_option maxHeartbeats 4000000 in
set_option maxRecDepth 100000 in
theorem zX7_count_17 {g : aG} {l : Launch} {σ : aS} (h0 : σ 700 0 = 0) : CN g l yX7_count wsX7_count 2 43 [.ref 700, .int 17] σ (some (.int (σ 701 836 + σ 701 1605))) σ := by
  refine cn_of (cc := cX7_count) (nL := 2) (ret := (some .int)) (own := RX7) (by decide +kernel) rfl rfl (Nat.le_of_ble_eq_true rfl) (fun K hg hl hK hE => ?_)
  subst hg; subst hl
  have i_7 : ∀ w ∈ u_ws RX7 TX7 15, w ∈ wsX7_count := by decide +kernel
  show AW K 0 [some (.ref 700), some (.int 17)] [] σ
  refine s_aload0 hK dX7_count_0 ?_
  refine s_iconst (v := 0) hK dX7_count_1 (by decide) ?_
  refine s_putg (ci := 7) (k := 0) (ty := .int) hK rfl rfl i_7 (by decide +kernel) dX7_count_2 tyX7_ok nmX7 (by decide) (by decide) (by decide) rfl rfl rfl (by decide +kernel) rfl rfl ?_
  rw [thr h0]
  refine s_iload1 hK dX7_count_5 ?_
  refine s_tableIn (tgt := 208) hK dX7_count_6 (by decide) (by decide) (off := 202) (by decide) (by decide) ?_
  refine s_aload0 hK dX7_count_208 ?_
  refine s_getr (ci := 7) (k := 1) hK rfl rfl i_7 (by decide +kernel) dX7_count_209 (by decide) (by decide) (by decide) rfl rfl (rf_7_1 rfl) ?_
  refine s_sipush (v := 836) hK dX7_count_212 (by decide) ?_
  refine s_ialdv (v := σ 701 836) (rfl) hK rfl (show vp_in _ 2374 from vp_in_nI (n := 836) (by decide) (by decide)) dX7_count_215 ?_
  refine s_aload0 hK dX7_count_216 ?_
  refine s_getr (ci := 7) (k := 1) hK rfl rfl i_7 (by decide +kernel) dX7_count_217 (by decide) (by decide) (by decide) rfl rfl (rf_7_1 rfl) ?_
  refine s_sipush (v := 1605) hK dX7_count_220 (by decide) ?_
  refine s_ialdv (v := σ 701 1605) (rfl) hK rfl (show vp_in _ 2374 from vp_in_nI (n := 1605) (by decide) (by decide)) dX7_count_223 ?_
  refine s_iadd hK dX7_count_224 ?_
  exact s_iret hK hE dX7_count_225 rfl (rfl) (rfl)
set_option maxHeartbeats 4000000 in
set_option maxRecDepth 100000 in
theorem zX7_count_18 {g : aG} {l : Launch} {σ : aS} (h0 : σ 700 0 = 0) : CN g l yX7_count wsX7_count 2 43 [.ref 700, .int 18] σ (some (.int (σ 700 3))) σ := by
  refine cn_of (cc := cX7_count) (nL := 2) (ret := (some .int)) (own := RX7) (by decide +kernel) rfl rfl (Nat.le_of_ble_eq_true rfl) (fun K hg hl hK hE => ?_)
  subst hg; subst hl
  have i_7 : ∀ w ∈ u_ws RX7 TX7 15, w ∈ wsX7_count := by decide +kernel
  show AW K 0 [some (.ref 700), some (.int 18)] [] σ
  refine s_aload0 hK dX7_count_0 ?_
  refine s_iconst (v := 0) hK dX7_count_1 (by decide) ?_
  refine s_putg (ci := 7) (k := 0) (ty := .int) hK rfl rfl i_7 (by decide +kernel) dX7_count_2 tyX7_ok nmX7 (by decide) (by decide) (by decide) rfl rfl rfl (by decide +kernel) rfl rfl ?_
  rw [thr h0]
  refine s_iload1 hK dX7_count_5 ?_
  refine s_tableIn (tgt := 226) hK dX7_count_6 (by decide) (by decide) (off := 220) (by decide) (by decide) ?_
  refine s_aload0 hK dX7_count_226 ?_
  refine s_geti (ci := 7) (k := 3) hK rfl rfl i_7 (by decide +kernel) dX7_count_227 (by decide) (by decide) (by decide) rfl rfl ?_
  exact s_iret hK hE dX7_count_230 rfl (rfl) (rfl)
set_option maxHeartbeats 4000000 in
set_option maxRecDepth 100000 in
theorem zX7_count_19 {g : aG} {l : Launch} {σ : aS} (h0 : σ 700 0 = 0) : CN g l yX7_count wsX7_count 2 43 [.ref 700, .int 19] σ (some (.int (σ 700 5))) σ := by
  refine cn_of (cc := cX7_count) (nL := 2) (ret := (some .int)) (own := RX7) (by decide +kernel) rfl rfl (Nat.le_of_ble_eq_true rfl) (fun K hg hl hK hE => ?_)
  subst hg; subst hl
  have i_7 : ∀ w ∈ u_ws RX7 TX7 15, w ∈ wsX7_count := by decide +kernel
  show AW K 0 [some (.ref 700), some (.int 19)] [] σ
  refine s_aload0 hK dX7_count_0 ?_
  refine s_iconst (v := 0) hK dX7_count_1 (by decide) ?_
  refine s_putg (ci := 7) (k := 0) (ty := .int) hK rfl rfl i_7 (by decide +kernel) dX7_count_2 tyX7_ok nmX7 (by decide) (by decide) (by decide) rfl rfl rfl (by decide +kernel) rfl rfl ?_
  rw [thr h0]
  refine s_iload1 hK dX7_count_5 ?_
  refine s_tableIn (tgt := 231) hK dX7_count_6 (by decide) (by decide) (off := 225) (by decide) (by decide) ?_
  refine s_aload0 hK dX7_count_231 ?_
  refine s_geti (ci := 7) (k := 5) hK rfl rfl i_7 (by decide +kernel) dX7_count_232 (by decide) (by decide) (by decide) rfl rfl ?_
  exact s_iret hK hE dX7_count_235 rfl (rfl) (rfl)
set_option maxHeartbeats 4000000 in
set_option maxRecDepth 100000 in
theorem zX7_count_out {g : aG} {l : Launch} {σ : aS} (h0 : σ 700 0 = 0) (a : Int32) (h : a.toInt < 0 ∨ 19 < a.toInt) : CN g l yX7_count wsX7_count 2 43 [.ref 700, .int a] σ (some (.int (-1001))) σ := by
  refine cn_of (cc := cX7_count) (nL := 2) (ret := (some .int)) (own := RX7) (by decide +kernel) rfl rfl (Nat.le_of_ble_eq_true rfl) (fun K hg hl hK hE => ?_)
  subst hg; subst hl
  have i_7 : ∀ w ∈ u_ws RX7 TX7 15, w ∈ wsX7_count := by decide +kernel
  show AW K 0 [some (.ref 700), some (.int a)] [] σ
  refine s_aload0 hK dX7_count_0 ?_
  refine s_iconst (v := 0) hK dX7_count_1 (by decide) ?_
  refine s_putg (ci := 7) (k := 0) (ty := .int) hK rfl rfl i_7 (by decide +kernel) dX7_count_2 tyX7_ok nmX7 (by decide) (by decide) (by decide) rfl rfl rfl (by decide +kernel) rfl rfl ?_
  rw [thr h0]
  refine s_iload1 hK dX7_count_5 ?_
  refine s_tableOut (tgt := 236) hK dX7_count_6 h (by decide) ?_
  refine s_sipush (v := -1001) hK dX7_count_236 (by decide) ?_
  exact s_iret hK hE dX7_count_239 rfl (rfl) (rfl)
set_option maxHeartbeats 4000000 in
set_option maxRecDepth 100000 in
theorem zX7_cell_bad {g : aG} {l : Launch} {σ : aS} (h0 : σ 700 0 = 0) (x y a : Int32) (hbad : pl x y = false) : CN g l yX7_cell wsX7_cell 2 43 [.ref 700, .int x, .int y, .int a] σ (some (.int (-1001))) σ := by
  refine cn_of (cc := cX7_cell) (nL := 5) (ret := (some .int)) (own := RX7) (by decide +kernel) rfl rfl (Nat.le_of_ble_eq_true rfl) (fun K hg hl hK hE => ?_)
  subst hg; subst hl
  have i_7 : ∀ w ∈ u_ws RX7 TX7 15, w ∈ wsX7_cell := by decide +kernel
  show AW K 0 [some (.ref 700), some (.int x), some (.int y), some (.int a), none] [] σ
  refine s_aload0 hK dX7_cell_0 ?_
  refine s_iconst (v := 0) hK dX7_cell_1 (by decide) ?_
  refine s_putg (ci := 7) (k := 0) (ty := .int) hK rfl rfl i_7 (by decide +kernel) dX7_cell_2 tyX7_ok nmX7 (by decide) (by decide) (by decide) rfl rfl rfl (by decide +kernel) rfl rfl ?_
  rw [thr h0]
  refine s_iload1 hK dX7_cell_5 ?_
  refine s_iload2 hK dX7_cell_6 ?_
  refine s_callS hK mdX7_isCell (zX7_isCell _ _) gX7_cell_X7_isCell rfl ⟨Nat.le_of_ble_eq_true rfl, Nat.le_of_ble_eq_true rfl⟩ rfl (Nat.le_of_ble_eq_true rfl) dX7_cell_7 ?_
  try dsimp only [Option.toList, List.cons_append, List.nil_append]
  refine s_if_ne (tgt := 17) hK dX7_cell_10 (by decide) (fun c_10 => absurd c_10 (fun q => q (b2f hbad))) (fun c_10 => ?_)
  refine s_sipush (v := -1001) hK dX7_cell_13 (by decide) ?_
  exact s_iret hK hE dX7_cell_16 rfl (rfl) (rfl)
set_option maxHeartbeats 4000000 in
set_option maxRecDepth 100000 in
theorem zX7_cell_0 {g : aG} {l : Launch} {σ : aS} (h0 : σ 700 0 = 0) (x y : Nat) (hx : x < 16) (hy : y < 12) : CN g l yX7_cell wsX7_cell 2 43 [.ref 700, .int (nI x), .int (nI y), .int 0] σ (some (.int (σ 701 (16 * y + x)))) σ := by
  refine cn_of (cc := cX7_cell) (nL := 5) (ret := (some .int)) (own := RX7) (by decide +kernel) rfl rfl (Nat.le_of_ble_eq_true rfl) (fun K hg hl hK hE => ?_)
  subst hg; subst hl
  have i_7 : ∀ w ∈ u_ws RX7 TX7 15, w ∈ wsX7_cell := by decide +kernel
  show AW K 0 [some (.ref 700), some (.int (nI x)), some (.int (nI y)), some (.int 0), none] [] σ
  refine s_aload0 hK dX7_cell_0 ?_
  refine s_iconst (v := 0) hK dX7_cell_1 (by decide) ?_
  refine s_putg (ci := 7) (k := 0) (ty := .int) hK rfl rfl i_7 (by decide +kernel) dX7_cell_2 tyX7_ok nmX7 (by decide) (by decide) (by decide) rfl rfl rfl (by decide +kernel) rfl rfl ?_
  rw [thr h0]
  refine s_iload1 hK dX7_cell_5 ?_
  refine s_iload2 hK dX7_cell_6 ?_
  refine s_callS hK mdX7_isCell (zX7_isCell _ _) gX7_cell_X7_isCell rfl ⟨Nat.le_of_ble_eq_true rfl, Nat.le_of_ble_eq_true rfl⟩ rfl (Nat.le_of_ble_eq_true rfl) dX7_cell_7 ?_
  try dsimp only [Option.toList, List.cons_append, List.nil_append]
  refine s_if_ne (tgt := 17) hK dX7_cell_10 (by decide) (fun c_10 => ?_) (fun c_10 => absurd c_10 (b2y' (pl_nI hx hy)))
  refine s_bipush (v := 16) hK dX7_cell_17 (by decide) ?_
  refine s_iload2 hK dX7_cell_19 ?_
  refine s_imul hK dX7_cell_20 ?_
  refine s_iload1 hK dX7_cell_21 ?_
  refine s_iadd hK dX7_cell_22 ?_
  rw [show (16 : Int32) * nI y + nI x = nI (16 * y + x) from by rw [show (16 : Int32) = nI 16 from rfl, pk_mul, nI_add]]
  refine s_istore4 hK dX7_cell_23 ?_
  refine s_iload3 hK dX7_cell_25 ?_
  refine s_tableIn (tgt := 60) hK dX7_cell_26 (by decide) (by decide) (off := 34) (by decide) (by decide) ?_
  refine s_aload0 hK dX7_cell_60 ?_
  refine s_getr (ci := 7) (k := 1) hK rfl rfl i_7 (by decide +kernel) dX7_cell_61 (by decide) (by decide) (by decide) rfl rfl (rf_7_1 rfl) ?_
  refine s_iconst (v := 0) hK dX7_cell_64 (by decide) ?_
  refine s_iload4 hK dX7_cell_65 ?_
  refine s_iadd hK dX7_cell_67 ?_
  rw [show (0 : Int32) + nI (16 * y + x) = nI (16 * y + x) from Int32.zero_add _]
  refine s_iald hK rfl (show vp_in _ 2374 from vp_in_nI (show 16 * y + x < 2374 by omega) (by decide)) dX7_cell_68 ?_
  rw [cl_nI (show 16 * y + x < 2 ^ 31 by omega)]
  exact s_iret hK hE dX7_cell_69 rfl (rfl) (rfl)
set_option maxHeartbeats 4000000 in
set_option maxRecDepth 100000 in
theorem zX7_cell_1 {g : aG} {l : Launch} {σ : aS} (h0 : σ 700 0 = 0) (x y : Nat) (hx : x < 16) (hy : y < 12) : CN g l yX7_cell wsX7_cell 2 43 [.ref 700, .int (nI x), .int (nI y), .int 1] σ (some (.int (σ 701 (192 + (16 * y + x))))) σ := by
  refine cn_of (cc := cX7_cell) (nL := 5) (ret := (some .int)) (own := RX7) (by decide +kernel) rfl rfl (Nat.le_of_ble_eq_true rfl) (fun K hg hl hK hE => ?_)
  subst hg; subst hl
  have i_7 : ∀ w ∈ u_ws RX7 TX7 15, w ∈ wsX7_cell := by decide +kernel
  show AW K 0 [some (.ref 700), some (.int (nI x)), some (.int (nI y)), some (.int 1), none] [] σ
  refine s_aload0 hK dX7_cell_0 ?_
  refine s_iconst (v := 0) hK dX7_cell_1 (by decide) ?_
  refine s_putg (ci := 7) (k := 0) (ty := .int) hK rfl rfl i_7 (by decide +kernel) dX7_cell_2 tyX7_ok nmX7 (by decide) (by decide) (by decide) rfl rfl rfl (by decide +kernel) rfl rfl ?_
  rw [thr h0]
  refine s_iload1 hK dX7_cell_5 ?_
  refine s_iload2 hK dX7_cell_6 ?_
  refine s_callS hK mdX7_isCell (zX7_isCell _ _) gX7_cell_X7_isCell rfl ⟨Nat.le_of_ble_eq_true rfl, Nat.le_of_ble_eq_true rfl⟩ rfl (Nat.le_of_ble_eq_true rfl) dX7_cell_7 ?_
  try dsimp only [Option.toList, List.cons_append, List.nil_append]
  refine s_if_ne (tgt := 17) hK dX7_cell_10 (by decide) (fun c_10 => ?_) (fun c_10 => absurd c_10 (b2y' (pl_nI hx hy)))
  refine s_bipush (v := 16) hK dX7_cell_17 (by decide) ?_
  refine s_iload2 hK dX7_cell_19 ?_
  refine s_imul hK dX7_cell_20 ?_
  refine s_iload1 hK dX7_cell_21 ?_
  refine s_iadd hK dX7_cell_22 ?_
  rw [show (16 : Int32) * nI y + nI x = nI (16 * y + x) from by rw [show (16 : Int32) = nI 16 from rfl, pk_mul, nI_add]]
  refine s_istore4 hK dX7_cell_23 ?_
  refine s_iload3 hK dX7_cell_25 ?_
  refine s_tableIn (tgt := 70) hK dX7_cell_26 (by decide) (by decide) (off := 44) (by decide) (by decide) ?_
  refine s_aload0 hK dX7_cell_70 ?_
  refine s_getr (ci := 7) (k := 1) hK rfl rfl i_7 (by decide +kernel) dX7_cell_71 (by decide) (by decide) (by decide) rfl rfl (rf_7_1 rfl) ?_
  refine s_sipush (v := 192) hK dX7_cell_74 (by decide) ?_
  refine s_iload4 hK dX7_cell_77 ?_
  refine s_iadd hK dX7_cell_79 ?_
  rw [show (192 : Int32) = nI 192 from rfl, nI_add]
  refine s_iald hK rfl (show vp_in _ 2374 from vp_in_nI (show 192 + (16 * y + x) < 2374 by omega) (by decide)) dX7_cell_80 ?_
  rw [cl_nI (show 192 + (16 * y + x) < 2 ^ 31 by omega)]
  exact s_iret hK hE dX7_cell_81 rfl (rfl) (rfl)
set_option maxHeartbeats 4000000 in
set_option maxRecDepth 100000 in
theorem zX7_cell_2 {g : aG} {l : Launch} {σ : aS} (h0 : σ 700 0 = 0) (x y : Nat) (hx : x < 16) (hy : y < 12) : CN g l yX7_cell wsX7_cell 2 43 [.ref 700, .int (nI x), .int (nI y), .int 2] σ (some (.int (σ 701 (576 + (16 * y + x))))) σ := by
  refine cn_of (cc := cX7_cell) (nL := 5) (ret := (some .int)) (own := RX7) (by decide +kernel) rfl rfl (Nat.le_of_ble_eq_true rfl) (fun K hg hl hK hE => ?_)
  subst hg; subst hl
  have i_7 : ∀ w ∈ u_ws RX7 TX7 15, w ∈ wsX7_cell := by decide +kernel
  show AW K 0 [some (.ref 700), some (.int (nI x)), some (.int (nI y)), some (.int 2), none] [] σ
  refine s_aload0 hK dX7_cell_0 ?_
  refine s_iconst (v := 0) hK dX7_cell_1 (by decide) ?_
  refine s_putg (ci := 7) (k := 0) (ty := .int) hK rfl rfl i_7 (by decide +kernel) dX7_cell_2 tyX7_ok nmX7 (by decide) (by decide) (by decide) rfl rfl rfl (by decide +kernel) rfl rfl ?_
  rw [thr h0]
  refine s_iload1 hK dX7_cell_5 ?_
  refine s_iload2 hK dX7_cell_6 ?_
  refine s_callS hK mdX7_isCell (zX7_isCell _ _) gX7_cell_X7_isCell rfl ⟨Nat.le_of_ble_eq_true rfl, Nat.le_of_ble_eq_true rfl⟩ rfl (Nat.le_of_ble_eq_true rfl) dX7_cell_7 ?_
  try dsimp only [Option.toList, List.cons_append, List.nil_append]
  refine s_if_ne (tgt := 17) hK dX7_cell_10 (by decide) (fun c_10 => ?_) (fun c_10 => absurd c_10 (b2y' (pl_nI hx hy)))
  refine s_bipush (v := 16) hK dX7_cell_17 (by decide) ?_
  refine s_iload2 hK dX7_cell_19 ?_
  refine s_imul hK dX7_cell_20 ?_
  refine s_iload1 hK dX7_cell_21 ?_
  refine s_iadd hK dX7_cell_22 ?_
  rw [show (16 : Int32) * nI y + nI x = nI (16 * y + x) from by rw [show (16 : Int32) = nI 16 from rfl, pk_mul, nI_add]]
  refine s_istore4 hK dX7_cell_23 ?_
  refine s_iload3 hK dX7_cell_25 ?_
  refine s_tableIn (tgt := 82) hK dX7_cell_26 (by decide) (by decide) (off := 56) (by decide) (by decide) ?_
  refine s_aload0 hK dX7_cell_82 ?_
  refine s_getr (ci := 7) (k := 1) hK rfl rfl i_7 (by decide +kernel) dX7_cell_83 (by decide) (by decide) (by decide) rfl rfl (rf_7_1 rfl) ?_
  refine s_sipush (v := 576) hK dX7_cell_86 (by decide) ?_
  refine s_iload4 hK dX7_cell_89 ?_
  refine s_iadd hK dX7_cell_91 ?_
  rw [show (576 : Int32) = nI 576 from rfl, nI_add]
  refine s_iald hK rfl (show vp_in _ 2374 from vp_in_nI (show 576 + (16 * y + x) < 2374 by omega) (by decide)) dX7_cell_92 ?_
  rw [cl_nI (show 576 + (16 * y + x) < 2 ^ 31 by omega)]
  exact s_iret hK hE dX7_cell_93 rfl (rfl) (rfl)
set_option maxHeartbeats 4000000 in
set_option maxRecDepth 100000 in
theorem zX7_cell_3 {g : aG} {l : Launch} {σ : aS} (h0 : σ 700 0 = 0) (x y : Nat) (hx : x < 16) (hy : y < 12) : CN g l yX7_cell wsX7_cell 2 43 [.ref 700, .int (nI x), .int (nI y), .int 3] σ (some (.int (if σ 701 (192 + (16 * y + x)) = 1 then σ 701 (384 + (16 * y + x)) else 0))) σ := by
  refine cn_of (cc := cX7_cell) (nL := 5) (ret := (some .int)) (own := RX7) (by decide +kernel) rfl rfl (Nat.le_of_ble_eq_true rfl) (fun K hg hl hK hE => ?_)
  subst hg; subst hl
  have i_7 : ∀ w ∈ u_ws RX7 TX7 15, w ∈ wsX7_cell := by decide +kernel
  show AW K 0 [some (.ref 700), some (.int (nI x)), some (.int (nI y)), some (.int 3), none] [] σ
  refine s_aload0 hK dX7_cell_0 ?_
  refine s_iconst (v := 0) hK dX7_cell_1 (by decide) ?_
  refine s_putg (ci := 7) (k := 0) (ty := .int) hK rfl rfl i_7 (by decide +kernel) dX7_cell_2 tyX7_ok nmX7 (by decide) (by decide) (by decide) rfl rfl rfl (by decide +kernel) rfl rfl ?_
  rw [thr h0]
  refine s_iload1 hK dX7_cell_5 ?_
  refine s_iload2 hK dX7_cell_6 ?_
  refine s_callS hK mdX7_isCell (zX7_isCell _ _) gX7_cell_X7_isCell rfl ⟨Nat.le_of_ble_eq_true rfl, Nat.le_of_ble_eq_true rfl⟩ rfl (Nat.le_of_ble_eq_true rfl) dX7_cell_7 ?_
  try dsimp only [Option.toList, List.cons_append, List.nil_append]
  refine s_if_ne (tgt := 17) hK dX7_cell_10 (by decide) (fun c_10 => ?_) (fun c_10 => absurd c_10 (b2y' (pl_nI hx hy)))
  refine s_bipush (v := 16) hK dX7_cell_17 (by decide) ?_
  refine s_iload2 hK dX7_cell_19 ?_
  refine s_imul hK dX7_cell_20 ?_
  refine s_iload1 hK dX7_cell_21 ?_
  refine s_iadd hK dX7_cell_22 ?_
  rw [show (16 : Int32) * nI y + nI x = nI (16 * y + x) from by rw [show (16 : Int32) = nI 16 from rfl, pk_mul, nI_add]]
  refine s_istore4 hK dX7_cell_23 ?_
  refine s_iload3 hK dX7_cell_25 ?_
  refine s_tableIn (tgt := 94) hK dX7_cell_26 (by decide) (by decide) (off := 68) (by decide) (by decide) ?_
  refine s_aload0 hK dX7_cell_94 ?_
  refine s_getr (ci := 7) (k := 1) hK rfl rfl i_7 (by decide +kernel) dX7_cell_95 (by decide) (by decide) (by decide) rfl rfl (rf_7_1 rfl) ?_
  refine s_sipush (v := 192) hK dX7_cell_98 (by decide) ?_
  refine s_iload4 hK dX7_cell_101 ?_
  refine s_iadd hK dX7_cell_103 ?_
  rw [show (192 : Int32) = nI 192 from rfl, nI_add]
  refine s_iald hK rfl (show vp_in _ 2374 from vp_in_nI (show 192 + (16 * y + x) < 2374 by omega) (by decide)) dX7_cell_104 ?_
  rw [cl_nI (show 192 + (16 * y + x) < 2 ^ 31 by omega)]
  refine s_iconst (v := 1) hK dX7_cell_105 (by decide) ?_
  refine s_icmp_ne (tgt := 123) hK dX7_cell_106 (by decide) (fun c_106 => ?_) (fun c_106 => ?_)
  · refine s_iconst (v := 0) hK dX7_cell_123 (by decide) ?_
    exact s_iret hK hE dX7_cell_124 rfl (by simp [c_106]) (rfl)
  · refine s_aload0 hK dX7_cell_109 ?_
    refine s_getr (ci := 7) (k := 1) hK rfl rfl i_7 (by decide +kernel) dX7_cell_110 (by decide) (by decide) (by decide) rfl rfl (rf_7_1 rfl) ?_
    refine s_sipush (v := 384) hK dX7_cell_113 (by decide) ?_
    refine s_iload4 hK dX7_cell_116 ?_
    refine s_iadd hK dX7_cell_118 ?_
    rw [show (384 : Int32) = nI 384 from rfl, nI_add]
    refine s_iald hK rfl (show vp_in _ 2374 from vp_in_nI (show 384 + (16 * y + x) < 2374 by omega) (by decide)) dX7_cell_119 ?_
    rw [cl_nI (show 384 + (16 * y + x) < 2 ^ 31 by omega)]
    refine s_goto (tgt := 124) hK dX7_cell_120 (by decide) ?_
    exact s_iret hK hE dX7_cell_124 rfl (by simp [c_106]) (rfl)
set_option maxHeartbeats 4000000 in
set_option maxRecDepth 100000 in
theorem zX7_cell_4 {g : aG} {l : Launch} {σ : aS} (h0 : σ 700 0 = 0) (x y : Nat) (hx : x < 16) (hy : y < 12) : CN g l yX7_cell wsX7_cell 2 43 [.ref 700, .int (nI x), .int (nI y), .int 4] σ (some (.int (b2 (wM σ (16 * y + x))))) σ := by
  refine cn_of (cc := cX7_cell) (nL := 5) (ret := (some .int)) (own := RX7) (by decide +kernel) rfl rfl (Nat.le_of_ble_eq_true rfl) (fun K hg hl hK hE => ?_)
  subst hg; subst hl
  have i_7 : ∀ w ∈ u_ws RX7 TX7 15, w ∈ wsX7_cell := by decide +kernel
  show AW K 0 [some (.ref 700), some (.int (nI x)), some (.int (nI y)), some (.int 4), none] [] σ
  refine s_aload0 hK dX7_cell_0 ?_
  refine s_iconst (v := 0) hK dX7_cell_1 (by decide) ?_
  refine s_putg (ci := 7) (k := 0) (ty := .int) hK rfl rfl i_7 (by decide +kernel) dX7_cell_2 tyX7_ok nmX7 (by decide) (by decide) (by decide) rfl rfl rfl (by decide +kernel) rfl rfl ?_
  rw [thr h0]
  refine s_iload1 hK dX7_cell_5 ?_
  refine s_iload2 hK dX7_cell_6 ?_
  refine s_callS hK mdX7_isCell (zX7_isCell _ _) gX7_cell_X7_isCell rfl ⟨Nat.le_of_ble_eq_true rfl, Nat.le_of_ble_eq_true rfl⟩ rfl (Nat.le_of_ble_eq_true rfl) dX7_cell_7 ?_
  try dsimp only [Option.toList, List.cons_append, List.nil_append]
  refine s_if_ne (tgt := 17) hK dX7_cell_10 (by decide) (fun c_10 => ?_) (fun c_10 => absurd c_10 (b2y' (pl_nI hx hy)))
  refine s_bipush (v := 16) hK dX7_cell_17 (by decide) ?_
  refine s_iload2 hK dX7_cell_19 ?_
  refine s_imul hK dX7_cell_20 ?_
  refine s_iload1 hK dX7_cell_21 ?_
  refine s_iadd hK dX7_cell_22 ?_
  rw [show (16 : Int32) * nI y + nI x = nI (16 * y + x) from by rw [show (16 : Int32) = nI 16 from rfl, pk_mul, nI_add]]
  refine s_istore4 hK dX7_cell_23 ?_
  refine s_iload3 hK dX7_cell_25 ?_
  refine s_tableIn (tgt := 125) hK dX7_cell_26 (by decide) (by decide) (off := 99) (by decide) (by decide) ?_
  refine s_aload0 hK dX7_cell_125 ?_
  refine s_iload4 hK dX7_cell_126 ?_
  refine s_callV (ci := 7) hK mdX7_isWorn (zX7_isWorn (16 * y + x) (by omega)) gX7_cell_X7_isWorn rfl rfl rfl (by decide) rfl ⟨Nat.le_of_ble_eq_true rfl, Nat.le_of_ble_eq_true rfl⟩ rfl (Nat.le_of_ble_eq_true rfl) dX7_cell_128 ?_
  try dsimp only [Option.toList, List.cons_append, List.nil_append]
  refine s_if_eq (tgt := 138) hK dX7_cell_131 (by decide) (fun c_131 => ?_) (fun c_131 => ?_)
  · refine s_iconst (v := 0) hK dX7_cell_138 (by decide) ?_
    exact s_iret hK hE dX7_cell_139 rfl (by first | (rw [b2y c_131]; rfl) | (rw [b2n c_131]; rfl)) (rfl)
  · refine s_iconst (v := 1) hK dX7_cell_134 (by decide) ?_
    refine s_goto (tgt := 139) hK dX7_cell_135 (by decide) ?_
    exact s_iret hK hE dX7_cell_139 rfl (by first | (rw [b2y c_131]; rfl) | (rw [b2n c_131]; rfl)) (rfl)
set_option maxHeartbeats 4000000 in
set_option maxRecDepth 100000 in
theorem zX7_cell_out {g : aG} {l : Launch} {σ : aS} (h0 : σ 700 0 = 0) (x y : Nat) (a : Int32) (hx : x < 16) (hy : y < 12) (h : a.toInt < 0 ∨ 4 < a.toInt) : CN g l yX7_cell wsX7_cell 2 43 [.ref 700, .int (nI x), .int (nI y), .int a] σ (some (.int (-1001))) σ := by
  refine cn_of (cc := cX7_cell) (nL := 5) (ret := (some .int)) (own := RX7) (by decide +kernel) rfl rfl (Nat.le_of_ble_eq_true rfl) (fun K hg hl hK hE => ?_)
  subst hg; subst hl
  have i_7 : ∀ w ∈ u_ws RX7 TX7 15, w ∈ wsX7_cell := by decide +kernel
  show AW K 0 [some (.ref 700), some (.int (nI x)), some (.int (nI y)), some (.int a), none] [] σ
  refine s_aload0 hK dX7_cell_0 ?_
  refine s_iconst (v := 0) hK dX7_cell_1 (by decide) ?_
  refine s_putg (ci := 7) (k := 0) (ty := .int) hK rfl rfl i_7 (by decide +kernel) dX7_cell_2 tyX7_ok nmX7 (by decide) (by decide) (by decide) rfl rfl rfl (by decide +kernel) rfl rfl ?_
  rw [thr h0]
  refine s_iload1 hK dX7_cell_5 ?_
  refine s_iload2 hK dX7_cell_6 ?_
  refine s_callS hK mdX7_isCell (zX7_isCell _ _) gX7_cell_X7_isCell rfl ⟨Nat.le_of_ble_eq_true rfl, Nat.le_of_ble_eq_true rfl⟩ rfl (Nat.le_of_ble_eq_true rfl) dX7_cell_7 ?_
  try dsimp only [Option.toList, List.cons_append, List.nil_append]
  refine s_if_ne (tgt := 17) hK dX7_cell_10 (by decide) (fun c_10 => ?_) (fun c_10 => absurd c_10 (b2y' (pl_nI hx hy)))
  refine s_bipush (v := 16) hK dX7_cell_17 (by decide) ?_
  refine s_iload2 hK dX7_cell_19 ?_
  refine s_imul hK dX7_cell_20 ?_
  refine s_iload1 hK dX7_cell_21 ?_
  refine s_iadd hK dX7_cell_22 ?_
  refine s_istore4 hK dX7_cell_23 ?_
  refine s_iload3 hK dX7_cell_25 ?_
  refine s_tableOut (tgt := 140) hK dX7_cell_26 h (by decide) ?_
  refine s_sipush (v := -1001) hK dX7_cell_140 (by decide) ?_
  exact s_iret hK hE dX7_cell_143 rfl (rfl) (rfl)
set_option maxHeartbeats 4000000 in
set_option maxRecDepth 100000 in
theorem zX7_printed_bad {g : aG} {l : Launch} {σ : aS} (h0 : σ 700 0 = 0) (x y a b : Int32) (hbad : (pl x y && sh a b) = false) : CN g l yX7_printed wsX7_printed 4 91 [.ref 700, .int x, .int y, .int a, .int b] σ (some (.int (-1001))) σ := by
  refine cn_of (cc := cX7_printed) (nL := 5) (ret := (some .int)) (own := RX7) (by decide +kernel) rfl rfl (Nat.le_of_ble_eq_true rfl) (fun K hg hl hK hE => ?_)
  subst hg; subst hl
  have i_7 : ∀ w ∈ u_ws RX7 TX7 15, w ∈ wsX7_printed := by decide +kernel
  show AW K 0 [some (.ref 700), some (.int x), some (.int y), some (.int a), some (.int b)] [] σ
  refine s_aload0 hK dX7_printed_0 ?_
  refine s_iconst (v := 0) hK dX7_printed_1 (by decide) ?_
  refine s_putg (ci := 7) (k := 0) (ty := .int) hK rfl rfl i_7 (by decide +kernel) dX7_printed_2 tyX7_ok nmX7 (by decide) (by decide) (by decide) rfl rfl rfl (by decide +kernel) rfl rfl ?_
  rw [thr h0]
  refine s_iload1 hK dX7_printed_5 ?_
  refine s_iload2 hK dX7_printed_6 ?_
  refine s_callS hK mdX7_isCell (zX7_isCell _ _) gX7_printed_X7_isCell rfl ⟨Nat.le_of_ble_eq_true rfl, Nat.le_of_ble_eq_true rfl⟩ rfl (Nat.le_of_ble_eq_true rfl) dX7_printed_7 ?_
  try dsimp only [Option.toList, List.cons_append, List.nil_append]
  refine s_if_eq (tgt := 22) hK dX7_printed_10 (by decide) (fun c_10 => ?_) (fun c_10 => ?_)
  · refine s_sipush (v := -1001) hK dX7_printed_22 (by decide) ?_
    exact s_iret hK hE dX7_printed_25 rfl (rfl) (rfl)
  · refine s_iload3 hK dX7_printed_13 ?_
    refine s_iload4 hK dX7_printed_14 ?_
    refine s_callS hK mdX7_isShift (zX7_isShift _ _) gX7_printed_X7_isShift rfl ⟨Nat.le_of_ble_eq_true rfl, Nat.le_of_ble_eq_true rfl⟩ rfl (Nat.le_of_ble_eq_true rfl) dX7_printed_16 ?_
    try dsimp only [Option.toList, List.cons_append, List.nil_append]
    refine s_if_ne (tgt := 26) hK dX7_printed_19 (by decide) (fun c_19 => ?_) (fun c_19 => ?_)
    · exact absurd hbad (by simp [b2n c_10, b2n c_19])
    · refine s_sipush (v := -1001) hK dX7_printed_22 (by decide) ?_
      exact s_iret hK hE dX7_printed_25 rfl (rfl) (rfl)
set_option maxHeartbeats 4000000 in
set_option maxRecDepth 100000 in
theorem zX7_printed_ok {g : aG} {l : Launch} {σ : aS} (h0 : σ 700 0 = 0) (x y : Nat) (a b : Int32) (hx : x < 16) (hy : y < 12) (hs_ : sh a b = true) : CN g l yX7_printed wsX7_printed 4 91 [.ref 700, .int (nI x), .int (nI y), .int a, .int b] σ (some (.int (lkM (lY σ) (16 * y + x) a b))) (lY σ) := by
  refine cn_of (cc := cX7_printed) (nL := 5) (ret := (some .int)) (own := RX7) (by decide +kernel) rfl rfl (Nat.le_of_ble_eq_true rfl) (fun K hg hl hK hE => ?_)
  subst hg; subst hl
  have i_7 : ∀ w ∈ u_ws RX7 TX7 15, w ∈ wsX7_printed := by decide +kernel
  show AW K 0 [some (.ref 700), some (.int (nI x)), some (.int (nI y)), some (.int a), some (.int b)] [] σ
  refine s_aload0 hK dX7_printed_0 ?_
  refine s_iconst (v := 0) hK dX7_printed_1 (by decide) ?_
  refine s_putg (ci := 7) (k := 0) (ty := .int) hK rfl rfl i_7 (by decide +kernel) dX7_printed_2 tyX7_ok nmX7 (by decide) (by decide) (by decide) rfl rfl rfl (by decide +kernel) rfl rfl ?_
  rw [thr h0]
  refine s_iload1 hK dX7_printed_5 ?_
  refine s_iload2 hK dX7_printed_6 ?_
  refine s_callS hK mdX7_isCell (zX7_isCell _ _) gX7_printed_X7_isCell rfl ⟨Nat.le_of_ble_eq_true rfl, Nat.le_of_ble_eq_true rfl⟩ rfl (Nat.le_of_ble_eq_true rfl) dX7_printed_7 ?_
  try dsimp only [Option.toList, List.cons_append, List.nil_append]
  refine s_if_eq (tgt := 22) hK dX7_printed_10 (by decide) (fun c_10 => absurd c_10 (b2y' (pl_nI hx hy))) (fun c_10 => ?_)
  refine s_iload3 hK dX7_printed_13 ?_
  refine s_iload4 hK dX7_printed_14 ?_
  refine s_callS hK mdX7_isShift (zX7_isShift _ _) gX7_printed_X7_isShift rfl ⟨Nat.le_of_ble_eq_true rfl, Nat.le_of_ble_eq_true rfl⟩ rfl (Nat.le_of_ble_eq_true rfl) dX7_printed_16 ?_
  try dsimp only [Option.toList, List.cons_append, List.nil_append]
  refine s_if_ne (tgt := 26) hK dX7_printed_19 (by decide) (fun c_19 => ?_) (fun c_19 => absurd c_19 (b2y' hs_))
  refine s_aload0 hK dX7_printed_26 ?_
  refine s_callV (ci := 7) hK mdX7_lay (zX7_lay) gX7_printed_X7_lay rfl rfl rfl (by decide) rfl ⟨Nat.le_of_ble_eq_true rfl, Nat.le_of_ble_eq_true rfl⟩ rfl (Nat.le_of_ble_eq_true rfl) dX7_printed_27 ?_
  try dsimp only [Option.toList, List.cons_append, List.nil_append]
  refine s_aload0 hK dX7_printed_30 ?_
  refine s_iload1 hK dX7_printed_31 ?_
  refine s_iload2 hK dX7_printed_32 ?_
  refine s_iload3 hK dX7_printed_33 ?_
  refine s_iload4 hK dX7_printed_34 ?_
  refine s_callV (ci := 7) hK mdX7_look (zX7_look x y a b hx hy) gX7_printed_X7_look rfl rfl rfl (by decide) rfl ⟨Nat.le_of_ble_eq_true rfl, Nat.le_of_ble_eq_true rfl⟩ rfl (Nat.le_of_ble_eq_true rfl) dX7_printed_36 ?_
  try dsimp only [Option.toList, List.cons_append, List.nil_append]
  exact s_iret hK hE dX7_printed_39 rfl (rfl) (rfl)
set_option maxHeartbeats 4000000 in
set_option maxRecDepth 100000 in
theorem zX7_proof_bad {g : aG} {l : Launch} {σ : aS} (h0 : σ 700 0 = 0) (b a : Int32) (hbad : ¬ b < 0 → wi a 0 5 = false) : CN g l yX7_proof wsX7_proof 1 22 [.ref 700, .int b, .int a] σ (some (.int (-1001))) σ := by
  refine cn_of (cc := cX7_proof) (nL := 5) (ret := (some .int)) (own := RX7) (by decide +kernel) rfl rfl (Nat.le_of_ble_eq_true rfl) (fun K hg hl hK hE => ?_)
  subst hg; subst hl
  have i_7 : ∀ w ∈ u_ws RX7 TX7 15, w ∈ wsX7_proof := by decide +kernel
  show AW K 0 [some (.ref 700), some (.int b), some (.int a), none, none] [] σ
  refine s_aload0 hK dX7_proof_0 ?_
  refine s_iconst (v := 0) hK dX7_proof_1 (by decide) ?_
  refine s_putg (ci := 7) (k := 0) (ty := .int) hK rfl rfl i_7 (by decide +kernel) dX7_proof_2 tyX7_ok nmX7 (by decide) (by decide) (by decide) rfl rfl rfl (by decide +kernel) rfl rfl ?_
  rw [thr h0]
  refine s_iload1 hK dX7_proof_5 ?_
  refine s_if_lt (tgt := 18) hK dX7_proof_6 (by decide) (fun c_6 => ?_) (fun c_6 => ?_)
  · refine s_sipush (v := -1001) hK dX7_proof_18 (by decide) ?_
    exact s_iret hK hE dX7_proof_21 rfl (rfl) (rfl)
  · refine s_iload2 hK dX7_proof_9 ?_
    refine s_iconst (v := 0) hK dX7_proof_10 (by decide) ?_
    refine s_iconst (v := 5) hK dX7_proof_11 (by decide) ?_
    refine s_callS hK mdX7_in (zX7_in _ _ _) gX7_proof_X7_in rfl ⟨Nat.le_of_ble_eq_true rfl, Nat.le_of_ble_eq_true rfl⟩ rfl (Nat.le_of_ble_eq_true rfl) dX7_proof_12 ?_
    try dsimp only [Option.toList, List.cons_append, List.nil_append]
    refine s_if_ne (tgt := 22) hK dX7_proof_15 (by decide) (fun c_15 => ?_) (fun c_15 => ?_)
    · exact absurd (hbad c_6) (by simp [b2n c_15])
    · refine s_sipush (v := -1001) hK dX7_proof_18 (by decide) ?_
      exact s_iret hK hE dX7_proof_21 rfl (rfl) (rfl)
set_option maxHeartbeats 4000000 in
set_option maxRecDepth 100000 in
theorem zX7_proof_none {g : aG} {l : Launch} {σ : aS} (h0 : σ 700 0 = 0) (b a : Int32) (hb : ¬ b < 0) (ha : wi a 0 5 = true) (h : ¬ 12 ≤ b → ¬ b < σ 701 775) : CN g l yX7_proof wsX7_proof 1 22 [.ref 700, .int b, .int a] σ (some (.int (-1009))) σ := by
  refine cn_of (cc := cX7_proof) (nL := 5) (ret := (some .int)) (own := RX7) (by decide +kernel) rfl rfl (Nat.le_of_ble_eq_true rfl) (fun K hg hl hK hE => ?_)
  subst hg; subst hl
  have i_7 : ∀ w ∈ u_ws RX7 TX7 15, w ∈ wsX7_proof := by decide +kernel
  show AW K 0 [some (.ref 700), some (.int b), some (.int a), none, none] [] σ
  refine s_aload0 hK dX7_proof_0 ?_
  refine s_iconst (v := 0) hK dX7_proof_1 (by decide) ?_
  refine s_putg (ci := 7) (k := 0) (ty := .int) hK rfl rfl i_7 (by decide +kernel) dX7_proof_2 tyX7_ok nmX7 (by decide) (by decide) (by decide) rfl rfl rfl (by decide +kernel) rfl rfl ?_
  rw [thr h0]
  refine s_iload1 hK dX7_proof_5 ?_
  refine s_if_lt (tgt := 18) hK dX7_proof_6 (by decide) (fun c_6 => absurd c_6 hb) (fun c_6 => ?_)
  refine s_iload2 hK dX7_proof_9 ?_
  refine s_iconst (v := 0) hK dX7_proof_10 (by decide) ?_
  refine s_iconst (v := 5) hK dX7_proof_11 (by decide) ?_
  refine s_callS hK mdX7_in (zX7_in _ _ _) gX7_proof_X7_in rfl ⟨Nat.le_of_ble_eq_true rfl, Nat.le_of_ble_eq_true rfl⟩ rfl (Nat.le_of_ble_eq_true rfl) dX7_proof_12 ?_
  try dsimp only [Option.toList, List.cons_append, List.nil_append]
  refine s_if_ne (tgt := 22) hK dX7_proof_15 (by decide) (fun c_15 => ?_) (fun c_15 => absurd c_15 (b2y' ha))
  refine s_iload1 hK dX7_proof_22 ?_
  refine s_bipush (v := 12) hK dX7_proof_23 (by decide) ?_
  refine s_icmp_ge (tgt := 40) hK dX7_proof_25 (by decide) (fun c_25 => ?_) (fun c_25 => ?_)
  · refine s_sipush (v := -1009) hK dX7_proof_40 (by decide) ?_
    exact s_iret hK hE dX7_proof_43 rfl (rfl) (rfl)
  · refine s_iload1 hK dX7_proof_28 ?_
    refine s_aload0 hK dX7_proof_29 ?_
    refine s_getr (ci := 7) (k := 1) hK rfl rfl i_7 (by decide +kernel) dX7_proof_30 (by decide) (by decide) (by decide) rfl rfl (rf_7_1 rfl) ?_
    refine s_sipush (v := 775) hK dX7_proof_33 (by decide) ?_
    refine s_ialdv (v := σ 701 775) (rfl) hK rfl (show vp_in _ 2374 from vp_in_nI (n := 775) (by decide) (by decide)) dX7_proof_36 ?_
    refine s_icmp_lt (tgt := 44) hK dX7_proof_37 (by decide) (fun c_37 => ?_) (fun c_37 => ?_)
    · exact absurd c_37 (h c_25)
    · refine s_sipush (v := -1009) hK dX7_proof_40 (by decide) ?_
      exact s_iret hK hE dX7_proof_43 rfl (rfl) (rfl)
set_option maxHeartbeats 4000000 in
set_option maxRecDepth 100000 in
theorem zX7_proof_ok {g : aG} {l : Launch} {σ : aS} (h0 : σ 700 0 = 0) (pn bk wh : Nat) (hp : pn ≤ 5000) (h5 : σ 701 775 = nI pn) (hbk : bk < 12) (hlt : bk < pn) (hwh : wh < 6) : CN g l yX7_proof wsX7_proof 1 22 [.ref 700, .int (nI bk), .int (nI wh)] σ (some (.int (if wh = 0 then nI (pn - bk) else if wh < 3 then σ 701 (776 + 5 * ((pn - bk - 1) % 12) + wh - 1) + 8 else σ 701 (776 + 5 * ((pn - bk - 1) % 12) + wh - 1)))) σ := by
  refine cn_of (cc := cX7_proof) (nL := 5) (ret := (some .int)) (own := RX7) (by decide +kernel) rfl rfl (Nat.le_of_ble_eq_true rfl) (fun K hg hl hK hE => ?_)
  subst hg; subst hl
  have i_7 : ∀ w ∈ u_ws RX7 TX7 15, w ∈ wsX7_proof := by decide +kernel
  show AW K 0 [some (.ref 700), some (.int (nI bk)), some (.int (nI wh)), none, none] [] σ
  refine s_aload0 hK dX7_proof_0 ?_
  refine s_iconst (v := 0) hK dX7_proof_1 (by decide) ?_
  refine s_putg (ci := 7) (k := 0) (ty := .int) hK rfl rfl i_7 (by decide +kernel) dX7_proof_2 tyX7_ok nmX7 (by decide) (by decide) (by decide) rfl rfl rfl (by decide +kernel) rfl rfl ?_
  rw [thr h0]
  refine s_iload1 hK dX7_proof_5 ?_
  refine s_if_lt (tgt := 18) hK dX7_proof_6 (by decide) (fun c_6 => absurd c_6 (nI_pos (by omega))) (fun c_6 => ?_)
  refine s_iload2 hK dX7_proof_9 ?_
  refine s_iconst (v := 0) hK dX7_proof_10 (by decide) ?_
  refine s_iconst (v := 5) hK dX7_proof_11 (by decide) ?_
  refine s_callS hK mdX7_in (zX7_in _ _ _) gX7_proof_X7_in rfl ⟨Nat.le_of_ble_eq_true rfl, Nat.le_of_ble_eq_true rfl⟩ rfl (Nat.le_of_ble_eq_true rfl) dX7_proof_12 ?_
  try dsimp only [Option.toList, List.cons_append, List.nil_append]
  refine s_if_ne (tgt := 22) hK dX7_proof_15 (by decide) (fun c_15 => ?_) (fun c_15 => absurd c_15 (b2y' (wi_nI (N := 5) (by omega) (by decide))))
  refine s_iload1 hK dX7_proof_22 ?_
  refine s_bipush (v := 12) hK dX7_proof_23 (by decide) ?_
  refine s_icmp_ge (tgt := 40) hK dX7_proof_25 (by decide) (fun c_25 => absurd c_25 (nI_ge (b := 12) hbk (by decide))) (fun c_25 => ?_)
  refine s_iload1 hK dX7_proof_28 ?_
  refine s_aload0 hK dX7_proof_29 ?_
  refine s_getr (ci := 7) (k := 1) hK rfl rfl i_7 (by decide +kernel) dX7_proof_30 (by decide) (by decide) (by decide) rfl rfl (rf_7_1 rfl) ?_
  refine s_sipush (v := 775) hK dX7_proof_33 (by decide) ?_
  refine s_ialdv (v := nI pn) (h5) hK rfl (show vp_in _ 2374 from vp_in_nI (n := 775) (by decide) (by decide)) dX7_proof_36 ?_
  refine s_icmp_lt (tgt := 44) hK dX7_proof_37 (by decide) (fun c_37 => ?_) (fun c_37 => absurd c_37 (fun e => e (nI_lt hlt (by omega))))
  refine s_aload0 hK dX7_proof_44 ?_
  refine s_getr (ci := 7) (k := 1) hK rfl rfl i_7 (by decide +kernel) dX7_proof_45 (by decide) (by decide) (by decide) rfl rfl (rf_7_1 rfl) ?_
  refine s_sipush (v := 775) hK dX7_proof_48 (by decide) ?_
  refine s_ialdv (v := nI pn) (h5) hK rfl (show vp_in _ 2374 from vp_in_nI (n := 775) (by decide) (by decide)) dX7_proof_51 ?_
  refine s_iload1 hK dX7_proof_52 ?_
  refine s_isub hK dX7_proof_53 ?_
  rw [pk_sub (by omega)]
  refine s_istore3 hK dX7_proof_54 ?_
  refine s_iload2 hK dX7_proof_55 ?_
  refine s_if_ne (tgt := 61) hK dX7_proof_56 (by decide) (fun c_56 => ?_) (fun c_56 => ?_)
  · refine s_aload0 hK dX7_proof_61 ?_
    refine s_getr (ci := 7) (k := 1) hK rfl rfl i_7 (by decide +kernel) dX7_proof_62 (by decide) (by decide) (by decide) rfl rfl (rf_7_1 rfl) ?_
    refine s_sipush (v := 776) hK dX7_proof_65 (by decide) ?_
    refine s_iconst (v := 5) hK dX7_proof_68 (by decide) ?_
    refine s_iload3 hK dX7_proof_69 ?_
    refine s_iconst (v := 1) hK dX7_proof_70 (by decide) ?_
    refine s_isub hK dX7_proof_71 ?_
    rw [show nI (pn - bk) - 1 = nI (pn - bk - 1) from by rw [show (1 : Int32) = nI 1 from rfl, pk_sub (by omega)]]
    refine s_bipush (v := 12) hK dX7_proof_72 (by decide) ?_
    refine s_irem hK dX7_proof_74 (by decide) ?_
    refine s_imul hK dX7_proof_75 ?_
    refine s_iadd hK dX7_proof_76 ?_
    rw [show nI (pn - bk - 1) - nI (pn - bk - 1) / 12 * 12 = nI ((pn - bk - 1) % 12) from rem_nI 12 (by omega) (by decide) (by decide), show (5 : Int32) = nI 5 from rfl, show (776 : Int32) = nI 776 from rfl, pk_mul, nI_add]
    refine s_iload2 hK dX7_proof_77 ?_
    refine s_iadd hK dX7_proof_78 ?_
    rw [nI_add]
    refine s_iconst (v := 1) hK dX7_proof_79 (by decide) ?_
    refine s_isub hK dX7_proof_80 ?_
    have hw1 : 0 < wh := Nat.pos_of_ne_zero (fun e => c_56 (by rw [e]; rfl))
    rw [show nI (776 + 5 * ((pn - bk - 1) % 12) + wh) - 1 = nI (776 + 5 * ((pn - bk - 1) % 12) + wh - 1) from by rw [show (1 : Int32) = nI 1 from rfl, pk_sub (by omega)]]
    refine s_iald hK rfl (show vp_in _ 2374 from vp_in_nI (show 776 + 5 * ((pn - bk - 1) % 12) + wh - 1 < 2374 by omega) (by decide)) dX7_proof_81 ?_
    rw [cl_nI (show 776 + 5 * ((pn - bk - 1) % 12) + wh - 1 < 2 ^ 31 by omega)]
    refine s_istore4 hK dX7_proof_82 ?_
    refine s_iload2 hK dX7_proof_84 ?_
    refine s_iconst (v := 3) hK dX7_proof_85 (by decide) ?_
    refine s_icmp_ge (tgt := 97) hK dX7_proof_86 (by decide) (fun c_86 => ?_) (fun c_86 => ?_)
    · refine s_iload4 hK dX7_proof_97 ?_
      exact s_iret hK hE dX7_proof_99 rfl (by first | (rw [if_pos ((nI_eq (b := 0) (by omega) (by decide)).mp c_56)]; done) | (rw [if_neg (fun e => c_56 (by rw [e]; rfl)), if_neg (fun e => absurd (nI_lt (b := 3) e (by decide)) (fa_of_nle2 c_86))]; done) | (rw [if_neg (fun e => c_56 (by rw [e]; rfl)), if_pos (by rcases Nat.lt_or_ge wh 3 with z | z; exact z; exact absurd (nI_le (a := 3) z (by omega)) c_86)]; done)) (rfl)
    · refine s_iload4 hK dX7_proof_89 ?_
      refine s_bipush (v := 8) hK dX7_proof_91 (by decide) ?_
      refine s_iadd hK dX7_proof_93 ?_
      refine s_goto (tgt := 99) hK dX7_proof_94 (by decide) ?_
      exact s_iret hK hE dX7_proof_99 rfl (by first | (rw [if_pos ((nI_eq (b := 0) (by omega) (by decide)).mp c_56)]; done) | (rw [if_neg (fun e => c_56 (by rw [e]; rfl)), if_neg (fun e => absurd (nI_lt (b := 3) e (by decide)) (fa_of_nle2 c_86))]; done) | (rw [if_neg (fun e => c_56 (by rw [e]; rfl)), if_pos (by rcases Nat.lt_or_ge wh 3 with z | z; exact z; exact absurd (nI_le (a := 3) z (by omega)) c_86)]; done)) (rfl)
  · refine s_iload3 hK dX7_proof_59 ?_
    exact s_iret hK hE dX7_proof_60 rfl (by first | (rw [if_pos ((nI_eq (b := 0) (by omega) (by decide)).mp c_56)]; done) | (rw [if_neg (fun e => c_56 (by rw [e]; rfl)), if_neg (fun e => absurd (nI_lt (b := 3) e (by decide)) (fa_of_nle2 c_86))]; done) | (rw [if_neg (fun e => c_56 (by rw [e]; rfl)), if_pos (by rcases Nat.lt_or_ge wh 3 with z | z; exact z; exact absurd (nI_le (a := 3) z (by omega)) c_86)]; done)) (rfl)
set_option maxHeartbeats 4000000 in
set_option maxRecDepth 100000 in
theorem zX7_faults_bad {g : aG} {l : Launch} {σ : aS} (h0 : σ 700 0 = 0) (a b c : Int32) (hbad : (sh a b && wi c 0 2) = false) : CN g l yX7_faults wsX7_faults 5 117 [.ref 700, .int a, .int b, .int c] σ (some (.int (-1001))) σ := by
  refine cn_of (cc := cX7_faults) (nL := 4) (ret := (some .int)) (own := RX7) (by decide +kernel) rfl rfl (Nat.le_of_ble_eq_true rfl) (fun K hg hl hK hE => ?_)
  subst hg; subst hl
  have i_7 : ∀ w ∈ u_ws RX7 TX7 15, w ∈ wsX7_faults := by decide +kernel
  show AW K 0 [some (.ref 700), some (.int a), some (.int b), some (.int c)] [] σ
  refine s_aload0 hK dX7_faults_0 ?_
  refine s_iconst (v := 0) hK dX7_faults_1 (by decide) ?_
  refine s_putg (ci := 7) (k := 0) (ty := .int) hK rfl rfl i_7 (by decide +kernel) dX7_faults_2 tyX7_ok nmX7 (by decide) (by decide) (by decide) rfl rfl rfl (by decide +kernel) rfl rfl ?_
  rw [thr h0]
  refine s_iload1 hK dX7_faults_5 ?_
  refine s_iload2 hK dX7_faults_6 ?_
  refine s_callS hK mdX7_isShift (zX7_isShift _ _) gX7_faults_X7_isShift rfl ⟨Nat.le_of_ble_eq_true rfl, Nat.le_of_ble_eq_true rfl⟩ rfl (Nat.le_of_ble_eq_true rfl) dX7_faults_7 ?_
  try dsimp only [Option.toList, List.cons_append, List.nil_append]
  refine s_if_eq (tgt := 22) hK dX7_faults_10 (by decide) (fun c_10 => ?_) (fun c_10 => ?_)
  · refine s_sipush (v := -1001) hK dX7_faults_22 (by decide) ?_
    exact s_iret hK hE dX7_faults_25 rfl (rfl) (rfl)
  · refine s_iload3 hK dX7_faults_13 ?_
    refine s_iconst (v := 0) hK dX7_faults_14 (by decide) ?_
    refine s_iconst (v := 2) hK dX7_faults_15 (by decide) ?_
    refine s_callS hK mdX7_in (zX7_in _ _ _) gX7_faults_X7_in rfl ⟨Nat.le_of_ble_eq_true rfl, Nat.le_of_ble_eq_true rfl⟩ rfl (Nat.le_of_ble_eq_true rfl) dX7_faults_16 ?_
    try dsimp only [Option.toList, List.cons_append, List.nil_append]
    refine s_if_ne (tgt := 26) hK dX7_faults_19 (by decide) (fun c_19 => ?_) (fun c_19 => ?_)
    · exact absurd hbad (by simp [b2n c_10, b2n c_19])
    · refine s_sipush (v := -1001) hK dX7_faults_22 (by decide) ?_
      exact s_iret hK hE dX7_faults_25 rfl (rfl) (rfl)
set_option maxHeartbeats 4000000 in
set_option maxRecDepth 100000 in
theorem zX7_faults_ok {g : aG} {l : Launch} {σ : aS} (h0 : σ 700 0 = 0) (a b c : Int32) (hs_ : sh a b = true) (hc : wi c 0 2 = true) : CN g l yX7_faults wsX7_faults 5 117 [.ref 700, .int a, .int b, .int c] σ (some (.int (if c = 0 then nI (ct (cG (lY σ) a b)) else if c = 1 then nI (ct (cS (lY σ) a b)) else nI (ct (cL_ (lY σ) a b))))) (kK (lY σ) a b) := by
  refine cn_of (cc := cX7_faults) (nL := 4) (ret := (some .int)) (own := RX7) (by decide +kernel) rfl rfl (Nat.le_of_ble_eq_true rfl) (fun K hg hl hK hE => ?_)
  subst hg; subst hl
  have i_7 : ∀ w ∈ u_ws RX7 TX7 15, w ∈ wsX7_faults := by decide +kernel
  show AW K 0 [some (.ref 700), some (.int a), some (.int b), some (.int c)] [] σ
  refine s_aload0 hK dX7_faults_0 ?_
  refine s_iconst (v := 0) hK dX7_faults_1 (by decide) ?_
  refine s_putg (ci := 7) (k := 0) (ty := .int) hK rfl rfl i_7 (by decide +kernel) dX7_faults_2 tyX7_ok nmX7 (by decide) (by decide) (by decide) rfl rfl rfl (by decide +kernel) rfl rfl ?_
  rw [thr h0]
  refine s_iload1 hK dX7_faults_5 ?_
  refine s_iload2 hK dX7_faults_6 ?_
  refine s_callS hK mdX7_isShift (zX7_isShift _ _) gX7_faults_X7_isShift rfl ⟨Nat.le_of_ble_eq_true rfl, Nat.le_of_ble_eq_true rfl⟩ rfl (Nat.le_of_ble_eq_true rfl) dX7_faults_7 ?_
  try dsimp only [Option.toList, List.cons_append, List.nil_append]
  refine s_if_eq (tgt := 22) hK dX7_faults_10 (by decide) (fun c_10 => absurd c_10 (b2y' hs_)) (fun c_10 => ?_)
  refine s_iload3 hK dX7_faults_13 ?_
  refine s_iconst (v := 0) hK dX7_faults_14 (by decide) ?_
  refine s_iconst (v := 2) hK dX7_faults_15 (by decide) ?_
  refine s_callS hK mdX7_in (zX7_in _ _ _) gX7_faults_X7_in rfl ⟨Nat.le_of_ble_eq_true rfl, Nat.le_of_ble_eq_true rfl⟩ rfl (Nat.le_of_ble_eq_true rfl) dX7_faults_16 ?_
  try dsimp only [Option.toList, List.cons_append, List.nil_append]
  refine s_if_ne (tgt := 26) hK dX7_faults_19 (by decide) (fun c_19 => ?_) (fun c_19 => absurd c_19 (b2y' hc))
  refine s_aload0 hK dX7_faults_26 ?_
  refine s_callV (ci := 7) hK mdX7_lay (zX7_lay) gX7_faults_X7_lay rfl rfl rfl (by decide) rfl ⟨Nat.le_of_ble_eq_true rfl, Nat.le_of_ble_eq_true rfl⟩ rfl (Nat.le_of_ble_eq_true rfl) dX7_faults_27 ?_
  try dsimp only [Option.toList, List.cons_append, List.nil_append]
  refine s_aload0 hK dX7_faults_30 ?_
  refine s_iload1 hK dX7_faults_31 ?_
  refine s_iload2 hK dX7_faults_32 ?_
  refine s_callV (ci := 7) hK mdX7_check (zX7_check a b) gX7_faults_X7_check rfl rfl rfl (by decide) rfl ⟨Nat.le_of_ble_eq_true rfl, Nat.le_of_ble_eq_true rfl⟩ rfl (Nat.le_of_ble_eq_true rfl) dX7_faults_33 ?_
  try dsimp only [Option.toList, List.cons_append, List.nil_append]
  refine s_iload3 hK dX7_faults_36 ?_
  refine s_if_ne (tgt := 47) hK dX7_faults_37 (by decide) (fun c_37 => ?_) (fun c_37 => ?_)
  · refine s_iload3 hK dX7_faults_47 ?_
    refine s_iconst (v := 1) hK dX7_faults_48 (by decide) ?_
    refine s_icmp_ne (tgt := 59) hK dX7_faults_49 (by decide) (fun c_49 => ?_) (fun c_49 => ?_)
    · refine s_aload0 hK dX7_faults_59 ?_
      refine s_getiv (v := nI (ct (cL_ (lY σ) a b))) (kK_10 _ _ _) (ci := 7) (k := 10) hK rfl rfl i_7 (by decide +kernel) dX7_faults_60 (by decide) (by decide) (by decide) rfl rfl ?_
      exact s_iret hK hE dX7_faults_63 rfl (by first | (simp [c_37]; done) | (simp [c_37, c_49]; done)) (rfl)
    · refine s_aload0 hK dX7_faults_52 ?_
      refine s_getiv (v := nI (ct (cS (lY σ) a b))) (kK_9 _ _ _) (ci := 7) (k := 9) hK rfl rfl i_7 (by decide +kernel) dX7_faults_53 (by decide) (by decide) (by decide) rfl rfl ?_
      refine s_goto (tgt := 63) hK dX7_faults_56 (by decide) ?_
      exact s_iret hK hE dX7_faults_63 rfl (by first | (simp [c_37]; done) | (simp [c_37, c_49]; done)) (rfl)
  · refine s_aload0 hK dX7_faults_40 ?_
    refine s_getiv (v := nI (ct (cG (lY σ) a b))) (kK_8 _ _ _) (ci := 7) (k := 8) hK rfl rfl i_7 (by decide +kernel) dX7_faults_41 (by decide) (by decide) (by decide) rfl rfl ?_
    refine s_goto (tgt := 63) hK dX7_faults_44 (by decide) ?_
    exact s_iret hK hE dX7_faults_63 rfl (by first | (simp [c_37]; done) | (simp [c_37, c_49]; done)) (rfl)
set_option maxHeartbeats 4000000 in
set_option maxRecDepth 100000 in
theorem zX7_why_bad {g : aG} {l : Launch} {σ : aS} (h0 : σ 700 0 = 0) (x y : Int32) (hbad : pl x y = false) : CN g l yX7_why wsX7_why 4 91 [.ref 700, .int x, .int y] σ (some (.int (-1001))) σ := by
  refine cn_of (cc := cX7_why) (nL := 6) (ret := (some .int)) (own := RX7) (by decide +kernel) rfl rfl (Nat.le_of_ble_eq_true rfl) (fun K hg hl hK hE => ?_)
  subst hg; subst hl
  have i_7 : ∀ w ∈ u_ws RX7 TX7 15, w ∈ wsX7_why := by decide +kernel
  show AW K 0 [some (.ref 700), some (.int x), some (.int y), none, none, none] [] σ
  refine s_aload0 hK dX7_why_0 ?_
  refine s_iconst (v := 0) hK dX7_why_1 (by decide) ?_
  refine s_putg (ci := 7) (k := 0) (ty := .int) hK rfl rfl i_7 (by decide +kernel) dX7_why_2 tyX7_ok nmX7 (by decide) (by decide) (by decide) rfl rfl rfl (by decide +kernel) rfl rfl ?_
  rw [thr h0]
  refine s_iload1 hK dX7_why_5 ?_
  refine s_iload2 hK dX7_why_6 ?_
  refine s_callS hK mdX7_isCell (zX7_isCell _ _) gX7_why_X7_isCell rfl ⟨Nat.le_of_ble_eq_true rfl, Nat.le_of_ble_eq_true rfl⟩ rfl (Nat.le_of_ble_eq_true rfl) dX7_why_7 ?_
  try dsimp only [Option.toList, List.cons_append, List.nil_append]
  refine s_if_ne (tgt := 17) hK dX7_why_10 (by decide) (fun c_10 => absurd c_10 (fun q => q (b2f hbad))) (fun c_10 => ?_)
  refine s_sipush (v := -1001) hK dX7_why_13 (by decide) ?_
  exact s_iret hK hE dX7_why_16 rfl (rfl) (rfl)
set_option maxHeartbeats 4000000 in
set_option maxRecDepth 100000 in
theorem zX7_why_ok {g : aG} {l : Launch} {σ : aS} (h0 : σ 700 0 = 0) (x y : Nat) (hx : x < 16) (hy : y < 12) : CN g l yX7_why wsX7_why 4 91 [.ref 700, .int (nI x), .int (nI y)] σ (some (.int (yM (σ 701 (16 * y + x)) (lkM (lY σ) (16 * y + x) (cNX σ) (cNY σ)) (wM (lY σ) (16 * y + x))))) (lY σ) := by
  refine cn_of (cc := cX7_why) (nL := 6) (ret := (some .int)) (own := RX7) (by decide +kernel) rfl rfl (Nat.le_of_ble_eq_true rfl) (fun K hg hl hK hE => ?_)
  subst hg; subst hl
  have i_7 : ∀ w ∈ u_ws RX7 TX7 15, w ∈ wsX7_why := by decide +kernel
  show AW K 0 [some (.ref 700), some (.int (nI x)), some (.int (nI y)), none, none, none] [] σ
  refine s_aload0 hK dX7_why_0 ?_
  refine s_iconst (v := 0) hK dX7_why_1 (by decide) ?_
  refine s_putg (ci := 7) (k := 0) (ty := .int) hK rfl rfl i_7 (by decide +kernel) dX7_why_2 tyX7_ok nmX7 (by decide) (by decide) (by decide) rfl rfl rfl (by decide +kernel) rfl rfl ?_
  rw [thr h0]
  refine s_iload1 hK dX7_why_5 ?_
  refine s_iload2 hK dX7_why_6 ?_
  refine s_callS hK mdX7_isCell (zX7_isCell _ _) gX7_why_X7_isCell rfl ⟨Nat.le_of_ble_eq_true rfl, Nat.le_of_ble_eq_true rfl⟩ rfl (Nat.le_of_ble_eq_true rfl) dX7_why_7 ?_
  try dsimp only [Option.toList, List.cons_append, List.nil_append]
  refine s_if_ne (tgt := 17) hK dX7_why_10 (by decide) (fun c_10 => ?_) (fun c_10 => absurd c_10 (b2y' (pl_nI hx hy)))
  refine s_aload0 hK dX7_why_17 ?_
  refine s_callV (ci := 7) hK mdX7_lay (zX7_lay) gX7_why_X7_lay rfl rfl rfl (by decide) rfl ⟨Nat.le_of_ble_eq_true rfl, Nat.le_of_ble_eq_true rfl⟩ rfl (Nat.le_of_ble_eq_true rfl) dX7_why_18 ?_
  try dsimp only [Option.toList, List.cons_append, List.nil_append]
  refine s_bipush (v := 16) hK dX7_why_21 (by decide) ?_
  refine s_iload2 hK dX7_why_23 ?_
  refine s_imul hK dX7_why_24 ?_
  refine s_iload1 hK dX7_why_25 ?_
  refine s_iadd hK dX7_why_26 ?_
  rw [show (16 : Int32) * nI y + nI x = nI (16 * y + x) from by rw [show (16 : Int32) = nI 16 from rfl, pk_mul, nI_add]]
  refine s_istore3 hK dX7_why_27 ?_
  refine s_aload0 hK dX7_why_28 ?_
  refine s_getr (ci := 7) (k := 1) hK rfl rfl i_7 (by decide +kernel) dX7_why_29 (by decide) (by decide) (by decide) rfl rfl (rf_7_1 rfl) ?_
  refine s_iconst (v := 0) hK dX7_why_32 (by decide) ?_
  refine s_iload3 hK dX7_why_33 ?_
  refine s_iadd hK dX7_why_34 ?_
  rw [show (0 : Int32) + nI (16 * y + x) = nI (16 * y + x) from Int32.zero_add _]
  refine s_iald hK rfl (show vp_in _ 2374 from vp_in_nI (show 16 * y + x < 2374 by omega) (by decide)) dX7_why_35 ?_
  rw [cl_nI (show 16 * y + x < 2 ^ 31 by omega)]
  rw [lY_701]
  refine s_istore4 hK dX7_why_36 ?_
  refine s_aload0 hK dX7_why_38 ?_
  refine s_iload1 hK dX7_why_39 ?_
  refine s_iload2 hK dX7_why_40 ?_
  refine s_aload0 hK dX7_why_41 ?_
  refine s_aload0 hK dX7_why_42 ?_
  refine s_getr (ci := 7) (k := 1) hK rfl rfl i_7 (by decide +kernel) dX7_why_43 (by decide) (by decide) (by decide) rfl rfl (rf_7_1 rfl) ?_
  refine s_sipush (v := 773) hK dX7_why_46 (by decide) ?_
  refine s_ialdv (v := σ 701 773) (by rw [lY_701]; rfl) hK rfl (show vp_in _ 2374 from vp_in_nI (n := 773) (by decide) (by decide)) dX7_why_49 ?_
  refine s_callV (ci := 7) hK mdX7_shiftX (zX7_shiftX _) gX7_why_X7_shiftX rfl rfl rfl (by decide) rfl ⟨Nat.le_of_ble_eq_true rfl, Nat.le_of_ble_eq_true rfl⟩ rfl (Nat.le_of_ble_eq_true rfl) dX7_why_50 ?_
  try dsimp only [Option.toList, List.cons_append, List.nil_append]
  rw [sXM_lY]
  refine s_aload0 hK dX7_why_53 ?_
  refine s_aload0 hK dX7_why_54 ?_
  refine s_getr (ci := 7) (k := 1) hK rfl rfl i_7 (by decide +kernel) dX7_why_55 (by decide) (by decide) (by decide) rfl rfl (rf_7_1 rfl) ?_
  refine s_sipush (v := 774) hK dX7_why_58 (by decide) ?_
  refine s_ialdv (v := σ 701 774) (by rw [lY_701]; rfl) hK rfl (show vp_in _ 2374 from vp_in_nI (n := 774) (by decide) (by decide)) dX7_why_61 ?_
  refine s_callV (ci := 7) hK mdX7_shiftY (zX7_shiftY _) gX7_why_X7_shiftY rfl rfl rfl (by decide) rfl ⟨Nat.le_of_ble_eq_true rfl, Nat.le_of_ble_eq_true rfl⟩ rfl (Nat.le_of_ble_eq_true rfl) dX7_why_62 ?_
  try dsimp only [Option.toList, List.cons_append, List.nil_append]
  rw [sYM_lY]
  refine s_callV (ci := 7) hK mdX7_look (zX7_look x y (cNX σ) (cNY σ) hx hy) gX7_why_X7_look rfl rfl rfl (by decide) rfl ⟨Nat.le_of_ble_eq_true rfl, Nat.le_of_ble_eq_true rfl⟩ rfl (Nat.le_of_ble_eq_true rfl) dX7_why_65 ?_
  try dsimp only [Option.toList, List.cons_append, List.nil_append]
  generalize hv1 : lkM (lY σ) (16 * y + x) (cNX σ) (cNY σ) = v1 at hE ⊢
  generalize hv2 : σ 701 (16 * y + x) = v2 at hE ⊢
  refine s_istore5 hK dX7_why_68 ?_
  refine s_iload4 hK dX7_why_70 ?_
  refine s_if_eq (tgt := 94) hK dX7_why_72 (by decide) (fun c_72 => ?_) (fun c_72 => ?_)
  · refine s_iload4 hK dX7_why_94 ?_
    refine s_if_ne (tgt := 109) hK dX7_why_96 (by decide) (fun c_96 => ?_) (fun c_96 => ?_)
    · refine s_iload4 hK dX7_why_109 ?_
      refine s_iconst (v := 2) hK dX7_why_111 (by decide) ?_
      refine s_icmp_eq (tgt := 127) hK dX7_why_112 (by decide) (fun c_112 => ?_) (fun c_112 => ?_)
      · refine s_iload5 hK dX7_why_127 ?_
        refine s_iconst (v := 2) hK dX7_why_129 (by decide) ?_
        refine s_icmp_ge (tgt := 137) hK dX7_why_130 (by decide) (fun c_130 => ?_) (fun c_130 => ?_)
        · refine s_iconst (v := 0) hK dX7_why_137 (by decide) ?_
          exact s_iret hK hE dX7_why_138 rfl (by clear hE hK i_7 c_10 hv1 hv2; (try simp only [b2_0] at *); unfold yM; first | (simp_all; done) | (exfalso; simp_all; done)) (rfl)
        · refine s_iconst (v := 5) hK dX7_why_133 (by decide) ?_
          refine s_goto (tgt := 138) hK dX7_why_134 (by decide) ?_
          exact s_iret hK hE dX7_why_138 rfl (by clear hE hK i_7 c_10 hv1 hv2; (try simp only [b2_0] at *); unfold yM; first | (simp_all; done) | (exfalso; simp_all; done)) (rfl)
      · refine s_iload5 hK dX7_why_115 ?_
        refine s_iconst (v := 2) hK dX7_why_117 (by decide) ?_
        refine s_icmp_ge (tgt := 125) hK dX7_why_118 (by decide) (fun c_118 => ?_) (fun c_118 => ?_)
        · refine s_iconst (v := 4) hK dX7_why_125 (by decide) ?_
          exact s_iret hK hE dX7_why_126 rfl (by clear hE hK i_7 c_10 hv1 hv2; (try simp only [b2_0] at *); unfold yM; first | (simp_all; done) | (exfalso; simp_all; done)) (rfl)
        · refine s_iconst (v := 0) hK dX7_why_121 (by decide) ?_
          refine s_goto (tgt := 126) hK dX7_why_122 (by decide) ?_
          exact s_iret hK hE dX7_why_126 rfl (by clear hE hK i_7 c_10 hv1 hv2; (try simp only [b2_0] at *); unfold yM; first | (simp_all; done) | (exfalso; simp_all; done)) (rfl)
    · refine s_iload5 hK dX7_why_99 ?_
      refine s_iconst (v := 2) hK dX7_why_101 (by decide) ?_
      refine s_irem hK dX7_why_102 (by decide) ?_
      refine s_iconst (v := 1) hK dX7_why_103 (by decide) ?_
      refine s_icmp_ne (tgt := 109) hK dX7_why_104 (by decide) (fun c_104 => ?_) (fun c_104 => ?_)
      · refine s_iload4 hK dX7_why_109 ?_
        refine s_iconst (v := 2) hK dX7_why_111 (by decide) ?_
        refine s_icmp_eq (tgt := 127) hK dX7_why_112 (by decide) (fun c_112 => ?_) (fun c_112 => ?_)
        · refine s_iload5 hK dX7_why_127 ?_
          refine s_iconst (v := 2) hK dX7_why_129 (by decide) ?_
          refine s_icmp_ge (tgt := 137) hK dX7_why_130 (by decide) (fun c_130 => ?_) (fun c_130 => ?_)
          · refine s_iconst (v := 0) hK dX7_why_137 (by decide) ?_
            exact s_iret hK hE dX7_why_138 rfl (by clear hE hK i_7 c_10 hv1 hv2; (try simp only [b2_0] at *); unfold yM; first | (simp_all; done) | (exfalso; simp_all; done)) (rfl)
          · refine s_iconst (v := 5) hK dX7_why_133 (by decide) ?_
            refine s_goto (tgt := 138) hK dX7_why_134 (by decide) ?_
            exact s_iret hK hE dX7_why_138 rfl (by clear hE hK i_7 c_10 hv1 hv2; (try simp only [b2_0] at *); unfold yM; first | (simp_all; done) | (exfalso; simp_all; done)) (rfl)
        · refine s_iload5 hK dX7_why_115 ?_
          refine s_iconst (v := 2) hK dX7_why_117 (by decide) ?_
          refine s_icmp_ge (tgt := 125) hK dX7_why_118 (by decide) (fun c_118 => ?_) (fun c_118 => ?_)
          · refine s_iconst (v := 4) hK dX7_why_125 (by decide) ?_
            exact s_iret hK hE dX7_why_126 rfl (by clear hE hK i_7 c_10 hv1 hv2; (try simp only [b2_0] at *); unfold yM; first | (simp_all; done) | (exfalso; simp_all; done)) (rfl)
          · refine s_iconst (v := 0) hK dX7_why_121 (by decide) ?_
            refine s_goto (tgt := 126) hK dX7_why_122 (by decide) ?_
            exact s_iret hK hE dX7_why_126 rfl (by clear hE hK i_7 c_10 hv1 hv2; (try simp only [b2_0] at *); unfold yM; first | (simp_all; done) | (exfalso; simp_all; done)) (rfl)
      · refine s_iconst (v := 3) hK dX7_why_107 (by decide) ?_
        exact s_iret hK hE dX7_why_108 rfl (by clear hE hK i_7 c_10 hv1 hv2; (try simp only [b2_0] at *); unfold yM; first | (simp_all; done) | (exfalso; simp_all; done)) (rfl)
  · refine s_iload5 hK dX7_why_75 ?_
    refine s_if_ne (tgt := 94) hK dX7_why_77 (by decide) (fun c_77 => ?_) (fun c_77 => ?_)
    · refine s_iload4 hK dX7_why_94 ?_
      refine s_if_ne (tgt := 109) hK dX7_why_96 (by decide) (fun c_96 => ?_) (fun c_96 => ?_)
      · refine s_iload4 hK dX7_why_109 ?_
        refine s_iconst (v := 2) hK dX7_why_111 (by decide) ?_
        refine s_icmp_eq (tgt := 127) hK dX7_why_112 (by decide) (fun c_112 => ?_) (fun c_112 => ?_)
        · refine s_iload5 hK dX7_why_127 ?_
          refine s_iconst (v := 2) hK dX7_why_129 (by decide) ?_
          refine s_icmp_ge (tgt := 137) hK dX7_why_130 (by decide) (fun c_130 => ?_) (fun c_130 => ?_)
          · refine s_iconst (v := 0) hK dX7_why_137 (by decide) ?_
            exact s_iret hK hE dX7_why_138 rfl (by clear hE hK i_7 c_10 hv1 hv2; (try simp only [b2_0] at *); unfold yM; first | (simp_all; done) | (exfalso; simp_all; done)) (rfl)
          · refine s_iconst (v := 5) hK dX7_why_133 (by decide) ?_
            refine s_goto (tgt := 138) hK dX7_why_134 (by decide) ?_
            exact s_iret hK hE dX7_why_138 rfl (by clear hE hK i_7 c_10 hv1 hv2; (try simp only [b2_0] at *); unfold yM; first | (simp_all; done) | (exfalso; simp_all; done)) (rfl)
        · refine s_iload5 hK dX7_why_115 ?_
          refine s_iconst (v := 2) hK dX7_why_117 (by decide) ?_
          refine s_icmp_ge (tgt := 125) hK dX7_why_118 (by decide) (fun c_118 => ?_) (fun c_118 => ?_)
          · refine s_iconst (v := 4) hK dX7_why_125 (by decide) ?_
            exact s_iret hK hE dX7_why_126 rfl (by clear hE hK i_7 c_10 hv1 hv2; (try simp only [b2_0] at *); unfold yM; first | (simp_all; done) | (exfalso; simp_all; done)) (rfl)
          · refine s_iconst (v := 0) hK dX7_why_121 (by decide) ?_
            refine s_goto (tgt := 126) hK dX7_why_122 (by decide) ?_
            exact s_iret hK hE dX7_why_126 rfl (by clear hE hK i_7 c_10 hv1 hv2; (try simp only [b2_0] at *); unfold yM; first | (simp_all; done) | (exfalso; simp_all; done)) (rfl)
      · refine s_iload5 hK dX7_why_99 ?_
        refine s_iconst (v := 2) hK dX7_why_101 (by decide) ?_
        refine s_irem hK dX7_why_102 (by decide) ?_
        refine s_iconst (v := 1) hK dX7_why_103 (by decide) ?_
        refine s_icmp_ne (tgt := 109) hK dX7_why_104 (by decide) (fun c_104 => ?_) (fun c_104 => ?_)
        · refine s_iload4 hK dX7_why_109 ?_
          refine s_iconst (v := 2) hK dX7_why_111 (by decide) ?_
          refine s_icmp_eq (tgt := 127) hK dX7_why_112 (by decide) (fun c_112 => ?_) (fun c_112 => ?_)
          · refine s_iload5 hK dX7_why_127 ?_
            refine s_iconst (v := 2) hK dX7_why_129 (by decide) ?_
            refine s_icmp_ge (tgt := 137) hK dX7_why_130 (by decide) (fun c_130 => ?_) (fun c_130 => ?_)
            · refine s_iconst (v := 0) hK dX7_why_137 (by decide) ?_
              exact s_iret hK hE dX7_why_138 rfl (by clear hE hK i_7 c_10 hv1 hv2; (try simp only [b2_0] at *); unfold yM; first | (simp_all; done) | (exfalso; simp_all; done)) (rfl)
            · refine s_iconst (v := 5) hK dX7_why_133 (by decide) ?_
              refine s_goto (tgt := 138) hK dX7_why_134 (by decide) ?_
              exact s_iret hK hE dX7_why_138 rfl (by clear hE hK i_7 c_10 hv1 hv2; (try simp only [b2_0] at *); unfold yM; first | (simp_all; done) | (exfalso; simp_all; done)) (rfl)
          · refine s_iload5 hK dX7_why_115 ?_
            refine s_iconst (v := 2) hK dX7_why_117 (by decide) ?_
            refine s_icmp_ge (tgt := 125) hK dX7_why_118 (by decide) (fun c_118 => ?_) (fun c_118 => ?_)
            · refine s_iconst (v := 4) hK dX7_why_125 (by decide) ?_
              exact s_iret hK hE dX7_why_126 rfl (by clear hE hK i_7 c_10 hv1 hv2; (try simp only [b2_0] at *); unfold yM; first | (simp_all; done) | (exfalso; simp_all; done)) (rfl)
            · refine s_iconst (v := 0) hK dX7_why_121 (by decide) ?_
              refine s_goto (tgt := 126) hK dX7_why_122 (by decide) ?_
              exact s_iret hK hE dX7_why_126 rfl (by clear hE hK i_7 c_10 hv1 hv2; (try simp only [b2_0] at *); unfold yM; first | (simp_all; done) | (exfalso; simp_all; done)) (rfl)
        · refine s_iconst (v := 3) hK dX7_why_107 (by decide) ?_
          exact s_iret hK hE dX7_why_108 rfl (by clear hE hK i_7 c_10 hv1 hv2; (try simp only [b2_0] at *); unfold yM; first | (simp_all; done) | (exfalso; simp_all; done)) (rfl)
    · refine s_aload0 hK dX7_why_80 ?_
      refine s_iload3 hK dX7_why_81 ?_
      refine s_callV (ci := 7) hK mdX7_isWorn (zX7_isWorn (16 * y + x) (by omega)) gX7_why_X7_isWorn rfl rfl rfl (by decide) rfl ⟨Nat.le_of_ble_eq_true rfl, Nat.le_of_ble_eq_true rfl⟩ rfl (Nat.le_of_ble_eq_true rfl) dX7_why_82 ?_
      try dsimp only [Option.toList, List.cons_append, List.nil_append]
      generalize hv3 : wM (lY σ) (16 * y + x) = v3 at hE ⊢
      refine s_if_eq (tgt := 92) hK dX7_why_85 (by decide) (fun c_85 => ?_) (fun c_85 => ?_)
      · refine s_iconst (v := 2) hK dX7_why_92 (by decide) ?_
        exact s_iret hK hE dX7_why_93 rfl (by clear hE hK i_7 c_10 hv1 hv2; (try simp only [b2_0] at *); unfold yM; first | (simp_all; done) | (exfalso; simp_all; done)) (rfl)
      · refine s_iconst (v := 1) hK dX7_why_88 (by decide) ?_
        refine s_goto (tgt := 93) hK dX7_why_89 (by decide) ?_
        exact s_iret hK hE dX7_why_93 rfl (by clear hE hK i_7 c_10 hv1 hv2; (try simp only [b2_0] at *); unfold yM; first | (simp_all; done) | (exfalso; simp_all; done)) (rfl)
set_option maxHeartbeats 4000000 in
set_option maxRecDepth 100000 in
theorem zX7_tolerance {g : aG} {l : Launch} {σ : aS} (h0 : σ 700 0 = 0) : CN g l yX7_tolerance wsX7_tolerance 6 140 [.ref 700] σ (some (.int (tolV (tMp (lY σ))))) ((tM (lY σ) 5).2) := by
  refine cn_of (cc := cX7_tolerance) (nL := 2) (ret := (some .int)) (own := RX7) (by decide +kernel) rfl rfl (Nat.le_of_ble_eq_true rfl) (fun K hg hl hK hE => ?_)
  subst hg; subst hl
  have i_7 : ∀ w ∈ u_ws RX7 TX7 15, w ∈ wsX7_tolerance := by decide +kernel
  show AW K 0 [some (.ref 700), none] [] σ
  have hx1 : (((tM (lY σ) 5).1 = false ∧ ∀ i, i < 5 → tMp (lY σ) i = false) → AW K 11 [some (.ref 700), some (.int (nI 5))] [] ((tM (lY σ) 5).2)) := by
    intro hH1
    refine s_iload1 hK dX7_tolerance_11 ?_
    refine s_iconst (v := 4) hK dX7_tolerance_12 (by decide) ?_
    refine s_icmp_gt (tgt := 44) hK dX7_tolerance_13 (by decide) (fun c_13 => ?_) (fun c_13 => absurd c_13 (fun e => e (nI_lt (a := 4) (b := 5) (by decide) (by decide))))
    refine s_iconst (v := 4) hK dX7_tolerance_44 (by decide) ?_
    exact s_iret hK hE dX7_tolerance_45 rfl (tol_e hH1.2) (rfl)
  have hb1 : ∀ k1 : Nat, k1 < 5 → (((tM (lY σ) (k1 + 1)).1 = false ∧ ∀ i, i < (k1 + 1) → tMp (lY σ) i = false) → AW K 11 [some (.ref 700), some (.int (nI (k1 + 1)))] [] ((tM (lY σ) (k1 + 1)).2)) → (((tM (lY σ) k1).1 = false ∧ ∀ i, i < k1 → tMp (lY σ) i = false) → AW K 11 [some (.ref 700), some (.int (nI k1))] [] ((tM (lY σ) k1).2)) := by
    intro k1 hk1 ih1 hH1
    refine s_iload1 hK dX7_tolerance_11 ?_
    refine s_iconst (v := 4) hK dX7_tolerance_12 (by decide) ?_
    refine s_icmp_gt (tgt := 44) hK dX7_tolerance_13 (by decide) (fun c_13 => absurd c_13 (nI_nlt (a := 4) (by omega) (by decide))) (fun c_13 => ?_)
    have ep : tMp (lY σ) k1 = (tM (lY σ) (k1 + 1)).1 := by rw [tM_f hH1.1]; rfl
    refine s_aload0 hK dX7_tolerance_16 ?_
    refine s_iload1 hK dX7_tolerance_17 ?_
    refine s_callV (ci := 7) hK mdX7_hasGapsWithin (zX7_hasGapsWithin k1 (by omega)) gX7_tolerance_X7_hasGapsWithin rfl rfl rfl (by decide) rfl ⟨Nat.le_of_ble_eq_true rfl, Nat.le_of_ble_eq_true rfl⟩ rfl (Nat.le_of_ble_eq_true rfl) dX7_tolerance_18 ?_
    try dsimp only [Option.toList, List.cons_append, List.nil_append]
    rw [← tM_f hH1.1]
    refine s_if_eq (tgt := 38) hK dX7_tolerance_21 (by decide) (fun c_21 => ?_) (fun c_21 => ?_)
    · refine s_iinc1 hK dX7_tolerance_38 (hv_1 _) ?_
      refine s_goto (tgt := 11) hK dX7_tolerance_41 (by decide) ?_
      exact AW.to (ih1 (⟨b2y c_21, fun i hi => by rcases Nat.lt_or_ge i k1 with z | z; exact hH1.2 i z; rw [show i = k1 by omega]; exact ep.trans (b2y c_21)⟩)) (by rw [nI_1]) (rfl)
    · refine s_iload1 hK dX7_tolerance_24 ?_
      refine s_if_ne (tgt := 34) hK dX7_tolerance_25 (by decide) (fun c_25 => ?_) (fun c_25 => ?_)
      · refine s_iload1 hK dX7_tolerance_34 ?_
        refine s_iconst (v := 1) hK dX7_tolerance_35 (by decide) ?_
        refine s_isub hK dX7_tolerance_36 ?_
        exact s_iret hK hE dX7_tolerance_37 rfl (by first | exact tol_0 (p := tMp (lY σ)) hk1 hH1.2 (ep.trans (b2n c_21)) c_25 | exact tol_s (p := tMp (lY σ)) hk1 hH1.2 (ep.trans (b2n c_21)) c_25) (by rw [tM_end hk1 (b2n c_21)])
      · refine s_sipush (v := -1009) hK dX7_tolerance_28 (by decide) ?_
        refine s_goto (tgt := 37) hK dX7_tolerance_31 (by decide) ?_
        exact s_iret hK hE dX7_tolerance_37 rfl (by first | exact tol_0 (p := tMp (lY σ)) hk1 hH1.2 (ep.trans (b2n c_21)) c_25 | exact tol_s (p := tMp (lY σ)) hk1 hH1.2 (ep.trans (b2n c_21)) c_25) (by rw [tM_end hk1 (b2n c_21)])
  refine s_aload0 hK dX7_tolerance_0 ?_
  refine s_iconst (v := 0) hK dX7_tolerance_1 (by decide) ?_
  refine s_putg (ci := 7) (k := 0) (ty := .int) hK rfl rfl i_7 (by decide +kernel) dX7_tolerance_2 tyX7_ok nmX7 (by decide) (by decide) (by decide) rfl rfl rfl (by decide +kernel) rfl rfl ?_
  rw [thr h0]
  refine s_aload0 hK dX7_tolerance_5 ?_
  refine s_callV (ci := 7) hK mdX7_lay (zX7_lay) gX7_tolerance_X7_lay rfl rfl rfl (by decide) rfl ⟨Nat.le_of_ble_eq_true rfl, Nat.le_of_ble_eq_true rfl⟩ rfl (Nat.le_of_ble_eq_true rfl) dX7_tolerance_6 ?_
  try dsimp only [Option.toList, List.cons_append, List.nil_append]
  refine s_iconst (v := 0) hK dX7_tolerance_9 (by decide) ?_
  refine s_istore1 hK dX7_tolerance_10 ?_
  exact AW.to (up_to (fun kx => ((tM (lY σ) kx).1 = false ∧ ∀ i, i < kx → tMp (lY σ) i = false) → AW K 11 [some (.ref 700), some (.int (nI kx))] [] ((tM (lY σ) kx).2)) 5 hx1 hb1 (⟨rfl, fun i hi => absurd hi (Nat.not_lt_zero i)⟩)) (rfl) (rfl)
set_option maxHeartbeats 4000000 in
set_option maxRecDepth 100000 in
theorem zX7_trapFor_bad {g : aG} {l : Launch} {σ : aS} (h0 : σ 700 0 = 0) (r : Int32) (hbad : wi r 0 4 = false) : CN g l yX7_trapFor wsX7_trapFor 6 140 [.ref 700, .int r] σ (some (.int (-1001))) σ := by
  refine cn_of (cc := cX7_trapFor) (nL := 3) (ret := (some .int)) (own := RX7) (by decide +kernel) rfl rfl (Nat.le_of_ble_eq_true rfl) (fun K hg hl hK hE => ?_)
  subst hg; subst hl
  have i_7 : ∀ w ∈ u_ws RX7 TX7 15, w ∈ wsX7_trapFor := by decide +kernel
  show AW K 0 [some (.ref 700), some (.int r), none] [] σ
  refine s_aload0 hK dX7_trapFor_0 ?_
  refine s_iconst (v := 0) hK dX7_trapFor_1 (by decide) ?_
  refine s_putg (ci := 7) (k := 0) (ty := .int) hK rfl rfl i_7 (by decide +kernel) dX7_trapFor_2 tyX7_ok nmX7 (by decide) (by decide) (by decide) rfl rfl rfl (by decide +kernel) rfl rfl ?_
  rw [thr h0]
  refine s_iload1 hK dX7_trapFor_5 ?_
  refine s_iconst (v := 0) hK dX7_trapFor_6 (by decide) ?_
  refine s_iconst (v := 4) hK dX7_trapFor_7 (by decide) ?_
  refine s_callS hK mdX7_in (zX7_in _ _ _) gX7_trapFor_X7_in rfl ⟨Nat.le_of_ble_eq_true rfl, Nat.le_of_ble_eq_true rfl⟩ rfl (Nat.le_of_ble_eq_true rfl) dX7_trapFor_8 ?_
  try dsimp only [Option.toList, List.cons_append, List.nil_append]
  refine s_if_ne (tgt := 18) hK dX7_trapFor_11 (by decide) (fun c_11 => absurd c_11 (fun q => q (b2f hbad))) (fun c_11 => ?_)
  refine s_sipush (v := -1001) hK dX7_trapFor_14 (by decide) ?_
  exact s_iret hK hE dX7_trapFor_17 rfl (rfl) (rfl)
set_option maxHeartbeats 4000000 in
set_option maxRecDepth 100000 in
theorem zX7_trapFor_ok {g : aG} {l : Launch} {σ : aS} (h0 : σ 700 0 = 0) (r : Nat) (hr : r ≤ 4) : CN g l yX7_trapFor wsX7_trapFor 6 140 [.ref 700, .int (nI r)] σ (some (.int (fMR (mO σ 4) r))) ((fM (mO σ 4) r 5).2) := by
  refine cn_of (cc := cX7_trapFor) (nL := 3) (ret := (some .int)) (own := RX7) (by decide +kernel) rfl rfl (Nat.le_of_ble_eq_true rfl) (fun K hg hl hK hE => ?_)
  subst hg; subst hl
  have i_7 : ∀ w ∈ u_ws RX7 TX7 15, w ∈ wsX7_trapFor := by decide +kernel
  show AW K 0 [some (.ref 700), some (.int (nI r)), none] [] σ
  have hx1 : (((fM (mO σ 4) r 5).1 = false ∧ ∀ i, i < 5 → fMp (mO σ 4) r i = false) → AW K 24 [some (.ref 700), some (.int (nI r)), some (.int (nI 5))] [] ((fM (mO σ 4) r 5).2)) := by
    intro hH1
    refine s_iload2 hK dX7_trapFor_24 ?_
    refine s_iconst (v := 4) hK dX7_trapFor_25 (by decide) ?_
    refine s_icmp_gt (tgt := 50) hK dX7_trapFor_26 (by decide) (fun c_26 => ?_) (fun c_26 => absurd c_26 (fun e => e (nI_lt (a := 4) (b := 5) (by decide) (by decide))))
    refine s_sipush (v := -1009) hK dX7_trapFor_50 (by decide) ?_
    exact s_iret hK hE dX7_trapFor_53 rfl (by rw [fMR, first_no hH1.2]; rfl) (rfl)
  have hb1 : ∀ k1 : Nat, k1 < 5 → (((fM (mO σ 4) r (k1 + 1)).1 = false ∧ ∀ i, i < (k1 + 1) → fMp (mO σ 4) r i = false) → AW K 24 [some (.ref 700), some (.int (nI r)), some (.int (nI (k1 + 1)))] [] ((fM (mO σ 4) r (k1 + 1)).2)) → (((fM (mO σ 4) r k1).1 = false ∧ ∀ i, i < k1 → fMp (mO σ 4) r i = false) → AW K 24 [some (.ref 700), some (.int (nI r)), some (.int (nI k1))] [] ((fM (mO σ 4) r k1).2)) := by
    intro k1 hk1 ih1 hH1
    refine s_iload2 hK dX7_trapFor_24 ?_
    refine s_iconst (v := 4) hK dX7_trapFor_25 (by decide) ?_
    refine s_icmp_gt (tgt := 50) hK dX7_trapFor_26 (by decide) (fun c_26 => absurd c_26 (nI_nlt (a := 4) (by omega) (by decide))) (fun c_26 => ?_)
    have es := fM_f hH1.1
    have ep : fMp (mO σ 4) r k1 = (fM (mO σ 4) r (k1 + 1)).1 := by rw [es]; rfl
    refine s_aload0 hK dX7_trapFor_29 ?_
    refine s_iload2 hK dX7_trapFor_30 ?_
    refine s_callV (ci := 7) hK mdX7_layCut (zX7_layCut (nI k1)) gX7_trapFor_X7_layCut rfl rfl rfl (by decide) rfl ⟨Nat.le_of_ble_eq_true rfl, Nat.le_of_ble_eq_true rfl⟩ rfl (Nat.le_of_ble_eq_true rfl) dX7_trapFor_31 ?_
    try dsimp only [Option.toList, List.cons_append, List.nil_append]
    refine s_aload0 hK dX7_trapFor_34 ?_
    refine s_iload1 hK dX7_trapFor_35 ?_
    refine s_callV (ci := 7) hK mdX7_hasGapsWithin (zX7_hasGapsWithin r hr) gX7_trapFor_X7_hasGapsWithin rfl rfl rfl (by decide) rfl ⟨Nat.le_of_ble_eq_true rfl, Nat.le_of_ble_eq_true rfl⟩ rfl (Nat.le_of_ble_eq_true rfl) dX7_trapFor_36 ?_
    try dsimp only [Option.toList, List.cons_append, List.nil_append]
    refine s_if_ne (tgt := 44) hK dX7_trapFor_39 (by decide) (fun c_39 => ?_) (fun c_39 => ?_)
    · refine s_iinc2 hK dX7_trapFor_44 (hv_1 _) ?_
      refine s_goto (tgt := 24) hK dX7_trapFor_47 (by decide) ?_
      exact AW.to (ih1 (⟨by rw [es]; show (!_) = false; rw [b2n c_39]; rfl, fun i hi => by rcases Nat.lt_or_ge i k1 with z | z; exact hH1.2 i z; rw [show i = k1 by omega]; unfold fMp; rw [b2n c_39]; rfl⟩)) (by rw [nI_1]) (by rw [es])
    · refine s_iload2 hK dX7_trapFor_42 ?_
      exact s_iret hK hE dX7_trapFor_43 rfl (by rw [fMR, first_is hk1 hH1.2 (show fMp (mO σ 4) r k1 = true by unfold fMp; rw [b2y c_39]; rfl), if_neg (by omega)]) (by rw [fM_end hk1 (by rw [es]; show (!_) = true; rw [b2y c_39]; rfl), es])
  refine s_aload0 hK dX7_trapFor_0 ?_
  refine s_iconst (v := 0) hK dX7_trapFor_1 (by decide) ?_
  refine s_putg (ci := 7) (k := 0) (ty := .int) hK rfl rfl i_7 (by decide +kernel) dX7_trapFor_2 tyX7_ok nmX7 (by decide) (by decide) (by decide) rfl rfl rfl (by decide +kernel) rfl rfl ?_
  rw [thr h0]
  refine s_iload1 hK dX7_trapFor_5 ?_
  refine s_iconst (v := 0) hK dX7_trapFor_6 (by decide) ?_
  refine s_iconst (v := 4) hK dX7_trapFor_7 (by decide) ?_
  refine s_callS hK mdX7_in (zX7_in _ _ _) gX7_trapFor_X7_in rfl ⟨Nat.le_of_ble_eq_true rfl, Nat.le_of_ble_eq_true rfl⟩ rfl (Nat.le_of_ble_eq_true rfl) dX7_trapFor_8 ?_
  try dsimp only [Option.toList, List.cons_append, List.nil_append]
  refine s_if_ne (tgt := 18) hK dX7_trapFor_11 (by decide) (fun c_11 => ?_) (fun c_11 => absurd c_11 (b2y' (wi_nI (N := 4) hr (by decide))))
  refine s_aload0 hK dX7_trapFor_18 ?_
  refine s_callV (ci := 7) hK mdX7_measure (zX7_measure) gX7_trapFor_X7_measure rfl rfl rfl (by decide) rfl ⟨Nat.le_of_ble_eq_true rfl, Nat.le_of_ble_eq_true rfl⟩ rfl (Nat.le_of_ble_eq_true rfl) dX7_trapFor_19 ?_
  try dsimp only [Option.toList, List.cons_append, List.nil_append]
  refine s_iconst (v := 0) hK dX7_trapFor_22 (by decide) ?_
  refine s_istore2 hK dX7_trapFor_23 ?_
  exact AW.to (up_to (fun kx => ((fM (mO σ 4) r kx).1 = false ∧ ∀ i, i < kx → fMp (mO σ 4) r i = false) → AW K 24 [some (.ref 700), some (.int (nI r)), some (.int (nI kx))] [] ((fM (mO σ 4) r kx).2)) 5 hx1 hb1 (⟨rfl, fun i hi => absurd hi (Nat.not_lt_zero i)⟩)) (rfl) (rfl)
set_option maxHeartbeats 4000000 in
set_option maxRecDepth 100000 in
theorem zX7_bestPins_bad {g : aG} {l : Launch} {σ : aS} (h0 : σ 700 0 = 0) (a : Int32) (hbad : wi a 0 2 = false) : CN g l yX7_bestPins wsX7_bestPins 5 117 [.ref 700, .int a] σ (some (.int (-1001))) σ := by
  refine cn_of (cc := cX7_bestPins) (nL := 7) (ret := (some .int)) (own := RX7) (by decide +kernel) rfl rfl (Nat.le_of_ble_eq_true rfl) (fun K hg hl hK hE => ?_)
  subst hg; subst hl
  have i_7 : ∀ w ∈ u_ws RX7 TX7 15, w ∈ wsX7_bestPins := by decide +kernel
  show AW K 0 [some (.ref 700), some (.int a), none, none, none, none, none] [] σ
  refine s_aload0 hK dX7_bestPins_0 ?_
  refine s_iconst (v := 0) hK dX7_bestPins_1 (by decide) ?_
  refine s_putg (ci := 7) (k := 0) (ty := .int) hK rfl rfl i_7 (by decide +kernel) dX7_bestPins_2 tyX7_ok nmX7 (by decide) (by decide) (by decide) rfl rfl rfl (by decide +kernel) rfl rfl ?_
  rw [thr h0]
  refine s_iload1 hK dX7_bestPins_5 ?_
  refine s_iconst (v := 0) hK dX7_bestPins_6 (by decide) ?_
  refine s_iconst (v := 2) hK dX7_bestPins_7 (by decide) ?_
  refine s_callS hK mdX7_in (zX7_in _ _ _) gX7_bestPins_X7_in rfl ⟨Nat.le_of_ble_eq_true rfl, Nat.le_of_ble_eq_true rfl⟩ rfl (Nat.le_of_ble_eq_true rfl) dX7_bestPins_8 ?_
  try dsimp only [Option.toList, List.cons_append, List.nil_append]
  refine s_if_ne (tgt := 18) hK dX7_bestPins_11 (by decide) (fun c_11 => absurd c_11 (fun q => q (b2f hbad))) (fun c_11 => ?_)
  refine s_sipush (v := -1001) hK dX7_bestPins_14 (by decide) ?_
  exact s_iret hK hE dX7_bestPins_17 rfl (rfl) (rfl)
set_option maxHeartbeats 4000000 in
set_option maxRecDepth 100000 in
theorem zX7_bestPins_ok {g : aG} {l : Launch} {σ : aS} (h0 : σ 700 0 = 0) (a : Int32) (ha : wi a 0 2 = true) : CN g l yX7_bestPins wsX7_bestPins 5 117 [.ref 700, .int a] σ (some (.int (mpR (lY σ) a))) (mpS (lY σ) 81) := by
  refine cn_of (cc := cX7_bestPins) (nL := 7) (ret := (some .int)) (own := RX7) (by decide +kernel) rfl rfl (Nat.le_of_ble_eq_true rfl) (fun K hg hl hK hE => ?_)
  subst hg; subst hl
  have i_7 : ∀ w ∈ u_ws RX7 TX7 15, w ∈ wsX7_bestPins := by decide +kernel
  show AW K 0 [some (.ref 700), some (.int a), none, none, none, none, none] [] σ
  have hx1 : (∀ z6 : Option Value, AW K 35 [some (.ref 700), some (.int a), some (.int (mpF (lY σ) (9 * 9)).1), some (.int (mpF (lY σ) (9 * 9)).2.1), some (.int (mpF (lY σ) (9 * 9)).2.2), some (.int (nI 9 - 4)), z6] [] (mpS (lY σ) (9 * 9))) := by
    intro z6
    refine s_iload5 hK dX7_bestPins_35 ?_
    refine s_iconst (v := 4) hK dX7_bestPins_37 (by decide) ?_
    refine s_icmp_gt (tgt := 110) hK dX7_bestPins_38 (by decide) (fun c_38 => ?_) (fun c_38 => absurd c_38 (fun q => q (cnt_out (r := 4) (by decide))))
    refine s_iload1 hK dX7_bestPins_110 ?_
    refine s_if_ne (tgt := 120) hK dX7_bestPins_111 (by decide) (fun c_111 => ?_) (fun c_111 => ?_)
    · refine s_iload1 hK dX7_bestPins_120 ?_
      refine s_iconst (v := 1) hK dX7_bestPins_121 (by decide) ?_
      refine s_icmp_ne (tgt := 131) hK dX7_bestPins_122 (by decide) (fun c_122 => ?_) (fun c_122 => ?_)
      · refine s_iload4 hK dX7_bestPins_131 ?_
        exact s_iret hK hE dX7_bestPins_133 rfl (by first | (rw [mpR, if_pos c_111]; done) | (rw [mpR, if_neg c_111, if_pos c_122]; done) | (rw [mpR, if_neg c_111, if_neg c_122]; first | done | rfl)) (rfl)
      · refine s_iload3 hK dX7_bestPins_125 ?_
        refine s_iconst (v := 4) hK dX7_bestPins_126 (by decide) ?_
        refine s_iadd hK dX7_bestPins_127 ?_
        refine s_goto (tgt := 133) hK dX7_bestPins_128 (by decide) ?_
        exact s_iret hK hE dX7_bestPins_133 rfl (by first | (rw [mpR, if_pos c_111]; done) | (rw [mpR, if_neg c_111, if_pos c_122]; done) | (rw [mpR, if_neg c_111, if_neg c_122]; first | done | rfl)) (rfl)
    · refine s_iload2 hK dX7_bestPins_114 ?_
      refine s_iconst (v := 4) hK dX7_bestPins_115 (by decide) ?_
      refine s_iadd hK dX7_bestPins_116 ?_
      refine s_goto (tgt := 133) hK dX7_bestPins_117 (by decide) ?_
      exact s_iret hK hE dX7_bestPins_133 rfl (by first | (rw [mpR, if_pos c_111]; done) | (rw [mpR, if_neg c_111, if_pos c_122]; done) | (rw [mpR, if_neg c_111, if_neg c_122]; first | done | rfl)) (rfl)
  have hb1 : ∀ k1 : Nat, k1 < 9 → (∀ z6 : Option Value, AW K 35 [some (.ref 700), some (.int a), some (.int (mpF (lY σ) (9 * (k1 + 1))).1), some (.int (mpF (lY σ) (9 * (k1 + 1))).2.1), some (.int (mpF (lY σ) (9 * (k1 + 1))).2.2), some (.int (nI (k1 + 1) - 4)), z6] [] (mpS (lY σ) (9 * (k1 + 1)))) → (∀ z6 : Option Value, AW K 35 [some (.ref 700), some (.int a), some (.int (mpF (lY σ) (9 * k1)).1), some (.int (mpF (lY σ) (9 * k1)).2.1), some (.int (mpF (lY σ) (9 * k1)).2.2), some (.int (nI k1 - 4)), z6] [] (mpS (lY σ) (9 * k1))) := by
    intro k1 hk1 ih1 z6
    have hx2 : AW K 45 [some (.ref 700), some (.int a), some (.int (mpF (lY σ) (9 * k1 + 9)).1), some (.int (mpF (lY σ) (9 * k1 + 9)).2.1), some (.int (mpF (lY σ) (9 * k1 + 9)).2.2), some (.int (nI k1 - 4)), some (.int (nI 9 - 4))] [] (mpS (lY σ) (9 * k1 + 9)) := by
      refine s_iload6 hK dX7_bestPins_45 ?_
      refine s_iconst (v := 4) hK dX7_bestPins_47 (by decide) ?_
      refine s_icmp_gt (tgt := 104) hK dX7_bestPins_48 (by decide) (fun c_48 => ?_) (fun c_48 => absurd c_48 (fun q => q (cnt_out (r := 4) (by decide))))
      refine s_iinc5 hK dX7_bestPins_104 (hv_1 _) ?_
      refine s_goto (tgt := 35) hK dX7_bestPins_107 (by decide) ?_
      exact AW.to (ih1 _) (by rw [show (4 : Int32) = nI 4 from rfl, step_r, Nat.mul_succ]) (by rw [Nat.mul_succ])
    have hb2 : ∀ k2 : Nat, k2 < 9 → AW K 45 [some (.ref 700), some (.int a), some (.int (mpF (lY σ) (9 * k1 + (k2 + 1))).1), some (.int (mpF (lY σ) (9 * k1 + (k2 + 1))).2.1), some (.int (mpF (lY σ) (9 * k1 + (k2 + 1))).2.2), some (.int (nI k1 - 4)), some (.int (nI (k2 + 1) - 4))] [] (mpS (lY σ) (9 * k1 + (k2 + 1))) → AW K 45 [some (.ref 700), some (.int a), some (.int (mpF (lY σ) (9 * k1 + k2)).1), some (.int (mpF (lY σ) (9 * k1 + k2)).2.1), some (.int (mpF (lY σ) (9 * k1 + k2)).2.2), some (.int (nI k1 - 4)), some (.int (nI k2 - 4))] [] (mpS (lY σ) (9 * k1 + k2)) := by
      intro k2 hk2 ih2 
      refine s_iload6 hK dX7_bestPins_45 ?_
      refine s_iconst (v := 4) hK dX7_bestPins_47 (by decide) ?_
      refine s_icmp_gt (tgt := 104) hK dX7_bestPins_48 (by decide) (fun c_48 => absurd c_48 (nine_in hk2)) (fun c_48 => ?_)
      have es : mpS (lY σ) (9 * k1 + k2 + 1) = kK (lY σ) (sXM (lY σ) (nI k1 - 4)) (sYM (lY σ) (nI k2 - 4)) := by show kK (lY σ) _ _ = _; rw [show (9 * k1 + k2) / 9 = k1 by omega, show (9 * k1 + k2) % 9 = k2 by omega]
      have ew : kK (lY σ) (sXM (lY σ) (nI k1 - 4)) (sYM (lY σ) (nI k2 - 4)) 700 8 + kK (lY σ) (sXM (lY σ) (nI k1 - 4)) (sYM (lY σ) (nI k2 - 4)) 700 9 = mpW (lY σ) (9 * k1 + k2) := by unfold mpW; rw [show (9 * k1 + k2) / 9 = k1 by omega, show (9 * k1 + k2) % 9 = k2 by omega]
      refine s_aload0 hK dX7_bestPins_51 ?_
      refine s_aload0 hK dX7_bestPins_52 ?_
      refine s_iload5 hK dX7_bestPins_53 ?_
      refine s_callV (ci := 7) hK mdX7_shiftX (zX7_shiftX _) gX7_bestPins_X7_shiftX rfl rfl rfl (by decide) rfl ⟨Nat.le_of_ble_eq_true rfl, Nat.le_of_ble_eq_true rfl⟩ rfl (Nat.le_of_ble_eq_true rfl) dX7_bestPins_55 ?_
      try dsimp only [Option.toList, List.cons_append, List.nil_append]
      rw [mpS_X]
      refine s_aload0 hK dX7_bestPins_58 ?_
      refine s_iload6 hK dX7_bestPins_59 ?_
      refine s_callV (ci := 7) hK mdX7_shiftY (zX7_shiftY _) gX7_bestPins_X7_shiftY rfl rfl rfl (by decide) rfl ⟨Nat.le_of_ble_eq_true rfl, Nat.le_of_ble_eq_true rfl⟩ rfl (Nat.le_of_ble_eq_true rfl) dX7_bestPins_61 ?_
      try dsimp only [Option.toList, List.cons_append, List.nil_append]
      rw [mpS_Y]
      refine s_callV (ci := 7) hK mdX7_check (zX7_check _ _) gX7_bestPins_X7_check rfl rfl rfl (by decide) rfl ⟨Nat.le_of_ble_eq_true rfl, Nat.le_of_ble_eq_true rfl⟩ rfl (Nat.le_of_ble_eq_true rfl) dX7_bestPins_64 ?_
      try dsimp only [Option.toList, List.cons_append, List.nil_append]
      rw [mpS_k]
      refine s_aload0 hK dX7_bestPins_67 ?_
      refine s_geti (ci := 7) (k := 8) hK rfl rfl i_7 (by decide +kernel) dX7_bestPins_68 (by decide) (by decide) (by decide) rfl rfl ?_
      refine s_aload0 hK dX7_bestPins_71 ?_
      refine s_geti (ci := 7) (k := 9) hK rfl rfl i_7 (by decide +kernel) dX7_bestPins_72 (by decide) (by decide) (by decide) rfl rfl ?_
      refine s_iadd hK dX7_bestPins_75 ?_
      rw [ew]
      refine s_iload4 hK dX7_bestPins_76 ?_
      refine s_icmp_ge (tgt := 98) hK dX7_bestPins_78 (by decide) (fun c_78 => ?_) (fun c_78 => ?_)
      · refine s_iinc6 hK dX7_bestPins_98 (hv_1 _) ?_
        refine s_goto (tgt := 45) hK dX7_bestPins_101 (by decide) ?_
        exact AW.to ih2 (by first | (rw [show 9 * k1 + (k2 + 1) = 9 * k1 + k2 + 1 from rfl, mpF_no c_78, show (4 : Int32) = nI 4 from rfl, step_r]; done) | (rw [show 9 * k1 + (k2 + 1) = 9 * k1 + k2 + 1 from rfl, mpF_y c_78, show (9 * k1 + k2) / 9 = k1 by omega, show (9 * k1 + k2) % 9 = k2 by omega, show (4 : Int32) = nI 4 from rfl, step_r]; done)) (by rw [show 9 * k1 + (k2 + 1) = 9 * k1 + k2 + 1 from rfl, es])
      · refine s_aload0 hK dX7_bestPins_81 ?_
        refine s_geti (ci := 7) (k := 8) hK rfl rfl i_7 (by decide +kernel) dX7_bestPins_82 (by decide) (by decide) (by decide) rfl rfl ?_
        refine s_aload0 hK dX7_bestPins_85 ?_
        refine s_geti (ci := 7) (k := 9) hK rfl rfl i_7 (by decide +kernel) dX7_bestPins_86 (by decide) (by decide) (by decide) rfl rfl ?_
        refine s_iadd hK dX7_bestPins_89 ?_
        rw [ew]
        refine s_istore4 hK dX7_bestPins_90 ?_
        refine s_iload5 hK dX7_bestPins_92 ?_
        refine s_istore2 hK dX7_bestPins_94 ?_
        refine s_iload6 hK dX7_bestPins_95 ?_
        refine s_istore3 hK dX7_bestPins_97 ?_
        refine s_iinc6 hK dX7_bestPins_98 (hv_1 _) ?_
        refine s_goto (tgt := 45) hK dX7_bestPins_101 (by decide) ?_
        exact AW.to ih2 (by first | (rw [show 9 * k1 + (k2 + 1) = 9 * k1 + k2 + 1 from rfl, mpF_no c_78, show (4 : Int32) = nI 4 from rfl, step_r]; done) | (rw [show 9 * k1 + (k2 + 1) = 9 * k1 + k2 + 1 from rfl, mpF_y c_78, show (9 * k1 + k2) / 9 = k1 by omega, show (9 * k1 + k2) % 9 = k2 by omega, show (4 : Int32) = nI 4 from rfl, step_r]; done)) (by rw [show 9 * k1 + (k2 + 1) = 9 * k1 + k2 + 1 from rfl, es])
    refine s_iload5 hK dX7_bestPins_35 ?_
    refine s_iconst (v := 4) hK dX7_bestPins_37 (by decide) ?_
    refine s_icmp_gt (tgt := 110) hK dX7_bestPins_38 (by decide) (fun c_38 => absurd c_38 (nine_in hk1)) (fun c_38 => ?_)
    refine s_bipush (v := -4) hK dX7_bestPins_41 (by decide) ?_
    refine s_istore6 hK dX7_bestPins_43 ?_
    exact AW.to (up_to (fun kx => AW K 45 [some (.ref 700), some (.int a), some (.int (mpF (lY σ) (9 * k1 + kx)).1), some (.int (mpF (lY σ) (9 * k1 + kx)).2.1), some (.int (mpF (lY σ) (9 * k1 + kx)).2.2), some (.int (nI k1 - 4)), some (.int (nI kx - 4))] [] (mpS (lY σ) (9 * k1 + kx))) 9 hx2 hb2) (rfl) (rfl)
  refine s_aload0 hK dX7_bestPins_0 ?_
  refine s_iconst (v := 0) hK dX7_bestPins_1 (by decide) ?_
  refine s_putg (ci := 7) (k := 0) (ty := .int) hK rfl rfl i_7 (by decide +kernel) dX7_bestPins_2 tyX7_ok nmX7 (by decide) (by decide) (by decide) rfl rfl rfl (by decide +kernel) rfl rfl ?_
  rw [thr h0]
  refine s_iload1 hK dX7_bestPins_5 ?_
  refine s_iconst (v := 0) hK dX7_bestPins_6 (by decide) ?_
  refine s_iconst (v := 2) hK dX7_bestPins_7 (by decide) ?_
  refine s_callS hK mdX7_in (zX7_in _ _ _) gX7_bestPins_X7_in rfl ⟨Nat.le_of_ble_eq_true rfl, Nat.le_of_ble_eq_true rfl⟩ rfl (Nat.le_of_ble_eq_true rfl) dX7_bestPins_8 ?_
  try dsimp only [Option.toList, List.cons_append, List.nil_append]
  refine s_if_ne (tgt := 18) hK dX7_bestPins_11 (by decide) (fun c_11 => ?_) (fun c_11 => absurd c_11 (b2y' ha))
  refine s_aload0 hK dX7_bestPins_18 ?_
  refine s_callV (ci := 7) hK mdX7_lay (zX7_lay) gX7_bestPins_X7_lay rfl rfl rfl (by decide) rfl ⟨Nat.le_of_ble_eq_true rfl, Nat.le_of_ble_eq_true rfl⟩ rfl (Nat.le_of_ble_eq_true rfl) dX7_bestPins_19 ?_
  try dsimp only [Option.toList, List.cons_append, List.nil_append]
  refine s_iconst (v := 0) hK dX7_bestPins_22 (by decide) ?_
  refine s_istore2 hK dX7_bestPins_23 ?_
  refine s_iconst (v := 0) hK dX7_bestPins_24 (by decide) ?_
  refine s_istore3 hK dX7_bestPins_25 ?_
  refine s_sipush (v := 385) hK dX7_bestPins_26 (by decide) ?_
  refine s_istore4 hK dX7_bestPins_29 ?_
  refine s_bipush (v := -4) hK dX7_bestPins_31 (by decide) ?_
  refine s_istore5 hK dX7_bestPins_33 ?_
  exact AW.to (up_to (fun kx => ∀ z6 : Option Value, AW K 35 [some (.ref 700), some (.int a), some (.int (mpF (lY σ) (9 * kx)).1), some (.int (mpF (lY σ) (9 * kx)).2.1), some (.int (mpF (lY σ) (9 * kx)).2.2), some (.int (nI kx - 4)), z6] [] (mpS (lY σ) (9 * kx))) 9 hx1 hb1 _) (rfl) (rfl)
set_option maxHeartbeats 4000000 in
set_option maxRecDepth 100000 in
theorem zX7_printsLeft {g : aG} {l : Launch} {σ : aS} (h0 : σ 700 0 = 0) : CN g l yX7_printsLeft wsX7_printsLeft 4 90 [.ref 700] σ (some (.int (if (500 : Int32) < plM (lY σ) 192 then -1009 else plM (lY σ) 192))) (lY σ) := by
  refine cn_of (cc := cX7_printsLeft) (nL := 4) (ret := (some .int)) (own := RX7) (by decide +kernel) rfl rfl (Nat.le_of_ble_eq_true rfl) (fun K hg hl hK hE => ?_)
  subst hg; subst hl
  have i_7 : ∀ w ∈ u_ws RX7 TX7 15, w ∈ wsX7_printsLeft := by decide +kernel
  show AW K 0 [some (.ref 700), none, none, none] [] σ
  have hx1 : (∀ z3 : Option Value, AW K 15 [some (.ref 700), some (.int (plM (lY σ) 192)), some (.int (nI 192)), z3] [] (lY σ)) := by
    intro z3
    refine s_iload2 hK dX7_printsLeft_15 ?_
    refine s_sipush (v := 192) hK dX7_printsLeft_16 (by decide) ?_
    refine s_icmp_ge (tgt := 81) hK dX7_printsLeft_19 (by decide) (fun c_19 => ?_) (fun c_19 => absurd c_19 (fun q => q (ge_E rfl rfl)))
    refine s_iload1 hK dX7_printsLeft_81 ?_
    refine s_sipush (v := 500) hK dX7_printsLeft_82 (by decide) ?_
    refine s_icmp_le (tgt := 94) hK dX7_printsLeft_85 (by decide) (fun c_85 => ?_) (fun c_85 => ?_)
    · refine s_iload1 hK dX7_printsLeft_94 ?_
      exact s_iret hK hE dX7_printsLeft_95 rfl (by first | (rw [if_neg (fa_of_nle2 c_85)]; done) | (rw [if_pos (fa_of_nle c_85)]; done)) (rfl)
    · refine s_sipush (v := -1009) hK dX7_printsLeft_88 (by decide) ?_
      refine s_goto (tgt := 95) hK dX7_printsLeft_91 (by decide) ?_
      exact s_iret hK hE dX7_printsLeft_95 rfl (by first | (rw [if_neg (fa_of_nle2 c_85)]; done) | (rw [if_pos (fa_of_nle c_85)]; done)) (rfl)
  have hb1 : ∀ k1 : Nat, k1 < 192 → (∀ z3 : Option Value, AW K 15 [some (.ref 700), some (.int (plM (lY σ) (k1 + 1))), some (.int (nI (k1 + 1))), z3] [] (lY σ)) → (∀ z3 : Option Value, AW K 15 [some (.ref 700), some (.int (plM (lY σ) k1)), some (.int (nI k1)), z3] [] (lY σ)) := by
    intro k1 hk1 ih1 z3
    refine s_iload2 hK dX7_printsLeft_15 ?_
    refine s_sipush (v := 192) hK dX7_printsLeft_16 (by decide) ?_
    refine s_icmp_ge (tgt := 81) hK dX7_printsLeft_19 (by decide) (fun c_19 => absurd c_19 (ge_N rfl rfl hk1 (by decide))) (fun c_19 => ?_)
    refine AW.cut (j := 63) (v := if lY σ 704 k1 = 1 then (lY σ 701 771 - lY σ 701 (384 + k1)) / ruV (lY σ) k1 + 1 else plM (lY σ) k1) (fun hJ_63 => ?_) ?_
    · refine s_aload0 hK dX7_printsLeft_22 ?_
      refine s_getr (ci := 7) (k := 6) hK rfl rfl i_7 (by decide +kernel) dX7_printsLeft_23 (by decide) (by decide) (by decide) rfl rfl (rf_7_6 rfl) ?_
      refine s_iload2 hK dX7_printsLeft_26 ?_
      refine s_iald hK rfl (show vp_in _ 384 from vp_in_nI (show k1 < 384 by omega) (by decide)) dX7_printsLeft_27 ?_
      rw [cl_nI (show k1 < 2 ^ 31 by omega)]
      refine s_iconst (v := 1) hK dX7_printsLeft_28 (by decide) ?_
      refine s_icmp_ne (tgt := 62) hK dX7_printsLeft_29 (by decide) (fun c_29 => ?_) (fun c_29 => ?_)
      · refine s_iload1 hK dX7_printsLeft_62 ?_
        exact AW.vv hJ_63 (by simp [c_29])
      · refine s_aload0 hK dX7_printsLeft_32 ?_
        refine s_getr (ci := 7) (k := 1) hK rfl rfl i_7 (by decide +kernel) dX7_printsLeft_33 (by decide) (by decide) (by decide) rfl rfl (rf_7_1 rfl) ?_
        refine s_sipush (v := 771) hK dX7_printsLeft_36 (by decide) ?_
        refine s_ialdv (v := lY σ 701 771) (rfl) hK rfl (show vp_in _ 2374 from vp_in_nI (n := 771) (by decide) (by decide)) dX7_printsLeft_39 ?_
        refine s_aload0 hK dX7_printsLeft_40 ?_
        refine s_getr (ci := 7) (k := 1) hK rfl rfl i_7 (by decide +kernel) dX7_printsLeft_41 (by decide) (by decide) (by decide) rfl rfl (rf_7_1 rfl) ?_
        refine s_sipush (v := 384) hK dX7_printsLeft_44 (by decide) ?_
        refine s_iload2 hK dX7_printsLeft_47 ?_
        refine s_iadd hK dX7_printsLeft_48 ?_
        rw [show (384 : Int32) = nI 384 from rfl, nI_add]
        refine s_iald hK rfl (show vp_in _ 2374 from vp_in_nI (show 384 + k1 < 2374 by omega) (by decide)) dX7_printsLeft_49 ?_
        rw [cl_nI (show 384 + k1 < 2 ^ 31 by omega)]
        refine s_isub hK dX7_printsLeft_50 ?_
        refine s_aload0 hK dX7_printsLeft_51 ?_
        refine s_iload2 hK dX7_printsLeft_52 ?_
        refine s_callV (ci := 7) hK mdX7_rubs (zX7_rubs k1 hk1) gX7_printsLeft_X7_rubs rfl rfl rfl (by decide) rfl ⟨Nat.le_of_ble_eq_true rfl, Nat.le_of_ble_eq_true rfl⟩ rfl (Nat.le_of_ble_eq_true rfl) dX7_printsLeft_53 ?_
        try dsimp only [Option.toList, List.cons_append, List.nil_append]
        refine s_idiv hK dX7_printsLeft_56 (ruV_ne0 _ _) ?_
        refine s_iconst (v := 1) hK dX7_printsLeft_57 (by decide) ?_
        refine s_iadd hK dX7_printsLeft_58 ?_
        refine s_goto (tgt := 63) hK dX7_printsLeft_59 (by decide) ?_
        exact AW.vv hJ_63 (by simp [c_29])
    show AW K _ _ _ _
    refine s_istore3 hK dX7_printsLeft_63 ?_
    refine AW.cut (j := 74) (v := plM (lY σ) (k1 + 1)) (fun hJ_74 => ?_) ?_
    · refine s_iload3 hK dX7_printsLeft_64 ?_
      refine s_iload1 hK dX7_printsLeft_65 ?_
      refine s_icmp_ge (tgt := 73) hK dX7_printsLeft_66 (by decide) (fun c_66 => ?_) (fun c_66 => ?_)
      · refine s_iload1 hK dX7_printsLeft_73 ?_
        exact AW.vv hJ_74 (by first | exact (if_neg (fa_of_nle2 c_66)).symm | exact (if_pos (fa_of_nle c_66)).symm)
      · refine s_iload3 hK dX7_printsLeft_69 ?_
        refine s_goto (tgt := 74) hK dX7_printsLeft_70 (by decide) ?_
        exact AW.vv hJ_74 (by first | exact (if_neg (fa_of_nle2 c_66)).symm | exact (if_pos (fa_of_nle c_66)).symm)
    show AW K _ _ _ _
    refine s_istore1 hK dX7_printsLeft_74 ?_
    refine s_iinc2 hK dX7_printsLeft_75 (hv_1 _) ?_
    refine s_goto (tgt := 15) hK dX7_printsLeft_78 (by decide) ?_
    exact AW.to (ih1 _) (by rw [nI_1]) (rfl)
  refine s_aload0 hK dX7_printsLeft_0 ?_
  refine s_iconst (v := 0) hK dX7_printsLeft_1 (by decide) ?_
  refine s_putg (ci := 7) (k := 0) (ty := .int) hK rfl rfl i_7 (by decide +kernel) dX7_printsLeft_2 tyX7_ok nmX7 (by decide) (by decide) (by decide) rfl rfl rfl (by decide +kernel) rfl rfl ?_
  rw [thr h0]
  refine s_aload0 hK dX7_printsLeft_5 ?_
  refine s_callV (ci := 7) hK mdX7_lay (zX7_lay) gX7_printsLeft_X7_lay rfl rfl rfl (by decide) rfl ⟨Nat.le_of_ble_eq_true rfl, Nat.le_of_ble_eq_true rfl⟩ rfl (Nat.le_of_ble_eq_true rfl) dX7_printsLeft_6 ?_
  try dsimp only [Option.toList, List.cons_append, List.nil_append]
  refine s_sipush (v := 501) hK dX7_printsLeft_9 (by decide) ?_
  refine s_istore1 hK dX7_printsLeft_12 ?_
  refine s_iconst (v := 0) hK dX7_printsLeft_13 (by decide) ?_
  refine s_istore2 hK dX7_printsLeft_14 ?_
  exact AW.to (up_to (fun kx => ∀ z3 : Option Value, AW K 15 [some (.ref 700), some (.int (plM (lY σ) kx)), some (.int (nI kx)), z3] [] (lY σ)) 192 hx1 hb1 _) (rfl) (rfl)
