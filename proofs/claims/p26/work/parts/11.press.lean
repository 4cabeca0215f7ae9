def iK (σ : aS) : aS := fI σ 10 607 (σ 1 3)
theorem iK_ne {σ : aS} {o : Nat} (h : o ≠ 611) : iK σ o = σ o := sP_ne h
theorem wR_to {σ σ2 : aS} {a : Nat} (h : wR σ a) (e : σ2 a = σ a) : wR σ2 a := by
  intro y hy i hi
  rw [e]
  exact h y hy i hi
theorem and16 {x : Int32} : ∀ i, 16 ≤ i → bt (x &&& 65535) i = false := by
  intro i hi
  rw [b_and, b_65535, decide_eq_false (by omega), Bool.and_false]
theorem wR_fI (σ : aS) (b c : Nat) (h : Int32) : wR (fI σ b c h) (c + 4) := by
  intro y hy
  unfold fI
  rw [sP_same, fa_fill_in hy]
  exact and16
theorem wR_iK (σ : aS) : wR (iK σ) 611 := wR_fI σ 10 607 (σ 1 3)
/-- what a state's copy leaves -/
theorem bL_ne {σ : aS} {a b o : Nat} (h : o ≠ a) : bL σ a b o = σ o := sP_ne h
theorem bB_ne {σ : aS} {a b o : Nat} (h : o < a ∨ a + 10 ≤ o) : bB σ a b o = σ o := by
  unfold bB
  rw [sP_ne (by omega), bL_ne (by omega), bL_ne (by omega), bL_ne (by omega), bL_ne (by omega)]
theorem lB_ne {σ : aS} {a b o : Nat} (h : o < a ∨ a + 2 ≤ o) : lB σ a b o = σ o := by
  unfold lB
  rw [sP_ne (by omega), sP_ne (by omega), sP_ne (by omega)]
theorem sB_ne {σ : aS} {a b o : Nat} (h : o < a ∨ a + 40 ≤ o) : sB σ a b o = σ o := by
  unfold sB sB4 sB3 sB2 sB1
  rw [sP_ne (by omega), sP_ne (by omega), bB_ne (by omega), bB_ne (by omega), sP_ne (by omega), sP_ne (by omega), sP_ne (by omega), lB_ne (by omega), sP_ne (by omega), bB_ne (by omega)]
theorem kp_ne {σ : aS} {nx o : Nat} (h : o < 100 * (nx + 1) ∨ 100 * (nx + 1) + 40 ≤ o) (h2 : o ≠ 601) : kp σ nx o = σ o := by
  unfold kp
  rw [sP_ne h2, sP_ne h2, sB_ne h]
theorem kp_lo {σ : aS} {nx o : Nat} (h : o < 100) : kp σ nx o = σ o := kp_ne (by omega) (by omega)
theorem wR_gIn {σ : aS} {a o : Nat} (h1 : wR σ a) (h2 : wR σ o) : wR (gIn σ a o) a := by
  intro y hy
  unfold gIn
  rw [sP_same, fa_fill_in hy]
  exact or_hi (h1 y hy) (and_hi2 (h2 y hy))
theorem wR_bL {σ : aS} {a b : Nat} (h : wR σ b) : wR (bL σ a b) a := by
  intro y hy
  unfold bL
  rw [sP_same, pk_cpy_in (by omega) (by omega), show 0 + (y - 0) = y by omega]
  exact h y hy
theorem cNt_ne {σ : aS} {a co li o : Nat} (h : o ≠ a) : ∀ t, cNt σ a co li t o = σ o
  | 0 => bL_ne h
  | t + 1 => by
    show gIn (cNt σ a co li t) a li o = σ o
    unfold gIn
    rw [sP_ne h, cNt_ne h t]
theorem wR_cNt {σ : aS} {a co li : Nat} (h1 : wR σ co) (h2 : wR σ li) (h3 : li ≠ a) : ∀ t, wR (cNt σ a co li t) a
  | 0 => wR_bL h1
  | t + 1 => wR_gIn (wR_cNt h1 h2 h3 t) (wR_to h2 (cNt_ne h3 t))
/-- the blocks' rows have 16 columns -/
def WB (σ : aS) : Prop := wR σ 15 ∧ wR σ 16 ∧ wR σ 17 ∧ wR σ 18
theorem WB.to {σ σ2 : aS} (h : WB σ) (e1 : σ2 15 = σ 15) (e2 : σ2 16 = σ 16) (e3 : σ2 17 = σ 17) (e4 : σ2 18 = σ 18) : WB σ2 := ⟨wR_to h.1 e1, wR_to h.2.1 e2, wR_to h.2.2.1 e3, wR_to h.2.2.2 e4⟩
theorem WB.iK {σ : aS} (h : WB σ) : WB (iK σ) := h.to (iK_ne (by decide)) (iK_ne (by decide)) (iK_ne (by decide)) (iK_ne (by decide))
theorem WB.kp {σ : aS} {nx : Nat} (h : WB σ) : WB (kp σ nx) := h.to (kp_lo (by decide)) (kp_lo (by decide)) (kp_lo (by decide)) (kp_lo (by decide))
def NX (σ : aS) (nx : Nat) : Prop := nx < 5 ∧ σ 601 2 = nI nx ∧ (σ 0 8 = 0 ∨ σ 0 8 = 1) ∧ (σ 0 9 = 0 ∨ σ 0 9 = 1)
def wC (σ : aS) : Int32 := nI (ct (px (iK σ) 17)) - nI (ct (px (iK σ) 611))
theorem b2y' {b : Bool} (h : b = true) : ¬ b2 b = 0 := by subst h; decide
theorem b2f {b : Bool} (h : b = false) : b2 b = 0 := by subst h; rfl
theorem wR_cAn {σ : aS} {t : Nat} (h : WB σ) : wR (cAn σ 10 t) 18 := by
  unfold cAn
  refine wR_cNt (a := 18) (co := 15) (li := 16) ?_ ?_ (by decide) t
  · exact wR_to h.1 (by rw [sP_ne (by decide), bL_ne (by decide)])
  · exact wR_to h.2.1 (by rw [sP_ne (by decide), bL_ne (by decide)])
def pvP (x y w h k : Int32) : Bool := pl x y && (wi w 1 (16 - x) && (wi h 1 (12 - y) && wi k 0 2))
theorem wi_sub {a b N : Nat} (h1 : 1 ≤ a) (h2 : b + a ≤ N) (hN : N < 2 ^ 30) : wi (nI a) 1 (nI N - nI b) = true := by
  rw [pk_sub (by omega)]
  have a1 : ¬ nI a < nI 1 := nI_nlt h1 (by omega)
  have a2 : ¬ nI (N - b) < nI a := nI_nlt (by omega) (by omega)
  unfold wi
  exact decide_eq_true ⟨a1, a2⟩
def sPn (σ : aS) (px_ py_ : Int32) : aS :=
  let σ1 := sP σ 0 (upd (σ 0) 3 px_)
  sP σ1 0 (upd (σ1 0) 4 py_)
def aCh (σ : aS) (n : Nat) (c : Int32) : aS :=
  let σ1 := sP σ 604 (upd (σ 604) n c)
  sP σ1 603 (upd (σ1 603) 1 (nI (n + 1)))
theorem cW_ne {σ : aS} {b o : Nat} {x y : Int32} (h : o ≠ b + 9) : cW σ b x y o = σ o := by
  unfold cW
  split
  · exact sP_ne h
  · rfl
theorem WB.cW {σ : aS} (h : WB σ) (x y : Int32) : WB (cW σ 10 x y) := h.to (cW_ne (by decide)) (cW_ne (by decide)) (cW_ne (by decide)) (cW_ne (by decide))
theorem sPn_ne {σ : aS} {a b : Int32} {o : Nat} (h : o ≠ 0) : sPn σ a b o = σ o := by
  unfold sPn
  rw [sP_ne h, sP_ne h]
theorem WB.sPn {σ : aS} (h : WB σ) (a b : Int32) : WB (sPn σ a b) := h.to (sPn_ne (by decide)) (sPn_ne (by decide)) (sPn_ne (by decide)) (sPn_ne (by decide))
theorem mdX6_findInk : MD yX6_findInk wsX6_findInk cX6_findInk 1 none 0 := ⟨⟨_, rfl⟩, by decide +kernel, by decide +kernel, by decide +kernel⟩
theorem mdX6_gapsWith : MD yX6_gapsWith wsX6_gapsWith cX6_gapsWith 3 (some .int) 2 := ⟨⟨_, rfl⟩, by decide +kernel, by decide +kernel, by decide +kernel⟩
theorem mdX6_spillsWith : MD yX6_spillsWith wsX6_spillsWith cX6_spillsWith 3 (some .int) 2 := ⟨⟨_, rfl⟩, by decide +kernel, by decide +kernel, by decide +kernel⟩
theorem mdX6_printsColour : MD yX6_printsColour wsX6_printsColour cX6_printsColour 5 (some .boolean) 4 := ⟨⟨_, rfl⟩, by decide +kernel, by decide +kernel, by decide +kernel⟩
theorem mdX6_wornCells : MD yX6_wornCells wsX6_wornCells cX6_wornCells 1 (some .int) 0 := ⟨⟨_, rfl⟩, by decide +kernel, by decide +kernel, by decide +kernel⟩
theorem mdX6_hasGapsWithin : MD yX6_hasGapsWithin wsX6_hasGapsWithin cX6_hasGapsWithin 6 (some .boolean) 3 := ⟨⟨_, rfl⟩, by decide +kernel, by decide +kernel, by decide +kernel⟩
theorem mdX6_makeOnePrint : MD yX6_makeOnePrint wsX6_makeOnePrint cX6_makeOnePrint 4 (some .int) 0 := ⟨⟨_, rfl⟩, by decide +kernel, by decide +kernel, by decide +kernel⟩
theorem mdX4_length : MD yX4_length wsX4_length cX4_length 1 (some .int) 0 := ⟨⟨_, rfl⟩, by decide +kernel, by decide +kernel, by decide +kernel⟩
theorem mdX6_paint : MD yX6_paint wsX6_paint cX6_paint 6 (some .int) 5 := ⟨⟨_, rfl⟩, by decide +kernel, by decide +kernel, by decide +kernel⟩
theorem mdX6_cut : MD yX6_cut wsX6_cut cX6_cut 2 (some .int) 1 := ⟨⟨_, rfl⟩, by decide +kernel, by decide +kernel, by decide +kernel⟩
theorem mdX6_carve : MD yX6_carve wsX6_carve cX6_carve 7 (some .int) 4 := ⟨⟨_, rfl⟩, by decide +kernel, by decide +kernel, by decide +kernel⟩
theorem mdX6_plug : MD yX6_plug wsX6_plug cX6_plug 3 (some .int) 2 := ⟨⟨_, rfl⟩, by decide +kernel, by decide +kernel, by decide +kernel⟩
theorem mdX6_setPins : MD yX6_setPins wsX6_setPins cX6_setPins 3 (some .int) 2 := ⟨⟨_, rfl⟩, by decide +kernel, by decide +kernel, by decide +kernel⟩
theorem mdX6_set : MD yX6_set wsX6_set cX6_set 4 (some .int) 2 := ⟨⟨_, rfl⟩, by decide +kernel, by decide +kernel, by decide +kernel⟩
theorem mdX6_print : MD yX6_print wsX6_print cX6_print 4 (some .int) 1 := ⟨⟨_, rfl⟩, by decide +kernel, by decide +kernel, by decide +kernel⟩
theorem mdX6_take : MD yX6_take wsX6_take cX6_take 2 (some .int) 1 := ⟨⟨_, rfl⟩, by decide +kernel, by decide +kernel, by decide +kernel⟩
theorem mdX6_restore : MD yX6_restore wsX6_restore cX6_restore 2 (some .int) 1 := ⟨⟨_, rfl⟩, by decide +kernel, by decide +kernel, by decide +kernel⟩
theorem mdX6_undo : MD yX6_undo wsX6_undo cX6_undo 1 (some .int) 0 := ⟨⟨_, rfl⟩, by decide +kernel, by decide +kernel, by decide +kernel⟩
theorem mdX6_count : MD yX6_count wsX6_count cX6_count 2 (some .int) 1 := ⟨⟨_, rfl⟩, by decide +kernel, by decide +kernel, by decide +kernel⟩
theorem mdX6_cell : MD yX6_cell wsX6_cell cX6_cell 4 (some .int) 3 := ⟨⟨_, rfl⟩, by decide +kernel, by decide +kernel, by decide +kernel⟩
theorem mdX6_printed : MD yX6_printed wsX6_printed cX6_printed 5 (some .int) 4 := ⟨⟨_, rfl⟩, by decide +kernel, by decide +kernel, by decide +kernel⟩
theorem mdX6_proof : MD yX6_proof wsX6_proof cX6_proof 3 (some .int) 2 := ⟨⟨_, rfl⟩, by decide +kernel, by decide +kernel, by decide +kernel⟩
theorem mdX6_faults : MD yX6_faults wsX6_faults cX6_faults 4 (some .int) 3 := ⟨⟨_, rfl⟩, by decide +kernel, by decide +kernel, by decide +kernel⟩
theorem mdX6_why : MD yX6_why wsX6_why cX6_why 6 (some .int) 2 := ⟨⟨_, rfl⟩, by decide +kernel, by decide +kernel, by decide +kernel⟩
theorem mdX6_tolerance : MD yX6_tolerance wsX6_tolerance cX6_tolerance 2 (some .int) 0 := ⟨⟨_, rfl⟩, by decide +kernel, by decide +kernel, by decide +kernel⟩
theorem mdX6_trapFor : MD yX6_trapFor wsX6_trapFor cX6_trapFor 4 (some .int) 1 := ⟨⟨_, rfl⟩, by decide +kernel, by decide +kernel, by decide +kernel⟩
theorem mdX6_bestPins : MD yX6_bestPins wsX6_bestPins cX6_bestPins 10 (some .int) 1 := ⟨⟨_, rfl⟩, by decide +kernel, by decide +kernel, by decide +kernel⟩
theorem mdX6_printsLeft : MD yX6_printsLeft wsX6_printsLeft cX6_printsLeft 2 (some .int) 0 := ⟨⟨_, rfl⟩, by decide +kernel, by decide +kernel, by decide +kernel⟩
set_option maxHeartbeats 4000000 in
set_option maxRecDepth 100000 in
theorem zX6_findInk {g : aG} {l : Launch} {σ : aS} : CN g l yX6_findInk wsX6_findInk 2 47 [.ref 600] σ none (iK σ) := by
  refine cn_of (cc := cX6_findInk) (nL := 1) (ret := none) (own := RX6) (by decide +kernel) rfl rfl (Nat.le_of_ble_eq_true rfl) (fun K hg hl hK hE => ?_)
  subst hg; subst hl
  have i_5 : ∀ w ∈ u_ws RX5 TX5 10, w ∈ wsX6_findInk := by decide +kernel
  have i_6 : ∀ w ∈ u_ws RX6 TX6 5, w ∈ wsX6_findInk := by decide +kernel
  show AW K 0 [some (.ref 600)] [] σ
  refine s_aload0 hK dX6_findInk_0 ?_
  refine s_getr (ci := 6) (k := 0) hK rfl rfl i_6 (by decide +kernel) dX6_findInk_1 (by decide) (by decide) (by decide) rfl rfl (rf_6_0 rfl) ?_
  refine s_getr (ci := 5) (k := 0) hK rfl rfl i_5 (by decide +kernel) dX6_findInk_4 (by decide) (by decide) (by decide) rfl rfl (rf_5_0 rfl) ?_
  refine s_aload0 hK dX6_findInk_7 ?_
  refine s_getr (ci := 6) (k := 3) hK rfl rfl i_6 (by decide +kernel) dX6_findInk_8 (by decide) (by decide) (by decide) rfl rfl (rf_6_3 rfl) ?_
  refine s_aload0 hK dX6_findInk_11 ?_
  refine s_getr (ci := 6) (k := 0) hK rfl rfl i_6 (by decide +kernel) dX6_findInk_12 (by decide) (by decide) (by decide) rfl rfl (rf_6_0 rfl) ?_
  refine s_callV (ci := 5) hK mdX5_hardness (zX5_hardness 0 rfl) gX6_findInk_X5_hardness rfl rfl rfl (by decide) rfl ⟨Nat.le_of_ble_eq_true rfl, Nat.le_of_ble_eq_true rfl⟩ rfl (Nat.le_of_ble_eq_true rfl) dX6_findInk_15 ?_
  try dsimp only [Option.toList, List.cons_append, List.nil_append]
  refine s_callV (ci := 0) hK mdX0_findInk (zX0_findInk 10 607 _ rfl rfl (by decide) (by decide)) gX6_findInk_X0_findInk rfl rfl rfl (by decide) rfl ⟨Nat.le_of_ble_eq_true rfl, Nat.le_of_ble_eq_true rfl⟩ rfl (Nat.le_of_ble_eq_true rfl) dX6_findInk_18 ?_
  try dsimp only [Option.toList, List.cons_append, List.nil_append]
  exact s_vret hK hE dX6_findInk_21 (rfl)
set_option maxHeartbeats 4000000 in
set_option maxRecDepth 100000 in
theorem zX6_gapsWith {g : aG} {l : Launch} {σ : aS} (sx sy : Int32) (h : WB σ) (hx : sxk sx) : CN g l yX6_gapsWith wsX6_gapsWith 3 72 [.ref 600, .int sx, .int sy] σ (some (.int (nI (ct (gG σ 10 607 14 sx sy))))) σ := by
  refine cn_of (cc := cX6_gapsWith) (nL := 3) (ret := (some .int)) (own := RX6) (by decide +kernel) rfl rfl (Nat.le_of_ble_eq_true rfl) (fun K hg hl hK hE => ?_)
  subst hg; subst hl
  have i_0 : ∀ w ∈ u_ws RX0 TX0 5, w ∈ wsX6_gapsWith := by decide +kernel
  have i_5 : ∀ w ∈ u_ws RX5 TX5 10, w ∈ wsX6_gapsWith := by decide +kernel
  have i_6 : ∀ w ∈ u_ws RX6 TX6 5, w ∈ wsX6_gapsWith := by decide +kernel
  show AW K 0 [some (.ref 600), some (.int sx), some (.int sy)] [] σ
  refine s_aload0 hK dX6_gapsWith_0 ?_
  refine s_getr (ci := 6) (k := 0) hK rfl rfl i_6 (by decide +kernel) dX6_gapsWith_1 (by decide) (by decide) (by decide) rfl rfl (rf_6_0 rfl) ?_
  refine s_getr (ci := 5) (k := 0) hK rfl rfl i_5 (by decide +kernel) dX6_gapsWith_4 (by decide) (by decide) (by decide) rfl rfl (rf_5_0 rfl) ?_
  refine s_aload0 hK dX6_gapsWith_7 ?_
  refine s_getr (ci := 6) (k := 3) hK rfl rfl i_6 (by decide +kernel) dX6_gapsWith_8 (by decide) (by decide) (by decide) rfl rfl (rf_6_3 rfl) ?_
  refine s_aload0 hK dX6_gapsWith_11 ?_
  refine s_getr (ci := 6) (k := 0) hK rfl rfl i_6 (by decide +kernel) dX6_gapsWith_12 (by decide) (by decide) (by decide) rfl rfl (rf_6_0 rfl) ?_
  refine s_getr (ci := 5) (k := 0) hK rfl rfl i_5 (by decide +kernel) dX6_gapsWith_15 (by decide) (by decide) (by decide) rfl rfl (rf_5_0 rfl) ?_
  refine s_getr (ci := 0) (k := 3) hK rfl rfl i_0 (by decide +kernel) dX6_gapsWith_18 (by decide) (by decide) (by decide) rfl rfl (rf_0_3 rfl) ?_
  refine s_iload1 hK dX6_gapsWith_21 ?_
  refine s_iload2 hK dX6_gapsWith_22 ?_
  refine s_callV (ci := 0) hK mdX0_gaps (zX0_gaps 10 607 14 sx sy rfl rfl rfl h.1 h.2.1 h.2.2.2 hx) gX6_gapsWith_X0_gaps rfl rfl rfl (by decide) rfl ⟨Nat.le_of_ble_eq_true rfl, Nat.le_of_ble_eq_true rfl⟩ rfl (Nat.le_of_ble_eq_true rfl) dX6_gapsWith_23 ?_
  try dsimp only [Option.toList, List.cons_append, List.nil_append]
  exact s_iret hK hE dX6_gapsWith_26 rfl (rfl) (rfl)
set_option maxHeartbeats 4000000 in
set_option maxRecDepth 100000 in
theorem zX6_spillsWith {g : aG} {l : Launch} {σ : aS} (sx sy : Int32) (h : WB σ) (hx : sxk sx) : CN g l yX6_spillsWith wsX6_spillsWith 3 71 [.ref 600, .int sx, .int sy] σ (some (.int (nI (ct (gS σ 10 14 sx sy))))) σ := by
  refine cn_of (cc := cX6_spillsWith) (nL := 3) (ret := (some .int)) (own := RX6) (by decide +kernel) rfl rfl (Nat.le_of_ble_eq_true rfl) (fun K hg hl hK hE => ?_)
  subst hg; subst hl
  have i_0 : ∀ w ∈ u_ws RX0 TX0 5, w ∈ wsX6_spillsWith := by decide +kernel
  have i_5 : ∀ w ∈ u_ws RX5 TX5 10, w ∈ wsX6_spillsWith := by decide +kernel
  have i_6 : ∀ w ∈ u_ws RX6 TX6 5, w ∈ wsX6_spillsWith := by decide +kernel
  show AW K 0 [some (.ref 600), some (.int sx), some (.int sy)] [] σ
  refine s_aload0 hK dX6_spillsWith_0 ?_
  refine s_getr (ci := 6) (k := 0) hK rfl rfl i_6 (by decide +kernel) dX6_spillsWith_1 (by decide) (by decide) (by decide) rfl rfl (rf_6_0 rfl) ?_
  refine s_getr (ci := 5) (k := 0) hK rfl rfl i_5 (by decide +kernel) dX6_spillsWith_4 (by decide) (by decide) (by decide) rfl rfl (rf_5_0 rfl) ?_
  refine s_aload0 hK dX6_spillsWith_7 ?_
  refine s_getr (ci := 6) (k := 0) hK rfl rfl i_6 (by decide +kernel) dX6_spillsWith_8 (by decide) (by decide) (by decide) rfl rfl (rf_6_0 rfl) ?_
  refine s_getr (ci := 5) (k := 0) hK rfl rfl i_5 (by decide +kernel) dX6_spillsWith_11 (by decide) (by decide) (by decide) rfl rfl (rf_5_0 rfl) ?_
  refine s_getr (ci := 0) (k := 3) hK rfl rfl i_0 (by decide +kernel) dX6_spillsWith_14 (by decide) (by decide) (by decide) rfl rfl (rf_0_3 rfl) ?_
  refine s_iload1 hK dX6_spillsWith_17 ?_
  refine s_iload2 hK dX6_spillsWith_18 ?_
  refine s_callV (ci := 0) hK mdX0_spills (zX0_spills 10 14 sx sy rfl rfl h.2.2.2 hx) gX6_spillsWith_X0_spills rfl rfl rfl (by decide) rfl ⟨Nat.le_of_ble_eq_true rfl, Nat.le_of_ble_eq_true rfl⟩ rfl (Nat.le_of_ble_eq_true rfl) dX6_spillsWith_19 ?_
  try dsimp only [Option.toList, List.cons_append, List.nil_append]
  exact s_iret hK hE dX6_spillsWith_22 rfl (rfl) (rfl)
set_option maxHeartbeats 4000000 in
set_option maxRecDepth 100000 in
theorem zX6_printsColour {g : aG} {l : Launch} {σ : aS} (x y sx sy : Int32) : CN g l yX6_printsColour wsX6_printsColour 2 43 [.ref 600, .int x, .int y, .int sx, .int sy] σ (some (.int (b2 (hs σ 18 (x - sx) (y - sy))))) σ := by
  refine cn_of (cc := cX6_printsColour) (nL := 5) (ret := (some .boolean)) (own := RX6) (by decide +kernel) rfl rfl (Nat.le_of_ble_eq_true rfl) (fun K hg hl hK hE => ?_)
  subst hg; subst hl
  have i_0 : ∀ w ∈ u_ws RX0 TX0 5, w ∈ wsX6_printsColour := by decide +kernel
  have i_5 : ∀ w ∈ u_ws RX5 TX5 10, w ∈ wsX6_printsColour := by decide +kernel
  have i_6 : ∀ w ∈ u_ws RX6 TX6 5, w ∈ wsX6_printsColour := by decide +kernel
  show AW K 0 [some (.ref 600), some (.int x), some (.int y), some (.int sx), some (.int sy)] [] σ
  refine s_aload0 hK dX6_printsColour_0 ?_
  refine s_getr (ci := 6) (k := 0) hK rfl rfl i_6 (by decide +kernel) dX6_printsColour_1 (by decide) (by decide) (by decide) rfl rfl (rf_6_0 rfl) ?_
  refine s_getr (ci := 5) (k := 0) hK rfl rfl i_5 (by decide +kernel) dX6_printsColour_4 (by decide) (by decide) (by decide) rfl rfl (rf_5_0 rfl) ?_
  refine s_getr (ci := 0) (k := 3) hK rfl rfl i_0 (by decide +kernel) dX6_printsColour_7 (by decide) (by decide) (by decide) rfl rfl (rf_0_3 rfl) ?_
  refine s_iload1 hK dX6_printsColour_10 ?_
  refine s_iload3 hK dX6_printsColour_11 ?_
  refine s_isub hK dX6_printsColour_12 ?_
  refine s_iload2 hK dX6_printsColour_13 ?_
  refine s_iload4 hK dX6_printsColour_14 ?_
  refine s_isub hK dX6_printsColour_16 ?_
  refine s_callV (ci := 1) hK mdX1_has (zX1_has 14 _ _ rfl) gX6_printsColour_X1_has rfl rfl rfl (by decide) rfl ⟨Nat.le_of_ble_eq_true rfl, Nat.le_of_ble_eq_true rfl⟩ rfl (Nat.le_of_ble_eq_true rfl) dX6_printsColour_17 ?_
  try dsimp only [Option.toList, List.cons_append, List.nil_append]
  exact s_iret hK hE dX6_printsColour_20 (b2_z _) (rfl) (rfl)
set_option maxHeartbeats 4000000 in
set_option maxRecDepth 100000 in
theorem zX6_wornCells {g : aG} {l : Launch} {σ : aS} (h : WB σ) : CN g l yX6_wornCells wsX6_wornCells 3 67 [.ref 600] σ (some (.int (wC σ))) (iK σ) := by
  refine cn_of (cc := cX6_wornCells) (nL := 1) (ret := (some .int)) (own := RX6) (by decide +kernel) rfl rfl (Nat.le_of_ble_eq_true rfl) (fun K hg hl hK hE => ?_)
  subst hg; subst hl
  have i_0 : ∀ w ∈ u_ws RX0 TX0 5, w ∈ wsX6_wornCells := by decide +kernel
  have i_5 : ∀ w ∈ u_ws RX5 TX5 10, w ∈ wsX6_wornCells := by decide +kernel
  have i_6 : ∀ w ∈ u_ws RX6 TX6 5, w ∈ wsX6_wornCells := by decide +kernel
  show AW K 0 [some (.ref 600)] [] σ
  refine s_aload0 hK dX6_wornCells_0 ?_
  refine s_callV (ci := 6) hK mdX6_findInk (zX6_findInk) gX6_wornCells_X6_findInk rfl rfl rfl (by decide) rfl ⟨Nat.le_of_ble_eq_true rfl, Nat.le_of_ble_eq_true rfl⟩ rfl (Nat.le_of_ble_eq_true rfl) dX6_wornCells_1 ?_
  try dsimp only [Option.toList, List.cons_append, List.nil_append]
  refine s_aload0 hK dX6_wornCells_4 ?_
  refine s_getr (ci := 6) (k := 0) hK rfl rfl i_6 (by decide +kernel) dX6_wornCells_5 (by decide) (by decide) (by decide) rfl rfl (rf_6_0 rfl) ?_
  refine s_getr (ci := 5) (k := 0) hK rfl rfl i_5 (by decide +kernel) dX6_wornCells_8 (by decide) (by decide) (by decide) rfl rfl (rf_5_0 rfl) ?_
  refine s_getr (ci := 0) (k := 2) hK rfl rfl i_0 (by decide +kernel) dX6_wornCells_11 (by decide) (by decide) (by decide) rfl rfl (rf_0_2 rfl) ?_
  refine s_callV (ci := 1) hK mdX1_size (zX1_size 13 rfl h.iK.2.2.1) gX6_wornCells_X1_size rfl rfl rfl (by decide) rfl ⟨Nat.le_of_ble_eq_true rfl, Nat.le_of_ble_eq_true rfl⟩ rfl (Nat.le_of_ble_eq_true rfl) dX6_wornCells_14 ?_
  try dsimp only [Option.toList, List.cons_append, List.nil_append]
  refine s_aload0 hK dX6_wornCells_17 ?_
  refine s_getr (ci := 6) (k := 3) hK rfl rfl i_6 (by decide +kernel) dX6_wornCells_18 (by decide) (by decide) (by decide) rfl rfl (rf_6_3 rfl) ?_
  refine s_callV (ci := 1) hK mdX1_size (zX1_size 607 rfl (wR_iK σ)) gX6_wornCells_X1_size rfl rfl rfl (by decide) rfl ⟨Nat.le_of_ble_eq_true rfl, Nat.le_of_ble_eq_true rfl⟩ rfl (Nat.le_of_ble_eq_true rfl) dX6_wornCells_21 ?_
  try dsimp only [Option.toList, List.cons_append, List.nil_append]
  refine s_isub hK dX6_wornCells_24 ?_
  exact s_iret hK hE dX6_wornCells_25 rfl (rfl) (rfl)
set_option maxHeartbeats 4000000 in
set_option maxRecDepth 100000 in
theorem zX4_length {g : aG} {l : Launch} {σ : aS} (o : Nat) (ho : kd o = 4) : CN g l yX4_length wsX4_length 0 0 [.ref o] σ (some (.int (σ o 1))) σ := by
  refine cn_of (cc := cX4_length) (nL := 1) (ret := (some .int)) (own := RX4) (by decide +kernel) rfl rfl (Nat.le_of_ble_eq_true rfl) (fun K hg hl hK hE => ?_)
  subst hg; subst hl
  have i_4 : ∀ w ∈ u_ws RX4 TX4 6, w ∈ wsX4_length := by decide +kernel
  show AW K 0 [some (.ref o)] [] σ
  refine s_aload0 hK dX4_length_0 ?_
  refine s_geti (ci := 4) (k := 1) hK ho rfl i_4 (by decide +kernel) dX4_length_1 (by decide) (by decide) (by decide) rfl rfl ?_
  exact s_iret hK hE dX4_length_4 rfl (rfl) (rfl)
set_option maxHeartbeats 4000000 in
set_option maxRecDepth 100000 in
theorem zX6_paint_bad {g : aG} {l : Launch} {σ : aS} (x y w h k : Int32) (hbad : pvP x y w h k = false) : CN g l yX6_paint wsX6_paint 5 111 [.ref 600, .int x, .int y, .int w, .int h, .int k] σ (some (.int (-1001))) σ := by
  refine cn_of (cc := cX6_paint) (nL := 6) (ret := (some .int)) (own := RX6) (by decide +kernel) rfl rfl (Nat.le_of_ble_eq_true rfl) (fun K hg hl hK hE => ?_)
  subst hg; subst hl
  have i_5 : ∀ w ∈ u_ws RX5 TX5 10, w ∈ wsX6_paint := by decide +kernel
  have i_6 : ∀ w ∈ u_ws RX6 TX6 5, w ∈ wsX6_paint := by decide +kernel
  show AW K 0 [some (.ref 600), some (.int x), some (.int y), some (.int w), some (.int h), some (.int k)] [] σ
  refine s_iload1 hK dX6_paint_0 ?_
  refine s_iload2 hK dX6_paint_1 ?_
  refine s_callS hK mdX6_isPlace (zX6_isPlace _ _) gX6_paint_X6_isPlace rfl ⟨Nat.le_of_ble_eq_true rfl, Nat.le_of_ble_eq_true rfl⟩ rfl (Nat.le_of_ble_eq_true rfl) dX6_paint_2 ?_
  try dsimp only [Option.toList, List.cons_append, List.nil_append]
  refine s_if_eq (tgt := 43) hK dX6_paint_5 (by decide) (fun c_5 => ?_) (fun c_5 => ?_)
  · refine s_sipush (v := -1001) hK dX6_paint_43 (by decide) ?_
    exact s_iret hK hE dX6_paint_46 rfl (rfl) (rfl)
  · refine s_iload3 hK dX6_paint_8 ?_
    refine s_iconst (v := 1) hK dX6_paint_9 (by decide) ?_
    refine s_bipush (v := 16) hK dX6_paint_10 (by decide) ?_
    refine s_iload1 hK dX6_paint_12 ?_
    refine s_isub hK dX6_paint_13 ?_
    refine s_callS hK mdX6_isWithin (zX6_isWithin _ _ _) gX6_paint_X6_isWithin rfl ⟨Nat.le_of_ble_eq_true rfl, Nat.le_of_ble_eq_true rfl⟩ rfl (Nat.le_of_ble_eq_true rfl) dX6_paint_14 ?_
    try dsimp only [Option.toList, List.cons_append, List.nil_append]
    refine s_if_eq (tgt := 43) hK dX6_paint_17 (by decide) (fun c_17 => ?_) (fun c_17 => ?_)
    · refine s_sipush (v := -1001) hK dX6_paint_43 (by decide) ?_
      exact s_iret hK hE dX6_paint_46 rfl (rfl) (rfl)
    · refine s_iload4 hK dX6_paint_20 ?_
      refine s_iconst (v := 1) hK dX6_paint_22 (by decide) ?_
      refine s_bipush (v := 12) hK dX6_paint_23 (by decide) ?_
      refine s_iload2 hK dX6_paint_25 ?_
      refine s_isub hK dX6_paint_26 ?_
      refine s_callS hK mdX6_isWithin (zX6_isWithin _ _ _) gX6_paint_X6_isWithin rfl ⟨Nat.le_of_ble_eq_true rfl, Nat.le_of_ble_eq_true rfl⟩ rfl (Nat.le_of_ble_eq_true rfl) dX6_paint_27 ?_
      try dsimp only [Option.toList, List.cons_append, List.nil_append]
      refine s_if_eq (tgt := 43) hK dX6_paint_30 (by decide) (fun c_30 => ?_) (fun c_30 => ?_)
      · refine s_sipush (v := -1001) hK dX6_paint_43 (by decide) ?_
        exact s_iret hK hE dX6_paint_46 rfl (rfl) (rfl)
      · refine s_iload5 hK dX6_paint_33 ?_
        refine s_iconst (v := 0) hK dX6_paint_35 (by decide) ?_
        refine s_iconst (v := 2) hK dX6_paint_36 (by decide) ?_
        refine s_callS hK mdX6_isWithin (zX6_isWithin _ _ _) gX6_paint_X6_isWithin rfl ⟨Nat.le_of_ble_eq_true rfl, Nat.le_of_ble_eq_true rfl⟩ rfl (Nat.le_of_ble_eq_true rfl) dX6_paint_37 ?_
        try dsimp only [Option.toList, List.cons_append, List.nil_append]
        refine s_if_ne (tgt := 47) hK dX6_paint_40 (by decide) (fun c_40 => ?_) (fun c_40 => ?_)
        · exact absurd hbad (by simp [pvP, b2n c_5, b2n c_17, b2n c_30, b2n c_40])
        · refine s_sipush (v := -1001) hK dX6_paint_43 (by decide) ?_
          exact s_iret hK hE dX6_paint_46 rfl (rfl) (rfl)
set_option maxHeartbeats 4000000 in
set_option maxRecDepth 100000 in
theorem zX6_paint_ok {g : aG} {l : Launch} {σ : aS} (nx x0 y0 wd ht : Nat) (k : Int32) (hN : NX σ nx) (hx : x0 < 16) (hy : y0 < 12) (hw : 1 ≤ wd) (hw2 : x0 + wd ≤ 16) (hh : 1 ≤ ht) (hh2 : y0 + ht ≤ 12) (hk : wi k 0 2 = true) : CN g l yX6_paint wsX6_paint 5 111 [.ref 600, .int (nI x0), .int (nI y0), .int (nI wd), .int (nI ht), .int k] σ (some (.int (fA 10 k x0 y0 wd (kp σ nx, 0) ht).2)) (fA 10 k x0 y0 wd (kp σ nx, 0) ht).1 := by
  refine cn_of (cc := cX6_paint) (nL := 6) (ret := (some .int)) (own := RX6) (by decide +kernel) rfl rfl (Nat.le_of_ble_eq_true rfl) (fun K hg hl hK hE => ?_)
  subst hg; subst hl
  have i_5 : ∀ w ∈ u_ws RX5 TX5 10, w ∈ wsX6_paint := by decide +kernel
  have i_6 : ∀ w ∈ u_ws RX6 TX6 5, w ∈ wsX6_paint := by decide +kernel
  show AW K 0 [some (.ref 600), some (.int (nI x0)), some (.int (nI y0)), some (.int (nI wd)), some (.int (nI ht)), some (.int k)] [] σ
  refine s_iload1 hK dX6_paint_0 ?_
  refine s_iload2 hK dX6_paint_1 ?_
  refine s_callS hK mdX6_isPlace (zX6_isPlace _ _) gX6_paint_X6_isPlace rfl ⟨Nat.le_of_ble_eq_true rfl, Nat.le_of_ble_eq_true rfl⟩ rfl (Nat.le_of_ble_eq_true rfl) dX6_paint_2 ?_
  try dsimp only [Option.toList, List.cons_append, List.nil_append]
  refine s_if_eq (tgt := 43) hK dX6_paint_5 (by decide) (fun c_5 => absurd c_5 (b2y' (pl_nI hx hy))) (fun c_5 => ?_)
  refine s_iload3 hK dX6_paint_8 ?_
  refine s_iconst (v := 1) hK dX6_paint_9 (by decide) ?_
  refine s_bipush (v := 16) hK dX6_paint_10 (by decide) ?_
  refine s_iload1 hK dX6_paint_12 ?_
  refine s_isub hK dX6_paint_13 ?_
  refine s_callS hK mdX6_isWithin (zX6_isWithin _ _ _) gX6_paint_X6_isWithin rfl ⟨Nat.le_of_ble_eq_true rfl, Nat.le_of_ble_eq_true rfl⟩ rfl (Nat.le_of_ble_eq_true rfl) dX6_paint_14 ?_
  try dsimp only [Option.toList, List.cons_append, List.nil_append]
  refine s_if_eq (tgt := 43) hK dX6_paint_17 (by decide) (fun c_17 => absurd c_17 (b2y' (wi_sub (N := 16) hw hw2 (by decide)))) (fun c_17 => ?_)
  refine s_iload4 hK dX6_paint_20 ?_
  refine s_iconst (v := 1) hK dX6_paint_22 (by decide) ?_
  refine s_bipush (v := 12) hK dX6_paint_23 (by decide) ?_
  refine s_iload2 hK dX6_paint_25 ?_
  refine s_isub hK dX6_paint_26 ?_
  refine s_callS hK mdX6_isWithin (zX6_isWithin _ _ _) gX6_paint_X6_isWithin rfl ⟨Nat.le_of_ble_eq_true rfl, Nat.le_of_ble_eq_true rfl⟩ rfl (Nat.le_of_ble_eq_true rfl) dX6_paint_27 ?_
  try dsimp only [Option.toList, List.cons_append, List.nil_append]
  refine s_if_eq (tgt := 43) hK dX6_paint_30 (by decide) (fun c_30 => absurd c_30 (b2y' (wi_sub (N := 12) hh hh2 (by decide)))) (fun c_30 => ?_)
  refine s_iload5 hK dX6_paint_33 ?_
  refine s_iconst (v := 0) hK dX6_paint_35 (by decide) ?_
  refine s_iconst (v := 2) hK dX6_paint_36 (by decide) ?_
  refine s_callS hK mdX6_isWithin (zX6_isWithin _ _ _) gX6_paint_X6_isWithin rfl ⟨Nat.le_of_ble_eq_true rfl, Nat.le_of_ble_eq_true rfl⟩ rfl (Nat.le_of_ble_eq_true rfl) dX6_paint_37 ?_
  try dsimp only [Option.toList, List.cons_append, List.nil_append]
  refine s_if_ne (tgt := 47) hK dX6_paint_40 (by decide) (fun c_40 => ?_) (fun c_40 => absurd c_40 (b2y' hk))
  refine s_aload0 hK dX6_paint_47 ?_
  refine s_getr (ci := 6) (k := 1) hK rfl rfl i_6 (by decide +kernel) dX6_paint_48 (by decide) (by decide) (by decide) rfl rfl (rf_6_1 rfl) ?_
  refine s_aload0 hK dX6_paint_51 ?_
  refine s_getr (ci := 6) (k := 0) hK rfl rfl i_6 (by decide +kernel) dX6_paint_52 (by decide) (by decide) (by decide) rfl rfl (rf_6_0 rfl) ?_
  refine s_callV (ci := 2) hK mdX2_keep (zX2_keep nx hN.1 hN.2.1 hN.2.2.1 hN.2.2.2) gX6_paint_X2_keep rfl rfl rfl (by decide) rfl ⟨Nat.le_of_ble_eq_true rfl, Nat.le_of_ble_eq_true rfl⟩ rfl (Nat.le_of_ble_eq_true rfl) dX6_paint_55 ?_
  try dsimp only [Option.toList, List.cons_append, List.nil_append]
  refine s_aload0 hK dX6_paint_58 ?_
  refine s_getr (ci := 6) (k := 0) hK rfl rfl i_6 (by decide +kernel) dX6_paint_59 (by decide) (by decide) (by decide) rfl rfl (rf_6_0 rfl) ?_
  refine s_getr (ci := 5) (k := 0) hK rfl rfl i_5 (by decide +kernel) dX6_paint_62 (by decide) (by decide) (by decide) rfl rfl (rf_5_0 rfl) ?_
  refine s_iload1 hK dX6_paint_65 ?_
  refine s_iload2 hK dX6_paint_66 ?_
  refine s_iload3 hK dX6_paint_67 ?_
  refine s_iload4 hK dX6_paint_68 ?_
  refine s_iload5 hK dX6_paint_70 ?_
  refine s_callV (ci := 0) hK mdX0_fillArea (zX0_fillArea 10 x0 y0 wd ht k rfl hw2 hh2) gX6_paint_X0_fillArea rfl rfl rfl (by decide) rfl ⟨Nat.le_of_ble_eq_true rfl, Nat.le_of_ble_eq_true rfl⟩ rfl (Nat.le_of_ble_eq_true rfl) dX6_paint_72 ?_
  try dsimp only [Option.toList, List.cons_append, List.nil_append]
  exact s_iret hK hE dX6_paint_75 rfl (rfl) (rfl)
set_option maxHeartbeats 4000000 in
set_option maxRecDepth 100000 in
theorem zX6_cut_bad {g : aG} {l : Launch} {σ : aS} (t : Int32) (hbad : wi t 0 4 = false) : CN g l yX6_cut wsX6_cut 5 111 [.ref 600, .int t] σ (some (.int (-1001))) σ := by
  refine cn_of (cc := cX6_cut) (nL := 2) (ret := (some .int)) (own := RX6) (by decide +kernel) rfl rfl (Nat.le_of_ble_eq_true rfl) (fun K hg hl hK hE => ?_)
  subst hg; subst hl
  have i_0 : ∀ w ∈ u_ws RX0 TX0 5, w ∈ wsX6_cut := by decide +kernel
  have i_5 : ∀ w ∈ u_ws RX5 TX5 10, w ∈ wsX6_cut := by decide +kernel
  have i_6 : ∀ w ∈ u_ws RX6 TX6 5, w ∈ wsX6_cut := by decide +kernel
  show AW K 0 [some (.ref 600), some (.int t)] [] σ
  refine s_iload1 hK dX6_cut_0 ?_
  refine s_iconst (v := 0) hK dX6_cut_1 (by decide) ?_
  refine s_iconst (v := 4) hK dX6_cut_2 (by decide) ?_
  refine s_callS hK mdX6_isWithin (zX6_isWithin _ _ _) gX6_cut_X6_isWithin rfl ⟨Nat.le_of_ble_eq_true rfl, Nat.le_of_ble_eq_true rfl⟩ rfl (Nat.le_of_ble_eq_true rfl) dX6_cut_3 ?_
  try dsimp only [Option.toList, List.cons_append, List.nil_append]
  refine s_if_ne (tgt := 13) hK dX6_cut_6 (by decide) (fun c_6 => absurd c_6 (fun q => q (b2f hbad))) (fun c_6 => ?_)
  refine s_sipush (v := -1001) hK dX6_cut_9 (by decide) ?_
  exact s_iret hK hE dX6_cut_12 rfl (rfl) (rfl)
set_option maxHeartbeats 4000000 in
set_option maxRecDepth 100000 in
theorem zX6_cut_ok {g : aG} {l : Launch} {σ : aS} (nx t : Nat) (hN : NX σ nx) (hW : WB σ) (ht : t ≤ 4) : CN g l yX6_cut wsX6_cut 5 111 [.ref 600, .int (nI t)] σ (some (.int (nI (ct (px (cAn (kp σ nx) 10 t) 18))))) (cAn (kp σ nx) 10 t) := by
  refine cn_of (cc := cX6_cut) (nL := 2) (ret := (some .int)) (own := RX6) (by decide +kernel) rfl rfl (Nat.le_of_ble_eq_true rfl) (fun K hg hl hK hE => ?_)
  subst hg; subst hl
  have i_0 : ∀ w ∈ u_ws RX0 TX0 5, w ∈ wsX6_cut := by decide +kernel
  have i_5 : ∀ w ∈ u_ws RX5 TX5 10, w ∈ wsX6_cut := by decide +kernel
  have i_6 : ∀ w ∈ u_ws RX6 TX6 5, w ∈ wsX6_cut := by decide +kernel
  show AW K 0 [some (.ref 600), some (.int (nI t))] [] σ
  refine s_iload1 hK dX6_cut_0 ?_
  refine s_iconst (v := 0) hK dX6_cut_1 (by decide) ?_
  refine s_iconst (v := 4) hK dX6_cut_2 (by decide) ?_
  refine s_callS hK mdX6_isWithin (zX6_isWithin _ _ _) gX6_cut_X6_isWithin rfl ⟨Nat.le_of_ble_eq_true rfl, Nat.le_of_ble_eq_true rfl⟩ rfl (Nat.le_of_ble_eq_true rfl) dX6_cut_3 ?_
  try dsimp only [Option.toList, List.cons_append, List.nil_append]
  refine s_if_ne (tgt := 13) hK dX6_cut_6 (by decide) (fun c_6 => ?_) (fun c_6 => absurd c_6 (b2y' (wi_nI (N := 4) ht (by decide))))
  refine s_aload0 hK dX6_cut_13 ?_
  refine s_getr (ci := 6) (k := 1) hK rfl rfl i_6 (by decide +kernel) dX6_cut_14 (by decide) (by decide) (by decide) rfl rfl (rf_6_1 rfl) ?_
  refine s_aload0 hK dX6_cut_17 ?_
  refine s_getr (ci := 6) (k := 0) hK rfl rfl i_6 (by decide +kernel) dX6_cut_18 (by decide) (by decide) (by decide) rfl rfl (rf_6_0 rfl) ?_
  refine s_callV (ci := 2) hK mdX2_keep (zX2_keep nx hN.1 hN.2.1 hN.2.2.1 hN.2.2.2) gX6_cut_X2_keep rfl rfl rfl (by decide) rfl ⟨Nat.le_of_ble_eq_true rfl, Nat.le_of_ble_eq_true rfl⟩ rfl (Nat.le_of_ble_eq_true rfl) dX6_cut_21 ?_
  try dsimp only [Option.toList, List.cons_append, List.nil_append]
  refine s_aload0 hK dX6_cut_24 ?_
  refine s_getr (ci := 6) (k := 0) hK rfl rfl i_6 (by decide +kernel) dX6_cut_25 (by decide) (by decide) (by decide) rfl rfl (rf_6_0 rfl) ?_
  refine s_getr (ci := 5) (k := 0) hK rfl rfl i_5 (by decide +kernel) dX6_cut_28 (by decide) (by decide) (by decide) rfl rfl (rf_5_0 rfl) ?_
  refine s_iload1 hK dX6_cut_31 ?_
  refine s_callV (ci := 0) hK mdX0_cutAnew (zX0_cutAnew 10 t ht rfl) gX6_cut_X0_cutAnew rfl rfl rfl (by decide) rfl ⟨Nat.le_of_ble_eq_true rfl, Nat.le_of_ble_eq_true rfl⟩ rfl (Nat.le_of_ble_eq_true rfl) dX6_cut_32 ?_
  try dsimp only [Option.toList, List.cons_append, List.nil_append]
  refine s_aload0 hK dX6_cut_35 ?_
  refine s_getr (ci := 6) (k := 0) hK rfl rfl i_6 (by decide +kernel) dX6_cut_36 (by decide) (by decide) (by decide) rfl rfl (rf_6_0 rfl) ?_
  refine s_getr (ci := 5) (k := 0) hK rfl rfl i_5 (by decide +kernel) dX6_cut_39 (by decide) (by decide) (by decide) rfl rfl (rf_5_0 rfl) ?_
  refine s_getr (ci := 0) (k := 3) hK rfl rfl i_0 (by decide +kernel) dX6_cut_42 (by decide) (by decide) (by decide) rfl rfl (rf_0_3 rfl) ?_
  refine s_callV (ci := 1) hK mdX1_size (zX1_size 14 rfl (wR_cAn hW.kp)) gX6_cut_X1_size rfl rfl rfl (by decide) rfl ⟨Nat.le_of_ble_eq_true rfl, Nat.le_of_ble_eq_true rfl⟩ rfl (Nat.le_of_ble_eq_true rfl) dX6_cut_45 ?_
  try dsimp only [Option.toList, List.cons_append, List.nil_append]
  exact s_iret hK hE dX6_cut_48 rfl (rfl) (rfl)
set_option maxHeartbeats 4000000 in
set_option maxRecDepth 100000 in
theorem zX6_carve_bad {g : aG} {l : Launch} {σ : aS} (b x y z : Int32) (hbad : (wi b 0 1 && (pl x y && wi z 0 1)) = false) : CN g l yX6_carve wsX6_carve 5 111 [.ref 600, .int b, .int x, .int y, .int z] σ (some (.int (-1001))) σ := by
  refine cn_of (cc := cX6_carve) (nL := 7) (ret := (some .int)) (own := RX6) (by decide +kernel) rfl rfl (Nat.le_of_ble_eq_true rfl) (fun K hg hl hK hE => ?_)
  subst hg; subst hl
  have i_0 : ∀ w ∈ u_ws RX0 TX0 5, w ∈ wsX6_carve := by decide +kernel
  have i_5 : ∀ w ∈ u_ws RX5 TX5 10, w ∈ wsX6_carve := by decide +kernel
  have i_6 : ∀ w ∈ u_ws RX6 TX6 5, w ∈ wsX6_carve := by decide +kernel
  show AW K 0 [some (.ref 600), some (.int b), some (.int x), some (.int y), some (.int z), none, none] [] σ
  refine s_iload1 hK dX6_carve_0 ?_
  refine s_iconst (v := 0) hK dX6_carve_1 (by decide) ?_
  refine s_iconst (v := 1) hK dX6_carve_2 (by decide) ?_
  refine s_callS hK mdX6_isWithin (zX6_isWithin _ _ _) gX6_carve_X6_isWithin rfl ⟨Nat.le_of_ble_eq_true rfl, Nat.le_of_ble_eq_true rfl⟩ rfl (Nat.le_of_ble_eq_true rfl) dX6_carve_3 ?_
  try dsimp only [Option.toList, List.cons_append, List.nil_append]
  refine s_if_eq (tgt := 27) hK dX6_carve_6 (by decide) (fun c_6 => ?_) (fun c_6 => ?_)
  · refine s_sipush (v := -1001) hK dX6_carve_27 (by decide) ?_
    exact s_iret hK hE dX6_carve_30 rfl (rfl) (rfl)
  · refine s_iload2 hK dX6_carve_9 ?_
    refine s_iload3 hK dX6_carve_10 ?_
    refine s_callS hK mdX6_isPlace (zX6_isPlace _ _) gX6_carve_X6_isPlace rfl ⟨Nat.le_of_ble_eq_true rfl, Nat.le_of_ble_eq_true rfl⟩ rfl (Nat.le_of_ble_eq_true rfl) dX6_carve_11 ?_
    try dsimp only [Option.toList, List.cons_append, List.nil_append]
    refine s_if_eq (tgt := 27) hK dX6_carve_14 (by decide) (fun c_14 => ?_) (fun c_14 => ?_)
    · refine s_sipush (v := -1001) hK dX6_carve_27 (by decide) ?_
      exact s_iret hK hE dX6_carve_30 rfl (rfl) (rfl)
    · refine s_iload4 hK dX6_carve_17 ?_
      refine s_iconst (v := 0) hK dX6_carve_19 (by decide) ?_
      refine s_iconst (v := 1) hK dX6_carve_20 (by decide) ?_
      refine s_callS hK mdX6_isWithin (zX6_isWithin _ _ _) gX6_carve_X6_isWithin rfl ⟨Nat.le_of_ble_eq_true rfl, Nat.le_of_ble_eq_true rfl⟩ rfl (Nat.le_of_ble_eq_true rfl) dX6_carve_21 ?_
      try dsimp only [Option.toList, List.cons_append, List.nil_append]
      refine s_if_ne (tgt := 31) hK dX6_carve_24 (by decide) (fun c_24 => ?_) (fun c_24 => ?_)
      · exact absurd hbad (by simp [b2n c_6, b2n c_14, b2n c_24])
      · refine s_sipush (v := -1001) hK dX6_carve_27 (by decide) ?_
        exact s_iret hK hE dX6_carve_30 rfl (rfl) (rfl)
set_option maxHeartbeats 4000000 in
set_option maxRecDepth 100000 in
theorem zX6_carve_0 {g : aG} {l : Launch} {σ : aS} (nx : Nat) (x y z : Int32) (hN : NX σ nx) (hp : pl x y = true) (hz : wi z 0 1 = true) : CN g l yX6_carve wsX6_carve 5 111 [.ref 600, .int 0, .int x, .int y, .int z] σ (some (.int (on (b2 (hs (kp σ nx) 17 x y))))) (cW (pt (kp σ nx) 17 x y (if z = 1 then 1 else 0)) 10 x y) := by
  refine cn_of (cc := cX6_carve) (nL := 7) (ret := (some .int)) (own := RX6) (by decide +kernel) rfl rfl (Nat.le_of_ble_eq_true rfl) (fun K hg hl hK hE => ?_)
  subst hg; subst hl
  have i_0 : ∀ w ∈ u_ws RX0 TX0 5, w ∈ wsX6_carve := by decide +kernel
  have i_5 : ∀ w ∈ u_ws RX5 TX5 10, w ∈ wsX6_carve := by decide +kernel
  have i_6 : ∀ w ∈ u_ws RX6 TX6 5, w ∈ wsX6_carve := by decide +kernel
  show AW K 0 [some (.ref 600), some (.int 0), some (.int x), some (.int y), some (.int z), none, none] [] σ
  refine s_iload1 hK dX6_carve_0 ?_
  refine s_iconst (v := 0) hK dX6_carve_1 (by decide) ?_
  refine s_iconst (v := 1) hK dX6_carve_2 (by decide) ?_
  refine s_callS hK mdX6_isWithin (zX6_isWithin _ _ _) gX6_carve_X6_isWithin rfl ⟨Nat.le_of_ble_eq_true rfl, Nat.le_of_ble_eq_true rfl⟩ rfl (Nat.le_of_ble_eq_true rfl) dX6_carve_3 ?_
  try dsimp only [Option.toList, List.cons_append, List.nil_append]
  refine s_if_eq (tgt := 27) hK dX6_carve_6 (by decide) (fun c_6 => absurd c_6 (b2y' (by decide))) (fun c_6 => ?_)
  refine s_iload2 hK dX6_carve_9 ?_
  refine s_iload3 hK dX6_carve_10 ?_
  refine s_callS hK mdX6_isPlace (zX6_isPlace _ _) gX6_carve_X6_isPlace rfl ⟨Nat.le_of_ble_eq_true rfl, Nat.le_of_ble_eq_true rfl⟩ rfl (Nat.le_of_ble_eq_true rfl) dX6_carve_11 ?_
  try dsimp only [Option.toList, List.cons_append, List.nil_append]
  refine s_if_eq (tgt := 27) hK dX6_carve_14 (by decide) (fun c_14 => absurd c_14 (b2y' hp)) (fun c_14 => ?_)
  refine s_iload4 hK dX6_carve_17 ?_
  refine s_iconst (v := 0) hK dX6_carve_19 (by decide) ?_
  refine s_iconst (v := 1) hK dX6_carve_20 (by decide) ?_
  refine s_callS hK mdX6_isWithin (zX6_isWithin _ _ _) gX6_carve_X6_isWithin rfl ⟨Nat.le_of_ble_eq_true rfl, Nat.le_of_ble_eq_true rfl⟩ rfl (Nat.le_of_ble_eq_true rfl) dX6_carve_21 ?_
  try dsimp only [Option.toList, List.cons_append, List.nil_append]
  refine s_if_ne (tgt := 31) hK dX6_carve_24 (by decide) (fun c_24 => ?_) (fun c_24 => absurd c_24 (b2y' hz))
  refine s_aload0 hK dX6_carve_31 ?_
  refine s_getr (ci := 6) (k := 1) hK rfl rfl i_6 (by decide +kernel) dX6_carve_32 (by decide) (by decide) (by decide) rfl rfl (rf_6_1 rfl) ?_
  refine s_aload0 hK dX6_carve_35 ?_
  refine s_getr (ci := 6) (k := 0) hK rfl rfl i_6 (by decide +kernel) dX6_carve_36 (by decide) (by decide) (by decide) rfl rfl (rf_6_0 rfl) ?_
  refine s_callV (ci := 2) hK mdX2_keep (zX2_keep nx hN.1 hN.2.1 hN.2.2.1 hN.2.2.2) gX6_carve_X2_keep rfl rfl rfl (by decide) rfl ⟨Nat.le_of_ble_eq_true rfl, Nat.le_of_ble_eq_true rfl⟩ rfl (Nat.le_of_ble_eq_true rfl) dX6_carve_39 ?_
  try dsimp only [Option.toList, List.cons_append, List.nil_append]
  refine s_iload1 hK dX6_carve_42 ?_
  refine s_if_ne (tgt := 59) hK dX6_carve_43 (by decide) (fun c_43 => absurd c_43 (fun q => q rfl)) (fun c_43 => ?_)
  refine s_aload0 hK dX6_carve_46 ?_
  refine s_getr (ci := 6) (k := 0) hK rfl rfl i_6 (by decide +kernel) dX6_carve_47 (by decide) (by decide) (by decide) rfl rfl (rf_6_0 rfl) ?_
  refine s_getr (ci := 5) (k := 0) hK rfl rfl i_5 (by decide +kernel) dX6_carve_50 (by decide) (by decide) (by decide) rfl rfl (rf_5_0 rfl) ?_
  refine s_getr (ci := 0) (k := 2) hK rfl rfl i_0 (by decide +kernel) dX6_carve_53 (by decide) (by decide) (by decide) rfl rfl (rf_0_2 rfl) ?_
  refine s_goto (tgt := 69) hK dX6_carve_56 (by decide) ?_
  refine s_astore5 hK dX6_carve_69 ?_
  refine s_aload5 hK dX6_carve_71 ?_
  refine s_iload2 hK dX6_carve_73 ?_
  refine s_iload3 hK dX6_carve_74 ?_
  refine s_callV (ci := 1) hK mdX1_has (zX1_has 13 x y rfl) gX6_carve_X1_has rfl rfl rfl (by decide) rfl ⟨Nat.le_of_ble_eq_true rfl, Nat.le_of_ble_eq_true rfl⟩ rfl (Nat.le_of_ble_eq_true rfl) dX6_carve_75 ?_
  try dsimp only [Option.toList, List.cons_append, List.nil_append]
  refine s_callS hK mdX6_oneIf (zX6_oneIf _) gX6_carve_X6_oneIf rfl ⟨Nat.le_of_ble_eq_true rfl, Nat.le_of_ble_eq_true rfl⟩ rfl (Nat.le_of_ble_eq_true rfl) dX6_carve_78 ?_
  try dsimp only [Option.toList, List.cons_append, List.nil_append]
  refine s_istore6 hK dX6_carve_81 ?_
  refine s_aload5 hK dX6_carve_83 ?_
  refine s_iload2 hK dX6_carve_85 ?_
  refine s_iload3 hK dX6_carve_86 ?_
  refine AW.cut (j := 98) (v := if z = 1 then 1 else 0) (fun hJ_98 => ?_) ?_
  · refine s_iload4 hK dX6_carve_87 ?_
    refine s_iconst (v := 1) hK dX6_carve_89 (by decide) ?_
    refine s_icmp_ne (tgt := 97) hK dX6_carve_90 (by decide) (fun c_90 => ?_) (fun c_90 => ?_)
    · refine s_iconst (v := 0) hK dX6_carve_97 (by decide) ?_
      exact AW.vv hJ_98 (by simp [c_90])
    · refine s_iconst (v := 1) hK dX6_carve_93 (by decide) ?_
      refine s_goto (tgt := 98) hK dX6_carve_94 (by decide) ?_
      exact AW.vv hJ_98 (by simp [c_90])
  show AW K _ _ _ _
  refine s_callV (ci := 1) hK mdX1_put (zX1_put 13 x y _ rfl) gX6_carve_X1_put rfl rfl rfl (by decide) rfl ⟨Nat.le_of_ble_eq_true rfl, Nat.le_of_ble_eq_true rfl⟩ rfl (Nat.le_of_ble_eq_true rfl) dX6_carve_98 ?_
  try dsimp only [Option.toList, List.cons_append, List.nil_append]
  refine s_iload1 hK dX6_carve_101 ?_
  refine s_if_ne (tgt := 117) hK dX6_carve_102 (by decide) (fun c_102 => absurd c_102 (fun q => q rfl)) (fun c_102 => ?_)
  refine s_aload0 hK dX6_carve_105 ?_
  refine s_getr (ci := 6) (k := 0) hK rfl rfl i_6 (by decide +kernel) dX6_carve_106 (by decide) (by decide) (by decide) rfl rfl (rf_6_0 rfl) ?_
  refine s_getr (ci := 5) (k := 0) hK rfl rfl i_5 (by decide +kernel) dX6_carve_109 (by decide) (by decide) (by decide) rfl rfl (rf_5_0 rfl) ?_
  refine s_iload2 hK dX6_carve_112 ?_
  refine s_iload3 hK dX6_carve_113 ?_
  refine s_callV (ci := 0) hK mdX0_clearWear (zX0_clearWear 10 x y rfl) gX6_carve_X0_clearWear rfl rfl rfl (by decide) rfl ⟨Nat.le_of_ble_eq_true rfl, Nat.le_of_ble_eq_true rfl⟩ rfl (Nat.le_of_ble_eq_true rfl) dX6_carve_114 ?_
  try dsimp only [Option.toList, List.cons_append, List.nil_append]
  refine s_iload6 hK dX6_carve_117 ?_
  exact s_iret hK hE dX6_carve_119 rfl (rfl) (rfl)
set_option maxHeartbeats 4000000 in
set_option maxRecDepth 100000 in
theorem zX6_carve_1 {g : aG} {l : Launch} {σ : aS} (nx : Nat) (x y z : Int32) (hN : NX σ nx) (hp : pl x y = true) (hz : wi z 0 1 = true) : CN g l yX6_carve wsX6_carve 5 111 [.ref 600, .int 1, .int x, .int y, .int z] σ (some (.int (on (b2 (hs (kp σ nx) 18 x y))))) (pt (kp σ nx) 18 x y (if z = 1 then 1 else 0)) := by
  refine cn_of (cc := cX6_carve) (nL := 7) (ret := (some .int)) (own := RX6) (by decide +kernel) rfl rfl (Nat.le_of_ble_eq_true rfl) (fun K hg hl hK hE => ?_)
  subst hg; subst hl
  have i_0 : ∀ w ∈ u_ws RX0 TX0 5, w ∈ wsX6_carve := by decide +kernel
  have i_5 : ∀ w ∈ u_ws RX5 TX5 10, w ∈ wsX6_carve := by decide +kernel
  have i_6 : ∀ w ∈ u_ws RX6 TX6 5, w ∈ wsX6_carve := by decide +kernel
  show AW K 0 [some (.ref 600), some (.int 1), some (.int x), some (.int y), some (.int z), none, none] [] σ
  refine s_iload1 hK dX6_carve_0 ?_
  refine s_iconst (v := 0) hK dX6_carve_1 (by decide) ?_
  refine s_iconst (v := 1) hK dX6_carve_2 (by decide) ?_
  refine s_callS hK mdX6_isWithin (zX6_isWithin _ _ _) gX6_carve_X6_isWithin rfl ⟨Nat.le_of_ble_eq_true rfl, Nat.le_of_ble_eq_true rfl⟩ rfl (Nat.le_of_ble_eq_true rfl) dX6_carve_3 ?_
  try dsimp only [Option.toList, List.cons_append, List.nil_append]
  refine s_if_eq (tgt := 27) hK dX6_carve_6 (by decide) (fun c_6 => absurd c_6 (b2y' (by decide))) (fun c_6 => ?_)
  refine s_iload2 hK dX6_carve_9 ?_
  refine s_iload3 hK dX6_carve_10 ?_
  refine s_callS hK mdX6_isPlace (zX6_isPlace _ _) gX6_carve_X6_isPlace rfl ⟨Nat.le_of_ble_eq_true rfl, Nat.le_of_ble_eq_true rfl⟩ rfl (Nat.le_of_ble_eq_true rfl) dX6_carve_11 ?_
  try dsimp only [Option.toList, List.cons_append, List.nil_append]
  refine s_if_eq (tgt := 27) hK dX6_carve_14 (by decide) (fun c_14 => absurd c_14 (b2y' hp)) (fun c_14 => ?_)
  refine s_iload4 hK dX6_carve_17 ?_
  refine s_iconst (v := 0) hK dX6_carve_19 (by decide) ?_
  refine s_iconst (v := 1) hK dX6_carve_20 (by decide) ?_
  refine s_callS hK mdX6_isWithin (zX6_isWithin _ _ _) gX6_carve_X6_isWithin rfl ⟨Nat.le_of_ble_eq_true rfl, Nat.le_of_ble_eq_true rfl⟩ rfl (Nat.le_of_ble_eq_true rfl) dX6_carve_21 ?_
  try dsimp only [Option.toList, List.cons_append, List.nil_append]
  refine s_if_ne (tgt := 31) hK dX6_carve_24 (by decide) (fun c_24 => ?_) (fun c_24 => absurd c_24 (b2y' hz))
  refine s_aload0 hK dX6_carve_31 ?_
  refine s_getr (ci := 6) (k := 1) hK rfl rfl i_6 (by decide +kernel) dX6_carve_32 (by decide) (by decide) (by decide) rfl rfl (rf_6_1 rfl) ?_
  refine s_aload0 hK dX6_carve_35 ?_
  refine s_getr (ci := 6) (k := 0) hK rfl rfl i_6 (by decide +kernel) dX6_carve_36 (by decide) (by decide) (by decide) rfl rfl (rf_6_0 rfl) ?_
  refine s_callV (ci := 2) hK mdX2_keep (zX2_keep nx hN.1 hN.2.1 hN.2.2.1 hN.2.2.2) gX6_carve_X2_keep rfl rfl rfl (by decide) rfl ⟨Nat.le_of_ble_eq_true rfl, Nat.le_of_ble_eq_true rfl⟩ rfl (Nat.le_of_ble_eq_true rfl) dX6_carve_39 ?_
  try dsimp only [Option.toList, List.cons_append, List.nil_append]
  refine s_iload1 hK dX6_carve_42 ?_
  refine s_if_ne (tgt := 59) hK dX6_carve_43 (by decide) (fun c_43 => ?_) (fun c_43 => absurd c_43 (by decide))
  refine s_aload0 hK dX6_carve_59 ?_
  refine s_getr (ci := 6) (k := 0) hK rfl rfl i_6 (by decide +kernel) dX6_carve_60 (by decide) (by decide) (by decide) rfl rfl (rf_6_0 rfl) ?_
  refine s_getr (ci := 5) (k := 0) hK rfl rfl i_5 (by decide +kernel) dX6_carve_63 (by decide) (by decide) (by decide) rfl rfl (rf_5_0 rfl) ?_
  refine s_getr (ci := 0) (k := 3) hK rfl rfl i_0 (by decide +kernel) dX6_carve_66 (by decide) (by decide) (by decide) rfl rfl (rf_0_3 rfl) ?_
  refine s_astore5 hK dX6_carve_69 ?_
  refine s_aload5 hK dX6_carve_71 ?_
  refine s_iload2 hK dX6_carve_73 ?_
  refine s_iload3 hK dX6_carve_74 ?_
  refine s_callV (ci := 1) hK mdX1_has (zX1_has 14 x y rfl) gX6_carve_X1_has rfl rfl rfl (by decide) rfl ⟨Nat.le_of_ble_eq_true rfl, Nat.le_of_ble_eq_true rfl⟩ rfl (Nat.le_of_ble_eq_true rfl) dX6_carve_75 ?_
  try dsimp only [Option.toList, List.cons_append, List.nil_append]
  refine s_callS hK mdX6_oneIf (zX6_oneIf _) gX6_carve_X6_oneIf rfl ⟨Nat.le_of_ble_eq_true rfl, Nat.le_of_ble_eq_true rfl⟩ rfl (Nat.le_of_ble_eq_true rfl) dX6_carve_78 ?_
  try dsimp only [Option.toList, List.cons_append, List.nil_append]
  refine s_istore6 hK dX6_carve_81 ?_
  refine s_aload5 hK dX6_carve_83 ?_
  refine s_iload2 hK dX6_carve_85 ?_
  refine s_iload3 hK dX6_carve_86 ?_
  refine AW.cut (j := 98) (v := if z = 1 then 1 else 0) (fun hJ_98 => ?_) ?_
  · refine s_iload4 hK dX6_carve_87 ?_
    refine s_iconst (v := 1) hK dX6_carve_89 (by decide) ?_
    refine s_icmp_ne (tgt := 97) hK dX6_carve_90 (by decide) (fun c_90 => ?_) (fun c_90 => ?_)
    · refine s_iconst (v := 0) hK dX6_carve_97 (by decide) ?_
      exact AW.vv hJ_98 (by simp [c_90])
    · refine s_iconst (v := 1) hK dX6_carve_93 (by decide) ?_
      refine s_goto (tgt := 98) hK dX6_carve_94 (by decide) ?_
      exact AW.vv hJ_98 (by simp [c_90])
  show AW K _ _ _ _
  refine s_callV (ci := 1) hK mdX1_put (zX1_put 14 x y _ rfl) gX6_carve_X1_put rfl rfl rfl (by decide) rfl ⟨Nat.le_of_ble_eq_true rfl, Nat.le_of_ble_eq_true rfl⟩ rfl (Nat.le_of_ble_eq_true rfl) dX6_carve_98 ?_
  try dsimp only [Option.toList, List.cons_append, List.nil_append]
  refine s_iload1 hK dX6_carve_101 ?_
  refine s_if_ne (tgt := 117) hK dX6_carve_102 (by decide) (fun c_102 => ?_) (fun c_102 => absurd c_102 (by decide))
  refine s_iload6 hK dX6_carve_117 ?_
  exact s_iret hK hE dX6_carve_119 rfl (rfl) (rfl)
set_option maxHeartbeats 4000000 in
set_option maxRecDepth 100000 in
theorem zX6_plug_bad {g : aG} {l : Launch} {σ : aS} (x y : Int32) (hbad : pl x y = false) : CN g l yX6_plug wsX6_plug 5 111 [.ref 600, .int x, .int y] σ (some (.int (-1001))) σ := by
  refine cn_of (cc := cX6_plug) (nL := 3) (ret := (some .int)) (own := RX6) (by decide +kernel) rfl rfl (Nat.le_of_ble_eq_true rfl) (fun K hg hl hK hE => ?_)
  subst hg; subst hl
  have i_5 : ∀ w ∈ u_ws RX5 TX5 10, w ∈ wsX6_plug := by decide +kernel
  have i_6 : ∀ w ∈ u_ws RX6 TX6 5, w ∈ wsX6_plug := by decide +kernel
  show AW K 0 [some (.ref 600), some (.int x), some (.int y)] [] σ
  refine s_iload1 hK dX6_plug_0 ?_
  refine s_iload2 hK dX6_plug_1 ?_
  refine s_callS hK mdX6_isPlace (zX6_isPlace _ _) gX6_plug_X6_isPlace rfl ⟨Nat.le_of_ble_eq_true rfl, Nat.le_of_ble_eq_true rfl⟩ rfl (Nat.le_of_ble_eq_true rfl) dX6_plug_2 ?_
  try dsimp only [Option.toList, List.cons_append, List.nil_append]
  refine s_if_ne (tgt := 12) hK dX6_plug_5 (by decide) (fun c_5 => absurd c_5 (fun q => q (b2f hbad))) (fun c_5 => ?_)
  refine s_sipush (v := -1001) hK dX6_plug_8 (by decide) ?_
  exact s_iret hK hE dX6_plug_11 rfl (rfl) (rfl)
set_option maxHeartbeats 4000000 in
set_option maxRecDepth 100000 in
theorem zX6_plug_ill {g : aG} {l : Launch} {σ : aS} (x y : Int32) (hp : pl x y = true) (hbad : wn σ 10 x y (σ 1 3) = false) : CN g l yX6_plug wsX6_plug 5 111 [.ref 600, .int x, .int y] σ (some (.int (-1002))) σ := by
  refine cn_of (cc := cX6_plug) (nL := 3) (ret := (some .int)) (own := RX6) (by decide +kernel) rfl rfl (Nat.le_of_ble_eq_true rfl) (fun K hg hl hK hE => ?_)
  subst hg; subst hl
  have i_5 : ∀ w ∈ u_ws RX5 TX5 10, w ∈ wsX6_plug := by decide +kernel
  have i_6 : ∀ w ∈ u_ws RX6 TX6 5, w ∈ wsX6_plug := by decide +kernel
  show AW K 0 [some (.ref 600), some (.int x), some (.int y)] [] σ
  refine s_iload1 hK dX6_plug_0 ?_
  refine s_iload2 hK dX6_plug_1 ?_
  refine s_callS hK mdX6_isPlace (zX6_isPlace _ _) gX6_plug_X6_isPlace rfl ⟨Nat.le_of_ble_eq_true rfl, Nat.le_of_ble_eq_true rfl⟩ rfl (Nat.le_of_ble_eq_true rfl) dX6_plug_2 ?_
  try dsimp only [Option.toList, List.cons_append, List.nil_append]
  refine s_if_ne (tgt := 12) hK dX6_plug_5 (by decide) (fun c_5 => ?_) (fun c_5 => absurd c_5 (b2y' hp))
  refine s_aload0 hK dX6_plug_12 ?_
  refine s_getr (ci := 6) (k := 0) hK rfl rfl i_6 (by decide +kernel) dX6_plug_13 (by decide) (by decide) (by decide) rfl rfl (rf_6_0 rfl) ?_
  refine s_getr (ci := 5) (k := 0) hK rfl rfl i_5 (by decide +kernel) dX6_plug_16 (by decide) (by decide) (by decide) rfl rfl (rf_5_0 rfl) ?_
  refine s_iload1 hK dX6_plug_19 ?_
  refine s_iload2 hK dX6_plug_20 ?_
  refine s_aload0 hK dX6_plug_21 ?_
  refine s_getr (ci := 6) (k := 0) hK rfl rfl i_6 (by decide +kernel) dX6_plug_22 (by decide) (by decide) (by decide) rfl rfl (rf_6_0 rfl) ?_
  refine s_callV (ci := 5) hK mdX5_hardness (zX5_hardness 0 rfl) gX6_plug_X5_hardness rfl rfl rfl (by decide) rfl ⟨Nat.le_of_ble_eq_true rfl, Nat.le_of_ble_eq_true rfl⟩ rfl (Nat.le_of_ble_eq_true rfl) dX6_plug_25 ?_
  try dsimp only [Option.toList, List.cons_append, List.nil_append]
  refine s_callV (ci := 0) hK mdX0_isWorn (zX0_isWorn 10 x y _ rfl) gX6_plug_X0_isWorn rfl rfl rfl (by decide) rfl ⟨Nat.le_of_ble_eq_true rfl, Nat.le_of_ble_eq_true rfl⟩ rfl (Nat.le_of_ble_eq_true rfl) dX6_plug_28 ?_
  try dsimp only [Option.toList, List.cons_append, List.nil_append]
  refine s_if_ne (tgt := 38) hK dX6_plug_31 (by decide) (fun c_31 => absurd c_31 (fun q => q (b2f hbad))) (fun c_31 => ?_)
  refine s_sipush (v := -1002) hK dX6_plug_34 (by decide) ?_
  exact s_iret hK hE dX6_plug_37 rfl (rfl) (rfl)
set_option maxHeartbeats 4000000 in
set_option maxRecDepth 100000 in
theorem zX6_plug_ok {g : aG} {l : Launch} {σ : aS} (nx : Nat) (x y : Int32) (hN : NX σ nx) (hW : WB σ) (hp : pl x y = true) (hw : wn σ 10 x y (σ 1 3) = true) : CN g l yX6_plug wsX6_plug 5 111 [.ref 600, .int x, .int y] σ (some (.int (wC (cW (kp σ nx) 10 x y)))) (iK (cW (kp σ nx) 10 x y)) := by
  refine cn_of (cc := cX6_plug) (nL := 3) (ret := (some .int)) (own := RX6) (by decide +kernel) rfl rfl (Nat.le_of_ble_eq_true rfl) (fun K hg hl hK hE => ?_)
  subst hg; subst hl
  have i_5 : ∀ w ∈ u_ws RX5 TX5 10, w ∈ wsX6_plug := by decide +kernel
  have i_6 : ∀ w ∈ u_ws RX6 TX6 5, w ∈ wsX6_plug := by decide +kernel
  show AW K 0 [some (.ref 600), some (.int x), some (.int y)] [] σ
  refine s_iload1 hK dX6_plug_0 ?_
  refine s_iload2 hK dX6_plug_1 ?_
  refine s_callS hK mdX6_isPlace (zX6_isPlace _ _) gX6_plug_X6_isPlace rfl ⟨Nat.le_of_ble_eq_true rfl, Nat.le_of_ble_eq_true rfl⟩ rfl (Nat.le_of_ble_eq_true rfl) dX6_plug_2 ?_
  try dsimp only [Option.toList, List.cons_append, List.nil_append]
  refine s_if_ne (tgt := 12) hK dX6_plug_5 (by decide) (fun c_5 => ?_) (fun c_5 => absurd c_5 (b2y' hp))
  refine s_aload0 hK dX6_plug_12 ?_
  refine s_getr (ci := 6) (k := 0) hK rfl rfl i_6 (by decide +kernel) dX6_plug_13 (by decide) (by decide) (by decide) rfl rfl (rf_6_0 rfl) ?_
  refine s_getr (ci := 5) (k := 0) hK rfl rfl i_5 (by decide +kernel) dX6_plug_16 (by decide) (by decide) (by decide) rfl rfl (rf_5_0 rfl) ?_
  refine s_iload1 hK dX6_plug_19 ?_
  refine s_iload2 hK dX6_plug_20 ?_
  refine s_aload0 hK dX6_plug_21 ?_
  refine s_getr (ci := 6) (k := 0) hK rfl rfl i_6 (by decide +kernel) dX6_plug_22 (by decide) (by decide) (by decide) rfl rfl (rf_6_0 rfl) ?_
  refine s_callV (ci := 5) hK mdX5_hardness (zX5_hardness 0 rfl) gX6_plug_X5_hardness rfl rfl rfl (by decide) rfl ⟨Nat.le_of_ble_eq_true rfl, Nat.le_of_ble_eq_true rfl⟩ rfl (Nat.le_of_ble_eq_true rfl) dX6_plug_25 ?_
  try dsimp only [Option.toList, List.cons_append, List.nil_append]
  refine s_callV (ci := 0) hK mdX0_isWorn (zX0_isWorn 10 x y _ rfl) gX6_plug_X0_isWorn rfl rfl rfl (by decide) rfl ⟨Nat.le_of_ble_eq_true rfl, Nat.le_of_ble_eq_true rfl⟩ rfl (Nat.le_of_ble_eq_true rfl) dX6_plug_28 ?_
  try dsimp only [Option.toList, List.cons_append, List.nil_append]
  refine s_if_ne (tgt := 38) hK dX6_plug_31 (by decide) (fun c_31 => ?_) (fun c_31 => absurd c_31 (b2y' hw))
  refine s_aload0 hK dX6_plug_38 ?_
  refine s_getr (ci := 6) (k := 1) hK rfl rfl i_6 (by decide +kernel) dX6_plug_39 (by decide) (by decide) (by decide) rfl rfl (rf_6_1 rfl) ?_
  refine s_aload0 hK dX6_plug_42 ?_
  refine s_getr (ci := 6) (k := 0) hK rfl rfl i_6 (by decide +kernel) dX6_plug_43 (by decide) (by decide) (by decide) rfl rfl (rf_6_0 rfl) ?_
  refine s_callV (ci := 2) hK mdX2_keep (zX2_keep nx hN.1 hN.2.1 hN.2.2.1 hN.2.2.2) gX6_plug_X2_keep rfl rfl rfl (by decide) rfl ⟨Nat.le_of_ble_eq_true rfl, Nat.le_of_ble_eq_true rfl⟩ rfl (Nat.le_of_ble_eq_true rfl) dX6_plug_46 ?_
  try dsimp only [Option.toList, List.cons_append, List.nil_append]
  refine s_aload0 hK dX6_plug_49 ?_
  refine s_getr (ci := 6) (k := 0) hK rfl rfl i_6 (by decide +kernel) dX6_plug_50 (by decide) (by decide) (by decide) rfl rfl (rf_6_0 rfl) ?_
  refine s_getr (ci := 5) (k := 0) hK rfl rfl i_5 (by decide +kernel) dX6_plug_53 (by decide) (by decide) (by decide) rfl rfl (rf_5_0 rfl) ?_
  refine s_iload1 hK dX6_plug_56 ?_
  refine s_iload2 hK dX6_plug_57 ?_
  refine s_callV (ci := 0) hK mdX0_clearWear (zX0_clearWear 10 x y rfl) gX6_plug_X0_clearWear rfl rfl rfl (by decide) rfl ⟨Nat.le_of_ble_eq_true rfl, Nat.le_of_ble_eq_true rfl⟩ rfl (Nat.le_of_ble_eq_true rfl) dX6_plug_58 ?_
  try dsimp only [Option.toList, List.cons_append, List.nil_append]
  refine s_aload0 hK dX6_plug_61 ?_
  refine s_callV (ci := 6) hK mdX6_wornCells (zX6_wornCells (hW.kp.cW x y)) gX6_plug_X6_wornCells rfl rfl rfl (by decide) rfl ⟨Nat.le_of_ble_eq_true rfl, Nat.le_of_ble_eq_true rfl⟩ rfl (Nat.le_of_ble_eq_true rfl) dX6_plug_62 ?_
  try dsimp only [Option.toList, List.cons_append, List.nil_append]
  exact s_iret hK hE dX6_plug_65 rfl (rfl) (rfl)
set_option maxHeartbeats 4000000 in
set_option maxRecDepth 100000 in
theorem zX6_setPins_bad {g : aG} {l : Launch} {σ : aS} (a b : Int32) (hbad : (wi a (-4) 4 && wi b (-4) 4) = false) : CN g l yX6_setPins wsX6_setPins 5 111 [.ref 600, .int a, .int b] σ (some (.int (-1001))) σ := by
  refine cn_of (cc := cX6_setPins) (nL := 3) (ret := (some .int)) (own := RX6) (by decide +kernel) rfl rfl (Nat.le_of_ble_eq_true rfl) (fun K hg hl hK hE => ?_)
  subst hg; subst hl
  have i_5 : ∀ w ∈ u_ws RX5 TX5 10, w ∈ wsX6_setPins := by decide +kernel
  have i_6 : ∀ w ∈ u_ws RX6 TX6 5, w ∈ wsX6_setPins := by decide +kernel
  show AW K 0 [some (.ref 600), some (.int a), some (.int b)] [] σ
  refine s_iload1 hK dX6_setPins_0 ?_
  refine s_bipush (v := -4) hK dX6_setPins_1 (by decide) ?_
  refine s_iconst (v := 4) hK dX6_setPins_3 (by decide) ?_
  refine s_callS hK mdX6_isWithin (zX6_isWithin _ _ _) gX6_setPins_X6_isWithin rfl ⟨Nat.le_of_ble_eq_true rfl, Nat.le_of_ble_eq_true rfl⟩ rfl (Nat.le_of_ble_eq_true rfl) dX6_setPins_4 ?_
  try dsimp only [Option.toList, List.cons_append, List.nil_append]
  refine s_if_eq (tgt := 20) hK dX6_setPins_7 (by decide) (fun c_7 => ?_) (fun c_7 => ?_)
  · refine s_sipush (v := -1001) hK dX6_setPins_20 (by decide) ?_
    exact s_iret hK hE dX6_setPins_23 rfl (rfl) (rfl)
  · refine s_iload2 hK dX6_setPins_10 ?_
    refine s_bipush (v := -4) hK dX6_setPins_11 (by decide) ?_
    refine s_iconst (v := 4) hK dX6_setPins_13 (by decide) ?_
    refine s_callS hK mdX6_isWithin (zX6_isWithin _ _ _) gX6_setPins_X6_isWithin rfl ⟨Nat.le_of_ble_eq_true rfl, Nat.le_of_ble_eq_true rfl⟩ rfl (Nat.le_of_ble_eq_true rfl) dX6_setPins_14 ?_
    try dsimp only [Option.toList, List.cons_append, List.nil_append]
    refine s_if_ne (tgt := 24) hK dX6_setPins_17 (by decide) (fun c_17 => ?_) (fun c_17 => ?_)
    · exact absurd hbad (by simp [b2n c_7, b2n c_17])
    · refine s_sipush (v := -1001) hK dX6_setPins_20 (by decide) ?_
      exact s_iret hK hE dX6_setPins_23 rfl (rfl) (rfl)
set_option maxHeartbeats 4000000 in
set_option maxRecDepth 100000 in
theorem zX6_setPins_ok {g : aG} {l : Launch} {σ : aS} (nx : Nat) (a b : Int32) (hN : NX σ nx) (hW : WB σ) (ha : wi a (-4) 4 = true) (hb : wi b (-4) 4 = true) (hx : sxk ((iK (sPn (kp σ nx) a b)) 0 3 + dX (iK (sPn (kp σ nx) a b)) 0)) : CN g l yX6_setPins wsX6_setPins 5 111 [.ref 600, .int a, .int b] σ (some (.int (nI (ct (gG (iK (sPn (kp σ nx) a b)) 10 607 14 ((iK (sPn (kp σ nx) a b)) 0 3 + dX (iK (sPn (kp σ nx) a b)) 0) ((iK (sPn (kp σ nx) a b)) 0 4 + dY (iK (sPn (kp σ nx) a b)) 0)))))) (iK (sPn (kp σ nx) a b)) := by
  refine cn_of (cc := cX6_setPins) (nL := 3) (ret := (some .int)) (own := RX6) (by decide +kernel) rfl rfl (Nat.le_of_ble_eq_true rfl) (fun K hg hl hK hE => ?_)
  subst hg; subst hl
  have i_5 : ∀ w ∈ u_ws RX5 TX5 10, w ∈ wsX6_setPins := by decide +kernel
  have i_6 : ∀ w ∈ u_ws RX6 TX6 5, w ∈ wsX6_setPins := by decide +kernel
  show AW K 0 [some (.ref 600), some (.int a), some (.int b)] [] σ
  refine s_iload1 hK dX6_setPins_0 ?_
  refine s_bipush (v := -4) hK dX6_setPins_1 (by decide) ?_
  refine s_iconst (v := 4) hK dX6_setPins_3 (by decide) ?_
  refine s_callS hK mdX6_isWithin (zX6_isWithin _ _ _) gX6_setPins_X6_isWithin rfl ⟨Nat.le_of_ble_eq_true rfl, Nat.le_of_ble_eq_true rfl⟩ rfl (Nat.le_of_ble_eq_true rfl) dX6_setPins_4 ?_
  try dsimp only [Option.toList, List.cons_append, List.nil_append]
  refine s_if_eq (tgt := 20) hK dX6_setPins_7 (by decide) (fun c_7 => absurd c_7 (b2y' ha)) (fun c_7 => ?_)
  refine s_iload2 hK dX6_setPins_10 ?_
  refine s_bipush (v := -4) hK dX6_setPins_11 (by decide) ?_
  refine s_iconst (v := 4) hK dX6_setPins_13 (by decide) ?_
  refine s_callS hK mdX6_isWithin (zX6_isWithin _ _ _) gX6_setPins_X6_isWithin rfl ⟨Nat.le_of_ble_eq_true rfl, Nat.le_of_ble_eq_true rfl⟩ rfl (Nat.le_of_ble_eq_true rfl) dX6_setPins_14 ?_
  try dsimp only [Option.toList, List.cons_append, List.nil_append]
  refine s_if_ne (tgt := 24) hK dX6_setPins_17 (by decide) (fun c_17 => ?_) (fun c_17 => absurd c_17 (b2y' hb))
  refine s_aload0 hK dX6_setPins_24 ?_
  refine s_getr (ci := 6) (k := 1) hK rfl rfl i_6 (by decide +kernel) dX6_setPins_25 (by decide) (by decide) (by decide) rfl rfl (rf_6_1 rfl) ?_
  refine s_aload0 hK dX6_setPins_28 ?_
  refine s_getr (ci := 6) (k := 0) hK rfl rfl i_6 (by decide +kernel) dX6_setPins_29 (by decide) (by decide) (by decide) rfl rfl (rf_6_0 rfl) ?_
  refine s_callV (ci := 2) hK mdX2_keep (zX2_keep nx hN.1 hN.2.1 hN.2.2.1 hN.2.2.2) gX6_setPins_X2_keep rfl rfl rfl (by decide) rfl ⟨Nat.le_of_ble_eq_true rfl, Nat.le_of_ble_eq_true rfl⟩ rfl (Nat.le_of_ble_eq_true rfl) dX6_setPins_32 ?_
  try dsimp only [Option.toList, List.cons_append, List.nil_append]
  refine s_aload0 hK dX6_setPins_35 ?_
  refine s_getr (ci := 6) (k := 0) hK rfl rfl i_6 (by decide +kernel) dX6_setPins_36 (by decide) (by decide) (by decide) rfl rfl (rf_6_0 rfl) ?_
  refine s_iload1 hK dX6_setPins_39 ?_
  refine s_putg (ci := 5) (k := 3) (ty := .int) hK rfl rfl i_5 (by decide +kernel) dX6_setPins_40 tyX5_ok nmX5 (by decide) (by decide) (by decide) rfl rfl rfl (by decide +kernel) rfl rfl ?_
  refine s_aload0 hK dX6_setPins_43 ?_
  refine s_getr (ci := 6) (k := 0) hK rfl rfl i_6 (by decide +kernel) dX6_setPins_44 (by decide) (by decide) (by decide) rfl rfl (rf_6_0 rfl) ?_
  refine s_iload2 hK dX6_setPins_47 ?_
  refine s_putg (ci := 5) (k := 4) (ty := .int) hK rfl rfl i_5 (by decide +kernel) dX6_setPins_48 tyX5_ok nmX5 (by decide) (by decide) (by decide) rfl rfl rfl (by decide +kernel) rfl rfl ?_
  show AW K _ _ _ (sPn (kp σ nx) a b)
  refine s_aload0 hK dX6_setPins_51 ?_
  refine s_callV (ci := 6) hK mdX6_findInk (zX6_findInk) gX6_setPins_X6_findInk rfl rfl rfl (by decide) rfl ⟨Nat.le_of_ble_eq_true rfl, Nat.le_of_ble_eq_true rfl⟩ rfl (Nat.le_of_ble_eq_true rfl) dX6_setPins_52 ?_
  try dsimp only [Option.toList, List.cons_append, List.nil_append]
  refine s_aload0 hK dX6_setPins_55 ?_
  refine s_aload0 hK dX6_setPins_56 ?_
  refine s_getr (ci := 6) (k := 0) hK rfl rfl i_6 (by decide +kernel) dX6_setPins_57 (by decide) (by decide) (by decide) rfl rfl (rf_6_0 rfl) ?_
  refine s_callV (ci := 5) hK mdX5_shiftX (zX5_shiftX 0 rfl) gX6_setPins_X5_shiftX rfl rfl rfl (by decide) rfl ⟨Nat.le_of_ble_eq_true rfl, Nat.le_of_ble_eq_true rfl⟩ rfl (Nat.le_of_ble_eq_true rfl) dX6_setPins_60 ?_
  try dsimp only [Option.toList, List.cons_append, List.nil_append]
  refine s_aload0 hK dX6_setPins_63 ?_
  refine s_getr (ci := 6) (k := 0) hK rfl rfl i_6 (by decide +kernel) dX6_setPins_64 (by decide) (by decide) (by decide) rfl rfl (rf_6_0 rfl) ?_
  refine s_callV (ci := 5) hK mdX5_shiftY (zX5_shiftY 0 rfl) gX6_setPins_X5_shiftY rfl rfl rfl (by decide) rfl ⟨Nat.le_of_ble_eq_true rfl, Nat.le_of_ble_eq_true rfl⟩ rfl (Nat.le_of_ble_eq_true rfl) dX6_setPins_67 ?_
  try dsimp only [Option.toList, List.cons_append, List.nil_append]
  refine s_callV (ci := 6) hK mdX6_gapsWith (zX6_gapsWith _ _ (hW.kp.sPn a b).iK hx) gX6_setPins_X6_gapsWith rfl rfl rfl (by decide) rfl ⟨Nat.le_of_ble_eq_true rfl, Nat.le_of_ble_eq_true rfl⟩ rfl (Nat.le_of_ble_eq_true rfl) dX6_setPins_70 ?_
  try dsimp only [Option.toList, List.cons_append, List.nil_append]
  exact s_iret hK hE dX6_setPins_73 rfl (rfl) (rfl)
set_option maxHeartbeats 4000000 in
set_option maxRecDepth 100000 in
theorem zX6_set_bad {g : aG} {l : Launch} {σ : aS} (a v : Int32) (hbad : wi a 0 4 = false) : CN g l yX6_set wsX6_set 5 111 [.ref 600, .int a, .int v] σ (some (.int (-1001))) σ := by
  refine cn_of (cc := cX6_set) (nL := 4) (ret := (some .int)) (own := RX6) (by decide +kernel) rfl rfl (Nat.le_of_ble_eq_true rfl) (fun K hg hl hK hE => ?_)
  subst hg; subst hl
  have i_5 : ∀ w ∈ u_ws RX5 TX5 10, w ∈ wsX6_set := by decide +kernel
  have i_6 : ∀ w ∈ u_ws RX6 TX6 5, w ∈ wsX6_set := by decide +kernel
  show AW K 0 [some (.ref 600), some (.int a), some (.int v), none] [] σ
  refine s_iload1 hK dX6_set_0 ?_
  refine s_iconst (v := 0) hK dX6_set_1 (by decide) ?_
  refine s_iconst (v := 4) hK dX6_set_2 (by decide) ?_
  refine s_callS hK mdX6_isWithin (zX6_isWithin _ _ _) gX6_set_X6_isWithin rfl ⟨Nat.le_of_ble_eq_true rfl, Nat.le_of_ble_eq_true rfl⟩ rfl (Nat.le_of_ble_eq_true rfl) dX6_set_3 ?_
  try dsimp only [Option.toList, List.cons_append, List.nil_append]
  refine s_if_eq (tgt := 26) hK dX6_set_6 (by decide) (fun c_6 => ?_) (fun c_6 => absurd c_6 (fun q => q (b2f hbad)))
  refine s_sipush (v := -1001) hK dX6_set_26 (by decide) ?_
  exact s_iret hK hE dX6_set_29 rfl (rfl) (rfl)
set_option maxHeartbeats 4000000 in
set_option maxRecDepth 100000 in
theorem zX6_set_bad2 {g : aG} {l : Launch} {σ : aS} (k : Nat) (v : Int32) (hk : k < 5) (hbad : wi v (tlo.getD k 0) (thi.getD k 0) = false) : CN g l yX6_set wsX6_set 5 111 [.ref 600, .int (nI k), .int v] σ (some (.int (-1001))) σ := by
  refine cn_of (cc := cX6_set) (nL := 4) (ret := (some .int)) (own := RX6) (by decide +kernel) rfl rfl (Nat.le_of_ble_eq_true rfl) (fun K hg hl hK hE => ?_)
  subst hg; subst hl
  have i_5 : ∀ w ∈ u_ws RX5 TX5 10, w ∈ wsX6_set := by decide +kernel
  have i_6 : ∀ w ∈ u_ws RX6 TX6 5, w ∈ wsX6_set := by decide +kernel
  show AW K 0 [some (.ref 600), some (.int (nI k)), some (.int v), none] [] σ
  refine s_iload1 hK dX6_set_0 ?_
  refine s_iconst (v := 0) hK dX6_set_1 (by decide) ?_
  refine s_iconst (v := 4) hK dX6_set_2 (by decide) ?_
  refine s_callS hK mdX6_isWithin (zX6_isWithin _ _ _) gX6_set_X6_isWithin rfl ⟨Nat.le_of_ble_eq_true rfl, Nat.le_of_ble_eq_true rfl⟩ rfl (Nat.le_of_ble_eq_true rfl) dX6_set_3 ?_
  try dsimp only [Option.toList, List.cons_append, List.nil_append]
  refine s_if_eq (tgt := 26) hK dX6_set_6 (by decide) (fun c_6 => absurd c_6 (b2y' (wi_nI (N := 4) (by omega) (by decide)))) (fun c_6 => ?_)
  refine s_iload2 hK dX6_set_9 ?_
  refine s_tabs (n := "LEAST_SETTINGS") (t := 801) hK (by decide) (by decide +kernel) dX6_set_10 ?_
  refine s_iload1 hK dX6_set_13 ?_
  refine s_tlo hK (vp_in_nI hk (by decide)) dX6_set_14 ?_
  rw [cl_nI (show k < 2 ^ 31 by omega)]
  refine s_tabs (n := "GREATEST_SETTINGS") (t := 802) hK (by decide) (by decide +kernel) dX6_set_15 ?_
  refine s_iload1 hK dX6_set_18 ?_
  refine s_thi hK (vp_in_nI hk (by decide)) dX6_set_19 ?_
  rw [cl_nI (show k < 2 ^ 31 by omega)]
  refine s_callS hK mdX6_isWithin (zX6_isWithin _ _ _) gX6_set_X6_isWithin rfl ⟨Nat.le_of_ble_eq_true rfl, Nat.le_of_ble_eq_true rfl⟩ rfl (Nat.le_of_ble_eq_true rfl) dX6_set_20 ?_
  try dsimp only [Option.toList, List.cons_append, List.nil_append]
  refine s_if_ne (tgt := 30) hK dX6_set_23 (by decide) (fun c_23 => absurd c_23 (fun q => q (b2f hbad))) (fun c_23 => ?_)
  refine s_sipush (v := -1001) hK dX6_set_26 (by decide) ?_
  exact s_iret hK hE dX6_set_29 rfl (rfl) (rfl)
set_option maxHeartbeats 4000000 in
set_option maxRecDepth 100000 in
theorem zX6_set_ok {g : aG} {l : Launch} {σ : aS} (nx k : Nat) (v : Int32) (hN : NX σ nx) (hk : k < 5) (hv : wi v (tlo.getD k 0) (thi.getD k 0) = true) : CN g l yX6_set wsX6_set 5 111 [.ref 600, .int (nI k), .int v] σ (some (.int (kp σ nx 1 k))) (sP (kp σ nx) 1 (upd (kp σ nx 1) k v)) := by
  refine cn_of (cc := cX6_set) (nL := 4) (ret := (some .int)) (own := RX6) (by decide +kernel) rfl rfl (Nat.le_of_ble_eq_true rfl) (fun K hg hl hK hE => ?_)
  subst hg; subst hl
  have i_5 : ∀ w ∈ u_ws RX5 TX5 10, w ∈ wsX6_set := by decide +kernel
  have i_6 : ∀ w ∈ u_ws RX6 TX6 5, w ∈ wsX6_set := by decide +kernel
  show AW K 0 [some (.ref 600), some (.int (nI k)), some (.int v), none] [] σ
  refine s_iload1 hK dX6_set_0 ?_
  refine s_iconst (v := 0) hK dX6_set_1 (by decide) ?_
  refine s_iconst (v := 4) hK dX6_set_2 (by decide) ?_
  refine s_callS hK mdX6_isWithin (zX6_isWithin _ _ _) gX6_set_X6_isWithin rfl ⟨Nat.le_of_ble_eq_true rfl, Nat.le_of_ble_eq_true rfl⟩ rfl (Nat.le_of_ble_eq_true rfl) dX6_set_3 ?_
  try dsimp only [Option.toList, List.cons_append, List.nil_append]
  refine s_if_eq (tgt := 26) hK dX6_set_6 (by decide) (fun c_6 => absurd c_6 (b2y' (wi_nI (N := 4) (by omega) (by decide)))) (fun c_6 => ?_)
  refine s_iload2 hK dX6_set_9 ?_
  refine s_tabs (n := "LEAST_SETTINGS") (t := 801) hK (by decide) (by decide +kernel) dX6_set_10 ?_
  refine s_iload1 hK dX6_set_13 ?_
  refine s_tlo hK (vp_in_nI hk (by decide)) dX6_set_14 ?_
  rw [cl_nI (show k < 2 ^ 31 by omega)]
  refine s_tabs (n := "GREATEST_SETTINGS") (t := 802) hK (by decide) (by decide +kernel) dX6_set_15 ?_
  refine s_iload1 hK dX6_set_18 ?_
  refine s_thi hK (vp_in_nI hk (by decide)) dX6_set_19 ?_
  rw [cl_nI (show k < 2 ^ 31 by omega)]
  refine s_callS hK mdX6_isWithin (zX6_isWithin _ _ _) gX6_set_X6_isWithin rfl ⟨Nat.le_of_ble_eq_true rfl, Nat.le_of_ble_eq_true rfl⟩ rfl (Nat.le_of_ble_eq_true rfl) dX6_set_20 ?_
  try dsimp only [Option.toList, List.cons_append, List.nil_append]
  refine s_if_ne (tgt := 30) hK dX6_set_23 (by decide) (fun c_23 => ?_) (fun c_23 => absurd c_23 (b2y' hv))
  refine s_aload0 hK dX6_set_30 ?_
  refine s_getr (ci := 6) (k := 1) hK rfl rfl i_6 (by decide +kernel) dX6_set_31 (by decide) (by decide) (by decide) rfl rfl (rf_6_1 rfl) ?_
  refine s_aload0 hK dX6_set_34 ?_
  refine s_getr (ci := 6) (k := 0) hK rfl rfl i_6 (by decide +kernel) dX6_set_35 (by decide) (by decide) (by decide) rfl rfl (rf_6_0 rfl) ?_
  refine s_callV (ci := 2) hK mdX2_keep (zX2_keep nx hN.1 hN.2.1 hN.2.2.1 hN.2.2.2) gX6_set_X2_keep rfl rfl rfl (by decide) rfl ⟨Nat.le_of_ble_eq_true rfl, Nat.le_of_ble_eq_true rfl⟩ rfl (Nat.le_of_ble_eq_true rfl) dX6_set_38 ?_
  try dsimp only [Option.toList, List.cons_append, List.nil_append]
  refine s_aload0 hK dX6_set_41 ?_
  refine s_getr (ci := 6) (k := 0) hK rfl rfl i_6 (by decide +kernel) dX6_set_42 (by decide) (by decide) (by decide) rfl rfl (rf_6_0 rfl) ?_
  refine s_getr (ci := 5) (k := 1) hK rfl rfl i_5 (by decide +kernel) dX6_set_45 (by decide) (by decide) (by decide) rfl rfl (rf_5_1 rfl) ?_
  refine s_iload1 hK dX6_set_48 ?_
  refine s_iald hK rfl (show vp_in _ 5 from vp_in_nI hk (by decide)) dX6_set_49 ?_
  rw [cl_nI (show k < 2 ^ 31 by omega)]
  refine s_istore3 hK dX6_set_50 ?_
  refine s_aload0 hK dX6_set_51 ?_
  refine s_getr (ci := 6) (k := 0) hK rfl rfl i_6 (by decide +kernel) dX6_set_52 (by decide) (by decide) (by decide) rfl rfl (rf_6_0 rfl) ?_
  refine s_getr (ci := 5) (k := 1) hK rfl rfl i_5 (by decide +kernel) dX6_set_55 (by decide) (by decide) (by decide) rfl rfl (rf_5_1 rfl) ?_
  refine s_iload1 hK dX6_set_58 ?_
  refine s_iload2 hK dX6_set_59 ?_
  refine s_iast hK rfl (show vp_in _ 5 from vp_in_nI hk (by decide)) dX6_set_60 ?_
  rw [cl_nI (show k < 2 ^ 31 by omega)]
  refine s_iload3 hK dX6_set_61 ?_
  exact s_iret hK hE dX6_set_62 rfl (rfl) (rfl)
set_option maxHeartbeats 4000000 in
set_option maxRecDepth 100000 in
theorem zX6_take_bad {g : aG} {l : Launch} {σ : aS} (s : Int32) (hbad : wi s 0 1 = false) : CN g l yX6_take wsX6_take 5 111 [.ref 600, .int s] σ (some (.int (-1001))) σ := by
  refine cn_of (cc := cX6_take) (nL := 2) (ret := (some .int)) (own := RX6) (by decide +kernel) rfl rfl (Nat.le_of_ble_eq_true rfl) (fun K hg hl hK hE => ?_)
  subst hg; subst hl
  have i_5 : ∀ w ∈ u_ws RX5 TX5 10, w ∈ wsX6_take := by decide +kernel
  have i_6 : ∀ w ∈ u_ws RX6 TX6 5, w ∈ wsX6_take := by decide +kernel
  show AW K 0 [some (.ref 600), some (.int s)] [] σ
  refine s_iload1 hK dX6_take_0 ?_
  refine s_iconst (v := 0) hK dX6_take_1 (by decide) ?_
  refine s_iconst (v := 1) hK dX6_take_2 (by decide) ?_
  refine s_callS hK mdX6_isWithin (zX6_isWithin _ _ _) gX6_take_X6_isWithin rfl ⟨Nat.le_of_ble_eq_true rfl, Nat.le_of_ble_eq_true rfl⟩ rfl (Nat.le_of_ble_eq_true rfl) dX6_take_3 ?_
  try dsimp only [Option.toList, List.cons_append, List.nil_append]
  refine s_if_ne (tgt := 13) hK dX6_take_6 (by decide) (fun c_6 => absurd c_6 (fun q => q (b2f hbad))) (fun c_6 => ?_)
  refine s_sipush (v := -1001) hK dX6_take_9 (by decide) ?_
  exact s_iret hK hE dX6_take_12 rfl (rfl) (rfl)
set_option maxHeartbeats 4000000 in
set_option maxRecDepth 100000 in
theorem zX6_take_ok {g : aG} {l : Launch} {σ : aS} (nx : Nat) (s : Int32) (hN : NX σ nx) (hs : wi s 0 1 = true) (h1 : wR (tS (kp σ nx) 0 s) 15) (h2 : wR (tS (kp σ nx) 0 s) 16) : CN g l yX6_take wsX6_take 5 111 [.ref 600, .int s] σ (some (.int (nI (ct (px (tS (kp σ nx) 0 s) 15)) + nI (ct (px (tS (kp σ nx) 0 s) 16))))) (tS (kp σ nx) 0 s) := by
  refine cn_of (cc := cX6_take) (nL := 2) (ret := (some .int)) (own := RX6) (by decide +kernel) rfl rfl (Nat.le_of_ble_eq_true rfl) (fun K hg hl hK hE => ?_)
  subst hg; subst hl
  have i_5 : ∀ w ∈ u_ws RX5 TX5 10, w ∈ wsX6_take := by decide +kernel
  have i_6 : ∀ w ∈ u_ws RX6 TX6 5, w ∈ wsX6_take := by decide +kernel
  show AW K 0 [some (.ref 600), some (.int s)] [] σ
  refine s_iload1 hK dX6_take_0 ?_
  refine s_iconst (v := 0) hK dX6_take_1 (by decide) ?_
  refine s_iconst (v := 1) hK dX6_take_2 (by decide) ?_
  refine s_callS hK mdX6_isWithin (zX6_isWithin _ _ _) gX6_take_X6_isWithin rfl ⟨Nat.le_of_ble_eq_true rfl, Nat.le_of_ble_eq_true rfl⟩ rfl (Nat.le_of_ble_eq_true rfl) dX6_take_3 ?_
  try dsimp only [Option.toList, List.cons_append, List.nil_append]
  refine s_if_ne (tgt := 13) hK dX6_take_6 (by decide) (fun c_6 => ?_) (fun c_6 => absurd c_6 (b2y' hs))
  refine s_aload0 hK dX6_take_13 ?_
  refine s_getr (ci := 6) (k := 1) hK rfl rfl i_6 (by decide +kernel) dX6_take_14 (by decide) (by decide) (by decide) rfl rfl (rf_6_1 rfl) ?_
  refine s_aload0 hK dX6_take_17 ?_
  refine s_getr (ci := 6) (k := 0) hK rfl rfl i_6 (by decide +kernel) dX6_take_18 (by decide) (by decide) (by decide) rfl rfl (rf_6_0 rfl) ?_
  refine s_callV (ci := 2) hK mdX2_keep (zX2_keep nx hN.1 hN.2.1 hN.2.2.1 hN.2.2.2) gX6_take_X2_keep rfl rfl rfl (by decide) rfl ⟨Nat.le_of_ble_eq_true rfl, Nat.le_of_ble_eq_true rfl⟩ rfl (Nat.le_of_ble_eq_true rfl) dX6_take_21 ?_
  try dsimp only [Option.toList, List.cons_append, List.nil_append]
  refine s_aload0 hK dX6_take_24 ?_
  refine s_getr (ci := 6) (k := 0) hK rfl rfl i_6 (by decide +kernel) dX6_take_25 (by decide) (by decide) (by decide) rfl rfl (rf_6_0 rfl) ?_
  refine s_iload1 hK dX6_take_28 ?_
  refine s_callV (ci := 5) hK mdX5_takeSnapshot (zX5_takeSnapshot 0 s rfl) gX6_take_X5_takeSnapshot rfl rfl rfl (by decide) rfl ⟨Nat.le_of_ble_eq_true rfl, Nat.le_of_ble_eq_true rfl⟩ rfl (Nat.le_of_ble_eq_true rfl) dX6_take_29 ?_
  try dsimp only [Option.toList, List.cons_append, List.nil_append]
  refine s_aload0 hK dX6_take_32 ?_
  refine s_getr (ci := 6) (k := 0) hK rfl rfl i_6 (by decide +kernel) dX6_take_33 (by decide) (by decide) (by decide) rfl rfl (rf_6_0 rfl) ?_
  refine s_getr (ci := 5) (k := 0) hK rfl rfl i_5 (by decide +kernel) dX6_take_36 (by decide) (by decide) (by decide) rfl rfl (rf_5_0 rfl) ?_
  refine s_callV (ci := 0) hK mdX0_paintedCells (zX0_paintedCells 10 rfl h1 h2) gX6_take_X0_paintedCells rfl rfl rfl (by decide) rfl ⟨Nat.le_of_ble_eq_true rfl, Nat.le_of_ble_eq_true rfl⟩ rfl (Nat.le_of_ble_eq_true rfl) dX6_take_39 ?_
  try dsimp only [Option.toList, List.cons_append, List.nil_append]
  exact s_iret hK hE dX6_take_42 rfl (rfl) (rfl)
set_option maxHeartbeats 4000000 in
set_option maxRecDepth 100000 in
theorem zX6_restore_bad {g : aG} {l : Launch} {σ : aS} (s : Int32) (hbad : wi s 0 1 = false) : CN g l yX6_restore wsX6_restore 5 111 [.ref 600, .int s] σ (some (.int (-1001))) σ := by
  refine cn_of (cc := cX6_restore) (nL := 2) (ret := (some .int)) (own := RX6) (by decide +kernel) rfl rfl (Nat.le_of_ble_eq_true rfl) (fun K hg hl hK hE => ?_)
  subst hg; subst hl
  have i_5 : ∀ w ∈ u_ws RX5 TX5 10, w ∈ wsX6_restore := by decide +kernel
  have i_6 : ∀ w ∈ u_ws RX6 TX6 5, w ∈ wsX6_restore := by decide +kernel
  show AW K 0 [some (.ref 600), some (.int s)] [] σ
  refine s_iload1 hK dX6_restore_0 ?_
  refine s_iconst (v := 0) hK dX6_restore_1 (by decide) ?_
  refine s_iconst (v := 1) hK dX6_restore_2 (by decide) ?_
  refine s_callS hK mdX6_isWithin (zX6_isWithin _ _ _) gX6_restore_X6_isWithin rfl ⟨Nat.le_of_ble_eq_true rfl, Nat.le_of_ble_eq_true rfl⟩ rfl (Nat.le_of_ble_eq_true rfl) dX6_restore_3 ?_
  try dsimp only [Option.toList, List.cons_append, List.nil_append]
  refine s_if_ne (tgt := 13) hK dX6_restore_6 (by decide) (fun c_6 => absurd c_6 (fun q => q (b2f hbad))) (fun c_6 => ?_)
  refine s_sipush (v := -1001) hK dX6_restore_9 (by decide) ?_
  exact s_iret hK hE dX6_restore_12 rfl (rfl) (rfl)
set_option maxHeartbeats 4000000 in
set_option maxRecDepth 100000 in
theorem zX6_restore_ill {g : aG} {l : Launch} {σ : aS} (nx : Nat) (s : Int32) (hN : NX σ nx) (hs : wi s 0 1 = true) (hbad : (if s = 0 then σ 0 8 else σ 0 9) = 0) : CN g l yX6_restore wsX6_restore 5 111 [.ref 600, .int s] σ (some (.int (-1002))) σ := by
  refine cn_of (cc := cX6_restore) (nL := 2) (ret := (some .int)) (own := RX6) (by decide +kernel) rfl rfl (Nat.le_of_ble_eq_true rfl) (fun K hg hl hK hE => ?_)
  subst hg; subst hl
  have i_5 : ∀ w ∈ u_ws RX5 TX5 10, w ∈ wsX6_restore := by decide +kernel
  have i_6 : ∀ w ∈ u_ws RX6 TX6 5, w ∈ wsX6_restore := by decide +kernel
  show AW K 0 [some (.ref 600), some (.int s)] [] σ
  refine s_iload1 hK dX6_restore_0 ?_
  refine s_iconst (v := 0) hK dX6_restore_1 (by decide) ?_
  refine s_iconst (v := 1) hK dX6_restore_2 (by decide) ?_
  refine s_callS hK mdX6_isWithin (zX6_isWithin _ _ _) gX6_restore_X6_isWithin rfl ⟨Nat.le_of_ble_eq_true rfl, Nat.le_of_ble_eq_true rfl⟩ rfl (Nat.le_of_ble_eq_true rfl) dX6_restore_3 ?_
  try dsimp only [Option.toList, List.cons_append, List.nil_append]
  refine s_if_ne (tgt := 13) hK dX6_restore_6 (by decide) (fun c_6 => ?_) (fun c_6 => absurd c_6 (b2y' hs))
  refine s_aload0 hK dX6_restore_13 ?_
  refine s_getr (ci := 6) (k := 0) hK rfl rfl i_6 (by decide +kernel) dX6_restore_14 (by decide) (by decide) (by decide) rfl rfl (rf_6_0 rfl) ?_
  refine s_iload1 hK dX6_restore_17 ?_
  refine s_callV (ci := 5) hK mdX5_isTaken (zX5_isTaken 0 s rfl hN.2.2.1 hN.2.2.2) gX6_restore_X5_isTaken rfl rfl rfl (by decide) rfl ⟨Nat.le_of_ble_eq_true rfl, Nat.le_of_ble_eq_true rfl⟩ rfl (Nat.le_of_ble_eq_true rfl) dX6_restore_18 ?_
  try dsimp only [Option.toList, List.cons_append, List.nil_append]
  refine s_if_ne (tgt := 28) hK dX6_restore_21 (by decide) (fun c_21 => absurd c_21 (fun q => q hbad)) (fun c_21 => ?_)
  refine s_sipush (v := -1002) hK dX6_restore_24 (by decide) ?_
  exact s_iret hK hE dX6_restore_27 rfl (rfl) (rfl)
set_option maxHeartbeats 4000000 in
set_option maxRecDepth 100000 in
theorem zX6_restore_ok {g : aG} {l : Launch} {σ : aS} (nx : Nat) (s : Int32) (hN : NX σ nx) (hs : wi s 0 1 = true) (ht : ¬ (if s = 0 then σ 0 8 else σ 0 9) = 0) (h1 : wR (bB (kp σ nx) 10 (sb 0 s)) 15) (h2 : wR (bB (kp σ nx) 10 (sb 0 s)) 16) : CN g l yX6_restore wsX6_restore 5 111 [.ref 600, .int s] σ (some (.int (nI (ct (px (bB (kp σ nx) 10 (sb 0 s)) 15)) + nI (ct (px (bB (kp σ nx) 10 (sb 0 s)) 16))))) (bB (kp σ nx) 10 (sb 0 s)) := by
  refine cn_of (cc := cX6_restore) (nL := 2) (ret := (some .int)) (own := RX6) (by decide +kernel) rfl rfl (Nat.le_of_ble_eq_true rfl) (fun K hg hl hK hE => ?_)
  subst hg; subst hl
  have i_5 : ∀ w ∈ u_ws RX5 TX5 10, w ∈ wsX6_restore := by decide +kernel
  have i_6 : ∀ w ∈ u_ws RX6 TX6 5, w ∈ wsX6_restore := by decide +kernel
  show AW K 0 [some (.ref 600), some (.int s)] [] σ
  refine s_iload1 hK dX6_restore_0 ?_
  refine s_iconst (v := 0) hK dX6_restore_1 (by decide) ?_
  refine s_iconst (v := 1) hK dX6_restore_2 (by decide) ?_
  refine s_callS hK mdX6_isWithin (zX6_isWithin _ _ _) gX6_restore_X6_isWithin rfl ⟨Nat.le_of_ble_eq_true rfl, Nat.le_of_ble_eq_true rfl⟩ rfl (Nat.le_of_ble_eq_true rfl) dX6_restore_3 ?_
  try dsimp only [Option.toList, List.cons_append, List.nil_append]
  refine s_if_ne (tgt := 13) hK dX6_restore_6 (by decide) (fun c_6 => ?_) (fun c_6 => absurd c_6 (b2y' hs))
  refine s_aload0 hK dX6_restore_13 ?_
  refine s_getr (ci := 6) (k := 0) hK rfl rfl i_6 (by decide +kernel) dX6_restore_14 (by decide) (by decide) (by decide) rfl rfl (rf_6_0 rfl) ?_
  refine s_iload1 hK dX6_restore_17 ?_
  refine s_callV (ci := 5) hK mdX5_isTaken (zX5_isTaken 0 s rfl hN.2.2.1 hN.2.2.2) gX6_restore_X5_isTaken rfl rfl rfl (by decide) rfl ⟨Nat.le_of_ble_eq_true rfl, Nat.le_of_ble_eq_true rfl⟩ rfl (Nat.le_of_ble_eq_true rfl) dX6_restore_18 ?_
  try dsimp only [Option.toList, List.cons_append, List.nil_append]
  refine s_if_ne (tgt := 28) hK dX6_restore_21 (by decide) (fun c_21 => ?_) (fun c_21 => absurd c_21 ht)
  refine s_aload0 hK dX6_restore_28 ?_
  refine s_getr (ci := 6) (k := 1) hK rfl rfl i_6 (by decide +kernel) dX6_restore_29 (by decide) (by decide) (by decide) rfl rfl (rf_6_1 rfl) ?_
  refine s_aload0 hK dX6_restore_32 ?_
  refine s_getr (ci := 6) (k := 0) hK rfl rfl i_6 (by decide +kernel) dX6_restore_33 (by decide) (by decide) (by decide) rfl rfl (rf_6_0 rfl) ?_
  refine s_callV (ci := 2) hK mdX2_keep (zX2_keep nx hN.1 hN.2.1 hN.2.2.1 hN.2.2.2) gX6_restore_X2_keep rfl rfl rfl (by decide) rfl ⟨Nat.le_of_ble_eq_true rfl, Nat.le_of_ble_eq_true rfl⟩ rfl (Nat.le_of_ble_eq_true rfl) dX6_restore_36 ?_
  try dsimp only [Option.toList, List.cons_append, List.nil_append]
  refine s_aload0 hK dX6_restore_39 ?_
  refine s_getr (ci := 6) (k := 0) hK rfl rfl i_6 (by decide +kernel) dX6_restore_40 (by decide) (by decide) (by decide) rfl rfl (rf_6_0 rfl) ?_
  refine s_iload1 hK dX6_restore_43 ?_
  refine s_callV (ci := 5) hK mdX5_restoreSnapshot (zX5_restoreSnapshot 0 s rfl) gX6_restore_X5_restoreSnapshot rfl rfl rfl (by decide) rfl ⟨Nat.le_of_ble_eq_true rfl, Nat.le_of_ble_eq_true rfl⟩ rfl (Nat.le_of_ble_eq_true rfl) dX6_restore_44 ?_
  try dsimp only [Option.toList, List.cons_append, List.nil_append]
  refine s_aload0 hK dX6_restore_47 ?_
  refine s_getr (ci := 6) (k := 0) hK rfl rfl i_6 (by decide +kernel) dX6_restore_48 (by decide) (by decide) (by decide) rfl rfl (rf_6_0 rfl) ?_
  refine s_getr (ci := 5) (k := 0) hK rfl rfl i_5 (by decide +kernel) dX6_restore_51 (by decide) (by decide) (by decide) rfl rfl (rf_5_0 rfl) ?_
  refine s_callV (ci := 0) hK mdX0_paintedCells (zX0_paintedCells 10 rfl h1 h2) gX6_restore_X0_paintedCells rfl rfl rfl (by decide) rfl ⟨Nat.le_of_ble_eq_true rfl, Nat.le_of_ble_eq_true rfl⟩ rfl (Nat.le_of_ble_eq_true rfl) dX6_restore_54 ?_
  try dsimp only [Option.toList, List.cons_append, List.nil_append]
  exact s_iret hK hE dX6_restore_57 rfl (rfl) (rfl)
set_option maxHeartbeats 4000000 in
set_option maxRecDepth 100000 in
theorem zX6_undo_ill {g : aG} {l : Launch} {σ : aS} (h : σ 601 1 = 0) : CN g l yX6_undo wsX6_undo 5 111 [.ref 600] σ (some (.int (-1002))) σ := by
  refine cn_of (cc := cX6_undo) (nL := 1) (ret := (some .int)) (own := RX6) (by decide +kernel) rfl rfl (Nat.le_of_ble_eq_true rfl) (fun K hg hl hK hE => ?_)
  subst hg; subst hl
  have i_6 : ∀ w ∈ u_ws RX6 TX6 5, w ∈ wsX6_undo := by decide +kernel
  show AW K 0 [some (.ref 600)] [] σ
  refine s_aload0 hK dX6_undo_0 ?_
  refine s_getr (ci := 6) (k := 1) hK rfl rfl i_6 (by decide +kernel) dX6_undo_1 (by decide) (by decide) (by decide) rfl rfl (rf_6_1 rfl) ?_
  refine s_callV (ci := 2) hK mdX2_size (zX2_size 601 rfl) gX6_undo_X2_size rfl rfl rfl (by decide) rfl ⟨Nat.le_of_ble_eq_true rfl, Nat.le_of_ble_eq_true rfl⟩ rfl (Nat.le_of_ble_eq_true rfl) dX6_undo_4 ?_
  try dsimp only [Option.toList, List.cons_append, List.nil_append]
  refine s_if_ne (tgt := 14) hK dX6_undo_7 (by decide) (fun c_7 => absurd c_7 (fun q => q h)) (fun c_7 => ?_)
  refine s_sipush (v := -1002) hK dX6_undo_10 (by decide) ?_
  exact s_iret hK hE dX6_undo_13 rfl (rfl) (rfl)
set_option maxHeartbeats 4000000 in
set_option maxRecDepth 100000 in
theorem zX6_undo_ok {g : aG} {l : Launch} {σ : aS} (nx : Nat) (hnx : nx < 5) (h2 : σ 601 2 = nI nx) (h : ¬ σ 601 1 = 0) (h8 : σ (100 * ((nx + 4) % 5 + 1)) 8 = 0 ∨ σ (100 * ((nx + 4) % 5 + 1)) 8 = 1) (h9 : σ (100 * ((nx + 4) % 5 + 1)) 9 = 0 ∨ σ (100 * ((nx + 4) % 5 + 1)) 9 = 1) : CN g l yX6_undo wsX6_undo 5 111 [.ref 600] σ (some (.int (gB_ σ nx 601 1))) (gB_ σ nx) := by
  refine cn_of (cc := cX6_undo) (nL := 1) (ret := (some .int)) (own := RX6) (by decide +kernel) rfl rfl (Nat.le_of_ble_eq_true rfl) (fun K hg hl hK hE => ?_)
  subst hg; subst hl
  have i_6 : ∀ w ∈ u_ws RX6 TX6 5, w ∈ wsX6_undo := by decide +kernel
  show AW K 0 [some (.ref 600)] [] σ
  refine s_aload0 hK dX6_undo_0 ?_
  refine s_getr (ci := 6) (k := 1) hK rfl rfl i_6 (by decide +kernel) dX6_undo_1 (by decide) (by decide) (by decide) rfl rfl (rf_6_1 rfl) ?_
  refine s_callV (ci := 2) hK mdX2_size (zX2_size 601 rfl) gX6_undo_X2_size rfl rfl rfl (by decide) rfl ⟨Nat.le_of_ble_eq_true rfl, Nat.le_of_ble_eq_true rfl⟩ rfl (Nat.le_of_ble_eq_true rfl) dX6_undo_4 ?_
  try dsimp only [Option.toList, List.cons_append, List.nil_append]
  refine s_if_ne (tgt := 14) hK dX6_undo_7 (by decide) (fun c_7 => ?_) (fun c_7 => absurd c_7 h)
  refine s_aload0 hK dX6_undo_14 ?_
  refine s_getr (ci := 6) (k := 1) hK rfl rfl i_6 (by decide +kernel) dX6_undo_15 (by decide) (by decide) (by decide) rfl rfl (rf_6_1 rfl) ?_
  refine s_aload0 hK dX6_undo_18 ?_
  refine s_getr (ci := 6) (k := 0) hK rfl rfl i_6 (by decide +kernel) dX6_undo_19 (by decide) (by decide) (by decide) rfl rfl (rf_6_0 rfl) ?_
  refine s_callV (ci := 2) hK mdX2_giveBack (zX2_giveBack nx hnx h2 h8 h9) gX6_undo_X2_giveBack rfl rfl rfl (by decide) rfl ⟨Nat.le_of_ble_eq_true rfl, Nat.le_of_ble_eq_true rfl⟩ rfl (Nat.le_of_ble_eq_true rfl) dX6_undo_22 ?_
  try dsimp only [Option.toList, List.cons_append, List.nil_append]
  refine s_aload0 hK dX6_undo_25 ?_
  refine s_getr (ci := 6) (k := 1) hK rfl rfl i_6 (by decide +kernel) dX6_undo_26 (by decide) (by decide) (by decide) rfl rfl (rf_6_1 rfl) ?_
  refine s_callV (ci := 2) hK mdX2_size (zX2_size 601 rfl) gX6_undo_X2_size rfl rfl rfl (by decide) rfl ⟨Nat.le_of_ble_eq_true rfl, Nat.le_of_ble_eq_true rfl⟩ rfl (Nat.le_of_ble_eq_true rfl) dX6_undo_29 ?_
  try dsimp only [Option.toList, List.cons_append, List.nil_append]
  exact s_iret hK hE dX6_undo_32 rfl (rfl) (rfl)