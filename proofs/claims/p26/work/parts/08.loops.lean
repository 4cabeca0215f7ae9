theorem rw_hi {σ : aS} {a : Nat} {y : Int32} (hw : wR σ a) : ∀ i, 16 ≤ i → bt (rw_ σ a y) i = false := by
  intro i hi
  unfold rw_
  by_cases c : ¬ y < 0 ∧ ¬ 12 ≤ y
  · rw [if_pos c]
    rcases pk_ix y (n := 12) (by decide) with q | q | ⟨j, h3, h4⟩
    · exact absurd q c.1
    · exact absurd q c.2
    · rw [h4, cl_nI (by omega)]
      exact hw j h3 i hi
  · rw [if_neg c, b_0]
theorem sR_hi {σ : aS} {a : Nat} {sx sy : Int32} {y : Nat} (hw : wR σ a) (hx : sxk sx) : ∀ i, 16 ≤ i → bt (sR σ a (nI y) sx sy) i = false := by
  intro i hi
  rcases Nat.lt_or_ge i 32 with h32 | h32
  · unfold sR
    by_cases c : sx < 0
    · rw [if_pos c]
      obtain ⟨s, hs8, rfl | ⟨hs0, rfl⟩⟩ := sx_of hx
      · exact absurd c (nI_pos (by omega))
      · have e1 : -(-nI s) = nI s := Int32.neg_neg
        rw [e1, b_sshr s (by omega) _ h32]
        split
        · exact rw_hi hw (s + i) (by omega)
        · exact rw_hi hw 31 (by omega)
    · rw [if_neg c, b_and, b_65535]
      simp [Nat.not_lt.mpr hi]
  · exact b_big h32
def gG (σ : aS) (b li ci : Nat) (sx sy : Int32) (k : Nat) : Bool := (px σ (b + 1 + 4) k || px σ (b + 2 + 4) k) && !(px σ (li + 4) k || shp σ (ci + 4) sx sy k)
def gS (σ : aS) (b ci : Nat) (sx sy : Int32) (k : Nat) : Bool := shp σ (ci + 4) sx sy k && !(px σ (b + 1 + 4) k || px σ (b + 2 + 4) k)
def gLo (σ : aS) (b li : Nat) (k : Nat) : Bool := px σ (b + 2 + 4) k && !px σ (li + 4) k
def gw (σ : aS) (a o y : Nat) : Int32 := σ a y ||| ((((if y = 0 then 0 else σ a (y - 1)) ||| rw_ σ a (nI (y + 1))) ||| σ a y <<< ((1 : Int32) &&& 31) ||| σ a y >>> ((1 : Int32) &&& 31)) &&& σ o y)
def gIn (σ : aS) (a o : Nat) : aS := sP σ a (fa_fill (gw σ a o) (σ a) 12)
theorem sP_sP (σ : aS) (a : Nat) (f g : Nat → Int32) : sP (sP σ a f) a g = sP σ a g := by
  funext q
  by_cases h : q = a
  · simp [sP, h]
  · simp [sP, h]
theorem sP_id (σ : aS) (a : Nat) : sP σ a (σ a) = σ := by
  funext q
  by_cases h : q = a
  · simp [sP, h]
  · simp [sP, h]
theorem rw_ge (σ : aS) (a : Nat) {y : Nat} (h : 12 ≤ y) (h2 : y < 2 ^ 31) : rw_ σ a (nI y) = 0 := by
  have : (12 : Int32) ≤ nI y := nI_le (a := 12) h h2
  simp [rw_, this]
theorem rw_fill (σ : aS) (a : Nat) (f : Nat → Int32) {y : Nat} (h : y < 12) : rw_ (sP σ a (fa_fill f (σ a) y)) a (nI (y + 1)) = rw_ σ a (nI (y + 1)) := by
  rcases Nat.lt_or_ge (y + 1) 12 with q | q
  · rw [rw_nI _ _ q, rw_nI _ _ q, sP_same, fa_fill_out (by omega)]
  · rw [rw_ge _ _ q (by omega), rw_ge _ _ q (by omega)]
set_option maxHeartbeats 4000000 in
set_option maxRecDepth 100000 in
theorem zX0_gaps {g : aG} {l : Launch} {σ : aS} (b li ci : Nat) (sx sy : Int32) (hb : kd b = 0) (hl : kd li = 1) (hc : kd ci = 1) (h1 : wR σ (b + 1 + 4)) (h2 : wR σ (b + 2 + 4)) (hw : wR σ (ci + 4)) (hx : sxk sx) : CN g l yX0_gaps wsX0_gaps 2 45 [.ref b, .ref li, .ref ci, .int sx, .int sy] σ (some (.int (nI (ct (gG σ b li ci sx sy))))) σ := by
  refine cn_of (cc := cX0_gaps) (nL := 8) (ret := (some .int)) (own := RX0) (by decide +kernel) rfl rfl (Nat.le_of_ble_eq_true rfl) (fun K hg hl hK hE => ?_)
  subst hg; subst hl
  have i_0 : ∀ w ∈ u_ws RX0 TX0 5, w ∈ wsX0_gaps := by decide +kernel
  show AW K 0 [some (.ref b), some (.ref li), some (.ref ci), some (.int sx), some (.int sy), none, none, none] [] σ
  have hx1 : (∀ z7 : Option Value, AW K 6 [some (.ref b), some (.ref li), some (.ref ci), some (.int sx), some (.int sy), some (.int (nI (fb_ct (gG σ b li ci sx sy) (16 * 12)))), some (.int (nI 12)), z7] [] (σ)) := by
    intro z7
    refine s_iload6 hK dX0_gaps_6 ?_
    refine s_bipush (v := 12) hK dX0_gaps_8 (by decide) ?_
    refine s_icmp_ge (tgt := 69) hK dX0_gaps_10 (by decide) (fun c_10 => ?_) (fun c_10 => absurd c_10 (fun q => q (ge_E rfl rfl)))
    refine s_iload5 hK dX0_gaps_69 ?_
    exact s_iret hK hE dX0_gaps_71 rfl (rfl) (rfl)
  have hb1 : ∀ k1 : Nat, k1 < 12 → (∀ z7 : Option Value, AW K 6 [some (.ref b), some (.ref li), some (.ref ci), some (.int sx), some (.int sy), some (.int (nI (fb_ct (gG σ b li ci sx sy) (16 * (k1 + 1))))), some (.int (nI (k1 + 1))), z7] [] (σ)) → (∀ z7 : Option Value, AW K 6 [some (.ref b), some (.ref li), some (.ref ci), some (.int sx), some (.int sy), some (.int (nI (fb_ct (gG σ b li ci sx sy) (16 * k1)))), some (.int (nI k1)), z7] [] (σ)) := by
    intro k1 hk1 ih1 z7
    refine s_iload6 hK dX0_gaps_6 ?_
    refine s_bipush (v := 12) hK dX0_gaps_8 (by decide) ?_
    refine s_icmp_ge (tgt := 69) hK dX0_gaps_10 (by decide) (fun c_10 => absurd c_10 (ge_N rfl rfl hk1 (by decide))) (fun c_10 => ?_)
    refine s_aload1 hK dX0_gaps_13 ?_
    refine s_iload6 hK dX0_gaps_14 ?_
    refine s_callV (ci := 1) hK mdX1_row (zX1_row li _ hl) gX0_gaps_X1_row hl rfl rfl (by decide) rfl ⟨Nat.le_of_ble_eq_true rfl, Nat.le_of_ble_eq_true rfl⟩ rfl (Nat.le_of_ble_eq_true rfl) dX0_gaps_16 ?_
    try dsimp only [Option.toList, List.cons_append, List.nil_append]
    refine s_aload2 hK dX0_gaps_19 ?_
    refine s_iload6 hK dX0_gaps_20 ?_
    refine s_iload3 hK dX0_gaps_22 ?_
    refine s_iload4 hK dX0_gaps_23 ?_
    refine s_callV (ci := 1) hK mdX1_shiftedRow (zX1_shiftedRow ci _ sx sy hc) gX0_gaps_X1_shiftedRow hc rfl rfl (by decide) rfl ⟨Nat.le_of_ble_eq_true rfl, Nat.le_of_ble_eq_true rfl⟩ rfl (Nat.le_of_ble_eq_true rfl) dX0_gaps_25 ?_
    try dsimp only [Option.toList, List.cons_append, List.nil_append]
    refine s_ior hK dX0_gaps_28 ?_
    refine s_istore7 hK dX0_gaps_29 ?_
    refine s_iload5 hK dX0_gaps_31 ?_
    refine s_aload0 hK dX0_gaps_33 ?_
    refine s_getr (ci := 0) (k := 0) hK hb rfl i_0 (by decide +kernel) dX0_gaps_34 (by decide) (by decide) (by decide) rfl rfl (rf_0_0 hb) ?_
    refine s_iload6 hK dX0_gaps_37 ?_
    refine s_callV (ci := 1) hK mdX1_row (zX1_row (b + 1) _ (kB1 hb)) gX0_gaps_X1_row (kB1 hb) rfl rfl (by decide) rfl ⟨Nat.le_of_ble_eq_true rfl, Nat.le_of_ble_eq_true rfl⟩ rfl (Nat.le_of_ble_eq_true rfl) dX0_gaps_39 ?_
    try dsimp only [Option.toList, List.cons_append, List.nil_append]
    refine s_aload0 hK dX0_gaps_42 ?_
    refine s_getr (ci := 0) (k := 1) hK hb rfl i_0 (by decide +kernel) dX0_gaps_43 (by decide) (by decide) (by decide) rfl rfl (rf_0_1 hb) ?_
    refine s_iload6 hK dX0_gaps_46 ?_
    refine s_callV (ci := 1) hK mdX1_row (zX1_row (b + 2) _ (kB2 hb)) gX0_gaps_X1_row (kB2 hb) rfl rfl (by decide) rfl ⟨Nat.le_of_ble_eq_true rfl, Nat.le_of_ble_eq_true rfl⟩ rfl (Nat.le_of_ble_eq_true rfl) dX0_gaps_48 ?_
    try dsimp only [Option.toList, List.cons_append, List.nil_append]
    refine s_ior hK dX0_gaps_51 ?_
    refine s_iload7 hK dX0_gaps_52 ?_
    refine s_iconst (v := -1) hK dX0_gaps_54 (by decide) ?_
    refine s_ixor hK dX0_gaps_55 ?_
    refine s_iand hK dX0_gaps_56 ?_
    refine s_callS hK mdJ6_bitCount_0f7a4 (zJ6_bitCount_0f7a4 _) gX0_gaps_J6_bitCount_0f7a4 rfl ⟨Nat.le_of_ble_eq_true rfl, Nat.le_of_ble_eq_true rfl⟩ rfl (Nat.le_of_ble_eq_true rfl) dX0_gaps_57 ?_
    try dsimp only [Option.toList, List.cons_append, List.nil_append]
    refine s_iadd hK dX0_gaps_60 ?_
    refine s_istore5 hK dX0_gaps_61 ?_
    refine s_iinc6 hK dX0_gaps_63 (hv_1 _) ?_
    refine s_goto (tgt := 6) hK dX0_gaps_66 (by decide) ?_
    exact AW.to (ih1 _) (by rw [rw_nI _ _ hk1, rw_nI _ _ hk1, rw_nI _ _ hk1, nI_1, acc_pc (G := gG σ b li ci sx sy) (AND_lo (or_hi (h1 k1 hk1) (h2 k1 hk1))) (fun i hi => by rw [b_and, b_or, bt_not _ (by omega), b_or, px_shp hw hx hi]; simp only [gG, px_at _ _ _ hi])]) (rfl)
  refine s_iconst (v := 0) hK dX0_gaps_0 (by decide) ?_
  refine s_istore5 hK dX0_gaps_1 ?_
  refine s_iconst (v := 0) hK dX0_gaps_3 (by decide) ?_
  refine s_istore6 hK dX0_gaps_4 ?_
  exact AW.to (up_to (fun k => ∀ z7 : Option Value, AW K 6 [some (.ref b), some (.ref li), some (.ref ci), some (.int sx), some (.int sy), some (.int (nI (fb_ct (gG σ b li ci sx sy) (16 * k)))), some (.int (nI k)), z7] [] (σ)) 12 hx1 hb1 _) (rfl) (rfl)
set_option maxHeartbeats 4000000 in
set_option maxRecDepth 100000 in
theorem zX0_spills {g : aG} {l : Launch} {σ : aS} (b ci : Nat) (sx sy : Int32) (hb : kd b = 0) (hc : kd ci = 1) (hw : wR σ (ci + 4)) (hx : sxk sx) : CN g l yX0_spills wsX0_spills 2 45 [.ref b, .ref ci, .int sx, .int sy] σ (some (.int (nI (ct (gS σ b ci sx sy))))) σ := by
  refine cn_of (cc := cX0_spills) (nL := 7) (ret := (some .int)) (own := RX0) (by decide +kernel) rfl rfl (Nat.le_of_ble_eq_true rfl) (fun K hg hl hK hE => ?_)
  subst hg; subst hl
  have i_0 : ∀ w ∈ u_ws RX0 TX0 5, w ∈ wsX0_spills := by decide +kernel
  show AW K 0 [some (.ref b), some (.ref ci), some (.int sx), some (.int sy), none, none, none] [] σ
  have hx1 : (∀ z6 : Option Value, AW K 6 [some (.ref b), some (.ref ci), some (.int sx), some (.int sy), some (.int (nI (fb_ct (gS σ b ci sx sy) (16 * 12)))), some (.int (nI 12)), z6] [] (σ)) := by
    intro z6
    refine s_iload5 hK dX0_spills_6 ?_
    refine s_bipush (v := 12) hK dX0_spills_8 (by decide) ?_
    refine s_icmp_ge (tgt := 61) hK dX0_spills_10 (by decide) (fun c_10 => ?_) (fun c_10 => absurd c_10 (fun q => q (ge_E rfl rfl)))
    refine s_iload4 hK dX0_spills_61 ?_
    exact s_iret hK hE dX0_spills_63 rfl (rfl) (rfl)
  have hb1 : ∀ k1 : Nat, k1 < 12 → (∀ z6 : Option Value, AW K 6 [some (.ref b), some (.ref ci), some (.int sx), some (.int sy), some (.int (nI (fb_ct (gS σ b ci sx sy) (16 * (k1 + 1))))), some (.int (nI (k1 + 1))), z6] [] (σ)) → (∀ z6 : Option Value, AW K 6 [some (.ref b), some (.ref ci), some (.int sx), some (.int sy), some (.int (nI (fb_ct (gS σ b ci sx sy) (16 * k1)))), some (.int (nI k1)), z6] [] (σ)) := by
    intro k1 hk1 ih1 z6
    refine s_iload5 hK dX0_spills_6 ?_
    refine s_bipush (v := 12) hK dX0_spills_8 (by decide) ?_
    refine s_icmp_ge (tgt := 61) hK dX0_spills_10 (by decide) (fun c_10 => absurd c_10 (ge_N rfl rfl hk1 (by decide))) (fun c_10 => ?_)
    refine s_aload0 hK dX0_spills_13 ?_
    refine s_getr (ci := 0) (k := 0) hK hb rfl i_0 (by decide +kernel) dX0_spills_14 (by decide) (by decide) (by decide) rfl rfl (rf_0_0 hb) ?_
    refine s_iload5 hK dX0_spills_17 ?_
    refine s_callV (ci := 1) hK mdX1_row (zX1_row (b + 1) _ (kB1 hb)) gX0_spills_X1_row (kB1 hb) rfl rfl (by decide) rfl ⟨Nat.le_of_ble_eq_true rfl, Nat.le_of_ble_eq_true rfl⟩ rfl (Nat.le_of_ble_eq_true rfl) dX0_spills_19 ?_
    try dsimp only [Option.toList, List.cons_append, List.nil_append]
    refine s_aload0 hK dX0_spills_22 ?_
    refine s_getr (ci := 0) (k := 1) hK hb rfl i_0 (by decide +kernel) dX0_spills_23 (by decide) (by decide) (by decide) rfl rfl (rf_0_1 hb) ?_
    refine s_iload5 hK dX0_spills_26 ?_
    refine s_callV (ci := 1) hK mdX1_row (zX1_row (b + 2) _ (kB2 hb)) gX0_spills_X1_row (kB2 hb) rfl rfl (by decide) rfl ⟨Nat.le_of_ble_eq_true rfl, Nat.le_of_ble_eq_true rfl⟩ rfl (Nat.le_of_ble_eq_true rfl) dX0_spills_28 ?_
    try dsimp only [Option.toList, List.cons_append, List.nil_append]
    refine s_ior hK dX0_spills_31 ?_
    refine s_istore6 hK dX0_spills_32 ?_
    refine s_iload4 hK dX0_spills_34 ?_
    refine s_aload1 hK dX0_spills_36 ?_
    refine s_iload5 hK dX0_spills_37 ?_
    refine s_iload2 hK dX0_spills_39 ?_
    refine s_iload3 hK dX0_spills_40 ?_
    refine s_callV (ci := 1) hK mdX1_shiftedRow (zX1_shiftedRow ci _ sx sy hc) gX0_spills_X1_shiftedRow hc rfl rfl (by decide) rfl ⟨Nat.le_of_ble_eq_true rfl, Nat.le_of_ble_eq_true rfl⟩ rfl (Nat.le_of_ble_eq_true rfl) dX0_spills_41 ?_
    try dsimp only [Option.toList, List.cons_append, List.nil_append]
    refine s_iload6 hK dX0_spills_44 ?_
    refine s_iconst (v := -1) hK dX0_spills_46 (by decide) ?_
    refine s_ixor hK dX0_spills_47 ?_
    refine s_iand hK dX0_spills_48 ?_
    refine s_callS hK mdJ6_bitCount_0f7a4 (zJ6_bitCount_0f7a4 _) gX0_spills_J6_bitCount_0f7a4 rfl ⟨Nat.le_of_ble_eq_true rfl, Nat.le_of_ble_eq_true rfl⟩ rfl (Nat.le_of_ble_eq_true rfl) dX0_spills_49 ?_
    try dsimp only [Option.toList, List.cons_append, List.nil_append]
    refine s_iadd hK dX0_spills_52 ?_
    refine s_istore4 hK dX0_spills_53 ?_
    refine s_iinc5 hK dX0_spills_55 (hv_1 _) ?_
    refine s_goto (tgt := 6) hK dX0_spills_58 (by decide) ?_
    exact AW.to (ih1 _) (by rw [rw_nI _ _ hk1, rw_nI _ _ hk1, nI_1, acc_pc (G := gS σ b ci sx sy) (AND_lo (sR_hi hw hx)) (fun i hi => by rw [b_and, bt_not _ (by omega), b_or, px_shp hw hx hi]; simp only [gS, px_at _ _ _ hi])]) (rfl)
  refine s_iconst (v := 0) hK dX0_spills_0 (by decide) ?_
  refine s_istore4 hK dX0_spills_1 ?_
  refine s_iconst (v := 0) hK dX0_spills_3 (by decide) ?_
  refine s_istore5 hK dX0_spills_4 ?_
  exact AW.to (up_to (fun k => ∀ z6 : Option Value, AW K 6 [some (.ref b), some (.ref ci), some (.int sx), some (.int sy), some (.int (nI (fb_ct (gS σ b ci sx sy) (16 * k)))), some (.int (nI k)), z6] [] (σ)) 12 hx1 hb1 _) (rfl) (rfl)
set_option maxHeartbeats 4000000 in
set_option maxRecDepth 100000 in
theorem zX0_lostLines {g : aG} {l : Launch} {σ : aS} (b li : Nat) (hb : kd b = 0) (hl : kd li = 1) (h2 : wR σ (b + 2 + 4)) : CN g l yX0_lostLines wsX0_lostLines 1 21 [.ref b, .ref li] σ (some (.int (nI (ct (gLo σ b li))))) σ := by
  refine cn_of (cc := cX0_lostLines) (nL := 4) (ret := (some .int)) (own := RX0) (by decide +kernel) rfl rfl (Nat.le_of_ble_eq_true rfl) (fun K hg hl hK hE => ?_)
  subst hg; subst hl
  have i_0 : ∀ w ∈ u_ws RX0 TX0 5, w ∈ wsX0_lostLines := by decide +kernel
  show AW K 0 [some (.ref b), some (.ref li), none, none] [] σ
  have hx1 : AW K 4 [some (.ref b), some (.ref li), some (.int (nI (fb_ct (gLo σ b li) (16 * 12)))), some (.int (nI 12))] [] (σ) := by
    refine s_iload3 hK dX0_lostLines_4 ?_
    refine s_bipush (v := 12) hK dX0_lostLines_5 (by decide) ?_
    refine s_icmp_ge (tgt := 38) hK dX0_lostLines_7 (by decide) (fun c_7 => ?_) (fun c_7 => absurd c_7 (fun q => q (ge_E rfl rfl)))
    refine s_iload2 hK dX0_lostLines_38 ?_
    exact s_iret hK hE dX0_lostLines_39 rfl (rfl) (rfl)
  have hb1 : ∀ k1 : Nat, k1 < 12 → AW K 4 [some (.ref b), some (.ref li), some (.int (nI (fb_ct (gLo σ b li) (16 * (k1 + 1))))), some (.int (nI (k1 + 1)))] [] (σ) → AW K 4 [some (.ref b), some (.ref li), some (.int (nI (fb_ct (gLo σ b li) (16 * k1)))), some (.int (nI k1))] [] (σ) := by
    intro k1 hk1 ih1 
    refine s_iload3 hK dX0_lostLines_4 ?_
    refine s_bipush (v := 12) hK dX0_lostLines_5 (by decide) ?_
    refine s_icmp_ge (tgt := 38) hK dX0_lostLines_7 (by decide) (fun c_7 => absurd c_7 (ge_N rfl rfl hk1 (by decide))) (fun c_7 => ?_)
    refine s_iload2 hK dX0_lostLines_10 ?_
    refine s_aload0 hK dX0_lostLines_11 ?_
    refine s_getr (ci := 0) (k := 1) hK hb rfl i_0 (by decide +kernel) dX0_lostLines_12 (by decide) (by decide) (by decide) rfl rfl (rf_0_1 hb) ?_
    refine s_iload3 hK dX0_lostLines_15 ?_
    refine s_callV (ci := 1) hK mdX1_row (zX1_row (b + 2) _ (kB2 hb)) gX0_lostLines_X1_row (kB2 hb) rfl rfl (by decide) rfl ⟨Nat.le_of_ble_eq_true rfl, Nat.le_of_ble_eq_true rfl⟩ rfl (Nat.le_of_ble_eq_true rfl) dX0_lostLines_16 ?_
    try dsimp only [Option.toList, List.cons_append, List.nil_append]
    refine s_aload1 hK dX0_lostLines_19 ?_
    refine s_iload3 hK dX0_lostLines_20 ?_
    refine s_callV (ci := 1) hK mdX1_row (zX1_row li _ hl) gX0_lostLines_X1_row hl rfl rfl (by decide) rfl ⟨Nat.le_of_ble_eq_true rfl, Nat.le_of_ble_eq_true rfl⟩ rfl (Nat.le_of_ble_eq_true rfl) dX0_lostLines_21 ?_
    try dsimp only [Option.toList, List.cons_append, List.nil_append]
    refine s_iconst (v := -1) hK dX0_lostLines_24 (by decide) ?_
    refine s_ixor hK dX0_lostLines_25 ?_
    refine s_iand hK dX0_lostLines_26 ?_
    refine s_callS hK mdJ6_bitCount_0f7a4 (zJ6_bitCount_0f7a4 _) gX0_lostLines_J6_bitCount_0f7a4 rfl ⟨Nat.le_of_ble_eq_true rfl, Nat.le_of_ble_eq_true rfl⟩ rfl (Nat.le_of_ble_eq_true rfl) dX0_lostLines_27 ?_
    try dsimp only [Option.toList, List.cons_append, List.nil_append]
    refine s_iadd hK dX0_lostLines_30 ?_
    refine s_istore2 hK dX0_lostLines_31 ?_
    refine s_iinc3 hK dX0_lostLines_32 (hv_1 _) ?_
    refine s_goto (tgt := 4) hK dX0_lostLines_35 (by decide) ?_
    exact AW.to ih1 (by rw [rw_nI _ _ hk1, rw_nI _ _ hk1, nI_1, acc_pc (G := gLo σ b li) (AND_lo (h2 k1 hk1)) (fun i hi => by rw [b_and, bt_not _ (by omega)]; simp only [gLo, px_at _ _ _ hi])]) (rfl)
  refine s_iconst (v := 0) hK dX0_lostLines_0 (by decide) ?_
  refine s_istore2 hK dX0_lostLines_1 ?_
  refine s_iconst (v := 0) hK dX0_lostLines_2 (by decide) ?_
  refine s_istore3 hK dX0_lostLines_3 ?_
  exact AW.to (up_to (fun k => AW K 4 [some (.ref b), some (.ref li), some (.int (nI (fb_ct (gLo σ b li) (16 * k)))), some (.int (nI k))] [] (σ)) 12 hx1 hb1) (rfl) (rfl)
set_option maxHeartbeats 4000000 in
set_option maxRecDepth 100000 in
theorem zX1_growInto {g : aG} {l : Launch} {σ : aS} (c d : Nat) (hc : kd c = 1) (hd : kd d = 1) (hne : d + 4 ≠ c + 4) : CN g l yX1_growInto wsX1_growInto 1 21 [.ref c, .ref d] σ none (gIn σ (c + 4) (d + 4)) := by
  refine cn_of (cc := cX1_growInto) (nL := 6) (ret := none) (own := RX1) (by decide +kernel) rfl rfl (Nat.le_of_ble_eq_true rfl) (fun K hg hl hK hE => ?_)
  subst hg; subst hl
  have i_1 : ∀ w ∈ u_ws RX1 TX1 1, w ∈ wsX1_growInto := by decide +kernel
  show AW K 0 [some (.ref c), some (.ref d), none, none, none, none] [] σ
  have hx1 : (∀ z4 : Option Value, ∀ z5 : Option Value, AW K 4 [some (.ref c), some (.ref d), some (.int (if 12 = 0 then 0 else σ (c + 4) (12 - 1))), some (.int (nI 12)), z4, z5] [] (sP σ (c + 4) (fa_fill (gw σ (c + 4) (d + 4)) (σ (c + 4)) 12))) := by
    intro z4 z5
    refine s_iload3 hK dX1_growInto_4 ?_
    refine s_bipush (v := 12) hK dX1_growInto_5 (by decide) ?_
    refine s_icmp_ge (tgt := 65) hK dX1_growInto_7 (by decide) (fun c_7 => ?_) (fun c_7 => absurd c_7 (fun q => q (ge_E rfl rfl)))
    exact s_vret hK hE dX1_growInto_65 (rfl)
  have hb1 : ∀ k1 : Nat, k1 < 12 → (∀ z4 : Option Value, ∀ z5 : Option Value, AW K 4 [some (.ref c), some (.ref d), some (.int (if (k1 + 1) = 0 then 0 else σ (c + 4) ((k1 + 1) - 1))), some (.int (nI (k1 + 1))), z4, z5] [] (sP σ (c + 4) (fa_fill (gw σ (c + 4) (d + 4)) (σ (c + 4)) (k1 + 1)))) → (∀ z4 : Option Value, ∀ z5 : Option Value, AW K 4 [some (.ref c), some (.ref d), some (.int (if k1 = 0 then 0 else σ (c + 4) (k1 - 1))), some (.int (nI k1)), z4, z5] [] (sP σ (c + 4) (fa_fill (gw σ (c + 4) (d + 4)) (σ (c + 4)) k1))) := by
    intro k1 hk1 ih1 z4 z5
    refine s_iload3 hK dX1_growInto_4 ?_
    refine s_bipush (v := 12) hK dX1_growInto_5 (by decide) ?_
    refine s_icmp_ge (tgt := 65) hK dX1_growInto_7 (by decide) (fun c_7 => absurd c_7 (ge_N rfl rfl hk1 (by decide))) (fun c_7 => ?_)
    refine s_aload0 hK dX1_growInto_10 ?_
    refine s_getr (ci := 1) (k := 0) hK hc rfl i_1 (by decide +kernel) dX1_growInto_11 (by decide) (by decide) (by decide) rfl rfl (rf_1_0 hc) ?_
    refine s_iload3 hK dX1_growInto_14 ?_
    refine s_iald hK (kC hc) (by rw [lC hc]; exact vp_in_nI hk1 (by decide)) dX1_growInto_15 ?_
    rw [sP_same, cl_nI (show k1 < 2 ^ 31 by omega), fa_fill_out (Nat.le_refl k1)]
    refine s_istore4 hK dX1_growInto_16 ?_
    refine s_iload2 hK dX1_growInto_18 ?_
    refine s_aload0 hK dX1_growInto_19 ?_
    refine s_iload3 hK dX1_growInto_20 ?_
    refine s_iconst (v := 1) hK dX1_growInto_21 (by decide) ?_
    refine s_iadd hK dX1_growInto_22 ?_
    refine s_callV (ci := 1) hK mdX1_row (zX1_row c _ hc) gX1_growInto_X1_row hc rfl rfl (by decide) rfl ⟨Nat.le_of_ble_eq_true rfl, Nat.le_of_ble_eq_true rfl⟩ rfl (Nat.le_of_ble_eq_true rfl) dX1_growInto_23 ?_
    try dsimp only [Option.toList, List.cons_append, List.nil_append]
    rw [nI_1, rw_fill _ _ _ hk1]
    refine s_ior hK dX1_growInto_26 ?_
    refine s_iload4 hK dX1_growInto_27 ?_
    refine s_iconst (v := 1) hK dX1_growInto_29 (by decide) ?_
    refine s_ishl hK dX1_growInto_30 ?_
    refine s_ior hK dX1_growInto_31 ?_
    refine s_iload4 hK dX1_growInto_32 ?_
    refine s_iconst (v := 1) hK dX1_growInto_34 (by decide) ?_
    refine s_ishr hK dX1_growInto_35 ?_
    refine s_ior hK dX1_growInto_36 ?_
    refine s_istore5 hK dX1_growInto_37 ?_
    refine s_aload0 hK dX1_growInto_39 ?_
    refine s_getr (ci := 1) (k := 0) hK hc rfl i_1 (by decide +kernel) dX1_growInto_40 (by decide) (by decide) (by decide) rfl rfl (rf_1_0 hc) ?_
    refine s_iload3 hK dX1_growInto_43 ?_
    refine s_iload4 hK dX1_growInto_44 ?_
    refine s_iload5 hK dX1_growInto_46 ?_
    refine s_aload1 hK dX1_growInto_48 ?_
    refine s_iload3 hK dX1_growInto_49 ?_
    refine s_callV (ci := 1) hK mdX1_row (zX1_row d _ hd) gX1_growInto_X1_row hd rfl rfl (by decide) rfl ⟨Nat.le_of_ble_eq_true rfl, Nat.le_of_ble_eq_true rfl⟩ rfl (Nat.le_of_ble_eq_true rfl) dX1_growInto_50 ?_
    try dsimp only [Option.toList, List.cons_append, List.nil_append]
    rw [rw_nI _ _ hk1, sP_ne hne]
    refine s_iand hK dX1_growInto_53 ?_
    refine s_ior hK dX1_growInto_54 ?_
    refine s_iast hK (kC hc) (by rw [lC hc]; exact vp_in_nI hk1 (by decide)) dX1_growInto_55 ?_
    rw [sP_sP, sP_same, cl_nI (show k1 < 2 ^ 31 by omega)]
    refine s_iload4 hK dX1_growInto_56 ?_
    refine s_istore2 hK dX1_growInto_58 ?_
    refine s_iinc3 hK dX1_growInto_59 (hv_1 _) ?_
    refine s_goto (tgt := 4) hK dX1_growInto_62 (by decide) ?_
    exact AW.to (ih1 _ _) (by rw [nI_1, if_neg (show ¬ k1 + 1 = 0 by omega), show k1 + 1 - 1 = k1 by omega]) (by rw [← fa_fill_succ]; rfl)
  refine s_iconst (v := 0) hK dX1_growInto_0 (by decide) ?_
  refine s_istore2 hK dX1_growInto_1 ?_
  refine s_iconst (v := 0) hK dX1_growInto_2 (by decide) ?_
  refine s_istore3 hK dX1_growInto_3 ?_
  exact AW.to (up_to (fun k => ∀ z4 : Option Value, ∀ z5 : Option Value, AW K 4 [some (.ref c), some (.ref d), some (.int (if k = 0 then 0 else σ (c + 4) (k - 1))), some (.int (nI k)), z4, z5] [] (sP σ (c + 4) (fa_fill (gw σ (c + 4) (d + 4)) (σ (c + 4)) k))) 12 hx1 hb1 _ _) (rfl) (by rw [fa_fill_0, sP_id])
