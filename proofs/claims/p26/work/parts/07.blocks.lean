theorem mdX0_becomeLike : MD yX0_becomeLike wsX0_becomeLike cX0_becomeLike 2 none 1 := ⟨⟨_, rfl⟩, by decide +kernel, by decide +kernel, by decide +kernel⟩
theorem mdX0_clearWear : MD yX0_clearWear wsX0_clearWear cX0_clearWear 3 none 2 := ⟨⟨_, rfl⟩, by decide +kernel, by decide +kernel, by decide +kernel⟩
theorem mdX0_cutAnew : MD yX0_cutAnew wsX0_cutAnew cX0_cutAnew 2 none 1 := ⟨⟨_, rfl⟩, by decide +kernel, by decide +kernel, by decide +kernel⟩
theorem mdX0_cutColour : MD yX0_cutColour wsX0_cutColour cX0_cutColour 4 none 2 := ⟨⟨_, rfl⟩, by decide +kernel, by decide +kernel, by decide +kernel⟩
theorem mdX0_fillArea : MD yX0_fillArea wsX0_fillArea cX0_fillArea 9 (some .int) 5 := ⟨⟨_, rfl⟩, by decide +kernel, by decide +kernel, by decide +kernel⟩
theorem mdX0_findInk : MD yX0_findInk wsX0_findInk cX0_findInk 6 none 2 := ⟨⟨_, rfl⟩, by decide +kernel, by decide +kernel, by decide +kernel⟩
theorem mdX0_gaps : MD yX0_gaps wsX0_gaps cX0_gaps 8 (some .int) 4 := ⟨⟨_, rfl⟩, by decide +kernel, by decide +kernel, by decide +kernel⟩
theorem mdX0_isWorn : MD yX0_isWorn wsX0_isWorn cX0_isWorn 4 (some .boolean) 3 := ⟨⟨_, rfl⟩, by decide +kernel, by decide +kernel, by decide +kernel⟩
theorem mdX0_kindAt : MD yX0_kindAt wsX0_kindAt cX0_kindAt 3 (some .int) 2 := ⟨⟨_, rfl⟩, by decide +kernel, by decide +kernel, by decide +kernel⟩
theorem mdX0_lostLines : MD yX0_lostLines wsX0_lostLines cX0_lostLines 4 (some .int) 1 := ⟨⟨_, rfl⟩, by decide +kernel, by decide +kernel, by decide +kernel⟩
theorem mdX0_paintedCells : MD yX0_paintedCells wsX0_paintedCells cX0_paintedCells 1 (some .int) 0 := ⟨⟨_, rfl⟩, by decide +kernel, by decide +kernel, by decide +kernel⟩
theorem mdX0_printsUntilWorn : MD yX0_printsUntilWorn wsX0_printsUntilWorn cX0_printsUntilWorn 7 (some .int) 2 := ⟨⟨_, rfl⟩, by decide +kernel, by decide +kernel, by decide +kernel⟩
theorem mdX0_spills : MD yX0_spills wsX0_spills cX0_spills 7 (some .int) 3 := ⟨⟨_, rfl⟩, by decide +kernel, by decide +kernel, by decide +kernel⟩
theorem mdX0_wearAt : MD yX0_wearAt wsX0_wearAt cX0_wearAt 3 (some .int) 2 := ⟨⟨_, rfl⟩, by decide +kernel, by decide +kernel, by decide +kernel⟩
theorem mdX0_wearDown : MD yX0_wearDown wsX0_wearDown cX0_wearDown 4 none 1 := ⟨⟨_, rfl⟩, by decide +kernel, by decide +kernel, by decide +kernel⟩
theorem mdX0_wearOfPrint : MD yX0_wearOfPrint wsX0_wearOfPrint cX0_wearOfPrint 3 (some .int) 3 := ⟨⟨_, rfl⟩, by decide +kernel, by decide +kernel, by decide +kernel⟩
theorem rw_nI (σ : aS) (a : Nat) {k : Nat} (hk : k < 12) : rw_ σ a (nI k) = σ a k := by
  have a1 : ¬ nI k < 0 := nI_pos (by omega)
  have a2 : ¬ (12 : Int32) ≤ nI k := nI_ge (b := 12) hk (by decide)
  simp [rw_, a1, a2, cl_nI (show k < 2 ^ 31 by omega)]
theorem bt_not (x : Int32) {i : Nat} (hi : i < 32) : bt (x ^^^ (-1)) i = !bt x i := by
  rw [b_xor, b_m1 i hi]
  cases bt x i <;> rfl
theorem ix_of {x y : Int32} (h : pl x y = true) : ∃ i j : Nat, i < 16 ∧ j < 12 ∧ x = nI i ∧ y = nI j ∧ y * 16 + x = nI (16 * j + i) := by
  obtain ⟨i, j, hi, hj, rfl, rfl⟩ := pl_in h
  refine ⟨i, j, hi, hj, rfl, rfl, ?_⟩
  rw [show (16 : Int32) = nI 16 from rfl, pk_mul, nI_add, Nat.mul_comm]
theorem ix_in {x y : Int32} (h : pl x y = true) : vp_in (y * 16 + x) 192 := by
  obtain ⟨i, j, hi, hj, -, -, e⟩ := ix_of h
  rw [e]
  exact vp_in_nI (by omega) (by decide)
theorem acc_pc {G : Nat → Bool} {y : Nat} {x : Int32} (h0 : ∀ i, 16 ≤ i → bt x i = false) (h : ∀ i, i < 16 → bt x i = G (16 * y + i)) : nI (fb_ct G (16 * y)) + pcJ x = nI (fb_ct G (16 * (y + 1))) := by
  rw [pc_ok h0, nI_add, Nat.mul_succ, fb_ct_split, show fb_ct (bt x) 16 = fb_ct (fun i => G (16 * y + i)) 16 from fb_ct_cong h]
theorem or_hi {x y : Int32} (h : ∀ i, 16 ≤ i → bt x i = false) (h2 : ∀ i, 16 ≤ i → bt y i = false) : ∀ i, 16 ≤ i → bt (x ||| y) i = false := by
  intro i hi
  rw [b_or, h i hi, h2 i hi]
  rfl
theorem and_hi2 {x y : Int32} (h : ∀ i, 16 ≤ i → bt y i = false) : ∀ i, 16 ≤ i → bt (x &&& y) i = false := by
  intro i hi
  rw [b_and, h i hi, Bool.and_false]
/-- a shift of the colour block -/
def sxk (sx : Int32) : Prop := ¬ sx < -8 ∧ ¬ 8 < sx
theorem sx_of {sx : Int32} (h : sxk sx) : ∃ s : Nat, s ≤ 8 ∧ (sx = nI s ∨ (0 < s ∧ sx = -nI s)) := by
  obtain ⟨h1, h2⟩ := h
  rw [fa_lt] at h1 h2
  have e1 : (-8 : Int32).toInt = -8 := by decide
  have e2 : (8 : Int32).toInt = 8 := by decide
  rw [e1] at h1
  rw [e2] at h2
  rcases Int.lt_or_le sx.toInt 0 with q | q
  · refine ⟨(-sx.toInt).toNat, by omega, Or.inr ⟨by omega, ?_⟩⟩
    rw [fa_eq, sb_negT (by omega)]
    omega
  · refine ⟨sx.toInt.toNat, by omega, Or.inl ?_⟩
    rw [fa_eq, nI_toInt (by omega)]
    omega
def shp (σ : aS) (a : Nat) (sx sy : Int32) (k : Nat) : Bool := hs σ a (nI (k % 16) - sx) (nI (k / 16) - sy)
theorem bt_sR {σ : aS} {a : Nat} {sx sy : Int32} {y i : Nat} (hw : wR σ a) (hx : sxk sx) (hi : i < 16) : bt (sR σ a (nI y) sx sy) i = hs σ a (nI i - sx) (nI y - sy) := by
  have key : ∀ r : Int32, (∀ i, 16 ≤ i → bt r i = false) → bt (if sx < 0 then r >>> ((-sx) &&& 31) else (r <<< (sx &&& 31)) &&& 65535) i = (decide (¬ nI i - sx < 0 ∧ ¬ 16 ≤ nI i - sx) && bt r (nI i - sx).toNatClampNeg) := by
    intro r hr
    obtain ⟨s, hs8, rfl | ⟨hs0, rfl⟩⟩ := sx_of hx
    · have n0 : ¬ nI s < 0 := nI_pos (by omega)
      rw [if_neg n0, b_and, b_65535, b_shl s (by omega) r (by omega)]
      rcases Nat.lt_or_ge i s with q | q
      · have : nI i - nI s < 0 := pk_sneg (by omega) q
        simp [this, Nat.not_le.mpr q]
      · rw [pk_sub q]
        have a1 : ¬ nI (i - s) < 0 := nI_pos (by omega)
        have a2 : ¬ (16 : Int32) ≤ nI (i - s) := nI_ge (b := 16) (by omega) (by decide)
        simp [a1, a2, q, hi, cl_nI (show i - s < 2 ^ 31 by omega)]
    · have n0 : -nI s < 0 := by
        rw [fa_lt, sb_negT (by omega)]
        show -(s : Int) < 0
        omega
      have e1 : -(-nI s) = nI s := Int32.neg_neg
      have e2 : nI i - -nI s = nI (i + s) := by rw [Int32.sub_neg, nI_add]
      rw [if_pos n0, e1, b_sshr s (by omega) r (by omega), e2, if_pos (by omega)]
      have a1 : ¬ nI (i + s) < 0 := nI_pos (by omega)
      rcases Nat.lt_or_ge (i + s) 16 with q | q
      · have a2 : ¬ (16 : Int32) ≤ nI (i + s) := nI_ge (b := 16) q (by decide)
        simp [a1, a2, cl_nI (show i + s < 2 ^ 31 by omega), Nat.add_comm]
      · have a2 : (16 : Int32) ≤ nI (i + s) := nI_le (a := 16) q (by omega)
        simp [a2, hr (s + i) (by omega)]
  unfold sR rw_ hs pl
  by_cases c : ¬ nI y - sy < 0 ∧ ¬ 12 ≤ nI y - sy
  · rw [if_pos c]
    have hrow : ∀ i, 16 ≤ i → bt (σ a (nI y - sy).toNatClampNeg) i = false := by
      rcases pk_ix (nI y - sy) (n := 12) (by decide) with q | q | ⟨j, h3, h4⟩
      · exact absurd q c.1
      · exact absurd q c.2
      · rw [h4, cl_nI (by omega)]
        exact hw j h3
    rw [key _ hrow]
    simp [c.1, c.2]
  · rw [if_neg c, key 0 (fun i _ => b_0 i), b_0]
    have : ¬ (¬ nI i - sx < 0 ∧ ¬ 16 ≤ nI i - sx ∧ ¬ nI y - sy < 0 ∧ ¬ 12 ≤ nI y - sy) := fun q => c q.2.2
    rw [decide_eq_false this, Bool.and_false]
    rfl
theorem px_shp {σ : aS} {a : Nat} {sx sy : Int32} {y i : Nat} (hw : wR σ a) (hx : sxk sx) (hi : i < 16) : bt (sR σ a (nI y) sx sy) i = shp σ a sx sy (16 * y + i) := by
  rw [bt_sR hw hx hi]
  unfold shp
  rw [show (16 * y + i) / 16 = y by omega, show (16 * y + i) % 16 = i by omega]

def kA (σ : aS) (b : Nat) (x y : Int32) : Int32 := if hs σ (b + 2 + 4) x y = true then 2 else b2 (hs σ (b + 1 + 4) x y)
set_option maxHeartbeats 4000000 in
set_option maxRecDepth 100000 in
theorem zX0_kindAt {g : aG} {l : Launch} {σ : aS} (b : Nat) (x y : Int32) (hb : kd b = 0) : CN g l yX0_kindAt wsX0_kindAt 2 43 [.ref b, .int x, .int y] σ (some (.int (kA σ b x y))) σ := by
  refine cn_of (cc := cX0_kindAt) (nL := 3) (ret := (some .int)) (own := RX0) (by decide +kernel) rfl rfl (Nat.le_of_ble_eq_true rfl) (fun K hg hl hK hE => ?_)
  subst hg; subst hl
  have i_0 : ∀ w ∈ u_ws RX0 TX0 5, w ∈ wsX0_kindAt := by decide +kernel
  show AW K 0 [some (.ref b), some (.int x), some (.int y)] [] σ
  refine s_aload0 hK dX0_kindAt_0 ?_
  refine s_getr (ci := 0) (k := 1) hK hb rfl i_0 (by decide +kernel) dX0_kindAt_1 (by decide) (by decide) (by decide) rfl rfl (rf_0_1 hb) ?_
  refine s_iload1 hK dX0_kindAt_4 ?_
  refine s_iload2 hK dX0_kindAt_5 ?_
  refine s_callV (ci := 1) hK mdX1_has (zX1_has (b + 2) x y (kB2 hb)) gX0_kindAt_X1_has (kB2 hb) rfl rfl (by decide) rfl ⟨Nat.le_of_ble_eq_true rfl, Nat.le_of_ble_eq_true rfl⟩ rfl (Nat.le_of_ble_eq_true rfl) dX0_kindAt_6 ?_
  try dsimp only [Option.toList, List.cons_append, List.nil_append]
  refine s_if_eq (tgt := 14) hK dX0_kindAt_9 (by decide) (fun c_9 => ?_) (fun c_9 => ?_)
  · refine s_aload0 hK dX0_kindAt_14 ?_
    refine s_getr (ci := 0) (k := 0) hK hb rfl i_0 (by decide +kernel) dX0_kindAt_15 (by decide) (by decide) (by decide) rfl rfl (rf_0_0 hb) ?_
    refine s_iload1 hK dX0_kindAt_18 ?_
    refine s_iload2 hK dX0_kindAt_19 ?_
    refine s_callV (ci := 1) hK mdX1_has (zX1_has (b + 1) x y (kB1 hb)) gX0_kindAt_X1_has (kB1 hb) rfl rfl (by decide) rfl ⟨Nat.le_of_ble_eq_true rfl, Nat.le_of_ble_eq_true rfl⟩ rfl (Nat.le_of_ble_eq_true rfl) dX0_kindAt_20 ?_
    try dsimp only [Option.toList, List.cons_append, List.nil_append]
    refine s_if_eq (tgt := 30) hK dX0_kindAt_23 (by decide) (fun c_23 => ?_) (fun c_23 => ?_)
    · refine s_iconst (v := 0) hK dX0_kindAt_30 (by decide) ?_
      exact s_iret hK hE dX0_kindAt_31 rfl (by first | (simp [kA, b2y c_9, b2n c_23]; done) | (simp [kA, b2y c_9, b2y c_23]; done) | (simp [kA, b2y c_9, b2n c_23, b2]; done) | (simp [kA, b2y c_9, b2y c_23, b2]; done)) (rfl)
    · refine s_iconst (v := 1) hK dX0_kindAt_26 (by decide) ?_
      refine s_goto (tgt := 31) hK dX0_kindAt_27 (by decide) ?_
      exact s_iret hK hE dX0_kindAt_31 rfl (by first | (simp [kA, b2y c_9, b2n c_23]; done) | (simp [kA, b2y c_9, b2y c_23]; done) | (simp [kA, b2y c_9, b2n c_23, b2]; done) | (simp [kA, b2y c_9, b2y c_23, b2]; done)) (rfl)
  · refine s_iconst (v := 2) hK dX0_kindAt_12 (by decide) ?_
    exact s_iret hK hE dX0_kindAt_13 rfl (by simp [kA, b2n c_9]) (rfl)
set_option maxHeartbeats 4000000 in
set_option maxRecDepth 100000 in
theorem zX0_paintedCells {g : aG} {l : Launch} {σ : aS} (b : Nat) (hb : kd b = 0) (h1 : wR σ (b + 1 + 4)) (h2 : wR σ (b + 2 + 4)) : CN g l yX0_paintedCells wsX0_paintedCells 2 42 [.ref b] σ (some (.int (nI (ct (px σ (b + 1 + 4))) + nI (ct (px σ (b + 2 + 4)))))) σ := by
  refine cn_of (cc := cX0_paintedCells) (nL := 1) (ret := (some .int)) (own := RX0) (by decide +kernel) rfl rfl (Nat.le_of_ble_eq_true rfl) (fun K hg hl hK hE => ?_)
  subst hg; subst hl
  have i_0 : ∀ w ∈ u_ws RX0 TX0 5, w ∈ wsX0_paintedCells := by decide +kernel
  show AW K 0 [some (.ref b)] [] σ
  refine s_aload0 hK dX0_paintedCells_0 ?_
  refine s_getr (ci := 0) (k := 0) hK hb rfl i_0 (by decide +kernel) dX0_paintedCells_1 (by decide) (by decide) (by decide) rfl rfl (rf_0_0 hb) ?_
  refine s_callV (ci := 1) hK mdX1_size (zX1_size (b + 1) (kB1 hb) h1) gX0_paintedCells_X1_size (kB1 hb) rfl rfl (by decide) rfl ⟨Nat.le_of_ble_eq_true rfl, Nat.le_of_ble_eq_true rfl⟩ rfl (Nat.le_of_ble_eq_true rfl) dX0_paintedCells_4 ?_
  try dsimp only [Option.toList, List.cons_append, List.nil_append]
  refine s_aload0 hK dX0_paintedCells_7 ?_
  refine s_getr (ci := 0) (k := 1) hK hb rfl i_0 (by decide +kernel) dX0_paintedCells_8 (by decide) (by decide) (by decide) rfl rfl (rf_0_1 hb) ?_
  refine s_callV (ci := 1) hK mdX1_size (zX1_size (b + 2) (kB2 hb) h2) gX0_paintedCells_X1_size (kB2 hb) rfl rfl (by decide) rfl ⟨Nat.le_of_ble_eq_true rfl, Nat.le_of_ble_eq_true rfl⟩ rfl (Nat.le_of_ble_eq_true rfl) dX0_paintedCells_11 ?_
  try dsimp only [Option.toList, List.cons_append, List.nil_append]
  refine s_iadd hK dX0_paintedCells_14 ?_
  exact s_iret hK hE dX0_paintedCells_15 rfl (rfl) (rfl)
def wA (σ : aS) (b : Nat) (x y : Int32) : Int32 := if pl x y = true then σ (b + 9) (y * 16 + x).toNatClampNeg else 0
set_option maxHeartbeats 4000000 in
set_option maxRecDepth 100000 in
theorem zX0_wearAt {g : aG} {l : Launch} {σ : aS} (b : Nat) (x y : Int32) (hb : kd b = 0) : CN g l yX0_wearAt wsX0_wearAt 1 21 [.ref b, .int x, .int y] σ (some (.int (wA σ b x y))) σ := by
  refine cn_of (cc := cX0_wearAt) (nL := 3) (ret := (some .int)) (own := RX0) (by decide +kernel) rfl rfl (Nat.le_of_ble_eq_true rfl) (fun K hg hl hK hE => ?_)
  subst hg; subst hl
  have i_0 : ∀ w ∈ u_ws RX0 TX0 5, w ∈ wsX0_wearAt := by decide +kernel
  show AW K 0 [some (.ref b), some (.int x), some (.int y)] [] σ
  refine s_iload1 hK dX0_wearAt_0 ?_
  refine s_iload2 hK dX0_wearAt_1 ?_
  refine s_callN (host := RX6) hK mdX6_isPlace (zX6_isPlace x y) gX0_wearAt_X6_isPlace_n74 (by decide +kernel) (by decide +kernel) (by decide +kernel) rfl ⟨Nat.le_of_ble_eq_true rfl, Nat.le_of_ble_eq_true rfl⟩ rfl (Nat.le_of_ble_eq_true rfl) dX0_wearAt_2 ?_
  try dsimp only [Option.toList, List.cons_append, List.nil_append]
  refine s_if_eq (tgt := 22) hK dX0_wearAt_5 (by decide) (fun c_5 => ?_) (fun c_5 => ?_)
  · refine s_iconst (v := 0) hK dX0_wearAt_22 (by decide) ?_
    exact s_iret hK hE dX0_wearAt_23 rfl (by first | (simp [wA, b2n c_5]; done) | (simp [wA, b2y c_5]; done)) (rfl)
  · refine s_aload0 hK dX0_wearAt_8 ?_
    refine s_getr (ci := 0) (k := 4) hK hb rfl i_0 (by decide +kernel) dX0_wearAt_9 (by decide) (by decide) (by decide) rfl rfl (rf_0_4 hb) ?_
    refine s_iload2 hK dX0_wearAt_12 ?_
    refine s_bipush (v := 16) hK dX0_wearAt_13 (by decide) ?_
    refine s_imul hK dX0_wearAt_15 ?_
    refine s_iload1 hK dX0_wearAt_16 ?_
    refine s_iadd hK dX0_wearAt_17 ?_
    refine s_iald hK (kBw hb) (by rw [lBw hb]; exact ix_in (b2n c_5)) dX0_wearAt_18 ?_
    refine s_goto (tgt := 23) hK dX0_wearAt_19 (by decide) ?_
    exact s_iret hK hE dX0_wearAt_23 rfl (by first | (simp [wA, b2n c_5]; done) | (simp [wA, b2y c_5]; done)) (rfl)
def cW (σ : aS) (b : Nat) (x y : Int32) : aS := if pl x y = true then sP σ (b + 9) (upd (σ (b + 9)) (y * 16 + x).toNatClampNeg 0) else σ
set_option maxHeartbeats 4000000 in
set_option maxRecDepth 100000 in
theorem zX0_clearWear {g : aG} {l : Launch} {σ : aS} (b : Nat) (x y : Int32) (hb : kd b = 0) : CN g l yX0_clearWear wsX0_clearWear 1 21 [.ref b, .int x, .int y] σ none (cW σ b x y) := by
  refine cn_of (cc := cX0_clearWear) (nL := 3) (ret := none) (own := RX0) (by decide +kernel) rfl rfl (Nat.le_of_ble_eq_true rfl) (fun K hg hl hK hE => ?_)
  subst hg; subst hl
  have i_0 : ∀ w ∈ u_ws RX0 TX0 5, w ∈ wsX0_clearWear := by decide +kernel
  show AW K 0 [some (.ref b), some (.int x), some (.int y)] [] σ
  refine s_iload1 hK dX0_clearWear_0 ?_
  refine s_iload2 hK dX0_clearWear_1 ?_
  refine s_callN (host := RX6) hK mdX6_isPlace (zX6_isPlace x y) gX0_clearWear_X6_isPlace_n74 (by decide +kernel) (by decide +kernel) (by decide +kernel) rfl ⟨Nat.le_of_ble_eq_true rfl, Nat.le_of_ble_eq_true rfl⟩ rfl (Nat.le_of_ble_eq_true rfl) dX0_clearWear_2 ?_
  try dsimp only [Option.toList, List.cons_append, List.nil_append]
  refine s_if_eq (tgt := 20) hK dX0_clearWear_5 (by decide) (fun c_5 => ?_) (fun c_5 => ?_)
  · exact s_vret hK hE dX0_clearWear_20 (by first | (simp [cW, b2n c_5]; done) | (simp [cW, b2y c_5]; done))
  · refine s_aload0 hK dX0_clearWear_8 ?_
    refine s_getr (ci := 0) (k := 4) hK hb rfl i_0 (by decide +kernel) dX0_clearWear_9 (by decide) (by decide) (by decide) rfl rfl (rf_0_4 hb) ?_
    refine s_iload2 hK dX0_clearWear_12 ?_
    refine s_bipush (v := 16) hK dX0_clearWear_13 (by decide) ?_
    refine s_imul hK dX0_clearWear_15 ?_
    refine s_iload1 hK dX0_clearWear_16 ?_
    refine s_iadd hK dX0_clearWear_17 ?_
    refine s_iconst (v := 0) hK dX0_clearWear_18 (by decide) ?_
    refine s_iast hK (kBw hb) (by rw [lBw hb]; exact ix_in (b2n c_5)) dX0_clearWear_19 ?_
    exact s_vret hK hE dX0_clearWear_20 (by first | (simp [cW, b2n c_5]; done) | (simp [cW, b2y c_5]; done))
def wn (σ : aS) (b : Nat) (x y h : Int32) : Bool := hs σ (b + 3 + 4) x y && decide (¬ wA σ b x y ≤ h)
set_option maxHeartbeats 4000000 in
set_option maxRecDepth 100000 in
theorem zX0_isWorn {g : aG} {l : Launch} {σ : aS} (b : Nat) (x y h : Int32) (hb : kd b = 0) : CN g l yX0_isWorn wsX0_isWorn 2 43 [.ref b, .int x, .int y, .int h] σ (some (.int (b2 (wn σ b x y h)))) σ := by
  refine cn_of (cc := cX0_isWorn) (nL := 4) (ret := (some .boolean)) (own := RX0) (by decide +kernel) rfl rfl (Nat.le_of_ble_eq_true rfl) (fun K hg hl hK hE => ?_)
  subst hg; subst hl
  have i_0 : ∀ w ∈ u_ws RX0 TX0 5, w ∈ wsX0_isWorn := by decide +kernel
  show AW K 0 [some (.ref b), some (.int x), some (.int y), some (.int h)] [] σ
  refine s_aload0 hK dX0_isWorn_0 ?_
  refine s_getr (ci := 0) (k := 2) hK hb rfl i_0 (by decide +kernel) dX0_isWorn_1 (by decide) (by decide) (by decide) rfl rfl (rf_0_2 hb) ?_
  refine s_iload1 hK dX0_isWorn_4 ?_
  refine s_iload2 hK dX0_isWorn_5 ?_
  refine s_callV (ci := 1) hK mdX1_has (zX1_has (b + 3) x y (kB3 hb)) gX0_isWorn_X1_has (kB3 hb) rfl rfl (by decide) rfl ⟨Nat.le_of_ble_eq_true rfl, Nat.le_of_ble_eq_true rfl⟩ rfl (Nat.le_of_ble_eq_true rfl) dX0_isWorn_6 ?_
  try dsimp only [Option.toList, List.cons_append, List.nil_append]
  refine s_if_eq (tgt := 26) hK dX0_isWorn_9 (by decide) (fun c_9 => ?_) (fun c_9 => ?_)
  · refine s_iconst (v := 0) hK dX0_isWorn_26 (by decide) ?_
    exact s_iret hK hE dX0_isWorn_27 (by decide) (by first | (simp [wn, b2, b2y c_9]; done) | (simp [wn, b2, b2n c_9, c_19]; done)) (rfl)
  · refine s_aload0 hK dX0_isWorn_12 ?_
    refine s_iload1 hK dX0_isWorn_13 ?_
    refine s_iload2 hK dX0_isWorn_14 ?_
    refine s_callV (ci := 0) hK mdX0_wearAt (zX0_wearAt b x y hb) gX0_isWorn_X0_wearAt hb rfl rfl (by decide) rfl ⟨Nat.le_of_ble_eq_true rfl, Nat.le_of_ble_eq_true rfl⟩ rfl (Nat.le_of_ble_eq_true rfl) dX0_isWorn_15 ?_
    try dsimp only [Option.toList, List.cons_append, List.nil_append]
    refine s_iload3 hK dX0_isWorn_18 ?_
    refine s_icmp_le (tgt := 26) hK dX0_isWorn_19 (by decide) (fun c_19 => ?_) (fun c_19 => ?_)
    · refine s_iconst (v := 0) hK dX0_isWorn_26 (by decide) ?_
      exact s_iret hK hE dX0_isWorn_27 (by decide) (by first | (simp [wn, b2, b2y c_9]; done) | (simp [wn, b2, b2n c_9, c_19]; done)) (rfl)
    · refine s_iconst (v := 1) hK dX0_isWorn_22 (by decide) ?_
      refine s_goto (tgt := 27) hK dX0_isWorn_23 (by decide) ?_
      exact s_iret hK hE dX0_isWorn_27 (by decide) (by first | (simp [wn, b2, b2y c_9]; done) | (simp [wn, b2, b2n c_9, c_19]; done)) (rfl)
set_option maxHeartbeats 4000000 in
set_option maxRecDepth 100000 in
theorem zX0_wearOfPrint {g : aG} {l : Launch} {σ : aS} (c : Nat) (x y : Int32) (hc : kd c = 1) : CN g l yX0_wearOfPrint wsX0_wearOfPrint 3 65 [.ref c, .int x, .int y] σ (some (.int (5 - nb σ (c + 4) x y))) σ := by
  refine cn_of (cc := cX0_wearOfPrint) (nL := 3) (ret := (some .int)) (own := RX0) (by decide +kernel) rfl rfl (Nat.le_of_ble_eq_true rfl) (fun K hg hl hK hE => ?_)
  subst hg; subst hl
  show AW K 0 [some (.ref c), some (.int x), some (.int y)] [] σ
  refine s_iconst (v := 5) hK dX0_wearOfPrint_0 (by decide) ?_
  refine s_aload0 hK dX0_wearOfPrint_1 ?_
  refine s_iload1 hK dX0_wearOfPrint_2 ?_
  refine s_iload2 hK dX0_wearOfPrint_3 ?_
  refine s_callV (ci := 1) hK mdX1_neighbors (zX1_neighbors c x y hc) gX0_wearOfPrint_X1_neighbors hc rfl rfl (by decide) rfl ⟨Nat.le_of_ble_eq_true rfl, Nat.le_of_ble_eq_true rfl⟩ rfl (Nat.le_of_ble_eq_true rfl) dX0_wearOfPrint_4 ?_
  try dsimp only [Option.toList, List.cons_append, List.nil_append]
  refine s_isub hK dX0_wearOfPrint_7 ?_
  exact s_iret hK hE dX0_wearOfPrint_8 rfl (rfl) (rfl)
def bB (σ : aS) (a b : Nat) : aS :=
  let σ1 := bL σ (a + 1 + 4) (b + 1 + 4)
  let σ2 := bL σ1 (a + 2 + 4) (b + 2 + 4)
  let σ3 := bL σ2 (a + 3 + 4) (b + 3 + 4)
  let σ4 := bL σ3 (a + 4 + 4) (b + 4 + 4)
  sP σ4 (a + 9) (va_cpy (σ4 (b + 9)) (σ4 (a + 9)) 0 0 192)
set_option maxHeartbeats 4000000 in
set_option maxRecDepth 100000 in
theorem zX0_becomeLike {g : aG} {l : Launch} {σ : aS} (a b : Nat) (ha : kd a = 0) (hb : kd b = 0) : CN g l yX0_becomeLike wsX0_becomeLike 2 47 [.ref a, .ref b] σ none (bB σ a b) := by
  refine cn_of (cc := cX0_becomeLike) (nL := 2) (ret := none) (own := RX0) (by decide +kernel) rfl rfl (Nat.le_of_ble_eq_true rfl) (fun K hg hl hK hE => ?_)
  subst hg; subst hl
  have i_0 : ∀ w ∈ u_ws RX0 TX0 5, w ∈ wsX0_becomeLike := by decide +kernel
  show AW K 0 [some (.ref a), some (.ref b)] [] σ
  refine s_aload0 hK dX0_becomeLike_0 ?_
  refine s_getr (ci := 0) (k := 0) hK ha rfl i_0 (by decide +kernel) dX0_becomeLike_1 (by decide) (by decide) (by decide) rfl rfl (rf_0_0 ha) ?_
  refine s_aload1 hK dX0_becomeLike_4 ?_
  refine s_getr (ci := 0) (k := 0) hK hb rfl i_0 (by decide +kernel) dX0_becomeLike_5 (by decide) (by decide) (by decide) rfl rfl (rf_0_0 hb) ?_
  refine s_callV (ci := 1) hK mdX1_becomeLike (zX1_becomeLike (a + 1) (b + 1) (kB1 ha) (kB1 hb)) gX0_becomeLike_X1_becomeLike (kB1 ha) rfl rfl (by decide) rfl ⟨Nat.le_of_ble_eq_true rfl, Nat.le_of_ble_eq_true rfl⟩ rfl (Nat.le_of_ble_eq_true rfl) dX0_becomeLike_8 ?_
  try dsimp only [Option.toList, List.cons_append, List.nil_append]
  refine s_aload0 hK dX0_becomeLike_11 ?_
  refine s_getr (ci := 0) (k := 1) hK ha rfl i_0 (by decide +kernel) dX0_becomeLike_12 (by decide) (by decide) (by decide) rfl rfl (rf_0_1 ha) ?_
  refine s_aload1 hK dX0_becomeLike_15 ?_
  refine s_getr (ci := 0) (k := 1) hK hb rfl i_0 (by decide +kernel) dX0_becomeLike_16 (by decide) (by decide) (by decide) rfl rfl (rf_0_1 hb) ?_
  refine s_callV (ci := 1) hK mdX1_becomeLike (zX1_becomeLike (a + 2) (b + 2) (kB2 ha) (kB2 hb)) gX0_becomeLike_X1_becomeLike (kB2 ha) rfl rfl (by decide) rfl ⟨Nat.le_of_ble_eq_true rfl, Nat.le_of_ble_eq_true rfl⟩ rfl (Nat.le_of_ble_eq_true rfl) dX0_becomeLike_19 ?_
  try dsimp only [Option.toList, List.cons_append, List.nil_append]
  refine s_aload0 hK dX0_becomeLike_22 ?_
  refine s_getr (ci := 0) (k := 2) hK ha rfl i_0 (by decide +kernel) dX0_becomeLike_23 (by decide) (by decide) (by decide) rfl rfl (rf_0_2 ha) ?_
  refine s_aload1 hK dX0_becomeLike_26 ?_
  refine s_getr (ci := 0) (k := 2) hK hb rfl i_0 (by decide +kernel) dX0_becomeLike_27 (by decide) (by decide) (by decide) rfl rfl (rf_0_2 hb) ?_
  refine s_callV (ci := 1) hK mdX1_becomeLike (zX1_becomeLike (a + 3) (b + 3) (kB3 ha) (kB3 hb)) gX0_becomeLike_X1_becomeLike (kB3 ha) rfl rfl (by decide) rfl ⟨Nat.le_of_ble_eq_true rfl, Nat.le_of_ble_eq_true rfl⟩ rfl (Nat.le_of_ble_eq_true rfl) dX0_becomeLike_30 ?_
  try dsimp only [Option.toList, List.cons_append, List.nil_append]
  refine s_aload0 hK dX0_becomeLike_33 ?_
  refine s_getr (ci := 0) (k := 3) hK ha rfl i_0 (by decide +kernel) dX0_becomeLike_34 (by decide) (by decide) (by decide) rfl rfl (rf_0_3 ha) ?_
  refine s_aload1 hK dX0_becomeLike_37 ?_
  refine s_getr (ci := 0) (k := 3) hK hb rfl i_0 (by decide +kernel) dX0_becomeLike_38 (by decide) (by decide) (by decide) rfl rfl (rf_0_3 hb) ?_
  refine s_callV (ci := 1) hK mdX1_becomeLike (zX1_becomeLike (a + 4) (b + 4) (kB4 ha) (kB4 hb)) gX0_becomeLike_X1_becomeLike (kB4 ha) rfl rfl (by decide) rfl ⟨Nat.le_of_ble_eq_true rfl, Nat.le_of_ble_eq_true rfl⟩ rfl (Nat.le_of_ble_eq_true rfl) dX0_becomeLike_41 ?_
  try dsimp only [Option.toList, List.cons_append, List.nil_append]
  refine s_aload1 hK dX0_becomeLike_44 ?_
  refine s_getr (ci := 0) (k := 4) hK hb rfl i_0 (by decide +kernel) dX0_becomeLike_45 (by decide) (by decide) (by decide) rfl rfl (rf_0_4 hb) ?_
  refine s_iconst (v := 0) hK dX0_becomeLike_48 (by decide) ?_
  refine s_aload0 hK dX0_becomeLike_49 ?_
  refine s_getr (ci := 0) (k := 4) hK ha rfl i_0 (by decide +kernel) dX0_becomeLike_50 (by decide) (by decide) (by decide) rfl rfl (rf_0_4 ha) ?_
  refine s_iconst (v := 0) hK dX0_becomeLike_53 (by decide) ?_
  refine s_sipush (v := 192) hK dX0_becomeLike_54 (by decide) ?_
  refine s_acopy hK (by decide +kernel) (by decide +kernel) (by decide +kernel) (by decide +kernel) (kBw hb) (kBw ha) (by decide) (by decide) (by decide) (by rw [lBw hb]; decide) (by rw [lBw ha]; decide) (by decide) (by decide) dX0_becomeLike_57 ?_
  exact s_vret hK hE dX0_becomeLike_60 (rfl)
