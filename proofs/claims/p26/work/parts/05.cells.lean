/-! the smallest functions; cells -/
def b2 (b : Bool) : Int32 := if b then 1 else 0
theorem b2_0 {b : Bool} : b2 b = 0 ↔ b = false := by cases b <;> simp [b2]
theorem b2_1 {b : Bool} : b2 b = 1 ↔ b = true := by cases b <;> simp [b2]
theorem b2_z (b : Bool) : narrow .boolean (.int (b2 b)) = .int (b2 b) := by cases b <;> decide
def pl (x y : Int32) : Bool := decide (¬ x < 0 ∧ ¬ 16 ≤ x ∧ ¬ y < 0 ∧ ¬ 12 ≤ y)
def wi (v a b : Int32) : Bool := decide (¬ v < a ∧ ¬ b < v)
def on (z : Int32) : Int32 := if z = 0 then 0 else 1
theorem on_b2 (b : Bool) : on (b2 b) = b2 b := by cases b <;> rfl
theorem pl_in {x y : Int32} (h : pl x y = true) : ∃ i j : Nat, i < 16 ∧ j < 12 ∧ x = nI i ∧ y = nI j := by
  have h := of_decide_eq_true h
  obtain ⟨i, hi, rfl⟩ : ∃ i : Nat, i < 16 ∧ x = nI i := by
    rcases pk_ix x (n := 16) (by decide) with q | q | ⟨i, h1, h2⟩
    · exact absurd q h.1
    · exact absurd q h.2.1
    · exact ⟨i, h1, h2⟩
  obtain ⟨j, hj, rfl⟩ : ∃ j : Nat, j < 12 ∧ y = nI j := by
    rcases pk_ix y (n := 12) (by decide) with q | q | ⟨j, h1, h2⟩
    · exact absurd q h.2.2.1
    · exact absurd q h.2.2.2
    · exact ⟨j, h1, h2⟩
  exact ⟨i, j, hi, hj, rfl, rfl⟩
theorem pl_nI {i j : Nat} (hi : i < 16) (hj : j < 12) : pl (nI i) (nI j) = true := by
  have a1 : ¬ nI i < 0 := nI_pos (by omega)
  have a2 : ¬ (16 : Int32) ≤ nI i := nI_ge (b := 16) hi (by decide)
  have a3 : ¬ nI j < 0 := nI_pos (by omega)
  have a4 : ¬ (12 : Int32) ≤ nI j := nI_ge (b := 12) hj (by decide)
  simp [pl, a1, a2, a3, a4]
theorem vp_row {y : Int32} (h1 : ¬ y < 0) (h2 : ¬ 12 ≤ y) : vp_in y 12 := by
  rcases pk_ix y (n := 12) (by decide) with q | q | ⟨j, h3, rfl⟩
  · exact absurd q h1
  · exact absurd q h2
  · exact vp_in_nI h3 (by decide)
theorem pl_row {x y : Int32} (h : pl x y = true) : vp_in y 12 := by
  obtain ⟨i, j, hi, hj, rfl, rfl⟩ := pl_in h
  exact vp_in_nI hj (by decide)
theorem b2n {b : Bool} (h : ¬ b2 b = 0) : b = true := by cases b <;> simp_all [b2]
theorem b2y {b : Bool} (h : b2 b = 0) : b = false := by cases b <;> simp_all [b2]

theorem mdX6_isPlace : MD yX6_isPlace wsX6_isPlace cX6_isPlace 2 (some .boolean) 2 := ⟨⟨_, rfl⟩, by decide +kernel, by decide +kernel, by decide +kernel⟩
theorem mdX6_isWithin : MD yX6_isWithin wsX6_isWithin cX6_isWithin 3 (some .boolean) 3 := ⟨⟨_, rfl⟩, by decide +kernel, by decide +kernel, by decide +kernel⟩
theorem mdX6_oneIf : MD yX6_oneIf wsX6_oneIf cX6_oneIf 1 (some .int) 1 := ⟨⟨_, rfl⟩, by decide +kernel, by decide +kernel, by decide +kernel⟩
theorem mdX6_isShift : MD yX6_isShift wsX6_isShift cX6_isShift 2 (some .boolean) 2 := ⟨⟨_, rfl⟩, by decide +kernel, by decide +kernel, by decide +kernel⟩
theorem mdX1_becomeLike : MD yX1_becomeLike wsX1_becomeLike cX1_becomeLike 2 none 1 := ⟨⟨_, rfl⟩, by decide +kernel, by decide +kernel, by decide +kernel⟩
theorem mdX1_row : MD yX1_row wsX1_row cX1_row 2 (some .int) 1 := ⟨⟨_, rfl⟩, by decide +kernel, by decide +kernel, by decide +kernel⟩
theorem mdX1_putRow : MD yX1_putRow wsX1_putRow cX1_putRow 3 none 2 := ⟨⟨_, rfl⟩, by decide +kernel, by decide +kernel, by decide +kernel⟩
theorem mdX1_has : MD yX1_has wsX1_has cX1_has 3 (some .boolean) 2 := ⟨⟨_, rfl⟩, by decide +kernel, by decide +kernel, by decide +kernel⟩
theorem mdX1_put : MD yX1_put wsX1_put cX1_put 4 none 3 := ⟨⟨_, rfl⟩, by decide +kernel, by decide +kernel, by decide +kernel⟩
theorem mdX1_size : MD yX1_size wsX1_size cX1_size 3 (some .int) 0 := ⟨⟨_, rfl⟩, by decide +kernel, by decide +kernel, by decide +kernel⟩
theorem mdX1_shiftedRow : MD yX1_shiftedRow wsX1_shiftedRow cX1_shiftedRow 5 (some .int) 3 := ⟨⟨_, rfl⟩, by decide +kernel, by decide +kernel, by decide +kernel⟩
theorem mdX1_growInto : MD yX1_growInto wsX1_growInto cX1_growInto 6 none 1 := ⟨⟨_, rfl⟩, by decide +kernel, by decide +kernel, by decide +kernel⟩
theorem mdX1_neighbors : MD yX1_neighbors wsX1_neighbors cX1_neighbors 3 (some .int) 2 := ⟨⟨_, rfl⟩, by decide +kernel, by decide +kernel, by decide +kernel⟩
theorem mdJ6_bitCount_0f7a4 : MD yJ6_bitCount_0f7a4 wsJ6_bitCount_0f7a4 cJ6_bitCount_0f7a4 1 (some .int) 1 := ⟨⟨_, rfl⟩, by decide +kernel, by decide +kernel, by decide +kernel⟩
theorem mdJ7_fill_53178 : MD yJ7_fill_53178 wsJ7_fill_53178 cJ7_fill_53178 4 none 2 := ⟨⟨_, rfl⟩, by decide +kernel, by decide +kernel, by decide +kernel⟩
set_option maxHeartbeats 4000000 in
set_option maxRecDepth 100000 in
theorem zX6_isPlace {g : aG} {l : Launch} {σ : aS} (x y : Int32) : CN g l yX6_isPlace wsX6_isPlace 0 0 [.int x, .int y] σ (some (.int (b2 (pl x y)))) σ := by
  refine cn_of (cc := cX6_isPlace) (nL := 2) (ret := (some .boolean)) (own := RX6) (by decide +kernel) rfl rfl (Nat.le_of_ble_eq_true rfl) (fun K hg hl hK hE => ?_)
  subst hg; subst hl
  show AW K 0 [some (.int x), some (.int y)] [] σ
  refine s_iload0 hK dX6_isPlace_0 ?_
  refine s_if_lt (tgt := 24) hK dX6_isPlace_1 (by decide) (fun c_1 => ?_) (fun c_1 => ?_)
  · refine s_iconst (v := 0) hK dX6_isPlace_24 (by decide) ?_
    exact s_iret hK hE dX6_isPlace_25 (by decide) (by simp [b2, pl, *]) (rfl)
  · refine s_iload0 hK dX6_isPlace_4 ?_
    refine s_bipush (v := 16) hK dX6_isPlace_5 (by decide) ?_
    refine s_icmp_ge (tgt := 24) hK dX6_isPlace_7 (by decide) (fun c_7 => ?_) (fun c_7 => ?_)
    · refine s_iconst (v := 0) hK dX6_isPlace_24 (by decide) ?_
      exact s_iret hK hE dX6_isPlace_25 (by decide) (by simp [b2, pl, *]) (rfl)
    · refine s_iload1 hK dX6_isPlace_10 ?_
      refine s_if_lt (tgt := 24) hK dX6_isPlace_11 (by decide) (fun c_11 => ?_) (fun c_11 => ?_)
      · refine s_iconst (v := 0) hK dX6_isPlace_24 (by decide) ?_
        exact s_iret hK hE dX6_isPlace_25 (by decide) (by simp [b2, pl, *]) (rfl)
      · refine s_iload1 hK dX6_isPlace_14 ?_
        refine s_bipush (v := 12) hK dX6_isPlace_15 (by decide) ?_
        refine s_icmp_ge (tgt := 24) hK dX6_isPlace_17 (by decide) (fun c_17 => ?_) (fun c_17 => ?_)
        · refine s_iconst (v := 0) hK dX6_isPlace_24 (by decide) ?_
          exact s_iret hK hE dX6_isPlace_25 (by decide) (by simp [b2, pl, *]) (rfl)
        · refine s_iconst (v := 1) hK dX6_isPlace_20 (by decide) ?_
          refine s_goto (tgt := 25) hK dX6_isPlace_21 (by decide) ?_
          exact s_iret hK hE dX6_isPlace_25 (by decide) (by simp [b2, pl, *]) (rfl)
set_option maxHeartbeats 4000000 in
set_option maxRecDepth 100000 in
theorem zX6_isWithin {g : aG} {l : Launch} {σ : aS} (v a b : Int32) : CN g l yX6_isWithin wsX6_isWithin 0 0 [.int v, .int a, .int b] σ (some (.int (b2 (wi v a b)))) σ := by
  refine cn_of (cc := cX6_isWithin) (nL := 3) (ret := (some .boolean)) (own := RX6) (by decide +kernel) rfl rfl (Nat.le_of_ble_eq_true rfl) (fun K hg hl hK hE => ?_)
  subst hg; subst hl
  show AW K 0 [some (.int v), some (.int a), some (.int b)] [] σ
  refine s_iload0 hK dX6_isWithin_0 ?_
  refine s_iload1 hK dX6_isWithin_1 ?_
  refine s_icmp_lt (tgt := 14) hK dX6_isWithin_2 (by decide) (fun c_2 => ?_) (fun c_2 => ?_)
  · refine s_iconst (v := 0) hK dX6_isWithin_14 (by decide) ?_
    exact s_iret hK hE dX6_isWithin_15 (by decide) (by simp [b2, wi, *]) (rfl)
  · refine s_iload0 hK dX6_isWithin_5 ?_
    refine s_iload2 hK dX6_isWithin_6 ?_
    refine s_icmp_gt (tgt := 14) hK dX6_isWithin_7 (by decide) (fun c_7 => ?_) (fun c_7 => ?_)
    · refine s_iconst (v := 0) hK dX6_isWithin_14 (by decide) ?_
      exact s_iret hK hE dX6_isWithin_15 (by decide) (by simp [b2, wi, *]) (rfl)
    · refine s_iconst (v := 1) hK dX6_isWithin_10 (by decide) ?_
      refine s_goto (tgt := 15) hK dX6_isWithin_11 (by decide) ?_
      exact s_iret hK hE dX6_isWithin_15 (by decide) (by simp [b2, wi, *]) (rfl)
set_option maxHeartbeats 4000000 in
set_option maxRecDepth 100000 in
theorem zX6_oneIf {g : aG} {l : Launch} {σ : aS} (z : Int32) : CN g l yX6_oneIf wsX6_oneIf 0 0 [.int z] σ (some (.int (on z))) σ := by
  refine cn_of (cc := cX6_oneIf) (nL := 1) (ret := (some .int)) (own := RX6) (by decide +kernel) rfl rfl (Nat.le_of_ble_eq_true rfl) (fun K hg hl hK hE => ?_)
  subst hg; subst hl
  show AW K 0 [some (.int z)] [] σ
  refine s_iload0 hK dX6_oneIf_0 ?_
  refine s_if_eq (tgt := 8) hK dX6_oneIf_1 (by decide) (fun c_1 => ?_) (fun c_1 => ?_)
  · refine s_iconst (v := 0) hK dX6_oneIf_8 (by decide) ?_
    exact s_iret hK hE dX6_oneIf_9 rfl (by simp [on, *]) (rfl)
  · refine s_iconst (v := 1) hK dX6_oneIf_4 (by decide) ?_
    refine s_goto (tgt := 9) hK dX6_oneIf_5 (by decide) ?_
    exact s_iret hK hE dX6_oneIf_9 rfl (by simp [on, *]) (rfl)
def sh (x y : Int32) : Bool := wi x (-8) 8 && wi y (-8) 8
set_option maxHeartbeats 4000000 in
set_option maxRecDepth 100000 in
theorem zX6_isShift {g : aG} {l : Launch} {σ : aS} (x y : Int32) : CN g l yX6_isShift wsX6_isShift 1 22 [.int x, .int y] σ (some (.int (b2 (sh x y)))) σ := by
  refine cn_of (cc := cX6_isShift) (nL := 2) (ret := (some .boolean)) (own := RX6) (by decide +kernel) rfl rfl (Nat.le_of_ble_eq_true rfl) (fun K hg hl hK hE => ?_)
  subst hg; subst hl
  show AW K 0 [some (.int x), some (.int y)] [] σ
  refine s_iload0 hK dX6_isShift_0 ?_
  refine s_bipush (v := -8) hK dX6_isShift_1 (by decide) ?_
  refine s_bipush (v := 8) hK dX6_isShift_3 (by decide) ?_
  refine s_callS hK mdX6_isWithin (zX6_isWithin _ _ _) gX6_isShift_X6_isWithin rfl ⟨Nat.le_of_ble_eq_true rfl, Nat.le_of_ble_eq_true rfl⟩ rfl (Nat.le_of_ble_eq_true rfl) dX6_isShift_5 ?_
  try dsimp only [Option.toList, List.cons_append, List.nil_append]
  refine s_if_eq (tgt := 26) hK dX6_isShift_8 (by decide) (fun c_8 => ?_) (fun c_8 => ?_)
  · refine s_iconst (v := 0) hK dX6_isShift_26 (by decide) ?_
    exact s_iret hK hE dX6_isShift_27 (by decide) (by first | (have q1 := b2n c_8; have q2 := b2n c_19; simp [b2, sh, q1, q2]; done) | (have q2 := b2y c_19; simp [b2, sh, q2]; done) | (have q1 := b2y c_8; simp [b2, sh, q1]; done)) (rfl)
  · refine s_iload1 hK dX6_isShift_11 ?_
    refine s_bipush (v := -8) hK dX6_isShift_12 (by decide) ?_
    refine s_bipush (v := 8) hK dX6_isShift_14 (by decide) ?_
    refine s_callS hK mdX6_isWithin (zX6_isWithin _ _ _) gX6_isShift_X6_isWithin rfl ⟨Nat.le_of_ble_eq_true rfl, Nat.le_of_ble_eq_true rfl⟩ rfl (Nat.le_of_ble_eq_true rfl) dX6_isShift_16 ?_
    try dsimp only [Option.toList, List.cons_append, List.nil_append]
    refine s_if_eq (tgt := 26) hK dX6_isShift_19 (by decide) (fun c_19 => ?_) (fun c_19 => ?_)
    · refine s_iconst (v := 0) hK dX6_isShift_26 (by decide) ?_
      exact s_iret hK hE dX6_isShift_27 (by decide) (by first | (have q1 := b2n c_8; have q2 := b2n c_19; simp [b2, sh, q1, q2]; done) | (have q2 := b2y c_19; simp [b2, sh, q2]; done) | (have q1 := b2y c_8; simp [b2, sh, q1]; done)) (rfl)
    · refine s_iconst (v := 1) hK dX6_isShift_22 (by decide) ?_
      refine s_goto (tgt := 27) hK dX6_isShift_23 (by decide) ?_
      exact s_iret hK hE dX6_isShift_27 (by decide) (by first | (have q1 := b2n c_8; have q2 := b2n c_19; simp [b2, sh, q1, q2]; done) | (have q2 := b2y c_19; simp [b2, sh, q2]; done) | (have q1 := b2y c_8; simp [b2, sh, q1]; done)) (rfl)
def rw_ (σ : aS) (a : Nat) (y : Int32) : Int32 := if ¬ y < 0 ∧ ¬ 12 ≤ y then σ a y.toNatClampNeg else 0
set_option maxHeartbeats 4000000 in
set_option maxRecDepth 100000 in
theorem zX1_row {g : aG} {l : Launch} {σ : aS} (c : Nat) (y : Int32) (hc : kd c = 1) : CN g l yX1_row wsX1_row 0 0 [.ref c, .int y] σ (some (.int (rw_ σ (c + 4) y))) σ := by
  refine cn_of (cc := cX1_row) (nL := 2) (ret := (some .int)) (own := RX1) (by decide +kernel) rfl rfl (Nat.le_of_ble_eq_true rfl) (fun K hg hl hK hE => ?_)
  subst hg; subst hl
  have i_1 : ∀ w ∈ u_ws RX1 TX1 1, w ∈ wsX1_row := by decide +kernel
  show AW K 0 [some (.ref c), some (.int y)] [] σ
  refine s_iload1 hK dX1_row_0 ?_
  refine s_if_lt (tgt := 19) hK dX1_row_1 (by decide) (fun c_1 => ?_) (fun c_1 => ?_)
  · refine s_iconst (v := 0) hK dX1_row_19 (by decide) ?_
    exact s_iret hK hE dX1_row_20 rfl (by simp [rw_, *]) (rfl)
  · refine s_iload1 hK dX1_row_4 ?_
    refine s_bipush (v := 12) hK dX1_row_5 (by decide) ?_
    refine s_icmp_ge (tgt := 19) hK dX1_row_7 (by decide) (fun c_7 => ?_) (fun c_7 => ?_)
    · refine s_iconst (v := 0) hK dX1_row_19 (by decide) ?_
      exact s_iret hK hE dX1_row_20 rfl (by simp [rw_, *]) (rfl)
    · refine s_aload0 hK dX1_row_10 ?_
      refine s_getr (ci := 1) (k := 0) hK hc rfl i_1 (by decide +kernel) dX1_row_11 (by decide) (by decide) (by decide) rfl rfl (rf_1_0 hc) ?_
      refine s_iload1 hK dX1_row_14 ?_
      refine s_iald hK (kC hc) (by rw [lC hc]; exact vp_row c_1 c_7) dX1_row_15 ?_
      refine s_goto (tgt := 20) hK dX1_row_16 (by decide) ?_
      exact s_iret hK hE dX1_row_20 rfl (by simp [rw_, *]) (rfl)
def pR (σ : aS) (a : Nat) (y v : Int32) : aS := if ¬ y < 0 ∧ ¬ 12 ≤ y then sP σ a (upd (σ a) y.toNatClampNeg (v &&& 65535)) else σ
set_option maxHeartbeats 4000000 in
set_option maxRecDepth 100000 in
theorem zX1_putRow {g : aG} {l : Launch} {σ : aS} (c : Nat) (y v : Int32) (hc : kd c = 1) : CN g l yX1_putRow wsX1_putRow 0 0 [.ref c, .int y, .int v] σ none (pR σ (c + 4) y v) := by
  refine cn_of (cc := cX1_putRow) (nL := 3) (ret := none) (own := RX1) (by decide +kernel) rfl rfl (Nat.le_of_ble_eq_true rfl) (fun K hg hl hK hE => ?_)
  subst hg; subst hl
  have i_1 : ∀ w ∈ u_ws RX1 TX1 1, w ∈ wsX1_putRow := by decide +kernel
  show AW K 0 [some (.ref c), some (.int y), some (.int v)] [] σ
  refine s_iload1 hK dX1_putRow_0 ?_
  refine s_if_lt (tgt := 20) hK dX1_putRow_1 (by decide) (fun c_1 => ?_) (fun c_1 => ?_)
  · exact s_vret hK hE dX1_putRow_20 (by simp [pR, *])
  · refine s_iload1 hK dX1_putRow_4 ?_
    refine s_bipush (v := 12) hK dX1_putRow_5 (by decide) ?_
    refine s_icmp_ge (tgt := 20) hK dX1_putRow_7 (by decide) (fun c_7 => ?_) (fun c_7 => ?_)
    · exact s_vret hK hE dX1_putRow_20 (by simp [pR, *])
    · refine s_aload0 hK dX1_putRow_10 ?_
      refine s_getr (ci := 1) (k := 0) hK hc rfl i_1 (by decide +kernel) dX1_putRow_11 (by decide) (by decide) (by decide) rfl rfl (rf_1_0 hc) ?_
      refine s_iload1 hK dX1_putRow_14 ?_
      refine s_iload2 hK dX1_putRow_15 ?_
      refine s_ldc (v := 65535) hK dX1_putRow_16 (by decide +kernel) ?_
      refine s_iand hK dX1_putRow_18 ?_
      refine s_iast hK (kC hc) (by rw [lC hc]; exact vp_row c_1 c_7) dX1_putRow_19 ?_
      exact s_vret hK hE dX1_putRow_20 (by simp [pR, *])
def bL (σ : aS) (a b : Nat) : aS := sP σ a (va_cpy (σ b) (σ a) 0 0 12)
set_option maxHeartbeats 4000000 in
set_option maxRecDepth 100000 in
theorem zX1_becomeLike {g : aG} {l : Launch} {σ : aS} (c d : Nat) (hc : kd c = 1) (hd : kd d = 1) : CN g l yX1_becomeLike wsX1_becomeLike 1 26 [.ref c, .ref d] σ none (bL σ (c + 4) (d + 4)) := by
  refine cn_of (cc := cX1_becomeLike) (nL := 2) (ret := none) (own := RX1) (by decide +kernel) rfl rfl (Nat.le_of_ble_eq_true rfl) (fun K hg hl hK hE => ?_)
  subst hg; subst hl
  have i_1 : ∀ w ∈ u_ws RX1 TX1 1, w ∈ wsX1_becomeLike := by decide +kernel
  show AW K 0 [some (.ref c), some (.ref d)] [] σ
  refine s_aload1 hK dX1_becomeLike_0 ?_
  refine s_getr (ci := 1) (k := 0) hK hd rfl i_1 (by decide +kernel) dX1_becomeLike_1 (by decide) (by decide) (by decide) rfl rfl (rf_1_0 hd) ?_
  refine s_iconst (v := 0) hK dX1_becomeLike_4 (by decide) ?_
  refine s_aload0 hK dX1_becomeLike_5 ?_
  refine s_getr (ci := 1) (k := 0) hK hc rfl i_1 (by decide +kernel) dX1_becomeLike_6 (by decide) (by decide) (by decide) rfl rfl (rf_1_0 hc) ?_
  refine s_iconst (v := 0) hK dX1_becomeLike_9 (by decide) ?_
  refine s_bipush (v := 12) hK dX1_becomeLike_10 (by decide) ?_
  refine s_acopy hK (by decide +kernel) (by decide +kernel) (by decide +kernel) (by decide +kernel) (kC hd) (kC hc) (by decide) (by decide) (by decide) (by rw [lC hd]; decide) (by rw [lC hc]; decide) (by decide) (by decide) dX1_becomeLike_12 ?_
  exact s_vret hK hE dX1_becomeLike_15 (rfl)
def hs (σ : aS) (a : Nat) (x y : Int32) : Bool := pl x y && bt (σ a y.toNatClampNeg) x.toNatClampNeg
theorem bt_1 (j : Nat) : bt 1 j = decide (j = 0) := by
  rcases Nat.lt_or_ge j 32 with h | h
  · exact (by decide +kernel : ∀ j, j < 32 → bt 1 j = decide (j = 0)) j h
  · rw [b_big h, decide_eq_false (by omega)]
theorem bt_b2 (b : Bool) (j : Nat) : bt (b2 b) j = (b && decide (j = 0)) := by
  cases b
  · rw [show b2 false = 0 from rfl, b_0]; rfl
  · rw [show b2 true = 1 from rfl, bt_1]; rfl
theorem bit_test (r : Int32) {i : Nat} (hi : i < 32) : (r >>> (nI i &&& 31)) &&& 1 = b2 (bt r i) := by
  apply b_ext
  intro j hj
  rw [b_and, b_sshr i hi r hj, bt_1, bt_b2]
  by_cases h : j = 0
  · subst h
    simp [hi]
  · simp [h]
set_option maxHeartbeats 4000000 in
set_option maxRecDepth 100000 in
theorem zX1_has {g : aG} {l : Launch} {σ : aS} (c : Nat) (x y : Int32) (hc : kd c = 1) : CN g l yX1_has wsX1_has 1 21 [.ref c, .int x, .int y] σ (some (.int (b2 (hs σ (c + 4) x y)))) σ := by
  refine cn_of (cc := cX1_has) (nL := 3) (ret := (some .boolean)) (own := RX1) (by decide +kernel) rfl rfl (Nat.le_of_ble_eq_true rfl) (fun K hg hl hK hE => ?_)
  subst hg; subst hl
  have i_1 : ∀ w ∈ u_ws RX1 TX1 1, w ∈ wsX1_has := by decide +kernel
  show AW K 0 [some (.ref c), some (.int x), some (.int y)] [] σ
  refine s_iload1 hK dX1_has_0 ?_
  refine s_iload2 hK dX1_has_1 ?_
  refine s_callN (host := RX6) hK mdX6_isPlace (zX6_isPlace x y) gX1_has_X6_isPlace_n22 (by decide +kernel) (by decide +kernel) (by decide +kernel) rfl ⟨Nat.le_of_ble_eq_true rfl, Nat.le_of_ble_eq_true rfl⟩ rfl (Nat.le_of_ble_eq_true rfl) dX1_has_2 ?_
  try dsimp only [Option.toList, List.cons_append, List.nil_append]
  refine s_if_eq (tgt := 26) hK dX1_has_5 (by decide) (fun c_5 => ?_) (fun c_5 => ?_)
  · refine s_iconst (v := 0) hK dX1_has_26 (by decide) ?_
    exact s_iret hK hE dX1_has_27 (by decide) (by first | (have q := b2y c_5; simp [b2, hs, q]; done) | (obtain ⟨i, j, hi, hj, rfl, rfl⟩ := pl_in (b2n c_5); rw [bit_test _ (show i < 32 by omega)] at c_19; have q := b2n c_5; simp [hs, q, pk_cl i rfl (by omega)]; cases h : bt (σ (c + 4) (nI j).toNatClampNeg) i <;> simp_all [b2]; done)) (rfl)
  · refine s_aload0 hK dX1_has_8 ?_
    refine s_getr (ci := 1) (k := 0) hK hc rfl i_1 (by decide +kernel) dX1_has_9 (by decide) (by decide) (by decide) rfl rfl (rf_1_0 hc) ?_
    refine s_iload2 hK dX1_has_12 ?_
    refine s_iald hK (kC hc) (by rw [lC hc]; exact pl_row (b2n c_5)) dX1_has_13 ?_
    refine s_iload1 hK dX1_has_14 ?_
    refine s_ishr hK dX1_has_15 ?_
    refine s_iconst (v := 1) hK dX1_has_16 (by decide) ?_
    refine s_iand hK dX1_has_17 ?_
    refine s_iconst (v := 1) hK dX1_has_18 (by decide) ?_
    refine s_icmp_ne (tgt := 26) hK dX1_has_19 (by decide) (fun c_19 => ?_) (fun c_19 => ?_)
    · refine s_iconst (v := 0) hK dX1_has_26 (by decide) ?_
      exact s_iret hK hE dX1_has_27 (by decide) (by first | (have q := b2y c_5; simp [b2, hs, q]; done) | (obtain ⟨i, j, hi, hj, rfl, rfl⟩ := pl_in (b2n c_5); rw [bit_test _ (show i < 32 by omega)] at c_19; have q := b2n c_5; simp [hs, q, pk_cl i rfl (by omega)]; cases h : bt (σ (c + 4) (nI j).toNatClampNeg) i <;> simp_all [b2]; done)) (rfl)
    · refine s_iconst (v := 1) hK dX1_has_22 (by decide) ?_
      refine s_goto (tgt := 27) hK dX1_has_23 (by decide) ?_
      exact s_iret hK hE dX1_has_27 (by decide) (by first | (have q := b2y c_5; simp [b2, hs, q]; done) | (obtain ⟨i, j, hi, hj, rfl, rfl⟩ := pl_in (b2n c_5); rw [bit_test _ (show i < 32 by omega)] at c_19; have q := b2n c_5; simp [hs, q, pk_cl i rfl (by omega)]; cases h : bt (σ (c + 4) (nI j).toNatClampNeg) i <;> simp_all [b2]; done)) (rfl)
def pv (r x z : Int32) : Int32 := if z = 0 then r &&& ((1 <<< (x &&& 31)) ^^^ (-1)) else r ||| (1 <<< (x &&& 31))
def pt (σ : aS) (a : Nat) (x y z : Int32) : aS := if pl x y = true then sP σ a (upd (σ a) y.toNatClampNeg (pv (σ a y.toNatClampNeg) x z)) else σ
set_option maxHeartbeats 4000000 in
set_option maxRecDepth 100000 in
theorem zX1_put {g : aG} {l : Launch} {σ : aS} (c : Nat) (x y z : Int32) (hc : kd c = 1) : CN g l yX1_put wsX1_put 1 21 [.ref c, .int x, .int y, .int z] σ none (pt σ (c + 4) x y z) := by
  refine cn_of (cc := cX1_put) (nL := 4) (ret := none) (own := RX1) (by decide +kernel) rfl rfl (Nat.le_of_ble_eq_true rfl) (fun K hg hl hK hE => ?_)
  subst hg; subst hl
  have i_1 : ∀ w ∈ u_ws RX1 TX1 1, w ∈ wsX1_put := by decide +kernel
  show AW K 0 [some (.ref c), some (.int x), some (.int y), some (.int z)] [] σ
  refine s_iload1 hK dX1_put_0 ?_
  refine s_iload2 hK dX1_put_1 ?_
  refine s_callN (host := RX6) hK mdX6_isPlace (zX6_isPlace x y) gX1_put_X6_isPlace_n22 (by decide +kernel) (by decide +kernel) (by decide +kernel) rfl ⟨Nat.le_of_ble_eq_true rfl, Nat.le_of_ble_eq_true rfl⟩ rfl (Nat.le_of_ble_eq_true rfl) dX1_put_2 ?_
  try dsimp only [Option.toList, List.cons_append, List.nil_append]
  refine s_if_eq (tgt := 43) hK dX1_put_5 (by decide) (fun c_5 => ?_) (fun c_5 => ?_)
  · exact s_vret hK hE dX1_put_43 (by first | (have q := b2y c_5; simp [pt, q]; done) | (have q := b2n c_5; simp [pt, pv, q, c_14]; done))
  · refine s_aload0 hK dX1_put_8 ?_
    refine s_getr (ci := 1) (k := 0) hK hc rfl i_1 (by decide +kernel) dX1_put_9 (by decide) (by decide) (by decide) rfl rfl (rf_1_0 hc) ?_
    refine s_iload2 hK dX1_put_12 ?_
    refine s_iload3 hK dX1_put_13 ?_
    refine s_if_eq (tgt := 30) hK dX1_put_14 (by decide) (fun c_14 => ?_) (fun c_14 => ?_)
    · refine s_aload0 hK dX1_put_30 ?_
      refine s_getr (ci := 1) (k := 0) hK hc rfl i_1 (by decide +kernel) dX1_put_31 (by decide) (by decide) (by decide) rfl rfl (rf_1_0 hc) ?_
      refine s_iload2 hK dX1_put_34 ?_
      refine s_iald hK (kC hc) (by rw [lC hc]; exact pl_row (b2n c_5)) dX1_put_35 ?_
      refine s_iconst (v := 1) hK dX1_put_36 (by decide) ?_
      refine s_iload1 hK dX1_put_37 ?_
      refine s_ishl hK dX1_put_38 ?_
      refine s_iconst (v := -1) hK dX1_put_39 (by decide) ?_
      refine s_ixor hK dX1_put_40 ?_
      refine s_iand hK dX1_put_41 ?_
      refine s_iast hK (kC hc) (by rw [lC hc]; exact pl_row (b2n c_5)) dX1_put_42 ?_
      exact s_vret hK hE dX1_put_43 (by first | (have q := b2y c_5; simp [pt, q]; done) | (have q := b2n c_5; simp [pt, pv, q, c_14]; done))
    · refine s_aload0 hK dX1_put_17 ?_
      refine s_getr (ci := 1) (k := 0) hK hc rfl i_1 (by decide +kernel) dX1_put_18 (by decide) (by decide) (by decide) rfl rfl (rf_1_0 hc) ?_
      refine s_iload2 hK dX1_put_21 ?_
      refine s_iald hK (kC hc) (by rw [lC hc]; exact pl_row (b2n c_5)) dX1_put_22 ?_
      refine s_iconst (v := 1) hK dX1_put_23 (by decide) ?_
      refine s_iload1 hK dX1_put_24 ?_
      refine s_ishl hK dX1_put_25 ?_
      refine s_ior hK dX1_put_26 ?_
      refine s_goto (tgt := 42) hK dX1_put_27 (by decide) ?_
      refine s_iast hK (kC hc) (by rw [lC hc]; exact pl_row (b2n c_5)) dX1_put_42 ?_
      exact s_vret hK hE dX1_put_43 (by first | (have q := b2y c_5; simp [pt, q]; done) | (have q := b2n c_5; simp [pt, pv, q, c_14]; done))
def sR (σ : aS) (a : Nat) (y sx sy : Int32) : Int32 := if sx < 0 then rw_ σ a (y - sy) >>> ((-sx) &&& 31) else (rw_ σ a (y - sy) <<< (sx &&& 31)) &&& 65535
set_option maxHeartbeats 4000000 in
set_option maxRecDepth 100000 in
theorem zX1_shiftedRow {g : aG} {l : Launch} {σ : aS} (c : Nat) (y sx sy : Int32) (hc : kd c = 1) : CN g l yX1_shiftedRow wsX1_shiftedRow 1 21 [.ref c, .int y, .int sx, .int sy] σ (some (.int (sR σ (c + 4) y sx sy))) σ := by
  refine cn_of (cc := cX1_shiftedRow) (nL := 5) (ret := (some .int)) (own := RX1) (by decide +kernel) rfl rfl (Nat.le_of_ble_eq_true rfl) (fun K hg hl hK hE => ?_)
  subst hg; subst hl
  show AW K 0 [some (.ref c), some (.int y), some (.int sx), some (.int sy), none] [] σ
  refine s_aload0 hK dX1_shiftedRow_0 ?_
  refine s_iload1 hK dX1_shiftedRow_1 ?_
  refine s_iload3 hK dX1_shiftedRow_2 ?_
  refine s_isub hK dX1_shiftedRow_3 ?_
  refine s_callV (ci := 1) hK mdX1_row (zX1_row c (y - sy) hc) gX1_shiftedRow_X1_row hc rfl rfl (by decide) rfl ⟨Nat.le_of_ble_eq_true rfl, Nat.le_of_ble_eq_true rfl⟩ rfl (Nat.le_of_ble_eq_true rfl) dX1_shiftedRow_4 ?_
  try dsimp only [Option.toList, List.cons_append, List.nil_append]
  refine s_istore4 hK dX1_shiftedRow_7 ?_
  refine s_iload2 hK dX1_shiftedRow_9 ?_
  refine s_if_lt (tgt := 23) hK dX1_shiftedRow_10 (by decide) (fun c_10 => ?_) (fun c_10 => ?_)
  · refine s_iload4 hK dX1_shiftedRow_23 ?_
    refine s_iload2 hK dX1_shiftedRow_25 ?_
    refine s_ineg hK dX1_shiftedRow_26 ?_
    refine s_ishr hK dX1_shiftedRow_27 ?_
    exact s_iret hK hE dX1_shiftedRow_28 rfl (by simp [sR, *]) (rfl)
  · refine s_iload4 hK dX1_shiftedRow_13 ?_
    refine s_iload2 hK dX1_shiftedRow_15 ?_
    refine s_ishl hK dX1_shiftedRow_16 ?_
    refine s_ldc (v := 65535) hK dX1_shiftedRow_17 (by decide +kernel) ?_
    refine s_iand hK dX1_shiftedRow_19 ?_
    refine s_goto (tgt := 28) hK dX1_shiftedRow_20 (by decide) ?_
    exact s_iret hK hE dX1_shiftedRow_28 rfl (by simp [sR, *]) (rfl)
def nb (σ : aS) (a : Nat) (x y : Int32) : Int32 := b2 (hs σ a (x - 1) y) + b2 (hs σ a (x + 1) y) + b2 (hs σ a x (y - 1)) + b2 (hs σ a x (y + 1))
set_option maxHeartbeats 4000000 in
set_option maxRecDepth 100000 in
theorem zX1_neighbors {g : aG} {l : Launch} {σ : aS} (c : Nat) (x y : Int32) (hc : kd c = 1) : CN g l yX1_neighbors wsX1_neighbors 2 43 [.ref c, .int x, .int y] σ (some (.int (nb σ (c + 4) x y))) σ := by
  refine cn_of (cc := cX1_neighbors) (nL := 3) (ret := (some .int)) (own := RX1) (by decide +kernel) rfl rfl (Nat.le_of_ble_eq_true rfl) (fun K hg hl hK hE => ?_)
  subst hg; subst hl
  show AW K 0 [some (.ref c), some (.int x), some (.int y)] [] σ
  refine s_aload0 hK dX1_neighbors_0 ?_
  refine s_iload1 hK dX1_neighbors_1 ?_
  refine s_iconst (v := 1) hK dX1_neighbors_2 (by decide) ?_
  refine s_isub hK dX1_neighbors_3 ?_
  refine s_iload2 hK dX1_neighbors_4 ?_
  refine s_callV (ci := 1) hK mdX1_has (zX1_has c (x - 1) y hc) gX1_neighbors_X1_has hc rfl rfl (by decide) rfl ⟨Nat.le_of_ble_eq_true rfl, Nat.le_of_ble_eq_true rfl⟩ rfl (Nat.le_of_ble_eq_true rfl) dX1_neighbors_5 ?_
  try dsimp only [Option.toList, List.cons_append, List.nil_append]
  refine s_callN (host := RX6) hK mdX6_oneIf (zX6_oneIf _) gX1_neighbors_X6_oneIf_n38 (by decide +kernel) (by decide +kernel) (by decide +kernel) rfl ⟨Nat.le_of_ble_eq_true rfl, Nat.le_of_ble_eq_true rfl⟩ rfl (Nat.le_of_ble_eq_true rfl) dX1_neighbors_8 ?_
  try dsimp only [Option.toList, List.cons_append, List.nil_append]
  refine s_aload0 hK dX1_neighbors_11 ?_
  refine s_iload1 hK dX1_neighbors_12 ?_
  refine s_iconst (v := 1) hK dX1_neighbors_13 (by decide) ?_
  refine s_iadd hK dX1_neighbors_14 ?_
  refine s_iload2 hK dX1_neighbors_15 ?_
  refine s_callV (ci := 1) hK mdX1_has (zX1_has c (x + 1) y hc) gX1_neighbors_X1_has hc rfl rfl (by decide) rfl ⟨Nat.le_of_ble_eq_true rfl, Nat.le_of_ble_eq_true rfl⟩ rfl (Nat.le_of_ble_eq_true rfl) dX1_neighbors_16 ?_
  try dsimp only [Option.toList, List.cons_append, List.nil_append]
  refine s_callN (host := RX6) hK mdX6_oneIf (zX6_oneIf _) gX1_neighbors_X6_oneIf_n38 (by decide +kernel) (by decide +kernel) (by decide +kernel) rfl ⟨Nat.le_of_ble_eq_true rfl, Nat.le_of_ble_eq_true rfl⟩ rfl (Nat.le_of_ble_eq_true rfl) dX1_neighbors_19 ?_
  try dsimp only [Option.toList, List.cons_append, List.nil_append]
  refine s_iadd hK dX1_neighbors_22 ?_
  refine s_aload0 hK dX1_neighbors_23 ?_
  refine s_iload1 hK dX1_neighbors_24 ?_
  refine s_iload2 hK dX1_neighbors_25 ?_
  refine s_iconst (v := 1) hK dX1_neighbors_26 (by decide) ?_
  refine s_isub hK dX1_neighbors_27 ?_
  refine s_callV (ci := 1) hK mdX1_has (zX1_has c x (y - 1) hc) gX1_neighbors_X1_has hc rfl rfl (by decide) rfl ⟨Nat.le_of_ble_eq_true rfl, Nat.le_of_ble_eq_true rfl⟩ rfl (Nat.le_of_ble_eq_true rfl) dX1_neighbors_28 ?_
  try dsimp only [Option.toList, List.cons_append, List.nil_append]
  refine s_callN (host := RX6) hK mdX6_oneIf (zX6_oneIf _) gX1_neighbors_X6_oneIf_n38 (by decide +kernel) (by decide +kernel) (by decide +kernel) rfl ⟨Nat.le_of_ble_eq_true rfl, Nat.le_of_ble_eq_true rfl⟩ rfl (Nat.le_of_ble_eq_true rfl) dX1_neighbors_31 ?_
  try dsimp only [Option.toList, List.cons_append, List.nil_append]
  refine s_iadd hK dX1_neighbors_34 ?_
  refine s_aload0 hK dX1_neighbors_35 ?_
  refine s_iload1 hK dX1_neighbors_36 ?_
  refine s_iload2 hK dX1_neighbors_37 ?_
  refine s_iconst (v := 1) hK dX1_neighbors_38 (by decide) ?_
  refine s_iadd hK dX1_neighbors_39 ?_
  refine s_callV (ci := 1) hK mdX1_has (zX1_has c x (y + 1) hc) gX1_neighbors_X1_has hc rfl rfl (by decide) rfl ⟨Nat.le_of_ble_eq_true rfl, Nat.le_of_ble_eq_true rfl⟩ rfl (Nat.le_of_ble_eq_true rfl) dX1_neighbors_40 ?_
  try dsimp only [Option.toList, List.cons_append, List.nil_append]
  refine s_callN (host := RX6) hK mdX6_oneIf (zX6_oneIf _) gX1_neighbors_X6_oneIf_n38 (by decide +kernel) (by decide +kernel) (by decide +kernel) rfl ⟨Nat.le_of_ble_eq_true rfl, Nat.le_of_ble_eq_true rfl⟩ rfl (Nat.le_of_ble_eq_true rfl) dX1_neighbors_43 ?_
  try dsimp only [Option.toList, List.cons_append, List.nil_append]
  refine s_iadd hK dX1_neighbors_46 ?_
  exact s_iret hK hE dX1_neighbors_47 rfl (by simp only [on_b2, nb]) (rfl)
