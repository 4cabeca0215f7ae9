/-! pixels, and how many bits a row has -/
def px (σ : aS) (a k : Nat) : Bool := bt (σ a (k / 16)) (k % 16)
def wR (σ : aS) (a : Nat) : Prop := ∀ y, y < 12 → ∀ i, 16 ≤ i → bt (σ a y) i = false
def ct (p : Nat → Bool) : Nat := fb_ct p 192
theorem ct_rows (p : Nat → Bool) : ∀ n, fb_ct p (16 * n) = fb_sm (fun y => fb_ct (fun i => p (16 * y + i)) 16) n
  | 0 => rfl
  | n + 1 => by rw [Nat.mul_succ, fb_ct_split, ct_rows p n, fb_sm_succ]
theorem px_at (σ : aS) (a y : Nat) {i : Nat} (hi : i < 16) : px σ a (16 * y + i) = bt (σ a y) i := by
  unfold px
  rw [show (16 * y + i) / 16 = y by omega, show (16 * y + i) % 16 = i by omega]
theorem ush {n : Nat} (s : Int32) (k : Nat) (hs : ((s.toUInt32 &&& Int32.toUInt32 31).toBitVec % 32).toNat = k) (hn : n < 2 ^ 32) : ((nI n).toUInt32 >>> (s.toUInt32 &&& Int32.toUInt32 31)).toInt32 = nI (n / 2 ^ k) := pk_ushrN hn s k hs
def pu (x s : Int32) : Int32 := (x.toUInt32 >>> (s.toUInt32 &&& Int32.toUInt32 31)).toInt32
def pc1 (x : Int32) : Int32 := x - (pu x 1 &&& 1431655765)
def pc2 (x : Int32) : Int32 := (x &&& 858993459) + (pu x 2 &&& 858993459)
def pc3 (x : Int32) : Int32 := (x + pu x 4) &&& 252645135
def pc4 (x : Int32) : Int32 := x + pu x 8
def pc5 (x : Int32) : Int32 := x + pu x 16
def pcJ (x : Int32) : Int32 := pc5 (pc4 (pc3 (pc2 (pc1 x)))) &&& 63
def qc1 (n : Nat) : Nat := Nat.sub n (Nat.land (Nat.div n 2) 1431655765)
def qc2 (n : Nat) : Nat := Nat.add (Nat.land n 858993459) (Nat.land (Nat.div n 4) 858993459)
def qc3 (n : Nat) : Nat := Nat.land (Nat.add n (Nat.div n 16)) 252645135
def qc4 (n : Nat) : Nat := Nat.add n (Nat.div n 256)
def qc5 (n : Nat) : Nat := Nat.add n (Nat.div n 65536)
def qcJ (n : Nat) : Nat := Nat.land (qc5 (qc4 (qc3 (qc2 (qc1 n))))) 63
theorem land_le (a b : Nat) : Nat.land a b ≤ a := Nat.and_le_left
theorem pc1_n {n : Nat} (h : n < 65536) : pc1 (nI n) = nI (qc1 n) ∧ qc1 n < 65536 := by
  have h1 : pu (nI n) 1 = nI (n / 2) := ush 1 1 (by decide) (by omega)
  have h2 : nI (n / 2) &&& (1431655765 : Int32) = nI (Nat.land (n / 2) 1431655765) := fa_and (n / 2) 1431655765
  have h3 : Nat.land (n / 2) 1431655765 ≤ n / 2 := land_le _ _
  refine ⟨?_, ?_⟩
  · unfold pc1
    rw [h1, h2, pk_sub (by omega)]
    rfl
  · show n - Nat.land (n / 2) 1431655765 < 65536
    omega
theorem pc2_n {n : Nat} (h : n < 65536) : pc2 (nI n) = nI (qc2 n) ∧ qc2 n < 131072 := by
  have h1 : pu (nI n) 2 = nI (n / 4) := ush 2 2 (by decide) (by omega)
  have h2 : nI (n / 4) &&& (858993459 : Int32) = nI (Nat.land (n / 4) 858993459) := fa_and (n / 4) 858993459
  have h3 : nI n &&& (858993459 : Int32) = nI (Nat.land n 858993459) := fa_and n 858993459
  have h4 : Nat.land (n / 4) 858993459 ≤ n / 4 := land_le _ _
  have h5 : Nat.land n 858993459 ≤ n := land_le _ _
  refine ⟨?_, ?_⟩
  · unfold pc2
    rw [h1, h2, h3, nI_add]
    rfl
  · show Nat.land n 858993459 + Nat.land (n / 4) 858993459 < 131072
    omega
theorem pc3_n {n : Nat} (h : n < 131072) : pc3 (nI n) = nI (qc3 n) ∧ qc3 n < 262144 := by
  have h1 : pu (nI n) 4 = nI (n / 16) := ush 4 4 (by decide) (by omega)
  have h2 : nI (n + n / 16) &&& (252645135 : Int32) = nI (Nat.land (n + n / 16) 252645135) := fa_and (n + n / 16) 252645135
  have h3 : Nat.land (n + n / 16) 252645135 ≤ n + n / 16 := land_le _ _
  refine ⟨?_, ?_⟩
  · unfold pc3
    rw [h1, nI_add, h2]
    rfl
  · show Nat.land (n + n / 16) 252645135 < 262144
    omega
theorem pc4_n {n : Nat} (h : n < 262144) : pc4 (nI n) = nI (qc4 n) ∧ qc4 n < 524288 := by
  have h1 : pu (nI n) 8 = nI (n / 256) := ush 8 8 (by decide) (by omega)
  refine ⟨?_, ?_⟩
  · unfold pc4
    rw [h1, nI_add]
    rfl
  · show n + n / 256 < 524288
    omega
theorem pc5_n {n : Nat} (h : n < 524288) : pc5 (nI n) = nI (qc5 n) := by
  have h1 : pu (nI n) 16 = nI (n / 65536) := ush 16 16 (by decide) (by omega)
  unfold pc5
  rw [h1, nI_add]
  rfl
theorem pcJ_n {n : Nat} (h : n < 65536) : pcJ (nI n) = nI (qcJ n) := by
  unfold pcJ
  rw [(pc1_n h).1, (pc2_n (pc1_n h).2).1, (pc3_n (pc2_n (pc1_n h).2).2).1, (pc4_n (pc3_n (pc2_n (pc1_n h).2).2).2).1, pc5_n (pc4_n (pc3_n (pc2_n (pc1_n h).2).2).2).2]
  exact fa_and _ 63
def pop8 (n : Nat) : Nat := Nat.add (Nat.add (Nat.add (Nat.mod n 2) (Nat.mod (Nat.div n 2) 2)) (Nat.add (Nat.mod (Nat.div n 4) 2) (Nat.mod (Nat.div n 8) 2))) (Nat.add (Nat.add (Nat.mod (Nat.div n 16) 2) (Nat.mod (Nat.div n 32) 2)) (Nat.add (Nat.mod (Nat.div n 64) 2) (Nat.mod (Nat.div n 128) 2)))
set_option maxRecDepth 100000 in
theorem qc_ok : ∀ a, a < 256 → ∀ b, b < 256 → qcJ (Nat.add (Nat.mul 256 a) b) = Nat.add (pop8 a) (pop8 b) := by decide +kernel
theorem bt_nI (n : Nat) {i : Nat} (hi : i < 32) : bt (nI n) i = n.testBit i := by
  show (BitVec.ofNat 32 n).getLsbD i = _
  rw [BitVec.getLsbD_ofNat]
  simp [hi]
theorem pop8_ct (n : Nat) : pop8 n = fb_ct (fun i => n.testBit i) 8 := by
  have h : ∀ i, (if n.testBit i = true then 1 else 0) = n / 2 ^ i % 2 := by
    intro i
    rw [Nat.testBit_eq_decide_div_mod_eq]
    by_cases q : n / 2 ^ i % 2 = 1
    · simp [q]
    · have : n / 2 ^ i % 2 = 0 := by omega
      simp [this]
  simp only [fb_ct, h]
  show n % 2 + n / 2 % 2 + (n / 4 % 2 + n / 8 % 2) + (n / 16 % 2 + n / 32 % 2 + (n / 64 % 2 + n / 128 % 2)) = _
  simp only [Nat.pow_zero, Nat.div_one]
  omega
theorem pc_ok {x : Int32} (h : ∀ i, 16 ≤ i → bt x i = false) : pcJ x = nI (fb_ct (bt x) 16) := by
  obtain ⟨n, hn, hx⟩ := nx_mask x
  have e : x &&& 65535 = x := by
    apply b_ext
    intro i hi
    rw [b_and, b_65535]
    rcases Nat.lt_or_ge i 16 with q | q
    · simp [q]
    · rw [h i q]; rfl
  rw [e] at hx
  subst hx
  rw [pcJ_n hn]
  congr 1
  have h1 := qc_ok (n / 256) (by omega) (n % 256) (by omega)
  have h2 : Nat.add (Nat.mul 256 (n / 256)) (n % 256) = n := by show 256 * (n / 256) + n % 256 = n; omega
  rw [h2] at h1
  rw [h1, pop8_ct, pop8_ct]
  show fb_ct (fun i => (n / 256).testBit i) 8 + fb_ct (fun i => (n % 256).testBit i) 8 = _
  rw [show (16 : Nat) = 8 + 8 from rfl, fb_ct_split, Nat.add_comm]
  congr 1
  · apply fb_ct_cong
    intro k hk
    rw [bt_nI n (by omega), show (256 : Nat) = 2 ^ 8 from rfl, Nat.testBit_mod_two_pow]
    simp [hk]
  · apply fb_ct_cong
    intro k hk
    rw [bt_nI n (by omega), show (256 : Nat) = 2 ^ 8 from rfl, Nat.testBit_div_two_pow, Nat.add_comm]
theorem AND_lo {x y : Int32} (h : ∀ i, 16 ≤ i → bt x i = false) : ∀ i, 16 ≤ i → bt (x &&& y) i = false := by
  intro i hi
  rw [b_and, h i hi]
  rfl

set_option maxHeartbeats 4000000 in
set_option maxRecDepth 100000 in
theorem zJ6_bitCount_0f7a4 {g : aG} {l : Launch} {σ : aS} (x : Int32) : CN g l yJ6_bitCount_0f7a4 wsJ6_bitCount_0f7a4 0 0 [.int x] σ (some (.int (pcJ x))) σ := by
  refine cn_of (cc := cJ6_bitCount_0f7a4) (nL := 1) (ret := (some .int)) (own := RJ6) (by decide +kernel) rfl rfl (Nat.le_of_ble_eq_true rfl) (fun K hg hl hK hE => ?_)
  subst hg; subst hl
  show AW K 0 [some (.int x)] [] σ
  refine s_iload0 hK dJ6_bitCount_0f7a4_0 ?_
  refine s_iload0 hK dJ6_bitCount_0f7a4_1 ?_
  refine s_iconst (v := 1) hK dJ6_bitCount_0f7a4_2 (by decide) ?_
  refine s_iushr hK dJ6_bitCount_0f7a4_3 ?_
  refine s_ldcw (v := 1431655765) hK dJ6_bitCount_0f7a4_4 (by decide +kernel) ?_
  refine s_iand hK dJ6_bitCount_0f7a4_7 ?_
  refine s_isub hK dJ6_bitCount_0f7a4_8 ?_
  refine s_istore0 hK dJ6_bitCount_0f7a4_9 ?_
  refine s_iload0 hK dJ6_bitCount_0f7a4_10 ?_
  refine s_ldcw (v := 858993459) hK dJ6_bitCount_0f7a4_11 (by decide +kernel) ?_
  refine s_iand hK dJ6_bitCount_0f7a4_14 ?_
  refine s_iload0 hK dJ6_bitCount_0f7a4_15 ?_
  refine s_iconst (v := 2) hK dJ6_bitCount_0f7a4_16 (by decide) ?_
  refine s_iushr hK dJ6_bitCount_0f7a4_17 ?_
  refine s_ldcw (v := 858993459) hK dJ6_bitCount_0f7a4_18 (by decide +kernel) ?_
  refine s_iand hK dJ6_bitCount_0f7a4_21 ?_
  refine s_iadd hK dJ6_bitCount_0f7a4_22 ?_
  refine s_istore0 hK dJ6_bitCount_0f7a4_23 ?_
  refine s_iload0 hK dJ6_bitCount_0f7a4_24 ?_
  refine s_iload0 hK dJ6_bitCount_0f7a4_25 ?_
  refine s_iconst (v := 4) hK dJ6_bitCount_0f7a4_26 (by decide) ?_
  refine s_iushr hK dJ6_bitCount_0f7a4_27 ?_
  refine s_iadd hK dJ6_bitCount_0f7a4_28 ?_
  refine s_ldcw (v := 252645135) hK dJ6_bitCount_0f7a4_29 (by decide +kernel) ?_
  refine s_iand hK dJ6_bitCount_0f7a4_32 ?_
  refine s_istore0 hK dJ6_bitCount_0f7a4_33 ?_
  refine s_iload0 hK dJ6_bitCount_0f7a4_34 ?_
  refine s_iload0 hK dJ6_bitCount_0f7a4_35 ?_
  refine s_bipush (v := 8) hK dJ6_bitCount_0f7a4_36 (by decide) ?_
  refine s_iushr hK dJ6_bitCount_0f7a4_38 ?_
  refine s_iadd hK dJ6_bitCount_0f7a4_39 ?_
  refine s_istore0 hK dJ6_bitCount_0f7a4_40 ?_
  refine s_iload0 hK dJ6_bitCount_0f7a4_41 ?_
  refine s_iload0 hK dJ6_bitCount_0f7a4_42 ?_
  refine s_bipush (v := 16) hK dJ6_bitCount_0f7a4_43 (by decide) ?_
  refine s_iushr hK dJ6_bitCount_0f7a4_45 ?_
  refine s_iadd hK dJ6_bitCount_0f7a4_46 ?_
  refine s_istore0 hK dJ6_bitCount_0f7a4_47 ?_
  refine s_iload0 hK dJ6_bitCount_0f7a4_48 ?_
  refine s_bipush (v := 63) hK dJ6_bitCount_0f7a4_49 (by decide) ?_
  refine s_iand hK dJ6_bitCount_0f7a4_51 ?_
  exact s_iret hK hE dJ6_bitCount_0f7a4_52 rfl (rfl) (rfl)
/-- loops over a counter: from k to N -/
theorem up_to (P : Nat → Prop) (N : Nat) (h0 : P N) (hs : ∀ k, k < N → P (k + 1) → P k) : P 0 := by
  have h : ∀ n k, k + n = N → P k := by
    intro n
    induction n with
    | zero => intro k hk; rw [show k = N by omega]; exact h0
    | succ n ih => intro k hk; exact hs k (by omega) (ih (k + 1) (by omega))
  exact h N 0 (by omega)
theorem ge_N {k N : Nat} {x y : Int32} (hx : x = nI k) (hy : y = nI N) (h : k < N) (hN : N < 2 ^ 31) : ¬ y ≤ x := by
  rw [hx, hy]
  exact nI_ge h hN
theorem ge_E {N : Nat} {x y : Int32} (hx : x = nI N) (hy : y = nI N) : y ≤ x := by
  rw [hx, hy]
  exact Int32.le_refl _
theorem cl_nI {k : Nat} (h : k < 2 ^ 31) : (nI k).toNatClampNeg = k := nI_clamp h
set_option maxHeartbeats 4000000 in
set_option maxRecDepth 100000 in
theorem zX1_size {g : aG} {l : Launch} {σ : aS} (c : Nat) (hc : kd c = 1) (hw : wR σ (c + 4)) : CN g l yX1_size wsX1_size 1 20 [.ref c] σ (some (.int (nI (ct (px σ (c + 4)))))) σ := by
  refine cn_of (cc := cX1_size) (nL := 3) (ret := (some .int)) (own := RX1) (by decide +kernel) rfl rfl (Nat.le_of_ble_eq_true rfl) (fun K hg hl hK hE => ?_)
  subst hg; subst hl
  have i_1 : ∀ w ∈ u_ws RX1 TX1 1, w ∈ wsX1_size := by decide +kernel
  show AW K 0 [some (.ref c), none, none] [] σ
  have hx : AW K 4 [some (.ref c), some (.int (nI (fb_ct (px σ (c + 4)) (16 * 12)))), some (.int (nI 12))] [] σ := by
    refine s_iload2 hK dX1_size_4 ?_
    refine s_bipush (v := 12) hK dX1_size_5 (by decide) ?_
    refine s_icmp_ge (tgt := 28) hK dX1_size_7 (by decide) (fun c_7 => ?_) (fun c_7 => absurd c_7 (fun q => q (ge_E rfl rfl)))
    refine s_iload1 hK dX1_size_28 ?_
    exact s_iret hK hE dX1_size_29 rfl (rfl) (rfl)
  have hb : ∀ k, k < 12 → AW K 4 [some (.ref c), some (.int (nI (fb_ct (px σ (c + 4)) (16 * (k + 1))))), some (.int (nI (k + 1)))] [] σ → AW K 4 [some (.ref c), some (.int (nI (fb_ct (px σ (c + 4)) (16 * k)))), some (.int (nI k))] [] σ := by
    intro k hk ih
    refine s_iload2 hK dX1_size_4 ?_
    refine s_bipush (v := 12) hK dX1_size_5 (by decide) ?_
    refine s_icmp_ge (tgt := 28) hK dX1_size_7 (by decide) (fun c_7 => absurd c_7 (ge_N rfl rfl hk (by decide))) (fun c_7 => ?_)
    refine s_iload1 hK dX1_size_10 ?_
    refine s_aload0 hK dX1_size_11 ?_
    refine s_getr (ci := 1) (k := 0) hK hc rfl i_1 (by decide +kernel) dX1_size_12 (by decide) (by decide) (by decide) rfl rfl (rf_1_0 hc) ?_
    refine s_iload2 hK dX1_size_15 ?_
    refine s_iald hK (kC hc) (by rw [lC hc]; exact vp_in_nI hk (by decide)) dX1_size_16 ?_
    refine s_callS hK mdJ6_bitCount_0f7a4 (zJ6_bitCount_0f7a4 _) gX1_size_J6_bitCount_0f7a4 rfl ⟨Nat.le_of_ble_eq_true rfl, Nat.le_of_ble_eq_true rfl⟩ rfl (Nat.le_of_ble_eq_true rfl) dX1_size_17 ?_
    try dsimp only [Option.toList, List.cons_append, List.nil_append]
    refine s_iadd hK dX1_size_20 ?_
    refine s_istore1 hK dX1_size_21 ?_
    refine s_iinc2 hK dX1_size_22 (hv_1 _) ?_
    refine s_goto (tgt := 4) hK dX1_size_25 (by decide) ?_
    exact AW.to ih (by rw [cl_nI (by omega), pc_ok (hw k hk), nI_add, nI_1, Nat.mul_succ, fb_ct_split, show fb_ct (bt (σ (c + 4) k)) 16 = fb_ct (fun i => px σ (c + 4) (16 * k + i)) 16 from fb_ct_cong (fun i hi => (px_at σ (c + 4) k hi).symm)]) rfl
  refine s_iconst (v := 0) hK dX1_size_0 (by decide) ?_
  refine s_istore1 hK dX1_size_1 ?_
  refine s_iconst (v := 0) hK dX1_size_2 (by decide) ?_
  refine s_istore2 hK dX1_size_3 ?_
  exact up_to (fun k => AW K 4 [some (.ref c), some (.int (nI (fb_ct (px σ (c + 4)) (16 * k)))), some (.int (nI k))] [] σ) 12 hx hb
