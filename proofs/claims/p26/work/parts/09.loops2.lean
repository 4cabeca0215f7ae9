theorem ixN (y x : Nat) : nI y * 16 + nI x = nI (16 * y + x) := by
  rw [show (16 : Int32) = nI 16 from rfl, pk_mul, nI_add, Nat.mul_comm]
theorem hs_sP_ne {σ : aS} {a o : Nat} {f : Nat → Int32} (h : a ≠ o) (x y : Int32) : hs (sP σ o f) a x y = hs σ a x y := by simp [hs, sP_ne h]
theorem nb_sP_ne {σ : aS} {a o : Nat} {f : Nat → Int32} (h : a ≠ o) (x y : Int32) : nb (sP σ o f) a x y = nb σ a x y := by simp [nb, hs_sP_ne h]
theorem hs_nI (σ : aS) (a : Nat) {x y : Nat} (hx : x < 16) (hy : y < 12) : hs σ a (nI x) (nI y) = px σ a (16 * y + x) := by
  unfold hs
  rw [pl_nI hx hy, px_at _ _ _ hx, cl_nI (by omega), cl_nI (by omega), Bool.true_and]
theorem pR_nI (σ : aS) (a : Nat) {k : Nat} (hk : k < 12) (v : Int32) : pR σ a (nI k) v = sP σ a (upd (σ a) k (v &&& 65535)) := by
  have a1 : ¬ nI k < 0 := nI_pos (by omega)
  have a2 : ¬ (12 : Int32) ≤ nI k := nI_ge (b := 12) hk (by decide)
  simp [pR, a1, a2, cl_nI (show k < 2 ^ 31 by omega)]
theorem fill_skip {f g : Nat → Int32} {n : Nat} (h : f n = g n) : fa_fill f g (n + 1) = fa_fill f g n := by
  rw [← fa_fill_succ, h]
  exact fa_upd_same (fa_fill_out (Nat.le_refl n))
def cNt (σ : aS) (a co li : Nat) : Nat → aS
  | 0 => bL σ a co
  | t + 1 => gIn (cNt σ a co li t) a li
def cAn (σ : aS) (b t : Nat) : aS :=
  let σ1 := bL σ (b + 3 + 4) (b + 2 + 4)
  let σ2 := sP σ1 (b + 9) (fa_fill (fun _ => 0) (σ1 (b + 9)) 192)
  cNt σ2 (b + 4 + 4) (b + 1 + 4) (b + 2 + 4) t
def wo (σ : aS) (b : Nat) (h : Int32) (y : Nat) : Nat → Int32
  | 0 => 0
  | x + 1 => wo σ b h y x ||| (on (if σ (b + 9) (16 * y + x) ≤ h then 0 else 1) <<< (nI x &&& 31))
def ik (σ : aS) (b : Nat) (h : Int32) (y : Nat) : Int32 := (σ (b + 3 + 4) y &&& (wo σ b h y 16 ^^^ (-1))) &&& 65535
def fI (σ : aS) (b c : Nat) (h : Int32) : aS := sP σ (c + 4) (fa_fill (ik σ b h) (σ (c + 4)) 12)
def fx1 (σ : aS) (b : Nat) (kind x y : Int32) : aS := pt (pt σ (b + 1 + 4) x y (if kind = 1 then 1 else 0)) (b + 2 + 4) x y (if kind = 2 then 1 else 0)
def fR (b : Nat) (kind y : Int32) (x0 : Nat) (p : aS × Int32) : Nat → aS × Int32
  | 0 => p
  | n + 1 => (fx1 (fR b kind y x0 p n).1 b kind (nI (x0 + n)) y, (fR b kind y x0 p n).2 + on (if kA (fR b kind y x0 p n).1 b (nI (x0 + n)) y = kind then 0 else 1))
def fA (b : Nat) (kind : Int32) (x0 y0 wd : Nat) (p : aS × Int32) : Nat → aS × Int32
  | 0 => p
  | m + 1 => fR b kind (nI (y0 + m)) x0 (fA b kind x0 y0 wd p m) wd
def wd (σ : aS) (b c k : Nat) : Int32 := if px σ (c + 4) k = true then σ (b + 9) k + (5 - nb σ (c + 4) (nI (k % 16)) (nI (k / 16))) else σ (b + 9) k
def wDn (σ : aS) (b c : Nat) : aS := sP σ (b + 9) (fa_fill (wd σ b c) (σ (b + 9)) 192)
def eO (σ : aS) (c k : Nat) : Int32 := 5 - nb σ (c + 4) (nI (k % 16)) (nI (k / 16))
def pW (σ : aS) (b c : Nat) (h : Int32) : Nat → Int32
  | 0 => 501
  | n + 1 => if px σ (c + 4) n = true ∧ ¬ eO σ c n ≤ 0 then (if (h - σ (b + 9) n) / eO σ c n + 1 < pW σ b c h n then (h - σ (b + 9) n) / eO σ c n + 1 else pW σ b c h n) else pW σ b c h n
theorem ne0_of_nle {x : Int32} (h : ¬ x ≤ 0) : ¬ x = 0 := fun e => h (by rw [e]; exact Int32.le_refl _)
theorem pW_no {σ : aS} {b c : Nat} {h : Int32} {n : Nat} (q : px σ (c + 4) n = false) : pW σ b c h (n + 1) = pW σ b c h n := if_neg (fun z => by rw [q] at z; cases z.1)
theorem pW_z {σ : aS} {b c : Nat} {h : Int32} {n : Nat} (q : eO σ c n ≤ 0) : pW σ b c h (n + 1) = pW σ b c h n := if_neg (fun z => z.2 q)
theorem pW_y {σ : aS} {b c : Nat} {h : Int32} {n : Nat} (q : px σ (c + 4) n = true) (q2 : ¬ eO σ c n ≤ 0) : pW σ b c h (n + 1) = (if (h - σ (b + 9) n) / eO σ c n + 1 < pW σ b c h n then (h - σ (b + 9) n) / eO σ c n + 1 else pW σ b c h n) := if_pos ⟨q, q2⟩
set_option maxHeartbeats 4000000 in
set_option maxRecDepth 100000 in
theorem zJ7_fill_53178 {g : aG} {l : Launch} {σ : aS} (o n : Nat) (v : Int32) (ho : kd o = 8) (hn : ln o = n) (hN : n < 2 ^ 31) : CN g l yJ7_fill_53178 wsJ7_fill_53178 0 0 [.ref o, .int v] σ none (sP σ o (fa_fill (fun _ => v) (σ o) n)) := by
  refine cn_of (cc := cJ7_fill_53178) (nL := 4) (ret := none) (own := RJ7) (by decide +kernel) rfl rfl (Nat.le_of_ble_eq_true rfl) (fun K hg hl hK hE => ?_)
  subst hg; subst hl
  show AW K 0 [some (.ref o), some (.int v), none, none] [] σ
  have hx1 : AW K 5 [some (.ref o), some (.int v), some (.int (nI n)), some (.int (nI n))] [] (sP σ o (fa_fill (fun _ => v) (σ o) n)) := by
    refine s_iload2 hK dJ7_fill_53178_5 ?_
    refine s_iload3 hK dJ7_fill_53178_6 ?_
    refine s_icmp_ge (tgt := 20) hK dJ7_fill_53178_7 (by decide) (fun c_7 => ?_) (fun c_7 => absurd c_7 (fun q => q (ge_E rfl rfl)))
    exact s_vret hK hE dJ7_fill_53178_20 (rfl)
  have hb1 : ∀ k1 : Nat, k1 < n → AW K 5 [some (.ref o), some (.int v), some (.int (nI (k1 + 1))), some (.int (nI n))] [] (sP σ o (fa_fill (fun _ => v) (σ o) (k1 + 1))) → AW K 5 [some (.ref o), some (.int v), some (.int (nI k1)), some (.int (nI n))] [] (sP σ o (fa_fill (fun _ => v) (σ o) k1)) := by
    intro k1 hk1 ih1 
    refine s_iload2 hK dJ7_fill_53178_5 ?_
    refine s_iload3 hK dJ7_fill_53178_6 ?_
    refine s_icmp_ge (tgt := 20) hK dJ7_fill_53178_7 (by decide) (fun c_7 => absurd c_7 (ge_N rfl rfl hk1 hN)) (fun c_7 => ?_)
    refine s_aload0 hK dJ7_fill_53178_10 ?_
    refine s_iload2 hK dJ7_fill_53178_11 ?_
    refine s_iload1 hK dJ7_fill_53178_12 ?_
    refine s_iast hK ho (by rw [hn]; exact vp_in_nI hk1 hN) dJ7_fill_53178_13 ?_
    rw [sP_sP, sP_same, cl_nI (show k1 < 2 ^ 31 by omega)]
    refine s_iinc2 hK dJ7_fill_53178_14 (hv_1 _) ?_
    refine s_goto (tgt := 5) hK dJ7_fill_53178_17 (by decide) ?_
    exact AW.to ih1 (by rw [nI_1]) (by rw [← fa_fill_succ])
  refine s_iconst (v := 0) hK dJ7_fill_53178_0 (by decide) ?_
  refine s_istore2 hK dJ7_fill_53178_1 ?_
  refine s_aload0 hK dJ7_fill_53178_2 ?_
  refine s_alen hK ho hn dJ7_fill_53178_3 ?_
  refine s_istore3 hK dJ7_fill_53178_4 ?_
  exact AW.to (up_to (fun k => AW K 5 [some (.ref o), some (.int v), some (.int (nI k)), some (.int (nI n))] [] (sP σ o (fa_fill (fun _ => v) (σ o) k))) n hx1 hb1) (rfl) (by rw [fa_fill_0, sP_id])
set_option maxHeartbeats 4000000 in
set_option maxRecDepth 100000 in
theorem zX0_cutColour {g : aG} {l : Launch} {σ : aS} (b c t : Nat) (ht : t ≤ 4) (hb : kd b = 0) (hc : kd c = 1) (hne : b + 2 + 4 ≠ c + 4) : CN g l yX0_cutColour wsX0_cutColour 2 47 [.ref b, .ref c, .int (nI t)] σ none (cNt σ (c + 4) (b + 1 + 4) (b + 2 + 4) t) := by
  refine cn_of (cc := cX0_cutColour) (nL := 4) (ret := none) (own := RX0) (by decide +kernel) rfl rfl (Nat.le_of_ble_eq_true rfl) (fun K hg hl hK hE => ?_)
  subst hg; subst hl
  have i_0 : ∀ w ∈ u_ws RX0 TX0 5, w ∈ wsX0_cutColour := by decide +kernel
  show AW K 0 [some (.ref b), some (.ref c), some (.int (nI t)), none] [] σ
  have hx1 : AW K 10 [some (.ref b), some (.ref c), some (.int (nI t)), some (.int (nI t))] [] (cNt σ (c + 4) (b + 1 + 4) (b + 2 + 4) t) := by
    refine s_iload3 hK dX0_cutColour_10 ?_
    refine s_iload2 hK dX0_cutColour_11 ?_
    refine s_icmp_ge (tgt := 29) hK dX0_cutColour_12 (by decide) (fun c_12 => ?_) (fun c_12 => absurd c_12 (fun q => q (ge_E rfl rfl)))
    exact s_vret hK hE dX0_cutColour_29 (rfl)
  have hb1 : ∀ k1 : Nat, k1 < t → AW K 10 [some (.ref b), some (.ref c), some (.int (nI t)), some (.int (nI (k1 + 1)))] [] (cNt σ (c + 4) (b + 1 + 4) (b + 2 + 4) (k1 + 1)) → AW K 10 [some (.ref b), some (.ref c), some (.int (nI t)), some (.int (nI k1))] [] (cNt σ (c + 4) (b + 1 + 4) (b + 2 + 4) k1) := by
    intro k1 hk1 ih1 
    refine s_iload3 hK dX0_cutColour_10 ?_
    refine s_iload2 hK dX0_cutColour_11 ?_
    refine s_icmp_ge (tgt := 29) hK dX0_cutColour_12 (by decide) (fun c_12 => absurd c_12 (ge_N rfl rfl hk1 (by omega))) (fun c_12 => ?_)
    refine s_aload1 hK dX0_cutColour_15 ?_
    refine s_aload0 hK dX0_cutColour_16 ?_
    refine s_getr (ci := 0) (k := 1) hK hb rfl i_0 (by decide +kernel) dX0_cutColour_17 (by decide) (by decide) (by decide) rfl rfl (rf_0_1 hb) ?_
    refine s_callV (ci := 1) hK mdX1_growInto (zX1_growInto c (b + 2) hc (kB2 hb) hne) gX0_cutColour_X1_growInto hc rfl rfl (by decide) rfl ⟨Nat.le_of_ble_eq_true rfl, Nat.le_of_ble_eq_true rfl⟩ rfl (Nat.le_of_ble_eq_true rfl) dX0_cutColour_20 ?_
    try dsimp only [Option.toList, List.cons_append, List.nil_append]
    refine s_iinc3 hK dX0_cutColour_23 (hv_1 _) ?_
    refine s_goto (tgt := 10) hK dX0_cutColour_26 (by decide) ?_
    exact AW.to ih1 (by rw [nI_1]) (rfl)
  refine s_aload1 hK dX0_cutColour_0 ?_
  refine s_aload0 hK dX0_cutColour_1 ?_
  refine s_getr (ci := 0) (k := 0) hK hb rfl i_0 (by decide +kernel) dX0_cutColour_2 (by decide) (by decide) (by decide) rfl rfl (rf_0_0 hb) ?_
  refine s_callV (ci := 1) hK mdX1_becomeLike (zX1_becomeLike c (b + 1) hc (kB1 hb)) gX0_cutColour_X1_becomeLike hc rfl rfl (by decide) rfl ⟨Nat.le_of_ble_eq_true rfl, Nat.le_of_ble_eq_true rfl⟩ rfl (Nat.le_of_ble_eq_true rfl) dX0_cutColour_5 ?_
  try dsimp only [Option.toList, List.cons_append, List.nil_append]
  refine s_iconst (v := 0) hK dX0_cutColour_8 (by decide) ?_
  refine s_istore3 hK dX0_cutColour_9 ?_
  exact AW.to (up_to (fun k => AW K 10 [some (.ref b), some (.ref c), some (.int (nI t)), some (.int (nI k))] [] (cNt σ (c + 4) (b + 1 + 4) (b + 2 + 4) k)) t hx1 hb1) (rfl) (rfl)
set_option maxHeartbeats 4000000 in
set_option maxRecDepth 100000 in
theorem zX0_cutAnew {g : aG} {l : Launch} {σ : aS} (b t : Nat) (ht : t ≤ 4) (hb : kd b = 0) : CN g l yX0_cutAnew wsX0_cutAnew 3 70 [.ref b, .int (nI t)] σ none (cAn σ b t) := by
  refine cn_of (cc := cX0_cutAnew) (nL := 2) (ret := none) (own := RX0) (by decide +kernel) rfl rfl (Nat.le_of_ble_eq_true rfl) (fun K hg hl hK hE => ?_)
  subst hg; subst hl
  have i_0 : ∀ w ∈ u_ws RX0 TX0 5, w ∈ wsX0_cutAnew := by decide +kernel
  show AW K 0 [some (.ref b), some (.int (nI t))] [] σ
  refine s_aload0 hK dX0_cutAnew_0 ?_
  refine s_getr (ci := 0) (k := 2) hK hb rfl i_0 (by decide +kernel) dX0_cutAnew_1 (by decide) (by decide) (by decide) rfl rfl (rf_0_2 hb) ?_
  refine s_aload0 hK dX0_cutAnew_4 ?_
  refine s_getr (ci := 0) (k := 1) hK hb rfl i_0 (by decide +kernel) dX0_cutAnew_5 (by decide) (by decide) (by decide) rfl rfl (rf_0_1 hb) ?_
  refine s_callV (ci := 1) hK mdX1_becomeLike (zX1_becomeLike (b + 3) (b + 2) (kB3 hb) (kB2 hb)) gX0_cutAnew_X1_becomeLike (kB3 hb) rfl rfl (by decide) rfl ⟨Nat.le_of_ble_eq_true rfl, Nat.le_of_ble_eq_true rfl⟩ rfl (Nat.le_of_ble_eq_true rfl) dX0_cutAnew_8 ?_
  try dsimp only [Option.toList, List.cons_append, List.nil_append]
  refine s_aload0 hK dX0_cutAnew_11 ?_
  refine s_getr (ci := 0) (k := 4) hK hb rfl i_0 (by decide +kernel) dX0_cutAnew_12 (by decide) (by decide) (by decide) rfl rfl (rf_0_4 hb) ?_
  refine s_iconst (v := 0) hK dX0_cutAnew_15 (by decide) ?_
  refine s_callS hK mdJ7_fill_53178 (zJ7_fill_53178 (b + 9) 192 0 (kBw hb) (lBw hb) (by decide)) gX0_cutAnew_J7_fill_53178 rfl ⟨Nat.le_of_ble_eq_true rfl, Nat.le_of_ble_eq_true rfl⟩ rfl (Nat.le_of_ble_eq_true rfl) dX0_cutAnew_16 ?_
  try dsimp only [Option.toList, List.cons_append, List.nil_append]
  refine s_aload0 hK dX0_cutAnew_19 ?_
  refine s_aload0 hK dX0_cutAnew_20 ?_
  refine s_getr (ci := 0) (k := 3) hK hb rfl i_0 (by decide +kernel) dX0_cutAnew_21 (by decide) (by decide) (by decide) rfl rfl (rf_0_3 hb) ?_
  refine s_iload1 hK dX0_cutAnew_24 ?_
  refine s_callV (ci := 0) hK mdX0_cutColour (zX0_cutColour b (b + 4) t ht hb (kB4 hb) (by omega)) gX0_cutAnew_X0_cutColour hb rfl rfl (by decide) rfl ⟨Nat.le_of_ble_eq_true rfl, Nat.le_of_ble_eq_true rfl⟩ rfl (Nat.le_of_ble_eq_true rfl) dX0_cutAnew_25 ?_
  try dsimp only [Option.toList, List.cons_append, List.nil_append]
  exact s_vret hK hE dX0_cutAnew_28 (rfl)
set_option maxHeartbeats 4000000 in
set_option maxRecDepth 100000 in
theorem zX0_findInk {g : aG} {l : Launch} {σ : aS} (b c : Nat) (h : Int32) (hb : kd b = 0) (hc : kd c = 1) (h73 : b + 3 + 4 ≠ c + 4) (h79 : b + 9 ≠ c + 4) : CN g l yX0_findInk wsX0_findInk 1 22 [.ref b, .ref c, .int h] σ none (fI σ b c h) := by
  refine cn_of (cc := cX0_findInk) (nL := 6) (ret := none) (own := RX0) (by decide +kernel) rfl rfl (Nat.le_of_ble_eq_true rfl) (fun K hg hl hK hE => ?_)
  subst hg; subst hl
  have i_0 : ∀ w ∈ u_ws RX0 TX0 5, w ∈ wsX0_findInk := by decide +kernel
  show AW K 0 [some (.ref b), some (.ref c), some (.int h), none, none, none] [] σ
  have hx1 : (∀ z4 : Option Value, ∀ z5 : Option Value, AW K 2 [some (.ref b), some (.ref c), some (.int h), some (.int (nI 12)), z4, z5] [] (sP σ (c + 4) (fa_fill (ik σ b h) (σ (c + 4)) 12))) := by
    intro z4 z5
    refine s_iload3 hK dX0_findInk_2 ?_
    refine s_bipush (v := 12) hK dX0_findInk_3 (by decide) ?_
    refine s_icmp_ge (tgt := 83) hK dX0_findInk_5 (by decide) (fun c_5 => ?_) (fun c_5 => absurd c_5 (fun q => q (ge_E rfl rfl)))
    exact s_vret hK hE dX0_findInk_83 (rfl)
  have hb1 : ∀ k1 : Nat, k1 < 12 → (∀ z4 : Option Value, ∀ z5 : Option Value, AW K 2 [some (.ref b), some (.ref c), some (.int h), some (.int (nI (k1 + 1))), z4, z5] [] (sP σ (c + 4) (fa_fill (ik σ b h) (σ (c + 4)) (k1 + 1)))) → (∀ z4 : Option Value, ∀ z5 : Option Value, AW K 2 [some (.ref b), some (.ref c), some (.int h), some (.int (nI k1)), z4, z5] [] (sP σ (c + 4) (fa_fill (ik σ b h) (σ (c + 4)) k1))) := by
    intro k1 hk1 ih1 z4 z5
    have hx2 : AW K 14 [some (.ref b), some (.ref c), some (.int h), some (.int (nI k1)), some (.int (wo σ b h k1 16)), some (.int (nI 16))] [] (sP σ (c + 4) (fa_fill (ik σ b h) (σ (c + 4)) k1)) := by
      refine s_iload5 hK dX0_findInk_14 ?_
      refine s_bipush (v := 16) hK dX0_findInk_16 (by decide) ?_
      refine s_icmp_ge (tgt := 59) hK dX0_findInk_18 (by decide) (fun c_18 => ?_) (fun c_18 => absurd c_18 (fun q => q (ge_E rfl rfl)))
      refine s_aload1 hK dX0_findInk_59 ?_
      refine s_iload3 hK dX0_findInk_60 ?_
      refine s_aload0 hK dX0_findInk_61 ?_
      refine s_getr (ci := 0) (k := 2) hK hb rfl i_0 (by decide +kernel) dX0_findInk_62 (by decide) (by decide) (by decide) rfl rfl (rf_0_2 hb) ?_
      refine s_iload3 hK dX0_findInk_65 ?_
      refine s_callV (ci := 1) hK mdX1_row (zX1_row (b + 3) _ (kB3 hb)) gX0_findInk_X1_row (kB3 hb) rfl rfl (by decide) rfl ⟨Nat.le_of_ble_eq_true rfl, Nat.le_of_ble_eq_true rfl⟩ rfl (Nat.le_of_ble_eq_true rfl) dX0_findInk_66 ?_
      try dsimp only [Option.toList, List.cons_append, List.nil_append]
      rw [rw_nI _ _ hk1, sP_ne h73]
      refine s_iload4 hK dX0_findInk_69 ?_
      refine s_iconst (v := -1) hK dX0_findInk_71 (by decide) ?_
      refine s_ixor hK dX0_findInk_72 ?_
      refine s_iand hK dX0_findInk_73 ?_
      refine s_callV (ci := 1) hK mdX1_putRow (zX1_putRow c _ _ hc) gX0_findInk_X1_putRow hc rfl rfl (by decide) rfl ⟨Nat.le_of_ble_eq_true rfl, Nat.le_of_ble_eq_true rfl⟩ rfl (Nat.le_of_ble_eq_true rfl) dX0_findInk_74 ?_
      try dsimp only [Option.toList, List.cons_append, List.nil_append]
      rw [pR_nI _ _ hk1, sP_sP, sP_same]
      refine s_iinc3 hK dX0_findInk_77 (hv_1 _) ?_
      refine s_goto (tgt := 2) hK dX0_findInk_80 (by decide) ?_
      exact AW.to (ih1 _ _) (by rw [nI_1]) (by rw [← fa_fill_succ]; rfl)
    have hb2 : ∀ k2 : Nat, k2 < 16 → AW K 14 [some (.ref b), some (.ref c), some (.int h), some (.int (nI k1)), some (.int (wo σ b h k1 (k2 + 1))), some (.int (nI (k2 + 1)))] [] (sP σ (c + 4) (fa_fill (ik σ b h) (σ (c + 4)) k1)) → AW K 14 [some (.ref b), some (.ref c), some (.int h), some (.int (nI k1)), some (.int (wo σ b h k1 k2)), some (.int (nI k2))] [] (sP σ (c + 4) (fa_fill (ik σ b h) (σ (c + 4)) k1)) := by
      intro k2 hk2 ih2 
      refine s_iload5 hK dX0_findInk_14 ?_
      refine s_bipush (v := 16) hK dX0_findInk_16 (by decide) ?_
      refine s_icmp_ge (tgt := 59) hK dX0_findInk_18 (by decide) (fun c_18 => absurd c_18 (ge_N rfl rfl hk2 (by decide))) (fun c_18 => ?_)
      refine s_iload4 hK dX0_findInk_21 ?_
      refine AW.cut (j := 44) (v := if σ (b + 9) (16 * k1 + k2) ≤ h then 0 else 1) (fun hJ_44 => ?_) ?_
      · refine s_aload0 hK dX0_findInk_23 ?_
        refine s_getr (ci := 0) (k := 4) hK hb rfl i_0 (by decide +kernel) dX0_findInk_24 (by decide) (by decide) (by decide) rfl rfl (rf_0_4 hb) ?_
        refine s_iload3 hK dX0_findInk_27 ?_
        refine s_bipush (v := 16) hK dX0_findInk_28 (by decide) ?_
        refine s_imul hK dX0_findInk_30 ?_
        refine s_iload5 hK dX0_findInk_31 ?_
        refine s_iadd hK dX0_findInk_33 ?_
        refine s_iald hK (kBw hb) (by rw [lBw hb, ixN]; exact vp_in_nI (by omega) (by decide)) dX0_findInk_34 ?_
        rw [ixN, cl_nI (show 16 * k1 + k2 < 2 ^ 31 by omega), sP_ne h79]
        refine s_iload2 hK dX0_findInk_35 ?_
        refine s_icmp_le (tgt := 43) hK dX0_findInk_36 (by decide) (fun c_36 => ?_) (fun c_36 => ?_)
        · refine s_iconst (v := 0) hK dX0_findInk_43 (by decide) ?_
          exact AW.vv hJ_44 (by simp [c_36])
        · refine s_iconst (v := 1) hK dX0_findInk_39 (by decide) ?_
          refine s_goto (tgt := 44) hK dX0_findInk_40 (by decide) ?_
          exact AW.vv hJ_44 (by simp [c_36])
      show AW K _ _ _ _
      refine s_callN (host := RX6) hK mdX6_oneIf (zX6_oneIf _) gX0_findInk_X6_oneIf_n53 (by decide +kernel) (by decide +kernel) (by decide +kernel) rfl ⟨Nat.le_of_ble_eq_true rfl, Nat.le_of_ble_eq_true rfl⟩ rfl (Nat.le_of_ble_eq_true rfl) dX0_findInk_44 ?_
      try dsimp only [Option.toList, List.cons_append, List.nil_append]
      refine s_iload5 hK dX0_findInk_47 ?_
      refine s_ishl hK dX0_findInk_49 ?_
      refine s_ior hK dX0_findInk_50 ?_
      refine s_istore4 hK dX0_findInk_51 ?_
      refine s_iinc5 hK dX0_findInk_53 (hv_1 _) ?_
      refine s_goto (tgt := 14) hK dX0_findInk_56 (by decide) ?_
      exact AW.to ih2 (by rw [nI_1]; rfl) (rfl)
    refine s_iload3 hK dX0_findInk_2 ?_
    refine s_bipush (v := 12) hK dX0_findInk_3 (by decide) ?_
    refine s_icmp_ge (tgt := 83) hK dX0_findInk_5 (by decide) (fun c_5 => absurd c_5 (ge_N rfl rfl hk1 (by decide))) (fun c_5 => ?_)
    refine s_iconst (v := 0) hK dX0_findInk_8 (by decide) ?_
    refine s_istore4 hK dX0_findInk_9 ?_
    refine s_iconst (v := 0) hK dX0_findInk_11 (by decide) ?_
    refine s_istore5 hK dX0_findInk_12 ?_
    exact AW.to (up_to (fun k => AW K 14 [some (.ref b), some (.ref c), some (.int h), some (.int (nI k1)), some (.int (wo σ b h k1 k)), some (.int (nI k))] [] (sP σ (c + 4) (fa_fill (ik σ b h) (σ (c + 4)) k1))) 16 hx2 hb2) (rfl) (rfl)
  refine s_iconst (v := 0) hK dX0_findInk_0 (by decide) ?_
  refine s_istore3 hK dX0_findInk_1 ?_
  exact AW.to (up_to (fun k => ∀ z4 : Option Value, ∀ z5 : Option Value, AW K 2 [some (.ref b), some (.ref c), some (.int h), some (.int (nI k)), z4, z5] [] (sP σ (c + 4) (fa_fill (ik σ b h) (σ (c + 4)) k))) 12 hx1 hb1 _ _) (rfl) (by rw [fa_fill_0, sP_id])
set_option maxHeartbeats 4000000 in
set_option maxRecDepth 100000 in
theorem zX0_fillArea {g : aG} {l : Launch} {σ : aS} (b x0 y0 wd ht : Nat) (kind : Int32) (hb : kd b = 0) (h1 : x0 + wd ≤ 16) (h2 : y0 + ht ≤ 12) : CN g l yX0_fillArea wsX0_fillArea 3 65 [.ref b, .int (nI x0), .int (nI y0), .int (nI wd), .int (nI ht), .int kind] σ (some (.int (fA b kind x0 y0 wd (σ, 0) ht).2)) (fA b kind x0 y0 wd (σ, 0) ht).1 := by
  refine cn_of (cc := cX0_fillArea) (nL := 9) (ret := (some .int)) (own := RX0) (by decide +kernel) rfl rfl (Nat.le_of_ble_eq_true rfl) (fun K hg hl hK hE => ?_)
  subst hg; subst hl
  have i_0 : ∀ w ∈ u_ws RX0 TX0 5, w ∈ wsX0_fillArea := by decide +kernel
  show AW K 0 [some (.ref b), some (.int (nI x0)), some (.int (nI y0)), some (.int (nI wd)), some (.int (nI ht)), some (.int kind), none, none, none] [] σ
  have hx1 : (∀ z8 : Option Value, AW K 6 [some (.ref b), some (.int (nI x0)), some (.int (nI y0)), some (.int (nI wd)), some (.int (nI ht)), some (.int kind), some (.int (fA b kind x0 y0 wd (σ, 0) ht).2), some (.int (nI (y0 + ht))), z8] [] ((fA b kind x0 y0 wd (σ, 0) ht).1)) := by
    intro z8
    refine s_iload7 hK dX0_fillArea_6 ?_
    refine s_iload2 hK dX0_fillArea_8 ?_
    refine s_iload4 hK dX0_fillArea_9 ?_
    refine s_iadd hK dX0_fillArea_11 ?_
    refine s_icmp_ge (tgt := 108) hK dX0_fillArea_12 (by decide) (fun c_12 => ?_) (fun c_12 => absurd c_12 (fun q => q (ge_E (N := y0 + ht) rfl (nI_add _ _))))
    refine s_iload6 hK dX0_fillArea_108 ?_
    exact s_iret hK hE dX0_fillArea_110 rfl (rfl) (rfl)
  have hb1 : ∀ k1 : Nat, k1 < ht → (∀ z8 : Option Value, AW K 6 [some (.ref b), some (.int (nI x0)), some (.int (nI y0)), some (.int (nI wd)), some (.int (nI ht)), some (.int kind), some (.int (fA b kind x0 y0 wd (σ, 0) (k1 + 1)).2), some (.int (nI (y0 + (k1 + 1)))), z8] [] ((fA b kind x0 y0 wd (σ, 0) (k1 + 1)).1)) → (∀ z8 : Option Value, AW K 6 [some (.ref b), some (.int (nI x0)), some (.int (nI y0)), some (.int (nI wd)), some (.int (nI ht)), some (.int kind), some (.int (fA b kind x0 y0 wd (σ, 0) k1).2), some (.int (nI (y0 + k1))), z8] [] ((fA b kind x0 y0 wd (σ, 0) k1).1)) := by
    intro k1 hk1 ih1 z8
    have hx2 : AW K 18 [some (.ref b), some (.int (nI x0)), some (.int (nI y0)), some (.int (nI wd)), some (.int (nI ht)), some (.int kind), some (.int (fR b kind (nI (y0 + k1)) x0 (fA b kind x0 y0 wd (σ, 0) k1) wd).2), some (.int (nI (y0 + k1))), some (.int (nI (x0 + wd)))] [] ((fR b kind (nI (y0 + k1)) x0 (fA b kind x0 y0 wd (σ, 0) k1) wd).1) := by
      refine s_iload8 hK dX0_fillArea_18 ?_
      refine s_iload1 hK dX0_fillArea_20 ?_
      refine s_iload3 hK dX0_fillArea_21 ?_
      refine s_iadd hK dX0_fillArea_22 ?_
      refine s_icmp_ge (tgt := 102) hK dX0_fillArea_23 (by decide) (fun c_23 => ?_) (fun c_23 => absurd c_23 (fun q => q (ge_E (N := x0 + wd) rfl (nI_add _ _))))
      refine s_iinc7 hK dX0_fillArea_102 (hv_1 _) ?_
      refine s_goto (tgt := 6) hK dX0_fillArea_105 (by decide) ?_
      exact AW.to (ih1 _) (by rw [nI_1]; rfl) rfl
    have hb2 : ∀ k2 : Nat, k2 < wd → AW K 18 [some (.ref b), some (.int (nI x0)), some (.int (nI y0)), some (.int (nI wd)), some (.int (nI ht)), some (.int kind), some (.int (fR b kind (nI (y0 + k1)) x0 (fA b kind x0 y0 wd (σ, 0) k1) (k2 + 1)).2), some (.int (nI (y0 + k1))), some (.int (nI (x0 + (k2 + 1))))] [] ((fR b kind (nI (y0 + k1)) x0 (fA b kind x0 y0 wd (σ, 0) k1) (k2 + 1)).1) → AW K 18 [some (.ref b), some (.int (nI x0)), some (.int (nI y0)), some (.int (nI wd)), some (.int (nI ht)), some (.int kind), some (.int (fR b kind (nI (y0 + k1)) x0 (fA b kind x0 y0 wd (σ, 0) k1) k2).2), some (.int (nI (y0 + k1))), some (.int (nI (x0 + k2)))] [] ((fR b kind (nI (y0 + k1)) x0 (fA b kind x0 y0 wd (σ, 0) k1) k2).1) := by
      intro k2 hk2 ih2 
      refine s_iload8 hK dX0_fillArea_18 ?_
      refine s_iload1 hK dX0_fillArea_20 ?_
      refine s_iload3 hK dX0_fillArea_21 ?_
      refine s_iadd hK dX0_fillArea_22 ?_
      refine s_icmp_ge (tgt := 102) hK dX0_fillArea_23 (by decide) (fun c_23 => absurd c_23 (ge_N (k := x0 + k2) (N := x0 + wd) rfl (nI_add _ _) (by omega) (by omega))) (fun c_23 => ?_)
      refine s_iload6 hK dX0_fillArea_26 ?_
      refine AW.cut (j := 46) (v := if kA (fR b kind (nI (y0 + k1)) x0 (fA b kind x0 y0 wd (σ, 0) k1) k2).1 b (nI (x0 + k2)) (nI (y0 + k1)) = kind then 0 else 1) (fun hJ_46 => ?_) ?_
      · refine s_aload0 hK dX0_fillArea_28 ?_
        refine s_iload8 hK dX0_fillArea_29 ?_
        refine s_iload7 hK dX0_fillArea_31 ?_
        refine s_callV (ci := 0) hK mdX0_kindAt (zX0_kindAt b _ _ hb) gX0_fillArea_X0_kindAt hb rfl rfl (by decide) rfl ⟨Nat.le_of_ble_eq_true rfl, Nat.le_of_ble_eq_true rfl⟩ rfl (Nat.le_of_ble_eq_true rfl) dX0_fillArea_33 ?_
        try dsimp only [Option.toList, List.cons_append, List.nil_append]
        refine s_iload5 hK dX0_fillArea_36 ?_
        refine s_icmp_eq (tgt := 45) hK dX0_fillArea_38 (by decide) (fun c_38 => ?_) (fun c_38 => ?_)
        · refine s_iconst (v := 0) hK dX0_fillArea_45 (by decide) ?_
          exact AW.vv hJ_46 (by simp [c_38])
        · refine s_iconst (v := 1) hK dX0_fillArea_41 (by decide) ?_
          refine s_goto (tgt := 46) hK dX0_fillArea_42 (by decide) ?_
          exact AW.vv hJ_46 (by simp [c_38])
      show AW K _ _ _ _
      refine s_callN (host := RX6) hK mdX6_oneIf (zX6_oneIf _) gX0_fillArea_X6_oneIf_n53 (by decide +kernel) (by decide +kernel) (by decide +kernel) rfl ⟨Nat.le_of_ble_eq_true rfl, Nat.le_of_ble_eq_true rfl⟩ rfl (Nat.le_of_ble_eq_true rfl) dX0_fillArea_46 ?_
      try dsimp only [Option.toList, List.cons_append, List.nil_append]
      refine s_iadd hK dX0_fillArea_49 ?_
      refine s_istore6 hK dX0_fillArea_50 ?_
      refine s_aload0 hK dX0_fillArea_52 ?_
      refine s_getr (ci := 0) (k := 0) hK hb rfl i_0 (by decide +kernel) dX0_fillArea_53 (by decide) (by decide) (by decide) rfl rfl (rf_0_0 hb) ?_
      refine s_iload8 hK dX0_fillArea_56 ?_
      refine s_iload7 hK dX0_fillArea_58 ?_
      refine AW.cut (j := 71) (v := if kind = 1 then 1 else 0) (fun hJ_71 => ?_) ?_
      · refine s_iload5 hK dX0_fillArea_60 ?_
        refine s_iconst (v := 1) hK dX0_fillArea_62 (by decide) ?_
        refine s_icmp_ne (tgt := 70) hK dX0_fillArea_63 (by decide) (fun c_63 => ?_) (fun c_63 => ?_)
        · refine s_iconst (v := 0) hK dX0_fillArea_70 (by decide) ?_
          exact AW.vv hJ_71 (by simp [c_63])
        · refine s_iconst (v := 1) hK dX0_fillArea_66 (by decide) ?_
          refine s_goto (tgt := 71) hK dX0_fillArea_67 (by decide) ?_
          exact AW.vv hJ_71 (by simp [c_63])
      show AW K _ _ _ _
      refine s_callV (ci := 1) hK mdX1_put (zX1_put (b + 1) _ _ _ (kB1 hb)) gX0_fillArea_X1_put (kB1 hb) rfl rfl (by decide) rfl ⟨Nat.le_of_ble_eq_true rfl, Nat.le_of_ble_eq_true rfl⟩ rfl (Nat.le_of_ble_eq_true rfl) dX0_fillArea_71 ?_
      try dsimp only [Option.toList, List.cons_append, List.nil_append]
      refine s_aload0 hK dX0_fillArea_74 ?_
      refine s_getr (ci := 0) (k := 1) hK hb rfl i_0 (by decide +kernel) dX0_fillArea_75 (by decide) (by decide) (by decide) rfl rfl (rf_0_1 hb) ?_
      refine s_iload8 hK dX0_fillArea_78 ?_
      refine s_iload7 hK dX0_fillArea_80 ?_
      refine AW.cut (j := 93) (v := if kind = 2 then 1 else 0) (fun hJ_93 => ?_) ?_
      · refine s_iload5 hK dX0_fillArea_82 ?_
        refine s_iconst (v := 2) hK dX0_fillArea_84 (by decide) ?_
        refine s_icmp_ne (tgt := 92) hK dX0_fillArea_85 (by decide) (fun c_85 => ?_) (fun c_85 => ?_)
        · refine s_iconst (v := 0) hK dX0_fillArea_92 (by decide) ?_
          exact AW.vv hJ_93 (by simp [c_85])
        · refine s_iconst (v := 1) hK dX0_fillArea_88 (by decide) ?_
          refine s_goto (tgt := 93) hK dX0_fillArea_89 (by decide) ?_
          exact AW.vv hJ_93 (by simp [c_85])
      show AW K _ _ _ _
      refine s_callV (ci := 1) hK mdX1_put (zX1_put (b + 2) _ _ _ (kB2 hb)) gX0_fillArea_X1_put (kB2 hb) rfl rfl (by decide) rfl ⟨Nat.le_of_ble_eq_true rfl, Nat.le_of_ble_eq_true rfl⟩ rfl (Nat.le_of_ble_eq_true rfl) dX0_fillArea_93 ?_
      try dsimp only [Option.toList, List.cons_append, List.nil_append]
      refine s_iinc8 hK dX0_fillArea_96 (hv_1 _) ?_
      refine s_goto (tgt := 18) hK dX0_fillArea_99 (by decide) ?_
      exact AW.to ih2 (by rw [nI_1]; rfl) (rfl)
    refine s_iload7 hK dX0_fillArea_6 ?_
    refine s_iload2 hK dX0_fillArea_8 ?_
    refine s_iload4 hK dX0_fillArea_9 ?_
    refine s_iadd hK dX0_fillArea_11 ?_
    refine s_icmp_ge (tgt := 108) hK dX0_fillArea_12 (by decide) (fun c_12 => absurd c_12 (ge_N (k := y0 + k1) (N := y0 + ht) rfl (nI_add _ _) (by omega) (by omega))) (fun c_12 => ?_)
    refine s_iload1 hK dX0_fillArea_15 ?_
    refine s_istore8 hK dX0_fillArea_16 ?_
    exact AW.to (up_to (fun k => AW K 18 [some (.ref b), some (.int (nI x0)), some (.int (nI y0)), some (.int (nI wd)), some (.int (nI ht)), some (.int kind), some (.int (fR b kind (nI (y0 + k1)) x0 (fA b kind x0 y0 wd (σ, 0) k1) k).2), some (.int (nI (y0 + k1))), some (.int (nI (x0 + k)))] [] ((fR b kind (nI (y0 + k1)) x0 (fA b kind x0 y0 wd (σ, 0) k1) k).1)) wd hx2 hb2) (rfl) (rfl)
  refine s_iconst (v := 0) hK dX0_fillArea_0 (by decide) ?_
  refine s_istore6 hK dX0_fillArea_1 ?_
  refine s_iload2 hK dX0_fillArea_3 ?_
  refine s_istore7 hK dX0_fillArea_4 ?_
  exact AW.to (up_to (fun k => ∀ z8 : Option Value, AW K 6 [some (.ref b), some (.int (nI x0)), some (.int (nI y0)), some (.int (nI wd)), some (.int (nI ht)), some (.int kind), some (.int (fA b kind x0 y0 wd (σ, 0) k).2), some (.int (nI (y0 + k))), z8] [] ((fA b kind x0 y0 wd (σ, 0) k).1)) ht hx1 hb1 _) (rfl) (rfl)
set_option maxHeartbeats 4000000 in
set_option maxRecDepth 100000 in
theorem zX0_wearDown {g : aG} {l : Launch} {σ : aS} (b c : Nat) (hb : kd b = 0) (hc : kd c = 1) (hne : c + 4 ≠ b + 9) : CN g l yX0_wearDown wsX0_wearDown 4 87 [.ref b, .ref c] σ none (wDn σ b c) := by
  refine cn_of (cc := cX0_wearDown) (nL := 4) (ret := none) (own := RX0) (by decide +kernel) rfl rfl (Nat.le_of_ble_eq_true rfl) (fun K hg hl hK hE => ?_)
  subst hg; subst hl
  have i_0 : ∀ w ∈ u_ws RX0 TX0 5, w ∈ wsX0_wearDown := by decide +kernel
  show AW K 0 [some (.ref b), some (.ref c), none, none] [] σ
  have hx1 : (∀ z3 : Option Value, AW K 2 [some (.ref b), some (.ref c), some (.int (nI 12)), z3] [] (sP σ (b + 9) (fa_fill (wd σ b c) (σ (b + 9)) (16 * 12)))) := by
    intro z3
    refine s_iload2 hK dX0_wearDown_2 ?_
    refine s_bipush (v := 12) hK dX0_wearDown_3 (by decide) ?_
    refine s_icmp_ge (tgt := 57) hK dX0_wearDown_5 (by decide) (fun c_5 => ?_) (fun c_5 => absurd c_5 (fun q => q (ge_E rfl rfl)))
    exact s_vret hK hE dX0_wearDown_57 (rfl)
  have hb1 : ∀ k1 : Nat, k1 < 12 → (∀ z3 : Option Value, AW K 2 [some (.ref b), some (.ref c), some (.int (nI (k1 + 1))), z3] [] (sP σ (b + 9) (fa_fill (wd σ b c) (σ (b + 9)) (16 * (k1 + 1))))) → (∀ z3 : Option Value, AW K 2 [some (.ref b), some (.ref c), some (.int (nI k1)), z3] [] (sP σ (b + 9) (fa_fill (wd σ b c) (σ (b + 9)) (16 * k1)))) := by
    intro k1 hk1 ih1 z3
    have hx2 : AW K 10 [some (.ref b), some (.ref c), some (.int (nI k1)), some (.int (nI 16))] [] (sP σ (b + 9) (fa_fill (wd σ b c) (σ (b + 9)) (16 * k1 + 16))) := by
      refine s_iload3 hK dX0_wearDown_10 ?_
      refine s_bipush (v := 16) hK dX0_wearDown_11 (by decide) ?_
      refine s_icmp_ge (tgt := 51) hK dX0_wearDown_13 (by decide) (fun c_13 => ?_) (fun c_13 => absurd c_13 (fun q => q (ge_E rfl rfl)))
      refine s_iinc2 hK dX0_wearDown_51 (hv_1 _) ?_
      refine s_goto (tgt := 2) hK dX0_wearDown_54 (by decide) ?_
      exact AW.to (ih1 _) (by rw [nI_1]) (by rw [Nat.mul_succ])
    have hb2 : ∀ k2 : Nat, k2 < 16 → AW K 10 [some (.ref b), some (.ref c), some (.int (nI k1)), some (.int (nI (k2 + 1)))] [] (sP σ (b + 9) (fa_fill (wd σ b c) (σ (b + 9)) (16 * k1 + (k2 + 1)))) → AW K 10 [some (.ref b), some (.ref c), some (.int (nI k1)), some (.int (nI k2))] [] (sP σ (b + 9) (fa_fill (wd σ b c) (σ (b + 9)) (16 * k1 + k2))) := by
      intro k2 hk2 ih2 
      refine s_iload3 hK dX0_wearDown_10 ?_
      refine s_bipush (v := 16) hK dX0_wearDown_11 (by decide) ?_
      refine s_icmp_ge (tgt := 51) hK dX0_wearDown_13 (by decide) (fun c_13 => absurd c_13 (ge_N rfl rfl hk2 (by decide))) (fun c_13 => ?_)
      refine s_aload1 hK dX0_wearDown_16 ?_
      refine s_iload3 hK dX0_wearDown_17 ?_
      refine s_iload2 hK dX0_wearDown_18 ?_
      refine s_callV (ci := 1) hK mdX1_has (zX1_has c _ _ hc) gX0_wearDown_X1_has hc rfl rfl (by decide) rfl ⟨Nat.le_of_ble_eq_true rfl, Nat.le_of_ble_eq_true rfl⟩ rfl (Nat.le_of_ble_eq_true rfl) dX0_wearDown_19 ?_
      try dsimp only [Option.toList, List.cons_append, List.nil_append]
      rw [hs_sP_ne hne, hs_nI _ _ hk2 hk1]
      refine s_if_eq (tgt := 45) hK dX0_wearDown_22 (by decide) (fun c_22 => ?_) (fun c_22 => ?_)
      · refine s_iinc3 hK dX0_wearDown_45 (hv_1 _) ?_
        refine s_goto (tgt := 10) hK dX0_wearDown_48 (by decide) ?_
        exact AW.to ih2 (by rw [nI_1]) (by first | (have q := b2n c_22; have e : wd σ b c (16 * k1 + k2) = σ (b + 9) (16 * k1 + k2) + (5 - nb σ (c + 4) (nI k2) (nI k1)) := (by simp only [wd, q, if_true, show (16 * k1 + k2) % 16 = k2 by omega, show (16 * k1 + k2) / 16 = k1 by omega]); rw [show 16 * k1 + (k2 + 1) = 16 * k1 + k2 + 1 by omega, ← fa_fill_succ, e, cl_nI (show 16 * k1 + k2 < 2 ^ 31 by omega)]; done) | (have q := b2y c_22; rw [show 16 * k1 + (k2 + 1) = 16 * k1 + k2 + 1 by omega, fill_skip (by simp [wd, q])]; done))
      · refine s_aload0 hK dX0_wearDown_25 ?_
        refine s_getr (ci := 0) (k := 4) hK hb rfl i_0 (by decide +kernel) dX0_wearDown_26 (by decide) (by decide) (by decide) rfl rfl (rf_0_4 hb) ?_
        refine s_iload2 hK dX0_wearDown_29 ?_
        refine s_bipush (v := 16) hK dX0_wearDown_30 (by decide) ?_
        refine s_imul hK dX0_wearDown_32 ?_
        refine s_iload3 hK dX0_wearDown_33 ?_
        refine s_iadd hK dX0_wearDown_34 ?_
        refine s_dup2 hK dX0_wearDown_35 ?_
        refine s_iald hK (kBw hb) (by rw [lBw hb, ixN]; exact vp_in_nI (by omega) (by decide)) dX0_wearDown_36 ?_
        rw [ixN, cl_nI (show 16 * k1 + k2 < 2 ^ 31 by omega), sP_same, fa_fill_out (Nat.le_refl _)]
        refine s_aload1 hK dX0_wearDown_37 ?_
        refine s_iload3 hK dX0_wearDown_38 ?_
        refine s_iload2 hK dX0_wearDown_39 ?_
        refine s_callS hK mdX0_wearOfPrint (zX0_wearOfPrint c _ _ hc) gX0_wearDown_X0_wearOfPrint rfl ⟨Nat.le_of_ble_eq_true rfl, Nat.le_of_ble_eq_true rfl⟩ rfl (Nat.le_of_ble_eq_true rfl) dX0_wearDown_40 ?_
        try dsimp only [Option.toList, List.cons_append, List.nil_append]
        rw [nb_sP_ne hne]
        refine s_iadd hK dX0_wearDown_43 ?_
        refine s_iast hK (kBw hb) (by rw [lBw hb]; exact vp_in_nI (by omega) (by decide)) dX0_wearDown_44 ?_
        rw [sP_sP, sP_same]
        refine s_iinc3 hK dX0_wearDown_45 (hv_1 _) ?_
        refine s_goto (tgt := 10) hK dX0_wearDown_48 (by decide) ?_
        exact AW.to ih2 (by rw [nI_1]) (by first | (have q := b2n c_22; have e : wd σ b c (16 * k1 + k2) = σ (b + 9) (16 * k1 + k2) + (5 - nb σ (c + 4) (nI k2) (nI k1)) := (by simp only [wd, q, if_true, show (16 * k1 + k2) % 16 = k2 by omega, show (16 * k1 + k2) / 16 = k1 by omega]); rw [show 16 * k1 + (k2 + 1) = 16 * k1 + k2 + 1 by omega, ← fa_fill_succ, e, cl_nI (show 16 * k1 + k2 < 2 ^ 31 by omega)]; done) | (have q := b2y c_22; rw [show 16 * k1 + (k2 + 1) = 16 * k1 + k2 + 1 by omega, fill_skip (by simp [wd, q])]; done))
    refine s_iload2 hK dX0_wearDown_2 ?_
    refine s_bipush (v := 12) hK dX0_wearDown_3 (by decide) ?_
    refine s_icmp_ge (tgt := 57) hK dX0_wearDown_5 (by decide) (fun c_5 => absurd c_5 (ge_N rfl rfl hk1 (by decide))) (fun c_5 => ?_)
    refine s_iconst (v := 0) hK dX0_wearDown_8 (by decide) ?_
    refine s_istore3 hK dX0_wearDown_9 ?_
    exact AW.to (up_to (fun k => AW K 10 [some (.ref b), some (.ref c), some (.int (nI k1)), some (.int (nI k))] [] (sP σ (b + 9) (fa_fill (wd σ b c) (σ (b + 9)) (16 * k1 + k)))) 16 hx2 hb2) (rfl) (rfl)
  refine s_iconst (v := 0) hK dX0_wearDown_0 (by decide) ?_
  refine s_istore2 hK dX0_wearDown_1 ?_
  exact AW.to (up_to (fun k => ∀ z3 : Option Value, AW K 2 [some (.ref b), some (.ref c), some (.int (nI k)), z3] [] (sP σ (b + 9) (fa_fill (wd σ b c) (σ (b + 9)) (16 * k)))) 12 hx1 hb1 _) (rfl) (by rw [fa_fill_0, sP_id])
set_option maxHeartbeats 4000000 in
set_option maxRecDepth 100000 in
theorem zX0_printsUntilWorn {g : aG} {l : Launch} {σ : aS} (b c : Nat) (h : Int32) (hb : kd b = 0) (hc : kd c = 1) : CN g l yX0_printsUntilWorn wsX0_printsUntilWorn 4 87 [.ref b, .ref c, .int h] σ (some (.int (pW σ b c h 192))) σ := by
  refine cn_of (cc := cX0_printsUntilWorn) (nL := 7) (ret := (some .int)) (own := RX0) (by decide +kernel) rfl rfl (Nat.le_of_ble_eq_true rfl) (fun K hg hl hK hE => ?_)
  subst hg; subst hl
  have i_0 : ∀ w ∈ u_ws RX0 TX0 5, w ∈ wsX0_printsUntilWorn := by decide +kernel
  show AW K 0 [some (.ref b), some (.ref c), some (.int h), none, none, none, none] [] σ
  have hx1 : (∀ z5 : Option Value, ∀ z6 : Option Value, AW K 7 [some (.ref b), some (.ref c), some (.int h), some (.int (pW σ b c h (16 * 12))), some (.int (nI 12)), z5, z6] [] (σ)) := by
    intro z5 z6
    refine s_iload4 hK dX0_printsUntilWorn_7 ?_
    refine s_bipush (v := 12) hK dX0_printsUntilWorn_9 (by decide) ?_
    refine s_icmp_ge (tgt := 87) hK dX0_printsUntilWorn_11 (by decide) (fun c_11 => ?_) (fun c_11 => absurd c_11 (fun q => q (ge_E rfl rfl)))
    refine s_iload3 hK dX0_printsUntilWorn_87 ?_
    exact s_iret hK hE dX0_printsUntilWorn_88 rfl (rfl) (rfl)
  have hb1 : ∀ k1 : Nat, k1 < 12 → (∀ z5 : Option Value, ∀ z6 : Option Value, AW K 7 [some (.ref b), some (.ref c), some (.int h), some (.int (pW σ b c h (16 * (k1 + 1)))), some (.int (nI (k1 + 1))), z5, z6] [] (σ)) → (∀ z5 : Option Value, ∀ z6 : Option Value, AW K 7 [some (.ref b), some (.ref c), some (.int h), some (.int (pW σ b c h (16 * k1))), some (.int (nI k1)), z5, z6] [] (σ)) := by
    intro k1 hk1 ih1 z5 z6
    have hx2 : (∀ z6 : Option Value, AW K 17 [some (.ref b), some (.ref c), some (.int h), some (.int (pW σ b c h (16 * k1 + 16))), some (.int (nI k1)), some (.int (nI 16)), z6] [] (σ)) := by
      intro z6
      refine s_iload5 hK dX0_printsUntilWorn_17 ?_
      refine s_bipush (v := 16) hK dX0_printsUntilWorn_19 (by decide) ?_
      refine s_icmp_ge (tgt := 81) hK dX0_printsUntilWorn_21 (by decide) (fun c_21 => ?_) (fun c_21 => absurd c_21 (fun q => q (ge_E rfl rfl)))
      refine s_iinc4 hK dX0_printsUntilWorn_81 (hv_1 _) ?_
      refine s_goto (tgt := 7) hK dX0_printsUntilWorn_84 (by decide) ?_
      exact AW.to (ih1 _ _) (by rw [nI_1, Nat.mul_succ]) rfl
    have hb2 : ∀ k2 : Nat, k2 < 16 → (∀ z6 : Option Value, AW K 17 [some (.ref b), some (.ref c), some (.int h), some (.int (pW σ b c h (16 * k1 + (k2 + 1)))), some (.int (nI k1)), some (.int (nI (k2 + 1))), z6] [] (σ)) → (∀ z6 : Option Value, AW K 17 [some (.ref b), some (.ref c), some (.int h), some (.int (pW σ b c h (16 * k1 + k2))), some (.int (nI k1)), some (.int (nI k2)), z6] [] (σ)) := by
      intro k2 hk2 ih2 z6
      refine s_iload5 hK dX0_printsUntilWorn_17 ?_
      refine s_bipush (v := 16) hK dX0_printsUntilWorn_19 (by decide) ?_
      refine s_icmp_ge (tgt := 81) hK dX0_printsUntilWorn_21 (by decide) (fun c_21 => absurd c_21 (ge_N rfl rfl hk2 (by decide))) (fun c_21 => ?_)
      refine s_aload1 hK dX0_printsUntilWorn_24 ?_
      refine s_iload5 hK dX0_printsUntilWorn_25 ?_
      refine s_iload4 hK dX0_printsUntilWorn_27 ?_
      refine s_callS hK mdX0_wearOfPrint (zX0_wearOfPrint c _ _ hc) gX0_printsUntilWorn_X0_wearOfPrint rfl ⟨Nat.le_of_ble_eq_true rfl, Nat.le_of_ble_eq_true rfl⟩ rfl (Nat.le_of_ble_eq_true rfl) dX0_printsUntilWorn_29 ?_
      try dsimp only [Option.toList, List.cons_append, List.nil_append]
      rw [show (5 : Int32) - nb σ (c + 4) (nI k2) (nI k1) = eO σ c (16 * k1 + k2) by simp only [eO, show (16 * k1 + k2) % 16 = k2 by omega, show (16 * k1 + k2) / 16 = k1 by omega]]
      refine s_istore6 hK dX0_printsUntilWorn_32 ?_
      refine s_aload1 hK dX0_printsUntilWorn_34 ?_
      refine s_iload5 hK dX0_printsUntilWorn_35 ?_
      refine s_iload4 hK dX0_printsUntilWorn_37 ?_
      refine s_callV (ci := 1) hK mdX1_has (zX1_has c _ _ hc) gX0_printsUntilWorn_X1_has hc rfl rfl (by decide) rfl ⟨Nat.le_of_ble_eq_true rfl, Nat.le_of_ble_eq_true rfl⟩ rfl (Nat.le_of_ble_eq_true rfl) dX0_printsUntilWorn_39 ?_
      try dsimp only [Option.toList, List.cons_append, List.nil_append]
      rw [hs_nI _ _ hk2 hk1]
      refine s_if_eq (tgt := 75) hK dX0_printsUntilWorn_42 (by decide) (fun c_42 => ?_) (fun c_42 => ?_)
      · refine s_iinc5 hK dX0_printsUntilWorn_75 (hv_1 _) ?_
        refine s_goto (tgt := 17) hK dX0_printsUntilWorn_78 (by decide) ?_
        exact AW.to (ih2 _) (by rw [nI_1, show 16 * k1 + (k2 + 1) = 16 * k1 + k2 + 1 from rfl]; first | rw [pW_no (b2y c_42)] | rw [pW_z c_47] | rw [pW_y (b2n c_42) c_47]) (rfl)
      · refine s_iload6 hK dX0_printsUntilWorn_45 ?_
        refine s_if_le (tgt := 75) hK dX0_printsUntilWorn_47 (by decide) (fun c_47 => ?_) (fun c_47 => ?_)
        · refine s_iinc5 hK dX0_printsUntilWorn_75 (hv_1 _) ?_
          refine s_goto (tgt := 17) hK dX0_printsUntilWorn_78 (by decide) ?_
          exact AW.to (ih2 _) (by rw [nI_1, show 16 * k1 + (k2 + 1) = 16 * k1 + k2 + 1 from rfl]; first | rw [pW_no (b2y c_42)] | rw [pW_z c_47] | rw [pW_y (b2n c_42) c_47]) (rfl)
        · refine s_iload3 hK dX0_printsUntilWorn_50 ?_
          refine s_iload2 hK dX0_printsUntilWorn_51 ?_
          refine s_aload0 hK dX0_printsUntilWorn_52 ?_
          refine s_getr (ci := 0) (k := 4) hK hb rfl i_0 (by decide +kernel) dX0_printsUntilWorn_53 (by decide) (by decide) (by decide) rfl rfl (rf_0_4 hb) ?_
          refine s_iload4 hK dX0_printsUntilWorn_56 ?_
          refine s_bipush (v := 16) hK dX0_printsUntilWorn_58 (by decide) ?_
          refine s_imul hK dX0_printsUntilWorn_60 ?_
          refine s_iload5 hK dX0_printsUntilWorn_61 ?_
          refine s_iadd hK dX0_printsUntilWorn_63 ?_
          refine s_iald hK (kBw hb) (by rw [lBw hb, ixN]; exact vp_in_nI (by omega) (by decide)) dX0_printsUntilWorn_64 ?_
          rw [ixN, cl_nI (show 16 * k1 + k2 < 2 ^ 31 by omega)]
          refine s_isub hK dX0_printsUntilWorn_65 ?_
          refine s_iload6 hK dX0_printsUntilWorn_66 ?_
          refine s_idiv hK dX0_printsUntilWorn_68 (ne0_of_nle c_47) ?_
          refine s_iconst (v := 1) hK dX0_printsUntilWorn_69 (by decide) ?_
          refine s_iadd hK dX0_printsUntilWorn_70 ?_
          refine s_mmin hK (by decide +kernel) (by decide +kernel) (by decide +kernel) (by decide +kernel) (by decide) (Nat.le_of_ble_eq_true rfl) dX0_printsUntilWorn_71 ?_
          refine s_istore3 hK dX0_printsUntilWorn_74 ?_
          refine s_iinc5 hK dX0_printsUntilWorn_75 (hv_1 _) ?_
          refine s_goto (tgt := 17) hK dX0_printsUntilWorn_78 (by decide) ?_
          exact AW.to (ih2 _) (by rw [nI_1, show 16 * k1 + (k2 + 1) = 16 * k1 + k2 + 1 from rfl]; first | rw [pW_no (b2y c_42)] | rw [pW_z c_47] | rw [pW_y (b2n c_42) c_47]) (rfl)
    refine s_iload4 hK dX0_printsUntilWorn_7 ?_
    refine s_bipush (v := 12) hK dX0_printsUntilWorn_9 (by decide) ?_
    refine s_icmp_ge (tgt := 87) hK dX0_printsUntilWorn_11 (by decide) (fun c_11 => absurd c_11 (ge_N rfl rfl hk1 (by decide))) (fun c_11 => ?_)
    refine s_iconst (v := 0) hK dX0_printsUntilWorn_14 (by decide) ?_
    refine s_istore5 hK dX0_printsUntilWorn_15 ?_
    exact AW.to (up_to (fun k => ∀ z6 : Option Value, AW K 17 [some (.ref b), some (.ref c), some (.int h), some (.int (pW σ b c h (16 * k1 + k))), some (.int (nI k1)), some (.int (nI k)), z6] [] (σ)) 16 hx2 hb2 _) (rfl) (rfl)
  refine s_sipush (v := 501) hK dX0_printsUntilWorn_0 (by decide) ?_
  refine s_istore3 hK dX0_printsUntilWorn_3 ?_
  refine s_iconst (v := 0) hK dX0_printsUntilWorn_4 (by decide) ?_
  refine s_istore4 hK dX0_printsUntilWorn_5 ?_
  exact AW.to (up_to (fun k => ∀ z5 : Option Value, ∀ z6 : Option Value, AW K 7 [some (.ref b), some (.ref c), some (.int h), some (.int (pW σ b c h (16 * k))), some (.int (nI k)), z5, z6] [] (σ)) 12 hx1 hb1 _ _) (rfl) (rfl)
