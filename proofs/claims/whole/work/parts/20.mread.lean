def jA (σ : aS) (a : Nat) : aS := sP σ 700 (upd (σ 700) 12 (nI a))
def jF (σ : aS) (e : Nat) : aS := sP σ 700 (upd (σ 700) 13 (if 0 ≤ σ 700 13 then σ 700 13 else nI e))
def jQ (σ : aS) (v : Int32) : aS := sP σ 700 (upd (σ 700) 14 v)
def wl (σ : aS) : Bool := decide (¬ 0 ≤ σ 700 13)
theorem jA_jA (σ : aS) (a b : Nat) : jA (jA σ a) b = jA σ b := by
  unfold jA
  rw [sP_sP, sP_same, fa_upd_twice]
theorem jA_id {σ : aS} {a : Nat} (h : σ 700 12 = nI a) : jA σ a = σ := by
  unfold jA
  rw [fa_upd_same h, sP_id]
theorem jA_ne {σ : aS} {a o : Nat} (h : o ≠ 700) : jA σ a o = σ o := sP_ne h
theorem jF_ne {σ : aS} {a o : Nat} (h : o ≠ 700) : jF σ a o = σ o := sP_ne h
theorem jQ_ne {σ : aS} {v : Int32} {o : Nat} (h : o ≠ 700) : jQ σ v o = σ o := sP_ne h
theorem jA_12 (σ : aS) (a : Nat) : jA σ a 700 12 = nI a := by
  unfold jA
  rw [sP_same]
  rfl
theorem jA_k (σ : aS) (a : Nat) {k : Nat} (h : k ≠ 12) : jA σ a 700 k = σ 700 k := by
  unfold jA
  rw [sP_same]
  simp [upd, h]
theorem jF_k (σ : aS) (a : Nat) {k : Nat} (h : k ≠ 13) : jF σ a 700 k = σ 700 k := by
  unfold jF
  rw [sP_same]
  simp [upd, h]
theorem jF_13 (σ : aS) (a : Nat) : jF σ a 700 13 = if 0 ≤ σ 700 13 then σ 700 13 else nI a := by
  unfold jF
  rw [sP_same]
  rfl
theorem jQ_k (σ : aS) (v : Int32) {k : Nat} (h : k ≠ 14) : jQ σ v 700 k = σ 700 k := by
  unfold jQ
  rw [sP_same]
  simp [upd, h]
theorem jQ_14 (σ : aS) (v : Int32) : jQ σ v 700 14 = v := by
  unfold jQ
  rw [sP_same]
  rfl
theorem wl_jA (σ : aS) (a : Nat) : wl (jA σ a) = wl σ := by
  unfold wl
  rw [jA_k _ _ (by decide)]
theorem wl_jQ (σ : aS) (v : Int32) : wl (jQ σ v) = wl σ := by
  unfold wl
  rw [jQ_k _ _ (by decide)]
theorem nI_nn {a : Nat} (h : a < 2 ^ 31) : 0 ≤ nI a := nI_le (a := 0) (Nat.zero_le _) h
theorem wl_jF (σ : aS) {e : Nat} (h : e ≤ 141) : wl (jF σ e) = false := by
  unfold wl
  rw [jF_13]
  split
  · rename_i q
    exact decide_eq_false (fun z => z q)
  · exact decide_eq_false (fun z => z (nI_nn (by omega)))
/-- the model reads its text of n signs at a -/
def JX (σ : aS) (n a : Nat) : Prop := n ≤ 140 ∧ a ≤ 141 ∧ σ 700 5 = nI n ∧ σ 700 12 = nI a
theorem JX.sA {σ : aS} {n a b : Nat} (h : JX σ n a) (hb : b ≤ 141) : JX (jA σ b) n b := ⟨h.1, hb, by rw [jA_k _ _ (by decide)]; exact h.2.2.1, jA_12 _ _⟩
theorem JX.sF {σ : aS} {n a e : Nat} (h : JX σ n a) : JX (jF σ e) n a := ⟨h.1, h.2.1, by rw [jF_k _ _ (by decide)]; exact h.2.2.1, by rw [jF_k _ _ (by decide)]; exact h.2.2.2⟩
theorem JX.sQ {σ : aS} {n a : Nat} {v : Int32} (h : JX σ n a) : JX (jQ σ v) n a := ⟨h.1, h.2.1, by rw [jQ_k _ _ (by decide)]; exact h.2.2.1, by rw [jQ_k _ _ (by decide)]; exact h.2.2.2⟩
theorem JX.to {σ σ2 : aS} {n a : Nat} (h : JX σ n a) (e : σ2 700 = σ 700) : JX σ2 n a := ⟨h.1, h.2.1, by rw [e]; exact h.2.2.1, by rw [e]; exact h.2.2.2⟩
theorem sk_w (t : Nat → Int32) {n a : Nat} (hn : n ≤ 140) (h : a ≤ 141) : sk t n a ≤ 141 := by
  rcases Nat.lt_or_ge n a with q | q
  · rw [sk_n (by omega)]
    exact h
  · have := sk_le (t := t) q
    omega
def nx2 (v c : Int32) : Int32 := if v ≤ 99 then 10 * v + c - 48 else v
def nwF (t : Nat → Int32) (n : Nat) : Nat → Nat → Int32 → Int32
  | 0, _, v => v
  | f + 1, a, v => if a < n ∧ dg (t a) = true then nwF t n f (a + 1) (nx2 v (t a)) else v
def nw (t : Nat → Int32) (n a : Nat) (v : Int32) : Int32 := nwF t n (n - a) a v
theorem nw_y {t : Nat → Int32} {n a : Nat} {v : Int32} (h : a < n) (h2 : dg (t a) = true) : nw t n a v = nw t n (a + 1) (nx2 v (t a)) := by
  unfold nw
  rw [show n - a = (n - (a + 1)) + 1 by omega]
  exact if_pos ⟨h, h2⟩
theorem nw_n {t : Nat → Int32} {n a : Nat} {v : Int32} (h : ¬ (a < n ∧ dg (t a) = true)) : nw t n a v = v := by
  unfold nw
  cases n - a with
  | zero => rfl
  | succ d => exact if_neg h
theorem dg_hr {t : Nat → Int32} {n a : Nat} (h : dg (hr t n a) = true) : a < n := by
  apply hr_0
  intro e
  rw [e] at h
  exact absurd h (by decide)
def bdM (t : Nat → Int32) (n a : Nat) (lo hi : Int32) : Bool := decide (de t n a = a) || (decide (1 < de t n a - a ∧ t a = 48) || !wi (nw t n a 0) lo hi)
def jG (σ : aS) (n a : Nat) (lo hi : Int32) : aS := if bdM (σ 703) n a lo hi = true then jF (jA σ (de (σ 703) n a)) a else jA σ (de (σ 703) n a)
def jN (σ : aS) (n a : Nat) (lo hi : Int32) : aS := jA (jG σ n a lo hi) (sk (σ 703) n (de (σ 703) n a))
def jE (c : Int32) (σ : aS) (n a : Nat) : aS := if wl σ = true then (if hr (σ 703) n a = c then jA σ (sk (σ 703) n (a + 1)) else jF σ a) else σ
def jEa (c : Int32) (σ : aS) (n a : Nat) : Nat := if wl σ = true ∧ hr (σ 703) n a = c then sk (σ 703) n (a + 1) else a
def jKc (c : Int32) : Int32 := if c = 119 then 0 else if c = 99 then 1 else 2
def jH (σ : aS) (n a : Nat) : aS := if isK (hr (σ 703) n a) = true then σ else jF σ a
def jK (σ : aS) (n a : Nat) : aS := jA (jH σ n a) (sk (σ 703) n (a + 1))
set_option maxHeartbeats 4000000 in
set_option maxRecDepth 100000 in
theorem zX7_here {g : aG} {l : Launch} {σ : aS} (n a : Nat) (h : JX σ n a) : CN g l yX7_here wsX7_here 0 0 [.ref 700] σ (some (.int (hr (σ 703) n a))) σ := by
  refine cn_of (cc := cX7_here) (nL := 1) (ret := (some .int)) (own := RX7) (by decide +kernel) rfl rfl (Nat.le_of_ble_eq_true rfl) (fun K hg hl hK hE => ?_)
  subst hg; subst hl
  have i_7 : ∀ w ∈ u_ws RX7 TX7 15, w ∈ wsX7_here := by decide +kernel
  show AW K 0 [some (.ref 700)] [] σ
  refine s_aload0 hK dX7_here_0 ?_
  refine s_getiv (v := nI a) (h.2.2.2) (ci := 7) (k := 12) hK rfl rfl i_7 (by decide +kernel) dX7_here_1 (by decide) (by decide) (by decide) rfl rfl ?_
  refine s_aload0 hK dX7_here_4 ?_
  refine s_getiv (v := nI n) (h.2.2.1) (ci := 7) (k := 5) hK rfl rfl i_7 (by decide +kernel) dX7_here_5 (by decide) (by decide) (by decide) rfl rfl ?_
  refine s_icmp_ge (tgt := 23) hK dX7_here_8 (by decide) (fun c_8 => ?_) (fun c_8 => ?_)
  · refine s_iconst (v := 0) hK dX7_here_23 (by decide) ?_
    exact s_iret hK hE dX7_here_24 rfl (by first | (rw [hr, if_pos (show a < n by have q := c_8; rcases Nat.lt_or_ge a n with z | z; exact z; exact absurd (nI_le z (by have := h.2.1; omega)) q)]; done) | (rw [hr, if_neg (by intro z; exact absurd c_8 (nI_ge z (by have := h.1; omega)))]; done)) (rfl)
  · refine s_aload0 hK dX7_here_11 ?_
    refine s_getr (ci := 7) (k := 4) hK rfl rfl i_7 (by decide +kernel) dX7_here_12 (by decide) (by decide) (by decide) rfl rfl (rf_7_4 rfl) ?_
    refine s_aload0 hK dX7_here_15 ?_
    refine s_getiv (v := nI a) (h.2.2.2) (ci := 7) (k := 12) hK rfl rfl i_7 (by decide +kernel) dX7_here_16 (by decide) (by decide) (by decide) rfl rfl ?_
    refine s_iald hK rfl (show vp_in _ 140 from vp_in_nI (show a < 140 by have := h.1; have := (show a < n by have q := c_8; rcases Nat.lt_or_ge a n with z | z; exact z; exact absurd (nI_le z (by have := h.2.1; omega)) q); omega) (by decide)) dX7_here_19 ?_
    rw [cl_nI (show a < 2 ^ 31 by have := h.2.1; omega)]
    refine s_goto (tgt := 24) hK dX7_here_20 (by decide) ?_
    exact s_iret hK hE dX7_here_24 rfl (by first | (rw [hr, if_pos (show a < n by have q := c_8; rcases Nat.lt_or_ge a n with z | z; exact z; exact absurd (nI_le z (by have := h.2.1; omega)) q)]; done) | (rw [hr, if_neg (by intro z; exact absurd c_8 (nI_ge z (by have := h.1; omega)))]; done)) (rfl)
set_option maxHeartbeats 4000000 in
set_option maxRecDepth 100000 in
theorem zX7_isDigit {g : aG} {l : Launch} {σ : aS} (n a : Nat) (h : JX σ n a) : CN g l yX7_isDigit wsX7_isDigit 1 22 [.ref 700] σ (some (.int (b2 (dg (hr (σ 703) n a))))) σ := by
  refine cn_of (cc := cX7_isDigit) (nL := 1) (ret := (some .boolean)) (own := RX7) (by decide +kernel) rfl rfl (Nat.le_of_ble_eq_true rfl) (fun K hg hl hK hE => ?_)
  subst hg; subst hl
  show AW K 0 [some (.ref 700)] [] σ
  refine s_aload0 hK dX7_isDigit_0 ?_
  refine s_callV (ci := 7) hK mdX7_here (zX7_here n a h) gX7_isDigit_X7_here rfl rfl rfl (by decide) rfl ⟨Nat.le_of_ble_eq_true rfl, Nat.le_of_ble_eq_true rfl⟩ rfl (Nat.le_of_ble_eq_true rfl) dX7_isDigit_1 ?_
  try dsimp only [Option.toList, List.cons_append, List.nil_append]
  refine s_bipush (v := 48) hK dX7_isDigit_4 (by decide) ?_
  refine s_bipush (v := 57) hK dX7_isDigit_6 (by decide) ?_
  refine s_callS hK mdX7_in (zX7_in _ _ _) gX7_isDigit_X7_in rfl ⟨Nat.le_of_ble_eq_true rfl, Nat.le_of_ble_eq_true rfl⟩ rfl (Nat.le_of_ble_eq_true rfl) dX7_isDigit_8 ?_
  try dsimp only [Option.toList, List.cons_append, List.nil_append]
  exact s_iret hK hE dX7_isDigit_11 (b2_z _) (rfl) (rfl)
set_option maxHeartbeats 4000000 in
set_option maxRecDepth 100000 in
theorem zX7_isWell {g : aG} {l : Launch} {σ : aS} : CN g l yX7_isWell wsX7_isWell 0 0 [.ref 700] σ (some (.int (b2 (wl σ)))) σ := by
  refine cn_of (cc := cX7_isWell) (nL := 1) (ret := (some .boolean)) (own := RX7) (by decide +kernel) rfl rfl (Nat.le_of_ble_eq_true rfl) (fun K hg hl hK hE => ?_)
  subst hg; subst hl
  have i_7 : ∀ w ∈ u_ws RX7 TX7 15, w ∈ wsX7_isWell := by decide +kernel
  show AW K 0 [some (.ref 700)] [] σ
  refine s_aload0 hK dX7_isWell_0 ?_
  refine s_geti (ci := 7) (k := 13) hK rfl rfl i_7 (by decide +kernel) dX7_isWell_1 (by decide) (by decide) (by decide) rfl rfl ?_
  refine s_if_ge (tgt := 11) hK dX7_isWell_4 (by decide) (fun c_4 => ?_) (fun c_4 => ?_)
  · refine s_iconst (v := 0) hK dX7_isWell_11 (by decide) ?_
    exact s_iret hK hE dX7_isWell_12 (by decide) (by simp [b2, wl, c_4]) (rfl)
  · refine s_iconst (v := 1) hK dX7_isWell_7 (by decide) ?_
    refine s_goto (tgt := 12) hK dX7_isWell_8 (by decide) ?_
    exact s_iret hK hE dX7_isWell_12 (by decide) (by simp [b2, wl, c_4]) (rfl)
set_option maxHeartbeats 4000000 in
set_option maxRecDepth 100000 in
theorem zX7_fail {g : aG} {l : Launch} {σ : aS} (e : Nat) : CN g l yX7_fail wsX7_fail 0 0 [.ref 700, .int (nI e)] σ none (jF σ e) := by
  refine cn_of (cc := cX7_fail) (nL := 2) (ret := none) (own := RX7) (by decide +kernel) rfl rfl (Nat.le_of_ble_eq_true rfl) (fun K hg hl hK hE => ?_)
  subst hg; subst hl
  have i_7 : ∀ w ∈ u_ws RX7 TX7 15, w ∈ wsX7_fail := by decide +kernel
  show AW K 0 [some (.ref 700), some (.int (nI e))] [] σ
  refine s_aload0 hK dX7_fail_0 ?_
  refine AW.cut (j := 16) (v := if 0 ≤ σ 700 13 then σ 700 13 else nI e) (fun hJ_16 => ?_) ?_
  · refine s_aload0 hK dX7_fail_1 ?_
    refine s_geti (ci := 7) (k := 13) hK rfl rfl i_7 (by decide +kernel) dX7_fail_2 (by decide) (by decide) (by decide) rfl rfl ?_
    refine s_if_ge (tgt := 12) hK dX7_fail_5 (by decide) (fun c_5 => ?_) (fun c_5 => ?_)
    · refine s_aload0 hK dX7_fail_12 ?_
      refine s_geti (ci := 7) (k := 13) hK rfl rfl i_7 (by decide +kernel) dX7_fail_13 (by decide) (by decide) (by decide) rfl rfl ?_
      exact AW.vv hJ_16 (by simp [c_5])
    · refine s_iload1 hK dX7_fail_8 ?_
      refine s_goto (tgt := 16) hK dX7_fail_9 (by decide) ?_
      exact AW.vv hJ_16 (by simp [c_5])
  show AW K _ _ _ _
  refine s_putg (ci := 7) (k := 13) (ty := .int) hK rfl rfl i_7 (by decide +kernel) dX7_fail_16 tyX7_ok nmX7 (by decide) (by decide) (by decide) rfl rfl rfl (by decide +kernel) rfl rfl ?_
  exact s_vret hK hE dX7_fail_19 (rfl)
set_option maxHeartbeats 4000000 in
set_option maxRecDepth 100000 in
theorem zX7_skip {g : aG} {l : Launch} {σ : aS} (n a : Nat) (h : JX σ n a) : CN g l yX7_skip wsX7_skip 1 20 [.ref 700] σ none (jA σ (sk (σ 703) n a)) := by
  refine cn_of (cc := cX7_skip) (nL := 1) (ret := none) (own := RX7) (by decide +kernel) rfl rfl (Nat.le_of_ble_eq_true rfl) (fun K hg hl hK hE => ?_)
  subst hg; subst hl
  have i_7 : ∀ w ∈ u_ws RX7 TX7 15, w ∈ wsX7_skip := by decide +kernel
  show AW K 0 [some (.ref 700)] [] σ
  have hn := h.1
  have key : ∀ d b, n - b = d → b ≤ 141 → sk (σ 703) n b = sk (σ 703) n a → AW K 0 [some (.ref 700)] [] (jA σ b) := by
    intro d
    induction d with
    | zero =>
      intro b hd hle he
      refine s_aload0 hK dX7_skip_0 ?_
      refine s_callV (ci := 7) hK mdX7_here (zX7_here n b (h.sA hle)) gX7_skip_X7_here rfl rfl rfl (by decide) rfl ⟨Nat.le_of_ble_eq_true rfl, Nat.le_of_ble_eq_true rfl⟩ rfl (Nat.le_of_ble_eq_true rfl) dX7_skip_1 ?_
      try dsimp only [Option.toList, List.cons_append, List.nil_append]
      rw [jA_ne (by decide)]
      refine s_bipush (v := 32) hK dX7_skip_4 (by decide) ?_
      refine s_icmp_ne (tgt := 22) hK dX7_skip_6 (by decide) (fun c_6 => ?_) (fun c_6 => absurd c_6 (fun q => by have z := hr_0 (t := σ 703) (n := n) (a := b) (by rw [q]; decide); omega))
      exact s_vret hK hE dX7_skip_22 (by rw [← he, sk_n (by omega)])
    | succ d ih =>
      intro b hd hle he
      refine s_aload0 hK dX7_skip_0 ?_
      refine s_callV (ci := 7) hK mdX7_here (zX7_here n b (h.sA hle)) gX7_skip_X7_here rfl rfl rfl (by decide) rfl ⟨Nat.le_of_ble_eq_true rfl, Nat.le_of_ble_eq_true rfl⟩ rfl (Nat.le_of_ble_eq_true rfl) dX7_skip_1 ?_
      try dsimp only [Option.toList, List.cons_append, List.nil_append]
      rw [jA_ne (by decide)]
      refine s_bipush (v := 32) hK dX7_skip_4 (by decide) ?_
      refine s_icmp_ne (tgt := 22) hK dX7_skip_6 (by decide) (fun c_6 => ?_) (fun c_6 => ?_)
      · exact s_vret hK hE dX7_skip_22 (by rw [← he, sk_n (fun z => c_6 (by rw [hr_lt z.1]; exact z.2))])
      · have hc : hr (σ 703) n b = 32 := c_6
        have hbn : b < n := hr_0 (by rw [hc]; decide)
        refine s_aload0 hK dX7_skip_9 ?_
        refine s_dup hK dX7_skip_10 ?_
        refine s_getiv (v := nI b) (jA_12 _ _) (ci := 7) (k := 12) hK rfl rfl i_7 (by decide +kernel) dX7_skip_11 (by decide) (by decide) (by decide) rfl rfl ?_
        refine s_iconst (v := 1) hK dX7_skip_14 (by decide) ?_
        refine s_iadd hK dX7_skip_15 ?_
        rw [nI_1]
        refine s_putg (ci := 7) (k := 12) (ty := .int) hK rfl rfl i_7 (by decide +kernel) dX7_skip_16 tyX7_ok nmX7 (by decide) (by decide) (by decide) rfl rfl rfl (by decide +kernel) rfl rfl ?_
        rw [show sP (jA σ b) 700 (upd (jA σ b 700) 12 (nI (b + 1))) = jA σ (b + 1) from jA_jA σ b (b + 1)]
        refine s_goto (tgt := 0) hK dX7_skip_19 (by decide) ?_
        exact ih (b + 1) (by omega) (by omega) (by rw [← he, sk_y hbn (by rw [← hr_lt (t := σ 703) hbn]; exact hc)])
  have h0 := key (n - a) a rfl h.2.1 rfl
  rw [jA_id h.2.2.2] at h0
  exact h0
set_option maxHeartbeats 4000000 in
set_option maxRecDepth 100000 in
theorem zX7_number {g : aG} {l : Launch} {σ : aS} (n a : Nat) (h : JX σ n a) (ha : a ≤ n) (lo hi : Int32) : CN g l yX7_number wsX7_number 2 42 [.ref 700, .int lo, .int hi] σ (some (.int (nw (σ 703) n a 0))) (jN σ n a lo hi) := by
  refine cn_of (cc := cX7_number) (nL := 6) (ret := (some .int)) (own := RX7) (by decide +kernel) rfl rfl (Nat.le_of_ble_eq_true rfl) (fun K hg hl hK hE => ?_)
  subst hg; subst hl
  have i_7 : ∀ w ∈ u_ws RX7 TX7 15, w ∈ wsX7_number := by decide +kernel
  show AW K 0 [some (.ref 700), some (.int lo), some (.int hi), none, none, none] [] σ
  have hn := h.1
  have hge : a ≤ de (σ 703) n a := de_ge ha
  have hle2 : de (σ 703) n a ≤ n := de_le ha
  have hx55 : AW K 55 [some (.ref 700), some (.int lo), some (.int hi), some (.int (nI a)), some (.int (nw (σ 703) n a 0)), none] [] (jA σ (de (σ 703) n a)) := by
    refine AW.cut (j := 81) (v := if 1 < de (σ 703) n a - a ∧ σ 703 a = 48 then 1 else 0) (fun hJ_81 => ?_) ?_
    · refine s_aload0 hK dX7_number_55 ?_
      refine s_getiv (v := nI (de (σ 703) n a)) (jA_12 _ _) (ci := 7) (k := 12) hK rfl rfl i_7 (by decide +kernel) dX7_number_56 (by decide) (by decide) (by decide) rfl rfl ?_
      refine s_iload3 hK dX7_number_59 ?_
      refine s_isub hK dX7_number_60 ?_
      rw [pk_sub hge]
      refine s_iconst (v := 1) hK dX7_number_61 (by decide) ?_
      refine s_icmp_le (tgt := 80) hK dX7_number_62 (by decide) (fun c_62 => ?_) (fun c_62 => ?_)
      · refine s_iconst (v := 0) hK dX7_number_80 (by decide) ?_
        exact AW.vv hJ_81 (by first | (rw [if_neg (fun z => fa_of_nle2 c_62 (nI_lt (a := 1) z.1 (by omega)))]; done) | (rw [if_neg (fun z => c_73 z.2)]; done) | (rw [if_pos ⟨by rcases Nat.lt_or_ge 1 (de (σ 703) n a - a) with z | z; exact z; exact absurd (nI_le (b := 1) z (by decide)) c_62, c_73⟩]; done))
      · refine s_aload0 hK dX7_number_65 ?_
        refine s_getr (ci := 7) (k := 4) hK rfl rfl i_7 (by decide +kernel) dX7_number_66 (by decide) (by decide) (by decide) rfl rfl (rf_7_4 rfl) ?_
        refine s_iload3 hK dX7_number_69 ?_
        refine s_iald hK rfl (show vp_in _ 140 from vp_in_nI (show a < 140 by rcases Nat.lt_or_ge 1 (de (σ 703) n a - a) with z | z; omega; exact absurd (nI_le (b := 1) z (by decide)) c_62) (by decide)) dX7_number_70 ?_
        rw [cl_nI (show a < 2 ^ 31 by omega), jA_ne (by decide)]
        refine s_bipush (v := 48) hK dX7_number_71 (by decide) ?_
        refine s_icmp_ne (tgt := 80) hK dX7_number_73 (by decide) (fun c_73 => ?_) (fun c_73 => ?_)
        · refine s_iconst (v := 0) hK dX7_number_80 (by decide) ?_
          exact AW.vv hJ_81 (by first | (rw [if_neg (fun z => fa_of_nle2 c_62 (nI_lt (a := 1) z.1 (by omega)))]; done) | (rw [if_neg (fun z => c_73 z.2)]; done) | (rw [if_pos ⟨by rcases Nat.lt_or_ge 1 (de (σ 703) n a - a) with z | z; exact z; exact absurd (nI_le (b := 1) z (by decide)) c_62, c_73⟩]; done))
        · refine s_iconst (v := 1) hK dX7_number_76 (by decide) ?_
          refine s_goto (tgt := 81) hK dX7_number_77 (by decide) ?_
          exact AW.vv hJ_81 (by first | (rw [if_neg (fun z => fa_of_nle2 c_62 (nI_lt (a := 1) z.1 (by omega)))]; done) | (rw [if_neg (fun z => c_73 z.2)]; done) | (rw [if_pos ⟨by rcases Nat.lt_or_ge 1 (de (σ 703) n a - a) with z | z; exact z; exact absurd (nI_le (b := 1) z (by decide)) c_62, c_73⟩]; done))
    show AW K _ _ _ _
    refine s_istore5 hK dX7_number_81 ?_
    refine s_aload0 hK dX7_number_83 ?_
    refine s_getiv (v := nI (de (σ 703) n a)) (jA_12 _ _) (ci := 7) (k := 12) hK rfl rfl i_7 (by decide +kernel) dX7_number_84 (by decide) (by decide) (by decide) rfl rfl ?_
    refine s_iload3 hK dX7_number_87 ?_
    refine s_icmp_eq (tgt := 106) hK dX7_number_88 (by decide) (fun c_88 => ?_) (fun c_88 => ?_)
    · refine s_aload0 hK dX7_number_106 ?_
      refine s_iload3 hK dX7_number_107 ?_
      refine s_callV (ci := 7) hK mdX7_fail (zX7_fail a) gX7_number_X7_fail rfl rfl rfl (by decide) rfl ⟨Nat.le_of_ble_eq_true rfl, Nat.le_of_ble_eq_true rfl⟩ rfl (Nat.le_of_ble_eq_true rfl) dX7_number_108 ?_
      try dsimp only [Option.toList, List.cons_append, List.nil_append]
      refine s_aload0 hK dX7_number_111 ?_
      refine s_callV (ci := 7) hK mdX7_skip (zX7_skip n (de (σ 703) n a) (by first | exact (h.sA (by omega)).sF | exact h.sA (by omega))) gX7_number_X7_skip rfl rfl rfl (by decide) rfl ⟨Nat.le_of_ble_eq_true rfl, Nat.le_of_ble_eq_true rfl⟩ rfl (Nat.le_of_ble_eq_true rfl) dX7_number_112 ?_
      try dsimp only [Option.toList, List.cons_append, List.nil_append]
      try rw [jF_ne (by decide)]
      rw [jA_ne (by decide)]
      refine s_iload4 hK dX7_number_115 ?_
      exact s_iret hK hE dX7_number_117 rfl (rfl) (by first | (rw [jN, jG, if_pos (by unfold bdM; first | (rw [decide_eq_true ((nI_eq (by omega) (by omega)).mp c_88)]; rfl) | (rw [decide_eq_true (p := _ ∧ _) (ite_one c_93)]; simp; done) | (rw [b2y c_103]; simp; done))]; done) | (rw [jN, jG, if_neg (show ¬ bdM (σ 703) n a lo hi = true from fun z => absurd (z.symm.trans (show bdM (σ 703) n a lo hi = false from by unfold bdM; rw [decide_eq_false (p := de (σ 703) n a = a) (fun z => c_88 (by rw [z])), decide_eq_false (p := _ ∧ _) (ite_zero c_93), b2n c_103]; first | done | rfl)) (by decide))]; done))
    · refine s_iload5 hK dX7_number_91 ?_
      refine s_if_ne (tgt := 106) hK dX7_number_93 (by decide) (fun c_93 => ?_) (fun c_93 => ?_)
      · refine s_aload0 hK dX7_number_106 ?_
        refine s_iload3 hK dX7_number_107 ?_
        refine s_callV (ci := 7) hK mdX7_fail (zX7_fail a) gX7_number_X7_fail rfl rfl rfl (by decide) rfl ⟨Nat.le_of_ble_eq_true rfl, Nat.le_of_ble_eq_true rfl⟩ rfl (Nat.le_of_ble_eq_true rfl) dX7_number_108 ?_
        try dsimp only [Option.toList, List.cons_append, List.nil_append]
        refine s_aload0 hK dX7_number_111 ?_
        refine s_callV (ci := 7) hK mdX7_skip (zX7_skip n (de (σ 703) n a) (by first | exact (h.sA (by omega)).sF | exact h.sA (by omega))) gX7_number_X7_skip rfl rfl rfl (by decide) rfl ⟨Nat.le_of_ble_eq_true rfl, Nat.le_of_ble_eq_true rfl⟩ rfl (Nat.le_of_ble_eq_true rfl) dX7_number_112 ?_
        try dsimp only [Option.toList, List.cons_append, List.nil_append]
        try rw [jF_ne (by decide)]
        rw [jA_ne (by decide)]
        refine s_iload4 hK dX7_number_115 ?_
        exact s_iret hK hE dX7_number_117 rfl (rfl) (by first | (rw [jN, jG, if_pos (by unfold bdM; first | (rw [decide_eq_true ((nI_eq (by omega) (by omega)).mp c_88)]; rfl) | (rw [decide_eq_true (p := _ ∧ _) (ite_one c_93)]; simp; done) | (rw [b2y c_103]; simp; done))]; done) | (rw [jN, jG, if_neg (show ¬ bdM (σ 703) n a lo hi = true from fun z => absurd (z.symm.trans (show bdM (σ 703) n a lo hi = false from by unfold bdM; rw [decide_eq_false (p := de (σ 703) n a = a) (fun z => c_88 (by rw [z])), decide_eq_false (p := _ ∧ _) (ite_zero c_93), b2n c_103]; first | done | rfl)) (by decide))]; done))
      · refine s_iload4 hK dX7_number_96 ?_
        refine s_iload1 hK dX7_number_98 ?_
        refine s_iload2 hK dX7_number_99 ?_
        refine s_callS hK mdX7_in (zX7_in _ _ _) gX7_number_X7_in rfl ⟨Nat.le_of_ble_eq_true rfl, Nat.le_of_ble_eq_true rfl⟩ rfl (Nat.le_of_ble_eq_true rfl) dX7_number_100 ?_
        try dsimp only [Option.toList, List.cons_append, List.nil_append]
        refine s_if_ne (tgt := 111) hK dX7_number_103 (by decide) (fun c_103 => ?_) (fun c_103 => ?_)
        · refine s_aload0 hK dX7_number_111 ?_
          refine s_callV (ci := 7) hK mdX7_skip (zX7_skip n (de (σ 703) n a) (by first | exact (h.sA (by omega)).sF | exact h.sA (by omega))) gX7_number_X7_skip rfl rfl rfl (by decide) rfl ⟨Nat.le_of_ble_eq_true rfl, Nat.le_of_ble_eq_true rfl⟩ rfl (Nat.le_of_ble_eq_true rfl) dX7_number_112 ?_
          try dsimp only [Option.toList, List.cons_append, List.nil_append]
          try rw [jF_ne (by decide)]
          rw [jA_ne (by decide)]
          refine s_iload4 hK dX7_number_115 ?_
          exact s_iret hK hE dX7_number_117 rfl (rfl) (by first | (rw [jN, jG, if_pos (by unfold bdM; first | (rw [decide_eq_true ((nI_eq (by omega) (by omega)).mp c_88)]; rfl) | (rw [decide_eq_true (p := _ ∧ _) (ite_one c_93)]; simp; done) | (rw [b2y c_103]; simp; done))]; done) | (rw [jN, jG, if_neg (show ¬ bdM (σ 703) n a lo hi = true from fun z => absurd (z.symm.trans (show bdM (σ 703) n a lo hi = false from by unfold bdM; rw [decide_eq_false (p := de (σ 703) n a = a) (fun z => c_88 (by rw [z])), decide_eq_false (p := _ ∧ _) (ite_zero c_93), b2n c_103]; first | done | rfl)) (by decide))]; done))
        · refine s_aload0 hK dX7_number_106 ?_
          refine s_iload3 hK dX7_number_107 ?_
          refine s_callV (ci := 7) hK mdX7_fail (zX7_fail a) gX7_number_X7_fail rfl rfl rfl (by decide) rfl ⟨Nat.le_of_ble_eq_true rfl, Nat.le_of_ble_eq_true rfl⟩ rfl (Nat.le_of_ble_eq_true rfl) dX7_number_108 ?_
          try dsimp only [Option.toList, List.cons_append, List.nil_append]
          refine s_aload0 hK dX7_number_111 ?_
          refine s_callV (ci := 7) hK mdX7_skip (zX7_skip n (de (σ 703) n a) (by first | exact (h.sA (by omega)).sF | exact h.sA (by omega))) gX7_number_X7_skip rfl rfl rfl (by decide) rfl ⟨Nat.le_of_ble_eq_true rfl, Nat.le_of_ble_eq_true rfl⟩ rfl (Nat.le_of_ble_eq_true rfl) dX7_number_112 ?_
          try dsimp only [Option.toList, List.cons_append, List.nil_append]
          try rw [jF_ne (by decide)]
          rw [jA_ne (by decide)]
          refine s_iload4 hK dX7_number_115 ?_
          exact s_iret hK hE dX7_number_117 rfl (rfl) (by first | (rw [jN, jG, if_pos (by unfold bdM; first | (rw [decide_eq_true ((nI_eq (by omega) (by omega)).mp c_88)]; rfl) | (rw [decide_eq_true (p := _ ∧ _) (ite_one c_93)]; simp; done) | (rw [b2y c_103]; simp; done))]; done) | (rw [jN, jG, if_neg (show ¬ bdM (σ 703) n a lo hi = true from fun z => absurd (z.symm.trans (show bdM (σ 703) n a lo hi = false from by unfold bdM; rw [decide_eq_false (p := de (σ 703) n a = a) (fun z => c_88 (by rw [z])), decide_eq_false (p := _ ∧ _) (ite_zero c_93), b2n c_103]; first | done | rfl)) (by decide))]; done))
  have key : ∀ d b v, n - b = d → b ≤ n → de (σ 703) n b = de (σ 703) n a → nw (σ 703) n b v = nw (σ 703) n a 0 → AW K 8 [some (.ref 700), some (.int lo), some (.int hi), some (.int (nI a)), some (.int (v)), none] [] (jA σ b) := by
    intro d
    induction d with
    | zero =>
      intro b v hd hle he hv
      refine s_aload0 hK dX7_number_8 ?_
      refine s_callV (ci := 7) hK mdX7_isDigit (zX7_isDigit n b (h.sA (by omega))) gX7_number_X7_isDigit rfl rfl rfl (by decide) rfl ⟨Nat.le_of_ble_eq_true rfl, Nat.le_of_ble_eq_true rfl⟩ rfl (Nat.le_of_ble_eq_true rfl) dX7_number_9 ?_
      try dsimp only [Option.toList, List.cons_append, List.nil_append]
      rw [jA_ne (by decide)]
      refine s_if_eq (tgt := 55) hK dX7_number_12 (by decide) (fun c_12 => ?_) (fun c_12 => absurd c_12 (fun q => by have z := dg_hr (t := σ 703) (n := n) (a := b) (b2n q); omega))
      have e1 : b = de (σ 703) n a := by rw [← he, de_n (by omega)]
      have e2 : v = nw (σ 703) n a 0 := by rw [← hv, nw_n (by omega)]
      rw [e2, show jA σ b = jA σ (de (σ 703) n a) from by rw [e1]]
      exact hx55
    | succ d ih =>
      intro b v hd hle he hv
      refine s_aload0 hK dX7_number_8 ?_
      refine s_callV (ci := 7) hK mdX7_isDigit (zX7_isDigit n b (h.sA (by omega))) gX7_number_X7_isDigit rfl rfl rfl (by decide) rfl ⟨Nat.le_of_ble_eq_true rfl, Nat.le_of_ble_eq_true rfl⟩ rfl (Nat.le_of_ble_eq_true rfl) dX7_number_9 ?_
      try dsimp only [Option.toList, List.cons_append, List.nil_append]
      rw [jA_ne (by decide)]
      refine s_if_eq (tgt := 55) hK dX7_number_12 (by decide) (fun c_12 => ?_) (fun c_12 => ?_)
      · have e1 : b = de (σ 703) n a := by rw [← he, de_n ((fun z => by have q := b2y c_12; rw [hr_lt z.1, z.2] at q; cases q))]
        have e2 : v = nw (σ 703) n a 0 := by rw [← hv, nw_n ((fun z => by have q := b2y c_12; rw [hr_lt z.1, z.2] at q; cases q))]
        rw [e2, show jA σ b = jA σ (de (σ 703) n a) from by rw [e1]]
        exact hx55
      · refine AW.cut (j := 40) (v := nx2 v (σ 703 b)) (fun hJ_40 => ?_) ?_
        · have hbn : b < n := dg_hr (t := σ 703) (b2n c_12)
          have hdg : dg (σ 703 b) = true := by rw [← hr_lt (t := σ 703) hbn]; exact b2n c_12
          refine s_iload4 hK dX7_number_15 ?_
          refine s_bipush (v := 99) hK dX7_number_17 (by decide) ?_
          refine s_icmp_le (tgt := 27) hK dX7_number_19 (by decide) (fun c_19 => ?_) (fun c_19 => ?_)
          · refine s_bipush (v := 10) hK dX7_number_27 (by decide) ?_
            refine s_iload4 hK dX7_number_29 ?_
            refine s_imul hK dX7_number_31 ?_
            refine s_aload0 hK dX7_number_32 ?_
            refine s_callV (ci := 7) hK mdX7_here (zX7_here n b (h.sA (by omega))) gX7_number_X7_here rfl rfl rfl (by decide) rfl ⟨Nat.le_of_ble_eq_true rfl, Nat.le_of_ble_eq_true rfl⟩ rfl (Nat.le_of_ble_eq_true rfl) dX7_number_33 ?_
            try dsimp only [Option.toList, List.cons_append, List.nil_append]
            rw [jA_ne (by decide), hr_lt hbn]
            refine s_iadd hK dX7_number_36 ?_
            refine s_bipush (v := 48) hK dX7_number_37 (by decide) ?_
            refine s_isub hK dX7_number_39 ?_
            exact AW.vv hJ_40 (by simp [nx2, c_19])
          · refine s_iload4 hK dX7_number_22 ?_
            refine s_goto (tgt := 40) hK dX7_number_24 (by decide) ?_
            exact AW.vv hJ_40 (by simp [nx2, c_19])
        show AW K _ _ _ _
        have hbn : b < n := dg_hr (t := σ 703) (b2n c_12)
        have hdg : dg (σ 703 b) = true := by rw [← hr_lt (t := σ 703) hbn]; exact b2n c_12
        refine s_istore4 hK dX7_number_40 ?_
        refine s_aload0 hK dX7_number_42 ?_
        refine s_dup hK dX7_number_43 ?_
        refine s_getiv (v := nI b) (jA_12 _ _) (ci := 7) (k := 12) hK rfl rfl i_7 (by decide +kernel) dX7_number_44 (by decide) (by decide) (by decide) rfl rfl ?_
        refine s_iconst (v := 1) hK dX7_number_47 (by decide) ?_
        refine s_iadd hK dX7_number_48 ?_
        rw [nI_1]
        refine s_putg (ci := 7) (k := 12) (ty := .int) hK rfl rfl i_7 (by decide +kernel) dX7_number_49 tyX7_ok nmX7 (by decide) (by decide) (by decide) rfl rfl rfl (by decide +kernel) rfl rfl ?_
        rw [show sP (jA σ b) 700 (upd (jA σ b 700) 12 (nI (b + 1))) = jA σ (b + 1) from jA_jA σ b (b + 1)]
        refine s_goto (tgt := 8) hK dX7_number_52 (by decide) ?_
        exact ih (b + 1) _ (by omega) (by omega) (by rw [← he, de_y hbn hdg]) (by rw [← hv, nw_y hbn hdg])
  refine s_aload0 hK dX7_number_0 ?_
  refine s_getiv (v := nI a) (h.2.2.2) (ci := 7) (k := 12) hK rfl rfl i_7 (by decide +kernel) dX7_number_1 (by decide) (by decide) (by decide) rfl rfl ?_
  refine s_istore3 hK dX7_number_4 ?_
  refine s_iconst (v := 0) hK dX7_number_5 (by decide) ?_
  refine s_istore4 hK dX7_number_6 ?_
  have h0 := key (n - a) a 0 rfl ha rfl rfl
  rw [jA_id h.2.2.2] at h0
  exact h0
set_option maxHeartbeats 4000000 in
set_option maxRecDepth 100000 in
theorem zX7_expect {g : aG} {l : Launch} {σ : aS} (n a : Nat) (h : JX σ n a) (c : Int32) (hc0 : ¬ c = 0) : CN g l yX7_expect wsX7_expect 2 40 [.ref 700, .int c] σ none (jE c σ n a) := by
  refine cn_of (cc := cX7_expect) (nL := 2) (ret := none) (own := RX7) (by decide +kernel) rfl rfl (Nat.le_of_ble_eq_true rfl) (fun K hg hl hK hE => ?_)
  subst hg; subst hl
  have i_7 : ∀ w ∈ u_ws RX7 TX7 15, w ∈ wsX7_expect := by decide +kernel
  show AW K 0 [some (.ref 700), some (.int c)] [] σ
  refine s_aload0 hK dX7_expect_0 ?_
  refine s_callV (ci := 7) hK mdX7_isWell (zX7_isWell) gX7_expect_X7_isWell rfl rfl rfl (by decide) rfl ⟨Nat.le_of_ble_eq_true rfl, Nat.le_of_ble_eq_true rfl⟩ rfl (Nat.le_of_ble_eq_true rfl) dX7_expect_1 ?_
  try dsimp only [Option.toList, List.cons_append, List.nil_append]
  refine s_if_ne (tgt := 8) hK dX7_expect_4 (by decide) (fun c_4 => ?_) (fun c_4 => ?_)
  · refine s_aload0 hK dX7_expect_8 ?_
    refine s_callV (ci := 7) hK mdX7_here (zX7_here n a h) gX7_expect_X7_here rfl rfl rfl (by decide) rfl ⟨Nat.le_of_ble_eq_true rfl, Nat.le_of_ble_eq_true rfl⟩ rfl (Nat.le_of_ble_eq_true rfl) dX7_expect_9 ?_
    try dsimp only [Option.toList, List.cons_append, List.nil_append]
    refine s_iload1 hK dX7_expect_12 ?_
    refine s_icmp_eq (tgt := 25) hK dX7_expect_13 (by decide) (fun c_13 => ?_) (fun c_13 => ?_)
    · have hc : hr (σ 703) n a = c := c_13
      have hl : a < n := hr_0 (by rw [hc]; exact hc0)
      refine s_aload0 hK dX7_expect_25 ?_
      refine s_dup hK dX7_expect_26 ?_
      refine s_getiv (v := nI a) (h.2.2.2) (ci := 7) (k := 12) hK rfl rfl i_7 (by decide +kernel) dX7_expect_27 (by decide) (by decide) (by decide) rfl rfl ?_
      refine s_iconst (v := 1) hK dX7_expect_30 (by decide) ?_
      refine s_iadd hK dX7_expect_31 ?_
      rw [nI_1]
      refine s_putg (ci := 7) (k := 12) (ty := .int) hK rfl rfl i_7 (by decide +kernel) dX7_expect_32 tyX7_ok nmX7 (by decide) (by decide) (by decide) rfl rfl rfl (by decide +kernel) rfl rfl ?_
      show AW K _ _ _ (jA σ (a + 1))
      refine s_aload0 hK dX7_expect_35 ?_
      refine s_callV (ci := 7) hK mdX7_skip (zX7_skip n (a + 1) (h.sA (by have := h.1; omega))) gX7_expect_X7_skip rfl rfl rfl (by decide) rfl ⟨Nat.le_of_ble_eq_true rfl, Nat.le_of_ble_eq_true rfl⟩ rfl (Nat.le_of_ble_eq_true rfl) dX7_expect_36 ?_
      try dsimp only [Option.toList, List.cons_append, List.nil_append]
      rw [jA_ne (by decide), jA_jA]
      exact s_vret hK hE dX7_expect_39 (by rw [jE, if_pos (b2n c_4), if_pos c_13])
    · refine s_aload0 hK dX7_expect_16 ?_
      refine s_aload0 hK dX7_expect_17 ?_
      refine s_getiv (v := nI a) (h.2.2.2) (ci := 7) (k := 12) hK rfl rfl i_7 (by decide +kernel) dX7_expect_18 (by decide) (by decide) (by decide) rfl rfl ?_
      refine s_callV (ci := 7) hK mdX7_fail (zX7_fail a) gX7_expect_X7_fail rfl rfl rfl (by decide) rfl ⟨Nat.le_of_ble_eq_true rfl, Nat.le_of_ble_eq_true rfl⟩ rfl (Nat.le_of_ble_eq_true rfl) dX7_expect_21 ?_
      try dsimp only [Option.toList, List.cons_append, List.nil_append]
      exact s_vret hK hE dX7_expect_24 (by rw [jE, if_pos (b2n c_4), if_neg c_13])
  · exact s_vret hK hE dX7_expect_7 (by rw [jE, if_neg (fun z => by rw [b2y c_4] at z; cases z)])
