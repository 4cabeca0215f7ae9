def hr (t : Nat → Int32) (n a : Nat) : Int32 := if a < n then t a else 0
def skF (t : Nat → Int32) (n : Nat) : Nat → Nat → Nat
  | 0, a => a
  | f + 1, a => if a < n ∧ t a = 32 then skF t n f (a + 1) else a
def sk (t : Nat → Int32) (n a : Nat) : Nat := skF t n (n - a) a
theorem sk_y {t : Nat → Int32} {n a : Nat} (h : a < n) (h2 : t a = 32) : sk t n a = sk t n (a + 1) := by
  unfold sk
  rw [show n - a = (n - (a + 1)) + 1 by omega]
  exact if_pos ⟨h, h2⟩
theorem sk_n {t : Nat → Int32} {n a : Nat} (h : ¬ (a < n ∧ t a = 32)) : sk t n a = a := by
  unfold sk
  cases n - a with
  | zero => rfl
  | succ d => exact if_neg h
theorem sk_b (t : Nat → Int32) (n : Nat) : ∀ d a, n - a = d → a ≤ n → a ≤ sk t n a ∧ sk t n a ≤ n := by
  intro d
  induction d with
  | zero =>
    intro a hd hle
    rw [sk_n (by omega)]
    omega
  | succ d ih =>
    intro a hd hle
    by_cases h : a < n ∧ t a = 32
    · rw [sk_y h.1 h.2]
      have := ih (a + 1) (by omega) (by omega)
      omega
    · rw [sk_n h]
      omega
theorem sk_le {t : Nat → Int32} {n a : Nat} (h : a ≤ n) : sk t n a ≤ n := (sk_b t n _ a rfl h).2
theorem sk_ge {t : Nat → Int32} {n a : Nat} (h : a ≤ n) : a ≤ sk t n a := (sk_b t n _ a rfl h).1
def dg (c : Int32) : Bool := wi c 48 57
def deF (t : Nat → Int32) (n : Nat) : Nat → Nat → Nat
  | 0, a => a
  | f + 1, a => if a < n ∧ dg (t a) = true then deF t n f (a + 1) else a
def de (t : Nat → Int32) (n a : Nat) : Nat := deF t n (n - a) a
theorem de_y {t : Nat → Int32} {n a : Nat} (h : a < n) (h2 : dg (t a) = true) : de t n a = de t n (a + 1) := by
  unfold de
  rw [show n - a = (n - (a + 1)) + 1 by omega]
  exact if_pos ⟨h, h2⟩
theorem de_n {t : Nat → Int32} {n a : Nat} (h : ¬ (a < n ∧ dg (t a) = true)) : de t n a = a := by
  unfold de
  cases n - a with
  | zero => rfl
  | succ d => exact if_neg h
theorem de_b (t : Nat → Int32) (n : Nat) : ∀ d a, n - a = d → a ≤ n → a ≤ de t n a ∧ de t n a ≤ n := by
  intro d
  induction d with
  | zero =>
    intro a hd hle
    rw [de_n (by omega)]
    omega
  | succ d ih =>
    intro a hd hle
    by_cases h : a < n ∧ dg (t a) = true
    · rw [de_y h.1 h.2]
      have := ih (a + 1) (by omega) (by omega)
      omega
    · rw [de_n h]
      omega
theorem de_le {t : Nat → Int32} {n a : Nat} (h : a ≤ n) : de t n a ≤ n := (de_b t n _ a rfl h).2
theorem de_ge {t : Nat → Int32} {n a : Nat} (h : a ≤ n) : a ≤ de t n a := (de_b t n _ a rfl h).1
def nx1 (v c : Int32) : Int32 := if 140 < v * 10 + c - 48 then 140 else v * 10 + c - 48
def nvF (t : Nat → Int32) (n : Nat) : Nat → Nat → Int32 → Int32
  | 0, _, v => v
  | f + 1, a, v => if a < n ∧ dg (t a) = true then nvF t n f (a + 1) (nx1 v (t a)) else v
def nv (t : Nat → Int32) (n a : Nat) (v : Int32) : Int32 := nvF t n (n - a) a v
theorem nv_y {t : Nat → Int32} {n a : Nat} {v : Int32} (h : a < n) (h2 : dg (t a) = true) : nv t n a v = nv t n (a + 1) (nx1 v (t a)) := by
  unfold nv
  rw [show n - a = (n - (a + 1)) + 1 by omega]
  exact if_pos ⟨h, h2⟩
theorem nv_n {t : Nat → Int32} {n a : Nat} {v : Int32} (h : ¬ (a < n ∧ dg (t a) = true)) : nv t n a v = v := by
  unfold nv
  cases n - a with
  | zero => rfl
  | succ d => exact if_neg h
def sA (σ : aS) (a : Nat) : aS := sP σ 603 (upd (σ 603) 2 (nI a))
def sE (σ : aS) (e : Nat) : aS := sP σ 603 (upd (σ 603) 3 (nI e))
theorem sA_sA (σ : aS) (a b : Nat) : sA (sA σ a) b = sA σ b := by
  unfold sA
  rw [sP_sP, sP_same, fa_upd_twice]
theorem sA_id {σ : aS} {a : Nat} (h : σ 603 2 = nI a) : sA σ a = σ := by
  unfold sA
  rw [fa_upd_same h, sP_id]
theorem sA_ne {σ : aS} {a o : Nat} (h : o ≠ 603) : sA σ a o = σ o := sP_ne h
theorem sA_2 (σ : aS) (a : Nat) : sA σ a 603 2 = nI a := by
  unfold sA
  rw [sP_same]
  rfl
theorem sA_k (σ : aS) (a : Nat) {k : Nat} (h : k ≠ 2) : sA σ a 603 k = σ 603 k := by
  unfold sA
  rw [sP_same]
  simp [upd, h]
theorem sE_ne {σ : aS} {a o : Nat} (h : o ≠ 603) : sE σ a o = σ o := sP_ne h
theorem sE_3 (σ : aS) (a : Nat) : sE σ a 603 3 = nI a := by
  unfold sE
  rw [sP_same]
  rfl
theorem sE_k (σ : aS) (a : Nat) {k : Nat} (h : k ≠ 3) : sE σ a 603 k = σ 603 k := by
  unfold sE
  rw [sP_same]
  simp [upd, h]
def bdN (t : Nat → Int32) (n a : Nat) (lo hi : Int32) : Bool := decide (de t n a = a) || (decide (hr t n a = 48 ∧ 1 < de t n a - a) || !wi (nv t n a 0) lo hi)
/-- the reader stands within its text -/
def TX (σ : aS) (n a : Nat) : Prop := n ≤ 140 ∧ a ≤ n ∧ σ 603 1 = nI n ∧ σ 603 2 = nI a
theorem TX.sA {σ : aS} {n a b : Nat} (h : TX σ n a) (hb : b ≤ n) : TX (sA σ b) n b := ⟨h.1, hb, by rw [sA_k _ _ (by decide)]; exact h.2.2.1, sA_2 _ _⟩
theorem TX.sE {σ : aS} {n a e : Nat} (h : TX σ n a) : TX (sE σ e) n a := ⟨h.1, h.2.1, by rw [sE_k _ _ (by decide)]; exact h.2.2.1, by rw [sE_k _ _ (by decide)]; exact h.2.2.2⟩
def isK (c : Int32) : Bool := decide (c = 119 ∨ c = 99 ∨ c = 108)
def kV (c : Int32) : Int32 := if c = 119 then 0 else if c = 99 then 1 else 2
def rNs (σ : aS) (n a : Nat) (lo hi : Int32) : aS := if bdN (σ 604) n a lo hi = true then sE (sA σ (de (σ 604) n a)) a else sA σ (de (σ 604) n a)
def rNv (σ : aS) (n a : Nat) (lo hi : Int32) : Int32 := if bdN (σ 604) n a lo hi = true then -1 else nv (σ 604) n a 0
theorem hr_lt {t : Nat → Int32} {n a : Nat} (h : a < n) : hr t n a = t a := if_pos h
theorem isK_1 {c : Int32} (h : c = 119) : isK c = true := decide_eq_true (Or.inl h)
theorem isK_2 {c : Int32} (h : c = 99) : isK c = true := decide_eq_true (Or.inr (Or.inl h))
theorem isK_3 {c : Int32} (h : c = 108) : isK c = true := decide_eq_true (Or.inr (Or.inr h))
theorem mdX4_here : MD yX4_here wsX4_here cX4_here 1 (some .int) 0 := ⟨⟨_, rfl⟩, by decide +kernel, by decide +kernel, by decide +kernel⟩
theorem mdX4_skipSpaces : MD yX4_skipSpaces wsX4_skipSpaces cX4_skipSpaces 1 none 0 := ⟨⟨_, rfl⟩, by decide +kernel, by decide +kernel, by decide +kernel⟩
theorem mdX4_failAt : MD yX4_failAt wsX4_failAt cX4_failAt 2 none 1 := ⟨⟨_, rfl⟩, by decide +kernel, by decide +kernel, by decide +kernel⟩
theorem mdX4_isDigit : MD yX4_isDigit wsX4_isDigit cX4_isDigit 1 (some .boolean) 1 := ⟨⟨_, rfl⟩, by decide +kernel, by decide +kernel, by decide +kernel⟩
theorem mdX4_readNumber : MD yX4_readNumber wsX4_readNumber cX4_readNumber 7 (some .int) 2 := ⟨⟨_, rfl⟩, by decide +kernel, by decide +kernel, by decide +kernel⟩
theorem mdX4_readKind : MD yX4_readKind wsX4_readKind cX4_readKind 2 (some .int) 0 := ⟨⟨_, rfl⟩, by decide +kernel, by decide +kernel, by decide +kernel⟩
theorem mdX4_readRuns : MD yX4_readRuns wsX4_readRuns cX4_readRuns 9 none 1 := ⟨⟨_, rfl⟩, by decide +kernel, by decide +kernel, by decide +kernel⟩
theorem mdX4_readItem : MD yX4_readItem wsX4_readItem cX4_readItem 2 none 0 := ⟨⟨_, rfl⟩, by decide +kernel, by decide +kernel, by decide +kernel⟩
theorem mdX4_readText : MD yX4_readText wsX4_readText cX4_readText 3 (some .int) 1 := ⟨⟨_, rfl⟩, by decide +kernel, by decide +kernel, by decide +kernel⟩
theorem mdX4_handPictureTo : MD yX4_handPictureTo wsX4_handPictureTo cX4_handPictureTo 2 none 1 := ⟨⟨_, rfl⟩, by decide +kernel, by decide +kernel, by decide +kernel⟩
set_option maxHeartbeats 4000000 in
set_option maxRecDepth 100000 in
theorem zX4_here {g : aG} {l : Launch} {σ : aS} (n a : Nat) (h : TX σ n a) : CN g l yX4_here wsX4_here 0 0 [.ref 603] σ (some (.int (hr (σ 604) n a))) σ := by
  refine cn_of (cc := cX4_here) (nL := 1) (ret := (some .int)) (own := RX4) (by decide +kernel) rfl rfl (Nat.le_of_ble_eq_true rfl) (fun K hg hl hK hE => ?_)
  subst hg; subst hl
  have i_4 : ∀ w ∈ u_ws RX4 TX4 6, w ∈ wsX4_here := by decide +kernel
  show AW K 0 [some (.ref 603)] [] σ
  refine s_aload0 hK dX4_here_0 ?_
  refine s_getiv (v := nI a) (h.2.2.2) (ci := 4) (k := 2) hK rfl rfl i_4 (by decide +kernel) dX4_here_1 (by decide) (by decide) (by decide) rfl rfl ?_
  refine s_if_lt (tgt := 40) hK dX4_here_4 (by decide) (fun c_4 => absurd c_4 (nI_pos (by have := h.1; have := h.2.1; omega))) (fun c_4 => ?_)
  refine s_aload0 hK dX4_here_7 ?_
  refine s_getiv (v := nI a) (h.2.2.2) (ci := 4) (k := 2) hK rfl rfl i_4 (by decide +kernel) dX4_here_8 (by decide) (by decide) (by decide) rfl rfl ?_
  refine s_aload0 hK dX4_here_11 ?_
  refine s_getiv (v := nI n) (h.2.2.1) (ci := 4) (k := 1) hK rfl rfl i_4 (by decide +kernel) dX4_here_12 (by decide) (by decide) (by decide) rfl rfl ?_
  refine s_icmp_ge (tgt := 40) hK dX4_here_15 (by decide) (fun c_15 => ?_) (fun c_15 => ?_)
  · refine s_iconst (v := 0) hK dX4_here_40 (by decide) ?_
    exact s_iret hK hE dX4_here_41 rfl (by first | (rw [hr, if_pos (by rcases Nat.lt_or_ge a n with z | z; exact z; exact absurd (nI_le z (by have := h.1; have := h.2.1; omega)) c_15)]; done) | (rw [hr, if_neg (by intro z; exact absurd c_15 (nI_ge z (by have := h.1; omega)))]; done)) (rfl)
  · refine s_aload0 hK dX4_here_18 ?_
    refine s_getiv (v := nI a) (h.2.2.2) (ci := 4) (k := 2) hK rfl rfl i_4 (by decide +kernel) dX4_here_19 (by decide) (by decide) (by decide) rfl rfl ?_
    refine s_sipush (v := 140) hK dX4_here_22 (by decide) ?_
    refine s_icmp_ge (tgt := 40) hK dX4_here_25 (by decide) (fun c_25 => absurd c_25 (nI_ge (b := 140) (by have := h.1; have q := c_15; rcases Nat.lt_or_ge a n with z | z; omega; exact absurd (nI_le z (by have := h.2.1; omega)) q) (by decide))) (fun c_25 => ?_)
    refine s_aload0 hK dX4_here_28 ?_
    refine s_getr (ci := 4) (k := 0) hK rfl rfl i_4 (by decide +kernel) dX4_here_29 (by decide) (by decide) (by decide) rfl rfl (rf_4_0 rfl) ?_
    refine s_aload0 hK dX4_here_32 ?_
    refine s_getiv (v := nI a) (h.2.2.2) (ci := 4) (k := 2) hK rfl rfl i_4 (by decide +kernel) dX4_here_33 (by decide) (by decide) (by decide) rfl rfl ?_
    refine s_iald hK rfl (show vp_in _ 140 from vp_in_nI (by have := h.1; have q := c_15; rcases Nat.lt_or_ge a n with z | z; omega; exact absurd (nI_le z (by have := h.2.1; omega)) q) (by decide)) dX4_here_36 ?_
    rw [cl_nI (show a < 2 ^ 31 by have := h.1; have := h.2.1; omega)]
    refine s_goto (tgt := 41) hK dX4_here_37 (by decide) ?_
    exact s_iret hK hE dX4_here_41 rfl (by first | (rw [hr, if_pos (by rcases Nat.lt_or_ge a n with z | z; exact z; exact absurd (nI_le z (by have := h.1; have := h.2.1; omega)) c_15)]; done) | (rw [hr, if_neg (by intro z; exact absurd c_15 (nI_ge z (by have := h.1; omega)))]; done)) (rfl)
set_option maxHeartbeats 4000000 in
set_option maxRecDepth 100000 in
theorem zX4_failAt {g : aG} {l : Launch} {σ : aS} (e : Nat) : CN g l yX4_failAt wsX4_failAt 0 0 [.ref 603, .int (nI e)] σ none (sE σ e) := by
  refine cn_of (cc := cX4_failAt) (nL := 2) (ret := none) (own := RX4) (by decide +kernel) rfl rfl (Nat.le_of_ble_eq_true rfl) (fun K hg hl hK hE => ?_)
  subst hg; subst hl
  have i_4 : ∀ w ∈ u_ws RX4 TX4 6, w ∈ wsX4_failAt := by decide +kernel
  show AW K 0 [some (.ref 603), some (.int (nI e))] [] σ
  refine s_aload0 hK dX4_failAt_0 ?_
  refine s_iload1 hK dX4_failAt_1 ?_
  refine s_putg (ci := 4) (k := 3) (ty := .int) hK rfl rfl i_4 (by decide +kernel) dX4_failAt_2 tyX4_ok nmX4 (by decide) (by decide) (by decide) rfl rfl rfl (by decide +kernel) rfl rfl ?_
  exact s_vret hK hE dX4_failAt_5 (rfl)
set_option maxHeartbeats 4000000 in
set_option maxRecDepth 100000 in
theorem zX4_isDigit {g : aG} {l : Launch} {σ : aS} (c : Int32) : CN g l yX4_isDigit wsX4_isDigit 0 0 [.int c] σ (some (.int (b2 (dg c)))) σ := by
  refine cn_of (cc := cX4_isDigit) (nL := 1) (ret := (some .boolean)) (own := RX4) (by decide +kernel) rfl rfl (Nat.le_of_ble_eq_true rfl) (fun K hg hl hK hE => ?_)
  subst hg; subst hl
  show AW K 0 [some (.int c)] [] σ
  refine s_iload0 hK dX4_isDigit_0 ?_
  refine s_bipush (v := 48) hK dX4_isDigit_1 (by decide) ?_
  refine s_icmp_lt (tgt := 16) hK dX4_isDigit_3 (by decide) (fun c_3 => ?_) (fun c_3 => ?_)
  · refine s_iconst (v := 0) hK dX4_isDigit_16 (by decide) ?_
    exact s_iret hK hE dX4_isDigit_17 (by decide) (by simp [b2, dg, wi, *]) (rfl)
  · refine s_iload0 hK dX4_isDigit_6 ?_
    refine s_bipush (v := 57) hK dX4_isDigit_7 (by decide) ?_
    refine s_icmp_gt (tgt := 16) hK dX4_isDigit_9 (by decide) (fun c_9 => ?_) (fun c_9 => ?_)
    · refine s_iconst (v := 0) hK dX4_isDigit_16 (by decide) ?_
      exact s_iret hK hE dX4_isDigit_17 (by decide) (by simp [b2, dg, wi, *]) (rfl)
    · refine s_iconst (v := 1) hK dX4_isDigit_12 (by decide) ?_
      refine s_goto (tgt := 17) hK dX4_isDigit_13 (by decide) ?_
      exact s_iret hK hE dX4_isDigit_17 (by decide) (by simp [b2, dg, wi, *]) (rfl)
set_option maxHeartbeats 4000000 in
set_option maxRecDepth 100000 in
theorem zX4_skipSpaces {g : aG} {l : Launch} {σ : aS} (n a : Nat) (h : TX σ n a) : CN g l yX4_skipSpaces wsX4_skipSpaces 1 20 [.ref 603] σ none (sA σ (sk (σ 604) n a)) := by
  refine cn_of (cc := cX4_skipSpaces) (nL := 1) (ret := none) (own := RX4) (by decide +kernel) rfl rfl (Nat.le_of_ble_eq_true rfl) (fun K hg hl hK hE => ?_)
  subst hg; subst hl
  have i_4 : ∀ w ∈ u_ws RX4 TX4 6, w ∈ wsX4_skipSpaces := by decide +kernel
  show AW K 0 [some (.ref 603)] [] σ
  have hn := h.1
  have key : ∀ d b, n - b = d → b ≤ n → sk (σ 604) n b = sk (σ 604) n a → AW K 0 [some (.ref 603)] [] (sA σ b) := by
    intro d
    induction d with
    | zero =>
      intro b hd hle he
      refine s_aload0 hK dX4_skipSpaces_0 ?_
      refine s_getiv (v := nI b) (sA_2 _ _) (ci := 4) (k := 2) hK rfl rfl i_4 (by decide +kernel) dX4_skipSpaces_1 (by decide) (by decide) (by decide) rfl rfl ?_
      refine s_aload0 hK dX4_skipSpaces_4 ?_
      refine s_getiv (v := nI n) (by rw [sA_k _ _ (by decide)]; exact h.2.2.1) (ci := 4) (k := 1) hK rfl rfl i_4 (by decide +kernel) dX4_skipSpaces_5 (by decide) (by decide) (by decide) rfl rfl ?_
      refine s_icmp_ge (tgt := 33) hK dX4_skipSpaces_8 (by decide) (fun c_8 => ?_) (fun c_8 => absurd c_8 (fun q => q (nI_le (by omega) (by omega))))
      exact s_vret hK hE dX4_skipSpaces_33 (by rw [← he, sk_n (by omega)])
    | succ d ih =>
      intro b hd hle he
      refine s_aload0 hK dX4_skipSpaces_0 ?_
      refine s_getiv (v := nI b) (sA_2 _ _) (ci := 4) (k := 2) hK rfl rfl i_4 (by decide +kernel) dX4_skipSpaces_1 (by decide) (by decide) (by decide) rfl rfl ?_
      refine s_aload0 hK dX4_skipSpaces_4 ?_
      refine s_getiv (v := nI n) (by rw [sA_k _ _ (by decide)]; exact h.2.2.1) (ci := 4) (k := 1) hK rfl rfl i_4 (by decide +kernel) dX4_skipSpaces_5 (by decide) (by decide) (by decide) rfl rfl ?_
      refine s_icmp_ge (tgt := 33) hK dX4_skipSpaces_8 (by decide) (fun c_8 => absurd c_8 (nI_ge (show b < n by omega) (by omega))) (fun c_8 => ?_)
      refine s_aload0 hK dX4_skipSpaces_11 ?_
      refine s_callV (ci := 4) hK mdX4_here (zX4_here n b (h.sA hle)) gX4_skipSpaces_X4_here rfl rfl rfl (by decide) rfl ⟨Nat.le_of_ble_eq_true rfl, Nat.le_of_ble_eq_true rfl⟩ rfl (Nat.le_of_ble_eq_true rfl) dX4_skipSpaces_12 ?_
      try dsimp only [Option.toList, List.cons_append, List.nil_append]
      rw [sA_ne (by decide), hr_lt (show b < n by omega)]
      refine s_bipush (v := 32) hK dX4_skipSpaces_15 (by decide) ?_
      refine s_icmp_ne (tgt := 33) hK dX4_skipSpaces_17 (by decide) (fun c_17 => ?_) (fun c_17 => ?_)
      · exact s_vret hK hE dX4_skipSpaces_33 (by rw [← he, sk_n (fun z => c_17 z.2)])
      · refine s_aload0 hK dX4_skipSpaces_20 ?_
        refine s_dup hK dX4_skipSpaces_21 ?_
        refine s_getiv (v := nI b) (sA_2 _ _) (ci := 4) (k := 2) hK rfl rfl i_4 (by decide +kernel) dX4_skipSpaces_22 (by decide) (by decide) (by decide) rfl rfl ?_
        refine s_iconst (v := 1) hK dX4_skipSpaces_25 (by decide) ?_
        refine s_iadd hK dX4_skipSpaces_26 ?_
        rw [nI_1]
        refine s_putg (ci := 4) (k := 2) (ty := .int) hK rfl rfl i_4 (by decide +kernel) dX4_skipSpaces_27 tyX4_ok nmX4 (by decide) (by decide) (by decide) rfl rfl rfl (by decide +kernel) rfl rfl ?_
        rw [show sP (sA σ b) 603 (upd (sA σ b 603) 2 (nI (b + 1))) = sA σ (b + 1) from sA_sA σ b (b + 1)]
        refine s_goto (tgt := 0) hK dX4_skipSpaces_30 (by decide) ?_
        exact ih (b + 1) (by omega) (by omega) (by rw [← he, sk_y (by omega) c_17])
  have h0 := key (n - a) a rfl h.2.1 rfl
  rw [sA_id h.2.2.2] at h0
  exact h0
set_option maxHeartbeats 4000000 in
set_option maxRecDepth 100000 in
theorem zX4_readNumber {g : aG} {l : Launch} {σ : aS} (n a : Nat) (h : TX σ n a) (lo hi : Int32) : CN g l yX4_readNumber wsX4_readNumber 1 22 [.ref 603, .int lo, .int hi] σ (some (.int (rNv σ n a lo hi))) (rNs σ n a lo hi) := by
  refine cn_of (cc := cX4_readNumber) (nL := 7) (ret := (some .int)) (own := RX4) (by decide +kernel) rfl rfl (Nat.le_of_ble_eq_true rfl) (fun K hg hl hK hE => ?_)
  subst hg; subst hl
  have i_4 : ∀ w ∈ u_ws RX4 TX4 6, w ∈ wsX4_readNumber := by decide +kernel
  show AW K 0 [some (.ref 603), some (.int lo), some (.int hi), none, none, none, none] [] σ
  have hn := h.1
  have hge : a ≤ de (σ 604) n a := de_ge h.2.1
  have hle2 : de (σ 604) n a ≤ n := de_le h.2.1
  have hx79 : AW K 79 [some (.ref 603), some (.int lo), some (.int hi), some (.int (nI a)), some (.int (if hr (σ 604) n a = 48 then 1 else 0)), some (.int (nv (σ 604) n a 0)), none] [] (sA σ (de (σ 604) n a)) := by
    refine AW.cut (j := 99) (v := if hr (σ 604) n a = 48 ∧ 1 < de (σ 604) n a - a then 1 else 0) (fun hJ_99 => ?_) ?_
    · refine s_iload4 hK dX4_readNumber_79 ?_
      refine s_if_eq (tgt := 98) hK dX4_readNumber_81 (by decide) (fun c_81 => ?_) (fun c_81 => ?_)
      · refine s_iconst (v := 0) hK dX4_readNumber_98 (by decide) ?_
        exact AW.vv hJ_99 (by first | (rw [if_neg (fun z => by rw [if_pos z.1] at c_81; exact absurd c_81 (by decide))]; done) | (rw [if_neg (fun z => absurd c_91 (by intro q; exact absurd (nI_lt (a := 1) z.2 (by omega)) (fa_of_nle2 q)))]; done) | (rw [if_pos ⟨ite_one c_81, by rcases Nat.lt_or_ge 1 (de (σ 604) n a - a) with z | z; exact z; exact absurd (nI_le (b := 1) z (by decide)) c_91⟩]; done))
      · refine s_aload0 hK dX4_readNumber_84 ?_
        refine s_getiv (v := nI (de (σ 604) n a)) (sA_2 _ _) (ci := 4) (k := 2) hK rfl rfl i_4 (by decide +kernel) dX4_readNumber_85 (by decide) (by decide) (by decide) rfl rfl ?_
        refine s_iload3 hK dX4_readNumber_88 ?_
        refine s_isub hK dX4_readNumber_89 ?_
        rw [pk_sub hge]
        refine s_iconst (v := 1) hK dX4_readNumber_90 (by decide) ?_
        refine s_icmp_le (tgt := 98) hK dX4_readNumber_91 (by decide) (fun c_91 => ?_) (fun c_91 => ?_)
        · refine s_iconst (v := 0) hK dX4_readNumber_98 (by decide) ?_
          exact AW.vv hJ_99 (by first | (rw [if_neg (fun z => by rw [if_pos z.1] at c_81; exact absurd c_81 (by decide))]; done) | (rw [if_neg (fun z => absurd c_91 (by intro q; exact absurd (nI_lt (a := 1) z.2 (by omega)) (fa_of_nle2 q)))]; done) | (rw [if_pos ⟨ite_one c_81, by rcases Nat.lt_or_ge 1 (de (σ 604) n a - a) with z | z; exact z; exact absurd (nI_le (b := 1) z (by decide)) c_91⟩]; done))
        · refine s_iconst (v := 1) hK dX4_readNumber_94 (by decide) ?_
          refine s_goto (tgt := 99) hK dX4_readNumber_95 (by decide) ?_
          exact AW.vv hJ_99 (by first | (rw [if_neg (fun z => by rw [if_pos z.1] at c_81; exact absurd c_81 (by decide))]; done) | (rw [if_neg (fun z => absurd c_91 (by intro q; exact absurd (nI_lt (a := 1) z.2 (by omega)) (fa_of_nle2 q)))]; done) | (rw [if_pos ⟨ite_one c_81, by rcases Nat.lt_or_ge 1 (de (σ 604) n a - a) with z | z; exact z; exact absurd (nI_le (b := 1) z (by decide)) c_91⟩]; done))
    show AW K _ _ _ _
    refine s_istore6 hK dX4_readNumber_99 ?_
    refine s_aload0 hK dX4_readNumber_101 ?_
    refine s_getiv (v := nI (de (σ 604) n a)) (sA_2 _ _) (ci := 4) (k := 2) hK rfl rfl i_4 (by decide +kernel) dX4_readNumber_102 (by decide) (by decide) (by decide) rfl rfl ?_
    refine s_iload3 hK dX4_readNumber_105 ?_
    refine s_icmp_eq (tgt := 124) hK dX4_readNumber_106 (by decide) (fun c_106 => ?_) (fun c_106 => ?_)
    · refine s_aload0 hK dX4_readNumber_124 ?_
      refine s_iload3 hK dX4_readNumber_125 ?_
      refine s_callV (ci := 4) hK mdX4_failAt (zX4_failAt a) gX4_readNumber_X4_failAt rfl rfl rfl (by decide) rfl ⟨Nat.le_of_ble_eq_true rfl, Nat.le_of_ble_eq_true rfl⟩ rfl (Nat.le_of_ble_eq_true rfl) dX4_readNumber_126 ?_
      try dsimp only [Option.toList, List.cons_append, List.nil_append]
      refine s_iconst (v := -1) hK dX4_readNumber_129 (by decide) ?_
      exact s_iret hK hE dX4_readNumber_130 rfl (by rw [rNv, if_pos (by unfold bdN; first | (rw [decide_eq_true ((nI_eq (by omega) (by omega)).mp c_106)]; rfl) | (rw [decide_eq_true (p := _ ∧ _) (ite_one c_111)]; simp; done) | (rw [b2y c_121]; simp; done))]) (by rw [rNs, if_pos (by unfold bdN; first | (rw [decide_eq_true ((nI_eq (by omega) (by omega)).mp c_106)]; rfl) | (rw [decide_eq_true (p := _ ∧ _) (ite_one c_111)]; simp; done) | (rw [b2y c_121]; simp; done))])
    · refine s_iload6 hK dX4_readNumber_109 ?_
      refine s_if_ne (tgt := 124) hK dX4_readNumber_111 (by decide) (fun c_111 => ?_) (fun c_111 => ?_)
      · refine s_aload0 hK dX4_readNumber_124 ?_
        refine s_iload3 hK dX4_readNumber_125 ?_
        refine s_callV (ci := 4) hK mdX4_failAt (zX4_failAt a) gX4_readNumber_X4_failAt rfl rfl rfl (by decide) rfl ⟨Nat.le_of_ble_eq_true rfl, Nat.le_of_ble_eq_true rfl⟩ rfl (Nat.le_of_ble_eq_true rfl) dX4_readNumber_126 ?_
        try dsimp only [Option.toList, List.cons_append, List.nil_append]
        refine s_iconst (v := -1) hK dX4_readNumber_129 (by decide) ?_
        exact s_iret hK hE dX4_readNumber_130 rfl (by rw [rNv, if_pos (by unfold bdN; first | (rw [decide_eq_true ((nI_eq (by omega) (by omega)).mp c_106)]; rfl) | (rw [decide_eq_true (p := _ ∧ _) (ite_one c_111)]; simp; done) | (rw [b2y c_121]; simp; done))]) (by rw [rNs, if_pos (by unfold bdN; first | (rw [decide_eq_true ((nI_eq (by omega) (by omega)).mp c_106)]; rfl) | (rw [decide_eq_true (p := _ ∧ _) (ite_one c_111)]; simp; done) | (rw [b2y c_121]; simp; done))])
      · refine s_iload5 hK dX4_readNumber_114 ?_
        refine s_iload1 hK dX4_readNumber_116 ?_
        refine s_iload2 hK dX4_readNumber_117 ?_
        refine s_callN (host := RX6) hK mdX6_isWithin (zX6_isWithin _ _ _) gX4_readNumber_X6_isWithin_n80 (by decide +kernel) (by decide +kernel) (by decide +kernel) rfl ⟨Nat.le_of_ble_eq_true rfl, Nat.le_of_ble_eq_true rfl⟩ rfl (Nat.le_of_ble_eq_true rfl) dX4_readNumber_118 ?_
        try dsimp only [Option.toList, List.cons_append, List.nil_append]
        refine s_if_ne (tgt := 131) hK dX4_readNumber_121 (by decide) (fun c_121 => ?_) (fun c_121 => ?_)
        · refine s_iload5 hK dX4_readNumber_131 ?_
          exact s_iret hK hE dX4_readNumber_133 rfl (by rw [rNv, if_neg (by unfold bdN; rw [decide_eq_false (p := de (σ 604) n a = a) (fun z => c_106 (by rw [z])), decide_eq_false (p := _ ∧ _) (ite_zero c_111), b2n c_121]; decide)]) (by rw [rNs, if_neg (by unfold bdN; rw [decide_eq_false (p := de (σ 604) n a = a) (fun z => c_106 (by rw [z])), decide_eq_false (p := _ ∧ _) (ite_zero c_111), b2n c_121]; decide)])
        · refine s_aload0 hK dX4_readNumber_124 ?_
          refine s_iload3 hK dX4_readNumber_125 ?_
          refine s_callV (ci := 4) hK mdX4_failAt (zX4_failAt a) gX4_readNumber_X4_failAt rfl rfl rfl (by decide) rfl ⟨Nat.le_of_ble_eq_true rfl, Nat.le_of_ble_eq_true rfl⟩ rfl (Nat.le_of_ble_eq_true rfl) dX4_readNumber_126 ?_
          try dsimp only [Option.toList, List.cons_append, List.nil_append]
          refine s_iconst (v := -1) hK dX4_readNumber_129 (by decide) ?_
          exact s_iret hK hE dX4_readNumber_130 rfl (by rw [rNv, if_pos (by unfold bdN; first | (rw [decide_eq_true ((nI_eq (by omega) (by omega)).mp c_106)]; rfl) | (rw [decide_eq_true (p := _ ∧ _) (ite_one c_111)]; simp; done) | (rw [b2y c_121]; simp; done))]) (by rw [rNs, if_pos (by unfold bdN; first | (rw [decide_eq_true ((nI_eq (by omega) (by omega)).mp c_106)]; rfl) | (rw [decide_eq_true (p := _ ∧ _) (ite_one c_111)]; simp; done) | (rw [b2y c_121]; simp; done))])
  have key : ∀ d b v, n - b = d → b ≤ n → de (σ 604) n b = de (σ 604) n a → nv (σ 604) n b v = nv (σ 604) n a 0 → AW K 24 [some (.ref 603), some (.int lo), some (.int hi), some (.int (nI a)), some (.int (if hr (σ 604) n a = 48 then 1 else 0)), some (.int (v)), none] [] (sA σ b) := by
    intro d
    induction d with
    | zero =>
      intro b v hd hle he hv
      refine s_aload0 hK dX4_readNumber_24 ?_
      refine s_getiv (v := nI b) (sA_2 _ _) (ci := 4) (k := 2) hK rfl rfl i_4 (by decide +kernel) dX4_readNumber_25 (by decide) (by decide) (by decide) rfl rfl ?_
      refine s_aload0 hK dX4_readNumber_28 ?_
      refine s_getiv (v := nI n) (by rw [sA_k _ _ (by decide)]; exact h.2.2.1) (ci := 4) (k := 1) hK rfl rfl i_4 (by decide +kernel) dX4_readNumber_29 (by decide) (by decide) (by decide) rfl rfl ?_
      refine s_icmp_ge (tgt := 79) hK dX4_readNumber_32 (by decide) (fun c_32 => ?_) (fun c_32 => absurd c_32 (fun q => q (nI_le (by omega) (by omega))))
      have e1 : b = de (σ 604) n a := by rw [← he, de_n (by omega)]
      have e2 : v = nv (σ 604) n a 0 := by rw [← hv, nv_n (by omega)]
      rw [e2, show sA σ b = sA σ (de (σ 604) n a) from by rw [e1]]
      exact hx79
    | succ d ih =>
      intro b v hd hle he hv
      refine s_aload0 hK dX4_readNumber_24 ?_
      refine s_getiv (v := nI b) (sA_2 _ _) (ci := 4) (k := 2) hK rfl rfl i_4 (by decide +kernel) dX4_readNumber_25 (by decide) (by decide) (by decide) rfl rfl ?_
      refine s_aload0 hK dX4_readNumber_28 ?_
      refine s_getiv (v := nI n) (by rw [sA_k _ _ (by decide)]; exact h.2.2.1) (ci := 4) (k := 1) hK rfl rfl i_4 (by decide +kernel) dX4_readNumber_29 (by decide) (by decide) (by decide) rfl rfl ?_
      refine s_icmp_ge (tgt := 79) hK dX4_readNumber_32 (by decide) (fun c_32 => absurd c_32 (nI_ge (show b < n by omega) (by omega))) (fun c_32 => ?_)
      refine s_aload0 hK dX4_readNumber_35 ?_
      refine s_callV (ci := 4) hK mdX4_here (zX4_here n b (h.sA hle)) gX4_readNumber_X4_here rfl rfl rfl (by decide) rfl ⟨Nat.le_of_ble_eq_true rfl, Nat.le_of_ble_eq_true rfl⟩ rfl (Nat.le_of_ble_eq_true rfl) dX4_readNumber_36 ?_
      try dsimp only [Option.toList, List.cons_append, List.nil_append]
      rw [sA_ne (by decide), hr_lt (show b < n by omega)]
      refine s_callS hK mdX4_isDigit (zX4_isDigit _) gX4_readNumber_X4_isDigit rfl ⟨Nat.le_of_ble_eq_true rfl, Nat.le_of_ble_eq_true rfl⟩ rfl (Nat.le_of_ble_eq_true rfl) dX4_readNumber_39 ?_
      try dsimp only [Option.toList, List.cons_append, List.nil_append]
      refine s_if_eq (tgt := 79) hK dX4_readNumber_42 (by decide) (fun c_42 => ?_) (fun c_42 => ?_)
      · have e1 : b = de (σ 604) n a := by rw [← he, de_n ((fun z => by have q := b2y c_42; rw [z.2] at q; cases q))]
        have e2 : v = nv (σ 604) n a 0 := by rw [← hv, nv_n ((fun z => by have q := b2y c_42; rw [z.2] at q; cases q))]
        rw [e2, show sA σ b = sA σ (de (σ 604) n a) from by rw [e1]]
        exact hx79
      · refine s_iload5 hK dX4_readNumber_45 ?_
        refine s_bipush (v := 10) hK dX4_readNumber_47 (by decide) ?_
        refine s_imul hK dX4_readNumber_49 ?_
        refine s_aload0 hK dX4_readNumber_50 ?_
        refine s_callV (ci := 4) hK mdX4_here (zX4_here n b (h.sA hle)) gX4_readNumber_X4_here rfl rfl rfl (by decide) rfl ⟨Nat.le_of_ble_eq_true rfl, Nat.le_of_ble_eq_true rfl⟩ rfl (Nat.le_of_ble_eq_true rfl) dX4_readNumber_51 ?_
        try dsimp only [Option.toList, List.cons_append, List.nil_append]
        rw [sA_ne (by decide), hr_lt (show b < n by omega)]
        refine s_iadd hK dX4_readNumber_54 ?_
        refine s_bipush (v := 48) hK dX4_readNumber_55 (by decide) ?_
        refine s_isub hK dX4_readNumber_57 ?_
        refine s_sipush (v := 140) hK dX4_readNumber_58 (by decide) ?_
        refine s_mmin hK (by decide +kernel) (by decide +kernel) (by decide +kernel) (by decide +kernel) (by decide) (Nat.le_of_ble_eq_true rfl) dX4_readNumber_61 ?_
        rw [show (if (140 : Int32) < v * 10 + σ 604 b - 48 then 140 else v * 10 + σ 604 b - 48) = nx1 v (σ 604 b) from rfl]
        refine s_istore5 hK dX4_readNumber_64 ?_
        refine s_aload0 hK dX4_readNumber_66 ?_
        refine s_dup hK dX4_readNumber_67 ?_
        refine s_getiv (v := nI b) (sA_2 _ _) (ci := 4) (k := 2) hK rfl rfl i_4 (by decide +kernel) dX4_readNumber_68 (by decide) (by decide) (by decide) rfl rfl ?_
        refine s_iconst (v := 1) hK dX4_readNumber_71 (by decide) ?_
        refine s_iadd hK dX4_readNumber_72 ?_
        rw [nI_1]
        refine s_putg (ci := 4) (k := 2) (ty := .int) hK rfl rfl i_4 (by decide +kernel) dX4_readNumber_73 tyX4_ok nmX4 (by decide) (by decide) (by decide) rfl rfl rfl (by decide +kernel) rfl rfl ?_
        rw [show sP (sA σ b) 603 (upd (sA σ b 603) 2 (nI (b + 1))) = sA σ (b + 1) from sA_sA σ b (b + 1)]
        refine s_goto (tgt := 24) hK dX4_readNumber_76 (by decide) ?_
        exact ih (b + 1) _ (by omega) (by omega) (by rw [← he, de_y (by omega) (b2n c_42)]) (by rw [← hv, nv_y (by omega) (b2n c_42)])
  refine s_aload0 hK dX4_readNumber_0 ?_
  refine s_getiv (v := nI a) (h.2.2.2) (ci := 4) (k := 2) hK rfl rfl i_4 (by decide +kernel) dX4_readNumber_1 (by decide) (by decide) (by decide) rfl rfl ?_
  refine s_istore3 hK dX4_readNumber_4 ?_
  refine AW.cut (j := 19) (v := if hr (σ 604) n a = 48 then 1 else 0) (fun hJ_19 => ?_) ?_
  · refine s_aload0 hK dX4_readNumber_5 ?_
    refine s_callV (ci := 4) hK mdX4_here (zX4_here n a h) gX4_readNumber_X4_here rfl rfl rfl (by decide) rfl ⟨Nat.le_of_ble_eq_true rfl, Nat.le_of_ble_eq_true rfl⟩ rfl (Nat.le_of_ble_eq_true rfl) dX4_readNumber_6 ?_
    try dsimp only [Option.toList, List.cons_append, List.nil_append]
    refine s_bipush (v := 48) hK dX4_readNumber_9 (by decide) ?_
    refine s_icmp_ne (tgt := 18) hK dX4_readNumber_11 (by decide) (fun c_11 => ?_) (fun c_11 => ?_)
    · refine s_iconst (v := 0) hK dX4_readNumber_18 (by decide) ?_
      exact AW.vv hJ_19 (by simp [c_11])
    · refine s_iconst (v := 1) hK dX4_readNumber_14 (by decide) ?_
      refine s_goto (tgt := 19) hK dX4_readNumber_15 (by decide) ?_
      exact AW.vv hJ_19 (by simp [c_11])
  show AW K _ _ _ _
  refine s_istore4 hK dX4_readNumber_19 ?_
  refine s_iconst (v := 0) hK dX4_readNumber_21 (by decide) ?_
  refine s_istore5 hK dX4_readNumber_22 ?_
  have h0 := key (n - a) a 0 rfl h.2.1 rfl rfl
  rw [sA_id h.2.2.2] at h0
  exact h0
def rKs (σ : aS) (n a : Nat) : aS := if isK (hr (σ 604) n (sk (σ 604) n a)) = true then sA σ (sk (σ 604) n a + 1) else sE (sA σ (sk (σ 604) n a)) (sk (σ 604) n a)
def rKv (σ : aS) (n a : Nat) : Int32 := if isK (hr (σ 604) n (sk (σ 604) n a)) = true then kV (hr (σ 604) n (sk (σ 604) n a)) else 0
set_option maxHeartbeats 4000000 in
set_option maxRecDepth 100000 in
theorem zX4_readKind {g : aG} {l : Launch} {σ : aS} (n a : Nat) (h : TX σ n a) : CN g l yX4_readKind wsX4_readKind 2 40 [.ref 603] σ (some (.int (rKv σ n a))) (rKs σ n a) := by
  refine cn_of (cc := cX4_readKind) (nL := 2) (ret := (some .int)) (own := RX4) (by decide +kernel) rfl rfl (Nat.le_of_ble_eq_true rfl) (fun K hg hl hK hE => ?_)
  subst hg; subst hl
  have i_4 : ∀ w ∈ u_ws RX4 TX4 6, w ∈ wsX4_readKind := by decide +kernel
  show AW K 0 [some (.ref 603), none] [] σ
  refine s_aload0 hK dX4_readKind_0 ?_
  refine s_callV (ci := 4) hK mdX4_skipSpaces (zX4_skipSpaces n a h) gX4_readKind_X4_skipSpaces rfl rfl rfl (by decide) rfl ⟨Nat.le_of_ble_eq_true rfl, Nat.le_of_ble_eq_true rfl⟩ rfl (Nat.le_of_ble_eq_true rfl) dX4_readKind_1 ?_
  try dsimp only [Option.toList, List.cons_append, List.nil_append]
  refine s_aload0 hK dX4_readKind_4 ?_
  refine s_callV (ci := 4) hK mdX4_here (zX4_here n (sk (σ 604) n a) (h.sA (sk_le h.2.1))) gX4_readKind_X4_here rfl rfl rfl (by decide) rfl ⟨Nat.le_of_ble_eq_true rfl, Nat.le_of_ble_eq_true rfl⟩ rfl (Nat.le_of_ble_eq_true rfl) dX4_readKind_5 ?_
  try dsimp only [Option.toList, List.cons_append, List.nil_append]
  rw [sA_ne (by decide)]
  refine s_istore1 hK dX4_readKind_8 ?_
  refine s_iload1 hK dX4_readKind_9 ?_
  refine s_bipush (v := 119) hK dX4_readKind_10 (by decide) ?_
  refine s_icmp_eq (tgt := 37) hK dX4_readKind_12 (by decide) (fun c_12 => ?_) (fun c_12 => ?_)
  · refine s_aload0 hK dX4_readKind_37 ?_
    refine s_dup hK dX4_readKind_38 ?_
    refine s_getiv (v := nI (sk (σ 604) n a)) (sA_2 _ _) (ci := 4) (k := 2) hK rfl rfl i_4 (by decide +kernel) dX4_readKind_39 (by decide) (by decide) (by decide) rfl rfl ?_
    refine s_iconst (v := 1) hK dX4_readKind_42 (by decide) ?_
    refine s_iadd hK dX4_readKind_43 ?_
    rw [nI_1]
    refine s_putg (ci := 4) (k := 2) (ty := .int) hK rfl rfl i_4 (by decide +kernel) dX4_readKind_44 tyX4_ok nmX4 (by decide) (by decide) (by decide) rfl rfl rfl (by decide +kernel) rfl rfl ?_
    rw [show sP (sA σ (sk (σ 604) n a)) 603 (upd (sA σ (sk (σ 604) n a) 603) 2 (nI (sk (σ 604) n a + 1))) = sA σ (sk (σ 604) n a + 1) from sA_sA σ _ _]
    refine s_iload1 hK dX4_readKind_47 ?_
    refine s_bipush (v := 119) hK dX4_readKind_48 (by decide) ?_
    refine s_icmp_ne (tgt := 55) hK dX4_readKind_50 (by decide) (fun c_50 => ?_) (fun c_50 => ?_)
    · refine s_iload1 hK dX4_readKind_55 ?_
      refine s_bipush (v := 99) hK dX4_readKind_56 (by decide) ?_
      refine s_icmp_ne (tgt := 65) hK dX4_readKind_58 (by decide) (fun c_58 => ?_) (fun c_58 => ?_)
      · refine s_iconst (v := 2) hK dX4_readKind_65 (by decide) ?_
        exact s_iret hK hE dX4_readKind_66 rfl (by rw [rKv, if_pos (by first | exact isK_1 c_12 | exact isK_2 c_18 | exact isK_3 c_24)]; first | (simp [kV, c_50, c_58]; done) | (simp [kV, c_50]; done)) (by rw [rKs, if_pos (by first | exact isK_1 c_12 | exact isK_2 c_18 | exact isK_3 c_24)])
      · refine s_iconst (v := 1) hK dX4_readKind_61 (by decide) ?_
        refine s_goto (tgt := 66) hK dX4_readKind_62 (by decide) ?_
        exact s_iret hK hE dX4_readKind_66 rfl (by rw [rKv, if_pos (by first | exact isK_1 c_12 | exact isK_2 c_18 | exact isK_3 c_24)]; first | (simp [kV, c_50, c_58]; done) | (simp [kV, c_50]; done)) (by rw [rKs, if_pos (by first | exact isK_1 c_12 | exact isK_2 c_18 | exact isK_3 c_24)])
    · refine s_iconst (v := 0) hK dX4_readKind_53 (by decide) ?_
      exact s_iret hK hE dX4_readKind_54 rfl (by rw [rKv, if_pos (by first | exact isK_1 c_12 | exact isK_2 c_18 | exact isK_3 c_24)]; first | (simp [kV, c_50, c_58]; done) | (simp [kV, c_50]; done)) (by rw [rKs, if_pos (by first | exact isK_1 c_12 | exact isK_2 c_18 | exact isK_3 c_24)])
  · refine s_iload1 hK dX4_readKind_15 ?_
    refine s_bipush (v := 99) hK dX4_readKind_16 (by decide) ?_
    refine s_icmp_eq (tgt := 37) hK dX4_readKind_18 (by decide) (fun c_18 => ?_) (fun c_18 => ?_)
    · refine s_aload0 hK dX4_readKind_37 ?_
      refine s_dup hK dX4_readKind_38 ?_
      refine s_getiv (v := nI (sk (σ 604) n a)) (sA_2 _ _) (ci := 4) (k := 2) hK rfl rfl i_4 (by decide +kernel) dX4_readKind_39 (by decide) (by decide) (by decide) rfl rfl ?_
      refine s_iconst (v := 1) hK dX4_readKind_42 (by decide) ?_
      refine s_iadd hK dX4_readKind_43 ?_
      rw [nI_1]
      refine s_putg (ci := 4) (k := 2) (ty := .int) hK rfl rfl i_4 (by decide +kernel) dX4_readKind_44 tyX4_ok nmX4 (by decide) (by decide) (by decide) rfl rfl rfl (by decide +kernel) rfl rfl ?_
      rw [show sP (sA σ (sk (σ 604) n a)) 603 (upd (sA σ (sk (σ 604) n a) 603) 2 (nI (sk (σ 604) n a + 1))) = sA σ (sk (σ 604) n a + 1) from sA_sA σ _ _]
      refine s_iload1 hK dX4_readKind_47 ?_
      refine s_bipush (v := 119) hK dX4_readKind_48 (by decide) ?_
      refine s_icmp_ne (tgt := 55) hK dX4_readKind_50 (by decide) (fun c_50 => ?_) (fun c_50 => ?_)
      · refine s_iload1 hK dX4_readKind_55 ?_
        refine s_bipush (v := 99) hK dX4_readKind_56 (by decide) ?_
        refine s_icmp_ne (tgt := 65) hK dX4_readKind_58 (by decide) (fun c_58 => ?_) (fun c_58 => ?_)
        · refine s_iconst (v := 2) hK dX4_readKind_65 (by decide) ?_
          exact s_iret hK hE dX4_readKind_66 rfl (by rw [rKv, if_pos (by first | exact isK_1 c_12 | exact isK_2 c_18 | exact isK_3 c_24)]; first | (simp [kV, c_50, c_58]; done) | (simp [kV, c_50]; done)) (by rw [rKs, if_pos (by first | exact isK_1 c_12 | exact isK_2 c_18 | exact isK_3 c_24)])
        · refine s_iconst (v := 1) hK dX4_readKind_61 (by decide) ?_
          refine s_goto (tgt := 66) hK dX4_readKind_62 (by decide) ?_
          exact s_iret hK hE dX4_readKind_66 rfl (by rw [rKv, if_pos (by first | exact isK_1 c_12 | exact isK_2 c_18 | exact isK_3 c_24)]; first | (simp [kV, c_50, c_58]; done) | (simp [kV, c_50]; done)) (by rw [rKs, if_pos (by first | exact isK_1 c_12 | exact isK_2 c_18 | exact isK_3 c_24)])
      · refine s_iconst (v := 0) hK dX4_readKind_53 (by decide) ?_
        exact s_iret hK hE dX4_readKind_54 rfl (by rw [rKv, if_pos (by first | exact isK_1 c_12 | exact isK_2 c_18 | exact isK_3 c_24)]; first | (simp [kV, c_50, c_58]; done) | (simp [kV, c_50]; done)) (by rw [rKs, if_pos (by first | exact isK_1 c_12 | exact isK_2 c_18 | exact isK_3 c_24)])
    · refine s_iload1 hK dX4_readKind_21 ?_
      refine s_bipush (v := 108) hK dX4_readKind_22 (by decide) ?_
      refine s_icmp_eq (tgt := 37) hK dX4_readKind_24 (by decide) (fun c_24 => ?_) (fun c_24 => ?_)
      · refine s_aload0 hK dX4_readKind_37 ?_
        refine s_dup hK dX4_readKind_38 ?_
        refine s_getiv (v := nI (sk (σ 604) n a)) (sA_2 _ _) (ci := 4) (k := 2) hK rfl rfl i_4 (by decide +kernel) dX4_readKind_39 (by decide) (by decide) (by decide) rfl rfl ?_
        refine s_iconst (v := 1) hK dX4_readKind_42 (by decide) ?_
        refine s_iadd hK dX4_readKind_43 ?_
        rw [nI_1]
        refine s_putg (ci := 4) (k := 2) (ty := .int) hK rfl rfl i_4 (by decide +kernel) dX4_readKind_44 tyX4_ok nmX4 (by decide) (by decide) (by decide) rfl rfl rfl (by decide +kernel) rfl rfl ?_
        rw [show sP (sA σ (sk (σ 604) n a)) 603 (upd (sA σ (sk (σ 604) n a) 603) 2 (nI (sk (σ 604) n a + 1))) = sA σ (sk (σ 604) n a + 1) from sA_sA σ _ _]
        refine s_iload1 hK dX4_readKind_47 ?_
        refine s_bipush (v := 119) hK dX4_readKind_48 (by decide) ?_
        refine s_icmp_ne (tgt := 55) hK dX4_readKind_50 (by decide) (fun c_50 => ?_) (fun c_50 => ?_)
        · refine s_iload1 hK dX4_readKind_55 ?_
          refine s_bipush (v := 99) hK dX4_readKind_56 (by decide) ?_
          refine s_icmp_ne (tgt := 65) hK dX4_readKind_58 (by decide) (fun c_58 => ?_) (fun c_58 => ?_)
          · refine s_iconst (v := 2) hK dX4_readKind_65 (by decide) ?_
            exact s_iret hK hE dX4_readKind_66 rfl (by rw [rKv, if_pos (by first | exact isK_1 c_12 | exact isK_2 c_18 | exact isK_3 c_24)]; first | (simp [kV, c_50, c_58]; done) | (simp [kV, c_50]; done)) (by rw [rKs, if_pos (by first | exact isK_1 c_12 | exact isK_2 c_18 | exact isK_3 c_24)])
          · refine s_iconst (v := 1) hK dX4_readKind_61 (by decide) ?_
            refine s_goto (tgt := 66) hK dX4_readKind_62 (by decide) ?_
            exact s_iret hK hE dX4_readKind_66 rfl (by rw [rKv, if_pos (by first | exact isK_1 c_12 | exact isK_2 c_18 | exact isK_3 c_24)]; first | (simp [kV, c_50, c_58]; done) | (simp [kV, c_50]; done)) (by rw [rKs, if_pos (by first | exact isK_1 c_12 | exact isK_2 c_18 | exact isK_3 c_24)])
        · refine s_iconst (v := 0) hK dX4_readKind_53 (by decide) ?_
          exact s_iret hK hE dX4_readKind_54 rfl (by rw [rKv, if_pos (by first | exact isK_1 c_12 | exact isK_2 c_18 | exact isK_3 c_24)]; first | (simp [kV, c_50, c_58]; done) | (simp [kV, c_50]; done)) (by rw [rKs, if_pos (by first | exact isK_1 c_12 | exact isK_2 c_18 | exact isK_3 c_24)])
      · refine s_aload0 hK dX4_readKind_27 ?_
        refine s_aload0 hK dX4_readKind_28 ?_
        refine s_getiv (v := nI (sk (σ 604) n a)) (sA_2 _ _) (ci := 4) (k := 2) hK rfl rfl i_4 (by decide +kernel) dX4_readKind_29 (by decide) (by decide) (by decide) rfl rfl ?_
        refine s_callV (ci := 4) hK mdX4_failAt (zX4_failAt (sk (σ 604) n a)) gX4_readKind_X4_failAt rfl rfl rfl (by decide) rfl ⟨Nat.le_of_ble_eq_true rfl, Nat.le_of_ble_eq_true rfl⟩ rfl (Nat.le_of_ble_eq_true rfl) dX4_readKind_32 ?_
        try dsimp only [Option.toList, List.cons_append, List.nil_append]
        refine s_iconst (v := 0) hK dX4_readKind_35 (by decide) ?_
        exact s_iret hK hE dX4_readKind_36 rfl (by rw [rKv, if_neg (fun z => by have z := of_decide_eq_true z; rcases z with z | z | z; exact c_12 z; exact c_18 z; exact c_24 z)]) (by rw [rKs, if_neg (fun z => by have z := of_decide_eq_true z; rcases z with z | z | z; exact c_12 z; exact c_18 z; exact c_24 z)])
set_option maxHeartbeats 4000000 in
set_option maxRecDepth 100000 in
theorem zX4_handPictureTo {g : aG} {l : Launch} {σ : aS} : CN g l yX4_handPictureTo wsX4_handPictureTo 2 47 [.ref 603, .ref 10] σ none (bL (bL σ 15 609) 16 610) := by
  refine cn_of (cc := cX4_handPictureTo) (nL := 2) (ret := none) (own := RX4) (by decide +kernel) rfl rfl (Nat.le_of_ble_eq_true rfl) (fun K hg hl hK hE => ?_)
  subst hg; subst hl
  have i_0 : ∀ w ∈ u_ws RX0 TX0 5, w ∈ wsX4_handPictureTo := by decide +kernel
  have i_4 : ∀ w ∈ u_ws RX4 TX4 6, w ∈ wsX4_handPictureTo := by decide +kernel
  show AW K 0 [some (.ref 603), some (.ref 10)] [] σ
  refine s_aload1 hK dX4_handPictureTo_0 ?_
  refine s_getr (ci := 0) (k := 0) hK rfl rfl i_0 (by decide +kernel) dX4_handPictureTo_1 (by decide) (by decide) (by decide) rfl rfl (rf_0_0 rfl) ?_
  refine s_aload0 hK dX4_handPictureTo_4 ?_
  refine s_getr (ci := 4) (k := 4) hK rfl rfl i_4 (by decide +kernel) dX4_handPictureTo_5 (by decide) (by decide) (by decide) rfl rfl (rf_4_4 rfl) ?_
  refine s_callV (ci := 1) hK mdX1_becomeLike (zX1_becomeLike 11 605 rfl rfl) gX4_handPictureTo_X1_becomeLike rfl rfl rfl (by decide) rfl ⟨Nat.le_of_ble_eq_true rfl, Nat.le_of_ble_eq_true rfl⟩ rfl (Nat.le_of_ble_eq_true rfl) dX4_handPictureTo_8 ?_
  try dsimp only [Option.toList, List.cons_append, List.nil_append]
  refine s_aload1 hK dX4_handPictureTo_11 ?_
  refine s_getr (ci := 0) (k := 1) hK rfl rfl i_0 (by decide +kernel) dX4_handPictureTo_12 (by decide) (by decide) (by decide) rfl rfl (rf_0_1 rfl) ?_
  refine s_aload0 hK dX4_handPictureTo_15 ?_
  refine s_getr (ci := 4) (k := 5) hK rfl rfl i_4 (by decide +kernel) dX4_handPictureTo_16 (by decide) (by decide) (by decide) rfl rfl (rf_4_5 rfl) ?_
  refine s_callV (ci := 1) hK mdX1_becomeLike (zX1_becomeLike 12 606 rfl rfl) gX4_handPictureTo_X1_becomeLike rfl rfl rfl (by decide) rfl ⟨Nat.le_of_ble_eq_true rfl, Nat.le_of_ble_eq_true rfl⟩ rfl (Nat.le_of_ble_eq_true rfl) dX4_handPictureTo_19 ?_
  try dsimp only [Option.toList, List.cons_append, List.nil_append]
  exact s_vret hK hE dX4_handPictureTo_22 (rfl)
