theorem wi_nat {v : Int32} {lo hi : Nat} (hl : lo < 2 ^ 31) (hh : hi < 2 ^ 30) (h : wi v (nI lo) (nI hi) = true) : ∃ m : Nat, lo ≤ m ∧ m ≤ hi ∧ v = nI m := by
  have h := of_decide_eq_true h
  rcases pk_ix v (n := hi + 1) (by omega) with q | q | ⟨m, h1, h2⟩
  · exact absurd (Int32.lt_of_lt_of_le q (nI_nn (a := lo) hl)) h.1
  · exact absurd (Int32.lt_of_lt_of_le (nI_lt (a := hi) (b := hi + 1) (by omega) (by omega)) q) h.2
  · refine ⟨m, ?_, by omega, h2⟩
    rcases Nat.lt_or_ge m lo with z | z
    · exact absurd (by rw [h2]; exact nI_lt z hl) h.1
    · exact z
theorem jG_ne {σ : aS} {n a o : Nat} {lo hi : Int32} (h : o ≠ 700) : jG σ n a lo hi o = σ o := by
  unfold jG
  split
  · rw [jF_ne h, jA_ne h]
  · exact jA_ne h
theorem jN_ne {σ : aS} {n a o : Nat} {lo hi : Int32} (h : o ≠ 700) : jN σ n a lo hi o = σ o := by
  unfold jN
  rw [jA_ne h, jG_ne h]
/-- where the number ends -/
def e1 (σ : aS) (n a : Nat) : Nat := sk (σ 703) n (de (σ 703) n a)
theorem e1_le {σ : aS} {n a : Nat} (ha : a ≤ n) : e1 σ n a ≤ n := sk_le (de_le ha)
theorem e1_ge {σ : aS} {n a : Nat} (ha : a ≤ n) : a ≤ e1 σ n a := Nat.le_trans (de_ge (t := σ 703) ha) (sk_ge (de_le (t := σ 703) ha))
theorem JX.sN {σ : aS} {n a : Nat} (h : JX σ n a) (ha : a ≤ n) (lo hi : Int32) : JX (jN σ n a lo hi) n (e1 σ n a) := by
  have h1 := e1_le (σ := σ) ha
  have h2 := h.1
  have hd := de_le (t := σ 703) ha
  unfold jN
  refine JX.sA (a := de (σ 703) n a) ?_ (by unfold e1 at h1; omega)
  unfold jG
  split
  · exact (h.sA (by omega)).sF
  · exact h.sA (by omega)
theorem jN_wl {σ : aS} {n a : Nat} {lo hi : Int32} (ha : a ≤ 141) (h : wl (jN σ n a lo hi) = true) : bdM (σ 703) n a lo hi = false ∧ wl σ = true := by
  unfold jN at h
  rw [wl_jA] at h
  unfold jG at h
  cases hb : bdM (σ 703) n a lo hi with
  | true =>
    rw [if_pos hb, wl_jF _ ha] at h
    cases h
  | false =>
    rw [hb, if_neg (by decide), wl_jA] at h
    exact ⟨rfl, h⟩
theorem bdM_wi {t : Nat → Int32} {n a : Nat} {lo hi : Int32} (h : bdM t n a lo hi = false) : wi (nw t n a 0) lo hi = true := by
  unfold bdM at h
  cases hw : wi (nw t n a 0) lo hi with
  | true => rfl
  | false =>
    rw [hw] at h
    simp at h
def jM (σ : aS) (n a : Nat) : Int32 := nw (σ 703) n a 0
def jP (σ : aS) (n a fr : Nat) : aS := if wl (jN σ n a 1 16) = true ∧ 16 < nI fr + jM σ n a then jF (jN σ n a 1 16) a else jN σ n a 1 16
theorem jP_ne {σ : aS} {n a fr o : Nat} (h : o ≠ 700) : jP σ n a fr o = σ o := by
  unfold jP
  split
  · rw [jF_ne h, jN_ne h]
  · exact jN_ne h
theorem JX.sP {σ : aS} {n a : Nat} (h : JX σ n a) (ha : a ≤ n) (fr : Nat) : JX (jP σ n a fr) n (e1 σ n a) := by
  unfold jP
  split
  · exact (h.sN ha 1 16).sF
  · exact h.sN ha 1 16
theorem jP_wl {σ : aS} {n a fr : Nat} (ha : a ≤ 141) (hf : fr ≤ 16) (h : wl (jP σ n a fr) = true) : ∃ m : Nat, 1 ≤ m ∧ fr + m ≤ 16 ∧ jM σ n a = nI m := by
  unfold jP at h
  by_cases c : wl (jN σ n a 1 16) = true ∧ 16 < nI fr + jM σ n a
  · rw [if_pos c, wl_jF _ ha] at h
    cases h
  · rw [if_neg c] at h
    obtain ⟨m, h1, h2, h3⟩ := wi_nat (lo := 1) (hi := 16) (by decide) (by decide) (bdM_wi (jN_wl ha h).1)
    refine ⟨m, h1, ?_, h3⟩
    rcases Nat.lt_or_ge 16 (fr + m) with z | z
    · exact absurd ⟨h, by rw [show jM σ n a = nI m from h3, nI_add]; exact nI_lt (a := 16) z (by omega)⟩ c
    · exact z
theorem jH_ne {σ : aS} {n a o : Nat} (h : o ≠ 700) : jH σ n a o = σ o := by
  unfold jH
  split
  · rfl
  · exact jF_ne h
theorem jK_ne {σ : aS} {n a o : Nat} (h : o ≠ 700) : jK σ n a o = σ o := by
  unfold jK
  rw [jA_ne h, jH_ne h]
theorem JX.sK {σ : aS} {n a : Nat} (h : JX σ n a) (ha : a ≤ n) : JX (jK σ n a) n (sk (σ 703) n (a + 1)) := by
  have h2 := h.1
  unfold jK
  refine JX.sA (a := a) ?_ (sk_w _ h2 (by omega))
  unfold jH
  split
  · exact h
  · exact h.sF
theorem jK_wl {σ : aS} {n a : Nat} (ha : a ≤ 141) (h : wl (jK σ n a) = true) : a < n := by
  unfold jK at h
  rw [wl_jA] at h
  unfold jH at h
  by_cases c : isK (hr (σ 703) n a) = true
  · exact isK_lt c
  · rw [if_neg c, wl_jF _ ha] at h
    cases h
def jU (σ : aS) (n a fr : Nat) : aS := jK (jP σ n a fr) n (e1 σ n a)
def jv (σ : aS) (n a : Nat) : Int32 := jKc (hr (σ 703) n (e1 σ n a))
def jW (σ : aS) (n a row fr m : Nat) : aS := sP (jU σ n a fr) 706 (fb_put (jU σ n a fr 706) (fun _ => jv σ n a) (16 * row + fr) m)
def jX (σ : aS) (n a row fr : Nat) : aS := if wl (jU σ n a fr) = true then jW σ n a row fr (jM σ n a).toNatClampNeg else jU σ n a fr
def jRn (σ : aS) (n a row fr : Nat) : aS := if wl (jP σ n a fr) = true then jQ (jX σ n a row fr) (nI fr + jM σ n a) else jP σ n a fr
def jRa (σ : aS) (n a fr : Nat) : Nat := if wl (jP σ n a fr) = true then sk (σ 703) n (e1 σ n a + 1) else e1 σ n a
set_option maxHeartbeats 4000000 in
set_option maxRecDepth 100000 in
theorem zX7_kind {g : aG} {l : Launch} {σ : aS} (n a : Nat) (h : JX σ n a) (ha : a ≤ n) : CN g l yX7_kind wsX7_kind 2 40 [.ref 700] σ (some (.int (jKc (hr (σ 703) n a)))) (jK σ n a) := by
  refine cn_of (cc := cX7_kind) (nL := 3) (ret := (some .int)) (own := RX7) (by decide +kernel) rfl rfl (Nat.le_of_ble_eq_true rfl) (fun K hg hl hK hE => ?_)
  subst hg; subst hl
  have i_7 : ∀ w ∈ u_ws RX7 TX7 15, w ∈ wsX7_kind := by decide +kernel
  show AW K 0 [some (.ref 700), none, none] [] σ
  refine s_aload0 hK dX7_kind_0 ?_
  refine s_callV (ci := 7) hK mdX7_here (zX7_here n a h) gX7_kind_X7_here rfl rfl rfl (by decide) rfl ⟨Nat.le_of_ble_eq_true rfl, Nat.le_of_ble_eq_true rfl⟩ rfl (Nat.le_of_ble_eq_true rfl) dX7_kind_1 ?_
  try dsimp only [Option.toList, List.cons_append, List.nil_append]
  refine s_istore1 hK dX7_kind_4 ?_
  refine AW.cut (j := 26) (v := jKc (hr (σ 703) n a)) (fun hJ_26 => ?_) ?_
  · refine s_iload1 hK dX7_kind_5 ?_
    refine s_bipush (v := 119) hK dX7_kind_6 (by decide) ?_
    refine s_icmp_ne (tgt := 15) hK dX7_kind_8 (by decide) (fun c_8 => ?_) (fun c_8 => ?_)
    · refine s_iload1 hK dX7_kind_15 ?_
      refine s_bipush (v := 99) hK dX7_kind_16 (by decide) ?_
      refine s_icmp_ne (tgt := 25) hK dX7_kind_18 (by decide) (fun c_18 => ?_) (fun c_18 => ?_)
      · refine s_iconst (v := 2) hK dX7_kind_25 (by decide) ?_
        exact AW.vv hJ_26 (by first | (rw [jKc, if_pos c_8]; done) | (rw [jKc, if_neg c_8, if_pos c_18]; done) | (rw [jKc, if_neg c_8, if_neg c_18]; done))
      · refine s_iconst (v := 1) hK dX7_kind_21 (by decide) ?_
        refine s_goto (tgt := 26) hK dX7_kind_22 (by decide) ?_
        exact AW.vv hJ_26 (by first | (rw [jKc, if_pos c_8]; done) | (rw [jKc, if_neg c_8, if_pos c_18]; done) | (rw [jKc, if_neg c_8, if_neg c_18]; done))
    · refine s_iconst (v := 0) hK dX7_kind_11 (by decide) ?_
      refine s_goto (tgt := 26) hK dX7_kind_12 (by decide) ?_
      exact AW.vv hJ_26 (by first | (rw [jKc, if_pos c_8]; done) | (rw [jKc, if_neg c_8, if_pos c_18]; done) | (rw [jKc, if_neg c_8, if_neg c_18]; done))
  show AW K _ _ _ _
  refine s_istore2 hK dX7_kind_26 ?_
  refine s_iload1 hK dX7_kind_27 ?_
  refine s_bipush (v := 119) hK dX7_kind_28 (by decide) ?_
  refine s_icmp_eq (tgt := 53) hK dX7_kind_30 (by decide) (fun c_30 => ?_) (fun c_30 => ?_)
  · refine s_aload0 hK dX7_kind_53 ?_
    refine s_dup hK dX7_kind_54 ?_
    refine s_getiv (v := nI a) (by first | exact h.2.2.2 | exact h.sF.2.2.2) (ci := 7) (k := 12) hK rfl rfl i_7 (by decide +kernel) dX7_kind_55 (by decide) (by decide) (by decide) rfl rfl ?_
    refine s_iconst (v := 1) hK dX7_kind_58 (by decide) ?_
    refine s_iadd hK dX7_kind_59 ?_
    rw [nI_1]
    refine s_putg (ci := 7) (k := 12) (ty := .int) hK rfl rfl i_7 (by decide +kernel) dX7_kind_60 tyX7_ok nmX7 (by decide) (by decide) (by decide) rfl rfl rfl (by decide +kernel) rfl rfl ?_
    show AW K _ _ _ (jA _ (a + 1))
    refine s_aload0 hK dX7_kind_63 ?_
    refine s_callV (ci := 7) hK mdX7_skip (zX7_skip n (a + 1) (by first | exact h.sF.sA (by have := h.1; omega) | exact h.sA (by have := h.1; omega))) gX7_kind_X7_skip rfl rfl rfl (by decide) rfl ⟨Nat.le_of_ble_eq_true rfl, Nat.le_of_ble_eq_true rfl⟩ rfl (Nat.le_of_ble_eq_true rfl) dX7_kind_64 ?_
    try dsimp only [Option.toList, List.cons_append, List.nil_append]
    rw [jA_ne (by decide), jA_jA]
    try rw [jF_ne (by decide)]
    refine s_iload2 hK dX7_kind_67 ?_
    exact s_iret hK hE dX7_kind_68 rfl (rfl) (by first | (rw [jK, jH, if_pos (by first | exact isK_1 c_30 | exact isK_2 c_36 | exact isK_3 c_42)]; done) | (rw [jK, jH, if_neg (fun z => by have z := of_decide_eq_true z; rcases z with z | z | z; exact c_30 z; exact c_36 z; exact c_42 z)]; done))
  · refine s_iload1 hK dX7_kind_33 ?_
    refine s_bipush (v := 99) hK dX7_kind_34 (by decide) ?_
    refine s_icmp_eq (tgt := 53) hK dX7_kind_36 (by decide) (fun c_36 => ?_) (fun c_36 => ?_)
    · refine s_aload0 hK dX7_kind_53 ?_
      refine s_dup hK dX7_kind_54 ?_
      refine s_getiv (v := nI a) (by first | exact h.2.2.2 | exact h.sF.2.2.2) (ci := 7) (k := 12) hK rfl rfl i_7 (by decide +kernel) dX7_kind_55 (by decide) (by decide) (by decide) rfl rfl ?_
      refine s_iconst (v := 1) hK dX7_kind_58 (by decide) ?_
      refine s_iadd hK dX7_kind_59 ?_
      rw [nI_1]
      refine s_putg (ci := 7) (k := 12) (ty := .int) hK rfl rfl i_7 (by decide +kernel) dX7_kind_60 tyX7_ok nmX7 (by decide) (by decide) (by decide) rfl rfl rfl (by decide +kernel) rfl rfl ?_
      show AW K _ _ _ (jA _ (a + 1))
      refine s_aload0 hK dX7_kind_63 ?_
      refine s_callV (ci := 7) hK mdX7_skip (zX7_skip n (a + 1) (by first | exact h.sF.sA (by have := h.1; omega) | exact h.sA (by have := h.1; omega))) gX7_kind_X7_skip rfl rfl rfl (by decide) rfl ⟨Nat.le_of_ble_eq_true rfl, Nat.le_of_ble_eq_true rfl⟩ rfl (Nat.le_of_ble_eq_true rfl) dX7_kind_64 ?_
      try dsimp only [Option.toList, List.cons_append, List.nil_append]
      rw [jA_ne (by decide), jA_jA]
      try rw [jF_ne (by decide)]
      refine s_iload2 hK dX7_kind_67 ?_
      exact s_iret hK hE dX7_kind_68 rfl (rfl) (by first | (rw [jK, jH, if_pos (by first | exact isK_1 c_30 | exact isK_2 c_36 | exact isK_3 c_42)]; done) | (rw [jK, jH, if_neg (fun z => by have z := of_decide_eq_true z; rcases z with z | z | z; exact c_30 z; exact c_36 z; exact c_42 z)]; done))
    · refine s_iload1 hK dX7_kind_39 ?_
      refine s_bipush (v := 108) hK dX7_kind_40 (by decide) ?_
      refine s_icmp_eq (tgt := 53) hK dX7_kind_42 (by decide) (fun c_42 => ?_) (fun c_42 => ?_)
      · refine s_aload0 hK dX7_kind_53 ?_
        refine s_dup hK dX7_kind_54 ?_
        refine s_getiv (v := nI a) (by first | exact h.2.2.2 | exact h.sF.2.2.2) (ci := 7) (k := 12) hK rfl rfl i_7 (by decide +kernel) dX7_kind_55 (by decide) (by decide) (by decide) rfl rfl ?_
        refine s_iconst (v := 1) hK dX7_kind_58 (by decide) ?_
        refine s_iadd hK dX7_kind_59 ?_
        rw [nI_1]
        refine s_putg (ci := 7) (k := 12) (ty := .int) hK rfl rfl i_7 (by decide +kernel) dX7_kind_60 tyX7_ok nmX7 (by decide) (by decide) (by decide) rfl rfl rfl (by decide +kernel) rfl rfl ?_
        show AW K _ _ _ (jA _ (a + 1))
        refine s_aload0 hK dX7_kind_63 ?_
        refine s_callV (ci := 7) hK mdX7_skip (zX7_skip n (a + 1) (by first | exact h.sF.sA (by have := h.1; omega) | exact h.sA (by have := h.1; omega))) gX7_kind_X7_skip rfl rfl rfl (by decide) rfl ⟨Nat.le_of_ble_eq_true rfl, Nat.le_of_ble_eq_true rfl⟩ rfl (Nat.le_of_ble_eq_true rfl) dX7_kind_64 ?_
        try dsimp only [Option.toList, List.cons_append, List.nil_append]
        rw [jA_ne (by decide), jA_jA]
        try rw [jF_ne (by decide)]
        refine s_iload2 hK dX7_kind_67 ?_
        exact s_iret hK hE dX7_kind_68 rfl (rfl) (by first | (rw [jK, jH, if_pos (by first | exact isK_1 c_30 | exact isK_2 c_36 | exact isK_3 c_42)]; done) | (rw [jK, jH, if_neg (fun z => by have z := of_decide_eq_true z; rcases z with z | z | z; exact c_30 z; exact c_36 z; exact c_42 z)]; done))
      · refine s_aload0 hK dX7_kind_45 ?_
        refine s_aload0 hK dX7_kind_46 ?_
        refine s_getiv (v := nI a) (h.2.2.2) (ci := 7) (k := 12) hK rfl rfl i_7 (by decide +kernel) dX7_kind_47 (by decide) (by decide) (by decide) rfl rfl ?_
        refine s_callV (ci := 7) hK mdX7_fail (zX7_fail a) gX7_kind_X7_fail rfl rfl rfl (by decide) rfl ⟨Nat.le_of_ble_eq_true rfl, Nat.le_of_ble_eq_true rfl⟩ rfl (Nat.le_of_ble_eq_true rfl) dX7_kind_50 ?_
        try dsimp only [Option.toList, List.cons_append, List.nil_append]
        refine s_aload0 hK dX7_kind_53 ?_
        refine s_dup hK dX7_kind_54 ?_
        refine s_getiv (v := nI a) (by first | exact h.2.2.2 | exact h.sF.2.2.2) (ci := 7) (k := 12) hK rfl rfl i_7 (by decide +kernel) dX7_kind_55 (by decide) (by decide) (by decide) rfl rfl ?_
        refine s_iconst (v := 1) hK dX7_kind_58 (by decide) ?_
        refine s_iadd hK dX7_kind_59 ?_
        rw [nI_1]
        refine s_putg (ci := 7) (k := 12) (ty := .int) hK rfl rfl i_7 (by decide +kernel) dX7_kind_60 tyX7_ok nmX7 (by decide) (by decide) (by decide) rfl rfl rfl (by decide +kernel) rfl rfl ?_
        show AW K _ _ _ (jA _ (a + 1))
        refine s_aload0 hK dX7_kind_63 ?_
        refine s_callV (ci := 7) hK mdX7_skip (zX7_skip n (a + 1) (by first | exact h.sF.sA (by have := h.1; omega) | exact h.sA (by have := h.1; omega))) gX7_kind_X7_skip rfl rfl rfl (by decide) rfl ⟨Nat.le_of_ble_eq_true rfl, Nat.le_of_ble_eq_true rfl⟩ rfl (Nat.le_of_ble_eq_true rfl) dX7_kind_64 ?_
        try dsimp only [Option.toList, List.cons_append, List.nil_append]
        rw [jA_ne (by decide), jA_jA]
        try rw [jF_ne (by decide)]
        refine s_iload2 hK dX7_kind_67 ?_
        exact s_iret hK hE dX7_kind_68 rfl (rfl) (by first | (rw [jK, jH, if_pos (by first | exact isK_1 c_30 | exact isK_2 c_36 | exact isK_3 c_42)]; done) | (rw [jK, jH, if_neg (fun z => by have z := of_decide_eq_true z; rcases z with z | z | z; exact c_30 z; exact c_36 z; exact c_42 z)]; done))
theorem wl_to {σ σ2 : aS} (e : σ2 700 = σ 700) : wl σ2 = wl σ := by
  unfold wl
  rw [e]
set_option maxHeartbeats 4000000 in
set_option maxRecDepth 100000 in
theorem zX7_readRun {g : aG} {l : Launch} {σ : aS} (n a row fr : Nat) (h : JX σ n a) (ha : a ≤ n) (hf : fr ≤ 16) (hr : row < 12) : CN g l yX7_readRun wsX7_readRun 3 67 [.ref 700, .int (nI row), .int (nI fr)] σ none (jRn σ n a row fr) := by
  refine cn_of (cc := cX7_readRun) (nL := 7) (ret := none) (own := RX7) (by decide +kernel) rfl rfl (Nat.le_of_ble_eq_true rfl) (fun K hg hl hK hE => ?_)
  subst hg; subst hl
  have i_7 : ∀ w ∈ u_ws RX7 TX7 15, w ∈ wsX7_readRun := by decide +kernel
  show AW K 0 [some (.ref 700), some (.int (nI row)), some (.int (nI fr)), none, none, none, none] [] σ
  have hn := h.1
  have hx35 : AW K 35 [some (.ref 700), some (.int (nI row)), some (.int (nI fr)), some (.int (nI a)), some (.int (jM σ n a)), none, none] [] (jP σ n a fr) := by
    refine s_aload0 hK dX7_readRun_35 ?_
    refine s_callV (ci := 7) hK mdX7_isWell (zX7_isWell) gX7_readRun_X7_isWell rfl rfl rfl (by decide) rfl ⟨Nat.le_of_ble_eq_true rfl, Nat.le_of_ble_eq_true rfl⟩ rfl (Nat.le_of_ble_eq_true rfl) dX7_readRun_36 ?_
    try dsimp only [Option.toList, List.cons_append, List.nil_append]
    refine s_if_ne (tgt := 43) hK dX7_readRun_39 (by decide) (fun c_39 => ?_) (fun c_39 => ?_)
    · have hw : wl (jP σ n a fr) = true := b2n c_39
      obtain ⟨m, hm1, hm2, hm⟩ := jP_wl h.2.1 hf hw
      rw [hm]
      refine s_aload0 hK dX7_readRun_43 ?_
      refine s_callV (ci := 7) hK mdX7_kind (zX7_kind n (e1 σ n a) (h.sP ha fr) (e1_le ha)) gX7_readRun_X7_kind rfl rfl rfl (by decide) rfl ⟨Nat.le_of_ble_eq_true rfl, Nat.le_of_ble_eq_true rfl⟩ rfl (Nat.le_of_ble_eq_true rfl) dX7_readRun_44 ?_
      try dsimp only [Option.toList, List.cons_append, List.nil_append]
      rw [jP_ne (by decide)]
      show AW K _ _ [.int (jv σ n a)] (jU σ n a fr)
      refine s_istore5 hK dX7_readRun_47 ?_
      refine s_iconst (v := 0) hK dX7_readRun_49 (by decide) ?_
      refine s_istore6 hK dX7_readRun_50 ?_
      cases hU : wl (jU σ n a fr) with
      | false =>
        refine s_iload6 hK dX7_readRun_52 ?_
        refine s_iload4 hK dX7_readRun_54 ?_
        refine s_icmp_ge (tgt := 88) hK dX7_readRun_56 (by decide) (fun c_56 => absurd c_56 (show ¬ nI m ≤ nI 0 from nI_ge (show 0 < m by omega) (by omega))) (fun c_56 => ?_)
        refine s_aload0 hK dX7_readRun_59 ?_
        refine s_callV (ci := 7) hK mdX7_isWell (zX7_isWell) gX7_readRun_X7_isWell rfl rfl rfl (by decide) rfl ⟨Nat.le_of_ble_eq_true rfl, Nat.le_of_ble_eq_true rfl⟩ rfl (Nat.le_of_ble_eq_true rfl) dX7_readRun_60 ?_
        try dsimp only [Option.toList, List.cons_append, List.nil_append]
        refine s_if_eq (tgt := 88) hK dX7_readRun_63 (by decide) (fun c_63 => ?_) (fun c_63 => absurd c_63 (fun q => q (by rw [hU]; rfl)))
        refine s_aload0 hK dX7_readRun_88 ?_
        refine s_iload2 hK dX7_readRun_89 ?_
        refine s_iload4 hK dX7_readRun_90 ?_
        refine s_iadd hK dX7_readRun_92 ?_
        refine s_putg (ci := 7) (k := 14) (ty := .int) hK rfl rfl i_7 (by decide +kernel) dX7_readRun_93 tyX7_ok nmX7 (by decide) (by decide) (by decide) rfl rfl rfl (by decide +kernel) rfl rfl ?_
        exact s_vret hK hE dX7_readRun_96 (by rw [jRn, if_pos hw, jX, if_neg (by rw [hU]; decide), hm]; rfl)
      | true =>
      have hx1 : AW K 52 [some (.ref 700), some (.int (nI row)), some (.int (nI fr)), some (.int (nI a)), some (.int (nI m)), some (.int (jv σ n a)), some (.int (nI m))] [] (jW σ n a row fr m) := by
        refine s_iload6 hK dX7_readRun_52 ?_
        refine s_iload4 hK dX7_readRun_54 ?_
        refine s_icmp_ge (tgt := 88) hK dX7_readRun_56 (by decide) (fun c_56 => ?_) (fun c_56 => absurd c_56 (fun q => q (Int32.le_refl _)))
        refine s_aload0 hK dX7_readRun_88 ?_
        refine s_iload2 hK dX7_readRun_89 ?_
        refine s_iload4 hK dX7_readRun_90 ?_
        refine s_iadd hK dX7_readRun_92 ?_
        refine s_putg (ci := 7) (k := 14) (ty := .int) hK rfl rfl i_7 (by decide +kernel) dX7_readRun_93 tyX7_ok nmX7 (by decide) (by decide) (by decide) rfl rfl rfl (by decide +kernel) rfl rfl ?_
        exact s_vret hK hE dX7_readRun_96 (by rw [jRn, if_pos hw, jX, if_pos hU, hm, nI_clamp (by omega)]; rfl)
      have hb1 : ∀ k1 : Nat, k1 < m → AW K 52 [some (.ref 700), some (.int (nI row)), some (.int (nI fr)), some (.int (nI a)), some (.int (nI m)), some (.int (jv σ n a)), some (.int (nI (k1 + 1)))] [] (jW σ n a row fr (k1 + 1)) → AW K 52 [some (.ref 700), some (.int (nI row)), some (.int (nI fr)), some (.int (nI a)), some (.int (nI m)), some (.int (jv σ n a)), some (.int (nI k1))] [] (jW σ n a row fr k1) := by
        intro k1 hk1 ih1 
        refine s_iload6 hK dX7_readRun_52 ?_
        refine s_iload4 hK dX7_readRun_54 ?_
        refine s_icmp_ge (tgt := 88) hK dX7_readRun_56 (by decide) (fun c_56 => absurd c_56 (nI_ge hk1 (by omega))) (fun c_56 => ?_)
        refine s_aload0 hK dX7_readRun_59 ?_
        refine s_callV (ci := 7) hK mdX7_isWell (zX7_isWell) gX7_readRun_X7_isWell rfl rfl rfl (by decide) rfl ⟨Nat.le_of_ble_eq_true rfl, Nat.le_of_ble_eq_true rfl⟩ rfl (Nat.le_of_ble_eq_true rfl) dX7_readRun_60 ?_
        try dsimp only [Option.toList, List.cons_append, List.nil_append]
        rw [show wl (jW σ n a row fr k1) = true from by rw [jW, wl_to (sP_ne (by decide))]; exact hU]
        refine s_if_eq (tgt := 88) hK dX7_readRun_63 (by decide) (fun c_63 => absurd c_63 (by decide)) (fun c_63 => ?_)
        refine s_aload0 hK dX7_readRun_66 ?_
        refine s_getr (ci := 7) (k := 11) hK rfl rfl i_7 (by decide +kernel) dX7_readRun_67 (by decide) (by decide) (by decide) rfl rfl (rf_7_11 rfl) ?_
        refine s_bipush (v := 16) hK dX7_readRun_70 (by decide) ?_
        refine s_iload1 hK dX7_readRun_72 ?_
        refine s_imul hK dX7_readRun_73 ?_
        refine s_iload2 hK dX7_readRun_74 ?_
        refine s_iadd hK dX7_readRun_75 ?_
        refine s_iload6 hK dX7_readRun_76 ?_
        refine s_iadd hK dX7_readRun_78 ?_
        rw [show (16 : Int32) * nI row + nI fr + nI k1 = nI (16 * row + fr + k1) from by rw [show (16 : Int32) = nI 16 from rfl, pk_mul, nI_add, nI_add]]
        refine s_iload5 hK dX7_readRun_79 ?_
        refine s_iast hK rfl (show vp_in _ 192 from vp_in_nI (show 16 * row + fr + k1 < 192 by omega) (by decide)) dX7_readRun_81 ?_
        rw [cl_nI (show 16 * row + fr + k1 < 2 ^ 31 by omega), show sP (jW σ n a row fr k1) 706 (upd (jW σ n a row fr k1 706) (16 * row + fr + k1) (jv σ n a)) = jW σ n a row fr (k1 + 1) from by unfold jW; rw [sP_sP, sP_same, ← fb_put_succ]]
        refine s_iinc6 hK dX7_readRun_82 (hv_1 _) ?_
        refine s_goto (tgt := 52) hK dX7_readRun_85 (by decide) ?_
        exact AW.to ih1 (by rw [nI_1]) (rfl)
      exact AW.to (up_to (fun kx => AW K 52 [some (.ref 700), some (.int (nI row)), some (.int (nI fr)), some (.int (nI a)), some (.int (nI m)), some (.int (jv σ n a)), some (.int (nI kx))] [] (jW σ n a row fr kx)) m hx1 hb1) (rfl) (by rw [jW, fb_put_0, sP_id])
    · exact s_vret hK hE dX7_readRun_42 (by rw [jRn, if_neg (by rw [b2y c_39]; decide)])
  refine s_aload0 hK dX7_readRun_0 ?_
  refine s_getiv (v := nI a) (h.2.2.2) (ci := 7) (k := 12) hK rfl rfl i_7 (by decide +kernel) dX7_readRun_1 (by decide) (by decide) (by decide) rfl rfl ?_
  refine s_istore3 hK dX7_readRun_4 ?_
  refine s_aload0 hK dX7_readRun_5 ?_
  refine s_iconst (v := 1) hK dX7_readRun_6 (by decide) ?_
  refine s_bipush (v := 16) hK dX7_readRun_7 (by decide) ?_
  refine s_callV (ci := 7) hK mdX7_number (zX7_number n a h ha 1 16) gX7_readRun_X7_number rfl rfl rfl (by decide) rfl ⟨Nat.le_of_ble_eq_true rfl, Nat.le_of_ble_eq_true rfl⟩ rfl (Nat.le_of_ble_eq_true rfl) dX7_readRun_9 ?_
  try dsimp only [Option.toList, List.cons_append, List.nil_append]
  refine s_istore4 hK dX7_readRun_12 ?_
  refine s_aload0 hK dX7_readRun_14 ?_
  refine s_callV (ci := 7) hK mdX7_isWell (zX7_isWell) gX7_readRun_X7_isWell rfl rfl rfl (by decide) rfl ⟨Nat.le_of_ble_eq_true rfl, Nat.le_of_ble_eq_true rfl⟩ rfl (Nat.le_of_ble_eq_true rfl) dX7_readRun_15 ?_
  try dsimp only [Option.toList, List.cons_append, List.nil_append]
  refine s_if_eq (tgt := 35) hK dX7_readRun_18 (by decide) (fun c_18 => ?_) (fun c_18 => ?_)
  · exact AW.to hx35 rfl (by first | (rw [jP, if_neg (fun z => absurd (z.1.symm.trans (b2y c_18)) (by decide))]; done) | (rw [jP, if_neg (fun z => fa_of_nle2 c_27 z.2)]; done) | (rw [jP, if_pos ⟨b2n c_18, Int32.not_le.mp c_27⟩]; done))
  · refine s_iload2 hK dX7_readRun_21 ?_
    refine s_iload4 hK dX7_readRun_22 ?_
    refine s_iadd hK dX7_readRun_24 ?_
    refine s_bipush (v := 16) hK dX7_readRun_25 (by decide) ?_
    refine s_icmp_le (tgt := 35) hK dX7_readRun_27 (by decide) (fun c_27 => ?_) (fun c_27 => ?_)
    · exact AW.to hx35 rfl (by first | (rw [jP, if_neg (fun z => absurd (z.1.symm.trans (b2y c_18)) (by decide))]; done) | (rw [jP, if_neg (fun z => fa_of_nle2 c_27 z.2)]; done) | (rw [jP, if_pos ⟨b2n c_18, Int32.not_le.mp c_27⟩]; done))
    · refine s_aload0 hK dX7_readRun_30 ?_
      refine s_iload3 hK dX7_readRun_31 ?_
      refine s_callV (ci := 7) hK mdX7_fail (zX7_fail a) gX7_readRun_X7_fail rfl rfl rfl (by decide) rfl ⟨Nat.le_of_ble_eq_true rfl, Nat.le_of_ble_eq_true rfl⟩ rfl (Nat.le_of_ble_eq_true rfl) dX7_readRun_32 ?_
      try dsimp only [Option.toList, List.cons_append, List.nil_append]
      exact AW.to hx35 rfl (by first | (rw [jP, if_neg (fun z => absurd (z.1.symm.trans (b2y c_18)) (by decide))]; done) | (rw [jP, if_neg (fun z => fa_of_nle2 c_27 z.2)]; done) | (rw [jP, if_pos ⟨b2n c_18, Int32.not_le.mp c_27⟩]; done))
