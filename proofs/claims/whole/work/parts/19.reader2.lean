def rKa (σ : aS) (n a : Nat) : Nat := if isK (hr (σ 604) n (sk (σ 604) n a)) = true then sk (σ 604) n a + 1 else sk (σ 604) n a
theorem tx_rN {σ : aS} {n a : Nat} (h : TX σ n a) (lo hi : Int32) : TX (rNs σ n a lo hi) n (de (σ 604) n a) := by
  unfold rNs
  split
  · exact (h.sA (de_le (t := σ 604) h.2.1)).sE
  · exact h.sA (de_le (t := σ 604) h.2.1)
theorem hr_0 {t : Nat → Int32} {n a : Nat} (h : ¬ hr t n a = 0) : a < n := by
  rcases Nat.lt_or_ge a n with q | q
  · exact q
  · exact absurd (if_neg (Nat.not_lt.mpr q)) h
theorem isK_lt {t : Nat → Int32} {n a : Nat} (h : isK (hr t n a) = true) : a < n := by
  apply hr_0
  intro e
  rw [e] at h
  exact absurd h (by decide)
theorem tx_rK {σ : aS} {n a : Nat} (h : TX σ n a) : TX (rKs σ n a) n (rKa σ n a) := by
  unfold rKs rKa
  split
  · rename_i q
    exact h.sA (isK_lt q)
  · exact (h.sA (sk_le (t := σ 604) h.2.1)).sE
def bitsV (v fl : Int32) : Int32 := ((1 <<< (v &&& 31)) - 1) <<< (fl &&& 31)
/-- one run, from behind the spaces at p -/
def rq (s : aS) (n p : Nat) (fl : Int32) : aS := rNs (sA s p) n p 1 (16 - fl)
def rqv (s : aS) (n p : Nat) (fl : Int32) : Int32 := rNv (sA s p) n p 1 (16 - fl)
def rR (row : Int32) (n : Nat) : Nat → aS → Nat → Int32 → Int32 → Int32 → aS × Nat
  | 0, s, a, _, _, _ => (s, a)
  | f + 1, s, a, fl, cb, lb =>
    if hr (s 604) n (sk (s 604) n a) = 59 ∧ fl = 16 then (pR (pR (sA s (sk (s 604) n a + 1)) 609 row cb) 610 row lb, sk (s 604) n a + 1)
    else if rqv s n (sk (s 604) n a) fl = -1 then (rq s n (sk (s 604) n a) fl, de (s 604) n (sk (s 604) n a))
    else if rKs (rq s n (sk (s 604) n a) fl) n (de (s 604) n (sk (s 604) n a)) 603 3 < 0 then
      rR row n f (rKs (rq s n (sk (s 604) n a) fl) n (de (s 604) n (sk (s 604) n a))) (rKa (rq s n (sk (s 604) n a) fl) n (de (s 604) n (sk (s 604) n a))) (fl + rqv s n (sk (s 604) n a) fl)
        (cb ||| (if rKv (rq s n (sk (s 604) n a) fl) n (de (s 604) n (sk (s 604) n a)) = 1 then bitsV (rqv s n (sk (s 604) n a) fl) fl else 0))
        (lb ||| (if rKv (rq s n (sk (s 604) n a) fl) n (de (s 604) n (sk (s 604) n a)) = 2 then bitsV (rqv s n (sk (s 604) n a) fl) fl else 0))
    else (rKs (rq s n (sk (s 604) n a) fl) n (de (s 604) n (sk (s 604) n a)), rKa (rq s n (sk (s 604) n a) fl) n (de (s 604) n (sk (s 604) n a)))
theorem pR_ne {σ : aS} {a o : Nat} {y v : Int32} (h : o ≠ a) : pR σ a y v o = σ o := by
  unfold pR
  split
  · exact sP_ne h
  · rfl
theorem tx_to {σ σ2 : aS} {n a : Nat} (h : TX σ n a) (e : σ2 603 = σ 603) : TX σ2 n a := ⟨h.1, h.2.1, by rw [e]; exact h.2.2.1, by rw [e]; exact h.2.2.2⟩
theorem tx_rq {s : aS} {n a : Nat} (h : TX s n a) (fl : Int32) : TX (rq s n (sk (s 604) n a) fl) n (de (s 604) n (sk (s 604) n a)) := by
  have h1 := tx_rN (h.sA (sk_le (t := s 604) h.2.1)) 1 (16 - fl)
  rw [sA_ne (by decide)] at h1
  exact h1
theorem tx_rR (row : Int32) {n : Nat} : ∀ (f : Nat) (s : aS) (a : Nat) (fl cb lb : Int32), TX s n a → TX (rR row n f s a fl cb lb).1 n (rR row n f s a fl cb lb).2
  | 0, s, a, fl, cb, lb, h => h
  | f + 1, s, a, fl, cb, lb, h => by
    unfold rR
    by_cases c1 : hr (s 604) n (sk (s 604) n a) = 59 ∧ fl = 16
    · rw [if_pos c1]
      have hp : sk (s 604) n a < n := hr_0 (by rw [c1.1]; decide)
      exact tx_to (h.sA (b := sk (s 604) n a + 1) hp) (by show pR (pR (sA s (sk (s 604) n a + 1)) 609 row cb) 610 row lb 603 = _; rw [pR_ne (by decide), pR_ne (by decide)])
    · rw [if_neg c1]
      by_cases c2 : rqv s n (sk (s 604) n a) fl = -1
      · rw [if_pos c2]
        exact tx_rq h fl
      · rw [if_neg c2]
        by_cases c3 : rKs (rq s n (sk (s 604) n a) fl) n (de (s 604) n (sk (s 604) n a)) 603 3 < 0
        · rw [if_pos c3]
          exact tx_rR row f _ _ _ _ _ (tx_rK (tx_rq h fl))
        · rw [if_neg c3]
          exact (tx_rK (tx_rq h fl))
def rI (s : aS) (n a : Nat) : aS × Nat :=
  if rNv s n a 0 11 = -1 then (rNs s n a 0 11, de (s 604) n a)
  else if hr (s 604) n (sk (s 604) n (de (s 604) n a)) = 58 then rR (rNv s n a 0 11) n 17 (sA (rNs s n a 0 11) (sk (s 604) n (de (s 604) n a) + 1)) (sk (s 604) n (de (s 604) n a) + 1) 0 0 0
  else (sE (sA (rNs s n a 0 11) (sk (s 604) n (de (s 604) n a))) (sk (s 604) n (de (s 604) n a)), sk (s 604) n (de (s 604) n a))
theorem rNs_ne {σ : aS} {n a o : Nat} {lo hi : Int32} (h : o ≠ 603) : rNs σ n a lo hi o = σ o := by
  unfold rNs
  split
  · rw [sE_ne h, sA_ne h]
  · exact sA_ne h
theorem rKs_ne {σ : aS} {n a o : Nat} (h : o ≠ 603) : rKs σ n a o = σ o := by
  unfold rKs
  split
  · exact sA_ne h
  · rw [sE_ne h, sA_ne h]
theorem rq_ne {s : aS} {n p o : Nat} {fl : Int32} (h : o ≠ 603) : rq s n p fl o = s o := by
  unfold rq
  rw [rNs_ne h, sA_ne h]
theorem tx_rI {s : aS} {n a : Nat} (h : TX s n a) : TX (rI s n a).1 n (rI s n a).2 := by
  have hq := tx_rN h 0 11
  have hs : sk (s 604) n (de (s 604) n a) ≤ n := sk_le (t := s 604) (de_le (t := s 604) h.2.1)
  unfold rI
  by_cases c1 : rNv s n a 0 11 = -1
  · rw [if_pos c1]
    exact hq
  · rw [if_neg c1]
    by_cases c2 : hr (s 604) n (sk (s 604) n (de (s 604) n a)) = 58
    · rw [if_pos c2]
      exact tx_rR _ _ _ _ _ _ _ (hq.sA (b := sk (s 604) n (de (s 604) n a) + 1) (hr_0 (by rw [c2]; decide)))
    · rw [if_neg c2]
      exact (hq.sA hs).sE
def rT (n : Nat) : Nat → aS → Nat → Int32 → aS × Int32
  | 0, s, _, _ => (s, -2000 - nI n)
  | f + 1, s, a, it =>
    if sk (s 604) n a < n then
      (if (rI (sA s (sk (s 604) n a)) n (sk (s 604) n a)).1 603 3 < 0 then rT n f (rI (sA s (sk (s 604) n a)) n (sk (s 604) n a)).1 (rI (sA s (sk (s 604) n a)) n (sk (s 604) n a)).2 (it + 1)
       else ((rI (sA s (sk (s 604) n a)) n (sk (s 604) n a)).1, -2000 - (rI (sA s (sk (s 604) n a)) n (sk (s 604) n a)).1 603 3))
    else (sA s (sk (s 604) n a), it)
def rt0 (σ : aS) : aS := sP (sA (bL (bL σ 609 15) 610 16) 0) 603 (upd (sA (bL (bL σ 609 15) 610 16) 0 603) 3 (-1))
def rtF (σ : aS) (n : Nat) : aS × Int32 := rT n 141 (rt0 σ) 0 0
theorem rR_s (row : Int32) (n f : Nat) (s : aS) (a : Nat) (fl cb lb : Int32) : rR row n (f + 1) s a fl cb lb = (
    if hr (s 604) n (sk (s 604) n a) = 59 ∧ fl = 16 then (pR (pR (sA s (sk (s 604) n a + 1)) 609 row cb) 610 row lb, sk (s 604) n a + 1)
    else if rqv s n (sk (s 604) n a) fl = -1 then (rq s n (sk (s 604) n a) fl, de (s 604) n (sk (s 604) n a))
    else if rKs (rq s n (sk (s 604) n a) fl) n (de (s 604) n (sk (s 604) n a)) 603 3 < 0 then
      rR row n f (rKs (rq s n (sk (s 604) n a) fl) n (de (s 604) n (sk (s 604) n a))) (rKa (rq s n (sk (s 604) n a) fl) n (de (s 604) n (sk (s 604) n a))) (fl + rqv s n (sk (s 604) n a) fl)
        (cb ||| (if rKv (rq s n (sk (s 604) n a) fl) n (de (s 604) n (sk (s 604) n a)) = 1 then bitsV (rqv s n (sk (s 604) n a) fl) fl else 0))
        (lb ||| (if rKv (rq s n (sk (s 604) n a) fl) n (de (s 604) n (sk (s 604) n a)) = 2 then bitsV (rqv s n (sk (s 604) n a) fl) fl else 0))
    else (rKs (rq s n (sk (s 604) n a) fl) n (de (s 604) n (sk (s 604) n a)), rKa (rq s n (sk (s 604) n a) fl) n (de (s 604) n (sk (s 604) n a)))) := rfl
set_option maxHeartbeats 4000000 in
set_option maxRecDepth 100000 in
theorem zX4_readRuns {g : aG} {l : Launch} {σ : aS} (n a : Nat) (row : Int32) (h : TX σ n a) : CN g l yX4_readRuns wsX4_readRuns 3 61 [.ref 603, .int row] σ none (rR row n 17 σ a 0 0 0).1 := by
  refine cn_of (cc := cX4_readRuns) (nL := 9) (ret := none) (own := RX4) (by decide +kernel) rfl rfl (Nat.le_of_ble_eq_true rfl) (fun K hg hl hK hE => ?_)
  subst hg; subst hl
  have i_4 : ∀ w ∈ u_ws RX4 TX4 6, w ∈ wsX4_readRuns := by decide +kernel
  show AW K 0 [some (.ref 603), some (.int row), none, none, none, none, none, none, none] [] σ
  obtain ⟨FIN, hFIN⟩ : ∃ F, F = rR row n 17 σ a 0 0 0 := ⟨_, rfl⟩
  rw [← hFIN] at hE
  have hx1 : ∀ (s : aS) (a : Nat) (fl cb lb : Int32) (z6 z7 z8 : Option Value), TX s n a → rR row n (17 - 17) s a fl cb lb = FIN → AW K 10 [some (.ref 603), some (.int row), some (.int fl), some (.int cb), some (.int lb), some (.int (nI 17)), z6, z7, z8] [] s := by
    intro s a fl cb lb z6 z7 z8 hT hF
    refine s_iload5 hK dX4_readRuns_10 ?_
    refine s_bipush (v := 16) hK dX4_readRuns_12 (by decide) ?_
    refine s_icmp_gt (tgt := 151) hK dX4_readRuns_14 (by decide) (fun c_14 => ?_) (fun c_14 => absurd c_14 (fun q => q (nI_lt (a := 16) (b := 17) (by decide) (by decide))))
    exact s_vret hK hE dX4_readRuns_151 (by rw [← hF]; rfl)
  have hb1 : ∀ k1 : Nat, k1 < 17 → (∀ (s : aS) (a : Nat) (fl cb lb : Int32) (z6 z7 z8 : Option Value), TX s n a → rR row n (17 - (k1 + 1)) s a fl cb lb = FIN → AW K 10 [some (.ref 603), some (.int row), some (.int fl), some (.int cb), some (.int lb), some (.int (nI (k1 + 1))), z6, z7, z8] [] s) → (∀ (s : aS) (a : Nat) (fl cb lb : Int32) (z6 z7 z8 : Option Value), TX s n a → rR row n (17 - k1) s a fl cb lb = FIN → AW K 10 [some (.ref 603), some (.int row), some (.int fl), some (.int cb), some (.int lb), some (.int (nI k1)), z6, z7, z8] [] s) := by
    intro k1 hk1 ih1 s a fl cb lb z6 z7 z8 hT hF
    refine s_iload5 hK dX4_readRuns_10 ?_
    refine s_bipush (v := 16) hK dX4_readRuns_12 (by decide) ?_
    refine s_icmp_gt (tgt := 151) hK dX4_readRuns_14 (by decide) (fun c_14 => absurd c_14 (nI_nlt (a := 16) (by omega) (by decide))) (fun c_14 => ?_)
    refine s_aload0 hK dX4_readRuns_17 ?_
    refine s_callV (ci := 4) hK mdX4_skipSpaces (zX4_skipSpaces n a hT) gX4_readRuns_X4_skipSpaces rfl rfl rfl (by decide) rfl ⟨Nat.le_of_ble_eq_true rfl, Nat.le_of_ble_eq_true rfl⟩ rfl (Nat.le_of_ble_eq_true rfl) dX4_readRuns_18 ?_
    try dsimp only [Option.toList, List.cons_append, List.nil_append]
    refine s_aload0 hK dX4_readRuns_21 ?_
    refine s_callV (ci := 4) hK mdX4_here (zX4_here n (sk (s 604) n a) (hT.sA (sk_le (t := s 604) hT.2.1))) gX4_readRuns_X4_here rfl rfl rfl (by decide) rfl ⟨Nat.le_of_ble_eq_true rfl, Nat.le_of_ble_eq_true rfl⟩ rfl (Nat.le_of_ble_eq_true rfl) dX4_readRuns_22 ?_
    try dsimp only [Option.toList, List.cons_append, List.nil_append]
    rw [sA_ne (by decide)]
    refine s_bipush (v := 59) hK dX4_readRuns_25 (by decide) ?_
    refine s_icmp_ne (tgt := 66) hK dX4_readRuns_27 (by decide) (fun c_27 => ?_) (fun c_27 => ?_)
    · refine s_aload0 hK dX4_readRuns_66 ?_
      refine s_iconst (v := 1) hK dX4_readRuns_67 (by decide) ?_
      refine s_bipush (v := 16) hK dX4_readRuns_68 (by decide) ?_
      refine s_iload2 hK dX4_readRuns_70 ?_
      refine s_isub hK dX4_readRuns_71 ?_
      refine s_callV (ci := 4) hK mdX4_readNumber (zX4_readNumber n (sk (s 604) n a) (hT.sA (sk_le (t := s 604) hT.2.1)) 1 (16 - fl)) gX4_readRuns_X4_readNumber rfl rfl rfl (by decide) rfl ⟨Nat.le_of_ble_eq_true rfl, Nat.le_of_ble_eq_true rfl⟩ rfl (Nat.le_of_ble_eq_true rfl) dX4_readRuns_72 ?_
      try dsimp only [Option.toList, List.cons_append, List.nil_append]
      show AW K _ _ [.int (rqv s n (sk (s 604) n a) fl)] (rq s n (sk (s 604) n a) fl)
      refine s_istore6 hK dX4_readRuns_75 ?_
      refine s_iload6 hK dX4_readRuns_77 ?_
      refine s_iconst (v := -1) hK dX4_readRuns_79 (by decide) ?_
      refine s_icmp_ne (tgt := 84) hK dX4_readRuns_80 (by decide) (fun c_80 => ?_) (fun c_80 => ?_)
      · refine s_aload0 hK dX4_readRuns_84 ?_
        refine s_callV (ci := 4) hK mdX4_readKind (zX4_readKind n (de (s 604) n (sk (s 604) n a)) (tx_rq hT fl)) gX4_readRuns_X4_readKind rfl rfl rfl (by decide) rfl ⟨Nat.le_of_ble_eq_true rfl, Nat.le_of_ble_eq_true rfl⟩ rfl (Nat.le_of_ble_eq_true rfl) dX4_readRuns_85 ?_
        try dsimp only [Option.toList, List.cons_append, List.nil_append]
        refine s_istore7 hK dX4_readRuns_88 ?_
        refine s_aload0 hK dX4_readRuns_90 ?_
        refine s_geti (ci := 4) (k := 3) hK rfl rfl i_4 (by decide +kernel) dX4_readRuns_91 (by decide) (by decide) (by decide) rfl rfl ?_
        refine s_if_lt (tgt := 98) hK dX4_readRuns_94 (by decide) (fun c_94 => ?_) (fun c_94 => ?_)
        · refine s_iconst (v := 1) hK dX4_readRuns_98 (by decide) ?_
          refine s_iload6 hK dX4_readRuns_99 ?_
          refine s_ishl hK dX4_readRuns_101 ?_
          refine s_iconst (v := 1) hK dX4_readRuns_102 (by decide) ?_
          refine s_isub hK dX4_readRuns_103 ?_
          refine s_iload2 hK dX4_readRuns_104 ?_
          refine s_ishl hK dX4_readRuns_105 ?_
          refine s_istore8 hK dX4_readRuns_106 ?_
          refine s_iload3 hK dX4_readRuns_108 ?_
          refine AW.cut (j := 121) (v := if rKv (rq s n (sk (s 604) n a) fl) n (de (s 604) n (sk (s 604) n a)) = 1 then bitsV (rqv s n (sk (s 604) n a) fl) fl else 0) (fun hJ_121 => ?_) ?_
          · refine s_iload7 hK dX4_readRuns_109 ?_
            refine s_iconst (v := 1) hK dX4_readRuns_111 (by decide) ?_
            refine s_icmp_ne (tgt := 120) hK dX4_readRuns_112 (by decide) (fun c_112 => ?_) (fun c_112 => ?_)
            · refine s_iconst (v := 0) hK dX4_readRuns_120 (by decide) ?_
              exact AW.vv hJ_121 (by first | exact if_neg c_112 | exact if_pos c_112 | exact (if_neg c_112).symm | exact (if_pos c_112).symm)
            · refine s_iload8 hK dX4_readRuns_115 ?_
              refine s_goto (tgt := 121) hK dX4_readRuns_117 (by decide) ?_
              exact AW.vv hJ_121 (by first | exact if_neg c_112 | exact if_pos c_112 | exact (if_neg c_112).symm | exact (if_pos c_112).symm)
          show AW K _ _ _ _
          refine s_ior hK dX4_readRuns_121 ?_
          refine s_istore3 hK dX4_readRuns_122 ?_
          refine s_iload4 hK dX4_readRuns_123 ?_
          refine AW.cut (j := 137) (v := if rKv (rq s n (sk (s 604) n a) fl) n (de (s 604) n (sk (s 604) n a)) = 2 then bitsV (rqv s n (sk (s 604) n a) fl) fl else 0) (fun hJ_137 => ?_) ?_
          · refine s_iload7 hK dX4_readRuns_125 ?_
            refine s_iconst (v := 2) hK dX4_readRuns_127 (by decide) ?_
            refine s_icmp_ne (tgt := 136) hK dX4_readRuns_128 (by decide) (fun c_128 => ?_) (fun c_128 => ?_)
            · refine s_iconst (v := 0) hK dX4_readRuns_136 (by decide) ?_
              exact AW.vv hJ_137 (by first | exact if_neg c_128 | exact if_pos c_128 | exact (if_neg c_128).symm | exact (if_pos c_128).symm)
            · refine s_iload8 hK dX4_readRuns_131 ?_
              refine s_goto (tgt := 137) hK dX4_readRuns_133 (by decide) ?_
              exact AW.vv hJ_137 (by first | exact if_neg c_128 | exact if_pos c_128 | exact (if_neg c_128).symm | exact (if_pos c_128).symm)
          show AW K _ _ _ _
          refine s_ior hK dX4_readRuns_137 ?_
          refine s_istore4 hK dX4_readRuns_138 ?_
          refine s_iload2 hK dX4_readRuns_140 ?_
          refine s_iload6 hK dX4_readRuns_141 ?_
          refine s_iadd hK dX4_readRuns_143 ?_
          refine s_istore2 hK dX4_readRuns_144 ?_
          refine s_iinc5 hK dX4_readRuns_145 (hv_1 _) ?_
          refine s_goto (tgt := 10) hK dX4_readRuns_148 (by decide) ?_
          exact AW.to (ih1 _ (rKa (rq s n (sk (s 604) n a) fl) n (de (s 604) n (sk (s 604) n a))) _ _ _ _ _ _ (tx_rK (tx_rq hT fl)) (by rw [← hF, show 17 - k1 = (16 - k1) + 1 by omega, rR_s, if_neg (fun z => by first | exact c_27 z.1 | exact c_33 z.2), if_neg c_80, if_pos c_94]; rw [show 17 - (k1 + 1) = 16 - k1 by omega])) (by rw [nI_1]) rfl
        · exact s_vret hK hE dX4_readRuns_97 (by rw [← hF, show 17 - k1 = (16 - k1) + 1 by omega, rR_s, if_neg (fun z => by first | exact c_27 z.1 | exact c_33 z.2), if_neg c_80, if_neg c_94])
      · exact s_vret hK hE dX4_readRuns_83 (by rw [← hF, show 17 - k1 = (16 - k1) + 1 by omega, rR_s, if_neg (fun z => by first | exact c_27 z.1 | exact c_33 z.2), if_pos c_80])
    · refine s_iload2 hK dX4_readRuns_30 ?_
      refine s_bipush (v := 16) hK dX4_readRuns_31 (by decide) ?_
      refine s_icmp_ne (tgt := 66) hK dX4_readRuns_33 (by decide) (fun c_33 => ?_) (fun c_33 => ?_)
      · refine s_aload0 hK dX4_readRuns_66 ?_
        refine s_iconst (v := 1) hK dX4_readRuns_67 (by decide) ?_
        refine s_bipush (v := 16) hK dX4_readRuns_68 (by decide) ?_
        refine s_iload2 hK dX4_readRuns_70 ?_
        refine s_isub hK dX4_readRuns_71 ?_
        refine s_callV (ci := 4) hK mdX4_readNumber (zX4_readNumber n (sk (s 604) n a) (hT.sA (sk_le (t := s 604) hT.2.1)) 1 (16 - fl)) gX4_readRuns_X4_readNumber rfl rfl rfl (by decide) rfl ⟨Nat.le_of_ble_eq_true rfl, Nat.le_of_ble_eq_true rfl⟩ rfl (Nat.le_of_ble_eq_true rfl) dX4_readRuns_72 ?_
        try dsimp only [Option.toList, List.cons_append, List.nil_append]
        show AW K _ _ [.int (rqv s n (sk (s 604) n a) fl)] (rq s n (sk (s 604) n a) fl)
        refine s_istore6 hK dX4_readRuns_75 ?_
        refine s_iload6 hK dX4_readRuns_77 ?_
        refine s_iconst (v := -1) hK dX4_readRuns_79 (by decide) ?_
        refine s_icmp_ne (tgt := 84) hK dX4_readRuns_80 (by decide) (fun c_80 => ?_) (fun c_80 => ?_)
        · refine s_aload0 hK dX4_readRuns_84 ?_
          refine s_callV (ci := 4) hK mdX4_readKind (zX4_readKind n (de (s 604) n (sk (s 604) n a)) (tx_rq hT fl)) gX4_readRuns_X4_readKind rfl rfl rfl (by decide) rfl ⟨Nat.le_of_ble_eq_true rfl, Nat.le_of_ble_eq_true rfl⟩ rfl (Nat.le_of_ble_eq_true rfl) dX4_readRuns_85 ?_
          try dsimp only [Option.toList, List.cons_append, List.nil_append]
          refine s_istore7 hK dX4_readRuns_88 ?_
          refine s_aload0 hK dX4_readRuns_90 ?_
          refine s_geti (ci := 4) (k := 3) hK rfl rfl i_4 (by decide +kernel) dX4_readRuns_91 (by decide) (by decide) (by decide) rfl rfl ?_
          refine s_if_lt (tgt := 98) hK dX4_readRuns_94 (by decide) (fun c_94 => ?_) (fun c_94 => ?_)
          · refine s_iconst (v := 1) hK dX4_readRuns_98 (by decide) ?_
            refine s_iload6 hK dX4_readRuns_99 ?_
            refine s_ishl hK dX4_readRuns_101 ?_
            refine s_iconst (v := 1) hK dX4_readRuns_102 (by decide) ?_
            refine s_isub hK dX4_readRuns_103 ?_
            refine s_iload2 hK dX4_readRuns_104 ?_
            refine s_ishl hK dX4_readRuns_105 ?_
            refine s_istore8 hK dX4_readRuns_106 ?_
            refine s_iload3 hK dX4_readRuns_108 ?_
            refine AW.cut (j := 121) (v := if rKv (rq s n (sk (s 604) n a) fl) n (de (s 604) n (sk (s 604) n a)) = 1 then bitsV (rqv s n (sk (s 604) n a) fl) fl else 0) (fun hJ_121 => ?_) ?_
            · refine s_iload7 hK dX4_readRuns_109 ?_
              refine s_iconst (v := 1) hK dX4_readRuns_111 (by decide) ?_
              refine s_icmp_ne (tgt := 120) hK dX4_readRuns_112 (by decide) (fun c_112 => ?_) (fun c_112 => ?_)
              · refine s_iconst (v := 0) hK dX4_readRuns_120 (by decide) ?_
                exact AW.vv hJ_121 (by first | exact if_neg c_112 | exact if_pos c_112 | exact (if_neg c_112).symm | exact (if_pos c_112).symm)
              · refine s_iload8 hK dX4_readRuns_115 ?_
                refine s_goto (tgt := 121) hK dX4_readRuns_117 (by decide) ?_
                exact AW.vv hJ_121 (by first | exact if_neg c_112 | exact if_pos c_112 | exact (if_neg c_112).symm | exact (if_pos c_112).symm)
            show AW K _ _ _ _
            refine s_ior hK dX4_readRuns_121 ?_
            refine s_istore3 hK dX4_readRuns_122 ?_
            refine s_iload4 hK dX4_readRuns_123 ?_
            refine AW.cut (j := 137) (v := if rKv (rq s n (sk (s 604) n a) fl) n (de (s 604) n (sk (s 604) n a)) = 2 then bitsV (rqv s n (sk (s 604) n a) fl) fl else 0) (fun hJ_137 => ?_) ?_
            · refine s_iload7 hK dX4_readRuns_125 ?_
              refine s_iconst (v := 2) hK dX4_readRuns_127 (by decide) ?_
              refine s_icmp_ne (tgt := 136) hK dX4_readRuns_128 (by decide) (fun c_128 => ?_) (fun c_128 => ?_)
              · refine s_iconst (v := 0) hK dX4_readRuns_136 (by decide) ?_
                exact AW.vv hJ_137 (by first | exact if_neg c_128 | exact if_pos c_128 | exact (if_neg c_128).symm | exact (if_pos c_128).symm)
              · refine s_iload8 hK dX4_readRuns_131 ?_
                refine s_goto (tgt := 137) hK dX4_readRuns_133 (by decide) ?_
                exact AW.vv hJ_137 (by first | exact if_neg c_128 | exact if_pos c_128 | exact (if_neg c_128).symm | exact (if_pos c_128).symm)
            show AW K _ _ _ _
            refine s_ior hK dX4_readRuns_137 ?_
            refine s_istore4 hK dX4_readRuns_138 ?_
            refine s_iload2 hK dX4_readRuns_140 ?_
            refine s_iload6 hK dX4_readRuns_141 ?_
            refine s_iadd hK dX4_readRuns_143 ?_
            refine s_istore2 hK dX4_readRuns_144 ?_
            refine s_iinc5 hK dX4_readRuns_145 (hv_1 _) ?_
            refine s_goto (tgt := 10) hK dX4_readRuns_148 (by decide) ?_
            exact AW.to (ih1 _ (rKa (rq s n (sk (s 604) n a) fl) n (de (s 604) n (sk (s 604) n a))) _ _ _ _ _ _ (tx_rK (tx_rq hT fl)) (by rw [← hF, show 17 - k1 = (16 - k1) + 1 by omega, rR_s, if_neg (fun z => by first | exact c_27 z.1 | exact c_33 z.2), if_neg c_80, if_pos c_94]; rw [show 17 - (k1 + 1) = 16 - k1 by omega])) (by rw [nI_1]) rfl
          · exact s_vret hK hE dX4_readRuns_97 (by rw [← hF, show 17 - k1 = (16 - k1) + 1 by omega, rR_s, if_neg (fun z => by first | exact c_27 z.1 | exact c_33 z.2), if_neg c_80, if_neg c_94])
        · exact s_vret hK hE dX4_readRuns_83 (by rw [← hF, show 17 - k1 = (16 - k1) + 1 by omega, rR_s, if_neg (fun z => by first | exact c_27 z.1 | exact c_33 z.2), if_pos c_80])
      · refine s_aload0 hK dX4_readRuns_36 ?_
        refine s_dup hK dX4_readRuns_37 ?_
        refine s_getiv (v := nI (sk (s 604) n a)) (sA_2 _ _) (ci := 4) (k := 2) hK rfl rfl i_4 (by decide +kernel) dX4_readRuns_38 (by decide) (by decide) (by decide) rfl rfl ?_
        refine s_iconst (v := 1) hK dX4_readRuns_41 (by decide) ?_
        refine s_iadd hK dX4_readRuns_42 ?_
        rw [nI_1]
        refine s_putg (ci := 4) (k := 2) (ty := .int) hK rfl rfl i_4 (by decide +kernel) dX4_readRuns_43 tyX4_ok nmX4 (by decide) (by decide) (by decide) rfl rfl rfl (by decide +kernel) rfl rfl ?_
        rw [show sP (sA s (sk (s 604) n a)) 603 (upd (sA s (sk (s 604) n a) 603) 2 (nI (sk (s 604) n a + 1))) = sA s (sk (s 604) n a + 1) from sA_sA s _ _]
        refine s_aload0 hK dX4_readRuns_46 ?_
        refine s_getr (ci := 4) (k := 4) hK rfl rfl i_4 (by decide +kernel) dX4_readRuns_47 (by decide) (by decide) (by decide) rfl rfl (rf_4_4 rfl) ?_
        refine s_iload1 hK dX4_readRuns_50 ?_
        refine s_iload3 hK dX4_readRuns_51 ?_
        refine s_callV (ci := 1) hK mdX1_putRow (zX1_putRow 605 row cb rfl) gX4_readRuns_X1_putRow rfl rfl rfl (by decide) rfl ⟨Nat.le_of_ble_eq_true rfl, Nat.le_of_ble_eq_true rfl⟩ rfl (Nat.le_of_ble_eq_true rfl) dX4_readRuns_52 ?_
        try dsimp only [Option.toList, List.cons_append, List.nil_append]
        refine s_aload0 hK dX4_readRuns_55 ?_
        refine s_getr (ci := 4) (k := 5) hK rfl rfl i_4 (by decide +kernel) dX4_readRuns_56 (by decide) (by decide) (by decide) rfl rfl (rf_4_5 rfl) ?_
        refine s_iload1 hK dX4_readRuns_59 ?_
        refine s_iload4 hK dX4_readRuns_60 ?_
        refine s_callV (ci := 1) hK mdX1_putRow (zX1_putRow 606 row lb rfl) gX4_readRuns_X1_putRow rfl rfl rfl (by decide) rfl ⟨Nat.le_of_ble_eq_true rfl, Nat.le_of_ble_eq_true rfl⟩ rfl (Nat.le_of_ble_eq_true rfl) dX4_readRuns_62 ?_
        try dsimp only [Option.toList, List.cons_append, List.nil_append]
        exact s_vret hK hE dX4_readRuns_65 (by rw [← hF, show 17 - k1 = (16 - k1) + 1 by omega, rR_s, if_pos ⟨c_27, c_33⟩])
  refine s_iconst (v := 0) hK dX4_readRuns_0 (by decide) ?_
  refine s_istore2 hK dX4_readRuns_1 ?_
  refine s_iconst (v := 0) hK dX4_readRuns_2 (by decide) ?_
  refine s_istore3 hK dX4_readRuns_3 ?_
  refine s_iconst (v := 0) hK dX4_readRuns_4 (by decide) ?_
  refine s_istore4 hK dX4_readRuns_5 ?_
  refine s_iconst (v := 0) hK dX4_readRuns_7 (by decide) ?_
  refine s_istore5 hK dX4_readRuns_8 ?_
  exact AW.to (up_to (fun kx => ∀ (s : aS) (a : Nat) (fl cb lb : Int32) (z6 z7 z8 : Option Value), TX s n a → rR row n (17 - kx) s a fl cb lb = FIN → AW K 10 [some (.ref 603), some (.int row), some (.int fl), some (.int cb), some (.int lb), some (.int (nI kx)), z6, z7, z8] [] s) 17 hx1 hb1 σ a 0 0 0 none none none h hFIN.symm) (rfl) (rfl)
set_option maxHeartbeats 4000000 in
set_option maxRecDepth 100000 in
theorem zX4_readItem {g : aG} {l : Launch} {σ : aS} (n a : Nat) (h : TX σ n a) : CN g l yX4_readItem wsX4_readItem 4 89 [.ref 603] σ none (rI σ n a).1 := by
  refine cn_of (cc := cX4_readItem) (nL := 2) (ret := none) (own := RX4) (by decide +kernel) rfl rfl (Nat.le_of_ble_eq_true rfl) (fun K hg hl hK hE => ?_)
  subst hg; subst hl
  have i_4 : ∀ w ∈ u_ws RX4 TX4 6, w ∈ wsX4_readItem := by decide +kernel
  show AW K 0 [some (.ref 603), none] [] σ
  refine s_aload0 hK dX4_readItem_0 ?_
  refine s_iconst (v := 0) hK dX4_readItem_1 (by decide) ?_
  refine s_bipush (v := 11) hK dX4_readItem_2 (by decide) ?_
  refine s_callV (ci := 4) hK mdX4_readNumber (zX4_readNumber n a h 0 11) gX4_readItem_X4_readNumber rfl rfl rfl (by decide) rfl ⟨Nat.le_of_ble_eq_true rfl, Nat.le_of_ble_eq_true rfl⟩ rfl (Nat.le_of_ble_eq_true rfl) dX4_readItem_4 ?_
  try dsimp only [Option.toList, List.cons_append, List.nil_append]
  refine s_istore1 hK dX4_readItem_7 ?_
  refine s_iload1 hK dX4_readItem_8 ?_
  refine s_iconst (v := -1) hK dX4_readItem_9 (by decide) ?_
  refine s_icmp_ne (tgt := 14) hK dX4_readItem_10 (by decide) (fun c_10 => ?_) (fun c_10 => ?_)
  · refine s_aload0 hK dX4_readItem_14 ?_
    refine s_callV (ci := 4) hK mdX4_skipSpaces (zX4_skipSpaces n (de (σ 604) n a) (tx_rN h 0 11)) gX4_readItem_X4_skipSpaces rfl rfl rfl (by decide) rfl ⟨Nat.le_of_ble_eq_true rfl, Nat.le_of_ble_eq_true rfl⟩ rfl (Nat.le_of_ble_eq_true rfl) dX4_readItem_15 ?_
    try dsimp only [Option.toList, List.cons_append, List.nil_append]
    rw [show rNs σ n a 0 11 604 = σ 604 from rNs_ne (by decide)]
    refine s_aload0 hK dX4_readItem_18 ?_
    refine s_callV (ci := 4) hK mdX4_here (zX4_here n (sk (σ 604) n (de (σ 604) n a)) ((tx_rN h 0 11).sA (sk_le (t := σ 604) (de_le (t := σ 604) h.2.1)))) gX4_readItem_X4_here rfl rfl rfl (by decide) rfl ⟨Nat.le_of_ble_eq_true rfl, Nat.le_of_ble_eq_true rfl⟩ rfl (Nat.le_of_ble_eq_true rfl) dX4_readItem_19 ?_
    try dsimp only [Option.toList, List.cons_append, List.nil_append]
    rw [sA_ne (by decide), show rNs σ n a 0 11 604 = σ 604 from rNs_ne (by decide)]
    refine s_bipush (v := 58) hK dX4_readItem_22 (by decide) ?_
    refine s_icmp_eq (tgt := 36) hK dX4_readItem_24 (by decide) (fun c_24 => ?_) (fun c_24 => ?_)
    · refine s_aload0 hK dX4_readItem_36 ?_
      refine s_dup hK dX4_readItem_37 ?_
      refine s_getiv (v := nI (sk (σ 604) n (de (σ 604) n a))) (sA_2 _ _) (ci := 4) (k := 2) hK rfl rfl i_4 (by decide +kernel) dX4_readItem_38 (by decide) (by decide) (by decide) rfl rfl ?_
      refine s_iconst (v := 1) hK dX4_readItem_41 (by decide) ?_
      refine s_iadd hK dX4_readItem_42 ?_
      rw [nI_1]
      refine s_putg (ci := 4) (k := 2) (ty := .int) hK rfl rfl i_4 (by decide +kernel) dX4_readItem_43 tyX4_ok nmX4 (by decide) (by decide) (by decide) rfl rfl rfl (by decide +kernel) rfl rfl ?_
      rw [show sP (sA (rNs σ n a 0 11) (sk (σ 604) n (de (σ 604) n a))) 603 (upd (sA (rNs σ n a 0 11) (sk (σ 604) n (de (σ 604) n a)) 603) 2 (nI (sk (σ 604) n (de (σ 604) n a) + 1))) = sA (rNs σ n a 0 11) (sk (σ 604) n (de (σ 604) n a) + 1) from sA_sA _ _ _]
      refine s_aload0 hK dX4_readItem_46 ?_
      refine s_iload1 hK dX4_readItem_47 ?_
      refine s_callV (ci := 4) hK mdX4_readRuns (zX4_readRuns n (sk (σ 604) n (de (σ 604) n a) + 1) (rNv σ n a 0 11) ((tx_rN h 0 11).sA (hr_0 (by rw [c_24]; decide)))) gX4_readItem_X4_readRuns rfl rfl rfl (by decide) rfl ⟨Nat.le_of_ble_eq_true rfl, Nat.le_of_ble_eq_true rfl⟩ rfl (Nat.le_of_ble_eq_true rfl) dX4_readItem_48 ?_
      try dsimp only [Option.toList, List.cons_append, List.nil_append]
      exact s_vret hK hE dX4_readItem_51 (by rw [rI, if_neg c_10, if_pos c_24])
    · refine s_aload0 hK dX4_readItem_27 ?_
      refine s_aload0 hK dX4_readItem_28 ?_
      refine s_getiv (v := nI (sk (σ 604) n (de (σ 604) n a))) (sA_2 _ _) (ci := 4) (k := 2) hK rfl rfl i_4 (by decide +kernel) dX4_readItem_29 (by decide) (by decide) (by decide) rfl rfl ?_
      refine s_callV (ci := 4) hK mdX4_failAt (zX4_failAt (sk (σ 604) n (de (σ 604) n a))) gX4_readItem_X4_failAt rfl rfl rfl (by decide) rfl ⟨Nat.le_of_ble_eq_true rfl, Nat.le_of_ble_eq_true rfl⟩ rfl (Nat.le_of_ble_eq_true rfl) dX4_readItem_32 ?_
      try dsimp only [Option.toList, List.cons_append, List.nil_append]
      exact s_vret hK hE dX4_readItem_35 (by rw [rI, if_neg c_10, if_neg c_24])
  · exact s_vret hK hE dX4_readItem_13 (by rw [rI, if_pos c_10])
theorem rT_s (n f : Nat) (s : aS) (a : Nat) (it : Int32) : rT n (f + 1) s a it = (
    if sk (s 604) n a < n then
      (if (rI (sA s (sk (s 604) n a)) n (sk (s 604) n a)).1 603 3 < 0 then rT n f (rI (sA s (sk (s 604) n a)) n (sk (s 604) n a)).1 (rI (sA s (sk (s 604) n a)) n (sk (s 604) n a)).2 (it + 1)
       else ((rI (sA s (sk (s 604) n a)) n (sk (s 604) n a)).1, -2000 - (rI (sA s (sk (s 604) n a)) n (sk (s 604) n a)).1 603 3))
    else (sA s (sk (s 604) n a), it)) := rfl
theorem tx_rt0 {σ : aS} {n : Nat} (hn : n ≤ 140) (h : σ 603 1 = nI n) : TX (rt0 σ) n 0 := by
  refine ⟨hn, Nat.zero_le _, ?_, ?_⟩
  · unfold rt0
    rw [sP_same]
    simp only [upd]
    rw [if_neg (by decide), sA_k _ _ (by decide), bL_ne (by decide), bL_ne (by decide)]
    exact h
  · unfold rt0
    rw [sP_same]
    simp only [upd]
    rw [if_neg (by decide), sA_2]
set_option maxHeartbeats 4000000 in
set_option maxRecDepth 100000 in
theorem zX4_readText {g : aG} {l : Launch} {σ : aS} (n : Nat) (hn : n ≤ 140) (h1 : σ 603 1 = nI n) : CN g l yX4_readText wsX4_readText 5 110 [.ref 603, .ref 10] σ (some (.int (rtF σ n).2)) (rtF σ n).1 := by
  refine cn_of (cc := cX4_readText) (nL := 3) (ret := (some .int)) (own := RX4) (by decide +kernel) rfl rfl (Nat.le_of_ble_eq_true rfl) (fun K hg hl hK hE => ?_)
  subst hg; subst hl
  have i_0 : ∀ w ∈ u_ws RX0 TX0 5, w ∈ wsX4_readText := by decide +kernel
  have i_4 : ∀ w ∈ u_ws RX4 TX4 6, w ∈ wsX4_readText := by decide +kernel
  show AW K 0 [some (.ref 603), some (.ref 10), none] [] σ
  obtain ⟨FIN, hFIN⟩ : ∃ F, F = rtF σ n := ⟨_, rfl⟩
  rw [← hFIN] at hE
  have h0 := tx_rt0 (σ := σ) hn h1
  have hx1 : ∀ (s : aS) (a : Nat), TX s n a → rT n (141 - 141) s a (nI 141) = FIN → AW K 34 [some (.ref 603), some (.ref 10), some (.int (nI 141))] [] s := by
    intro s a hT hF
    refine s_iload2 hK dX4_readText_34 ?_
    refine s_sipush (v := 140) hK dX4_readText_35 (by decide) ?_
    refine s_icmp_gt (tgt := 84) hK dX4_readText_38 (by decide) (fun c_38 => ?_) (fun c_38 => absurd c_38 (fun q => q (nI_lt (a := 140) (b := 141) (by decide) (by decide))))
    refine s_sipush (v := -2000) hK dX4_readText_84 (by decide) ?_
    refine s_aload0 hK dX4_readText_87 ?_
    refine s_getiv (v := nI n) (hT.2.2.1) (ci := 4) (k := 1) hK rfl rfl i_4 (by decide +kernel) dX4_readText_88 (by decide) (by decide) (by decide) rfl rfl ?_
    refine s_isub hK dX4_readText_91 ?_
    exact s_iret hK hE dX4_readText_92 rfl (by rw [← hF]; rfl) (by rw [← hF]; rfl)
  have hb1 : ∀ k1 : Nat, k1 < 141 → (∀ (s : aS) (a : Nat), TX s n a → rT n (141 - (k1 + 1)) s a (nI (k1 + 1)) = FIN → AW K 34 [some (.ref 603), some (.ref 10), some (.int (nI (k1 + 1)))] [] s) → (∀ (s : aS) (a : Nat), TX s n a → rT n (141 - k1) s a (nI k1) = FIN → AW K 34 [some (.ref 603), some (.ref 10), some (.int (nI k1))] [] s) := by
    intro k1 hk1 ih1 s a hT hF
    refine s_iload2 hK dX4_readText_34 ?_
    refine s_sipush (v := 140) hK dX4_readText_35 (by decide) ?_
    refine s_icmp_gt (tgt := 84) hK dX4_readText_38 (by decide) (fun c_38 => absurd c_38 (nI_nlt (a := 140) (by omega) (by decide))) (fun c_38 => ?_)
    refine s_aload0 hK dX4_readText_41 ?_
    refine s_callV (ci := 4) hK mdX4_skipSpaces (zX4_skipSpaces n a hT) gX4_readText_X4_skipSpaces rfl rfl rfl (by decide) rfl ⟨Nat.le_of_ble_eq_true rfl, Nat.le_of_ble_eq_true rfl⟩ rfl (Nat.le_of_ble_eq_true rfl) dX4_readText_42 ?_
    try dsimp only [Option.toList, List.cons_append, List.nil_append]
    refine s_aload0 hK dX4_readText_45 ?_
    refine s_getiv (v := nI (sk (s 604) n a)) (sA_2 _ _) (ci := 4) (k := 2) hK rfl rfl i_4 (by decide +kernel) dX4_readText_46 (by decide) (by decide) (by decide) rfl rfl ?_
    refine s_aload0 hK dX4_readText_49 ?_
    refine s_getiv (v := nI n) ((hT.sA (sk_le (t := s 604) hT.2.1)).2.2.1) (ci := 4) (k := 1) hK rfl rfl i_4 (by decide +kernel) dX4_readText_50 (by decide) (by decide) (by decide) rfl rfl ?_
    refine s_icmp_lt (tgt := 58) hK dX4_readText_53 (by decide) (fun c_53 => ?_) (fun c_53 => ?_)
    · refine s_aload0 hK dX4_readText_58 ?_
      refine s_callV (ci := 4) hK mdX4_readItem (zX4_readItem n (sk (s 604) n a) (hT.sA (sk_le (t := s 604) hT.2.1))) gX4_readText_X4_readItem rfl rfl rfl (by decide) rfl ⟨Nat.le_of_ble_eq_true rfl, Nat.le_of_ble_eq_true rfl⟩ rfl (Nat.le_of_ble_eq_true rfl) dX4_readText_59 ?_
      try dsimp only [Option.toList, List.cons_append, List.nil_append]
      refine s_aload0 hK dX4_readText_62 ?_
      refine s_geti (ci := 4) (k := 3) hK rfl rfl i_4 (by decide +kernel) dX4_readText_63 (by decide) (by decide) (by decide) rfl rfl ?_
      refine s_if_lt (tgt := 78) hK dX4_readText_66 (by decide) (fun c_66 => ?_) (fun c_66 => ?_)
      · refine s_iinc2 hK dX4_readText_78 (hv_1 _) ?_
        refine s_goto (tgt := 34) hK dX4_readText_81 (by decide) ?_
        exact AW.to (ih1 _ (rI (sA s (sk (s 604) n a)) n (sk (s 604) n a)).2 (tx_rI (hT.sA (sk_le (t := s 604) hT.2.1))) (by rw [← hF, show 141 - k1 = (140 - k1) + 1 by omega, rT_s, if_pos (show sk (s 604) n a < n by rcases Nat.lt_or_ge (sk (s 604) n a) n with z | z; exact z; exact absurd c_53 (nI_nlt z (by have := sk_le (t := s 604) hT.2.1; have := hT.1; omega))), if_pos c_66, nI_1]; rw [show 141 - (k1 + 1) = 140 - k1 by omega])) (by rw [nI_1]) rfl
      · refine s_sipush (v := -2000) hK dX4_readText_69 (by decide) ?_
        refine s_aload0 hK dX4_readText_72 ?_
        refine s_geti (ci := 4) (k := 3) hK rfl rfl i_4 (by decide +kernel) dX4_readText_73 (by decide) (by decide) (by decide) rfl rfl ?_
        refine s_isub hK dX4_readText_76 ?_
        exact s_iret hK hE dX4_readText_77 rfl (by rw [← hF, show 141 - k1 = (140 - k1) + 1 by omega, rT_s, if_pos (show sk (s 604) n a < n by rcases Nat.lt_or_ge (sk (s 604) n a) n with z | z; exact z; exact absurd c_53 (nI_nlt z (by have := sk_le (t := s 604) hT.2.1; have := hT.1; omega))), if_neg c_66]) (by rw [← hF, show 141 - k1 = (140 - k1) + 1 by omega, rT_s, if_pos (show sk (s 604) n a < n by rcases Nat.lt_or_ge (sk (s 604) n a) n with z | z; exact z; exact absurd c_53 (nI_nlt z (by have := sk_le (t := s 604) hT.2.1; have := hT.1; omega))), if_neg c_66])
    · refine s_iload2 hK dX4_readText_56 ?_
      exact s_iret hK hE dX4_readText_57 rfl (by rw [← hF, show 141 - k1 = (140 - k1) + 1 by omega, rT_s, if_neg (show ¬ sk (s 604) n a < n from fun z => c_53 (nI_lt z (by have := hT.1; omega)))]) (by rw [← hF, show 141 - k1 = (140 - k1) + 1 by omega, rT_s, if_neg (show ¬ sk (s 604) n a < n from fun z => c_53 (nI_lt z (by have := hT.1; omega)))])
  refine s_aload0 hK dX4_readText_0 ?_
  refine s_getr (ci := 4) (k := 4) hK rfl rfl i_4 (by decide +kernel) dX4_readText_1 (by decide) (by decide) (by decide) rfl rfl (rf_4_4 rfl) ?_
  refine s_aload1 hK dX4_readText_4 ?_
  refine s_getr (ci := 0) (k := 0) hK rfl rfl i_0 (by decide +kernel) dX4_readText_5 (by decide) (by decide) (by decide) rfl rfl (rf_0_0 rfl) ?_
  refine s_callV (ci := 1) hK mdX1_becomeLike (zX1_becomeLike 605 11 rfl rfl) gX4_readText_X1_becomeLike rfl rfl rfl (by decide) rfl ⟨Nat.le_of_ble_eq_true rfl, Nat.le_of_ble_eq_true rfl⟩ rfl (Nat.le_of_ble_eq_true rfl) dX4_readText_8 ?_
  try dsimp only [Option.toList, List.cons_append, List.nil_append]
  refine s_aload0 hK dX4_readText_11 ?_
  refine s_getr (ci := 4) (k := 5) hK rfl rfl i_4 (by decide +kernel) dX4_readText_12 (by decide) (by decide) (by decide) rfl rfl (rf_4_5 rfl) ?_
  refine s_aload1 hK dX4_readText_15 ?_
  refine s_getr (ci := 0) (k := 1) hK rfl rfl i_0 (by decide +kernel) dX4_readText_16 (by decide) (by decide) (by decide) rfl rfl (rf_0_1 rfl) ?_
  refine s_callV (ci := 1) hK mdX1_becomeLike (zX1_becomeLike 606 12 rfl rfl) gX4_readText_X1_becomeLike rfl rfl rfl (by decide) rfl ⟨Nat.le_of_ble_eq_true rfl, Nat.le_of_ble_eq_true rfl⟩ rfl (Nat.le_of_ble_eq_true rfl) dX4_readText_19 ?_
  try dsimp only [Option.toList, List.cons_append, List.nil_append]
  refine s_aload0 hK dX4_readText_22 ?_
  refine s_iconst (v := 0) hK dX4_readText_23 (by decide) ?_
  refine s_putg (ci := 4) (k := 2) (ty := .int) hK rfl rfl i_4 (by decide +kernel) dX4_readText_24 tyX4_ok nmX4 (by decide) (by decide) (by decide) rfl rfl rfl (by decide +kernel) rfl rfl ?_
  show AW K _ _ _ (sA (bL (bL σ 609 15) 610 16) 0)
  refine s_aload0 hK dX4_readText_27 ?_
  refine s_iconst (v := -1) hK dX4_readText_28 (by decide) ?_
  refine s_putg (ci := 4) (k := 3) (ty := .int) hK rfl rfl i_4 (by decide +kernel) dX4_readText_29 tyX4_ok nmX4 (by decide) (by decide) (by decide) rfl rfl rfl (by decide +kernel) rfl rfl ?_
  show AW K _ _ _ (rt0 σ)
  refine s_iconst (v := 0) hK dX4_readText_32 (by decide) ?_
  refine s_istore2 hK dX4_readText_33 ?_
  exact AW.to (up_to (fun kx => ∀ (s : aS) (a : Nat), TX s n a → rT n (141 - kx) s a (nI kx) = FIN → AW K 34 [some (.ref 603), some (.ref 10), some (.int (nI kx))] [] s) 141 hx1 hb1 (rt0 σ) 0 h0 hFIN.symm) (rfl) (rfl)
set_option maxHeartbeats 4000000 in
set_option maxRecDepth 100000 in
theorem zX6_load_bad {g : aG} {l : Launch} {σ : aS} (n : Nat) (hn : n ≤ 140) (h1 : σ 603 1 = nI n) (hbad : ¬ 0 ≤ (rtF σ n).2) : CN g l yX6_load wsX6_load 6 132 [.ref 600] σ (some (.int (rtF σ n).2)) (rtF σ n).1 := by
  refine cn_of (cc := cX6_load) (nL := 2) (ret := (some .int)) (own := RX6) (by decide +kernel) rfl rfl (Nat.le_of_ble_eq_true rfl) (fun K hg hl hK hE => ?_)
  subst hg; subst hl
  have i_5 : ∀ w ∈ u_ws RX5 TX5 10, w ∈ wsX6_load := by decide +kernel
  have i_6 : ∀ w ∈ u_ws RX6 TX6 5, w ∈ wsX6_load := by decide +kernel
  show AW K 0 [some (.ref 600), none] [] σ
  refine s_aload0 hK dX6_load_0 ?_
  refine s_getr (ci := 6) (k := 2) hK rfl rfl i_6 (by decide +kernel) dX6_load_1 (by decide) (by decide) (by decide) rfl rfl (rf_6_2 rfl) ?_
  refine s_aload0 hK dX6_load_4 ?_
  refine s_getr (ci := 6) (k := 0) hK rfl rfl i_6 (by decide +kernel) dX6_load_5 (by decide) (by decide) (by decide) rfl rfl (rf_6_0 rfl) ?_
  refine s_getr (ci := 5) (k := 0) hK rfl rfl i_5 (by decide +kernel) dX6_load_8 (by decide) (by decide) (by decide) rfl rfl (rf_5_0 rfl) ?_
  refine s_callV (ci := 4) hK mdX4_readText (zX4_readText n hn h1) gX6_load_X4_readText rfl rfl rfl (by decide) rfl ⟨Nat.le_of_ble_eq_true rfl, Nat.le_of_ble_eq_true rfl⟩ rfl (Nat.le_of_ble_eq_true rfl) dX6_load_11 ?_
  try dsimp only [Option.toList, List.cons_append, List.nil_append]
  refine s_istore1 hK dX6_load_14 ?_
  refine s_iload1 hK dX6_load_15 ?_
  refine s_if_ge (tgt := 21) hK dX6_load_16 (by decide) (fun c_16 => absurd c_16 hbad) (fun c_16 => ?_)
  refine s_iload1 hK dX6_load_19 ?_
  exact s_iret hK hE dX6_load_20 rfl (rfl) (rfl)
def ldX (σ : aS) (nx n : Nat) : aS :=
  let s := bL (bL (kp (rtF σ n).1 nx) 15 609) 16 610
  sP s 603 (upd (s 603) 1 0)
set_option maxHeartbeats 4000000 in
set_option maxRecDepth 100000 in
theorem zX6_load_ok {g : aG} {l : Launch} {σ : aS} (nx n : Nat) (hn : n ≤ 140) (h1 : σ 603 1 = nI n) (hok : 0 ≤ (rtF σ n).2) (hN : NX (rtF σ n).1 nx) : CN g l yX6_load wsX6_load 6 132 [.ref 600] σ (some (.int (rtF σ n).2)) (ldX σ nx n) := by
  refine cn_of (cc := cX6_load) (nL := 2) (ret := (some .int)) (own := RX6) (by decide +kernel) rfl rfl (Nat.le_of_ble_eq_true rfl) (fun K hg hl hK hE => ?_)
  subst hg; subst hl
  have i_5 : ∀ w ∈ u_ws RX5 TX5 10, w ∈ wsX6_load := by decide +kernel
  have i_6 : ∀ w ∈ u_ws RX6 TX6 5, w ∈ wsX6_load := by decide +kernel
  show AW K 0 [some (.ref 600), none] [] σ
  refine s_aload0 hK dX6_load_0 ?_
  refine s_getr (ci := 6) (k := 2) hK rfl rfl i_6 (by decide +kernel) dX6_load_1 (by decide) (by decide) (by decide) rfl rfl (rf_6_2 rfl) ?_
  refine s_aload0 hK dX6_load_4 ?_
  refine s_getr (ci := 6) (k := 0) hK rfl rfl i_6 (by decide +kernel) dX6_load_5 (by decide) (by decide) (by decide) rfl rfl (rf_6_0 rfl) ?_
  refine s_getr (ci := 5) (k := 0) hK rfl rfl i_5 (by decide +kernel) dX6_load_8 (by decide) (by decide) (by decide) rfl rfl (rf_5_0 rfl) ?_
  refine s_callV (ci := 4) hK mdX4_readText (zX4_readText n hn h1) gX6_load_X4_readText rfl rfl rfl (by decide) rfl ⟨Nat.le_of_ble_eq_true rfl, Nat.le_of_ble_eq_true rfl⟩ rfl (Nat.le_of_ble_eq_true rfl) dX6_load_11 ?_
  try dsimp only [Option.toList, List.cons_append, List.nil_append]
  refine s_istore1 hK dX6_load_14 ?_
  refine s_iload1 hK dX6_load_15 ?_
  refine s_if_ge (tgt := 21) hK dX6_load_16 (by decide) (fun c_16 => ?_) (fun c_16 => absurd c_16 (fun q => q hok))
  refine s_aload0 hK dX6_load_21 ?_
  refine s_getr (ci := 6) (k := 1) hK rfl rfl i_6 (by decide +kernel) dX6_load_22 (by decide) (by decide) (by decide) rfl rfl (rf_6_1 rfl) ?_
  refine s_aload0 hK dX6_load_25 ?_
  refine s_getr (ci := 6) (k := 0) hK rfl rfl i_6 (by decide +kernel) dX6_load_26 (by decide) (by decide) (by decide) rfl rfl (rf_6_0 rfl) ?_
  refine s_callV (ci := 2) hK mdX2_keep (zX2_keep nx hN.1 hN.2.1 hN.2.2.1 hN.2.2.2) gX6_load_X2_keep rfl rfl rfl (by decide) rfl ⟨Nat.le_of_ble_eq_true rfl, Nat.le_of_ble_eq_true rfl⟩ rfl (Nat.le_of_ble_eq_true rfl) dX6_load_29 ?_
  try dsimp only [Option.toList, List.cons_append, List.nil_append]
  refine s_aload0 hK dX6_load_32 ?_
  refine s_getr (ci := 6) (k := 2) hK rfl rfl i_6 (by decide +kernel) dX6_load_33 (by decide) (by decide) (by decide) rfl rfl (rf_6_2 rfl) ?_
  refine s_aload0 hK dX6_load_36 ?_
  refine s_getr (ci := 6) (k := 0) hK rfl rfl i_6 (by decide +kernel) dX6_load_37 (by decide) (by decide) (by decide) rfl rfl (rf_6_0 rfl) ?_
  refine s_getr (ci := 5) (k := 0) hK rfl rfl i_5 (by decide +kernel) dX6_load_40 (by decide) (by decide) (by decide) rfl rfl (rf_5_0 rfl) ?_
  refine s_callV (ci := 4) hK mdX4_handPictureTo (zX4_handPictureTo) gX6_load_X4_handPictureTo rfl rfl rfl (by decide) rfl ⟨Nat.le_of_ble_eq_true rfl, Nat.le_of_ble_eq_true rfl⟩ rfl (Nat.le_of_ble_eq_true rfl) dX6_load_43 ?_
  try dsimp only [Option.toList, List.cons_append, List.nil_append]
  refine s_aload0 hK dX6_load_46 ?_
  refine s_getr (ci := 6) (k := 2) hK rfl rfl i_6 (by decide +kernel) dX6_load_47 (by decide) (by decide) (by decide) rfl rfl (rf_6_2 rfl) ?_
  refine s_callV (ci := 4) hK mdX4_forgetText (zX4_forgetText 603 rfl) gX6_load_X4_forgetText rfl rfl rfl (by decide) rfl ⟨Nat.le_of_ble_eq_true rfl, Nat.le_of_ble_eq_true rfl⟩ rfl (Nat.le_of_ble_eq_true rfl) dX6_load_50 ?_
  try dsimp only [Option.toList, List.cons_append, List.nil_append]
  refine s_iload1 hK dX6_load_53 ?_
  exact s_iret hK hE dX6_load_54 rfl (rfl) (rfl)
