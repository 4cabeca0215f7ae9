theorem jX_JX {σ : aS} {n a row fr : Nat} (h : JX σ n a) (ha : a ≤ n) : JX (jX σ n a row fr) n (sk (σ 703) n (e1 σ n a + 1)) := by
  have hU := (h.sP ha fr).sK (e1_le ha)
  rw [jP_ne (by decide)] at hU
  unfold jX
  split
  · unfold jW
    exact JX.to hU (sP_ne (by decide))
  · exact hU
theorem jRn_JX {σ : aS} {n a row fr : Nat} (h : JX σ n a) (ha : a ≤ n) : JX (jRn σ n a row fr) n (jRa σ n a fr) := by
  unfold jRn jRa
  by_cases hw : wl (jP σ n a fr) = true
  · rw [if_pos hw, if_pos hw]
    exact (jX_JX h ha).sQ
  · rw [if_neg hw, if_neg hw]
    exact h.sP ha fr
theorem jX_wl {σ : aS} {n a row fr : Nat} (h : wl (jX σ n a row fr) = true) : wl (jU σ n a fr) = true := by
  by_cases c : wl (jU σ n a fr) = true
  · exact c
  · unfold jX at h
    rw [if_neg c] at h
    exact h
theorem jRn_wl {σ : aS} {n a row fr : Nat} (hJ : JX σ n a) (ha : a ≤ n) (hf : fr ≤ 16) (h : wl (jRn σ n a row fr) = true) : ∃ m : Nat, 1 ≤ m ∧ fr + m ≤ 16 ∧ jM σ n a = nI m ∧ a < jRa σ n a fr ∧ jRa σ n a fr ≤ n ∧ jRn σ n a row fr 700 14 = nI (fr + m) := by
  by_cases hw : wl (jP σ n a fr) = true
  · obtain ⟨m, h1, h2, h3⟩ := jP_wl hJ.2.1 hf hw
    have hn := hJ.1
    have he := e1_le (σ := σ) ha
    have hg := e1_ge (σ := σ) ha
    unfold jRn at h ⊢
    unfold jRa
    rw [if_pos hw] at h ⊢
    rw [if_pos hw]
    rw [wl_jQ] at h
    have hl : e1 σ n a < n := jK_wl (by omega) (jX_wl h)
    refine ⟨m, h1, h2, h3, ?_, sk_le hl, ?_⟩
    · have := sk_ge (t := σ 703) (n := n) (a := e1 σ n a + 1) hl
      omega
    · rw [jQ_14, h3, nI_add]
  · unfold jRn at h
    rw [if_neg hw] at h
    exact absurd h hw
theorem jEJ {c : Int32} {σ : aS} {n a : Nat} (h : JX σ n a) (hc : ¬ c = 0) : JX (jE c σ n a) n (jEa c σ n a) := by
  unfold jE jEa
  by_cases h1 : wl σ = true
  · by_cases h2 : hr (σ 703) n a = c
    · rw [if_pos h1, if_pos h2, if_pos ⟨h1, h2⟩]
      have hl : a < n := hr_0 (by rw [h2]; exact hc)
      have := h.1
      exact h.sA (sk_w _ h.1 (by omega))
    · rw [if_pos h1, if_neg h2, if_neg (fun z => h2 z.2)]
      exact h.sF
  · rw [if_neg h1, if_neg (fun z => h1 z.1)]
    exact h
theorem jE_wl {c : Int32} {σ : aS} {n a : Nat} (hJ : JX σ n a) (hc : ¬ c = 0) (h : wl (jE c σ n a) = true) : wl σ = true ∧ hr (σ 703) n a = c ∧ a < jEa c σ n a ∧ jEa c σ n a ≤ n := by
  unfold jE at h
  by_cases h1 : wl σ = true
  · rw [if_pos h1] at h
    by_cases h2 : hr (σ 703) n a = c
    · have hl : a < n := hr_0 (by rw [h2]; exact hc)
      have h3 := sk_ge (t := σ 703) (n := n) (a := a + 1) hl
      have h4 := sk_le (t := σ 703) (n := n) (a := a + 1) hl
      unfold jEa
      rw [if_pos ⟨h1, h2⟩]
      exact ⟨h1, h2, h3, h4⟩
    · rw [if_neg h2, wl_jF _ hJ.2.1] at h
      cases h
  · rw [if_neg h1] at h
    exact absurd h h1
def jL (row n : Nat) : Nat → aS → Nat → Nat → aS × Nat
  | 0, s, a, _ => (s, a)
  | f + 1, s, a, fr => if wl s = true ∧ dg (hr (s 703) n a) = true then jL row n f (jRn s n a row fr) (jRa s n a fr) (fr + (jM s n a).toNatClampNeg) else (s, a)
theorem jL_s (row n f : Nat) (s : aS) (a fr : Nat) : jL row n (f + 1) s a fr = (if wl s = true ∧ dg (hr (s 703) n a) = true then jL row n f (jRn s n a row fr) (jRa s n a fr) (fr + (jM s n a).toNatClampNeg) else (s, a)) := rfl
theorem jL_ok (row n : Nat) : ∀ (f : Nat) (s : aS) (a fr : Nat), JX s n a → (wl s = true → a ≤ n ∧ fr ≤ 16) → JX (jL row n f s a fr).1 n (jL row n f s a fr).2 ∧ (wl (jL row n f s a fr).1 = true → wl s = true ∧ a ≤ (jL row n f s a fr).2 ∧ (jL row n f s a fr).2 ≤ n)
  | 0, s, a, fr, h, hw => ⟨h, fun z => ⟨z, Nat.le_refl _, (hw z).1⟩⟩
  | f + 1, s, a, fr, h, hw => by
    rw [jL_s]
    by_cases c : wl s = true ∧ dg (hr (s 703) n a) = true
    · rw [if_pos c]
      obtain ⟨q1, q2⟩ := hw c.1
      have ih := jL_ok row n f (jRn s n a row fr) (jRa s n a fr) (fr + (jM s n a).toNatClampNeg) (jRn_JX h q1) (fun z => by
        obtain ⟨m, m1, m2, m3, m4, m5, m6⟩ := jRn_wl h q1 q2 z
        rw [m3, nI_clamp (by omega)]
        exact ⟨m5, m2⟩)
      refine ⟨ih.1, fun z => ?_⟩
      obtain ⟨z1, z2, z3⟩ := ih.2 z
      obtain ⟨m, m1, m2, m3, m4, m5, m6⟩ := jRn_wl h q1 q2 z1
      exact ⟨c.1, by omega, z3⟩
    · rw [if_neg c]
      exact ⟨h, fun z => ⟨z, Nat.le_refl _, (hw z).1⟩⟩
def jI (s : aS) (n a : Nat) : aS := if wl s = true ∧ hr (s 703) n a = 59 ∧ ¬ 16 ≤ s 700 14 then jF s a else s
def jT (n : Nat) (s : aS × Nat) : aS × Nat := (jE 59 (jI s.1 n s.2) n s.2, jEa 59 (jI s.1 n s.2) n s.2)
theorem jI_JX {s : aS} {n a : Nat} (h : JX s n a) : JX (jI s n a) n a := by
  unfold jI
  split
  · exact h.sF
  · exact h
theorem jI_wl {s : aS} {n a : Nat} (ha : a ≤ 141) (h : wl (jI s n a) = true) : wl s = true := by
  unfold jI at h
  split at h
  · rw [wl_jF _ ha] at h
    cases h
  · exact h
def jB (σ : aS) (n a : Nat) : aS := jE 58 (jN σ n a 0 11) n (e1 σ n a)
def jBa (σ : aS) (n a : Nat) : Nat := jEa 58 (jN σ n a 0 11) n (e1 σ n a)
def jY (σ : aS) (n a : Nat) : aS × Nat := jT n (jL (nw (σ 703) n a 0).toNatClampNeg n 17 (jQ (jB σ n a) 0) (jBa σ n a) 0)
theorem jB_JX {σ : aS} {n a : Nat} (h : JX σ n a) (ha : a ≤ n) : JX (jB σ n a) n (jBa σ n a) := jEJ (h.sN ha 0 11) (by decide)
theorem jB_wl {σ : aS} {n a : Nat} (h : JX σ n a) (ha : a ≤ n) (z : wl (jB σ n a) = true) : a < jBa σ n a ∧ jBa σ n a ≤ n ∧ ∃ r : Nat, r < 12 ∧ nw (σ 703) n a 0 = nI r := by
  obtain ⟨z1, z2, z3, z4⟩ := jE_wl (h.sN ha 0 11) (by decide) z
  have := e1_ge (σ := σ) ha
  obtain ⟨r, r1, r2, r3⟩ := wi_nat (lo := 0) (hi := 11) (by decide) (by decide) (bdM_wi (jN_wl h.2.1 z1).1)
  exact ⟨Nat.lt_of_le_of_lt this z3, z4, r, by omega, r3⟩
theorem jT_ok {n : Nat} {P : aS × Nat} (h : JX P.1 n P.2) : JX (jT n P).1 n (jT n P).2 ∧ (wl (jT n P).1 = true → wl P.1 = true ∧ P.2 < (jT n P).2 ∧ (jT n P).2 ≤ n) := by
  refine ⟨jEJ (jI_JX h) (by decide), fun z => ?_⟩
  obtain ⟨z1, z2, z3, z4⟩ := jE_wl (jI_JX h) (by decide) z
  exact ⟨jI_wl h.2.1 z1, z3, z4⟩
theorem jY_ok {σ : aS} {n a : Nat} (h : JX σ n a) (ha : a ≤ n) : JX (jY σ n a).1 n (jY σ n a).2 ∧ (wl (jY σ n a).1 = true → a < (jY σ n a).2 ∧ (jY σ n a).2 ≤ n) := by
  have hB := jB_JX h ha
  obtain ⟨P, hP⟩ : ∃ P, P = jL (nw (σ 703) n a 0).toNatClampNeg n 17 (jQ (jB σ n a) 0) (jBa σ n a) 0 := ⟨_, rfl⟩
  have hL := jL_ok (nw (σ 703) n a 0).toNatClampNeg n 17 (jQ (jB σ n a) 0) (jBa σ n a) 0 hB.sQ (fun z => ⟨(jB_wl h ha (by rw [wl_jQ] at z; exact z)).2.1, Nat.zero_le _⟩)
  rw [← hP] at hL
  have hY : jY σ n a = jT n P := by
    unfold jY
    rw [hP]
  rw [hY]
  obtain ⟨t1, t2⟩ := jT_ok (n := n) (P := P) hL.1
  refine ⟨t1, fun z => ?_⟩
  obtain ⟨z1, z2, z3⟩ := t2 z
  obtain ⟨y1, y2, y3⟩ := hL.2 z1
  rw [wl_jQ] at y1
  have := (jB_wl h ha y1).1
  exact ⟨by omega, z3⟩
def jZ (n : Nat) : Nat → aS → Nat → Int32 → aS × Int32
  | 0, s, _, it => (s, it)
  | f + 1, s, a, it => if wl s = true ∧ a < n then jZ n f (jY s n a).1 (jY s n a).2 (it + 1) else (s, it)
theorem jZ_s (n f : Nat) (s : aS) (a : Nat) (it : Int32) : jZ n (f + 1) s a it = (if wl s = true ∧ a < n then jZ n f (jY s n a).1 (jY s n a).2 (it + 1) else (s, it)) := rfl
def jD (σ : aS) (k : Nat) : aS := sP σ 706 (fb_put (σ 706) (σ 701) 0 k)
def jS0 (σ : aS) : aS := sP (jA (jD σ 192) 0) 700 (upd (jA (jD σ 192) 0 700) 13 (-1))
def jS1 (σ : aS) (n : Nat) : aS := jA (jS0 σ) (sk (σ 703) n 0)
def jZF (σ : aS) (n : Nat) : aS × Int32 := jZ n 141 (jS1 σ n) (sk (σ 703) n 0) 0
theorem put_s0 (f g : Nat → Int32) (n : Nat) : upd (fb_put f g 0 n) n (g n) = fb_put f g 0 (n + 1) := by
  have h := fb_put_succ f g 0 n
  rw [Nat.zero_add] at h
  exact h
theorem jS0_ne {σ : aS} {o : Nat} (h : o ≠ 700) (h2 : o ≠ 706) : jS0 σ o = σ o := by
  unfold jS0
  rw [sP_ne h, jA_ne h, jD, sP_ne h2]
theorem jS0_JX {σ : aS} {n : Nat} (hn : n ≤ 140) (h : σ 700 5 = nI n) : JX (jS0 σ) n 0 := by
  refine ⟨hn, Nat.zero_le _, ?_, ?_⟩
  · unfold jS0
    rw [sP_same]
    show jA (jD σ 192) 0 700 5 = nI n
    rw [jA_k _ _ (by decide), jD, sP_ne (by decide)]
    exact h
  · unfold jS0
    rw [sP_same]
    show jA (jD σ 192) 0 700 12 = nI 0
    exact jA_12 _ _
theorem jS1_JX {σ : aS} {n : Nat} (hn : n ≤ 140) (h : σ 700 5 = nI n) : JX (jS1 σ n) n (sk (σ 703) n 0) := (jS0_JX hn h).sA (sk_w _ hn (by omega))
def jOut (A : aS) (k : Nat) : aS := sP A 701 (fb_put (A 701) (A 706) 0 k)
def jFin (A : aS) : aS := sP (jOut A 192) 700 (upd (jOut A 192 700) 5 0)
set_option maxHeartbeats 4000000 in
set_option maxRecDepth 100000 in
theorem zX7_readRow {g : aG} {l : Launch} {σ : aS} (n a : Nat) (h : JX σ n a) (ha : a ≤ n) : CN g l yX7_readRow wsX7_readRow 4 93 [.ref 700] σ none (jY σ n a).1 := by
  refine cn_of (cc := cX7_readRow) (nL := 2) (ret := none) (own := RX7) (by decide +kernel) rfl rfl (Nat.le_of_ble_eq_true rfl) (fun K hg hl hK hE => ?_)
  subst hg; subst hl
  have i_7 : ∀ w ∈ u_ws RX7 TX7 15, w ∈ wsX7_readRow := by decide +kernel
  show AW K 0 [some (.ref 700), none] [] σ
  have hn := h.1
  obtain ⟨row, hrow⟩ : ∃ r, r = (nw (σ 703) n a 0).toNatClampNeg := ⟨_, rfl⟩
  obtain ⟨FIN, hFIN⟩ : ∃ F, F = (jT n (jL row n 17 (jQ (jB σ n a) 0) (jBa σ n a) 0)).1 := ⟨_, rfl⟩
  rw [show (jY σ n a).1 = FIN from by rw [hFIN, hrow]; rfl] at hE
  have hx45 : ∀ (s : aS) (b : Nat) (v : Int32), JX s n b → (jT n (s, b)).1 = FIN → AW K 45 [some (.ref 700), some (.int v)] [] s := by
    intro s b v hJ hF
    refine s_aload0 hK dX7_readRow_45 ?_
    refine s_callV (ci := 7) hK mdX7_isWell (zX7_isWell) gX7_readRow_X7_isWell rfl rfl rfl (by decide) rfl ⟨Nat.le_of_ble_eq_true rfl, Nat.le_of_ble_eq_true rfl⟩ rfl (Nat.le_of_ble_eq_true rfl) dX7_readRow_46 ?_
    try dsimp only [Option.toList, List.cons_append, List.nil_append]
    refine s_if_eq (tgt := 78) hK dX7_readRow_49 (by decide) (fun c_49 => ?_) (fun c_49 => ?_)
    · refine s_aload0 hK dX7_readRow_78 ?_
      refine s_bipush (v := 59) hK dX7_readRow_79 (by decide) ?_
      refine s_callV (ci := 7) hK mdX7_expect (zX7_expect n b (by first | exact hJ.sF | exact hJ) 59 (by decide)) gX7_readRow_X7_expect rfl rfl rfl (by decide) rfl ⟨Nat.le_of_ble_eq_true rfl, Nat.le_of_ble_eq_true rfl⟩ rfl (Nat.le_of_ble_eq_true rfl) dX7_readRow_81 ?_
      try dsimp only [Option.toList, List.cons_append, List.nil_append]
      exact s_vret hK hE dX7_readRow_84 (by rw [← hF]; show jE 59 _ n b = jE 59 (jI s n b) n b; rw [jI]; first | (rw [if_neg (fun z => absurd (z.1.symm.trans (b2y c_49)) (by decide))]; done) | (rw [if_neg (fun z => c_58 z.2.1)]; done) | (rw [if_neg (fun z => z.2.2 c_67)]; done) | (rw [if_pos ⟨b2n c_49, c_58, c_67⟩]; done))
    · refine s_aload0 hK dX7_readRow_52 ?_
      refine s_callV (ci := 7) hK mdX7_here (zX7_here n b hJ) gX7_readRow_X7_here rfl rfl rfl (by decide) rfl ⟨Nat.le_of_ble_eq_true rfl, Nat.le_of_ble_eq_true rfl⟩ rfl (Nat.le_of_ble_eq_true rfl) dX7_readRow_53 ?_
      try dsimp only [Option.toList, List.cons_append, List.nil_append]
      refine s_bipush (v := 59) hK dX7_readRow_56 (by decide) ?_
      refine s_icmp_ne (tgt := 78) hK dX7_readRow_58 (by decide) (fun c_58 => ?_) (fun c_58 => ?_)
      · refine s_aload0 hK dX7_readRow_78 ?_
        refine s_bipush (v := 59) hK dX7_readRow_79 (by decide) ?_
        refine s_callV (ci := 7) hK mdX7_expect (zX7_expect n b (by first | exact hJ.sF | exact hJ) 59 (by decide)) gX7_readRow_X7_expect rfl rfl rfl (by decide) rfl ⟨Nat.le_of_ble_eq_true rfl, Nat.le_of_ble_eq_true rfl⟩ rfl (Nat.le_of_ble_eq_true rfl) dX7_readRow_81 ?_
        try dsimp only [Option.toList, List.cons_append, List.nil_append]
        exact s_vret hK hE dX7_readRow_84 (by rw [← hF]; show jE 59 _ n b = jE 59 (jI s n b) n b; rw [jI]; first | (rw [if_neg (fun z => absurd (z.1.symm.trans (b2y c_49)) (by decide))]; done) | (rw [if_neg (fun z => c_58 z.2.1)]; done) | (rw [if_neg (fun z => z.2.2 c_67)]; done) | (rw [if_pos ⟨b2n c_49, c_58, c_67⟩]; done))
      · refine s_aload0 hK dX7_readRow_61 ?_
        refine s_geti (ci := 7) (k := 14) hK rfl rfl i_7 (by decide +kernel) dX7_readRow_62 (by decide) (by decide) (by decide) rfl rfl ?_
        refine s_bipush (v := 16) hK dX7_readRow_65 (by decide) ?_
        refine s_icmp_ge (tgt := 78) hK dX7_readRow_67 (by decide) (fun c_67 => ?_) (fun c_67 => ?_)
        · refine s_aload0 hK dX7_readRow_78 ?_
          refine s_bipush (v := 59) hK dX7_readRow_79 (by decide) ?_
          refine s_callV (ci := 7) hK mdX7_expect (zX7_expect n b (by first | exact hJ.sF | exact hJ) 59 (by decide)) gX7_readRow_X7_expect rfl rfl rfl (by decide) rfl ⟨Nat.le_of_ble_eq_true rfl, Nat.le_of_ble_eq_true rfl⟩ rfl (Nat.le_of_ble_eq_true rfl) dX7_readRow_81 ?_
          try dsimp only [Option.toList, List.cons_append, List.nil_append]
          exact s_vret hK hE dX7_readRow_84 (by rw [← hF]; show jE 59 _ n b = jE 59 (jI s n b) n b; rw [jI]; first | (rw [if_neg (fun z => absurd (z.1.symm.trans (b2y c_49)) (by decide))]; done) | (rw [if_neg (fun z => c_58 z.2.1)]; done) | (rw [if_neg (fun z => z.2.2 c_67)]; done) | (rw [if_pos ⟨b2n c_49, c_58, c_67⟩]; done))
        · refine s_aload0 hK dX7_readRow_70 ?_
          refine s_aload0 hK dX7_readRow_71 ?_
          refine s_getiv (v := nI b) (hJ.2.2.2) (ci := 7) (k := 12) hK rfl rfl i_7 (by decide +kernel) dX7_readRow_72 (by decide) (by decide) (by decide) rfl rfl ?_
          refine s_callV (ci := 7) hK mdX7_fail (zX7_fail b) gX7_readRow_X7_fail rfl rfl rfl (by decide) rfl ⟨Nat.le_of_ble_eq_true rfl, Nat.le_of_ble_eq_true rfl⟩ rfl (Nat.le_of_ble_eq_true rfl) dX7_readRow_75 ?_
          try dsimp only [Option.toList, List.cons_append, List.nil_append]
          refine s_aload0 hK dX7_readRow_78 ?_
          refine s_bipush (v := 59) hK dX7_readRow_79 (by decide) ?_
          refine s_callV (ci := 7) hK mdX7_expect (zX7_expect n b (by first | exact hJ.sF | exact hJ) 59 (by decide)) gX7_readRow_X7_expect rfl rfl rfl (by decide) rfl ⟨Nat.le_of_ble_eq_true rfl, Nat.le_of_ble_eq_true rfl⟩ rfl (Nat.le_of_ble_eq_true rfl) dX7_readRow_81 ?_
          try dsimp only [Option.toList, List.cons_append, List.nil_append]
          exact s_vret hK hE dX7_readRow_84 (by rw [← hF]; show jE 59 _ n b = jE 59 (jI s n b) n b; rw [jI]; first | (rw [if_neg (fun z => absurd (z.1.symm.trans (b2y c_49)) (by decide))]; done) | (rw [if_neg (fun z => c_58 z.2.1)]; done) | (rw [if_neg (fun z => z.2.2 c_67)]; done) | (rw [if_pos ⟨b2n c_49, c_58, c_67⟩]; done))
  have key : ∀ (f : Nat) (s : aS) (b fr : Nat) (v : Int32), JX s n b → (wl s = true → b ≤ n ∧ fr ≤ 16 ∧ 17 ≤ fr + f ∧ s 700 14 = nI fr ∧ row < 12 ∧ v = nI row) → (jT n (jL row n f s b fr)).1 = FIN → AW K 19 [some (.ref 700), some (.int v)] [] s := by
    intro f
    induction f with
    | zero =>
      intro s b fr v hJ hW hF
      refine s_aload0 hK dX7_readRow_19 ?_
      refine s_callV (ci := 7) hK mdX7_isWell (zX7_isWell) gX7_readRow_X7_isWell rfl rfl rfl (by decide) rfl ⟨Nat.le_of_ble_eq_true rfl, Nat.le_of_ble_eq_true rfl⟩ rfl (Nat.le_of_ble_eq_true rfl) dX7_readRow_20 ?_
      try dsimp only [Option.toList, List.cons_append, List.nil_append]
      refine s_if_eq (tgt := 45) hK dX7_readRow_23 (by decide) (fun c_23 => ?_) (fun c_23 => absurd c_23 (fun q => by have z := hW (b2n q); omega))
      exact hx45 s b v hJ hF
    | succ f ih =>
      intro s b fr v hJ hW hF
      refine s_aload0 hK dX7_readRow_19 ?_
      refine s_callV (ci := 7) hK mdX7_isWell (zX7_isWell) gX7_readRow_X7_isWell rfl rfl rfl (by decide) rfl ⟨Nat.le_of_ble_eq_true rfl, Nat.le_of_ble_eq_true rfl⟩ rfl (Nat.le_of_ble_eq_true rfl) dX7_readRow_20 ?_
      try dsimp only [Option.toList, List.cons_append, List.nil_append]
      refine s_if_eq (tgt := 45) hK dX7_readRow_23 (by decide) (fun c_23 => ?_) (fun c_23 => ?_)
      · exact hx45 s b _ hJ (by rw [← hF, jL_s, if_neg (by first | exact fun z => absurd (z.1.symm.trans (b2y c_23)) (by decide) | exact fun z => absurd (z.2.symm.trans (b2y c_30)) (by decide))])
      · refine s_aload0 hK dX7_readRow_26 ?_
        refine s_callV (ci := 7) hK mdX7_isDigit (zX7_isDigit n b hJ) gX7_readRow_X7_isDigit rfl rfl rfl (by decide) rfl ⟨Nat.le_of_ble_eq_true rfl, Nat.le_of_ble_eq_true rfl⟩ rfl (Nat.le_of_ble_eq_true rfl) dX7_readRow_27 ?_
        try dsimp only [Option.toList, List.cons_append, List.nil_append]
        refine s_if_eq (tgt := 45) hK dX7_readRow_30 (by decide) (fun c_30 => ?_) (fun c_30 => ?_)
        · exact hx45 s b _ hJ (by rw [← hF, jL_s, if_neg (by first | exact fun z => absurd (z.1.symm.trans (b2y c_23)) (by decide) | exact fun z => absurd (z.2.symm.trans (b2y c_30)) (by decide))])
        · obtain ⟨q1, q2, q3, q4, q5, q6⟩ := hW (b2n c_23)
          subst q6
          refine s_aload0 hK dX7_readRow_33 ?_
          refine s_iload1 hK dX7_readRow_34 ?_
          refine s_aload0 hK dX7_readRow_35 ?_
          refine s_getiv (v := nI fr) (q4) (ci := 7) (k := 14) hK rfl rfl i_7 (by decide +kernel) dX7_readRow_36 (by decide) (by decide) (by decide) rfl rfl ?_
          refine s_callV (ci := 7) hK mdX7_readRun (zX7_readRun n b row fr hJ q1 q2 q5) gX7_readRow_X7_readRun rfl rfl rfl (by decide) rfl ⟨Nat.le_of_ble_eq_true rfl, Nat.le_of_ble_eq_true rfl⟩ rfl (Nat.le_of_ble_eq_true rfl) dX7_readRow_39 ?_
          try dsimp only [Option.toList, List.cons_append, List.nil_append]
          refine s_goto (tgt := 19) hK dX7_readRow_42 (by decide) ?_
          refine ih (jRn s n b row fr) (jRa s n b fr) (fr + (jM s n b).toNatClampNeg) _ (jRn_JX hJ q1) (fun z => ?_) (by rw [← hF, jL_s, if_pos ⟨b2n c_23, b2n c_30⟩])
          obtain ⟨m, m1, m2, m3, m4, m5, m6⟩ := jRn_wl hJ q1 q2 z
          rw [m3, nI_clamp (by omega)]
          exact ⟨m5, m2, by omega, m6, q5, rfl⟩
  refine s_aload0 hK dX7_readRow_0 ?_
  refine s_iconst (v := 0) hK dX7_readRow_1 (by decide) ?_
  refine s_bipush (v := 11) hK dX7_readRow_2 (by decide) ?_
  refine s_callV (ci := 7) hK mdX7_number (zX7_number n a h ha 0 11) gX7_readRow_X7_number rfl rfl rfl (by decide) rfl ⟨Nat.le_of_ble_eq_true rfl, Nat.le_of_ble_eq_true rfl⟩ rfl (Nat.le_of_ble_eq_true rfl) dX7_readRow_4 ?_
  try dsimp only [Option.toList, List.cons_append, List.nil_append]
  refine s_istore1 hK dX7_readRow_7 ?_
  refine s_aload0 hK dX7_readRow_8 ?_
  refine s_bipush (v := 58) hK dX7_readRow_9 (by decide) ?_
  refine s_callV (ci := 7) hK mdX7_expect (zX7_expect n (e1 σ n a) (h.sN ha 0 11) 58 (by decide)) gX7_readRow_X7_expect rfl rfl rfl (by decide) rfl ⟨Nat.le_of_ble_eq_true rfl, Nat.le_of_ble_eq_true rfl⟩ rfl (Nat.le_of_ble_eq_true rfl) dX7_readRow_11 ?_
  try dsimp only [Option.toList, List.cons_append, List.nil_append]
  refine s_aload0 hK dX7_readRow_14 ?_
  refine s_iconst (v := 0) hK dX7_readRow_15 (by decide) ?_
  refine s_putg (ci := 7) (k := 14) (ty := .int) hK rfl rfl i_7 (by decide +kernel) dX7_readRow_16 tyX7_ok nmX7 (by decide) (by decide) (by decide) rfl rfl rfl (by decide +kernel) rfl rfl ?_
  show AW K _ _ _ (jQ (jB σ n a) 0)
  refine key 17 (jQ (jB σ n a) 0) (jBa σ n a) 0 _ (jB_JX h ha).sQ (fun z => ?_) hFIN.symm
  rw [wl_jQ] at z
  obtain ⟨z1, z2, r, z3, z4⟩ := jB_wl h ha z
  rw [z4, nI_clamp (by omega)] at hrow
  subst hrow
  exact ⟨z2, by omega, by omega, jQ_14 _ _, z3, z4⟩
set_option maxHeartbeats 4000000 in
set_option maxRecDepth 100000 in
theorem zX7_load_bad {g : aG} {l : Launch} {σ : aS} (h0 : σ 700 0 = 0) (n : Nat) (hn : n ≤ 140) (h5 : σ 700 5 = nI n) (hw : wl (jZF σ n).1 = false) : CN g l yX7_load wsX7_load 5 114 [.ref 700] σ (some (.int (-2000 - (jZF σ n).1 700 13))) (jZF σ n).1 := by
  refine cn_of (cc := cX7_load) (nL := 3) (ret := (some .int)) (own := RX7) (by decide +kernel) rfl rfl (Nat.le_of_ble_eq_true rfl) (fun K hg hl hK hE => ?_)
  subst hg; subst hl
  have i_7 : ∀ w ∈ u_ws RX7 TX7 15, w ∈ wsX7_load := by decide +kernel
  show AW K 0 [some (.ref 700), none, none] [] σ
  obtain ⟨FIN, hFIN⟩ : ∃ F, F = jZF σ n := ⟨_, rfl⟩
  rw [← hFIN] at hE hw
  have hx78 : AW K 78 [some (.ref 700), some (.int FIN.2), none] [] FIN.1 := by
    refine s_aload0 hK dX7_load_78 ?_
    refine s_callV (ci := 7) hK mdX7_isWell (zX7_isWell) gX7_load_X7_isWell rfl rfl rfl (by decide) rfl ⟨Nat.le_of_ble_eq_true rfl, Nat.le_of_ble_eq_true rfl⟩ rfl (Nat.le_of_ble_eq_true rfl) dX7_load_79 ?_
    try dsimp only [Option.toList, List.cons_append, List.nil_append]
    refine s_if_ne (tgt := 94) hK dX7_load_82 (by decide) (fun c_82 => absurd c_82 (fun q => q (by rw [hw]; rfl))) (fun c_82 => ?_)
    refine s_sipush (v := -2000) hK dX7_load_85 (by decide) ?_
    refine s_aload0 hK dX7_load_88 ?_
    refine s_geti (ci := 7) (k := 13) hK rfl rfl i_7 (by decide +kernel) dX7_load_89 (by decide) (by decide) (by decide) rfl rfl ?_
    refine s_isub hK dX7_load_92 ?_
    exact s_iret hK hE dX7_load_93 rfl (rfl) (rfl)
  have key : ∀ (f : Nat) (s : aS) (b : Nat) (it : Int32), JX s n b → (wl s = true → b ≤ n ∧ n + 1 ≤ b + f) → jZ n f s b it = FIN → AW K 50 [some (.ref 700), some (.int it), none] [] s := by
    intro f
    induction f with
    | zero =>
      intro s b it hJ hW hF
      refine s_aload0 hK dX7_load_50 ?_
      refine s_callV (ci := 7) hK mdX7_isWell (zX7_isWell) gX7_load_X7_isWell rfl rfl rfl (by decide) rfl ⟨Nat.le_of_ble_eq_true rfl, Nat.le_of_ble_eq_true rfl⟩ rfl (Nat.le_of_ble_eq_true rfl) dX7_load_51 ?_
      try dsimp only [Option.toList, List.cons_append, List.nil_append]
      refine s_if_eq (tgt := 78) hK dX7_load_54 (by decide) (fun c_54 => ?_) (fun c_54 => absurd c_54 (fun q => by have z := hW (b2n q); omega))
      rw [← hF] at hx78
      exact hx78
    | succ f ih =>
      intro s b it hJ hW hF
      refine s_aload0 hK dX7_load_50 ?_
      refine s_callV (ci := 7) hK mdX7_isWell (zX7_isWell) gX7_load_X7_isWell rfl rfl rfl (by decide) rfl ⟨Nat.le_of_ble_eq_true rfl, Nat.le_of_ble_eq_true rfl⟩ rfl (Nat.le_of_ble_eq_true rfl) dX7_load_51 ?_
      try dsimp only [Option.toList, List.cons_append, List.nil_append]
      refine s_if_eq (tgt := 78) hK dX7_load_54 (by decide) (fun c_54 => ?_) (fun c_54 => ?_)
      · rw [(show jZ n (f + 1) s b it = (s, it) from by rw [jZ_s, if_neg (by first | exact fun z => absurd (z.1.symm.trans (b2y c_54)) (by decide) | exact fun z => absurd c_65 (nI_ge z.2 (by omega)))])] at hF
        rw [← hF] at hx78
        exact hx78
      · refine s_aload0 hK dX7_load_57 ?_
        refine s_getiv (v := nI b) (hJ.2.2.2) (ci := 7) (k := 12) hK rfl rfl i_7 (by decide +kernel) dX7_load_58 (by decide) (by decide) (by decide) rfl rfl ?_
        refine s_aload0 hK dX7_load_61 ?_
        refine s_getiv (v := nI n) (hJ.2.2.1) (ci := 7) (k := 5) hK rfl rfl i_7 (by decide +kernel) dX7_load_62 (by decide) (by decide) (by decide) rfl rfl ?_
        refine s_icmp_ge (tgt := 78) hK dX7_load_65 (by decide) (fun c_65 => ?_) (fun c_65 => ?_)
        · rw [(show jZ n (f + 1) s b it = (s, it) from by rw [jZ_s, if_neg (by first | exact fun z => absurd (z.1.symm.trans (b2y c_54)) (by decide) | exact fun z => absurd c_65 (nI_ge z.2 (by omega)))])] at hF
          rw [← hF] at hx78
          exact hx78
        · obtain ⟨q1, q2⟩ := hW (b2n c_54)
          have hlt : b < n := by
            rcases Nat.lt_or_ge b n with z | z
            · exact z
            · exact absurd (nI_le z (by have := hJ.2.1; omega)) c_65
          refine s_aload0 hK dX7_load_68 ?_
          refine s_callV (ci := 7) hK mdX7_readRow (zX7_readRow n b hJ q1) gX7_load_X7_readRow rfl rfl rfl (by decide) rfl ⟨Nat.le_of_ble_eq_true rfl, Nat.le_of_ble_eq_true rfl⟩ rfl (Nat.le_of_ble_eq_true rfl) dX7_load_69 ?_
          try dsimp only [Option.toList, List.cons_append, List.nil_append]
          refine s_iinc1 hK dX7_load_72 (hv_1 _) ?_
          refine s_goto (tgt := 50) hK dX7_load_75 (by decide) ?_
          refine ih (jY s n b).1 (jY s n b).2 (it + 1) (jY_ok hJ q1).1 (fun z => ?_) (by rw [← hF, jZ_s, if_pos ⟨b2n c_54, hlt⟩])
          have z2 := (jY_ok hJ q1).2 z
          exact ⟨z2.2, by omega⟩
  have hx1 : AW K 7 [some (.ref 700), some (.int (nI 192)), none] [] (jD σ 192) := by
    refine s_iload1 hK dX7_load_7 ?_
    refine s_sipush (v := 192) hK dX7_load_8 (by decide) ?_
    refine s_icmp_ge (tgt := 34) hK dX7_load_11 (by decide) (fun c_11 => ?_) (fun c_11 => absurd c_11 (fun q => q (ge_E rfl rfl)))
    refine s_aload0 hK dX7_load_34 ?_
    refine s_iconst (v := 0) hK dX7_load_35 (by decide) ?_
    refine s_putg (ci := 7) (k := 12) (ty := .int) hK rfl rfl i_7 (by decide +kernel) dX7_load_36 tyX7_ok nmX7 (by decide) (by decide) (by decide) rfl rfl rfl (by decide +kernel) rfl rfl ?_
    show AW K _ _ _ (jA (jD σ 192) 0)
    refine s_aload0 hK dX7_load_39 ?_
    refine s_iconst (v := -1) hK dX7_load_40 (by decide) ?_
    refine s_putg (ci := 7) (k := 13) (ty := .int) hK rfl rfl i_7 (by decide +kernel) dX7_load_41 tyX7_ok nmX7 (by decide) (by decide) (by decide) rfl rfl rfl (by decide +kernel) rfl rfl ?_
    show AW K _ _ _ (jS0 σ)
    refine s_iconst (v := 0) hK dX7_load_44 (by decide) ?_
    refine s_istore1 hK dX7_load_45 ?_
    refine s_aload0 hK dX7_load_46 ?_
    refine s_callV (ci := 7) hK mdX7_skip (zX7_skip n 0 (jS0_JX hn h5)) gX7_load_X7_skip rfl rfl rfl (by decide) rfl ⟨Nat.le_of_ble_eq_true rfl, Nat.le_of_ble_eq_true rfl⟩ rfl (Nat.le_of_ble_eq_true rfl) dX7_load_47 ?_
    try dsimp only [Option.toList, List.cons_append, List.nil_append]
    rw [jS0_ne (by decide) (by decide)]
    show AW K _ _ _ (jS1 σ n)
    exact key 141 (jS1 σ n) (sk (σ 703) n 0) 0 (jS1_JX hn h5) (fun _ => ⟨sk_le (Nat.zero_le _), by omega⟩) hFIN.symm
  have hb1 : ∀ k1 : Nat, k1 < 192 → AW K 7 [some (.ref 700), some (.int (nI (k1 + 1))), none] [] (jD σ (k1 + 1)) → AW K 7 [some (.ref 700), some (.int (nI k1)), none] [] (jD σ k1) := by
    intro k1 hk1 ih1 
    refine s_iload1 hK dX7_load_7 ?_
    refine s_sipush (v := 192) hK dX7_load_8 (by decide) ?_
    refine s_icmp_ge (tgt := 34) hK dX7_load_11 (by decide) (fun c_11 => absurd c_11 (ge_N rfl rfl hk1 (by decide))) (fun c_11 => ?_)
    refine s_aload0 hK dX7_load_14 ?_
    refine s_getr (ci := 7) (k := 11) hK rfl rfl i_7 (by decide +kernel) dX7_load_15 (by decide) (by decide) (by decide) rfl rfl (rf_7_11 rfl) ?_
    refine s_iload1 hK dX7_load_18 ?_
    refine s_aload0 hK dX7_load_19 ?_
    refine s_getr (ci := 7) (k := 1) hK rfl rfl i_7 (by decide +kernel) dX7_load_20 (by decide) (by decide) (by decide) rfl rfl (rf_7_1 rfl) ?_
    refine s_iconst (v := 0) hK dX7_load_23 (by decide) ?_
    refine s_iload1 hK dX7_load_24 ?_
    refine s_iadd hK dX7_load_25 ?_
    rw [Int32.zero_add]
    refine s_iald hK rfl (show vp_in _ 2374 from vp_in_nI (show k1 < 2374 by omega) (by decide)) dX7_load_26 ?_
    rw [cl_nI (show k1 < 2 ^ 31 by omega), show jD σ k1 701 = σ 701 from sP_ne (by decide)]
    refine s_iast hK rfl (show vp_in _ 192 from vp_in_nI (show k1 < 192 by omega) (by decide)) dX7_load_27 ?_
    rw [cl_nI (show k1 < 2 ^ 31 by omega), show sP (jD σ k1) 706 (upd (jD σ k1 706) k1 (σ 701 k1)) = jD σ (k1 + 1) from by unfold jD; rw [sP_sP, sP_same, put_s0]]
    refine s_iinc1 hK dX7_load_28 (hv_1 _) ?_
    refine s_goto (tgt := 7) hK dX7_load_31 (by decide) ?_
    exact AW.to ih1 (by rw [nI_1]) (rfl)
  refine s_aload0 hK dX7_load_0 ?_
  refine s_iconst (v := 0) hK dX7_load_1 (by decide) ?_
  refine s_putg (ci := 7) (k := 0) (ty := .int) hK rfl rfl i_7 (by decide +kernel) dX7_load_2 tyX7_ok nmX7 (by decide) (by decide) (by decide) rfl rfl rfl (by decide +kernel) rfl rfl ?_
  rw [thr h0]
  refine s_iconst (v := 0) hK dX7_load_5 (by decide) ?_
  refine s_istore1 hK dX7_load_6 ?_
  exact AW.to (up_to (fun kx => AW K 7 [some (.ref 700), some (.int (nI kx)), none] [] (jD σ kx)) 192 hx1 hb1) (rfl) (by rw [jD, fb_put_0, sP_id])
set_option maxHeartbeats 4000000 in
set_option maxRecDepth 100000 in
theorem zX7_load_ok {g : aG} {l : Launch} {σ : aS} (h0 : σ 700 0 = 0) (n : Nat) (hn : n ≤ 140) (h5 : σ 700 5 = nI n) (q : Nat) (hq : q ≤ 5) (hw : wl (jZF σ n).1 = true) (h3 : (jZF σ n).1 700 3 = nI q) : CN g l yX7_load wsX7_load 5 114 [.ref 700] σ (some (.int (jZF σ n).2)) (jFin (aX (jZF σ n).1 q)) := by
  refine cn_of (cc := cX7_load) (nL := 3) (ret := (some .int)) (own := RX7) (by decide +kernel) rfl rfl (Nat.le_of_ble_eq_true rfl) (fun K hg hl hK hE => ?_)
  subst hg; subst hl
  have i_7 : ∀ w ∈ u_ws RX7 TX7 15, w ∈ wsX7_load := by decide +kernel
  show AW K 0 [some (.ref 700), none, none] [] σ
  obtain ⟨FIN, hFIN⟩ : ∃ F, F = jZF σ n := ⟨_, rfl⟩
  rw [← hFIN] at hE hw h3
  have hx78 : AW K 78 [some (.ref 700), some (.int FIN.2), none] [] FIN.1 := by
    have hx1 : AW K 100 [some (.ref 700), some (.int FIN.2), some (.int (nI 192))] [] (jOut (aX FIN.1 q) 192) := by
      refine s_iload2 hK dX7_load_100 ?_
      refine s_sipush (v := 192) hK dX7_load_101 (by decide) ?_
      refine s_icmp_ge (tgt := 127) hK dX7_load_104 (by decide) (fun c_104 => ?_) (fun c_104 => absurd c_104 (fun q => q (ge_E rfl rfl)))
      refine s_aload0 hK dX7_load_127 ?_
      refine s_iconst (v := 0) hK dX7_load_128 (by decide) ?_
      refine s_putg (ci := 7) (k := 5) (ty := .int) hK rfl rfl i_7 (by decide +kernel) dX7_load_129 tyX7_ok nmX7 (by decide) (by decide) (by decide) rfl rfl rfl (by decide +kernel) rfl rfl ?_
      refine s_iload1 hK dX7_load_132 ?_
      exact s_iret hK hE dX7_load_133 rfl (rfl) (rfl)
    have hb1 : ∀ k1 : Nat, k1 < 192 → AW K 100 [some (.ref 700), some (.int FIN.2), some (.int (nI (k1 + 1)))] [] (jOut (aX FIN.1 q) (k1 + 1)) → AW K 100 [some (.ref 700), some (.int FIN.2), some (.int (nI k1))] [] (jOut (aX FIN.1 q) k1) := by
      intro k1 hk1 ih1 
      refine s_iload2 hK dX7_load_100 ?_
      refine s_sipush (v := 192) hK dX7_load_101 (by decide) ?_
      refine s_icmp_ge (tgt := 127) hK dX7_load_104 (by decide) (fun c_104 => absurd c_104 (ge_N rfl rfl hk1 (by decide))) (fun c_104 => ?_)
      refine s_aload0 hK dX7_load_107 ?_
      refine s_getr (ci := 7) (k := 1) hK rfl rfl i_7 (by decide +kernel) dX7_load_108 (by decide) (by decide) (by decide) rfl rfl (rf_7_1 rfl) ?_
      refine s_iconst (v := 0) hK dX7_load_111 (by decide) ?_
      refine s_iload2 hK dX7_load_112 ?_
      refine s_iadd hK dX7_load_113 ?_
      rw [Int32.zero_add]
      refine s_aload0 hK dX7_load_114 ?_
      refine s_getr (ci := 7) (k := 11) hK rfl rfl i_7 (by decide +kernel) dX7_load_115 (by decide) (by decide) (by decide) rfl rfl (rf_7_11 rfl) ?_
      refine s_iload2 hK dX7_load_118 ?_
      refine s_iald hK rfl (show vp_in _ 192 from vp_in_nI (show k1 < 192 by omega) (by decide)) dX7_load_119 ?_
      rw [cl_nI (show k1 < 2 ^ 31 by omega), show jOut (aX FIN.1 q) k1 706 = aX FIN.1 q 706 from sP_ne (by decide)]
      refine s_iast hK rfl (show vp_in _ 2374 from vp_in_nI (show k1 < 2374 by omega) (by decide)) dX7_load_120 ?_
      rw [cl_nI (show k1 < 2 ^ 31 by omega), show sP (jOut (aX FIN.1 q) k1) 701 (upd (jOut (aX FIN.1 q) k1 701) k1 (aX FIN.1 q 706 k1)) = jOut (aX FIN.1 q) (k1 + 1) from by unfold jOut; rw [sP_sP, sP_same, put_s0]]
      refine s_iinc2 hK dX7_load_121 (hv_1 _) ?_
      refine s_goto (tgt := 100) hK dX7_load_124 (by decide) ?_
      exact AW.to ih1 (by rw [nI_1]) (rfl)
    refine s_aload0 hK dX7_load_78 ?_
    refine s_callV (ci := 7) hK mdX7_isWell (zX7_isWell) gX7_load_X7_isWell rfl rfl rfl (by decide) rfl ⟨Nat.le_of_ble_eq_true rfl, Nat.le_of_ble_eq_true rfl⟩ rfl (Nat.le_of_ble_eq_true rfl) dX7_load_79 ?_
    try dsimp only [Option.toList, List.cons_append, List.nil_append]
    refine s_if_ne (tgt := 94) hK dX7_load_82 (by decide) (fun c_82 => ?_) (fun c_82 => absurd c_82 (fun q => absurd q (by rw [hw]; decide)))
    refine s_aload0 hK dX7_load_94 ?_
    refine s_callV (ci := 7) hK mdX7_act (zX7_act q hq h3) gX7_load_X7_act rfl rfl rfl (by decide) rfl ⟨Nat.le_of_ble_eq_true rfl, Nat.le_of_ble_eq_true rfl⟩ rfl (Nat.le_of_ble_eq_true rfl) dX7_load_95 ?_
    try dsimp only [Option.toList, List.cons_append, List.nil_append]
    refine s_iconst (v := 0) hK dX7_load_98 (by decide) ?_
    refine s_istore2 hK dX7_load_99 ?_
    exact AW.to (up_to (fun kx => AW K 100 [some (.ref 700), some (.int FIN.2), some (.int (nI kx))] [] (jOut (aX FIN.1 q) kx)) 192 hx1 hb1) (rfl) (by rw [jOut, fb_put_0, sP_id])
  have key : ∀ (f : Nat) (s : aS) (b : Nat) (it : Int32), JX s n b → (wl s = true → b ≤ n ∧ n + 1 ≤ b + f) → jZ n f s b it = FIN → AW K 50 [some (.ref 700), some (.int it), none] [] s := by
    intro f
    induction f with
    | zero =>
      intro s b it hJ hW hF
      refine s_aload0 hK dX7_load_50 ?_
      refine s_callV (ci := 7) hK mdX7_isWell (zX7_isWell) gX7_load_X7_isWell rfl rfl rfl (by decide) rfl ⟨Nat.le_of_ble_eq_true rfl, Nat.le_of_ble_eq_true rfl⟩ rfl (Nat.le_of_ble_eq_true rfl) dX7_load_51 ?_
      try dsimp only [Option.toList, List.cons_append, List.nil_append]
      refine s_if_eq (tgt := 78) hK dX7_load_54 (by decide) (fun c_54 => ?_) (fun c_54 => absurd c_54 (fun q => by have z := hW (b2n q); omega))
      rw [← hF] at hx78
      exact hx78
    | succ f ih =>
      intro s b it hJ hW hF
      refine s_aload0 hK dX7_load_50 ?_
      refine s_callV (ci := 7) hK mdX7_isWell (zX7_isWell) gX7_load_X7_isWell rfl rfl rfl (by decide) rfl ⟨Nat.le_of_ble_eq_true rfl, Nat.le_of_ble_eq_true rfl⟩ rfl (Nat.le_of_ble_eq_true rfl) dX7_load_51 ?_
      try dsimp only [Option.toList, List.cons_append, List.nil_append]
      refine s_if_eq (tgt := 78) hK dX7_load_54 (by decide) (fun c_54 => ?_) (fun c_54 => ?_)
      · rw [(show jZ n (f + 1) s b it = (s, it) from by rw [jZ_s, if_neg (by first | exact fun z => absurd (z.1.symm.trans (b2y c_54)) (by decide) | exact fun z => absurd c_65 (nI_ge z.2 (by omega)))])] at hF
        rw [← hF] at hx78
        exact hx78
      · refine s_aload0 hK dX7_load_57 ?_
        refine s_getiv (v := nI b) (hJ.2.2.2) (ci := 7) (k := 12) hK rfl rfl i_7 (by decide +kernel) dX7_load_58 (by decide) (by decide) (by decide) rfl rfl ?_
        refine s_aload0 hK dX7_load_61 ?_
        refine s_getiv (v := nI n) (hJ.2.2.1) (ci := 7) (k := 5) hK rfl rfl i_7 (by decide +kernel) dX7_load_62 (by decide) (by decide) (by decide) rfl rfl ?_
        refine s_icmp_ge (tgt := 78) hK dX7_load_65 (by decide) (fun c_65 => ?_) (fun c_65 => ?_)
        · rw [(show jZ n (f + 1) s b it = (s, it) from by rw [jZ_s, if_neg (by first | exact fun z => absurd (z.1.symm.trans (b2y c_54)) (by decide) | exact fun z => absurd c_65 (nI_ge z.2 (by omega)))])] at hF
          rw [← hF] at hx78
          exact hx78
        · obtain ⟨q1, q2⟩ := hW (b2n c_54)
          have hlt : b < n := by
            rcases Nat.lt_or_ge b n with z | z
            · exact z
            · exact absurd (nI_le z (by have := hJ.2.1; omega)) c_65
          refine s_aload0 hK dX7_load_68 ?_
          refine s_callV (ci := 7) hK mdX7_readRow (zX7_readRow n b hJ q1) gX7_load_X7_readRow rfl rfl rfl (by decide) rfl ⟨Nat.le_of_ble_eq_true rfl, Nat.le_of_ble_eq_true rfl⟩ rfl (Nat.le_of_ble_eq_true rfl) dX7_load_69 ?_
          try dsimp only [Option.toList, List.cons_append, List.nil_append]
          refine s_iinc1 hK dX7_load_72 (hv_1 _) ?_
          refine s_goto (tgt := 50) hK dX7_load_75 (by decide) ?_
          refine ih (jY s n b).1 (jY s n b).2 (it + 1) (jY_ok hJ q1).1 (fun z => ?_) (by rw [← hF, jZ_s, if_pos ⟨b2n c_54, hlt⟩])
          have z2 := (jY_ok hJ q1).2 z
          exact ⟨z2.2, by omega⟩
  have hx1 : AW K 7 [some (.ref 700), some (.int (nI 192)), none] [] (jD σ 192) := by
    refine s_iload1 hK dX7_load_7 ?_
    refine s_sipush (v := 192) hK dX7_load_8 (by decide) ?_
    refine s_icmp_ge (tgt := 34) hK dX7_load_11 (by decide) (fun c_11 => ?_) (fun c_11 => absurd c_11 (fun q => q (ge_E rfl rfl)))
    refine s_aload0 hK dX7_load_34 ?_
    refine s_iconst (v := 0) hK dX7_load_35 (by decide) ?_
    refine s_putg (ci := 7) (k := 12) (ty := .int) hK rfl rfl i_7 (by decide +kernel) dX7_load_36 tyX7_ok nmX7 (by decide) (by decide) (by decide) rfl rfl rfl (by decide +kernel) rfl rfl ?_
    show AW K _ _ _ (jA (jD σ 192) 0)
    refine s_aload0 hK dX7_load_39 ?_
    refine s_iconst (v := -1) hK dX7_load_40 (by decide) ?_
    refine s_putg (ci := 7) (k := 13) (ty := .int) hK rfl rfl i_7 (by decide +kernel) dX7_load_41 tyX7_ok nmX7 (by decide) (by decide) (by decide) rfl rfl rfl (by decide +kernel) rfl rfl ?_
    show AW K _ _ _ (jS0 σ)
    refine s_iconst (v := 0) hK dX7_load_44 (by decide) ?_
    refine s_istore1 hK dX7_load_45 ?_
    refine s_aload0 hK dX7_load_46 ?_
    refine s_callV (ci := 7) hK mdX7_skip (zX7_skip n 0 (jS0_JX hn h5)) gX7_load_X7_skip rfl rfl rfl (by decide) rfl ⟨Nat.le_of_ble_eq_true rfl, Nat.le_of_ble_eq_true rfl⟩ rfl (Nat.le_of_ble_eq_true rfl) dX7_load_47 ?_
    try dsimp only [Option.toList, List.cons_append, List.nil_append]
    rw [jS0_ne (by decide) (by decide)]
    show AW K _ _ _ (jS1 σ n)
    exact key 141 (jS1 σ n) (sk (σ 703) n 0) 0 (jS1_JX hn h5) (fun _ => ⟨sk_le (Nat.zero_le _), by omega⟩) hFIN.symm
  have hb1 : ∀ k1 : Nat, k1 < 192 → AW K 7 [some (.ref 700), some (.int (nI (k1 + 1))), none] [] (jD σ (k1 + 1)) → AW K 7 [some (.ref 700), some (.int (nI k1)), none] [] (jD σ k1) := by
    intro k1 hk1 ih1 
    refine s_iload1 hK dX7_load_7 ?_
    refine s_sipush (v := 192) hK dX7_load_8 (by decide) ?_
    refine s_icmp_ge (tgt := 34) hK dX7_load_11 (by decide) (fun c_11 => absurd c_11 (ge_N rfl rfl hk1 (by decide))) (fun c_11 => ?_)
    refine s_aload0 hK dX7_load_14 ?_
    refine s_getr (ci := 7) (k := 11) hK rfl rfl i_7 (by decide +kernel) dX7_load_15 (by decide) (by decide) (by decide) rfl rfl (rf_7_11 rfl) ?_
    refine s_iload1 hK dX7_load_18 ?_
    refine s_aload0 hK dX7_load_19 ?_
    refine s_getr (ci := 7) (k := 1) hK rfl rfl i_7 (by decide +kernel) dX7_load_20 (by decide) (by decide) (by decide) rfl rfl (rf_7_1 rfl) ?_
    refine s_iconst (v := 0) hK dX7_load_23 (by decide) ?_
    refine s_iload1 hK dX7_load_24 ?_
    refine s_iadd hK dX7_load_25 ?_
    rw [Int32.zero_add]
    refine s_iald hK rfl (show vp_in _ 2374 from vp_in_nI (show k1 < 2374 by omega) (by decide)) dX7_load_26 ?_
    rw [cl_nI (show k1 < 2 ^ 31 by omega), show jD σ k1 701 = σ 701 from sP_ne (by decide)]
    refine s_iast hK rfl (show vp_in _ 192 from vp_in_nI (show k1 < 192 by omega) (by decide)) dX7_load_27 ?_
    rw [cl_nI (show k1 < 2 ^ 31 by omega), show sP (jD σ k1) 706 (upd (jD σ k1 706) k1 (σ 701 k1)) = jD σ (k1 + 1) from by unfold jD; rw [sP_sP, sP_same, put_s0]]
    refine s_iinc1 hK dX7_load_28 (hv_1 _) ?_
    refine s_goto (tgt := 7) hK dX7_load_31 (by decide) ?_
    exact AW.to ih1 (by rw [nI_1]) (rfl)
  refine s_aload0 hK dX7_load_0 ?_
  refine s_iconst (v := 0) hK dX7_load_1 (by decide) ?_
  refine s_putg (ci := 7) (k := 0) (ty := .int) hK rfl rfl i_7 (by decide +kernel) dX7_load_2 tyX7_ok nmX7 (by decide) (by decide) (by decide) rfl rfl rfl (by decide +kernel) rfl rfl ?_
  rw [thr h0]
  refine s_iconst (v := 0) hK dX7_load_5 (by decide) ?_
  refine s_istore1 hK dX7_load_6 ?_
  exact AW.to (up_to (fun kx => AW K 7 [some (.ref 700), some (.int (nI kx)), none] [] (jD σ kx)) 192 hx1 hb1) (rfl) (by rw [jD, fb_put_0, sP_id])
