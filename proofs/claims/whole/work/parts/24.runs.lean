/-! a row's runs: both readers step alike -/
def EQ (n : Nat) (s u : aS) : Prop := ∀ k, k < n → s 604 k = u 703 k
def BR (row fr : Nat) (cb lb : Int32) (d : Nat → Int32) : Prop := ∀ c, c < 32 → bt cb c = decide (c < fr ∧ d (16 * row + c) = 1) ∧ bt lb c = decide (c < fr ∧ d (16 * row + c) = 2)
theorem br_0 (row : Nat) (d : Nat → Int32) : BR row 0 0 0 d := fun c _ => by
  rw [bt_z]
  simp
theorem br_1 {row fr m c : Nat} {cb kv q : Int32} {d : Nat → Int32} (hm : fr + m ≤ 16) (hc : c < 32) (h : bt cb c = decide (c < fr ∧ d (16 * row + c) = q)) : bt (cb ||| (if kv = q then bitsV (nI m) (nI fr) else 0)) c = decide (c < fr + m ∧ fb_put d (fun _ => kv) (16 * row + fr) m (16 * row + c) = q) := by
  rw [b_or, h]
  by_cases c1 : c < fr
  · rw [fb_put_out (Or.inl (by omega))]
    by_cases c2 : kv = q
    · rw [if_pos c2, bits_at hm hc, decide_eq_false (p := fr ≤ c ∧ c < fr + m) (by omega), Bool.or_false, decide_eq_decide]
      exact ⟨fun z => ⟨by omega, z.2⟩, fun z => ⟨c1, z.2⟩⟩
    · rw [if_neg c2, bt_z, Bool.or_false, decide_eq_decide]
      exact ⟨fun z => ⟨by omega, z.2⟩, fun z => ⟨c1, z.2⟩⟩
  · rw [decide_eq_false (p := c < fr ∧ _) (fun z => c1 z.1), Bool.false_or]
    by_cases c3 : c < fr + m
    · rw [fb_put_in (by omega) (by omega)]
      by_cases c2 : kv = q
      · rw [if_pos c2, bits_at hm hc, decide_eq_decide]
        exact ⟨fun _ => ⟨c3, c2⟩, fun _ => ⟨by omega, c3⟩⟩
      · rw [if_neg c2, bt_z, decide_eq_false (fun z => c2 z.2)]
    · rw [decide_eq_false (p := c < fr + m ∧ _) (fun z => c3 z.1)]
      by_cases c2 : kv = q
      · rw [if_pos c2, bits_at hm hc, decide_eq_false (by omega)]
      · rw [if_neg c2, bt_z]
theorem br_s {row fr m : Nat} {cb lb kv : Int32} {d : Nat → Int32} (hm : fr + m ≤ 16) (h : BR row fr cb lb d) : BR row (fr + m) (cb ||| (if kv = 1 then bitsV (nI m) (nI fr) else 0)) (lb ||| (if kv = 2 then bitsV (nI m) (nI fr) else 0)) (fb_put d (fun _ => kv) (16 * row + fr) m) :=
  fun c hc => ⟨br_1 hm hc (h c hc).1, br_1 hm hc (h c hc).2⟩
theorem pR_at {σ : aS} {a y : Nat} {v : Int32} (h : y < 12) : pR σ a (nI y) v = sP σ a (upd (σ a) y (v &&& 65535)) := by
  rw [pR, if_pos ⟨fa_of_nle2 (nI_nn (a := y) (by omega)), show ¬ nI 12 ≤ nI y from nI_ge h (by omega)⟩, nI_clamp (by omega)]
theorem jL_nw {row n f : Nat} {s : aS} {a fr : Nat} (h : wl s = false) : jL row n f s a fr = (s, a) := by
  cases f with
  | zero => rfl
  | succ f => rw [jL_s, if_neg (fun z => by rw [h] at z; cases z.1)]
theorem jT_nw {n : Nat} {s : aS} {a : Nat} (h : wl s = false) : jT n (s, a) = (s, a) := by
  have e : jI s n a = s := by rw [jI, if_neg (fun z => by rw [h] at z; cases z.1)]
  show (jE 59 (jI s n a) n a, jEa 59 (jI s n a) n a) = (s, a)
  rw [e, jE_nw h, jEa, if_neg (fun z => by rw [h] at z; cases z.1)]
/-- how the two outcomes of a row stand -/
def RO (row n : Nat) (s u : aS) (X M : aS × Nat) : Prop :=
  (X.1 603 3 < 0 ∧ wl M.1 = true ∧ M.2 = sk (s 604) n X.2 ∧ (∃ C L : Int32, X.1 609 = upd (s 609) row (C &&& 65535) ∧ X.1 610 = upd (s 610) row (L &&& 65535) ∧ BR row 16 C L (M.1 706)) ∧ ∀ k, (k < 16 * row ∨ 16 * row + 16 ≤ k) → M.1 706 k = u 706 k)
  ∨ (¬ X.1 603 3 < 0 ∧ wl M.1 = false ∧ M.1 700 13 = X.1 603 3 ∧ ∃ e : Nat, e ≤ 141 ∧ M.1 700 13 = nI e)
theorem ro_bad {row n : Nat} {s u : aS} {X M : aS × Nat} {e : Nat} (he : e ≤ 141) (h1 : X.1 603 3 = nI e) (h2 : wl M.1 = false) (h3 : M.1 700 13 = nI e) : RO row n s u X M := by
  refine Or.inr ⟨?_, h2, h3.trans h1.symm, e, he, h3⟩
  rw [h1]
  exact fa_of_nle2 (nI_nn (a := e) (by omega))
theorem rns_t {σ : aS} {n a : Nat} {lo hi : Int32} (h : bdN (σ 604) n a lo hi = true) : rNs σ n a lo hi 603 3 = nI a ∧ rNv σ n a lo hi = -1 := by
  rw [rNs, rNv, if_pos h, if_pos h]
  exact ⟨sE_3 _ _, rfl⟩
theorem rns_f {σ : aS} {n a : Nat} {lo hi : Int32} (h : bdN (σ 604) n a lo hi = false) : rNs σ n a lo hi = sA σ (de (σ 604) n a) ∧ rNv σ n a lo hi = nv (σ 604) n a 0 := by
  rw [rNs, rNv, if_neg (by rw [h]; decide), if_neg (by rw [h]; decide)]
  exact ⟨rfl, rfl⟩
theorem bd_dg {t : Nat → Int32} {n a : Nat} {lo hi : Int32} (ha : a ≤ n) (h : bdM t n a lo hi = false) : dg (hr t n a) = true := by
  cases c : dg (hr t n a) with
  | true => rfl
  | false =>
    have e : de t n a = a := de_n (fun z => by rw [hr_lt z.1, z.2] at c; cases c)
    rw [bdM, decide_eq_true e] at h
    cases h
theorem fr16 {fr : Nat} (hf : fr ≤ 16) (h : nI fr = 16) : fr = 16 := (nI_eq (by omega) (by decide)).mp (h.trans (show (16 : Int32) = nI 16 from rfl))
theorem n16 {fr : Nat} (hf : fr < 16) : ¬ (16 : Int32) ≤ nI fr := by
  have h : ¬ nI 16 ≤ nI fr := nI_ge hf (by omega)
  exact h
theorem l16 : (16 : Int32) ≤ nI 16 := by decide
theorem dg59 : dg 59 = false := by decide
theorem run_end {n row p : Nat} {s u : aS} {cb lb : Int32} (hrow : row < 12) (hsk : ∀ b, sk (u 703) n b = sk (s 604) n b) (h1 : hr (u 703) n p = 59) (h3 : s 603 3 < 0) (hw : wl u = true) (h14 : u 700 14 = nI 16) (hB : BR row 16 cb lb (u 706)) : RO row n s u (pR (pR (sA s (p + 1)) 609 (nI row) cb) 610 (nI row) lb, p + 1) (jT n (u, p)) := by
  have hI : jI u n p = u := by
    rw [jI, if_neg (fun z => z.2.2 (by rw [h14]; exact l16))]
  have hT2 : jT n (u, p) = (jA u (sk (s 604) n (p + 1)), sk (s 604) n (p + 1)) := by
    show (jE 59 (jI u n p) n p, jEa 59 (jI u n p) n p) = _
    rw [hI, jE, if_pos hw, if_pos h1, jEa, if_pos ⟨hw, h1⟩, hsk]
  rw [hT2]
  refine Or.inl ⟨?_, by rw [wl_jA]; exact hw, rfl, ⟨cb, lb, ?_, ?_, ?_⟩, fun k _ => by show jA u (sk (s 604) n (p + 1)) 706 k = u 706 k; rw [jA_ne (by decide)]⟩
  · show pR (pR (sA s (p + 1)) 609 (nI row) cb) 610 (nI row) lb 603 3 < 0
    rw [pR_ne (by decide), pR_ne (by decide), sA_k _ _ (by decide)]
    exact h3
  · show pR (pR (sA s (p + 1)) 609 (nI row) cb) 610 (nI row) lb 609 = _
    rw [pR_ne (by decide), pR_at hrow, sP_same, sA_ne (by decide)]
  · show pR (pR (sA s (p + 1)) 609 (nI row) cb) 610 (nI row) lb 610 = _
    rw [pR_at hrow, sP_same, pR_ne (by decide), sA_ne (by decide)]
  · show BR row 16 cb lb (jA u (sk (s 604) n (p + 1)) 706)
    rw [jA_ne (by decide)]
    exact hB
/-- no number stands there, or one that's too great: the model's side -/
theorem run_bad {n row p fr f : Nat} {u : aS} (hf : fr ≤ 16) (hpn : p ≤ 141) (hw : wl u = true) (h14 : u 700 14 = nI fr) (c1 : ¬ (hr (u 703) n p = 59 ∧ nI fr = 16)) (c2 : ¬ (bdM (u 703) n p 1 16 = false ∧ ¬ 16 < nI fr + nw (u 703) n p 0)) : wl (jT n (jL row n (f + 1) u p fr)).1 = false ∧ (jT n (jL row n (f + 1) u p fr)).1 700 13 = nI p := by
  rw [jL_s]
  by_cases c3 : dg (hr (u 703) n p) = true
  · rw [if_pos ⟨hw, c3⟩]
    obtain ⟨b1, b2⟩ := jP_bad (s := u) (n := n) (p := p) (fr := fr) hw hpn c2
    have e : jRn u n p row fr = jP u n p fr := by rw [jRn, if_neg (by rw [b1]; decide)]
    rw [e, jL_nw b1, jT_nw b1]
    exact ⟨b1, b2⟩
  · rw [if_neg (fun z => c3 z.2)]
    by_cases c4 : hr (u 703) n p = 59
    · have c5 : ¬ 16 ≤ u 700 14 := by
        rw [h14]
        rcases Nat.lt_or_ge fr 16 with y | y
        · exact n16 y
        · have e : fr = 16 := by omega
          exact absurd ⟨c4, by rw [e]; rfl⟩ c1
      have hI : jI u n p = jF u p := by rw [jI, if_pos ⟨hw, c4, c5⟩]
      have hwF := wl_jF u (e := p) hpn
      have hT2 : (jT n (u, p)).1 = jF u p := by
        show jE 59 (jI u n p) n p = _
        rw [hI, jE_nw hwF]
      rw [hT2]
      exact ⟨hwF, jF_13w hw⟩
    · have hI : jI u n p = u := by rw [jI, if_neg (fun z => c4 z.2.1)]
      obtain ⟨b1, b2⟩ := jE_bad (c := 59) (σ := u) (n := n) (a := p) hw hpn c4
      have hT2 : (jT n (u, p)).1 = jE 59 u n p := by
        show jE 59 (jI u n p) n p = _
        rw [hI]
      rw [hT2]
      exact ⟨b1, b2⟩
theorem bdu {n p : Nat} {s u : aS} (hE : EQ n s u) : bdM (u 703) n p 1 16 = bdM (s 604) n p 1 16 := by
  have hde : ∀ b, de (u 703) n b = de (s 604) n b := fun b => (de_eq hE b).symm
  by_cases q : p < n
  · unfold bdM
    rw [hde, ← hE p q, nw_eq hE]
  · have e : ∀ t : Nat → Int32, de t n p = p := fun t => de_n (fun z => q z.1)
    unfold bdM
    rw [e, e, decide_eq_true rfl, Bool.true_or, Bool.true_or]
theorem rq_good {s : aS} {n p : Nat} {fl : Int32} (h : bdN (s 604) n p 1 (16 - fl) = false) : rq s n p fl = sA s (de (s 604) n p) ∧ rqv s n p fl = nv (s 604) n p 0 := by
  have e : sA s p 604 = s 604 := sA_ne (by decide)
  obtain ⟨r1, r2⟩ := rns_f (σ := sA s p) (n := n) (a := p) (lo := 1) (hi := 16 - fl) (by rw [e]; exact h)
  rw [e] at r1 r2
  exact ⟨r1.trans (sA_sA _ _ _), r2⟩
theorem rk_good {s : aS} {n d : Nat} (h : isK (hr (s 604) n (sk (s 604) n d)) = true) : rKs (sA s d) n d = sA s (sk (s 604) n d + 1) ∧ rKa (sA s d) n d = sk (s 604) n d + 1 ∧ rKv (sA s d) n d = jKc (hr (s 604) n (sk (s 604) n d)) := by
  have e : sA s d 604 = s 604 := sA_ne (by decide)
  rw [rKs, rKa, rKv, e, if_pos h, if_pos h, if_pos h, sA_sA]
  exact ⟨rfl, rfl, rfl⟩
theorem rk_bad {s : aS} {n d : Nat} (h : ¬ isK (hr (s 604) n (sk (s 604) n d)) = true) : rKs (sA s d) n d 603 3 = nI (sk (s 604) n d) := by
  have e : sA s d 604 = s 604 := sA_ne (by decide)
  rw [rKs, e, if_neg h]
  exact sE_3 _ _
theorem nI_m1 {m : Nat} (h : m ≤ 16) : ¬ nI m = -1 := by
  intro e
  have := nI_nn (a := m) (by omega)
  rw [e] at this
  exact absurd this (by decide)
/-- a run that stands: the model's side -/
theorem jRn_good {n row p fr m : Nat} {u : aS} (hw : wl u = true) (hm : fr + m ≤ 16) (hb : bdM (u 703) n p 1 16 = false) (hv : nw (u 703) n p 0 = nI m) (hk : isK (hr (u 703) n (e1 u n p)) = true) : wl (jRn u n p row fr) = true ∧ jRa u n p fr = sk (u 703) n (e1 u n p + 1) ∧ jRn u n p row fr 700 14 = nI (fr + m) ∧ jRn u n p row fr 706 = fb_put (u 706) (fun _ => jKc (hr (u 703) n (e1 u n p))) (16 * row + fr) m := by
  have h2 : ¬ 16 < nI fr + nw (u 703) n p 0 := by
    rw [hv, nI_add]
    exact fa_of_nle2 (nI_le (b := 16) hm (by decide))
  obtain ⟨p1, p2⟩ := jP_good (fr := fr) hw hb h2
  have hU : wl (jU u n p fr) = true := by
    rw [jU, jK_good (by rw [jP_ne (by decide)]; exact hk)]
    exact p1
  have hM : jM u n p = nI m := hv
  have hX : jX u n p row fr = jW u n p row fr m := by
    rw [jX, if_pos hU, hM, nI_clamp (by omega)]
  have hR : jRn u n p row fr = jQ (jW u n p row fr m) (nI (fr + m)) := by
    rw [jRn, if_pos p1, hX, hM, nI_add]
  have hU6 : jU u n p fr 706 = u 706 := by
    rw [jU, jK_ne (by decide), jP_ne (by decide)]
  rw [hR]
  refine ⟨?_, by rw [jRa, if_pos p1], jQ_14 _ _, ?_⟩
  · rw [wl_jQ, jW, wl_to (sP_ne (by decide))]
    exact hU
  · rw [jQ_ne (by decide), jW, sP_same, hU6]
    rfl
theorem jRn_badk {n row p fr : Nat} {u : aS} (hw : wl u = true) (he : e1 u n p ≤ 141) (hb : bdM (u 703) n p 1 16 = false) (h2 : ¬ 16 < nI fr + nw (u 703) n p 0) (hk : ¬ isK (hr (u 703) n (e1 u n p)) = true) : wl (jRn u n p row fr) = false ∧ jRn u n p row fr 700 13 = nI (e1 u n p) := by
  obtain ⟨p1, p2⟩ := jP_good (fr := fr) hw hb h2
  obtain ⟨k1, k2⟩ := jK_bad (σ := jP u n p fr) (n := n) (a := e1 u n p) p1 he (by rw [jP_ne (by decide)]; exact hk)
  have hX : jX u n p row fr = jK (jP u n p fr) n (e1 u n p) := by
    rw [jX, if_neg (by rw [jU, k1]; decide)]
    rfl
  have hR : jRn u n p row fr = jQ (jK (jP u n p fr) n (e1 u n p)) (nI fr + jM u n p) := by
    rw [jRn, if_pos p1, hX]
  rw [hR]
  refine ⟨by rw [wl_jQ]; exact k1, ?_⟩
  rw [jQ_k _ _ (by decide)]
  exact k2
theorem ro_step {row n : Nat} {s u s2 u2 : aS} {X M : aS × Nat} (h : RO row n s2 u2 X M) (h4 : s2 604 = s 604) (h9 : s2 609 = s 609) (h10 : s2 610 = s 610) (h6 : ∀ k, (k < 16 * row ∨ 16 * row + 16 ≤ k) → u2 706 k = u 706 k) : RO row n s u X M := by
  rcases h with ⟨a1, a2, a3, ⟨C, L, a4, a5, a6⟩, a7⟩ | h
  · rw [h4] at a3
    rw [h9] at a4
    rw [h10] at a5
    exact Or.inl ⟨a1, a2, a3, ⟨C, L, a4, a5, a6⟩, fun k hk => (a7 k hk).trans (h6 k hk)⟩
  · exact Or.inr h
theorem run_eq {n row : Nat} (hrow : row < 12) : ∀ (f : Nat) (s u : aS) (a fr : Nat) (cb lb : Int32), TX s n a → JX u n (sk (s 604) n a) → EQ n s u → s 603 3 < 0 → wl u = true → u 700 14 = nI fr → fr ≤ 16 → 17 ≤ fr + f → BR row fr cb lb (u 706) → RO row n s u (rR (nI row) n f s a (nI fr) cb lb) (jT n (jL row n f u (sk (s 604) n a) fr)) := by
  intro f
  induction f with
  | zero =>
    intro s u a fr cb lb hT hJ hE h3 hw h14 hf hf2 hB
    omega
  | succ f ih =>
    intro s u a fr cb lb hT hJ hE h3 hw h14 hf hf2 hB
    obtain ⟨p, hp⟩ : ∃ p, p = sk (s 604) n a := ⟨_, rfl⟩
    have hpn : p ≤ n := by rw [hp]; exact sk_le hT.2.1
    have hn := hT.1
    have hhr : ∀ b, hr (u 703) n b = hr (s 604) n b := fun b => (hr_eq hE b).symm
    have hsk : ∀ b, sk (u 703) n b = sk (s 604) n b := fun b => (sk_eq hE b).symm
    have hde : ∀ b, de (u 703) n b = de (s 604) n b := fun b => (de_eq hE b).symm
    have hbu : bdM (u 703) n p 1 16 = bdM (s 604) n p 1 16 := bdu hE
    have hnu : nw (u 703) n p 0 = nw (s 604) n p 0 := (nw_eq hE _ _).symm
    rw [rR_s, ← hp]
    rw [← hp] at hJ
    by_cases c1 : hr (s 604) n p = 59 ∧ nI fr = 16
    · rw [if_pos c1, jL_s, if_neg (fun z => by rw [hhr, c1.1, dg59] at z; cases z.2)]
      have e := fr16 hf c1.2
      subst e
      exact run_end hrow hsk (by rw [hhr]; exact c1.1) h3 hw h14 hB
    · rw [if_neg c1]
      have h16 : (16 : Int32) - nI fr = nI (16 - fr) := by rw [show (16 : Int32) = nI 16 from rfl, pk_sub hf]
      have hbd : bdN (s 604) n p 1 (16 - nI fr) = bdM (s 604) n p 1 (nI (16 - fr)) := by
        rw [h16]
        exact bd_eq (lo := 1) hpn (by omega)
      by_cases c2 : bdM (s 604) n p 1 16 = false ∧ ¬ 16 < nI fr + nw (s 604) n p 0
      · have hq := (num_run (t := s 604) (n := n) (p := p) hf).mpr c2
        obtain ⟨m, m1, m2, m3⟩ := wi_nat (lo := 1) (hi := 16 - fr) (by decide) (by omega) (bdM_wi hq)
        obtain ⟨q1, q2⟩ := rq_good (fl := nI fr) (hbd.trans hq)
        rw [bd_val (lo := 1) (by omega) hq, m3] at q2
        have he : e1 u n p = sk (s 604) n (de (s 604) n p) := by rw [e1, hde, hsk]
        have hen : e1 u n p ≤ n := e1_le hpn
        rw [if_neg (by rw [q2]; exact nI_m1 (by omega)), q1, q2, jL_s, if_pos (show wl u = true ∧ dg (hr (u 703) n p) = true from ⟨hw, by rw [hhr]; exact bd_dg hpn c2.1⟩)]
        have hjm : jM u n p = nI m := hnu.trans m3
        by_cases c3 : isK (hr (s 604) n (sk (s 604) n (de (s 604) n p))) = true
        · obtain ⟨k1, k2, k3⟩ := rk_good c3
          obtain ⟨g1, g2, g3, g4⟩ := jRn_good (row := row) (fr := fr) (m := m) hw (by omega) (hbu.trans c2.1) hjm (by rw [hhr, he]; exact c3)
          have hTq : TX (sA s (sk (s 604) n (de (s 604) n p) + 1)) n (sk (s 604) n (de (s 604) n p) + 1) := hT.sA (isK_lt c3)
          have e604 : sA s (sk (s 604) n (de (s 604) n p) + 1) 604 = s 604 := sA_ne (by decide)
          have hjr : jRa u n p fr = sk (s 604) n (sk (s 604) n (de (s 604) n p) + 1) := by rw [g2, hsk, he]
          rw [k1, k2, k3, if_pos (show sA s (sk (s 604) n (de (s 604) n p) + 1) 603 3 < 0 from by rw [sA_k _ _ (by decide)]; exact h3), nI_add, hjr, hjm, nI_clamp (by omega)]
          have hJ2 : JX (jRn u n p row fr) n (sk (s 604) n (sk (s 604) n (de (s 604) n p) + 1)) := by
            rw [← hjr]
            exact jRn_JX hJ hpn
          have hF := fr_Rn u n p row fr
          have R := ih (sA s (sk (s 604) n (de (s 604) n p) + 1)) (jRn u n p row fr) (sk (s 604) n (de (s 604) n p) + 1) (fr + m)
            (cb ||| (if jKc (hr (s 604) n (sk (s 604) n (de (s 604) n p))) = 1 then bitsV (nI m) (nI fr) else 0))
            (lb ||| (if jKc (hr (s 604) n (sk (s 604) n (de (s 604) n p))) = 2 then bitsV (nI m) (nI fr) else 0)) hTq (by rw [e604]; exact hJ2) (by
              intro k hk
              rw [e604, hF.1 703 (by decide) (by decide)]
              exact hE k hk) (by rw [sA_k _ _ (by decide)]; exact h3) g1 g3 (by omega) (by omega) (by
              rw [g4, hhr, he]
              exact br_s (by omega) hB)
          rw [e604] at R
          exact ro_step R e604 (sA_ne (by decide)) (sA_ne (by decide)) (fun k hk => by rw [g4]; exact fb_put_out (by omega))
        · have k1 := rk_bad c3
          obtain ⟨g1, g2⟩ := jRn_badk (row := row) (fr := fr) hw (by omega) (hbu.trans c2.1) (by rw [hnu]; exact c2.2) (by rw [hhr, he]; exact c3)
          rw [if_neg (by rw [k1]; exact fa_of_nle2 (nI_nn (by rw [← he]; omega))), jL_nw g1, jT_nw g1]
          exact ro_bad (e := sk (s 604) n (de (s 604) n p)) (by rw [← he]; omega) k1 g1 (g2.trans (by rw [he]))
      · have hq : bdN (s 604) n p 1 (16 - nI fr) = true := by
          rw [hbd]
          cases z : bdM (s 604) n p 1 (nI (16 - fr)) with
          | true => rfl
          | false => exact absurd ((num_run hf).mp z) c2
        obtain ⟨r1, r2⟩ := rns_t (σ := sA s p) (n := n) (a := p) (lo := 1) (hi := 16 - nI fr) (by rw [sA_ne (by decide)]; exact hq)
        rw [if_pos (show rqv s n p (nI fr) = -1 from r2)]
        obtain ⟨b1, b2⟩ := run_bad (n := n) (row := row) (p := p) (fr := fr) (f := f) (u := u) hf (by omega) hw h14 (by rw [hhr]; exact c1) (by rw [hbu, hnu]; exact c2)
        exact ro_bad (e := p) (by omega) r1 b1 b2
