/-! a row's runs: both readers step alike -/
def EQ (n : Nat) (s u : aS) : Prop := ∀ k, k < n → s 604 k = u 703 k
def BR (row fr : Nat) (cb lb : Int32) (d : Nat → Int32) : Prop := ∀ c, c < 32 → bt cb c = decide (c < fr ∧ d (16 * row + c) = 1) ∧ bt lb c = decide (c < fr ∧ d (16 * row + c) = 2)
theorem br_0 (row : Nat) (d : Nat → Int32) : BR row 0 0 0 d := fun c _ => by
  rw [bt_z]
  simp
theorem br_1 {row fr m c : Nat} {cb kv q : Int32} {d : Nat → Int32} (hm : fr + m ≤ 16) (hc : c < 32) (h : bt cb c = decide (c < fr ∧ d (16 * row + c) = q)) : bt (cb ||| (if kv = q then bitsV (nI m) (nI fr) else 0)) c = decide (c < fr + m ∧ fb_put d (fun _ => kv) (16 * row + fr) m (16 * row + c) = q) := by
  rw [b_or, h]
  by_cases c1 : c < fr
  · rw [fb_put_out (Or.inl (by omega))]
    by_cases c2 : kv = q
    · rw [if_pos c2, bits_at hm hc, decide_eq_false (p := fr ≤ c ∧ c < fr + m) (by omega), Bool.or_false, decide_eq_decide]
      exact ⟨fun z => ⟨by omega, z.2⟩, fun z => ⟨c1, z.2⟩⟩
    · rw [if_neg c2, bt_z, Bool.or_false, decide_eq_decide]
      exact ⟨fun z => ⟨by omega, z.2⟩, fun z => ⟨c1, z.2⟩⟩
  · rw [decide_eq_false (p := c < fr ∧ _) (fun z => c1 z.1), Bool.false_or]
    by_cases c3 : c < fr + m
    · rw [fb_put_in (by omega) (by omega)]
      by_cases c2 : kv = q
      · rw [if_pos c2, bits_at hm hc, decide_eq_decide]
        exact ⟨fun _ => ⟨c3, c2⟩, fun _ => ⟨by omega, c3⟩⟩
      · rw [if_neg c2, bt_z, decide_eq_false (fun z => c2 z.2)]
    · rw [decide_eq_false (p := c < fr + m ∧ _) (fun z => c3 z.1)]
      by_cases c2 : kv = q
      · rw [if_pos c2, bits_at hm hc, decide_eq_false (by omega)]
      · rw [if_neg c2, bt_z]
theorem br_s {row fr m : Nat} {cb lb kv : Int32} {d : Nat → Int32} (hm : fr + m ≤ 16) (h : BR row fr cb lb d) : BR row (fr + m) (cb ||| (if kv = 1 then bitsV (nI m) (nI fr) else 0)) (lb ||| (if kv = 2 then bitsV (nI m) (nI fr) else 0)) (fb_put d (fun _ => kv) (16 * row + fr) m) :=
  fun c hc => ⟨br_1 hm hc (h c hc).1, br_1 hm hc (h c hc).2⟩
theorem pR_at {σ : aS} {a y : Nat} {v : Int32} (h : y < 12) : pR σ a (nI y) v = sP σ a (upd (σ a) y (v &&& 65535)) := by
  rw [pR, if_pos ⟨fa_of_nle2 (nI_nn (a := y) (by omega)), show ¬ nI 12 ≤ nI y from nI_ge h (by omega)⟩, nI_clamp (by omega)]
theorem jL_nw {row n f : Nat} {s : aS} {a fr : Nat} (h : wl s = false) : jL row n f s a fr = (s, a) := by
  cases f with
  | zero => rfl
  | succ f => rw [jL_s, if_neg (fun z => by rw [h] at z; cases z.1)]
theorem jT_nw {n : Nat} {s : aS} {a : Nat} (h : wl s = false) : jT n (s, a) = (s, a) := by
  have e : jI s n a = s := by rw [jI, if_neg (fun z => by rw [h] at z; cases z.1)]
  show (jE 59 (jI s n a) n a, jEa 59 (jI s n a) n a) = (s, a)
  rw [e, jE_nw h, jEa, if_neg (fun z => by rw [h] at z; cases z.1)]
/-- how the two outcomes of a row stand -/
def RO (row n : Nat) (s u : aS) (X M : aS × Nat) : Prop :=
  (X.1 603 3 < 0 ∧ wl M.1 = true ∧ M.2 = sk (s 604) n X.2 ∧ (∃ C L : Int32, X.1 609 = upd (s 609) row (C &&& 65535) ∧ X.1 610 = upd (s 610) row (L &&& 65535) ∧ BR row 16 C L (M.1 706)) ∧ ∀ k, (k < 16 * row ∨ 16 * row + 16 ≤ k) → M.1 706 k = u 706 k)
  ∨ (¬ X.1 603 3 < 0 ∧ wl M.1 = false ∧ M.1 700 13 = X.1 603 3)
theorem ro_bad {row n : Nat} {s u : aS} {X M : aS × Nat} {e : Nat} (he : e ≤ 141) (h1 : X.1 603 3 = nI e) (h2 : wl M.1 = false) (h3 : M.1 700 13 = nI e) : RO row n s u X M := by
  refine Or.inr ⟨?_, h2, h3.trans h1.symm⟩
  rw [h1]
  exact fa_of_nle2 (nI_nn (a := e) (by omega))
theorem rns_t {σ : aS} {n a : Nat} {lo hi : Int32} (h : bdN (σ 604) n a lo hi = true) : rNs σ n a lo hi 603 3 = nI a ∧ rNv σ n a lo hi = -1 := by
  rw [rNs, rNv, if_pos h, if_pos h]
  exact ⟨sE_3 _ _, rfl⟩
theorem rns_f {σ : aS} {n a : Nat} {lo hi : Int32} (h : bdN (σ 604) n a lo hi = false) : rNs σ n a lo hi = sA σ (de (σ 604) n a) ∧ rNv σ n a lo hi = nv (σ 604) n a 0 := by
  rw [rNs, rNv, if_neg (by rw [h]; decide), if_neg (by rw [h]; decide)]
  exact ⟨rfl, rfl⟩
theorem bd_dg {t : Nat → Int32} {n a : Nat} {lo hi : Int32} (ha : a ≤ n) (h : bdM t n a lo hi = false) : dg (hr t n a) = true := by
  cases c : dg (hr t n a) with
  | true => rfl
  | false =>
    have e : de t n a = a := de_n (fun z => by rw [hr_lt z.1, z.2] at c; cases c)
    rw [bdM, decide_eq_true e] at h
    cases h
theorem fr16 {fr : Nat} (hf : fr ≤ 16) (h : nI fr = 16) : fr = 16 := (nI_eq (by omega) (by decide)).mp (h.trans (show (16 : Int32) = nI 16 from rfl))
theorem n16 {fr : Nat} (hf : fr < 16) : ¬ (16 : Int32) ≤ nI fr := by
  have h : ¬ nI 16 ≤ nI fr := nI_ge hf (by omega)
  exact h
theorem l16 : (16 : Int32) ≤ nI 16 := by decide
theorem dg59 : dg 59 = false := by decide
theorem run_end {n row p : Nat} {s u : aS} {cb lb : Int32} (hrow : row < 12) (hsk : ∀ b, sk (u 703) n b = sk (s 604) n b) (h1 : hr (u 703) n p = 59) (h3 : s 603 3 < 0) (hw : wl u = true) (h14 : u 700 14 = nI 16) (hB : BR row 16 cb lb (u 706)) : RO row n s u (pR (pR (sA s (p + 1)) 609 (nI row) cb) 610 (nI row) lb, p + 1) (jT n (u, p)) := by
  have hI : jI u n p = u := by
    rw [jI, if_neg (fun z => z.2.2 (by rw [h14]; exact l16))]
  have hT2 : jT n (u, p) = (jA u (sk (s 604) n (p + 1)), sk (s 604) n (p + 1)) := by
    show (jE 59 (jI u n p) n p, jEa 59 (jI u n p) n p) = _
    rw [hI, jE, if_pos hw, if_pos h1, jEa, if_pos ⟨hw, h1⟩, hsk]
  rw [hT2]
  refine Or.inl ⟨?_, by rw [wl_jA]; exact hw, rfl, ⟨cb, lb, ?_, ?_, ?_⟩, fun k _ => by show jA u (sk (s 604) n (p + 1)) 706 k = u 706 k; rw [jA_ne (by decide)]⟩
  · show pR (pR (sA s (p + 1)) 609 (nI row) cb) 610 (nI row) lb 603 3 < 0
    rw [pR_ne (by decide), pR_ne (by decide), sA_k _ _ (by decide)]
    exact h3
  · show pR (pR (sA s (p + 1)) 609 (nI row) cb) 610 (nI row) lb 609 = _
    rw [pR_ne (by decide), pR_at hrow, sP_same, sA_ne (by decide)]
  · show pR (pR (sA s (p + 1)) 609 (nI row) cb) 610 (nI row) lb 610 = _
    rw [pR_at hrow, sP_same, pR_ne (by decide), sA_ne (by decide)]
  · show BR row 16 cb lb (jA u (sk (s 604) n (p + 1)) 706)
    rw [jA_ne (by decide)]
    exact hB
/-- no number stands there, or one that's too great: the model's side -/
theorem run_bad {n row p fr f : Nat} {u : aS} (hf : fr ≤ 16) (hpn : p ≤ 141) (hw : wl u = true) (h14 : u 700 14 = nI fr) (c1 : ¬ (hr (u 703) n p = 59 ∧ nI fr = 16)) (c2 : ¬ (bdM (u 703) n p 1 16 = false ∧ ¬ 16 < nI fr + nw (u 703) n p 0)) : wl (jT n (jL row n (f + 1) u p fr)).1 = false ∧ (jT n (jL row n (f + 1) u p fr)).1 700 13 = nI p := by
  rw [jL_s]
  by_cases c3 : dg (hr (u 703) n p) = true
  · rw [if_pos ⟨hw, c3⟩]
    obtain ⟨b1, b2⟩ := jP_bad (s := u) (n := n) (p := p) (fr := fr) hw hpn c2
    have e : jRn u n p row fr = jP u n p fr := by rw [jRn, if_neg (by rw [b1]; decide)]
    rw [e, jL_nw b1, jT_nw b1]
    exact ⟨b1, b2⟩
  · rw [if_neg (fun z => c3 z.2)]
    by_cases c4 : hr (u 703) n p = 59
    · have c5 : ¬ 16 ≤ u 700 14 := by
        rw [h14]
        rcases Nat.lt_or_ge fr 16 with y | y
        · exact n16 y
        · have e : fr = 16 := by omega
          exact absurd ⟨c4, by rw [e]; rfl⟩ c1
      have hI : jI u n p = jF u p := by rw [jI, if_pos ⟨hw, c4, c5⟩]
      have hwF := wl_jF u (e := p) hpn
      have hT2 : (jT n (u, p)).1 = jF u p := by
        show jE 59 (jI u n p) n p = _
        rw [hI, jE_nw hwF]
      rw [hT2]
      exact ⟨hwF, jF_13w hw⟩
    · have hI : jI u n p = u := by rw [jI, if_neg (fun z => c4 z.2.1)]
      obtain ⟨b1, b2⟩ := jE_bad (c := 59) (σ := u) (n := n) (a := p) hw hpn c4
      have hT2 : (jT n (u, p)).1 = jE 59 u n p := by
        show jE 59 (jI u n p) n p = _
        rw [hI]
      rw [hT2]
      exact ⟨b1, b2⟩
theorem bdu {n p : Nat} {s u : aS} (hE : EQ n s u) : bdM (u 703) n p 1 16 = bdM (s 604) n p 1 16 := by
  have hde : ∀ b, de (u 703) n b = de (s 604) n b := fun b => (de_eq hE b).symm
  by_cases q : p < n
  · unfold bdM
    rw [hde, ← hE p q, nw_eq hE]
  · have e : ∀ t : Nat → Int32, de t n p = p := fun t => de_n (fun z => q z.1)
    unfold bdM
    rw [e, e, decide_eq_true rfl, Bool.true_or, Bool.true_or]
