/-! a row, and the whole text: both readers alike -/
theorem bdu2 {n p : Nat} {s u : aS} (lo hi : Int32) (hE : EQ n s u) : bdM (u 703) n p lo hi = bdM (s 604) n p lo hi := by
  have hde : ∀ b, de (u 703) n b = de (s 604) n b := fun b => (de_eq hE b).symm
  by_cases q : p < n
  · unfold bdM
    rw [hde, ← hE p q, nw_eq hE]
  · have e : ∀ t : Nat → Int32, de t n p = p := fun t => de_n (fun z => q z.1)
    unfold bdM
    rw [e, e, decide_eq_true rfl, Bool.true_or, Bool.true_or]
theorem jY_def (u : aS) (n p : Nat) : jY u n p = jT n (jL (nw (u 703) n p 0).toNatClampNeg n 17 (jQ (jB u n p) 0) (jBa u n p) 0) := by
  unfold jY
  rfl
theorem jY_nw {u : aS} {n p : Nat} (h : wl (jB u n p) = false) : (jY u n p).1 = jQ (jB u n p) 0 := by
  have h2 : wl (jQ (jB u n p) 0) = false := by
    rw [wl_jQ]
    exact h
  rw [jY_def, jL_nw h2, jT_nw h2]
theorem jY_bad {row n p e : Nat} {s u : aS} {X : aS × Nat} (he : e ≤ 141) (h1 : X.1 603 3 = nI e) (h : wl (jB u n p) = false) (h2 : jB u n p 700 13 = nI e) : RO row n s u X (jY u n p) := by
  have q := jY_nw h
  refine ro_bad he h1 ?_ ?_
  · rw [q, wl_jQ]
    exact h
  · rw [q, jQ_k _ _ (by decide)]
    exact h2
theorem row_eq {n p : Nat} {s u : aS} (hT : TX s n p) (hJ : JX u n p) (hE : EQ n s u) (h3 : s 603 3 < 0) (hw : wl u = true) : ∃ row, row < 12 ∧ RO row n s u (rI s n p) (jY u n p) := by
  have hpn := hT.2.1
  have hn := hT.1
  have hhr : ∀ b, hr (u 703) n b = hr (s 604) n b := fun b => (hr_eq hE b).symm
  have hsk : ∀ b, sk (u 703) n b = sk (s 604) n b := fun b => (sk_eq hE b).symm
  have hde : ∀ b, de (u 703) n b = de (s 604) n b := fun b => (de_eq hE b).symm
  have hnu : nw (u 703) n p 0 = nw (s 604) n p 0 := (nw_eq hE _ _).symm
  have hbd : bdN (s 604) n p 0 11 = bdM (s 604) n p 0 11 := bd_eq (lo := 0) (hi := 11) hpn (by decide)
  have hbu : bdM (u 703) n p 0 11 = bdM (s 604) n p 0 11 := bdu2 0 11 hE
  have he : e1 u n p = sk (s 604) n (de (s 604) n p) := by rw [e1, hde, hsk]
  have hen : e1 u n p ≤ n := e1_le hpn
  have hN : ∀ o, o ≠ 700 → jN u n p 0 11 o = u o := fun o h => jN_ne h
  unfold rI
  cases hb : bdM (s 604) n p 0 11 with
  | true =>
    obtain ⟨r1, r2⟩ := rns_t (σ := s) (n := n) (a := p) (lo := 0) (hi := 11) (hbd.trans hb)
    obtain ⟨b1, b2⟩ := jN_bad (n := n) (lo := 0) (hi := 11) hw hJ.2.1 (hbu.trans hb)
    have hB : jB u n p = jN u n p 0 11 := jE_nw b1
    rw [if_pos r2]
    exact ⟨0, by decide, jY_bad (e := p) hJ.2.1 r1 (by rw [hB]; exact b1) (by rw [hB]; exact b2)⟩
  | false =>
    obtain ⟨r1, r2⟩ := rns_f (σ := s) (n := n) (a := p) (lo := 0) (hi := 11) (hbd.trans hb)
    obtain ⟨r, q1, q2, q3⟩ := wi_nat (lo := 0) (hi := 11) (by decide) (by decide) (bdM_wi hb)
    rw [bd_val (lo := 0) (hi := 11) (by decide) hb, q3] at r2
    have b1 : wl (jN u n p 0 11) = true := by rw [jN_wf (hbu.trans hb)]; exact hw
    rw [if_neg (show ¬ rNv s n p 0 11 = -1 from by rw [r2]; exact nI_m1 (by omega))]
    have h703 : jN u n p 0 11 703 = u 703 := jN_ne (by decide)
    by_cases c : hr (s 604) n (sk (s 604) n (de (s 604) n p)) = 58
    · rw [if_pos c, r2]
      have hl : sk (s 604) n (de (s 604) n p) < n := hr_0 (by rw [c]; decide)
      have c' : hr (jN u n p 0 11 703) n (e1 u n p) = 58 := by rw [h703, hhr, he]; exact c
      have hB : jB u n p = jA (jN u n p 0 11) (sk (s 604) n (sk (s 604) n (de (s 604) n p) + 1)) := by
        rw [jB, jE, if_pos b1, if_pos c', h703, hsk, he]
      have hBa : jBa u n p = sk (s 604) n (sk (s 604) n (de (s 604) n p) + 1) := by
        rw [jBa, jEa, if_pos ⟨b1, c'⟩, h703, hsk, he]
      have hJB := jB_JX hJ hpn
      have hT1 : TX (rNs s n p 0 11) n (de (s 604) n p) := tx_rN hT 0 11
      have hT2 : TX (sA (rNs s n p 0 11) (sk (s 604) n (de (s 604) n p) + 1)) n (sk (s 604) n (de (s 604) n p) + 1) := hT1.sA hl
      have e4 : sA (rNs s n p 0 11) (sk (s 604) n (de (s 604) n p) + 1) 604 = s 604 := by rw [sA_ne (by decide), rNs_ne (by decide)]
      have h603 : sA (rNs s n p 0 11) (sk (s 604) n (de (s 604) n p) + 1) 603 3 < 0 := by
        rw [sA_k _ _ (by decide), r1, sA_k _ _ (by decide)]
        exact h3
      have h706 : jQ (jB u n p) 0 706 = u 706 := by rw [jQ_ne (by decide), hB, jA_ne (by decide), jN_ne (by decide)]
      have hwB : wl (jQ (jB u n p) 0) = true := by rw [wl_jQ, hB, wl_jA]; exact b1
      have R := run_eq (n := n) (row := r) (by omega) 17 (sA (rNs s n p 0 11) (sk (s 604) n (de (s 604) n p) + 1)) (jQ (jB u n p) 0) (sk (s 604) n (de (s 604) n p) + 1) 0 0 0 hT2 (by rw [e4, ← hBa]; exact hJB.sQ) (by
        intro k hk
        rw [e4, jQ_ne (by decide), hB, jA_ne (by decide), h703]
        exact hE k hk) h603 hwB (jQ_14 _ _) (by decide) (by decide) (br_0 r _)
      rw [e4, ← hBa] at R
      refine ⟨r, by omega, ?_⟩
      have hY : jY u n p = jT n (jL r n 17 (jQ (jB u n p) 0) (jBa u n p) 0) := by
        rw [jY_def, hnu, q3, nI_clamp (by omega)]
      rw [hY]
      exact ro_step R e4 (by rw [sA_ne (by decide), rNs_ne (by decide)]) (by rw [sA_ne (by decide), rNs_ne (by decide)]) (fun k _ => by rw [h706])
    · rw [if_neg c]
      obtain ⟨z1, z2⟩ := jE_bad (c := 58) (σ := jN u n p 0 11) (n := n) (a := e1 u n p) b1 (by omega) (by rw [h703, hhr, he]; exact c)
      exact ⟨0, by decide, jY_bad (e := sk (s 604) n (de (s 604) n p)) (by rw [← he]; omega) (sE_3 (sA (rNs s n p 0 11) (sk (s 604) n (de (s 604) n p))) (sk (s 604) n (de (s 604) n p))) z1 (z2.trans (by rw [he]))⟩
