/-! the model's steps against the growth -/
theorem far_ne : ∀ f, f < 4 → ¬ (99 : Int32) = nI f ∧ ¬ nI f + 1 = nI f := by decide
theorem mIn_at {σ : aS} {far : Nat} (hf : far < 4) : ∀ k, k ≤ 192 → ∀ c, mIn σ far k 705 c = if c < k then mst σ far c else σ 705 c
  | 0, _, c => by
    rw [if_neg (Nat.not_lt_zero c)]
    rfl
  | k + 1, hk, c => by
    have I := mIn_at (σ := σ) hf k (by omega)
    have e7 : mIn σ far k 701 = σ 701 := mIn_ne (by decide) k
    have e5 : mIn σ far k 705 k = σ 705 k := by rw [I k, if_neg (Nat.lt_irrefl k)]
    have en : nxP (mIn σ far k) k (nI far) = nxP σ k (nI far) := by
      funext j
      unfold nxP
      refine decide_eq_decide.mpr (and_congr_right (fun _ => ?_))
      rw [I]
      split
      · unfold mst
        split
        · rename_i h
          rw [h.2.1]
          exact ⟨fun q => absurd q (far_ne far hf).2, fun q => absurd q (far_ne far hf).1⟩
        · exact Iff.rfl
      · exact Iff.rfl
    have em : mst (mIn σ far k) far k = mst σ far k := by
      unfold mst
      rw [e7, e5, en]
    show sP (mIn σ far k) 705 (upd (mIn σ far k 705) k (mst (mIn σ far k) far k)) 705 c = _
    rw [sP_same, em]
    by_cases q : c = k
    · subst q
      rw [pk_us, if_pos (Nat.lt_succ_self c)]
    · rw [pk_un q, I c]
      by_cases q2 : c < k
      · rw [if_pos q2, if_pos (by omega)]
      · rw [if_neg q2, if_neg (by omega)]
def Sp (w : Nat → Int32) (f : Nat) (d : Nat → Int32) (c : Nat) : Prop := (∃ m, m ≤ f ∧ d c = nI m ∧ Gw w m c = true ∧ ∀ t, t < m → Gw w t c = false) ∨ (d c = 99 ∧ Gw w f c = false)
theorem n99 : ∀ m, m ≤ 4 → ¬ nI m = 99 := by decide
theorem mO_Sp {σ : aS} : ∀ f, f ≤ 4 → ∀ c, c < 192 → Sp (σ 701) f (mO σ f 705) c
  | 0, _, c, hc => by
    have e : mO σ 0 705 c = if σ 701 c = 1 then 0 else 99 := by
      show m0 σ 705 c = _
      unfold m0
      rw [sP_same, fa_fill_in hc]
    by_cases q : σ 701 c = 1
    · refine Or.inl ⟨0, Nat.le_refl _, ?_, decide_eq_true q, fun t ht => absurd ht (Nat.not_lt_zero t)⟩
      rw [e, if_pos q]
      rfl
    · refine Or.inr ⟨?_, decide_eq_false q⟩
      rw [e, if_neg q]
  | f + 1, hf, c, hc => by
    have I := mO_Sp (σ := σ) f (by omega)
    have e : mO σ (f + 1) 705 c = mst (mO σ f) f c := by
      show mIn (mO σ f) f 192 705 c = _
      rw [mIn_at (by omega) 192 (Nat.le_refl _), if_pos hc]
    have e7 : mO σ f 701 = σ 701 := mO_ne (by decide) f
    -- a side that is reached just now
    have hn : ∀ j, j < 4 → nxP (mO σ f) c (nI f) j = true → ¬ bsN c j = -1 ∧ Gw (σ 701) f (bsN c j).toNatClampNeg = true := by
      intro j hj h
      obtain ⟨h1, h2⟩ := of_decide_eq_true h
      refine ⟨h1, ?_⟩
      have hb := bsN_in c hc j hj h1
      have hN : (bsN c j).toNatClampNeg < 192 := by
        have := vp_in_iff.mpr hb
        obtain ⟨z1, z2⟩ := hb
        show (bsN c j).toInt.toNat < 192
        omega
      rcases I _ hN with ⟨m, m1, m2, m3, _⟩ | ⟨m1, _⟩
      · rw [m2] at h2
        have := (nI_eq (by omega) (by omega)).mp h2
        rw [← this]
        exact m3
      · rw [m1] at h2
        exact absurd h2 (far_ne f (by omega)).1
    rcases I c hc with ⟨m, m1, m2, m3, m4⟩ | ⟨m1, m2⟩
    · refine Or.inl ⟨m, by omega, ?_, m3, m4⟩
      rw [e]
      unfold mst
      rw [if_neg (fun q => n99 m (by omega) (m2.symm.trans q.2.1)), m2]
    · by_cases q : σ 701 c = 2 ∧ anyB (nxP (mO σ f) c (nI f)) 4 = true
      · obtain ⟨q1, q2⟩ := q
        obtain ⟨j, hj, q3⟩ := anyB_iff.mp q2
        obtain ⟨h1, h2⟩ := hn j hj q3
        refine Or.inl ⟨f + 1, Nat.le_refl _, ?_, ?_, fun t ht => ?_⟩
        · rw [e]
          unfold mst
          rw [if_pos ⟨by rw [e7]; exact q1, m1, q2⟩, nI_1]
        · rw [Gw_s, m2, decide_eq_true q1, Bool.true_and, Bool.false_or]
          exact anyB_yes hj (by rw [decide_eq_true h1, Bool.true_and]; exact h2)
        · cases z : Gw (σ 701) t c with
          | false => rfl
          | true =>
            rw [Gw_up (show t ≤ f by omega) z] at m2
            cases m2
      · refine Or.inr ⟨?_, ?_⟩
        · rw [e]
          unfold mst
          rw [if_neg (fun z => q ⟨by rw [← e7]; exact z.1, z.2.2⟩)]
          exact m1
        · rw [Gw_s, m2, Bool.false_or]
          by_cases q1 : σ 701 c = 2
          · rw [decide_eq_true q1, Bool.true_and]
            cases z : anyB (fun j => decide (¬ bsN c j = -1) && Gw (σ 701) f (bsN c j).toNatClampNeg) 4 with
            | false => rfl
            | true =>
              exfalso
              obtain ⟨j, hj, z2⟩ := anyB_iff.mp z
              rw [Bool.and_eq_true, decide_eq_true_eq] at z2
              obtain ⟨z3, z4⟩ := z2
              have hb := bsN_in c hc j hj z3
              have hN : (bsN c j).toNatClampNeg < 192 := by
                obtain ⟨y1, y2⟩ := hb
                show (bsN c j).toInt.toNat < 192
                omega
              rcases I _ hN with ⟨m, y1, y2, y3, _⟩ | ⟨_, y2⟩
              · by_cases ym : m = f
                · subst ym
                  refine q ⟨q1, anyB_yes hj (decide_eq_true ⟨z3, y2⟩)⟩
                · have g : Gw (σ 701) (m + 1) c = true := by
                    rw [Gw_s, decide_eq_true q1, Bool.true_and, anyB_yes (p := fun j => decide (¬ bsN c j = -1) && Gw (σ 701) m (bsN c j).toNatClampNeg) hj (by rw [decide_eq_true z3, Bool.true_and]; exact y3), Bool.or_true]
                  rw [Gw_up (show m + 1 ≤ f by omega) g] at m2
                  cases m2
              · rw [z4] at y2
                cases y2
          · rw [decide_eq_false q1, Bool.false_and]
theorem lt99 : ∀ t, t ≤ 4 → nI t < 99 := by decide
theorem lcC_eq {σ u : aS} {c t : Nat} (h5 : u 705 = mO σ 4 705) (hc : c < 192) (ht : t ≤ 4) : lcC u (nI t) c = b2 (Gw (σ 701) t c) := by
  unfold lcC
  rw [h5]
  rcases mO_Sp (σ := σ) 4 (Nat.le_refl _) c hc with ⟨m, m1, m2, m3, m4⟩ | ⟨m1, m2⟩
  · rw [m2]
    rcases Nat.lt_or_ge t m with q | q
    · rw [if_pos (nI_lt q (by omega)), m4 t q]
      rfl
    · rw [if_neg (nI_nlt q (by omega)), Gw_up q m3]
      rfl
  · rw [m1, if_pos (lt99 t ht)]
    cases z : Gw (σ 701) t c with
    | false => rfl
    | true =>
      rw [Gw_up ht z] at m2
      cases m2
theorem lC_lo (u : aS) (t : Int32) {k : Nat} (hk : k < 192) : lC_ u t 704 k = lcV u k := by
  unfold lC_
  rw [sP_same]
  unfold tw
  rw [if_pos hk]
theorem lC_hi (u : aS) (t : Int32) {k : Nat} (hk : k < 192) : lC_ u t 704 (192 + k) = lcC u t k := by
  unfold lC_
  rw [sP_same]
  unfold tw
  rw [if_neg (by omega), if_pos (by omega), show 192 + k - 192 = k by omega]
theorem lC_ne {u : aS} {t : Int32} {o : Nat} (h : o ≠ 704) : lC_ u t o = u o := sP_ne h
theorem lcV_b (u : aS) (k : Nat) : lcV u k = b2 (decide (u 701 k = 2)) := by
  unfold lcV
  by_cases c : u 701 k = 2
  · rw [if_pos c, decide_eq_true c]
    rfl
  · rw [if_neg c, decide_eq_false c]
    rfl
theorem dec_b2 (b : Bool) : decide (b2 b = 1) = b := by cases b <;> decide
theorem fM_o {t : aS} {r o : Nat} (h : o ≠ 700) (h4 : o ≠ 704) : ∀ n, (fM t r n).2 o = t o
  | 0 => rfl
  | n + 1 => by
    cases q : (fM t r n).1 with
    | true => rw [fM_t q]; exact fM_o h h4 n
    | false =>
      rw [fM_f q]
      show (hMe (lC_ (fM t r n).2 (nI n)) r).2 o = t o
      unfold hMe
      rw [hM_o h, lC_ne h4, fM_o h h4 n]
theorem hMe_o {t : aS} {r o : Nat} (h : o ≠ 700) : (hMe t r).2 o = t o := hM_o h _
theorem trap_eq {s t : aS} {r : Nat} (hB : Bpic (vw s 10) (t 701)) : trR s r = fMR (mO t 4) r := by
  have e : ∀ k, k < 5 → trP s r k = fMp (mO t 4) r k := by
    intro k hk
    unfold trP fMp
    have h5 : (fM (mO t 4) r k).2 705 = mO t 4 705 := fM_o (by decide) (by decide) k
    have h7 : (fM (mO t 4) r k).2 701 = t 701 := (fM_o (by decide) (by decide) k).trans (mO_ne (by decide) 4)
    have b15 : ∀ c, c < 192 → px (trS s k) 15 c = decide (t 701 c = 1) := by
      intro c hc
      have : px (trS s k) 15 c = px s 15 c := by
        unfold px
        rw [trS_ne (by decide)]
      rw [this]
      exact (hB.2 c hc).1
    have b16 : ∀ c, c < 192 → px (trS s k) 16 c = decide (t 701 c = 2) := by
      intro c hc
      have : px (trS s k) 16 c = px s 16 c := by
        unfold px
        rw [trS_ne (by decide)]
      rw [this]
      exact (hB.2 c hc).2.1
    have w15 : wR (trS s k) 15 := wR_to hB.1.1 (trS_ne (by decide) k)
    have w16 : wR (trS s k) 16 := wR_to hB.1.2 (trS_ne (by decide) k)
    rw [has_eq (s := trS s (k + 1)) (t := lC_ (fM (mO t 4) r k).2 (nI k)) (li := 12) (ci := 608)]
    · refine Bpic_cong (w := t 701) hB (fun y _ => ?_) (fun y _ => ?_) (fun c _ => ?_)
      · show trS s (k + 1) 15 y = s 15 y
        rw [trS_ne (by decide)]
      · show trS s (k + 1) 16 y = s 16 y
        rw [trS_ne (by decide)]
      · rw [lC_ne (by decide), h7]
    · intro c hc
      rw [lC_lo _ _ hc, lC_hi _ _ hc, lcV_b, h7, lcC_eq h5 hc (by omega), dec_b2, dec_b2]
      refine ⟨⟨?_, b2_zo _⟩, ?_⟩
      · have : px (trS s (k + 1)) (12 + 4) c = px (trS s k) 16 c := by
          unfold px
          show bt (cNt (trS s k) 612 15 16 k 16 (c / 16)) (c % 16) = _
          rw [cNt_ne (by decide)]
        rw [this]
        exact b16 c hc
      · exact grow_px w15 w16 (by decide) (by decide) b15 b16 k c hc
  have e2 : fa_first (trP s r) 5 = fa_first (fMp (mO t 4) r) 5 := by
    have l1 := fa_first_le (trP s r) 5
    have l2 := fa_first_le (fMp (mO t 4) r) 5
    rcases Nat.lt_trichotomy (fa_first (trP s r) 5) (fa_first (fMp (mO t 4) r) 5) with q | q | q
    · have a := fa_first_yes (trP s r) 5 (by omega)
      rw [e _ (by omega), fa_first_no _ 5 _ q] at a
      cases a
    · exact q
    · have a := fa_first_yes (fMp (mO t 4) r) 5 (by omega)
      rw [← e _ (by omega), fa_first_no _ 5 _ q] at a
      cases a
  unfold trR fMR trF
  rw [e2]
