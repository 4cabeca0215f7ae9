/-! the two readers read alike -/
theorem hr_eq {t u : Nat → Int32} {n : Nat} (h : ∀ k, k < n → t k = u k) (a : Nat) : hr t n a = hr u n a := by
  rcases Nat.lt_or_ge a n with q | q
  · rw [hr_lt q, hr_lt q]
    exact h a q
  · rw [hr, hr, if_neg (Nat.not_lt.mpr q), if_neg (Nat.not_lt.mpr q)]
theorem skF_eq {t u : Nat → Int32} {n : Nat} (h : ∀ k, k < n → t k = u k) : ∀ f a, skF t n f a = skF u n f a
  | 0, _ => rfl
  | f + 1, a => by
    show (if a < n ∧ t a = 32 then skF t n f (a + 1) else a) = (if a < n ∧ u a = 32 then skF u n f (a + 1) else a)
    by_cases q : a < n
    · rw [h a q, skF_eq h f (a + 1)]
    · rw [if_neg (fun z => q z.1), if_neg (fun z => q z.1)]
theorem sk_eq {t u : Nat → Int32} {n : Nat} (h : ∀ k, k < n → t k = u k) (a : Nat) : sk t n a = sk u n a := skF_eq h _ _
theorem deF_eq {t u : Nat → Int32} {n : Nat} (h : ∀ k, k < n → t k = u k) : ∀ f a, deF t n f a = deF u n f a
  | 0, _ => rfl
  | f + 1, a => by
    show (if a < n ∧ dg (t a) = true then deF t n f (a + 1) else a) = (if a < n ∧ dg (u a) = true then deF u n f (a + 1) else a)
    by_cases q : a < n
    · rw [h a q, deF_eq h f (a + 1)]
    · rw [if_neg (fun z => q z.1), if_neg (fun z => q z.1)]
theorem de_eq {t u : Nat → Int32} {n : Nat} (h : ∀ k, k < n → t k = u k) (a : Nat) : de t n a = de u n a := deF_eq h _ _
theorem nwF_eq {t u : Nat → Int32} {n : Nat} (h : ∀ k, k < n → t k = u k) : ∀ f a v, nwF t n f a v = nwF u n f a v
  | 0, _, _ => rfl
  | f + 1, a, v => by
    show (if a < n ∧ dg (t a) = true then nwF t n f (a + 1) (nx2 v (t a)) else v) = (if a < n ∧ dg (u a) = true then nwF u n f (a + 1) (nx2 v (u a)) else v)
    by_cases q : a < n
    · rw [h a q, nwF_eq h f (a + 1)]
    · rw [if_neg (fun z => q z.1), if_neg (fun z => q z.1)]
theorem nw_eq {t u : Nat → Int32} {n : Nat} (h : ∀ k, k < n → t k = u k) (a : Nat) (v : Int32) : nw t n a v = nw u n a v := nwF_eq h _ _ _
/-- two values of a number, capped at different heights -/
def VV (v w : Int32) : Prop := ∃ x y : Nat, v = nI x ∧ w = nI y ∧ ((x = y ∧ x ≤ 140) ∨ (100 ≤ x ∧ x ≤ 140 ∧ 100 ≤ y ∧ y ≤ 999))
theorem dg_nat {c : Int32} (h : dg c = true) : ∃ m : Nat, 48 ≤ m ∧ m ≤ 57 ∧ c = nI m := wi_nat (lo := 48) (hi := 57) (by decide) (by decide) h
theorem nx1_n {x m : Nat} (hx : x ≤ 140) (h1 : 48 ≤ m) (h2 : m ≤ 57) : nx1 (nI x) (nI m) = nI (if 140 < 10 * x + m - 48 then 140 else 10 * x + m - 48) := by
  have e : nI x * 10 + nI m - 48 = nI (10 * x + m - 48) := by
    rw [show (10 : Int32) = nI 10 from rfl, show (48 : Int32) = nI 48 from rfl, pk_mul, nI_add, pk_sub (by omega), Nat.mul_comm]
  unfold nx1
  rw [e]
  by_cases q : 140 < 10 * x + m - 48
  · rw [if_pos q, if_pos (show (140 : Int32) < nI (10 * x + m - 48) from nI_lt (a := 140) q (by omega))]
    rfl
  · rw [if_neg q, if_neg (show ¬ (140 : Int32) < nI (10 * x + m - 48) from fa_of_nle2 (nI_le (b := 140) (by omega) (by decide)))]
theorem nx2_n {y m : Nat} (hy : y ≤ 999) (h1 : 48 ≤ m) (h2 : m ≤ 57) : nx2 (nI y) (nI m) = nI (if y ≤ 99 then 10 * y + m - 48 else y) := by
  unfold nx2
  by_cases q : y ≤ 99
  · rw [if_pos q, if_pos (show nI y ≤ (99 : Int32) from nI_le (b := 99) q (by decide)), show (10 : Int32) = nI 10 from rfl, show (48 : Int32) = nI 48 from rfl, pk_mul, nI_add, pk_sub (by omega)]
  · rw [if_neg q, if_neg (show ¬ nI y ≤ (99 : Int32) from (show ¬ nI y ≤ nI 99 from nI_ge (by omega) (by omega)))]
theorem VV_nx {v w c : Int32} (h : VV v w) (hc : dg c = true) : VV (nx1 v c) (nx2 w c) := by
  obtain ⟨m, h1, h2, rfl⟩ := dg_nat hc
  obtain ⟨x, y, rfl, rfl, h3⟩ := h
  have hx : x ≤ 140 := by omega
  have hy : y ≤ 999 := by omega
  refine ⟨_, _, nx1_n hx h1 h2, nx2_n hy h1 h2, ?_⟩
  by_cases q : 140 < 10 * x + m - 48
  · by_cases q2 : y ≤ 99
    · rw [if_pos q, if_pos q2]
      omega
    · rw [if_pos q, if_neg q2]
      omega
  · by_cases q2 : y ≤ 99
    · rw [if_neg q, if_pos q2]
      omega
    · rw [if_neg q, if_neg q2]
      omega
theorem VV_nv {t : Nat → Int32} {n : Nat} : ∀ d a v w, n - a = d → VV v w → VV (nv t n a v) (nw t n a w)
  | 0, a, v, w, h, hv => by
    rw [nv_n (by omega), nw_n (by omega)]
    exact hv
  | d + 1, a, v, w, h, hv => by
    by_cases q : a < n ∧ dg (t a) = true
    · rw [nv_y q.1 q.2, nw_y q.1 q.2]
      exact VV_nv d (a + 1) _ _ (by omega) (VV_nx hv q.2)
    · rw [nv_n q, nw_n q]
      exact hv
theorem VV_0 (t : Nat → Int32) (n a : Nat) : VV (nv t n a 0) (nw t n a 0) := VV_nv _ a 0 0 rfl ⟨0, 0, rfl, rfl, Or.inl ⟨rfl, by decide⟩⟩
theorem VV_wi {v w : Int32} {lo hi : Nat} (h : VV v w) (hh : hi ≤ 99) : wi v (nI lo) (nI hi) = wi w (nI lo) (nI hi) ∧ (wi w (nI lo) (nI hi) = true → v = w) := by
  obtain ⟨x, y, rfl, rfl, h3⟩ := h
  rcases h3 with ⟨rfl, h4⟩ | ⟨h4, h5, h6, h7⟩
  · exact ⟨rfl, fun _ => rfl⟩
  · have e1 : wi (nI x) (nI lo) (nI hi) = false := decide_eq_false (fun z => z.2 (nI_lt (by omega) (by omega)))
    have e2 : wi (nI y) (nI lo) (nI hi) = false := decide_eq_false (fun z => z.2 (nI_lt (by omega) (by omega)))
    rw [e1, e2]
    exact ⟨rfl, fun z => by cases z⟩
theorem bd_eq {t : Nat → Int32} {n a lo hi : Nat} (ha : a ≤ n) (hh : hi ≤ 99) : bdN t n a (nI lo) (nI hi) = bdM t n a (nI lo) (nI hi) := by
  have hd := de_le (t := t) ha
  unfold bdN bdM
  rw [(VV_wi (VV_0 t n a) hh).1]
  congr 2
  rw [decide_eq_decide]
  constructor
  · intro z
    rw [hr_lt (by omega)] at z
    exact ⟨z.2, z.1⟩
  · intro z
    rw [hr_lt (by omega)]
    exact ⟨z.2, z.1⟩
theorem bd_val {t : Nat → Int32} {n a lo hi : Nat} (hh : hi ≤ 99) (h : bdM t n a (nI lo) (nI hi) = false) : nv t n a 0 = nw t n a 0 := (VV_wi (VV_0 t n a) hh).2 (bdM_wi h)
/-- what the model's reading leaves alone -/
def FR (σ σ2 : aS) : Prop := (∀ o, o ≠ 700 → o ≠ 706 → σ2 o = σ o) ∧ (∀ k, k ≠ 12 → k ≠ 13 → k ≠ 14 → σ2 700 k = σ 700 k)
theorem fr_r (σ : aS) : FR σ σ := ⟨fun _ _ _ => rfl, fun _ _ _ _ => rfl⟩
theorem fr_t {a b c : aS} (h : FR a b) (h2 : FR b c) : FR a c := ⟨fun o p q => (h2.1 o p q).trans (h.1 o p q), fun k p q r => (h2.2 k p q r).trans (h.2 k p q r)⟩
theorem fr_A (σ : aS) (a : Nat) : FR σ (jA σ a) := ⟨fun _ p _ => jA_ne p, fun _ p _ _ => jA_k _ _ p⟩
theorem fr_F (σ : aS) (a : Nat) : FR σ (jF σ a) := ⟨fun _ p _ => jF_ne p, fun _ _ p _ => jF_k _ _ p⟩
theorem fr_Q (σ : aS) (v : Int32) : FR σ (jQ σ v) := ⟨fun _ p _ => jQ_ne p, fun _ _ _ p => jQ_k _ _ p⟩
theorem fr_D (σ : aS) (f : Nat → Int32) : FR σ (sP σ 706 f) := ⟨fun _ _ p => sP_ne p, fun _ _ _ _ => by rw [sP_ne (by decide)]⟩
theorem fr_N (σ : aS) (n a : Nat) (lo hi : Int32) : FR σ (jN σ n a lo hi) := by
  unfold jN
  refine fr_t ?_ (fr_A _ _)
  unfold jG
  split
  · exact fr_t (fr_A _ _) (fr_F _ _)
  · exact fr_A _ _
theorem fr_E (c : Int32) (σ : aS) (n a : Nat) : FR σ (jE c σ n a) := by
  unfold jE
  split
  · split
    · exact fr_A _ _
    · exact fr_F _ _
  · exact fr_r _
theorem fr_K (σ : aS) (n a : Nat) : FR σ (jK σ n a) := by
  unfold jK
  refine fr_t ?_ (fr_A _ _)
  unfold jH
  split
  · exact fr_r _
  · exact fr_F _ _
theorem fr_P (σ : aS) (n a fr : Nat) : FR σ (jP σ n a fr) := by
  unfold jP
  split
  · exact fr_t (fr_N _ _ _ _ _) (fr_F _ _)
  · exact fr_N _ _ _ _ _
theorem fr_U (σ : aS) (n a fr : Nat) : FR σ (jU σ n a fr) := fr_t (fr_P σ n a fr) (fr_K _ _ _)
theorem fr_Rn (σ : aS) (n a row fr : Nat) : FR σ (jRn σ n a row fr) := by
  unfold jRn
  split
  · refine fr_t ?_ (fr_Q _ _)
    unfold jX
    split
    · exact fr_t (fr_U σ n a fr) (fr_D _ _)
    · exact fr_U σ n a fr
  · exact fr_P σ n a fr
theorem fr_L (row n : Nat) : ∀ (f : Nat) (s : aS) (a fr : Nat), FR s (jL row n f s a fr).1
  | 0, s, _, _ => fr_r s
  | f + 1, s, a, fr => by
    rw [jL_s]
    split
    · exact fr_t (fr_Rn s n a row fr) (fr_L row n f _ _ _)
    · exact fr_r s
theorem fr_T (n : Nat) (P : aS × Nat) : FR P.1 (jT n P).1 := by
  unfold jT
  refine fr_t ?_ (fr_E _ _ _ _)
  unfold jI
  split
  · exact fr_F _ _
  · exact fr_r _
theorem fr_Y (σ : aS) (n a : Nat) : FR σ (jY σ n a).1 := by
  obtain ⟨P, hP⟩ : ∃ P, P = jL (nw (σ 703) n a 0).toNatClampNeg n 17 (jQ (jB σ n a) 0) (jBa σ n a) 0 := ⟨_, rfl⟩
  have h : FR (jQ (jB σ n a) 0) P.1 := by
    rw [hP]
    exact fr_L _ _ _ _ _ _
  have hY : jY σ n a = jT n P := by
    unfold jY
    rw [hP]
  rw [hY]
  exact fr_t (fr_t (fr_t (fr_N σ n a 0 11) (fr_E 58 _ _ _)) (fr_Q (jB σ n a) 0)) (fr_t h (fr_T n P))
theorem fr_Z (n : Nat) : ∀ (f : Nat) (s : aS) (a : Nat) (it : Int32), FR s (jZ n f s a it).1
  | 0, s, _, _ => fr_r s
  | f + 1, s, a, it => by
    rw [jZ_s]
    split
    · exact fr_t (fr_Y s n a) (fr_Z n f _ _ _)
    · exact fr_r s
theorem fr_S1 (σ : aS) (n : Nat) : FR σ (jS1 σ n) := by
  unfold jS1
  refine fr_t ?_ (fr_A _ _)
  unfold jS0
  refine fr_t (fr_t (fr_D σ _) (fr_A (jD σ 192) 0)) ⟨fun _ p _ => sP_ne p, fun k _ p _ => ?_⟩
  rw [sP_same]
  simp [upd, p]
theorem fr_ZF (σ : aS) (n : Nat) : FR σ (jZF σ n).1 := fr_t (fr_S1 σ n) (fr_Z n 141 _ _ _)
/-- what the press's reading leaves alone -/
def FX (σ σ2 : aS) : Prop := (∀ o, o ≠ 603 → o ≠ 609 → o ≠ 610 → σ2 o = σ o) ∧ (∀ k, k ≠ 2 → k ≠ 3 → σ2 603 k = σ 603 k)
theorem fx_r (σ : aS) : FX σ σ := ⟨fun _ _ _ _ => rfl, fun _ _ _ => rfl⟩
theorem fx_t {a b c : aS} (h : FX a b) (h2 : FX b c) : FX a c := ⟨fun o p q r => (h2.1 o p q r).trans (h.1 o p q r), fun k p q => (h2.2 k p q).trans (h.2 k p q)⟩
theorem fx_A (σ : aS) (a : Nat) : FX σ (sA σ a) := ⟨fun _ p _ _ => sA_ne p, fun _ p _ => sA_k _ _ p⟩
theorem fx_E (σ : aS) (a : Nat) : FX σ (sE σ a) := ⟨fun _ p _ _ => sE_ne p, fun _ _ p => sE_k _ _ p⟩
theorem fx_pR (σ : aS) (y v : Int32) : FX σ (pR σ 609 y v) := ⟨fun _ _ p _ => pR_ne p, fun _ _ _ => by rw [pR_ne (by decide)]⟩
theorem fx_pR2 (σ : aS) (y v : Int32) : FX σ (pR σ 610 y v) := ⟨fun _ _ _ p => pR_ne p, fun _ _ _ => by rw [pR_ne (by decide)]⟩
theorem fx_bL (σ : aS) (b : Nat) : FX σ (bL σ 609 b) := ⟨fun _ _ p _ => bL_ne p, fun _ _ _ => by rw [bL_ne (by decide)]⟩
theorem fx_bL2 (σ : aS) (b : Nat) : FX σ (bL σ 610 b) := ⟨fun _ _ _ p => bL_ne p, fun _ _ _ => by rw [bL_ne (by decide)]⟩
theorem fx_N (σ : aS) (n a : Nat) (lo hi : Int32) : FX σ (rNs σ n a lo hi) := by
  unfold rNs
  split
  · exact fx_t (fx_A _ _) (fx_E _ _)
  · exact fx_A _ _
theorem fx_K (σ : aS) (n a : Nat) : FX σ (rKs σ n a) := by
  unfold rKs
  split
  · exact fx_A _ _
  · exact fx_t (fx_A _ _) (fx_E _ _)
theorem fx_q (s : aS) (n p : Nat) (fl : Int32) : FX s (rq s n p fl) := fx_t (fx_A _ _) (fx_N _ _ _ _ _)
theorem fx_R (row : Int32) (n : Nat) : ∀ (f : Nat) (s : aS) (a : Nat) (fl cb lb : Int32), FX s (rR row n f s a fl cb lb).1
  | 0, s, _, _, _, _ => fx_r s
  | f + 1, s, a, fl, cb, lb => by
    rw [rR_s]
    split
    · exact fx_t (fx_t (fx_A _ _) (fx_pR _ _ _)) (fx_pR2 _ _ _)
    · split
      · exact fx_q _ _ _ _
      · split
        · exact fx_t (fx_t (fx_q s n (sk (s 604) n a) fl) (fx_K _ _ _)) (fx_R row n f _ _ _ _ _)
        · exact fx_t (fx_q s n (sk (s 604) n a) fl) (fx_K _ _ _)
theorem fx_I (s : aS) (n a : Nat) : FX s (rI s n a).1 := by
  unfold rI
  split
  · exact fx_N _ _ _ _ _
  · split
    · exact fx_t (fx_t (fx_N s n a 0 11) (fx_A _ _)) (fx_R _ _ _ _ _ _ _ _)
    · exact fx_t (fx_t (fx_N s n a 0 11) (fx_A _ _)) (fx_E _ _)
theorem fx_T (n : Nat) : ∀ (f : Nat) (s : aS) (a : Nat) (it : Int32), FX s (rT n f s a it).1
  | 0, s, _, _ => fx_r s
  | f + 1, s, a, it => by
    rw [rT_s]
    split
    · split
      · exact fx_t (fx_t (fx_A s (sk (s 604) n a)) (fx_I _ _ _)) (fx_T n f _ _ _)
      · exact fx_t (fx_A s (sk (s 604) n a)) (fx_I _ _ _)
    · exact fx_A _ _
theorem fx_t0 (σ : aS) : FX σ (rt0 σ) := by
  unfold rt0
  refine fx_t (fx_t (fx_t (fx_bL σ 15) (fx_bL2 _ 16)) (fx_A _ 0)) ⟨fun _ p _ _ => sP_ne p, fun k _ p => ?_⟩
  rw [sP_same]
  simp [upd, p]
theorem fx_F (σ : aS) (n : Nat) : FX σ (rtF σ n).1 := fx_t (fx_t0 σ) (fx_T n 141 _ _ _)
/-! the bits of a run -/
theorem bits_lo : ∀ m, m < 17 → ∀ i, i < 32 → bt (((1 : Int32) <<< (nI m &&& 31)) - 1) i = decide (i < m) := by decide +kernel
theorem bits_at {m fr i : Nat} (hm : fr + m ≤ 16) (hi : i < 32) : bt (bitsV (nI m) (nI fr)) i = decide (fr ≤ i ∧ i < fr + m) := by
  unfold bitsV
  rw [b_shl fr (by omega) _ hi, bits_lo m (by omega) _ (by omega), Bool.eq_iff_iff]
  simp only [Bool.and_eq_true, decide_eq_true_eq]
  omega
theorem bt_z (i : Nat) : bt (0 : Int32) i = false := by
  unfold bt
  simp
theorem num_run {t : Nat → Int32} {n p fr : Nat} (hf : fr ≤ 16) : bdM t n p 1 (nI (16 - fr)) = false ↔ (bdM t n p 1 16 = false ∧ ¬ 16 < nI fr + nw t n p 0) := by
  constructor
  · intro h
    obtain ⟨m, h1, h2, h3⟩ := wi_nat (lo := 1) (hi := 16 - fr) (by decide) (by omega) (bdM_wi h)
    refine ⟨?_, ?_⟩
    · unfold bdM at h ⊢
      rw [h3] at h ⊢
      rw [show wi (nI m) 1 (nI (16 - fr)) = true from decide_eq_true ⟨fa_of_nle2 (nI_le (a := 1) h1 (by omega)), fa_of_nle2 (nI_le h2 (by omega))⟩] at h
      rw [show wi (nI m) 1 16 = true from decide_eq_true ⟨fa_of_nle2 (nI_le (a := 1) h1 (by omega)), fa_of_nle2 (nI_le (b := 16) (by omega) (by decide))⟩]
      exact h
    · rw [h3, nI_add]
      exact fa_of_nle2 (nI_le (b := 16) (by omega) (by decide))
  · intro h
    obtain ⟨m, h1, h2, h3⟩ := wi_nat (lo := 1) (hi := 16) (by decide) (by decide) (bdM_wi h.1)
    have h4 : fr + m ≤ 16 := by
      rcases Nat.lt_or_ge 16 (fr + m) with z | z
      · exact absurd (by rw [h3, nI_add]; exact nI_lt (a := 16) z (by omega)) h.2
      · exact z
    have h5 := h.1
    unfold bdM at h5 ⊢
    rw [h3] at h5 ⊢
    rw [show wi (nI m) 1 16 = true from decide_eq_true ⟨fa_of_nle2 (nI_le (a := 1) h1 (by omega)), fa_of_nle2 (nI_le (b := 16) (by omega) (by decide))⟩] at h5
    rw [show wi (nI m) 1 (nI (16 - fr)) = true from decide_eq_true ⟨fa_of_nle2 (nI_le (a := 1) h1 (by omega)), fa_of_nle2 (nI_le (by omega) (by omega))⟩]
    exact h5
theorem wl_nn {σ : aS} (h : wl σ = true) : ¬ 0 ≤ σ 700 13 := of_decide_eq_true h
theorem jF_13w {σ : aS} {e : Nat} (h : wl σ = true) : jF σ e 700 13 = nI e := by
  rw [jF_13, if_neg (wl_nn h)]
theorem jN_t {σ : aS} {n a : Nat} {lo hi : Int32} (h : bdM (σ 703) n a lo hi = true) : jN σ n a lo hi = jA (jF (jA σ (de (σ 703) n a)) a) (sk (σ 703) n (de (σ 703) n a)) := by
  rw [jN, jG, if_pos h]
theorem jN_f {σ : aS} {n a : Nat} {lo hi : Int32} (h : bdM (σ 703) n a lo hi = false) : jN σ n a lo hi = jA (jA σ (de (σ 703) n a)) (sk (σ 703) n (de (σ 703) n a)) := by
  rw [jN, jG, if_neg (by rw [h]; decide)]
theorem jN_wf {σ : aS} {n a : Nat} {lo hi : Int32} (h : bdM (σ 703) n a lo hi = false) : wl (jN σ n a lo hi) = wl σ := by
  rw [jN_f h, wl_jA, wl_jA]
theorem jN_bad {σ : aS} {n a : Nat} {lo hi : Int32} (hw : wl σ = true) (ha : a ≤ 141) (h : bdM (σ 703) n a lo hi = true) : wl (jN σ n a lo hi) = false ∧ jN σ n a lo hi 700 13 = nI a := by
  rw [jN_t h]
  refine ⟨by rw [wl_jA, wl_jF _ ha], ?_⟩
  rw [jA_k _ _ (by decide)]
  exact jF_13w (by rw [wl_jA]; exact hw)
theorem jP_good {s : aS} {n p fr : Nat} (hw : wl s = true) (h : bdM (s 703) n p 1 16 = false) (h2 : ¬ 16 < nI fr + nw (s 703) n p 0) : wl (jP s n p fr) = true ∧ jP s n p fr = jN s n p 1 16 := by
  have e : jP s n p fr = jN s n p 1 16 := by
    rw [jP, if_neg (fun z => h2 z.2)]
  rw [e, jN_wf h]
  exact ⟨hw, rfl⟩
theorem jP_bad {s : aS} {n p fr : Nat} (hw : wl s = true) (hp : p ≤ 141) (h : ¬ (bdM (s 703) n p 1 16 = false ∧ ¬ 16 < nI fr + nw (s 703) n p 0)) : wl (jP s n p fr) = false ∧ jP s n p fr 700 13 = nI p := by
  cases hb : bdM (s 703) n p 1 16 with
  | true =>
    obtain ⟨q1, q2⟩ := jN_bad (lo := 1) (hi := 16) hw hp hb
    rw [jP, if_neg (fun z => by rw [q1] at z; cases z.1)]
    exact ⟨q1, q2⟩
  | false =>
    have q := jN_wf (σ := s) hb
    rw [hw] at q
    have c : 16 < nI fr + jM s n p := Decidable.of_not_not (fun z => h ⟨hb, z⟩)
    rw [jP, if_pos ⟨q, c⟩]
    exact ⟨wl_jF _ hp, jF_13w q⟩
theorem jK_good {σ : aS} {n a : Nat} (h : isK (hr (σ 703) n a) = true) : wl (jK σ n a) = wl σ := by
  rw [jK, wl_jA, jH, if_pos h]
theorem jK_bad {σ : aS} {n a : Nat} (hw : wl σ = true) (ha : a ≤ 141) (h : ¬ isK (hr (σ 703) n a) = true) : wl (jK σ n a) = false ∧ jK σ n a 700 13 = nI a := by
  rw [jK, jH, if_neg h]
  refine ⟨by rw [wl_jA, wl_jF _ ha], ?_⟩
  rw [jA_k _ _ (by decide)]
  exact jF_13w hw
theorem jE_bad {c : Int32} {σ : aS} {n a : Nat} (hw : wl σ = true) (ha : a ≤ 141) (h : ¬ hr (σ 703) n a = c) : wl (jE c σ n a) = false ∧ jE c σ n a 700 13 = nI a := by
  rw [jE, if_pos hw, if_neg h]
  exact ⟨wl_jF _ ha, jF_13w hw⟩
theorem jE_nw {c : Int32} {σ : aS} {n a : Nat} (hw : wl σ = false) : jE c σ n a = σ := by
  rw [jE, if_neg (by rw [hw]; decide)]
