/-! load: rows of the press's reading have 16 columns -/
def ZW (σ τ : aS) : Prop := (wR σ 609 → wR τ 609) ∧ (wR σ 610 → wR τ 610)
theorem zw_r (σ : aS) : ZW σ σ := ⟨fun h => h, fun h => h⟩
theorem zw_t {a b c : aS} (h : ZW a b) (h2 : ZW b c) : ZW a c := ⟨fun q => h2.1 (h.1 q), fun q => h2.2 (h.2 q)⟩
theorem zw_e {σ τ : aS} (h9 : τ 609 = σ 609) (h10 : τ 610 = σ 610) : ZW σ τ := ⟨fun h => wR_to h h9, fun h => wR_to h h10⟩
theorem zw_A (σ : aS) (a : Nat) : ZW σ (sA σ a) := zw_e (sA_ne (by decide)) (sA_ne (by decide))
theorem zw_E (σ : aS) (a : Nat) : ZW σ (sE σ a) := zw_e (sE_ne (by decide)) (sE_ne (by decide))
theorem pR_wR {σ : aS} {a : Nat} {y v : Int32} (h : wR σ a) : wR (pR σ a y v) a := by
  intro r hr i hi
  unfold pR
  split
  · rw [sP_same]
    by_cases c : r = y.toNatClampNeg
    · rw [c, pk_us]
      exact and16 i hi
    · rw [pk_un c]
      exact h r hr i hi
  · exact h r hr i hi
theorem zw_pR (σ : aS) (y v : Int32) : ZW σ (pR σ 609 y v) := ⟨pR_wR, fun h => wR_to h (pR_ne (by decide))⟩
theorem zw_pR2 (σ : aS) (y v : Int32) : ZW σ (pR σ 610 y v) := ⟨fun h => wR_to h (pR_ne (by decide)), pR_wR⟩
theorem zw_N (σ : aS) (n a : Nat) (lo hi : Int32) : ZW σ (rNs σ n a lo hi) := by
  unfold rNs
  split
  · exact zw_t (zw_A _ _) (zw_E _ _)
  · exact zw_A _ _
theorem zw_K (σ : aS) (n a : Nat) : ZW σ (rKs σ n a) := by
  unfold rKs
  split
  · exact zw_A _ _
  · exact zw_t (zw_A _ _) (zw_E _ _)
theorem zw_q (s : aS) (n p : Nat) (fl : Int32) : ZW s (rq s n p fl) := zw_t (zw_A _ _) (zw_N _ _ _ _ _)
theorem zw_R (row : Int32) (n : Nat) : ∀ (f : Nat) (s : aS) (a : Nat) (fl cb lb : Int32), ZW s (rR row n f s a fl cb lb).1
  | 0, s, _, _, _, _ => zw_r s
  | f + 1, s, a, fl, cb, lb => by
    rw [rR_s]
    split
    · exact zw_t (zw_t (zw_A _ _) (zw_pR _ _ _)) (zw_pR2 _ _ _)
    · split
      · exact zw_q _ _ _ _
      · split
        · exact zw_t (zw_t (zw_q s n (sk (s 604) n a) fl) (zw_K _ _ _)) (zw_R row n f _ _ _ _ _)
        · exact zw_t (zw_q s n (sk (s 604) n a) fl) (zw_K _ _ _)
theorem zw_I (s : aS) (n a : Nat) : ZW s (rI s n a).1 := by
  unfold rI
  split
  · exact zw_N _ _ _ _ _
  · split
    · exact zw_t (zw_t (zw_N s n a 0 11) (zw_A _ _)) (zw_R _ _ _ _ _ _ _ _)
    · exact zw_t (zw_t (zw_N s n a 0 11) (zw_A _ _)) (zw_E _ _)
theorem zw_T (n : Nat) : ∀ (f : Nat) (s : aS) (a : Nat) (it : Int32), ZW s (rT n f s a it).1
  | 0, s, _, _ => zw_r s
  | f + 1, s, a, it => by
    rw [rT_s]
    split
    · split
      · exact zw_t (zw_t (zw_A s (sk (s 604) n a)) (zw_I _ _ _)) (zw_T n f _ _ _)
      · exact zw_t (zw_A s (sk (s 604) n a)) (zw_I _ _ _)
    · exact zw_A _ _
theorem wR_F {σ : aS} {n : Nat} (h5 : wR σ 15) (h6 : wR σ 16) : wR (rtF σ n).1 609 ∧ wR (rtF σ n).1 610 := by
  have h : ZW (rt0 σ) (rtF σ n).1 := zw_T n 141 (rt0 σ) 0 0
  refine ⟨h.1 ?_, h.2 ?_⟩
  · refine wR_to (wR_bL (a := 609) h5) ?_
    unfold rt0
    rw [sP_ne (by decide), sA_ne (by decide), bL_ne (by decide)]
  · refine wR_to (wR_bL (σ := bL σ 609 15) (a := 610) (wR_to h6 (bL_ne (by decide)))) ?_
    unfold rt0
    rw [sP_ne (by decide), sA_ne (by decide)]
/-! the model's draft holds kinds -/
def TR (d : Nat → Int32) : Prop := ∀ k, k < 192 → d k = 0 ∨ d k = 1 ∨ d k = 2
def ZT (σ τ : aS) : Prop := TR (σ 706) → TR (τ 706)
theorem zt_r (σ : aS) : ZT σ σ := fun h => h
theorem zt_t {a b c : aS} (h : ZT a b) (h2 : ZT b c) : ZT a c := fun q => h2 (h q)
theorem zt_e {σ τ : aS} (h : τ 706 = σ 706) : ZT σ τ := fun q => by
  show TR (τ 706)
  rw [h]
  exact q
theorem zt_A (σ : aS) (a : Nat) : ZT σ (jA σ a) := zt_e (jA_ne (by decide))
theorem zt_F (σ : aS) (a : Nat) : ZT σ (jF σ a) := zt_e (jF_ne (by decide))
theorem zt_Q (σ : aS) (v : Int32) : ZT σ (jQ σ v) := zt_e (jQ_ne (by decide))
theorem zt_W (σ : aS) (n a row fr m : Nat) : ZT (jU σ n a fr) (jW σ n a row fr m) := by
  intro h k hk
  unfold jW
  rw [sP_same]
  by_cases c : 16 * row + fr ≤ k ∧ k < 16 * row + fr + m
  · rw [fb_put_in c.1 c.2]
    show jv σ n a = 0 ∨ jv σ n a = 1 ∨ jv σ n a = 2
    unfold jv jKc
    split
    · exact Or.inl rfl
    · split
      · exact Or.inr (Or.inl rfl)
      · exact Or.inr (Or.inr rfl)
  · rw [fb_put_out (by omega)]
    exact h k hk
theorem zt_N (σ : aS) (n a : Nat) (lo hi : Int32) : ZT σ (jN σ n a lo hi) := by
  unfold jN
  refine zt_t ?_ (zt_A _ _)
  unfold jG
  split
  · exact zt_t (zt_A _ _) (zt_F _ _)
  · exact zt_A _ _
theorem zt_E (c : Int32) (σ : aS) (n a : Nat) : ZT σ (jE c σ n a) := by
  unfold jE
  split
  · split
    · exact zt_A _ _
    · exact zt_F _ _
  · exact zt_r _
theorem zt_K (σ : aS) (n a : Nat) : ZT σ (jK σ n a) := by
  unfold jK
  refine zt_t ?_ (zt_A _ _)
  unfold jH
  split
  · exact zt_r _
  · exact zt_F _ _
theorem zt_P (σ : aS) (n a fr : Nat) : ZT σ (jP σ n a fr) := by
  unfold jP
  split
  · exact zt_t (zt_N _ _ _ _ _) (zt_F _ _)
  · exact zt_N _ _ _ _ _
theorem zt_U (σ : aS) (n a fr : Nat) : ZT σ (jU σ n a fr) := zt_t (zt_P σ n a fr) (zt_K _ _ _)
theorem zt_Rn (σ : aS) (n a row fr : Nat) : ZT σ (jRn σ n a row fr) := by
  unfold jRn
  split
  · refine zt_t ?_ (zt_Q _ _)
    unfold jX
    split
    · exact zt_t (zt_U σ n a fr) (zt_W _ _ _ _ _ _)
    · exact zt_U σ n a fr
  · exact zt_P σ n a fr
theorem zt_L (row n : Nat) : ∀ (f : Nat) (s : aS) (a fr : Nat), ZT s (jL row n f s a fr).1
  | 0, s, _, _ => zt_r s
  | f + 1, s, a, fr => by
    rw [jL_s]
    split
    · exact zt_t (zt_Rn s n a row fr) (zt_L row n f _ _ _)
    · exact zt_r s
theorem zt_T (n : Nat) (P : aS × Nat) : ZT P.1 (jT n P).1 := by
  unfold jT
  refine zt_t ?_ (zt_E _ _ _ _)
  unfold jI
  split
  · exact zt_F _ _
  · exact zt_r _
theorem zt_Y (σ : aS) (n a : Nat) : ZT σ (jY σ n a).1 := by
  obtain ⟨P, hP⟩ : ∃ P, P = jL (nw (σ 703) n a 0).toNatClampNeg n 17 (jQ (jB σ n a) 0) (jBa σ n a) 0 := ⟨_, rfl⟩
  have h : ZT (jQ (jB σ n a) 0) P.1 := by
    rw [hP]
    exact zt_L _ _ _ _ _ _
  have hY : jY σ n a = jT n P := by
    unfold jY
    rw [hP]
  rw [hY]
  exact zt_t (zt_t (zt_t (zt_N σ n a 0 11) (zt_E 58 _ _ _)) (zt_Q (jB σ n a) 0)) (zt_t h (zt_T n P))
theorem zt_Z (n : Nat) : ∀ (f : Nat) (s : aS) (a : Nat) (it : Int32), ZT s (jZ n f s a it).1
  | 0, s, _, _ => zt_r s
  | f + 1, s, a, it => by
    rw [jZ_s]
    split
    · exact zt_t (zt_Y s n a) (zt_Z n f _ _ _)
    · exact zt_r s
theorem TR_F {σ : aS} {n : Nat} (h : TR (σ 701)) : TR ((jZF σ n).1 706) := by
  refine zt_Z n 141 (jS1 σ n) (sk (σ 703) n 0) 0 ?_
  have h706 : jS1 σ n 706 = fb_put (σ 706) (σ 701) 0 192 := by
    unfold jS1
    rw [jA_ne (by decide)]
    unfold jS0
    rw [sP_ne (by decide), jA_ne (by decide), jD, sP_same]
  intro k hk
  rw [h706, fb_put_in (by omega) (by omega), Nat.sub_zero]
  exact h k hk
/-- both readers, from two states -/
theorem load_eq2 {σ u : aS} {n : Nat} (hn : n ≤ 140) (h1 : σ 603 1 = nI n) (h5 : u 700 5 = nI n) (hT : ∀ k, k < n → σ 604 k = u 703 k) (hP : ∀ r, r < 12 → ∀ c, c < 16 → bt (σ 15 r) c = decide (u 701 (16 * r + c) = 1) ∧ bt (σ 16 r) c = decide (u 701 (16 * r + c) = 2)) : TO (rtF σ n) (jZF u n) := by
  have hX := fx_t0 σ
  have hF := fr_S1 u n
  have e604 : rt0 σ 604 = σ 604 := hX.1 604 (by decide) (by decide) (by decide)
  have e703 : jS1 u n 703 = u 703 := hF.1 703 (by decide) (by decide)
  have esk : sk (rt0 σ 604) n 0 = sk (u 703) n 0 := by rw [e604, sk_eq hT]
  have h13 : jS1 u n 700 13 = -1 := by
    unfold jS1
    rw [jA_k _ _ (by decide)]
    unfold jS0
    rw [sP_same]
    rfl
  have h3 : rt0 σ 603 3 < 0 := by
    have e : rt0 σ 603 3 = -1 := by
      unfold rt0
      rw [sP_same]
      rfl
    rw [e]
    decide
  have h609 : rt0 σ 609 = va_cpy (σ 15) (σ 609) 0 0 12 := by
    unfold rt0
    rw [sP_ne (by decide), sA_ne (by decide), bL_ne (by decide), bL, sP_same]
  have h610 : rt0 σ 610 = va_cpy (σ 16) (σ 610) 0 0 12 := by
    unfold rt0
    rw [sP_ne (by decide), sA_ne (by decide), bL, sP_same, bL_ne (by decide), bL_ne (by decide)]
  have h706 : jS1 u n 706 = fb_put (u 706) (u 701) 0 192 := by
    unfold jS1
    rw [jA_ne (by decide)]
    unfold jS0
    rw [sP_ne (by decide), jA_ne (by decide), jD, sP_same]
  have hPP : PP (rt0 σ) (jS1 u n) := by
    intro r hr c hc
    rw [h609, h610, h706, cpy_at _ _ hr, cpy_at _ _ hr, fb_put_in (by omega) (by omega), Nat.sub_zero]
    exact hP r hr c hc
  have I := text_eq 141 (rt0 σ) (jS1 u n) 0 0 (tx_rt0 hn h1) (by rw [esk]; exact jS1_JX hn h5) (fun k hk => by rw [e604, e703]; exact hT k hk) h3 (decide_eq_true (by rw [h13]; decide)) hPP (by omega)
  rw [esk] at I
  exact I
theorem load_two2 {u : aS} {n : Nat} {X : aS × Int32} (h : TO X (jZF u n)) : (wl (jZF u n).1 = true ∧ 0 ≤ (X).2 ∧ (X).2 = (jZF u n).2 ∧ PP (X).1 (jZF u n).1) ∨ (wl (jZF u n).1 = false ∧ ¬ 0 ≤ (X).2 ∧ (X).2 = -2000 - (jZF u n).1 700 13) := by
  obtain ⟨j, j1, j2⟩ := jZF_it u n
  generalize jZF u n = M at h j2 ⊢
  rcases h with ⟨a1, a2, a3⟩ | ⟨a1, a2, e, e1, e2⟩
  · refine Or.inl ⟨a1, ?_, a2, a3⟩
    rw [a2, j2]
    exact nI_nn (a := j) (by omega)
  · refine Or.inr ⟨a1, ?_, a2⟩
    rw [a2, e2]
    exact neg2000 e (by omega)
theorem px_bits {s : aS} {a : Nat} {p : Nat → Bool} (h : ∀ k, k < 192 → px s a k = p k) {r c : Nat} (hr : r < 12) (hc : c < 16) : bt (s a r) c = p (16 * r + c) := by
  rw [← px_at s a r hc]
  exact h _ (by omega)
theorem bits_px {s : aS} {a k : Nat} {p : Nat → Bool} (h : ∀ r, r < 12 → ∀ c, c < 16 → bt (s a r) c = p (16 * r + c)) (hk : k < 192) : px s a k = p k := by
  unfold px
  rw [h (k / 16) (by omega) (k % 16) (by omega), show 16 * (k / 16) + k % 16 = k by omega]
theorem aX_702_of {σ s : aS} {q : Nat} (hq : q ≤ 5) (h1 : s 701 = σ 701) (h2 : s 702 = σ 702) : aX s q 702 = aX σ q 702 := by
  by_cases c : q = 5
  · subst c
    rw [aX_5, aX_5, h1, h2]
  · rw [aX_702 (by omega), aX_702 (by omega), h1, h2]
theorem duo_load {g : aG} {l : Launch} {σ : aS} (hR : Rel σ) : Duo g l yX6_load wsX6_load 6 132 yX7_load wsX7_load 5 114 [] σ := by
  obtain ⟨n, hT⟩ := hR.2.2.1
  obtain ⟨t1, t2, t3, t4⟩ := hT
  have hB0 := (Rel_S hR).1
  have hFX := fx_F σ n
  have hWR := wR_F (n := n) (σ := σ) hB0.1.1.1 hB0.1.1.2
  have key : ∀ u : aS, u 700 = σ 700 → u 701 = σ 701 → u 703 = σ 703 → TO (rtF σ n) (jZF u n) := by
    intro u e0 e1 e3
    refine load_eq2 t1 t2 (by rw [e0]; exact t3) (fun k hk => by rw [e3]; exact t4 k hk) (fun r hr c hc => ?_)
    rw [e1]
    exact ⟨px_bits (fun k hk => (hB0.1.2 k hk).1) hr hc, px_bits (fun k hk => (hB0.1.2 k hk).2.1) hr hc⟩
  have hxb := fun q => zX6_load_bad (g := g) (l := l) (σ := σ) n t1 t2 q
  have hxo := fun nx q N => zX6_load_ok (g := g) (l := l) (σ := σ) nx n t1 t2 q N
  have hld : ∀ nx, ldX σ nx n = sP (bL (bL (kp (rtF σ n).1 nx) 15 609) 16 610) 603 (upd (bL (bL (kp (rtF σ n).1 nx) 15 609) 16 610 603) 1 0) := fun _ => rfl
  generalize rtF σ n = X at hFX hWR key hxb hxo hld
  obtain ⟨r, ans⟩ := X
  have er : ∀ o, o ≠ 603 → o ≠ 609 → o ≠ 610 → r o = σ o := hFX.1
  have hR2 : Rel r := Rel_fr hR (fun o ho => er o (by omega) (by omega) (by omega)) (hFX.2 1 (by decide) (by decide)) (by rw [er 700 (by decide) (by decide) (by decide)]) (by rw [er 700 (by decide) (by decide) (by decide)]) (by rw [er 700 (by decide) (by decide) (by decide)])
  have k1 := load_two2 (key r (er 700 (by decide) (by decide) (by decide)) (er 701 (by decide) (by decide) (by decide)) (er 703 (by decide) (by decide) (by decide)))
  have h0 := hR2.1
  obtain ⟨nx, sz, hH⟩ := hR2.2.1
  obtain ⟨hB, hE, hG, hN⟩ := Rel_S hR2
  by_cases hok : 0 ≤ ans
  · have hx := hxo nx hok (NX_of hH hN)
    rw [hld nx] at hx
    have hnx := hH.1
    have hsz := hH.2.1
    obtain ⟨s, hs⟩ : ∃ s, s = sP (bL (bL (kp r nx) 15 609) 16 610) 603 (upd (bL (bL (kp r nx) 15 609) 16 610 603) 1 0) := ⟨_, rfl⟩
    have s603 : s 603 1 = 0 := by rw [hs, sP_same, pk_us]
    have so : ∀ o, o ≠ 15 → o ≠ 16 → o ≠ 603 → s o = kp r nx o := fun o a b c => by rw [hs, sP_ne c, bL_ne b, bL_ne a]
    have s15 : ∀ y, y < 12 → s 15 y = r 609 y := fun y hy => by rw [hs, sP_ne (by decide), bL_ne (by decide), bL_at hy, kp_hi hnx (by decide)]
    have s16 : ∀ y, y < 12 → s 16 y = r 610 y := fun y hy => by rw [hs, sP_ne (by decide), bL_at hy, bL_ne (by decide), kp_hi hnx (by decide)]
    have hx : CN g l yX6_load wsX6_load 6 132 [.ref 600] σ (some (.int ans)) s := by rw [hs]; exact hx
    clear hs hld hxo hxb
    have ehi : ∀ o, 700 ≤ o → s o = r o := fun o ho => (so o (by omega) (by omega) (by omega)).trans (kp_hi hnx (by omega))
    have ehs : ∀ o, 700 ≤ o → s o = σ o := fun o ho => (ehi o ho).trans (er o (by omega) (by omega) (by omega))
    have k2 := load_two2 (key s (ehs 700 (by decide)) (ehs 701 (by decide)) (ehs 703 (by decide)))
    have hFR := fr_ZF s n
    have hTR := TR_F (σ := s) (n := n) (fun k hk => by rw [ehi 701 (by decide)]; exact (hB.1.2 k hk).2.2)
    have hm := fun w h3 => zX7_load_ok (g := g) (l := l) (σ := s) (by rw [ehi 700 (by decide)]; exact h0) n t1 (by rw [ehs 700 (by decide)]; exact t3) sz hsz w h3
    generalize jZF s n = Y at k2 hFR hTR hm
    obtain ⟨M, it⟩ := Y
    rcases k2 with ⟨b1, b2, b3, b4⟩ | ⟨b1, b2, b3⟩
    · have m3 : M 700 3 = nI sz := by
        refine (hFR.2 3 (by decide) (by decide) (by decide)).trans ?_
        rw [ehi 700 (by decide)]
        exact hH.2.2.2.2.1
      have hm := hm b1 m3
      refine duo_of hx hm b3.symm ?_
      have mo : ∀ o, o ≠ 700 → o ≠ 706 → M o = s o := hFR.1
      have to : ∀ o, o ≠ 700 → o ≠ 701 → jFin (aX M sz) o = aX M sz o := fun o a b => by
        unfold jFin jOut
        rw [sP_ne a, sP_ne b]
      have t0 : ∀ k, jFin (aX M sz) 700 k = if k = 5 then 0 else aX M sz 700 k := fun k => by
        unfold jFin jOut
        rw [sP_same, sP_ne (by decide)]
        rfl
      have t7 : jFin (aX M sz) 701 = fb_put (σ 701) (M 706) 0 192 := by
        unfold jFin jOut
        rw [sP_ne (by decide), sP_same, aX_701, aX_ne (by decide) (by decide), mo 701 (by decide) (by decide), ehs 701 (by decide)]
      generalize jFin (aX M sz) = τ at to t0 t7
      have tlo : ∀ o, o < 700 → τ o = s o := fun o a => (to o (by omega) (by omega)).trans ((aX_ne (by omega) (by omega)).trans (mo o (by omega) (by omega)))
      have e701 : r 701 = σ 701 := er 701 (by decide) (by decide) (by decide)
      refine Rel_mut (s := s) hH (Sst_1 (Rel_S hR2)) h0 ehi (fun o a b => ?_) ?_ ?_ ?_ ⟨0, by omega, ?_, ?_, fun k hk => absurd hk (Nat.not_lt_zero k)⟩ (Sst_1 ?_)
      · rw [tlo o (by omega)]
        exact so o (by omega) (by omega) (by omega)
      · rw [to 702 (by decide) (by decide)]
        exact aX_702_of hsz (mo 701 (by decide) (by decide)) (mo 702 (by decide) (by decide))
      · rw [t0, if_neg (by decide), aX_k _ _ (by decide), aX_k _ _ (by decide)]
        exact hFR.2 0 (by decide) (by decide) (by decide)
      · rw [t0, if_neg (by decide), aX_3 hsz, aX_3 hsz]
      · rw [tlo 603 (by decide), s603]
        rfl
      · rw [t0]
        rfl
      · have ek : ∀ o, o < 40 → o ≠ 15 → o ≠ 16 → τ o = r o := fun o a b c => by rw [tlo o (by omega), so o b c (by omega), kp_lo (by omega)]
        have u0 : ∀ k, 192 ≤ k → τ 701 k = r 701 k := fun k hk => by rw [t7, fb_put_out (by omega), e701]
        have u1 : ∀ k, k < 192 → τ 701 k = M 706 k := fun k hk => by rw [t7, fb_put_in (by omega) (by omega), Nat.sub_zero]
        refine Sst_blk (Rel_S hR2) ⟨?_, ?_, ?_, ?_⟩ (fun o ho => ek o (by omega) (by omega) (by omega)) (fun k hk _ => u0 k (by omega))
        · refine ⟨⟨fun y hy i hi => ?_, fun y hy i hi => ?_⟩, fun k hk => ⟨?_, ?_, ?_⟩⟩
          · show bt (τ 15 y) i = false
            rw [tlo 15 (by decide), s15 y hy]
            exact hWR.1 y hy i hi
          · show bt (τ 16 y) i = false
            rw [tlo 16 (by decide), s16 y hy]
            exact hWR.2 y hy i hi
          · show px τ 15 k = _
            rw [u1 k hk]
            refine bits_px (p := fun k => decide (M 706 k = 1)) (fun r hr c hc => ?_) hk
            rw [tlo 15 (by decide), s15 r hr]
            exact (b4 r hr c hc).1
          · show px τ 16 k = _
            rw [u1 k hk]
            refine bits_px (p := fun k => decide (M 706 k = 2)) (fun r hr c hc => ?_) hk
            rw [tlo 16 (by decide), s16 r hr]
            exact (b4 r hr c hc).2
          · rw [u1 k hk]
            exact hTR k hk
        · exact lin_to hB.2.1 (ek 17 (by decide) (by decide) (by decide)) (fun k hk => u0 _ (by omega))
        · exact wer_to hB.2.2.1 (ek 19 (by decide) (by decide) (by decide)) (fun k hk => u0 _ (by omega)) (fun k hk => u0 _ (by omega))
        · exact col_to hB.2.2.2 (ek 18 (by decide) (by decide) (by decide)) (fun k hk => u0 _ (by omega))
    · exact absurd hok b2
  · have hx := hxb hok
    have hm := fun w => zX7_load_bad (g := g) (l := l) (σ := r) h0 n t1 (by rw [er 700 (by decide) (by decide) (by decide)]; exact t3) w
    have hFR := fr_ZF r n
    generalize jZF r n = Y at k1 hFR hm
    obtain ⟨M, it⟩ := Y
    rcases k1 with ⟨b1, b2, b3, b4⟩ | ⟨b1, b2, b3⟩
    · exact absurd b2 hok
    · refine duo_of hx (hm b1) b3.symm ?_
      exact Rel_fr hR2 (fun o ho => hFR.1 o (by omega) (by omega)) (by rw [hFR.1 603 (by decide) (by decide)]) (hFR.2 0 (by decide) (by decide) (by decide)) (hFR.2 3 (by decide) (by decide) (by decide)) (hFR.2 5 (by decide) (by decide) (by decide))
