/-! the whole text -/
def PP (s u : aS) : Prop := ∀ r, r < 12 → ∀ c, c < 16 → bt (s 609 r) c = decide (u 706 (16 * r + c) = 1) ∧ bt (s 610 r) c = decide (u 706 (16 * r + c) = 2)
theorem b16 : ∀ c, c < 16 → bt 65535 c = true := by decide +kernel
theorem pp_row {row n : Nat} {s u : aS} {X M : aS × Nat} {C L : Int32} (h : PP s u) (h9 : X.1 609 = upd (s 609) row (C &&& 65535)) (h10 : X.1 610 = upd (s 610) row (L &&& 65535)) (hB : BR row 16 C L (M.1 706)) (ho : ∀ k, (k < 16 * row ∨ 16 * row + 16 ≤ k) → M.1 706 k = u 706 k) : PP X.1 M.1 := by
  intro r hr c hc
  rw [h9, h10]
  by_cases e : r = row
  · subst e
    rw [show upd (s 609) r (C &&& 65535) r = C &&& 65535 from if_pos rfl, show upd (s 610) r (L &&& 65535) r = L &&& 65535 from if_pos rfl, b_and, b_and, b16 c hc, Bool.and_true, Bool.and_true]
    obtain ⟨q1, q2⟩ := hB c (by omega)
    rw [q1, q2]
    refine ⟨?_, ?_⟩
    · rw [decide_eq_decide]
      exact ⟨fun z => z.2, fun z => ⟨hc, z⟩⟩
    · rw [decide_eq_decide]
      exact ⟨fun z => z.2, fun z => ⟨hc, z⟩⟩
  · rw [show upd (s 609) row (C &&& 65535) r = s 609 r from if_neg e, show upd (s 610) row (L &&& 65535) r = s 610 r from if_neg e, ho _ (by omega)]
    exact h r hr c hc
/-- how the two outcomes of the whole text stand -/
def TO (X M : aS × Int32) : Prop := (wl M.1 = true ∧ X.2 = M.2 ∧ PP X.1 M.1) ∨ (wl M.1 = false ∧ X.2 = -2000 - M.1 700 13 ∧ ∃ e : Nat, e ≤ 141 ∧ M.1 700 13 = nI e)
theorem to_bad {S u : aS} {it x : Int32} (h : wl u = false) (e : u 700 13 = x) (h2 : ∃ e : Nat, e ≤ 141 ∧ u 700 13 = nI e) : TO (S, -2000 - x) (u, it) := by
  subst e
  exact Or.inr ⟨h, rfl, h2⟩
theorem jZ_nw {n f : Nat} {u : aS} {a : Nat} {it : Int32} (h : wl u = false) : jZ n f u a it = (u, it) := by
  cases f with
  | zero => rfl
  | succ f => rw [jZ_s, if_neg (fun z => by rw [h] at z; cases z.1)]
theorem text_eq {n : Nat} : ∀ (f : Nat) (s u : aS) (a : Nat) (it : Int32), TX s n a → JX u n (sk (s 604) n a) → EQ n s u → s 603 3 < 0 → wl u = true → PP s u → n + 1 ≤ sk (s 604) n a + f → TO (rT n f s a it) (jZ n f u (sk (s 604) n a) it) := by
  intro f
  induction f with
  | zero =>
    intro s u a it hT hJ hE h3 hw hP hf
    have := sk_le (t := s 604) hT.2.1
    omega
  | succ f ih =>
    intro s u a it hT hJ hE h3 hw hP hf
    obtain ⟨p, hp⟩ : ∃ p, p = sk (s 604) n a := ⟨_, rfl⟩
    have hpn : p ≤ n := by rw [hp]; exact sk_le hT.2.1
    have hn := hT.1
    rw [rT_s, jZ_s, ← hp]
    rw [← hp] at hJ hf
    by_cases c : p < n
    · rw [if_pos c, if_pos (show wl u = true ∧ p < n from ⟨hw, c⟩)]
      have hT1 : TX (sA s p) n p := hT.sA hpn
      have e4 : sA s p 604 = s 604 := sA_ne (by decide)
      have hE1 : EQ n (sA s p) u := fun k hk => by rw [e4]; exact hE k hk
      obtain ⟨row, hr, R⟩ := row_eq hT1 hJ hE1 (by rw [sA_k _ _ (by decide)]; exact h3) hw
      have hTI := tx_rI hT1
      obtain ⟨hJY, hJ2⟩ := jY_ok hJ hpn
      have hFX := fx_I (sA s p) n p
      have hFR := fr_Y u n p
      rcases R with ⟨a1, a2, a3, ⟨C, L, a4, a5, a6⟩, a7⟩ | ⟨a1, a2, a3, a4⟩
      · rw [if_pos a1]
        have e604 : (rI (sA s p) n p).1 604 = s 604 := (hFX.1 604 (by decide) (by decide) (by decide)).trans e4
        rw [e4] at a3
        have hP1 : PP (sA s p) u := fun r hr c hc => by rw [sA_ne (by decide), sA_ne (by decide)]; exact hP r hr c hc
        have hlt := (hJ2 a2).1
        have I := ih (rI (sA s p) n p).1 (jY u n p).1 (rI (sA s p) n p).2 (it + 1) hTI (by rw [e604, ← a3]; exact hJY) (by
          intro k hk
          rw [e604, hFR.1 703 (by decide) (by decide)]
          exact hE k hk) a1 a2 (pp_row (n := n) hP1 a4 a5 a6 a7) (by rw [e604, ← a3]; omega)
        rw [e604, ← a3] at I
        exact I
      · rw [if_neg a1, jZ_nw a2]
        exact to_bad a2 a3 a4
    · rw [if_neg c, if_neg (fun z => c z.2)]
      have hPs : PP (sA s p) u := fun r hr c hc => by rw [sA_ne (by decide), sA_ne (by decide)]; exact hP r hr c hc
      exact Or.inl ⟨hw, rfl, hPs⟩
theorem cpy_at (f g : Nat → Int32) {n k : Nat} (h : k < n) : va_cpy f g 0 0 n k = f k := by
  simp [va_cpy, h]
/-- both readers of the text, from the states that the calls begin in -/
theorem load_eq {σ : aS} {n : Nat} (hn : n ≤ 140) (h1 : σ 603 1 = nI n) (h5 : σ 700 5 = nI n) (hT : ∀ k, k < n → σ 604 k = σ 703 k) (hP : ∀ r, r < 12 → ∀ c, c < 16 → bt (σ 15 r) c = decide (σ 701 (16 * r + c) = 1) ∧ bt (σ 16 r) c = decide (σ 701 (16 * r + c) = 2)) : TO (rtF σ n) (jZF σ n) := by
  have hX := fx_t0 σ
  have hF := fr_S1 σ n
  have e604 : rt0 σ 604 = σ 604 := hX.1 604 (by decide) (by decide) (by decide)
  have e703 : jS1 σ n 703 = σ 703 := hF.1 703 (by decide) (by decide)
  have esk : sk (rt0 σ 604) n 0 = sk (σ 703) n 0 := by rw [e604, sk_eq hT]
  have h13 : jS1 σ n 700 13 = -1 := by
    unfold jS1
    rw [jA_k _ _ (by decide)]
    unfold jS0
    rw [sP_same]
    rfl
  have h3 : rt0 σ 603 3 < 0 := by
    have e : rt0 σ 603 3 = -1 := by
      unfold rt0
      rw [sP_same]
      rfl
    rw [e]
    decide
  have h609 : rt0 σ 609 = va_cpy (σ 15) (σ 609) 0 0 12 := by
    unfold rt0
    rw [sP_ne (by decide), sA_ne (by decide), bL_ne (by decide), bL, sP_same]
  have h610 : rt0 σ 610 = va_cpy (σ 16) (σ 610) 0 0 12 := by
    unfold rt0
    rw [sP_ne (by decide), sA_ne (by decide), bL, sP_same, bL_ne (by decide), bL_ne (by decide)]
  have h706 : jS1 σ n 706 = fb_put (σ 706) (σ 701) 0 192 := by
    unfold jS1
    rw [jA_ne (by decide)]
    unfold jS0
    rw [sP_ne (by decide), jA_ne (by decide), jD, sP_same]
  have hPP : PP (rt0 σ) (jS1 σ n) := by
    intro r hr c hc
    rw [h609, h610, h706, cpy_at _ _ hr, cpy_at _ _ hr, fb_put_in (by omega) (by omega), Nat.sub_zero]
    exact hP r hr c hc
  have I := text_eq 141 (rt0 σ) (jS1 σ n) 0 0 (tx_rt0 hn h1) (by rw [esk]; exact jS1_JX hn h5) (fun k hk => by rw [e604, e703]; exact hT k hk) h3 (decide_eq_true (by rw [h13]; decide)) hPP (by omega)
  rw [esk] at I
  exact I
theorem jZ_it {n : Nat} : ∀ (f : Nat) (s : aS) (a i : Nat), ∃ j : Nat, j ≤ i + f ∧ (jZ n f s a (nI i)).2 = nI j
  | 0, _, _, i => ⟨i, by omega, rfl⟩
  | f + 1, s, a, i => by
    rw [jZ_s]
    by_cases c : wl s = true ∧ a < n
    · rw [if_pos c, nI_1]
      obtain ⟨j, h1, h2⟩ := jZ_it f (jY s n a).1 (jY s n a).2 (i + 1)
      exact ⟨j, by omega, h2⟩
    · rw [if_neg c]
      exact ⟨i, by omega, rfl⟩
theorem jZF_it (σ : aS) (n : Nat) : ∃ j : Nat, j ≤ 141 ∧ (jZF σ n).2 = nI j := by
  obtain ⟨j, h1, h2⟩ := jZ_it (n := n) 141 (jS1 σ n) (sk (σ 703) n 0) 0
  exact ⟨j, by omega, h2⟩
theorem neg2000 : ∀ e, e < 142 → ¬ (0 : Int32) ≤ -2000 - nI e := by decide +kernel
/-- load_eq with what the two contracts of load want -/
theorem load_two {σ : aS} {n : Nat} (h : TO (rtF σ n) (jZF σ n)) : (wl (jZF σ n).1 = true ∧ 0 ≤ (rtF σ n).2 ∧ (rtF σ n).2 = (jZF σ n).2 ∧ PP (rtF σ n).1 (jZF σ n).1) ∨ (wl (jZF σ n).1 = false ∧ ¬ 0 ≤ (rtF σ n).2 ∧ (rtF σ n).2 = -2000 - (jZF σ n).1 700 13) := by
  obtain ⟨j, j1, j2⟩ := jZF_it σ n
  generalize rtF σ n = X at h ⊢
  generalize jZF σ n = M at h j2 ⊢
  rcases h with ⟨a1, a2, a3⟩ | ⟨a1, a2, e, e1, e2⟩
  · refine Or.inl ⟨a1, ?_, a2, a3⟩
    rw [a2, j2]
    exact nI_nn (a := j) (by omega)
  · refine Or.inr ⟨a1, ?_, a2⟩
    rw [a2, e2]
    exact neg2000 e (by omega)
