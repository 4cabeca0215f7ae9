/-! states that agree, copies, ink, one print: rows of whole that speak of the press alone -/
def stG (k : Nat) (v : Int32) : Bool := wi v (tlo.getD k 0) (thi.getD k 0)
theorem nI_nn {a : Nat} (h : a < 2 ^ 31) : 0 ≤ nI a := nI_le (a := 0) (Nat.zero_le _) h
theorem wi_nat {v : Int32} {lo hi : Nat} (hl : lo < 2 ^ 31) (hh : hi < 2 ^ 30) (h : wi v (nI lo) (nI hi) = true) : ∃ m : Nat, lo ≤ m ∧ m ≤ hi ∧ v = nI m := by
  have h := of_decide_eq_true h
  rcases pk_ix v (n := hi + 1) (by omega) with q | q | ⟨m, h1, h2⟩
  · exact absurd (Int32.lt_of_lt_of_le q (nI_nn (a := lo) hl)) h.1
  · exact absurd (Int32.lt_of_lt_of_le (nI_lt (a := hi) (b := hi + 1) (by omega) (by omega)) q) h.2
  · refine ⟨m, ?_, by omega, h2⟩
    rcases Nat.lt_or_ge m lo with z | z
    · exact absurd (by rw [h2]; exact nI_lt z hl) h.1
    · exact z
theorem b16 : ∀ c, c < 16 → bt 65535 c = true := by decide +kernel
theorem cpy_at (f g : Nat → Int32) {n k : Nat} (h : k < n) : va_cpy f g 0 0 n k = f k := by
  simp [va_cpy, h]
def vw (σ : aS) (b : Nat) : aS := fun o k => σ (b + o) k
theorem vw_vw (σ : aS) (b c : Nat) : vw (vw σ b) c = vw σ (b + c) := by
  funext o k
  simp only [vw, Nat.add_assoc]
theorem vw_0 (σ : aS) : vw σ 0 = σ := by
  funext o k
  simp only [vw, Nat.zero_add]
def zo (z : Int32) : Prop := z = 0 ∨ z = 1
def BAG (f g : aS) : Prop := (∀ y, y < 12 → g 5 y = f 5 y) ∧ (∀ y, y < 12 → g 6 y = f 6 y) ∧ (∀ y, y < 12 → g 7 y = f 7 y) ∧ (∀ y, y < 12 → g 8 y = f 8 y) ∧ ∀ k, k < 192 → g 9 k = f 9 k
theorem px_cong {f g : aS} {a k : Nat} (h : ∀ y, y < 12 → g a y = f a y) (hk : k < 192) : px g a k = px f a k := by
  unfold px
  rw [h _ (by omega)]
theorem wR_cong {f g : aS} {a : Nat} (h : ∀ y, y < 12 → g a y = f a y) (q : wR f a) : wR g a := by
  intro y hy i hi
  rw [h y hy]
  exact q y hy i hi
def Sset (f : aS) (v : Nat → Int32) : Prop := (∀ k, k < 5 → f 1 k = v (768 + k) ∧ stG k (v (768 + k)) = true) ∧ (f 0 3 = v 773 ∧ wi (v 773) (-4) 4 = true) ∧ f 0 4 = v 774 ∧ wi (v 774) (-4) 4 = true
def SAG (f g : aS) : Prop := BAG (vw f 10) (vw g 10) ∧ BAG (vw f 20) (vw g 20) ∧ BAG (vw f 30) (vw g 30) ∧ (∀ k, k < 5 → g 1 k = f 1 k) ∧ (g 2 1 = f 2 1 ∧ g 2 2 = f 2 2) ∧ (∀ k, k < 72 → g 3 k = f 3 k) ∧ (g 0 3 = f 0 3 ∧ g 0 4 = f 0 4 ∧ g 0 5 = f 0 5) ∧ g 0 8 = f 0 8 ∧ g 0 9 = f 0 9
theorem Sset_cong {f g : aS} {v u : Nat → Int32} (h : Sset f v) (e1 : ∀ k, k < 5 → g 1 k = f 1 k) (e3 : g 0 3 = f 0 3) (e4 : g 0 4 = f 0 4) (ev : ∀ k, 768 ≤ k → k < 775 → u k = v k) : Sset g u := by
  obtain ⟨h1, h2, h3⟩ := h
  refine ⟨fun k hk => ?_, ?_, ?_⟩
  · rw [e1 k hk, ev _ (by omega) (by omega)]
    exact h1 k hk
  · rw [e3, ev 773 (by decide) (by decide)]
    exact h2
  · rw [e4, ev 774 (by decide) (by decide)]
    exact h3
theorem BAG_eq {f g : aS} (h : ∀ o, 5 ≤ o → o < 10 → g o = f o) : BAG f g :=
  ⟨fun y _ => by rw [h 5 (by decide) (by decide)], fun y _ => by rw [h 6 (by decide) (by decide)], fun y _ => by rw [h 7 (by decide) (by decide)], fun y _ => by rw [h 8 (by decide) (by decide)], fun k _ => by rw [h 9 (by decide) (by decide)]⟩
theorem BAG_t {f g h : aS} (a : BAG f g) (b : BAG g h) : BAG f h :=
  ⟨fun y q => (b.1 y q).trans (a.1 y q), fun y q => (b.2.1 y q).trans (a.2.1 y q), fun y q => (b.2.2.1 y q).trans (a.2.2.1 y q), fun y q => (b.2.2.2.1 y q).trans (a.2.2.2.1 y q), fun y q => (b.2.2.2.2 y q).trans (a.2.2.2.2 y q)⟩
theorem vw_eq {σ τ : aS} {b c o : Nat} (h : σ (b + o) = τ (c + o)) : vw σ b o = vw τ c o := funext fun k => congrFun h k
theorem SAG_eq {σ τ : aS} {b c : Nat} (h : ∀ o, o < 40 → τ (c + o) = σ (b + o)) : SAG (vw σ b) (vw τ c) := by
  have e : ∀ o, o < 40 → vw τ c o = vw σ b o := fun o ho => vw_eq (h o ho)
  have eB : ∀ q, q + 10 ≤ 40 → BAG (vw (vw σ b) q) (vw (vw τ c) q) := by
    intro q hq
    refine BAG_eq (fun o h5 h10 => ?_)
    rw [vw_vw, vw_vw]
    refine vw_eq ?_
    rw [Nat.add_assoc, Nat.add_assoc]
    exact h _ (by omega)
  refine ⟨eB 10 (by decide), eB 20 (by decide), eB 30 (by decide), fun k _ => by rw [e 1 (by decide)], ⟨by rw [e 2 (by decide)], by rw [e 2 (by decide)]⟩, fun k _ => by rw [e 3 (by decide)], ⟨by rw [e 0 (by decide)], by rw [e 0 (by decide)], by rw [e 0 (by decide)]⟩, by rw [e 0 (by decide)], by rw [e 0 (by decide)]⟩
theorem SAG_t {f g h : aS} (a : SAG f g) (b : SAG g h) : SAG f h := by
  obtain ⟨a1, a2, a3, a4, a5, a6, a7, a8, a9⟩ := a
  obtain ⟨b1, b2, b3, b4, b5, b6, b7, b8, b9⟩ := b
  exact ⟨BAG_t a1 b1, BAG_t a2 b2, BAG_t a3 b3, fun k q => (b4 k q).trans (a4 k q), ⟨b5.1.trans a5.1, b5.2.trans a5.2⟩, fun k q => (b6 k q).trans (a6 k q), ⟨b7.1.trans a7.1, b7.2.1.trans a7.2.1, b7.2.2.trans a7.2.2⟩, b8.trans a8, b9.trans a9⟩
theorem bL_at {σ : aS} {a b y : Nat} (hy : y < 12) : bL σ a b a y = σ b y := by
  unfold bL
  rw [sP_same]
  exact cpy_at _ _ hy
theorem bB_cp {σ : aS} {a b : Nat} (h : a + 10 ≤ b ∨ b + 10 ≤ a) : BAG (vw σ b) (vw (bB σ a b) a) := by
  refine ⟨fun y hy => ?_, fun y hy => ?_, fun y hy => ?_, fun y hy => ?_, fun k hk => ?_⟩
  · show bB σ a b (a + 1 + 4) y = σ (b + 1 + 4) y
    unfold bB
    rw [sP_ne (by omega), bL_ne (by omega), bL_ne (by omega), bL_ne (by omega), bL_at hy]
  · show bB σ a b (a + 2 + 4) y = σ (b + 2 + 4) y
    unfold bB
    rw [sP_ne (by omega), bL_ne (by omega), bL_ne (by omega), bL_at hy, bL_ne (by omega)]
  · show bB σ a b (a + 3 + 4) y = σ (b + 3 + 4) y
    unfold bB
    rw [sP_ne (by omega), bL_ne (by omega), bL_at hy, bL_ne (by omega), bL_ne (by omega)]
  · show bB σ a b (a + 4 + 4) y = σ (b + 4 + 4) y
    unfold bB
    rw [sP_ne (by omega), bL_at hy, bL_ne (by omega), bL_ne (by omega), bL_ne (by omega)]
  · show bB σ a b (a + 9) k = σ (b + 9) k
    unfold bB
    rw [sP_same, cpy_at _ _ hk, bL_ne (by omega), bL_ne (by omega), bL_ne (by omega), bL_ne (by omega)]
theorem lB_cp {σ : aS} {a b : Nat} (h : a + 2 ≤ b ∨ b + 2 ≤ a) : (lB σ a b a 1 = σ b 1 ∧ lB σ a b a 2 = σ b 2) ∧ ∀ k, k < 72 → lB σ a b (a + 1) k = σ (b + 1) k := by
  refine ⟨⟨?_, ?_⟩, fun k hk => ?_⟩
  · unfold lB
    rw [sP_same, pk_un (by decide), sP_same, pk_us, sP_ne (by omega)]
  · unfold lB
    rw [sP_same, pk_us, sP_ne (by omega), sP_ne (by omega)]
  · unfold lB
    rw [sP_ne (by omega), sP_ne (by omega), sP_same]
    exact cpy_at _ _ hk
theorem sB1_ne {σ : aS} {a b o : Nat} (h : o < a + 1 ∨ (a + 4 ≤ o ∧ o < a + 10) ∨ a + 20 ≤ o) : sB1 σ a b o = σ o := by
  unfold sB1
  rw [lB_ne (by omega), sP_ne (by omega), bB_ne (by omega)]
theorem sB2_ne {σ : aS} {a b o : Nat} (h : o ≠ a) : sB2 σ a b o = σ o := by
  unfold sB2
  rw [sP_ne h, sP_ne h, sP_ne h]
theorem sB3_ne {σ : aS} {a b o : Nat} (h : o < a + 20 ∨ a + 40 ≤ o) : sB3 σ a b o = σ o := by
  unfold sB3
  rw [bB_ne (by omega), bB_ne (by omega)]
theorem sB4_ne {σ : aS} {a b o : Nat} (h : o ≠ a) : sB4 σ a b o = σ o := by
  unfold sB4
  rw [sP_ne h, sP_ne h]
theorem sB_12 {σ : aS} {a b o : Nat} (h : o ≠ a) (h2 : o < a + 20 ∨ a + 40 ≤ o) : sB σ a b o = sB1 σ a b o := by
  unfold sB
  rw [sB4_ne h, sB3_ne h2, sB2_ne h]
theorem sB_out {σ : aS} {a b o : Nat} (h : o < a ∨ a + 40 ≤ o) : sB3 (sB2 (sB1 σ a b) a b) a b o = σ o := by
  rw [sB3_ne (by omega), sB2_ne (by omega), sB1_ne (by omega)]
theorem sB_cp {σ : aS} {a b : Nat} (h : a + 40 ≤ b ∨ b + 40 ≤ a) : SAG (vw σ b) (vw (sB σ a b) a) := by
  refine ⟨?_, ?_, ?_, fun k hk => ?_, ⟨?_, ?_⟩, fun k hk => ?_, ⟨?_, ?_, ?_⟩, ?_, ?_⟩
  · rw [vw_vw, vw_vw]
    refine BAG_t (bB_cp (σ := σ) (a := a + 10) (b := b + 10) (by omega)) (BAG_eq (fun o h5 h10 => vw_eq ?_))
    rw [sB_12 (by omega) (by omega)]
    unfold sB1
    rw [lB_ne (by omega), sP_ne (by omega)]
  · rw [vw_vw, vw_vw]
    refine BAG_t ?_ (BAG_t (bB_cp (σ := sB2 (sB1 σ a b) a b) (a := a + 20) (b := b + 20) (by omega)) (BAG_eq (fun o h5 h10 => vw_eq ?_)))
    · refine BAG_eq (fun o h5 h10 => vw_eq ?_)
      rw [sB2_ne (by omega), sB1_ne (by omega)]
    · unfold sB
      rw [sB4_ne (by omega)]
      unfold sB3
      rw [bB_ne (by omega)]
  · rw [vw_vw, vw_vw]
    refine BAG_t ?_ (BAG_t (bB_cp (σ := bB (sB2 (sB1 σ a b) a b) (a + 20) (b + 20)) (a := a + 30) (b := b + 30) (by omega)) (BAG_eq (fun o h5 h10 => vw_eq ?_)))
    · refine BAG_eq (fun o h5 h10 => vw_eq ?_)
      rw [bB_ne (by omega), sB2_ne (by omega), sB1_ne (by omega)]
    · unfold sB
      rw [sB4_ne (by omega)]
      rfl
  · show sB σ a b (a + 1) k = σ (b + 1) k
    rw [sB_12 (by omega) (by omega)]
    unfold sB1
    rw [lB_ne (by omega), sP_same, cpy_at _ _ hk, bB_ne (by omega)]
  · show sB σ a b (a + 2) 1 = σ (b + 2) 1
    rw [sB_12 (by omega) (by omega)]
    unfold sB1
    rw [(lB_cp (by omega)).1.1, sP_ne (by omega), bB_ne (by omega)]
  · show sB σ a b (a + 2) 2 = σ (b + 2) 2
    rw [sB_12 (by omega) (by omega)]
    unfold sB1
    rw [(lB_cp (by omega)).1.2, sP_ne (by omega), bB_ne (by omega)]
  · show sB σ a b (a + 2 + 1) k = σ (b + 2 + 1) k
    rw [sB_12 (by omega) (by omega)]
    unfold sB1
    rw [(lB_cp (by omega)).2 k hk, sP_ne (by omega), bB_ne (by omega)]
  · show sB σ a b a 3 = σ b 3
    unfold sB sB4
    rw [sP_same, pk_un (by decide), sP_same, pk_un (by decide), sB3_ne (by omega)]
    unfold sB2
    rw [sP_same, pk_un (by decide), sP_same, pk_un (by decide), sP_same, pk_us, sB1_ne (by omega)]
  · show sB σ a b a 4 = σ b 4
    unfold sB sB4
    rw [sP_same, pk_un (by decide), sP_same, pk_un (by decide), sB3_ne (by omega)]
    unfold sB2
    rw [sP_same, pk_un (by decide), sP_same, pk_us, sP_ne (by omega), sB1_ne (by omega)]
  · show sB σ a b a 5 = σ b 5
    unfold sB sB4
    rw [sP_same, pk_un (by decide), sP_same, pk_un (by decide), sB3_ne (by omega)]
    unfold sB2
    rw [sP_same, pk_us, sP_ne (by omega), sP_ne (by omega), sB1_ne (by omega)]
  · show sB σ a b a 8 = σ b 8
    unfold sB sB4
    rw [sP_same, pk_un (by decide), sP_same, pk_us, sB_out (by omega)]
  · show sB σ a b a 9 = σ b 9
    unfold sB sB4
    rw [sP_same, pk_us, sP_ne (by omega), sB_out (by omega)]
theorem kp_cp {σ : aS} {nx : Nat} (h : nx < 5) : SAG (vw σ 0) (vw (kp σ nx) (100 * (nx + 1))) := by
  have e : SAG (vw σ 0) (vw (sB σ (100 * (nx + 1)) 0) (100 * (nx + 1))) := sB_cp (by omega)
  have e2 : SAG (vw (sB σ (100 * (nx + 1)) 0) (100 * (nx + 1))) (vw (kp σ nx) (100 * (nx + 1))) := by
    refine SAG_eq (fun o ho => ?_)
    unfold kp
    rw [sP_ne (by omega), sP_ne (by omega)]
  exact SAG_t e e2
theorem gB_cp {σ : aS} {nx : Nat} (h : nx < 5) : SAG (vw σ (100 * ((nx + 4) % 5 + 1))) (vw (gB_ σ nx) 0) := by
  unfold gB_
  have e := sB_cp (σ := sP (sP σ 601 (upd (σ 601) 2 (nI ((nx + 4) % 5)))) 601 (upd (sP σ 601 (upd (σ 601) 2 (nI ((nx + 4) % 5))) 601) 1 (if σ 601 1 - 1 < 0 then 0 else σ 601 1 - 1))) (a := 0) (b := 100 * ((nx + 4) % 5 + 1)) (by omega)
  have e2 : SAG (vw σ (100 * ((nx + 4) % 5 + 1))) (vw (sP (sP σ 601 (upd (σ 601) 2 (nI ((nx + 4) % 5)))) 601 (upd (sP σ 601 (upd (σ 601) 2 (nI ((nx + 4) % 5))) 601) 1 (if σ 601 1 - 1 < 0 then 0 else σ 601 1 - 1))) (100 * ((nx + 4) % 5 + 1))) := by
    refine SAG_eq (fun o ho => ?_)
    rw [sP_ne (by omega), sP_ne (by omega)]
  exact SAG_t e2 e

theorem kp_2 (σ : aS) (nx : Nat) : kp σ nx 601 2 = nI ((nx + 1) % 5) := by
  unfold kp
  rw [sP_same, pk_un (by decide), sP_same, pk_us]
theorem kp_1 (σ : aS) (nx : Nat) : kp σ nx 601 1 = if 5 < σ 601 1 + 1 then 5 else σ 601 1 + 1 := by
  unfold kp
  rw [sP_same, pk_us]
theorem sz_up : ∀ z, z ≤ 5 → (if (5 : Int32) < nI z + 1 then 5 else nI z + 1) = nI (min (z + 1) 5) := by decide +kernel
theorem sz_dn : ∀ z, z < 5 → (if nI (z + 1) - 1 < 0 then 0 else nI (z + 1) - 1) = nI z := by decide +kernel
theorem hs_f {s : aS} {a : Nat} {x y : Int32} (h : pl x y = false) : hs s a x y = false := by
  unfold hs
  rw [h]
  rfl
theorem bool_dec {b : Bool} {P : Prop} [Decidable P] (h : b = true ↔ P) : b = decide P := by
  cases b with
  | true => exact (decide_eq_true (h.mp rfl)).symm
  | false => exact (decide_eq_false (fun q => Bool.noConfusion (h.mpr q))).symm
theorem ct_cong {p q : Nat → Bool} (h : ∀ k, k < 192 → p k = q k) : ct p = ct q := fb_ct_cong h
theorem wo_bt (s : aS) (b : Nat) (h : Int32) (y : Nat) {i : Nat} (hi : i < 32) : ∀ x, x ≤ 16 → bt (wo s b h y x) i = (decide (i < x) && decide (¬ s (b + 9) (16 * y + i) ≤ h))
  | 0, _ => by
    show bt 0 i = _
    rw [b_0, decide_eq_false (Nat.not_lt_zero i), Bool.false_and]
  | x + 1, hx => by
    have hon : on (if s (b + 9) (16 * y + x) ≤ h then 0 else 1) = b2 (decide (¬ s (b + 9) (16 * y + x) ≤ h)) := by
      by_cases c : s (b + 9) (16 * y + x) ≤ h
      · rw [if_pos c, decide_eq_false (fun q => q c)]
        rfl
      · rw [if_neg c, decide_eq_true c]
        rfl
    show bt (wo s b h y x ||| (on (if s (b + 9) (16 * y + x) ≤ h then 0 else 1) <<< (nI x &&& 31))) i = _
    rw [b_or, wo_bt s b h y hi x (by omega), hon, b_shl x (by omega) _ hi, bt_b2]
    by_cases c : i = x
    · subst c
      rw [decide_eq_false (Nat.lt_irrefl i), Bool.false_and, Bool.false_or, decide_eq_true (Nat.le_refl i), Bool.true_and, Nat.sub_self, decide_eq_true (rfl : (0 : Nat) = 0), Bool.and_true, decide_eq_true (Nat.lt_succ_self i), Bool.true_and]
    · rcases Nat.lt_or_ge i x with q | q
      · rw [decide_eq_false (show ¬ x ≤ i by omega), Bool.false_and, Bool.or_false, decide_eq_true q, decide_eq_true (show i < x + 1 by omega)]
      · rw [decide_eq_false (show ¬ i < x by omega), decide_eq_false (show ¬ i - x = 0 by omega), decide_eq_false (show ¬ i < x + 1 by omega), Bool.and_false, Bool.and_false, Bool.false_and, Bool.or_false]
theorem iK_px (s : aS) {k : Nat} (hk : k < 192) : px (iK s) 611 k = (px s 17 k && decide (s 19 k ≤ s 1 3)) := by
  have hy : k / 16 < 12 := by omega
  have hi : k % 16 < 16 := by omega
  unfold px iK fI
  rw [show (607 + 4 : Nat) = 611 from rfl, sP_same, fa_fill_in hy]
  unfold ik
  rw [b_and, b_and, bt_not _ (by omega), wo_bt s 10 _ _ (by omega) 16 (by omega), b16 _ hi, Bool.and_true, decide_eq_true hi, Bool.true_and]
  show (bt (s 17 (k / 16)) (k % 16) && !decide (¬ s 19 (16 * (k / 16) + k % 16) ≤ s 1 3)) = _
  rw [show 16 * (k / 16) + k % 16 = k by omega]
  by_cases c : s 19 k ≤ s 1 3
  · rw [decide_eq_false (fun q => q c), decide_eq_true c]
    rfl
  · rw [decide_eq_true c, decide_eq_false c]
    rfl
theorem px_iK (s : aS) {a : Nat} (h : a ≠ 611) (k : Nat) : px (iK s) a k = px s a k := by
  unfold px
  rw [iK_ne h]
theorem b2_zo (b : Bool) : zo (b2 b) := by
  cases b
  · exact Or.inl rfl
  · exact Or.inr rfl
theorem nI_m (x : Nat) : nI (x + 1) - 1 = nI x := nI_pred x
theorem cl_eq {v : Int32} {n : Nat} (h : v = nI n) (hn : n < 2 ^ 31) : v.toNatClampNeg = n := by rw [h, cl_nI hn]
theorem sum_le (p q : Nat → Bool) : nI (ct p) + nI (ct q) ≤ 384 := by
  have h1 := ct_le p
  have h2 := ct_le q
  rw [nI_add]
  exact nI_le (b := 384) (by omega) (by decide)
theorem anyB_iff {p : Nat → Bool} {n : Nat} : anyB p n = true ↔ ∃ k, k < n ∧ p k = true := by
  refine ⟨fun h => ?_, fun ⟨k, h1, h2⟩ => anyB_yes h1 h2⟩
  cases q : anyB (fun k => p k) n with
  | false => rw [show anyB p n = false from q] at h; cases h
  | true =>
    refine Classical.byContradiction (fun z => ?_)
    have : anyB p n = anyB (fun _ => false) n := anyB_cong (fun k hk => by
      cases c : p k with
      | false => rfl
      | true => exact absurd ⟨k, hk, c⟩ z)
    rw [h] at this
    have f : ∀ m, anyB (fun _ => false) m = false := fun m => by
      induction m with
      | zero => rfl
      | succ m ih => show (anyB (fun _ => false) m || false) = false; rw [ih]; rfl
    rw [f n] at this
    cases this
theorem toI_nat {a : Int32} {N : Nat} (hN : N < 2 ^ 30) (h : ¬ (a.toInt < 0 ∨ (N : Int) < a.toInt)) : ∃ m : Nat, m ≤ N ∧ a = nI m := by
  refine ⟨a.toInt.toNat, by omega, ?_⟩
  rw [fa_eq, nI_toInt (by omega)]
  omega
theorem wi4 {v : Int32} (h : wi v (-4) 4 = true) : ∃ i : Nat, i ≤ 8 ∧ v = nI i - 4 := by
  have h := of_decide_eq_true h
  obtain ⟨h1, h2⟩ := h
  rw [fa_lt, show (-4 : Int32).toInt = -4 by decide] at h1
  rw [fa_lt, show (4 : Int32).toInt = 4 by decide] at h2
  refine ⟨(v.toInt + 4).toNat, by omega, ?_⟩
  rw [fa_eq, show (4 : Int32) = nI 4 from rfl, pk_sub_toInt (by omega) (by decide)]
  omega
theorem dri : ∀ m, m ≤ 100 → ∀ i, i ≤ 8 → wi ((nI m - 50) * (nI i - 4) / 50) (-4) 4 = true := by decide +kernel
theorem add44 : ∀ i, i ≤ 8 → ∀ j, j ≤ 8 → ¬ (nI i - 4 + (nI j - 4) < -8) ∧ ¬ (8 : Int32) < nI i - 4 + (nI j - 4) := by decide +kernel
theorem sx_in {p d s : Int32} (hp : wi p (-4) 4 = true) (hd : stG 0 d = true) (hs : wi s (-4) 4 = true) : sxk (p + (d - 50) * s / 50) := by
  obtain ⟨m, _, hm, rfl⟩ := wi_nat (lo := 0) (hi := 100) (by decide) (by decide) hd
  obtain ⟨i, hi, rfl⟩ := wi4 hs
  obtain ⟨j, hj, e⟩ := wi4 (dri m hm i hi)
  rw [e]
  obtain ⟨k, hk, rfl⟩ := wi4 hp
  exact add44 k hk j hj
theorem dX_of {s : aS} {v : Nat → Int32} (h : Sset s v) : dX s 0 = (v 768 - 50) * v 769 / 50 ∧ dY s 0 = (v 768 - 50) * v 770 / 50 := by
  unfold dX dY
  rw [show s (0 + 1) 0 = v 768 from (h.1 0 (by decide)).1, show s (0 + 1) 1 = v 769 from (h.1 1 (by decide)).1, show s (0 + 1) 2 = v 770 from (h.1 2 (by decide)).1]
  exact ⟨rfl, rfl⟩
theorem sx_pin {s : aS} {v : Nat → Int32} (h : Sset s v) {p : Int32} (hp : wi p (-4) 4 = true) : sxk (p + dX s 0) := by
  rw [(dX_of h).1]
  exact sx_in hp (h.1 0 (by decide)).2 (h.1 1 (by decide)).2
theorem Sset_iK {s : aS} {v : Nat → Int32} (h : Sset s v) : Sset (iK s) v := Sset_cong h (fun _ _ => by rw [iK_ne (by decide)]) (by rw [iK_ne (by decide)]) (by rw [iK_ne (by decide)]) (fun _ _ _ => rfl)
theorem kp_hi {σ : aS} {nx o : Nat} (h : nx < 5) (ho : 602 ≤ o) : kp σ nx o = σ o := kp_ne (by omega) (by omega)
theorem bt_one {x i : Nat} (hx : x < 16) (hi : i < 32) : bt ((1 : Int32) <<< (nI x &&& 31)) i = decide (i = x) := by
  rw [b_shl x (by omega) _ hi, bt_1]
  by_cases c : i = x
  · subst c
    rw [decide_eq_true (Nat.le_refl i), decide_eq_true (Nat.sub_self i), decide_eq_true rfl]
    rfl
  · rw [decide_eq_false c]
    by_cases q : x ≤ i
    · rw [decide_eq_false (show ¬ i - x = 0 by omega), Bool.and_false]
    · rw [decide_eq_false q, Bool.false_and]
theorem bt_pv {r z : Int32} {x i : Nat} (hx : x < 16) (hi : i < 32) : bt (pv r (nI x) z) i = if i = x then decide (¬ z = 0) else bt r i := by
  unfold pv
  by_cases c : z = 0
  · rw [if_pos c, b_and, bt_not _ hi, bt_one hx hi]
    by_cases q : i = x
    · rw [if_pos q, decide_eq_true q, (decide_eq_false (fun z => z c) : decide (¬ z = 0) = false)]
      exact Bool.and_false _
    · rw [if_neg q, decide_eq_false q]
      exact Bool.and_true _
  · rw [if_neg c, b_or, bt_one hx hi]
    by_cases q : i = x
    · rw [if_pos q, decide_eq_true q, decide_eq_true c]
      exact Bool.or_true _
    · rw [if_neg q, decide_eq_false q]
      exact Bool.or_false _
theorem pt_at {s : aS} {a x y : Nat} (hx : x < 16) (hy : y < 12) (z : Int32) : pt s a (nI x) (nI y) z = sP s a (upd (s a) y (pv (s a y) (nI x) z)) := by
  unfold pt
  rw [if_pos (pl_nI hx hy), cl_nI (by omega)]
theorem pt_ne {s : aS} {a o : Nat} {x y z : Int32} (h : o ≠ a) : pt s a x y z o = s o := by
  unfold pt
  split
  · exact sP_ne h
  · rfl
theorem pt_px {s : aS} {a x y k : Nat} (hx : x < 16) (hy : y < 12) (z : Int32) : px (pt s a (nI x) (nI y) z) a k = if k = 16 * y + x then decide (¬ z = 0) else px s a k := by
  rw [pt_at hx hy]
  unfold px
  rw [sP_same]
  by_cases c : k / 16 = y
  · rw [c, pk_us, bt_pv hx (by omega)]
    by_cases q : k % 16 = x
    · rw [if_pos q, if_pos (by omega)]
    · rw [if_neg q, if_neg (by omega)]
  · rw [pk_un c, if_neg (by omega)]
theorem pt_wR {s : aS} {a x y : Nat} (hx : x < 16) (hy : y < 12) (z : Int32) (h : wR s a) : wR (pt s a (nI x) (nI y) z) a := by
  intro r hr i hi
  rw [pt_at hx hy, sP_same]
  by_cases c : r = y
  · subst c
    rw [pk_us]
    rcases Nat.lt_or_ge i 32 with q | q
    · rw [bt_pv hx q, if_neg (by omega)]
      exact h r hr i hi
    · exact b_big q
  · rw [pk_un c]
    exact h r hr i hi
theorem px_pt {s : aS} {a b : Nat} {x y z : Int32} (h : a ≠ b) (k : Nat) : px (pt s b x y z) a k = px s a k := by
  unfold px
  rw [pt_ne h]
theorem if10 (c : Prop) [Decidable c] : decide (¬ (if c then (1 : Int32) else 0) = 0) = decide c := by
  by_cases h : c
  · rw [if_pos h, decide_eq_true h]
    rfl
  · rw [if_neg h, decide_eq_false h]
    rfl
theorem pv_of {x y w h k : Int32} (q : pvP x y w h k = true) : ∃ x0 y0 wd ht : Nat, (x = nI x0 ∧ y = nI y0 ∧ w = nI wd ∧ h = nI ht) ∧ x0 < 16 ∧ y0 < 12 ∧ 1 ≤ wd ∧ x0 + wd ≤ 16 ∧ 1 ≤ ht ∧ y0 + ht ≤ 12 ∧ wi k 0 2 = true := by
  unfold pvP at q
  rw [Bool.and_eq_true, Bool.and_eq_true, Bool.and_eq_true] at q
  obtain ⟨q1, q2, q3, q4⟩ := q
  obtain ⟨i, j, hi, hj, rfl, rfl⟩ := pl_in q1
  rw [show (16 : Int32) - nI i = nI (16 - i) from pk_sub (a := 16) (by omega)] at q2
  rw [show (12 : Int32) - nI j = nI (12 - j) from pk_sub (a := 12) (by omega)] at q3
  obtain ⟨a, a1, a2, rfl⟩ := wi_nat (lo := 1) (by decide) (by omega) q2
  obtain ⟨b, b1, b2, rfl⟩ := wi_nat (lo := 1) (by decide) (by omega) q3
  exact ⟨i, j, a, b, ⟨rfl, rfl, rfl, rfl⟩, hi, hj, a1, by omega, b1, by omega, q4⟩
theorem wi01 {z : Int32} (h : wi z 0 1 = true) : zo z := by
  obtain ⟨m, _, hm, rfl⟩ := wi_nat (lo := 0) (hi := 1) (by decide) (by decide) h
  match m, hm with
  | 0, _ => exact Or.inl rfl
  | 1, _ => exact Or.inr rfl
theorem cW_at {s : aS} {b x y : Nat} (hx : x < 16) (hy : y < 12) : cW s b (nI x) (nI y) = sP s (b + 9) (upd (s (b + 9)) (16 * y + x) 0) := by
  unfold cW
  rw [if_pos (pl_nI hx hy), ixN, cl_nI (by omega)]
theorem zo_keep {z : Int32} {P : Prop} [Decidable P] (h : zo z) (hp : P) : (if z = 0 ∧ P then (0 : Int32) else 1) = z := by
  rcases h with rfl | rfl
  · rw [if_pos ⟨rfl, hp⟩]
  · rw [if_neg (fun q => absurd q.1 (by decide))]
theorem tS_0 (s : aS) : (∀ o, o ≠ 0 → tS s 0 0 o = bB s 20 10 o) ∧ tS s 0 0 0 8 = 1 ∧ tS s 0 0 0 9 = (if s 0 9 = 0 ∧ ¬ (0 : Int32) = 1 then 0 else 1) ∧ ∀ k, k ≠ 8 → k ≠ 9 → tS s 0 0 0 k = s 0 k := by
  have e : bB s 20 10 0 = s 0 := bB_ne (by omega)
  have e2 : bB s (sb 0 0) (0 + 10) 0 = s 0 := e
  refine ⟨fun o h => ?_, ?_, ?_, fun k a b => ?_⟩
  · show sP (sP (bB s 20 10) 0 _) 0 _ o = _
    rw [sP_ne h, sP_ne h]
  · show sP (sP (bB s 20 10) 0 (upd (bB s 20 10 0) 8 (if bB s 20 10 0 8 = 0 ∧ ¬ (0 : Int32) = 0 then 0 else 1))) 0 _ 0 8 = 1
    rw [sP_same, pk_un (by decide), sP_same, pk_us, if_neg (fun q => q.2 rfl)]
  · show sP (sP (bB s 20 10) 0 (upd (bB s 20 10 0) 8 (if bB s 20 10 0 8 = 0 ∧ ¬ (0 : Int32) = 0 then 0 else 1))) 0 _ 0 9 = _
    rw [sP_same, pk_us, sP_same, pk_un (by decide), e2]
  · show sP (sP (bB s 20 10) 0 (upd (bB s 20 10 0) 8 (if bB s 20 10 0 8 = 0 ∧ ¬ (0 : Int32) = 0 then 0 else 1))) 0 _ 0 k = _
    rw [sP_same, pk_un b, sP_same, pk_un a, e2]
theorem tS_1 (s : aS) : (∀ o, o ≠ 0 → tS s 0 1 o = bB s 30 10 o) ∧ tS s 0 1 0 9 = 1 ∧ tS s 0 1 0 8 = (if s 0 8 = 0 ∧ ¬ (1 : Int32) = 0 then 0 else 1) ∧ ∀ k, k ≠ 8 → k ≠ 9 → tS s 0 1 0 k = s 0 k := by
  have e : bB s 30 10 0 = s 0 := bB_ne (by omega)
  have e2 : bB s (sb 0 1) (0 + 10) 0 = s 0 := e
  refine ⟨fun o h => ?_, ?_, ?_, fun k a b => ?_⟩
  · show sP (sP (bB s 30 10) 0 _) 0 _ o = _
    rw [sP_ne h, sP_ne h]
  · show sP (sP (bB s 30 10) 0 (upd (bB s 30 10 0) 8 (if bB s 30 10 0 8 = 0 ∧ ¬ (1 : Int32) = 0 then 0 else 1))) 0 (upd (sP (bB s 30 10) 0 (upd (bB s 30 10 0) 8 (if bB s 30 10 0 8 = 0 ∧ ¬ (1 : Int32) = 0 then 0 else 1)) 0) 9 (if sP (bB s 30 10) 0 (upd (bB s 30 10 0) 8 (if bB s 30 10 0 8 = 0 ∧ ¬ (1 : Int32) = 0 then 0 else 1)) 0 9 = 0 ∧ ¬ (1 : Int32) = 1 then 0 else 1)) 0 9 = 1
    rw [sP_same, pk_us]
    exact if_neg (fun q => q.2 rfl)
  · show sP (sP (bB s 30 10) 0 (upd (bB s 30 10 0) 8 (if bB s 30 10 0 8 = 0 ∧ ¬ (1 : Int32) = 0 then 0 else 1))) 0 _ 0 8 = _
    rw [sP_same, pk_un (by decide), sP_same, pk_us, e2]
  · show sP (sP (bB s 30 10) 0 (upd (bB s 30 10 0) 8 (if bB s 30 10 0 8 = 0 ∧ ¬ (1 : Int32) = 0 then 0 else 1))) 0 _ 0 k = _
    rw [sP_same, pk_un b, sP_same, pk_un a, e2]
theorem mP2_iK {x : aS} {la o : Nat} (h : o ≠ 0) (h2 : o ≠ 2) (h3 : o ≠ 3) : mP2 x la o = iK x o := by
  unfold mP2
  rw [aP_ne h2 h3]
  unfold mP1
  rw [sP_ne h]
theorem mP3_iK {x : aS} {la o : Nat} (h : o ≠ 0) (h2 : o ≠ 2) (h3 : o ≠ 3) : mP3 x la o = iK x o := by
  unfold mP3
  rw [aF_ne h3, mP2_iK h h2 h3]
theorem mP_3o {x : aS} {la o : Nat} (h : o ≠ 1) (h2 : o ≠ 19) : mP x la o = mP3 x la o := by
  unfold mP dr wDn
  rw [sP_ne h, sP_ne h2]
theorem mP_0 (x : aS) (la : Nat) : mP x la 0 = upd (x 0) 5 (x 0 5 + 1) := by
  rw [mP_3o (by decide) (by decide)]
  unfold mP3
  rw [aF_ne (by decide)]
  unfold mP2
  rw [aP_ne (by decide) (by decide)]
  unfold mP1
  rw [sP_same, iK_ne (by decide)]
theorem mP_1 (x : aS) (la : Nat) : mP x la 1 = upd (x 1) 0 (if 0 < x 1 0 - x 1 4 then x 1 0 - x 1 4 else 0) := by
  have e : wDn (mP3 x la) 10 607 1 = x 1 := by
    unfold wDn
    rw [sP_ne (by decide), mP3_iK (by decide) (by decide) (by decide), iK_ne (by decide)]
  unfold mP dr
  rw [show (0 + 1 : Nat) = 1 from rfl, sP_same, e]
theorem mP_2 (x : aS) (la : Nat) : mP x la 2 1 = (if 12 < x 2 1 + 1 then 12 else x 2 1 + 1) ∧ mP x la 2 2 = nI ((la + 1) % 12) := by
  have e1 : mP1 x 2 = x 2 := by
    unfold mP1
    rw [sP_ne (by decide), iK_ne (by decide)]
  rw [mP_3o (by decide) (by decide)]
  unfold mP3
  rw [aF_ne (by decide)]
  refine ⟨?_, ?_⟩
  · unfold mP2 aP
    rw [sP_ne (by decide), sP_ne (by decide), sP_ne (by decide), sP_same, pk_us, e1]
  · unfold mP2
    exact aP_2 _ _ _ _ _
theorem mP_19 (x : aS) (la : Nat) {k : Nat} (hk : k < 192) : mP x la 19 k = if px (iK x) 611 k = true then x 19 k + eO (mP3 x la) 607 k else x 19 k := by
  have e9 : mP3 x la (10 + 9) = x 19 := by
    rw [mP3_iK (by decide) (by decide) (by decide), iK_ne (by decide)]
  have e6 : px (mP3 x la) (607 + 4) k = px (iK x) 611 k := by
    unfold px
    rw [mP3_iK (by decide) (by decide) (by decide)]
  have e : mP x la 19 = fa_fill (wd (mP3 x la) 10 607) (mP3 x la (10 + 9)) 192 := by
    unfold mP dr
    rw [sP_ne (by decide)]
    unfold wDn
    exact sP_same _ _ _
  rw [e, fa_fill_in hk]
  unfold wd eO
  rw [e6, e9]
theorem mP_3 (x : aS) (la : Nat) : mP x la 3 = upd (upd (upd (upd (upd (upd (x 3) ((la + 1) % 12 * 6) (x 0 5 + 1)) ((la + 1) % 12 * 6 + 1) (mPx x + 8)) ((la + 1) % 12 * 6 + 2) (mPy x + 8)) ((la + 1) % 12 * 6 + 3) (mPg x)) ((la + 1) % 12 * 6 + 4) (nI (ct (gS (mP2 x la) 10 14 (mPx x) (mPy x))))) ((la + 1) % 12 * 6 + 5) (nI (ct (gLo (mP2 x la) 10 607))) := by
  have e1 : mP1 x 3 = x 3 := by
    unfold mP1
    rw [sP_ne (by decide), iK_ne (by decide)]
  have e0 : mP1 x 0 5 = x 0 5 + 1 := by
    unfold mP1
    rw [sP_same, pk_us, iK_ne (by decide)]
  have e2 : mP2 x la 3 = upd (upd (upd (x 3) ((la + 1) % 12 * 6) (x 0 5 + 1)) ((la + 1) % 12 * 6 + 1) (mPx x + 8)) ((la + 1) % 12 * 6 + 2) (mPy x + 8) := by
    unfold mP2 aP
    rw [show (2 + 1 : Nat) = 3 from rfl, sP_same, sP_same, sP_same, sP_ne (by decide), sP_ne (by decide), e1, e0]
  rw [mP_3o (by decide) (by decide)]
  unfold mP3
  generalize nI (ct (gS (mP2 x la) 10 14 (mPx x) (mPy x))) = S
  generalize nI (ct (gLo (mP2 x la) 10 607)) = L
  unfold aF
  rw [show (2 + 1 : Nat) = 3 from rfl, sP_same, sP_same, sP_same, e2]
theorem damp_eq : ∀ d, d ≤ 100 → ∀ r, r ≤ 10 → (if 0 < nI d - nI r then nI d - nI r else 0) = (if nI d ≤ nI r then 0 else nI d - nI r) ∧ stG 0 (if nI d ≤ nI r then 0 else nI d - nI r) = true := by decide +kernel
theorem log_up : ∀ z, z ≤ 12 → (if 12 < nI z + 1 then 12 else nI z + 1) = nI (min (z + 1) 12) := by decide +kernel
theorem pS_ne {Y : aS} {la o : Nat} (h : o ≠ 0) (h2 : o ≠ 611) (h3 : o ≠ 2) (h4 : o ≠ 3) (h5 : o ≠ 1) (h6 : o ≠ 19) : ∀ k, pS Y la k o = Y o
  | 0 => rfl
  | k + 1 => by
    show mP (pS Y la k) ((la + k) % 12) o = Y o
    rw [mP_ne h h2 h3 h4 h5 h6, pS_ne h h2 h3 h4 h5 h6 k]
