/-! ink twice, and the law's looks: hasGaps, isRight -/
section AJ
variable {K : KT} {cc : ByteArray} {own : String} {Ts : List Cond} {fr lo pc : Nat} {ls : List (Option Value)} {st : List Value} {σ : aS} {a0 a1 a2 a3 a4 a5 a6 a7 a8 a9 a10 a11 a12 : Option Value} {t : List (Option Value)}
theorem AW.jn {j : Nat} (h : AW K j ls st σ → AW K pc ls st σ) (k : AW K j ls st σ) : AW K pc ls st σ := h k
theorem s_iload10 {x : Int32} (hK : OKc K cc own Ts fr lo) (hd : decode cc pc = .ok (.iload 10, 2)) (k : AW K (pc + 2) (a0 :: a1 :: a2 :: a3 :: a4 :: a5 :: a6 :: a7 :: a8 :: a9 :: some (.int x) :: t) (.int x :: st) σ) : AW K pc (a0 :: a1 :: a2 :: a3 :: a4 :: a5 :: a6 :: a7 :: a8 :: a9 :: some (.int x) :: t) st σ := s_iloadg hK hd rfl k
theorem s_istore10 {x : Int32} (hK : OKc K cc own Ts fr lo) (hd : decode cc pc = .ok (.istore 10, 2)) (k : AW K (pc + 2) (a0 :: a1 :: a2 :: a3 :: a4 :: a5 :: a6 :: a7 :: a8 :: a9 :: some (.int x) :: t) st σ) : AW K pc (a0 :: a1 :: a2 :: a3 :: a4 :: a5 :: a6 :: a7 :: a8 :: a9 :: a10 :: t) (.int x :: st) σ := s_istoreg hK hd (by simp only [List.length_cons]; omega) k
theorem s_iload11 {x : Int32} (hK : OKc K cc own Ts fr lo) (hd : decode cc pc = .ok (.iload 11, 2)) (k : AW K (pc + 2) (a0 :: a1 :: a2 :: a3 :: a4 :: a5 :: a6 :: a7 :: a8 :: a9 :: a10 :: some (.int x) :: t) (.int x :: st) σ) : AW K pc (a0 :: a1 :: a2 :: a3 :: a4 :: a5 :: a6 :: a7 :: a8 :: a9 :: a10 :: some (.int x) :: t) st σ := s_iloadg hK hd rfl k
theorem s_istore11 {x : Int32} (hK : OKc K cc own Ts fr lo) (hd : decode cc pc = .ok (.istore 11, 2)) (k : AW K (pc + 2) (a0 :: a1 :: a2 :: a3 :: a4 :: a5 :: a6 :: a7 :: a8 :: a9 :: a10 :: some (.int x) :: t) st σ) : AW K pc (a0 :: a1 :: a2 :: a3 :: a4 :: a5 :: a6 :: a7 :: a8 :: a9 :: a10 :: a11 :: t) (.int x :: st) σ := s_istoreg hK hd (by simp only [List.length_cons]; omega) k
theorem s_iload12 {x : Int32} (hK : OKc K cc own Ts fr lo) (hd : decode cc pc = .ok (.iload 12, 2)) (k : AW K (pc + 2) (a0 :: a1 :: a2 :: a3 :: a4 :: a5 :: a6 :: a7 :: a8 :: a9 :: a10 :: a11 :: some (.int x) :: t) (.int x :: st) σ) : AW K pc (a0 :: a1 :: a2 :: a3 :: a4 :: a5 :: a6 :: a7 :: a8 :: a9 :: a10 :: a11 :: some (.int x) :: t) st σ := s_iloadg hK hd rfl k
theorem s_istore12 {x : Int32} (hK : OKc K cc own Ts fr lo) (hd : decode cc pc = .ok (.istore 12, 2)) (k : AW K (pc + 2) (a0 :: a1 :: a2 :: a3 :: a4 :: a5 :: a6 :: a7 :: a8 :: a9 :: a10 :: a11 :: some (.int x) :: t) st σ) : AW K pc (a0 :: a1 :: a2 :: a3 :: a4 :: a5 :: a6 :: a7 :: a8 :: a9 :: a10 :: a11 :: a12 :: t) (.int x :: st) σ := s_istoreg hK hd (by simp only [List.length_cons]; omega) k
end AJ
theorem wo_cong {s t : aS} (e : t 19 = s 19) (h : Int32) (y : Nat) : ∀ x, wo t 10 h y x = wo s 10 h y x
  | 0 => rfl
  | x + 1 => by
    show wo t 10 h y x ||| (on (if t 19 (16 * y + x) ≤ h then 0 else 1) <<< (nI x &&& 31)) = wo s 10 h y x ||| (on (if s 19 (16 * y + x) ≤ h then 0 else 1) <<< (nI x &&& 31))
    rw [wo_cong e h y x, e]
theorem iK_611 (σ : aS) : iK σ 611 = fa_fill (ik σ 10 (σ 1 3)) (σ 611) 12 := by
  show sP σ 611 (fa_fill (ik σ 10 (σ 1 3)) (σ 611) 12) 611 = _
  exact sP_same _ _ _
theorem ik_cong {s t : aS} (e : t 19 = s 19) (e7 : t 17 = s 17) (h : Int32) (y : Nat) : ik t 10 h y = ik s 10 h y := by
  show (t 17 y &&& (wo t 10 h y 16 ^^^ (-1))) &&& 65535 = (s 17 y &&& (wo s 10 h y 16 ^^^ (-1))) &&& 65535
  rw [wo_cong e, e7]
theorem iK_iK (σ : aS) : iK (iK σ) = iK σ := by
  funext o
  by_cases h : o = 611
  · subst h
    rw [iK_611 (iK σ)]
    funext k
    by_cases hk : k < 12
    · rw [fa_fill_in hk, ik_cong (iK_ne (by decide)) (iK_ne (by decide)), iK_ne (o := 1) (by decide), iK_611, fa_fill_in hk]
    · rw [fa_fill_out (by omega)]
  · rw [iK_ne h]
theorem WB_un {τ : aS} (h : WB (iK τ)) : WB τ := h.to (iK_ne (by decide)).symm (iK_ne (by decide)).symm (iK_ne (by decide)).symm (iK_ne (by decide)).symm
theorem sh_of {a b : Int32} (h1 : sxk a) (h2 : sxk b) : sh a b = true := by
  show (wi a (-8) 8 && wi b (-8) 8) = true
  rw [Bool.and_eq_true]
  exact ⟨decide_eq_true (show ¬ a < -8 ∧ ¬ 8 < a from h1), decide_eq_true (show ¬ b < -8 ∧ ¬ 8 < b from h2)⟩
theorem sh_r {r i j : Nat} (hr : r ≤ 4) (hi : i < 2 * r + 1) (hj : j < 2 * r + 1) : sh (nI i - nI r) (nI j - nI r) = true := sh_of (sxk_r hr hi) (sxk_r hr hj)
set_option maxHeartbeats 4000000 in
set_option maxRecDepth 100000 in
theorem zL_hasGaps {g : aG} {l : Launch} {σ : aS} (r : Nat) (hr : r ≤ 4) (hW : WB σ) : CN g l yL_hasGaps wsL_hasGaps 5 117 [.ref 600, .int (nI r)] σ (some (.int (b2 (hgB (iK σ) 607 14 r)))) (iK σ) := by
  obtain ⟨S, hS⟩ : ∃ S, S = iK σ := ⟨_, rfl⟩
  have hSS : iK S = S := by rw [hS, iK_iK]
  have hWS : WB S := by rw [hS]; exact hW.iK
  rw [← hS]
  refine cn_of (cc := cL_hasGaps) (nL := 5) (ret := (some .boolean)) (own := RL) (by decide +kernel) rfl rfl (Nat.le_of_ble_eq_true rfl) (fun K hg hl hK hE => ?_)
  subst hg; subst hl
  show AW K 0 [some (.ref 600), some (.int (nI r)), none, none, none] [] σ
  have hfl : ∀ τ : aS, iK τ = S → ∀ k1 k2 : Nat, k1 < 2 * r + 1 → k2 < 2 * r + 1 → CN (kG K) (kL K) yX6_faults wsX6_faults 4 94 [.ref 600, .int (nI k1 - nI r), .int (nI k2 - nI r), .int 0] τ (some (.int (nI (ct (gG S 10 607 14 (nI k1 - nI r) (nI k2 - nI r)))))) S := by
    intro τ e k1 k2 h1 h2
    have q := zX6_faults_0 (g := kG K) (l := kL K) (σ := τ) (nI k1 - nI r) (nI k2 - nI r) (sh_r hr h1 h2) (WB_un (by rw [e]; exact hWS))
    rw [e] at q
    exact q
  have one5 : hgB S 607 14 r = true → ∀ x : Int32, ∀ z : Option Value, AW K 5 [some (.ref 600), some (.int (nI r)), some (.int 1), some (.int x), z] [] S := by
    intro hB x z
    refine s_iload3 hK dL_hasGaps_5 ?_
    refine s_iload1 hK dL_hasGaps_6 ?_
    refine s_icmp_gt (tgt := 57) hK dL_hasGaps_7 (by decide) (fun c_7 => ?_) (fun c_7 => ?_)
    · refine s_iload2 hK dL_hasGaps_57 ?_
      exact s_iret hK hE dL_hasGaps_58 (by decide) (by rw [hB]; rfl) (rfl)
    · refine s_iload2 hK dL_hasGaps_10 ?_
      refine s_if_ne (tgt := 57) hK dL_hasGaps_11 (by decide) (fun c_11 => ?_) (fun c_11 => absurd c_11 (by decide))
      refine s_iload2 hK dL_hasGaps_57 ?_
      exact s_iret hK hE dL_hasGaps_58 (by decide) (by rw [hB]; rfl) (rfl)
  have one18 : hgB S 607 14 r = true → ∀ x z : Int32, AW K 18 [some (.ref 600), some (.int (nI r)), some (.int 1), some (.int x), some (.int z)] [] S := by
    intro hB x z
    refine s_iload4 hK dL_hasGaps_18 ?_
    refine s_iload1 hK dL_hasGaps_20 ?_
    refine s_icmp_gt (tgt := 51) hK dL_hasGaps_21 (by decide) (fun c_21 => ?_) (fun c_21 => ?_)
    · refine s_iinc3 hK dL_hasGaps_51 (hv_1 _) ?_
      refine s_goto (tgt := 5) hK dL_hasGaps_54 (by decide) ?_
      exact one5 hB _ _
    · refine s_iload2 hK dL_hasGaps_24 ?_
      refine s_if_ne (tgt := 51) hK dL_hasGaps_25 (by decide) (fun c_25 => ?_) (fun c_25 => absurd c_25 (by decide))
      refine s_iinc3 hK dL_hasGaps_51 (hv_1 _) ?_
      refine s_goto (tgt := 5) hK dL_hasGaps_54 (by decide) ?_
      exact one5 hB _ _
  have hx1 : (∀ τ : aS, iK τ = S → ((2 * r + 1) ≠ 0 → τ = S) → ∀ z4 : Option Value, anyB (hgR S 607 14 r) (2 * r + 1) = false → AW K 5 [some (.ref 600), some (.int (nI r)), some (.int 0), some (.int (nI (2 * r + 1) - nI r)), z4] [] τ) := by
    intro τ e1 e2 z4 hH
    rw [e2 (by omega)]
    refine s_iload3 hK dL_hasGaps_5 ?_
    refine s_iload1 hK dL_hasGaps_6 ?_
    refine s_icmp_gt (tgt := 57) hK dL_hasGaps_7 (by decide) (fun c_7 => ?_) (fun c_7 => absurd c_7 (fun q => q (cnt_out hr)))
    refine s_iload2 hK dL_hasGaps_57 ?_
    exact s_iret hK hE dL_hasGaps_58 (by decide) (by rw [show hgB S 607 14 r = false from hH]; rfl) (rfl)
  have hb1 : ∀ k1 : Nat, k1 < (2 * r + 1) → (∀ τ : aS, iK τ = S → ((k1 + 1) ≠ 0 → τ = S) → ∀ z4 : Option Value, anyB (hgR S 607 14 r) (k1 + 1) = false → AW K 5 [some (.ref 600), some (.int (nI r)), some (.int 0), some (.int (nI (k1 + 1) - nI r)), z4] [] τ) → (∀ τ : aS, iK τ = S → (k1 ≠ 0 → τ = S) → ∀ z4 : Option Value, anyB (hgR S 607 14 r) k1 = false → AW K 5 [some (.ref 600), some (.int (nI r)), some (.int 0), some (.int (nI k1 - nI r)), z4] [] τ) := by
    intro k1 hk1 ih1 τ e1 e2 z4 hH
    have hx2 : (∀ τ : aS, iK τ = S → (k1 ≠ 0 ∨ (2 * r + 1) ≠ 0 → τ = S) → anyB (hgP S 607 14 r k1) (2 * r + 1) = false → AW K 18 [some (.ref 600), some (.int (nI r)), some (.int 0), some (.int (nI k1 - nI r)), some (.int (nI (2 * r + 1) - nI r))] [] τ) := by
      intro τ e1 e2 hH2
      rw [e2 (Or.inr (by omega))]
      refine s_iload4 hK dL_hasGaps_18 ?_
      refine s_iload1 hK dL_hasGaps_20 ?_
      refine s_icmp_gt (tgt := 51) hK dL_hasGaps_21 (by decide) (fun c_21 => ?_) (fun c_21 => absurd c_21 (fun q => q (cnt_out hr)))
      refine s_iinc3 hK dL_hasGaps_51 (hv_1 _) ?_
      refine s_goto (tgt := 5) hK dL_hasGaps_54 (by decide) ?_
      exact AW.to (ih1 S hSS (fun _ => rfl) _ (by show (anyB (hgR S 607 14 r) k1 || hgR S 607 14 r k1) = false; rw [hH, show hgR S 607 14 r k1 = false from hH2]; rfl)) (by rw [step_r]) rfl
    have hb2 : ∀ k2 : Nat, k2 < (2 * r + 1) → (∀ τ : aS, iK τ = S → (k1 ≠ 0 ∨ (k2 + 1) ≠ 0 → τ = S) → anyB (hgP S 607 14 r k1) (k2 + 1) = false → AW K 18 [some (.ref 600), some (.int (nI r)), some (.int 0), some (.int (nI k1 - nI r)), some (.int (nI (k2 + 1) - nI r))] [] τ) → (∀ τ : aS, iK τ = S → (k1 ≠ 0 ∨ k2 ≠ 0 → τ = S) → anyB (hgP S 607 14 r k1) k2 = false → AW K 18 [some (.ref 600), some (.int (nI r)), some (.int 0), some (.int (nI k1 - nI r)), some (.int (nI k2 - nI r))] [] τ) := by
      intro k2 hk2 ih2 τ e1 e2 hH2
      refine s_iload4 hK dL_hasGaps_18 ?_
      refine s_iload1 hK dL_hasGaps_20 ?_
      refine s_icmp_gt (tgt := 51) hK dL_hasGaps_21 (by decide) (fun c_21 => absurd c_21 (cnt_in hr hk2)) (fun c_21 => ?_)
      refine s_iload2 hK dL_hasGaps_24 ?_
      refine s_if_ne (tgt := 51) hK dL_hasGaps_25 (by decide) (fun c_25 => absurd c_25 (fun q => q rfl)) (fun c_25 => ?_)
      refine s_aload0 hK dL_hasGaps_28 ?_
      refine s_iload3 hK dL_hasGaps_29 ?_
      refine s_iload4 hK dL_hasGaps_30 ?_
      refine s_iconst (v := 0) hK dL_hasGaps_32 (by decide) ?_
      refine s_callV (ci := 6) hK mdX6_faults (hfl τ e1 k1 k2 hk1 hk2) gL_hasGaps_X6_faults rfl rfl rfl (by decide) rfl ⟨Nat.le_of_ble_eq_true rfl, Nat.le_of_ble_eq_true rfl⟩ rfl (Nat.le_of_ble_eq_true rfl) dL_hasGaps_33 ?_
      try dsimp only [Option.toList, List.cons_append, List.nil_append]
      refine s_if_le (tgt := 43) hK dL_hasGaps_36 (by decide) (fun c_36 => ?_) (fun c_36 => ?_)
      · refine s_iconst (v := 0) hK dL_hasGaps_43 (by decide) ?_
        refine s_istore2 hK dL_hasGaps_44 ?_
        refine s_iinc4 hK dL_hasGaps_45 (hv_1 _) ?_
        refine s_goto (tgt := 18) hK dL_hasGaps_48 (by decide) ?_
        first
          | exact AW.to (ih2 S hSS (fun _ => rfl) (by show (anyB (hgP S 607 14 r k1) k2 || hgP S 607 14 r k1 k2) = false; rw [hH2, show hgP S 607 14 r k1 k2 = false from decide_eq_false (by rw [ct_zero c_36]; omega)]; rfl)) (by rw [step_r]) rfl
          | exact one18 (show hgB S 607 14 r = true from anyB_yes hk1 (show hgR S 607 14 r k1 = true from anyB_yes hk2 (decide_eq_true (ct_pos c_36)))) _ _
      · refine s_iconst (v := 1) hK dL_hasGaps_39 (by decide) ?_
        refine s_goto (tgt := 44) hK dL_hasGaps_40 (by decide) ?_
        refine s_istore2 hK dL_hasGaps_44 ?_
        refine s_iinc4 hK dL_hasGaps_45 (hv_1 _) ?_
        refine s_goto (tgt := 18) hK dL_hasGaps_48 (by decide) ?_
        first
          | exact AW.to (ih2 S hSS (fun _ => rfl) (by show (anyB (hgP S 607 14 r k1) k2 || hgP S 607 14 r k1 k2) = false; rw [hH2, show hgP S 607 14 r k1 k2 = false from decide_eq_false (by rw [ct_zero c_36]; omega)]; rfl)) (by rw [step_r]) rfl
          | exact one18 (show hgB S 607 14 r = true from anyB_yes hk1 (show hgR S 607 14 r k1 = true from anyB_yes hk2 (decide_eq_true (ct_pos c_36)))) _ _
    refine s_iload3 hK dL_hasGaps_5 ?_
    refine s_iload1 hK dL_hasGaps_6 ?_
    refine s_icmp_gt (tgt := 57) hK dL_hasGaps_7 (by decide) (fun c_7 => absurd c_7 (cnt_in hr hk1)) (fun c_7 => ?_)
    refine s_iload2 hK dL_hasGaps_10 ?_
    refine s_if_ne (tgt := 57) hK dL_hasGaps_11 (by decide) (fun c_11 => absurd c_11 (fun q => q rfl)) (fun c_11 => ?_)
    refine s_iload1 hK dL_hasGaps_14 ?_
    refine s_ineg hK dL_hasGaps_15 ?_
    refine s_istore4 hK dL_hasGaps_16 ?_
    exact AW.to (up_to (fun kx => (∀ τ : aS, iK τ = S → (k1 ≠ 0 ∨ kx ≠ 0 → τ = S) → anyB (hgP S 607 14 r k1) kx = false → AW K 18 [some (.ref 600), some (.int (nI r)), some (.int 0), some (.int (nI k1 - nI r)), some (.int (nI kx - nI r))] [] τ)) (2 * r + 1) hx2 hb2 τ e1 (fun q => e2 (q.resolve_right (fun z => z rfl))) rfl) (by rw [neg_r]) rfl
  refine s_iconst (v := 0) hK dL_hasGaps_0 (by decide) ?_
  refine s_istore2 hK dL_hasGaps_1 ?_
  refine s_iload1 hK dL_hasGaps_2 ?_
  refine s_ineg hK dL_hasGaps_3 ?_
  refine s_istore3 hK dL_hasGaps_4 ?_
  exact AW.to (up_to (fun kx => (∀ τ : aS, iK τ = S → (kx ≠ 0 → τ = S) → ∀ z4 : Option Value, anyB (hgR S 607 14 r) kx = false → AW K 5 [some (.ref 600), some (.int (nI r)), some (.int 0), some (.int (nI kx - nI r)), z4] [] τ)) (2 * r + 1) hx1 hb1 σ hS.symm (fun q => absurd rfl q) _ rfl) (by rw [neg_r]) rfl
theorem wi4' : ∀ i, i ≤ 8 → wi (nI i - 4) (-4) 4 = true := by decide
theorem sy_pin {s : aS} {v : Nat → Int32} (h : Sset s v) {p : Int32} (hp : wi p (-4) 4 = true) : sxk (p + dY s 0) := by
  rw [(dX_of h).2]
  exact sx_in hp (h.1 0 (by decide)).2 (h.1 2 (by decide)).2
/-! a cell as the law sees it -/
def kV (L C : Bool) : Int32 := if L = true then 2 else b2 C
def pV (D I : Bool) : Int32 := on (b2 D) + 2 * on (b2 I)
def asV (L C I D : Bool) : Bool := if L = true then I else (!I && D == C)
theorem v_gap : ∀ L C I D w : Bool, (yV (kV L C) I D w = 1 → 1 = b2 ((C || L) && !(I || D))) ∧ (yV (kV L C) I D w = 2 → 1 = b2 ((C || L) && !(I || D))) ∧ (¬ yV (kV L C) I D w = 1 → ¬ yV (kV L C) I D w = 2 → 0 = b2 ((C || L) && !(I || D))) := by decide
theorem v_spl : ∀ L C I D w : Bool, (yV (kV L C) I D w = 3 → 1 = b2 (D && !(C || L))) ∧ (¬ yV (kV L C) I D w = 3 → 0 = b2 (D && !(C || L))) := by decide
theorem v_lost : ∀ L C I D : Bool, (kV L C = 2 → ¬ 2 ≤ pV D I → 1 = b2 (L && !I)) ∧ (¬ kV L C = 2 → 0 = b2 (L && !I)) ∧ (2 ≤ pV D I → 0 = b2 (L && !I)) := by decide
theorem v_as : ∀ L C I D : Bool, (kV L C = 2 → ¬ pV D I ≤ 1 → 1 = b2 (asV L C I D)) ∧ (kV L C = 2 → pV D I ≤ 1 → 0 = b2 (asV L C I D)) ∧ (¬ kV L C = 2 → pV D I = kV L C → 1 = b2 (asV L C I D)) ∧ (¬ kV L C = 2 → ¬ pV D I = kV L C → 0 = b2 (asV L C I D)) := by decide
theorem v_why : ∀ L C I D w : Bool, (¬ yV (kV L C) I D w = 0 → 0 = b2 (asV L C I D)) ∧ (yV (kV L C) I D w = 0 → 1 = b2 (asV L C I D)) := by decide
theorem v_worn : ∀ L C I D w : Bool, (w = true → I = false) → (on (b2 w) = 1 → ¬ 1 < pV D I) ∧ (yV (kV L C) I D w = 1 → ¬ on (b2 w) = 0) ∧ (on (b2 w) = 1 → w = true) := by decide
def wkB (S : aS) (k : Nat) : Bool := px S 17 k && !px S 611 k
theorem wk_iff {S : aS} (hSS : iK S = S) {k : Nat} (hk : k < 192) : wkB S k = (px S 17 k && decide (¬ S 19 k ≤ S 1 3)) := by
  have h := iK_px S hk
  rw [hSS] at h
  unfold wkB
  rw [h]
  cases px S 17 k
  · rfl
  · by_cases c : S 19 k ≤ S 1 3
    · rw [decide_eq_true c, decide_eq_false (fun q => q c)]
      rfl
    · rw [decide_eq_false c, decide_eq_true c]
      rfl
theorem wn_k {S : aS} (hSS : iK S = S) {x y : Nat} (hx : x < 16) (hy : y < 12) : wn S 10 (nI x) (nI y) (S 1 3) = wkB S (16 * y + x) := by
  unfold wn wA
  rw [hs_nI _ _ hx hy, if_pos (pl_nI hx hy), ixN, cl_nI (by omega), wk_iff hSS (by omega)]
theorem wC_k {S : aS} (hSS : iK S = S) : wC S = nI (ct (wkB S)) := by
  have e : ct (px S 17) = ct (px S 611) + ct (wkB S) := by
    unfold ct
    rw [← fb_ct_or (p := px S 611) (q := wkB S) (fun k hk q => by
      have h2 := q.2
      unfold wkB at h2
      rw [q.1] at h2
      simp at h2)]
    refine fb_ct_cong (fun k hk => ?_)
    have h := iK_px S hk
    rw [hSS] at h
    unfold wkB
    rw [h]
    cases px S 17 k <;> cases decide (S 19 k ≤ S 1 3) <;> rfl
  unfold wC
  rw [hSS, e, pk_sub (by omega), Nat.add_sub_cancel_left]
theorem fb_b2 (p : Nat → Bool) (n : Nat) : nI (fb_ct p n) + b2 (p n) = nI (fb_ct p (n + 1)) := by
  rw [fb_ct_succ]
  cases p n
  · show nI (fb_ct p n) + 0 = _
    rw [Int32.add_zero]
    rfl
  · show nI (fb_ct p n) + 1 = _
    rw [nI_1]
    rfl
/-! the best pins -/
theorem bpF_min (s : aS) : ∀ n m, m < n → (bpF s n).2.2 ≤ bpW s m
  | 0, m, h => absurd h (Nat.not_lt_zero m)
  | n + 1, m, h => by
    by_cases c : (bpF s n).2.2 ≤ bpW s n
    · rw [bpF_no c]
      rcases Nat.lt_or_ge m n with q | q
      · exact bpF_min s n m q
      · rw [show m = n by omega]
        exact c
    · rw [bpF_y c]
      show bpW s n ≤ bpW s m
      rcases Nat.lt_or_ge m n with q | q
      · exact Int32.le_trans (Int32.le_of_lt (fa_of_nle c)) (bpF_min s n m q)
      · rw [show m = n by omega]
        exact Int32.le_refl _
theorem bpF_at (s : aS) : ∀ n, ∃ m, m < 81 ∧ (n ≤ 81 → 0 < n → bpF s n = (nI (m / 9) - 4, nI (m % 9) - 4, bpW s m))
  | 0 => ⟨0, by decide, fun _ h => absurd h (Nat.lt_irrefl 0)⟩
  | 1 => by
    refine ⟨0, by decide, fun _ _ => ?_⟩
    by_cases c : (bpF s 0).2.2 ≤ bpW s 0
    · rw [bpF_no c]
      have h : bpW s 0 ≤ 384 := sum_le _ _
      have e : bpW s 0 = 384 := Int32.le_antisymm h c
      rw [e]
      rfl
    · exact bpF_y c
  | n + 2 => by
    obtain ⟨m, hm, e⟩ := bpF_at s (n + 1)
    by_cases c : (bpF s (n + 1)).2.2 ≤ bpW s (n + 1)
    · exact ⟨m, hm, fun h _ => by rw [bpF_no c]; exact e (by omega) (by omega)⟩
    · by_cases q : n + 1 < 81
      · exact ⟨n + 1, q, fun _ _ => bpF_y c⟩
      · exact ⟨0, by decide, fun h _ => absurd h (by omega)⟩
set_option maxHeartbeats 4000000 in
set_option maxRecDepth 100000 in
theorem zL_isRight {g : aG} {l : Launch} {σ : aS} {P nx sz : Nat} (h : IV P nx sz σ) : CN g l yL_isRight wsL_isRight 5 123 [.ref 600] σ (some (.int 1)) (iK σ) := by
  obtain ⟨S, hS⟩ : ∃ S, S = iK σ := ⟨_, rfl⟩
  have hSS : iK S = S := by rw [hS, iK_iK]
  have hWS : WB S := by rw [hS]; exact (IV_WB h).iK
  have hI : IV P nx sz S := by rw [hS]; exact IV_iK h
  rw [← hS]
  obtain ⟨SX, hSX⟩ : ∃ z, z = S 0 3 + dX S 0 := ⟨_, rfl⟩
  obtain ⟨SY, hSY⟩ : ∃ z, z = S 0 4 + dY S 0 := ⟨_, rfl⟩
  obtain ⟨v, hv⟩ := hI.2.1.2.1
  have hx8 : sxk SX := by rw [hSX]; exact sx_pin hv (by rw [hv.2.1.1]; exact hv.2.1.2)
  have hy8 : sxk SY := by rw [hSY]; exact sy_pin hv (by rw [hv.2.2.1]; exact hv.2.2.2)
  have hsh : sh SX SY = true := sh_of hx8 hy8
  have e0 : σ 0 = S 0 := by rw [hS, iK_ne (by decide)]
  have e1 : σ 1 = S 1 := by rw [hS, iK_ne (by decide)]
  have eX : σ 0 3 + dX σ 0 = SX := by
    rw [hSX, e0]
    show S 0 3 + (σ 1 0 - 50) * σ 1 1 / 50 = S 0 3 + (S 1 0 - 50) * S 1 1 / 50
    rw [e1]
  have eY : σ 0 4 + dY σ 0 = SY := by
    rw [hSY, e0]
    show S 0 4 + (σ 1 0 - 50) * σ 1 2 / 50 = S 0 4 + (S 1 0 - 50) * S 1 2 / 50
    rw [e1]
  refine cn_of (cc := cL_isRight) (nL := 13) (ret := (some .boolean)) (own := RL) (by decide +kernel) rfl rfl (Nat.le_of_ble_eq_true rfl) (fun K hg hl hK hE => ?_)
  subst hg; subst hl
  show AW K 0 [some (.ref 600), none, none, none, none, none, none, none, none, none, none, none, none] [] σ
  have c8 : CN (kG K) (kL K) yX6_count wsX6_count 4 87 [.ref 600, .int 8] σ (some (.int SX)) σ := by
    have q := zX6_count_8 (g := kG K) (l := kL K) (σ := σ)
    rw [eX] at q
    exact q
  have c9 : CN (kG K) (kL K) yX6_count wsX6_count 4 87 [.ref 600, .int 9] σ (some (.int SY)) σ := by
    have q := zX6_count_9 (g := kG K) (l := kL K) (σ := σ)
    rw [eY] at q
    exact q
  have c15 : CN (kG K) (kL K) yX6_count wsX6_count 4 87 [.ref 600, .int 15] S (some (.int (nI (ct (wkB S))))) S := by
    have q := zX6_count_15 (g := kG K) (l := kL K) hWS
    rw [hSS, wC_k hSS] at q
    exact q
  have f0 : CN (kG K) (kL K) yX6_faults wsX6_faults 4 94 [.ref 600, .int SX, .int SY, .int 0] S (some (.int (nI (ct (gG S 10 607 14 SX SY))))) S := by
    have q := zX6_faults_0 (g := kG K) (l := kL K) SX SY hsh hWS
    rw [hSS] at q
    exact q
  have f1 : CN (kG K) (kL K) yX6_faults wsX6_faults 4 94 [.ref 600, .int SX, .int SY, .int 1] S (some (.int (nI (ct (gS S 10 14 SX SY))))) S := by
    have q := zX6_faults_1 (g := kG K) (l := kL K) SX SY hsh hWS
    rw [hSS] at q
    exact q
  have f2 : CN (kG K) (kL K) yX6_faults wsX6_faults 4 94 [.ref 600, .int SX, .int SY, .int 2] S (some (.int (nI (ct (gLo S 10 607))))) S := by
    have q := zX6_faults_2 (g := kG K) (l := kL K) SX SY hsh hWS
    rw [hSS] at q
    exact q
  have bp : CN (kG K) (kL K) yX6_bestPins wsX6_bestPins 4 94 [.ref 600, .int 2] S (some (.int (bpR S 2))) S := by
    have q := zX6_bestPins_ok (g := kG K) (l := kL K) (σ := S) 2 hWS (by decide) (fun i hi => by rw [hSS]; exact sx_pin hv (wi4' i (by omega)))
    rw [hSS] at q
    exact q
  have hbest : bpR S 2 ≤ nI (ct (gG S 10 607 14 SX SY)) + nI (ct (gS S 10 14 SX SY)) := by
    have a3 := hv.2.1
    have a4 := hv.2.2
    obtain ⟨i, hi, ei⟩ := wi4 (show wi (S 0 3) (-4) 4 = true by rw [a3.1]; exact a3.2)
    obtain ⟨j, hj, ej⟩ := wi4 (show wi (S 0 4) (-4) 4 = true by rw [a4.1]; exact a4.2)
    have q := bpF_min S 81 (9 * i + j) (by omega)
    have e : bpW S (9 * i + j) = nI (ct (gG S 10 607 14 SX SY)) + nI (ct (gS S 10 14 SX SY)) := by
      unfold bpW
      rw [show (9 * i + j) / 9 = i by omega, show (9 * i + j) % 9 = j by omega, ← ei, ← ej, ← hSX, ← hSY]
    rw [e] at q
    exact q
  have hwhy : ∀ τ : aS, iK τ = S → ∀ x y : Nat, x < 16 → y < 12 → CN (kG K) (kL K) yX6_why wsX6_why 3 67 [.ref 600, .int (nI x), .int (nI y)] τ (some (.int (yV (kV (px S 16 (16 * y + x)) (px S 15 (16 * y + x))) (px S 611 (16 * y + x)) (shp S 18 SX SY (16 * y + x)) (wkB S (16 * y + x))))) S := by
    intro τ e x y hx hy
    have q := zX6_why_ok (g := kG K) (l := kL K) (σ := τ) (nI x) (nI y) (pl_nI hx hy)
    unfold mPx mPy at q
    rw [e, ← hSX, ← hSY, wn_k hSS hx hy, hs_nI _ _ hx hy] at q
    have e1 : hs S 18 (nI x - SX) (nI y - SY) = shp S 18 SX SY (16 * y + x) := by
      unfold shp
      rw [show (16 * y + x) % 16 = x by omega, show (16 * y + x) / 16 = y by omega]
    have e2 : kA S 10 (nI x) (nI y) = kV (px S 16 (16 * y + x)) (px S 15 (16 * y + x)) := by
      unfold kA kV
      rw [hs_nI _ _ hx hy, hs_nI _ _ hx hy]
    rw [e1, e2] at q
    exact q
  have hk0 : ∀ x y : Nat, x < 16 → y < 12 → CN (kG K) (kL K) yX6_cell wsX6_cell 3 66 [.ref 600, .int (nI x), .int (nI y), .int 0] S (some (.int (kV (px S 16 (16 * y + x)) (px S 15 (16 * y + x))))) S := by
    intro x y hx hy
    have q := zX6_cell_0 (g := kG K) (l := kL K) (σ := S) (nI x) (nI y) (pl_nI hx hy)
    have e2 : kA S 10 (nI x) (nI y) = kV (px S 16 (16 * y + x)) (px S 15 (16 * y + x)) := by
      unfold kA kV
      rw [hs_nI _ _ hx hy, hs_nI _ _ hx hy]
    rw [e2] at q
    exact q
  have hk4 : ∀ x y : Nat, x < 16 → y < 12 → CN (kG K) (kL K) yX6_cell wsX6_cell 3 66 [.ref 600, .int (nI x), .int (nI y), .int 4] S (some (.int (on (b2 (wkB S (16 * y + x)))))) S := by
    intro x y hx hy
    have q := zX6_cell_4 (g := kG K) (l := kL K) (σ := S) (nI x) (nI y) (pl_nI hx hy)
    rw [wn_k hSS hx hy] at q
    exact q
  have hpr : ∀ x y : Nat, x < 16 → y < 12 → CN (kG K) (kL K) yX6_printed wsX6_printed 3 67 [.ref 600, .int (nI x), .int (nI y), .int SX, .int SY] S (some (.int (pV (shp S 18 SX SY (16 * y + x)) (px S 611 (16 * y + x))))) S := by
    intro x y hx hy
    have q := zX6_printed_ok (g := kG K) (l := kL K) (σ := S) (nI x) (nI y) SX SY (pl_nI hx hy) hsh
    have e1 : hs S 18 (nI x - SX) (nI y - SY) = shp S 18 SX SY (16 * y + x) := by
      unfold shp
      rw [show (16 * y + x) % 16 = x by omega, show (16 * y + x) / 16 = y by omega]
    rw [hSS, hs_nI _ _ hx hy, e1] at q
    exact q
  have hx1 : (∀ τ : aS, iK τ = S → (12 ≠ 0 → τ = S) → ∀ z8 z9 z10 z11 z12 : Option Value, AW K 28 [some (.ref 600), some (.int SX), some (.int SY), some (.int (nI (fb_ct (gG S 10 607 14 SX SY) (16 * 12)))), some (.int (nI (fb_ct (gS S 10 14 SX SY) (16 * 12)))), some (.int (nI (fb_ct (gLo S 10 607) (16 * 12)))), some (.int (nI (fb_ct (wkB S) (16 * 12)))), some (.int (nI 12)), z8, z9, z10, z11, z12] [] τ) := by
    intro τ e1 e2 z8 z9 z10 z11 z12
    rw [e2 (by decide)]
    refine s_iload7 hK dL_isRight_28 ?_
    refine s_bipush (v := 12) hK dL_isRight_30 (by decide) ?_
    refine s_icmp_ge (tgt := 280) hK dL_isRight_32 (by decide) (fun c_32 => ?_) (fun c_32 => absurd c_32 (fun q => q (ge_E rfl rfl)))
    refine s_aload0 hK dL_isRight_280 ?_
    refine s_bipush (v := 10) hK dL_isRight_281 (by decide) ?_
    refine s_callV (ci := 6) hK mdX6_count (zX6_count_10 hWS) gL_isRight_X6_count rfl rfl rfl (by decide) rfl ⟨Nat.le_of_ble_eq_true rfl, Nat.le_of_ble_eq_true rfl⟩ rfl (Nat.le_of_ble_eq_true rfl) dL_isRight_283 ?_
    try dsimp only [Option.toList, List.cons_append, List.nil_append]
    refine s_aload0 hK dL_isRight_286 ?_
    refine s_bipush (v := 11) hK dL_isRight_287 (by decide) ?_
    refine s_callV (ci := 6) hK mdX6_count (zX6_count_11 hWS) gL_isRight_X6_count rfl rfl rfl (by decide) rfl ⟨Nat.le_of_ble_eq_true rfl, Nat.le_of_ble_eq_true rfl⟩ rfl (Nat.le_of_ble_eq_true rfl) dL_isRight_289 ?_
    try dsimp only [Option.toList, List.cons_append, List.nil_append]
    refine s_iadd hK dL_isRight_292 ?_
    refine s_aload0 hK dL_isRight_293 ?_
    refine s_bipush (v := 12) hK dL_isRight_294 (by decide) ?_
    refine s_callV (ci := 6) hK mdX6_count (zX6_count_12 hWS) gL_isRight_X6_count rfl rfl rfl (by decide) rfl ⟨Nat.le_of_ble_eq_true rfl, Nat.le_of_ble_eq_true rfl⟩ rfl (Nat.le_of_ble_eq_true rfl) dL_isRight_296 ?_
    try dsimp only [Option.toList, List.cons_append, List.nil_append]
    refine s_iadd hK dL_isRight_299 ?_
    refine s_sipush (v := 192) hK dL_isRight_300 (by decide) ?_
    refine s_icmp_ne (tgt := 392) hK dL_isRight_303 (by decide) (fun c_303 => absurd c_303 (fun q => q (by rw [Int32.add_assoc, Int32.sub_add_cancel]))) (fun c_303 => ?_)
    refine s_iload6 hK dL_isRight_306 ?_
    refine s_aload0 hK dL_isRight_308 ?_
    refine s_bipush (v := 15) hK dL_isRight_309 (by decide) ?_
    refine s_callV (ci := 6) hK mdX6_count (c15) gL_isRight_X6_count rfl rfl rfl (by decide) rfl ⟨Nat.le_of_ble_eq_true rfl, Nat.le_of_ble_eq_true rfl⟩ rfl (Nat.le_of_ble_eq_true rfl) dL_isRight_311 ?_
    try dsimp only [Option.toList, List.cons_append, List.nil_append]
    refine s_icmp_ne (tgt := 392) hK dL_isRight_314 (by decide) (fun c_314 => absurd c_314 (fun q => q rfl)) (fun c_314 => ?_)
    refine s_iload3 hK dL_isRight_317 ?_
    refine s_aload0 hK dL_isRight_318 ?_
    refine s_iload1 hK dL_isRight_319 ?_
    refine s_iload2 hK dL_isRight_320 ?_
    refine s_iconst (v := 0) hK dL_isRight_321 (by decide) ?_
    refine s_callV (ci := 6) hK mdX6_faults (f0) gL_isRight_X6_faults rfl rfl rfl (by decide) rfl ⟨Nat.le_of_ble_eq_true rfl, Nat.le_of_ble_eq_true rfl⟩ rfl (Nat.le_of_ble_eq_true rfl) dL_isRight_322 ?_
    try dsimp only [Option.toList, List.cons_append, List.nil_append]
    refine s_icmp_ne (tgt := 392) hK dL_isRight_325 (by decide) (fun c_325 => absurd c_325 (fun q => q rfl)) (fun c_325 => ?_)
    refine s_iload4 hK dL_isRight_328 ?_
    refine s_aload0 hK dL_isRight_330 ?_
    refine s_iload1 hK dL_isRight_331 ?_
    refine s_iload2 hK dL_isRight_332 ?_
    refine s_iconst (v := 1) hK dL_isRight_333 (by decide) ?_
    refine s_callV (ci := 6) hK mdX6_faults (f1) gL_isRight_X6_faults rfl rfl rfl (by decide) rfl ⟨Nat.le_of_ble_eq_true rfl, Nat.le_of_ble_eq_true rfl⟩ rfl (Nat.le_of_ble_eq_true rfl) dL_isRight_334 ?_
    try dsimp only [Option.toList, List.cons_append, List.nil_append]
    refine s_icmp_ne (tgt := 392) hK dL_isRight_337 (by decide) (fun c_337 => absurd c_337 (fun q => q rfl)) (fun c_337 => ?_)
    refine s_iload5 hK dL_isRight_340 ?_
    refine s_aload0 hK dL_isRight_342 ?_
    refine s_iload1 hK dL_isRight_343 ?_
    refine s_iload2 hK dL_isRight_344 ?_
    refine s_iconst (v := 2) hK dL_isRight_345 (by decide) ?_
    refine s_callV (ci := 6) hK mdX6_faults (f2) gL_isRight_X6_faults rfl rfl rfl (by decide) rfl ⟨Nat.le_of_ble_eq_true rfl, Nat.le_of_ble_eq_true rfl⟩ rfl (Nat.le_of_ble_eq_true rfl) dL_isRight_346 ?_
    try dsimp only [Option.toList, List.cons_append, List.nil_append]
    refine s_icmp_ne (tgt := 392) hK dL_isRight_349 (by decide) (fun c_349 => absurd c_349 (fun q => q rfl)) (fun c_349 => ?_)
    refine s_iload1 hK dL_isRight_352 ?_
    refine s_bipush (v := -8) hK dL_isRight_353 (by decide) ?_
    refine s_icmp_lt (tgt := 392) hK dL_isRight_355 (by decide) (fun c_355 => absurd c_355 hx8.1) (fun c_355 => ?_)
    refine s_iload1 hK dL_isRight_358 ?_
    refine s_bipush (v := 8) hK dL_isRight_359 (by decide) ?_
    refine s_icmp_gt (tgt := 392) hK dL_isRight_361 (by decide) (fun c_361 => absurd c_361 hx8.2) (fun c_361 => ?_)
    refine s_iload2 hK dL_isRight_364 ?_
    refine s_bipush (v := -8) hK dL_isRight_365 (by decide) ?_
    refine s_icmp_lt (tgt := 392) hK dL_isRight_367 (by decide) (fun c_367 => absurd c_367 hy8.1) (fun c_367 => ?_)
    refine s_iload2 hK dL_isRight_370 ?_
    refine s_bipush (v := 8) hK dL_isRight_371 (by decide) ?_
    refine s_icmp_gt (tgt := 392) hK dL_isRight_373 (by decide) (fun c_373 => absurd c_373 hy8.2) (fun c_373 => ?_)
    refine s_aload0 hK dL_isRight_376 ?_
    refine s_iconst (v := 2) hK dL_isRight_377 (by decide) ?_
    refine s_callV (ci := 6) hK mdX6_bestPins (bp) gL_isRight_X6_bestPins rfl rfl rfl (by decide) rfl ⟨Nat.le_of_ble_eq_true rfl, Nat.le_of_ble_eq_true rfl⟩ rfl (Nat.le_of_ble_eq_true rfl) dL_isRight_378 ?_
    try dsimp only [Option.toList, List.cons_append, List.nil_append]
    refine s_iload3 hK dL_isRight_381 ?_
    refine s_iload4 hK dL_isRight_382 ?_
    refine s_iadd hK dL_isRight_384 ?_
    refine s_icmp_gt (tgt := 392) hK dL_isRight_385 (by decide) (fun c_385 => absurd c_385 (Int32.not_lt.mpr hbest)) (fun c_385 => ?_)
    refine s_iconst (v := 1) hK dL_isRight_388 (by decide) ?_
    refine s_goto (tgt := 393) hK dL_isRight_389 (by decide) ?_
    exact s_iret hK hE dL_isRight_393 (by decide) (rfl) (rfl)
  have hb1 : ∀ k1 : Nat, k1 < 12 → (∀ τ : aS, iK τ = S → ((k1 + 1) ≠ 0 → τ = S) → ∀ z8 z9 z10 z11 z12 : Option Value, AW K 28 [some (.ref 600), some (.int SX), some (.int SY), some (.int (nI (fb_ct (gG S 10 607 14 SX SY) (16 * (k1 + 1))))), some (.int (nI (fb_ct (gS S 10 14 SX SY) (16 * (k1 + 1))))), some (.int (nI (fb_ct (gLo S 10 607) (16 * (k1 + 1))))), some (.int (nI (fb_ct (wkB S) (16 * (k1 + 1))))), some (.int (nI (k1 + 1))), z8, z9, z10, z11, z12] [] τ) → (∀ τ : aS, iK τ = S → (k1 ≠ 0 → τ = S) → ∀ z8 z9 z10 z11 z12 : Option Value, AW K 28 [some (.ref 600), some (.int SX), some (.int SY), some (.int (nI (fb_ct (gG S 10 607 14 SX SY) (16 * k1)))), some (.int (nI (fb_ct (gS S 10 14 SX SY) (16 * k1)))), some (.int (nI (fb_ct (gLo S 10 607) (16 * k1)))), some (.int (nI (fb_ct (wkB S) (16 * k1)))), some (.int (nI k1)), z8, z9, z10, z11, z12] [] τ) := by
    intro k1 hk1 ih1 τ e1 e2 z8 z9 z10 z11 z12
    have hx2 : (∀ τ : aS, iK τ = S → (k1 ≠ 0 ∨ 16 ≠ 0 → τ = S) → ∀ z9 z10 z11 z12 : Option Value, AW K 38 [some (.ref 600), some (.int SX), some (.int SY), some (.int (nI (fb_ct (gG S 10 607 14 SX SY) (16 * k1 + 16)))), some (.int (nI (fb_ct (gS S 10 14 SX SY) (16 * k1 + 16)))), some (.int (nI (fb_ct (gLo S 10 607) (16 * k1 + 16)))), some (.int (nI (fb_ct (wkB S) (16 * k1 + 16)))), some (.int (nI k1)), some (.int (nI 16)), z9, z10, z11, z12] [] τ) := by
      intro τ e1 e2 z9 z10 z11 z12
      rw [e2 (Or.inr (by decide))]
      refine s_iload8 hK dL_isRight_38 ?_
      refine s_bipush (v := 16) hK dL_isRight_40 (by decide) ?_
      refine s_icmp_ge (tgt := 274) hK dL_isRight_42 (by decide) (fun c_42 => ?_) (fun c_42 => absurd c_42 (fun q => q (ge_E rfl rfl)))
      refine s_iinc7 hK dL_isRight_274 (hv_1 _) ?_
      refine s_goto (tgt := 28) hK dL_isRight_277 (by decide) ?_
      exact AW.to (ih1 S hSS (fun _ => rfl) _ _ _ _ _) (by rw [nI_1, Nat.mul_succ]) rfl
    have hb2 : ∀ k2 : Nat, k2 < 16 → (∀ τ : aS, iK τ = S → (k1 ≠ 0 ∨ (k2 + 1) ≠ 0 → τ = S) → ∀ z9 z10 z11 z12 : Option Value, AW K 38 [some (.ref 600), some (.int SX), some (.int SY), some (.int (nI (fb_ct (gG S 10 607 14 SX SY) (16 * k1 + (k2 + 1))))), some (.int (nI (fb_ct (gS S 10 14 SX SY) (16 * k1 + (k2 + 1))))), some (.int (nI (fb_ct (gLo S 10 607) (16 * k1 + (k2 + 1))))), some (.int (nI (fb_ct (wkB S) (16 * k1 + (k2 + 1))))), some (.int (nI k1)), some (.int (nI (k2 + 1))), z9, z10, z11, z12] [] τ) → (∀ τ : aS, iK τ = S → (k1 ≠ 0 ∨ k2 ≠ 0 → τ = S) → ∀ z9 z10 z11 z12 : Option Value, AW K 38 [some (.ref 600), some (.int SX), some (.int SY), some (.int (nI (fb_ct (gG S 10 607 14 SX SY) (16 * k1 + k2)))), some (.int (nI (fb_ct (gS S 10 14 SX SY) (16 * k1 + k2)))), some (.int (nI (fb_ct (gLo S 10 607) (16 * k1 + k2)))), some (.int (nI (fb_ct (wkB S) (16 * k1 + k2)))), some (.int (nI k1)), some (.int (nI k2)), z9, z10, z11, z12] [] τ) := by
      intro k2 hk2 ih2 τ e1 e2 z9 z10 z11 z12
      have hn : 16 * k1 + k2 < 192 := by omega
      have a1 := hwhy τ e1 k2 k1 hk2 hk1
      have a2 := hk0 k2 k1 hk2 hk1
      have a3 := hk4 k2 k1 hk2 hk1
      have a4 := hpr k2 k1 hk2 hk1
      have a5 := zX6_cell_3 (g := kG K) (l := kL K) (σ := S) (nI k2) (nI k1) (pl_nI hk2 hk1)
      have ew : wkB S (16 * k1 + k2) = true → ¬ wA S 10 (nI k2) (nI k1) ≤ S 1 3 := by
        intro q
        rw [← wn_k hSS hk2 hk1] at q
        unfold wn at q
        rw [Bool.and_eq_true] at q
        exact of_decide_eq_true q.2
      have ei : wkB S (16 * k1 + k2) = true → px S 611 (16 * k1 + k2) = false := by
        intro q
        unfold wkB at q
        rw [Bool.and_eq_true] at q
        cases c : px S 611 (16 * k1 + k2) with
        | false => rfl
        | true => rw [c] at q; exact absurd q.2 (by decide)
      have eG : gG S 10 607 14 SX SY (16 * k1 + k2) = ((px S 15 (16 * k1 + k2) || px S 16 (16 * k1 + k2)) && !(px S 611 (16 * k1 + k2) || shp S 18 SX SY (16 * k1 + k2))) := rfl
      have eS : gS S 10 14 SX SY (16 * k1 + k2) = (shp S 18 SX SY (16 * k1 + k2) && !(px S 15 (16 * k1 + k2) || px S 16 (16 * k1 + k2))) := rfl
      have eL : gLo S 10 607 (16 * k1 + k2) = (px S 16 (16 * k1 + k2) && !px S 611 (16 * k1 + k2)) := rfl
      have ih := ih2 S hSS (fun _ => rfl)
      rw [← Nat.add_assoc, ← fb_b2, ← fb_b2, ← fb_b2, ← fb_b2, eG, eS, eL] at ih
      have t1 := v_gap (px S 16 (16 * k1 + k2)) (px S 15 (16 * k1 + k2)) (px S 611 (16 * k1 + k2)) (shp S 18 SX SY (16 * k1 + k2)) (wkB S (16 * k1 + k2))
      have t2 := v_spl (px S 16 (16 * k1 + k2)) (px S 15 (16 * k1 + k2)) (px S 611 (16 * k1 + k2)) (shp S 18 SX SY (16 * k1 + k2)) (wkB S (16 * k1 + k2))
      have t3 := v_lost (px S 16 (16 * k1 + k2)) (px S 15 (16 * k1 + k2)) (px S 611 (16 * k1 + k2)) (shp S 18 SX SY (16 * k1 + k2))
      have t4 := v_as (px S 16 (16 * k1 + k2)) (px S 15 (16 * k1 + k2)) (px S 611 (16 * k1 + k2)) (shp S 18 SX SY (16 * k1 + k2))
      have t5 := v_why (px S 16 (16 * k1 + k2)) (px S 15 (16 * k1 + k2)) (px S 611 (16 * k1 + k2)) (shp S 18 SX SY (16 * k1 + k2)) (wkB S (16 * k1 + k2))
      have t6 := v_worn (px S 16 (16 * k1 + k2)) (px S 15 (16 * k1 + k2)) (px S 611 (16 * k1 + k2)) (shp S 18 SX SY (16 * k1 + k2)) (wkB S (16 * k1 + k2)) ei
      generalize px S 16 (16 * k1 + k2) = bL at *
      generalize px S 15 (16 * k1 + k2) = bC at *
      generalize px S 611 (16 * k1 + k2) = bI at *
      generalize shp S 18 SX SY (16 * k1 + k2) = bD at *
      have eW : on (b2 (wkB S (16 * k1 + k2))) = b2 (wkB S (16 * k1 + k2)) := on_b2 _
      refine s_iload8 hK dL_isRight_38 ?_
      refine s_bipush (v := 16) hK dL_isRight_40 (by decide) ?_
      refine s_icmp_ge (tgt := 274) hK dL_isRight_42 (by decide) (fun c_42 => absurd c_42 (ge_N rfl rfl hk2 (by decide))) (fun c_42 => ?_)
      refine s_aload0 hK dL_isRight_45 ?_
      refine s_iload8 hK dL_isRight_46 ?_
      refine s_iload7 hK dL_isRight_48 ?_
      refine s_callV (ci := 6) hK mdX6_why (a1) gL_isRight_X6_why rfl rfl rfl (by decide) rfl ⟨Nat.le_of_ble_eq_true rfl, Nat.le_of_ble_eq_true rfl⟩ rfl (Nat.le_of_ble_eq_true rfl) dL_isRight_50 ?_
      try dsimp only [Option.toList, List.cons_append, List.nil_append]
      refine s_istore9 hK dL_isRight_53 ?_
      refine s_aload0 hK dL_isRight_55 ?_
      refine s_iload8 hK dL_isRight_56 ?_
      refine s_iload7 hK dL_isRight_58 ?_
      refine s_iconst (v := 0) hK dL_isRight_60 (by decide) ?_
      refine s_callV (ci := 6) hK mdX6_cell (a2) gL_isRight_X6_cell rfl rfl rfl (by decide) rfl ⟨Nat.le_of_ble_eq_true rfl, Nat.le_of_ble_eq_true rfl⟩ rfl (Nat.le_of_ble_eq_true rfl) dL_isRight_61 ?_
      try dsimp only [Option.toList, List.cons_append, List.nil_append]
      refine s_istore10 hK dL_isRight_64 ?_
      refine s_aload0 hK dL_isRight_66 ?_
      refine s_iload8 hK dL_isRight_67 ?_
      refine s_iload7 hK dL_isRight_69 ?_
      refine s_iload1 hK dL_isRight_71 ?_
      refine s_iload2 hK dL_isRight_72 ?_
      refine s_callV (ci := 6) hK mdX6_printed (a4) gL_isRight_X6_printed rfl rfl rfl (by decide) rfl ⟨Nat.le_of_ble_eq_true rfl, Nat.le_of_ble_eq_true rfl⟩ rfl (Nat.le_of_ble_eq_true rfl) dL_isRight_73 ?_
      try dsimp only [Option.toList, List.cons_append, List.nil_append]
      refine s_istore11 hK dL_isRight_76 ?_
      refine s_iload3 hK dL_isRight_78 ?_
      refine AW.cut (j := 96) (v := b2 ((bC || bL) && !(bI || bD))) (fun hJ_96 => ?_) ?_
      · refine s_iload9 hK dL_isRight_79 ?_
        refine s_iconst (v := 1) hK dL_isRight_81 (by decide) ?_
        refine s_icmp_eq (tgt := 91) hK dL_isRight_82 (by decide) (fun c_82 => ?_) (fun c_82 => ?_)
        · refine s_iconst (v := 1) hK dL_isRight_91 (by decide) ?_
          refine s_goto (tgt := 96) hK dL_isRight_92 (by decide) ?_
          exact AW.vv hJ_96 (by first | exact t1.1 c_82 | exact t1.2.1 c_88 | exact t1.2.2 c_82 c_88)
        · refine s_iload9 hK dL_isRight_85 ?_
          refine s_iconst (v := 2) hK dL_isRight_87 (by decide) ?_
          refine s_icmp_ne (tgt := 95) hK dL_isRight_88 (by decide) (fun c_88 => ?_) (fun c_88 => ?_)
          · refine s_iconst (v := 0) hK dL_isRight_95 (by decide) ?_
            exact AW.vv hJ_96 (by first | exact t1.1 c_82 | exact t1.2.1 c_88 | exact t1.2.2 c_82 c_88)
          · refine s_iconst (v := 1) hK dL_isRight_91 (by decide) ?_
            refine s_goto (tgt := 96) hK dL_isRight_92 (by decide) ?_
            exact AW.vv hJ_96 (by first | exact t1.1 c_82 | exact t1.2.1 c_88 | exact t1.2.2 c_82 c_88)
      show AW K _ _ _ _
      refine s_iadd hK dL_isRight_96 ?_
      refine s_istore3 hK dL_isRight_97 ?_
      refine s_iload4 hK dL_isRight_98 ?_
      refine AW.cut (j := 111) (v := b2 (bD && !(bC || bL))) (fun hJ_111 => ?_) ?_
      · refine s_iload9 hK dL_isRight_100 ?_
        refine s_iconst (v := 3) hK dL_isRight_102 (by decide) ?_
        refine s_icmp_ne (tgt := 110) hK dL_isRight_103 (by decide) (fun c_103 => ?_) (fun c_103 => ?_)
        · refine s_iconst (v := 0) hK dL_isRight_110 (by decide) ?_
          exact AW.vv hJ_111 (by first | exact t2.1 c_103 | exact t2.2 c_103)
        · refine s_iconst (v := 1) hK dL_isRight_106 (by decide) ?_
          refine s_goto (tgt := 111) hK dL_isRight_107 (by decide) ?_
          exact AW.vv hJ_111 (by first | exact t2.1 c_103 | exact t2.2 c_103)
      show AW K _ _ _ _
      refine s_iadd hK dL_isRight_111 ?_
      refine s_istore4 hK dL_isRight_112 ?_
      refine s_iload5 hK dL_isRight_114 ?_
      refine AW.cut (j := 133) (v := b2 (bL && !bI)) (fun hJ_133 => ?_) ?_
      · refine s_iload10 hK dL_isRight_116 ?_
        refine s_iconst (v := 2) hK dL_isRight_118 (by decide) ?_
        refine s_icmp_ne (tgt := 132) hK dL_isRight_119 (by decide) (fun c_119 => ?_) (fun c_119 => ?_)
        · refine s_iconst (v := 0) hK dL_isRight_132 (by decide) ?_
          exact AW.vv hJ_133 (by first | exact t3.2.1 c_119 | exact t3.2.2 c_125 | exact t3.1 c_119 c_125)
        · refine s_iload11 hK dL_isRight_122 ?_
          refine s_iconst (v := 2) hK dL_isRight_124 (by decide) ?_
          refine s_icmp_ge (tgt := 132) hK dL_isRight_125 (by decide) (fun c_125 => ?_) (fun c_125 => ?_)
          · refine s_iconst (v := 0) hK dL_isRight_132 (by decide) ?_
            exact AW.vv hJ_133 (by first | exact t3.2.1 c_119 | exact t3.2.2 c_125 | exact t3.1 c_119 c_125)
          · refine s_iconst (v := 1) hK dL_isRight_128 (by decide) ?_
            refine s_goto (tgt := 133) hK dL_isRight_129 (by decide) ?_
            exact AW.vv hJ_133 (by first | exact t3.2.1 c_119 | exact t3.2.2 c_125 | exact t3.1 c_119 c_125)
      show AW K _ _ _ _
      refine s_iadd hK dL_isRight_133 ?_
      refine s_istore5 hK dL_isRight_134 ?_
      refine s_iload6 hK dL_isRight_136 ?_
      refine s_aload0 hK dL_isRight_138 ?_
      refine s_iload8 hK dL_isRight_139 ?_
      refine s_iload7 hK dL_isRight_141 ?_
      refine s_iconst (v := 4) hK dL_isRight_143 (by decide) ?_
      refine s_callV (ci := 6) hK mdX6_cell (a3) gL_isRight_X6_cell rfl rfl rfl (by decide) rfl ⟨Nat.le_of_ble_eq_true rfl, Nat.le_of_ble_eq_true rfl⟩ rfl (Nat.le_of_ble_eq_true rfl) dL_isRight_144 ?_
      try dsimp only [Option.toList, List.cons_append, List.nil_append]
      refine s_iadd hK dL_isRight_147 ?_
      refine s_istore6 hK dL_isRight_148 ?_
      refine AW.cut (j := 182) (v := b2 (asV bL bC bI bD)) (fun hJ_182 => ?_) ?_
      · refine s_iload10 hK dL_isRight_150 ?_
        refine s_iconst (v := 2) hK dL_isRight_152 (by decide) ?_
        refine s_icmp_ne (tgt := 170) hK dL_isRight_153 (by decide) (fun c_153 => ?_) (fun c_153 => ?_)
        · refine s_iload11 hK dL_isRight_170 ?_
          refine s_iload10 hK dL_isRight_172 ?_
          refine s_icmp_ne (tgt := 181) hK dL_isRight_174 (by decide) (fun c_174 => ?_) (fun c_174 => ?_)
          · refine s_iconst (v := 0) hK dL_isRight_181 (by decide) ?_
            exact AW.vv hJ_182 (by first | exact t4.2.1 c_153 c_159 | exact t4.1 c_153 c_159 | exact t4.2.2.2 c_153 c_174 | exact t4.2.2.1 c_153 c_174)
          · refine s_iconst (v := 1) hK dL_isRight_177 (by decide) ?_
            refine s_goto (tgt := 182) hK dL_isRight_178 (by decide) ?_
            exact AW.vv hJ_182 (by first | exact t4.2.1 c_153 c_159 | exact t4.1 c_153 c_159 | exact t4.2.2.2 c_153 c_174 | exact t4.2.2.1 c_153 c_174)
        · refine s_iload11 hK dL_isRight_156 ?_
          refine s_iconst (v := 1) hK dL_isRight_158 (by decide) ?_
          refine s_icmp_le (tgt := 166) hK dL_isRight_159 (by decide) (fun c_159 => ?_) (fun c_159 => ?_)
          · refine s_iconst (v := 0) hK dL_isRight_166 (by decide) ?_
            refine s_goto (tgt := 182) hK dL_isRight_167 (by decide) ?_
            exact AW.vv hJ_182 (by first | exact t4.2.1 c_153 c_159 | exact t4.1 c_153 c_159 | exact t4.2.2.2 c_153 c_174 | exact t4.2.2.1 c_153 c_174)
          · refine s_iconst (v := 1) hK dL_isRight_162 (by decide) ?_
            refine s_goto (tgt := 182) hK dL_isRight_163 (by decide) ?_
            exact AW.vv hJ_182 (by first | exact t4.2.1 c_153 c_159 | exact t4.1 c_153 c_159 | exact t4.2.2.2 c_153 c_174 | exact t4.2.2.1 c_153 c_174)
      show AW K _ _ _ _
      refine s_istore12 hK dL_isRight_182 ?_
      refine AW.cut (j := 194) (v := b2 (asV bL bC bI bD)) (fun hJ_194 => ?_) ?_
      · refine s_iload9 hK dL_isRight_184 ?_
        refine s_if_ne (tgt := 193) hK dL_isRight_186 (by decide) (fun c_186 => ?_) (fun c_186 => ?_)
        · refine s_iconst (v := 0) hK dL_isRight_193 (by decide) ?_
          exact AW.vv hJ_194 (by first | exact t5.1 c_186 | exact t5.2 c_186)
        · refine s_iconst (v := 1) hK dL_isRight_189 (by decide) ?_
          refine s_goto (tgt := 194) hK dL_isRight_190 (by decide) ?_
          exact AW.vv hJ_194 (by first | exact t5.1 c_186 | exact t5.2 c_186)
      show AW K _ _ _ _
      refine s_iload12 hK dL_isRight_194 ?_
      refine s_icmp_ne (tgt := 266) hK dL_isRight_196 (by decide) (fun c_196 => absurd c_196 (fun q => q rfl)) (fun c_196 => ?_)
      refine AW.jn (j := 218) (fun hJ_218 => ?_) ?_
      · refine s_aload0 hK dL_isRight_199 ?_
        refine s_iload8 hK dL_isRight_200 ?_
        refine s_iload7 hK dL_isRight_202 ?_
        refine s_iconst (v := 4) hK dL_isRight_204 (by decide) ?_
        refine s_callV (ci := 6) hK mdX6_cell (a3) gL_isRight_X6_cell rfl rfl rfl (by decide) rfl ⟨Nat.le_of_ble_eq_true rfl, Nat.le_of_ble_eq_true rfl⟩ rfl (Nat.le_of_ble_eq_true rfl) dL_isRight_205 ?_
        try dsimp only [Option.toList, List.cons_append, List.nil_append]
        refine s_iconst (v := 1) hK dL_isRight_208 (by decide) ?_
        refine s_icmp_ne (tgt := 218) hK dL_isRight_209 (by decide) (fun c_209 => ?_) (fun c_209 => ?_)
        · exact hJ_218
        · refine s_iload11 hK dL_isRight_212 ?_
          refine s_iconst (v := 1) hK dL_isRight_214 (by decide) ?_
          refine s_icmp_gt (tgt := 266) hK dL_isRight_215 (by decide) (fun c_215 => absurd c_215 (t6.1 c_209)) (fun c_215 => ?_)
          exact hJ_218
      show AW K _ _ _ _
      refine AW.jn (j := 236) (fun hJ_236 => ?_) ?_
      · refine s_iload9 hK dL_isRight_218 ?_
        refine s_iconst (v := 1) hK dL_isRight_220 (by decide) ?_
        refine s_icmp_ne (tgt := 236) hK dL_isRight_221 (by decide) (fun c_221 => ?_) (fun c_221 => ?_)
        · exact hJ_236
        · refine s_aload0 hK dL_isRight_224 ?_
          refine s_iload8 hK dL_isRight_225 ?_
          refine s_iload7 hK dL_isRight_227 ?_
          refine s_iconst (v := 4) hK dL_isRight_229 (by decide) ?_
          refine s_callV (ci := 6) hK mdX6_cell (a3) gL_isRight_X6_cell rfl rfl rfl (by decide) rfl ⟨Nat.le_of_ble_eq_true rfl, Nat.le_of_ble_eq_true rfl⟩ rfl (Nat.le_of_ble_eq_true rfl) dL_isRight_230 ?_
          try dsimp only [Option.toList, List.cons_append, List.nil_append]
          refine s_if_eq (tgt := 266) hK dL_isRight_233 (by decide) (fun c_233 => absurd c_233 (t6.2.1 c_221)) (fun c_233 => ?_)
          exact hJ_236
      show AW K _ _ _ _
      refine AW.jn (j := 268) (fun hJ_268 => ?_) ?_
      · refine s_aload0 hK dL_isRight_236 ?_
        refine s_iload8 hK dL_isRight_237 ?_
        refine s_iload7 hK dL_isRight_239 ?_
        refine s_iconst (v := 4) hK dL_isRight_241 (by decide) ?_
        refine s_callV (ci := 6) hK mdX6_cell (a3) gL_isRight_X6_cell rfl rfl rfl (by decide) rfl ⟨Nat.le_of_ble_eq_true rfl, Nat.le_of_ble_eq_true rfl⟩ rfl (Nat.le_of_ble_eq_true rfl) dL_isRight_242 ?_
        try dsimp only [Option.toList, List.cons_append, List.nil_append]
        refine s_iconst (v := 1) hK dL_isRight_245 (by decide) ?_
        refine s_icmp_ne (tgt := 268) hK dL_isRight_246 (by decide) (fun c_246 => ?_) (fun c_246 => ?_)
        · exact hJ_268
        · refine s_aload0 hK dL_isRight_249 ?_
          refine s_iload8 hK dL_isRight_250 ?_
          refine s_iload7 hK dL_isRight_252 ?_
          refine s_iconst (v := 3) hK dL_isRight_254 (by decide) ?_
          refine s_callV (ci := 6) hK mdX6_cell (a5) gL_isRight_X6_cell rfl rfl rfl (by decide) rfl ⟨Nat.le_of_ble_eq_true rfl, Nat.le_of_ble_eq_true rfl⟩ rfl (Nat.le_of_ble_eq_true rfl) dL_isRight_255 ?_
          try dsimp only [Option.toList, List.cons_append, List.nil_append]
          refine s_aload0 hK dL_isRight_258 ?_
          refine s_iconst (v := 4) hK dL_isRight_259 (by decide) ?_
          refine s_callV (ci := 6) hK mdX6_count (zX6_count_4) gL_isRight_X6_count rfl rfl rfl (by decide) rfl ⟨Nat.le_of_ble_eq_true rfl, Nat.le_of_ble_eq_true rfl⟩ rfl (Nat.le_of_ble_eq_true rfl) dL_isRight_260 ?_
          try dsimp only [Option.toList, List.cons_append, List.nil_append]
          refine s_icmp_gt (tgt := 268) hK dL_isRight_263 (by decide) (fun c_263 => ?_) (fun c_263 => absurd c_263 (fun q => q (fa_of_nle (ew (t6.2.2 c_246)))))
          exact hJ_268
      show AW K _ _ _ _
      refine s_iinc8 hK dL_isRight_268 (hv_1 _) ?_
      refine s_goto (tgt := 38) hK dL_isRight_271 (by decide) ?_
      exact AW.to (ih _ _ _ _) (by rw [nI_1, eW]) rfl
    refine s_iload7 hK dL_isRight_28 ?_
    refine s_bipush (v := 12) hK dL_isRight_30 (by decide) ?_
    refine s_icmp_ge (tgt := 280) hK dL_isRight_32 (by decide) (fun c_32 => absurd c_32 (ge_N rfl rfl hk1 (by decide))) (fun c_32 => ?_)
    refine s_iconst (v := 0) hK dL_isRight_35 (by decide) ?_
    refine s_istore8 hK dL_isRight_36 ?_
    exact AW.to (up_to (fun kx => (∀ τ : aS, iK τ = S → (k1 ≠ 0 ∨ kx ≠ 0 → τ = S) → ∀ z9 z10 z11 z12 : Option Value, AW K 38 [some (.ref 600), some (.int SX), some (.int SY), some (.int (nI (fb_ct (gG S 10 607 14 SX SY) (16 * k1 + kx)))), some (.int (nI (fb_ct (gS S 10 14 SX SY) (16 * k1 + kx)))), some (.int (nI (fb_ct (gLo S 10 607) (16 * k1 + kx)))), some (.int (nI (fb_ct (wkB S) (16 * k1 + kx)))), some (.int (nI k1)), some (.int (nI kx)), z9, z10, z11, z12] [] τ)) 16 hx2 hb2 τ e1 (fun q => e2 (q.resolve_right (fun z => z rfl))) _ _ _ _) rfl rfl
  refine s_aload0 hK dL_isRight_0 ?_
  refine s_bipush (v := 8) hK dL_isRight_1 (by decide) ?_
  refine s_callV (ci := 6) hK mdX6_count (c8) gL_isRight_X6_count rfl rfl rfl (by decide) rfl ⟨Nat.le_of_ble_eq_true rfl, Nat.le_of_ble_eq_true rfl⟩ rfl (Nat.le_of_ble_eq_true rfl) dL_isRight_3 ?_
  try dsimp only [Option.toList, List.cons_append, List.nil_append]
  refine s_istore1 hK dL_isRight_6 ?_
  refine s_aload0 hK dL_isRight_7 ?_
  refine s_bipush (v := 9) hK dL_isRight_8 (by decide) ?_
  refine s_callV (ci := 6) hK mdX6_count (c9) gL_isRight_X6_count rfl rfl rfl (by decide) rfl ⟨Nat.le_of_ble_eq_true rfl, Nat.le_of_ble_eq_true rfl⟩ rfl (Nat.le_of_ble_eq_true rfl) dL_isRight_10 ?_
  try dsimp only [Option.toList, List.cons_append, List.nil_append]
  refine s_istore2 hK dL_isRight_13 ?_
  refine s_iconst (v := 0) hK dL_isRight_14 (by decide) ?_
  refine s_istore3 hK dL_isRight_15 ?_
  refine s_iconst (v := 0) hK dL_isRight_16 (by decide) ?_
  refine s_istore4 hK dL_isRight_17 ?_
  refine s_iconst (v := 0) hK dL_isRight_19 (by decide) ?_
  refine s_istore5 hK dL_isRight_20 ?_
  refine s_iconst (v := 0) hK dL_isRight_22 (by decide) ?_
  refine s_istore6 hK dL_isRight_23 ?_
  refine s_iconst (v := 0) hK dL_isRight_25 (by decide) ?_
  refine s_istore7 hK dL_isRight_26 ?_
  exact AW.to (up_to (fun kx => (∀ τ : aS, iK τ = S → (kx ≠ 0 → τ = S) → ∀ z8 z9 z10 z11 z12 : Option Value, AW K 28 [some (.ref 600), some (.int SX), some (.int SY), some (.int (nI (fb_ct (gG S 10 607 14 SX SY) (16 * kx)))), some (.int (nI (fb_ct (gS S 10 14 SX SY) (16 * kx)))), some (.int (nI (fb_ct (gLo S 10 607) (16 * kx)))), some (.int (nI (fb_ct (wkB S) (16 * kx)))), some (.int (nI kx)), z8, z9, z10, z11, z12] [] τ)) 12 hx1 hb1 σ hS.symm (fun q => absurd rfl q) _ _ _ _ _) rfl rfl
