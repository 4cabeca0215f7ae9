/-! the press's states: what stands of each, and of all that are kept -/
def Bg (f : aS) : Prop := (wR f 5 ∧ wR f 6 ∧ wR f 7 ∧ wR f 8) ∧ ∀ k, k < 192 → ∃ n, n ≤ 1005 ∧ f 9 k = nI n
def Lg (f : aS) (P : Nat) : Prop := ∃ pn la ls : Nat, pn ≤ P ∧ la < 12 ∧ ls ≤ 12 ∧ f 0 5 = nI pn ∧ f 2 1 = nI ls ∧ f 2 2 = nI la
def Gst (P : Nat) (f : aS) : Prop := (Bg (vw f 10) ∧ Bg (vw f 20) ∧ Bg (vw f 30)) ∧ (∃ v, Sset f v) ∧ Lg f P ∧ zo (f 0 8) ∧ zo (f 0 9)
def IV (P nx sz : Nat) (σ : aS) : Prop := (nx < 5 ∧ sz ≤ 5 ∧ σ 601 2 = nI nx ∧ σ 601 1 = nI sz) ∧ Gst P σ ∧ ∀ j, j < sz → Gst P (vw σ (100 * ((nx + 5 - sz + j) % 5 + 1)))
theorem Bg_cong {f g : aS} (h : Bg f) (e : BAG f g) : Bg g := by
  obtain ⟨⟨a, b, c, d⟩, w⟩ := h
  obtain ⟨e5, e6, e7, e8, e9⟩ := e
  exact ⟨⟨wR_cong e5 a, wR_cong e6 b, wR_cong e7 c, wR_cong e8 d⟩, fun k hk => by rw [e9 k hk]; exact w k hk⟩
theorem Gst_cong {P : Nat} {f g : aS} (h : Gst P f) (e : SAG f g) : Gst P g := by
  obtain ⟨⟨b1, b2, b3⟩, ⟨v, hS⟩, ⟨pn, la, ls, p1, p2, p3, p4, p5, p6⟩, z8, z9⟩ := h
  obtain ⟨a1, a2, a3, a4, ⟨a5, a5'⟩, a6, ⟨a7, a8, a9⟩, c1, c2⟩ := e
  exact ⟨⟨Bg_cong b1 a1, Bg_cong b2 a2, Bg_cong b3 a3⟩, ⟨v, Sset_cong hS a4 a7 a8 (fun _ _ _ => rfl)⟩, ⟨pn, la, ls, p1, p2, p3, a9.trans p4, a5.trans p5, a5'.trans p6⟩, by rw [c1]; exact z8, by rw [c2]; exact z9⟩
theorem Gst_up {P Q : Nat} {f : aS} (h : Gst P f) (hPQ : P ≤ Q) : Gst Q f := by
  obtain ⟨h1, h2, ⟨pn, la, ls, p1, p2⟩, h4⟩ := h
  exact ⟨h1, h2, ⟨pn, la, ls, Nat.le_trans p1 hPQ, p2⟩, h4⟩
theorem Gst_0 {P : Nat} {σ : aS} (h : Gst P (vw σ 0)) : Gst P σ := by rw [vw_0] at h; exact h
theorem Gst_1 {P : Nat} {σ : aS} (h : Gst P σ) : Gst P (vw σ 0) := by rw [vw_0]; exact h
theorem Gst_fr {P : Nat} {σ τ : aS} (h : Gst P σ) (e : ∀ o, o < 40 → τ o = σ o) : Gst P τ :=
  Gst_0 (Gst_cong (Gst_1 h) (SAG_eq (fun o ho => by rw [Nat.zero_add]; exact e o ho)))
theorem SAG_r (f : aS) : SAG f f := by
  have h : SAG (vw f 0) (vw f 0) := SAG_eq (fun _ _ => rfl)
  rw [vw_0] at h
  exact h
theorem SAG_lo {σ τ : aS} (e : ∀ o, o < 40 → τ o = σ o) : SAG σ τ := by
  have h : SAG (vw σ 0) (vw τ 0) := SAG_eq (fun o ho => by rw [Nat.zero_add]; exact e o ho)
  rw [vw_0, vw_0] at h
  exact h
theorem IV_up {P Q nx sz : Nat} {σ : aS} (h : IV P nx sz σ) (hPQ : P ≤ Q) : IV Q nx sz σ := ⟨h.1, Gst_up h.2.1 hPQ, fun j hj => Gst_up (h.2.2 j hj) hPQ⟩
theorem IV_eq {P nx sz : Nat} {σ τ : aS} (h : IV P nx sz σ) (e : ∀ o, o < 602 → τ o = σ o) : IV P nx sz τ := by
  obtain ⟨⟨h1, h2, h3, h4⟩, h5, h6⟩ := h
  refine ⟨⟨h1, h2, ?_, ?_⟩, Gst_fr h5 (fun o ho => e o (by omega)), fun j hj => Gst_cong (h6 j hj) (SAG_eq (fun o ho => e _ (by omega)))⟩
  · rw [e 601 (by decide)]; exact h3
  · rw [e 601 (by decide)]; exact h4
theorem IV_WB {P nx sz : Nat} {σ : aS} (h : IV P nx sz σ) : WB σ := by
  obtain ⟨⟨⟨a, b, c, d⟩, _⟩, _⟩ := h.2.1.1
  exact ⟨a, b, c, d⟩
theorem IV_NX {P nx sz : Nat} {σ : aS} (h : IV P nx sz σ) : NX σ nx := ⟨h.1.1, h.1.2.2.1, h.2.1.2.2.2.1, h.2.1.2.2.2.2⟩
theorem IV_iK {P nx sz : Nat} {σ : aS} (h : IV P nx sz σ) : IV P nx sz (iK σ) := IV_eq h (fun o ho => iK_ne (by omega))
/-- an action: it keeps the state, and leaves a new one -/
theorem IV_act {P Q nx sz : Nat} {σ τ : aS} (h : IV P nx sz σ) (hPQ : P ≤ Q) (e1 : ∀ o, 100 ≤ o → o < 602 → τ o = kp σ nx o) (hG : Gst Q τ) : IV Q ((nx + 1) % 5) (min (sz + 1) 5) τ ∧ SAG σ (vw τ (100 * (nx + 1))) := by
  obtain ⟨⟨h1, h2, h3, h4⟩, h5, h6⟩ := h
  have hs0 : SAG (vw σ 0) (vw τ (100 * (nx + 1))) := SAG_t (kp_cp h1) (SAG_eq (fun o ho => e1 _ (by omega) (by omega)))
  have hs : SAG σ (vw τ (100 * (nx + 1))) := by rw [vw_0] at hs0; exact hs0
  have hold : ∀ p, p < 5 → p ≠ nx → Gst P (vw σ (100 * (p + 1))) → Gst Q (vw τ (100 * (p + 1))) := fun p hp hne hg =>
    Gst_up (Gst_cong hg (SAG_eq (fun o ho => (e1 _ (by omega) (by omega)).trans (kp_ne (by omega) (by omega))))) hPQ
  refine ⟨⟨⟨by omega, by omega, ?_, ?_⟩, hG, fun j hj => ?_⟩, hs⟩
  · rw [e1 601 (by decide) (by decide), kp_2]
  · rw [e1 601 (by decide) (by decide), kp_1, h4]
    exact sz_up sz h2
  · rcases Nat.lt_or_ge sz 5 with q | q
    · rw [show min (sz + 1) 5 = sz + 1 by omega] at hj ⊢
      by_cases qj : j = sz
      · subst qj
        rw [show ((nx + 1) % 5 + 5 - (j + 1) + j) % 5 = nx by omega]
        exact Gst_up (Gst_cong h5 hs) hPQ
      · rw [show ((nx + 1) % 5 + 5 - (sz + 1) + j) % 5 = (nx + 5 - sz + j) % 5 by omega]
        exact hold _ (by omega) (by omega) (h6 j (by omega))
    · have q5 : sz = 5 := by omega
      subst q5
      rw [show min (5 + 1) 5 = 5 by decide] at hj ⊢
      by_cases qj : j = 4
      · subst qj
        rw [show ((nx + 1) % 5 + 5 - 5 + 4) % 5 = nx by omega]
        exact Gst_up (Gst_cong h5 hs) hPQ
      · have I := h6 (j + 1) (by omega)
        rw [show ((nx + 1) % 5 + 5 - 5 + j) % 5 = (nx + 5 - 5 + (j + 1)) % 5 by omega]
        exact hold _ (by omega) (by omega) I
theorem gB_old {σ : aS} {nx o : Nat} (h : 40 ≤ o) (h2 : o ≠ 601) : gB_ σ nx o = σ o := by
  unfold gB_
  rw [sB_ne (by omega), sP_ne h2, sP_ne h2]
theorem gB_2 {σ : aS} {nx : Nat} : gB_ σ nx 601 2 = nI ((nx + 4) % 5) := by
  unfold gB_
  rw [sB_ne (by omega), sP_same, pk_un (by decide), sP_same, pk_us]
theorem gB_1 {σ : aS} {nx sz : Nat} (h : σ 601 1 = nI (sz + 1)) (hs : sz < 5) : gB_ σ nx 601 1 = nI sz := by
  unfold gB_
  rw [sB_ne (by omega), sP_same, pk_us, h]
  exact sz_dn sz hs
theorem IV_undo {P nx sz : Nat} {σ : aS} (h : IV P nx (sz + 1) σ) : IV P ((nx + 4) % 5) sz (gB_ σ nx) ∧ SAG (vw σ (100 * ((nx + 4) % 5 + 1))) (gB_ σ nx) := by
  obtain ⟨⟨h1, h2, h3, h4⟩, h5, h6⟩ := h
  have hs0 := gB_cp (σ := σ) h1
  have hs : SAG (vw σ (100 * ((nx + 4) % 5 + 1))) (gB_ σ nx) := by rw [vw_0] at hs0; exact hs0
  refine ⟨⟨⟨by omega, by omega, gB_2, gB_1 h4 (by omega)⟩, ?_, fun j hj => ?_⟩, hs⟩
  · have I := h6 sz (by omega)
    rw [show (nx + 5 - (sz + 1) + sz) % 5 = (nx + 4) % 5 by omega] at I
    exact Gst_cong I hs
  · have I := h6 j (by omega)
    rw [show ((nx + 4) % 5 + 5 - sz + j) % 5 = (nx + 5 - (sz + 1) + j) % 5 by omega]
    exact Gst_cong I (SAG_eq (fun o ho => gB_old (by omega) (by omega)))
/-! what an action answers and leaves -/
def isE (r : Int32) : Prop := r = -1001 ∨ r = -1002 ∨ r = -1003
theorem isE_nI {n : Nat} (h : n < 2 ^ 31) : ¬ isE (nI n) := by
  have h1 := nI_pos' h
  rintro (e | e | e) <;> (rw [e] at h1; exact absurd h1 (by decide))
def Out (P nx sz : Nat) (σ : aS) (r : Int32) (τ : aS) : Prop := (isE r ∧ τ = σ) ∨ (¬ isE r ∧ IV P ((nx + 1) % 5) (min (sz + 1) 5) τ ∧ SAG σ (vw τ (100 * (nx + 1))))
theorem out_bad {P nx sz : Nat} {σ : aS} {r : Int32} (h : isE r) : Out P nx sz σ r σ := Or.inl ⟨h, rfl⟩
theorem out_ok {P Q nx sz : Nat} {σ τ : aS} {r : Int32} (h : IV P nx sz σ) (hPQ : P ≤ Q) (hr : ¬ isE r) (e1 : ∀ o, 100 ≤ o → o < 602 → τ o = kp σ nx o) (hG : Gst Q τ) : Out Q nx sz σ r τ := Or.inr ⟨hr, IV_act h hPQ e1 hG⟩
theorem Gst_blk {P : Nat} {σ τ : aS} (h : Gst P σ) (hB : Bg (vw τ 10)) (e : ∀ o, (o < 10 ∨ (20 ≤ o ∧ o < 40)) → τ o = σ o) : Gst P τ := by
  obtain ⟨⟨_, b2, b3⟩, ⟨v, hS⟩, ⟨pn, la, ls, p1, p2, p3, p4, p5, p6⟩, z8, z9⟩ := h
  have e0 : τ 0 = σ 0 := e 0 (by omega)
  have e1 : τ 1 = σ 1 := e 1 (by omega)
  have e2 : τ 2 = σ 2 := e 2 (by omega)
  have eB : ∀ q, 20 ≤ q → q + 10 ≤ 40 → BAG (vw σ q) (vw τ q) := fun q h1 h2 => BAG_eq (fun o h5 h10 => vw_eq (e _ (by omega)))
  exact ⟨⟨hB, Bg_cong b2 (eB 20 (by decide) (by decide)), Bg_cong b3 (eB 30 (by decide) (by decide))⟩, ⟨v, Sset_cong hS (fun k _ => by rw [e1]) (by rw [e0]) (by rw [e0]) (fun _ _ _ => rfl)⟩, ⟨pn, la, ls, p1, p2, p3, by rw [e0]; exact p4, by rw [e2]; exact p5, by rw [e2]; exact p6⟩, by rw [e0]; exact z8, by rw [e0]; exact z9⟩
theorem Bg_of {σ : aS} (h : Bg (vw σ 10)) : (wR σ 15 ∧ wR σ 16 ∧ wR σ 17 ∧ wR σ 18) ∧ ∀ k, k < 192 → ∃ n, n ≤ 1005 ∧ σ 19 k = nI n := h
theorem Bg_to {σ : aS} (h : (wR σ 15 ∧ wR σ 16 ∧ wR σ 17 ∧ wR σ 18) ∧ ∀ k, k < 192 → ∃ n, n ≤ 1005 ∧ σ 19 k = nI n) : Bg (vw σ 10) := h
theorem Gst_kp {P : Nat} {σ : aS} {nx : Nat} (h : Gst P σ) : Gst P (kp σ nx) := Gst_fr h (fun o ho => kp_lo (by omega))
/-! paint -/
def PJ (B0 : aS) (P : aS × Int32) (n : Nat) : Prop := (wR P.1 15 ∧ wR P.1 16) ∧ (∃ m : Nat, m ≤ n ∧ P.2 = nI m) ∧ ∀ o, o ≠ 15 → o ≠ 16 → P.1 o = B0 o
theorem pj_step {B0 : aS} {P : aS × Int32} {kind : Int32} {x y n : Nat} (h : PJ B0 P n) (hx : x < 16) (hy : y < 12) : PJ B0 (fx1 P.1 10 kind (nI x) (nI y), P.2 + on (if kA P.1 10 (nI x) (nI y) = kind then 0 else 1)) (n + 1) := by
  obtain ⟨⟨w5, w6⟩, ⟨m, hm, e⟩, h3⟩ := h
  refine ⟨⟨?_, ?_⟩, ?_, fun o a b => ?_⟩
  · show wR (pt (pt P.1 15 (nI x) (nI y) (if kind = 1 then 1 else 0)) 16 (nI x) (nI y) (if kind = 2 then 1 else 0)) 15
    exact wR_to (pt_wR hx hy _ w5) (pt_ne (by decide))
  · show wR (pt (pt P.1 15 (nI x) (nI y) (if kind = 1 then 1 else 0)) 16 (nI x) (nI y) (if kind = 2 then 1 else 0)) 16
    exact pt_wR hx hy _ (wR_to w6 (pt_ne (by decide)))
  · show ∃ m : Nat, m ≤ n + 1 ∧ P.2 + on (if kA P.1 10 (nI x) (nI y) = kind then 0 else 1) = nI m
    by_cases c : kA P.1 10 (nI x) (nI y) = kind
    · rw [if_pos c, show on 0 = 0 from rfl, Int32.add_zero]
      exact ⟨m, by omega, e⟩
    · rw [if_neg c, show on 1 = 1 from rfl, e, nI_1]
      exact ⟨m + 1, by omega, rfl⟩
  · show pt (pt P.1 15 (nI x) (nI y) (if kind = 1 then 1 else 0)) 16 (nI x) (nI y) (if kind = 2 then 1 else 0) o = B0 o
    rw [pt_ne b, pt_ne a]
    exact h3 o a b
theorem pj_row {B0 : aS} {kind : Int32} {x0 y n0 : Nat} (hy : y < 12) {P : aS × Int32} (h : PJ B0 P n0) : ∀ n, x0 + n ≤ 16 → PJ B0 (fR 10 kind (nI y) x0 P n) (n0 + n)
  | 0, _ => h
  | n + 1, hn => pj_step (pj_row hy h n (by omega)) (show x0 + n < 16 by omega) hy
theorem pj_area {B0 : aS} {kind : Int32} {x0 y0 wd : Nat} (hw : x0 + wd ≤ 16) {P : aS × Int32} (h : PJ B0 P 0) : ∀ m, y0 + m ≤ 12 → PJ B0 (fA 10 kind x0 y0 wd P m) (16 * m)
  | 0, _ => h
  | m + 1, hm => by
    have I0 : PJ B0 (fA 10 kind x0 y0 wd P m) (16 * m) := pj_area (kind := kind) (y0 := y0) hw h m (by omega)
    have I := pj_row (kind := kind) (x0 := x0) (y := y0 + m) (by omega) I0 wd hw
    obtain ⟨a, ⟨q, b, c⟩, d⟩ := I
    exact ⟨a, ⟨q, by omega, c⟩, d⟩
section OU
variable {g : aG} {l : Launch} {σ : aS} {P nx sz : Nat}
theorem out_paint (h : IV P nx sz σ) (x y w t k : Int32) : ∃ (r : Int32) (τ : aS), CN g l yX6_paint wsX6_paint 5 111 [.ref 600, .int x, .int y, .int w, .int t, .int k] σ (some (.int r)) τ ∧ Out P nx sz σ r τ := by
  cases hp : pvP x y w t k with
  | false => exact ⟨_, _, zX6_paint_bad x y w t k hp, out_bad (Or.inl rfl)⟩
  | true =>
    obtain ⟨x0, y0, wd, ht, ⟨rfl, rfl, rfl, rfl⟩, a1, a2, a3, a4, a5, a6, a7⟩ := pv_of hp
    have hx := zX6_paint_ok (g := g) (l := l) nx x0 y0 wd ht k (IV_NX h) a1 a2 a3 a4 a5 a6 a7
    have hB := Bg_of (Gst_kp (nx := nx) h.2.1).1.1
    have I := pj_area (kind := k) (y0 := y0) a4 (P := (kp σ nx, 0)) (B0 := kp σ nx) ⟨⟨hB.1.1, hB.1.2.1⟩, ⟨0, Nat.le_refl _, rfl⟩, fun _ _ _ => rfl⟩ ht a6
    generalize fA 10 k x0 y0 wd (kp σ nx, 0) ht = X at hx I
    obtain ⟨⟨w5, w6⟩, ⟨m, hm, e⟩, h3⟩ := I
    refine ⟨_, _, hx, out_ok h (Nat.le_refl _) (by rw [e]; exact isE_nI (by omega)) (fun o a b => h3 o (by omega) (by omega)) ?_⟩
    refine Gst_blk (Gst_kp (nx := nx) h.2.1) (Bg_to ⟨⟨w5, w6, wR_to hB.1.2.2.1 (h3 17 (by decide) (by decide)), wR_to hB.1.2.2.2 (h3 18 (by decide) (by decide))⟩, fun j hj => ?_⟩) (fun o ho => h3 o (by omega) (by omega))
    rw [h3 19 (by decide) (by decide)]
    exact hB.2 j hj
theorem out_cut (h : IV P nx sz σ) (t : Int32) : ∃ (r : Int32) (τ : aS), CN g l yX6_cut wsX6_cut 5 111 [.ref 600, .int t] σ (some (.int r)) τ ∧ Out P nx sz σ r τ := by
  cases ht : wi t 0 4 with
  | false => exact ⟨_, _, zX6_cut_bad t ht, out_bad (Or.inl rfl)⟩
  | true =>
    obtain ⟨n, _, hn, rfl⟩ := wi_nat (lo := 0) (hi := 4) (by decide) (by decide) ht
    have hW := IV_WB h
    have hx := zX6_cut_ok (g := g) (l := l) nx n (IV_NX h) hW hn
    have hB := Bg_of (Gst_kp (nx := nx) h.2.1).1.1
    have eo : ∀ o, o ≠ 17 → o ≠ 18 → o ≠ 19 → cAn (kp σ nx) 10 n o = kp σ nx o := fun o a b c => by
      unfold cAn
      rw [cNt_ne (show o ≠ 18 from b), sP_ne (show o ≠ 19 from c), bL_ne (show o ≠ 17 from a)]
    have e17 : wR (cAn (kp σ nx) 10 n) 17 := by
      have : wR (bL (kp σ nx) 17 16) 17 := wR_bL hB.1.2.1
      refine wR_to this ?_
      unfold cAn
      rw [cNt_ne (by decide), sP_ne (by decide)]
    have e19 : ∀ k, k < 192 → cAn (kp σ nx) 10 n 19 k = 0 := fun k hk => by
      unfold cAn
      rw [cNt_ne (by decide), show (10 + 9 : Nat) = 19 from rfl, sP_same, fa_fill_in hk]
    have e18 : wR (cAn (kp σ nx) 10 n) 18 := wR_cAn hW.kp
    have hc := ct_le (px (cAn (kp σ nx) 10 n) 18)
    generalize cAn (kp σ nx) 10 n = X at hx eo e17 e18 e19 hc
    refine ⟨_, _, hx, out_ok h (Nat.le_refl _) (isE_nI (by omega)) (fun o a b => eo o (by omega) (by omega) (by omega)) ?_⟩
    exact Gst_blk (Gst_kp (nx := nx) h.2.1) (Bg_to ⟨⟨wR_to hB.1.1 (eo 15 (by decide) (by decide) (by decide)), wR_to hB.1.2.1 (eo 16 (by decide) (by decide) (by decide)), e17, e18⟩, fun j hj => ⟨0, by omega, e19 j hj⟩⟩) (fun o ho => eo o (by omega) (by omega) (by omega))
theorem isE_b2 (b : Bool) : ¬ isE (on (b2 b)) := by
  rw [on_b2]
  cases b
  · exact isE_nI (n := 0) (by decide)
  · exact isE_nI (n := 1) (by decide)
theorem out_carve (h : IV P nx sz σ) (b x y z : Int32) : ∃ (r : Int32) (τ : aS), CN g l yX6_carve wsX6_carve 5 111 [.ref 600, .int b, .int x, .int y, .int z] σ (some (.int r)) τ ∧ Out P nx sz σ r τ := by
  cases hp : (wi b 0 1 && (pl x y && wi z 0 1)) with
  | false => exact ⟨_, _, zX6_carve_bad b x y z hp, out_bad (Or.inl rfl)⟩
  | true =>
    rw [Bool.and_eq_true, Bool.and_eq_true] at hp
    obtain ⟨q1, q2, hz⟩ := hp
    have hB := Bg_of (Gst_kp (nx := nx) h.2.1).1.1
    obtain ⟨i, j, hi, hj, rfl, rfl⟩ := pl_in q2
    rcases wi01 q1 with rfl | rfl
    · have hx := zX6_carve_0 (g := g) (l := l) nx (nI i) (nI j) z (IV_NX h) q2 hz
      generalize hX : cW (pt (kp σ nx) 17 (nI i) (nI j) (if z = 1 then 1 else 0)) 10 (nI i) (nI j) = X at hx
      have x17 : wR X 17 := by
        rw [← hX]
        exact wR_to (pt_wR hi hj _ hB.1.2.2.1) (cW_ne (by decide))
      have x19 : X 19 = upd (kp σ nx 19) (16 * j + i) 0 := by
        rw [← hX, cW_at hi hj, sP_same, pt_ne (by decide)]
      have xo : ∀ o, o ≠ 17 → o ≠ 19 → X o = kp σ nx o := fun o a b => by rw [← hX, cW_ne b, pt_ne a]
      refine ⟨_, _, hx, out_ok h (Nat.le_refl _) (isE_b2 _) (fun o a b => xo o (by omega) (by omega)) ?_⟩
      refine Gst_blk (Gst_kp (nx := nx) h.2.1) (Bg_to ⟨⟨wR_to hB.1.1 (xo 15 (by decide) (by decide)), wR_to hB.1.2.1 (xo 16 (by decide) (by decide)), x17, wR_to hB.1.2.2.2 (xo 18 (by decide) (by decide))⟩, fun k hk => ?_⟩) (fun o ho => xo o (by omega) (by omega))
      rw [x19]
      by_cases c : k = 16 * j + i
      · rw [c, pk_us]
        exact ⟨0, by omega, rfl⟩
      · rw [pk_un c]
        exact hB.2 k hk
    · have hx := zX6_carve_1 (g := g) (l := l) nx (nI i) (nI j) z (IV_NX h) q2 hz
      generalize hX : pt (kp σ nx) 18 (nI i) (nI j) (if z = 1 then 1 else 0) = X at hx
      have x18 : wR X 18 := by
        rw [← hX]
        exact pt_wR hi hj _ hB.1.2.2.2
      have xo : ∀ o, o ≠ 18 → X o = kp σ nx o := fun o a => by rw [← hX, pt_ne a]
      refine ⟨_, _, hx, out_ok h (Nat.le_refl _) (isE_b2 _) (fun o a b => xo o (by omega)) ?_⟩
      refine Gst_blk (Gst_kp (nx := nx) h.2.1) (Bg_to ⟨⟨wR_to hB.1.1 (xo 15 (by decide)), wR_to hB.1.2.1 (xo 16 (by decide)), wR_to hB.1.2.2.1 (xo 17 (by decide)), x18⟩, fun k hk => ?_⟩) (fun o ho => xo o (by omega))
      rw [xo 19 (by decide)]
      exact hB.2 k hk
theorem wC_nI (s : aS) : ∃ n : Nat, n ≤ 192 ∧ wC s = nI n := by
  have h1 := ct_le (px (iK s) 17)
  have h2 : ct (px (iK s) 611) ≤ ct (px (iK s) 17) := fb_ct_sub (fun k hk q => by
    rw [iK_px s hk, Bool.and_eq_true] at q
    rw [px_iK s (by decide)]
    exact q.1)
  refine ⟨ct (px (iK s) 17) - ct (px (iK s) 611), by omega, ?_⟩
  unfold wC
  exact pk_sub h2
theorem out_plug (h : IV P nx sz σ) (x y : Int32) : ∃ (r : Int32) (τ : aS), CN g l yX6_plug wsX6_plug 5 111 [.ref 600, .int x, .int y] σ (some (.int r)) τ ∧ Out P nx sz σ r τ := by
  cases hp : pl x y with
  | false => exact ⟨_, _, zX6_plug_bad x y hp, out_bad (Or.inl rfl)⟩
  | true =>
    cases hw : wn σ 10 x y (σ 1 3) with
    | false => exact ⟨_, _, zX6_plug_ill x y hp hw, out_bad (Or.inr (Or.inl rfl))⟩
    | true =>
      have hx := zX6_plug_ok (g := g) (l := l) nx x y (IV_NX h) (IV_WB h) hp hw
      have hB := Bg_of (Gst_kp (nx := nx) h.2.1).1.1
      obtain ⟨i, j, hi, hj, rfl, rfl⟩ := pl_in hp
      obtain ⟨n, hn, e⟩ := wC_nI (cW (kp σ nx) 10 (nI i) (nI j))
      rw [e] at hx
      generalize hX : iK (cW (kp σ nx) 10 (nI i) (nI j)) = X at hx
      have x19 : X 19 = upd (kp σ nx 19) (16 * j + i) 0 := by
        rw [← hX, iK_ne (by decide), cW_at hi hj, sP_same]
      have xo : ∀ o, o ≠ 611 → o ≠ 19 → X o = kp σ nx o := fun o a b => by rw [← hX, iK_ne a, cW_ne b]
      refine ⟨_, _, hx, out_ok h (Nat.le_refl _) (isE_nI (by omega)) (fun o a b => xo o (by omega) (by omega)) ?_⟩
      refine Gst_blk (Gst_kp (nx := nx) h.2.1) (Bg_to ⟨⟨wR_to hB.1.1 (xo 15 (by decide) (by decide)), wR_to hB.1.2.1 (xo 16 (by decide) (by decide)), wR_to hB.1.2.2.1 (xo 17 (by decide) (by decide)), wR_to hB.1.2.2.2 (xo 18 (by decide) (by decide))⟩, fun k hk => ?_⟩) (fun o ho => xo o (by omega) (by omega))
      rw [x19]
      by_cases c : k = 16 * j + i
      · rw [c, pk_us]
        exact ⟨0, by omega, rfl⟩
      · rw [pk_un c]
        exact hB.2 k hk
end OU
