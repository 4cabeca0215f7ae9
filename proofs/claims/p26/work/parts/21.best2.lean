/-! areBest answers true, and leaves a state as good -/
theorem trP_last {s : aS} {w k : Nat} (hk : k < trF s w) : hgB (trS s (k + 1)) 12 608 w = true := by
  have q := fa_first_no (trP s w) 5 k hk
  have q : (!hgB (trS s (k + 1)) 12 608 w) = false := q
  cases c : hgB (trS s (k + 1)) 12 608 w with
  | true => rfl
  | false => rw [c] at q; cases q
theorem trP_first {s : aS} {w t : Nat} (ht : trF s w = t) (hk : t < 5) : hgB (trS s (t + 1)) 12 608 w = false := by
  have q := fa_first_yes (trP s w) 5 (by show trF s w < 5; omega)
  have q : trP s w (trF s w) = true := q
  rw [ht] at q
  have q : (!hgB (trS s (t + 1)) 12 608 w) = true := q
  cases c : hgB (trS s (t + 1)) 12 608 w with
  | false => rfl
  | true => rw [c] at q; cases q
/-- a cut, and its tolerance -/
theorem cut_tol {g : aG} {l : Launch} {P n z t w : Nat} {s u : aS} (hs : IV P n z s) (hz : z ≤ 3) (a5 : u 15 = s 15) (a6 : u 16 = s 16) (ht : t ≤ 4) : ∃ (U T1 : Int32) (C0 C : aS), (CN g l yX6_cut wsX6_cut 5 111 [.ref 600, .int (nI t)] s (some (.int U)) C0 ∧ CN g l yX6_tolerance wsX6_tolerance 4 97 [.ref 600] C0 (some (.int T1)) C) ∧ IV P ((n + 1) % 5) (z + 1) C ∧ (U = nI (ct (px (cAn (kp s n) 10 t) 18)) ∧ C = iK (cAn (kp s n) 10 t) ∧ u 15 = C 15 ∧ u 16 = C 16) ∧ (w ≤ 4 → hgB (trS u (t + 1)) 12 608 w = true → T1 < nI w) ∧ (w < 4 → hgB (trS u (t + 1)) 12 608 w = false → ¬ T1 < nI w) := by
  obtain ⟨c1, c2⟩ := cut_ok (g := g) (l := l) hs ht
  rw [show min (z + 1) 5 = z + 1 by omega] at c2
  have e := cut_hgB (nx := n) (t := t) hs.2.1 a5 a6 w
  refine ⟨_, _, _, _, ⟨c1, zX6_tolerance (IV_WB c2)⟩, IV_iK c2, ⟨rfl, rfl, ?_, ?_⟩, fun hw h => ?_, fun hw h => ?_⟩
  · rw [iK_ne (by decide), (cut_at s n t).1 15 (by decide) (by decide) (by decide), kp_lo (by decide)]
    exact a5
  · rw [iK_ne (by decide), (cut_at s n t).1 16 (by decide) (by decide) (by decide), kp_lo (by decide)]
    exact a6
  · exact tolV_lt (by omega) (e.trans h)
  · exact tolV_ge hw (hgB_no (by omega) (e.trans h))
theorem ab_start {g : aG} {l : Launch} {σ : aS} {P nx sz : Nat} (h : IV P nx sz σ) (hsz : sz ≤ 2) (v : Int32) : ∃ (S S1 S2 : aS) (A B X Y G H : Int32) (w n2 : Nat), w < 4 ∧ IV P n2 sz S2 ∧ ABp g l v σ S S1 S2 (trE S2 w) A B X Y G H (trR S2 w) sz w := by
  obtain ⟨S, hS⟩ : ∃ S, S = iK σ := ⟨_, rfl⟩
  have hSS : iK S = S := by rw [hS, iK_iK]
  have hI : IV P nx sz S := by rw [hS]; exact IV_iK h
  have hWS : WB S := IV_WB hI
  obtain ⟨v0, hv⟩ := hI.2.1.2.1
  obtain ⟨m, hm, b0, b1, b2_⟩ := best_at S
  have hA := wi4' (m / 9) (by omega)
  have hB := wi4' (m % 9) (by omega)
  obtain ⟨s1, j1, _⟩ := out_setPins2 (g := g) (l := l) hI (nI (m / 9) - 4) (nI (m % 9) - 4) hA hB
  have hsum := pins_sum (nx := nx) hSS hv hm
  have hE1 := Sset_pins (nx := nx) hv hA hB
  rw [show min (sz + 1) 5 = sz + 1 by omega] at j1
  have hS1S : iK (iK (sPn (kp S nx) (nI (m / 9) - 4) (nI (m % 9) - 4))) = iK (sPn (kp S nx) (nI (m / 9) - 4) (nI (m % 9) - 4)) := iK_iK _
  generalize iK (sPn (kp S nx) (nI (m / 9) - 4) (nI (m % 9) - 4)) = S1 at s1 j1 hsum hE1 hS1S
  have hW1 : WB S1 := IV_WB j1
  have hx1 : sxk (S1 0 3 + dX S1 0) := sx_pin hE1 (by rw [hE1.2.1.1]; exact hE1.2.1.2)
  have hy1 : sxk (S1 0 4 + dY S1 0) := sy_pin hE1 (by rw [hE1.2.2.1]; exact hE1.2.2.2)
  have u1 := undo_ok (g := g) (l := l) j1
  have j2 := (IV_undo j1).1
  generalize gB_ S1 ((nx + 1) % 5) = S2 at u1 j2
  obtain ⟨w, hw, ew⟩ := lw_nI v (n := 4) (by decide) (by decide)
  have ew : lwV v 4 = nI w := ew
  have t2 := zX6_trapFor_ok (g := g) (l := l) (σ := S2) w (by omega) (IV_WB j2).1 (IV_WB j2).2.1
  refine ⟨S, S1, S2, _, _, _, _, _, _, w, _, hw, j2, ⟨?_, fun r b hr hb => ?_, fun a ha => ?_⟩, ⟨b0, b1, hsum.trans b2_.symm⟩, ⟨s1, zX6_count_8, zX6_count_9⟩, ⟨?_, ?_⟩, u1, ?_, t2⟩
  · have q := zX6_tolerance (g := g) (l := l) (IV_WB h)
    rw [← hS] at q
    exact q
  · have q := zL_hasGaps (g := g) (l := l) (σ := S) r hr hWS
    rw [hSS, hb] at q
    exact q
  · have q := zX6_bestPins_ok (g := g) (l := l) (σ := S) a hWS ha (fun i hi => by rw [hSS]; exact sx_pin hv (wi4' i (by omega)))
    rw [hSS] at q
    exact q
  · have q := zX6_faults_0 (g := g) (l := l) (σ := S1) (S1 0 3 + dX S1 0) (S1 0 4 + dY S1 0) (sh_of hx1 hy1) hW1
    rw [hS1S] at q
    exact q
  · have q := zX6_faults_1 (g := g) (l := l) (σ := S1) (S1 0 3 + dX S1 0) (S1 0 4 + dY S1 0) (sh_of hx1 hy1) hW1
    rw [hS1S] at q
    exact q
  · have q := zL_low (g := g) (l := l) (σ := S2) v 4 (by decide)
    rw [ew] at q
    exact q
theorem zL_areBest {g : aG} {l : Launch} {σ : aS} {P nx sz : Nat} (h : IV P nx sz σ) (hsz : sz ≤ 2) (v : Int32) : ∃ (τ : aS) (nx2 sz2 : Nat), AB g l v σ τ ∧ IV P nx2 sz2 τ := by
  obtain ⟨S, S1, S2, A, B, X, Y, G, H, w, n2, hw, j2, hp⟩ := ab_start (g := g) (l := l) h hsz v
  have j3 : IV P n2 sz (trE S2 w) := IV_eq j2 (fun o ho => trE_ne (by omega))
  have e5 : S2 15 = trE S2 w 15 := (trE_ne (by decide)).symm
  have e6 : S2 16 = trE S2 w 16 := (trE_ne (by decide)).symm
  have hle : trF S2 w ≤ 5 := fa_first_le _ 5
  unfold trR at hp
  generalize trE S2 w = S3 at hp j3 e5 e6
  obtain ⟨t, ht⟩ : ∃ t, trF S2 w = t := ⟨_, rfl⟩
  rcases Nat.lt_or_ge t 5 with q5 | q5
  · rw [ht, if_neg (by omega)] at hp
    obtain ⟨U, T1, C0, C, ⟨c1, c2⟩, c3, ⟨x1, x2, x5, x6⟩, _, hge⟩ := cut_tol (g := g) (l := l) (w := w) j3 (by omega) e5 e6 (show t ≤ 4 by omega)
    have htol := hge hw (trP_first ht q5)
    have u2 := undo_ok (g := g) (l := l) c3
    have j4 := (IV_undo c3).1
    rcases Nat.eq_zero_or_pos t with q0 | q0
    · subst q0
      rw [show nI 0 = (0 : Int32) from rfl] at hp c1
      exact ⟨_, _, _, ab_0 hp c1 c2 htol u2, j4⟩
    · obtain ⟨t, rfl⟩ : ∃ z, t = z + 1 := ⟨t - 1, by omega⟩
      obtain ⟨U2, T2, E0, E, ⟨d1, d2⟩, d3, ⟨y1, y2, _, _⟩, hlt, _⟩ := cut_tol (g := g) (l := l) (w := w) c3 (by omega) x5 x6 (show t ≤ 4 by omega)
      have htol2 := hlt (by omega) (trP_last (show t < trF S2 w by omega))
      have hmono : ¬ U < U2 := by
        rw [x1, y1]
        have q : ct (px (cAn (kp C ((n2 + 1) % 5)) 10 t) 18) ≤ ct (px (cAn (kp S3 n2) 10 (t + 1)) 18) := cut_less (x5.symm.trans e5) (x6.symm.trans e6)
        exact nI_nlt q (by have := ct_le (px (cAn (kp S3 n2) 10 (t + 1)) 18); omega)
      have u3 := undo_ok (g := g) (l := l) d3
      have j5 := (IV_undo d3).1
      have u4 := undo_ok (g := g) (l := l) j5
      exact ⟨_, _, _, ab_t (show t < 100 by omega) hp c1 c2 htol d1 d2 hmono htol2 u3 u4, (IV_undo j5).1⟩
  · have q5 : t = 5 := by omega
    subst q5
    rw [if_pos ht] at hp
    obtain ⟨U, T1, C0, C, ⟨c1, c2⟩, c3, ⟨x1, x2, x5, x6⟩, hlt, _⟩ := cut_tol (g := g) (l := l) (w := w) j3 (by omega) e5 e6 (show 4 ≤ 4 by omega)
    have htol := hlt (by omega) (trP_last (show 4 < trF S2 w by omega))
    have u2 := undo_ok (g := g) (l := l) c3
    obtain ⟨z0, z1, z2⟩ := cut_no (nx := n2) (t := 4) j3.2.1
    rw [← x2] at z0 z1 z2
    have hCC : iK C = C := by rw [x2, iK_iK]
    have k0 := zX6_faults_0 (g := g) (l := l) (σ := C) 0 0 (by decide) (IV_WB c3)
    rw [hCC, z0] at k0
    have k1 := zX6_faults_1 (g := g) (l := l) (σ := C) 0 0 (by decide) (IV_WB c3)
    rw [hCC, z1] at k1
    have k2 := zX6_faults_2 (g := g) (l := l) (σ := C) 0 0 (by decide) (IV_WB c3)
    rw [hCC, z2] at k2
    exact ⟨_, _, _, ab_n hp c1 (by rw [x1]; exact nI_pos (by have := ct_le (px (cAn (kp S3 n2) 10 4) 18); omega)) c2 htol k0 k1 k2 u2, (IV_undo c3).1⟩
