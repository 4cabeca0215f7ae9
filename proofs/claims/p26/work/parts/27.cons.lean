/-! constructors: Cells, Blocks, Log, Reader -/
def uC (o : Nat) : List Nat := o :: ([] ++ [o + 4])
def uB (b : Nat) : List Nat := b :: ([] ++ uC (b + 1) ++ uC (b + 2) ++ uC (b + 3) ++ uC (b + 4) ++ [b + 9])
def uL (o : Nat) : List Nat := o :: ([] ++ [o + 1])
def uR : List Nat := 603 :: ([] ++ [604] ++ uC 605 ++ uC 606)
theorem mem_uC {o i : Nat} : i ∈ uC o ↔ (i = o ∨ i = o + 4) := by simp [uC]
theorem mem_uB {b i : Nat} : i ∈ uB b ↔ (b ≤ i ∧ i < b + 10) := by
  simp only [uB, List.mem_cons, List.mem_append, mem_uC, List.not_mem_nil, or_false, false_or]
  omega
theorem mem_uL {o i : Nat} : i ∈ uL o ↔ (i = o ∨ i = o + 1) := by simp [uL]
theorem clo_uC {o : Nat} (h : kd o = 1) : cloB (uC o) = true := (show ∀ o, o < 707 → kd o = 1 → cloB (uC o) = true by decide +kernel) o (kd_lt (by omega)) h
theorem clo_uB {o : Nat} (h : kd o = 0) : cloB (uB o) = true := (show ∀ o, o < 707 → kd o = 0 → cloB (uB o) = true by decide +kernel) o (kd_lt (by omega)) h
theorem clo_uL {o : Nat} (h : kd o = 3) : cloB (uL o) = true := (show ∀ o, o < 707 → kd o = 3 → cloB (uL o) = true by decide +kernel) o (kd_lt (by omega)) h
theorem clo_uR : cloB uR = true := by decide +kernel
theorem clo_1 {u : Nat} (h : kd u = 8) : cloB [u] = true := (show ∀ o, o < 707 → kd o = 8 → cloB [o] = true by decide +kernel) u (kd_lt (by omega)) h
theorem clo_0 : cloB [] = true := rfl
theorem rf_self {o k : Nat} (h : kd o < 8) (hk : k < nf (kd o)) (hr : isR (kd o) k = true) : rf o k ≠ o := (show ∀ o, o < 707 → kd o < 8 → ∀ k, k < 15 → k < nf (kd o) → isR (kd o) k = true → rf o k ≠ o by decide +kernel) o (kd_lt (by omega)) h k (by have := nf_15 (kd o); omega) hk hr
theorem rf_us {o ci : Nat} {us : List Nat} (hc : cloB (o :: us) = true) (ho : kd o = ci) (h8 : ci < 8) : ∀ k, k < nf ci → isR ci k = true → rf o k ∈ us := by
  subst ho
  intro k hk hr
  rcases List.mem_cons.mp ((cloB_at hc List.mem_cons_self).2.1 h8 k hk (by have := nf_15 (kd o); omega) hr) with e | e
  · exact absurd e (rf_self h8 hk hr)
  · exact e
theorem fV_r {g : aG} {f : Nat → Nat} {o k t : Nat} (h : isR (kd o) k = true) (h2 : rf o k = t) : fV (gF g f) s0 o k = .ref (f t) := by
  unfold fV
  rw [if_pos h, h2]
  rfl
theorem fV_i {g : aG} {f : Nat → Nat} {o k : Nat} (h : isR (kd o) k = false) : fV (gF g f) s0 o k = .int (s0 o k) := by
  unfold fV
  rw [if_neg (by rw [h]; decide)]
/-- what lies in the tables of first numbers -/
theorem s0_0 {o : Nat} (h : ¬ (o < 600 ∧ o % 100 = 1)) (h2 : o ≠ 603) (h3 : o ≠ 701) : s0 o = fun _ => 0 := by
  funext k
  unfold s0
  rw [if_neg h, if_neg (fun q => h2 q.1), if_neg h3]
theorem k1_0 {o : Nat} (h : kd o = 1) : s0 (o + 4) = fun _ => 0 := (s0_0 ((show ∀ o, o < 707 → kd o = 1 → ¬ (o + 4 < 600 ∧ (o + 4) % 100 = 1) by decide +kernel) o (kd_lt (by omega)) h) ((show ∀ o, o < 707 → kd o = 1 → o + 4 ≠ 603 by decide +kernel) o (kd_lt (by omega)) h) ((show ∀ o, o < 707 → kd o = 1 → o + 4 ≠ 701 by decide +kernel) o (kd_lt (by omega)) h))
theorem k0_9 {o : Nat} (h : kd o = 0) : s0 (o + 9) = fun _ => 0 := (s0_0 ((show ∀ o, o < 707 → kd o = 0 → ¬ (o + 9 < 600 ∧ (o + 9) % 100 = 1) by decide +kernel) o (kd_lt (by omega)) h) ((show ∀ o, o < 707 → kd o = 0 → o + 9 ≠ 603 by decide +kernel) o (kd_lt (by omega)) h) ((show ∀ o, o < 707 → kd o = 0 → o + 9 ≠ 701 by decide +kernel) o (kd_lt (by omega)) h))
theorem k3_1 {o : Nat} (h : kd o = 3) : s0 (o + 1) = fun _ => 0 := by
  have q : ∀ o, o < 707 → kd o = 3 → ¬ (o < 600 ∧ o % 100 = 1) := by decide +kernel
  exact s0_0 ((show ∀ o, o < 707 → kd o = 3 → ¬ (o + 1 < 600 ∧ (o + 1) % 100 = 1) by decide +kernel) o (kd_lt (by omega)) h) ((show ∀ o, o < 707 → kd o = 3 → o + 1 ≠ 603 by decide +kernel) o (kd_lt (by omega)) h) ((show ∀ o, o < 707 → kd o = 3 → o + 1 ≠ 701 by decide +kernel) o (kd_lt (by omega)) h)
theorem k3_0 {o : Nat} (h : kd o = 3) : s0 o = fun _ => 0 := s0_0 ((show ∀ o, o < 707 → kd o = 3 → ¬ (o < 600 ∧ o % 100 = 1) by decide +kernel) o (kd_lt (by omega)) h) ((show ∀ o, o < 707 → kd o = 3 → o ≠ 603 by decide +kernel) o (kd_lt (by omega)) h) ((show ∀ o, o < 707 → kd o = 3 → o ≠ 701 by decide +kernel) o (kd_lt (by omega)) h)
theorem ln_C {o : Nat} (h : kd o = 1) : kd (o + 4) = 8 ∧ ln (o + 4) = 12 := (show ∀ o, o < 707 → kd o = 1 → kd (o + 4) = 8 ∧ ln (o + 4) = 12 by decide +kernel) o (kd_lt (by omega)) h
theorem ln_B {o : Nat} (h : kd o = 0) : (kd (o + 9) = 8 ∧ ln (o + 9) = 192) ∧ kd (o + 1) = 1 ∧ kd (o + 2) = 1 ∧ kd (o + 3) = 1 ∧ kd (o + 4) = 1 := (show ∀ o, o < 707 → kd o = 0 → (kd (o + 9) = 8 ∧ ln (o + 9) = 192) ∧ kd (o + 1) = 1 ∧ kd (o + 2) = 1 ∧ kd (o + 3) = 1 ∧ kd (o + 4) = 1 by decide +kernel) o (kd_lt (by omega)) h
theorem ln_L {o : Nat} (h : kd o = 3) : kd (o + 1) = 8 ∧ ln (o + 1) = 72 := (show ∀ o, o < 707 → kd o = 3 → kd (o + 1) = 8 ∧ ln (o + 1) = 72 by decide +kernel) o (kd_lt (by omega)) h
set_option maxHeartbeats 4000000 in
set_option maxRecDepth 100000 in
theorem zX1_init {g : aG} {l : Launch} {F : Nat} (o : Nat) (ho : kd o = 1) : CI g l F yX1_init wsX1_init 1 12 1 12 1 [.null] o (uC o) := by
  refine ci_of (cc := cX1_init) (nL := 1) (own := RX1) (by decide +kernel) rfl rfl rfl (by decide) ?_
  intro p e s m args below meth c A h0 ls J hin hr hlocks hl
  have iw1 : ∀ w ∈ u_ws RX1 TX1 1, w ∈ wsX1_init := by decide +kernel
  refine j_aload J dX1_init_0 rfl (lv_at hl 0 rfl) ?_
  refine j_obj (idx := 3) J (by decide +kernel) (by decide +kernel) (by decide +kernel) hl.1 (Nat.le_of_ble_eq_true rfl) (Nat.le_of_ble_eq_true rfl) dX1_init_1 ?_
  refine j_aload J dX1_init_4 rfl (lv_at hl 0 rfl) ?_
  refine j_bipush (v := 12) J dX1_init_5 (by decide) ?_
  refine j_newa (u := o + 4) (N := 12) J (by decide +kernel) (ln_C ho).1 (ln_C ho).2 (k1_0 ho) (by simp) clo_0 (by decide) (by decide) (by decide) (Nat.le_of_ble_eq_true rfl) (Nat.le_of_ble_eq_true rfl) dX1_init_7 (fun f1 a1 => ?_)
  refine j_putF (T := TX1) (N := 1) (ci := 1) (k := 0) (index := 9) (ty := (.array .int)) J hin iw1 tyX1_ok nmX1 rfl (by decide) rfl (by decide +kernel) rfl rfl (by decide +kernel) rfl rfl (Nat.le_of_ble_eq_true rfl) dX1_init_9 ?_
  refine j_ret (ci := 1) J hr hlocks rfl ho (by decide) (by simp) (cloB_app clo_0 (clo_1 (ln_C ho).1)) (rf_us (clo_uC ho) ho (by decide)) ?_ (Nat.le_of_ble_eq_true rfl) (Nat.le_of_ble_eq_true rfl) dX1_init_12
  show _ = [fV (gF g f1) s0 o 0]
  rw [fV_r (t := o + 4) (by rw [ho]; rfl) (rf_1_0 ho)]
  rfl
set_option maxHeartbeats 4000000 in
set_option maxRecDepth 100000 in
theorem zX0_init {g : aG} {l : Launch} {F : Nat} (b : Nat) (hb0 : kd b = 0) : CI g l F yX0_init wsX0_init 2 32 9 244 0 [.null, .null, .null, .null, .null] b (uB b) := by
  obtain ⟨⟨kw, lw⟩, k1, k2, k3, k4⟩ := ln_B hb0
  refine ci_of (cc := cX0_init) (nL := 1) (own := RX0) (by decide +kernel) rfl rfl rfl (by decide) ?_
  intro p e s m args below meth c A h0 ls J hin hr hlocks hl
  have iw0 : ∀ w ∈ u_ws RX0 TX0 5, w ∈ wsX0_init := by decide +kernel
  refine j_aload J dX0_init_0 rfl (lv_at hl 0 rfl) ?_
  refine j_obj (idx := 3) J (by decide +kernel) (by decide +kernel) (by decide +kernel) hl.1 (Nat.le_of_ble_eq_true rfl) (Nat.le_of_ble_eq_true rfl) dX0_init_1 ?_
  refine j_aload J dX0_init_4 rfl (lv_at hl 0 rfl) ?_
  refine j_make (idx := 9) (idx2 := 11) (pc2 := 9) (N := 1) (ci := 1) (u := b + 1) (C := RX1) (T := TX1) (fs := [.null]) (y := yX1_init) (vs := uC (b + 1)) J ⟨⟨_, rfl⟩, by decide +kernel, by decide +kernel, by decide +kernel⟩ rfl rfl (zX1_init (b + 1) k1) gX0_init_X1_init (by decide +kernel) tyX1_ok (by decide +kernel) (by decide +kernel) (by decide +kernel) (by decide +kernel) (by decide +kernel) rfl (by decide) clo_0 (clo_uC k1) (fun i h h2 => by simp only [List.mem_append, List.mem_cons, List.not_mem_nil, or_false, false_or, mem_uC, mem_uB, mem_uL] at h h2 <;> omega) (by simp [uC]) ⟨Nat.le_of_ble_eq_true rfl, Nat.le_of_ble_eq_true rfl⟩ (Nat.le_of_ble_eq_true rfl) (Nat.le_of_ble_eq_true rfl) hl.1 (Nat.le_of_ble_eq_true rfl) rfl dX0_init_5 dX0_init_8 dX0_init_9 (fun f1 a1 => ?_)
  refine j_putF (T := TX0) (N := 5) (ci := 0) (k := 0) (index := 12) (ty := (.object "WoodcutPress$Cells")) J hin iw0 tyX0_ok nmX0 rfl (by decide) rfl (by decide +kernel) rfl rfl (by decide +kernel) rfl rfl (Nat.le_of_ble_eq_true rfl) dX0_init_12 ?_
  refine j_aload J dX0_init_15 rfl (lv_at hl 0 rfl) ?_
  refine j_make (idx := 9) (idx2 := 11) (pc2 := 20) (N := 1) (ci := 1) (u := b + 2) (C := RX1) (T := TX1) (fs := [.null]) (y := yX1_init) (vs := uC (b + 2)) J ⟨⟨_, rfl⟩, by decide +kernel, by decide +kernel, by decide +kernel⟩ rfl rfl (zX1_init (b + 2) k2) gX0_init_X1_init (by decide +kernel) tyX1_ok (by decide +kernel) (by decide +kernel) (by decide +kernel) (by decide +kernel) (by decide +kernel) rfl (by decide) (cloB_app clo_0 (clo_uC k1)) (clo_uC k2) (fun i h h2 => by simp only [List.mem_append, List.mem_cons, List.not_mem_nil, or_false, false_or, mem_uC, mem_uB, mem_uL] at h h2 <;> omega) (by simp [uC]) ⟨Nat.le_of_ble_eq_true rfl, Nat.le_of_ble_eq_true rfl⟩ (Nat.le_of_ble_eq_true rfl) (Nat.le_of_ble_eq_true rfl) hl.1 (Nat.le_of_ble_eq_true rfl) rfl dX0_init_16 dX0_init_19 dX0_init_20 (fun f2 a2 => ?_)
  refine j_putF (T := TX0) (N := 5) (ci := 0) (k := 1) (index := 18) (ty := (.object "WoodcutPress$Cells")) J hin iw0 tyX0_ok nmX0 rfl (by decide) rfl (by decide +kernel) rfl rfl (by decide +kernel) rfl rfl (Nat.le_of_ble_eq_true rfl) dX0_init_23 ?_
  refine j_aload J dX0_init_26 rfl (lv_at hl 0 rfl) ?_
  refine j_make (idx := 9) (idx2 := 11) (pc2 := 31) (N := 1) (ci := 1) (u := b + 3) (C := RX1) (T := TX1) (fs := [.null]) (y := yX1_init) (vs := uC (b + 3)) J ⟨⟨_, rfl⟩, by decide +kernel, by decide +kernel, by decide +kernel⟩ rfl rfl (zX1_init (b + 3) k3) gX0_init_X1_init (by decide +kernel) tyX1_ok (by decide +kernel) (by decide +kernel) (by decide +kernel) (by decide +kernel) (by decide +kernel) rfl (by decide) (cloB_app (cloB_app clo_0 (clo_uC k1)) (clo_uC k2)) (clo_uC k3) (fun i h h2 => by simp only [List.mem_append, List.mem_cons, List.not_mem_nil, or_false, false_or, mem_uC, mem_uB, mem_uL] at h h2 <;> omega) (by simp [uC]) ⟨Nat.le_of_ble_eq_true rfl, Nat.le_of_ble_eq_true rfl⟩ (Nat.le_of_ble_eq_true rfl) (Nat.le_of_ble_eq_true rfl) hl.1 (Nat.le_of_ble_eq_true rfl) rfl dX0_init_27 dX0_init_30 dX0_init_31 (fun f3 a3 => ?_)
  refine j_putF (T := TX0) (N := 5) (ci := 0) (k := 2) (index := 21) (ty := (.object "WoodcutPress$Cells")) J hin iw0 tyX0_ok nmX0 rfl (by decide) rfl (by decide +kernel) rfl rfl (by decide +kernel) rfl rfl (Nat.le_of_ble_eq_true rfl) dX0_init_34 ?_
  refine j_aload J dX0_init_37 rfl (lv_at hl 0 rfl) ?_
  refine j_make (idx := 9) (idx2 := 11) (pc2 := 42) (N := 1) (ci := 1) (u := b + 4) (C := RX1) (T := TX1) (fs := [.null]) (y := yX1_init) (vs := uC (b + 4)) J ⟨⟨_, rfl⟩, by decide +kernel, by decide +kernel, by decide +kernel⟩ rfl rfl (zX1_init (b + 4) k4) gX0_init_X1_init (by decide +kernel) tyX1_ok (by decide +kernel) (by decide +kernel) (by decide +kernel) (by decide +kernel) (by decide +kernel) rfl (by decide) (cloB_app (cloB_app (cloB_app clo_0 (clo_uC k1)) (clo_uC k2)) (clo_uC k3)) (clo_uC k4) (fun i h h2 => by simp only [List.mem_append, List.mem_cons, List.not_mem_nil, or_false, false_or, mem_uC, mem_uB, mem_uL] at h h2 <;> omega) (by simp [uC]) ⟨Nat.le_of_ble_eq_true rfl, Nat.le_of_ble_eq_true rfl⟩ (Nat.le_of_ble_eq_true rfl) (Nat.le_of_ble_eq_true rfl) hl.1 (Nat.le_of_ble_eq_true rfl) rfl dX0_init_38 dX0_init_41 dX0_init_42 (fun f4 a4 => ?_)
  refine j_putF (T := TX0) (N := 5) (ci := 0) (k := 3) (index := 24) (ty := (.object "WoodcutPress$Cells")) J hin iw0 tyX0_ok nmX0 rfl (by decide) rfl (by decide +kernel) rfl rfl (by decide +kernel) rfl rfl (Nat.le_of_ble_eq_true rfl) dX0_init_45 ?_
  refine j_aload J dX0_init_48 rfl (lv_at hl 0 rfl) ?_
  refine j_sipush (v := 192) J dX0_init_49 (by decide) ?_
  refine j_newa (u := b + 9) (N := 192) J (by decide +kernel) kw lw (k0_9 hb0) (by simp only [List.mem_append, List.mem_cons, List.not_mem_nil, or_false, false_or, mem_uC, mem_uB, mem_uL]; omega) (cloB_app (cloB_app (cloB_app (cloB_app clo_0 (clo_uC k1)) (clo_uC k2)) (clo_uC k3)) (clo_uC k4)) (by decide) (by decide) (by decide) (Nat.le_of_ble_eq_true rfl) (Nat.le_of_ble_eq_true rfl) dX0_init_52 (fun f5 a5 => ?_)
  refine j_putF (T := TX0) (N := 5) (ci := 0) (k := 4) (index := 27) (ty := (.array .int)) J hin iw0 tyX0_ok nmX0 rfl (by decide) rfl (by decide +kernel) rfl rfl (by decide +kernel) rfl rfl (Nat.le_of_ble_eq_true rfl) dX0_init_54 ?_
  refine j_ret (ci := 0) J hr hlocks rfl hb0 (by decide) (by simp only [List.mem_append, List.mem_cons, List.not_mem_nil, or_false, false_or, mem_uC, mem_uB, mem_uL]; omega) (cloB_app (cloB_app (cloB_app (cloB_app (cloB_app clo_0 (clo_uC k1)) (clo_uC k2)) (clo_uC k3)) (clo_uC k4)) (clo_1 kw)) (rf_us (clo_uB hb0) hb0 (by decide)) ?_ (Nat.le_of_ble_eq_true rfl) (Nat.le_of_ble_eq_true rfl) dX0_init_57
  show _ = [fV (gF g f5) s0 b 0, fV (gF g f5) s0 b 1, fV (gF g f5) s0 b 2, fV (gF g f5) s0 b 3, fV (gF g f5) s0 b 4]
  rw [fV_r (k := 0) (t := b + 1) (by rw [hb0]; rfl) (rf_0_0 hb0), fV_r (k := 1) (t := b + 2) (by rw [hb0]; rfl) (rf_0_1 hb0), fV_r (k := 2) (t := b + 3) (by rw [hb0]; rfl) (rf_0_2 hb0), fV_r (k := 3) (t := b + 4) (by rw [hb0]; rfl) (rf_0_3 hb0), fV_r (k := 4) (t := b + 9) (by rw [hb0]; rfl) (rf_0_4 hb0)]
  rw [a5 (b + 1) (by simp [uC]), a4 (b + 1) (by simp [uC]), a3 (b + 1) (by simp [uC]), a2 (b + 1) (by simp [uC])]
  rw [a5 (b + 2) (by simp [uC]), a4 (b + 2) (by simp [uC]), a3 (b + 2) (by simp [uC])]
  rw [a5 (b + 3) (by simp [uC]), a4 (b + 3) (by simp [uC])]
  rw [a5 (b + 4) (by simp [uC])]
  rfl
set_option maxHeartbeats 4000000 in
set_option maxRecDepth 100000 in
theorem zX3_init {g : aG} {l : Launch} {F : Nat} (o : Nat) (ho : kd o = 3) : CI g l F yX3_init wsX3_init 1 12 1 72 3 [.null, .int 0, .int 0] o (uL o) := by
  refine ci_of (cc := cX3_init) (nL := 1) (own := RX3) (by decide +kernel) rfl rfl rfl (by decide) ?_
  intro p e s m args below meth c A h0 ls J hin hr hlocks hl
  have iw3 : ∀ w ∈ u_ws RX3 TX3 3, w ∈ wsX3_init := by decide +kernel
  refine j_aload J dX3_init_0 rfl (lv_at hl 0 rfl) ?_
  refine j_obj (idx := 3) J (by decide +kernel) (by decide +kernel) (by decide +kernel) hl.1 (Nat.le_of_ble_eq_true rfl) (Nat.le_of_ble_eq_true rfl) dX3_init_1 ?_
  refine j_aload J dX3_init_4 rfl (lv_at hl 0 rfl) ?_
  refine j_bipush (v := 72) J dX3_init_5 (by decide) ?_
  refine j_newa (u := o + 1) (N := 72) J (by decide +kernel) (ln_L ho).1 (ln_L ho).2 (k3_1 ho) (by simp) clo_0 (by decide) (by decide) (by decide) (Nat.le_of_ble_eq_true rfl) (Nat.le_of_ble_eq_true rfl) dX3_init_7 (fun f1 a1 => ?_)
  refine j_putF (T := TX3) (N := 3) (ci := 3) (k := 0) (index := 9) (ty := (.array .int)) J hin iw3 tyX3_ok nmX3 rfl (by decide) rfl (by decide +kernel) rfl rfl (by decide +kernel) rfl rfl (Nat.le_of_ble_eq_true rfl) dX3_init_9 ?_
  refine j_aload J dX3_init_12 rfl (lv_at hl 0 rfl) ?_
  refine j_iconst (v := 0) J dX3_init_13 (by decide) ?_
  refine j_put (T := TX3) (N := 3) (ci := 3) (k := 1) (index := 15) (ty := .int) J iw3 tyX3_ok nmX3 rfl (by decide) rfl (by decide +kernel) rfl (by decide +kernel) rfl rfl (Nat.le_of_ble_eq_true rfl) dX3_init_14 ?_
  refine j_aload J dX3_init_17 rfl (lv_at hl 0 rfl) ?_
  refine j_iconst (v := 0) J dX3_init_18 (by decide) ?_
  refine j_put (T := TX3) (N := 3) (ci := 3) (k := 2) (index := 19) (ty := .int) J iw3 tyX3_ok nmX3 rfl (by decide) rfl (by decide +kernel) rfl (by decide +kernel) rfl rfl (Nat.le_of_ble_eq_true rfl) dX3_init_19 ?_
  refine j_ret (ci := 3) J hr hlocks rfl ho (by decide) (by simp) (cloB_app clo_0 (clo_1 (ln_L ho).1)) (rf_us (clo_uL ho) ho (by decide)) ?_ (Nat.le_of_ble_eq_true rfl) (Nat.le_of_ble_eq_true rfl) dX3_init_22
  show _ = [fV (gF g f1) s0 o 0, fV (gF g f1) s0 o 1, fV (gF g f1) s0 o 2]
  rw [fV_r (k := 0) (t := o + 1) (by rw [ho]; rfl) (rf_3_0 ho), fV_i (k := 1) (by rw [ho]; rfl), fV_i (k := 2) (by rw [ho]; rfl), k3_0 ho]
  rfl
set_option maxHeartbeats 4000000 in
set_option maxRecDepth 100000 in
theorem zX4_init {g : aG} {l : Launch} {F : Nat} : CI g l F yX4_init wsX4_init 2 32 5 166 4 [.null, .int 0, .int 0, .int 0, .null, .null] 603 uR := by
  refine ci_of (cc := cX4_init) (nL := 1) (own := RX4) (by decide +kernel) rfl rfl rfl (by decide) ?_
  intro p e s m args below meth c A h0 ls J hin hr hlocks hl
  have iw4 : ∀ w ∈ u_ws RX4 TX4 6, w ∈ wsX4_init := by decide +kernel
  refine j_aload J dX4_init_0 rfl (lv_at hl 0 rfl) ?_
  refine j_obj (idx := 3) J (by decide +kernel) (by decide +kernel) (by decide +kernel) hl.1 (Nat.le_of_ble_eq_true rfl) (Nat.le_of_ble_eq_true rfl) dX4_init_1 ?_
  refine j_aload J dX4_init_4 rfl (lv_at hl 0 rfl) ?_
  refine j_sipush (v := 140) J dX4_init_5 (by decide) ?_
  refine j_newa (u := 604) (N := 140) J (by decide +kernel) rfl rfl (s0_0 (by decide) (by decide) (by decide)) (by simp) clo_0 (by decide) (by decide) (by decide) (Nat.le_of_ble_eq_true rfl) (Nat.le_of_ble_eq_true rfl) dX4_init_8 (fun f1 a1 => ?_)
  refine j_putF (T := TX4) (N := 6) (ci := 4) (k := 0) (index := 9) (ty := (.array .int)) J hin iw4 tyX4_ok nmX4 rfl (by decide) rfl (by decide +kernel) rfl rfl (by decide +kernel) rfl rfl (Nat.le_of_ble_eq_true rfl) dX4_init_10 ?_
  refine j_aload J dX4_init_13 rfl (lv_at hl 0 rfl) ?_
  refine j_iconst (v := 0) J dX4_init_14 (by decide) ?_
  refine j_put (T := TX4) (N := 6) (ci := 4) (k := 1) (index := 15) (ty := .int) J iw4 tyX4_ok nmX4 rfl (by decide) rfl (by decide +kernel) rfl (by decide +kernel) rfl rfl (Nat.le_of_ble_eq_true rfl) dX4_init_15 ?_
  refine j_aload J dX4_init_18 rfl (lv_at hl 0 rfl) ?_
  refine j_iconst (v := 0) J dX4_init_19 (by decide) ?_
  refine j_put (T := TX4) (N := 6) (ci := 4) (k := 2) (index := 19) (ty := .int) J iw4 tyX4_ok nmX4 rfl (by decide) rfl (by decide +kernel) rfl (by decide +kernel) rfl rfl (Nat.le_of_ble_eq_true rfl) dX4_init_20 ?_
  refine j_aload J dX4_init_23 rfl (lv_at hl 0 rfl) ?_
  refine j_iconst (v := -1) J dX4_init_24 (by decide) ?_
  refine j_put (T := TX4) (N := 6) (ci := 4) (k := 3) (index := 22) (ty := .int) J iw4 tyX4_ok nmX4 rfl (by decide) rfl (by decide +kernel) rfl (by decide +kernel) rfl rfl (Nat.le_of_ble_eq_true rfl) dX4_init_25 ?_
  refine j_aload J dX4_init_28 rfl (lv_at hl 0 rfl) ?_
  refine j_make (idx := 25) (idx2 := 27) (pc2 := 33) (N := 1) (ci := 1) (u := 605) (C := RX1) (T := TX1) (fs := [.null]) (y := yX1_init) (vs := uC 605) J ⟨⟨_, rfl⟩, by decide +kernel, by decide +kernel, by decide +kernel⟩ rfl rfl (zX1_init 605 rfl) gX4_init_X1_init (by decide +kernel) tyX1_ok (by decide +kernel) (by decide +kernel) (by decide +kernel) (by decide +kernel) (by decide +kernel) rfl (by decide) (cloB_app clo_0 (clo_1 (u := 604) rfl)) (clo_uC rfl) (fun i h h2 => by simp only [List.mem_append, List.mem_cons, List.not_mem_nil, or_false, false_or, mem_uC, mem_uB, mem_uL] at h h2 <;> omega) (by simp [uC]) ⟨Nat.le_of_ble_eq_true rfl, Nat.le_of_ble_eq_true rfl⟩ (Nat.le_of_ble_eq_true rfl) (Nat.le_of_ble_eq_true rfl) hl.1 (Nat.le_of_ble_eq_true rfl) rfl dX4_init_29 dX4_init_32 dX4_init_33 (fun f2 a2 => ?_)
  refine j_putF (T := TX4) (N := 6) (ci := 4) (k := 4) (index := 28) (ty := (.object "WoodcutPress$Cells")) J hin iw4 tyX4_ok nmX4 rfl (by decide) rfl (by decide +kernel) rfl rfl (by decide +kernel) rfl rfl (Nat.le_of_ble_eq_true rfl) dX4_init_36 ?_
  refine j_aload J dX4_init_39 rfl (lv_at hl 0 rfl) ?_
  refine j_make (idx := 25) (idx2 := 27) (pc2 := 44) (N := 1) (ci := 1) (u := 606) (C := RX1) (T := TX1) (fs := [.null]) (y := yX1_init) (vs := uC 606) J ⟨⟨_, rfl⟩, by decide +kernel, by decide +kernel, by decide +kernel⟩ rfl rfl (zX1_init 606 rfl) gX4_init_X1_init (by decide +kernel) tyX1_ok (by decide +kernel) (by decide +kernel) (by decide +kernel) (by decide +kernel) (by decide +kernel) rfl (by decide) (cloB_app (cloB_app clo_0 (clo_1 (u := 604) rfl)) (clo_uC (o := 605) rfl)) (clo_uC rfl) (fun i h h2 => by simp only [List.mem_append, List.mem_cons, List.not_mem_nil, or_false, false_or, mem_uC, mem_uB, mem_uL] at h h2 <;> omega) (by simp [uC]) ⟨Nat.le_of_ble_eq_true rfl, Nat.le_of_ble_eq_true rfl⟩ (Nat.le_of_ble_eq_true rfl) (Nat.le_of_ble_eq_true rfl) hl.1 (Nat.le_of_ble_eq_true rfl) rfl dX4_init_40 dX4_init_43 dX4_init_44 (fun f3 a3 => ?_)
  refine j_putF (T := TX4) (N := 6) (ci := 4) (k := 5) (index := 32) (ty := (.object "WoodcutPress$Cells")) J hin iw4 tyX4_ok nmX4 rfl (by decide) rfl (by decide +kernel) rfl rfl (by decide +kernel) rfl rfl (Nat.le_of_ble_eq_true rfl) dX4_init_47 ?_
  refine j_ret (ci := 4) J hr hlocks rfl rfl (by decide) (by decide) (cloB_app (cloB_app (cloB_app clo_0 (clo_1 (u := 604) rfl)) (clo_uC (o := 605) rfl)) (clo_uC (o := 606) rfl)) (rf_us clo_uR rfl (by decide)) ?_ (Nat.le_of_ble_eq_true rfl) (Nat.le_of_ble_eq_true rfl) dX4_init_50
  show _ = [fV (gF g f3) s0 603 0, fV (gF g f3) s0 603 1, fV (gF g f3) s0 603 2, fV (gF g f3) s0 603 3, fV (gF g f3) s0 603 4, fV (gF g f3) s0 603 5]
  rw [fV_r (k := 0) (t := 604) rfl rfl, fV_i (k := 1) rfl, fV_i (k := 2) rfl, fV_i (k := 3) rfl, fV_r (k := 4) (t := 605) rfl rfl, fV_r (k := 5) (t := 606) rfl rfl]
  rw [a3 604 (by decide), a2 604 (by decide), a3 605 (by decide)]
  rfl
