/-! constructors: the press, the model -/
def uP : List Nat := 600 :: ([] ++ uS 0 ++ uH ++ uR ++ uC 607 ++ uC 608)
def uM : List Nat := 700 :: ([] ++ [702] ++ [703] ++ [704] ++ [705] ++ [706] ++ [701])
theorem clo_uP : cloB uP = true := by decide +kernel
theorem clo_uM : cloB uM = true := by decide +kernel
section MK3
variable {p : Program} {l : Launch} {e : Env} {R : Room} {s : State} {m : MethodId} {args : Array Value} {below : List Frame} {meth : Method} {c : Code} {Q : State → Prop} {g : aG} {A : Nat → Prop} {cells slots : Nat} {X : va_W} {f : Nat → Nat} {us : List Nat} {pc : Nat} {ls : Array Slot} {st : List Value} {cc : ByteArray} {nL : Nat} {own : String} {Ts : List Cond} {F : Nat}
theorem j_iast {h0 q N : Nat} {E : va_E} {d : Nat → Int32} {i x : Int32} (J : JK p R s m args meth c cc nL own Ts g F A) (hin2 : vp_in i N) (hd : decode cc pc = .ok (.iastore, 1)) (kk : CJ p l e R s m args below meth c Q g A cells slots [(h0, E), (q, .inl (gI g, N, .inl (upd d i.toNatClampNeg x)))] f us (pc + 1) ls st) : CJ p l e R s m args below meth c Q g A cells slots [(h0, E), (q, .inl (gI g, N, .inl d))] f us pc ls (.int x :: .int i :: .ref q :: st) := by
  obtain ⟨hx, hb, hml, hown, hts, hK, hA, hAB, hSG⟩ := J
  intro H locs hP hD hS
  exact va_iast hx hb hK hP hD hS 1 0 rfl rfl hin2 hd (fun H1 locs1 hP1 hD1 hS1 => kk H1 locs1 hP1 hD1 hS1)
end MK3
set_option maxHeartbeats 4000000 in
set_option maxRecDepth 100000 in
theorem zX6_init {g : aG} {l : Launch} {F : Nat} : CI g l F yX6_init wsX6_init 5 93 216 5228 6 [.null, .null, .null, .null, .null] 600 uP := by
  refine ci_of (cc := cX6_init) (nL := 1) (own := RX6) (by decide +kernel) rfl rfl rfl (by decide) ?_
  intro p e s m args below meth c A h0 ls J hin hr hlocks hl
  have iw6 : ∀ w ∈ u_ws RX6 TX6 5, w ∈ wsX6_init := by decide +kernel
  refine j_aload J dX6_init_0 rfl (lv_at hl 0 rfl) ?_
  refine j_obj (idx := 1) J (by decide +kernel) (by decide +kernel) (by decide +kernel) hl.1 (Nat.le_of_ble_eq_true rfl) (Nat.le_of_ble_eq_true rfl) dX6_init_1 ?_
  refine j_aload J dX6_init_4 rfl (lv_at hl 0 rfl) ?_
  refine j_make (idx := 7) (idx2 := 9) (pc2 := 9) (N := 10) (ci := 5) (u := 0) (C := RX5) (T := TX5) (fs := [.null, .null, .null, .int 0, .int 0, .int 0, .null, .null, .int 0, .int 0]) (y := yX5_init) (vs := uS 0) J ⟨⟨_, rfl⟩, by decide +kernel, by decide +kernel, by decide +kernel⟩ rfl rfl (zX5_init 0 rfl) gX6_init_X5_init (by decide +kernel) tyX5_ok (by decide +kernel) (by decide +kernel) (by decide +kernel) (by decide +kernel) (by decide +kernel) rfl (by decide) clo_0 (clo_uS (o := 0) rfl) (by decide +kernel) (by decide +kernel) ⟨Nat.le_of_ble_eq_true rfl, Nat.le_of_ble_eq_true rfl⟩ (Nat.le_of_ble_eq_true rfl) (Nat.le_of_ble_eq_true rfl) hl.1 (Nat.le_of_ble_eq_true rfl) rfl dX6_init_5 dX6_init_8 dX6_init_9 (fun f1 a1 => ?_)
  refine j_putF (T := TX6) (N := 5) (ci := 6) (k := 0) (index := 10) (ty := (.object "WoodcutPress$State")) J hin iw6 tyX6_ok nmX6 rfl (by decide) rfl (by decide +kernel) rfl rfl (by decide +kernel) rfl rfl (Nat.le_of_ble_eq_true rfl) dX6_init_12 ?_
  refine j_aload J dX6_init_15 rfl (lv_at hl 0 rfl) ?_
  refine j_make (idx := 16) (idx2 := 18) (pc2 := 20) (N := 3) (ci := 2) (u := 601) (C := RX2) (T := TX2) (fs := [.null, .int 0, .int 0]) (y := yX2_init) (vs := uH) J ⟨⟨_, rfl⟩, by decide +kernel, by decide +kernel, by decide +kernel⟩ rfl rfl zX2_init gX6_init_X2_init (by decide +kernel) tyX2_ok (by decide +kernel) (by decide +kernel) (by decide +kernel) (by decide +kernel) (by decide +kernel) rfl (by decide) (cloB_app clo_0 (clo_uS (o := 0) rfl)) clo_uH (by decide +kernel) (by decide +kernel) ⟨Nat.le_of_ble_eq_true rfl, Nat.le_of_ble_eq_true rfl⟩ (Nat.le_of_ble_eq_true rfl) (Nat.le_of_ble_eq_true rfl) hl.1 (Nat.le_of_ble_eq_true rfl) rfl dX6_init_16 dX6_init_19 dX6_init_20 (fun f2 a2 => ?_)
  refine j_putF (T := TX6) (N := 5) (ci := 6) (k := 1) (index := 19) (ty := (.object "WoodcutPress$History")) J hin iw6 tyX6_ok nmX6 rfl (by decide) rfl (by decide +kernel) rfl rfl (by decide +kernel) rfl rfl (Nat.le_of_ble_eq_true rfl) dX6_init_23 ?_
  refine j_aload J dX6_init_26 rfl (lv_at hl 0 rfl) ?_
  refine j_make (idx := 23) (idx2 := 25) (pc2 := 31) (N := 6) (ci := 4) (u := 603) (C := RX4) (T := TX4) (fs := [.null, .int 0, .int 0, .int 0, .null, .null]) (y := yX4_init) (vs := uR) J ⟨⟨_, rfl⟩, by decide +kernel, by decide +kernel, by decide +kernel⟩ rfl rfl zX4_init gX6_init_X4_init (by decide +kernel) tyX4_ok (by decide +kernel) (by decide +kernel) (by decide +kernel) (by decide +kernel) (by decide +kernel) rfl (by decide) (cloB_app (cloB_app clo_0 (clo_uS (o := 0) rfl)) clo_uH) clo_uR (by decide +kernel) (by decide +kernel) ⟨Nat.le_of_ble_eq_true rfl, Nat.le_of_ble_eq_true rfl⟩ (Nat.le_of_ble_eq_true rfl) (Nat.le_of_ble_eq_true rfl) hl.1 (Nat.le_of_ble_eq_true rfl) rfl dX6_init_27 dX6_init_30 dX6_init_31 (fun f3 a3 => ?_)
  refine j_putF (T := TX6) (N := 5) (ci := 6) (k := 2) (index := 26) (ty := (.object "WoodcutPress$Reader")) J hin iw6 tyX6_ok nmX6 rfl (by decide) rfl (by decide +kernel) rfl rfl (by decide +kernel) rfl rfl (Nat.le_of_ble_eq_true rfl) dX6_init_34 ?_
  refine j_aload J dX6_init_37 rfl (lv_at hl 0 rfl) ?_
  refine j_make (idx := 30) (idx2 := 32) (pc2 := 42) (N := 1) (ci := 1) (u := 607) (C := RX1) (T := TX1) (fs := [.null]) (y := yX1_init) (vs := uC 607) J ⟨⟨_, rfl⟩, by decide +kernel, by decide +kernel, by decide +kernel⟩ rfl rfl (zX1_init 607 rfl) gX6_init_X1_init (by decide +kernel) tyX1_ok (by decide +kernel) (by decide +kernel) (by decide +kernel) (by decide +kernel) (by decide +kernel) rfl (by decide) (cloB_app (cloB_app (cloB_app clo_0 (clo_uS (o := 0) rfl)) clo_uH) clo_uR) (clo_uC (o := 607) rfl) (by decide +kernel) (by decide +kernel) ⟨Nat.le_of_ble_eq_true rfl, Nat.le_of_ble_eq_true rfl⟩ (Nat.le_of_ble_eq_true rfl) (Nat.le_of_ble_eq_true rfl) hl.1 (Nat.le_of_ble_eq_true rfl) rfl dX6_init_38 dX6_init_41 dX6_init_42 (fun f4 a4 => ?_)
  refine j_putF (T := TX6) (N := 5) (ci := 6) (k := 3) (index := 33) (ty := (.object "WoodcutPress$Cells")) J hin iw6 tyX6_ok nmX6 rfl (by decide) rfl (by decide +kernel) rfl rfl (by decide +kernel) rfl rfl (Nat.le_of_ble_eq_true rfl) dX6_init_45 ?_
  refine j_aload J dX6_init_48 rfl (lv_at hl 0 rfl) ?_
  refine j_make (idx := 30) (idx2 := 32) (pc2 := 53) (N := 1) (ci := 1) (u := 608) (C := RX1) (T := TX1) (fs := [.null]) (y := yX1_init) (vs := uC 608) J ⟨⟨_, rfl⟩, by decide +kernel, by decide +kernel, by decide +kernel⟩ rfl rfl (zX1_init 608 rfl) gX6_init_X1_init (by decide +kernel) tyX1_ok (by decide +kernel) (by decide +kernel) (by decide +kernel) (by decide +kernel) (by decide +kernel) rfl (by decide) (cloB_app (cloB_app (cloB_app (cloB_app clo_0 (clo_uS (o := 0) rfl)) clo_uH) clo_uR) (clo_uC (o := 607) rfl)) (clo_uC (o := 608) rfl) (by decide +kernel) (by decide +kernel) ⟨Nat.le_of_ble_eq_true rfl, Nat.le_of_ble_eq_true rfl⟩ (Nat.le_of_ble_eq_true rfl) (Nat.le_of_ble_eq_true rfl) hl.1 (Nat.le_of_ble_eq_true rfl) rfl dX6_init_49 dX6_init_52 dX6_init_53 (fun f5 a5 => ?_)
  refine j_putF (T := TX6) (N := 5) (ci := 6) (k := 4) (index := 37) (ty := (.object "WoodcutPress$Cells")) J hin iw6 tyX6_ok nmX6 rfl (by decide) rfl (by decide +kernel) rfl rfl (by decide +kernel) rfl rfl (Nat.le_of_ble_eq_true rfl) dX6_init_56 ?_
  refine j_ret (ci := 6) J hr hlocks rfl rfl (by decide) (by decide +kernel) (cloB_app (cloB_app (cloB_app (cloB_app (cloB_app clo_0 (clo_uS (o := 0) rfl)) clo_uH) clo_uR) (clo_uC (o := 607) rfl)) (clo_uC (o := 608) rfl)) (rf_us clo_uP rfl (by decide)) ?_ (Nat.le_of_ble_eq_true rfl) (Nat.le_of_ble_eq_true rfl) dX6_init_59
  show _ = [fV (gF g f5) s0 600 0, fV (gF g f5) s0 600 1, fV (gF g f5) s0 600 2, fV (gF g f5) s0 600 3, fV (gF g f5) s0 600 4]
  rw [fV_r (k := 0) (t := 0) rfl rfl, fV_r (k := 1) (t := 601) rfl rfl, fV_r (k := 2) (t := 603) rfl rfl, fV_r (k := 3) (t := 607) rfl rfl, fV_r (k := 4) (t := 608) rfl rfl]
  rw [a5 0 (by decide +kernel), a4 0 (by decide +kernel), a3 0 (by decide +kernel), a2 0 (by decide +kernel)]
  rw [a5 601 (by decide +kernel), a4 601 (by decide +kernel), a3 601 (by decide +kernel)]
  rw [a5 603 (by decide +kernel), a4 603 (by decide +kernel)]
  rw [a5 607 (by decide +kernel)]
  rfl
theorem s0_701 : upd (upd (upd (upd (fun _ => 0) 768 50) 769 1) 771 40) 772 2 = s0 701 := by
  funext k
  unfold s0
  rw [if_neg (by decide), if_neg (fun q => absurd q.1 (by decide)), if_pos rfl]
  unfold upd
  by_cases a : k = 772
  · subst a
    decide
  · by_cases b : k = 771
    · subst b
      decide
    · by_cases c : k = 769
      · subst c
        decide
      · by_cases d : k = 768
        · subst d
          decide
        · simp [a, b, c, d]
set_option maxHeartbeats 4000000 in
set_option maxRecDepth 100000 in
theorem zX7_init {g : aG} {l : Launch} {F : Nat} : CI g l F yX7_init wsX7_init 1 12 6 15152 7 [.int 0, .null, .null, .int 0, .null, .int 0, .null, .null, .int 0, .int 0, .int 0, .null, .int 0, .int 0, .int 0] 700 uM := by
  refine ci_of (cc := cX7_init) (nL := 1) (own := RX7) (by decide +kernel) rfl rfl rfl (by decide) ?_
  intro p e s m args below meth c A h0 ls J hin hr hlocks hl
  have iw7 : ∀ w ∈ u_ws RX7 TX7 15, w ∈ wsX7_init := by decide +kernel
  refine j_aload J dX7_init_0 rfl (lv_at hl 0 rfl) ?_
  refine j_obj (idx := 1) J (by decide +kernel) (by decide +kernel) (by decide +kernel) hl.1 (Nat.le_of_ble_eq_true rfl) (Nat.le_of_ble_eq_true rfl) dX7_init_1 ?_
  refine j_aload J dX7_init_4 rfl (lv_at hl 0 rfl) ?_
  refine j_sipush (v := 2374) J dX7_init_5 (by decide) ?_
  refine j_newaX (N := 2374) J (by decide +kernel) (by decide) (by decide) (by decide) (Nat.le_of_ble_eq_true rfl) (Nat.le_of_ble_eq_true rfl) dX7_init_8 (fun q => ?_)
  refine j_putF (T := TX7) (N := 15) (ci := 7) (k := 1) (index := 7) (ty := (.array .int)) J hin iw7 tyX7_ok nmX7 rfl (by decide) rfl (by decide +kernel) rfl rfl (by decide +kernel) rfl rfl (Nat.le_of_ble_eq_true rfl) dX7_init_10 ?_
  refine j_aload J dX7_init_13 rfl (lv_at hl 0 rfl) ?_
  refine j_sipush (v := 11870) J dX7_init_14 (by decide) ?_
  refine j_newa (u := 702) (N := 11870) J (by decide +kernel) rfl rfl (s0_0 (by decide) (by decide) (by decide)) (by decide) clo_0 (by decide) (by decide) (by decide) (Nat.le_of_ble_eq_true rfl) (Nat.le_of_ble_eq_true rfl) dX7_init_17 (fun f1 a1 => ?_)
  refine j_putF (T := TX7) (N := 15) (ci := 7) (k := 2) (index := 13) (ty := (.array .int)) J hin iw7 tyX7_ok nmX7 rfl (by decide) rfl (by decide +kernel) rfl rfl (by decide +kernel) rfl rfl (Nat.le_of_ble_eq_true rfl) dX7_init_19 ?_
  refine j_aload J dX7_init_22 rfl (lv_at hl 0 rfl) ?_
  refine j_sipush (v := 140) J dX7_init_23 (by decide) ?_
  refine j_newa (u := 703) (N := 140) J (by decide +kernel) rfl rfl (s0_0 (by decide) (by decide) (by decide)) (by decide) (cloB_app clo_0 (clo_1 (u := 702) rfl)) (by decide) (by decide) (by decide) (Nat.le_of_ble_eq_true rfl) (Nat.le_of_ble_eq_true rfl) dX7_init_26 (fun f2 a2 => ?_)
  refine j_putF (T := TX7) (N := 15) (ci := 7) (k := 4) (index := 16) (ty := (.array .int)) J hin iw7 tyX7_ok nmX7 rfl (by decide) rfl (by decide +kernel) rfl rfl (by decide +kernel) rfl rfl (Nat.le_of_ble_eq_true rfl) dX7_init_28 ?_
  refine j_aload J dX7_init_31 rfl (lv_at hl 0 rfl) ?_
  refine j_sipush (v := 384) J dX7_init_32 (by decide) ?_
  refine j_newa (u := 704) (N := 384) J (by decide +kernel) rfl rfl (s0_0 (by decide) (by decide) (by decide)) (by decide) (cloB_app (cloB_app clo_0 (clo_1 (u := 702) rfl)) (clo_1 (u := 703) rfl)) (by decide) (by decide) (by decide) (Nat.le_of_ble_eq_true rfl) (Nat.le_of_ble_eq_true rfl) dX7_init_35 (fun f3 a3 => ?_)
  refine j_putF (T := TX7) (N := 15) (ci := 7) (k := 6) (index := 19) (ty := (.array .int)) J hin iw7 tyX7_ok nmX7 rfl (by decide) rfl (by decide +kernel) rfl rfl (by decide +kernel) rfl rfl (Nat.le_of_ble_eq_true rfl) dX7_init_37 ?_
  refine j_aload J dX7_init_40 rfl (lv_at hl 0 rfl) ?_
  refine j_sipush (v := 192) J dX7_init_41 (by decide) ?_
  refine j_newa (u := 705) (N := 192) J (by decide +kernel) rfl rfl (s0_0 (by decide) (by decide) (by decide)) (by decide) (cloB_app (cloB_app (cloB_app clo_0 (clo_1 (u := 702) rfl)) (clo_1 (u := 703) rfl)) (clo_1 (u := 704) rfl)) (by decide) (by decide) (by decide) (Nat.le_of_ble_eq_true rfl) (Nat.le_of_ble_eq_true rfl) dX7_init_44 (fun f4 a4 => ?_)
  refine j_putF (T := TX7) (N := 15) (ci := 7) (k := 7) (index := 22) (ty := (.array .int)) J hin iw7 tyX7_ok nmX7 rfl (by decide) rfl (by decide +kernel) rfl rfl (by decide +kernel) rfl rfl (Nat.le_of_ble_eq_true rfl) dX7_init_46 ?_
  refine j_aload J dX7_init_49 rfl (lv_at hl 0 rfl) ?_
  refine j_sipush (v := 192) J dX7_init_50 (by decide) ?_
  refine j_newa (u := 706) (N := 192) J (by decide +kernel) rfl rfl (s0_0 (by decide) (by decide) (by decide)) (by decide) (cloB_app (cloB_app (cloB_app (cloB_app clo_0 (clo_1 (u := 702) rfl)) (clo_1 (u := 703) rfl)) (clo_1 (u := 704) rfl)) (clo_1 (u := 705) rfl)) (by decide) (by decide) (by decide) (Nat.le_of_ble_eq_true rfl) (Nat.le_of_ble_eq_true rfl) dX7_init_53 (fun f5 a5 => ?_)
  refine j_putF (T := TX7) (N := 15) (ci := 7) (k := 11) (index := 25) (ty := (.array .int)) J hin iw7 tyX7_ok nmX7 rfl (by decide) rfl (by decide +kernel) rfl rfl (by decide +kernel) rfl rfl (Nat.le_of_ble_eq_true rfl) dX7_init_55 ?_
  refine j_aload J dX7_init_58 rfl (lv_at hl 0 rfl) ?_
  refine j_iconst (v := 0) J dX7_init_59 (by decide) ?_
  refine j_put (T := TX7) (N := 15) (ci := 7) (k := 0) (index := 28) (ty := .int) J iw7 tyX7_ok nmX7 rfl (by decide) rfl (by decide +kernel) rfl (by decide +kernel) rfl rfl (Nat.le_of_ble_eq_true rfl) dX7_init_60 ?_
  refine j_aload J dX7_init_63 rfl (lv_at hl 0 rfl) ?_
  refine j_get (T := TX7) (N := 15) (ci := 7) (k := 1) (index := 7) J iw7 rfl (by decide) rfl (by decide +kernel) rfl dX7_init_64 ?_
  refine j_sipush (v := 768) J dX7_init_67 (by decide) ?_
  refine j_bipush (v := 50) J dX7_init_70 (by decide) ?_
  refine j_iast J (vp_in_iff.mpr (by decide)) dX7_init_72 ?_
  refine j_aload J dX7_init_73 rfl (lv_at hl 0 rfl) ?_
  refine j_get (T := TX7) (N := 15) (ci := 7) (k := 1) (index := 7) J iw7 rfl (by decide) rfl (by decide +kernel) rfl dX7_init_74 ?_
  refine j_sipush (v := 769) J dX7_init_77 (by decide) ?_
  refine j_iconst (v := 1) J dX7_init_80 (by decide) ?_
  refine j_iast J (vp_in_iff.mpr (by decide)) dX7_init_81 ?_
  refine j_aload J dX7_init_82 rfl (lv_at hl 0 rfl) ?_
  refine j_get (T := TX7) (N := 15) (ci := 7) (k := 1) (index := 7) J iw7 rfl (by decide) rfl (by decide +kernel) rfl dX7_init_83 ?_
  refine j_sipush (v := 771) J dX7_init_86 (by decide) ?_
  refine j_bipush (v := 40) J dX7_init_89 (by decide) ?_
  refine j_iast J (vp_in_iff.mpr (by decide)) dX7_init_91 ?_
  refine j_aload J dX7_init_92 rfl (lv_at hl 0 rfl) ?_
  refine j_get (T := TX7) (N := 15) (ci := 7) (k := 1) (index := 7) J iw7 rfl (by decide) rfl (by decide +kernel) rfl dX7_init_93 ?_
  refine j_sipush (v := 772) J dX7_init_96 (by decide) ?_
  refine j_iconst (v := 2) J dX7_init_99 (by decide) ?_
  refine j_iast J (vp_in_iff.mpr (by decide)) dX7_init_100 ?_
  rw [show (768 : Int32).toNatClampNeg = 768 by decide, show (769 : Int32).toNatClampNeg = 769 by decide, show (771 : Int32).toNatClampNeg = 771 by decide, show (772 : Int32).toNatClampNeg = 772 by decide, s0_701]
  refine j_back (X := [_]) (u := 701) (cloB_app (cloB_app (cloB_app (cloB_app (cloB_app clo_0 (clo_1 (u := 702) rfl)) (clo_1 (u := 703) rfl)) (clo_1 (u := 704) rfl)) (clo_1 (u := 705) rfl)) (clo_1 (u := 706) rfl)) (by decide) (fun f2 _ => rfl) (fun f6 a6 e6 => ?_)
  refine j_ret (ci := 7) J hr hlocks rfl rfl (by decide) (by decide) (cloB_app (cloB_app (cloB_app (cloB_app (cloB_app (cloB_app clo_0 (clo_1 (u := 702) rfl)) (clo_1 (u := 703) rfl)) (clo_1 (u := 704) rfl)) (clo_1 (u := 705) rfl)) (clo_1 (u := 706) rfl)) (clo_1 (u := 701) rfl)) (rf_us clo_uM rfl (by decide)) ?_ (Nat.le_of_ble_eq_true rfl) (Nat.le_of_ble_eq_true rfl) dX7_init_101
  show _ = [fV (gF g f6) s0 700 0, fV (gF g f6) s0 700 1, fV (gF g f6) s0 700 2, fV (gF g f6) s0 700 3, fV (gF g f6) s0 700 4, fV (gF g f6) s0 700 5, fV (gF g f6) s0 700 6, fV (gF g f6) s0 700 7, fV (gF g f6) s0 700 8, fV (gF g f6) s0 700 9, fV (gF g f6) s0 700 10, fV (gF g f6) s0 700 11, fV (gF g f6) s0 700 12, fV (gF g f6) s0 700 13, fV (gF g f6) s0 700 14]
  rw [fV_i (k := 0) rfl, fV_r (k := 1) (t := 701) rfl rfl, fV_r (k := 2) (t := 702) rfl rfl, fV_i (k := 3) rfl, fV_r (k := 4) (t := 703) rfl rfl, fV_i (k := 5) rfl, fV_r (k := 6) (t := 704) rfl rfl, fV_r (k := 7) (t := 705) rfl rfl, fV_i (k := 8) rfl, fV_i (k := 9) rfl, fV_i (k := 10) rfl, fV_r (k := 11) (t := 706) rfl rfl, fV_i (k := 12) rfl, fV_i (k := 13) rfl, fV_i (k := 14) rfl]
  rw [e6, a6 702 (by decide), a5 702 (by decide), a4 702 (by decide), a3 702 (by decide), a2 702 (by decide), a6 703 (by decide), a5 703 (by decide), a4 703 (by decide), a3 703 (by decide), a6 704 (by decide), a5 704 (by decide), a4 704 (by decide), a6 705 (by decide), a5 705 (by decide), a6 706 (by decide)]
  rfl
