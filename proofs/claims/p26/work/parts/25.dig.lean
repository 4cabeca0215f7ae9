/-! digest, cell: their contracts -/
theorem mdL_digest : MD yL_digest wsL_digest cL_digest 6 (some .long) 1 := ⟨⟨_, rfl⟩, by decide +kernel, by decide +kernel, by decide +kernel⟩
theorem mdL_cell : MD yL_cell wsL_cell cL_cell 2 (some .int) 2 := ⟨⟨_, rfl⟩, by decide +kernel, by decide +kernel, by decide +kernel⟩
def DG (g : aG) (l : Launch) (σ : aS) : Prop :=
  Met l yL_digest wsL_digest ({ frames := 5, cells := 0, slots := 0, locals := 108 } : Jvm.Room) (va_Pc (([.ref 600] : List Value).map (cv g)) (fun U => RH g σ U.heap ∧ GK g U U.heap)) (fun _ st o t => (o = .returned (some (.long (dig σ))) ∧ RH g (iK σ) t.heap) ∧ va_F (gA g) st t) 0 0 (gA g)
theorem w_callD {K : KT} {cc : ByteArray} {own : String} {Ts : List Cond} {fr lo pc nL idx : Nat} {lv : List (Nat × Value)} {rest : List Value} {σ : aS} (hK : OKc K cc own Ts fr lo) (hc : DG (kG K) (kL K) σ) (hG : GoodIn Ts (va_wsS own idx yL_digest wsL_digest)) (hR : 5 + 1 ≤ fr ∧ 8 + (6 + 11) + 108 ≤ lo) (hrest : (rest.map fun v => v.category).sum ≤ 8) (hd : decode cc pc = .ok (.invokestatic idx, 3)) (kk : DW K (pc + 3) nL lv (.long (dig σ) :: rest) (iK σ)) : DW K pc nL lv (.ref (gL (kG K) 600) :: rest) σ := by
  obtain ⟨p, l, e, R, s, m, args, below, meth, c, cells, slots, Q, g⟩ := K
  obtain ⟨hx, hb, hown, hts, hGK, hfr, hlo, hcel, hslo⟩ := hK
  intro H locs jl hRh hS hml hj
  obtain ⟨⟨ws', hw⟩, hm1, hm2, hm3⟩ := mdL_digest
  exact w_back (va_runS (As := ([.ref 600] : List Value).map (cv g)) (rest := rest) ⟨hx, hb, hml, hown, hts⟩ hc (va_cwS 1 hts hG hw rfl rfl ⟨hm1, hm2, hm3⟩ ⟨Nat.le_trans hR.1 hfr, Nat.le_trans hR.2 hlo⟩) ⟨cn_pre, fun U hU hW => ⟨rfl, by rw [hU]; exact hRh, by rw [hU]; exact (hGK.kept hS).moved hW⟩⟩ rfl rfl hj.1 rfl (lv_room hrest) hd ⟨hcel, hslo⟩) (fun st₀ v' t q => ⟨⟨Outcome.returned.inj q.1.1, q.1.2⟩, q.2⟩) hS hml hj kk
theorem dg2_at (σ : aS) {x y w : Nat} (hx : x < 16) (hw : w < 4) : dg2 σ ((16 * y + x) * 4 + w + 1) = 31 * dg2 σ ((16 * y + x) * 4 + w) + (celV σ x y w).toInt64 := by
  show 31 * dg2 σ ((16 * y + x) * 4 + w) + (celV σ (((16 * y + x) * 4 + w) / 4 % 16) (((16 * y + x) * 4 + w) / 64) (((16 * y + x) * 4 + w) % 4)).toInt64 = _
  rw [show ((16 * y + x) * 4 + w) / 4 % 16 = x by omega, show ((16 * y + x) * 4 + w) / 64 = y by omega, show ((16 * y + x) * 4 + w) % 4 = w by omega]
set_option maxHeartbeats 4000000 in
set_option maxRecDepth 100000 in
theorem zL_digest {g : aG} {l : Launch} {σ : aS} {P nx sz : Nat} (h : IV P nx sz σ) : DG g l σ := by
  unfold DG
  refine Met.ofW (cc := cL_digest) (maxL := 6) (ret := some .long) (by decide +kernel) rfl ?_
  intro p e s m args below meth c s₁ B hml hv
  obtain ⟨rfl, hR, hGK⟩ := hv
  have hown : s.vm.findClass RL = some m.cls := findClass_of_methodNamed B.named
  have hts : ∀ w ∈ wsL_digest, w.before _ s = true := atoms_spec (ws := wsL_digest) B.pre
  obtain ⟨K, hKd⟩ : ∃ K : KT, K = (p, l, e, ({ frames := 5, cells := 0, slots := 0, locals := 108 } : Jvm.Room), s, m, (([.ref 600] : List Value).map (cv g)).toArray, below, meth, c, 0, 0, MQ below (fun _ st o t => (o = .returned (some (.long (dig σ))) ∧ RH g (iK σ) t.heap) ∧ va_F (gA g) st t) (([.ref 600] : List Value).map (cv g)).toArray s 0 0 (gA g), g) := ⟨_, rfl⟩
  have hK : OKc K cL_digest RL wsL_digest 5 108 := by
    rw [hKd]
    exact ⟨B.exec, B.bytes, hown, hts, hGK, Nat.le_refl _, Nat.le_refl _, Nat.le_refl _, Nat.le_refl _⟩
  have hI := IV_iK h
  have kg : kG K = g := by rw [hKd]; rfl
  have kl : kL K = l := by rw [hKd]; rfl
  have hend : ∀ lv : List (Nat × Value), DW K 136 6 lv [.long (dig σ)] (iK σ) := by
    intro lv
    rw [hKd]
    intro H locs jl hRh hS _ _
    exact W.lret B.exec B.bytes B.returns (fun t ht _ => ⟨⟨rfl, by rw [ht]; exact hRh⟩, hS.F ht⟩) hS.2.2 dL_digest_136 B.notSynchronized
  have hx3 : (DW K 95 6 [(0, .ref (gL (kG K) 600)), (1, .long (dg3 σ 12)), (3, .int (nI 12))] [] (iK σ)) := by
    refine w_iloadn 2 hK dL_digest_95 rfl rfl ?_
    refine w_bipush (v := 12) hK dL_digest_96 (by decide) ?_
    refine w_icmp_ge (tgt := 135) hK dL_digest_98 (by decide) (fun c_98 => ?_) (fun c_98 => absurd c_98 (fun q => q (ge_E rfl rfl)))
    refine w_lloadn 1 hK dL_digest_135 rfl rfl ?_
    exact hend _
  have hb3 : ∀ n : Nat, n < 12 → (DW K 95 6 [(0, .ref (gL (kG K) 600)), (1, .long (dg3 σ (n + 1))), (3, .int (nI (n + 1)))] [] (iK σ)) → (DW K 95 6 [(0, .ref (gL (kG K) 600)), (1, .long (dg3 σ n)), (3, .int (nI n))] [] (iK σ)) := by
    intro n hn ih
    have q0 := prf_at (g := kG K) (l := kL K) hI hn (show 0 < 6 by decide)
    have q3 := prf_at (g := kG K) (l := kL K) hI hn (show 3 < 6 by decide)
    have a0 : prfV (iK σ) n 0 = prfV σ n 0 := prfV_cong (SAG_lo (fun o ho => iK_ne (by omega))) (by decide)
    have a3 : prfV (iK σ) n 3 = prfV σ n 3 := prfV_cong (SAG_lo (fun o ho => iK_ne (by omega))) (by decide)
    rw [a0, show nI 0 = (0 : Int32) from rfl] at q0
    rw [a3, show nI 3 = (3 : Int32) from rfl] at q3
    refine w_iloadn 2 hK dL_digest_95 rfl rfl ?_
    refine w_bipush (v := 12) hK dL_digest_96 (by decide) ?_
    refine w_icmp_ge (tgt := 135) hK dL_digest_98 (by decide) (fun c_98 => absurd c_98 (ge_N rfl rfl hn (by decide))) (fun c_98 => ?_)
    refine w_ldc2 (v := 31) hK dL_digest_101 (by decide +kernel) ?_
    refine w_lloadn 1 hK dL_digest_104 rfl rfl ?_
    refine w_lmul hK dL_digest_105 ?_
    refine w_aloadn 0 hK dL_digest_106 rfl rfl ?_
    refine w_iloadn 2 hK dL_digest_107 rfl rfl ?_
    refine w_iconst (v := 0) hK dL_digest_108 (by decide) ?_
    refine w_callV (ci := 6) hK mdX6_proof (q0) gL_digest_X6_proof rfl rfl rfl (by decide) rfl ⟨Nat.le_of_ble_eq_true rfl, Nat.le_of_ble_eq_true rfl⟩ rfl (Nat.le_of_ble_eq_true rfl) dL_digest_109 ?_
    refine w_i2l hK dL_digest_112 ?_
    refine w_ladd hK dL_digest_113 ?_
    refine w_lstoren hK dL_digest_114 rfl (by decide) rfl ?_
    refine w_ldc2 (v := 31) hK dL_digest_115 (by decide +kernel) ?_
    refine w_lloadn 0 hK dL_digest_118 rfl rfl ?_
    refine w_lmul hK dL_digest_119 ?_
    refine w_aloadn 1 hK dL_digest_120 rfl rfl ?_
    refine w_iloadn 2 hK dL_digest_121 rfl rfl ?_
    refine w_iconst (v := 3) hK dL_digest_122 (by decide) ?_
    refine w_callV (ci := 6) hK mdX6_proof (q3) gL_digest_X6_proof rfl rfl rfl (by decide) rfl ⟨Nat.le_of_ble_eq_true rfl, Nat.le_of_ble_eq_true rfl⟩ rfl (Nat.le_of_ble_eq_true rfl) dL_digest_123 ?_
    refine w_i2l hK dL_digest_126 ?_
    refine w_ladd hK dL_digest_127 ?_
    refine w_lstoren hK dL_digest_128 rfl (by decide) rfl ?_
    refine w_iinc 2 hK dL_digest_129 rfl (hv_1 _) (by decide) rfl ?_
    refine w_goto (tgt := 95) hK dL_digest_132 (by decide) ?_
    exact DW.sub [2, 1, 0] ih (by rw [nI_1]; rfl)
  have hxY : (DW K 33 6 [(0, .ref (gL (kG K) 600)), (1, .long (dg2 σ (16 * 12 * 4))), (3, .int (nI 12))] [] (iK σ)) := by
    refine w_iloadn 2 hK dL_digest_33 rfl rfl ?_
    refine w_bipush (v := 12) hK dL_digest_34 (by decide) ?_
    refine w_icmp_ge (tgt := 93) hK dL_digest_36 (by decide) (fun c_36 => ?_) (fun c_36 => absurd c_36 (fun q => q (ge_E rfl rfl)))
    refine w_iconst (v := 0) hK dL_digest_93 (by decide) ?_
    refine w_istoren hK dL_digest_94 rfl (by decide) rfl ?_
    exact DW.sub [1, 2, 0] (up_to (fun n => (DW K 95 6 [(0, .ref (gL (kG K) 600)), (1, .long (dg3 σ n)), (3, .int (nI n))] [] (iK σ))) 12 hx3 hb3) rfl
  have hbY : ∀ y : Nat, y < 12 → (DW K 33 6 [(0, .ref (gL (kG K) 600)), (1, .long (dg2 σ (16 * (y + 1) * 4))), (3, .int (nI (y + 1)))] [] (iK σ)) → (DW K 33 6 [(0, .ref (gL (kG K) 600)), (1, .long (dg2 σ (16 * y * 4))), (3, .int (nI y))] [] (iK σ)) := by
    intro y hy ihY
    have hxX : (DW K 42 6 [(0, .ref (gL (kG K) 600)), (1, .long (dg2 σ ((16 * y + 16) * 4))), (3, .int (nI y)), (4, .int (nI 16))] [] (iK σ)) := by
      refine w_iload 3 hK dL_digest_42 rfl ?_
      refine w_bipush (v := 16) hK dL_digest_44 (by decide) ?_
      refine w_icmp_ge (tgt := 87) hK dL_digest_46 (by decide) (fun c_46 => ?_) (fun c_46 => absurd c_46 (fun q => q (ge_E rfl rfl)))
      refine w_iinc 2 hK dL_digest_87 rfl (hv_1 _) (by decide) rfl ?_
      refine w_goto (tgt := 33) hK dL_digest_90 (by decide) ?_
      exact DW.sub [1, 2, 0] ihY (by rw [nI_1, show 16 * (y + 1) = 16 * y + 16 by omega]; rfl)
    have hbX : ∀ x : Nat, x < 16 → (DW K 42 6 [(0, .ref (gL (kG K) 600)), (1, .long (dg2 σ ((16 * y + (x + 1)) * 4))), (3, .int (nI y)), (4, .int (nI (x + 1)))] [] (iK σ)) → (DW K 42 6 [(0, .ref (gL (kG K) 600)), (1, .long (dg2 σ ((16 * y + x) * 4))), (3, .int (nI y)), (4, .int (nI x))] [] (iK σ)) := by
      intro x hx ihX
      have hxW : (DW K 52 6 [(0, .ref (gL (kG K) 600)), (1, .long (dg2 σ ((16 * y + x) * 4 + 4))), (3, .int (nI y)), (4, .int (nI x)), (5, .int (nI 4))] [] (iK σ)) := by
        refine w_iload 4 hK dL_digest_52 rfl ?_
        refine w_iconst (v := 4) hK dL_digest_54 (by decide) ?_
        refine w_icmp_ge (tgt := 81) hK dL_digest_55 (by decide) (fun c_55 => ?_) (fun c_55 => absurd c_55 (fun q => q (ge_E rfl rfl)))
        refine w_iinc 3 hK dL_digest_81 rfl (hv_1 _) (by decide) rfl ?_
        refine w_goto (tgt := 42) hK dL_digest_84 (by decide) ?_
        exact DW.sub [1, 2, 3, 0] ihX (by rw [nI_1, show (16 * y + (x + 1)) * 4 = (16 * y + x) * 4 + 4 by omega]; rfl)
      have hbW : ∀ z : Nat, z < 4 → (DW K 52 6 [(0, .ref (gL (kG K) 600)), (1, .long (dg2 σ ((16 * y + x) * 4 + (z + 1)))), (3, .int (nI y)), (4, .int (nI x)), (5, .int (nI (z + 1)))] [] (iK σ)) → (DW K 52 6 [(0, .ref (gL (kG K) 600)), (1, .long (dg2 σ ((16 * y + x) * 4 + z))), (3, .int (nI y)), (4, .int (nI x)), (5, .int (nI z))] [] (iK σ)) := by
        intro z hz ihW
        have q := cel_at (g := kG K) (l := kL K) (σ := iK σ) x y z hx hy hz
        have a : celV (iK σ) x y z = celV σ x y z := celV_cong (SAG_lo (fun o ho => iK_ne (by omega))) hx hy z
        rw [a] at q
        rw [← Nat.add_assoc, dg2_at σ hx hz] at ihW
        refine w_iload 4 hK dL_digest_52 rfl ?_
        refine w_iconst (v := 4) hK dL_digest_54 (by decide) ?_
        refine w_icmp_ge (tgt := 81) hK dL_digest_55 (by decide) (fun c_55 => absurd c_55 (ge_N rfl rfl hz (by decide))) (fun c_55 => ?_)
        refine w_ldc2 (v := 31) hK dL_digest_58 (by decide +kernel) ?_
        refine w_lloadn 1 hK dL_digest_61 rfl rfl ?_
        refine w_lmul hK dL_digest_62 ?_
        refine w_aloadn 0 hK dL_digest_63 rfl rfl ?_
        refine w_iload 3 hK dL_digest_64 rfl ?_
        refine w_iloadn 2 hK dL_digest_66 rfl rfl ?_
        refine w_iload 4 hK dL_digest_67 rfl ?_
        refine w_callV (ci := 6) hK mdX6_cell (q) gL_digest_X6_cell rfl rfl rfl (by decide) rfl ⟨Nat.le_of_ble_eq_true rfl, Nat.le_of_ble_eq_true rfl⟩ rfl (Nat.le_of_ble_eq_true rfl) dL_digest_69 ?_
        refine w_i2l hK dL_digest_72 ?_
        refine w_ladd hK dL_digest_73 ?_
        refine w_lstoren hK dL_digest_74 rfl (by decide) rfl ?_
        refine w_iinc 4 hK dL_digest_75 rfl (hv_1 _) (by decide) rfl ?_
        refine w_goto (tgt := 52) hK dL_digest_78 (by decide) ?_
        exact DW.sub [2, 1, 3, 4, 0] ihW (by rw [nI_1]; rfl)
      refine w_iload 3 hK dL_digest_42 rfl ?_
      refine w_bipush (v := 16) hK dL_digest_44 (by decide) ?_
      refine w_icmp_ge (tgt := 87) hK dL_digest_46 (by decide) (fun c_46 => absurd c_46 (ge_N rfl rfl hx (by decide))) (fun c_46 => ?_)
      refine w_iconst (v := 0) hK dL_digest_49 (by decide) ?_
      refine w_istore hK dL_digest_50 (by decide) rfl ?_
      exact DW.sub [1, 2, 3, 4, 0] (up_to (fun z => (DW K 52 6 [(0, .ref (gL (kG K) 600)), (1, .long (dg2 σ ((16 * y + x) * 4 + z))), (3, .int (nI y)), (4, .int (nI x)), (5, .int (nI z))] [] (iK σ))) 4 hxW hbW) rfl
    refine w_iloadn 2 hK dL_digest_33 rfl rfl ?_
    refine w_bipush (v := 12) hK dL_digest_34 (by decide) ?_
    refine w_icmp_ge (tgt := 93) hK dL_digest_36 (by decide) (fun c_36 => absurd c_36 (ge_N rfl rfl hy (by decide))) (fun c_36 => ?_)
    refine w_iconst (v := 0) hK dL_digest_39 (by decide) ?_
    refine w_istore hK dL_digest_40 (by decide) rfl ?_
    exact DW.sub [1, 2, 3, 0] (up_to (fun x => (DW K 42 6 [(0, .ref (gL (kG K) 600)), (1, .long (dg2 σ ((16 * y + x) * 4))), (3, .int (nI y)), (4, .int (nI x))] [] (iK σ))) 16 hxX hbX) rfl
  have hx1 : (DW K 6 6 [(0, .ref (gL (kG K) 600)), (1, .long (dg1 σ 18)), (3, .int (nI 18))] [] (stt σ 18)) := by
    refine w_iloadn 2 hK dL_digest_6 rfl rfl ?_
    refine w_bipush (v := 18) hK dL_digest_7 (by decide) ?_
    refine w_icmp_ge (tgt := 31) hK dL_digest_9 (by decide) (fun c_9 => ?_) (fun c_9 => absurd c_9 (fun q => q (ge_E rfl rfl)))
    refine w_iconst (v := 0) hK dL_digest_31 (by decide) ?_
    refine w_istoren hK dL_digest_32 rfl (by decide) rfl ?_
    exact DW.sub [1, 2, 0] (up_to (fun y => (DW K 33 6 [(0, .ref (gL (kG K) 600)), (1, .long (dg2 σ (16 * y * 4))), (3, .int (nI y))] [] (iK σ))) 12 hxY hbY) rfl
  have hb1 : ∀ n : Nat, n < 18 → (DW K 6 6 [(0, .ref (gL (kG K) 600)), (1, .long (dg1 σ (n + 1))), (3, .int (nI (n + 1)))] [] (stt σ (n + 1))) → (DW K 6 6 [(0, .ref (gL (kG K) 600)), (1, .long (dg1 σ n)), (3, .int (nI n))] [] (stt σ n)) := by
    intro n hn ih
    refine w_iloadn 2 hK dL_digest_6 rfl rfl ?_
    refine w_bipush (v := 18) hK dL_digest_7 (by decide) ?_
    refine w_icmp_ge (tgt := 31) hK dL_digest_9 (by decide) (fun c_9 => absurd c_9 (ge_N rfl rfl hn (by decide))) (fun c_9 => ?_)
    refine w_ldc2 (v := 31) hK dL_digest_12 (by decide +kernel) ?_
    refine w_lloadn 1 hK dL_digest_15 rfl rfl ?_
    refine w_lmul hK dL_digest_16 ?_
    refine w_aloadn 0 hK dL_digest_17 rfl rfl ?_
    refine w_iloadn 2 hK dL_digest_18 rfl rfl ?_
    refine w_callV (ci := 6) hK mdX6_count (cnt_at h n hn) gL_digest_X6_count rfl rfl rfl (by decide) rfl ⟨Nat.le_of_ble_eq_true rfl, Nat.le_of_ble_eq_true rfl⟩ rfl (Nat.le_of_ble_eq_true rfl) dL_digest_19 ?_
    refine w_i2l hK dL_digest_22 ?_
    refine w_ladd hK dL_digest_23 ?_
    refine w_lstoren hK dL_digest_24 rfl (by decide) rfl ?_
    refine w_iinc 2 hK dL_digest_25 rfl (hv_1 _) (by decide) rfl ?_
    refine w_goto (tgt := 6) hK dL_digest_28 (by decide) ?_
    exact DW.sub [2, 1, 0] ih (by rw [nI_1]; rfl)
  have go : DW K 0 6 [(0, .ref (gL (kG K) 600))] [] σ := by
    refine w_ldc2 (v := 7) hK dL_digest_0 (by decide +kernel) ?_
    refine w_lstoren hK dL_digest_3 rfl (by decide) rfl ?_
    refine w_iconst (v := 0) hK dL_digest_4 (by decide) ?_
    refine w_istoren hK dL_digest_5 rfl (by decide) rfl ?_
    exact DW.sub [2, 1, 0] (up_to (fun n => (DW K 6 6 [(0, .ref (gL (kG K) 600)), (1, .long (dg1 σ n)), (3, .int (nI n))] [] (stt σ n))) 18 hx1 hb1) rfl
  rw [lg_entry_eq]
  have hl := lv_entry (([.ref 600] : List Value).map (cv g)) (n := 6) (Nat.le_of_ble_eq_true rfl)
  rw [hKd] at go
  exact go s.heap [] _ hR va_S.rf hml hl
/-! cell: an int of the script, or of a formula behind its end -/
def CL (g : aG) (l : Launch) (b L : Nat) (xs : Nat → Int32) (k : Nat) (σ : aS) (r : Int32) : Prop :=
  Met l yL_cell wsL_cell ({ frames := 0, cells := 0, slots := 0, locals := 0 } : Jvm.Room) (va_Pc [.ref b, .int (nI k)] (fun U => RH g σ U.heap ∧ va_X b L xs U U.heap)) (fun _ st o t => (o = .returned (some (.int r)) ∧ RH g σ t.heap) ∧ va_F (gA g) st t) 0 0 (gA g)
theorem cl_pre {g : aG} {σ : aS} {b L : Nat} {xs : Nat → Int32} {As : List Value} : FrameBlind (va_Pc As (fun U => RH g σ U.heap ∧ va_X b L xs U U.heap)) := by
  intro a U g2 mk q
  obtain ⟨q0, q1, q2⟩ := q
  exact ⟨q0, q1, va_X.moved (u := U) (U := U.calling g2 mk a) (Vm.Alike.refl U.vm) q2⟩
theorem w_callC {K : KT} {cc : ByteArray} {own : String} {Ts : List Cond} {fr lo pc nL idx b L k : Nat} {xs : Nat → Int32} {lv : List (Nat × Value)} {rest : List Value} {σ : aS} {r : Int32} (hK : OKc K cc own Ts fr lo) (hX : match K with | (_, _, _, _, s, _, _, _, _, _, _, _, _, g) => va_X b L xs s s.heap ∧ b < s.heap.size ∧ ¬ gA g b) (hc : CL (kG K) (kL K) b L xs k σ r) (hG : GoodIn Ts (va_wsS own idx yL_cell wsL_cell)) (hR : 0 + 1 ≤ fr ∧ 8 + (2 + 11) + 0 ≤ lo) (hrest : (rest.map fun v => v.category).sum ≤ 8) (hd : decode cc pc = .ok (.invokestatic idx, 3)) (kk : DW K (pc + 3) nL lv (.int r :: rest) σ) : DW K pc nL lv (.int (nI k) :: .ref b :: rest) σ := by
  obtain ⟨p, l, e, R, s, m, args, below, meth, c, cells, slots, Q, g⟩ := K
  obtain ⟨hx, hb, hown, hts, hGK, hfr, hlo, hcel, hslo⟩ := hK
  obtain ⟨hX, hbl, hbA⟩ := hX
  intro H locs jl hRh hS hml hj
  obtain ⟨⟨ws', hw⟩, hm1, hm2, hm3⟩ := mdL_cell
  exact w_back (va_runS (As := [.ref b, .int (nI k)]) (rest := rest) ⟨hx, hb, hml, hown, hts⟩ hc (va_cwS 2 hts hG hw rfl rfl ⟨hm1, hm2, hm3⟩ ⟨Nat.le_trans hR.1 hfr, Nat.le_trans hR.2 hlo⟩) ⟨cl_pre, fun U hU hW => ⟨rfl, by rw [hU]; exact hRh, by rw [hU]; exact va_X.moved hW.alike (hX.kept (hS.2.1 b hbl hbA))⟩⟩ rfl rfl hj.1 rfl (lv_room hrest) hd ⟨hcel, hslo⟩) (fun st₀ v' t q => ⟨⟨Outcome.returned.inj q.1.1, q.1.2⟩, q.2⟩) hS hml hj kk
set_option maxHeartbeats 4000000 in
set_option maxRecDepth 100000 in
theorem zL_cell {g : aG} {l : Launch} {σ : aS} {b L : Nat} {xs : Nat → Int32} (hL : L ≤ 260) (k : Nat) (hk : k < 100) : ∃ r : Int32, CL g l b L xs k σ r := by
  refine ⟨if k < L then xs k else 7919 * (nI k + 3) * (nI k + 11), ?_⟩
  unfold CL
  refine Met.ofW (cc := cL_cell) (maxL := 2) (ret := some .int) (by decide +kernel) rfl ?_
  intro p e s m args below meth c s₁ B hml hv
  obtain ⟨rfl, hR, hX⟩ := hv
  have hbl : b < s.heap.size := by
    obtain ⟨scr, h1, _⟩ := hX
    exact (Array.getElem?_eq_some_iff.mp h1).1
  have hx := B.exec
  have hb := B.bytes
  rw [lg_entry_eq]
  have hl := lv_entry ([.ref b, .int (nI k)]) (n := 2) (Nat.le_of_ble_eq_true rfl)
  generalize (lg_sl ([.ref b, .int (nI k)]) ++ List.replicate (2 - (lg_sl ([.ref b, .int (nI k)])).length) Slot.unset).toArray = jl at hl ⊢
  have hl : lv_has jl 2 [(0, .ref b), (1, .int (nI k))] := hl
  have hS : va_S (fun _ => False) s.heap s.heap [] := va_S.rf
  refine lv_iload_n hx hb dL_cell_0 rfl (lv_at hl 1 rfl) ?_
  refine lv_aload_n hx hb dL_cell_1 rfl (lv_at hl 0 rfl) ?_
  refine va_slen hx hb hX hbl (A := fun _ => False) (fun z => z) hS dL_cell_2 ?_
  refine lv_icmp_ge (tgt := 12) hx hb dL_cell_3 (by decide) (fun c3 => ?_) (fun c3 => ?_)
  · have hkL : ¬ k < L := fun z => nI_ge z (by omega) c3
    refine lv_sipush (v := 7919) hx hb dL_cell_12 (by decide) ?_
    refine lv_iload_n hx hb dL_cell_15 rfl (lv_at hl 1 rfl) ?_
    refine lv_iconst (v := 3) hx hb dL_cell_16 (by decide) ?_
    refine lv_iadd hx hb dL_cell_17 ?_
    refine lv_imul hx hb dL_cell_18 ?_
    refine lv_iload_n hx hb dL_cell_19 rfl (lv_at hl 1 rfl) ?_
    refine lv_bipush (v := 11) hx hb dL_cell_20 (by decide) ?_
    refine lv_iadd hx hb dL_cell_22 ?_
    refine lv_imul hx hb dL_cell_23 ?_
    rw [if_neg hkL]
    exact W.iret hx hb B.returns (fun t ht _ => ⟨⟨rfl, by rw [ht]; exact hR⟩, ⟨by rw [ht]; exact Nat.le_refl _, fun q _ _ => by rw [ht]⟩⟩) (fun q hq => by cases hq) dL_cell_24 B.notSynchronized
  · have hkL : k < L := by
      rcases Nat.lt_or_ge k L with z | z
      · exact z
      · exact absurd (nI_le z (by omega)) c3
    refine lv_aload_n hx hb dL_cell_6 rfl (lv_at hl 0 rfl) ?_
    refine lv_iload_n hx hb dL_cell_7 rfl (lv_at hl 1 rfl) ?_
    refine va_sld hx hb hX hbl (A := fun _ => False) (fun z => z) hS (vp_in_nI hkL (by omega)) dL_cell_8 ?_
    refine lv_goto (tgt := 24) hx hb dL_cell_9 (by decide) ?_
    rw [cl_nI (by omega), if_pos hkL]
    exact W.iret hx hb B.returns (fun t ht _ => ⟨⟨rfl, by rw [ht]; exact hR⟩, ⟨by rw [ht]; exact Nat.le_refl _, fun q _ _ => by rw [ht]⟩⟩) (fun q hq => by cases hq) dL_cell_24 B.notSynchronized
