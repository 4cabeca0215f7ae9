theorem sh_x {a b : Int32} (h : sh a b = true) : sxk a := by
  have h := (Bool.and_eq_true_iff.mp h).1
  exact of_decide_eq_true (p := ¬ a < -8 ∧ ¬ 8 < a) h
def yV (kind : Int32) (line col w : Bool) : Int32 := if ¬ kind = 0 ∧ line = false ∧ col = false then (if w = true then 1 else 2) else if kind = 0 ∧ col = true then 3 else if ¬ kind = 2 ∧ line = true then 4 else if kind = 2 ∧ line = false then 5 else 0
set_option maxHeartbeats 4000000 in
set_option maxRecDepth 100000 in
theorem zX6_count_0 {g : aG} {l : Launch} {σ : aS}  : CN g l yX6_count wsX6_count 4 87 [.ref 600, .int 0] σ (some (.int (σ 0 5))) σ := by
  refine cn_of (cc := cX6_count) (nL := 2) (ret := (some .int)) (own := RX6) (by decide +kernel) rfl rfl (Nat.le_of_ble_eq_true rfl) (fun K hg hl hK hE => ?_)
  subst hg; subst hl
  have i_0 : ∀ w ∈ u_ws RX0 TX0 5, w ∈ wsX6_count := by decide +kernel
  have i_5 : ∀ w ∈ u_ws RX5 TX5 10, w ∈ wsX6_count := by decide +kernel
  have i_6 : ∀ w ∈ u_ws RX6 TX6 5, w ∈ wsX6_count := by decide +kernel
  show AW K 0 [some (.ref 600), some (.int 0)] [] σ
  refine s_iload1 hK dX6_count_0 ?_
  refine s_tableIn (tgt := 96) hK dX6_count_1 (by decide) (by decide) (off := 95) (by decide) (by decide) ?_
  refine s_aload0 hK dX6_count_96 ?_
  refine s_getr (ci := 6) (k := 0) hK rfl rfl i_6 (by decide +kernel) dX6_count_97 (by decide) (by decide) (by decide) rfl rfl (rf_6_0 rfl) ?_
  refine s_geti (ci := 5) (k := 5) hK rfl rfl i_5 (by decide +kernel) dX6_count_100 (by decide) (by decide) (by decide) rfl rfl ?_
  exact s_iret hK hE dX6_count_103 rfl (rfl) (rfl)
set_option maxHeartbeats 4000000 in
set_option maxRecDepth 100000 in
theorem zX6_count_1 {g : aG} {l : Launch} {σ : aS}  : CN g l yX6_count wsX6_count 4 87 [.ref 600, .int 1] σ (some (.int (σ 1 0))) σ := by
  refine cn_of (cc := cX6_count) (nL := 2) (ret := (some .int)) (own := RX6) (by decide +kernel) rfl rfl (Nat.le_of_ble_eq_true rfl) (fun K hg hl hK hE => ?_)
  subst hg; subst hl
  have i_0 : ∀ w ∈ u_ws RX0 TX0 5, w ∈ wsX6_count := by decide +kernel
  have i_5 : ∀ w ∈ u_ws RX5 TX5 10, w ∈ wsX6_count := by decide +kernel
  have i_6 : ∀ w ∈ u_ws RX6 TX6 5, w ∈ wsX6_count := by decide +kernel
  show AW K 0 [some (.ref 600), some (.int 1)] [] σ
  refine s_iload1 hK dX6_count_0 ?_
  refine s_tableIn (tgt := 104) hK dX6_count_1 (by decide) (by decide) (off := 103) (by decide) (by decide) ?_
  refine s_aload0 hK dX6_count_104 ?_
  refine s_getr (ci := 6) (k := 0) hK rfl rfl i_6 (by decide +kernel) dX6_count_105 (by decide) (by decide) (by decide) rfl rfl (rf_6_0 rfl) ?_
  refine s_getr (ci := 5) (k := 1) hK rfl rfl i_5 (by decide +kernel) dX6_count_108 (by decide) (by decide) (by decide) rfl rfl (rf_5_1 rfl) ?_
  refine s_iload1 hK dX6_count_111 ?_
  refine s_iconst (v := 1) hK dX6_count_112 (by decide) ?_
  refine s_isub hK dX6_count_113 ?_
  refine s_ialdv (v := σ 1 0) (rfl) hK rfl (by show vp_in _ 5; unfold vp_in; decide) dX6_count_114 ?_
  exact s_iret hK hE dX6_count_115 rfl (rfl) (rfl)
set_option maxHeartbeats 4000000 in
set_option maxRecDepth 100000 in
theorem zX6_count_2 {g : aG} {l : Launch} {σ : aS}  : CN g l yX6_count wsX6_count 4 87 [.ref 600, .int 2] σ (some (.int (σ 1 1))) σ := by
  refine cn_of (cc := cX6_count) (nL := 2) (ret := (some .int)) (own := RX6) (by decide +kernel) rfl rfl (Nat.le_of_ble_eq_true rfl) (fun K hg hl hK hE => ?_)
  subst hg; subst hl
  have i_0 : ∀ w ∈ u_ws RX0 TX0 5, w ∈ wsX6_count := by decide +kernel
  have i_5 : ∀ w ∈ u_ws RX5 TX5 10, w ∈ wsX6_count := by decide +kernel
  have i_6 : ∀ w ∈ u_ws RX6 TX6 5, w ∈ wsX6_count := by decide +kernel
  show AW K 0 [some (.ref 600), some (.int 2)] [] σ
  refine s_iload1 hK dX6_count_0 ?_
  refine s_tableIn (tgt := 104) hK dX6_count_1 (by decide) (by decide) (off := 103) (by decide) (by decide) ?_
  refine s_aload0 hK dX6_count_104 ?_
  refine s_getr (ci := 6) (k := 0) hK rfl rfl i_6 (by decide +kernel) dX6_count_105 (by decide) (by decide) (by decide) rfl rfl (rf_6_0 rfl) ?_
  refine s_getr (ci := 5) (k := 1) hK rfl rfl i_5 (by decide +kernel) dX6_count_108 (by decide) (by decide) (by decide) rfl rfl (rf_5_1 rfl) ?_
  refine s_iload1 hK dX6_count_111 ?_
  refine s_iconst (v := 1) hK dX6_count_112 (by decide) ?_
  refine s_isub hK dX6_count_113 ?_
  refine s_ialdv (v := σ 1 1) (rfl) hK rfl (by show vp_in _ 5; unfold vp_in; decide) dX6_count_114 ?_
  exact s_iret hK hE dX6_count_115 rfl (rfl) (rfl)
set_option maxHeartbeats 4000000 in
set_option maxRecDepth 100000 in
theorem zX6_count_3 {g : aG} {l : Launch} {σ : aS}  : CN g l yX6_count wsX6_count 4 87 [.ref 600, .int 3] σ (some (.int (σ 1 2))) σ := by
  refine cn_of (cc := cX6_count) (nL := 2) (ret := (some .int)) (own := RX6) (by decide +kernel) rfl rfl (Nat.le_of_ble_eq_true rfl) (fun K hg hl hK hE => ?_)
  subst hg; subst hl
  have i_0 : ∀ w ∈ u_ws RX0 TX0 5, w ∈ wsX6_count := by decide +kernel
  have i_5 : ∀ w ∈ u_ws RX5 TX5 10, w ∈ wsX6_count := by decide +kernel
  have i_6 : ∀ w ∈ u_ws RX6 TX6 5, w ∈ wsX6_count := by decide +kernel
  show AW K 0 [some (.ref 600), some (.int 3)] [] σ
  refine s_iload1 hK dX6_count_0 ?_
  refine s_tableIn (tgt := 104) hK dX6_count_1 (by decide) (by decide) (off := 103) (by decide) (by decide) ?_
  refine s_aload0 hK dX6_count_104 ?_
  refine s_getr (ci := 6) (k := 0) hK rfl rfl i_6 (by decide +kernel) dX6_count_105 (by decide) (by decide) (by decide) rfl rfl (rf_6_0 rfl) ?_
  refine s_getr (ci := 5) (k := 1) hK rfl rfl i_5 (by decide +kernel) dX6_count_108 (by decide) (by decide) (by decide) rfl rfl (rf_5_1 rfl) ?_
  refine s_iload1 hK dX6_count_111 ?_
  refine s_iconst (v := 1) hK dX6_count_112 (by decide) ?_
  refine s_isub hK dX6_count_113 ?_
  refine s_ialdv (v := σ 1 2) (rfl) hK rfl (by show vp_in _ 5; unfold vp_in; decide) dX6_count_114 ?_
  exact s_iret hK hE dX6_count_115 rfl (rfl) (rfl)
set_option maxHeartbeats 4000000 in
set_option maxRecDepth 100000 in
theorem zX6_count_4 {g : aG} {l : Launch} {σ : aS}  : CN g l yX6_count wsX6_count 4 87 [.ref 600, .int 4] σ (some (.int (σ 1 3))) σ := by
  refine cn_of (cc := cX6_count) (nL := 2) (ret := (some .int)) (own := RX6) (by decide +kernel) rfl rfl (Nat.le_of_ble_eq_true rfl) (fun K hg hl hK hE => ?_)
  subst hg; subst hl
  have i_0 : ∀ w ∈ u_ws RX0 TX0 5, w ∈ wsX6_count := by decide +kernel
  have i_5 : ∀ w ∈ u_ws RX5 TX5 10, w ∈ wsX6_count := by decide +kernel
  have i_6 : ∀ w ∈ u_ws RX6 TX6 5, w ∈ wsX6_count := by decide +kernel
  show AW K 0 [some (.ref 600), some (.int 4)] [] σ
  refine s_iload1 hK dX6_count_0 ?_
  refine s_tableIn (tgt := 104) hK dX6_count_1 (by decide) (by decide) (off := 103) (by decide) (by decide) ?_
  refine s_aload0 hK dX6_count_104 ?_
  refine s_getr (ci := 6) (k := 0) hK rfl rfl i_6 (by decide +kernel) dX6_count_105 (by decide) (by decide) (by decide) rfl rfl (rf_6_0 rfl) ?_
  refine s_getr (ci := 5) (k := 1) hK rfl rfl i_5 (by decide +kernel) dX6_count_108 (by decide) (by decide) (by decide) rfl rfl (rf_5_1 rfl) ?_
  refine s_iload1 hK dX6_count_111 ?_
  refine s_iconst (v := 1) hK dX6_count_112 (by decide) ?_
  refine s_isub hK dX6_count_113 ?_
  refine s_ialdv (v := σ 1 3) (rfl) hK rfl (by show vp_in _ 5; unfold vp_in; decide) dX6_count_114 ?_
  exact s_iret hK hE dX6_count_115 rfl (rfl) (rfl)
set_option maxHeartbeats 4000000 in
set_option maxRecDepth 100000 in
theorem zX6_count_5 {g : aG} {l : Launch} {σ : aS}  : CN g l yX6_count wsX6_count 4 87 [.ref 600, .int 5] σ (some (.int (σ 1 4))) σ := by
  refine cn_of (cc := cX6_count) (nL := 2) (ret := (some .int)) (own := RX6) (by decide +kernel) rfl rfl (Nat.le_of_ble_eq_true rfl) (fun K hg hl hK hE => ?_)
  subst hg; subst hl
  have i_0 : ∀ w ∈ u_ws RX0 TX0 5, w ∈ wsX6_count := by decide +kernel
  have i_5 : ∀ w ∈ u_ws RX5 TX5 10, w ∈ wsX6_count := by decide +kernel
  have i_6 : ∀ w ∈ u_ws RX6 TX6 5, w ∈ wsX6_count := by decide +kernel
  show AW K 0 [some (.ref 600), some (.int 5)] [] σ
  refine s_iload1 hK dX6_count_0 ?_
  refine s_tableIn (tgt := 104) hK dX6_count_1 (by decide) (by decide) (off := 103) (by decide) (by decide) ?_
  refine s_aload0 hK dX6_count_104 ?_
  refine s_getr (ci := 6) (k := 0) hK rfl rfl i_6 (by decide +kernel) dX6_count_105 (by decide) (by decide) (by decide) rfl rfl (rf_6_0 rfl) ?_
  refine s_getr (ci := 5) (k := 1) hK rfl rfl i_5 (by decide +kernel) dX6_count_108 (by decide) (by decide) (by decide) rfl rfl (rf_5_1 rfl) ?_
  refine s_iload1 hK dX6_count_111 ?_
  refine s_iconst (v := 1) hK dX6_count_112 (by decide) ?_
  refine s_isub hK dX6_count_113 ?_
  refine s_ialdv (v := σ 1 4) (rfl) hK rfl (by show vp_in _ 5; unfold vp_in; decide) dX6_count_114 ?_
  exact s_iret hK hE dX6_count_115 rfl (rfl) (rfl)
set_option maxHeartbeats 4000000 in
set_option maxRecDepth 100000 in
theorem zX6_count_6 {g : aG} {l : Launch} {σ : aS}  : CN g l yX6_count wsX6_count 4 87 [.ref 600, .int 6] σ (some (.int (σ 0 3))) σ := by
  refine cn_of (cc := cX6_count) (nL := 2) (ret := (some .int)) (own := RX6) (by decide +kernel) rfl rfl (Nat.le_of_ble_eq_true rfl) (fun K hg hl hK hE => ?_)
  subst hg; subst hl
  have i_0 : ∀ w ∈ u_ws RX0 TX0 5, w ∈ wsX6_count := by decide +kernel
  have i_5 : ∀ w ∈ u_ws RX5 TX5 10, w ∈ wsX6_count := by decide +kernel
  have i_6 : ∀ w ∈ u_ws RX6 TX6 5, w ∈ wsX6_count := by decide +kernel
  show AW K 0 [some (.ref 600), some (.int 6)] [] σ
  refine s_iload1 hK dX6_count_0 ?_
  refine s_tableIn (tgt := 116) hK dX6_count_1 (by decide) (by decide) (off := 115) (by decide) (by decide) ?_
  refine s_aload0 hK dX6_count_116 ?_
  refine s_getr (ci := 6) (k := 0) hK rfl rfl i_6 (by decide +kernel) dX6_count_117 (by decide) (by decide) (by decide) rfl rfl (rf_6_0 rfl) ?_
  refine s_geti (ci := 5) (k := 3) hK rfl rfl i_5 (by decide +kernel) dX6_count_120 (by decide) (by decide) (by decide) rfl rfl ?_
  exact s_iret hK hE dX6_count_123 rfl (rfl) (rfl)
set_option maxHeartbeats 4000000 in
set_option maxRecDepth 100000 in
theorem zX6_count_7 {g : aG} {l : Launch} {σ : aS}  : CN g l yX6_count wsX6_count 4 87 [.ref 600, .int 7] σ (some (.int (σ 0 4))) σ := by
  refine cn_of (cc := cX6_count) (nL := 2) (ret := (some .int)) (own := RX6) (by decide +kernel) rfl rfl (Nat.le_of_ble_eq_true rfl) (fun K hg hl hK hE => ?_)
  subst hg; subst hl
  have i_0 : ∀ w ∈ u_ws RX0 TX0 5, w ∈ wsX6_count := by decide +kernel
  have i_5 : ∀ w ∈ u_ws RX5 TX5 10, w ∈ wsX6_count := by decide +kernel
  have i_6 : ∀ w ∈ u_ws RX6 TX6 5, w ∈ wsX6_count := by decide +kernel
  show AW K 0 [some (.ref 600), some (.int 7)] [] σ
  refine s_iload1 hK dX6_count_0 ?_
  refine s_tableIn (tgt := 124) hK dX6_count_1 (by decide) (by decide) (off := 123) (by decide) (by decide) ?_
  refine s_aload0 hK dX6_count_124 ?_
  refine s_getr (ci := 6) (k := 0) hK rfl rfl i_6 (by decide +kernel) dX6_count_125 (by decide) (by decide) (by decide) rfl rfl (rf_6_0 rfl) ?_
  refine s_geti (ci := 5) (k := 4) hK rfl rfl i_5 (by decide +kernel) dX6_count_128 (by decide) (by decide) (by decide) rfl rfl ?_
  exact s_iret hK hE dX6_count_131 rfl (rfl) (rfl)
set_option maxHeartbeats 4000000 in
set_option maxRecDepth 100000 in
theorem zX6_count_8 {g : aG} {l : Launch} {σ : aS}  : CN g l yX6_count wsX6_count 4 87 [.ref 600, .int 8] σ (some (.int (σ 0 3 + dX σ 0))) σ := by
  refine cn_of (cc := cX6_count) (nL := 2) (ret := (some .int)) (own := RX6) (by decide +kernel) rfl rfl (Nat.le_of_ble_eq_true rfl) (fun K hg hl hK hE => ?_)
  subst hg; subst hl
  have i_0 : ∀ w ∈ u_ws RX0 TX0 5, w ∈ wsX6_count := by decide +kernel
  have i_5 : ∀ w ∈ u_ws RX5 TX5 10, w ∈ wsX6_count := by decide +kernel
  have i_6 : ∀ w ∈ u_ws RX6 TX6 5, w ∈ wsX6_count := by decide +kernel
  show AW K 0 [some (.ref 600), some (.int 8)] [] σ
  refine s_iload1 hK dX6_count_0 ?_
  refine s_tableIn (tgt := 132) hK dX6_count_1 (by decide) (by decide) (off := 131) (by decide) (by decide) ?_
  refine s_aload0 hK dX6_count_132 ?_
  refine s_getr (ci := 6) (k := 0) hK rfl rfl i_6 (by decide +kernel) dX6_count_133 (by decide) (by decide) (by decide) rfl rfl (rf_6_0 rfl) ?_
  refine s_callV (ci := 5) hK mdX5_shiftX (zX5_shiftX 0 rfl) gX6_count_X5_shiftX rfl rfl rfl (by decide) rfl ⟨Nat.le_of_ble_eq_true rfl, Nat.le_of_ble_eq_true rfl⟩ rfl (Nat.le_of_ble_eq_true rfl) dX6_count_136 ?_
  try dsimp only [Option.toList, List.cons_append, List.nil_append]
  exact s_iret hK hE dX6_count_139 rfl (rfl) (rfl)
set_option maxHeartbeats 4000000 in
set_option maxRecDepth 100000 in
theorem zX6_count_9 {g : aG} {l : Launch} {σ : aS}  : CN g l yX6_count wsX6_count 4 87 [.ref 600, .int 9] σ (some (.int (σ 0 4 + dY σ 0))) σ := by
  refine cn_of (cc := cX6_count) (nL := 2) (ret := (some .int)) (own := RX6) (by decide +kernel) rfl rfl (Nat.le_of_ble_eq_true rfl) (fun K hg hl hK hE => ?_)
  subst hg; subst hl
  have i_0 : ∀ w ∈ u_ws RX0 TX0 5, w ∈ wsX6_count := by decide +kernel
  have i_5 : ∀ w ∈ u_ws RX5 TX5 10, w ∈ wsX6_count := by decide +kernel
  have i_6 : ∀ w ∈ u_ws RX6 TX6 5, w ∈ wsX6_count := by decide +kernel
  show AW K 0 [some (.ref 600), some (.int 9)] [] σ
  refine s_iload1 hK dX6_count_0 ?_
  refine s_tableIn (tgt := 140) hK dX6_count_1 (by decide) (by decide) (off := 139) (by decide) (by decide) ?_
  refine s_aload0 hK dX6_count_140 ?_
  refine s_getr (ci := 6) (k := 0) hK rfl rfl i_6 (by decide +kernel) dX6_count_141 (by decide) (by decide) (by decide) rfl rfl (rf_6_0 rfl) ?_
  refine s_callV (ci := 5) hK mdX5_shiftY (zX5_shiftY 0 rfl) gX6_count_X5_shiftY rfl rfl rfl (by decide) rfl ⟨Nat.le_of_ble_eq_true rfl, Nat.le_of_ble_eq_true rfl⟩ rfl (Nat.le_of_ble_eq_true rfl) dX6_count_144 ?_
  try dsimp only [Option.toList, List.cons_append, List.nil_append]
  exact s_iret hK hE dX6_count_147 rfl (rfl) (rfl)
set_option maxHeartbeats 4000000 in
set_option maxRecDepth 100000 in
theorem zX6_count_10 {g : aG} {l : Launch} {σ : aS} (h : WB σ) : CN g l yX6_count wsX6_count 4 87 [.ref 600, .int 10] σ (some (.int (192 - (nI (ct (px σ 15)) + nI (ct (px σ 16)))))) σ := by
  refine cn_of (cc := cX6_count) (nL := 2) (ret := (some .int)) (own := RX6) (by decide +kernel) rfl rfl (Nat.le_of_ble_eq_true rfl) (fun K hg hl hK hE => ?_)
  subst hg; subst hl
  have i_0 : ∀ w ∈ u_ws RX0 TX0 5, w ∈ wsX6_count := by decide +kernel
  have i_5 : ∀ w ∈ u_ws RX5 TX5 10, w ∈ wsX6_count := by decide +kernel
  have i_6 : ∀ w ∈ u_ws RX6 TX6 5, w ∈ wsX6_count := by decide +kernel
  show AW K 0 [some (.ref 600), some (.int 10)] [] σ
  refine s_iload1 hK dX6_count_0 ?_
  refine s_tableIn (tgt := 148) hK dX6_count_1 (by decide) (by decide) (off := 147) (by decide) (by decide) ?_
  refine s_sipush (v := 192) hK dX6_count_148 (by decide) ?_
  refine s_aload0 hK dX6_count_151 ?_
  refine s_getr (ci := 6) (k := 0) hK rfl rfl i_6 (by decide +kernel) dX6_count_152 (by decide) (by decide) (by decide) rfl rfl (rf_6_0 rfl) ?_
  refine s_getr (ci := 5) (k := 0) hK rfl rfl i_5 (by decide +kernel) dX6_count_155 (by decide) (by decide) (by decide) rfl rfl (rf_5_0 rfl) ?_
  refine s_callV (ci := 0) hK mdX0_paintedCells (zX0_paintedCells 10 rfl h.1 h.2.1) gX6_count_X0_paintedCells rfl rfl rfl (by decide) rfl ⟨Nat.le_of_ble_eq_true rfl, Nat.le_of_ble_eq_true rfl⟩ rfl (Nat.le_of_ble_eq_true rfl) dX6_count_158 ?_
  try dsimp only [Option.toList, List.cons_append, List.nil_append]
  refine s_isub hK dX6_count_161 ?_
  exact s_iret hK hE dX6_count_162 rfl (rfl) (rfl)
set_option maxHeartbeats 4000000 in
set_option maxRecDepth 100000 in
theorem zX6_count_11 {g : aG} {l : Launch} {σ : aS} (h : WB σ) : CN g l yX6_count wsX6_count 4 87 [.ref 600, .int 11] σ (some (.int (nI (ct (px σ 15))))) σ := by
  refine cn_of (cc := cX6_count) (nL := 2) (ret := (some .int)) (own := RX6) (by decide +kernel) rfl rfl (Nat.le_of_ble_eq_true rfl) (fun K hg hl hK hE => ?_)
  subst hg; subst hl
  have i_0 : ∀ w ∈ u_ws RX0 TX0 5, w ∈ wsX6_count := by decide +kernel
  have i_5 : ∀ w ∈ u_ws RX5 TX5 10, w ∈ wsX6_count := by decide +kernel
  have i_6 : ∀ w ∈ u_ws RX6 TX6 5, w ∈ wsX6_count := by decide +kernel
  show AW K 0 [some (.ref 600), some (.int 11)] [] σ
  refine s_iload1 hK dX6_count_0 ?_
  refine s_tableIn (tgt := 163) hK dX6_count_1 (by decide) (by decide) (off := 162) (by decide) (by decide) ?_
  refine s_aload0 hK dX6_count_163 ?_
  refine s_getr (ci := 6) (k := 0) hK rfl rfl i_6 (by decide +kernel) dX6_count_164 (by decide) (by decide) (by decide) rfl rfl (rf_6_0 rfl) ?_
  refine s_getr (ci := 5) (k := 0) hK rfl rfl i_5 (by decide +kernel) dX6_count_167 (by decide) (by decide) (by decide) rfl rfl (rf_5_0 rfl) ?_
  refine s_getr (ci := 0) (k := 0) hK rfl rfl i_0 (by decide +kernel) dX6_count_170 (by decide) (by decide) (by decide) rfl rfl (rf_0_0 rfl) ?_
  refine s_callV (ci := 1) hK mdX1_size (zX1_size 11 rfl h.1) gX6_count_X1_size rfl rfl rfl (by decide) rfl ⟨Nat.le_of_ble_eq_true rfl, Nat.le_of_ble_eq_true rfl⟩ rfl (Nat.le_of_ble_eq_true rfl) dX6_count_173 ?_
  try dsimp only [Option.toList, List.cons_append, List.nil_append]
  exact s_iret hK hE dX6_count_176 rfl (rfl) (rfl)
set_option maxHeartbeats 4000000 in
set_option maxRecDepth 100000 in
theorem zX6_count_12 {g : aG} {l : Launch} {σ : aS} (h : WB σ) : CN g l yX6_count wsX6_count 4 87 [.ref 600, .int 12] σ (some (.int (nI (ct (px σ 16))))) σ := by
  refine cn_of (cc := cX6_count) (nL := 2) (ret := (some .int)) (own := RX6) (by decide +kernel) rfl rfl (Nat.le_of_ble_eq_true rfl) (fun K hg hl hK hE => ?_)
  subst hg; subst hl
  have i_0 : ∀ w ∈ u_ws RX0 TX0 5, w ∈ wsX6_count := by decide +kernel
  have i_5 : ∀ w ∈ u_ws RX5 TX5 10, w ∈ wsX6_count := by decide +kernel
  have i_6 : ∀ w ∈ u_ws RX6 TX6 5, w ∈ wsX6_count := by decide +kernel
  show AW K 0 [some (.ref 600), some (.int 12)] [] σ
  refine s_iload1 hK dX6_count_0 ?_
  refine s_tableIn (tgt := 177) hK dX6_count_1 (by decide) (by decide) (off := 176) (by decide) (by decide) ?_
  refine s_aload0 hK dX6_count_177 ?_
  refine s_getr (ci := 6) (k := 0) hK rfl rfl i_6 (by decide +kernel) dX6_count_178 (by decide) (by decide) (by decide) rfl rfl (rf_6_0 rfl) ?_
  refine s_getr (ci := 5) (k := 0) hK rfl rfl i_5 (by decide +kernel) dX6_count_181 (by decide) (by decide) (by decide) rfl rfl (rf_5_0 rfl) ?_
  refine s_getr (ci := 0) (k := 1) hK rfl rfl i_0 (by decide +kernel) dX6_count_184 (by decide) (by decide) (by decide) rfl rfl (rf_0_1 rfl) ?_
  refine s_callV (ci := 1) hK mdX1_size (zX1_size 12 rfl h.2.1) gX6_count_X1_size rfl rfl rfl (by decide) rfl ⟨Nat.le_of_ble_eq_true rfl, Nat.le_of_ble_eq_true rfl⟩ rfl (Nat.le_of_ble_eq_true rfl) dX6_count_187 ?_
  try dsimp only [Option.toList, List.cons_append, List.nil_append]
  exact s_iret hK hE dX6_count_190 rfl (rfl) (rfl)
set_option maxHeartbeats 4000000 in
set_option maxRecDepth 100000 in
theorem zX6_count_13 {g : aG} {l : Launch} {σ : aS} (h : WB σ) : CN g l yX6_count wsX6_count 4 87 [.ref 600, .int 13] σ (some (.int (nI (ct (px σ 17))))) σ := by
  refine cn_of (cc := cX6_count) (nL := 2) (ret := (some .int)) (own := RX6) (by decide +kernel) rfl rfl (Nat.le_of_ble_eq_true rfl) (fun K hg hl hK hE => ?_)
  subst hg; subst hl
  have i_0 : ∀ w ∈ u_ws RX0 TX0 5, w ∈ wsX6_count := by decide +kernel
  have i_5 : ∀ w ∈ u_ws RX5 TX5 10, w ∈ wsX6_count := by decide +kernel
  have i_6 : ∀ w ∈ u_ws RX6 TX6 5, w ∈ wsX6_count := by decide +kernel
  show AW K 0 [some (.ref 600), some (.int 13)] [] σ
  refine s_iload1 hK dX6_count_0 ?_
  refine s_tableIn (tgt := 191) hK dX6_count_1 (by decide) (by decide) (off := 190) (by decide) (by decide) ?_
  refine s_aload0 hK dX6_count_191 ?_
  refine s_getr (ci := 6) (k := 0) hK rfl rfl i_6 (by decide +kernel) dX6_count_192 (by decide) (by decide) (by decide) rfl rfl (rf_6_0 rfl) ?_
  refine s_getr (ci := 5) (k := 0) hK rfl rfl i_5 (by decide +kernel) dX6_count_195 (by decide) (by decide) (by decide) rfl rfl (rf_5_0 rfl) ?_
  refine s_getr (ci := 0) (k := 2) hK rfl rfl i_0 (by decide +kernel) dX6_count_198 (by decide) (by decide) (by decide) rfl rfl (rf_0_2 rfl) ?_
  refine s_callV (ci := 1) hK mdX1_size (zX1_size 13 rfl h.2.2.1) gX6_count_X1_size rfl rfl rfl (by decide) rfl ⟨Nat.le_of_ble_eq_true rfl, Nat.le_of_ble_eq_true rfl⟩ rfl (Nat.le_of_ble_eq_true rfl) dX6_count_201 ?_
  try dsimp only [Option.toList, List.cons_append, List.nil_append]
  exact s_iret hK hE dX6_count_204 rfl (rfl) (rfl)
set_option maxHeartbeats 4000000 in
set_option maxRecDepth 100000 in
theorem zX6_count_14 {g : aG} {l : Launch} {σ : aS} (h : WB σ) : CN g l yX6_count wsX6_count 4 87 [.ref 600, .int 14] σ (some (.int (nI (ct (px σ 18))))) σ := by
  refine cn_of (cc := cX6_count) (nL := 2) (ret := (some .int)) (own := RX6) (by decide +kernel) rfl rfl (Nat.le_of_ble_eq_true rfl) (fun K hg hl hK hE => ?_)
  subst hg; subst hl
  have i_0 : ∀ w ∈ u_ws RX0 TX0 5, w ∈ wsX6_count := by decide +kernel
  have i_5 : ∀ w ∈ u_ws RX5 TX5 10, w ∈ wsX6_count := by decide +kernel
  have i_6 : ∀ w ∈ u_ws RX6 TX6 5, w ∈ wsX6_count := by decide +kernel
  show AW K 0 [some (.ref 600), some (.int 14)] [] σ
  refine s_iload1 hK dX6_count_0 ?_
  refine s_tableIn (tgt := 205) hK dX6_count_1 (by decide) (by decide) (off := 204) (by decide) (by decide) ?_
  refine s_aload0 hK dX6_count_205 ?_
  refine s_getr (ci := 6) (k := 0) hK rfl rfl i_6 (by decide +kernel) dX6_count_206 (by decide) (by decide) (by decide) rfl rfl (rf_6_0 rfl) ?_
  refine s_getr (ci := 5) (k := 0) hK rfl rfl i_5 (by decide +kernel) dX6_count_209 (by decide) (by decide) (by decide) rfl rfl (rf_5_0 rfl) ?_
  refine s_getr (ci := 0) (k := 3) hK rfl rfl i_0 (by decide +kernel) dX6_count_212 (by decide) (by decide) (by decide) rfl rfl (rf_0_3 rfl) ?_
  refine s_callV (ci := 1) hK mdX1_size (zX1_size 14 rfl h.2.2.2) gX6_count_X1_size rfl rfl rfl (by decide) rfl ⟨Nat.le_of_ble_eq_true rfl, Nat.le_of_ble_eq_true rfl⟩ rfl (Nat.le_of_ble_eq_true rfl) dX6_count_215 ?_
  try dsimp only [Option.toList, List.cons_append, List.nil_append]
  exact s_iret hK hE dX6_count_218 rfl (rfl) (rfl)
set_option maxHeartbeats 4000000 in
set_option maxRecDepth 100000 in
theorem zX6_count_15 {g : aG} {l : Launch} {σ : aS} (h : WB σ) : CN g l yX6_count wsX6_count 4 87 [.ref 600, .int 15] σ (some (.int (wC σ))) (iK σ) := by
  refine cn_of (cc := cX6_count) (nL := 2) (ret := (some .int)) (own := RX6) (by decide +kernel) rfl rfl (Nat.le_of_ble_eq_true rfl) (fun K hg hl hK hE => ?_)
  subst hg; subst hl
  have i_0 : ∀ w ∈ u_ws RX0 TX0 5, w ∈ wsX6_count := by decide +kernel
  have i_5 : ∀ w ∈ u_ws RX5 TX5 10, w ∈ wsX6_count := by decide +kernel
  have i_6 : ∀ w ∈ u_ws RX6 TX6 5, w ∈ wsX6_count := by decide +kernel
  show AW K 0 [some (.ref 600), some (.int 15)] [] σ
  refine s_iload1 hK dX6_count_0 ?_
  refine s_tableIn (tgt := 219) hK dX6_count_1 (by decide) (by decide) (off := 218) (by decide) (by decide) ?_
  refine s_aload0 hK dX6_count_219 ?_
  refine s_callV (ci := 6) hK mdX6_wornCells (zX6_wornCells h) gX6_count_X6_wornCells rfl rfl rfl (by decide) rfl ⟨Nat.le_of_ble_eq_true rfl, Nat.le_of_ble_eq_true rfl⟩ rfl (Nat.le_of_ble_eq_true rfl) dX6_count_220 ?_
  try dsimp only [Option.toList, List.cons_append, List.nil_append]
  exact s_iret hK hE dX6_count_223 rfl (rfl) (rfl)
set_option maxHeartbeats 4000000 in
set_option maxRecDepth 100000 in
theorem zX6_count_16 {g : aG} {l : Launch} {σ : aS}  : CN g l yX6_count wsX6_count 4 87 [.ref 600, .int 16] σ (some (.int (σ 2 1))) σ := by
  refine cn_of (cc := cX6_count) (nL := 2) (ret := (some .int)) (own := RX6) (by decide +kernel) rfl rfl (Nat.le_of_ble_eq_true rfl) (fun K hg hl hK hE => ?_)
  subst hg; subst hl
  have i_0 : ∀ w ∈ u_ws RX0 TX0 5, w ∈ wsX6_count := by decide +kernel
  have i_5 : ∀ w ∈ u_ws RX5 TX5 10, w ∈ wsX6_count := by decide +kernel
  have i_6 : ∀ w ∈ u_ws RX6 TX6 5, w ∈ wsX6_count := by decide +kernel
  show AW K 0 [some (.ref 600), some (.int 16)] [] σ
  refine s_iload1 hK dX6_count_0 ?_
  refine s_tableIn (tgt := 224) hK dX6_count_1 (by decide) (by decide) (off := 223) (by decide) (by decide) ?_
  refine s_aload0 hK dX6_count_224 ?_
  refine s_getr (ci := 6) (k := 0) hK rfl rfl i_6 (by decide +kernel) dX6_count_225 (by decide) (by decide) (by decide) rfl rfl (rf_6_0 rfl) ?_
  refine s_getr (ci := 5) (k := 2) hK rfl rfl i_5 (by decide +kernel) dX6_count_228 (by decide) (by decide) (by decide) rfl rfl (rf_5_2 rfl) ?_
  refine s_callV (ci := 3) hK mdX3_size (zX3_size 2 rfl) gX6_count_X3_size rfl rfl rfl (by decide) rfl ⟨Nat.le_of_ble_eq_true rfl, Nat.le_of_ble_eq_true rfl⟩ rfl (Nat.le_of_ble_eq_true rfl) dX6_count_231 ?_
  try dsimp only [Option.toList, List.cons_append, List.nil_append]
  exact s_iret hK hE dX6_count_234 rfl (rfl) (rfl)
set_option maxHeartbeats 4000000 in
set_option maxRecDepth 100000 in
theorem zX6_count_17 {g : aG} {l : Launch} {σ : aS}  : CN g l yX6_count wsX6_count 4 87 [.ref 600, .int 17] σ (some (.int (on (σ 0 8) + on (σ 0 9)))) σ := by
  refine cn_of (cc := cX6_count) (nL := 2) (ret := (some .int)) (own := RX6) (by decide +kernel) rfl rfl (Nat.le_of_ble_eq_true rfl) (fun K hg hl hK hE => ?_)
  subst hg; subst hl
  have i_0 : ∀ w ∈ u_ws RX0 TX0 5, w ∈ wsX6_count := by decide +kernel
  have i_5 : ∀ w ∈ u_ws RX5 TX5 10, w ∈ wsX6_count := by decide +kernel
  have i_6 : ∀ w ∈ u_ws RX6 TX6 5, w ∈ wsX6_count := by decide +kernel
  show AW K 0 [some (.ref 600), some (.int 17)] [] σ
  refine s_iload1 hK dX6_count_0 ?_
  refine s_tableIn (tgt := 235) hK dX6_count_1 (by decide) (by decide) (off := 234) (by decide) (by decide) ?_
  refine s_aload0 hK dX6_count_235 ?_
  refine s_getr (ci := 6) (k := 0) hK rfl rfl i_6 (by decide +kernel) dX6_count_236 (by decide) (by decide) (by decide) rfl rfl (rf_6_0 rfl) ?_
  refine s_callV (ci := 5) hK mdX5_snapshots (zX5_snapshots 0 rfl) gX6_count_X5_snapshots rfl rfl rfl (by decide) rfl ⟨Nat.le_of_ble_eq_true rfl, Nat.le_of_ble_eq_true rfl⟩ rfl (Nat.le_of_ble_eq_true rfl) dX6_count_239 ?_
  try dsimp only [Option.toList, List.cons_append, List.nil_append]
  exact s_iret hK hE dX6_count_242 rfl (rfl) (rfl)
set_option maxHeartbeats 4000000 in
set_option maxRecDepth 100000 in
theorem zX6_count_18 {g : aG} {l : Launch} {σ : aS}  : CN g l yX6_count wsX6_count 4 87 [.ref 600, .int 18] σ (some (.int (σ 601 1))) σ := by
  refine cn_of (cc := cX6_count) (nL := 2) (ret := (some .int)) (own := RX6) (by decide +kernel) rfl rfl (Nat.le_of_ble_eq_true rfl) (fun K hg hl hK hE => ?_)
  subst hg; subst hl
  have i_0 : ∀ w ∈ u_ws RX0 TX0 5, w ∈ wsX6_count := by decide +kernel
  have i_5 : ∀ w ∈ u_ws RX5 TX5 10, w ∈ wsX6_count := by decide +kernel
  have i_6 : ∀ w ∈ u_ws RX6 TX6 5, w ∈ wsX6_count := by decide +kernel
  show AW K 0 [some (.ref 600), some (.int 18)] [] σ
  refine s_iload1 hK dX6_count_0 ?_
  refine s_tableIn (tgt := 243) hK dX6_count_1 (by decide) (by decide) (off := 242) (by decide) (by decide) ?_
  refine s_aload0 hK dX6_count_243 ?_
  refine s_getr (ci := 6) (k := 1) hK rfl rfl i_6 (by decide +kernel) dX6_count_244 (by decide) (by decide) (by decide) rfl rfl (rf_6_1 rfl) ?_
  refine s_callV (ci := 2) hK mdX2_size (zX2_size 601 rfl) gX6_count_X2_size rfl rfl rfl (by decide) rfl ⟨Nat.le_of_ble_eq_true rfl, Nat.le_of_ble_eq_true rfl⟩ rfl (Nat.le_of_ble_eq_true rfl) dX6_count_247 ?_
  try dsimp only [Option.toList, List.cons_append, List.nil_append]
  exact s_iret hK hE dX6_count_250 rfl (rfl) (rfl)
set_option maxHeartbeats 4000000 in
set_option maxRecDepth 100000 in
theorem zX6_count_19 {g : aG} {l : Launch} {σ : aS}  : CN g l yX6_count wsX6_count 4 87 [.ref 600, .int 19] σ (some (.int (σ 603 1))) σ := by
  refine cn_of (cc := cX6_count) (nL := 2) (ret := (some .int)) (own := RX6) (by decide +kernel) rfl rfl (Nat.le_of_ble_eq_true rfl) (fun K hg hl hK hE => ?_)
  subst hg; subst hl
  have i_0 : ∀ w ∈ u_ws RX0 TX0 5, w ∈ wsX6_count := by decide +kernel
  have i_5 : ∀ w ∈ u_ws RX5 TX5 10, w ∈ wsX6_count := by decide +kernel
  have i_6 : ∀ w ∈ u_ws RX6 TX6 5, w ∈ wsX6_count := by decide +kernel
  show AW K 0 [some (.ref 600), some (.int 19)] [] σ
  refine s_iload1 hK dX6_count_0 ?_
  refine s_tableIn (tgt := 251) hK dX6_count_1 (by decide) (by decide) (off := 250) (by decide) (by decide) ?_
  refine s_aload0 hK dX6_count_251 ?_
  refine s_getr (ci := 6) (k := 2) hK rfl rfl i_6 (by decide +kernel) dX6_count_252 (by decide) (by decide) (by decide) rfl rfl (rf_6_2 rfl) ?_
  refine s_callV (ci := 4) hK mdX4_length (zX4_length 603 rfl) gX6_count_X4_length rfl rfl rfl (by decide) rfl ⟨Nat.le_of_ble_eq_true rfl, Nat.le_of_ble_eq_true rfl⟩ rfl (Nat.le_of_ble_eq_true rfl) dX6_count_255 ?_
  try dsimp only [Option.toList, List.cons_append, List.nil_append]
  exact s_iret hK hE dX6_count_258 rfl (rfl) (rfl)
set_option maxHeartbeats 4000000 in
set_option maxRecDepth 100000 in
theorem zX6_count_out {g : aG} {l : Launch} {σ : aS} (a : Int32) (h : a.toInt < 0 ∨ 19 < a.toInt) : CN g l yX6_count wsX6_count 4 87 [.ref 600, .int a] σ (some (.int (-1001))) σ := by
  refine cn_of (cc := cX6_count) (nL := 2) (ret := (some .int)) (own := RX6) (by decide +kernel) rfl rfl (Nat.le_of_ble_eq_true rfl) (fun K hg hl hK hE => ?_)
  subst hg; subst hl
  have i_0 : ∀ w ∈ u_ws RX0 TX0 5, w ∈ wsX6_count := by decide +kernel
  have i_5 : ∀ w ∈ u_ws RX5 TX5 10, w ∈ wsX6_count := by decide +kernel
  have i_6 : ∀ w ∈ u_ws RX6 TX6 5, w ∈ wsX6_count := by decide +kernel
  show AW K 0 [some (.ref 600), some (.int a)] [] σ
  refine s_iload1 hK dX6_count_0 ?_
  refine s_tableOut (tgt := 259) hK dX6_count_1 h (by decide) ?_
  refine s_sipush (v := -1001) hK dX6_count_259 (by decide) ?_
  exact s_iret hK hE dX6_count_262 rfl (rfl) (rfl)
set_option maxHeartbeats 4000000 in
set_option maxRecDepth 100000 in
theorem zX6_cell_bad {g : aG} {l : Launch} {σ : aS} (x y a : Int32) (hbad : pl x y = false) : CN g l yX6_cell wsX6_cell 3 66 [.ref 600, .int x, .int y, .int a] σ (some (.int (-1001))) σ := by
  refine cn_of (cc := cX6_cell) (nL := 4) (ret := (some .int)) (own := RX6) (by decide +kernel) rfl rfl (Nat.le_of_ble_eq_true rfl) (fun K hg hl hK hE => ?_)
  subst hg; subst hl
  have i_0 : ∀ w ∈ u_ws RX0 TX0 5, w ∈ wsX6_cell := by decide +kernel
  have i_5 : ∀ w ∈ u_ws RX5 TX5 10, w ∈ wsX6_cell := by decide +kernel
  have i_6 : ∀ w ∈ u_ws RX6 TX6 5, w ∈ wsX6_cell := by decide +kernel
  show AW K 0 [some (.ref 600), some (.int x), some (.int y), some (.int a)] [] σ
  refine s_iload1 hK dX6_cell_0 ?_
  refine s_iload2 hK dX6_cell_1 ?_
  refine s_callS hK mdX6_isPlace (zX6_isPlace _ _) gX6_cell_X6_isPlace rfl ⟨Nat.le_of_ble_eq_true rfl, Nat.le_of_ble_eq_true rfl⟩ rfl (Nat.le_of_ble_eq_true rfl) dX6_cell_2 ?_
  try dsimp only [Option.toList, List.cons_append, List.nil_append]
  refine s_if_ne (tgt := 12) hK dX6_cell_5 (by decide) (fun c_5 => absurd c_5 (fun q => q (b2f hbad))) (fun c_5 => ?_)
  refine s_sipush (v := -1001) hK dX6_cell_8 (by decide) ?_
  exact s_iret hK hE dX6_cell_11 rfl (rfl) (rfl)
set_option maxHeartbeats 4000000 in
set_option maxRecDepth 100000 in
theorem zX6_cell_0 {g : aG} {l : Launch} {σ : aS} (x y : Int32) (hp : pl x y = true) : CN g l yX6_cell wsX6_cell 3 66 [.ref 600, .int x, .int y, .int 0] σ (some (.int (kA σ 10 x y))) σ := by
  refine cn_of (cc := cX6_cell) (nL := 4) (ret := (some .int)) (own := RX6) (by decide +kernel) rfl rfl (Nat.le_of_ble_eq_true rfl) (fun K hg hl hK hE => ?_)
  subst hg; subst hl
  have i_0 : ∀ w ∈ u_ws RX0 TX0 5, w ∈ wsX6_cell := by decide +kernel
  have i_5 : ∀ w ∈ u_ws RX5 TX5 10, w ∈ wsX6_cell := by decide +kernel
  have i_6 : ∀ w ∈ u_ws RX6 TX6 5, w ∈ wsX6_cell := by decide +kernel
  show AW K 0 [some (.ref 600), some (.int x), some (.int y), some (.int 0)] [] σ
  refine s_iload1 hK dX6_cell_0 ?_
  refine s_iload2 hK dX6_cell_1 ?_
  refine s_callS hK mdX6_isPlace (zX6_isPlace _ _) gX6_cell_X6_isPlace rfl ⟨Nat.le_of_ble_eq_true rfl, Nat.le_of_ble_eq_true rfl⟩ rfl (Nat.le_of_ble_eq_true rfl) dX6_cell_2 ?_
  try dsimp only [Option.toList, List.cons_append, List.nil_append]
  refine s_if_ne (tgt := 12) hK dX6_cell_5 (by decide) (fun c_5 => ?_) (fun c_5 => absurd c_5 (b2y' hp))
  refine s_iload3 hK dX6_cell_12 ?_
  refine s_tableIn (tgt := 48) hK dX6_cell_13 (by decide) (by decide) (off := 35) (by decide) (by decide) ?_
  refine s_aload0 hK dX6_cell_48 ?_
  refine s_getr (ci := 6) (k := 0) hK rfl rfl i_6 (by decide +kernel) dX6_cell_49 (by decide) (by decide) (by decide) rfl rfl (rf_6_0 rfl) ?_
  refine s_getr (ci := 5) (k := 0) hK rfl rfl i_5 (by decide +kernel) dX6_cell_52 (by decide) (by decide) (by decide) rfl rfl (rf_5_0 rfl) ?_
  refine s_iload1 hK dX6_cell_55 ?_
  refine s_iload2 hK dX6_cell_56 ?_
  refine s_callV (ci := 0) hK mdX0_kindAt (zX0_kindAt 10 x y rfl) gX6_cell_X0_kindAt rfl rfl rfl (by decide) rfl ⟨Nat.le_of_ble_eq_true rfl, Nat.le_of_ble_eq_true rfl⟩ rfl (Nat.le_of_ble_eq_true rfl) dX6_cell_57 ?_
  try dsimp only [Option.toList, List.cons_append, List.nil_append]
  exact s_iret hK hE dX6_cell_60 rfl (rfl) (rfl)
set_option maxHeartbeats 4000000 in
set_option maxRecDepth 100000 in
theorem zX6_cell_1 {g : aG} {l : Launch} {σ : aS} (x y : Int32) (hp : pl x y = true) : CN g l yX6_cell wsX6_cell 3 66 [.ref 600, .int x, .int y, .int 1] σ (some (.int (on (b2 (hs σ 17 x y))))) σ := by
  refine cn_of (cc := cX6_cell) (nL := 4) (ret := (some .int)) (own := RX6) (by decide +kernel) rfl rfl (Nat.le_of_ble_eq_true rfl) (fun K hg hl hK hE => ?_)
  subst hg; subst hl
  have i_0 : ∀ w ∈ u_ws RX0 TX0 5, w ∈ wsX6_cell := by decide +kernel
  have i_5 : ∀ w ∈ u_ws RX5 TX5 10, w ∈ wsX6_cell := by decide +kernel
  have i_6 : ∀ w ∈ u_ws RX6 TX6 5, w ∈ wsX6_cell := by decide +kernel
  show AW K 0 [some (.ref 600), some (.int x), some (.int y), some (.int 1)] [] σ
  refine s_iload1 hK dX6_cell_0 ?_
  refine s_iload2 hK dX6_cell_1 ?_
  refine s_callS hK mdX6_isPlace (zX6_isPlace _ _) gX6_cell_X6_isPlace rfl ⟨Nat.le_of_ble_eq_true rfl, Nat.le_of_ble_eq_true rfl⟩ rfl (Nat.le_of_ble_eq_true rfl) dX6_cell_2 ?_
  try dsimp only [Option.toList, List.cons_append, List.nil_append]
  refine s_if_ne (tgt := 12) hK dX6_cell_5 (by decide) (fun c_5 => ?_) (fun c_5 => absurd c_5 (b2y' hp))
  refine s_iload3 hK dX6_cell_12 ?_
  refine s_tableIn (tgt := 61) hK dX6_cell_13 (by decide) (by decide) (off := 48) (by decide) (by decide) ?_
  refine s_aload0 hK dX6_cell_61 ?_
  refine s_getr (ci := 6) (k := 0) hK rfl rfl i_6 (by decide +kernel) dX6_cell_62 (by decide) (by decide) (by decide) rfl rfl (rf_6_0 rfl) ?_
  refine s_getr (ci := 5) (k := 0) hK rfl rfl i_5 (by decide +kernel) dX6_cell_65 (by decide) (by decide) (by decide) rfl rfl (rf_5_0 rfl) ?_
  refine s_getr (ci := 0) (k := 2) hK rfl rfl i_0 (by decide +kernel) dX6_cell_68 (by decide) (by decide) (by decide) rfl rfl (rf_0_2 rfl) ?_
  refine s_iload1 hK dX6_cell_71 ?_
  refine s_iload2 hK dX6_cell_72 ?_
  refine s_callV (ci := 1) hK mdX1_has (zX1_has 13 x y rfl) gX6_cell_X1_has rfl rfl rfl (by decide) rfl ⟨Nat.le_of_ble_eq_true rfl, Nat.le_of_ble_eq_true rfl⟩ rfl (Nat.le_of_ble_eq_true rfl) dX6_cell_73 ?_
  try dsimp only [Option.toList, List.cons_append, List.nil_append]
  refine s_callS hK mdX6_oneIf (zX6_oneIf _) gX6_cell_X6_oneIf rfl ⟨Nat.le_of_ble_eq_true rfl, Nat.le_of_ble_eq_true rfl⟩ rfl (Nat.le_of_ble_eq_true rfl) dX6_cell_76 ?_
  try dsimp only [Option.toList, List.cons_append, List.nil_append]
  exact s_iret hK hE dX6_cell_79 rfl (rfl) (rfl)
set_option maxHeartbeats 4000000 in
set_option maxRecDepth 100000 in
theorem zX6_cell_2 {g : aG} {l : Launch} {σ : aS} (x y : Int32) (hp : pl x y = true) : CN g l yX6_cell wsX6_cell 3 66 [.ref 600, .int x, .int y, .int 2] σ (some (.int (on (b2 (hs σ 18 x y))))) σ := by
  refine cn_of (cc := cX6_cell) (nL := 4) (ret := (some .int)) (own := RX6) (by decide +kernel) rfl rfl (Nat.le_of_ble_eq_true rfl) (fun K hg hl hK hE => ?_)
  subst hg; subst hl
  have i_0 : ∀ w ∈ u_ws RX0 TX0 5, w ∈ wsX6_cell := by decide +kernel
  have i_5 : ∀ w ∈ u_ws RX5 TX5 10, w ∈ wsX6_cell := by decide +kernel
  have i_6 : ∀ w ∈ u_ws RX6 TX6 5, w ∈ wsX6_cell := by decide +kernel
  show AW K 0 [some (.ref 600), some (.int x), some (.int y), some (.int 2)] [] σ
  refine s_iload1 hK dX6_cell_0 ?_
  refine s_iload2 hK dX6_cell_1 ?_
  refine s_callS hK mdX6_isPlace (zX6_isPlace _ _) gX6_cell_X6_isPlace rfl ⟨Nat.le_of_ble_eq_true rfl, Nat.le_of_ble_eq_true rfl⟩ rfl (Nat.le_of_ble_eq_true rfl) dX6_cell_2 ?_
  try dsimp only [Option.toList, List.cons_append, List.nil_append]
  refine s_if_ne (tgt := 12) hK dX6_cell_5 (by decide) (fun c_5 => ?_) (fun c_5 => absurd c_5 (b2y' hp))
  refine s_iload3 hK dX6_cell_12 ?_
  refine s_tableIn (tgt := 80) hK dX6_cell_13 (by decide) (by decide) (off := 67) (by decide) (by decide) ?_
  refine s_aload0 hK dX6_cell_80 ?_
  refine s_getr (ci := 6) (k := 0) hK rfl rfl i_6 (by decide +kernel) dX6_cell_81 (by decide) (by decide) (by decide) rfl rfl (rf_6_0 rfl) ?_
  refine s_getr (ci := 5) (k := 0) hK rfl rfl i_5 (by decide +kernel) dX6_cell_84 (by decide) (by decide) (by decide) rfl rfl (rf_5_0 rfl) ?_
  refine s_getr (ci := 0) (k := 3) hK rfl rfl i_0 (by decide +kernel) dX6_cell_87 (by decide) (by decide) (by decide) rfl rfl (rf_0_3 rfl) ?_
  refine s_iload1 hK dX6_cell_90 ?_
  refine s_iload2 hK dX6_cell_91 ?_
  refine s_callV (ci := 1) hK mdX1_has (zX1_has 14 x y rfl) gX6_cell_X1_has rfl rfl rfl (by decide) rfl ⟨Nat.le_of_ble_eq_true rfl, Nat.le_of_ble_eq_true rfl⟩ rfl (Nat.le_of_ble_eq_true rfl) dX6_cell_92 ?_
  try dsimp only [Option.toList, List.cons_append, List.nil_append]
  refine s_callS hK mdX6_oneIf (zX6_oneIf _) gX6_cell_X6_oneIf rfl ⟨Nat.le_of_ble_eq_true rfl, Nat.le_of_ble_eq_true rfl⟩ rfl (Nat.le_of_ble_eq_true rfl) dX6_cell_95 ?_
  try dsimp only [Option.toList, List.cons_append, List.nil_append]
  exact s_iret hK hE dX6_cell_98 rfl (rfl) (rfl)
set_option maxHeartbeats 4000000 in
set_option maxRecDepth 100000 in
theorem zX6_cell_3 {g : aG} {l : Launch} {σ : aS} (x y : Int32) (hp : pl x y = true) : CN g l yX6_cell wsX6_cell 3 66 [.ref 600, .int x, .int y, .int 3] σ (some (.int (wA σ 10 x y))) σ := by
  refine cn_of (cc := cX6_cell) (nL := 4) (ret := (some .int)) (own := RX6) (by decide +kernel) rfl rfl (Nat.le_of_ble_eq_true rfl) (fun K hg hl hK hE => ?_)
  subst hg; subst hl
  have i_0 : ∀ w ∈ u_ws RX0 TX0 5, w ∈ wsX6_cell := by decide +kernel
  have i_5 : ∀ w ∈ u_ws RX5 TX5 10, w ∈ wsX6_cell := by decide +kernel
  have i_6 : ∀ w ∈ u_ws RX6 TX6 5, w ∈ wsX6_cell := by decide +kernel
  show AW K 0 [some (.ref 600), some (.int x), some (.int y), some (.int 3)] [] σ
  refine s_iload1 hK dX6_cell_0 ?_
  refine s_iload2 hK dX6_cell_1 ?_
  refine s_callS hK mdX6_isPlace (zX6_isPlace _ _) gX6_cell_X6_isPlace rfl ⟨Nat.le_of_ble_eq_true rfl, Nat.le_of_ble_eq_true rfl⟩ rfl (Nat.le_of_ble_eq_true rfl) dX6_cell_2 ?_
  try dsimp only [Option.toList, List.cons_append, List.nil_append]
  refine s_if_ne (tgt := 12) hK dX6_cell_5 (by decide) (fun c_5 => ?_) (fun c_5 => absurd c_5 (b2y' hp))
  refine s_iload3 hK dX6_cell_12 ?_
  refine s_tableIn (tgt := 99) hK dX6_cell_13 (by decide) (by decide) (off := 86) (by decide) (by decide) ?_
  refine s_aload0 hK dX6_cell_99 ?_
  refine s_getr (ci := 6) (k := 0) hK rfl rfl i_6 (by decide +kernel) dX6_cell_100 (by decide) (by decide) (by decide) rfl rfl (rf_6_0 rfl) ?_
  refine s_getr (ci := 5) (k := 0) hK rfl rfl i_5 (by decide +kernel) dX6_cell_103 (by decide) (by decide) (by decide) rfl rfl (rf_5_0 rfl) ?_
  refine s_iload1 hK dX6_cell_106 ?_
  refine s_iload2 hK dX6_cell_107 ?_
  refine s_callV (ci := 0) hK mdX0_wearAt (zX0_wearAt 10 x y rfl) gX6_cell_X0_wearAt rfl rfl rfl (by decide) rfl ⟨Nat.le_of_ble_eq_true rfl, Nat.le_of_ble_eq_true rfl⟩ rfl (Nat.le_of_ble_eq_true rfl) dX6_cell_108 ?_
  try dsimp only [Option.toList, List.cons_append, List.nil_append]
  exact s_iret hK hE dX6_cell_111 rfl (rfl) (rfl)
set_option maxHeartbeats 4000000 in
set_option maxRecDepth 100000 in
theorem zX6_cell_4 {g : aG} {l : Launch} {σ : aS} (x y : Int32) (hp : pl x y = true) : CN g l yX6_cell wsX6_cell 3 66 [.ref 600, .int x, .int y, .int 4] σ (some (.int (on (b2 (wn σ 10 x y (σ 1 3)))))) σ := by
  refine cn_of (cc := cX6_cell) (nL := 4) (ret := (some .int)) (own := RX6) (by decide +kernel) rfl rfl (Nat.le_of_ble_eq_true rfl) (fun K hg hl hK hE => ?_)
  subst hg; subst hl
  have i_0 : ∀ w ∈ u_ws RX0 TX0 5, w ∈ wsX6_cell := by decide +kernel
  have i_5 : ∀ w ∈ u_ws RX5 TX5 10, w ∈ wsX6_cell := by decide +kernel
  have i_6 : ∀ w ∈ u_ws RX6 TX6 5, w ∈ wsX6_cell := by decide +kernel
  show AW K 0 [some (.ref 600), some (.int x), some (.int y), some (.int 4)] [] σ
  refine s_iload1 hK dX6_cell_0 ?_
  refine s_iload2 hK dX6_cell_1 ?_
  refine s_callS hK mdX6_isPlace (zX6_isPlace _ _) gX6_cell_X6_isPlace rfl ⟨Nat.le_of_ble_eq_true rfl, Nat.le_of_ble_eq_true rfl⟩ rfl (Nat.le_of_ble_eq_true rfl) dX6_cell_2 ?_
  try dsimp only [Option.toList, List.cons_append, List.nil_append]
  refine s_if_ne (tgt := 12) hK dX6_cell_5 (by decide) (fun c_5 => ?_) (fun c_5 => absurd c_5 (b2y' hp))
  refine s_iload3 hK dX6_cell_12 ?_
  refine s_tableIn (tgt := 112) hK dX6_cell_13 (by decide) (by decide) (off := 99) (by decide) (by decide) ?_
  refine s_aload0 hK dX6_cell_112 ?_
  refine s_getr (ci := 6) (k := 0) hK rfl rfl i_6 (by decide +kernel) dX6_cell_113 (by decide) (by decide) (by decide) rfl rfl (rf_6_0 rfl) ?_
  refine s_getr (ci := 5) (k := 0) hK rfl rfl i_5 (by decide +kernel) dX6_cell_116 (by decide) (by decide) (by decide) rfl rfl (rf_5_0 rfl) ?_
  refine s_iload1 hK dX6_cell_119 ?_
  refine s_iload2 hK dX6_cell_120 ?_
  refine s_aload0 hK dX6_cell_121 ?_
  refine s_getr (ci := 6) (k := 0) hK rfl rfl i_6 (by decide +kernel) dX6_cell_122 (by decide) (by decide) (by decide) rfl rfl (rf_6_0 rfl) ?_
  refine s_callV (ci := 5) hK mdX5_hardness (zX5_hardness 0 rfl) gX6_cell_X5_hardness rfl rfl rfl (by decide) rfl ⟨Nat.le_of_ble_eq_true rfl, Nat.le_of_ble_eq_true rfl⟩ rfl (Nat.le_of_ble_eq_true rfl) dX6_cell_125 ?_
  try dsimp only [Option.toList, List.cons_append, List.nil_append]
  refine s_callV (ci := 0) hK mdX0_isWorn (zX0_isWorn 10 x y _ rfl) gX6_cell_X0_isWorn rfl rfl rfl (by decide) rfl ⟨Nat.le_of_ble_eq_true rfl, Nat.le_of_ble_eq_true rfl⟩ rfl (Nat.le_of_ble_eq_true rfl) dX6_cell_128 ?_
  try dsimp only [Option.toList, List.cons_append, List.nil_append]
  refine s_callS hK mdX6_oneIf (zX6_oneIf _) gX6_cell_X6_oneIf rfl ⟨Nat.le_of_ble_eq_true rfl, Nat.le_of_ble_eq_true rfl⟩ rfl (Nat.le_of_ble_eq_true rfl) dX6_cell_131 ?_
  try dsimp only [Option.toList, List.cons_append, List.nil_append]
  exact s_iret hK hE dX6_cell_134 rfl (rfl) (rfl)
set_option maxHeartbeats 4000000 in
set_option maxRecDepth 100000 in
theorem zX6_cell_out {g : aG} {l : Launch} {σ : aS} (x y a : Int32) (hp : pl x y = true) (h : a.toInt < 0 ∨ 4 < a.toInt) : CN g l yX6_cell wsX6_cell 3 66 [.ref 600, .int x, .int y, .int a] σ (some (.int (-1001))) σ := by
  refine cn_of (cc := cX6_cell) (nL := 4) (ret := (some .int)) (own := RX6) (by decide +kernel) rfl rfl (Nat.le_of_ble_eq_true rfl) (fun K hg hl hK hE => ?_)
  subst hg; subst hl
  have i_0 : ∀ w ∈ u_ws RX0 TX0 5, w ∈ wsX6_cell := by decide +kernel
  have i_5 : ∀ w ∈ u_ws RX5 TX5 10, w ∈ wsX6_cell := by decide +kernel
  have i_6 : ∀ w ∈ u_ws RX6 TX6 5, w ∈ wsX6_cell := by decide +kernel
  show AW K 0 [some (.ref 600), some (.int x), some (.int y), some (.int a)] [] σ
  refine s_iload1 hK dX6_cell_0 ?_
  refine s_iload2 hK dX6_cell_1 ?_
  refine s_callS hK mdX6_isPlace (zX6_isPlace _ _) gX6_cell_X6_isPlace rfl ⟨Nat.le_of_ble_eq_true rfl, Nat.le_of_ble_eq_true rfl⟩ rfl (Nat.le_of_ble_eq_true rfl) dX6_cell_2 ?_
  try dsimp only [Option.toList, List.cons_append, List.nil_append]
  refine s_if_ne (tgt := 12) hK dX6_cell_5 (by decide) (fun c_5 => ?_) (fun c_5 => absurd c_5 (b2y' hp))
  refine s_iload3 hK dX6_cell_12 ?_
  refine s_tableOut (tgt := 135) hK dX6_cell_13 h (by decide) ?_
  refine s_sipush (v := -1001) hK dX6_cell_135 (by decide) ?_
  exact s_iret hK hE dX6_cell_138 rfl (rfl) (rfl)
set_option maxHeartbeats 4000000 in
set_option maxRecDepth 100000 in
theorem zX6_printed_bad {g : aG} {l : Launch} {σ : aS} (x y a b : Int32) (hbad : (pl x y && sh a b) = false) : CN g l yX6_printed wsX6_printed 3 67 [.ref 600, .int x, .int y, .int a, .int b] σ (some (.int (-1001))) σ := by
  refine cn_of (cc := cX6_printed) (nL := 5) (ret := (some .int)) (own := RX6) (by decide +kernel) rfl rfl (Nat.le_of_ble_eq_true rfl) (fun K hg hl hK hE => ?_)
  subst hg; subst hl
  have i_6 : ∀ w ∈ u_ws RX6 TX6 5, w ∈ wsX6_printed := by decide +kernel
  show AW K 0 [some (.ref 600), some (.int x), some (.int y), some (.int a), some (.int b)] [] σ
  refine s_iload1 hK dX6_printed_0 ?_
  refine s_iload2 hK dX6_printed_1 ?_
  refine s_callS hK mdX6_isPlace (zX6_isPlace _ _) gX6_printed_X6_isPlace rfl ⟨Nat.le_of_ble_eq_true rfl, Nat.le_of_ble_eq_true rfl⟩ rfl (Nat.le_of_ble_eq_true rfl) dX6_printed_2 ?_
  try dsimp only [Option.toList, List.cons_append, List.nil_append]
  refine s_if_eq (tgt := 17) hK dX6_printed_5 (by decide) (fun c_5 => ?_) (fun c_5 => ?_)
  · refine s_sipush (v := -1001) hK dX6_printed_17 (by decide) ?_
    exact s_iret hK hE dX6_printed_20 rfl (rfl) (rfl)
  · refine s_iload3 hK dX6_printed_8 ?_
    refine s_iload4 hK dX6_printed_9 ?_
    refine s_callS hK mdX6_isShift (zX6_isShift _ _) gX6_printed_X6_isShift rfl ⟨Nat.le_of_ble_eq_true rfl, Nat.le_of_ble_eq_true rfl⟩ rfl (Nat.le_of_ble_eq_true rfl) dX6_printed_11 ?_
    try dsimp only [Option.toList, List.cons_append, List.nil_append]
    refine s_if_ne (tgt := 21) hK dX6_printed_14 (by decide) (fun c_14 => ?_) (fun c_14 => ?_)
    · exact absurd hbad (by simp [b2n c_5, b2n c_14])
    · refine s_sipush (v := -1001) hK dX6_printed_17 (by decide) ?_
      exact s_iret hK hE dX6_printed_20 rfl (rfl) (rfl)
set_option maxHeartbeats 4000000 in
set_option maxRecDepth 100000 in
theorem zX6_printed_ok {g : aG} {l : Launch} {σ : aS} (x y a b : Int32) (hp : pl x y = true) (hs_ : sh a b = true) : CN g l yX6_printed wsX6_printed 3 67 [.ref 600, .int x, .int y, .int a, .int b] σ (some (.int (on (b2 (hs (iK σ) 18 (x - a) (y - b))) + 2 * on (b2 (hs (iK σ) 611 x y))))) (iK σ) := by
  refine cn_of (cc := cX6_printed) (nL := 5) (ret := (some .int)) (own := RX6) (by decide +kernel) rfl rfl (Nat.le_of_ble_eq_true rfl) (fun K hg hl hK hE => ?_)
  subst hg; subst hl
  have i_6 : ∀ w ∈ u_ws RX6 TX6 5, w ∈ wsX6_printed := by decide +kernel
  show AW K 0 [some (.ref 600), some (.int x), some (.int y), some (.int a), some (.int b)] [] σ
  refine s_iload1 hK dX6_printed_0 ?_
  refine s_iload2 hK dX6_printed_1 ?_
  refine s_callS hK mdX6_isPlace (zX6_isPlace _ _) gX6_printed_X6_isPlace rfl ⟨Nat.le_of_ble_eq_true rfl, Nat.le_of_ble_eq_true rfl⟩ rfl (Nat.le_of_ble_eq_true rfl) dX6_printed_2 ?_
  try dsimp only [Option.toList, List.cons_append, List.nil_append]
  refine s_if_eq (tgt := 17) hK dX6_printed_5 (by decide) (fun c_5 => absurd c_5 (b2y' hp)) (fun c_5 => ?_)
  refine s_iload3 hK dX6_printed_8 ?_
  refine s_iload4 hK dX6_printed_9 ?_
  refine s_callS hK mdX6_isShift (zX6_isShift _ _) gX6_printed_X6_isShift rfl ⟨Nat.le_of_ble_eq_true rfl, Nat.le_of_ble_eq_true rfl⟩ rfl (Nat.le_of_ble_eq_true rfl) dX6_printed_11 ?_
  try dsimp only [Option.toList, List.cons_append, List.nil_append]
  refine s_if_ne (tgt := 21) hK dX6_printed_14 (by decide) (fun c_14 => ?_) (fun c_14 => absurd c_14 (b2y' hs_))
  refine s_aload0 hK dX6_printed_21 ?_
  refine s_callV (ci := 6) hK mdX6_findInk (zX6_findInk) gX6_printed_X6_findInk rfl rfl rfl (by decide) rfl ⟨Nat.le_of_ble_eq_true rfl, Nat.le_of_ble_eq_true rfl⟩ rfl (Nat.le_of_ble_eq_true rfl) dX6_printed_22 ?_
  try dsimp only [Option.toList, List.cons_append, List.nil_append]
  refine s_aload0 hK dX6_printed_25 ?_
  refine s_iload1 hK dX6_printed_26 ?_
  refine s_iload2 hK dX6_printed_27 ?_
  refine s_iload3 hK dX6_printed_28 ?_
  refine s_iload4 hK dX6_printed_29 ?_
  refine s_callV (ci := 6) hK mdX6_printsColour (zX6_printsColour x y a b) gX6_printed_X6_printsColour rfl rfl rfl (by decide) rfl ⟨Nat.le_of_ble_eq_true rfl, Nat.le_of_ble_eq_true rfl⟩ rfl (Nat.le_of_ble_eq_true rfl) dX6_printed_31 ?_
  try dsimp only [Option.toList, List.cons_append, List.nil_append]
  refine s_callS hK mdX6_oneIf (zX6_oneIf _) gX6_printed_X6_oneIf rfl ⟨Nat.le_of_ble_eq_true rfl, Nat.le_of_ble_eq_true rfl⟩ rfl (Nat.le_of_ble_eq_true rfl) dX6_printed_34 ?_
  try dsimp only [Option.toList, List.cons_append, List.nil_append]
  refine s_iconst (v := 2) hK dX6_printed_37 (by decide) ?_
  refine s_aload0 hK dX6_printed_38 ?_
  refine s_getr (ci := 6) (k := 3) hK rfl rfl i_6 (by decide +kernel) dX6_printed_39 (by decide) (by decide) (by decide) rfl rfl (rf_6_3 rfl) ?_
  refine s_iload1 hK dX6_printed_42 ?_
  refine s_iload2 hK dX6_printed_43 ?_
  refine s_callV (ci := 1) hK mdX1_has (zX1_has 607 x y rfl) gX6_printed_X1_has rfl rfl rfl (by decide) rfl ⟨Nat.le_of_ble_eq_true rfl, Nat.le_of_ble_eq_true rfl⟩ rfl (Nat.le_of_ble_eq_true rfl) dX6_printed_44 ?_
  try dsimp only [Option.toList, List.cons_append, List.nil_append]
  refine s_callS hK mdX6_oneIf (zX6_oneIf _) gX6_printed_X6_oneIf rfl ⟨Nat.le_of_ble_eq_true rfl, Nat.le_of_ble_eq_true rfl⟩ rfl (Nat.le_of_ble_eq_true rfl) dX6_printed_47 ?_
  try dsimp only [Option.toList, List.cons_append, List.nil_append]
  refine s_imul hK dX6_printed_50 ?_
  refine s_iadd hK dX6_printed_51 ?_
  exact s_iret hK hE dX6_printed_52 rfl (rfl) (rfl)
set_option maxHeartbeats 4000000 in
set_option maxRecDepth 100000 in
theorem zX6_proof_bad {g : aG} {l : Launch} {σ : aS} (b a : Int32) (hbad : ¬ b < 0 → wi a 0 5 = false) : CN g l yX6_proof wsX6_proof 2 45 [.ref 600, .int b, .int a] σ (some (.int (-1001))) σ := by
  refine cn_of (cc := cX6_proof) (nL := 3) (ret := (some .int)) (own := RX6) (by decide +kernel) rfl rfl (Nat.le_of_ble_eq_true rfl) (fun K hg hl hK hE => ?_)
  subst hg; subst hl
  have i_5 : ∀ w ∈ u_ws RX5 TX5 10, w ∈ wsX6_proof := by decide +kernel
  have i_6 : ∀ w ∈ u_ws RX6 TX6 5, w ∈ wsX6_proof := by decide +kernel
  show AW K 0 [some (.ref 600), some (.int b), some (.int a)] [] σ
  refine s_iload1 hK dX6_proof_0 ?_
  refine s_if_lt (tgt := 13) hK dX6_proof_1 (by decide) (fun c_1 => ?_) (fun c_1 => ?_)
  · refine s_sipush (v := -1001) hK dX6_proof_13 (by decide) ?_
    exact s_iret hK hE dX6_proof_16 rfl (rfl) (rfl)
  · refine s_iload2 hK dX6_proof_4 ?_
    refine s_iconst (v := 0) hK dX6_proof_5 (by decide) ?_
    refine s_iconst (v := 5) hK dX6_proof_6 (by decide) ?_
    refine s_callS hK mdX6_isWithin (zX6_isWithin _ _ _) gX6_proof_X6_isWithin rfl ⟨Nat.le_of_ble_eq_true rfl, Nat.le_of_ble_eq_true rfl⟩ rfl (Nat.le_of_ble_eq_true rfl) dX6_proof_7 ?_
    try dsimp only [Option.toList, List.cons_append, List.nil_append]
    refine s_if_ne (tgt := 17) hK dX6_proof_10 (by decide) (fun c_10 => ?_) (fun c_10 => ?_)
    · exact absurd (hbad c_1) (by simp [b2n c_10])
    · refine s_sipush (v := -1001) hK dX6_proof_13 (by decide) ?_
      exact s_iret hK hE dX6_proof_16 rfl (rfl) (rfl)
set_option maxHeartbeats 4000000 in
set_option maxRecDepth 100000 in
theorem zX6_proof_none {g : aG} {l : Launch} {σ : aS} (b a : Int32) (hb : ¬ b < 0) (ha : wi a 0 5 = true) (h : ¬ b < σ 2 1) : CN g l yX6_proof wsX6_proof 2 45 [.ref 600, .int b, .int a] σ (some (.int (-1009))) σ := by
  refine cn_of (cc := cX6_proof) (nL := 3) (ret := (some .int)) (own := RX6) (by decide +kernel) rfl rfl (Nat.le_of_ble_eq_true rfl) (fun K hg hl hK hE => ?_)
  subst hg; subst hl
  have i_5 : ∀ w ∈ u_ws RX5 TX5 10, w ∈ wsX6_proof := by decide +kernel
  have i_6 : ∀ w ∈ u_ws RX6 TX6 5, w ∈ wsX6_proof := by decide +kernel
  show AW K 0 [some (.ref 600), some (.int b), some (.int a)] [] σ
  refine s_iload1 hK dX6_proof_0 ?_
  refine s_if_lt (tgt := 13) hK dX6_proof_1 (by decide) (fun c_1 => absurd c_1 hb) (fun c_1 => ?_)
  refine s_iload2 hK dX6_proof_4 ?_
  refine s_iconst (v := 0) hK dX6_proof_5 (by decide) ?_
  refine s_iconst (v := 5) hK dX6_proof_6 (by decide) ?_
  refine s_callS hK mdX6_isWithin (zX6_isWithin _ _ _) gX6_proof_X6_isWithin rfl ⟨Nat.le_of_ble_eq_true rfl, Nat.le_of_ble_eq_true rfl⟩ rfl (Nat.le_of_ble_eq_true rfl) dX6_proof_7 ?_
  try dsimp only [Option.toList, List.cons_append, List.nil_append]
  refine s_if_ne (tgt := 17) hK dX6_proof_10 (by decide) (fun c_10 => ?_) (fun c_10 => absurd c_10 (b2y' ha))
  refine s_iload1 hK dX6_proof_17 ?_
  refine s_aload0 hK dX6_proof_18 ?_
  refine s_getr (ci := 6) (k := 0) hK rfl rfl i_6 (by decide +kernel) dX6_proof_19 (by decide) (by decide) (by decide) rfl rfl (rf_6_0 rfl) ?_
  refine s_getr (ci := 5) (k := 2) hK rfl rfl i_5 (by decide +kernel) dX6_proof_22 (by decide) (by decide) (by decide) rfl rfl (rf_5_2 rfl) ?_
  refine s_callV (ci := 3) hK mdX3_size (zX3_size 2 rfl) gX6_proof_X3_size rfl rfl rfl (by decide) rfl ⟨Nat.le_of_ble_eq_true rfl, Nat.le_of_ble_eq_true rfl⟩ rfl (Nat.le_of_ble_eq_true rfl) dX6_proof_25 ?_
  try dsimp only [Option.toList, List.cons_append, List.nil_append]
  refine s_icmp_lt (tgt := 35) hK dX6_proof_28 (by decide) (fun c_28 => absurd c_28 h) (fun c_28 => ?_)
  refine s_sipush (v := -1009) hK dX6_proof_31 (by decide) ?_
  exact s_iret hK hE dX6_proof_34 rfl (rfl) (rfl)
set_option maxHeartbeats 4000000 in
set_option maxRecDepth 100000 in
theorem zX6_proof_ok {g : aG} {l : Launch} {σ : aS} (la bk wh : Nat) (hla : la < 12) (hl2 : σ 2 2 = nI la) (hbk : bk < 12) (hwh : wh < 6) (h : nI bk < σ 2 1) : CN g l yX6_proof wsX6_proof 2 45 [.ref 600, .int (nI bk), .int (nI wh)] σ (some (.int (σ 3 ((la + 12 - bk) % 12 * 6 + wh)))) σ := by
  refine cn_of (cc := cX6_proof) (nL := 3) (ret := (some .int)) (own := RX6) (by decide +kernel) rfl rfl (Nat.le_of_ble_eq_true rfl) (fun K hg hl hK hE => ?_)
  subst hg; subst hl
  have i_5 : ∀ w ∈ u_ws RX5 TX5 10, w ∈ wsX6_proof := by decide +kernel
  have i_6 : ∀ w ∈ u_ws RX6 TX6 5, w ∈ wsX6_proof := by decide +kernel
  show AW K 0 [some (.ref 600), some (.int (nI bk)), some (.int (nI wh))] [] σ
  refine s_iload1 hK dX6_proof_0 ?_
  refine s_if_lt (tgt := 13) hK dX6_proof_1 (by decide) (fun c_1 => absurd c_1 (nI_pos (by omega))) (fun c_1 => ?_)
  refine s_iload2 hK dX6_proof_4 ?_
  refine s_iconst (v := 0) hK dX6_proof_5 (by decide) ?_
  refine s_iconst (v := 5) hK dX6_proof_6 (by decide) ?_
  refine s_callS hK mdX6_isWithin (zX6_isWithin _ _ _) gX6_proof_X6_isWithin rfl ⟨Nat.le_of_ble_eq_true rfl, Nat.le_of_ble_eq_true rfl⟩ rfl (Nat.le_of_ble_eq_true rfl) dX6_proof_7 ?_
  try dsimp only [Option.toList, List.cons_append, List.nil_append]
  refine s_if_ne (tgt := 17) hK dX6_proof_10 (by decide) (fun c_10 => ?_) (fun c_10 => absurd c_10 (b2y' (wi_nI (N := 5) (by omega) (by decide))))
  refine s_iload1 hK dX6_proof_17 ?_
  refine s_aload0 hK dX6_proof_18 ?_
  refine s_getr (ci := 6) (k := 0) hK rfl rfl i_6 (by decide +kernel) dX6_proof_19 (by decide) (by decide) (by decide) rfl rfl (rf_6_0 rfl) ?_
  refine s_getr (ci := 5) (k := 2) hK rfl rfl i_5 (by decide +kernel) dX6_proof_22 (by decide) (by decide) (by decide) rfl rfl (rf_5_2 rfl) ?_
  refine s_callV (ci := 3) hK mdX3_size (zX3_size 2 rfl) gX6_proof_X3_size rfl rfl rfl (by decide) rfl ⟨Nat.le_of_ble_eq_true rfl, Nat.le_of_ble_eq_true rfl⟩ rfl (Nat.le_of_ble_eq_true rfl) dX6_proof_25 ?_
  try dsimp only [Option.toList, List.cons_append, List.nil_append]
  refine s_icmp_lt (tgt := 35) hK dX6_proof_28 (by decide) (fun c_28 => ?_) (fun c_28 => absurd c_28 (fun q => q h))
  refine s_aload0 hK dX6_proof_35 ?_
  refine s_getr (ci := 6) (k := 0) hK rfl rfl i_6 (by decide +kernel) dX6_proof_36 (by decide) (by decide) (by decide) rfl rfl (rf_6_0 rfl) ?_
  refine s_getr (ci := 5) (k := 2) hK rfl rfl i_5 (by decide +kernel) dX6_proof_39 (by decide) (by decide) (by decide) rfl rfl (rf_5_2 rfl) ?_
  refine s_iload1 hK dX6_proof_42 ?_
  refine s_iload2 hK dX6_proof_43 ?_
  refine s_callV (ci := 3) hK mdX3_partOf (zX3_partOf 2 la bk wh rfl hla hl2 hbk hwh) gX6_proof_X3_partOf rfl rfl rfl (by decide) rfl ⟨Nat.le_of_ble_eq_true rfl, Nat.le_of_ble_eq_true rfl⟩ rfl (Nat.le_of_ble_eq_true rfl) dX6_proof_44 ?_
  try dsimp only [Option.toList, List.cons_append, List.nil_append]
  exact s_iret hK hE dX6_proof_47 rfl (rfl) (rfl)
set_option maxHeartbeats 4000000 in
set_option maxRecDepth 100000 in
theorem zX6_faults_bad {g : aG} {l : Launch} {σ : aS} (a b c : Int32) (hbad : sh a b = false) : CN g l yX6_faults wsX6_faults 4 94 [.ref 600, .int a, .int b, .int c] σ (some (.int (-1001))) σ := by
  refine cn_of (cc := cX6_faults) (nL := 4) (ret := (some .int)) (own := RX6) (by decide +kernel) rfl rfl (Nat.le_of_ble_eq_true rfl) (fun K hg hl hK hE => ?_)
  subst hg; subst hl
  have i_5 : ∀ w ∈ u_ws RX5 TX5 10, w ∈ wsX6_faults := by decide +kernel
  have i_6 : ∀ w ∈ u_ws RX6 TX6 5, w ∈ wsX6_faults := by decide +kernel
  show AW K 0 [some (.ref 600), some (.int a), some (.int b), some (.int c)] [] σ
  refine s_iload1 hK dX6_faults_0 ?_
  refine s_iload2 hK dX6_faults_1 ?_
  refine s_callS hK mdX6_isShift (zX6_isShift _ _) gX6_faults_X6_isShift rfl ⟨Nat.le_of_ble_eq_true rfl, Nat.le_of_ble_eq_true rfl⟩ rfl (Nat.le_of_ble_eq_true rfl) dX6_faults_2 ?_
  try dsimp only [Option.toList, List.cons_append, List.nil_append]
  refine s_if_ne (tgt := 12) hK dX6_faults_5 (by decide) (fun c_5 => absurd c_5 (fun q => q (b2f hbad))) (fun c_5 => ?_)
  refine s_sipush (v := -1001) hK dX6_faults_8 (by decide) ?_
  exact s_iret hK hE dX6_faults_11 rfl (rfl) (rfl)
set_option maxHeartbeats 4000000 in
set_option maxRecDepth 100000 in
theorem zX6_faults_0 {g : aG} {l : Launch} {σ : aS} (a b : Int32) (hs_ : sh a b = true) (h : WB σ) : CN g l yX6_faults wsX6_faults 4 94 [.ref 600, .int a, .int b, .int 0] σ (some (.int (nI (ct (gG (iK σ) 10 607 14 a b))))) (iK σ) := by
  refine cn_of (cc := cX6_faults) (nL := 4) (ret := (some .int)) (own := RX6) (by decide +kernel) rfl rfl (Nat.le_of_ble_eq_true rfl) (fun K hg hl hK hE => ?_)
  subst hg; subst hl
  have i_5 : ∀ w ∈ u_ws RX5 TX5 10, w ∈ wsX6_faults := by decide +kernel
  have i_6 : ∀ w ∈ u_ws RX6 TX6 5, w ∈ wsX6_faults := by decide +kernel
  show AW K 0 [some (.ref 600), some (.int a), some (.int b), some (.int 0)] [] σ
  refine s_iload1 hK dX6_faults_0 ?_
  refine s_iload2 hK dX6_faults_1 ?_
  refine s_callS hK mdX6_isShift (zX6_isShift _ _) gX6_faults_X6_isShift rfl ⟨Nat.le_of_ble_eq_true rfl, Nat.le_of_ble_eq_true rfl⟩ rfl (Nat.le_of_ble_eq_true rfl) dX6_faults_2 ?_
  try dsimp only [Option.toList, List.cons_append, List.nil_append]
  refine s_if_ne (tgt := 12) hK dX6_faults_5 (by decide) (fun c_5 => ?_) (fun c_5 => absurd c_5 (b2y' hs_))
  refine s_aload0 hK dX6_faults_12 ?_
  refine s_callV (ci := 6) hK mdX6_findInk (zX6_findInk) gX6_faults_X6_findInk rfl rfl rfl (by decide) rfl ⟨Nat.le_of_ble_eq_true rfl, Nat.le_of_ble_eq_true rfl⟩ rfl (Nat.le_of_ble_eq_true rfl) dX6_faults_13 ?_
  try dsimp only [Option.toList, List.cons_append, List.nil_append]
  refine s_iload3 hK dX6_faults_16 ?_
  refine s_tableIn (tgt := 44) hK dX6_faults_17 (by decide) (by decide) (off := 27) (by decide) (by decide) ?_
  refine s_aload0 hK dX6_faults_44 ?_
  refine s_iload1 hK dX6_faults_45 ?_
  refine s_iload2 hK dX6_faults_46 ?_
  refine s_callV (ci := 6) hK mdX6_gapsWith (zX6_gapsWith a b h.iK (sh_x hs_)) gX6_faults_X6_gapsWith rfl rfl rfl (by decide) rfl ⟨Nat.le_of_ble_eq_true rfl, Nat.le_of_ble_eq_true rfl⟩ rfl (Nat.le_of_ble_eq_true rfl) dX6_faults_47 ?_
  try dsimp only [Option.toList, List.cons_append, List.nil_append]
  exact s_iret hK hE dX6_faults_50 rfl (rfl) (rfl)
set_option maxHeartbeats 4000000 in
set_option maxRecDepth 100000 in
theorem zX6_faults_1 {g : aG} {l : Launch} {σ : aS} (a b : Int32) (hs_ : sh a b = true) (h : WB σ) : CN g l yX6_faults wsX6_faults 4 94 [.ref 600, .int a, .int b, .int 1] σ (some (.int (nI (ct (gS (iK σ) 10 14 a b))))) (iK σ) := by
  refine cn_of (cc := cX6_faults) (nL := 4) (ret := (some .int)) (own := RX6) (by decide +kernel) rfl rfl (Nat.le_of_ble_eq_true rfl) (fun K hg hl hK hE => ?_)
  subst hg; subst hl
  have i_5 : ∀ w ∈ u_ws RX5 TX5 10, w ∈ wsX6_faults := by decide +kernel
  have i_6 : ∀ w ∈ u_ws RX6 TX6 5, w ∈ wsX6_faults := by decide +kernel
  show AW K 0 [some (.ref 600), some (.int a), some (.int b), some (.int 1)] [] σ
  refine s_iload1 hK dX6_faults_0 ?_
  refine s_iload2 hK dX6_faults_1 ?_
  refine s_callS hK mdX6_isShift (zX6_isShift _ _) gX6_faults_X6_isShift rfl ⟨Nat.le_of_ble_eq_true rfl, Nat.le_of_ble_eq_true rfl⟩ rfl (Nat.le_of_ble_eq_true rfl) dX6_faults_2 ?_
  try dsimp only [Option.toList, List.cons_append, List.nil_append]
  refine s_if_ne (tgt := 12) hK dX6_faults_5 (by decide) (fun c_5 => ?_) (fun c_5 => absurd c_5 (b2y' hs_))
  refine s_aload0 hK dX6_faults_12 ?_
  refine s_callV (ci := 6) hK mdX6_findInk (zX6_findInk) gX6_faults_X6_findInk rfl rfl rfl (by decide) rfl ⟨Nat.le_of_ble_eq_true rfl, Nat.le_of_ble_eq_true rfl⟩ rfl (Nat.le_of_ble_eq_true rfl) dX6_faults_13 ?_
  try dsimp only [Option.toList, List.cons_append, List.nil_append]
  refine s_iload3 hK dX6_faults_16 ?_
  refine s_tableIn (tgt := 51) hK dX6_faults_17 (by decide) (by decide) (off := 34) (by decide) (by decide) ?_
  refine s_aload0 hK dX6_faults_51 ?_
  refine s_iload1 hK dX6_faults_52 ?_
  refine s_iload2 hK dX6_faults_53 ?_
  refine s_callV (ci := 6) hK mdX6_spillsWith (zX6_spillsWith a b h.iK (sh_x hs_)) gX6_faults_X6_spillsWith rfl rfl rfl (by decide) rfl ⟨Nat.le_of_ble_eq_true rfl, Nat.le_of_ble_eq_true rfl⟩ rfl (Nat.le_of_ble_eq_true rfl) dX6_faults_54 ?_
  try dsimp only [Option.toList, List.cons_append, List.nil_append]
  exact s_iret hK hE dX6_faults_57 rfl (rfl) (rfl)
set_option maxHeartbeats 4000000 in
set_option maxRecDepth 100000 in
theorem zX6_faults_2 {g : aG} {l : Launch} {σ : aS} (a b : Int32) (hs_ : sh a b = true) (h : WB σ) : CN g l yX6_faults wsX6_faults 4 94 [.ref 600, .int a, .int b, .int 2] σ (some (.int (nI (ct (gLo (iK σ) 10 607))))) (iK σ) := by
  refine cn_of (cc := cX6_faults) (nL := 4) (ret := (some .int)) (own := RX6) (by decide +kernel) rfl rfl (Nat.le_of_ble_eq_true rfl) (fun K hg hl hK hE => ?_)
  subst hg; subst hl
  have i_5 : ∀ w ∈ u_ws RX5 TX5 10, w ∈ wsX6_faults := by decide +kernel
  have i_6 : ∀ w ∈ u_ws RX6 TX6 5, w ∈ wsX6_faults := by decide +kernel
  show AW K 0 [some (.ref 600), some (.int a), some (.int b), some (.int 2)] [] σ
  refine s_iload1 hK dX6_faults_0 ?_
  refine s_iload2 hK dX6_faults_1 ?_
  refine s_callS hK mdX6_isShift (zX6_isShift _ _) gX6_faults_X6_isShift rfl ⟨Nat.le_of_ble_eq_true rfl, Nat.le_of_ble_eq_true rfl⟩ rfl (Nat.le_of_ble_eq_true rfl) dX6_faults_2 ?_
  try dsimp only [Option.toList, List.cons_append, List.nil_append]
  refine s_if_ne (tgt := 12) hK dX6_faults_5 (by decide) (fun c_5 => ?_) (fun c_5 => absurd c_5 (b2y' hs_))
  refine s_aload0 hK dX6_faults_12 ?_
  refine s_callV (ci := 6) hK mdX6_findInk (zX6_findInk) gX6_faults_X6_findInk rfl rfl rfl (by decide) rfl ⟨Nat.le_of_ble_eq_true rfl, Nat.le_of_ble_eq_true rfl⟩ rfl (Nat.le_of_ble_eq_true rfl) dX6_faults_13 ?_
  try dsimp only [Option.toList, List.cons_append, List.nil_append]
  refine s_iload3 hK dX6_faults_16 ?_
  refine s_tableIn (tgt := 58) hK dX6_faults_17 (by decide) (by decide) (off := 41) (by decide) (by decide) ?_
  refine s_aload0 hK dX6_faults_58 ?_
  refine s_getr (ci := 6) (k := 0) hK rfl rfl i_6 (by decide +kernel) dX6_faults_59 (by decide) (by decide) (by decide) rfl rfl (rf_6_0 rfl) ?_
  refine s_getr (ci := 5) (k := 0) hK rfl rfl i_5 (by decide +kernel) dX6_faults_62 (by decide) (by decide) (by decide) rfl rfl (rf_5_0 rfl) ?_
  refine s_aload0 hK dX6_faults_65 ?_
  refine s_getr (ci := 6) (k := 3) hK rfl rfl i_6 (by decide +kernel) dX6_faults_66 (by decide) (by decide) (by decide) rfl rfl (rf_6_3 rfl) ?_
  refine s_callV (ci := 0) hK mdX0_lostLines (zX0_lostLines 10 607 rfl rfl h.iK.2.1) gX6_faults_X0_lostLines rfl rfl rfl (by decide) rfl ⟨Nat.le_of_ble_eq_true rfl, Nat.le_of_ble_eq_true rfl⟩ rfl (Nat.le_of_ble_eq_true rfl) dX6_faults_69 ?_
  try dsimp only [Option.toList, List.cons_append, List.nil_append]
  exact s_iret hK hE dX6_faults_72 rfl (rfl) (rfl)
set_option maxHeartbeats 4000000 in
set_option maxRecDepth 100000 in
theorem zX6_faults_out {g : aG} {l : Launch} {σ : aS} (a b c : Int32) (hs_ : sh a b = true) (h : c.toInt < 0 ∨ 2 < c.toInt) : CN g l yX6_faults wsX6_faults 4 94 [.ref 600, .int a, .int b, .int c] σ (some (.int (-1001))) (iK σ) := by
  refine cn_of (cc := cX6_faults) (nL := 4) (ret := (some .int)) (own := RX6) (by decide +kernel) rfl rfl (Nat.le_of_ble_eq_true rfl) (fun K hg hl hK hE => ?_)
  subst hg; subst hl
  have i_5 : ∀ w ∈ u_ws RX5 TX5 10, w ∈ wsX6_faults := by decide +kernel
  have i_6 : ∀ w ∈ u_ws RX6 TX6 5, w ∈ wsX6_faults := by decide +kernel
  show AW K 0 [some (.ref 600), some (.int a), some (.int b), some (.int c)] [] σ
  refine s_iload1 hK dX6_faults_0 ?_
  refine s_iload2 hK dX6_faults_1 ?_
  refine s_callS hK mdX6_isShift (zX6_isShift _ _) gX6_faults_X6_isShift rfl ⟨Nat.le_of_ble_eq_true rfl, Nat.le_of_ble_eq_true rfl⟩ rfl (Nat.le_of_ble_eq_true rfl) dX6_faults_2 ?_
  try dsimp only [Option.toList, List.cons_append, List.nil_append]
  refine s_if_ne (tgt := 12) hK dX6_faults_5 (by decide) (fun c_5 => ?_) (fun c_5 => absurd c_5 (b2y' hs_))
  refine s_aload0 hK dX6_faults_12 ?_
  refine s_callV (ci := 6) hK mdX6_findInk (zX6_findInk) gX6_faults_X6_findInk rfl rfl rfl (by decide) rfl ⟨Nat.le_of_ble_eq_true rfl, Nat.le_of_ble_eq_true rfl⟩ rfl (Nat.le_of_ble_eq_true rfl) dX6_faults_13 ?_
  try dsimp only [Option.toList, List.cons_append, List.nil_append]
  refine s_iload3 hK dX6_faults_16 ?_
  refine s_tableOut (tgt := 73) hK dX6_faults_17 h (by decide) ?_
  refine s_sipush (v := -1001) hK dX6_faults_73 (by decide) ?_
  exact s_iret hK hE dX6_faults_76 rfl (rfl) (rfl)
set_option maxHeartbeats 4000000 in
set_option maxRecDepth 100000 in
theorem zX6_why_bad {g : aG} {l : Launch} {σ : aS} (x y : Int32) (hbad : pl x y = false) : CN g l yX6_why wsX6_why 3 67 [.ref 600, .int x, .int y] σ (some (.int (-1001))) σ := by
  refine cn_of (cc := cX6_why) (nL := 6) (ret := (some .int)) (own := RX6) (by decide +kernel) rfl rfl (Nat.le_of_ble_eq_true rfl) (fun K hg hl hK hE => ?_)
  subst hg; subst hl
  have i_5 : ∀ w ∈ u_ws RX5 TX5 10, w ∈ wsX6_why := by decide +kernel
  have i_6 : ∀ w ∈ u_ws RX6 TX6 5, w ∈ wsX6_why := by decide +kernel
  show AW K 0 [some (.ref 600), some (.int x), some (.int y), none, none, none] [] σ
  refine s_iload1 hK dX6_why_0 ?_
  refine s_iload2 hK dX6_why_1 ?_
  refine s_callS hK mdX6_isPlace (zX6_isPlace _ _) gX6_why_X6_isPlace rfl ⟨Nat.le_of_ble_eq_true rfl, Nat.le_of_ble_eq_true rfl⟩ rfl (Nat.le_of_ble_eq_true rfl) dX6_why_2 ?_
  try dsimp only [Option.toList, List.cons_append, List.nil_append]
  refine s_if_ne (tgt := 12) hK dX6_why_5 (by decide) (fun c_5 => absurd c_5 (fun q => q (b2f hbad))) (fun c_5 => ?_)
  refine s_sipush (v := -1001) hK dX6_why_8 (by decide) ?_
  exact s_iret hK hE dX6_why_11 rfl (rfl) (rfl)
set_option maxHeartbeats 4000000 in
set_option maxRecDepth 100000 in
theorem zX6_why_ok {g : aG} {l : Launch} {σ : aS} (x y : Int32) (hp : pl x y = true) : CN g l yX6_why wsX6_why 3 67 [.ref 600, .int x, .int y] σ (some (.int (yV (kA (iK σ) 10 x y) (hs (iK σ) 611 x y) (hs (iK σ) 18 (x - mPx σ) (y - mPy σ)) (wn (iK σ) 10 x y (iK σ 1 3))))) (iK σ) := by
  refine cn_of (cc := cX6_why) (nL := 6) (ret := (some .int)) (own := RX6) (by decide +kernel) rfl rfl (Nat.le_of_ble_eq_true rfl) (fun K hg hl hK hE => ?_)
  subst hg; subst hl
  have i_5 : ∀ w ∈ u_ws RX5 TX5 10, w ∈ wsX6_why := by decide +kernel
  have i_6 : ∀ w ∈ u_ws RX6 TX6 5, w ∈ wsX6_why := by decide +kernel
  show AW K 0 [some (.ref 600), some (.int x), some (.int y), none, none, none] [] σ
  refine s_iload1 hK dX6_why_0 ?_
  refine s_iload2 hK dX6_why_1 ?_
  refine s_callS hK mdX6_isPlace (zX6_isPlace _ _) gX6_why_X6_isPlace rfl ⟨Nat.le_of_ble_eq_true rfl, Nat.le_of_ble_eq_true rfl⟩ rfl (Nat.le_of_ble_eq_true rfl) dX6_why_2 ?_
  try dsimp only [Option.toList, List.cons_append, List.nil_append]
  refine s_if_ne (tgt := 12) hK dX6_why_5 (by decide) (fun c_5 => ?_) (fun c_5 => absurd c_5 (b2y' hp))
  refine s_aload0 hK dX6_why_12 ?_
  refine s_callV (ci := 6) hK mdX6_findInk (zX6_findInk) gX6_why_X6_findInk rfl rfl rfl (by decide) rfl ⟨Nat.le_of_ble_eq_true rfl, Nat.le_of_ble_eq_true rfl⟩ rfl (Nat.le_of_ble_eq_true rfl) dX6_why_13 ?_
  try dsimp only [Option.toList, List.cons_append, List.nil_append]
  refine s_aload0 hK dX6_why_16 ?_
  refine s_getr (ci := 6) (k := 0) hK rfl rfl i_6 (by decide +kernel) dX6_why_17 (by decide) (by decide) (by decide) rfl rfl (rf_6_0 rfl) ?_
  refine s_getr (ci := 5) (k := 0) hK rfl rfl i_5 (by decide +kernel) dX6_why_20 (by decide) (by decide) (by decide) rfl rfl (rf_5_0 rfl) ?_
  refine s_iload1 hK dX6_why_23 ?_
  refine s_iload2 hK dX6_why_24 ?_
  refine s_callV (ci := 0) hK mdX0_kindAt (zX0_kindAt 10 x y rfl) gX6_why_X0_kindAt rfl rfl rfl (by decide) rfl ⟨Nat.le_of_ble_eq_true rfl, Nat.le_of_ble_eq_true rfl⟩ rfl (Nat.le_of_ble_eq_true rfl) dX6_why_25 ?_
  try dsimp only [Option.toList, List.cons_append, List.nil_append]
  refine s_istore3 hK dX6_why_28 ?_
  refine s_aload0 hK dX6_why_29 ?_
  refine s_getr (ci := 6) (k := 3) hK rfl rfl i_6 (by decide +kernel) dX6_why_30 (by decide) (by decide) (by decide) rfl rfl (rf_6_3 rfl) ?_
  refine s_iload1 hK dX6_why_33 ?_
  refine s_iload2 hK dX6_why_34 ?_
  refine s_callV (ci := 1) hK mdX1_has (zX1_has 607 x y rfl) gX6_why_X1_has rfl rfl rfl (by decide) rfl ⟨Nat.le_of_ble_eq_true rfl, Nat.le_of_ble_eq_true rfl⟩ rfl (Nat.le_of_ble_eq_true rfl) dX6_why_35 ?_
  try dsimp only [Option.toList, List.cons_append, List.nil_append]
  refine s_istore4 hK dX6_why_38 ?_
  refine s_aload0 hK dX6_why_40 ?_
  refine s_iload1 hK dX6_why_41 ?_
  refine s_iload2 hK dX6_why_42 ?_
  refine s_aload0 hK dX6_why_43 ?_
  refine s_getr (ci := 6) (k := 0) hK rfl rfl i_6 (by decide +kernel) dX6_why_44 (by decide) (by decide) (by decide) rfl rfl (rf_6_0 rfl) ?_
  refine s_callV (ci := 5) hK mdX5_shiftX (zX5_shiftX 0 rfl) gX6_why_X5_shiftX rfl rfl rfl (by decide) rfl ⟨Nat.le_of_ble_eq_true rfl, Nat.le_of_ble_eq_true rfl⟩ rfl (Nat.le_of_ble_eq_true rfl) dX6_why_47 ?_
  try dsimp only [Option.toList, List.cons_append, List.nil_append]
  refine s_aload0 hK dX6_why_50 ?_
  refine s_getr (ci := 6) (k := 0) hK rfl rfl i_6 (by decide +kernel) dX6_why_51 (by decide) (by decide) (by decide) rfl rfl (rf_6_0 rfl) ?_
  refine s_callV (ci := 5) hK mdX5_shiftY (zX5_shiftY 0 rfl) gX6_why_X5_shiftY rfl rfl rfl (by decide) rfl ⟨Nat.le_of_ble_eq_true rfl, Nat.le_of_ble_eq_true rfl⟩ rfl (Nat.le_of_ble_eq_true rfl) dX6_why_54 ?_
  try dsimp only [Option.toList, List.cons_append, List.nil_append]
  refine s_callV (ci := 6) hK mdX6_printsColour (zX6_printsColour x y (mPx σ) (mPy σ)) gX6_why_X6_printsColour rfl rfl rfl (by decide) rfl ⟨Nat.le_of_ble_eq_true rfl, Nat.le_of_ble_eq_true rfl⟩ rfl (Nat.le_of_ble_eq_true rfl) dX6_why_57 ?_
  try dsimp only [Option.toList, List.cons_append, List.nil_append]
  generalize hv1 : hs (iK σ) 18 (x - mPx σ) (y - mPy σ) = v1 at hE ⊢; generalize hv2 : hs (iK σ) 611 x y = v2 at hE ⊢; generalize hv3 : kA (iK σ) 10 x y = v3 at hE ⊢
  refine s_istore5 hK dX6_why_60 ?_
  refine s_iload3 hK dX6_why_62 ?_
  refine s_if_eq (tgt := 104) hK dX6_why_63 (by decide) (fun c_63 => ?_) (fun c_63 => ?_)
  · refine s_iload3 hK dX6_why_104 ?_
    refine s_if_ne (tgt := 115) hK dX6_why_105 (by decide) (fun c_105 => ?_) (fun c_105 => ?_)
    · refine s_iload3 hK dX6_why_115 ?_
      refine s_iconst (v := 2) hK dX6_why_116 (by decide) ?_
      refine s_icmp_eq (tgt := 127) hK dX6_why_117 (by decide) (fun c_117 => ?_) (fun c_117 => ?_)
      · refine s_iload3 hK dX6_why_127 ?_
        refine s_iconst (v := 2) hK dX6_why_128 (by decide) ?_
        refine s_icmp_ne (tgt := 141) hK dX6_why_129 (by decide) (fun c_129 => ?_) (fun c_129 => ?_)
        · refine s_iconst (v := 0) hK dX6_why_141 (by decide) ?_
          exact s_iret hK hE dX6_why_142 rfl (by clear hE hK i_5 i_6 c_5 hp hv1 hv2 hv3; (try simp only [b2_0] at *); first | (exfalso; simp_all; done) | (cases v1 <;> cases v2 <;> simp_all [yV]; done)) (rfl)
        · refine s_iload4 hK dX6_why_132 ?_
          refine s_if_ne (tgt := 141) hK dX6_why_134 (by decide) (fun c_134 => ?_) (fun c_134 => ?_)
          · refine s_iconst (v := 0) hK dX6_why_141 (by decide) ?_
            exact s_iret hK hE dX6_why_142 rfl (by clear hE hK i_5 i_6 c_5 hp hv1 hv2 hv3; (try simp only [b2_0] at *); first | (exfalso; simp_all; done) | (cases v1 <;> cases v2 <;> simp_all [yV]; done)) (rfl)
          · refine s_iconst (v := 5) hK dX6_why_137 (by decide) ?_
            refine s_goto (tgt := 142) hK dX6_why_138 (by decide) ?_
            exact s_iret hK hE dX6_why_142 rfl (by clear hE hK i_5 i_6 c_5 hp hv1 hv2 hv3; (try simp only [b2_0] at *); first | (exfalso; simp_all; done) | (cases v1 <;> cases v2 <;> simp_all [yV]; done)) (rfl)
      · refine s_iload4 hK dX6_why_120 ?_
        refine s_if_eq (tgt := 127) hK dX6_why_122 (by decide) (fun c_122 => ?_) (fun c_122 => ?_)
        · refine s_iload3 hK dX6_why_127 ?_
          refine s_iconst (v := 2) hK dX6_why_128 (by decide) ?_
          refine s_icmp_ne (tgt := 141) hK dX6_why_129 (by decide) (fun c_129 => ?_) (fun c_129 => ?_)
          · refine s_iconst (v := 0) hK dX6_why_141 (by decide) ?_
            exact s_iret hK hE dX6_why_142 rfl (by clear hE hK i_5 i_6 c_5 hp hv1 hv2 hv3; (try simp only [b2_0] at *); first | (exfalso; simp_all; done) | (cases v1 <;> cases v2 <;> simp_all [yV]; done)) (rfl)
          · refine s_iload4 hK dX6_why_132 ?_
            refine s_if_ne (tgt := 141) hK dX6_why_134 (by decide) (fun c_134 => ?_) (fun c_134 => ?_)
            · refine s_iconst (v := 0) hK dX6_why_141 (by decide) ?_
              exact s_iret hK hE dX6_why_142 rfl (by clear hE hK i_5 i_6 c_5 hp hv1 hv2 hv3; (try simp only [b2_0] at *); first | (exfalso; simp_all; done) | (cases v1 <;> cases v2 <;> simp_all [yV]; done)) (rfl)
            · refine s_iconst (v := 5) hK dX6_why_137 (by decide) ?_
              refine s_goto (tgt := 142) hK dX6_why_138 (by decide) ?_
              exact s_iret hK hE dX6_why_142 rfl (by clear hE hK i_5 i_6 c_5 hp hv1 hv2 hv3; (try simp only [b2_0] at *); first | (exfalso; simp_all; done) | (cases v1 <;> cases v2 <;> simp_all [yV]; done)) (rfl)
        · refine s_iconst (v := 4) hK dX6_why_125 (by decide) ?_
          exact s_iret hK hE dX6_why_126 rfl (by clear hE hK i_5 i_6 c_5 hp hv1 hv2 hv3; (try simp only [b2_0] at *); first | (exfalso; simp_all; done) | (cases v1 <;> cases v2 <;> simp_all [yV]; done)) (rfl)
    · refine s_iload5 hK dX6_why_108 ?_
      refine s_if_eq (tgt := 115) hK dX6_why_110 (by decide) (fun c_110 => ?_) (fun c_110 => ?_)
      · refine s_iload3 hK dX6_why_115 ?_
        refine s_iconst (v := 2) hK dX6_why_116 (by decide) ?_
        refine s_icmp_eq (tgt := 127) hK dX6_why_117 (by decide) (fun c_117 => ?_) (fun c_117 => ?_)
        · refine s_iload3 hK dX6_why_127 ?_
          refine s_iconst (v := 2) hK dX6_why_128 (by decide) ?_
          refine s_icmp_ne (tgt := 141) hK dX6_why_129 (by decide) (fun c_129 => ?_) (fun c_129 => ?_)
          · refine s_iconst (v := 0) hK dX6_why_141 (by decide) ?_
            exact s_iret hK hE dX6_why_142 rfl (by clear hE hK i_5 i_6 c_5 hp hv1 hv2 hv3; (try simp only [b2_0] at *); first | (exfalso; simp_all; done) | (cases v1 <;> cases v2 <;> simp_all [yV]; done)) (rfl)
          · refine s_iload4 hK dX6_why_132 ?_
            refine s_if_ne (tgt := 141) hK dX6_why_134 (by decide) (fun c_134 => ?_) (fun c_134 => ?_)
            · refine s_iconst (v := 0) hK dX6_why_141 (by decide) ?_
              exact s_iret hK hE dX6_why_142 rfl (by clear hE hK i_5 i_6 c_5 hp hv1 hv2 hv3; (try simp only [b2_0] at *); first | (exfalso; simp_all; done) | (cases v1 <;> cases v2 <;> simp_all [yV]; done)) (rfl)
            · refine s_iconst (v := 5) hK dX6_why_137 (by decide) ?_
              refine s_goto (tgt := 142) hK dX6_why_138 (by decide) ?_
              exact s_iret hK hE dX6_why_142 rfl (by clear hE hK i_5 i_6 c_5 hp hv1 hv2 hv3; (try simp only [b2_0] at *); first | (exfalso; simp_all; done) | (cases v1 <;> cases v2 <;> simp_all [yV]; done)) (rfl)
        · refine s_iload4 hK dX6_why_120 ?_
          refine s_if_eq (tgt := 127) hK dX6_why_122 (by decide) (fun c_122 => ?_) (fun c_122 => ?_)
          · refine s_iload3 hK dX6_why_127 ?_
            refine s_iconst (v := 2) hK dX6_why_128 (by decide) ?_
            refine s_icmp_ne (tgt := 141) hK dX6_why_129 (by decide) (fun c_129 => ?_) (fun c_129 => ?_)
            · refine s_iconst (v := 0) hK dX6_why_141 (by decide) ?_
              exact s_iret hK hE dX6_why_142 rfl (by clear hE hK i_5 i_6 c_5 hp hv1 hv2 hv3; (try simp only [b2_0] at *); first | (exfalso; simp_all; done) | (cases v1 <;> cases v2 <;> simp_all [yV]; done)) (rfl)
            · refine s_iload4 hK dX6_why_132 ?_
              refine s_if_ne (tgt := 141) hK dX6_why_134 (by decide) (fun c_134 => ?_) (fun c_134 => ?_)
              · refine s_iconst (v := 0) hK dX6_why_141 (by decide) ?_
                exact s_iret hK hE dX6_why_142 rfl (by clear hE hK i_5 i_6 c_5 hp hv1 hv2 hv3; (try simp only [b2_0] at *); first | (exfalso; simp_all; done) | (cases v1 <;> cases v2 <;> simp_all [yV]; done)) (rfl)
              · refine s_iconst (v := 5) hK dX6_why_137 (by decide) ?_
                refine s_goto (tgt := 142) hK dX6_why_138 (by decide) ?_
                exact s_iret hK hE dX6_why_142 rfl (by clear hE hK i_5 i_6 c_5 hp hv1 hv2 hv3; (try simp only [b2_0] at *); first | (exfalso; simp_all; done) | (cases v1 <;> cases v2 <;> simp_all [yV]; done)) (rfl)
          · refine s_iconst (v := 4) hK dX6_why_125 (by decide) ?_
            exact s_iret hK hE dX6_why_126 rfl (by clear hE hK i_5 i_6 c_5 hp hv1 hv2 hv3; (try simp only [b2_0] at *); first | (exfalso; simp_all; done) | (cases v1 <;> cases v2 <;> simp_all [yV]; done)) (rfl)
      · refine s_iconst (v := 3) hK dX6_why_113 (by decide) ?_
        exact s_iret hK hE dX6_why_114 rfl (by clear hE hK i_5 i_6 c_5 hp hv1 hv2 hv3; (try simp only [b2_0] at *); first | (exfalso; simp_all; done) | (cases v1 <;> cases v2 <;> simp_all [yV]; done)) (rfl)
  · refine s_iload4 hK dX6_why_66 ?_
    refine s_if_ne (tgt := 104) hK dX6_why_68 (by decide) (fun c_68 => ?_) (fun c_68 => ?_)
    · refine s_iload3 hK dX6_why_104 ?_
      refine s_if_ne (tgt := 115) hK dX6_why_105 (by decide) (fun c_105 => ?_) (fun c_105 => ?_)
      · refine s_iload3 hK dX6_why_115 ?_
        refine s_iconst (v := 2) hK dX6_why_116 (by decide) ?_
        refine s_icmp_eq (tgt := 127) hK dX6_why_117 (by decide) (fun c_117 => ?_) (fun c_117 => ?_)
        · refine s_iload3 hK dX6_why_127 ?_
          refine s_iconst (v := 2) hK dX6_why_128 (by decide) ?_
          refine s_icmp_ne (tgt := 141) hK dX6_why_129 (by decide) (fun c_129 => ?_) (fun c_129 => ?_)
          · refine s_iconst (v := 0) hK dX6_why_141 (by decide) ?_
            exact s_iret hK hE dX6_why_142 rfl (by clear hE hK i_5 i_6 c_5 hp hv1 hv2 hv3; (try simp only [b2_0] at *); first | (exfalso; simp_all; done) | (cases v1 <;> cases v2 <;> simp_all [yV]; done)) (rfl)
          · refine s_iload4 hK dX6_why_132 ?_
            refine s_if_ne (tgt := 141) hK dX6_why_134 (by decide) (fun c_134 => ?_) (fun c_134 => ?_)
            · refine s_iconst (v := 0) hK dX6_why_141 (by decide) ?_
              exact s_iret hK hE dX6_why_142 rfl (by clear hE hK i_5 i_6 c_5 hp hv1 hv2 hv3; (try simp only [b2_0] at *); first | (exfalso; simp_all; done) | (cases v1 <;> cases v2 <;> simp_all [yV]; done)) (rfl)
            · refine s_iconst (v := 5) hK dX6_why_137 (by decide) ?_
              refine s_goto (tgt := 142) hK dX6_why_138 (by decide) ?_
              exact s_iret hK hE dX6_why_142 rfl (by clear hE hK i_5 i_6 c_5 hp hv1 hv2 hv3; (try simp only [b2_0] at *); first | (exfalso; simp_all; done) | (cases v1 <;> cases v2 <;> simp_all [yV]; done)) (rfl)
        · refine s_iload4 hK dX6_why_120 ?_
          refine s_if_eq (tgt := 127) hK dX6_why_122 (by decide) (fun c_122 => ?_) (fun c_122 => ?_)
          · refine s_iload3 hK dX6_why_127 ?_
            refine s_iconst (v := 2) hK dX6_why_128 (by decide) ?_
            refine s_icmp_ne (tgt := 141) hK dX6_why_129 (by decide) (fun c_129 => ?_) (fun c_129 => ?_)
            · refine s_iconst (v := 0) hK dX6_why_141 (by decide) ?_
              exact s_iret hK hE dX6_why_142 rfl (by clear hE hK i_5 i_6 c_5 hp hv1 hv2 hv3; (try simp only [b2_0] at *); first | (exfalso; simp_all; done) | (cases v1 <;> cases v2 <;> simp_all [yV]; done)) (rfl)
            · refine s_iload4 hK dX6_why_132 ?_
              refine s_if_ne (tgt := 141) hK dX6_why_134 (by decide) (fun c_134 => ?_) (fun c_134 => ?_)
              · refine s_iconst (v := 0) hK dX6_why_141 (by decide) ?_
                exact s_iret hK hE dX6_why_142 rfl (by clear hE hK i_5 i_6 c_5 hp hv1 hv2 hv3; (try simp only [b2_0] at *); first | (exfalso; simp_all; done) | (cases v1 <;> cases v2 <;> simp_all [yV]; done)) (rfl)
              · refine s_iconst (v := 5) hK dX6_why_137 (by decide) ?_
                refine s_goto (tgt := 142) hK dX6_why_138 (by decide) ?_
                exact s_iret hK hE dX6_why_142 rfl (by clear hE hK i_5 i_6 c_5 hp hv1 hv2 hv3; (try simp only [b2_0] at *); first | (exfalso; simp_all; done) | (cases v1 <;> cases v2 <;> simp_all [yV]; done)) (rfl)
          · refine s_iconst (v := 4) hK dX6_why_125 (by decide) ?_
            exact s_iret hK hE dX6_why_126 rfl (by clear hE hK i_5 i_6 c_5 hp hv1 hv2 hv3; (try simp only [b2_0] at *); first | (exfalso; simp_all; done) | (cases v1 <;> cases v2 <;> simp_all [yV]; done)) (rfl)
      · refine s_iload5 hK dX6_why_108 ?_
        refine s_if_eq (tgt := 115) hK dX6_why_110 (by decide) (fun c_110 => ?_) (fun c_110 => ?_)
        · refine s_iload3 hK dX6_why_115 ?_
          refine s_iconst (v := 2) hK dX6_why_116 (by decide) ?_
          refine s_icmp_eq (tgt := 127) hK dX6_why_117 (by decide) (fun c_117 => ?_) (fun c_117 => ?_)
          · refine s_iload3 hK dX6_why_127 ?_
            refine s_iconst (v := 2) hK dX6_why_128 (by decide) ?_
            refine s_icmp_ne (tgt := 141) hK dX6_why_129 (by decide) (fun c_129 => ?_) (fun c_129 => ?_)
            · refine s_iconst (v := 0) hK dX6_why_141 (by decide) ?_
              exact s_iret hK hE dX6_why_142 rfl (by clear hE hK i_5 i_6 c_5 hp hv1 hv2 hv3; (try simp only [b2_0] at *); first | (exfalso; simp_all; done) | (cases v1 <;> cases v2 <;> simp_all [yV]; done)) (rfl)
            · refine s_iload4 hK dX6_why_132 ?_
              refine s_if_ne (tgt := 141) hK dX6_why_134 (by decide) (fun c_134 => ?_) (fun c_134 => ?_)
              · refine s_iconst (v := 0) hK dX6_why_141 (by decide) ?_
                exact s_iret hK hE dX6_why_142 rfl (by clear hE hK i_5 i_6 c_5 hp hv1 hv2 hv3; (try simp only [b2_0] at *); first | (exfalso; simp_all; done) | (cases v1 <;> cases v2 <;> simp_all [yV]; done)) (rfl)
              · refine s_iconst (v := 5) hK dX6_why_137 (by decide) ?_
                refine s_goto (tgt := 142) hK dX6_why_138 (by decide) ?_
                exact s_iret hK hE dX6_why_142 rfl (by clear hE hK i_5 i_6 c_5 hp hv1 hv2 hv3; (try simp only [b2_0] at *); first | (exfalso; simp_all; done) | (cases v1 <;> cases v2 <;> simp_all [yV]; done)) (rfl)
          · refine s_iload4 hK dX6_why_120 ?_
            refine s_if_eq (tgt := 127) hK dX6_why_122 (by decide) (fun c_122 => ?_) (fun c_122 => ?_)
            · refine s_iload3 hK dX6_why_127 ?_
              refine s_iconst (v := 2) hK dX6_why_128 (by decide) ?_
              refine s_icmp_ne (tgt := 141) hK dX6_why_129 (by decide) (fun c_129 => ?_) (fun c_129 => ?_)
              · refine s_iconst (v := 0) hK dX6_why_141 (by decide) ?_
                exact s_iret hK hE dX6_why_142 rfl (by clear hE hK i_5 i_6 c_5 hp hv1 hv2 hv3; (try simp only [b2_0] at *); first | (exfalso; simp_all; done) | (cases v1 <;> cases v2 <;> simp_all [yV]; done)) (rfl)
              · refine s_iload4 hK dX6_why_132 ?_
                refine s_if_ne (tgt := 141) hK dX6_why_134 (by decide) (fun c_134 => ?_) (fun c_134 => ?_)
                · refine s_iconst (v := 0) hK dX6_why_141 (by decide) ?_
                  exact s_iret hK hE dX6_why_142 rfl (by clear hE hK i_5 i_6 c_5 hp hv1 hv2 hv3; (try simp only [b2_0] at *); first | (exfalso; simp_all; done) | (cases v1 <;> cases v2 <;> simp_all [yV]; done)) (rfl)
                · refine s_iconst (v := 5) hK dX6_why_137 (by decide) ?_
                  refine s_goto (tgt := 142) hK dX6_why_138 (by decide) ?_
                  exact s_iret hK hE dX6_why_142 rfl (by clear hE hK i_5 i_6 c_5 hp hv1 hv2 hv3; (try simp only [b2_0] at *); first | (exfalso; simp_all; done) | (cases v1 <;> cases v2 <;> simp_all [yV]; done)) (rfl)
            · refine s_iconst (v := 4) hK dX6_why_125 (by decide) ?_
              exact s_iret hK hE dX6_why_126 rfl (by clear hE hK i_5 i_6 c_5 hp hv1 hv2 hv3; (try simp only [b2_0] at *); first | (exfalso; simp_all; done) | (cases v1 <;> cases v2 <;> simp_all [yV]; done)) (rfl)
        · refine s_iconst (v := 3) hK dX6_why_113 (by decide) ?_
          exact s_iret hK hE dX6_why_114 rfl (by clear hE hK i_5 i_6 c_5 hp hv1 hv2 hv3; (try simp only [b2_0] at *); first | (exfalso; simp_all; done) | (cases v1 <;> cases v2 <;> simp_all [yV]; done)) (rfl)
    · refine s_iload5 hK dX6_why_71 ?_
      refine s_if_ne (tgt := 104) hK dX6_why_73 (by decide) (fun c_73 => ?_) (fun c_73 => ?_)
      · refine s_iload3 hK dX6_why_104 ?_
        refine s_if_ne (tgt := 115) hK dX6_why_105 (by decide) (fun c_105 => ?_) (fun c_105 => ?_)
        · refine s_iload3 hK dX6_why_115 ?_
          refine s_iconst (v := 2) hK dX6_why_116 (by decide) ?_
          refine s_icmp_eq (tgt := 127) hK dX6_why_117 (by decide) (fun c_117 => ?_) (fun c_117 => ?_)
          · refine s_iload3 hK dX6_why_127 ?_
            refine s_iconst (v := 2) hK dX6_why_128 (by decide) ?_
            refine s_icmp_ne (tgt := 141) hK dX6_why_129 (by decide) (fun c_129 => ?_) (fun c_129 => ?_)
            · refine s_iconst (v := 0) hK dX6_why_141 (by decide) ?_
              exact s_iret hK hE dX6_why_142 rfl (by clear hE hK i_5 i_6 c_5 hp hv1 hv2 hv3; (try simp only [b2_0] at *); first | (exfalso; simp_all; done) | (cases v1 <;> cases v2 <;> simp_all [yV]; done)) (rfl)
            · refine s_iload4 hK dX6_why_132 ?_
              refine s_if_ne (tgt := 141) hK dX6_why_134 (by decide) (fun c_134 => ?_) (fun c_134 => ?_)
              · refine s_iconst (v := 0) hK dX6_why_141 (by decide) ?_
                exact s_iret hK hE dX6_why_142 rfl (by clear hE hK i_5 i_6 c_5 hp hv1 hv2 hv3; (try simp only [b2_0] at *); first | (exfalso; simp_all; done) | (cases v1 <;> cases v2 <;> simp_all [yV]; done)) (rfl)
              · refine s_iconst (v := 5) hK dX6_why_137 (by decide) ?_
                refine s_goto (tgt := 142) hK dX6_why_138 (by decide) ?_
                exact s_iret hK hE dX6_why_142 rfl (by clear hE hK i_5 i_6 c_5 hp hv1 hv2 hv3; (try simp only [b2_0] at *); first | (exfalso; simp_all; done) | (cases v1 <;> cases v2 <;> simp_all [yV]; done)) (rfl)
          · refine s_iload4 hK dX6_why_120 ?_
            refine s_if_eq (tgt := 127) hK dX6_why_122 (by decide) (fun c_122 => ?_) (fun c_122 => ?_)
            · refine s_iload3 hK dX6_why_127 ?_
              refine s_iconst (v := 2) hK dX6_why_128 (by decide) ?_
              refine s_icmp_ne (tgt := 141) hK dX6_why_129 (by decide) (fun c_129 => ?_) (fun c_129 => ?_)
              · refine s_iconst (v := 0) hK dX6_why_141 (by decide) ?_
                exact s_iret hK hE dX6_why_142 rfl (by clear hE hK i_5 i_6 c_5 hp hv1 hv2 hv3; (try simp only [b2_0] at *); first | (exfalso; simp_all; done) | (cases v1 <;> cases v2 <;> simp_all [yV]; done)) (rfl)
              · refine s_iload4 hK dX6_why_132 ?_
                refine s_if_ne (tgt := 141) hK dX6_why_134 (by decide) (fun c_134 => ?_) (fun c_134 => ?_)
                · refine s_iconst (v := 0) hK dX6_why_141 (by decide) ?_
                  exact s_iret hK hE dX6_why_142 rfl (by clear hE hK i_5 i_6 c_5 hp hv1 hv2 hv3; (try simp only [b2_0] at *); first | (exfalso; simp_all; done) | (cases v1 <;> cases v2 <;> simp_all [yV]; done)) (rfl)
                · refine s_iconst (v := 5) hK dX6_why_137 (by decide) ?_
                  refine s_goto (tgt := 142) hK dX6_why_138 (by decide) ?_
                  exact s_iret hK hE dX6_why_142 rfl (by clear hE hK i_5 i_6 c_5 hp hv1 hv2 hv3; (try simp only [b2_0] at *); first | (exfalso; simp_all; done) | (cases v1 <;> cases v2 <;> simp_all [yV]; done)) (rfl)
            · refine s_iconst (v := 4) hK dX6_why_125 (by decide) ?_
              exact s_iret hK hE dX6_why_126 rfl (by clear hE hK i_5 i_6 c_5 hp hv1 hv2 hv3; (try simp only [b2_0] at *); first | (exfalso; simp_all; done) | (cases v1 <;> cases v2 <;> simp_all [yV]; done)) (rfl)
        · refine s_iload5 hK dX6_why_108 ?_
          refine s_if_eq (tgt := 115) hK dX6_why_110 (by decide) (fun c_110 => ?_) (fun c_110 => ?_)
          · refine s_iload3 hK dX6_why_115 ?_
            refine s_iconst (v := 2) hK dX6_why_116 (by decide) ?_
            refine s_icmp_eq (tgt := 127) hK dX6_why_117 (by decide) (fun c_117 => ?_) (fun c_117 => ?_)
            · refine s_iload3 hK dX6_why_127 ?_
              refine s_iconst (v := 2) hK dX6_why_128 (by decide) ?_
              refine s_icmp_ne (tgt := 141) hK dX6_why_129 (by decide) (fun c_129 => ?_) (fun c_129 => ?_)
              · refine s_iconst (v := 0) hK dX6_why_141 (by decide) ?_
                exact s_iret hK hE dX6_why_142 rfl (by clear hE hK i_5 i_6 c_5 hp hv1 hv2 hv3; (try simp only [b2_0] at *); first | (exfalso; simp_all; done) | (cases v1 <;> cases v2 <;> simp_all [yV]; done)) (rfl)
              · refine s_iload4 hK dX6_why_132 ?_
                refine s_if_ne (tgt := 141) hK dX6_why_134 (by decide) (fun c_134 => ?_) (fun c_134 => ?_)
                · refine s_iconst (v := 0) hK dX6_why_141 (by decide) ?_
                  exact s_iret hK hE dX6_why_142 rfl (by clear hE hK i_5 i_6 c_5 hp hv1 hv2 hv3; (try simp only [b2_0] at *); first | (exfalso; simp_all; done) | (cases v1 <;> cases v2 <;> simp_all [yV]; done)) (rfl)
                · refine s_iconst (v := 5) hK dX6_why_137 (by decide) ?_
                  refine s_goto (tgt := 142) hK dX6_why_138 (by decide) ?_
                  exact s_iret hK hE dX6_why_142 rfl (by clear hE hK i_5 i_6 c_5 hp hv1 hv2 hv3; (try simp only [b2_0] at *); first | (exfalso; simp_all; done) | (cases v1 <;> cases v2 <;> simp_all [yV]; done)) (rfl)
            · refine s_iload4 hK dX6_why_120 ?_
              refine s_if_eq (tgt := 127) hK dX6_why_122 (by decide) (fun c_122 => ?_) (fun c_122 => ?_)
              · refine s_iload3 hK dX6_why_127 ?_
                refine s_iconst (v := 2) hK dX6_why_128 (by decide) ?_
                refine s_icmp_ne (tgt := 141) hK dX6_why_129 (by decide) (fun c_129 => ?_) (fun c_129 => ?_)
                · refine s_iconst (v := 0) hK dX6_why_141 (by decide) ?_
                  exact s_iret hK hE dX6_why_142 rfl (by clear hE hK i_5 i_6 c_5 hp hv1 hv2 hv3; (try simp only [b2_0] at *); first | (exfalso; simp_all; done) | (cases v1 <;> cases v2 <;> simp_all [yV]; done)) (rfl)
                · refine s_iload4 hK dX6_why_132 ?_
                  refine s_if_ne (tgt := 141) hK dX6_why_134 (by decide) (fun c_134 => ?_) (fun c_134 => ?_)
                  · refine s_iconst (v := 0) hK dX6_why_141 (by decide) ?_
                    exact s_iret hK hE dX6_why_142 rfl (by clear hE hK i_5 i_6 c_5 hp hv1 hv2 hv3; (try simp only [b2_0] at *); first | (exfalso; simp_all; done) | (cases v1 <;> cases v2 <;> simp_all [yV]; done)) (rfl)
                  · refine s_iconst (v := 5) hK dX6_why_137 (by decide) ?_
                    refine s_goto (tgt := 142) hK dX6_why_138 (by decide) ?_
                    exact s_iret hK hE dX6_why_142 rfl (by clear hE hK i_5 i_6 c_5 hp hv1 hv2 hv3; (try simp only [b2_0] at *); first | (exfalso; simp_all; done) | (cases v1 <;> cases v2 <;> simp_all [yV]; done)) (rfl)
              · refine s_iconst (v := 4) hK dX6_why_125 (by decide) ?_
                exact s_iret hK hE dX6_why_126 rfl (by clear hE hK i_5 i_6 c_5 hp hv1 hv2 hv3; (try simp only [b2_0] at *); first | (exfalso; simp_all; done) | (cases v1 <;> cases v2 <;> simp_all [yV]; done)) (rfl)
          · refine s_iconst (v := 3) hK dX6_why_113 (by decide) ?_
            exact s_iret hK hE dX6_why_114 rfl (by clear hE hK i_5 i_6 c_5 hp hv1 hv2 hv3; (try simp only [b2_0] at *); first | (exfalso; simp_all; done) | (cases v1 <;> cases v2 <;> simp_all [yV]; done)) (rfl)
      · refine s_aload0 hK dX6_why_76 ?_
        refine s_getr (ci := 6) (k := 0) hK rfl rfl i_6 (by decide +kernel) dX6_why_77 (by decide) (by decide) (by decide) rfl rfl (rf_6_0 rfl) ?_
        refine s_getr (ci := 5) (k := 0) hK rfl rfl i_5 (by decide +kernel) dX6_why_80 (by decide) (by decide) (by decide) rfl rfl (rf_5_0 rfl) ?_
        refine s_iload1 hK dX6_why_83 ?_
        refine s_iload2 hK dX6_why_84 ?_
        refine s_aload0 hK dX6_why_85 ?_
        refine s_getr (ci := 6) (k := 0) hK rfl rfl i_6 (by decide +kernel) dX6_why_86 (by decide) (by decide) (by decide) rfl rfl (rf_6_0 rfl) ?_
        refine s_callV (ci := 5) hK mdX5_hardness (zX5_hardness 0 rfl) gX6_why_X5_hardness rfl rfl rfl (by decide) rfl ⟨Nat.le_of_ble_eq_true rfl, Nat.le_of_ble_eq_true rfl⟩ rfl (Nat.le_of_ble_eq_true rfl) dX6_why_89 ?_
        try dsimp only [Option.toList, List.cons_append, List.nil_append]
        refine s_callV (ci := 0) hK mdX0_isWorn (zX0_isWorn 10 x y _ rfl) gX6_why_X0_isWorn rfl rfl rfl (by decide) rfl ⟨Nat.le_of_ble_eq_true rfl, Nat.le_of_ble_eq_true rfl⟩ rfl (Nat.le_of_ble_eq_true rfl) dX6_why_92 ?_
        try dsimp only [Option.toList, List.cons_append, List.nil_append]
        generalize hv4 : wn (iK σ) 10 x y (iK σ 1 3) = v4 at hE ⊢
        refine s_if_eq (tgt := 102) hK dX6_why_95 (by decide) (fun c_95 => ?_) (fun c_95 => ?_)
        · refine s_iconst (v := 2) hK dX6_why_102 (by decide) ?_
          exact s_iret hK hE dX6_why_103 rfl (by clear hE hK i_5 i_6 c_5 hp hv1 hv2 hv3; (try simp only [b2_0] at *); first | (exfalso; simp_all; done) | (cases v1 <;> cases v2 <;> simp_all [yV]; done)) (rfl)
        · refine s_iconst (v := 1) hK dX6_why_98 (by decide) ?_
          refine s_goto (tgt := 103) hK dX6_why_99 (by decide) ?_
          exact s_iret hK hE dX6_why_103 rfl (by clear hE hK i_5 i_6 c_5 hp hv1 hv2 hv3; (try simp only [b2_0] at *); first | (exfalso; simp_all; done) | (cases v1 <;> cases v2 <;> simp_all [yV]; done)) (rfl)
