/-! the law's wears -/
def WR_ (g : aG) (l : Launch) (σ τ : aS) : Prop := CN g l yL_wears wsL_wears 7 156 [.ref 600] σ (some (.int 1)) τ
set_option maxHeartbeats 4000000 in
set_option maxRecDepth 100000 in
theorem we_a {g : aG} {l : Launch} {q W1 D0 : Int32} {σ S : aS} (pl : CN g l yX6_printsLeft wsX6_printsLeft 5 113 [.ref 600] σ (some (.int q)) S) (k15 : CN g l yX6_count wsX6_count 4 87 [.ref 600, .int 15] S (some (.int W1)) S) (k1 : CN g l yX6_count wsX6_count 4 87 [.ref 600, .int 1] S (some (.int D0)) S) (hq : q < 0 ∨ ¬ q ≤ 12) : WR_ g l σ S := by
  unfold WR_
  refine cn_of (cc := cL_wears) (nL := 7) (ret := (some .boolean)) (own := RL) (by decide +kernel) rfl rfl (Nat.le_of_ble_eq_true rfl) (fun K hg hl hK hE => ?_)
  subst hg; subst hl
  show AW K 0 [some (.ref 600), none, none, none, none, none, none] [] σ
  refine s_aload0 hK dL_wears_0 ?_
  refine s_callV (ci := 6) hK mdX6_printsLeft (pl) gL_wears_X6_printsLeft rfl rfl rfl (by decide) rfl ⟨Nat.le_of_ble_eq_true rfl, Nat.le_of_ble_eq_true rfl⟩ rfl (Nat.le_of_ble_eq_true rfl) dL_wears_1 ?_
  try dsimp only [Option.toList, List.cons_append, List.nil_append]
  refine s_istore1 hK dL_wears_4 ?_
  refine s_aload0 hK dL_wears_5 ?_
  refine s_bipush (v := 15) hK dL_wears_6 (by decide) ?_
  refine s_callV (ci := 6) hK mdX6_count (k15) gL_wears_X6_count rfl rfl rfl (by decide) rfl ⟨Nat.le_of_ble_eq_true rfl, Nat.le_of_ble_eq_true rfl⟩ rfl (Nat.le_of_ble_eq_true rfl) dL_wears_8 ?_
  try dsimp only [Option.toList, List.cons_append, List.nil_append]
  refine s_istore2 hK dL_wears_11 ?_
  refine s_aload0 hK dL_wears_12 ?_
  refine s_iconst (v := 1) hK dL_wears_13 (by decide) ?_
  refine s_callV (ci := 6) hK mdX6_count (k1) gL_wears_X6_count rfl rfl rfl (by decide) rfl ⟨Nat.le_of_ble_eq_true rfl, Nat.le_of_ble_eq_true rfl⟩ rfl (Nat.le_of_ble_eq_true rfl) dL_wears_14 ?_
  try dsimp only [Option.toList, List.cons_append, List.nil_append]
  refine s_istore3 hK dL_wears_17 ?_
  refine s_iload1 hK dL_wears_18 ?_
  refine s_if_lt (tgt := 28) hK dL_wears_19 (by decide) (fun c_19 => ?_) (fun c_19 => ?_)
  · refine s_iconst (v := 1) hK dL_wears_28 (by decide) ?_
    exact s_iret hK hE dL_wears_29 (by decide) (rfl) (rfl)
  · refine s_iload1 hK dL_wears_22 ?_
    refine s_bipush (v := 12) hK dL_wears_23 (by decide) ?_
    refine s_icmp_le (tgt := 30) hK dL_wears_25 (by decide) (fun c_25 => absurd c_25 (hq.resolve_left c_19)) (fun c_25 => ?_)
    refine s_iconst (v := 1) hK dL_wears_28 (by decide) ?_
    exact s_iret hK hE dL_wears_29 (by decide) (rfl) (rfl)
set_option maxHeartbeats 4000000 in
set_option maxRecDepth 100000 in
theorem we_1 {g : aG} {l : Launch} {q W1 D0 D1 G1 R W2 D2 N : Int32} {σ U V Z : aS} (pl : CN g l yX6_printsLeft wsX6_printsLeft 5 113 [.ref 600] σ (some (.int q)) U) (k15 : CN g l yX6_count wsX6_count 4 87 [.ref 600, .int 15] U (some (.int W1)) U) (k1 : CN g l yX6_count wsX6_count 4 87 [.ref 600, .int 1] U (some (.int D0)) U) (h0 : ¬ q < 0) (h12 : q ≤ 12) (h1 : q ≤ 1) (e1 : CN g l yX6_count wsX6_count 4 87 [.ref 600, .int 1] U (some (.int D1)) U) (e2 : CN g l yX6_print wsX6_print 6 133 [.ref 600, .int 1] U (some (.int G1)) V) (e3 : CN g l yX6_count wsX6_count 4 87 [.ref 600, .int 5] V (some (.int R)) V) (e4 : ¬ D0 < D1) (e5 : CN g l yX6_proof wsX6_proof 2 45 [.ref 600, .int 0, .int 3] V (some (.int G1)) V) (e6 : CN g l yX6_count wsX6_count 4 87 [.ref 600, .int 15] V (some (.int W2)) Z) (e7 : ¬ W2 ≤ W1) (e8 : CN g l yX6_count wsX6_count 4 87 [.ref 600, .int 1] Z (some (.int D2)) Z) (e9 : (0 ≤ D1 - R → D1 - R = D2) ∧ (¬ 0 ≤ D1 - R → 0 = D2)) (e10 : CN g l yX6_proof wsX6_proof 2 45 [.ref 600, .int 0, .int 0] Z (some (.int N)) Z) (e11 : CN g l yX6_count wsX6_count 4 87 [.ref 600, .int 0] Z (some (.int N)) Z) : WR_ g l σ Z := by
  unfold WR_
  refine cn_of (cc := cL_wears) (nL := 7) (ret := (some .boolean)) (own := RL) (by decide +kernel) rfl rfl (Nat.le_of_ble_eq_true rfl) (fun K hg hl hK hE => ?_)
  subst hg; subst hl
  show AW K 0 [some (.ref 600), none, none, none, none, none, none] [] σ
  refine s_aload0 hK dL_wears_0 ?_
  refine s_callV (ci := 6) hK mdX6_printsLeft (pl) gL_wears_X6_printsLeft rfl rfl rfl (by decide) rfl ⟨Nat.le_of_ble_eq_true rfl, Nat.le_of_ble_eq_true rfl⟩ rfl (Nat.le_of_ble_eq_true rfl) dL_wears_1 ?_
  try dsimp only [Option.toList, List.cons_append, List.nil_append]
  refine s_istore1 hK dL_wears_4 ?_
  refine s_aload0 hK dL_wears_5 ?_
  refine s_bipush (v := 15) hK dL_wears_6 (by decide) ?_
  refine s_callV (ci := 6) hK mdX6_count (k15) gL_wears_X6_count rfl rfl rfl (by decide) rfl ⟨Nat.le_of_ble_eq_true rfl, Nat.le_of_ble_eq_true rfl⟩ rfl (Nat.le_of_ble_eq_true rfl) dL_wears_8 ?_
  try dsimp only [Option.toList, List.cons_append, List.nil_append]
  refine s_istore2 hK dL_wears_11 ?_
  refine s_aload0 hK dL_wears_12 ?_
  refine s_iconst (v := 1) hK dL_wears_13 (by decide) ?_
  refine s_callV (ci := 6) hK mdX6_count (k1) gL_wears_X6_count rfl rfl rfl (by decide) rfl ⟨Nat.le_of_ble_eq_true rfl, Nat.le_of_ble_eq_true rfl⟩ rfl (Nat.le_of_ble_eq_true rfl) dL_wears_14 ?_
  try dsimp only [Option.toList, List.cons_append, List.nil_append]
  refine s_istore3 hK dL_wears_17 ?_
  refine s_iload1 hK dL_wears_18 ?_
  refine s_if_lt (tgt := 28) hK dL_wears_19 (by decide) (fun c_19 => absurd c_19 h0) (fun c_19 => ?_)
  refine s_iload1 hK dL_wears_22 ?_
  refine s_bipush (v := 12) hK dL_wears_23 (by decide) ?_
  refine s_icmp_le (tgt := 30) hK dL_wears_25 (by decide) (fun c_25 => ?_) (fun c_25 => absurd c_25 (fun z => z h12))
  refine s_iload1 hK dL_wears_30 ?_
  refine s_iconst (v := 1) hK dL_wears_31 (by decide) ?_
  refine s_icmp_le (tgt := 57) hK dL_wears_32 (by decide) (fun c_32 => ?_) (fun c_32 => absurd c_32 (fun z => z h1))
  refine s_aload0 hK dL_wears_57 ?_
  refine s_iconst (v := 1) hK dL_wears_58 (by decide) ?_
  refine s_callV (ci := 6) hK mdX6_count (e1) gL_wears_X6_count rfl rfl rfl (by decide) rfl ⟨Nat.le_of_ble_eq_true rfl, Nat.le_of_ble_eq_true rfl⟩ rfl (Nat.le_of_ble_eq_true rfl) dL_wears_59 ?_
  try dsimp only [Option.toList, List.cons_append, List.nil_append]
  refine s_istore4 hK dL_wears_62 ?_
  refine s_aload0 hK dL_wears_64 ?_
  refine s_iconst (v := 1) hK dL_wears_65 (by decide) ?_
  refine s_callV (ci := 6) hK mdX6_print (e2) gL_wears_X6_print rfl rfl rfl (by decide) rfl ⟨Nat.le_of_ble_eq_true rfl, Nat.le_of_ble_eq_true rfl⟩ rfl (Nat.le_of_ble_eq_true rfl) dL_wears_66 ?_
  try dsimp only [Option.toList, List.cons_append, List.nil_append]
  refine s_istore5 hK dL_wears_69 ?_
  refine s_iload4 hK dL_wears_71 ?_
  refine s_aload0 hK dL_wears_73 ?_
  refine s_iconst (v := 5) hK dL_wears_74 (by decide) ?_
  refine s_callV (ci := 6) hK mdX6_count (e3) gL_wears_X6_count rfl rfl rfl (by decide) rfl ⟨Nat.le_of_ble_eq_true rfl, Nat.le_of_ble_eq_true rfl⟩ rfl (Nat.le_of_ble_eq_true rfl) dL_wears_75 ?_
  try dsimp only [Option.toList, List.cons_append, List.nil_append]
  refine s_isub hK dL_wears_78 ?_
  refine s_istore6 hK dL_wears_79 ?_
  refine s_iload4 hK dL_wears_81 ?_
  refine s_iload3 hK dL_wears_83 ?_
  refine s_icmp_gt (tgt := 145) hK dL_wears_84 (by decide) (fun c_84 => absurd c_84 e4) (fun c_84 => ?_)
  refine s_iload5 hK dL_wears_87 ?_
  refine s_aload0 hK dL_wears_89 ?_
  refine s_iconst (v := 0) hK dL_wears_90 (by decide) ?_
  refine s_iconst (v := 3) hK dL_wears_91 (by decide) ?_
  refine s_callV (ci := 6) hK mdX6_proof (e5) gL_wears_X6_proof rfl rfl rfl (by decide) rfl ⟨Nat.le_of_ble_eq_true rfl, Nat.le_of_ble_eq_true rfl⟩ rfl (Nat.le_of_ble_eq_true rfl) dL_wears_92 ?_
  try dsimp only [Option.toList, List.cons_append, List.nil_append]
  refine s_icmp_ne (tgt := 145) hK dL_wears_95 (by decide) (fun c_95 => absurd c_95 (fun q => q rfl)) (fun c_95 => ?_)
  refine s_aload0 hK dL_wears_98 ?_
  refine s_bipush (v := 15) hK dL_wears_99 (by decide) ?_
  refine s_callV (ci := 6) hK mdX6_count (e6) gL_wears_X6_count rfl rfl rfl (by decide) rfl ⟨Nat.le_of_ble_eq_true rfl, Nat.le_of_ble_eq_true rfl⟩ rfl (Nat.le_of_ble_eq_true rfl) dL_wears_101 ?_
  try dsimp only [Option.toList, List.cons_append, List.nil_append]
  refine s_iload2 hK dL_wears_104 ?_
  refine s_icmp_le (tgt := 145) hK dL_wears_105 (by decide) (fun c_105 => absurd c_105 e7) (fun c_105 => ?_)
  refine s_aload0 hK dL_wears_108 ?_
  refine s_iconst (v := 1) hK dL_wears_109 (by decide) ?_
  refine s_callV (ci := 6) hK mdX6_count (e8) gL_wears_X6_count rfl rfl rfl (by decide) rfl ⟨Nat.le_of_ble_eq_true rfl, Nat.le_of_ble_eq_true rfl⟩ rfl (Nat.le_of_ble_eq_true rfl) dL_wears_110 ?_
  try dsimp only [Option.toList, List.cons_append, List.nil_append]
  refine AW.cut (j := 124) (v := D2) (fun hJ_124 => ?_) ?_
  · refine s_iload6 hK dL_wears_113 ?_
    refine s_if_ge (tgt := 122) hK dL_wears_115 (by decide) (fun c_115 => ?_) (fun c_115 => ?_)
    · refine s_iload6 hK dL_wears_122 ?_
      exact AW.vv hJ_124 (by first | exact e9.1 c_115 | exact e9.2 c_115)
    · refine s_iconst (v := 0) hK dL_wears_118 (by decide) ?_
      refine s_goto (tgt := 124) hK dL_wears_119 (by decide) ?_
      exact AW.vv hJ_124 (by first | exact e9.1 c_115 | exact e9.2 c_115)
  show AW K _ _ _ _
  refine s_icmp_ne (tgt := 145) hK dL_wears_124 (by decide) (fun c_124 => absurd c_124 (fun q => q rfl)) (fun c_124 => ?_)
  refine s_aload0 hK dL_wears_127 ?_
  refine s_iconst (v := 0) hK dL_wears_128 (by decide) ?_
  refine s_iconst (v := 0) hK dL_wears_129 (by decide) ?_
  refine s_callV (ci := 6) hK mdX6_proof (e10) gL_wears_X6_proof rfl rfl rfl (by decide) rfl ⟨Nat.le_of_ble_eq_true rfl, Nat.le_of_ble_eq_true rfl⟩ rfl (Nat.le_of_ble_eq_true rfl) dL_wears_130 ?_
  try dsimp only [Option.toList, List.cons_append, List.nil_append]
  refine s_aload0 hK dL_wears_133 ?_
  refine s_iconst (v := 0) hK dL_wears_134 (by decide) ?_
  refine s_callV (ci := 6) hK mdX6_count (e11) gL_wears_X6_count rfl rfl rfl (by decide) rfl ⟨Nat.le_of_ble_eq_true rfl, Nat.le_of_ble_eq_true rfl⟩ rfl (Nat.le_of_ble_eq_true rfl) dL_wears_135 ?_
  try dsimp only [Option.toList, List.cons_append, List.nil_append]
  refine s_icmp_ne (tgt := 145) hK dL_wears_138 (by decide) (fun c_138 => absurd c_138 (fun q => q rfl)) (fun c_138 => ?_)
  refine s_iconst (v := 1) hK dL_wears_141 (by decide) ?_
  refine s_goto (tgt := 146) hK dL_wears_142 (by decide) ?_
  exact s_iret hK hE dL_wears_146 (by decide) (rfl) (rfl)
set_option maxHeartbeats 4000000 in
set_option maxRecDepth 100000 in
theorem we_n {g : aG} {l : Launch} {q W1 D0 D1 G0 G1 R W2 D2 N : Int32} {σ S T U V Z : aS} (pl : CN g l yX6_printsLeft wsX6_printsLeft 5 113 [.ref 600] σ (some (.int q)) S) (k15 : CN g l yX6_count wsX6_count 4 87 [.ref 600, .int 15] S (some (.int W1)) S) (k1 : CN g l yX6_count wsX6_count 4 87 [.ref 600, .int 1] S (some (.int D0)) S) (h0 : ¬ q < 0) (h12 : q ≤ 12) (h1 : ¬ q ≤ 1) (p1 : CN g l yX6_print wsX6_print 6 133 [.ref 600, .int (q - 1)] S (some (.int G0)) T) (hG : ¬ G0 < 0) (p2 : CN g l yX6_count wsX6_count 4 87 [.ref 600, .int 15] T (some (.int W1)) U) (e1 : CN g l yX6_count wsX6_count 4 87 [.ref 600, .int 1] U (some (.int D1)) U) (e2 : CN g l yX6_print wsX6_print 6 133 [.ref 600, .int 1] U (some (.int G1)) V) (e3 : CN g l yX6_count wsX6_count 4 87 [.ref 600, .int 5] V (some (.int R)) V) (e4 : ¬ D0 < D1) (e5 : CN g l yX6_proof wsX6_proof 2 45 [.ref 600, .int 0, .int 3] V (some (.int G1)) V) (e6 : CN g l yX6_count wsX6_count 4 87 [.ref 600, .int 15] V (some (.int W2)) Z) (e7 : ¬ W2 ≤ W1) (e8 : CN g l yX6_count wsX6_count 4 87 [.ref 600, .int 1] Z (some (.int D2)) Z) (e9 : (0 ≤ D1 - R → D1 - R = D2) ∧ (¬ 0 ≤ D1 - R → 0 = D2)) (e10 : CN g l yX6_proof wsX6_proof 2 45 [.ref 600, .int 0, .int 0] Z (some (.int N)) Z) (e11 : CN g l yX6_count wsX6_count 4 87 [.ref 600, .int 0] Z (some (.int N)) Z) : WR_ g l σ Z := by
  unfold WR_
  refine cn_of (cc := cL_wears) (nL := 7) (ret := (some .boolean)) (own := RL) (by decide +kernel) rfl rfl (Nat.le_of_ble_eq_true rfl) (fun K hg hl hK hE => ?_)
  subst hg; subst hl
  show AW K 0 [some (.ref 600), none, none, none, none, none, none] [] σ
  refine s_aload0 hK dL_wears_0 ?_
  refine s_callV (ci := 6) hK mdX6_printsLeft (pl) gL_wears_X6_printsLeft rfl rfl rfl (by decide) rfl ⟨Nat.le_of_ble_eq_true rfl, Nat.le_of_ble_eq_true rfl⟩ rfl (Nat.le_of_ble_eq_true rfl) dL_wears_1 ?_
  try dsimp only [Option.toList, List.cons_append, List.nil_append]
  refine s_istore1 hK dL_wears_4 ?_
  refine s_aload0 hK dL_wears_5 ?_
  refine s_bipush (v := 15) hK dL_wears_6 (by decide) ?_
  refine s_callV (ci := 6) hK mdX6_count (k15) gL_wears_X6_count rfl rfl rfl (by decide) rfl ⟨Nat.le_of_ble_eq_true rfl, Nat.le_of_ble_eq_true rfl⟩ rfl (Nat.le_of_ble_eq_true rfl) dL_wears_8 ?_
  try dsimp only [Option.toList, List.cons_append, List.nil_append]
  refine s_istore2 hK dL_wears_11 ?_
  refine s_aload0 hK dL_wears_12 ?_
  refine s_iconst (v := 1) hK dL_wears_13 (by decide) ?_
  refine s_callV (ci := 6) hK mdX6_count (k1) gL_wears_X6_count rfl rfl rfl (by decide) rfl ⟨Nat.le_of_ble_eq_true rfl, Nat.le_of_ble_eq_true rfl⟩ rfl (Nat.le_of_ble_eq_true rfl) dL_wears_14 ?_
  try dsimp only [Option.toList, List.cons_append, List.nil_append]
  refine s_istore3 hK dL_wears_17 ?_
  refine s_iload1 hK dL_wears_18 ?_
  refine s_if_lt (tgt := 28) hK dL_wears_19 (by decide) (fun c_19 => absurd c_19 h0) (fun c_19 => ?_)
  refine s_iload1 hK dL_wears_22 ?_
  refine s_bipush (v := 12) hK dL_wears_23 (by decide) ?_
  refine s_icmp_le (tgt := 30) hK dL_wears_25 (by decide) (fun c_25 => ?_) (fun c_25 => absurd c_25 (fun z => z h12))
  refine s_iload1 hK dL_wears_30 ?_
  refine s_iconst (v := 1) hK dL_wears_31 (by decide) ?_
  refine s_icmp_le (tgt := 57) hK dL_wears_32 (by decide) (fun c_32 => absurd c_32 h1) (fun c_32 => ?_)
  refine s_aload0 hK dL_wears_35 ?_
  refine s_iload1 hK dL_wears_36 ?_
  refine s_iconst (v := 1) hK dL_wears_37 (by decide) ?_
  refine s_isub hK dL_wears_38 ?_
  refine s_callV (ci := 6) hK mdX6_print (p1) gL_wears_X6_print rfl rfl rfl (by decide) rfl ⟨Nat.le_of_ble_eq_true rfl, Nat.le_of_ble_eq_true rfl⟩ rfl (Nat.le_of_ble_eq_true rfl) dL_wears_39 ?_
  try dsimp only [Option.toList, List.cons_append, List.nil_append]
  refine s_if_lt (tgt := 55) hK dL_wears_42 (by decide) (fun c_42 => absurd c_42 hG) (fun c_42 => ?_)
  refine s_aload0 hK dL_wears_45 ?_
  refine s_bipush (v := 15) hK dL_wears_46 (by decide) ?_
  refine s_callV (ci := 6) hK mdX6_count (p2) gL_wears_X6_count rfl rfl rfl (by decide) rfl ⟨Nat.le_of_ble_eq_true rfl, Nat.le_of_ble_eq_true rfl⟩ rfl (Nat.le_of_ble_eq_true rfl) dL_wears_48 ?_
  try dsimp only [Option.toList, List.cons_append, List.nil_append]
  refine s_iload2 hK dL_wears_51 ?_
  refine s_icmp_eq (tgt := 57) hK dL_wears_52 (by decide) (fun c_52 => ?_) (fun c_52 => absurd c_52 (fun q => q rfl))
  refine s_aload0 hK dL_wears_57 ?_
  refine s_iconst (v := 1) hK dL_wears_58 (by decide) ?_
  refine s_callV (ci := 6) hK mdX6_count (e1) gL_wears_X6_count rfl rfl rfl (by decide) rfl ⟨Nat.le_of_ble_eq_true rfl, Nat.le_of_ble_eq_true rfl⟩ rfl (Nat.le_of_ble_eq_true rfl) dL_wears_59 ?_
  try dsimp only [Option.toList, List.cons_append, List.nil_append]
  refine s_istore4 hK dL_wears_62 ?_
  refine s_aload0 hK dL_wears_64 ?_
  refine s_iconst (v := 1) hK dL_wears_65 (by decide) ?_
  refine s_callV (ci := 6) hK mdX6_print (e2) gL_wears_X6_print rfl rfl rfl (by decide) rfl ⟨Nat.le_of_ble_eq_true rfl, Nat.le_of_ble_eq_true rfl⟩ rfl (Nat.le_of_ble_eq_true rfl) dL_wears_66 ?_
  try dsimp only [Option.toList, List.cons_append, List.nil_append]
  refine s_istore5 hK dL_wears_69 ?_
  refine s_iload4 hK dL_wears_71 ?_
  refine s_aload0 hK dL_wears_73 ?_
  refine s_iconst (v := 5) hK dL_wears_74 (by decide) ?_
  refine s_callV (ci := 6) hK mdX6_count (e3) gL_wears_X6_count rfl rfl rfl (by decide) rfl ⟨Nat.le_of_ble_eq_true rfl, Nat.le_of_ble_eq_true rfl⟩ rfl (Nat.le_of_ble_eq_true rfl) dL_wears_75 ?_
  try dsimp only [Option.toList, List.cons_append, List.nil_append]
  refine s_isub hK dL_wears_78 ?_
  refine s_istore6 hK dL_wears_79 ?_
  refine s_iload4 hK dL_wears_81 ?_
  refine s_iload3 hK dL_wears_83 ?_
  refine s_icmp_gt (tgt := 145) hK dL_wears_84 (by decide) (fun c_84 => absurd c_84 e4) (fun c_84 => ?_)
  refine s_iload5 hK dL_wears_87 ?_
  refine s_aload0 hK dL_wears_89 ?_
  refine s_iconst (v := 0) hK dL_wears_90 (by decide) ?_
  refine s_iconst (v := 3) hK dL_wears_91 (by decide) ?_
  refine s_callV (ci := 6) hK mdX6_proof (e5) gL_wears_X6_proof rfl rfl rfl (by decide) rfl ⟨Nat.le_of_ble_eq_true rfl, Nat.le_of_ble_eq_true rfl⟩ rfl (Nat.le_of_ble_eq_true rfl) dL_wears_92 ?_
  try dsimp only [Option.toList, List.cons_append, List.nil_append]
  refine s_icmp_ne (tgt := 145) hK dL_wears_95 (by decide) (fun c_95 => absurd c_95 (fun q => q rfl)) (fun c_95 => ?_)
  refine s_aload0 hK dL_wears_98 ?_
  refine s_bipush (v := 15) hK dL_wears_99 (by decide) ?_
  refine s_callV (ci := 6) hK mdX6_count (e6) gL_wears_X6_count rfl rfl rfl (by decide) rfl ⟨Nat.le_of_ble_eq_true rfl, Nat.le_of_ble_eq_true rfl⟩ rfl (Nat.le_of_ble_eq_true rfl) dL_wears_101 ?_
  try dsimp only [Option.toList, List.cons_append, List.nil_append]
  refine s_iload2 hK dL_wears_104 ?_
  refine s_icmp_le (tgt := 145) hK dL_wears_105 (by decide) (fun c_105 => absurd c_105 e7) (fun c_105 => ?_)
  refine s_aload0 hK dL_wears_108 ?_
  refine s_iconst (v := 1) hK dL_wears_109 (by decide) ?_
  refine s_callV (ci := 6) hK mdX6_count (e8) gL_wears_X6_count rfl rfl rfl (by decide) rfl ⟨Nat.le_of_ble_eq_true rfl, Nat.le_of_ble_eq_true rfl⟩ rfl (Nat.le_of_ble_eq_true rfl) dL_wears_110 ?_
  try dsimp only [Option.toList, List.cons_append, List.nil_append]
  refine AW.cut (j := 124) (v := D2) (fun hJ_124 => ?_) ?_
  · refine s_iload6 hK dL_wears_113 ?_
    refine s_if_ge (tgt := 122) hK dL_wears_115 (by decide) (fun c_115 => ?_) (fun c_115 => ?_)
    · refine s_iload6 hK dL_wears_122 ?_
      exact AW.vv hJ_124 (by first | exact e9.1 c_115 | exact e9.2 c_115)
    · refine s_iconst (v := 0) hK dL_wears_118 (by decide) ?_
      refine s_goto (tgt := 124) hK dL_wears_119 (by decide) ?_
      exact AW.vv hJ_124 (by first | exact e9.1 c_115 | exact e9.2 c_115)
  show AW K _ _ _ _
  refine s_icmp_ne (tgt := 145) hK dL_wears_124 (by decide) (fun c_124 => absurd c_124 (fun q => q rfl)) (fun c_124 => ?_)
  refine s_aload0 hK dL_wears_127 ?_
  refine s_iconst (v := 0) hK dL_wears_128 (by decide) ?_
  refine s_iconst (v := 0) hK dL_wears_129 (by decide) ?_
  refine s_callV (ci := 6) hK mdX6_proof (e10) gL_wears_X6_proof rfl rfl rfl (by decide) rfl ⟨Nat.le_of_ble_eq_true rfl, Nat.le_of_ble_eq_true rfl⟩ rfl (Nat.le_of_ble_eq_true rfl) dL_wears_130 ?_
  try dsimp only [Option.toList, List.cons_append, List.nil_append]
  refine s_aload0 hK dL_wears_133 ?_
  refine s_iconst (v := 0) hK dL_wears_134 (by decide) ?_
  refine s_callV (ci := 6) hK mdX6_count (e11) gL_wears_X6_count rfl rfl rfl (by decide) rfl ⟨Nat.le_of_ble_eq_true rfl, Nat.le_of_ble_eq_true rfl⟩ rfl (Nat.le_of_ble_eq_true rfl) dL_wears_135 ?_
  try dsimp only [Option.toList, List.cons_append, List.nil_append]
  refine s_icmp_ne (tgt := 145) hK dL_wears_138 (by decide) (fun c_138 => absurd c_138 (fun q => q rfl)) (fun c_138 => ?_)
  refine s_iconst (v := 1) hK dL_wears_141 (by decide) ?_
  refine s_goto (tgt := 146) hK dL_wears_142 (by decide) ?_
  exact s_iret hK hE dL_wears_146 (by decide) (rfl) (rfl)
/-- the last print: what is asked of it -/
theorem last_print {g : aG} {l : Launch} {P nx sz h q j : Nat} {S U : aS} (hU : IV P nx sz U) (hP : P + 1 ≤ 5000) (hSS : iK S = S) (hG : Gst P S) (hh : S 1 3 = nI h) (hh2 : h ≤ 1000) (hx : WS S (q - 1) U) (hq : 1 ≤ q) (hq2 : q ≤ 12) (hi : ∀ j, j < 192 → px (iK U) 611 j = px S 611 j) (hj : j < 192) (h1 : px S 611 j = true) (h2 : h < wN S j + q * eN S j) :
    ∃ (G1 R W2 D2 N : Int32) (V Z : aS), CN g l yX6_print wsX6_print 6 133 [.ref 600, .int 1] U (some (.int G1)) V ∧ CN g l yX6_count wsX6_count 4 87 [.ref 600, .int 5] V (some (.int R)) V ∧ ¬ S 1 0 < U 1 0 ∧ CN g l yX6_proof wsX6_proof 2 45 [.ref 600, .int 0, .int 3] V (some (.int G1)) V ∧ CN g l yX6_count wsX6_count 4 87 [.ref 600, .int 15] V (some (.int W2)) Z ∧ ¬ W2 ≤ wC S ∧ CN g l yX6_count wsX6_count 4 87 [.ref 600, .int 1] Z (some (.int D2)) Z ∧ ((0 ≤ U 1 0 - R → U 1 0 - R = D2) ∧ (¬ 0 ≤ U 1 0 - R → 0 = D2)) ∧ CN g l yX6_proof wsX6_proof 2 45 [.ref 600, .int 0, .int 0] Z (some (.int N)) Z ∧ CN g l yX6_count wsX6_count 4 87 [.ref 600, .int 0] Z (some (.int N)) Z := by
  have hw : ∀ j, j < 192 → S 19 j = nI (wN S j) := fun j hj => (wN_at hG hj).2
  obtain ⟨v, hv⟩ := hU.2.1.2.1
  obtain ⟨pn, la, ls, p1, p2, p3, p4, p5, p6⟩ := hU.2.1.2.2.1
  obtain ⟨c1, c2, _⟩ := print_ok (g := g) (l := l) hU (show 1 ≤ 1 by omega) (by omega) hP p2 p6
  have ek : ∀ o, o < 40 → kp U nx o = U o := fun o ho => kp_lo (by omega)
  have eV : pS (kp U nx) la 1 = mP (kp U nx) la := by
    show mP (kp U nx) ((la + 0) % 12) = _
    rw [Nat.add_zero, Nat.mod_eq_of_lt p2]
  have eG : pG (kp U nx) la 1 = mPg (kp U nx) := by
    show 0 + mPg (kp U nx) = _
    rw [Int32.zero_add]
  rw [eG, eV, show nI 1 = (1 : Int32) from rfl] at c1
  rw [eV] at c2
  have hk : WS S (q - 1) (kp U nx) := WS_eq hx (ek 1 (by decide)) (ek 17 (by decide)) (ek 19 (by decide))
  have hik : ∀ j, j < 192 → px (iK (kp U nx)) 611 j = px S 611 j := fun j hj => by
    rw [← hi j hj, iK_px _ hj, iK_px _ hj]
    unfold px
    rw [ek 17 (by decide), ek 19 (by decide), ek 1 (by decide)]
  have hV := WS_mP (la := la) (Gst_kp (nx := nx) hU.2.1) hk hik
  rw [show q - 1 + 1 = q by omega] at hV
  have v2 := mP_2 (kp U nx) la
  rw [ek 2 (by decide), p5, log_up _ p3] at v2
  have v3 := mP_3 (kp U nx) la
  have v0 : mP (kp U nx) la 0 5 = kp U nx 0 5 + 1 := by rw [mP_0, pk_us]
  have v1 := mP_1 (kp U nx) la
  rw [ek 1 (by decide)] at v1
  generalize hVd : mP (kp U nx) la = V at *
  have hl2 : 0 < min (ls + 1) 12 := by omega
  have pr : ∀ wh, wh < 6 → CN g l yX6_proof wsX6_proof 2 45 [.ref 600, .int 0, .int (nI wh)] V (some (.int (V 3 ((la + 1) % 12 * 6 + wh)))) V := by
    intro wh hwh
    have q := zX6_proof_ok (g := g) (l := l) (σ := V) ((la + 1) % 12) 0 wh (by omega) v2.2 (by decide) hwh (by rw [v2.1]; exact nI_lt hl2 (by omega))
    rw [show ((la + 1) % 12 + 12 - 0) % 12 = (la + 1) % 12 by omega] at q
    exact q
  have prZ : ∀ wh, wh < 6 → CN g l yX6_proof wsX6_proof 2 45 [.ref 600, .int 0, .int (nI wh)] (iK V) (some (.int (V 3 ((la + 1) % 12 * 6 + wh)))) (iK V) := by
    intro wh hwh
    have q := zX6_proof_ok (g := g) (l := l) (σ := iK V) ((la + 1) % 12) 0 wh (by omega) (by rw [iK_ne (by decide)]; exact v2.2) (by decide) hwh (by rw [iK_ne (by decide), v2.1]; exact nI_lt hl2 (by omega))
    rw [show ((la + 1) % 12 + 12 - 0) % 12 = (la + 1) % 12 by omega, iK_ne (by decide)] at q
    exact q
  have r3 := pr 3 (by decide)
  have r0 := prZ 0 (by decide)
  have x3 : V 3 ((la + 1) % 12 * 6 + 3) = mPg (kp U nx) := by
    rw [v3, pk_un (by omega), pk_un (by omega), pk_us]
  have x0 : V 3 ((la + 1) % 12 * 6 + 0) = kp U nx 0 5 + 1 := by
    show V 3 ((la + 1) % 12 * 6) = kp U nx 0 5 + 1
    rw [v3, pk_un (by omega), pk_un (by omega), pk_un (by omega), pk_un (by omega), pk_un (by omega), pk_us]
  rw [x3] at r3
  rw [x0] at r0
  have cnt1 := zX6_count_1 (g := g) (l := l) (σ := iK V)
  have cnt0 := zX6_count_0 (g := g) (l := l) (σ := iK V)
  rw [iK_ne (by decide)] at cnt1
  rw [iK_ne (by decide), v0] at cnt0
  obtain ⟨_, ⟨d, d0, a1, a2, a3, a4⟩, _⟩ := hx
  have hb : wN S j + q * eN S j < 100000 := by
    have w1 := (wN_at hG hj).1
    have e1 := (eN_at S j).2.1
    have m1 : q * eN S j ≤ 12 * 5 := Nat.mul_le_mul hq2 e1
    omega
  have a5 := hv.1 4 (by decide)
  obtain ⟨r, _, hr, er⟩ := wi_nat (lo := 0) (hi := 10) (by decide) (by decide) a5.2
  have er : U 1 4 = nI r := a5.1.trans er
  have e14 : V 1 4 = nI r := by rw [v1, pk_un (by decide), er]
  have e10 : V 1 0 = (if 0 < U 1 0 - U 1 4 then U 1 0 - U 1 4 else 0) := by rw [v1, pk_us]
  have key := (show ∀ d, d ≤ 100 → ∀ r, r ≤ 10 → (0 ≤ nI d - nI r → nI d - nI r = (if 0 < nI d - nI r then nI d - nI r else 0)) ∧ (¬ 0 ≤ nI d - nI r → 0 = (if 0 < nI d - nI r then nI d - nI r else 0)) by decide +kernel) d (by omega) r hr
  have c5 := zX6_count_5 (g := g) (l := l) (σ := V)
  rw [e14] at c5
  rw [e10, a2, er] at cnt1
  refine ⟨_, _, _, _, _, V, iK V, c1, c5, ?_, r3, zX6_count_15 (IV_WB c2), wC_more hSS hh hh2 hw hV hj h1 hb h2, cnt1, ?_, r0, cnt0⟩
  · rw [a1, a2]
    exact nI_nlt a3 (by omega)
  · rw [a2]
    exact key
theorem zL_wears {g : aG} {l : Launch} {σ : aS} {P nx sz : Nat} (h : IV P nx sz σ) (hP : P + 13 ≤ 5000) : ∃ τ : aS, WR_ g l σ τ := by
  obtain ⟨S, hS⟩ : ∃ S, S = iK σ := ⟨_, rfl⟩
  have hSS : iK S = S := by rw [hS, iK_iK]
  have hI : IV P nx sz S := by rw [hS]; exact IV_iK h
  have hW := IV_WB hI
  have hG := hI.2.1
  obtain ⟨hd, _, hh2, hh⟩ := hard_nI hG
  have hw : ∀ j, j < 192 → S 19 j = nI (wN S j) := fun j hj => (wN_at hG hj).2
  have hi0 : ∀ j, j < 192 → px S 611 j = true → wN S j ≤ hd := by
    intro j hj hp
    have b := iK_px S hj
    rw [hSS, hp] at b
    have b := b.symm
    rw [Bool.and_eq_true] at b
    have c := of_decide_eq_true b.2
    rw [hw j hj, hh] at c
    exact (nI_leI (by have := (wN_at hG hj).1; omega) (by omega)).mp c
  obtain ⟨q, eq, q1, q2, q3, q4⟩ := pW_spec hG hh2 hi0 192 (Nat.le_refl _)
  have pl := zX6_printsLeft (g := g) (l := l) (σ := σ)
  rw [← hS, hh, eq] at pl
  have k15 := zX6_count_15 (g := g) (l := l) hW
  rw [hSS] at k15
  have k1 := zX6_count_1 (g := g) (l := l) (σ := S)
  by_cases c5 : (500 : Int32) < nI q
  · rw [if_pos c5] at pl
    exact ⟨_, we_a pl k15 k1 (Or.inl (by decide))⟩
  · rw [if_neg c5] at pl
    by_cases c12 : q ≤ 12
    · rcases q4 with z | ⟨j, hj, h1, ej⟩
      · omega
      · have e1 := (eN_at S j).1
        have hlast : hd < wN S j + q * eN S j := by
          have a := Nat.div_add_mod (hd - wN S j) (eN S j)
          have b := Nat.mod_lt (hd - wN S j) (show 0 < eN S j by omega)
          have c : ((hd - wN S j) / eN S j + 1) * eN S j = eN S j * ((hd - wN S j) / eN S j) + eN S j := by rw [Nat.succ_mul, Nat.mul_comm]
          rw [ej, c]
          have := hi0 j hj h1
          omega
        have hq : ∀ k, k < q → ∀ j, j < 192 → px S 611 j = true → wN S j + k * eN S j ≤ hd := by
          intro k hk i hi hp
          have a := q3 i hi hp
          have b := Nat.div_mul_le_self (hd - wN S i) (eN S i)
          have c : k * eN S i ≤ (hd - wN S i) / eN S i * eN S i := Nat.mul_le_mul_right _ (by omega)
          have := hi0 i hi hp
          omega
        have n0 : ¬ nI q < 0 := nI_pos (by omega)
        have n12 : nI q ≤ 12 := nI_le (b := 12) c12 (by decide)
        by_cases cq : q = 1
        · subst cq
          obtain ⟨G1, R, W2, D2, N, V, Z, f1, f2, f3, f4, f5, f6, f7, f8, f9, f10⟩ := last_print (g := g) (l := l) (q := 1) hI (by omega) hSS hG hh hh2 (WS_0 hG) (by omega) (by omega) (fun j hj => by rw [hSS]) hj h1 hlast
          exact ⟨_, we_1 pl k15 k1 n0 n12 (nI_le (b := 1) (Nat.le_refl 1) (by decide)) k1 f1 f2 f3 f4 f5 f6 f7 f8 f9 f10⟩
        · obtain ⟨m, rfl⟩ : ∃ m, q = m + 1 := ⟨q - 1, by omega⟩
          obtain ⟨pn, la, ls, p1, p2, p3, p4, p5, p6⟩ := hG.2.2.1
          obtain ⟨d1, d2, _⟩ := print_ok (g := g) (l := l) hI (show 1 ≤ m by omega) (by omega) (by omega) p2 p6
          have ek : ∀ o, o < 40 → kp S nx o = S o := fun o ho => kp_lo (by omega)
          have hGY := Gst_kp (nx := nx) hG
          have hY0 : WS S 0 (kp S nx) := WS_eq (WS_0 hG) (ek 1 (by decide)) (ek 17 (by decide)) (ek 19 (by decide))
          have eY : kp S nx 2 2 = nI la := by rw [ek 2 (by decide)]; exact p6
          have A := WS_all hSS hh hh2 hw hGY hY0 p2 eY (q := m) (fun k hk => hq k (by omega)) m (Nat.le_refl m)
          obtain ⟨n, hn, en⟩ := (print_all hGY p2 eY m).2.2
          rw [en] at d1
          generalize pS (kp S nx) la m = T at d1 d2 A
          have iT := WS_ink hSS hh hh2 hw A (hq m (by omega))
          have hWT := IV_WB d2
          have k15T := zX6_count_15 (g := g) (l := l) hWT
          rw [wC_same hSS A.1.1 iT] at k15T
          have hU : WS S (m + 1 - 1) (iK T) := WS_eq A (iK_ne (by decide)) (iK_ne (by decide)) (iK_ne (by decide))
          have iU : ∀ j, j < 192 → px (iK (iK T)) 611 j = px S 611 j := fun j hj => by rw [iK_iK]; exact iT j hj
          obtain ⟨G1, R, W2, D2, N, V, Z, f1, f2, f3, f4, f5, f6, f7, f8, f9, f10⟩ := last_print (g := g) (l := l) (q := m + 1) (IV_iK d2) (by omega) hSS (Gst_up hG (by omega)) hh hh2 hU (by omega) c12 iU hj h1 hlast
          rw [← nI_pred m] at d1
          exact ⟨_, we_n pl k15 k1 n0 n12 (nI_ge (a := 1) (b := m + 1) (by omega) (by omega)) d1 (nI_pos (by omega)) k15T zX6_count_1 f1 f2 f3 f4 f5 f6 f7 f8 f9 f10⟩
    · exact ⟨_, we_a pl k15 k1 (Or.inr (nI_ge (a := 12) (b := q) (by omega) (by omega)))⟩
