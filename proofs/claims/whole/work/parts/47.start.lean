/-! the law: its loop, and its start -/
section LP
variable {p : Program} {l : Launch} {e : Env} {s : State} {m : MethodId} {below : List Frame} {meth : Method} {c : Code} {g : aG} {b L : Nat} {xs : Nat → Int32}
set_option maxHeartbeats 4000000 in
theorem law_case {Q : State → Prop} {H : Heap} {locs : List Loc} {ls : Array Slot} {σ : aS} (K : LK p s m c b L xs g) {i : Nat} (hl : lv_has ls 4 [(0, .ref b), (1, .ref (gL g 600)), (2, .ref (gL g 700)), (3, .int (nI i))]) (hi : i + 6 ≤ L) (hL : L ≤ 3072) (hR : Rel σ) (hRH : RH g σ H) (hS : va_S (gA g) s.heap H locs) (kk : ∀ (σ2 : aS) (H2 : Heap) (locs2 : List Loc), Rel σ2 → RH g σ2 H2 → va_S (gA g) s.heap H2 locs2 → W p l e room_1 s m #[Value.ref b] below meth c H2 locs2 600000 7302250 Q (F0 m 809 ls [])) (z : Int32) (hz : ∃ j : Nat, j < 32 ∧ z = nI j) : W p l e room_1 s m #[Value.ref b] below meth c H locs 600000 7302250 Q (F0 m 33 ls [.int z]) := by
  obtain ⟨hx, hb, _⟩ := id K
  obtain ⟨j, hj, rfl⟩ := hz
  by_cases c22 : 22 < j
  · refine lv_tableOut (tgt := 809) hx hb dL_law_33 (Or.inr ?_) (by decide) (kk σ H locs hR hRH hS)
    rw [nI_toInt (by omega)]
    omega
  · match j, c22 with
    | 0, _ => exact lv_tableIn (tgt := 140) hx hb dL_law_33 (by decide) (by decide) (off := 107) (by decide) (by decide) (lc_paint K hl hi hL hR hRH hS kk)
    | 1, _ => exact lv_tableIn (tgt := 203) hx hb dL_law_33 (by decide) (by decide) (off := 170) (by decide) (by decide) (lc_cut K hl hi hL hR hRH hS kk)
    | 2, _ => exact lv_tableIn (tgt := 226) hx hb dL_law_33 (by decide) (by decide) (off := 193) (by decide) (by decide) (lc_carve K hl hi hL hR hRH hS kk)
    | 3, _ => exact lv_tableIn (tgt := 279) hx hb dL_law_33 (by decide) (by decide) (off := 246) (by decide) (by decide) (lc_plug K hl hi hL hR hRH hS kk)
    | 4, _ => exact lv_tableIn (tgt := 312) hx hb dL_law_33 (by decide) (by decide) (off := 279) (by decide) (by decide) (lc_setPins K hl hi hL hR hRH hS kk)
    | 5, _ => exact lv_tableIn (tgt := 345) hx hb dL_law_33 (by decide) (by decide) (off := 312) (by decide) (by decide) (lc_set K hl hi hL hR hRH hS kk)
    | 6, _ => exact lv_tableIn (tgt := 378) hx hb dL_law_33 (by decide) (by decide) (off := 345) (by decide) (by decide) (lc_print K hl hi hL hR hRH hS kk)
    | 7, _ => exact lv_tableIn (tgt := 401) hx hb dL_law_33 (by decide) (by decide) (off := 368) (by decide) (by decide) (lc_take K hl hi hL hR hRH hS kk)
    | 8, _ => exact lv_tableIn (tgt := 424) hx hb dL_law_33 (by decide) (by decide) (off := 391) (by decide) (by decide) (lc_restore K hl hi hL hR hRH hS kk)
    | 9, _ => exact lv_tableIn (tgt := 447) hx hb dL_law_33 (by decide) (by decide) (off := 414) (by decide) (by decide) (lc_undo K hl hi hL hR hRH hS kk)
    | 10, _ => exact lv_tableIn (tgt := 460) hx hb dL_law_33 (by decide) (by decide) (off := 427) (by decide) (by decide) (lc_append K hl hi hL hR hRH hS kk)
    | 11, _ => exact lv_tableIn (tgt := 483) hx hb dL_law_33 (by decide) (by decide) (off := 450) (by decide) (by decide) (lc_clearText K hl hi hL hR hRH hS kk)
    | 12, _ => exact lv_tableIn (tgt := 496) hx hb dL_law_33 (by decide) (by decide) (off := 463) (by decide) (by decide) (lc_load K hl hi hL hR hRH hS kk)
    | 13, _ => exact lv_tableIn (tgt := 509) hx hb dL_law_33 (by decide) (by decide) (off := 476) (by decide) (by decide) (lc_count K hl hi hL hR hRH hS kk)
    | 14, _ => exact lv_tableIn (tgt := 532) hx hb dL_law_33 (by decide) (by decide) (off := 499) (by decide) (by decide) (lc_cell K hl hi hL hR hRH hS kk)
    | 15, _ => exact lv_tableIn (tgt := 575) hx hb dL_law_33 (by decide) (by decide) (off := 542) (by decide) (by decide) (lc_printed K hl hi hL hR hRH hS kk)
    | 16, _ => exact lv_tableIn (tgt := 628) hx hb dL_law_33 (by decide) (by decide) (off := 595) (by decide) (by decide) (lc_proof K hl hi hL hR hRH hS kk)
    | 17, _ => exact lv_tableIn (tgt := 661) hx hb dL_law_33 (by decide) (by decide) (off := 628) (by decide) (by decide) (lc_faults K hl hi hL hR hRH hS kk)
    | 18, _ => exact lv_tableIn (tgt := 704) hx hb dL_law_33 (by decide) (by decide) (off := 671) (by decide) (by decide) (lc_why K hl hi hL hR hRH hS kk)
    | 19, _ => exact lv_tableIn (tgt := 737) hx hb dL_law_33 (by decide) (by decide) (off := 704) (by decide) (by decide) (lc_tolerance K hl hi hL hR hRH hS kk)
    | 20, _ => exact lv_tableIn (tgt := 750) hx hb dL_law_33 (by decide) (by decide) (off := 717) (by decide) (by decide) (lc_trapFor K hl hi hL hR hRH hS kk)
    | 21, _ => exact lv_tableIn (tgt := 773) hx hb dL_law_33 (by decide) (by decide) (off := 740) (by decide) (by decide) (lc_bestPins K hl hi hL hR hRH hS kk)
    | 22, _ => exact lv_tableIn (tgt := 796) hx hb dL_law_33 (by decide) (by decide) (off := 763) (by decide) (by decide) (lc_printsLeft K hl hi hL hR hRH hS kk)
    | j + 23, h => exact absurd (show 22 < j + 23 by omega) h
theorem law_loop (hr : meth.sig.returnType = ret) (hlocks : meth.locks = false) (K : LK p s m c b L xs g) (hL : L ≤ 3072) : ∀ (n i : Nat), i ≤ L → L + 1 ≤ i + n → ∀ (σ : aS) (H : Heap) (locs : List Loc) (ls : Array Slot), Rel σ → RH g σ H → va_S (gA g) s.heap H locs → lv_has ls 4 [(0, .ref b), (1, .ref (gL g 600)), (2, .ref (gL g 700)), (3, .int (nI i))] → W p l e room_1 s m #[Value.ref b] below meth c H locs 600000 7302250 (lw_Z below #[Value.ref b] s) (F0 m 18 ls []) := by
  intro n
  induction n with
  | zero => intro i h1 h2; exact absurd h2 (by omega)
  | succ n ih =>
    intro i hiL hin σ H locs ls hR hRH hS hl
    obtain ⟨hx, hb, hml, hown, hts, hX, hbl, hgB, hGK⟩ := id K
    have hbA : ¬ gA g b := fun z => by
      have : gB g ≤ b := z
      omega
    refine lv_iload_n hx hb dL_law_18 rfl (lv_at hl 3 rfl) ?_
    refine lv_aload_n hx hb dL_law_19 rfl (lv_at hl 0 rfl) ?_
    refine va_slen hx hb hX hbl hbA hS dL_law_20 ?_
    refine lv_bipush (v := nI 6) hx hb dL_law_21 (by decide) ?_
    refine lv_isub hx hb dL_law_23 ?_
    have e6 : (Int32.ofNat L - nI 6).toInt = (L : Int) - 6 := pk_sub_toInt (a := L) (b := 6) (by omega) (by decide)
    refine lv_icmp_gt (tgt := 815) hx hb dL_law_24 (by decide) (fun _ => ?_) (fun hgt => ?_)
    · refine lv_iconst (v := 1) hx hb dL_law_815 (by decide) ?_
      refine va_forget (fun q hq => by have : gB g ≤ q.base := hS.2.2 q hq; omega) ?_
      exact lw_ret hx hb hr hlocks dL_law_816
    · have hi6 : i + 6 ≤ L := by
        rw [fa_lt, e6, nI_toInt (by omega)] at hgt
        omega
      refine lv_aload_n hx hb dL_law_27 rfl (lv_at hl 0 rfl) ?_
      refine lv_iload_n hx hb dL_law_28 rfl (lv_at hl 3 rfl) ?_
      refine va_sld hx hb hX hbl hbA hS (vp_in_nI (by omega) (by omega)) dL_law_29 ?_
      refine lv_bipush (v := 31) hx hb dL_law_30 (by decide) ?_
      refine lv_iand hx hb dL_law_32 ?_
      refine law_case K hl hi6 hL hR hRH hS (fun σ2 H2 locs2 R2 hRH2 hS2 => ?_) _ (pk_andE _ 5 (by decide))
      refine lv_iinc (v := nI (i + 6)) (lv' := [(3, .int (nI (i + 6))), (0, .ref b), (1, .ref (gL g 600)), (2, .ref (gL g 700))]) hx hb dL_law_809 hl (k := 3) rfl (by rw [hv_6, show (6 : Int32) = nI 6 from rfl, nI_add]) (by decide) rfl (fun ls2 hl2 => ?_)
      refine lv_goto (tgt := 18) hx hb dL_law_812 (by decide) ?_
      exact ih (i + 6) hi6 (by omega) σ2 H2 locs2 ls2 R2 hRH2 hS2 (lv_sub hl2 [1, 2, 3, 0] rfl)
end LP
/-! what the Statement gives of the start -/
theorem int_arr {s : State} {args : Array Value} (h : (Cond.arrayClass .int).before args s = true) : ∃ cI : ClassId, ArrOfT s cI .int ∧ va_RA s cI .int := by
  obtain ⟨cI, kI, comp, h1, h2, h3⟩ := Cond.arrayClass_spec (args := args) (first := s) (o := none) (s := s) (idx := []) (type := .int) h
  exact ⟨cI, fun n z => ⟨fun k h => (by cases h), kI, h2, comp, h3⟩, h1⟩
theorem ref_arr {s : State} (h : va_AO RX5 s) : ∃ cQ : ClassId, ArrOfT s cQ (.object RX5) ∧ va_RA s cQ (.object RX5) := by
  obtain ⟨comp, cQ, k, h1, h2, h3, h4, h5⟩ := Cond.arrayOver_spec h
  exact ⟨cQ, fun n z => ⟨fun k h => (by cases h), k, h3, comp, h4⟩, k, comp, h3, h4, h1, h5⟩
theorem tb {i : Nat} {w : Cond} (h : tables_1[i]? = some w) : w ∈ lw_tbl := List.mem_append_right _ (List.mem_of_getElem? h)
/-- a static row of five ints -/
theorem stat5 {s : State} {args : Array Value} {n : String} {f : Nat → Int32} {i : Nat} {A : Nat → Prop} (hA : ∀ a : Nat, a < s.heap.size → ¬ A a) (hlay : (Cond.laysStatic RX6 n "[I").before args s = true) (hini : (Cond.initialized RX6).before args s = true) (harr : (Cond.arrayOf (.static RX6 n "[I") .int).before args s = true) (hlen : (Cond.eq (.length (.static RX6 n "[I")) (.int 5)).before args s = true) (hel : ∀ j, j < 5 → (Cond.eq (.elem (.static RX6 n "[I") (.int (Int32.ofNat j))) (.int (f j))).before args s = true) : ∃ t : Nat, va_Z RX6 n "[I" (.ref t) A s s.heap ∧ va_T .int t 5 (fun j => .int (f j)) A s s.heap := by
  obtain ⟨t, ht, hT⟩ := va_Tof (N := 5) (f := fun j => .int (f j)) (A := A) (by decide) harr (va_eqt hlen) (fun j hj => va_eqt (hel j hj)) hA
  exact ⟨t, va_Zof hlay hini ht hA, hT⟩
set_option maxHeartbeats 4000000 in
set_option maxRecDepth 100000 in
/-- from the entry, for every script of at most 3072 ints, the law comes to its end with true -/
theorem whole_start {p : Program} {e : Env} {s : State} {m : MethodId} {below : List Frame} {meth : Method} {c : Code} (l : Launch) (hflags : l.flags = flags0) {b L : Nat} {xs : Nat → Int32} (hL : L ≤ 3072) (C0 : lw_At p s m meth c b L xs) : W p l e room_1 s m #[Value.ref b] below meth c s.heap [] 0 0 (lw_Z below #[Value.ref b] s) (entryFrame m ([Value.ref b] : List Value).toArray 4) := by
  obtain ⟨hx, hb, hr, hml, hown, hts0, hX, hbl, hlocks, hgv⟩ := C0
  have hts : ∀ w ∈ wsL_law, w.before #[Value.ref b] s = true := fun w h => hts0 w (wsL_law_in w h)
  have hgs := flat_of_before _ hgv
  have nw : ∀ {w : Cond} {i : Nat}, w.onTables = true → tables_1[i]? = some w → va_Nw w s := fun h1 h2 => va_tabs h1 rfl (hts0 _ (tb h2))
  have hao : va_AO RX5 s := va_AO.of (hts0 _ (tb (i := 131) (by decide +kernel)))
  obtain ⟨cI, hI1, hI2⟩ := int_arr (hts (.arrayClass .int) (by decide +kernel))
  obtain ⟨cQ, hQ1, hQ2⟩ := ref_arr hao
  obtain ⟨c0, i0, hk0⟩ := u_known (C := RX0) (T := TX0) (N := 5) (n := 5) hts inlX0 (hts (.instantiable RX0 5) (by decide +kernel))
  obtain ⟨c1, i1, hk1⟩ := u_known (C := RX1) (T := TX1) (N := 1) (n := 1) hts inlX1 (hts (.instantiable RX1 1) (by decide +kernel))
  obtain ⟨c2, i2, hk2⟩ := u_known (C := RX2) (T := TX2) (N := 3) (n := 3) hts inlX2 (hts (.instantiable RX2 3) (by decide +kernel))
  obtain ⟨c3, i3, hk3⟩ := u_known (C := RX3) (T := TX3) (N := 3) (n := 3) hts inlX3 (hts (.instantiable RX3 3) (by decide +kernel))
  obtain ⟨c4, i4, hk4⟩ := u_known (C := RX4) (T := TX4) (N := 6) (n := 6) hts inlX4 (hts (.instantiable RX4 6) (by decide +kernel))
  obtain ⟨c5, i5, hk5⟩ := u_known (C := RX5) (T := TX5) (N := 10) (n := 10) hts inlX5 (hts (.instantiable RX5 10) (by decide +kernel))
  obtain ⟨c6, i6, hk6⟩ := u_known (C := RX6) (T := TX6) (N := 5) (n := 5) hts inlX6 (hts (.instantiable RX6 5) (by decide +kernel))
  obtain ⟨c7, i7, hk7⟩ := u_known (C := RX7) (T := TX7) (N := 15) (n := 15) hts inlX7 (hts (.instantiable RX7 15) (by decide +kernel))
  have hA0 : ∀ a : Nat, a < s.heap.size → ¬ (fun q : Nat => s.heap.size ≤ q) a := fun a h z => absurd h (Nat.not_lt.mpr z)
  have hini : (Cond.initialized RX6).before #[Value.ref b] s = true := hts _ (by decide +kernel)
  obtain ⟨tF, ztF, ytF⟩ := stat5 (n := "FIRST_SETTINGS") (f := fst_) (i := 0) hA0 (hts0 _ (tb (i := 67) (by decide +kernel))) hini (hgs _ (by decide +kernel)) (hgs _ (by decide +kernel)) (fun j hj => by
    match j, hj with
    | 0, _ => exact hgs (Cond.eq (.elem (.static RX6 "FIRST_SETTINGS" "[I") (.int 0)) (.int (50))) (by decide +kernel)
    | 1, _ => exact hgs (Cond.eq (.elem (.static RX6 "FIRST_SETTINGS" "[I") (.int 1)) (.int (1))) (by decide +kernel)
    | 2, _ => exact hgs (Cond.eq (.elem (.static RX6 "FIRST_SETTINGS" "[I") (.int 2)) (.int (0))) (by decide +kernel)
    | 3, _ => exact hgs (Cond.eq (.elem (.static RX6 "FIRST_SETTINGS" "[I") (.int 3)) (.int (40))) (by decide +kernel)
    | 4, _ => exact hgs (Cond.eq (.elem (.static RX6 "FIRST_SETTINGS" "[I") (.int 4)) (.int (2))) (by decide +kernel))
  obtain ⟨tL, ztL, ytL⟩ := stat5 (n := "LEAST_SETTINGS") (f := (fun k => tlo.getD k 0)) (i := 0) hA0 (hts0 _ (tb (i := 361) (by decide +kernel))) hini (hgs _ (by decide +kernel)) (hgs _ (by decide +kernel)) (fun j hj => by
    match j, hj with
    | 0, _ => exact hgs (Cond.eq (.elem (.static RX6 "LEAST_SETTINGS" "[I") (.int 0)) (.int (0))) (by decide +kernel)
    | 1, _ => exact hgs (Cond.eq (.elem (.static RX6 "LEAST_SETTINGS" "[I") (.int 1)) (.int (-4))) (by decide +kernel)
    | 2, _ => exact hgs (Cond.eq (.elem (.static RX6 "LEAST_SETTINGS" "[I") (.int 2)) (.int (-4))) (by decide +kernel)
    | 3, _ => exact hgs (Cond.eq (.elem (.static RX6 "LEAST_SETTINGS" "[I") (.int 3)) (.int (1))) (by decide +kernel)
    | 4, _ => exact hgs (Cond.eq (.elem (.static RX6 "LEAST_SETTINGS" "[I") (.int 4)) (.int (0))) (by decide +kernel))
  obtain ⟨tG, ztG, ytG⟩ := stat5 (n := "GREATEST_SETTINGS") (f := (fun k => thi.getD k 0)) (i := 0) hA0 (hts0 _ (tb (i := 363) (by decide +kernel))) hini (hgs _ (by decide +kernel)) (hgs _ (by decide +kernel)) (fun j hj => by
    match j, hj with
    | 0, _ => exact hgs (Cond.eq (.elem (.static RX6 "GREATEST_SETTINGS" "[I") (.int 0)) (.int (100))) (by decide +kernel)
    | 1, _ => exact hgs (Cond.eq (.elem (.static RX6 "GREATEST_SETTINGS" "[I") (.int 1)) (.int (4))) (by decide +kernel)
    | 2, _ => exact hgs (Cond.eq (.elem (.static RX6 "GREATEST_SETTINGS" "[I") (.int 2)) (.int (4))) (by decide +kernel)
    | 3, _ => exact hgs (Cond.eq (.elem (.static RX6 "GREATEST_SETTINGS" "[I") (.int 3)) (.int (1000))) (by decide +kernel)
    | 4, _ => exact hgs (Cond.eq (.elem (.static RX6 "GREATEST_SETTINGS" "[I") (.int 4)) (.int (10))) (by decide +kernel))
  obtain ⟨g, hg⟩ : ∃ g : aG, g = ((fun k => if k = 0 then c0 else if k = 1 then c1 else if k = 2 then c2 else if k = 3 then c3 else if k = 4 then c4 else if k = 5 then c5 else if k = 6 then c6 else c7), (fun k => if k = 0 then i0 else if k = 1 then i1 else if k = 2 then i2 else if k = 3 then i3 else if k = 4 then i4 else if k = 5 then i5 else if k = 6 then i6 else i7), (fun _ => 0), cI, cQ, s.heap.size) := ⟨_, rfl⟩
  have hgB : gB g = s.heap.size := by rw [hg]; rfl
  have hgA : gA g = fun q : Nat => s.heap.size ≤ q := by
    funext q
    show (gB g ≤ q) = _
    rw [hgB]
  have hK : va_K (gD g) vwCl (aTys g) s := by
    rw [hg]
    refine ⟨fun k q hq => ?_, fun k q hq => ?_⟩
    · match k, hq with
      | 0, hq => cases hq; exact hk0
      | 1, hq => cases hq; exact hk1
      | 2, hq => cases hq; exact hk2
      | 3, hq => cases hq; exact hk3
      | 4, hq => cases hq; exact hk4
      | 5, hq => cases hq; exact hk5
      | 6, hq => cases hq; exact hk6
      | 7, hq => cases hq; exact hk7
      | k + 8, hq => simp [vwCl] at hq
    · match k, hq with
      | 0, hq => cases hq; exact ⟨hI1, hI2⟩
      | 1, hq => cases hq; exact ⟨hQ1, hQ2⟩
      | k + 2, hq => simp [aTys] at hq
  rw [← hgA] at ztF ytF ztL ytL ztG ytG
  have hSG : SG g tF s s.heap := ⟨nw (i := 66) rfl (by decide +kernel), hao, ztF, ytF, Nat.le_of_eq hgB⟩
  have J : JK p room_1 s m #[Value.ref b] meth c code 4 RL wsL_law g tF (gA g) := ⟨hx, hb, hml, hown, hts, hK, fun q h => by rw [hgA]; exact h, fun q h => h, hSG⟩
  have hl := lv_entry ([.ref b]) (n := 4) (Nat.le_of_ble_eq_true rfl)
  rw [lg_entry_eq]
  generalize (lg_sl ([.ref b]) ++ List.replicate (4 - (lg_sl ([.ref b])).length) Slot.unset).toArray = ls at hl ⊢
  have hl : lv_has ls 4 [(0, .ref b)] := hl
  have go : CJ p l e room_1 s m #[Value.ref b] below meth c (lw_Z below #[Value.ref b] s) g (gA g) 0 0 [] (fun _ => 0) [] 0 ls [] := by
    refine j_make (idx := 7) (idx2 := 9) (pc2 := 4) (N := 5) (ci := 6) (u := 600) (C := RX6) (T := TX6) (fs := [.null, .null, .null, .null, .null]) (y := yX6_init) (vs := uP) J ⟨⟨_, rfl⟩, by decide +kernel, by decide +kernel, by decide +kernel⟩ rfl rfl zX6_init gL_law_X6_init inlX6 tyX6_ok (by decide +kernel) (by decide +kernel) (by decide +kernel) (by decide +kernel) (by decide +kernel) rfl (by decide) clo_0 clo_uP (fun i h => absurd h List.not_mem_nil) (by decide +kernel) ⟨Nat.le_of_ble_eq_true rfl, Nat.le_of_ble_eq_true rfl⟩ (Nat.le_of_ble_eq_true rfl) (Nat.le_of_ble_eq_true rfl) hl.1 (Nat.le_of_ble_eq_true rfl) rfl dL_law_0 dL_law_3 dL_law_4 (fun f1 _ => ?_)
    intro H locs hP hD hS
    refine lv_astore_n (lv' := [(1, .ref (f1 600)), (0, .ref b)]) hx hb dL_law_7 rfl hl (by decide) rfl (fun ls1 hl1 => ?_)
    revert H locs hP hD hS
    show CJ _ _ _ _ _ _ _ _ _ _ _ _ _ _ _ _ _ _ _ _ _
    refine j_make (idx := 10) (idx2 := 12) (pc2 := 12) (N := 15) (ci := 7) (u := 700) (C := RX7) (T := TX7) (fs := [.int 0, .null, .null, .int 0, .null, .int 0, .null, .null, .int 0, .int 0, .int 0, .null, .int 0, .int 0, .int 0]) (y := yX7_init) (vs := uM) J ⟨⟨_, rfl⟩, by decide +kernel, by decide +kernel, by decide +kernel⟩ rfl rfl zX7_init gL_law_X7_init inlX7 tyX7_ok (by decide +kernel) (by decide +kernel) (by decide +kernel) (by decide +kernel) (by decide +kernel) rfl (by decide) (show cloB ([] ++ uP) = true from clo_uP) clo_uM us_dis (by decide +kernel) ⟨Nat.le_of_ble_eq_true rfl, Nat.le_of_ble_eq_true rfl⟩ (Nat.le_of_ble_eq_true rfl) (Nat.le_of_ble_eq_true rfl) hl1.1 (Nat.le_of_ble_eq_true rfl) rfl dL_law_8 dL_law_11 dL_law_12 (fun f2 a2 => ?_)
    intro H locs hP hD hS
    refine W.widen (k := 600000) (n := 7302250) (Nat.le_of_ble_eq_true rfl) (Nat.le_of_ble_eq_true rfl) ?_
    refine lv_astore_n (lv' := [(2, .ref (f2 700)), (1, .ref (f1 600)), (0, .ref b)]) hx hb dL_law_15 rfl hl1 (by decide) rfl (fun ls2 hl2 => ?_)
    refine lv_iconst (v := nI 0) hx hb dL_law_16 (by decide) ?_
    refine lv_istore_n (lv' := [(3, .int (nI 0)), (2, .ref (f2 700)), (1, .ref (f1 600)), (0, .ref b)]) hx hb dL_law_17 rfl hl2 (by decide) rfl (fun ls3 hl3 => ?_)
    -- the table of addresses, with the statics
    obtain ⟨f, hf⟩ : ∃ f : Nat → Nat, f = fun o => if o = 801 then tL else if o = 802 then tG else f2 o := ⟨_, rfl⟩
    have ef : ∀ i, i ∈ uP ++ uM → f i = f2 i := fun i hi => by
      have := us_kd hi
      have h707 := kd_lt this
      rw [hf]
      show (if i = 801 then tL else if i = 802 then tG else f2 i) = f2 i
      rw [if_neg (by omega), if_neg (by omega)]
    have eW : [] ++ Wd g f2 ([] ++ uP ++ uM) = Wd g f (uP ++ uM) := (Wd_cong clo_us ef).symm
    rw [eW] at hP hD
    have hRH : RH (gF g f) s0 H := world_RH hP
    have hGL : GL (gF g f) := world_GL hD
    have e8 : gL (gF g f) 801 = tL := by rw [hf]; rfl
    have e9 : gL (gF g f) 802 = tG := by rw [hf]; rfl
    have hGK : GK (gF g f) s s.heap := by
      refine ⟨hGL, hK, fun w hw => ?_, ?_, ?_, ?_, ?_, Nat.le_of_eq hgB⟩
      · simp only [nwl, List.mem_cons, List.not_mem_nil, or_false] at hw
        rcases hw with rfl | rfl | rfl | rfl | rfl | rfl | rfl
        · exact nw (i := 236) rfl (by decide +kernel)
        · exact nw (i := 237) rfl (by decide +kernel)
        · exact nw (i := 288) rfl (by decide +kernel)
        · exact nw (i := 405) rfl (by decide +kernel)
        · exact nw (i := 504) rfl (by decide +kernel)
        · exact nw (i := 534) rfl (by decide +kernel)
        · exact nw (i := 560) rfl (by decide +kernel)
      · rw [e8]; exact ztL
      · rw [e8]; exact ytL
      · rw [e9]; exact ztG
      · rw [e9]; exact ytG
    have hLK : LK p s m c b L xs (gF g f) := ⟨hx, hb, hml, hown, hts, hX, hbl, hgB, hGK⟩
    have e600 : gL (gF g f) 600 = f1 600 := (ef 600 (by decide +kernel)).trans (a2 600 (by decide +kernel))
    have e700 : gL (gF g f) 700 = f2 700 := ef 700 (by decide +kernel)
    exact law_loop hr hlocks hLK hL (L + 1) 0 (Nat.zero_le L) (by omega) s0 H locs ls3 rel_0 hRH hS (by rw [e600, e700]; exact lv_sub hl3 [3, 2, 1, 0] rfl)
  exact go s.heap [] (fun k q h => by simp [Wd] at h) ⟨fun i j p q h => by simp [Wd] at h, fun k q h => by simp [Wd] at h⟩ va_S.rf
