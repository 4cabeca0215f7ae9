/-! constructors: State, History -/
theorem perm_PD {D : va_G} {cl : List vw_C} {A : Nat → Prop} {a b c : va_W} {H : Heap} (hP : va_P D cl ((a ++ b) ++ c) H) (hD : va_D A ((a ++ b) ++ c)) : va_P D cl ((a ++ c) ++ b) H ∧ va_D A ((a ++ c) ++ b) := by
  refine ⟨hP.by _ (fun k q hk => va_swapG k q hk), hD.by _ (fun k q hk => va_swapG k q hk) (fun i j hi hj h => ?_)⟩
  simp only [List.length_append] at hi hj
  try dsimp only at h
  repeat' split at h
  all_goals omega
section MK2
variable {p : Program} {l : Launch} {e : Env} {R : Room} {s : State} {m : MethodId} {args : Array Value} {below : List Frame} {meth : Method} {c : Code} {Q : State → Prop} {g : aG} {A : Nat → Prop} {cells slots : Nat} {X : va_W} {f : Nat → Nat} {us : List Nat} {pc : Nat} {ls : Array Slot} {st : List Value} {cc : ByteArray} {nL : Nat} {own : String} {Ts : List Cond} {F : Nat}
/-- a new array of ints that is written to yet -/
theorem j_newaX {n : Int32} {N : Nat} (J : JK p R s m args meth c cc nL own Ts g F A) (harr : Cond.arrayClass .int ∈ Ts) (hn : ¬ n < 0) (hN2 : n.toNatClampNeg = N) (hby : N * 4 ≤ 536870912) (hcells : cells + 1 ≤ R.cells) (hslots : slots + N ≤ R.slots) (hd : decode cc pc = .ok (.newarray .int, 2))
    (kk : ∀ q : Nat, CJ p l e R s m args below meth c Q g A (cells + 1) (slots + N) (X ++ [(q, .inl (gI g, N, .inl (fun _ => 0)))]) f us (pc + 2) ls (.ref q :: st)) : CJ p l e R s m args below meth c Q g A cells slots X f us pc ls (.int n :: st) := by
  obtain ⟨hx, hb, hml, hown, hts, hK, hA, hAB, hSG⟩ := J
  intro H locs hP hD hS
  refine va_newa (atype := .int) (ty := .int) (a0 := (N, .inl (fun _ => 0))) hx hb (hts _ harr) rfl hK hP hD hS hA (fun cA => rfl) hn hN2 hby hcells hslots hd (fun q cA H1 hK1 hP1 hD1 hS1 => ?_)
  have ecA := kI_eq hK1
  subst ecA
  obtain ⟨hP2, hD2⟩ := perm_PD hP1 hD1
  exact kk q H1 locs hP2 hD2 hS1
theorem j_newqX {n : Int32} {N idx : Nat} (J : JK p R s m args meth c cc nL own Ts g F A) (hcl : Cond.classLink own idx RX5 ∈ Ts) (hn : ¬ n < 0) (hN2 : n.toNatClampNeg = N) (hby : N * 4 ≤ 536870912) (hcells : cells + 1 ≤ R.cells) (hslots : slots + N ≤ R.slots) (hd : decode cc pc = .ok (.anewarray idx, 3))
    (kk : ∀ q : Nat, CJ p l e R s m args below meth c Q g A (cells + 1) (slots + N) (X ++ [(q, .inl (gQ g, N, .inr (.inr (.inr (.inr (fun _ => none))))))]) f us (pc + 3) ls (.ref q :: st)) : CJ p l e R s m args below meth c Q g A cells slots X f us pc ls (.int n :: st) := by
  obtain ⟨hx, hb, hml, hown, hts, hK, hA, hAB, hSG⟩ := J
  intro H locs hP hD hS
  refine va_newq (C := RX5) hx hb hown (hts _ hcl) hSG.2.1 hK hP hD hS hA hn hN2 hby hcells hslots hd (fun q cA H1 hK1 hP1 hD1 hS1 => ?_)
  have ecA := kQ_eq hK1
  subst ecA
  obtain ⟨hP2, hD2⟩ := perm_PD hP1 hD1
  exact kk q H1 locs hP2 hD2 hS1
/-- the array is done: it takes its number -/
theorem j_back {q u : Nat} {E : va_E} (hc : cloB us = true) (hnu : ¬ u ∈ us) (hE : ∀ f2 : Nat → Nat, (∀ i, i ∈ us → f2 i = f i) → cX g f2 u = E) (kk : ∀ f2 : Nat → Nat, (∀ i, i ∈ us → f2 i = f i) → f2 u = q → CJ p l e R s m args below meth c Q g A cells slots X f2 (us ++ [u]) pc ls st) : CJ p l e R s m args below meth c Q g A cells slots (X ++ [(q, E)]) f us pc ls st := by
  intro H locs hP hD hS
  obtain ⟨hP2, hD2⟩ := perm_PD hP hD
  have e1 : mrg f [u] (fun _ => q) u = q := mrg_in (List.mem_singleton.mpr rfl)
  have eo : ∀ i, i ∈ us → mrg f [u] (fun _ => q) i = f i := fun i hi => mrg_out (fun z => hnu (by rw [← List.mem_singleton.mp z]; exact hi))
  have eW : X ++ Wd g f us ++ [(q, E)] = X ++ Wd g (mrg f [u] (fun _ => q)) (us ++ [u]) := by
    rw [Wd_app, Wd_cong hc eo, List.append_assoc]
    show _ = X ++ (Wd g f us ++ [(mrg f [u] (fun _ => q) u, cX g (mrg f [u] (fun _ => q)) u)])
    rw [hE _ eo, e1]
  rw [eW] at hP2 hD2
  exact kk (mrg f [u] (fun _ => q)) eo e1 H locs hP2 hD2 hS
theorem j_gets {index : Nat} (J : JK p R s m args meth c cc nL RX5 Ts g F A) (hix : index = 22) (hd : decode cc pc = .ok (.getstatic index, 3)) (kk : CJ p l e R s m args below meth c Q g A cells slots X f us (pc + 3) ls (.ref F :: st)) : CJ p l e R s m args below meth c Q g A cells slots X f us pc ls st := by
  subst hix
  obtain ⟨hx, hb, hml, hown, hts, hK, hA, hAB, hSG⟩ := J
  intro H locs hP hD hS
  exact va_getsN (own := RX5) (ref := RX6) (host := RX6) hx hb (hSG.2.2.1.narrow hAB) hS hown (va_tabs rfl rfl hSG.1) (fun _ h => h) hd (kk H locs hP hD hS)
/-- the first settings are copied -/
theorem j_copy {h0 q idx : Nat} {E : va_E} {d : Nat → Int32} (J : JK p R s m args meth c cc nL own Ts g F A) (hsz : ls.size = nL) (hlink : Cond.methodLink own idx arraycopyName ∈ Ts) (hnat : Cond.native arraycopyName ∈ Ts) (hstat : Cond.static arraycopyName ∈ Ts) (hini : Cond.initialized "java/lang/System" ∈ Ts) (hf : 1 ≤ R.frames) (hlo : nativeFrameWords "java/lang/System" "arraycopy" 5 + 11 ≤ R.locals) (hd : decode cc pc = .ok (.invokestatic idx, 3))
    (kk : CJ p l e R s m args below meth c Q g A cells slots [(h0, E), (q, .inl (gI g, 5, .inl (va_cpy fst_ d 0 0 5)))] f us (pc + 3) ls []) : CJ p l e R s m args below meth c Q g A cells slots [(h0, E), (q, .inl (gI g, 5, .inl d))] f us pc ls [.int 5, .int 0, .ref q, .int 0, .ref F] := by
  obtain ⟨hexec, hb, hml, hown, hts, hK, hA, hAB, hSG⟩ := J
  intro H locs hP hD hS
  obtain ⟨_, _, _, hX, _⟩ := hSG
  obtain ⟨src, r1, ⟨r2, kS, hkS, cS, hkS2⟩, r3, r4, -, r5, r6⟩ := hX.narrow hAB
  intro T hT X
  have hc0 : H[F]? = some src := by
    rw [hS.2.1 F (Array.getElem?_eq_some_iff.mp r1).1 r6]
    exact r1
  have hc1 : H[q]? = some (vp_cell (gI g) (5, .inl d)) := hP 1 (q, .inl (gI g, 5, .inl d)) rfl
  obtain ⟨-, kT, hkT, cT, hkT2⟩ := (hK.2 0 (gI g, .int) rfl).1 5 (fun j => .int (d j))
  have five : (5 : Int32).toNatClampNeg = 5 := by decide
  have nought : (0 : Int32).toNatClampNeg = 0 := by decide
  obtain ⟨vm2, X2, stp⟩ := X.arraycopy hexec hown (hts _ hlink) (hts _ hnat) (hts _ hstat) (hts _ hini) (src := F) (dst := q) (cs := src) (cd := vp_cell (gI g) (5, .inl d)) (srcPos := 0) (destPos := 0) (n := 5) (by rw [hT]; exact hc0) (by rw [hT]; exact hc1) r2 (fun _ h => by cases h) r3 (fun h => by cases h) hkS hkT hkS2 hkT2 (by simp [refKind]) (by decide) (by decide) (by decide)
    (by rw [show (0 : Int32).toInt = 0 by decide, show (5 : Int32).toInt = 5 by decide]; omega)
    (by rw [show (0 : Int32).toInt = 0 by decide, show (5 : Int32).toInt = 5 by decide]; show ¬ _ > ((arrV (gI g) 5 (fun j => .int (d j))).slots.size : Int); rw [arrV_size]; omega)
    (fun vm1 _ i hi => by
      rw [five] at hi
      have e1 : src.slots.getD ((0 : Int32).toNatClampNeg + i) .null = .int (fst_ i) := by
        rw [nought, Nat.zero_add, Array.getD_eq_getD_getElem?, r5 i hi]
        rfl
      rw [e1]
      exact ⟨rfl, trivial⟩)
    (g := F0 m pc ls [.int 5, .int 0, .ref q, .int 0, .ref F]) rfl (by rw [hml, hsz]) (rest := []) rfl (by rw [hb]; exact hd) hf (by show 2 * 0 + 0 + _ ≤ _; omega)
  have e2 : copied src (vp_cell (gI g) (5, .inl d)) 0 0 5 = vp_cell (gI g) (5, .inl (va_cpy fst_ d 0 0 5)) := va_copiedX (n := 5) (sp := 0) (dp := 0) (fun z => .int z) src (gI g) fst_ d r5 (by decide)
  rw [e2] at X2 stp
  have hql : q < H.size := (Array.getElem?_eq_some_iff.mp hc1).1
  obtain ⟨NC, hNC⟩ : ∃ NC, NC = vp_cell (gI g) (5, .inl (va_cpy fst_ d 0 0 5)) := ⟨_, rfl⟩
  rw [← hNC] at X2 stp
  have hheap : ((T.setVm vm2).setCell q NC).heap = H.setIfInBounds q NC := by rw [← hT]; rfl
  have hq1 : (H.setIfInBounds q NC)[q]? = some NC := by simp [Array.getElem?_setIfInBounds, hql]
  have oq : ∀ z : Nat, z ≠ q → (H.setIfInBounds q NC)[z]? = H[z]? := fun z hz => by simp [Array.getElem?_setIfInBounds, Ne.symm hz]
  have hqA : A q := hD.2 1 (q, .inl (gI g, 5, .inl d)) rfl
  have hat : va_at (gD g) vwCl (q, .inl (gI g, 5, .inl (va_cpy fst_ d 0 0 5))) (H.setIfInBounds q NC) := by
    show (H.setIfInBounds q NC)[q]? = some (vp_cell (gI g) (5, .inl (va_cpy fst_ d 0 0 5)))
    rw [← hNC]
    exact hq1
  obtain ⟨t, a1, b1⟩ := kk _ _ (hP.set hD (p := 1) rfl hat oq) (hD.set (p := 1) rfl) ⟨by simp; exact hS.1, fun z g1 g2 => by
      rw [oq z (fun e => g2 (by rw [e]; exact hqA))]
      exact hS.2.1 z g1 g2, fun z hz => by
      rcases List.mem_append.mp hz with h | h
      · exact hS.2.2 z h
      · obtain ⟨y, -, hy⟩ := List.mem_map.mp h
        rw [← hy]
        exact hqA⟩ _ hheap X2
  exact ⟨t, stp t a1, b1⟩
/-- a state in the array of states -/
theorem j_aast {h0 q u : Nat} {E : va_E} {d : Nat → Option Nat} {i : Int32} (J : JK p R s m args meth c cc nL own Ts g F A) (hu : u ∈ us) (hk : kd u = 5) (hin2 : vp_in i 5) (hd : decode cc pc = .ok (.aastore, 1)) (kk : CJ p l e R s m args below meth c Q g A cells slots [(h0, E), (q, .inl (gQ g, 5, .inr (.inr (.inr (.inr (va_up d i.toNatClampNeg (some (f u))))))))] f us (pc + 1) ls st) : CJ p l e R s m args below meth c Q g A cells slots [(h0, E), (q, .inl (gQ g, 5, .inr (.inr (.inr (.inr d)))))] f us pc ls (.ref (f u) :: .int i :: .ref q :: st) := by
  obtain ⟨hx, hb, hml, hown, hts, hK, hA, hAB, hSG⟩ := J
  intro H locs hP hD hS
  obtain ⟨n, hn⟩ := List.getElem?_of_mem hu
  have hv : ([(h0, E), (q, (.inl (gQ g, 5, .inr (.inr (.inr (.inr d)))) : va_E))] ++ Wd g f us)[2 + n]? = some (f u, .inr (5, (List.range 10).map (fV (gF g f) s0 u))) := by
    rw [List.getElem?_append_right (by simp), show 2 + n - [(h0, E), (q, (.inl (gQ g, 5, .inr (.inr (.inr (.inr d)))) : va_E))].length = n by simp]
    unfold Wd
    rw [List.getElem?_map, hn]
    show some (f u, cX g f u) = _
    unfold cX
    rw [if_neg (by omega), cE_obj hk (by decide)]
    rfl
  exact va_astq hx hb hK hP hD hS 1 1 (2 + n) 5 (r := (RX5, TX5, 10)) rfl rfl hv rfl hin2 hd (fun H1 locs1 hP1 hD1 hS1 => kk H1 locs1 hP1 hD1 hS1)
end MK2
def uS (s : Nat) : List Nat := s :: ([] ++ uB (s + 10) ++ uL (s + 2) ++ uB (s + 20) ++ uB (s + 30) ++ [s + 1])
theorem mem_uS {s i : Nat} : i ∈ uS s ↔ (i = s ∨ i = s + 1 ∨ i = s + 2 ∨ i = s + 3 ∨ (s + 10 ≤ i ∧ i < s + 40)) := by
  simp only [uS, List.mem_cons, List.mem_append, mem_uB, mem_uL, List.not_mem_nil, or_false, false_or]
  omega
theorem clo_uS {o : Nat} (h : kd o = 5) : cloB (uS o) = true := (show ∀ o, o < 707 → kd o = 5 → cloB (uS o) = true by decide +kernel) o (kd_lt (by omega)) h
theorem k5_0 {o : Nat} (h : kd o = 5) : s0 o = fun _ => 0 := s0_0 ((show ∀ o, o < 707 → kd o = 5 → ¬ (o < 600 ∧ o % 100 = 1) by decide +kernel) o (kd_lt (by omega)) h) ((show ∀ o, o < 707 → kd o = 5 → o ≠ 603 by decide +kernel) o (kd_lt (by omega)) h) ((show ∀ o, o < 707 → kd o = 5 → o ≠ 701 by decide +kernel) o (kd_lt (by omega)) h)
theorem k5_1 {o : Nat} (h : kd o = 5) : va_cpy fst_ (fun _ => 0) 0 0 5 = s0 (o + 1) := by
  have h1 : ∀ o, o < 707 → kd o = 5 → o + 1 < 600 ∧ (o + 1) % 100 = 1 := by decide +kernel
  have h2 := h1 o (kd_lt (by omega)) h
  funext k
  unfold s0
  rw [if_pos h2]
  unfold va_cpy fst_
  by_cases c : k < 5
  · rw [if_pos ⟨Nat.zero_le k, by omega⟩, Nat.sub_zero, Nat.zero_add]
  · rw [if_neg (fun q => c (by omega)), if_neg (by omega), if_neg (by omega), if_neg (by omega), if_neg (by omega)]
theorem ln_S {o : Nat} (h : kd o = 5) : ln (o + 1) = 5 := (show ∀ o, o < 707 → kd o = 5 → ln (o + 1) = 5 by decide +kernel) o (kd_lt (by omega)) h
set_option maxHeartbeats 4000000 in
set_option maxRecDepth 100000 in
theorem zX5_init {g : aG} {l : Launch} {F : Nat} (o : Nat) (ho : kd o = 5) : CI g l F yX5_init wsX5_init 3 52 33 827 5 [.null, .null, .null, .int 0, .int 0, .int 0, .null, .null, .int 0, .int 0] o (uS o) := by
  refine ci_of (cc := cX5_init) (nL := 1) (own := RX5) (by decide +kernel) rfl rfl rfl (by decide) ?_
  intro p e s m args below meth c A h0 ls J hin hr hlocks hl
  have iw5 : ∀ w ∈ u_ws RX5 TX5 10, w ∈ wsX5_init := by decide +kernel
  refine j_aload J dX5_init_0 rfl (lv_at hl 0 rfl) ?_
  refine j_obj (idx := 3) J (by decide +kernel) (by decide +kernel) (by decide +kernel) hl.1 (Nat.le_of_ble_eq_true rfl) (Nat.le_of_ble_eq_true rfl) dX5_init_1 ?_
  refine j_aload J dX5_init_4 rfl (lv_at hl 0 rfl) ?_
  refine j_make (idx := 9) (idx2 := 11) (pc2 := 9) (N := 5) (ci := 0) (u := o + 10) (C := RX0) (T := TX0) (fs := [.null, .null, .null, .null, .null]) (y := yX0_init) (vs := uB (o + 10)) J ⟨⟨_, rfl⟩, by decide +kernel, by decide +kernel, by decide +kernel⟩ rfl rfl (zX0_init (o + 10) (kS10 ho)) gX5_init_X0_init (by decide +kernel) tyX0_ok (by decide +kernel) (by decide +kernel) (by decide +kernel) (by decide +kernel) (by decide +kernel) rfl (by decide) clo_0 (clo_uB (kS10 ho)) (fun i h h2 => by simp only [List.mem_append, List.mem_cons, List.not_mem_nil, or_false, false_or, mem_uC, mem_uB, mem_uL] at h h2 <;> omega) (by simp [uB]) ⟨Nat.le_of_ble_eq_true rfl, Nat.le_of_ble_eq_true rfl⟩ (Nat.le_of_ble_eq_true rfl) (Nat.le_of_ble_eq_true rfl) hl.1 (Nat.le_of_ble_eq_true rfl) rfl dX5_init_5 dX5_init_8 dX5_init_9 (fun f1 a1 => ?_)
  refine j_putF (T := TX5) (N := 10) (ci := 5) (k := 0) (index := 12) (ty := (.object "WoodcutPress$Blocks")) J hin iw5 tyX5_ok nmX5 rfl (by decide) rfl (by decide +kernel) rfl rfl (by decide +kernel) rfl rfl (Nat.le_of_ble_eq_true rfl) dX5_init_12 ?_
  refine j_aload J dX5_init_15 rfl (lv_at hl 0 rfl) ?_
  refine j_iconst (v := 5) J dX5_init_16 (by decide) ?_
  refine j_newaX (N := 5) J (by decide +kernel) (by decide) (by decide) (by decide) (Nat.le_of_ble_eq_true rfl) (Nat.le_of_ble_eq_true rfl) dX5_init_17 (fun q => ?_)
  refine j_putF (T := TX5) (N := 10) (ci := 5) (k := 1) (index := 18) (ty := (.array .int)) J hin iw5 tyX5_ok nmX5 rfl (by decide) rfl (by decide +kernel) rfl rfl (by decide +kernel) rfl rfl (Nat.le_of_ble_eq_true rfl) dX5_init_19 ?_
  refine j_gets J rfl dX5_init_22 ?_
  refine j_iconst (v := 0) J dX5_init_25 (by decide) ?_
  refine j_aload J dX5_init_26 rfl (lv_at hl 0 rfl) ?_
  refine j_get (T := TX5) (N := 10) (ci := 5) (k := 1) (index := 18) J iw5 rfl (by decide) rfl (by decide +kernel) rfl dX5_init_27 ?_
  refine j_iconst (v := 0) J dX5_init_30 (by decide) ?_
  refine j_iconst (v := 5) J dX5_init_31 (by decide) ?_
  refine j_copy (idx := 25) J hl.1 (by decide +kernel) (by decide +kernel) (by decide +kernel) (by decide +kernel) (Nat.le_of_ble_eq_true rfl) (Nat.le_of_ble_eq_true rfl) dX5_init_32 ?_
  refine j_aload J dX5_init_35 rfl (lv_at hl 0 rfl) ?_
  refine j_make (idx := 31) (idx2 := 33) (pc2 := 40) (N := 3) (ci := 3) (u := o + 2) (C := RX3) (T := TX3) (fs := [.null, .int 0, .int 0]) (y := yX3_init) (vs := uL (o + 2)) J ⟨⟨_, rfl⟩, by decide +kernel, by decide +kernel, by decide +kernel⟩ rfl rfl (zX3_init (o + 2) (kS2 ho)) gX5_init_X3_init (by decide +kernel) tyX3_ok (by decide +kernel) (by decide +kernel) (by decide +kernel) (by decide +kernel) (by decide +kernel) rfl (by decide) (cloB_app clo_0 (clo_uB (kS10 ho))) (clo_uL (kS2 ho)) (fun i h h2 => by simp only [List.mem_append, List.mem_cons, List.not_mem_nil, or_false, false_or, mem_uC, mem_uB, mem_uL] at h h2 <;> omega) (by simp [uL]) ⟨Nat.le_of_ble_eq_true rfl, Nat.le_of_ble_eq_true rfl⟩ (Nat.le_of_ble_eq_true rfl) (Nat.le_of_ble_eq_true rfl) hl.1 (Nat.le_of_ble_eq_true rfl) rfl dX5_init_36 dX5_init_39 dX5_init_40 (fun f2 a2 => ?_)
  refine j_putF (T := TX5) (N := 10) (ci := 5) (k := 2) (index := 34) (ty := (.object "WoodcutPress$Log")) J hin iw5 tyX5_ok nmX5 rfl (by decide) rfl (by decide +kernel) rfl rfl (by decide +kernel) rfl rfl (Nat.le_of_ble_eq_true rfl) dX5_init_43 ?_
  refine j_aload J dX5_init_46 rfl (lv_at hl 0 rfl) ?_
  refine j_iconst (v := 0) J dX5_init_47 (by decide) ?_
  refine j_put (T := TX5) (N := 10) (ci := 5) (k := 3) (index := 38) (ty := .int) J iw5 tyX5_ok nmX5 rfl (by decide) rfl (by decide +kernel) rfl (by decide +kernel) rfl rfl (Nat.le_of_ble_eq_true rfl) dX5_init_48 ?_
  refine j_aload J dX5_init_51 rfl (lv_at hl 0 rfl) ?_
  refine j_iconst (v := 0) J dX5_init_52 (by decide) ?_
  refine j_put (T := TX5) (N := 10) (ci := 5) (k := 4) (index := 42) (ty := .int) J iw5 tyX5_ok nmX5 rfl (by decide) rfl (by decide +kernel) rfl (by decide +kernel) rfl rfl (Nat.le_of_ble_eq_true rfl) dX5_init_53 ?_
  refine j_aload J dX5_init_56 rfl (lv_at hl 0 rfl) ?_
  refine j_iconst (v := 0) J dX5_init_57 (by decide) ?_
  refine j_put (T := TX5) (N := 10) (ci := 5) (k := 5) (index := 45) (ty := .int) J iw5 tyX5_ok nmX5 rfl (by decide) rfl (by decide +kernel) rfl (by decide +kernel) rfl rfl (Nat.le_of_ble_eq_true rfl) dX5_init_58 ?_
  refine j_aload J dX5_init_61 rfl (lv_at hl 0 rfl) ?_
  refine j_make (idx := 9) (idx2 := 11) (pc2 := 66) (N := 5) (ci := 0) (u := o + 20) (C := RX0) (T := TX0) (fs := [.null, .null, .null, .null, .null]) (y := yX0_init) (vs := uB (o + 20)) J ⟨⟨_, rfl⟩, by decide +kernel, by decide +kernel, by decide +kernel⟩ rfl rfl (zX0_init (o + 20) (kS20 ho)) gX5_init_X0_init (by decide +kernel) tyX0_ok (by decide +kernel) (by decide +kernel) (by decide +kernel) (by decide +kernel) (by decide +kernel) rfl (by decide) (cloB_app (cloB_app clo_0 (clo_uB (kS10 ho))) (clo_uL (kS2 ho))) (clo_uB (kS20 ho)) (fun i h h2 => by simp only [List.mem_append, List.mem_cons, List.not_mem_nil, or_false, false_or, mem_uC, mem_uB, mem_uL] at h h2 <;> omega) (by simp [uB]) ⟨Nat.le_of_ble_eq_true rfl, Nat.le_of_ble_eq_true rfl⟩ (Nat.le_of_ble_eq_true rfl) (Nat.le_of_ble_eq_true rfl) hl.1 (Nat.le_of_ble_eq_true rfl) rfl dX5_init_62 dX5_init_65 dX5_init_66 (fun f3 a3 => ?_)
  refine j_putF (T := TX5) (N := 10) (ci := 5) (k := 6) (index := 48) (ty := (.object "WoodcutPress$Blocks")) J hin iw5 tyX5_ok nmX5 rfl (by decide) rfl (by decide +kernel) rfl rfl (by decide +kernel) rfl rfl (Nat.le_of_ble_eq_true rfl) dX5_init_69 ?_
  refine j_aload J dX5_init_72 rfl (lv_at hl 0 rfl) ?_
  refine j_make (idx := 9) (idx2 := 11) (pc2 := 77) (N := 5) (ci := 0) (u := o + 30) (C := RX0) (T := TX0) (fs := [.null, .null, .null, .null, .null]) (y := yX0_init) (vs := uB (o + 30)) J ⟨⟨_, rfl⟩, by decide +kernel, by decide +kernel, by decide +kernel⟩ rfl rfl (zX0_init (o + 30) (kS30 ho)) gX5_init_X0_init (by decide +kernel) tyX0_ok (by decide +kernel) (by decide +kernel) (by decide +kernel) (by decide +kernel) (by decide +kernel) rfl (by decide) (cloB_app (cloB_app (cloB_app clo_0 (clo_uB (kS10 ho))) (clo_uL (kS2 ho))) (clo_uB (kS20 ho))) (clo_uB (kS30 ho)) (fun i h h2 => by simp only [List.mem_append, List.mem_cons, List.not_mem_nil, or_false, false_or, mem_uC, mem_uB, mem_uL] at h h2 <;> omega) (by simp [uB]) ⟨Nat.le_of_ble_eq_true rfl, Nat.le_of_ble_eq_true rfl⟩ (Nat.le_of_ble_eq_true rfl) (Nat.le_of_ble_eq_true rfl) hl.1 (Nat.le_of_ble_eq_true rfl) rfl dX5_init_73 dX5_init_76 dX5_init_77 (fun f4 a4 => ?_)
  refine j_putF (T := TX5) (N := 10) (ci := 5) (k := 7) (index := 51) (ty := (.object "WoodcutPress$Blocks")) J hin iw5 tyX5_ok nmX5 rfl (by decide) rfl (by decide +kernel) rfl rfl (by decide +kernel) rfl rfl (Nat.le_of_ble_eq_true rfl) dX5_init_80 ?_
  refine j_aload J dX5_init_83 rfl (lv_at hl 0 rfl) ?_
  refine j_iconst (v := 0) J dX5_init_84 (by decide) ?_
  refine j_put (T := TX5) (N := 10) (ci := 5) (k := 8) (index := 54) (ty := .boolean) J iw5 tyX5_ok nmX5 rfl (by decide) rfl (by decide +kernel) rfl (by decide +kernel) rfl rfl (Nat.le_of_ble_eq_true rfl) dX5_init_85 ?_
  refine j_aload J dX5_init_88 rfl (lv_at hl 0 rfl) ?_
  refine j_iconst (v := 0) J dX5_init_89 (by decide) ?_
  refine j_put (T := TX5) (N := 10) (ci := 5) (k := 9) (index := 58) (ty := .boolean) J iw5 tyX5_ok nmX5 rfl (by decide) rfl (by decide +kernel) rfl (by decide +kernel) rfl rfl (Nat.le_of_ble_eq_true rfl) dX5_init_90 ?_
  refine j_back (X := [_]) (u := o + 1) (cloB_app (cloB_app (cloB_app (cloB_app clo_0 (clo_uB (kS10 ho))) (clo_uL (kS2 ho))) (clo_uB (kS20 ho))) (clo_uB (kS30 ho))) (by simp only [List.mem_append, List.mem_cons, List.not_mem_nil, or_false, false_or, mem_uC, mem_uB, mem_uL]; omega) (fun f2 _ => ?_) (fun f5 a5 e5 => ?_)
  · rw [k5_1 ho]
    unfold cX
    rw [if_neg (by rw [kS1 ho]; decide), cE_arr (kS1 ho), ln_S ho]
    rfl
  refine j_ret (ci := 5) J hr hlocks rfl ho (by decide) (by simp only [List.mem_append, List.mem_cons, List.not_mem_nil, or_false, false_or, mem_uC, mem_uB, mem_uL]; omega) (cloB_app (cloB_app (cloB_app (cloB_app (cloB_app clo_0 (clo_uB (kS10 ho))) (clo_uL (kS2 ho))) (clo_uB (kS20 ho))) (clo_uB (kS30 ho))) (clo_1 (kS1 ho))) (rf_us (clo_uS ho) ho (by decide)) ?_ (Nat.le_of_ble_eq_true rfl) (Nat.le_of_ble_eq_true rfl) dX5_init_93
  show _ = [fV (gF g f5) s0 o 0, fV (gF g f5) s0 o 1, fV (gF g f5) s0 o 2, fV (gF g f5) s0 o 3, fV (gF g f5) s0 o 4, fV (gF g f5) s0 o 5, fV (gF g f5) s0 o 6, fV (gF g f5) s0 o 7, fV (gF g f5) s0 o 8, fV (gF g f5) s0 o 9]
  rw [fV_r (k := 0) (t := o + 10) (by rw [ho]; rfl) (rf_5_0 ho), fV_r (k := 1) (t := o + 1) (by rw [ho]; rfl) (rf_5_1 ho), fV_r (k := 2) (t := o + 2) (by rw [ho]; rfl) (rf_5_2 ho), fV_i (k := 3) (by rw [ho]; rfl), fV_i (k := 4) (by rw [ho]; rfl), fV_i (k := 5) (by rw [ho]; rfl), fV_r (k := 6) (t := o + 20) (by rw [ho]; rfl) (rf_5_6 ho), fV_r (k := 7) (t := o + 30) (by rw [ho]; rfl) (rf_5_7 ho), fV_i (k := 8) (by rw [ho]; rfl), fV_i (k := 9) (by rw [ho]; rfl)]
  rw [k5_0 ho, e5]
  rw [a5 (o + 10) (by first | (simp [mem_uC, mem_uB, mem_uL]; done) | (simp only [List.mem_append, List.mem_cons, List.not_mem_nil, or_false, false_or, mem_uC, mem_uB, mem_uL]; omega)), a4 (o + 10) (by first | (simp [mem_uC, mem_uB, mem_uL]; done) | (simp only [List.mem_append, List.mem_cons, List.not_mem_nil, or_false, false_or, mem_uC, mem_uB, mem_uL]; omega)), a3 (o + 10) (by first | (simp [mem_uC, mem_uB, mem_uL]; done) | (simp only [List.mem_append, List.mem_cons, List.not_mem_nil, or_false, false_or, mem_uC, mem_uB, mem_uL]; omega)), a2 (o + 10) (by first | (simp [mem_uC, mem_uB, mem_uL]; done) | (simp only [List.mem_append, List.mem_cons, List.not_mem_nil, or_false, false_or, mem_uC, mem_uB, mem_uL]; omega)), a5 (o + 2) (by first | (simp [mem_uC, mem_uB, mem_uL]; done) | (simp only [List.mem_append, List.mem_cons, List.not_mem_nil, or_false, false_or, mem_uC, mem_uB, mem_uL]; omega)), a4 (o + 2) (by first | (simp [mem_uC, mem_uB, mem_uL]; done) | (simp only [List.mem_append, List.mem_cons, List.not_mem_nil, or_false, false_or, mem_uC, mem_uB, mem_uL]; omega)), a3 (o + 2) (by first | (simp [mem_uC, mem_uB, mem_uL]; done) | (simp only [List.mem_append, List.mem_cons, List.not_mem_nil, or_false, false_or, mem_uC, mem_uB, mem_uL]; omega)), a5 (o + 20) (by first | (simp [mem_uC, mem_uB, mem_uL]; done) | (simp only [List.mem_append, List.mem_cons, List.not_mem_nil, or_false, false_or, mem_uC, mem_uB, mem_uL]; omega)), a4 (o + 20) (by first | (simp [mem_uC, mem_uB, mem_uL]; done) | (simp only [List.mem_append, List.mem_cons, List.not_mem_nil, or_false, false_or, mem_uC, mem_uB, mem_uL]; omega)), a5 (o + 30) (by first | (simp [mem_uC, mem_uB, mem_uL]; done) | (simp only [List.mem_append, List.mem_cons, List.not_mem_nil, or_false, false_or, mem_uC, mem_uB, mem_uL]; omega))]
  rfl
def usH : Nat → List Nat
  | 0 => []
  | n + 1 => usH n ++ uS (100 * (n + 1))
def uH : List Nat := 601 :: (usH 5 ++ [602])
theorem mem_usH {n i : Nat} (h : i ∈ usH n) : 100 ≤ i ∧ i < 100 * n + 100 := by
  induction n with
  | zero => simp [usH] at h
  | succ n ih =>
    rcases List.mem_append.mp h with q | q
    · have := ih q
      omega
    · have := mem_uS.mp q
      omega
theorem usH_in {n k : Nat} (h : k < n) : 100 * (k + 1) ∈ usH n := by
  induction n with
  | zero => omega
  | succ n ih =>
    rcases Nat.lt_or_ge k n with q | q
    · exact List.mem_append_left _ (ih q)
    · rw [show k = n by omega]
      exact List.mem_append_right _ (mem_uS.mpr (Or.inl rfl))
theorem clo_usH : ∀ n, n ≤ 5 → cloB (usH n) = true
  | 0, _ => rfl
  | n + 1, h => cloB_app (clo_usH n (by omega)) (clo_uS (kd_st (by omega)))
theorem clo_uH : cloB uH = true := by decide +kernel
def ccH (f : Nat → Nat) (i : Nat) : Nat → Option Nat := fun k => if k < i then some (f (100 * (k + 1))) else none
theorem ccH_s {f f2 : Nat → Nat} {i : Nat} (h : ∀ j, j ∈ usH i → f2 j = f j) : va_up (ccH f i) i (some (f2 (100 * (i + 1)))) = ccH f2 (i + 1) := by
  funext k
  unfold va_up ccH
  by_cases c : k = i
  · rw [if_pos c, if_pos (by omega), c]
  · rw [if_neg c]
    by_cases c2 : k < i
    · rw [if_pos c2, if_pos (by omega), h _ (usH_in c2)]
    · rw [if_neg c2, if_neg (by omega)]
set_option maxHeartbeats 4000000 in
set_option maxRecDepth 100000 in
theorem zX2_init {g : aG} {l : Launch} {F : Nat} : CI g l F yX2_init wsX2_init 4 72 171 4190 2 [.null, .int 0, .int 0] 601 uH := by
  refine ci_of (cc := cX2_init) (nL := 2) (own := RX2) (by decide +kernel) rfl rfl rfl (by decide) ?_
  intro p e s m args below meth c A h0 ls J hin hr hlocks hl
  have iw2 : ∀ w ∈ u_ws RX2 TX2 3, w ∈ wsX2_init := by decide +kernel
  refine j_aload J dX2_init_0 rfl (lv_at hl 0 rfl) ?_
  refine j_obj (idx := 3) J (by decide +kernel) (by decide +kernel) (by decide +kernel) hl.1 (Nat.le_of_ble_eq_true rfl) (Nat.le_of_ble_eq_true rfl) dX2_init_1 ?_
  refine j_aload J dX2_init_4 rfl (lv_at hl 0 rfl) ?_
  refine j_iconst (v := 5) J dX2_init_5 (by decide) ?_
  refine j_newqX (N := 5) J (by decide +kernel) (by decide) (by decide) (by decide) (Nat.le_of_ble_eq_true rfl) (Nat.le_of_ble_eq_true rfl) dX2_init_6 (fun q => ?_)
  refine j_putF (T := TX2) (N := 3) (ci := 2) (k := 0) (index := 11) (ty := (.array (.object "WoodcutPress$State"))) J hin iw2 tyX2_ok nmX2 rfl (by decide) rfl (by decide +kernel) rfl rfl (by decide +kernel) rfl rfl (Nat.le_of_ble_eq_true rfl) dX2_init_9 ?_
  have e0 : (fun _ => none : Nat → Option Nat) = ccH (fun _ => 0) 0 := rfl
  refine j_iconst (v := 0) J dX2_init_12 (by decide) ?_
  obtain ⟨hx, hb, _⟩ := id J
  intro H locs hP hD hS
  refine lv_istore_n (lv' := [(1, .int (nI 0)), (0, .ref h0)]) hx hb dX2_init_13 rfl hl (by decide) rfl (fun ls1 hl1 => ?_)
  have L : ∀ n i, i + n = 5 → ∀ (f : Nat → Nat) (ls : Array Slot), lv_has ls 2 [(1, .int (nI i)), (0, .ref h0)] → CJ p l e ({ frames := 4, cells := 171, slots := 4190, locals := 72 } : Jvm.Room) s m args below meth c (MQ below (va_Qv (fun _ : Unit => True) (fun _ t => ∃ f : Nat → Nat, f 601 = h0 ∧ va_P (gD g) vwCl (Wd g f uH) t.heap ∧ va_D A (Wd g f uH)) A) args s 171 4190 A) g A (1 + 34 * i) (5 + 837 * i) [(h0, .inr (2, [.ref q, .int 0, .int 0])), (q, .inl (gQ g, 5, .inr (.inr (.inr (.inr (ccH f i))))))] f (usH i) 14 ls [] := by
    intro n
    induction n with
    | zero =>
      intro i hi f ls hl
      have e5 : i = 5 := by omega
      subst e5
      intro H locs hP hD hS
      refine lv_iload_n hx hb dX2_init_14 rfl (lv_at hl 0 rfl) ?_
      refine lv_iconst (v := 5) hx hb dX2_init_15 (by decide) ?_
      refine lv_icmp_ge (tgt := 38) hx hb dX2_init_16 (by decide) (fun _ => ?_) (fun z => absurd (by decide) z)
      revert H locs hP hD hS
      show CJ _ _ _ _ _ _ _ _ _ _ _ _ _ _ _ _ _ _ _ _ _
      have hl : lv_has ls 2 [(0, .ref h0)] := lv_sub hl [1] rfl
      refine j_aload J dX2_init_38 rfl (lv_at hl 0 rfl) ?_
      refine j_iconst (v := 0) J dX2_init_39 (by decide) ?_
      refine j_put (T := TX2) (N := 3) (ci := 2) (k := 1) (index := 18) (ty := .int) J iw2 tyX2_ok nmX2 rfl (by decide) rfl (by decide +kernel) rfl (by decide +kernel) rfl rfl (Nat.le_of_ble_eq_true rfl) dX2_init_40 ?_
      refine j_aload J dX2_init_43 rfl (lv_at hl 0 rfl) ?_
      refine j_iconst (v := 0) J dX2_init_44 (by decide) ?_
      refine j_put (T := TX2) (N := 3) (ci := 2) (k := 2) (index := 22) (ty := .int) J iw2 tyX2_ok nmX2 rfl (by decide) rfl (by decide +kernel) rfl (by decide +kernel) rfl rfl (Nat.le_of_ble_eq_true rfl) dX2_init_45 ?_
      refine j_back (X := [_]) (u := 602) (clo_usH 5 (Nat.le_refl 5)) (fun h => by have := mem_usH h; omega) (fun f2 a2 => ?_) (fun f2 a2 e2 => ?_)
      · unfold cX
        rw [if_pos (show kd 602 = 9 from rfl)]
        have ec : (fun k => if k < 5 then some (f2 (100 * (k + 1))) else none) = ccH f 5 := by
          funext k
          unfold ccH
          by_cases hk : k < 5
          · rw [if_pos hk, if_pos hk, a2 _ (usH_in hk)]
          · rw [if_neg hk, if_neg hk]
        rw [ec]
      · refine j_ret (ci := 2) J hr hlocks rfl rfl (by decide) (by decide +kernel) (show cloB (usH 5 ++ [602]) = true by decide +kernel) (rf_us clo_uH rfl (by decide)) ?_ (Nat.le_of_ble_eq_true rfl) (Nat.le_of_ble_eq_true rfl) dX2_init_48
        show _ = [fV (gF g f2) s0 601 0, fV (gF g f2) s0 601 1, fV (gF g f2) s0 601 2]
        rw [fV_r (k := 0) (t := 602) rfl rfl, fV_i (k := 1) rfl, fV_i (k := 2) rfl, e2]
        rfl
    | succ n ih =>
      intro i hi f ls hl
      intro H locs hP hD hS
      refine lv_iload_n hx hb dX2_init_14 rfl (lv_at hl 0 rfl) ?_
      refine lv_iconst (v := 5) hx hb dX2_init_15 (by decide) ?_
      refine lv_icmp_ge (tgt := 38) hx hb dX2_init_16 (by decide) (fun z => absurd z (nI_ge (b := 5) (by omega) (by decide))) (fun _ => ?_)
      revert H locs hP hD hS
      show CJ _ _ _ _ _ _ _ _ _ _ _ _ _ _ _ _ _ _ _ _ _
      refine j_aload J dX2_init_19 rfl (lv_at hl 1 rfl) ?_
      refine j_get (T := TX2) (N := 3) (ci := 2) (k := 0) (index := 11) J iw2 rfl (by decide) rfl (by decide +kernel) rfl dX2_init_20 ?_
      intro H locs hP hD hS
      refine lv_iload_n hx hb dX2_init_23 rfl (lv_at hl 0 rfl) ?_
      revert H locs hP hD hS
      show CJ _ _ _ _ _ _ _ _ _ _ _ _ _ _ _ _ _ _ _ _ _
      have h5 : kd (100 * (i + 1)) = 5 := kd_st (by omega)
      refine j_make (idx := 9) (idx2 := 17) (pc2 := 28) (N := 10) (ci := 5) (u := 100 * (i + 1)) (C := RX5) (T := TX5) (fs := [.null, .null, .null, .int 0, .int 0, .int 0, .null, .null, .int 0, .int 0]) (y := yX5_init) (vs := uS (100 * (i + 1))) J ⟨⟨_, rfl⟩, by decide +kernel, by decide +kernel, by decide +kernel⟩ rfl rfl (zX5_init (100 * (i + 1)) h5) gX2_init_X5_init (by decide +kernel) tyX5_ok (by decide +kernel) (by decide +kernel) (by decide +kernel) (by decide +kernel) (by decide +kernel) rfl (by decide) (clo_usH i (by omega)) (clo_uS h5) (fun j h h2 => by have a := mem_usH h; have b := mem_uS.mp h2; omega) (mem_uS.mpr (Or.inl rfl)) ⟨Nat.le_of_ble_eq_true rfl, Nat.le_of_ble_eq_true rfl⟩ (by show 1 + 34 * i + 1 + 33 ≤ 171; omega) (by show 5 + 837 * i + 10 + 827 ≤ 4190; omega) hl.1 (Nat.le_of_ble_eq_true rfl) rfl dX2_init_24 dX2_init_27 dX2_init_28 (fun f2 a2 => ?_)
      refine j_aast (u := 100 * (i + 1)) J (List.mem_append_right _ (mem_uS.mpr (Or.inl rfl))) h5 (vp_in_nI (by omega) (by decide)) dX2_init_31 ?_
      rw [cl_nI (by omega), ccH_s a2]
      intro H locs hP hD hS
      refine lv_iinc (v := nI (i + 1)) (lv' := [(1, .int (nI (i + 1))), (0, .ref h0)]) hx hb dX2_init_32 hl (k := 0) rfl (by rw [hv_1, nI_1]) (by decide) rfl (fun ls2 hl2 => ?_)
      refine lv_goto (tgt := 14) hx hb dX2_init_35 (by decide) ?_
      have I := ih (i + 1) (by omega) f2 ls2 hl2
      rw [show 1 + 34 * (i + 1) = 1 + 34 * i + 1 + 33 by omega, show 5 + 837 * (i + 1) = 5 + 837 * i + 10 + 827 by omega] at I
      exact I H locs hP hD hS
  exact L 5 0 rfl (fun _ => 0) ls1 hl1 H locs hP hD hS
