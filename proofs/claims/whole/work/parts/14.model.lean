theorem pl_wi (x y : Int32) : (wi x 0 15 && wi y 0 11) = pl x y := by
  have e1 : (15 : Int32) < x ↔ 16 ≤ x := by
    rw [fa_lt, fa_le, show (15 : Int32).toInt = 15 by decide, show (16 : Int32).toInt = 16 by decide]
    omega
  have e2 : (11 : Int32) < y ↔ 12 ≤ y := by
    rw [fa_lt, fa_le, show (11 : Int32).toInt = 11 by decide, show (12 : Int32).toInt = 12 by decide]
    omega
  rw [Bool.eq_iff_iff]
  simp only [wi, pl, Bool.and_eq_true, decide_eq_true_eq, e1, e2, and_assoc]
theorem thr {σ : aS} (h : σ 700 0 = 0) : sP σ 700 (upd (σ 700) 0 0) = σ := by
  rw [fa_upd_same h, sP_id]
def aC (σ : aS) (q : Nat) : aS := sP (sP σ 702 (fb_put (σ 702) (σ 701) (2374 * q) 2374)) 700 (upd (σ 700) 3 (nI (q + 1)))
def aC1 (σ : aS) : aS := sP (sP σ 702 (fa_fill (fun j => σ 702 (j + 2374)) (σ 702) 9496)) 700 (upd (σ 700) 3 (nI 4))
def mN (σ : aS) (F : Nat) (v : Int32) (k : Nat) : Bool := decide (σ 701 (F + k) = v)
theorem fb_ct_s (p : Nat → Bool) (n : Nat) : fb_ct p (n + 1) = fb_ct p n + (if p n then 1 else 0) := rfl
theorem acc_b2 (p : Nat → Bool) (n : Nat) : nI (fb_ct p n) + b2 (p n) = nI (fb_ct p (n + 1)) := by
  rw [fb_ct_s, ← nI_add]
  cases p n <;> rfl
theorem acc_1 (p : Nat → Bool) (n : Nat) {v : Int32} (h : v = if p n = true then 1 else 0) : nI (fb_ct p n) + v = nI (fb_ct p (n + 1)) := by
  rw [fb_ct_s, h, ← nI_add]
  cases p n <;> rfl
def wM (σ : aS) (k : Nat) : Bool := decide (σ 701 (192 + k) = 1 ∧ ¬ σ 701 (384 + k) ≤ σ 701 771)
def bsR (k s : Int32) : Int32 :=
  if pl (k - k / 16 * 16 + (if s = 0 then -1 else if s = 1 then 1 else 0)) (k / 16 + (if s = 2 then -1 else if s = 3 then 1 else 0)) = true then 16 * (k / 16 + (if s = 2 then -1 else if s = 3 then 1 else 0)) + (k - k / 16 * 16 + (if s = 0 then -1 else if s = 1 then 1 else 0)) else -1
def bsN (k j : Nat) : Int32 := match j with
  | 0 => if k % 16 = 0 then -1 else nI (k - 1)
  | 1 => if k % 16 = 15 then -1 else nI (k + 1)
  | 2 => if k < 16 then -1 else nI (k - 16)
  | _ => if 176 ≤ k then -1 else nI (k + 16)
set_option maxRecDepth 100000 in
theorem bs_ok : ∀ k, k < 192 → ∀ j, j < 4 → bsR (nI k) (nI j) = bsN k j := by decide +kernel
set_option maxRecDepth 100000 in
theorem bsN_in : ∀ k, k < 192 → ∀ j, j < 4 → ¬ bsN k j = -1 → 0 ≤ (bsN k j).toInt ∧ (bsN k j).toInt < 192 := by decide +kernel
theorem bsN_v {k j : Nat} (hk : k < 192) (hj : j < 4) (h : ¬ bsN k j = -1) : vp_in (bsN k j) 192 := vp_in_iff.mpr (bsN_in k hk j hj h)
def nxP (σ : aS) (k : Nat) (far : Int32) (j : Nat) : Bool := decide (¬ bsN k j = -1 ∧ σ 705 (bsN k j).toNatClampNeg = far)
def mst (σ : aS) (far k : Nat) : Int32 := if σ 701 k = 2 ∧ σ 705 k = 99 ∧ anyB (nxP σ k (nI far)) 4 = true then nI far + 1 else σ 705 k
def mIn (σ : aS) (far : Nat) : Nat → aS
  | 0 => σ
  | k + 1 => sP (mIn σ far k) 705 (upd (mIn σ far k 705) k (mst (mIn σ far k) far k))
def m0 (σ : aS) : aS := sP σ 705 (fa_fill (fun k => if σ 701 k = 1 then 0 else 99) (σ 705) 192)
def mO (σ : aS) : Nat → aS
  | 0 => m0 σ
  | f + 1 => mIn (mO σ f) f 192
/-- two runs of a plate -/
def tw (P C o : Nat → Int32) (k : Nat) : Nat → Int32 := fun j => if j < k then P j else if 192 ≤ j ∧ j < 192 + k then C (j - 192) else o j
theorem tw_0 (P C o : Nat → Int32) : tw P C o 0 = o := by
  funext j
  unfold tw
  rw [if_neg (by omega), if_neg (by omega)]
theorem tw_s (P C o : Nat → Int32) {k : Nat} (hk : k < 192) : upd (upd (tw P C o k) k (P k)) (192 + k) (C k) = tw P C o (k + 1) := by
  funext j
  unfold upd tw
  by_cases h1 : j = 192 + k
  · subst h1
    rw [if_pos rfl, if_neg (by omega), if_pos (by omega), show 192 + k - 192 = k by omega]
  · rw [if_neg h1]
    by_cases h2 : j = k
    · subst h2
      rw [if_pos rfl, if_pos (by omega)]
    · rw [if_neg h2]
      by_cases h3 : j < k
      · rw [if_pos h3, if_pos (by omega)]
      · have h5 : ¬ j < k + 1 := by omega
        rw [if_neg h3, if_neg h5]
        by_cases h4 : 192 ≤ j ∧ j < 192 + k
        · rw [if_pos h4, if_pos (by omega)]
        · rw [if_neg h4, if_neg (by omega)]
def lpV (σ : aS) (k : Nat) : Int32 := if σ 701 (192 + k) = 1 ∧ wM σ k = false then 1 else 0
def lY (σ : aS) : aS := sP σ 704 (tw (lpV σ) (fun k => σ 701 (576 + k)) (σ 704) 192)
def lcV (σ : aS) (k : Nat) : Int32 := if σ 701 k = 2 then 1 else 0
def lcC (σ : aS) (t : Int32) (k : Nat) : Int32 := if t < σ 705 k then 0 else 1
def lC_ (σ : aS) (t : Int32) : aS := sP σ 704 (tw (lcV σ) (lcC σ t) (σ 704) 192)
def tnM (σ : aS) (x y sx sy : Int32) : Bool := pl (x - sx) (y - sy) && decide (σ 704 (192 + 16 * (y - sy).toNatClampNeg + (x - sx).toNatClampNeg) = 1)
theorem tn_ix {x y sx sy : Int32} (h : pl (x - sx) (y - sy) = true) : 192 + 16 * (y - sy) + x - sx = nI (192 + 16 * (y - sy).toNatClampNeg + (x - sx).toNatClampNeg) ∧ 192 + 16 * (y - sy).toNatClampNeg + (x - sx).toNatClampNeg < 384 := by
  obtain ⟨i, j, hi, hj, e1, e2⟩ := pl_in h
  rw [e2, cl_nI (by omega)]
  have e3 : (x - sx).toNatClampNeg = i := by rw [e1, cl_nI (by omega)]
  rw [e3]
  refine ⟨?_, by omega⟩
  rw [show ∀ a : Int32, a + x - sx = a + (x - sx) from fun a => by rw [Int32.sub_eq_add_neg, Int32.sub_eq_add_neg, Int32.add_assoc], e1, show (16 : Int32) = nI 16 from rfl, pk_mul, show (192 : Int32) = nI 192 from rfl, nI_add, nI_add]
def lkM (σ : aS) (k : Nat) (sx sy : Int32) : Int32 := 2 * σ 704 k + b2 (tnM σ (nI (k % 16)) (nI (k / 16)) sx sy)
def cG (σ : aS) (sx sy : Int32) (k : Nat) : Bool := decide (¬ σ 701 k = 0 ∧ lkM σ k sx sy = 0)
def cS (σ : aS) (sx sy : Int32) (k : Nat) : Bool := decide (σ 701 k = 0 ∧ lkM σ k sx sy - lkM σ k sx sy / 2 * 2 = 1)
def cL_ (σ : aS) (sx sy : Int32) (k : Nat) : Bool := decide (σ 701 k = 2 ∧ ¬ 2 ≤ lkM σ k sx sy)
def cF (σ : aS) (sx sy : Int32) (n : Nat) : Nat → Int32 := upd (upd (upd (σ 700) 8 (nI (fb_ct (cG σ sx sy) n))) 9 (nI (fb_ct (cS σ sx sy) n))) 10 (nI (fb_ct (cL_ σ sx sy) n))
def cK (σ : aS) (sx sy : Int32) : aS := sP σ 700 (cF σ sx sy 192)
theorem tnM_ne {σ : aS} {f : Nat → Int32} (x y sx sy : Int32) : tnM (sP σ 700 f) x y sx sy = tnM σ x y sx sy := by simp [tnM, sP_ne]
theorem ix192 (F k : Nat) : nI F + nI k = nI (F + k) := nI_add F k
def sXM (σ : aS) (p : Int32) : Int32 := p + (σ 701 768 - 50) * σ 701 769 / 50
def sYM (σ : aS) (p : Int32) : Int32 := p + (σ 701 768 - 50) * σ 701 770 / 50
theorem k701 : kd 701 = 8 := rfl
theorem mdX7_act : MD yX7_act wsX7_act cX7_act 2 none 0 := ⟨⟨_, rfl⟩, by decide +kernel, by decide +kernel, by decide +kernel⟩
theorem mdX7_append : MD yX7_append wsX7_append cX7_append 2 (some .int) 1 := ⟨⟨_, rfl⟩, by decide +kernel, by decide +kernel, by decide +kernel⟩
theorem mdX7_beside : MD yX7_beside wsX7_beside cX7_beside 4 (some .int) 2 := ⟨⟨_, rfl⟩, by decide +kernel, by decide +kernel, by decide +kernel⟩
theorem mdX7_bestPins : MD yX7_bestPins wsX7_bestPins cX7_bestPins 7 (some .int) 1 := ⟨⟨_, rfl⟩, by decide +kernel, by decide +kernel, by decide +kernel⟩
theorem mdX7_carve : MD yX7_carve wsX7_carve cX7_carve 7 (some .int) 4 := ⟨⟨_, rfl⟩, by decide +kernel, by decide +kernel, by decide +kernel⟩
theorem mdX7_cell : MD yX7_cell wsX7_cell cX7_cell 5 (some .int) 3 := ⟨⟨_, rfl⟩, by decide +kernel, by decide +kernel, by decide +kernel⟩
theorem mdX7_check : MD yX7_check wsX7_check cX7_check 7 none 2 := ⟨⟨_, rfl⟩, by decide +kernel, by decide +kernel, by decide +kernel⟩
theorem mdX7_checkNow : MD yX7_checkNow wsX7_checkNow cX7_checkNow 1 none 0 := ⟨⟨_, rfl⟩, by decide +kernel, by decide +kernel, by decide +kernel⟩
theorem mdX7_clearText : MD yX7_clearText wsX7_clearText cX7_clearText 2 (some .int) 0 := ⟨⟨_, rfl⟩, by decide +kernel, by decide +kernel, by decide +kernel⟩
theorem mdX7_count : MD yX7_count wsX7_count cX7_count 2 (some .int) 1 := ⟨⟨_, rfl⟩, by decide +kernel, by decide +kernel, by decide +kernel⟩
theorem mdX7_cut : MD yX7_cut wsX7_cut cX7_cut 3 (some .int) 1 := ⟨⟨_, rfl⟩, by decide +kernel, by decide +kernel, by decide +kernel⟩
theorem mdX7_expect : MD yX7_expect wsX7_expect cX7_expect 2 none 1 := ⟨⟨_, rfl⟩, by decide +kernel, by decide +kernel, by decide +kernel⟩
theorem mdX7_fail : MD yX7_fail wsX7_fail cX7_fail 2 none 1 := ⟨⟨_, rfl⟩, by decide +kernel, by decide +kernel, by decide +kernel⟩
theorem mdX7_faults : MD yX7_faults wsX7_faults cX7_faults 4 (some .int) 3 := ⟨⟨_, rfl⟩, by decide +kernel, by decide +kernel, by decide +kernel⟩
theorem mdX7_hasGapsWithin : MD yX7_hasGapsWithin wsX7_hasGapsWithin cX7_hasGapsWithin 4 (some .boolean) 1 := ⟨⟨_, rfl⟩, by decide +kernel, by decide +kernel, by decide +kernel⟩
theorem mdX7_here : MD yX7_here wsX7_here cX7_here 1 (some .int) 0 := ⟨⟨_, rfl⟩, by decide +kernel, by decide +kernel, by decide +kernel⟩
theorem mdX7_in : MD yX7_in wsX7_in cX7_in 3 (some .boolean) 3 := ⟨⟨_, rfl⟩, by decide +kernel, by decide +kernel, by decide +kernel⟩
theorem mdX7_inked : MD yX7_inked wsX7_inked cX7_inked 1 (some .int) 0 := ⟨⟨_, rfl⟩, by decide +kernel, by decide +kernel, by decide +kernel⟩
theorem mdX7_isCell : MD yX7_isCell wsX7_isCell cX7_isCell 2 (some .boolean) 2 := ⟨⟨_, rfl⟩, by decide +kernel, by decide +kernel, by decide +kernel⟩
theorem mdX7_isDigit : MD yX7_isDigit wsX7_isDigit cX7_isDigit 1 (some .boolean) 0 := ⟨⟨_, rfl⟩, by decide +kernel, by decide +kernel, by decide +kernel⟩
theorem mdX7_isNextTo : MD yX7_isNextTo wsX7_isNextTo cX7_isNextTo 6 (some .boolean) 2 := ⟨⟨_, rfl⟩, by decide +kernel, by decide +kernel, by decide +kernel⟩
theorem mdX7_isSetting : MD yX7_isSetting wsX7_isSetting cX7_isSetting 2 (some .boolean) 2 := ⟨⟨_, rfl⟩, by decide +kernel, by decide +kernel, by decide +kernel⟩
theorem mdX7_isShift : MD yX7_isShift wsX7_isShift cX7_isShift 2 (some .boolean) 2 := ⟨⟨_, rfl⟩, by decide +kernel, by decide +kernel, by decide +kernel⟩
theorem mdX7_isTinted : MD yX7_isTinted wsX7_isTinted cX7_isTinted 5 (some .boolean) 4 := ⟨⟨_, rfl⟩, by decide +kernel, by decide +kernel, by decide +kernel⟩
theorem mdX7_isWell : MD yX7_isWell wsX7_isWell cX7_isWell 1 (some .boolean) 0 := ⟨⟨_, rfl⟩, by decide +kernel, by decide +kernel, by decide +kernel⟩
theorem mdX7_isWorn : MD yX7_isWorn wsX7_isWorn cX7_isWorn 2 (some .boolean) 1 := ⟨⟨_, rfl⟩, by decide +kernel, by decide +kernel, by decide +kernel⟩
theorem mdX7_kind : MD yX7_kind wsX7_kind cX7_kind 3 (some .int) 0 := ⟨⟨_, rfl⟩, by decide +kernel, by decide +kernel, by decide +kernel⟩
theorem mdX7_lay : MD yX7_lay wsX7_lay cX7_lay 2 none 0 := ⟨⟨_, rfl⟩, by decide +kernel, by decide +kernel, by decide +kernel⟩
theorem mdX7_layCut : MD yX7_layCut wsX7_layCut cX7_layCut 3 none 1 := ⟨⟨_, rfl⟩, by decide +kernel, by decide +kernel, by decide +kernel⟩
theorem mdX7_load : MD yX7_load wsX7_load cX7_load 3 (some .int) 0 := ⟨⟨_, rfl⟩, by decide +kernel, by decide +kernel, by decide +kernel⟩
theorem mdX7_look : MD yX7_look wsX7_look cX7_look 5 (some .int) 4 := ⟨⟨_, rfl⟩, by decide +kernel, by decide +kernel, by decide +kernel⟩
theorem mdX7_many : MD yX7_many wsX7_many cX7_many 5 (some .int) 2 := ⟨⟨_, rfl⟩, by decide +kernel, by decide +kernel, by decide +kernel⟩
theorem mdX7_measure : MD yX7_measure wsX7_measure cX7_measure 4 none 0 := ⟨⟨_, rfl⟩, by decide +kernel, by decide +kernel, by decide +kernel⟩
theorem mdX7_number : MD yX7_number wsX7_number cX7_number 6 (some .int) 2 := ⟨⟨_, rfl⟩, by decide +kernel, by decide +kernel, by decide +kernel⟩
theorem mdX7_paint : MD yX7_paint wsX7_paint cX7_paint 10 (some .int) 5 := ⟨⟨_, rfl⟩, by decide +kernel, by decide +kernel, by decide +kernel⟩
theorem mdX7_plug : MD yX7_plug wsX7_plug cX7_plug 3 (some .int) 2 := ⟨⟨_, rfl⟩, by decide +kernel, by decide +kernel, by decide +kernel⟩
theorem mdX7_print : MD yX7_print wsX7_print cX7_print 4 (some .int) 1 := ⟨⟨_, rfl⟩, by decide +kernel, by decide +kernel, by decide +kernel⟩
theorem mdX7_printOne : MD yX7_printOne wsX7_printOne cX7_printOne 3 none 0 := ⟨⟨_, rfl⟩, by decide +kernel, by decide +kernel, by decide +kernel⟩
theorem mdX7_printed : MD yX7_printed wsX7_printed cX7_printed 5 (some .int) 4 := ⟨⟨_, rfl⟩, by decide +kernel, by decide +kernel, by decide +kernel⟩
theorem mdX7_printsLeft : MD yX7_printsLeft wsX7_printsLeft cX7_printsLeft 4 (some .int) 0 := ⟨⟨_, rfl⟩, by decide +kernel, by decide +kernel, by decide +kernel⟩
theorem mdX7_proof : MD yX7_proof wsX7_proof cX7_proof 5 (some .int) 2 := ⟨⟨_, rfl⟩, by decide +kernel, by decide +kernel, by decide +kernel⟩
theorem mdX7_readRow : MD yX7_readRow wsX7_readRow cX7_readRow 2 none 0 := ⟨⟨_, rfl⟩, by decide +kernel, by decide +kernel, by decide +kernel⟩
theorem mdX7_readRun : MD yX7_readRun wsX7_readRun cX7_readRun 7 none 2 := ⟨⟨_, rfl⟩, by decide +kernel, by decide +kernel, by decide +kernel⟩
theorem mdX7_restore : MD yX7_restore wsX7_restore cX7_restore 4 (some .int) 1 := ⟨⟨_, rfl⟩, by decide +kernel, by decide +kernel, by decide +kernel⟩
theorem mdX7_rubs : MD yX7_rubs wsX7_rubs cX7_rubs 5 (some .int) 1 := ⟨⟨_, rfl⟩, by decide +kernel, by decide +kernel, by decide +kernel⟩
theorem mdX7_set : MD yX7_set wsX7_set cX7_set 4 (some .int) 2 := ⟨⟨_, rfl⟩, by decide +kernel, by decide +kernel, by decide +kernel⟩
theorem mdX7_setPins : MD yX7_setPins wsX7_setPins cX7_setPins 3 (some .int) 2 := ⟨⟨_, rfl⟩, by decide +kernel, by decide +kernel, by decide +kernel⟩
theorem mdX7_shiftX : MD yX7_shiftX wsX7_shiftX cX7_shiftX 2 (some .int) 1 := ⟨⟨_, rfl⟩, by decide +kernel, by decide +kernel, by decide +kernel⟩
theorem mdX7_shiftY : MD yX7_shiftY wsX7_shiftY cX7_shiftY 2 (some .int) 1 := ⟨⟨_, rfl⟩, by decide +kernel, by decide +kernel, by decide +kernel⟩
theorem mdX7_skip : MD yX7_skip wsX7_skip cX7_skip 1 none 0 := ⟨⟨_, rfl⟩, by decide +kernel, by decide +kernel, by decide +kernel⟩
theorem mdX7_take : MD yX7_take wsX7_take cX7_take 4 (some .int) 1 := ⟨⟨_, rfl⟩, by decide +kernel, by decide +kernel, by decide +kernel⟩
theorem mdX7_tolerance : MD yX7_tolerance wsX7_tolerance cX7_tolerance 2 (some .int) 0 := ⟨⟨_, rfl⟩, by decide +kernel, by decide +kernel, by decide +kernel⟩
theorem mdX7_trapFor : MD yX7_trapFor wsX7_trapFor cX7_trapFor 3 (some .int) 1 := ⟨⟨_, rfl⟩, by decide +kernel, by decide +kernel, by decide +kernel⟩
theorem mdX7_undo : MD yX7_undo wsX7_undo cX7_undo 2 (some .int) 0 := ⟨⟨_, rfl⟩, by decide +kernel, by decide +kernel, by decide +kernel⟩
theorem mdX7_why : MD yX7_why wsX7_why cX7_why 6 (some .int) 2 := ⟨⟨_, rfl⟩, by decide +kernel, by decide +kernel, by decide +kernel⟩
theorem mdX7_wornCells : MD yX7_wornCells wsX7_wornCells cX7_wornCells 3 (some .int) 0 := ⟨⟨_, rfl⟩, by decide +kernel, by decide +kernel, by decide +kernel⟩
set_option maxHeartbeats 4000000 in
set_option maxRecDepth 100000 in
theorem zX7_in {g : aG} {l : Launch} {σ : aS} (v a b : Int32) : CN g l yX7_in wsX7_in 0 0 [.int v, .int a, .int b] σ (some (.int (b2 (wi v a b)))) σ := by
  refine cn_of (cc := cX7_in) (nL := 3) (ret := (some .boolean)) (own := RX7) (by decide +kernel) rfl rfl (Nat.le_of_ble_eq_true rfl) (fun K hg hl hK hE => ?_)
  subst hg; subst hl
  show AW K 0 [some (.int v), some (.int a), some (.int b)] [] σ
  refine s_iload0 hK dX7_in_0 ?_
  refine s_iload1 hK dX7_in_1 ?_
  refine s_icmp_lt (tgt := 14) hK dX7_in_2 (by decide) (fun c_2 => ?_) (fun c_2 => ?_)
  · refine s_iconst (v := 0) hK dX7_in_14 (by decide) ?_
    exact s_iret hK hE dX7_in_15 (by decide) (by simp [b2, wi, *]) (rfl)
  · refine s_iload0 hK dX7_in_5 ?_
    refine s_iload2 hK dX7_in_6 ?_
    refine s_icmp_gt (tgt := 14) hK dX7_in_7 (by decide) (fun c_7 => ?_) (fun c_7 => ?_)
    · refine s_iconst (v := 0) hK dX7_in_14 (by decide) ?_
      exact s_iret hK hE dX7_in_15 (by decide) (by simp [b2, wi, *]) (rfl)
    · refine s_iconst (v := 1) hK dX7_in_10 (by decide) ?_
      refine s_goto (tgt := 15) hK dX7_in_11 (by decide) ?_
      exact s_iret hK hE dX7_in_15 (by decide) (by simp [b2, wi, *]) (rfl)
set_option maxHeartbeats 4000000 in
set_option maxRecDepth 100000 in
theorem zX7_isCell {g : aG} {l : Launch} {σ : aS} (x y : Int32) : CN g l yX7_isCell wsX7_isCell 1 22 [.int x, .int y] σ (some (.int (b2 (pl x y)))) σ := by
  refine cn_of (cc := cX7_isCell) (nL := 2) (ret := (some .boolean)) (own := RX7) (by decide +kernel) rfl rfl (Nat.le_of_ble_eq_true rfl) (fun K hg hl hK hE => ?_)
  subst hg; subst hl
  show AW K 0 [some (.int x), some (.int y)] [] σ
  refine s_iload0 hK dX7_isCell_0 ?_
  refine s_iconst (v := 0) hK dX7_isCell_1 (by decide) ?_
  refine s_bipush (v := 15) hK dX7_isCell_2 (by decide) ?_
  refine s_callS hK mdX7_in (zX7_in _ _ _) gX7_isCell_X7_in rfl ⟨Nat.le_of_ble_eq_true rfl, Nat.le_of_ble_eq_true rfl⟩ rfl (Nat.le_of_ble_eq_true rfl) dX7_isCell_4 ?_
  try dsimp only [Option.toList, List.cons_append, List.nil_append]
  refine s_if_eq (tgt := 24) hK dX7_isCell_7 (by decide) (fun c_7 => ?_) (fun c_7 => ?_)
  · refine s_iconst (v := 0) hK dX7_isCell_24 (by decide) ?_
    exact s_iret hK hE dX7_isCell_25 (by decide) (by first | (have q1 := b2n c_7; have q2 := b2n c_17; rw [← pl_wi, q1, q2]; rfl) | (have q2 := b2y c_17; rw [← pl_wi, q2, Bool.and_false]; rfl) | (have q1 := b2y c_7; rw [← pl_wi, q1, Bool.false_and]; rfl)) (rfl)
  · refine s_iload1 hK dX7_isCell_10 ?_
    refine s_iconst (v := 0) hK dX7_isCell_11 (by decide) ?_
    refine s_bipush (v := 11) hK dX7_isCell_12 (by decide) ?_
    refine s_callS hK mdX7_in (zX7_in _ _ _) gX7_isCell_X7_in rfl ⟨Nat.le_of_ble_eq_true rfl, Nat.le_of_ble_eq_true rfl⟩ rfl (Nat.le_of_ble_eq_true rfl) dX7_isCell_14 ?_
    try dsimp only [Option.toList, List.cons_append, List.nil_append]
    refine s_if_eq (tgt := 24) hK dX7_isCell_17 (by decide) (fun c_17 => ?_) (fun c_17 => ?_)
    · refine s_iconst (v := 0) hK dX7_isCell_24 (by decide) ?_
      exact s_iret hK hE dX7_isCell_25 (by decide) (by first | (have q1 := b2n c_7; have q2 := b2n c_17; rw [← pl_wi, q1, q2]; rfl) | (have q2 := b2y c_17; rw [← pl_wi, q2, Bool.and_false]; rfl) | (have q1 := b2y c_7; rw [← pl_wi, q1, Bool.false_and]; rfl)) (rfl)
    · refine s_iconst (v := 1) hK dX7_isCell_20 (by decide) ?_
      refine s_goto (tgt := 25) hK dX7_isCell_21 (by decide) ?_
      exact s_iret hK hE dX7_isCell_25 (by decide) (by first | (have q1 := b2n c_7; have q2 := b2n c_17; rw [← pl_wi, q1, q2]; rfl) | (have q2 := b2y c_17; rw [← pl_wi, q2, Bool.and_false]; rfl) | (have q1 := b2y c_7; rw [← pl_wi, q1, Bool.false_and]; rfl)) (rfl)
set_option maxHeartbeats 4000000 in
set_option maxRecDepth 100000 in
theorem zX7_isShift {g : aG} {l : Launch} {σ : aS} (x y : Int32) : CN g l yX7_isShift wsX7_isShift 1 22 [.int x, .int y] σ (some (.int (b2 (sh x y)))) σ := by
  refine cn_of (cc := cX7_isShift) (nL := 2) (ret := (some .boolean)) (own := RX7) (by decide +kernel) rfl rfl (Nat.le_of_ble_eq_true rfl) (fun K hg hl hK hE => ?_)
  subst hg; subst hl
  show AW K 0 [some (.int x), some (.int y)] [] σ
  refine s_iload0 hK dX7_isShift_0 ?_
  refine s_bipush (v := -8) hK dX7_isShift_1 (by decide) ?_
  refine s_bipush (v := 8) hK dX7_isShift_3 (by decide) ?_
  refine s_callS hK mdX7_in (zX7_in _ _ _) gX7_isShift_X7_in rfl ⟨Nat.le_of_ble_eq_true rfl, Nat.le_of_ble_eq_true rfl⟩ rfl (Nat.le_of_ble_eq_true rfl) dX7_isShift_5 ?_
  try dsimp only [Option.toList, List.cons_append, List.nil_append]
  refine s_if_eq (tgt := 26) hK dX7_isShift_8 (by decide) (fun c_8 => ?_) (fun c_8 => ?_)
  · refine s_iconst (v := 0) hK dX7_isShift_26 (by decide) ?_
    exact s_iret hK hE dX7_isShift_27 (by decide) (by first | (have q1 := b2n c_8; have q2 := b2n c_19; rw [sh, q1, q2]; rfl) | (have q2 := b2y c_19; rw [sh, q2, Bool.and_false]; rfl) | (have q1 := b2y c_8; rw [sh, q1, Bool.false_and]; rfl)) (rfl)
  · refine s_iload1 hK dX7_isShift_11 ?_
    refine s_bipush (v := -8) hK dX7_isShift_12 (by decide) ?_
    refine s_bipush (v := 8) hK dX7_isShift_14 (by decide) ?_
    refine s_callS hK mdX7_in (zX7_in _ _ _) gX7_isShift_X7_in rfl ⟨Nat.le_of_ble_eq_true rfl, Nat.le_of_ble_eq_true rfl⟩ rfl (Nat.le_of_ble_eq_true rfl) dX7_isShift_16 ?_
    try dsimp only [Option.toList, List.cons_append, List.nil_append]
    refine s_if_eq (tgt := 26) hK dX7_isShift_19 (by decide) (fun c_19 => ?_) (fun c_19 => ?_)
    · refine s_iconst (v := 0) hK dX7_isShift_26 (by decide) ?_
      exact s_iret hK hE dX7_isShift_27 (by decide) (by first | (have q1 := b2n c_8; have q2 := b2n c_19; rw [sh, q1, q2]; rfl) | (have q2 := b2y c_19; rw [sh, q2, Bool.and_false]; rfl) | (have q1 := b2y c_8; rw [sh, q1, Bool.false_and]; rfl)) (rfl)
    · refine s_iconst (v := 1) hK dX7_isShift_22 (by decide) ?_
      refine s_goto (tgt := 27) hK dX7_isShift_23 (by decide) ?_
      exact s_iret hK hE dX7_isShift_27 (by decide) (by first | (have q1 := b2n c_8; have q2 := b2n c_19; rw [sh, q1, q2]; rfl) | (have q2 := b2y c_19; rw [sh, q2, Bool.and_false]; rfl) | (have q1 := b2y c_8; rw [sh, q1, Bool.false_and]; rfl)) (rfl)
set_option maxHeartbeats 4000000 in
set_option maxRecDepth 100000 in
theorem zX7_act_lt {g : aG} {l : Launch} {σ : aS} (q : Nat) (hq : q < 5) (h3 : σ 700 3 = nI q) : CN g l yX7_act wsX7_act 0 0 [.ref 700] σ none (aC σ q) := by
  refine cn_of (cc := cX7_act) (nL := 2) (ret := none) (own := RX7) (by decide +kernel) rfl rfl (Nat.le_of_ble_eq_true rfl) (fun K hg hl hK hE => ?_)
  subst hg; subst hl
  have i_7 : ∀ w ∈ u_ws RX7 TX7 15, w ∈ wsX7_act := by decide +kernel
  show AW K 0 [some (.ref 700), none] [] σ
  have hx1 : AW K 51 [some (.ref 700), some (.int (nI 2374))] [] (sP σ 702 (fb_put (σ 702) (σ 701) (2374 * q) 2374)) := by
    refine s_iload1 hK dX7_act_51 ?_
    refine s_sipush (v := 2374) hK dX7_act_52 (by decide) ?_
    refine s_icmp_ge (tgt := 85) hK dX7_act_55 (by decide) (fun c_55 => ?_) (fun c_55 => absurd c_55 (fun q => q (ge_E rfl rfl)))
    refine s_aload0 hK dX7_act_85 ?_
    refine s_dup hK dX7_act_86 ?_
    refine s_getiv (v := nI q) (by rw [sP_ne (by decide)]; exact h3) (ci := 7) (k := 3) hK rfl rfl i_7 (by decide +kernel) dX7_act_87 (by decide) (by decide) (by decide) rfl rfl ?_
    refine s_iconst (v := 1) hK dX7_act_90 (by decide) ?_
    refine s_iadd hK dX7_act_91 ?_
    rw [nI_1]
    refine s_putg (ci := 7) (k := 3) (ty := .int) hK rfl rfl i_7 (by decide +kernel) dX7_act_92 tyX7_ok nmX7 (by decide) (by decide) (by decide) rfl rfl rfl (by decide +kernel) rfl rfl ?_
    exact s_vret hK hE dX7_act_95 (rfl)
  have hb1 : ∀ k1 : Nat, k1 < 2374 → AW K 51 [some (.ref 700), some (.int (nI (k1 + 1)))] [] (sP σ 702 (fb_put (σ 702) (σ 701) (2374 * q) (k1 + 1))) → AW K 51 [some (.ref 700), some (.int (nI k1))] [] (sP σ 702 (fb_put (σ 702) (σ 701) (2374 * q) k1)) := by
    intro k1 hk1 ih1 
    refine s_iload1 hK dX7_act_51 ?_
    refine s_sipush (v := 2374) hK dX7_act_52 (by decide) ?_
    refine s_icmp_ge (tgt := 85) hK dX7_act_55 (by decide) (fun c_55 => absurd c_55 (ge_N rfl rfl hk1 (by decide))) (fun c_55 => ?_)
    refine s_aload0 hK dX7_act_58 ?_
    refine s_getr (ci := 7) (k := 2) hK rfl rfl i_7 (by decide +kernel) dX7_act_59 (by decide) (by decide) (by decide) rfl rfl (rf_7_2 rfl) ?_
    refine s_sipush (v := 2374) hK dX7_act_62 (by decide) ?_
    refine s_aload0 hK dX7_act_65 ?_
    refine s_getiv (v := nI q) (by rw [sP_ne (by decide)]; exact h3) (ci := 7) (k := 3) hK rfl rfl i_7 (by decide +kernel) dX7_act_66 (by decide) (by decide) (by decide) rfl rfl ?_
    refine s_imul hK dX7_act_69 ?_
    refine s_iload1 hK dX7_act_70 ?_
    refine s_iadd hK dX7_act_71 ?_
    rw [show (2374 : Int32) = nI 2374 from rfl, pk_mul, nI_add]
    refine s_aload0 hK dX7_act_72 ?_
    refine s_getr (ci := 7) (k := 1) hK rfl rfl i_7 (by decide +kernel) dX7_act_73 (by decide) (by decide) (by decide) rfl rfl (rf_7_1 rfl) ?_
    refine s_iload1 hK dX7_act_76 ?_
    refine s_iald hK rfl (show vp_in _ 2374 from vp_in_nI hk1 (by decide)) dX7_act_77 ?_
    rw [sP_ne (by decide), cl_nI (show k1 < 2 ^ 31 by omega)]
    refine s_iast hK rfl (show vp_in _ 11870 from vp_in_nI (show 2374 * q + k1 < 11870 by omega) (by decide)) dX7_act_78 ?_
    rw [sP_sP, sP_same, cl_nI (show 2374 * q + k1 < 2 ^ 31 by omega), fb_put_succ]
    refine s_iinc1 hK dX7_act_79 (hv_1 _) ?_
    refine s_goto (tgt := 51) hK dX7_act_82 (by decide) ?_
    exact AW.to ih1 (by rw [nI_1]) (rfl)
  refine s_aload0 hK dX7_act_0 ?_
  refine s_getiv (v := nI q) (h3) (ci := 7) (k := 3) hK rfl rfl i_7 (by decide +kernel) dX7_act_1 (by decide) (by decide) (by decide) rfl rfl ?_
  refine s_iconst (v := 5) hK dX7_act_4 (by decide) ?_
  refine s_icmp_ne (tgt := 49) hK dX7_act_5 (by decide) (fun c_5 => ?_) (fun c_5 => absurd c_5 (fun e => absurd ((nI_eq (b := 5) (by omega) (by decide)).mp e) (by omega)))
  refine s_iconst (v := 0) hK dX7_act_49 (by decide) ?_
  refine s_istore1 hK dX7_act_50 ?_
  exact AW.to (up_to (fun kx => AW K 51 [some (.ref 700), some (.int (nI kx))] [] (sP σ 702 (fb_put (σ 702) (σ 701) (2374 * q) kx))) 2374 hx1 hb1) (rfl) (by rw [fb_put_0, sP_id])
theorem aC1_701 (σ : aS) : aC1 σ 701 = σ 701 := by
  unfold aC1
  rw [sP_ne (by decide), sP_ne (by decide)]
theorem aC1_3 (σ : aS) : aC1 σ 700 3 = nI 4 := by
  unfold aC1
  rw [sP_same]
  simp [upd]
set_option maxHeartbeats 4000000 in
set_option maxRecDepth 100000 in
theorem zX7_act_5 {g : aG} {l : Launch} {σ : aS} (h3 : σ 700 3 = nI 5) : CN g l yX7_act wsX7_act 0 0 [.ref 700] σ none (aC (aC1 σ) 4) := by
  refine cn_of (cc := cX7_act) (nL := 2) (ret := none) (own := RX7) (by decide +kernel) rfl rfl (Nat.le_of_ble_eq_true rfl) (fun K hg hl hK hE => ?_)
  subst hg; subst hl
  have i_7 : ∀ w ∈ u_ws RX7 TX7 15, w ∈ wsX7_act := by decide +kernel
  show AW K 0 [some (.ref 700), none] [] σ
  have h4 := aC1_3 σ
  have hx2 : AW K 51 [some (.ref 700), some (.int (nI 2374))] [] (sP (aC1 σ) 702 (fb_put (aC1 σ 702) (σ 701) (2374 * 4) 2374)) := by
    refine s_iload1 hK dX7_act_51 ?_
    refine s_sipush (v := 2374) hK dX7_act_52 (by decide) ?_
    refine s_icmp_ge (tgt := 85) hK dX7_act_55 (by decide) (fun c_55 => ?_) (fun c_55 => absurd c_55 (fun q => q (ge_E rfl rfl)))
    refine s_aload0 hK dX7_act_85 ?_
    refine s_dup hK dX7_act_86 ?_
    refine s_getiv (v := nI 4) (by rw [sP_ne (by decide)]; exact h4) (ci := 7) (k := 3) hK rfl rfl i_7 (by decide +kernel) dX7_act_87 (by decide) (by decide) (by decide) rfl rfl ?_
    refine s_iconst (v := 1) hK dX7_act_90 (by decide) ?_
    refine s_iadd hK dX7_act_91 ?_
    rw [nI_1]
    refine s_putg (ci := 7) (k := 3) (ty := .int) hK rfl rfl i_7 (by decide +kernel) dX7_act_92 tyX7_ok nmX7 (by decide) (by decide) (by decide) rfl rfl rfl (by decide +kernel) rfl rfl ?_
    exact s_vret hK hE dX7_act_95 (by unfold aC; rw [aC1_701, sP_ne (by decide)])
  have hb2 : ∀ k2 : Nat, k2 < 2374 → AW K 51 [some (.ref 700), some (.int (nI (k2 + 1)))] [] (sP (aC1 σ) 702 (fb_put (aC1 σ 702) (σ 701) (2374 * 4) (k2 + 1))) → AW K 51 [some (.ref 700), some (.int (nI k2))] [] (sP (aC1 σ) 702 (fb_put (aC1 σ 702) (σ 701) (2374 * 4) k2)) := by
    intro k2 hk2 ih2 
    refine s_iload1 hK dX7_act_51 ?_
    refine s_sipush (v := 2374) hK dX7_act_52 (by decide) ?_
    refine s_icmp_ge (tgt := 85) hK dX7_act_55 (by decide) (fun c_55 => absurd c_55 (ge_N rfl rfl hk2 (by decide))) (fun c_55 => ?_)
    refine s_aload0 hK dX7_act_58 ?_
    refine s_getr (ci := 7) (k := 2) hK rfl rfl i_7 (by decide +kernel) dX7_act_59 (by decide) (by decide) (by decide) rfl rfl (rf_7_2 rfl) ?_
    refine s_sipush (v := 2374) hK dX7_act_62 (by decide) ?_
    refine s_aload0 hK dX7_act_65 ?_
    refine s_getiv (v := nI 4) (by rw [sP_ne (by decide)]; exact h4) (ci := 7) (k := 3) hK rfl rfl i_7 (by decide +kernel) dX7_act_66 (by decide) (by decide) (by decide) rfl rfl ?_
    refine s_imul hK dX7_act_69 ?_
    refine s_iload1 hK dX7_act_70 ?_
    refine s_iadd hK dX7_act_71 ?_
    rw [show (2374 : Int32) = nI 2374 from rfl, pk_mul, nI_add]
    refine s_aload0 hK dX7_act_72 ?_
    refine s_getr (ci := 7) (k := 1) hK rfl rfl i_7 (by decide +kernel) dX7_act_73 (by decide) (by decide) (by decide) rfl rfl (rf_7_1 rfl) ?_
    refine s_iload1 hK dX7_act_76 ?_
    refine s_iald hK rfl (show vp_in _ 2374 from vp_in_nI hk2 (by decide)) dX7_act_77 ?_
    rw [sP_ne (by decide), aC1_701, cl_nI (show k2 < 2 ^ 31 by omega)]
    refine s_iast hK rfl (show vp_in _ 11870 from vp_in_nI (show 2374 * 4 + k2 < 11870 by omega) (by decide)) dX7_act_78 ?_
    rw [sP_sP, sP_same, cl_nI (show 2374 * 4 + k2 < 2 ^ 31 by omega), fb_put_succ]
    refine s_iinc1 hK dX7_act_79 (hv_1 _) ?_
    refine s_goto (tgt := 51) hK dX7_act_82 (by decide) ?_
    exact AW.to ih2 (by rw [nI_1]) (rfl)
  have hx1 : AW K 10 [some (.ref 700), some (.int (nI 9496))] [] (sP σ 702 (fa_fill (fun j => σ 702 (j + 2374)) (σ 702) 9496)) := by
    refine s_iload1 hK dX7_act_10 ?_
    refine s_sipush (v := 9496) hK dX7_act_11 (by decide) ?_
    refine s_icmp_ge (tgt := 39) hK dX7_act_14 (by decide) (fun c_14 => ?_) (fun c_14 => absurd c_14 (fun q => q (ge_E rfl rfl)))
    refine s_aload0 hK dX7_act_39 ?_
    refine s_dup hK dX7_act_40 ?_
    refine s_getiv (v := nI 5) (by rw [sP_ne (by decide)]; exact h3) (ci := 7) (k := 3) hK rfl rfl i_7 (by decide +kernel) dX7_act_41 (by decide) (by decide) (by decide) rfl rfl ?_
    refine s_iconst (v := 1) hK dX7_act_44 (by decide) ?_
    refine s_isub hK dX7_act_45 ?_
    rw [show nI 5 - 1 = nI 4 from by decide]
    refine s_putg (ci := 7) (k := 3) (ty := .int) hK rfl rfl i_7 (by decide +kernel) dX7_act_46 tyX7_ok nmX7 (by decide) (by decide) (by decide) rfl rfl rfl (by decide +kernel) rfl rfl ?_
    show AW K _ _ _ (aC1 σ)
    refine s_iconst (v := 0) hK dX7_act_49 (by decide) ?_
    refine s_istore1 hK dX7_act_50 ?_
    exact AW.to (up_to (fun kx => AW K 51 [some (.ref 700), some (.int (nI kx))] [] (sP (aC1 σ) 702 (fb_put (aC1 σ 702) (σ 701) (2374 * 4) kx))) 2374 hx2 hb2) (rfl) (by rw [fb_put_0, sP_id])
  have hb1 : ∀ k1 : Nat, k1 < 9496 → AW K 10 [some (.ref 700), some (.int (nI (k1 + 1)))] [] (sP σ 702 (fa_fill (fun j => σ 702 (j + 2374)) (σ 702) (k1 + 1))) → AW K 10 [some (.ref 700), some (.int (nI k1))] [] (sP σ 702 (fa_fill (fun j => σ 702 (j + 2374)) (σ 702) k1)) := by
    intro k1 hk1 ih1 
    refine s_iload1 hK dX7_act_10 ?_
    refine s_sipush (v := 9496) hK dX7_act_11 (by decide) ?_
    refine s_icmp_ge (tgt := 39) hK dX7_act_14 (by decide) (fun c_14 => absurd c_14 (ge_N rfl rfl hk1 (by decide))) (fun c_14 => ?_)
    refine s_aload0 hK dX7_act_17 ?_
    refine s_getr (ci := 7) (k := 2) hK rfl rfl i_7 (by decide +kernel) dX7_act_18 (by decide) (by decide) (by decide) rfl rfl (rf_7_2 rfl) ?_
    refine s_iload1 hK dX7_act_21 ?_
    refine s_aload0 hK dX7_act_22 ?_
    refine s_getr (ci := 7) (k := 2) hK rfl rfl i_7 (by decide +kernel) dX7_act_23 (by decide) (by decide) (by decide) rfl rfl (rf_7_2 rfl) ?_
    refine s_iload1 hK dX7_act_26 ?_
    refine s_sipush (v := 2374) hK dX7_act_27 (by decide) ?_
    refine s_iadd hK dX7_act_30 ?_
    rw [show (2374 : Int32) = nI 2374 from rfl, nI_add]
    refine s_iald hK rfl (show vp_in _ 11870 from vp_in_nI (show k1 + 2374 < 11870 by omega) (by decide)) dX7_act_31 ?_
    rw [sP_same, cl_nI (show k1 + 2374 < 2 ^ 31 by omega), fa_fill_out (show k1 ≤ k1 + 2374 by omega)]
    refine s_iast hK rfl (show vp_in _ 11870 from vp_in_nI (show k1 < 11870 by omega) (by decide)) dX7_act_32 ?_
    rw [sP_sP, sP_same, cl_nI (show k1 < 2 ^ 31 by omega)]
    refine s_iinc1 hK dX7_act_33 (hv_1 _) ?_
    refine s_goto (tgt := 10) hK dX7_act_36 (by decide) ?_
    exact AW.to ih1 (by rw [nI_1]) (by rw [← fa_fill_succ])
  refine s_aload0 hK dX7_act_0 ?_
  refine s_getiv (v := nI 5) (h3) (ci := 7) (k := 3) hK rfl rfl i_7 (by decide +kernel) dX7_act_1 (by decide) (by decide) (by decide) rfl rfl ?_
  refine s_iconst (v := 5) hK dX7_act_4 (by decide) ?_
  refine s_icmp_ne (tgt := 49) hK dX7_act_5 (by decide) (fun c_5 => absurd c_5 (fun q => q rfl)) (fun c_5 => ?_)
  refine s_iconst (v := 0) hK dX7_act_8 (by decide) ?_
  refine s_istore1 hK dX7_act_9 ?_
  exact AW.to (up_to (fun kx => AW K 10 [some (.ref 700), some (.int (nI kx))] [] (sP σ 702 (fa_fill (fun j => σ 702 (j + 2374)) (σ 702) kx))) 9496 hx1 hb1) (rfl) (by rw [fa_fill_0, sP_id])
set_option maxHeartbeats 4000000 in
set_option maxRecDepth 100000 in
theorem zX7_many {g : aG} {l : Launch} {σ : aS} (F : Nat) (v : Int32) (hF : F + 192 ≤ 2374) : CN g l yX7_many wsX7_many 0 0 [.ref 700, .int (nI F), .int v] σ (some (.int (nI (ct (mN σ F v))))) σ := by
  refine cn_of (cc := cX7_many) (nL := 5) (ret := (some .int)) (own := RX7) (by decide +kernel) rfl rfl (Nat.le_of_ble_eq_true rfl) (fun K hg hl hK hE => ?_)
  subst hg; subst hl
  have i_7 : ∀ w ∈ u_ws RX7 TX7 15, w ∈ wsX7_many := by decide +kernel
  show AW K 0 [some (.ref 700), some (.int (nI F)), some (.int v), none, none] [] σ
  have hx1 : AW K 5 [some (.ref 700), some (.int (nI F)), some (.int v), some (.int (nI (fb_ct (mN σ F v) 192))), some (.int (nI 192))] [] (σ) := by
    refine s_iload4 hK dX7_many_5 ?_
    refine s_sipush (v := 192) hK dX7_many_7 (by decide) ?_
    refine s_icmp_ge (tgt := 40) hK dX7_many_10 (by decide) (fun c_10 => ?_) (fun c_10 => absurd c_10 (fun q => q (ge_E rfl rfl)))
    refine s_iload3 hK dX7_many_40 ?_
    exact s_iret hK hE dX7_many_41 rfl (rfl) (rfl)
  have hb1 : ∀ k1 : Nat, k1 < 192 → AW K 5 [some (.ref 700), some (.int (nI F)), some (.int v), some (.int (nI (fb_ct (mN σ F v) (k1 + 1)))), some (.int (nI (k1 + 1)))] [] (σ) → AW K 5 [some (.ref 700), some (.int (nI F)), some (.int v), some (.int (nI (fb_ct (mN σ F v) k1))), some (.int (nI k1))] [] (σ) := by
    intro k1 hk1 ih1 
    refine s_iload4 hK dX7_many_5 ?_
    refine s_sipush (v := 192) hK dX7_many_7 (by decide) ?_
    refine s_icmp_ge (tgt := 40) hK dX7_many_10 (by decide) (fun c_10 => absurd c_10 (ge_N rfl rfl hk1 (by decide))) (fun c_10 => ?_)
    refine s_iload3 hK dX7_many_13 ?_
    refine AW.cut (j := 32) (v := if σ 701 (F + k1) = v then 1 else 0) (fun hJ_32 => ?_) ?_
    · refine s_aload0 hK dX7_many_14 ?_
      refine s_getr (ci := 7) (k := 1) hK rfl rfl i_7 (by decide +kernel) dX7_many_15 (by decide) (by decide) (by decide) rfl rfl (rf_7_1 rfl) ?_
      refine s_iload1 hK dX7_many_18 ?_
      refine s_iload4 hK dX7_many_19 ?_
      refine s_iadd hK dX7_many_21 ?_
      refine s_iald hK rfl (show vp_in _ 2374 from by rw [ix192]; exact vp_in_nI (show F + k1 < 2374 by omega) (by decide)) dX7_many_22 ?_
      rw [ix192, cl_nI (show F + k1 < 2 ^ 31 by omega)]
      refine s_iload2 hK dX7_many_23 ?_
      refine s_icmp_ne (tgt := 31) hK dX7_many_24 (by decide) (fun c_24 => ?_) (fun c_24 => ?_)
      · refine s_iconst (v := 0) hK dX7_many_31 (by decide) ?_
        exact AW.vv hJ_32 (by simp [c_24])
      · refine s_iconst (v := 1) hK dX7_many_27 (by decide) ?_
        refine s_goto (tgt := 32) hK dX7_many_28 (by decide) ?_
        exact AW.vv hJ_32 (by simp [c_24])
    show AW K _ _ _ _
    refine s_iadd hK dX7_many_32 ?_
    refine s_istore3 hK dX7_many_33 ?_
    refine s_iinc4 hK dX7_many_34 (hv_1 _) ?_
    refine s_goto (tgt := 5) hK dX7_many_37 (by decide) ?_
    exact AW.to ih1 (by rw [nI_1, acc_1 (mN σ F v) k1 (by simp [mN])]) (rfl)
  refine s_iconst (v := 0) hK dX7_many_0 (by decide) ?_
  refine s_istore3 hK dX7_many_1 ?_
  refine s_iconst (v := 0) hK dX7_many_2 (by decide) ?_
  refine s_istore4 hK dX7_many_3 ?_
  exact AW.to (up_to (fun kx => AW K 5 [some (.ref 700), some (.int (nI F)), some (.int v), some (.int (nI (fb_ct (mN σ F v) kx))), some (.int (nI kx))] [] (σ)) 192 hx1 hb1) (rfl) (rfl)
set_option maxHeartbeats 4000000 in
set_option maxRecDepth 100000 in
theorem zX7_inked {g : aG} {l : Launch} {σ : aS} : CN g l yX7_inked wsX7_inked 1 24 [.ref 700] σ (some (.int (192 - nI (ct (mN σ 0 0))))) σ := by
  refine cn_of (cc := cX7_inked) (nL := 1) (ret := (some .int)) (own := RX7) (by decide +kernel) rfl rfl (Nat.le_of_ble_eq_true rfl) (fun K hg hl hK hE => ?_)
  subst hg; subst hl
  show AW K 0 [some (.ref 700)] [] σ
  refine s_sipush (v := 192) hK dX7_inked_0 (by decide) ?_
  refine s_aload0 hK dX7_inked_3 ?_
  refine s_iconst (v := 0) hK dX7_inked_4 (by decide) ?_
  refine s_iconst (v := 0) hK dX7_inked_5 (by decide) ?_
  refine s_callV (ci := 7) hK mdX7_many (zX7_many 0 0 (by decide)) gX7_inked_X7_many rfl rfl rfl (by decide) rfl ⟨Nat.le_of_ble_eq_true rfl, Nat.le_of_ble_eq_true rfl⟩ rfl (Nat.le_of_ble_eq_true rfl) dX7_inked_6 ?_
  try dsimp only [Option.toList, List.cons_append, List.nil_append]
  refine s_isub hK dX7_inked_9 ?_
  exact s_iret hK hE dX7_inked_10 rfl (rfl) (rfl)
set_option maxHeartbeats 4000000 in
set_option maxRecDepth 100000 in
theorem zX7_isWorn {g : aG} {l : Launch} {σ : aS} (k : Nat) (hk : k < 192) : CN g l yX7_isWorn wsX7_isWorn 0 0 [.ref 700, .int (nI k)] σ (some (.int (b2 (wM σ k)))) σ := by
  refine cn_of (cc := cX7_isWorn) (nL := 2) (ret := (some .boolean)) (own := RX7) (by decide +kernel) rfl rfl (Nat.le_of_ble_eq_true rfl) (fun K hg hl hK hE => ?_)
  subst hg; subst hl
  have i_7 : ∀ w ∈ u_ws RX7 TX7 15, w ∈ wsX7_isWorn := by decide +kernel
  show AW K 0 [some (.ref 700), some (.int (nI k))] [] σ
  refine s_aload0 hK dX7_isWorn_0 ?_
  refine s_getr (ci := 7) (k := 1) hK rfl rfl i_7 (by decide +kernel) dX7_isWorn_1 (by decide) (by decide) (by decide) rfl rfl (rf_7_1 rfl) ?_
  refine s_sipush (v := 192) hK dX7_isWorn_4 (by decide) ?_
  refine s_iload1 hK dX7_isWorn_7 ?_
  refine s_iadd hK dX7_isWorn_8 ?_
  rw [show (192 : Int32) = nI 192 from rfl, nI_add]
  refine s_iald hK rfl (show vp_in _ 2374 from vp_in_nI (show 192 + k < 2374 by omega) (by decide)) dX7_isWorn_9 ?_
  rw [cl_nI (show 192 + k < 2 ^ 31 by omega)]
  refine s_iconst (v := 1) hK dX7_isWorn_10 (by decide) ?_
  refine s_icmp_ne (tgt := 39) hK dX7_isWorn_11 (by decide) (fun c_11 => ?_) (fun c_11 => ?_)
  · refine s_iconst (v := 0) hK dX7_isWorn_39 (by decide) ?_
    exact s_iret hK hE dX7_isWorn_40 (by decide) (by simp [b2, wM, *]) (rfl)
  · refine s_aload0 hK dX7_isWorn_14 ?_
    refine s_getr (ci := 7) (k := 1) hK rfl rfl i_7 (by decide +kernel) dX7_isWorn_15 (by decide) (by decide) (by decide) rfl rfl (rf_7_1 rfl) ?_
    refine s_sipush (v := 384) hK dX7_isWorn_18 (by decide) ?_
    refine s_iload1 hK dX7_isWorn_21 ?_
    refine s_iadd hK dX7_isWorn_22 ?_
    rw [show (384 : Int32) = nI 384 from rfl, nI_add]
    refine s_iald hK rfl (show vp_in _ 2374 from vp_in_nI (show 384 + k < 2374 by omega) (by decide)) dX7_isWorn_23 ?_
    rw [cl_nI (show 384 + k < 2 ^ 31 by omega)]
    refine s_aload0 hK dX7_isWorn_24 ?_
    refine s_getr (ci := 7) (k := 1) hK rfl rfl i_7 (by decide +kernel) dX7_isWorn_25 (by decide) (by decide) (by decide) rfl rfl (rf_7_1 rfl) ?_
    refine s_sipush (v := 771) hK dX7_isWorn_28 (by decide) ?_
    refine s_ialdv (v := σ 701 771) (rfl) hK rfl (show vp_in _ 2374 from vp_in_nI (n := 771) (by decide) (by decide)) dX7_isWorn_31 ?_
    refine s_icmp_le (tgt := 39) hK dX7_isWorn_32 (by decide) (fun c_32 => ?_) (fun c_32 => ?_)
    · refine s_iconst (v := 0) hK dX7_isWorn_39 (by decide) ?_
      exact s_iret hK hE dX7_isWorn_40 (by decide) (by simp [b2, wM, *]) (rfl)
    · refine s_iconst (v := 1) hK dX7_isWorn_35 (by decide) ?_
      refine s_goto (tgt := 40) hK dX7_isWorn_36 (by decide) ?_
      exact s_iret hK hE dX7_isWorn_40 (by decide) (by simp [b2, wM, *]) (rfl)
set_option maxHeartbeats 4000000 in
set_option maxRecDepth 100000 in
theorem zX7_wornCells {g : aG} {l : Launch} {σ : aS} : CN g l yX7_wornCells wsX7_wornCells 1 21 [.ref 700] σ (some (.int (nI (ct (wM σ))))) σ := by
  refine cn_of (cc := cX7_wornCells) (nL := 3) (ret := (some .int)) (own := RX7) (by decide +kernel) rfl rfl (Nat.le_of_ble_eq_true rfl) (fun K hg hl hK hE => ?_)
  subst hg; subst hl
  show AW K 0 [some (.ref 700), none, none] [] σ
  have hx1 : AW K 4 [some (.ref 700), some (.int (nI (fb_ct (wM σ) 192))), some (.int (nI 192))] [] (σ) := by
    refine s_iload2 hK dX7_wornCells_4 ?_
    refine s_sipush (v := 192) hK dX7_wornCells_5 (by decide) ?_
    refine s_icmp_ge (tgt := 33) hK dX7_wornCells_8 (by decide) (fun c_8 => ?_) (fun c_8 => absurd c_8 (fun q => q (ge_E rfl rfl)))
    refine s_iload1 hK dX7_wornCells_33 ?_
    exact s_iret hK hE dX7_wornCells_34 rfl (rfl) (rfl)
  have hb1 : ∀ k1 : Nat, k1 < 192 → AW K 4 [some (.ref 700), some (.int (nI (fb_ct (wM σ) (k1 + 1)))), some (.int (nI (k1 + 1)))] [] (σ) → AW K 4 [some (.ref 700), some (.int (nI (fb_ct (wM σ) k1))), some (.int (nI k1))] [] (σ) := by
    intro k1 hk1 ih1 
    refine s_iload2 hK dX7_wornCells_4 ?_
    refine s_sipush (v := 192) hK dX7_wornCells_5 (by decide) ?_
    refine s_icmp_ge (tgt := 33) hK dX7_wornCells_8 (by decide) (fun c_8 => absurd c_8 (ge_N rfl rfl hk1 (by decide))) (fun c_8 => ?_)
    refine s_iload1 hK dX7_wornCells_11 ?_
    refine AW.cut (j := 25) (v := b2 (wM σ k1)) (fun hJ_25 => ?_) ?_
    · refine s_aload0 hK dX7_wornCells_12 ?_
      refine s_iload2 hK dX7_wornCells_13 ?_
      refine s_callV (ci := 7) hK mdX7_isWorn (zX7_isWorn k1 hk1) gX7_wornCells_X7_isWorn rfl rfl rfl (by decide) rfl ⟨Nat.le_of_ble_eq_true rfl, Nat.le_of_ble_eq_true rfl⟩ rfl (Nat.le_of_ble_eq_true rfl) dX7_wornCells_14 ?_
      try dsimp only [Option.toList, List.cons_append, List.nil_append]
      refine s_if_eq (tgt := 24) hK dX7_wornCells_17 (by decide) (fun c_17 => ?_) (fun c_17 => ?_)
      · refine s_iconst (v := 0) hK dX7_wornCells_24 (by decide) ?_
        exact AW.vv hJ_25 (by first | (rw [b2y c_17]; rfl) | (rw [b2n c_17]; rfl))
      · refine s_iconst (v := 1) hK dX7_wornCells_20 (by decide) ?_
        refine s_goto (tgt := 25) hK dX7_wornCells_21 (by decide) ?_
        exact AW.vv hJ_25 (by first | (rw [b2y c_17]; rfl) | (rw [b2n c_17]; rfl))
    show AW K _ _ _ _
    refine s_iadd hK dX7_wornCells_25 ?_
    refine s_istore1 hK dX7_wornCells_26 ?_
    refine s_iinc2 hK dX7_wornCells_27 (hv_1 _) ?_
    refine s_goto (tgt := 4) hK dX7_wornCells_30 (by decide) ?_
    exact AW.to ih1 (by rw [nI_1, acc_b2 (wM σ) k1]) (rfl)
  refine s_iconst (v := 0) hK dX7_wornCells_0 (by decide) ?_
  refine s_istore1 hK dX7_wornCells_1 ?_
  refine s_iconst (v := 0) hK dX7_wornCells_2 (by decide) ?_
  refine s_istore2 hK dX7_wornCells_3 ?_
  exact AW.to (up_to (fun kx => AW K 4 [some (.ref 700), some (.int (nI (fb_ct (wM σ) kx))), some (.int (nI kx))] [] (σ)) 192 hx1 hb1) (rfl) (rfl)
set_option maxHeartbeats 4000000 in
set_option maxRecDepth 100000 in
theorem zX7_beside {g : aG} {l : Launch} {σ : aS} (k s : Int32) : CN g l yX7_beside wsX7_beside 2 43 [.int k, .int s] σ (some (.int (bsR k s))) σ := by
  refine cn_of (cc := cX7_beside) (nL := 4) (ret := (some .int)) (own := RX7) (by decide +kernel) rfl rfl (Nat.le_of_ble_eq_true rfl) (fun K hg hl hK hE => ?_)
  subst hg; subst hl
  show AW K 0 [some (.int k), some (.int s), none, none] [] σ
  refine s_iload0 hK dX7_beside_0 ?_
  refine s_bipush (v := 16) hK dX7_beside_1 (by decide) ?_
  refine s_irem hK dX7_beside_3 (by decide) ?_
  refine AW.cut (j := 22) (v := if s = 0 then -1 else if s = 1 then 1 else 0) (fun hJ_22 => ?_) ?_
  · refine s_iload1 hK dX7_beside_4 ?_
    refine s_if_ne (tgt := 12) hK dX7_beside_5 (by decide) (fun c_5 => ?_) (fun c_5 => ?_)
    · refine s_iload1 hK dX7_beside_12 ?_
      refine s_iconst (v := 1) hK dX7_beside_13 (by decide) ?_
      refine s_icmp_ne (tgt := 21) hK dX7_beside_14 (by decide) (fun c_14 => ?_) (fun c_14 => ?_)
      · refine s_iconst (v := 0) hK dX7_beside_21 (by decide) ?_
        exact AW.vv hJ_22 (by first | (simp [c_5, c_14]; done) | (simp [c_5]; done))
      · refine s_iconst (v := 1) hK dX7_beside_17 (by decide) ?_
        refine s_goto (tgt := 22) hK dX7_beside_18 (by decide) ?_
        exact AW.vv hJ_22 (by first | (simp [c_5, c_14]; done) | (simp [c_5]; done))
    · refine s_iconst (v := -1) hK dX7_beside_8 (by decide) ?_
      refine s_goto (tgt := 22) hK dX7_beside_9 (by decide) ?_
      exact AW.vv hJ_22 (by first | (simp [c_5, c_14]; done) | (simp [c_5]; done))
  show AW K _ _ _ _
  refine s_iadd hK dX7_beside_22 ?_
  refine s_istore2 hK dX7_beside_23 ?_
  refine s_iload0 hK dX7_beside_24 ?_
  refine s_bipush (v := 16) hK dX7_beside_25 (by decide) ?_
  refine s_idiv hK dX7_beside_27 (by decide) ?_
  refine AW.cut (j := 47) (v := if s = 2 then -1 else if s = 3 then 1 else 0) (fun hJ_47 => ?_) ?_
  · refine s_iload1 hK dX7_beside_28 ?_
    refine s_iconst (v := 2) hK dX7_beside_29 (by decide) ?_
    refine s_icmp_ne (tgt := 37) hK dX7_beside_30 (by decide) (fun c_30 => ?_) (fun c_30 => ?_)
    · refine s_iload1 hK dX7_beside_37 ?_
      refine s_iconst (v := 3) hK dX7_beside_38 (by decide) ?_
      refine s_icmp_ne (tgt := 46) hK dX7_beside_39 (by decide) (fun c_39 => ?_) (fun c_39 => ?_)
      · refine s_iconst (v := 0) hK dX7_beside_46 (by decide) ?_
        exact AW.vv hJ_47 (by first | (simp [c_30, c_39]; done) | (simp [c_30]; done))
      · refine s_iconst (v := 1) hK dX7_beside_42 (by decide) ?_
        refine s_goto (tgt := 47) hK dX7_beside_43 (by decide) ?_
        exact AW.vv hJ_47 (by first | (simp [c_30, c_39]; done) | (simp [c_30]; done))
    · refine s_iconst (v := -1) hK dX7_beside_33 (by decide) ?_
      refine s_goto (tgt := 47) hK dX7_beside_34 (by decide) ?_
      exact AW.vv hJ_47 (by first | (simp [c_30, c_39]; done) | (simp [c_30]; done))
  show AW K _ _ _ _
  refine s_iadd hK dX7_beside_47 ?_
  refine s_istore3 hK dX7_beside_48 ?_
  refine s_iload2 hK dX7_beside_49 ?_
  refine s_iload3 hK dX7_beside_50 ?_
  refine s_callS hK mdX7_isCell (zX7_isCell _ _) gX7_beside_X7_isCell rfl ⟨Nat.le_of_ble_eq_true rfl, Nat.le_of_ble_eq_true rfl⟩ rfl (Nat.le_of_ble_eq_true rfl) dX7_beside_51 ?_
  try dsimp only [Option.toList, List.cons_append, List.nil_append]
  refine s_if_eq (tgt := 66) hK dX7_beside_54 (by decide) (fun c_54 => ?_) (fun c_54 => ?_)
  · refine s_iconst (v := -1) hK dX7_beside_66 (by decide) ?_
    exact s_iret hK hE dX7_beside_67 rfl (by first | (rw [bsR, if_pos (b2n c_54)]; done) | (rw [bsR, if_neg (fun e => by have q := b2y c_54; rw [e] at q; cases q)]; done)) (rfl)
  · refine s_bipush (v := 16) hK dX7_beside_57 (by decide) ?_
    refine s_iload3 hK dX7_beside_59 ?_
    refine s_imul hK dX7_beside_60 ?_
    refine s_iload2 hK dX7_beside_61 ?_
    refine s_iadd hK dX7_beside_62 ?_
    refine s_goto (tgt := 67) hK dX7_beside_63 (by decide) ?_
    exact s_iret hK hE dX7_beside_67 rfl (by first | (rw [bsR, if_pos (b2n c_54)]; done) | (rw [bsR, if_neg (fun e => by have q := b2y c_54; rw [e] at q; cases q)]; done)) (rfl)
set_option maxHeartbeats 4000000 in
set_option maxRecDepth 100000 in
theorem zX7_isNextTo {g : aG} {l : Launch} {σ : aS} (k : Nat) (far : Int32) (hk : k < 192) : CN g l yX7_isNextTo wsX7_isNextTo 3 66 [.ref 700, .int (nI k), .int far] σ (some (.int (b2 (anyB (nxP σ k far) 4)))) σ := by
  refine cn_of (cc := cX7_isNextTo) (nL := 6) (ret := (some .boolean)) (own := RX7) (by decide +kernel) rfl rfl (Nat.le_of_ble_eq_true rfl) (fun K hg hl hK hE => ?_)
  subst hg; subst hl
  have i_7 : ∀ w ∈ u_ws RX7 TX7 15, w ∈ wsX7_isNextTo := by decide +kernel
  show AW K 0 [some (.ref 700), some (.int (nI k)), some (.int far), none, none, none] [] σ
  have hx1 : (∀ z5 : Option Value, AW K 5 [some (.ref 700), some (.int (nI k)), some (.int far), some (.int (b2 (anyB (nxP σ k far) 4))), some (.int (nI 4)), z5] [] (σ)) := by
    intro z5
    refine s_iload4 hK dX7_isNextTo_5 ?_
    refine s_iconst (v := 4) hK dX7_isNextTo_7 (by decide) ?_
    refine s_icmp_ge (tgt := 52) hK dX7_isNextTo_8 (by decide) (fun c_8 => ?_) (fun c_8 => absurd c_8 (fun q => q (ge_E rfl rfl)))
    refine s_iload3 hK dX7_isNextTo_52 ?_
    exact s_iret hK hE dX7_isNextTo_53 (b2_z _) (rfl) (rfl)
  have hb1 : ∀ k1 : Nat, k1 < 4 → (∀ z5 : Option Value, AW K 5 [some (.ref 700), some (.int (nI k)), some (.int far), some (.int (b2 (anyB (nxP σ k far) (k1 + 1)))), some (.int (nI (k1 + 1))), z5] [] (σ)) → (∀ z5 : Option Value, AW K 5 [some (.ref 700), some (.int (nI k)), some (.int far), some (.int (b2 (anyB (nxP σ k far) k1))), some (.int (nI k1)), z5] [] (σ)) := by
    intro k1 hk1 ih1 z5
    refine s_iload4 hK dX7_isNextTo_5 ?_
    refine s_iconst (v := 4) hK dX7_isNextTo_7 (by decide) ?_
    refine s_icmp_ge (tgt := 52) hK dX7_isNextTo_8 (by decide) (fun c_8 => absurd c_8 (ge_N rfl rfl hk1 (by decide))) (fun c_8 => ?_)
    refine s_iload1 hK dX7_isNextTo_11 ?_
    refine s_iload4 hK dX7_isNextTo_12 ?_
    refine s_callS hK mdX7_beside (zX7_beside _ _) gX7_isNextTo_X7_beside rfl ⟨Nat.le_of_ble_eq_true rfl, Nat.le_of_ble_eq_true rfl⟩ rfl (Nat.le_of_ble_eq_true rfl) dX7_isNextTo_14 ?_
    try dsimp only [Option.toList, List.cons_append, List.nil_append]
    rw [bs_ok k hk k1 hk1]
    refine s_istore5 hK dX7_isNextTo_17 ?_
    refine AW.cut (j := 45) (v := b2 (anyB (nxP σ k far) (k1 + 1))) (fun hJ_45 => ?_) ?_
    · refine s_iload3 hK dX7_isNextTo_19 ?_
      refine s_if_ne (tgt := 40) hK dX7_isNextTo_20 (by decide) (fun c_20 => ?_) (fun c_20 => ?_)
      · refine s_iconst (v := 1) hK dX7_isNextTo_40 (by decide) ?_
        refine s_goto (tgt := 45) hK dX7_isNextTo_41 (by decide) ?_
        exact AW.vv hJ_45 (by first | (rw [show anyB (nxP σ k far) (k1 + 1) = (anyB (nxP σ k far) k1 || nxP σ k far k1) from rfl, b2n c_20]; rfl) | (rw [show anyB (nxP σ k far) (k1 + 1) = (anyB (nxP σ k far) k1 || nxP σ k far k1) from rfl, b2y c_20]; simp [nxP, b2, c_26, c_37]; done) | (rw [show anyB (nxP σ k far) (k1 + 1) = (anyB (nxP σ k far) k1 || nxP σ k far k1) from rfl, b2y c_20]; simp [nxP, b2, c_26]; done))
      · refine s_iload5 hK dX7_isNextTo_23 ?_
        refine s_iconst (v := -1) hK dX7_isNextTo_25 (by decide) ?_
        refine s_icmp_eq (tgt := 44) hK dX7_isNextTo_26 (by decide) (fun c_26 => ?_) (fun c_26 => ?_)
        · refine s_iconst (v := 0) hK dX7_isNextTo_44 (by decide) ?_
          exact AW.vv hJ_45 (by first | (rw [show anyB (nxP σ k far) (k1 + 1) = (anyB (nxP σ k far) k1 || nxP σ k far k1) from rfl, b2n c_20]; rfl) | (rw [show anyB (nxP σ k far) (k1 + 1) = (anyB (nxP σ k far) k1 || nxP σ k far k1) from rfl, b2y c_20]; simp [nxP, b2, c_26, c_37]; done) | (rw [show anyB (nxP σ k far) (k1 + 1) = (anyB (nxP σ k far) k1 || nxP σ k far k1) from rfl, b2y c_20]; simp [nxP, b2, c_26]; done))
        · refine s_aload0 hK dX7_isNextTo_29 ?_
          refine s_getr (ci := 7) (k := 7) hK rfl rfl i_7 (by decide +kernel) dX7_isNextTo_30 (by decide) (by decide) (by decide) rfl rfl (rf_7_7 rfl) ?_
          refine s_iload5 hK dX7_isNextTo_33 ?_
          refine s_iald hK rfl (show vp_in _ 192 from bsN_v hk hk1 c_26) dX7_isNextTo_35 ?_
          refine s_iload2 hK dX7_isNextTo_36 ?_
          refine s_icmp_ne (tgt := 44) hK dX7_isNextTo_37 (by decide) (fun c_37 => ?_) (fun c_37 => ?_)
          · refine s_iconst (v := 0) hK dX7_isNextTo_44 (by decide) ?_
            exact AW.vv hJ_45 (by first | (rw [show anyB (nxP σ k far) (k1 + 1) = (anyB (nxP σ k far) k1 || nxP σ k far k1) from rfl, b2n c_20]; rfl) | (rw [show anyB (nxP σ k far) (k1 + 1) = (anyB (nxP σ k far) k1 || nxP σ k far k1) from rfl, b2y c_20]; simp [nxP, b2, c_26, c_37]; done) | (rw [show anyB (nxP σ k far) (k1 + 1) = (anyB (nxP σ k far) k1 || nxP σ k far k1) from rfl, b2y c_20]; simp [nxP, b2, c_26]; done))
          · refine s_iconst (v := 1) hK dX7_isNextTo_40 (by decide) ?_
            refine s_goto (tgt := 45) hK dX7_isNextTo_41 (by decide) ?_
            exact AW.vv hJ_45 (by first | (rw [show anyB (nxP σ k far) (k1 + 1) = (anyB (nxP σ k far) k1 || nxP σ k far k1) from rfl, b2n c_20]; rfl) | (rw [show anyB (nxP σ k far) (k1 + 1) = (anyB (nxP σ k far) k1 || nxP σ k far k1) from rfl, b2y c_20]; simp [nxP, b2, c_26, c_37]; done) | (rw [show anyB (nxP σ k far) (k1 + 1) = (anyB (nxP σ k far) k1 || nxP σ k far k1) from rfl, b2y c_20]; simp [nxP, b2, c_26]; done))
    show AW K _ _ _ _
    refine s_istore3 hK dX7_isNextTo_45 ?_
    refine s_iinc4 hK dX7_isNextTo_46 (hv_1 _) ?_
    refine s_goto (tgt := 5) hK dX7_isNextTo_49 (by decide) ?_
    exact AW.to (ih1 _) (by rw [nI_1]) (rfl)
  refine s_iconst (v := 0) hK dX7_isNextTo_0 (by decide) ?_
  refine s_istore3 hK dX7_isNextTo_1 ?_
  refine s_iconst (v := 0) hK dX7_isNextTo_2 (by decide) ?_
  refine s_istore4 hK dX7_isNextTo_3 ?_
  exact AW.to (up_to (fun kx => ∀ z5 : Option Value, AW K 5 [some (.ref 700), some (.int (nI k)), some (.int far), some (.int (b2 (anyB (nxP σ k far) kx))), some (.int (nI kx)), z5] [] (σ)) 4 hx1 hb1 _) (rfl) (rfl)
theorem ite_one {c : Prop} [Decidable c] (h : ¬ (if c then (1 : Int32) else 0) = 0) : c := by
  by_cases q : c
  · exact q
  · rw [if_neg q] at h; exact absurd rfl h
theorem ite_zero {c : Prop} [Decidable c] (h : (if c then (1 : Int32) else 0) = 0) : ¬ c := by
  intro q
  rw [if_pos q] at h
  exact absurd h (by decide)
set_option maxHeartbeats 4000000 in
set_option maxRecDepth 100000 in
theorem zX7_measure {g : aG} {l : Launch} {σ : aS} : CN g l yX7_measure wsX7_measure 4 91 [.ref 700] σ none (mO σ 4) := by
  refine cn_of (cc := cX7_measure) (nL := 4) (ret := none) (own := RX7) (by decide +kernel) rfl rfl (Nat.le_of_ble_eq_true rfl) (fun K hg hl hK hE => ?_)
  subst hg; subst hl
  have i_7 : ∀ w ∈ u_ws RX7 TX7 15, w ∈ wsX7_measure := by decide +kernel
  show AW K 0 [some (.ref 700), none, none, none] [] σ
  have hx1 : (∀ z2 : Option Value, ∀ z3 : Option Value, AW K 41 [some (.ref 700), some (.int (nI 4)), z2, z3] [] (mO σ 4)) := by
    intro z2 z3
    refine s_iload1 hK dX7_measure_41 ?_
    refine s_iconst (v := 4) hK dX7_measure_42 (by decide) ?_
    refine s_icmp_ge (tgt := 127) hK dX7_measure_43 (by decide) (fun c_43 => ?_) (fun c_43 => absurd c_43 (fun q => q (ge_E rfl rfl)))
    exact s_vret hK hE dX7_measure_127 (rfl)
  have hb1 : ∀ k1 : Nat, k1 < 4 → (∀ z2 : Option Value, ∀ z3 : Option Value, AW K 41 [some (.ref 700), some (.int (nI (k1 + 1))), z2, z3] [] (mO σ (k1 + 1))) → (∀ z2 : Option Value, ∀ z3 : Option Value, AW K 41 [some (.ref 700), some (.int (nI k1)), z2, z3] [] (mO σ k1)) := by
    intro k1 hk1 ih1 z2 z3
    have hx2 : (∀ z3 : Option Value, AW K 48 [some (.ref 700), some (.int (nI k1)), some (.int (nI 192)), z3] [] (mIn (mO σ k1) k1 192)) := by
      intro z3
      refine s_iload2 hK dX7_measure_48 ?_
      refine s_sipush (v := 192) hK dX7_measure_49 (by decide) ?_
      refine s_icmp_ge (tgt := 121) hK dX7_measure_52 (by decide) (fun c_52 => ?_) (fun c_52 => absurd c_52 (fun q => q (ge_E rfl rfl)))
      refine s_iinc1 hK dX7_measure_121 (hv_1 _) ?_
      refine s_goto (tgt := 41) hK dX7_measure_124 (by decide) ?_
      exact AW.to (ih1 _ _) (by rw [nI_1]) rfl
    have hb2 : ∀ k2 : Nat, k2 < 192 → (∀ z3 : Option Value, AW K 48 [some (.ref 700), some (.int (nI k1)), some (.int (nI (k2 + 1))), z3] [] (mIn (mO σ k1) k1 (k2 + 1))) → (∀ z3 : Option Value, AW K 48 [some (.ref 700), some (.int (nI k1)), some (.int (nI k2)), z3] [] (mIn (mO σ k1) k1 k2)) := by
      intro k2 hk2 ih2 z3
      refine s_iload2 hK dX7_measure_48 ?_
      refine s_sipush (v := 192) hK dX7_measure_49 (by decide) ?_
      refine s_icmp_ge (tgt := 121) hK dX7_measure_52 (by decide) (fun c_52 => absurd c_52 (ge_N rfl rfl hk2 (by decide))) (fun c_52 => ?_)
      refine AW.cut (j := 92) (v := if mIn (mO σ k1) k1 k2 701 k2 = 2 ∧ mIn (mO σ k1) k1 k2 705 k2 = 99 ∧ anyB (nxP (mIn (mO σ k1) k1 k2) k2 (nI k1)) 4 = true then 1 else 0) (fun hJ_92 => ?_) ?_
      · refine s_aload0 hK dX7_measure_55 ?_
        refine s_getr (ci := 7) (k := 1) hK rfl rfl i_7 (by decide +kernel) dX7_measure_56 (by decide) (by decide) (by decide) rfl rfl (rf_7_1 rfl) ?_
        refine s_iconst (v := 0) hK dX7_measure_59 (by decide) ?_
        refine s_iload2 hK dX7_measure_60 ?_
        refine s_iadd hK dX7_measure_61 ?_
        refine s_iald hK rfl (show vp_in _ 2374 from by rw [show (0 : Int32) = nI 0 from rfl, ix192]; exact vp_in_nI (show 0 + k2 < 2374 by omega) (by decide)) dX7_measure_62 ?_
        rw [show (0 : Int32) + nI k2 = nI k2 from Int32.zero_add _, cl_nI (show k2 < 2 ^ 31 by omega)]
        refine s_iconst (v := 2) hK dX7_measure_63 (by decide) ?_
        refine s_icmp_ne (tgt := 91) hK dX7_measure_64 (by decide) (fun c_64 => ?_) (fun c_64 => ?_)
        · refine s_iconst (v := 0) hK dX7_measure_91 (by decide) ?_
          exact AW.vv hJ_92 (by first | (rw [if_pos ⟨c_64, c_75, b2n c_84⟩]; done) | (rw [if_neg (fun e => by have q := b2y c_84; rw [e.2.2] at q; cases q)]; done) | (rw [if_neg (fun e => c_75 e.2.1)]; done) | (rw [if_neg (fun e => c_64 e.1)]; done))
        · refine s_aload0 hK dX7_measure_67 ?_
          refine s_getr (ci := 7) (k := 7) hK rfl rfl i_7 (by decide +kernel) dX7_measure_68 (by decide) (by decide) (by decide) rfl rfl (rf_7_7 rfl) ?_
          refine s_iload2 hK dX7_measure_71 ?_
          refine s_iald hK rfl (show vp_in _ 192 from vp_in_nI hk2 (by decide)) dX7_measure_72 ?_
          rw [cl_nI (show k2 < 2 ^ 31 by omega)]
          refine s_bipush (v := 99) hK dX7_measure_73 (by decide) ?_
          refine s_icmp_ne (tgt := 91) hK dX7_measure_75 (by decide) (fun c_75 => ?_) (fun c_75 => ?_)
          · refine s_iconst (v := 0) hK dX7_measure_91 (by decide) ?_
            exact AW.vv hJ_92 (by first | (rw [if_pos ⟨c_64, c_75, b2n c_84⟩]; done) | (rw [if_neg (fun e => by have q := b2y c_84; rw [e.2.2] at q; cases q)]; done) | (rw [if_neg (fun e => c_75 e.2.1)]; done) | (rw [if_neg (fun e => c_64 e.1)]; done))
          · refine s_aload0 hK dX7_measure_78 ?_
            refine s_iload2 hK dX7_measure_79 ?_
            refine s_iload1 hK dX7_measure_80 ?_
            refine s_callV (ci := 7) hK mdX7_isNextTo (zX7_isNextTo k2 (nI k1) hk2) gX7_measure_X7_isNextTo rfl rfl rfl (by decide) rfl ⟨Nat.le_of_ble_eq_true rfl, Nat.le_of_ble_eq_true rfl⟩ rfl (Nat.le_of_ble_eq_true rfl) dX7_measure_81 ?_
            try dsimp only [Option.toList, List.cons_append, List.nil_append]
            refine s_if_eq (tgt := 91) hK dX7_measure_84 (by decide) (fun c_84 => ?_) (fun c_84 => ?_)
            · refine s_iconst (v := 0) hK dX7_measure_91 (by decide) ?_
              exact AW.vv hJ_92 (by first | (rw [if_pos ⟨c_64, c_75, b2n c_84⟩]; done) | (rw [if_neg (fun e => by have q := b2y c_84; rw [e.2.2] at q; cases q)]; done) | (rw [if_neg (fun e => c_75 e.2.1)]; done) | (rw [if_neg (fun e => c_64 e.1)]; done))
            · refine s_iconst (v := 1) hK dX7_measure_87 (by decide) ?_
              refine s_goto (tgt := 92) hK dX7_measure_88 (by decide) ?_
              exact AW.vv hJ_92 (by first | (rw [if_pos ⟨c_64, c_75, b2n c_84⟩]; done) | (rw [if_neg (fun e => by have q := b2y c_84; rw [e.2.2] at q; cases q)]; done) | (rw [if_neg (fun e => c_75 e.2.1)]; done) | (rw [if_neg (fun e => c_64 e.1)]; done))
      show AW K _ _ _ _
      refine s_istore3 hK dX7_measure_92 ?_
      refine s_aload0 hK dX7_measure_93 ?_
      refine s_getr (ci := 7) (k := 7) hK rfl rfl i_7 (by decide +kernel) dX7_measure_94 (by decide) (by decide) (by decide) rfl rfl (rf_7_7 rfl) ?_
      refine s_iload2 hK dX7_measure_97 ?_
      refine AW.cut (j := 114) (v := mst (mIn (mO σ k1) k1 k2) k1 k2) (fun hJ_114 => ?_) ?_
      · refine s_iload3 hK dX7_measure_98 ?_
        refine s_if_eq (tgt := 108) hK dX7_measure_99 (by decide) (fun c_99 => ?_) (fun c_99 => ?_)
        · refine s_aload0 hK dX7_measure_108 ?_
          refine s_getr (ci := 7) (k := 7) hK rfl rfl i_7 (by decide +kernel) dX7_measure_109 (by decide) (by decide) (by decide) rfl rfl (rf_7_7 rfl) ?_
          refine s_iload2 hK dX7_measure_112 ?_
          refine s_iald hK rfl (show vp_in _ 192 from vp_in_nI hk2 (by decide)) dX7_measure_113 ?_
          rw [cl_nI (show k2 < 2 ^ 31 by omega)]
          exact AW.vv hJ_114 (by first | (rw [mst, if_pos (ite_one c_99)]; done) | (rw [mst, if_neg (ite_zero c_99)]; done))
        · refine s_iload1 hK dX7_measure_102 ?_
          refine s_iconst (v := 1) hK dX7_measure_103 (by decide) ?_
          refine s_iadd hK dX7_measure_104 ?_
          refine s_goto (tgt := 114) hK dX7_measure_105 (by decide) ?_
          exact AW.vv hJ_114 (by first | (rw [mst, if_pos (ite_one c_99)]; done) | (rw [mst, if_neg (ite_zero c_99)]; done))
      show AW K _ _ _ _
      refine s_iast hK rfl (show vp_in _ 192 from vp_in_nI hk2 (by decide)) dX7_measure_114 ?_
      rw [cl_nI (show k2 < 2 ^ 31 by omega)]
      refine s_iinc2 hK dX7_measure_115 (hv_1 _) ?_
      refine s_goto (tgt := 48) hK dX7_measure_118 (by decide) ?_
      exact AW.to (ih2 _) (by rw [nI_1]) (rfl)
    refine s_iload1 hK dX7_measure_41 ?_
    refine s_iconst (v := 4) hK dX7_measure_42 (by decide) ?_
    refine s_icmp_ge (tgt := 127) hK dX7_measure_43 (by decide) (fun c_43 => absurd c_43 (ge_N rfl rfl hk1 (by decide))) (fun c_43 => ?_)
    refine s_iconst (v := 0) hK dX7_measure_46 (by decide) ?_
    refine s_istore2 hK dX7_measure_47 ?_
    exact AW.to (up_to (fun kx => ∀ z3 : Option Value, AW K 48 [some (.ref 700), some (.int (nI k1)), some (.int (nI kx)), z3] [] (mIn (mO σ k1) k1 kx)) 192 hx2 hb2 _) (rfl) (rfl)
  have hx3 : AW K 2 [some (.ref 700), some (.int (nI 192)), none, none] [] (sP σ 705 (fa_fill (fun k => if σ 701 k = 1 then 0 else 99) (σ 705) 192)) := by
    refine s_iload1 hK dX7_measure_2 ?_
    refine s_sipush (v := 192) hK dX7_measure_3 (by decide) ?_
    refine s_icmp_ge (tgt := 39) hK dX7_measure_6 (by decide) (fun c_6 => ?_) (fun c_6 => absurd c_6 (fun q => q (ge_E rfl rfl)))
    refine s_iconst (v := 0) hK dX7_measure_39 (by decide) ?_
    refine s_istore1 hK dX7_measure_40 ?_
    exact AW.to (up_to (fun kx => ∀ z2 : Option Value, ∀ z3 : Option Value, AW K 41 [some (.ref 700), some (.int (nI kx)), z2, z3] [] (mO σ kx)) 4 hx1 hb1 _ _) (rfl) (rfl)
  have hb3 : ∀ k3 : Nat, k3 < 192 → AW K 2 [some (.ref 700), some (.int (nI (k3 + 1))), none, none] [] (sP σ 705 (fa_fill (fun k => if σ 701 k = 1 then 0 else 99) (σ 705) (k3 + 1))) → AW K 2 [some (.ref 700), some (.int (nI k3)), none, none] [] (sP σ 705 (fa_fill (fun k => if σ 701 k = 1 then 0 else 99) (σ 705) k3)) := by
    intro k3 hk3 ih3 
    refine s_iload1 hK dX7_measure_2 ?_
    refine s_sipush (v := 192) hK dX7_measure_3 (by decide) ?_
    refine s_icmp_ge (tgt := 39) hK dX7_measure_6 (by decide) (fun c_6 => absurd c_6 (ge_N rfl rfl hk3 (by decide))) (fun c_6 => ?_)
    refine s_aload0 hK dX7_measure_9 ?_
    refine s_getr (ci := 7) (k := 7) hK rfl rfl i_7 (by decide +kernel) dX7_measure_10 (by decide) (by decide) (by decide) rfl rfl (rf_7_7 rfl) ?_
    refine s_iload1 hK dX7_measure_13 ?_
    refine AW.cut (j := 32) (v := if σ 701 k3 = 1 then 0 else 99) (fun hJ_32 => ?_) ?_
    · refine s_aload0 hK dX7_measure_14 ?_
      refine s_getr (ci := 7) (k := 1) hK rfl rfl i_7 (by decide +kernel) dX7_measure_15 (by decide) (by decide) (by decide) rfl rfl (rf_7_1 rfl) ?_
      refine s_iconst (v := 0) hK dX7_measure_18 (by decide) ?_
      refine s_iload1 hK dX7_measure_19 ?_
      refine s_iadd hK dX7_measure_20 ?_
      refine s_iald hK rfl (show vp_in _ 2374 from by rw [show (0 : Int32) = nI 0 from rfl, ix192]; exact vp_in_nI (show 0 + k3 < 2374 by omega) (by decide)) dX7_measure_21 ?_
      rw [show (0 : Int32) + nI k3 = nI k3 from Int32.zero_add _, sP_ne (by decide), cl_nI (show k3 < 2 ^ 31 by omega)]
      refine s_iconst (v := 1) hK dX7_measure_22 (by decide) ?_
      refine s_icmp_ne (tgt := 30) hK dX7_measure_23 (by decide) (fun c_23 => ?_) (fun c_23 => ?_)
      · refine s_bipush (v := 99) hK dX7_measure_30 (by decide) ?_
        exact AW.vv hJ_32 (by simp [c_23])
      · refine s_iconst (v := 0) hK dX7_measure_26 (by decide) ?_
        refine s_goto (tgt := 32) hK dX7_measure_27 (by decide) ?_
        exact AW.vv hJ_32 (by simp [c_23])
    show AW K _ _ _ _
    refine s_iast hK rfl (show vp_in _ 192 from vp_in_nI hk3 (by decide)) dX7_measure_32 ?_
    rw [sP_sP, sP_same, cl_nI (show k3 < 2 ^ 31 by omega)]
    refine s_iinc1 hK dX7_measure_33 (hv_1 _) ?_
    refine s_goto (tgt := 2) hK dX7_measure_36 (by decide) ?_
    exact AW.to ih3 (by rw [nI_1]) (by rw [← fa_fill_succ])
  refine s_iconst (v := 0) hK dX7_measure_0 (by decide) ?_
  refine s_istore1 hK dX7_measure_1 ?_
  exact AW.to (up_to (fun kx => AW K 2 [some (.ref 700), some (.int (nI kx)), none, none] [] (sP σ 705 (fa_fill (fun k => if σ 701 k = 1 then 0 else 99) (σ 705) kx))) 192 hx3 hb3) (rfl) (by rw [fa_fill_0, sP_id])
