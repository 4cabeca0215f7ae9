section AY
variable {K : KT} {cc : ByteArray} {own : String} {Ts : List Cond} {fr lo pc : Nat} {ls : List (Option Value)} {st : List Value} {σ : aS}
theorem s_getiv {ci k o idx N : Nat} {C : String} {T : u_T} {v : Int32} (hv : σ o k = v) (hK : OKc K cc own Ts fr lo) (hk : kd o = ci) (hc : vwCl[ci]? = some (C, T, N)) (hin : ∀ w ∈ u_ws C T N, w ∈ Ts) (hlink : Cond.fieldLink own idx C (T k).2.1 (T k).2.2.1 ∈ Ts) (hd : decode cc pc = .ok (.getfield idx, 3)) (hk2 : k < N) (hk3 : k < nf ci) (hci : ci < 8) (hC : (T k).1 = C) (hr : isR ci k = false) (kk : AW K (pc + 3) ls (.int v :: st) σ) : AW K pc ls (.ref o :: st) σ := s_geti hK hk hc hin hlink hd hk2 hk3 hci hC hr (hv ▸ kk)
theorem s_ialdv {o : Nat} {i v : Int32} (hv : σ o i.toNatClampNeg = v) (hK : OKc K cc own Ts fr lo) (hk : kd o = 8) (hin : vp_in i (ln o)) (hd : decode cc pc = .ok (.iaload, 1)) (kk : AW K (pc + 1) ls (.int v :: st) σ) : AW K pc ls (.int i :: .ref o :: st) σ := s_iald hK hk hin hd (hv ▸ kk)
end AY
theorem rf_9 {o k : Nat} (h : kd o = 9) : rf o k = 100 * (k + 1) := by simp [rf, h]
theorem wi_nI {k N : Nat} (h : k ≤ N) (hN : N < 2 ^ 31) : wi (nI k) 0 (nI N) = true := by
  have a1 : ¬ nI k < 0 := nI_pos (by omega)
  have a2 : ¬ nI N < nI k := nI_nlt h hN
  simp [wi, a1, a2]
theorem rem_nI {a : Nat} (d : Nat) (ha : a < 2 ^ 31) (h0 : 0 < d) (hd : d < 2 ^ 31) : nI a - nI a / nI d * nI d = nI (a % d) := pk_rem ha h0 hd
/-- what is no array stays -/
theorem bL_obj {σ : aS} {a b o : Nat} (h : kd o ≠ 8) (ha : kd a = 8) : bL σ a b o = σ o := sP_ne (fun e => h (by rw [e]; exact ha))
theorem bB_obj {σ : aS} {a b o : Nat} (h : kd o ≠ 8) (ha : kd a = 0) : bB σ a b o = σ o := by
  unfold bB
  rw [sP_ne (fun e => h (by rw [e]; exact kBw ha)), bL_obj h (kC (kB4 ha)), bL_obj h (kC (kB3 ha)), bL_obj h (kC (kB2 ha)), bL_obj h (kC (kB1 ha))]
def lB (σ : aS) (a b : Nat) : aS :=
  let σ1 := sP σ (a + 1) (va_cpy (σ (b + 1)) (σ (a + 1)) 0 0 72)
  let σ2 := sP σ1 a (upd (σ1 a) 1 (σ1 b 1))
  sP σ2 a (upd (σ2 a) 2 (σ2 b 2))
theorem lB_obj {σ : aS} {a b o : Nat} (h : kd o ≠ 8) (ha : kd a = 3) (h2 : o ≠ a) : lB σ a b o = σ o := by
  unfold lB
  rw [sP_ne h2, sP_ne h2, sP_ne (fun e => h (by rw [e]; exact kLp ha))]
def dX (σ : aS) (s : Nat) : Int32 := (σ (s + 1) 0 - 50) * σ (s + 1) 1 / 50
def dY (σ : aS) (s : Nat) : Int32 := (σ (s + 1) 0 - 50) * σ (s + 1) 2 / 50
def dr (σ : aS) (s : Nat) : aS := sP σ (s + 1) (upd (σ (s + 1)) 0 (if 0 < σ (s + 1) 0 - σ (s + 1) 4 then σ (s + 1) 0 - σ (s + 1) 4 else 0))
def sb (s : Nat) (slot : Int32) : Nat := if slot = 0 then s + 20 else s + 30
theorem sb_k {s : Nat} {slot : Int32} (h : kd s = 5) : kd (sb s slot) = 0 := by
  unfold sb
  split
  · exact kS20 h
  · exact kS30 h
theorem nz_if {c : Prop} [Decidable c] : narrow .boolean (.int (if c then 0 else 1)) = .int (if c then 0 else 1) := by split <;> decide
theorem nz_if2 {c : Prop} [Decidable c] : narrow .boolean (.int (if c then 1 else 0)) = .int (if c then 1 else 0) := by split <;> decide
theorem nz_or {x : Int32} (h : x = 0 ∨ x = 1) : narrow .boolean (.int x) = .int x := by rcases h with rfl | rfl <;> decide
theorem fz_if {c : Prop} [Decidable c] : fits .boolean (.int (if c then 0 else 1)) = true := by split <;> decide
theorem fz_or {x : Int32} (h : x = 0 ∨ x = 1) : fits .boolean (.int x) = true := by rcases h with rfl | rfl <;> decide
def tS (σ : aS) (s : Nat) (slot : Int32) : aS :=
  let σ1 := bB σ (sb s slot) (s + 10)
  let σ2 := sP σ1 s (upd (σ1 s) 8 (if σ1 s 8 = 0 ∧ ¬ slot = 0 then 0 else 1))
  sP σ2 s (upd (σ2 s) 9 (if σ2 s 9 = 0 ∧ ¬ slot = 1 then 0 else 1))
def sB1 (σ : aS) (a b : Nat) : aS :=
  let σ1 := bB σ (a + 10) (b + 10)
  let σ2 := sP σ1 (a + 1) (va_cpy (σ1 (b + 1)) (σ1 (a + 1)) 0 0 5)
  lB σ2 (a + 2) (b + 2)
def sB2 (σ3 : aS) (a b : Nat) : aS :=
  let σ4 := sP σ3 a (upd (σ3 a) 3 (σ3 b 3))
  let σ5 := sP σ4 a (upd (σ4 a) 4 (σ4 b 4))
  sP σ5 a (upd (σ5 a) 5 (σ5 b 5))
def sB3 (σ6 : aS) (a b : Nat) : aS := bB (bB σ6 (a + 20) (b + 20)) (a + 30) (b + 30)
def sB4 (σ8 : aS) (a b : Nat) : aS :=
  let σ9 := sP σ8 a (upd (σ8 a) 8 (σ8 b 8))
  sP σ9 a (upd (σ9 a) 9 (σ9 b 9))
def sB (σ : aS) (a b : Nat) : aS := sB4 (sB3 (sB2 (sB1 σ a b) a b) a b) a b
theorem sB1_obj {σ : aS} {a b o : Nat} (h : kd o ≠ 8) (ha : kd a = 5) (h2 : o ≠ a + 2) : sB1 σ a b o = σ o := by
  unfold sB1
  rw [lB_obj h (kS2 ha) h2, sP_ne (fun e => h (by rw [e]; exact kS1 ha)), bB_obj h (kS10 ha)]
theorem sB3_obj {σ : aS} {a b o : Nat} (h : kd o ≠ 8) (ha : kd a = 5) : sB3 σ a b o = σ o := by
  unfold sB3
  rw [bB_obj h (kS30 ha), bB_obj h (kS20 ha)]
theorem sB_obj {σ : aS} {a b o : Nat} (h : kd o ≠ 8) (ha : kd a = 5) (h2 : o ≠ a + 2) (h3 : o ≠ a) : sB σ a b o = σ o := by
  unfold sB sB4 sB2
  rw [sP_ne h3, sP_ne h3, sB3_obj h ha, sP_ne h3, sP_ne h3, sP_ne h3, sB1_obj h ha h2]
theorem sB2_8 {σ : aS} {a b o k : Nat} (h : 8 ≤ k) : sB2 σ a b o k = σ o k := by
  unfold sB2
  by_cases e : o = a
  · subst e
    simp only [sP, if_true, upd]
    rw [if_neg (by omega), if_neg (by omega), if_neg (by omega)]
  · rw [sP_ne e, sP_ne e, sP_ne e]
theorem kd_ne5 {a b : Nat} (ha : kd a = 5) (hb : kd b = 5) : b ≠ a + 2 := fun e => by
  have := kS2 ha
  rw [← e, hb] at this
  cases this
theorem sB3_8 {σ : aS} {a b k : Nat} (ha : kd a = 5) (hb : kd b = 5) (hk : 8 ≤ k) : sB3 (sB2 (sB1 σ a b) a b) a b b k = σ b k := by
  have h8 : kd b ≠ 8 := by omega
  rw [sB3_obj h8 ha, sB2_8 hk, sB1_obj h8 ha (kd_ne5 ha hb)]
theorem sB4_9 {σ : aS} {a b : Nat} (ha : kd a = 5) (hb : kd b = 5) {x : Int32} : sP (sB3 (sB2 (sB1 σ a b) a b) a b) a (upd (sB3 (sB2 (sB1 σ a b) a b) a b a) 8 x) b 9 = σ b 9 := by
  rw [← sB3_8 (σ := σ) ha hb (show 8 ≤ 9 by decide)]
  by_cases q : b = a
  · subst q
    rw [sP_same]
    simp [upd]
  · rw [sP_ne q]
def aP (σ : aS) (lo la : Nat) (nu sx sy : Int32) : aS :=
  let σ1 := sP σ lo (upd (σ lo) 2 (nI ((la + 1) % 12)))
  let σ2 := sP σ1 lo (upd (σ1 lo) 1 (if 12 < σ lo 1 + 1 then 12 else σ lo 1 + 1))
  let σ3 := sP σ2 (lo + 1) (upd (σ2 (lo + 1)) ((la + 1) % 12 * 6) nu)
  let σ4 := sP σ3 (lo + 1) (upd (σ3 (lo + 1)) ((la + 1) % 12 * 6 + 1) (sx + 8))
  sP σ4 (lo + 1) (upd (σ4 (lo + 1)) ((la + 1) % 12 * 6 + 2) (sy + 8))
def aF (σ : aS) (lo la : Nat) (g s l : Int32) : aS :=
  let σ3 := sP σ (lo + 1) (upd (σ (lo + 1)) (la * 6 + 3) g)
  let σ4 := sP σ3 (lo + 1) (upd (σ3 (lo + 1)) (la * 6 + 4) s)
  sP σ4 (lo + 1) (upd (σ4 (lo + 1)) (la * 6 + 5) l)
theorem ix6 (a k : Nat) : nI a * 6 + nI k = nI (a * 6 + k) := by rw [show (6 : Int32) = nI 6 from rfl, pk_mul, nI_add]
theorem ix6_0 (a : Nat) : nI a * 6 = nI (a * 6) := by rw [show (6 : Int32) = nI 6 from rfl, pk_mul]
def kp (σ : aS) (nx : Nat) : aS :=
  let σ1 := sB σ (100 * (nx + 1)) 0
  let σ2 := sP σ1 601 (upd (σ1 601) 2 (nI ((nx + 1) % 5)))
  sP σ2 601 (upd (σ2 601) 1 (if 5 < σ 601 1 + 1 then 5 else σ 601 1 + 1))
def gB_ (σ : aS) (nx : Nat) : aS :=
  let σ1 := sP σ 601 (upd (σ 601) 2 (nI ((nx + 4) % 5)))
  let σ2 := sP σ1 601 (upd (σ1 601) 1 (if σ 601 1 - 1 < 0 then 0 else σ 601 1 - 1))
  sB σ2 0 (100 * ((nx + 4) % 5 + 1))
theorem kd_st {n : Nat} (h : n < 5) : kd (100 * (n + 1)) = 5 := (show ∀ n, n < 5 → kd (100 * (n + 1)) = 5 by decide) n h
theorem mdX2_size : MD yX2_size wsX2_size cX2_size 1 (some .int) 0 := ⟨⟨_, rfl⟩, by decide +kernel, by decide +kernel, by decide +kernel⟩
theorem mdX2_keep : MD yX2_keep wsX2_keep cX2_keep 3 none 1 := ⟨⟨_, rfl⟩, by decide +kernel, by decide +kernel, by decide +kernel⟩
theorem mdX2_giveBack : MD yX2_giveBack wsX2_giveBack cX2_giveBack 3 none 1 := ⟨⟨_, rfl⟩, by decide +kernel, by decide +kernel, by decide +kernel⟩
theorem mdX3_size : MD yX3_size wsX3_size cX3_size 1 (some .int) 0 := ⟨⟨_, rfl⟩, by decide +kernel, by decide +kernel, by decide +kernel⟩
theorem mdX3_becomeLike : MD yX3_becomeLike wsX3_becomeLike cX3_becomeLike 2 none 1 := ⟨⟨_, rfl⟩, by decide +kernel, by decide +kernel, by decide +kernel⟩
theorem mdX3_addProof : MD yX3_addProof wsX3_addProof cX3_addProof 4 none 3 := ⟨⟨_, rfl⟩, by decide +kernel, by decide +kernel, by decide +kernel⟩
theorem mdX3_addFaults : MD yX3_addFaults wsX3_addFaults cX3_addFaults 4 none 3 := ⟨⟨_, rfl⟩, by decide +kernel, by decide +kernel, by decide +kernel⟩
theorem mdX3_partOf : MD yX3_partOf wsX3_partOf cX3_partOf 4 (some .int) 2 := ⟨⟨_, rfl⟩, by decide +kernel, by decide +kernel, by decide +kernel⟩
theorem mdX5_becomeLike : MD yX5_becomeLike wsX5_becomeLike cX5_becomeLike 2 none 1 := ⟨⟨_, rfl⟩, by decide +kernel, by decide +kernel, by decide +kernel⟩
theorem mdX5_driftX : MD yX5_driftX wsX5_driftX cX5_driftX 1 (some .int) 0 := ⟨⟨_, rfl⟩, by decide +kernel, by decide +kernel, by decide +kernel⟩
theorem mdX5_driftY : MD yX5_driftY wsX5_driftY cX5_driftY 1 (some .int) 0 := ⟨⟨_, rfl⟩, by decide +kernel, by decide +kernel, by decide +kernel⟩
theorem mdX5_dry : MD yX5_dry wsX5_dry cX5_dry 1 none 0 := ⟨⟨_, rfl⟩, by decide +kernel, by decide +kernel, by decide +kernel⟩
theorem mdX5_hardness : MD yX5_hardness wsX5_hardness cX5_hardness 1 (some .int) 0 := ⟨⟨_, rfl⟩, by decide +kernel, by decide +kernel, by decide +kernel⟩
theorem mdX5_isTaken : MD yX5_isTaken wsX5_isTaken cX5_isTaken 2 (some .boolean) 1 := ⟨⟨_, rfl⟩, by decide +kernel, by decide +kernel, by decide +kernel⟩
theorem mdX5_restoreSnapshot : MD yX5_restoreSnapshot wsX5_restoreSnapshot cX5_restoreSnapshot 2 none 1 := ⟨⟨_, rfl⟩, by decide +kernel, by decide +kernel, by decide +kernel⟩
theorem mdX5_shiftX : MD yX5_shiftX wsX5_shiftX cX5_shiftX 1 (some .int) 0 := ⟨⟨_, rfl⟩, by decide +kernel, by decide +kernel, by decide +kernel⟩
theorem mdX5_shiftY : MD yX5_shiftY wsX5_shiftY cX5_shiftY 1 (some .int) 0 := ⟨⟨_, rfl⟩, by decide +kernel, by decide +kernel, by decide +kernel⟩
theorem mdX5_snapshotIn : MD yX5_snapshotIn wsX5_snapshotIn cX5_snapshotIn 2 (some (.object "WoodcutPress$Blocks")) 1 := ⟨⟨_, rfl⟩, by decide +kernel, by decide +kernel, by decide +kernel⟩
theorem mdX5_snapshots : MD yX5_snapshots wsX5_snapshots cX5_snapshots 1 (some .int) 0 := ⟨⟨_, rfl⟩, by decide +kernel, by decide +kernel, by decide +kernel⟩
theorem mdX5_takeSnapshot : MD yX5_takeSnapshot wsX5_takeSnapshot cX5_takeSnapshot 2 none 1 := ⟨⟨_, rfl⟩, by decide +kernel, by decide +kernel, by decide +kernel⟩
set_option maxHeartbeats 4000000 in
set_option maxRecDepth 100000 in
theorem zX3_size {g : aG} {l : Launch} {σ : aS} (o : Nat) (ho : kd o = 3) : CN g l yX3_size wsX3_size 0 0 [.ref o] σ (some (.int (σ o 1))) σ := by
  refine cn_of (cc := cX3_size) (nL := 1) (ret := (some .int)) (own := RX3) (by decide +kernel) rfl rfl (Nat.le_of_ble_eq_true rfl) (fun K hg hl hK hE => ?_)
  subst hg; subst hl
  have i_3 : ∀ w ∈ u_ws RX3 TX3 3, w ∈ wsX3_size := by decide +kernel
  show AW K 0 [some (.ref o)] [] σ
  refine s_aload0 hK dX3_size_0 ?_
  refine s_geti (ci := 3) (k := 1) hK ho rfl i_3 (by decide +kernel) dX3_size_1 (by decide) (by decide) (by decide) rfl rfl ?_
  exact s_iret hK hE dX3_size_4 rfl (rfl) (rfl)
set_option maxHeartbeats 4000000 in
set_option maxRecDepth 100000 in
theorem zX2_size {g : aG} {l : Launch} {σ : aS} (o : Nat) (ho : kd o = 2) : CN g l yX2_size wsX2_size 0 0 [.ref o] σ (some (.int (σ o 1))) σ := by
  refine cn_of (cc := cX2_size) (nL := 1) (ret := (some .int)) (own := RX2) (by decide +kernel) rfl rfl (Nat.le_of_ble_eq_true rfl) (fun K hg hl hK hE => ?_)
  subst hg; subst hl
  have i_2 : ∀ w ∈ u_ws RX2 TX2 3, w ∈ wsX2_size := by decide +kernel
  show AW K 0 [some (.ref o)] [] σ
  refine s_aload0 hK dX2_size_0 ?_
  refine s_geti (ci := 2) (k := 1) hK ho rfl i_2 (by decide +kernel) dX2_size_1 (by decide) (by decide) (by decide) rfl rfl ?_
  exact s_iret hK hE dX2_size_4 rfl (rfl) (rfl)
set_option maxHeartbeats 4000000 in
set_option maxRecDepth 100000 in
theorem zX3_becomeLike {g : aG} {l : Launch} {σ : aS} (a b : Nat) (ha : kd a = 3) (hb : kd b = 3) : CN g l yX3_becomeLike wsX3_becomeLike 1 26 [.ref a, .ref b] σ none (lB σ a b) := by
  refine cn_of (cc := cX3_becomeLike) (nL := 2) (ret := none) (own := RX3) (by decide +kernel) rfl rfl (Nat.le_of_ble_eq_true rfl) (fun K hg hl hK hE => ?_)
  subst hg; subst hl
  have i_3 : ∀ w ∈ u_ws RX3 TX3 3, w ∈ wsX3_becomeLike := by decide +kernel
  show AW K 0 [some (.ref a), some (.ref b)] [] σ
  refine s_aload1 hK dX3_becomeLike_0 ?_
  refine s_getr (ci := 3) (k := 0) hK hb rfl i_3 (by decide +kernel) dX3_becomeLike_1 (by decide) (by decide) (by decide) rfl rfl (rf_3_0 hb) ?_
  refine s_iconst (v := 0) hK dX3_becomeLike_4 (by decide) ?_
  refine s_aload0 hK dX3_becomeLike_5 ?_
  refine s_getr (ci := 3) (k := 0) hK ha rfl i_3 (by decide +kernel) dX3_becomeLike_6 (by decide) (by decide) (by decide) rfl rfl (rf_3_0 ha) ?_
  refine s_iconst (v := 0) hK dX3_becomeLike_9 (by decide) ?_
  refine s_bipush (v := 72) hK dX3_becomeLike_10 (by decide) ?_
  refine s_acopy hK (by decide +kernel) (by decide +kernel) (by decide +kernel) (by decide +kernel) (kLp hb) (kLp ha) (by decide) (by decide) (by decide) (by rw [lLp hb]; decide) (by rw [lLp ha]; decide) (by decide) (by decide) dX3_becomeLike_12 ?_
  refine s_aload0 hK dX3_becomeLike_15 ?_
  refine s_aload1 hK dX3_becomeLike_16 ?_
  refine s_geti (ci := 3) (k := 1) hK hb rfl i_3 (by decide +kernel) dX3_becomeLike_17 (by decide) (by decide) (by decide) rfl rfl ?_
  refine s_putg (ci := 3) (k := 1) (ty := .int) hK ha rfl i_3 (by decide +kernel) dX3_becomeLike_20 tyX3_ok nmX3 (by decide) (by decide) (by decide) rfl rfl rfl (by decide +kernel) rfl rfl ?_
  refine s_aload0 hK dX3_becomeLike_23 ?_
  refine s_aload1 hK dX3_becomeLike_24 ?_
  refine s_geti (ci := 3) (k := 2) hK hb rfl i_3 (by decide +kernel) dX3_becomeLike_25 (by decide) (by decide) (by decide) rfl rfl ?_
  refine s_putg (ci := 3) (k := 2) (ty := .int) hK ha rfl i_3 (by decide +kernel) dX3_becomeLike_28 tyX3_ok nmX3 (by decide) (by decide) (by decide) rfl rfl rfl (by decide +kernel) rfl rfl ?_
  exact s_vret hK hE dX3_becomeLike_31 (rfl)
set_option maxHeartbeats 4000000 in
set_option maxRecDepth 100000 in
theorem zX3_addProof {g : aG} {l : Launch} {σ : aS} (o la : Nat) (nu sx sy : Int32) (ho : kd o = 3) (hla : la < 12) (hl2 : σ o 2 = nI la) : CN g l yX3_addProof wsX3_addProof 1 21 [.ref o, .int nu, .int sx, .int sy] σ none (aP σ o la nu sx sy) := by
  refine cn_of (cc := cX3_addProof) (nL := 4) (ret := none) (own := RX3) (by decide +kernel) rfl rfl (Nat.le_of_ble_eq_true rfl) (fun K hg hl hK hE => ?_)
  subst hg; subst hl
  have i_3 : ∀ w ∈ u_ws RX3 TX3 3, w ∈ wsX3_addProof := by decide +kernel
  show AW K 0 [some (.ref o), some (.int nu), some (.int sx), some (.int sy)] [] σ
  refine s_aload0 hK dX3_addProof_0 ?_
  refine s_aload0 hK dX3_addProof_1 ?_
  refine s_getiv (v := nI la) (hl2) (ci := 3) (k := 2) hK ho rfl i_3 (by decide +kernel) dX3_addProof_2 (by decide) (by decide) (by decide) rfl rfl ?_
  refine s_iconst (v := 1) hK dX3_addProof_5 (by decide) ?_
  refine s_iadd hK dX3_addProof_6 ?_
  refine s_bipush (v := 12) hK dX3_addProof_7 (by decide) ?_
  refine s_irem hK dX3_addProof_9 (by decide) ?_
  rw [show nI la + 1 - (nI la + 1) / 12 * 12 = nI ((la + 1) % 12) from by rw [nI_1]; exact rem_nI 12 (by omega) (by decide) (by decide)]
  refine s_putg (ci := 3) (k := 2) (ty := .int) hK ho rfl i_3 (by decide +kernel) dX3_addProof_10 tyX3_ok nmX3 (by decide) (by decide) (by decide) rfl rfl rfl (by decide +kernel) rfl rfl ?_
  refine s_aload0 hK dX3_addProof_13 ?_
  refine s_aload0 hK dX3_addProof_14 ?_
  refine s_getiv (v := σ o 1) (by simp [sP, upd]) (ci := 3) (k := 1) hK ho rfl i_3 (by decide +kernel) dX3_addProof_15 (by decide) (by decide) (by decide) rfl rfl ?_
  refine s_iconst (v := 1) hK dX3_addProof_18 (by decide) ?_
  refine s_iadd hK dX3_addProof_19 ?_
  refine s_bipush (v := 12) hK dX3_addProof_20 (by decide) ?_
  refine s_mmin hK (by decide +kernel) (by decide +kernel) (by decide +kernel) (by decide +kernel) (by decide) (Nat.le_of_ble_eq_true rfl) dX3_addProof_22 ?_
  refine s_putg (ci := 3) (k := 1) (ty := .int) hK ho rfl i_3 (by decide +kernel) dX3_addProof_25 tyX3_ok nmX3 (by decide) (by decide) (by decide) rfl rfl rfl (by decide +kernel) rfl rfl ?_
  refine s_aload0 hK dX3_addProof_28 ?_
  refine s_getr (ci := 3) (k := 0) hK ho rfl i_3 (by decide +kernel) dX3_addProof_29 (by decide) (by decide) (by decide) rfl rfl (rf_3_0 ho) ?_
  refine s_aload0 hK dX3_addProof_32 ?_
  refine s_getiv (v := nI ((la + 1) % 12)) (by simp [sP, upd]) (ci := 3) (k := 2) hK ho rfl i_3 (by decide +kernel) dX3_addProof_33 (by decide) (by decide) (by decide) rfl rfl ?_
  refine s_bipush (v := 6) hK dX3_addProof_36 (by decide) ?_
  refine s_imul hK dX3_addProof_38 ?_
  rw [ix6_0]
  refine s_iload1 hK dX3_addProof_39 ?_
  refine s_iast hK (kLp ho) (by rw [lLp ho]; exact vp_in_nI (show (la + 1) % 12 * 6 + 0 < 72 by omega) (by decide)) dX3_addProof_40 ?_
  rw [cl_nI (show (la + 1) % 12 * 6 < 2 ^ 31 by omega)]
  refine s_aload0 hK dX3_addProof_41 ?_
  refine s_getr (ci := 3) (k := 0) hK ho rfl i_3 (by decide +kernel) dX3_addProof_42 (by decide) (by decide) (by decide) rfl rfl (rf_3_0 ho) ?_
  refine s_aload0 hK dX3_addProof_45 ?_
  refine s_getiv (v := nI ((la + 1) % 12)) (by simp [sP, upd]) (ci := 3) (k := 2) hK ho rfl i_3 (by decide +kernel) dX3_addProof_46 (by decide) (by decide) (by decide) rfl rfl ?_
  refine s_bipush (v := 6) hK dX3_addProof_49 (by decide) ?_
  refine s_imul hK dX3_addProof_51 ?_
  refine s_iconst (v := 1) hK dX3_addProof_52 (by decide) ?_
  refine s_iadd hK dX3_addProof_53 ?_
  rw [show (1 : Int32) = nI 1 from rfl, ix6]
  refine s_iload2 hK dX3_addProof_54 ?_
  refine s_bipush (v := 8) hK dX3_addProof_55 (by decide) ?_
  refine s_iadd hK dX3_addProof_57 ?_
  refine s_iast hK (kLp ho) (by rw [lLp ho]; exact vp_in_nI (show (la + 1) % 12 * 6 + 1 < 72 by omega) (by decide)) dX3_addProof_58 ?_
  rw [cl_nI (show (la + 1) % 12 * 6 + 1 < 2 ^ 31 by omega)]
  refine s_aload0 hK dX3_addProof_59 ?_
  refine s_getr (ci := 3) (k := 0) hK ho rfl i_3 (by decide +kernel) dX3_addProof_60 (by decide) (by decide) (by decide) rfl rfl (rf_3_0 ho) ?_
  refine s_aload0 hK dX3_addProof_63 ?_
  refine s_getiv (v := nI ((la + 1) % 12)) (by simp [sP, upd]) (ci := 3) (k := 2) hK ho rfl i_3 (by decide +kernel) dX3_addProof_64 (by decide) (by decide) (by decide) rfl rfl ?_
  refine s_bipush (v := 6) hK dX3_addProof_67 (by decide) ?_
  refine s_imul hK dX3_addProof_69 ?_
  refine s_iconst (v := 2) hK dX3_addProof_70 (by decide) ?_
  refine s_iadd hK dX3_addProof_71 ?_
  rw [show (2 : Int32) = nI 2 from rfl, ix6]
  refine s_iload3 hK dX3_addProof_72 ?_
  refine s_bipush (v := 8) hK dX3_addProof_73 (by decide) ?_
  refine s_iadd hK dX3_addProof_75 ?_
  refine s_iast hK (kLp ho) (by rw [lLp ho]; exact vp_in_nI (show (la + 1) % 12 * 6 + 2 < 72 by omega) (by decide)) dX3_addProof_76 ?_
  rw [cl_nI (show (la + 1) % 12 * 6 + 2 < 2 ^ 31 by omega)]
  exact s_vret hK hE dX3_addProof_77 (rfl)
set_option maxHeartbeats 4000000 in
set_option maxRecDepth 100000 in
theorem zX3_addFaults {g : aG} {l : Launch} {σ : aS} (o la : Nat) (g0 s0 l0 : Int32) (ho : kd o = 3) (hla : la < 12) (hl2 : σ o 2 = nI la) : CN g l yX3_addFaults wsX3_addFaults 0 0 [.ref o, .int g0, .int s0, .int l0] σ none (aF σ o la g0 s0 l0) := by
  refine cn_of (cc := cX3_addFaults) (nL := 4) (ret := none) (own := RX3) (by decide +kernel) rfl rfl (Nat.le_of_ble_eq_true rfl) (fun K hg hl hK hE => ?_)
  subst hg; subst hl
  have i_3 : ∀ w ∈ u_ws RX3 TX3 3, w ∈ wsX3_addFaults := by decide +kernel
  show AW K 0 [some (.ref o), some (.int g0), some (.int s0), some (.int l0)] [] σ
  refine s_aload0 hK dX3_addFaults_0 ?_
  refine s_getr (ci := 3) (k := 0) hK ho rfl i_3 (by decide +kernel) dX3_addFaults_1 (by decide) (by decide) (by decide) rfl rfl (rf_3_0 ho) ?_
  refine s_aload0 hK dX3_addFaults_4 ?_
  refine s_getiv (v := nI la) (by first | exact hl2 | simp [sP, hl2]) (ci := 3) (k := 2) hK ho rfl i_3 (by decide +kernel) dX3_addFaults_5 (by decide) (by decide) (by decide) rfl rfl ?_
  refine s_bipush (v := 6) hK dX3_addFaults_8 (by decide) ?_
  refine s_imul hK dX3_addFaults_10 ?_
  refine s_iconst (v := 3) hK dX3_addFaults_11 (by decide) ?_
  refine s_iadd hK dX3_addFaults_12 ?_
  rw [show (3 : Int32) = nI 3 from rfl, ix6]
  refine s_iload1 hK dX3_addFaults_13 ?_
  refine s_iast hK (kLp ho) (by rw [lLp ho]; exact vp_in_nI (show la * 6 + 3 < 72 by omega) (by decide)) dX3_addFaults_14 ?_
  rw [cl_nI (show la * 6 + 3 < 2 ^ 31 by omega)]
  refine s_aload0 hK dX3_addFaults_15 ?_
  refine s_getr (ci := 3) (k := 0) hK ho rfl i_3 (by decide +kernel) dX3_addFaults_16 (by decide) (by decide) (by decide) rfl rfl (rf_3_0 ho) ?_
  refine s_aload0 hK dX3_addFaults_19 ?_
  refine s_getiv (v := nI la) (by first | exact hl2 | simp [sP, hl2]) (ci := 3) (k := 2) hK ho rfl i_3 (by decide +kernel) dX3_addFaults_20 (by decide) (by decide) (by decide) rfl rfl ?_
  refine s_bipush (v := 6) hK dX3_addFaults_23 (by decide) ?_
  refine s_imul hK dX3_addFaults_25 ?_
  refine s_iconst (v := 4) hK dX3_addFaults_26 (by decide) ?_
  refine s_iadd hK dX3_addFaults_27 ?_
  rw [show (4 : Int32) = nI 4 from rfl, ix6]
  refine s_iload2 hK dX3_addFaults_28 ?_
  refine s_iast hK (kLp ho) (by rw [lLp ho]; exact vp_in_nI (show la * 6 + 4 < 72 by omega) (by decide)) dX3_addFaults_29 ?_
  rw [cl_nI (show la * 6 + 4 < 2 ^ 31 by omega)]
  refine s_aload0 hK dX3_addFaults_30 ?_
  refine s_getr (ci := 3) (k := 0) hK ho rfl i_3 (by decide +kernel) dX3_addFaults_31 (by decide) (by decide) (by decide) rfl rfl (rf_3_0 ho) ?_
  refine s_aload0 hK dX3_addFaults_34 ?_
  refine s_getiv (v := nI la) (by first | exact hl2 | simp [sP, hl2]) (ci := 3) (k := 2) hK ho rfl i_3 (by decide +kernel) dX3_addFaults_35 (by decide) (by decide) (by decide) rfl rfl ?_
  refine s_bipush (v := 6) hK dX3_addFaults_38 (by decide) ?_
  refine s_imul hK dX3_addFaults_40 ?_
  refine s_iconst (v := 5) hK dX3_addFaults_41 (by decide) ?_
  refine s_iadd hK dX3_addFaults_42 ?_
  rw [show (5 : Int32) = nI 5 from rfl, ix6]
  refine s_iload3 hK dX3_addFaults_43 ?_
  refine s_iast hK (kLp ho) (by rw [lLp ho]; exact vp_in_nI (show la * 6 + 5 < 72 by omega) (by decide)) dX3_addFaults_44 ?_
  rw [cl_nI (show la * 6 + 5 < 2 ^ 31 by omega)]
  exact s_vret hK hE dX3_addFaults_45 (rfl)
set_option maxHeartbeats 4000000 in
set_option maxRecDepth 100000 in
theorem zX3_partOf {g : aG} {l : Launch} {σ : aS} (o la bk wh : Nat) (ho : kd o = 3) (hla : la < 12) (hl2 : σ o 2 = nI la) (hbk : bk < 12) (hwh : wh < 6) : CN g l yX3_partOf wsX3_partOf 1 22 [.ref o, .int (nI bk), .int (nI wh)] σ (some (.int (σ (o + 1) ((la + 12 - bk) % 12 * 6 + wh)))) σ := by
  refine cn_of (cc := cX3_partOf) (nL := 4) (ret := (some .int)) (own := RX3) (by decide +kernel) rfl rfl (Nat.le_of_ble_eq_true rfl) (fun K hg hl hK hE => ?_)
  subst hg; subst hl
  have i_3 : ∀ w ∈ u_ws RX3 TX3 3, w ∈ wsX3_partOf := by decide +kernel
  show AW K 0 [some (.ref o), some (.int (nI bk)), some (.int (nI wh)), none] [] σ
  refine s_iload1 hK dX3_partOf_0 ?_
  refine s_iconst (v := 0) hK dX3_partOf_1 (by decide) ?_
  refine s_bipush (v := 11) hK dX3_partOf_2 (by decide) ?_
  refine s_callN (host := RX6) hK mdX6_isWithin (zX6_isWithin _ _ _) gX3_partOf_X6_isWithin_n34 (by decide +kernel) (by decide +kernel) (by decide +kernel) rfl ⟨Nat.le_of_ble_eq_true rfl, Nat.le_of_ble_eq_true rfl⟩ rfl (Nat.le_of_ble_eq_true rfl) dX3_partOf_4 ?_
  try dsimp only [Option.toList, List.cons_append, List.nil_append]
  refine s_if_eq (tgt := 19) hK dX3_partOf_7 (by decide) (fun c_7 => absurd c_7 (fun q => by rw [show wi (nI bk) 0 11 = true from wi_nI (N := 11) (by omega) (by decide)] at q; exact absurd q (by decide))) (fun c_7 => ?_)
  refine s_iload2 hK dX3_partOf_10 ?_
  refine s_iconst (v := 0) hK dX3_partOf_11 (by decide) ?_
  refine s_iconst (v := 5) hK dX3_partOf_12 (by decide) ?_
  refine s_callN (host := RX6) hK mdX6_isWithin (zX6_isWithin _ _ _) gX3_partOf_X6_isWithin_n34 (by decide +kernel) (by decide +kernel) (by decide +kernel) rfl ⟨Nat.le_of_ble_eq_true rfl, Nat.le_of_ble_eq_true rfl⟩ rfl (Nat.le_of_ble_eq_true rfl) dX3_partOf_13 ?_
  try dsimp only [Option.toList, List.cons_append, List.nil_append]
  refine s_if_ne (tgt := 21) hK dX3_partOf_16 (by decide) (fun c_16 => ?_) (fun c_16 => absurd c_16 (fun q => by rw [show wi (nI wh) 0 5 = true from wi_nI (N := 5) (by omega) (by decide)] at q; exact absurd q (by decide)))
  refine s_aload0 hK dX3_partOf_21 ?_
  refine s_getiv (v := nI la) (hl2) (ci := 3) (k := 2) hK ho rfl i_3 (by decide +kernel) dX3_partOf_22 (by decide) (by decide) (by decide) rfl rfl ?_
  refine s_bipush (v := 12) hK dX3_partOf_25 (by decide) ?_
  refine s_iadd hK dX3_partOf_27 ?_
  refine s_iload1 hK dX3_partOf_28 ?_
  refine s_isub hK dX3_partOf_29 ?_
  refine s_bipush (v := 12) hK dX3_partOf_30 (by decide) ?_
  refine s_irem hK dX3_partOf_32 (by decide) ?_
  rw [show nI la + 12 - nI bk - (nI la + 12 - nI bk) / 12 * 12 = nI ((la + 12 - bk) % 12) from by rw [show (12 : Int32) = nI 12 from rfl, nI_add, pk_sub (by omega)]; exact rem_nI 12 (by omega) (by decide) (by decide)]
  refine s_istore3 hK dX3_partOf_33 ?_
  refine s_aload0 hK dX3_partOf_34 ?_
  refine s_getr (ci := 3) (k := 0) hK ho rfl i_3 (by decide +kernel) dX3_partOf_35 (by decide) (by decide) (by decide) rfl rfl (rf_3_0 ho) ?_
  refine s_iload3 hK dX3_partOf_38 ?_
  refine s_bipush (v := 6) hK dX3_partOf_39 (by decide) ?_
  refine s_imul hK dX3_partOf_41 ?_
  refine s_iload2 hK dX3_partOf_42 ?_
  refine s_iadd hK dX3_partOf_43 ?_
  rw [ix6]
  refine s_iald hK (kLp ho) (by rw [lLp ho]; exact vp_in_nI (show (la + 12 - bk) % 12 * 6 + wh < 72 by omega) (by decide)) dX3_partOf_44 ?_
  rw [cl_nI (show (la + 12 - bk) % 12 * 6 + wh < 2 ^ 31 by omega)]
  exact s_iret hK hE dX3_partOf_45 rfl (rfl) (rfl)
set_option maxHeartbeats 4000000 in
set_option maxRecDepth 100000 in
theorem zX5_hardness {g : aG} {l : Launch} {σ : aS} (s : Nat) (ho : kd s = 5) : CN g l yX5_hardness wsX5_hardness 0 0 [.ref s] σ (some (.int (σ (s + 1) 3))) σ := by
  refine cn_of (cc := cX5_hardness) (nL := 1) (ret := (some .int)) (own := RX5) (by decide +kernel) rfl rfl (Nat.le_of_ble_eq_true rfl) (fun K hg hl hK hE => ?_)
  subst hg; subst hl
  have i_5 : ∀ w ∈ u_ws RX5 TX5 10, w ∈ wsX5_hardness := by decide +kernel
  show AW K 0 [some (.ref s)] [] σ
  refine s_aload0 hK dX5_hardness_0 ?_
  refine s_getr (ci := 5) (k := 1) hK ho rfl i_5 (by decide +kernel) dX5_hardness_1 (by decide) (by decide) (by decide) rfl rfl (rf_5_1 ho) ?_
  refine s_iconst (v := 3) hK dX5_hardness_4 (by decide) ?_
  refine s_ialdv (v := σ (s + 1) 3) (rfl) hK (kS1 ho) (by rw [lS1 ho]; exact vp_in_nI (n := 3) (by decide) (by decide)) dX5_hardness_5 ?_
  exact s_iret hK hE dX5_hardness_6 rfl (rfl) (rfl)
set_option maxHeartbeats 4000000 in
set_option maxRecDepth 100000 in
theorem zX5_driftX {g : aG} {l : Launch} {σ : aS} (s : Nat) (ho : kd s = 5) : CN g l yX5_driftX wsX5_driftX 0 0 [.ref s] σ (some (.int (dX σ s))) σ := by
  refine cn_of (cc := cX5_driftX) (nL := 1) (ret := (some .int)) (own := RX5) (by decide +kernel) rfl rfl (Nat.le_of_ble_eq_true rfl) (fun K hg hl hK hE => ?_)
  subst hg; subst hl
  have i_5 : ∀ w ∈ u_ws RX5 TX5 10, w ∈ wsX5_driftX := by decide +kernel
  show AW K 0 [some (.ref s)] [] σ
  refine s_aload0 hK dX5_driftX_0 ?_
  refine s_getr (ci := 5) (k := 1) hK ho rfl i_5 (by decide +kernel) dX5_driftX_1 (by decide) (by decide) (by decide) rfl rfl (rf_5_1 ho) ?_
  refine s_iconst (v := 0) hK dX5_driftX_4 (by decide) ?_
  refine s_ialdv (v := σ (s + 1) 0) (rfl) hK (kS1 ho) (by rw [lS1 ho]; exact vp_in_nI (n := 0) (by decide) (by decide)) dX5_driftX_5 ?_
  refine s_bipush (v := 50) hK dX5_driftX_6 (by decide) ?_
  refine s_isub hK dX5_driftX_8 ?_
  refine s_aload0 hK dX5_driftX_9 ?_
  refine s_getr (ci := 5) (k := 1) hK ho rfl i_5 (by decide +kernel) dX5_driftX_10 (by decide) (by decide) (by decide) rfl rfl (rf_5_1 ho) ?_
  refine s_iconst (v := 1) hK dX5_driftX_13 (by decide) ?_
  refine s_ialdv (v := σ (s + 1) 1) (rfl) hK (kS1 ho) (by rw [lS1 ho]; exact vp_in_nI (n := 1) (by decide) (by decide)) dX5_driftX_14 ?_
  refine s_imul hK dX5_driftX_15 ?_
  refine s_bipush (v := 50) hK dX5_driftX_16 (by decide) ?_
  refine s_idiv hK dX5_driftX_18 (by decide) ?_
  exact s_iret hK hE dX5_driftX_19 rfl (rfl) (rfl)
set_option maxHeartbeats 4000000 in
set_option maxRecDepth 100000 in
theorem zX5_driftY {g : aG} {l : Launch} {σ : aS} (s : Nat) (ho : kd s = 5) : CN g l yX5_driftY wsX5_driftY 0 0 [.ref s] σ (some (.int (dY σ s))) σ := by
  refine cn_of (cc := cX5_driftY) (nL := 1) (ret := (some .int)) (own := RX5) (by decide +kernel) rfl rfl (Nat.le_of_ble_eq_true rfl) (fun K hg hl hK hE => ?_)
  subst hg; subst hl
  have i_5 : ∀ w ∈ u_ws RX5 TX5 10, w ∈ wsX5_driftY := by decide +kernel
  show AW K 0 [some (.ref s)] [] σ
  refine s_aload0 hK dX5_driftY_0 ?_
  refine s_getr (ci := 5) (k := 1) hK ho rfl i_5 (by decide +kernel) dX5_driftY_1 (by decide) (by decide) (by decide) rfl rfl (rf_5_1 ho) ?_
  refine s_iconst (v := 0) hK dX5_driftY_4 (by decide) ?_
  refine s_ialdv (v := σ (s + 1) 0) (rfl) hK (kS1 ho) (by rw [lS1 ho]; exact vp_in_nI (n := 0) (by decide) (by decide)) dX5_driftY_5 ?_
  refine s_bipush (v := 50) hK dX5_driftY_6 (by decide) ?_
  refine s_isub hK dX5_driftY_8 ?_
  refine s_aload0 hK dX5_driftY_9 ?_
  refine s_getr (ci := 5) (k := 1) hK ho rfl i_5 (by decide +kernel) dX5_driftY_10 (by decide) (by decide) (by decide) rfl rfl (rf_5_1 ho) ?_
  refine s_iconst (v := 2) hK dX5_driftY_13 (by decide) ?_
  refine s_ialdv (v := σ (s + 1) 2) (rfl) hK (kS1 ho) (by rw [lS1 ho]; exact vp_in_nI (n := 2) (by decide) (by decide)) dX5_driftY_14 ?_
  refine s_imul hK dX5_driftY_15 ?_
  refine s_bipush (v := 50) hK dX5_driftY_16 (by decide) ?_
  refine s_idiv hK dX5_driftY_18 (by decide) ?_
  exact s_iret hK hE dX5_driftY_19 rfl (rfl) (rfl)
set_option maxHeartbeats 4000000 in
set_option maxRecDepth 100000 in
theorem zX5_shiftX {g : aG} {l : Launch} {σ : aS} (s : Nat) (ho : kd s = 5) : CN g l yX5_shiftX wsX5_shiftX 1 20 [.ref s] σ (some (.int (σ s 3 + dX σ s))) σ := by
  refine cn_of (cc := cX5_shiftX) (nL := 1) (ret := (some .int)) (own := RX5) (by decide +kernel) rfl rfl (Nat.le_of_ble_eq_true rfl) (fun K hg hl hK hE => ?_)
  subst hg; subst hl
  have i_5 : ∀ w ∈ u_ws RX5 TX5 10, w ∈ wsX5_shiftX := by decide +kernel
  show AW K 0 [some (.ref s)] [] σ
  refine s_aload0 hK dX5_shiftX_0 ?_
  refine s_geti (ci := 5) (k := 3) hK ho rfl i_5 (by decide +kernel) dX5_shiftX_1 (by decide) (by decide) (by decide) rfl rfl ?_
  refine s_aload0 hK dX5_shiftX_4 ?_
  refine s_callV (ci := 5) hK mdX5_driftX (zX5_driftX s ho) gX5_shiftX_X5_driftX ho rfl rfl (by decide) rfl ⟨Nat.le_of_ble_eq_true rfl, Nat.le_of_ble_eq_true rfl⟩ rfl (Nat.le_of_ble_eq_true rfl) dX5_shiftX_5 ?_
  try dsimp only [Option.toList, List.cons_append, List.nil_append]
  refine s_iadd hK dX5_shiftX_8 ?_
  exact s_iret hK hE dX5_shiftX_9 rfl (rfl) (rfl)
set_option maxHeartbeats 4000000 in
set_option maxRecDepth 100000 in
theorem zX5_shiftY {g : aG} {l : Launch} {σ : aS} (s : Nat) (ho : kd s = 5) : CN g l yX5_shiftY wsX5_shiftY 1 20 [.ref s] σ (some (.int (σ s 4 + dY σ s))) σ := by
  refine cn_of (cc := cX5_shiftY) (nL := 1) (ret := (some .int)) (own := RX5) (by decide +kernel) rfl rfl (Nat.le_of_ble_eq_true rfl) (fun K hg hl hK hE => ?_)
  subst hg; subst hl
  have i_5 : ∀ w ∈ u_ws RX5 TX5 10, w ∈ wsX5_shiftY := by decide +kernel
  show AW K 0 [some (.ref s)] [] σ
  refine s_aload0 hK dX5_shiftY_0 ?_
  refine s_geti (ci := 5) (k := 4) hK ho rfl i_5 (by decide +kernel) dX5_shiftY_1 (by decide) (by decide) (by decide) rfl rfl ?_
  refine s_aload0 hK dX5_shiftY_4 ?_
  refine s_callV (ci := 5) hK mdX5_driftY (zX5_driftY s ho) gX5_shiftY_X5_driftY ho rfl rfl (by decide) rfl ⟨Nat.le_of_ble_eq_true rfl, Nat.le_of_ble_eq_true rfl⟩ rfl (Nat.le_of_ble_eq_true rfl) dX5_shiftY_5 ?_
  try dsimp only [Option.toList, List.cons_append, List.nil_append]
  refine s_iadd hK dX5_shiftY_8 ?_
  exact s_iret hK hE dX5_shiftY_9 rfl (rfl) (rfl)
set_option maxHeartbeats 4000000 in
set_option maxRecDepth 100000 in
theorem zX5_dry {g : aG} {l : Launch} {σ : aS} (s : Nat) (ho : kd s = 5) : CN g l yX5_dry wsX5_dry 1 21 [.ref s] σ none (dr σ s) := by
  refine cn_of (cc := cX5_dry) (nL := 1) (ret := none) (own := RX5) (by decide +kernel) rfl rfl (Nat.le_of_ble_eq_true rfl) (fun K hg hl hK hE => ?_)
  subst hg; subst hl
  have i_5 : ∀ w ∈ u_ws RX5 TX5 10, w ∈ wsX5_dry := by decide +kernel
  show AW K 0 [some (.ref s)] [] σ
  refine s_aload0 hK dX5_dry_0 ?_
  refine s_getr (ci := 5) (k := 1) hK ho rfl i_5 (by decide +kernel) dX5_dry_1 (by decide) (by decide) (by decide) rfl rfl (rf_5_1 ho) ?_
  refine s_iconst (v := 0) hK dX5_dry_4 (by decide) ?_
  refine s_iconst (v := 0) hK dX5_dry_5 (by decide) ?_
  refine s_aload0 hK dX5_dry_6 ?_
  refine s_getr (ci := 5) (k := 1) hK ho rfl i_5 (by decide +kernel) dX5_dry_7 (by decide) (by decide) (by decide) rfl rfl (rf_5_1 ho) ?_
  refine s_iconst (v := 0) hK dX5_dry_10 (by decide) ?_
  refine s_ialdv (v := σ (s + 1) 0) (rfl) hK (kS1 ho) (by rw [lS1 ho]; exact vp_in_nI (n := 0) (by decide) (by decide)) dX5_dry_11 ?_
  refine s_aload0 hK dX5_dry_12 ?_
  refine s_getr (ci := 5) (k := 1) hK ho rfl i_5 (by decide +kernel) dX5_dry_13 (by decide) (by decide) (by decide) rfl rfl (rf_5_1 ho) ?_
  refine s_iconst (v := 4) hK dX5_dry_16 (by decide) ?_
  refine s_ialdv (v := σ (s + 1) 4) (rfl) hK (kS1 ho) (by rw [lS1 ho]; exact vp_in_nI (n := 4) (by decide) (by decide)) dX5_dry_17 ?_
  refine s_isub hK dX5_dry_18 ?_
  refine s_mmax hK (by decide +kernel) (by decide +kernel) (by decide +kernel) (by decide +kernel) (by decide) (Nat.le_of_ble_eq_true rfl) dX5_dry_19 ?_
  refine s_iast hK (kS1 ho) (by rw [lS1 ho]; exact vp_in_nI (n := 0) (by decide) (by decide)) dX5_dry_22 ?_
  exact s_vret hK hE dX5_dry_23 (rfl)
set_option maxHeartbeats 4000000 in
set_option maxRecDepth 100000 in
theorem zX5_isTaken {g : aG} {l : Launch} {σ : aS} (s : Nat) (slot : Int32) (ho : kd s = 5) (h8 : σ s 8 = 0 ∨ σ s 8 = 1) (h9 : σ s 9 = 0 ∨ σ s 9 = 1) : CN g l yX5_isTaken wsX5_isTaken 0 0 [.ref s, .int slot] σ (some (.int (if slot = 0 then σ s 8 else σ s 9))) σ := by
  refine cn_of (cc := cX5_isTaken) (nL := 2) (ret := (some .boolean)) (own := RX5) (by decide +kernel) rfl rfl (Nat.le_of_ble_eq_true rfl) (fun K hg hl hK hE => ?_)
  subst hg; subst hl
  have i_5 : ∀ w ∈ u_ws RX5 TX5 10, w ∈ wsX5_isTaken := by decide +kernel
  show AW K 0 [some (.ref s), some (.int slot)] [] σ
  refine s_iload1 hK dX5_isTaken_0 ?_
  refine s_if_ne (tgt := 11) hK dX5_isTaken_1 (by decide) (fun c_1 => ?_) (fun c_1 => ?_)
  · refine s_aload0 hK dX5_isTaken_11 ?_
    refine s_geti (ci := 5) (k := 9) hK ho rfl i_5 (by decide +kernel) dX5_isTaken_12 (by decide) (by decide) (by decide) rfl rfl ?_
    exact s_iret hK hE dX5_isTaken_15 (by first | exact nz_or h8 | exact nz_or h9) (by simp [c_1]) (rfl)
  · refine s_aload0 hK dX5_isTaken_4 ?_
    refine s_geti (ci := 5) (k := 8) hK ho rfl i_5 (by decide +kernel) dX5_isTaken_5 (by decide) (by decide) (by decide) rfl rfl ?_
    refine s_goto (tgt := 15) hK dX5_isTaken_8 (by decide) ?_
    exact s_iret hK hE dX5_isTaken_15 (by first | exact nz_or h8 | exact nz_or h9) (by simp [c_1]) (rfl)
set_option maxHeartbeats 4000000 in
set_option maxRecDepth 100000 in
theorem zX5_snapshots {g : aG} {l : Launch} {σ : aS} (s : Nat) (ho : kd s = 5) : CN g l yX5_snapshots wsX5_snapshots 1 20 [.ref s] σ (some (.int (on (σ s 8) + on (σ s 9)))) σ := by
  refine cn_of (cc := cX5_snapshots) (nL := 1) (ret := (some .int)) (own := RX5) (by decide +kernel) rfl rfl (Nat.le_of_ble_eq_true rfl) (fun K hg hl hK hE => ?_)
  subst hg; subst hl
  have i_5 : ∀ w ∈ u_ws RX5 TX5 10, w ∈ wsX5_snapshots := by decide +kernel
  show AW K 0 [some (.ref s)] [] σ
  refine s_aload0 hK dX5_snapshots_0 ?_
  refine s_geti (ci := 5) (k := 8) hK ho rfl i_5 (by decide +kernel) dX5_snapshots_1 (by decide) (by decide) (by decide) rfl rfl ?_
  refine s_callN (host := RX6) hK mdX6_oneIf (zX6_oneIf _) gX5_snapshots_X6_oneIf_n81 (by decide +kernel) (by decide +kernel) (by decide +kernel) rfl ⟨Nat.le_of_ble_eq_true rfl, Nat.le_of_ble_eq_true rfl⟩ rfl (Nat.le_of_ble_eq_true rfl) dX5_snapshots_4 ?_
  try dsimp only [Option.toList, List.cons_append, List.nil_append]
  refine s_aload0 hK dX5_snapshots_7 ?_
  refine s_geti (ci := 5) (k := 9) hK ho rfl i_5 (by decide +kernel) dX5_snapshots_8 (by decide) (by decide) (by decide) rfl rfl ?_
  refine s_callN (host := RX6) hK mdX6_oneIf (zX6_oneIf _) gX5_snapshots_X6_oneIf_n81 (by decide +kernel) (by decide +kernel) (by decide +kernel) rfl ⟨Nat.le_of_ble_eq_true rfl, Nat.le_of_ble_eq_true rfl⟩ rfl (Nat.le_of_ble_eq_true rfl) dX5_snapshots_11 ?_
  try dsimp only [Option.toList, List.cons_append, List.nil_append]
  refine s_iadd hK dX5_snapshots_14 ?_
  exact s_iret hK hE dX5_snapshots_15 rfl (rfl) (rfl)
set_option maxHeartbeats 4000000 in
set_option maxRecDepth 100000 in
theorem zX5_snapshotIn {g : aG} {l : Launch} {σ : aS} (s : Nat) (slot : Int32) (ho : kd s = 5) : CN g l yX5_snapshotIn wsX5_snapshotIn 0 0 [.ref s, .int slot] σ (some (.ref (sb s slot))) σ := by
  refine cn_of (cc := cX5_snapshotIn) (nL := 2) (ret := (some (.object "WoodcutPress$Blocks"))) (own := RX5) (by decide +kernel) rfl rfl (Nat.le_of_ble_eq_true rfl) (fun K hg hl hK hE => ?_)
  subst hg; subst hl
  have i_5 : ∀ w ∈ u_ws RX5 TX5 10, w ∈ wsX5_snapshotIn := by decide +kernel
  show AW K 0 [some (.ref s), some (.int slot)] [] σ
  refine s_iload1 hK dX5_snapshotIn_0 ?_
  refine s_if_ne (tgt := 11) hK dX5_snapshotIn_1 (by decide) (fun c_1 => ?_) (fun c_1 => ?_)
  · refine s_aload0 hK dX5_snapshotIn_11 ?_
    refine s_getr (ci := 5) (k := 7) hK ho rfl i_5 (by decide +kernel) dX5_snapshotIn_12 (by decide) (by decide) (by decide) rfl rfl (rf_5_7 ho) ?_
    exact s_aret hK hE dX5_snapshotIn_15 (by simp [sb, c_1]) (rfl)
  · refine s_aload0 hK dX5_snapshotIn_4 ?_
    refine s_getr (ci := 5) (k := 6) hK ho rfl i_5 (by decide +kernel) dX5_snapshotIn_5 (by decide) (by decide) (by decide) rfl rfl (rf_5_6 ho) ?_
    refine s_goto (tgt := 15) hK dX5_snapshotIn_8 (by decide) ?_
    exact s_aret hK hE dX5_snapshotIn_15 (by simp [sb, c_1]) (rfl)
set_option maxHeartbeats 4000000 in
set_option maxRecDepth 100000 in
theorem zX5_restoreSnapshot {g : aG} {l : Launch} {σ : aS} (s : Nat) (slot : Int32) (ho : kd s = 5) : CN g l yX5_restoreSnapshot wsX5_restoreSnapshot 3 68 [.ref s, .int slot] σ none (bB σ (s + 10) (sb s slot)) := by
  refine cn_of (cc := cX5_restoreSnapshot) (nL := 2) (ret := none) (own := RX5) (by decide +kernel) rfl rfl (Nat.le_of_ble_eq_true rfl) (fun K hg hl hK hE => ?_)
  subst hg; subst hl
  have i_5 : ∀ w ∈ u_ws RX5 TX5 10, w ∈ wsX5_restoreSnapshot := by decide +kernel
  show AW K 0 [some (.ref s), some (.int slot)] [] σ
  refine s_aload0 hK dX5_restoreSnapshot_0 ?_
  refine s_getr (ci := 5) (k := 0) hK ho rfl i_5 (by decide +kernel) dX5_restoreSnapshot_1 (by decide) (by decide) (by decide) rfl rfl (rf_5_0 ho) ?_
  refine s_aload0 hK dX5_restoreSnapshot_4 ?_
  refine s_iload1 hK dX5_restoreSnapshot_5 ?_
  refine s_callV (ci := 5) hK mdX5_snapshotIn (zX5_snapshotIn s slot ho) gX5_restoreSnapshot_X5_snapshotIn ho rfl rfl (by decide) rfl ⟨Nat.le_of_ble_eq_true rfl, Nat.le_of_ble_eq_true rfl⟩ rfl (Nat.le_of_ble_eq_true rfl) dX5_restoreSnapshot_6 ?_
  try dsimp only [Option.toList, List.cons_append, List.nil_append]
  refine s_callV (ci := 0) hK mdX0_becomeLike (zX0_becomeLike (s + 10) (sb s slot) (kS10 ho) (sb_k ho)) gX5_restoreSnapshot_X0_becomeLike (kS10 ho) rfl rfl (by decide) rfl ⟨Nat.le_of_ble_eq_true rfl, Nat.le_of_ble_eq_true rfl⟩ rfl (Nat.le_of_ble_eq_true rfl) dX5_restoreSnapshot_9 ?_
  try dsimp only [Option.toList, List.cons_append, List.nil_append]
  exact s_vret hK hE dX5_restoreSnapshot_12 (rfl)
set_option maxHeartbeats 4000000 in
set_option maxRecDepth 100000 in
theorem zX5_takeSnapshot {g : aG} {l : Launch} {σ : aS} (s : Nat) (slot : Int32) (ho : kd s = 5) : CN g l yX5_takeSnapshot wsX5_takeSnapshot 3 68 [.ref s, .int slot] σ none (tS σ s slot) := by
  refine cn_of (cc := cX5_takeSnapshot) (nL := 2) (ret := none) (own := RX5) (by decide +kernel) rfl rfl (Nat.le_of_ble_eq_true rfl) (fun K hg hl hK hE => ?_)
  subst hg; subst hl
  have i_5 : ∀ w ∈ u_ws RX5 TX5 10, w ∈ wsX5_takeSnapshot := by decide +kernel
  show AW K 0 [some (.ref s), some (.int slot)] [] σ
  refine s_aload0 hK dX5_takeSnapshot_0 ?_
  refine s_iload1 hK dX5_takeSnapshot_1 ?_
  refine s_callV (ci := 5) hK mdX5_snapshotIn (zX5_snapshotIn s slot ho) gX5_takeSnapshot_X5_snapshotIn ho rfl rfl (by decide) rfl ⟨Nat.le_of_ble_eq_true rfl, Nat.le_of_ble_eq_true rfl⟩ rfl (Nat.le_of_ble_eq_true rfl) dX5_takeSnapshot_2 ?_
  try dsimp only [Option.toList, List.cons_append, List.nil_append]
  refine s_aload0 hK dX5_takeSnapshot_5 ?_
  refine s_getr (ci := 5) (k := 0) hK ho rfl i_5 (by decide +kernel) dX5_takeSnapshot_6 (by decide) (by decide) (by decide) rfl rfl (rf_5_0 ho) ?_
  refine s_callV (ci := 0) hK mdX0_becomeLike (zX0_becomeLike (sb s slot) (s + 10) (sb_k ho) (kS10 ho)) gX5_takeSnapshot_X0_becomeLike (sb_k ho) rfl rfl (by decide) rfl ⟨Nat.le_of_ble_eq_true rfl, Nat.le_of_ble_eq_true rfl⟩ rfl (Nat.le_of_ble_eq_true rfl) dX5_takeSnapshot_9 ?_
  try dsimp only [Option.toList, List.cons_append, List.nil_append]
  refine s_aload0 hK dX5_takeSnapshot_12 ?_
  refine AW.cut (j := 29) (v := if bB σ (sb s slot) (s + 10) s 8 = 0 ∧ ¬ slot = 0 then 0 else 1) (fun hJ_29 => ?_) ?_
  · refine s_aload0 hK dX5_takeSnapshot_13 ?_
    refine s_geti (ci := 5) (k := 8) hK ho rfl i_5 (by decide +kernel) dX5_takeSnapshot_14 (by decide) (by decide) (by decide) rfl rfl ?_
    refine s_if_ne (tgt := 24) hK dX5_takeSnapshot_17 (by decide) (fun c_17 => ?_) (fun c_17 => ?_)
    · refine s_iconst (v := 1) hK dX5_takeSnapshot_24 (by decide) ?_
      refine s_goto (tgt := 29) hK dX5_takeSnapshot_25 (by decide) ?_
      exact AW.vv hJ_29 (by first | simp [c_17, c_21] | simp [c_17])
    · refine s_iload1 hK dX5_takeSnapshot_20 ?_
      refine s_if_ne (tgt := 28) hK dX5_takeSnapshot_21 (by decide) (fun c_21 => ?_) (fun c_21 => ?_)
      · refine s_iconst (v := 0) hK dX5_takeSnapshot_28 (by decide) ?_
        exact AW.vv hJ_29 (by first | simp [c_17, c_21] | simp [c_17])
      · refine s_iconst (v := 1) hK dX5_takeSnapshot_24 (by decide) ?_
        refine s_goto (tgt := 29) hK dX5_takeSnapshot_25 (by decide) ?_
        exact AW.vv hJ_29 (by first | simp [c_17, c_21] | simp [c_17])
  show AW K _ _ _ _
  refine s_putg (ci := 5) (k := 8) (ty := .boolean) hK ho rfl i_5 (by decide +kernel) dX5_takeSnapshot_29 tyX5_ok nmX5 (by decide) (by decide) (by decide) rfl rfl rfl (by decide +kernel) nz_if fz_if ?_
  refine s_aload0 hK dX5_takeSnapshot_32 ?_
  refine AW.cut (j := 50) (v := if (sP (bB σ (sb s slot) (s + 10)) s (upd (bB σ (sb s slot) (s + 10) s) 8 (if bB σ (sb s slot) (s + 10) s 8 = 0 ∧ ¬ slot = 0 then 0 else 1))) s 9 = 0 ∧ ¬ slot = 1 then 0 else 1) (fun hJ_50 => ?_) ?_
  · refine s_aload0 hK dX5_takeSnapshot_33 ?_
    refine s_geti (ci := 5) (k := 9) hK ho rfl i_5 (by decide +kernel) dX5_takeSnapshot_34 (by decide) (by decide) (by decide) rfl rfl ?_
    refine s_if_ne (tgt := 45) hK dX5_takeSnapshot_37 (by decide) (fun c_37 => ?_) (fun c_37 => ?_)
    · refine s_iconst (v := 1) hK dX5_takeSnapshot_45 (by decide) ?_
      refine s_goto (tgt := 50) hK dX5_takeSnapshot_46 (by decide) ?_
      exact AW.vv hJ_50 (by first | simp [c_37, c_42] | simp [c_37])
    · refine s_iload1 hK dX5_takeSnapshot_40 ?_
      refine s_iconst (v := 1) hK dX5_takeSnapshot_41 (by decide) ?_
      refine s_icmp_ne (tgt := 49) hK dX5_takeSnapshot_42 (by decide) (fun c_42 => ?_) (fun c_42 => ?_)
      · refine s_iconst (v := 0) hK dX5_takeSnapshot_49 (by decide) ?_
        exact AW.vv hJ_50 (by first | simp [c_37, c_42] | simp [c_37])
      · refine s_iconst (v := 1) hK dX5_takeSnapshot_45 (by decide) ?_
        refine s_goto (tgt := 50) hK dX5_takeSnapshot_46 (by decide) ?_
        exact AW.vv hJ_50 (by first | simp [c_37, c_42] | simp [c_37])
  show AW K _ _ _ _
  refine s_putg (ci := 5) (k := 9) (ty := .boolean) hK ho rfl i_5 (by decide +kernel) dX5_takeSnapshot_50 tyX5_ok nmX5 (by decide) (by decide) (by decide) rfl rfl rfl (by decide +kernel) nz_if fz_if ?_
  exact s_vret hK hE dX5_takeSnapshot_53 (rfl)
set_option maxHeartbeats 4000000 in
set_option maxRecDepth 100000 in
theorem zX5_becomeLike {g : aG} {l : Launch} {σ : aS} (a b : Nat) (ha : kd a = 5) (hb : kd b = 5) (h8 : σ b 8 = 0 ∨ σ b 8 = 1) (h9 : σ b 9 = 0 ∨ σ b 9 = 1) : CN g l yX5_becomeLike wsX5_becomeLike 3 68 [.ref a, .ref b] σ none (sB σ a b) := by
  refine cn_of (cc := cX5_becomeLike) (nL := 2) (ret := none) (own := RX5) (by decide +kernel) rfl rfl (Nat.le_of_ble_eq_true rfl) (fun K hg hl hK hE => ?_)
  subst hg; subst hl
  have i_5 : ∀ w ∈ u_ws RX5 TX5 10, w ∈ wsX5_becomeLike := by decide +kernel
  show AW K 0 [some (.ref a), some (.ref b)] [] σ
  refine s_aload0 hK dX5_becomeLike_0 ?_
  refine s_getr (ci := 5) (k := 0) hK ha rfl i_5 (by decide +kernel) dX5_becomeLike_1 (by decide) (by decide) (by decide) rfl rfl (rf_5_0 ha) ?_
  refine s_aload1 hK dX5_becomeLike_4 ?_
  refine s_getr (ci := 5) (k := 0) hK hb rfl i_5 (by decide +kernel) dX5_becomeLike_5 (by decide) (by decide) (by decide) rfl rfl (rf_5_0 hb) ?_
  refine s_callV (ci := 0) hK mdX0_becomeLike (zX0_becomeLike (a + 10) (b + 10) (kS10 ha) (kS10 hb)) gX5_becomeLike_X0_becomeLike (kS10 ha) rfl rfl (by decide) rfl ⟨Nat.le_of_ble_eq_true rfl, Nat.le_of_ble_eq_true rfl⟩ rfl (Nat.le_of_ble_eq_true rfl) dX5_becomeLike_8 ?_
  try dsimp only [Option.toList, List.cons_append, List.nil_append]
  refine s_aload1 hK dX5_becomeLike_11 ?_
  refine s_getr (ci := 5) (k := 1) hK hb rfl i_5 (by decide +kernel) dX5_becomeLike_12 (by decide) (by decide) (by decide) rfl rfl (rf_5_1 hb) ?_
  refine s_iconst (v := 0) hK dX5_becomeLike_15 (by decide) ?_
  refine s_aload0 hK dX5_becomeLike_16 ?_
  refine s_getr (ci := 5) (k := 1) hK ha rfl i_5 (by decide +kernel) dX5_becomeLike_17 (by decide) (by decide) (by decide) rfl rfl (rf_5_1 ha) ?_
  refine s_iconst (v := 0) hK dX5_becomeLike_20 (by decide) ?_
  refine s_iconst (v := 5) hK dX5_becomeLike_21 (by decide) ?_
  refine s_acopy hK (by decide +kernel) (by decide +kernel) (by decide +kernel) (by decide +kernel) (kS1 hb) (kS1 ha) (by decide) (by decide) (by decide) (by rw [lS1 hb]; decide) (by rw [lS1 ha]; decide) (by decide) (by decide) dX5_becomeLike_22 ?_
  refine s_aload0 hK dX5_becomeLike_25 ?_
  refine s_getr (ci := 5) (k := 2) hK ha rfl i_5 (by decide +kernel) dX5_becomeLike_26 (by decide) (by decide) (by decide) rfl rfl (rf_5_2 ha) ?_
  refine s_aload1 hK dX5_becomeLike_29 ?_
  refine s_getr (ci := 5) (k := 2) hK hb rfl i_5 (by decide +kernel) dX5_becomeLike_30 (by decide) (by decide) (by decide) rfl rfl (rf_5_2 hb) ?_
  refine s_callV (ci := 3) hK mdX3_becomeLike (zX3_becomeLike (a + 2) (b + 2) (kS2 ha) (kS2 hb)) gX5_becomeLike_X3_becomeLike (kS2 ha) rfl rfl (by decide) rfl ⟨Nat.le_of_ble_eq_true rfl, Nat.le_of_ble_eq_true rfl⟩ rfl (Nat.le_of_ble_eq_true rfl) dX5_becomeLike_33 ?_
  try dsimp only [Option.toList, List.cons_append, List.nil_append]
  show AW K _ _ _ (sB1 σ a b)
  refine s_aload0 hK dX5_becomeLike_36 ?_
  refine s_aload1 hK dX5_becomeLike_37 ?_
  refine s_geti (ci := 5) (k := 3) hK hb rfl i_5 (by decide +kernel) dX5_becomeLike_38 (by decide) (by decide) (by decide) rfl rfl ?_
  refine s_putg (ci := 5) (k := 3) (ty := .int) hK ha rfl i_5 (by decide +kernel) dX5_becomeLike_41 tyX5_ok nmX5 (by decide) (by decide) (by decide) rfl rfl rfl (by decide +kernel) rfl rfl ?_
  refine s_aload0 hK dX5_becomeLike_44 ?_
  refine s_aload1 hK dX5_becomeLike_45 ?_
  refine s_geti (ci := 5) (k := 4) hK hb rfl i_5 (by decide +kernel) dX5_becomeLike_46 (by decide) (by decide) (by decide) rfl rfl ?_
  refine s_putg (ci := 5) (k := 4) (ty := .int) hK ha rfl i_5 (by decide +kernel) dX5_becomeLike_49 tyX5_ok nmX5 (by decide) (by decide) (by decide) rfl rfl rfl (by decide +kernel) rfl rfl ?_
  refine s_aload0 hK dX5_becomeLike_52 ?_
  refine s_aload1 hK dX5_becomeLike_53 ?_
  refine s_geti (ci := 5) (k := 5) hK hb rfl i_5 (by decide +kernel) dX5_becomeLike_54 (by decide) (by decide) (by decide) rfl rfl ?_
  refine s_putg (ci := 5) (k := 5) (ty := .int) hK ha rfl i_5 (by decide +kernel) dX5_becomeLike_57 tyX5_ok nmX5 (by decide) (by decide) (by decide) rfl rfl rfl (by decide +kernel) rfl rfl ?_
  show AW K _ _ _ (sB2 (sB1 σ a b) a b)
  refine s_aload0 hK dX5_becomeLike_60 ?_
  refine s_getr (ci := 5) (k := 6) hK ha rfl i_5 (by decide +kernel) dX5_becomeLike_61 (by decide) (by decide) (by decide) rfl rfl (rf_5_6 ha) ?_
  refine s_aload1 hK dX5_becomeLike_64 ?_
  refine s_getr (ci := 5) (k := 6) hK hb rfl i_5 (by decide +kernel) dX5_becomeLike_65 (by decide) (by decide) (by decide) rfl rfl (rf_5_6 hb) ?_
  refine s_callV (ci := 0) hK mdX0_becomeLike (zX0_becomeLike (a + 20) (b + 20) (kS20 ha) (kS20 hb)) gX5_becomeLike_X0_becomeLike (kS20 ha) rfl rfl (by decide) rfl ⟨Nat.le_of_ble_eq_true rfl, Nat.le_of_ble_eq_true rfl⟩ rfl (Nat.le_of_ble_eq_true rfl) dX5_becomeLike_68 ?_
  try dsimp only [Option.toList, List.cons_append, List.nil_append]
  refine s_aload0 hK dX5_becomeLike_71 ?_
  refine s_getr (ci := 5) (k := 7) hK ha rfl i_5 (by decide +kernel) dX5_becomeLike_72 (by decide) (by decide) (by decide) rfl rfl (rf_5_7 ha) ?_
  refine s_aload1 hK dX5_becomeLike_75 ?_
  refine s_getr (ci := 5) (k := 7) hK hb rfl i_5 (by decide +kernel) dX5_becomeLike_76 (by decide) (by decide) (by decide) rfl rfl (rf_5_7 hb) ?_
  refine s_callV (ci := 0) hK mdX0_becomeLike (zX0_becomeLike (a + 30) (b + 30) (kS30 ha) (kS30 hb)) gX5_becomeLike_X0_becomeLike (kS30 ha) rfl rfl (by decide) rfl ⟨Nat.le_of_ble_eq_true rfl, Nat.le_of_ble_eq_true rfl⟩ rfl (Nat.le_of_ble_eq_true rfl) dX5_becomeLike_79 ?_
  try dsimp only [Option.toList, List.cons_append, List.nil_append]
  show AW K _ _ _ (sB3 (sB2 (sB1 σ a b) a b) a b)
  refine s_aload0 hK dX5_becomeLike_82 ?_
  refine s_aload1 hK dX5_becomeLike_83 ?_
  refine s_geti (ci := 5) (k := 8) hK hb rfl i_5 (by decide +kernel) dX5_becomeLike_84 (by decide) (by decide) (by decide) rfl rfl ?_
  refine s_putg (ci := 5) (k := 8) (ty := .boolean) hK ha rfl i_5 (by decide +kernel) dX5_becomeLike_87 tyX5_ok nmX5 (by decide) (by decide) (by decide) rfl rfl rfl (by decide +kernel) (nz_or (by rw [sB3_8 ha hb (Nat.le_refl 8)]; exact h8)) (fz_or (by rw [sB3_8 ha hb (Nat.le_refl 8)]; exact h8)) ?_
  refine s_aload0 hK dX5_becomeLike_90 ?_
  refine s_aload1 hK dX5_becomeLike_91 ?_
  refine s_geti (ci := 5) (k := 9) hK hb rfl i_5 (by decide +kernel) dX5_becomeLike_92 (by decide) (by decide) (by decide) rfl rfl ?_
  refine s_putg (ci := 5) (k := 9) (ty := .boolean) hK ha rfl i_5 (by decide +kernel) dX5_becomeLike_95 tyX5_ok nmX5 (by decide) (by decide) (by decide) rfl rfl rfl (by decide +kernel) (nz_or (by rw [sB4_9 ha hb]; exact h9)) (fz_or (by rw [sB4_9 ha hb]; exact h9)) ?_
  exact s_vret hK hE dX5_becomeLike_98 (rfl)
set_option maxHeartbeats 4000000 in
set_option maxRecDepth 100000 in
theorem zX2_keep {g : aG} {l : Launch} {σ : aS} (nx : Nat) (hnx : nx < 5) (h2 : σ 601 2 = nI nx) (h8 : σ 0 8 = 0 ∨ σ 0 8 = 1) (h9 : σ 0 9 = 0 ∨ σ 0 9 = 1) : CN g l yX2_keep wsX2_keep 4 89 [.ref 601, .ref 0] σ none (kp σ nx) := by
  refine cn_of (cc := cX2_keep) (nL := 3) (ret := none) (own := RX2) (by decide +kernel) rfl rfl (Nat.le_of_ble_eq_true rfl) (fun K hg hl hK hE => ?_)
  subst hg; subst hl
  have i_2 : ∀ w ∈ u_ws RX2 TX2 3, w ∈ wsX2_keep := by decide +kernel
  show AW K 0 [some (.ref 601), some (.ref 0), none] [] σ
  refine s_aload0 hK dX2_keep_0 ?_
  refine s_getr (ci := 2) (k := 0) hK rfl rfl i_2 (by decide +kernel) dX2_keep_1 (by decide) (by decide) (by decide) rfl rfl (rf_2_0 rfl) ?_
  refine s_aload0 hK dX2_keep_4 ?_
  refine s_getiv (v := nI nx) (h2) (ci := 2) (k := 2) hK rfl rfl i_2 (by decide +kernel) dX2_keep_5 (by decide) (by decide) (by decide) rfl rfl ?_
  refine s_aald hK rfl (show vp_in _ 5 from vp_in_nI hnx (by decide)) ((congrArg (rf 602) (cl_nI (show nx < 2 ^ 31 by omega))).trans (rf_9 rfl)) dX2_keep_8 ?_
  refine s_astore2 hK dX2_keep_9 ?_
  refine s_aload2 hK dX2_keep_10 ?_
  refine s_ifnull hK dX2_keep_11 ?_
  refine s_aload2 hK dX2_keep_14 ?_
  refine s_aload1 hK dX2_keep_15 ?_
  refine s_callV (ci := 5) hK mdX5_becomeLike (zX5_becomeLike (100 * (nx + 1)) 0 (kd_st hnx) rfl h8 h9) gX2_keep_X5_becomeLike (kd_st hnx) rfl rfl (by decide) rfl ⟨Nat.le_of_ble_eq_true rfl, Nat.le_of_ble_eq_true rfl⟩ rfl (Nat.le_of_ble_eq_true rfl) dX2_keep_16 ?_
  try dsimp only [Option.toList, List.cons_append, List.nil_append]
  refine s_aload0 hK dX2_keep_19 ?_
  refine s_aload0 hK dX2_keep_20 ?_
  refine s_getiv (v := nI nx) (by rw [sB_obj (by decide) (kd_st hnx) (by omega) (by omega)]; exact h2) (ci := 2) (k := 2) hK rfl rfl i_2 (by decide +kernel) dX2_keep_21 (by decide) (by decide) (by decide) rfl rfl ?_
  refine s_iconst (v := 1) hK dX2_keep_24 (by decide) ?_
  refine s_iadd hK dX2_keep_25 ?_
  refine s_iconst (v := 5) hK dX2_keep_26 (by decide) ?_
  refine s_irem hK dX2_keep_27 (by decide) ?_
  rw [show nI nx + 1 - (nI nx + 1) / 5 * 5 = nI ((nx + 1) % 5) from by rw [nI_1]; exact rem_nI 5 (by omega) (by decide) (by decide)]
  refine s_putg (ci := 2) (k := 2) (ty := .int) hK rfl rfl i_2 (by decide +kernel) dX2_keep_28 tyX2_ok nmX2 (by decide) (by decide) (by decide) rfl rfl rfl (by decide +kernel) rfl rfl ?_
  refine s_aload0 hK dX2_keep_31 ?_
  refine s_aload0 hK dX2_keep_32 ?_
  refine s_getiv (v := σ 601 1) (by simp only [sP, if_true, upd]; rw [if_neg (by decide), sB_obj (by decide) (kd_st hnx) (by omega) (by omega)]) (ci := 2) (k := 1) hK rfl rfl i_2 (by decide +kernel) dX2_keep_33 (by decide) (by decide) (by decide) rfl rfl ?_
  refine s_iconst (v := 1) hK dX2_keep_36 (by decide) ?_
  refine s_iadd hK dX2_keep_37 ?_
  refine s_iconst (v := 5) hK dX2_keep_38 (by decide) ?_
  refine s_mmin hK (by decide +kernel) (by decide +kernel) (by decide +kernel) (by decide +kernel) (by decide) (Nat.le_of_ble_eq_true rfl) dX2_keep_39 ?_
  refine s_putg (ci := 2) (k := 1) (ty := .int) hK rfl rfl i_2 (by decide +kernel) dX2_keep_42 tyX2_ok nmX2 (by decide) (by decide) (by decide) rfl rfl rfl (by decide +kernel) rfl rfl ?_
  exact s_vret hK hE dX2_keep_45 (rfl)
set_option maxHeartbeats 4000000 in
set_option maxRecDepth 100000 in
theorem zX2_giveBack {g : aG} {l : Launch} {σ : aS} (nx : Nat) (hnx : nx < 5) (h2 : σ 601 2 = nI nx) (h8 : σ (100 * ((nx + 4) % 5 + 1)) 8 = 0 ∨ σ (100 * ((nx + 4) % 5 + 1)) 8 = 1) (h9 : σ (100 * ((nx + 4) % 5 + 1)) 9 = 0 ∨ σ (100 * ((nx + 4) % 5 + 1)) 9 = 1) : CN g l yX2_giveBack wsX2_giveBack 4 89 [.ref 601, .ref 0] σ none (gB_ σ nx) := by
  refine cn_of (cc := cX2_giveBack) (nL := 3) (ret := none) (own := RX2) (by decide +kernel) rfl rfl (Nat.le_of_ble_eq_true rfl) (fun K hg hl hK hE => ?_)
  subst hg; subst hl
  have i_2 : ∀ w ∈ u_ws RX2 TX2 3, w ∈ wsX2_giveBack := by decide +kernel
  show AW K 0 [some (.ref 601), some (.ref 0), none] [] σ
  refine s_aload0 hK dX2_giveBack_0 ?_
  refine s_aload0 hK dX2_giveBack_1 ?_
  refine s_getiv (v := nI nx) (h2) (ci := 2) (k := 2) hK rfl rfl i_2 (by decide +kernel) dX2_giveBack_2 (by decide) (by decide) (by decide) rfl rfl ?_
  refine s_iconst (v := 5) hK dX2_giveBack_5 (by decide) ?_
  refine s_iadd hK dX2_giveBack_6 ?_
  refine s_iconst (v := 1) hK dX2_giveBack_7 (by decide) ?_
  refine s_isub hK dX2_giveBack_8 ?_
  refine s_iconst (v := 5) hK dX2_giveBack_9 (by decide) ?_
  refine s_irem hK dX2_giveBack_10 (by decide) ?_
  rw [show nI nx + 5 - 1 - (nI nx + 5 - 1) / 5 * 5 = nI ((nx + 4) % 5) from by rw [show (5 : Int32) = nI 5 from rfl, nI_add, show (1 : Int32) = nI 1 from rfl, pk_sub (by omega), show nx + 5 - 1 = nx + 4 by omega]; exact rem_nI 5 (by omega) (by decide) (by decide)]
  refine s_putg (ci := 2) (k := 2) (ty := .int) hK rfl rfl i_2 (by decide +kernel) dX2_giveBack_11 tyX2_ok nmX2 (by decide) (by decide) (by decide) rfl rfl rfl (by decide +kernel) rfl rfl ?_
  refine s_aload0 hK dX2_giveBack_14 ?_
  refine s_aload0 hK dX2_giveBack_15 ?_
  refine s_getiv (v := σ 601 1) (by simp [sP, upd]) (ci := 2) (k := 1) hK rfl rfl i_2 (by decide +kernel) dX2_giveBack_16 (by decide) (by decide) (by decide) rfl rfl ?_
  refine s_iconst (v := 1) hK dX2_giveBack_19 (by decide) ?_
  refine s_isub hK dX2_giveBack_20 ?_
  refine s_iconst (v := 0) hK dX2_giveBack_21 (by decide) ?_
  refine s_mmax hK (by decide +kernel) (by decide +kernel) (by decide +kernel) (by decide +kernel) (by decide) (Nat.le_of_ble_eq_true rfl) dX2_giveBack_22 ?_
  refine s_putg (ci := 2) (k := 1) (ty := .int) hK rfl rfl i_2 (by decide +kernel) dX2_giveBack_25 tyX2_ok nmX2 (by decide) (by decide) (by decide) rfl rfl rfl (by decide +kernel) rfl rfl ?_
  refine s_aload0 hK dX2_giveBack_28 ?_
  refine s_getr (ci := 2) (k := 0) hK rfl rfl i_2 (by decide +kernel) dX2_giveBack_29 (by decide) (by decide) (by decide) rfl rfl (rf_2_0 rfl) ?_
  refine s_aload0 hK dX2_giveBack_32 ?_
  refine s_getiv (v := nI ((nx + 4) % 5)) (by simp [sP, upd]) (ci := 2) (k := 2) hK rfl rfl i_2 (by decide +kernel) dX2_giveBack_33 (by decide) (by decide) (by decide) rfl rfl ?_
  refine s_aald hK rfl (show vp_in _ 5 from vp_in_nI (by omega) (by decide)) ((congrArg (rf 602) (cl_nI (show (nx + 4) % 5 < 2 ^ 31 by omega))).trans (rf_9 rfl)) dX2_giveBack_36 ?_
  refine s_astore2 hK dX2_giveBack_37 ?_
  refine s_aload2 hK dX2_giveBack_38 ?_
  refine s_ifnull hK dX2_giveBack_39 ?_
  refine s_aload1 hK dX2_giveBack_42 ?_
  refine s_aload2 hK dX2_giveBack_43 ?_
  refine s_callV (ci := 5) hK mdX5_becomeLike (zX5_becomeLike 0 (100 * ((nx + 4) % 5 + 1)) rfl (kd_st (by omega)) (by rw [sP_ne (by omega), sP_ne (by omega)]; exact h8) (by rw [sP_ne (by omega), sP_ne (by omega)]; exact h9)) gX2_giveBack_X5_becomeLike rfl rfl rfl (by decide) rfl ⟨Nat.le_of_ble_eq_true rfl, Nat.le_of_ble_eq_true rfl⟩ rfl (Nat.le_of_ble_eq_true rfl) dX2_giveBack_44 ?_
  try dsimp only [Option.toList, List.cons_append, List.nil_append]
  exact s_vret hK hE dX2_giveBack_47 (rfl)
