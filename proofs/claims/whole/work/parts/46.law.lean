/-! the law: its calls -/
def LK (p : Program) (s : State) (m : MethodId) (c : Code) (b L : Nat) (xs : Nat → Int32) (g : aG) : Prop := p.tables.exec = Jvm.exec ∧ c.code = code ∧ c.maxLocals = 4 ∧ s.vm.findClass RL = some m.cls ∧ (∀ w ∈ wsL_law, w.before #[Value.ref b] s = true) ∧ va_X b L xs s s.heap ∧ b < s.heap.size ∧ gB g = s.heap.size ∧ GK g s s.heap
section LW
variable {p : Program} {l : Launch} {e : Env} {s : State} {m : MethodId} {below : List Frame} {meth : Method} {c : Code} {Q : State → Prop} {g : aG} {b L : Nat} {xs : Nat → Int32} {H : Heap} {locs : List Loc} {ls : Array Slot} {σ : aS} {pc : Nat}
theorem l_call {y : MethodName} {ws : List Cond} {bytes : ByteArray} {mL f2 l2 n idx ci o N : Nat} {C : String} {T : u_T} {as rest : List Value} {r : Int32} {σ2 : aS} (K : LK p s m c b L xs g) (hM : MD y ws bytes mL (some .int) n) (hc : CN g l y ws f2 l2 (.ref o :: as) σ (some (.int r)) σ2) (hG : GoodIn wsL_law (wsV RL idx C y ws)) (hk : kd o = ci) (hcl : vwCl[ci]? = some (C, T, N)) (hyC : y.cls = C) (hci : ci < 8) (hn : as.length = n) (hR : f2 + 1 ≤ 10 ∧ 8 + (mL + 11) + l2 ≤ 366) (hls : ls.size = 4) (hrest : (rest.map fun v => v.category).sum ≤ 8) (hd : decode code pc = .ok (.invokevirtual idx, 3)) (hRH : RH g σ H) (hS : va_S (gA g) s.heap H locs)
    (kk : ∀ (H1 : Heap) (locs1 : List Loc), RH g σ2 H1 → va_S (gA g) s.heap H1 locs1 → W p l e room_1 s m #[Value.ref b] below meth c H1 locs1 600000 7302250 Q (F0 m (pc + 3) ls (.int r :: rest))) : W p l e room_1 s m #[Value.ref b] below meth c H locs 600000 7302250 Q (F0 m pc ls ((as.map (cv g)).reverse ++ .ref (gL g o) :: rest)) := by
  obtain ⟨hx, hb, hml, hown, hts, hX, hbl, hgB, hGK⟩ := K
  obtain ⟨⟨ws', hw⟩, hm1, hm2, hm3⟩ := hM
  obtain ⟨q0, -, he⟩ := wL_obj (g := g) (σ := σ) hk hci
  have hr := va_runV (p := p) (l := l) (e := e) (R := room_1) (m := m) (below := below) (meth := meth) (c := c) (locs := locs) (cells := 600000) (slots := 7302250) (g := F0 m pc ls ((as.map (cv g)).reverse ++ .ref (gL g o) :: rest)) (As := as.map (cv g)) (rest := rest) ⟨hx, hb, hml, hown, hts⟩ hc (cwV n hts hG hw rfl rfl ⟨hyC, hm1, hm2, hm3⟩ hR) ⟨cn_pre, va_recv hGK.2.1 hRH hcl he, fun U hU hW => ⟨rfl, by rw [hU]; exact hRH, by rw [hU]; exact (hGK.kept hS).moved hW⟩⟩ rfl (by rw [List.length_map]; exact hn) hls rfl (lv_room hrest) hd ⟨Nat.le_of_ble_eq_true rfl, Nat.le_of_ble_eq_true rfl⟩
  intro T hT X
  obtain ⟨v, st₀, t, T', Lq, h0, X', hL, e1, e2, ⟨⟨hv, hp⟩, hz, hk⟩, stp⟩ := hr T hT X
  have hv' : v = some (.int r) := Outcome.returned.inj hv
  subst hv'
  rw [h0] at hz hk
  obtain ⟨t2, a1, b1⟩ := kk T'.heap (locs ++ Lq) (by rw [e1]; exact hp) ⟨Nat.le_trans hS.1 (by rw [e1]; exact hz), fun q h1 h2 => by rw [e1, hk q (Nat.lt_of_lt_of_le h1 hS.1) h2]; exact hS.2.1 q h1 h2, fun q hq => by
      rcases List.mem_append.mp hq with h | h
      · exact hS.2.2 q h
      · exact hL q h⟩ T' rfl X'
  exact ⟨t2, stp t2 a1, b1⟩
theorem l_arg {i k : Nat} {z : Int} {st : List Value} (K : LK p s m c b L xs g) (hl : lv_has ls 4 [(0, .ref b), (1, .ref (gL g 600)), (2, .ref (gL g 700)), (3, .int (nI i))]) (hik : i + k < L) (hL : L ≤ 3072) (hS : va_S (gA g) s.heap H locs) (hz : Int32.ofInt z = nI k) (d0 : decode code pc = .ok (.aload_n 0, 1)) (d1 : decode code (pc + 1) = .ok (.iload_n 3, 1)) (d2 : decode code (pc + 1 + 1) = .ok (.iconst z, 1)) (d3 : decode code (pc + 1 + 1 + 1) = .ok (.iadd, 1)) (d4 : decode code (pc + 1 + 1 + 1 + 1) = .ok (.iaload, 1))
    (kk : W p l e room_1 s m #[Value.ref b] below meth c H locs 600000 7302250 Q (F0 m (pc + 5) ls (.int (xs (i + k)) :: st))) : W p l e room_1 s m #[Value.ref b] below meth c H locs 600000 7302250 Q (F0 m pc ls st) := by
  obtain ⟨hx, hb, hml, hown, hts, hX, hbl, hgB, hGK⟩ := K
  have hbA : ¬ gA g b := fun z => by
    have : gB g ≤ b := z
    omega
  refine lv_aload_n hx hb d0 rfl (lv_at hl 0 rfl) ?_
  refine lv_iload_n hx hb d1 rfl (lv_at hl 3 rfl) ?_
  refine lv_iconst hx hb d2 hz ?_
  refine lv_iadd hx hb d3 ?_
  rw [nI_add]
  refine va_sld hx hb hX hbl hbA hS (vp_in_nI hik (by omega)) d4 ?_
  rw [cl_nI (by omega)]
  exact kk
set_option maxHeartbeats 4000000 in
theorem lc_paint (K : LK p s m c b L xs g) {i : Nat} (hl : lv_has ls 4 [(0, .ref b), (1, .ref (gL g 600)), (2, .ref (gL g 700)), (3, .int (nI i))]) (hi : i + 6 ≤ L) (hL : L ≤ 3072) (hR : Rel σ) (hRH : RH g σ H) (hS : va_S (gA g) s.heap H locs) (kk : ∀ (σ2 : aS) (H2 : Heap) (locs2 : List Loc), Rel σ2 → RH g σ2 H2 → va_S (gA g) s.heap H2 locs2 → W p l e room_1 s m #[Value.ref b] below meth c H2 locs2 600000 7302250 Q (F0 m 809 ls [])) : W p l e room_1 s m #[Value.ref b] below meth c H locs 600000 7302250 Q (F0 m 140 ls []) := by
  obtain ⟨hx, hb, hml, hown, hts, hX, hbl, hgB, hGK⟩ := id K
  obtain ⟨r, σ1, σ2, c1, c2, R2⟩ := duo_paint (g := g) (l := l) hR (xs (i + 1)) (xs (i + 2)) (xs (i + 3)) (xs (i + 4)) (xs (i + 5))
  refine lv_aload_n hx hb dL_law_140 rfl (lv_at hl 1 rfl) ?_
  refine l_arg K hl (k := 1) (by omega) hL hS (by decide) dL_law_141 dL_law_142 dL_law_143 dL_law_144 dL_law_145 ?_
  refine l_arg K hl (k := 2) (by omega) hL hS (by decide) dL_law_146 dL_law_147 dL_law_148 dL_law_149 dL_law_150 ?_
  refine l_arg K hl (k := 3) (by omega) hL hS (by decide) dL_law_151 dL_law_152 dL_law_153 dL_law_154 dL_law_155 ?_
  refine l_arg K hl (k := 4) (by omega) hL hS (by decide) dL_law_156 dL_law_157 dL_law_158 dL_law_159 dL_law_160 ?_
  refine l_arg K hl (k := 5) (by omega) hL hS (by decide) dL_law_161 dL_law_162 dL_law_163 dL_law_164 dL_law_165 ?_
  refine l_call (as := [.int (xs (i + 1)), .int (xs (i + 2)), .int (xs (i + 3)), .int (xs (i + 4)), .int (xs (i + 5))]) (rest := []) (o := 600) (ci := 6) K mdX6_paint c1 gL_law_X6_paint rfl rfl rfl (by decide) rfl ⟨Nat.le_of_ble_eq_true rfl, Nat.le_of_ble_eq_true rfl⟩ hl.1 (Nat.zero_le _) dL_law_166 hRH hS (fun H1 locs1 hRH1 hS1 => ?_)
  refine lv_aload_n hx hb dL_law_169 rfl (lv_at hl 2 rfl) ?_
  refine l_arg K hl (k := 1) (by omega) hL hS1 (by decide) dL_law_170 dL_law_171 dL_law_172 dL_law_173 dL_law_174 ?_
  refine l_arg K hl (k := 2) (by omega) hL hS1 (by decide) dL_law_175 dL_law_176 dL_law_177 dL_law_178 dL_law_179 ?_
  refine l_arg K hl (k := 3) (by omega) hL hS1 (by decide) dL_law_180 dL_law_181 dL_law_182 dL_law_183 dL_law_184 ?_
  refine l_arg K hl (k := 4) (by omega) hL hS1 (by decide) dL_law_185 dL_law_186 dL_law_187 dL_law_188 dL_law_189 ?_
  refine l_arg K hl (k := 5) (by omega) hL hS1 (by decide) dL_law_190 dL_law_191 dL_law_192 dL_law_193 dL_law_194 ?_
  refine l_call (as := [.int (xs (i + 1)), .int (xs (i + 2)), .int (xs (i + 3)), .int (xs (i + 4)), .int (xs (i + 5))]) (rest := [.int r]) (o := 700) (ci := 7) K mdX7_paint c2 gL_law_X7_paint rfl rfl rfl (by decide) rfl ⟨Nat.le_of_ble_eq_true rfl, Nat.le_of_ble_eq_true rfl⟩ hl.1 (Nat.le_of_ble_eq_true rfl) dL_law_195 hRH1 hS1 (fun H2 locs2 hRH2 hS2 => ?_)
  exact lv_icmp_eq (tgt := 809) hx hb dL_law_198 (by decide) (fun _ => kk σ2 H2 locs2 R2 hRH2 hS2) (fun z => absurd rfl z)
set_option maxHeartbeats 4000000 in
theorem lc_cut (K : LK p s m c b L xs g) {i : Nat} (hl : lv_has ls 4 [(0, .ref b), (1, .ref (gL g 600)), (2, .ref (gL g 700)), (3, .int (nI i))]) (hi : i + 6 ≤ L) (hL : L ≤ 3072) (hR : Rel σ) (hRH : RH g σ H) (hS : va_S (gA g) s.heap H locs) (kk : ∀ (σ2 : aS) (H2 : Heap) (locs2 : List Loc), Rel σ2 → RH g σ2 H2 → va_S (gA g) s.heap H2 locs2 → W p l e room_1 s m #[Value.ref b] below meth c H2 locs2 600000 7302250 Q (F0 m 809 ls [])) : W p l e room_1 s m #[Value.ref b] below meth c H locs 600000 7302250 Q (F0 m 203 ls []) := by
  obtain ⟨hx, hb, hml, hown, hts, hX, hbl, hgB, hGK⟩ := id K
  obtain ⟨r, σ1, σ2, c1, c2, R2⟩ := duo_cut (g := g) (l := l) hR (xs (i + 1))
  refine lv_aload_n hx hb dL_law_203 rfl (lv_at hl 1 rfl) ?_
  refine l_arg K hl (k := 1) (by omega) hL hS (by decide) dL_law_204 dL_law_205 dL_law_206 dL_law_207 dL_law_208 ?_
  refine l_call (as := [.int (xs (i + 1))]) (rest := []) (o := 600) (ci := 6) K mdX6_cut c1 gL_law_X6_cut rfl rfl rfl (by decide) rfl ⟨Nat.le_of_ble_eq_true rfl, Nat.le_of_ble_eq_true rfl⟩ hl.1 (Nat.zero_le _) dL_law_209 hRH hS (fun H1 locs1 hRH1 hS1 => ?_)
  refine lv_aload_n hx hb dL_law_212 rfl (lv_at hl 2 rfl) ?_
  refine l_arg K hl (k := 1) (by omega) hL hS1 (by decide) dL_law_213 dL_law_214 dL_law_215 dL_law_216 dL_law_217 ?_
  refine l_call (as := [.int (xs (i + 1))]) (rest := [.int r]) (o := 700) (ci := 7) K mdX7_cut c2 gL_law_X7_cut rfl rfl rfl (by decide) rfl ⟨Nat.le_of_ble_eq_true rfl, Nat.le_of_ble_eq_true rfl⟩ hl.1 (Nat.le_of_ble_eq_true rfl) dL_law_218 hRH1 hS1 (fun H2 locs2 hRH2 hS2 => ?_)
  exact lv_icmp_eq (tgt := 809) hx hb dL_law_221 (by decide) (fun _ => kk σ2 H2 locs2 R2 hRH2 hS2) (fun z => absurd rfl z)
set_option maxHeartbeats 4000000 in
theorem lc_carve (K : LK p s m c b L xs g) {i : Nat} (hl : lv_has ls 4 [(0, .ref b), (1, .ref (gL g 600)), (2, .ref (gL g 700)), (3, .int (nI i))]) (hi : i + 6 ≤ L) (hL : L ≤ 3072) (hR : Rel σ) (hRH : RH g σ H) (hS : va_S (gA g) s.heap H locs) (kk : ∀ (σ2 : aS) (H2 : Heap) (locs2 : List Loc), Rel σ2 → RH g σ2 H2 → va_S (gA g) s.heap H2 locs2 → W p l e room_1 s m #[Value.ref b] below meth c H2 locs2 600000 7302250 Q (F0 m 809 ls [])) : W p l e room_1 s m #[Value.ref b] below meth c H locs 600000 7302250 Q (F0 m 226 ls []) := by
  obtain ⟨hx, hb, hml, hown, hts, hX, hbl, hgB, hGK⟩ := id K
  obtain ⟨r, σ1, σ2, c1, c2, R2⟩ := duo_carve (g := g) (l := l) hR (xs (i + 1)) (xs (i + 2)) (xs (i + 3)) (xs (i + 4))
  refine lv_aload_n hx hb dL_law_226 rfl (lv_at hl 1 rfl) ?_
  refine l_arg K hl (k := 1) (by omega) hL hS (by decide) dL_law_227 dL_law_228 dL_law_229 dL_law_230 dL_law_231 ?_
  refine l_arg K hl (k := 2) (by omega) hL hS (by decide) dL_law_232 dL_law_233 dL_law_234 dL_law_235 dL_law_236 ?_
  refine l_arg K hl (k := 3) (by omega) hL hS (by decide) dL_law_237 dL_law_238 dL_law_239 dL_law_240 dL_law_241 ?_
  refine l_arg K hl (k := 4) (by omega) hL hS (by decide) dL_law_242 dL_law_243 dL_law_244 dL_law_245 dL_law_246 ?_
  refine l_call (as := [.int (xs (i + 1)), .int (xs (i + 2)), .int (xs (i + 3)), .int (xs (i + 4))]) (rest := []) (o := 600) (ci := 6) K mdX6_carve c1 gL_law_X6_carve rfl rfl rfl (by decide) rfl ⟨Nat.le_of_ble_eq_true rfl, Nat.le_of_ble_eq_true rfl⟩ hl.1 (Nat.zero_le _) dL_law_247 hRH hS (fun H1 locs1 hRH1 hS1 => ?_)
  refine lv_aload_n hx hb dL_law_250 rfl (lv_at hl 2 rfl) ?_
  refine l_arg K hl (k := 1) (by omega) hL hS1 (by decide) dL_law_251 dL_law_252 dL_law_253 dL_law_254 dL_law_255 ?_
  refine l_arg K hl (k := 2) (by omega) hL hS1 (by decide) dL_law_256 dL_law_257 dL_law_258 dL_law_259 dL_law_260 ?_
  refine l_arg K hl (k := 3) (by omega) hL hS1 (by decide) dL_law_261 dL_law_262 dL_law_263 dL_law_264 dL_law_265 ?_
  refine l_arg K hl (k := 4) (by omega) hL hS1 (by decide) dL_law_266 dL_law_267 dL_law_268 dL_law_269 dL_law_270 ?_
  refine l_call (as := [.int (xs (i + 1)), .int (xs (i + 2)), .int (xs (i + 3)), .int (xs (i + 4))]) (rest := [.int r]) (o := 700) (ci := 7) K mdX7_carve c2 gL_law_X7_carve rfl rfl rfl (by decide) rfl ⟨Nat.le_of_ble_eq_true rfl, Nat.le_of_ble_eq_true rfl⟩ hl.1 (Nat.le_of_ble_eq_true rfl) dL_law_271 hRH1 hS1 (fun H2 locs2 hRH2 hS2 => ?_)
  exact lv_icmp_eq (tgt := 809) hx hb dL_law_274 (by decide) (fun _ => kk σ2 H2 locs2 R2 hRH2 hS2) (fun z => absurd rfl z)
set_option maxHeartbeats 4000000 in
theorem lc_plug (K : LK p s m c b L xs g) {i : Nat} (hl : lv_has ls 4 [(0, .ref b), (1, .ref (gL g 600)), (2, .ref (gL g 700)), (3, .int (nI i))]) (hi : i + 6 ≤ L) (hL : L ≤ 3072) (hR : Rel σ) (hRH : RH g σ H) (hS : va_S (gA g) s.heap H locs) (kk : ∀ (σ2 : aS) (H2 : Heap) (locs2 : List Loc), Rel σ2 → RH g σ2 H2 → va_S (gA g) s.heap H2 locs2 → W p l e room_1 s m #[Value.ref b] below meth c H2 locs2 600000 7302250 Q (F0 m 809 ls [])) : W p l e room_1 s m #[Value.ref b] below meth c H locs 600000 7302250 Q (F0 m 279 ls []) := by
  obtain ⟨hx, hb, hml, hown, hts, hX, hbl, hgB, hGK⟩ := id K
  obtain ⟨r, σ1, σ2, c1, c2, R2⟩ := duo_plug (g := g) (l := l) hR (xs (i + 1)) (xs (i + 2))
  refine lv_aload_n hx hb dL_law_279 rfl (lv_at hl 1 rfl) ?_
  refine l_arg K hl (k := 1) (by omega) hL hS (by decide) dL_law_280 dL_law_281 dL_law_282 dL_law_283 dL_law_284 ?_
  refine l_arg K hl (k := 2) (by omega) hL hS (by decide) dL_law_285 dL_law_286 dL_law_287 dL_law_288 dL_law_289 ?_
  refine l_call (as := [.int (xs (i + 1)), .int (xs (i + 2))]) (rest := []) (o := 600) (ci := 6) K mdX6_plug c1 gL_law_X6_plug rfl rfl rfl (by decide) rfl ⟨Nat.le_of_ble_eq_true rfl, Nat.le_of_ble_eq_true rfl⟩ hl.1 (Nat.zero_le _) dL_law_290 hRH hS (fun H1 locs1 hRH1 hS1 => ?_)
  refine lv_aload_n hx hb dL_law_293 rfl (lv_at hl 2 rfl) ?_
  refine l_arg K hl (k := 1) (by omega) hL hS1 (by decide) dL_law_294 dL_law_295 dL_law_296 dL_law_297 dL_law_298 ?_
  refine l_arg K hl (k := 2) (by omega) hL hS1 (by decide) dL_law_299 dL_law_300 dL_law_301 dL_law_302 dL_law_303 ?_
  refine l_call (as := [.int (xs (i + 1)), .int (xs (i + 2))]) (rest := [.int r]) (o := 700) (ci := 7) K mdX7_plug c2 gL_law_X7_plug rfl rfl rfl (by decide) rfl ⟨Nat.le_of_ble_eq_true rfl, Nat.le_of_ble_eq_true rfl⟩ hl.1 (Nat.le_of_ble_eq_true rfl) dL_law_304 hRH1 hS1 (fun H2 locs2 hRH2 hS2 => ?_)
  exact lv_icmp_eq (tgt := 809) hx hb dL_law_307 (by decide) (fun _ => kk σ2 H2 locs2 R2 hRH2 hS2) (fun z => absurd rfl z)
set_option maxHeartbeats 4000000 in
theorem lc_setPins (K : LK p s m c b L xs g) {i : Nat} (hl : lv_has ls 4 [(0, .ref b), (1, .ref (gL g 600)), (2, .ref (gL g 700)), (3, .int (nI i))]) (hi : i + 6 ≤ L) (hL : L ≤ 3072) (hR : Rel σ) (hRH : RH g σ H) (hS : va_S (gA g) s.heap H locs) (kk : ∀ (σ2 : aS) (H2 : Heap) (locs2 : List Loc), Rel σ2 → RH g σ2 H2 → va_S (gA g) s.heap H2 locs2 → W p l e room_1 s m #[Value.ref b] below meth c H2 locs2 600000 7302250 Q (F0 m 809 ls [])) : W p l e room_1 s m #[Value.ref b] below meth c H locs 600000 7302250 Q (F0 m 312 ls []) := by
  obtain ⟨hx, hb, hml, hown, hts, hX, hbl, hgB, hGK⟩ := id K
  obtain ⟨r, σ1, σ2, c1, c2, R2⟩ := duo_setPins (g := g) (l := l) hR (xs (i + 1)) (xs (i + 2))
  refine lv_aload_n hx hb dL_law_312 rfl (lv_at hl 1 rfl) ?_
  refine l_arg K hl (k := 1) (by omega) hL hS (by decide) dL_law_313 dL_law_314 dL_law_315 dL_law_316 dL_law_317 ?_
  refine l_arg K hl (k := 2) (by omega) hL hS (by decide) dL_law_318 dL_law_319 dL_law_320 dL_law_321 dL_law_322 ?_
  refine l_call (as := [.int (xs (i + 1)), .int (xs (i + 2))]) (rest := []) (o := 600) (ci := 6) K mdX6_setPins c1 gL_law_X6_setPins rfl rfl rfl (by decide) rfl ⟨Nat.le_of_ble_eq_true rfl, Nat.le_of_ble_eq_true rfl⟩ hl.1 (Nat.zero_le _) dL_law_323 hRH hS (fun H1 locs1 hRH1 hS1 => ?_)
  refine lv_aload_n hx hb dL_law_326 rfl (lv_at hl 2 rfl) ?_
  refine l_arg K hl (k := 1) (by omega) hL hS1 (by decide) dL_law_327 dL_law_328 dL_law_329 dL_law_330 dL_law_331 ?_
  refine l_arg K hl (k := 2) (by omega) hL hS1 (by decide) dL_law_332 dL_law_333 dL_law_334 dL_law_335 dL_law_336 ?_
  refine l_call (as := [.int (xs (i + 1)), .int (xs (i + 2))]) (rest := [.int r]) (o := 700) (ci := 7) K mdX7_setPins c2 gL_law_X7_setPins rfl rfl rfl (by decide) rfl ⟨Nat.le_of_ble_eq_true rfl, Nat.le_of_ble_eq_true rfl⟩ hl.1 (Nat.le_of_ble_eq_true rfl) dL_law_337 hRH1 hS1 (fun H2 locs2 hRH2 hS2 => ?_)
  exact lv_icmp_eq (tgt := 809) hx hb dL_law_340 (by decide) (fun _ => kk σ2 H2 locs2 R2 hRH2 hS2) (fun z => absurd rfl z)
set_option maxHeartbeats 4000000 in
theorem lc_set (K : LK p s m c b L xs g) {i : Nat} (hl : lv_has ls 4 [(0, .ref b), (1, .ref (gL g 600)), (2, .ref (gL g 700)), (3, .int (nI i))]) (hi : i + 6 ≤ L) (hL : L ≤ 3072) (hR : Rel σ) (hRH : RH g σ H) (hS : va_S (gA g) s.heap H locs) (kk : ∀ (σ2 : aS) (H2 : Heap) (locs2 : List Loc), Rel σ2 → RH g σ2 H2 → va_S (gA g) s.heap H2 locs2 → W p l e room_1 s m #[Value.ref b] below meth c H2 locs2 600000 7302250 Q (F0 m 809 ls [])) : W p l e room_1 s m #[Value.ref b] below meth c H locs 600000 7302250 Q (F0 m 345 ls []) := by
  obtain ⟨hx, hb, hml, hown, hts, hX, hbl, hgB, hGK⟩ := id K
  obtain ⟨r, σ1, σ2, c1, c2, R2⟩ := duo_set (g := g) (l := l) hR (xs (i + 1)) (xs (i + 2))
  refine lv_aload_n hx hb dL_law_345 rfl (lv_at hl 1 rfl) ?_
  refine l_arg K hl (k := 1) (by omega) hL hS (by decide) dL_law_346 dL_law_347 dL_law_348 dL_law_349 dL_law_350 ?_
  refine l_arg K hl (k := 2) (by omega) hL hS (by decide) dL_law_351 dL_law_352 dL_law_353 dL_law_354 dL_law_355 ?_
  refine l_call (as := [.int (xs (i + 1)), .int (xs (i + 2))]) (rest := []) (o := 600) (ci := 6) K mdX6_set c1 gL_law_X6_set rfl rfl rfl (by decide) rfl ⟨Nat.le_of_ble_eq_true rfl, Nat.le_of_ble_eq_true rfl⟩ hl.1 (Nat.zero_le _) dL_law_356 hRH hS (fun H1 locs1 hRH1 hS1 => ?_)
  refine lv_aload_n hx hb dL_law_359 rfl (lv_at hl 2 rfl) ?_
  refine l_arg K hl (k := 1) (by omega) hL hS1 (by decide) dL_law_360 dL_law_361 dL_law_362 dL_law_363 dL_law_364 ?_
  refine l_arg K hl (k := 2) (by omega) hL hS1 (by decide) dL_law_365 dL_law_366 dL_law_367 dL_law_368 dL_law_369 ?_
  refine l_call (as := [.int (xs (i + 1)), .int (xs (i + 2))]) (rest := [.int r]) (o := 700) (ci := 7) K mdX7_set c2 gL_law_X7_set rfl rfl rfl (by decide) rfl ⟨Nat.le_of_ble_eq_true rfl, Nat.le_of_ble_eq_true rfl⟩ hl.1 (Nat.le_of_ble_eq_true rfl) dL_law_370 hRH1 hS1 (fun H2 locs2 hRH2 hS2 => ?_)
  exact lv_icmp_eq (tgt := 809) hx hb dL_law_373 (by decide) (fun _ => kk σ2 H2 locs2 R2 hRH2 hS2) (fun z => absurd rfl z)
set_option maxHeartbeats 4000000 in
theorem lc_print (K : LK p s m c b L xs g) {i : Nat} (hl : lv_has ls 4 [(0, .ref b), (1, .ref (gL g 600)), (2, .ref (gL g 700)), (3, .int (nI i))]) (hi : i + 6 ≤ L) (hL : L ≤ 3072) (hR : Rel σ) (hRH : RH g σ H) (hS : va_S (gA g) s.heap H locs) (kk : ∀ (σ2 : aS) (H2 : Heap) (locs2 : List Loc), Rel σ2 → RH g σ2 H2 → va_S (gA g) s.heap H2 locs2 → W p l e room_1 s m #[Value.ref b] below meth c H2 locs2 600000 7302250 Q (F0 m 809 ls [])) : W p l e room_1 s m #[Value.ref b] below meth c H locs 600000 7302250 Q (F0 m 378 ls []) := by
  obtain ⟨hx, hb, hml, hown, hts, hX, hbl, hgB, hGK⟩ := id K
  obtain ⟨r, σ1, σ2, c1, c2, R2⟩ := duo_print (g := g) (l := l) hR (xs (i + 1))
  refine lv_aload_n hx hb dL_law_378 rfl (lv_at hl 1 rfl) ?_
  refine l_arg K hl (k := 1) (by omega) hL hS (by decide) dL_law_379 dL_law_380 dL_law_381 dL_law_382 dL_law_383 ?_
  refine l_call (as := [.int (xs (i + 1))]) (rest := []) (o := 600) (ci := 6) K mdX6_print c1 gL_law_X6_print rfl rfl rfl (by decide) rfl ⟨Nat.le_of_ble_eq_true rfl, Nat.le_of_ble_eq_true rfl⟩ hl.1 (Nat.zero_le _) dL_law_384 hRH hS (fun H1 locs1 hRH1 hS1 => ?_)
  refine lv_aload_n hx hb dL_law_387 rfl (lv_at hl 2 rfl) ?_
  refine l_arg K hl (k := 1) (by omega) hL hS1 (by decide) dL_law_388 dL_law_389 dL_law_390 dL_law_391 dL_law_392 ?_
  refine l_call (as := [.int (xs (i + 1))]) (rest := [.int r]) (o := 700) (ci := 7) K mdX7_print c2 gL_law_X7_print rfl rfl rfl (by decide) rfl ⟨Nat.le_of_ble_eq_true rfl, Nat.le_of_ble_eq_true rfl⟩ hl.1 (Nat.le_of_ble_eq_true rfl) dL_law_393 hRH1 hS1 (fun H2 locs2 hRH2 hS2 => ?_)
  exact lv_icmp_eq (tgt := 809) hx hb dL_law_396 (by decide) (fun _ => kk σ2 H2 locs2 R2 hRH2 hS2) (fun z => absurd rfl z)
set_option maxHeartbeats 4000000 in
theorem lc_take (K : LK p s m c b L xs g) {i : Nat} (hl : lv_has ls 4 [(0, .ref b), (1, .ref (gL g 600)), (2, .ref (gL g 700)), (3, .int (nI i))]) (hi : i + 6 ≤ L) (hL : L ≤ 3072) (hR : Rel σ) (hRH : RH g σ H) (hS : va_S (gA g) s.heap H locs) (kk : ∀ (σ2 : aS) (H2 : Heap) (locs2 : List Loc), Rel σ2 → RH g σ2 H2 → va_S (gA g) s.heap H2 locs2 → W p l e room_1 s m #[Value.ref b] below meth c H2 locs2 600000 7302250 Q (F0 m 809 ls [])) : W p l e room_1 s m #[Value.ref b] below meth c H locs 600000 7302250 Q (F0 m 401 ls []) := by
  obtain ⟨hx, hb, hml, hown, hts, hX, hbl, hgB, hGK⟩ := id K
  obtain ⟨r, σ1, σ2, c1, c2, R2⟩ := duo_take (g := g) (l := l) hR (xs (i + 1))
  refine lv_aload_n hx hb dL_law_401 rfl (lv_at hl 1 rfl) ?_
  refine l_arg K hl (k := 1) (by omega) hL hS (by decide) dL_law_402 dL_law_403 dL_law_404 dL_law_405 dL_law_406 ?_
  refine l_call (as := [.int (xs (i + 1))]) (rest := []) (o := 600) (ci := 6) K mdX6_take c1 gL_law_X6_take rfl rfl rfl (by decide) rfl ⟨Nat.le_of_ble_eq_true rfl, Nat.le_of_ble_eq_true rfl⟩ hl.1 (Nat.zero_le _) dL_law_407 hRH hS (fun H1 locs1 hRH1 hS1 => ?_)
  refine lv_aload_n hx hb dL_law_410 rfl (lv_at hl 2 rfl) ?_
  refine l_arg K hl (k := 1) (by omega) hL hS1 (by decide) dL_law_411 dL_law_412 dL_law_413 dL_law_414 dL_law_415 ?_
  refine l_call (as := [.int (xs (i + 1))]) (rest := [.int r]) (o := 700) (ci := 7) K mdX7_take c2 gL_law_X7_take rfl rfl rfl (by decide) rfl ⟨Nat.le_of_ble_eq_true rfl, Nat.le_of_ble_eq_true rfl⟩ hl.1 (Nat.le_of_ble_eq_true rfl) dL_law_416 hRH1 hS1 (fun H2 locs2 hRH2 hS2 => ?_)
  exact lv_icmp_eq (tgt := 809) hx hb dL_law_419 (by decide) (fun _ => kk σ2 H2 locs2 R2 hRH2 hS2) (fun z => absurd rfl z)
set_option maxHeartbeats 4000000 in
theorem lc_restore (K : LK p s m c b L xs g) {i : Nat} (hl : lv_has ls 4 [(0, .ref b), (1, .ref (gL g 600)), (2, .ref (gL g 700)), (3, .int (nI i))]) (hi : i + 6 ≤ L) (hL : L ≤ 3072) (hR : Rel σ) (hRH : RH g σ H) (hS : va_S (gA g) s.heap H locs) (kk : ∀ (σ2 : aS) (H2 : Heap) (locs2 : List Loc), Rel σ2 → RH g σ2 H2 → va_S (gA g) s.heap H2 locs2 → W p l e room_1 s m #[Value.ref b] below meth c H2 locs2 600000 7302250 Q (F0 m 809 ls [])) : W p l e room_1 s m #[Value.ref b] below meth c H locs 600000 7302250 Q (F0 m 424 ls []) := by
  obtain ⟨hx, hb, hml, hown, hts, hX, hbl, hgB, hGK⟩ := id K
  obtain ⟨r, σ1, σ2, c1, c2, R2⟩ := duo_restore (g := g) (l := l) hR (xs (i + 1))
  refine lv_aload_n hx hb dL_law_424 rfl (lv_at hl 1 rfl) ?_
  refine l_arg K hl (k := 1) (by omega) hL hS (by decide) dL_law_425 dL_law_426 dL_law_427 dL_law_428 dL_law_429 ?_
  refine l_call (as := [.int (xs (i + 1))]) (rest := []) (o := 600) (ci := 6) K mdX6_restore c1 gL_law_X6_restore rfl rfl rfl (by decide) rfl ⟨Nat.le_of_ble_eq_true rfl, Nat.le_of_ble_eq_true rfl⟩ hl.1 (Nat.zero_le _) dL_law_430 hRH hS (fun H1 locs1 hRH1 hS1 => ?_)
  refine lv_aload_n hx hb dL_law_433 rfl (lv_at hl 2 rfl) ?_
  refine l_arg K hl (k := 1) (by omega) hL hS1 (by decide) dL_law_434 dL_law_435 dL_law_436 dL_law_437 dL_law_438 ?_
  refine l_call (as := [.int (xs (i + 1))]) (rest := [.int r]) (o := 700) (ci := 7) K mdX7_restore c2 gL_law_X7_restore rfl rfl rfl (by decide) rfl ⟨Nat.le_of_ble_eq_true rfl, Nat.le_of_ble_eq_true rfl⟩ hl.1 (Nat.le_of_ble_eq_true rfl) dL_law_439 hRH1 hS1 (fun H2 locs2 hRH2 hS2 => ?_)
  exact lv_icmp_eq (tgt := 809) hx hb dL_law_442 (by decide) (fun _ => kk σ2 H2 locs2 R2 hRH2 hS2) (fun z => absurd rfl z)
set_option maxHeartbeats 4000000 in
theorem lc_undo (K : LK p s m c b L xs g) {i : Nat} (hl : lv_has ls 4 [(0, .ref b), (1, .ref (gL g 600)), (2, .ref (gL g 700)), (3, .int (nI i))]) (hi : i + 6 ≤ L) (hL : L ≤ 3072) (hR : Rel σ) (hRH : RH g σ H) (hS : va_S (gA g) s.heap H locs) (kk : ∀ (σ2 : aS) (H2 : Heap) (locs2 : List Loc), Rel σ2 → RH g σ2 H2 → va_S (gA g) s.heap H2 locs2 → W p l e room_1 s m #[Value.ref b] below meth c H2 locs2 600000 7302250 Q (F0 m 809 ls [])) : W p l e room_1 s m #[Value.ref b] below meth c H locs 600000 7302250 Q (F0 m 447 ls []) := by
  obtain ⟨hx, hb, hml, hown, hts, hX, hbl, hgB, hGK⟩ := id K
  obtain ⟨r, σ1, σ2, c1, c2, R2⟩ := duo_undo (g := g) (l := l) hR 
  refine lv_aload_n hx hb dL_law_447 rfl (lv_at hl 1 rfl) ?_
  refine l_call (as := []) (rest := []) (o := 600) (ci := 6) K mdX6_undo c1 gL_law_X6_undo rfl rfl rfl (by decide) rfl ⟨Nat.le_of_ble_eq_true rfl, Nat.le_of_ble_eq_true rfl⟩ hl.1 (Nat.zero_le _) dL_law_448 hRH hS (fun H1 locs1 hRH1 hS1 => ?_)
  refine lv_aload_n hx hb dL_law_451 rfl (lv_at hl 2 rfl) ?_
  refine l_call (as := []) (rest := [.int r]) (o := 700) (ci := 7) K mdX7_undo c2 gL_law_X7_undo rfl rfl rfl (by decide) rfl ⟨Nat.le_of_ble_eq_true rfl, Nat.le_of_ble_eq_true rfl⟩ hl.1 (Nat.le_of_ble_eq_true rfl) dL_law_452 hRH1 hS1 (fun H2 locs2 hRH2 hS2 => ?_)
  exact lv_icmp_eq (tgt := 809) hx hb dL_law_455 (by decide) (fun _ => kk σ2 H2 locs2 R2 hRH2 hS2) (fun z => absurd rfl z)
set_option maxHeartbeats 4000000 in
theorem lc_append (K : LK p s m c b L xs g) {i : Nat} (hl : lv_has ls 4 [(0, .ref b), (1, .ref (gL g 600)), (2, .ref (gL g 700)), (3, .int (nI i))]) (hi : i + 6 ≤ L) (hL : L ≤ 3072) (hR : Rel σ) (hRH : RH g σ H) (hS : va_S (gA g) s.heap H locs) (kk : ∀ (σ2 : aS) (H2 : Heap) (locs2 : List Loc), Rel σ2 → RH g σ2 H2 → va_S (gA g) s.heap H2 locs2 → W p l e room_1 s m #[Value.ref b] below meth c H2 locs2 600000 7302250 Q (F0 m 809 ls [])) : W p l e room_1 s m #[Value.ref b] below meth c H locs 600000 7302250 Q (F0 m 460 ls []) := by
  obtain ⟨hx, hb, hml, hown, hts, hX, hbl, hgB, hGK⟩ := id K
  obtain ⟨r, σ1, σ2, c1, c2, R2⟩ := duo_append (g := g) (l := l) hR (xs (i + 1))
  refine lv_aload_n hx hb dL_law_460 rfl (lv_at hl 1 rfl) ?_
  refine l_arg K hl (k := 1) (by omega) hL hS (by decide) dL_law_461 dL_law_462 dL_law_463 dL_law_464 dL_law_465 ?_
  refine l_call (as := [.int (xs (i + 1))]) (rest := []) (o := 600) (ci := 6) K mdX6_append c1 gL_law_X6_append rfl rfl rfl (by decide) rfl ⟨Nat.le_of_ble_eq_true rfl, Nat.le_of_ble_eq_true rfl⟩ hl.1 (Nat.zero_le _) dL_law_466 hRH hS (fun H1 locs1 hRH1 hS1 => ?_)
  refine lv_aload_n hx hb dL_law_469 rfl (lv_at hl 2 rfl) ?_
  refine l_arg K hl (k := 1) (by omega) hL hS1 (by decide) dL_law_470 dL_law_471 dL_law_472 dL_law_473 dL_law_474 ?_
  refine l_call (as := [.int (xs (i + 1))]) (rest := [.int r]) (o := 700) (ci := 7) K mdX7_append c2 gL_law_X7_append rfl rfl rfl (by decide) rfl ⟨Nat.le_of_ble_eq_true rfl, Nat.le_of_ble_eq_true rfl⟩ hl.1 (Nat.le_of_ble_eq_true rfl) dL_law_475 hRH1 hS1 (fun H2 locs2 hRH2 hS2 => ?_)
  exact lv_icmp_eq (tgt := 809) hx hb dL_law_478 (by decide) (fun _ => kk σ2 H2 locs2 R2 hRH2 hS2) (fun z => absurd rfl z)
set_option maxHeartbeats 4000000 in
theorem lc_clearText (K : LK p s m c b L xs g) {i : Nat} (hl : lv_has ls 4 [(0, .ref b), (1, .ref (gL g 600)), (2, .ref (gL g 700)), (3, .int (nI i))]) (hi : i + 6 ≤ L) (hL : L ≤ 3072) (hR : Rel σ) (hRH : RH g σ H) (hS : va_S (gA g) s.heap H locs) (kk : ∀ (σ2 : aS) (H2 : Heap) (locs2 : List Loc), Rel σ2 → RH g σ2 H2 → va_S (gA g) s.heap H2 locs2 → W p l e room_1 s m #[Value.ref b] below meth c H2 locs2 600000 7302250 Q (F0 m 809 ls [])) : W p l e room_1 s m #[Value.ref b] below meth c H locs 600000 7302250 Q (F0 m 483 ls []) := by
  obtain ⟨hx, hb, hml, hown, hts, hX, hbl, hgB, hGK⟩ := id K
  obtain ⟨r, σ1, σ2, c1, c2, R2⟩ := duo_clearText (g := g) (l := l) hR 
  refine lv_aload_n hx hb dL_law_483 rfl (lv_at hl 1 rfl) ?_
  refine l_call (as := []) (rest := []) (o := 600) (ci := 6) K mdX6_clearText c1 gL_law_X6_clearText rfl rfl rfl (by decide) rfl ⟨Nat.le_of_ble_eq_true rfl, Nat.le_of_ble_eq_true rfl⟩ hl.1 (Nat.zero_le _) dL_law_484 hRH hS (fun H1 locs1 hRH1 hS1 => ?_)
  refine lv_aload_n hx hb dL_law_487 rfl (lv_at hl 2 rfl) ?_
  refine l_call (as := []) (rest := [.int r]) (o := 700) (ci := 7) K mdX7_clearText c2 gL_law_X7_clearText rfl rfl rfl (by decide) rfl ⟨Nat.le_of_ble_eq_true rfl, Nat.le_of_ble_eq_true rfl⟩ hl.1 (Nat.le_of_ble_eq_true rfl) dL_law_488 hRH1 hS1 (fun H2 locs2 hRH2 hS2 => ?_)
  exact lv_icmp_eq (tgt := 809) hx hb dL_law_491 (by decide) (fun _ => kk σ2 H2 locs2 R2 hRH2 hS2) (fun z => absurd rfl z)
set_option maxHeartbeats 4000000 in
theorem lc_load (K : LK p s m c b L xs g) {i : Nat} (hl : lv_has ls 4 [(0, .ref b), (1, .ref (gL g 600)), (2, .ref (gL g 700)), (3, .int (nI i))]) (hi : i + 6 ≤ L) (hL : L ≤ 3072) (hR : Rel σ) (hRH : RH g σ H) (hS : va_S (gA g) s.heap H locs) (kk : ∀ (σ2 : aS) (H2 : Heap) (locs2 : List Loc), Rel σ2 → RH g σ2 H2 → va_S (gA g) s.heap H2 locs2 → W p l e room_1 s m #[Value.ref b] below meth c H2 locs2 600000 7302250 Q (F0 m 809 ls [])) : W p l e room_1 s m #[Value.ref b] below meth c H locs 600000 7302250 Q (F0 m 496 ls []) := by
  obtain ⟨hx, hb, hml, hown, hts, hX, hbl, hgB, hGK⟩ := id K
  obtain ⟨r, σ1, σ2, c1, c2, R2⟩ := duo_load (g := g) (l := l) hR 
  refine lv_aload_n hx hb dL_law_496 rfl (lv_at hl 1 rfl) ?_
  refine l_call (as := []) (rest := []) (o := 600) (ci := 6) K mdX6_load c1 gL_law_X6_load rfl rfl rfl (by decide) rfl ⟨Nat.le_of_ble_eq_true rfl, Nat.le_of_ble_eq_true rfl⟩ hl.1 (Nat.zero_le _) dL_law_497 hRH hS (fun H1 locs1 hRH1 hS1 => ?_)
  refine lv_aload_n hx hb dL_law_500 rfl (lv_at hl 2 rfl) ?_
  refine l_call (as := []) (rest := [.int r]) (o := 700) (ci := 7) K mdX7_load c2 gL_law_X7_load rfl rfl rfl (by decide) rfl ⟨Nat.le_of_ble_eq_true rfl, Nat.le_of_ble_eq_true rfl⟩ hl.1 (Nat.le_of_ble_eq_true rfl) dL_law_501 hRH1 hS1 (fun H2 locs2 hRH2 hS2 => ?_)
  exact lv_icmp_eq (tgt := 809) hx hb dL_law_504 (by decide) (fun _ => kk σ2 H2 locs2 R2 hRH2 hS2) (fun z => absurd rfl z)
set_option maxHeartbeats 4000000 in
theorem lc_count (K : LK p s m c b L xs g) {i : Nat} (hl : lv_has ls 4 [(0, .ref b), (1, .ref (gL g 600)), (2, .ref (gL g 700)), (3, .int (nI i))]) (hi : i + 6 ≤ L) (hL : L ≤ 3072) (hR : Rel σ) (hRH : RH g σ H) (hS : va_S (gA g) s.heap H locs) (kk : ∀ (σ2 : aS) (H2 : Heap) (locs2 : List Loc), Rel σ2 → RH g σ2 H2 → va_S (gA g) s.heap H2 locs2 → W p l e room_1 s m #[Value.ref b] below meth c H2 locs2 600000 7302250 Q (F0 m 809 ls [])) : W p l e room_1 s m #[Value.ref b] below meth c H locs 600000 7302250 Q (F0 m 509 ls []) := by
  obtain ⟨hx, hb, hml, hown, hts, hX, hbl, hgB, hGK⟩ := id K
  obtain ⟨r, σ1, σ2, c1, c2, R2⟩ := duo_count (g := g) (l := l) hR (xs (i + 1))
  refine lv_aload_n hx hb dL_law_509 rfl (lv_at hl 1 rfl) ?_
  refine l_arg K hl (k := 1) (by omega) hL hS (by decide) dL_law_510 dL_law_511 dL_law_512 dL_law_513 dL_law_514 ?_
  refine l_call (as := [.int (xs (i + 1))]) (rest := []) (o := 600) (ci := 6) K mdX6_count c1 gL_law_X6_count rfl rfl rfl (by decide) rfl ⟨Nat.le_of_ble_eq_true rfl, Nat.le_of_ble_eq_true rfl⟩ hl.1 (Nat.zero_le _) dL_law_515 hRH hS (fun H1 locs1 hRH1 hS1 => ?_)
  refine lv_aload_n hx hb dL_law_518 rfl (lv_at hl 2 rfl) ?_
  refine l_arg K hl (k := 1) (by omega) hL hS1 (by decide) dL_law_519 dL_law_520 dL_law_521 dL_law_522 dL_law_523 ?_
  refine l_call (as := [.int (xs (i + 1))]) (rest := [.int r]) (o := 700) (ci := 7) K mdX7_count c2 gL_law_X7_count rfl rfl rfl (by decide) rfl ⟨Nat.le_of_ble_eq_true rfl, Nat.le_of_ble_eq_true rfl⟩ hl.1 (Nat.le_of_ble_eq_true rfl) dL_law_524 hRH1 hS1 (fun H2 locs2 hRH2 hS2 => ?_)
  exact lv_icmp_eq (tgt := 809) hx hb dL_law_527 (by decide) (fun _ => kk σ2 H2 locs2 R2 hRH2 hS2) (fun z => absurd rfl z)
set_option maxHeartbeats 4000000 in
theorem lc_cell (K : LK p s m c b L xs g) {i : Nat} (hl : lv_has ls 4 [(0, .ref b), (1, .ref (gL g 600)), (2, .ref (gL g 700)), (3, .int (nI i))]) (hi : i + 6 ≤ L) (hL : L ≤ 3072) (hR : Rel σ) (hRH : RH g σ H) (hS : va_S (gA g) s.heap H locs) (kk : ∀ (σ2 : aS) (H2 : Heap) (locs2 : List Loc), Rel σ2 → RH g σ2 H2 → va_S (gA g) s.heap H2 locs2 → W p l e room_1 s m #[Value.ref b] below meth c H2 locs2 600000 7302250 Q (F0 m 809 ls [])) : W p l e room_1 s m #[Value.ref b] below meth c H locs 600000 7302250 Q (F0 m 532 ls []) := by
  obtain ⟨hx, hb, hml, hown, hts, hX, hbl, hgB, hGK⟩ := id K
  obtain ⟨r, σ1, σ2, c1, c2, R2⟩ := duo_cell (g := g) (l := l) hR (xs (i + 1)) (xs (i + 2)) (xs (i + 3))
  refine lv_aload_n hx hb dL_law_532 rfl (lv_at hl 1 rfl) ?_
  refine l_arg K hl (k := 1) (by omega) hL hS (by decide) dL_law_533 dL_law_534 dL_law_535 dL_law_536 dL_law_537 ?_
  refine l_arg K hl (k := 2) (by omega) hL hS (by decide) dL_law_538 dL_law_539 dL_law_540 dL_law_541 dL_law_542 ?_
  refine l_arg K hl (k := 3) (by omega) hL hS (by decide) dL_law_543 dL_law_544 dL_law_545 dL_law_546 dL_law_547 ?_
  refine l_call (as := [.int (xs (i + 1)), .int (xs (i + 2)), .int (xs (i + 3))]) (rest := []) (o := 600) (ci := 6) K mdX6_cell c1 gL_law_X6_cell rfl rfl rfl (by decide) rfl ⟨Nat.le_of_ble_eq_true rfl, Nat.le_of_ble_eq_true rfl⟩ hl.1 (Nat.zero_le _) dL_law_548 hRH hS (fun H1 locs1 hRH1 hS1 => ?_)
  refine lv_aload_n hx hb dL_law_551 rfl (lv_at hl 2 rfl) ?_
  refine l_arg K hl (k := 1) (by omega) hL hS1 (by decide) dL_law_552 dL_law_553 dL_law_554 dL_law_555 dL_law_556 ?_
  refine l_arg K hl (k := 2) (by omega) hL hS1 (by decide) dL_law_557 dL_law_558 dL_law_559 dL_law_560 dL_law_561 ?_
  refine l_arg K hl (k := 3) (by omega) hL hS1 (by decide) dL_law_562 dL_law_563 dL_law_564 dL_law_565 dL_law_566 ?_
  refine l_call (as := [.int (xs (i + 1)), .int (xs (i + 2)), .int (xs (i + 3))]) (rest := [.int r]) (o := 700) (ci := 7) K mdX7_cell c2 gL_law_X7_cell rfl rfl rfl (by decide) rfl ⟨Nat.le_of_ble_eq_true rfl, Nat.le_of_ble_eq_true rfl⟩ hl.1 (Nat.le_of_ble_eq_true rfl) dL_law_567 hRH1 hS1 (fun H2 locs2 hRH2 hS2 => ?_)
  exact lv_icmp_eq (tgt := 809) hx hb dL_law_570 (by decide) (fun _ => kk σ2 H2 locs2 R2 hRH2 hS2) (fun z => absurd rfl z)
set_option maxHeartbeats 4000000 in
theorem lc_printed (K : LK p s m c b L xs g) {i : Nat} (hl : lv_has ls 4 [(0, .ref b), (1, .ref (gL g 600)), (2, .ref (gL g 700)), (3, .int (nI i))]) (hi : i + 6 ≤ L) (hL : L ≤ 3072) (hR : Rel σ) (hRH : RH g σ H) (hS : va_S (gA g) s.heap H locs) (kk : ∀ (σ2 : aS) (H2 : Heap) (locs2 : List Loc), Rel σ2 → RH g σ2 H2 → va_S (gA g) s.heap H2 locs2 → W p l e room_1 s m #[Value.ref b] below meth c H2 locs2 600000 7302250 Q (F0 m 809 ls [])) : W p l e room_1 s m #[Value.ref b] below meth c H locs 600000 7302250 Q (F0 m 575 ls []) := by
  obtain ⟨hx, hb, hml, hown, hts, hX, hbl, hgB, hGK⟩ := id K
  obtain ⟨r, σ1, σ2, c1, c2, R2⟩ := duo_printed (g := g) (l := l) hR (xs (i + 1)) (xs (i + 2)) (xs (i + 3)) (xs (i + 4))
  refine lv_aload_n hx hb dL_law_575 rfl (lv_at hl 1 rfl) ?_
  refine l_arg K hl (k := 1) (by omega) hL hS (by decide) dL_law_576 dL_law_577 dL_law_578 dL_law_579 dL_law_580 ?_
  refine l_arg K hl (k := 2) (by omega) hL hS (by decide) dL_law_581 dL_law_582 dL_law_583 dL_law_584 dL_law_585 ?_
  refine l_arg K hl (k := 3) (by omega) hL hS (by decide) dL_law_586 dL_law_587 dL_law_588 dL_law_589 dL_law_590 ?_
  refine l_arg K hl (k := 4) (by omega) hL hS (by decide) dL_law_591 dL_law_592 dL_law_593 dL_law_594 dL_law_595 ?_
  refine l_call (as := [.int (xs (i + 1)), .int (xs (i + 2)), .int (xs (i + 3)), .int (xs (i + 4))]) (rest := []) (o := 600) (ci := 6) K mdX6_printed c1 gL_law_X6_printed rfl rfl rfl (by decide) rfl ⟨Nat.le_of_ble_eq_true rfl, Nat.le_of_ble_eq_true rfl⟩ hl.1 (Nat.zero_le _) dL_law_596 hRH hS (fun H1 locs1 hRH1 hS1 => ?_)
  refine lv_aload_n hx hb dL_law_599 rfl (lv_at hl 2 rfl) ?_
  refine l_arg K hl (k := 1) (by omega) hL hS1 (by decide) dL_law_600 dL_law_601 dL_law_602 dL_law_603 dL_law_604 ?_
  refine l_arg K hl (k := 2) (by omega) hL hS1 (by decide) dL_law_605 dL_law_606 dL_law_607 dL_law_608 dL_law_609 ?_
  refine l_arg K hl (k := 3) (by omega) hL hS1 (by decide) dL_law_610 dL_law_611 dL_law_612 dL_law_613 dL_law_614 ?_
  refine l_arg K hl (k := 4) (by omega) hL hS1 (by decide) dL_law_615 dL_law_616 dL_law_617 dL_law_618 dL_law_619 ?_
  refine l_call (as := [.int (xs (i + 1)), .int (xs (i + 2)), .int (xs (i + 3)), .int (xs (i + 4))]) (rest := [.int r]) (o := 700) (ci := 7) K mdX7_printed c2 gL_law_X7_printed rfl rfl rfl (by decide) rfl ⟨Nat.le_of_ble_eq_true rfl, Nat.le_of_ble_eq_true rfl⟩ hl.1 (Nat.le_of_ble_eq_true rfl) dL_law_620 hRH1 hS1 (fun H2 locs2 hRH2 hS2 => ?_)
  exact lv_icmp_eq (tgt := 809) hx hb dL_law_623 (by decide) (fun _ => kk σ2 H2 locs2 R2 hRH2 hS2) (fun z => absurd rfl z)
set_option maxHeartbeats 4000000 in
theorem lc_proof (K : LK p s m c b L xs g) {i : Nat} (hl : lv_has ls 4 [(0, .ref b), (1, .ref (gL g 600)), (2, .ref (gL g 700)), (3, .int (nI i))]) (hi : i + 6 ≤ L) (hL : L ≤ 3072) (hR : Rel σ) (hRH : RH g σ H) (hS : va_S (gA g) s.heap H locs) (kk : ∀ (σ2 : aS) (H2 : Heap) (locs2 : List Loc), Rel σ2 → RH g σ2 H2 → va_S (gA g) s.heap H2 locs2 → W p l e room_1 s m #[Value.ref b] below meth c H2 locs2 600000 7302250 Q (F0 m 809 ls [])) : W p l e room_1 s m #[Value.ref b] below meth c H locs 600000 7302250 Q (F0 m 628 ls []) := by
  obtain ⟨hx, hb, hml, hown, hts, hX, hbl, hgB, hGK⟩ := id K
  obtain ⟨r, σ1, σ2, c1, c2, R2⟩ := duo_proof (g := g) (l := l) hR (xs (i + 1)) (xs (i + 2))
  refine lv_aload_n hx hb dL_law_628 rfl (lv_at hl 1 rfl) ?_
  refine l_arg K hl (k := 1) (by omega) hL hS (by decide) dL_law_629 dL_law_630 dL_law_631 dL_law_632 dL_law_633 ?_
  refine l_arg K hl (k := 2) (by omega) hL hS (by decide) dL_law_634 dL_law_635 dL_law_636 dL_law_637 dL_law_638 ?_
  refine l_call (as := [.int (xs (i + 1)), .int (xs (i + 2))]) (rest := []) (o := 600) (ci := 6) K mdX6_proof c1 gL_law_X6_proof rfl rfl rfl (by decide) rfl ⟨Nat.le_of_ble_eq_true rfl, Nat.le_of_ble_eq_true rfl⟩ hl.1 (Nat.zero_le _) dL_law_639 hRH hS (fun H1 locs1 hRH1 hS1 => ?_)
  refine lv_aload_n hx hb dL_law_642 rfl (lv_at hl 2 rfl) ?_
  refine l_arg K hl (k := 1) (by omega) hL hS1 (by decide) dL_law_643 dL_law_644 dL_law_645 dL_law_646 dL_law_647 ?_
  refine l_arg K hl (k := 2) (by omega) hL hS1 (by decide) dL_law_648 dL_law_649 dL_law_650 dL_law_651 dL_law_652 ?_
  refine l_call (as := [.int (xs (i + 1)), .int (xs (i + 2))]) (rest := [.int r]) (o := 700) (ci := 7) K mdX7_proof c2 gL_law_X7_proof rfl rfl rfl (by decide) rfl ⟨Nat.le_of_ble_eq_true rfl, Nat.le_of_ble_eq_true rfl⟩ hl.1 (Nat.le_of_ble_eq_true rfl) dL_law_653 hRH1 hS1 (fun H2 locs2 hRH2 hS2 => ?_)
  exact lv_icmp_eq (tgt := 809) hx hb dL_law_656 (by decide) (fun _ => kk σ2 H2 locs2 R2 hRH2 hS2) (fun z => absurd rfl z)
set_option maxHeartbeats 4000000 in
theorem lc_faults (K : LK p s m c b L xs g) {i : Nat} (hl : lv_has ls 4 [(0, .ref b), (1, .ref (gL g 600)), (2, .ref (gL g 700)), (3, .int (nI i))]) (hi : i + 6 ≤ L) (hL : L ≤ 3072) (hR : Rel σ) (hRH : RH g σ H) (hS : va_S (gA g) s.heap H locs) (kk : ∀ (σ2 : aS) (H2 : Heap) (locs2 : List Loc), Rel σ2 → RH g σ2 H2 → va_S (gA g) s.heap H2 locs2 → W p l e room_1 s m #[Value.ref b] below meth c H2 locs2 600000 7302250 Q (F0 m 809 ls [])) : W p l e room_1 s m #[Value.ref b] below meth c H locs 600000 7302250 Q (F0 m 661 ls []) := by
  obtain ⟨hx, hb, hml, hown, hts, hX, hbl, hgB, hGK⟩ := id K
  obtain ⟨r, σ1, σ2, c1, c2, R2⟩ := duo_faults (g := g) (l := l) hR (xs (i + 1)) (xs (i + 2)) (xs (i + 3))
  refine lv_aload_n hx hb dL_law_661 rfl (lv_at hl 1 rfl) ?_
  refine l_arg K hl (k := 1) (by omega) hL hS (by decide) dL_law_662 dL_law_663 dL_law_664 dL_law_665 dL_law_666 ?_
  refine l_arg K hl (k := 2) (by omega) hL hS (by decide) dL_law_667 dL_law_668 dL_law_669 dL_law_670 dL_law_671 ?_
  refine l_arg K hl (k := 3) (by omega) hL hS (by decide) dL_law_672 dL_law_673 dL_law_674 dL_law_675 dL_law_676 ?_
  refine l_call (as := [.int (xs (i + 1)), .int (xs (i + 2)), .int (xs (i + 3))]) (rest := []) (o := 600) (ci := 6) K mdX6_faults c1 gL_law_X6_faults rfl rfl rfl (by decide) rfl ⟨Nat.le_of_ble_eq_true rfl, Nat.le_of_ble_eq_true rfl⟩ hl.1 (Nat.zero_le _) dL_law_677 hRH hS (fun H1 locs1 hRH1 hS1 => ?_)
  refine lv_aload_n hx hb dL_law_680 rfl (lv_at hl 2 rfl) ?_
  refine l_arg K hl (k := 1) (by omega) hL hS1 (by decide) dL_law_681 dL_law_682 dL_law_683 dL_law_684 dL_law_685 ?_
  refine l_arg K hl (k := 2) (by omega) hL hS1 (by decide) dL_law_686 dL_law_687 dL_law_688 dL_law_689 dL_law_690 ?_
  refine l_arg K hl (k := 3) (by omega) hL hS1 (by decide) dL_law_691 dL_law_692 dL_law_693 dL_law_694 dL_law_695 ?_
  refine l_call (as := [.int (xs (i + 1)), .int (xs (i + 2)), .int (xs (i + 3))]) (rest := [.int r]) (o := 700) (ci := 7) K mdX7_faults c2 gL_law_X7_faults rfl rfl rfl (by decide) rfl ⟨Nat.le_of_ble_eq_true rfl, Nat.le_of_ble_eq_true rfl⟩ hl.1 (Nat.le_of_ble_eq_true rfl) dL_law_696 hRH1 hS1 (fun H2 locs2 hRH2 hS2 => ?_)
  exact lv_icmp_eq (tgt := 809) hx hb dL_law_699 (by decide) (fun _ => kk σ2 H2 locs2 R2 hRH2 hS2) (fun z => absurd rfl z)
set_option maxHeartbeats 4000000 in
theorem lc_why (K : LK p s m c b L xs g) {i : Nat} (hl : lv_has ls 4 [(0, .ref b), (1, .ref (gL g 600)), (2, .ref (gL g 700)), (3, .int (nI i))]) (hi : i + 6 ≤ L) (hL : L ≤ 3072) (hR : Rel σ) (hRH : RH g σ H) (hS : va_S (gA g) s.heap H locs) (kk : ∀ (σ2 : aS) (H2 : Heap) (locs2 : List Loc), Rel σ2 → RH g σ2 H2 → va_S (gA g) s.heap H2 locs2 → W p l e room_1 s m #[Value.ref b] below meth c H2 locs2 600000 7302250 Q (F0 m 809 ls [])) : W p l e room_1 s m #[Value.ref b] below meth c H locs 600000 7302250 Q (F0 m 704 ls []) := by
  obtain ⟨hx, hb, hml, hown, hts, hX, hbl, hgB, hGK⟩ := id K
  obtain ⟨r, σ1, σ2, c1, c2, R2⟩ := duo_why (g := g) (l := l) hR (xs (i + 1)) (xs (i + 2))
  refine lv_aload_n hx hb dL_law_704 rfl (lv_at hl 1 rfl) ?_
  refine l_arg K hl (k := 1) (by omega) hL hS (by decide) dL_law_705 dL_law_706 dL_law_707 dL_law_708 dL_law_709 ?_
  refine l_arg K hl (k := 2) (by omega) hL hS (by decide) dL_law_710 dL_law_711 dL_law_712 dL_law_713 dL_law_714 ?_
  refine l_call (as := [.int (xs (i + 1)), .int (xs (i + 2))]) (rest := []) (o := 600) (ci := 6) K mdX6_why c1 gL_law_X6_why rfl rfl rfl (by decide) rfl ⟨Nat.le_of_ble_eq_true rfl, Nat.le_of_ble_eq_true rfl⟩ hl.1 (Nat.zero_le _) dL_law_715 hRH hS (fun H1 locs1 hRH1 hS1 => ?_)
  refine lv_aload_n hx hb dL_law_718 rfl (lv_at hl 2 rfl) ?_
  refine l_arg K hl (k := 1) (by omega) hL hS1 (by decide) dL_law_719 dL_law_720 dL_law_721 dL_law_722 dL_law_723 ?_
  refine l_arg K hl (k := 2) (by omega) hL hS1 (by decide) dL_law_724 dL_law_725 dL_law_726 dL_law_727 dL_law_728 ?_
  refine l_call (as := [.int (xs (i + 1)), .int (xs (i + 2))]) (rest := [.int r]) (o := 700) (ci := 7) K mdX7_why c2 gL_law_X7_why rfl rfl rfl (by decide) rfl ⟨Nat.le_of_ble_eq_true rfl, Nat.le_of_ble_eq_true rfl⟩ hl.1 (Nat.le_of_ble_eq_true rfl) dL_law_729 hRH1 hS1 (fun H2 locs2 hRH2 hS2 => ?_)
  exact lv_icmp_eq (tgt := 809) hx hb dL_law_732 (by decide) (fun _ => kk σ2 H2 locs2 R2 hRH2 hS2) (fun z => absurd rfl z)
set_option maxHeartbeats 4000000 in
theorem lc_tolerance (K : LK p s m c b L xs g) {i : Nat} (hl : lv_has ls 4 [(0, .ref b), (1, .ref (gL g 600)), (2, .ref (gL g 700)), (3, .int (nI i))]) (hi : i + 6 ≤ L) (hL : L ≤ 3072) (hR : Rel σ) (hRH : RH g σ H) (hS : va_S (gA g) s.heap H locs) (kk : ∀ (σ2 : aS) (H2 : Heap) (locs2 : List Loc), Rel σ2 → RH g σ2 H2 → va_S (gA g) s.heap H2 locs2 → W p l e room_1 s m #[Value.ref b] below meth c H2 locs2 600000 7302250 Q (F0 m 809 ls [])) : W p l e room_1 s m #[Value.ref b] below meth c H locs 600000 7302250 Q (F0 m 737 ls []) := by
  obtain ⟨hx, hb, hml, hown, hts, hX, hbl, hgB, hGK⟩ := id K
  obtain ⟨r, σ1, σ2, c1, c2, R2⟩ := duo_tolerance (g := g) (l := l) hR 
  refine lv_aload_n hx hb dL_law_737 rfl (lv_at hl 1 rfl) ?_
  refine l_call (as := []) (rest := []) (o := 600) (ci := 6) K mdX6_tolerance c1 gL_law_X6_tolerance rfl rfl rfl (by decide) rfl ⟨Nat.le_of_ble_eq_true rfl, Nat.le_of_ble_eq_true rfl⟩ hl.1 (Nat.zero_le _) dL_law_738 hRH hS (fun H1 locs1 hRH1 hS1 => ?_)
  refine lv_aload_n hx hb dL_law_741 rfl (lv_at hl 2 rfl) ?_
  refine l_call (as := []) (rest := [.int r]) (o := 700) (ci := 7) K mdX7_tolerance c2 gL_law_X7_tolerance rfl rfl rfl (by decide) rfl ⟨Nat.le_of_ble_eq_true rfl, Nat.le_of_ble_eq_true rfl⟩ hl.1 (Nat.le_of_ble_eq_true rfl) dL_law_742 hRH1 hS1 (fun H2 locs2 hRH2 hS2 => ?_)
  exact lv_icmp_eq (tgt := 809) hx hb dL_law_745 (by decide) (fun _ => kk σ2 H2 locs2 R2 hRH2 hS2) (fun z => absurd rfl z)
set_option maxHeartbeats 4000000 in
theorem lc_trapFor (K : LK p s m c b L xs g) {i : Nat} (hl : lv_has ls 4 [(0, .ref b), (1, .ref (gL g 600)), (2, .ref (gL g 700)), (3, .int (nI i))]) (hi : i + 6 ≤ L) (hL : L ≤ 3072) (hR : Rel σ) (hRH : RH g σ H) (hS : va_S (gA g) s.heap H locs) (kk : ∀ (σ2 : aS) (H2 : Heap) (locs2 : List Loc), Rel σ2 → RH g σ2 H2 → va_S (gA g) s.heap H2 locs2 → W p l e room_1 s m #[Value.ref b] below meth c H2 locs2 600000 7302250 Q (F0 m 809 ls [])) : W p l e room_1 s m #[Value.ref b] below meth c H locs 600000 7302250 Q (F0 m 750 ls []) := by
  obtain ⟨hx, hb, hml, hown, hts, hX, hbl, hgB, hGK⟩ := id K
  obtain ⟨r, σ1, σ2, c1, c2, R2⟩ := duo_trapFor (g := g) (l := l) hR (xs (i + 1))
  refine lv_aload_n hx hb dL_law_750 rfl (lv_at hl 1 rfl) ?_
  refine l_arg K hl (k := 1) (by omega) hL hS (by decide) dL_law_751 dL_law_752 dL_law_753 dL_law_754 dL_law_755 ?_
  refine l_call (as := [.int (xs (i + 1))]) (rest := []) (o := 600) (ci := 6) K mdX6_trapFor c1 gL_law_X6_trapFor rfl rfl rfl (by decide) rfl ⟨Nat.le_of_ble_eq_true rfl, Nat.le_of_ble_eq_true rfl⟩ hl.1 (Nat.zero_le _) dL_law_756 hRH hS (fun H1 locs1 hRH1 hS1 => ?_)
  refine lv_aload_n hx hb dL_law_759 rfl (lv_at hl 2 rfl) ?_
  refine l_arg K hl (k := 1) (by omega) hL hS1 (by decide) dL_law_760 dL_law_761 dL_law_762 dL_law_763 dL_law_764 ?_
  refine l_call (as := [.int (xs (i + 1))]) (rest := [.int r]) (o := 700) (ci := 7) K mdX7_trapFor c2 gL_law_X7_trapFor rfl rfl rfl (by decide) rfl ⟨Nat.le_of_ble_eq_true rfl, Nat.le_of_ble_eq_true rfl⟩ hl.1 (Nat.le_of_ble_eq_true rfl) dL_law_765 hRH1 hS1 (fun H2 locs2 hRH2 hS2 => ?_)
  exact lv_icmp_eq (tgt := 809) hx hb dL_law_768 (by decide) (fun _ => kk σ2 H2 locs2 R2 hRH2 hS2) (fun z => absurd rfl z)
set_option maxHeartbeats 4000000 in
theorem lc_bestPins (K : LK p s m c b L xs g) {i : Nat} (hl : lv_has ls 4 [(0, .ref b), (1, .ref (gL g 600)), (2, .ref (gL g 700)), (3, .int (nI i))]) (hi : i + 6 ≤ L) (hL : L ≤ 3072) (hR : Rel σ) (hRH : RH g σ H) (hS : va_S (gA g) s.heap H locs) (kk : ∀ (σ2 : aS) (H2 : Heap) (locs2 : List Loc), Rel σ2 → RH g σ2 H2 → va_S (gA g) s.heap H2 locs2 → W p l e room_1 s m #[Value.ref b] below meth c H2 locs2 600000 7302250 Q (F0 m 809 ls [])) : W p l e room_1 s m #[Value.ref b] below meth c H locs 600000 7302250 Q (F0 m 773 ls []) := by
  obtain ⟨hx, hb, hml, hown, hts, hX, hbl, hgB, hGK⟩ := id K
  obtain ⟨r, σ1, σ2, c1, c2, R2⟩ := duo_bestPins (g := g) (l := l) hR (xs (i + 1))
  refine lv_aload_n hx hb dL_law_773 rfl (lv_at hl 1 rfl) ?_
  refine l_arg K hl (k := 1) (by omega) hL hS (by decide) dL_law_774 dL_law_775 dL_law_776 dL_law_777 dL_law_778 ?_
  refine l_call (as := [.int (xs (i + 1))]) (rest := []) (o := 600) (ci := 6) K mdX6_bestPins c1 gL_law_X6_bestPins rfl rfl rfl (by decide) rfl ⟨Nat.le_of_ble_eq_true rfl, Nat.le_of_ble_eq_true rfl⟩ hl.1 (Nat.zero_le _) dL_law_779 hRH hS (fun H1 locs1 hRH1 hS1 => ?_)
  refine lv_aload_n hx hb dL_law_782 rfl (lv_at hl 2 rfl) ?_
  refine l_arg K hl (k := 1) (by omega) hL hS1 (by decide) dL_law_783 dL_law_784 dL_law_785 dL_law_786 dL_law_787 ?_
  refine l_call (as := [.int (xs (i + 1))]) (rest := [.int r]) (o := 700) (ci := 7) K mdX7_bestPins c2 gL_law_X7_bestPins rfl rfl rfl (by decide) rfl ⟨Nat.le_of_ble_eq_true rfl, Nat.le_of_ble_eq_true rfl⟩ hl.1 (Nat.le_of_ble_eq_true rfl) dL_law_788 hRH1 hS1 (fun H2 locs2 hRH2 hS2 => ?_)
  exact lv_icmp_eq (tgt := 809) hx hb dL_law_791 (by decide) (fun _ => kk σ2 H2 locs2 R2 hRH2 hS2) (fun z => absurd rfl z)
set_option maxHeartbeats 4000000 in
theorem lc_printsLeft (K : LK p s m c b L xs g) {i : Nat} (hl : lv_has ls 4 [(0, .ref b), (1, .ref (gL g 600)), (2, .ref (gL g 700)), (3, .int (nI i))]) (hi : i + 6 ≤ L) (hL : L ≤ 3072) (hR : Rel σ) (hRH : RH g σ H) (hS : va_S (gA g) s.heap H locs) (kk : ∀ (σ2 : aS) (H2 : Heap) (locs2 : List Loc), Rel σ2 → RH g σ2 H2 → va_S (gA g) s.heap H2 locs2 → W p l e room_1 s m #[Value.ref b] below meth c H2 locs2 600000 7302250 Q (F0 m 809 ls [])) : W p l e room_1 s m #[Value.ref b] below meth c H locs 600000 7302250 Q (F0 m 796 ls []) := by
  obtain ⟨hx, hb, hml, hown, hts, hX, hbl, hgB, hGK⟩ := id K
  obtain ⟨r, σ1, σ2, c1, c2, R2⟩ := duo_printsLeft (g := g) (l := l) hR 
  refine lv_aload_n hx hb dL_law_796 rfl (lv_at hl 1 rfl) ?_
  refine l_call (as := []) (rest := []) (o := 600) (ci := 6) K mdX6_printsLeft c1 gL_law_X6_printsLeft rfl rfl rfl (by decide) rfl ⟨Nat.le_of_ble_eq_true rfl, Nat.le_of_ble_eq_true rfl⟩ hl.1 (Nat.zero_le _) dL_law_797 hRH hS (fun H1 locs1 hRH1 hS1 => ?_)
  refine lv_aload_n hx hb dL_law_800 rfl (lv_at hl 2 rfl) ?_
  refine l_call (as := []) (rest := [.int r]) (o := 700) (ci := 7) K mdX7_printsLeft c2 gL_law_X7_printsLeft rfl rfl rfl (by decide) rfl ⟨Nat.le_of_ble_eq_true rfl, Nat.le_of_ble_eq_true rfl⟩ hl.1 (Nat.le_of_ble_eq_true rfl) dL_law_801 hRH1 hS1 (fun H2 locs2 hRH2 hS2 => ?_)
  exact lv_icmp_eq (tgt := 809) hx hb dL_law_804 (by decide) (fun _ => kk σ2 H2 locs2 R2 hRH2 hS2) (fun z => absurd rfl z)
end LW
