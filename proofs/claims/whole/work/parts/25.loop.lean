/-- a call of the class's object, of the reference's -/
def AX (l : Launch) (q2 : MI) (d : Nat) (as : List Value) (ans : SS → Value) (nx : SS → SS) : Prop := ∀ (S : SS) (h : PH), RX S h → Sem l q2 d (.ref 0 :: as) h (fun v hh => v = some (ans S) ∧ RX (nx S) hh ∧ Hi h hh) 0 0
def AM (l : Launch) (q2 : MI) (d : Nat) (as : List Value) (ans : SS → Value) (nx : SS → SS) : Prop := ∀ (S : SS) (h : PH), RM S h → Sem l q2 d (.ref 91 :: as) h (fun v hh => v = some (ans S) ∧ RM (nx S) hh ∧ Lo h hh) 0 0
/-- both answer alike, an int, a long -/
def AI (l : Launch) (qx qm : MI) (as : List Value) : Prop := ∃ (d1 d2 : Nat) (ans : SS → Int32) (nx : SS → SS), d1 ≤ 1000 ∧ d2 ≤ 1000 ∧ AX l qx d1 as (fun S => .int (ans S)) nx ∧ AM l qm d2 as (fun S => .int (ans S)) nx
def AL (l : Launch) (qx qm : MI) (as : List Value) : Prop := ∃ (d1 d2 : Nat) (ans : SS → Int64) (nx : SS → SS), d1 ≤ 1000 ∧ d2 ≤ 1000 ∧ AX l qx d1 as (fun S => .long (ans S)) nx ∧ AM l qm d2 as (fun S => .long (ans S)) nx
theorem AtL.hi {h g : PH} {a cap : Nat} {Ls : List (Int32 × Int32)} (e : ∀ k, k < 91 → lk g k = lk h k) (ha : a + 2 < 91) (z : AtL h a cap Ls) : AtL g a cap Ls := by
  obtain ⟨u, v, h1, h2, h3, h4⟩ := z
  exact ⟨u, v, by rw [e a (by omega)]; exact h1, by rw [e _ (by omega)]; exact h2, by rw [e _ (by omega)]; exact h3, h4⟩
theorem AtS.hi {h g : PH} {a : Nat} {s : SG} (e : ∀ k, k < 91 → lk g k = lk h k) (ha : a + 10 < 91) (z : AtS h a s) : AtS g a s := by
  obtain ⟨h1, h2, h3, h4, h5⟩ := z
  exact ⟨by rw [e a (by omega)]; exact h1, by rw [e _ (by omega)]; exact h2, h3.hi e (by omega), h4.hi e (by omega), h5.hi e (by omega)⟩
theorem kT_lt : ∀ n, 2 ≤ n → n ≤ 5 → ∀ x ∈ hd_ (fun _ => 0) (kT n), x.1 < 91 := by
  intro n h1 h2
  rcases (show n = 2 ∨ n = 3 ∨ n = 4 ∨ n = 5 by omega) with rfl | rfl | rfl | rfl <;> decide +kernel
/-- what the class's object holds, it holds while the reference works -/
theorem RX.lo {S : SS} {h g : PH} (e : Lo h g) (z : RX S h) : RX S g := by
  obtain ⟨h1, h2, h3, h4, h5, h6, h7, h8, h9⟩ := z
  have e2 := e.2
  refine ⟨h1, by rw [e.1]; exact h2, by rw [e2 0 (by omega)]; exact h3, by rw [e2 1 (by omega)]; exact h4, fun n n1 n2 x hx => by rw [e2 _ (kT_lt n n1 n2 x hx)]; exact h5 n n1 n2 x hx, h6.hi e2 (by omega), ?_, ?_, ?_⟩
  · cases hi : S.2.1 with
    | none =>
      rw [hi] at h7
      obtain ⟨s, hs⟩ := h7
      exact ⟨s, hs.hi e2 (by omega)⟩
    | some s =>
      rw [hi] at h7
      exact AtS.hi e2 (by omega) h7
  · obtain ⟨cu, T, g1, g2, g3⟩ := h8
    exact ⟨cu, T, by rw [e2 _ (by omega)]; exact g1, by rw [e2 _ (by omega)]; exact g2, g3⟩
  · exact ⟨by rw [e2 _ (by omega)]; exact h9.1, fun t ht => ⟨by rw [e2 _ (by omega)]; exact (h9.2 t ht).1, by rw [e2 _ (by omega)]; exact (h9.2 t ht).2⟩⟩
theorem AtG.hi {h g : PH} {a : Nat} {s : SG} (e : lk g a = lk h a) (z : AtG h a s) : AtG g a s := by
  obtain ⟨f, h1, h2⟩ := z
  exact ⟨f, by rw [e]; exact h1, h2⟩
theorem RM.hi {S : SS} {h g : PH} (e : Hi h g) (z : RM S h) : RM S g := by
  obtain ⟨h1, h2, ⟨a1, a2, a3, a4, h3⟩, h4, h5, ⟨h6, R, h7, h8⟩, ⟨f1, k1⟩, ⟨f2, k2⟩, ⟨f3, k3⟩, ⟨f4, k4⟩, ⟨f5, k5⟩, ⟨f6, k6⟩, ⟨T, k7, k8⟩, k9, k10, k11, k12, ⟨zz, k13⟩⟩ := z
  have e2 := e.2
  refine ⟨h1, by rw [e.1]; exact h2, ⟨a1, a2, a3, a4, by rw [e2 _ (by omega)]; exact h3⟩, h4.hi (e2 _ (by omega)), ?_, ⟨by rw [e2 _ (by omega)]; exact h6, R, fun p hp => by rw [e2 _ (by omega)]; exact h7 p hp, h8⟩, ⟨f1, by rw [e2 _ (by omega)]; exact k1⟩, ⟨f2, by rw [e2 _ (by omega)]; exact k2⟩, ⟨f3, by rw [e2 _ (by omega)]; exact k3⟩, ⟨f4, by rw [e2 _ (by omega)]; exact k4⟩, ⟨f5, by rw [e2 _ (by omega)]; exact k5⟩, ⟨f6, by rw [e2 _ (by omega)]; exact k6⟩, ⟨T, by rw [e2 _ (by omega)]; exact k7, k8⟩, by rw [e2 _ (by omega)]; exact k9, by rw [e2 _ (by omega)]; exact k10, by rw [e2 _ (by omega)]; exact k11, fun t ht => by rw [e2 _ (by omega)]; exact k12 t ht, ⟨zz, by rw [e2 _ (by omega)]; exact k13⟩⟩
  cases hi : S.2.1 with
  | none =>
    rw [hi] at h5
    obtain ⟨f, hf⟩ := h5
    exact ⟨f, by rw [e2 _ (by omega)]; exact hf⟩
  | some s =>
    rw [hi] at h5
    exact AtG.hi (e2 _ (by omega)) h5
theorem RM.obj {S : SS} {h : PH} (z : RM S h) : ∃ fs : List Value, lk h 91 = some (6, fs) := by
  obtain ⟨-, -, ⟨_, _, _, _, h3⟩, -⟩ := z
  exact ⟨_, h3⟩
theorem lg_self (x : Int64) : lg_cmp x x = 0 := by
  unfold lg_cmp
  rw [if_neg (by simp [gt_iff_lt, Int64.lt_iff_toInt_lt]), if_pos rfl]
theorem nI_k (i k : Nat) {x : Int32} (hx : x = nI k) : nI i + x = nI (i + k) := by rw [hx, nI_add]
section LL
variable {p : Program} {l : Launch} {e : Env} {s : State} {m : MethodId} {below : List Frame} {meth : Method} {c : Code} {E : RE} {b L : Nat} {xs : Nat → Int32}
/-- the loop's locals -/
abbrev lls (i : Nat) : List (Nat × Value) := [(3, .int (nI i)), (2, .ref 91), (1, .ref 0), (0, .float 8)]
abbrev LG (p : Program) (l : Launch) (e : Env) (s : State) (m : MethodId) (below : List Frame) (meth : Method) (c : Code) (E : RE) (b : Nat) (i : Nat) : Prop := ∀ (S : SS) (h : PH), RX S h → RM S h → VS p l e s m below meth c E b 1230 (lls i) [] h 200 20000
theorem law_size (C : LCx p s m meth c E b L xs) (hL2 : L ≤ 3072) {i : Nat} (hi6 : i + 6 ≤ L) (G : LG p l e s m below meth c E b i) (H : AI l qX5_size qX6_size [.int (xs (i + 1))]) {S : SS} {h : PH} (hx : RX S h) (hm : RM S h) : VS p l e s m below meth c E b 184 (lls i) [] h 200 20000 := by
  obtain ⟨d1, d2, ans, nx, b1, b2, HX, HM⟩ := H
  refine VS.aload_n C 2 rfl rfl dL_184 ?_
  refine VS.aload_nS C 3 rfl rfl dL_185 ?_
  refine VS.iload_n C 0 rfl rfl dL_186 ?_
  refine VS.iconst C (v := 1) (by decide) dL_187 ?_
  refine VS.iadd C dL_188 ?_
  refine VS.topi (nI_k i 1 rfl) ?_
  refine VS.sld C (j := i + 1) (by omega) hL2 dL_189 ?_
  refine VS.callV C [.int (xs (i + 1))] (HX S h hx) hx.2.2.1 rfl jX5_size ml_L_13 rfl (by decide) b1 (Nat.le_of_ble_eq_true rfl) (Nat.le_of_ble_eq_true rfl) dL_190 (fun v hh z => ?_)
  obtain ⟨rfl, hx2, hi⟩ := z
  have hm2 := hm.hi hi
  obtain ⟨fs, hfs⟩ := hm2.obj
  refine VS.aload_n C 1 rfl rfl dL_193 ?_
  refine VS.aload_nS C 3 rfl rfl dL_194 ?_
  refine VS.iload_n C 0 rfl rfl dL_195 ?_
  refine VS.iconst C (v := 1) (by decide) dL_196 ?_
  refine VS.iadd C dL_197 ?_
  refine VS.topi (nI_k i 1 rfl) ?_
  refine VS.sld C (j := i + 1) (by omega) hL2 dL_198 ?_
  refine VS.callV C [.int (xs (i + 1))] (HM S hh hm2) hfs rfl jX6_size ml_L_17 rfl (by simp [Value.category]) b2 (Nat.le_of_ble_eq_true rfl) (Nat.le_of_ble_eq_true rfl) dL_199 (fun v h3 z => ?_)
  obtain ⟨rfl, hm3, lo⟩ := z
  have hx3 := hx2.lo lo
  refine VS.icmp_eq C (tgt := 1230) (by decide) dL_202 (fun _ => ?_) (fun z => absurd rfl z)
  exact VS.widen (by decide) (by decide) (G _ _ hx3 hm3)
theorem law_choose (C : LCx p s m meth c E b L xs) (hL2 : L ≤ 3072) {i : Nat} (hi6 : i + 6 ≤ L) (G : LG p l e s m below meth c E b i) (H : AI l qX5_choose qX6_choose [.int (xs (i + 1))]) {S : SS} {h : PH} (hx : RX S h) (hm : RM S h) : VS p l e s m below meth c E b 207 (lls i) [] h 200 20000 := by
  obtain ⟨d1, d2, ans, nx, b1, b2, HX, HM⟩ := H
  refine VS.aload_n C 2 rfl rfl dL_207 ?_
  refine VS.aload_nS C 3 rfl rfl dL_208 ?_
  refine VS.iload_n C 0 rfl rfl dL_209 ?_
  refine VS.iconst C (v := 1) (by decide) dL_210 ?_
  refine VS.iadd C dL_211 ?_
  refine VS.topi (nI_k i 1 rfl) ?_
  refine VS.sld C (j := i + 1) (by omega) hL2 dL_212 ?_
  refine VS.callV C [.int (xs (i + 1))] (HX S h hx) hx.2.2.1 rfl jX5_choose ml_L_18 rfl (by decide) b1 (Nat.le_of_ble_eq_true rfl) (Nat.le_of_ble_eq_true rfl) dL_213 (fun v hh z => ?_)
  obtain ⟨rfl, hx2, hi⟩ := z
  have hm2 := hm.hi hi
  obtain ⟨fs, hfs⟩ := hm2.obj
  refine VS.aload_n C 1 rfl rfl dL_216 ?_
  refine VS.aload_nS C 3 rfl rfl dL_217 ?_
  refine VS.iload_n C 0 rfl rfl dL_218 ?_
  refine VS.iconst C (v := 1) (by decide) dL_219 ?_
  refine VS.iadd C dL_220 ?_
  refine VS.topi (nI_k i 1 rfl) ?_
  refine VS.sld C (j := i + 1) (by omega) hL2 dL_221 ?_
  refine VS.callV C [.int (xs (i + 1))] (HM S hh hm2) hfs rfl jX6_choose ml_L_21 rfl (by simp [Value.category]) b2 (Nat.le_of_ble_eq_true rfl) (Nat.le_of_ble_eq_true rfl) dL_222 (fun v h3 z => ?_)
  obtain ⟨rfl, hm3, lo⟩ := z
  have hx3 := hx2.lo lo
  refine VS.icmp_eq C (tgt := 1230) (by decide) dL_225 (fun _ => ?_) (fun z => absurd rfl z)
  exact VS.widen (by decide) (by decide) (G _ _ hx3 hm3)
theorem law_becomes (C : LCx p s m meth c E b L xs) (hL2 : L ≤ 3072) {i : Nat} (hi6 : i + 6 ≤ L) (G : LG p l e s m below meth c E b i) (H : AI l qX5_becomes qX6_becomes [.int (xs (i + 1))]) {S : SS} {h : PH} (hx : RX S h) (hm : RM S h) : VS p l e s m below meth c E b 230 (lls i) [] h 200 20000 := by
  obtain ⟨d1, d2, ans, nx, b1, b2, HX, HM⟩ := H
  refine VS.aload_n C 2 rfl rfl dL_230 ?_
  refine VS.aload_nS C 3 rfl rfl dL_231 ?_
  refine VS.iload_n C 0 rfl rfl dL_232 ?_
  refine VS.iconst C (v := 1) (by decide) dL_233 ?_
  refine VS.iadd C dL_234 ?_
  refine VS.topi (nI_k i 1 rfl) ?_
  refine VS.sld C (j := i + 1) (by omega) hL2 dL_235 ?_
  refine VS.callV C [.int (xs (i + 1))] (HX S h hx) hx.2.2.1 rfl jX5_becomes ml_L_22 rfl (by decide) b1 (Nat.le_of_ble_eq_true rfl) (Nat.le_of_ble_eq_true rfl) dL_236 (fun v hh z => ?_)
  obtain ⟨rfl, hx2, hi⟩ := z
  have hm2 := hm.hi hi
  obtain ⟨fs, hfs⟩ := hm2.obj
  refine VS.aload_n C 1 rfl rfl dL_239 ?_
  refine VS.aload_nS C 3 rfl rfl dL_240 ?_
  refine VS.iload_n C 0 rfl rfl dL_241 ?_
  refine VS.iconst C (v := 1) (by decide) dL_242 ?_
  refine VS.iadd C dL_243 ?_
  refine VS.topi (nI_k i 1 rfl) ?_
  refine VS.sld C (j := i + 1) (by omega) hL2 dL_244 ?_
  refine VS.callV C [.int (xs (i + 1))] (HM S hh hm2) hfs rfl jX6_becomes ml_L_25 rfl (by simp [Value.category]) b2 (Nat.le_of_ble_eq_true rfl) (Nat.le_of_ble_eq_true rfl) dL_245 (fun v h3 z => ?_)
  obtain ⟨rfl, hm3, lo⟩ := z
  have hx3 := hx2.lo lo
  refine VS.icmp_eq C (tgt := 1230) (by decide) dL_248 (fun _ => ?_) (fun z => absurd rfl z)
  exact VS.widen (by decide) (by decide) (G _ _ hx3 hm3)
theorem law_raise (C : LCx p s m meth c E b L xs) (hL2 : L ≤ 3072) {i : Nat} (hi6 : i + 6 ≤ L) (G : LG p l e s m below meth c E b i) (H : AI l qX5_raise qX6_raise [.int (xs (i + 1))]) {S : SS} {h : PH} (hx : RX S h) (hm : RM S h) : VS p l e s m below meth c E b 253 (lls i) [] h 200 20000 := by
  obtain ⟨d1, d2, ans, nx, b1, b2, HX, HM⟩ := H
  refine VS.aload_n C 2 rfl rfl dL_253 ?_
  refine VS.aload_nS C 3 rfl rfl dL_254 ?_
  refine VS.iload_n C 0 rfl rfl dL_255 ?_
  refine VS.iconst C (v := 1) (by decide) dL_256 ?_
  refine VS.iadd C dL_257 ?_
  refine VS.topi (nI_k i 1 rfl) ?_
  refine VS.sld C (j := i + 1) (by omega) hL2 dL_258 ?_
  refine VS.callV C [.int (xs (i + 1))] (HX S h hx) hx.2.2.1 rfl jX5_raise ml_L_26 rfl (by decide) b1 (Nat.le_of_ble_eq_true rfl) (Nat.le_of_ble_eq_true rfl) dL_259 (fun v hh z => ?_)
  obtain ⟨rfl, hx2, hi⟩ := z
  have hm2 := hm.hi hi
  obtain ⟨fs, hfs⟩ := hm2.obj
  refine VS.aload_n C 1 rfl rfl dL_262 ?_
  refine VS.aload_nS C 3 rfl rfl dL_263 ?_
  refine VS.iload_n C 0 rfl rfl dL_264 ?_
  refine VS.iconst C (v := 1) (by decide) dL_265 ?_
  refine VS.iadd C dL_266 ?_
  refine VS.topi (nI_k i 1 rfl) ?_
  refine VS.sld C (j := i + 1) (by omega) hL2 dL_267 ?_
  refine VS.callV C [.int (xs (i + 1))] (HM S hh hm2) hfs rfl jX6_raise ml_L_29 rfl (by simp [Value.category]) b2 (Nat.le_of_ble_eq_true rfl) (Nat.le_of_ble_eq_true rfl) dL_268 (fun v h3 z => ?_)
  obtain ⟨rfl, hm3, lo⟩ := z
  have hx3 := hx2.lo lo
  refine VS.icmp_eq C (tgt := 1230) (by decide) dL_271 (fun _ => ?_) (fun z => absurd rfl z)
  exact VS.widen (by decide) (by decide) (G _ _ hx3 hm3)
theorem law_lower (C : LCx p s m meth c E b L xs) (hL2 : L ≤ 3072) {i : Nat} (hi6 : i + 6 ≤ L) (G : LG p l e s m below meth c E b i) (H : AI l qX5_lower qX6_lower [.int (xs (i + 1))]) {S : SS} {h : PH} (hx : RX S h) (hm : RM S h) : VS p l e s m below meth c E b 276 (lls i) [] h 200 20000 := by
  obtain ⟨d1, d2, ans, nx, b1, b2, HX, HM⟩ := H
  refine VS.aload_n C 2 rfl rfl dL_276 ?_
  refine VS.aload_nS C 3 rfl rfl dL_277 ?_
  refine VS.iload_n C 0 rfl rfl dL_278 ?_
  refine VS.iconst C (v := 1) (by decide) dL_279 ?_
  refine VS.iadd C dL_280 ?_
  refine VS.topi (nI_k i 1 rfl) ?_
  refine VS.sld C (j := i + 1) (by omega) hL2 dL_281 ?_
  refine VS.callV C [.int (xs (i + 1))] (HX S h hx) hx.2.2.1 rfl jX5_lower ml_L_30 rfl (by decide) b1 (Nat.le_of_ble_eq_true rfl) (Nat.le_of_ble_eq_true rfl) dL_282 (fun v hh z => ?_)
  obtain ⟨rfl, hx2, hi⟩ := z
  have hm2 := hm.hi hi
  obtain ⟨fs, hfs⟩ := hm2.obj
  refine VS.aload_n C 1 rfl rfl dL_285 ?_
  refine VS.aload_nS C 3 rfl rfl dL_286 ?_
  refine VS.iload_n C 0 rfl rfl dL_287 ?_
  refine VS.iconst C (v := 1) (by decide) dL_288 ?_
  refine VS.iadd C dL_289 ?_
  refine VS.topi (nI_k i 1 rfl) ?_
  refine VS.sld C (j := i + 1) (by omega) hL2 dL_290 ?_
  refine VS.callV C [.int (xs (i + 1))] (HM S hh hm2) hfs rfl jX6_lower ml_L_33 rfl (by simp [Value.category]) b2 (Nat.le_of_ble_eq_true rfl) (Nat.le_of_ble_eq_true rfl) dL_291 (fun v h3 z => ?_)
  obtain ⟨rfl, hm3, lo⟩ := z
  have hx3 := hx2.lo lo
  refine VS.icmp_eq C (tgt := 1230) (by decide) dL_294 (fun _ => ?_) (fun z => absurd rfl z)
  exact VS.widen (by decide) (by decide) (G _ _ hx3 hm3)
theorem law_exchange (C : LCx p s m meth c E b L xs) (hL2 : L ≤ 3072) {i : Nat} (hi6 : i + 6 ≤ L) (G : LG p l e s m below meth c E b i) (H : AI l qX5_exchange qX6_exchange [.int (xs (i + 1)), .int (xs (i + 2))]) {S : SS} {h : PH} (hx : RX S h) (hm : RM S h) : VS p l e s m below meth c E b 299 (lls i) [] h 200 20000 := by
  obtain ⟨d1, d2, ans, nx, b1, b2, HX, HM⟩ := H
  refine VS.aload_n C 2 rfl rfl dL_299 ?_
  refine VS.aload_nS C 3 rfl rfl dL_300 ?_
  refine VS.iload_n C 0 rfl rfl dL_301 ?_
  refine VS.iconst C (v := 1) (by decide) dL_302 ?_
  refine VS.iadd C dL_303 ?_
  refine VS.topi (nI_k i 1 rfl) ?_
  refine VS.sld C (j := i + 1) (by omega) hL2 dL_304 ?_
  refine VS.aload_nS C 3 rfl rfl dL_305 ?_
  refine VS.iload_n C 0 rfl rfl dL_306 ?_
  refine VS.iconst C (v := 2) (by decide) dL_307 ?_
  refine VS.iadd C dL_308 ?_
  refine VS.topi (nI_k i 2 rfl) ?_
  refine VS.sld C (j := i + 2) (by omega) hL2 dL_309 ?_
  refine VS.callV C [.int (xs (i + 1)), .int (xs (i + 2))] (HX S h hx) hx.2.2.1 rfl jX5_exchange ml_L_34 rfl (by decide) b1 (Nat.le_of_ble_eq_true rfl) (Nat.le_of_ble_eq_true rfl) dL_310 (fun v hh z => ?_)
  obtain ⟨rfl, hx2, hi⟩ := z
  have hm2 := hm.hi hi
  obtain ⟨fs, hfs⟩ := hm2.obj
  refine VS.aload_n C 1 rfl rfl dL_313 ?_
  refine VS.aload_nS C 3 rfl rfl dL_314 ?_
  refine VS.iload_n C 0 rfl rfl dL_315 ?_
  refine VS.iconst C (v := 1) (by decide) dL_316 ?_
  refine VS.iadd C dL_317 ?_
  refine VS.topi (nI_k i 1 rfl) ?_
  refine VS.sld C (j := i + 1) (by omega) hL2 dL_318 ?_
  refine VS.aload_nS C 3 rfl rfl dL_319 ?_
  refine VS.iload_n C 0 rfl rfl dL_320 ?_
  refine VS.iconst C (v := 2) (by decide) dL_321 ?_
  refine VS.iadd C dL_322 ?_
  refine VS.topi (nI_k i 2 rfl) ?_
  refine VS.sld C (j := i + 2) (by omega) hL2 dL_323 ?_
  refine VS.callV C [.int (xs (i + 1)), .int (xs (i + 2))] (HM S hh hm2) hfs rfl jX6_exchange ml_L_38 rfl (by simp [Value.category]) b2 (Nat.le_of_ble_eq_true rfl) (Nat.le_of_ble_eq_true rfl) dL_324 (fun v h3 z => ?_)
  obtain ⟨rfl, hm3, lo⟩ := z
  have hx3 := hx2.lo lo
  refine VS.icmp_eq C (tgt := 1230) (by decide) dL_327 (fun _ => ?_) (fun z => absurd rfl z)
  exact VS.widen (by decide) (by decide) (G _ _ hx3 hm3)
theorem law_feed (C : LCx p s m meth c E b L xs) (hL2 : L ≤ 3072) {i : Nat} (hi6 : i + 6 ≤ L) (G : LG p l e s m below meth c E b i) (H : AI l qX5_feed qX6_feed [.int (xs (i + 1))]) {S : SS} {h : PH} (hx : RX S h) (hm : RM S h) : VS p l e s m below meth c E b 332 (lls i) [] h 200 20000 := by
  obtain ⟨d1, d2, ans, nx, b1, b2, HX, HM⟩ := H
  refine VS.aload_n C 2 rfl rfl dL_332 ?_
  refine VS.aload_nS C 3 rfl rfl dL_333 ?_
  refine VS.iload_n C 0 rfl rfl dL_334 ?_
  refine VS.iconst C (v := 1) (by decide) dL_335 ?_
  refine VS.iadd C dL_336 ?_
  refine VS.topi (nI_k i 1 rfl) ?_
  refine VS.sld C (j := i + 1) (by omega) hL2 dL_337 ?_
  refine VS.callV C [.int (xs (i + 1))] (HX S h hx) hx.2.2.1 rfl jX5_feed ml_L_39 rfl (by decide) b1 (Nat.le_of_ble_eq_true rfl) (Nat.le_of_ble_eq_true rfl) dL_338 (fun v hh z => ?_)
  obtain ⟨rfl, hx2, hi⟩ := z
  have hm2 := hm.hi hi
  obtain ⟨fs, hfs⟩ := hm2.obj
  refine VS.aload_n C 1 rfl rfl dL_341 ?_
  refine VS.aload_nS C 3 rfl rfl dL_342 ?_
  refine VS.iload_n C 0 rfl rfl dL_343 ?_
  refine VS.iconst C (v := 1) (by decide) dL_344 ?_
  refine VS.iadd C dL_345 ?_
  refine VS.topi (nI_k i 1 rfl) ?_
  refine VS.sld C (j := i + 1) (by omega) hL2 dL_346 ?_
  refine VS.callV C [.int (xs (i + 1))] (HM S hh hm2) hfs rfl jX6_feed ml_L_42 rfl (by simp [Value.category]) b2 (Nat.le_of_ble_eq_true rfl) (Nat.le_of_ble_eq_true rfl) dL_347 (fun v h3 z => ?_)
  obtain ⟨rfl, hm3, lo⟩ := z
  have hx3 := hx2.lo lo
  refine VS.icmp_eq C (tgt := 1230) (by decide) dL_350 (fun _ => ?_) (fun z => absurd rfl z)
  exact VS.widen (by decide) (by decide) (G _ _ hx3 hm3)
theorem law_read (C : LCx p s m meth c E b L xs) (hL2 : L ≤ 3072) {i : Nat} (hi6 : i + 6 ≤ L) (G : LG p l e s m below meth c E b i) (H : AI l qX5_read qX6_read []) {S : SS} {h : PH} (hx : RX S h) (hm : RM S h) : VS p l e s m below meth c E b 355 (lls i) [] h 200 20000 := by
  obtain ⟨d1, d2, ans, nx, b1, b2, HX, HM⟩ := H
  refine VS.aload_n C 2 rfl rfl dL_355 ?_
  refine VS.callV C [] (HX S h hx) hx.2.2.1 rfl jX5_read ml_L_43 rfl (by decide) b1 (Nat.le_of_ble_eq_true rfl) (Nat.le_of_ble_eq_true rfl) dL_356 (fun v hh z => ?_)
  obtain ⟨rfl, hx2, hi⟩ := z
  have hm2 := hm.hi hi
  obtain ⟨fs, hfs⟩ := hm2.obj
  refine VS.aload_n C 1 rfl rfl dL_359 ?_
  refine VS.callV C [] (HM S hh hm2) hfs rfl jX6_read ml_L_47 rfl (by simp [Value.category]) b2 (Nat.le_of_ble_eq_true rfl) (Nat.le_of_ble_eq_true rfl) dL_360 (fun v h3 z => ?_)
  obtain ⟨rfl, hm3, lo⟩ := z
  have hx3 := hx2.lo lo
  refine VS.icmp_eq C (tgt := 1230) (by decide) dL_363 (fun _ => ?_) (fun z => absurd rfl z)
  exact VS.widen (by decide) (by decide) (G _ _ hx3 hm3)
theorem law_told (C : LCx p s m meth c E b L xs) (hL2 : L ≤ 3072) {i : Nat} (hi6 : i + 6 ≤ L) (G : LG p l e s m below meth c E b i) (H : AI l qX5_told qX6_told [.int (xs (i + 1))]) {S : SS} {h : PH} (hx : RX S h) (hm : RM S h) : VS p l e s m below meth c E b 368 (lls i) [] h 200 20000 := by
  obtain ⟨d1, d2, ans, nx, b1, b2, HX, HM⟩ := H
  refine VS.aload_n C 2 rfl rfl dL_368 ?_
  refine VS.aload_nS C 3 rfl rfl dL_369 ?_
  refine VS.iload_n C 0 rfl rfl dL_370 ?_
  refine VS.iconst C (v := 1) (by decide) dL_371 ?_
  refine VS.iadd C dL_372 ?_
  refine VS.topi (nI_k i 1 rfl) ?_
  refine VS.sld C (j := i + 1) (by omega) hL2 dL_373 ?_
  refine VS.callV C [.int (xs (i + 1))] (HX S h hx) hx.2.2.1 rfl jX5_told ml_L_48 rfl (by decide) b1 (Nat.le_of_ble_eq_true rfl) (Nat.le_of_ble_eq_true rfl) dL_374 (fun v hh z => ?_)
  obtain ⟨rfl, hx2, hi⟩ := z
  have hm2 := hm.hi hi
  obtain ⟨fs, hfs⟩ := hm2.obj
  refine VS.aload_n C 1 rfl rfl dL_377 ?_
  refine VS.aload_nS C 3 rfl rfl dL_378 ?_
  refine VS.iload_n C 0 rfl rfl dL_379 ?_
  refine VS.iconst C (v := 1) (by decide) dL_380 ?_
  refine VS.iadd C dL_381 ?_
  refine VS.topi (nI_k i 1 rfl) ?_
  refine VS.sld C (j := i + 1) (by omega) hL2 dL_382 ?_
  refine VS.callV C [.int (xs (i + 1))] (HM S hh hm2) hfs rfl jX6_told ml_L_51 rfl (by simp [Value.category]) b2 (Nat.le_of_ble_eq_true rfl) (Nat.le_of_ble_eq_true rfl) dL_383 (fun v h3 z => ?_)
  obtain ⟨rfl, hm3, lo⟩ := z
  have hx3 := hx2.lo lo
  refine VS.icmp_eq C (tgt := 1230) (by decide) dL_386 (fun _ => ?_) (fun z => absurd rfl z)
  exact VS.widen (by decide) (by decide) (G _ _ hx3 hm3)
theorem law_of (C : LCx p s m meth c E b L xs) (hL2 : L ≤ 3072) {i : Nat} (hi6 : i + 6 ≤ L) (G : LG p l e s m below meth c E b i) (H : AI l qX5_of qX6_of [.int (xs (i + 1)), .int (xs (i + 2))]) {S : SS} {h : PH} (hx : RX S h) (hm : RM S h) : VS p l e s m below meth c E b 391 (lls i) [] h 200 20000 := by
  obtain ⟨d1, d2, ans, nx, b1, b2, HX, HM⟩ := H
  refine VS.aload_n C 2 rfl rfl dL_391 ?_
  refine VS.aload_nS C 3 rfl rfl dL_392 ?_
  refine VS.iload_n C 0 rfl rfl dL_393 ?_
  refine VS.iconst C (v := 1) (by decide) dL_394 ?_
  refine VS.iadd C dL_395 ?_
  refine VS.topi (nI_k i 1 rfl) ?_
  refine VS.sld C (j := i + 1) (by omega) hL2 dL_396 ?_
  refine VS.aload_nS C 3 rfl rfl dL_397 ?_
  refine VS.iload_n C 0 rfl rfl dL_398 ?_
  refine VS.iconst C (v := 2) (by decide) dL_399 ?_
  refine VS.iadd C dL_400 ?_
  refine VS.topi (nI_k i 2 rfl) ?_
  refine VS.sld C (j := i + 2) (by omega) hL2 dL_401 ?_
  refine VS.callV C [.int (xs (i + 1)), .int (xs (i + 2))] (HX S h hx) hx.2.2.1 rfl jX5_of ml_L_52 rfl (by decide) b1 (Nat.le_of_ble_eq_true rfl) (Nat.le_of_ble_eq_true rfl) dL_402 (fun v hh z => ?_)
  obtain ⟨rfl, hx2, hi⟩ := z
  have hm2 := hm.hi hi
  obtain ⟨fs, hfs⟩ := hm2.obj
  refine VS.aload_n C 1 rfl rfl dL_405 ?_
  refine VS.aload_nS C 3 rfl rfl dL_406 ?_
  refine VS.iload_n C 0 rfl rfl dL_407 ?_
  refine VS.iconst C (v := 1) (by decide) dL_408 ?_
  refine VS.iadd C dL_409 ?_
  refine VS.topi (nI_k i 1 rfl) ?_
  refine VS.sld C (j := i + 1) (by omega) hL2 dL_410 ?_
  refine VS.aload_nS C 3 rfl rfl dL_411 ?_
  refine VS.iload_n C 0 rfl rfl dL_412 ?_
  refine VS.iconst C (v := 2) (by decide) dL_413 ?_
  refine VS.iadd C dL_414 ?_
  refine VS.topi (nI_k i 2 rfl) ?_
  refine VS.sld C (j := i + 2) (by omega) hL2 dL_415 ?_
  refine VS.callV C [.int (xs (i + 1)), .int (xs (i + 2))] (HM S hh hm2) hfs rfl jX6_of ml_L_55 rfl (by simp [Value.category]) b2 (Nat.le_of_ble_eq_true rfl) (Nat.le_of_ble_eq_true rfl) dL_416 (fun v h3 z => ?_)
  obtain ⟨rfl, hm3, lo⟩ := z
  have hx3 := hx2.lo lo
  refine VS.icmp_eq C (tgt := 1230) (by decide) dL_419 (fun _ => ?_) (fun z => absurd rfl z)
  exact VS.widen (by decide) (by decide) (G _ _ hx3 hm3)
theorem law_row (C : LCx p s m meth c E b L xs) (hL2 : L ≤ 3072) {i : Nat} (hi6 : i + 6 ≤ L) (G : LG p l e s m below meth c E b i) (H : AI l qX5_row qX6_row [.int (xs (i + 1)), .int (xs (i + 2))]) {S : SS} {h : PH} (hx : RX S h) (hm : RM S h) : VS p l e s m below meth c E b 424 (lls i) [] h 200 20000 := by
  obtain ⟨d1, d2, ans, nx, b1, b2, HX, HM⟩ := H
  refine VS.aload_n C 2 rfl rfl dL_424 ?_
  refine VS.aload_nS C 3 rfl rfl dL_425 ?_
  refine VS.iload_n C 0 rfl rfl dL_426 ?_
  refine VS.iconst C (v := 1) (by decide) dL_427 ?_
  refine VS.iadd C dL_428 ?_
  refine VS.topi (nI_k i 1 rfl) ?_
  refine VS.sld C (j := i + 1) (by omega) hL2 dL_429 ?_
  refine VS.aload_nS C 3 rfl rfl dL_430 ?_
  refine VS.iload_n C 0 rfl rfl dL_431 ?_
  refine VS.iconst C (v := 2) (by decide) dL_432 ?_
  refine VS.iadd C dL_433 ?_
  refine VS.topi (nI_k i 2 rfl) ?_
  refine VS.sld C (j := i + 2) (by omega) hL2 dL_434 ?_
  refine VS.callV C [.int (xs (i + 1)), .int (xs (i + 2))] (HX S h hx) hx.2.2.1 rfl jX5_row ml_L_56 rfl (by decide) b1 (Nat.le_of_ble_eq_true rfl) (Nat.le_of_ble_eq_true rfl) dL_435 (fun v hh z => ?_)
  obtain ⟨rfl, hx2, hi⟩ := z
  have hm2 := hm.hi hi
  obtain ⟨fs, hfs⟩ := hm2.obj
  refine VS.aload_n C 1 rfl rfl dL_438 ?_
  refine VS.aload_nS C 3 rfl rfl dL_439 ?_
  refine VS.iload_n C 0 rfl rfl dL_440 ?_
  refine VS.iconst C (v := 1) (by decide) dL_441 ?_
  refine VS.iadd C dL_442 ?_
  refine VS.topi (nI_k i 1 rfl) ?_
  refine VS.sld C (j := i + 1) (by omega) hL2 dL_443 ?_
  refine VS.aload_nS C 3 rfl rfl dL_444 ?_
  refine VS.iload_n C 0 rfl rfl dL_445 ?_
  refine VS.iconst C (v := 2) (by decide) dL_446 ?_
  refine VS.iadd C dL_447 ?_
  refine VS.topi (nI_k i 2 rfl) ?_
  refine VS.sld C (j := i + 2) (by omega) hL2 dL_448 ?_
  refine VS.callV C [.int (xs (i + 1)), .int (xs (i + 2))] (HM S hh hm2) hfs rfl jX6_row ml_L_59 rfl (by simp [Value.category]) b2 (Nat.le_of_ble_eq_true rfl) (Nat.le_of_ble_eq_true rfl) dL_449 (fun v h3 z => ?_)
  obtain ⟨rfl, hm3, lo⟩ := z
  have hx3 := hx2.lo lo
  refine VS.icmp_eq C (tgt := 1230) (by decide) dL_452 (fun _ => ?_) (fun z => absurd rfl z)
  exact VS.widen (by decide) (by decide) (G _ _ hx3 hm3)
theorem law_step (C : LCx p s m meth c E b L xs) (hL2 : L ≤ 3072) {i : Nat} (hi6 : i + 6 ≤ L) (G : LG p l e s m below meth c E b i) (H : AI l qX5_step qX6_step [.int (xs (i + 1)), .int (xs (i + 2))]) {S : SS} {h : PH} (hx : RX S h) (hm : RM S h) : VS p l e s m below meth c E b 457 (lls i) [] h 200 20000 := by
  obtain ⟨d1, d2, ans, nx, b1, b2, HX, HM⟩ := H
  refine VS.aload_n C 2 rfl rfl dL_457 ?_
  refine VS.aload_nS C 3 rfl rfl dL_458 ?_
  refine VS.iload_n C 0 rfl rfl dL_459 ?_
  refine VS.iconst C (v := 1) (by decide) dL_460 ?_
  refine VS.iadd C dL_461 ?_
  refine VS.topi (nI_k i 1 rfl) ?_
  refine VS.sld C (j := i + 1) (by omega) hL2 dL_462 ?_
  refine VS.aload_nS C 3 rfl rfl dL_463 ?_
  refine VS.iload_n C 0 rfl rfl dL_464 ?_
  refine VS.iconst C (v := 2) (by decide) dL_465 ?_
  refine VS.iadd C dL_466 ?_
  refine VS.topi (nI_k i 2 rfl) ?_
  refine VS.sld C (j := i + 2) (by omega) hL2 dL_467 ?_
  refine VS.callV C [.int (xs (i + 1)), .int (xs (i + 2))] (HX S h hx) hx.2.2.1 rfl jX5_step ml_L_60 rfl (by decide) b1 (Nat.le_of_ble_eq_true rfl) (Nat.le_of_ble_eq_true rfl) dL_468 (fun v hh z => ?_)
  obtain ⟨rfl, hx2, hi⟩ := z
  have hm2 := hm.hi hi
  obtain ⟨fs, hfs⟩ := hm2.obj
  refine VS.aload_n C 1 rfl rfl dL_471 ?_
  refine VS.aload_nS C 3 rfl rfl dL_472 ?_
  refine VS.iload_n C 0 rfl rfl dL_473 ?_
  refine VS.iconst C (v := 1) (by decide) dL_474 ?_
  refine VS.iadd C dL_475 ?_
  refine VS.topi (nI_k i 1 rfl) ?_
  refine VS.sld C (j := i + 1) (by omega) hL2 dL_476 ?_
  refine VS.aload_nS C 3 rfl rfl dL_477 ?_
  refine VS.iload_n C 0 rfl rfl dL_478 ?_
  refine VS.iconst C (v := 2) (by decide) dL_479 ?_
  refine VS.iadd C dL_480 ?_
  refine VS.topi (nI_k i 2 rfl) ?_
  refine VS.sld C (j := i + 2) (by omega) hL2 dL_481 ?_
  refine VS.callV C [.int (xs (i + 1)), .int (xs (i + 2))] (HM S hh hm2) hfs rfl jX6_step ml_L_63 rfl (by simp [Value.category]) b2 (Nat.le_of_ble_eq_true rfl) (Nat.le_of_ble_eq_true rfl) dL_482 (fun v h3 z => ?_)
  obtain ⟨rfl, hm3, lo⟩ := z
  have hx3 := hx2.lo lo
  refine VS.icmp_eq C (tgt := 1230) (by decide) dL_485 (fun _ => ?_) (fun z => absurd rfl z)
  exact VS.widen (by decide) (by decide) (G _ _ hx3 hm3)
theorem law_mapped (C : LCx p s m meth c E b L xs) (hL2 : L ≤ 3072) {i : Nat} (hi6 : i + 6 ≤ L) (G : LG p l e s m below meth c E b i) (H : AI l qX5_mapped qX6_mapped [.int (xs (i + 1)), .int (xs (i + 2))]) {S : SS} {h : PH} (hx : RX S h) (hm : RM S h) : VS p l e s m below meth c E b 490 (lls i) [] h 200 20000 := by
  obtain ⟨d1, d2, ans, nx, b1, b2, HX, HM⟩ := H
  refine VS.aload_n C 2 rfl rfl dL_490 ?_
  refine VS.aload_nS C 3 rfl rfl dL_491 ?_
  refine VS.iload_n C 0 rfl rfl dL_492 ?_
  refine VS.iconst C (v := 1) (by decide) dL_493 ?_
  refine VS.iadd C dL_494 ?_
  refine VS.topi (nI_k i 1 rfl) ?_
  refine VS.sld C (j := i + 1) (by omega) hL2 dL_495 ?_
  refine VS.aload_nS C 3 rfl rfl dL_496 ?_
  refine VS.iload_n C 0 rfl rfl dL_497 ?_
  refine VS.iconst C (v := 2) (by decide) dL_498 ?_
  refine VS.iadd C dL_499 ?_
  refine VS.topi (nI_k i 2 rfl) ?_
  refine VS.sld C (j := i + 2) (by omega) hL2 dL_500 ?_
  refine VS.callV C [.int (xs (i + 1)), .int (xs (i + 2))] (HX S h hx) hx.2.2.1 rfl jX5_mapped ml_L_64 rfl (by decide) b1 (Nat.le_of_ble_eq_true rfl) (Nat.le_of_ble_eq_true rfl) dL_501 (fun v hh z => ?_)
  obtain ⟨rfl, hx2, hi⟩ := z
  have hm2 := hm.hi hi
  obtain ⟨fs, hfs⟩ := hm2.obj
  refine VS.aload_n C 1 rfl rfl dL_504 ?_
  refine VS.aload_nS C 3 rfl rfl dL_505 ?_
  refine VS.iload_n C 0 rfl rfl dL_506 ?_
  refine VS.iconst C (v := 1) (by decide) dL_507 ?_
  refine VS.iadd C dL_508 ?_
  refine VS.topi (nI_k i 1 rfl) ?_
  refine VS.sld C (j := i + 1) (by omega) hL2 dL_509 ?_
  refine VS.aload_nS C 3 rfl rfl dL_510 ?_
  refine VS.iload_n C 0 rfl rfl dL_511 ?_
  refine VS.iconst C (v := 2) (by decide) dL_512 ?_
  refine VS.iadd C dL_513 ?_
  refine VS.topi (nI_k i 2 rfl) ?_
  refine VS.sld C (j := i + 2) (by omega) hL2 dL_514 ?_
  refine VS.callV C [.int (xs (i + 1)), .int (xs (i + 2))] (HM S hh hm2) hfs rfl jX6_mapped ml_L_67 rfl (by simp [Value.category]) b2 (Nat.le_of_ble_eq_true rfl) (Nat.le_of_ble_eq_true rfl) dL_515 (fun v h3 z => ?_)
  obtain ⟨rfl, hm3, lo⟩ := z
  have hx3 := hx2.lo lo
  refine VS.icmp_eq C (tgt := 1230) (by decide) dL_518 (fun _ => ?_) (fun z => absurd rfl z)
  exact VS.widen (by decide) (by decide) (G _ _ hx3 hm3)
theorem law_label (C : LCx p s m meth c E b L xs) (hL2 : L ≤ 3072) {i : Nat} (hi6 : i + 6 ≤ L) (G : LG p l e s m below meth c E b i) (H : AI l qX5_label qX6_label [.int (xs (i + 1)), .int (xs (i + 2))]) {S : SS} {h : PH} (hx : RX S h) (hm : RM S h) : VS p l e s m below meth c E b 523 (lls i) [] h 200 20000 := by
  obtain ⟨d1, d2, ans, nx, b1, b2, HX, HM⟩ := H
  refine VS.aload_n C 2 rfl rfl dL_523 ?_
  refine VS.aload_nS C 3 rfl rfl dL_524 ?_
  refine VS.iload_n C 0 rfl rfl dL_525 ?_
  refine VS.iconst C (v := 1) (by decide) dL_526 ?_
  refine VS.iadd C dL_527 ?_
  refine VS.topi (nI_k i 1 rfl) ?_
  refine VS.sld C (j := i + 1) (by omega) hL2 dL_528 ?_
  refine VS.aload_nS C 3 rfl rfl dL_529 ?_
  refine VS.iload_n C 0 rfl rfl dL_530 ?_
  refine VS.iconst C (v := 2) (by decide) dL_531 ?_
  refine VS.iadd C dL_532 ?_
  refine VS.topi (nI_k i 2 rfl) ?_
  refine VS.sld C (j := i + 2) (by omega) hL2 dL_533 ?_
  refine VS.callV C [.int (xs (i + 1)), .int (xs (i + 2))] (HX S h hx) hx.2.2.1 rfl jX5_label ml_L_68 rfl (by decide) b1 (Nat.le_of_ble_eq_true rfl) (Nat.le_of_ble_eq_true rfl) dL_534 (fun v hh z => ?_)
  obtain ⟨rfl, hx2, hi⟩ := z
  have hm2 := hm.hi hi
  obtain ⟨fs, hfs⟩ := hm2.obj
  refine VS.aload_n C 1 rfl rfl dL_537 ?_
  refine VS.aload_nS C 3 rfl rfl dL_538 ?_
  refine VS.iload_n C 0 rfl rfl dL_539 ?_
  refine VS.iconst C (v := 1) (by decide) dL_540 ?_
  refine VS.iadd C dL_541 ?_
  refine VS.topi (nI_k i 1 rfl) ?_
  refine VS.sld C (j := i + 1) (by omega) hL2 dL_542 ?_
  refine VS.aload_nS C 3 rfl rfl dL_543 ?_
  refine VS.iload_n C 0 rfl rfl dL_544 ?_
  refine VS.iconst C (v := 2) (by decide) dL_545 ?_
  refine VS.iadd C dL_546 ?_
  refine VS.topi (nI_k i 2 rfl) ?_
  refine VS.sld C (j := i + 2) (by omega) hL2 dL_547 ?_
  refine VS.callV C [.int (xs (i + 1)), .int (xs (i + 2))] (HM S hh hm2) hfs rfl jX6_label ml_L_71 rfl (by simp [Value.category]) b2 (Nat.le_of_ble_eq_true rfl) (Nat.le_of_ble_eq_true rfl) dL_548 (fun v h3 z => ?_)
  obtain ⟨rfl, hm3, lo⟩ := z
  have hx3 := hx2.lo lo
  refine VS.icmp_eq C (tgt := 1230) (by decide) dL_551 (fun _ => ?_) (fun z => absurd rfl z)
  exact VS.widen (by decide) (by decide) (G _ _ hx3 hm3)
theorem law_written (C : LCx p s m meth c E b L xs) (hL2 : L ≤ 3072) {i : Nat} (hi6 : i + 6 ≤ L) (G : LG p l e s m below meth c E b i) (H : AI l qX5_written qX6_written [.int (xs (i + 1))]) {S : SS} {h : PH} (hx : RX S h) (hm : RM S h) : VS p l e s m below meth c E b 556 (lls i) [] h 200 20000 := by
  obtain ⟨d1, d2, ans, nx, b1, b2, HX, HM⟩ := H
  refine VS.aload_n C 2 rfl rfl dL_556 ?_
  refine VS.aload_nS C 3 rfl rfl dL_557 ?_
  refine VS.iload_n C 0 rfl rfl dL_558 ?_
  refine VS.iconst C (v := 1) (by decide) dL_559 ?_
  refine VS.iadd C dL_560 ?_
  refine VS.topi (nI_k i 1 rfl) ?_
  refine VS.sld C (j := i + 1) (by omega) hL2 dL_561 ?_
  refine VS.callV C [.int (xs (i + 1))] (HX S h hx) hx.2.2.1 rfl jX5_written ml_L_72 rfl (by decide) b1 (Nat.le_of_ble_eq_true rfl) (Nat.le_of_ble_eq_true rfl) dL_562 (fun v hh z => ?_)
  obtain ⟨rfl, hx2, hi⟩ := z
  have hm2 := hm.hi hi
  obtain ⟨fs, hfs⟩ := hm2.obj
  refine VS.aload_n C 1 rfl rfl dL_565 ?_
  refine VS.aload_nS C 3 rfl rfl dL_566 ?_
  refine VS.iload_n C 0 rfl rfl dL_567 ?_
  refine VS.iconst C (v := 1) (by decide) dL_568 ?_
  refine VS.iadd C dL_569 ?_
  refine VS.topi (nI_k i 1 rfl) ?_
  refine VS.sld C (j := i + 1) (by omega) hL2 dL_570 ?_
  refine VS.callV C [.int (xs (i + 1))] (HM S hh hm2) hfs rfl jX6_written ml_L_75 rfl (by simp [Value.category]) b2 (Nat.le_of_ble_eq_true rfl) (Nat.le_of_ble_eq_true rfl) dL_571 (fun v h3 z => ?_)
  obtain ⟨rfl, hm3, lo⟩ := z
  have hx3 := hx2.lo lo
  refine VS.icmp_eq C (tgt := 1230) (by decide) dL_574 (fun _ => ?_) (fun z => absurd rfl z)
  exact VS.widen (by decide) (by decide) (G _ _ hx3 hm3)
theorem law_counted (C : LCx p s m meth c E b L xs) (hL2 : L ≤ 3072) {i : Nat} (hi6 : i + 6 ≤ L) (G : LG p l e s m below meth c E b i) (H : AI l qX5_counted qX6_counted [.int (xs (i + 1)), .int (xs (i + 2)), .int (xs (i + 3)), .int (xs (i + 4))]) {S : SS} {h : PH} (hx : RX S h) (hm : RM S h) : VS p l e s m below meth c E b 579 (lls i) [] h 200 20000 := by
  obtain ⟨d1, d2, ans, nx, b1, b2, HX, HM⟩ := H
  refine VS.aload_n C 2 rfl rfl dL_579 ?_
  refine VS.aload_nS C 3 rfl rfl dL_580 ?_
  refine VS.iload_n C 0 rfl rfl dL_581 ?_
  refine VS.iconst C (v := 1) (by decide) dL_582 ?_
  refine VS.iadd C dL_583 ?_
  refine VS.topi (nI_k i 1 rfl) ?_
  refine VS.sld C (j := i + 1) (by omega) hL2 dL_584 ?_
  refine VS.aload_nS C 3 rfl rfl dL_585 ?_
  refine VS.iload_n C 0 rfl rfl dL_586 ?_
  refine VS.iconst C (v := 2) (by decide) dL_587 ?_
  refine VS.iadd C dL_588 ?_
  refine VS.topi (nI_k i 2 rfl) ?_
  refine VS.sld C (j := i + 2) (by omega) hL2 dL_589 ?_
  refine VS.aload_nS C 3 rfl rfl dL_590 ?_
  refine VS.iload_n C 0 rfl rfl dL_591 ?_
  refine VS.iconst C (v := 3) (by decide) dL_592 ?_
  refine VS.iadd C dL_593 ?_
  refine VS.topi (nI_k i 3 rfl) ?_
  refine VS.sld C (j := i + 3) (by omega) hL2 dL_594 ?_
  refine VS.aload_nS C 3 rfl rfl dL_595 ?_
  refine VS.iload_n C 0 rfl rfl dL_596 ?_
  refine VS.iconst C (v := 4) (by decide) dL_597 ?_
  refine VS.iadd C dL_598 ?_
  refine VS.topi (nI_k i 4 rfl) ?_
  refine VS.sld C (j := i + 4) (by omega) hL2 dL_599 ?_
  refine VS.callV C [.int (xs (i + 1)), .int (xs (i + 2)), .int (xs (i + 3)), .int (xs (i + 4))] (HX S h hx) hx.2.2.1 rfl jX5_counted ml_L_76 rfl (by decide) b1 (Nat.le_of_ble_eq_true rfl) (Nat.le_of_ble_eq_true rfl) dL_600 (fun v hh z => ?_)
  obtain ⟨rfl, hx2, hi⟩ := z
  have hm2 := hm.hi hi
  obtain ⟨fs, hfs⟩ := hm2.obj
  refine VS.aload_n C 1 rfl rfl dL_603 ?_
  refine VS.aload_nS C 3 rfl rfl dL_604 ?_
  refine VS.iload_n C 0 rfl rfl dL_605 ?_
  refine VS.iconst C (v := 1) (by decide) dL_606 ?_
  refine VS.iadd C dL_607 ?_
  refine VS.topi (nI_k i 1 rfl) ?_
  refine VS.sld C (j := i + 1) (by omega) hL2 dL_608 ?_
  refine VS.aload_nS C 3 rfl rfl dL_609 ?_
  refine VS.iload_n C 0 rfl rfl dL_610 ?_
  refine VS.iconst C (v := 2) (by decide) dL_611 ?_
  refine VS.iadd C dL_612 ?_
  refine VS.topi (nI_k i 2 rfl) ?_
  refine VS.sld C (j := i + 2) (by omega) hL2 dL_613 ?_
  refine VS.aload_nS C 3 rfl rfl dL_614 ?_
  refine VS.iload_n C 0 rfl rfl dL_615 ?_
  refine VS.iconst C (v := 3) (by decide) dL_616 ?_
  refine VS.iadd C dL_617 ?_
  refine VS.topi (nI_k i 3 rfl) ?_
  refine VS.sld C (j := i + 3) (by omega) hL2 dL_618 ?_
  refine VS.aload_nS C 3 rfl rfl dL_619 ?_
  refine VS.iload_n C 0 rfl rfl dL_620 ?_
  refine VS.iconst C (v := 4) (by decide) dL_621 ?_
  refine VS.iadd C dL_622 ?_
  refine VS.topi (nI_k i 4 rfl) ?_
  refine VS.sld C (j := i + 4) (by omega) hL2 dL_623 ?_
  refine VS.callV C [.int (xs (i + 1)), .int (xs (i + 2)), .int (xs (i + 3)), .int (xs (i + 4))] (HM S hh hm2) hfs rfl jX6_counted ml_L_80 rfl (by simp [Value.category]) b2 (Nat.le_of_ble_eq_true rfl) (Nat.le_of_ble_eq_true rfl) dL_624 (fun v h3 z => ?_)
  obtain ⟨rfl, hm3, lo⟩ := z
  have hx3 := hx2.lo lo
  refine VS.icmp_eq C (tgt := 1230) (by decide) dL_627 (fun _ => ?_) (fun z => absurd rfl z)
  exact VS.widen (by decide) (by decide) (G _ _ hx3 hm3)
theorem law_sum (C : LCx p s m meth c E b L xs) (hL2 : L ≤ 3072) {i : Nat} (hi6 : i + 6 ≤ L) (G : LG p l e s m below meth c E b i) (H : AL l qX5_sum qX6_sum [.int (xs (i + 1)), .int (xs (i + 2)), .int (xs (i + 3)), .int (xs (i + 4))]) {S : SS} {h : PH} (hx : RX S h) (hm : RM S h) : VS p l e s m below meth c E b 632 (lls i) [] h 200 20000 := by
  obtain ⟨d1, d2, ans, nx, b1, b2, HX, HM⟩ := H
  refine VS.aload_n C 2 rfl rfl dL_632 ?_
  refine VS.aload_nS C 3 rfl rfl dL_633 ?_
  refine VS.iload_n C 0 rfl rfl dL_634 ?_
  refine VS.iconst C (v := 1) (by decide) dL_635 ?_
  refine VS.iadd C dL_636 ?_
  refine VS.topi (nI_k i 1 rfl) ?_
  refine VS.sld C (j := i + 1) (by omega) hL2 dL_637 ?_
  refine VS.aload_nS C 3 rfl rfl dL_638 ?_
  refine VS.iload_n C 0 rfl rfl dL_639 ?_
  refine VS.iconst C (v := 2) (by decide) dL_640 ?_
  refine VS.iadd C dL_641 ?_
  refine VS.topi (nI_k i 2 rfl) ?_
  refine VS.sld C (j := i + 2) (by omega) hL2 dL_642 ?_
  refine VS.aload_nS C 3 rfl rfl dL_643 ?_
  refine VS.iload_n C 0 rfl rfl dL_644 ?_
  refine VS.iconst C (v := 3) (by decide) dL_645 ?_
  refine VS.iadd C dL_646 ?_
  refine VS.topi (nI_k i 3 rfl) ?_
  refine VS.sld C (j := i + 3) (by omega) hL2 dL_647 ?_
  refine VS.aload_nS C 3 rfl rfl dL_648 ?_
  refine VS.iload_n C 0 rfl rfl dL_649 ?_
  refine VS.iconst C (v := 4) (by decide) dL_650 ?_
  refine VS.iadd C dL_651 ?_
  refine VS.topi (nI_k i 4 rfl) ?_
  refine VS.sld C (j := i + 4) (by omega) hL2 dL_652 ?_
  refine VS.callV C [.int (xs (i + 1)), .int (xs (i + 2)), .int (xs (i + 3)), .int (xs (i + 4))] (HX S h hx) hx.2.2.1 rfl jX5_sum ml_L_81 rfl (by decide) b1 (Nat.le_of_ble_eq_true rfl) (Nat.le_of_ble_eq_true rfl) dL_653 (fun v hh z => ?_)
  obtain ⟨rfl, hx2, hi⟩ := z
  have hm2 := hm.hi hi
  obtain ⟨fs, hfs⟩ := hm2.obj
  refine VS.aload_n C 1 rfl rfl dL_656 ?_
  refine VS.aload_nS C 3 rfl rfl dL_657 ?_
  refine VS.iload_n C 0 rfl rfl dL_658 ?_
  refine VS.iconst C (v := 1) (by decide) dL_659 ?_
  refine VS.iadd C dL_660 ?_
  refine VS.topi (nI_k i 1 rfl) ?_
  refine VS.sld C (j := i + 1) (by omega) hL2 dL_661 ?_
  refine VS.aload_nS C 3 rfl rfl dL_662 ?_
  refine VS.iload_n C 0 rfl rfl dL_663 ?_
  refine VS.iconst C (v := 2) (by decide) dL_664 ?_
  refine VS.iadd C dL_665 ?_
  refine VS.topi (nI_k i 2 rfl) ?_
  refine VS.sld C (j := i + 2) (by omega) hL2 dL_666 ?_
  refine VS.aload_nS C 3 rfl rfl dL_667 ?_
  refine VS.iload_n C 0 rfl rfl dL_668 ?_
  refine VS.iconst C (v := 3) (by decide) dL_669 ?_
  refine VS.iadd C dL_670 ?_
  refine VS.topi (nI_k i 3 rfl) ?_
  refine VS.sld C (j := i + 3) (by omega) hL2 dL_671 ?_
  refine VS.aload_nS C 3 rfl rfl dL_672 ?_
  refine VS.iload_n C 0 rfl rfl dL_673 ?_
  refine VS.iconst C (v := 4) (by decide) dL_674 ?_
  refine VS.iadd C dL_675 ?_
  refine VS.topi (nI_k i 4 rfl) ?_
  refine VS.sld C (j := i + 4) (by omega) hL2 dL_676 ?_
  refine VS.callV C [.int (xs (i + 1)), .int (xs (i + 2)), .int (xs (i + 3)), .int (xs (i + 4))] (HM S hh hm2) hfs rfl jX6_sum ml_L_85 rfl (by simp [Value.category]) b2 (Nat.le_of_ble_eq_true rfl) (Nat.le_of_ble_eq_true rfl) dL_677 (fun v h3 z => ?_)
  obtain ⟨rfl, hm3, lo⟩ := z
  have hx3 := hx2.lo lo
  refine VS.lcmp C dL_680 ?_
  refine VS.topi (lg_self _) ?_
  refine VS.if_eq C (tgt := 1230) (by decide) dL_681 (fun _ => ?_) (fun z => absurd rfl z)
  exact VS.widen (by decide) (by decide) (G _ _ hx3 hm3)
theorem law_ways (C : LCx p s m meth c E b L xs) (hL2 : L ≤ 3072) {i : Nat} (hi6 : i + 6 ≤ L) (G : LG p l e s m below meth c E b i) (H : AI l qX5_ways qX6_ways [.int (xs (i + 1))]) {S : SS} {h : PH} (hx : RX S h) (hm : RM S h) : VS p l e s m below meth c E b 686 (lls i) [] h 200 20000 := by
  obtain ⟨d1, d2, ans, nx, b1, b2, HX, HM⟩ := H
  refine VS.aload_n C 2 rfl rfl dL_686 ?_
  refine VS.aload_nS C 3 rfl rfl dL_687 ?_
  refine VS.iload_n C 0 rfl rfl dL_688 ?_
  refine VS.iconst C (v := 1) (by decide) dL_689 ?_
  refine VS.iadd C dL_690 ?_
  refine VS.topi (nI_k i 1 rfl) ?_
  refine VS.sld C (j := i + 1) (by omega) hL2 dL_691 ?_
  refine VS.callV C [.int (xs (i + 1))] (HX S h hx) hx.2.2.1 rfl jX5_ways ml_L_86 rfl (by decide) b1 (Nat.le_of_ble_eq_true rfl) (Nat.le_of_ble_eq_true rfl) dL_692 (fun v hh z => ?_)
  obtain ⟨rfl, hx2, hi⟩ := z
  have hm2 := hm.hi hi
  obtain ⟨fs, hfs⟩ := hm2.obj
  refine VS.aload_n C 1 rfl rfl dL_695 ?_
  refine VS.aload_nS C 3 rfl rfl dL_696 ?_
  refine VS.iload_n C 0 rfl rfl dL_697 ?_
  refine VS.iconst C (v := 1) (by decide) dL_698 ?_
  refine VS.iadd C dL_699 ?_
  refine VS.topi (nI_k i 1 rfl) ?_
  refine VS.sld C (j := i + 1) (by omega) hL2 dL_700 ?_
  refine VS.callV C [.int (xs (i + 1))] (HM S hh hm2) hfs rfl jX6_ways ml_L_89 rfl (by simp [Value.category]) b2 (Nat.le_of_ble_eq_true rfl) (Nat.le_of_ble_eq_true rfl) dL_701 (fun v h3 z => ?_)
  obtain ⟨rfl, hm3, lo⟩ := z
  have hx3 := hx2.lo lo
  refine VS.icmp_eq C (tgt := 1230) (by decide) dL_704 (fun _ => ?_) (fun z => absurd rfl z)
  exact VS.widen (by decide) (by decide) (G _ _ hx3 hm3)
theorem law_see (C : LCx p s m meth c E b L xs) (hL2 : L ≤ 3072) {i : Nat} (hi6 : i + 6 ≤ L) (G : LG p l e s m below meth c E b i) (H : AI l qX5_see qX6_see [.int (xs (i + 1)), .int (xs (i + 2))]) {S : SS} {h : PH} (hx : RX S h) (hm : RM S h) : VS p l e s m below meth c E b 709 (lls i) [] h 200 20000 := by
  obtain ⟨d1, d2, ans, nx, b1, b2, HX, HM⟩ := H
  refine VS.aload_n C 2 rfl rfl dL_709 ?_
  refine VS.aload_nS C 3 rfl rfl dL_710 ?_
  refine VS.iload_n C 0 rfl rfl dL_711 ?_
  refine VS.iconst C (v := 1) (by decide) dL_712 ?_
  refine VS.iadd C dL_713 ?_
  refine VS.topi (nI_k i 1 rfl) ?_
  refine VS.sld C (j := i + 1) (by omega) hL2 dL_714 ?_
  refine VS.aload_nS C 3 rfl rfl dL_715 ?_
  refine VS.iload_n C 0 rfl rfl dL_716 ?_
  refine VS.iconst C (v := 2) (by decide) dL_717 ?_
  refine VS.iadd C dL_718 ?_
  refine VS.topi (nI_k i 2 rfl) ?_
  refine VS.sld C (j := i + 2) (by omega) hL2 dL_719 ?_
  refine VS.callV C [.int (xs (i + 1)), .int (xs (i + 2))] (HX S h hx) hx.2.2.1 rfl jX5_see ml_L_90 rfl (by decide) b1 (Nat.le_of_ble_eq_true rfl) (Nat.le_of_ble_eq_true rfl) dL_720 (fun v hh z => ?_)
  obtain ⟨rfl, hx2, hi⟩ := z
  have hm2 := hm.hi hi
  obtain ⟨fs, hfs⟩ := hm2.obj
  refine VS.aload_n C 1 rfl rfl dL_723 ?_
  refine VS.aload_nS C 3 rfl rfl dL_724 ?_
  refine VS.iload_n C 0 rfl rfl dL_725 ?_
  refine VS.iconst C (v := 1) (by decide) dL_726 ?_
  refine VS.iadd C dL_727 ?_
  refine VS.topi (nI_k i 1 rfl) ?_
  refine VS.sld C (j := i + 1) (by omega) hL2 dL_728 ?_
  refine VS.aload_nS C 3 rfl rfl dL_729 ?_
  refine VS.iload_n C 0 rfl rfl dL_730 ?_
  refine VS.iconst C (v := 2) (by decide) dL_731 ?_
  refine VS.iadd C dL_732 ?_
  refine VS.topi (nI_k i 2 rfl) ?_
  refine VS.sld C (j := i + 2) (by omega) hL2 dL_733 ?_
  refine VS.callV C [.int (xs (i + 1)), .int (xs (i + 2))] (HM S hh hm2) hfs rfl jX6_see ml_L_93 rfl (by simp [Value.category]) b2 (Nat.le_of_ble_eq_true rfl) (Nat.le_of_ble_eq_true rfl) dL_734 (fun v h3 z => ?_)
  obtain ⟨rfl, hm3, lo⟩ := z
  have hx3 := hx2.lo lo
  refine VS.icmp_eq C (tgt := 1230) (by decide) dL_737 (fun _ => ?_) (fun z => absurd rfl z)
  exact VS.widen (by decide) (by decide) (G _ _ hx3 hm3)
theorem law_fits (C : LCx p s m meth c E b L xs) (hL2 : L ≤ 3072) {i : Nat} (hi6 : i + 6 ≤ L) (G : LG p l e s m below meth c E b i) (H : AI l qX5_fits qX6_fits []) {S : SS} {h : PH} (hx : RX S h) (hm : RM S h) : VS p l e s m below meth c E b 742 (lls i) [] h 200 20000 := by
  obtain ⟨d1, d2, ans, nx, b1, b2, HX, HM⟩ := H
  refine VS.aload_n C 2 rfl rfl dL_742 ?_
  refine VS.callV C [] (HX S h hx) hx.2.2.1 rfl jX5_fits ml_L_94 rfl (by decide) b1 (Nat.le_of_ble_eq_true rfl) (Nat.le_of_ble_eq_true rfl) dL_743 (fun v hh z => ?_)
  obtain ⟨rfl, hx2, hi⟩ := z
  have hm2 := hm.hi hi
  obtain ⟨fs, hfs⟩ := hm2.obj
  refine VS.aload_n C 1 rfl rfl dL_746 ?_
  refine VS.callV C [] (HM S hh hm2) hfs rfl jX6_fits ml_L_97 rfl (by simp [Value.category]) b2 (Nat.le_of_ble_eq_true rfl) (Nat.le_of_ble_eq_true rfl) dL_747 (fun v h3 z => ?_)
  obtain ⟨rfl, hm3, lo⟩ := z
  have hx3 := hx2.lo lo
  refine VS.icmp_eq C (tgt := 1230) (by decide) dL_750 (fun _ => ?_) (fun z => absurd rfl z)
  exact VS.widen (by decide) (by decide) (G _ _ hx3 hm3)
theorem law_odds (C : LCx p s m meth c E b L xs) (hL2 : L ≤ 3072) {i : Nat} (hi6 : i + 6 ≤ L) (G : LG p l e s m below meth c E b i) (H : AL l qX5_odds qX6_odds [.int (xs (i + 1)), .int (xs (i + 2)), .int (xs (i + 3))]) {S : SS} {h : PH} (hx : RX S h) (hm : RM S h) : VS p l e s m below meth c E b 755 (lls i) [] h 200 20000 := by
  obtain ⟨d1, d2, ans, nx, b1, b2, HX, HM⟩ := H
  refine VS.aload_n C 2 rfl rfl dL_755 ?_
  refine VS.aload_nS C 3 rfl rfl dL_756 ?_
  refine VS.iload_n C 0 rfl rfl dL_757 ?_
  refine VS.iconst C (v := 1) (by decide) dL_758 ?_
  refine VS.iadd C dL_759 ?_
  refine VS.topi (nI_k i 1 rfl) ?_
  refine VS.sld C (j := i + 1) (by omega) hL2 dL_760 ?_
  refine VS.aload_nS C 3 rfl rfl dL_761 ?_
  refine VS.iload_n C 0 rfl rfl dL_762 ?_
  refine VS.iconst C (v := 2) (by decide) dL_763 ?_
  refine VS.iadd C dL_764 ?_
  refine VS.topi (nI_k i 2 rfl) ?_
  refine VS.sld C (j := i + 2) (by omega) hL2 dL_765 ?_
  refine VS.aload_nS C 3 rfl rfl dL_766 ?_
  refine VS.iload_n C 0 rfl rfl dL_767 ?_
  refine VS.iconst C (v := 3) (by decide) dL_768 ?_
  refine VS.iadd C dL_769 ?_
  refine VS.topi (nI_k i 3 rfl) ?_
  refine VS.sld C (j := i + 3) (by omega) hL2 dL_770 ?_
  refine VS.callV C [.int (xs (i + 1)), .int (xs (i + 2)), .int (xs (i + 3))] (HX S h hx) hx.2.2.1 rfl jX5_odds ml_L_98 rfl (by decide) b1 (Nat.le_of_ble_eq_true rfl) (Nat.le_of_ble_eq_true rfl) dL_771 (fun v hh z => ?_)
  obtain ⟨rfl, hx2, hi⟩ := z
  have hm2 := hm.hi hi
  obtain ⟨fs, hfs⟩ := hm2.obj
  refine VS.aload_n C 1 rfl rfl dL_774 ?_
  refine VS.aload_nS C 3 rfl rfl dL_775 ?_
  refine VS.iload_n C 0 rfl rfl dL_776 ?_
  refine VS.iconst C (v := 1) (by decide) dL_777 ?_
  refine VS.iadd C dL_778 ?_
  refine VS.topi (nI_k i 1 rfl) ?_
  refine VS.sld C (j := i + 1) (by omega) hL2 dL_779 ?_
  refine VS.aload_nS C 3 rfl rfl dL_780 ?_
  refine VS.iload_n C 0 rfl rfl dL_781 ?_
  refine VS.iconst C (v := 2) (by decide) dL_782 ?_
  refine VS.iadd C dL_783 ?_
  refine VS.topi (nI_k i 2 rfl) ?_
  refine VS.sld C (j := i + 2) (by omega) hL2 dL_784 ?_
  refine VS.aload_nS C 3 rfl rfl dL_785 ?_
  refine VS.iload_n C 0 rfl rfl dL_786 ?_
  refine VS.iconst C (v := 3) (by decide) dL_787 ?_
  refine VS.iadd C dL_788 ?_
  refine VS.topi (nI_k i 3 rfl) ?_
  refine VS.sld C (j := i + 3) (by omega) hL2 dL_789 ?_
  refine VS.callV C [.int (xs (i + 1)), .int (xs (i + 2)), .int (xs (i + 3))] (HM S hh hm2) hfs rfl jX6_odds ml_L_102 rfl (by simp [Value.category]) b2 (Nat.le_of_ble_eq_true rfl) (Nat.le_of_ble_eq_true rfl) dL_790 (fun v h3 z => ?_)
  obtain ⟨rfl, hm3, lo⟩ := z
  have hx3 := hx2.lo lo
  refine VS.lcmp C dL_793 ?_
  refine VS.topi (lg_self _) ?_
  refine VS.if_eq C (tgt := 1230) (by decide) dL_794 (fun _ => ?_) (fun z => absurd rfl z)
  exact VS.widen (by decide) (by decide) (G _ _ hx3 hm3)
theorem law_mean (C : LCx p s m meth c E b L xs) (hL2 : L ≤ 3072) {i : Nat} (hi6 : i + 6 ≤ L) (G : LG p l e s m below meth c E b i) (H : AL l qX5_mean qX6_mean [.int (xs (i + 1)), .int (xs (i + 2))]) {S : SS} {h : PH} (hx : RX S h) (hm : RM S h) : VS p l e s m below meth c E b 799 (lls i) [] h 200 20000 := by
  obtain ⟨d1, d2, ans, nx, b1, b2, HX, HM⟩ := H
  refine VS.aload_n C 2 rfl rfl dL_799 ?_
  refine VS.aload_nS C 3 rfl rfl dL_800 ?_
  refine VS.iload_n C 0 rfl rfl dL_801 ?_
  refine VS.iconst C (v := 1) (by decide) dL_802 ?_
  refine VS.iadd C dL_803 ?_
  refine VS.topi (nI_k i 1 rfl) ?_
  refine VS.sld C (j := i + 1) (by omega) hL2 dL_804 ?_
  refine VS.aload_nS C 3 rfl rfl dL_805 ?_
  refine VS.iload_n C 0 rfl rfl dL_806 ?_
  refine VS.iconst C (v := 2) (by decide) dL_807 ?_
  refine VS.iadd C dL_808 ?_
  refine VS.topi (nI_k i 2 rfl) ?_
  refine VS.sld C (j := i + 2) (by omega) hL2 dL_809 ?_
  refine VS.callV C [.int (xs (i + 1)), .int (xs (i + 2))] (HX S h hx) hx.2.2.1 rfl jX5_mean ml_L_103 rfl (by decide) b1 (Nat.le_of_ble_eq_true rfl) (Nat.le_of_ble_eq_true rfl) dL_810 (fun v hh z => ?_)
  obtain ⟨rfl, hx2, hi⟩ := z
  have hm2 := hm.hi hi
  obtain ⟨fs, hfs⟩ := hm2.obj
  refine VS.aload_n C 1 rfl rfl dL_813 ?_
  refine VS.aload_nS C 3 rfl rfl dL_814 ?_
  refine VS.iload_n C 0 rfl rfl dL_815 ?_
  refine VS.iconst C (v := 1) (by decide) dL_816 ?_
  refine VS.iadd C dL_817 ?_
  refine VS.topi (nI_k i 1 rfl) ?_
  refine VS.sld C (j := i + 1) (by omega) hL2 dL_818 ?_
  refine VS.aload_nS C 3 rfl rfl dL_819 ?_
  refine VS.iload_n C 0 rfl rfl dL_820 ?_
  refine VS.iconst C (v := 2) (by decide) dL_821 ?_
  refine VS.iadd C dL_822 ?_
  refine VS.topi (nI_k i 2 rfl) ?_
  refine VS.sld C (j := i + 2) (by omega) hL2 dL_823 ?_
  refine VS.callV C [.int (xs (i + 1)), .int (xs (i + 2))] (HM S hh hm2) hfs rfl jX6_mean ml_L_107 rfl (by simp [Value.category]) b2 (Nat.le_of_ble_eq_true rfl) (Nat.le_of_ble_eq_true rfl) dL_824 (fun v h3 z => ?_)
  obtain ⟨rfl, hm3, lo⟩ := z
  have hx3 := hx2.lo lo
  refine VS.lcmp C dL_827 ?_
  refine VS.topi (lg_self _) ?_
  refine VS.if_eq C (tgt := 1230) (by decide) dL_828 (fun _ => ?_) (fun z => absurd rfl z)
  exact VS.widen (by decide) (by decide) (G _ _ hx3 hm3)
theorem law_event (C : LCx p s m meth c E b L xs) (hL2 : L ≤ 3072) {i : Nat} (hi6 : i + 6 ≤ L) (G : LG p l e s m below meth c E b i) (H : AI l qX5_event qX6_event [.int (xs (i + 1)), .int (xs (i + 2))]) {S : SS} {h : PH} (hx : RX S h) (hm : RM S h) : VS p l e s m below meth c E b 833 (lls i) [] h 200 20000 := by
  obtain ⟨d1, d2, ans, nx, b1, b2, HX, HM⟩ := H
  refine VS.aload_n C 2 rfl rfl dL_833 ?_
  refine VS.aload_nS C 3 rfl rfl dL_834 ?_
  refine VS.iload_n C 0 rfl rfl dL_835 ?_
  refine VS.iconst C (v := 1) (by decide) dL_836 ?_
  refine VS.iadd C dL_837 ?_
  refine VS.topi (nI_k i 1 rfl) ?_
  refine VS.sld C (j := i + 1) (by omega) hL2 dL_838 ?_
  refine VS.aload_nS C 3 rfl rfl dL_839 ?_
  refine VS.iload_n C 0 rfl rfl dL_840 ?_
  refine VS.iconst C (v := 2) (by decide) dL_841 ?_
  refine VS.iadd C dL_842 ?_
  refine VS.topi (nI_k i 2 rfl) ?_
  refine VS.sld C (j := i + 2) (by omega) hL2 dL_843 ?_
  refine VS.callV C [.int (xs (i + 1)), .int (xs (i + 2))] (HX S h hx) hx.2.2.1 rfl jX5_event ml_L_108 rfl (by decide) b1 (Nat.le_of_ble_eq_true rfl) (Nat.le_of_ble_eq_true rfl) dL_844 (fun v hh z => ?_)
  obtain ⟨rfl, hx2, hi⟩ := z
  have hm2 := hm.hi hi
  obtain ⟨fs, hfs⟩ := hm2.obj
  refine VS.aload_n C 1 rfl rfl dL_847 ?_
  refine VS.aload_nS C 3 rfl rfl dL_848 ?_
  refine VS.iload_n C 0 rfl rfl dL_849 ?_
  refine VS.iconst C (v := 1) (by decide) dL_850 ?_
  refine VS.iadd C dL_851 ?_
  refine VS.topi (nI_k i 1 rfl) ?_
  refine VS.sld C (j := i + 1) (by omega) hL2 dL_852 ?_
  refine VS.aload_nS C 3 rfl rfl dL_853 ?_
  refine VS.iload_n C 0 rfl rfl dL_854 ?_
  refine VS.iconst C (v := 2) (by decide) dL_855 ?_
  refine VS.iadd C dL_856 ?_
  refine VS.topi (nI_k i 2 rfl) ?_
  refine VS.sld C (j := i + 2) (by omega) hL2 dL_857 ?_
  refine VS.callV C [.int (xs (i + 1)), .int (xs (i + 2))] (HM S hh hm2) hfs rfl jX6_event ml_L_111 rfl (by simp [Value.category]) b2 (Nat.le_of_ble_eq_true rfl) (Nat.le_of_ble_eq_true rfl) dL_858 (fun v h3 z => ?_)
  obtain ⟨rfl, hm3, lo⟩ := z
  have hx3 := hx2.lo lo
  refine VS.icmp_eq C (tgt := 1230) (by decide) dL_861 (fun _ => ?_) (fun z => absurd rfl z)
  exact VS.widen (by decide) (by decide) (G _ _ hx3 hm3)
theorem law_after (C : LCx p s m meth c E b L xs) (hL2 : L ≤ 3072) {i : Nat} (hi6 : i + 6 ≤ L) (G : LG p l e s m below meth c E b i) (H : AI l qX5_after qX6_after [.int (xs (i + 1))]) {S : SS} {h : PH} (hx : RX S h) (hm : RM S h) : VS p l e s m below meth c E b 866 (lls i) [] h 200 20000 := by
  obtain ⟨d1, d2, ans, nx, b1, b2, HX, HM⟩ := H
  refine VS.aload_n C 2 rfl rfl dL_866 ?_
  refine VS.aload_nS C 3 rfl rfl dL_867 ?_
  refine VS.iload_n C 0 rfl rfl dL_868 ?_
  refine VS.iconst C (v := 1) (by decide) dL_869 ?_
  refine VS.iadd C dL_870 ?_
  refine VS.topi (nI_k i 1 rfl) ?_
  refine VS.sld C (j := i + 1) (by omega) hL2 dL_871 ?_
  refine VS.callV C [.int (xs (i + 1))] (HX S h hx) hx.2.2.1 rfl jX5_after ml_L_112 rfl (by decide) b1 (Nat.le_of_ble_eq_true rfl) (Nat.le_of_ble_eq_true rfl) dL_872 (fun v hh z => ?_)
  obtain ⟨rfl, hx2, hi⟩ := z
  have hm2 := hm.hi hi
  obtain ⟨fs, hfs⟩ := hm2.obj
  refine VS.aload_n C 1 rfl rfl dL_875 ?_
  refine VS.aload_nS C 3 rfl rfl dL_876 ?_
  refine VS.iload_n C 0 rfl rfl dL_877 ?_
  refine VS.iconst C (v := 1) (by decide) dL_878 ?_
  refine VS.iadd C dL_879 ?_
  refine VS.topi (nI_k i 1 rfl) ?_
  refine VS.sld C (j := i + 1) (by omega) hL2 dL_880 ?_
  refine VS.callV C [.int (xs (i + 1))] (HM S hh hm2) hfs rfl jX6_after ml_L_115 rfl (by simp [Value.category]) b2 (Nat.le_of_ble_eq_true rfl) (Nat.le_of_ble_eq_true rfl) dL_881 (fun v h3 z => ?_)
  obtain ⟨rfl, hm3, lo⟩ := z
  have hx3 := hx2.lo lo
  refine VS.icmp_eq C (tgt := 1230) (by decide) dL_884 (fun _ => ?_) (fun z => absurd rfl z)
  exact VS.widen (by decide) (by decide) (G _ _ hx3 hm3)
theorem law_book (C : LCx p s m meth c E b L xs) (hL2 : L ≤ 3072) {i : Nat} (hi6 : i + 6 ≤ L) (G : LG p l e s m below meth c E b i) (H : AI l qX5_book qX6_book [.int (xs (i + 1)), .int (xs (i + 2))]) {S : SS} {h : PH} (hx : RX S h) (hm : RM S h) : VS p l e s m below meth c E b 889 (lls i) [] h 200 20000 := by
  obtain ⟨d1, d2, ans, nx, b1, b2, HX, HM⟩ := H
  refine VS.aload_n C 2 rfl rfl dL_889 ?_
  refine VS.aload_nS C 3 rfl rfl dL_890 ?_
  refine VS.iload_n C 0 rfl rfl dL_891 ?_
  refine VS.iconst C (v := 1) (by decide) dL_892 ?_
  refine VS.iadd C dL_893 ?_
  refine VS.topi (nI_k i 1 rfl) ?_
  refine VS.sld C (j := i + 1) (by omega) hL2 dL_894 ?_
  refine VS.aload_nS C 3 rfl rfl dL_895 ?_
  refine VS.iload_n C 0 rfl rfl dL_896 ?_
  refine VS.iconst C (v := 2) (by decide) dL_897 ?_
  refine VS.iadd C dL_898 ?_
  refine VS.topi (nI_k i 2 rfl) ?_
  refine VS.sld C (j := i + 2) (by omega) hL2 dL_899 ?_
  refine VS.callV C [.int (xs (i + 1)), .int (xs (i + 2))] (HX S h hx) hx.2.2.1 rfl jX5_book ml_L_116 rfl (by decide) b1 (Nat.le_of_ble_eq_true rfl) (Nat.le_of_ble_eq_true rfl) dL_900 (fun v hh z => ?_)
  obtain ⟨rfl, hx2, hi⟩ := z
  have hm2 := hm.hi hi
  obtain ⟨fs, hfs⟩ := hm2.obj
  refine VS.aload_n C 1 rfl rfl dL_903 ?_
  refine VS.aload_nS C 3 rfl rfl dL_904 ?_
  refine VS.iload_n C 0 rfl rfl dL_905 ?_
  refine VS.iconst C (v := 1) (by decide) dL_906 ?_
  refine VS.iadd C dL_907 ?_
  refine VS.topi (nI_k i 1 rfl) ?_
  refine VS.sld C (j := i + 1) (by omega) hL2 dL_908 ?_
  refine VS.aload_nS C 3 rfl rfl dL_909 ?_
  refine VS.iload_n C 0 rfl rfl dL_910 ?_
  refine VS.iconst C (v := 2) (by decide) dL_911 ?_
  refine VS.iadd C dL_912 ?_
  refine VS.topi (nI_k i 2 rfl) ?_
  refine VS.sld C (j := i + 2) (by omega) hL2 dL_913 ?_
  refine VS.callV C [.int (xs (i + 1)), .int (xs (i + 2))] (HM S hh hm2) hfs rfl jX6_book ml_L_119 rfl (by simp [Value.category]) b2 (Nat.le_of_ble_eq_true rfl) (Nat.le_of_ble_eq_true rfl) dL_914 (fun v h3 z => ?_)
  obtain ⟨rfl, hm3, lo⟩ := z
  have hx3 := hx2.lo lo
  refine VS.icmp_eq C (tgt := 1230) (by decide) dL_917 (fun _ => ?_) (fun z => absurd rfl z)
  exact VS.widen (by decide) (by decide) (G _ _ hx3 hm3)
theorem law_looked (C : LCx p s m meth c E b L xs) (hL2 : L ≤ 3072) {i : Nat} (hi6 : i + 6 ≤ L) (G : LG p l e s m below meth c E b i) (H : AI l qX5_looked qX6_looked []) {S : SS} {h : PH} (hx : RX S h) (hm : RM S h) : VS p l e s m below meth c E b 922 (lls i) [] h 200 20000 := by
  obtain ⟨d1, d2, ans, nx, b1, b2, HX, HM⟩ := H
  refine VS.aload_n C 2 rfl rfl dL_922 ?_
  refine VS.callV C [] (HX S h hx) hx.2.2.1 rfl jX5_looked ml_L_120 rfl (by decide) b1 (Nat.le_of_ble_eq_true rfl) (Nat.le_of_ble_eq_true rfl) dL_923 (fun v hh z => ?_)
  obtain ⟨rfl, hx2, hi⟩ := z
  have hm2 := hm.hi hi
  obtain ⟨fs, hfs⟩ := hm2.obj
  refine VS.aload_n C 1 rfl rfl dL_926 ?_
  refine VS.callV C [] (HM S hh hm2) hfs rfl jX6_looked ml_L_123 rfl (by simp [Value.category]) b2 (Nat.le_of_ble_eq_true rfl) (Nat.le_of_ble_eq_true rfl) dL_927 (fun v h3 z => ?_)
  obtain ⟨rfl, hm3, lo⟩ := z
  have hx3 := hx2.lo lo
  refine VS.icmp_eq C (tgt := 1230) (by decide) dL_930 (fun _ => ?_) (fun z => absurd rfl z)
  exact VS.widen (by decide) (by decide) (G _ _ hx3 hm3)
theorem law_judge (C : LCx p s m meth c E b L xs) (hL2 : L ≤ 3072) {i : Nat} (hi6 : i + 6 ≤ L) (G : LG p l e s m below meth c E b i) (H : AI l qX5_judge qX6_judge [.int (xs (i + 1)), .int (xs (i + 2))]) {S : SS} {h : PH} (hx : RX S h) (hm : RM S h) : VS p l e s m below meth c E b 935 (lls i) [] h 200 20000 := by
  obtain ⟨d1, d2, ans, nx, b1, b2, HX, HM⟩ := H
  refine VS.aload_n C 2 rfl rfl dL_935 ?_
  refine VS.aload_nS C 3 rfl rfl dL_936 ?_
  refine VS.iload_n C 0 rfl rfl dL_937 ?_
  refine VS.iconst C (v := 1) (by decide) dL_938 ?_
  refine VS.iadd C dL_939 ?_
  refine VS.topi (nI_k i 1 rfl) ?_
  refine VS.sld C (j := i + 1) (by omega) hL2 dL_940 ?_
  refine VS.aload_nS C 3 rfl rfl dL_941 ?_
  refine VS.iload_n C 0 rfl rfl dL_942 ?_
  refine VS.iconst C (v := 2) (by decide) dL_943 ?_
  refine VS.iadd C dL_944 ?_
  refine VS.topi (nI_k i 2 rfl) ?_
  refine VS.sld C (j := i + 2) (by omega) hL2 dL_945 ?_
  refine VS.callV C [.int (xs (i + 1)), .int (xs (i + 2))] (HX S h hx) hx.2.2.1 rfl jX5_judge ml_L_124 rfl (by decide) b1 (Nat.le_of_ble_eq_true rfl) (Nat.le_of_ble_eq_true rfl) dL_946 (fun v hh z => ?_)
  obtain ⟨rfl, hx2, hi⟩ := z
  have hm2 := hm.hi hi
  obtain ⟨fs, hfs⟩ := hm2.obj
  refine VS.aload_n C 1 rfl rfl dL_949 ?_
  refine VS.aload_nS C 3 rfl rfl dL_950 ?_
  refine VS.iload_n C 0 rfl rfl dL_951 ?_
  refine VS.iconst C (v := 1) (by decide) dL_952 ?_
  refine VS.iadd C dL_953 ?_
  refine VS.topi (nI_k i 1 rfl) ?_
  refine VS.sld C (j := i + 1) (by omega) hL2 dL_954 ?_
  refine VS.aload_nS C 3 rfl rfl dL_955 ?_
  refine VS.iload_n C 0 rfl rfl dL_956 ?_
  refine VS.iconst C (v := 2) (by decide) dL_957 ?_
  refine VS.iadd C dL_958 ?_
  refine VS.topi (nI_k i 2 rfl) ?_
  refine VS.sld C (j := i + 2) (by omega) hL2 dL_959 ?_
  refine VS.callV C [.int (xs (i + 1)), .int (xs (i + 2))] (HM S hh hm2) hfs rfl jX6_judge ml_L_127 rfl (by simp [Value.category]) b2 (Nat.le_of_ble_eq_true rfl) (Nat.le_of_ble_eq_true rfl) dL_960 (fun v h3 z => ?_)
  obtain ⟨rfl, hm3, lo⟩ := z
  have hx3 := hx2.lo lo
  refine VS.icmp_eq C (tgt := 1230) (by decide) dL_963 (fun _ => ?_) (fun z => absurd rfl z)
  exact VS.widen (by decide) (by decide) (G _ _ hx3 hm3)
theorem law_image (C : LCx p s m meth c E b L xs) (hL2 : L ≤ 3072) {i : Nat} (hi6 : i + 6 ≤ L) (G : LG p l e s m below meth c E b i) (H : AI l qX5_image qX6_image []) {S : SS} {h : PH} (hx : RX S h) (hm : RM S h) : VS p l e s m below meth c E b 968 (lls i) [] h 200 20000 := by
  obtain ⟨d1, d2, ans, nx, b1, b2, HX, HM⟩ := H
  refine VS.aload_n C 2 rfl rfl dL_968 ?_
  refine VS.callV C [] (HX S h hx) hx.2.2.1 rfl jX5_image ml_L_128 rfl (by decide) b1 (Nat.le_of_ble_eq_true rfl) (Nat.le_of_ble_eq_true rfl) dL_969 (fun v hh z => ?_)
  obtain ⟨rfl, hx2, hi⟩ := z
  have hm2 := hm.hi hi
  obtain ⟨fs, hfs⟩ := hm2.obj
  refine VS.aload_n C 1 rfl rfl dL_972 ?_
  refine VS.callV C [] (HM S hh hm2) hfs rfl jX6_image ml_L_131 rfl (by simp [Value.category]) b2 (Nat.le_of_ble_eq_true rfl) (Nat.le_of_ble_eq_true rfl) dL_973 (fun v h3 z => ?_)
  obtain ⟨rfl, hm3, lo⟩ := z
  have hx3 := hx2.lo lo
  refine VS.icmp_eq C (tgt := 1230) (by decide) dL_976 (fun _ => ?_) (fun z => absurd rfl z)
  exact VS.widen (by decide) (by decide) (G _ _ hx3 hm3)
theorem law_undo (C : LCx p s m meth c E b L xs) (hL2 : L ≤ 3072) {i : Nat} (hi6 : i + 6 ≤ L) (G : LG p l e s m below meth c E b i) (H : AI l qX5_undo qX6_undo []) {S : SS} {h : PH} (hx : RX S h) (hm : RM S h) : VS p l e s m below meth c E b 981 (lls i) [] h 200 20000 := by
  obtain ⟨d1, d2, ans, nx, b1, b2, HX, HM⟩ := H
  refine VS.aload_n C 2 rfl rfl dL_981 ?_
  refine VS.callV C [] (HX S h hx) hx.2.2.1 rfl jX5_undo ml_L_132 rfl (by decide) b1 (Nat.le_of_ble_eq_true rfl) (Nat.le_of_ble_eq_true rfl) dL_982 (fun v hh z => ?_)
  obtain ⟨rfl, hx2, hi⟩ := z
  have hm2 := hm.hi hi
  obtain ⟨fs, hfs⟩ := hm2.obj
  refine VS.aload_n C 1 rfl rfl dL_985 ?_
  refine VS.callV C [] (HM S hh hm2) hfs rfl jX6_undo ml_L_135 rfl (by simp [Value.category]) b2 (Nat.le_of_ble_eq_true rfl) (Nat.le_of_ble_eq_true rfl) dL_986 (fun v h3 z => ?_)
  obtain ⟨rfl, hm3, lo⟩ := z
  have hx3 := hx2.lo lo
  refine VS.icmp_eq C (tgt := 1230) (by decide) dL_989 (fun _ => ?_) (fun z => absurd rfl z)
  exact VS.widen (by decide) (by decide) (G _ _ hx3 hm3)
theorem law_count (C : LCx p s m meth c E b L xs) (hL2 : L ≤ 3072) {i : Nat} (hi6 : i + 6 ≤ L) (G : LG p l e s m below meth c E b i) (H : AI l qX5_count qX6_count [.int (xs (i + 1))]) {S : SS} {h : PH} (hx : RX S h) (hm : RM S h) : VS p l e s m below meth c E b 994 (lls i) [] h 200 20000 := by
  obtain ⟨d1, d2, ans, nx, b1, b2, HX, HM⟩ := H
  refine VS.aload_n C 2 rfl rfl dL_994 ?_
  refine VS.aload_nS C 3 rfl rfl dL_995 ?_
  refine VS.iload_n C 0 rfl rfl dL_996 ?_
  refine VS.iconst C (v := 1) (by decide) dL_997 ?_
  refine VS.iadd C dL_998 ?_
  refine VS.topi (nI_k i 1 rfl) ?_
  refine VS.sld C (j := i + 1) (by omega) hL2 dL_999 ?_
  refine VS.callV C [.int (xs (i + 1))] (HX S h hx) hx.2.2.1 rfl jX5_count ml_L_136 rfl (by decide) b1 (Nat.le_of_ble_eq_true rfl) (Nat.le_of_ble_eq_true rfl) dL_1000 (fun v hh z => ?_)
  obtain ⟨rfl, hx2, hi⟩ := z
  have hm2 := hm.hi hi
  obtain ⟨fs, hfs⟩ := hm2.obj
  refine VS.aload_n C 1 rfl rfl dL_1003 ?_
  refine VS.aload_nS C 3 rfl rfl dL_1004 ?_
  refine VS.iload_n C 0 rfl rfl dL_1005 ?_
  refine VS.iconst C (v := 1) (by decide) dL_1006 ?_
  refine VS.iadd C dL_1007 ?_
  refine VS.topi (nI_k i 1 rfl) ?_
  refine VS.sld C (j := i + 1) (by omega) hL2 dL_1008 ?_
  refine VS.callV C [.int (xs (i + 1))] (HM S hh hm2) hfs rfl jX6_count ml_L_139 rfl (by simp [Value.category]) b2 (Nat.le_of_ble_eq_true rfl) (Nat.le_of_ble_eq_true rfl) dL_1009 (fun v h3 z => ?_)
  obtain ⟨rfl, hm3, lo⟩ := z
  have hx3 := hx2.lo lo
  refine VS.icmp_eq C (tgt := 1230) (by decide) dL_1012 (fun _ => ?_) (fun z => absurd rfl z)
  exact VS.widen (by decide) (by decide) (G _ _ hx3 hm3)
theorem law_tape (C : LCx p s m meth c E b L xs) (hL2 : L ≤ 3072) {i : Nat} (hi6 : i + 6 ≤ L) (G : LG p l e s m below meth c E b i) (H : AI l qX5_tape qX6_tape [.int (xs (i + 1)), .int (xs (i + 2)), .int (xs (i + 3))]) {S : SS} {h : PH} (hx : RX S h) (hm : RM S h) : VS p l e s m below meth c E b 1017 (lls i) [] h 200 20000 := by
  obtain ⟨d1, d2, ans, nx, b1, b2, HX, HM⟩ := H
  refine VS.aload_n C 2 rfl rfl dL_1017 ?_
  refine VS.aload_nS C 3 rfl rfl dL_1018 ?_
  refine VS.iload_n C 0 rfl rfl dL_1019 ?_
  refine VS.iconst C (v := 1) (by decide) dL_1020 ?_
  refine VS.iadd C dL_1021 ?_
  refine VS.topi (nI_k i 1 rfl) ?_
  refine VS.sld C (j := i + 1) (by omega) hL2 dL_1022 ?_
  refine VS.aload_nS C 3 rfl rfl dL_1023 ?_
  refine VS.iload_n C 0 rfl rfl dL_1024 ?_
  refine VS.iconst C (v := 2) (by decide) dL_1025 ?_
  refine VS.iadd C dL_1026 ?_
  refine VS.topi (nI_k i 2 rfl) ?_
  refine VS.sld C (j := i + 2) (by omega) hL2 dL_1027 ?_
  refine VS.aload_nS C 3 rfl rfl dL_1028 ?_
  refine VS.iload_n C 0 rfl rfl dL_1029 ?_
  refine VS.iconst C (v := 3) (by decide) dL_1030 ?_
  refine VS.iadd C dL_1031 ?_
  refine VS.topi (nI_k i 3 rfl) ?_
  refine VS.sld C (j := i + 3) (by omega) hL2 dL_1032 ?_
  refine VS.callV C [.int (xs (i + 1)), .int (xs (i + 2)), .int (xs (i + 3))] (HX S h hx) hx.2.2.1 rfl jX5_tape ml_L_140 rfl (by decide) b1 (Nat.le_of_ble_eq_true rfl) (Nat.le_of_ble_eq_true rfl) dL_1033 (fun v hh z => ?_)
  obtain ⟨rfl, hx2, hi⟩ := z
  have hm2 := hm.hi hi
  obtain ⟨fs, hfs⟩ := hm2.obj
  refine VS.aload_n C 1 rfl rfl dL_1036 ?_
  refine VS.aload_nS C 3 rfl rfl dL_1037 ?_
  refine VS.iload_n C 0 rfl rfl dL_1038 ?_
  refine VS.iconst C (v := 1) (by decide) dL_1039 ?_
  refine VS.iadd C dL_1040 ?_
  refine VS.topi (nI_k i 1 rfl) ?_
  refine VS.sld C (j := i + 1) (by omega) hL2 dL_1041 ?_
  refine VS.aload_nS C 3 rfl rfl dL_1042 ?_
  refine VS.iload_n C 0 rfl rfl dL_1043 ?_
  refine VS.iconst C (v := 2) (by decide) dL_1044 ?_
  refine VS.iadd C dL_1045 ?_
  refine VS.topi (nI_k i 2 rfl) ?_
  refine VS.sld C (j := i + 2) (by omega) hL2 dL_1046 ?_
  refine VS.aload_nS C 3 rfl rfl dL_1047 ?_
  refine VS.iload_n C 0 rfl rfl dL_1048 ?_
  refine VS.iconst C (v := 3) (by decide) dL_1049 ?_
  refine VS.iadd C dL_1050 ?_
  refine VS.topi (nI_k i 3 rfl) ?_
  refine VS.sld C (j := i + 3) (by omega) hL2 dL_1051 ?_
  refine VS.callV C [.int (xs (i + 1)), .int (xs (i + 2)), .int (xs (i + 3))] (HM S hh hm2) hfs rfl jX6_tape ml_L_144 rfl (by simp [Value.category]) b2 (Nat.le_of_ble_eq_true rfl) (Nat.le_of_ble_eq_true rfl) dL_1052 (fun v h3 z => ?_)
  obtain ⟨rfl, hm3, lo⟩ := z
  have hx3 := hx2.lo lo
  refine VS.icmp_eq C (tgt := 1230) (by decide) dL_1055 (fun _ => ?_) (fun z => absurd rfl z)
  exact VS.widen (by decide) (by decide) (G _ _ hx3 hm3)
theorem law_item (C : LCx p s m meth c E b L xs) (hL2 : L ≤ 3072) {i : Nat} (hi6 : i + 6 ≤ L) (G : LG p l e s m below meth c E b i) (H : AI l qX5_item qX6_item [.int (xs (i + 1)), .int (xs (i + 2)), .long ((((xs (i + 3)) : Int32).toInt64 <<< ((32 : Int32).toInt64 &&& 63)) ||| (((xs (i + 4)) : Int32).toInt64 &&& 4294967295))]) {S : SS} {h : PH} (hx : RX S h) (hm : RM S h) : VS p l e s m below meth c E b 1060 (lls i) [] h 200 20000 := by
  obtain ⟨d1, d2, ans, nx, b1, b2, HX, HM⟩ := H
  refine VS.aload_n C 2 rfl rfl dL_1060 ?_
  refine VS.aload_nS C 3 rfl rfl dL_1061 ?_
  refine VS.iload_n C 0 rfl rfl dL_1062 ?_
  refine VS.iconst C (v := 1) (by decide) dL_1063 ?_
  refine VS.iadd C dL_1064 ?_
  refine VS.topi (nI_k i 1 rfl) ?_
  refine VS.sld C (j := i + 1) (by omega) hL2 dL_1065 ?_
  refine VS.aload_nS C 3 rfl rfl dL_1066 ?_
  refine VS.iload_n C 0 rfl rfl dL_1067 ?_
  refine VS.iconst C (v := 2) (by decide) dL_1068 ?_
  refine VS.iadd C dL_1069 ?_
  refine VS.topi (nI_k i 2 rfl) ?_
  refine VS.sld C (j := i + 2) (by omega) hL2 dL_1070 ?_
  refine VS.aload_nS C 3 rfl rfl dL_1071 ?_
  refine VS.iload_n C 0 rfl rfl dL_1072 ?_
  refine VS.iconst C (v := 3) (by decide) dL_1073 ?_
  refine VS.iadd C dL_1074 ?_
  refine VS.topi (nI_k i 3 rfl) ?_
  refine VS.sld C (j := i + 3) (by omega) hL2 dL_1075 ?_
  refine VS.i2l C dL_1076 ?_
  refine VS.bipush C (v := 32) (by decide) dL_1077 ?_
  refine VS.lshl C dL_1079 ?_
  refine VS.aload_nS C 3 rfl rfl dL_1080 ?_
  refine VS.iload_n C 0 rfl rfl dL_1081 ?_
  refine VS.iconst C (v := 4) (by decide) dL_1082 ?_
  refine VS.iadd C dL_1083 ?_
  refine VS.topi (nI_k i 4 rfl) ?_
  refine VS.sld C (j := i + 4) (by omega) hL2 dL_1084 ?_
  refine VS.i2l C dL_1085 ?_
  refine VS.ldc2 C kl_L_145 dL_1086 ?_
  refine VS.land C dL_1089 ?_
  refine VS.lor C dL_1090 ?_
  refine VS.callV C [.int (xs (i + 1)), .int (xs (i + 2)), .long ((((xs (i + 3)) : Int32).toInt64 <<< ((32 : Int32).toInt64 &&& 63)) ||| (((xs (i + 4)) : Int32).toInt64 &&& 4294967295))] (HX S h hx) hx.2.2.1 rfl jX5_item ml_L_147 rfl (by decide) b1 (Nat.le_of_ble_eq_true rfl) (Nat.le_of_ble_eq_true rfl) dL_1091 (fun v hh z => ?_)
  obtain ⟨rfl, hx2, hi⟩ := z
  have hm2 := hm.hi hi
  obtain ⟨fs, hfs⟩ := hm2.obj
  refine VS.aload_n C 1 rfl rfl dL_1094 ?_
  refine VS.aload_nS C 3 rfl rfl dL_1095 ?_
  refine VS.iload_n C 0 rfl rfl dL_1096 ?_
  refine VS.iconst C (v := 1) (by decide) dL_1097 ?_
  refine VS.iadd C dL_1098 ?_
  refine VS.topi (nI_k i 1 rfl) ?_
  refine VS.sld C (j := i + 1) (by omega) hL2 dL_1099 ?_
  refine VS.aload_nS C 3 rfl rfl dL_1100 ?_
  refine VS.iload_n C 0 rfl rfl dL_1101 ?_
  refine VS.iconst C (v := 2) (by decide) dL_1102 ?_
  refine VS.iadd C dL_1103 ?_
  refine VS.topi (nI_k i 2 rfl) ?_
  refine VS.sld C (j := i + 2) (by omega) hL2 dL_1104 ?_
  refine VS.aload_nS C 3 rfl rfl dL_1105 ?_
  refine VS.iload_n C 0 rfl rfl dL_1106 ?_
  refine VS.iconst C (v := 3) (by decide) dL_1107 ?_
  refine VS.iadd C dL_1108 ?_
  refine VS.topi (nI_k i 3 rfl) ?_
  refine VS.sld C (j := i + 3) (by omega) hL2 dL_1109 ?_
  refine VS.i2l C dL_1110 ?_
  refine VS.bipush C (v := 32) (by decide) dL_1111 ?_
  refine VS.lshl C dL_1113 ?_
  refine VS.aload_nS C 3 rfl rfl dL_1114 ?_
  refine VS.iload_n C 0 rfl rfl dL_1115 ?_
  refine VS.iconst C (v := 4) (by decide) dL_1116 ?_
  refine VS.iadd C dL_1117 ?_
  refine VS.topi (nI_k i 4 rfl) ?_
  refine VS.sld C (j := i + 4) (by omega) hL2 dL_1118 ?_
  refine VS.i2l C dL_1119 ?_
  refine VS.ldc2 C kl_L_145 dL_1120 ?_
  refine VS.land C dL_1123 ?_
  refine VS.lor C dL_1124 ?_
  refine VS.callV C [.int (xs (i + 1)), .int (xs (i + 2)), .long ((((xs (i + 3)) : Int32).toInt64 <<< ((32 : Int32).toInt64 &&& 63)) ||| (((xs (i + 4)) : Int32).toInt64 &&& 4294967295))] (HM S hh hm2) hfs rfl jX6_item ml_L_151 rfl (by simp [Value.category]) b2 (Nat.le_of_ble_eq_true rfl) (Nat.le_of_ble_eq_true rfl) dL_1125 (fun v h3 z => ?_)
  obtain ⟨rfl, hm3, lo⟩ := z
  have hx3 := hx2.lo lo
  refine VS.icmp_eq C (tgt := 1230) (by decide) dL_1128 (fun _ => ?_) (fun z => absurd rfl z)
  exact VS.widen (by decide) (by decide) (G _ _ hx3 hm3)
theorem law_peek (C : LCx p s m meth c E b L xs) (hL2 : L ≤ 3072) {i : Nat} (hi6 : i + 6 ≤ L) (G : LG p l e s m below meth c E b i) (H : AL l qX5_peek qX6_peek [.int (xs (i + 1)), .int (xs (i + 2))]) {S : SS} {h : PH} (hx : RX S h) (hm : RM S h) : VS p l e s m below meth c E b 1133 (lls i) [] h 200 20000 := by
  obtain ⟨d1, d2, ans, nx, b1, b2, HX, HM⟩ := H
  refine VS.aload_n C 2 rfl rfl dL_1133 ?_
  refine VS.aload_nS C 3 rfl rfl dL_1134 ?_
  refine VS.iload_n C 0 rfl rfl dL_1135 ?_
  refine VS.iconst C (v := 1) (by decide) dL_1136 ?_
  refine VS.iadd C dL_1137 ?_
  refine VS.topi (nI_k i 1 rfl) ?_
  refine VS.sld C (j := i + 1) (by omega) hL2 dL_1138 ?_
  refine VS.aload_nS C 3 rfl rfl dL_1139 ?_
  refine VS.iload_n C 0 rfl rfl dL_1140 ?_
  refine VS.iconst C (v := 2) (by decide) dL_1141 ?_
  refine VS.iadd C dL_1142 ?_
  refine VS.topi (nI_k i 2 rfl) ?_
  refine VS.sld C (j := i + 2) (by omega) hL2 dL_1143 ?_
  refine VS.callV C [.int (xs (i + 1)), .int (xs (i + 2))] (HX S h hx) hx.2.2.1 rfl jX5_peek ml_L_152 rfl (by decide) b1 (Nat.le_of_ble_eq_true rfl) (Nat.le_of_ble_eq_true rfl) dL_1144 (fun v hh z => ?_)
  obtain ⟨rfl, hx2, hi⟩ := z
  have hm2 := hm.hi hi
  obtain ⟨fs, hfs⟩ := hm2.obj
  refine VS.aload_n C 1 rfl rfl dL_1147 ?_
  refine VS.aload_nS C 3 rfl rfl dL_1148 ?_
  refine VS.iload_n C 0 rfl rfl dL_1149 ?_
  refine VS.iconst C (v := 1) (by decide) dL_1150 ?_
  refine VS.iadd C dL_1151 ?_
  refine VS.topi (nI_k i 1 rfl) ?_
  refine VS.sld C (j := i + 1) (by omega) hL2 dL_1152 ?_
  refine VS.aload_nS C 3 rfl rfl dL_1153 ?_
  refine VS.iload_n C 0 rfl rfl dL_1154 ?_
  refine VS.iconst C (v := 2) (by decide) dL_1155 ?_
  refine VS.iadd C dL_1156 ?_
  refine VS.topi (nI_k i 2 rfl) ?_
  refine VS.sld C (j := i + 2) (by omega) hL2 dL_1157 ?_
  refine VS.callV C [.int (xs (i + 1)), .int (xs (i + 2))] (HM S hh hm2) hfs rfl jX6_peek ml_L_155 rfl (by simp [Value.category]) b2 (Nat.le_of_ble_eq_true rfl) (Nat.le_of_ble_eq_true rfl) dL_1158 (fun v h3 z => ?_)
  obtain ⟨rfl, hm3, lo⟩ := z
  have hx3 := hx2.lo lo
  refine VS.lcmp C dL_1161 ?_
  refine VS.topi (lg_self _) ?_
  refine VS.if_eq C (tgt := 1230) (by decide) dL_1162 (fun _ => ?_) (fun z => absurd rfl z)
  exact VS.widen (by decide) (by decide) (G _ _ hx3 hm3)
theorem law_shift (C : LCx p s m meth c E b L xs) (hL2 : L ≤ 3072) {i : Nat} (hi6 : i + 6 ≤ L) (G : LG p l e s m below meth c E b i) (H : AI l qX5_shift qX6_shift [.int (xs (i + 1)), .int (xs (i + 2)), .int (xs (i + 3)), .int (xs (i + 4)), .int (xs (i + 5))]) {S : SS} {h : PH} (hx : RX S h) (hm : RM S h) : VS p l e s m below meth c E b 1167 (lls i) [] h 200 20000 := by
  obtain ⟨d1, d2, ans, nx, b1, b2, HX, HM⟩ := H
  refine VS.aload_n C 2 rfl rfl dL_1167 ?_
  refine VS.aload_nS C 3 rfl rfl dL_1168 ?_
  refine VS.iload_n C 0 rfl rfl dL_1169 ?_
  refine VS.iconst C (v := 1) (by decide) dL_1170 ?_
  refine VS.iadd C dL_1171 ?_
  refine VS.topi (nI_k i 1 rfl) ?_
  refine VS.sld C (j := i + 1) (by omega) hL2 dL_1172 ?_
  refine VS.aload_nS C 3 rfl rfl dL_1173 ?_
  refine VS.iload_n C 0 rfl rfl dL_1174 ?_
  refine VS.iconst C (v := 2) (by decide) dL_1175 ?_
  refine VS.iadd C dL_1176 ?_
  refine VS.topi (nI_k i 2 rfl) ?_
  refine VS.sld C (j := i + 2) (by omega) hL2 dL_1177 ?_
  refine VS.aload_nS C 3 rfl rfl dL_1178 ?_
  refine VS.iload_n C 0 rfl rfl dL_1179 ?_
  refine VS.iconst C (v := 3) (by decide) dL_1180 ?_
  refine VS.iadd C dL_1181 ?_
  refine VS.topi (nI_k i 3 rfl) ?_
  refine VS.sld C (j := i + 3) (by omega) hL2 dL_1182 ?_
  refine VS.aload_nS C 3 rfl rfl dL_1183 ?_
  refine VS.iload_n C 0 rfl rfl dL_1184 ?_
  refine VS.iconst C (v := 4) (by decide) dL_1185 ?_
  refine VS.iadd C dL_1186 ?_
  refine VS.topi (nI_k i 4 rfl) ?_
  refine VS.sld C (j := i + 4) (by omega) hL2 dL_1187 ?_
  refine VS.aload_nS C 3 rfl rfl dL_1188 ?_
  refine VS.iload_n C 0 rfl rfl dL_1189 ?_
  refine VS.iconst C (v := 5) (by decide) dL_1190 ?_
  refine VS.iadd C dL_1191 ?_
  refine VS.topi (nI_k i 5 rfl) ?_
  refine VS.sld C (j := i + 5) (by omega) hL2 dL_1192 ?_
  refine VS.callV C [.int (xs (i + 1)), .int (xs (i + 2)), .int (xs (i + 3)), .int (xs (i + 4)), .int (xs (i + 5))] (HX S h hx) hx.2.2.1 rfl jX5_shift ml_L_156 rfl (by decide) b1 (Nat.le_of_ble_eq_true rfl) (Nat.le_of_ble_eq_true rfl) dL_1193 (fun v hh z => ?_)
  obtain ⟨rfl, hx2, hi⟩ := z
  have hm2 := hm.hi hi
  obtain ⟨fs, hfs⟩ := hm2.obj
  refine VS.aload_n C 1 rfl rfl dL_1196 ?_
  refine VS.aload_nS C 3 rfl rfl dL_1197 ?_
  refine VS.iload_n C 0 rfl rfl dL_1198 ?_
  refine VS.iconst C (v := 1) (by decide) dL_1199 ?_
  refine VS.iadd C dL_1200 ?_
  refine VS.topi (nI_k i 1 rfl) ?_
  refine VS.sld C (j := i + 1) (by omega) hL2 dL_1201 ?_
  refine VS.aload_nS C 3 rfl rfl dL_1202 ?_
  refine VS.iload_n C 0 rfl rfl dL_1203 ?_
  refine VS.iconst C (v := 2) (by decide) dL_1204 ?_
  refine VS.iadd C dL_1205 ?_
  refine VS.topi (nI_k i 2 rfl) ?_
  refine VS.sld C (j := i + 2) (by omega) hL2 dL_1206 ?_
  refine VS.aload_nS C 3 rfl rfl dL_1207 ?_
  refine VS.iload_n C 0 rfl rfl dL_1208 ?_
  refine VS.iconst C (v := 3) (by decide) dL_1209 ?_
  refine VS.iadd C dL_1210 ?_
  refine VS.topi (nI_k i 3 rfl) ?_
  refine VS.sld C (j := i + 3) (by omega) hL2 dL_1211 ?_
  refine VS.aload_nS C 3 rfl rfl dL_1212 ?_
  refine VS.iload_n C 0 rfl rfl dL_1213 ?_
  refine VS.iconst C (v := 4) (by decide) dL_1214 ?_
  refine VS.iadd C dL_1215 ?_
  refine VS.topi (nI_k i 4 rfl) ?_
  refine VS.sld C (j := i + 4) (by omega) hL2 dL_1216 ?_
  refine VS.aload_nS C 3 rfl rfl dL_1217 ?_
  refine VS.iload_n C 0 rfl rfl dL_1218 ?_
  refine VS.iconst C (v := 5) (by decide) dL_1219 ?_
  refine VS.iadd C dL_1220 ?_
  refine VS.topi (nI_k i 5 rfl) ?_
  refine VS.sld C (j := i + 5) (by omega) hL2 dL_1221 ?_
  refine VS.callV C [.int (xs (i + 1)), .int (xs (i + 2)), .int (xs (i + 3)), .int (xs (i + 4)), .int (xs (i + 5))] (HM S hh hm2) hfs rfl jX6_shift ml_L_160 rfl (by simp [Value.category]) b2 (Nat.le_of_ble_eq_true rfl) (Nat.le_of_ble_eq_true rfl) dL_1222 (fun v h3 z => ?_)
  obtain ⟨rfl, hm3, lo⟩ := z
  have hx3 := hx2.lo lo
  refine VS.icmp_eq C (tgt := 1230) (by decide) dL_1225 (fun _ => ?_) (fun z => absurd rfl z)
  exact VS.widen (by decide) (by decide) (G _ _ hx3 hm3)
end LL
