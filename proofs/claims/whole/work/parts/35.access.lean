/-! pieces of the pictures -/
def Off (a b : Nat) (h g : PH) : Prop := g.1 = h.1 ∧ ∀ k, (k < a ∨ b < k) → lk g k = lk h k
theorem Off.rf (a b : Nat) (h : PH) : Off a b h h := ⟨rfl, fun _ _ => rfl⟩
theorem Off.up {a b : Nat} {h g : PH} {k : Nat} {o : PO} (z : Off a b h g) (h1 : a ≤ k) (h2 : k ≤ b) : Off a b h (up g k o) := ⟨z.1, fun j hj => (lk_ne (by omega)).trans (z.2 j hj)⟩
theorem Off.tr {a b : Nat} {h g i : PH} (z : Off a b h g) (w : Off a b g i) : Off a b h i := ⟨w.1.trans z.1, fun k hk => (w.2 k hk).trans (z.2 k hk)⟩
theorem Off.wide {a b c d : Nat} {h g : PH} (z : Off a b h g) (h1 : c ≤ a) (h2 : b ≤ d) : Off c d h g := ⟨z.1, fun k hk => z.2 k (by omega)⟩
theorem Off.hi {a b : Nat} {h g : PH} (z : Off a b h g) (hb : b < 91) : Hi h g := ⟨z.1, fun k hk => z.2 k (Or.inr (by omega))⟩
theorem Off.lo {a b : Nat} {h g : PH} (z : Off a b h g) (hb : 91 ≤ a) : Lo h g := ⟨z.1, fun k hk => z.2 k (Or.inl (by omega))⟩
theorem Hi.rf (h : PH) : Hi h h := ⟨rfl, fun _ _ => rfl⟩
theorem Lo.rf (h : PH) : Lo h h := ⟨rfl, fun _ _ => rfl⟩
theorem Hi.tr {h g i : PH} (z : Hi h g) (w : Hi g i) : Hi h i := ⟨w.1.trans z.1, fun k hk => (w.2 k hk).trans (z.2 k hk)⟩
theorem Lo.tr {h g i : PH} (z : Lo h g) (w : Lo g i) : Lo h i := ⟨w.1.trans z.1, fun k hk => (w.2 k hk).trans (z.2 k hk)⟩
def AtK (h : PH) (i : Option SG) : Prop := match i with
  | some g => AtS h 65 g
  | none => ∃ g, AtS h 65 g
def AtKM (h : PH) (i : Option SG) : Prop := match i with
  | some g => AtG h 93 g
  | none => ∃ f, lk h 93 = some (10, ra 50 f)
section AC
variable {S : SS} {h g : PH}
theorem RX.ok (z : RX S h) : SOkk S := z.1
theorem RX.n2 (z : RX S h) : 2 ≤ S.1.1 := z.1.1.1
theorem RX.n5 (z : RX S h) : S.1.1 ≤ 5 := z.1.1.2.1
theorem RX.ch (z : RX S h) : S.1.2.1 < np S.1.1 := z.1.1.2.2.1
theorem RX.lab (z : RX S h) : LabOk S.1.1 S.1.2.2.1 := z.1.1.2.2.2.1
theorem RX.l1 (z : RX S h) : S.1.2.2.2.1.length ≤ 4 := z.1.1.2.2.2.2.1
theorem RX.l2 (z : RX S h) : S.1.2.2.2.2.1.length ≤ 8 := z.1.1.2.2.2.2.2.1
theorem RX.l3 (z : RX S h) : S.1.2.2.2.2.2.length ≤ 8 := z.1.1.2.2.2.2.2.2.1
theorem RX.sn (z : RX S h) : SnOk S.1.2.2.2.1 := z.1.1.2.2.2.2.2.2.2.1
theorem RX.evk (z : RX S h) : EvOk S.1.2.2.2.2.1 := z.1.1.2.2.2.2.2.2.2.2.1
theorem RX.bka (z : RX S h) : BkOk S.1.2.2.2.2.2 := z.1.1.2.2.2.2.2.2.2.2.2
theorem RX.sz (z : RX S h) : h.1 = 154 := z.2.1
theorem RX.o0 (z : RX S h) : lk h 0 = some (5, [.ref 1, .ref 54, .ref 65, .int (bI S.2.1.isSome), .ref 76, .ref 78]) := z.2.2.1
theorem RX.o1 (z : RX S h) : lk h 1 = some (15, [.ref 2, .ref 15, .ref 28, .ref 41]) := z.2.2.2.1
theorem RX.T (z : RX S h) : AtT h := z.2.2.2.2.1
theorem RX.s (z : RX S h) : AtS h 54 S.1 := z.2.2.2.2.2.1
theorem RX.k (z : RX S h) : AtK h S.2.1 := z.2.2.2.2.2.2.1
theorem RX.x (z : RX S h) : AtX h S.2.2.1 := z.2.2.2.2.2.2.2.1
theorem RX.p (z : RX S h) : AtP h S.2.2.2 := z.2.2.2.2.2.2.2.2
theorem RX.t (z : RX S h) : lk h (tb S.1.1) = some (1, [.int (nI S.1.1), .int (nI (2 * S.1.1)), .int (nI (np S.1.1)), .ref (tb S.1.1 + 1), .ref (tb S.1.1 + 2), .ref (tb S.1.1 + 8), .ref (tb S.1.1 + 12)]) := z.T.obj z.n2 z.n5
theorem RX.o54 (z : RX S h) : lk h 54 = some (3, [.ref (tb S.1.1), .int (nI S.1.2.1), .ref 55, .ref 56, .ref 59, .ref 62]) := z.s.1
theorem RX.o55 (z : RX S h) : lk h 55 = some (10, ra 5 S.1.2.2.1) := z.s.2.1
theorem RX.seen (z : RX S h) : AtL h 56 4 S.1.2.2.2.1 := z.s.2.2.1
theorem RX.ev (z : RX S h) : AtL h 59 8 S.1.2.2.2.2.1 := z.s.2.2.2.1
theorem RX.bk (z : RX S h) : AtL h 62 8 S.1.2.2.2.2.2 := z.s.2.2.2.2
theorem AtL.mv {a cap : Nat} {Ls : List (Int32 × Int32)} (e : ∀ k, a ≤ k → k ≤ a + 2 → lk g k = lk h k) (z : AtL h a cap Ls) : AtL g a cap Ls := by
  obtain ⟨u, v, h1, h2, h3, h4⟩ := z
  exact ⟨u, v, by rw [e a (by omega) (by omega)]; exact h1, by rw [e _ (by omega) (by omega)]; exact h2, by rw [e _ (by omega) (by omega)]; exact h3, h4⟩
theorem AtS.mv {a : Nat} {s : SG} (e : ∀ k, a ≤ k → k ≤ a + 10 → lk g k = lk h k) (z : AtS h a s) : AtS g a s := by
  obtain ⟨h1, h2, h3, h4, h5⟩ := z
  exact ⟨by rw [e a (by omega) (by omega)]; exact h1, by rw [e _ (by omega) (by omega)]; exact h2, h3.mv (fun k _ _ => e k (by omega) (by omega)), h4.mv (fun k _ _ => e k (by omega) (by omega)), h5.mv (fun k _ _ => e k (by omega) (by omega))⟩
theorem kT_lt54 : ∀ n, 2 ≤ n → n ≤ 5 → ∀ x ∈ hd_ (fun _ => 0) (kT n), 2 ≤ x.1 ∧ x.1 < 54 := by
  intro n h1 h2
  rcases n4 h1 h2 with rfl | rfl | rfl | rfl <;> decide +kernel
theorem AtT.mv (e : ∀ k, 2 ≤ k → k < 54 → lk g k = lk h k) (z : AtT h) : AtT g := fun n n1 n2 x hx => by rw [e _ (kT_lt54 n n1 n2 x hx).1 (kT_lt54 n n1 n2 x hx).2]; exact z n n1 n2 x hx
theorem AtK.mv {i : Option SG} (e : ∀ k, 65 ≤ k → k ≤ 75 → lk g k = lk h k) (z : AtK h i) : AtK g i := by
  cases i with
  | none =>
    obtain ⟨s, hs⟩ := z
    exact ⟨s, hs.mv e⟩
  | some s => exact AtS.mv e z
theorem AtX.mv {tx : List Int32} (e : ∀ k, 76 ≤ k → k ≤ 77 → lk g k = lk h k) (z : AtX h tx) : AtX g tx := by
  obtain ⟨cu, T, g1, g2, g3⟩ := z
  exact ⟨cu, T, by rw [e 76 (by omega) (by omega)]; exact g1, by rw [e 77 (by omega) (by omega)]; exact g2, g3⟩
theorem AtP.mv {tp : Nat → Int32 × Nat × (Nat → Int64)} (e : ∀ k, 78 ≤ k → k ≤ 90 → lk g k = lk h k) (z : AtP h tp) : AtP g tp := ⟨by rw [e 78 (by omega) (by omega)]; exact z.1, fun t ht => ⟨by rw [e _ (by omega) (by omega)]; exact (z.2 t ht).1, by rw [e _ (by omega) (by omega)]; exact (z.2 t ht).2⟩⟩
/-- another Setting -/
theorem RX.now {s : SG} (z : RX S h) (o : Off 54 64 h g) (ha : AtS g 54 s) (hg : GOk s) : RX (s, S.2) g ∧ Hi h g := by
  have e := o.2
  exact ⟨⟨⟨hg, z.ok.2⟩, o.1.trans z.sz, by rw [e 0 (by omega)]; exact z.o0, by rw [e 1 (by omega)]; exact z.o1, z.T.mv (fun k _ _ => e k (by omega)), ha, z.k.mv (fun k _ _ => e k (by omega)), z.x.mv (fun k _ _ => e k (by omega)), z.p.mv (fun k _ _ => e k (by omega))⟩, o.hi (by omega)⟩
/-- another text -/
theorem RX.txt {tx : List Int32} (z : RX S h) (o : Off 76 77 h g) (ha : AtX g tx) (hg : tx.length ≤ 100 ∧ ∀ c ∈ tx, ∃ k, k < 128 ∧ c = nI k) : RX (S.1, S.2.1, tx, S.2.2.2) g ∧ Hi h g := by
  have e := o.2
  exact ⟨⟨⟨z.ok.1, z.ok.2.1, hg, z.ok.2.2.2⟩, o.1.trans z.sz, by rw [e 0 (by omega)]; exact z.o0, by rw [e 1 (by omega)]; exact z.o1, z.T.mv (fun k _ _ => e k (by omega)), z.s.mv (fun k _ _ => e k (by omega)), z.k.mv (fun k _ _ => e k (by omega)), ha, z.p.mv (fun k _ _ => e k (by omega))⟩, o.hi (by omega)⟩
/-- other tapes -/
theorem RX.tps {tp : Nat → Int32 × Nat × (Nat → Int64)} (z : RX S h) (o : Off 79 90 h g) (ha : AtP g tp) (hg : ∀ t, t < 6 → TpOk (tp t)) : RX (S.1, S.2.1, S.2.2.1, tp) g ∧ Hi h g := by
  have e := o.2
  exact ⟨⟨⟨z.ok.1, z.ok.2.1, z.ok.2.2.1, hg⟩, o.1.trans z.sz, by rw [e 0 (by omega)]; exact z.o0, by rw [e 1 (by omega)]; exact z.o1, z.T.mv (fun k _ _ => e k (by omega)), z.s.mv (fun k _ _ => e k (by omega)), z.k.mv (fun k _ _ => e k (by omega)), z.x.mv (fun k _ _ => e k (by omega)), ha⟩, o.hi (by omega)⟩

theorem RM.ok (z : RM S h) : SOkk S := z.1
theorem RM.sz (z : RM S h) : h.1 = 154 := z.2.1
theorem RM.o (z : RM S h) : ∃ at_ di va le : Int32, lk h 91 = some (6, [.ref 92, .ref 93, .int (bI S.2.1.isSome), .ref 94, .int (nI (np S.1.1)), .ref 137, .ref 138, .ref 139, .ref 140, .ref 141, .ref 142, .int (nI S.2.2.1.length), .int at_, .int di, .int va, .ref 143, .int le, .ref 144, .ref 145, .ref 146, .ref 153]) := z.2.2.1
theorem RM.gg (z : RM S h) : AtG h 92 S.1 := z.2.2.2.1
theorem RM.k (z : RM S h) : AtKM h S.2.1 := z.2.2.2.2.1
theorem RM.R (z : RM S h) : AtR h S.1.1 := z.2.2.2.2.2.1
theorem RM.s137 (z : RM S h) : ∃ f, lk h 137 = some (10, ra 10 f) := z.2.2.2.2.2.2.1
theorem RM.s138 (z : RM S h) : ∃ f, lk h 138 = some (10, ra 10 f) := z.2.2.2.2.2.2.2.1
theorem RM.s139 (z : RM S h) : ∃ f, lk h 139 = some (10, ra 5 f) := z.2.2.2.2.2.2.2.2.1
theorem RM.s140 (z : RM S h) : ∃ f, lk h 140 = some (10, ra 5 f) := z.2.2.2.2.2.2.2.2.2.1
theorem RM.s141 (z : RM S h) : ∃ f, lk h 141 = some (10, ra 5 f) := z.2.2.2.2.2.2.2.2.2.2.1
theorem RM.s143 (z : RM S h) : ∃ f, lk h 143 = some (10, ra 10 f) := z.2.2.2.2.2.2.2.2.2.2.2.1
theorem RM.tx (z : RM S h) : ∃ T : Nat → Int32, lk h 142 = some (10, ra 100 T) ∧ ∀ i c, S.2.2.1[i]? = some c → T i = c := z.2.2.2.2.2.2.2.2.2.2.2.2.1
theorem RM.y144 (z : RM S h) : lk h 144 = some (10, ra 6 (fun t => (S.2.2.2 t).1)) := z.2.2.2.2.2.2.2.2.2.2.2.2.2.1
theorem RM.y145 (z : RM S h) : lk h 145 = some (10, ra 6 (fun t => nI (S.2.2.2 t).2.1)) := z.2.2.2.2.2.2.2.2.2.2.2.2.2.2.1
theorem RM.y146 (z : RM S h) : lk h 146 = some (14, [.ref 147, .ref 148, .ref 149, .ref 150, .ref 151, .ref 152]) := z.2.2.2.2.2.2.2.2.2.2.2.2.2.2.2.1
theorem RM.it (z : RM S h) : ∀ t, t < 6 → lk h (147 + t) = some (12, rl 60 (S.2.2.2 t).2.2) := z.2.2.2.2.2.2.2.2.2.2.2.2.2.2.2.2.1
theorem RM.s153 (z : RM S h) : ∃ z, lk h 153 = some (12, rl 60 z) := z.2.2.2.2.2.2.2.2.2.2.2.2.2.2.2.2.2
theorem RM.n2 (z : RM S h) : 2 ≤ S.1.1 := z.1.1.1
theorem RM.n5 (z : RM S h) : S.1.1 ≤ 5 := z.1.1.2.1
theorem RM.ch (z : RM S h) : S.1.2.1 < np S.1.1 := z.1.1.2.2.1
theorem RM.lab (z : RM S h) : LabOk S.1.1 S.1.2.2.1 := z.1.1.2.2.2.1
theorem RM.l1 (z : RM S h) : S.1.2.2.2.1.length ≤ 4 := z.1.1.2.2.2.2.1
theorem RM.l2 (z : RM S h) : S.1.2.2.2.2.1.length ≤ 8 := z.1.1.2.2.2.2.2.1
theorem RM.l3 (z : RM S h) : S.1.2.2.2.2.2.length ≤ 8 := z.1.1.2.2.2.2.2.2.1
theorem RM.sn (z : RM S h) : SnOk S.1.2.2.2.1 := z.1.1.2.2.2.2.2.2.2.1
theorem RM.evk (z : RM S h) : EvOk S.1.2.2.2.2.1 := z.1.1.2.2.2.2.2.2.2.2.1
theorem RM.bka (z : RM S h) : BkOk S.1.2.2.2.2.2 := z.1.1.2.2.2.2.2.2.2.2.2
theorem AtR.mv {n : Nat} (e : ∀ k, 94 ≤ k → k ≤ 136 → lk g k = lk h k) (z : AtR h n) : AtR g n := by
  obtain ⟨h6, R, h7, h8⟩ := z
  exact ⟨by rw [e 94 (by omega) (by omega)]; exact h6, R, fun p hp => by rw [e _ (by omega) (by omega)]; exact h7 p hp, h8⟩
theorem AtKM.mv {i : Option SG} (e : lk g 93 = lk h 93) (z : AtKM h i) : AtKM g i := by
  cases i with
  | none =>
    obtain ⟨f, hf⟩ := z
    exact ⟨f, by rw [e]; exact hf⟩
  | some s => exact AtG.hi e z
/-- another row g -/
theorem RM.now {s : SG} (z : RM S h) (o : Off 92 92 h g) (ha : AtG g 92 s) (hn : s.1 = S.1.1) (hg : GOk s) : RM (s, S.2) g ∧ Lo h g := by
  have e := o.2
  exact ⟨⟨⟨hg, z.ok.2⟩, o.1.trans z.sz, (by rw [e 91 (by omega), hn]; exact z.o), ha, z.k.mv (e 93 (by omega)), (by rw [hn]; exact z.R.mv (fun k _ _ => e k (by omega))), by rw [e 137 (by omega)]; exact z.s137, by rw [e 138 (by omega)]; exact z.s138, by rw [e 139 (by omega)]; exact z.s139, by rw [e 140 (by omega)]; exact z.s140, by rw [e 141 (by omega)]; exact z.s141, by rw [e 143 (by omega)]; exact z.s143, by rw [e 142 (by omega)]; exact z.tx, by rw [e 144 (by omega)]; exact z.y144, by rw [e 145 (by omega)]; exact z.y145, by rw [e 146 (by omega)]; exact z.y146, fun t ht => by rw [e _ (by omega)]; exact z.it t ht, by rw [e 153 (by omega)]; exact z.s153⟩, o.lo (by omega)⟩
/-- number 137 holds anything -/
theorem RM.u137 {f : Nat → Int32} (z : RM S h) (o : Off 137 137 h g) (ha : lk g 137 = some (10, ra 10 f)) : RM S g ∧ Lo h g := by
  have e := o.2
  exact ⟨⟨z.ok, o.1.trans z.sz, by rw [e 91 (by omega)]; exact z.o, z.gg.hi (e 92 (by omega)), z.k.mv (e 93 (by omega)), z.R.mv (fun k _ _ => e k (by omega)), ⟨f, ha⟩, by rw [e 138 (by omega)]; exact z.s138, by rw [e 139 (by omega)]; exact z.s139, by rw [e 140 (by omega)]; exact z.s140, by rw [e 141 (by omega)]; exact z.s141, by rw [e 143 (by omega)]; exact z.s143, by rw [e 142 (by omega)]; exact z.tx, by rw [e 144 (by omega)]; exact z.y144, by rw [e 145 (by omega)]; exact z.y145, by rw [e 146 (by omega)]; exact z.y146, fun t ht => by rw [e _ (by omega)]; exact z.it t ht, by rw [e 153 (by omega)]; exact z.s153⟩, o.lo (by omega)⟩
/-- number 138 holds anything -/
theorem RM.u138 {f : Nat → Int32} (z : RM S h) (o : Off 138 138 h g) (ha : lk g 138 = some (10, ra 10 f)) : RM S g ∧ Lo h g := by
  have e := o.2
  exact ⟨⟨z.ok, o.1.trans z.sz, by rw [e 91 (by omega)]; exact z.o, z.gg.hi (e 92 (by omega)), z.k.mv (e 93 (by omega)), z.R.mv (fun k _ _ => e k (by omega)), by rw [e 137 (by omega)]; exact z.s137, ⟨f, ha⟩, by rw [e 139 (by omega)]; exact z.s139, by rw [e 140 (by omega)]; exact z.s140, by rw [e 141 (by omega)]; exact z.s141, by rw [e 143 (by omega)]; exact z.s143, by rw [e 142 (by omega)]; exact z.tx, by rw [e 144 (by omega)]; exact z.y144, by rw [e 145 (by omega)]; exact z.y145, by rw [e 146 (by omega)]; exact z.y146, fun t ht => by rw [e _ (by omega)]; exact z.it t ht, by rw [e 153 (by omega)]; exact z.s153⟩, o.lo (by omega)⟩
/-- number 139 holds anything -/
theorem RM.u139 {f : Nat → Int32} (z : RM S h) (o : Off 139 139 h g) (ha : lk g 139 = some (10, ra 5 f)) : RM S g ∧ Lo h g := by
  have e := o.2
  exact ⟨⟨z.ok, o.1.trans z.sz, by rw [e 91 (by omega)]; exact z.o, z.gg.hi (e 92 (by omega)), z.k.mv (e 93 (by omega)), z.R.mv (fun k _ _ => e k (by omega)), by rw [e 137 (by omega)]; exact z.s137, by rw [e 138 (by omega)]; exact z.s138, ⟨f, ha⟩, by rw [e 140 (by omega)]; exact z.s140, by rw [e 141 (by omega)]; exact z.s141, by rw [e 143 (by omega)]; exact z.s143, by rw [e 142 (by omega)]; exact z.tx, by rw [e 144 (by omega)]; exact z.y144, by rw [e 145 (by omega)]; exact z.y145, by rw [e 146 (by omega)]; exact z.y146, fun t ht => by rw [e _ (by omega)]; exact z.it t ht, by rw [e 153 (by omega)]; exact z.s153⟩, o.lo (by omega)⟩
/-- number 140 holds anything -/
theorem RM.u140 {f : Nat → Int32} (z : RM S h) (o : Off 140 140 h g) (ha : lk g 140 = some (10, ra 5 f)) : RM S g ∧ Lo h g := by
  have e := o.2
  exact ⟨⟨z.ok, o.1.trans z.sz, by rw [e 91 (by omega)]; exact z.o, z.gg.hi (e 92 (by omega)), z.k.mv (e 93 (by omega)), z.R.mv (fun k _ _ => e k (by omega)), by rw [e 137 (by omega)]; exact z.s137, by rw [e 138 (by omega)]; exact z.s138, by rw [e 139 (by omega)]; exact z.s139, ⟨f, ha⟩, by rw [e 141 (by omega)]; exact z.s141, by rw [e 143 (by omega)]; exact z.s143, by rw [e 142 (by omega)]; exact z.tx, by rw [e 144 (by omega)]; exact z.y144, by rw [e 145 (by omega)]; exact z.y145, by rw [e 146 (by omega)]; exact z.y146, fun t ht => by rw [e _ (by omega)]; exact z.it t ht, by rw [e 153 (by omega)]; exact z.s153⟩, o.lo (by omega)⟩
/-- number 141 holds anything -/
theorem RM.u141 {f : Nat → Int32} (z : RM S h) (o : Off 141 141 h g) (ha : lk g 141 = some (10, ra 5 f)) : RM S g ∧ Lo h g := by
  have e := o.2
  exact ⟨⟨z.ok, o.1.trans z.sz, by rw [e 91 (by omega)]; exact z.o, z.gg.hi (e 92 (by omega)), z.k.mv (e 93 (by omega)), z.R.mv (fun k _ _ => e k (by omega)), by rw [e 137 (by omega)]; exact z.s137, by rw [e 138 (by omega)]; exact z.s138, by rw [e 139 (by omega)]; exact z.s139, by rw [e 140 (by omega)]; exact z.s140, ⟨f, ha⟩, by rw [e 143 (by omega)]; exact z.s143, by rw [e 142 (by omega)]; exact z.tx, by rw [e 144 (by omega)]; exact z.y144, by rw [e 145 (by omega)]; exact z.y145, by rw [e 146 (by omega)]; exact z.y146, fun t ht => by rw [e _ (by omega)]; exact z.it t ht, by rw [e 153 (by omega)]; exact z.s153⟩, o.lo (by omega)⟩
/-- number 143 holds anything -/
theorem RM.u143 {f : Nat → Int32} (z : RM S h) (o : Off 143 143 h g) (ha : lk g 143 = some (10, ra 10 f)) : RM S g ∧ Lo h g := by
  have e := o.2
  exact ⟨⟨z.ok, o.1.trans z.sz, by rw [e 91 (by omega)]; exact z.o, z.gg.hi (e 92 (by omega)), z.k.mv (e 93 (by omega)), z.R.mv (fun k _ _ => e k (by omega)), by rw [e 137 (by omega)]; exact z.s137, by rw [e 138 (by omega)]; exact z.s138, by rw [e 139 (by omega)]; exact z.s139, by rw [e 140 (by omega)]; exact z.s140, by rw [e 141 (by omega)]; exact z.s141, ⟨f, ha⟩, by rw [e 142 (by omega)]; exact z.tx, by rw [e 144 (by omega)]; exact z.y144, by rw [e 145 (by omega)]; exact z.y145, by rw [e 146 (by omega)]; exact z.y146, fun t ht => by rw [e _ (by omega)]; exact z.it t ht, by rw [e 153 (by omega)]; exact z.s153⟩, o.lo (by omega)⟩
/-- number 153 holds anything -/
theorem RM.u153 {f : Nat → Int64} (z : RM S h) (o : Off 153 153 h g) (ha : lk g 153 = some (12, rl 60 f)) : RM S g ∧ Lo h g := by
  have e := o.2
  exact ⟨⟨z.ok, o.1.trans z.sz, by rw [e 91 (by omega)]; exact z.o, z.gg.hi (e 92 (by omega)), z.k.mv (e 93 (by omega)), z.R.mv (fun k _ _ => e k (by omega)), by rw [e 137 (by omega)]; exact z.s137, by rw [e 138 (by omega)]; exact z.s138, by rw [e 139 (by omega)]; exact z.s139, by rw [e 140 (by omega)]; exact z.s140, by rw [e 141 (by omega)]; exact z.s141, by rw [e 143 (by omega)]; exact z.s143, by rw [e 142 (by omega)]; exact z.tx, by rw [e 144 (by omega)]; exact z.y144, by rw [e 145 (by omega)]; exact z.y145, by rw [e 146 (by omega)]; exact z.y146, fun t ht => by rw [e _ (by omega)]; exact z.it t ht, ⟨f, ha⟩⟩, o.lo (by omega)⟩
/-- places of the reading -/
theorem RM.pos {a1 a2 a3 a4 : Int32} (z : RM S h) (o : Off 91 91 h g) (ha : lk g 91 = some (6, [.ref 92, .ref 93, .int (bI S.2.1.isSome), .ref 94, .int (nI (np S.1.1)), .ref 137, .ref 138, .ref 139, .ref 140, .ref 141, .ref 142, .int (nI S.2.2.1.length), .int a1, .int a2, .int a3, .ref 143, .int a4, .ref 144, .ref 145, .ref 146, .ref 153])) : RM S g ∧ Lo h g := by
  have e := o.2
  exact ⟨⟨z.ok, o.1.trans z.sz, ⟨a1, a2, a3, a4, ha⟩, z.gg.hi (e 92 (by omega)), z.k.mv (e 93 (by omega)), z.R.mv (fun k _ _ => e k (by omega)), by rw [e 137 (by omega)]; exact z.s137, by rw [e 138 (by omega)]; exact z.s138, by rw [e 139 (by omega)]; exact z.s139, by rw [e 140 (by omega)]; exact z.s140, by rw [e 141 (by omega)]; exact z.s141, by rw [e 143 (by omega)]; exact z.s143, by rw [e 142 (by omega)]; exact z.tx, by rw [e 144 (by omega)]; exact z.y144, by rw [e 145 (by omega)]; exact z.y145, by rw [e 146 (by omega)]; exact z.y146, fun t ht => by rw [e _ (by omega)]; exact z.it t ht, by rw [e 153 (by omega)]; exact z.s153⟩, o.lo (by omega)⟩
/-- another text -/
theorem RM.txt {tx : List Int32} {a1 a2 a3 a4 : Int32} {T : Nat → Int32} (z : RM S h) (o1 : g.1 = h.1) (e : ∀ k, ¬ k = 91 → ¬ k = 142 → lk g k = lk h k) (ha : lk g 91 = some (6, [.ref 92, .ref 93, .int (bI S.2.1.isSome), .ref 94, .int (nI (np S.1.1)), .ref 137, .ref 138, .ref 139, .ref 140, .ref 141, .ref 142, .int (nI tx.length), .int a1, .int a2, .int a3, .ref 143, .int a4, .ref 144, .ref 145, .ref 146, .ref 153])) (hb : lk g 142 = some (10, ra 100 T)) (hc : ∀ i c, tx[i]? = some c → T i = c) (hg : tx.length ≤ 100 ∧ ∀ c ∈ tx, ∃ k, k < 128 ∧ c = nI k) : RM (S.1, S.2.1, tx, S.2.2.2) g ∧ Lo h g := by
  exact ⟨⟨⟨z.ok.1, z.ok.2.1, hg, z.ok.2.2.2⟩, o1.trans z.sz, ⟨a1, a2, a3, a4, ha⟩, z.gg.hi (e 92 (by omega) (by omega)), z.k.mv (e 93 (by omega) (by omega)), z.R.mv (fun k _ _ => e k (by omega) (by omega)), by rw [e 137 (by omega) (by omega)]; exact z.s137, by rw [e 138 (by omega) (by omega)]; exact z.s138, by rw [e 139 (by omega) (by omega)]; exact z.s139, by rw [e 140 (by omega) (by omega)]; exact z.s140, by rw [e 141 (by omega) (by omega)]; exact z.s141, by rw [e 143 (by omega) (by omega)]; exact z.s143, ⟨T, hb, hc⟩, by rw [e 144 (by omega) (by omega)]; exact z.y144, by rw [e 145 (by omega) (by omega)]; exact z.y145, by rw [e 146 (by omega) (by omega)]; exact z.y146, fun t ht => by rw [e _ (by omega) (by omega)]; exact z.it t ht, by rw [e 153 (by omega) (by omega)]; exact z.s153⟩, o1, fun k hk => e k (by omega) (by omega)⟩
/-- other tapes -/
theorem RM.tps {tp : Nat → Int32 × Nat × (Nat → Int64)} (z : RM S h) (o : Off 144 152 h g) (h1 : lk g 144 = some (10, ra 6 (fun t => (tp t).1))) (h2 : lk g 145 = some (10, ra 6 (fun t => nI (tp t).2.1))) (h3 : lk g 146 = some (14, [.ref 147, .ref 148, .ref 149, .ref 150, .ref 151, .ref 152])) (h4 : ∀ t, t < 6 → lk g (147 + t) = some (12, rl 60 (tp t).2.2)) (hg : ∀ t, t < 6 → TpOk (tp t)) : RM (S.1, S.2.1, S.2.2.1, tp) g ∧ Lo h g := by
  have e := o.2
  exact ⟨⟨⟨z.ok.1, z.ok.2.1, z.ok.2.2.1, hg⟩, o.1.trans z.sz, by rw [e 91 (by omega)]; exact z.o, z.gg.hi (e 92 (by omega)), z.k.mv (e 93 (by omega)), z.R.mv (fun k _ _ => e k (by omega)), by rw [e 137 (by omega)]; exact z.s137, by rw [e 138 (by omega)]; exact z.s138, by rw [e 139 (by omega)]; exact z.s139, by rw [e 140 (by omega)]; exact z.s140, by rw [e 141 (by omega)]; exact z.s141, by rw [e 143 (by omega)]; exact z.s143, by rw [e 142 (by omega)]; exact z.tx, h1, h2, h3, h4, by rw [e 153 (by omega)]; exact z.s153⟩, o.lo (by omega)⟩
end AC
section VR
variable {l : Launch} {E : RE} {q : MI} {d : Nat} {h0 : PH} {mc ms : Nat} {Q : Option Value → PH → Prop} {pc nx : Nat} {ls : List (Nat × Value)} {st : List Value} {h : PH} {cells slots : Nat}
theorem V.iastR {a j N : Nat} {f : Nat → Int32} {i x : Int32} (ho : lk h a = some (10, ra N f)) (hi : ¬ i < 0) (hj : i.toNatClampNeg = j) (hv : j < N) (hd : D q.2.1 pc .iastore 1 nx) (kk : V l E q d h0 mc ms Q nx ls st (up h a (10, ra N (uI f j x))) cells slots) : V l E q d h0 mc ms Q pc ls (.int x :: .int i :: .ref a :: st) h cells slots := V.iast ho hi hj (by rw [ra_len]; exact hv) hd (by rw [ra_set]; exact kk)
theorem V.lastR {a j N : Nat} {f : Nat → Int64} {i : Int32} {x : Int64} (ho : lk h a = some (12, rl N f)) (hi : ¬ i < 0) (hj : i.toNatClampNeg = j) (hv : j < N) (hd : D q.2.1 pc .lastore 1 nx) (kk : V l E q d h0 mc ms Q nx ls st (up h a (12, rl N (uL f j x))) cells slots) : V l E q d h0 mc ms Q pc ls (.long x :: .int i :: .ref a :: st) h cells slots := V.last ho hi hj (by rw [rl_len]; exact hv) hd (by rw [rl_set]; exact kk)
theorem V.bastR {a j N : Nat} {f : Nat → Int32} {i x : Int32} (ho : lk h a = some (11, ra N f)) (hi : ¬ i < 0) (hj : i.toNatClampNeg = j) (hv : j < N) (hd : D q.2.1 pc .bastore 1 nx) (kk : V l E q d h0 mc ms Q nx ls st (up h a (11, ra N (uI f j x.toInt8.toInt32))) cells slots) : V l E q d h0 mc ms Q pc ls (.int x :: .int i :: .ref a :: st) h cells slots := V.bast ho hi hj (by rw [ra_len]; exact hv) hd (by rw [ra_set]; exact kk)
theorem V.topl {x y : Int64} (e : x = y) (k : V l E q d h0 mc ms Q pc ls (.long y :: st) h cells slots) : V l E q d h0 mc ms Q pc ls (.long x :: st) h cells slots := e ▸ k
end VR
theorem tb_lt {n : Nat} (h1 : 2 ≤ n) (h2 : n ≤ 5) : 2 ≤ tb n ∧ tb n + 12 < 54 := by
  unfold tb
  omega
theorem rowsAt {p : Nat} (hp : p < 42) : ((List.range 42).map (fun j => Value.ref (95 + j)))[p]? = some (.ref (95 + p)) := by simp [hp]
theorem ra5_id (f : Nat → Int32) : ra 5 (uI (uI (uI (uI (uI f 0 1) 1 2) 2 3) 3 4) 4 5) = ra 5 (fun j => nI (j + 1)) := rfl
theorem LabOk.id {n : Nat} (hn : n ≤ 5) : LabOk n (fun j => nI (j + 1)) := ⟨fun i hi => ⟨i + 1, by omega, hi, rfl⟩, fun i j hi hj e => by
  have := (nI_eq (a := i + 1) (b := j + 1) (by omega) (by omega)).mp e
  omega⟩
theorem uI_e {f : Nat → Int32} {j : Nat} {x : Int32} : uI f j x j = x := if_pos rfl
theorem uI_n {f : Nat → Int32} {j k : Nat} {x : Int32} (h : k ≠ j) : uI f j x k = f k := if_neg h
theorem uL_e {f : Nat → Int64} {j : Nat} {x : Int64} : uL f j x j = x := if_pos rfl
theorem uL_n {f : Nat → Int64} {j k : Nat} {x : Int64} (h : k ≠ j) : uL f j x k = f k := if_neg h
theorem ti_m14 : (-14 : Int32).toInt = -14 := by decide
theorem ti_m13 : (-13 : Int32).toInt = -13 := by decide
theorem ti_m12 : (-12 : Int32).toInt = -12 := by decide
theorem ti_m11 : (-11 : Int32).toInt = -11 := by decide
theorem ti_m8 : (-8 : Int32).toInt = -8 := by decide
theorem ti_m5 : (-5 : Int32).toInt = -5 := by decide
theorem ti_m4 : (-4 : Int32).toInt = -4 := by decide
theorem ti_m3 : (-3 : Int32).toInt = -3 := by decide
theorem ti_m2 : (-2 : Int32).toInt = -2 := by decide
theorem ti_m1 : (-1 : Int32).toInt = -1 := by decide
theorem ti_0 : (0 : Int32).toInt = 0 := by decide
theorem ti_1 : (1 : Int32).toInt = 1 := by decide
theorem ti_2 : (2 : Int32).toInt = 2 := by decide
theorem ti_3 : (3 : Int32).toInt = 3 := by decide
theorem ti_4 : (4 : Int32).toInt = 4 := by decide
theorem ti_5 : (5 : Int32).toInt = 5 := by decide
theorem ti_6 : (6 : Int32).toInt = 6 := by decide
theorem ti_8 : (8 : Int32).toInt = 8 := by decide
theorem ti_10 : (10 : Int32).toInt = 10 := by decide
theorem ti_12 : (12 : Int32).toInt = 12 := by decide
theorem ti_48 : (48 : Int32).toInt = 48 := by decide
theorem ti_57 : (57 : Int32).toInt = 57 := by decide
theorem ti_60 : (60 : Int32).toInt = 60 := by decide
theorem ti_99 : (99 : Int32).toInt = 99 := by decide
theorem ti_100 : (100 : Int32).toInt = 100 := by decide
theorem ti_127 : (127 : Int32).toInt = 127 := by decide
theorem ti_128 : (128 : Int32).toInt = 128 := by decide
theorem tl_m8 : (-8 : Int64).toInt = -8 := by decide
theorem tl_m1 : (-1 : Int64).toInt = -1 := by decide
theorem tl_0 : (0 : Int64).toInt = 0 := by decide
theorem tl_1 : (1 : Int64).toInt = 1 := by decide
theorem tl_2 : (2 : Int64).toInt = 2 := by decide
theorem tl_3 : (3 : Int64).toInt = 3 := by decide
theorem tl_4 : (4 : Int64).toInt = 4 := by decide
theorem tl_5 : (5 : Int64).toInt = 5 := by decide
theorem tl_8 : (8 : Int64).toInt = 8 := by decide
theorem tl_10 : (10 : Int64).toInt = 10 := by decide
theorem tl_57 : (57 : Int64).toInt = 57 := by decide
theorem tl_48 : (48 : Int64).toInt = 48 := by decide
theorem tl_127 : (127 : Int64).toInt = 127 := by decide
/-- PATH p is chosen -/
def chG (s : SG) (p : Nat) : SG := (s.1, p, (fun j => nI (j + 1)), s.2.2.2)
def chS (S : SS) (p : Nat) : SS := (chG S.1 p, S.2)
theorem GOk.ch {s : SG} (z : GOk s) {p : Nat} (hp : p < np s.1) : GOk (chG s p) := ⟨z.1, z.2.1, hp, LabOk.id z.2.1, z.2.2.2.2⟩
