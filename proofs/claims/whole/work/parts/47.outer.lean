/-! ===== the outer layer: constructors, the law: any world, cells are made ===== -/
abbrev kX : Type := (Program × Launch × Env × Room × State) × (MethodId × Array Value × List Frame × Method × Code) × Nat × (State → Prop)
def kG (x : kX) (pc : Nat) (lv : List (Nat × Value)) (st : List Value) (I : Heap → List Loc → Prop) (C S : Nat) : Prop :=
  ∀ (H : Heap) (locs : List Loc) (ls : Array Slot), I H locs → lv_has ls x.2.2.1 lv →
    W x.1.1 x.1.2.1 x.1.2.2.1 x.1.2.2.2.1 x.1.2.2.2.2 x.2.1.1 x.2.1.2.1 x.2.1.2.2.1 x.2.1.2.2.2.1 x.2.1.2.2.2.2 H locs C S x.2.2.2 (F0 x.2.1.1 pc ls st)
def kOk (x : kX) (cc : ByteArray) (own : String) (nL : Nat) : Prop :=
  x.1.1.tables.exec = Jvm.exec ∧ x.2.1.2.2.2.2.code = cc ∧ x.2.1.2.2.2.2.maxLocals = x.2.2.1 ∧ x.2.2.1 = nL ∧ x.1.2.2.2.2.vm.findClass own = some x.2.1.1.cls ∧ (∀ w ∈ gT, w.before x.2.1.2.1 x.1.2.2.2.2 = true) ∧ x.2.1.2.2.2.1.locks = false
section KG
variable {x : kX} {cc : ByteArray} {own : String} {nL : Nat} {pc : Nat} {lv : List (Nat × Value)} {st : List Value} {I : Heap → List Loc → Prop} {C S : Nat}
theorem k_lv {lv' : List (Nat × Value)} (hl : lv'.map (fun q => lvg lv q.1) = lv'.map (fun q => some q.2)) (k : kG x pc lv' st I C S) : kG x pc lv st I C S := by
  intro H locs ls hP h
  refine k H locs ls hP ⟨h.1, h.2.1, fun q hq => ?_⟩
  have h1 : lvg lv q.1 = some q.2 := by
    obtain ⟨i, hi⟩ := List.getElem?_of_mem hq
    have h2 := congrArg (fun t : List (Option Value) => t[i]?) hl
    simp only [List.getElem?_map, hi, Option.map_some] at h2
    exact Option.some.inj h2
  exact lvg_at h h1
theorem k_iconst (h : kOk x cc own nL) {k : Int} (hd : decode cc pc = .ok (.iconst k, 1)) (hv : Int32.ofInt k = Int32.ofInt k) (kk : kG x (pc + 1) lv (mI k :: st) I C S) : kG x pc lv st I C S :=
  fun H locs ls hP hl => lv_iconst h.1 h.2.1 hd hv (kk H locs ls hP hl)
theorem k_bipush (h : kOk x cc own nL) {k : Int} (hd : decode cc pc = .ok (.bipush k, 2)) (hv : (Int8.ofInt k).toInt32 = Int32.ofInt k) (kk : kG x (pc + 2) lv (mI k :: st) I C S) : kG x pc lv st I C S :=
  fun H locs ls hP hl => lv_bipush h.1 h.2.1 hd hv (kk H locs ls hP hl)
theorem k_sipush (h : kOk x cc own nL) {k : Int} (hd : decode cc pc = .ok (.sipush k, 3)) (hv : (Int16.ofInt k).toInt32 = Int32.ofInt k) (kk : kG x (pc + 3) lv (mI k :: st) I C S) : kG x pc lv st I C S :=
  fun H locs ls hP hl => lv_sipush h.1 h.2.1 hd hv (kk H locs ls hP hl)
theorem k_iload_n (h : kOk x cc own nL) {k : Fin 4} {a : Int} (hd : decode cc pc = .ok (.iload_n k, 1)) (hl9 : lvg lv (k : Nat) = some (mI a)) (kk : kG x (pc + 1) lv (mI a :: st) I C S) : kG x pc lv st I C S :=
  fun H locs ls hP hl => lv_iload_n h.1 h.2.1 hd rfl (lvg_at hl hl9) (kk H locs ls hP hl)
theorem k_istore_n (h : kOk x cc own nL) {k : Fin 4} {a : Int} (hd : decode cc pc = .ok (.istore_n k, 1)) (hn : (k : Nat) < nL) (ho : lvo lv (k : Nat) = true) (kk : kG x (pc + 1) (lvs lv (k : Nat) (mI a)) st I C S) : kG x pc lv (mI a :: st) I C S :=
  fun H locs ls hP hl => lv_istore_n h.1 h.2.1 hd rfl hl (by rw [h.2.2.2.1]; exact hn) rfl (fun ls' hl' => kk H locs ls' hP (lvs_has hl' ho))
theorem k_aload_n (h : kOk x cc own nL) {k : Fin 4} {a : Nat} (hd : decode cc pc = .ok (.aload_n k, 1)) (hl9 : lvg lv (k : Nat) = some (.ref a)) (kk : kG x (pc + 1) lv (.ref a :: st) I C S) : kG x pc lv st I C S :=
  fun H locs ls hP hl => lv_aload_n h.1 h.2.1 hd rfl (lvg_at hl hl9) (kk H locs ls hP hl)
theorem k_astore_n (h : kOk x cc own nL) {k : Fin 4} {a : Nat} (hd : decode cc pc = .ok (.astore_n k, 1)) (hn : (k : Nat) < nL) (ho : lvo lv (k : Nat) = true) (kk : kG x (pc + 1) (lvs lv (k : Nat) (.ref a)) st I C S) : kG x pc lv (.ref a :: st) I C S :=
  fun H locs ls hP hl => lv_astore_n h.1 h.2.1 hd rfl hl (by rw [h.2.2.2.1]; exact hn) rfl (fun ls' hl' => kk H locs ls' hP (lvs_has hl' ho))
theorem k_iinc (h : kOk x cc own nL) {k : Nat} {d a : Int} (hd : decode cc pc = .ok (.iinc k d, 3)) (hl9 : lvg lv k = some (mI a)) (hn : k < nL) (ho : lvo lv k = true) (kk : kG x (pc + 3) (lvs lv k (mI (a + d))) st I C S) : kG x pc lv st I C S := by
  intro H locs ls hP hl
  obtain ⟨i, hi⟩ := List.getElem?_of_mem (lvg_mem hl9)
  refine lv_iinc (x := Int32.ofInt a) (v := Int32.ofInt (a + d)) h.1 h.2.1 hd hl hi (Int32.ofInt_add a d).symm (by rw [h.2.2.2.1]; exact hn) rfl (fun ls' hl' => kk H locs ls' hP (lvs_has hl' ho))
theorem k_iadd (h : kOk x cc own nL) {a b : Int} (hd : decode cc pc = .ok (.iadd, 1)) (kk : kG x (pc + 1) lv (mI (a + b) :: st) I C S) : kG x pc lv (mI b :: mI a :: st) I C S := by
  intro H locs ls hP hl
  have q := kk H locs ls hP hl
  have e := Int32.ofInt_add a b
  refine lv_iadd (x := Int32.ofInt a) (y := Int32.ofInt b) h.1 h.2.1 hd ?_
  rw [← e]
  exact q
theorem k_isub (h : kOk x cc own nL) {a b : Int} (hd : decode cc pc = .ok (.isub, 1)) (kk : kG x (pc + 1) lv (mI (a - b) :: st) I C S) : kG x pc lv (mI b :: mI a :: st) I C S := by
  intro H locs ls hP hl
  have q := kk H locs ls hP hl
  have e := Int32.ofInt_sub a b
  refine lv_isub (x := Int32.ofInt a) (y := Int32.ofInt b) h.1 h.2.1 hd ?_
  rw [← e]
  exact q
theorem k_iand (h : kOk x cc own nL) {a b : Int} (hd : decode cc pc = .ok (.iand, 1)) (kk : kG x (pc + 1) lv (mI (iAnd a b) :: st) I C S) : kG x pc lv (mI b :: mI a :: st) I C S := by
  intro H locs ls hP hl
  have q := kk H locs ls hP hl
  have e := (Int32.ofInt_toInt _ : Int32.ofInt (iAnd a b) = Int32.ofInt a &&& Int32.ofInt b)
  refine lv_iand (x := Int32.ofInt a) (y := Int32.ofInt b) h.1 h.2.1 hd ?_
  rw [← e]
  exact q
theorem k_dup (h : kOk x cc own nL) {v : Value} (hd : decode cc pc = .ok (.dup, 1)) (hv : v.category = 1) (kk : kG x (pc + 1) lv (v :: v :: st) I C S) : kG x pc lv (v :: st) I C S :=
  fun H locs ls hP hl => lv_dup h.1 h.2.1 hd hv (kk H locs ls hP hl)
theorem k_goto (h : kOk x cc own nL) {off : Int} {tgt : Nat} (hd : decode cc pc = .ok (.goto off, 3)) (ht : (pc : Int) + off = (tgt : Int)) (kk : kG x tgt lv st I C S) : kG x pc lv st I C S :=
  fun H locs ls hP hl => lv_goto h.1 h.2.1 hd ht (kk H locs ls hP hl)
theorem k_icmp_ge (h : kOk x cc own nL) {a b : Int} {off : Int} {tgt : Nat} (hd : decode cc pc = .ok (.if_icmp .ge off, 3)) (ht : (pc : Int) + off = (tgt : Int)) (ha : i32 a) (hb : i32 b) (kt : b ≤ a → kG x tgt lv st I C S) (kf : ¬ b ≤ a → kG x (pc + 3) lv st I C S) : kG x pc lv (mI b :: mI a :: st) I C S :=
  fun H locs ls hP hl => lv_icmp_ge (x := Int32.ofInt a) (y := Int32.ofInt b) h.1 h.2.1 hd ht (fun c => kt ((i32_le hb ha).mp c) H locs ls hP hl) (fun c => kf (fun q => c ((i32_le hb ha).mpr q)) H locs ls hP hl)
theorem k_icmp_gt (h : kOk x cc own nL) {a b : Int} {off : Int} {tgt : Nat} (hd : decode cc pc = .ok (.if_icmp .gt off, 3)) (ht : (pc : Int) + off = (tgt : Int)) (ha : i32 a) (hb : i32 b) (kt : b < a → kG x tgt lv st I C S) (kf : ¬ b < a → kG x (pc + 3) lv st I C S) : kG x pc lv (mI b :: mI a :: st) I C S :=
  fun H locs ls hP hl => lv_icmp_gt (x := Int32.ofInt a) (y := Int32.ofInt b) h.1 h.2.1 hd ht (fun c => kt ((i32_lt hb ha).mp c) H locs ls hP hl) (fun c => kf (fun q => c ((i32_lt hb ha).mpr q)) H locs ls hP hl)
theorem k_icmp_eq (h : kOk x cc own nL) {a b : Int} {off : Int} {tgt : Nat} (hd : decode cc pc = .ok (.if_icmp .eq off, 3)) (ht : (pc : Int) + off = (tgt : Int)) (ha : i32 a) (hb : i32 b) (kt : a = b → kG x tgt lv st I C S) (kf : ¬ a = b → kG x (pc + 3) lv st I C S) : kG x pc lv (mI b :: mI a :: st) I C S :=
  fun H locs ls hP hl => lv_icmp_eq (x := Int32.ofInt a) (y := Int32.ofInt b) h.1 h.2.1 hd ht (fun c => kt ((i32_eq ha hb).mp c) H locs ls hP hl) (fun c => kf (fun q => c ((i32_eq ha hb).mpr q)) H locs ls hP hl)
theorem k_if_eq (h : kOk x cc own nL) {a : Int} {off : Int} {tgt : Nat} (hd : decode cc pc = .ok (.ifCond .eq off, 3)) (ht : (pc : Int) + off = (tgt : Int)) (ha : i32 a) (kt : a = 0 → kG x tgt lv st I C S) (kf : ¬ a = 0 → kG x (pc + 3) lv st I C S) : kG x pc lv (mI a :: st) I C S := by
  have hb : i32 0 := ⟨by omega, by omega⟩
  intro H locs ls hP hl
  refine lv_if_eq (x := Int32.ofInt a) h.1 h.2.1 hd ht (fun c => ?_) (fun c => ?_)
  · rw [i32_0] at c
    exact kt ((i32_eq ha hb).mp c) H locs ls hP hl
  · rw [i32_0] at c
    exact kf (fun q => c ((i32_eq ha hb).mpr q)) H locs ls hP hl
theorem k_tsIn (h : kOk x cc own nL) {a v : Int} {dflt lo hi : Int} {offs : Array Int} {len tgt : Nat} {off : Int} (hd : decode cc pc = .ok (.tableswitch dflt lo hi offs, len)) (e : a = v) (ha : -2147483648 ≤ v ∧ v ≤ 2147483647) (h1 : ¬ v < lo) (h2 : ¬ hi < v) (ho : offs[(v - lo).toNat]? = some off) (ht : (pc : Int) + off = (tgt : Int)) (kk : kG x tgt lv st I C S) : kG x pc lv (mI a :: st) I C S := by
  subst e
  intro H locs ls hP hl
  have q := i32_to (a := a) ha
  exact lv_tableIn (x := Int32.ofInt a) h.1 h.2.1 hd (by rw [q]; exact h1) (by rw [q]; exact h2) (by rw [q]; exact ho) ht (kk H locs ls hP hl)
theorem k_tsOut (h : kOk x cc own nL) {a : Int} {dflt lo hi : Int} {offs : Array Int} {len tgt : Nat} (hd : decode cc pc = .ok (.tableswitch dflt lo hi offs, len)) (ha : i32 a) (ho : a < lo ∨ hi < a) (ht : (pc : Int) + dflt = (tgt : Int)) (kk : kG x tgt lv st I C S) : kG x pc lv (mI a :: st) I C S :=
  fun H locs ls hP hl => lv_tableOut (x := Int32.ofInt a) h.1 h.2.1 hd (by rw [i32_to ha]; exact ho) ht (kk H locs ls hP hl)
theorem k_lcmp (h : kOk x cc own nL) {a b : Int} (hd : decode cc pc = .ok (.lcmp, 1)) (ha : i64 a) (hb : i64 b) (kk : kG x (pc + 1) lv (mI (cmp3 a b) :: st) I C S) : kG x pc lv (mL b :: mL a :: st) I C S := by
  intro H locs ls hP hl
  have q := kk H locs ls hP hl
  have e : Int32.ofInt (cmp3 a b) = lg_cmp (Int64.ofInt a) (Int64.ofInt b) := by
    unfold cmp3 lg_cmp
    simp only [gt_iff_lt, Int64.lt_iff_toInt_lt, ← Int64.toInt_inj, i64_to ha, i64_to hb]
    by_cases h1 : b < a
    · rw [if_pos h1, if_pos h1]; decide
    · rw [if_neg h1, if_neg h1]
      by_cases h2 : a = b
      · rw [if_pos h2, if_pos h2]; decide
      · rw [if_neg h2, if_neg h2]; decide
  refine W.lcmp (x := Int64.ofInt a) (y := Int64.ofInt b) h.1 h.2.1 hd ?_
  rw [← e]
  exact q
theorem k_val {a b : Int} (e : a = b) (k : kG x pc lv (mI b :: st) I C S) : kG x pc lv (mI a :: st) I C S := e ▸ k
theorem k_wide {C' S' : Nat} (h1 : C ≤ C') (h2 : S ≤ S') (k : kG x pc lv st I C' S') : kG x pc lv st I C S := fun H locs ls hP hl => W.widen h1 h2 (k H locs ls hP hl)
end KG
/-! constructors -/
def nEv (D : va_G) (cs : mC) (U : State) : Prop := va_K D vwCl (mTy cs) U ∧ mNW U ∧ va_AO "MoonVeto$Bill" U ∧ va_AO "MoonVeto$Sheet" U
theorem nEv.warm {D : va_G} {cs : mC} {s U : State} (hW : s.WarmedH U.vm) (h : nEv D cs s) : nEv D cs U := ⟨va_K.moved hW.alike h.1, h.2.1.warm hW, va_AO.moved hW.alike h.2.2.1, va_AO.moved hW.alike h.2.2.2⟩
theorem nEv.same {D : va_G} {cs : mC} {u U : State} (hv : u.vm = U.vm) (h : nEv D cs u) : nEv D cs U := by
  have ha : u.vm.Alike U.vm := by rw [hv]; exact Vm.Alike.refl _
  exact ⟨va_K.moved ha h.1, h.2.1.same hv, va_AO.moved ha h.2.2.1, va_AO.moved ha h.2.2.2⟩
def nLev (n mc ms : Nat) : Room := { frames := n, cells := mc, slots := ms, locals := 40 * n }
def nPre (D : va_G) (cs : mC) (pre : va_W) (sz : Nat) (U : State) : Prop := U.heap.size = sz ∧ va_P D vwCl pre U.heap ∧ nEv D cs U ∧ va_D (fun _ => True) pre
def nAt (D : va_G) (cs : mC) (pre : va_W) (sz : Nat) (ws : va_W) (t : State) : Prop := va_P D vwCl ws t.heap ∧ va_D (va_A pre sz) ws
theorem nPre.blind {D : va_G} {cs : mC} {pre : va_W} {sz : Nat} {av : List Value} : FrameBlind (va_Pc av (nPre D cs pre sz)) := by
  intro a U g mk q
  obtain ⟨q0, q1, qP, qE, qD⟩ := q
  exact ⟨q0, q1, qP, qE.same (u := U) (U := U.calling g mk a) rfl, qD⟩
/-- a constructor's contract: from the cells pre to the cells that post tells -/
def NV (l : Launch) (D : va_G) (cs : mC) (μ : mM) (n mc ms : Nat) (av : List Value) (pre : va_W) (post : va_W → Prop) : Prop :=
  ∀ sz : Nat, Met l μ.1 (mWs μ) (nLev n mc ms) (va_Pc av (nPre D cs pre sz)) (va_Qv post (nAt D cs pre sz) (va_A pre sz)) mc ms (va_A pre sz)
def nWd (D : va_G) (A : Nat → Prop) (s : State) (ws : va_W) : Heap → List Loc → Prop := fun H locs => va_P D vwCl ws H ∧ va_D A ws ∧ va_S A s.heap H locs
def nOk (x : kX) (l : Launch) (μ : mM) (R : Room) (D : va_G) (cs : mC) (A : Nat → Prop) : Prop :=
  kOk x μ.2.1 μ.1.cls μ.2.2.1 ∧ nEv D cs x.1.2.2.2.2 ∧ (∀ q : Nat, x.1.2.2.2.2.heap.size ≤ q → A q) ∧ x.1.2.2.2.1 = R ∧ x.1.2.1 = l
def rN (x : kX) (D : va_G) (cs : mC) (A : Nat → Prop) (mc ms : Nat) (pre : va_W) (post : va_W → Prop) : Prop :=
  x.2.1.2.2.2.1.sig.returnType = none ∧ x.2.1.2.2.2.1.name = "<init>" ∧ A = va_A pre x.1.2.2.2.2.heap.size ∧ x.2.2.2 = MQ x.2.1.2.2.1 (va_Qv post (nAt D cs pre x.1.2.2.2.2.heap.size) (va_A pre x.1.2.2.2.2.heap.size)) x.2.1.2.1 x.1.2.2.2.2 mc ms (va_A pre x.1.2.2.2.2.heap.size)
theorem NV.of {l : Launch} {D : va_G} {cs : mC} {μ : mM} {n mc ms : Nat} {av : List Value} {pre : va_W} {post : va_W → Prop} (hy : plainName μ.1.cls = true) (hret : μ.2.2.2 = none) (hin : μ.1.name = "<init>") (hn : (lg_sl av).length ≤ μ.2.2.1)
    (body : ∀ (x : kX) (A : Nat → Prop), nOk x l μ (nLev n mc ms) D cs A → rN x D cs A mc ms pre post → kG x 0 (lv_args 0 av) [] (nWd D A x.1.2.2.2.2 pre) 0 0) : NV l D cs μ n mc ms av pre post := by
  intro sz
  refine Met.ofW (cc := μ.2.1) (maxL := μ.2.2.1) (ret := μ.2.2.2) hy rfl ?_
  intro p e s m args below meth c s₁ B hml hv
  obtain ⟨rfl, rfl, hP, hE, hD⟩ := hv
  have hts := atoms_spec (ws := mWs μ) B.pre
  rw [lg_entry_eq]
  have hnm : meth.name = "<init>" := (name_of_methodNamed B.named B.method).1.trans hin
  exact body ((p, l, e, nLev n mc ms, s), (m, av.toArray, below, meth, c), μ.2.2.1, MQ below (va_Qv post (nAt D cs pre s.heap.size) (va_A pre s.heap.size)) av.toArray s mc ms (va_A pre s.heap.size)) (va_A pre s.heap.size)
    ⟨⟨B.exec, B.bytes, hml, rfl, findClass_of_methodNamed B.named, fun w hw => hts w (List.mem_cons_of_mem _ hw), B.notSynchronized⟩, hE, fun q h => Or.inr h, rfl, rfl⟩ ⟨B.returns.trans hret, hnm, rfl, rfl⟩ s.heap [] _ ⟨hP, hD.self, va_S.rf⟩ (lv_entry av hn)
section NG
variable {x : kX} {l : Launch} {μ : mM} {R : Room} {D : va_G} {cs : mC} {A : Nat → Prop} {pc : Nat} {lv : List (Nat × Value)} {st : List Value} {ws : va_W} {C S : Nat}
theorem n_obj (h : nOk x l μ R D cs A) {idx : Nat} {a : Nat} {I : Heap → List Loc → Prop} (h1 : Cond.methodLink μ.1.cls idx objectInit ∈ gT) (h2 : Cond.instanceMethod objectInit ∈ gT) (h3 : Cond.code objectInit ⟨#[0xb1]⟩ 1 none ∈ gT) (hf : 1 ≤ R.frames) (hw : (st.map fun v => v.category).sum + 12 ≤ R.locals) (hd : decode μ.2.1 pc = .ok (.invokespecial idx, 3)) (kk : kG x (pc + 3) lv st I C S) : kG x pc lv (.ref a :: st) I C S := by
  obtain ⟨⟨hx, hb, hm, hnl, ho, ht, hlk⟩, hE, hA, hR, hll⟩ := h
  intro H locs ls hP hl
  refine W.objInit hx hb ho (ht _ h1) (ht _ h2) (ht _ h3) rfl (by rw [hm]; exact hl.1) rfl hd (by rw [hR]; exact hf) (by rw [hR]; show 2 * 0 + _ + 12 ≤ _; omega) ?_
  exact kk H locs ls hP hl
theorem n_newi (h : nOk x l μ R D cs A) {k : Int} {N : Nat} (q9 : Nat → va_W) (hk : k = (N : Int)) (hN : N ≤ 1000) (hc : C + 1 ≤ R.cells) (hs : S + N ≤ R.slots) (harr : Cond.arrayClass .int ∈ gT) (hd : decode μ.2.1 pc = .ok (.newarray .int, 2)) (hw : ∀ q : Nat, ws ++ [(q, .inl (cs.1, N, .inl (fun _ => 0)))] = q9 q) (kk : ∀ q : Nat, kG x (pc + 2) lv (.ref q :: st) (nWd D A x.1.2.2.2.2 (q9 q)) (C + 1) (S + N)) : kG x pc lv (mI k :: st) (nWd D A x.1.2.2.2.2 ws) C S := by
  obtain ⟨⟨hx, hb, hm, hnl, ho, ht, hlk⟩, hE, hA, hR, hll⟩ := h
  subst hk
  intro H locs ls hP hl
  refine va_newa (atype := .int) (ty := .int) (a0 := (N, .inl (fun _ => 0))) hx hb (ht _ harr) rfl hE.1 hP.1 hP.2.1 hP.2.2 hA (fun _ => rfl) (n := Int32.ofInt (N : Int)) (N' := N) ?_ ?_ ?_ (by rw [hR]; exact hc) (by rw [hR]; exact hs) hd (fun q cA H1 hK1 hP1 hD1 hS1 => ?_)
  · rw [i32_0, i32_lt ⟨by omega, by omega⟩ ⟨by omega, by omega⟩]; omega
  · rw [i32_cl (by omega) (by omega)]; omega
  · show N * 4 ≤ 536870912; omega
  · have e1 : x.1.2.2.2.2.vm.findClass ("[" ++ (FieldType.int).toString) = some cA := (hK1.2 4 (cA, .int) rfl).2
    have e2 : x.1.2.2.2.2.vm.findClass ("[" ++ (FieldType.int).toString) = some cs.1 := (hE.1.2 0 (cs.1, .int) rfl).2
    have e3 : cA = cs.1 := Option.some.inj (e1.symm.trans e2)
    subst e3
    exact kk q H1 locs ls (by rw [← hw q]; exact ⟨hP1, hD1, hS1⟩) hl
theorem n_newz (h : nOk x l μ R D cs A) {k : Int} {N : Nat} (q9 : Nat → va_W) (hk : k = (N : Int)) (hN : N ≤ 1000) (hc : C + 1 ≤ R.cells) (hs : S + N ≤ R.slots) (harr : Cond.arrayClass .boolean ∈ gT) (hd : decode μ.2.1 pc = .ok (.newarray .boolean, 2)) (hw : ∀ q : Nat, ws ++ [(q, .inl (cs.2.1, N, .inl (fun _ => 0)))] = q9 q) (kk : ∀ q : Nat, kG x (pc + 2) lv (.ref q :: st) (nWd D A x.1.2.2.2.2 (q9 q)) (C + 1) (S + N)) : kG x pc lv (mI k :: st) (nWd D A x.1.2.2.2.2 ws) C S := by
  obtain ⟨⟨hx, hb, hm, hnl, ho, ht, hlk⟩, hE, hA, hR, hll⟩ := h
  subst hk
  intro H locs ls hP hl
  refine va_newa (atype := .boolean) (ty := .boolean) (a0 := (N, .inl (fun _ => 0))) hx hb (ht _ harr) rfl hE.1 hP.1 hP.2.1 hP.2.2 hA (fun _ => rfl) (n := Int32.ofInt (N : Int)) (N' := N) ?_ ?_ ?_ (by rw [hR]; exact hc) (by rw [hR]; exact hs) hd (fun q cA H1 hK1 hP1 hD1 hS1 => ?_)
  · rw [i32_0, i32_lt ⟨by omega, by omega⟩ ⟨by omega, by omega⟩]; omega
  · rw [i32_cl (by omega) (by omega)]; omega
  · show N * 1 ≤ 536870912; omega
  · have e1 : x.1.2.2.2.2.vm.findClass ("[" ++ (FieldType.boolean).toString) = some cA := (hK1.2 4 (cA, .boolean) rfl).2
    have e2 : x.1.2.2.2.2.vm.findClass ("[" ++ (FieldType.boolean).toString) = some cs.2.1 := (hE.1.2 1 (cs.2.1, .boolean) rfl).2
    have e3 : cA = cs.2.1 := Option.some.inj (e1.symm.trans e2)
    subst e3
    exact kk q H1 locs ls (by rw [← hw q]; exact ⟨hP1, hD1, hS1⟩) hl
theorem n_newq (h : nOk x l μ R D cs A) {k : Int} {N t0 idx : Nat} {cA0 : ClassId} {K : String} (q9 : Nat → va_W) (hk : k = (N : Int)) (hN : N ≤ 1000) (hc : C + 1 ≤ R.cells) (hs : S + N ≤ R.slots) (hK : K = "MoonVeto$Bill" ∨ K = "MoonVeto$Sheet") (ht0 : (mTy cs)[t0]? = some (cA0, .object K)) (hcl : Cond.classLink μ.1.cls idx K ∈ gT) (hd : decode μ.2.1 pc = .ok (.anewarray idx, 3)) (hw : ∀ q : Nat, ws ++ [(q, .inl (cA0, N, .inr (.inr (.inr (.inr (fun _ => none))))))] = q9 q) (kk : ∀ q : Nat, kG x (pc + 3) lv (.ref q :: st) (nWd D A x.1.2.2.2.2 (q9 q)) (C + 1) (S + N)) : kG x pc lv (mI k :: st) (nWd D A x.1.2.2.2.2 ws) C S := by
  obtain ⟨⟨hx, hb, hm, hnl, ho, ht, hlk⟩, hE, hA, hR, hll⟩ := h
  subst hk
  intro H locs ls hP hl
  have hao : va_AO K x.1.2.2.2.2 := by
    rcases hK with rfl | rfl
    · exact hE.2.2.1
    · exact hE.2.2.2
  refine va_newq (C := K) hx hb ho (ht _ hcl) hao hE.1 hP.1 hP.2.1 hP.2.2 hA (n := Int32.ofInt (N : Int)) (N' := N) ?_ ?_ ?_ (by rw [hR]; exact hc) (by rw [hR]; exact hs) hd (fun q cA H1 hK1 hP1 hD1 hS1 => ?_)
  · rw [i32_0, i32_lt ⟨by omega, by omega⟩ ⟨by omega, by omega⟩]; omega
  · rw [i32_cl (by omega) (by omega)]; omega
  · omega
  · obtain ⟨kA, comp, -, -, -, e1⟩ := (hK1.2 4 (cA, .object K) rfl).2
    obtain ⟨kA', comp', -, -, -, e2⟩ := (hE.1.2 t0 (cA0, .object K) ht0).2
    have e3 : cA = cA0 := Option.some.inj (e1.symm.trans e2)
    subst e3
    exact kk q H1 locs ls (by rw [← hw q]; exact ⟨hP1, hD1, hS1⟩) hl
theorem n_new (h : nOk x l μ R D cs A) {K : String} {T : u_T} {N ci idx : Nat} {fs : List Value} (q9 : Nat → va_W) (hin : ∀ w ∈ u_ws K T N, w ∈ gT) (ty : Nat → FieldType) (hty : ∀ k, k < N → parseFieldDescriptor (T k).2.2.1 = some (ty k)) (hcl : Cond.classLink μ.1.cls idx K ∈ gT) (hins : Cond.instantiable K N ∈ gT) (hini : Cond.initialized K ∈ gT) (hci : vwCl[ci]? = some (K, T, N)) (hfs : ∀ j, j < N → defaultValue (ty j) = vp_V fs j) (hc : C + 1 ≤ R.cells) (hs : S + N ≤ R.slots) (hd : decode μ.2.1 pc = .ok (.new idx, 3)) (hw : ∀ q : Nat, ws ++ [(q, .inr (ci, fs))] = q9 q) (kk : ∀ q : Nat, kG x (pc + 3) lv (.ref q :: st) (nWd D A x.1.2.2.2.2 (q9 q)) (C + 1) (S + N)) : kG x pc lv st (nWd D A x.1.2.2.2.2 ws) C S := by
  obtain ⟨⟨hx, hb, hm, hnl, ho, ht, hlk⟩, hE, hA, hR, hll⟩ := h
  intro H locs ls hP hl
  exact va_new (fs := fs) hx hb ht hin ty hty ho (ht _ hcl) (ht _ hins) (ht _ hini) hE.1 hP.1 hP.2.1 hP.2.2 hA hci hfs (by rw [hR]; exact hc) (by rw [hR]; exact hs) hd (fun q H1 hP1 hD1 hS1 => kk q H1 locs ls (by rw [← hw q]; exact ⟨hP1, hD1, hS1⟩) hl)
theorem n_putF (h : nOk x l μ R D cs A) {K : String} {T : u_T} {N ci idx j q0 a : Nat} {fs : List Value} {v : Value} {ty : FieldType} (ws' : va_W) (hnm : x.2.1.2.2.2.1.name = "<init>") (hin : ∀ w ∈ u_ws K T N, w ∈ gT) (ty0 : Nat → FieldType) (hty : ∀ k, k < N → parseFieldDescriptor (T k).2.2.1 = some (ty0 k)) (hdn : ∀ a, a < N → ∀ b, b < N → a ≠ b → (T a).2.1 ≠ (T b).2.1) (hci : vwCl[ci]? = some (K, T, N)) (hj : j < N) (hL : Cond.fieldLink μ.1.cls idx (T j).1 (T j).2.1 (T j).2.2.1 ∈ gT) (hfin : (T j).2.2.2 = true) (hdecl : (T j).1 = μ.1.cls) (hdd : parseFieldDescriptor (T j).2.2.1 = some ty) (hnr : narrow ty v = v) (hft : fits ty v = true) (hlen : j < fs.length) (he : ws[q0]? = some (a, .inr (ci, fs))) (hd : decode μ.2.1 pc = .ok (.putfield idx, 3)) (hw : ws.set q0 (a, .inr (ci, fs.set j v)) = ws') (kk : kG x (pc + 3) lv st (nWd D A x.1.2.2.2.2 ws') C S) : kG x pc lv (v :: .ref a :: st) (nWd D A x.1.2.2.2.2 ws) C S := by
  obtain ⟨⟨hx, hb, hm, hnl, ho, ht, hlk⟩, hE, hA, hR, hll⟩ := h
  intro H locs ls hP hl
  exact va_putF hx hb ht hin ty0 hty hdn ho hE.1 hP.1 hP.2.1 hP.2.2 q0 he hci j hj (ht _ hL) (fun _ h9 => h9) hfin hnm hdecl hdd hnr hft hlen hd (fun H1 locs1 hP1 hD1 hS1 => kk H1 locs1 ls (by rw [← hw]; exact ⟨hP1, hD1, hS1⟩) hl)
theorem n_put (h : nOk x l μ R D cs A) {K : String} {T : u_T} {N ci idx j q0 a : Nat} {fs : List Value} {v : Value} {ty : FieldType} (ws' : va_W) (hin : ∀ w ∈ u_ws K T N, w ∈ gT) (ty0 : Nat → FieldType) (hty : ∀ k, k < N → parseFieldDescriptor (T k).2.2.1 = some (ty0 k)) (hdn : ∀ a, a < N → ∀ b, b < N → a ≠ b → (T a).2.1 ≠ (T b).2.1) (hci : vwCl[ci]? = some (K, T, N)) (hj : j < N) (hL : Cond.fieldLink μ.1.cls idx (T j).1 (T j).2.1 (T j).2.2.1 ∈ gT) (hfin : (T j).2.2.2 = false) (hdd : parseFieldDescriptor (T j).2.2.1 = some ty) (hnr : narrow ty v = v) (hft : fits ty v = true) (hlen : j < fs.length) (he : ws[q0]? = some (a, .inr (ci, fs))) (hd : decode μ.2.1 pc = .ok (.putfield idx, 3)) (hw : ws.set q0 (a, .inr (ci, fs.set j v)) = ws') (kk : kG x (pc + 3) lv st (nWd D A x.1.2.2.2.2 ws') C S) : kG x pc lv (v :: .ref a :: st) (nWd D A x.1.2.2.2.2 ws) C S := by
  obtain ⟨⟨hx, hb, hm, hnl, ho, ht, hlk⟩, hE, hA, hR, hll⟩ := h
  intro H locs ls hP hl
  exact va_put hx hb ht hin ty0 hty hdn ho hE.1 hP.1 hP.2.1 hP.2.2 q0 he hci j hj (ht _ hL) (fun _ h9 => h9) hfin hdd hnr hft hlen hd (fun H1 locs1 hP1 hD1 hS1 => kk H1 locs1 ls (by rw [← hw]; exact ⟨hP1, hD1, hS1⟩) hl)
theorem n_get (h : nOk x l μ R D cs A) {K : String} {T : u_T} {N ci idx j q0 a : Nat} {fs : List Value} {v : Value} (hin : ∀ w ∈ u_ws K T N, w ∈ gT) (hci : vwCl[ci]? = some (K, T, N)) (hj : j < N) (hL : Cond.fieldLink μ.1.cls idx (T j).1 (T j).2.1 (T j).2.2.1 ∈ gT) (he : ws[q0]? = some (a, .inr (ci, fs))) (hv : fs[j]? = some v) (hd : decode μ.2.1 pc = .ok (.getfield idx, 3)) (kk : kG x (pc + 3) lv (v :: st) (nWd D A x.1.2.2.2.2 ws) C S) : kG x pc lv (.ref a :: st) (nWd D A x.1.2.2.2.2 ws) C S := by
  obtain ⟨⟨hx, hb, hm, hnl, ho, ht, hlk⟩, hE, hA, hR, hll⟩ := h
  intro H locs ls hP hl
  exact va_get hx hb ht hin ho hE.1 hP.1 q0 he hci j hj (ht _ hL) (fun _ h9 => h9) hv hd (kk H locs ls hP hl)
theorem n_iast (h : nOk x l μ R D cs A) {i v : Int} {N q0 a : Nat} {f : Nat → Int32} (ws' : va_W) (he : ws[q0]? = some (a, .inl (cs.1, N, .inl f))) (hi0 : 0 ≤ i) (hi1 : i < (N : Int)) (hN : N ≤ 1000) (hd : decode μ.2.1 pc = .ok (.iastore, 1)) (hw : ws.set q0 (a, .inl (cs.1, N, .inl (upd f i.toNat (Int32.ofInt v)))) = ws') (kk : kG x (pc + 1) lv st (nWd D A x.1.2.2.2.2 ws') C S) : kG x pc lv (mI v :: mI i :: .ref a :: st) (nWd D A x.1.2.2.2.2 ws) C S := by
  obtain ⟨⟨hx, hb, hm, hnl, ho, ht, hlk⟩, hE, hA, hR, hll⟩ := h
  intro H locs ls hP hl
  refine va_iast (i := Int32.ofInt i) (x := Int32.ofInt v) hx hb hE.1 hP.1 hP.2.1 hP.2.2 q0 0 he rfl (i32_in hi0 hi1 (by omega)) hd (fun H1 locs1 hP1 hD1 hS1 => ?_)
  rw [i32_cl hi0 (by omega)] at hP1 hD1
  exact kk H1 locs1 ls (by rw [← hw]; exact ⟨hP1, hD1, hS1⟩) hl
theorem n_aast (h : nOk x l μ R D cs A) {i : Int} {N q0 a t0 qk ci b : Nat} {cA0 : ClassId} {r : vw_C} {vs : List Value} {f : Nat → Option Nat} (ws' : va_W) (he : ws[q0]? = some (a, .inl (cA0, N, .inr (.inr (.inr (.inr f)))))) (ht0 : (mTy cs)[t0]? = some (cA0, .object r.1)) (hv : ws[qk]? = some (b, .inr (ci, vs))) (hci : vwCl[ci]? = some r) (hi0 : 0 ≤ i) (hi1 : i < (N : Int)) (hN : N ≤ 1000) (hd : decode μ.2.1 pc = .ok (.aastore, 1)) (hw : ws.set q0 (a, .inl (cA0, N, .inr (.inr (.inr (.inr (va_up f i.toNat (some b))))))) = ws') (kk : kG x (pc + 1) lv st (nWd D A x.1.2.2.2.2 ws') C S) : kG x pc lv (.ref b :: mI i :: .ref a :: st) (nWd D A x.1.2.2.2.2 ws) C S := by
  obtain ⟨⟨hx, hb, hm, hnl, ho, ht, hlk⟩, hE, hA, hR, hll⟩ := h
  intro H locs ls hP hl
  refine va_astq (i := Int32.ofInt i) hx hb hE.1 hP.1 hP.2.1 hP.2.2 q0 t0 qk ci he ht0 hv hci (i32_in hi0 hi1 (by omega)) hd (fun H1 locs1 hP1 hD1 hS1 => ?_)
  rw [i32_cl hi0 (by omega)] at hP1 hD1
  exact kk H1 locs1 ls (by rw [← hw]; exact ⟨hP1, hD1, hS1⟩) hl
theorem n_ret {pre : va_W} {post : va_W → Prop} {mc ms : Nat} (h : nOk x l μ R D cs A) (hq : rN x D cs A mc ms pre post) (hc : C ≤ mc) (hs : S ≤ ms) (hd : decode μ.2.1 pc = .ok (.return_, 1)) (hp : post ws) : kG x pc lv [] (nWd D A x.1.2.2.2.2 ws) C S := by
  obtain ⟨⟨hx, hb, hm, hnl, ho, ht, hlk⟩, hE, hA, hR, hll⟩ := h
  obtain ⟨q1, q2, q3, q4⟩ := hq
  intro H locs ls hP hl
  refine W.widen hc hs ?_
  rw [q4]
  subst q3
  exact W.vret hx hb q1 (fun t ht hW => ⟨⟨ws, rfl, hp, by rw [ht]; exact hP.1, hP.2.1⟩, hP.2.2.F ht⟩) hP.2.2.2.2 hd hlk
/-- the cells in another order -/
theorem n_perm (ws' : va_W) (is : List Nat) (hn : va_nd is = true) (h1 : is.filterMap (fun i => ws[i]?) = ws') (h2 : is.map (fun i => ws[i]?) = ws'.map some) (kk : kG x pc lv st (nWd D A x.1.2.2.2.2 ws') C S) : kG x pc lv st (nWd D A x.1.2.2.2.2 ws) C S := fun H locs ls hP hl => kk H locs ls ⟨hP.1.sub is h1, hP.2.1.sub is hn h2, hP.2.2⟩ hl
def nLi (own : String) (idx : Nat) (ν : mM) : Prop := (Cond.methodLink own idx ν.1 ∈ gT ∨ ∃ host, Cond.methodLinkNest own idx ν.1 host ∈ nWs) ∧ Cond.instanceMethod ν.1 ∈ gT ∧ Cond.initialized ν.1.cls ∈ gT ∧ Cond.code ν.1 ν.2.1 ν.2.2.1 ν.2.2.2 ∈ gT ∧ (ν.1.cls ≠ "java/lang/invoke/MethodHandle" ∧ ν.1.cls ≠ "java/lang/invoke/VarHandle" ∧ (parseMethodDescriptor ν.1.desc).map (fun d => d.parameters.length) = some 0) ∧ ν.2.2.1 ≤ 20 ∧ ν.1.name = "<init>" ∧ ν.2.2.2 = none
theorem n_call (h : nOk x l μ R D cs A) {ν : mM} {k mc ms idx b : Nat} {wc wr : va_W} {post : va_W → Prop} (hC : NV l D cs ν k mc ms [.ref b] wc post) (hL : nLi μ.1.cls idx ν) (hf : k + 1 ≤ R.frames) (hlo : 8 + (20 + 11) + 40 * k ≤ R.locals) (hc : C + mc ≤ R.cells) (hs : S + ms ≤ R.slots) (isC isR : List Nat) (h1 : isC.filterMap (fun i => ws[i]?) = wc) (h2 : isC.map (fun i => ws[i]?) = wc.map some) (h3 : isR.map (fun i => ws[i]?) = wr.map some) (hnC : va_nd isC = true) (hn : va_nd isR = true) (hdis : ∀ i ∈ isR, i ∉ isC) (hd : decode μ.2.1 pc = .ok (.invokespecial idx, 3)) (hw9 : (st.map fun v => v.category).sum ≤ 8) (kk : ∀ w1 : va_W, post w1 → kG x (pc + 3) lv st (nWd D A x.1.2.2.2.2 (wr ++ w1)) (C + mc) (S + ms)) : kG x pc lv (.ref b :: st) (nWd D A x.1.2.2.2.2 ws) C S := by
  obtain ⟨⟨hx, hb, hm, hnl, ho, ht, hlk⟩, hE, hA, hR, hll⟩ := h
  subst hll
  obtain ⟨hl1, hl2, hl3, hl4, hl5, hl6, hl7, hl8⟩ := hL
  intro H locs ls hP hl
  have hPc := hP.1.sub isC h1
  have hDc := hP.2.1.sub isC hnC h2
  have hFc := va_free (wc := wc) hP.2.1 hP.2.2 hA isC h2
  have hps : PreS x.1.2.2.2.2 H (va_Pc [.ref b] (nPre D cs wc H.size)) (.ref b :: []) := ⟨nPre.blind, fun U hU hW => ⟨rfl, by rw [hU], by rw [hU]; exact hPc, hE.warm hW, hDc.weaken (fun _ _ _ _ => trivial)⟩⟩
  have hRR : (nLev k mc ms).frames + 1 ≤ x.1.2.2.2.1.frames ∧ 8 + (ν.2.2.1 + 11) + (nLev k mc ms).locals ≤ x.1.2.2.2.1.locals := by
    rw [hR]
    refine ⟨hf, ?_⟩
    show 8 + (ν.2.2.1 + 11) + 40 * k ≤ R.locals
    omega
  rcases hl1 with hl1 | ⟨host, hl1⟩
  · refine va_callv (va_runI (As := []) (rest := st) ⟨hx, hb, hm, ho, ht⟩ (hC H.size) ⟨hl8 ▸ callB_of 0 ht (mWs_good hl4) rfl rfl rfl (ht _ hl3) (ht _ hl1) hl5 hRR, hl7, ht _ hl2⟩ hps rfl rfl hl.1 rfl (lv_room hw9) hd (by rw [hR]; exact ⟨hc, hs⟩)) hP.2.2 (fun q _ h => hFc q h) hFc (fun u t H1 locs1 ht1 hvm hw hB hz1 hk1 hS1 => ?_)
    obtain ⟨hP1, hD1⟩ := va_join hP.1 hP.2.1 isC isR h2 h3 hn hdis hk1 hFc (by rw [← ht1]; exact hB.1) hB.2
    exact kk u hw H1 locs1 ls ⟨hP1, hD1, hS1⟩ hl
  · refine va_callv (va_runIN (As := []) (rest := st) ⟨hx, hb, hm, ho, ht⟩ (hC H.size) ⟨hl8 ▸ va_cnB 0 ht (mWs_good hl4) rfl rfl rfl (hE.2.1 _ hl1) (ht _ hl3) hl5 hRR, hl7, ht _ hl2⟩ hps rfl rfl hl.1 rfl (lv_room hw9) hd (by rw [hR]; exact ⟨hc, hs⟩)) hP.2.2 (fun q _ h => hFc q h) hFc (fun u t H1 locs1 ht1 hvm hw hB hz1 hk1 hS1 => ?_)
    obtain ⟨hP1, hD1⟩ := va_join hP.1 hP.2.1 isC isR h2 h3 hn hdis hk1 hFc (by rw [← ht1]; exact hB.1) hB.2
    exact kk u hw H1 locs1 ls ⟨hP1, hD1, hS1⟩ hl
end NG
