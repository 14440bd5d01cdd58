/-! ===== the layer: worlds of whole numbers; a method's walk is told of numbers alone ===== -/
abbrev mS : Type := Int → Int → Int
def mUp (σ : mS) (k j v : Int) : mS := fun a b => if a = k ∧ b = j then v else σ a b
theorem mUp_eq (σ : mS) (k j v : Int) : mUp σ k j v k j = v := by simp [mUp]
theorem mUp_ne (σ : mS) {k j a b : Int} (v : Int) (h : a ≠ k ∨ b ≠ j) : mUp σ k j v a b = σ a b := by
  unfold mUp
  rw [if_neg]
  intro q
  rcases h with h | h
  · exact h q.1
  · exact h q.2
def mI (x : Int) : Value := .int (Int32.ofInt x)
def mL (x : Int) : Value := .long (Int64.ofInt x)
def i32 (x : Int) : Prop := -2147483648 ≤ x ∧ x ≤ 2147483647
def i64 (x : Int) : Prop := -9223372036854775808 ≤ x ∧ x ≤ 9223372036854775807
theorem i32_to {a : Int} (h : i32 a) : (Int32.ofInt a).toInt = a := Int32.toInt_ofInt_of_le (by have := h.1; omega) (by have := h.2; omega)
theorem i64_to {a : Int} (h : i64 a) : (Int64.ofInt a).toInt = a := Int64.toInt_ofInt_of_le (by have := h.1; omega) (by have := h.2; omega)
theorem i32_lt {a b : Int} (ha : i32 a) (hb : i32 b) : Int32.ofInt a < Int32.ofInt b ↔ a < b := by rw [Int32.lt_iff_toInt_lt, i32_to ha, i32_to hb]
theorem i32_le {a b : Int} (ha : i32 a) (hb : i32 b) : Int32.ofInt a ≤ Int32.ofInt b ↔ a ≤ b := by rw [Int32.le_iff_toInt_le, i32_to ha, i32_to hb]
theorem i32_eq {a b : Int} (ha : i32 a) (hb : i32 b) : Int32.ofInt a = Int32.ofInt b ↔ a = b := by rw [← Int32.toInt_inj, i32_to ha, i32_to hb]
theorem i32_0 : (0 : Int32) = Int32.ofInt 0 := by decide
theorem i32_of (x : Int32) : i32 x.toInt := ⟨by have := x.le_toInt; omega, by have := x.toInt_lt; omega⟩
theorem i64_of (x : Int64) : i64 x.toInt := ⟨by have := x.le_toInt; omega, by have := x.toInt_lt; omega⟩
theorem mI_inj {a b : Int} (ha : i32 a) (hb : i32 b) (h : Int32.ofInt a = Int32.ofInt b) : a = b := (i32_eq ha hb).mp h
theorem i32_cl {a : Int} (h0 : 0 ≤ a) (h1 : a ≤ 2147483647) : (Int32.ofInt a).toNatClampNeg = a.toNat := Int32.toNatClampNeg_ofInt_of_le (by omega) (by omega)
theorem i32_in {a : Int} {n : Nat} (h0 : 0 ≤ a) (h1 : a < n) (hn : n ≤ 2147483647) : vp_in (Int32.ofInt a) n := vp_in_iff.mpr (by rw [i32_to ⟨by omega, by omega⟩]; exact ⟨h0, h1⟩)
/-! bits -/
def iAnd (a b : Int) : Int := (Int32.ofInt a &&& Int32.ofInt b).toInt
def iOr (a b : Int) : Int := (Int32.ofInt a ||| Int32.ofInt b).toInt
def iXor (a b : Int) : Int := (Int32.ofInt a ^^^ Int32.ofInt b).toInt
def iShl (a b : Int) : Int := (Int32.ofInt a <<< (Int32.ofInt b &&& 31)).toInt
def iShr (a b : Int) : Int := (Int32.ofInt a >>> (Int32.ofInt b &&& 31)).toInt
def iUsh (a b : Int) : Int := ((Int32.ofInt a).toUInt32 >>> ((Int32.ofInt b).toUInt32 &&& Int32.toUInt32 31)).toInt32.toInt
def lAnd (a b : Int) : Int := (Int64.ofInt a &&& Int64.ofInt b).toInt
def lXor (a b : Int) : Int := (Int64.ofInt a ^^^ Int64.ofInt b).toInt
def lShl (a b : Int) : Int := (Int64.ofInt a <<< ((Int32.ofInt b).toInt64 &&& 63)).toInt
def lShr (a b : Int) : Int := (Int64.ofInt a >>> ((Int32.ofInt b).toInt64 &&& 63)).toInt
def lUsh (a b : Int) : Int := ((Int64.ofInt a).toUInt64 >>> ((Int32.ofInt b).toInt64.toUInt64 &&& Int64.toUInt64 63)).toInt64.toInt
def iB (a : Int) : Int := (Int32.ofInt a).toInt8.toInt32.toInt
def iH (a : Int) : Int := (Int32.ofInt a).toInt16.toInt32.toInt
def iC (a : Int) : Int := ((Int32.ofInt a).toUInt32 % 65536).toInt32.toInt
/-! the words: those that hold under every call, and the links of nest mates -/
def gT : List Cond := lw_tbl.filter goodWord
def nestW : Cond → Bool
  | .methodLinkNest .. => true
  | .fieldLinkNest .. => true
  | _ => false
def nWs : List Cond := lw_tbl.filter nestW
theorem gT_of {w : Cond} (h : w ∈ lw_tbl) (g : goodWord w = true) : w ∈ gT := List.mem_filter.mpr ⟨h, g⟩
theorem nW_of {w : Cond} (h : w ∈ lw_tbl) (g : nestW w = true) : w ∈ nWs := List.mem_filter.mpr ⟨h, g⟩
theorem gT_good {w : Cond} (h : w ∈ gT) : goodWord w = true := (List.mem_filter.mp h).2
def mNW (U : State) : Prop := ∀ w ∈ nWs, va_Nw w U
theorem mNW.warm {s U : State} (hW : s.WarmedH U.vm) (h : mNW s) : mNW U := by
  intro w hw
  have h1 := h w hw
  have h2 : nestW w = true := (List.mem_filter.mp hw).2
  cases w <;> first | exact va_Nw.warmM hW h1 | exact va_Nw.warmF hW h1 | (simp [nestW] at h2)
theorem mNW.same {u U : State} (hv : u.vm = U.vm) (h : mNW u) : mNW U := by
  intro w hw
  have h1 := h w hw
  have h2 : nestW w = true := (List.mem_filter.mp hw).2
  cases w <;> first | exact va_Nw.same rfl hv h1 | (simp [nestW] at h2)
/-! what is taken of the texts' constants -/
def bytS : List (List Int32) := [[109, 48, 48, 50, 48, 49, 48, 59, 98, 48, 48, 48, 48, 49], [109, 50, 57, 54, 57, 50, 57, 59, 115, 57, 57, 54, 54, 57]]
def mStr (ad : Int → Nat) (A : Nat → Prop) (U : State) : Prop := (vk_S 2 [14, 14] bytS (fun i => ad (-1 - (i : Int))) (fun i => ad (-3 - (i : Int))) A U U.heap ∧ vk_R "MoonVeto$Text" 25 "m002010;b00001" (ad (-1)) U ∧ vk_R "MoonVeto$Text" 33 "m296929;s99669" (ad (-2)) U) ∧ va_Z "java/lang/String" "COMPACT_STRINGS" "Z" (.int 1) A U U.heap ∧ va_Zq "jdk/internal/util/Preconditions" "SIOOBE_FORMATTER" "Ljava/util/function/BiFunction;" A U U.heap
theorem mStr.move {ad : Int → Nat} {A B : Nat → Prop} {s U : State} {H : Heap} (h : mStr ad A s) (hU : U.heap = H) (hW : s.WarmedH U.vm) (hk : ∀ a : Nat, a < s.heap.size → ¬ A a → H[a]? = s.heap[a]?) (hAB : ∀ q, B q → A q) : mStr ad B U := by
  obtain ⟨⟨h1, h2, h3⟩, h4, h5⟩ := h
  subst hU
  exact ⟨⟨(vk_S.moved hW.alike (h1.kept hk)).narrow hAB, h2.warm hW, h3.warm hW⟩, (va_Z.moved hW.alike (h4.kept hk)).narrow hAB, (va_Zq.moved hW.alike (h5.kept hk)).narrow hAB⟩
theorem mStr.same {ad : Int → Nat} {A : Nat → Prop} {u U : State} (hv : U.vm = u.vm) (hh : U.heap = u.heap) (h : mStr ad A u) : mStr ad A U := by
  obtain ⟨⟨h1, h2, h3⟩, h4, h5⟩ := h
  have ha : u.vm.Alike U.vm := by rw [hv]; exact Vm.Alike.refl _
  exact ⟨⟨by rw [hh]; exact vk_S.moved ha h1, vk_R.same hv h2, vk_R.same hv h3⟩, by rw [hh]; exact va_Z.moved ha h4, by rw [hh]; exact va_Zq.moved ha h5⟩
/-! a world: N cells, the cell k at ad k, holding E k -/
def mWd (N : Nat) (ad : Int → Nat) (E : Int → va_E) : va_W := (List.range N).map (fun k : Nat => (ad (k : Int), E (k : Int)))
theorem mWd_at {N : Nat} {ad : Int → Nat} {E : Int → va_E} {i : Nat} {q : Nat × va_E} (h : (mWd N ad E)[i]? = some q) : i < N ∧ q = (ad (i : Int), E (i : Int)) := by
  unfold mWd at h
  rw [List.getElem?_map] at h
  by_cases hi : i < N
  · rw [List.getElem?_range hi] at h
    exact ⟨hi, (Option.some.inj h).symm⟩
  · rw [List.getElem?_eq_none (by simp; omega)] at h
    cases h
theorem mWd_get {N : Nat} {ad : Int → Nat} {E : Int → va_E} {k : Int} (h0 : 0 ≤ k) (h1 : k < (N : Int)) : (mWd N ad E)[k.toNat]? = some (ad k, E k) := by
  have e : ((k.toNat : Nat) : Int) = k := Int.toNat_of_nonneg h0
  have h2 : k.toNat < N := by omega
  unfold mWd
  rw [List.getElem?_map, List.getElem?_range h2]
  show some (ad ((k.toNat : Nat) : Int), E ((k.toNat : Nat) : Int)) = _
  rw [e]
theorem mWd_set {N : Nat} {ad : Int → Nat} {E E' : Int → va_E} {k : Int} {e : va_E} (h0 : 0 ≤ k) (h1 : k < (N : Int)) (he : E' k = e) (ho : ∀ a : Int, a ≠ k → E' a = E a) : (mWd N ad E).set k.toNat (ad k, e) = mWd N ad E' := by
  have ek : ((k.toNat : Nat) : Int) = k := Int.toNat_of_nonneg h0
  apply List.ext_getElem?
  intro i
  by_cases hi : i < N
  · have g1 : (mWd N ad E')[i]? = some (ad (i : Int), E' (i : Int)) := by
      have := mWd_get (N := N) (ad := ad) (E := E') (k := (i : Int)) (by omega) (by omega)
      rwa [Int.toNat_natCast] at this
    have g2 : (mWd N ad E)[i]? = some (ad (i : Int), E (i : Int)) := by
      have := mWd_get (N := N) (ad := ad) (E := E) (k := (i : Int)) (by omega) (by omega)
      rwa [Int.toNat_natCast] at this
    by_cases hk : k.toNat = i
    · subst hk
      rw [List.getElem?_set_self (by simp [mWd]; omega), g1, ek, he]
    · rw [List.getElem?_set_ne hk, g1, g2, ho (i : Int) (by omega)]
  · rw [List.getElem?_eq_none (by simp [mWd]; omega), List.getElem?_eq_none (by simp [mWd]; omega)]
abbrev mE : Type := va_G × List (ClassId × FieldType) × Nat × (Int → Nat) × (mS → Int → va_E)
def mW (Γ : mE) (σ : mS) : va_W := mWd Γ.2.2.1 Γ.2.2.2.1 (Γ.2.2.2.2 σ)
def mA (Γ : mE) (sz : Nat) : Nat → Prop := fun q => (∃ k : Int, 0 ≤ k ∧ k < (Γ.2.2.1 : Int) ∧ q = Γ.2.2.2.1 k) ∨ sz ≤ q
def mDj (Γ : mE) : Prop := ∀ i j : Int, 0 ≤ i → i < (Γ.2.2.1 : Int) → 0 ≤ j → j < (Γ.2.2.1 : Int) → Γ.2.2.2.1 i = Γ.2.2.2.1 j → i = j
theorem mW_D {Γ : mE} (h : mDj Γ) (σ : mS) (sz : Nat) : va_D (mA Γ sz) (mW Γ σ) := by
  refine ⟨fun i j p q hi hj e => ?_, fun k q hk => ?_⟩
  · obtain ⟨h1, rfl⟩ := mWd_at hi
    obtain ⟨h2, rfl⟩ := mWd_at hj
    have := h (i : Int) (j : Int) (by omega) (by omega) (by omega) (by omega) e
    omega
  · obtain ⟨h1, rfl⟩ := mWd_at hk
    exact Or.inl ⟨(k : Int), by omega, by omega, rfl⟩
theorem mW_D' {A : Nat → Prop} {Γ : mE} (h : mDj Γ) (hA : ∀ k : Int, 0 ≤ k → k < (Γ.2.2.1 : Int) → A (Γ.2.2.2.1 k)) (σ : mS) : va_D A (mW Γ σ) := by
  refine ⟨(mW_D h σ 0).1, fun k q hk => ?_⟩
  obtain ⟨h1, rfl⟩ := mWd_at hk
  exact hA (k : Int) (by omega) (by omega)
theorem mA_in {Γ : mE} {s : Nat} {H : Heap} {H0 : Heap} (h : H0.size ≤ H.size) (hs : H0.size = s) : ∀ q, mA Γ H.size q → mA Γ s q := by
  intro q hq
  rcases hq with h1 | h1
  · exact Or.inl h1
  · exact Or.inr (by omega)
def mAt (Γ : mE) (σ : mS) (U : State) : Prop := va_P Γ.1 vwCl (mW Γ σ) U.heap ∧ va_K Γ.1 vwCl Γ.2.1 U
def mPre (Γ : mE) (σ : mS) (sz : Nat) (U : State) : Prop := U.heap.size = sz ∧ mAt Γ σ U ∧ mDj Γ ∧ mNW U ∧ mStr Γ.2.2.2.1 (mA Γ sz) U
theorem mPre.blind {Γ : mE} {σ : mS} {sz : Nat} {av : List Value} : FrameBlind (va_Pc av (mPre Γ σ sz)) := by
  intro a U g mk q
  obtain ⟨q0, q1, ⟨qP, qK⟩, qD, qN, qS⟩ := q
  exact ⟨q0, q1, ⟨qP, va_K.moved (u := U) (U := U.calling g mk a) (Vm.Alike.refl U.vm) qK⟩, qD, mNW.same (u := U) (U := U.calling g mk a) rfl qN, mStr.same (u := U) (U := U.calling g mk a) rfl rfl qS⟩
abbrev mM : Type := MethodName × ByteArray × Nat × Option FieldType
def mWs (μ : mM) : List Cond := .code μ.1 μ.2.1 μ.2.2.1 μ.2.2.2 :: gT
def mLev (n : Nat) : Room := { frames := n, cells := 0, slots := 0, locals := 40 * n }
def CI (l : Launch) (Γ : mE) (μ : mM) (n : Nat) (av : List Value) (σ : mS) (post : Int → mS → Prop) : Prop :=
  ∀ sz : Nat, Met l μ.1 (mWs μ) (mLev n) (va_Pc av (mPre Γ σ sz)) (va_Qi (fun (r : Int32) (σ' : mS) => ∃ z : Int, r = Int32.ofInt z ∧ post z σ') (mAt Γ) (mA Γ sz)) 0 0 (mA Γ sz)
def CL (l : Launch) (Γ : mE) (μ : mM) (n : Nat) (av : List Value) (σ : mS) (post : Int → mS → Prop) : Prop :=
  ∀ sz : Nat, Met l μ.1 (mWs μ) (mLev n) (va_Pc av (mPre Γ σ sz)) (va_Ql (fun (r : Int64) (σ' : mS) => ∃ z : Int, r = Int64.ofInt z ∧ post z σ') (mAt Γ) (mA Γ sz)) 0 0 (mA Γ sz)
def CV (l : Launch) (Γ : mE) (μ : mM) (n : Nat) (av : List Value) (σ : mS) (post : mS → Prop) : Prop :=
  ∀ sz : Nat, Met l μ.1 (mWs μ) (mLev n) (va_Pc av (mPre Γ σ sz)) (va_Qv post (mAt Γ) (mA Γ sz)) 0 0 (mA Γ sz)
/-! the walk -/
abbrev mX : Type := (Program × Launch × Env × Room × State) × (MethodId × Array Value × List Frame × Method × Code) × mE × Nat × (State → Prop)
def mG (x : mX) (pc : Nat) (lv : List (Nat × Value)) (st : List Value) (σ : mS) : Prop :=
  ∀ (H : Heap) (locs : List Loc) (ls : Array Slot), va_P x.2.2.1.1 vwCl (mW x.2.2.1 σ) H → va_S (mA x.2.2.1 x.1.2.2.2.2.heap.size) x.1.2.2.2.2.heap H locs → lv_has ls x.2.2.2.1 lv →
    W x.1.1 x.1.2.1 x.1.2.2.1 x.1.2.2.2.1 x.1.2.2.2.2 x.2.1.1 x.2.1.2.1 x.2.1.2.2.1 x.2.1.2.2.2.1 x.2.1.2.2.2.2 H locs 0 0 x.2.2.2.2 (F0 x.2.1.1 pc ls st)
def mOk (x : mX) (l : Launch) (μ : mM) (n : Nat) (Γ : mE) : Prop :=
  x.1.1.tables.exec = Jvm.exec ∧ x.2.1.2.2.2.2.code = μ.2.1 ∧ x.2.1.2.2.2.2.maxLocals = x.2.2.2.1 ∧ x.2.2.2.1 = μ.2.2.1 ∧ x.1.2.2.2.2.vm.findClass μ.1.cls = some x.2.1.1.cls ∧ (∀ w ∈ gT, w.before x.2.1.2.1 x.1.2.2.2.2 = true) ∧ x.1.2.2.2.1 = mLev n ∧ x.2.2.1 = Γ ∧ mDj Γ ∧ va_K Γ.1 vwCl Γ.2.1 x.1.2.2.2.2 ∧ mNW x.1.2.2.2.2 ∧ mStr Γ.2.2.2.1 (mA Γ x.1.2.2.2.2.heap.size) x.1.2.2.2.2 ∧ x.2.1.2.2.2.1.locks = false ∧ x.2.1.2.2.2.1.sig.returnType = μ.2.2.2 ∧ x.1.2.1 = l
/-- the answer that the walk owes -/
def rI (x : mX) (Γ : mE) (post : Int → mS → Prop) : Prop := x.2.2.2.2 = MQ x.2.1.2.2.1 (va_Qi (fun (r : Int32) (σ' : mS) => ∃ z : Int, r = Int32.ofInt z ∧ post z σ') (mAt Γ) (mA Γ x.1.2.2.2.2.heap.size)) x.2.1.2.1 x.1.2.2.2.2 0 0 (mA Γ x.1.2.2.2.2.heap.size)
def rL (x : mX) (Γ : mE) (post : Int → mS → Prop) : Prop := x.2.2.2.2 = MQ x.2.1.2.2.1 (va_Ql (fun (r : Int64) (σ' : mS) => ∃ z : Int, r = Int64.ofInt z ∧ post z σ') (mAt Γ) (mA Γ x.1.2.2.2.2.heap.size)) x.2.1.2.1 x.1.2.2.2.2 0 0 (mA Γ x.1.2.2.2.2.heap.size)
def rV (x : mX) (Γ : mE) (post : mS → Prop) : Prop := x.2.2.2.2 = MQ x.2.1.2.2.1 (va_Qv post (mAt Γ) (mA Γ x.1.2.2.2.2.heap.size)) x.2.1.2.1 x.1.2.2.2.2 0 0 (mA Γ x.1.2.2.2.2.heap.size)
theorem CI.of {l : Launch} {Γ : mE} {μ : mM} {n : Nat} {av : List Value} {σ : mS} {post : Int → mS → Prop} (hy : plainName μ.1.cls = true) (hn : (lg_sl av).length ≤ μ.2.2.1)
    (body : ∀ x : mX, mOk x l μ n Γ → rI x Γ post → mG x 0 (lv_args 0 av) [] σ) : CI l Γ μ n av σ post := by
  intro sz
  refine Met.ofW (cc := μ.2.1) (maxL := μ.2.2.1) (ret := μ.2.2.2) hy rfl ?_
  intro p e s m args below meth c s₁ B hml hv
  obtain ⟨rfl, rfl, ⟨hP, hK⟩, hD, hN, hS⟩ := hv
  have hts := atoms_spec (ws := mWs μ) B.pre
  rw [lg_entry_eq]
  exact body ((p, l, e, mLev n, s), (m, av.toArray, below, meth, c), Γ, μ.2.2.1, MQ below (va_Qi (fun (r : Int32) (σ' : mS) => ∃ z : Int, r = Int32.ofInt z ∧ post z σ') (mAt Γ) (mA Γ s.heap.size)) av.toArray s 0 0 (mA Γ s.heap.size)) ⟨B.exec, B.bytes, hml, rfl, findClass_of_methodNamed B.named, fun w hw => hts w (List.mem_cons_of_mem _ hw), rfl, rfl, hD, hK, hN, hS, B.notSynchronized, B.returns, rfl⟩ rfl s.heap [] _ hP va_S.rf (lv_entry av hn)
theorem CL.of {l : Launch} {Γ : mE} {μ : mM} {n : Nat} {av : List Value} {σ : mS} {post : Int → mS → Prop} (hy : plainName μ.1.cls = true) (hn : (lg_sl av).length ≤ μ.2.2.1)
    (body : ∀ x : mX, mOk x l μ n Γ → rL x Γ post → mG x 0 (lv_args 0 av) [] σ) : CL l Γ μ n av σ post := by
  intro sz
  refine Met.ofW (cc := μ.2.1) (maxL := μ.2.2.1) (ret := μ.2.2.2) hy rfl ?_
  intro p e s m args below meth c s₁ B hml hv
  obtain ⟨rfl, rfl, ⟨hP, hK⟩, hD, hN, hS⟩ := hv
  have hts := atoms_spec (ws := mWs μ) B.pre
  rw [lg_entry_eq]
  exact body ((p, l, e, mLev n, s), (m, av.toArray, below, meth, c), Γ, μ.2.2.1, MQ below (va_Ql (fun (r : Int64) (σ' : mS) => ∃ z : Int, r = Int64.ofInt z ∧ post z σ') (mAt Γ) (mA Γ s.heap.size)) av.toArray s 0 0 (mA Γ s.heap.size)) ⟨B.exec, B.bytes, hml, rfl, findClass_of_methodNamed B.named, fun w hw => hts w (List.mem_cons_of_mem _ hw), rfl, rfl, hD, hK, hN, hS, B.notSynchronized, B.returns, rfl⟩ rfl s.heap [] _ hP va_S.rf (lv_entry av hn)
theorem CV.of {l : Launch} {Γ : mE} {μ : mM} {n : Nat} {av : List Value} {σ : mS} {post : mS → Prop} (hy : plainName μ.1.cls = true) (hn : (lg_sl av).length ≤ μ.2.2.1)
    (body : ∀ x : mX, mOk x l μ n Γ → rV x Γ post → mG x 0 (lv_args 0 av) [] σ) : CV l Γ μ n av σ post := by
  intro sz
  refine Met.ofW (cc := μ.2.1) (maxL := μ.2.2.1) (ret := μ.2.2.2) hy rfl ?_
  intro p e s m args below meth c s₁ B hml hv
  obtain ⟨rfl, rfl, ⟨hP, hK⟩, hD, hN, hS⟩ := hv
  have hts := atoms_spec (ws := mWs μ) B.pre
  rw [lg_entry_eq]
  exact body ((p, l, e, mLev n, s), (m, av.toArray, below, meth, c), Γ, μ.2.2.1, MQ below (va_Qv post (mAt Γ) (mA Γ s.heap.size)) av.toArray s 0 0 (mA Γ s.heap.size)) ⟨B.exec, B.bytes, hml, rfl, findClass_of_methodNamed B.named, fun w hw => hts w (List.mem_cons_of_mem _ hw), rfl, rfl, hD, hK, hN, hS, B.notSynchronized, B.returns, rfl⟩ rfl s.heap [] _ hP va_S.rf (lv_entry av hn)
