/-! ===== what the calls mean, in numbers: τ is the state as both sides show it =====
  τ 0 0 begins, 0 1 upper, 0 2 lower, 0 3 span, 0 4 how many bills, 0 5 clouded nights, 0 6 readings, 0 7 trace, 0 8 fault;
  τ 1 b kind, 2 b day, 3 b needs, 4 b names, 5 b lasts; τ 6 d clouded; τ 7 q, 8 q, 9 q a reading's bill, day, truth; τ 10 k a sheet's lane (-1: nothing), 11 k its length; τ (12 + k) i its cells -/
def anyN (p : Int → Bool) : Nat → Bool
  | 0 => false
  | n + 1 => anyN p n || p (n : Int)
theorem anyN_iff {p : Int → Bool} : ∀ {n : Nat}, anyN p n = true ↔ ∃ i : Int, 0 ≤ i ∧ i < n ∧ p i = true
  | 0 => by
    constructor
    · intro h; cases h
    · rintro ⟨i, h0, h1, -⟩; omega
  | n + 1 => by
    unfold anyN
    rw [Bool.or_eq_true, anyN_iff (n := n)]
    constructor
    · rintro (⟨i, h0, h1, h2⟩ | h)
      · exact ⟨i, h0, by omega, h2⟩
      · exact ⟨(n : Int), by omega, by omega, h⟩
    · rintro ⟨i, h0, h1, h2⟩
      by_cases hi : i = (n : Int)
      · exact Or.inr (hi ▸ h2)
      · exact Or.inl ⟨i, h0, by omega, h2⟩
theorem anyN_no {p : Int → Bool} {n : Nat} : anyN p n = false ↔ ∀ i : Int, 0 ≤ i → i < n → p i = false := by
  constructor
  · intro h i h0 h1
    cases hp : p i with
    | false => rfl
    | true => rw [anyN_iff.mpr ⟨i, h0, h1, hp⟩] at h; cases h
  · intro h
    cases ha : anyN p n with
    | false => rfl
    | true =>
      obtain ⟨i, h0, h1, h2⟩ := anyN_iff.mp ha
      rw [h i h0 h1] at h2
      cases h2
theorem anyN_cong {p q : Int → Bool} {n : Nat} (h : ∀ i : Int, 0 ≤ i → i < n → p i = q i) : anyN p n = anyN q n := by
  cases hq : anyN q n with
  | true =>
    obtain ⟨i, h0, h1, h2⟩ := anyN_iff.mp hq
    exact anyN_iff.mpr ⟨i, h0, h1, (h i h0 h1).trans h2⟩
  | false => exact anyN_no.mpr (fun i h0 h1 => (h i h0 h1).trans (anyN_no.mp hq i h0 h1))
def cntN (p : Int → Bool) : Nat → Int
  | 0 => 0
  | n + 1 => cntN p n + (if p (n : Int) then 1 else 0)
theorem cntN_cong {p q : Int → Bool} : ∀ {n : Nat}, (∀ i : Int, 0 ≤ i → i < n → p i = q i) → cntN p n = cntN q n
  | 0, _ => rfl
  | n + 1, h => by
    unfold cntN
    rw [cntN_cong (fun i h0 h1 => h i h0 (by omega)), h (n : Int) (by omega) (by omega)]
theorem cntN_le (p : Int → Bool) : ∀ n : Nat, 0 ≤ cntN p n ∧ cntN p n ≤ n
  | 0 => by simp [cntN]
  | n + 1 => by
    have h := cntN_le p n
    unfold cntN
    by_cases hp : p (n : Int) = true
    · rw [if_pos hp]; omega
    · rw [if_neg hp]; omega
/-- the first, or n -/
def fstN (p : Int → Bool) : Nat → Int
  | 0 => 0
  | n + 1 => if fstN p n < n then fstN p n else if p (n : Int) then n else n + 1
theorem fstN_sp (p : Int → Bool) : ∀ n : Nat, 0 ≤ fstN p n ∧ fstN p n ≤ n ∧ (∀ i : Int, 0 ≤ i → i < fstN p n → p i = false) ∧ (fstN p n < n → p (fstN p n) = true)
  | 0 => ⟨by simp [fstN], by simp [fstN], fun i h0 h1 => by simp [fstN] at h1; omega, fun h => by simp [fstN] at h⟩
  | n + 1 => by
    obtain ⟨h0, h1, h2, h3⟩ := fstN_sp p n
    unfold fstN
    by_cases hl : fstN p n < n
    · rw [if_pos hl]
      exact ⟨h0, by omega, h2, fun _ => h3 hl⟩
    · rw [if_neg hl]
      have e : fstN p n = n := by omega
      rw [e] at h2
      by_cases hp : p (n : Int) = true
      · rw [if_pos hp]
        exact ⟨by omega, by omega, h2, fun _ => hp⟩
      · rw [if_neg hp]
        refine ⟨by omega, by omega, fun i g0 g1 => ?_, fun g => by omega⟩
        by_cases hi : i = (n : Int)
        · rw [hi]; simpa using hp
        · exact h2 i g0 (by omega)
theorem fstN_is {p : Int → Bool} {n : Nat} {i : Int} (h0 : 0 ≤ i) (h1 : i < n) (hp : p i = true) (hb : ∀ j : Int, 0 ≤ j → j < i → p j = false) : fstN p n = i := by
  obtain ⟨g0, g1, g2, g3⟩ := fstN_sp p n
  rcases Int.lt_trichotomy (fstN p n) i with q | q | q
  · have := g3 (by omega)
    rw [hb _ g0 q] at this
    cases this
  · exact q
  · rw [g2 i h0 q] at hp
    cases hp
theorem fstN_no {p : Int → Bool} {n : Nat} (h : ∀ i : Int, 0 ≤ i → i < n → p i = false) : fstN p n = n := by
  obtain ⟨g0, g1, g2, g3⟩ := fstN_sp p n
  by_cases q : fstN p n < n
  · have := g3 q
    rw [h _ g0 q] at this
    cases this
  · omega
theorem fstN_cong {p q : Int → Bool} {n : Nat} (h : ∀ i : Int, 0 ≤ i → i < n → p i = q i) : fstN p n = fstN q n := by
  obtain ⟨g0, g1, g2, g3⟩ := fstN_sp q n
  by_cases hl : fstN q n < n
  · exact fstN_is g0 hl ((h _ g0 hl).trans (g3 hl)) (fun j j0 j1 => (h j j0 (by omega)).trans (g2 j j0 j1))
  · have e : fstN q n = n := by omega
    rw [e] at g2
    rw [e]
    exact fstN_no (fun i h0 h1 => (h i h0 h1).trans (g2 i h0 h1))
/-! moons -/
def qMd (τ : mS) (m : Int) : Int := τ 0 0 + m * τ 0 1 / τ 0 2
def qWt (τ : mS) (b m : Int) : Bool := decide (τ 2 b ≤ qMd τ m ∧ qMd τ m ≤ τ 2 b + τ 0 3)
/-- a bill is struck: dk m: full moon m is dark -/
def qSt (τ : mS) (dk : Int → Bool) (b : Int) : Bool := anyN (fun m => qWt τ b m && !dk m) 11
/-! force -/
def qOn (τ : mS) (P : Int → Bool) (b d : Int) : Bool := P b && (decide (τ 2 b < d) && (decide (¬ τ 1 b = 1) || decide (d ≤ τ 2 b + 10 * τ 5 b)))
def qBf (τ : mS) (a b : Int) : Bool := decide (τ 2 a < τ 2 b ∨ (τ 2 a = τ 2 b ∧ a < b))
def qIn (τ : mS) (P : Int → Bool) : Nat → Int → Int → Bool
  | 0, _, _ => false
  | f + 1, b, d => qOn τ P b d && !(anyN (fun r => decide (τ 1 r = 2) && (decide (τ 4 r = b) && (qBf τ b r && qIn τ P f r d))) (τ 0 4).toNat)
/-- the bills by their days: an enumeration in order -/
def qSr (τ : mS) (n : Int) (o : Int → Int) : Prop := (∀ i : Int, 0 ≤ i → i < n → 0 ≤ o i ∧ o i < n) ∧ (∀ i j : Int, 0 ≤ i → i < j → j < n → qBf τ (o i) (o j) = true) ∧ ∀ b : Int, 0 ≤ b → b < n → ∃ i : Int, 0 ≤ i ∧ i < n ∧ o i = b
theorem qBf_asym {τ : mS} {a b : Int} (h : qBf τ a b = true) : qBf τ b a = false := by
  unfold qBf at *
  simp only [decide_eq_true_eq] at h
  simp only [decide_eq_false_iff_not]
  omega
theorem qBf_irr {τ : mS} {a : Int} : qBf τ a a = false := by
  unfold qBf
  simp
theorem qBf_tri {τ : mS} {a b : Int} (h : ¬ a = b) : qBf τ a b = true ∨ qBf τ b a = true := by
  unfold qBf
  simp only [decide_eq_true_eq]
  omega
theorem qBf_tr {τ : mS} {a b c : Int} (h : qBf τ a b = true) (h2 : qBf τ b c = true) : qBf τ a c = true := by
  unfold qBf at *
  simp only [decide_eq_true_eq] at *
  omega
theorem qSr_lt {τ : mS} {n : Int} {o : Int → Int} (h : qSr τ n o) {i j : Int} (hi0 : 0 ≤ i) (hi : i < n) (hj0 : 0 ≤ j) (hj : j < n) (hb : qBf τ (o i) (o j) = true) : i < j := by
  rcases Int.lt_trichotomy i j with q | q | q
  · exact q
  · rw [q, qBf_irr] at hb; cases hb
  · rw [qBf_asym (h.2.1 j i hj0 q hi)] at hb; cases hb
theorem qSr_inj {τ : mS} {n : Int} {o : Int → Int} (h : qSr τ n o) {i j : Int} (hi0 : 0 ≤ i) (hi : i < n) (hj0 : 0 ≤ j) (hj : j < n) (e : o i = o j) : i = j := by
  rcases Int.lt_trichotomy i j with q | q | q
  · have := h.2.1 i j hi0 q hj
    rw [e, qBf_irr] at this
    cases this
  · exact q
  · have := h.2.1 j i hj0 q hi
    rw [e, qBf_irr] at this
    cases this
/-- depth enough is depth enough -/
theorem qIn_st {τ : mS} {P : Int → Bool} {o : Int → Int} (h : qSr τ (τ 0 4) o) (d : Int) : ∀ (f : Nat) (i : Int), 0 ≤ i → i < τ 0 4 → τ 0 4 - i ≤ f → qIn τ P f (o i) d = qIn τ P (f + 1) (o i) d := by
  intro f
  induction f with
  | zero => intro i h0 h1 h2; omega
  | succ f ih =>
    intro i h0 h1 h2
    show (qOn τ P (o i) d && !(anyN (fun r => decide (τ 1 r = 2) && (decide (τ 4 r = o i) && (qBf τ (o i) r && qIn τ P f r d))) (τ 0 4).toNat)) = (qOn τ P (o i) d && !(anyN (fun r => decide (τ 1 r = 2) && (decide (τ 4 r = o i) && (qBf τ (o i) r && qIn τ P (f + 1) r d))) (τ 0 4).toNat))
    rw [anyN_cong (q := fun r => decide (τ 1 r = 2) && (decide (τ 4 r = o i) && (qBf τ (o i) r && qIn τ P (f + 1) r d)))]
    intro r r0 r1
    cases hb : qBf τ (o i) r with
    | false => simp
    | true =>
      obtain ⟨j, j0, j1, rfl⟩ := h.2.2 r r0 (by omega)
      have hij := qSr_lt h h0 h1 j0 j1 hb
      rw [ih j j0 j1 (by omega)]
theorem qIn_ge {τ : mS} {P : Int → Bool} {o : Int → Int} (h : qSr τ (τ 0 4) o) (d : Int) {i : Int} (h0 : 0 ≤ i) (h1 : i < τ 0 4) (f : Nat) (hf : τ 0 4 - i ≤ f) : ∀ k : Nat, qIn τ P f (o i) d = qIn τ P (f + k) (o i) d := by
  intro k
  induction k with
  | zero => rfl
  | succ k ih => rw [ih]; exact qIn_st h d (f + k) i h0 h1 (by omega)
/-- force looks at what passes of the bills there are alone -/
theorem qIn_cong {τ : mS} {P Q : Int → Bool} (hPQ : ∀ b : Int, 0 ≤ b → b < τ 0 4 → P b = Q b) (d : Int) : ∀ (f : Nat) (b : Int), 0 ≤ b → b < τ 0 4 → qIn τ P f b d = qIn τ Q f b d := by
  intro f
  induction f with
  | zero => intro b _ _; rfl
  | succ f ih =>
    intro b h0 h1
    unfold qIn
    rw [anyN_cong (q := fun r => decide (τ 1 r = 2) && (decide (τ 4 r = b) && (qBf τ b r && qIn τ Q f r d))) (fun r r0 r1 => by rw [ih r r0 (by omega)])]
    unfold qOn
    rw [hPQ b h0 h1]
/-! passing: one bill after the other, by their days -/
def qMay (τ : mS) (st : Int → Bool) (P : Int → Bool) (b : Int) : Bool := !st b && (decide (τ 3 b = 6) || (decide (τ 3 b < τ 0 4) && qIn τ P 6 (τ 3 b) (τ 2 b)))
def qPk (τ : mS) (o : Int → Int) (st : Int → Bool) : Nat → Int → Bool
  | 0, _ => false
  | k + 1, b => qPk τ o st k b || (decide (b = o (k : Int)) && qMay τ st (qPk τ o st k) b)
theorem qPk_cong {τ : mS} {o o' : Int → Int} {st st' : Int → Bool} : ∀ (k : Nat), (∀ i : Int, 0 ≤ i → i < k → o i = o' i) → (∀ i : Int, 0 ≤ i → i < k → st (o i) = st' (o i)) → qPk τ o st k = qPk τ o' st' k
  | 0, _, _ => rfl
  | k + 1, h, hs => by
    have e := qPk_cong (τ := τ) k (fun i h0 h1 => h i h0 (by omega)) (fun i h0 h1 => hs i h0 (by omega))
    funext b
    show (qPk τ o st k b || (decide (b = o (k : Int)) && qMay τ st (qPk τ o st k) b)) = (qPk τ o' st' k b || (decide (b = o' (k : Int)) && qMay τ st' (qPk τ o' st' k) b))
    rw [e, ← h (k : Int) (by omega) (by omega)]
    by_cases hb : b = o (k : Int)
    · have hs2 := hs (k : Int) (by omega) (by omega)
      unfold qMay
      rw [hb, hs2]
    · simp [hb]
/-- one more bill is put among those in order -/
theorem qSr_ins {τ : mS} {k p : Int} {o o' : Int → Int} (h : qSr τ k o) (hp0 : 0 ≤ p) (hp1 : p ≤ k) (hlo : ∀ i : Int, 0 ≤ i → i < p → τ 2 (o i) ≤ τ 2 k) (hhi : ∀ i : Int, p ≤ i → i < k → τ 2 k < τ 2 (o i)) (e1 : ∀ i : Int, 0 ≤ i → i < p → o' i = o i) (e2 : o' p = k) (e3 : ∀ i : Int, p < i → i ≤ k → o' i = o (i - 1)) : qSr τ (k + 1) o' := by
  refine ⟨fun i h0 h1 => ?_, fun i j h0 h1 h2 => ?_, fun b h0 h1 => ?_⟩
  · rcases Int.lt_trichotomy i p with q | q | q
    · rw [e1 i h0 q]
      have := h.1 i h0 (by omega)
      omega
    · rw [q, e2]; omega
    · rw [e3 i q (by omega)]
      have := h.1 (i - 1) (by omega) (by omega)
      omega
  · rcases Int.lt_trichotomy j p with q | q | q
    · rw [e1 i h0 (by omega), e1 j (by omega) q]
      exact h.2.1 i j h0 h1 (by omega)
    · subst q
      rw [e1 i h0 h1, e2]
      have g1 := hlo i h0 h1
      have g2 := (h.1 i h0 (by omega)).2
      unfold qBf
      simp only [decide_eq_true_eq]
      omega
    · rw [e3 j q (by omega)]
      rcases Int.lt_trichotomy i p with r | r | r
      · rw [e1 i h0 r]
        exact h.2.1 i (j - 1) h0 (by omega) (by omega)
      · rw [r, e2]
        have g1 := hhi (j - 1) (by omega) (by omega)
        unfold qBf
        simp only [decide_eq_true_eq]
        omega
      · rw [e3 i r (by omega)]
        exact h.2.1 (i - 1) (j - 1) (by omega) (by omega) (by omega)
  · by_cases hb : b = k
    · exact ⟨p, hp0, by omega, by rw [e2, hb]⟩
    · obtain ⟨i, i0, i1, rfl⟩ := h.2.2 b h0 (by omega)
      by_cases hi : i < p
      · exact ⟨i, i0, by omega, e1 i i0 hi⟩
      · exact ⟨i + 1, by omega, by omega, by rw [e3 (i + 1) (by omega) (by omega), show i + 1 - 1 = i by omega]⟩
theorem qSr_0 (τ : mS) (o : Int → Int) : qSr τ 0 o := ⟨fun i h0 h1 => by omega, fun i j h0 h1 h2 => by omega, fun b h0 h1 => by omega⟩
theorem qSr_ex (τ : mS) : ∀ n : Nat, ∃ o : Int → Int, qSr τ (n : Int) o
  | 0 => ⟨fun _ => 0, qSr_0 τ _⟩
  | n + 1 => by
    obtain ⟨o, h⟩ := qSr_ex τ n
    obtain ⟨g0, g1, g2, g3⟩ := fstN_sp (fun i => decide (τ 2 (n : Int) < τ 2 (o i))) n
    generalize fstN (fun i => decide (τ 2 (n : Int) < τ 2 (o i))) n = p at g0 g1 g2 g3
    refine ⟨fun i => if i < p then o i else if i = p then (n : Int) else o (i - 1), ?_⟩
    have key : qSr τ ((n : Int) + 1) (fun i => if i < p then o i else if i = p then (n : Int) else o (i - 1)) := by
      refine qSr_ins h g0 g1 (fun i h0 h1 => ?_) (fun i h0 h1 => ?_) (fun i h0 h1 => ?_) ?_ (fun i h0 h1 => ?_)
      · have := g2 i h0 h1
        simp only [decide_eq_false_iff_not] at this
        omega
      · have q := g3 (by omega)
        simp only [decide_eq_true_eq] at q
        by_cases hi : i = p
        · rw [hi]; exact q
        · have r := h.2.1 p i g0 (by omega) h1
          unfold qBf at r
          simp only [decide_eq_true_eq] at r
          omega
      · show (if i < p then _ else _) = _
        rw [if_pos h1]
      · show (if p < p then _ else if p = p then _ else _) = _
        rw [if_neg (by omega), if_pos rfl]
      · show (if i < p then _ else if i = p then _ else _) = _
        rw [if_neg (by omega), if_neg (by omega)]
    exact key
theorem qSr_un {τ : mS} {n : Int} {o o' : Int → Int} (h : qSr τ n o) (h' : qSr τ n o') : ∀ (m : Nat) (i : Int), 0 ≤ i → i < m → i < n → o i = o' i := by
  intro m
  induction m with
  | zero => intro i h0 h1; omega
  | succ m ih =>
    intro i h0 h1 h2
    by_cases hm : i < m
    · exact ih i h0 hm h2
    · obtain ⟨j, j0, j1, ej⟩ := h.2.2 (o' i) (h'.1 i h0 h2).1 (h'.1 i h0 h2).2
      obtain ⟨j', j0', j1', ej'⟩ := h'.2.2 (o i) (h.1 i h0 h2).1 (h.1 i h0 h2).2
      have g1 : ¬ j < i := by
        intro q
        have := ih j j0 (by omega) j1
        have := qSr_inj h' j0 j1 h0 h2 (by rw [← this, ej])
        omega
      have g2 : ¬ j' < i := by
        intro q
        have := ih j' j0' (by omega) j1'
        have := qSr_inj h j0' j1' h0 h2 (by rw [this, ej'])
        omega
      by_cases q : j = i
      · rw [← q, ej, q]
      · by_cases q' : j' = i
        · rw [← ej', q']
        · have a1 := h.2.1 i j h0 (by omega) j1
          have a2 := h'.2.1 i j' h0 (by omega) j1'
          rw [ej] at a1
          rw [ej', qBf_asym a1] at a2
          cases a2
/-- the bills in order -/
noncomputable def qO (τ : mS) : Int → Int := Classical.choose (qSr_ex τ (τ 0 4).toNat)
theorem qO_ok {τ : mS} (h : 0 ≤ τ 0 4) : qSr τ (τ 0 4) (qO τ) := by
  have this : qSr τ ((τ 0 4).toNat : Int) (qO τ) := Classical.choose_spec (qSr_ex τ (τ 0 4).toNat)
  rwa [Int.toNat_of_nonneg h] at this
theorem qO_un {τ : mS} (h : 0 ≤ τ 0 4) {o : Int → Int} (ho : qSr τ (τ 0 4) o) {i : Int} (h0 : 0 ≤ i) (h1 : i < τ 0 4) : o i = qO τ i := qSr_un ho (qO_ok h) (i.toNat + 1) i h0 (by omega) h1
/-- what passes -/
noncomputable def qPf (τ : mS) (st : Int → Bool) : Int → Bool := qPk τ (qO τ) st (τ 0 4).toNat
theorem qPf_cong {τ : mS} (h : 0 ≤ τ 0 4) {st st' : Int → Bool} (hs : ∀ b : Int, 0 ≤ b → b < τ 0 4 → st b = st' b) : qPf τ st = qPf τ st' := by
  unfold qPf
  refine qPk_cong _ (fun _ _ _ => rfl) (fun i h0 h1 => ?_)
  have := (qO_ok h).1 i h0 (by omega)
  exact hs _ this.1 this.2
/-- in force, for good: six are enough -/
noncomputable def qF (τ : mS) (st : Int → Bool) (b d : Int) : Bool := qIn τ (qPf τ st) 6 b d
/-- well formed -/
def qWf (τ : mS) : Prop := 0 ≤ τ 0 4 ∧ τ 0 4 ≤ 6 ∧ 0 ≤ τ 0 0 ∧ τ 0 0 ≤ 29 ∧ 0 ≤ τ 0 3 ∧ τ 0 3 ≤ 9 ∧ (0 < τ 0 4 → 20 ≤ τ 0 1 ∧ τ 0 1 ≤ 60 ∧ 1 ≤ τ 0 2 ∧ τ 0 2 ≤ 2) ∧ ∀ b : Int, 0 ≤ b → b < 6 → 0 ≤ τ 1 b ∧ τ 1 b ≤ 2 ∧ 0 ≤ τ 2 b ∧ τ 2 b ≤ 99 ∧ 0 ≤ τ 3 b ∧ τ 3 b ≤ 6 ∧ 0 ≤ τ 4 b ∧ τ 4 b ≤ 6 ∧ 0 ≤ τ 5 b ∧ τ 5 b ≤ 9
/-! the calendar -/
theorem qMd_rng {τ : mS} (h : qWf τ) (hn : 0 < τ 0 4) {m : Int} (h0 : 0 ≤ m) (h1 : m ≤ 100) : 0 ≤ m * τ 0 1 ∧ m * τ 0 1 ≤ 6000 ∧ 0 ≤ qMd τ m ∧ qMd τ m ≤ 6029 ∧ 10 * m ≤ qMd τ m := by
  obtain ⟨-, -, a0, a1, -, -, a2, -⟩ := h
  obtain ⟨u0, u1, l0, l1⟩ := a2 hn
  have e1 : 0 ≤ m * τ 0 1 := Int.mul_nonneg h0 (by omega)
  have e2 : m * τ 0 1 ≤ 100 * 60 := Int.mul_le_mul h1 u1 (by omega) (by omega)
  have e3 : m * 20 ≤ m * τ 0 1 := Int.mul_le_mul_of_nonneg_left u0 h0
  unfold qMd
  rcases (show τ 0 2 = 1 ∨ τ 0 2 = 2 by omega) with e | e <;> rw [e] <;> omega
theorem qMd_mono {τ : mS} (h : qWf τ) (hn : 0 < τ 0 4) {m : Int} (h0 : 0 ≤ m) : qMd τ m ≤ qMd τ (m + 1) := by
  obtain ⟨-, -, a0, a1, -, -, a2, -⟩ := h
  obtain ⟨u0, u1, l0, l1⟩ := a2 hn
  unfold qMd
  have e : (m + 1) * τ 0 1 = m * τ 0 1 + τ 0 1 := by rw [Int.add_mul, Int.one_mul]
  rw [e]
  rcases (show τ 0 2 = 1 ∨ τ 0 2 = 2 by omega) with e | e <;> rw [e] <;> omega
theorem qMd_mono2 {τ : mS} (h : qWf τ) (hn : 0 < τ 0 4) {m : Int} (h0 : 0 ≤ m) : ∀ k : Nat, qMd τ m ≤ qMd τ (m + k)
  | 0 => by simp
  | k + 1 => by
    have h1 := qMd_mono2 h hn h0 k
    have h2 := qMd_mono h hn (m := m + k) (by omega)
    rw [show m + ((k + 1 : Nat) : Int) = m + k + 1 by omega]
    omega
theorem qMd_le {τ : mS} (h : qWf τ) (hn : 0 < τ 0 4) {m m' : Int} (h0 : 0 ≤ m) (h1 : m ≤ m') : qMd τ m ≤ qMd τ m' := by
  have := qMd_mono2 h hn h0 (m' - m).toNat
  rwa [show m + ((m' - m).toNat : Int) = m' by omega] at this
theorem qWt_in {τ : mS} (h : qWf τ) {b m : Int} (hb0 : 0 ≤ b) (hb1 : b < 6) (hw : qWt τ b m = true) : qMd τ m ≤ 108 := by
  unfold qWt at hw
  simp only [decide_eq_true_eq] at hw
  obtain ⟨-, -, -, -, s0, s1, -, hb⟩ := h
  have := hb b hb0 hb1
  omega
/-- how many full moons there are on days 0 .. 109 -/
def qNm (τ : mS) : Int := fstN (fun m => decide (110 ≤ qMd τ m)) 11
theorem qNm_sp {τ : mS} (h : qWf τ) (hn : 0 < τ 0 4) : 0 ≤ qNm τ ∧ qNm τ ≤ 11 ∧ (∀ m : Int, 0 ≤ m → m < qNm τ → qMd τ m < 110) ∧ ∀ m : Int, qNm τ ≤ m → 110 ≤ qMd τ m := by
  obtain ⟨g0, g1, g2, g3⟩ := fstN_sp (fun m => decide (110 ≤ qMd τ m)) 11
  refine ⟨g0, g1, fun m h0 h1 => ?_, fun m hm => ?_⟩
  · have := g2 m h0 h1
    simp only [decide_eq_false_iff_not] at this
    omega
  · by_cases hl : qNm τ < 11
    · have := g3 hl
      simp only [decide_eq_true_eq] at this
      have := qMd_le h hn g0 hm
      unfold qNm at *
      omega
    · have e : qNm τ = 11 := by unfold qNm at *; omega
      have h1 := (qMd_rng h hn (m := 11) (by omega) (by omega)).2.2.2.2
      have h2 := qMd_le h hn (m := 11) (m' := m) (by omega) (by omega)
      omega
