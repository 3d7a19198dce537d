/-! ===== frames on the line: where each begins, where its MARK stands ===== -/
def frL (w : List Int) : Nat → Nat → Nat → List (Nat × Nat) → List (Nat × Nat)
  | 0, _, _, acc => acc
  | m + 1, k, b, acc => if w.getD k 0 = 0 then (if b < k then frL w m (k + 1) (k + 1) (acc ++ [(b, k)]) else frL w m (k + 1) (k + 1) acc) else frL w m (k + 1) b acc
def frs (w : List Int) : List (Nat × Nat) := frL w w.length 0 0 []
theorem frL_ok {w : List Int} : ∀ (m k b : Nat) (acc : List (Nat × Nat)), k + m = w.length → b ≤ k → acc.length ≤ k → (∀ q ∈ acc, q.1 < q.2 ∧ q.2 < w.length) → (frL w m k b acc).length ≤ w.length ∧ ∀ q ∈ frL w m k b acc, q.1 < q.2 ∧ q.2 < w.length := by
  intro m
  induction m with
  | zero => intro k b acc h1 h2 h3 h4; exact ⟨by show acc.length ≤ _; omega, h4⟩
  | succ m ih =>
    intro k b acc h1 h2 h3 h4
    rw [frL]
    split
    · split
      · refine ih _ _ _ (by omega) (by omega) (by rw [List.length_append, List.length_singleton]; omega) (fun q hq => ?_)
        rcases List.mem_append.mp hq with h | h
        · exact h4 q h
        · rw [List.mem_singleton.mp h]
          exact ⟨by assumption, by show k < w.length; omega⟩
      · exact ih _ _ _ (by omega) (by omega) (by omega) h4
    · exact ih _ _ _ (by omega) (by omega) (by omega) h4
theorem frs_ok (w : List Int) : (frs w).length ≤ w.length ∧ ∀ q ∈ frs w, q.1 < q.2 ∧ q.2 < w.length := frL_ok _ _ _ _ (by omega) (by omega) (by simp) (fun q hq => absurd hq List.not_mem_nil)
/-- its bytes; what it is by itself -/
def frB (w : List Int) (q : Nat × Nat) : List Int := (w.drop q.1).take (q.2 - q.1)
def frK (ru : RU) (w : List Int) (q : Nat × Nat) : Int := if 200 < q.2 - q.1 then 2 else (judge ru (frB w q)).1
def frP_ (ru : RU) (w : List Int) (q : Nat × Nat) : List Int := (judge ru (frB w q)).2
/-- sums over channels -/
def sumC (f : Nat → Int) : Nat → Int
  | 0 => 0
  | k + 1 => sumC f k + f k
theorem sumC_rg {f : Nat → Int} {ch : Nat} {b : Int} (h : ∀ c, c < ch → 0 ≤ f c ∧ f c ≤ b) : ∀ k, k ≤ ch → 0 ≤ sumC f k ∧ sumC f k ≤ k * b := by
  intro k
  induction k with
  | zero => intro _; exact ⟨by show (0 : Int) ≤ 0; omega, by show (0 : Int) ≤ _; omega⟩
  | succ k ih =>
    intro hk
    have h1 := ih (by omega)
    have h2 := h k (by omega)
    have h3 : ((k + 1 : Nat) : Int) * b = k * b + b := by rw [Int.natCast_add, Int.add_mul]; simp
    show 0 ≤ sumC f k + f k ∧ sumC f k + f k ≤ ((k + 1 : Nat) : Int) * b
    omega
/-- the channel with most LOST -/
def mostL (f : Nat → Int) : Nat → Nat
  | 0 => 0
  | k + 1 => if f (mostL f k) < f k then k else mostL f k
theorem mostL_le (f : Nat → Int) : ∀ k, mostL f k ≤ k := by
  intro k
  induction k with
  | zero => exact Nat.le_refl 0
  | succ k ih =>
    unfold mostL
    split
    · omega
    · omega
theorem mostL_lt (f : Nat → Int) {k : Nat} (h : 0 < k) : mostL f k < k := by
  induction k with
  | zero => omega
  | succ k ih =>
    unfold mostL
    split
    · omega
    · have := mostL_le f k; omega
/-- BROKEN or BAD, of the events kept -/
def badE (e : List Int) : Int := if e.getD 0 0 = 2 ∨ e.getD 0 0 = 3 then 1 else 0
def badF (l : List (List Int)) : Int := l.foldl (fun n e => n + badE e) 0
def lonF (l : List (Nat × Nat)) : Int := l.foldl (fun n q => max n ((q.2 : Int) - q.1)) 0
def greF (l : List Int) : Int := l.foldl max (-1)
/-- bytes that wait -/
def waiB (l : List (List Int)) : Int := l.foldl (fun n w => n + w.length) 0
theorem foldl_snoc {α β : Type} (f : β → α → β) (z : β) (l : List α) (k : Nat) (x : α) (h : k < l.length) : (l.take (k + 1)).foldl f z = f ((l.take k).foldl f z) (l.getD k x) := by
  have e : l.take (k + 1) = l.take k ++ [l.getD k x] := by
    rw [List.take_add_one, List.getD_eq_getElem?_getD, List.getElem?_eq_getElem h]
    rfl
  rw [e, List.foldl_append]
  rfl
