/-! ===== the TAPE as a text: its parts ===== -/
/-- a number in four bytes -/
def fouF (v : Int) : List Int := [v / 16777216 % 256, v / 65536 % 256, v / 256 % 256, v % 256]
theorem fouF_byt (v : Int) : byt (fouF v) := by
  unfold fouF
  refine byt_cons.mpr ⟨by omega, byt_cons.mpr ⟨by omega, byt_cons.mpr ⟨by omega, byt_cons.mpr ⟨by omega, byt_nil⟩⟩⟩⟩
/-- how many from place q on keep to f -/
def rnF (f : Int → Bool) (tp : List Int) (q : Nat) : Nat := ((tp.drop q).takeWhile f).length
theorem rnF_yes {f : Int → Bool} {tp : List Int} {q : Nat} (h : q < tp.length) (hf : f (tp.getD q 0) = true) : rnF f tp q = rnF f tp (q + 1) + 1 := by
  unfold rnF
  rw [drop_cons h, List.takeWhile_cons, hf]
  rfl
theorem rnF_no {f : Int → Bool} {tp : List Int} {q : Nat} (h : q < tp.length) (hf : f (tp.getD q 0) = false) : rnF f tp q = 0 := by
  unfold rnF
  rw [drop_cons h, List.takeWhile_cons, hf]
  rfl
theorem rnF_end {f : Int → Bool} {tp : List Int} {q : Nat} (h : tp.length ≤ q) : rnF f tp q = 0 := by
  unfold rnF
  rw [List.drop_eq_nil_of_le h]
  rfl
theorem rnF_le {f : Int → Bool} {tp : List Int} : ∀ (m q : Nat), tp.length - q = m → q ≤ tp.length → q + rnF f tp q ≤ tp.length := by
  intro m
  induction m with
  | zero => intro q h1 h2; rw [rnF_end (by omega)]; omega
  | succ m ih =>
    intro q h1 h2
    cases h : f (tp.getD q 0)
    · rw [rnF_no (by omega) h]; omega
    · rw [rnF_yes (by omega) h]; have := ih (q + 1) (by omega) (by omega); omega
theorem rnF_all {f : Int → Bool} {tp : List Int} : ∀ (m q j : Nat), tp.length - q = m → q ≤ j → j < q + rnF f tp q → f (tp.getD j 0) = true := by
  intro m
  induction m with
  | zero => intro q j h1 h2 h3; rw [rnF_end (by omega)] at h3; omega
  | succ m ih =>
    intro q j h1 h2 h3
    cases h : f (tp.getD q 0)
    · rw [rnF_no (by omega) h] at h3; omega
    · rw [rnF_yes (by omega) h] at h3
      by_cases e : j = q
      · rw [e]; exact h
      · exact ih (q + 1) j (by omega) (by omega) (by omega)
def sp_ (x : Int) : Bool := decide (x = 32)
def sm_ (x : Int) : Bool := decide (97 ≤ x ∧ x ≤ 122)
def dg_ (x : Int) : Bool := decide (48 ≤ x ∧ x ≤ 57)
/-- where the next part begins; its kind: 0 over, 1 word, 2 digits, 3 a sign; where it ends -/
def pB (tp : List Int) (p : Nat) : Nat := p + rnF sp_ tp p
def pK (tp : List Int) (q : Nat) : Int := if tp.length ≤ q then 0 else if sm_ (tp.getD q 0) then 1 else if dg_ (tp.getD q 0) then 2 else 3
def pE (tp : List Int) (q : Nat) : Nat := if pK tp q = 0 then q else if pK tp q = 1 then q + rnF sm_ tp q else if pK tp q = 2 then q + rnF dg_ tp q else q + 1
/-- its bytes; its number -/
def pT (tp : List Int) (q : Nat) : List Int := (tp.drop q).take (pE tp q - q)
def nmF (l : List Int) : Int := if 2 < l.length then 1000 else l.foldl (fun n x => 10 * n + x - 48) 0
theorem pK_0 {tp : List Int} {q : Nat} (h : tp.length ≤ q) : pK tp q = 0 := by unfold pK; rw [if_pos h]
theorem pK_1 {tp : List Int} {q : Nat} (h : q < tp.length) (h1 : sm_ (tp.getD q 0) = true) : pK tp q = 1 := by unfold pK; rw [if_neg (by omega), if_pos h1]
theorem pK_2 {tp : List Int} {q : Nat} (h : q < tp.length) (h1 : sm_ (tp.getD q 0) = false) (h2 : dg_ (tp.getD q 0) = true) : pK tp q = 2 := by unfold pK; rw [if_neg (by omega), if_neg (by rw [h1]; decide), if_pos h2]
theorem pK_3 {tp : List Int} {q : Nat} (h : q < tp.length) (h1 : sm_ (tp.getD q 0) = false) (h2 : dg_ (tp.getD q 0) = false) : pK tp q = 3 := by unfold pK; rw [if_neg (by omega), if_neg (by rw [h1]; decide), if_neg (by rw [h2]; decide)]
theorem pE_0 {tp : List Int} {q : Nat} (h : pK tp q = 0) : pE tp q = q := by unfold pE; rw [if_pos h]
theorem pE_1 {tp : List Int} {q : Nat} (h : pK tp q = 1) : pE tp q = q + rnF sm_ tp q := by unfold pE; rw [h, if_neg (by decide), if_pos rfl]
theorem pE_2 {tp : List Int} {q : Nat} (h : pK tp q = 2) : pE tp q = q + rnF dg_ tp q := by unfold pE; rw [h, if_neg (by decide), if_neg (by decide), if_pos rfl]
theorem pE_3 {tp : List Int} {q : Nat} (h : pK tp q = 3) : pE tp q = q + 1 := by unfold pE; rw [h, if_neg (by decide), if_neg (by decide), if_neg (by decide)]
theorem pK_cases (tp : List Int) (q : Nat) : (pK tp q = 0 ∧ tp.length ≤ q) ∨ (pK tp q = 1 ∧ q < tp.length) ∨ (pK tp q = 2 ∧ q < tp.length) ∨ (pK tp q = 3 ∧ q < tp.length) := by
  unfold pK
  split
  · exact Or.inl ⟨rfl, by assumption⟩
  · split
    · exact Or.inr (Or.inl ⟨rfl, by omega⟩)
    · split
      · exact Or.inr (Or.inr (Or.inl ⟨rfl, by omega⟩))
      · exact Or.inr (Or.inr (Or.inr ⟨rfl, by omega⟩))
theorem pB_le {tp : List Int} {p : Nat} (h : p ≤ tp.length) : p ≤ pB tp p ∧ pB tp p ≤ tp.length := ⟨by unfold pB; omega, rnF_le _ p rfl h⟩
theorem pE_le {tp : List Int} {q : Nat} (h : q ≤ tp.length) : q ≤ pE tp q ∧ pE tp q ≤ tp.length ∧ (q < tp.length → q < pE tp q) := by
  have h1 := rnF_le (f := sm_) _ q rfl h
  have h2 := rnF_le (f := dg_) _ q rfl h
  rcases pK_cases tp q with ⟨k, l⟩ | ⟨k, l⟩ | ⟨k, l⟩ | ⟨k, l⟩
  · rw [pE_0 k]; omega
  · rw [pE_1 k]
    have : 0 < rnF sm_ tp q := by
      cases e : sm_ (tp.getD q 0)
      · unfold pK at k; rw [if_neg (by omega), e, if_neg (by decide)] at k; split at k <;> omega
      · rw [rnF_yes l e]; omega
    omega
  · rw [pE_2 k]
    have : 0 < rnF dg_ tp q := by
      cases e : dg_ (tp.getD q 0)
      · unfold pK at k; rw [if_neg (by omega), e] at k; split at k
        · omega
        · rw [if_neg (by decide)] at k; omega
      · rw [rnF_yes l e]; omega
    omega
  · rw [pE_3 k]; omega
theorem pT_len {tp : List Int} {q : Nat} (h : q ≤ tp.length) : (pT tp q).length = pE tp q - q := by
  have := pE_le h
  unfold pT
  rw [List.length_take, List.length_drop]
  omega
/-- words -/
def wWay : List Int := [119, 97, 121]
def wLongest : List Int := [108, 111, 110, 103, 101, 115, 116]
def wPairs : List Int := [112, 97, 105, 114, 115]
def wCheck : List Int := [99, 104, 101, 99, 107]
def wSize : List Int := [115, 105, 122, 101]
def wChannel : List Int := [99, 104, 97, 110, 110, 101, 108]
def wPlain : List Int := [112, 108, 97, 105, 110]
def wReduced : List Int := [114, 101, 100, 117, 99, 101, 100]
def wNone : List Int := [110, 111, 110, 101]
def wSum : List Int := [115, 117, 109]
def wCrc : List Int := [99, 114, 99]
/-- is the part at q this word -/
abbrev isW (tp : List Int) (q : Nat) (w : List Int) : Prop := pK tp q = 1 ∧ pT tp q = w
/-- which sort of piece begins here; -1: none -/
def srt (tp : List Int) (q : Nat) : Int := if isW tp q wWay then 0 else if isW tp q wLongest then 1 else if isW tp q wPairs then 2 else if isW tp q wCheck then 3 else if isW tp q wSize then 4 else if isW tp q wChannel then 5 else -1
/-- which of three words; a number within bounds -/
def oneF (tp : List Int) (q : Nat) (a b c : List Int) : Int := if isW tp q a then 0 else if isW tp q b then 1 else if isW tp q c then 2 else -1
def numF (tp : List Int) (q : Nat) (lo hi : Int) : Int := if pK tp q = 2 ∧ lo ≤ nmF (pT tp q) ∧ nmF (pT tp q) ≤ hi then nmF (pT tp q) else -1
/-- what a text has told so far: 0 way, 1 longest, 2 pairs, 3 check, 4 size; which sorts; of each channel its credits -/
abbrev PS : Type := RU × Int × List Int
def valF (tp : List Int) (q : Nat) (so : Int) : Int := if so = 0 then oneF tp q wPlain wPairs wReduced else if so = 1 then numF tp q 2 60 else if so = 2 then numF tp q 1 30 else if so = 3 then oneF tp q wNone wSum wCrc else if so = 4 then numF tp q 1 60 else numF tp q 1 8
def p2 (so : Int) : Int := if so = 0 then 1 else if so = 1 then 2 else if so = 2 then 4 else if so = 3 then 8 else 16
abbrev mayF (x : PS) (so : Int) : Prop := (so = 5 ∧ x.2.2.length < 4) ∨ (so ≠ 5 ∧ x.2.1 / p2 so % 2 = 0)
def tellF (x : PS) (so v : Int) : PS := if so = 5 then (x.1, x.2.1, x.2.2 ++ [v]) else (up x.1 so.toNat v, x.2.1 + p2 so, x.2.2)
/-- pieces from the part at q on: where the text is wrong, or -1; what is told -/
def pcs (tp : List Int) : Nat → Nat → PS → Int × PS
  | 0, q, x => (q, x)
  | f + 1, q, x =>
    if srt tp q = -1 ∨ ¬ mayF x (srt tp q) then ((q : Int), x)
    else if valF tp (pB tp (pE tp q)) (srt tp q) = -1 then ((pB tp (pE tp q) : Nat), x)
    else if pK tp (pB tp (pE tp (pB tp (pE tp q)))) = 3 ∧ tp.getD (pB tp (pE tp (pB tp (pE tp q)))) 0 = 59 then pcs tp f (pB tp (pE tp (pB tp (pE tp (pB tp (pE tp q)))))) (tellF x (srt tp q) (valF tp (pB tp (pE tp q)) (srt tp q)))
    else if pK tp (pB tp (pE tp (pB tp (pE tp q)))) = 0 ∧ 0 < (tellF x (srt tp q) (valF tp (pB tp (pE tp q)) (srt tp q))).2.2.length then (-1, tellF x (srt tp q) (valF tp (pB tp (pE tp q)) (srt tp q)))
    else ((pB tp (pE tp (pB tp (pE tp q))) : Nat), tellF x (srt tp q) (valF tp (pB tp (pE tp q)) (srt tp q)))
def ru0 : RU := fun k => if k = 1 then 20 else if k = 2 then 10 else if k = 3 then 1 else if k = 4 then 16 else 0
def parF (tp : List Int) : Int × PS := pcs tp 400 (pB tp 0) (ru0, 0, [])
