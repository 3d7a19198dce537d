/-! ===== frames, channels, the line: what both sides compute ===== -/
/-- rules: 0 way, 1 longest, 2 pairs, 3 check, 4 size, 5 channels -/
abbrev RU : Type := Nat → Int
/-- a channel: 0 credits, 1 bytes put, 2 next number, 3 expected, 4 lost, 5 torn, 6 frames, 7 taken; what waits; what is there (bytes, frames); what is put together -/
abbrev CH : Type := (Nat → Int) × List (List Int) × List (List Int × Int) × List Int
/-- the line; the reader's bytes; 0 too long, 1 picked, 2 came; events, the latest first; channels -/
abbrev ST : Type := List Int × List Int × (Nat → Int) × List (List Int) × (Nat → CH)
def crc1 (s : Int) : Int := if 128 ≤ s then xr (2 * s % 256) 7 else 2 * s
def crc8 (s : Int) : Int := crc1 (crc1 (crc1 (crc1 (crc1 (crc1 (crc1 (crc1 s)))))))
def chk1 (ck s b : Int) : Int := if ck = 1 then (s + b) % 256 else crc8 (xr s b)
def chkF (ck : Int) (l : List Int) : Int := l.foldl (chk1 ck) 0
def ckl (ck : Int) : Nat := if ck = 0 then 0 else 1
/-- what bytes are by themselves: 0 whole, 2 BROKEN, 3 BAD, 4 STRANGE; the plain bytes -/
def judge (ru : RU) (bs : List Int) : Int × List Int :=
  if (unF (ru 1).toNat (ru 2).toNat (ru 0) bs).1 ≠ -1 then (2, [])
  else if (unF (ru 1).toNat (ru 2).toNat (ru 0) bs).2.length < 1 + ckl (ru 3) ∨ (ru 3 ≠ 0 ∧ chkF (ru 3) ((unF (ru 1).toNat (ru 2).toNat (ru 0) bs).2.take ((unF (ru 1).toNat (ru 2).toNat (ru 0) bs).2.length - 1)) ≠ (unF (ru 1).toNat (ru 2).toNat (ru 0) bs).2.getD ((unF (ru 1).toNat (ru 2).toNat (ru 0) bs).2.length - 1) 0) then (3, [])
  else (if ru 5 ≤ (unF (ru 1).toNat (ru 2).toNat (ru 0) bs).2.getD 0 0 / 64 ∨ ru 4 < (unF (ru 1).toNat (ru 2).toNat (ru 0) bs).2.length - 1 - ckl (ru 3) then 4 else 0, (unF (ru 1).toNat (ru 2).toNat (ru 0) bs).2)
/-- its PART -/
def partF (ru : RU) (pl : List Int) : List Int := (pl.drop 1).take (pl.length - 1 - ckl (ru 3))
/-- what was put together is torn -/
def tearF (c : CH) : CH := (up (up c.1 5 (c.1 5 + if 0 < c.1 6 then 1 else 0)) 6 0, c.2.1, c.2.2.1, [])
/-- a whole frame comes: its event, the channel -/
def lostF (c : CH) (h : Int) : CH := (up (if (h - c.1 3) % 16 = 0 then c else tearF (up c.1 4 (c.1 4 + (h - c.1 3) % 16), c.2)).1 3 ((h + 1) % 16), (if (h - c.1 3) % 16 = 0 then c else tearF (up c.1 4 (c.1 4 + (h - c.1 3) % 16), c.2)).2)
/-- the LAST one has come: its event, the channel -/
def endF (y : CH) : Int × CH := if y.2.2.1.length = 8 then (6, tearF y) else (1, up y.1 6 0, y.2.1, y.2.2.1 ++ [(y.2.2.2, y.1 6)], [])
def putT (c : CH) (pt : List Int) : CH := (up c.1 6 (c.1 6 + 1), c.2.1, c.2.2.1, c.2.2.2 ++ pt)
def addF (c : CH) (h : Int) (pt : List Int) : Int × CH := if h / 16 % 2 = 0 then (0, putT c pt) else endF (putT c pt)
def accF (c : CH) (h : Int) (pt : List Int) : Int × CH :=
  if h / 32 % 2 = 1 then addF (tearF (lostF c h)) h pt
  else if (lostF c h).1 6 = 0 then (5, lostF c h)
  else if 120 < (lostF c h).2.2.2.length + pt.length then (5, tearF (lostF c h))
  else addF (lostF c h) h pt
/-- an event comes -/
def evF (s : ST) (ev : List Int) : List (List Int) := (ev :: s.2.2.2.1).take 40
/-- a MARK is read -/
def markF (ru : RU) (s : ST) : ST :=
  if s.2.1.length = 0 then s
  else if s.2.2.1 0 ≠ 0 ∨ (judge ru s.2.1).1 = 2 then (s.1, [], up (up s.2.2.1 0 0) 2 (s.2.2.1 2 + 1), evF s [2, -1, s.2.1.length, -1, -1], s.2.2.2.2)
  else if (judge ru s.2.1).1 = 3 then (s.1, [], up (up s.2.2.1 0 0) 2 (s.2.2.1 2 + 1), evF s [3, -1, s.2.1.length, -1, -1], s.2.2.2.2)
  else if (judge ru s.2.1).1 = 4 then (s.1, [], up (up s.2.2.1 0 0) 2 (s.2.2.1 2 + 1), evF s [4, (judge ru s.2.1).2.getD 0 0, s.2.1.length, (partF ru (judge ru s.2.1).2).length, (judge ru s.2.1).2.getD 0 0 / 64], s.2.2.2.2)
  else (s.1, [], up (up s.2.2.1 0 0) 2 (s.2.2.1 2 + 1), evF s [(accF (s.2.2.2.2 ((judge ru s.2.1).2.getD 0 0 / 64).toNat) ((judge ru s.2.1).2.getD 0 0) (partF ru (judge ru s.2.1).2)).1, (judge ru s.2.1).2.getD 0 0, s.2.1.length, (partF ru (judge ru s.2.1).2).length, (judge ru s.2.1).2.getD 0 0 / 64], up s.2.2.2.2 ((judge ru s.2.1).2.getD 0 0 / 64).toNat (accF (s.2.2.2.2 ((judge ru s.2.1).2.getD 0 0 / 64).toNat) ((judge ru s.2.1).2.getD 0 0) (partF ru (judge ru s.2.1).2)).2)
/-- a byte is read -/
def byteF (ru : RU) (s : ST) (b : Int) : ST :=
  if b = 0 then markF ru s else if s.2.1.length = 200 then (s.1, s.2.1, up s.2.2.1 0 1, s.2.2.2) else (s.1, s.2.1 ++ [b], s.2.2)
/-- n bytes are read -/
def readF (ru : RU) (s : ST) (n : Nat) : ST := ((s.1.drop n), ((s.1.take n).foldl (byteF ru) s).2)
/-- the channel that is picked, of those from the k-th behind the latest on -/
def pickL (s : ST) (ch : Nat) : Nat → Nat → Int → Int
  | 0, _, best => best
  | m + 1, k, best => pickL s ch m (k + 1) (if 0 < (s.2.2.2.2 (((s.2.2.1 1 + k + ch) % ch).toNat)).2.1.length ∧ 0 < (s.2.2.2.2 (((s.2.2.1 1 + k + ch) % ch).toNat)).1 0 ∧ (best = -1 ∨ (s.2.2.2.2 best.toNat).1 0 < (s.2.2.2.2 (((s.2.2.1 1 + k + ch) % ch).toNat)).1 0) then (s.2.2.1 1 + k + ch) % ch else best)
def pickF (s : ST) (ch : Nat) : Int := pickL s ch ch 1 (-1)
/-- the next frame of a channel: its PART, all of it stuffed -/
def prtF (ru : RU) (c : CH) : List Int := (((c.2.1.headD []).drop (c.1 1).toNat).take (ru 4).toNat)
def hdF (ru : RU) (k : Int) (c : CH) : Int := 64 * k + (if c.1 1 = 0 then 32 else 0) + (if c.1 1 + (prtF ru c).length = (c.2.1.headD []).length then 16 else 0) + c.1 2
def plnF (ru : RU) (k : Int) (c : CH) : List Int := (hdF ru k c :: prtF ru c) ++ (if ru 3 = 0 then [] else [chkF (ru 3) (hdF ru k c :: prtF ru c)])
def frmF (ru : RU) (k : Int) (c : CH) : List Int := stuffF (ru 1).toNat (ru 2).toNat (ru 0) (plnF ru k c)
/-- its channel behind it -/
def wasF (ru : RU) (c : CH) : CH :=
  if c.1 1 + (prtF ru c).length = (c.2.1.headD []).length then (up (up (up c.1 0 (c.1 0 - 1)) 2 ((c.1 2 + 1) % 16)) 1 0, c.2.1.drop 1, c.2.2)
  else (up (up (up c.1 0 (c.1 0 - 1)) 2 ((c.1 2 + 1) % 16)) 1 (c.1 1 + (prtF ru c).length), c.2)
/-- can a frame be put; it is put -/
def canF (ru : RU) (s : ST) : Prop := pickF s (ru 5).toNat ≠ -1 ∧ s.1.length + (frmF ru (pickF s (ru 5).toNat) (s.2.2.2.2 (pickF s (ru 5).toNat).toNat)).length + 1 ≤ 600
def putF (ru : RU) (s : ST) : ST := (s.1 ++ frmF ru (pickF s (ru 5).toNat) (s.2.2.2.2 (pickF s (ru 5).toNat).toNat) ++ [0], s.2.1, up s.2.2.1 1 (pickF s (ru 5).toNat), s.2.2.2.1, up s.2.2.2.2 (pickF s (ru 5).toNat).toNat (wasF ru (s.2.2.2.2 (pickF s (ru 5).toNat).toNat)))
/-- n frames at most: how many were put -/
noncomputable def putN (ru : RU) : Nat → ST → Nat × ST
  | 0, s => (0, s)
  | n + 1, s => @ite _ (canF ru s) (Classical.propDecidable _) ((putN ru n (putF ru s)).1 + 1, (putN ru n (putF ru s)).2) (0, s)
