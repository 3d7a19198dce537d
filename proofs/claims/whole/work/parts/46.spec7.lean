/-! ===== the whole system: what both sides keep, what each call answers and leaves behind ===== -/
/-- TAPE, BOX, HAND, refused, is there a LINE, rules, told credits, the state, the past (the oldest first), the image -/
abbrev SY : Type := List Int × List Int × List Int × (Nat → Int) × Int × RU × (Nat → Int) × ST × List ST × Option ST
def st0 (tl : Nat → Int) : ST := ([], [], (fun k => if k = 1 then -1 else 0), [], fun c => ((fun k => if k = 0 then tl c else 0), [], [], []))
def kpF (ps : List ST) (s : ST) : List ST := (if ps.length = 12 then ps.drop 1 else ps) ++ [s]
def rfF (rf : Nat → Int) (k : Nat) : Nat → Int := up rf k (rf k + 1)
def chS (s : ST) (c : Nat) (x : CH) : ST := (s.1, s.2.1, s.2.2.1, s.2.2.2.1, up s.2.2.2.2 c x)
def oFeed : SY → Int → Int → Int → Int → Int → Int × SY
  | (tp, S), a, b, c, d, e => if 280 < tp.length then (-1, tp, S) else (tp.length + 20, tp ++ fouF a ++ fouF b ++ fouF c ++ fouF d ++ fouF e, S)
def oEnd : SY → Int → Bool × SY
  | (tp, S), n => if 0 ≤ n ∧ n ≤ tp.length then (true, tp.take n.toNat, S) else (false, tp, S)
def ruP (x : PS) : RU := fun k => if k = 5 then (x.2.2.length : Int) else x.1 k
def oLine : SY → Int × SY
  | (tp, bx, hd, rf, il, ru, tl, s, ps, im) => if (parF tp).1 = -1 then ((parF tp).2.2.2.length, [], bx, [], rf, 1, ruP (parF tp).2, (fun c => (parF tp).2.2.2.getD c 0), st0 (fun c => (parF tp).2.2.2.getD c 0), [], none) else (-1, tp, bx, hd, rf, il, ru, tl, s, ps, im)
def oStuff : SY → Int → Int × SY
  | (tp, bx, S), w => if 0 ≤ w ∧ w ≤ 2 then ((stuffF (S.2.2.2.1 1).toNat (S.2.2.2.1 2).toNat w tp).length, [], stuffF (S.2.2.2.1 1).toNat (S.2.2.2.1 2).toNat w tp, S) else (-1, tp, bx, S)
def oUnstuff : SY → Int → Int × SY
  | (tp, bx, S), w => if 0 ≤ w ∧ w ≤ 2 then (if (unF (S.2.2.2.1 1).toNat (S.2.2.2.1 2).toNat w tp).1 = -1 then ((unF (S.2.2.2.1 1).toNat (S.2.2.2.1 2).toNat w tp).2.length, [], (unF (S.2.2.2.1 1).toNat (S.2.2.2.1 2).toNat w tp).2, S) else (-2 - (unF (S.2.2.2.1 1).toNat (S.2.2.2.1 2).toNat w tp).1, tp, bx, S)) else (-1, tp, bx, S)
/-- a byte of a row, or none -/
def atF (l : List Int) (k : Int) : Int := if 0 ≤ k ∧ k < l.length then l.getD k.toNat 0 else -1
def shoL (L Z : Nat) (tp : List Int) : Int := if (stuffF L Z 1 tp).length < (stuffF L Z 0 tp).length then (if (stuffF L Z 2 tp).length < (stuffF L Z 1 tp).length then 2 else 1) else (if (stuffF L Z 2 tp).length < (stuffF L Z 0 tp).length then 2 else 0)
def oSend : SY → Int → Int × SY
  | (tp, bx, hd, rf, il, ru, tl, s, ps, im), c =>
    if il ≠ 1 then (-1, tp, bx, hd, rfF rf 0, il, ru, tl, s, ps, im)
    else if ¬ (0 ≤ c ∧ c < ru 5) then (-1, tp, bx, hd, rfF rf 1, il, ru, tl, s, ps, im)
    else if 120 < tp.length then (-1, tp, bx, hd, rfF rf 2, il, ru, tl, s, ps, im)
    else if (s.2.2.2.2 c.toNat).2.1.length = 8 then (-1, tp, bx, hd, rfF rf 3, il, ru, tl, s, ps, im)
    else ((s.2.2.2.2 c.toNat).2.1.length + 1, [], bx, hd, rf, il, ru, tl, chS s c.toNat ((s.2.2.2.2 c.toNat).1, (s.2.2.2.2 c.toNat).2.1 ++ [tp], (s.2.2.2.2 c.toNat).2.2), kpF ps s, im)
noncomputable def oPut : SY → Int → Int × SY
  | (tp, bx, hd, rf, il, ru, tl, s, ps, im), n =>
    if il ≠ 1 then (-1, tp, bx, hd, rfF rf 0, il, ru, tl, s, ps, im)
    else if ¬ (1 ≤ n ∧ n ≤ 60) then (-1, tp, bx, hd, rfF rf 2, il, ru, tl, s, ps, im)
    else if (putN ru n.toNat s).1 = 0 then (0, tp, bx, hd, rf, il, ru, tl, s, ps, im)
    else ((putN ru n.toNat s).1, tp, bx, hd, rf, il, ru, tl, (putN ru n.toNat s).2, kpF ps s, im)
def oFlip : SY → Int → Int → Int × SY
  | (tp, bx, hd, rf, il, ru, tl, s, ps, im), i, v =>
    if il ≠ 1 then (-1, tp, bx, hd, rfF rf 0, il, ru, tl, s, ps, im)
    else if ¬ (0 ≤ i ∧ i < s.1.length) then (-1, tp, bx, hd, rfF rf 1, il, ru, tl, s, ps, im)
    else if ¬ (1 ≤ v ∧ v ≤ 255) then (-1, tp, bx, hd, rfF rf 2, il, ru, tl, s, ps, im)
    else (xr (s.1.getD i.toNat 0) v, tp, bx, hd, rf, il, ru, tl, (flpL s.1 i.toNat v, s.2), kpF ps s, im)
def oLose : SY → Int → Int × SY
  | (tp, bx, hd, rf, il, ru, tl, s, ps, im), i =>
    if il ≠ 1 then (-1, tp, bx, hd, rfF rf 0, il, ru, tl, s, ps, im)
    else if ¬ (0 ≤ i ∧ i < s.1.length) then (-1, tp, bx, hd, rfF rf 1, il, ru, tl, s, ps, im)
    else (s.1.getD i.toNat 0, tp, bx, hd, rf, il, ru, tl, (losL s.1 i.toNat, s.2), kpF ps s, im)
def oInsert : SY → Int → Int → Int × SY
  | (tp, bx, hd, rf, il, ru, tl, s, ps, im), i, v =>
    if il ≠ 1 then (-1, tp, bx, hd, rfF rf 0, il, ru, tl, s, ps, im)
    else if ¬ (0 ≤ i ∧ i ≤ s.1.length) then (-1, tp, bx, hd, rfF rf 1, il, ru, tl, s, ps, im)
    else if ¬ (0 ≤ v ∧ v ≤ 255) then (-1, tp, bx, hd, rfF rf 2, il, ru, tl, s, ps, im)
    else if s.1.length = 600 then (-1, tp, bx, hd, rfF rf 3, il, ru, tl, s, ps, im)
    else (s.1.length + 1, tp, bx, hd, rf, il, ru, tl, (insL s.1 i.toNat v, s.2), kpF ps s, im)
/-- n noises: how many were done, the line -/
def noiN : Nat → Int64 → List Int → Int × List Int
  | 0, _, w => (0, w)
  | n + 1, D, w => ((if (noiF D w).1 then 1 else 0) + (noiN n (noiF D w).2.1 (noiF D w).2.2).1, (noiN n (noiF D w).2.1 (noiF D w).2.2).2)
def oNoise : SY → Int → Int64 → Int × SY
  | (tp, bx, hd, rf, il, ru, tl, s, ps, im), n, D =>
    if il ≠ 1 then (-1, tp, bx, hd, rfF rf 0, il, ru, tl, s, ps, im)
    else if ¬ (1 ≤ n ∧ n ≤ 40) then (-1, tp, bx, hd, rfF rf 2, il, ru, tl, s, ps, im)
    else if (noiN n.toNat D s.1).1 = 0 then (0, tp, bx, hd, rf, il, ru, tl, s, ps, im)
    else ((noiN n.toNat D s.1).1, tp, bx, hd, rf, il, ru, tl, ((noiN n.toNat D s.1).2, s.2), kpF ps s, im)
def oRead : SY → Int → Int × SY
  | (tp, bx, hd, rf, il, ru, tl, s, ps, im), n =>
    if il ≠ 1 then (-1, tp, bx, hd, rfF rf 0, il, ru, tl, s, ps, im)
    else if ¬ (1 ≤ n ∧ n ≤ 600) then (-1, tp, bx, hd, rfF rf 2, il, ru, tl, s, ps, im)
    else if s.1.length = 0 then (0, tp, bx, hd, rf, il, ru, tl, s, ps, im)
    else ((readF ru s (min n.toNat s.1.length)).2.2.1 2 - s.2.2.1 2, tp, bx, hd, rf, il, ru, tl, readF ru s (min n.toNat s.1.length), kpF ps s, im)
def oTake : SY → Int → Int × SY
  | (tp, bx, hd, rf, il, ru, tl, s, ps, im), c =>
    if il ≠ 1 then (-1, tp, bx, hd, rfF rf 0, il, ru, tl, s, ps, im)
    else if ¬ (0 ≤ c ∧ c < ru 5) ∨ (s.2.2.2.2 c.toNat).2.2.1.length = 0 then (-1, tp, bx, hd, rfF rf 1, il, ru, tl, s, ps, im)
    else (((s.2.2.2.2 c.toNat).2.2.1.getD 0 ([], 0)).1.length, tp, bx, ((s.2.2.2.2 c.toNat).2.2.1.getD 0 ([], 0)).1, rf, il, ru, tl, chS s c.toNat (up (up (s.2.2.2.2 c.toNat).1 0 (min (tl c.toNat) ((s.2.2.2.2 c.toNat).1 0 + ((s.2.2.2.2 c.toNat).2.2.1.getD 0 ([], 0)).2))) 7 ((s.2.2.2.2 c.toNat).1 7 + 1), (s.2.2.2.2 c.toNat).2.1, (s.2.2.2.2 c.toNat).2.2.1.drop 1, (s.2.2.2.2 c.toNat).2.2.2), kpF ps s, im)
def oRenew : SY → Int → Int × SY
  | (tp, bx, hd, rf, il, ru, tl, s, ps, im), c =>
    if il ≠ 1 then (-1, tp, bx, hd, rfF rf 0, il, ru, tl, s, ps, im)
    else if ¬ (0 ≤ c ∧ c < ru 5) then (-1, tp, bx, hd, rfF rf 1, il, ru, tl, s, ps, im)
    else if (s.2.2.2.2 c.toNat).1 0 = tl c.toNat then (-1, tp, bx, hd, rfF rf 2, il, ru, tl, s, ps, im)
    else (tl c.toNat, tp, bx, hd, rf, il, ru, tl, chS s c.toNat (up (s.2.2.2.2 c.toNat).1 0 (tl c.toNat), (s.2.2.2.2 c.toNat).2), kpF ps s, im)
/-- a count of a channel; none: no such -/
def aChan : SY → Int → Int → Option Int
  | (_, _, _, _, il, ru, tl, s, _, _), c, w =>
    if il = 1 ∧ 0 ≤ c ∧ c < ru 5 ∧ 0 ≤ w ∧ w ≤ 11 then
      some (if w = 0 then (s.2.2.2.2 c.toNat).1 0 else if w = 1 then tl c.toNat else if w = 2 then (s.2.2.2.2 c.toNat).2.1.length else if w = 3 then (s.2.2.2.2 c.toNat).1 1 else if w = 4 then (s.2.2.2.2 c.toNat).1 2 else if w = 5 then (s.2.2.2.2 c.toNat).1 3 else if w = 6 then (s.2.2.2.2 c.toNat).1 4 else if w = 7 then (s.2.2.2.2 c.toNat).1 5 else if w = 8 then (s.2.2.2.2 c.toNat).2.2.1.length else if w = 9 then (s.2.2.2.2 c.toNat).1 6 else if w = 10 then (s.2.2.2.2 c.toNat).2.2.2.length else (s.2.2.2.2 c.toNat).1 7)
    else none
def aEvent (s : ST) (i w : Int) : Int := if 0 ≤ i ∧ i < s.2.2.2.1.length ∧ 0 ≤ w ∧ w ≤ 4 then (s.2.2.2.1.getD i.toNat []).getD w.toNat 0 else -1
def aFrame (il : Int) (ru : RU) (w : List Int) (k x : Int) : Int :=
  if ¬ (il = 1 ∧ 0 ≤ k ∧ k < (frs w).length ∧ 0 ≤ x ∧ x ≤ 4) then -1
  else if x = 0 then ((frs w).getD k.toNat (0, 0)).1 else if x = 1 then (((frs w).getD k.toNat (0, 0)).2 : Int) - ((frs w).getD k.toNat (0, 0)).1
  else if x = 2 then frK ru w ((frs w).getD k.toNat (0, 0))
  else if frK ru w ((frs w).getD k.toNat (0, 0)) = 2 ∨ frK ru w ((frs w).getD k.toNat (0, 0)) = 3 then -1
  else if x = 3 then (frP_ ru w ((frs w).getD k.toNat (0, 0))).getD 0 0 / 64 else (frP_ ru w ((frs w).getD k.toNat (0, 0))).getD 0 0 % 16
/-- flips of one byte that nobody would see; of those from place i on, m of them -/
def bl1 (ru : RU) (w : List Int) (q : Nat × Nat) (i : Nat) : Nat → Nat → Int
  | 0, _ => 0
  | m + 1, v => (if xr (w.getD i 0) v ≠ 0 ∧ frK ru (flpL w i v) q = 0 then 1 else 0) + bl1 ru w q i m (v + 1)
def bl2 (ru : RU) (w : List Int) (q : Nat × Nat) : Nat → Nat → Int
  | 0, _ => 0
  | m + 1, i => bl1 ru w q i 255 1 + bl2 ru w q m (i + 1)
def aBlind (il : Int) (ru : RU) (w : List Int) (k : Int) : Int :=
  if ¬ (il = 1 ∧ 0 ≤ k ∧ k < (frs w).length) then -1
  else if frK ru w ((frs w).getD k.toNat (0, 0)) ≠ 0 then -2
  else bl2 ru w ((frs w).getD k.toNat (0, 0)) (((frs w).getD k.toNat (0, 0)).2 - ((frs w).getD k.toNat (0, 0)).1) ((frs w).getD k.toNat (0, 0)).1
def theF (s : ST) (ch : Nat) : Int := sumC (fun c => (s.2.2.2.2 c).2.2.1.length) ch
def aHarm (il : Int) (ru : RU) (s : ST) (i v : Int) : Int :=
  if il = 1 ∧ (0 ≤ i ∧ i < s.1.length) ∧ (1 ≤ v ∧ v ≤ 255) then theF (readF ru s s.1.length) (ru 5).toNat - theF (readF ru (flpL s.1 i.toNat v, s.2) s.1.length) (ru 5).toNat else -1000000
/-- frames and bytes that n bytes cost at most -/
def cosL (ru : RU) : Nat → Int → Int × Int
  | 0, _ => (0, 0)
  | f + 1, l => (1 + (if 0 < l - min (ru 4) l then (cosL ru f (l - min (ru 4) l)).1 else 0), mstF (ru 1) (1 + min (ru 4) l + ckl (ru 3)) + 1 + (if 0 < l - min (ru 4) l then (cosL ru f (l - min (ru 4) l)).2 else 0))
def aCost (il : Int) (ru : RU) (n w : Int) : Int := if il = 1 ∧ (0 ≤ n ∧ n ≤ 120) ∧ 0 ≤ w ∧ w ≤ 1 then (if w = 0 then (cosL ru 200 n).1 else (cosL ru 200 n).2) else -1
/-- a channel's share: frames, bytes, numbers left out, bytes of PARTS, the latest number -/
def shr1 (ru : RU) (w : List Int) (c : Int) (a : Int × Int × Int × Int × Int) (q : Nat × Nat) : Int × Int × Int × Int × Int :=
  if frK ru w q = 0 ∧ (frP_ ru w q).getD 0 0 / 64 = c then (a.1 + 1, a.2.1 + ((q.2 : Int) - q.1 + 1), a.2.2.1 + (if a.2.2.2.2 = -1 then 0 else ((frP_ ru w q).getD 0 0 % 16 - a.2.2.2.2 - 1) % 16), a.2.2.2.1 + (partF ru (frP_ ru w q)).length, (frP_ ru w q).getD 0 0 % 16) else a
def shrF (ru : RU) (w : List Int) (c : Int) : Int × Int × Int × Int × Int := (frs w).foldl (shr1 ru w c) (0, 0, 0, 0, -1)
def aShare (il : Int) (ru : RU) (w : List Int) (c x : Int) : Int :=
  if il = 1 ∧ (0 ≤ c ∧ c < ru 5) ∧ 0 ≤ x ∧ x ≤ 3 then (if x = 0 then (shrF ru w c).1 else if x = 1 then (shrF ru w c).2.1 else if x = 2 then (shrF ru w c).2.2.1 else (shrF ru w c).2.2.2.1) else -1
/-- all that can be put is put, all is read, until nothing comes any more -/
noncomputable def fluF (ru : RU) : Nat → ST → ST
  | 0, s => s
  | f + 1, s => if (putN ru 60 s).2.1.length = 0 then (putN ru 60 s).2 else fluF ru f (readF ru (putN ru 60 s).2 (putN ru 60 s).2.1.length)
noncomputable def aFlushed (il : Int) (ru : RU) (s : ST) (w : Int) : Int :=
  if ¬ (il = 1 ∧ 0 ≤ w ∧ w ≤ 4) then -1
  else if w = 0 then theF (fluF ru 60 s) (ru 5).toNat else if w = 1 then sumC (fun c => ((fluF ru 60 s).2.2.2.2 c).1 4) (ru 5).toNat else if w = 2 then sumC (fun c => ((fluF ru 60 s).2.2.2.2 c).1 5) (ru 5).toNat else if w = 3 then sumC (fun c => (((fluF ru 60 s).2.2.2.2 c).2.1.length : Int)) (ru 5).toNat else (fluF ru 60 s).2.2.1 2 - s.2.2.1 2
def oUndo : SY → Int × SY
  | (tp, bx, hd, rf, il, ru, tl, s, ps, im) => if ps.length = 0 then (-1, tp, bx, hd, rf, il, ru, tl, s, ps, im) else ((ps.length : Int) - 1, tp, bx, hd, rf, il, ru, tl, ps.getD (ps.length - 1) s, ps.dropLast, im)
def oImage : SY → Int × SY
  | (tp, bx, hd, rf, il, ru, tl, s, ps, im) => if il ≠ 1 then (-1, tp, bx, hd, rf, il, ru, tl, s, ps, im) else (s.1.length, tp, bx, hd, rf, il, ru, tl, s, ps, some s)
def oBack : SY → Int × SY
  | (tp, bx, hd, rf, il, ru, tl, s, ps, im) => match im with
    | none => (-1, tp, bx, hd, rf, il, ru, tl, s, ps, none)
    | some si => (si.1.length, tp, bx, hd, rf, il, ru, tl, si, [], some si)
def aRule : SY → Int → Int
  | (_, _, _, _, il, ru, _, s, _, _), w =>
    if il ≠ 1 then -1000000 else if w = 0 then ru 0 else if w = 1 then ru 1 else if w = 2 then ru 2 else if w = 3 then ru 3 else if w = 4 then ru 4 else if w = 5 then ru 5 else if w = 6 then s.1.length else if w = 7 then (frs s.1).length else if w = 8 then s.2.1.length else if w = 9 then s.2.2.1 2 else if w = 10 then s.2.2.1 1 else if w = 11 then mstF (ru 1) (1 + ru 4 + ckl (ru 3)) + 1 else -1000000
def aMost : SY → Int → Int
  | (_, _, _, _, il, ru, _, s, _, _), w =>
    if il ≠ 1 then -1000000 else if w = 0 then (mostL (fun c => (s.2.2.2.2 c).1 4) (ru 5).toNat : Nat) else if w = 1 then pickF s (ru 5).toNat else if w = 2 then badF s.2.2.2.1 else if w = 3 then lonF (frs s.1) else if w = 4 then sumC (fun c => waiB (s.2.2.2.2 c).2.1 - (s.2.2.2.2 c).1 1) (ru 5).toNat else if w = 5 then greF s.1 else -1000000
def aCount : SY → Int → Int
  | (tp, bx, hd, _, _, _, _, _, ps, _), w => if w = 0 then tp.length else if w = 1 then ps.length else if w = 2 then bx.length else if w = 3 then hd.length else -1
def aStatus (rf : Nat → Int) (w : Int) : Int := if 0 ≤ w ∧ w ≤ 3 then rf w.toNat else -1
/-- what a state keeps to, with told credits -/
def WfS (b : Int) (ru : RU) (tl : Nat → Int) (s : ST) : Prop := WfSt b (ru 5).toNat s ∧ ∀ c, c < (ru 5).toNat → (s.2.2.2.2 c).1 0 ≤ tl c
def WfSy (b : Int) : SY → Prop
  | (tp, bx, hd, rf, il, ru, tl, s, ps, im) => (tp.length ≤ 300 ∧ byt tp) ∧ (bx.length ≤ 600 ∧ byt bx) ∧ (hd.length ≤ 120 ∧ byt hd) ∧ (∀ k, k < 4 → 0 ≤ rf k ∧ rf k ≤ b) ∧ (il = 0 ∨ il = 1) ∧ ((2 ≤ ru 1 ∧ ru 1 ≤ 60) ∧ 1 ≤ ru 2 ∧ ru 2 ≤ 30) ∧ (il = 0 → hd = [] ∧ ps = [] ∧ im = none ∧ s = st0 (fun _ => 0)) ∧ ps.length ≤ 12 ∧ (il = 1 → WfRu ru ∧ (∀ c, c < (ru 5).toNat → 1 ≤ tl c ∧ tl c ≤ 8) ∧ WfS b ru tl s ∧ (∀ x ∈ ps, WfS b ru tl x) ∧ ∀ x, im = some x → WfS b ru tl x)
/-- the reference's fields hold a system -/
def RepM (I : Nat → Int) (A : Nat → Int → Int) : SY → Prop
  | (tp, bx, hd, rf, il, ru, tl, s, ps, im) => (I 2 = tp.length ∧ sg (A 1) 0 tp) ∧ (I 31 = bx.length ∧ sg (A 7) 0 bx) ∧ (I 38 = hd.length ∧ sg (A 11) 0 hd) ∧ (∀ k : Nat, k < 4 → A 10 (k : Int) = rf k) ∧ I 17 = il ∧ (I 19 = ru 1 ∧ I 20 = ru 2) ∧ (0 ≤ I 23 ∧ I 23 ≤ 4) ∧ I 33 = ps.length ∧ I 43 = (if im.isSome then 1 else 0) ∧ (il = 1 → RuM I ru ∧ (∀ c : Nat, c < (ru 5).toNat → A 4 (c : Int) = tl c) ∧ RepSt (ru 5).toNat (A 3) s ∧ (∀ k : Nat, k < ps.length → RepSt (ru 5).toNat (fun i => A 8 (9309 * (k : Int) + i)) (ps.getD k s)) ∧ ∀ x, im = some x → RepSt (ru 5).toNat (A 14) x)
