section NULLS
variable {α : Type} {G : GT} {Abs : α → Heap → Prop} {y : MethodName} {cc : ByteArray} {nL : Nat} {rt : Option FieldType} {d : Nat} {a : α} {pc : Nat} {L : List (Option Value)} {st : List Value} {post : Option Value → α → Prop}
theorem s_aloadN {i : Nat} (q : Nat) (hd : decode cc pc = .ok (.aload i, 2)) (hq : pc + 2 = q) (hv : L[i]? = some (some .null)) (k : V G Abs y cc nL rt d a q L (.null :: st) post) : V G Abs y cc nL rt d a pc L (st) post := by
  subst hq
  intro n u p e s m args below meth c H locs ls C hB hn hg hA hl hL
  exact lv_aloadN C.1.1 C.1.2.1 hd (lvl_at hL hv) (k n u p e s m args below meth c H locs ls C hB hn hg hA hl hL)
theorem s_astoreN {i : Nat} (q : Nat) (hd : decode cc pc = .ok (.astore i, 2)) (hq : pc + 2 = q) (hn1 : i < nL) (hc : cat1 L i = true) (k : V G Abs y cc nL rt d a q (L.set i (some (.null))) (st) post) : V G Abs y cc nL rt d a pc L (.null :: st) post := by
  subst hq
  intro n u p e s m args below meth c H locs ls C hB hn hg hA hl hL
  exact lv_astoreN C.1.1 C.1.2.1 hd hL hn1 rfl fun ls2 hL2 => k n u p e s m args below meth c H locs ls2 C hB hn hg hA hl (lvl_has hc hL2)
end NULLS
