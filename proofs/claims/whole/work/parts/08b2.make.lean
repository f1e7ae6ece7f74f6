theorem J.newI {l : Launch} {own : String} {cc : ByteArray} {nL : Nat} {rt : Option FieldType} {d kc ks : Nat} {fi : Bool} {F : Nat × (Int → Int)} {Post : Option VT → Shp → Mm → Prop} {a b pc : Nat} {ls : List (Option VT)} {st : List VT} {S : Shp} {iv : Mm} {x : Int} {N n q : Nat} (hd : decode cc pc = .ok (.newarray .int, 2)) (hx0 : x = (N : Int)) (hLn : N < 65536) (hn : S.1 = n) (hn9 : n + 1 < 1000) (hw : Cond.arrayClass .int ∈ gtb) (hcap : a + 1 ≤ kc ∧ b + N ≤ ks) (hq : pc + 2 = q) (k : J l own cc nL rt d kc ks fi F Post (a + 1) (b + N) q ls (r_ n :: st) (nwS S (0, N)) (nwI S iv)) : J l own cc nL rt d kc ks fi F Post a b pc ls (i_ x :: st) S iv := by
  intro p e s m args below meth c D cI cZ cC base fa Q C E H locs lsA hH hL
  obtain ⟨hx, hb, hml, hr, ho, hts, hfi, hK, hN, hF, hbs⟩ := id C
  obtain ⟨hP, hS, hsz, hWf⟩ := id hH
  subst hq
  subst hn
  subst hx0
  refine va_newaK (N := N) hx hb (atype := .int) (hts _ hw) rfl hd rfl (by rw [← I3_nat]; exact nI_pos (by omega)) (by rw [I3_clamp (by omega) (by omega)]; omega) (cb_ok (by decide) hLn) hcap.1 hcap.2 rfl fun H1 cA e1 z1 o1 hAr hNm => ?_
  have hcA : cA = cI := Option.some.inj (hNm.symm.trans (hK.2 0 _ rfl).2)
  have hH1 : HF D cI cZ cC base s (nwS S (0, N)) (nwI S iv) H1 locs := by
    refine hH.nw hLn hn9 ?_ z1 o1
    rw [wE_a0, ← hsz]
    show H1[H.size]? = some (vp_cell _ _)
    rw [e1, hcA]
    rfl
  have k1 := k p e s m args below meth c D cI cZ cC base fa Q C E H1 locs lsA hH1 hL
  rw [List.map_cons, show wV base fa (r_ S.1) = .ref (adr base fa S.1) from rfl, adr_in (by omega), ← hsz] at k1
  exact k1
theorem J.newZ {l : Launch} {own : String} {cc : ByteArray} {nL : Nat} {rt : Option FieldType} {d kc ks : Nat} {fi : Bool} {F : Nat × (Int → Int)} {Post : Option VT → Shp → Mm → Prop} {a b pc : Nat} {ls : List (Option VT)} {st : List VT} {S : Shp} {iv : Mm} {x : Int} {N n q : Nat} (hd : decode cc pc = .ok (.newarray .boolean, 2)) (hx0 : x = (N : Int)) (hLn : N < 65536) (hn : S.1 = n) (hn9 : n + 1 < 1000) (hw : Cond.arrayClass .boolean ∈ gtb) (hcap : a + 1 ≤ kc ∧ b + N ≤ ks) (hq : pc + 2 = q) (k : J l own cc nL rt d kc ks fi F Post (a + 1) (b + N) q ls (r_ n :: st) (nwS S (1, N)) (nwI S iv)) : J l own cc nL rt d kc ks fi F Post a b pc ls (i_ x :: st) S iv := by
  intro p e s m args below meth c D cI cZ cC base fa Q C E H locs lsA hH hL
  obtain ⟨hx, hb, hml, hr, ho, hts, hfi, hK, hN, hF, hbs⟩ := id C
  obtain ⟨hP, hS, hsz, hWf⟩ := id hH
  subst hq
  subst hn
  subst hx0
  refine va_newaK (N := N) hx hb (atype := .boolean) (hts _ hw) rfl hd rfl (by rw [← I3_nat]; exact nI_pos (by omega)) (by rw [I3_clamp (by omega) (by omega)]; omega) (cb_ok (by decide) hLn) hcap.1 hcap.2 rfl fun H1 cA e1 z1 o1 hAr hNm => ?_
  have hcA : cA = cZ := Option.some.inj (hNm.symm.trans (hK.2 1 _ rfl).2)
  have hH1 : HF D cI cZ cC base s (nwS S (1, N)) (nwI S iv) H1 locs := by
    refine hH.nw hLn hn9 ?_ z1 o1
    rw [wE_a1, ← hsz]
    show H1[H.size]? = some (vp_cell _ _)
    rw [e1, hcA]
    rfl
  have k1 := k p e s m args below meth c D cI cZ cC base fa Q C E H1 locs lsA hH1 hL
  rw [List.map_cons, show wV base fa (r_ S.1) = .ref (adr base fa S.1) from rfl, adr_in (by omega), ← hsz] at k1
  exact k1
theorem J.newC {l : Launch} {own : String} {cc : ByteArray} {nL : Nat} {rt : Option FieldType} {d kc ks : Nat} {fi : Bool} {F : Nat × (Int → Int)} {Post : Option VT → Shp → Mm → Prop} {a b pc : Nat} {ls : List (Option VT)} {st : List VT} {S : Shp} {iv : Mm} {x : Int} {N n q : Nat} (hd : decode cc pc = .ok (.newarray .char, 2)) (hx0 : x = (N : Int)) (hLn : N < 65536) (hn : S.1 = n) (hn9 : n + 1 < 1000) (hw : Cond.arrayClass .char ∈ gtb) (hcap : a + 1 ≤ kc ∧ b + N ≤ ks) (hq : pc + 2 = q) (k : J l own cc nL rt d kc ks fi F Post (a + 1) (b + N) q ls (r_ n :: st) (nwS S (2, N)) (nwI S iv)) : J l own cc nL rt d kc ks fi F Post a b pc ls (i_ x :: st) S iv := by
  intro p e s m args below meth c D cI cZ cC base fa Q C E H locs lsA hH hL
  obtain ⟨hx, hb, hml, hr, ho, hts, hfi, hK, hN, hF, hbs⟩ := id C
  obtain ⟨hP, hS, hsz, hWf⟩ := id hH
  subst hq
  subst hn
  subst hx0
  refine va_newaK (N := N) hx hb (atype := .char) (hts _ hw) rfl hd rfl (by rw [← I3_nat]; exact nI_pos (by omega)) (by rw [I3_clamp (by omega) (by omega)]; omega) (cb_ok (by decide) hLn) hcap.1 hcap.2 rfl fun H1 cA e1 z1 o1 hAr hNm => ?_
  have hcA : cA = cC := Option.some.inj (hNm.symm.trans (hK.2 2 _ rfl).2)
  have hH1 : HF D cI cZ cC base s (nwS S (2, N)) (nwI S iv) H1 locs := by
    refine hH.nw hLn hn9 ?_ z1 o1
    rw [wE_a2, ← hsz]
    show H1[H.size]? = some (vp_cell _ _)
    rw [e1, hcA]
    rfl
  have k1 := k p e s m args below meth c D cI cZ cC base fa Q C E H1 locs lsA hH1 hL
  rw [List.map_cons, show wV base fa (r_ S.1) = .ref (adr base fa S.1) from rfl, adr_in (by omega), ← hsz] at k1
  exact k1
