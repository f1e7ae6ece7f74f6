theorem J.new {l : Launch} {own : String} {cc : ByteArray} {nL : Nat} {rt : Option FieldType} {d kc ks : Nat} {fi : Bool} {F : Nat × (Int → Int)} {Post : Option VT → Shp → Mm → Prop} {a b pc : Nat} {ls : List (Option VT)} {st : List VT} {S : Shp} {iv : Mm} {ci n ix q : Nat} (hd : decode cc pc = .ok (.new ix, 3)) (hc : ci < 7) (hn : S.1 = n) (hn9 : n + 1 < 1000) (hw : Cond.classLink own ix (cR ci) ∈ gtb) (hw2 : Cond.instantiable (cR ci) (cN ci) ∈ gtb) (hw3 : Cond.initialized (cR ci) ∈ gtb) (hcap : a + 1 ≤ kc ∧ b + cN ci ≤ ks) (hq : pc + 3 = q) (k : J l own cc nL rt d kc ks fi F Post (a + 1) (b + cN ci) q ls (r_ n :: st) (nwS S (ci + 3, 0)) (nwI S iv)) : J l own cc nL rt d kc ks fi F Post a b pc ls st S iv := by
  intro p e s m args below meth c D cI cZ cC base fa Q C E H locs lsA hH hL
  obtain ⟨hx, hb, hml, hr, ho, hts, hfi, hK, hN, hF, hbs⟩ := id C
  obtain ⟨hP, hS, hsz, hWf⟩ := id hH
  subst hq
  subst hn
  have hKn := hK.1 ci _ (c_cl hc)
  refine W.newcK hx hb ho (hts _ hw) (hts _ hw2) (hts _ hw3) rfl hd hcap.1 hcap.2 hKn.2.1 rfl fun H1 kC hkC e1 z1 o1 => ?_
  have hH1 : HF D cI cZ cC base s (nwS S (ci + 3, 0)) (nwI S iv) H1 locs := by
    refine hH.nw (by show 0 < 65536; omega) hn9 ?_ z1 o1
    rw [wE_o, ← hsz]
    exact ⟨_, c_cl hc, (u_born (cY ci) hts (c_in hc) hKn hkC e1 (c_ty hc)).to (fun j hj => by rw [wF_def (base := base) (c_ok hc j hj)]; simp only [vp_V, List.getD_eq_getElem?_getD, List.getElem?_map, List.getElem?_range hj]; rfl)⟩
  have k1 := k p e s m args below meth c D cI cZ cC base fa Q C E H1 locs lsA hH1 hL
  rw [List.map_cons, show wV base fa (r_ S.1) = .ref (adr base fa S.1) from rfl, adr_in (by omega), ← hsz] at k1
  exact k1
