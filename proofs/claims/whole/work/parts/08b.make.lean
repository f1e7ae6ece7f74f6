/-! THE ROWS OF J that make cells; Math.min, System.arraycopy (printed by wip/whole/gen_rules4.py) -/
def nwS (S : Shp) (kd : Nat × Nat) : Shp := (S.1 + 1, (fun q => if q = S.1 then kd else S.2.1 q), (fun q => if q = S.1 then (fun _ => 9999) else S.2.2 q))
def nwI (S : Shp) (iv : Mm) : Mm := fun q => if q = S.1 then (fun _ => 0) else iv q
def upR (S : Shp) (q k c : Nat) : Shp := (S.1, S.2.1, fun p => if p = q then (fun j => if j = k then c else S.2.2 q j) else S.2.2 p)
theorem WFS.nw {S : Shp} {kd : Nat × Nat} (h : WFS S) (hk : kd.2 < 65536) (hn : S.1 + 1 < 1000) : WFS (nwS S kd) := by
  refine ⟨fun q hq => ?_, fun q => ?_, hn⟩
  · show (if q = S.1 then kd else S.2.1 q) = (99, 0)
    have hq : S.1 + 1 ≤ q := hq
    rw [if_neg (by omega)]
    exact h.1 q (by omega)
  · show (if q = S.1 then kd else S.2.1 q).2 < 65536
    by_cases hq : q = S.1
    · rw [if_pos hq]; exact hk
    · rw [if_neg hq]; exact h.2.1 q
theorem enc_nw {cI cZ cC : ClassId} {base : Nat} {S : Shp} {iv : Mm} {kd : Nat × Nat} : enc cI cZ cC base (nwS S kd) (nwI S iv) = enc cI cZ cC base S iv ++ [(base + S.1, wE cI cZ cC base kd (fun _ => 9999) (fun _ => 0))] := by
  unfold enc
  show (List.range (S.1 + 1)).map _ = _
  rw [List.range_succ, List.map_append]
  congr 1
  · apply List.map_congr_left
    intro k hk
    have hk := List.mem_range.mp hk
    have : k ≠ S.1 := by omega
    simp only [nwS, nwI, if_neg this]
  · simp [nwS, nwI]
theorem HF.nw {D : va_G} {cI cZ cC : ClassId} {base : Nat} {s : State} {S : Shp} {iv : Mm} {H H1 : Heap} {locs : List Loc} {kd : Nat × Nat} (hH : HF D cI cZ cC base s S iv H locs) (hk : kd.2 < 65536) (hn : S.1 + 1 < 1000)
    (hat : va_at D vwCl (base + S.1, wE cI cZ cC base kd (fun _ => 9999) (fun _ => 0)) H1) (z : H1.size = H.size + 1) (oq : ∀ q : Nat, q < H.size → H1[q]? = H[q]?) : HF D cI cZ cC base s (nwS S kd) (nwI S iv) H1 locs := by
  obtain ⟨hP, hS, hsz, hWf⟩ := hH
  refine ⟨?_, ⟨Nat.le_trans hS.1 (by omega), fun x h1 h2 => (oq x (Nat.lt_of_lt_of_le h1 hS.1)).trans (hS.2.1 x h1 h2), hS.2.2⟩, ?_, hWf.nw hk hn⟩
  · rw [enc_nw]
    refine (hP.kept (fun k x hx => oq x.1 (hP k x hx).lt)).app (fun k x hx => ?_)
    have hz : k < 1 := (List.getElem?_eq_some_iff.mp hx).1
    rw [show k = 0 by omega] at hx
    cases hx
    exact hat
  · show H1.size = base + (S.1 + 1)
    omega
def okTy (ty : FieldType) : Bool := match ty with
  | .int => true
  | .boolean => true
  | .long => true
  | .object _ => true
  | .array _ => true
  | _ => false
theorem wF_def {base : Nat} {ty : FieldType} (h : okTy ty = true) : defaultValue ty = wF base ty 9999 0 := by
  cases ty <;> first | rfl | (cases h; done)
theorem c_ok {ci : Nat} (h : ci < 7) : ∀ j, j < cN ci → okTy (cY ci j) = true := by
  rcases (show ci = 0 ∨ ci = 1 ∨ ci = 2 ∨ ci = 3 ∨ ci = 4 ∨ ci = 5 ∨ ci = 6 by omega) with rfl | rfl | rfl | rfl | rfl | rfl | rfl <;> decide +kernel
theorem J.new {l : Launch} {own : String} {cc : ByteArray} {nL : Nat} {rt : Option FieldType} {d kc ks : Nat} {fi : Bool} {F : Nat × (Int → Int)} {Post : Option VT → Shp → Mm → Prop} {a b pc : Nat} {ls : List (Option VT)} {st : List VT} {S : Shp} {iv : Mm} {ci n ix q : Nat} (hd : decode cc pc = .ok (.new ix, 3)) (hc : ci < 7) (hn : S.1 = n) (hn9 : n + 1 < 1000) (hw : Cond.classLink own ix (cR ci) ∈ gtb) (hw2 : Cond.instantiable (cR ci) (cN ci) ∈ gtb) (hw3 : Cond.initialized (cR ci) ∈ gtb) (hcap : a + 1 ≤ kc ∧ b + cN ci ≤ ks) (hq : pc + 3 = q) (k : J l own cc nL rt d kc ks fi F Post (a + 1) (b + cN ci) q ls (r_ n :: st) (nwS S (ci + 3, 0)) (nwI S iv)) : J l own cc nL rt d kc ks fi F Post a b pc ls st S iv := by
  intro p e s m args below meth c D cI cZ cC base fa Q C E H locs lsA hH hL
  obtain ⟨hx, hb, hml, hr, ho, hts, hfi, hK, hN, hF, hbs⟩ := id C
  obtain ⟨hP, hS, hsz, hWf⟩ := id hH
  subst hq
  subst hn
  have hKn := hK.1 ci _ (c_cl hc)
  refine W.newcK hx hb ho (hts _ hw) (hts _ hw2) (hts _ hw3) rfl hd hcap.1 hcap.2 hKn.2.1 rfl fun H1 kC hkC e1 z1 o1 => ?_
  have hH1 : HF D cI cZ cC base s (nwS S (ci + 3, 0)) (nwI S iv) H1 locs := by
    refine hH.nw (by show 0 < 65536; omega) hn9 ?_ z1 o1
    rw [wE_o, ← hsz]
    exact ⟨_, c_cl hc, (u_born (cY ci) hts (c_in hc) hKn hkC e1 (c_ty hc)).to (fun j hj => by rw [wF_def (base := base) (c_ok hc j hj)]; simp only [vp_V, List.getD_eq_getElem?_getD, List.getElem?_map, List.getElem?_range hj]; rfl)⟩
  have k1 := k p e s m args below meth c D cI cZ cC base fa Q C E H1 locs lsA hH1 hL
  rw [List.map_cons, show wV base fa (r_ S.1) = .ref (adr base fa S.1) from rfl, adr_in (by omega), ← hsz] at k1
  exact k1
theorem J.newI {l : Launch} {own : String} {cc : ByteArray} {nL : Nat} {rt : Option FieldType} {d kc ks : Nat} {fi : Bool} {F : Nat × (Int → Int)} {Post : Option VT → Shp → Mm → Prop} {a b pc : Nat} {ls : List (Option VT)} {st : List VT} {S : Shp} {iv : Mm} {x : Int} {N n q : Nat} (hd : decode cc pc = .ok (.newarray .int, 2)) (hx0 : x = (N : Int)) (hN : N < 65536) (hn : S.1 = n) (hn9 : n + 1 < 1000) (hw : Cond.arrayClass .int ∈ gtb) (hcap : a + 1 ≤ kc ∧ b + N ≤ ks) (hq : pc + 2 = q) (k : J l own cc nL rt d kc ks fi F Post (a + 1) (b + N) q ls (r_ n :: st) (nwS S (0, N)) (nwI S iv)) : J l own cc nL rt d kc ks fi F Post a b pc ls (i_ x :: st) S iv := by
  intro p e s m args below meth c D cI cZ cC base fa Q C E H locs lsA hH hL
  obtain ⟨hx, hb, hml, hr, ho, hts, hfi, hK, hN, hF, hbs⟩ := id C
  obtain ⟨hP, hS, hsz, hWf⟩ := id hH
  subst hq
  subst hn
  subst hx0
  refine va_newaK (N := N) hx hb (atype := .int) (hts _ hw) rfl hd rfl (by rw [← I3_nat]; exact nI_pos (by omega)) (by rw [I3_clamp (by omega) (by omega)]; omega) (by show N * componentBytes .int ≤ 536870912; have : componentBytes .int ≤ 8 := by decide
                                                                                                                                                                                              have := Nat.mul_le_mul (Nat.le_of_lt hN) this; omega) hcap.1 hcap.2 rfl fun H1 cA e1 z1 o1 hAr hNm => ?_
  have hcA : cA = cI := Option.some.inj (hNm.symm.trans (hK.2 0 _ rfl).2)
  have hH1 : HF D cI cZ cC base s (nwS S (0, N)) (nwI S iv) H1 locs := by
    refine hH.nw hN hn9 ?_ z1 o1
    rw [wE_a0, ← hsz]
    show H1[H.size]? = some (vp_cell _ _)
    rw [e1, hcA]
    rfl
  have k1 := k p e s m args below meth c D cI cZ cC base fa Q C E H1 locs lsA hH1 hL
  rw [List.map_cons, show wV base fa (r_ S.1) = .ref (adr base fa S.1) from rfl, adr_in (by omega), ← hsz] at k1
  exact k1
theorem J.newZ {l : Launch} {own : String} {cc : ByteArray} {nL : Nat} {rt : Option FieldType} {d kc ks : Nat} {fi : Bool} {F : Nat × (Int → Int)} {Post : Option VT → Shp → Mm → Prop} {a b pc : Nat} {ls : List (Option VT)} {st : List VT} {S : Shp} {iv : Mm} {x : Int} {N n q : Nat} (hd : decode cc pc = .ok (.newarray .boolean, 2)) (hx0 : x = (N : Int)) (hN : N < 65536) (hn : S.1 = n) (hn9 : n + 1 < 1000) (hw : Cond.arrayClass .boolean ∈ gtb) (hcap : a + 1 ≤ kc ∧ b + N ≤ ks) (hq : pc + 2 = q) (k : J l own cc nL rt d kc ks fi F Post (a + 1) (b + N) q ls (r_ n :: st) (nwS S (1, N)) (nwI S iv)) : J l own cc nL rt d kc ks fi F Post a b pc ls (i_ x :: st) S iv := by
  intro p e s m args below meth c D cI cZ cC base fa Q C E H locs lsA hH hL
  obtain ⟨hx, hb, hml, hr, ho, hts, hfi, hK, hN, hF, hbs⟩ := id C
  obtain ⟨hP, hS, hsz, hWf⟩ := id hH
  subst hq
  subst hn
  subst hx0
  refine va_newaK (N := N) hx hb (atype := .boolean) (hts _ hw) rfl hd rfl (by rw [← I3_nat]; exact nI_pos (by omega)) (by rw [I3_clamp (by omega) (by omega)]; omega) (by show N * componentBytes .boolean ≤ 536870912; have : componentBytes .boolean ≤ 8 := by decide
                                                                                                                                                                                              have := Nat.mul_le_mul (Nat.le_of_lt hN) this; omega) hcap.1 hcap.2 rfl fun H1 cA e1 z1 o1 hAr hNm => ?_
  have hcA : cA = cZ := Option.some.inj (hNm.symm.trans (hK.2 1 _ rfl).2)
  have hH1 : HF D cI cZ cC base s (nwS S (1, N)) (nwI S iv) H1 locs := by
    refine hH.nw hN hn9 ?_ z1 o1
    rw [wE_a1, ← hsz]
    show H1[H.size]? = some (vp_cell _ _)
    rw [e1, hcA]
    rfl
  have k1 := k p e s m args below meth c D cI cZ cC base fa Q C E H1 locs lsA hH1 hL
  rw [List.map_cons, show wV base fa (r_ S.1) = .ref (adr base fa S.1) from rfl, adr_in (by omega), ← hsz] at k1
  exact k1
theorem J.newC {l : Launch} {own : String} {cc : ByteArray} {nL : Nat} {rt : Option FieldType} {d kc ks : Nat} {fi : Bool} {F : Nat × (Int → Int)} {Post : Option VT → Shp → Mm → Prop} {a b pc : Nat} {ls : List (Option VT)} {st : List VT} {S : Shp} {iv : Mm} {x : Int} {N n q : Nat} (hd : decode cc pc = .ok (.newarray .char, 2)) (hx0 : x = (N : Int)) (hN : N < 65536) (hn : S.1 = n) (hn9 : n + 1 < 1000) (hw : Cond.arrayClass .char ∈ gtb) (hcap : a + 1 ≤ kc ∧ b + N ≤ ks) (hq : pc + 2 = q) (k : J l own cc nL rt d kc ks fi F Post (a + 1) (b + N) q ls (r_ n :: st) (nwS S (2, N)) (nwI S iv)) : J l own cc nL rt d kc ks fi F Post a b pc ls (i_ x :: st) S iv := by
  intro p e s m args below meth c D cI cZ cC base fa Q C E H locs lsA hH hL
  obtain ⟨hx, hb, hml, hr, ho, hts, hfi, hK, hN, hF, hbs⟩ := id C
  obtain ⟨hP, hS, hsz, hWf⟩ := id hH
  subst hq
  subst hn
  subst hx0
  refine va_newaK (N := N) hx hb (atype := .char) (hts _ hw) rfl hd rfl (by rw [← I3_nat]; exact nI_pos (by omega)) (by rw [I3_clamp (by omega) (by omega)]; omega) (by show N * componentBytes .char ≤ 536870912; have : componentBytes .char ≤ 8 := by decide
                                                                                                                                                                                              have := Nat.mul_le_mul (Nat.le_of_lt hN) this; omega) hcap.1 hcap.2 rfl fun H1 cA e1 z1 o1 hAr hNm => ?_
  have hcA : cA = cC := Option.some.inj (hNm.symm.trans (hK.2 2 _ rfl).2)
  have hH1 : HF D cI cZ cC base s (nwS S (2, N)) (nwI S iv) H1 locs := by
    refine hH.nw hN hn9 ?_ z1 o1
    rw [wE_a2, ← hsz]
    show H1[H.size]? = some (vp_cell _ _)
    rw [e1, hcA]
    rfl
  have k1 := k p e s m args below meth c D cI cZ cC base fa Q C E H1 locs lsA hH1 hL
  rw [List.map_cons, show wV base fa (r_ S.1) = .ref (adr base fa S.1) from rfl, adr_in (by omega), ← hsz] at k1
  exact k1
theorem J.putF {l : Launch} {own : String} {cc : ByteArray} {nL : Nat} {rt : Option FieldType} {d kc ks : Nat} {fi : Bool} {F : Nat × (Int → Int)} {Post : Option VT → Shp → Mm → Prop} {a b pc : Nat} {ls : List (Option VT)} {st : List VT} {S : Shp} {iv : Mm} {c0 c1 ci k0 ix q : Nat} (hd : decode cc pc = .ok (.putfield ix, 3)) (hw : Cond.fieldLink own ix (cT ci k0).1 (cT ci k0).2.1 (cT ci k0).2.2.1 ∈ gtb) (hk : S.2.1 c0 = (ci + 3, 0)) (hc : ci < 7) (hk0 : k0 < cN ci) (hfi1 : fi = true) (hty : (match cY ci k0 with | .object _ => true | .array _ => true | _ => false) = true) (hfin : (cT ci k0).2.2.2 = true) (hdecl : (cT ci k0).1 = own) (hc1 : c1 < 1000) (hq : pc + 3 = q) (k : J l own cc nL rt d kc ks fi F Post a b q ls st (upR S c0 k0 c1) iv) : J l own cc nL rt d kc ks fi F Post a b pc ls (r_ c1 :: r_ c0 :: st) S iv := by
  intro p e s m args below meth c D cI cZ cC base fa Q C E H locs lsA hH hL
  obtain ⟨hx, hb, hml, hr, ho, hts, hfi, hK, hN, hF, hbs⟩ := id C
  obtain ⟨hP, hS, hsz, hWf⟩ := id hH
  subst hq
  obtain ⟨hlt, he⟩ := enc_o (cI := cI) (cZ := cZ) (cC := cC) (base := base) (iv := iv) hWf hk hc
  have ea : adr base fa c0 = base + c0 := adr_in (Nat.lt_trans hlt hWf.2.2)
  have eb : adr base fa c1 = base + c1 := adr_in hc1
  rw [List.map_cons, List.map_cons, show wV base fa (r_ c0) = .ref (adr base fa c0) from rfl, show wV base fa (r_ c1) = .ref (adr base fa c1) from rfl, ea, eb]
  have hin := c_in hc
  have hap := va_apart (own := own) hts hin (cY ci) (c_ty hc) (c_nm hc) hK (c_cl hc)
  obtain ⟨r, h1, cell, q1, q2, q3, q4⟩ := hP c0 _ he
  have hr9 : r = (cR ci, cT ci, cN ci) := Option.some.inj (h1.symm.trans (c_cl hc))
  subst hr9
  obtain ⟨hSl, hfc, kC, hkC, hkind⟩ := hK.1 ci _ (c_cl hc)
  obtain ⟨cf, kf, fi9, f, hi, hsl⟩ := hSl k0 hk0
  have hlay := hts _ (hin _ (u_in_lay hk0))
  unfold u_lay at hlay
  rw [if_pos hfin] at hlay
  have hst := (u_facts hfc hkC (u_lays hts hin hk0) hi).1
  have hcf : m.cls = cf := by
    obtain ⟨_, _, c', _, _, _, -, -, hf', -, -, -, hown2, -⟩ := Cond.laysFinal_spec hlay
    have e1 : c' = cf := by have := hi.symm.trans hf'; simp at this; exact this.1.symm
    rw [hdecl] at hown2
    rw [← e1]; exact Option.some.inj (ho.symm.trans hown2)
  have hv1 : narrow (cY ci k0) (.ref (base + c1)) = .ref (base + c1) := by
    cases hy : cY ci k0 <;> first | rfl | (rw [hy] at hty; cases hty; done)
  have hv2 : fits (cY ci k0) (.ref (base + c1)) = true := by
    cases hy : cY ci k0 <;> first | rfl | (rw [hy] at hty; cases hty; done)
  have h6 := u_fits (v := .ref (base + c1)) hfc hkC hkind (Or.inr hlay) hi (c_ty hc k0 hk0) hv1 hv2
  refine W.putFinK hx hb ho (hts _ hw) hi hst hcf (hfi hfi1) (by rw [q2]; exact h6) q1 q3 (by rw [hsl]; exact k2_hasslot (q4 k0 hk0)) rfl rfl hd fun H1 e1 e2 e3 => ?_
  rw [hsl] at e1 ⊢
  have e4 : wF base (cY ci k0) c1 (iv c0 k0) = .ref (base + c1) := by
    cases hy : cY ci k0 <;> first | (rw [hy] at hty; cases hty; done) | (simp only [wF]; rw [if_pos hc1])
  have e5 : ((List.range (cN ci)).map (fun j => wF base (cY ci j) (S.2.2 c0 j) (iv c0 j))).set k0 (.ref (base + c1)) = (List.range (cN ci)).map (fun j : Nat => wF base (cY ci j) (if j = k0 then c1 else S.2.2 c0 j) (iv c0 j)) := by
    apply List.ext_getElem?
    intro j
    by_cases hj : j < cN ci
    · rw [List.getElem?_map, List.getElem?_range hj]
      by_cases hjk : j = k0
      · subst hjk
        rw [List.getElem?_set_self (by simpa using hj)]
        simp [e4]
      · rw [List.getElem?_set_ne (fun h => hjk h.symm), List.getElem?_map, List.getElem?_range hj]
        simp [hjk]
    · rw [List.getElem?_eq_none (by simp; omega), List.getElem?_eq_none (by simp; omega)]
  have e6 : (enc cI cZ cC base S iv).set c0 (base + c0, .inr (ci, (List.range (cN ci)).map (fun j : Nat => wF base (cY ci j) (if j = k0 then c1 else S.2.2 c0 j) (iv c0 j)))) = enc cI cZ cC base (upR S c0 k0 c1) iv := by
    apply List.ext_getElem?
    intro j
    by_cases hj : j < S.1
    · rw [enc_at (S := upR S c0 k0 c1) hj]
      by_cases hjc : j = c0
      · subst hjc
        rw [List.getElem?_set_self (by simpa [enc] using hj)]
        simp only [upR, hk, if_pos, wE_o]
      · rw [List.getElem?_set_ne (fun h => hjc h.symm), enc_at hj]
        simp only [upR, if_neg hjc]
    · rw [List.getElem?_eq_none (by simp [enc]; omega), List.getElem?_eq_none (by simp [enc, upR]; omega)]
  refine k p e s m args below meth c D cI cZ cC base fa Q C E H1 _ lsA ⟨?_, hS.put e2 e3 (Nat.le_add_right _ _), e2.trans hsz, hWf⟩ hL
  rw [← e6, ← e5]
  exact hP.set (A := fun q => base ≤ q) enc_D he ⟨_, c_cl hc, t_OB.to (V := updV (vp_V _) k0 _) ⟨_, e1, q2, q3, t_set q4 hap hk0 _⟩ (fun j _ => vp_updV_set (by simp [hk0]) _ j)⟩ e3
theorem J.objInit {l : Launch} {own : String} {cc : ByteArray} {nL : Nat} {rt : Option FieldType} {d kc ks : Nat} {fi : Bool} {F : Nat × (Int → Int)} {Post : Option VT → Shp → Mm → Prop} {a b pc : Nat} {ls : List (Option VT)} {st : List VT} {S : Shp} {iv : Mm} {c0 ix q : Nat} (hd : decode cc pc = .ok (.invokespecial ix, 3)) (hw : Cond.methodLink own ix objectInit ∈ gtb) (hst : st = []) (hd1 : 1 ≤ d) (hq : pc + 3 = q) (k : J l own cc nL rt d kc ks fi F Post a b q ls [] S iv) : J l own cc nL rt d kc ks fi F Post a b pc ls (r_ c0 :: st) S iv := by
  intro p e s m args below meth c D cI cZ cC base fa Q C E H locs lsA hH hL
  subst hst
  subst hq
  obtain ⟨hx, hb, hml, hr, ho, hts, hfi, hK, hN, hF, hbs⟩ := id C
  have k1 := k p e s m args below meth c D cI cZ cC base fa Q C E H locs lsA hH hL
  exact W.objInit hx hb ho (hts _ hw) (hts _ kI_oi) (hts _ kC_oi) rfl (by rw [hml]; exact hL.2.1) rfl hd hd1 (by show 2 * 0 + 0 + 12 ≤ 38 * d; omega) k1
theorem J.mmin {l : Launch} {own : String} {cc : ByteArray} {nL : Nat} {rt : Option FieldType} {d kc ks : Nat} {fi : Bool} {F : Nat × (Int → Int)} {Post : Option VT → Shp → Mm → Prop} {a b pc : Nat} {ls : List (Option VT)} {st : List VT} {S : Shp} {iv : Mm} {x y : Int} {ix q : Nat} (hd : decode cc pc = .ok (.invokestatic ix, 3)) (hw : Cond.methodLink own ix yJ9_min_7cf53 ∈ gtb) (k : J l own cc nL rt d kc ks fi F Post a b q ls (i_ (if y < x then y else x) :: st) S iv) (hq : pc + 3 = q) (hd1 : 1 ≤ d := by decide) (hsum : (st.map w2).sum ≤ 8 := by decide) (hcap : a ≤ kc ∧ b ≤ ks := by decide) (hv : (-2147483648 ≤ x ∧ x < 2147483648) ∧ (-2147483648 ≤ y ∧ y < 2147483648) := by omega) : J l own cc nL rt d kc ks fi F Post a b pc ls (i_ y :: i_ x :: st) S iv := by
  intro p e s m args below meth c D cI cZ cC base fa Q C E H locs lsA hH hL
  subst hq
  obtain ⟨hx, hb, hml, hr, ho, hts, hfi, hK, hN, hF, hbs⟩ := id C
  have k1 := k p e s m args below meth c D cI cZ cC base fa Q C E H locs lsA hH hL
  refine va_mmin hx hb (by rw [hml]; exact hL.2.1.symm) ho (hts _ hw) (hts _ kS_J9_min_7cf53) (hts _ kD_J9) (hts _ kC_J9_min_7cf53) hd1 (by rw [w2_sum]; show (st.map w2).sum + 13 ≤ 38 * d; omega) hcap.1 hcap.2 hd ?_
  have e1 : Value.int (if Int32.ofInt y < Int32.ofInt x then Int32.ofInt y else Int32.ofInt x) = wV base fa (i_ (if y < x then y else x)) := by
    by_cases h : y < x
    · rw [if_pos h, if_pos ((I3_lt hv.2 hv.1).mpr h)]; rfl
    · rw [if_neg h, if_neg (fun z => h ((I3_lt hv.2 hv.1).mp z))]; rfl
  rw [e1]
  exact k1
