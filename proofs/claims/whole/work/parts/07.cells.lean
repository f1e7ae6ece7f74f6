/-! THE ROWS OF J that read and write cells, make them, and call (printed by wip/whole/gen_rules2.py) -/
theorem wE_o {cI cZ cC : ClassId} {base ci : Nat} {rv : Nat → Nat} {f : Int → Int} : wE cI cZ cC base (ci + 3, 0) rv f = .inr (ci, (List.range (cN ci)).map (fun j => wF base (cY ci j) (rv j) (f j))) := rfl
theorem enc_o {cI cZ cC : ClassId} {base ci q : Nat} {S : Shp} {iv : Mm} (hW : WFS S) (hk : S.2.1 q = (ci + 3, 0)) (hc : ci < 7) : q < S.1 ∧ (enc cI cZ cC base S iv)[q]? = some (base + q, .inr (ci, (List.range (cN ci)).map (fun j => wF base (cY ci j) (S.2.2 q j) (iv q j)))) := by
  have h := hW.lt hk (by omega)
  exact ⟨h, by rw [enc_at h, hk]; rfl⟩
theorem adr_in {base : Nat} {fa : Nat → Nat} {q : Nat} (h : q < 1000) : adr base fa q = base + q := if_pos h
theorem c_fld {ci k : Nat} {base : Nat} {rv : Nat → Nat} {f : Int → Int} (hk : k < cN ci) : ((List.range (cN ci)).map (fun j => wF base (cY ci j) (rv j) (f j)))[k]? = some (wF base (cY ci k) (rv k) (f k)) := by
  rw [List.getElem?_map, List.getElem?_range hk]
  rfl
theorem J.getI {l : Launch} {own : String} {cc : ByteArray} {nL : Nat} {rt : Option FieldType} {d kc ks : Nat} {fi : Bool} {F : Nat × (Int → Int)} {Post : Option VT → Shp → Mm → Prop} {a b pc : Nat} {ls : List (Option VT)} {st : List VT} {S : Shp} {iv : Mm} {c0 ci k0 ix q : Nat} (hd : decode cc pc = .ok (.getfield ix, 3)) (hw : Cond.fieldLink own ix (cT ci k0).1 (cT ci k0).2.1 (cT ci k0).2.2.1 ∈ gtb) (hk : S.2.1 c0 = (ci + 3, 0)) (hc : ci < 7) (hk0 : k0 < cN ci) {kz : Int} (hz : (k0 : Int) = kz) (hty : (cY ci k0 = .int ∨ cY ci k0 = .boolean)) (k : J l own cc nL rt d kc ks fi F Post a b q ls ((i_ (iv c0 kz)) :: st) S iv)(hq : pc + 3 = q) : J l own cc nL rt d kc ks fi F Post a b pc ls (r_ c0 :: st) S iv := by
  intro p e s m args below meth c D cI cZ cC base fa Q C E H locs lsA hH hL
  obtain ⟨hx, hb, hml, hr, ho, hts, hfi, hK, hN, hF, hbs⟩ := id C
  obtain ⟨hP, hS, hsz, hWf⟩ := id hH
  subst hq
  subst hz
  obtain ⟨hlt, he⟩ := enc_o (cI := cI) (cZ := cZ) (cC := cC) (base := base) (iv := iv) hWf hk hc
  have ea : adr base fa c0 = base + c0 := adr_in (Nat.lt_trans hlt hWf.2.2)
  have k1 := k p e s m args below meth c D cI cZ cC base fa Q C E H locs lsA hH hL
  rw [List.map_cons, show wV base fa (r_ c0) = .ref (adr base fa c0) from rfl, ea]
  refine va_get (ci := ci) (C := cR ci) (T := cT ci) (N := cN ci) hx hb hts (c_in hc) ho hK hP c0 he (c_cl hc) k0 hk0 (hts _ hw) (fun _ h => h) (v := .int (Int32.ofInt (iv c0 k0))) ?_ hd k1
  rw [c_fld hk0]
  rcases hty with h | h <;> rw [h] <;> rfl
theorem J.getL {l : Launch} {own : String} {cc : ByteArray} {nL : Nat} {rt : Option FieldType} {d kc ks : Nat} {fi : Bool} {F : Nat × (Int → Int)} {Post : Option VT → Shp → Mm → Prop} {a b pc : Nat} {ls : List (Option VT)} {st : List VT} {S : Shp} {iv : Mm} {c0 ci k0 ix q : Nat} (hd : decode cc pc = .ok (.getfield ix, 3)) (hw : Cond.fieldLink own ix (cT ci k0).1 (cT ci k0).2.1 (cT ci k0).2.2.1 ∈ gtb) (hk : S.2.1 c0 = (ci + 3, 0)) (hc : ci < 7) (hk0 : k0 < cN ci) {kz : Int} (hz : (k0 : Int) = kz) (hty : cY ci k0 = .long) (k : J l own cc nL rt d kc ks fi F Post a b q ls ((l_ (iv c0 kz)) :: st) S iv)(hq : pc + 3 = q) : J l own cc nL rt d kc ks fi F Post a b pc ls (r_ c0 :: st) S iv := by
  intro p e s m args below meth c D cI cZ cC base fa Q C E H locs lsA hH hL
  obtain ⟨hx, hb, hml, hr, ho, hts, hfi, hK, hN, hF, hbs⟩ := id C
  obtain ⟨hP, hS, hsz, hWf⟩ := id hH
  subst hq
  subst hz
  obtain ⟨hlt, he⟩ := enc_o (cI := cI) (cZ := cZ) (cC := cC) (base := base) (iv := iv) hWf hk hc
  have ea : adr base fa c0 = base + c0 := adr_in (Nat.lt_trans hlt hWf.2.2)
  have k1 := k p e s m args below meth c D cI cZ cC base fa Q C E H locs lsA hH hL
  rw [List.map_cons, show wV base fa (r_ c0) = .ref (adr base fa c0) from rfl, ea]
  refine va_get (ci := ci) (C := cR ci) (T := cT ci) (N := cN ci) hx hb hts (c_in hc) ho hK hP c0 he (c_cl hc) k0 hk0 (hts _ hw) (fun _ h => h) (v := .long (Int64.ofInt (iv c0 k0))) ?_ hd k1
  rw [c_fld hk0]
  rw [hty]; rfl
theorem J.getR {l : Launch} {own : String} {cc : ByteArray} {nL : Nat} {rt : Option FieldType} {d kc ks : Nat} {fi : Bool} {F : Nat × (Int → Int)} {Post : Option VT → Shp → Mm → Prop} {a b pc : Nat} {ls : List (Option VT)} {st : List VT} {S : Shp} {iv : Mm} {c0 c1 ci k0 ix q : Nat} (hd : decode cc pc = .ok (.getfield ix, 3)) (hw : Cond.fieldLink own ix (cT ci k0).1 (cT ci k0).2.1 (cT ci k0).2.2.1 ∈ gtb) (hk : S.2.1 c0 = (ci + 3, 0)) (hc : ci < 7) (hk0 : k0 < cN ci) (hc1 : S.2.2 c0 k0 = c1) (h1 : c1 < 1000) (hty : (match cY ci k0 with | .int => false | .boolean => false | .long => false | _ => true) = true) (k : J l own cc nL rt d kc ks fi F Post a b q ls (r_ c1 :: st) S iv)(hq : pc + 3 = q) : J l own cc nL rt d kc ks fi F Post a b pc ls (r_ c0 :: st) S iv := by
  intro p e s m args below meth c D cI cZ cC base fa Q C E H locs lsA hH hL
  obtain ⟨hx, hb, hml, hr, ho, hts, hfi, hK, hN, hF, hbs⟩ := id C
  obtain ⟨hP, hS, hsz, hWf⟩ := id hH
  subst hq
  subst hc1
  obtain ⟨hlt, he⟩ := enc_o (cI := cI) (cZ := cZ) (cC := cC) (base := base) (iv := iv) hWf hk hc
  have ea : adr base fa c0 = base + c0 := adr_in (Nat.lt_trans hlt hWf.2.2)
  have eb : wV base fa (r_ (S.2.2 c0 k0)) = .ref (base + S.2.2 c0 k0) := by rw [show wV base fa (r_ (S.2.2 c0 k0)) = .ref (adr base fa (S.2.2 c0 k0)) from rfl, adr_in h1]
  have k1 := k p e s m args below meth c D cI cZ cC base fa Q C E H locs lsA hH hL
  rw [List.map_cons, eb] at k1
  rw [List.map_cons, show wV base fa (r_ c0) = .ref (adr base fa c0) from rfl, ea]
  refine va_get (ci := ci) (C := cR ci) (T := cT ci) (N := cN ci) hx hb hts (c_in hc) ho hK hP c0 he (c_cl hc) k0 hk0 (hts _ hw) (fun _ h => h) ?_ hd k1
  rw [c_fld hk0]
  unfold wF
  split <;> first | (rename_i h; rw [h] at hty; cases hty; done) | (rw [if_pos h1])
theorem HF.up {D : va_G} {cI cZ cC : ClassId} {base : Nat} {s : State} {S : Shp} {iv : Mm} {H H1 : Heap} {locs : List Loc} {c0 sl : Nat} {a x : Int} (hH : HF D cI cZ cC base s S iv H locs) (hlt : c0 < S.1)
    (hat : va_at D vwCl (base + c0, wE cI cZ cC base (S.2.1 c0) (S.2.2 c0) (upr (iv c0) a x)) H1) (z : H1.size = H.size) (oq : ∀ q : Nat, q ≠ base + c0 → H1[q]? = H[q]?) : HF D cI cZ cC base s S (up iv c0 a x) H1 (locs ++ [⟨base + c0, sl⟩]) := by
  obtain ⟨hP, hS, hsz, hWf⟩ := hH
  refine ⟨?_, hS.put z oq (Nat.le_add_right _ _), z.trans hsz, hWf⟩
  have h := hP.set (A := fun q => base ≤ q) enc_D (enc_at hlt) hat oq
  rw [enc_set hlt] at h
  exact h
theorem arr_st (cA : ClassId) (n k : Nat) (f : Nat → Int32) (x : Int32) : (vp_cell cA (n, .inl f)).setSlot k (.int x) = vp_cell cA (n, .inl (upd f k x)) := by
  rw [vp_cell_i, vp_cell_i, arrV_store]
  congr 1
  funext q
  by_cases hq : q = k
  · subst hq
    simp [updV, upd]
  · simp [updV, upd, hq]
theorem wE_a0 {cI cZ cC : ClassId} {base n : Nat} {rv : Nat → Nat} {f : Int → Int} : wE cI cZ cC base (0, n) rv f = .inl (cI, n, .inl (fun j => Int32.ofInt (f j))) := rfl
theorem wE_a1 {cI cZ cC : ClassId} {base n : Nat} {rv : Nat → Nat} {f : Int → Int} : wE cI cZ cC base (1, n) rv f = .inl (cZ, n, .inl (fun j => Int32.ofInt (f j))) := rfl
theorem wE_a2 {cI cZ cC : ClassId} {base n : Nat} {rv : Nat → Nat} {f : Int → Int} : wE cI cZ cC base (2, n) rv f = .inl (cC, n, .inl (fun j => Int32.ofInt (f j))) := rfl
theorem nar01 {x : Int} (h : x = 0 ∨ x = 1) : narrow .boolean (.int (Int32.ofInt x)) = .int (Int32.ofInt x) := by rcases h with h | h <;> subst h <;> rfl
theorem nar_ch {x : Int} (h : 0 ≤ x ∧ x < 65536) : narrow .char (.int (Int32.ofInt x)) = .int (Int32.ofInt x) := by
  obtain ⟨n, rfl⟩ := Int.eq_ofNat_of_zero_le h.1
  exact (pk_charN (q := n) (by omega)).1
theorem J.putI {l : Launch} {own : String} {cc : ByteArray} {nL : Nat} {rt : Option FieldType} {d kc ks : Nat} {fi : Bool} {F : Nat × (Int → Int)} {Post : Option VT → Shp → Mm → Prop} {a b pc : Nat} {ls : List (Option VT)} {st : List VT} {S : Shp} {iv : Mm} {x : Int} {c0 ci k0 ix q : Nat} (hd : decode cc pc = .ok (.putfield ix, 3)) (hw : Cond.fieldLink own ix (cT ci k0).1 (cT ci k0).2.1 (cT ci k0).2.2.1 ∈ gtb) (hk : S.2.1 c0 = (ci + 3, 0)) (hc : ci < 7) (hk0 : k0 < cN ci) {kz : Int} (hz : (k0 : Int) = kz) (hty : cY ci k0 = .int) (hfin : (cT ci k0).2.2.2 = false)  (k : J l own cc nL rt d kc ks fi F Post a b q ls st S (up iv c0 kz x))(hq : pc + 3 = q) : J l own cc nL rt d kc ks fi F Post a b pc ls ((i_ x) :: r_ c0 :: st) S iv := by
  intro p e s m args below meth c D cI cZ cC base fa Q C E H locs lsA hH hL
  obtain ⟨hx, hb, hml, hr, ho, hts, hfi, hK, hN, hF, hbs⟩ := id C
  obtain ⟨hP, hS, hsz, hWf⟩ := id hH
  subst hq
  subst hz
  obtain ⟨hlt, he⟩ := enc_o (cI := cI) (cZ := cZ) (cC := cC) (base := base) (iv := iv) hWf hk hc
  have ea : adr base fa c0 = base + c0 := adr_in (Nat.lt_trans hlt hWf.2.2)
  rw [List.map_cons, List.map_cons, show wV base fa (r_ c0) = .ref (adr base fa c0) from rfl, ea]
  have hin := c_in hc
  have hap := va_apart (own := own) hts hin (cY ci) (c_ty hc) (c_nm hc) hK (c_cl hc)
  obtain ⟨r, h1, cell, q1, q2, q3, q4⟩ := hP c0 _ he
  have hr9 : r = (cR ci, cT ci, cN ci) := Option.some.inj (h1.symm.trans (c_cl hc))
  subst hr9
  obtain ⟨hSl, hfc, kC, hkC, hkind⟩ := hK.1 ci _ (c_cl hc)
  obtain ⟨cf, kf, fi9, f, hi, hsl⟩ := hSl k0 hk0
  have hlay := hts _ (hin _ (u_in_lay hk0))
  unfold u_lay at hlay
  rw [if_neg (by rw [hfin]; decide)] at hlay
  have hst := (u_facts hfc hkC (u_lays hts hin hk0) hi).1
  have h6 := u_store (v := .int (Int32.ofInt x)) hfc hkC hkind hlay hi (c_ty hc k0 hk0) (by rw [hty]; rfl) (by rw [hty]; rfl)
  refine W.putK hx hb (f := f) ⟨ho, hts _ hw, ⟨_, _, _, hi⟩, hst⟩ (by rw [q2]; exact h6) q1 q3 (by rw [hsl]; exact k2_hasslot (q4 k0 hk0)) rfl rfl hd fun H1 e1 e2 e3 => ?_
  rw [hsl] at e1 ⊢
  refine k p e s m args below meth c D cI cZ cC base fa Q C E H1 _ lsA (HF.up hH hlt ?_ e2 e3) hL
  rw [hk, wE_o, ← wF_upr hk0]
  have e4 : wF base (cY ci k0) (S.2.2 c0 k0) x = .int (Int32.ofInt x) := by rw [hty]; rfl
  rw [e4]
  exact ⟨_, c_cl hc, t_OB.to (V := updV (vp_V _) k0 _) ⟨_, e1, q2, q3, t_set q4 hap hk0 _⟩ (fun j _ => vp_updV_set (by simp [hk0]) _ j)⟩
theorem J.putZ {l : Launch} {own : String} {cc : ByteArray} {nL : Nat} {rt : Option FieldType} {d kc ks : Nat} {fi : Bool} {F : Nat × (Int → Int)} {Post : Option VT → Shp → Mm → Prop} {a b pc : Nat} {ls : List (Option VT)} {st : List VT} {S : Shp} {iv : Mm} {x : Int} {c0 ci k0 ix q : Nat} (hd : decode cc pc = .ok (.putfield ix, 3)) (hw : Cond.fieldLink own ix (cT ci k0).1 (cT ci k0).2.1 (cT ci k0).2.2.1 ∈ gtb) (hk : S.2.1 c0 = (ci + 3, 0)) (hc : ci < 7) (hk0 : k0 < cN ci) {kz : Int} (hz : (k0 : Int) = kz) (hty : cY ci k0 = .boolean) (hfin : (cT ci k0).2.2.2 = false) (hx01 : x = 0 ∨ x = 1) (k : J l own cc nL rt d kc ks fi F Post a b q ls st S (up iv c0 kz x))(hq : pc + 3 = q) : J l own cc nL rt d kc ks fi F Post a b pc ls ((i_ x) :: r_ c0 :: st) S iv := by
  intro p e s m args below meth c D cI cZ cC base fa Q C E H locs lsA hH hL
  obtain ⟨hx, hb, hml, hr, ho, hts, hfi, hK, hN, hF, hbs⟩ := id C
  obtain ⟨hP, hS, hsz, hWf⟩ := id hH
  subst hq
  subst hz
  obtain ⟨hlt, he⟩ := enc_o (cI := cI) (cZ := cZ) (cC := cC) (base := base) (iv := iv) hWf hk hc
  have ea : adr base fa c0 = base + c0 := adr_in (Nat.lt_trans hlt hWf.2.2)
  rw [List.map_cons, List.map_cons, show wV base fa (r_ c0) = .ref (adr base fa c0) from rfl, ea]
  have hin := c_in hc
  have hap := va_apart (own := own) hts hin (cY ci) (c_ty hc) (c_nm hc) hK (c_cl hc)
  obtain ⟨r, h1, cell, q1, q2, q3, q4⟩ := hP c0 _ he
  have hr9 : r = (cR ci, cT ci, cN ci) := Option.some.inj (h1.symm.trans (c_cl hc))
  subst hr9
  obtain ⟨hSl, hfc, kC, hkC, hkind⟩ := hK.1 ci _ (c_cl hc)
  obtain ⟨cf, kf, fi9, f, hi, hsl⟩ := hSl k0 hk0
  have hlay := hts _ (hin _ (u_in_lay hk0))
  unfold u_lay at hlay
  rw [if_neg (by rw [hfin]; decide)] at hlay
  have hst := (u_facts hfc hkC (u_lays hts hin hk0) hi).1
  have h6 := u_store (v := .int (Int32.ofInt x)) hfc hkC hkind hlay hi (c_ty hc k0 hk0) (by rw [hty]; exact nar01 hx01) (by rw [hty]; rcases hx01 with h | h <;> subst h <;> decide)
  refine W.putK hx hb (f := f) ⟨ho, hts _ hw, ⟨_, _, _, hi⟩, hst⟩ (by rw [q2]; exact h6) q1 q3 (by rw [hsl]; exact k2_hasslot (q4 k0 hk0)) rfl rfl hd fun H1 e1 e2 e3 => ?_
  rw [hsl] at e1 ⊢
  refine k p e s m args below meth c D cI cZ cC base fa Q C E H1 _ lsA (HF.up hH hlt ?_ e2 e3) hL
  rw [hk, wE_o, ← wF_upr hk0]
  have e4 : wF base (cY ci k0) (S.2.2 c0 k0) x = .int (Int32.ofInt x) := by rw [hty]; rfl
  rw [e4]
  exact ⟨_, c_cl hc, t_OB.to (V := updV (vp_V _) k0 _) ⟨_, e1, q2, q3, t_set q4 hap hk0 _⟩ (fun j _ => vp_updV_set (by simp [hk0]) _ j)⟩
theorem J.putL {l : Launch} {own : String} {cc : ByteArray} {nL : Nat} {rt : Option FieldType} {d kc ks : Nat} {fi : Bool} {F : Nat × (Int → Int)} {Post : Option VT → Shp → Mm → Prop} {a b pc : Nat} {ls : List (Option VT)} {st : List VT} {S : Shp} {iv : Mm} {x : Int} {c0 ci k0 ix q : Nat} (hd : decode cc pc = .ok (.putfield ix, 3)) (hw : Cond.fieldLink own ix (cT ci k0).1 (cT ci k0).2.1 (cT ci k0).2.2.1 ∈ gtb) (hk : S.2.1 c0 = (ci + 3, 0)) (hc : ci < 7) (hk0 : k0 < cN ci) {kz : Int} (hz : (k0 : Int) = kz) (hty : cY ci k0 = .long) (hfin : (cT ci k0).2.2.2 = false)  (k : J l own cc nL rt d kc ks fi F Post a b q ls st S (up iv c0 kz x))(hq : pc + 3 = q) : J l own cc nL rt d kc ks fi F Post a b pc ls ((l_ x) :: r_ c0 :: st) S iv := by
  intro p e s m args below meth c D cI cZ cC base fa Q C E H locs lsA hH hL
  obtain ⟨hx, hb, hml, hr, ho, hts, hfi, hK, hN, hF, hbs⟩ := id C
  obtain ⟨hP, hS, hsz, hWf⟩ := id hH
  subst hq
  subst hz
  obtain ⟨hlt, he⟩ := enc_o (cI := cI) (cZ := cZ) (cC := cC) (base := base) (iv := iv) hWf hk hc
  have ea : adr base fa c0 = base + c0 := adr_in (Nat.lt_trans hlt hWf.2.2)
  rw [List.map_cons, List.map_cons, show wV base fa (r_ c0) = .ref (adr base fa c0) from rfl, ea]
  have hin := c_in hc
  have hap := va_apart (own := own) hts hin (cY ci) (c_ty hc) (c_nm hc) hK (c_cl hc)
  obtain ⟨r, h1, cell, q1, q2, q3, q4⟩ := hP c0 _ he
  have hr9 : r = (cR ci, cT ci, cN ci) := Option.some.inj (h1.symm.trans (c_cl hc))
  subst hr9
  obtain ⟨hSl, hfc, kC, hkC, hkind⟩ := hK.1 ci _ (c_cl hc)
  obtain ⟨cf, kf, fi9, f, hi, hsl⟩ := hSl k0 hk0
  have hlay := hts _ (hin _ (u_in_lay hk0))
  unfold u_lay at hlay
  rw [if_neg (by rw [hfin]; decide)] at hlay
  have hst := (u_facts hfc hkC (u_lays hts hin hk0) hi).1
  have h6 := u_store (v := .long (Int64.ofInt x)) hfc hkC hkind hlay hi (c_ty hc k0 hk0) (by rw [hty]; rfl) (by rw [hty]; rfl)
  refine W.putK hx hb (f := f) ⟨ho, hts _ hw, ⟨_, _, _, hi⟩, hst⟩ (by rw [q2]; exact h6) q1 q3 (by rw [hsl]; exact k2_hasslot (q4 k0 hk0)) rfl rfl hd fun H1 e1 e2 e3 => ?_
  rw [hsl] at e1 ⊢
  refine k p e s m args below meth c D cI cZ cC base fa Q C E H1 _ lsA (HF.up hH hlt ?_ e2 e3) hL
  rw [hk, wE_o, ← wF_upr hk0]
  have e4 : wF base (cY ci k0) (S.2.2 c0 k0) x = .long (Int64.ofInt x) := by rw [hty]; rfl
  rw [e4]
  exact ⟨_, c_cl hc, t_OB.to (V := updV (vp_V _) k0 _) ⟨_, e1, q2, q3, t_set q4 hap hk0 _⟩ (fun j _ => vp_updV_set (by simp [hk0]) _ j)⟩
theorem J.iald {l : Launch} {own : String} {cc : ByteArray} {nL : Nat} {rt : Option FieldType} {d kc ks : Nat} {fi : Bool} {F : Nat × (Int → Int)} {Post : Option VT → Shp → Mm → Prop} {a b pc : Nat} {ls : List (Option VT)} {st : List VT} {S : Shp} {iv : Mm} {i : Int} {c0 n q : Nat} (hd : decode cc pc = .ok (.iaload, 1)) (hk : S.2.1 c0 = (0, n)) (hi : 0 ≤ i ∧ i < n) (k : J l own cc nL rt d kc ks fi F Post a b q ls (i_ (iv c0 i) :: st) S iv)(hq : pc + 1 = q) : J l own cc nL rt d kc ks fi F Post a b pc ls (i_ i :: r_ c0 :: st) S iv := by
  intro p e s m args below meth c D cI cZ cC base fa Q C E H locs lsA hH hL
  obtain ⟨hx, hb, hml, hr, ho, hts, hfi, hK, hN, hF, hbs⟩ := id C
  obtain ⟨hP, hS, hsz, hWf⟩ := id hH
  subst hq
  have hlt := hWf.lt hk (by omega)
  have hn : n < 65536 := by have := hWf.2.1 c0; rw [hk] at this; exact this
  have he := enc_at (cI := cI) (cZ := cZ) (cC := cC) (base := base) (iv := iv) hlt
  rw [hk, wE_a0] at he
  have ea : adr base fa c0 = base + c0 := adr_in (Nat.lt_trans hlt hWf.2.2)
  rw [List.map_cons, List.map_cons, show wV base fa (r_ c0) = .ref (adr base fa c0) from rfl, ea]
  have k1 := k p e s m args below meth c D cI cZ cC base fa Q C E H locs lsA hH hL
  have e1 : wV base fa (i_ (iv c0 i)) = .int ((fun j : Nat => Int32.ofInt (iv c0 j)) (Int32.ofInt i).toNatClampNeg) := by
    rw [I3_clamp hi.1 (by omega)]
    show Value.int (Int32.ofInt (iv c0 i)) = .int (Int32.ofInt (iv c0 (i.toNat : Int)))
    rw [Int.toNat_of_nonneg hi.1]
  rw [List.map_cons, e1] at k1
  exact va_iald hx hb hK hP c0 0 he rfl (I3_in hi hn) hd k1
theorem J.zald {l : Launch} {own : String} {cc : ByteArray} {nL : Nat} {rt : Option FieldType} {d kc ks : Nat} {fi : Bool} {F : Nat × (Int → Int)} {Post : Option VT → Shp → Mm → Prop} {a b pc : Nat} {ls : List (Option VT)} {st : List VT} {S : Shp} {iv : Mm} {i : Int} {c0 n q : Nat} (hd : decode cc pc = .ok (.baload, 1)) (hk : S.2.1 c0 = (1, n)) (hi : 0 ≤ i ∧ i < n) (k : J l own cc nL rt d kc ks fi F Post a b q ls (i_ (iv c0 i) :: st) S iv)(hq : pc + 1 = q) : J l own cc nL rt d kc ks fi F Post a b pc ls (i_ i :: r_ c0 :: st) S iv := by
  intro p e s m args below meth c D cI cZ cC base fa Q C E H locs lsA hH hL
  obtain ⟨hx, hb, hml, hr, ho, hts, hfi, hK, hN, hF, hbs⟩ := id C
  obtain ⟨hP, hS, hsz, hWf⟩ := id hH
  subst hq
  have hlt := hWf.lt hk (by omega)
  have hn : n < 65536 := by have := hWf.2.1 c0; rw [hk] at this; exact this
  have he := enc_at (cI := cI) (cZ := cZ) (cC := cC) (base := base) (iv := iv) hlt
  rw [hk, wE_a1] at he
  have ea : adr base fa c0 = base + c0 := adr_in (Nat.lt_trans hlt hWf.2.2)
  rw [List.map_cons, List.map_cons, show wV base fa (r_ c0) = .ref (adr base fa c0) from rfl, ea]
  have k1 := k p e s m args below meth c D cI cZ cC base fa Q C E H locs lsA hH hL
  have e1 : wV base fa (i_ (iv c0 i)) = .int ((fun j : Nat => Int32.ofInt (iv c0 j)) (Int32.ofInt i).toNatClampNeg) := by
    rw [I3_clamp hi.1 (by omega)]
    show Value.int (Int32.ofInt (iv c0 i)) = .int (Int32.ofInt (iv c0 (i.toNat : Int)))
    rw [Int.toNat_of_nonneg hi.1]
  rw [List.map_cons, e1] at k1
  exact va_zald hx hb hK hP c0 1 he rfl (I3_in hi hn) hd k1
theorem J.cald {l : Launch} {own : String} {cc : ByteArray} {nL : Nat} {rt : Option FieldType} {d kc ks : Nat} {fi : Bool} {F : Nat × (Int → Int)} {Post : Option VT → Shp → Mm → Prop} {a b pc : Nat} {ls : List (Option VT)} {st : List VT} {S : Shp} {iv : Mm} {i : Int} {c0 n q : Nat} (hd : decode cc pc = .ok (.caload, 1)) (hk : S.2.1 c0 = (2, n)) (hi : 0 ≤ i ∧ i < n) (k : J l own cc nL rt d kc ks fi F Post a b q ls (i_ (iv c0 i) :: st) S iv)(hq : pc + 1 = q) : J l own cc nL rt d kc ks fi F Post a b pc ls (i_ i :: r_ c0 :: st) S iv := by
  intro p e s m args below meth c D cI cZ cC base fa Q C E H locs lsA hH hL
  obtain ⟨hx, hb, hml, hr, ho, hts, hfi, hK, hN, hF, hbs⟩ := id C
  obtain ⟨hP, hS, hsz, hWf⟩ := id hH
  subst hq
  have hlt := hWf.lt hk (by omega)
  have hn : n < 65536 := by have := hWf.2.1 c0; rw [hk] at this; exact this
  have he := enc_at (cI := cI) (cZ := cZ) (cC := cC) (base := base) (iv := iv) hlt
  rw [hk, wE_a2] at he
  have ea : adr base fa c0 = base + c0 := adr_in (Nat.lt_trans hlt hWf.2.2)
  rw [List.map_cons, List.map_cons, show wV base fa (r_ c0) = .ref (adr base fa c0) from rfl, ea]
  have k1 := k p e s m args below meth c D cI cZ cC base fa Q C E H locs lsA hH hL
  have e1 : wV base fa (i_ (iv c0 i)) = .int ((fun j : Nat => Int32.ofInt (iv c0 j)) (Int32.ofInt i).toNatClampNeg) := by
    rw [I3_clamp hi.1 (by omega)]
    show Value.int (Int32.ofInt (iv c0 i)) = .int (Int32.ofInt (iv c0 (i.toNat : Int)))
    rw [Int.toNat_of_nonneg hi.1]
  rw [List.map_cons, e1] at k1
  exact va_cald hx hb hK hP c0 2 he rfl (I3_in hi hn) hd k1
theorem J.iast {l : Launch} {own : String} {cc : ByteArray} {nL : Nat} {rt : Option FieldType} {d kc ks : Nat} {fi : Bool} {F : Nat × (Int → Int)} {Post : Option VT → Shp → Mm → Prop} {a b pc : Nat} {ls : List (Option VT)} {st : List VT} {S : Shp} {iv : Mm} {i x : Int} {c0 n q : Nat} (hd : decode cc pc = .ok (.iastore, 1)) (hk : S.2.1 c0 = (0, n)) (hi : 0 ≤ i ∧ i < n)  (k : J l own cc nL rt d kc ks fi F Post a b q ls st S (up iv c0 i x))(hq : pc + 1 = q) : J l own cc nL rt d kc ks fi F Post a b pc ls (i_ x :: i_ i :: r_ c0 :: st) S iv := by
  intro p e s m args below meth c D cI cZ cC base fa Q C E H locs lsA hH hL
  obtain ⟨hx, hb, hml, hr, ho, hts, hfi, hK, hN, hF, hbs⟩ := id C
  obtain ⟨hP, hS, hsz, hWf⟩ := id hH
  subst hq
  have hlt := hWf.lt hk (by omega)
  have hn : n < 65536 := by have := hWf.2.1 c0; rw [hk] at this; exact this
  have he := enc_at (cI := cI) (cZ := cZ) (cC := cC) (base := base) (iv := iv) hlt
  rw [hk, wE_a0] at he
  have ea : adr base fa c0 = base + c0 := adr_in (Nat.lt_trans hlt hWf.2.2)
  rw [List.map_cons, List.map_cons, List.map_cons, show wV base fa (r_ c0) = .ref (adr base fa c0) from rfl, ea]
  refine W.iast hx hb (hP c0 _ he) ((hK.2 0 _ rfl).1 n (fun j => .int (Int32.ofInt (iv c0 j)))) (fun q => by cases q) (by show ¬ (_ ∨ (arrV _ _ _).slots.size ≤ _); rw [arrV_size]; exact I3_in hi hn) rfl rfl hd fun H1 e1 z oq => ?_
  refine k p e s m args below meth c D cI cZ cC base fa Q C E H1 _ lsA (HF.up hH hlt ?_ z oq) hL
  rw [hk, wE_a0, ← I3_upd _ hi.1]
  show H1[base + c0]? = some (vp_cell _ _)
  rw [e1, ← I3_clamp hi.1 (by omega)]
  exact congrArg some (arr_st _ _ _ _ _)
theorem J.zast {l : Launch} {own : String} {cc : ByteArray} {nL : Nat} {rt : Option FieldType} {d kc ks : Nat} {fi : Bool} {F : Nat × (Int → Int)} {Post : Option VT → Shp → Mm → Prop} {a b pc : Nat} {ls : List (Option VT)} {st : List VT} {S : Shp} {iv : Mm} {i x : Int} {c0 n q : Nat} (hd : decode cc pc = .ok (.bastore, 1)) (hk : S.2.1 c0 = (1, n)) (hi : 0 ≤ i ∧ i < n) (hx01 : x = 0 ∨ x = 1) (k : J l own cc nL rt d kc ks fi F Post a b q ls st S (up iv c0 i x))(hq : pc + 1 = q) : J l own cc nL rt d kc ks fi F Post a b pc ls (i_ x :: i_ i :: r_ c0 :: st) S iv := by
  intro p e s m args below meth c D cI cZ cC base fa Q C E H locs lsA hH hL
  obtain ⟨hx, hb, hml, hr, ho, hts, hfi, hK, hN, hF, hbs⟩ := id C
  obtain ⟨hP, hS, hsz, hWf⟩ := id hH
  subst hq
  have hlt := hWf.lt hk (by omega)
  have hn : n < 65536 := by have := hWf.2.1 c0; rw [hk] at this; exact this
  have he := enc_at (cI := cI) (cZ := cZ) (cC := cC) (base := base) (iv := iv) hlt
  rw [hk, wE_a1] at he
  have ea : adr base fa c0 = base + c0 := adr_in (Nat.lt_trans hlt hWf.2.2)
  rw [List.map_cons, List.map_cons, List.map_cons, show wV base fa (r_ c0) = .ref (adr base fa c0) from rfl, ea]
  refine W.zast hx hb (hP c0 _ he) ((hK.2 1 _ rfl).1 n (fun j => .int (Int32.ofInt (iv c0 j)))) (fun q => by cases q) (by show ¬ (_ ∨ (arrV _ _ _).slots.size ≤ _); rw [arrV_size]; exact I3_in hi hn) rfl rfl hd fun H1 e1 z oq => ?_
  refine k p e s m args below meth c D cI cZ cC base fa Q C E H1 _ lsA (HF.up hH hlt ?_ z oq) hL
  rw [hk, wE_a1, ← I3_upd _ hi.1]
  show H1[base + c0]? = some (vp_cell _ _)
  rw [e1, nar01 hx01, ← I3_clamp hi.1 (by omega)]
  exact congrArg some (arr_st _ _ _ _ _)
theorem J.cast {l : Launch} {own : String} {cc : ByteArray} {nL : Nat} {rt : Option FieldType} {d kc ks : Nat} {fi : Bool} {F : Nat × (Int → Int)} {Post : Option VT → Shp → Mm → Prop} {a b pc : Nat} {ls : List (Option VT)} {st : List VT} {S : Shp} {iv : Mm} {i x : Int} {c0 n q : Nat} (hd : decode cc pc = .ok (.castore, 1)) (hk : S.2.1 c0 = (2, n)) (hi : 0 ≤ i ∧ i < n) (hx01 : 0 ≤ x ∧ x < 65536) (k : J l own cc nL rt d kc ks fi F Post a b q ls st S (up iv c0 i x))(hq : pc + 1 = q) : J l own cc nL rt d kc ks fi F Post a b pc ls (i_ x :: i_ i :: r_ c0 :: st) S iv := by
  intro p e s m args below meth c D cI cZ cC base fa Q C E H locs lsA hH hL
  obtain ⟨hx, hb, hml, hr, ho, hts, hfi, hK, hN, hF, hbs⟩ := id C
  obtain ⟨hP, hS, hsz, hWf⟩ := id hH
  subst hq
  have hlt := hWf.lt hk (by omega)
  have hn : n < 65536 := by have := hWf.2.1 c0; rw [hk] at this; exact this
  have he := enc_at (cI := cI) (cZ := cZ) (cC := cC) (base := base) (iv := iv) hlt
  rw [hk, wE_a2] at he
  have ea : adr base fa c0 = base + c0 := adr_in (Nat.lt_trans hlt hWf.2.2)
  rw [List.map_cons, List.map_cons, List.map_cons, show wV base fa (r_ c0) = .ref (adr base fa c0) from rfl, ea]
  refine W.cast hx hb (hP c0 _ he) ((hK.2 2 _ rfl).1 n (fun j => .int (Int32.ofInt (iv c0 j)))) (fun q => by cases q) (by show ¬ (_ ∨ (arrV _ _ _).slots.size ≤ _); rw [arrV_size]; exact I3_in hi hn) rfl rfl hd fun H1 e1 z oq => ?_
  refine k p e s m args below meth c D cI cZ cC base fa Q C E H1 _ lsA (HF.up hH hlt ?_ z oq) hL
  rw [hk, wE_a2, ← I3_upd _ hi.1]
  show H1[base + c0]? = some (vp_cell _ _)
  rw [e1, nar_ch hx01, ← I3_clamp hi.1 (by omega)]
  exact congrArg some (arr_st _ _ _ _ _)
theorem J.alen0 {l : Launch} {own : String} {cc : ByteArray} {nL : Nat} {rt : Option FieldType} {d kc ks : Nat} {fi : Bool} {F : Nat × (Int → Int)} {Post : Option VT → Shp → Mm → Prop} {a b pc : Nat} {ls : List (Option VT)} {st : List VT} {S : Shp} {iv : Mm} {c0 n q : Nat} (hd : decode cc pc = .ok (.arraylength, 1)) (hk : S.2.1 c0 = (0, n)) (k : J l own cc nL rt d kc ks fi F Post a b q ls (i_ (n : Int) :: st) S iv)(hq : pc + 1 = q) : J l own cc nL rt d kc ks fi F Post a b pc ls (r_ c0 :: st) S iv := by
  intro p e s m args below meth c D cI cZ cC base fa Q C E H locs lsA hH hL
  obtain ⟨hx, hb, hml, hr, ho, hts, hfi, hK, hN, hF, hbs⟩ := id C
  obtain ⟨hP, hS, hsz, hWf⟩ := id hH
  subst hq
  have hlt := hWf.lt hk (by omega)
  have he := enc_at (cI := cI) (cZ := cZ) (cC := cC) (base := base) (iv := iv) hlt
  rw [hk, wE_a0] at he
  have ea : adr base fa c0 = base + c0 := adr_in (Nat.lt_trans hlt hWf.2.2)
  rw [List.map_cons, show wV base fa (r_ c0) = .ref (adr base fa c0) from rfl, ea]
  have k1 := k p e s m args below meth c D cI cZ cC base fa Q C E H locs lsA hH hL
  exact va_alen hx hb hK hP c0 0 he rfl (I3_nat n) hd k1
theorem J.alen2 {l : Launch} {own : String} {cc : ByteArray} {nL : Nat} {rt : Option FieldType} {d kc ks : Nat} {fi : Bool} {F : Nat × (Int → Int)} {Post : Option VT → Shp → Mm → Prop} {a b pc : Nat} {ls : List (Option VT)} {st : List VT} {S : Shp} {iv : Mm} {c0 n q : Nat} (hd : decode cc pc = .ok (.arraylength, 1)) (hk : S.2.1 c0 = (2, n)) (k : J l own cc nL rt d kc ks fi F Post a b q ls (i_ (n : Int) :: st) S iv)(hq : pc + 1 = q) : J l own cc nL rt d kc ks fi F Post a b pc ls (r_ c0 :: st) S iv := by
  intro p e s m args below meth c D cI cZ cC base fa Q C E H locs lsA hH hL
  obtain ⟨hx, hb, hml, hr, ho, hts, hfi, hK, hN, hF, hbs⟩ := id C
  obtain ⟨hP, hS, hsz, hWf⟩ := id hH
  subst hq
  have hlt := hWf.lt hk (by omega)
  have he := enc_at (cI := cI) (cZ := cZ) (cC := cC) (base := base) (iv := iv) hlt
  rw [hk, wE_a2] at he
  have ea : adr base fa c0 = base + c0 := adr_in (Nat.lt_trans hlt hWf.2.2)
  rw [List.map_cons, show wV base fa (r_ c0) = .ref (adr base fa c0) from rfl, ea]
  have k1 := k p e s m args below meth c D cI cZ cC base fa Q C E H locs lsA hH hL
  exact va_alen hx hb hK hP c0 2 he rfl (I3_nat n) hd k1
theorem J.sld {l : Launch} {own : String} {cc : ByteArray} {nL : Nat} {rt : Option FieldType} {d kc ks : Nat} {fi : Bool} {F : Nat × (Int → Int)} {Post : Option VT → Shp → Mm → Prop} {a b pc : Nat} {ls : List (Option VT)} {st : List VT} {S : Shp} {iv : Mm} {i : Int} {q : Nat} (hd : decode cc pc = .ok (.iaload, 1)) (hi : 0 ≤ i ∧ i < F.1) (hn : F.1 < 65536) (k : J l own cc nL rt d kc ks fi F Post a b q ls (i_ (F.2 i) :: st) S iv)(hq : pc + 1 = q) : J l own cc nL rt d kc ks fi F Post a b pc ls (i_ i :: r_ 1000 :: st) S iv := by
  intro p e s m args below meth c D cI cZ cC base fa Q C E H locs lsA hH hL
  obtain ⟨hx, hb, hml, hr, ho, hts, hfi, hK, hN, hF, hbs⟩ := id C
  obtain ⟨hP, hS, hsz, hWf⟩ := id hH
  subst hq
  have ea : adr base fa 1000 = fa 0 := by rw [adr, if_neg (by omega)]
  rw [List.map_cons, List.map_cons, show wV base fa (r_ 1000) = .ref (adr base fa 1000) from rfl, ea]
  have k1 := k p e s m args below meth c D cI cZ cC base fa Q C E H locs lsA hH hL
  refine va_ti hx hb hF.1 hS (I3_in hi hn) ?_ hd k1
  show Value.int (Int32.ofInt (F.2 ((Int32.ofInt i).toNatClampNeg : Int))) = .int (Int32.ofInt (F.2 i))
  rw [I3_clamp hi.1 (by omega), Int.toNat_of_nonneg hi.1]
theorem J.slen {l : Launch} {own : String} {cc : ByteArray} {nL : Nat} {rt : Option FieldType} {d kc ks : Nat} {fi : Bool} {F : Nat × (Int → Int)} {Post : Option VT → Shp → Mm → Prop} {a b pc : Nat} {ls : List (Option VT)} {st : List VT} {S : Shp} {iv : Mm} {q : Nat} (hd : decode cc pc = .ok (.arraylength, 1)) (k : J l own cc nL rt d kc ks fi F Post a b q ls (i_ (F.1 : Int) :: st) S iv)(hq : pc + 1 = q) : J l own cc nL rt d kc ks fi F Post a b pc ls (r_ 1000 :: st) S iv := by
  intro p e s m args below meth c D cI cZ cC base fa Q C E H locs lsA hH hL
  obtain ⟨hx, hb, hml, hr, ho, hts, hfi, hK, hN, hF, hbs⟩ := id C
  obtain ⟨hP, hS, hsz, hWf⟩ := id hH
  subst hq
  have ea : adr base fa 1000 = fa 0 := by rw [adr, if_neg (by omega)]
  rw [List.map_cons, show wV base fa (r_ 1000) = .ref (adr base fa 1000) from rfl, ea]
  have k1 := k p e s m args below meth c D cI cZ cC base fa Q C E H locs lsA hH hL
  exact va_tlen hx hb hF.1 hS (I3_nat F.1) hd k1
theorem J.tld1 {l : Launch} {own : String} {cc : ByteArray} {nL : Nat} {rt : Option FieldType} {d kc ks : Nat} {fi : Bool} {F : Nat × (Int → Int)} {Post : Option VT → Shp → Mm → Prop} {a b pc : Nat} {ls : List (Option VT)} {st : List VT} {S : Shp} {iv : Mm} {i : Int} {q : Nat} (hd : decode cc pc = .ok (.iaload, 1)) (hi : 0 ≤ i ∧ i < 7) (k : J l own cc nL rt d kc ks fi F Post a b q ls (i_ (tF1.getD i.toNat 0) :: st) S iv)(hq : pc + 1 = q) : J l own cc nL rt d kc ks fi F Post a b pc ls (i_ i :: r_ 1001 :: st) S iv := by
  intro p e s m args below meth c D cI cZ cC base fa Q C E H locs lsA hH hL
  obtain ⟨hx, hb, hml, hr, ho, hts, hfi, hK, hN, hF, hbs⟩ := id C
  obtain ⟨hP, hS, hsz, hWf⟩ := id hH
  subst hq
  have ea : adr base fa 1001 = fa 1 := by rw [adr, if_neg (by omega)]
  rw [List.map_cons, List.map_cons, show wV base fa (r_ 1001) = .ref (adr base fa 1001) from rfl, ea]
  have k1 := k p e s m args below meth c D cI cZ cC base fa Q C E H locs lsA hH hL
  refine va_ti hx hb hF.2.1 hS (I3_in (by omega) (by omega)) ?_ hd k1
  show Value.int (Int32.ofInt (tF1.getD ((Int32.ofInt i).toNatClampNeg) 0)) = .int (Int32.ofInt (tF1.getD i.toNat 0))
  rw [I3_clamp hi.1 (by omega)]
theorem J.tlen1 {l : Launch} {own : String} {cc : ByteArray} {nL : Nat} {rt : Option FieldType} {d kc ks : Nat} {fi : Bool} {F : Nat × (Int → Int)} {Post : Option VT → Shp → Mm → Prop} {a b pc : Nat} {ls : List (Option VT)} {st : List VT} {S : Shp} {iv : Mm} {q : Nat} (hd : decode cc pc = .ok (.arraylength, 1)) (k : J l own cc nL rt d kc ks fi F Post a b q ls (i_ 7 :: st) S iv)(hq : pc + 1 = q) : J l own cc nL rt d kc ks fi F Post a b pc ls (r_ 1001 :: st) S iv := by
  intro p e s m args below meth c D cI cZ cC base fa Q C E H locs lsA hH hL
  obtain ⟨hx, hb, hml, hr, ho, hts, hfi, hK, hN, hF, hbs⟩ := id C
  obtain ⟨hP, hS, hsz, hWf⟩ := id hH
  subst hq
  have ea : adr base fa 1001 = fa 1 := by rw [adr, if_neg (by omega)]
  rw [List.map_cons, show wV base fa (r_ 1001) = .ref (adr base fa 1001) from rfl, ea]
  have k1 := k p e s m args below meth c D cI cZ cC base fa Q C E H locs lsA hH hL
  exact va_tlen hx hb hF.2.1 hS rfl hd k1
theorem J.tld2 {l : Launch} {own : String} {cc : ByteArray} {nL : Nat} {rt : Option FieldType} {d kc ks : Nat} {fi : Bool} {F : Nat × (Int → Int)} {Post : Option VT → Shp → Mm → Prop} {a b pc : Nat} {ls : List (Option VT)} {st : List VT} {S : Shp} {iv : Mm} {i : Int} {q : Nat} (hd : decode cc pc = .ok (.iaload, 1)) (hi : 0 ≤ i ∧ i < 5) (k : J l own cc nL rt d kc ks fi F Post a b q ls (i_ (tF2.getD i.toNat 0) :: st) S iv)(hq : pc + 1 = q) : J l own cc nL rt d kc ks fi F Post a b pc ls (i_ i :: r_ 1002 :: st) S iv := by
  intro p e s m args below meth c D cI cZ cC base fa Q C E H locs lsA hH hL
  obtain ⟨hx, hb, hml, hr, ho, hts, hfi, hK, hN, hF, hbs⟩ := id C
  obtain ⟨hP, hS, hsz, hWf⟩ := id hH
  subst hq
  have ea : adr base fa 1002 = fa 2 := by rw [adr, if_neg (by omega)]
  rw [List.map_cons, List.map_cons, show wV base fa (r_ 1002) = .ref (adr base fa 1002) from rfl, ea]
  have k1 := k p e s m args below meth c D cI cZ cC base fa Q C E H locs lsA hH hL
  refine va_ti hx hb hF.2.2.1 hS (I3_in (by omega) (by omega)) ?_ hd k1
  show Value.int (Int32.ofInt (tF2.getD ((Int32.ofInt i).toNatClampNeg) 0)) = .int (Int32.ofInt (tF2.getD i.toNat 0))
  rw [I3_clamp hi.1 (by omega)]
theorem J.tlen2 {l : Launch} {own : String} {cc : ByteArray} {nL : Nat} {rt : Option FieldType} {d kc ks : Nat} {fi : Bool} {F : Nat × (Int → Int)} {Post : Option VT → Shp → Mm → Prop} {a b pc : Nat} {ls : List (Option VT)} {st : List VT} {S : Shp} {iv : Mm} {q : Nat} (hd : decode cc pc = .ok (.arraylength, 1)) (k : J l own cc nL rt d kc ks fi F Post a b q ls (i_ 5 :: st) S iv)(hq : pc + 1 = q) : J l own cc nL rt d kc ks fi F Post a b pc ls (r_ 1002 :: st) S iv := by
  intro p e s m args below meth c D cI cZ cC base fa Q C E H locs lsA hH hL
  obtain ⟨hx, hb, hml, hr, ho, hts, hfi, hK, hN, hF, hbs⟩ := id C
  obtain ⟨hP, hS, hsz, hWf⟩ := id hH
  subst hq
  have ea : adr base fa 1002 = fa 2 := by rw [adr, if_neg (by omega)]
  rw [List.map_cons, show wV base fa (r_ 1002) = .ref (adr base fa 1002) from rfl, ea]
  have k1 := k p e s m args below meth c D cI cZ cC base fa Q C E H locs lsA hH hL
  exact va_tlen hx hb hF.2.2.1 hS rfl hd k1
theorem J.gets1 {l : Launch} {own : String} {cc : ByteArray} {nL : Nat} {rt : Option FieldType} {d kc ks : Nat} {fi : Bool} {F : Nat × (Int → Int)} {Post : Option VT → Shp → Mm → Prop} {a b pc : Nat} {ls : List (Option VT)} {st : List VT} {S : Shp} {iv : Mm} {ix q : Nat} (hd : decode cc pc = .ok (.getstatic ix, 3)) (hw : Cond.fieldLink own ix "SnailLaws" "KIND_ABOVE" "[I" ∈ gtb) (k : J l own cc nL rt d kc ks fi F Post a b q ls ((r_ 1001) :: st) S iv)(hq : pc + 3 = q) : J l own cc nL rt d kc ks fi F Post a b pc ls st S iv := by
  intro p e s m args below meth c D cI cZ cC base fa Q C E H locs lsA hH hL
  obtain ⟨hx, hb, hml, hr, ho, hts, hfi, hK, hN, hF, hbs⟩ := id C
  obtain ⟨hP, hS, hsz, hWf⟩ := id hH
  subst hq
  have ea : adr base fa 1001 = fa 1 := by rw [adr, if_neg (by omega)]
  have k1 := k p e s m args below meth c D cI cZ cC base fa Q C E H locs lsA hH hL
  rw [List.map_cons, show wV base fa (r_ 1001) = .ref (adr base fa 1001) from rfl, ea] at k1
  exact va_gets hx hb hF.2.2.2.1 hS ho (hts _ hw) (fun _ h => h) hd k1
theorem J.gets2 {l : Launch} {own : String} {cc : ByteArray} {nL : Nat} {rt : Option FieldType} {d kc ks : Nat} {fi : Bool} {F : Nat × (Int → Int)} {Post : Option VT → Shp → Mm → Prop} {a b pc : Nat} {ls : List (Option VT)} {st : List VT} {S : Shp} {iv : Mm} {ix q : Nat} (hd : decode cc pc = .ok (.getstatic ix, 3)) (hw : Cond.fieldLink own ix "SnailLaws" "MOST_OF_TRAIT" "[I" ∈ gtb) (k : J l own cc nL rt d kc ks fi F Post a b q ls ((r_ 1002) :: st) S iv)(hq : pc + 3 = q) : J l own cc nL rt d kc ks fi F Post a b pc ls st S iv := by
  intro p e s m args below meth c D cI cZ cC base fa Q C E H locs lsA hH hL
  obtain ⟨hx, hb, hml, hr, ho, hts, hfi, hK, hN, hF, hbs⟩ := id C
  obtain ⟨hP, hS, hsz, hWf⟩ := id hH
  subst hq
  have ea : adr base fa 1002 = fa 2 := by rw [adr, if_neg (by omega)]
  have k1 := k p e s m args below meth c D cI cZ cC base fa Q C E H locs lsA hH hL
  rw [List.map_cons, show wV base fa (r_ 1002) = .ref (adr base fa 1002) from rfl, ea] at k1
  exact va_gets hx hb hF.2.2.2.2.1 hS ho (hts _ hw) (fun _ h => h) hd k1
theorem J.getsC {l : Launch} {own : String} {cc : ByteArray} {nL : Nat} {rt : Option FieldType} {d kc ks : Nat} {fi : Bool} {F : Nat × (Int → Int)} {Post : Option VT → Shp → Mm → Prop} {a b pc : Nat} {ls : List (Option VT)} {st : List VT} {S : Shp} {iv : Mm} {ix q : Nat} (hd : decode cc pc = .ok (.getstatic ix, 3)) (hw : Cond.fieldLink own ix "java/lang/String" "COMPACT_STRINGS" "Z" ∈ gtb) (k : J l own cc nL rt d kc ks fi F Post a b q ls ((i_ 1) :: st) S iv)(hq : pc + 3 = q) : J l own cc nL rt d kc ks fi F Post a b pc ls st S iv := by
  intro p e s m args below meth c D cI cZ cC base fa Q C E H locs lsA hH hL
  obtain ⟨hx, hb, hml, hr, ho, hts, hfi, hK, hN, hF, hbs⟩ := id C
  obtain ⟨hP, hS, hsz, hWf⟩ := id hH
  subst hq
  have k1 := k p e s m args below meth c D cI cZ cC base fa Q C E H locs lsA hH hL
  
  exact va_gets hx hb hF.2.2.2.2.2.1 hS ho (hts _ hw) (fun _ h => h) hd k1
