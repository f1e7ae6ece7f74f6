theorem J.objInit {l : Launch} {own : String} {cc : ByteArray} {nL : Nat} {rt : Option FieldType} {d kc ks : Nat} {fi : Bool} {F : Nat × (Int → Int)} {Post : Option VT → Shp → Mm → Prop} {a b pc : Nat} {ls : List (Option VT)} {st : List VT} {S : Shp} {iv : Mm} {c0 ix q : Nat} (hd : decode cc pc = .ok (.invokespecial ix, 3)) (hw : Cond.methodLink own ix objectInit ∈ gtb) (hst : st = []) (hd1 : 1 ≤ d) (hq : pc + 3 = q) (k : J l own cc nL rt d kc ks fi F Post a b q ls [] S iv) : J l own cc nL rt d kc ks fi F Post a b pc ls (r_ c0 :: st) S iv := by
  intro p e s m args below meth c D cI cZ cC base fa Q C E H locs lsA hH hL
  subst hst
  subst hq
  obtain ⟨hx, hb, hml, hr, ho, hts, hfi, hK, hN, hF, hbs⟩ := id C
  have k1 := k p e s m args below meth c D cI cZ cC base fa Q C E H locs lsA hH hL
  exact W.objInit hx hb ho (hts _ hw) (hts _ kI_oi) (hts _ kC_oi) rfl (by rw [hml]; exact hL.2.1) rfl hd hd1 (by show 2 * 0 + 0 + 12 ≤ 38 * d; omega) k1
theorem J.mmin {l : Launch} {own : String} {cc : ByteArray} {nL : Nat} {rt : Option FieldType} {d kc ks : Nat} {fi : Bool} {F : Nat × (Int → Int)} {Post : Option VT → Shp → Mm → Prop} {a b pc : Nat} {ls : List (Option VT)} {st : List VT} {S : Shp} {iv : Mm} {x y : Int} {ix q : Nat} (hd : decode cc pc = .ok (.invokestatic ix, 3)) (hw : Cond.methodLink own ix yJ9_min_7cf53 ∈ gtb) (k : J l own cc nL rt d kc ks fi F Post a b q ls (i_ (if y < x then y else x) :: st) S iv) (hq : pc + 3 = q) (hd1 : 1 ≤ d := by decide) (hsum : (st.map w2).sum ≤ 8 := by decide) (hcap : a ≤ kc ∧ b ≤ ks := by decide) (hv : (-2147483648 ≤ x ∧ x < 2147483648) ∧ (-2147483648 ≤ y ∧ y < 2147483648) := by omega) : J l own cc nL rt d kc ks fi F Post a b pc ls (i_ y :: i_ x :: st) S iv := by
  intro p e s m args below meth c D cI cZ cC base fa Q C E H locs lsA hH hL
  subst hq
  obtain ⟨hx, hb, hml, hr, ho, hts, hfi, hK, hN, hF, hbs⟩ := id C
  have k1 := k p e s m args below meth c D cI cZ cC base fa Q C E H locs lsA hH hL
  refine va_mmin hx hb (by rw [hml]; exact hL.2.1.symm) ho (hts _ hw) (hts _ kS_J9_min_7cf53) (hts _ kD_J9) (hts _ kC_J9_min_7cf53) hd1 (by rw [w2_sum]; show (st.map w2).sum + 13 ≤ 38 * d; omega) hcap.1 hcap.2 hd ?_
  have e1 : Value.int (if Int32.ofInt y < Int32.ofInt x then Int32.ofInt y else Int32.ofInt x) = wV base fa (i_ (if y < x then y else x)) := by
    by_cases h : y < x
    · rw [if_pos h, if_pos ((I3_lt hv.2 hv.1).mpr h)]; rfl
    · rw [if_neg h, if_neg (fun z => h ((I3_lt hv.2 hv.1).mp z))]; rfl
  rw [e1]
  exact k1
