/-! THE ROWS OF J, one an instruction (printed by wip/whole/gen_rules.py) -/
theorem I3_shr {x y z : Int} (hx : -2147483648 ≤ x ∧ x < 2147483648) (n : Nat) (hn : n < 32) (hy : y = n) (hz : z = x / 2 ^ n) : Int32.ofInt x >>> (Int32.ofInt y &&& 31) = Int32.ofInt z := by
  subst hy
  subst hz
  have h := pk_shr (Int32.ofInt x) (Int32.ofInt (n : Int) &&& 31) n (by
    rcases (show n = 0 ∨ n = 1 ∨ n = 2 ∨ n = 3 ∨ n = 4 ∨ n = 5 ∨ n = 6 ∨ n = 7 ∨ n = 8 ∨ n = 9 ∨ n = 10 ∨ n = 11 ∨ n = 12 ∨ n = 13 ∨ n = 14 ∨ n = 15 ∨ n = 16 ∨ n = 17 ∨ n = 18 ∨ n = 19 ∨ n = 20 ∨ n = 21 ∨ n = 22 ∨ n = 23 ∨ n = 24 ∨ n = 25 ∨ n = 26 ∨ n = 27 ∨ n = 28 ∨ n = 29 ∨ n = 30 ∨ n = 31 by omega) with h | h | h | h | h | h | h | h | h | h | h | h | h | h | h | h | h | h | h | h | h | h | h | h | h | h | h | h | h | h | h | h <;> subst h <;> decide +kernel)
  rw [I3_toInt hx, Int.shiftRight_eq_div_pow] at h
  rw [← Int32.toInt_inj, h]
  have e1 : x / ((2 ^ n : Nat) : Int) = x / 2 ^ n := by rw [Int.natCast_pow]; rfl
  rw [e1]
  have hp : (0 : Int) < 2 ^ n := Int.pow_pos (by omega)
  refine (I3_toInt ⟨?_, ?_⟩).symm
  · rw [Int.le_ediv_iff_mul_le hp]
    have : (1 : Int) ≤ 2 ^ n := hp
    have : -2147483648 * 2 ^ n ≤ -2147483648 * (1 : Int) := Int.mul_le_mul_of_nonpos_left (by omega) this
    omega
  · rw [Int.ediv_lt_iff_lt_mul hp]
    have : (1 : Int) ≤ 2 ^ n := hp
    have : 2147483648 * (1 : Int) ≤ 2147483648 * 2 ^ n := Int.mul_le_mul_of_nonneg_left this (by omega)
    omega
theorem I3_shl {x y z : Int} (n : Nat) (hn : n < 32) (hy : y = n) (hz : z = x * 2 ^ n) : Int32.ofInt x <<< (Int32.ofInt y &&& 31) = Int32.ofInt z := by
  subst hy
  subst hz
  have h := pk_shl (Int32.ofInt x) (Int32.ofInt (n : Int) &&& 31) n (by
    rcases (show n = 0 ∨ n = 1 ∨ n = 2 ∨ n = 3 ∨ n = 4 ∨ n = 5 ∨ n = 6 ∨ n = 7 ∨ n = 8 ∨ n = 9 ∨ n = 10 ∨ n = 11 ∨ n = 12 ∨ n = 13 ∨ n = 14 ∨ n = 15 ∨ n = 16 ∨ n = 17 ∨ n = 18 ∨ n = 19 ∨ n = 20 ∨ n = 21 ∨ n = 22 ∨ n = 23 ∨ n = 24 ∨ n = 25 ∨ n = 26 ∨ n = 27 ∨ n = 28 ∨ n = 29 ∨ n = 30 ∨ n = 31 by omega) with h | h | h | h | h | h | h | h | h | h | h | h | h | h | h | h | h | h | h | h | h | h | h | h | h | h | h | h | h | h | h | h <;> subst h <;> decide +kernel)
  apply Int32.toBitVec_inj.mp
  apply BitVec.eq_of_toNat_eq
  rw [h, Int32.toBitVec_ofInt, Int32.toBitVec_ofInt, BitVec.toNat_ofInt, BitVec.toNat_ofInt]
  have e1 : ((2 ^ n : Nat) : Int) = 2 ^ n := Int.natCast_pow 2 n
  apply Int.natCast_inj.mp
  rw [Int.natCast_emod, Int.natCast_mul, Int.toNat_of_nonneg (Int.emod_nonneg _ (by decide)), Int.toNat_of_nonneg (Int.emod_nonneg _ (by decide)), e1]
  show x % 4294967296 * 2 ^ n % 4294967296 = x * 2 ^ n % 4294967296
  rw [Int.mul_emod (x % 4294967296), Int.emod_emod, ← Int.mul_emod]
theorem I3_and {x y z : Int} (k : Nat) (hk : k ≤ 31) (hy : y = 2 ^ k - 1) (hz : z = x % 2 ^ k) : Int32.ofInt x &&& Int32.ofInt y = Int32.ofInt z := by
  subst hy
  subst hz
  have hm : (Int32.ofInt (2 ^ k - 1)).toBitVec.toNat = 2 ^ k - 1 := by
    rcases (show k = 0 ∨ k = 1 ∨ k = 2 ∨ k = 3 ∨ k = 4 ∨ k = 5 ∨ k = 6 ∨ k = 7 ∨ k = 8 ∨ k = 9 ∨ k = 10 ∨ k = 11 ∨ k = 12 ∨ k = 13 ∨ k = 14 ∨ k = 15 ∨ k = 16 ∨ k = 17 ∨ k = 18 ∨ k = 19 ∨ k = 20 ∨ k = 21 ∨ k = 22 ∨ k = 23 ∨ k = 24 ∨ k = 25 ∨ k = 26 ∨ k = 27 ∨ k = 28 ∨ k = 29 ∨ k = 30 ∨ k = 31 by omega) with h | h | h | h | h | h | h | h | h | h | h | h | h | h | h | h | h | h | h | h | h | h | h | h | h | h | h | h | h | h | h | h <;> subst h <;> decide +kernel
  rw [pk_and _ k hm]
  show Int32.ofNat _ = _
  rw [I3_nat]
  congr 1
  rw [Int32.toBitVec_ofInt, BitVec.toNat_ofInt, Int.natCast_emod, Int.toNat_of_nonneg (Int.emod_nonneg _ (by decide)), Int.natCast_pow]
  show x % 4294967296 % 2 ^ k = x % 2 ^ k
  refine Int.emod_emod_of_dvd x ?_
  exact ⟨2 ^ (32 - k), by rw [← Int.pow_add, show k + (32 - k) = 32 by omega]; rfl⟩
theorem I3_div {x y z : Int} (hx : 0 ≤ x ∧ x < 2147483648) (hy : 0 < y ∧ y < 2147483648) (hz : z = x / y) : Int32.ofInt x / Int32.ofInt y = Int32.ofInt z := by
  subst hz
  obtain ⟨n, rfl⟩ := Int.eq_ofNat_of_zero_le hx.1
  obtain ⟨k, rfl⟩ := Int.eq_ofNat_of_zero_le (show 0 ≤ y by omega)
  have h := pk_div (a := n) (d := k) (by omega) (by omega) (by omega)
  simp only [nI, I3_nat] at h
  rw [h]
  rfl
theorem I3_rem {x y z : Int} (hx : 0 ≤ x ∧ x < 2147483648) (hy : 0 < y ∧ y < 2147483648) (hz : z = x % y) : Int32.ofInt x - Int32.ofInt x / Int32.ofInt y * Int32.ofInt y = Int32.ofInt z := by
  subst hz
  obtain ⟨n, rfl⟩ := Int.eq_ofNat_of_zero_le hx.1
  obtain ⟨k, rfl⟩ := Int.eq_ofNat_of_zero_le (show 0 ≤ y by omega)
  have h := pk_rem (a := n) (d := k) (by omega) (by omega) (by omega)
  simp only [nI, I3_nat] at h
  rw [h]
  rfl
theorem I3_n0 {y : Int} (hy : 0 < y ∧ y < 2147483648) : ¬ Int32.ofInt y = 0 := by
  intro h
  have := (I3_eq (a := y) (b := 0) (by omega) (by omega)).mp h
  omega
theorem I3_not {x z : Int} (hz : z = -1 - x) : Int32.ofInt x ^^^ Int32.ofInt (-1) = Int32.ofInt z := by
  subst hz
  apply Int32.toBitVec_inj.mp
  rw [Int32.toBitVec_xor, Int32.toBitVec_ofInt, Int32.toBitVec_ofInt, Int32.toBitVec_ofInt]
  have e1 : BitVec.ofInt 32 (-1) = BitVec.allOnes 32 := by decide
  rw [e1, BitVec.xor_allOnes]
  apply BitVec.eq_of_toInt_eq
  rw [BitVec.toInt_not, BitVec.toInt_ofInt, BitVec.toNat_ofInt, Int.toNat_of_nonneg (Int.emod_nonneg _ (by decide))]
  simp only [Int.bmod_def]
  omega
theorem I3_or {x y z : Int} (hx : 0 ≤ x ∧ x < 2147483648) (hy : 0 ≤ y ∧ y < 2147483648) (hz : z = ((x.toNat ||| y.toNat : Nat) : Int)) : Int32.ofInt x ||| Int32.ofInt y = Int32.ofInt z := by
  subst hz
  obtain ⟨n, rfl⟩ := Int.eq_ofNat_of_zero_le hx.1
  obtain ⟨k, rfl⟩ := Int.eq_ofNat_of_zero_le hy.1
  apply Int32.toBitVec_inj.mp
  apply BitVec.eq_of_toNat_eq
  have hl : n ||| k < 2 ^ 31 := Nat.or_lt_two_pow (by omega) (by omega)
  rw [Int32.toBitVec_or, Int32.toBitVec_ofInt, Int32.toBitVec_ofInt, Int32.toBitVec_ofInt, BitVec.toNat_or, BitVec.toNat_ofInt, BitVec.toNat_ofInt, BitVec.toNat_ofInt]
  simp only [Int.toNat_natCast]
  have e : ∀ w : Nat, w < 2 ^ 31 → ((w : Int) % ((2 ^ 32 : Nat) : Int)).toNat = w := fun w hw => by omega
  rw [e n (by omega), e k (by omega), e _ hl]
theorem J.iconst {l : Launch} {own : String} {cc : ByteArray} {nL : Nat} {rt : Option FieldType} {d kc ks : Nat} {fi : Bool} {F : Nat × (Int → Int)} {Post : Option VT → Shp → Mm → Prop} {a b pc : Nat} {ls : List (Option VT)} {st : List VT} {S : Shp} {iv : Mm} {n : Int} {q : Nat} (hd : decode cc pc = .ok (.iconst n, 1)) (k : J l own cc nL rt d kc ks fi F Post a b q ls (i_ n :: st) S iv)(hq : pc + 1 = q) : J l own cc nL rt d kc ks fi F Post a b pc ls st S iv := by
  intro p e s m args below meth c D cI cZ cC base fa Q C E H locs lsA hH hL
  have k1 := k p e s m args below meth c D cI cZ cC base fa Q C E H locs lsA hH hL
  subst hq
  exact lv_iconst C.1 C.2.1 hd rfl k1
theorem J.bipush {l : Launch} {own : String} {cc : ByteArray} {nL : Nat} {rt : Option FieldType} {d kc ks : Nat} {fi : Bool} {F : Nat × (Int → Int)} {Post : Option VT → Shp → Mm → Prop} {a b pc : Nat} {ls : List (Option VT)} {st : List VT} {S : Shp} {iv : Mm} {n : Int} {q : Nat} (hd : decode cc pc = .ok (.bipush n, 2)) (hn : (Int8.ofInt n).toInt32 = Int32.ofInt n) (k : J l own cc nL rt d kc ks fi F Post a b q ls (i_ n :: st) S iv)(hq : pc + 2 = q) : J l own cc nL rt d kc ks fi F Post a b pc ls st S iv := by
  intro p e s m args below meth c D cI cZ cC base fa Q C E H locs lsA hH hL
  have k1 := k p e s m args below meth c D cI cZ cC base fa Q C E H locs lsA hH hL
  subst hq
  exact lv_bipush C.1 C.2.1 hd hn k1
theorem J.sipush {l : Launch} {own : String} {cc : ByteArray} {nL : Nat} {rt : Option FieldType} {d kc ks : Nat} {fi : Bool} {F : Nat × (Int → Int)} {Post : Option VT → Shp → Mm → Prop} {a b pc : Nat} {ls : List (Option VT)} {st : List VT} {S : Shp} {iv : Mm} {n : Int} {q : Nat} (hd : decode cc pc = .ok (.sipush n, 3)) (hn : (Int16.ofInt n).toInt32 = Int32.ofInt n) (k : J l own cc nL rt d kc ks fi F Post a b q ls (i_ n :: st) S iv)(hq : pc + 3 = q) : J l own cc nL rt d kc ks fi F Post a b pc ls st S iv := by
  intro p e s m args below meth c D cI cZ cC base fa Q C E H locs lsA hH hL
  have k1 := k p e s m args below meth c D cI cZ cC base fa Q C E H locs lsA hH hL
  subst hq
  exact lv_sipush C.1 C.2.1 hd hn k1
theorem J.lconst {l : Launch} {own : String} {cc : ByteArray} {nL : Nat} {rt : Option FieldType} {d kc ks : Nat} {fi : Bool} {F : Nat × (Int → Int)} {Post : Option VT → Shp → Mm → Prop} {a b pc : Nat} {ls : List (Option VT)} {st : List VT} {S : Shp} {iv : Mm} {n : Fin 2} {z : Int} {q : Nat} (hd : decode cc pc = .ok (.lconst n, 1)) (hn : Int64.ofNat (n : Nat) = Int64.ofInt z) (k : J l own cc nL rt d kc ks fi F Post a b q ls (l_ z :: st) S iv)(hq : pc + 1 = q) : J l own cc nL rt d kc ks fi F Post a b pc ls st S iv := by
  intro p e s m args below meth c D cI cZ cC base fa Q C E H locs lsA hH hL
  have k1 := k p e s m args below meth c D cI cZ cC base fa Q C E H locs lsA hH hL
  subst hq
  exact lv_lconst C.1 C.2.1 hd hn k1
theorem J.ldc {l : Launch} {own : String} {cc : ByteArray} {nL : Nat} {rt : Option FieldType} {d kc ks : Nat} {fi : Bool} {F : Nat × (Int → Int)} {Post : Option VT → Shp → Mm → Prop} {a b pc : Nat} {ls : List (Option VT)} {st : List VT} {S : Shp} {iv : Mm} {z : Int} {ix q : Nat} (hd : decode cc pc = .ok (.ldc ix, 2)) (hw : Cond.constant own ix (Int32.ofInt z) ∈ gtb) (k : J l own cc nL rt d kc ks fi F Post a b q ls (i_ z :: st) S iv)(hq : pc + 2 = q) : J l own cc nL rt d kc ks fi F Post a b pc ls st S iv := by
  intro p e s m args below meth c D cI cZ cC base fa Q C E H locs lsA hH hL
  have k1 := k p e s m args below meth c D cI cZ cC base fa Q C E H locs lsA hH hL
  subst hq
  exact lv_ldc C.1 C.2.1 C.2.2.2.2.1 (C.2.2.2.2.2.1 _ hw) hd k1
theorem J.ldcw {l : Launch} {own : String} {cc : ByteArray} {nL : Nat} {rt : Option FieldType} {d kc ks : Nat} {fi : Bool} {F : Nat × (Int → Int)} {Post : Option VT → Shp → Mm → Prop} {a b pc : Nat} {ls : List (Option VT)} {st : List VT} {S : Shp} {iv : Mm} {z : Int} {ix q : Nat} (hd : decode cc pc = .ok (.ldc_w ix, 3)) (hw : Cond.constant own ix (Int32.ofInt z) ∈ gtb) (k : J l own cc nL rt d kc ks fi F Post a b q ls (i_ z :: st) S iv)(hq : pc + 3 = q) : J l own cc nL rt d kc ks fi F Post a b pc ls st S iv := by
  intro p e s m args below meth c D cI cZ cC base fa Q C E H locs lsA hH hL
  have k1 := k p e s m args below meth c D cI cZ cC base fa Q C E H locs lsA hH hL
  subst hq
  exact lv_ldcw C.1 C.2.1 C.2.2.2.2.1 (C.2.2.2.2.2.1 _ hw) hd k1
theorem J.ldc2 {l : Launch} {own : String} {cc : ByteArray} {nL : Nat} {rt : Option FieldType} {d kc ks : Nat} {fi : Bool} {F : Nat × (Int → Int)} {Post : Option VT → Shp → Mm → Prop} {a b pc : Nat} {ls : List (Option VT)} {st : List VT} {S : Shp} {iv : Mm} {z : Int} {ix q : Nat} (hd : decode cc pc = .ok (.ldc2_w ix, 3)) (hw : Cond.constantLong own ix (Int64.ofInt z) ∈ gtb) (k : J l own cc nL rt d kc ks fi F Post a b q ls (l_ z :: st) S iv)(hq : pc + 3 = q) : J l own cc nL rt d kc ks fi F Post a b pc ls st S iv := by
  intro p e s m args below meth c D cI cZ cC base fa Q C E H locs lsA hH hL
  have k1 := k p e s m args below meth c D cI cZ cC base fa Q C E H locs lsA hH hL
  subst hq
  exact lv_ldc2 C.1 C.2.1 C.2.2.2.2.1 (C.2.2.2.2.2.1 _ hw) hd k1
theorem J.ldcS {l : Launch} {own : String} {cc : ByteArray} {nL : Nat} {rt : Option FieldType} {d kc ks : Nat} {fi : Bool} {F : Nat × (Int → Int)} {Post : Option VT → Shp → Mm → Prop} {a b pc : Nat} {ls : List (Option VT)} {st : List VT} {S : Shp} {iv : Mm} {i ix q : Nat} (hd : decode cc pc = .ok (.ldc ix, 2)) (hi : i < 16) (hx : (sK.getD i (0, "")).1 = ix) (ho : own = RX3) (k : J l own cc nL rt d kc ks fi F Post a b q ls (r_ (1100 + i) :: st) S iv)(hq : pc + 2 = q) : J l own cc nL rt d kc ks fi F Post a b pc ls st S iv := by
  intro p e s m args below meth c D cI cZ cC base fa Q C E H locs lsA hH hL
  have k1 := k p e s m args below meth c D cI cZ cC base fa Q C E H locs lsA hH hL
  subst hq hx ho
  have hF := C.2.2.2.2.2.2.2.2.2.1.2.2.2.2.2.2.2.1 i hi
  have e1 : adr base fa (1100 + i) = fa (100 + i) := by rw [adr, if_neg (by omega), show 1100 + i - 1000 = 100 + i by omega]
  refine va_ldcS C.1 C.2.1 C.2.2.2.2.1 hF hd ?_
  rw [← e1]
  exact k1
theorem J.iload {l : Launch} {own : String} {cc : ByteArray} {nL : Nat} {rt : Option FieldType} {d kc ks : Nat} {fi : Bool} {F : Nat × (Int → Int)} {Post : Option VT → Shp → Mm → Prop} {a b pc : Nat} {ls : List (Option VT)} {st : List VT} {S : Shp} {iv : Mm} {i : Nat} {x : Int} {q : Nat} (hd : decode cc pc = .ok (.iload i, 2)) (hl : lget ls i = some (i_ x)) (k : J l own cc nL rt d kc ks fi F Post a b q ls (i_ x :: st) S iv)(hq : pc + 2 = q) : J l own cc nL rt d kc ks fi F Post a b pc ls st S iv := by
  intro p e s m args below meth c D cI cZ cC base fa Q C E H locs lsA hH hL
  have k1 := k p e s m args below meth c D cI cZ cC base fa Q C E H locs lsA hH hL
  subst hq
  exact lv_iload C.1 C.2.1 hd (hL.at hl) k1
theorem J.iload_n {l : Launch} {own : String} {cc : ByteArray} {nL : Nat} {rt : Option FieldType} {d kc ks : Nat} {fi : Bool} {F : Nat × (Int → Int)} {Post : Option VT → Shp → Mm → Prop} {a b pc : Nat} {ls : List (Option VT)} {st : List VT} {S : Shp} {iv : Mm} {i : Fin 4} {x : Int} {q : Nat} (hd : decode cc pc = .ok (.iload_n i, 1)) (hl : lget ls i = some (i_ x)) (k : J l own cc nL rt d kc ks fi F Post a b q ls (i_ x :: st) S iv)(hq : pc + 1 = q) : J l own cc nL rt d kc ks fi F Post a b pc ls st S iv := by
  intro p e s m args below meth c D cI cZ cC base fa Q C E H locs lsA hH hL
  have k1 := k p e s m args below meth c D cI cZ cC base fa Q C E H locs lsA hH hL
  subst hq
  exact lv_iload_n C.1 C.2.1 hd rfl (hL.at hl) k1
theorem J.lload {l : Launch} {own : String} {cc : ByteArray} {nL : Nat} {rt : Option FieldType} {d kc ks : Nat} {fi : Bool} {F : Nat × (Int → Int)} {Post : Option VT → Shp → Mm → Prop} {a b pc : Nat} {ls : List (Option VT)} {st : List VT} {S : Shp} {iv : Mm} {i : Nat} {x : Int} {q : Nat} (hd : decode cc pc = .ok (.lload i, 2)) (hl : lget ls i = some (l_ x)) (k : J l own cc nL rt d kc ks fi F Post a b q ls (l_ x :: st) S iv)(hq : pc + 2 = q) : J l own cc nL rt d kc ks fi F Post a b pc ls st S iv := by
  intro p e s m args below meth c D cI cZ cC base fa Q C E H locs lsA hH hL
  have k1 := k p e s m args below meth c D cI cZ cC base fa Q C E H locs lsA hH hL
  subst hq
  exact lv_lload C.1 C.2.1 hd (hL.at hl) k1
theorem J.lload_n {l : Launch} {own : String} {cc : ByteArray} {nL : Nat} {rt : Option FieldType} {d kc ks : Nat} {fi : Bool} {F : Nat × (Int → Int)} {Post : Option VT → Shp → Mm → Prop} {a b pc : Nat} {ls : List (Option VT)} {st : List VT} {S : Shp} {iv : Mm} {i : Fin 4} {x : Int} {q : Nat} (hd : decode cc pc = .ok (.lload_n i, 1)) (hl : lget ls i = some (l_ x)) (k : J l own cc nL rt d kc ks fi F Post a b q ls (l_ x :: st) S iv)(hq : pc + 1 = q) : J l own cc nL rt d kc ks fi F Post a b pc ls st S iv := by
  intro p e s m args below meth c D cI cZ cC base fa Q C E H locs lsA hH hL
  have k1 := k p e s m args below meth c D cI cZ cC base fa Q C E H locs lsA hH hL
  subst hq
  exact lv_lload_n C.1 C.2.1 hd rfl (hL.at hl) k1
theorem J.aload {l : Launch} {own : String} {cc : ByteArray} {nL : Nat} {rt : Option FieldType} {d kc ks : Nat} {fi : Bool} {F : Nat × (Int → Int)} {Post : Option VT → Shp → Mm → Prop} {a b pc : Nat} {ls : List (Option VT)} {st : List VT} {S : Shp} {iv : Mm} {i : Nat} {x : Nat} {q : Nat} (hd : decode cc pc = .ok (.aload i, 2)) (hl : lget ls i = some (r_ x)) (k : J l own cc nL rt d kc ks fi F Post a b q ls (r_ x :: st) S iv)(hq : pc + 2 = q) : J l own cc nL rt d kc ks fi F Post a b pc ls st S iv := by
  intro p e s m args below meth c D cI cZ cC base fa Q C E H locs lsA hH hL
  have k1 := k p e s m args below meth c D cI cZ cC base fa Q C E H locs lsA hH hL
  subst hq
  exact lv_aload C.1 C.2.1 hd (hL.at hl) k1
theorem J.aload_n {l : Launch} {own : String} {cc : ByteArray} {nL : Nat} {rt : Option FieldType} {d kc ks : Nat} {fi : Bool} {F : Nat × (Int → Int)} {Post : Option VT → Shp → Mm → Prop} {a b pc : Nat} {ls : List (Option VT)} {st : List VT} {S : Shp} {iv : Mm} {i : Fin 4} {x : Nat} {q : Nat} (hd : decode cc pc = .ok (.aload_n i, 1)) (hl : lget ls i = some (r_ x)) (k : J l own cc nL rt d kc ks fi F Post a b q ls (r_ x :: st) S iv)(hq : pc + 1 = q) : J l own cc nL rt d kc ks fi F Post a b pc ls st S iv := by
  intro p e s m args below meth c D cI cZ cC base fa Q C E H locs lsA hH hL
  have k1 := k p e s m args below meth c D cI cZ cC base fa Q C E H locs lsA hH hL
  subst hq
  exact lv_aload_n C.1 C.2.1 hd rfl (hL.at hl) k1
theorem J.istore {l : Launch} {own : String} {cc : ByteArray} {nL : Nat} {rt : Option FieldType} {d kc ks : Nat} {fi : Bool} {F : Nat × (Int → Int)} {Post : Option VT → Shp → Mm → Prop} {a b pc : Nat} {ls : List (Option VT)} {st : List VT} {S : Shp} {iv : Mm} {i : Nat} {x : Int} {q : Nat} (hd : decode cc pc = .ok (.istore i, 2)) (hi : i < ls.length) (k : J l own cc nL rt d kc ks fi F Post a b q (lset ls i (i_ x)) st S iv)(hq : pc + 2 = q) : J l own cc nL rt d kc ks fi F Post a b pc ls (i_ x :: st) S iv := by
  intro p e s m args below meth c D cI cZ cC base fa Q C E H locs lsA hH hL
  have hi2 := hi
  rw [hL.1] at hi2
  subst hq
  exact lv_istore C.1 C.2.1 hd hL.2 hi2 rfl fun lsB hB => k p e s m args below meth c D cI cZ cC base fa Q C E H locs lsB hH (hL.st (v := i_ x) hB)
theorem J.istore_n {l : Launch} {own : String} {cc : ByteArray} {nL : Nat} {rt : Option FieldType} {d kc ks : Nat} {fi : Bool} {F : Nat × (Int → Int)} {Post : Option VT → Shp → Mm → Prop} {a b pc : Nat} {ls : List (Option VT)} {st : List VT} {S : Shp} {iv : Mm} {i : Fin 4} {x : Int} {q : Nat} (hd : decode cc pc = .ok (.istore_n i, 1)) (hi : (i : Nat) < ls.length) (k : J l own cc nL rt d kc ks fi F Post a b q (lset ls i (i_ x)) st S iv)(hq : pc + 1 = q) : J l own cc nL rt d kc ks fi F Post a b pc ls (i_ x :: st) S iv := by
  intro p e s m args below meth c D cI cZ cC base fa Q C E H locs lsA hH hL
  have hi2 := hi
  rw [hL.1] at hi2
  subst hq
  exact lv_istore_n C.1 C.2.1 hd rfl hL.2 hi2 rfl fun lsB hB => k p e s m args below meth c D cI cZ cC base fa Q C E H locs lsB hH (hL.st (v := i_ x) hB)
theorem J.astore {l : Launch} {own : String} {cc : ByteArray} {nL : Nat} {rt : Option FieldType} {d kc ks : Nat} {fi : Bool} {F : Nat × (Int → Int)} {Post : Option VT → Shp → Mm → Prop} {a b pc : Nat} {ls : List (Option VT)} {st : List VT} {S : Shp} {iv : Mm} {i : Nat} {x : Nat} {q : Nat} (hd : decode cc pc = .ok (.astore i, 2)) (hi : i < ls.length) (k : J l own cc nL rt d kc ks fi F Post a b q (lset ls i (r_ x)) st S iv)(hq : pc + 2 = q) : J l own cc nL rt d kc ks fi F Post a b pc ls (r_ x :: st) S iv := by
  intro p e s m args below meth c D cI cZ cC base fa Q C E H locs lsA hH hL
  have hi2 := hi
  rw [hL.1] at hi2
  subst hq
  exact lv_astore C.1 C.2.1 hd hL.2 hi2 rfl fun lsB hB => k p e s m args below meth c D cI cZ cC base fa Q C E H locs lsB hH (hL.st (v := r_ x) hB)
theorem J.astore_n {l : Launch} {own : String} {cc : ByteArray} {nL : Nat} {rt : Option FieldType} {d kc ks : Nat} {fi : Bool} {F : Nat × (Int → Int)} {Post : Option VT → Shp → Mm → Prop} {a b pc : Nat} {ls : List (Option VT)} {st : List VT} {S : Shp} {iv : Mm} {i : Fin 4} {x : Nat} {q : Nat} (hd : decode cc pc = .ok (.astore_n i, 1)) (hi : (i : Nat) < ls.length) (k : J l own cc nL rt d kc ks fi F Post a b q (lset ls i (r_ x)) st S iv)(hq : pc + 1 = q) : J l own cc nL rt d kc ks fi F Post a b pc ls (r_ x :: st) S iv := by
  intro p e s m args below meth c D cI cZ cC base fa Q C E H locs lsA hH hL
  have hi2 := hi
  rw [hL.1] at hi2
  subst hq
  exact lv_astore_n C.1 C.2.1 hd rfl hL.2 hi2 rfl fun lsB hB => k p e s m args below meth c D cI cZ cC base fa Q C E H locs lsB hH (hL.st (v := r_ x) hB)
theorem J.lstore {l : Launch} {own : String} {cc : ByteArray} {nL : Nat} {rt : Option FieldType} {d kc ks : Nat} {fi : Bool} {F : Nat × (Int → Int)} {Post : Option VT → Shp → Mm → Prop} {a b pc : Nat} {ls : List (Option VT)} {st : List VT} {S : Shp} {iv : Mm} {i : Nat} {x : Int} {q : Nat} (hd : decode cc pc = .ok (.lstore i, 2)) (hi : i + 1 < ls.length) (k : J l own cc nL rt d kc ks fi F Post a b q (lclr (lset ls i (l_ x)) (i + 1)) st S iv)(hq : pc + 2 = q) : J l own cc nL rt d kc ks fi F Post a b pc ls (l_ x :: st) S iv := by
  intro p e s m args below meth c D cI cZ cC base fa Q C E H locs lsA hH hL
  have hi2 := hi
  rw [hL.1] at hi2
  subst hq
  exact lv_lstore C.1 C.2.1 hd hL.2 hi2 rfl fun lsB hB => k p e s m args below meth c D cI cZ cC base fa Q C E H locs lsB hH (hL.st2 (v := l_ x) hB)
theorem J.lstore_n {l : Launch} {own : String} {cc : ByteArray} {nL : Nat} {rt : Option FieldType} {d kc ks : Nat} {fi : Bool} {F : Nat × (Int → Int)} {Post : Option VT → Shp → Mm → Prop} {a b pc : Nat} {ls : List (Option VT)} {st : List VT} {S : Shp} {iv : Mm} {i : Fin 4} {x : Int} {q : Nat} (hd : decode cc pc = .ok (.lstore_n i, 1)) (hi : (i : Nat) + 1 < ls.length) (k : J l own cc nL rt d kc ks fi F Post a b q (lclr (lset ls i (l_ x)) (i + 1)) st S iv)(hq : pc + 1 = q) : J l own cc nL rt d kc ks fi F Post a b pc ls (l_ x :: st) S iv := by
  intro p e s m args below meth c D cI cZ cC base fa Q C E H locs lsA hH hL
  have hi2 := hi
  rw [hL.1] at hi2
  subst hq
  exact lv_lstore_n C.1 C.2.1 hd rfl hL.2 hi2 rfl fun lsB hB => k p e s m args below meth c D cI cZ cC base fa Q C E H locs lsB hH (hL.st2 (v := l_ x) hB)
theorem J.iinc {l : Launch} {own : String} {cc : ByteArray} {nL : Nat} {rt : Option FieldType} {d kc ks : Nat} {fi : Bool} {F : Nat × (Int → Int)} {Post : Option VT → Shp → Mm → Prop} {a b pc : Nat} {ls : List (Option VT)} {st : List VT} {S : Shp} {iv : Mm} {i : Nat} {n x : Int} {q : Nat} (hd : decode cc pc = .ok (.iinc i n, 3)) (hl : lget ls i = some (i_ x)) (k : J l own cc nL rt d kc ks fi F Post a b q (lset ls i (i_ (x + n))) st S iv)(hq : pc + 3 = q) : J l own cc nL rt d kc ks fi F Post a b pc ls st S iv := by
  intro p e s m args below meth c D cI cZ cC base fa Q C E H locs lsA hH hL
  have hi2 : i < nL := by rw [← hL.1]; exact lget_lt ls i hl
  subst hq
  obtain ⟨j, hj⟩ := List.getElem?_of_mem ((lvl_mem (base := base) (fa := fa) (q := (i, .int (Int32.ofInt x))) ls 0).mpr ⟨i, i_ x, hl, by rw [Nat.zero_add]; rfl⟩)
  have hj2 : (lvl base fa 0 ls)[j]? = some (i, .int (Int32.ofInt x)) := hj
  exact lv_iinc (v := Int32.ofInt (x + n)) C.1 C.2.1 hd hL.2 hj2 (Int32.ofInt_add _ _).symm hi2 rfl fun lsB hB => k p e s m args below meth c D cI cZ cC base fa Q C E H locs lsB hH (hL.st (v := i_ (x + n)) hB)
theorem J.iadd {l : Launch} {own : String} {cc : ByteArray} {nL : Nat} {rt : Option FieldType} {d kc ks : Nat} {fi : Bool} {F : Nat × (Int → Int)} {Post : Option VT → Shp → Mm → Prop} {a b pc : Nat} {ls : List (Option VT)} {st : List VT} {S : Shp} {iv : Mm} {x y : Int} {q : Nat} (hd : decode cc pc = .ok (.iadd, 1))  (k : J l own cc nL rt d kc ks fi F Post a b q ls (i_ (x + y) :: st) S iv)(hq : pc + 1 = q) : J l own cc nL rt d kc ks fi F Post a b pc ls (i_ y :: i_ x :: st) S iv := by
  intro p e s m args below meth c D cI cZ cC base fa Q C E H locs lsA hH hL
  have k1 := k p e s m args below meth c D cI cZ cC base fa Q C E H locs lsA hH hL
  subst hq
  have e1 : wV base fa (i_ (x + y)) = .int (Int32.ofInt x + Int32.ofInt y) := by rw [wV, Int32.ofInt_add]
  rw [List.map_cons, e1] at k1
  exact lv_iadd C.1 C.2.1 hd k1
theorem J.isub {l : Launch} {own : String} {cc : ByteArray} {nL : Nat} {rt : Option FieldType} {d kc ks : Nat} {fi : Bool} {F : Nat × (Int → Int)} {Post : Option VT → Shp → Mm → Prop} {a b pc : Nat} {ls : List (Option VT)} {st : List VT} {S : Shp} {iv : Mm} {x y : Int} {q : Nat} (hd : decode cc pc = .ok (.isub, 1))  (k : J l own cc nL rt d kc ks fi F Post a b q ls (i_ (x - y) :: st) S iv)(hq : pc + 1 = q) : J l own cc nL rt d kc ks fi F Post a b pc ls (i_ y :: i_ x :: st) S iv := by
  intro p e s m args below meth c D cI cZ cC base fa Q C E H locs lsA hH hL
  have k1 := k p e s m args below meth c D cI cZ cC base fa Q C E H locs lsA hH hL
  subst hq
  have e1 : wV base fa (i_ (x - y)) = .int (Int32.ofInt x - Int32.ofInt y) := by rw [wV, Int32.ofInt_sub]
  rw [List.map_cons, e1] at k1
  exact lv_isub C.1 C.2.1 hd k1
theorem J.imul {l : Launch} {own : String} {cc : ByteArray} {nL : Nat} {rt : Option FieldType} {d kc ks : Nat} {fi : Bool} {F : Nat × (Int → Int)} {Post : Option VT → Shp → Mm → Prop} {a b pc : Nat} {ls : List (Option VT)} {st : List VT} {S : Shp} {iv : Mm} {x y : Int} {q : Nat} (hd : decode cc pc = .ok (.imul, 1))  (k : J l own cc nL rt d kc ks fi F Post a b q ls (i_ (x * y) :: st) S iv)(hq : pc + 1 = q) : J l own cc nL rt d kc ks fi F Post a b pc ls (i_ y :: i_ x :: st) S iv := by
  intro p e s m args below meth c D cI cZ cC base fa Q C E H locs lsA hH hL
  have k1 := k p e s m args below meth c D cI cZ cC base fa Q C E H locs lsA hH hL
  subst hq
  have e1 : wV base fa (i_ (x * y)) = .int (Int32.ofInt x * Int32.ofInt y) := by rw [wV, Int32.ofInt_mul]
  rw [List.map_cons, e1] at k1
  exact lv_imul C.1 C.2.1 hd k1
theorem J.ladd {l : Launch} {own : String} {cc : ByteArray} {nL : Nat} {rt : Option FieldType} {d kc ks : Nat} {fi : Bool} {F : Nat × (Int → Int)} {Post : Option VT → Shp → Mm → Prop} {a b pc : Nat} {ls : List (Option VT)} {st : List VT} {S : Shp} {iv : Mm} {x y : Int} {q : Nat} (hd : decode cc pc = .ok (.ladd, 1))  (k : J l own cc nL rt d kc ks fi F Post a b q ls (l_ (x + y) :: st) S iv)(hq : pc + 1 = q) : J l own cc nL rt d kc ks fi F Post a b pc ls (l_ y :: l_ x :: st) S iv := by
  intro p e s m args below meth c D cI cZ cC base fa Q C E H locs lsA hH hL
  have k1 := k p e s m args below meth c D cI cZ cC base fa Q C E H locs lsA hH hL
  subst hq
  have e1 : wV base fa (l_ (x + y)) = .long (Int64.ofInt x + Int64.ofInt y) := by rw [wV, Int64.ofInt_add]
  rw [List.map_cons, e1] at k1
  exact lv_ladd C.1 C.2.1 hd k1
theorem J.lsub {l : Launch} {own : String} {cc : ByteArray} {nL : Nat} {rt : Option FieldType} {d kc ks : Nat} {fi : Bool} {F : Nat × (Int → Int)} {Post : Option VT → Shp → Mm → Prop} {a b pc : Nat} {ls : List (Option VT)} {st : List VT} {S : Shp} {iv : Mm} {x y : Int} {q : Nat} (hd : decode cc pc = .ok (.lsub, 1))  (k : J l own cc nL rt d kc ks fi F Post a b q ls (l_ (x - y) :: st) S iv)(hq : pc + 1 = q) : J l own cc nL rt d kc ks fi F Post a b pc ls (l_ y :: l_ x :: st) S iv := by
  intro p e s m args below meth c D cI cZ cC base fa Q C E H locs lsA hH hL
  have k1 := k p e s m args below meth c D cI cZ cC base fa Q C E H locs lsA hH hL
  subst hq
  have e1 : wV base fa (l_ (x - y)) = .long (Int64.ofInt x - Int64.ofInt y) := by rw [wV, Int64.ofInt_sub]
  rw [List.map_cons, e1] at k1
  exact lv_lsub C.1 C.2.1 hd k1
theorem J.lmul {l : Launch} {own : String} {cc : ByteArray} {nL : Nat} {rt : Option FieldType} {d kc ks : Nat} {fi : Bool} {F : Nat × (Int → Int)} {Post : Option VT → Shp → Mm → Prop} {a b pc : Nat} {ls : List (Option VT)} {st : List VT} {S : Shp} {iv : Mm} {x y : Int} {q : Nat} (hd : decode cc pc = .ok (.lmul, 1))  (k : J l own cc nL rt d kc ks fi F Post a b q ls (l_ (x * y) :: st) S iv)(hq : pc + 1 = q) : J l own cc nL rt d kc ks fi F Post a b pc ls (l_ y :: l_ x :: st) S iv := by
  intro p e s m args below meth c D cI cZ cC base fa Q C E H locs lsA hH hL
  have k1 := k p e s m args below meth c D cI cZ cC base fa Q C E H locs lsA hH hL
  subst hq
  have e1 : wV base fa (l_ (x * y)) = .long (Int64.ofInt x * Int64.ofInt y) := by rw [wV, Int64.ofInt_mul]
  rw [List.map_cons, e1] at k1
  exact lv_lmul C.1 C.2.1 hd k1
theorem J.iand {l : Launch} {own : String} {cc : ByteArray} {nL : Nat} {rt : Option FieldType} {d kc ks : Nat} {fi : Bool} {F : Nat × (Int → Int)} {Post : Option VT → Shp → Mm → Prop} {a b pc : Nat} {ls : List (Option VT)} {st : List VT} {S : Shp} {iv : Mm} {x y z : Int} {q : Nat} (hd : decode cc pc = .ok (.iand, 1)) (hz : Int32.ofInt x &&& Int32.ofInt y = Int32.ofInt z)  (k : J l own cc nL rt d kc ks fi F Post a b q ls (i_ z :: st) S iv)(hq : pc + 1 = q) : J l own cc nL rt d kc ks fi F Post a b pc ls (i_ y :: i_ x :: st) S iv := by
  intro p e s m args below meth c D cI cZ cC base fa Q C E H locs lsA hH hL
  have k1 := k p e s m args below meth c D cI cZ cC base fa Q C E H locs lsA hH hL
  subst hq
  have e1 : wV base fa (i_ z) = .int (Int32.ofInt x &&& Int32.ofInt y) := by rw [hz]; rfl
  rw [List.map_cons, e1] at k1
  exact lv_iand C.1 C.2.1 hd  k1
theorem J.ior {l : Launch} {own : String} {cc : ByteArray} {nL : Nat} {rt : Option FieldType} {d kc ks : Nat} {fi : Bool} {F : Nat × (Int → Int)} {Post : Option VT → Shp → Mm → Prop} {a b pc : Nat} {ls : List (Option VT)} {st : List VT} {S : Shp} {iv : Mm} {x y z : Int} {q : Nat} (hd : decode cc pc = .ok (.ior, 1)) (hz : Int32.ofInt x ||| Int32.ofInt y = Int32.ofInt z)  (k : J l own cc nL rt d kc ks fi F Post a b q ls (i_ z :: st) S iv)(hq : pc + 1 = q) : J l own cc nL rt d kc ks fi F Post a b pc ls (i_ y :: i_ x :: st) S iv := by
  intro p e s m args below meth c D cI cZ cC base fa Q C E H locs lsA hH hL
  have k1 := k p e s m args below meth c D cI cZ cC base fa Q C E H locs lsA hH hL
  subst hq
  have e1 : wV base fa (i_ z) = .int (Int32.ofInt x ||| Int32.ofInt y) := by rw [hz]; rfl
  rw [List.map_cons, e1] at k1
  exact lv_ior C.1 C.2.1 hd  k1
theorem J.ixor {l : Launch} {own : String} {cc : ByteArray} {nL : Nat} {rt : Option FieldType} {d kc ks : Nat} {fi : Bool} {F : Nat × (Int → Int)} {Post : Option VT → Shp → Mm → Prop} {a b pc : Nat} {ls : List (Option VT)} {st : List VT} {S : Shp} {iv : Mm} {x y z : Int} {q : Nat} (hd : decode cc pc = .ok (.ixor, 1)) (hz : Int32.ofInt x ^^^ Int32.ofInt y = Int32.ofInt z)  (k : J l own cc nL rt d kc ks fi F Post a b q ls (i_ z :: st) S iv)(hq : pc + 1 = q) : J l own cc nL rt d kc ks fi F Post a b pc ls (i_ y :: i_ x :: st) S iv := by
  intro p e s m args below meth c D cI cZ cC base fa Q C E H locs lsA hH hL
  have k1 := k p e s m args below meth c D cI cZ cC base fa Q C E H locs lsA hH hL
  subst hq
  have e1 : wV base fa (i_ z) = .int (Int32.ofInt x ^^^ Int32.ofInt y) := by rw [hz]; rfl
  rw [List.map_cons, e1] at k1
  exact lv_ixor C.1 C.2.1 hd  k1
theorem J.ishl {l : Launch} {own : String} {cc : ByteArray} {nL : Nat} {rt : Option FieldType} {d kc ks : Nat} {fi : Bool} {F : Nat × (Int → Int)} {Post : Option VT → Shp → Mm → Prop} {a b pc : Nat} {ls : List (Option VT)} {st : List VT} {S : Shp} {iv : Mm} {x y z : Int} {q : Nat} (hd : decode cc pc = .ok (.ishl, 1)) (hz : Int32.ofInt x <<< (Int32.ofInt y &&& 31) = Int32.ofInt z)  (k : J l own cc nL rt d kc ks fi F Post a b q ls (i_ z :: st) S iv)(hq : pc + 1 = q) : J l own cc nL rt d kc ks fi F Post a b pc ls (i_ y :: i_ x :: st) S iv := by
  intro p e s m args below meth c D cI cZ cC base fa Q C E H locs lsA hH hL
  have k1 := k p e s m args below meth c D cI cZ cC base fa Q C E H locs lsA hH hL
  subst hq
  have e1 : wV base fa (i_ z) = .int (Int32.ofInt x <<< (Int32.ofInt y &&& 31)) := by rw [hz]; rfl
  rw [List.map_cons, e1] at k1
  exact lv_ishl C.1 C.2.1 hd  k1
theorem J.ishr {l : Launch} {own : String} {cc : ByteArray} {nL : Nat} {rt : Option FieldType} {d kc ks : Nat} {fi : Bool} {F : Nat × (Int → Int)} {Post : Option VT → Shp → Mm → Prop} {a b pc : Nat} {ls : List (Option VT)} {st : List VT} {S : Shp} {iv : Mm} {x y z : Int} {q : Nat} (hd : decode cc pc = .ok (.ishr, 1)) (hz : Int32.ofInt x >>> (Int32.ofInt y &&& 31) = Int32.ofInt z)  (k : J l own cc nL rt d kc ks fi F Post a b q ls (i_ z :: st) S iv)(hq : pc + 1 = q) : J l own cc nL rt d kc ks fi F Post a b pc ls (i_ y :: i_ x :: st) S iv := by
  intro p e s m args below meth c D cI cZ cC base fa Q C E H locs lsA hH hL
  have k1 := k p e s m args below meth c D cI cZ cC base fa Q C E H locs lsA hH hL
  subst hq
  have e1 : wV base fa (i_ z) = .int (Int32.ofInt x >>> (Int32.ofInt y &&& 31)) := by rw [hz]; rfl
  rw [List.map_cons, e1] at k1
  exact lv_ishr C.1 C.2.1 hd  k1
theorem J.idiv {l : Launch} {own : String} {cc : ByteArray} {nL : Nat} {rt : Option FieldType} {d kc ks : Nat} {fi : Bool} {F : Nat × (Int → Int)} {Post : Option VT → Shp → Mm → Prop} {a b pc : Nat} {ls : List (Option VT)} {st : List VT} {S : Shp} {iv : Mm} {x y z : Int} {q : Nat} (hd : decode cc pc = .ok (.idiv, 1)) (hz : Int32.ofInt x / Int32.ofInt y = Int32.ofInt z) (hne : ¬ Int32.ofInt y = 0) (k : J l own cc nL rt d kc ks fi F Post a b q ls (i_ z :: st) S iv)(hq : pc + 1 = q) : J l own cc nL rt d kc ks fi F Post a b pc ls (i_ y :: i_ x :: st) S iv := by
  intro p e s m args below meth c D cI cZ cC base fa Q C E H locs lsA hH hL
  have k1 := k p e s m args below meth c D cI cZ cC base fa Q C E H locs lsA hH hL
  subst hq
  have e1 : wV base fa (i_ z) = .int (Int32.ofInt x / Int32.ofInt y) := by rw [hz]; rfl
  rw [List.map_cons, e1] at k1
  exact lv_idiv C.1 C.2.1 hd hne k1
theorem J.irem {l : Launch} {own : String} {cc : ByteArray} {nL : Nat} {rt : Option FieldType} {d kc ks : Nat} {fi : Bool} {F : Nat × (Int → Int)} {Post : Option VT → Shp → Mm → Prop} {a b pc : Nat} {ls : List (Option VT)} {st : List VT} {S : Shp} {iv : Mm} {x y z : Int} {q : Nat} (hd : decode cc pc = .ok (.irem, 1)) (hz : Int32.ofInt x - Int32.ofInt x / Int32.ofInt y * Int32.ofInt y = Int32.ofInt z) (hne : ¬ Int32.ofInt y = 0) (k : J l own cc nL rt d kc ks fi F Post a b q ls (i_ z :: st) S iv)(hq : pc + 1 = q) : J l own cc nL rt d kc ks fi F Post a b pc ls (i_ y :: i_ x :: st) S iv := by
  intro p e s m args below meth c D cI cZ cC base fa Q C E H locs lsA hH hL
  have k1 := k p e s m args below meth c D cI cZ cC base fa Q C E H locs lsA hH hL
  subst hq
  have e1 : wV base fa (i_ z) = .int (Int32.ofInt x - Int32.ofInt x / Int32.ofInt y * Int32.ofInt y) := by rw [hz]; rfl
  rw [List.map_cons, e1] at k1
  exact lv_irem C.1 C.2.1 hd hne k1
theorem J.icmp_eq {l : Launch} {own : String} {cc : ByteArray} {nL : Nat} {rt : Option FieldType} {d kc ks : Nat} {fi : Bool} {F : Nat × (Int → Int)} {Post : Option VT → Shp → Mm → Prop} {a b pc : Nat} {ls : List (Option VT)} {st : List VT} {S : Shp} {iv : Mm} {x y : Int} {off : Int} {tgt q : Nat} (hd : decode cc pc = .ok (.if_icmp .eq off, 3)) (ht : (pc : Int) + off = (tgt : Int)) (hq : pc + 3 = q) (kt : x = y → J l own cc nL rt d kc ks fi F Post a b tgt ls st S iv) (kf : x ≠ y → J l own cc nL rt d kc ks fi F Post a b q ls st S iv) (hv : (-2147483648 ≤ x ∧ x < 2147483648) ∧ (-2147483648 ≤ y ∧ y < 2147483648) := by omega) : J l own cc nL rt d kc ks fi F Post a b pc ls (i_ y :: i_ x :: st) S iv := by
  intro p e s m args below meth c D cI cZ cC base fa Q C E H locs lsA hH hL
  have hX : -2147483648 ≤ x ∧ x < 2147483648 := hv.1
  subst hq
  exact lv_icmp_eq C.1 C.2.1 hd ht (fun h => (kt ((I3_eq hX hv.2).mp h)) p e s m args below meth c D cI cZ cC base fa Q C E H locs lsA hH hL) (fun h => (kf (fun q => h (by rw [q] <;> rfl))) p e s m args below meth c D cI cZ cC base fa Q C E H locs lsA hH hL)
theorem J.if_eq {l : Launch} {own : String} {cc : ByteArray} {nL : Nat} {rt : Option FieldType} {d kc ks : Nat} {fi : Bool} {F : Nat × (Int → Int)} {Post : Option VT → Shp → Mm → Prop} {a b pc : Nat} {ls : List (Option VT)} {st : List VT} {S : Shp} {iv : Mm} {x : Int} {off : Int} {tgt q : Nat} (hd : decode cc pc = .ok (.ifCond .eq off, 3)) (ht : (pc : Int) + off = (tgt : Int)) (hq : pc + 3 = q) (kt : x = 0 → J l own cc nL rt d kc ks fi F Post a b tgt ls st S iv) (kf : x ≠ 0 → J l own cc nL rt d kc ks fi F Post a b q ls st S iv) (hv : (-2147483648 ≤ x ∧ x < 2147483648) := by omega) : J l own cc nL rt d kc ks fi F Post a b pc ls (i_ x :: st) S iv := by
  intro p e s m args below meth c D cI cZ cC base fa Q C E H locs lsA hH hL
  have hX : -2147483648 ≤ x ∧ x < 2147483648 := hv
  subst hq
  exact lv_if_eq C.1 C.2.1 hd ht (fun h => (kt ((I3_eq hX (show -2147483648 ≤ (0 : Int) ∧ (0 : Int) < 2147483648 by omega)).mp h)) p e s m args below meth c D cI cZ cC base fa Q C E H locs lsA hH hL) (fun h => (kf (fun q => h (by rw [q] <;> rfl))) p e s m args below meth c D cI cZ cC base fa Q C E H locs lsA hH hL)
theorem J.icmp_ne {l : Launch} {own : String} {cc : ByteArray} {nL : Nat} {rt : Option FieldType} {d kc ks : Nat} {fi : Bool} {F : Nat × (Int → Int)} {Post : Option VT → Shp → Mm → Prop} {a b pc : Nat} {ls : List (Option VT)} {st : List VT} {S : Shp} {iv : Mm} {x y : Int} {off : Int} {tgt q : Nat} (hd : decode cc pc = .ok (.if_icmp .ne off, 3)) (ht : (pc : Int) + off = (tgt : Int)) (hq : pc + 3 = q) (kt : x ≠ y → J l own cc nL rt d kc ks fi F Post a b tgt ls st S iv) (kf : x = y → J l own cc nL rt d kc ks fi F Post a b q ls st S iv) (hv : (-2147483648 ≤ x ∧ x < 2147483648) ∧ (-2147483648 ≤ y ∧ y < 2147483648) := by omega) : J l own cc nL rt d kc ks fi F Post a b pc ls (i_ y :: i_ x :: st) S iv := by
  intro p e s m args below meth c D cI cZ cC base fa Q C E H locs lsA hH hL
  have hX : -2147483648 ≤ x ∧ x < 2147483648 := hv.1
  subst hq
  exact lv_icmp_ne C.1 C.2.1 hd ht (fun h => (kt (fun q => h (by rw [q] <;> rfl))) p e s m args below meth c D cI cZ cC base fa Q C E H locs lsA hH hL) (fun h => (kf ((I3_eq hX hv.2).mp h)) p e s m args below meth c D cI cZ cC base fa Q C E H locs lsA hH hL)
theorem J.if_ne {l : Launch} {own : String} {cc : ByteArray} {nL : Nat} {rt : Option FieldType} {d kc ks : Nat} {fi : Bool} {F : Nat × (Int → Int)} {Post : Option VT → Shp → Mm → Prop} {a b pc : Nat} {ls : List (Option VT)} {st : List VT} {S : Shp} {iv : Mm} {x : Int} {off : Int} {tgt q : Nat} (hd : decode cc pc = .ok (.ifCond .ne off, 3)) (ht : (pc : Int) + off = (tgt : Int)) (hq : pc + 3 = q) (kt : x ≠ 0 → J l own cc nL rt d kc ks fi F Post a b tgt ls st S iv) (kf : x = 0 → J l own cc nL rt d kc ks fi F Post a b q ls st S iv) (hv : (-2147483648 ≤ x ∧ x < 2147483648) := by omega) : J l own cc nL rt d kc ks fi F Post a b pc ls (i_ x :: st) S iv := by
  intro p e s m args below meth c D cI cZ cC base fa Q C E H locs lsA hH hL
  have hX : -2147483648 ≤ x ∧ x < 2147483648 := hv
  subst hq
  exact lv_if_ne C.1 C.2.1 hd ht (fun h => (kt (fun q => h (by rw [q] <;> rfl))) p e s m args below meth c D cI cZ cC base fa Q C E H locs lsA hH hL) (fun h => (kf ((I3_eq hX (show -2147483648 ≤ (0 : Int) ∧ (0 : Int) < 2147483648 by omega)).mp h)) p e s m args below meth c D cI cZ cC base fa Q C E H locs lsA hH hL)
theorem J.icmp_lt {l : Launch} {own : String} {cc : ByteArray} {nL : Nat} {rt : Option FieldType} {d kc ks : Nat} {fi : Bool} {F : Nat × (Int → Int)} {Post : Option VT → Shp → Mm → Prop} {a b pc : Nat} {ls : List (Option VT)} {st : List VT} {S : Shp} {iv : Mm} {x y : Int} {off : Int} {tgt q : Nat} (hd : decode cc pc = .ok (.if_icmp .lt off, 3)) (ht : (pc : Int) + off = (tgt : Int)) (hq : pc + 3 = q) (kt : x < y → J l own cc nL rt d kc ks fi F Post a b tgt ls st S iv) (kf : y ≤ x → J l own cc nL rt d kc ks fi F Post a b q ls st S iv) (hv : (-2147483648 ≤ x ∧ x < 2147483648) ∧ (-2147483648 ≤ y ∧ y < 2147483648) := by omega) : J l own cc nL rt d kc ks fi F Post a b pc ls (i_ y :: i_ x :: st) S iv := by
  intro p e s m args below meth c D cI cZ cC base fa Q C E H locs lsA hH hL
  have hX : -2147483648 ≤ x ∧ x < 2147483648 := hv.1
  subst hq
  exact lv_icmp_lt C.1 C.2.1 hd ht (fun h => (kt ((I3_lt hX hv.2).mp h)) p e s m args below meth c D cI cZ cC base fa Q C E H locs lsA hH hL) (fun h => (kf (Int.not_lt.mp (fun q => h ((I3_lt hX hv.2).mpr q)))) p e s m args below meth c D cI cZ cC base fa Q C E H locs lsA hH hL)
theorem J.if_lt {l : Launch} {own : String} {cc : ByteArray} {nL : Nat} {rt : Option FieldType} {d kc ks : Nat} {fi : Bool} {F : Nat × (Int → Int)} {Post : Option VT → Shp → Mm → Prop} {a b pc : Nat} {ls : List (Option VT)} {st : List VT} {S : Shp} {iv : Mm} {x : Int} {off : Int} {tgt q : Nat} (hd : decode cc pc = .ok (.ifCond .lt off, 3)) (ht : (pc : Int) + off = (tgt : Int)) (hq : pc + 3 = q) (kt : x < 0 → J l own cc nL rt d kc ks fi F Post a b tgt ls st S iv) (kf : 0 ≤ x → J l own cc nL rt d kc ks fi F Post a b q ls st S iv) (hv : (-2147483648 ≤ x ∧ x < 2147483648) := by omega) : J l own cc nL rt d kc ks fi F Post a b pc ls (i_ x :: st) S iv := by
  intro p e s m args below meth c D cI cZ cC base fa Q C E H locs lsA hH hL
  have hX : -2147483648 ≤ x ∧ x < 2147483648 := hv
  subst hq
  exact lv_if_lt C.1 C.2.1 hd ht (fun h => (kt ((I3_lt hX (show -2147483648 ≤ (0 : Int) ∧ (0 : Int) < 2147483648 by omega)).mp h)) p e s m args below meth c D cI cZ cC base fa Q C E H locs lsA hH hL) (fun h => (kf (Int.not_lt.mp (fun q => h ((I3_lt hX (show -2147483648 ≤ (0 : Int) ∧ (0 : Int) < 2147483648 by omega)).mpr q)))) p e s m args below meth c D cI cZ cC base fa Q C E H locs lsA hH hL)
theorem J.icmp_ge {l : Launch} {own : String} {cc : ByteArray} {nL : Nat} {rt : Option FieldType} {d kc ks : Nat} {fi : Bool} {F : Nat × (Int → Int)} {Post : Option VT → Shp → Mm → Prop} {a b pc : Nat} {ls : List (Option VT)} {st : List VT} {S : Shp} {iv : Mm} {x y : Int} {off : Int} {tgt q : Nat} (hd : decode cc pc = .ok (.if_icmp .ge off, 3)) (ht : (pc : Int) + off = (tgt : Int)) (hq : pc + 3 = q) (kt : y ≤ x → J l own cc nL rt d kc ks fi F Post a b tgt ls st S iv) (kf : x < y → J l own cc nL rt d kc ks fi F Post a b q ls st S iv) (hv : (-2147483648 ≤ x ∧ x < 2147483648) ∧ (-2147483648 ≤ y ∧ y < 2147483648) := by omega) : J l own cc nL rt d kc ks fi F Post a b pc ls (i_ y :: i_ x :: st) S iv := by
  intro p e s m args below meth c D cI cZ cC base fa Q C E H locs lsA hH hL
  have hX : -2147483648 ≤ x ∧ x < 2147483648 := hv.1
  subst hq
  exact lv_icmp_ge C.1 C.2.1 hd ht (fun h => (kt ((I3_le hv.2 hX).mp h)) p e s m args below meth c D cI cZ cC base fa Q C E H locs lsA hH hL) (fun h => (kf (Int.not_le.mp (fun q => h ((I3_le hv.2 hX).mpr q)))) p e s m args below meth c D cI cZ cC base fa Q C E H locs lsA hH hL)
theorem J.if_ge {l : Launch} {own : String} {cc : ByteArray} {nL : Nat} {rt : Option FieldType} {d kc ks : Nat} {fi : Bool} {F : Nat × (Int → Int)} {Post : Option VT → Shp → Mm → Prop} {a b pc : Nat} {ls : List (Option VT)} {st : List VT} {S : Shp} {iv : Mm} {x : Int} {off : Int} {tgt q : Nat} (hd : decode cc pc = .ok (.ifCond .ge off, 3)) (ht : (pc : Int) + off = (tgt : Int)) (hq : pc + 3 = q) (kt : 0 ≤ x → J l own cc nL rt d kc ks fi F Post a b tgt ls st S iv) (kf : x < 0 → J l own cc nL rt d kc ks fi F Post a b q ls st S iv) (hv : (-2147483648 ≤ x ∧ x < 2147483648) := by omega) : J l own cc nL rt d kc ks fi F Post a b pc ls (i_ x :: st) S iv := by
  intro p e s m args below meth c D cI cZ cC base fa Q C E H locs lsA hH hL
  have hX : -2147483648 ≤ x ∧ x < 2147483648 := hv
  subst hq
  exact lv_if_ge C.1 C.2.1 hd ht (fun h => (kt ((I3_le (show -2147483648 ≤ (0 : Int) ∧ (0 : Int) < 2147483648 by omega) hX).mp h)) p e s m args below meth c D cI cZ cC base fa Q C E H locs lsA hH hL) (fun h => (kf (Int.not_le.mp (fun q => h ((I3_le (show -2147483648 ≤ (0 : Int) ∧ (0 : Int) < 2147483648 by omega) hX).mpr q)))) p e s m args below meth c D cI cZ cC base fa Q C E H locs lsA hH hL)
theorem J.icmp_gt {l : Launch} {own : String} {cc : ByteArray} {nL : Nat} {rt : Option FieldType} {d kc ks : Nat} {fi : Bool} {F : Nat × (Int → Int)} {Post : Option VT → Shp → Mm → Prop} {a b pc : Nat} {ls : List (Option VT)} {st : List VT} {S : Shp} {iv : Mm} {x y : Int} {off : Int} {tgt q : Nat} (hd : decode cc pc = .ok (.if_icmp .gt off, 3)) (ht : (pc : Int) + off = (tgt : Int)) (hq : pc + 3 = q) (kt : y < x → J l own cc nL rt d kc ks fi F Post a b tgt ls st S iv) (kf : x ≤ y → J l own cc nL rt d kc ks fi F Post a b q ls st S iv) (hv : (-2147483648 ≤ x ∧ x < 2147483648) ∧ (-2147483648 ≤ y ∧ y < 2147483648) := by omega) : J l own cc nL rt d kc ks fi F Post a b pc ls (i_ y :: i_ x :: st) S iv := by
  intro p e s m args below meth c D cI cZ cC base fa Q C E H locs lsA hH hL
  have hX : -2147483648 ≤ x ∧ x < 2147483648 := hv.1
  subst hq
  exact lv_icmp_gt C.1 C.2.1 hd ht (fun h => (kt ((I3_lt hv.2 hX).mp h)) p e s m args below meth c D cI cZ cC base fa Q C E H locs lsA hH hL) (fun h => (kf (Int.not_lt.mp (fun q => h ((I3_lt hv.2 hX).mpr q)))) p e s m args below meth c D cI cZ cC base fa Q C E H locs lsA hH hL)
theorem J.if_gt {l : Launch} {own : String} {cc : ByteArray} {nL : Nat} {rt : Option FieldType} {d kc ks : Nat} {fi : Bool} {F : Nat × (Int → Int)} {Post : Option VT → Shp → Mm → Prop} {a b pc : Nat} {ls : List (Option VT)} {st : List VT} {S : Shp} {iv : Mm} {x : Int} {off : Int} {tgt q : Nat} (hd : decode cc pc = .ok (.ifCond .gt off, 3)) (ht : (pc : Int) + off = (tgt : Int)) (hq : pc + 3 = q) (kt : 0 < x → J l own cc nL rt d kc ks fi F Post a b tgt ls st S iv) (kf : x ≤ 0 → J l own cc nL rt d kc ks fi F Post a b q ls st S iv) (hv : (-2147483648 ≤ x ∧ x < 2147483648) := by omega) : J l own cc nL rt d kc ks fi F Post a b pc ls (i_ x :: st) S iv := by
  intro p e s m args below meth c D cI cZ cC base fa Q C E H locs lsA hH hL
  have hX : -2147483648 ≤ x ∧ x < 2147483648 := hv
  subst hq
  exact lv_if_gt C.1 C.2.1 hd ht (fun h => (kt ((I3_lt (show -2147483648 ≤ (0 : Int) ∧ (0 : Int) < 2147483648 by omega) hX).mp h)) p e s m args below meth c D cI cZ cC base fa Q C E H locs lsA hH hL) (fun h => (kf (Int.not_lt.mp (fun q => h ((I3_lt (show -2147483648 ≤ (0 : Int) ∧ (0 : Int) < 2147483648 by omega) hX).mpr q)))) p e s m args below meth c D cI cZ cC base fa Q C E H locs lsA hH hL)
theorem J.icmp_le {l : Launch} {own : String} {cc : ByteArray} {nL : Nat} {rt : Option FieldType} {d kc ks : Nat} {fi : Bool} {F : Nat × (Int → Int)} {Post : Option VT → Shp → Mm → Prop} {a b pc : Nat} {ls : List (Option VT)} {st : List VT} {S : Shp} {iv : Mm} {x y : Int} {off : Int} {tgt q : Nat} (hd : decode cc pc = .ok (.if_icmp .le off, 3)) (ht : (pc : Int) + off = (tgt : Int)) (hq : pc + 3 = q) (kt : x ≤ y → J l own cc nL rt d kc ks fi F Post a b tgt ls st S iv) (kf : y < x → J l own cc nL rt d kc ks fi F Post a b q ls st S iv) (hv : (-2147483648 ≤ x ∧ x < 2147483648) ∧ (-2147483648 ≤ y ∧ y < 2147483648) := by omega) : J l own cc nL rt d kc ks fi F Post a b pc ls (i_ y :: i_ x :: st) S iv := by
  intro p e s m args below meth c D cI cZ cC base fa Q C E H locs lsA hH hL
  have hX : -2147483648 ≤ x ∧ x < 2147483648 := hv.1
  subst hq
  exact lv_icmp_le C.1 C.2.1 hd ht (fun h => (kt ((I3_le hX hv.2).mp h)) p e s m args below meth c D cI cZ cC base fa Q C E H locs lsA hH hL) (fun h => (kf (Int.not_le.mp (fun q => h ((I3_le hX hv.2).mpr q)))) p e s m args below meth c D cI cZ cC base fa Q C E H locs lsA hH hL)
theorem J.if_le {l : Launch} {own : String} {cc : ByteArray} {nL : Nat} {rt : Option FieldType} {d kc ks : Nat} {fi : Bool} {F : Nat × (Int → Int)} {Post : Option VT → Shp → Mm → Prop} {a b pc : Nat} {ls : List (Option VT)} {st : List VT} {S : Shp} {iv : Mm} {x : Int} {off : Int} {tgt q : Nat} (hd : decode cc pc = .ok (.ifCond .le off, 3)) (ht : (pc : Int) + off = (tgt : Int)) (hq : pc + 3 = q) (kt : x ≤ 0 → J l own cc nL rt d kc ks fi F Post a b tgt ls st S iv) (kf : 0 < x → J l own cc nL rt d kc ks fi F Post a b q ls st S iv) (hv : (-2147483648 ≤ x ∧ x < 2147483648) := by omega) : J l own cc nL rt d kc ks fi F Post a b pc ls (i_ x :: st) S iv := by
  intro p e s m args below meth c D cI cZ cC base fa Q C E H locs lsA hH hL
  have hX : -2147483648 ≤ x ∧ x < 2147483648 := hv
  subst hq
  exact lv_if_le C.1 C.2.1 hd ht (fun h => (kt ((I3_le hX (show -2147483648 ≤ (0 : Int) ∧ (0 : Int) < 2147483648 by omega)).mp h)) p e s m args below meth c D cI cZ cC base fa Q C E H locs lsA hH hL) (fun h => (kf (Int.not_le.mp (fun q => h ((I3_le hX (show -2147483648 ≤ (0 : Int) ∧ (0 : Int) < 2147483648 by omega)).mpr q)))) p e s m args below meth c D cI cZ cC base fa Q C E H locs lsA hH hL)
theorem J.icmp_eq_same {l : Launch} {own : String} {cc : ByteArray} {nL : Nat} {rt : Option FieldType} {d kc ks : Nat} {fi : Bool} {F : Nat × (Int → Int)} {Post : Option VT → Shp → Mm → Prop} {a b pc : Nat} {ls : List (Option VT)} {st : List VT} {S : Shp} {iv : Mm} {x : Int} {off : Int} {tgt q : Nat} (hd : decode cc pc = .ok (.if_icmp .eq off, 3)) (ht : (pc : Int) + off = (tgt : Int)) (hq : pc + 3 = q) (k : J l own cc nL rt d kc ks fi F Post a b tgt ls st S iv) : J l own cc nL rt d kc ks fi F Post a b pc ls (i_ x :: i_ x :: st) S iv := by
  intro p e s m args below meth c D cI cZ cC base fa Q C E H locs lsA hH hL
  subst hq
  exact lv_icmp_eq C.1 C.2.1 hd ht (fun _ => k p e s m args below meth c D cI cZ cC base fa Q C E H locs lsA hH hL) (fun h => absurd rfl h)
theorem J.icmp_ne_same {l : Launch} {own : String} {cc : ByteArray} {nL : Nat} {rt : Option FieldType} {d kc ks : Nat} {fi : Bool} {F : Nat × (Int → Int)} {Post : Option VT → Shp → Mm → Prop} {a b pc : Nat} {ls : List (Option VT)} {st : List VT} {S : Shp} {iv : Mm} {x : Int} {off : Int} {tgt q : Nat} (hd : decode cc pc = .ok (.if_icmp .ne off, 3)) (ht : (pc : Int) + off = (tgt : Int)) (hq : pc + 3 = q) (k : J l own cc nL rt d kc ks fi F Post a b q ls st S iv) : J l own cc nL rt d kc ks fi F Post a b pc ls (i_ x :: i_ x :: st) S iv := by
  intro p e s m args below meth c D cI cZ cC base fa Q C E H locs lsA hH hL
  subst hq
  exact lv_icmp_ne C.1 C.2.1 hd ht (fun h => absurd rfl h) (fun _ => k p e s m args below meth c D cI cZ cC base fa Q C E H locs lsA hH hL)
theorem J.goto {l : Launch} {own : String} {cc : ByteArray} {nL : Nat} {rt : Option FieldType} {d kc ks : Nat} {fi : Bool} {F : Nat × (Int → Int)} {Post : Option VT → Shp → Mm → Prop} {a b pc : Nat} {ls : List (Option VT)} {st : List VT} {S : Shp} {iv : Mm} {off : Int} {tgt : Nat} (hd : decode cc pc = .ok (.goto off, 3)) (ht : (pc : Int) + off = (tgt : Int)) (k : J l own cc nL rt d kc ks fi F Post a b tgt ls st S iv) : J l own cc nL rt d kc ks fi F Post a b pc ls st S iv := by
  intro p e s m args below meth c D cI cZ cC base fa Q C E H locs lsA hH hL
  exact lv_goto C.1 C.2.1 hd ht (k p e s m args below meth c D cI cZ cC base fa Q C E H locs lsA hH hL)
theorem J.tabIn {l : Launch} {own : String} {cc : ByteArray} {nL : Nat} {rt : Option FieldType} {d kc ks : Nat} {fi : Bool} {F : Nat × (Int → Int)} {Post : Option VT → Shp → Mm → Prop} {a b pc : Nat} {ls : List (Option VT)} {st : List VT} {S : Shp} {iv : Mm} {dflt lo hi off x : Int} {offs : Array Int} {len tgt : Nat} (hd : decode cc pc = .ok (.tableswitch dflt lo hi offs, len)) (hX : -2147483648 ≤ x ∧ x < 2147483648) (h1 : lo ≤ x) (h2 : x ≤ hi) (ho : offs[(x - lo).toNat]? = some off) (ht : (pc : Int) + off = (tgt : Int)) (k : J l own cc nL rt d kc ks fi F Post a b tgt ls st S iv) : J l own cc nL rt d kc ks fi F Post a b pc ls (i_ x :: st) S iv := by
  intro p e s m args below meth c D cI cZ cC base fa Q C E H locs lsA hH hL
  exact lv_tableIn C.1 C.2.1 hd (by rw [I3_toInt hX]; omega) (by rw [I3_toInt hX]; omega) (by rw [I3_toInt hX]; exact ho) ht (k p e s m args below meth c D cI cZ cC base fa Q C E H locs lsA hH hL)
theorem J.tabOut {l : Launch} {own : String} {cc : ByteArray} {nL : Nat} {rt : Option FieldType} {d kc ks : Nat} {fi : Bool} {F : Nat × (Int → Int)} {Post : Option VT → Shp → Mm → Prop} {a b pc : Nat} {ls : List (Option VT)} {st : List VT} {S : Shp} {iv : Mm} {dflt lo hi x : Int} {offs : Array Int} {len tgt : Nat} (hd : decode cc pc = .ok (.tableswitch dflt lo hi offs, len)) (hX : -2147483648 ≤ x ∧ x < 2147483648) (h1 : x < lo ∨ hi < x) (ht : (pc : Int) + dflt = (tgt : Int)) (k : J l own cc nL rt d kc ks fi F Post a b tgt ls st S iv) : J l own cc nL rt d kc ks fi F Post a b pc ls (i_ x :: st) S iv := by
  intro p e s m args below meth c D cI cZ cC base fa Q C E H locs lsA hH hL
  exact lv_tableOut C.1 C.2.1 hd (by rw [I3_toInt hX]; exact h1) ht (k p e s m args below meth c D cI cZ cC base fa Q C E H locs lsA hH hL)
theorem J.dup {l : Launch} {own : String} {cc : ByteArray} {nL : Nat} {rt : Option FieldType} {d kc ks : Nat} {fi : Bool} {F : Nat × (Int → Int)} {Post : Option VT → Shp → Mm → Prop} {a b pc : Nat} {ls : List (Option VT)} {st : List VT} {S : Shp} {iv : Mm} {v : VT} {q : Nat} (hd : decode cc pc = .ok (.dup, 1)) (hv : isL (some v) = false) (k : J l own cc nL rt d kc ks fi F Post a b q ls (v :: v :: st) S iv)(hq : pc + 1 = q) : J l own cc nL rt d kc ks fi F Post a b pc ls (v :: st) S iv := by
  intro p e s m args below meth c D cI cZ cC base fa Q C E H locs lsA hH hL
  subst hq
  exact lv_dup C.1 C.2.1 hd (by rw [wV_cat, hv]; rfl) (k p e s m args below meth c D cI cZ cC base fa Q C E H locs lsA hH hL)
theorem J.dup2 {l : Launch} {own : String} {cc : ByteArray} {nL : Nat} {rt : Option FieldType} {d kc ks : Nat} {fi : Bool} {F : Nat × (Int → Int)} {Post : Option VT → Shp → Mm → Prop} {a b pc : Nat} {ls : List (Option VT)} {st : List VT} {S : Shp} {iv : Mm} {v w : VT} {q : Nat} (hd : decode cc pc = .ok (.dup2, 1)) (hv : isL (some v) = false) (hw : isL (some w) = false) (k : J l own cc nL rt d kc ks fi F Post a b q ls (v :: w :: v :: w :: st) S iv)(hq : pc + 1 = q) : J l own cc nL rt d kc ks fi F Post a b pc ls (v :: w :: st) S iv := by
  intro p e s m args below meth c D cI cZ cC base fa Q C E H locs lsA hH hL
  subst hq
  exact lv_dup2_11 C.1 C.2.1 hd (by rw [wV_cat, hv]; rfl) (by rw [wV_cat, hw]; rfl) (k p e s m args below meth c D cI cZ cC base fa Q C E H locs lsA hH hL)
theorem J.pop {l : Launch} {own : String} {cc : ByteArray} {nL : Nat} {rt : Option FieldType} {d kc ks : Nat} {fi : Bool} {F : Nat × (Int → Int)} {Post : Option VT → Shp → Mm → Prop} {a b pc : Nat} {ls : List (Option VT)} {st : List VT} {S : Shp} {iv : Mm} {v : VT} {q : Nat} (hd : decode cc pc = .ok (.pop, 1)) (hv : isL (some v) = false) (k : J l own cc nL rt d kc ks fi F Post a b q ls st S iv)(hq : pc + 1 = q) : J l own cc nL rt d kc ks fi F Post a b pc ls (v :: st) S iv := by
  intro p e s m args below meth c D cI cZ cC base fa Q C E H locs lsA hH hL
  subst hq
  exact lv_pop C.1 C.2.1 hd (by rw [wV_cat, hv]; rfl) (k p e s m args below meth c D cI cZ cC base fa Q C E H locs lsA hH hL)
theorem J.i2b {l : Launch} {own : String} {cc : ByteArray} {nL : Nat} {rt : Option FieldType} {d kc ks : Nat} {fi : Bool} {F : Nat × (Int → Int)} {Post : Option VT → Shp → Mm → Prop} {a b pc : Nat} {ls : List (Option VT)} {st : List VT} {S : Shp} {iv : Mm} {x z : Int} {q : Nat} (hd : decode cc pc = .ok (.i2b, 1)) (hz : (Int32.ofInt x).toInt8.toInt32 = Int32.ofInt z) (k : J l own cc nL rt d kc ks fi F Post a b q ls (i_ z :: st) S iv)(hq : pc + 1 = q) : J l own cc nL rt d kc ks fi F Post a b pc ls (i_ x :: st) S iv := by
  intro p e s m args below meth c D cI cZ cC base fa Q C E H locs lsA hH hL
  subst hq
  exact lv_i2b C.1 C.2.1 hd hz (k p e s m args below meth c D cI cZ cC base fa Q C E H locs lsA hH hL)
theorem J.i2s {l : Launch} {own : String} {cc : ByteArray} {nL : Nat} {rt : Option FieldType} {d kc ks : Nat} {fi : Bool} {F : Nat × (Int → Int)} {Post : Option VT → Shp → Mm → Prop} {a b pc : Nat} {ls : List (Option VT)} {st : List VT} {S : Shp} {iv : Mm} {x z : Int} {q : Nat} (hd : decode cc pc = .ok (.i2s, 1)) (hz : (Int32.ofInt x).toInt16.toInt32 = Int32.ofInt z) (k : J l own cc nL rt d kc ks fi F Post a b q ls (i_ z :: st) S iv)(hq : pc + 1 = q) : J l own cc nL rt d kc ks fi F Post a b pc ls (i_ x :: st) S iv := by
  intro p e s m args below meth c D cI cZ cC base fa Q C E H locs lsA hH hL
  subst hq
  exact lv_i2s C.1 C.2.1 hd hz (k p e s m args below meth c D cI cZ cC base fa Q C E H locs lsA hH hL)
theorem J.i2l {l : Launch} {own : String} {cc : ByteArray} {nL : Nat} {rt : Option FieldType} {d kc ks : Nat} {fi : Bool} {F : Nat × (Int → Int)} {Post : Option VT → Shp → Mm → Prop} {a b pc : Nat} {ls : List (Option VT)} {st : List VT} {S : Shp} {iv : Mm} {x z : Int} {q : Nat} (hd : decode cc pc = .ok (.i2l, 1)) (hz : (Int32.ofInt x).toInt64 = Int64.ofInt z) (k : J l own cc nL rt d kc ks fi F Post a b q ls (l_ z :: st) S iv)(hq : pc + 1 = q) : J l own cc nL rt d kc ks fi F Post a b pc ls (i_ x :: st) S iv := by
  intro p e s m args below meth c D cI cZ cC base fa Q C E H locs lsA hH hL
  subst hq
  exact lv_i2l C.1 C.2.1 hd hz (k p e s m args below meth c D cI cZ cC base fa Q C E H locs lsA hH hL)
theorem J.l2i {l : Launch} {own : String} {cc : ByteArray} {nL : Nat} {rt : Option FieldType} {d kc ks : Nat} {fi : Bool} {F : Nat × (Int → Int)} {Post : Option VT → Shp → Mm → Prop} {a b pc : Nat} {ls : List (Option VT)} {st : List VT} {S : Shp} {iv : Mm} {x z : Int} {q : Nat} (hd : decode cc pc = .ok (.l2i, 1)) (hz : (Int64.ofInt x).toInt32 = Int32.ofInt z) (k : J l own cc nL rt d kc ks fi F Post a b q ls (i_ z :: st) S iv)(hq : pc + 1 = q) : J l own cc nL rt d kc ks fi F Post a b pc ls (l_ x :: st) S iv := by
  intro p e s m args below meth c D cI cZ cC base fa Q C E H locs lsA hH hL
  subst hq
  exact lv_l2i C.1 C.2.1 hd hz (k p e s m args below meth c D cI cZ cC base fa Q C E H locs lsA hH hL)
theorem J.i2c {l : Launch} {own : String} {cc : ByteArray} {nL : Nat} {rt : Option FieldType} {d kc ks : Nat} {fi : Bool} {F : Nat × (Int → Int)} {Post : Option VT → Shp → Mm → Prop} {a b pc : Nat} {ls : List (Option VT)} {st : List VT} {S : Shp} {iv : Mm} {x z : Int} {q : Nat} (hd : decode cc pc = .ok (.i2c, 1)) (hz : ((Int32.ofInt x).toUInt32 % 65536).toInt32 = Int32.ofInt z) (k : J l own cc nL rt d kc ks fi F Post a b q ls (i_ z :: st) S iv)(hq : pc + 1 = q) : J l own cc nL rt d kc ks fi F Post a b pc ls (i_ x :: st) S iv := by
  intro p e s m args below meth c D cI cZ cC base fa Q C E H locs lsA hH hL
  subst hq
  exact lv_i2c C.1 C.2.1 hd hz (k p e s m args below meth c D cI cZ cC base fa Q C E H locs lsA hH hL)
theorem J.iushr {l : Launch} {own : String} {cc : ByteArray} {nL : Nat} {rt : Option FieldType} {d kc ks : Nat} {fi : Bool} {F : Nat × (Int → Int)} {Post : Option VT → Shp → Mm → Prop} {a b pc : Nat} {ls : List (Option VT)} {st : List VT} {S : Shp} {iv : Mm} {x y z : Int} {q : Nat} (hd : decode cc pc = .ok (.iushr, 1)) (hz : ((Int32.ofInt x).toUInt32 >>> ((Int32.ofInt y).toUInt32 &&& Int32.toUInt32 31)).toInt32 = Int32.ofInt z) (k : J l own cc nL rt d kc ks fi F Post a b q ls (i_ z :: st) S iv)(hq : pc + 1 = q) : J l own cc nL rt d kc ks fi F Post a b pc ls (i_ y :: i_ x :: st) S iv := by
  intro p e s m args below meth c D cI cZ cC base fa Q C E H locs lsA hH hL
  subst hq
  exact lv_iushr C.1 C.2.1 hd hz (k p e s m args below meth c D cI cZ cC base fa Q C E H locs lsA hH hL)
theorem J.lcmp {l : Launch} {own : String} {cc : ByteArray} {nL : Nat} {rt : Option FieldType} {d kc ks : Nat} {fi : Bool} {F : Nat × (Int → Int)} {Post : Option VT → Shp → Mm → Prop} {a b pc : Nat} {ls : List (Option VT)} {st : List VT} {S : Shp} {iv : Mm} {x y z : Int} {q : Nat} (hd : decode cc pc = .ok (.lcmp, 1)) (hz : lg_cmp (Int64.ofInt x) (Int64.ofInt y) = Int32.ofInt z) (k : J l own cc nL rt d kc ks fi F Post a b q ls (i_ z :: st) S iv)(hq : pc + 1 = q) : J l own cc nL rt d kc ks fi F Post a b pc ls (l_ y :: l_ x :: st) S iv := by
  intro p e s m args below meth c D cI cZ cC base fa Q C E H locs lsA hH hL
  have k1 := k p e s m args below meth c D cI cZ cC base fa Q C E H locs lsA hH hL
  subst hq
  have e1 : wV base fa (i_ z) = .int (lg_cmp (Int64.ofInt x) (Int64.ofInt y)) := by rw [hz]; rfl
  rw [List.map_cons, e1] at k1
  exact W.lcmp C.1 C.2.1 hd k1
theorem J.ldiv {l : Launch} {own : String} {cc : ByteArray} {nL : Nat} {rt : Option FieldType} {d kc ks : Nat} {fi : Bool} {F : Nat × (Int → Int)} {Post : Option VT → Shp → Mm → Prop} {a b pc : Nat} {ls : List (Option VT)} {st : List VT} {S : Shp} {iv : Mm} {x y z : Int} {q : Nat} (hd : decode cc pc = .ok (.ldiv, 1)) (hz : Int64.ofInt x / Int64.ofInt y = Int64.ofInt z) (hne : ¬ Int64.ofInt y = 0) (k : J l own cc nL rt d kc ks fi F Post a b q ls (l_ z :: st) S iv)(hq : pc + 1 = q) : J l own cc nL rt d kc ks fi F Post a b pc ls (l_ y :: l_ x :: st) S iv := by
  intro p e s m args below meth c D cI cZ cC base fa Q C E H locs lsA hH hL
  have k1 := k p e s m args below meth c D cI cZ cC base fa Q C E H locs lsA hH hL
  subst hq
  have e1 : wV base fa (l_ z) = .long (Int64.ofInt x / Int64.ofInt y) := by rw [hz]; rfl
  rw [List.map_cons, e1] at k1
  exact lv_ldiv C.1 C.2.1 hd hne k1
theorem J.lrem {l : Launch} {own : String} {cc : ByteArray} {nL : Nat} {rt : Option FieldType} {d kc ks : Nat} {fi : Bool} {F : Nat × (Int → Int)} {Post : Option VT → Shp → Mm → Prop} {a b pc : Nat} {ls : List (Option VT)} {st : List VT} {S : Shp} {iv : Mm} {x y z : Int} {q : Nat} (hd : decode cc pc = .ok (.lrem, 1)) (hz : Int64.ofInt x - Int64.ofInt x / Int64.ofInt y * Int64.ofInt y = Int64.ofInt z) (hne : ¬ Int64.ofInt y = 0) (k : J l own cc nL rt d kc ks fi F Post a b q ls (l_ z :: st) S iv)(hq : pc + 1 = q) : J l own cc nL rt d kc ks fi F Post a b pc ls (l_ y :: l_ x :: st) S iv := by
  intro p e s m args below meth c D cI cZ cC base fa Q C E H locs lsA hH hL
  have k1 := k p e s m args below meth c D cI cZ cC base fa Q C E H locs lsA hH hL
  subst hq
  have e1 : wV base fa (l_ z) = .long (Int64.ofInt x - Int64.ofInt x / Int64.ofInt y * Int64.ofInt y) := by rw [hz]; rfl
  rw [List.map_cons, e1] at k1
  exact lv_lrem C.1 C.2.1 hd hne k1
