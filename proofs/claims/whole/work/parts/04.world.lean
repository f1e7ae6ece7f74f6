/-! THE WORLD AS NUMBERS: every cell that the law makes has a place (0, 1, ..) and lies at base + place; its numbers are whole numbers (Int), kept as Int32 or Int64; what it refers to is told by places; cells that were there before (script, tables, texts) have places from 1000 on and are only read. -/
abbrev VT : Type := Int ⊕ Int ⊕ Nat
abbrev i_ (a : Int) : VT := Sum.inl a
abbrev l_ (a : Int) : VT := Sum.inr (Sum.inl a)
abbrev r_ (q : Nat) : VT := Sum.inr (Sum.inr q)
abbrev Mm : Type := Nat → Int → Int
abbrev Shp : Type := Nat × (Nat → Nat × Nat) × (Nat → Nat → Nat)
def adr (base : Nat) (fa : Nat → Nat) (q : Nat) : Nat := if q < 1000 then base + q else fa (q - 1000)
def wV (base : Nat) (fa : Nat → Nat) (v : VT) : Value := match v with
  | .inl a => .int (Int32.ofInt a)
  | .inr (.inl a) => .long (Int64.ofInt a)
  | .inr (.inr q) => .ref (adr base fa q)
-- the classes by number
def cR (ci : Nat) : String := match ci with | 0 => RX0 | 1 => RX1 | 2 => RX2 | 3 => RX3 | 4 => RX4 | 5 => RX5 | _ => RX6
def cT (ci : Nat) : u_T := match ci with | 0 => TX0 | 1 => TX1 | 2 => TX2 | 3 => TX3 | 4 => TX4 | 5 => TX5 | _ => TX6
def cN (ci : Nat) : Nat := match ci with | 0 => 2 | 1 => 17 | 2 => 3 | 3 => 7 | 4 => 5 | 5 => 8 | _ => 22
def cY (ci : Nat) : Nat → FieldType := match ci with | 0 => tyX0 | 1 => tyX1 | 2 => tyX2 | 3 => tyX3 | 4 => tyX4 | 5 => tyX5 | _ => tyX6
theorem c_cl {ci : Nat} (h : ci < 7) : vwCl[ci]? = some (cR ci, cT ci, cN ci) := by
  rcases (show ci = 0 ∨ ci = 1 ∨ ci = 2 ∨ ci = 3 ∨ ci = 4 ∨ ci = 5 ∨ ci = 6 by omega) with rfl | rfl | rfl | rfl | rfl | rfl | rfl <;> rfl
theorem c_in {ci : Nat} (h : ci < 7) : ∀ w ∈ u_ws (cR ci) (cT ci) (cN ci), w ∈ gtb := by
  rcases (show ci = 0 ∨ ci = 1 ∨ ci = 2 ∨ ci = 3 ∨ ci = 4 ∨ ci = 5 ∨ ci = 6 by omega) with rfl | rfl | rfl | rfl | rfl | rfl | rfl
  · exact c_in_X0
  · exact c_in_X1
  · exact c_in_X2
  · exact c_in_X3
  · exact c_in_X4
  · exact c_in_X5
  · exact c_in_X6
theorem c_nm {ci : Nat} (h : ci < 7) : ∀ a, a < cN ci → ∀ b, b < cN ci → a ≠ b → (cT ci a).2.1 ≠ (cT ci b).2.1 := by
  rcases (show ci = 0 ∨ ci = 1 ∨ ci = 2 ∨ ci = 3 ∨ ci = 4 ∨ ci = 5 ∨ ci = 6 by omega) with rfl | rfl | rfl | rfl | rfl | rfl | rfl
  · exact nmX0
  · exact nmX1
  · exact nmX2
  · exact nmX3
  · exact nmX4
  · exact nmX5
  · exact nmX6
theorem c_ty {ci : Nat} (h : ci < 7) : ∀ k, k < cN ci → parseFieldDescriptor (cT ci k).2.2.1 = some (cY ci k) := by
  rcases (show ci = 0 ∨ ci = 1 ∨ ci = 2 ∨ ci = 3 ∨ ci = 4 ∨ ci = 5 ∨ ci = 6 by omega) with rfl | rfl | rfl | rfl | rfl | rfl | rfl
  · exact tyX0_ok
  · exact tyX1_ok
  · exact tyX2_ok
  · exact tyX3_ok
  · exact tyX4_ok
  · exact tyX5_ok
  · exact tyX6_ok
/-- a field's value -/
def wF (base : Nat) (ty : FieldType) (q : Nat) (z : Int) : Value := match ty with
  | .int => .int (Int32.ofInt z)
  | .boolean => .int (Int32.ofInt z)
  | .long => .long (Int64.ofInt z)
  | _ => if q < 1000 then .ref (base + q) else .null
/-- a cell -/
def wE (cI cZ cC : ClassId) (base : Nat) (kd : Nat × Nat) (rv : Nat → Nat) (f : Int → Int) : va_E := match kd.1 with
  | 0 => .inl (cI, kd.2, .inl (fun j => Int32.ofInt (f j)))
  | 1 => .inl (cZ, kd.2, .inl (fun j => Int32.ofInt (f j)))
  | 2 => .inl (cC, kd.2, .inl (fun j => Int32.ofInt (f j)))
  | ci + 3 => .inr (ci, (List.range (cN ci)).map (fun j => wF base (cY ci j) (rv j) (f j)))
def enc (cI cZ cC : ClassId) (base : Nat) (S : Shp) (iv : Mm) : va_W := (List.range S.1).map (fun k => (base + k, wE cI cZ cC base (S.2.1 k) (S.2.2 k) (iv k)))
def upr (f : Int → Int) (a x : Int) : Int → Int := fun b => if b = a then x else f b
def up (iv : Mm) (q : Nat) (a x : Int) : Mm := fun c => if c = q then upr (iv q) a x else iv c
theorem up_s (iv : Mm) (q : Nat) (a x : Int) : up iv q a x q = upr (iv q) a x := if_pos rfl
theorem up_n {c q : Nat} (iv : Mm) (a x : Int) (h : c ≠ q) : up iv q a x c = iv c := if_neg h
theorem upr_s (f : Int → Int) (a x : Int) : upr f a x a = x := if_pos rfl
theorem upr_n {b a : Int} (f : Int → Int) (x : Int) (h : b ≠ a) : upr f a x b = f b := if_neg h
theorem enc_at {cI cZ cC : ClassId} {base : Nat} {S : Shp} {iv : Mm} {k : Nat} (h : k < S.1) : (enc cI cZ cC base S iv)[k]? = some (base + k, wE cI cZ cC base (S.2.1 k) (S.2.2 k) (iv k)) := by
  simp [enc, List.getElem?_map, List.getElem?_range h]
theorem enc_of {cI cZ cC : ClassId} {base : Nat} {S : Shp} {iv : Mm} {k : Nat} {q : Nat × va_E} (h : (enc cI cZ cC base S iv)[k]? = some q) : k < S.1 ∧ q = (base + k, wE cI cZ cC base (S.2.1 k) (S.2.2 k) (iv k)) := by
  have hk : k < S.1 := by
    have := (List.getElem?_eq_some_iff.mp h).1
    simpa [enc] using this
  refine ⟨hk, ?_⟩
  rw [enc_at hk] at h
  exact (Option.some.inj h).symm
theorem enc_D {cI cZ cC : ClassId} {base : Nat} {S : Shp} {iv : Mm} : va_D (fun q => base ≤ q) (enc cI cZ cC base S iv) := by
  refine ⟨fun i j p q hi hj he => ?_, fun k q hk => ?_⟩
  · obtain ⟨-, rfl⟩ := enc_of hi
    obtain ⟨-, rfl⟩ := enc_of hj
    dsimp only at he
    omega
  · obtain ⟨-, rfl⟩ := enc_of hk
    exact Nat.le_add_right _ _
theorem enc_set {cI cZ cC : ClassId} {base : Nat} {S : Shp} {iv : Mm} {q : Nat} {a x : Int} (hq : q < S.1) : (enc cI cZ cC base S iv).set q (base + q, wE cI cZ cC base (S.2.1 q) (S.2.2 q) (upr (iv q) a x)) = enc cI cZ cC base S (up iv q a x) := by
  apply List.ext_getElem?
  intro k
  by_cases hk : k < S.1
  · rw [enc_at hk]
    by_cases he : k = q
    · subst he
      rw [List.getElem?_set_self (by simpa [enc] using hk), up_s]
    · rw [List.getElem?_set_ne (fun h => he h.symm), enc_at hk, up_n _ _ _ he]
  · rw [List.getElem?_eq_none (by simp [enc]; omega), List.getElem?_eq_none (by simp [enc]; omega)]
/-- the shape is in order: nothing stands beyond its number; rows are short -/
def WFS (S : Shp) : Prop := (∀ q, S.1 ≤ q → S.2.1 q = (99, 0)) ∧ (∀ q, (S.2.1 q).2 < 65536) ∧ S.1 < 1000
theorem WFS.lt {S : Shp} (h : WFS S) {q k n : Nat} (hq : S.2.1 q = (k, n)) (hk : k ≠ 99) : q < S.1 := by
  rcases Nat.lt_or_ge q S.1 with h1 | h1
  · exact h1
  · have := h.1 q h1
    rw [hq] at this
    exact absurd (congrArg Prod.fst this) hk
-- numbers
theorem I3_lt {a b : Int} (ha : -2147483648 ≤ a ∧ a < 2147483648) (hb : -2147483648 ≤ b ∧ b < 2147483648) : Int32.ofInt a < Int32.ofInt b ↔ a < b := by
  rw [Int32.lt_iff_toInt_lt, Int32.toInt_ofInt_of_le (by omega) (by omega), Int32.toInt_ofInt_of_le (by omega) (by omega)]
theorem I3_le {a b : Int} (ha : -2147483648 ≤ a ∧ a < 2147483648) (hb : -2147483648 ≤ b ∧ b < 2147483648) : Int32.ofInt a ≤ Int32.ofInt b ↔ a ≤ b := by
  rw [Int32.le_iff_toInt_le, Int32.toInt_ofInt_of_le (by omega) (by omega), Int32.toInt_ofInt_of_le (by omega) (by omega)]
theorem I3_eq {a b : Int} (ha : -2147483648 ≤ a ∧ a < 2147483648) (hb : -2147483648 ≤ b ∧ b < 2147483648) : Int32.ofInt a = Int32.ofInt b ↔ a = b := by
  rw [← Int32.toInt_inj, Int32.toInt_ofInt_of_le (by omega) (by omega), Int32.toInt_ofInt_of_le (by omega) (by omega)]
theorem I3_toInt {a : Int} (ha : -2147483648 ≤ a ∧ a < 2147483648) : (Int32.ofInt a).toInt = a := Int32.toInt_ofInt_of_le (by omega) (by omega)
theorem I3_self (x : Int32) : Int32.ofInt x.toInt = x := Int32.ofInt_toInt x
theorem I3_nat (n : Nat) : Int32.ofNat n = Int32.ofInt (n : Int) := (Int32.ofInt_eq_ofNat).symm
theorem I3_clamp {a : Int} (h0 : 0 ≤ a) (h1 : a < 2147483648) : (Int32.ofInt a).toNatClampNeg = a.toNat := by
  show (Int32.ofInt a).toInt.toNat = a.toNat
  rw [I3_toInt (by omega)]
theorem I3_in {a : Int} {n : Nat} (h : 0 ≤ a ∧ a < n) (hn : n < 65536) : vp_in (Int32.ofInt a) n := by
  rw [vp_in_iff, I3_toInt (by omega)]
  exact h
theorem I3_upd (f : Int → Int) {a x : Int} (h0 : 0 ≤ a) : upd (fun j : Nat => Int32.ofInt (f j)) a.toNat (Int32.ofInt x) = fun j : Nat => Int32.ofInt (upr f a x j) := by
  funext j
  simp only [upd, upr]
  by_cases h : j = a.toNat
  · rw [if_pos h, if_pos (by omega)]
  · rw [if_neg h, if_neg (by omega)]
theorem wF_upr {base : Nat} {ci k : Nat} {rv : Nat → Nat} {f : Int → Int} {x : Int} (hk : k < cN ci) :
    ((List.range (cN ci)).map (fun j => wF base (cY ci j) (rv j) (f j))).set k (wF base (cY ci k) (rv k) x) = (List.range (cN ci)).map (fun j : Nat => wF base (cY ci j) (rv j) (upr f (k : Int) x j)) := by
  apply List.ext_getElem?
  intro j
  by_cases hj : j < cN ci
  · rw [List.getElem?_map, List.getElem?_range hj]
    by_cases he : j = k
    · subst he
      rw [List.getElem?_set_self (by simpa using hj)]
      simp [upr]
    · rw [List.getElem?_set_ne (fun h => he h.symm), List.getElem?_map, List.getElem?_range hj]
      have : ((j : Int) = (k : Int)) = False := by simp; omega
      simp [upr, this]
  · rw [List.getElem?_eq_none (by simp; omega), List.getElem?_eq_none (by simp; omega)]
