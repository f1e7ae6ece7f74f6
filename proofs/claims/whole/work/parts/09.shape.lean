/-! the shape of the world once it is made; truth values -/
def kL : List (Nat × Nat) := [(8, 0), (4, 0), (0, 81), (0, 81), (0, 81), (0, 81), (0, 8), (0, 8), (0, 8), (0, 8), (0, 8), (0, 8), (0, 10), (4, 0), (0, 81), (0, 81), (0, 81), (0, 81), (0, 8), (0, 8), (0, 8), (0, 8), (0, 8), (0, 8), (0, 10), (3, 0), (4, 0), (0, 81), (0, 81), (0, 81), (0, 81), (0, 8), (0, 8), (0, 8), (0, 8), (0, 8), (0, 8), (0, 10), (7, 0), (0, 81), (1, 81), (0, 81), (0, 648), (0, 648), (7, 0), (0, 81), (1, 81), (0, 81), (0, 648), (0, 648), (6, 0), (0, 120), (0, 121), (0, 121), (0, 121), (0, 121), (5, 0), (0, 4), (0, 4), (0, 160), (0, 7), (9, 0), (0, 307), (0, 307), (0, 307), (0, 7), (0, 729), (0, 81), (1, 81), (0, 81), (0, 120), (2, 56), (2, 32), (2, 40), (0, 4), (0, 4), (0, 160), (0, 40)]
def rL : List (Nat × List Nat) := [(0, [1, 13, 25, 44, 50, 56, 60]), (1, [2, 3, 4, 5, 6, 7, 8, 9, 10, 11, 12]), (13, [14, 15, 16, 17, 18, 19, 20, 21, 22, 23, 24]), (25, [26, 38]), (26, [27, 28, 29, 30, 31, 32, 33, 34, 35, 36, 37]), (38, [39, 40, 41, 42, 43]), (44, [45, 46, 47, 48, 49]), (50, [9999, 51, 52, 53, 54, 55]), (56, [57, 58, 59]), (61, [62, 63, 64, 9999, 65, 66, 67, 68, 69, 70, 9999, 9999, 9999, 9999, 9999, 71, 72, 73, 74, 75, 76, 77])]
def K0 (q : Nat) : Nat × Nat := kL.getD q (99, 0)
def R0 (q k : Nat) : Nat := ((rL.lookup q).getD []).getD k 9999
def S0 : Shp := (78, K0, R0)
def b2 (p : Prop) [Decidable p] : Int := if p then 1 else 0
theorem b2_t {p : Prop} [Decidable p] (h : p) : b2 p = 1 := if_pos h
theorem b2_f {p : Prop} [Decidable p] (h : ¬ p) : b2 p = 0 := if_neg h
theorem b2_01 {p : Prop} [Decidable p] : b2 p = 0 ∨ b2 p = 1 := by
  by_cases h : p
  · exact Or.inr (b2_t h)
  · exact Or.inl (b2_f h)
theorem b2_rng {p : Prop} [Decidable p] : -2147483648 ≤ b2 p ∧ b2 p < 2147483648 := by
  rcases b2_01 (p := p) with h | h <;> rw [h] <;> omega
theorem b2_c {p q : Prop} [Decidable p] [Decidable q] (h : p ↔ q) : b2 p = b2 q := by
  by_cases hp : p
  · rw [b2_t hp, b2_t (h.mp hp)]
  · rw [b2_f hp, b2_f (fun z => hp (h.mpr z))]
theorem J.ifb_ne {l : Launch} {own : String} {cc : ByteArray} {nL : Nat} {rt : Option FieldType} {d kc ks : Nat} {fi : Bool} {F : Nat × (Int → Int)} {Post : Option VT → Shp → Mm → Prop} {a b pc : Nat} {ls : List (Option VT)} {st : List VT} {S : Shp} {iv : Mm} {p : Prop} [Decidable p] {off : Int} {tgt q : Nat} (hd : decode cc pc = .ok (.ifCond .ne off, 3)) (ht : (pc : Int) + off = (tgt : Int)) (hq : pc + 3 = q) (kt : p → J l own cc nL rt d kc ks fi F Post a b tgt ls st S iv) (kf : ¬ p → J l own cc nL rt d kc ks fi F Post a b q ls st S iv) : J l own cc nL rt d kc ks fi F Post a b pc ls (i_ (b2 p) :: st) S iv :=
  J.if_ne hd ht hq (fun h => kt (Classical.byContradiction (fun z => h (b2_f z)))) (fun h => kf (fun z => by rw [b2_t z] at h; omega)) b2_rng
theorem J.ifb_eq {l : Launch} {own : String} {cc : ByteArray} {nL : Nat} {rt : Option FieldType} {d kc ks : Nat} {fi : Bool} {F : Nat × (Int → Int)} {Post : Option VT → Shp → Mm → Prop} {a b pc : Nat} {ls : List (Option VT)} {st : List VT} {S : Shp} {iv : Mm} {p : Prop} [Decidable p] {off : Int} {tgt q : Nat} (hd : decode cc pc = .ok (.ifCond .eq off, 3)) (ht : (pc : Int) + off = (tgt : Int)) (hq : pc + 3 = q) (kt : ¬ p → J l own cc nL rt d kc ks fi F Post a b tgt ls st S iv) (kf : p → J l own cc nL rt d kc ks fi F Post a b q ls st S iv) : J l own cc nL rt d kc ks fi F Post a b pc ls (i_ (b2 p) :: st) S iv :=
  J.if_eq hd ht hq (fun h => kt (fun z => by rw [b2_t z] at h; omega)) (fun h => kf (Classical.byContradiction (fun z => h (b2_f z)))) b2_rng
