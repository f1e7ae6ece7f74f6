/-! the making of all: shapes on the way, their rules (printed by wip/whole/m_i1.py) -/
def rO : List (Nat × Nat) := [(1, 0), (1, 1), (1, 2), (1, 3), (1, 4), (1, 5), (1, 6), (1, 7), (1, 8), (1, 9), (1, 10), (0, 0), (13, 0), (13, 1), (13, 2), (13, 3), (13, 4), (13, 5), (13, 6), (13, 7), (13, 8), (13, 9), (13, 10), (0, 1), (26, 0), (26, 1), (26, 2), (26, 3), (26, 4), (26, 5), (26, 6), (26, 7), (26, 8), (26, 9), (26, 10), (25, 0), (38, 0), (38, 1), (38, 2), (38, 3), (38, 4), (25, 1), (0, 2), (44, 0), (44, 1), (44, 2), (44, 3), (44, 4), (0, 3), (50, 1), (50, 2), (50, 3), (50, 4), (50, 5), (0, 4), (56, 0), (56, 1), (56, 2), (0, 5), (0, 6), (61, 0), (61, 1), (61, 2), (61, 4), (61, 5), (61, 6), (61, 7), (61, 8), (61, 9), (61, 15), (61, 16), (61, 17), (61, 18), (61, 19), (61, 20), (61, 21)]
def inL (q k : Nat) : List (Nat × Nat) → Bool
  | [] => false
  | x :: L => (Nat.beq x.1 q && Nat.beq x.2 k) || inL q k L
theorem inL_app (q k a b : Nat) : ∀ L : List (Nat × Nat), inL q k (L ++ [(a, b)]) = (inL q k L || (Nat.beq a q && Nat.beq b k))
  | [] => by simp [inL]
  | x :: L => by
    show ((Nat.beq x.1 q && Nat.beq x.2 k) || inL q k (L ++ [(a, b)])) = ((Nat.beq x.1 q && Nat.beq x.2 k) || inL q k L || (Nat.beq a q && Nat.beq b k))
    rw [inL_app q k a b L, Bool.or_assoc]
theorem inL_mem {q k : Nat} : ∀ {L : List (Nat × Nat)}, inL q k L = true → (q, k) ∈ L
  | [], h => by cases h
  | (x, y) :: L, h => by
    unfold inL at h
    simp only [Bool.or_eq_true, Bool.and_eq_true] at h
    rcases h with ⟨h1, h2⟩ | h
    · have e1 : x = q := Nat.eq_of_beq_eq_true h1
      have e2 : y = k := Nat.eq_of_beq_eq_true h2
      subst e1; subst e2; exact List.mem_cons_self
    · exact List.mem_cons_of_mem _ (inL_mem h)
/-- n cells are made, m references set -/
def Sg (n m : Nat) : Shp := (n, (fun q => if q < n then K0 q else (99, 0)), fun q k => if inL q k (rO.take m) = true then R0 q k else 9999)
theorem Sg_nw {n m : Nat} {kd : Nat × Nat} (hk : K0 n = kd) (hm : ∀ x ∈ rO.take m, x.1 ≠ n) : nwS (Sg n m) kd = Sg (n + 1) m := by
  unfold nwS Sg
  refine Prod.ext rfl (Prod.ext ?_ ?_)
  · funext q
    show (if q = n then kd else if q < n then K0 q else (99, 0)) = if q < n + 1 then K0 q else (99, 0)
    by_cases h : q = n
    · subst h; rw [if_pos rfl, if_pos (by omega), hk]
    · rw [if_neg h]
      by_cases h2 : q < n
      · rw [if_pos h2, if_pos (by omega)]
      · rw [if_neg h2, if_neg (by omega)]
  · funext q k
    show (if q = n then (fun _ => 9999) else fun k => if inL q k (rO.take m) = true then R0 q k else 9999) k = if inL q k (rO.take m) = true then R0 q k else 9999
    by_cases h : q = n
    · rw [if_pos h, if_neg (fun z => hm _ (inL_mem z) h)]
    · rw [if_neg h]
theorem Sg_up {n m q k c : Nat} (h1 : rO.take (m + 1) = rO.take m ++ [(q, k)]) (h2 : R0 q k = c) : upR (Sg n m) q k c = Sg n (m + 1) := by
  unfold upR Sg
  refine Prod.ext rfl (Prod.ext rfl ?_)
  funext p j
  show (if p = q then (fun j => if j = k then c else if inL q j (rO.take m) = true then R0 q j else 9999) else fun j => if inL p j (rO.take m) = true then R0 p j else 9999) j = if inL p j (rO.take (m + 1)) = true then R0 p j else 9999
  rw [h1, inL_app]
  by_cases h : p = q
  · subst h
    rw [if_pos rfl]
    by_cases hj : j = k
    · subst hj
      have e : (inL p j (rO.take m) || (Nat.beq p p && Nat.beq j j)) = true := by simp
      rw [if_pos e, h2]
      exact if_pos rfl
    · have e : Nat.beq k j = false := by
        cases hb : Nat.beq k j
        · rfl
        · exact absurd (Nat.eq_of_beq_eq_true hb).symm hj
      show (if j = k then c else if inL p j (rO.take m) = true then R0 p j else 9999) = _
      rw [if_neg hj, e, Bool.and_false, Bool.or_false]
  · have e : Nat.beq q p = false := by
      cases hb : Nat.beq q p
      · rfl
      · exact absurd (Nat.eq_of_beq_eq_true hb).symm h
    rw [if_neg h, e, Bool.false_and, Bool.or_false]
theorem lk_mem {q : Nat} {l : List Nat} : ∀ {L : List (Nat × List Nat)}, L.lookup q = some l → (q, l) ∈ L
  | [], h => by cases h
  | (x, y) :: L, h => by
    rw [List.lookup_cons] at h
    by_cases e : q = x
    · subst e
      simp at h
      subst h
      exact List.mem_cons_self
    · have e2 : (q == x) = false := by simpa using e
      rw [e2] at h
      exact List.mem_cons_of_mem _ (lk_mem h)
theorem Sg_S0 : Sg 78 76 = S0 := by
  unfold Sg S0
  refine Prod.ext rfl (Prod.ext ?_ ?_)
  · funext q
    show (if q < 78 then K0 q else (99, 0)) = K0 q
    by_cases h : q < 78
    · exact if_pos h
    · rw [if_neg h]
      unfold K0
      rw [List.getD_eq_getElem?_getD, List.getElem?_eq_none (by show 78 ≤ q; omega)]
      rfl
  · funext q k
    show (if inL q k (rO.take 76) = true then R0 q k else 9999) = R0 q k
    by_cases h : inL q k (rO.take 76) = true
    · exact if_pos h
    · rw [if_neg h]
      have key : ∀ x ∈ rL, ∀ k, k < x.2.length → inL x.1 k (rO.take 76) = true ∨ x.2.getD k 9999 = 9999 := by decide +kernel
      unfold R0
      cases hl : rL.lookup q with
      | none => rfl
      | some l =>
        show 9999 = l.getD k 9999
        by_cases hk : k < l.length
        · rcases key _ (lk_mem hl) k hk with h3 | h3
          · exact absurd h3 h
          · exact h3.symm
        · rw [List.getD_eq_getElem?_getD, List.getElem?_eq_none (by omega)]
          rfl
theorem nz_eq {n m : Nat} {iv : Mm} (h : iv n = fun _ => 0) : nwI (Sg n m) iv = iv := by
  funext q
  show (if q = n then (fun _ => 0) else iv q) = iv q
  by_cases e : q = n
  · subst e; rw [if_pos rfl, h]
  · exact if_neg e
theorem J.newG {l : Launch} {own : String} {cc : ByteArray} {nL : Nat} {rt : Option FieldType} {d kc ks : Nat} {fi : Bool} {F : Nat × (Int → Int)} {Post : Option VT → Shp → Mm → Prop} {a b pc : Nat} {ls : List (Option VT)} {st : List VT} {iv : Mm} {ci n m a1 b1 ix q : Nat} (hd : decode cc pc = .ok (.new ix, 3)) (hc : ci < 7) (hK : K0 n = (ci + 3, 0)) (hm : ∀ x ∈ rO.take m, x.1 ≠ n) (hn9 : n + 1 < 1000) (hw : Cond.classLink own ix (cR ci) ∈ gtb) (hw2 : Cond.instantiable (cR ci) (cN ci) ∈ gtb) (hw3 : Cond.initialized (cR ci) ∈ gtb) (hcap : a1 ≤ kc ∧ b1 ≤ ks) (ha : a + 1 = a1) (hb : b + cN ci = b1) (hq : pc + 3 = q) (hz : iv n = fun _ => 0) (k : J l own cc nL rt d kc ks fi F Post a1 b1 q ls (r_ n :: st) (Sg (n + 1) m) iv) : J l own cc nL rt d kc ks fi F Post a b pc ls st (Sg n m) iv := by
  subst ha
  subst hb
  exact J.new hd hc rfl hn9 hw hw2 hw3 hcap hq (by rw [Sg_nw hK hm, nz_eq hz]; exact k)
theorem J.newIG {l : Launch} {own : String} {cc : ByteArray} {nL : Nat} {rt : Option FieldType} {d kc ks : Nat} {fi : Bool} {F : Nat × (Int → Int)} {Post : Option VT → Shp → Mm → Prop} {a b pc : Nat} {ls : List (Option VT)} {st : List VT} {iv : Mm} {x : Int} {N n m a1 b1 q : Nat} (hd : decode cc pc = .ok (.newarray .int, 2)) (hx0 : x = (N : Int)) (hLn : N < 65536) (hK : K0 n = (0, N)) (hm : ∀ x ∈ rO.take m, x.1 ≠ n) (hn9 : n + 1 < 1000) (hw : Cond.arrayClass .int ∈ gtb) (hcap : a1 ≤ kc ∧ b1 ≤ ks) (ha : a + 1 = a1) (hb : b + N = b1) (hq : pc + 2 = q) (hz : iv n = fun _ => 0) (k : J l own cc nL rt d kc ks fi F Post a1 b1 q ls (r_ n :: st) (Sg (n + 1) m) iv) : J l own cc nL rt d kc ks fi F Post a b pc ls (i_ x :: st) (Sg n m) iv := by
  subst ha
  subst hb
  exact J.newI hd hx0 hLn rfl hn9 hw hcap hq (by rw [Sg_nw hK hm, nz_eq hz]; exact k)
theorem J.newZG {l : Launch} {own : String} {cc : ByteArray} {nL : Nat} {rt : Option FieldType} {d kc ks : Nat} {fi : Bool} {F : Nat × (Int → Int)} {Post : Option VT → Shp → Mm → Prop} {a b pc : Nat} {ls : List (Option VT)} {st : List VT} {iv : Mm} {x : Int} {N n m a1 b1 q : Nat} (hd : decode cc pc = .ok (.newarray .boolean, 2)) (hx0 : x = (N : Int)) (hLn : N < 65536) (hK : K0 n = (1, N)) (hm : ∀ x ∈ rO.take m, x.1 ≠ n) (hn9 : n + 1 < 1000) (hw : Cond.arrayClass .boolean ∈ gtb) (hcap : a1 ≤ kc ∧ b1 ≤ ks) (ha : a + 1 = a1) (hb : b + N = b1) (hq : pc + 2 = q) (hz : iv n = fun _ => 0) (k : J l own cc nL rt d kc ks fi F Post a1 b1 q ls (r_ n :: st) (Sg (n + 1) m) iv) : J l own cc nL rt d kc ks fi F Post a b pc ls (i_ x :: st) (Sg n m) iv := by
  subst ha
  subst hb
  exact J.newZ hd hx0 hLn rfl hn9 hw hcap hq (by rw [Sg_nw hK hm, nz_eq hz]; exact k)
theorem J.newCG {l : Launch} {own : String} {cc : ByteArray} {nL : Nat} {rt : Option FieldType} {d kc ks : Nat} {fi : Bool} {F : Nat × (Int → Int)} {Post : Option VT → Shp → Mm → Prop} {a b pc : Nat} {ls : List (Option VT)} {st : List VT} {iv : Mm} {x : Int} {N n m a1 b1 q : Nat} (hd : decode cc pc = .ok (.newarray .char, 2)) (hx0 : x = (N : Int)) (hLn : N < 65536) (hK : K0 n = (2, N)) (hm : ∀ x ∈ rO.take m, x.1 ≠ n) (hn9 : n + 1 < 1000) (hw : Cond.arrayClass .char ∈ gtb) (hcap : a1 ≤ kc ∧ b1 ≤ ks) (ha : a + 1 = a1) (hb : b + N = b1) (hq : pc + 2 = q) (hz : iv n = fun _ => 0) (k : J l own cc nL rt d kc ks fi F Post a1 b1 q ls (r_ n :: st) (Sg (n + 1) m) iv) : J l own cc nL rt d kc ks fi F Post a b pc ls (i_ x :: st) (Sg n m) iv := by
  subst ha
  subst hb
  exact J.newC hd hx0 hLn rfl hn9 hw hcap hq (by rw [Sg_nw hK hm, nz_eq hz]; exact k)
theorem J.putFG {l : Launch} {own : String} {cc : ByteArray} {nL : Nat} {rt : Option FieldType} {d kc ks : Nat} {fi : Bool} {F : Nat × (Int → Int)} {Post : Option VT → Shp → Mm → Prop} {a b pc : Nat} {ls : List (Option VT)} {st : List VT} {iv : Mm} {c0 c1 ci k0 n m ix q : Nat} (hd : decode cc pc = .ok (.putfield ix, 3)) (hw : Cond.fieldLink own ix (cT ci k0).1 (cT ci k0).2.1 (cT ci k0).2.2.1 ∈ gtb) (hK : K0 c0 = (ci + 3, 0)) (hlt : c0 < n) (hc : ci < 7) (hk0 : k0 < cN ci) (hfi1 : fi = true) (hty : (match cY ci k0 with | .object _ => true | .array _ => true | _ => false) = true) (hfin : (cT ci k0).2.2.2 = true) (hdecl : (cT ci k0).1 = own) (hc1 : c1 < 1000) (h1 : rO.take (m + 1) = rO.take m ++ [(c0, k0)]) (h2 : R0 c0 k0 = c1) (k : J l own cc nL rt d kc ks fi F Post a b q ls st (Sg n (m + 1)) iv) (hq : pc + 3 = q := by rfl) : J l own cc nL rt d kc ks fi F Post a b pc ls (r_ c1 :: r_ c0 :: st) (Sg n m) iv := by
  refine J.putF hd hw (by show (if c0 < n then K0 c0 else (99, 0)) = _; rw [if_pos hlt, hK]) hc hk0 hfi1 hty hfin hdecl hc1 hq ?_
  rw [Sg_up h1 h2]
  exact k
def IP (n m : Nat) (P : Mm → Prop) : Option VT → Shp → Mm → Prop := fun v S iv2 => v = none ∧ S = Sg n m ∧ P iv2
theorem J.callIG {l : Launch} {own : String} {cc : ByteArray} {nL : Nat} {rt : Option FieldType} {d kc ks : Nat} {fi : Bool} {F : Nat × (Int → Int)} {Post : Option VT → Shp → Mm → Prop} {a b pc : Nat} {ls : List (Option VT)} {st : List VT} {iv : Mm} {y : MethodName} {bytes : ByteArray} {maxL d1 k1 s1 a1 b1 ix q n m n1 m1 c0 : Nat} {P1 : Mm → Prop} (hd : decode cc pc = .ok (.invokespecial ix, 3)) (hm : MVi y bytes maxL none 0) (hyn : y.name = "<init>") (hw : Cond.methodLink own ix y ∈ gtb) (hc0 : c0 < 1000) (hdd : d1 + 1 ≤ d ∧ maxL + 19 + 38 * d1 ≤ 38 * d) (hsum : Nat.ble (st.map w2).sum 8 = true) (hcap : a1 ≤ kc ∧ b1 ≤ ks) (ha : a + k1 = a1) (hb : b + s1 = b1) (hq : pc + 3 = q) (hC : Ctr l F d1 k1 s1 y bytes maxL none [r_ c0] (Sg n m) iv (IP n1 m1 P1)) (k : ∀ iv1 : Mm, P1 iv1 → J l own cc nL rt d kc ks fi F Post a1 b1 q ls st (Sg n1 m1) iv1) : J l own cc nL rt d kc ks fi F Post a b pc ls (r_ c0 :: st) (Sg n m) iv := by
  subst ha
  subst hb
  refine J.callI (av := []) hC hd hm rfl hyn hw hc0 rfl hdd (Nat.le_of_ble_eq_true hsum) hcap hq fun v S iv1 hp => ?_
  obtain ⟨rfl, rfl, hp⟩ := hp
  exact k iv1 hp
theorem J.callING {l : Launch} {own : String} {cc : ByteArray} {nL : Nat} {rt : Option FieldType} {d kc ks : Nat} {fi : Bool} {F : Nat × (Int → Int)} {Post : Option VT → Shp → Mm → Prop} {a b pc : Nat} {ls : List (Option VT)} {st : List VT} {iv : Mm} {y : MethodName} {bytes : ByteArray} {maxL d1 k1 s1 a1 b1 ix q n m n1 m1 c0 : Nat} {P1 : Mm → Prop} (hd : decode cc pc = .ok (.invokespecial ix, 3)) (hm : MVi y bytes maxL none 0) (hyn : y.name = "<init>") (hw : (own, ix, y) ∈ nestW) (hc0 : c0 < 1000) (hdd : d1 + 1 ≤ d ∧ maxL + 19 + 38 * d1 ≤ 38 * d) (hsum : Nat.ble (st.map w2).sum 8 = true) (hcap : a1 ≤ kc ∧ b1 ≤ ks) (ha : a + k1 = a1) (hb : b + s1 = b1) (hq : pc + 3 = q) (hC : Ctr l F d1 k1 s1 y bytes maxL none [r_ c0] (Sg n m) iv (IP n1 m1 P1)) (k : ∀ iv1 : Mm, P1 iv1 → J l own cc nL rt d kc ks fi F Post a1 b1 q ls st (Sg n1 m1) iv1) : J l own cc nL rt d kc ks fi F Post a b pc ls (r_ c0 :: st) (Sg n m) iv := by
  subst ha
  subst hb
  refine J.callIN (av := []) hC hd hm rfl hyn hw hc0 rfl hdd (Nat.le_of_ble_eq_true hsum) hcap hq fun v S iv1 hp => ?_
  obtain ⟨rfl, rfl, hp⟩ := hp
  exact k iv1 hp
theorem J.ivE {l : Launch} {own : String} {cc : ByteArray} {nL : Nat} {rt : Option FieldType} {d kc ks : Nat} {fi : Bool} {F : Nat × (Int → Int)} {Post : Option VT → Shp → Mm → Prop} {a b pc : Nat} {ls : List (Option VT)} {st : List VT} {iv : Mm} {S : Shp} {iv2 : Mm} (e : iv = iv2) (k : J l own cc nL rt d kc ks fi F Post a b pc ls st S iv2) : J l own cc nL rt d kc ks fi F Post a b pc ls st S iv := e ▸ k
/-- row q holds the first k numbers of g, and nothing else -/
def Wr (iv : Mm) (q : Nat) (g : Int → Int) (k : Nat) : Mm := fun c => if c = q then (fun j => if 0 ≤ j ∧ j < k then g j else 0) else iv c
theorem Wr_0 {iv : Mm} {q : Nat} (g : Int → Int) (h : iv q = fun _ => 0) : iv = Wr iv q g 0 := by
  funext c
  unfold Wr
  by_cases e : c = q
  · subst e
    rw [if_pos rfl, h]
    funext j
    rw [if_neg (by omega)]
  · rw [if_neg e]
theorem Wr_up {iv : Mm} {q : Nat} {g : Int → Int} {k : Nat} {i x : Int} (hi : i = (k : Int)) (hx : g i = x) : up (Wr iv q g k) q i x = Wr iv q g (k + 1) := by
  funext c
  by_cases e : c = q
  · subst e
    have w : ∀ k : Nat, Wr iv c g k c = fun j => if 0 ≤ j ∧ j < (k : Int) then g j else 0 := fun k => if_pos rfl
    rw [up_s, w (k + 1)]
    funext j
    unfold upr
    rw [w k]
    by_cases e2 : j = i
    · rw [if_pos e2, if_pos (by omega), e2, hx]
    · rw [if_neg e2]
      show (if 0 ≤ j ∧ j < (k : Int) then g j else 0) = _
      by_cases e3 : 0 ≤ j ∧ j < (k : Int)
      · rw [if_pos e3, if_pos (by omega)]
      · rw [if_neg e3, if_neg (by omega)]
  · rw [up_n _ _ _ e]
    unfold Wr
    rw [if_neg e, if_neg e]
theorem J.castW {l : Launch} {own : String} {cc : ByteArray} {nL : Nat} {rt : Option FieldType} {d kc ks : Nat} {fi : Bool} {F : Nat × (Int → Int)} {Post : Option VT → Shp → Mm → Prop} {a b pc : Nat} {ls : List (Option VT)} {st : List VT} {iv : Mm} {S : Shp} {g : Int → Int} {i x : Int} {c0 n j q : Nat} (hd : decode cc pc = .ok (.castore, 1)) (hk : S.2.1 c0 = (2, n)) (hi : i = (j : Int)) (hx : g i = x) (hj : j < n) (hx01 : 0 ≤ x ∧ x < 65536) (hq : pc + 1 = q) (k : J l own cc nL rt d kc ks fi F Post a b q ls st S (Wr iv c0 g (j + 1))) : J l own cc nL rt d kc ks fi F Post a b pc ls (i_ x :: i_ i :: r_ c0 :: st) S (Wr iv c0 g j) :=
  J.cast hd hk (by omega) hx01 (by rw [Wr_up hi hx]; exact k) hq
/-- a republic as it is made -/
def sI : Int → Int := fun j => if j = 3 ∨ j = 5 then 1 else if j = 4 then 5 else if (176 ≤ j ∧ j < 257) ∨ (297 ≤ j ∧ j < 307) then -1 else 0
theorem sI_0 {j : Int} (h : j ≠ 3 ∧ j ≠ 4 ∧ j ≠ 5 ∧ ¬ (176 ≤ j ∧ j < 257) ∧ ¬ (297 ≤ j ∧ j < 307)) : sI j = 0 := by unfold sI; rw [if_neg (by omega), if_neg (by omega), if_neg (by omega)]
theorem sI_n {j : Int} (h : (176 ≤ j ∧ j < 257) ∨ (297 ≤ j ∧ j < 307)) : sI j = -1 := by unfold sI; rw [if_neg (by omega), if_neg (by omega), if_pos h]
theorem sI_MI : MI 99999 sI := by
  refine ⟨by decide, by decide, by decide, by decide, by decide, fun j h0 h1 => ?_, fun c h0 h1 => ?_, fun k h0 h1 => ?_, fun j h0 h1 => ?_⟩
  · rw [sI_0 (by omega)]; decide
  · rw [sI_0 (by omega), sI_0 (by omega), sI_n (by omega)]; decide
  · rw [sI_0 (by omega), sI_0 (by omega), sI_0 (by omega), sI_0 (by omega), sI_0 (by omega)]; decide
  · rw [sI_n (by omega), sI_0 (by omega)]; decide
set_option maxRecDepth 100000 in
set_option maxHeartbeats 4000000 in
theorem fillG81_loop {l : Launch} {F : Nat × (Int → Int)} {S : Shp} {q : Nat} (hk : S.2.1 q = (0, 81)) {iv : Mm} {x : Int} : ∀ (n : Nat) (c : Int) (iv1 : Mm), (81 - c < n) → (0 ≤ c ∧ c ≤ 81) → (∀ p, p ≠ q → iv1 p = iv p) → (∀ j, 0 ≤ j → j < c → iv1 q j = x) → J l (yJ7_fill_53178).cls cJ7_fill_53178 4 none 0 0 0 false F (fun v S2 iv2 => v = none ∧ S2 = S ∧ (∀ p, p ≠ q → iv2 p = iv p) ∧ ∀ j, 0 ≤ j → j < 81 → iv2 q j = x) 0 0 5 [some (r_ q), some (i_ x), some (i_ c), some (i_ 81)] [] S (iv1) := by
  intro n
  induction n with
  | zero =>
    intro c iv1 hn hc hf hd
    omega
  | succ n ih =>
    intro c iv1 hn hc hf hd
    refine J.iload_n (q := 6) dJ7_fill_53178_5 rfl ?_ rfl
    refine J.iload_n (q := 7) dJ7_fill_53178_6 rfl ?_ rfl
    refine J.icmp_ge (tgt := 20) (q := 10) dJ7_fill_53178_7 rfl rfl (fun c7 => ?_) (fun c7 => ?_)
    · refine J.vreturn dJ7_fill_53178_20 rfl ?_
      exact ⟨rfl, rfl, hf, fun j h0 h1 => hd j h0 (by omega)⟩
    · refine J.aload_n (q := 11) dJ7_fill_53178_10 rfl ?_ rfl
      refine J.iload_n (q := 12) dJ7_fill_53178_11 rfl ?_ rfl
      refine J.iload_n (q := 13) dJ7_fill_53178_12 rfl ?_ rfl
      refine J.iast (n := 81) (q := 14) dJ7_fill_53178_13 hk (by omega) ?_ rfl
      refine J.iinc (q := 17) dJ7_fill_53178_14 rfl ?_ rfl
      refine J.goto (tgt := 5) dJ7_fill_53178_17 rfl ?_
      refine ih (c + 1) _ (by omega) (by omega) (fun p hp => ?_) (fun j h0 h1 => ?_)
      · rw [up_n _ _ _ hp]; exact hf p hp
      · rw [up_s]
        by_cases hj : j = c
        · subst hj; rw [upr_s]
        · rw [upr_n _ _ hj]; exact hd j h0 (by omega)

set_option maxRecDepth 100000 in
set_option maxHeartbeats 4000000 in
theorem c_fillG81 {l : Launch} {F : Nat × (Int → Int)} {S : Shp} {q : Nat} (hk : S.2.1 q = (0, 81)) {iv : Mm} {x : Int} : Ctr l F 0 0 0 yJ7_fill_53178 cJ7_fill_53178 4 none [r_ q, i_ x] S (iv) (fun v S2 iv2 => v = none ∧ S2 = S ∧ (∀ p, p ≠ q → iv2 p = iv p) ∧ ∀ j, 0 ≤ j → j < 81 → iv2 q j = x) := by
  refine Ctr.of false (fun h => by cases h) (by decide) rfl (Nat.le_of_ble_eq_true rfl) ?_
  refine J.iconst (q := 1) dJ7_fill_53178_0 ?_ rfl
  refine J.istore_n (q := 2) dJ7_fill_53178_1 (Nat.le_of_ble_eq_true rfl) ?_ rfl
  refine J.aload_n (q := 3) dJ7_fill_53178_2 rfl ?_ rfl
  refine J.alen0 (n := 81) (q := 4) dJ7_fill_53178_3 hk ?_ rfl
  refine J.istore_n (q := 5) dJ7_fill_53178_4 (Nat.le_of_ble_eq_true rfl) ?_ rfl
  exact fillG81_loop hk 82 0 iv (by omega) (by omega) (fun _ _ => rfl) (fun j h0 h1 => by omega)

set_option maxRecDepth 100000 in
set_option maxHeartbeats 4000000 in
theorem fillG10_loop {l : Launch} {F : Nat × (Int → Int)} {S : Shp} {q : Nat} (hk : S.2.1 q = (0, 10)) {iv : Mm} {x : Int} : ∀ (n : Nat) (c : Int) (iv1 : Mm), (10 - c < n) → (0 ≤ c ∧ c ≤ 10) → (∀ p, p ≠ q → iv1 p = iv p) → (∀ j, 0 ≤ j → j < c → iv1 q j = x) → J l (yJ7_fill_53178).cls cJ7_fill_53178 4 none 0 0 0 false F (fun v S2 iv2 => v = none ∧ S2 = S ∧ (∀ p, p ≠ q → iv2 p = iv p) ∧ ∀ j, 0 ≤ j → j < 10 → iv2 q j = x) 0 0 5 [some (r_ q), some (i_ x), some (i_ c), some (i_ 10)] [] S (iv1) := by
  intro n
  induction n with
  | zero =>
    intro c iv1 hn hc hf hd
    omega
  | succ n ih =>
    intro c iv1 hn hc hf hd
    refine J.iload_n (q := 6) dJ7_fill_53178_5 rfl ?_ rfl
    refine J.iload_n (q := 7) dJ7_fill_53178_6 rfl ?_ rfl
    refine J.icmp_ge (tgt := 20) (q := 10) dJ7_fill_53178_7 rfl rfl (fun c7 => ?_) (fun c7 => ?_)
    · refine J.vreturn dJ7_fill_53178_20 rfl ?_
      exact ⟨rfl, rfl, hf, fun j h0 h1 => hd j h0 (by omega)⟩
    · refine J.aload_n (q := 11) dJ7_fill_53178_10 rfl ?_ rfl
      refine J.iload_n (q := 12) dJ7_fill_53178_11 rfl ?_ rfl
      refine J.iload_n (q := 13) dJ7_fill_53178_12 rfl ?_ rfl
      refine J.iast (n := 10) (q := 14) dJ7_fill_53178_13 hk (by omega) ?_ rfl
      refine J.iinc (q := 17) dJ7_fill_53178_14 rfl ?_ rfl
      refine J.goto (tgt := 5) dJ7_fill_53178_17 rfl ?_
      refine ih (c + 1) _ (by omega) (by omega) (fun p hp => ?_) (fun j h0 h1 => ?_)
      · rw [up_n _ _ _ hp]; exact hf p hp
      · rw [up_s]
        by_cases hj : j = c
        · subst hj; rw [upr_s]
        · rw [upr_n _ _ hj]; exact hd j h0 (by omega)

set_option maxRecDepth 100000 in
set_option maxHeartbeats 4000000 in
theorem c_fillG10 {l : Launch} {F : Nat × (Int → Int)} {S : Shp} {q : Nat} (hk : S.2.1 q = (0, 10)) {iv : Mm} {x : Int} : Ctr l F 0 0 0 yJ7_fill_53178 cJ7_fill_53178 4 none [r_ q, i_ x] S (iv) (fun v S2 iv2 => v = none ∧ S2 = S ∧ (∀ p, p ≠ q → iv2 p = iv p) ∧ ∀ j, 0 ≤ j → j < 10 → iv2 q j = x) := by
  refine Ctr.of false (fun h => by cases h) (by decide) rfl (Nat.le_of_ble_eq_true rfl) ?_
  refine J.iconst (q := 1) dJ7_fill_53178_0 ?_ rfl
  refine J.istore_n (q := 2) dJ7_fill_53178_1 (Nat.le_of_ble_eq_true rfl) ?_ rfl
  refine J.aload_n (q := 3) dJ7_fill_53178_2 rfl ?_ rfl
  refine J.alen0 (n := 10) (q := 4) dJ7_fill_53178_3 hk ?_ rfl
  refine J.istore_n (q := 5) dJ7_fill_53178_4 (Nat.le_of_ble_eq_true rfl) ?_ rfl
  exact fillG10_loop hk 11 0 iv (by omega) (by omega) (fun _ _ => rfl) (fun j h0 h1 => by omega)

set_option maxRecDepth 100000 in
set_option maxHeartbeats 4000000 in
theorem c_X1_init_1 {l : Launch} {F : Nat × (Int → Int)} {iv : Mm} (hz : ∀ q, 1 ≤ q → iv q = fun _ => 0) : Ctr l F 1 11 382 yX1_init cX1_init 1 none [r_ 1] (Sg 2 0) iv (IP 13 11 (fun iv2 => (∀ q, (q < 1 ∨ 13 ≤ q) → iv2 q = iv q) ∧ RR iv2 1 sI)) := by
  refine Ctr.of true (fun _ => rfl) (by decide) rfl (Nat.le_of_ble_eq_true rfl) ?_
  refine J.aload_n (q := 1) dX1_init_0 rfl ?_ rfl
  refine J.objInit (q := 4) dX1_init_1 kL_X1_3 rfl (by decide) rfl ?_
  refine J.aload_n (q := 5) dX1_init_4 rfl ?_ rfl
  refine J.bipush (q := 7) dX1_init_5 (by decide) ?_ rfl
  refine J.newIG (q := 9) (N := 81) (n := 2) (m := 0) (a1 := 1) (b1 := 81) dX1_init_7 rfl (by decide) rfl (by decide +kernel) (by decide) kA_int ⟨by decide, by decide⟩ rfl rfl rfl (hz 2 (by omega)) ?_
  refine J.putFG (q := 12) (ci := 1) (k0 := 0) (n := 3) (m := 0) dX1_init_9 kF_X1_9 rfl (by decide) (by decide) (by decide) rfl rfl rfl rfl (by decide) rfl rfl ?_
  refine J.aload_n (q := 13) dX1_init_12 rfl ?_ rfl
  refine J.bipush (q := 15) dX1_init_13 (by decide) ?_ rfl
  refine J.newIG (q := 17) (N := 81) (n := 3) (m := 1) (a1 := 2) (b1 := 162) dX1_init_15 rfl (by decide) rfl (by decide +kernel) (by decide) kA_int ⟨by decide, by decide⟩ rfl rfl rfl (hz 3 (by omega)) ?_
  refine J.putFG (q := 20) (ci := 1) (k0 := 1) (n := 4) (m := 1) dX1_init_17 kF_X1_15 rfl (by decide) (by decide) (by decide) rfl rfl rfl rfl (by decide) rfl rfl ?_
  refine J.aload_n (q := 21) dX1_init_20 rfl ?_ rfl
  refine J.bipush (q := 23) dX1_init_21 (by decide) ?_ rfl
  refine J.newIG (q := 25) (N := 81) (n := 4) (m := 2) (a1 := 3) (b1 := 243) dX1_init_23 rfl (by decide) rfl (by decide +kernel) (by decide) kA_int ⟨by decide, by decide⟩ rfl rfl rfl (hz 4 (by omega)) ?_
  refine J.putFG (q := 28) (ci := 1) (k0 := 2) (n := 5) (m := 2) dX1_init_25 kF_X1_18 rfl (by decide) (by decide) (by decide) rfl rfl rfl rfl (by decide) rfl rfl ?_
  refine J.aload_n (q := 29) dX1_init_28 rfl ?_ rfl
  refine J.bipush (q := 31) dX1_init_29 (by decide) ?_ rfl
  refine J.newIG (q := 33) (N := 81) (n := 5) (m := 3) (a1 := 4) (b1 := 324) dX1_init_31 rfl (by decide) rfl (by decide +kernel) (by decide) kA_int ⟨by decide, by decide⟩ rfl rfl rfl (hz 5 (by omega)) ?_
  refine J.putFG (q := 36) (ci := 1) (k0 := 3) (n := 6) (m := 3) dX1_init_33 kF_X1_21 rfl (by decide) (by decide) (by decide) rfl rfl rfl rfl (by decide) rfl rfl ?_
  refine J.aload_n (q := 37) dX1_init_36 rfl ?_ rfl
  refine J.bipush (q := 39) dX1_init_37 (by decide) ?_ rfl
  refine J.newIG (q := 41) (N := 8) (n := 6) (m := 4) (a1 := 5) (b1 := 332) dX1_init_39 rfl (by decide) rfl (by decide +kernel) (by decide) kA_int ⟨by decide, by decide⟩ rfl rfl rfl (hz 6 (by omega)) ?_
  refine J.putFG (q := 44) (ci := 1) (k0 := 4) (n := 7) (m := 4) dX1_init_41 kF_X1_24 rfl (by decide) (by decide) (by decide) rfl rfl rfl rfl (by decide) rfl rfl ?_
  refine J.aload_n (q := 45) dX1_init_44 rfl ?_ rfl
  refine J.bipush (q := 47) dX1_init_45 (by decide) ?_ rfl
  refine J.newIG (q := 49) (N := 8) (n := 7) (m := 5) (a1 := 6) (b1 := 340) dX1_init_47 rfl (by decide) rfl (by decide +kernel) (by decide) kA_int ⟨by decide, by decide⟩ rfl rfl rfl (hz 7 (by omega)) ?_
  refine J.putFG (q := 52) (ci := 1) (k0 := 5) (n := 8) (m := 5) dX1_init_49 kF_X1_27 rfl (by decide) (by decide) (by decide) rfl rfl rfl rfl (by decide) rfl rfl ?_
  refine J.aload_n (q := 53) dX1_init_52 rfl ?_ rfl
  refine J.bipush (q := 55) dX1_init_53 (by decide) ?_ rfl
  refine J.newIG (q := 57) (N := 8) (n := 8) (m := 6) (a1 := 7) (b1 := 348) dX1_init_55 rfl (by decide) rfl (by decide +kernel) (by decide) kA_int ⟨by decide, by decide⟩ rfl rfl rfl (hz 8 (by omega)) ?_
  refine J.putFG (q := 60) (ci := 1) (k0 := 6) (n := 9) (m := 6) dX1_init_57 kF_X1_30 rfl (by decide) (by decide) (by decide) rfl rfl rfl rfl (by decide) rfl rfl ?_
  refine J.aload_n (q := 61) dX1_init_60 rfl ?_ rfl
  refine J.bipush (q := 63) dX1_init_61 (by decide) ?_ rfl
  refine J.newIG (q := 65) (N := 8) (n := 9) (m := 7) (a1 := 8) (b1 := 356) dX1_init_63 rfl (by decide) rfl (by decide +kernel) (by decide) kA_int ⟨by decide, by decide⟩ rfl rfl rfl (hz 9 (by omega)) ?_
  refine J.putFG (q := 68) (ci := 1) (k0 := 7) (n := 10) (m := 7) dX1_init_65 kF_X1_33 rfl (by decide) (by decide) (by decide) rfl rfl rfl rfl (by decide) rfl rfl ?_
  refine J.aload_n (q := 69) dX1_init_68 rfl ?_ rfl
  refine J.bipush (q := 71) dX1_init_69 (by decide) ?_ rfl
  refine J.newIG (q := 73) (N := 8) (n := 10) (m := 8) (a1 := 9) (b1 := 364) dX1_init_71 rfl (by decide) rfl (by decide +kernel) (by decide) kA_int ⟨by decide, by decide⟩ rfl rfl rfl (hz 10 (by omega)) ?_
  refine J.putFG (q := 76) (ci := 1) (k0 := 8) (n := 11) (m := 8) dX1_init_73 kF_X1_36 rfl (by decide) (by decide) (by decide) rfl rfl rfl rfl (by decide) rfl rfl ?_
  refine J.aload_n (q := 77) dX1_init_76 rfl ?_ rfl
  refine J.bipush (q := 79) dX1_init_77 (by decide) ?_ rfl
  refine J.newIG (q := 81) (N := 8) (n := 11) (m := 9) (a1 := 10) (b1 := 372) dX1_init_79 rfl (by decide) rfl (by decide +kernel) (by decide) kA_int ⟨by decide, by decide⟩ rfl rfl rfl (hz 11 (by omega)) ?_
  refine J.putFG (q := 84) (ci := 1) (k0 := 9) (n := 12) (m := 9) dX1_init_81 kF_X1_39 rfl (by decide) (by decide) (by decide) rfl rfl rfl rfl (by decide) rfl rfl ?_
  refine J.aload_n (q := 85) dX1_init_84 rfl ?_ rfl
  refine J.bipush (q := 87) dX1_init_85 (by decide) ?_ rfl
  refine J.newIG (q := 89) (N := 10) (n := 12) (m := 10) (a1 := 11) (b1 := 382) dX1_init_87 rfl (by decide) rfl (by decide +kernel) (by decide) kA_int ⟨by decide, by decide⟩ rfl rfl rfl (hz 12 (by omega)) ?_
  refine J.putFG (q := 92) (ci := 1) (k0 := 10) (n := 13) (m := 10) dX1_init_89 kF_X1_42 rfl (by decide) (by decide) (by decide) rfl rfl rfl rfl (by decide) rfl rfl ?_
  refine J.aload_n (q := 93) dX1_init_92 rfl ?_ rfl
  refine J.iconst (q := 94) dX1_init_93 ?_ rfl
  refine J.putI (ci := 1) (k0 := 11) (kz := 11) (q := 97) dX1_init_94 kF_X1_45 rfl (by decide) (by decide) rfl rfl rfl ?_ rfl
  refine J.aload_n (q := 98) dX1_init_97 rfl ?_ rfl
  refine J.iconst (q := 99) dX1_init_98 ?_ rfl
  refine J.putI (ci := 1) (k0 := 12) (kz := 12) (q := 102) dX1_init_99 kF_X1_49 rfl (by decide) (by decide) rfl rfl rfl ?_ rfl
  refine J.aload_n (q := 103) dX1_init_102 rfl ?_ rfl
  refine J.iconst (q := 104) dX1_init_103 ?_ rfl
  refine J.putI (ci := 1) (k0 := 13) (kz := 13) (q := 107) dX1_init_104 kF_X1_52 rfl (by decide) (by decide) rfl rfl rfl ?_ rfl
  refine J.aload_n (q := 108) dX1_init_107 rfl ?_ rfl
  refine J.iconst (q := 109) dX1_init_108 ?_ rfl
  refine J.putI (ci := 1) (k0 := 14) (kz := 14) (q := 112) dX1_init_109 kF_X1_55 rfl (by decide) (by decide) rfl rfl rfl ?_ rfl
  refine J.aload_n (q := 113) dX1_init_112 rfl ?_ rfl
  refine J.iconst (q := 114) dX1_init_113 ?_ rfl
  refine J.putI (ci := 1) (k0 := 15) (kz := 15) (q := 117) dX1_init_114 kF_X1_58 rfl (by decide) (by decide) rfl rfl rfl ?_ rfl
  refine J.aload_n (q := 118) dX1_init_117 rfl ?_ rfl
  refine J.iconst (q := 119) dX1_init_118 ?_ rfl
  refine J.putI (ci := 1) (k0 := 16) (kz := 16) (q := 122) dX1_init_119 kF_X1_61 rfl (by decide) (by decide) rfl rfl rfl ?_ rfl
  refine J.aload_n (q := 123) dX1_init_122 rfl ?_ rfl
  refine J.getR (ci := 1) (k0 := 2) (c1 := 4) (q := 126) dX1_init_123 kF_X1_18 rfl (by decide) (by decide) rfl (by decide) rfl ?_ rfl
  refine J.iconst (q := 127) dX1_init_126 ?_ rfl
  refine J.callS2 (q := 130) dX1_init_127 mv_J7_fill_53178 kS_J7_fill_53178 kL_X1_64 ⟨by decide, by decide⟩ (Nat.le_of_ble_eq_true rfl) ⟨by decide, by decide⟩ rfl (c_fillG81 (q := 4) rfl) (fun v9 S9 iv9 hp => ?_)
  obtain ⟨rfl, rfl, e1, e2⟩ := hp
  refine J.aload_n (q := 131) dX1_init_130 rfl ?_ rfl
  refine J.getR (ci := 1) (k0 := 10) (c1 := 12) (q := 134) dX1_init_131 kF_X1_42 rfl (by decide) (by decide) rfl (by decide) rfl ?_ rfl
  refine J.iconst (q := 135) dX1_init_134 ?_ rfl
  refine J.callS2 (q := 138) dX1_init_135 mv_J7_fill_53178 kS_J7_fill_53178 kL_X1_64 ⟨by decide, by decide⟩ (Nat.le_of_ble_eq_true rfl) ⟨by decide, by decide⟩ rfl (c_fillG10 (q := 12) rfl) (fun v8 S8 iv8 hp => ?_)
  obtain ⟨rfl, rfl, f1, f2⟩ := hp
  refine J.vreturn dX1_init_138 rfl ?_
  refine ⟨rfl, rfl, fun q hq => ?_, fun p i t hp => ?_⟩
  · rw [f1 _ (by omega), e1 _ (by omega)]
    repeat rw [up_n _ _ _ (by omega)]
  · unfold Pl at hp
    have hr : ∀ j : Int, iv 1 j = 0 := fun j => congrFun (hz 1 (by omega)) j
    rcases hp with ⟨rfl, rfl, rfl⟩ | ⟨rfl, rfl, rfl⟩ | ⟨rfl, rfl, rfl⟩ | ⟨rfl, rfl, rfl⟩ | ⟨rfl, rfl, rfl⟩ | ⟨rfl, rfl, rfl⟩ | ⟨rfl, h0, h1, rfl⟩ | ⟨rfl, h0, h1, rfl⟩ | ⟨rfl, h0, h1, rfl⟩ | ⟨rfl, h0, h1, rfl⟩ | ⟨rfl, h0, h1, rfl⟩ | ⟨rfl, h0, h1, rfl⟩ | ⟨rfl, h0, h1, rfl⟩ | ⟨rfl, h0, h1, rfl⟩ | ⟨rfl, h0, h1, rfl⟩ | ⟨rfl, h0, h1, rfl⟩
    · rw [f1 _ (by omega), e1 _ (by omega)]; rfl
    · rw [f1 _ (by omega), e1 _ (by omega)]; rfl
    · rw [f1 _ (by omega), e1 _ (by omega)]; rfl
    · rw [f1 _ (by omega), e1 _ (by omega)]; rfl
    · rw [f1 _ (by omega), e1 _ (by omega)]; rfl
    · rw [f1 _ (by omega), e1 _ (by omega)]; rfl
    · rw [f1 _ (by omega), e1 _ (by omega), sI_0 (by omega)]; exact congrFun (hz 2 (by omega)) i
    · rw [f1 _ (by omega), e1 _ (by omega), sI_0 (by omega)]; exact congrFun (hz 3 (by omega)) i
    · rw [f1 _ (by omega), sI_n (by omega)]; exact e2 i h0 h1
    · rw [f1 _ (by omega), e1 _ (by omega), sI_0 (by omega)]; exact congrFun (hz 6 (by omega)) i
    · rw [f1 _ (by omega), e1 _ (by omega), sI_0 (by omega)]; exact congrFun (hz 7 (by omega)) i
    · rw [f1 _ (by omega), e1 _ (by omega), sI_0 (by omega)]; exact congrFun (hz 8 (by omega)) i
    · rw [f1 _ (by omega), e1 _ (by omega), sI_0 (by omega)]; exact congrFun (hz 9 (by omega)) i
    · rw [f1 _ (by omega), e1 _ (by omega), sI_0 (by omega)]; exact congrFun (hz 10 (by omega)) i
    · rw [f1 _ (by omega), e1 _ (by omega), sI_0 (by omega)]; exact congrFun (hz 11 (by omega)) i
    · rw [sI_n (by omega)]; exact f2 i h0 h1

set_option maxRecDepth 100000 in
set_option maxHeartbeats 4000000 in
theorem c_X1_init_13 {l : Launch} {F : Nat × (Int → Int)} {iv : Mm} (hz : ∀ q, 13 ≤ q → iv q = fun _ => 0) : Ctr l F 1 11 382 yX1_init cX1_init 1 none [r_ 13] (Sg 14 12) iv (IP 25 23 (fun iv2 => (∀ q, (q < 13 ∨ 25 ≤ q) → iv2 q = iv q) ∧ RR iv2 13 sI)) := by
  refine Ctr.of true (fun _ => rfl) (by decide) rfl (Nat.le_of_ble_eq_true rfl) ?_
  refine J.aload_n (q := 1) dX1_init_0 rfl ?_ rfl
  refine J.objInit (q := 4) dX1_init_1 kL_X1_3 rfl (by decide) rfl ?_
  refine J.aload_n (q := 5) dX1_init_4 rfl ?_ rfl
  refine J.bipush (q := 7) dX1_init_5 (by decide) ?_ rfl
  refine J.newIG (q := 9) (N := 81) (n := 14) (m := 12) (a1 := 1) (b1 := 81) dX1_init_7 rfl (by decide) rfl (by decide +kernel) (by decide) kA_int ⟨by decide, by decide⟩ rfl rfl rfl (hz 14 (by omega)) ?_
  refine J.putFG (q := 12) (ci := 1) (k0 := 0) (n := 15) (m := 12) dX1_init_9 kF_X1_9 rfl (by decide) (by decide) (by decide) rfl rfl rfl rfl (by decide) rfl rfl ?_
  refine J.aload_n (q := 13) dX1_init_12 rfl ?_ rfl
  refine J.bipush (q := 15) dX1_init_13 (by decide) ?_ rfl
  refine J.newIG (q := 17) (N := 81) (n := 15) (m := 13) (a1 := 2) (b1 := 162) dX1_init_15 rfl (by decide) rfl (by decide +kernel) (by decide) kA_int ⟨by decide, by decide⟩ rfl rfl rfl (hz 15 (by omega)) ?_
  refine J.putFG (q := 20) (ci := 1) (k0 := 1) (n := 16) (m := 13) dX1_init_17 kF_X1_15 rfl (by decide) (by decide) (by decide) rfl rfl rfl rfl (by decide) rfl rfl ?_
  refine J.aload_n (q := 21) dX1_init_20 rfl ?_ rfl
  refine J.bipush (q := 23) dX1_init_21 (by decide) ?_ rfl
  refine J.newIG (q := 25) (N := 81) (n := 16) (m := 14) (a1 := 3) (b1 := 243) dX1_init_23 rfl (by decide) rfl (by decide +kernel) (by decide) kA_int ⟨by decide, by decide⟩ rfl rfl rfl (hz 16 (by omega)) ?_
  refine J.putFG (q := 28) (ci := 1) (k0 := 2) (n := 17) (m := 14) dX1_init_25 kF_X1_18 rfl (by decide) (by decide) (by decide) rfl rfl rfl rfl (by decide) rfl rfl ?_
  refine J.aload_n (q := 29) dX1_init_28 rfl ?_ rfl
  refine J.bipush (q := 31) dX1_init_29 (by decide) ?_ rfl
  refine J.newIG (q := 33) (N := 81) (n := 17) (m := 15) (a1 := 4) (b1 := 324) dX1_init_31 rfl (by decide) rfl (by decide +kernel) (by decide) kA_int ⟨by decide, by decide⟩ rfl rfl rfl (hz 17 (by omega)) ?_
  refine J.putFG (q := 36) (ci := 1) (k0 := 3) (n := 18) (m := 15) dX1_init_33 kF_X1_21 rfl (by decide) (by decide) (by decide) rfl rfl rfl rfl (by decide) rfl rfl ?_
  refine J.aload_n (q := 37) dX1_init_36 rfl ?_ rfl
  refine J.bipush (q := 39) dX1_init_37 (by decide) ?_ rfl
  refine J.newIG (q := 41) (N := 8) (n := 18) (m := 16) (a1 := 5) (b1 := 332) dX1_init_39 rfl (by decide) rfl (by decide +kernel) (by decide) kA_int ⟨by decide, by decide⟩ rfl rfl rfl (hz 18 (by omega)) ?_
  refine J.putFG (q := 44) (ci := 1) (k0 := 4) (n := 19) (m := 16) dX1_init_41 kF_X1_24 rfl (by decide) (by decide) (by decide) rfl rfl rfl rfl (by decide) rfl rfl ?_
  refine J.aload_n (q := 45) dX1_init_44 rfl ?_ rfl
  refine J.bipush (q := 47) dX1_init_45 (by decide) ?_ rfl
  refine J.newIG (q := 49) (N := 8) (n := 19) (m := 17) (a1 := 6) (b1 := 340) dX1_init_47 rfl (by decide) rfl (by decide +kernel) (by decide) kA_int ⟨by decide, by decide⟩ rfl rfl rfl (hz 19 (by omega)) ?_
  refine J.putFG (q := 52) (ci := 1) (k0 := 5) (n := 20) (m := 17) dX1_init_49 kF_X1_27 rfl (by decide) (by decide) (by decide) rfl rfl rfl rfl (by decide) rfl rfl ?_
  refine J.aload_n (q := 53) dX1_init_52 rfl ?_ rfl
  refine J.bipush (q := 55) dX1_init_53 (by decide) ?_ rfl
  refine J.newIG (q := 57) (N := 8) (n := 20) (m := 18) (a1 := 7) (b1 := 348) dX1_init_55 rfl (by decide) rfl (by decide +kernel) (by decide) kA_int ⟨by decide, by decide⟩ rfl rfl rfl (hz 20 (by omega)) ?_
  refine J.putFG (q := 60) (ci := 1) (k0 := 6) (n := 21) (m := 18) dX1_init_57 kF_X1_30 rfl (by decide) (by decide) (by decide) rfl rfl rfl rfl (by decide) rfl rfl ?_
  refine J.aload_n (q := 61) dX1_init_60 rfl ?_ rfl
  refine J.bipush (q := 63) dX1_init_61 (by decide) ?_ rfl
  refine J.newIG (q := 65) (N := 8) (n := 21) (m := 19) (a1 := 8) (b1 := 356) dX1_init_63 rfl (by decide) rfl (by decide +kernel) (by decide) kA_int ⟨by decide, by decide⟩ rfl rfl rfl (hz 21 (by omega)) ?_
  refine J.putFG (q := 68) (ci := 1) (k0 := 7) (n := 22) (m := 19) dX1_init_65 kF_X1_33 rfl (by decide) (by decide) (by decide) rfl rfl rfl rfl (by decide) rfl rfl ?_
  refine J.aload_n (q := 69) dX1_init_68 rfl ?_ rfl
  refine J.bipush (q := 71) dX1_init_69 (by decide) ?_ rfl
  refine J.newIG (q := 73) (N := 8) (n := 22) (m := 20) (a1 := 9) (b1 := 364) dX1_init_71 rfl (by decide) rfl (by decide +kernel) (by decide) kA_int ⟨by decide, by decide⟩ rfl rfl rfl (hz 22 (by omega)) ?_
  refine J.putFG (q := 76) (ci := 1) (k0 := 8) (n := 23) (m := 20) dX1_init_73 kF_X1_36 rfl (by decide) (by decide) (by decide) rfl rfl rfl rfl (by decide) rfl rfl ?_
  refine J.aload_n (q := 77) dX1_init_76 rfl ?_ rfl
  refine J.bipush (q := 79) dX1_init_77 (by decide) ?_ rfl
  refine J.newIG (q := 81) (N := 8) (n := 23) (m := 21) (a1 := 10) (b1 := 372) dX1_init_79 rfl (by decide) rfl (by decide +kernel) (by decide) kA_int ⟨by decide, by decide⟩ rfl rfl rfl (hz 23 (by omega)) ?_
  refine J.putFG (q := 84) (ci := 1) (k0 := 9) (n := 24) (m := 21) dX1_init_81 kF_X1_39 rfl (by decide) (by decide) (by decide) rfl rfl rfl rfl (by decide) rfl rfl ?_
  refine J.aload_n (q := 85) dX1_init_84 rfl ?_ rfl
  refine J.bipush (q := 87) dX1_init_85 (by decide) ?_ rfl
  refine J.newIG (q := 89) (N := 10) (n := 24) (m := 22) (a1 := 11) (b1 := 382) dX1_init_87 rfl (by decide) rfl (by decide +kernel) (by decide) kA_int ⟨by decide, by decide⟩ rfl rfl rfl (hz 24 (by omega)) ?_
  refine J.putFG (q := 92) (ci := 1) (k0 := 10) (n := 25) (m := 22) dX1_init_89 kF_X1_42 rfl (by decide) (by decide) (by decide) rfl rfl rfl rfl (by decide) rfl rfl ?_
  refine J.aload_n (q := 93) dX1_init_92 rfl ?_ rfl
  refine J.iconst (q := 94) dX1_init_93 ?_ rfl
  refine J.putI (ci := 1) (k0 := 11) (kz := 11) (q := 97) dX1_init_94 kF_X1_45 rfl (by decide) (by decide) rfl rfl rfl ?_ rfl
  refine J.aload_n (q := 98) dX1_init_97 rfl ?_ rfl
  refine J.iconst (q := 99) dX1_init_98 ?_ rfl
  refine J.putI (ci := 1) (k0 := 12) (kz := 12) (q := 102) dX1_init_99 kF_X1_49 rfl (by decide) (by decide) rfl rfl rfl ?_ rfl
  refine J.aload_n (q := 103) dX1_init_102 rfl ?_ rfl
  refine J.iconst (q := 104) dX1_init_103 ?_ rfl
  refine J.putI (ci := 1) (k0 := 13) (kz := 13) (q := 107) dX1_init_104 kF_X1_52 rfl (by decide) (by decide) rfl rfl rfl ?_ rfl
  refine J.aload_n (q := 108) dX1_init_107 rfl ?_ rfl
  refine J.iconst (q := 109) dX1_init_108 ?_ rfl
  refine J.putI (ci := 1) (k0 := 14) (kz := 14) (q := 112) dX1_init_109 kF_X1_55 rfl (by decide) (by decide) rfl rfl rfl ?_ rfl
  refine J.aload_n (q := 113) dX1_init_112 rfl ?_ rfl
  refine J.iconst (q := 114) dX1_init_113 ?_ rfl
  refine J.putI (ci := 1) (k0 := 15) (kz := 15) (q := 117) dX1_init_114 kF_X1_58 rfl (by decide) (by decide) rfl rfl rfl ?_ rfl
  refine J.aload_n (q := 118) dX1_init_117 rfl ?_ rfl
  refine J.iconst (q := 119) dX1_init_118 ?_ rfl
  refine J.putI (ci := 1) (k0 := 16) (kz := 16) (q := 122) dX1_init_119 kF_X1_61 rfl (by decide) (by decide) rfl rfl rfl ?_ rfl
  refine J.aload_n (q := 123) dX1_init_122 rfl ?_ rfl
  refine J.getR (ci := 1) (k0 := 2) (c1 := 16) (q := 126) dX1_init_123 kF_X1_18 rfl (by decide) (by decide) rfl (by decide) rfl ?_ rfl
  refine J.iconst (q := 127) dX1_init_126 ?_ rfl
  refine J.callS2 (q := 130) dX1_init_127 mv_J7_fill_53178 kS_J7_fill_53178 kL_X1_64 ⟨by decide, by decide⟩ (Nat.le_of_ble_eq_true rfl) ⟨by decide, by decide⟩ rfl (c_fillG81 (q := 16) rfl) (fun v9 S9 iv9 hp => ?_)
  obtain ⟨rfl, rfl, e1, e2⟩ := hp
  refine J.aload_n (q := 131) dX1_init_130 rfl ?_ rfl
  refine J.getR (ci := 1) (k0 := 10) (c1 := 24) (q := 134) dX1_init_131 kF_X1_42 rfl (by decide) (by decide) rfl (by decide) rfl ?_ rfl
  refine J.iconst (q := 135) dX1_init_134 ?_ rfl
  refine J.callS2 (q := 138) dX1_init_135 mv_J7_fill_53178 kS_J7_fill_53178 kL_X1_64 ⟨by decide, by decide⟩ (Nat.le_of_ble_eq_true rfl) ⟨by decide, by decide⟩ rfl (c_fillG10 (q := 24) rfl) (fun v8 S8 iv8 hp => ?_)
  obtain ⟨rfl, rfl, f1, f2⟩ := hp
  refine J.vreturn dX1_init_138 rfl ?_
  refine ⟨rfl, rfl, fun q hq => ?_, fun p i t hp => ?_⟩
  · rw [f1 _ (by omega), e1 _ (by omega)]
    repeat rw [up_n _ _ _ (by omega)]
  · unfold Pl at hp
    have hr : ∀ j : Int, iv 13 j = 0 := fun j => congrFun (hz 13 (by omega)) j
    rcases hp with ⟨rfl, rfl, rfl⟩ | ⟨rfl, rfl, rfl⟩ | ⟨rfl, rfl, rfl⟩ | ⟨rfl, rfl, rfl⟩ | ⟨rfl, rfl, rfl⟩ | ⟨rfl, rfl, rfl⟩ | ⟨rfl, h0, h1, rfl⟩ | ⟨rfl, h0, h1, rfl⟩ | ⟨rfl, h0, h1, rfl⟩ | ⟨rfl, h0, h1, rfl⟩ | ⟨rfl, h0, h1, rfl⟩ | ⟨rfl, h0, h1, rfl⟩ | ⟨rfl, h0, h1, rfl⟩ | ⟨rfl, h0, h1, rfl⟩ | ⟨rfl, h0, h1, rfl⟩ | ⟨rfl, h0, h1, rfl⟩
    · rw [f1 _ (by omega), e1 _ (by omega)]; rfl
    · rw [f1 _ (by omega), e1 _ (by omega)]; rfl
    · rw [f1 _ (by omega), e1 _ (by omega)]; rfl
    · rw [f1 _ (by omega), e1 _ (by omega)]; rfl
    · rw [f1 _ (by omega), e1 _ (by omega)]; rfl
    · rw [f1 _ (by omega), e1 _ (by omega)]; rfl
    · rw [f1 _ (by omega), e1 _ (by omega), sI_0 (by omega)]; exact congrFun (hz 14 (by omega)) i
    · rw [f1 _ (by omega), e1 _ (by omega), sI_0 (by omega)]; exact congrFun (hz 15 (by omega)) i
    · rw [f1 _ (by omega), sI_n (by omega)]; exact e2 i h0 h1
    · rw [f1 _ (by omega), e1 _ (by omega), sI_0 (by omega)]; exact congrFun (hz 18 (by omega)) i
    · rw [f1 _ (by omega), e1 _ (by omega), sI_0 (by omega)]; exact congrFun (hz 19 (by omega)) i
    · rw [f1 _ (by omega), e1 _ (by omega), sI_0 (by omega)]; exact congrFun (hz 20 (by omega)) i
    · rw [f1 _ (by omega), e1 _ (by omega), sI_0 (by omega)]; exact congrFun (hz 21 (by omega)) i
    · rw [f1 _ (by omega), e1 _ (by omega), sI_0 (by omega)]; exact congrFun (hz 22 (by omega)) i
    · rw [f1 _ (by omega), e1 _ (by omega), sI_0 (by omega)]; exact congrFun (hz 23 (by omega)) i
    · rw [sI_n (by omega)]; exact f2 i h0 h1

set_option maxRecDepth 100000 in
set_option maxHeartbeats 4000000 in
theorem c_X1_init_26 {l : Launch} {F : Nat × (Int → Int)} {iv : Mm} (hz : ∀ q, 26 ≤ q → iv q = fun _ => 0) : Ctr l F 1 11 382 yX1_init cX1_init 1 none [r_ 26] (Sg 27 24) iv (IP 38 35 (fun iv2 => (∀ q, (q < 26 ∨ 38 ≤ q) → iv2 q = iv q) ∧ RR iv2 26 sI)) := by
  refine Ctr.of true (fun _ => rfl) (by decide) rfl (Nat.le_of_ble_eq_true rfl) ?_
  refine J.aload_n (q := 1) dX1_init_0 rfl ?_ rfl
  refine J.objInit (q := 4) dX1_init_1 kL_X1_3 rfl (by decide) rfl ?_
  refine J.aload_n (q := 5) dX1_init_4 rfl ?_ rfl
  refine J.bipush (q := 7) dX1_init_5 (by decide) ?_ rfl
  refine J.newIG (q := 9) (N := 81) (n := 27) (m := 24) (a1 := 1) (b1 := 81) dX1_init_7 rfl (by decide) rfl (by decide +kernel) (by decide) kA_int ⟨by decide, by decide⟩ rfl rfl rfl (hz 27 (by omega)) ?_
  refine J.putFG (q := 12) (ci := 1) (k0 := 0) (n := 28) (m := 24) dX1_init_9 kF_X1_9 rfl (by decide) (by decide) (by decide) rfl rfl rfl rfl (by decide) rfl rfl ?_
  refine J.aload_n (q := 13) dX1_init_12 rfl ?_ rfl
  refine J.bipush (q := 15) dX1_init_13 (by decide) ?_ rfl
  refine J.newIG (q := 17) (N := 81) (n := 28) (m := 25) (a1 := 2) (b1 := 162) dX1_init_15 rfl (by decide) rfl (by decide +kernel) (by decide) kA_int ⟨by decide, by decide⟩ rfl rfl rfl (hz 28 (by omega)) ?_
  refine J.putFG (q := 20) (ci := 1) (k0 := 1) (n := 29) (m := 25) dX1_init_17 kF_X1_15 rfl (by decide) (by decide) (by decide) rfl rfl rfl rfl (by decide) rfl rfl ?_
  refine J.aload_n (q := 21) dX1_init_20 rfl ?_ rfl
  refine J.bipush (q := 23) dX1_init_21 (by decide) ?_ rfl
  refine J.newIG (q := 25) (N := 81) (n := 29) (m := 26) (a1 := 3) (b1 := 243) dX1_init_23 rfl (by decide) rfl (by decide +kernel) (by decide) kA_int ⟨by decide, by decide⟩ rfl rfl rfl (hz 29 (by omega)) ?_
  refine J.putFG (q := 28) (ci := 1) (k0 := 2) (n := 30) (m := 26) dX1_init_25 kF_X1_18 rfl (by decide) (by decide) (by decide) rfl rfl rfl rfl (by decide) rfl rfl ?_
  refine J.aload_n (q := 29) dX1_init_28 rfl ?_ rfl
  refine J.bipush (q := 31) dX1_init_29 (by decide) ?_ rfl
  refine J.newIG (q := 33) (N := 81) (n := 30) (m := 27) (a1 := 4) (b1 := 324) dX1_init_31 rfl (by decide) rfl (by decide +kernel) (by decide) kA_int ⟨by decide, by decide⟩ rfl rfl rfl (hz 30 (by omega)) ?_
  refine J.putFG (q := 36) (ci := 1) (k0 := 3) (n := 31) (m := 27) dX1_init_33 kF_X1_21 rfl (by decide) (by decide) (by decide) rfl rfl rfl rfl (by decide) rfl rfl ?_
  refine J.aload_n (q := 37) dX1_init_36 rfl ?_ rfl
  refine J.bipush (q := 39) dX1_init_37 (by decide) ?_ rfl
  refine J.newIG (q := 41) (N := 8) (n := 31) (m := 28) (a1 := 5) (b1 := 332) dX1_init_39 rfl (by decide) rfl (by decide +kernel) (by decide) kA_int ⟨by decide, by decide⟩ rfl rfl rfl (hz 31 (by omega)) ?_
  refine J.putFG (q := 44) (ci := 1) (k0 := 4) (n := 32) (m := 28) dX1_init_41 kF_X1_24 rfl (by decide) (by decide) (by decide) rfl rfl rfl rfl (by decide) rfl rfl ?_
  refine J.aload_n (q := 45) dX1_init_44 rfl ?_ rfl
  refine J.bipush (q := 47) dX1_init_45 (by decide) ?_ rfl
  refine J.newIG (q := 49) (N := 8) (n := 32) (m := 29) (a1 := 6) (b1 := 340) dX1_init_47 rfl (by decide) rfl (by decide +kernel) (by decide) kA_int ⟨by decide, by decide⟩ rfl rfl rfl (hz 32 (by omega)) ?_
  refine J.putFG (q := 52) (ci := 1) (k0 := 5) (n := 33) (m := 29) dX1_init_49 kF_X1_27 rfl (by decide) (by decide) (by decide) rfl rfl rfl rfl (by decide) rfl rfl ?_
  refine J.aload_n (q := 53) dX1_init_52 rfl ?_ rfl
  refine J.bipush (q := 55) dX1_init_53 (by decide) ?_ rfl
  refine J.newIG (q := 57) (N := 8) (n := 33) (m := 30) (a1 := 7) (b1 := 348) dX1_init_55 rfl (by decide) rfl (by decide +kernel) (by decide) kA_int ⟨by decide, by decide⟩ rfl rfl rfl (hz 33 (by omega)) ?_
  refine J.putFG (q := 60) (ci := 1) (k0 := 6) (n := 34) (m := 30) dX1_init_57 kF_X1_30 rfl (by decide) (by decide) (by decide) rfl rfl rfl rfl (by decide) rfl rfl ?_
  refine J.aload_n (q := 61) dX1_init_60 rfl ?_ rfl
  refine J.bipush (q := 63) dX1_init_61 (by decide) ?_ rfl
  refine J.newIG (q := 65) (N := 8) (n := 34) (m := 31) (a1 := 8) (b1 := 356) dX1_init_63 rfl (by decide) rfl (by decide +kernel) (by decide) kA_int ⟨by decide, by decide⟩ rfl rfl rfl (hz 34 (by omega)) ?_
  refine J.putFG (q := 68) (ci := 1) (k0 := 7) (n := 35) (m := 31) dX1_init_65 kF_X1_33 rfl (by decide) (by decide) (by decide) rfl rfl rfl rfl (by decide) rfl rfl ?_
  refine J.aload_n (q := 69) dX1_init_68 rfl ?_ rfl
  refine J.bipush (q := 71) dX1_init_69 (by decide) ?_ rfl
  refine J.newIG (q := 73) (N := 8) (n := 35) (m := 32) (a1 := 9) (b1 := 364) dX1_init_71 rfl (by decide) rfl (by decide +kernel) (by decide) kA_int ⟨by decide, by decide⟩ rfl rfl rfl (hz 35 (by omega)) ?_
  refine J.putFG (q := 76) (ci := 1) (k0 := 8) (n := 36) (m := 32) dX1_init_73 kF_X1_36 rfl (by decide) (by decide) (by decide) rfl rfl rfl rfl (by decide) rfl rfl ?_
  refine J.aload_n (q := 77) dX1_init_76 rfl ?_ rfl
  refine J.bipush (q := 79) dX1_init_77 (by decide) ?_ rfl
  refine J.newIG (q := 81) (N := 8) (n := 36) (m := 33) (a1 := 10) (b1 := 372) dX1_init_79 rfl (by decide) rfl (by decide +kernel) (by decide) kA_int ⟨by decide, by decide⟩ rfl rfl rfl (hz 36 (by omega)) ?_
  refine J.putFG (q := 84) (ci := 1) (k0 := 9) (n := 37) (m := 33) dX1_init_81 kF_X1_39 rfl (by decide) (by decide) (by decide) rfl rfl rfl rfl (by decide) rfl rfl ?_
  refine J.aload_n (q := 85) dX1_init_84 rfl ?_ rfl
  refine J.bipush (q := 87) dX1_init_85 (by decide) ?_ rfl
  refine J.newIG (q := 89) (N := 10) (n := 37) (m := 34) (a1 := 11) (b1 := 382) dX1_init_87 rfl (by decide) rfl (by decide +kernel) (by decide) kA_int ⟨by decide, by decide⟩ rfl rfl rfl (hz 37 (by omega)) ?_
  refine J.putFG (q := 92) (ci := 1) (k0 := 10) (n := 38) (m := 34) dX1_init_89 kF_X1_42 rfl (by decide) (by decide) (by decide) rfl rfl rfl rfl (by decide) rfl rfl ?_
  refine J.aload_n (q := 93) dX1_init_92 rfl ?_ rfl
  refine J.iconst (q := 94) dX1_init_93 ?_ rfl
  refine J.putI (ci := 1) (k0 := 11) (kz := 11) (q := 97) dX1_init_94 kF_X1_45 rfl (by decide) (by decide) rfl rfl rfl ?_ rfl
  refine J.aload_n (q := 98) dX1_init_97 rfl ?_ rfl
  refine J.iconst (q := 99) dX1_init_98 ?_ rfl
  refine J.putI (ci := 1) (k0 := 12) (kz := 12) (q := 102) dX1_init_99 kF_X1_49 rfl (by decide) (by decide) rfl rfl rfl ?_ rfl
  refine J.aload_n (q := 103) dX1_init_102 rfl ?_ rfl
  refine J.iconst (q := 104) dX1_init_103 ?_ rfl
  refine J.putI (ci := 1) (k0 := 13) (kz := 13) (q := 107) dX1_init_104 kF_X1_52 rfl (by decide) (by decide) rfl rfl rfl ?_ rfl
  refine J.aload_n (q := 108) dX1_init_107 rfl ?_ rfl
  refine J.iconst (q := 109) dX1_init_108 ?_ rfl
  refine J.putI (ci := 1) (k0 := 14) (kz := 14) (q := 112) dX1_init_109 kF_X1_55 rfl (by decide) (by decide) rfl rfl rfl ?_ rfl
  refine J.aload_n (q := 113) dX1_init_112 rfl ?_ rfl
  refine J.iconst (q := 114) dX1_init_113 ?_ rfl
  refine J.putI (ci := 1) (k0 := 15) (kz := 15) (q := 117) dX1_init_114 kF_X1_58 rfl (by decide) (by decide) rfl rfl rfl ?_ rfl
  refine J.aload_n (q := 118) dX1_init_117 rfl ?_ rfl
  refine J.iconst (q := 119) dX1_init_118 ?_ rfl
  refine J.putI (ci := 1) (k0 := 16) (kz := 16) (q := 122) dX1_init_119 kF_X1_61 rfl (by decide) (by decide) rfl rfl rfl ?_ rfl
  refine J.aload_n (q := 123) dX1_init_122 rfl ?_ rfl
  refine J.getR (ci := 1) (k0 := 2) (c1 := 29) (q := 126) dX1_init_123 kF_X1_18 rfl (by decide) (by decide) rfl (by decide) rfl ?_ rfl
  refine J.iconst (q := 127) dX1_init_126 ?_ rfl
  refine J.callS2 (q := 130) dX1_init_127 mv_J7_fill_53178 kS_J7_fill_53178 kL_X1_64 ⟨by decide, by decide⟩ (Nat.le_of_ble_eq_true rfl) ⟨by decide, by decide⟩ rfl (c_fillG81 (q := 29) rfl) (fun v9 S9 iv9 hp => ?_)
  obtain ⟨rfl, rfl, e1, e2⟩ := hp
  refine J.aload_n (q := 131) dX1_init_130 rfl ?_ rfl
  refine J.getR (ci := 1) (k0 := 10) (c1 := 37) (q := 134) dX1_init_131 kF_X1_42 rfl (by decide) (by decide) rfl (by decide) rfl ?_ rfl
  refine J.iconst (q := 135) dX1_init_134 ?_ rfl
  refine J.callS2 (q := 138) dX1_init_135 mv_J7_fill_53178 kS_J7_fill_53178 kL_X1_64 ⟨by decide, by decide⟩ (Nat.le_of_ble_eq_true rfl) ⟨by decide, by decide⟩ rfl (c_fillG10 (q := 37) rfl) (fun v8 S8 iv8 hp => ?_)
  obtain ⟨rfl, rfl, f1, f2⟩ := hp
  refine J.vreturn dX1_init_138 rfl ?_
  refine ⟨rfl, rfl, fun q hq => ?_, fun p i t hp => ?_⟩
  · rw [f1 _ (by omega), e1 _ (by omega)]
    repeat rw [up_n _ _ _ (by omega)]
  · unfold Pl at hp
    have hr : ∀ j : Int, iv 26 j = 0 := fun j => congrFun (hz 26 (by omega)) j
    rcases hp with ⟨rfl, rfl, rfl⟩ | ⟨rfl, rfl, rfl⟩ | ⟨rfl, rfl, rfl⟩ | ⟨rfl, rfl, rfl⟩ | ⟨rfl, rfl, rfl⟩ | ⟨rfl, rfl, rfl⟩ | ⟨rfl, h0, h1, rfl⟩ | ⟨rfl, h0, h1, rfl⟩ | ⟨rfl, h0, h1, rfl⟩ | ⟨rfl, h0, h1, rfl⟩ | ⟨rfl, h0, h1, rfl⟩ | ⟨rfl, h0, h1, rfl⟩ | ⟨rfl, h0, h1, rfl⟩ | ⟨rfl, h0, h1, rfl⟩ | ⟨rfl, h0, h1, rfl⟩ | ⟨rfl, h0, h1, rfl⟩
    · rw [f1 _ (by omega), e1 _ (by omega)]; rfl
    · rw [f1 _ (by omega), e1 _ (by omega)]; rfl
    · rw [f1 _ (by omega), e1 _ (by omega)]; rfl
    · rw [f1 _ (by omega), e1 _ (by omega)]; rfl
    · rw [f1 _ (by omega), e1 _ (by omega)]; rfl
    · rw [f1 _ (by omega), e1 _ (by omega)]; rfl
    · rw [f1 _ (by omega), e1 _ (by omega), sI_0 (by omega)]; exact congrFun (hz 27 (by omega)) i
    · rw [f1 _ (by omega), e1 _ (by omega), sI_0 (by omega)]; exact congrFun (hz 28 (by omega)) i
    · rw [f1 _ (by omega), sI_n (by omega)]; exact e2 i h0 h1
    · rw [f1 _ (by omega), e1 _ (by omega), sI_0 (by omega)]; exact congrFun (hz 31 (by omega)) i
    · rw [f1 _ (by omega), e1 _ (by omega), sI_0 (by omega)]; exact congrFun (hz 32 (by omega)) i
    · rw [f1 _ (by omega), e1 _ (by omega), sI_0 (by omega)]; exact congrFun (hz 33 (by omega)) i
    · rw [f1 _ (by omega), e1 _ (by omega), sI_0 (by omega)]; exact congrFun (hz 34 (by omega)) i
    · rw [f1 _ (by omega), e1 _ (by omega), sI_0 (by omega)]; exact congrFun (hz 35 (by omega)) i
    · rw [f1 _ (by omega), e1 _ (by omega), sI_0 (by omega)]; exact congrFun (hz 36 (by omega)) i
    · rw [sI_n (by omega)]; exact f2 i h0 h1

set_option maxRecDepth 100000 in
set_option maxHeartbeats 4000000 in
theorem c_X4_init_38 {l : Launch} {F : Nat × (Int → Int)} {iv : Mm} (hz : ∀ q, 38 ≤ q → iv q = fun _ => 0) : Ctr l F 1 5 1539 yX4_init cX4_init 1 none [r_ 38] (Sg 39 36) iv (IP 44 41 (fun iv2 => iv2 = iv)) := by
  refine Ctr.of true (fun _ => rfl) (by decide) rfl (Nat.le_of_ble_eq_true rfl) ?_
  refine J.aload_n (q := 1) dX4_init_0 rfl ?_ rfl
  refine J.objInit (q := 4) dX4_init_1 kL_X4_3 rfl (by decide) rfl ?_
  refine J.aload_n (q := 5) dX4_init_4 rfl ?_ rfl
  refine J.bipush (q := 7) dX4_init_5 (by decide) ?_ rfl
  refine J.newIG (q := 9) (N := 81) (n := 39) (m := 36) (a1 := 1) (b1 := 81) dX4_init_7 rfl (by decide) rfl (by decide +kernel) (by decide) kA_int ⟨by decide, by decide⟩ rfl rfl rfl (hz 39 (by omega)) ?_
  refine J.putFG (q := 12) (ci := 4) (k0 := 0) (n := 40) (m := 36) dX4_init_9 kF_X4_9 rfl (by decide) (by decide) (by decide) rfl rfl rfl rfl (by decide) rfl rfl ?_
  refine J.aload_n (q := 13) dX4_init_12 rfl ?_ rfl
  refine J.bipush (q := 15) dX4_init_13 (by decide) ?_ rfl
  refine J.newZG (q := 17) (N := 81) (n := 40) (m := 37) (a1 := 2) (b1 := 162) dX4_init_15 rfl (by decide) rfl (by decide +kernel) (by decide) kA_boolean ⟨by decide, by decide⟩ rfl rfl rfl (hz 40 (by omega)) ?_
  refine J.putFG (q := 20) (ci := 4) (k0 := 1) (n := 41) (m := 37) dX4_init_17 kF_X4_15 rfl (by decide) (by decide) (by decide) rfl rfl rfl rfl (by decide) rfl rfl ?_
  refine J.aload_n (q := 21) dX4_init_20 rfl ?_ rfl
  refine J.bipush (q := 23) dX4_init_21 (by decide) ?_ rfl
  refine J.newIG (q := 25) (N := 81) (n := 41) (m := 38) (a1 := 3) (b1 := 243) dX4_init_23 rfl (by decide) rfl (by decide +kernel) (by decide) kA_int ⟨by decide, by decide⟩ rfl rfl rfl (hz 41 (by omega)) ?_
  refine J.putFG (q := 28) (ci := 4) (k0 := 2) (n := 42) (m := 38) dX4_init_25 kF_X4_19 rfl (by decide) (by decide) (by decide) rfl rfl rfl rfl (by decide) rfl rfl ?_
  refine J.aload_n (q := 29) dX4_init_28 rfl ?_ rfl
  refine J.sipush (q := 32) dX4_init_29 (by decide) ?_ rfl
  refine J.newIG (q := 34) (N := 648) (n := 42) (m := 39) (a1 := 4) (b1 := 891) dX4_init_32 rfl (by decide) rfl (by decide +kernel) (by decide) kA_int ⟨by decide, by decide⟩ rfl rfl rfl (hz 42 (by omega)) ?_
  refine J.putFG (q := 37) (ci := 4) (k0 := 3) (n := 43) (m := 39) dX4_init_34 kF_X4_22 rfl (by decide) (by decide) (by decide) rfl rfl rfl rfl (by decide) rfl rfl ?_
  refine J.aload_n (q := 38) dX4_init_37 rfl ?_ rfl
  refine J.sipush (q := 41) dX4_init_38 (by decide) ?_ rfl
  refine J.newIG (q := 43) (N := 648) (n := 43) (m := 40) (a1 := 5) (b1 := 1539) dX4_init_41 rfl (by decide) rfl (by decide +kernel) (by decide) kA_int ⟨by decide, by decide⟩ rfl rfl rfl (hz 43 (by omega)) ?_
  refine J.putFG (q := 46) (ci := 4) (k0 := 4) (n := 44) (m := 40) dX4_init_43 kF_X4_25 rfl (by decide) (by decide) (by decide) rfl rfl rfl rfl (by decide) rfl rfl ?_
  refine J.vreturn dX4_init_46 rfl ?_
  exact ⟨rfl, rfl, rfl⟩

set_option maxRecDepth 100000 in
set_option maxHeartbeats 4000000 in
theorem c_X0_init_25 {l : Launch} {F : Nat × (Int → Int)} {iv : Mm} (hz : ∀ q, 25 ≤ q → iv q = fun _ => 0) : Ctr l F 2 18 1943 yX0_init cX0_init 1 none [r_ 25] (Sg 26 24) iv (IP 44 42 (fun iv2 => ∀ q, (q < 25 ∨ 44 ≤ q) → iv2 q = iv q)) := by
  refine Ctr.of true (fun _ => rfl) (by decide) rfl (Nat.le_of_ble_eq_true rfl) ?_
  refine J.aload_n (q := 1) dX0_init_0 rfl ?_ rfl
  refine J.objInit (q := 4) dX0_init_1 kL_X0_3 rfl (by decide) rfl ?_
  refine J.aload_n (q := 5) dX0_init_4 rfl ?_ rfl
  refine J.newG (q := 8) (ci := 1) (n := 26) (m := 24) (a1 := 1) (b1 := 17) dX0_init_5 (by decide) rfl (by decide +kernel) (by decide) kB_X0_9 kO_X1 kD_X1 ⟨by decide, by decide⟩ rfl rfl rfl (hz 26 (by omega)) ?_
  refine J.dup (q := 9) dX0_init_8 rfl ?_ rfl
  refine J.callIG (q := 12) (a1 := 12) (b1 := 399) dX0_init_9 mv_X1_init rfl kL_X0_11 (by decide) ⟨by decide, by decide⟩ rfl ⟨by decide, by decide⟩ rfl rfl rfl (c_X1_init_26 (fun q hq => hz q (by omega))) (fun iv9 hp9 => ?_)
  obtain ⟨e9, r9⟩ := hp9
  have hz2 : ∀ q, 38 ≤ q → iv9 q = fun _ => 0 := fun q hq => (e9 q (by omega)).trans (hz q (by omega))
  refine J.putFG (q := 15) (ci := 0) (k0 := 0) (n := 38) (m := 35) dX0_init_12 kF_X0_12 rfl (by decide) (by decide) (by decide) rfl rfl rfl rfl (by decide) rfl rfl ?_
  refine J.aload_n (q := 16) dX0_init_15 rfl ?_ rfl
  have hz0 := hz
  clear hz
  have hz := hz2
  refine J.newG (q := 19) (ci := 4) (n := 38) (m := 36) (a1 := 13) (b1 := 404) dX0_init_16 (by decide) rfl (by decide +kernel) (by decide) kB_X0_18 kO_X4 kD_X4 ⟨by decide, by decide⟩ rfl rfl rfl (hz 38 (by omega)) ?_
  refine J.dup (q := 20) dX0_init_19 rfl ?_ rfl
  refine J.callING (q := 23) (a1 := 18) (b1 := 1943) dX0_init_20 mv_X4_init rfl (by decide) (by decide) ⟨by decide, by decide⟩ rfl ⟨by decide, by decide⟩ rfl rfl rfl (c_X4_init_38 (fun q hq => hz q (by omega))) (fun iv20 hp20 => ?_)
  subst hp20
  refine J.putFG (q := 26) (ci := 0) (k0 := 1) (n := 44) (m := 41) dX0_init_23 kF_X0_21 rfl (by decide) (by decide) (by decide) rfl rfl rfl rfl (by decide) rfl rfl ?_
  refine J.vreturn dX0_init_26 rfl ?_
  exact ⟨rfl, rfl, fun q hq => e9 q (by omega)⟩

set_option maxRecDepth 100000 in
set_option maxHeartbeats 4000000 in
theorem c_X4_init_44 {l : Launch} {F : Nat × (Int → Int)} {iv : Mm} (hz : ∀ q, 44 ≤ q → iv q = fun _ => 0) : Ctr l F 1 5 1539 yX4_init cX4_init 1 none [r_ 44] (Sg 45 43) iv (IP 50 48 (fun iv2 => iv2 = iv)) := by
  refine Ctr.of true (fun _ => rfl) (by decide) rfl (Nat.le_of_ble_eq_true rfl) ?_
  refine J.aload_n (q := 1) dX4_init_0 rfl ?_ rfl
  refine J.objInit (q := 4) dX4_init_1 kL_X4_3 rfl (by decide) rfl ?_
  refine J.aload_n (q := 5) dX4_init_4 rfl ?_ rfl
  refine J.bipush (q := 7) dX4_init_5 (by decide) ?_ rfl
  refine J.newIG (q := 9) (N := 81) (n := 45) (m := 43) (a1 := 1) (b1 := 81) dX4_init_7 rfl (by decide) rfl (by decide +kernel) (by decide) kA_int ⟨by decide, by decide⟩ rfl rfl rfl (hz 45 (by omega)) ?_
  refine J.putFG (q := 12) (ci := 4) (k0 := 0) (n := 46) (m := 43) dX4_init_9 kF_X4_9 rfl (by decide) (by decide) (by decide) rfl rfl rfl rfl (by decide) rfl rfl ?_
  refine J.aload_n (q := 13) dX4_init_12 rfl ?_ rfl
  refine J.bipush (q := 15) dX4_init_13 (by decide) ?_ rfl
  refine J.newZG (q := 17) (N := 81) (n := 46) (m := 44) (a1 := 2) (b1 := 162) dX4_init_15 rfl (by decide) rfl (by decide +kernel) (by decide) kA_boolean ⟨by decide, by decide⟩ rfl rfl rfl (hz 46 (by omega)) ?_
  refine J.putFG (q := 20) (ci := 4) (k0 := 1) (n := 47) (m := 44) dX4_init_17 kF_X4_15 rfl (by decide) (by decide) (by decide) rfl rfl rfl rfl (by decide) rfl rfl ?_
  refine J.aload_n (q := 21) dX4_init_20 rfl ?_ rfl
  refine J.bipush (q := 23) dX4_init_21 (by decide) ?_ rfl
  refine J.newIG (q := 25) (N := 81) (n := 47) (m := 45) (a1 := 3) (b1 := 243) dX4_init_23 rfl (by decide) rfl (by decide +kernel) (by decide) kA_int ⟨by decide, by decide⟩ rfl rfl rfl (hz 47 (by omega)) ?_
  refine J.putFG (q := 28) (ci := 4) (k0 := 2) (n := 48) (m := 45) dX4_init_25 kF_X4_19 rfl (by decide) (by decide) (by decide) rfl rfl rfl rfl (by decide) rfl rfl ?_
  refine J.aload_n (q := 29) dX4_init_28 rfl ?_ rfl
  refine J.sipush (q := 32) dX4_init_29 (by decide) ?_ rfl
  refine J.newIG (q := 34) (N := 648) (n := 48) (m := 46) (a1 := 4) (b1 := 891) dX4_init_32 rfl (by decide) rfl (by decide +kernel) (by decide) kA_int ⟨by decide, by decide⟩ rfl rfl rfl (hz 48 (by omega)) ?_
  refine J.putFG (q := 37) (ci := 4) (k0 := 3) (n := 49) (m := 46) dX4_init_34 kF_X4_22 rfl (by decide) (by decide) (by decide) rfl rfl rfl rfl (by decide) rfl rfl ?_
  refine J.aload_n (q := 38) dX4_init_37 rfl ?_ rfl
  refine J.sipush (q := 41) dX4_init_38 (by decide) ?_ rfl
  refine J.newIG (q := 43) (N := 648) (n := 49) (m := 47) (a1 := 5) (b1 := 1539) dX4_init_41 rfl (by decide) rfl (by decide +kernel) (by decide) kA_int ⟨by decide, by decide⟩ rfl rfl rfl (hz 49 (by omega)) ?_
  refine J.putFG (q := 46) (ci := 4) (k0 := 4) (n := 50) (m := 47) dX4_init_43 kF_X4_25 rfl (by decide) (by decide) (by decide) rfl rfl rfl rfl (by decide) rfl rfl ?_
  refine J.vreturn dX4_init_46 rfl ?_
  exact ⟨rfl, rfl, rfl⟩

set_option maxRecDepth 100000 in
set_option maxHeartbeats 4000000 in
theorem c_X3_init_50 {l : Launch} {F : Nat × (Int → Int)} {iv : Mm} (hz : ∀ q, 50 ≤ q → iv q = fun _ => 0) : Ctr l F 1 5 604 yX3_init cX3_init 1 none [r_ 50] (Sg 51 49) iv (IP 56 54 (fun iv2 => (∀ q, q ≠ 50 → iv2 q = iv q) ∧ iv2 50 0 = 0)) := by
  refine Ctr.of true (fun _ => rfl) (by decide) rfl (Nat.le_of_ble_eq_true rfl) ?_
  refine J.aload_n (q := 1) dX3_init_0 rfl ?_ rfl
  refine J.objInit (q := 4) dX3_init_1 kL_X3_3 rfl (by decide) rfl ?_
  refine J.aload_n (q := 5) dX3_init_4 rfl ?_ rfl
  refine J.iconst (q := 6) dX3_init_5 ?_ rfl
  refine J.putI (ci := 3) (k0 := 0) (kz := 0) (q := 9) dX3_init_6 kF_X3_9 rfl (by decide) (by decide) rfl rfl rfl ?_ rfl
  refine J.aload_n (q := 10) dX3_init_9 rfl ?_ rfl
  refine J.bipush (q := 12) dX3_init_10 (by decide) ?_ rfl
  refine J.newIG (q := 14) (N := 120) (n := 51) (m := 49) (a1 := 1) (b1 := 120) dX3_init_12 rfl (by decide) rfl (by decide +kernel) (by decide) kA_int ⟨by decide, by decide⟩ rfl rfl rfl (hz 51 (by omega)) ?_
  refine J.putFG (q := 17) (ci := 3) (k0 := 1) (n := 52) (m := 49) dX3_init_14 kF_X3_15 rfl (by decide) (by decide) (by decide) rfl rfl rfl rfl (by decide) rfl rfl ?_
  refine J.aload_n (q := 18) dX3_init_17 rfl ?_ rfl
  refine J.bipush (q := 20) dX3_init_18 (by decide) ?_ rfl
  refine J.newIG (q := 22) (N := 121) (n := 52) (m := 50) (a1 := 2) (b1 := 241) dX3_init_20 rfl (by decide) rfl (by decide +kernel) (by decide) kA_int ⟨by decide, by decide⟩ rfl rfl rfl (hz 52 (by omega)) ?_
  refine J.putFG (q := 25) (ci := 3) (k0 := 2) (n := 53) (m := 50) dX3_init_22 kF_X3_19 rfl (by decide) (by decide) (by decide) rfl rfl rfl rfl (by decide) rfl rfl ?_
  refine J.aload_n (q := 26) dX3_init_25 rfl ?_ rfl
  refine J.bipush (q := 28) dX3_init_26 (by decide) ?_ rfl
  refine J.newIG (q := 30) (N := 121) (n := 53) (m := 51) (a1 := 3) (b1 := 362) dX3_init_28 rfl (by decide) rfl (by decide +kernel) (by decide) kA_int ⟨by decide, by decide⟩ rfl rfl rfl (hz 53 (by omega)) ?_
  refine J.putFG (q := 33) (ci := 3) (k0 := 3) (n := 54) (m := 51) dX3_init_30 kF_X3_22 rfl (by decide) (by decide) (by decide) rfl rfl rfl rfl (by decide) rfl rfl ?_
  refine J.aload_n (q := 34) dX3_init_33 rfl ?_ rfl
  refine J.bipush (q := 36) dX3_init_34 (by decide) ?_ rfl
  refine J.newIG (q := 38) (N := 121) (n := 54) (m := 52) (a1 := 4) (b1 := 483) dX3_init_36 rfl (by decide) rfl (by decide +kernel) (by decide) kA_int ⟨by decide, by decide⟩ rfl rfl rfl (hz 54 (by omega)) ?_
  refine J.putFG (q := 41) (ci := 3) (k0 := 4) (n := 55) (m := 52) dX3_init_38 kF_X3_25 rfl (by decide) (by decide) (by decide) rfl rfl rfl rfl (by decide) rfl rfl ?_
  refine J.aload_n (q := 42) dX3_init_41 rfl ?_ rfl
  refine J.bipush (q := 44) dX3_init_42 (by decide) ?_ rfl
  refine J.newIG (q := 46) (N := 121) (n := 55) (m := 53) (a1 := 5) (b1 := 604) dX3_init_44 rfl (by decide) rfl (by decide +kernel) (by decide) kA_int ⟨by decide, by decide⟩ rfl rfl rfl (hz 55 (by omega)) ?_
  refine J.putFG (q := 49) (ci := 3) (k0 := 5) (n := 56) (m := 53) dX3_init_46 kF_X3_28 rfl (by decide) (by decide) (by decide) rfl rfl rfl rfl (by decide) rfl rfl ?_
  refine J.aload_n (q := 50) dX3_init_49 rfl ?_ rfl
  refine J.iconst (q := 51) dX3_init_50 ?_ rfl
  refine J.putI (ci := 3) (k0 := 6) (kz := 6) (q := 54) dX3_init_51 kF_X3_31 rfl (by decide) (by decide) rfl rfl rfl ?_ rfl
  refine J.vreturn dX3_init_54 rfl ?_
  exact ⟨rfl, rfl, fun q hq => (up_n _ _ _ hq).trans (up_n _ _ _ hq), rfl⟩

set_option maxRecDepth 100000 in
set_option maxHeartbeats 4000000 in
theorem c_X2_init_56 {l : Launch} {F : Nat × (Int → Int)} {iv : Mm} (hz : ∀ q, 56 ≤ q → iv q = fun _ => 0) : Ctr l F 1 3 168 yX2_init cX2_init 1 none [r_ 56] (Sg 57 55) iv (IP 60 58 (fun iv2 => iv2 = iv)) := by
  refine Ctr.of true (fun _ => rfl) (by decide) rfl (Nat.le_of_ble_eq_true rfl) ?_
  refine J.aload_n (q := 1) dX2_init_0 rfl ?_ rfl
  refine J.objInit (q := 4) dX2_init_1 kL_X2_3 rfl (by decide) rfl ?_
  refine J.aload_n (q := 5) dX2_init_4 rfl ?_ rfl
  refine J.iconst (q := 6) dX2_init_5 ?_ rfl
  refine J.newIG (q := 8) (N := 4) (n := 57) (m := 55) (a1 := 1) (b1 := 4) dX2_init_6 rfl (by decide) rfl (by decide +kernel) (by decide) kA_int ⟨by decide, by decide⟩ rfl rfl rfl (hz 57 (by omega)) ?_
  refine J.putFG (q := 11) (ci := 2) (k0 := 0) (n := 58) (m := 55) dX2_init_8 kF_X2_9 rfl (by decide) (by decide) (by decide) rfl rfl rfl rfl (by decide) rfl rfl ?_
  refine J.aload_n (q := 12) dX2_init_11 rfl ?_ rfl
  refine J.iconst (q := 13) dX2_init_12 ?_ rfl
  refine J.newIG (q := 15) (N := 4) (n := 58) (m := 56) (a1 := 2) (b1 := 8) dX2_init_13 rfl (by decide) rfl (by decide +kernel) (by decide) kA_int ⟨by decide, by decide⟩ rfl rfl rfl (hz 58 (by omega)) ?_
  refine J.putFG (q := 18) (ci := 2) (k0 := 1) (n := 59) (m := 56) dX2_init_15 kF_X2_15 rfl (by decide) (by decide) (by decide) rfl rfl rfl rfl (by decide) rfl rfl ?_
  refine J.aload_n (q := 19) dX2_init_18 rfl ?_ rfl
  refine J.sipush (q := 22) dX2_init_19 (by decide) ?_ rfl
  refine J.newIG (q := 24) (N := 160) (n := 59) (m := 57) (a1 := 3) (b1 := 168) dX2_init_22 rfl (by decide) rfl (by decide +kernel) (by decide) kA_int ⟨by decide, by decide⟩ rfl rfl rfl (hz 59 (by omega)) ?_
  refine J.putFG (q := 27) (ci := 2) (k0 := 2) (n := 60) (m := 57) dX2_init_24 kF_X2_18 rfl (by decide) (by decide) (by decide) rfl rfl rfl rfl (by decide) rfl rfl ?_
  refine J.vreturn dX2_init_27 rfl ?_
  exact ⟨rfl, rfl, rfl⟩

set_option maxRecDepth 100000 in
set_option maxHeartbeats 4000000 in
theorem c_X5_init_0 {l : Launch} {F : Nat × (Int → Int)} {iv : Mm} (hz : ∀ q, 0 ≤ q → iv q = fun _ => 0) : Ctr l F 3 60 5076 yX5_init cX5_init 1 none [r_ 0] (Sg 1 0) iv (IP 61 60 (fun iv2 => RR iv2 1 sI ∧ iv2 0 7 = 0 ∧ iv2 50 0 = 0 ∧ ∀ q, (q = 51 ∨ 57 ≤ q) → iv2 q = fun _ => 0)) := by
  refine Ctr.of true (fun _ => rfl) (by decide) rfl (Nat.le_of_ble_eq_true rfl) ?_
  refine J.aload_n (q := 1) dX5_init_0 rfl ?_ rfl
  refine J.objInit (q := 4) dX5_init_1 kL_X5_3 rfl (by decide) rfl ?_
  refine J.aload_n (q := 5) dX5_init_4 rfl ?_ rfl
  refine J.newG (q := 8) (ci := 1) (n := 1) (m := 0) (a1 := 1) (b1 := 17) dX5_init_5 (by decide) rfl (by decide +kernel) (by decide) kB_X5_9 kO_X1 kD_X1 ⟨by decide, by decide⟩ rfl rfl rfl (hz 1 (by omega)) ?_
  refine J.dup (q := 9) dX5_init_8 rfl ?_ rfl
  refine J.callIG (q := 12) (a1 := 12) (b1 := 399) dX5_init_9 mv_X1_init rfl kL_X5_11 (by decide) ⟨by decide, by decide⟩ rfl ⟨by decide, by decide⟩ rfl rfl rfl (c_X1_init_1 (fun q hq => hz q (by omega))) (fun iv9 hp9 => ?_)
  obtain ⟨e9, r9⟩ := hp9
  have hzn : ∀ q, 13 ≤ q → iv9 q = fun _ => 0 := fun q hq => (e9 q (by omega)).trans (hz q (by omega))
  clear hz
  have hz := hzn
  clear hzn
  refine J.putFG (q := 15) (ci := 5) (k0 := 0) (n := 13) (m := 11) dX5_init_12 kF_X5_12 rfl (by decide) (by decide) (by decide) rfl rfl rfl rfl (by decide) rfl rfl ?_
  refine J.aload_n (q := 16) dX5_init_15 rfl ?_ rfl
  refine J.newG (q := 19) (ci := 1) (n := 13) (m := 12) (a1 := 13) (b1 := 416) dX5_init_16 (by decide) rfl (by decide +kernel) (by decide) kB_X5_9 kO_X1 kD_X1 ⟨by decide, by decide⟩ rfl rfl rfl (hz 13 (by omega)) ?_
  refine J.dup (q := 20) dX5_init_19 rfl ?_ rfl
  refine J.callIG (q := 23) (a1 := 24) (b1 := 798) dX5_init_20 mv_X1_init rfl kL_X5_11 (by decide) ⟨by decide, by decide⟩ rfl ⟨by decide, by decide⟩ rfl rfl rfl (c_X1_init_13 (fun q hq => hz q (by omega))) (fun iv20 hp20 => ?_)
  obtain ⟨e20, r20⟩ := hp20
  have hzn : ∀ q, 25 ≤ q → iv20 q = fun _ => 0 := fun q hq => (e20 q (by omega)).trans (hz q (by omega))
  clear hz
  have hz := hzn
  clear hzn
  refine J.putFG (q := 26) (ci := 5) (k0 := 1) (n := 25) (m := 23) dX5_init_23 kF_X5_16 rfl (by decide) (by decide) (by decide) rfl rfl rfl rfl (by decide) rfl rfl ?_
  refine J.aload_n (q := 27) dX5_init_26 rfl ?_ rfl
  refine J.newG (q := 30) (ci := 0) (n := 25) (m := 24) (a1 := 25) (b1 := 800) dX5_init_27 (by decide) rfl (by decide +kernel) (by decide) kB_X5_19 kO_X0 kD_X0 ⟨by decide, by decide⟩ rfl rfl rfl (hz 25 (by omega)) ?_
  refine J.dup (q := 31) dX5_init_30 rfl ?_ rfl
  refine J.callING (q := 34) (a1 := 43) (b1 := 2743) dX5_init_31 mv_X0_init rfl (by decide) (by decide) ⟨by decide, by decide⟩ rfl ⟨by decide, by decide⟩ rfl rfl rfl (c_X0_init_25 (fun q hq => hz q (by omega))) (fun iv31 hp31 => ?_)
  have e31 := hp31
  have hzn : ∀ q, 44 ≤ q → iv31 q = fun _ => 0 := fun q hq => (e31 q (by omega)).trans (hz q (by omega))
  clear hz
  have hz := hzn
  clear hzn
  refine J.putFG (q := 37) (ci := 5) (k0 := 2) (n := 44) (m := 42) dX5_init_34 kF_X5_22 rfl (by decide) (by decide) (by decide) rfl rfl rfl rfl (by decide) rfl rfl ?_
  refine J.aload_n (q := 38) dX5_init_37 rfl ?_ rfl
  refine J.newG (q := 41) (ci := 4) (n := 44) (m := 43) (a1 := 44) (b1 := 2748) dX5_init_38 (by decide) rfl (by decide +kernel) (by decide) kB_X5_26 kO_X4 kD_X4 ⟨by decide, by decide⟩ rfl rfl rfl (hz 44 (by omega)) ?_
  refine J.dup (q := 42) dX5_init_41 rfl ?_ rfl
  refine J.callING (q := 45) (a1 := 49) (b1 := 4287) dX5_init_42 mv_X4_init rfl (by decide) (by decide) ⟨by decide, by decide⟩ rfl ⟨by decide, by decide⟩ rfl rfl rfl (c_X4_init_44 (fun q hq => hz q (by omega))) (fun iv42 hp42 => ?_)
  subst hp42
  refine J.putFG (q := 48) (ci := 5) (k0 := 3) (n := 50) (m := 48) dX5_init_45 kF_X5_29 rfl (by decide) (by decide) (by decide) rfl rfl rfl rfl (by decide) rfl rfl ?_
  refine J.aload_n (q := 49) dX5_init_48 rfl ?_ rfl
  refine J.newG (q := 52) (ci := 3) (n := 50) (m := 49) (a1 := 50) (b1 := 4294) dX5_init_49 (by decide) rfl (by decide +kernel) (by decide) kB_X5_33 kO_X3 kD_X3 ⟨by decide, by decide⟩ rfl rfl rfl (hz 50 (by omega)) ?_
  refine J.dup (q := 53) dX5_init_52 rfl ?_ rfl
  refine J.callING (q := 56) (a1 := 55) (b1 := 4898) dX5_init_53 mv_X3_init rfl (by decide) (by decide) ⟨by decide, by decide⟩ rfl ⟨by decide, by decide⟩ rfl rfl rfl (c_X3_init_50 (fun q hq => hz q (by omega))) (fun iv53 hp53 => ?_)
  obtain ⟨e53, t53⟩ := hp53
  have hz51 : ∀ q, (q = 51 ∨ 57 ≤ q) → iv53 q = fun _ => 0 := fun q hq => (e53 q (by omega)).trans (hz q (by omega))
  have hzn : ∀ q, 56 ≤ q → iv53 q = fun _ => 0 := fun q hq => (e53 q (by omega)).trans (hz q (by omega))
  clear hz
  have hz := hzn
  clear hzn
  refine J.putFG (q := 59) (ci := 5) (k0 := 4) (n := 56) (m := 54) dX5_init_56 kF_X5_36 rfl (by decide) (by decide) (by decide) rfl rfl rfl rfl (by decide) rfl rfl ?_
  refine J.aload_n (q := 60) dX5_init_59 rfl ?_ rfl
  refine J.newG (q := 63) (ci := 2) (n := 56) (m := 55) (a1 := 56) (b1 := 4901) dX5_init_60 (by decide) rfl (by decide +kernel) (by decide) kB_X5_40 kO_X2 kD_X2 ⟨by decide, by decide⟩ rfl rfl rfl (hz 56 (by omega)) ?_
  refine J.dup (q := 64) dX5_init_63 rfl ?_ rfl
  refine J.callING (q := 67) (a1 := 59) (b1 := 5069) dX5_init_64 mv_X2_init rfl (by decide) (by decide) ⟨by decide, by decide⟩ rfl ⟨by decide, by decide⟩ rfl rfl rfl (c_X2_init_56 (fun q hq => hz q (by omega))) (fun iv64 hp64 => ?_)
  subst hp64
  refine J.putFG (q := 70) (ci := 5) (k0 := 5) (n := 60) (m := 58) dX5_init_67 kF_X5_43 rfl (by decide) (by decide) (by decide) rfl rfl rfl rfl (by decide) rfl rfl ?_
  refine J.aload_n (q := 71) dX5_init_70 rfl ?_ rfl
  refine J.bipush (q := 73) dX5_init_71 (by decide) ?_ rfl
  refine J.newIG (q := 75) (N := 7) (n := 60) (m := 59) (a1 := 60) (b1 := 5076) dX5_init_73 rfl (by decide) rfl (by decide +kernel) (by decide) kA_int ⟨by decide, by decide⟩ rfl rfl rfl (hz 60 (by omega)) ?_
  refine J.putFG (q := 78) (ci := 5) (k0 := 6) (n := 61) (m := 59) dX5_init_75 kF_X5_47 rfl (by decide) (by decide) (by decide) rfl rfl rfl rfl (by decide) rfl rfl ?_
  refine J.aload_n (q := 79) dX5_init_78 rfl ?_ rfl
  refine J.iconst (q := 80) dX5_init_79 ?_ rfl
  refine J.putZ (ci := 5) (k0 := 7) (kz := 7) (q := 83) dX5_init_80 kF_X5_51 rfl (by decide) (by decide) rfl rfl rfl (by omega) ?_ rfl
  refine J.vreturn dX5_init_83 rfl ?_
  refine ⟨rfl, rfl, ?_, rfl, ?_, fun q hq => ?_⟩
  · refine r9.fr (fun q q1 q2 q3 => ?_)
    rw [up_n _ _ _ (by omega), e53 _ (by omega), e31 _ (by omega), e20 _ (by omega)]
  · rw [up_n _ _ _ (by omega)]; exact t53
  · rw [up_n _ _ _ (by omega)]; exact hz51 q hq

