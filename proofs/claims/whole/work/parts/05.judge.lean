/-! THE JUDGEMENT 'J': a method's run from a place in its code, over the world as numbers; and its rows, one an instruction. 'Ctr': a method's contract. -/
def rmOf (d kc ks : Nat) : Room := { frames := d, cells := kc, slots := ks, locals := 38 * d }
def nestW : List (String × Nat × MethodName) := [(RX5, 21, yX0_init), (RX0, 20, yX4_init), (RX5, 28, yX4_init), (RX5, 35, yX3_init), (RX5, 42, yX2_init), (RX4, 47, yX5_beside), (RX1, 94, yX5_isOfKind)]
def NestOK (U : State) : Prop := ∀ q ∈ nestW, va_Nw (.methodLinkNest q.1 q.2.1 q.2.2 "SnailLaws") U
def sK : List (Nat × String) := [(65, "hedge"), (74, "greens"), (79, "bans"), (84, "wet"), (89, "thrush"), (94, "snail"), (99, "greedy"), (101, "slow"), (103, "sleepy"), (105, "elder"), (107, "borne"), (109, "glutton"), (116, "at"), (121, "law"), (123, "gate"), (125, "price")]
def sLen : List Nat := [5, 6, 4, 3, 6, 5, 6, 4, 6, 5, 5, 7, 2, 3, 4, 5]
def sByt : List (List Int32) := [[104, 101, 100, 103, 101], [103, 114, 101, 101, 110, 115], [98, 97, 110, 115], [119, 101, 116], [116, 104, 114, 117, 115, 104], [115, 110, 97, 105, 108], [103, 114, 101, 101, 100, 121], [115, 108, 111, 119], [115, 108, 101, 101, 112, 121], [101, 108, 100, 101, 114], [98, 111, 114, 110, 101], [103, 108, 117, 116, 116, 111, 110], [97, 116], [108, 97, 119], [103, 97, 116, 101], [112, 114, 105, 99, 101]]
def tF1 : List Int := [-1, 0, 0, 2, 3, 0, 1]
def tF2 : List Int := [6, 80, 7, 80, 99]
/-- what was there before: the script, two tables, sixteen texts -/
def FOK (F : Nat × (Int → Int)) (base : Nat) (fa : Nat → Nat) (U : State) (H : Heap) : Prop :=
  va_T .int (fa 0) F.1 (fun j => .int (Int32.ofInt (F.2 j))) (fun q => base ≤ q) U H
  ∧ va_T .int (fa 1) 7 (fun j => .int (Int32.ofInt (tF1.getD j 0))) (fun q => base ≤ q) U H
  ∧ va_T .int (fa 2) 5 (fun j => .int (Int32.ofInt (tF2.getD j 0))) (fun q => base ≤ q) U H
  ∧ va_Z "SnailLaws" "KIND_ABOVE" "[I" (.ref (fa 1)) (fun q => base ≤ q) U H
  ∧ va_Z "SnailLaws" "MOST_OF_TRAIT" "[I" (.ref (fa 2)) (fun q => base ≤ q) U H
  ∧ va_Z "java/lang/String" "COMPACT_STRINGS" "Z" (.int 1) (fun q => base ≤ q) U H
  ∧ vk_S 16 sLen sByt (fun i => fa (100 + i)) (fun i => fa (200 + i)) (fun q => base ≤ q) U H
  ∧ (∀ i, i < 16 → vk_R RX3 (sK.getD i (0, "")).1 (sK.getD i (0, "")).2 (fa (100 + i)) U)
  ∧ va_Zq RJ3 "SIOOBE_FORMATTER" "Ljava/util/function/BiFunction;" (fun q => base ≤ q) U H
def EK (D : va_G) (cI cZ cC : ClassId) (U : State) : Prop := va_K D vwCl [(cI, .int), (cZ, .boolean), (cC, .char)] U
theorem FOK.go {F : Nat × (Int → Int)} {base : Nat} {fa : Nat → Nat} {s U : State} {H : Heap} {locs : List Loc} (h : FOK F base fa s s.heap) (hS : va_S (fun q => base ≤ q) s.heap H locs) (hU : U.heap = H) (hW : s.WarmedH U.vm) : FOK F base fa U U.heap := by
  obtain ⟨h0, h1, h2, h3, h4, h5, h6, h7, h8⟩ := h
  rw [hU]
  exact ⟨(h0.kept hS.2.1).moved hW.alike, (h1.kept hS.2.1).moved hW.alike, (h2.kept hS.2.1).moved hW.alike, (h3.kept hS.2.1).moved hW.alike, (h4.kept hS.2.1).moved hW.alike, (h5.kept hS.2.1).moved hW.alike, (h6.kept hS.2.1).moved hW.alike, fun i hi => (h7 i hi).warm hW, (h8.kept hS.2.1).moved hW.alike⟩
theorem FOK.same {F : Nat × (Int → Int)} {base : Nat} {fa : Nat → Nat} {u U : State} (h : FOK F base fa u u.heap) (hv : U.vm = u.vm) (hh : U.heap = u.heap) : FOK F base fa U U.heap := by
  have ha : u.vm.Alike U.vm := by rw [hv]; exact Vm.Alike.refl _
  obtain ⟨h0, h1, h2, h3, h4, h5, h6, h7, h8⟩ := h
  rw [hh]
  exact ⟨h0.moved ha, h1.moved ha, h2.moved ha, h3.moved ha, h4.moved ha, h5.moved ha, h6.moved ha, fun i hi => (h7 i hi).same hv, h8.moved ha⟩
theorem NestOK.warm {s U : State} (hW : s.WarmedH U.vm) (h : NestOK s) : NestOK U := fun q hq => va_Nw.warmM hW (h q hq)
theorem NestOK.same {u U : State} (hv : u.vm = U.vm) (h : NestOK u) : NestOK U := fun q hq => va_Nw.same rfl hv (h q hq)
def HPre (D : va_G) (cI cZ cC : ClassId) (base : Nat) (fa : Nat → Nat) (F : Nat × (Int → Int)) (S : Shp) (iv : Mm) (U : State) : Prop := U.heap.size = base + S.1 ∧ va_P D vwCl (enc cI cZ cC base S iv) U.heap ∧ EK D cI cZ cC U ∧ NestOK U ∧ FOK F base fa U U.heap ∧ WFS S
def PreC (D : va_G) (cI cZ cC : ClassId) (base : Nat) (fa : Nat → Nat) (F : Nat × (Int → Int)) (av : List VT) (S : Shp) (iv : Mm) : Array Value → State → Prop := fun v U => v = (av.map (wV base fa)).toArray ∧ HPre D cI cZ cC base fa F S iv U
def PostC (D : va_G) (cI cZ cC : ClassId) (base : Nat) (fa : Nat → Nat) (P : Option VT → Shp → Mm → Prop) : Array Value → State → Outcome → State → Prop := fun _ st oc t => (∃ (v : Option VT) (S' : Shp) (iv' : Mm), oc = .returned (v.map (wV base fa)) ∧ P v S' iv' ∧ va_P D vwCl (enc cI cZ cC base S' iv') t.heap ∧ t.heap.size = base + S'.1 ∧ WFS S') ∧ va_F (fun q => base ≤ q) st t
/-- a method's contract: called with av over the world (S, iv), at most d calls deep, it returns, and P holds of its answer and the world then -/
def Ctr (l : Launch) (F : Nat × (Int → Int)) (d kc ks : Nat) (y : MethodName) (bytes : ByteArray) (maxL : Nat) (rt : Option FieldType) (av : List VT) (S : Shp) (iv : Mm) (P : Option VT → Shp → Mm → Prop) : Prop :=
  ∀ (D : va_G) (cI cZ cC : ClassId) (base : Nat) (fa : Nat → Nat), Met l y (.code y bytes maxL rt :: gtb) (rmOf d kc ks) (PreC D cI cZ cC base fa F av S iv) (PostC D cI cZ cC base fa P) kc ks (fun q => base ≤ q)
theorem PreC.blind {D : va_G} {cI cZ cC : ClassId} {base : Nat} {fa : Nat → Nat} {F : Nat × (Int → Int)} {av : List VT} {S : Shp} {iv : Mm} : FrameBlind (PreC D cI cZ cC base fa F av S iv) := by
  intro a U g mk h
  obtain ⟨h0, h1, h2, h3, h4, h5, h6⟩ := h
  exact ⟨h0, h1, h2, va_K.moved (u := U) (U := U.calling g mk a) (Vm.Alike.refl U.vm) h3, h4.same rfl, h5.same rfl rfl, h6⟩
def Cx (own : String) (cc : ByteArray) (nL : Nat) (rt : Option FieldType) (fi : Bool) (F : Nat × (Int → Int)) (D : va_G) (cI cZ cC : ClassId) (base : Nat) (fa : Nat → Nat) (p : Program) (s : State) (m : MethodId) (args : Array Value) (meth : Method) (c : Code) : Prop :=
  p.tables.exec = Jvm.exec ∧ c.code = cc ∧ c.maxLocals = nL ∧ meth.sig.returnType = rt ∧ s.vm.findClass own = some m.cls ∧ (∀ w ∈ gtb, w.before args s = true) ∧ (fi = true → meth.name = "<init>") ∧ EK D cI cZ cC s ∧ NestOK s ∧ FOK F base fa s s.heap ∧ base ≤ s.heap.size
def HF (D : va_G) (cI cZ cC : ClassId) (base : Nat) (s : State) (S : Shp) (iv : Mm) (H : Heap) (locs : List Loc) : Prop := va_P D vwCl (enc cI cZ cC base S iv) H ∧ va_S (fun q => base ≤ q) s.heap H locs ∧ H.size = base + S.1 ∧ WFS S
def RetAt (cc : ByteArray) (pc : Nat) (rt : Option FieldType) (v : Option VT) : Prop := match v with
  | none => rt = none ∧ decode cc pc = .ok (.return_, 1)
  | some (.inl a) => (∃ ty, rt = some ty ∧ narrow ty (.int (Int32.ofInt a)) = .int (Int32.ofInt a)) ∧ decode cc pc = .ok (.ireturn, 1)
  | some (.inr (.inl _)) => rt = some .long ∧ decode cc pc = .ok (.lreturn, 1)
  | some (.inr (.inr _)) => (∃ ty, rt = some ty ∧ ((∃ n, ty = .object n) ∨ ∃ t, ty = .array t)) ∧ decode cc pc = .ok (.areturn, 1)
-- the locals
def lget : List (Option VT) → Nat → Option VT
  | [], _ => none
  | a :: _, 0 => a
  | _ :: t, n + 1 => lget t n
def isL (a : Option VT) : Bool := match a with
  | some (.inr (.inl _)) => true
  | _ => false
def lset : List (Option VT) → Nat → VT → List (Option VT)
  | [], _, _ => []
  | _ :: t, 0, v => some v :: t
  | a :: t, 1, v => (bif isL a then none else a) :: lset t 0 v
  | a :: t, n + 2, v => a :: lset t (n + 1) v
def lclr : List (Option VT) → Nat → List (Option VT)
  | [], _ => []
  | _ :: t, 0 => none :: t
  | a :: t, n + 1 => a :: lclr t n
def lvl (base : Nat) (fa : Nat → Nat) : Nat → List (Option VT) → List (Nat × Value)
  | _, [] => []
  | n, none :: t => lvl base fa (n + 1) t
  | n, some v :: t => (n, wV base fa v) :: lvl base fa (n + 1) t
def LOK (base : Nat) (fa : Nat → Nat) (nL : Nat) (lsA : Array Slot) (ls : List (Option VT)) : Prop := ls.length = nL ∧ lv_has lsA nL (lvl base fa 0 ls)
theorem lvl_mem {base : Nat} {fa : Nat → Nat} {q : Nat × Value} : ∀ (ls : List (Option VT)) (n : Nat), q ∈ lvl base fa n ls ↔ ∃ j v, lget ls j = some v ∧ q = (n + j, wV base fa v)
  | [], n => by simp [lvl, lget]
  | none :: t, n => by
    rw [lvl, lvl_mem t (n + 1)]
    constructor
    · rintro ⟨j, v, h1, h2⟩
      exact ⟨j + 1, v, h1, by rw [h2]; congr 1; omega⟩
    · rintro ⟨j, v, h1, h2⟩
      cases j with
      | zero => cases h1
      | succ j => exact ⟨j, v, h1, by rw [h2]; congr 1; omega⟩
  | some u :: t, n => by
    rw [lvl, List.mem_cons, lvl_mem t (n + 1)]
    constructor
    · rintro (h | ⟨j, v, h1, h2⟩)
      · exact ⟨0, u, rfl, h⟩
      · exact ⟨j + 1, v, h1, by rw [h2]; congr 1; omega⟩
    · rintro ⟨j, v, h1, h2⟩
      cases j with
      | zero =>
        have e : u = v := Option.some.inj h1
        subst e
        exact Or.inl h2
      | succ j => exact Or.inr ⟨j, v, h1, by rw [h2]; congr 1; omega⟩
theorem lget_lt {v : VT} : ∀ (ls : List (Option VT)) (j : Nat), lget ls j = some v → j < ls.length
  | [], j, h => by cases h
  | a :: t, 0, _ => by simp
  | a :: t, j + 1, h => by
    have := lget_lt t j h
    simp only [List.length_cons]
    omega
theorem lset_len {v : VT} : ∀ (ls : List (Option VT)) (i : Nat), (lset ls i v).length = ls.length
  | [], _ => rfl
  | a :: t, 0 => rfl
  | a :: t, 1 => by
    rw [lset, List.length_cons, lset_len t 0, List.length_cons]
  | a :: t, i + 2 => by
    rw [lset, List.length_cons, lset_len t (i + 1), List.length_cons]
theorem lclr_len : ∀ (ls : List (Option VT)) (i : Nat), (lclr ls i).length = ls.length
  | [], _ => rfl
  | a :: t, 0 => rfl
  | a :: t, i + 1 => by
    rw [lclr, List.length_cons, lclr_len t i, List.length_cons]
theorem wV_cat {base : Nat} {fa : Nat → Nat} (v : VT) : (wV base fa v).category = if isL (some v) = true then 2 else 1 := by
  rcases v with a | a | q <;> rfl
theorem lget_lset {v w : VT} : ∀ (ls : List (Option VT)) (i j : Nat), lget (lset ls i v) j = some w → (j = i ∧ w = v) ∨ (j ≠ i ∧ lget ls j = some w ∧ ¬ (j + 1 = i ∧ isL (some w) = true))
  | [], i, j, h => by cases h
  | a :: t, 0, 0, h => Or.inl ⟨rfl, (Option.some.inj h).symm⟩
  | a :: t, 0, j + 1, h => Or.inr ⟨by omega, h, by omega⟩
  | a :: t, 1, 0, h => by
    refine Or.inr ⟨by omega, ?_⟩
    rw [lset] at h
    cases ha : isL a with
    | true =>
      rw [ha] at h
      cases h
    | false =>
      rw [ha] at h
      have h : a = some w := h
      subst h
      refine ⟨rfl, fun q => ?_⟩
      rw [ha] at q
      exact absurd q.2 (by decide)
  | a :: t, i + 2, 0, h => Or.inr ⟨by omega, h, by omega⟩
  | a :: t, 1, j + 1, h => by
    rcases lget_lset t 0 j h with ⟨h1, h2⟩ | ⟨h1, h2, h3⟩
    · exact Or.inl ⟨by omega, h2⟩
    · exact Or.inr ⟨by omega, h2, fun q => h3 ⟨by omega, q.2⟩⟩
  | a :: t, i + 2, j + 1, h => by
    rcases lget_lset t (i + 1) j h with ⟨h1, h2⟩ | ⟨h1, h2, h3⟩
    · exact Or.inl ⟨by omega, h2⟩
    · exact Or.inr ⟨by omega, h2, fun q => h3 ⟨by omega, q.2⟩⟩
theorem lget_lclr {w : VT} : ∀ (ls : List (Option VT)) (i j : Nat), lget (lclr ls i) j = some w → j ≠ i ∧ lget ls j = some w
  | [], i, j, h => by cases h
  | a :: t, 0, 0, h => by cases h
  | a :: t, 0, j + 1, h => ⟨by omega, h⟩
  | a :: t, i + 1, 0, h => ⟨by omega, h⟩
  | a :: t, i + 1, j + 1, h => by
    obtain ⟨h1, h2⟩ := lget_lclr t i j h
    exact ⟨by omega, h2⟩
theorem LOK.at {base : Nat} {fa : Nat → Nat} {nL : Nat} {lsA : Array Slot} {ls : List (Option VT)} (h : LOK base fa nL lsA ls) {i : Nat} {v : VT} (hv : lget ls i = some v) : lsA[i]? = some (.val (wV base fa v)) :=
  h.2.2.2 (i, wV base fa v) ((lvl_mem ls 0).mpr ⟨i, v, hv, by rw [Nat.zero_add]⟩)
theorem LOK.st {base : Nat} {fa : Nat → Nat} {nL : Nat} {lsA lsB : Array Slot} {ls : List (Option VT)} {i : Nat} {v : VT} (h : LOK base fa nL lsA ls)
    (hb : lv_has lsB nL ((i, wV base fa v) :: (lvl base fa 0 ls).filter (fun q => !(q.1 == i) && !(q.1 + 1 == i && q.2.category == 2)))) : LOK base fa nL lsB (lset ls i v) := by
  refine ⟨by rw [lset_len]; exact h.1, hb.1, hb.2.1, fun q hq => hb.2.2 q ?_⟩
  obtain ⟨j, w, h1, rfl⟩ := (lvl_mem _ 0).mp hq
  rcases lget_lset ls i j h1 with ⟨rfl, rfl⟩ | ⟨h2, h3, h4⟩
  · rw [Nat.zero_add]; exact List.mem_cons_self
  · refine List.mem_cons_of_mem _ (List.mem_filter.mpr ⟨(lvl_mem ls 0).mpr ⟨j, w, h3, rfl⟩, ?_⟩)
    rw [Nat.zero_add]
    simp only [wV_cat, Bool.and_eq_true, Bool.not_eq_true', beq_eq_false_iff_ne, ne_eq, Bool.and_eq_false_iff]
    refine ⟨h2, ?_⟩
    by_cases q : j + 1 = i
    · refine Or.inr ?_
      rw [if_neg (fun z => h4 ⟨q, z⟩)]
      decide
    · exact Or.inl q
theorem LOK.st2 {base : Nat} {fa : Nat → Nat} {nL : Nat} {lsA lsB : Array Slot} {ls : List (Option VT)} {i : Nat} {v : VT} (h : LOK base fa nL lsA ls)
    (hb : lv_has lsB nL ((i, wV base fa v) :: (lvl base fa 0 ls).filter (fun q => !(q.1 == i) && (!(q.1 == i + 1) && !(q.1 + 1 == i && q.2.category == 2))))) : LOK base fa nL lsB (lclr (lset ls i v) (i + 1)) := by
  refine ⟨by rw [lclr_len, lset_len]; exact h.1, hb.1, hb.2.1, fun q hq => hb.2.2 q ?_⟩
  obtain ⟨j, w, h1, rfl⟩ := (lvl_mem _ 0).mp hq
  obtain ⟨h5, h1⟩ := lget_lclr _ _ _ h1
  rcases lget_lset ls i j h1 with ⟨rfl, rfl⟩ | ⟨h2, h3, h4⟩
  · rw [Nat.zero_add]; exact List.mem_cons_self
  · refine List.mem_cons_of_mem _ (List.mem_filter.mpr ⟨(lvl_mem ls 0).mpr ⟨j, w, h3, rfl⟩, ?_⟩)
    rw [Nat.zero_add]
    simp only [wV_cat, Bool.and_eq_true, Bool.not_eq_true', beq_eq_false_iff_ne, ne_eq, Bool.and_eq_false_iff]
    refine ⟨h2, h5, ?_⟩
    by_cases q : j + 1 = i
    · refine Or.inr ?_
      rw [if_neg (fun z => h4 ⟨q, z⟩)]
      decide
    · exact Or.inl q
def noL : List VT → Bool
  | [] => true
  | .inr (.inl _) :: _ => false
  | _ :: t => noL t
def entL (nL : Nat) (av : List VT) : List (Option VT) := av.map some ++ List.replicate (nL - av.length) none
theorem noL_cat {base : Nat} {fa : Nat → Nat} : ∀ (av : List VT), noL av = true → ∀ v ∈ av.map (wV base fa), v.category = 1
  | [], _, v, hv => by cases hv
  | .inl a :: t, h, v, hv => by
    rcases List.mem_cons.mp hv with rfl | hv
    · rfl
    · exact noL_cat t h v hv
  | .inr (.inr a) :: t, h, v, hv => by
    rcases List.mem_cons.mp hv with rfl | hv
    · rfl
    · exact noL_cat t h v hv
theorem lg_sl_1 : ∀ (vs : List Value), (∀ v ∈ vs, v.category = 1) → lg_sl vs = vs.map Slot.val
  | [], _ => rfl
  | v :: t, h => by
    have h1 := h v List.mem_cons_self
    have h2 := lg_sl_1 t (fun w hw => h w (List.mem_cons_of_mem _ hw))
    show (if v.category = 2 then [Slot.val v, .second] else [.val v]) ++ lg_sl t = _
    rw [h1, h2]
    rfl
theorem lv_args_1 : ∀ (vs : List Value) (n : Nat), (∀ v ∈ vs, v.category = 1) → ∀ (j : Nat) (v : Value), vs[j]? = some v → (n + j, v) ∈ lv_args n vs
  | [], n, _, j, v, hj => by simp at hj
  | u :: t, n, h, j, v, hj => by
    have h1 := h u List.mem_cons_self
    have e : lv_args n (u :: t) = (n, u) :: lv_args (n + 1) t := by
      simp only [lv_args, h1]
      rfl
    rw [e]
    cases j with
    | zero =>
      rw [List.getElem?_cons_zero] at hj
      cases hj
      exact List.mem_cons_self
    | succ j =>
      rw [List.getElem?_cons_succ] at hj
      have := lv_args_1 t (n + 1) (fun w hw => h w (List.mem_cons_of_mem _ hw)) j v hj
      rw [show n + (j + 1) = n + 1 + j by omega]
      exact List.mem_cons_of_mem _ this
theorem lget_ent {v : VT} : ∀ (av : List VT) (m j : Nat), lget (av.map some ++ List.replicate m none) j = some v → av[j]? = some v
  | [], m, j, h => by
    exfalso
    rw [List.map_nil, List.nil_append] at h
    induction m generalizing j with
    | zero => cases h
    | succ m ih =>
      rw [List.replicate_succ] at h
      cases j with
      | zero => cases h
      | succ j => exact ih j h
  | a :: t, m, 0, h => by
    rw [List.getElem?_cons_zero]
    exact h
  | a :: t, m, j + 1, h => by
    rw [List.getElem?_cons_succ]
    exact lget_ent t m j h
theorem LOK.ent {base : Nat} {fa : Nat → Nat} {nL : Nat} {av : List VT} (hn : noL av = true) (hl : av.length ≤ nL) :
    LOK base fa nL ((lg_sl (av.map (wV base fa)) ++ List.replicate (nL - (lg_sl (av.map (wV base fa))).length) Slot.unset).toArray) (entL nL av) := by
  have hc := noL_cat (base := base) (fa := fa) av hn
  have hlen : (lg_sl (av.map (wV base fa))).length = av.length := by rw [lg_sl_1 _ hc]; simp
  have h := lv_entry (av.map (wV base fa)) (n := nL) (by rw [hlen]; exact hl)
  refine ⟨by simp [entL]; omega, h.1, h.2.1, fun q hq => h.2.2 q ?_⟩
  obtain ⟨j, v, h1, rfl⟩ := (lvl_mem _ 0).mp hq
  have h2 := lget_ent av _ j h1
  exact lv_args_1 _ 0 hc j _ (by rw [List.getElem?_map, h2]; rfl)
/-- from (pc, ls, st) over the world (S, iv) the method comes to a return at which Post holds -/
def J (l : Launch) (own : String) (cc : ByteArray) (nL : Nat) (rt : Option FieldType) (d kc ks : Nat) (fi : Bool) (F : Nat × (Int → Int)) (Post : Option VT → Shp → Mm → Prop) (a b pc : Nat) (ls : List (Option VT)) (st : List VT) (S : Shp) (iv : Mm) : Prop :=
  ∀ (p : Program) (e : Env) (s : State) (m : MethodId) (args : Array Value) (below : List Frame) (meth : Method) (c : Code) (D : va_G) (cI cZ cC : ClassId) (base : Nat) (fa : Nat → Nat) (Q : State → Prop),
    Cx own cc nL rt fi F D cI cZ cC base fa p s m args meth c →
    (∀ (v : Option VT) (S' : Shp) (iv' : Mm) (a' b' pc' : Nat) (lsA : Array Slot) (H : Heap) (locs : List Loc), Post v S' iv' → HF D cI cZ cC base s S' iv' H locs → a' ≤ kc → b' ≤ ks → RetAt cc pc' rt v → W p l e (rmOf d kc ks) s m args below meth c H locs a' b' Q (F0 m pc' lsA (v.toList.map (wV base fa)))) →
    ∀ (H : Heap) (locs : List Loc) (lsA : Array Slot), HF D cI cZ cC base s S iv H locs → LOK base fa nL lsA ls → W p l e (rmOf d kc ks) s m args below meth c H locs a b Q (F0 m pc lsA (st.map (wV base fa)))
theorem Ctr.of {l : Launch} {F : Nat × (Int → Int)} {d kc ks nL : Nat} {y : MethodName} {cc : ByteArray} {rt : Option FieldType} {av : List VT} {S : Shp} {iv : Mm} {P : Option VT → Shp → Mm → Prop} (fi : Bool) (hfi : fi = true → y.name = "<init>") (hm : plainName y.cls = true) (hn : noL av = true) (hl : av.length ≤ nL)
    (h : J l y.cls cc nL rt d kc ks fi F P 0 0 0 (entL nL av) [] S iv) : Ctr l F d kc ks y cc nL rt av S iv P := by
  intro D cI cZ cC base fa
  refine Met.ofW (cc := cc) (maxL := nL) (ret := rt) hm rfl ?_
  intro p e s m args below meth c s₁ B hml hv
  obtain ⟨rfl, hsz, hP, hK, hN, hF, hW⟩ := hv
  have hlocks := B.notSynchronized
  have hts := atoms_spec (ws := .code y cc nL rt :: gtb) B.pre
  have hr := B.returns
  rw [lg_entry_eq]
  refine h p e s m _ below meth c D cI cZ cC base fa _ ⟨B.exec, B.bytes, hml, hr, findClass_of_methodNamed B.named, fun w hw => hts w (List.mem_cons_of_mem _ hw), fun q => (name_of_methodNamed B.named B.method).1.trans (hfi q), hK, hN, hF, by rw [hsz]; exact Nat.le_add_right _ _⟩ ?_ s.heap [] _ ⟨hP, va_S.rf, hsz, hW⟩ (LOK.ent hn hl)
  intro v S' iv' a' b' pc' lsA H locs hp hH ha hb hret
  refine W.widen ha hb ?_
  rcases v with _ | v | v | v
  · obtain ⟨e1, e2⟩ := hret
    subst e1
    exact W.vret B.exec B.bytes hr (fun t ht hW => ⟨⟨none, S', iv', rfl, hp, by rw [ht]; exact hH.1, by rw [ht]; exact hH.2.2.1, hH.2.2.2⟩, hH.2.1.F ht⟩) hH.2.1.2.2 e2
  · obtain ⟨⟨ty, e1, e3⟩, e2⟩ := hret
    exact W.zret B.exec B.bytes (hr.trans e1) e3 (fun t ht hW => ⟨⟨some (.inl v), S', iv', rfl, hp, by rw [ht]; exact hH.1, by rw [ht]; exact hH.2.2.1, hH.2.2.2⟩, hH.2.1.F ht⟩) hH.2.1.2.2 e2
  · obtain ⟨e1, e2⟩ := hret
    exact W.lret B.exec B.bytes (hr.trans e1) (fun t ht hW => ⟨⟨some (.inr (.inl v)), S', iv', rfl, hp, by rw [ht]; exact hH.1, by rw [ht]; exact hH.2.2.1, hH.2.2.2⟩, hH.2.1.F ht⟩) hH.2.1.2.2 e2
  · obtain ⟨⟨ty, e1, e3⟩, e2⟩ := hret
    exact W.aret B.exec B.bytes (hr.trans e1) e3 (Or.inr ⟨_, rfl⟩) (fun t ht hW => ⟨⟨some (.inr (.inr v)), S', iv', rfl, hp, by rw [ht]; exact hH.1, by rw [ht]; exact hH.2.2.1, hH.2.2.2⟩, hH.2.1.F ht⟩) hH.2.1.2.2 e2
