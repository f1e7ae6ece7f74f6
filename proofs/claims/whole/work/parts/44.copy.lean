/-! System.arraycopy between two rows of ints -/
def cpyJ (f g : Int → Int) (sp dp n : Int) : Int → Int := fun j => if dp ≤ j ∧ j < dp + n then f (sp + (j - dp)) else g j
theorem enc_setr {cI cZ cC : ClassId} {base : Nat} {S : Shp} {iv : Mm} {q : Nat} {f : Int → Int} (hq : q < S.1) : (enc cI cZ cC base S iv).set q (base + q, wE cI cZ cC base (S.2.1 q) (S.2.2 q) f) = enc cI cZ cC base S (setr iv q f) := by
  apply List.ext_getElem?
  intro k
  by_cases hk : k < S.1
  · rw [enc_at hk]
    by_cases he : k = q
    · subst he
      rw [List.getElem?_set_self (by simpa [enc] using hk), setr_s]
    · rw [List.getElem?_set_ne (fun h => he h.symm), enc_at hk, setr_n _ _ he]
  · rw [List.getElem?_eq_none (by simp [enc]; omega), List.getElem?_eq_none (by simp [enc]; omega)]
theorem cpy_I3 (f g : Int → Int) {sp dp n : Int} (h1 : 0 ≤ sp) (h2 : 0 ≤ dp) (h3 : 0 ≤ n) : va_cpy (fun j : Nat => Int32.ofInt (f j)) (fun j : Nat => Int32.ofInt (g j)) sp.toNat dp.toNat n.toNat = fun j : Nat => Int32.ofInt (cpyJ f g sp dp n j) := by
  funext j
  unfold va_cpy cpyJ
  by_cases h : dp ≤ (j : Int) ∧ (j : Int) < dp + n
  · rw [if_pos h, if_pos (by omega)]
    show Int32.ofInt (f ((sp.toNat + (j - dp.toNat) : Nat) : Int)) = _
    rw [show ((sp.toNat + (j - dp.toNat) : Nat) : Int) = sp + ((j : Int) - dp) by omega]
  · rw [if_neg h, if_neg (by omega)]
theorem J.acopy {l : Launch} {own : String} {cc : ByteArray} {nL : Nat} {rt : Option FieldType} {d kc ks : Nat} {fi : Bool} {F : Nat × (Int → Int)} {Post : Option VT → Shp → Mm → Prop} {a b pc : Nat} {ls : List (Option VT)} {st : List VT} {S : Shp} {iv : Mm} {sp dp n : Int} {q0 q1 n0 n1 ix q : Nat} (hd : decode cc pc = .ok (.invokestatic ix, 3)) (hw : Cond.methodLink own ix (⟨"java/lang/System", "arraycopy", "(Ljava/lang/Object;ILjava/lang/Object;II)V"⟩ : MethodName) ∈ gtb) (hk0 : S.2.1 q0 = (0, n0)) (hk1 : S.2.1 q1 = (0, n1)) (h123 : 0 ≤ sp ∧ 0 ≤ dp ∧ 0 ≤ n) (h4 : sp + n ≤ n0) (h5 : dp + n ≤ n1) (k : J l own cc nL rt d kc ks fi F Post a b q ls st S (setr iv q1 (cpyJ (iv q0) (iv q1) sp dp n))) (hq : pc + 3 = q) (hd1 : 1 ≤ d := by decide) (hsum : (st.map w2).sum ≤ 8 := by decide) : J l own cc nL rt d kc ks fi F Post a b pc ls (i_ n :: i_ dp :: r_ q1 :: i_ sp :: r_ q0 :: st) S iv := by
  intro p e s m args below meth c D cI cZ cC base fa Q C E H locs lsA hH hL
  subst hq
  obtain ⟨hx, hb, hml, hr, ho, hts, hfi, hK, hN, hF, hbs⟩ := id C
  obtain ⟨hP, hS, hsz, hWf⟩ := id hH
  have hl0 := hWf.lt hk0 (by omega)
  have hl1 := hWf.lt hk1 (by omega)
  have hn0 : n0 < 65536 := by have := hWf.2.1 q0; rw [hk0] at this; exact this
  have hn1 : n1 < 65536 := by have := hWf.2.1 q1; rw [hk1] at this; exact this
  have he0 := enc_at (cI := cI) (cZ := cZ) (cC := cC) (base := base) (iv := iv) hl0
  have he1 := enc_at (cI := cI) (cZ := cZ) (cC := cC) (base := base) (iv := iv) hl1
  rw [hk0, wE_a0] at he0
  rw [hk1, wE_a0] at he1
  have ea0 : adr base fa q0 = base + q0 := adr_in (Nat.lt_trans hl0 hWf.2.2)
  have ea1 : adr base fa q1 = base + q1 := adr_in (Nat.lt_trans hl1 hWf.2.2)
  have c1 := I3_clamp (a := sp) h123.1 (by omega)
  have c2 := I3_clamp (a := dp) h123.2.1 (by omega)
  have c3 := I3_clamp (a := n) h123.2.2 (by omega)
  have neg : ∀ z : Int, 0 ≤ z → z < 2147483648 → ¬ Int32.ofInt z < 0 := fun z z0 z1 h => by
    have := (I3_lt (a := z) (b := 0) (by omega) (by omega)).mp h
    omega
  simp only [List.map_cons]
  rw [show wV base fa (r_ q0) = .ref (adr base fa q0) from rfl, show wV base fa (r_ q1) = .ref (adr base fa q1) from rfl, ea0, ea1]
  have nn : ∀ z : Int, 0 ≤ z → z < 2147483648 → (Int32.ofInt z).toInt = z := fun z z0 z1 => I3_toInt (by omega)
  have hc0 : H[base + q0]? = some (vp_cell cI (n0, .inl (fun j : Nat => Int32.ofInt (iv q0 j)))) := hP q0 _ he0
  have hc1 : H[base + q1]? = some (vp_cell cI (n1, .inl (fun j : Nat => Int32.ofInt (iv q1 j)))) := hP q1 _ he1
  intro T hT X
  obtain ⟨-, k0, hk0', cm0, hkk0⟩ := (hK.2 0 _ rfl).1 n0 (fun j => .int (Int32.ofInt (iv q0 j)))
  obtain ⟨-, k1, hk1', cm1, hkk1⟩ := (hK.2 0 _ rfl).1 n1 (fun j => .int (Int32.ofInt (iv q1 j)))
  obtain ⟨vm', X', step⟩ := X.arraycopy hx ho (hts _ hw) (hts _ kW_java_lang_System_arraycopy__Ljava_lang_Object_ILjava_lang_Object_II_V) (hts _ kS_java_lang_System_arraycopy__Ljava_lang_Object_ILjava_lang_Object_II_V) (hts _ kD_J10) (src := base + q0) (dst := base + q1) (cs := vp_cell cI (n0, .inl (fun j : Nat => Int32.ofInt (iv q0 j)))) (cd := vp_cell cI (n1, .inl (fun j : Nat => Int32.ofInt (iv q1 j)))) (srcPos := Int32.ofInt sp) (destPos := Int32.ofInt dp) (n := Int32.ofInt n) (by rw [hT]; exact hc0) (by rw [hT]; exact hc1)
    (fun _ h => by cases h) (fun _ h => by cases h) (fun h => by cases h) (fun h => by cases h) hk0' hk1' hkk0 hkk1 (by simp [refKind]) (neg sp h123.1 (by omega)) (neg dp h123.2.1 (by omega)) (neg n h123.2.2 (by omega))
    (by rw [nn sp h123.1 (by omega), nn n h123.2.2 (by omega)]; show ¬ _ > ((arrV cI n0 (fun j => .int (Int32.ofInt (iv q0 j)))).slots.size : Int); rw [arrV_size]; omega)
    (by rw [nn dp h123.2.1 (by omega), nn n h123.2.2 (by omega)]; show ¬ _ > ((arrV cI n1 (fun j => .int (Int32.ofInt (iv q1 j)))).slots.size : Int); rw [arrV_size]; omega)
    (fun vm₁ _ i hi => by
      have e : (vp_cell cI (n0, .inl (fun j : Nat => Int32.ofInt (iv q0 j)))).slots.getD ((Int32.ofInt sp).toNatClampNeg + i) .null = .int (Int32.ofInt (iv q0 ((Int32.ofInt sp).toNatClampNeg + i : Nat))) := by
        show (arrV cI n0 (fun j => .int (Int32.ofInt (iv q0 j)))).slots.getD _ _ = _
        rw [Array.getD_eq_getD_getElem?, arrV_read _ _ (by rw [c3] at hi; rw [c1]; omega)]
        rfl
      refine ⟨?_, ?_⟩
      · rw [e]; rfl
      · rw [e]; exact trivial)
    (g := F0 m pc lsA (.int (Int32.ofInt n) :: .int (Int32.ofInt dp) :: .ref (base + q1) :: .int (Int32.ofInt sp) :: .ref (base + q0) :: st.map (wV base fa))) rfl (by show lsA.size = _; rw [hml]; exact hL.2.1) (rest := st.map (wV base fa)) rfl (by rw [hb]; exact hd) hd1 (by show 2 * 0 + _ + _ ≤ 38 * d; rw [w2_sum]; show 2 * 0 + _ + 18 ≤ 38 * d; omega)
  have e1 : copied (vp_cell cI (n0, .inl (fun j : Nat => Int32.ofInt (iv q0 j)))) (vp_cell cI (n1, .inl (fun j : Nat => Int32.ofInt (iv q1 j)))) (Int32.ofInt sp) (Int32.ofInt dp) (Int32.ofInt n) = vp_cell cI (n1, .inl (fun j : Nat => Int32.ofInt (cpyJ (iv q0) (iv q1) sp dp n j))) := by
    rw [← cpy_I3 _ _ h123.1 h123.2.1 h123.2.2, ← c1, ← c2, ← c3]
    have hle : (Int32.ofInt sp).toNatClampNeg + (Int32.ofInt n).toNatClampNeg ≤ n0 := by rw [c1, c3]; omega
    exact va_copied (fun z => .int z) cI cI (n1 := n1) (dp := (Int32.ofInt dp).toNatClampNeg) (fun j : Nat => Int32.ofInt (iv q0 j)) (fun j : Nat => Int32.ofInt (iv q1 j)) hle
  rw [e1] at X' step
  obtain ⟨Hn, hHn⟩ : ∃ Hn, Hn = H.setIfInBounds (base + q1) (vp_cell cI (n1, .inl (fun j : Nat => Int32.ofInt (cpyJ (iv q0) (iv q1) sp dp n j)))) := ⟨_, rfl⟩
  have hl : base + q1 < H.size := (Array.getElem?_eq_some_iff.mp hc1).1
  have hheap : ((T.setVm vm').setCell (base + q1) (vp_cell cI (n1, .inl (fun j : Nat => Int32.ofInt (cpyJ (iv q0) (iv q1) sp dp n j))))).heap = Hn := by rw [hHn, ← hT]; rfl
  have oq : ∀ q : Nat, q ≠ base + q1 → Hn[q]? = H[q]? := fun q hq => by rw [hHn]; simp [Array.getElem?_setIfInBounds, Ne.symm hq]
  have oz : Hn.size = H.size := by rw [hHn]; simp
  have oat : Hn[base + q1]? = some (vp_cell cI (n1, .inl (fun j : Nat => Int32.ofInt (cpyJ (iv q0) (iv q1) sp dp n j)))) := by rw [hHn]; simp [Array.getElem?_setIfInBounds, hl]
  have hF2 : ∀ L : List Loc, (∀ q ∈ L, q.base = base + q1) → HF D cI cZ cC base s S (setr iv q1 (cpyJ (iv q0) (iv q1) sp dp n)) Hn (locs ++ L) := by
    intro L hL9
    refine ⟨?_, ⟨by rw [oz]; exact hS.1, fun q g1 g2 => by
        rw [oq q (fun e => g2 (by rw [e]; exact Nat.le_add_right _ _))]
        exact hS.2.1 q g1 g2, fun q hq => by
        rcases List.mem_append.mp hq with h | h
        · exact hS.2.2 q h
        · show base ≤ q.base
          rw [hL9 q h]; exact Nat.le_add_right _ _⟩, oz.trans hsz, hWf⟩
    have h := hP.set (A := fun q => base ≤ q) enc_D (enc_at hl1) (show va_at D vwCl (base + q1, wE cI cZ cC base (S.2.1 q1) (S.2.2 q1) (cpyJ (iv q0) (iv q1) sp dp n)) Hn by rw [hk1, wE_a0]; exact oat) oq
    rw [enc_setr hl1] at h
    exact h
  obtain ⟨t, a1, b1⟩ := k p e s m args below meth c D cI cZ cC base fa Q C E Hn _ lsA (hF2 _ (fun q hq => by
    obtain ⟨z, -, hz⟩ := List.mem_map.mp hq
    rw [← hz])) hL _ hheap X'
  exact ⟨t, step t a1, b1⟩
