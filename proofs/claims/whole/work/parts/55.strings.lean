/-! strings (printed by wip/whole/m_str.py) -/
theorem J.callW {l : Launch} {own : String} {cc : ByteArray} {nL : Nat} {rt : Option FieldType} {d kc ks : Nat} {fi : Bool} {F : Nat × (Int → Int)} {Post : Option VT → Shp → Mm → Prop} {a b pc : Nat} {ls : List (Option VT)} {S : Shp} {iv : Mm} {y : MethodName} {bytes : ByteArray} {maxL n d1 k1 s1 ix q : Nat} {rt1 : Option FieldType} {P1 : Option VT → Shp → Mm → Prop} {av st : List VT} {i : Nat} (hC : Ctr l F d1 k1 s1 y bytes maxL rt1 (r_ (1100 + i) :: av) S iv P1) (hd : decode cc pc = .ok (.invokevirtual ix, 3)) (hm : MVv y bytes maxL rt1 n) (hw : Cond.methodLink own ix y ∈ gtb) (hi : i < 16) (hcy : y.cls = RJ0) (hav : av.length = n) (hdd : d1 + 1 ≤ d ∧ maxL + 19 + 38 * d1 ≤ 38 * d) (hsum : (st.map w2).sum ≤ 8) (hcap : a + k1 ≤ kc ∧ b + s1 ≤ ks) (hq : pc + 3 = q) (k : ∀ (v : Option VT) (S1 : Shp) (iv1 : Mm), P1 v S1 iv1 → J l own cc nL rt d kc ks fi F Post (a + k1) (b + s1) q ls (v.toList ++ st) S1 iv1) : J l own cc nL rt d kc ks fi F Post a b pc ls (av.reverse ++ r_ (1100 + i) :: st) S iv := by
  intro p e s m args below meth c D cI cZ cC base fa Q C E H locs lsA hH hL
  obtain ⟨hx, hb, hml, hr, ho, hts, hfi, hK, hN, hF, hbs⟩ := id C
  obtain ⟨hP, hS, hsz, hWf⟩ := id hH
  subst hq
  have hsum2 : ((st.map (wV base fa)).map fun v => v.category).sum ≤ 8 := by rw [w2_sum]; exact hsum
  have ea : adr base fa (1100 + i) = fa (100 + i) := by rw [adr, if_neg (by omega), show 1100 + i - 1000 = 100 + i by omega]
  have hrec := vk_recv hF.2.2.2.2.2.2.1 hi hS
  have hpv : PreV s H RJ0 (fa (100 + i)) (PreC D cI cZ cC base fa F (r_ (1100 + i) :: av) S iv) (av.map (wV base fa)) := ⟨PreC.blind, hrec, fun U hU hW => ⟨by rw [← ea]; rfl, pre_go hH hK hN hF U hU hW⟩⟩
  refine call_go (rest := st.map (wV base fa)) (va_runV (As := av.map (wV base fa)) (b := fa (100 + i)) (C := RJ0) (n := n) ⟨hx, hb, hml, ho, hts⟩ (hC D cI cZ cC base fa) (cwV n hts (gV hw hm.1.2 (hcy ▸ hm.2) (hcy ▸ hm.1.1.1) hm.1.1.2.1) rfl rfl rfl ⟨hcy, hm.1.1.2.2.1.1, hm.1.1.2.2.1.2, hm.1.1.2.2.2⟩ ⟨hdd.1, by have := hdd.2; show 8 + (maxL + 11) + 38 * d1 ≤ 38 * d; omega⟩) hpv rfl (by rw [List.length_map]; exact hav) (hL.2.1) (by show (List.map (wV base fa) (av.reverse ++ r_ (1100 + i) :: st)) = _; rw [List.map_append, List.map_cons, List.map_reverse, ← ea]; rfl) (lv_room hsum2) hd ⟨hcap.1, hcap.2⟩) hS (fun v S1 iv1 H1 locs1 hp1 hH1 => ?_)
  have k2 := k v S1 iv1 hp1 p e s m args below meth c D cI cZ cC base fa Q C E H1 locs1 lsA hH1 hL
  rw [toL]
  exact k2

theorem J.callW0i {l : Launch} {own : String} {cc : ByteArray} {nL : Nat} {rt : Option FieldType} {d kc ks : Nat} {fi : Bool} {F : Nat × (Int → Int)} {Post : Option VT → Shp → Mm → Prop} {a b pc : Nat} {ls : List (Option VT)} {st : List VT} {S : Shp} {iv : Mm} {y : MethodName} {bytes : ByteArray} {maxL d1 ix q : Nat} {rt1 : Option FieldType} {i : Nat} {S1 : Shp} {iv1 : Mm} {v0 : VT} (hd : decode cc pc = .ok (.invokevirtual ix, 3)) (hm : MVv y bytes maxL rt1 0) (hw : Cond.methodLink own ix y ∈ gtb) (hi : i < 16) (hcy : y.cls = RJ0) (hdd : d1 + 1 ≤ d ∧ maxL + 19 + 38 * d1 ≤ 38 * d) (hsum : (st.map w2).sum ≤ 8) (hcap : a ≤ kc ∧ b ≤ ks) (hq : pc + 3 = q) (hC : Ctr l F d1 0 0 y bytes maxL rt1 (r_ (1100 + i) :: []) S iv (Ret (some v0) S1 iv1)) (k : J l own cc nL rt d kc ks fi F Post a b q ls (v0 :: st) S1 iv1) : J l own cc nL rt d kc ks fi F Post a b pc ls (r_ (1100 + i) :: st) S iv :=
  J.callW (av := []) (n := 0) hC hd hm hw hi hcy rfl hdd hsum hcap hq (fun v S2 iv2 hp => by
    obtain ⟨rfl, rfl, rfl⟩ := hp
    exact k)
theorem J.callW1i {l : Launch} {own : String} {cc : ByteArray} {nL : Nat} {rt : Option FieldType} {d kc ks : Nat} {fi : Bool} {F : Nat × (Int → Int)} {Post : Option VT → Shp → Mm → Prop} {a b pc : Nat} {ls : List (Option VT)} {st : List VT} {S : Shp} {iv : Mm} {y : MethodName} {bytes : ByteArray} {maxL d1 ix q : Nat} {rt1 : Option FieldType} {i : Nat} {v1 : VT} {S1 : Shp} {iv1 : Mm} {v0 : VT} (hd : decode cc pc = .ok (.invokevirtual ix, 3)) (hm : MVv y bytes maxL rt1 1) (hw : Cond.methodLink own ix y ∈ gtb) (hi : i < 16) (hcy : y.cls = RJ0) (hdd : d1 + 1 ≤ d ∧ maxL + 19 + 38 * d1 ≤ 38 * d) (hsum : (st.map w2).sum ≤ 8) (hcap : a ≤ kc ∧ b ≤ ks) (hq : pc + 3 = q) (hC : Ctr l F d1 0 0 y bytes maxL rt1 (r_ (1100 + i) :: [v1]) S iv (Ret (some v0) S1 iv1)) (k : J l own cc nL rt d kc ks fi F Post a b q ls (v0 :: st) S1 iv1) : J l own cc nL rt d kc ks fi F Post a b pc ls (v1 :: r_ (1100 + i) :: st) S iv :=
  J.callW (av := [v1]) (n := 1) hC hd hm hw hi hcy rfl hdd hsum hcap hq (fun v S2 iv2 hp => by
    obtain ⟨rfl, rfl, rfl⟩ := hp
    exact k)
theorem chr_ok {x : Int} (hx : 0 ≤ x ∧ x < 128) : ((Int32.ofInt x).toUInt32 % 65536).toInt32 = Int32.ofInt x := by
  obtain ⟨n, rfl⟩ := Int.eq_ofNat_of_zero_le hx.1
  have h : ∀ n : Nat, n < 128 → ((Int32.ofInt (n : Int)).toUInt32 % 65536).toInt32 = Int32.ofInt (n : Int) := by decide +kernel
  exact h n (by omega)
def sB (i j : Nat) : Int := ((sByt.getD i []).getD j 0).toInt
theorem sB_ok (i j : Nat) : Int32.ofInt (sB i j) = (sByt.getD i []).getD j 0 := Int32.ofInt_toInt _
theorem J.sVal {l : Launch} {own : String} {cc : ByteArray} {nL : Nat} {rt : Option FieldType} {d kc ks : Nat} {fi : Bool} {F : Nat × (Int → Int)} {Post : Option VT → Shp → Mm → Prop} {a b pc : Nat} {ls : List (Option VT)} {st : List VT} {S : Shp} {iv : Mm} {i ix q : Nat} (hd : decode cc pc = .ok (.getfield ix, 3)) (hw : Cond.fieldLink own ix RJ0 "value" "[B" ∈ gtb) (hi : i < 16) (k : J l own cc nL rt d kc ks fi F Post a b q ls (r_ (1200 + i) :: st) S iv) (hq : pc + 3 = q) : J l own cc nL rt d kc ks fi F Post a b pc ls (r_ (1100 + i) :: st) S iv := by
  intro p e s m args below meth c D cI cZ cC base fa Q C E H locs lsA hH hL
  obtain ⟨hx, hb, hml, hr, ho, hts, hfi, hK, hN, hF, hbs⟩ := id C
  obtain ⟨hP, hS, hsz, hWf⟩ := id hH
  subst hq
  have ea : adr base fa (1100 + i) = fa (100 + i) := by rw [adr, if_neg (by omega), show 1100 + i - 1000 = 100 + i by omega]
  have eb : adr base fa (1200 + i) = fa (200 + i) := by rw [adr, if_neg (by omega), show 1200 + i - 1000 = 200 + i by omega]
  have k1 := k p e s m args below meth c D cI cZ cC base fa Q C E H locs lsA hH hL
  rw [List.map_cons, show wV base fa (r_ (1200 + i)) = .ref (adr base fa (1200 + i)) from rfl, eb] at k1
  rw [List.map_cons, show wV base fa (r_ (1100 + i)) = .ref (adr base fa (1100 + i)) from rfl, ea]
  exact vk_getf hx hb (hF.2.2.2.2.2.2.1.1 i hi).2.2.1 hS ho (hts _ hw) (fun _ h => h) hd k1
theorem J.sCod {l : Launch} {own : String} {cc : ByteArray} {nL : Nat} {rt : Option FieldType} {d kc ks : Nat} {fi : Bool} {F : Nat × (Int → Int)} {Post : Option VT → Shp → Mm → Prop} {a b pc : Nat} {ls : List (Option VT)} {st : List VT} {S : Shp} {iv : Mm} {i ix q : Nat} (hd : decode cc pc = .ok (.getfield ix, 3)) (hw : Cond.fieldLink own ix RJ0 "coder" "B" ∈ gtb) (hi : i < 16) (k : J l own cc nL rt d kc ks fi F Post a b q ls (i_ 0 :: st) S iv) (hq : pc + 3 = q) : J l own cc nL rt d kc ks fi F Post a b pc ls (r_ (1100 + i) :: st) S iv := by
  intro p e s m args below meth c D cI cZ cC base fa Q C E H locs lsA hH hL
  obtain ⟨hx, hb, hml, hr, ho, hts, hfi, hK, hN, hF, hbs⟩ := id C
  obtain ⟨hP, hS, hsz, hWf⟩ := id hH
  subst hq
  have ea : adr base fa (1100 + i) = fa (100 + i) := by rw [adr, if_neg (by omega), show 1100 + i - 1000 = 100 + i by omega]
  have k1 := k p e s m args below meth c D cI cZ cC base fa Q C E H locs lsA hH hL
  rw [List.map_cons, show wV base fa (r_ (1100 + i)) = .ref (adr base fa (1100 + i)) from rfl, ea]
  exact vk_getf hx hb (hF.2.2.2.2.2.2.1.1 i hi).2.1 hS ho (hts _ hw) (fun _ h => h) hd k1
theorem J.sLenB {l : Launch} {own : String} {cc : ByteArray} {nL : Nat} {rt : Option FieldType} {d kc ks : Nat} {fi : Bool} {F : Nat × (Int → Int)} {Post : Option VT → Shp → Mm → Prop} {a b pc : Nat} {ls : List (Option VT)} {st : List VT} {S : Shp} {iv : Mm} {i q : Nat} (hd : decode cc pc = .ok (.arraylength, 1)) (hi : i < 16) (k : J l own cc nL rt d kc ks fi F Post a b q ls (i_ (sLen.getD i 0 : Int) :: st) S iv) (hq : pc + 1 = q) : J l own cc nL rt d kc ks fi F Post a b pc ls (r_ (1200 + i) :: st) S iv := by
  intro p e s m args below meth c D cI cZ cC base fa Q C E H locs lsA hH hL
  obtain ⟨hx, hb, hml, hr, ho, hts, hfi, hK, hN, hF, hbs⟩ := id C
  obtain ⟨hP, hS, hsz, hWf⟩ := id hH
  subst hq
  have ea : adr base fa (1200 + i) = fa (200 + i) := by rw [adr, if_neg (by omega), show 1200 + i - 1000 = 200 + i by omega]
  have k1 := k p e s m args below meth c D cI cZ cC base fa Q C E H locs lsA hH hL
  rw [List.map_cons, show wV base fa (r_ (1200 + i)) = .ref (adr base fa (1200 + i)) from rfl, ea]
  exact va_tlen hx hb (hF.2.2.2.2.2.2.1.1 i hi).2.2.2 hS rfl hd k1
theorem J.sBld {l : Launch} {own : String} {cc : ByteArray} {nL : Nat} {rt : Option FieldType} {d kc ks : Nat} {fi : Bool} {F : Nat × (Int → Int)} {Post : Option VT → Shp → Mm → Prop} {a b pc : Nat} {ls : List (Option VT)} {st : List VT} {S : Shp} {iv : Mm} {i q : Nat} {x : Int} (hd : decode cc pc = .ok (.baload, 1)) (hi : i < 16) (hx9 : 0 ≤ x ∧ x < (sLen.getD i 0 : Int)) (h16 : (sLen.getD i 0 : Int) < 100) (k : J l own cc nL rt d kc ks fi F Post a b q ls (i_ (sB i x.toNat) :: st) S iv) (hq : pc + 1 = q) : J l own cc nL rt d kc ks fi F Post a b pc ls (i_ x :: r_ (1200 + i) :: st) S iv := by
  intro p e s m args below meth c D cI cZ cC base fa Q C E H locs lsA hH hL
  obtain ⟨hx, hb, hml, hr, ho, hts, hfi, hK, hN, hF, hbs⟩ := id C
  obtain ⟨hP, hS, hsz, hWf⟩ := id hH
  subst hq
  have ea : adr base fa (1200 + i) = fa (200 + i) := by rw [adr, if_neg (by omega), show 1200 + i - 1000 = 200 + i by omega]
  have k1 := k p e s m args below meth c D cI cZ cC base fa Q C E H locs lsA hH hL
  rw [List.map_cons, show wV base fa (i_ (sB i x.toNat)) = .int (Int32.ofInt (sB i x.toNat)) from rfl, sB_ok] at k1
  rw [List.map_cons, List.map_cons, show wV base fa (r_ (1200 + i)) = .ref (adr base fa (1200 + i)) from rfl, ea]
  refine va_tb hx hb (hF.2.2.2.2.2.2.1.1 i hi).2.2.2 hS (I3_in (by omega) (by omega)) ?_ hd k1
  show Value.int ((sByt.getD i []).getD ((Int32.ofInt x).toNatClampNeg) 0) = _
  rw [I3_clamp hx9.1 (by omega)]
set_option maxRecDepth 100000 in
set_option maxHeartbeats 4000000 in
theorem chk3_body {l : Launch} {F : Nat × (Int → Int)} {iv : Mm} {x m : Int} (hx : 0 ≤ x ∧ x < m) (hm : m < 65536) : J l (yJ3_checkIndex_8e157).cls cJ3_checkIndex_8e157 3 (some FieldType.int) 0 0 0 false F (Ret (some (i_ x)) S0 iv) 0 0 0 [some (i_ x), some (i_ m), none] [] S0 (iv) := by
  refine J.iload_n (q := 1) dJ3_checkIndex_8e157_0 rfl ?_ rfl
  refine J.if_lt (tgt := 9) (q := 4) dJ3_checkIndex_8e157_1 rfl rfl (fun c => absurd c (by omega)) (fun c1 => ?_)
  refine J.iload_n (q := 5) dJ3_checkIndex_8e157_4 rfl ?_ rfl
  refine J.iload_n (q := 6) dJ3_checkIndex_8e157_5 rfl ?_ rfl
  refine J.icmp_lt (tgt := 16) (q := 9) dJ3_checkIndex_8e157_6 rfl rfl (fun c6 => ?_) (fun c => absurd c (by omega))
  refine J.iload_n (q := 17) dJ3_checkIndex_8e157_16 rfl ?_ rfl
  refine J.ireturn dJ3_checkIndex_8e157_17 rfl ?_
  exact ⟨rfl, rfl, rfl⟩

theorem chk3_met {l : Launch} {F : Nat × (Int → Int)} {iv : Mm} {x m : Int} (hx : 0 ≤ x ∧ x < m) (hm9 : m < 65536) (v : Value) (hv : v = .null ∨ ∃ t, v = .ref t) (D : va_G) (cI cZ cC : ClassId) (base : Nat) (fa : Nat → Nat) :
    Met l yJ3_checkIndex_8e157 (.code yJ3_checkIndex_8e157 cJ3_checkIndex_8e157 3 (some .int) :: gtb) (rmOf 0 0 0) (fun a U => a = #[.int (Int32.ofInt x), .int (Int32.ofInt m), v] ∧ HPre D cI cZ cC base fa F S0 iv U) (PostC D cI cZ cC base fa (Ret (some (i_ x)) S0 iv)) 0 0 (fun q => base ≤ q) := by
  refine Met.ofW (cc := cJ3_checkIndex_8e157) (maxL := 3) (ret := some .int) (by decide) rfl ?_
  intro p e s mm args below meth c s₁ B hml hv9
  obtain ⟨rfl, hsz, hP, hK, hN, hF, hW⟩ := hv9
  have hlocks := B.notSynchronized
  have hts := atoms_spec (ws := .code yJ3_checkIndex_8e157 cJ3_checkIndex_8e157 3 (some .int) :: gtb) B.pre
  have hr := B.returns
  have hcat : ∀ w ∈ [Value.int (Int32.ofInt x), Value.int (Int32.ofInt m), v], w.category = 1 := by
    intro w hw
    rcases List.mem_cons.mp hw with rfl | hw
    · rfl
    · rcases List.mem_cons.mp hw with rfl | hw
      · rfl
      · rcases List.mem_cons.mp hw with rfl | hw
        · rcases hv with rfl | ⟨t, rfl⟩ <;> rfl
        · cases hw
  have hent := lg_entry_eq mm [Value.int (Int32.ofInt x), Value.int (Int32.ofInt m), v] 3
  rw [show (#[Value.int (Int32.ofInt x), Value.int (Int32.ofInt m), v] : Array Value) = [Value.int (Int32.ofInt x), Value.int (Int32.ofInt m), v].toArray from rfl, hent]
  have hlen : (lg_sl [Value.int (Int32.ofInt x), Value.int (Int32.ofInt m), v]).length = 3 := by rw [lg_sl_1 _ hcat]; rfl
  have hl := lv_entry [Value.int (Int32.ofInt x), Value.int (Int32.ofInt m), v] (n := 3) (by rw [hlen]; exact Nat.le_refl _)
  have hLOK : LOK base fa 3 ((lg_sl [Value.int (Int32.ofInt x), Value.int (Int32.ofInt m), v] ++ List.replicate (3 - (lg_sl [Value.int (Int32.ofInt x), Value.int (Int32.ofInt m), v]).length) Slot.unset).toArray) [some (i_ x), some (i_ m), none] := by
    refine ⟨rfl, hl.1, hl.2.1, fun q hq => hl.2.2 q ?_⟩
    obtain ⟨j, w, h1, rfl⟩ := (lvl_mem _ 0).mp hq
    refine lv_args_1 _ 0 hcat j _ ?_
    match j, h1 with
    | 0, h1 => cases h1; rfl
    | 1, h1 => cases h1; rfl
    | 2, h1 => cases h1
    | j + 3, h1 => cases h1
  refine chk3_body (l := l) (F := F) hx hm9 p e s mm _ below meth c D cI cZ cC base fa _ ⟨B.exec, B.bytes, hml, hr, findClass_of_methodNamed B.named, fun w hw => hts w (List.mem_cons_of_mem _ hw), (fun q => by cases q), hK, hN, hF, by rw [hsz]; exact Nat.le_add_right _ _⟩ ?_ s.heap [] _ ⟨hP, va_S.rf, hsz, hW⟩ hLOK
  intro v' S' iv' a' b' pc' lsA H locs hp hH ha hb2 hret
  refine W.widen ha hb2 ?_
  obtain ⟨rfl, rfl, rfl⟩ := hp
  obtain ⟨⟨ty, e1, e3⟩, e2⟩ := hret
  exact W.zret B.exec B.bytes (hr.trans e1) e3 (fun t ht hW => ⟨⟨some (i_ x), S0, _, rfl, ⟨rfl, rfl, rfl⟩, by rw [ht]; exact hH.1, by rw [ht]; exact hH.2.2.1, hH.2.2.2⟩, hH.2.1.F ht⟩) hH.2.1.2.2 e2
theorem c_chk {l : Launch} {F : Nat × (Int → Int)} {iv : Mm} {x n : Int} (hx : 0 ≤ x ∧ x < n) (hn : n < 65536) : Ctr l F 1 0 0 yJ0_checkIndex_df160 cJ0_checkIndex_df160 2 none [i_ x, i_ n] S0 iv (Ret none S0 iv) := by
  refine Ctr.of false (fun h => by cases h) (by decide) rfl (Nat.le_of_ble_eq_true rfl) ?_
  refine J.iload_n (q := 1) dJ0_checkIndex_df160_0 rfl ?_ rfl
  refine J.iload_n (q := 2) dJ0_checkIndex_df160_1 rfl ?_ rfl
  have kJ : J l (yJ0_checkIndex_df160).cls cJ0_checkIndex_df160 2 none 1 0 0 false F (Ret none S0 iv) 0 0 8 (entL 2 [i_ x, i_ n]) [i_ x] S0 iv := by
    refine J.pop (q := 9) dJ0_checkIndex_df160_8 rfl ?_ rfl
    exact J.vreturn dJ0_checkIndex_df160_9 rfl ⟨rfl, rfl, rfl⟩
  intro p e s m args below meth c D cI cZ cC base fa Q C E H locs lsA hH hL
  obtain ⟨hx', hb, hml, hr, ho, hts, hfi, hK, hN, hF, hbs⟩ := id C
  obtain ⟨hP, hS, hsz, hWf⟩ := id hH
  obtain ⟨v, hv, hz⟩ : ∃ v : Value, (v = .null ∨ ∃ t, v = .ref t) ∧ va_Z RJ3 "SIOOBE_FORMATTER" "Ljava/util/function/BiFunction;" v (fun q => base ≤ q) s s.heap := by
    rcases hF.2.2.2.2.2.2.2.2 with h | ⟨t, h⟩
    · exact ⟨_, Or.inl rfl, h⟩
    · exact ⟨_, Or.inr ⟨t, rfl⟩, h⟩
  refine va_gets hx' hb hz hS ho (hts _ kF_J0_1053) (fun _ h => h) dJ0_checkIndex_df160_2 ?_
  have hpv : PreS s H (fun a U => a = #[.int (Int32.ofInt x), .int (Int32.ofInt n), v] ∧ HPre D cI cZ cC base fa F S0 iv U) [.int (Int32.ofInt x), .int (Int32.ofInt n), v] := by
    refine ⟨?_, fun U hU hW => ⟨rfl, pre_go hH hK hN hF U hU hW⟩⟩
    intro a U g mk h
    obtain ⟨h0, h1, h2, h3, h4, h5, h6⟩ := h
    exact ⟨h0, h1, h2, va_K.moved (u := U) (U := U.calling g mk a) (Vm.Alike.refl U.vm) h3, h4.same rfl, h5.same rfl rfl, h6⟩
  have hm := mv_J3_checkIndex_8e157
  refine call_go (rest := []) (va_runS (As := [.int (Int32.ofInt x), .int (Int32.ofInt n), v]) (n := 3) ⟨hx', hb, hml, ho, hts⟩ (chk3_met hx hn v hv D cI cZ cC base fa) (va_cwS 3 hts (gS kL_J0_1059 kS_J3_checkIndex_8e157 hm.1 hm.2.1) rfl rfl rfl ⟨hm.2.2.1.1, hm.2.2.1.2, hm.2.2.2⟩ ⟨by show 0 + 1 ≤ 1; omega, by show 8 + (3 + 11) + 38 * 0 ≤ 38 * 1; omega⟩) hpv rfl rfl (hL.2.1) rfl (by show 2 * 0 + 0 ≤ 8; omega) dJ0_checkIndex_df160_5 ⟨Nat.le_refl _, Nat.le_refl _⟩) hS (fun v1 S1 iv1 H1 locs1 hp1 hH1 => ?_)
  obtain ⟨rfl, rfl, rfl⟩ := hp1
  exact kJ p e s m args below meth c D cI cZ cC base fa Q C E H1 locs1 lsA hH1 hL
theorem sLen_r {i : Nat} (hi : i < 16) : 2 ≤ sLen.getD i 0 ∧ sLen.getD i 0 ≤ 7 := by
  have h : ∀ i : Nat, i < 16 → 2 ≤ sLen.getD i 0 ∧ sLen.getD i 0 ≤ 7 := by decide
  exact h i hi
theorem sB_r {i j : Nat} (hi : i < 16) (hj : j < sLen.getD i 0) : 97 ≤ sB i j ∧ sB i j ≤ 122 := by
  have h : ∀ i : Nat, i < 16 → ∀ j : Nat, j < sLen.getD i 0 → 97 ≤ sB i j ∧ sB i j ≤ 122 := by decide
  exact h i hi j hj
set_option maxRecDepth 100000 in
set_option maxHeartbeats 4000000 in
theorem c_isLatin1 {l : Launch} {F : Nat × (Int → Int)} {i : Nat} (hi16 : i < 16) {iv : Mm} : Ctr l F 0 0 0 yJ0_isLatin1_aae02 cJ0_isLatin1_aae02 1 (some FieldType.boolean) [r_ (1100 + i)] S0 (iv) (Ret (some (i_ 1)) S0 iv) := by
  refine Ctr.of false (fun h => by cases h) (by decide) rfl (Nat.le_of_ble_eq_true rfl) ?_
  refine J.getsC (q := 3) dJ0_isLatin1_aae02_0 kF_J0_38 ?_ rfl
  refine J.if_eq (tgt := 17) (q := 6) dJ0_isLatin1_aae02_3 rfl rfl (fun c => absurd c (by decide)) (fun c3 => ?_)
  refine J.aload_n (q := 7) dJ0_isLatin1_aae02_6 rfl ?_ rfl
  refine J.sCod (i := i) (q := 10) dJ0_isLatin1_aae02_7 kF_J0_15 hi16 ?_ rfl
  refine J.if_ne (tgt := 17) (q := 13) dJ0_isLatin1_aae02_10 rfl rfl (fun c => absurd c (by decide)) (fun c10 => ?_)
  refine J.iconst (q := 14) dJ0_isLatin1_aae02_13 ?_ rfl
  refine J.goto (tgt := 18) dJ0_isLatin1_aae02_14 rfl ?_
  refine J.zreturn dJ0_isLatin1_aae02_18 rfl (by omega) ?_
  first
  | exact ⟨rfl, rfl, rfl⟩
  | (refine ⟨congrArg (fun z => some (i_ z)) ?_, rfl, rfl⟩; first | rfl | omega | (simp only [b2]; split <;> omega) | (simp only [b2, *]; split <;> omega))

set_option maxRecDepth 100000 in
set_option maxHeartbeats 4000000 in
theorem c_coder {l : Launch} {F : Nat × (Int → Int)} {i : Nat} (hi16 : i < 16) {iv : Mm} : Ctr l F 0 0 0 yJ0_coder_7d493 cJ0_coder_7d493 1 (some FieldType.byte) [r_ (1100 + i)] S0 (iv) (Ret (some (i_ 0)) S0 iv) := by
  refine Ctr.of false (fun h => by cases h) (by decide) rfl (Nat.le_of_ble_eq_true rfl) ?_
  refine J.getsC (q := 3) dJ0_coder_7d493_0 kF_J0_38 ?_ rfl
  refine J.if_eq (tgt := 13) (q := 6) dJ0_coder_7d493_3 rfl rfl (fun c => absurd c (by decide)) (fun c3 => ?_)
  refine J.aload_n (q := 7) dJ0_coder_7d493_6 rfl ?_ rfl
  refine J.sCod (i := i) (q := 10) dJ0_coder_7d493_7 kF_J0_15 hi16 ?_ rfl
  refine J.goto (tgt := 14) dJ0_coder_7d493_10 rfl ?_
  refine J.breturn dJ0_coder_7d493_14 rfl rfl ?_
  first
  | exact ⟨rfl, rfl, rfl⟩
  | (refine ⟨congrArg (fun z => some (i_ z)) ?_, rfl, rfl⟩; first | rfl | omega | (simp only [b2]; split <;> omega) | (simp only [b2, *]; split <;> omega))

set_option maxRecDepth 100000 in
set_option maxHeartbeats 4000000 in
theorem c_slen {l : Launch} {F : Nat × (Int → Int)} {i : Nat} (hi16 : i < 16) {iv : Mm} : Ctr l F 1 0 0 yJ0_length_8abf5 cJ0_length_8abf5 1 (some FieldType.int) [r_ (1100 + i)] S0 (iv) (Ret (some (i_ (sLen.getD i 0 : Int))) S0 iv) := by
  refine Ctr.of false (fun h => by cases h) (by decide) rfl (Nat.le_of_ble_eq_true rfl) ?_
  have hl := sLen_r hi16
  refine J.aload_n (q := 1) dJ0_length_8abf5_0 rfl ?_ rfl
  refine J.sVal (i := i) (q := 4) dJ0_length_8abf5_1 kF_J0_9 hi16 ?_ rfl
  refine J.sLenB (i := i) (q := 5) dJ0_length_8abf5_4 hi16 ?_ rfl
  refine J.aload_n (q := 6) dJ0_length_8abf5_5 rfl ?_ rfl
  refine J.callW0i (i := i) (q := 9) dJ0_length_8abf5_6 mv_J0_coder_7d493 kL_J0_335 hi16 rfl ⟨by decide, by decide⟩ (Nat.le_of_ble_eq_true rfl) ⟨by decide, by decide⟩ rfl (c_coder hi16) ?_
  refine J.ishr (q := 10) (z := (sLen.getD i 0 : Int)) dJ0_length_8abf5_9 (I3_shr (n := 0) (by omega) (by decide) rfl (by simp)) ?_ rfl
  refine J.ireturn dJ0_length_8abf5_10 rfl ?_
  first
  | exact ⟨rfl, rfl, rfl⟩
  | (refine ⟨congrArg (fun z => some (i_ z)) ?_, rfl, rfl⟩; first | rfl | omega | (simp only [b2]; split <;> omega) | (simp only [b2, *]; split <;> omega))

set_option maxRecDepth 100000 in
set_option maxHeartbeats 4000000 in
theorem c_J1charAt {l : Launch} {F : Nat × (Int → Int)} {i : Nat} (hi16 : i < 16) {iv : Mm} {x : Int} (hx : 0 ≤ x ∧ x < (sLen.getD i 0 : Int)) : Ctr l F 2 0 0 yJ1_charAt_3b067 cJ1_charAt_3b067 2 (some FieldType.char) [r_ (1200 + i), i_ x] S0 (iv) (Ret (some (i_ (sB i x.toNat))) S0 iv) := by
  refine Ctr.of false (fun h => by cases h) (by decide) rfl (Nat.le_of_ble_eq_true rfl) ?_
  have hl := sLen_r hi16
  have hb := sB_r hi16 (j := x.toNat) (by omega)
  refine J.iload_n (q := 1) dJ1_charAt_3b067_0 rfl ?_ rfl
  refine J.aload_n (q := 2) dJ1_charAt_3b067_1 rfl ?_ rfl
  refine J.sLenB (i := i) (q := 3) dJ1_charAt_3b067_2 hi16 ?_ rfl
  refine J.callS2v (q := 6) dJ1_charAt_3b067_3 mv_J0_checkIndex_df160 kS_J0_checkIndex_df160 kL_J1_9 ⟨by decide, by decide⟩ (Nat.le_of_ble_eq_true rfl) ⟨by decide, by decide⟩ rfl (c_chk (by omega) (by omega)) ?_
  refine J.aload_n (q := 7) dJ1_charAt_3b067_6 rfl ?_ rfl
  refine J.iload_n (q := 8) dJ1_charAt_3b067_7 rfl ?_ rfl
  refine J.sBld (i := i) (q := 9) dJ1_charAt_3b067_8 hi16 (by omega) (by omega) ?_ rfl
  refine J.sipush (q := 12) dJ1_charAt_3b067_9 (by decide) ?_ rfl
  refine J.iand (q := 13) (z := sB i x.toNat) dJ1_charAt_3b067_12 (I3_and 8 (by decide) rfl (by omega)) ?_ rfl
  refine J.i2c (q := 14) (z := sB i x.toNat) dJ1_charAt_3b067_13 (chr_ok (by omega)) ?_ rfl
  refine J.creturn dJ1_charAt_3b067_14 rfl (by omega) ?_
  first
  | exact ⟨rfl, rfl, rfl⟩
  | (refine ⟨congrArg (fun z => some (i_ z)) ?_, rfl, rfl⟩; first | rfl | omega | (simp only [b2]; split <;> omega) | (simp only [b2, *]; split <;> omega))

set_option maxRecDepth 100000 in
set_option maxHeartbeats 4000000 in
theorem c_charAt {l : Launch} {F : Nat × (Int → Int)} {i : Nat} (hi16 : i < 16) {iv : Mm} {x : Int} (hx : 0 ≤ x ∧ x < (sLen.getD i 0 : Int)) : Ctr l F 3 0 0 yJ0_charAt_5068e cJ0_charAt_5068e 2 (some FieldType.char) [r_ (1100 + i), i_ x] S0 (iv) (Ret (some (i_ (sB i x.toNat))) S0 iv) := by
  refine Ctr.of false (fun h => by cases h) (by decide) rfl (Nat.le_of_ble_eq_true rfl) ?_
  have hl := sLen_r hi16
  have hb := sB_r hi16 (j := x.toNat) (by omega)
  refine J.aload_n (q := 1) dJ0_charAt_5068e_0 rfl ?_ rfl
  refine J.callW0i (i := i) (q := 4) dJ0_charAt_5068e_1 mv_J0_isLatin1_aae02 kL_J0_492 hi16 rfl ⟨by decide, by decide⟩ (Nat.le_of_ble_eq_true rfl) ⟨by decide, by decide⟩ rfl (c_isLatin1 hi16) ?_
  refine J.if_eq (tgt := 16) (q := 7) dJ0_charAt_5068e_4 rfl rfl (fun c => absurd c (by decide)) (fun c4 => ?_)
  refine J.aload_n (q := 8) dJ0_charAt_5068e_7 rfl ?_ rfl
  refine J.sVal (i := i) (q := 11) dJ0_charAt_5068e_8 kF_J0_9 hi16 ?_ rfl
  refine J.iload_n (q := 12) dJ0_charAt_5068e_11 rfl ?_ rfl
  refine J.callS2i (q := 15) dJ0_charAt_5068e_12 mv_J1_charAt_3b067 kS_J1_charAt_3b067 kL_J0_495 ⟨by decide, by decide⟩ (Nat.le_of_ble_eq_true rfl) ⟨by decide, by decide⟩ rfl (c_J1charAt hi16 hx) ?_
  refine J.creturn dJ0_charAt_5068e_15 rfl (by omega) ?_
  first
  | exact ⟨rfl, rfl, rfl⟩
  | (refine ⟨congrArg (fun z => some (i_ z)) ?_, rfl, rfl⟩; first | rfl | omega | (simp only [b2]; split <;> omega) | (simp only [b2, *]; split <;> omega))

