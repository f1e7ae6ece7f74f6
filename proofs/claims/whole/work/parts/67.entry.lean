/-! what the entry gives: texts, tables, classes (printed by wip/whole/m_w.py) -/
def tmS (i : Nat) : Term := .string RX3 (sK.getD i (0, "")).1
def tmV (i : Nat) : Term := .field (tmS i) "java/lang/String" "value" "[B"
def tmK : Term := .static "SnailLaws" "KIND_ABOVE" "[I"
def tmM : Term := .static "SnailLaws" "MOST_OF_TRAIT" "[I"
theorem gv_1 : ∀ i, i < 16 → Cond.exactly (tmS i) "java/lang/String" ∈ flatC (Jvm.Cond.and given_1 narrow_1) := by decide +kernel
theorem gv_2 : ∀ i, i < 16 → Cond.eq (.field (tmS i) "java/lang/String" "coder" "B") (.int 0) ∈ flatC (Jvm.Cond.and given_1 narrow_1) := by decide +kernel
theorem gv_3 : ∀ i, i < 16 → Cond.arrayOf (tmV i) .byte ∈ flatC (Jvm.Cond.and given_1 narrow_1) := by decide +kernel
theorem gv_4 : ∀ i, i < 16 → Cond.eq (.length (tmV i)) (.int (Int32.ofNat (sLen.getD i 0))) ∈ flatC (Jvm.Cond.and given_1 narrow_1) := by decide +kernel
theorem gv_5 : ∀ i, i < 16 → ∀ j, j < sLen.getD i 0 → Cond.eq (.elem (tmV i) (.int (Int32.ofNat j))) (.int ((sByt.getD i []).getD j 0)) ∈ flatC (Jvm.Cond.and given_1 narrow_1) := by decide +kernel
def subL : List Cond → List Cond → Bool
  | [], _ => true
  | _ :: _, [] => false
  | e :: E, g :: G => if e = g then subL E G else subL (e :: E) G
theorem subL_mem : ∀ (E G : List Cond), subL E G = true → ∀ x ∈ E, x ∈ G
  | [], _, _, x, hx => absurd hx List.not_mem_nil
  | e :: E, [], h, _, _ => by simp [subL] at h
  | e :: E, g :: G, h, x, hx => by
    unfold subL at h
    by_cases he : e = g
    · rw [if_pos he] at h
      rcases List.mem_cons.mp hx with rfl | hx
      · rw [he]; exact List.mem_cons_self
      · exact List.mem_cons_of_mem _ (subL_mem E G h x hx)
    · rw [if_neg he] at h
      exact List.mem_cons_of_mem _ (subL_mem (e :: E) G h x hx)
def prS : List (Nat × Nat) := [(94, 99), (94, 101), (99, 101), (94, 103), (99, 103), (101, 103), (94, 105), (99, 105), (101, 105), (103, 105), (94, 107), (99, 107), (101, 107), (103, 107), (105, 107), (94, 109), (99, 109), (101, 109), (103, 109), (105, 109), (107, 109), (94, 116), (99, 116), (101, 116), (103, 116), (105, 116), (107, 116), (109, 116), (94, 121), (99, 121), (101, 121), (103, 121), (105, 121), (107, 121), (109, 121), (116, 121), (94, 123), (99, 123), (101, 123), (103, 123), (105, 123), (107, 123), (109, 123), (116, 123), (121, 123), (94, 125), (99, 125), (101, 125), (103, 125), (105, 125), (107, 125), (109, 125), (116, 125), (121, 125), (123, 125), (94, 65), (99, 65), (101, 65), (103, 65), (105, 65), (107, 65), (109, 65), (116, 65), (121, 65), (123, 65), (125, 65), (94, 74), (99, 74), (101, 74), (103, 74), (105, 74), (107, 74), (109, 74), (116, 74), (121, 74), (123, 74), (125, 74), (65, 74), (94, 79), (99, 79), (101, 79), (103, 79), (105, 79), (107, 79), (109, 79), (116, 79), (121, 79), (123, 79), (125, 79), (65, 79), (74, 79), (94, 84), (99, 84), (101, 84), (103, 84), (105, 84), (107, 84), (109, 84), (116, 84), (121, 84), (123, 84), (125, 84), (65, 84), (74, 84), (79, 84), (94, 89), (99, 89), (101, 89), (103, 89), (105, 89), (107, 89), (109, 89), (116, 89), (121, 89), (123, 89), (125, 89), (65, 89), (74, 89), (79, 89), (84, 89)]
def ceS (q : Nat × Nat) : Cond := Cond.not (Cond.eq (.string RX3 q.1) (.string RX3 q.2))
theorem gv_6a : subL (prS.map ceS) (flatC (Jvm.Cond.and given_1 narrow_1)) = true := by decide +kernel
theorem gv_6b : ∀ i, i < 16 → ∀ j, j < 16 → i ≠ j → inL (sK.getD i (0, "")).1 (sK.getD j (0, "")).1 prS = true ∨ inL (sK.getD j (0, "")).1 (sK.getD i (0, "")).1 prS = true := by decide +kernel
theorem gv_6 (i : Nat) (hi : i < 16) (j : Nat) (hj : j < 16) (hne : i ≠ j) : Cond.not (Cond.eq (tmS i) (tmS j)) ∈ flatC (Jvm.Cond.and given_1 narrow_1) ∨ Cond.not (Cond.eq (tmS j) (tmS i)) ∈ flatC (Jvm.Cond.and given_1 narrow_1) :=
  (gv_6b i hi j hj hne).imp (fun h => subL_mem _ _ gv_6a _ (List.mem_map.mpr ⟨_, inL_mem h, rfl⟩)) (fun h => subL_mem _ _ gv_6a _ (List.mem_map.mpr ⟨_, inL_mem h, rfl⟩))
theorem gv_k : Cond.arrayOf tmK .int ∈ flatC (Jvm.Cond.and given_1 narrow_1) ∧ Cond.eq (.length tmK) (.int (Int32.ofNat 7)) ∈ flatC (Jvm.Cond.and given_1 narrow_1) ∧ ∀ j, j < 7 → Cond.eq (.elem tmK (.int (Int32.ofNat j))) (.int (Int32.ofInt (tF1.getD j 0))) ∈ flatC (Jvm.Cond.and given_1 narrow_1) := by decide +kernel
theorem gv_m : Cond.arrayOf tmM .int ∈ flatC (Jvm.Cond.and given_1 narrow_1) ∧ Cond.eq (.length tmM) (.int (Int32.ofNat 5)) ∈ flatC (Jvm.Cond.and given_1 narrow_1) ∧ ∀ j, j < 5 → Cond.eq (.elem tmM (.int (Int32.ofNat j))) (.int (Int32.ofInt (tF2.getD j 0))) ∈ flatC (Jvm.Cond.and given_1 narrow_1) := by decide +kernel
theorem gv_c : Cond.eq (.static "java/lang/String" "COMPACT_STRINGS" "Z") (.int 1) ∈ flatC (Jvm.Cond.and given_1 narrow_1) ∧ Cond.isRef (.static RJ3 "SIOOBE_FORMATTER" "Ljava/util/function/BiFunction;") ∈ flatC (Jvm.Cond.and given_1 narrow_1) := by decide +kernel
theorem kT_all : ∀ i, i < 16 → Cond.stringRef RX3 (sK.getD i (0, "")).1 (sK.getD i (0, "")).2 ∈ lw_tbl := by
  intro i hi
  match i, hi with
  | 0, _ => exact kT_X3_65
  | 1, _ => exact kT_X3_74
  | 2, _ => exact kT_X3_79
  | 3, _ => exact kT_X3_84
  | 4, _ => exact kT_X3_89
  | 5, _ => exact kT_X3_94
  | 6, _ => exact kT_X3_99
  | 7, _ => exact kT_X3_101
  | 8, _ => exact kT_X3_103
  | 9, _ => exact kT_X3_105
  | 10, _ => exact kT_X3_107
  | 11, _ => exact kT_X3_109
  | 12, _ => exact kT_X3_116
  | 13, _ => exact kT_X3_121
  | 14, _ => exact kT_X3_123
  | 15, _ => exact kT_X3_125
  | n + 16, h => omega
def faW (b t1 t2 : Nat) (adK adV : Nat → Nat) (q : Nat) : Nat := if q = 0 then b else if q = 1 then t1 else if q = 2 then t2 else if q < 200 then adK (q - 100) else adV (q - 200)
def FW (L : Nat) (xs : Nat → Int32) : Nat × (Int → Int) := (L, fun z => (xs z.toNat).toInt)
theorem faW_K {b t1 t2 : Nat} {adK adV : Nat → Nat} {i : Nat} (hi : i < 16) : faW b t1 t2 adK adV (100 + i) = adK i := by
  unfold faW
  rw [if_neg (by omega), if_neg (by omega), if_neg (by omega), if_pos (by omega), Nat.add_sub_cancel_left]
theorem faW_V {b t1 t2 : Nat} {adK adV : Nat → Nat} {i : Nat} : faW b t1 t2 adK adV (200 + i) = adV i := by
  unfold faW
  rw [if_neg (by omega), if_neg (by omega), if_neg (by omega), if_neg (by omega), Nat.add_sub_cancel_left]
theorem w_FOK {s : State} {b L : Nat} {xs : Nat → Int32} (hts : ∀ w ∈ lw_tbl, w.before #[Value.ref b] s = true) (hX : va_X b L xs s s.heap) (hbl : b < s.heap.size) (hgv : (Jvm.Cond.and given_1 narrow_1).before #[Value.ref b] s = true) : ∃ fa : Nat → Nat, fa 0 = b ∧ FOK (FW L xs) s.heap.size fa s s.heap := by
  have hfl := flat_of_before _ hgv
  have hA : ∀ a : Nat, a < s.heap.size → ¬ (fun q => s.heap.size ≤ q) a := fun a h h2 => by
    have h2 : s.heap.size ≤ a := h2
    omega
  obtain ⟨adK, adV, hS, hE⟩ := vk_Sof (args := #[Value.ref b]) (s := s) (N := 16) (tm := tmS) (len := sLen) (byt := sByt) (A := fun q => s.heap.size ≤ q) (by decide) (fun i hi => hfl _ (gv_1 i hi)) (fun i hi => hfl _ (gv_2 i hi)) (fun i hi => hfl _ (gv_3 i hi)) (fun i hi => hfl _ (gv_4 i hi)) (fun i hi j hj => hfl _ (gv_5 i hi j hj)) (fun i j hi hj hne => (gv_6 i hi j hj hne).imp (hfl _) (hfl _)) hA
  obtain ⟨t1, hv1, hT1⟩ := va_Tof (args := #[Value.ref b]) (s := s) (tm := tmK) (ty := .int) (N := 7) (f := fun j => .int (Int32.ofInt (tF1.getD j 0))) (A := fun q => s.heap.size ≤ q) (by decide) (hfl _ gv_k.1) (va_eqt (hfl _ gv_k.2.1)) (fun j hj => va_eqt (hfl _ (gv_k.2.2 j hj))) hA
  obtain ⟨t2, hv2, hT2⟩ := va_Tof (args := #[Value.ref b]) (s := s) (tm := tmM) (ty := .int) (N := 5) (f := fun j => .int (Int32.ofInt (tF2.getD j 0))) (A := fun q => s.heap.size ≤ q) (by decide) (hfl _ gv_m.1) (va_eqt (hfl _ gv_m.2.1)) (fun j hj => va_eqt (hfl _ (gv_m.2.2 j hj))) hA
  refine ⟨faW b t1 t2 adK adV, rfl, ?_, hT1, hT2, va_Zref (hts _ kZ_X5_KIND_ABOVE) (hts _ (gtb_sub kD_X5)) hv1 hA, va_Zref (hts _ kZ_X5_MOST_OF_TRAIT) (hts _ (gtb_sub kD_X5)) hv2 hA, va_Zof (hts _ kZ_J0_COMPACT_STRINGS) (hts _ (gtb_sub kD_J0)) (va_eqi (hfl _ gv_c.1)) hA, ?_, fun i hi => ?_, va_Zqof (hts _ kZ_J3_SIOOBE_FORMATTER) (hts _ (gtb_sub kD_J3)) (hfl _ gv_c.2) hA⟩
  · obtain ⟨scr, h1, h2, h3, h4, h5⟩ := hX
    refine ⟨scr, h1, h2, h3, by rw [h4]; exact Nat.le_refl _, by rw [h4]; rfl, fun j hj => ?_, hA b hbl⟩
    have h6 := h5 j hj
    show scr.slots[j]? = some (.int (Int32.ofInt ((xs ((j : Int).toNat)).toInt)))
    rw [Int.toNat_natCast, I3_self]
    exact h6
  · refine ⟨fun i hi => ?_, fun i j hi hj e => hS.2 i j hi hj ?_⟩
    · have h := hS.1 i hi
      dsimp only
      rw [faW_K hi, faW_V]
      exact h
    · dsimp only at e
      rw [faW_K hi, faW_K hj] at e
      exact e
  · rw [faW_K hi]
    exact vk_R.of (hts _ (kT_all i hi)) (hE i hi)
theorem kO_all : ∀ ci, ci < 7 → Cond.instantiable (cR ci) (cN ci) ∈ gtb := by
  intro ci h
  rcases (show ci = 0 ∨ ci = 1 ∨ ci = 2 ∨ ci = 3 ∨ ci = 4 ∨ ci = 5 ∨ ci = 6 by omega) with rfl | rfl | rfl | rfl | rfl | rfl | rfl
  · exact kO_X0
  · exact kO_X1
  · exact kO_X2
  · exact kO_X3
  · exact kO_X4
  · exact kO_X5
  · exact kO_X6
theorem w_arr {s : State} {args : Array Value} {ty : FieldType} (h : (Cond.arrayClass ty).before args s = true) : ∃ cA : ClassId, ArrOfT s cA ty ∧ s.vm.findClass ("[" ++ ty.toString) = some cA := by
  obtain ⟨cA, kA, comp, h1, h2, h3⟩ := Cond.arrayClass_spec h
  exact ⟨cA, fun n z => ⟨fun k h => (by cases h), kA, h2, comp, h3⟩, h1⟩
theorem w_EK {s : State} {args : Array Value} (hts : ∀ w ∈ gtb, w.before args s = true) : ∃ (D : va_G) (cI cZ cC : ClassId), EK D cI cZ cC s := by
  have h0 : ∀ ci : Nat, ∃ q : ClassId × (Nat → Nat), ci < 7 → u_Kn s (cR ci) (cT ci) (cN ci) q.1 q.2 := fun ci => by
    by_cases h : ci < 7
    · obtain ⟨cC, iS, hK⟩ := u_known (C := cR ci) (T := cT ci) (N := cN ci) (n := cN ci) hts (c_in h) (hts _ (kO_all ci h))
      exact ⟨(cC, iS), fun _ => hK⟩
    · exact ⟨(0, fun _ => 0), fun h2 => absurd h2 h⟩
  obtain ⟨f, hf⟩ := Classical.axiomOfChoice h0
  obtain ⟨cI, hI, nI⟩ := w_arr (hts _ kA_int)
  obtain ⟨cZ, hZ, nZ⟩ := w_arr (hts _ kA_boolean)
  obtain ⟨cC, hC, nC⟩ := w_arr (hts _ kA_char)
  refine ⟨(fun k => (f k).1, fun k => (f k).2), cI, cZ, cC, fun k q hq => ?_, fun k q hq => ?_⟩
  · by_cases h : k < 7
    · rw [c_cl h] at hq
      cases hq
      exact hf k h
    · rw [List.getElem?_eq_none (by show 7 ≤ k; omega)] at hq
      cases hq
  · match k, hq with
    | 0, hq => cases hq; exact ⟨hI, nI⟩
    | 1, hq => cases hq; exact ⟨hZ, nZ⟩
    | 2, hq => cases hq; exact ⟨hC, nC⟩
    | k + 3, hq => cases hq
theorem w_Nest {s : State} {args : Array Value} (hts : ∀ w ∈ lw_tbl, w.before args s = true) : NestOK s :=
  List.forall_mem_cons.mpr ⟨va_Nw.of rfl (hts _ kN_X5_21), List.forall_mem_cons.mpr ⟨va_Nw.of rfl (hts _ kN_X0_20), List.forall_mem_cons.mpr ⟨va_Nw.of rfl (hts _ kN_X5_28), List.forall_mem_cons.mpr ⟨va_Nw.of rfl (hts _ kN_X5_35), List.forall_mem_cons.mpr ⟨va_Nw.of rfl (hts _ kN_X5_42), List.forall_mem_cons.mpr ⟨va_Nw.of rfl (hts _ kN_X4_47), List.forall_mem_cons.mpr ⟨va_Nw.of rfl (hts _ kN_X1_94), fun _ h => absurd h List.not_mem_nil⟩⟩⟩⟩⟩⟩⟩
