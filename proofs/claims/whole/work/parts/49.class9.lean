/-! the class: sheets, the tape (printed by wip/whole/m_c9.py) -/
theorem CR.shs {iv iv2 A : Mm} (h : CR iv A) {f g e : Int → Int} (hf : ∀ q, q ≠ 57 → q ≠ 58 → q ≠ 59 → iv2 q = iv q) (h1 : ∀ z, 0 ≤ z → z < 4 → iv2 57 z = f z ∧ iv2 58 z = g z) (h2 : ∀ j, 0 ≤ j → j < 160 → iv2 59 j = e j) : CR iv2 (setr (setr (setr A 74 f) 75 g) 76 e) :=
  ⟨h.r.fr (fun q q1 q2 q3 => hf q (by omega) (by omega) (by omega)), fun x => (h.k x).fr (fun q q1 q2 q3 => hf q (by omega) (by omega) (by omega)), by rw [hf 0 (by decide) (by decide) (by decide)]; exact h.i, by rw [hf 60 (by decide) (by decide) (by decide)]; exact h.e, by rw [hf 50 (by decide) (by decide) (by decide)]; exact h.z, by rw [hf 51 (by decide) (by decide) (by decide)]; exact h.t, h1, h2⟩
theorem CR.num {iv iv2 A : Mm} (h : CR iv A) {e : Int → Int} (hf : ∀ q, q ≠ 59 → iv2 q = iv q) (h2 : ∀ j, 0 ≤ j → j < 160 → iv2 59 j = e j) : CR iv2 (setr A 76 e) :=
  ⟨h.r.fr (fun q q1 q2 q3 => hf q (by omega)), fun x => (h.k x).fr (fun q q1 q2 q3 => hf q (by omega)), by rw [hf 0 (by decide)]; exact h.i, by rw [hf 60 (by decide)]; exact h.e, by rw [hf 50 (by decide)]; exact h.z, by rw [hf 51 (by decide)]; exact h.t, by rw [hf 57 (by decide), hf 58 (by decide)]; exact h.s, h2⟩
theorem wrgS_c (A : Mm) (z : Int) : (wrgS A z = 0 ∧ ¬ (0 ≤ z ∧ z ≤ 3)) ∨ (wrgS A z = 5 ∧ (0 ≤ z ∧ z ≤ 3) ∧ A 74 z = 0) ∨ (wrgS A z = -1 ∧ (0 ≤ z ∧ z ≤ 3) ∧ A 74 z ≠ 0) := by
  unfold wrgS
  by_cases h : 0 ≤ z ∧ z ≤ 3
  · rw [if_pos h]
    by_cases h2 : A 74 z = 0
    · rw [if_pos h2]; exact Or.inr (Or.inl ⟨rfl, h, h2⟩)
    · rw [if_neg h2]; exact Or.inr (Or.inr ⟨rfl, h, h2⟩)
  · rw [if_neg h]; exact Or.inl ⟨rfl, h⟩
theorem shlW {b v : Int} (hb : b = 8 ∨ b = 16 ∨ b = 32) (hv : -2147483648 ≤ v ∧ v < 2147483648) : Int32.ofInt v <<< (Int32.ofInt (32 - b) &&& 31) = Int32.ofInt (cutW b v * 2 ^ (32 - b).toNat) := by
  rcases hb with rfl | rfl | rfl
  · rw [I3_shl (x := v) (y := 32 - 8) 24 (by decide) rfl rfl]
    show Int32.ofInt (v * 2 ^ 24) = Int32.ofInt (v.bmod 256 * 2 ^ 24)
    rw [← Int32.toInt_inj, Int32.toInt_ofInt, Int32.toInt_ofInt]
    show (v * 16777216).bmod 4294967296 = (v.bmod 256 * 16777216).bmod 4294967296
    rw [Int.bmod_def v]
    simp only [Int.bmod_def]
    split <;> split <;> split <;> omega
  · rw [I3_shl (x := v) (y := 32 - 16) 16 (by decide) rfl rfl]
    show Int32.ofInt (v * 2 ^ 16) = Int32.ofInt (v.bmod 65536 * 2 ^ 16)
    rw [← Int32.toInt_inj, Int32.toInt_ofInt, Int32.toInt_ofInt]
    show (v * 65536).bmod 4294967296 = (v.bmod 65536 * 65536).bmod 4294967296
    rw [Int.bmod_def v]
    simp only [Int.bmod_def]
    split <;> split <;> split <;> omega
  · rw [I3_shl (x := v) (y := 32 - 32) 0 (by decide) rfl rfl]
    rfl
theorem cutW_r {b v : Int} (hb : b = 8 ∨ b = 16 ∨ b = 32) (hv : -2147483648 ≤ v ∧ v < 2147483648) : -2147483648 ≤ cutW b v * 2 ^ (32 - b).toNat ∧ cutW b v * 2 ^ (32 - b).toNat < 2147483648 := by
  rcases hb with rfl | rfl | rfl
  · show -2147483648 ≤ v.bmod 256 * 16777216 ∧ v.bmod 256 * 16777216 < 2147483648
    rw [Int.bmod_def]; split <;> omega
  · show -2147483648 ≤ v.bmod 65536 * 65536 ∧ v.bmod 65536 * 65536 < 2147483648
    rw [Int.bmod_def]; split <;> omega
  · show -2147483648 ≤ v * 1 ∧ v * 1 < 2147483648
    omega
theorem shrW {b v : Int} (hb : b = 8 ∨ b = 16 ∨ b = 32) (hv : -2147483648 ≤ v ∧ v < 2147483648) : Int32.ofInt (cutW b v * 2 ^ (32 - b).toNat) >>> (Int32.ofInt (32 - b) &&& 31) = Int32.ofInt (cutW b v) := by
  have hr := cutW_r hb hv
  refine I3_shr hr (32 - b).toNat (by omega) (by omega) ?_
  rw [Int.mul_ediv_cancel _ (by rcases hb with rfl | rfl | rfl <;> decide)]
set_option maxRecDepth 100000 in
set_option maxHeartbeats 4000000 in
theorem c_X2_isMissing {l : Launch} {F : Nat × (Int → Int)} {iv : Mm} {b z : Int} (hz : 0 ≤ z ∧ z ≤ 3) (eb : iv 57 z = b) (hb : -2147483648 ≤ b ∧ b < 2147483648) : Ctr l F 0 0 0 yX2_isMissing cX2_isMissing 2 (some FieldType.boolean) [r_ 56, i_ z] S0 (iv) (Ret (some (i_ (b2 (b = 0)))) S0 iv) := by
  refine Ctr.of false (fun h => by cases h) (by decide) rfl (Nat.le_of_ble_eq_true rfl) ?_
  refine J.aload_n (q := 1) dX2_isMissing_0 rfl ?_ rfl
  refine J.getR (ci := 2) (k0 := 0) (c1 := 57) (q := 4) dX2_isMissing_1 kF_X2_9 rfl (by decide) (by decide) rfl (by decide) rfl ?_ rfl
  refine J.iload_n (q := 5) dX2_isMissing_4 rfl ?_ rfl
  refine J.iald (n := 4) (q := 6) dX2_isMissing_5 rfl (by omega) ?_ rfl
  rw [eb]
  refine J.if_ne (tgt := 13) (q := 9) dX2_isMissing_6 rfl rfl (fun c6 => ?_) (fun c6 => ?_)
  · refine J.iconst (q := 14) dX2_isMissing_13 ?_ rfl
    refine J.zreturn dX2_isMissing_14 rfl (by omega) ?_
    first
    | exact ⟨rfl, rfl, rfl⟩
    | (refine ⟨congrArg (fun z => some (i_ z)) ?_, rfl, rfl⟩; first | rfl | omega | (simp only [b2]; split <;> omega) | (simp only [b2, *]; split <;> omega))
  · refine J.iconst (q := 10) dX2_isMissing_9 ?_ rfl
    refine J.goto (tgt := 14) dX2_isMissing_10 rfl ?_
    refine J.zreturn dX2_isMissing_14 rfl (by omega) ?_
    first
    | exact ⟨rfl, rfl, rfl⟩
    | (refine ⟨congrArg (fun z => some (i_ z)) ?_, rfl, rfl⟩; first | rfl | omega | (simp only [b2]; split <;> omega) | (simp only [b2, *]; split <;> omega))

set_option maxRecDepth 100000 in
set_option maxHeartbeats 4000000 in
theorem c_X2_numberAt {l : Launch} {F : Nat × (Int → Int)} {iv : Mm} {f : Int → Int} (hN : ∀ j, 0 ≤ j → j < 160 → iv 59 j = f j) {z i : Int} (hz : 0 ≤ z ∧ z ≤ 3) (hi9 : 0 ≤ i ∧ i < 40) : Ctr l F 0 0 0 yX2_numberAt cX2_numberAt 3 (some FieldType.int) [r_ 56, i_ z, i_ i] S0 (iv) (Ret (some (i_ (f (40 * z + i)))) S0 iv) := by
  refine Ctr.of false (fun h => by cases h) (by decide) rfl (Nat.le_of_ble_eq_true rfl) ?_
  refine J.aload_n (q := 1) dX2_numberAt_0 rfl ?_ rfl
  refine J.getR (ci := 2) (k0 := 2) (c1 := 59) (q := 4) dX2_numberAt_1 kF_X2_18 rfl (by decide) (by decide) rfl (by decide) rfl ?_ rfl
  refine J.iload_n (q := 5) dX2_numberAt_4 rfl ?_ rfl
  refine J.bipush (q := 7) dX2_numberAt_5 (by decide) ?_ rfl
  refine J.imul (q := 8) dX2_numberAt_7 ?_ rfl
  refine J.iload_n (q := 9) dX2_numberAt_8 rfl ?_ rfl
  refine J.iadd (q := 10) dX2_numberAt_9 ?_ rfl
  refine J.iald (n := 160) (q := 11) dX2_numberAt_10 rfl (by omega) ?_ rfl
  rw [show z * 40 + i = 40 * z + i by omega, hN _ (by omega) (by omega)]
  refine J.ireturn dX2_numberAt_11 rfl ?_
  first
  | exact ⟨rfl, rfl, rfl⟩
  | (refine ⟨congrArg (fun z => some (i_ z)) ?_, rfl, rfl⟩; first | rfl | omega | (simp only [b2]; split <;> omega) | (simp only [b2, *]; split <;> omega))

set_option maxRecDepth 100000 in
set_option maxHeartbeats 4000000 in
theorem c_X5_sheetFlaw {l : Launch} {F : Nat × (Int → Int)} {iv A : Mm} (hC : CR iv A) (hA : AI A) {z : Int} (hz : -2147483648 ≤ z ∧ z < 2147483648) : Ctr l F 2 0 0 yX5_sheetFlaw cX5_sheetFlaw 2 (some FieldType.int) [r_ 0, i_ z] S0 (iv) (Ret (some (i_ (if 0 ≤ wrgS A z then -1000001 - wrgS A z else 0))) S0 iv) := by
  refine Ctr.of false (fun h => by cases h) (by decide) rfl (Nat.le_of_ble_eq_true rfl) ?_
  have hw := wrgS_c A z
  refine J.iload_n (q := 1) dX5_sheetFlaw_0 rfl ?_ rfl
  refine J.callS1i (q := 4) dX5_sheetFlaw_1 mv_X5_isSheet kS_X5_isSheet kL_X5_252 ⟨by decide, by decide⟩ (Nat.le_of_ble_eq_true rfl) ⟨by decide, by decide⟩ rfl (c_X5_isSheet (by omega)) ?_
  refine J.ifb_ne (tgt := 10) (q := 7) dX5_sheetFlaw_4 rfl rfl (fun c4 => ?_) (fun c4 => ?_)
  · refine J.aload_n (q := 11) dX5_sheetFlaw_10 rfl ?_ rfl
    refine J.getR (ci := 5) (k0 := 5) (c1 := 56) (q := 14) dX5_sheetFlaw_11 kF_X5_43 rfl (by decide) (by decide) rfl (by decide) rfl ?_ rfl
    refine J.iload_n (q := 15) dX5_sheetFlaw_14 rfl ?_ rfl
    have hs := hA.sh z (by omega) (by omega)
    refine J.callV1i (ci := 2) (q := 18) dX5_sheetFlaw_15 mv_X2_isMissing kL_X5_272 rfl (by decide) rfl ⟨by decide, by decide⟩ (Nat.le_of_ble_eq_true rfl) ⟨by decide, by decide⟩ rfl (c_X2_isMissing (by omega) (hC.s z (by omega) (by omega)).1 (by omega)) ?_
    refine J.ifb_eq (tgt := 26) (q := 21) dX5_sheetFlaw_18 rfl rfl (fun c18 => ?_) (fun c18 => ?_)
    · refine J.iconst (q := 27) dX5_sheetFlaw_26 ?_ rfl
      refine J.ireturn dX5_sheetFlaw_27 rfl ?_
      refine ⟨congrArg (fun q => some (i_ q)) ?_, rfl, rfl⟩
      first
      | (rw [if_pos (by omega)]; omega)
      | (rw [if_neg (by omega)])
    · refine J.ldc (q := 23) (z := -1000006) dX5_sheetFlaw_21 kK_X5_247 ?_ rfl
      refine J.goto (tgt := 27) dX5_sheetFlaw_23 rfl ?_
      refine J.ireturn dX5_sheetFlaw_27 rfl ?_
      refine ⟨congrArg (fun q => some (i_ q)) ?_, rfl, rfl⟩
      first
      | (rw [if_pos (by omega)]; omega)
      | (rw [if_neg (by omega)])
  · refine J.ldc (q := 9) (z := -1000001) dX5_sheetFlaw_7 kK_X5_63 ?_ rfl
    refine J.ireturn dX5_sheetFlaw_9 rfl ?_
    refine ⟨congrArg (fun q => some (i_ q)) ?_, rfl, rfl⟩
    first
    | (rw [if_pos (by omega)]; omega)
    | (rw [if_neg (by omega)])

theorem runN_s {p : Int → Bool} : ∀ (n : Nat) (i : Int), (∀ j, i ≤ j → j < i + n → p j = true) → runN p n i = i + n
  | 0, i, _ => by simp [runN]
  | n + 1, i, h => by
    rw [runN, if_pos (h i (by omega) (by omega)), runN_s n (i + 1) (fun j h1 h2 => h j (by omega) (by omega))]
    omega
theorem runN_t {p : Int → Bool} {m : Int} (hm : p m = false) : ∀ (n : Nat) (i : Int), i ≤ m → m < i + n → (∀ j, i ≤ j → j < m → p j = true) → runN p n i = m
  | 0, i, h1, h2, _ => by omega
  | n + 1, i, h1, h2, h => by
    by_cases e : i = m
    · subst e; rw [runN, if_neg (by rw [hm]; decide)]
    · rw [runN, if_pos (h i (by omega) (by omega)), runN_t hm n (i + 1) (by omega) (by omega) (fun j j1 j2 => h j (by omega) (by omega))]
set_option maxRecDepth 100000 in
set_option maxHeartbeats 4000000 in
theorem load5_loop {l : Launch} {F : Nat × (Int → Int)} {iv A : Mm} (hC : CR iv A) (hA : AI A) {z : Int} (hz : 0 ≤ z ∧ z ≤ 3) (hw : wrgS A z < 0) {fl : Int} : ∀ (n : Nat) (c : Int) (iv1 : Mm), (A 75 z - c < n) → (0 ≤ c ∧ c ≤ A 75 z) → (∀ j, 0 ≤ j → j < c → (fun i => decide (0 ≤ A 76 (40 * z + i) ∧ A 76 (40 * z + i) ≤ 9)) j = true) → (∀ q, q ≠ 3 → iv1 q = iv q) → (RR iv1 1 (fun j => if 95 ≤ j ∧ j < 95 + c then A 76 (40 * z + (j - 95)) else A 62 j)) → J l (yX5_load).cls cX5_load 4 (some FieldType.int) 3 0 0 false F (CP iv (an_load A z)) 0 0 18 [some (r_ 0), some (i_ z), some (i_ fl), some (i_ c)] [] S0 (iv1) := by
  intro n
  induction n with
  | zero =>
    intro c iv1 hn hc hp9 hf hR
    omega
  | succ n ih =>
    intro c iv1 hn hc hp9 hf hR
    have hsz := hA.sh z (by omega) (by omega)
    have hnu := hA.nu
    have hN1 : ∀ j, 0 ≤ j → j < 160 → iv1 59 j = A 76 j := by rw [hf 59 (by decide)]; exact hC.n
    refine J.iload_n (q := 19) dX5_load_18 rfl ?_ rfl
    refine J.aload_n (q := 20) dX5_load_19 rfl ?_ rfl
    refine J.getR (ci := 5) (k0 := 5) (c1 := 56) (q := 23) dX5_load_20 kF_X5_43 rfl (by decide) (by decide) rfl (by decide) rfl ?_ rfl
    refine J.getR (ci := 2) (k0 := 1) (c1 := 58) (q := 26) dX5_load_23 kF_X5_263 rfl (by decide) (by decide) rfl (by decide) rfl ?_ rfl
    refine J.iload_n (q := 27) dX5_load_26 rfl ?_ rfl
    refine J.iald (n := 4) (q := 28) dX5_load_27 rfl (by omega) ?_ rfl
    rw [hf 58 (by decide), (hC.s z (by omega) (by omega)).2]
    refine J.icmp_ge (tgt := 72) (q := 31) dX5_load_28 rfl rfl (fun c28 => ?_) (fun c28 => ?_)
    · refine J.iload_n (q := 73) dX5_load_72 rfl ?_ rfl
      refine J.ireturn dX5_load_73 rfl ?_
      have hlod : lodN A z = c := by
        unfold lodN
        first
        | exact runN_t hpc _ _ (by omega) (by omega) (fun j j1 j2 => hp9 j j1 j2)
        | (rw [runN_s _ _ (fun j j1 j2 => hp9 j j1 (by omega))]; omega)
      unfold CP an_load
      rw [if_neg (by omega)]
      refine ⟨congrArg (fun q => some (i_ q)) hlod.symm, rfl, fun q hq => hf q (by omega), hC.rep (s := lodS A z) ?_ (fun q hq => hf q (by omega))⟩
      refine hR.cg (fun j j0 j1 => ?_)
      unfold lodS
      rw [hlod]
    · refine J.aload_n (q := 32) dX5_load_31 rfl ?_ rfl
      refine J.getR (ci := 5) (k0 := 5) (c1 := 56) (q := 35) dX5_load_32 kF_X5_43 rfl (by decide) (by decide) rfl (by decide) rfl ?_ rfl
      refine J.iload_n (q := 36) dX5_load_35 rfl ?_ rfl
      refine J.iload_n (q := 37) dX5_load_36 rfl ?_ rfl
      have hnr := hnu (40 * z + c) (by omega) (by omega)
      refine J.callV2i (ci := 2) (q := 40) dX5_load_37 mv_X2_numberAt kL_X5_286 rfl (by decide) rfl ⟨by decide, by decide⟩ (Nat.le_of_ble_eq_true rfl) ⟨by decide, by decide⟩ rfl (c_X2_numberAt hN1 (by omega) (by omega)) ?_
      refine J.bipush (q := 42) dX5_load_40 (by decide) ?_ rfl
      refine J.callS2i (q := 45) dX5_load_42 mv_X5_isWithin kS_X5_isWithin kL_X5_59 ⟨by decide, by decide⟩ (Nat.le_of_ble_eq_true rfl) ⟨by decide, by decide⟩ rfl (c_X5_isWithin (by omega) (by omega)) ?_
      refine J.ifb_eq (tgt := 72) (q := 48) dX5_load_45 rfl rfl (fun c45 => ?_) (fun c45 => ?_)
      · have hpc : (fun i => decide (0 ≤ A 76 (40 * z + i) ∧ A 76 (40 * z + i) ≤ 9)) c = false := decide_eq_false (by omega)
        refine J.iload_n (q := 73) dX5_load_72 rfl ?_ rfl
        refine J.ireturn dX5_load_73 rfl ?_
        have hlod : lodN A z = c := by
          unfold lodN
          first
          | exact runN_t hpc _ _ (by omega) (by omega) (fun j j1 j2 => hp9 j j1 j2)
          | (rw [runN_s _ _ (fun j j1 j2 => hp9 j j1 (by omega))]; omega)
        unfold CP an_load
        rw [if_neg (by omega)]
        refine ⟨congrArg (fun q => some (i_ q)) hlod.symm, rfl, fun q hq => hf q (by omega), hC.rep (s := lodS A z) ?_ (fun q hq => hf q (by omega))⟩
        refine hR.cg (fun j j0 j1 => ?_)
        unfold lodS
        rw [hlod]
      · have hpc : (fun i => decide (0 ≤ A 76 (40 * z + i) ∧ A 76 (40 * z + i) ≤ 9)) c = true := decide_eq_true (by omega)
        refine J.aload_n (q := 49) dX5_load_48 rfl ?_ rfl
        refine J.getR (ci := 5) (k0 := 0) (c1 := 1) (q := 52) dX5_load_49 kF_X5_12 rfl (by decide) (by decide) rfl (by decide) rfl ?_ rfl
        refine J.getR (ci := 1) (k0 := 1) (c1 := 3) (q := 55) dX5_load_52 kF_X5_71 rfl (by decide) (by decide) rfl (by decide) rfl ?_ rfl
        refine J.iload_n (q := 56) dX5_load_55 rfl ?_ rfl
        refine J.aload_n (q := 57) dX5_load_56 rfl ?_ rfl
        refine J.getR (ci := 5) (k0 := 5) (c1 := 56) (q := 60) dX5_load_57 kF_X5_43 rfl (by decide) (by decide) rfl (by decide) rfl ?_ rfl
        refine J.iload_n (q := 61) dX5_load_60 rfl ?_ rfl
        refine J.iload_n (q := 62) dX5_load_61 rfl ?_ rfl
        refine J.callV2i (ci := 2) (q := 65) dX5_load_62 mv_X2_numberAt kL_X5_286 rfl (by decide) rfl ⟨by decide, by decide⟩ (Nat.le_of_ble_eq_true rfl) ⟨by decide, by decide⟩ rfl (c_X2_numberAt hN1 (by omega) (by omega)) ?_
        refine J.iast (n := 81) (q := 66) dX5_load_65 rfl (by omega) ?_ rfl
        refine J.iinc (q := 69) dX5_load_66 rfl ?_ rfl
        refine J.goto (tgt := 18) dX5_load_69 rfl ?_
        refine ih (c + 1) _ (by omega) (by omega) (fun j j0 j1 => ?_) (fun q hq => ?_) ?_
        · by_cases e : j = c
          · subst e; exact hpc
          · exact hp9 j j0 (by omega)
        · rw [up_n _ _ _ hq]; exact hf q hq
        · have h := u1_lea (v := A 76 (40 * z + c)) hR (c := c) (by omega) (by omega)
          refine h.cg (fun j j0 j1 => ?_)
          by_cases e : j = 95 + c
          · subst e; rw [upr_s, if_pos (by omega), show 95 + c - 95 = c by omega]
          · rw [upr_n _ _ e]
            by_cases e2 : 95 ≤ j ∧ j < 95 + c
            · rw [if_pos e2, if_pos (by omega)]
            · rw [if_neg e2, if_neg (by omega)]

set_option maxRecDepth 100000 in
set_option maxHeartbeats 4000000 in
theorem c_X5_load {l : Launch} {F : Nat × (Int → Int)} {iv A : Mm} (hC : CR iv A) (hA : AI A) {z : Int} (hz : -2147483648 ≤ z ∧ z < 2147483648) : Ctr l F 3 0 0 yX5_load cX5_load 4 (some FieldType.int) [r_ 0, i_ z] S0 (iv) (CP iv (an_load A z)) := by
  refine Ctr.of false (fun h => by cases h) (by decide) rfl (Nat.le_of_ble_eq_true rfl) ?_
  have hI := hA.mi
  have hmm := hI.many
  have hkp := hA.kp
  have htp := hA.tp
  refine J.aload_n (q := 1) dX5_load_0 rfl ?_ rfl
  refine J.iload_n (q := 2) dX5_load_1 rfl ?_ rfl
  refine J.callV1i (ci := 5) (q := 5) dX5_load_2 mv_X5_sheetFlaw kL_X5_266 rfl (by decide) rfl ⟨by decide, by decide⟩ (Nat.le_of_ble_eq_true rfl) ⟨by decide, by decide⟩ rfl (c_X5_sheetFlaw hC hA (by omega)) ?_
  obtain ⟨fl, hfl⟩ : ∃ fl : Int, fl = (if 0 ≤ wrgS A z then -1000001 - wrgS A z else 0) := ⟨_, rfl⟩
  rw [← hfl]
  have hw := wrgS_c A z
  have hfl1 : (0 ≤ wrgS A z ∧ fl = -1000001 - wrgS A z) ∨ (wrgS A z < 0 ∧ fl = 0) := by
    by_cases h : 0 ≤ wrgS A z
    · exact Or.inl ⟨h, by rw [hfl, if_pos h]⟩
    · exact Or.inr ⟨by omega, by rw [hfl, if_neg h]⟩
  clear hfl
  refine J.istore_n (q := 6) dX5_load_5 (Nat.le_of_ble_eq_true rfl) ?_ rfl
  refine J.iload_n (q := 7) dX5_load_6 rfl ?_ rfl
  refine J.if_eq (tgt := 16) (q := 10) (hv := by omega) dX5_load_7 rfl rfl (fun c7 => ?_) (fun c7 => ?_)
  · refine J.iconst (q := 17) dX5_load_16 ?_ rfl
    refine J.istore_n (q := 18) dX5_load_17 (Nat.le_of_ble_eq_true rfl) ?_ rfl
    exact load5_loop hC hA (by omega) (by omega) 41 0 iv (by have := hA.sh z (by omega) (by omega); omega) (by have := hA.sh z (by omega) (by omega); omega) (fun j j0 j1 => by omega) (fun _ _ => rfl) (hC.r.cg (fun j j0 j1 => if_neg (by omega)))
  · refine J.aload_n (q := 11) dX5_load_10 rfl ?_ rfl
    refine J.iload_n (q := 12) dX5_load_11 rfl ?_ rfl
    refine J.callV1 (ci := 5) (q := 15) dX5_load_12 mv_X5_tell kL_X5_64 rfl (by decide) rfl ⟨by decide, by decide⟩ (Nat.le_of_ble_eq_true rfl) ⟨by decide, by decide⟩ rfl (c_X5_tell (w := wrgS A z) (by omega) hC (by omega)) (fun v8 S8 iv8 hp => ?_)
    obtain ⟨rfl, rfl, hf8, hC8⟩ := hp
    refine J.ireturn dX5_load_15 rfl ?_
    unfold CP an_load
    repeat (first | rw [if_pos (by omega)] | rw [if_neg (by omega)])
    first
    | exact ⟨rfl, rfl, hf8, hC8⟩
    | (exfalso; omega)

set_option maxRecDepth 100000 in
set_option maxHeartbeats 4000000 in
theorem judge5_loop {l : Launch} {F : Nat × (Int → Int)} {iv A : Mm} (hC : CR iv A) (hA : AI A) {z : Int} (hz : 0 ≤ z ∧ z ≤ 3) (hw : wrgS A z < 0) {fl : Int} : ∀ (n : Nat) (c : Int), (A 75 z - c < n) → (0 ≤ c ∧ c ≤ A 75 z) → (∀ j, 0 ≤ j → j < c → (fun i => decide (A 76 (40 * z + i) = A 62 (176 + i))) j = true) → J l (yX5_judge).cls cX5_judge 4 (some FieldType.int) 3 0 0 false F (CP iv (an_judge A z)) 0 0 18 [some (r_ 0), some (i_ z), some (i_ fl), some (i_ c)] [] S0 (iv) := by
  intro n
  induction n with
  | zero =>
    intro c hn hc hp9
    omega
  | succ n ih =>
    intro c hn hc hp9
    have hsz := hA.sh z (by omega) (by omega)
    have hnu := hA.nu
    have hI := hA.mi
    refine J.iload_n (q := 19) dX5_judge_18 rfl ?_ rfl
    refine J.aload_n (q := 20) dX5_judge_19 rfl ?_ rfl
    refine J.getR (ci := 5) (k0 := 5) (c1 := 56) (q := 23) dX5_judge_20 kF_X5_43 rfl (by decide) (by decide) rfl (by decide) rfl ?_ rfl
    refine J.getR (ci := 2) (k0 := 1) (c1 := 58) (q := 26) dX5_judge_23 kF_X5_263 rfl (by decide) (by decide) rfl (by decide) rfl ?_ rfl
    refine J.iload_n (q := 27) dX5_judge_26 rfl ?_ rfl
    refine J.iald (n := 4) (q := 28) dX5_judge_27 rfl (by omega) ?_ rfl
    rw [(hC.s z (by omega) (by omega)).2]
    refine J.icmp_ge (tgt := 62) (q := 31) dX5_judge_28 rfl rfl (fun c28 => ?_) (fun c28 => ?_)
    · refine J.iconst (q := 63) dX5_judge_62 ?_ rfl
      refine J.ireturn dX5_judge_63 rfl ?_
      have hjud : judN A z = c := by
        unfold judN
        first
        | exact runN_t hpc _ _ (by omega) (by omega) (fun j j1 j2 => hp9 j j1 j2)
        | (rw [runN_s _ _ (fun j j1 j2 => hp9 j j1 (by omega))]; omega)
      unfold CP an_judge
      rw [if_neg (by omega), hjud]
      first
      | (rw [if_pos (by omega)]; exact ⟨rfl, rfl, fun _ _ => rfl, hC⟩)
      | (rw [if_neg (by omega)]; exact ⟨rfl, rfl, fun _ _ => rfl, hC⟩)
    · refine J.aload_n (q := 32) dX5_judge_31 rfl ?_ rfl
      refine J.getR (ci := 5) (k0 := 5) (c1 := 56) (q := 35) dX5_judge_32 kF_X5_43 rfl (by decide) (by decide) rfl (by decide) rfl ?_ rfl
      refine J.iload_n (q := 36) dX5_judge_35 rfl ?_ rfl
      refine J.iload_n (q := 37) dX5_judge_36 rfl ?_ rfl
      have hnr := hnu (40 * z + c) (by omega) (by omega)
      have hcl := hI.cel c (by omega) (by omega)
      refine J.callV2i (ci := 2) (q := 40) dX5_judge_37 mv_X2_numberAt kL_X5_286 rfl (by decide) rfl ⟨by decide, by decide⟩ (Nat.le_of_ble_eq_true rfl) ⟨by decide, by decide⟩ rfl (c_X2_numberAt hC.n (by omega) (by omega)) ?_
      refine J.aload_n (q := 41) dX5_judge_40 rfl ?_ rfl
      refine J.getR (ci := 5) (k0 := 0) (c1 := 1) (q := 44) dX5_judge_41 kF_X5_12 rfl (by decide) (by decide) rfl (by decide) rfl ?_ rfl
      refine J.getR (ci := 1) (k0 := 2) (c1 := 4) (q := 47) dX5_judge_44 kF_X5_74 rfl (by decide) (by decide) rfl (by decide) rfl ?_ rfl
      refine J.iload_n (q := 48) dX5_judge_47 rfl ?_ rfl
      refine J.iald (n := 81) (q := 49) dX5_judge_48 rfl (by omega) ?_ rfl
      rw [g1_law hC.r (by omega) (by omega)]
      refine J.icmp_eq (tgt := 56) (q := 52) dX5_judge_49 rfl rfl (fun c49 => ?_) (fun c49 => ?_)
      · have hpc : (fun i => decide (A 76 (40 * z + i) = A 62 (176 + i))) c = true := decide_eq_true (by omega)
        refine J.iinc (q := 59) dX5_judge_56 rfl ?_ rfl
        refine J.goto (tgt := 18) dX5_judge_59 rfl ?_
        exact ih (c + 1) (by omega) (by omega) (fun j j0 j1 => by
          by_cases e : j = c
          · subst e; exact hpc
          · exact hp9 j j0 (by omega))
      · have hpc : (fun i => decide (A 76 (40 * z + i) = A 62 (176 + i))) c = false := decide_eq_false (by omega)
        refine J.iconst (q := 53) dX5_judge_52 ?_ rfl
        refine J.iload_n (q := 54) dX5_judge_53 rfl ?_ rfl
        refine J.iadd (q := 55) dX5_judge_54 ?_ rfl
        refine J.ireturn dX5_judge_55 rfl ?_
        have hjud : judN A z = c := by
          unfold judN
          first
          | exact runN_t hpc _ _ (by omega) (by omega) (fun j j1 j2 => hp9 j j1 j2)
          | (rw [runN_s _ _ (fun j j1 j2 => hp9 j j1 (by omega))]; omega)
        unfold CP an_judge
        rw [if_neg (by omega), hjud]
        first
        | (rw [if_pos (by omega)]; exact ⟨rfl, rfl, fun _ _ => rfl, hC⟩)
        | (rw [if_neg (by omega)]; exact ⟨rfl, rfl, fun _ _ => rfl, hC⟩)

set_option maxRecDepth 100000 in
set_option maxHeartbeats 4000000 in
theorem c_X5_judge {l : Launch} {F : Nat × (Int → Int)} {iv A : Mm} (hC : CR iv A) (hA : AI A) {z : Int} (hz : -2147483648 ≤ z ∧ z < 2147483648) : Ctr l F 3 0 0 yX5_judge cX5_judge 4 (some FieldType.int) [r_ 0, i_ z] S0 (iv) (CP iv (an_judge A z)) := by
  refine Ctr.of false (fun h => by cases h) (by decide) rfl (Nat.le_of_ble_eq_true rfl) ?_
  have hI := hA.mi
  have hmm := hI.many
  have hkp := hA.kp
  have htp := hA.tp
  refine J.aload_n (q := 1) dX5_judge_0 rfl ?_ rfl
  refine J.iload_n (q := 2) dX5_judge_1 rfl ?_ rfl
  refine J.callV1i (ci := 5) (q := 5) dX5_judge_2 mv_X5_sheetFlaw kL_X5_266 rfl (by decide) rfl ⟨by decide, by decide⟩ (Nat.le_of_ble_eq_true rfl) ⟨by decide, by decide⟩ rfl (c_X5_sheetFlaw hC hA (by omega)) ?_
  obtain ⟨fl, hfl⟩ : ∃ fl : Int, fl = (if 0 ≤ wrgS A z then -1000001 - wrgS A z else 0) := ⟨_, rfl⟩
  rw [← hfl]
  have hw := wrgS_c A z
  have hfl1 : (0 ≤ wrgS A z ∧ fl = -1000001 - wrgS A z) ∨ (wrgS A z < 0 ∧ fl = 0) := by
    by_cases h : 0 ≤ wrgS A z
    · exact Or.inl ⟨h, by rw [hfl, if_pos h]⟩
    · exact Or.inr ⟨by omega, by rw [hfl, if_neg h]⟩
  clear hfl
  refine J.istore_n (q := 6) dX5_judge_5 (Nat.le_of_ble_eq_true rfl) ?_ rfl
  refine J.iload_n (q := 7) dX5_judge_6 rfl ?_ rfl
  refine J.if_eq (tgt := 16) (q := 10) (hv := by omega) dX5_judge_7 rfl rfl (fun c7 => ?_) (fun c7 => ?_)
  · refine J.iconst (q := 17) dX5_judge_16 ?_ rfl
    refine J.istore_n (q := 18) dX5_judge_17 (Nat.le_of_ble_eq_true rfl) ?_ rfl
    exact judge5_loop hC hA (by omega) (by omega) 41 0 (by have := hA.sh z (by omega) (by omega); omega) (by have := hA.sh z (by omega) (by omega); omega) (fun j j0 j1 => by omega)
  · refine J.aload_n (q := 11) dX5_judge_10 rfl ?_ rfl
    refine J.iload_n (q := 12) dX5_judge_11 rfl ?_ rfl
    refine J.callV1 (ci := 5) (q := 15) dX5_judge_12 mv_X5_tell kL_X5_64 rfl (by decide) rfl ⟨by decide, by decide⟩ (Nat.le_of_ble_eq_true rfl) ⟨by decide, by decide⟩ rfl (c_X5_tell (w := wrgS A z) (by omega) hC (by omega)) (fun v8 S8 iv8 hp => ?_)
    obtain ⟨rfl, rfl, hf8, hC8⟩ := hp
    refine J.ireturn dX5_judge_15 rfl ?_
    unfold CP an_judge
    repeat (first | rw [if_pos (by omega)] | rw [if_neg (by omega)])
    first
    | exact ⟨rfl, rfl, hf8, hC8⟩
    | (exfalso; omega)

set_option maxRecDepth 100000 in
set_option maxHeartbeats 4000000 in
theorem lay_loop {l : Launch} {F : Nat × (Int → Int)} {iv : Mm} {z w m : Int} (hz : 0 ≤ z ∧ z ≤ 3) : ∀ (n : Nat) (c : Int) (iv1 : Mm), (40 - c < n) → (0 ≤ c ∧ c ≤ 40) → (∀ q, q ≠ 57 → q ≠ 58 → q ≠ 59 → iv1 q = iv q) → (iv1 57 = upr (iv 57) z w) → (iv1 58 = upr (iv 58) z (if w = 0 then 0 else m)) → (∀ j, iv1 59 j = if 40 * z ≤ j ∧ j < 40 * z + c then 0 else iv 59 j) → J l (yX2_lay).cls cX2_lay 5 none 0 0 0 false F (fun v S iv2 => v = none ∧ S = S0 ∧ (∀ q, q ≠ 57 → q ≠ 58 → q ≠ 59 → iv2 q = iv q) ∧ iv2 57 = upr (iv 57) z w ∧ iv2 58 = upr (iv 58) z (if w = 0 then 0 else m) ∧ ∀ j, iv2 59 j = zerS (iv 59) z j) 0 0 25 [some (r_ 56), some (i_ z), some (i_ w), some (i_ m), some (i_ c)] [] S0 (iv1) := by
  intro n
  induction n with
  | zero =>
    intro c iv1 hn hc hf h57 h58 h59
    omega
  | succ n ih =>
    intro c iv1 hn hc hf h57 h58 h59
    refine J.iload (q := 27) dX2_lay_25 rfl ?_ rfl
    refine J.bipush (q := 29) dX2_lay_27 (by decide) ?_ rfl
    refine J.icmp_ge (tgt := 51) (q := 32) dX2_lay_29 rfl rfl (fun c29 => ?_) (fun c29 => ?_)
    · refine J.vreturn dX2_lay_51 rfl ?_
      have hc40 : c = 40 := by omega
      subst hc40
      exact ⟨rfl, rfl, hf, h57, h58, h59⟩
    · refine J.aload_n (q := 33) dX2_lay_32 rfl ?_ rfl
      refine J.getR (ci := 2) (k0 := 2) (c1 := 59) (q := 36) dX2_lay_33 kF_X2_18 rfl (by decide) (by decide) rfl (by decide) rfl ?_ rfl
      refine J.iload_n (q := 37) dX2_lay_36 rfl ?_ rfl
      refine J.bipush (q := 39) dX2_lay_37 (by decide) ?_ rfl
      refine J.imul (q := 40) dX2_lay_39 ?_ rfl
      refine J.iload (q := 42) dX2_lay_40 rfl ?_ rfl
      refine J.iadd (q := 43) dX2_lay_42 ?_ rfl
      refine J.iconst (q := 44) dX2_lay_43 ?_ rfl
      refine J.iast (n := 160) (q := 45) dX2_lay_44 rfl (by omega) ?_ rfl
      refine J.iinc (q := 48) dX2_lay_45 rfl ?_ rfl
      refine J.goto (tgt := 25) dX2_lay_48 rfl ?_
      refine ih (c + 1) _ (by omega) (by omega) (fun q q1 q2 q3 => (up_n _ _ _ q3).trans (hf q q1 q2 q3)) ((up_n _ _ _ (by decide)).trans h57) ((up_n _ _ _ (by decide)).trans h58) (fun j => ?_)
      rw [up_s]
      by_cases e : j = z * 40 + c
      · subst e; rw [upr_s, if_pos (by omega)]
      · rw [upr_n _ _ e, h59 j]
        by_cases e2 : 40 * z ≤ j ∧ j < 40 * z + c
        · rw [if_pos e2, if_pos (by omega)]
        · rw [if_neg e2, if_neg (by omega)]

set_option maxRecDepth 100000 in
set_option maxHeartbeats 4000000 in
theorem c_X2_lay {l : Launch} {F : Nat × (Int → Int)} {iv : Mm} {z w m : Int} (hz : 0 ≤ z ∧ z ≤ 3) (hw : -2147483648 ≤ w ∧ w < 2147483648) : Ctr l F 0 0 0 yX2_lay cX2_lay 5 none [r_ 56, i_ z, i_ w, i_ m] S0 (iv) (fun v S iv2 => v = none ∧ S = S0 ∧ (∀ q, q ≠ 57 → q ≠ 58 → q ≠ 59 → iv2 q = iv q) ∧ iv2 57 = upr (iv 57) z w ∧ iv2 58 = upr (iv 58) z (if w = 0 then 0 else m) ∧ ∀ j, iv2 59 j = zerS (iv 59) z j) := by
  refine Ctr.of false (fun h => by cases h) (by decide) rfl (Nat.le_of_ble_eq_true rfl) ?_
  refine J.aload_n (q := 1) dX2_lay_0 rfl ?_ rfl
  refine J.getR (ci := 2) (k0 := 0) (c1 := 57) (q := 4) dX2_lay_1 kF_X2_9 rfl (by decide) (by decide) rfl (by decide) rfl ?_ rfl
  refine J.iload_n (q := 5) dX2_lay_4 rfl ?_ rfl
  refine J.iload_n (q := 6) dX2_lay_5 rfl ?_ rfl
  refine J.iast (n := 4) (q := 7) dX2_lay_6 rfl (by omega) ?_ rfl
  refine J.aload_n (q := 8) dX2_lay_7 rfl ?_ rfl
  refine J.getR (ci := 2) (k0 := 1) (c1 := 58) (q := 11) dX2_lay_8 kF_X2_15 rfl (by decide) (by decide) rfl (by decide) rfl ?_ rfl
  refine J.iload_n (q := 12) dX2_lay_11 rfl ?_ rfl
  refine J.iload_n (q := 13) dX2_lay_12 rfl ?_ rfl
  refine J.if_ne (tgt := 20) (q := 16) dX2_lay_13 rfl rfl (fun c13 => ?_) (fun c13 => ?_)
  · refine J.iload_n (q := 21) dX2_lay_20 rfl ?_ rfl
    refine J.iast (n := 4) (q := 22) dX2_lay_21 rfl (by omega) ?_ rfl
    refine J.iconst (q := 23) dX2_lay_22 ?_ rfl
    refine J.istore (q := 25) dX2_lay_23 (Nat.le_of_ble_eq_true rfl) ?_ rfl
    refine lay_loop hz 41 0 _ (by omega) (by omega) (fun q q1 q2 q3 => (up_n _ _ _ q2).trans (up_n _ _ _ q1)) ?_ ?_ (fun j => ?_)
    · rw [up_n _ _ _ (by decide), up_s]
    · first
      | (rw [up_s, up_n _ _ _ (by decide), if_pos (by omega)])
      | (rw [up_s, up_n _ _ _ (by decide), if_neg (by omega)])
    · rw [up_n _ _ _ (by decide), up_n _ _ _ (by decide), if_neg (by omega)]
  · refine J.iconst (q := 17) dX2_lay_16 ?_ rfl
    refine J.goto (tgt := 21) dX2_lay_17 rfl ?_
    refine J.iast (n := 4) (q := 22) dX2_lay_21 rfl (by omega) ?_ rfl
    refine J.iconst (q := 23) dX2_lay_22 ?_ rfl
    refine J.istore (q := 25) dX2_lay_23 (Nat.le_of_ble_eq_true rfl) ?_ rfl
    refine lay_loop hz 41 0 _ (by omega) (by omega) (fun q q1 q2 q3 => (up_n _ _ _ q2).trans (up_n _ _ _ q1)) ?_ ?_ (fun j => ?_)
    · rw [up_n _ _ _ (by decide), up_s]
    · first
      | (rw [up_s, up_n _ _ _ (by decide), if_pos (by omega)])
      | (rw [up_s, up_n _ _ _ (by decide), if_neg (by omega)])
    · rw [up_n _ _ _ (by decide), up_n _ _ _ (by decide), if_neg (by omega)]

set_option maxRecDepth 100000 in
set_option maxHeartbeats 4000000 in
theorem c_X5_sheet {l : Launch} {F : Nat × (Int → Int)} {iv A : Mm} (hC : CR iv A) (hA : AI A) {z w m : Int} (hz : -2147483648 ≤ z ∧ z < 2147483648) (hw : -2147483648 ≤ w ∧ w < 2147483648) (hm : -2147483648 ≤ m ∧ m < 2147483648) : Ctr l F 2 0 0 yX5_sheet cX5_sheet 4 (some FieldType.int) [r_ 0, i_ z, i_ w, i_ m] S0 (iv) (CP iv (an_sheet A z w m)) := by
  refine Ctr.of false (fun h => by cases h) (by decide) rfl (Nat.le_of_ble_eq_true rfl) ?_
  have hI := hA.mi
  have hmm := hI.many
  have hkp := hA.kp
  have htp := hA.tp
  refine J.iload_n (q := 1) dX5_sheet_0 rfl ?_ rfl
  refine J.callS1i (q := 4) dX5_sheet_1 mv_X5_isSheet kS_X5_isSheet kL_X5_252 ⟨by decide, by decide⟩ (Nat.le_of_ble_eq_true rfl) ⟨by decide, by decide⟩ rfl (c_X5_isSheet (by omega)) ?_
  refine J.ifb_eq (tgt := 14) (q := 7) dX5_sheet_4 rfl rfl (fun c4 => ?_) (fun c4 => ?_)
  · refine J.aload_n (q := 15) dX5_sheet_14 rfl ?_ rfl
    refine J.ldc (q := 17) (z := -1000001) dX5_sheet_15 kK_X5_63 ?_ rfl
    refine J.callV1 (ci := 5) (q := 20) dX5_sheet_17 mv_X5_tell kL_X5_64 rfl (by decide) rfl ⟨by decide, by decide⟩ (Nat.le_of_ble_eq_true rfl) ⟨by decide, by decide⟩ rfl (c_X5_tell (w := 0) (by decide) hC (by decide)) (fun v9 S9 iv9 hp => ?_)
    obtain ⟨rfl, rfl, hf8, hC8⟩ := hp
    refine J.ireturn dX5_sheet_20 rfl ?_
    unfold CP
    first
    | (unfold an_sheet; rw [if_neg (by omega)]; exact ⟨rfl, rfl, hf8, hC8⟩)
    | (unfold an_sheet; rw [if_pos (by omega), if_pos (by omega)]; exact ⟨rfl, rfl, hf8, hC8⟩)
    | (unfold an_sheet; rw [if_pos (by omega), if_neg (by omega), if_pos (by omega)]; exact ⟨rfl, rfl, hf8, hC8⟩)
    | (have hv : an_sheet A z w m = ((if w = 0 then 0 else m), setr (setr (setr A 74 (upr (A 74) z w)) 75 (upr (A 75) z (if w = 0 then 0 else m))) 76 (zerS (A 76) z)) := by
         unfold an_sheet
         rw [if_pos (show (0 ≤ z ∧ z ≤ 3) ∧ (w = 0 ∨ w = 8 ∨ w = 16 ∨ w = 32) by omega), if_neg (show ¬ m < 0 by omega), if_neg (show ¬ 40 < m by omega)]
       show _ = some (i_ (an_sheet A z w m).1) ∧ _ ∧ _ ∧ CR iv9 (an_sheet A z w m).2
       rw [hv]; exact ⟨rfl, rfl, fun q hq => l1 q (by omega) (by omega) (by omega), hC9⟩)
  · refine J.iload_n (q := 8) dX5_sheet_7 rfl ?_ rfl
    refine J.callS1i (q := 11) dX5_sheet_8 mv_X5_isBits kS_X5_isBits kL_X5_255 ⟨by decide, by decide⟩ (Nat.le_of_ble_eq_true rfl) ⟨by decide, by decide⟩ rfl (c_X5_isBits (by omega)) ?_
    refine J.ifb_ne (tgt := 21) (q := 14) dX5_sheet_11 rfl rfl (fun c11 => ?_) (fun c11 => ?_)
    · refine J.iload_n (q := 22) dX5_sheet_21 rfl ?_ rfl
      refine J.if_ge (tgt := 33) (q := 25) dX5_sheet_22 rfl rfl (fun c22 => ?_) (fun c22 => ?_)
      · refine J.iload_n (q := 34) dX5_sheet_33 rfl ?_ rfl
        refine J.bipush (q := 36) dX5_sheet_34 (by decide) ?_ rfl
        refine J.icmp_le (tgt := 46) (q := 39) dX5_sheet_36 rfl rfl (fun c36 => ?_) (fun c36 => ?_)
        · refine J.aload_n (q := 47) dX5_sheet_46 rfl ?_ rfl
          refine J.getR (ci := 5) (k0 := 5) (c1 := 56) (q := 50) dX5_sheet_47 kF_X5_43 rfl (by decide) (by decide) rfl (by decide) rfl ?_ rfl
          refine J.iload_n (q := 51) dX5_sheet_50 rfl ?_ rfl
          refine J.iload_n (q := 52) dX5_sheet_51 rfl ?_ rfl
          refine J.iload_n (q := 53) dX5_sheet_52 rfl ?_ rfl
          refine J.callV3 (ci := 2) (q := 56) dX5_sheet_53 mv_X2_lay kL_X5_259 rfl (by decide) rfl ⟨by decide, by decide⟩ (Nat.le_of_ble_eq_true rfl) ⟨by decide, by decide⟩ rfl (c_X2_lay (by omega) (by omega)) (fun v9 S9 iv9 hp => ?_)
          obtain ⟨rfl, rfl, l1, l2, l3, l4⟩ := hp
          have hC9 : CR iv9 (setr (setr (setr A 74 (upr (A 74) z w)) 75 (upr (A 75) z (if w = 0 then 0 else m))) 76 (zerS (A 76) z)) := by
            refine hC.shs l1 (fun k k0 k1 => ?_) (fun j j0 j1 => ?_)
            · rw [l2, l3]
              have := hC.s k k0 k1
              by_cases e : k = z
              · subst e; rw [upr_s, upr_s, upr_s, upr_s]; exact ⟨rfl, rfl⟩
              · rw [upr_n _ _ e, upr_n _ _ e, upr_n _ _ e, upr_n _ _ e]; exact this
            · rw [l4 j]
              unfold zerS
              rw [hC.n j j0 j1]
          refine J.aload_n (q := 57) dX5_sheet_56 rfl ?_ rfl
          refine J.getR (ci := 5) (k0 := 5) (c1 := 56) (q := 60) dX5_sheet_57 kF_X5_43 rfl (by decide) (by decide) rfl (by decide) rfl ?_ rfl
          refine J.getR (ci := 2) (k0 := 1) (c1 := 58) (q := 63) dX5_sheet_60 kF_X5_263 rfl (by decide) (by decide) rfl (by decide) rfl ?_ rfl
          refine J.iload_n (q := 64) dX5_sheet_63 rfl ?_ rfl
          refine J.iald (n := 4) (q := 65) dX5_sheet_64 rfl (by omega) ?_ rfl
          rw [l3, upr_s]
          refine J.ireturn dX5_sheet_65 rfl ?_
          unfold CP
          first
          | (unfold an_sheet; rw [if_neg (by omega)]; exact ⟨rfl, rfl, hf8, hC8⟩)
          | (unfold an_sheet; rw [if_pos (by omega), if_pos (by omega)]; exact ⟨rfl, rfl, hf8, hC8⟩)
          | (unfold an_sheet; rw [if_pos (by omega), if_neg (by omega), if_pos (by omega)]; exact ⟨rfl, rfl, hf8, hC8⟩)
          | (have hv : an_sheet A z w m = ((if w = 0 then 0 else m), setr (setr (setr A 74 (upr (A 74) z w)) 75 (upr (A 75) z (if w = 0 then 0 else m))) 76 (zerS (A 76) z)) := by
               unfold an_sheet
               rw [if_pos (show (0 ≤ z ∧ z ≤ 3) ∧ (w = 0 ∨ w = 8 ∨ w = 16 ∨ w = 32) by omega), if_neg (show ¬ m < 0 by omega), if_neg (show ¬ 40 < m by omega)]
             show _ = some (i_ (an_sheet A z w m).1) ∧ _ ∧ _ ∧ CR iv9 (an_sheet A z w m).2
             rw [hv]; exact ⟨rfl, rfl, fun q hq => l1 q (by omega) (by omega) (by omega), hC9⟩)
        · refine J.aload_n (q := 40) dX5_sheet_39 rfl ?_ rfl
          refine J.ldc (q := 42) (z := -1000001) dX5_sheet_40 kK_X5_63 ?_ rfl
          refine J.callV1 (ci := 5) (q := 45) dX5_sheet_42 mv_X5_tell kL_X5_64 rfl (by decide) rfl ⟨by decide, by decide⟩ (Nat.le_of_ble_eq_true rfl) ⟨by decide, by decide⟩ rfl (c_X5_tell (w := 0) (by decide) hC (by decide)) (fun v9 S9 iv9 hp => ?_)
          obtain ⟨rfl, rfl, hf8, hC8⟩ := hp
          refine J.ireturn dX5_sheet_45 rfl ?_
          unfold CP
          first
          | (unfold an_sheet; rw [if_neg (by omega)]; exact ⟨rfl, rfl, hf8, hC8⟩)
          | (unfold an_sheet; rw [if_pos (by omega), if_pos (by omega)]; exact ⟨rfl, rfl, hf8, hC8⟩)
          | (unfold an_sheet; rw [if_pos (by omega), if_neg (by omega), if_pos (by omega)]; exact ⟨rfl, rfl, hf8, hC8⟩)
          | (have hv : an_sheet A z w m = ((if w = 0 then 0 else m), setr (setr (setr A 74 (upr (A 74) z w)) 75 (upr (A 75) z (if w = 0 then 0 else m))) 76 (zerS (A 76) z)) := by
               unfold an_sheet
               rw [if_pos (show (0 ≤ z ∧ z ≤ 3) ∧ (w = 0 ∨ w = 8 ∨ w = 16 ∨ w = 32) by omega), if_neg (show ¬ m < 0 by omega), if_neg (show ¬ 40 < m by omega)]
             show _ = some (i_ (an_sheet A z w m).1) ∧ _ ∧ _ ∧ CR iv9 (an_sheet A z w m).2
             rw [hv]; exact ⟨rfl, rfl, fun q hq => l1 q (by omega) (by omega) (by omega), hC9⟩)
      · refine J.aload_n (q := 26) dX5_sheet_25 rfl ?_ rfl
        refine J.ldcw (q := 29) (z := -1000007) dX5_sheet_26 kK_X5_258 ?_ rfl
        refine J.callV1 (ci := 5) (q := 32) dX5_sheet_29 mv_X5_tell kL_X5_64 rfl (by decide) rfl ⟨by decide, by decide⟩ (Nat.le_of_ble_eq_true rfl) ⟨by decide, by decide⟩ rfl (c_X5_tell (w := 6) (by decide) hC (by decide)) (fun v9 S9 iv9 hp => ?_)
        obtain ⟨rfl, rfl, hf8, hC8⟩ := hp
        refine J.ireturn dX5_sheet_32 rfl ?_
        unfold CP
        first
        | (unfold an_sheet; rw [if_neg (by omega)]; exact ⟨rfl, rfl, hf8, hC8⟩)
        | (unfold an_sheet; rw [if_pos (by omega), if_pos (by omega)]; exact ⟨rfl, rfl, hf8, hC8⟩)
        | (unfold an_sheet; rw [if_pos (by omega), if_neg (by omega), if_pos (by omega)]; exact ⟨rfl, rfl, hf8, hC8⟩)
        | (have hv : an_sheet A z w m = ((if w = 0 then 0 else m), setr (setr (setr A 74 (upr (A 74) z w)) 75 (upr (A 75) z (if w = 0 then 0 else m))) 76 (zerS (A 76) z)) := by
             unfold an_sheet
             rw [if_pos (show (0 ≤ z ∧ z ≤ 3) ∧ (w = 0 ∨ w = 8 ∨ w = 16 ∨ w = 32) by omega), if_neg (show ¬ m < 0 by omega), if_neg (show ¬ 40 < m by omega)]
           show _ = some (i_ (an_sheet A z w m).1) ∧ _ ∧ _ ∧ CR iv9 (an_sheet A z w m).2
           rw [hv]; exact ⟨rfl, rfl, fun q hq => l1 q (by omega) (by omega) (by omega), hC9⟩)
    · refine J.aload_n (q := 15) dX5_sheet_14 rfl ?_ rfl
      refine J.ldc (q := 17) (z := -1000001) dX5_sheet_15 kK_X5_63 ?_ rfl
      refine J.callV1 (ci := 5) (q := 20) dX5_sheet_17 mv_X5_tell kL_X5_64 rfl (by decide) rfl ⟨by decide, by decide⟩ (Nat.le_of_ble_eq_true rfl) ⟨by decide, by decide⟩ rfl (c_X5_tell (w := 0) (by decide) hC (by decide)) (fun v9 S9 iv9 hp => ?_)
      obtain ⟨rfl, rfl, hf8, hC8⟩ := hp
      refine J.ireturn dX5_sheet_20 rfl ?_
      unfold CP
      first
      | (unfold an_sheet; rw [if_neg (by omega)]; exact ⟨rfl, rfl, hf8, hC8⟩)
      | (unfold an_sheet; rw [if_pos (by omega), if_pos (by omega)]; exact ⟨rfl, rfl, hf8, hC8⟩)
      | (unfold an_sheet; rw [if_pos (by omega), if_neg (by omega), if_pos (by omega)]; exact ⟨rfl, rfl, hf8, hC8⟩)
      | (have hv : an_sheet A z w m = ((if w = 0 then 0 else m), setr (setr (setr A 74 (upr (A 74) z w)) 75 (upr (A 75) z (if w = 0 then 0 else m))) 76 (zerS (A 76) z)) := by
           unfold an_sheet
           rw [if_pos (show (0 ≤ z ∧ z ≤ 3) ∧ (w = 0 ∨ w = 8 ∨ w = 16 ∨ w = 32) by omega), if_neg (show ¬ m < 0 by omega), if_neg (show ¬ 40 < m by omega)]
         show _ = some (i_ (an_sheet A z w m).1) ∧ _ ∧ _ ∧ CR iv9 (an_sheet A z w m).2
         rw [hv]; exact ⟨rfl, rfl, fun q hq => l1 q (by omega) (by omega) (by omega), hC9⟩)

set_option maxRecDepth 100000 in
set_option maxHeartbeats 4000000 in
theorem c_X2_put {l : Launch} {F : Nat × (Int → Int)} {iv : Mm} {z i v b : Int} (hz : 0 ≤ z ∧ z ≤ 3) (hi9 : 0 ≤ i ∧ i < 40) (eb : iv 57 z = b) (hb : b = 8 ∨ b = 16 ∨ b = 32) (hv : -2147483648 ≤ v ∧ v < 2147483648) : Ctr l F 0 0 0 yX2_put cX2_put 5 none [r_ 56, i_ z, i_ i, i_ v] S0 (iv) (Ret none S0 (up iv 59 (40 * z + i) (cutW b v))) := by
  refine Ctr.of false (fun h => by cases h) (by decide) rfl (Nat.le_of_ble_eq_true rfl) ?_
  refine J.bipush (q := 2) dX2_put_0 (by decide) ?_ rfl
  refine J.aload_n (q := 3) dX2_put_2 rfl ?_ rfl
  refine J.getR (ci := 2) (k0 := 0) (c1 := 57) (q := 6) dX2_put_3 kF_X2_9 rfl (by decide) (by decide) rfl (by decide) rfl ?_ rfl
  refine J.iload_n (q := 7) dX2_put_6 rfl ?_ rfl
  refine J.iald (n := 4) (q := 8) dX2_put_7 rfl (by omega) ?_ rfl
  rw [eb]
  refine J.isub (q := 9) dX2_put_8 ?_ rfl
  refine J.istore (q := 11) dX2_put_9 (Nat.le_of_ble_eq_true rfl) ?_ rfl
  refine J.aload_n (q := 12) dX2_put_11 rfl ?_ rfl
  refine J.getR (ci := 2) (k0 := 2) (c1 := 59) (q := 15) dX2_put_12 kF_X2_18 rfl (by decide) (by decide) rfl (by decide) rfl ?_ rfl
  refine J.iload_n (q := 16) dX2_put_15 rfl ?_ rfl
  refine J.bipush (q := 18) dX2_put_16 (by decide) ?_ rfl
  refine J.imul (q := 19) dX2_put_18 ?_ rfl
  refine J.iload_n (q := 20) dX2_put_19 rfl ?_ rfl
  refine J.iadd (q := 21) dX2_put_20 ?_ rfl
  refine J.iload_n (q := 22) dX2_put_21 rfl ?_ rfl
  refine J.iload (q := 24) dX2_put_22 rfl ?_ rfl
  refine J.ishl (q := 25) (z := cutW b v * 2 ^ (32 - b).toNat) dX2_put_24 (shlW hb hv) ?_ rfl
  refine J.iload (q := 27) dX2_put_25 rfl ?_ rfl
  refine J.ishr (q := 28) (z := cutW b v) dX2_put_27 (shrW hb hv) ?_ rfl
  refine J.iast (n := 160) (q := 29) dX2_put_28 rfl (by omega) ?_ rfl
  refine J.vreturn dX2_put_29 rfl ?_
  rw [show z * 40 + i = 40 * z + i by omega]
  exact ⟨rfl, rfl, rfl⟩

set_option maxRecDepth 100000 in
set_option maxHeartbeats 4000000 in
theorem c_X5_write {l : Launch} {F : Nat × (Int → Int)} {iv A : Mm} (hC : CR iv A) (hA : AI A) {z i v : Int} (hz : -2147483648 ≤ z ∧ z < 2147483648) (hi : -2147483648 ≤ i ∧ i < 2147483648) (hv : -2147483648 ≤ v ∧ v < 2147483648) : Ctr l F 3 0 0 yX5_write cX5_write 5 (some FieldType.int) [r_ 0, i_ z, i_ i, i_ v] S0 (iv) (CP iv (an_write A z i v)) := by
  refine Ctr.of false (fun h => by cases h) (by decide) rfl (Nat.le_of_ble_eq_true rfl) ?_
  have hI := hA.mi
  have hmm := hI.many
  have hkp := hA.kp
  have htp := hA.tp
  refine J.aload_n (q := 1) dX5_write_0 rfl ?_ rfl
  refine J.iload_n (q := 2) dX5_write_1 rfl ?_ rfl
  refine J.callV1i (ci := 5) (q := 5) dX5_write_2 mv_X5_sheetFlaw kL_X5_266 rfl (by decide) rfl ⟨by decide, by decide⟩ (Nat.le_of_ble_eq_true rfl) ⟨by decide, by decide⟩ rfl (c_X5_sheetFlaw hC hA (by omega)) ?_
  obtain ⟨fl, hfl⟩ : ∃ fl : Int, fl = (if 0 ≤ wrgS A z then -1000001 - wrgS A z else 0) := ⟨_, rfl⟩
  rw [← hfl]
  have hw := wrgS_c A z
  have hfl1 : (0 ≤ wrgS A z ∧ fl = -1000001 - wrgS A z) ∨ (wrgS A z < 0 ∧ fl = 0) := by
    by_cases h : 0 ≤ wrgS A z
    · exact Or.inl ⟨h, by rw [hfl, if_pos h]⟩
    · exact Or.inr ⟨by omega, by rw [hfl, if_neg h]⟩
  clear hfl
  refine J.istore (q := 7) dX5_write_5 (Nat.le_of_ble_eq_true rfl) ?_ rfl
  refine J.iload (q := 9) dX5_write_7 rfl ?_ rfl
  refine J.if_eq (tgt := 19) (q := 12) (hv := by omega) dX5_write_9 rfl rfl (fun c9 => ?_) (fun c9 => ?_)
  · refine J.iload_n (q := 20) dX5_write_19 rfl ?_ rfl
    have hsz := hA.sh z (by omega) (by omega)
    have hnu := hA.nu
    refine J.if_lt (tgt := 36) (q := 23) dX5_write_20 rfl rfl (fun c20 => ?_) (fun c20 => ?_)
    · refine J.aload_n (q := 37) dX5_write_36 rfl ?_ rfl
      refine J.ldc (q := 39) (z := -1000001) dX5_write_37 kK_X5_63 ?_ rfl
      refine J.callV1 (ci := 5) (q := 42) dX5_write_39 mv_X5_tell kL_X5_64 rfl (by decide) rfl ⟨by decide, by decide⟩ (Nat.le_of_ble_eq_true rfl) ⟨by decide, by decide⟩ rfl (c_X5_tell (w := 0) (by decide) hC (by decide)) (fun v9 S9 iv9 hp => ?_)
      obtain ⟨rfl, rfl, hf8, hC8⟩ := hp
      refine J.ireturn dX5_write_42 rfl ?_
      unfold CP an_write
      repeat (first | rw [if_pos (by omega)] | rw [if_neg (by omega)])
      first
      | exact ⟨rfl, rfl, hf8, hC8⟩
      | (refine ⟨rfl, rfl, fun q hq => up_n _ _ _ (by omega), hC.num (fun q hq => up_n _ _ _ hq) (fun j j0 j1 => ?_)⟩
         rw [up_s]
         by_cases e : j = 40 * z + i
         · subst e; rw [upr_s, upr_s]
         · rw [upr_n _ _ e, upr_n _ _ e]; exact hC.n j j0 j1)
      | (exfalso; omega)
    · refine J.iload_n (q := 24) dX5_write_23 rfl ?_ rfl
      refine J.aload_n (q := 25) dX5_write_24 rfl ?_ rfl
      refine J.getR (ci := 5) (k0 := 5) (c1 := 56) (q := 28) dX5_write_25 kF_X5_43 rfl (by decide) (by decide) rfl (by decide) rfl ?_ rfl
      refine J.getR (ci := 2) (k0 := 1) (c1 := 58) (q := 31) dX5_write_28 kF_X5_263 rfl (by decide) (by decide) rfl (by decide) rfl ?_ rfl
      refine J.iload_n (q := 32) dX5_write_31 rfl ?_ rfl
      refine J.iald (n := 4) (q := 33) dX5_write_32 rfl (by omega) ?_ rfl
      rw [(hC.s z (by omega) (by omega)).2]
      refine J.icmp_lt (tgt := 43) (q := 36) dX5_write_33 rfl rfl (fun c33 => ?_) (fun c33 => ?_)
      · refine J.aload_n (q := 44) dX5_write_43 rfl ?_ rfl
        refine J.getR (ci := 5) (k0 := 5) (c1 := 56) (q := 47) dX5_write_44 kF_X5_43 rfl (by decide) (by decide) rfl (by decide) rfl ?_ rfl
        refine J.iload_n (q := 48) dX5_write_47 rfl ?_ rfl
        refine J.iload_n (q := 49) dX5_write_48 rfl ?_ rfl
        refine J.iload_n (q := 50) dX5_write_49 rfl ?_ rfl
        refine J.callV3v (ci := 2) (q := 53) dX5_write_50 mv_X2_put kL_X5_269 rfl (by decide) rfl ⟨by decide, by decide⟩ (Nat.le_of_ble_eq_true rfl) ⟨by decide, by decide⟩ rfl (c_X2_put (by omega) (by omega) (hC.s z (by omega) (by omega)).1 (by omega) (by omega)) ?_
        refine J.iconst (q := 54) dX5_write_53 ?_ rfl
        refine J.ireturn dX5_write_54 rfl ?_
        unfold CP an_write
        repeat (first | rw [if_pos (by omega)] | rw [if_neg (by omega)])
        first
        | exact ⟨rfl, rfl, hf8, hC8⟩
        | (refine ⟨rfl, rfl, fun q hq => up_n _ _ _ (by omega), hC.num (fun q hq => up_n _ _ _ hq) (fun j j0 j1 => ?_)⟩
           rw [up_s]
           by_cases e : j = 40 * z + i
           · subst e; rw [upr_s, upr_s]
           · rw [upr_n _ _ e, upr_n _ _ e]; exact hC.n j j0 j1)
        | (exfalso; omega)
      · refine J.aload_n (q := 37) dX5_write_36 rfl ?_ rfl
        refine J.ldc (q := 39) (z := -1000001) dX5_write_37 kK_X5_63 ?_ rfl
        refine J.callV1 (ci := 5) (q := 42) dX5_write_39 mv_X5_tell kL_X5_64 rfl (by decide) rfl ⟨by decide, by decide⟩ (Nat.le_of_ble_eq_true rfl) ⟨by decide, by decide⟩ rfl (c_X5_tell (w := 0) (by decide) hC (by decide)) (fun v9 S9 iv9 hp => ?_)
        obtain ⟨rfl, rfl, hf8, hC8⟩ := hp
        refine J.ireturn dX5_write_42 rfl ?_
        unfold CP an_write
        repeat (first | rw [if_pos (by omega)] | rw [if_neg (by omega)])
        first
        | exact ⟨rfl, rfl, hf8, hC8⟩
        | (refine ⟨rfl, rfl, fun q hq => up_n _ _ _ (by omega), hC.num (fun q hq => up_n _ _ _ hq) (fun j j0 j1 => ?_)⟩
           rw [up_s]
           by_cases e : j = 40 * z + i
           · subst e; rw [upr_s, upr_s]
           · rw [upr_n _ _ e, upr_n _ _ e]; exact hC.n j j0 j1)
        | (exfalso; omega)
  · refine J.aload_n (q := 13) dX5_write_12 rfl ?_ rfl
    refine J.iload (q := 15) dX5_write_13 rfl ?_ rfl
    refine J.callV1 (ci := 5) (q := 18) dX5_write_15 mv_X5_tell kL_X5_64 rfl (by decide) rfl ⟨by decide, by decide⟩ (Nat.le_of_ble_eq_true rfl) ⟨by decide, by decide⟩ rfl (c_X5_tell (w := wrgS A z) (by omega) hC (by omega)) (fun v8 S8 iv8 hp => ?_)
    obtain ⟨rfl, rfl, hf8, hC8⟩ := hp
    refine J.ireturn dX5_write_18 rfl ?_
    unfold CP an_write
    repeat (first | rw [if_pos (by omega)] | rw [if_neg (by omega)])
    first
    | exact ⟨rfl, rfl, hf8, hC8⟩
    | (refine ⟨rfl, rfl, fun q hq => up_n _ _ _ (by omega), hC.num (fun q hq => up_n _ _ _ hq) (fun j j0 j1 => ?_)⟩
       rw [up_s]
       by_cases e : j = 40 * z + i
       · subst e; rw [upr_s, upr_s]
       · rw [upr_n _ _ e, upr_n _ _ e]; exact hC.n j j0 j1)
    | (exfalso; omega)

set_option maxRecDepth 100000 in
set_option maxHeartbeats 4000000 in
theorem c_X2_hasRun {l : Launch} {F : Nat × (Int → Int)} {iv : Mm} {z x m y : Int} (hz : 0 ≤ z ∧ z ≤ 3) (ey : iv 58 z = y) (hy : 0 ≤ y ∧ y ≤ 40) (hx : -2147483648 ≤ x ∧ x < 2147483648) (hm : -2147483648 ≤ m ∧ m < 2147483648) : Ctr l F 0 0 0 yX2_hasRun cX2_hasRun 4 (some FieldType.boolean) [r_ 56, i_ z, i_ x, i_ m] S0 (iv) (Ret (some (i_ (b2 (¬ (m < 0 ∨ x < 0 ∨ y - m < x))))) S0 iv) := by
  refine Ctr.of false (fun h => by cases h) (by decide) rfl (Nat.le_of_ble_eq_true rfl) ?_
  refine J.iload_n (q := 1) dX2_hasRun_0 rfl ?_ rfl
  refine J.if_lt (tgt := 34) (q := 4) dX2_hasRun_1 rfl rfl (fun c1 => ?_) (fun c1 => ?_)
  · refine J.iconst (q := 35) dX2_hasRun_34 ?_ rfl
    refine J.zreturn dX2_hasRun_35 rfl (by omega) ?_
    first
    | exact ⟨rfl, rfl, rfl⟩
    | (refine ⟨congrArg (fun z => some (i_ z)) ?_, rfl, rfl⟩; first | rfl | omega | (simp only [b2]; split <;> omega) | (simp only [b2, *]; split <;> omega))
  · refine J.iload_n (q := 5) dX2_hasRun_4 rfl ?_ rfl
    refine J.if_lt (tgt := 34) (q := 8) dX2_hasRun_5 rfl rfl (fun c5 => ?_) (fun c5 => ?_)
    · refine J.iconst (q := 35) dX2_hasRun_34 ?_ rfl
      refine J.zreturn dX2_hasRun_35 rfl (by omega) ?_
      first
      | exact ⟨rfl, rfl, rfl⟩
      | (refine ⟨congrArg (fun z => some (i_ z)) ?_, rfl, rfl⟩; first | rfl | omega | (simp only [b2]; split <;> omega) | (simp only [b2, *]; split <;> omega))
    · refine J.iload_n (q := 9) dX2_hasRun_8 rfl ?_ rfl
      refine J.aload_n (q := 10) dX2_hasRun_9 rfl ?_ rfl
      refine J.getR (ci := 2) (k0 := 1) (c1 := 58) (q := 13) dX2_hasRun_10 kF_X2_15 rfl (by decide) (by decide) rfl (by decide) rfl ?_ rfl
      refine J.iload_n (q := 14) dX2_hasRun_13 rfl ?_ rfl
      refine J.iald (n := 4) (q := 15) dX2_hasRun_14 rfl (by omega) ?_ rfl
      rw [ey]
      refine J.icmp_gt (tgt := 34) (q := 18) dX2_hasRun_15 rfl rfl (fun c15 => ?_) (fun c15 => ?_)
      · refine J.iconst (q := 35) dX2_hasRun_34 ?_ rfl
        refine J.zreturn dX2_hasRun_35 rfl (by omega) ?_
        first
        | exact ⟨rfl, rfl, rfl⟩
        | (refine ⟨congrArg (fun z => some (i_ z)) ?_, rfl, rfl⟩; first | rfl | omega | (simp only [b2]; split <;> omega) | (simp only [b2, *]; split <;> omega))
      · refine J.iload_n (q := 19) dX2_hasRun_18 rfl ?_ rfl
        refine J.aload_n (q := 20) dX2_hasRun_19 rfl ?_ rfl
        refine J.getR (ci := 2) (k0 := 1) (c1 := 58) (q := 23) dX2_hasRun_20 kF_X2_15 rfl (by decide) (by decide) rfl (by decide) rfl ?_ rfl
        refine J.iload_n (q := 24) dX2_hasRun_23 rfl ?_ rfl
        refine J.iald (n := 4) (q := 25) dX2_hasRun_24 rfl (by omega) ?_ rfl
        rw [ey]
        refine J.iload_n (q := 26) dX2_hasRun_25 rfl ?_ rfl
        refine J.isub (q := 27) dX2_hasRun_26 ?_ rfl
        refine J.icmp_gt (tgt := 34) (q := 30) dX2_hasRun_27 rfl rfl (fun c27 => ?_) (fun c27 => ?_)
        · refine J.iconst (q := 35) dX2_hasRun_34 ?_ rfl
          refine J.zreturn dX2_hasRun_35 rfl (by omega) ?_
          first
          | exact ⟨rfl, rfl, rfl⟩
          | (refine ⟨congrArg (fun z => some (i_ z)) ?_, rfl, rfl⟩; first | rfl | omega | (simp only [b2]; split <;> omega) | (simp only [b2, *]; split <;> omega))
        · refine J.iconst (q := 31) dX2_hasRun_30 ?_ rfl
          refine J.goto (tgt := 35) dX2_hasRun_31 rfl ?_
          refine J.zreturn dX2_hasRun_35 rfl (by omega) ?_
          first
          | exact ⟨rfl, rfl, rfl⟩
          | (refine ⟨congrArg (fun z => some (i_ z)) ?_, rfl, rfl⟩; first | rfl | omega | (simp only [b2]; split <;> omega) | (simp only [b2, *]; split <;> omega))

set_option maxRecDepth 100000 in
set_option maxHeartbeats 4000000 in
theorem c_X2_carry {l : Launch} {F : Nat × (Int → Int)} {iv : Mm} {z x t y m : Int} (hz : 0 ≤ z ∧ z ≤ 3) (ht : 0 ≤ t ∧ t ≤ 3) (hx : 0 ≤ x ∧ 0 ≤ m ∧ x + m ≤ 40) (hy : 0 ≤ y ∧ y + m ≤ 40) : Ctr l F 1 0 0 yX2_carry cX2_carry 6 none [r_ 56, i_ z, i_ x, i_ t, i_ y, i_ m] S0 (iv) (Ret none S0 (setr iv 59 (cpyJ (iv 59) (iv 59) (z * 40 + x) (t * 40 + y) m))) := by
  refine Ctr.of false (fun h => by cases h) (by decide) rfl (Nat.le_of_ble_eq_true rfl) ?_
  refine J.aload_n (q := 1) dX2_carry_0 rfl ?_ rfl
  refine J.getR (ci := 2) (k0 := 2) (c1 := 59) (q := 4) dX2_carry_1 kF_X2_18 rfl (by decide) (by decide) rfl (by decide) rfl ?_ rfl
  refine J.iload_n (q := 5) dX2_carry_4 rfl ?_ rfl
  refine J.bipush (q := 7) dX2_carry_5 (by decide) ?_ rfl
  refine J.imul (q := 8) dX2_carry_7 ?_ rfl
  refine J.iload_n (q := 9) dX2_carry_8 rfl ?_ rfl
  refine J.iadd (q := 10) dX2_carry_9 ?_ rfl
  refine J.aload_n (q := 11) dX2_carry_10 rfl ?_ rfl
  refine J.getR (ci := 2) (k0 := 2) (c1 := 59) (q := 14) dX2_carry_11 kF_X2_18 rfl (by decide) (by decide) rfl (by decide) rfl ?_ rfl
  refine J.iload_n (q := 15) dX2_carry_14 rfl ?_ rfl
  refine J.bipush (q := 17) dX2_carry_15 (by decide) ?_ rfl
  refine J.imul (q := 18) dX2_carry_17 ?_ rfl
  refine J.iload (q := 20) dX2_carry_18 rfl ?_ rfl
  refine J.iadd (q := 21) dX2_carry_20 ?_ rfl
  refine J.iload (q := 23) dX2_carry_21 rfl ?_ rfl
  refine J.acopy (q := 26) (n0 := 160) (n1 := 160) dX2_carry_23 kL_X2_21 rfl rfl (by omega) (by omega) (by omega) ?_ rfl
  refine J.vreturn dX2_carry_26 rfl ?_
  exact ⟨rfl, rfl, rfl⟩

set_option maxRecDepth 100000 in
set_option maxHeartbeats 4000000 in
theorem c_X5_copy {l : Launch} {F : Nat × (Int → Int)} {iv A : Mm} (hC : CR iv A) (hA : AI A) {z x t y m : Int} (hz : -2147483648 ≤ z ∧ z < 2147483648) (hx : -2147483648 ≤ x ∧ x < 2147483648) (ht : -2147483648 ≤ t ∧ t < 2147483648) (hy : -2147483648 ≤ y ∧ y < 2147483648) (hm : -2147483648 ≤ m ∧ m < 2147483648) : Ctr l F 3 0 0 yX5_copy cX5_copy 6 (some FieldType.int) [r_ 0, i_ z, i_ x, i_ t, i_ y, i_ m] S0 (iv) (CP iv (an_copy A z x t y m)) := by
  refine Ctr.of false (fun h => by cases h) (by decide) rfl (Nat.le_of_ble_eq_true rfl) ?_
  have hI := hA.mi
  have hmm := hI.many
  have hkp := hA.kp
  have htp := hA.tp
  refine J.iload_n (q := 1) dX5_copy_0 rfl ?_ rfl
  refine J.callS1i (q := 4) dX5_copy_1 mv_X5_isSheet kS_X5_isSheet kL_X5_252 ⟨by decide, by decide⟩ (Nat.le_of_ble_eq_true rfl) ⟨by decide, by decide⟩ rfl (c_X5_isSheet (by omega)) ?_
  refine J.ifb_eq (tgt := 14) (q := 7) dX5_copy_4 rfl rfl (fun c4 => ?_) (fun c4 => ?_)
  · refine J.aload_n (q := 15) dX5_copy_14 rfl ?_ rfl
    refine J.ldc (q := 17) (z := -1000001) dX5_copy_15 kK_X5_63 ?_ rfl
    refine J.callV1 (ci := 5) (q := 20) dX5_copy_17 mv_X5_tell kL_X5_64 rfl (by decide) rfl ⟨by decide, by decide⟩ (Nat.le_of_ble_eq_true rfl) ⟨by decide, by decide⟩ rfl (c_X5_tell (w := 0) (by decide) hC (by decide)) (fun v9 S9 iv9 hp => ?_)
    obtain ⟨rfl, rfl, hf8, hC8⟩ := hp
    refine J.ireturn dX5_copy_20 rfl ?_
    unfold CP an_copy
    repeat (first | rw [if_pos (by omega)] | rw [if_neg (by omega)])
    first
    | exact ⟨rfl, rfl, hf8, hC8⟩
    | (refine ⟨rfl, rfl, fun q hq => setr_n _ _ (by omega), hC.num (fun q hq => setr_n _ _ hq) (fun j j0 j1 => ?_)⟩
       rw [setr_s]
       unfold cpyJ cpyS
       by_cases e : 40 * t + y ≤ j ∧ j < 40 * t + y + m
       · rw [if_pos (by omega), if_pos e, hC.n _ (by omega) (by omega), show z * 40 + x + (j - (t * 40 + y)) = 40 * z + x + (j - (40 * t + y)) by omega]
       · rw [if_neg (by omega), if_neg e]; exact hC.n j j0 j1)
    | (exfalso; omega)
  · refine J.iload_n (q := 8) dX5_copy_7 rfl ?_ rfl
    refine J.callS1i (q := 11) dX5_copy_8 mv_X5_isSheet kS_X5_isSheet kL_X5_252 ⟨by decide, by decide⟩ (Nat.le_of_ble_eq_true rfl) ⟨by decide, by decide⟩ rfl (c_X5_isSheet (by omega)) ?_
    refine J.ifb_ne (tgt := 21) (q := 14) dX5_copy_11 rfl rfl (fun c11 => ?_) (fun c11 => ?_)
    · refine J.aload_n (q := 22) dX5_copy_21 rfl ?_ rfl
      refine J.getR (ci := 5) (k0 := 5) (c1 := 56) (q := 25) dX5_copy_22 kF_X5_43 rfl (by decide) (by decide) rfl (by decide) rfl ?_ rfl
      refine J.iload_n (q := 26) dX5_copy_25 rfl ?_ rfl
      have hs1 := hA.sh z (by omega) (by omega)
      have hs2 := hA.sh t (by omega) (by omega)
      refine J.callV1i (ci := 2) (q := 29) dX5_copy_26 mv_X2_isMissing kL_X5_272 rfl (by decide) rfl ⟨by decide, by decide⟩ (Nat.le_of_ble_eq_true rfl) ⟨by decide, by decide⟩ rfl (c_X2_isMissing (by omega) (hC.s z (by omega) (by omega)).1 (by omega)) ?_
      refine J.ifb_ne (tgt := 43) (q := 32) dX5_copy_29 rfl rfl (fun c29 => ?_) (fun c29 => ?_)
      · refine J.aload_n (q := 44) dX5_copy_43 rfl ?_ rfl
        refine J.ldc (q := 46) (z := -1000006) dX5_copy_44 kK_X5_247 ?_ rfl
        refine J.callV1 (ci := 5) (q := 49) dX5_copy_46 mv_X5_tell kL_X5_64 rfl (by decide) rfl ⟨by decide, by decide⟩ (Nat.le_of_ble_eq_true rfl) ⟨by decide, by decide⟩ rfl (c_X5_tell (w := 5) (by decide) hC (by decide)) (fun v9 S9 iv9 hp => ?_)
        obtain ⟨rfl, rfl, hf8, hC8⟩ := hp
        refine J.ireturn dX5_copy_49 rfl ?_
        unfold CP an_copy
        repeat (first | rw [if_pos (by omega)] | rw [if_neg (by omega)])
        first
        | exact ⟨rfl, rfl, hf8, hC8⟩
        | (refine ⟨rfl, rfl, fun q hq => setr_n _ _ (by omega), hC.num (fun q hq => setr_n _ _ hq) (fun j j0 j1 => ?_)⟩
           rw [setr_s]
           unfold cpyJ cpyS
           by_cases e : 40 * t + y ≤ j ∧ j < 40 * t + y + m
           · rw [if_pos (by omega), if_pos e, hC.n _ (by omega) (by omega), show z * 40 + x + (j - (t * 40 + y)) = 40 * z + x + (j - (40 * t + y)) by omega]
           · rw [if_neg (by omega), if_neg e]; exact hC.n j j0 j1)
        | (exfalso; omega)
      · refine J.aload_n (q := 33) dX5_copy_32 rfl ?_ rfl
        refine J.getR (ci := 5) (k0 := 5) (c1 := 56) (q := 36) dX5_copy_33 kF_X5_43 rfl (by decide) (by decide) rfl (by decide) rfl ?_ rfl
        refine J.iload_n (q := 37) dX5_copy_36 rfl ?_ rfl
        refine J.callV1i (ci := 2) (q := 40) dX5_copy_37 mv_X2_isMissing kL_X5_272 rfl (by decide) rfl ⟨by decide, by decide⟩ (Nat.le_of_ble_eq_true rfl) ⟨by decide, by decide⟩ rfl (c_X2_isMissing (by omega) (hC.s t (by omega) (by omega)).1 (by omega)) ?_
        refine J.ifb_eq (tgt := 50) (q := 43) dX5_copy_40 rfl rfl (fun c40 => ?_) (fun c40 => ?_)
        · refine J.aload_n (q := 51) dX5_copy_50 rfl ?_ rfl
          refine J.getR (ci := 5) (k0 := 5) (c1 := 56) (q := 54) dX5_copy_51 kF_X5_43 rfl (by decide) (by decide) rfl (by decide) rfl ?_ rfl
          refine J.getR (ci := 2) (k0 := 0) (c1 := 57) (q := 57) dX5_copy_54 kF_X5_275 rfl (by decide) (by decide) rfl (by decide) rfl ?_ rfl
          refine J.iload_n (q := 58) dX5_copy_57 rfl ?_ rfl
          refine J.iald (n := 4) (q := 59) dX5_copy_58 rfl (by omega) ?_ rfl
          rw [(hC.s z (by omega) (by omega)).1]
          refine J.aload_n (q := 60) dX5_copy_59 rfl ?_ rfl
          refine J.getR (ci := 5) (k0 := 5) (c1 := 56) (q := 63) dX5_copy_60 kF_X5_43 rfl (by decide) (by decide) rfl (by decide) rfl ?_ rfl
          refine J.getR (ci := 2) (k0 := 0) (c1 := 57) (q := 66) dX5_copy_63 kF_X5_275 rfl (by decide) (by decide) rfl (by decide) rfl ?_ rfl
          refine J.iload_n (q := 67) dX5_copy_66 rfl ?_ rfl
          refine J.iald (n := 4) (q := 68) dX5_copy_67 rfl (by omega) ?_ rfl
          rw [(hC.s t (by omega) (by omega)).1]
          refine J.icmp_eq (tgt := 78) (q := 71) (hv := by omega) dX5_copy_68 rfl rfl (fun c68 => ?_) (fun c68 => ?_)
          · refine J.aload_n (q := 79) dX5_copy_78 rfl ?_ rfl
            refine J.getR (ci := 5) (k0 := 5) (c1 := 56) (q := 82) dX5_copy_79 kF_X5_43 rfl (by decide) (by decide) rfl (by decide) rfl ?_ rfl
            refine J.iload_n (q := 83) dX5_copy_82 rfl ?_ rfl
            refine J.iload_n (q := 84) dX5_copy_83 rfl ?_ rfl
            refine J.iload (q := 86) dX5_copy_84 rfl ?_ rfl
            refine J.callV3i (ci := 2) (q := 89) dX5_copy_86 mv_X2_hasRun kL_X5_278 rfl (by decide) rfl ⟨by decide, by decide⟩ (Nat.le_of_ble_eq_true rfl) ⟨by decide, by decide⟩ rfl (c_X2_hasRun (by omega) (hC.s z (by omega) (by omega)).2 (by omega) (by omega) (by omega)) ?_
            refine J.ifb_eq (tgt := 107) (q := 92) dX5_copy_89 rfl rfl (fun c89 => ?_) (fun c89 => ?_)
            · refine J.aload_n (q := 108) dX5_copy_107 rfl ?_ rfl
              refine J.ldc (q := 110) (z := -1000001) dX5_copy_108 kK_X5_63 ?_ rfl
              refine J.callV1 (ci := 5) (q := 113) dX5_copy_110 mv_X5_tell kL_X5_64 rfl (by decide) rfl ⟨by decide, by decide⟩ (Nat.le_of_ble_eq_true rfl) ⟨by decide, by decide⟩ rfl (c_X5_tell (w := 0) (by decide) hC (by decide)) (fun v9 S9 iv9 hp => ?_)
              obtain ⟨rfl, rfl, hf8, hC8⟩ := hp
              refine J.ireturn dX5_copy_113 rfl ?_
              unfold CP an_copy
              repeat (first | rw [if_pos (by omega)] | rw [if_neg (by omega)])
              first
              | exact ⟨rfl, rfl, hf8, hC8⟩
              | (refine ⟨rfl, rfl, fun q hq => setr_n _ _ (by omega), hC.num (fun q hq => setr_n _ _ hq) (fun j j0 j1 => ?_)⟩
                 rw [setr_s]
                 unfold cpyJ cpyS
                 by_cases e : 40 * t + y ≤ j ∧ j < 40 * t + y + m
                 · rw [if_pos (by omega), if_pos e, hC.n _ (by omega) (by omega), show z * 40 + x + (j - (t * 40 + y)) = 40 * z + x + (j - (40 * t + y)) by omega]
                 · rw [if_neg (by omega), if_neg e]; exact hC.n j j0 j1)
              | (exfalso; omega)
            · refine J.aload_n (q := 93) dX5_copy_92 rfl ?_ rfl
              refine J.getR (ci := 5) (k0 := 5) (c1 := 56) (q := 96) dX5_copy_93 kF_X5_43 rfl (by decide) (by decide) rfl (by decide) rfl ?_ rfl
              refine J.iload_n (q := 97) dX5_copy_96 rfl ?_ rfl
              refine J.iload (q := 99) dX5_copy_97 rfl ?_ rfl
              refine J.iload (q := 101) dX5_copy_99 rfl ?_ rfl
              refine J.callV3i (ci := 2) (q := 104) dX5_copy_101 mv_X2_hasRun kL_X5_278 rfl (by decide) rfl ⟨by decide, by decide⟩ (Nat.le_of_ble_eq_true rfl) ⟨by decide, by decide⟩ rfl (c_X2_hasRun (by omega) (hC.s t (by omega) (by omega)).2 (by omega) (by omega) (by omega)) ?_
              refine J.ifb_ne (tgt := 114) (q := 107) dX5_copy_104 rfl rfl (fun c104 => ?_) (fun c104 => ?_)
              · refine J.aload_n (q := 115) dX5_copy_114 rfl ?_ rfl
                refine J.getR (ci := 5) (k0 := 5) (c1 := 56) (q := 118) dX5_copy_115 kF_X5_43 rfl (by decide) (by decide) rfl (by decide) rfl ?_ rfl
                refine J.iload_n (q := 119) dX5_copy_118 rfl ?_ rfl
                refine J.iload_n (q := 120) dX5_copy_119 rfl ?_ rfl
                refine J.iload_n (q := 121) dX5_copy_120 rfl ?_ rfl
                refine J.iload (q := 123) dX5_copy_121 rfl ?_ rfl
                refine J.iload (q := 125) dX5_copy_123 rfl ?_ rfl
                refine J.callV5v (ci := 2) (q := 128) dX5_copy_125 mv_X2_carry kL_X5_282 rfl (by decide) rfl ⟨by decide, by decide⟩ (Nat.le_of_ble_eq_true rfl) ⟨by decide, by decide⟩ rfl (c_X2_carry (by omega) (by omega) (by omega) (by omega)) ?_
                refine J.iload (q := 130) dX5_copy_128 rfl ?_ rfl
                refine J.ireturn dX5_copy_130 rfl ?_
                unfold CP an_copy
                repeat (first | rw [if_pos (by omega)] | rw [if_neg (by omega)])
                first
                | exact ⟨rfl, rfl, hf8, hC8⟩
                | (refine ⟨rfl, rfl, fun q hq => setr_n _ _ (by omega), hC.num (fun q hq => setr_n _ _ hq) (fun j j0 j1 => ?_)⟩
                   rw [setr_s]
                   unfold cpyJ cpyS
                   by_cases e : 40 * t + y ≤ j ∧ j < 40 * t + y + m
                   · rw [if_pos (by omega), if_pos e, hC.n _ (by omega) (by omega), show z * 40 + x + (j - (t * 40 + y)) = 40 * z + x + (j - (40 * t + y)) by omega]
                   · rw [if_neg (by omega), if_neg e]; exact hC.n j j0 j1)
                | (exfalso; omega)
              · refine J.aload_n (q := 108) dX5_copy_107 rfl ?_ rfl
                refine J.ldc (q := 110) (z := -1000001) dX5_copy_108 kK_X5_63 ?_ rfl
                refine J.callV1 (ci := 5) (q := 113) dX5_copy_110 mv_X5_tell kL_X5_64 rfl (by decide) rfl ⟨by decide, by decide⟩ (Nat.le_of_ble_eq_true rfl) ⟨by decide, by decide⟩ rfl (c_X5_tell (w := 0) (by decide) hC (by decide)) (fun v9 S9 iv9 hp => ?_)
                obtain ⟨rfl, rfl, hf8, hC8⟩ := hp
                refine J.ireturn dX5_copy_113 rfl ?_
                unfold CP an_copy
                repeat (first | rw [if_pos (by omega)] | rw [if_neg (by omega)])
                first
                | exact ⟨rfl, rfl, hf8, hC8⟩
                | (refine ⟨rfl, rfl, fun q hq => setr_n _ _ (by omega), hC.num (fun q hq => setr_n _ _ hq) (fun j j0 j1 => ?_)⟩
                   rw [setr_s]
                   unfold cpyJ cpyS
                   by_cases e : 40 * t + y ≤ j ∧ j < 40 * t + y + m
                   · rw [if_pos (by omega), if_pos e, hC.n _ (by omega) (by omega), show z * 40 + x + (j - (t * 40 + y)) = 40 * z + x + (j - (40 * t + y)) by omega]
                   · rw [if_neg (by omega), if_neg e]; exact hC.n j j0 j1)
                | (exfalso; omega)
          · refine J.aload_n (q := 72) dX5_copy_71 rfl ?_ rfl
            refine J.ldc (q := 74) (z := -1000003) dX5_copy_72 kK_X5_251 ?_ rfl
            refine J.callV1 (ci := 5) (q := 77) dX5_copy_74 mv_X5_tell kL_X5_64 rfl (by decide) rfl ⟨by decide, by decide⟩ (Nat.le_of_ble_eq_true rfl) ⟨by decide, by decide⟩ rfl (c_X5_tell (w := 2) (by decide) hC (by decide)) (fun v9 S9 iv9 hp => ?_)
            obtain ⟨rfl, rfl, hf8, hC8⟩ := hp
            refine J.ireturn dX5_copy_77 rfl ?_
            unfold CP an_copy
            repeat (first | rw [if_pos (by omega)] | rw [if_neg (by omega)])
            first
            | exact ⟨rfl, rfl, hf8, hC8⟩
            | (refine ⟨rfl, rfl, fun q hq => setr_n _ _ (by omega), hC.num (fun q hq => setr_n _ _ hq) (fun j j0 j1 => ?_)⟩
               rw [setr_s]
               unfold cpyJ cpyS
               by_cases e : 40 * t + y ≤ j ∧ j < 40 * t + y + m
               · rw [if_pos (by omega), if_pos e, hC.n _ (by omega) (by omega), show z * 40 + x + (j - (t * 40 + y)) = 40 * z + x + (j - (40 * t + y)) by omega]
               · rw [if_neg (by omega), if_neg e]; exact hC.n j j0 j1)
            | (exfalso; omega)
        · refine J.aload_n (q := 44) dX5_copy_43 rfl ?_ rfl
          refine J.ldc (q := 46) (z := -1000006) dX5_copy_44 kK_X5_247 ?_ rfl
          refine J.callV1 (ci := 5) (q := 49) dX5_copy_46 mv_X5_tell kL_X5_64 rfl (by decide) rfl ⟨by decide, by decide⟩ (Nat.le_of_ble_eq_true rfl) ⟨by decide, by decide⟩ rfl (c_X5_tell (w := 5) (by decide) hC (by decide)) (fun v9 S9 iv9 hp => ?_)
          obtain ⟨rfl, rfl, hf8, hC8⟩ := hp
          refine J.ireturn dX5_copy_49 rfl ?_
          unfold CP an_copy
          repeat (first | rw [if_pos (by omega)] | rw [if_neg (by omega)])
          first
          | exact ⟨rfl, rfl, hf8, hC8⟩
          | (refine ⟨rfl, rfl, fun q hq => setr_n _ _ (by omega), hC.num (fun q hq => setr_n _ _ hq) (fun j j0 j1 => ?_)⟩
             rw [setr_s]
             unfold cpyJ cpyS
             by_cases e : 40 * t + y ≤ j ∧ j < 40 * t + y + m
             · rw [if_pos (by omega), if_pos e, hC.n _ (by omega) (by omega), show z * 40 + x + (j - (t * 40 + y)) = 40 * z + x + (j - (40 * t + y)) by omega]
             · rw [if_neg (by omega), if_neg e]; exact hC.n j j0 j1)
          | (exfalso; omega)
    · refine J.aload_n (q := 15) dX5_copy_14 rfl ?_ rfl
      refine J.ldc (q := 17) (z := -1000001) dX5_copy_15 kK_X5_63 ?_ rfl
      refine J.callV1 (ci := 5) (q := 20) dX5_copy_17 mv_X5_tell kL_X5_64 rfl (by decide) rfl ⟨by decide, by decide⟩ (Nat.le_of_ble_eq_true rfl) ⟨by decide, by decide⟩ rfl (c_X5_tell (w := 0) (by decide) hC (by decide)) (fun v9 S9 iv9 hp => ?_)
      obtain ⟨rfl, rfl, hf8, hC8⟩ := hp
      refine J.ireturn dX5_copy_20 rfl ?_
      unfold CP an_copy
      repeat (first | rw [if_pos (by omega)] | rw [if_neg (by omega)])
      first
      | exact ⟨rfl, rfl, hf8, hC8⟩
      | (refine ⟨rfl, rfl, fun q hq => setr_n _ _ (by omega), hC.num (fun q hq => setr_n _ _ hq) (fun j j0 j1 => ?_)⟩
         rw [setr_s]
         unfold cpyJ cpyS
         by_cases e : 40 * t + y ≤ j ∧ j < 40 * t + y + m
         · rw [if_pos (by omega), if_pos e, hC.n _ (by omega) (by omega), show z * 40 + x + (j - (t * 40 + y)) = 40 * z + x + (j - (40 * t + y)) by omega]
         · rw [if_neg (by omega), if_neg e]; exact hC.n j j0 j1)
      | (exfalso; omega)

set_option maxRecDepth 100000 in
set_option maxHeartbeats 4000000 in
theorem append_loop {l : Launch} {F : Nat × (Int → Int)} {iv : Mm} {b m z : Int} (hb : -2147483648 ≤ b ∧ b < 2147483648) (hm : 1 ≤ m ∧ m ≤ 4) (ez : iv 50 0 = z) (hz : 0 ≤ z ∧ z ≤ 120) (ht : z + m ≤ 120) : ∀ (n : Nat) (i : Int) (iv1 : Mm), (i + 1 < n) → (-1 ≤ i ∧ i < m) → (∀ q, q ≠ 50 → q ≠ 51 → iv1 q = iv q) → (iv1 50 = upr (iv 50) 0 (z + (m - 1 - i))) → (∀ j, iv1 51 j = if z ≤ j ∧ j < z + (m - 1 - i) then b / 2 ^ (8 * (m - 1 - (j - z))).toNat % 256 else iv 51 j) → J l (yX3_append).cls cX3_append 4 (some FieldType.boolean) 0 0 0 false F (fun v S iv2 => v = some (i_ (b2 (z + m ≤ 120))) ∧ S = S0 ∧ (∀ q, q ≠ 50 → q ≠ 51 → iv2 q = iv q) ∧ iv2 50 = (if z + m ≤ 120 then upr (iv 50) 0 (z + m) else iv 50) ∧ ∀ j, iv2 51 j = if z + m ≤ 120 ∧ z ≤ j ∧ j < z + m then b / 2 ^ (8 * (m - 1 - (j - z))).toNat % 256 else iv 51 j) 0 0 17 [some (r_ 50), some (i_ b), some (i_ m), some (i_ i)] [] S0 (iv1) := by
  intro n
  induction n with
  | zero =>
    intro i iv1 hn hj hf h50 h51
    omega
  | succ n ih =>
    intro i iv1 hn hj hf h50 h51
    have e50 : iv1 50 0 = z + (m - 1 - i) := by rw [h50, upr_s]
    refine J.iload_n (q := 18) dX3_append_17 rfl ?_ rfl
    refine J.if_lt (tgt := 56) (q := 21) dX3_append_18 rfl rfl (fun c18 => ?_) (fun c18 => ?_)
    · refine J.iconst (q := 57) dX3_append_56 ?_ rfl
      refine J.zreturn dX3_append_57 rfl (by omega) ?_
      have hi9 : i = -1 := by omega
      subst hi9
      rw [b2_t ht, if_pos ht]
      refine ⟨rfl, rfl, hf, ?_, fun j => ?_⟩
      · rw [h50, show z + (m - 1 - -1) = z + m by omega]
      · rw [h51 j]
        by_cases h9 : z ≤ j ∧ j < z + (m - 1 - -1)
        · rw [if_pos h9, if_pos (by omega)]
        · rw [if_neg h9, if_neg (by omega)]
    · refine J.aload_n (q := 22) dX3_append_21 rfl ?_ rfl
      refine J.getR (ci := 3) (k0 := 1) (c1 := 51) (q := 25) dX3_append_22 kF_X3_15 rfl (by decide) (by decide) rfl (by decide) rfl ?_ rfl
      refine J.aload_n (q := 26) dX3_append_25 rfl ?_ rfl
      refine J.getI (ci := 3) (k0 := 0) (kz := 0) (q := 29) dX3_append_26 kF_X3_9 rfl (by decide) (by decide) rfl (.inl rfl) ?_ rfl
      rw [e50]
      refine J.iload_n (q := 30) dX3_append_29 rfl ?_ rfl
      refine J.bipush (q := 32) dX3_append_30 (by decide) ?_ rfl
      refine J.iload_n (q := 33) dX3_append_32 rfl ?_ rfl
      refine J.imul (q := 34) dX3_append_33 ?_ rfl
      refine J.ishr (q := 35) dX3_append_34 (I3_shr (by omega) (8 * i).toNat (by omega) (by omega) rfl) ?_ rfl
      refine J.sipush (q := 38) dX3_append_35 (by decide) ?_ rfl
      refine J.iand (q := 39) dX3_append_38 (I3_and 8 (by decide) rfl rfl) ?_ rfl
      refine J.iast (n := 120) (q := 40) dX3_append_39 rfl (by omega) ?_ rfl
      refine J.aload_n (q := 41) dX3_append_40 rfl ?_ rfl
      refine J.dup (q := 42) dX3_append_41 rfl ?_ rfl
      refine J.getI (ci := 3) (k0 := 0) (kz := 0) (q := 45) dX3_append_42 kF_X3_9 rfl (by decide) (by decide) rfl (.inl rfl) ?_ rfl
      rw [up_n _ _ _ (by decide), e50]
      refine J.iconst (q := 46) dX3_append_45 ?_ rfl
      refine J.iadd (q := 47) dX3_append_46 ?_ rfl
      refine J.putI (ci := 3) (k0 := 0) (kz := 0) (q := 50) dX3_append_47 kF_X3_9 rfl (by decide) (by decide) rfl rfl rfl ?_ rfl
      refine J.iinc (q := 53) dX3_append_50 rfl ?_ rfl
      refine J.goto (tgt := 17) dX3_append_53 rfl ?_
      refine ih (i + -1) _ (by omega) (by omega) (fun q h1 h2 => (up_n _ _ _ h1).trans ((up_n _ _ _ h2).trans (hf q h1 h2))) ?_ (fun j => ?_)
      · rw [up_s, up_n _ _ _ (by decide), h50, upr_upr]
        exact congrArg _ (by omega)
      · rw [up_n _ _ _ (by decide), up_s]
        by_cases h : j = z + (m - 1 - i)
        · subst h
          rw [upr_s, if_pos (by omega), show m - 1 - (z + (m - 1 - i) - z) = i by omega]
          rfl
        · rw [upr_n _ _ h, h51 j]
          by_cases h9 : z ≤ j ∧ j < z + (m - 1 - i)
          · rw [if_pos h9, if_pos (by omega)]
          · rw [if_neg h9, if_neg (by omega)]

set_option maxRecDepth 100000 in
set_option maxHeartbeats 4000000 in
theorem c_X3_append {l : Launch} {F : Nat × (Int → Int)} {iv : Mm} {b m z : Int} (hb : -2147483648 ≤ b ∧ b < 2147483648) (hm : 1 ≤ m ∧ m ≤ 4) (ez : iv 50 0 = z) (hz : 0 ≤ z ∧ z ≤ 120) : Ctr l F 0 0 0 yX3_append cX3_append 4 (some FieldType.boolean) [r_ 50, i_ b, i_ m] S0 (iv) (fun v S iv2 => v = some (i_ (b2 (z + m ≤ 120))) ∧ S = S0 ∧ (∀ q, q ≠ 50 → q ≠ 51 → iv2 q = iv q) ∧ iv2 50 = (if z + m ≤ 120 then upr (iv 50) 0 (z + m) else iv 50) ∧ ∀ j, iv2 51 j = if z + m ≤ 120 ∧ z ≤ j ∧ j < z + m then b / 2 ^ (8 * (m - 1 - (j - z))).toNat % 256 else iv 51 j) := by
  refine Ctr.of false (fun h => by cases h) (by decide) rfl (Nat.le_of_ble_eq_true rfl) ?_
  refine J.aload_n (q := 1) dX3_append_0 rfl ?_ rfl
  refine J.getI (ci := 3) (k0 := 0) (kz := 0) (q := 4) dX3_append_1 kF_X3_9 rfl (by decide) (by decide) rfl (.inl rfl) ?_ rfl
  rw [ez]
  refine J.iload_n (q := 5) dX3_append_4 rfl ?_ rfl
  refine J.iadd (q := 6) dX3_append_5 ?_ rfl
  refine J.bipush (q := 8) dX3_append_6 (by decide) ?_ rfl
  refine J.icmp_le (tgt := 13) (q := 11) dX3_append_8 rfl rfl (fun c8 => ?_) (fun c8 => ?_)
  · refine J.iload_n (q := 14) dX3_append_13 rfl ?_ rfl
    refine J.iconst (q := 15) dX3_append_14 ?_ rfl
    refine J.isub (q := 16) dX3_append_15 ?_ rfl
    refine J.istore_n (q := 17) dX3_append_16 (Nat.le_of_ble_eq_true rfl) ?_ rfl
    refine append_loop hb hm ez hz (by omega) 5 (m - 1) iv (by omega) (by omega) (fun _ _ _ => rfl) ?_ (fun j => by rw [if_neg (by omega)])
    rw [show z + (m - 1 - (m - 1)) = z by omega, ← ez, upr_self]
  · refine J.iconst (q := 12) dX3_append_11 ?_ rfl
    refine J.zreturn dX3_append_12 rfl (by omega) ?_
    rw [b2_f (by omega), if_neg (by omega)]
    exact ⟨rfl, rfl, fun _ _ _ => rfl, rfl, fun j => by rw [if_neg (by omega)]⟩

set_option maxRecDepth 100000 in
set_option maxHeartbeats 4000000 in
theorem c_X5_feed {l : Launch} {F : Nat × (Int → Int)} {iv A : Mm} (hC : CR iv A) (hA : AI A) {b m : Int} (hb : -2147483648 ≤ b ∧ b < 2147483648) (hm : -2147483648 ≤ m ∧ m < 2147483648) : Ctr l F 2 0 0 yX5_feed cX5_feed 3 (some FieldType.int) [r_ 0, i_ b, i_ m] S0 (iv) (CP iv (an_feed A b m)) := by
  refine Ctr.of false (fun h => by cases h) (by decide) rfl (Nat.le_of_ble_eq_true rfl) ?_
  have hI := hA.mi
  have hmm := hI.many
  have hkp := hA.kp
  have htp := hA.tp
  refine J.iload_n (q := 1) dX5_feed_0 rfl ?_ rfl
  refine J.iconst (q := 2) dX5_feed_1 ?_ rfl
  refine J.icmp_lt (tgt := 10) (q := 5) dX5_feed_2 rfl rfl (fun c2 => ?_) (fun c2 => ?_)
  · refine J.aload_n (q := 11) dX5_feed_10 rfl ?_ rfl
    refine J.ldc (q := 13) (z := -1000001) dX5_feed_11 kK_X5_63 ?_ rfl
    refine J.callV1 (ci := 5) (q := 16) dX5_feed_13 mv_X5_tell kL_X5_64 rfl (by decide) rfl ⟨by decide, by decide⟩ (Nat.le_of_ble_eq_true rfl) ⟨by decide, by decide⟩ rfl (c_X5_tell (w := 0) (by decide) hC (by decide)) (fun v9 S9 iv9 hp => ?_)
    obtain ⟨rfl, rfl, hf8, hC8⟩ := hp
    refine J.ireturn dX5_feed_16 rfl ?_
    unfold CP an_feed
    repeat (first | rw [if_pos (by omega)] | rw [if_neg (by omega)])
    first
    | exact ⟨rfl, rfl, hf8, hC8⟩
    | exact ⟨rfl, rfl, fun q hq => a1 q (by omega) (by omega), hC9⟩
    | exact ⟨rfl, rfl, fun q hq => (hf8 q hq).trans (a1 q (by omega) (by omega)), hC8⟩
    | (exfalso; omega)
  · refine J.iload_n (q := 6) dX5_feed_5 rfl ?_ rfl
    refine J.iconst (q := 7) dX5_feed_6 ?_ rfl
    refine J.icmp_le (tgt := 17) (q := 10) dX5_feed_7 rfl rfl (fun c7 => ?_) (fun c7 => ?_)
    · refine J.aload_n (q := 18) dX5_feed_17 rfl ?_ rfl
      refine J.getR (ci := 5) (k0 := 4) (c1 := 50) (q := 21) dX5_feed_18 kF_X5_36 rfl (by decide) (by decide) rfl (by decide) rfl ?_ rfl
      refine J.iload_n (q := 22) dX5_feed_21 rfl ?_ rfl
      refine J.iload_n (q := 23) dX5_feed_22 rfl ?_ rfl
      refine J.callV2 (ci := 3) (q := 26) dX5_feed_23 mv_X3_append kL_X5_224 rfl (by decide) rfl ⟨by decide, by decide⟩ (Nat.le_of_ble_eq_true rfl) ⟨by decide, by decide⟩ rfl (c_X3_append (by omega) (by omega) hC.z (by omega)) (fun v9 S9 iv9 hp => ?_)
      obtain ⟨rfl, rfl, a1, a2, a3⟩ := hp
      refine J.ifb_eq (tgt := 39) (q := 29) dX5_feed_26 rfl rfl (fun c26 => ?_) (fun c26 => ?_)
      · rw [if_neg c26] at a2
        have hC9 : CR iv9 A := by
          refine ⟨hC.r.fr (fun q q1 q2 q3 => a1 q (by omega) (by omega)), fun x => (hC.k x).fr (fun q q1 q2 q3 => a1 q (by omega) (by omega)), ?_, ?_, ?_, fun j j0 j1 => ?_, ?_, ?_⟩
          · rw [a1 0 (by decide) (by decide)]; exact hC.i
          · rw [a1 60 (by decide) (by decide)]; exact hC.e
          · rw [a2]; exact hC.z
          · rw [a3 j, if_neg (fun q => c26 q.1)]; exact hC.t j j0 j1
          · rw [a1 57 (by decide) (by decide), a1 58 (by decide) (by decide)]; exact hC.s
          · rw [a1 59 (by decide) (by decide)]; exact hC.n
        refine J.aload_n (q := 40) dX5_feed_39 rfl ?_ rfl
        refine J.ldc (q := 42) (z := -1000002) dX5_feed_40 kK_X5_92 ?_ rfl
        refine J.callV1 (ci := 5) (q := 45) dX5_feed_42 mv_X5_tell kL_X5_64 rfl (by decide) rfl ⟨by decide, by decide⟩ (Nat.le_of_ble_eq_true rfl) ⟨by decide, by decide⟩ rfl (c_X5_tell (w := 1) (by decide) hC9 (by decide)) (fun v8 S8 iv8 hp => ?_)
        obtain ⟨rfl, rfl, hf8, hC8⟩ := hp
        refine J.ireturn dX5_feed_45 rfl ?_
        unfold CP an_feed
        repeat (first | rw [if_pos (by omega)] | rw [if_neg (by omega)])
        first
        | exact ⟨rfl, rfl, hf8, hC8⟩
        | exact ⟨rfl, rfl, fun q hq => a1 q (by omega) (by omega), hC9⟩
        | exact ⟨rfl, rfl, fun q hq => (hf8 q hq).trans (a1 q (by omega) (by omega)), hC8⟩
        | (exfalso; omega)
      · rw [if_pos c26] at a2
        have e50 : iv9 50 0 = A 61 10 + m := by rw [a2, upr_s]
        have hC9 : CR iv9 (setr (setr A 70 (fun j => if A 61 10 ≤ j ∧ j < A 61 10 + m then b / 2 ^ (8 * (m - 1 - (j - A 61 10))).toNat % 256 else A 70 j)) 61 (upr (A 61) 10 (A 61 10 + m))) := by
          refine ⟨hC.r.fr (fun q q1 q2 q3 => a1 q (by omega) (by omega)), fun x => (hC.k x).fr (fun q q1 q2 q3 => a1 q (by omega) (by omega)), ?_, ?_, e50, fun j j0 j1 => ?_, ?_, ?_⟩
          · rw [a1 0 (by decide) (by decide)]; exact hC.i
          · rw [a1 60 (by decide) (by decide)]; exact hC.e
          · show iv9 51 j = if A 61 10 ≤ j ∧ j < A 61 10 + m then _ else A 70 j
            rw [a3 j]
            by_cases h9 : A 61 10 ≤ j ∧ j < A 61 10 + m
            · rw [if_pos ⟨c26, h9⟩, if_pos h9]
            · rw [if_neg (fun q => h9 q.2), if_neg h9]; exact hC.t j j0 j1
          · rw [a1 57 (by decide) (by decide), a1 58 (by decide) (by decide)]; exact hC.s
          · rw [a1 59 (by decide) (by decide)]; exact hC.n
        refine J.aload_n (q := 30) dX5_feed_29 rfl ?_ rfl
        refine J.getR (ci := 5) (k0 := 4) (c1 := 50) (q := 33) dX5_feed_30 kF_X5_36 rfl (by decide) (by decide) rfl (by decide) rfl ?_ rfl
        refine J.getI (ci := 3) (k0 := 0) (kz := 0) (q := 36) dX5_feed_33 kF_X5_227 rfl (by decide) (by decide) rfl (.inl rfl) ?_ rfl
        rw [e50]
        refine J.goto (tgt := 45) dX5_feed_36 rfl ?_
        refine J.ireturn dX5_feed_45 rfl ?_
        unfold CP an_feed
        repeat (first | rw [if_pos (by omega)] | rw [if_neg (by omega)])
        first
        | exact ⟨rfl, rfl, hf8, hC8⟩
        | exact ⟨rfl, rfl, fun q hq => a1 q (by omega) (by omega), hC9⟩
        | exact ⟨rfl, rfl, fun q hq => (hf8 q hq).trans (a1 q (by omega) (by omega)), hC8⟩
        | (exfalso; omega)
    · refine J.aload_n (q := 11) dX5_feed_10 rfl ?_ rfl
      refine J.ldc (q := 13) (z := -1000001) dX5_feed_11 kK_X5_63 ?_ rfl
      refine J.callV1 (ci := 5) (q := 16) dX5_feed_13 mv_X5_tell kL_X5_64 rfl (by decide) rfl ⟨by decide, by decide⟩ (Nat.le_of_ble_eq_true rfl) ⟨by decide, by decide⟩ rfl (c_X5_tell (w := 0) (by decide) hC (by decide)) (fun v9 S9 iv9 hp => ?_)
      obtain ⟨rfl, rfl, hf8, hC8⟩ := hp
      refine J.ireturn dX5_feed_16 rfl ?_
      unfold CP an_feed
      repeat (first | rw [if_pos (by omega)] | rw [if_neg (by omega)])
      first
      | exact ⟨rfl, rfl, hf8, hC8⟩
      | exact ⟨rfl, rfl, fun q hq => a1 q (by omega) (by omega), hC9⟩
      | exact ⟨rfl, rfl, fun q hq => (hf8 q hq).trans (a1 q (by omega) (by omega)), hC8⟩
      | (exfalso; omega)

