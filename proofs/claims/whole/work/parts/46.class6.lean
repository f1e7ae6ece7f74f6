/-! the class: counts, deeds (printed by wip/whole/m_c6.py) -/
def mskN (P : Nat → Bool) : Nat → Nat
  | 0 => 0
  | n + 1 => mskN P n + (if P n = true then 2 ^ n else 0)
theorem mskN_lt (P : Nat → Bool) : ∀ n : Nat, mskN P n < 2 ^ n
  | 0 => by simp [mskN]
  | n + 1 => by
    have := mskN_lt P n
    rw [mskN, Nat.pow_succ]
    split <;> omega
theorem mskN_bit (P : Nat → Bool) (i : Nat) : ∀ n : Nat, (mskN P n).testBit i = (decide (i < n) && P i)
  | 0 => by simp [mskN]
  | n + 1 => by
    have h1 := mskN_lt P n
    have h2 := mskN_bit P i n
    rw [mskN]
    by_cases hp : P n = true
    · rw [if_pos hp, Nat.add_comm]
      rcases Nat.lt_trichotomy i n with h | h | h
      · rw [Nat.testBit_two_pow_add_gt h, h2]
        simp [h, Nat.lt_succ_of_lt h]
      · subst h
        rw [Nat.testBit_two_pow_add_eq, Nat.testBit_lt_two_pow h1]
        simp [hp]
      · have h3 : 2 ^ n + mskN P n < 2 ^ i := by
          have : 2 ^ (n + 1) ≤ 2 ^ i := Nat.pow_le_pow_right (by omega) h
          rw [Nat.pow_succ] at this
          omega
        rw [Nat.testBit_lt_two_pow h3]
        simp [show ¬ i < n + 1 by omega]
    · rw [if_neg hp, Nat.add_zero, h2]
      by_cases h : i = n
      · subst h; simp [hp]
      · simp [show (i < n + 1) ↔ (i < n) by omega]
theorem mskN_Z {f : Int → Int} {P : Nat → Bool} (h : ∀ d : Nat, f d = if P d = true then 2 ^ d else 0) : ∀ n : Nat, sumZ f n = mskN P n
  | 0 => rfl
  | n + 1 => by
    rw [sumZ, mskN_Z h n, mskN, h n, Int.natCast_add]
    congr 1
    split
    · rw [Int.natCast_pow]; rfl
    · rfl
theorem xor_m1 {b : Int} (hb : 0 ≤ b ∧ b ≤ 255) : Int32.ofInt b ^^^ Int32.ofInt (-1) = Int32.ofInt (-1 - b) := by
  obtain ⟨B, rfl⟩ := Int.eq_ofNat_of_zero_le hb.1
  have h : ∀ B : Nat, B < 256 → Int32.ofInt (B : Int) ^^^ Int32.ofInt (-1) = Int32.ofInt (-1 - (B : Int)) := by decide +kernel
  exact h B (by omega)
theorem andn8 {P Q : Nat → Bool} {b : Int} (hb : 0 ≤ b ∧ b ≤ 255) (h : ∀ d : Nat, d < 8 → (Q d = true ↔ P d = true ∧ ¬ b / 2 ^ d % 2 = 1)) : Int32.ofInt (mskN P 8 : Nat) &&& Int32.ofInt (-1 - b) = Int32.ofInt (mskN Q 8 : Nat) := by
  obtain ⟨B, rfl⟩ := Int.eq_ofNat_of_zero_le hb.1
  have hB : B < 256 := by omega
  have p1 : mskN P 8 < 256 := mskN_lt P 8
  have p2 : mskN Q 8 < 256 := mskN_lt Q 8
  apply Int32.toBitVec_inj.mp
  rw [Int32.toBitVec_and]
  apply BitVec.eq_of_toNat_eq
  rw [BitVec.toNat_and]
  simp only [Int32.toBitVec_ofInt, BitVec.toNat_ofInt]
  have e1 : ((mskN P 8 : Int) % ((2 ^ 32 : Nat) : Int)).toNat = mskN P 8 := by
    show ((mskN P 8 : Int) % 4294967296).toNat = _
    omega
  have e2 : ((mskN Q 8 : Int) % ((2 ^ 32 : Nat) : Int)).toNat = mskN Q 8 := by
    show ((mskN Q 8 : Int) % 4294967296).toNat = _
    omega
  have e3 : ((-1 - (B : Int)) % ((2 ^ 32 : Nat) : Int)).toNat = 2 ^ 32 - (B + 1) := by
    show ((-1 - (B : Int)) % 4294967296).toNat = 4294967296 - (B + 1)
    omega
  rw [e1, e2, e3]
  apply Nat.eq_of_testBit_eq
  intro i
  rw [Nat.testBit_and, mskN_bit, mskN_bit, Nat.testBit_two_pow_sub_succ (by omega)]
  by_cases h8 : i < 8
  · have := h i h8
    have e2 : (B.testBit i = true) ↔ ((B : Int) / 2 ^ i % 2 = 1) := by
      rw [Nat.testBit_eq_decide_div_mod_eq]
      simp only [decide_eq_true_eq]
      have e3 : ((B : Int) / 2 ^ i % 2) = ((B / 2 ^ i % 2 : Nat) : Int) := by
        rw [Int.natCast_emod, Int.natCast_ediv, Int.natCast_pow]; rfl
      rw [e3]
      omega
    rw [← e2] at this
    have h32 : i < 32 := by omega
    cases hp : P i <;> cases hq : Q i <;> cases ht : B.testBit i <;> simp_all
  · simp [h8]
theorem sumZ_le {f g : Int → Int} (h : ∀ k : Nat, f k ≤ g k) : ∀ n : Nat, sumZ f n ≤ sumZ g n
  | 0 => Int.le_refl _
  | n + 1 => by
    have := sumZ_le h n
    have := h n
    rw [sumZ, sumZ]
    omega
theorem sumZ_ad {f g : Int → Int} : ∀ n : Nat, (∀ k : Nat, k < n → f k + g k = 1) → sumZ f n + sumZ g n = n
  | 0, _ => rfl
  | n + 1, h => by
    have h1 := sumZ_ad (f := f) (g := g) n (fun k hk => h k (by omega))
    have h2 := h n (by omega)
    rw [sumZ, sumZ]
    omega
/-- the deeds that no law under which one of the first n cells stands bans -/
def frP (s : Int → Int) (n : Nat) (d : Nat) : Bool := decide (sumZ (fun c => b2 (s (14 + c) ≠ 1 ∧ lawB s c d = true)) n = sumZ (fun c => b2 (s (14 + c) ≠ 1)) n)
theorem frP_le (s : Int → Int) (n : Nat) (d : Int) : sumZ (fun c => b2 (s (14 + c) ≠ 1 ∧ lawB s c d = true)) n ≤ sumZ (fun c => b2 (s (14 + c) ≠ 1)) n := by
  refine sumZ_le (fun k => ?_) n
  simp only [b2]
  split
  · rename_i h; rw [if_pos h.1]; exact Int.le_refl _
  · split <;> omega
theorem frP_s {s : Int → Int} {n d : Nat} : frP s (n + 1) d = true ↔ frP s n d = true ∧ (s (14 + (n : Int)) = 1 ∨ lawB s n d = true) := by
  have hl := frP_le s n d
  have e1 : sumZ (fun c => b2 (s (14 + c) ≠ 1 ∧ lawB s c d = true)) (n + 1) = sumZ (fun c => b2 (s (14 + c) ≠ 1 ∧ lawB s c d = true)) n + b2 (s (14 + (n : Int)) ≠ 1 ∧ lawB s n d = true) := rfl
  have e2 : sumZ (fun c => b2 (s (14 + c) ≠ 1)) (n + 1) = sumZ (fun c => b2 (s (14 + c) ≠ 1)) n + b2 (s (14 + (n : Int)) ≠ 1) := rfl
  by_cases h1 : s (14 + (n : Int)) = 1
  · rw [b2_f (fun z => z.1 h1)] at e1
    rw [b2_f (fun z => z h1)] at e2
    exact ⟨fun h => ⟨decide_eq_true (by have := of_decide_eq_true h; omega), Or.inl h1⟩, fun h => decide_eq_true (by have := of_decide_eq_true h.1; omega)⟩
  · by_cases h2 : lawB s n d = true
    · rw [b2_t ⟨h1, h2⟩] at e1
      rw [b2_t h1] at e2
      exact ⟨fun h => ⟨decide_eq_true (by have := of_decide_eq_true h; omega), Or.inr h2⟩, fun h => decide_eq_true (by have := of_decide_eq_true h.1; omega)⟩
    · rw [b2_f (fun z => h2 z.2)] at e1
      rw [b2_t h1] at e2
      exact ⟨fun h => by have := of_decide_eq_true h; omega, fun h => h.2.elim (fun z => absurd z h1) (fun z => absurd z h2)⟩
theorem an_free_m {A : Mm} : (an_free A).1 = mskN (frP (A 62) 81) 8 := by
  refine mskN_Z (fun d => ?_) 8
  show (if lawC (A 62) d = opnC (A 62) then (2 : Int) ^ (d : Int).toNat else 0) = _
  rw [Int.toNat_natCast]
  by_cases h : lawC (A 62) d = opnC (A 62)
  · rw [if_pos h, if_pos (show frP (A 62) 81 d = true from decide_eq_true h)]
  · rw [if_neg h, if_neg (show ¬ frP (A 62) 81 d = true from fun z => h (of_decide_eq_true z))]
set_option maxRecDepth 100000 in
set_option maxHeartbeats 4000000 in
theorem cellsUnder_loop {l : Launch} {F : Nat × (Int → Int)} {iv : Mm} {D : Int} {s : Int → Int} (hR : RR iv 1 s) (hI : MI D s) {w : Int} (hw : -1 ≤ w ∧ w ≤ 7) : ∀ (n : Nat) (c : Nat), (81 - (c : Int) < n) → ((c : Int) ≤ 81) → J l (yX1_cellsUnder).cls cX1_cellsUnder 4 (some FieldType.int) 0 0 0 false F (Ret (some (i_ (sumZ (fun c => b2 (s (176 + c) = w)) 81))) S0 iv) 0 0 4 [some (r_ 1), some (i_ w), some (i_ (sumZ (fun c => b2 (s (176 + c) = w)) c)), some (i_ (c : Int))] [] S0 (iv) := by
  intro n
  induction n with
  | zero =>
    intro c hn hc
    omega
  | succ n ih =>
    intro c hn hc
    refine J.iload_n (q := 5) dX1_cellsUnder_4 rfl ?_ rfl
    refine J.bipush (q := 7) dX1_cellsUnder_5 (by decide) ?_ rfl
    refine J.icmp_ge (tgt := 29) (q := 10) dX1_cellsUnder_7 rfl rfl (fun c7 => ?_) (fun c7 => ?_)
    · refine J.iload_n (q := 30) dX1_cellsUnder_29 rfl ?_ rfl
      refine J.ireturn dX1_cellsUnder_30 rfl ?_
      have hc81 : c = 81 := by omega
      subst hc81
      exact ⟨rfl, rfl, rfl⟩
    · refine J.aload_n (q := 11) dX1_cellsUnder_10 rfl ?_ rfl
      refine J.getR (ci := 1) (k0 := 2) (c1 := 4) (q := 14) dX1_cellsUnder_11 kF_X1_18 rfl (by decide) (by decide) rfl (by decide) rfl ?_ rfl
      refine J.iload_n (q := 15) dX1_cellsUnder_14 rfl ?_ rfl
      refine J.iald (n := 81) (q := 16) dX1_cellsUnder_15 rfl (by omega) ?_ rfl
      rw [g1_law hR (by omega) (by omega)]
      have hcl := hI.cel c (by omega) (by omega)
      refine J.iload_n (q := 17) dX1_cellsUnder_16 rfl ?_ rfl
      refine J.icmp_ne (tgt := 23) (q := 20) dX1_cellsUnder_17 rfl rfl (fun c17 => ?_) (fun c17 => ?_)
      · have he : (fun c => b2 (s (176 + c) = w)) (c : Int) = 0 := b2_f c17
        refine J.iinc (q := 26) dX1_cellsUnder_23 rfl ?_ rfl
        refine J.goto (tgt := 4) dX1_cellsUnder_26 rfl ?_
        refine J.eql ?_ (ih (c + 1) (by omega) (by omega))
        rw [show sumZ (fun c => b2 (s (176 + c) = w)) (c + 1) = sumZ (fun c => b2 (s (176 + c) = w)) c + (fun c => b2 (s (176 + c) = w)) (c : Int) from rfl, he]
        first
        | rfl
        | (rw [Int.add_zero]; rfl)
      · have he : (fun c => b2 (s (176 + c) = w)) (c : Int) = 1 := b2_t c17
        refine J.iinc (q := 23) dX1_cellsUnder_20 rfl ?_ rfl
        refine J.iinc (q := 26) dX1_cellsUnder_23 rfl ?_ rfl
        refine J.goto (tgt := 4) dX1_cellsUnder_26 rfl ?_
        refine J.eql ?_ (ih (c + 1) (by omega) (by omega))
        rw [show sumZ (fun c => b2 (s (176 + c) = w)) (c + 1) = sumZ (fun c => b2 (s (176 + c) = w)) c + (fun c => b2 (s (176 + c) = w)) (c : Int) from rfl, he]
        first
        | rfl
        | (rw [Int.add_zero]; rfl)

set_option maxRecDepth 100000 in
set_option maxHeartbeats 4000000 in
theorem c_X1_cellsUnder {l : Launch} {F : Nat × (Int → Int)} {iv : Mm} {D : Int} {s : Int → Int} (hR : RR iv 1 s) (hI : MI D s) {w : Int} (hw : -1 ≤ w ∧ w ≤ 7) : Ctr l F 0 0 0 yX1_cellsUnder cX1_cellsUnder 4 (some FieldType.int) [r_ 1, i_ w] S0 (iv) (Ret (some (i_ (sumZ (fun c => b2 (s (176 + c) = w)) 81))) S0 iv) := by
  refine Ctr.of false (fun h => by cases h) (by decide) rfl (Nat.le_of_ble_eq_true rfl) ?_
  refine J.iconst (q := 1) dX1_cellsUnder_0 ?_ rfl
  refine J.istore_n (q := 2) dX1_cellsUnder_1 (Nat.le_of_ble_eq_true rfl) ?_ rfl
  refine J.iconst (q := 3) dX1_cellsUnder_2 ?_ rfl
  refine J.istore_n (q := 4) dX1_cellsUnder_3 (Nat.le_of_ble_eq_true rfl) ?_ rfl
  exact cellsUnder_loop hR hI hw 82 0 (by omega) (by omega)

set_option maxRecDepth 100000 in
set_option maxHeartbeats 4000000 in
theorem c_X1_cellsWithLaw {l : Launch} {F : Nat × (Int → Int)} {iv : Mm} {D : Int} {s : Int → Int} (hR : RR iv 1 s) (hI : MI D s) : Ctr l F 1 0 0 yX1_cellsWithLaw cX1_cellsWithLaw 1 (some FieldType.int) [r_ 1] S0 (iv) (Ret (some (i_ (undL s))) S0 iv) := by
  refine Ctr.of false (fun h => by cases h) (by decide) rfl (Nat.le_of_ble_eq_true rfl) ?_
  refine J.bipush (q := 2) dX1_cellsWithLaw_0 (by decide) ?_ rfl
  refine J.aload_n (q := 3) dX1_cellsWithLaw_2 rfl ?_ rfl
  refine J.iconst (q := 4) dX1_cellsWithLaw_3 ?_ rfl
  refine J.callV1i (ci := 1) (q := 7) dX1_cellsWithLaw_4 mv_X1_cellsUnder kL_X1_108 rfl (by decide) rfl ⟨by decide, by decide⟩ (Nat.le_of_ble_eq_true rfl) ⟨by decide, by decide⟩ rfl (c_X1_cellsUnder hR hI (by omega)) ?_
  refine J.isub (q := 8) dX1_cellsWithLaw_7 ?_ rfl
  refine J.ireturn dX1_cellsWithLaw_8 rfl ?_
  refine ⟨congrArg (fun z => some (i_ z)) ?_, rfl, rfl⟩
  have h := sumZ_ad (f := fun c => b2 (s (176 + c) = -1)) (g := fun c => b2 (0 ≤ s (176 + c))) 81 (fun k hk => by
    have hcl := hI.cel k (by omega) (by omega)
    by_cases e : s (176 + (k : Int)) = -1
    · rw [b2_t e, b2_f (by omega)]; rfl
    · rw [b2_f e, b2_t (by omega)]; rfl)
  unfold undL
  omega

set_option maxRecDepth 100000 in
set_option maxHeartbeats 4000000 in
theorem sumOf2_loop {l : Launch} {F : Nat × (Int → Int)} {iv : Mm} {f : Int → Int} (hf : ∀ j, 0 ≤ j → j < 81 → iv 2 j = f j)  : ∀ (n : Nat) (c : Nat) (y5 : Option VT), (81 - (c : Int) < n) → ((c : Int) ≤ 81) → J l (yX1_sumOf).cls cX1_sumOf 6 (some FieldType.int) 0 0 0 false F (Ret (some (i_ (sumZ f 81))) S0 iv) 0 0 10 [some (r_ 2), some (i_ (sumZ f c)), some (r_ 2), some (i_ 81), some (i_ (c : Int)), y5] [] S0 (iv) := by
  intro n
  induction n with
  | zero =>
    intro c y5 hn hc
    omega
  | succ n ih =>
    intro c y5 hn hc
    refine J.iload (q := 12) dX1_sumOf_10 rfl ?_ rfl
    refine J.iload_n (q := 13) dX1_sumOf_12 rfl ?_ rfl
    refine J.icmp_ge (tgt := 33) (q := 16) dX1_sumOf_13 rfl rfl (fun c13 => ?_) (fun c13 => ?_)
    · refine J.iload_n (q := 34) dX1_sumOf_33 rfl ?_ rfl
      refine J.ireturn dX1_sumOf_34 rfl ?_
      have hc81 : c = 81 := by omega
      subst hc81
      exact ⟨rfl, rfl, rfl⟩
    · refine J.aload_n (q := 17) dX1_sumOf_16 rfl ?_ rfl
      refine J.iload (q := 19) dX1_sumOf_17 rfl ?_ rfl
      refine J.iald (n := 81) (q := 20) dX1_sumOf_19 rfl (by omega) ?_ rfl
      rw [hf _ (by omega) (by omega)]
      have he : f (c : Int) = f c := rfl
      refine J.istore (q := 22) dX1_sumOf_20 (Nat.le_of_ble_eq_true rfl) ?_ rfl
      refine J.iload_n (q := 23) dX1_sumOf_22 rfl ?_ rfl
      refine J.iload (q := 25) dX1_sumOf_23 rfl ?_ rfl
      refine J.iadd (q := 26) dX1_sumOf_25 ?_ rfl
      refine J.istore_n (q := 27) dX1_sumOf_26 (Nat.le_of_ble_eq_true rfl) ?_ rfl
      refine J.iinc (q := 30) dX1_sumOf_27 rfl ?_ rfl
      refine J.goto (tgt := 10) dX1_sumOf_30 rfl ?_
      refine J.eql ?_ (ih (c + 1) (some (i_ (f c))) (by omega) (by omega))
      rw [show sumZ f (c + 1) = sumZ f c + f (c : Int) from rfl]
      first
      | rfl
      | (rw [Int.add_zero]; rfl)

set_option maxRecDepth 100000 in
set_option maxHeartbeats 4000000 in
theorem c_sumOf2 {l : Launch} {F : Nat × (Int → Int)} {iv : Mm} {f : Int → Int} (hf : ∀ j, 0 ≤ j → j < 81 → iv 2 j = f j) : Ctr l F 0 0 0 yX1_sumOf cX1_sumOf 6 (some FieldType.int) [r_ 2] S0 (iv) (Ret (some (i_ (sumZ f 81))) S0 iv) := by
  refine Ctr.of false (fun h => by cases h) (by decide) rfl (Nat.le_of_ble_eq_true rfl) ?_
  refine J.iconst (q := 1) dX1_sumOf_0 ?_ rfl
  refine J.istore_n (q := 2) dX1_sumOf_1 (Nat.le_of_ble_eq_true rfl) ?_ rfl
  refine J.aload_n (q := 3) dX1_sumOf_2 rfl ?_ rfl
  refine J.astore_n (q := 4) dX1_sumOf_3 (Nat.le_of_ble_eq_true rfl) ?_ rfl
  refine J.aload_n (q := 5) dX1_sumOf_4 rfl ?_ rfl
  refine J.alen0 (n := 81) (q := 6) dX1_sumOf_5 rfl ?_ rfl
  refine J.istore_n (q := 7) dX1_sumOf_6 (Nat.le_of_ble_eq_true rfl) ?_ rfl
  refine J.iconst (q := 8) dX1_sumOf_7 ?_ rfl
  refine J.istore (q := 10) dX1_sumOf_8 (Nat.le_of_ble_eq_true rfl) ?_ rfl
  exact sumOf2_loop hf 82 0 none (by omega) (by omega)

set_option maxRecDepth 100000 in
set_option maxHeartbeats 4000000 in
theorem sumOf3_loop {l : Launch} {F : Nat × (Int → Int)} {iv : Mm} {f : Int → Int} (hf : ∀ j, 0 ≤ j → j < 81 → iv 3 j = f j)  : ∀ (n : Nat) (c : Nat) (y5 : Option VT), (81 - (c : Int) < n) → ((c : Int) ≤ 81) → J l (yX1_sumOf).cls cX1_sumOf 6 (some FieldType.int) 0 0 0 false F (Ret (some (i_ (sumZ f 81))) S0 iv) 0 0 10 [some (r_ 3), some (i_ (sumZ f c)), some (r_ 3), some (i_ 81), some (i_ (c : Int)), y5] [] S0 (iv) := by
  intro n
  induction n with
  | zero =>
    intro c y5 hn hc
    omega
  | succ n ih =>
    intro c y5 hn hc
    refine J.iload (q := 12) dX1_sumOf_10 rfl ?_ rfl
    refine J.iload_n (q := 13) dX1_sumOf_12 rfl ?_ rfl
    refine J.icmp_ge (tgt := 33) (q := 16) dX1_sumOf_13 rfl rfl (fun c13 => ?_) (fun c13 => ?_)
    · refine J.iload_n (q := 34) dX1_sumOf_33 rfl ?_ rfl
      refine J.ireturn dX1_sumOf_34 rfl ?_
      have hc81 : c = 81 := by omega
      subst hc81
      exact ⟨rfl, rfl, rfl⟩
    · refine J.aload_n (q := 17) dX1_sumOf_16 rfl ?_ rfl
      refine J.iload (q := 19) dX1_sumOf_17 rfl ?_ rfl
      refine J.iald (n := 81) (q := 20) dX1_sumOf_19 rfl (by omega) ?_ rfl
      rw [hf _ (by omega) (by omega)]
      have he : f (c : Int) = f c := rfl
      refine J.istore (q := 22) dX1_sumOf_20 (Nat.le_of_ble_eq_true rfl) ?_ rfl
      refine J.iload_n (q := 23) dX1_sumOf_22 rfl ?_ rfl
      refine J.iload (q := 25) dX1_sumOf_23 rfl ?_ rfl
      refine J.iadd (q := 26) dX1_sumOf_25 ?_ rfl
      refine J.istore_n (q := 27) dX1_sumOf_26 (Nat.le_of_ble_eq_true rfl) ?_ rfl
      refine J.iinc (q := 30) dX1_sumOf_27 rfl ?_ rfl
      refine J.goto (tgt := 10) dX1_sumOf_30 rfl ?_
      refine J.eql ?_ (ih (c + 1) (some (i_ (f c))) (by omega) (by omega))
      rw [show sumZ f (c + 1) = sumZ f c + f (c : Int) from rfl]
      first
      | rfl
      | (rw [Int.add_zero]; rfl)

set_option maxRecDepth 100000 in
set_option maxHeartbeats 4000000 in
theorem c_sumOf3 {l : Launch} {F : Nat × (Int → Int)} {iv : Mm} {f : Int → Int} (hf : ∀ j, 0 ≤ j → j < 81 → iv 3 j = f j) : Ctr l F 0 0 0 yX1_sumOf cX1_sumOf 6 (some FieldType.int) [r_ 3] S0 (iv) (Ret (some (i_ (sumZ f 81))) S0 iv) := by
  refine Ctr.of false (fun h => by cases h) (by decide) rfl (Nat.le_of_ble_eq_true rfl) ?_
  refine J.iconst (q := 1) dX1_sumOf_0 ?_ rfl
  refine J.istore_n (q := 2) dX1_sumOf_1 (Nat.le_of_ble_eq_true rfl) ?_ rfl
  refine J.aload_n (q := 3) dX1_sumOf_2 rfl ?_ rfl
  refine J.astore_n (q := 4) dX1_sumOf_3 (Nat.le_of_ble_eq_true rfl) ?_ rfl
  refine J.aload_n (q := 5) dX1_sumOf_4 rfl ?_ rfl
  refine J.alen0 (n := 81) (q := 6) dX1_sumOf_5 rfl ?_ rfl
  refine J.istore_n (q := 7) dX1_sumOf_6 (Nat.le_of_ble_eq_true rfl) ?_ rfl
  refine J.iconst (q := 8) dX1_sumOf_7 ?_ rfl
  refine J.istore (q := 10) dX1_sumOf_8 (Nat.le_of_ble_eq_true rfl) ?_ rfl
  exact sumOf3_loop hf 82 0 none (by omega) (by omega)

set_option maxRecDepth 100000 in
set_option maxHeartbeats 4000000 in
theorem c_X1_allLeaves {l : Launch} {F : Nat × (Int → Int)} {iv : Mm} {s : Int → Int} (hR : RR iv 1 s) : Ctr l F 1 0 0 yX1_allLeaves cX1_allLeaves 1 (some FieldType.int) [r_ 1] S0 (iv) (Ret (some (i_ (sumZ (fun c => s (95 + c)) 81))) S0 iv) := by
  refine Ctr.of false (fun h => by cases h) (by decide) rfl (Nat.le_of_ble_eq_true rfl) ?_
  refine J.aload_n (q := 1) dX1_allLeaves_0 rfl ?_ rfl
  refine J.getR (ci := 1) (k0 := 1) (c1 := 3) (q := 4) dX1_allLeaves_1 kF_X1_15 rfl (by decide) (by decide) rfl (by decide) rfl ?_ rfl
  refine J.callS1i (q := 7) dX1_allLeaves_4 mv_X1_sumOf kS_X1_sumOf kL_X1_111 ⟨by decide, by decide⟩ (Nat.le_of_ble_eq_true rfl) ⟨by decide, by decide⟩ rfl (c_sumOf3 (f := fun c => s (95 + c)) (fun j j0 j1 => g1_lea hR j0 j1)) ?_
  refine J.ireturn dX1_allLeaves_7 rfl ?_
  first
  | exact ⟨rfl, rfl, rfl⟩
  | (refine ⟨congrArg (fun z => some (i_ z)) ?_, rfl, rfl⟩; first | rfl | omega | (simp only [b2]; split <;> omega) | (simp only [b2, *]; split <;> omega))

set_option maxRecDepth 100000 in
set_option maxHeartbeats 4000000 in
theorem c_X1_allHedges {l : Launch} {F : Nat × (Int → Int)} {iv : Mm} {s : Int → Int} (hR : RR iv 1 s) : Ctr l F 1 0 0 yX1_allHedges cX1_allHedges 1 (some FieldType.int) [r_ 1] S0 (iv) (Ret (some (i_ (sumZ (fun c => s (14 + c)) 81))) S0 iv) := by
  refine Ctr.of false (fun h => by cases h) (by decide) rfl (Nat.le_of_ble_eq_true rfl) ?_
  refine J.aload_n (q := 1) dX1_allHedges_0 rfl ?_ rfl
  refine J.getR (ci := 1) (k0 := 0) (c1 := 2) (q := 4) dX1_allHedges_1 kF_X1_9 rfl (by decide) (by decide) rfl (by decide) rfl ?_ rfl
  refine J.callS1i (q := 7) dX1_allHedges_4 mv_X1_sumOf kS_X1_sumOf kL_X1_111 ⟨by decide, by decide⟩ (Nat.le_of_ble_eq_true rfl) ⟨by decide, by decide⟩ rfl (c_sumOf2 (f := fun c => s (14 + c)) (fun j j0 j1 => g1_hed hR j0 j1)) ?_
  refine J.ireturn dX1_allHedges_7 rfl ?_
  first
  | exact ⟨rfl, rfl, rfl⟩
  | (refine ⟨congrArg (fun z => some (i_ z)) ?_, rfl, rfl⟩; first | rfl | omega | (simp only [b2]; split <;> omega) | (simp only [b2, *]; split <;> omega))

set_option maxRecDepth 100000 in
set_option maxHeartbeats 4000000 in
theorem arrived_loop {l : Launch} {F : Nat × (Int → Int)} {iv : Mm} {D : Int} {s : Int → Int} (hR : RR iv 1 s) (hI : MI D s) : ∀ (n : Nat) (c : Nat), (s 2 - (c : Int) < n) → ((c : Int) ≤ s 2) → J l (yX1_arrivedSnails).cls cX1_arrivedSnails 3 (some FieldType.int) 0 0 0 false F (Ret (some (i_ (gatS s))) S0 iv) 0 0 4 [some (r_ 1), some (i_ (sumZ (fun k => if k < s 2 ∧ s (257 + 5 * k + 1) = s (257 + 5 * k + 3) then (2 : Int) ^ k.toNat else 0) c)), some (i_ (c : Int))] [] S0 (iv) := by
  intro n
  induction n with
  | zero =>
    intro c hn hc
    omega
  | succ n ih =>
    intro c hn hc
    have hmm := hI.many
    refine J.iload_n (q := 5) dX1_arrivedSnails_4 rfl ?_ rfl
    refine J.aload_n (q := 6) dX1_arrivedSnails_5 rfl ?_ rfl
    refine J.getI (ci := 1) (k0 := 11) (kz := 11) (q := 9) dX1_arrivedSnails_6 kF_X1_45 rfl (by decide) (by decide) rfl (.inl rfl) ?_ rfl
    rw [g1_many hR]
    refine J.icmp_ge (tgt := 39) (q := 12) (hv := by omega) dX1_arrivedSnails_9 rfl rfl (fun c9 => ?_) (fun c9 => ?_)
    · have hcs : sumZ (fun k => if k < s 2 ∧ s (257 + 5 * k + 1) = s (257 + 5 * k + 3) then (2 : Int) ^ k.toNat else 0) 8 = sumZ (fun k => if k < s 2 ∧ s (257 + 5 * k + 1) = s (257 + 5 * k + 3) then (2 : Int) ^ k.toNat else 0) c := sumZ_stop 8 (by omega) (fun k h1 h2 => if_neg (by omega))
      have hgs : gatS s = sumZ (fun k => if k < s 2 ∧ s (257 + 5 * k + 1) = s (257 + 5 * k + 3) then (2 : Int) ^ k.toNat else 0) c := hcs
      rw [hgs]
      refine J.iload_n (q := 40) dX1_arrivedSnails_39 rfl ?_ rfl
      refine J.ireturn dX1_arrivedSnails_40 rfl ?_
      exact ⟨rfl, rfl, rfl⟩
    · have hsn := hI.sna c (by omega) (by omega)
      have hbr := bits_rng (f := (fun k => if k < s 2 ∧ s (257 + 5 * k + 1) = s (257 + 5 * k + 3) then (2 : Int) ^ k.toNat else 0)) (fun k => by split <;> simp) c
      refine J.aload_n (q := 13) dX1_arrivedSnails_12 rfl ?_ rfl
      refine J.getR (ci := 1) (k0 := 6) (c1 := 8) (q := 16) dX1_arrivedSnails_13 kF_X1_30 rfl (by decide) (by decide) rfl (by decide) rfl ?_ rfl
      refine J.iload_n (q := 17) dX1_arrivedSnails_16 rfl ?_ rfl
      refine J.iald (n := 8) (q := 18) dX1_arrivedSnails_17 rfl (by omega) ?_ rfl
      rw [g1_ats hR (by omega) (by omega)]
      refine J.aload_n (q := 19) dX1_arrivedSnails_18 rfl ?_ rfl
      refine J.getR (ci := 1) (k0 := 8) (c1 := 10) (q := 22) dX1_arrivedSnails_19 kF_X1_36 rfl (by decide) (by decide) rfl (by decide) rfl ?_ rfl
      refine J.iload_n (q := 23) dX1_arrivedSnails_22 rfl ?_ rfl
      refine J.iald (n := 8) (q := 24) dX1_arrivedSnails_23 rfl (by omega) ?_ rfl
      rw [g1_gat hR (by omega) (by omega)]
      refine J.icmp_ne (tgt := 33) (q := 27) dX1_arrivedSnails_24 rfl rfl (fun c24 => ?_) (fun c24 => ?_)
      · have he : (fun k => if k < s 2 ∧ s (257 + 5 * k + 1) = s (257 + 5 * k + 3) then (2 : Int) ^ k.toNat else 0) (c : Int) = 0 := if_neg (by omega)
        refine J.iinc (q := 36) dX1_arrivedSnails_33 rfl ?_ rfl
        refine J.goto (tgt := 4) dX1_arrivedSnails_36 rfl ?_
        refine J.eql ?_ (ih (c + 1) (by omega) (by omega))
        rw [show sumZ (fun k => if k < s 2 ∧ s (257 + 5 * k + 1) = s (257 + 5 * k + 3) then (2 : Int) ^ k.toNat else 0) (c + 1) = sumZ (fun k => if k < s 2 ∧ s (257 + 5 * k + 1) = s (257 + 5 * k + 3) then (2 : Int) ^ k.toNat else 0) c + (fun k => if k < s 2 ∧ s (257 + 5 * k + 1) = s (257 + 5 * k + 3) then (2 : Int) ^ k.toNat else 0) (c : Int) from rfl, he]
        first
        | rfl
        | (rw [Int.add_zero]; rfl)
      · have he : (fun k => if k < s 2 ∧ s (257 + 5 * k + 1) = s (257 + 5 * k + 3) then (2 : Int) ^ k.toNat else 0) (c : Int) = 1 * 2 ^ c := (if_pos (by omega)).trans (by rw [Int.toNat_natCast, Int.one_mul])
        refine J.iload_n (q := 28) dX1_arrivedSnails_27 rfl ?_ rfl
        refine J.iconst (q := 29) dX1_arrivedSnails_28 ?_ rfl
        refine J.iload_n (q := 30) dX1_arrivedSnails_29 rfl ?_ rfl
        refine J.ishl (q := 31) dX1_arrivedSnails_30 (I3_shl c (by omega) rfl rfl) ?_ rfl
        refine J.ior (q := 32) dX1_arrivedSnails_31 (ior_up (k := c) (by omega) hbr (by first | exact Or.inl (Int.one_mul _) | exact Or.inr rfl)) ?_ rfl
        refine J.istore_n (q := 33) dX1_arrivedSnails_32 (Nat.le_of_ble_eq_true rfl) ?_ rfl
        refine J.iinc (q := 36) dX1_arrivedSnails_33 rfl ?_ rfl
        refine J.goto (tgt := 4) dX1_arrivedSnails_36 rfl ?_
        refine J.eql ?_ (ih (c + 1) (by omega) (by omega))
        rw [show sumZ (fun k => if k < s 2 ∧ s (257 + 5 * k + 1) = s (257 + 5 * k + 3) then (2 : Int) ^ k.toNat else 0) (c + 1) = sumZ (fun k => if k < s 2 ∧ s (257 + 5 * k + 1) = s (257 + 5 * k + 3) then (2 : Int) ^ k.toNat else 0) c + (fun k => if k < s 2 ∧ s (257 + 5 * k + 1) = s (257 + 5 * k + 3) then (2 : Int) ^ k.toNat else 0) (c : Int) from rfl, he]
        first
        | rfl
        | (rw [Int.add_zero]; rfl)

set_option maxRecDepth 100000 in
set_option maxHeartbeats 4000000 in
theorem c_X1_arrivedSnails {l : Launch} {F : Nat × (Int → Int)} {iv : Mm} {D : Int} {s : Int → Int} (hR : RR iv 1 s) (hI : MI D s) : Ctr l F 0 0 0 yX1_arrivedSnails cX1_arrivedSnails 3 (some FieldType.int) [r_ 1] S0 (iv) (Ret (some (i_ (gatS s))) S0 iv) := by
  refine Ctr.of false (fun h => by cases h) (by decide) rfl (Nat.le_of_ble_eq_true rfl) ?_
  refine J.iconst (q := 1) dX1_arrivedSnails_0 ?_ rfl
  refine J.istore_n (q := 2) dX1_arrivedSnails_1 (Nat.le_of_ble_eq_true rfl) ?_ rfl
  refine J.iconst (q := 3) dX1_arrivedSnails_2 ?_ rfl
  refine J.istore_n (q := 4) dX1_arrivedSnails_3 (Nat.le_of_ble_eq_true rfl) ?_ rfl
  have hmm := hI.many
  exact arrived_loop hR hI 9 0 (by omega) (by omega)

set_option maxRecDepth 100000 in
set_option maxHeartbeats 4000000 in
theorem heldSpots_loop {l : Launch} {F : Nat × (Int → Int)} {iv : Mm} {D : Int} {s : Int → Int} (hR : RR iv 1 s) (hI : MI D s) : ∀ (n : Nat) (c : Nat), (10 - (c : Int) < n) → ((c : Int) ≤ 10) → J l (yX1_heldSpots).cls cX1_heldSpots 3 (some FieldType.int) 0 0 0 false F (Ret (some (i_ (sumZ (fun k => b2 (0 ≤ s (297 + k))) 10))) S0 iv) 0 0 4 [some (r_ 1), some (i_ (sumZ (fun k => b2 (0 ≤ s (297 + k))) c)), some (i_ (c : Int))] [] S0 (iv) := by
  intro n
  induction n with
  | zero =>
    intro c hn hc
    omega
  | succ n ih =>
    intro c hn hc
    refine J.iload_n (q := 5) dX1_heldSpots_4 rfl ?_ rfl
    refine J.bipush (q := 7) dX1_heldSpots_5 (by decide) ?_ rfl
    refine J.icmp_ge (tgt := 29) (q := 10) dX1_heldSpots_7 rfl rfl (fun c7 => ?_) (fun c7 => ?_)
    · refine J.iload_n (q := 30) dX1_heldSpots_29 rfl ?_ rfl
      refine J.ireturn dX1_heldSpots_30 rfl ?_
      have hc81 : c = 10 := by omega
      subst hc81
      exact ⟨rfl, rfl, rfl⟩
    · refine J.aload_n (q := 11) dX1_heldSpots_10 rfl ?_ rfl
      refine J.getR (ci := 1) (k0 := 10) (c1 := 12) (q := 14) dX1_heldSpots_11 kF_X1_42 rfl (by decide) (by decide) rfl (by decide) rfl ?_ rfl
      refine J.iload_n (q := 15) dX1_heldSpots_14 rfl ?_ rfl
      refine J.iald (n := 10) (q := 16) dX1_heldSpots_15 rfl (by omega) ?_ rfl
      rw [g1_spo hR (by omega) (by omega)]
      have hsp := hI.spo c (by omega) (by omega)
      have hmm := hI.many
      refine J.iconst (q := 17) dX1_heldSpots_16 ?_ rfl
      refine J.icmp_eq (tgt := 23) (q := 20) dX1_heldSpots_17 rfl rfl (fun c17 => ?_) (fun c17 => ?_)
      · have he : (fun k => b2 (0 ≤ s (297 + k))) (c : Int) = 0 := b2_f (by omega)
        refine J.iinc (q := 26) dX1_heldSpots_23 rfl ?_ rfl
        refine J.goto (tgt := 4) dX1_heldSpots_26 rfl ?_
        refine J.eql ?_ (ih (c + 1) (by omega) (by omega))
        rw [show sumZ (fun k => b2 (0 ≤ s (297 + k))) (c + 1) = sumZ (fun k => b2 (0 ≤ s (297 + k))) c + (fun k => b2 (0 ≤ s (297 + k))) (c : Int) from rfl, he]
        first
        | rfl
        | (rw [Int.add_zero]; rfl)
      · have he : (fun k => b2 (0 ≤ s (297 + k))) (c : Int) = 1 := b2_t (by omega)
        refine J.iinc (q := 23) dX1_heldSpots_20 rfl ?_ rfl
        refine J.iinc (q := 26) dX1_heldSpots_23 rfl ?_ rfl
        refine J.goto (tgt := 4) dX1_heldSpots_26 rfl ?_
        refine J.eql ?_ (ih (c + 1) (by omega) (by omega))
        rw [show sumZ (fun k => b2 (0 ≤ s (297 + k))) (c + 1) = sumZ (fun k => b2 (0 ≤ s (297 + k))) c + (fun k => b2 (0 ≤ s (297 + k))) (c : Int) from rfl, he]
        first
        | rfl
        | (rw [Int.add_zero]; rfl)

set_option maxRecDepth 100000 in
set_option maxHeartbeats 4000000 in
theorem c_X1_heldSpots {l : Launch} {F : Nat × (Int → Int)} {iv : Mm} {D : Int} {s : Int → Int} (hR : RR iv 1 s) (hI : MI D s) : Ctr l F 0 0 0 yX1_heldSpots cX1_heldSpots 3 (some FieldType.int) [r_ 1] S0 (iv) (Ret (some (i_ (sumZ (fun k => b2 (0 ≤ s (297 + k))) 10))) S0 iv) := by
  refine Ctr.of false (fun h => by cases h) (by decide) rfl (Nat.le_of_ble_eq_true rfl) ?_
  refine J.iconst (q := 1) dX1_heldSpots_0 ?_ rfl
  refine J.istore_n (q := 2) dX1_heldSpots_1 (Nat.le_of_ble_eq_true rfl) ?_ rfl
  refine J.iconst (q := 3) dX1_heldSpots_2 ?_ rfl
  refine J.istore_n (q := 4) dX1_heldSpots_3 (Nat.le_of_ble_eq_true rfl) ?_ rfl
  exact heldSpots_loop hR hI 11 0 (by omega) (by omega)

set_option maxRecDepth 100000 in
set_option maxHeartbeats 4000000 in
theorem c_X1_isLawful {l : Launch} {F : Nat × (Int → Int)} {iv : Mm} {D : Int} {s : Int → Int} (hR : RR iv 1 s) (hI : MI D s) {c x : Int} (hc : 0 ≤ c ∧ c ≤ 80) (hx : 0 ≤ x ∧ x ≤ 7) : Ctr l F 0 0 0 yX1_isLawful cX1_isLawful 4 (some FieldType.boolean) [r_ 1, i_ c, i_ x] S0 (iv) (Ret (some (i_ (b2 (lawB s c x = true)))) S0 iv) := by
  refine Ctr.of false (fun h => by cases h) (by decide) rfl (Nat.le_of_ble_eq_true rfl) ?_
  have hcl := hI.cel c (by omega) (by omega)
  refine J.aload_n (q := 1) dX1_isLawful_0 rfl ?_ rfl
  refine J.getR (ci := 1) (k0 := 2) (c1 := 4) (q := 4) dX1_isLawful_1 kF_X1_18 rfl (by decide) (by decide) rfl (by decide) rfl ?_ rfl
  refine J.iload_n (q := 5) dX1_isLawful_4 rfl ?_ rfl
  refine J.iald (n := 81) (q := 6) dX1_isLawful_5 rfl (by omega) ?_ rfl
  rw [g1_law hR (by omega) (by omega)]
  refine J.istore_n (q := 7) dX1_isLawful_6 (Nat.le_of_ble_eq_true rfl) ?_ rfl
  refine J.iload_n (q := 8) dX1_isLawful_7 rfl ?_ rfl
  refine J.iconst (q := 9) dX1_isLawful_8 ?_ rfl
  refine J.icmp_eq (tgt := 25) (q := 12) dX1_isLawful_9 rfl rfl (fun c9 => ?_) (fun c9 => ?_)
  · refine J.iconst (q := 26) dX1_isLawful_25 ?_ rfl
    refine J.goto (tgt := 30) dX1_isLawful_26 rfl ?_
    refine J.zreturn dX1_isLawful_30 rfl (by omega) ?_
    refine ⟨congrArg (fun z => some (i_ z)) ?_, rfl, rfl⟩
    first
    | exact (b2_t (show lawB s c x = true from decide_eq_true (Or.inl (by omega)))).symm
    | exact (b2_t (show lawB s c x = true from decide_eq_true (Or.inr (by omega)))).symm
    | exact (b2_f (show ¬ lawB s c x = true from fun z => (of_decide_eq_true z).elim (fun h => by omega) (fun h => by omega))).symm
  · have hba := hI.ban (s (176 + c)) (by omega) (by omega)
    refine J.aload_n (q := 13) dX1_isLawful_12 rfl ?_ rfl
    refine J.getR (ci := 1) (k0 := 4) (c1 := 6) (q := 16) dX1_isLawful_13 kF_X1_24 rfl (by decide) (by decide) rfl (by decide) rfl ?_ rfl
    refine J.iload_n (q := 17) dX1_isLawful_16 rfl ?_ rfl
    refine J.iald (n := 8) (q := 18) dX1_isLawful_17 rfl (by omega) ?_ rfl
    rw [g1_ban hR (by omega) (by omega)]
    refine J.iload_n (q := 19) dX1_isLawful_18 rfl ?_ rfl
    refine J.ishr (q := 20) dX1_isLawful_19 (I3_shr (by omega) x.toNat (by omega) (by omega) rfl) ?_ rfl
    refine J.iconst (q := 21) dX1_isLawful_20 ?_ rfl
    refine J.iand (q := 22) dX1_isLawful_21 (I3_and 1 (by decide) rfl rfl) ?_ rfl
    refine J.if_ne (tgt := 29) (q := 25) (hv := by omega) dX1_isLawful_22 rfl rfl (fun c22 => ?_) (fun c22 => ?_)
    · refine J.iconst (q := 30) dX1_isLawful_29 ?_ rfl
      refine J.zreturn dX1_isLawful_30 rfl (by omega) ?_
      refine ⟨congrArg (fun z => some (i_ z)) ?_, rfl, rfl⟩
      first
      | exact (b2_t (show lawB s c x = true from decide_eq_true (Or.inl (by omega)))).symm
      | exact (b2_t (show lawB s c x = true from decide_eq_true (Or.inr (by omega)))).symm
      | exact (b2_f (show ¬ lawB s c x = true from fun z => (of_decide_eq_true z).elim (fun h => by omega) (fun h => by omega))).symm
    · refine J.iconst (q := 26) dX1_isLawful_25 ?_ rfl
      refine J.goto (tgt := 30) dX1_isLawful_26 rfl ?_
      refine J.zreturn dX1_isLawful_30 rfl (by omega) ?_
      refine ⟨congrArg (fun z => some (i_ z)) ?_, rfl, rfl⟩
      first
      | exact (b2_t (show lawB s c x = true from decide_eq_true (Or.inl (by omega)))).symm
      | exact (b2_t (show lawB s c x = true from decide_eq_true (Or.inr (by omega)))).symm
      | exact (b2_f (show ¬ lawB s c x = true from fun z => (of_decide_eq_true z).elim (fun h => by omega) (fun h => by omega))).symm

set_option maxRecDepth 100000 in
set_option maxHeartbeats 4000000 in
theorem openCellsFor_loop {l : Launch} {F : Nat × (Int → Int)} {iv : Mm} {D : Int} {s : Int → Int} (hR : RR iv 1 s) (hI : MI D s) {x : Int} (hx : 0 ≤ x ∧ x ≤ 7) : ∀ (n : Nat) (c : Nat), (81 - (c : Int) < n) → ((c : Int) ≤ 81) → J l (yX1_openCellsFor).cls cX1_openCellsFor 4 (some FieldType.int) 1 0 0 false F (Ret (some (i_ (lawC s x))) S0 iv) 0 0 4 [some (r_ 1), some (i_ x), some (i_ (sumZ (fun c => b2 (s (14 + c) ≠ 1 ∧ lawB s c x = true)) c)), some (i_ (c : Int))] [] S0 (iv) := by
  intro n
  induction n with
  | zero =>
    intro c hn hc
    omega
  | succ n ih =>
    intro c hn hc
    refine J.iload_n (q := 5) dX1_openCellsFor_4 rfl ?_ rfl
    refine J.bipush (q := 7) dX1_openCellsFor_5 (by decide) ?_ rfl
    refine J.icmp_ge (tgt := 37) (q := 10) dX1_openCellsFor_7 rfl rfl (fun c7 => ?_) (fun c7 => ?_)
    · refine J.iload_n (q := 38) dX1_openCellsFor_37 rfl ?_ rfl
      refine J.ireturn dX1_openCellsFor_38 rfl ?_
      have hc81 : c = 81 := by omega
      subst hc81
      exact ⟨rfl, rfl, rfl⟩
    · refine J.aload_n (q := 11) dX1_openCellsFor_10 rfl ?_ rfl
      refine J.getR (ci := 1) (k0 := 0) (c1 := 2) (q := 14) dX1_openCellsFor_11 kF_X1_9 rfl (by decide) (by decide) rfl (by decide) rfl ?_ rfl
      refine J.iload_n (q := 15) dX1_openCellsFor_14 rfl ?_ rfl
      refine J.iald (n := 81) (q := 16) dX1_openCellsFor_15 rfl (by omega) ?_ rfl
      rw [g1_hed hR (by omega) (by omega)]
      have hcl := hI.cel c (by omega) (by omega)
      refine J.if_ne (tgt := 31) (q := 19) dX1_openCellsFor_16 rfl rfl (fun c16 => ?_) (fun c16 => ?_)
      · have he : (fun c => b2 (s (14 + c) ≠ 1 ∧ lawB s c x = true)) (c : Int) = 0 := b2_f (fun z => z.1 (by omega))
        refine J.iinc (q := 34) dX1_openCellsFor_31 rfl ?_ rfl
        refine J.goto (tgt := 4) dX1_openCellsFor_34 rfl ?_
        refine J.eql ?_ (ih (c + 1) (by omega) (by omega))
        rw [show sumZ (fun c => b2 (s (14 + c) ≠ 1 ∧ lawB s c x = true)) (c + 1) = sumZ (fun c => b2 (s (14 + c) ≠ 1 ∧ lawB s c x = true)) c + (fun c => b2 (s (14 + c) ≠ 1 ∧ lawB s c x = true)) (c : Int) from rfl, he]
        first
        | rfl
        | (rw [Int.add_zero]; rfl)
      · refine J.aload_n (q := 20) dX1_openCellsFor_19 rfl ?_ rfl
        refine J.iload_n (q := 21) dX1_openCellsFor_20 rfl ?_ rfl
        refine J.iload_n (q := 22) dX1_openCellsFor_21 rfl ?_ rfl
        refine J.callV2i (ci := 1) (q := 25) dX1_openCellsFor_22 mv_X1_isLawful kL_X1_105 rfl (by decide) rfl ⟨by decide, by decide⟩ (Nat.le_of_ble_eq_true rfl) ⟨by decide, by decide⟩ rfl (c_X1_isLawful hR hI (by omega) (by omega)) ?_
        refine J.ifb_eq (tgt := 31) (q := 28) dX1_openCellsFor_25 rfl rfl (fun c25 => ?_) (fun c25 => ?_)
        · have he : (fun c => b2 (s (14 + c) ≠ 1 ∧ lawB s c x = true)) (c : Int) = 0 := b2_f (fun z => c25 z.2)
          refine J.iinc (q := 34) dX1_openCellsFor_31 rfl ?_ rfl
          refine J.goto (tgt := 4) dX1_openCellsFor_34 rfl ?_
          refine J.eql ?_ (ih (c + 1) (by omega) (by omega))
          rw [show sumZ (fun c => b2 (s (14 + c) ≠ 1 ∧ lawB s c x = true)) (c + 1) = sumZ (fun c => b2 (s (14 + c) ≠ 1 ∧ lawB s c x = true)) c + (fun c => b2 (s (14 + c) ≠ 1 ∧ lawB s c x = true)) (c : Int) from rfl, he]
          first
          | rfl
          | (rw [Int.add_zero]; rfl)
        · have he : (fun c => b2 (s (14 + c) ≠ 1 ∧ lawB s c x = true)) (c : Int) = 1 := b2_t ⟨by omega, c25⟩
          refine J.iinc (q := 31) dX1_openCellsFor_28 rfl ?_ rfl
          refine J.iinc (q := 34) dX1_openCellsFor_31 rfl ?_ rfl
          refine J.goto (tgt := 4) dX1_openCellsFor_34 rfl ?_
          refine J.eql ?_ (ih (c + 1) (by omega) (by omega))
          rw [show sumZ (fun c => b2 (s (14 + c) ≠ 1 ∧ lawB s c x = true)) (c + 1) = sumZ (fun c => b2 (s (14 + c) ≠ 1 ∧ lawB s c x = true)) c + (fun c => b2 (s (14 + c) ≠ 1 ∧ lawB s c x = true)) (c : Int) from rfl, he]
          first
          | rfl
          | (rw [Int.add_zero]; rfl)

set_option maxRecDepth 100000 in
set_option maxHeartbeats 4000000 in
theorem c_X1_openCellsFor {l : Launch} {F : Nat × (Int → Int)} {iv : Mm} {D : Int} {s : Int → Int} (hR : RR iv 1 s) (hI : MI D s) {x : Int} (hx : 0 ≤ x ∧ x ≤ 7) : Ctr l F 1 0 0 yX1_openCellsFor cX1_openCellsFor 4 (some FieldType.int) [r_ 1, i_ x] S0 (iv) (Ret (some (i_ (lawC s x))) S0 iv) := by
  refine Ctr.of false (fun h => by cases h) (by decide) rfl (Nat.le_of_ble_eq_true rfl) ?_
  refine J.iconst (q := 1) dX1_openCellsFor_0 ?_ rfl
  refine J.istore_n (q := 2) dX1_openCellsFor_1 (Nat.le_of_ble_eq_true rfl) ?_ rfl
  refine J.iconst (q := 3) dX1_openCellsFor_2 ?_ rfl
  refine J.istore_n (q := 4) dX1_openCellsFor_3 (Nat.le_of_ble_eq_true rfl) ?_ rfl
  exact openCellsFor_loop hR hI hx 82 0 (by omega) (by omega)

theorem mskN_cg {P Q : Nat → Bool} (h : ∀ d : Nat, d < 8 → P d = Q d) : mskN P 8 = mskN Q 8 := by
  have : ∀ n : Nat, n ≤ 8 → mskN P n = mskN Q n := by
    intro n
    induction n with
    | zero => intro _; rfl
    | succ n ih => intro hn; rw [mskN, mskN, ih (by omega), h n (by omega)]
  exact this 8 (by omega)
set_option maxRecDepth 100000 in
set_option maxHeartbeats 4000000 in
theorem freeDeeds_loop {l : Launch} {F : Nat × (Int → Int)} {iv : Mm} {D : Int} {s : Int → Int} (hR : RR iv 1 s) (hI : MI D s) : ∀ (n : Nat) (c : Nat), (81 - (c : Int) < n) → ((c : Int) ≤ 81) → J l (yX1_freeDeeds).cls cX1_freeDeeds 3 (some FieldType.int) 1 0 0 false F (Ret (some (i_ (mskN (frP s 81) 8 : Nat))) S0 iv) 0 0 6 [some (r_ 1), some (i_ ((mskN (frP s c) 8 : Nat) : Int)), some (i_ (c : Int))] [] S0 (iv) := by
  intro n
  induction n with
  | zero =>
    intro c hn hc
    omega
  | succ n ih =>
    intro c hn hc
    refine J.iload_n (q := 7) dX1_freeDeeds_6 rfl ?_ rfl
    refine J.bipush (q := 9) dX1_freeDeeds_7 (by decide) ?_ rfl
    refine J.icmp_ge (tgt := 53) (q := 12) dX1_freeDeeds_9 rfl rfl (fun c9 => ?_) (fun c9 => ?_)
    · refine J.iload_n (q := 54) dX1_freeDeeds_53 rfl ?_ rfl
      refine J.ireturn dX1_freeDeeds_54 rfl ?_
      have hc81 : c = 81 := by omega
      subst hc81
      exact ⟨rfl, rfl, rfl⟩
    · refine J.aload_n (q := 13) dX1_freeDeeds_12 rfl ?_ rfl
      refine J.getR (ci := 1) (k0 := 0) (c1 := 2) (q := 16) dX1_freeDeeds_13 kF_X1_9 rfl (by decide) (by decide) rfl (by decide) rfl ?_ rfl
      refine J.iload_n (q := 17) dX1_freeDeeds_16 rfl ?_ rfl
      refine J.iald (n := 81) (q := 18) dX1_freeDeeds_17 rfl (by omega) ?_ rfl
      rw [g1_hed hR (by omega) (by omega)]
      have hcl := hI.cel c (by omega) (by omega)
      refine J.if_ne (tgt := 47) (q := 21) dX1_freeDeeds_18 rfl rfl (fun c18 => ?_) (fun c18 => ?_)
      · have he : ∀ d : Nat, d < 8 → (frP s (c + 1) d = frP s c d) := fun d hd => Bool.eq_iff_iff.mpr ⟨fun h => (frP_s.mp h).1, fun h => frP_s.mpr ⟨h, Or.inl (by omega)⟩⟩
        refine J.iinc (q := 50) dX1_freeDeeds_47 rfl ?_ rfl
        refine J.goto (tgt := 6) dX1_freeDeeds_50 rfl ?_
        first
        | (refine J.eql ?_ (ih (c + 1) (by omega) (by omega)); rw [mskN_cg he]; rfl)
        | exact ih (c + 1) (by omega) (by omega)
      · refine J.aload_n (q := 22) dX1_freeDeeds_21 rfl ?_ rfl
        refine J.getR (ci := 1) (k0 := 2) (c1 := 4) (q := 25) dX1_freeDeeds_22 kF_X1_18 rfl (by decide) (by decide) rfl (by decide) rfl ?_ rfl
        refine J.iload_n (q := 26) dX1_freeDeeds_25 rfl ?_ rfl
        refine J.iald (n := 81) (q := 27) dX1_freeDeeds_26 rfl (by omega) ?_ rfl
        rw [g1_law hR (by omega) (by omega)]
        refine J.iconst (q := 28) dX1_freeDeeds_27 ?_ rfl
        refine J.icmp_eq (tgt := 47) (q := 31) dX1_freeDeeds_28 rfl rfl (fun c28 => ?_) (fun c28 => ?_)
        · have he : ∀ d : Nat, d < 8 → (frP s (c + 1) d = frP s c d) := fun d hd => Bool.eq_iff_iff.mpr ⟨fun h => (frP_s.mp h).1, fun h => frP_s.mpr ⟨h, Or.inr (decide_eq_true (Or.inl (by omega)))⟩⟩
          refine J.iinc (q := 50) dX1_freeDeeds_47 rfl ?_ rfl
          refine J.goto (tgt := 6) dX1_freeDeeds_50 rfl ?_
          first
          | (refine J.eql ?_ (ih (c + 1) (by omega) (by omega)); rw [mskN_cg he]; rfl)
          | exact ih (c + 1) (by omega) (by omega)
        · have hba := hI.ban (s (176 + c)) (by omega) (by omega)
          refine J.iload_n (q := 32) dX1_freeDeeds_31 rfl ?_ rfl
          refine J.aload_n (q := 33) dX1_freeDeeds_32 rfl ?_ rfl
          refine J.getR (ci := 1) (k0 := 4) (c1 := 6) (q := 36) dX1_freeDeeds_33 kF_X1_24 rfl (by decide) (by decide) rfl (by decide) rfl ?_ rfl
          refine J.aload_n (q := 37) dX1_freeDeeds_36 rfl ?_ rfl
          refine J.getR (ci := 1) (k0 := 2) (c1 := 4) (q := 40) dX1_freeDeeds_37 kF_X1_18 rfl (by decide) (by decide) rfl (by decide) rfl ?_ rfl
          refine J.iload_n (q := 41) dX1_freeDeeds_40 rfl ?_ rfl
          refine J.iald (n := 81) (q := 42) dX1_freeDeeds_41 rfl (by omega) ?_ rfl
          rw [g1_law hR (by omega) (by omega)]
          refine J.iald (n := 8) (q := 43) dX1_freeDeeds_42 rfl (by omega) ?_ rfl
          rw [g1_ban hR (by omega) (by omega)]
          refine J.iconst (q := 44) dX1_freeDeeds_43 ?_ rfl
          refine J.ixor (q := 45) (z := -1 - s (6 + s (176 + (c : Int)))) dX1_freeDeeds_44 (xor_m1 hba) ?_ rfl
          refine J.iand (q := 46) (z := (mskN (frP s (c + 1)) 8 : Nat)) dX1_freeDeeds_45 (by
              exact andn8 hba (fun d hd => by
                rw [frP_s]
                constructor
                · intro h
                  refine ⟨h.1, ?_⟩
                  rcases h.2 with z | z
                  · omega
                  · rcases of_decide_eq_true z with y | y
                    · omega
                    · rw [Int.toNat_natCast] at y; exact y
                · intro h
                  exact ⟨h.1, Or.inr (decide_eq_true (Or.inr (by rw [Int.toNat_natCast]; exact h.2)))⟩)) ?_ rfl
          refine J.istore_n (q := 47) dX1_freeDeeds_46 (Nat.le_of_ble_eq_true rfl) ?_ rfl
          refine J.iinc (q := 50) dX1_freeDeeds_47 rfl ?_ rfl
          refine J.goto (tgt := 6) dX1_freeDeeds_50 rfl ?_
          first
          | (refine J.eql ?_ (ih (c + 1) (by omega) (by omega)); rw [mskN_cg he]; rfl)
          | exact ih (c + 1) (by omega) (by omega)

set_option maxRecDepth 100000 in
set_option maxHeartbeats 4000000 in
theorem c_X1_freeDeeds {l : Launch} {F : Nat × (Int → Int)} {iv : Mm} {D : Int} {s : Int → Int} (hR : RR iv 1 s) (hI : MI D s) : Ctr l F 1 0 0 yX1_freeDeeds cX1_freeDeeds 3 (some FieldType.int) [r_ 1] S0 (iv) (Ret (some (i_ (mskN (frP s 81) 8 : Nat))) S0 iv) := by
  refine Ctr.of false (fun h => by cases h) (by decide) rfl (Nat.le_of_ble_eq_true rfl) ?_
  refine J.sipush (q := 3) dX1_freeDeeds_0 (by decide) ?_ rfl
  refine J.istore_n (q := 4) dX1_freeDeeds_3 (Nat.le_of_ble_eq_true rfl) ?_ rfl
  refine J.iconst (q := 5) dX1_freeDeeds_4 ?_ rfl
  refine J.istore_n (q := 6) dX1_freeDeeds_5 (Nat.le_of_ble_eq_true rfl) ?_ rfl
  exact freeDeeds_loop hR hI 82 0 (by omega) (by omega)

set_option maxRecDepth 100000 in
set_option maxHeartbeats 4000000 in
theorem c_X5_may {l : Launch} {F : Nat × (Int → Int)} {iv A : Mm} (hC : CR iv A) (hA : AI A) {c d : Int} (hc : -2147483648 ≤ c ∧ c < 2147483648) (hd : -2147483648 ≤ d ∧ d < 2147483648) : Ctr l F 2 0 0 yX5_may cX5_may 3 (some FieldType.int) [r_ 0, i_ c, i_ d] S0 (iv) (CP iv (an_may A c d)) := by
  refine Ctr.of false (fun h => by cases h) (by decide) rfl (Nat.le_of_ble_eq_true rfl) ?_
  have hI := hA.mi
  have hmm := hI.many
  have hkp := hA.kp
  have htp := hA.tp
  refine J.iload_n (q := 1) dX5_may_0 rfl ?_ rfl
  refine J.callS1i (q := 4) dX5_may_1 mv_X5_isCell kS_X5_isCell kL_X5_55 ⟨by decide, by decide⟩ (Nat.le_of_ble_eq_true rfl) ⟨by decide, by decide⟩ rfl (c_X5_isCell (by omega)) ?_
  refine J.ifb_eq (tgt := 14) (q := 7) dX5_may_4 rfl rfl (fun c4 => ?_) (fun c4 => ?_)
  · refine J.aload_n (q := 15) dX5_may_14 rfl ?_ rfl
    refine J.ldc (q := 17) (z := -1000001) dX5_may_15 kK_X5_63 ?_ rfl
    refine J.callV1 (ci := 5) (q := 20) dX5_may_17 mv_X5_tell kL_X5_64 rfl (by decide) rfl ⟨by decide, by decide⟩ (Nat.le_of_ble_eq_true rfl) ⟨by decide, by decide⟩ rfl (c_X5_tell (w := 0) (by decide) hC (by decide)) (fun v9 S9 iv9 hp => ?_)
    obtain ⟨rfl, rfl, hf8, hC8⟩ := hp
    refine J.ireturn dX5_may_20 rfl ?_
    unfold CP an_may
    repeat (first | rw [if_pos (by omega)] | rw [if_neg (by omega)])
    first
    | exact ⟨rfl, rfl, hf8, hC8⟩
    | exact ⟨rfl, rfl, fun _ _ => rfl, hC⟩
    | (rw [b2_t c30]; exact ⟨rfl, rfl, fun _ _ => rfl, hC⟩)
    | (rw [b2_f c30]; exact ⟨rfl, rfl, fun _ _ => rfl, hC⟩)
    | (exfalso; omega)
  · refine J.iload_n (q := 8) dX5_may_7 rfl ?_ rfl
    refine J.callS1i (q := 11) dX5_may_8 mv_X5_isDeed kS_X5_isDeed kL_X5_159 ⟨by decide, by decide⟩ (Nat.le_of_ble_eq_true rfl) ⟨by decide, by decide⟩ rfl (c_X5_isDeed (by omega)) ?_
    refine J.ifb_ne (tgt := 21) (q := 14) dX5_may_11 rfl rfl (fun c11 => ?_) (fun c11 => ?_)
    · refine J.aload_n (q := 22) dX5_may_21 rfl ?_ rfl
      refine J.getR (ci := 5) (k0 := 0) (c1 := 1) (q := 25) dX5_may_22 kF_X5_12 rfl (by decide) (by decide) rfl (by decide) rfl ?_ rfl
      refine J.iload_n (q := 26) dX5_may_25 rfl ?_ rfl
      refine J.iload_n (q := 27) dX5_may_26 rfl ?_ rfl
      refine J.callV2i (ci := 1) (q := 30) dX5_may_27 mv_X1_isLawful kL_X5_162 rfl (by decide) rfl ⟨by decide, by decide⟩ (Nat.le_of_ble_eq_true rfl) ⟨by decide, by decide⟩ rfl (c_X1_isLawful hC.r hI (by omega) (by omega)) ?_
      refine J.ifb_eq (tgt := 37) (q := 33) dX5_may_30 rfl rfl (fun c30 => ?_) (fun c30 => ?_)
      · refine J.iconst (q := 38) dX5_may_37 ?_ rfl
        refine J.ireturn dX5_may_38 rfl ?_
        unfold CP an_may
        repeat (first | rw [if_pos (by omega)] | rw [if_neg (by omega)])
        first
        | exact ⟨rfl, rfl, hf8, hC8⟩
        | exact ⟨rfl, rfl, fun _ _ => rfl, hC⟩
        | (rw [b2_t c30]; exact ⟨rfl, rfl, fun _ _ => rfl, hC⟩)
        | (rw [b2_f c30]; exact ⟨rfl, rfl, fun _ _ => rfl, hC⟩)
        | (exfalso; omega)
      · refine J.iconst (q := 34) dX5_may_33 ?_ rfl
        refine J.goto (tgt := 38) dX5_may_34 rfl ?_
        refine J.ireturn dX5_may_38 rfl ?_
        unfold CP an_may
        repeat (first | rw [if_pos (by omega)] | rw [if_neg (by omega)])
        first
        | exact ⟨rfl, rfl, hf8, hC8⟩
        | exact ⟨rfl, rfl, fun _ _ => rfl, hC⟩
        | (rw [b2_t c30]; exact ⟨rfl, rfl, fun _ _ => rfl, hC⟩)
        | (rw [b2_f c30]; exact ⟨rfl, rfl, fun _ _ => rfl, hC⟩)
        | (exfalso; omega)
    · refine J.aload_n (q := 15) dX5_may_14 rfl ?_ rfl
      refine J.ldc (q := 17) (z := -1000001) dX5_may_15 kK_X5_63 ?_ rfl
      refine J.callV1 (ci := 5) (q := 20) dX5_may_17 mv_X5_tell kL_X5_64 rfl (by decide) rfl ⟨by decide, by decide⟩ (Nat.le_of_ble_eq_true rfl) ⟨by decide, by decide⟩ rfl (c_X5_tell (w := 0) (by decide) hC (by decide)) (fun v9 S9 iv9 hp => ?_)
      obtain ⟨rfl, rfl, hf8, hC8⟩ := hp
      refine J.ireturn dX5_may_20 rfl ?_
      unfold CP an_may
      repeat (first | rw [if_pos (by omega)] | rw [if_neg (by omega)])
      first
      | exact ⟨rfl, rfl, hf8, hC8⟩
      | exact ⟨rfl, rfl, fun _ _ => rfl, hC⟩
      | (rw [b2_t c30]; exact ⟨rfl, rfl, fun _ _ => rfl, hC⟩)
      | (rw [b2_f c30]; exact ⟨rfl, rfl, fun _ _ => rfl, hC⟩)
      | (exfalso; omega)

set_option maxRecDepth 100000 in
set_option maxHeartbeats 4000000 in
theorem c_X5_where {l : Launch} {F : Nat × (Int → Int)} {iv A : Mm} (hC : CR iv A) (hA : AI A) {d : Int} (hd : -2147483648 ≤ d ∧ d < 2147483648) : Ctr l F 2 0 0 yX5_where cX5_where 2 (some FieldType.int) [r_ 0, i_ d] S0 (iv) (CP iv (an_where A d)) := by
  refine Ctr.of false (fun h => by cases h) (by decide) rfl (Nat.le_of_ble_eq_true rfl) ?_
  have hI := hA.mi
  have hmm := hI.many
  have hkp := hA.kp
  have htp := hA.tp
  refine J.iload_n (q := 1) dX5_where_0 rfl ?_ rfl
  refine J.callS1i (q := 4) dX5_where_1 mv_X5_isDeed kS_X5_isDeed kL_X5_159 ⟨by decide, by decide⟩ (Nat.le_of_ble_eq_true rfl) ⟨by decide, by decide⟩ rfl (c_X5_isDeed (by omega)) ?_
  refine J.ifb_ne (tgt := 14) (q := 7) dX5_where_4 rfl rfl (fun c4 => ?_) (fun c4 => ?_)
  · refine J.aload_n (q := 15) dX5_where_14 rfl ?_ rfl
    refine J.getR (ci := 5) (k0 := 0) (c1 := 1) (q := 18) dX5_where_15 kF_X5_12 rfl (by decide) (by decide) rfl (by decide) rfl ?_ rfl
    refine J.iload_n (q := 19) dX5_where_18 rfl ?_ rfl
    refine J.callV1i (ci := 1) (q := 22) dX5_where_19 mv_X1_openCellsFor kL_X5_165 rfl (by decide) rfl ⟨by decide, by decide⟩ (Nat.le_of_ble_eq_true rfl) ⟨by decide, by decide⟩ rfl (c_X1_openCellsFor hC.r hI (by omega)) ?_
    refine J.ireturn dX5_where_22 rfl ?_
    unfold CP an_where
    repeat (first | rw [if_pos (by omega)] | rw [if_neg (by omega)])
    first
    | exact ⟨rfl, rfl, hf8, hC8⟩
    | exact ⟨rfl, rfl, fun _ _ => rfl, hC⟩
    | (exfalso; omega)
  · refine J.aload_n (q := 8) dX5_where_7 rfl ?_ rfl
    refine J.ldc (q := 10) (z := -1000001) dX5_where_8 kK_X5_63 ?_ rfl
    refine J.callV1 (ci := 5) (q := 13) dX5_where_10 mv_X5_tell kL_X5_64 rfl (by decide) rfl ⟨by decide, by decide⟩ (Nat.le_of_ble_eq_true rfl) ⟨by decide, by decide⟩ rfl (c_X5_tell (w := 0) (by decide) hC (by decide)) (fun v9 S9 iv9 hp => ?_)
    obtain ⟨rfl, rfl, hf8, hC8⟩ := hp
    refine J.ireturn dX5_where_13 rfl ?_
    unfold CP an_where
    repeat (first | rw [if_pos (by omega)] | rw [if_neg (by omega)])
    first
    | exact ⟨rfl, rfl, hf8, hC8⟩
    | exact ⟨rfl, rfl, fun _ _ => rfl, hC⟩
    | (exfalso; omega)

set_option maxRecDepth 100000 in
set_option maxHeartbeats 4000000 in
theorem c_X5_free {l : Launch} {F : Nat × (Int → Int)} {iv A : Mm} (hC : CR iv A) (hA : AI A) : Ctr l F 2 0 0 yX5_free cX5_free 1 (some FieldType.int) [r_ 0] S0 (iv) (CP iv (an_free A)) := by
  refine Ctr.of false (fun h => by cases h) (by decide) rfl (Nat.le_of_ble_eq_true rfl) ?_
  have hI := hA.mi
  have hmm := hI.many
  have hkp := hA.kp
  have htp := hA.tp
  refine J.aload_n (q := 1) dX5_free_0 rfl ?_ rfl
  refine J.getR (ci := 5) (k0 := 0) (c1 := 1) (q := 4) dX5_free_1 kF_X5_12 rfl (by decide) (by decide) rfl (by decide) rfl ?_ rfl
  refine J.callV0i (ci := 1) (q := 7) dX5_free_4 mv_X1_freeDeeds kL_X5_173 rfl (by decide) rfl ⟨by decide, by decide⟩ (Nat.le_of_ble_eq_true rfl) ⟨by decide, by decide⟩ rfl (c_X1_freeDeeds hC.r hI) ?_
  refine J.ireturn dX5_free_7 rfl ?_
  unfold CP an_free
  repeat (first | rw [if_pos (by omega)] | rw [if_neg (by omega)])
  first
  | exact ⟨rfl, rfl, hf8, hC8⟩
  | exact ⟨congrArg (fun z => some (i_ z)) an_free_m.symm, rfl, fun _ _ => rfl, hC⟩
  | (exfalso; omega)

set_option maxRecDepth 100000 in
set_option maxHeartbeats 4000000 in
theorem c_X5_realm {l : Launch} {F : Nat × (Int → Int)} {iv A : Mm} (hC : CR iv A) (hA : AI A) {w : Int} (hw : -2147483648 ≤ w ∧ w < 2147483648) : Ctr l F 2 0 0 yX5_realm cX5_realm 2 (some FieldType.int) [r_ 0, i_ w] S0 (iv) (CP iv (an_realm A w)) := by
  refine Ctr.of false (fun h => by cases h) (by decide) rfl (Nat.le_of_ble_eq_true rfl) ?_
  have hI := hA.mi
  have hmm := hI.many
  have hkp := hA.kp
  have htp := hA.tp
  refine J.iload_n (q := 1) dX5_realm_0 rfl ?_ rfl
  refine J.callS1i (q := 4) dX5_realm_1 mv_X5_isLaw kS_X5_isLaw kL_X5_112 ⟨by decide, by decide⟩ (Nat.le_of_ble_eq_true rfl) ⟨by decide, by decide⟩ rfl (c_X5_isLaw (by omega)) ?_
  refine J.ifb_ne (tgt := 14) (q := 7) dX5_realm_4 rfl rfl (fun c4 => ?_) (fun c4 => ?_)
  · refine J.aload_n (q := 15) dX5_realm_14 rfl ?_ rfl
    refine J.getR (ci := 5) (k0 := 0) (c1 := 1) (q := 18) dX5_realm_15 kF_X5_12 rfl (by decide) (by decide) rfl (by decide) rfl ?_ rfl
    refine J.iload_n (q := 19) dX5_realm_18 rfl ?_ rfl
    refine J.callV1i (ci := 1) (q := 22) dX5_realm_19 mv_X1_cellsUnder kL_X5_150 rfl (by decide) rfl ⟨by decide, by decide⟩ (Nat.le_of_ble_eq_true rfl) ⟨by decide, by decide⟩ rfl (c_X1_cellsUnder hC.r hI (by omega)) ?_
    refine J.ireturn dX5_realm_22 rfl ?_
    unfold CP an_realm
    repeat (first | rw [if_pos (by omega)] | rw [if_neg (by omega)])
    first
    | exact ⟨rfl, rfl, hf8, hC8⟩
    | exact ⟨rfl, rfl, fun _ _ => rfl, hC⟩
    | (exfalso; omega)
  · refine J.aload_n (q := 8) dX5_realm_7 rfl ?_ rfl
    refine J.ldc (q := 10) (z := -1000001) dX5_realm_8 kK_X5_63 ?_ rfl
    refine J.callV1 (ci := 5) (q := 13) dX5_realm_10 mv_X5_tell kL_X5_64 rfl (by decide) rfl ⟨by decide, by decide⟩ (Nat.le_of_ble_eq_true rfl) ⟨by decide, by decide⟩ rfl (c_X5_tell (w := 0) (by decide) hC (by decide)) (fun v9 S9 iv9 hp => ?_)
    obtain ⟨rfl, rfl, hf8, hC8⟩ := hp
    refine J.ireturn dX5_realm_13 rfl ?_
    unfold CP an_realm
    repeat (first | rw [if_pos (by omega)] | rw [if_neg (by omega)])
    first
    | exact ⟨rfl, rfl, hf8, hC8⟩
    | exact ⟨rfl, rfl, fun _ _ => rfl, hC⟩
    | (exfalso; omega)

set_option maxRecDepth 100000 in
set_option maxHeartbeats 4000000 in
theorem c_X5_repeals {l : Launch} {F : Nat × (Int → Int)} {iv A : Mm} (hC : CR iv A) (hA : AI A) : Ctr l F 2 0 0 yX5_repeals cX5_repeals 2 (some FieldType.int) [r_ 0] S0 (iv) (CP iv (an_repeals A)) := by
  refine Ctr.of false (fun h => by cases h) (by decide) rfl (Nat.le_of_ble_eq_true rfl) ?_
  have hI := hA.mi
  have hmm := hI.many
  have hkp := hA.kp
  have htp := hA.tp
  refine J.aload_n (q := 1) dX5_repeals_0 rfl ?_ rfl
  refine J.getR (ci := 5) (k0 := 0) (c1 := 1) (q := 4) dX5_repeals_1 kF_X5_12 rfl (by decide) (by decide) rfl (by decide) rfl ?_ rfl
  refine J.callV0i (ci := 1) (q := 7) dX5_repeals_4 mv_X1_cellsWithLaw kL_X5_140 rfl (by decide) rfl ⟨by decide, by decide⟩ (Nat.le_of_ble_eq_true rfl) ⟨by decide, by decide⟩ rfl (c_X1_cellsWithLaw hC.r hI) ?_
  refine J.istore_n (q := 8) dX5_repeals_7 (Nat.le_of_ble_eq_true rfl) ?_ rfl
  refine J.aload_n (q := 9) dX5_repeals_8 rfl ?_ rfl
  refine J.getR (ci := 5) (k0 := 0) (c1 := 1) (q := 12) dX5_repeals_9 kF_X5_12 rfl (by decide) (by decide) rfl (by decide) rfl ?_ rfl
  refine J.getR (ci := 1) (k0 := 2) (c1 := 4) (q := 15) dX5_repeals_12 kF_X5_74 rfl (by decide) (by decide) rfl (by decide) rfl ?_ rfl
  refine J.iconst (q := 16) dX5_repeals_15 ?_ rfl
  refine J.callS2 (q := 19) dX5_repeals_16 mv_J7_fill_53178 kS_J7_fill_53178 kL_X5_153 ⟨by decide, by decide⟩ (Nat.le_of_ble_eq_true rfl) ⟨by decide, by decide⟩ rfl (c_fill_4) (fun v9 S9 iv9 hp => ?_)
  obtain ⟨rfl, rfl, b1, b2⟩ := hp
  have hR9 : RR iv9 1 (repS (A 62)) := fun o i t hp => by
    by_cases e : o = 3
    · subst e
      have ht : 0 ≤ i ∧ i < 81 ∧ t = 176 + i := by unfold Pl at hp; omega
      rw [show (1 + 3 : Nat) = 4 from rfl, b2 i ht.1 ht.2.1]
      exact (if_pos (by omega)).symm
    · have ht : t < 176 ∨ 257 ≤ t := by unfold Pl at hp; omega
      rw [b1 (1 + o) (by omega)]
      exact (hC.r o i t hp).trans (if_neg (by omega)).symm
  refine J.iload_n (q := 20) dX5_repeals_19 rfl ?_ rfl
  refine J.ireturn dX5_repeals_20 rfl ?_
  unfold CP an_repeals
  repeat (first | rw [if_pos (by omega)] | rw [if_neg (by omega)])
  first
  | exact ⟨rfl, rfl, hf8, hC8⟩
  | exact ⟨rfl, rfl, fun q hq => b1 q (by omega), hC.rep hR9 (fun q hq => b1 q (by omega))⟩
  | (exfalso; omega)

set_option maxRecDepth 100000 in
set_option maxHeartbeats 4000000 in
theorem c_X5_now {l : Launch} {F : Nat × (Int → Int)} {iv A : Mm} (hC : CR iv A) (hA : AI A) {w : Int} (hw : -2147483648 ≤ w ∧ w < 2147483648) : Ctr l F 2 0 0 yX5_now cX5_now 2 (some FieldType.int) [r_ 0, i_ w] S0 (iv) (CP iv (an_now A w)) := by
  refine Ctr.of false (fun h => by cases h) (by decide) rfl (Nat.le_of_ble_eq_true rfl) ?_
  have hI := hA.mi
  have hmm := hI.many
  have hkp := hA.kp
  have htp := hA.tp
  refine J.iload_n (q := 1) dX5_now_0 rfl ?_ rfl
  rcases (show (w < 0 ∨ 5 < w) ∨ w = 0 ∨ w = 1 ∨ w = 2 ∨ w = 3 ∨ w = 4 ∨ w = 5 by omega) with hO | hx1 | hx1 | hx1 | hx1 | hx1 | hx1
  · refine J.tabOut (tgt := 88) dX5_now_1 (by omega) hO rfl ?_
    refine J.aload_n (q := 89) dX5_now_88 rfl ?_ rfl
    refine J.ldc (q := 91) (z := -1000001) dX5_now_89 kK_X5_63 ?_ rfl
    refine J.callV1 (ci := 5) (q := 94) dX5_now_91 mv_X5_tell kL_X5_64 rfl (by decide) rfl ⟨by decide, by decide⟩ (Nat.le_of_ble_eq_true rfl) ⟨by decide, by decide⟩ rfl (c_X5_tell (w := 0) (by decide) hC (by decide)) (fun v9 S9 iv9 hp => ?_)
    obtain ⟨rfl, rfl, hf8, hC8⟩ := hp
    refine J.ireturn dX5_now_94 rfl ?_
    unfold CP an_now
    repeat (first | rw [if_pos (by omega)] | rw [if_neg (by omega)])
    first
    | exact ⟨rfl, rfl, hf8, hC8⟩
    | exact ⟨rfl, rfl, fun _ _ => rfl, hC⟩
    | (exfalso; omega)
  · refine J.tabIn (off := 39) (tgt := 40) dX5_now_1 (by omega) (by omega) (by omega) (by rw [hx1]; rfl) rfl ?_
    refine J.aload_n (q := 41) dX5_now_40 rfl ?_ rfl
    refine J.getR (ci := 5) (k0 := 0) (c1 := 1) (q := 44) dX5_now_41 kF_X5_12 rfl (by decide) (by decide) rfl (by decide) rfl ?_ rfl
    refine J.getI (ci := 1) (k0 := 14) (kz := 14) (q := 47) dX5_now_44 kF_X5_125 rfl (by decide) (by decide) rfl (.inl rfl) ?_ rfl
    rw [g1_day hC.r]
    refine J.ireturn dX5_now_47 rfl ?_
    unfold CP an_now
    repeat (first | rw [if_pos (by omega)] | rw [if_neg (by omega)])
    first
    | exact ⟨rfl, rfl, hf8, hC8⟩
    | exact ⟨rfl, rfl, fun _ _ => rfl, hC⟩
    | (exfalso; omega)
  · refine J.tabIn (off := 47) (tgt := 48) dX5_now_1 (by omega) (by omega) (by omega) (by rw [hx1]; rfl) rfl ?_
    refine J.aload_n (q := 49) dX5_now_48 rfl ?_ rfl
    refine J.getR (ci := 5) (k0 := 0) (c1 := 1) (q := 52) dX5_now_49 kF_X5_12 rfl (by decide) (by decide) rfl (by decide) rfl ?_ rfl
    refine J.getI (ci := 1) (k0 := 15) (kz := 15) (q := 55) dX5_now_52 kF_X5_137 rfl (by decide) (by decide) rfl (.inl rfl) ?_ rfl
    rw [g1_cla hC.r]
    refine J.ireturn dX5_now_55 rfl ?_
    unfold CP an_now
    repeat (first | rw [if_pos (by omega)] | rw [if_neg (by omega)])
    first
    | exact ⟨rfl, rfl, hf8, hC8⟩
    | exact ⟨rfl, rfl, fun _ _ => rfl, hC⟩
    | (exfalso; omega)
  · refine J.tabIn (off := 55) (tgt := 56) dX5_now_1 (by omega) (by omega) (by omega) (by rw [hx1]; rfl) rfl ?_
    refine J.aload_n (q := 57) dX5_now_56 rfl ?_ rfl
    refine J.getR (ci := 5) (k0 := 0) (c1 := 1) (q := 60) dX5_now_57 kF_X5_12 rfl (by decide) (by decide) rfl (by decide) rfl ?_ rfl
    refine J.callV0i (ci := 1) (q := 63) dX5_now_60 mv_X1_cellsWithLaw kL_X5_140 rfl (by decide) rfl ⟨by decide, by decide⟩ (Nat.le_of_ble_eq_true rfl) ⟨by decide, by decide⟩ rfl (c_X1_cellsWithLaw hC.r hI) ?_
    refine J.ireturn dX5_now_63 rfl ?_
    unfold CP an_now
    repeat (first | rw [if_pos (by omega)] | rw [if_neg (by omega)])
    first
    | exact ⟨rfl, rfl, hf8, hC8⟩
    | exact ⟨rfl, rfl, fun _ _ => rfl, hC⟩
    | (exfalso; omega)
  · refine J.tabIn (off := 63) (tgt := 64) dX5_now_1 (by omega) (by omega) (by omega) (by rw [hx1]; rfl) rfl ?_
    refine J.aload_n (q := 65) dX5_now_64 rfl ?_ rfl
    refine J.getR (ci := 5) (k0 := 0) (c1 := 1) (q := 68) dX5_now_65 kF_X5_12 rfl (by decide) (by decide) rfl (by decide) rfl ?_ rfl
    refine J.callV0i (ci := 1) (q := 71) dX5_now_68 mv_X1_allLeaves kL_X5_144 rfl (by decide) rfl ⟨by decide, by decide⟩ (Nat.le_of_ble_eq_true rfl) ⟨by decide, by decide⟩ rfl (c_X1_allLeaves hC.r) ?_
    refine J.ireturn dX5_now_71 rfl ?_
    unfold CP an_now
    repeat (first | rw [if_pos (by omega)] | rw [if_neg (by omega)])
    first
    | exact ⟨rfl, rfl, hf8, hC8⟩
    | exact ⟨rfl, rfl, fun _ _ => rfl, hC⟩
    | (exfalso; omega)
  · refine J.tabIn (off := 71) (tgt := 72) dX5_now_1 (by omega) (by omega) (by omega) (by rw [hx1]; rfl) rfl ?_
    refine J.aload_n (q := 73) dX5_now_72 rfl ?_ rfl
    refine J.getR (ci := 5) (k0 := 0) (c1 := 1) (q := 76) dX5_now_73 kF_X5_12 rfl (by decide) (by decide) rfl (by decide) rfl ?_ rfl
    refine J.getI (ci := 1) (k0 := 12) (kz := 12) (q := 79) dX5_now_76 kF_X5_118 rfl (by decide) (by decide) rfl (.inl rfl) ?_ rfl
    rw [g1_wet hC.r]
    refine J.ireturn dX5_now_79 rfl ?_
    unfold CP an_now
    repeat (first | rw [if_pos (by omega)] | rw [if_neg (by omega)])
    first
    | exact ⟨rfl, rfl, hf8, hC8⟩
    | exact ⟨rfl, rfl, fun _ _ => rfl, hC⟩
    | (exfalso; omega)
  · refine J.tabIn (off := 79) (tgt := 80) dX5_now_1 (by omega) (by omega) (by omega) (by rw [hx1]; rfl) rfl ?_
    refine J.aload_n (q := 81) dX5_now_80 rfl ?_ rfl
    refine J.getR (ci := 5) (k0 := 0) (c1 := 1) (q := 84) dX5_now_81 kF_X5_12 rfl (by decide) (by decide) rfl (by decide) rfl ?_ rfl
    refine J.callV0i (ci := 1) (q := 87) dX5_now_84 mv_X1_arrivedSnails kL_X5_147 rfl (by decide) rfl ⟨by decide, by decide⟩ (Nat.le_of_ble_eq_true rfl) ⟨by decide, by decide⟩ rfl (c_X1_arrivedSnails hC.r hI) ?_
    refine J.ireturn dX5_now_87 rfl ?_
    unfold CP an_now
    repeat (first | rw [if_pos (by omega)] | rw [if_neg (by omega)])
    first
    | exact ⟨rfl, rfl, hf8, hC8⟩
    | exact ⟨rfl, rfl, fun _ _ => rfl, hC⟩
    | (exfalso; omega)

set_option maxRecDepth 100000 in
set_option maxHeartbeats 4000000 in
theorem c_X5_count {l : Launch} {F : Nat × (Int → Int)} {iv A : Mm} (hC : CR iv A) (hA : AI A) {w : Int} (hw : -2147483648 ≤ w ∧ w < 2147483648) : Ctr l F 2 0 0 yX5_count cX5_count 2 (some FieldType.int) [r_ 0, i_ w] S0 (iv) (CP iv (an_count A w)) := by
  refine Ctr.of false (fun h => by cases h) (by decide) rfl (Nat.le_of_ble_eq_true rfl) ?_
  have hI := hA.mi
  have hmm := hI.many
  have hkp := hA.kp
  have htp := hA.tp
  refine J.iload_n (q := 1) dX5_count_0 rfl ?_ rfl
  rcases (show (w < 0 ∨ 7 < w) ∨ w = 0 ∨ w = 1 ∨ w = 2 ∨ w = 3 ∨ w = 4 ∨ w = 5 ∨ w = 6 ∨ w = 7 by omega) with hO | hx1 | hx1 | hx1 | hx1 | hx1 | hx1 | hx1 | hx1
  · refine J.tabOut (tgt := 112) dX5_count_1 (by omega) hO rfl ?_
    refine J.aload_n (q := 113) dX5_count_112 rfl ?_ rfl
    refine J.ldc (q := 115) (z := -1000001) dX5_count_113 kK_X5_63 ?_ rfl
    refine J.callV1 (ci := 5) (q := 118) dX5_count_115 mv_X5_tell kL_X5_64 rfl (by decide) rfl ⟨by decide, by decide⟩ (Nat.le_of_ble_eq_true rfl) ⟨by decide, by decide⟩ rfl (c_X5_tell (w := 0) (by decide) hC (by decide)) (fun v9 S9 iv9 hp => ?_)
    obtain ⟨rfl, rfl, hf8, hC8⟩ := hp
    refine J.ireturn dX5_count_118 rfl ?_
    unfold CP an_count
    repeat (first | rw [if_pos (by omega)] | rw [if_neg (by omega)])
    first
    | exact ⟨rfl, rfl, hf8, hC8⟩
    | exact ⟨rfl, rfl, fun _ _ => rfl, hC⟩
    | (exfalso; omega)
  · refine J.tabIn (off := 47) (tgt := 48) dX5_count_1 (by omega) (by omega) (by omega) (by rw [hx1]; rfl) rfl ?_
    refine J.aload_n (q := 49) dX5_count_48 rfl ?_ rfl
    refine J.getR (ci := 5) (k0 := 0) (c1 := 1) (q := 52) dX5_count_49 kF_X5_12 rfl (by decide) (by decide) rfl (by decide) rfl ?_ rfl
    refine J.getI (ci := 1) (k0 := 14) (kz := 14) (q := 55) dX5_count_52 kF_X5_125 rfl (by decide) (by decide) rfl (.inl rfl) ?_ rfl
    rw [g1_day hC.r]
    refine J.ireturn dX5_count_55 rfl ?_
    unfold CP an_count
    repeat (first | rw [if_pos (by omega)] | rw [if_neg (by omega)])
    first
    | exact ⟨rfl, rfl, hf8, hC8⟩
    | exact ⟨rfl, rfl, fun _ _ => rfl, hC⟩
    | (exfalso; omega)
  · refine J.tabIn (off := 55) (tgt := 56) dX5_count_1 (by omega) (by omega) (by omega) (by rw [hx1]; rfl) rfl ?_
    refine J.aload_n (q := 57) dX5_count_56 rfl ?_ rfl
    refine J.getR (ci := 5) (k0 := 0) (c1 := 1) (q := 60) dX5_count_57 kF_X5_12 rfl (by decide) (by decide) rfl (by decide) rfl ?_ rfl
    refine J.getI (ci := 1) (k0 := 11) (kz := 11) (q := 63) dX5_count_60 kF_X5_289 rfl (by decide) (by decide) rfl (.inl rfl) ?_ rfl
    rw [g1_many hC.r]
    refine J.ireturn dX5_count_63 rfl ?_
    unfold CP an_count
    repeat (first | rw [if_pos (by omega)] | rw [if_neg (by omega)])
    first
    | exact ⟨rfl, rfl, hf8, hC8⟩
    | exact ⟨rfl, rfl, fun _ _ => rfl, hC⟩
    | (exfalso; omega)
  · refine J.tabIn (off := 63) (tgt := 64) dX5_count_1 (by omega) (by omega) (by omega) (by rw [hx1]; rfl) rfl ?_
    refine J.aload_n (q := 65) dX5_count_64 rfl ?_ rfl
    refine J.getR (ci := 5) (k0 := 0) (c1 := 1) (q := 68) dX5_count_65 kF_X5_12 rfl (by decide) (by decide) rfl (by decide) rfl ?_ rfl
    refine J.callV0i (ci := 1) (q := 71) dX5_count_68 mv_X1_allHedges kL_X5_292 rfl (by decide) rfl ⟨by decide, by decide⟩ (Nat.le_of_ble_eq_true rfl) ⟨by decide, by decide⟩ rfl (c_X1_allHedges hC.r) ?_
    refine J.ireturn dX5_count_71 rfl ?_
    unfold CP an_count
    repeat (first | rw [if_pos (by omega)] | rw [if_neg (by omega)])
    first
    | exact ⟨rfl, rfl, hf8, hC8⟩
    | exact ⟨rfl, rfl, fun _ _ => rfl, hC⟩
    | (exfalso; omega)
  · refine J.tabIn (off := 71) (tgt := 72) dX5_count_1 (by omega) (by omega) (by omega) (by rw [hx1]; rfl) rfl ?_
    refine J.aload_n (q := 73) dX5_count_72 rfl ?_ rfl
    refine J.getR (ci := 5) (k0 := 0) (c1 := 1) (q := 76) dX5_count_73 kF_X5_12 rfl (by decide) (by decide) rfl (by decide) rfl ?_ rfl
    refine J.getI (ci := 1) (k0 := 15) (kz := 15) (q := 79) dX5_count_76 kF_X5_137 rfl (by decide) (by decide) rfl (.inl rfl) ?_ rfl
    rw [g1_cla hC.r]
    refine J.ireturn dX5_count_79 rfl ?_
    unfold CP an_count
    repeat (first | rw [if_pos (by omega)] | rw [if_neg (by omega)])
    first
    | exact ⟨rfl, rfl, hf8, hC8⟩
    | exact ⟨rfl, rfl, fun _ _ => rfl, hC⟩
    | (exfalso; omega)
  · refine J.tabIn (off := 79) (tgt := 80) dX5_count_1 (by omega) (by omega) (by omega) (by rw [hx1]; rfl) rfl ?_
    refine J.aload_n (q := 81) dX5_count_80 rfl ?_ rfl
    refine J.getR (ci := 5) (k0 := 0) (c1 := 1) (q := 84) dX5_count_81 kF_X5_12 rfl (by decide) (by decide) rfl (by decide) rfl ?_ rfl
    refine J.callV0i (ci := 1) (q := 87) dX5_count_84 mv_X1_cellsWithLaw kL_X5_140 rfl (by decide) rfl ⟨by decide, by decide⟩ (Nat.le_of_ble_eq_true rfl) ⟨by decide, by decide⟩ rfl (c_X1_cellsWithLaw hC.r hI) ?_
    refine J.ireturn dX5_count_87 rfl ?_
    unfold CP an_count
    repeat (first | rw [if_pos (by omega)] | rw [if_neg (by omega)])
    first
    | exact ⟨rfl, rfl, hf8, hC8⟩
    | exact ⟨rfl, rfl, fun _ _ => rfl, hC⟩
    | (exfalso; omega)
  · refine J.tabIn (off := 87) (tgt := 88) dX5_count_1 (by omega) (by omega) (by omega) (by rw [hx1]; rfl) rfl ?_
    refine J.aload_n (q := 89) dX5_count_88 rfl ?_ rfl
    refine J.getR (ci := 5) (k0 := 4) (c1 := 50) (q := 92) dX5_count_89 kF_X5_36 rfl (by decide) (by decide) rfl (by decide) rfl ?_ rfl
    refine J.getI (ci := 3) (k0 := 0) (kz := 0) (q := 95) dX5_count_92 kF_X5_227 rfl (by decide) (by decide) rfl (.inl rfl) ?_ rfl
    rw [hC.z]
    refine J.ireturn dX5_count_95 rfl ?_
    unfold CP an_count
    repeat (first | rw [if_pos (by omega)] | rw [if_neg (by omega)])
    first
    | exact ⟨rfl, rfl, hf8, hC8⟩
    | exact ⟨rfl, rfl, fun _ _ => rfl, hC⟩
    | (exfalso; omega)
  · refine J.tabIn (off := 95) (tgt := 96) dX5_count_1 (by omega) (by omega) (by omega) (by rw [hx1]; rfl) rfl ?_
    refine J.aload_n (q := 97) dX5_count_96 rfl ?_ rfl
    refine J.getR (ci := 5) (k0 := 0) (c1 := 1) (q := 100) dX5_count_97 kF_X5_12 rfl (by decide) (by decide) rfl (by decide) rfl ?_ rfl
    refine J.getI (ci := 1) (k0 := 16) (kz := 16) (q := 103) dX5_count_100 kF_X5_221 rfl (by decide) (by decide) rfl (.inl rfl) ?_ rfl
    rw [g1_zz hC.r]
    refine J.ireturn dX5_count_103 rfl ?_
    unfold CP an_count
    repeat (first | rw [if_pos (by omega)] | rw [if_neg (by omega)])
    first
    | exact ⟨rfl, rfl, hf8, hC8⟩
    | exact ⟨rfl, rfl, fun _ _ => rfl, hC⟩
    | (exfalso; omega)
  · refine J.tabIn (off := 103) (tgt := 104) dX5_count_1 (by omega) (by omega) (by omega) (by rw [hx1]; rfl) rfl ?_
    refine J.aload_n (q := 105) dX5_count_104 rfl ?_ rfl
    refine J.getR (ci := 5) (k0 := 0) (c1 := 1) (q := 108) dX5_count_105 kF_X5_12 rfl (by decide) (by decide) rfl (by decide) rfl ?_ rfl
    refine J.callV0i (ci := 1) (q := 111) dX5_count_108 mv_X1_heldSpots kL_X5_295 rfl (by decide) rfl ⟨by decide, by decide⟩ (Nat.le_of_ble_eq_true rfl) ⟨by decide, by decide⟩ rfl (c_X1_heldSpots hC.r hI) ?_
    refine J.ireturn dX5_count_111 rfl ?_
    unfold CP an_count
    repeat (first | rw [if_pos (by omega)] | rw [if_neg (by omega)])
    first
    | exact ⟨rfl, rfl, hf8, hC8⟩
    | exact ⟨rfl, rfl, fun _ _ => rfl, hC⟩
    | (exfalso; omega)

