/-! the class: more of what will be (printed by wip/whole/m_c11.py) -/
/-- the class's two numbers for the best so far -/
def Bst (f : Int → Nat) (j : Nat) (bst few : Int) : Prop := (bestN f j < 0 ∧ bst = -1000004 ∧ few = 101) ∨ (0 ≤ bestN f j ∧ bst = bestN f j ∧ few = (f (bestN f j) : Int) ∧ few ≤ 100)
theorem Bst.z {f : Int → Nat} : Bst f 0 (-1000004) 101 := Or.inl ⟨by show (-1 : Int) < 0; decide, rfl, rfl⟩
theorem Bst.yes {f : Int → Nat} {j : Nat} {bst few : Int} (h : Bst f j bst few) (hq : (f j : Int) < few) : Bst f (j + 1) j (f j) := by
  have e : bestN f (j + 1) = j := by
    rw [bestN]
    exact if_pos (by rcases h with h | h <;> omega)
  refine Or.inr ?_
  rw [e]
  refine ⟨by omega, rfl, rfl, ?_⟩
  rcases h with h | h <;> omega
theorem Bst.no {f : Int → Nat} {j : Nat} {bst few : Int} (h : Bst f j bst few) (hq : few ≤ (f j : Int)) : Bst f (j + 1) bst few := by
  have e : bestN f (j + 1) = bestN f j := by
    rw [bestN]
    exact if_neg (by rcases h with h | h <;> omega)
  unfold Bst
  rw [e]
  exact h
set_option maxRecDepth 100000 in
set_option maxHeartbeats 4000000 in
theorem wetFor5_loop {l : Launch} {F : Nat × (Int → Int)} {iv A : Mm} (hC : CR iv A) (hA : AI A) {w c : Int} (hw : 0 ≤ w ∧ w ≤ 7) (hc : 0 ≤ c ∧ c ≤ 80) : ∀ (n : Nat) (j : Nat) (bst : Int) (few : Int) (iv1 : Mm) (y6 : Option VT), (10 - (j : Int) < n) → ((j : Int) ≤ 10) → (FT iv iv1) → (Bst (fun x => rchD (upr (A 62) 4 x) w c) j bst few) → J l (yX5_wetFor).cls cX5_wetFor 7 (some FieldType.int) 7 0 0 false F (CP iv (an_wetFor A w c)) 0 0 31 [some (r_ 0), some (i_ w), some (i_ c), some (i_ bst), some (i_ few), some (i_ (j : Int)), y6] [] S0 (iv1) := by
  intro n
  induction n with
  | zero =>
    intro j bst few iv1 y6 hn hj hF hB
    omega
  | succ n ih =>
    intro j bst few iv1 y6 hn hj hF hB
    have hI := hA.mi
    have hmm := hI.many
    have hkp := hA.kp
    have htp := hA.tp
    have hC1 := hC.ft hF
    have hrd := rchD_r (upr (A 62) 4 j) w c
    have hbl := bestN_lt (fun x => rchD (upr (A 62) 4 x) w c) j
    have hB2 := hB
    unfold Bst at hB2
    refine J.iload (q := 33) dX5_wetFor_31 rfl ?_ rfl
    refine J.bipush (q := 35) dX5_wetFor_33 (by decide) ?_ rfl
    refine J.icmp_gt (tgt := 75) (q := 38) dX5_wetFor_35 rfl rfl (fun c35 => ?_) (fun c35 => ?_)
    · refine J.iload_n (q := 76) dX5_wetFor_75 rfl ?_ rfl
      refine J.ldc (q := 78) (z := -1000004) dX5_wetFor_76 kK_X5_172 ?_ rfl
      refine J.icmp_ne (tgt := 90) (q := 81) (hv := by omega) dX5_wetFor_78 rfl rfl (fun c78 => ?_) (fun c78 => ?_)
      · refine J.iload_n (q := 91) dX5_wetFor_90 rfl ?_ rfl
        refine J.ireturn dX5_wetFor_91 rfl ?_
        have hj10 : j = 10 := by omega
        subst hj10
        unfold CP an_wetFor
        rw [if_pos (by omega)]
        first
        | (rw [if_pos (by omega)]; exact ⟨rfl, rfl, fun q hq => (hf8 q hq).trans (hF q (by omega)), hC8⟩)
        | (rw [if_neg (by omega)]; exact ⟨congrArg (fun q => some (i_ q)) (by omega), rfl, fun q hq => hF q (by omega), hC1⟩)
        | (exfalso; omega)
      · refine J.aload_n (q := 82) dX5_wetFor_81 rfl ?_ rfl
        refine J.ldc (q := 84) (z := -1000004) dX5_wetFor_82 kK_X5_172 ?_ rfl
        refine J.callV1 (ci := 5) (q := 87) dX5_wetFor_84 mv_X5_tell kL_X5_64 rfl (by decide) rfl ⟨by decide, by decide⟩ (Nat.le_of_ble_eq_true rfl) ⟨by decide, by decide⟩ rfl (c_X5_tell (w := 3) (by decide) hC1 (by decide)) (fun v8 S8 iv8 hp => ?_)
        obtain ⟨rfl, rfl, hf8, hC8⟩ := hp
        refine J.goto (tgt := 91) dX5_wetFor_87 rfl ?_
        refine J.ireturn dX5_wetFor_91 rfl ?_
        have hj10 : j = 10 := by omega
        subst hj10
        unfold CP an_wetFor
        rw [if_pos (by omega)]
        first
        | (rw [if_pos (by omega)]; exact ⟨rfl, rfl, fun q hq => (hf8 q hq).trans (hF q (by omega)), hC8⟩)
        | (rw [if_neg (by omega)]; exact ⟨congrArg (fun q => some (i_ q)) (by omega), rfl, fun q hq => hF q (by omega), hC1⟩)
        | (exfalso; omega)
    · refine J.aload_n (q := 39) dX5_wetFor_38 rfl ?_ rfl
      refine J.getR (ci := 5) (k0 := 2) (c1 := 25) (q := 42) dX5_wetFor_39 kF_X5_22 rfl (by decide) (by decide) rfl (by decide) rfl ?_ rfl
      refine J.aload_n (q := 43) dX5_wetFor_42 rfl ?_ rfl
      refine J.getR (ci := 5) (k0 := 0) (c1 := 1) (q := 46) dX5_wetFor_43 kF_X5_12 rfl (by decide) (by decide) rfl (by decide) rfl ?_ rfl
      refine J.iload_n (q := 47) dX5_wetFor_46 rfl ?_ rfl
      refine J.iload_n (q := 48) dX5_wetFor_47 rfl ?_ rfl
      refine J.iload (q := 50) dX5_wetFor_48 rfl ?_ rfl
      refine J.callV4 (ci := 0) (q := 53) dX5_wetFor_50 mv_X0_daysToLaw kL_X5_180 rfl (by decide) rfl ⟨by decide, by decide⟩ (Nat.le_of_ble_eq_true rfl) ⟨by decide, by decide⟩ rfl (c_X0_daysToLaw hC1.r hI (w := w) (c := c) (wet := (j : Int)) (by omega) (by omega) (by omega)) (fun v9 S9 iv9 hp => ?_)
      obtain ⟨rfl, rfl, hF9⟩ := hp
      refine J.istore (q := 55) dX5_wetFor_53 (Nat.le_of_ble_eq_true rfl) ?_ rfl
      refine J.iload (q := 57) dX5_wetFor_55 rfl ?_ rfl
      refine J.iload (q := 59) dX5_wetFor_57 rfl ?_ rfl
      refine J.icmp_ge (tgt := 69) (q := 62) (hv := by omega) dX5_wetFor_59 rfl rfl (fun c59 => ?_) (fun c59 => ?_)
      · have hB3 : Bst (fun x => rchD (upr (A 62) 4 x) w c) (j + 1) bst few := hB.no c59
        refine J.iinc (q := 72) dX5_wetFor_69 rfl ?_ rfl
        refine J.goto (tgt := 31) dX5_wetFor_72 rfl ?_
        exact ih (j + 1) _ _ iv9 _ (by omega) (by omega) (hF.tr hF9) hB3
      · have hB3 := hB.yes (f := (fun x => rchD (upr (A 62) 4 x) w c)) c59
        refine J.iload (q := 64) dX5_wetFor_62 rfl ?_ rfl
        refine J.istore (q := 66) dX5_wetFor_64 (Nat.le_of_ble_eq_true rfl) ?_ rfl
        refine J.iload (q := 68) dX5_wetFor_66 rfl ?_ rfl
        refine J.istore_n (q := 69) dX5_wetFor_68 (Nat.le_of_ble_eq_true rfl) ?_ rfl
        refine J.iinc (q := 72) dX5_wetFor_69 rfl ?_ rfl
        refine J.goto (tgt := 31) dX5_wetFor_72 rfl ?_
        exact ih (j + 1) _ _ iv9 _ (by omega) (by omega) (hF.tr hF9) hB3

set_option maxRecDepth 100000 in
set_option maxHeartbeats 4000000 in
theorem c_X5_wetFor {l : Launch} {F : Nat × (Int → Int)} {iv A : Mm} (hC : CR iv A) (hA : AI A) {w c : Int} (hw : -2147483648 ≤ w ∧ w < 2147483648) (hc : -2147483648 ≤ c ∧ c < 2147483648) : Ctr l F 7 0 0 yX5_wetFor cX5_wetFor 7 (some FieldType.int) [r_ 0, i_ w, i_ c] S0 (iv) (CP iv (an_wetFor A w c)) := by
  refine Ctr.of false (fun h => by cases h) (by decide) rfl (Nat.le_of_ble_eq_true rfl) ?_
  have hI := hA.mi
  have hmm := hI.many
  have hkp := hA.kp
  have htp := hA.tp
  refine J.iload_n (q := 1) dX5_wetFor_0 rfl ?_ rfl
  refine J.callS1i (q := 4) dX5_wetFor_1 mv_X5_isLaw kS_X5_isLaw kL_X5_112 ⟨by decide, by decide⟩ (Nat.le_of_ble_eq_true rfl) ⟨by decide, by decide⟩ rfl (c_X5_isLaw (by omega)) ?_
  refine J.ifb_eq (tgt := 14) (q := 7) dX5_wetFor_4 rfl rfl (fun c4 => ?_) (fun c4 => ?_)
  · refine J.aload_n (q := 15) dX5_wetFor_14 rfl ?_ rfl
    refine J.ldc (q := 17) (z := -1000001) dX5_wetFor_15 kK_X5_63 ?_ rfl
    refine J.callV1 (ci := 5) (q := 20) dX5_wetFor_17 mv_X5_tell kL_X5_64 rfl (by decide) rfl ⟨by decide, by decide⟩ (Nat.le_of_ble_eq_true rfl) ⟨by decide, by decide⟩ rfl (c_X5_tell (w := 0) (by decide) hC (by decide)) (fun v9 S9 iv9 hp => ?_)
    obtain ⟨rfl, rfl, hf8, hC8⟩ := hp
    refine J.ireturn dX5_wetFor_20 rfl ?_
    unfold CP an_wetFor
    repeat (first | rw [if_pos (by omega)] | rw [if_neg (by omega)])
    first
    | exact ⟨rfl, rfl, hf8, hC8⟩
    | (exfalso; omega)
  · refine J.iload_n (q := 8) dX5_wetFor_7 rfl ?_ rfl
    refine J.callS1i (q := 11) dX5_wetFor_8 mv_X5_isCell kS_X5_isCell kL_X5_55 ⟨by decide, by decide⟩ (Nat.le_of_ble_eq_true rfl) ⟨by decide, by decide⟩ rfl (c_X5_isCell (by omega)) ?_
    refine J.ifb_ne (tgt := 21) (q := 14) dX5_wetFor_11 rfl rfl (fun c11 => ?_) (fun c11 => ?_)
    · refine J.ldc (q := 23) (z := -1000004) dX5_wetFor_21 kK_X5_172 ?_ rfl
      refine J.istore_n (q := 24) dX5_wetFor_23 (Nat.le_of_ble_eq_true rfl) ?_ rfl
      refine J.bipush (q := 26) dX5_wetFor_24 (by decide) ?_ rfl
      refine J.istore (q := 28) dX5_wetFor_26 (Nat.le_of_ble_eq_true rfl) ?_ rfl
      refine J.iconst (q := 29) dX5_wetFor_28 ?_ rfl
      refine J.istore (q := 31) dX5_wetFor_29 (Nat.le_of_ble_eq_true rfl) ?_ rfl
      exact wetFor5_loop hC hA (by omega) (by omega) 11 0 _ _ iv none (by omega) (by omega) FT.rf Bst.z
    · refine J.aload_n (q := 15) dX5_wetFor_14 rfl ?_ rfl
      refine J.ldc (q := 17) (z := -1000001) dX5_wetFor_15 kK_X5_63 ?_ rfl
      refine J.callV1 (ci := 5) (q := 20) dX5_wetFor_17 mv_X5_tell kL_X5_64 rfl (by decide) rfl ⟨by decide, by decide⟩ (Nat.le_of_ble_eq_true rfl) ⟨by decide, by decide⟩ rfl (c_X5_tell (w := 0) (by decide) hC (by decide)) (fun v9 S9 iv9 hp => ?_)
      obtain ⟨rfl, rfl, hf8, hC8⟩ := hp
      refine J.ireturn dX5_wetFor_20 rfl ?_
      unfold CP an_wetFor
      repeat (first | rw [if_pos (by omega)] | rw [if_neg (by omega)])
      first
      | exact ⟨rfl, rfl, hf8, hC8⟩
      | (exfalso; omega)

set_option maxRecDepth 100000 in
set_option maxHeartbeats 4000000 in
theorem c_X5_lag {l : Launch} {F : Nat × (Int → Int)} {iv A : Mm} (hC : CR iv A) (hA : AI A) {w x c : Int} (hw : -2147483648 ≤ w ∧ w < 2147483648) (hx : -2147483648 ≤ x ∧ x < 2147483648) (hc : -2147483648 ≤ c ∧ c < 2147483648) : Ctr l F 7 0 0 yX5_lag cX5_lag 6 (some FieldType.int) [r_ 0, i_ w, i_ x, i_ c] S0 (iv) (CP iv (an_lag A w x c)) := by
  refine Ctr.of false (fun h => by cases h) (by decide) rfl (Nat.le_of_ble_eq_true rfl) ?_
  have hI := hA.mi
  have hmm := hI.many
  have hkp := hA.kp
  have htp := hA.tp
  refine J.iload_n (q := 1) dX5_lag_0 rfl ?_ rfl
  refine J.callS1i (q := 4) dX5_lag_1 mv_X5_isLaw kS_X5_isLaw kL_X5_112 ⟨by decide, by decide⟩ (Nat.le_of_ble_eq_true rfl) ⟨by decide, by decide⟩ rfl (c_X5_isLaw (by omega)) ?_
  refine J.ifb_eq (tgt := 21) (q := 7) dX5_lag_4 rfl rfl (fun c4 => ?_) (fun c4 => ?_)
  · refine J.aload_n (q := 22) dX5_lag_21 rfl ?_ rfl
    refine J.ldc (q := 24) (z := -1000001) dX5_lag_22 kK_X5_63 ?_ rfl
    refine J.callV1 (ci := 5) (q := 27) dX5_lag_24 mv_X5_tell kL_X5_64 rfl (by decide) rfl ⟨by decide, by decide⟩ (Nat.le_of_ble_eq_true rfl) ⟨by decide, by decide⟩ rfl (c_X5_tell (w := 0) (by decide) hC (by decide)) (fun v9 S9 iv9 hp => ?_)
    obtain ⟨rfl, rfl, hf8, hC8⟩ := hp
    refine J.ireturn dX5_lag_27 rfl ?_
    unfold CP an_lag
    repeat (first | rw [if_pos (by omega)] | rw [if_neg (by omega)])
    first
    | exact ⟨rfl, rfl, hf8, hC8⟩
    | exact ⟨rfl, rfl, fun q hq => (hf8 q hq).trans ((hF7 q (by omega)).trans (hF9 q (by omega))), hC8⟩
    | exact ⟨rfl, rfl, fun q hq => (hF7 q (by omega)).trans (hF9 q (by omega)), hC7⟩
    | (exfalso; omega)
  · refine J.iload_n (q := 8) dX5_lag_7 rfl ?_ rfl
    refine J.callS1i (q := 11) dX5_lag_8 mv_X5_isLaw kS_X5_isLaw kL_X5_112 ⟨by decide, by decide⟩ (Nat.le_of_ble_eq_true rfl) ⟨by decide, by decide⟩ rfl (c_X5_isLaw (by omega)) ?_
    refine J.ifb_eq (tgt := 21) (q := 14) dX5_lag_11 rfl rfl (fun c11 => ?_) (fun c11 => ?_)
    · refine J.aload_n (q := 22) dX5_lag_21 rfl ?_ rfl
      refine J.ldc (q := 24) (z := -1000001) dX5_lag_22 kK_X5_63 ?_ rfl
      refine J.callV1 (ci := 5) (q := 27) dX5_lag_24 mv_X5_tell kL_X5_64 rfl (by decide) rfl ⟨by decide, by decide⟩ (Nat.le_of_ble_eq_true rfl) ⟨by decide, by decide⟩ rfl (c_X5_tell (w := 0) (by decide) hC (by decide)) (fun v9 S9 iv9 hp => ?_)
      obtain ⟨rfl, rfl, hf8, hC8⟩ := hp
      refine J.ireturn dX5_lag_27 rfl ?_
      unfold CP an_lag
      repeat (first | rw [if_pos (by omega)] | rw [if_neg (by omega)])
      first
      | exact ⟨rfl, rfl, hf8, hC8⟩
      | exact ⟨rfl, rfl, fun q hq => (hf8 q hq).trans ((hF7 q (by omega)).trans (hF9 q (by omega))), hC8⟩
      | exact ⟨rfl, rfl, fun q hq => (hF7 q (by omega)).trans (hF9 q (by omega)), hC7⟩
      | (exfalso; omega)
    · refine J.iload_n (q := 15) dX5_lag_14 rfl ?_ rfl
      refine J.callS1i (q := 18) dX5_lag_15 mv_X5_isCell kS_X5_isCell kL_X5_55 ⟨by decide, by decide⟩ (Nat.le_of_ble_eq_true rfl) ⟨by decide, by decide⟩ rfl (c_X5_isCell (by omega)) ?_
      refine J.ifb_ne (tgt := 28) (q := 21) dX5_lag_18 rfl rfl (fun c18 => ?_) (fun c18 => ?_)
      · refine J.aload_n (q := 29) dX5_lag_28 rfl ?_ rfl
        refine J.getR (ci := 5) (k0 := 2) (c1 := 25) (q := 32) dX5_lag_29 kF_X5_22 rfl (by decide) (by decide) rfl (by decide) rfl ?_ rfl
        refine J.aload_n (q := 33) dX5_lag_32 rfl ?_ rfl
        refine J.getR (ci := 5) (k0 := 0) (c1 := 1) (q := 36) dX5_lag_33 kF_X5_12 rfl (by decide) (by decide) rfl (by decide) rfl ?_ rfl
        refine J.iload_n (q := 37) dX5_lag_36 rfl ?_ rfl
        refine J.iload_n (q := 38) dX5_lag_37 rfl ?_ rfl
        refine J.aload_n (q := 39) dX5_lag_38 rfl ?_ rfl
        refine J.getR (ci := 5) (k0 := 0) (c1 := 1) (q := 42) dX5_lag_39 kF_X5_12 rfl (by decide) (by decide) rfl (by decide) rfl ?_ rfl
        refine J.getI (ci := 1) (k0 := 12) (kz := 12) (q := 45) dX5_lag_42 kF_X5_118 rfl (by decide) (by decide) rfl (.inl rfl) ?_ rfl
        rw [g1_wet hC.r]
        have hwt := hI.wet
        refine J.callV4 (ci := 0) (q := 48) dX5_lag_45 mv_X0_daysToLaw kL_X5_180 rfl (by decide) rfl ⟨by decide, by decide⟩ (Nat.le_of_ble_eq_true rfl) ⟨by decide, by decide⟩ rfl (c_X0_daysToLaw hC.r hI (w := w) (c := c) (wet := A 62 4) (by omega) (by omega) (by omega)) (fun v9 S9 iv9 hp => ?_)
        obtain ⟨rfl, rfl, hF9⟩ := hp
        have hC9 := hC.ft hF9
        rw [upr_self]
        have hrd := rchD_r (A 62) w c
        refine J.istore (q := 50) dX5_lag_48 (Nat.le_of_ble_eq_true rfl) ?_ rfl
        refine J.aload_n (q := 51) dX5_lag_50 rfl ?_ rfl
        refine J.getR (ci := 5) (k0 := 2) (c1 := 25) (q := 54) dX5_lag_51 kF_X5_22 rfl (by decide) (by decide) rfl (by decide) rfl ?_ rfl
        refine J.aload_n (q := 55) dX5_lag_54 rfl ?_ rfl
        refine J.getR (ci := 5) (k0 := 0) (c1 := 1) (q := 58) dX5_lag_55 kF_X5_12 rfl (by decide) (by decide) rfl (by decide) rfl ?_ rfl
        refine J.iload_n (q := 59) dX5_lag_58 rfl ?_ rfl
        refine J.iload_n (q := 60) dX5_lag_59 rfl ?_ rfl
        refine J.aload_n (q := 61) dX5_lag_60 rfl ?_ rfl
        refine J.getR (ci := 5) (k0 := 0) (c1 := 1) (q := 64) dX5_lag_61 kF_X5_12 rfl (by decide) (by decide) rfl (by decide) rfl ?_ rfl
        refine J.getI (ci := 1) (k0 := 12) (kz := 12) (q := 67) dX5_lag_64 kF_X5_118 rfl (by decide) (by decide) rfl (.inl rfl) ?_ rfl
        rw [g1_wet hC9.r]
        refine J.callV4 (ci := 0) (q := 70) dX5_lag_67 mv_X0_daysToLaw kL_X5_180 rfl (by decide) rfl ⟨by decide, by decide⟩ (Nat.le_of_ble_eq_true rfl) ⟨by decide, by decide⟩ rfl (c_X0_daysToLaw hC9.r hI (w := x) (c := c) (wet := A 62 4) (by omega) (by omega) (by omega)) (fun v7 S7 iv7 hp => ?_)
        obtain ⟨rfl, rfl, hF7⟩ := hp
        have hC7 := hC9.ft hF7
        rw [upr_self]
        have hrx := rchD_r (A 62) x c
        refine J.istore (q := 72) dX5_lag_70 (Nat.le_of_ble_eq_true rfl) ?_ rfl
        refine J.iload (q := 74) dX5_lag_72 rfl ?_ rfl
        refine J.bipush (q := 76) dX5_lag_74 (by decide) ?_ rfl
        refine J.icmp_eq (tgt := 86) (q := 79) (hv := by omega) dX5_lag_76 rfl rfl (fun c76 => ?_) (fun c76 => ?_)
        · refine J.aload_n (q := 87) dX5_lag_86 rfl ?_ rfl
          refine J.ldc (q := 89) (z := -1000004) dX5_lag_87 kK_X5_172 ?_ rfl
          refine J.callV1 (ci := 5) (q := 92) dX5_lag_89 mv_X5_tell kL_X5_64 rfl (by decide) rfl ⟨by decide, by decide⟩ (Nat.le_of_ble_eq_true rfl) ⟨by decide, by decide⟩ rfl (c_X5_tell (w := 3) (by decide) hC7 (by decide)) (fun v8 S8 iv8 hp => ?_)
          obtain ⟨rfl, rfl, hf8, hC8⟩ := hp
          refine J.goto (tgt := 100) dX5_lag_92 rfl ?_
          refine J.ireturn dX5_lag_100 rfl ?_
          unfold CP an_lag
          repeat (first | rw [if_pos (by omega)] | rw [if_neg (by omega)])
          first
          | exact ⟨rfl, rfl, hf8, hC8⟩
          | exact ⟨rfl, rfl, fun q hq => (hf8 q hq).trans ((hF7 q (by omega)).trans (hF9 q (by omega))), hC8⟩
          | exact ⟨rfl, rfl, fun q hq => (hF7 q (by omega)).trans (hF9 q (by omega)), hC7⟩
          | (exfalso; omega)
        · refine J.iload (q := 81) dX5_lag_79 rfl ?_ rfl
          refine J.bipush (q := 83) dX5_lag_81 (by decide) ?_ rfl
          refine J.icmp_ne (tgt := 95) (q := 86) (hv := by omega) dX5_lag_83 rfl rfl (fun c83 => ?_) (fun c83 => ?_)
          · refine J.iload (q := 97) dX5_lag_95 rfl ?_ rfl
            refine J.iload (q := 99) dX5_lag_97 rfl ?_ rfl
            refine J.isub (q := 100) dX5_lag_99 ?_ rfl
            refine J.ireturn dX5_lag_100 rfl ?_
            unfold CP an_lag
            repeat (first | rw [if_pos (by omega)] | rw [if_neg (by omega)])
            first
            | exact ⟨rfl, rfl, hf8, hC8⟩
            | exact ⟨rfl, rfl, fun q hq => (hf8 q hq).trans ((hF7 q (by omega)).trans (hF9 q (by omega))), hC8⟩
            | exact ⟨rfl, rfl, fun q hq => (hF7 q (by omega)).trans (hF9 q (by omega)), hC7⟩
            | (exfalso; omega)
          · refine J.aload_n (q := 87) dX5_lag_86 rfl ?_ rfl
            refine J.ldc (q := 89) (z := -1000004) dX5_lag_87 kK_X5_172 ?_ rfl
            refine J.callV1 (ci := 5) (q := 92) dX5_lag_89 mv_X5_tell kL_X5_64 rfl (by decide) rfl ⟨by decide, by decide⟩ (Nat.le_of_ble_eq_true rfl) ⟨by decide, by decide⟩ rfl (c_X5_tell (w := 3) (by decide) hC7 (by decide)) (fun v8 S8 iv8 hp => ?_)
            obtain ⟨rfl, rfl, hf8, hC8⟩ := hp
            refine J.goto (tgt := 100) dX5_lag_92 rfl ?_
            refine J.ireturn dX5_lag_100 rfl ?_
            unfold CP an_lag
            repeat (first | rw [if_pos (by omega)] | rw [if_neg (by omega)])
            first
            | exact ⟨rfl, rfl, hf8, hC8⟩
            | exact ⟨rfl, rfl, fun q hq => (hf8 q hq).trans ((hF7 q (by omega)).trans (hF9 q (by omega))), hC8⟩
            | exact ⟨rfl, rfl, fun q hq => (hF7 q (by omega)).trans (hF9 q (by omega)), hC7⟩
            | (exfalso; omega)
      · refine J.aload_n (q := 22) dX5_lag_21 rfl ?_ rfl
        refine J.ldc (q := 24) (z := -1000001) dX5_lag_22 kK_X5_63 ?_ rfl
        refine J.callV1 (ci := 5) (q := 27) dX5_lag_24 mv_X5_tell kL_X5_64 rfl (by decide) rfl ⟨by decide, by decide⟩ (Nat.le_of_ble_eq_true rfl) ⟨by decide, by decide⟩ rfl (c_X5_tell (w := 0) (by decide) hC (by decide)) (fun v9 S9 iv9 hp => ?_)
        obtain ⟨rfl, rfl, hf8, hC8⟩ := hp
        refine J.ireturn dX5_lag_27 rfl ?_
        unfold CP an_lag
        repeat (first | rw [if_pos (by omega)] | rw [if_neg (by omega)])
        first
        | exact ⟨rfl, rfl, hf8, hC8⟩
        | exact ⟨rfl, rfl, fun q hq => (hf8 q hq).trans ((hF7 q (by omega)).trans (hF9 q (by omega))), hC8⟩
        | exact ⟨rfl, rfl, fun q hq => (hF7 q (by omega)).trans (hF9 q (by omega)), hC7⟩
        | (exfalso; omega)

set_option maxRecDepth 100000 in
set_option maxHeartbeats 4000000 in
theorem daysToGate_loop {l : Launch} {F : Nat × (Int → Int)} {iv : Mm} {s : Int → Int} (hR : RR iv 1 s) (hI : MI 99999 s) {k : Int} (hk : 0 ≤ k ∧ k < s 2) {kd : Int} {R : Nat} {X : P2} (hX : HX s X) (hgt : X.1 (257 + 5 * k + 3) = s (257 + 5 * k + 3)) : ∀ (n : Nat) (i : Nat) (iv1 : Mm), (101 - (i : Int) < n) → (i ≤ 101) → (DL iv iv1 s th1 X i) → (firstD (fun i => decide ((dysM (fdst s) th1 i X).1 (257 + 5 * k + 1) = s (257 + 5 * k + 3))) (101 - i) i = R) → J l (yX0_daysToGate).cls cX0_daysToGate 5 (some FieldType.int) 5 0 0 false F (fun v S iv2 => v = some (i_ (R : Int)) ∧ S = S0 ∧ FT iv iv2) 0 0 26 [some (r_ 25), some (r_ 1), some (i_ k), some (i_ kd), some (i_ (i : Int))] [] S0 (iv1) := by
  intro n
  induction n with
  | zero =>
    intro i iv1 hn hi9 hD hB
    omega
  | succ n ih =>
    intro i iv1 hn hi9 hD hB
    obtain ⟨x1, x2, x3, x4⟩ := hX.at (th := th1) i
    have hmm := hI.many
    have hR26 := hD.2.2.1
    refine J.iload (q := 28) dX0_daysToGate_26 rfl ?_ rfl
    refine J.bipush (q := 30) dX0_daysToGate_28 (by decide) ?_ rfl
    refine J.icmp_ge (tgt := 64) (q := 33) dX0_daysToGate_30 rfl rfl (fun c30 => ?_) (fun c30 => ?_)
    · rw [show 101 - i = 0 by omega, firstD] at hB
      refine J.iload (q := 66) dX0_daysToGate_64 rfl ?_ rfl
      refine J.ireturn dX0_daysToGate_66 rfl ?_
      subst hB
      exact ⟨rfl, rfl, hD.1⟩
    · have hfu : 101 - i = (100 - i) + 1 := by omega
      rw [hfu, firstD] at hB
      refine J.aload_n (q := 34) dX0_daysToGate_33 rfl ?_ rfl
      refine J.getR (ci := 0) (k0 := 0) (c1 := 26) (q := 37) dX0_daysToGate_34 kF_X0_12 rfl (by decide) (by decide) rfl (by decide) rfl ?_ rfl
      refine J.getR (ci := 1) (k0 := 6) (c1 := 33) (q := 40) dX0_daysToGate_37 kF_X0_51 rfl (by decide) (by decide) rfl (by decide) rfl ?_ rfl
      refine J.iload_n (q := 41) dX0_daysToGate_40 rfl ?_ rfl
      refine J.iald (n := 8) (q := 42) dX0_daysToGate_41 rfl (by omega) ?_ rfl
      rw [g26_ats hR26 (by omega) (by omega)]
      have hsn := x1.sna k (by omega) (by omega)
      have hg9 := x4 (257 + 5 * k + 3) (kept_s (by omega) (by omega))
      refine J.aload_n (q := 43) dX0_daysToGate_42 rfl ?_ rfl
      refine J.getR (ci := 0) (k0 := 0) (c1 := 26) (q := 46) dX0_daysToGate_43 kF_X0_12 rfl (by decide) (by decide) rfl (by decide) rfl ?_ rfl
      refine J.getR (ci := 1) (k0 := 8) (c1 := 35) (q := 49) dX0_daysToGate_46 kF_X0_54 rfl (by decide) (by decide) rfl (by decide) rfl ?_ rfl
      refine J.iload_n (q := 50) dX0_daysToGate_49 rfl ?_ rfl
      refine J.iald (n := 8) (q := 51) dX0_daysToGate_50 rfl (by omega) ?_ rfl
      rw [g26_gat hR26 (by omega) (by omega), x4 _ (kept_s (by omega) (by omega)), hgt]
      refine J.icmp_eq (tgt := 64) (q := 54) (hv := by omega) dX0_daysToGate_51 rfl rfl (fun c51 => ?_) (fun c51 => ?_)
      · rw [if_pos (decide_eq_true c51)] at hB
        refine J.iload (q := 66) dX0_daysToGate_64 rfl ?_ rfl
        refine J.ireturn dX0_daysToGate_66 rfl ?_
        subst hB
        exact ⟨rfl, rfl, hD.1⟩
      · rw [if_neg (fun z => c51 (of_decide_eq_true z))] at hB
        refine J.aload_n (q := 55) dX0_daysToGate_54 rfl ?_ rfl
        refine J.callV0 (ci := 0) (q := 58) dX0_daysToGate_55 mv_X0_passDay kL_X0_45 rfl (by decide) rfl ⟨by decide, by decide⟩ (Nat.le_of_ble_eq_true rfl) ⟨by decide, by decide⟩ rfl (c_X0_passDay hX (by omega) hD) (fun v9 S9 iv9 hp => ?_)
        obtain ⟨rfl, rfl, hD9⟩ := hp
        refine J.iinc (q := 61) dX0_daysToGate_58 rfl ?_ rfl
        refine J.goto (tgt := 26) dX0_daysToGate_61 rfl ?_
        exact ih (i + 1) iv9 (by omega) (by omega) hD9 (by rw [show 101 - (i + 1) = 100 - i by omega]; exact hB)

theorem gatD_X {s : Int → Int} {k x : Int} (hk : 0 ≤ k) (Z : Int → Int) : firstD (fun i => decide ((dysM (fdst s) th1 i (upr s (257 + 5 * k + 0) x, Z)).1 (257 + 5 * k + 1) = s (257 + 5 * k + 3))) (101 - 0) 0 = gatD (upr s (257 + 5 * k + 0) x) k 100 := by
  unfold gatD
  congr 1
  funext i
  rw [dys_X (fdst_s hk (Or.inl rfl)) Z i, upr_n _ _ (show (257 + 5 * k + 3 : Int) ≠ 257 + 5 * k + 0 by omega)]
theorem gatD_r (s : Int → Int) (k : Int) (n : Nat) : gatD s k n ≤ n + 1 := by
  have := (firstD_r (fun i => decide (dys s i (257 + 5 * k + 1) = s (257 + 5 * k + 3))) (n + 1) 0).2
  unfold gatD
  omega
set_option maxRecDepth 100000 in
set_option maxHeartbeats 4000000 in
theorem c_X0_daysToGate {l : Launch} {F : Nat × (Int → Int)} {iv : Mm} {s : Int → Int} (hR : RR iv 1 s) (hI : MI 99999 s) {k kd : Int} (hk : 0 ≤ k ∧ k < s 2) (hkd : 0 ≤ kd ∧ kd ≤ 6) : Ctr l F 5 0 0 yX0_daysToGate cX0_daysToGate 5 (some FieldType.int) [r_ 25, r_ 1, i_ k, i_ kd] S0 (iv) (fun v S iv2 => v = some (i_ (gatD (upr s (257 + 5 * k + 0) kd) k 100 : Int)) ∧ S = S0 ∧ FT iv iv2) := by
  refine Ctr.of false (fun h => by cases h) (by decide) rfl (Nat.le_of_ble_eq_true rfl) ?_
  have hmm := hI.many
  refine J.aload_n (q := 1) dX0_daysToGate_0 rfl ?_ rfl
  refine J.getR (ci := 0) (k0 := 0) (c1 := 26) (q := 4) dX0_daysToGate_1 kF_X0_12 rfl (by decide) (by decide) rfl (by decide) rfl ?_ rfl
  refine J.aload_n (q := 5) dX0_daysToGate_4 rfl ?_ rfl
  refine J.callV1 (ci := 1) (q := 8) dX0_daysToGate_5 mv_X1_become kL_X0_25 rfl (by decide) rfl ⟨by decide, by decide⟩ (Nat.le_of_ble_eq_true rfl) ⟨by decide, by decide⟩ rfl (c_become26_1 hR) (fun v9 S9 iv9 hp => ?_)
  obtain ⟨rfl, rfl, b1, hR9⟩ := hp
  have hF9 : FT iv iv9 := fun q hq => b1 q (by omega)
  have hm9 : iv9 30 = iv 30 := b1 30 (by omega)
  refine J.aload_n (q := 9) dX0_daysToGate_8 rfl ?_ rfl
  refine J.getR (ci := 0) (k0 := 0) (c1 := 26) (q := 12) dX0_daysToGate_9 kF_X0_12 rfl (by decide) (by decide) rfl (by decide) rfl ?_ rfl
  refine J.getR (ci := 1) (k0 := 5) (c1 := 32) (q := 15) dX0_daysToGate_12 kF_X0_48 rfl (by decide) (by decide) rfl (by decide) rfl ?_ rfl
  refine J.iload_n (q := 16) dX0_daysToGate_15 rfl ?_ rfl
  refine J.iload_n (q := 17) dX0_daysToGate_16 rfl ?_ rfl
  refine J.iast (n := 8) (q := 18) dX0_daysToGate_17 rfl (by omega) ?_ rfl
  refine J.aload_n (q := 19) dX0_daysToGate_18 rfl ?_ rfl
  refine J.aload_n (q := 20) dX0_daysToGate_19 rfl ?_ rfl
  refine J.callV1 (ci := 0) (q := 23) dX0_daysToGate_20 mv_X0_survey kL_X0_32 rfl (by decide) rfl ⟨by decide, by decide⟩ (Nat.le_of_ble_eq_true rfl) ⟨by decide, by decide⟩ rfl (c_X0_survey (f1 hR (fun q q1 q2 q3 => (up_n _ _ _ (by omega)).trans (hF9 q (by omega)))) hI) (fun v8 S8 iv8 hp => ?_)
  obtain ⟨rfl, rfl, y1, y2⟩ := hp
  refine J.iconst (q := 24) dX0_daysToGate_23 ?_ rfl
  refine J.istore (q := 26) dX0_daysToGate_24 (Nat.le_of_ble_eq_true rfl) ?_ rfl
  exact daysToGate_loop hR hI hk (HX.k hI (by omega) hkd (iv 30)) (upr_n _ _ (by omega)) 102 0 iv8 (by omega) (by omega) ⟨fun q hq => (y1 q (by omega)).trans ((hF9.up (by omega)) q hq), y2, f26 (u26_kin hR9 (by omega) (by omega)) (fun q q1 q2 q3 => y1 q (by omega)), fun j j0 j1 => by rw [y1 30 (by omega), up_n _ _ _ (by decide), hm9]; rfl⟩ (gatD_X hk.1 (iv 30))

set_option maxRecDepth 100000 in
set_option maxHeartbeats 4000000 in
theorem c_X5_comes {l : Launch} {F : Nat × (Int → Int)} {iv A : Mm} (hC : CR iv A) (hA : AI A) {k : Int} (hk : -2147483648 ≤ k ∧ k < 2147483648) : Ctr l F 7 0 0 yX5_comes cX5_comes 3 (some FieldType.int) [r_ 0, i_ k] S0 (iv) (CP iv (an_comes A k)) := by
  refine Ctr.of false (fun h => by cases h) (by decide) rfl (Nat.le_of_ble_eq_true rfl) ?_
  have hI := hA.mi
  have hmm := hI.many
  have hkp := hA.kp
  have htp := hA.tp
  refine J.aload_n (q := 1) dX5_comes_0 rfl ?_ rfl
  refine J.iload_n (q := 2) dX5_comes_1 rfl ?_ rfl
  refine J.callV1i (ci := 5) (q := 5) dX5_comes_2 mv_X5_isSnail kL_X5_93 rfl (by decide) rfl ⟨by decide, by decide⟩ (Nat.le_of_ble_eq_true rfl) ⟨by decide, by decide⟩ rfl (c_X5_isSnail (by omega) (g1_many hC.r) (by omega)) ?_
  refine J.ifb_ne (tgt := 15) (q := 8) dX5_comes_5 rfl rfl (fun c5 => ?_) (fun c5 => ?_)
  · refine J.aload_n (q := 16) dX5_comes_15 rfl ?_ rfl
    refine J.getR (ci := 5) (k0 := 2) (c1 := 25) (q := 19) dX5_comes_16 kF_X5_22 rfl (by decide) (by decide) rfl (by decide) rfl ?_ rfl
    refine J.aload_n (q := 20) dX5_comes_19 rfl ?_ rfl
    refine J.getR (ci := 5) (k0 := 0) (c1 := 1) (q := 23) dX5_comes_20 kF_X5_12 rfl (by decide) (by decide) rfl (by decide) rfl ?_ rfl
    refine J.iload_n (q := 24) dX5_comes_23 rfl ?_ rfl
    refine J.aload_n (q := 25) dX5_comes_24 rfl ?_ rfl
    refine J.getR (ci := 5) (k0 := 0) (c1 := 1) (q := 28) dX5_comes_25 kF_X5_12 rfl (by decide) (by decide) rfl (by decide) rfl ?_ rfl
    refine J.getR (ci := 1) (k0 := 5) (c1 := 7) (q := 31) dX5_comes_28 kF_X5_184 rfl (by decide) (by decide) rfl (by decide) rfl ?_ rfl
    refine J.iload_n (q := 32) dX5_comes_31 rfl ?_ rfl
    refine J.iald (n := 8) (q := 33) dX5_comes_32 rfl (by omega) ?_ rfl
    rw [g1_kin hC.r (by omega) (by omega)]
    have hsn := hI.sna k (by omega) (by omega)
    refine J.callV3 (ci := 0) (q := 36) dX5_comes_33 mv_X0_daysToGate kL_X5_187 rfl (by decide) rfl ⟨by decide, by decide⟩ (Nat.le_of_ble_eq_true rfl) ⟨by decide, by decide⟩ rfl (c_X0_daysToGate hC.r hI (by omega) (by omega)) (fun v9 S9 iv9 hp => ?_)
    obtain ⟨rfl, rfl, hF9⟩ := hp
    have hC9 := hC.ft hF9
    rw [upr_self]
    have hgr := gatD_r (A 62) k 100
    refine J.istore_n (q := 37) dX5_comes_36 (Nat.le_of_ble_eq_true rfl) ?_ rfl
    refine J.iload_n (q := 38) dX5_comes_37 rfl ?_ rfl
    refine J.bipush (q := 40) dX5_comes_38 (by decide) ?_ rfl
    refine J.icmp_ne (tgt := 52) (q := 43) (hv := by omega) dX5_comes_40 rfl rfl (fun c40 => ?_) (fun c40 => ?_)
    · refine J.iload_n (q := 53) dX5_comes_52 rfl ?_ rfl
      refine J.ireturn dX5_comes_53 rfl ?_
      unfold CP an_comes
      repeat (first | rw [if_pos (by omega)] | rw [if_neg (by omega)])
      first
      | exact ⟨rfl, rfl, hf8, hC8⟩
      | exact ⟨rfl, rfl, fun q hq => (hf8 q hq).trans (hF9 q (by omega)), hC8⟩
      | exact ⟨rfl, rfl, fun q hq => hF9 q (by omega), hC9⟩
      | (exfalso; omega)
    · refine J.aload_n (q := 44) dX5_comes_43 rfl ?_ rfl
      refine J.ldc (q := 46) (z := -1000004) dX5_comes_44 kK_X5_172 ?_ rfl
      refine J.callV1 (ci := 5) (q := 49) dX5_comes_46 mv_X5_tell kL_X5_64 rfl (by decide) rfl ⟨by decide, by decide⟩ (Nat.le_of_ble_eq_true rfl) ⟨by decide, by decide⟩ rfl (c_X5_tell (w := 3) (by decide) hC9 (by decide)) (fun v8 S8 iv8 hp => ?_)
      obtain ⟨rfl, rfl, hf8, hC8⟩ := hp
      refine J.goto (tgt := 53) dX5_comes_49 rfl ?_
      refine J.ireturn dX5_comes_53 rfl ?_
      unfold CP an_comes
      repeat (first | rw [if_pos (by omega)] | rw [if_neg (by omega)])
      first
      | exact ⟨rfl, rfl, hf8, hC8⟩
      | exact ⟨rfl, rfl, fun q hq => (hf8 q hq).trans (hF9 q (by omega)), hC8⟩
      | exact ⟨rfl, rfl, fun q hq => hF9 q (by omega), hC9⟩
      | (exfalso; omega)
  · refine J.aload_n (q := 9) dX5_comes_8 rfl ?_ rfl
    refine J.ldc (q := 11) (z := -1000001) dX5_comes_9 kK_X5_63 ?_ rfl
    refine J.callV1 (ci := 5) (q := 14) dX5_comes_11 mv_X5_tell kL_X5_64 rfl (by decide) rfl ⟨by decide, by decide⟩ (Nat.le_of_ble_eq_true rfl) ⟨by decide, by decide⟩ rfl (c_X5_tell (w := 0) (by decide) hC (by decide)) (fun v9 S9 iv9 hp => ?_)
    obtain ⟨rfl, rfl, hf8, hC8⟩ := hp
    refine J.ireturn dX5_comes_14 rfl ?_
    unfold CP an_comes
    repeat (first | rw [if_pos (by omega)] | rw [if_neg (by omega)])
    first
    | exact ⟨rfl, rfl, hf8, hC8⟩
    | exact ⟨rfl, rfl, fun q hq => (hf8 q hq).trans (hF9 q (by omega)), hC8⟩
    | exact ⟨rfl, rfl, fun q hq => hF9 q (by omega), hC9⟩
    | (exfalso; omega)

set_option maxRecDepth 100000 in
set_option maxHeartbeats 4000000 in
theorem kindFor5_loop {l : Launch} {F : Nat × (Int → Int)} {iv A : Mm} (hC : CR iv A) (hA : AI A) {k : Int} (hk : 0 ≤ k ∧ k < A 62 2) : ∀ (n : Nat) (j : Nat) (bst : Int) (few : Int) (iv1 : Mm) (y5 : Option VT), (7 - (j : Int) < n) → ((j : Int) ≤ 7) → (FT iv iv1) → (Bst (fun x => gatD (upr (A 62) (257 + 5 * k + 0) x) k 100) j bst few) → J l (yX5_kindFor).cls cX5_kindFor 6 (some FieldType.int) 7 0 0 false F (CP iv (an_kindFor A k)) 0 0 24 [some (r_ 0), some (i_ k), some (i_ bst), some (i_ few), some (i_ (j : Int)), y5] [] S0 (iv1) := by
  intro n
  induction n with
  | zero =>
    intro j bst few iv1 y5 hn hj hF hB
    omega
  | succ n ih =>
    intro j bst few iv1 y5 hn hj hF hB
    have hI := hA.mi
    have hmm := hI.many
    have hkp := hA.kp
    have htp := hA.tp
    have hC1 := hC.ft hF
    have hrd := gatD_r (upr (A 62) (257 + 5 * k + 0) j) k 100
    have hbl := bestN_lt (fun x => gatD (upr (A 62) (257 + 5 * k + 0) x) k 100) j
    have hB2 := hB
    unfold Bst at hB2
    refine J.iload (q := 26) dX5_kindFor_24 rfl ?_ rfl
    refine J.bipush (q := 28) dX5_kindFor_26 (by decide) ?_ rfl
    refine J.icmp_ge (tgt := 65) (q := 31) dX5_kindFor_28 rfl rfl (fun c28 => ?_) (fun c28 => ?_)
    · refine J.iload_n (q := 66) dX5_kindFor_65 rfl ?_ rfl
      refine J.ldc (q := 68) (z := -1000004) dX5_kindFor_66 kK_X5_172 ?_ rfl
      refine J.icmp_ne (tgt := 80) (q := 71) (hv := by omega) dX5_kindFor_68 rfl rfl (fun c68 => ?_) (fun c68 => ?_)
      · refine J.iload_n (q := 81) dX5_kindFor_80 rfl ?_ rfl
        refine J.ireturn dX5_kindFor_81 rfl ?_
        have hj10 : j = 7 := by omega
        subst hj10
        unfold CP an_kindFor
        rw [if_pos (by omega)]
        first
        | (rw [if_pos (by omega)]; exact ⟨rfl, rfl, fun q hq => (hf8 q hq).trans (hF q (by omega)), hC8⟩)
        | (rw [if_neg (by omega)]; exact ⟨congrArg (fun q => some (i_ q)) (by omega), rfl, fun q hq => hF q (by omega), hC1⟩)
        | (exfalso; omega)
      · refine J.aload_n (q := 72) dX5_kindFor_71 rfl ?_ rfl
        refine J.ldc (q := 74) (z := -1000004) dX5_kindFor_72 kK_X5_172 ?_ rfl
        refine J.callV1 (ci := 5) (q := 77) dX5_kindFor_74 mv_X5_tell kL_X5_64 rfl (by decide) rfl ⟨by decide, by decide⟩ (Nat.le_of_ble_eq_true rfl) ⟨by decide, by decide⟩ rfl (c_X5_tell (w := 3) (by decide) hC1 (by decide)) (fun v8 S8 iv8 hp => ?_)
        obtain ⟨rfl, rfl, hf8, hC8⟩ := hp
        refine J.goto (tgt := 81) dX5_kindFor_77 rfl ?_
        refine J.ireturn dX5_kindFor_81 rfl ?_
        have hj10 : j = 7 := by omega
        subst hj10
        unfold CP an_kindFor
        rw [if_pos (by omega)]
        first
        | (rw [if_pos (by omega)]; exact ⟨rfl, rfl, fun q hq => (hf8 q hq).trans (hF q (by omega)), hC8⟩)
        | (rw [if_neg (by omega)]; exact ⟨congrArg (fun q => some (i_ q)) (by omega), rfl, fun q hq => hF q (by omega), hC1⟩)
        | (exfalso; omega)
    · refine J.aload_n (q := 32) dX5_kindFor_31 rfl ?_ rfl
      refine J.getR (ci := 5) (k0 := 2) (c1 := 25) (q := 35) dX5_kindFor_32 kF_X5_22 rfl (by decide) (by decide) rfl (by decide) rfl ?_ rfl
      refine J.aload_n (q := 36) dX5_kindFor_35 rfl ?_ rfl
      refine J.getR (ci := 5) (k0 := 0) (c1 := 1) (q := 39) dX5_kindFor_36 kF_X5_12 rfl (by decide) (by decide) rfl (by decide) rfl ?_ rfl
      refine J.iload_n (q := 40) dX5_kindFor_39 rfl ?_ rfl
      refine J.iload (q := 42) dX5_kindFor_40 rfl ?_ rfl
      refine J.callV3 (ci := 0) (q := 45) dX5_kindFor_42 mv_X0_daysToGate kL_X5_187 rfl (by decide) rfl ⟨by decide, by decide⟩ (Nat.le_of_ble_eq_true rfl) ⟨by decide, by decide⟩ rfl (c_X0_daysToGate hC1.r hI (k := k) (kd := (j : Int)) (by omega) (by omega)) (fun v9 S9 iv9 hp => ?_)
      obtain ⟨rfl, rfl, hF9⟩ := hp
      refine J.istore (q := 47) dX5_kindFor_45 (Nat.le_of_ble_eq_true rfl) ?_ rfl
      refine J.iload (q := 49) dX5_kindFor_47 rfl ?_ rfl
      refine J.iload_n (q := 50) dX5_kindFor_49 rfl ?_ rfl
      refine J.icmp_ge (tgt := 59) (q := 53) (hv := by omega) dX5_kindFor_50 rfl rfl (fun c50 => ?_) (fun c50 => ?_)
      · have hB3 : Bst (fun x => gatD (upr (A 62) (257 + 5 * k + 0) x) k 100) (j + 1) bst few := hB.no c50
        refine J.iinc (q := 62) dX5_kindFor_59 rfl ?_ rfl
        refine J.goto (tgt := 24) dX5_kindFor_62 rfl ?_
        exact ih (j + 1) _ _ iv9 _ (by omega) (by omega) (hF.tr hF9) hB3
      · have hB3 := hB.yes (f := (fun x => gatD (upr (A 62) (257 + 5 * k + 0) x) k 100)) c50
        refine J.iload (q := 55) dX5_kindFor_53 rfl ?_ rfl
        refine J.istore_n (q := 56) dX5_kindFor_55 (Nat.le_of_ble_eq_true rfl) ?_ rfl
        refine J.iload (q := 58) dX5_kindFor_56 rfl ?_ rfl
        refine J.istore_n (q := 59) dX5_kindFor_58 (Nat.le_of_ble_eq_true rfl) ?_ rfl
        refine J.iinc (q := 62) dX5_kindFor_59 rfl ?_ rfl
        refine J.goto (tgt := 24) dX5_kindFor_62 rfl ?_
        exact ih (j + 1) _ _ iv9 _ (by omega) (by omega) (hF.tr hF9) hB3

set_option maxRecDepth 100000 in
set_option maxHeartbeats 4000000 in
theorem c_X5_kindFor {l : Launch} {F : Nat × (Int → Int)} {iv A : Mm} (hC : CR iv A) (hA : AI A) {k : Int} (hk : -2147483648 ≤ k ∧ k < 2147483648) : Ctr l F 7 0 0 yX5_kindFor cX5_kindFor 6 (some FieldType.int) [r_ 0, i_ k] S0 (iv) (CP iv (an_kindFor A k)) := by
  refine Ctr.of false (fun h => by cases h) (by decide) rfl (Nat.le_of_ble_eq_true rfl) ?_
  have hI := hA.mi
  have hmm := hI.many
  have hkp := hA.kp
  have htp := hA.tp
  refine J.aload_n (q := 1) dX5_kindFor_0 rfl ?_ rfl
  refine J.iload_n (q := 2) dX5_kindFor_1 rfl ?_ rfl
  refine J.callV1i (ci := 5) (q := 5) dX5_kindFor_2 mv_X5_isSnail kL_X5_93 rfl (by decide) rfl ⟨by decide, by decide⟩ (Nat.le_of_ble_eq_true rfl) ⟨by decide, by decide⟩ rfl (c_X5_isSnail (by omega) (g1_many hC.r) (by omega)) ?_
  refine J.ifb_ne (tgt := 15) (q := 8) dX5_kindFor_5 rfl rfl (fun c5 => ?_) (fun c5 => ?_)
  · refine J.ldc (q := 17) (z := -1000004) dX5_kindFor_15 kK_X5_172 ?_ rfl
    refine J.istore_n (q := 18) dX5_kindFor_17 (Nat.le_of_ble_eq_true rfl) ?_ rfl
    refine J.bipush (q := 20) dX5_kindFor_18 (by decide) ?_ rfl
    refine J.istore_n (q := 21) dX5_kindFor_20 (Nat.le_of_ble_eq_true rfl) ?_ rfl
    refine J.iconst (q := 22) dX5_kindFor_21 ?_ rfl
    refine J.istore (q := 24) dX5_kindFor_22 (Nat.le_of_ble_eq_true rfl) ?_ rfl
    exact kindFor5_loop hC hA (by omega) 8 0 _ _ iv none (by omega) (by omega) FT.rf Bst.z
  · refine J.aload_n (q := 9) dX5_kindFor_8 rfl ?_ rfl
    refine J.ldc (q := 11) (z := -1000001) dX5_kindFor_9 kK_X5_63 ?_ rfl
    refine J.callV1 (ci := 5) (q := 14) dX5_kindFor_11 mv_X5_tell kL_X5_64 rfl (by decide) rfl ⟨by decide, by decide⟩ (Nat.le_of_ble_eq_true rfl) ⟨by decide, by decide⟩ rfl (c_X5_tell (w := 0) (by decide) hC (by decide)) (fun v9 S9 iv9 hp => ?_)
    obtain ⟨rfl, rfl, hf8, hC8⟩ := hp
    refine J.ireturn dX5_kindFor_14 rfl ?_
    unfold CP an_kindFor
    repeat (first | rw [if_pos (by omega)] | rw [if_neg (by omega)])
    first
    | exact ⟨rfl, rfl, hf8, hC8⟩
    | (exfalso; omega)

set_option maxRecDepth 100000 in
set_option maxHeartbeats 4000000 in
theorem c_X0_isNearer {l : Launch} {F : Nat × (Int → Int)} {iv0 iv : Mm} {s : Int → Int} {X : P2} {i : Nat} (hI : MI 99999 s) (hX : HX s X) (hD : DL iv0 iv s th1 X i) (hi9 : (i : Int) ≤ 101) {x y : Int} (hx : 0 ≤ x ∧ x < s 2) (hy : 0 ≤ y ∧ y < s 2) : Ctr l F 1 0 0 yX0_isNearer cX0_isNearer 3 (some FieldType.boolean) [r_ 25, i_ x, i_ y] S0 (iv) (Ret (some (i_ (b2 (fdst s y ((dysM (fdst s) th1 i X).1 (257 + 5 * x + 1)) < fdst s y ((dysM (fdst s) th1 i X).1 (257 + 5 * y + 1)))))) S0 iv) := by
  refine Ctr.of false (fun h => by cases h) (by decide) rfl (Nat.le_of_ble_eq_true rfl) ?_
  obtain ⟨x1, x2, x3, x4⟩ := hX.at (th := th1) i
  have hmm := hI.many
  have hR26 := hD.2.2.1
  have hs1 := (x1.sna x (by omega) (by omega)).2.1
  have hs2 := (x1.sna y (by omega) (by omega)).2.1
  have hf1 := fdst_rng hI (k := y) (by omega) ((dysM (fdst s) th1 i X).1 (257 + 5 * x + 1))
  have hf2 := fdst_rng hI (k := y) (by omega) ((dysM (fdst s) th1 i X).1 (257 + 5 * y + 1))
  refine J.aload_n (q := 1) dX0_isNearer_0 rfl ?_ rfl
  refine J.getR (ci := 0) (k0 := 1) (c1 := 38) (q := 4) dX0_isNearer_1 kF_X0_21 rfl (by decide) (by decide) rfl (by decide) rfl ?_ rfl
  refine J.iload_n (q := 5) dX0_isNearer_4 rfl ?_ rfl
  refine J.aload_n (q := 6) dX0_isNearer_5 rfl ?_ rfl
  refine J.getR (ci := 0) (k0 := 0) (c1 := 26) (q := 9) dX0_isNearer_6 kF_X0_12 rfl (by decide) (by decide) rfl (by decide) rfl ?_ rfl
  refine J.getR (ci := 1) (k0 := 6) (c1 := 33) (q := 12) dX0_isNearer_9 kF_X0_51 rfl (by decide) (by decide) rfl (by decide) rfl ?_ rfl
  refine J.iload_n (q := 13) dX0_isNearer_12 rfl ?_ rfl
  refine J.iald (n := 8) (q := 14) dX0_isNearer_13 rfl (by omega) ?_ rfl
  rw [g26_ats hR26 (by omega) (by omega)]
  refine J.callV2i (ci := 4) (q := 17) dX0_isNearer_14 mv_X4_gateStepsOf kL_X0_61 rfl (by decide) rfl ⟨by decide, by decide⟩ (Nat.le_of_ble_eq_true rfl) ⟨by decide, by decide⟩ rfl (c_gateStepsOf38 hD.2.1 (by omega) (by omega) (by omega)) ?_
  refine J.aload_n (q := 18) dX0_isNearer_17 rfl ?_ rfl
  refine J.getR (ci := 0) (k0 := 1) (c1 := 38) (q := 21) dX0_isNearer_18 kF_X0_21 rfl (by decide) (by decide) rfl (by decide) rfl ?_ rfl
  refine J.iload_n (q := 22) dX0_isNearer_21 rfl ?_ rfl
  refine J.aload_n (q := 23) dX0_isNearer_22 rfl ?_ rfl
  refine J.getR (ci := 0) (k0 := 0) (c1 := 26) (q := 26) dX0_isNearer_23 kF_X0_12 rfl (by decide) (by decide) rfl (by decide) rfl ?_ rfl
  refine J.getR (ci := 1) (k0 := 6) (c1 := 33) (q := 29) dX0_isNearer_26 kF_X0_51 rfl (by decide) (by decide) rfl (by decide) rfl ?_ rfl
  refine J.iload_n (q := 30) dX0_isNearer_29 rfl ?_ rfl
  refine J.iald (n := 8) (q := 31) dX0_isNearer_30 rfl (by omega) ?_ rfl
  rw [g26_ats hR26 (by omega) (by omega)]
  refine J.callV2i (ci := 4) (q := 34) dX0_isNearer_31 mv_X4_gateStepsOf kL_X0_61 rfl (by decide) rfl ⟨by decide, by decide⟩ (Nat.le_of_ble_eq_true rfl) ⟨by decide, by decide⟩ rfl (c_gateStepsOf38 hD.2.1 (by omega) (by omega) (by omega)) ?_
  refine J.icmp_ge (tgt := 41) (q := 37) (hv := by omega) dX0_isNearer_34 rfl rfl (fun c34 => ?_) (fun c34 => ?_)
  · refine J.iconst (q := 42) dX0_isNearer_41 ?_ rfl
    refine J.zreturn dX0_isNearer_42 rfl (by omega) ?_
    first
    | (rw [b2_t (by omega)]; exact ⟨rfl, rfl, rfl⟩)
    | (rw [b2_f (by omega)]; exact ⟨rfl, rfl, rfl⟩)
  · refine J.iconst (q := 38) dX0_isNearer_37 ?_ rfl
    refine J.goto (tgt := 42) dX0_isNearer_38 rfl ?_
    refine J.zreturn dX0_isNearer_42 rfl (by omega) ?_
    first
    | (rw [b2_t (by omega)]; exact ⟨rfl, rfl, rfl⟩)
    | (rw [b2_f (by omega)]; exact ⟨rfl, rfl, rfl⟩)

set_option maxRecDepth 100000 in
set_option maxHeartbeats 4000000 in
theorem daysToOvertake_loop {l : Launch} {F : Nat × (Int → Int)} {iv : Mm} {s : Int → Int} (hR : RR iv 1 s) (hI : MI 99999 s) {x y : Int} (hx : 0 ≤ x ∧ x < s 2) (hy : 0 ≤ y ∧ y < s 2) {R : Nat} {X : P2} (hX : HX s X) : ∀ (n : Nat) (i : Nat) (iv1 : Mm), (101 - (i : Int) < n) → (i ≤ 101) → (DL iv iv1 s th1 X i) → (firstD (fun i => decide (fdst s y ((dysM (fdst s) th1 i X).1 (257 + 5 * x + 1)) < fdst s y ((dysM (fdst s) th1 i X).1 (257 + 5 * y + 1)))) (101 - i) i = R) → J l (yX0_daysToOvertake).cls cX0_daysToOvertake 5 (some FieldType.int) 5 0 0 false F (fun v S iv2 => v = some (i_ (R : Int)) ∧ S = S0 ∧ FT iv iv2) 0 0 16 [some (r_ 25), some (r_ 1), some (i_ x), some (i_ y), some (i_ (i : Int))] [] S0 (iv1) := by
  intro n
  induction n with
  | zero =>
    intro i iv1 hn hi9 hD hB
    omega
  | succ n ih =>
    intro i iv1 hn hi9 hD hB
    obtain ⟨x1, x2, x3, x4⟩ := hX.at (th := th1) i
    have hmm := hI.many
    have hR26 := hD.2.2.1
    refine J.iload (q := 18) dX0_daysToOvertake_16 rfl ?_ rfl
    refine J.bipush (q := 20) dX0_daysToOvertake_18 (by decide) ?_ rfl
    refine J.icmp_ge (tgt := 42) (q := 23) dX0_daysToOvertake_20 rfl rfl (fun c20 => ?_) (fun c20 => ?_)
    · rw [show 101 - i = 0 by omega, firstD] at hB
      refine J.iload (q := 44) dX0_daysToOvertake_42 rfl ?_ rfl
      refine J.ireturn dX0_daysToOvertake_44 rfl ?_
      subst hB
      exact ⟨rfl, rfl, hD.1⟩
    · have hfu : 101 - i = (100 - i) + 1 := by omega
      rw [hfu, firstD] at hB
      refine J.aload_n (q := 24) dX0_daysToOvertake_23 rfl ?_ rfl
      refine J.iload_n (q := 25) dX0_daysToOvertake_24 rfl ?_ rfl
      refine J.iload_n (q := 26) dX0_daysToOvertake_25 rfl ?_ rfl
      refine J.callV2i (ci := 0) (q := 29) dX0_daysToOvertake_26 mv_X0_isNearer kL_X0_57 rfl (by decide) rfl ⟨by decide, by decide⟩ (Nat.le_of_ble_eq_true rfl) ⟨by decide, by decide⟩ rfl (c_X0_isNearer hI hX hD (by omega) hx hy) ?_
      refine J.ifb_ne (tgt := 42) (q := 32) dX0_daysToOvertake_29 rfl rfl (fun c29 => ?_) (fun c29 => ?_)
      · rw [if_pos (decide_eq_true c29)] at hB
        refine J.iload (q := 44) dX0_daysToOvertake_42 rfl ?_ rfl
        refine J.ireturn dX0_daysToOvertake_44 rfl ?_
        subst hB
        exact ⟨rfl, rfl, hD.1⟩
      · rw [if_neg (fun z => c29 (of_decide_eq_true z))] at hB
        refine J.aload_n (q := 33) dX0_daysToOvertake_32 rfl ?_ rfl
        refine J.callV0 (ci := 0) (q := 36) dX0_daysToOvertake_33 mv_X0_passDay kL_X0_45 rfl (by decide) rfl ⟨by decide, by decide⟩ (Nat.le_of_ble_eq_true rfl) ⟨by decide, by decide⟩ rfl (c_X0_passDay hX (by omega) hD) (fun v9 S9 iv9 hp => ?_)
        obtain ⟨rfl, rfl, hD9⟩ := hp
        refine J.iinc (q := 39) dX0_daysToOvertake_36 rfl ?_ rfl
        refine J.goto (tgt := 16) dX0_daysToOvertake_39 rfl ?_
        exact ih (i + 1) iv9 (by omega) (by omega) hD9 (by rw [show 101 - (i + 1) = 100 - i by omega]; exact hB)

theorem ovtD_X {s : Int → Int} {x y : Int} (Z : Int → Int) : firstD (fun i => decide (fdst s y ((dysM (fdst s) th1 i (s, Z)).1 (257 + 5 * x + 1)) < fdst s y ((dysM (fdst s) th1 i (s, Z)).1 (257 + 5 * y + 1)))) (101 - 0) 0 = ovtD s x y := by
  unfold ovtD
  congr 1
  funext i
  rw [dys_X rfl Z i]
theorem ovtD_r (s : Int → Int) (x y : Int) : ovtD s x y ≤ 101 := (firstD_r _ 101 0).2
set_option maxRecDepth 100000 in
set_option maxHeartbeats 4000000 in
theorem c_X0_daysToOvertake {l : Launch} {F : Nat × (Int → Int)} {iv : Mm} {s : Int → Int} (hR : RR iv 1 s) (hI : MI 99999 s) {x y : Int} (hx : 0 ≤ x ∧ x < s 2) (hy : 0 ≤ y ∧ y < s 2) : Ctr l F 5 0 0 yX0_daysToOvertake cX0_daysToOvertake 5 (some FieldType.int) [r_ 25, r_ 1, i_ x, i_ y] S0 (iv) (fun v S iv2 => v = some (i_ (ovtD s x y : Int)) ∧ S = S0 ∧ FT iv iv2) := by
  refine Ctr.of false (fun h => by cases h) (by decide) rfl (Nat.le_of_ble_eq_true rfl) ?_
  refine J.aload_n (q := 1) dX0_daysToOvertake_0 rfl ?_ rfl
  refine J.getR (ci := 0) (k0 := 0) (c1 := 26) (q := 4) dX0_daysToOvertake_1 kF_X0_12 rfl (by decide) (by decide) rfl (by decide) rfl ?_ rfl
  refine J.aload_n (q := 5) dX0_daysToOvertake_4 rfl ?_ rfl
  refine J.callV1 (ci := 1) (q := 8) dX0_daysToOvertake_5 mv_X1_become kL_X0_25 rfl (by decide) rfl ⟨by decide, by decide⟩ (Nat.le_of_ble_eq_true rfl) ⟨by decide, by decide⟩ rfl (c_become26_1 hR) (fun v9 S9 iv9 hp => ?_)
  obtain ⟨rfl, rfl, b1, hR9⟩ := hp
  have hF9 : FT iv iv9 := fun q hq => b1 q (by omega)
  have hm9 : iv9 30 = iv 30 := b1 30 (by omega)
  refine J.aload_n (q := 9) dX0_daysToOvertake_8 rfl ?_ rfl
  refine J.aload_n (q := 10) dX0_daysToOvertake_9 rfl ?_ rfl
  refine J.callV1 (ci := 0) (q := 13) dX0_daysToOvertake_10 mv_X0_survey kL_X0_32 rfl (by decide) rfl ⟨by decide, by decide⟩ (Nat.le_of_ble_eq_true rfl) ⟨by decide, by decide⟩ rfl (c_X0_survey (hF9.rr hR) hI) (fun v8 S8 iv8 hp => ?_)
  obtain ⟨rfl, rfl, y1, y2⟩ := hp
  refine J.iconst (q := 14) dX0_daysToOvertake_13 ?_ rfl
  refine J.istore (q := 16) dX0_daysToOvertake_14 (Nat.le_of_ble_eq_true rfl) ?_ rfl
  exact daysToOvertake_loop hR hI hx hy (HX.s hI (iv 30)) 102 0 iv8 (by omega) (by omega) ⟨fun q hq => (y1 q (by omega)).trans (hF9 q hq), y2, f26 hR9 (fun q q1 q2 q3 => y1 q (by omega)), fun j j0 j1 => by rw [y1 30 (by omega), hm9]; rfl⟩ (ovtD_X (iv 30))

set_option maxRecDepth 100000 in
set_option maxHeartbeats 4000000 in
theorem c_X5_overtakes {l : Launch} {F : Nat × (Int → Int)} {iv A : Mm} (hC : CR iv A) (hA : AI A) {x y : Int} (hx : -2147483648 ≤ x ∧ x < 2147483648) (hy : -2147483648 ≤ y ∧ y < 2147483648) : Ctr l F 7 0 0 yX5_overtakes cX5_overtakes 4 (some FieldType.int) [r_ 0, i_ x, i_ y] S0 (iv) (CP iv (an_overtakes A x y)) := by
  refine Ctr.of false (fun h => by cases h) (by decide) rfl (Nat.le_of_ble_eq_true rfl) ?_
  have hI := hA.mi
  have hmm := hI.many
  have hkp := hA.kp
  have htp := hA.tp
  refine J.aload_n (q := 1) dX5_overtakes_0 rfl ?_ rfl
  refine J.iload_n (q := 2) dX5_overtakes_1 rfl ?_ rfl
  refine J.callV1i (ci := 5) (q := 5) dX5_overtakes_2 mv_X5_isSnail kL_X5_93 rfl (by decide) rfl ⟨by decide, by decide⟩ (Nat.le_of_ble_eq_true rfl) ⟨by decide, by decide⟩ rfl (c_X5_isSnail (by omega) (g1_many hC.r) (by omega)) ?_
  refine J.ifb_eq (tgt := 21) (q := 8) dX5_overtakes_5 rfl rfl (fun c5 => ?_) (fun c5 => ?_)
  · refine J.aload_n (q := 22) dX5_overtakes_21 rfl ?_ rfl
    refine J.ldc (q := 24) (z := -1000001) dX5_overtakes_22 kK_X5_63 ?_ rfl
    refine J.callV1 (ci := 5) (q := 27) dX5_overtakes_24 mv_X5_tell kL_X5_64 rfl (by decide) rfl ⟨by decide, by decide⟩ (Nat.le_of_ble_eq_true rfl) ⟨by decide, by decide⟩ rfl (c_X5_tell (w := 0) (by decide) hC (by decide)) (fun v9 S9 iv9 hp => ?_)
    obtain ⟨rfl, rfl, hf8, hC8⟩ := hp
    refine J.ireturn dX5_overtakes_27 rfl ?_
    unfold CP an_overtakes
    repeat (first | rw [if_pos (by omega)] | rw [if_neg (by omega)])
    first
    | exact ⟨rfl, rfl, hf8, hC8⟩
    | exact ⟨rfl, rfl, fun q hq => (hf8 q hq).trans (hF9 q (by omega)), hC8⟩
    | exact ⟨rfl, rfl, fun q hq => hF9 q (by omega), hC9⟩
    | (exfalso; omega)
  · refine J.aload_n (q := 9) dX5_overtakes_8 rfl ?_ rfl
    refine J.iload_n (q := 10) dX5_overtakes_9 rfl ?_ rfl
    refine J.callV1i (ci := 5) (q := 13) dX5_overtakes_10 mv_X5_isSnail kL_X5_93 rfl (by decide) rfl ⟨by decide, by decide⟩ (Nat.le_of_ble_eq_true rfl) ⟨by decide, by decide⟩ rfl (c_X5_isSnail (by omega) (g1_many hC.r) (by omega)) ?_
    refine J.ifb_eq (tgt := 21) (q := 16) dX5_overtakes_13 rfl rfl (fun c13 => ?_) (fun c13 => ?_)
    · refine J.aload_n (q := 22) dX5_overtakes_21 rfl ?_ rfl
      refine J.ldc (q := 24) (z := -1000001) dX5_overtakes_22 kK_X5_63 ?_ rfl
      refine J.callV1 (ci := 5) (q := 27) dX5_overtakes_24 mv_X5_tell kL_X5_64 rfl (by decide) rfl ⟨by decide, by decide⟩ (Nat.le_of_ble_eq_true rfl) ⟨by decide, by decide⟩ rfl (c_X5_tell (w := 0) (by decide) hC (by decide)) (fun v9 S9 iv9 hp => ?_)
      obtain ⟨rfl, rfl, hf8, hC8⟩ := hp
      refine J.ireturn dX5_overtakes_27 rfl ?_
      unfold CP an_overtakes
      repeat (first | rw [if_pos (by omega)] | rw [if_neg (by omega)])
      first
      | exact ⟨rfl, rfl, hf8, hC8⟩
      | exact ⟨rfl, rfl, fun q hq => (hf8 q hq).trans (hF9 q (by omega)), hC8⟩
      | exact ⟨rfl, rfl, fun q hq => hF9 q (by omega), hC9⟩
      | (exfalso; omega)
    · refine J.iload_n (q := 17) dX5_overtakes_16 rfl ?_ rfl
      refine J.iload_n (q := 18) dX5_overtakes_17 rfl ?_ rfl
      refine J.icmp_ne (tgt := 28) (q := 21) (hv := by omega) dX5_overtakes_18 rfl rfl (fun c18 => ?_) (fun c18 => ?_)
      · refine J.aload_n (q := 29) dX5_overtakes_28 rfl ?_ rfl
        refine J.getR (ci := 5) (k0 := 2) (c1 := 25) (q := 32) dX5_overtakes_29 kF_X5_22 rfl (by decide) (by decide) rfl (by decide) rfl ?_ rfl
        refine J.aload_n (q := 33) dX5_overtakes_32 rfl ?_ rfl
        refine J.getR (ci := 5) (k0 := 0) (c1 := 1) (q := 36) dX5_overtakes_33 kF_X5_12 rfl (by decide) (by decide) rfl (by decide) rfl ?_ rfl
        refine J.iload_n (q := 37) dX5_overtakes_36 rfl ?_ rfl
        refine J.iload_n (q := 38) dX5_overtakes_37 rfl ?_ rfl
        refine J.callV3 (ci := 0) (q := 41) dX5_overtakes_38 mv_X0_daysToOvertake kL_X5_191 rfl (by decide) rfl ⟨by decide, by decide⟩ (Nat.le_of_ble_eq_true rfl) ⟨by decide, by decide⟩ rfl (c_X0_daysToOvertake hC.r hI (by omega) (by omega)) (fun v9 S9 iv9 hp => ?_)
        obtain ⟨rfl, rfl, hF9⟩ := hp
        have hC9 := hC.ft hF9
        have hgr := ovtD_r (A 62) x y
        refine J.istore_n (q := 42) dX5_overtakes_41 (Nat.le_of_ble_eq_true rfl) ?_ rfl
        refine J.iload_n (q := 43) dX5_overtakes_42 rfl ?_ rfl
        refine J.bipush (q := 45) dX5_overtakes_43 (by decide) ?_ rfl
        refine J.icmp_ne (tgt := 57) (q := 48) (hv := by omega) dX5_overtakes_45 rfl rfl (fun c45 => ?_) (fun c45 => ?_)
        · refine J.iload_n (q := 58) dX5_overtakes_57 rfl ?_ rfl
          refine J.ireturn dX5_overtakes_58 rfl ?_
          unfold CP an_overtakes
          repeat (first | rw [if_pos (by omega)] | rw [if_neg (by omega)])
          first
          | exact ⟨rfl, rfl, hf8, hC8⟩
          | exact ⟨rfl, rfl, fun q hq => (hf8 q hq).trans (hF9 q (by omega)), hC8⟩
          | exact ⟨rfl, rfl, fun q hq => hF9 q (by omega), hC9⟩
          | (exfalso; omega)
        · refine J.aload_n (q := 49) dX5_overtakes_48 rfl ?_ rfl
          refine J.ldc (q := 51) (z := -1000004) dX5_overtakes_49 kK_X5_172 ?_ rfl
          refine J.callV1 (ci := 5) (q := 54) dX5_overtakes_51 mv_X5_tell kL_X5_64 rfl (by decide) rfl ⟨by decide, by decide⟩ (Nat.le_of_ble_eq_true rfl) ⟨by decide, by decide⟩ rfl (c_X5_tell (w := 3) (by decide) hC9 (by decide)) (fun v8 S8 iv8 hp => ?_)
          obtain ⟨rfl, rfl, hf8, hC8⟩ := hp
          refine J.goto (tgt := 58) dX5_overtakes_54 rfl ?_
          refine J.ireturn dX5_overtakes_58 rfl ?_
          unfold CP an_overtakes
          repeat (first | rw [if_pos (by omega)] | rw [if_neg (by omega)])
          first
          | exact ⟨rfl, rfl, hf8, hC8⟩
          | exact ⟨rfl, rfl, fun q hq => (hf8 q hq).trans (hF9 q (by omega)), hC8⟩
          | exact ⟨rfl, rfl, fun q hq => hF9 q (by omega), hC9⟩
          | (exfalso; omega)
      · refine J.aload_n (q := 22) dX5_overtakes_21 rfl ?_ rfl
        refine J.ldc (q := 24) (z := -1000001) dX5_overtakes_22 kK_X5_63 ?_ rfl
        refine J.callV1 (ci := 5) (q := 27) dX5_overtakes_24 mv_X5_tell kL_X5_64 rfl (by decide) rfl ⟨by decide, by decide⟩ (Nat.le_of_ble_eq_true rfl) ⟨by decide, by decide⟩ rfl (c_X5_tell (w := 0) (by decide) hC (by decide)) (fun v9 S9 iv9 hp => ?_)
        obtain ⟨rfl, rfl, hf8, hC8⟩ := hp
        refine J.ireturn dX5_overtakes_27 rfl ?_
        unfold CP an_overtakes
        repeat (first | rw [if_pos (by omega)] | rw [if_neg (by omega)])
        first
        | exact ⟨rfl, rfl, hf8, hC8⟩
        | exact ⟨rfl, rfl, fun q hq => (hf8 q hq).trans (hF9 q (by omega)), hC8⟩
        | exact ⟨rfl, rfl, fun q hq => hF9 q (by omega), hC9⟩
        | (exfalso; omega)

def Mst (f : Int → Int) (j : Nat) (bst mst : Int) : Prop := (mostP f j < 0 ∧ bst = -1000004 ∧ mst = 0) ∨ (0 ≤ mostP f j ∧ bst = mostP f j ∧ mst = f (mostP f j))
theorem Mst.z {f : Int → Int} : Mst f 0 (-1000004) 0 := Or.inl ⟨by show (-1 : Int) < 0; decide, rfl, rfl⟩
theorem Mst.v {f : Int → Int} {j : Nat} {bst mst : Int} (h : Mst f j bst mst) : mst = if mostP f j < 0 then 0 else f (mostP f j) := by
  rcases h with ⟨h1, h2, h3⟩ | ⟨h1, h2, h3⟩
  · rw [if_pos h1]; exact h3
  · rw [if_neg (by omega)]; exact h3
theorem Mst.yes {f : Int → Int} {j : Nat} {bst mst : Int} (h : Mst f j bst mst) (hq : mst < f j) : Mst f (j + 1) j (f j) := by
  have e : mostP f (j + 1) = j := by rw [mostP, ← h.v, if_pos hq]
  refine Or.inr ?_
  rw [e]
  exact ⟨by omega, rfl, rfl⟩
theorem Mst.no {f : Int → Int} {j : Nat} {bst mst : Int} (h : Mst f j bst mst) (hq : f j ≤ mst) : Mst f (j + 1) bst mst := by
  have e : mostP f (j + 1) = mostP f j := by rw [mostP, ← h.v, if_neg (by omega)]
  unfold Mst
  rw [e]
  exact h
set_option maxRecDepth 100000 in
set_option maxHeartbeats 4000000 in
theorem mostClashes_loop {l : Launch} {F : Nat × (Int → Int)} {iv iv1 : Mm} {f : Int → Int} {m : Int} (hF : FT iv iv1) (hf : ∀ c, 0 ≤ c → c < 81 → iv1 30 c = f c) (hb : ∀ c, 0 ≤ c → c < 81 → 0 ≤ f c ∧ f c ≤ 5000) : ∀ (n : Nat) (j : Nat) (bst : Int) (mst : Int), (81 - (j : Int) < n) → ((j : Int) ≤ 81) → (Mst f j bst mst) → J l (yX0_cellOfMostClashes).cls cX0_cellOfMostClashes 6 (some FieldType.int) 6 0 0 false F (fun v S iv2 => v = some (i_ (if mostP f 81 < 0 then -1000004 else mostP f 81)) ∧ S = S0 ∧ FT iv iv2) 0 0 27 [some (r_ 25), some (r_ 1), some (i_ m), some (i_ bst), some (i_ mst), some (i_ (j : Int))] [] S0 (iv1) := by
  intro n
  induction n with
  | zero =>
    intro j bst mst hn hj hB
    omega
  | succ n ih =>
    intro j bst mst hn hj hB
    have hrg := mostP_rg f hb (by omega) j (by omega)
    rw [← hB.v] at hrg
    refine J.iload (q := 29) dX0_cellOfMostClashes_27 rfl ?_ rfl
    refine J.bipush (q := 31) dX0_cellOfMostClashes_29 (by decide) ?_ rfl
    refine J.icmp_ge (tgt := 70) (q := 34) dX0_cellOfMostClashes_31 rfl rfl (fun c31 => ?_) (fun c31 => ?_)
    · refine J.iload_n (q := 71) dX0_cellOfMostClashes_70 rfl ?_ rfl
      refine J.ireturn dX0_cellOfMostClashes_71 rfl ?_
      have hj81 : j = 81 := by omega
      subst hj81
      refine ⟨congrArg (fun q => some (i_ q)) ?_, rfl, hF⟩
      rcases hB with h | h
      · rw [if_pos h.1]; exact h.2.1
      · rw [if_neg (by omega)]; exact h.2.1
    · refine J.aload_n (q := 35) dX0_cellOfMostClashes_34 rfl ?_ rfl
      refine J.getR (ci := 0) (k0 := 0) (c1 := 26) (q := 38) dX0_cellOfMostClashes_35 kF_X0_12 rfl (by decide) (by decide) rfl (by decide) rfl ?_ rfl
      refine J.getR (ci := 1) (k0 := 3) (c1 := 30) (q := 41) dX0_cellOfMostClashes_38 kF_X0_65 rfl (by decide) (by decide) rfl (by decide) rfl ?_ rfl
      refine J.iload (q := 43) dX0_cellOfMostClashes_41 rfl ?_ rfl
      refine J.iald (n := 81) (q := 44) dX0_cellOfMostClashes_43 rfl (by omega) ?_ rfl
      rw [hf _ (by omega) (by omega)]
      have hbj := hb j (by omega) (by omega)
      refine J.iload (q := 46) dX0_cellOfMostClashes_44 rfl ?_ rfl
      refine J.icmp_le (tgt := 64) (q := 49) (hv := by omega) dX0_cellOfMostClashes_46 rfl rfl (fun c46 => ?_) (fun c46 => ?_)
      · have hB3 : Mst f (j + 1) bst mst := hB.no c46
        refine J.iinc (q := 67) dX0_cellOfMostClashes_64 rfl ?_ rfl
        refine J.goto (tgt := 27) dX0_cellOfMostClashes_67 rfl ?_
        exact ih (j + 1) _ _ (by omega) (by omega) hB3
      · have hB3 := hB.yes c46
        refine J.aload_n (q := 50) dX0_cellOfMostClashes_49 rfl ?_ rfl
        refine J.getR (ci := 0) (k0 := 0) (c1 := 26) (q := 53) dX0_cellOfMostClashes_50 kF_X0_12 rfl (by decide) (by decide) rfl (by decide) rfl ?_ rfl
        refine J.getR (ci := 1) (k0 := 3) (c1 := 30) (q := 56) dX0_cellOfMostClashes_53 kF_X0_65 rfl (by decide) (by decide) rfl (by decide) rfl ?_ rfl
        refine J.iload (q := 58) dX0_cellOfMostClashes_56 rfl ?_ rfl
        refine J.iald (n := 81) (q := 59) dX0_cellOfMostClashes_58 rfl (by omega) ?_ rfl
        rw [hf _ (by omega) (by omega)]
        refine J.istore (q := 61) dX0_cellOfMostClashes_59 (Nat.le_of_ble_eq_true rfl) ?_ rfl
        refine J.iload (q := 63) dX0_cellOfMostClashes_61 rfl ?_ rfl
        refine J.istore_n (q := 64) dX0_cellOfMostClashes_63 (Nat.le_of_ble_eq_true rfl) ?_ rfl
        refine J.iinc (q := 67) dX0_cellOfMostClashes_64 rfl ?_ rfl
        refine J.goto (tgt := 27) dX0_cellOfMostClashes_67 rfl ?_
        exact ih (j + 1) _ _ (by omega) (by omega) hB3

set_option maxRecDepth 100000 in
set_option maxHeartbeats 4000000 in
theorem c_X0_cellOfMostClashes {l : Launch} {F : Nat × (Int → Int)} {iv : Mm} {s : Int → Int} (hR : RR iv 1 s) (hI : MI 99999 s) {m : Int} (hm : 0 ≤ m ∧ m ≤ 40) : Ctr l F 6 0 0 yX0_cellOfMostClashes cX0_cellOfMostClashes 6 (some FieldType.int) [r_ 25, r_ 1, i_ m] S0 (iv) (fun v S iv2 => v = some (i_ (if mostP (dysM (fdst s) th1 m.toNat (P0 s)).2 81 < 0 then -1000004 else mostP (dysM (fdst s) th1 m.toNat (P0 s)).2 81)) ∧ S = S0 ∧ FT iv iv2) := by
  refine Ctr.of false (fun h => by cases h) (by decide) rfl (Nat.le_of_ble_eq_true rfl) ?_
  refine J.aload_n (q := 1) dX0_cellOfMostClashes_0 rfl ?_ rfl
  refine J.getR (ci := 0) (k0 := 0) (c1 := 26) (q := 4) dX0_cellOfMostClashes_1 kF_X0_12 rfl (by decide) (by decide) rfl (by decide) rfl ?_ rfl
  refine J.getR (ci := 1) (k0 := 3) (c1 := 30) (q := 7) dX0_cellOfMostClashes_4 kF_X0_65 rfl (by decide) (by decide) rfl (by decide) rfl ?_ rfl
  refine J.iconst (q := 8) dX0_cellOfMostClashes_7 ?_ rfl
  refine J.callS2 (q := 11) dX0_cellOfMostClashes_8 mv_J7_fill_53178 kS_J7_fill_53178 kL_X0_68 ⟨by decide, by decide⟩ (Nat.le_of_ble_eq_true rfl) ⟨by decide, by decide⟩ rfl (c_fill_30) (fun v9 S9 iv9 hp => ?_)
  obtain ⟨rfl, rfl, e1, e2⟩ := hp
  have hF9 : FT iv iv9 := fun q hq => e1 q (by omega)
  refine J.aload_n (q := 12) dX0_cellOfMostClashes_11 rfl ?_ rfl
  refine J.aload_n (q := 13) dX0_cellOfMostClashes_12 rfl ?_ rfl
  refine J.iload_n (q := 14) dX0_cellOfMostClashes_13 rfl ?_ rfl
  refine J.callV2 (ci := 0) (q := 17) dX0_cellOfMostClashes_14 mv_X0_behind kL_X0_74 rfl (by decide) rfl ⟨by decide, by decide⟩ (Nat.le_of_ble_eq_true rfl) ⟨by decide, by decide⟩ rfl (c_X0_behind (hF9.rr hR) hI (Z := fun _ => 0) (fun c c0 c1 => e2 c c0 c1) (by omega)) (fun v8 S8 iv8 hp => ?_)
  obtain ⟨rfl, rfl, hF8, hM8⟩ := hp
  refine J.pop (q := 18) dX0_cellOfMostClashes_17 rfl ?_ rfl
  refine J.ldc (q := 20) (z := -1000004) dX0_cellOfMostClashes_18 kK_X0_78 ?_ rfl
  refine J.istore_n (q := 21) dX0_cellOfMostClashes_20 (Nat.le_of_ble_eq_true rfl) ?_ rfl
  refine J.iconst (q := 22) dX0_cellOfMostClashes_21 ?_ rfl
  refine J.istore (q := 24) dX0_cellOfMostClashes_22 (Nat.le_of_ble_eq_true rfl) ?_ rfl
  refine J.iconst (q := 25) dX0_cellOfMostClashes_24 ?_ rfl
  refine J.istore (q := 27) dX0_cellOfMostClashes_25 (Nat.le_of_ble_eq_true rfl) ?_ rfl
  refine mostClashes_loop (hF9.tr hF8) hM8.2 (fun c c0 c1 => ?_) 82 0 _ _ (by omega) (by omega) Mst.z
  have h := dysM_b (fr := fdst s) (th := th1) (p := c) (X := (s, fun _ => 0)) hI m.toNat
  have h1 := h.1
  have h2 := h.2
  dsimp only at h1 h2
  omega

set_option maxRecDepth 100000 in
set_option maxHeartbeats 4000000 in
theorem c_X5_clash {l : Launch} {F : Nat × (Int → Int)} {iv A : Mm} (hC : CR iv A) (hA : AI A) {m : Int} (hm : -2147483648 ≤ m ∧ m < 2147483648) : Ctr l F 7 0 0 yX5_clash cX5_clash 3 (some FieldType.int) [r_ 0, i_ m] S0 (iv) (CP iv (an_clash A m)) := by
  refine Ctr.of false (fun h => by cases h) (by decide) rfl (Nat.le_of_ble_eq_true rfl) ?_
  have hI := hA.mi
  have hmm := hI.many
  have hkp := hA.kp
  have htp := hA.tp
  refine J.iload_n (q := 1) dX5_clash_0 rfl ?_ rfl
  refine J.bipush (q := 3) dX5_clash_1 (by decide) ?_ rfl
  refine J.callS2i (q := 6) dX5_clash_3 mv_X5_isWithin kS_X5_isWithin kL_X5_59 ⟨by decide, by decide⟩ (Nat.le_of_ble_eq_true rfl) ⟨by decide, by decide⟩ rfl (c_X5_isWithin (by omega) (by omega)) ?_
  refine J.ifb_ne (tgt := 16) (q := 9) dX5_clash_6 rfl rfl (fun c6 => ?_) (fun c6 => ?_)
  · refine J.aload_n (q := 17) dX5_clash_16 rfl ?_ rfl
    refine J.getR (ci := 5) (k0 := 2) (c1 := 25) (q := 20) dX5_clash_17 kF_X5_22 rfl (by decide) (by decide) rfl (by decide) rfl ?_ rfl
    refine J.aload_n (q := 21) dX5_clash_20 rfl ?_ rfl
    refine J.getR (ci := 5) (k0 := 0) (c1 := 1) (q := 24) dX5_clash_21 kF_X5_12 rfl (by decide) (by decide) rfl (by decide) rfl ?_ rfl
    refine J.iload_n (q := 25) dX5_clash_24 rfl ?_ rfl
    refine J.callV2 (ci := 0) (q := 28) dX5_clash_25 mv_X0_cellOfMostClashes kL_X5_194 rfl (by decide) rfl ⟨by decide, by decide⟩ (Nat.le_of_ble_eq_true rfl) ⟨by decide, by decide⟩ rfl (c_X0_cellOfMostClashes hC.r hI (by omega)) (fun v9 S9 iv9 hp => ?_)
    obtain ⟨rfl, rfl, hF9⟩ := hp
    have hC9 := hC.ft hF9
    have hbl := mostP_rng (dysM (fdst (A 62)) th1 m.toNat (P0 (A 62))).2 81
    obtain ⟨x, hx⟩ : ∃ x : Int, x = (if mostP (dysM (fdst (A 62)) th1 m.toNat (P0 (A 62))).2 81 < 0 then -1000004 else mostP (dysM (fdst (A 62)) th1 m.toNat (P0 (A 62))).2 81) := ⟨_, rfl⟩
    rw [← hx]
    have hx1 : (mostP (dysM (fdst (A 62)) th1 m.toNat (P0 (A 62))).2 81 < 0 ∧ x = -1000004) ∨ (¬ mostP (dysM (fdst (A 62)) th1 m.toNat (P0 (A 62))).2 81 < 0 ∧ x = mostP (dysM (fdst (A 62)) th1 m.toNat (P0 (A 62))).2 81) := by
      by_cases h : mostP (dysM (fdst (A 62)) th1 m.toNat (P0 (A 62))).2 81 < 0
      · exact Or.inl ⟨h, by rw [hx, if_pos h]⟩
      · exact Or.inr ⟨h, by rw [hx, if_neg h]⟩
    clear hx
    refine J.istore_n (q := 29) dX5_clash_28 (Nat.le_of_ble_eq_true rfl) ?_ rfl
    refine J.iload_n (q := 30) dX5_clash_29 rfl ?_ rfl
    refine J.ldc (q := 32) (z := -1000004) dX5_clash_30 kK_X5_172 ?_ rfl
    refine J.icmp_ne (tgt := 44) (q := 35) (hv := by omega) dX5_clash_32 rfl rfl (fun c32 => ?_) (fun c32 => ?_)
    · refine J.iload_n (q := 45) dX5_clash_44 rfl ?_ rfl
      refine J.ireturn dX5_clash_45 rfl ?_
      unfold CP an_clash
      first
      | (rw [if_neg (by omega)]; exact ⟨rfl, rfl, hf8, hC8⟩)
      | (rw [if_pos (by omega), if_pos (by omega)]; exact ⟨rfl, rfl, fun q hq => (hf8 q hq).trans (hF9 q (by omega)), hC8⟩)
      | (rw [if_pos (by omega), if_neg (by omega)]; exact ⟨congrArg (fun q => some (i_ q)) (by omega), rfl, fun q hq => hF9 q (by omega), hC9⟩)
      | (exfalso; omega)
    · refine J.aload_n (q := 36) dX5_clash_35 rfl ?_ rfl
      refine J.ldc (q := 38) (z := -1000004) dX5_clash_36 kK_X5_172 ?_ rfl
      refine J.callV1 (ci := 5) (q := 41) dX5_clash_38 mv_X5_tell kL_X5_64 rfl (by decide) rfl ⟨by decide, by decide⟩ (Nat.le_of_ble_eq_true rfl) ⟨by decide, by decide⟩ rfl (c_X5_tell (w := 3) (by decide) hC9 (by decide)) (fun v8 S8 iv8 hp => ?_)
      obtain ⟨rfl, rfl, hf8, hC8⟩ := hp
      refine J.goto (tgt := 45) dX5_clash_41 rfl ?_
      refine J.ireturn dX5_clash_45 rfl ?_
      unfold CP an_clash
      first
      | (rw [if_neg (by omega)]; exact ⟨rfl, rfl, hf8, hC8⟩)
      | (rw [if_pos (by omega), if_pos (by omega)]; exact ⟨rfl, rfl, fun q hq => (hf8 q hq).trans (hF9 q (by omega)), hC8⟩)
      | (rw [if_pos (by omega), if_neg (by omega)]; exact ⟨congrArg (fun q => some (i_ q)) (by omega), rfl, fun q hq => hF9 q (by omega), hC9⟩)
      | (exfalso; omega)
  · refine J.aload_n (q := 10) dX5_clash_9 rfl ?_ rfl
    refine J.ldc (q := 12) (z := -1000001) dX5_clash_10 kK_X5_63 ?_ rfl
    refine J.callV1 (ci := 5) (q := 15) dX5_clash_12 mv_X5_tell kL_X5_64 rfl (by decide) rfl ⟨by decide, by decide⟩ (Nat.le_of_ble_eq_true rfl) ⟨by decide, by decide⟩ rfl (c_X5_tell (w := 0) (by decide) hC (by decide)) (fun v9 S9 iv9 hp => ?_)
    obtain ⟨rfl, rfl, hf8, hC8⟩ := hp
    refine J.ireturn dX5_clash_15 rfl ?_
    unfold CP an_clash
    first
    | (rw [if_neg (by omega)]; exact ⟨rfl, rfl, hf8, hC8⟩)
    | (rw [if_pos (by omega), if_pos (by omega)]; exact ⟨rfl, rfl, fun q hq => (hf8 q hq).trans (hF9 q (by omega)), hC8⟩)
    | (rw [if_pos (by omega), if_neg (by omega)]; exact ⟨congrArg (fun q => some (i_ q)) (by omega), rfl, fun q hq => hF9 q (by omega), hC9⟩)
    | (exfalso; omega)

