/-! the reference: a day (printed by wip/whole/m_model3.py) -/
set_option maxRecDepth 100000 in
set_option maxHeartbeats 4000000 in
theorem c_X6_isIn {l : Launch} {F : Nat × (Int → Int)} {iv : Mm} {z k : Int} (hz : -2147483648 ≤ z ∧ z < 2147483648) (hk : 0 ≤ k ∧ k < 31) : Ctr l F 0 0 0 yX6_isIn cX6_isIn 2 (some FieldType.boolean) [i_ z, i_ k] S0 (iv) (Ret (some (i_ (b2 (z / 2 ^ k.toNat % 2 = 1)))) S0 iv) := by
  refine Ctr.of false (fun h => by cases h) (by decide) rfl (Nat.le_of_ble_eq_true rfl) ?_
  refine J.iload_n (q := 1) dX6_isIn_0 rfl ?_ rfl
  refine J.iload_n (q := 2) dX6_isIn_1 rfl ?_ rfl
  refine J.ishr (q := 3) dX6_isIn_2 (I3_shr (by omega) k.toNat (by omega) (by omega) rfl) ?_ rfl
  refine J.iconst (q := 4) dX6_isIn_3 ?_ rfl
  refine J.iand (q := 5) dX6_isIn_4 (I3_and 1 (by decide) rfl rfl) ?_ rfl
  refine J.iconst (q := 6) dX6_isIn_5 ?_ rfl
  refine J.icmp_ne (tgt := 13) (q := 9) dX6_isIn_6 rfl rfl (fun c6 => ?_) (fun c6 => ?_)
  · refine J.iconst (q := 14) dX6_isIn_13 ?_ rfl
    refine J.zreturn dX6_isIn_14 rfl (by omega) ?_
    first
    | exact ⟨rfl, rfl, rfl⟩
    | (refine ⟨congrArg (fun z => some (i_ z)) ?_, rfl, rfl⟩; first | rfl | omega | (simp only [b2]; split <;> omega) | (simp only [b2, *]; split <;> omega))
  · refine J.iconst (q := 10) dX6_isIn_9 ?_ rfl
    refine J.goto (tgt := 14) dX6_isIn_10 rfl ?_
    refine J.zreturn dX6_isIn_14 rfl (by omega) ?_
    first
    | exact ⟨rfl, rfl, rfl⟩
    | (refine ⟨congrArg (fun z => some (i_ z)) ?_, rfl, rfl⟩; first | rfl | omega | (simp only [b2]; split <;> omega) | (simp only [b2, *]; split <;> omega))

set_option maxRecDepth 100000 in
set_option maxHeartbeats 4000000 in
theorem c_X6_isSnail {l : Launch} {F : Nat × (Int → Int)} {iv : Mm} {k : Int} (hk : -2147483648 ≤ k ∧ k < 2147483648) (hm : 0 ≤ iv 62 2 ∧ iv 62 2 ≤ 8) : Ctr l F 1 0 0 yX6_isSnail cX6_isSnail 2 (some FieldType.boolean) [r_ 61, i_ k] S0 (iv) (Ret (some (i_ (b2 (0 ≤ k ∧ k ≤ iv 62 2 - 1)))) S0 iv) := by
  refine Ctr.of false (fun h => by cases h) (by decide) rfl (Nat.le_of_ble_eq_true rfl) ?_
  refine J.iload_n (q := 1) dX6_isSnail_0 rfl ?_ rfl
  refine J.iconst (q := 2) dX6_isSnail_1 ?_ rfl
  refine J.aload_n (q := 3) dX6_isSnail_2 rfl ?_ rfl
  refine J.getR (ci := 6) (k0 := 0) (c1 := 62) (q := 6) dX6_isSnail_3 kF_X6_9 rfl (by decide) (by decide) rfl (by decide) rfl ?_ rfl
  refine J.iconst (q := 7) dX6_isSnail_6 ?_ rfl
  refine J.iald (n := 307) (q := 8) dX6_isSnail_7 rfl (by omega) ?_ rfl
  refine J.iconst (q := 9) dX6_isSnail_8 ?_ rfl
  refine J.isub (q := 10) dX6_isSnail_9 ?_ rfl
  refine J.callS3i (q := 13) dX6_isSnail_10 mv_X6_in1 kS_X6_in1 kL_X6_61 ⟨by decide, by decide⟩ (Nat.le_of_ble_eq_true rfl) ⟨by decide, by decide⟩ rfl (c_X6_in1 (by omega) (by omega) (by omega)) ?_
  refine J.zreturn dX6_isSnail_13 rfl b2_01 ?_
  first
  | exact ⟨rfl, rfl, rfl⟩
  | (refine ⟨congrArg (fun z => some (i_ z)) ?_, rfl, rfl⟩; first | rfl | omega | (simp only [b2]; split <;> omega) | (simp only [b2, *]; split <;> omega))

set_option maxRecDepth 100000 in
set_option maxHeartbeats 4000000 in
theorem c_X6_farBy {l : Launch} {F : Nat × (Int → Int)} {iv : Mm} {k c : Int} (hk : 0 ≤ k ∧ k < 8) (hc : 0 ≤ c ∧ c ≤ 80) : Ctr l F 0 0 0 yX6_farBy cX6_farBy 3 (some FieldType.int) [r_ 61, i_ k, i_ c] S0 (iv) (Ret (some (i_ (iv 66 (81 * k + c)))) S0 iv) := by
  refine Ctr.of false (fun h => by cases h) (by decide) rfl (Nat.le_of_ble_eq_true rfl) ?_
  refine J.aload_n (q := 1) dX6_farBy_0 rfl ?_ rfl
  refine J.getR (ci := 6) (k0 := 5) (c1 := 66) (q := 4) dX6_farBy_1 kF_X6_22 rfl (by decide) (by decide) rfl (by decide) rfl ?_ rfl
  refine J.bipush (q := 6) dX6_farBy_4 (by decide) ?_ rfl
  refine J.iload_n (q := 7) dX6_farBy_6 rfl ?_ rfl
  refine J.imul (q := 8) dX6_farBy_7 ?_ rfl
  refine J.iload_n (q := 9) dX6_farBy_8 rfl ?_ rfl
  refine J.iadd (q := 10) dX6_farBy_9 ?_ rfl
  refine J.iald (n := 729) (q := 11) dX6_farBy_10 rfl (by omega) ?_ rfl
  refine J.ireturn dX6_farBy_11 rfl ?_
  first
  | exact ⟨rfl, rfl, rfl⟩
  | (refine ⟨congrArg (fun z => some (i_ z)) ?_, rfl, rfl⟩; first | rfl | omega | (simp only [b2]; split <;> omega) | (simp only [b2, *]; split <;> omega))

set_option maxRecDepth 100000 in
set_option maxHeartbeats 4000000 in
theorem c_X6_isGreedy {l : Launch} {F : Nat × (Int → Int)} {iv : Mm} {k : Int} (hk : 0 ≤ k ∧ k < 8) (hr : -2147483648 ≤ iv 62 (257 + 5 * k + 0) ∧ iv 62 (257 + 5 * k + 0) < 2147483648) : Ctr l F 1 0 0 yX6_isGreedy cX6_isGreedy 2 (some FieldType.boolean) [r_ 61, i_ k] S0 (iv) (Ret (some (i_ (b2 (iv 62 (257 + 5 * k + 0) = 1 ∨ iv 62 (257 + 5 * k + 0) = 6)))) S0 iv) := by
  refine Ctr.of false (fun h => by cases h) (by decide) rfl (Nat.le_of_ble_eq_true rfl) ?_
  refine J.aload_n (q := 1) dX6_isGreedy_0 rfl ?_ rfl
  refine J.iload_n (q := 2) dX6_isGreedy_1 rfl ?_ rfl
  refine J.iconst (q := 3) dX6_isGreedy_2 ?_ rfl
  refine J.callV2i (ci := 6) (q := 6) dX6_isGreedy_3 mv_X6_get kL_X6_76 rfl (by decide) rfl ⟨by decide, by decide⟩ (Nat.le_of_ble_eq_true rfl) ⟨by decide, by decide⟩ rfl (c_X6_get (by omega)) ?_
  refine J.iconst (q := 7) dX6_isGreedy_6 ?_ rfl
  refine J.icmp_eq (tgt := 21) (q := 10) dX6_isGreedy_7 rfl rfl (fun c7 => ?_) (fun c7 => ?_)
  · refine J.iconst (q := 22) dX6_isGreedy_21 ?_ rfl
    refine J.goto (tgt := 26) dX6_isGreedy_22 rfl ?_
    refine J.zreturn dX6_isGreedy_26 rfl (by omega) ?_
    first
    | exact ⟨rfl, rfl, rfl⟩
    | (refine ⟨congrArg (fun z => some (i_ z)) ?_, rfl, rfl⟩; first | rfl | omega | (simp only [b2]; split <;> omega) | (simp only [b2, *]; split <;> omega))
  · refine J.aload_n (q := 11) dX6_isGreedy_10 rfl ?_ rfl
    refine J.iload_n (q := 12) dX6_isGreedy_11 rfl ?_ rfl
    refine J.iconst (q := 13) dX6_isGreedy_12 ?_ rfl
    refine J.callV2i (ci := 6) (q := 16) dX6_isGreedy_13 mv_X6_get kL_X6_76 rfl (by decide) rfl ⟨by decide, by decide⟩ (Nat.le_of_ble_eq_true rfl) ⟨by decide, by decide⟩ rfl (c_X6_get (by omega)) ?_
    refine J.bipush (q := 18) dX6_isGreedy_16 (by decide) ?_ rfl
    refine J.icmp_ne (tgt := 25) (q := 21) dX6_isGreedy_18 rfl rfl (fun c18 => ?_) (fun c18 => ?_)
    · refine J.iconst (q := 26) dX6_isGreedy_25 ?_ rfl
      refine J.zreturn dX6_isGreedy_26 rfl (by omega) ?_
      first
      | exact ⟨rfl, rfl, rfl⟩
      | (refine ⟨congrArg (fun z => some (i_ z)) ?_, rfl, rfl⟩; first | rfl | omega | (simp only [b2]; split <;> omega) | (simp only [b2, *]; split <;> omega))
    · refine J.iconst (q := 22) dX6_isGreedy_21 ?_ rfl
      refine J.goto (tgt := 26) dX6_isGreedy_22 rfl ?_
      refine J.zreturn dX6_isGreedy_26 rfl (by omega) ?_
      first
      | exact ⟨rfl, rfl, rfl⟩
      | (refine ⟨congrArg (fun z => some (i_ z)) ?_, rfl, rfl⟩; first | rfl | omega | (simp only [b2]; split <;> omega) | (simp only [b2, *]; split <;> omega))

set_option maxRecDepth 100000 in
set_option maxHeartbeats 4000000 in
theorem c_X6_isThere {l : Launch} {F : Nat × (Int → Int)} {iv : Mm} {k : Int} (hk : 0 ≤ k ∧ k < 8) (hr : -2147483648 ≤ iv 62 (257 + 5 * k + 1) ∧ iv 62 (257 + 5 * k + 1) < 2147483648) (hr2 : -2147483648 ≤ iv 62 (257 + 5 * k + 3) ∧ iv 62 (257 + 5 * k + 3) < 2147483648) : Ctr l F 1 0 0 yX6_isThere cX6_isThere 2 (some FieldType.boolean) [r_ 61, i_ k] S0 (iv) (Ret (some (i_ (b2 (iv 62 (257 + 5 * k + 1) = iv 62 (257 + 5 * k + 3))))) S0 iv) := by
  refine Ctr.of false (fun h => by cases h) (by decide) rfl (Nat.le_of_ble_eq_true rfl) ?_
  refine J.aload_n (q := 1) dX6_isThere_0 rfl ?_ rfl
  refine J.iload_n (q := 2) dX6_isThere_1 rfl ?_ rfl
  refine J.iconst (q := 3) dX6_isThere_2 ?_ rfl
  refine J.callV2i (ci := 6) (q := 6) dX6_isThere_3 mv_X6_get kL_X6_76 rfl (by decide) rfl ⟨by decide, by decide⟩ (Nat.le_of_ble_eq_true rfl) ⟨by decide, by decide⟩ rfl (c_X6_get (by omega)) ?_
  refine J.aload_n (q := 7) dX6_isThere_6 rfl ?_ rfl
  refine J.iload_n (q := 8) dX6_isThere_7 rfl ?_ rfl
  refine J.iconst (q := 9) dX6_isThere_8 ?_ rfl
  refine J.callV2i (ci := 6) (q := 12) dX6_isThere_9 mv_X6_get kL_X6_76 rfl (by decide) rfl ⟨by decide, by decide⟩ (Nat.le_of_ble_eq_true rfl) ⟨by decide, by decide⟩ rfl (c_X6_get (by omega)) ?_
  refine J.icmp_ne (tgt := 19) (q := 15) dX6_isThere_12 rfl rfl (fun c12 => ?_) (fun c12 => ?_)
  · refine J.iconst (q := 20) dX6_isThere_19 ?_ rfl
    refine J.zreturn dX6_isThere_20 rfl (by omega) ?_
    first
    | exact ⟨rfl, rfl, rfl⟩
    | (refine ⟨congrArg (fun z => some (i_ z)) ?_, rfl, rfl⟩; first | rfl | omega | (simp only [b2]; split <;> omega) | (simp only [b2, *]; split <;> omega))
  · refine J.iconst (q := 16) dX6_isThere_15 ?_ rfl
    refine J.goto (tgt := 20) dX6_isThere_16 rfl ?_
    refine J.zreturn dX6_isThere_20 rfl (by omega) ?_
    first
    | exact ⟨rfl, rfl, rfl⟩
    | (refine ⟨congrArg (fun z => some (i_ z)) ?_, rfl, rfl⟩; first | rfl | omega | (simp only [b2]; split <;> omega) | (simp only [b2, *]; split <;> omega))

set_option maxRecDepth 100000 in
set_option maxHeartbeats 4000000 in
theorem c_X6_no {l : Launch} {F : Nat × (Int → Int)} {iv : Mm} {w : Int} (hw : 0 ≤ w ∧ w ≤ 6) : Ctr l F 0 0 0 yX6_no cX6_no 2 (some FieldType.int) [r_ 61, i_ w] S0 (iv) (Ret (some (i_ (-1000001 - w))) S0 (up iv 65 w (iv 65 w + 1))) := by
  refine Ctr.of false (fun h => by cases h) (by decide) rfl (Nat.le_of_ble_eq_true rfl) ?_
  refine J.aload_n (q := 1) dX6_no_0 rfl ?_ rfl
  refine J.getR (ci := 6) (k0 := 4) (c1 := 65) (q := 4) dX6_no_1 kF_X6_19 rfl (by decide) (by decide) rfl (by decide) rfl ?_ rfl
  refine J.iload_n (q := 5) dX6_no_4 rfl ?_ rfl
  refine J.dup2 (q := 6) dX6_no_5 rfl rfl ?_ rfl
  refine J.iald (n := 7) (q := 7) dX6_no_6 rfl (by omega) ?_ rfl
  refine J.iconst (q := 8) dX6_no_7 ?_ rfl
  refine J.iadd (q := 9) dX6_no_8 ?_ rfl
  refine J.iast (n := 7) (q := 10) dX6_no_9 rfl (by omega) ?_ rfl
  refine J.ldc (q := 12) (z := -1000001) dX6_no_10 kK_X6_60 ?_ rfl
  refine J.iload_n (q := 13) dX6_no_12 rfl ?_ rfl
  refine J.isub (q := 14) dX6_no_13 ?_ rfl
  refine J.ireturn dX6_no_14 rfl ?_
  first
  | exact ⟨rfl, rfl, rfl⟩
  | (refine ⟨congrArg (fun z => some (i_ z)) ?_, rfl, rfl⟩; first | rfl | omega | (simp only [b2]; split <;> omega) | (simp only [b2, *]; split <;> omega))

set_option maxRecDepth 100000 in
set_option maxHeartbeats 4000000 in
theorem c_X6_allSnails {l : Launch} {F : Nat × (Int → Int)} {iv : Mm} (hm : 0 ≤ iv 62 2 ∧ iv 62 2 ≤ 8) : Ctr l F 0 0 0 yX6_allSnails cX6_allSnails 1 (some FieldType.int) [r_ 61] S0 (iv) (Ret (some (i_ (1 * 2 ^ (iv 62 2).toNat - 1))) S0 iv) := by
  refine Ctr.of false (fun h => by cases h) (by decide) rfl (Nat.le_of_ble_eq_true rfl) ?_
  refine J.iconst (q := 1) dX6_allSnails_0 ?_ rfl
  refine J.aload_n (q := 2) dX6_allSnails_1 rfl ?_ rfl
  refine J.getR (ci := 6) (k0 := 0) (c1 := 62) (q := 5) dX6_allSnails_2 kF_X6_9 rfl (by decide) (by decide) rfl (by decide) rfl ?_ rfl
  refine J.iconst (q := 6) dX6_allSnails_5 ?_ rfl
  refine J.iald (n := 307) (q := 7) dX6_allSnails_6 rfl (by omega) ?_ rfl
  refine J.ishl (q := 8) dX6_allSnails_7 (I3_shl (iv 62 2).toNat (by omega) (by omega) rfl) ?_ rfl
  refine J.iconst (q := 9) dX6_allSnails_8 ?_ rfl
  refine J.isub (q := 10) dX6_allSnails_9 ?_ rfl
  refine J.ireturn dX6_allSnails_10 rfl ?_
  first
  | exact ⟨rfl, rfl, rfl⟩
  | (refine ⟨congrArg (fun z => some (i_ z)) ?_, rfl, rfl⟩; first | rfl | omega | (simp only [b2]; split <;> omega) | (simp only [b2, *]; split <;> omega))

set_option maxRecDepth 100000 in
set_option maxHeartbeats 4000000 in
theorem c_X6_movesOf {l : Launch} {F : Nat × (Int → Int)} {D : Int} {iv : Mm} {k : Int} (hD : D ≤ 200000) (hI : MI D (iv 62)) (hk : 0 ≤ k ∧ k < 8) : Ctr l F 1 0 0 yX6_movesOf cX6_movesOf 5 (some FieldType.int) [r_ 61, i_ k] S0 (iv) (Ret (some (i_ (movM (iv 62) k))) S0 iv) := by
  refine Ctr.of false (fun h => by cases h) (by decide) rfl (Nat.le_of_ble_eq_true rfl) ?_
  have hs := hI.sna k hk.1 hk.2
  have hd := hI.day
  have hw := hI.wet
  have hc := hI.cel _ hs.2.1.1 hs.2.1.2
  refine J.aload_n (q := 1) dX6_movesOf_0 rfl ?_ rfl
  refine J.getR (ci := 6) (k0 := 0) (c1 := 62) (q := 4) dX6_movesOf_1 kF_X6_9 rfl (by decide) (by decide) rfl (by decide) rfl ?_ rfl
  refine J.iconst (q := 5) dX6_movesOf_4 ?_ rfl
  refine J.iald (n := 307) (q := 6) dX6_movesOf_5 rfl (by omega) ?_ rfl
  refine J.iconst (q := 7) dX6_movesOf_6 ?_ rfl
  refine J.idiv (q := 8) dX6_movesOf_7 (I3_div (by omega) (by omega) rfl) (I3_n0 (by omega)) ?_ rfl
  refine J.iconst (q := 9) dX6_movesOf_8 ?_ rfl
  refine J.iadd (q := 10) dX6_movesOf_9 ?_ rfl
  refine J.istore_n (q := 11) dX6_movesOf_10 (Nat.le_of_ble_eq_true rfl) ?_ rfl
  refine J.aload_n (q := 12) dX6_movesOf_11 rfl ?_ rfl
  refine J.getR (ci := 6) (k0 := 0) (c1 := 62) (q := 15) dX6_movesOf_12 kF_X6_9 rfl (by decide) (by decide) rfl (by decide) rfl ?_ rfl
  refine J.iconst (q := 16) dX6_movesOf_15 ?_ rfl
  refine J.iald (n := 307) (q := 17) dX6_movesOf_16 rfl (by omega) ?_ rfl
  refine J.iconst (q := 18) dX6_movesOf_17 ?_ rfl
  refine J.irem (q := 19) dX6_movesOf_18 (I3_rem (by omega) (by omega) rfl) (I3_n0 (by omega)) ?_ rfl
  refine J.if_ne (tgt := 28) (q := 22) dX6_movesOf_19 rfl rfl (fun c19 => ?_) (fun c19 => ?_)
  · refine J.iconst (q := 29) dX6_movesOf_28 ?_ rfl
    refine J.istore_n (q := 30) dX6_movesOf_29 (Nat.le_of_ble_eq_true rfl) ?_ rfl
    refine J.aload_n (q := 31) dX6_movesOf_30 rfl ?_ rfl
    refine J.getR (ci := 6) (k0 := 0) (c1 := 62) (q := 34) dX6_movesOf_31 kF_X6_9 rfl (by decide) (by decide) rfl (by decide) rfl ?_ rfl
    refine J.bipush (q := 36) dX6_movesOf_34 (by decide) ?_ rfl
    refine J.aload_n (q := 37) dX6_movesOf_36 rfl ?_ rfl
    refine J.iload_n (q := 38) dX6_movesOf_37 rfl ?_ rfl
    refine J.iconst (q := 39) dX6_movesOf_38 ?_ rfl
    refine J.callV2i (ci := 6) (q := 42) dX6_movesOf_39 mv_X6_get kL_X6_76 rfl (by decide) rfl ⟨by decide, by decide⟩ (Nat.le_of_ble_eq_true rfl) ⟨by decide, by decide⟩ rfl (c_X6_get (by omega)) ?_
    refine J.iadd (q := 43) dX6_movesOf_42 ?_ rfl
    refine J.iald (n := 307) (q := 44) dX6_movesOf_43 rfl (by omega) ?_ rfl
    refine J.if_le (tgt := 51) (q := 47) dX6_movesOf_44 rfl rfl (fun c44 => ?_) (fun c44 => ?_)
    · refine J.iconst (q := 52) dX6_movesOf_51 ?_ rfl
      refine J.istore (q := 54) dX6_movesOf_52 (Nat.le_of_ble_eq_true rfl) ?_ rfl
      refine J.aload_n (q := 55) dX6_movesOf_54 rfl ?_ rfl
      refine J.iload_n (q := 56) dX6_movesOf_55 rfl ?_ rfl
      refine J.iconst (q := 57) dX6_movesOf_56 ?_ rfl
      refine J.callV2i (ci := 6) (q := 60) dX6_movesOf_57 mv_X6_get kL_X6_76 rfl (by decide) rfl ⟨by decide, by decide⟩ (Nat.le_of_ble_eq_true rfl) ⟨by decide, by decide⟩ rfl (c_X6_get (by omega)) ?_
      rcases (show (iv 62 (257 + 5 * k + 0) < 1 ∨ 6 < iv 62 (257 + 5 * k + 0)) ∨ iv 62 (257 + 5 * k + 0) = 1 ∨ iv 62 (257 + 5 * k + 0) = 2 ∨ iv 62 (257 + 5 * k + 0) = 3 ∨ iv 62 (257 + 5 * k + 0) = 4 ∨ iv 62 (257 + 5 * k + 0) = 5 ∨ iv 62 (257 + 5 * k + 0) = 6 by omega) with hO | hx60 | hx60 | hx60 | hx60 | hx60 | hx60
      · refine J.tabOut (tgt := 151) dX6_movesOf_60 (by omega) hO rfl ?_
        refine J.iload_n (q := 152) dX6_movesOf_151 rfl ?_ rfl
        refine J.ireturn dX6_movesOf_152 rfl ?_
        refine ⟨congrArg (fun z => some (i_ z)) ?_, rfl, rfl⟩
        unfold movM
        first
        | (rw [hx60]; simp only [*, if_true, if_false]; (try simp only [Int.reduceEq, if_true, if_false]); first | done | rfl | omega | (repeat' split) <;> omega)
        | (repeat' split) <;> omega
      · refine J.tabIn (off := 40) (tgt := 100) dX6_movesOf_60 (by omega) (by omega) (by omega) (by rw [hx60]; rfl) rfl ?_
        refine J.iload (q := 102) dX6_movesOf_100 rfl ?_ rfl
        refine J.if_eq (tgt := 109) (q := 105) dX6_movesOf_102 rfl rfl (fun c102 => ?_) (fun c102 => ?_)
        · refine J.iload_n (q := 110) dX6_movesOf_109 rfl ?_ rfl
          refine J.ireturn dX6_movesOf_110 rfl ?_
          refine ⟨congrArg (fun z => some (i_ z)) ?_, rfl, rfl⟩
          unfold movM
          first
          | (rw [hx60]; simp only [*, if_true, if_false]; (try simp only [Int.reduceEq, if_true, if_false]); first | done | rfl | omega | (repeat' split) <;> omega)
          | (repeat' split) <;> omega
        · refine J.iconst (q := 106) dX6_movesOf_105 ?_ rfl
          refine J.goto (tgt := 110) dX6_movesOf_106 rfl ?_
          refine J.ireturn dX6_movesOf_110 rfl ?_
          refine ⟨congrArg (fun z => some (i_ z)) ?_, rfl, rfl⟩
          unfold movM
          first
          | (rw [hx60]; simp only [*, if_true, if_false]; (try simp only [Int.reduceEq, if_true, if_false]); first | done | rfl | omega | (repeat' split) <;> omega)
          | (repeat' split) <;> omega
      · refine J.tabIn (off := 51) (tgt := 111) dX6_movesOf_60 (by omega) (by omega) (by omega) (by rw [hx60]; rfl) rfl ?_
        refine J.iload_n (q := 112) dX6_movesOf_111 rfl ?_ rfl
        refine J.iconst (q := 113) dX6_movesOf_112 ?_ rfl
        refine J.isub (q := 114) dX6_movesOf_113 ?_ rfl
        refine J.ireturn dX6_movesOf_114 rfl ?_
        refine ⟨congrArg (fun z => some (i_ z)) ?_, rfl, rfl⟩
        unfold movM
        first
        | (rw [hx60]; simp only [*, if_true, if_false]; (try simp only [Int.reduceEq, if_true, if_false]); first | done | rfl | omega | (repeat' split) <;> omega)
        | (repeat' split) <;> omega
      · refine J.tabIn (off := 55) (tgt := 115) dX6_movesOf_60 (by omega) (by omega) (by omega) (by rw [hx60]; rfl) rfl ?_
        refine J.iload_n (q := 116) dX6_movesOf_115 rfl ?_ rfl
        refine J.ireturn dX6_movesOf_116 rfl ?_
        refine ⟨congrArg (fun z => some (i_ z)) ?_, rfl, rfl⟩
        unfold movM
        first
        | (rw [hx60]; simp only [*, if_true, if_false]; (try simp only [Int.reduceEq, if_true, if_false]); first | done | rfl | omega | (repeat' split) <;> omega)
        | (repeat' split) <;> omega
      · refine J.tabIn (off := 57) (tgt := 117) dX6_movesOf_60 (by omega) (by omega) (by omega) (by rw [hx60]; rfl) rfl ?_
        refine J.iload_n (q := 118) dX6_movesOf_117 rfl ?_ rfl
        refine J.aload_n (q := 119) dX6_movesOf_118 rfl ?_ rfl
        refine J.getR (ci := 6) (k0 := 0) (c1 := 62) (q := 122) dX6_movesOf_119 kF_X6_9 rfl (by decide) (by decide) rfl (by decide) rfl ?_ rfl
        refine J.iconst (q := 123) dX6_movesOf_122 ?_ rfl
        refine J.iald (n := 307) (q := 124) dX6_movesOf_123 rfl (by omega) ?_ rfl
        refine J.iconst (q := 125) dX6_movesOf_124 ?_ rfl
        refine J.irem (q := 126) dX6_movesOf_125 (I3_rem (by omega) (by omega) rfl) (I3_n0 (by omega)) ?_ rfl
        refine J.if_ne (tgt := 133) (q := 129) dX6_movesOf_126 rfl rfl (fun c126 => ?_) (fun c126 => ?_)
        · refine J.iconst (q := 134) dX6_movesOf_133 ?_ rfl
          refine J.iadd (q := 135) dX6_movesOf_134 ?_ rfl
          refine J.ireturn dX6_movesOf_135 rfl ?_
          refine ⟨congrArg (fun z => some (i_ z)) ?_, rfl, rfl⟩
          unfold movM
          first
          | (rw [hx60]; simp only [*, if_true, if_false]; (try simp only [Int.reduceEq, if_true, if_false]); first | done | rfl | omega | (repeat' split) <;> omega)
          | (repeat' split) <;> omega
        · refine J.iconst (q := 130) dX6_movesOf_129 ?_ rfl
          refine J.goto (tgt := 134) dX6_movesOf_130 rfl ?_
          refine J.iadd (q := 135) dX6_movesOf_134 ?_ rfl
          refine J.ireturn dX6_movesOf_135 rfl ?_
          refine ⟨congrArg (fun z => some (i_ z)) ?_, rfl, rfl⟩
          unfold movM
          first
          | (rw [hx60]; simp only [*, if_true, if_false]; (try simp only [Int.reduceEq, if_true, if_false]); first | done | rfl | omega | (repeat' split) <;> omega)
          | (repeat' split) <;> omega
      · refine J.tabIn (off := 76) (tgt := 136) dX6_movesOf_60 (by omega) (by omega) (by omega) (by rw [hx60]; rfl) rfl ?_
        refine J.iconst (q := 137) dX6_movesOf_136 ?_ rfl
        refine J.ireturn dX6_movesOf_137 rfl ?_
        refine ⟨congrArg (fun z => some (i_ z)) ?_, rfl, rfl⟩
        unfold movM
        first
        | (rw [hx60]; simp only [*, if_true, if_false]; (try simp only [Int.reduceEq, if_true, if_false]); first | done | rfl | omega | (repeat' split) <;> omega)
        | (repeat' split) <;> omega
      · refine J.tabIn (off := 78) (tgt := 138) dX6_movesOf_60 (by omega) (by omega) (by omega) (by rw [hx60]; rfl) rfl ?_
        refine J.iload (q := 140) dX6_movesOf_138 rfl ?_ rfl
        refine J.if_eq (tgt := 147) (q := 143) dX6_movesOf_140 rfl rfl (fun c140 => ?_) (fun c140 => ?_)
        · refine J.iconst (q := 148) dX6_movesOf_147 ?_ rfl
          refine J.iload_n (q := 149) dX6_movesOf_148 rfl ?_ rfl
          refine J.imul (q := 150) dX6_movesOf_149 ?_ rfl
          refine J.ireturn dX6_movesOf_150 rfl ?_
          refine ⟨congrArg (fun z => some (i_ z)) ?_, rfl, rfl⟩
          unfold movM
          first
          | (rw [hx60]; simp only [*, if_true, if_false]; (try simp only [Int.reduceEq, if_true, if_false]); first | done | rfl | omega | (repeat' split) <;> omega)
          | (repeat' split) <;> omega
        · refine J.iconst (q := 144) dX6_movesOf_143 ?_ rfl
          refine J.goto (tgt := 150) dX6_movesOf_144 rfl ?_
          refine J.ireturn dX6_movesOf_150 rfl ?_
          refine ⟨congrArg (fun z => some (i_ z)) ?_, rfl, rfl⟩
          unfold movM
          first
          | (rw [hx60]; simp only [*, if_true, if_false]; (try simp only [Int.reduceEq, if_true, if_false]); first | done | rfl | omega | (repeat' split) <;> omega)
          | (repeat' split) <;> omega
    · refine J.iconst (q := 48) dX6_movesOf_47 ?_ rfl
      refine J.goto (tgt := 52) dX6_movesOf_48 rfl ?_
      refine J.istore (q := 54) dX6_movesOf_52 (Nat.le_of_ble_eq_true rfl) ?_ rfl
      refine J.aload_n (q := 55) dX6_movesOf_54 rfl ?_ rfl
      refine J.iload_n (q := 56) dX6_movesOf_55 rfl ?_ rfl
      refine J.iconst (q := 57) dX6_movesOf_56 ?_ rfl
      refine J.callV2i (ci := 6) (q := 60) dX6_movesOf_57 mv_X6_get kL_X6_76 rfl (by decide) rfl ⟨by decide, by decide⟩ (Nat.le_of_ble_eq_true rfl) ⟨by decide, by decide⟩ rfl (c_X6_get (by omega)) ?_
      rcases (show (iv 62 (257 + 5 * k + 0) < 1 ∨ 6 < iv 62 (257 + 5 * k + 0)) ∨ iv 62 (257 + 5 * k + 0) = 1 ∨ iv 62 (257 + 5 * k + 0) = 2 ∨ iv 62 (257 + 5 * k + 0) = 3 ∨ iv 62 (257 + 5 * k + 0) = 4 ∨ iv 62 (257 + 5 * k + 0) = 5 ∨ iv 62 (257 + 5 * k + 0) = 6 by omega) with hO | hx60 | hx60 | hx60 | hx60 | hx60 | hx60
      · refine J.tabOut (tgt := 151) dX6_movesOf_60 (by omega) hO rfl ?_
        refine J.iload_n (q := 152) dX6_movesOf_151 rfl ?_ rfl
        refine J.ireturn dX6_movesOf_152 rfl ?_
        refine ⟨congrArg (fun z => some (i_ z)) ?_, rfl, rfl⟩
        unfold movM
        first
        | (rw [hx60]; simp only [*, if_true, if_false]; (try simp only [Int.reduceEq, if_true, if_false]); first | done | rfl | omega | (repeat' split) <;> omega)
        | (repeat' split) <;> omega
      · refine J.tabIn (off := 40) (tgt := 100) dX6_movesOf_60 (by omega) (by omega) (by omega) (by rw [hx60]; rfl) rfl ?_
        refine J.iload (q := 102) dX6_movesOf_100 rfl ?_ rfl
        refine J.if_eq (tgt := 109) (q := 105) dX6_movesOf_102 rfl rfl (fun c102 => ?_) (fun c102 => ?_)
        · refine J.iload_n (q := 110) dX6_movesOf_109 rfl ?_ rfl
          refine J.ireturn dX6_movesOf_110 rfl ?_
          refine ⟨congrArg (fun z => some (i_ z)) ?_, rfl, rfl⟩
          unfold movM
          first
          | (rw [hx60]; simp only [*, if_true, if_false]; (try simp only [Int.reduceEq, if_true, if_false]); first | done | rfl | omega | (repeat' split) <;> omega)
          | (repeat' split) <;> omega
        · refine J.iconst (q := 106) dX6_movesOf_105 ?_ rfl
          refine J.goto (tgt := 110) dX6_movesOf_106 rfl ?_
          refine J.ireturn dX6_movesOf_110 rfl ?_
          refine ⟨congrArg (fun z => some (i_ z)) ?_, rfl, rfl⟩
          unfold movM
          first
          | (rw [hx60]; simp only [*, if_true, if_false]; (try simp only [Int.reduceEq, if_true, if_false]); first | done | rfl | omega | (repeat' split) <;> omega)
          | (repeat' split) <;> omega
      · refine J.tabIn (off := 51) (tgt := 111) dX6_movesOf_60 (by omega) (by omega) (by omega) (by rw [hx60]; rfl) rfl ?_
        refine J.iload_n (q := 112) dX6_movesOf_111 rfl ?_ rfl
        refine J.iconst (q := 113) dX6_movesOf_112 ?_ rfl
        refine J.isub (q := 114) dX6_movesOf_113 ?_ rfl
        refine J.ireturn dX6_movesOf_114 rfl ?_
        refine ⟨congrArg (fun z => some (i_ z)) ?_, rfl, rfl⟩
        unfold movM
        first
        | (rw [hx60]; simp only [*, if_true, if_false]; (try simp only [Int.reduceEq, if_true, if_false]); first | done | rfl | omega | (repeat' split) <;> omega)
        | (repeat' split) <;> omega
      · refine J.tabIn (off := 55) (tgt := 115) dX6_movesOf_60 (by omega) (by omega) (by omega) (by rw [hx60]; rfl) rfl ?_
        refine J.iload_n (q := 116) dX6_movesOf_115 rfl ?_ rfl
        refine J.ireturn dX6_movesOf_116 rfl ?_
        refine ⟨congrArg (fun z => some (i_ z)) ?_, rfl, rfl⟩
        unfold movM
        first
        | (rw [hx60]; simp only [*, if_true, if_false]; (try simp only [Int.reduceEq, if_true, if_false]); first | done | rfl | omega | (repeat' split) <;> omega)
        | (repeat' split) <;> omega
      · refine J.tabIn (off := 57) (tgt := 117) dX6_movesOf_60 (by omega) (by omega) (by omega) (by rw [hx60]; rfl) rfl ?_
        refine J.iload_n (q := 118) dX6_movesOf_117 rfl ?_ rfl
        refine J.aload_n (q := 119) dX6_movesOf_118 rfl ?_ rfl
        refine J.getR (ci := 6) (k0 := 0) (c1 := 62) (q := 122) dX6_movesOf_119 kF_X6_9 rfl (by decide) (by decide) rfl (by decide) rfl ?_ rfl
        refine J.iconst (q := 123) dX6_movesOf_122 ?_ rfl
        refine J.iald (n := 307) (q := 124) dX6_movesOf_123 rfl (by omega) ?_ rfl
        refine J.iconst (q := 125) dX6_movesOf_124 ?_ rfl
        refine J.irem (q := 126) dX6_movesOf_125 (I3_rem (by omega) (by omega) rfl) (I3_n0 (by omega)) ?_ rfl
        refine J.if_ne (tgt := 133) (q := 129) dX6_movesOf_126 rfl rfl (fun c126 => ?_) (fun c126 => ?_)
        · refine J.iconst (q := 134) dX6_movesOf_133 ?_ rfl
          refine J.iadd (q := 135) dX6_movesOf_134 ?_ rfl
          refine J.ireturn dX6_movesOf_135 rfl ?_
          refine ⟨congrArg (fun z => some (i_ z)) ?_, rfl, rfl⟩
          unfold movM
          first
          | (rw [hx60]; simp only [*, if_true, if_false]; (try simp only [Int.reduceEq, if_true, if_false]); first | done | rfl | omega | (repeat' split) <;> omega)
          | (repeat' split) <;> omega
        · refine J.iconst (q := 130) dX6_movesOf_129 ?_ rfl
          refine J.goto (tgt := 134) dX6_movesOf_130 rfl ?_
          refine J.iadd (q := 135) dX6_movesOf_134 ?_ rfl
          refine J.ireturn dX6_movesOf_135 rfl ?_
          refine ⟨congrArg (fun z => some (i_ z)) ?_, rfl, rfl⟩
          unfold movM
          first
          | (rw [hx60]; simp only [*, if_true, if_false]; (try simp only [Int.reduceEq, if_true, if_false]); first | done | rfl | omega | (repeat' split) <;> omega)
          | (repeat' split) <;> omega
      · refine J.tabIn (off := 76) (tgt := 136) dX6_movesOf_60 (by omega) (by omega) (by omega) (by rw [hx60]; rfl) rfl ?_
        refine J.iconst (q := 137) dX6_movesOf_136 ?_ rfl
        refine J.ireturn dX6_movesOf_137 rfl ?_
        refine ⟨congrArg (fun z => some (i_ z)) ?_, rfl, rfl⟩
        unfold movM
        first
        | (rw [hx60]; simp only [*, if_true, if_false]; (try simp only [Int.reduceEq, if_true, if_false]); first | done | rfl | omega | (repeat' split) <;> omega)
        | (repeat' split) <;> omega
      · refine J.tabIn (off := 78) (tgt := 138) dX6_movesOf_60 (by omega) (by omega) (by omega) (by rw [hx60]; rfl) rfl ?_
        refine J.iload (q := 140) dX6_movesOf_138 rfl ?_ rfl
        refine J.if_eq (tgt := 147) (q := 143) dX6_movesOf_140 rfl rfl (fun c140 => ?_) (fun c140 => ?_)
        · refine J.iconst (q := 148) dX6_movesOf_147 ?_ rfl
          refine J.iload_n (q := 149) dX6_movesOf_148 rfl ?_ rfl
          refine J.imul (q := 150) dX6_movesOf_149 ?_ rfl
          refine J.ireturn dX6_movesOf_150 rfl ?_
          refine ⟨congrArg (fun z => some (i_ z)) ?_, rfl, rfl⟩
          unfold movM
          first
          | (rw [hx60]; simp only [*, if_true, if_false]; (try simp only [Int.reduceEq, if_true, if_false]); first | done | rfl | omega | (repeat' split) <;> omega)
          | (repeat' split) <;> omega
        · refine J.iconst (q := 144) dX6_movesOf_143 ?_ rfl
          refine J.goto (tgt := 150) dX6_movesOf_144 rfl ?_
          refine J.ireturn dX6_movesOf_150 rfl ?_
          refine ⟨congrArg (fun z => some (i_ z)) ?_, rfl, rfl⟩
          unfold movM
          first
          | (rw [hx60]; simp only [*, if_true, if_false]; (try simp only [Int.reduceEq, if_true, if_false]); first | done | rfl | omega | (repeat' split) <;> omega)
          | (repeat' split) <;> omega
  · refine J.iload_n (q := 23) dX6_movesOf_22 rfl ?_ rfl
    refine J.iconst (q := 24) dX6_movesOf_23 ?_ rfl
    refine J.isub (q := 25) dX6_movesOf_24 ?_ rfl
    refine J.goto (tgt := 29) dX6_movesOf_25 rfl ?_
    refine J.istore_n (q := 30) dX6_movesOf_29 (Nat.le_of_ble_eq_true rfl) ?_ rfl
    refine J.aload_n (q := 31) dX6_movesOf_30 rfl ?_ rfl
    refine J.getR (ci := 6) (k0 := 0) (c1 := 62) (q := 34) dX6_movesOf_31 kF_X6_9 rfl (by decide) (by decide) rfl (by decide) rfl ?_ rfl
    refine J.bipush (q := 36) dX6_movesOf_34 (by decide) ?_ rfl
    refine J.aload_n (q := 37) dX6_movesOf_36 rfl ?_ rfl
    refine J.iload_n (q := 38) dX6_movesOf_37 rfl ?_ rfl
    refine J.iconst (q := 39) dX6_movesOf_38 ?_ rfl
    refine J.callV2i (ci := 6) (q := 42) dX6_movesOf_39 mv_X6_get kL_X6_76 rfl (by decide) rfl ⟨by decide, by decide⟩ (Nat.le_of_ble_eq_true rfl) ⟨by decide, by decide⟩ rfl (c_X6_get (by omega)) ?_
    refine J.iadd (q := 43) dX6_movesOf_42 ?_ rfl
    refine J.iald (n := 307) (q := 44) dX6_movesOf_43 rfl (by omega) ?_ rfl
    refine J.if_le (tgt := 51) (q := 47) dX6_movesOf_44 rfl rfl (fun c44 => ?_) (fun c44 => ?_)
    · refine J.iconst (q := 52) dX6_movesOf_51 ?_ rfl
      refine J.istore (q := 54) dX6_movesOf_52 (Nat.le_of_ble_eq_true rfl) ?_ rfl
      refine J.aload_n (q := 55) dX6_movesOf_54 rfl ?_ rfl
      refine J.iload_n (q := 56) dX6_movesOf_55 rfl ?_ rfl
      refine J.iconst (q := 57) dX6_movesOf_56 ?_ rfl
      refine J.callV2i (ci := 6) (q := 60) dX6_movesOf_57 mv_X6_get kL_X6_76 rfl (by decide) rfl ⟨by decide, by decide⟩ (Nat.le_of_ble_eq_true rfl) ⟨by decide, by decide⟩ rfl (c_X6_get (by omega)) ?_
      rcases (show (iv 62 (257 + 5 * k + 0) < 1 ∨ 6 < iv 62 (257 + 5 * k + 0)) ∨ iv 62 (257 + 5 * k + 0) = 1 ∨ iv 62 (257 + 5 * k + 0) = 2 ∨ iv 62 (257 + 5 * k + 0) = 3 ∨ iv 62 (257 + 5 * k + 0) = 4 ∨ iv 62 (257 + 5 * k + 0) = 5 ∨ iv 62 (257 + 5 * k + 0) = 6 by omega) with hO | hx60 | hx60 | hx60 | hx60 | hx60 | hx60
      · refine J.tabOut (tgt := 151) dX6_movesOf_60 (by omega) hO rfl ?_
        refine J.iload_n (q := 152) dX6_movesOf_151 rfl ?_ rfl
        refine J.ireturn dX6_movesOf_152 rfl ?_
        refine ⟨congrArg (fun z => some (i_ z)) ?_, rfl, rfl⟩
        unfold movM
        first
        | (rw [hx60]; simp only [*, if_true, if_false]; (try simp only [Int.reduceEq, if_true, if_false]); first | done | rfl | omega | (repeat' split) <;> omega)
        | (repeat' split) <;> omega
      · refine J.tabIn (off := 40) (tgt := 100) dX6_movesOf_60 (by omega) (by omega) (by omega) (by rw [hx60]; rfl) rfl ?_
        refine J.iload (q := 102) dX6_movesOf_100 rfl ?_ rfl
        refine J.if_eq (tgt := 109) (q := 105) dX6_movesOf_102 rfl rfl (fun c102 => ?_) (fun c102 => ?_)
        · refine J.iload_n (q := 110) dX6_movesOf_109 rfl ?_ rfl
          refine J.ireturn dX6_movesOf_110 rfl ?_
          refine ⟨congrArg (fun z => some (i_ z)) ?_, rfl, rfl⟩
          unfold movM
          first
          | (rw [hx60]; simp only [*, if_true, if_false]; (try simp only [Int.reduceEq, if_true, if_false]); first | done | rfl | omega | (repeat' split) <;> omega)
          | (repeat' split) <;> omega
        · refine J.iconst (q := 106) dX6_movesOf_105 ?_ rfl
          refine J.goto (tgt := 110) dX6_movesOf_106 rfl ?_
          refine J.ireturn dX6_movesOf_110 rfl ?_
          refine ⟨congrArg (fun z => some (i_ z)) ?_, rfl, rfl⟩
          unfold movM
          first
          | (rw [hx60]; simp only [*, if_true, if_false]; (try simp only [Int.reduceEq, if_true, if_false]); first | done | rfl | omega | (repeat' split) <;> omega)
          | (repeat' split) <;> omega
      · refine J.tabIn (off := 51) (tgt := 111) dX6_movesOf_60 (by omega) (by omega) (by omega) (by rw [hx60]; rfl) rfl ?_
        refine J.iload_n (q := 112) dX6_movesOf_111 rfl ?_ rfl
        refine J.iconst (q := 113) dX6_movesOf_112 ?_ rfl
        refine J.isub (q := 114) dX6_movesOf_113 ?_ rfl
        refine J.ireturn dX6_movesOf_114 rfl ?_
        refine ⟨congrArg (fun z => some (i_ z)) ?_, rfl, rfl⟩
        unfold movM
        first
        | (rw [hx60]; simp only [*, if_true, if_false]; (try simp only [Int.reduceEq, if_true, if_false]); first | done | rfl | omega | (repeat' split) <;> omega)
        | (repeat' split) <;> omega
      · refine J.tabIn (off := 55) (tgt := 115) dX6_movesOf_60 (by omega) (by omega) (by omega) (by rw [hx60]; rfl) rfl ?_
        refine J.iload_n (q := 116) dX6_movesOf_115 rfl ?_ rfl
        refine J.ireturn dX6_movesOf_116 rfl ?_
        refine ⟨congrArg (fun z => some (i_ z)) ?_, rfl, rfl⟩
        unfold movM
        first
        | (rw [hx60]; simp only [*, if_true, if_false]; (try simp only [Int.reduceEq, if_true, if_false]); first | done | rfl | omega | (repeat' split) <;> omega)
        | (repeat' split) <;> omega
      · refine J.tabIn (off := 57) (tgt := 117) dX6_movesOf_60 (by omega) (by omega) (by omega) (by rw [hx60]; rfl) rfl ?_
        refine J.iload_n (q := 118) dX6_movesOf_117 rfl ?_ rfl
        refine J.aload_n (q := 119) dX6_movesOf_118 rfl ?_ rfl
        refine J.getR (ci := 6) (k0 := 0) (c1 := 62) (q := 122) dX6_movesOf_119 kF_X6_9 rfl (by decide) (by decide) rfl (by decide) rfl ?_ rfl
        refine J.iconst (q := 123) dX6_movesOf_122 ?_ rfl
        refine J.iald (n := 307) (q := 124) dX6_movesOf_123 rfl (by omega) ?_ rfl
        refine J.iconst (q := 125) dX6_movesOf_124 ?_ rfl
        refine J.irem (q := 126) dX6_movesOf_125 (I3_rem (by omega) (by omega) rfl) (I3_n0 (by omega)) ?_ rfl
        refine J.if_ne (tgt := 133) (q := 129) dX6_movesOf_126 rfl rfl (fun c126 => ?_) (fun c126 => ?_)
        · refine J.iconst (q := 134) dX6_movesOf_133 ?_ rfl
          refine J.iadd (q := 135) dX6_movesOf_134 ?_ rfl
          refine J.ireturn dX6_movesOf_135 rfl ?_
          refine ⟨congrArg (fun z => some (i_ z)) ?_, rfl, rfl⟩
          unfold movM
          first
          | (rw [hx60]; simp only [*, if_true, if_false]; (try simp only [Int.reduceEq, if_true, if_false]); first | done | rfl | omega | (repeat' split) <;> omega)
          | (repeat' split) <;> omega
        · refine J.iconst (q := 130) dX6_movesOf_129 ?_ rfl
          refine J.goto (tgt := 134) dX6_movesOf_130 rfl ?_
          refine J.iadd (q := 135) dX6_movesOf_134 ?_ rfl
          refine J.ireturn dX6_movesOf_135 rfl ?_
          refine ⟨congrArg (fun z => some (i_ z)) ?_, rfl, rfl⟩
          unfold movM
          first
          | (rw [hx60]; simp only [*, if_true, if_false]; (try simp only [Int.reduceEq, if_true, if_false]); first | done | rfl | omega | (repeat' split) <;> omega)
          | (repeat' split) <;> omega
      · refine J.tabIn (off := 76) (tgt := 136) dX6_movesOf_60 (by omega) (by omega) (by omega) (by rw [hx60]; rfl) rfl ?_
        refine J.iconst (q := 137) dX6_movesOf_136 ?_ rfl
        refine J.ireturn dX6_movesOf_137 rfl ?_
        refine ⟨congrArg (fun z => some (i_ z)) ?_, rfl, rfl⟩
        unfold movM
        first
        | (rw [hx60]; simp only [*, if_true, if_false]; (try simp only [Int.reduceEq, if_true, if_false]); first | done | rfl | omega | (repeat' split) <;> omega)
        | (repeat' split) <;> omega
      · refine J.tabIn (off := 78) (tgt := 138) dX6_movesOf_60 (by omega) (by omega) (by omega) (by rw [hx60]; rfl) rfl ?_
        refine J.iload (q := 140) dX6_movesOf_138 rfl ?_ rfl
        refine J.if_eq (tgt := 147) (q := 143) dX6_movesOf_140 rfl rfl (fun c140 => ?_) (fun c140 => ?_)
        · refine J.iconst (q := 148) dX6_movesOf_147 ?_ rfl
          refine J.iload_n (q := 149) dX6_movesOf_148 rfl ?_ rfl
          refine J.imul (q := 150) dX6_movesOf_149 ?_ rfl
          refine J.ireturn dX6_movesOf_150 rfl ?_
          refine ⟨congrArg (fun z => some (i_ z)) ?_, rfl, rfl⟩
          unfold movM
          first
          | (rw [hx60]; simp only [*, if_true, if_false]; (try simp only [Int.reduceEq, if_true, if_false]); first | done | rfl | omega | (repeat' split) <;> omega)
          | (repeat' split) <;> omega
        · refine J.iconst (q := 144) dX6_movesOf_143 ?_ rfl
          refine J.goto (tgt := 150) dX6_movesOf_144 rfl ?_
          refine J.ireturn dX6_movesOf_150 rfl ?_
          refine ⟨congrArg (fun z => some (i_ z)) ?_, rfl, rfl⟩
          unfold movM
          first
          | (rw [hx60]; simp only [*, if_true, if_false]; (try simp only [Int.reduceEq, if_true, if_false]); first | done | rfl | omega | (repeat' split) <;> omega)
          | (repeat' split) <;> omega
    · refine J.iconst (q := 48) dX6_movesOf_47 ?_ rfl
      refine J.goto (tgt := 52) dX6_movesOf_48 rfl ?_
      refine J.istore (q := 54) dX6_movesOf_52 (Nat.le_of_ble_eq_true rfl) ?_ rfl
      refine J.aload_n (q := 55) dX6_movesOf_54 rfl ?_ rfl
      refine J.iload_n (q := 56) dX6_movesOf_55 rfl ?_ rfl
      refine J.iconst (q := 57) dX6_movesOf_56 ?_ rfl
      refine J.callV2i (ci := 6) (q := 60) dX6_movesOf_57 mv_X6_get kL_X6_76 rfl (by decide) rfl ⟨by decide, by decide⟩ (Nat.le_of_ble_eq_true rfl) ⟨by decide, by decide⟩ rfl (c_X6_get (by omega)) ?_
      rcases (show (iv 62 (257 + 5 * k + 0) < 1 ∨ 6 < iv 62 (257 + 5 * k + 0)) ∨ iv 62 (257 + 5 * k + 0) = 1 ∨ iv 62 (257 + 5 * k + 0) = 2 ∨ iv 62 (257 + 5 * k + 0) = 3 ∨ iv 62 (257 + 5 * k + 0) = 4 ∨ iv 62 (257 + 5 * k + 0) = 5 ∨ iv 62 (257 + 5 * k + 0) = 6 by omega) with hO | hx60 | hx60 | hx60 | hx60 | hx60 | hx60
      · refine J.tabOut (tgt := 151) dX6_movesOf_60 (by omega) hO rfl ?_
        refine J.iload_n (q := 152) dX6_movesOf_151 rfl ?_ rfl
        refine J.ireturn dX6_movesOf_152 rfl ?_
        refine ⟨congrArg (fun z => some (i_ z)) ?_, rfl, rfl⟩
        unfold movM
        first
        | (rw [hx60]; simp only [*, if_true, if_false]; (try simp only [Int.reduceEq, if_true, if_false]); first | done | rfl | omega | (repeat' split) <;> omega)
        | (repeat' split) <;> omega
      · refine J.tabIn (off := 40) (tgt := 100) dX6_movesOf_60 (by omega) (by omega) (by omega) (by rw [hx60]; rfl) rfl ?_
        refine J.iload (q := 102) dX6_movesOf_100 rfl ?_ rfl
        refine J.if_eq (tgt := 109) (q := 105) dX6_movesOf_102 rfl rfl (fun c102 => ?_) (fun c102 => ?_)
        · refine J.iload_n (q := 110) dX6_movesOf_109 rfl ?_ rfl
          refine J.ireturn dX6_movesOf_110 rfl ?_
          refine ⟨congrArg (fun z => some (i_ z)) ?_, rfl, rfl⟩
          unfold movM
          first
          | (rw [hx60]; simp only [*, if_true, if_false]; (try simp only [Int.reduceEq, if_true, if_false]); first | done | rfl | omega | (repeat' split) <;> omega)
          | (repeat' split) <;> omega
        · refine J.iconst (q := 106) dX6_movesOf_105 ?_ rfl
          refine J.goto (tgt := 110) dX6_movesOf_106 rfl ?_
          refine J.ireturn dX6_movesOf_110 rfl ?_
          refine ⟨congrArg (fun z => some (i_ z)) ?_, rfl, rfl⟩
          unfold movM
          first
          | (rw [hx60]; simp only [*, if_true, if_false]; (try simp only [Int.reduceEq, if_true, if_false]); first | done | rfl | omega | (repeat' split) <;> omega)
          | (repeat' split) <;> omega
      · refine J.tabIn (off := 51) (tgt := 111) dX6_movesOf_60 (by omega) (by omega) (by omega) (by rw [hx60]; rfl) rfl ?_
        refine J.iload_n (q := 112) dX6_movesOf_111 rfl ?_ rfl
        refine J.iconst (q := 113) dX6_movesOf_112 ?_ rfl
        refine J.isub (q := 114) dX6_movesOf_113 ?_ rfl
        refine J.ireturn dX6_movesOf_114 rfl ?_
        refine ⟨congrArg (fun z => some (i_ z)) ?_, rfl, rfl⟩
        unfold movM
        first
        | (rw [hx60]; simp only [*, if_true, if_false]; (try simp only [Int.reduceEq, if_true, if_false]); first | done | rfl | omega | (repeat' split) <;> omega)
        | (repeat' split) <;> omega
      · refine J.tabIn (off := 55) (tgt := 115) dX6_movesOf_60 (by omega) (by omega) (by omega) (by rw [hx60]; rfl) rfl ?_
        refine J.iload_n (q := 116) dX6_movesOf_115 rfl ?_ rfl
        refine J.ireturn dX6_movesOf_116 rfl ?_
        refine ⟨congrArg (fun z => some (i_ z)) ?_, rfl, rfl⟩
        unfold movM
        first
        | (rw [hx60]; simp only [*, if_true, if_false]; (try simp only [Int.reduceEq, if_true, if_false]); first | done | rfl | omega | (repeat' split) <;> omega)
        | (repeat' split) <;> omega
      · refine J.tabIn (off := 57) (tgt := 117) dX6_movesOf_60 (by omega) (by omega) (by omega) (by rw [hx60]; rfl) rfl ?_
        refine J.iload_n (q := 118) dX6_movesOf_117 rfl ?_ rfl
        refine J.aload_n (q := 119) dX6_movesOf_118 rfl ?_ rfl
        refine J.getR (ci := 6) (k0 := 0) (c1 := 62) (q := 122) dX6_movesOf_119 kF_X6_9 rfl (by decide) (by decide) rfl (by decide) rfl ?_ rfl
        refine J.iconst (q := 123) dX6_movesOf_122 ?_ rfl
        refine J.iald (n := 307) (q := 124) dX6_movesOf_123 rfl (by omega) ?_ rfl
        refine J.iconst (q := 125) dX6_movesOf_124 ?_ rfl
        refine J.irem (q := 126) dX6_movesOf_125 (I3_rem (by omega) (by omega) rfl) (I3_n0 (by omega)) ?_ rfl
        refine J.if_ne (tgt := 133) (q := 129) dX6_movesOf_126 rfl rfl (fun c126 => ?_) (fun c126 => ?_)
        · refine J.iconst (q := 134) dX6_movesOf_133 ?_ rfl
          refine J.iadd (q := 135) dX6_movesOf_134 ?_ rfl
          refine J.ireturn dX6_movesOf_135 rfl ?_
          refine ⟨congrArg (fun z => some (i_ z)) ?_, rfl, rfl⟩
          unfold movM
          first
          | (rw [hx60]; simp only [*, if_true, if_false]; (try simp only [Int.reduceEq, if_true, if_false]); first | done | rfl | omega | (repeat' split) <;> omega)
          | (repeat' split) <;> omega
        · refine J.iconst (q := 130) dX6_movesOf_129 ?_ rfl
          refine J.goto (tgt := 134) dX6_movesOf_130 rfl ?_
          refine J.iadd (q := 135) dX6_movesOf_134 ?_ rfl
          refine J.ireturn dX6_movesOf_135 rfl ?_
          refine ⟨congrArg (fun z => some (i_ z)) ?_, rfl, rfl⟩
          unfold movM
          first
          | (rw [hx60]; simp only [*, if_true, if_false]; (try simp only [Int.reduceEq, if_true, if_false]); first | done | rfl | omega | (repeat' split) <;> omega)
          | (repeat' split) <;> omega
      · refine J.tabIn (off := 76) (tgt := 136) dX6_movesOf_60 (by omega) (by omega) (by omega) (by rw [hx60]; rfl) rfl ?_
        refine J.iconst (q := 137) dX6_movesOf_136 ?_ rfl
        refine J.ireturn dX6_movesOf_137 rfl ?_
        refine ⟨congrArg (fun z => some (i_ z)) ?_, rfl, rfl⟩
        unfold movM
        first
        | (rw [hx60]; simp only [*, if_true, if_false]; (try simp only [Int.reduceEq, if_true, if_false]); first | done | rfl | omega | (repeat' split) <;> omega)
        | (repeat' split) <;> omega
      · refine J.tabIn (off := 78) (tgt := 138) dX6_movesOf_60 (by omega) (by omega) (by omega) (by rw [hx60]; rfl) rfl ?_
        refine J.iload (q := 140) dX6_movesOf_138 rfl ?_ rfl
        refine J.if_eq (tgt := 147) (q := 143) dX6_movesOf_140 rfl rfl (fun c140 => ?_) (fun c140 => ?_)
        · refine J.iconst (q := 148) dX6_movesOf_147 ?_ rfl
          refine J.iload_n (q := 149) dX6_movesOf_148 rfl ?_ rfl
          refine J.imul (q := 150) dX6_movesOf_149 ?_ rfl
          refine J.ireturn dX6_movesOf_150 rfl ?_
          refine ⟨congrArg (fun z => some (i_ z)) ?_, rfl, rfl⟩
          unfold movM
          first
          | (rw [hx60]; simp only [*, if_true, if_false]; (try simp only [Int.reduceEq, if_true, if_false]); first | done | rfl | omega | (repeat' split) <;> omega)
          | (repeat' split) <;> omega
        · refine J.iconst (q := 144) dX6_movesOf_143 ?_ rfl
          refine J.goto (tgt := 150) dX6_movesOf_144 rfl ?_
          refine J.ireturn dX6_movesOf_150 rfl ?_
          refine ⟨congrArg (fun z => some (i_ z)) ?_, rfl, rfl⟩
          unfold movM
          first
          | (rw [hx60]; simp only [*, if_true, if_false]; (try simp only [Int.reduceEq, if_true, if_false]); first | done | rfl | omega | (repeat' split) <;> omega)
          | (repeat' split) <;> omega

set_option maxRecDepth 100000 in
set_option maxHeartbeats 4000000 in
theorem c_X6_comesUnder {l : Launch} {F : Nat × (Int → Int)} {D : Int} {iv : Mm} {X : P2} {c w : Int} (hI : MI D X.1) (hc : 0 ≤ c ∧ c ≤ 80) (hl : 0 ≤ w ∧ w ≤ 7) : Ctr l F 0 0 0 yX6_comesUnder cX6_comesUnder 3 none [r_ 61, i_ c, i_ w] S0 (mk2 iv X) (Ret none S0 (mk2 iv (come X c w))) := by
  refine Ctr.of false (fun h => by cases h) (by decide) rfl (Nat.le_of_ble_eq_true rfl) ?_
  have hf := (hI.cel c hc.1 hc.2).2.2
  have hcl := hI.cla
  refine J.aload_n (q := 1) dX6_comesUnder_0 rfl ?_ rfl
  refine J.getR (ci := 6) (k0 := 0) (c1 := 62) (q := 4) dX6_comesUnder_1 kF_X6_9 rfl (by decide) (by decide) rfl (by decide) rfl ?_ rfl
  refine J.sipush (q := 7) dX6_comesUnder_4 (by decide) ?_ rfl
  refine J.iload_n (q := 8) dX6_comesUnder_7 rfl ?_ rfl
  refine J.iadd (q := 9) dX6_comesUnder_8 ?_ rfl
  refine J.iald (n := 307) (q := 10) dX6_comesUnder_9 rfl (by omega) ?_ rfl
  try simp only [mk2_62, mk2_69, mk2_up62, mk2_up69]
  refine J.if_lt (tgt := 62) (q := 13) dX6_comesUnder_10 rfl rfl (fun c10 => ?_) (fun c10 => ?_)
  · have hn : ¬ (0 ≤ X.1 (176 + c) ∧ X.1 (176 + c) ≠ w) := by omega
    refine J.aload_n (q := 63) dX6_comesUnder_62 rfl ?_ rfl
    refine J.getR (ci := 6) (k0 := 0) (c1 := 62) (q := 66) dX6_comesUnder_63 kF_X6_9 rfl (by decide) (by decide) rfl (by decide) rfl ?_ rfl
    refine J.sipush (q := 69) dX6_comesUnder_66 (by decide) ?_ rfl
    refine J.iload_n (q := 70) dX6_comesUnder_69 rfl ?_ rfl
    refine J.iadd (q := 71) dX6_comesUnder_70 ?_ rfl
    refine J.iload_n (q := 72) dX6_comesUnder_71 rfl ?_ rfl
    refine J.iast (n := 307) (q := 73) dX6_comesUnder_72 rfl (by omega) ?_ rfl
    try simp only [mk2_62, mk2_69, mk2_up62, mk2_up69]
    refine J.vreturn dX6_comesUnder_73 rfl ?_
    refine ⟨rfl, rfl, ?_⟩
    unfold come
    first
    | (rw [if_neg hn, if_neg hn]; done)
    | (rw [if_pos hn, if_pos hn, if_pos (by omega)]; done)
    | (rw [if_pos hn, if_pos hn, if_neg (by omega)]; done)
  · refine J.aload_n (q := 14) dX6_comesUnder_13 rfl ?_ rfl
    refine J.getR (ci := 6) (k0 := 0) (c1 := 62) (q := 17) dX6_comesUnder_14 kF_X6_9 rfl (by decide) (by decide) rfl (by decide) rfl ?_ rfl
    refine J.sipush (q := 20) dX6_comesUnder_17 (by decide) ?_ rfl
    refine J.iload_n (q := 21) dX6_comesUnder_20 rfl ?_ rfl
    refine J.iadd (q := 22) dX6_comesUnder_21 ?_ rfl
    refine J.iald (n := 307) (q := 23) dX6_comesUnder_22 rfl (by omega) ?_ rfl
    try simp only [mk2_62, mk2_69, mk2_up62, mk2_up69]
    refine J.iload_n (q := 24) dX6_comesUnder_23 rfl ?_ rfl
    refine J.icmp_eq (tgt := 62) (q := 27) dX6_comesUnder_24 rfl rfl (fun c24 => ?_) (fun c24 => ?_)
    · have hn : ¬ (0 ≤ X.1 (176 + c) ∧ X.1 (176 + c) ≠ w) := by omega
      refine J.aload_n (q := 63) dX6_comesUnder_62 rfl ?_ rfl
      refine J.getR (ci := 6) (k0 := 0) (c1 := 62) (q := 66) dX6_comesUnder_63 kF_X6_9 rfl (by decide) (by decide) rfl (by decide) rfl ?_ rfl
      refine J.sipush (q := 69) dX6_comesUnder_66 (by decide) ?_ rfl
      refine J.iload_n (q := 70) dX6_comesUnder_69 rfl ?_ rfl
      refine J.iadd (q := 71) dX6_comesUnder_70 ?_ rfl
      refine J.iload_n (q := 72) dX6_comesUnder_71 rfl ?_ rfl
      refine J.iast (n := 307) (q := 73) dX6_comesUnder_72 rfl (by omega) ?_ rfl
      try simp only [mk2_62, mk2_69, mk2_up62, mk2_up69]
      refine J.vreturn dX6_comesUnder_73 rfl ?_
      refine ⟨rfl, rfl, ?_⟩
      unfold come
      first
      | (rw [if_neg hn, if_neg hn]; done)
      | (rw [if_pos hn, if_pos hn, if_pos (by omega)]; done)
      | (rw [if_pos hn, if_pos hn, if_neg (by omega)]; done)
    · have hn : 0 ≤ X.1 (176 + c) ∧ X.1 (176 + c) ≠ w := by omega
      refine J.aload_n (q := 28) dX6_comesUnder_27 rfl ?_ rfl
      refine J.getR (ci := 6) (k0 := 0) (c1 := 62) (q := 31) dX6_comesUnder_28 kF_X6_9 rfl (by decide) (by decide) rfl (by decide) rfl ?_ rfl
      refine J.iconst (q := 32) dX6_comesUnder_31 ?_ rfl
      refine J.dup2 (q := 33) dX6_comesUnder_32 rfl rfl ?_ rfl
      refine J.iald (n := 307) (q := 34) dX6_comesUnder_33 rfl (by omega) ?_ rfl
      try simp only [mk2_62, mk2_69, mk2_up62, mk2_up69]
      refine J.aload_n (q := 35) dX6_comesUnder_34 rfl ?_ rfl
      refine J.getR (ci := 6) (k0 := 0) (c1 := 62) (q := 38) dX6_comesUnder_35 kF_X6_9 rfl (by decide) (by decide) rfl (by decide) rfl ?_ rfl
      refine J.iconst (q := 39) dX6_comesUnder_38 ?_ rfl
      refine J.iald (n := 307) (q := 40) dX6_comesUnder_39 rfl (by omega) ?_ rfl
      try simp only [mk2_62, mk2_69, mk2_up62, mk2_up69]
      refine J.ldc (q := 42) (z := 99999) dX6_comesUnder_40 kK_X6_83 ?_ rfl
      refine J.icmp_ge (tgt := 49) (q := 45) dX6_comesUnder_42 rfl rfl (fun c42 => ?_) (fun c42 => ?_)
      · refine J.iconst (q := 50) dX6_comesUnder_49 ?_ rfl
        refine J.iadd (q := 51) dX6_comesUnder_50 ?_ rfl
        refine J.iast (n := 307) (q := 52) dX6_comesUnder_51 rfl (by omega) ?_ rfl
        try simp only [mk2_62, mk2_69, mk2_up62, mk2_up69]
        refine J.aload_n (q := 53) dX6_comesUnder_52 rfl ?_ rfl
        refine J.getR (ci := 6) (k0 := 8) (c1 := 69) (q := 56) dX6_comesUnder_53 kF_X6_32 rfl (by decide) (by decide) rfl (by decide) rfl ?_ rfl
        refine J.iload_n (q := 57) dX6_comesUnder_56 rfl ?_ rfl
        refine J.dup2 (q := 58) dX6_comesUnder_57 rfl rfl ?_ rfl
        refine J.iald (n := 81) (q := 59) dX6_comesUnder_58 rfl (by omega) ?_ rfl
        try simp only [mk2_62, mk2_69, mk2_up62, mk2_up69]
        refine J.iconst (q := 60) dX6_comesUnder_59 ?_ rfl
        refine J.iadd (q := 61) dX6_comesUnder_60 ?_ rfl
        refine J.iast (n := 81) (q := 62) dX6_comesUnder_61 rfl (by omega) ?_ rfl
        try simp only [mk2_62, mk2_69, mk2_up62, mk2_up69]
        refine J.aload_n (q := 63) dX6_comesUnder_62 rfl ?_ rfl
        refine J.getR (ci := 6) (k0 := 0) (c1 := 62) (q := 66) dX6_comesUnder_63 kF_X6_9 rfl (by decide) (by decide) rfl (by decide) rfl ?_ rfl
        refine J.sipush (q := 69) dX6_comesUnder_66 (by decide) ?_ rfl
        refine J.iload_n (q := 70) dX6_comesUnder_69 rfl ?_ rfl
        refine J.iadd (q := 71) dX6_comesUnder_70 ?_ rfl
        refine J.iload_n (q := 72) dX6_comesUnder_71 rfl ?_ rfl
        refine J.iast (n := 307) (q := 73) dX6_comesUnder_72 rfl (by omega) ?_ rfl
        try simp only [mk2_62, mk2_69, mk2_up62, mk2_up69]
        refine J.vreturn dX6_comesUnder_73 rfl ?_
        refine ⟨rfl, rfl, ?_⟩
        unfold come
        first
        | (rw [if_neg hn, if_neg hn]; done)
        | (rw [if_pos hn, if_pos hn, if_pos (by omega)]; done)
        | (rw [if_pos hn, if_pos hn, if_neg (by omega)]; done)
      · refine J.iconst (q := 46) dX6_comesUnder_45 ?_ rfl
        refine J.goto (tgt := 50) dX6_comesUnder_46 rfl ?_
        refine J.iadd (q := 51) dX6_comesUnder_50 ?_ rfl
        refine J.iast (n := 307) (q := 52) dX6_comesUnder_51 rfl (by omega) ?_ rfl
        try simp only [mk2_62, mk2_69, mk2_up62, mk2_up69]
        refine J.aload_n (q := 53) dX6_comesUnder_52 rfl ?_ rfl
        refine J.getR (ci := 6) (k0 := 8) (c1 := 69) (q := 56) dX6_comesUnder_53 kF_X6_32 rfl (by decide) (by decide) rfl (by decide) rfl ?_ rfl
        refine J.iload_n (q := 57) dX6_comesUnder_56 rfl ?_ rfl
        refine J.dup2 (q := 58) dX6_comesUnder_57 rfl rfl ?_ rfl
        refine J.iald (n := 81) (q := 59) dX6_comesUnder_58 rfl (by omega) ?_ rfl
        try simp only [mk2_62, mk2_69, mk2_up62, mk2_up69]
        refine J.iconst (q := 60) dX6_comesUnder_59 ?_ rfl
        refine J.iadd (q := 61) dX6_comesUnder_60 ?_ rfl
        refine J.iast (n := 81) (q := 62) dX6_comesUnder_61 rfl (by omega) ?_ rfl
        try simp only [mk2_62, mk2_69, mk2_up62, mk2_up69]
        refine J.aload_n (q := 63) dX6_comesUnder_62 rfl ?_ rfl
        refine J.getR (ci := 6) (k0 := 0) (c1 := 62) (q := 66) dX6_comesUnder_63 kF_X6_9 rfl (by decide) (by decide) rfl (by decide) rfl ?_ rfl
        refine J.sipush (q := 69) dX6_comesUnder_66 (by decide) ?_ rfl
        refine J.iload_n (q := 70) dX6_comesUnder_69 rfl ?_ rfl
        refine J.iadd (q := 71) dX6_comesUnder_70 ?_ rfl
        refine J.iload_n (q := 72) dX6_comesUnder_71 rfl ?_ rfl
        refine J.iast (n := 307) (q := 73) dX6_comesUnder_72 rfl (by omega) ?_ rfl
        try simp only [mk2_62, mk2_69, mk2_up62, mk2_up69]
        refine J.vreturn dX6_comesUnder_73 rfl ?_
        refine ⟨rfl, rfl, ?_⟩
        unfold come
        first
        | (rw [if_neg hn, if_neg hn]; done)
        | (rw [if_pos hn, if_pos hn, if_pos (by omega)]; done)
        | (rw [if_pos hn, if_pos hn, if_neg (by omega)]; done)

set_option maxRecDepth 100000 in
set_option maxHeartbeats 4000000 in
theorem nextOf_w {l : Launch} {F : Nat × (Int → Int)} {iv : Mm} {fr : Int → Int → Int} {k : Int} (hk : 0 ≤ k ∧ k < 8) (hfar : ∀ c, 0 ≤ c → c ≤ 80 → iv 66 (81 * k + c) = fr k c ∧ 0 ≤ fr k c ∧ fr k c ≤ 99) {a t w : Int} {x5 : Option VT} (ha : 0 ≤ a ∧ a ≤ 80) (hh : 0 ≤ iv 62 (14 + a) ∧ iv 62 (14 + a) ≤ 1) (hnh : iv 62 (14 + a) ≠ 1) (hw : 0 ≤ w ∧ w ≤ 3) (K : ∀ y5 : Option VT, J l (yX6_nextOf).cls cX6_nextOf 6 (some FieldType.int) 1 0 0 false F (Ret (some (i_ (nxtM fr (iv 62) k))) S0 iv) 0 0 12 [some (r_ 61), some (i_ k), some (i_ a), some (i_ (nx1 fr k a w t)), some (i_ (w + -1)), y5] [] S0 iv) : J l (yX6_nextOf).cls cX6_nextOf 6 (some FieldType.int) 1 0 0 false F (Ret (some (i_ (nxtM fr (iv 62) k))) S0 iv) 0 0 12 [some (r_ 61), some (i_ k), some (i_ a), some (i_ t), some (i_ (w)), x5] [] S0 (iv) := by
  have hbr := besM_rng (w := w) ha
  refine J.iload (q := 14) dX6_nextOf_12 rfl ?_ rfl
  refine J.if_lt (tgt := 67) (q := 17) dX6_nextOf_14 rfl rfl (fun c => absurd c (by omega)) (fun c14 => ?_)
  refine J.aload_n (q := 18) dX6_nextOf_17 rfl ?_ rfl
  refine J.iload_n (q := 19) dX6_nextOf_18 rfl ?_ rfl
  refine J.callV1i (ci := 6) (q := 22) dX6_nextOf_19 mv_X6_isHedge kL_X6_69 rfl (by decide) rfl ⟨by decide, by decide⟩ (Nat.le_of_ble_eq_true rfl) ⟨by decide, by decide⟩ rfl (c_X6_isHedge (by omega) (by omega)) ?_
  refine J.ifb_ne (tgt := 67) (q := 25) dX6_nextOf_22 rfl rfl (fun c => absurd c hnh) (fun c22 => ?_)
  refine J.iload_n (q := 26) dX6_nextOf_25 rfl ?_ rfl
  refine J.iload (q := 28) dX6_nextOf_26 rfl ?_ rfl
  refine J.callS2i (q := 31) dX6_nextOf_28 mv_X6_beside kS_X6_beside kL_X6_65 ⟨by decide, by decide⟩ (Nat.le_of_ble_eq_true rfl) ⟨by decide, by decide⟩ rfl (c_X6_beside (by omega) (by omega)) ?_
  refine J.istore (q := 33) dX6_nextOf_31 (Nat.le_of_ble_eq_true rfl) ?_ rfl
  refine J.iload (q := 35) dX6_nextOf_33 rfl ?_ rfl
  refine J.if_lt (tgt := 59) (q := 38) dX6_nextOf_35 rfl rfl (fun c35 => ?_) (fun c35 => ?_)
  · have hn : nx1 fr k a w t = t := if_neg (fun z => by omega)
    refine J.iload_n (q := 60) dX6_nextOf_59 rfl ?_ rfl
    refine J.istore_n (q := 61) dX6_nextOf_60 (Nat.le_of_ble_eq_true rfl) ?_ rfl
    refine J.iinc (q := 64) dX6_nextOf_61 rfl ?_ rfl
    refine J.goto (tgt := 12) dX6_nextOf_64 rfl ?_
    rw [hn] at K
    exact K _
  · refine J.aload_n (q := 39) dX6_nextOf_38 rfl ?_ rfl
    refine J.iload_n (q := 40) dX6_nextOf_39 rfl ?_ rfl
    refine J.iload (q := 42) dX6_nextOf_40 rfl ?_ rfl
    refine J.callV2i (ci := 6) (q := 45) dX6_nextOf_42 mv_X6_farBy kL_X6_84 rfl (by decide) rfl ⟨by decide, by decide⟩ (Nat.le_of_ble_eq_true rfl) ⟨by decide, by decide⟩ rfl (c_X6_farBy (by omega) (by omega)) ?_
    refine J.aload_n (q := 46) dX6_nextOf_45 rfl ?_ rfl
    refine J.iload_n (q := 47) dX6_nextOf_46 rfl ?_ rfl
    refine J.iload_n (q := 48) dX6_nextOf_47 rfl ?_ rfl
    refine J.callV2i (ci := 6) (q := 51) dX6_nextOf_48 mv_X6_farBy kL_X6_84 rfl (by decide) rfl ⟨by decide, by decide⟩ (Nat.le_of_ble_eq_true rfl) ⟨by decide, by decide⟩ rfl (c_X6_farBy (by omega) (by omega)) ?_
    obtain ⟨e1, e1a⟩ := hfar (besM a w) (by omega) (by omega)
    obtain ⟨e2, e2a⟩ := hfar a (by omega) (by omega)
    rw [e1, e2]
    refine J.icmp_ge (tgt := 59) (q := 54) dX6_nextOf_51 rfl rfl (fun c51 => ?_) (fun c51 => ?_)
    · have hn : nx1 fr k a w t = t := if_neg (fun z => by omega)
      refine J.iload_n (q := 60) dX6_nextOf_59 rfl ?_ rfl
      refine J.istore_n (q := 61) dX6_nextOf_60 (Nat.le_of_ble_eq_true rfl) ?_ rfl
      refine J.iinc (q := 64) dX6_nextOf_61 rfl ?_ rfl
      refine J.goto (tgt := 12) dX6_nextOf_64 rfl ?_
      rw [hn] at K
      exact K _
    · have hn : nx1 fr k a w t = besM a w := if_pos ⟨by omega, by omega⟩
      refine J.iload (q := 56) dX6_nextOf_54 rfl ?_ rfl
      refine J.goto (tgt := 60) dX6_nextOf_56 rfl ?_
      refine J.istore_n (q := 61) dX6_nextOf_60 (Nat.le_of_ble_eq_true rfl) ?_ rfl
      refine J.iinc (q := 64) dX6_nextOf_61 rfl ?_ rfl
      refine J.goto (tgt := 12) dX6_nextOf_64 rfl ?_
      rw [hn] at K
      exact K _

set_option maxRecDepth 100000 in
set_option maxHeartbeats 4000000 in
theorem c_X6_nextOf {l : Launch} {F : Nat × (Int → Int)} {iv : Mm} {fr : Int → Int → Int} {k : Int} (hk : 0 ≤ k ∧ k < 8) (hfar : ∀ c, 0 ≤ c → c ≤ 80 → iv 66 (81 * k + c) = fr k c ∧ 0 ≤ fr k c ∧ fr k c ≤ 99) (ha : 0 ≤ iv 62 (257 + 5 * k + 1) ∧ iv 62 (257 + 5 * k + 1) ≤ 80) (hh : 0 ≤ iv 62 (14 + iv 62 (257 + 5 * k + 1)) ∧ iv 62 (14 + iv 62 (257 + 5 * k + 1)) ≤ 1) : Ctr l F 1 0 0 yX6_nextOf cX6_nextOf 6 (some FieldType.int) [r_ 61, i_ k] S0 (iv) (Ret (some (i_ (nxtM fr (iv 62) k))) S0 iv) := by
  refine Ctr.of false (fun h => by cases h) (by decide) rfl (Nat.le_of_ble_eq_true rfl) ?_
  refine J.aload_n (q := 1) dX6_nextOf_0 rfl ?_ rfl
  refine J.iload_n (q := 2) dX6_nextOf_1 rfl ?_ rfl
  refine J.iconst (q := 3) dX6_nextOf_2 ?_ rfl
  refine J.callV2i (ci := 6) (q := 6) dX6_nextOf_3 mv_X6_get kL_X6_76 rfl (by decide) rfl ⟨by decide, by decide⟩ (Nat.le_of_ble_eq_true rfl) ⟨by decide, by decide⟩ rfl (c_X6_get (by omega)) ?_
  refine J.istore_n (q := 7) dX6_nextOf_6 (Nat.le_of_ble_eq_true rfl) ?_ rfl
  refine J.iload_n (q := 8) dX6_nextOf_7 rfl ?_ rfl
  refine J.istore_n (q := 9) dX6_nextOf_8 (Nat.le_of_ble_eq_true rfl) ?_ rfl
  refine J.iconst (q := 10) dX6_nextOf_9 ?_ rfl
  refine J.istore (q := 12) dX6_nextOf_10 (Nat.le_of_ble_eq_true rfl) ?_ rfl
  by_cases hnh : iv 62 (14 + iv 62 (257 + 5 * k + 1)) = 1
  · refine J.iload (q := 14) dX6_nextOf_12 rfl ?_ rfl
    refine J.if_lt (tgt := 67) (q := 17) dX6_nextOf_14 rfl rfl (fun c => absurd c (by omega)) (fun _ => ?_)
    refine J.aload_n (q := 18) dX6_nextOf_17 rfl ?_ rfl
    refine J.iload_n (q := 19) dX6_nextOf_18 rfl ?_ rfl
    refine J.callV1i (ci := 6) (q := 22) dX6_nextOf_19 mv_X6_isHedge kL_X6_69 rfl (by decide) rfl ⟨by decide, by decide⟩ (Nat.le_of_ble_eq_true rfl) ⟨by decide, by decide⟩ rfl (c_X6_isHedge (by omega) (by omega)) ?_
    refine J.ifb_ne (tgt := 67) (q := 25) dX6_nextOf_22 rfl rfl (fun _ => ?_) (fun c => absurd hnh c)
    refine J.iload_n (q := 68) dX6_nextOf_67 rfl ?_ rfl
    refine J.ireturn dX6_nextOf_68 rfl ?_
    exact ⟨by unfold nxtM; rw [if_pos hnh], rfl, rfl⟩
  refine nextOf_w hk hfar (a := iv 62 (257 + 5 * k + 1)) (w := 3) ha hh hnh (by omega) (fun y5 => ?_)
  refine nextOf_w hk hfar (w := 3 + -1) ha hh hnh (by omega) (fun y6 => ?_)
  refine nextOf_w hk hfar (w := 3 + -1 + -1) ha hh hnh (by omega) (fun y7 => ?_)
  refine nextOf_w hk hfar (w := 3 + -1 + -1 + -1) ha hh hnh (by omega) (fun y8 => ?_)
  refine J.iload (q := 14) dX6_nextOf_12 rfl ?_ rfl
  refine J.if_lt (tgt := 67) (q := 17) dX6_nextOf_14 rfl rfl (fun c14 => ?_) (fun c => absurd c (by omega))
  refine J.iload_n (q := 68) dX6_nextOf_67 rfl ?_ rfl
  refine J.ireturn dX6_nextOf_68 rfl ?_
  exact ⟨by unfold nxtM; rw [if_neg hnh]; rfl, rfl, rfl⟩

