/-! the reference: its small methods (printed by wip/whole/m_model1.py) -/
set_option maxRecDepth 100000 in
set_option maxHeartbeats 4000000 in
theorem c_X6_in1 {l : Launch} {F : Nat × (Int → Int)} {iv : Mm} {v a b : Int} (hv : -2147483648 ≤ v ∧ v < 2147483648) (ha : -2147483648 ≤ a ∧ a < 2147483648) (hb : -2147483648 ≤ b ∧ b < 2147483648) : Ctr l F 0 0 0 yX6_in1 cX6_in1 3 (some FieldType.boolean) [i_ v, i_ a, i_ b] S0 (iv) (Ret (some (i_ (b2 (a ≤ v ∧ v ≤ b)))) S0 iv) := by
  refine Ctr.of false (fun h => by cases h) (by decide) rfl (Nat.le_of_ble_eq_true rfl) ?_
  refine J.iload_n (q := 1) dX6_in1_0 rfl ?_ rfl
  refine J.iload_n (q := 2) dX6_in1_1 rfl ?_ rfl
  refine J.icmp_lt (tgt := 14) (q := 5) dX6_in1_2 rfl rfl (fun c2 => ?_) (fun c2 => ?_)
  · refine J.iconst (q := 15) dX6_in1_14 ?_ rfl
    refine J.zreturn dX6_in1_15 rfl (by omega) ?_
    first
    | exact ⟨rfl, rfl, rfl⟩
    | (refine ⟨congrArg (fun z => some (i_ z)) ?_, rfl, rfl⟩; first | rfl | omega | (simp only [b2]; split <;> omega) | (simp only [b2, *]; split <;> omega))
  · refine J.iload_n (q := 6) dX6_in1_5 rfl ?_ rfl
    refine J.iload_n (q := 7) dX6_in1_6 rfl ?_ rfl
    refine J.icmp_gt (tgt := 14) (q := 10) dX6_in1_7 rfl rfl (fun c7 => ?_) (fun c7 => ?_)
    · refine J.iconst (q := 15) dX6_in1_14 ?_ rfl
      refine J.zreturn dX6_in1_15 rfl (by omega) ?_
      first
      | exact ⟨rfl, rfl, rfl⟩
      | (refine ⟨congrArg (fun z => some (i_ z)) ?_, rfl, rfl⟩; first | rfl | omega | (simp only [b2]; split <;> omega) | (simp only [b2, *]; split <;> omega))
    · refine J.iconst (q := 11) dX6_in1_10 ?_ rfl
      refine J.goto (tgt := 15) dX6_in1_11 rfl ?_
      refine J.zreturn dX6_in1_15 rfl (by omega) ?_
      first
      | exact ⟨rfl, rfl, rfl⟩
      | (refine ⟨congrArg (fun z => some (i_ z)) ?_, rfl, rfl⟩; first | rfl | omega | (simp only [b2]; split <;> omega) | (simp only [b2, *]; split <;> omega))

set_option maxRecDepth 100000 in
set_option maxHeartbeats 4000000 in
theorem c_X6_isCell {l : Launch} {F : Nat × (Int → Int)} {iv : Mm} {v : Int} (hv : -2147483648 ≤ v ∧ v < 2147483648) : Ctr l F 1 0 0 yX6_isCell cX6_isCell 1 (some FieldType.boolean) [i_ v] S0 (iv) (Ret (some (i_ (b2 (0 ≤ v ∧ v ≤ 80)))) S0 iv) := by
  refine Ctr.of false (fun h => by cases h) (by decide) rfl (Nat.le_of_ble_eq_true rfl) ?_
  refine J.iload_n (q := 1) dX6_isCell_0 rfl ?_ rfl
  refine J.iconst (q := 2) dX6_isCell_1 ?_ rfl
  refine J.bipush (q := 4) dX6_isCell_2 (by decide) ?_ rfl
  refine J.callS3i (q := 7) dX6_isCell_4 mv_X6_in1 kS_X6_in1 kL_X6_61 ⟨by decide, by decide⟩ (Nat.le_of_ble_eq_true rfl) ⟨by decide, by decide⟩ rfl (c_X6_in1 (by omega) (by omega) (by omega)) ?_
  refine J.zreturn dX6_isCell_7 rfl b2_01 ?_
  first
  | exact ⟨rfl, rfl, rfl⟩
  | (refine ⟨congrArg (fun z => some (i_ z)) ?_, rfl, rfl⟩; first | rfl | omega | (simp only [b2]; split <;> omega) | (simp only [b2, *]; split <;> omega))

set_option maxRecDepth 100000 in
set_option maxHeartbeats 4000000 in
theorem c_X6_isLaw {l : Launch} {F : Nat × (Int → Int)} {iv : Mm} {v : Int} (hv : -2147483648 ≤ v ∧ v < 2147483648) : Ctr l F 1 0 0 yX6_isLaw cX6_isLaw 1 (some FieldType.boolean) [i_ v] S0 (iv) (Ret (some (i_ (b2 (0 ≤ v ∧ v ≤ 7)))) S0 iv) := by
  refine Ctr.of false (fun h => by cases h) (by decide) rfl (Nat.le_of_ble_eq_true rfl) ?_
  refine J.iload_n (q := 1) dX6_isLaw_0 rfl ?_ rfl
  refine J.iconst (q := 2) dX6_isLaw_1 ?_ rfl
  refine J.bipush (q := 4) dX6_isLaw_2 (by decide) ?_ rfl
  refine J.callS3i (q := 7) dX6_isLaw_4 mv_X6_in1 kS_X6_in1 kL_X6_61 ⟨by decide, by decide⟩ (Nat.le_of_ble_eq_true rfl) ⟨by decide, by decide⟩ rfl (c_X6_in1 (by omega) (by omega) (by omega)) ?_
  refine J.zreturn dX6_isLaw_7 rfl b2_01 ?_
  first
  | exact ⟨rfl, rfl, rfl⟩
  | (refine ⟨congrArg (fun z => some (i_ z)) ?_, rfl, rfl⟩; first | rfl | omega | (simp only [b2]; split <;> omega) | (simp only [b2, *]; split <;> omega))

set_option maxRecDepth 100000 in
set_option maxHeartbeats 4000000 in
theorem c_X6_isDeed {l : Launch} {F : Nat × (Int → Int)} {iv : Mm} {v : Int} (hv : -2147483648 ≤ v ∧ v < 2147483648) : Ctr l F 1 0 0 yX6_isDeed cX6_isDeed 1 (some FieldType.boolean) [i_ v] S0 (iv) (Ret (some (i_ (b2 (0 ≤ v ∧ v ≤ 7)))) S0 iv) := by
  refine Ctr.of false (fun h => by cases h) (by decide) rfl (Nat.le_of_ble_eq_true rfl) ?_
  refine J.iload_n (q := 1) dX6_isDeed_0 rfl ?_ rfl
  refine J.iconst (q := 2) dX6_isDeed_1 ?_ rfl
  refine J.bipush (q := 4) dX6_isDeed_2 (by decide) ?_ rfl
  refine J.callS3i (q := 7) dX6_isDeed_4 mv_X6_in1 kS_X6_in1 kL_X6_61 ⟨by decide, by decide⟩ (Nat.le_of_ble_eq_true rfl) ⟨by decide, by decide⟩ rfl (c_X6_in1 (by omega) (by omega) (by omega)) ?_
  refine J.zreturn dX6_isDeed_7 rfl b2_01 ?_
  first
  | exact ⟨rfl, rfl, rfl⟩
  | (refine ⟨congrArg (fun z => some (i_ z)) ?_, rfl, rfl⟩; first | rfl | omega | (simp only [b2]; split <;> omega) | (simp only [b2, *]; split <;> omega))

set_option maxRecDepth 100000 in
set_option maxHeartbeats 4000000 in
theorem c_X6_isSheet {l : Launch} {F : Nat × (Int → Int)} {iv : Mm} {v : Int} (hv : -2147483648 ≤ v ∧ v < 2147483648) : Ctr l F 1 0 0 yX6_isSheet cX6_isSheet 1 (some FieldType.boolean) [i_ v] S0 (iv) (Ret (some (i_ (b2 (0 ≤ v ∧ v ≤ 3)))) S0 iv) := by
  refine Ctr.of false (fun h => by cases h) (by decide) rfl (Nat.le_of_ble_eq_true rfl) ?_
  refine J.iload_n (q := 1) dX6_isSheet_0 rfl ?_ rfl
  refine J.iconst (q := 2) dX6_isSheet_1 ?_ rfl
  refine J.iconst (q := 3) dX6_isSheet_2 ?_ rfl
  refine J.callS3i (q := 6) dX6_isSheet_3 mv_X6_in1 kS_X6_in1 kL_X6_61 ⟨by decide, by decide⟩ (Nat.le_of_ble_eq_true rfl) ⟨by decide, by decide⟩ rfl (c_X6_in1 (by omega) (by omega) (by omega)) ?_
  refine J.zreturn dX6_isSheet_6 rfl b2_01 ?_
  first
  | exact ⟨rfl, rfl, rfl⟩
  | (refine ⟨congrArg (fun z => some (i_ z)) ?_, rfl, rfl⟩; first | rfl | omega | (simp only [b2]; split <;> omega) | (simp only [b2, *]; split <;> omega))

set_option maxRecDepth 100000 in
set_option maxHeartbeats 4000000 in
theorem c_X6_isSpot {l : Launch} {F : Nat × (Int → Int)} {iv : Mm} {v : Int} (hv : -2147483648 ≤ v ∧ v < 2147483648) : Ctr l F 1 0 0 yX6_isSpot cX6_isSpot 1 (some FieldType.boolean) [i_ v] S0 (iv) (Ret (some (i_ (b2 (0 ≤ v ∧ v ≤ 9)))) S0 iv) := by
  refine Ctr.of false (fun h => by cases h) (by decide) rfl (Nat.le_of_ble_eq_true rfl) ?_
  refine J.iload_n (q := 1) dX6_isSpot_0 rfl ?_ rfl
  refine J.iconst (q := 2) dX6_isSpot_1 ?_ rfl
  refine J.bipush (q := 4) dX6_isSpot_2 (by decide) ?_ rfl
  refine J.callS3i (q := 7) dX6_isSpot_4 mv_X6_in1 kS_X6_in1 kL_X6_61 ⟨by decide, by decide⟩ (Nat.le_of_ble_eq_true rfl) ⟨by decide, by decide⟩ rfl (c_X6_in1 (by omega) (by omega) (by omega)) ?_
  refine J.zreturn dX6_isSpot_7 rfl b2_01 ?_
  first
  | exact ⟨rfl, rfl, rfl⟩
  | (refine ⟨congrArg (fun z => some (i_ z)) ?_, rfl, rfl⟩; first | rfl | omega | (simp only [b2]; split <;> omega) | (simp only [b2, *]; split <;> omega))

set_option maxRecDepth 100000 in
set_option maxHeartbeats 4000000 in
theorem c_X6_isLetter {l : Launch} {F : Nat × (Int → Int)} {iv : Mm} {v : Int} (hv : -2147483648 ≤ v ∧ v < 2147483648) : Ctr l F 1 0 0 yX6_isLetter cX6_isLetter 1 (some FieldType.boolean) [i_ v] S0 (iv) (Ret (some (i_ (b2 (97 ≤ v ∧ v ≤ 122)))) S0 iv) := by
  refine Ctr.of false (fun h => by cases h) (by decide) rfl (Nat.le_of_ble_eq_true rfl) ?_
  refine J.iload_n (q := 1) dX6_isLetter_0 rfl ?_ rfl
  refine J.bipush (q := 3) dX6_isLetter_1 (by decide) ?_ rfl
  refine J.bipush (q := 5) dX6_isLetter_3 (by decide) ?_ rfl
  refine J.callS3i (q := 8) dX6_isLetter_5 mv_X6_in1 kS_X6_in1 kL_X6_61 ⟨by decide, by decide⟩ (Nat.le_of_ble_eq_true rfl) ⟨by decide, by decide⟩ rfl (c_X6_in1 (by omega) (by omega) (by omega)) ?_
  refine J.zreturn dX6_isLetter_8 rfl b2_01 ?_
  first
  | exact ⟨rfl, rfl, rfl⟩
  | (refine ⟨congrArg (fun z => some (i_ z)) ?_, rfl, rfl⟩; first | rfl | omega | (simp only [b2]; split <;> omega) | (simp only [b2, *]; split <;> omega))

set_option maxRecDepth 100000 in
set_option maxHeartbeats 4000000 in
theorem c_X6_isDigit {l : Launch} {F : Nat × (Int → Int)} {iv : Mm} {v : Int} (hv : -2147483648 ≤ v ∧ v < 2147483648) : Ctr l F 1 0 0 yX6_isDigit cX6_isDigit 1 (some FieldType.boolean) [i_ v] S0 (iv) (Ret (some (i_ (b2 (48 ≤ v ∧ v ≤ 57)))) S0 iv) := by
  refine Ctr.of false (fun h => by cases h) (by decide) rfl (Nat.le_of_ble_eq_true rfl) ?_
  refine J.iload_n (q := 1) dX6_isDigit_0 rfl ?_ rfl
  refine J.bipush (q := 3) dX6_isDigit_1 (by decide) ?_ rfl
  refine J.bipush (q := 5) dX6_isDigit_3 (by decide) ?_ rfl
  refine J.callS3i (q := 8) dX6_isDigit_5 mv_X6_in1 kS_X6_in1 kL_X6_61 ⟨by decide, by decide⟩ (Nat.le_of_ble_eq_true rfl) ⟨by decide, by decide⟩ rfl (c_X6_in1 (by omega) (by omega) (by omega)) ?_
  refine J.zreturn dX6_isDigit_8 rfl b2_01 ?_
  first
  | exact ⟨rfl, rfl, rfl⟩
  | (refine ⟨congrArg (fun z => some (i_ z)) ?_, rfl, rfl⟩; first | rfl | omega | (simp only [b2]; split <;> omega) | (simp only [b2, *]; split <;> omega))

set_option maxRecDepth 100000 in
set_option maxHeartbeats 4000000 in
theorem c_X6_isHedge {l : Launch} {F : Nat × (Int → Int)} {iv : Mm} {c : Int} (hc : 0 ≤ c ∧ c ≤ 80) (hs : -2147483648 ≤ iv 62 (14 + c) ∧ iv 62 (14 + c) < 2147483648) : Ctr l F 0 0 0 yX6_isHedge cX6_isHedge 2 (some FieldType.boolean) [r_ 61, i_ c] S0 (iv) (Ret (some (i_ (b2 (iv 62 (14 + c) = 1)))) S0 iv) := by
  refine Ctr.of false (fun h => by cases h) (by decide) rfl (Nat.le_of_ble_eq_true rfl) ?_
  refine J.aload_n (q := 1) dX6_isHedge_0 rfl ?_ rfl
  refine J.getR (ci := 6) (k0 := 0) (c1 := 62) (q := 4) dX6_isHedge_1 kF_X6_9 rfl (by decide) (by decide) rfl (by decide) rfl ?_ rfl
  refine J.bipush (q := 6) dX6_isHedge_4 (by decide) ?_ rfl
  refine J.iload_n (q := 7) dX6_isHedge_6 rfl ?_ rfl
  refine J.iadd (q := 8) dX6_isHedge_7 ?_ rfl
  refine J.iald (n := 307) (q := 9) dX6_isHedge_8 rfl (by omega) ?_ rfl
  refine J.iconst (q := 10) dX6_isHedge_9 ?_ rfl
  refine J.icmp_ne (tgt := 17) (q := 13) dX6_isHedge_10 rfl rfl (fun c10 => ?_) (fun c10 => ?_)
  · refine J.iconst (q := 18) dX6_isHedge_17 ?_ rfl
    refine J.zreturn dX6_isHedge_18 rfl (by omega) ?_
    first
    | exact ⟨rfl, rfl, rfl⟩
    | (refine ⟨congrArg (fun z => some (i_ z)) ?_, rfl, rfl⟩; first | rfl | omega | (simp only [b2]; split <;> omega) | (simp only [b2, *]; split <;> omega))
  · refine J.iconst (q := 14) dX6_isHedge_13 ?_ rfl
    refine J.goto (tgt := 18) dX6_isHedge_14 rfl ?_
    refine J.zreturn dX6_isHedge_18 rfl (by omega) ?_
    first
    | exact ⟨rfl, rfl, rfl⟩
    | (refine ⟨congrArg (fun z => some (i_ z)) ?_, rfl, rfl⟩; first | rfl | omega | (simp only [b2]; split <;> omega) | (simp only [b2, *]; split <;> omega))

set_option maxRecDepth 100000 in
set_option maxHeartbeats 4000000 in
theorem c_X6_get {l : Launch} {F : Nat × (Int → Int)} {iv : Mm} {k f : Int} (hk : 0 ≤ 257 + 5 * k + f ∧ 257 + 5 * k + f < 307) : Ctr l F 0 0 0 yX6_get cX6_get 3 (some FieldType.int) [r_ 61, i_ k, i_ f] S0 (iv) (Ret (some (i_ (iv 62 (257 + 5 * k + f)))) S0 iv) := by
  refine Ctr.of false (fun h => by cases h) (by decide) rfl (Nat.le_of_ble_eq_true rfl) ?_
  refine J.aload_n (q := 1) dX6_get_0 rfl ?_ rfl
  refine J.getR (ci := 6) (k0 := 0) (c1 := 62) (q := 4) dX6_get_1 kF_X6_9 rfl (by decide) (by decide) rfl (by decide) rfl ?_ rfl
  refine J.sipush (q := 7) dX6_get_4 (by decide) ?_ rfl
  refine J.iconst (q := 8) dX6_get_7 ?_ rfl
  refine J.iload_n (q := 9) dX6_get_8 rfl ?_ rfl
  refine J.imul (q := 10) dX6_get_9 ?_ rfl
  refine J.iadd (q := 11) dX6_get_10 ?_ rfl
  refine J.iload_n (q := 12) dX6_get_11 rfl ?_ rfl
  refine J.iadd (q := 13) dX6_get_12 ?_ rfl
  refine J.iald (n := 307) (q := 14) dX6_get_13 rfl (by omega) ?_ rfl
  refine J.ireturn dX6_get_14 rfl ?_
  first
  | exact ⟨rfl, rfl, rfl⟩
  | (refine ⟨congrArg (fun z => some (i_ z)) ?_, rfl, rfl⟩; first | rfl | omega | (simp only [b2]; split <;> omega) | (simp only [b2, *]; split <;> omega))

set_option maxRecDepth 100000 in
set_option maxHeartbeats 4000000 in
theorem c_X6_puts {l : Launch} {F : Nat × (Int → Int)} {iv : Mm} {k f v : Int} (hk : 0 ≤ 257 + 5 * k + f ∧ 257 + 5 * k + f < 307) : Ctr l F 0 0 0 yX6_puts cX6_puts 4 none [r_ 61, i_ k, i_ f, i_ v] S0 (iv) (Ret none S0 (up iv 62 (257 + 5 * k + f) v)) := by
  refine Ctr.of false (fun h => by cases h) (by decide) rfl (Nat.le_of_ble_eq_true rfl) ?_
  refine J.aload_n (q := 1) dX6_puts_0 rfl ?_ rfl
  refine J.getR (ci := 6) (k0 := 0) (c1 := 62) (q := 4) dX6_puts_1 kF_X6_9 rfl (by decide) (by decide) rfl (by decide) rfl ?_ rfl
  refine J.sipush (q := 7) dX6_puts_4 (by decide) ?_ rfl
  refine J.iconst (q := 8) dX6_puts_7 ?_ rfl
  refine J.iload_n (q := 9) dX6_puts_8 rfl ?_ rfl
  refine J.imul (q := 10) dX6_puts_9 ?_ rfl
  refine J.iadd (q := 11) dX6_puts_10 ?_ rfl
  refine J.iload_n (q := 12) dX6_puts_11 rfl ?_ rfl
  refine J.iadd (q := 13) dX6_puts_12 ?_ rfl
  refine J.iload_n (q := 14) dX6_puts_13 rfl ?_ rfl
  refine J.iast (n := 307) (q := 15) dX6_puts_14 rfl (by omega) ?_ rfl
  refine J.vreturn dX6_puts_15 rfl ?_
  first
  | exact ⟨rfl, rfl, rfl⟩
  | (refine ⟨congrArg (fun z => some (i_ z)) ?_, rfl, rfl⟩; first | rfl | omega | (simp only [b2]; split <;> omega) | (simp only [b2, *]; split <;> omega))

set_option maxRecDepth 100000 in
set_option maxHeartbeats 4000000 in
theorem c_X6_beside {l : Launch} {F : Nat × (Int → Int)} {iv : Mm} {c w : Int} (hc : 0 ≤ c ∧ c ≤ 80) (hw : 0 ≤ w ∧ w ≤ 3) : Ctr l F 0 0 0 yX6_beside cX6_beside 2 (some FieldType.int) [i_ c, i_ w] S0 (iv) (Ret (some (i_ (besM c w))) S0 iv) := by
  refine Ctr.of false (fun h => by cases h) (by decide) rfl (Nat.le_of_ble_eq_true rfl) ?_
  refine J.iload_n (q := 1) dX6_beside_0 rfl ?_ rfl
  rcases (show (w < 0 ∨ 2 < w) ∨ w = 0 ∨ w = 1 ∨ w = 2 by omega) with hO | hx1 | hx1 | hx1
  · refine J.tabOut (tgt := 68) dX6_beside_1 (by omega) hO rfl ?_
    refine J.iload_n (q := 69) dX6_beside_68 rfl ?_ rfl
    refine J.bipush (q := 71) dX6_beside_69 (by decide) ?_ rfl
    refine J.irem (q := 72) dX6_beside_71 (I3_rem (by omega) (by omega) rfl) (I3_n0 (by omega)) ?_ rfl
    refine J.if_ne (tgt := 79) (q := 75) dX6_beside_72 rfl rfl (fun c72 => ?_) (fun c72 => ?_)
    · refine J.iload_n (q := 80) dX6_beside_79 rfl ?_ rfl
      refine J.iconst (q := 81) dX6_beside_80 ?_ rfl
      refine J.isub (q := 82) dX6_beside_81 ?_ rfl
      refine J.ireturn dX6_beside_82 rfl ?_
      refine ⟨congrArg (fun z => some (i_ z)) ?_, rfl, rfl⟩
      simp only [besM]
      first | omega | (rw [if_pos (by omega)]; done) | (split <;> first | omega | (split <;> first | omega | (split <;> first | omega | (split <;> omega))))
    · refine J.iconst (q := 76) dX6_beside_75 ?_ rfl
      refine J.goto (tgt := 82) dX6_beside_76 rfl ?_
      refine J.ireturn dX6_beside_82 rfl ?_
      refine ⟨congrArg (fun z => some (i_ z)) ?_, rfl, rfl⟩
      simp only [besM]
      first | omega | (rw [if_pos (by omega)]; done) | (split <;> first | omega | (split <;> first | omega | (split <;> first | omega | (split <;> omega))))
  · refine J.tabIn (off := 27) (tgt := 28) dX6_beside_1 (by omega) (by omega) (by omega) (by rw [hx1]; rfl) rfl ?_
    refine J.iload_n (q := 29) dX6_beside_28 rfl ?_ rfl
    refine J.bipush (q := 31) dX6_beside_29 (by decide) ?_ rfl
    refine J.isub (q := 32) dX6_beside_31 ?_ rfl
    refine J.ireturn dX6_beside_32 rfl ?_
    refine ⟨congrArg (fun z => some (i_ z)) ?_, rfl, rfl⟩
    simp only [besM]
    first | omega | (rw [if_pos (by omega)]; done) | (split <;> first | omega | (split <;> first | omega | (split <;> first | omega | (split <;> omega))))
  · refine J.tabIn (off := 32) (tgt := 33) dX6_beside_1 (by omega) (by omega) (by omega) (by rw [hx1]; rfl) rfl ?_
    refine J.iload_n (q := 34) dX6_beside_33 rfl ?_ rfl
    refine J.bipush (q := 36) dX6_beside_34 (by decide) ?_ rfl
    refine J.irem (q := 37) dX6_beside_36 (I3_rem (by omega) (by omega) rfl) (I3_n0 (by omega)) ?_ rfl
    refine J.bipush (q := 39) dX6_beside_37 (by decide) ?_ rfl
    refine J.icmp_ne (tgt := 46) (q := 42) dX6_beside_39 rfl rfl (fun c39 => ?_) (fun c39 => ?_)
    · refine J.iload_n (q := 47) dX6_beside_46 rfl ?_ rfl
      refine J.iconst (q := 48) dX6_beside_47 ?_ rfl
      refine J.iadd (q := 49) dX6_beside_48 ?_ rfl
      refine J.ireturn dX6_beside_49 rfl ?_
      refine ⟨congrArg (fun z => some (i_ z)) ?_, rfl, rfl⟩
      simp only [besM]
      first | omega | (rw [if_pos (by omega)]; done) | (split <;> first | omega | (split <;> first | omega | (split <;> first | omega | (split <;> omega))))
    · refine J.iconst (q := 43) dX6_beside_42 ?_ rfl
      refine J.goto (tgt := 49) dX6_beside_43 rfl ?_
      refine J.ireturn dX6_beside_49 rfl ?_
      refine ⟨congrArg (fun z => some (i_ z)) ?_, rfl, rfl⟩
      simp only [besM]
      first | omega | (rw [if_pos (by omega)]; done) | (split <;> first | omega | (split <;> first | omega | (split <;> first | omega | (split <;> omega))))
  · refine J.tabIn (off := 49) (tgt := 50) dX6_beside_1 (by omega) (by omega) (by omega) (by rw [hx1]; rfl) rfl ?_
    refine J.iload_n (q := 51) dX6_beside_50 rfl ?_ rfl
    refine J.bipush (q := 53) dX6_beside_51 (by decide) ?_ rfl
    refine J.iadd (q := 54) dX6_beside_53 ?_ rfl
    refine J.bipush (q := 56) dX6_beside_54 (by decide) ?_ rfl
    refine J.icmp_ge (tgt := 66) (q := 59) dX6_beside_56 rfl rfl (fun c56 => ?_) (fun c56 => ?_)
    · refine J.iconst (q := 67) dX6_beside_66 ?_ rfl
      refine J.ireturn dX6_beside_67 rfl ?_
      refine ⟨congrArg (fun z => some (i_ z)) ?_, rfl, rfl⟩
      simp only [besM]
      first | omega | (rw [if_pos (by omega)]; done) | (split <;> first | omega | (split <;> first | omega | (split <;> first | omega | (split <;> omega))))
    · refine J.iload_n (q := 60) dX6_beside_59 rfl ?_ rfl
      refine J.bipush (q := 62) dX6_beside_60 (by decide) ?_ rfl
      refine J.iadd (q := 63) dX6_beside_62 ?_ rfl
      refine J.goto (tgt := 67) dX6_beside_63 rfl ?_
      refine J.ireturn dX6_beside_67 rfl ?_
      refine ⟨congrArg (fun z => some (i_ z)) ?_, rfl, rfl⟩
      simp only [besM]
      first | omega | (rw [if_pos (by omega)]; done) | (split <;> first | omega | (split <;> first | omega | (split <;> first | omega | (split <;> omega))))

