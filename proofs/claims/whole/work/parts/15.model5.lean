/-! the reference: its small public methods (printed by wip/whole/m_model5.py) -/
set_option maxRecDepth 100000 in
set_option maxHeartbeats 4000000 in
theorem c_X6_hedge {l : Launch} {F : Nat × (Int → Int)} {iv : Mm} {D : Int} (hD : D ≤ 200000) (hI : MI D (iv 62)) {c v : Int} (hc : -2147483648 ≤ c ∧ c < 2147483648) (hv : -2147483648 ≤ v ∧ v < 2147483648) : Ctr l F 2 0 0 yX6_hedge cX6_hedge 4 (some FieldType.int) [r_ 61, i_ c, i_ v] S0 (iv) (MP iv (an_hedge (hi iv) c v)) := by
  refine Ctr.of false (fun h => by cases h) (by decide) rfl (Nat.le_of_ble_eq_true rfl) ?_
  refine J.iload_n (q := 1) dX6_hedge_0 rfl ?_ rfl
  refine J.callS1i (q := 4) dX6_hedge_1 mv_X6_isCell kS_X6_isCell kL_X6_122 ⟨by decide, by decide⟩ (Nat.le_of_ble_eq_true rfl) ⟨by decide, by decide⟩ rfl (c_X6_isCell (by omega)) ?_
  refine J.ifb_eq (tgt := 16) (q := 7) dX6_hedge_4 rfl rfl (fun c4 => ?_) (fun c4 => ?_)
  · refine J.aload_n (q := 17) dX6_hedge_16 rfl ?_ rfl
    refine J.iconst (q := 18) dX6_hedge_17 ?_ rfl
    refine J.callV1i (ci := 6) (q := 21) dX6_hedge_18 mv_X6_no kL_X6_125 rfl (by decide) rfl ⟨by decide, by decide⟩ (Nat.le_of_ble_eq_true rfl) ⟨by decide, by decide⟩ rfl (c_X6_no (by omega)) ?_
    refine J.ireturn dX6_hedge_21 rfl ?_
    unfold MP an_hedge
    (try rw [hi_61]); (try rw [hi_62]); (try rw [hi_63]); (try rw [hi_65]); (try rw [hi_70]); (try rw [hi_74]); (try rw [hi_75]); (try rw [hi_76])
    repeat (first | rw [if_pos (by omega)] | rw [if_neg (by omega)])
    first
    | exact ⟨rfl, rfl, fun q hq => by (first | rfl | (repeat rw [up_n _ _ _ (by omega)])), rfl, rfl, rfl, rfl, rfl, rfl, rfl, rfl, rfl⟩
    | (exfalso; omega)
  · refine J.iload_n (q := 8) dX6_hedge_7 rfl ?_ rfl
    refine J.iconst (q := 9) dX6_hedge_8 ?_ rfl
    refine J.iconst (q := 10) dX6_hedge_9 ?_ rfl
    refine J.callS3i (q := 13) dX6_hedge_10 mv_X6_in1 kS_X6_in1 kL_X6_61 ⟨by decide, by decide⟩ (Nat.le_of_ble_eq_true rfl) ⟨by decide, by decide⟩ rfl (c_X6_in1 (by omega) (by omega) (by omega)) ?_
    refine J.ifb_ne (tgt := 22) (q := 16) dX6_hedge_13 rfl rfl (fun c13 => ?_) (fun c13 => ?_)
    · refine J.aload_n (q := 23) dX6_hedge_22 rfl ?_ rfl
      refine J.getR (ci := 6) (k0 := 0) (c1 := 62) (q := 26) dX6_hedge_23 kF_X6_9 rfl (by decide) (by decide) rfl (by decide) rfl ?_ rfl
      refine J.bipush (q := 28) dX6_hedge_26 (by decide) ?_ rfl
      refine J.iload_n (q := 29) dX6_hedge_28 rfl ?_ rfl
      refine J.iadd (q := 30) dX6_hedge_29 ?_ rfl
      refine J.iald (n := 307) (q := 31) dX6_hedge_30 rfl (by omega) ?_ rfl
      refine J.istore_n (q := 32) dX6_hedge_31 (Nat.le_of_ble_eq_true rfl) ?_ rfl
      refine J.aload_n (q := 33) dX6_hedge_32 rfl ?_ rfl
      refine J.getR (ci := 6) (k0 := 0) (c1 := 62) (q := 36) dX6_hedge_33 kF_X6_9 rfl (by decide) (by decide) rfl (by decide) rfl ?_ rfl
      refine J.bipush (q := 38) dX6_hedge_36 (by decide) ?_ rfl
      refine J.iload_n (q := 39) dX6_hedge_38 rfl ?_ rfl
      refine J.iadd (q := 40) dX6_hedge_39 ?_ rfl
      refine J.iload_n (q := 41) dX6_hedge_40 rfl ?_ rfl
      refine J.iast (n := 307) (q := 42) dX6_hedge_41 rfl (by omega) ?_ rfl
      refine J.iload_n (q := 43) dX6_hedge_42 rfl ?_ rfl
      refine J.iload_n (q := 44) dX6_hedge_43 rfl ?_ rfl
      have hcl := hI.cel c (by omega) (by omega)
      refine J.icmp_ne (tgt := 51) (q := 47) dX6_hedge_44 rfl rfl (fun c44 => ?_) (fun c44 => ?_)
      · refine J.iconst (q := 52) dX6_hedge_51 ?_ rfl
        refine J.ireturn dX6_hedge_52 rfl ?_
        unfold MP an_hedge
        (try rw [hi_61]); (try rw [hi_62]); (try rw [hi_63]); (try rw [hi_65]); (try rw [hi_70]); (try rw [hi_74]); (try rw [hi_75]); (try rw [hi_76])
        repeat (first | rw [if_pos (by omega)] | rw [if_neg (by omega)])
        first
        | exact ⟨rfl, rfl, fun q hq => by (first | rfl | (repeat rw [up_n _ _ _ (by omega)])), rfl, rfl, rfl, rfl, rfl, rfl, rfl, rfl, rfl⟩
        | (exfalso; omega)
      · refine J.iconst (q := 48) dX6_hedge_47 ?_ rfl
        refine J.goto (tgt := 52) dX6_hedge_48 rfl ?_
        refine J.ireturn dX6_hedge_52 rfl ?_
        unfold MP an_hedge
        (try rw [hi_61]); (try rw [hi_62]); (try rw [hi_63]); (try rw [hi_65]); (try rw [hi_70]); (try rw [hi_74]); (try rw [hi_75]); (try rw [hi_76])
        repeat (first | rw [if_pos (by omega)] | rw [if_neg (by omega)])
        first
        | exact ⟨rfl, rfl, fun q hq => by (first | rfl | (repeat rw [up_n _ _ _ (by omega)])), rfl, rfl, rfl, rfl, rfl, rfl, rfl, rfl, rfl⟩
        | (exfalso; omega)
    · refine J.aload_n (q := 17) dX6_hedge_16 rfl ?_ rfl
      refine J.iconst (q := 18) dX6_hedge_17 ?_ rfl
      refine J.callV1i (ci := 6) (q := 21) dX6_hedge_18 mv_X6_no kL_X6_125 rfl (by decide) rfl ⟨by decide, by decide⟩ (Nat.le_of_ble_eq_true rfl) ⟨by decide, by decide⟩ rfl (c_X6_no (by omega)) ?_
      refine J.ireturn dX6_hedge_21 rfl ?_
      unfold MP an_hedge
      (try rw [hi_61]); (try rw [hi_62]); (try rw [hi_63]); (try rw [hi_65]); (try rw [hi_70]); (try rw [hi_74]); (try rw [hi_75]); (try rw [hi_76])
      repeat (first | rw [if_pos (by omega)] | rw [if_neg (by omega)])
      first
      | exact ⟨rfl, rfl, fun q hq => by (first | rfl | (repeat rw [up_n _ _ _ (by omega)])), rfl, rfl, rfl, rfl, rfl, rfl, rfl, rfl, rfl⟩
      | (exfalso; omega)

set_option maxRecDepth 100000 in
set_option maxHeartbeats 4000000 in
theorem c_X6_greens {l : Launch} {F : Nat × (Int → Int)} {iv : Mm} {D : Int} (hD : D ≤ 200000) (hI : MI D (iv 62)) {c v : Int} (hc : -2147483648 ≤ c ∧ c < 2147483648) (hv : -2147483648 ≤ v ∧ v < 2147483648) : Ctr l F 2 0 0 yX6_greens cX6_greens 4 (some FieldType.int) [r_ 61, i_ c, i_ v] S0 (iv) (MP iv (an_greens (hi iv) c v)) := by
  refine Ctr.of false (fun h => by cases h) (by decide) rfl (Nat.le_of_ble_eq_true rfl) ?_
  refine J.iload_n (q := 1) dX6_greens_0 rfl ?_ rfl
  refine J.callS1i (q := 4) dX6_greens_1 mv_X6_isCell kS_X6_isCell kL_X6_122 ⟨by decide, by decide⟩ (Nat.le_of_ble_eq_true rfl) ⟨by decide, by decide⟩ rfl (c_X6_isCell (by omega)) ?_
  refine J.ifb_eq (tgt := 17) (q := 7) dX6_greens_4 rfl rfl (fun c4 => ?_) (fun c4 => ?_)
  · refine J.aload_n (q := 18) dX6_greens_17 rfl ?_ rfl
    refine J.iconst (q := 19) dX6_greens_18 ?_ rfl
    refine J.callV1i (ci := 6) (q := 22) dX6_greens_19 mv_X6_no kL_X6_125 rfl (by decide) rfl ⟨by decide, by decide⟩ (Nat.le_of_ble_eq_true rfl) ⟨by decide, by decide⟩ rfl (c_X6_no (by omega)) ?_
    refine J.ireturn dX6_greens_22 rfl ?_
    unfold MP an_greens
    (try rw [hi_61]); (try rw [hi_62]); (try rw [hi_63]); (try rw [hi_65]); (try rw [hi_70]); (try rw [hi_74]); (try rw [hi_75]); (try rw [hi_76])
    repeat (first | rw [if_pos (by omega)] | rw [if_neg (by omega)])
    first
    | exact ⟨rfl, rfl, fun q hq => by (first | rfl | (repeat rw [up_n _ _ _ (by omega)])), rfl, rfl, rfl, rfl, rfl, rfl, rfl, rfl, rfl⟩
    | (exfalso; omega)
  · refine J.iload_n (q := 8) dX6_greens_7 rfl ?_ rfl
    refine J.iconst (q := 9) dX6_greens_8 ?_ rfl
    refine J.bipush (q := 11) dX6_greens_9 (by decide) ?_ rfl
    refine J.callS3i (q := 14) dX6_greens_11 mv_X6_in1 kS_X6_in1 kL_X6_61 ⟨by decide, by decide⟩ (Nat.le_of_ble_eq_true rfl) ⟨by decide, by decide⟩ rfl (c_X6_in1 (by omega) (by omega) (by omega)) ?_
    refine J.ifb_ne (tgt := 23) (q := 17) dX6_greens_14 rfl rfl (fun c14 => ?_) (fun c14 => ?_)
    · refine J.aload_n (q := 24) dX6_greens_23 rfl ?_ rfl
      refine J.getR (ci := 6) (k0 := 0) (c1 := 62) (q := 27) dX6_greens_24 kF_X6_9 rfl (by decide) (by decide) rfl (by decide) rfl ?_ rfl
      refine J.bipush (q := 29) dX6_greens_27 (by decide) ?_ rfl
      refine J.iload_n (q := 30) dX6_greens_29 rfl ?_ rfl
      refine J.iadd (q := 31) dX6_greens_30 ?_ rfl
      refine J.iald (n := 307) (q := 32) dX6_greens_31 rfl (by omega) ?_ rfl
      refine J.istore_n (q := 33) dX6_greens_32 (Nat.le_of_ble_eq_true rfl) ?_ rfl
      refine J.aload_n (q := 34) dX6_greens_33 rfl ?_ rfl
      refine J.getR (ci := 6) (k0 := 0) (c1 := 62) (q := 37) dX6_greens_34 kF_X6_9 rfl (by decide) (by decide) rfl (by decide) rfl ?_ rfl
      refine J.bipush (q := 39) dX6_greens_37 (by decide) ?_ rfl
      refine J.iload_n (q := 40) dX6_greens_39 rfl ?_ rfl
      refine J.iadd (q := 41) dX6_greens_40 ?_ rfl
      refine J.iload_n (q := 42) dX6_greens_41 rfl ?_ rfl
      refine J.iast (n := 307) (q := 43) dX6_greens_42 rfl (by omega) ?_ rfl
      refine J.iload_n (q := 44) dX6_greens_43 rfl ?_ rfl
      refine J.ireturn dX6_greens_44 rfl ?_
      unfold MP an_greens
      (try rw [hi_61]); (try rw [hi_62]); (try rw [hi_63]); (try rw [hi_65]); (try rw [hi_70]); (try rw [hi_74]); (try rw [hi_75]); (try rw [hi_76])
      repeat (first | rw [if_pos (by omega)] | rw [if_neg (by omega)])
      first
      | exact ⟨rfl, rfl, fun q hq => by (first | rfl | (repeat rw [up_n _ _ _ (by omega)])), rfl, rfl, rfl, rfl, rfl, rfl, rfl, rfl, rfl⟩
      | (exfalso; omega)
    · refine J.aload_n (q := 18) dX6_greens_17 rfl ?_ rfl
      refine J.iconst (q := 19) dX6_greens_18 ?_ rfl
      refine J.callV1i (ci := 6) (q := 22) dX6_greens_19 mv_X6_no kL_X6_125 rfl (by decide) rfl ⟨by decide, by decide⟩ (Nat.le_of_ble_eq_true rfl) ⟨by decide, by decide⟩ rfl (c_X6_no (by omega)) ?_
      refine J.ireturn dX6_greens_22 rfl ?_
      unfold MP an_greens
      (try rw [hi_61]); (try rw [hi_62]); (try rw [hi_63]); (try rw [hi_65]); (try rw [hi_70]); (try rw [hi_74]); (try rw [hi_75]); (try rw [hi_76])
      repeat (first | rw [if_pos (by omega)] | rw [if_neg (by omega)])
      first
      | exact ⟨rfl, rfl, fun q hq => by (first | rfl | (repeat rw [up_n _ _ _ (by omega)])), rfl, rfl, rfl, rfl, rfl, rfl, rfl, rfl, rfl⟩
      | (exfalso; omega)

set_option maxRecDepth 100000 in
set_option maxHeartbeats 4000000 in
theorem c_X6_land {l : Launch} {F : Nat × (Int → Int)} {iv : Mm} {D : Int} (hD : D ≤ 200000) (hI : MI D (iv 62)) {c v : Int} (hc : -2147483648 ≤ c ∧ c < 2147483648) (hv : -2147483648 ≤ v ∧ v < 2147483648) : Ctr l F 2 0 0 yX6_land cX6_land 3 (some FieldType.int) [r_ 61, i_ c, i_ v] S0 (iv) (MP iv (an_land (hi iv) c v)) := by
  refine Ctr.of false (fun h => by cases h) (by decide) rfl (Nat.le_of_ble_eq_true rfl) ?_
  refine J.iload_n (q := 1) dX6_land_0 rfl ?_ rfl
  refine J.callS1i (q := 4) dX6_land_1 mv_X6_isCell kS_X6_isCell kL_X6_122 ⟨by decide, by decide⟩ (Nat.le_of_ble_eq_true rfl) ⟨by decide, by decide⟩ rfl (c_X6_isCell (by omega)) ?_
  refine J.ifb_eq (tgt := 16) (q := 7) dX6_land_4 rfl rfl (fun c4 => ?_) (fun c4 => ?_)
  · refine J.aload_n (q := 17) dX6_land_16 rfl ?_ rfl
    refine J.iconst (q := 18) dX6_land_17 ?_ rfl
    refine J.callV1i (ci := 6) (q := 21) dX6_land_18 mv_X6_no kL_X6_125 rfl (by decide) rfl ⟨by decide, by decide⟩ (Nat.le_of_ble_eq_true rfl) ⟨by decide, by decide⟩ rfl (c_X6_no (by omega)) ?_
    refine J.ireturn dX6_land_21 rfl ?_
    unfold MP an_land
    (try rw [hi_61]); (try rw [hi_62]); (try rw [hi_63]); (try rw [hi_65]); (try rw [hi_70]); (try rw [hi_74]); (try rw [hi_75]); (try rw [hi_76])
    repeat (first | rw [if_pos (by omega)] | rw [if_neg (by omega)])
    first
    | exact ⟨rfl, rfl, fun q hq => by (first | rfl | (repeat rw [up_n _ _ _ (by omega)])), rfl, rfl, rfl, rfl, rfl, rfl, rfl, rfl, rfl⟩
    | (exfalso; omega)
  · refine J.iload_n (q := 8) dX6_land_7 rfl ?_ rfl
    refine J.iconst (q := 9) dX6_land_8 ?_ rfl
    refine J.iconst (q := 10) dX6_land_9 ?_ rfl
    refine J.callS3i (q := 13) dX6_land_10 mv_X6_in1 kS_X6_in1 kL_X6_61 ⟨by decide, by decide⟩ (Nat.le_of_ble_eq_true rfl) ⟨by decide, by decide⟩ rfl (c_X6_in1 (by omega) (by omega) (by omega)) ?_
    refine J.ifb_ne (tgt := 22) (q := 16) dX6_land_13 rfl rfl (fun c13 => ?_) (fun c13 => ?_)
    · refine J.iload_n (q := 23) dX6_land_22 rfl ?_ rfl
      refine J.if_ne (tgt := 38) (q := 26) dX6_land_23 rfl rfl (fun c23 => ?_) (fun c23 => ?_)
      · refine J.iload_n (q := 39) dX6_land_38 rfl ?_ rfl
        refine J.iconst (q := 40) dX6_land_39 ?_ rfl
        refine J.icmp_ne (tgt := 55) (q := 43) dX6_land_40 rfl rfl (fun c40 => ?_) (fun c40 => ?_)
        · refine J.aload_n (q := 56) dX6_land_55 rfl ?_ rfl
          refine J.getR (ci := 6) (k0 := 0) (c1 := 62) (q := 59) dX6_land_56 kF_X6_9 rfl (by decide) (by decide) rfl (by decide) rfl ?_ rfl
          refine J.sipush (q := 62) dX6_land_59 (by decide) ?_ rfl
          refine J.iload_n (q := 63) dX6_land_62 rfl ?_ rfl
          refine J.iadd (q := 64) dX6_land_63 ?_ rfl
          refine J.iald (n := 307) (q := 65) dX6_land_64 rfl (by omega) ?_ rfl
          refine J.ireturn dX6_land_65 rfl ?_
          unfold MP an_land
          (try rw [hi_61]); (try rw [hi_62]); (try rw [hi_63]); (try rw [hi_65]); (try rw [hi_70]); (try rw [hi_74]); (try rw [hi_75]); (try rw [hi_76])
          repeat (first | rw [if_pos (by omega)] | rw [if_neg (by omega)])
          first
          | exact ⟨rfl, rfl, fun q hq => by (first | rfl | (repeat rw [up_n _ _ _ (by omega)])), rfl, rfl, rfl, rfl, rfl, rfl, rfl, rfl, rfl⟩
          | (exfalso; omega)
        · refine J.aload_n (q := 44) dX6_land_43 rfl ?_ rfl
          refine J.getR (ci := 6) (k0 := 0) (c1 := 62) (q := 47) dX6_land_44 kF_X6_9 rfl (by decide) (by decide) rfl (by decide) rfl ?_ rfl
          refine J.bipush (q := 49) dX6_land_47 (by decide) ?_ rfl
          refine J.iload_n (q := 50) dX6_land_49 rfl ?_ rfl
          refine J.iadd (q := 51) dX6_land_50 ?_ rfl
          refine J.iald (n := 307) (q := 52) dX6_land_51 rfl (by omega) ?_ rfl
          refine J.goto (tgt := 65) dX6_land_52 rfl ?_
          refine J.ireturn dX6_land_65 rfl ?_
          unfold MP an_land
          (try rw [hi_61]); (try rw [hi_62]); (try rw [hi_63]); (try rw [hi_65]); (try rw [hi_70]); (try rw [hi_74]); (try rw [hi_75]); (try rw [hi_76])
          repeat (first | rw [if_pos (by omega)] | rw [if_neg (by omega)])
          first
          | exact ⟨rfl, rfl, fun q hq => by (first | rfl | (repeat rw [up_n _ _ _ (by omega)])), rfl, rfl, rfl, rfl, rfl, rfl, rfl, rfl, rfl⟩
          | (exfalso; omega)
      · refine J.aload_n (q := 27) dX6_land_26 rfl ?_ rfl
        refine J.getR (ci := 6) (k0 := 0) (c1 := 62) (q := 30) dX6_land_27 kF_X6_9 rfl (by decide) (by decide) rfl (by decide) rfl ?_ rfl
        refine J.bipush (q := 32) dX6_land_30 (by decide) ?_ rfl
        refine J.iload_n (q := 33) dX6_land_32 rfl ?_ rfl
        refine J.iadd (q := 34) dX6_land_33 ?_ rfl
        refine J.iald (n := 307) (q := 35) dX6_land_34 rfl (by omega) ?_ rfl
        refine J.goto (tgt := 65) dX6_land_35 rfl ?_
        refine J.ireturn dX6_land_65 rfl ?_
        unfold MP an_land
        (try rw [hi_61]); (try rw [hi_62]); (try rw [hi_63]); (try rw [hi_65]); (try rw [hi_70]); (try rw [hi_74]); (try rw [hi_75]); (try rw [hi_76])
        repeat (first | rw [if_pos (by omega)] | rw [if_neg (by omega)])
        first
        | exact ⟨rfl, rfl, fun q hq => by (first | rfl | (repeat rw [up_n _ _ _ (by omega)])), rfl, rfl, rfl, rfl, rfl, rfl, rfl, rfl, rfl⟩
        | (exfalso; omega)
    · refine J.aload_n (q := 17) dX6_land_16 rfl ?_ rfl
      refine J.iconst (q := 18) dX6_land_17 ?_ rfl
      refine J.callV1i (ci := 6) (q := 21) dX6_land_18 mv_X6_no kL_X6_125 rfl (by decide) rfl ⟨by decide, by decide⟩ (Nat.le_of_ble_eq_true rfl) ⟨by decide, by decide⟩ rfl (c_X6_no (by omega)) ?_
      refine J.ireturn dX6_land_21 rfl ?_
      unfold MP an_land
      (try rw [hi_61]); (try rw [hi_62]); (try rw [hi_63]); (try rw [hi_65]); (try rw [hi_70]); (try rw [hi_74]); (try rw [hi_75]); (try rw [hi_76])
      repeat (first | rw [if_pos (by omega)] | rw [if_neg (by omega)])
      first
      | exact ⟨rfl, rfl, fun q hq => by (first | rfl | (repeat rw [up_n _ _ _ (by omega)])), rfl, rfl, rfl, rfl, rfl, rfl, rfl, rfl, rfl⟩
      | (exfalso; omega)

set_option maxRecDepth 100000 in
set_option maxHeartbeats 4000000 in
theorem c_X6_bans {l : Launch} {F : Nat × (Int → Int)} {iv : Mm} {D : Int} (hD : D ≤ 200000) (hI : MI D (iv 62)) {w v : Int} (hw : -2147483648 ≤ w ∧ w < 2147483648) (hv : -2147483648 ≤ v ∧ v < 2147483648) : Ctr l F 2 0 0 yX6_bans cX6_bans 4 (some FieldType.int) [r_ 61, i_ w, i_ v] S0 (iv) (MP iv (an_bans (hi iv) w v)) := by
  refine Ctr.of false (fun h => by cases h) (by decide) rfl (Nat.le_of_ble_eq_true rfl) ?_
  refine J.iload_n (q := 1) dX6_bans_0 rfl ?_ rfl
  refine J.callS1i (q := 4) dX6_bans_1 mv_X6_isLaw kS_X6_isLaw kL_X6_134 ⟨by decide, by decide⟩ (Nat.le_of_ble_eq_true rfl) ⟨by decide, by decide⟩ rfl (c_X6_isLaw (by omega)) ?_
  refine J.ifb_eq (tgt := 18) (q := 7) dX6_bans_4 rfl rfl (fun c4 => ?_) (fun c4 => ?_)
  · refine J.aload_n (q := 19) dX6_bans_18 rfl ?_ rfl
    refine J.iconst (q := 20) dX6_bans_19 ?_ rfl
    refine J.callV1i (ci := 6) (q := 23) dX6_bans_20 mv_X6_no kL_X6_125 rfl (by decide) rfl ⟨by decide, by decide⟩ (Nat.le_of_ble_eq_true rfl) ⟨by decide, by decide⟩ rfl (c_X6_no (by omega)) ?_
    refine J.ireturn dX6_bans_23 rfl ?_
    unfold MP an_bans
    (try rw [hi_61]); (try rw [hi_62]); (try rw [hi_63]); (try rw [hi_65]); (try rw [hi_70]); (try rw [hi_74]); (try rw [hi_75]); (try rw [hi_76])
    repeat (first | rw [if_pos (by omega)] | rw [if_neg (by omega)])
    first
    | exact ⟨rfl, rfl, fun q hq => by (first | rfl | (repeat rw [up_n _ _ _ (by omega)])), rfl, rfl, rfl, rfl, rfl, rfl, rfl, rfl, rfl⟩
    | (exfalso; omega)
  · refine J.iload_n (q := 8) dX6_bans_7 rfl ?_ rfl
    refine J.iconst (q := 9) dX6_bans_8 ?_ rfl
    refine J.sipush (q := 12) dX6_bans_9 (by decide) ?_ rfl
    refine J.callS3i (q := 15) dX6_bans_12 mv_X6_in1 kS_X6_in1 kL_X6_61 ⟨by decide, by decide⟩ (Nat.le_of_ble_eq_true rfl) ⟨by decide, by decide⟩ rfl (c_X6_in1 (by omega) (by omega) (by omega)) ?_
    refine J.ifb_ne (tgt := 24) (q := 18) dX6_bans_15 rfl rfl (fun c15 => ?_) (fun c15 => ?_)
    · refine J.aload_n (q := 25) dX6_bans_24 rfl ?_ rfl
      refine J.getR (ci := 6) (k0 := 0) (c1 := 62) (q := 28) dX6_bans_25 kF_X6_9 rfl (by decide) (by decide) rfl (by decide) rfl ?_ rfl
      refine J.bipush (q := 30) dX6_bans_28 (by decide) ?_ rfl
      refine J.iload_n (q := 31) dX6_bans_30 rfl ?_ rfl
      refine J.iadd (q := 32) dX6_bans_31 ?_ rfl
      refine J.iald (n := 307) (q := 33) dX6_bans_32 rfl (by omega) ?_ rfl
      refine J.istore_n (q := 34) dX6_bans_33 (Nat.le_of_ble_eq_true rfl) ?_ rfl
      refine J.aload_n (q := 35) dX6_bans_34 rfl ?_ rfl
      refine J.getR (ci := 6) (k0 := 0) (c1 := 62) (q := 38) dX6_bans_35 kF_X6_9 rfl (by decide) (by decide) rfl (by decide) rfl ?_ rfl
      refine J.bipush (q := 40) dX6_bans_38 (by decide) ?_ rfl
      refine J.iload_n (q := 41) dX6_bans_40 rfl ?_ rfl
      refine J.iadd (q := 42) dX6_bans_41 ?_ rfl
      refine J.iload_n (q := 43) dX6_bans_42 rfl ?_ rfl
      refine J.iast (n := 307) (q := 44) dX6_bans_43 rfl (by omega) ?_ rfl
      refine J.iload_n (q := 45) dX6_bans_44 rfl ?_ rfl
      refine J.ireturn dX6_bans_45 rfl ?_
      unfold MP an_bans
      (try rw [hi_61]); (try rw [hi_62]); (try rw [hi_63]); (try rw [hi_65]); (try rw [hi_70]); (try rw [hi_74]); (try rw [hi_75]); (try rw [hi_76])
      repeat (first | rw [if_pos (by omega)] | rw [if_neg (by omega)])
      first
      | exact ⟨rfl, rfl, fun q hq => by (first | rfl | (repeat rw [up_n _ _ _ (by omega)])), rfl, rfl, rfl, rfl, rfl, rfl, rfl, rfl, rfl⟩
      | (exfalso; omega)
    · refine J.aload_n (q := 19) dX6_bans_18 rfl ?_ rfl
      refine J.iconst (q := 20) dX6_bans_19 ?_ rfl
      refine J.callV1i (ci := 6) (q := 23) dX6_bans_20 mv_X6_no kL_X6_125 rfl (by decide) rfl ⟨by decide, by decide⟩ (Nat.le_of_ble_eq_true rfl) ⟨by decide, by decide⟩ rfl (c_X6_no (by omega)) ?_
      refine J.ireturn dX6_bans_23 rfl ?_
      unfold MP an_bans
      (try rw [hi_61]); (try rw [hi_62]); (try rw [hi_63]); (try rw [hi_65]); (try rw [hi_70]); (try rw [hi_74]); (try rw [hi_75]); (try rw [hi_76])
      repeat (first | rw [if_pos (by omega)] | rw [if_neg (by omega)])
      first
      | exact ⟨rfl, rfl, fun q hq => by (first | rfl | (repeat rw [up_n _ _ _ (by omega)])), rfl, rfl, rfl, rfl, rfl, rfl, rfl, rfl, rfl⟩
      | (exfalso; omega)

set_option maxRecDepth 100000 in
set_option maxHeartbeats 4000000 in
theorem c_X6_set {l : Launch} {F : Nat × (Int → Int)} {iv : Mm} {D : Int} (hD : D ≤ 200000) (hI : MI D (iv 62)) {w v : Int} (hw : -2147483648 ≤ w ∧ w < 2147483648) (hv : -2147483648 ≤ v ∧ v < 2147483648) : Ctr l F 2 0 0 yX6_set cX6_set 4 (some FieldType.int) [r_ 61, i_ w, i_ v] S0 (iv) (MP iv (an_set (hi iv) w v)) := by
  refine Ctr.of false (fun h => by cases h) (by decide) rfl (Nat.le_of_ble_eq_true rfl) ?_
  refine J.iload_n (q := 1) dX6_set_0 rfl ?_ rfl
  refine J.iconst (q := 2) dX6_set_1 ?_ rfl
  refine J.iconst (q := 3) dX6_set_2 ?_ rfl
  refine J.callS3i (q := 6) dX6_set_3 mv_X6_in1 kS_X6_in1 kL_X6_61 ⟨by decide, by decide⟩ (Nat.le_of_ble_eq_true rfl) ⟨by decide, by decide⟩ rfl (c_X6_in1 (by omega) (by omega) (by omega)) ?_
  refine J.ifb_eq (tgt := 28) (q := 9) dX6_set_6 rfl rfl (fun c6 => ?_) (fun c6 => ?_)
  · refine J.aload_n (q := 29) dX6_set_28 rfl ?_ rfl
    refine J.iconst (q := 30) dX6_set_29 ?_ rfl
    refine J.callV1i (ci := 6) (q := 33) dX6_set_30 mv_X6_no kL_X6_125 rfl (by decide) rfl ⟨by decide, by decide⟩ (Nat.le_of_ble_eq_true rfl) ⟨by decide, by decide⟩ rfl (c_X6_no (by omega)) ?_
    refine J.ireturn dX6_set_33 rfl ?_
    unfold MP an_set
    (try rw [hi_61]); (try rw [hi_62]); (try rw [hi_63]); (try rw [hi_65]); (try rw [hi_70]); (try rw [hi_74]); (try rw [hi_75]); (try rw [hi_76])
    repeat (first | rw [if_pos (by omega)] | rw [if_neg (by omega)])
    first
    | exact ⟨rfl, rfl, fun q hq => by (first | rfl | (repeat rw [up_n _ _ _ (by omega)])), rfl, rfl, rfl, rfl, rfl, rfl, rfl, rfl, rfl⟩
    | (exfalso; omega)
  · refine J.iload_n (q := 10) dX6_set_9 rfl ?_ rfl
    refine J.iconst (q := 11) dX6_set_10 ?_ rfl
    refine J.iload_n (q := 12) dX6_set_11 rfl ?_ rfl
    refine J.if_ne (tgt := 20) (q := 15) dX6_set_12 rfl rfl (fun c12 => ?_) (fun c12 => ?_)
    · refine J.bipush (q := 22) dX6_set_20 (by decide) ?_ rfl
      refine J.callS3i (q := 25) dX6_set_22 mv_X6_in1 kS_X6_in1 kL_X6_61 ⟨by decide, by decide⟩ (Nat.le_of_ble_eq_true rfl) ⟨by decide, by decide⟩ rfl (c_X6_in1 (by omega) (by omega) (by omega)) ?_
      refine J.ifb_ne (tgt := 34) (q := 28) dX6_set_25 rfl rfl (fun c25 => ?_) (fun c25 => ?_)
      · refine J.aload_n (q := 35) dX6_set_34 rfl ?_ rfl
        refine J.getR (ci := 6) (k0 := 0) (c1 := 62) (q := 38) dX6_set_35 kF_X6_9 rfl (by decide) (by decide) rfl (by decide) rfl ?_ rfl
        refine J.iconst (q := 39) dX6_set_38 ?_ rfl
        refine J.iload_n (q := 40) dX6_set_39 rfl ?_ rfl
        refine J.iadd (q := 41) dX6_set_40 ?_ rfl
        refine J.iald (n := 307) (q := 42) dX6_set_41 rfl (by omega) ?_ rfl
        refine J.istore_n (q := 43) dX6_set_42 (Nat.le_of_ble_eq_true rfl) ?_ rfl
        refine J.aload_n (q := 44) dX6_set_43 rfl ?_ rfl
        refine J.getR (ci := 6) (k0 := 0) (c1 := 62) (q := 47) dX6_set_44 kF_X6_9 rfl (by decide) (by decide) rfl (by decide) rfl ?_ rfl
        refine J.iconst (q := 48) dX6_set_47 ?_ rfl
        refine J.iload_n (q := 49) dX6_set_48 rfl ?_ rfl
        refine J.iadd (q := 50) dX6_set_49 ?_ rfl
        refine J.iload_n (q := 51) dX6_set_50 rfl ?_ rfl
        refine J.iast (n := 307) (q := 52) dX6_set_51 rfl (by omega) ?_ rfl
        refine J.iload_n (q := 53) dX6_set_52 rfl ?_ rfl
        refine J.ireturn dX6_set_53 rfl ?_
        unfold MP an_set
        (try rw [hi_61]); (try rw [hi_62]); (try rw [hi_63]); (try rw [hi_65]); (try rw [hi_70]); (try rw [hi_74]); (try rw [hi_75]); (try rw [hi_76])
        repeat (first | rw [if_pos (by omega)] | rw [if_neg (by omega)])
        first
        | exact ⟨rfl, rfl, fun q hq => by (first | rfl | (repeat rw [up_n _ _ _ (by omega)])), rfl, rfl, rfl, rfl, rfl, rfl, rfl, rfl, rfl⟩
        | (exfalso; omega)
      · refine J.aload_n (q := 29) dX6_set_28 rfl ?_ rfl
        refine J.iconst (q := 30) dX6_set_29 ?_ rfl
        refine J.callV1i (ci := 6) (q := 33) dX6_set_30 mv_X6_no kL_X6_125 rfl (by decide) rfl ⟨by decide, by decide⟩ (Nat.le_of_ble_eq_true rfl) ⟨by decide, by decide⟩ rfl (c_X6_no (by omega)) ?_
        refine J.ireturn dX6_set_33 rfl ?_
        unfold MP an_set
        (try rw [hi_61]); (try rw [hi_62]); (try rw [hi_63]); (try rw [hi_65]); (try rw [hi_70]); (try rw [hi_74]); (try rw [hi_75]); (try rw [hi_76])
        repeat (first | rw [if_pos (by omega)] | rw [if_neg (by omega)])
        first
        | exact ⟨rfl, rfl, fun q hq => by (first | rfl | (repeat rw [up_n _ _ _ (by omega)])), rfl, rfl, rfl, rfl, rfl, rfl, rfl, rfl, rfl⟩
        | (exfalso; omega)
    · refine J.bipush (q := 17) dX6_set_15 (by decide) ?_ rfl
      refine J.goto (tgt := 22) dX6_set_17 rfl ?_
      refine J.callS3i (q := 25) dX6_set_22 mv_X6_in1 kS_X6_in1 kL_X6_61 ⟨by decide, by decide⟩ (Nat.le_of_ble_eq_true rfl) ⟨by decide, by decide⟩ rfl (c_X6_in1 (by omega) (by omega) (by omega)) ?_
      refine J.ifb_ne (tgt := 34) (q := 28) dX6_set_25 rfl rfl (fun c25 => ?_) (fun c25 => ?_)
      · refine J.aload_n (q := 35) dX6_set_34 rfl ?_ rfl
        refine J.getR (ci := 6) (k0 := 0) (c1 := 62) (q := 38) dX6_set_35 kF_X6_9 rfl (by decide) (by decide) rfl (by decide) rfl ?_ rfl
        refine J.iconst (q := 39) dX6_set_38 ?_ rfl
        refine J.iload_n (q := 40) dX6_set_39 rfl ?_ rfl
        refine J.iadd (q := 41) dX6_set_40 ?_ rfl
        refine J.iald (n := 307) (q := 42) dX6_set_41 rfl (by omega) ?_ rfl
        refine J.istore_n (q := 43) dX6_set_42 (Nat.le_of_ble_eq_true rfl) ?_ rfl
        refine J.aload_n (q := 44) dX6_set_43 rfl ?_ rfl
        refine J.getR (ci := 6) (k0 := 0) (c1 := 62) (q := 47) dX6_set_44 kF_X6_9 rfl (by decide) (by decide) rfl (by decide) rfl ?_ rfl
        refine J.iconst (q := 48) dX6_set_47 ?_ rfl
        refine J.iload_n (q := 49) dX6_set_48 rfl ?_ rfl
        refine J.iadd (q := 50) dX6_set_49 ?_ rfl
        refine J.iload_n (q := 51) dX6_set_50 rfl ?_ rfl
        refine J.iast (n := 307) (q := 52) dX6_set_51 rfl (by omega) ?_ rfl
        refine J.iload_n (q := 53) dX6_set_52 rfl ?_ rfl
        refine J.ireturn dX6_set_53 rfl ?_
        unfold MP an_set
        (try rw [hi_61]); (try rw [hi_62]); (try rw [hi_63]); (try rw [hi_65]); (try rw [hi_70]); (try rw [hi_74]); (try rw [hi_75]); (try rw [hi_76])
        repeat (first | rw [if_pos (by omega)] | rw [if_neg (by omega)])
        first
        | exact ⟨rfl, rfl, fun q hq => by (first | rfl | (repeat rw [up_n _ _ _ (by omega)])), rfl, rfl, rfl, rfl, rfl, rfl, rfl, rfl, rfl⟩
        | (exfalso; omega)
      · refine J.aload_n (q := 29) dX6_set_28 rfl ?_ rfl
        refine J.iconst (q := 30) dX6_set_29 ?_ rfl
        refine J.callV1i (ci := 6) (q := 33) dX6_set_30 mv_X6_no kL_X6_125 rfl (by decide) rfl ⟨by decide, by decide⟩ (Nat.le_of_ble_eq_true rfl) ⟨by decide, by decide⟩ rfl (c_X6_no (by omega)) ?_
        refine J.ireturn dX6_set_33 rfl ?_
        unfold MP an_set
        (try rw [hi_61]); (try rw [hi_62]); (try rw [hi_63]); (try rw [hi_65]); (try rw [hi_70]); (try rw [hi_74]); (try rw [hi_75]); (try rw [hi_76])
        repeat (first | rw [if_pos (by omega)] | rw [if_neg (by omega)])
        first
        | exact ⟨rfl, rfl, fun q hq => by (first | rfl | (repeat rw [up_n _ _ _ (by omega)])), rfl, rfl, rfl, rfl, rfl, rfl, rfl, rfl, rfl⟩
        | (exfalso; omega)

set_option maxRecDepth 100000 in
set_option maxHeartbeats 4000000 in
theorem c_X6_addsSnail {l : Launch} {F : Nat × (Int → Int)} {iv : Mm} {kd c : Int} (hm : 0 ≤ iv 62 2 ∧ iv 62 2 < 8) : Ctr l F 1 0 0 yX6_addsSnail cX6_addsSnail 4 none [r_ 61, i_ kd, i_ c] S0 (iv) (Ret none S0 (setr iv 62 (addS (iv 62) kd c))) := by
  refine Ctr.of false (fun h => by cases h) (by decide) rfl (Nat.le_of_ble_eq_true rfl) ?_
  refine J.aload_n (q := 1) dX6_addsSnail_0 rfl ?_ rfl
  refine J.getR (ci := 6) (k0 := 0) (c1 := 62) (q := 4) dX6_addsSnail_1 kF_X6_9 rfl (by decide) (by decide) rfl (by decide) rfl ?_ rfl
  refine J.iconst (q := 5) dX6_addsSnail_4 ?_ rfl
  refine J.iald (n := 307) (q := 6) dX6_addsSnail_5 rfl (by omega) ?_ rfl
  refine J.istore_n (q := 7) dX6_addsSnail_6 (Nat.le_of_ble_eq_true rfl) ?_ rfl
  refine J.aload_n (q := 8) dX6_addsSnail_7 rfl ?_ rfl
  refine J.iload_n (q := 9) dX6_addsSnail_8 rfl ?_ rfl
  refine J.iconst (q := 10) dX6_addsSnail_9 ?_ rfl
  refine J.iload_n (q := 11) dX6_addsSnail_10 rfl ?_ rfl
  refine J.callV3v (ci := 6) (q := 14) dX6_addsSnail_11 mv_X6_puts kL_X6_97 rfl (by decide) rfl ⟨by decide, by decide⟩ (Nat.le_of_ble_eq_true rfl) ⟨by decide, by decide⟩ rfl (c_X6_puts (by omega)) ?_
  refine J.aload_n (q := 15) dX6_addsSnail_14 rfl ?_ rfl
  refine J.iload_n (q := 16) dX6_addsSnail_15 rfl ?_ rfl
  refine J.iconst (q := 17) dX6_addsSnail_16 ?_ rfl
  refine J.iload_n (q := 18) dX6_addsSnail_17 rfl ?_ rfl
  refine J.callV3v (ci := 6) (q := 21) dX6_addsSnail_18 mv_X6_puts kL_X6_97 rfl (by decide) rfl ⟨by decide, by decide⟩ (Nat.le_of_ble_eq_true rfl) ⟨by decide, by decide⟩ rfl (c_X6_puts (by omega)) ?_
  refine J.aload_n (q := 22) dX6_addsSnail_21 rfl ?_ rfl
  refine J.iload_n (q := 23) dX6_addsSnail_22 rfl ?_ rfl
  refine J.iconst (q := 24) dX6_addsSnail_23 ?_ rfl
  refine J.iconst (q := 25) dX6_addsSnail_24 ?_ rfl
  refine J.callV3v (ci := 6) (q := 28) dX6_addsSnail_25 mv_X6_puts kL_X6_97 rfl (by decide) rfl ⟨by decide, by decide⟩ (Nat.le_of_ble_eq_true rfl) ⟨by decide, by decide⟩ rfl (c_X6_puts (by omega)) ?_
  refine J.aload_n (q := 29) dX6_addsSnail_28 rfl ?_ rfl
  refine J.iload_n (q := 30) dX6_addsSnail_29 rfl ?_ rfl
  refine J.iconst (q := 31) dX6_addsSnail_30 ?_ rfl
  refine J.bipush (q := 33) dX6_addsSnail_31 (by decide) ?_ rfl
  refine J.callV3v (ci := 6) (q := 36) dX6_addsSnail_33 mv_X6_puts kL_X6_97 rfl (by decide) rfl ⟨by decide, by decide⟩ (Nat.le_of_ble_eq_true rfl) ⟨by decide, by decide⟩ rfl (c_X6_puts (by omega)) ?_
  refine J.aload_n (q := 37) dX6_addsSnail_36 rfl ?_ rfl
  refine J.iload_n (q := 38) dX6_addsSnail_37 rfl ?_ rfl
  refine J.iconst (q := 39) dX6_addsSnail_38 ?_ rfl
  refine J.iconst (q := 40) dX6_addsSnail_39 ?_ rfl
  refine J.callV3v (ci := 6) (q := 43) dX6_addsSnail_40 mv_X6_puts kL_X6_97 rfl (by decide) rfl ⟨by decide, by decide⟩ (Nat.le_of_ble_eq_true rfl) ⟨by decide, by decide⟩ rfl (c_X6_puts (by omega)) ?_
  refine J.aload_n (q := 44) dX6_addsSnail_43 rfl ?_ rfl
  refine J.getR (ci := 6) (k0 := 0) (c1 := 62) (q := 47) dX6_addsSnail_44 kF_X6_9 rfl (by decide) (by decide) rfl (by decide) rfl ?_ rfl
  refine J.iconst (q := 48) dX6_addsSnail_47 ?_ rfl
  refine J.dup2 (q := 49) dX6_addsSnail_48 rfl rfl ?_ rfl
  refine J.iald (n := 307) (q := 50) dX6_addsSnail_49 rfl (by omega) ?_ rfl
  refine J.iconst (q := 51) dX6_addsSnail_50 ?_ rfl
  refine J.iadd (q := 52) dX6_addsSnail_51 ?_ rfl
  refine J.iast (n := 307) (q := 53) dX6_addsSnail_52 rfl (by omega) ?_ rfl
  refine J.vreturn dX6_addsSnail_53 rfl ?_
  refine ⟨rfl, rfl, ?_⟩
  funext q
  by_cases hq : q = 62
  · subst hq
    rw [setr_s, up_s]
    unfold addS
    simp only [up_s]
    rw [upr_n _ _ (by omega), upr_n _ _ (by omega), upr_n _ _ (by omega), upr_n _ _ (by omega), upr_n _ _ (by omega)]
  · rw [setr_n _ _ hq]
    repeat rw [up_n _ _ _ hq]

set_option maxRecDepth 100000 in
set_option maxHeartbeats 4000000 in
theorem c_X6_snail {l : Launch} {F : Nat × (Int → Int)} {iv : Mm} {D : Int} (hD : D ≤ 200000) (hI : MI D (iv 62)) {kd c : Int} (hkd : -2147483648 ≤ kd ∧ kd < 2147483648) (hc : -2147483648 ≤ c ∧ c < 2147483648) : Ctr l F 2 0 0 yX6_snail cX6_snail 3 (some FieldType.int) [r_ 61, i_ kd, i_ c] S0 (iv) (MP iv (an_snail (hi iv) kd c)) := by
  refine Ctr.of false (fun h => by cases h) (by decide) rfl (Nat.le_of_ble_eq_true rfl) ?_
  have hmm := hI.many
  refine J.iload_n (q := 1) dX6_snail_0 rfl ?_ rfl
  refine J.iconst (q := 2) dX6_snail_1 ?_ rfl
  refine J.bipush (q := 4) dX6_snail_2 (by decide) ?_ rfl
  refine J.callS3i (q := 7) dX6_snail_4 mv_X6_in1 kS_X6_in1 kL_X6_61 ⟨by decide, by decide⟩ (Nat.le_of_ble_eq_true rfl) ⟨by decide, by decide⟩ rfl (c_X6_in1 (by omega) (by omega) (by omega)) ?_
  refine J.ifb_eq (tgt := 17) (q := 10) dX6_snail_7 rfl rfl (fun c7 => ?_) (fun c7 => ?_)
  · refine J.aload_n (q := 18) dX6_snail_17 rfl ?_ rfl
    refine J.iconst (q := 19) dX6_snail_18 ?_ rfl
    refine J.callV1i (ci := 6) (q := 22) dX6_snail_19 mv_X6_no kL_X6_125 rfl (by decide) rfl ⟨by decide, by decide⟩ (Nat.le_of_ble_eq_true rfl) ⟨by decide, by decide⟩ rfl (c_X6_no (by omega)) ?_
    refine J.ireturn dX6_snail_22 rfl ?_
    unfold MP an_snail
    (try rw [hi_61]); (try rw [hi_62]); (try rw [hi_63]); (try rw [hi_65]); (try rw [hi_70]); (try rw [hi_74]); (try rw [hi_75]); (try rw [hi_76])
    repeat (first | rw [if_pos (by omega)] | rw [if_neg (by omega)])
    first
    | exact ⟨rfl, rfl, fun q hq => by (first | rfl | (repeat rw [up_n _ _ _ (by omega)])), rfl, rfl, rfl, rfl, rfl, rfl, rfl, rfl, rfl⟩
    | (refine ⟨congrArg (fun z => some (i_ z)) ?_, rfl, fun q hq => setr_n _ _ (by omega), rfl, rfl, rfl, rfl, rfl, rfl, rfl, rfl, rfl⟩
       show addS (iv 62) kd c 2 - 1 = iv 62 2
       unfold addS
       rw [upr_s]
       omega)
  · refine J.iload_n (q := 11) dX6_snail_10 rfl ?_ rfl
    refine J.callS1i (q := 14) dX6_snail_11 mv_X6_isCell kS_X6_isCell kL_X6_122 ⟨by decide, by decide⟩ (Nat.le_of_ble_eq_true rfl) ⟨by decide, by decide⟩ rfl (c_X6_isCell (by omega)) ?_
    refine J.ifb_ne (tgt := 23) (q := 17) dX6_snail_14 rfl rfl (fun c14 => ?_) (fun c14 => ?_)
    · refine J.aload_n (q := 24) dX6_snail_23 rfl ?_ rfl
      refine J.getR (ci := 6) (k0 := 0) (c1 := 62) (q := 27) dX6_snail_24 kF_X6_9 rfl (by decide) (by decide) rfl (by decide) rfl ?_ rfl
      refine J.iconst (q := 28) dX6_snail_27 ?_ rfl
      refine J.iald (n := 307) (q := 29) dX6_snail_28 rfl (by omega) ?_ rfl
      refine J.bipush (q := 31) dX6_snail_29 (by decide) ?_ rfl
      refine J.icmp_ne (tgt := 40) (q := 34) dX6_snail_31 rfl rfl (fun c31 => ?_) (fun c31 => ?_)
      · refine J.aload_n (q := 41) dX6_snail_40 rfl ?_ rfl
        refine J.iload_n (q := 42) dX6_snail_41 rfl ?_ rfl
        refine J.iload_n (q := 43) dX6_snail_42 rfl ?_ rfl
        refine J.callV2v (ci := 6) (q := 46) dX6_snail_43 mv_X6_addsSnail kL_X6_128 rfl (by decide) rfl ⟨by decide, by decide⟩ (Nat.le_of_ble_eq_true rfl) ⟨by decide, by decide⟩ rfl (c_X6_addsSnail (by omega)) ?_
        refine J.aload_n (q := 47) dX6_snail_46 rfl ?_ rfl
        refine J.getR (ci := 6) (k0 := 0) (c1 := 62) (q := 50) dX6_snail_47 kF_X6_9 rfl (by decide) (by decide) rfl (by decide) rfl ?_ rfl
        refine J.iconst (q := 51) dX6_snail_50 ?_ rfl
        refine J.iald (n := 307) (q := 52) dX6_snail_51 rfl (by omega) ?_ rfl
        refine J.iconst (q := 53) dX6_snail_52 ?_ rfl
        refine J.isub (q := 54) dX6_snail_53 ?_ rfl
        refine J.ireturn dX6_snail_54 rfl ?_
        unfold MP an_snail
        (try rw [hi_61]); (try rw [hi_62]); (try rw [hi_63]); (try rw [hi_65]); (try rw [hi_70]); (try rw [hi_74]); (try rw [hi_75]); (try rw [hi_76])
        repeat (first | rw [if_pos (by omega)] | rw [if_neg (by omega)])
        first
        | exact ⟨rfl, rfl, fun q hq => by (first | rfl | (repeat rw [up_n _ _ _ (by omega)])), rfl, rfl, rfl, rfl, rfl, rfl, rfl, rfl, rfl⟩
        | (refine ⟨congrArg (fun z => some (i_ z)) ?_, rfl, fun q hq => setr_n _ _ (by omega), rfl, rfl, rfl, rfl, rfl, rfl, rfl, rfl, rfl⟩
           show addS (iv 62) kd c 2 - 1 = iv 62 2
           unfold addS
           rw [upr_s]
           omega)
      · refine J.aload_n (q := 35) dX6_snail_34 rfl ?_ rfl
        refine J.iconst (q := 36) dX6_snail_35 ?_ rfl
        refine J.callV1i (ci := 6) (q := 39) dX6_snail_36 mv_X6_no kL_X6_125 rfl (by decide) rfl ⟨by decide, by decide⟩ (Nat.le_of_ble_eq_true rfl) ⟨by decide, by decide⟩ rfl (c_X6_no (by omega)) ?_
        refine J.ireturn dX6_snail_39 rfl ?_
        unfold MP an_snail
        (try rw [hi_61]); (try rw [hi_62]); (try rw [hi_63]); (try rw [hi_65]); (try rw [hi_70]); (try rw [hi_74]); (try rw [hi_75]); (try rw [hi_76])
        repeat (first | rw [if_pos (by omega)] | rw [if_neg (by omega)])
        first
        | exact ⟨rfl, rfl, fun q hq => by (first | rfl | (repeat rw [up_n _ _ _ (by omega)])), rfl, rfl, rfl, rfl, rfl, rfl, rfl, rfl, rfl⟩
        | (refine ⟨congrArg (fun z => some (i_ z)) ?_, rfl, fun q hq => setr_n _ _ (by omega), rfl, rfl, rfl, rfl, rfl, rfl, rfl, rfl, rfl⟩
           show addS (iv 62) kd c 2 - 1 = iv 62 2
           unfold addS
           rw [upr_s]
           omega)
    · refine J.aload_n (q := 18) dX6_snail_17 rfl ?_ rfl
      refine J.iconst (q := 19) dX6_snail_18 ?_ rfl
      refine J.callV1i (ci := 6) (q := 22) dX6_snail_19 mv_X6_no kL_X6_125 rfl (by decide) rfl ⟨by decide, by decide⟩ (Nat.le_of_ble_eq_true rfl) ⟨by decide, by decide⟩ rfl (c_X6_no (by omega)) ?_
      refine J.ireturn dX6_snail_22 rfl ?_
      unfold MP an_snail
      (try rw [hi_61]); (try rw [hi_62]); (try rw [hi_63]); (try rw [hi_65]); (try rw [hi_70]); (try rw [hi_74]); (try rw [hi_75]); (try rw [hi_76])
      repeat (first | rw [if_pos (by omega)] | rw [if_neg (by omega)])
      first
      | exact ⟨rfl, rfl, fun q hq => by (first | rfl | (repeat rw [up_n _ _ _ (by omega)])), rfl, rfl, rfl, rfl, rfl, rfl, rfl, rfl, rfl⟩
      | (refine ⟨congrArg (fun z => some (i_ z)) ?_, rfl, fun q hq => setr_n _ _ (by omega), rfl, rfl, rfl, rfl, rfl, rfl, rfl, rfl, rfl⟩
         show addS (iv 62) kd c 2 - 1 = iv 62 2
         unfold addS
         rw [upr_s]
         omega)

set_option maxRecDepth 100000 in
set_option maxHeartbeats 4000000 in
theorem c_X6_of {l : Launch} {F : Nat × (Int → Int)} {iv : Mm} {D : Int} (hD : D ≤ 200000) (hI : MI D (iv 62)) {k w : Int} (hk : -2147483648 ≤ k ∧ k < 2147483648) (hw : -2147483648 ≤ w ∧ w < 2147483648) : Ctr l F 3 0 0 yX6_of cX6_of 3 (some FieldType.int) [r_ 61, i_ k, i_ w] S0 (iv) (MP iv (an_of (hi iv) k w)) := by
  refine Ctr.of false (fun h => by cases h) (by decide) rfl (Nat.le_of_ble_eq_true rfl) ?_
  have hmm := hI.many
  refine J.aload_n (q := 1) dX6_of_0 rfl ?_ rfl
  refine J.iload_n (q := 2) dX6_of_1 rfl ?_ rfl
  refine J.callV1i (ci := 6) (q := 5) dX6_of_2 mv_X6_isSnail kL_X6_131 rfl (by decide) rfl ⟨by decide, by decide⟩ (Nat.le_of_ble_eq_true rfl) ⟨by decide, by decide⟩ rfl (c_X6_isSnail (by omega) (by omega)) ?_
  refine J.ifb_eq (tgt := 18) (q := 8) dX6_of_5 rfl rfl (fun c5 => ?_) (fun c5 => ?_)
  · refine J.aload_n (q := 19) dX6_of_18 rfl ?_ rfl
    refine J.iconst (q := 20) dX6_of_19 ?_ rfl
    refine J.callV1i (ci := 6) (q := 23) dX6_of_20 mv_X6_no kL_X6_125 rfl (by decide) rfl ⟨by decide, by decide⟩ (Nat.le_of_ble_eq_true rfl) ⟨by decide, by decide⟩ rfl (c_X6_no (by omega)) ?_
    refine J.ireturn dX6_of_23 rfl ?_
    unfold MP an_of
    (try rw [hi_61]); (try rw [hi_62]); (try rw [hi_63]); (try rw [hi_65]); (try rw [hi_70]); (try rw [hi_74]); (try rw [hi_75]); (try rw [hi_76])
    repeat (first | rw [if_pos (by omega)] | rw [if_neg (by omega)])
    first
    | exact ⟨rfl, rfl, fun q hq => by (first | rfl | (repeat rw [up_n _ _ _ (by omega)])), rfl, rfl, rfl, rfl, rfl, rfl, rfl, rfl, rfl⟩
    | (refine ⟨congrArg (fun z => some (i_ z)) ?_, rfl, fun q hq => g1 q (by omega) (by omega) (by omega), e62, g1 63 (by decide) (by decide) (by decide), g1 65 (by decide) (by decide) (by decide), g1 70 (by decide) (by decide) (by decide), g1 74 (by decide) (by decide) (by decide), g1 75 (by decide) (by decide) (by decide), g1 76 (by decide) (by decide) (by decide), by rw [g1 61 (by decide) (by decide) (by decide)]; rfl, by rw [g1 61 (by decide) (by decide) (by decide)]; rfl⟩
       first
       | rfl
       | (rw [e62]; done)
       | exact (g2 k _ (by omega) (by omega) hsn.2.1.1 hsn.2.1.2).1)
  · refine J.iload_n (q := 9) dX6_of_8 rfl ?_ rfl
    refine J.iconst (q := 10) dX6_of_9 ?_ rfl
    refine J.bipush (q := 12) dX6_of_10 (by decide) ?_ rfl
    refine J.callS3i (q := 15) dX6_of_12 mv_X6_in1 kS_X6_in1 kL_X6_61 ⟨by decide, by decide⟩ (Nat.le_of_ble_eq_true rfl) ⟨by decide, by decide⟩ rfl (c_X6_in1 (by omega) (by omega) (by omega)) ?_
    refine J.ifb_ne (tgt := 24) (q := 18) dX6_of_15 rfl rfl (fun c15 => ?_) (fun c15 => ?_)
    · refine J.aload_n (q := 25) dX6_of_24 rfl ?_ rfl
      refine J.callV0 (ci := 6) (q := 28) dX6_of_25 mv_X6_findsFars kL_X6_112 rfl (by decide) rfl ⟨by decide, by decide⟩ (Nat.le_of_ble_eq_true rfl) ⟨by decide, by decide⟩ rfl (c_X6_findsFars hD hI) (fun v9 S9 iv9 hp => ?_)
      obtain ⟨rfl, rfl, g1, g2⟩ := hp
      have e62 := g1 62 (by decide) (by decide) (by decide)
      have hsn := hI.sna k (by omega) (by omega)
      have hI9 : MI D (iv9 62) := by rw [e62]; exact hI
      refine J.iload_n (q := 29) dX6_of_28 rfl ?_ rfl
      refine J.iconst (q := 30) dX6_of_29 ?_ rfl
      refine J.icmp_ge (tgt := 42) (q := 33) dX6_of_30 rfl rfl (fun c30 => ?_) (fun c30 => ?_)
      · refine J.iload_n (q := 43) dX6_of_42 rfl ?_ rfl
        refine J.iconst (q := 44) dX6_of_43 ?_ rfl
        refine J.icmp_ne (tgt := 55) (q := 47) dX6_of_44 rfl rfl (fun c44 => ?_) (fun c44 => ?_)
        · refine J.aload_n (q := 56) dX6_of_55 rfl ?_ rfl
          refine J.iload_n (q := 57) dX6_of_56 rfl ?_ rfl
          refine J.aload_n (q := 58) dX6_of_57 rfl ?_ rfl
          refine J.iload_n (q := 59) dX6_of_58 rfl ?_ rfl
          refine J.iconst (q := 60) dX6_of_59 ?_ rfl
          refine J.callV2i (ci := 6) (q := 63) dX6_of_60 mv_X6_get kL_X6_76 rfl (by decide) rfl ⟨by decide, by decide⟩ (Nat.le_of_ble_eq_true rfl) ⟨by decide, by decide⟩ rfl (c_X6_get (by omega)) ?_
          rw [e62]
          refine J.callV2i (ci := 6) (q := 66) dX6_of_63 mv_X6_farBy kL_X6_84 rfl (by decide) rfl ⟨by decide, by decide⟩ (Nat.le_of_ble_eq_true rfl) ⟨by decide, by decide⟩ rfl (c_X6_farBy (by omega) (by omega)) ?_
          refine J.ireturn dX6_of_66 rfl ?_
          unfold MP an_of
          (try rw [hi_61]); (try rw [hi_62]); (try rw [hi_63]); (try rw [hi_65]); (try rw [hi_70]); (try rw [hi_74]); (try rw [hi_75]); (try rw [hi_76])
          repeat (first | rw [if_pos (by omega)] | rw [if_neg (by omega)])
          first
          | exact ⟨rfl, rfl, fun q hq => by (first | rfl | (repeat rw [up_n _ _ _ (by omega)])), rfl, rfl, rfl, rfl, rfl, rfl, rfl, rfl, rfl⟩
          | (refine ⟨congrArg (fun z => some (i_ z)) ?_, rfl, fun q hq => g1 q (by omega) (by omega) (by omega), e62, g1 63 (by decide) (by decide) (by decide), g1 65 (by decide) (by decide) (by decide), g1 70 (by decide) (by decide) (by decide), g1 74 (by decide) (by decide) (by decide), g1 75 (by decide) (by decide) (by decide), g1 76 (by decide) (by decide) (by decide), by rw [g1 61 (by decide) (by decide) (by decide)]; rfl, by rw [g1 61 (by decide) (by decide) (by decide)]; rfl⟩
             first
             | rfl
             | (rw [e62]; done)
             | exact (g2 k _ (by omega) (by omega) hsn.2.1.1 hsn.2.1.2).1)
        · refine J.aload_n (q := 48) dX6_of_47 rfl ?_ rfl
          refine J.iload_n (q := 49) dX6_of_48 rfl ?_ rfl
          refine J.callV1i (ci := 6) (q := 52) dX6_of_49 mv_X6_movesOf kL_X6_90 rfl (by decide) rfl ⟨by decide, by decide⟩ (Nat.le_of_ble_eq_true rfl) ⟨by decide, by decide⟩ rfl (c_X6_movesOf hD hI9 (by omega)) ?_
          rw [e62]
          refine J.goto (tgt := 66) dX6_of_52 rfl ?_
          refine J.ireturn dX6_of_66 rfl ?_
          unfold MP an_of
          (try rw [hi_61]); (try rw [hi_62]); (try rw [hi_63]); (try rw [hi_65]); (try rw [hi_70]); (try rw [hi_74]); (try rw [hi_75]); (try rw [hi_76])
          repeat (first | rw [if_pos (by omega)] | rw [if_neg (by omega)])
          first
          | exact ⟨rfl, rfl, fun q hq => by (first | rfl | (repeat rw [up_n _ _ _ (by omega)])), rfl, rfl, rfl, rfl, rfl, rfl, rfl, rfl, rfl⟩
          | (refine ⟨congrArg (fun z => some (i_ z)) ?_, rfl, fun q hq => g1 q (by omega) (by omega) (by omega), e62, g1 63 (by decide) (by decide) (by decide), g1 65 (by decide) (by decide) (by decide), g1 70 (by decide) (by decide) (by decide), g1 74 (by decide) (by decide) (by decide), g1 75 (by decide) (by decide) (by decide), g1 76 (by decide) (by decide) (by decide), by rw [g1 61 (by decide) (by decide) (by decide)]; rfl, by rw [g1 61 (by decide) (by decide) (by decide)]; rfl⟩
             first
             | rfl
             | (rw [e62]; done)
             | exact (g2 k _ (by omega) (by omega) hsn.2.1.1 hsn.2.1.2).1)
      · refine J.aload_n (q := 34) dX6_of_33 rfl ?_ rfl
        refine J.iload_n (q := 35) dX6_of_34 rfl ?_ rfl
        refine J.iload_n (q := 36) dX6_of_35 rfl ?_ rfl
        refine J.callV2i (ci := 6) (q := 39) dX6_of_36 mv_X6_get kL_X6_76 rfl (by decide) rfl ⟨by decide, by decide⟩ (Nat.le_of_ble_eq_true rfl) ⟨by decide, by decide⟩ rfl (c_X6_get (by omega)) ?_
        refine J.goto (tgt := 66) dX6_of_39 rfl ?_
        refine J.ireturn dX6_of_66 rfl ?_
        unfold MP an_of
        (try rw [hi_61]); (try rw [hi_62]); (try rw [hi_63]); (try rw [hi_65]); (try rw [hi_70]); (try rw [hi_74]); (try rw [hi_75]); (try rw [hi_76])
        repeat (first | rw [if_pos (by omega)] | rw [if_neg (by omega)])
        first
        | exact ⟨rfl, rfl, fun q hq => by (first | rfl | (repeat rw [up_n _ _ _ (by omega)])), rfl, rfl, rfl, rfl, rfl, rfl, rfl, rfl, rfl⟩
        | (refine ⟨congrArg (fun z => some (i_ z)) ?_, rfl, fun q hq => g1 q (by omega) (by omega) (by omega), e62, g1 63 (by decide) (by decide) (by decide), g1 65 (by decide) (by decide) (by decide), g1 70 (by decide) (by decide) (by decide), g1 74 (by decide) (by decide) (by decide), g1 75 (by decide) (by decide) (by decide), g1 76 (by decide) (by decide) (by decide), by rw [g1 61 (by decide) (by decide) (by decide)]; rfl, by rw [g1 61 (by decide) (by decide) (by decide)]; rfl⟩
           first
           | rfl
           | (rw [e62]; done)
           | exact (g2 k _ (by omega) (by omega) hsn.2.1.1 hsn.2.1.2).1)
    · refine J.aload_n (q := 19) dX6_of_18 rfl ?_ rfl
      refine J.iconst (q := 20) dX6_of_19 ?_ rfl
      refine J.callV1i (ci := 6) (q := 23) dX6_of_20 mv_X6_no kL_X6_125 rfl (by decide) rfl ⟨by decide, by decide⟩ (Nat.le_of_ble_eq_true rfl) ⟨by decide, by decide⟩ rfl (c_X6_no (by omega)) ?_
      refine J.ireturn dX6_of_23 rfl ?_
      unfold MP an_of
      (try rw [hi_61]); (try rw [hi_62]); (try rw [hi_63]); (try rw [hi_65]); (try rw [hi_70]); (try rw [hi_74]); (try rw [hi_75]); (try rw [hi_76])
      repeat (first | rw [if_pos (by omega)] | rw [if_neg (by omega)])
      first
      | exact ⟨rfl, rfl, fun q hq => by (first | rfl | (repeat rw [up_n _ _ _ (by omega)])), rfl, rfl, rfl, rfl, rfl, rfl, rfl, rfl, rfl⟩
      | (refine ⟨congrArg (fun z => some (i_ z)) ?_, rfl, fun q hq => g1 q (by omega) (by omega) (by omega), e62, g1 63 (by decide) (by decide) (by decide), g1 65 (by decide) (by decide) (by decide), g1 70 (by decide) (by decide) (by decide), g1 74 (by decide) (by decide) (by decide), g1 75 (by decide) (by decide) (by decide), g1 76 (by decide) (by decide) (by decide), by rw [g1 61 (by decide) (by decide) (by decide)]; rfl, by rw [g1 61 (by decide) (by decide) (by decide)]; rfl⟩
         first
         | rfl
         | (rw [e62]; done)
         | exact (g2 k _ (by omega) (by omega) hsn.2.1.1 hsn.2.1.2).1)

set_option maxRecDepth 100000 in
set_option maxHeartbeats 4000000 in
theorem c_X6_change {l : Launch} {F : Nat × (Int → Int)} {iv : Mm} {D : Int} (hD : D ≤ 200000) (hI : MI D (iv 62)) {k w v : Int} (hk : -2147483648 ≤ k ∧ k < 2147483648) (hw : -2147483648 ≤ w ∧ w < 2147483648) (hv : -2147483648 ≤ v ∧ v < 2147483648) : Ctr l F 2 0 0 yX6_change cX6_change 6 (some FieldType.int) [r_ 61, i_ k, i_ w, i_ v] S0 (iv) (MP iv (an_change (hi iv) k w v)) := by
  refine Ctr.of false (fun h => by cases h) (by decide) rfl (Nat.le_of_ble_eq_true rfl) ?_
  have hmm := hI.many
  refine J.iload_n (q := 1) dX6_change_0 rfl ?_ rfl
  refine J.if_ne (tgt := 9) (q := 4) dX6_change_1 rfl rfl (fun c1 => ?_) (fun c1 => ?_)
  · refine J.iload_n (q := 10) dX6_change_9 rfl ?_ rfl
    refine J.iconst (q := 11) dX6_change_10 ?_ rfl
    refine J.icmp_ne (tgt := 19) (q := 14) dX6_change_11 rfl rfl (fun c11 => ?_) (fun c11 => ?_)
    · refine J.iload_n (q := 20) dX6_change_19 rfl ?_ rfl
      refine J.iconst (q := 21) dX6_change_20 ?_ rfl
      refine J.icmp_ne (tgt := 29) (q := 24) dX6_change_21 rfl rfl (fun c21 => ?_) (fun c21 => ?_)
      · have hmt : mostT w = 80 := by unfold mostT; rw [if_neg (by omega), if_neg (by omega), if_neg (by omega)]
        refine J.bipush (q := 31) dX6_change_29 (by decide) ?_ rfl
        refine J.istore (q := 33) dX6_change_31 (Nat.le_of_ble_eq_true rfl) ?_ rfl
        refine J.aload_n (q := 34) dX6_change_33 rfl ?_ rfl
        refine J.iload_n (q := 35) dX6_change_34 rfl ?_ rfl
        refine J.callV1i (ci := 6) (q := 38) dX6_change_35 mv_X6_isSnail kL_X6_131 rfl (by decide) rfl ⟨by decide, by decide⟩ (Nat.le_of_ble_eq_true rfl) ⟨by decide, by decide⟩ rfl (c_X6_isSnail (by omega) (by omega)) ?_
        refine J.ifb_eq (tgt := 60) (q := 41) dX6_change_38 rfl rfl (fun c38 => ?_) (fun c38 => ?_)
        · refine J.aload_n (q := 61) dX6_change_60 rfl ?_ rfl
          refine J.iconst (q := 62) dX6_change_61 ?_ rfl
          refine J.callV1i (ci := 6) (q := 65) dX6_change_62 mv_X6_no kL_X6_125 rfl (by decide) rfl ⟨by decide, by decide⟩ (Nat.le_of_ble_eq_true rfl) ⟨by decide, by decide⟩ rfl (c_X6_no (by omega)) ?_
          refine J.ireturn dX6_change_65 rfl ?_
          unfold MP an_change
          (try rw [hi_61]); (try rw [hi_62]); (try rw [hi_63]); (try rw [hi_65]); (try rw [hi_70]); (try rw [hi_74]); (try rw [hi_75]); (try rw [hi_76])
          repeat (first | rw [if_pos (by omega)] | rw [if_neg (by omega)])
          first
          | exact ⟨rfl, rfl, fun q hq => by (first | rfl | (repeat rw [up_n _ _ _ (by omega)])), rfl, rfl, rfl, rfl, rfl, rfl, rfl, rfl, rfl⟩
          | (exfalso; omega)
        · refine J.iload_n (q := 42) dX6_change_41 rfl ?_ rfl
          refine J.iconst (q := 43) dX6_change_42 ?_ rfl
          refine J.iconst (q := 44) dX6_change_43 ?_ rfl
          refine J.callS3i (q := 47) dX6_change_44 mv_X6_in1 kS_X6_in1 kL_X6_61 ⟨by decide, by decide⟩ (Nat.le_of_ble_eq_true rfl) ⟨by decide, by decide⟩ rfl (c_X6_in1 (by omega) (by omega) (by omega)) ?_
          refine J.ifb_eq (tgt := 60) (q := 50) dX6_change_47 rfl rfl (fun c47 => ?_) (fun c47 => ?_)
          · refine J.aload_n (q := 61) dX6_change_60 rfl ?_ rfl
            refine J.iconst (q := 62) dX6_change_61 ?_ rfl
            refine J.callV1i (ci := 6) (q := 65) dX6_change_62 mv_X6_no kL_X6_125 rfl (by decide) rfl ⟨by decide, by decide⟩ (Nat.le_of_ble_eq_true rfl) ⟨by decide, by decide⟩ rfl (c_X6_no (by omega)) ?_
            refine J.ireturn dX6_change_65 rfl ?_
            unfold MP an_change
            (try rw [hi_61]); (try rw [hi_62]); (try rw [hi_63]); (try rw [hi_65]); (try rw [hi_70]); (try rw [hi_74]); (try rw [hi_75]); (try rw [hi_76])
            repeat (first | rw [if_pos (by omega)] | rw [if_neg (by omega)])
            first
            | exact ⟨rfl, rfl, fun q hq => by (first | rfl | (repeat rw [up_n _ _ _ (by omega)])), rfl, rfl, rfl, rfl, rfl, rfl, rfl, rfl, rfl⟩
            | (exfalso; omega)
          · refine J.iload_n (q := 51) dX6_change_50 rfl ?_ rfl
            refine J.iconst (q := 52) dX6_change_51 ?_ rfl
            refine J.iload (q := 54) dX6_change_52 rfl ?_ rfl
            refine J.callS3i (q := 57) dX6_change_54 mv_X6_in1 kS_X6_in1 kL_X6_61 ⟨by decide, by decide⟩ (Nat.le_of_ble_eq_true rfl) ⟨by decide, by decide⟩ rfl (c_X6_in1 (by omega) (by omega) (by omega)) ?_
            refine J.ifb_ne (tgt := 66) (q := 60) dX6_change_57 rfl rfl (fun c57 => ?_) (fun c57 => ?_)
            · refine J.aload_n (q := 67) dX6_change_66 rfl ?_ rfl
              refine J.iload_n (q := 68) dX6_change_67 rfl ?_ rfl
              refine J.iload_n (q := 69) dX6_change_68 rfl ?_ rfl
              refine J.callV2i (ci := 6) (q := 72) dX6_change_69 mv_X6_get kL_X6_76 rfl (by decide) rfl ⟨by decide, by decide⟩ (Nat.le_of_ble_eq_true rfl) ⟨by decide, by decide⟩ rfl (c_X6_get (by omega)) ?_
              refine J.istore (q := 74) dX6_change_72 (Nat.le_of_ble_eq_true rfl) ?_ rfl
              refine J.aload_n (q := 75) dX6_change_74 rfl ?_ rfl
              refine J.iload_n (q := 76) dX6_change_75 rfl ?_ rfl
              refine J.iload_n (q := 77) dX6_change_76 rfl ?_ rfl
              refine J.iload_n (q := 78) dX6_change_77 rfl ?_ rfl
              refine J.callV3v (ci := 6) (q := 81) dX6_change_78 mv_X6_puts kL_X6_97 rfl (by decide) rfl ⟨by decide, by decide⟩ (Nat.le_of_ble_eq_true rfl) ⟨by decide, by decide⟩ rfl (c_X6_puts (by omega)) ?_
              refine J.iload (q := 83) dX6_change_81 rfl ?_ rfl
              refine J.ireturn dX6_change_83 rfl ?_
              unfold MP an_change
              (try rw [hi_61]); (try rw [hi_62]); (try rw [hi_63]); (try rw [hi_65]); (try rw [hi_70]); (try rw [hi_74]); (try rw [hi_75]); (try rw [hi_76])
              repeat (first | rw [if_pos (by omega)] | rw [if_neg (by omega)])
              first
              | exact ⟨rfl, rfl, fun q hq => by (first | rfl | (repeat rw [up_n _ _ _ (by omega)])), rfl, rfl, rfl, rfl, rfl, rfl, rfl, rfl, rfl⟩
              | (exfalso; omega)
            · refine J.aload_n (q := 61) dX6_change_60 rfl ?_ rfl
              refine J.iconst (q := 62) dX6_change_61 ?_ rfl
              refine J.callV1i (ci := 6) (q := 65) dX6_change_62 mv_X6_no kL_X6_125 rfl (by decide) rfl ⟨by decide, by decide⟩ (Nat.le_of_ble_eq_true rfl) ⟨by decide, by decide⟩ rfl (c_X6_no (by omega)) ?_
              refine J.ireturn dX6_change_65 rfl ?_
              unfold MP an_change
              (try rw [hi_61]); (try rw [hi_62]); (try rw [hi_63]); (try rw [hi_65]); (try rw [hi_70]); (try rw [hi_74]); (try rw [hi_75]); (try rw [hi_76])
              repeat (first | rw [if_pos (by omega)] | rw [if_neg (by omega)])
              first
              | exact ⟨rfl, rfl, fun q hq => by (first | rfl | (repeat rw [up_n _ _ _ (by omega)])), rfl, rfl, rfl, rfl, rfl, rfl, rfl, rfl, rfl⟩
              | (exfalso; omega)
      · have hmt : mostT w = 99 := by unfold mostT; rw [if_neg (by omega), if_neg (by omega), if_pos (by omega)]
        refine J.bipush (q := 26) dX6_change_24 (by decide) ?_ rfl
        refine J.goto (tgt := 31) dX6_change_26 rfl ?_
        refine J.istore (q := 33) dX6_change_31 (Nat.le_of_ble_eq_true rfl) ?_ rfl
        refine J.aload_n (q := 34) dX6_change_33 rfl ?_ rfl
        refine J.iload_n (q := 35) dX6_change_34 rfl ?_ rfl
        refine J.callV1i (ci := 6) (q := 38) dX6_change_35 mv_X6_isSnail kL_X6_131 rfl (by decide) rfl ⟨by decide, by decide⟩ (Nat.le_of_ble_eq_true rfl) ⟨by decide, by decide⟩ rfl (c_X6_isSnail (by omega) (by omega)) ?_
        refine J.ifb_eq (tgt := 60) (q := 41) dX6_change_38 rfl rfl (fun c38 => ?_) (fun c38 => ?_)
        · refine J.aload_n (q := 61) dX6_change_60 rfl ?_ rfl
          refine J.iconst (q := 62) dX6_change_61 ?_ rfl
          refine J.callV1i (ci := 6) (q := 65) dX6_change_62 mv_X6_no kL_X6_125 rfl (by decide) rfl ⟨by decide, by decide⟩ (Nat.le_of_ble_eq_true rfl) ⟨by decide, by decide⟩ rfl (c_X6_no (by omega)) ?_
          refine J.ireturn dX6_change_65 rfl ?_
          unfold MP an_change
          (try rw [hi_61]); (try rw [hi_62]); (try rw [hi_63]); (try rw [hi_65]); (try rw [hi_70]); (try rw [hi_74]); (try rw [hi_75]); (try rw [hi_76])
          repeat (first | rw [if_pos (by omega)] | rw [if_neg (by omega)])
          first
          | exact ⟨rfl, rfl, fun q hq => by (first | rfl | (repeat rw [up_n _ _ _ (by omega)])), rfl, rfl, rfl, rfl, rfl, rfl, rfl, rfl, rfl⟩
          | (exfalso; omega)
        · refine J.iload_n (q := 42) dX6_change_41 rfl ?_ rfl
          refine J.iconst (q := 43) dX6_change_42 ?_ rfl
          refine J.iconst (q := 44) dX6_change_43 ?_ rfl
          refine J.callS3i (q := 47) dX6_change_44 mv_X6_in1 kS_X6_in1 kL_X6_61 ⟨by decide, by decide⟩ (Nat.le_of_ble_eq_true rfl) ⟨by decide, by decide⟩ rfl (c_X6_in1 (by omega) (by omega) (by omega)) ?_
          refine J.ifb_eq (tgt := 60) (q := 50) dX6_change_47 rfl rfl (fun c47 => ?_) (fun c47 => ?_)
          · refine J.aload_n (q := 61) dX6_change_60 rfl ?_ rfl
            refine J.iconst (q := 62) dX6_change_61 ?_ rfl
            refine J.callV1i (ci := 6) (q := 65) dX6_change_62 mv_X6_no kL_X6_125 rfl (by decide) rfl ⟨by decide, by decide⟩ (Nat.le_of_ble_eq_true rfl) ⟨by decide, by decide⟩ rfl (c_X6_no (by omega)) ?_
            refine J.ireturn dX6_change_65 rfl ?_
            unfold MP an_change
            (try rw [hi_61]); (try rw [hi_62]); (try rw [hi_63]); (try rw [hi_65]); (try rw [hi_70]); (try rw [hi_74]); (try rw [hi_75]); (try rw [hi_76])
            repeat (first | rw [if_pos (by omega)] | rw [if_neg (by omega)])
            first
            | exact ⟨rfl, rfl, fun q hq => by (first | rfl | (repeat rw [up_n _ _ _ (by omega)])), rfl, rfl, rfl, rfl, rfl, rfl, rfl, rfl, rfl⟩
            | (exfalso; omega)
          · refine J.iload_n (q := 51) dX6_change_50 rfl ?_ rfl
            refine J.iconst (q := 52) dX6_change_51 ?_ rfl
            refine J.iload (q := 54) dX6_change_52 rfl ?_ rfl
            refine J.callS3i (q := 57) dX6_change_54 mv_X6_in1 kS_X6_in1 kL_X6_61 ⟨by decide, by decide⟩ (Nat.le_of_ble_eq_true rfl) ⟨by decide, by decide⟩ rfl (c_X6_in1 (by omega) (by omega) (by omega)) ?_
            refine J.ifb_ne (tgt := 66) (q := 60) dX6_change_57 rfl rfl (fun c57 => ?_) (fun c57 => ?_)
            · refine J.aload_n (q := 67) dX6_change_66 rfl ?_ rfl
              refine J.iload_n (q := 68) dX6_change_67 rfl ?_ rfl
              refine J.iload_n (q := 69) dX6_change_68 rfl ?_ rfl
              refine J.callV2i (ci := 6) (q := 72) dX6_change_69 mv_X6_get kL_X6_76 rfl (by decide) rfl ⟨by decide, by decide⟩ (Nat.le_of_ble_eq_true rfl) ⟨by decide, by decide⟩ rfl (c_X6_get (by omega)) ?_
              refine J.istore (q := 74) dX6_change_72 (Nat.le_of_ble_eq_true rfl) ?_ rfl
              refine J.aload_n (q := 75) dX6_change_74 rfl ?_ rfl
              refine J.iload_n (q := 76) dX6_change_75 rfl ?_ rfl
              refine J.iload_n (q := 77) dX6_change_76 rfl ?_ rfl
              refine J.iload_n (q := 78) dX6_change_77 rfl ?_ rfl
              refine J.callV3v (ci := 6) (q := 81) dX6_change_78 mv_X6_puts kL_X6_97 rfl (by decide) rfl ⟨by decide, by decide⟩ (Nat.le_of_ble_eq_true rfl) ⟨by decide, by decide⟩ rfl (c_X6_puts (by omega)) ?_
              refine J.iload (q := 83) dX6_change_81 rfl ?_ rfl
              refine J.ireturn dX6_change_83 rfl ?_
              unfold MP an_change
              (try rw [hi_61]); (try rw [hi_62]); (try rw [hi_63]); (try rw [hi_65]); (try rw [hi_70]); (try rw [hi_74]); (try rw [hi_75]); (try rw [hi_76])
              repeat (first | rw [if_pos (by omega)] | rw [if_neg (by omega)])
              first
              | exact ⟨rfl, rfl, fun q hq => by (first | rfl | (repeat rw [up_n _ _ _ (by omega)])), rfl, rfl, rfl, rfl, rfl, rfl, rfl, rfl, rfl⟩
              | (exfalso; omega)
            · refine J.aload_n (q := 61) dX6_change_60 rfl ?_ rfl
              refine J.iconst (q := 62) dX6_change_61 ?_ rfl
              refine J.callV1i (ci := 6) (q := 65) dX6_change_62 mv_X6_no kL_X6_125 rfl (by decide) rfl ⟨by decide, by decide⟩ (Nat.le_of_ble_eq_true rfl) ⟨by decide, by decide⟩ rfl (c_X6_no (by omega)) ?_
              refine J.ireturn dX6_change_65 rfl ?_
              unfold MP an_change
              (try rw [hi_61]); (try rw [hi_62]); (try rw [hi_63]); (try rw [hi_65]); (try rw [hi_70]); (try rw [hi_74]); (try rw [hi_75]); (try rw [hi_76])
              repeat (first | rw [if_pos (by omega)] | rw [if_neg (by omega)])
              first
              | exact ⟨rfl, rfl, fun q hq => by (first | rfl | (repeat rw [up_n _ _ _ (by omega)])), rfl, rfl, rfl, rfl, rfl, rfl, rfl, rfl, rfl⟩
              | (exfalso; omega)
    · have hmt : mostT w = 7 := by unfold mostT; rw [if_neg (by omega), if_pos (by omega)]
      refine J.bipush (q := 16) dX6_change_14 (by decide) ?_ rfl
      refine J.goto (tgt := 31) dX6_change_16 rfl ?_
      refine J.istore (q := 33) dX6_change_31 (Nat.le_of_ble_eq_true rfl) ?_ rfl
      refine J.aload_n (q := 34) dX6_change_33 rfl ?_ rfl
      refine J.iload_n (q := 35) dX6_change_34 rfl ?_ rfl
      refine J.callV1i (ci := 6) (q := 38) dX6_change_35 mv_X6_isSnail kL_X6_131 rfl (by decide) rfl ⟨by decide, by decide⟩ (Nat.le_of_ble_eq_true rfl) ⟨by decide, by decide⟩ rfl (c_X6_isSnail (by omega) (by omega)) ?_
      refine J.ifb_eq (tgt := 60) (q := 41) dX6_change_38 rfl rfl (fun c38 => ?_) (fun c38 => ?_)
      · refine J.aload_n (q := 61) dX6_change_60 rfl ?_ rfl
        refine J.iconst (q := 62) dX6_change_61 ?_ rfl
        refine J.callV1i (ci := 6) (q := 65) dX6_change_62 mv_X6_no kL_X6_125 rfl (by decide) rfl ⟨by decide, by decide⟩ (Nat.le_of_ble_eq_true rfl) ⟨by decide, by decide⟩ rfl (c_X6_no (by omega)) ?_
        refine J.ireturn dX6_change_65 rfl ?_
        unfold MP an_change
        (try rw [hi_61]); (try rw [hi_62]); (try rw [hi_63]); (try rw [hi_65]); (try rw [hi_70]); (try rw [hi_74]); (try rw [hi_75]); (try rw [hi_76])
        repeat (first | rw [if_pos (by omega)] | rw [if_neg (by omega)])
        first
        | exact ⟨rfl, rfl, fun q hq => by (first | rfl | (repeat rw [up_n _ _ _ (by omega)])), rfl, rfl, rfl, rfl, rfl, rfl, rfl, rfl, rfl⟩
        | (exfalso; omega)
      · refine J.iload_n (q := 42) dX6_change_41 rfl ?_ rfl
        refine J.iconst (q := 43) dX6_change_42 ?_ rfl
        refine J.iconst (q := 44) dX6_change_43 ?_ rfl
        refine J.callS3i (q := 47) dX6_change_44 mv_X6_in1 kS_X6_in1 kL_X6_61 ⟨by decide, by decide⟩ (Nat.le_of_ble_eq_true rfl) ⟨by decide, by decide⟩ rfl (c_X6_in1 (by omega) (by omega) (by omega)) ?_
        refine J.ifb_eq (tgt := 60) (q := 50) dX6_change_47 rfl rfl (fun c47 => ?_) (fun c47 => ?_)
        · refine J.aload_n (q := 61) dX6_change_60 rfl ?_ rfl
          refine J.iconst (q := 62) dX6_change_61 ?_ rfl
          refine J.callV1i (ci := 6) (q := 65) dX6_change_62 mv_X6_no kL_X6_125 rfl (by decide) rfl ⟨by decide, by decide⟩ (Nat.le_of_ble_eq_true rfl) ⟨by decide, by decide⟩ rfl (c_X6_no (by omega)) ?_
          refine J.ireturn dX6_change_65 rfl ?_
          unfold MP an_change
          (try rw [hi_61]); (try rw [hi_62]); (try rw [hi_63]); (try rw [hi_65]); (try rw [hi_70]); (try rw [hi_74]); (try rw [hi_75]); (try rw [hi_76])
          repeat (first | rw [if_pos (by omega)] | rw [if_neg (by omega)])
          first
          | exact ⟨rfl, rfl, fun q hq => by (first | rfl | (repeat rw [up_n _ _ _ (by omega)])), rfl, rfl, rfl, rfl, rfl, rfl, rfl, rfl, rfl⟩
          | (exfalso; omega)
        · refine J.iload_n (q := 51) dX6_change_50 rfl ?_ rfl
          refine J.iconst (q := 52) dX6_change_51 ?_ rfl
          refine J.iload (q := 54) dX6_change_52 rfl ?_ rfl
          refine J.callS3i (q := 57) dX6_change_54 mv_X6_in1 kS_X6_in1 kL_X6_61 ⟨by decide, by decide⟩ (Nat.le_of_ble_eq_true rfl) ⟨by decide, by decide⟩ rfl (c_X6_in1 (by omega) (by omega) (by omega)) ?_
          refine J.ifb_ne (tgt := 66) (q := 60) dX6_change_57 rfl rfl (fun c57 => ?_) (fun c57 => ?_)
          · refine J.aload_n (q := 67) dX6_change_66 rfl ?_ rfl
            refine J.iload_n (q := 68) dX6_change_67 rfl ?_ rfl
            refine J.iload_n (q := 69) dX6_change_68 rfl ?_ rfl
            refine J.callV2i (ci := 6) (q := 72) dX6_change_69 mv_X6_get kL_X6_76 rfl (by decide) rfl ⟨by decide, by decide⟩ (Nat.le_of_ble_eq_true rfl) ⟨by decide, by decide⟩ rfl (c_X6_get (by omega)) ?_
            refine J.istore (q := 74) dX6_change_72 (Nat.le_of_ble_eq_true rfl) ?_ rfl
            refine J.aload_n (q := 75) dX6_change_74 rfl ?_ rfl
            refine J.iload_n (q := 76) dX6_change_75 rfl ?_ rfl
            refine J.iload_n (q := 77) dX6_change_76 rfl ?_ rfl
            refine J.iload_n (q := 78) dX6_change_77 rfl ?_ rfl
            refine J.callV3v (ci := 6) (q := 81) dX6_change_78 mv_X6_puts kL_X6_97 rfl (by decide) rfl ⟨by decide, by decide⟩ (Nat.le_of_ble_eq_true rfl) ⟨by decide, by decide⟩ rfl (c_X6_puts (by omega)) ?_
            refine J.iload (q := 83) dX6_change_81 rfl ?_ rfl
            refine J.ireturn dX6_change_83 rfl ?_
            unfold MP an_change
            (try rw [hi_61]); (try rw [hi_62]); (try rw [hi_63]); (try rw [hi_65]); (try rw [hi_70]); (try rw [hi_74]); (try rw [hi_75]); (try rw [hi_76])
            repeat (first | rw [if_pos (by omega)] | rw [if_neg (by omega)])
            first
            | exact ⟨rfl, rfl, fun q hq => by (first | rfl | (repeat rw [up_n _ _ _ (by omega)])), rfl, rfl, rfl, rfl, rfl, rfl, rfl, rfl, rfl⟩
            | (exfalso; omega)
          · refine J.aload_n (q := 61) dX6_change_60 rfl ?_ rfl
            refine J.iconst (q := 62) dX6_change_61 ?_ rfl
            refine J.callV1i (ci := 6) (q := 65) dX6_change_62 mv_X6_no kL_X6_125 rfl (by decide) rfl ⟨by decide, by decide⟩ (Nat.le_of_ble_eq_true rfl) ⟨by decide, by decide⟩ rfl (c_X6_no (by omega)) ?_
            refine J.ireturn dX6_change_65 rfl ?_
            unfold MP an_change
            (try rw [hi_61]); (try rw [hi_62]); (try rw [hi_63]); (try rw [hi_65]); (try rw [hi_70]); (try rw [hi_74]); (try rw [hi_75]); (try rw [hi_76])
            repeat (first | rw [if_pos (by omega)] | rw [if_neg (by omega)])
            first
            | exact ⟨rfl, rfl, fun q hq => by (first | rfl | (repeat rw [up_n _ _ _ (by omega)])), rfl, rfl, rfl, rfl, rfl, rfl, rfl, rfl, rfl⟩
            | (exfalso; omega)
  · have hmt : mostT w = 6 := if_pos c1
    refine J.bipush (q := 6) dX6_change_4 (by decide) ?_ rfl
    refine J.goto (tgt := 31) dX6_change_6 rfl ?_
    refine J.istore (q := 33) dX6_change_31 (Nat.le_of_ble_eq_true rfl) ?_ rfl
    refine J.aload_n (q := 34) dX6_change_33 rfl ?_ rfl
    refine J.iload_n (q := 35) dX6_change_34 rfl ?_ rfl
    refine J.callV1i (ci := 6) (q := 38) dX6_change_35 mv_X6_isSnail kL_X6_131 rfl (by decide) rfl ⟨by decide, by decide⟩ (Nat.le_of_ble_eq_true rfl) ⟨by decide, by decide⟩ rfl (c_X6_isSnail (by omega) (by omega)) ?_
    refine J.ifb_eq (tgt := 60) (q := 41) dX6_change_38 rfl rfl (fun c38 => ?_) (fun c38 => ?_)
    · refine J.aload_n (q := 61) dX6_change_60 rfl ?_ rfl
      refine J.iconst (q := 62) dX6_change_61 ?_ rfl
      refine J.callV1i (ci := 6) (q := 65) dX6_change_62 mv_X6_no kL_X6_125 rfl (by decide) rfl ⟨by decide, by decide⟩ (Nat.le_of_ble_eq_true rfl) ⟨by decide, by decide⟩ rfl (c_X6_no (by omega)) ?_
      refine J.ireturn dX6_change_65 rfl ?_
      unfold MP an_change
      (try rw [hi_61]); (try rw [hi_62]); (try rw [hi_63]); (try rw [hi_65]); (try rw [hi_70]); (try rw [hi_74]); (try rw [hi_75]); (try rw [hi_76])
      repeat (first | rw [if_pos (by omega)] | rw [if_neg (by omega)])
      first
      | exact ⟨rfl, rfl, fun q hq => by (first | rfl | (repeat rw [up_n _ _ _ (by omega)])), rfl, rfl, rfl, rfl, rfl, rfl, rfl, rfl, rfl⟩
      | (exfalso; omega)
    · refine J.iload_n (q := 42) dX6_change_41 rfl ?_ rfl
      refine J.iconst (q := 43) dX6_change_42 ?_ rfl
      refine J.iconst (q := 44) dX6_change_43 ?_ rfl
      refine J.callS3i (q := 47) dX6_change_44 mv_X6_in1 kS_X6_in1 kL_X6_61 ⟨by decide, by decide⟩ (Nat.le_of_ble_eq_true rfl) ⟨by decide, by decide⟩ rfl (c_X6_in1 (by omega) (by omega) (by omega)) ?_
      refine J.ifb_eq (tgt := 60) (q := 50) dX6_change_47 rfl rfl (fun c47 => ?_) (fun c47 => ?_)
      · refine J.aload_n (q := 61) dX6_change_60 rfl ?_ rfl
        refine J.iconst (q := 62) dX6_change_61 ?_ rfl
        refine J.callV1i (ci := 6) (q := 65) dX6_change_62 mv_X6_no kL_X6_125 rfl (by decide) rfl ⟨by decide, by decide⟩ (Nat.le_of_ble_eq_true rfl) ⟨by decide, by decide⟩ rfl (c_X6_no (by omega)) ?_
        refine J.ireturn dX6_change_65 rfl ?_
        unfold MP an_change
        (try rw [hi_61]); (try rw [hi_62]); (try rw [hi_63]); (try rw [hi_65]); (try rw [hi_70]); (try rw [hi_74]); (try rw [hi_75]); (try rw [hi_76])
        repeat (first | rw [if_pos (by omega)] | rw [if_neg (by omega)])
        first
        | exact ⟨rfl, rfl, fun q hq => by (first | rfl | (repeat rw [up_n _ _ _ (by omega)])), rfl, rfl, rfl, rfl, rfl, rfl, rfl, rfl, rfl⟩
        | (exfalso; omega)
      · refine J.iload_n (q := 51) dX6_change_50 rfl ?_ rfl
        refine J.iconst (q := 52) dX6_change_51 ?_ rfl
        refine J.iload (q := 54) dX6_change_52 rfl ?_ rfl
        refine J.callS3i (q := 57) dX6_change_54 mv_X6_in1 kS_X6_in1 kL_X6_61 ⟨by decide, by decide⟩ (Nat.le_of_ble_eq_true rfl) ⟨by decide, by decide⟩ rfl (c_X6_in1 (by omega) (by omega) (by omega)) ?_
        refine J.ifb_ne (tgt := 66) (q := 60) dX6_change_57 rfl rfl (fun c57 => ?_) (fun c57 => ?_)
        · refine J.aload_n (q := 67) dX6_change_66 rfl ?_ rfl
          refine J.iload_n (q := 68) dX6_change_67 rfl ?_ rfl
          refine J.iload_n (q := 69) dX6_change_68 rfl ?_ rfl
          refine J.callV2i (ci := 6) (q := 72) dX6_change_69 mv_X6_get kL_X6_76 rfl (by decide) rfl ⟨by decide, by decide⟩ (Nat.le_of_ble_eq_true rfl) ⟨by decide, by decide⟩ rfl (c_X6_get (by omega)) ?_
          refine J.istore (q := 74) dX6_change_72 (Nat.le_of_ble_eq_true rfl) ?_ rfl
          refine J.aload_n (q := 75) dX6_change_74 rfl ?_ rfl
          refine J.iload_n (q := 76) dX6_change_75 rfl ?_ rfl
          refine J.iload_n (q := 77) dX6_change_76 rfl ?_ rfl
          refine J.iload_n (q := 78) dX6_change_77 rfl ?_ rfl
          refine J.callV3v (ci := 6) (q := 81) dX6_change_78 mv_X6_puts kL_X6_97 rfl (by decide) rfl ⟨by decide, by decide⟩ (Nat.le_of_ble_eq_true rfl) ⟨by decide, by decide⟩ rfl (c_X6_puts (by omega)) ?_
          refine J.iload (q := 83) dX6_change_81 rfl ?_ rfl
          refine J.ireturn dX6_change_83 rfl ?_
          unfold MP an_change
          (try rw [hi_61]); (try rw [hi_62]); (try rw [hi_63]); (try rw [hi_65]); (try rw [hi_70]); (try rw [hi_74]); (try rw [hi_75]); (try rw [hi_76])
          repeat (first | rw [if_pos (by omega)] | rw [if_neg (by omega)])
          first
          | exact ⟨rfl, rfl, fun q hq => by (first | rfl | (repeat rw [up_n _ _ _ (by omega)])), rfl, rfl, rfl, rfl, rfl, rfl, rfl, rfl, rfl⟩
          | (exfalso; omega)
        · refine J.aload_n (q := 61) dX6_change_60 rfl ?_ rfl
          refine J.iconst (q := 62) dX6_change_61 ?_ rfl
          refine J.callV1i (ci := 6) (q := 65) dX6_change_62 mv_X6_no kL_X6_125 rfl (by decide) rfl ⟨by decide, by decide⟩ (Nat.le_of_ble_eq_true rfl) ⟨by decide, by decide⟩ rfl (c_X6_no (by omega)) ?_
          refine J.ireturn dX6_change_65 rfl ?_
          unfold MP an_change
          (try rw [hi_61]); (try rw [hi_62]); (try rw [hi_63]); (try rw [hi_65]); (try rw [hi_70]); (try rw [hi_74]); (try rw [hi_75]); (try rw [hi_76])
          repeat (first | rw [if_pos (by omega)] | rw [if_neg (by omega)])
          first
          | exact ⟨rfl, rfl, fun q hq => by (first | rfl | (repeat rw [up_n _ _ _ (by omega)])), rfl, rfl, rfl, rfl, rfl, rfl, rfl, rfl, rfl⟩
          | (exfalso; omega)

set_option maxRecDepth 100000 in
set_option maxHeartbeats 4000000 in
theorem underLaw_loop {l : Launch} {F : Nat × (Int → Int)} {iv : Mm} {D : Int} (hD : D ≤ 200000) (hI : MI D (iv 62)) : ∀ (n : Nat) (c : Nat), (81 - (c : Int) < n) → ((c : Int) ≤ 81) → J l (yX6_underLaw).cls cX6_underLaw 3 (some FieldType.int) 0 0 0 false F (Ret (some (i_ (undL (iv 62)))) S0 iv) 0 0 4 [some (r_ 61), some (i_ (sumZ (fun c => b2 (0 ≤ iv 62 (176 + c))) c)), some (i_ (c : Int))] [] S0 (iv) := by
  intro n
  induction n with
  | zero =>
    intro c hn hc
    omega
  | succ n ih =>
    intro c hn hc
    refine J.iload_n (q := 5) dX6_underLaw_4 rfl ?_ rfl
    refine J.bipush (q := 7) dX6_underLaw_5 (by decide) ?_ rfl
    refine J.icmp_ge (tgt := 37) (q := 10) dX6_underLaw_7 rfl rfl (fun c7 => ?_) (fun c7 => ?_)
    · refine J.iload_n (q := 38) dX6_underLaw_37 rfl ?_ rfl
      refine J.ireturn dX6_underLaw_38 rfl ?_
      have hc81 : c = 81 := by omega
      subst hc81
      exact ⟨rfl, rfl, rfl⟩
    · refine J.iload_n (q := 11) dX6_underLaw_10 rfl ?_ rfl
      refine J.aload_n (q := 12) dX6_underLaw_11 rfl ?_ rfl
      refine J.getR (ci := 6) (k0 := 0) (c1 := 62) (q := 15) dX6_underLaw_12 kF_X6_9 rfl (by decide) (by decide) rfl (by decide) rfl ?_ rfl
      refine J.sipush (q := 18) dX6_underLaw_15 (by decide) ?_ rfl
      refine J.iload_n (q := 19) dX6_underLaw_18 rfl ?_ rfl
      refine J.iadd (q := 20) dX6_underLaw_19 ?_ rfl
      refine J.iald (n := 307) (q := 21) dX6_underLaw_20 rfl (by omega) ?_ rfl
      have hcl := hI.cel c (by omega) (by omega)
      refine J.if_lt (tgt := 28) (q := 24) dX6_underLaw_21 rfl rfl (fun c21 => ?_) (fun c21 => ?_)
      · have he : (fun c => b2 (0 ≤ iv 62 (176 + c))) (c : Int) = 0 := b2_f (by omega)
        refine J.iconst (q := 29) dX6_underLaw_28 ?_ rfl
        refine J.iadd (q := 30) dX6_underLaw_29 ?_ rfl
        refine J.istore_n (q := 31) dX6_underLaw_30 (Nat.le_of_ble_eq_true rfl) ?_ rfl
        refine J.iinc (q := 34) dX6_underLaw_31 rfl ?_ rfl
        refine J.goto (tgt := 4) dX6_underLaw_34 rfl ?_
        have e2 : sumZ (fun c => b2 (0 ≤ iv 62 (176 + c))) (c + 1) = sumZ (fun c => b2 (0 ≤ iv 62 (176 + c))) c + (fun c => b2 (0 ≤ iv 62 (176 + c))) (c : Int) := rfl
        rw [he] at e2
        refine J.eql (by rw [← e2]; rfl) (ih (c + 1) (by omega) (by omega))
      · have he : (fun c => b2 (0 ≤ iv 62 (176 + c))) (c : Int) = 1 := b2_t (by omega)
        refine J.iconst (q := 25) dX6_underLaw_24 ?_ rfl
        refine J.goto (tgt := 29) dX6_underLaw_25 rfl ?_
        refine J.iadd (q := 30) dX6_underLaw_29 ?_ rfl
        refine J.istore_n (q := 31) dX6_underLaw_30 (Nat.le_of_ble_eq_true rfl) ?_ rfl
        refine J.iinc (q := 34) dX6_underLaw_31 rfl ?_ rfl
        refine J.goto (tgt := 4) dX6_underLaw_34 rfl ?_
        have e2 : sumZ (fun c => b2 (0 ≤ iv 62 (176 + c))) (c + 1) = sumZ (fun c => b2 (0 ≤ iv 62 (176 + c))) c + (fun c => b2 (0 ≤ iv 62 (176 + c))) (c : Int) := rfl
        rw [he] at e2
        refine J.eql (by rw [← e2]; rfl) (ih (c + 1) (by omega) (by omega))

set_option maxRecDepth 100000 in
set_option maxHeartbeats 4000000 in
theorem c_X6_underLaw {l : Launch} {F : Nat × (Int → Int)} {iv : Mm} {D : Int} (hD : D ≤ 200000) (hI : MI D (iv 62)) : Ctr l F 0 0 0 yX6_underLaw cX6_underLaw 3 (some FieldType.int) [r_ 61] S0 (iv) (Ret (some (i_ (undL (iv 62)))) S0 iv) := by
  refine Ctr.of false (fun h => by cases h) (by decide) rfl (Nat.le_of_ble_eq_true rfl) ?_
  refine J.iconst (q := 1) dX6_underLaw_0 ?_ rfl
  refine J.istore_n (q := 2) dX6_underLaw_1 (Nat.le_of_ble_eq_true rfl) ?_ rfl
  refine J.iconst (q := 3) dX6_underLaw_2 ?_ rfl
  refine J.istore_n (q := 4) dX6_underLaw_3 (Nat.le_of_ble_eq_true rfl) ?_ rfl
  exact underLaw_loop hD hI 82 0 (by omega) (by omega)

set_option maxRecDepth 100000 in
set_option maxHeartbeats 4000000 in
theorem realm_loop {l : Launch} {F : Nat × (Int → Int)} {iv : Mm} {D : Int} (hD : D ≤ 200000) (hI : MI D (iv 62)) {w : Int} (hw : 0 ≤ w ∧ w ≤ 7) : ∀ (n : Nat) (c : Nat), (81 - (c : Int) < n) → ((c : Int) ≤ 81) → J l (yX6_realm).cls cX6_realm 4 (some FieldType.int) 2 0 0 false F (MP iv (an_realm (hi iv) w)) 0 0 17 [some (r_ 61), some (i_ w), some (i_ (sumZ (fun c => b2 (iv 62 (176 + c) = w)) c)), some (i_ (c : Int))] [] S0 (iv) := by
  intro n
  induction n with
  | zero =>
    intro c hn hc
    omega
  | succ n ih =>
    intro c hn hc
    refine J.iload_n (q := 18) dX6_realm_17 rfl ?_ rfl
    refine J.bipush (q := 20) dX6_realm_18 (by decide) ?_ rfl
    refine J.icmp_ge (tgt := 51) (q := 23) dX6_realm_20 rfl rfl (fun c20 => ?_) (fun c20 => ?_)
    · refine J.iload_n (q := 52) dX6_realm_51 rfl ?_ rfl
      refine J.ireturn dX6_realm_52 rfl ?_
      have hc81 : c = 81 := by omega
      subst hc81
      unfold MP an_realm
      (try rw [hi_61]); (try rw [hi_62]); (try rw [hi_63]); (try rw [hi_65]); (try rw [hi_70]); (try rw [hi_74]); (try rw [hi_75]); (try rw [hi_76])
      repeat (first | rw [if_pos (by omega)] | rw [if_neg (by omega)])
      first
      | exact ⟨rfl, rfl, fun q hq => by (first | rfl | (repeat rw [up_n _ _ _ (by omega)])), rfl, rfl, rfl, rfl, rfl, rfl, rfl, rfl, rfl⟩
      | (exfalso; omega)
    · refine J.iload_n (q := 24) dX6_realm_23 rfl ?_ rfl
      refine J.aload_n (q := 25) dX6_realm_24 rfl ?_ rfl
      refine J.getR (ci := 6) (k0 := 0) (c1 := 62) (q := 28) dX6_realm_25 kF_X6_9 rfl (by decide) (by decide) rfl (by decide) rfl ?_ rfl
      refine J.sipush (q := 31) dX6_realm_28 (by decide) ?_ rfl
      refine J.iload_n (q := 32) dX6_realm_31 rfl ?_ rfl
      refine J.iadd (q := 33) dX6_realm_32 ?_ rfl
      refine J.iald (n := 307) (q := 34) dX6_realm_33 rfl (by omega) ?_ rfl
      refine J.iload_n (q := 35) dX6_realm_34 rfl ?_ rfl
      have hcl := hI.cel c (by omega) (by omega)
      refine J.icmp_ne (tgt := 42) (q := 38) dX6_realm_35 rfl rfl (fun c35 => ?_) (fun c35 => ?_)
      · have he : (fun c => b2 (iv 62 (176 + c) = w)) (c : Int) = 0 := b2_f (by omega)
        refine J.iconst (q := 43) dX6_realm_42 ?_ rfl
        refine J.iadd (q := 44) dX6_realm_43 ?_ rfl
        refine J.istore_n (q := 45) dX6_realm_44 (Nat.le_of_ble_eq_true rfl) ?_ rfl
        refine J.iinc (q := 48) dX6_realm_45 rfl ?_ rfl
        refine J.goto (tgt := 17) dX6_realm_48 rfl ?_
        have e2 : sumZ (fun c => b2 (iv 62 (176 + c) = w)) (c + 1) = sumZ (fun c => b2 (iv 62 (176 + c) = w)) c + (fun c => b2 (iv 62 (176 + c) = w)) (c : Int) := rfl
        rw [he] at e2
        refine J.eql (by rw [← e2]; rfl) (ih (c + 1) (by omega) (by omega))
      · have he : (fun c => b2 (iv 62 (176 + c) = w)) (c : Int) = 1 := b2_t (by omega)
        refine J.iconst (q := 39) dX6_realm_38 ?_ rfl
        refine J.goto (tgt := 43) dX6_realm_39 rfl ?_
        refine J.iadd (q := 44) dX6_realm_43 ?_ rfl
        refine J.istore_n (q := 45) dX6_realm_44 (Nat.le_of_ble_eq_true rfl) ?_ rfl
        refine J.iinc (q := 48) dX6_realm_45 rfl ?_ rfl
        refine J.goto (tgt := 17) dX6_realm_48 rfl ?_
        have e2 : sumZ (fun c => b2 (iv 62 (176 + c) = w)) (c + 1) = sumZ (fun c => b2 (iv 62 (176 + c) = w)) c + (fun c => b2 (iv 62 (176 + c) = w)) (c : Int) := rfl
        rw [he] at e2
        refine J.eql (by rw [← e2]; rfl) (ih (c + 1) (by omega) (by omega))

set_option maxRecDepth 100000 in
set_option maxHeartbeats 4000000 in
theorem c_X6_realm {l : Launch} {F : Nat × (Int → Int)} {iv : Mm} {D : Int} (hD : D ≤ 200000) (hI : MI D (iv 62)) {w : Int} (hw : -2147483648 ≤ w ∧ w < 2147483648) : Ctr l F 2 0 0 yX6_realm cX6_realm 4 (some FieldType.int) [r_ 61, i_ w] S0 (iv) (MP iv (an_realm (hi iv) w)) := by
  refine Ctr.of false (fun h => by cases h) (by decide) rfl (Nat.le_of_ble_eq_true rfl) ?_
  refine J.iload_n (q := 1) dX6_realm_0 rfl ?_ rfl
  refine J.callS1i (q := 4) dX6_realm_1 mv_X6_isLaw kS_X6_isLaw kL_X6_134 ⟨by decide, by decide⟩ (Nat.le_of_ble_eq_true rfl) ⟨by decide, by decide⟩ rfl (c_X6_isLaw (by omega)) ?_
  refine J.ifb_ne (tgt := 13) (q := 7) dX6_realm_4 rfl rfl (fun c4 => ?_) (fun c4 => ?_)
  · refine J.iconst (q := 14) dX6_realm_13 ?_ rfl
    refine J.istore_n (q := 15) dX6_realm_14 (Nat.le_of_ble_eq_true rfl) ?_ rfl
    refine J.iconst (q := 16) dX6_realm_15 ?_ rfl
    refine J.istore_n (q := 17) dX6_realm_16 (Nat.le_of_ble_eq_true rfl) ?_ rfl
    exact realm_loop hD hI (by omega) 82 0 (by omega) (by omega)
  · refine J.aload_n (q := 8) dX6_realm_7 rfl ?_ rfl
    refine J.iconst (q := 9) dX6_realm_8 ?_ rfl
    refine J.callV1i (ci := 6) (q := 12) dX6_realm_9 mv_X6_no kL_X6_125 rfl (by decide) rfl ⟨by decide, by decide⟩ (Nat.le_of_ble_eq_true rfl) ⟨by decide, by decide⟩ rfl (c_X6_no (by omega)) ?_
    refine J.ireturn dX6_realm_12 rfl ?_
    unfold MP an_realm
    (try rw [hi_61]); (try rw [hi_62]); (try rw [hi_63]); (try rw [hi_65]); (try rw [hi_70]); (try rw [hi_74]); (try rw [hi_75]); (try rw [hi_76])
    repeat (first | rw [if_pos (by omega)] | rw [if_neg (by omega)])
    first
    | exact ⟨rfl, rfl, fun q hq => by (first | rfl | (repeat rw [up_n _ _ _ (by omega)])), rfl, rfl, rfl, rfl, rfl, rfl, rfl, rfl, rfl⟩
    | (exfalso; omega)

set_option maxRecDepth 100000 in
set_option maxHeartbeats 4000000 in
theorem repeals_loop {l : Launch} {F : Nat × (Int → Int)} {iv : Mm} {D : Int} (hD : D ≤ 200000) (hI : MI D (iv 62)) : ∀ (n : Nat) (k : Int) (iv1 : Mm), (81 - k < n) → (0 ≤ k ∧ k ≤ 81) → (∀ q, q ≠ 62 → iv1 q = iv q) → (∀ j, iv1 62 j = if 176 ≤ j ∧ j < 176 + k then -1 else iv 62 j) → J l (yX6_repeals).cls cX6_repeals 3 (some FieldType.int) 2 0 0 false F (MP iv (an_repeals (hi iv))) 0 0 7 [some (r_ 61), some (i_ (undL (iv 62))), some (i_ k)] [] S0 (iv1) := by
  intro n
  induction n with
  | zero =>
    intro k iv1 hn hk hfr hcp
    omega
  | succ n ih =>
    intro k iv1 hn hk hfr hcp
    refine J.iload_n (q := 8) dX6_repeals_7 rfl ?_ rfl
    refine J.bipush (q := 10) dX6_repeals_8 (by decide) ?_ rfl
    refine J.icmp_ge (tgt := 30) (q := 13) dX6_repeals_10 rfl rfl (fun c10 => ?_) (fun c10 => ?_)
    · refine J.iload_n (q := 31) dX6_repeals_30 rfl ?_ rfl
      refine J.ireturn dX6_repeals_31 rfl ?_
      have hk81 : k = 81 := by omega
      subst hk81
      have h61 := hfr 61 (by decide)
      refine ⟨rfl, rfl, fun q hq => hfr q (by omega), ?_, hfr 63 (by decide), hfr 65 (by decide), hfr 70 (by decide), hfr 74 (by decide), hfr 75 (by decide), hfr 76 (by decide), by rw [h61]; rfl, by rw [h61]; rfl⟩
      funext j
      exact hcp j
    · refine J.aload_n (q := 14) dX6_repeals_13 rfl ?_ rfl
      refine J.getR (ci := 6) (k0 := 0) (c1 := 62) (q := 17) dX6_repeals_14 kF_X6_9 rfl (by decide) (by decide) rfl (by decide) rfl ?_ rfl
      refine J.sipush (q := 20) dX6_repeals_17 (by decide) ?_ rfl
      refine J.iload_n (q := 21) dX6_repeals_20 rfl ?_ rfl
      refine J.iadd (q := 22) dX6_repeals_21 ?_ rfl
      refine J.iconst (q := 23) dX6_repeals_22 ?_ rfl
      refine J.iast (n := 307) (q := 24) dX6_repeals_23 rfl (by omega) ?_ rfl
      refine J.iinc (q := 27) dX6_repeals_24 rfl ?_ rfl
      refine J.goto (tgt := 7) dX6_repeals_27 rfl ?_
      refine ih (k + 1) _ (by omega) (by omega) (fun q hq => ?_) (fun j => ?_)
      · rw [up_n _ _ _ hq]; exact hfr q hq
      · rw [up_s]
        by_cases hj : j = 176 + k
        · subst hj; rw [upr_s, if_pos (by omega)]
        · rw [upr_n _ _ hj, hcp j]
          by_cases hj2 : 176 ≤ j ∧ j < 176 + k
          · rw [if_pos hj2, if_pos (by omega)]
          · rw [if_neg hj2, if_neg (by omega)]

set_option maxRecDepth 100000 in
set_option maxHeartbeats 4000000 in
theorem c_X6_repeals {l : Launch} {F : Nat × (Int → Int)} {iv : Mm} {D : Int} (hD : D ≤ 200000) (hI : MI D (iv 62)) : Ctr l F 2 0 0 yX6_repeals cX6_repeals 3 (some FieldType.int) [r_ 61] S0 (iv) (MP iv (an_repeals (hi iv))) := by
  refine Ctr.of false (fun h => by cases h) (by decide) rfl (Nat.le_of_ble_eq_true rfl) ?_
  refine J.aload_n (q := 1) dX6_repeals_0 rfl ?_ rfl
  refine J.callV0i (ci := 6) (q := 4) dX6_repeals_1 mv_X6_underLaw kL_X6_140 rfl (by decide) rfl ⟨by decide, by decide⟩ (Nat.le_of_ble_eq_true rfl) ⟨by decide, by decide⟩ rfl (c_X6_underLaw hD hI) ?_
  refine J.istore_n (q := 5) dX6_repeals_4 (Nat.le_of_ble_eq_true rfl) ?_ rfl
  refine J.iconst (q := 6) dX6_repeals_5 ?_ rfl
  refine J.istore_n (q := 7) dX6_repeals_6 (Nat.le_of_ble_eq_true rfl) ?_ rfl
  exact repeals_loop hD hI 82 0 iv (by omega) (by omega) (fun _ _ => rfl) (fun j => by rw [if_neg (by omega)])

set_option maxRecDepth 100000 in
set_option maxHeartbeats 4000000 in
theorem c_X6_isLawful {l : Launch} {F : Nat × (Int → Int)} {iv : Mm} {D : Int} (hD : D ≤ 200000) (hI : MI D (iv 62)) {c x : Int} (hc : 0 ≤ c ∧ c ≤ 80) (hx : 0 ≤ x ∧ x ≤ 7) : Ctr l F 1 0 0 yX6_isLawful cX6_isLawful 3 (some FieldType.boolean) [r_ 61, i_ c, i_ x] S0 (iv) (Ret (some (i_ (b2 (lawB (iv 62) c x = true)))) S0 iv) := by
  refine Ctr.of false (fun h => by cases h) (by decide) rfl (Nat.le_of_ble_eq_true rfl) ?_
  have hcl := (hI.cel c hc.1 hc.2).2.2
  refine J.aload_n (q := 1) dX6_isLawful_0 rfl ?_ rfl
  refine J.getR (ci := 6) (k0 := 0) (c1 := 62) (q := 4) dX6_isLawful_1 kF_X6_9 rfl (by decide) (by decide) rfl (by decide) rfl ?_ rfl
  refine J.sipush (q := 7) dX6_isLawful_4 (by decide) ?_ rfl
  refine J.iload_n (q := 8) dX6_isLawful_7 rfl ?_ rfl
  refine J.iadd (q := 9) dX6_isLawful_8 ?_ rfl
  refine J.iald (n := 307) (q := 10) dX6_isLawful_9 rfl (by omega) ?_ rfl
  refine J.if_lt (tgt := 38) (q := 13) dX6_isLawful_10 rfl rfl (fun c10 => ?_) (fun c10 => ?_)
  · refine J.iconst (q := 39) dX6_isLawful_38 ?_ rfl
    refine J.goto (tgt := 43) dX6_isLawful_39 rfl ?_
    refine J.zreturn dX6_isLawful_43 rfl (by omega) ?_
    refine ⟨congrArg (fun z => some (i_ z)) ?_, rfl, rfl⟩
    first
    | exact (b2_t (show lawB (iv 62) c x = true from decide_eq_true (Or.inl c10))).symm
    | exact (b2_t (show lawB (iv 62) c x = true from decide_eq_true (Or.inr c35))).symm
    | exact (b2_f (show ¬ lawB (iv 62) c x = true from fun z => (of_decide_eq_true z).elim (fun h => by omega) (fun h => h c35))).symm
  · refine J.aload_n (q := 14) dX6_isLawful_13 rfl ?_ rfl
    refine J.getR (ci := 6) (k0 := 0) (c1 := 62) (q := 17) dX6_isLawful_14 kF_X6_9 rfl (by decide) (by decide) rfl (by decide) rfl ?_ rfl
    refine J.bipush (q := 19) dX6_isLawful_17 (by decide) ?_ rfl
    refine J.aload_n (q := 20) dX6_isLawful_19 rfl ?_ rfl
    refine J.getR (ci := 6) (k0 := 0) (c1 := 62) (q := 23) dX6_isLawful_20 kF_X6_9 rfl (by decide) (by decide) rfl (by decide) rfl ?_ rfl
    refine J.sipush (q := 26) dX6_isLawful_23 (by decide) ?_ rfl
    refine J.iload_n (q := 27) dX6_isLawful_26 rfl ?_ rfl
    refine J.iadd (q := 28) dX6_isLawful_27 ?_ rfl
    refine J.iald (n := 307) (q := 29) dX6_isLawful_28 rfl (by omega) ?_ rfl
    refine J.iadd (q := 30) dX6_isLawful_29 ?_ rfl
    have hbn := hI.ban (iv 62 (176 + c)) (by omega) (by omega)
    refine J.iald (n := 307) (q := 31) dX6_isLawful_30 rfl (by omega) ?_ rfl
    refine J.iload_n (q := 32) dX6_isLawful_31 rfl ?_ rfl
    refine J.callS2i (q := 35) dX6_isLawful_32 mv_X6_isIn kS_X6_isIn kL_X6_104 ⟨by decide, by decide⟩ (Nat.le_of_ble_eq_true rfl) ⟨by decide, by decide⟩ rfl (c_X6_isIn (by omega) (by omega)) ?_
    refine J.ifb_ne (tgt := 42) (q := 38) dX6_isLawful_35 rfl rfl (fun c35 => ?_) (fun c35 => ?_)
    · refine J.iconst (q := 43) dX6_isLawful_42 ?_ rfl
      refine J.zreturn dX6_isLawful_43 rfl (by omega) ?_
      refine ⟨congrArg (fun z => some (i_ z)) ?_, rfl, rfl⟩
      first
      | exact (b2_t (show lawB (iv 62) c x = true from decide_eq_true (Or.inl c10))).symm
      | exact (b2_t (show lawB (iv 62) c x = true from decide_eq_true (Or.inr c35))).symm
      | exact (b2_f (show ¬ lawB (iv 62) c x = true from fun z => (of_decide_eq_true z).elim (fun h => by omega) (fun h => h c35))).symm
    · refine J.iconst (q := 39) dX6_isLawful_38 ?_ rfl
      refine J.goto (tgt := 43) dX6_isLawful_39 rfl ?_
      refine J.zreturn dX6_isLawful_43 rfl (by omega) ?_
      refine ⟨congrArg (fun z => some (i_ z)) ?_, rfl, rfl⟩
      first
      | exact (b2_t (show lawB (iv 62) c x = true from decide_eq_true (Or.inl c10))).symm
      | exact (b2_t (show lawB (iv 62) c x = true from decide_eq_true (Or.inr c35))).symm
      | exact (b2_f (show ¬ lawB (iv 62) c x = true from fun z => (of_decide_eq_true z).elim (fun h => by omega) (fun h => h c35))).symm

set_option maxRecDepth 100000 in
set_option maxHeartbeats 4000000 in
theorem c_X6_may {l : Launch} {F : Nat × (Int → Int)} {iv : Mm} {D : Int} (hD : D ≤ 200000) (hI : MI D (iv 62)) {c x : Int} (hc : -2147483648 ≤ c ∧ c < 2147483648) (hx : -2147483648 ≤ x ∧ x < 2147483648) : Ctr l F 2 0 0 yX6_may cX6_may 3 (some FieldType.int) [r_ 61, i_ c, i_ x] S0 (iv) (MP iv (an_may (hi iv) c x)) := by
  refine Ctr.of false (fun h => by cases h) (by decide) rfl (Nat.le_of_ble_eq_true rfl) ?_
  refine J.iload_n (q := 1) dX6_may_0 rfl ?_ rfl
  refine J.callS1i (q := 4) dX6_may_1 mv_X6_isCell kS_X6_isCell kL_X6_122 ⟨by decide, by decide⟩ (Nat.le_of_ble_eq_true rfl) ⟨by decide, by decide⟩ rfl (c_X6_isCell (by omega)) ?_
  refine J.ifb_eq (tgt := 31) (q := 7) dX6_may_4 rfl rfl (fun c4 => ?_) (fun c4 => ?_)
  · refine J.aload_n (q := 32) dX6_may_31 rfl ?_ rfl
    refine J.iconst (q := 33) dX6_may_32 ?_ rfl
    refine J.callV1i (ci := 6) (q := 36) dX6_may_33 mv_X6_no kL_X6_125 rfl (by decide) rfl ⟨by decide, by decide⟩ (Nat.le_of_ble_eq_true rfl) ⟨by decide, by decide⟩ rfl (c_X6_no (by omega)) ?_
    refine J.ireturn dX6_may_36 rfl ?_
    unfold MP an_may
    (try rw [hi_61]); (try rw [hi_62]); (try rw [hi_63]); (try rw [hi_65]); (try rw [hi_70]); (try rw [hi_74]); (try rw [hi_75]); (try rw [hi_76])
    repeat (first | rw [if_pos (by omega)] | rw [if_neg (by omega)])
    first
    | exact ⟨rfl, rfl, fun q hq => by (first | rfl | (repeat rw [up_n _ _ _ (by omega)])), rfl, rfl, rfl, rfl, rfl, rfl, rfl, rfl, rfl⟩
    | (rw [b2_t c20]; exact ⟨rfl, rfl, fun q hq => rfl, rfl, rfl, rfl, rfl, rfl, rfl, rfl, rfl, rfl⟩)
    | (rw [b2_f c20]; exact ⟨rfl, rfl, fun q hq => rfl, rfl, rfl, rfl, rfl, rfl, rfl, rfl, rfl, rfl⟩)
  · refine J.iload_n (q := 8) dX6_may_7 rfl ?_ rfl
    refine J.callS1i (q := 11) dX6_may_8 mv_X6_isDeed kS_X6_isDeed kL_X6_146 ⟨by decide, by decide⟩ (Nat.le_of_ble_eq_true rfl) ⟨by decide, by decide⟩ rfl (c_X6_isDeed (by omega)) ?_
    refine J.ifb_eq (tgt := 31) (q := 14) dX6_may_11 rfl rfl (fun c11 => ?_) (fun c11 => ?_)
    · refine J.aload_n (q := 32) dX6_may_31 rfl ?_ rfl
      refine J.iconst (q := 33) dX6_may_32 ?_ rfl
      refine J.callV1i (ci := 6) (q := 36) dX6_may_33 mv_X6_no kL_X6_125 rfl (by decide) rfl ⟨by decide, by decide⟩ (Nat.le_of_ble_eq_true rfl) ⟨by decide, by decide⟩ rfl (c_X6_no (by omega)) ?_
      refine J.ireturn dX6_may_36 rfl ?_
      unfold MP an_may
      (try rw [hi_61]); (try rw [hi_62]); (try rw [hi_63]); (try rw [hi_65]); (try rw [hi_70]); (try rw [hi_74]); (try rw [hi_75]); (try rw [hi_76])
      repeat (first | rw [if_pos (by omega)] | rw [if_neg (by omega)])
      first
      | exact ⟨rfl, rfl, fun q hq => by (first | rfl | (repeat rw [up_n _ _ _ (by omega)])), rfl, rfl, rfl, rfl, rfl, rfl, rfl, rfl, rfl⟩
      | (rw [b2_t c20]; exact ⟨rfl, rfl, fun q hq => rfl, rfl, rfl, rfl, rfl, rfl, rfl, rfl, rfl, rfl⟩)
      | (rw [b2_f c20]; exact ⟨rfl, rfl, fun q hq => rfl, rfl, rfl, rfl, rfl, rfl, rfl, rfl, rfl, rfl⟩)
    · refine J.aload_n (q := 15) dX6_may_14 rfl ?_ rfl
      refine J.iload_n (q := 16) dX6_may_15 rfl ?_ rfl
      refine J.iload_n (q := 17) dX6_may_16 rfl ?_ rfl
      refine J.callV2i (ci := 6) (q := 20) dX6_may_17 mv_X6_isLawful kL_X6_149 rfl (by decide) rfl ⟨by decide, by decide⟩ (Nat.le_of_ble_eq_true rfl) ⟨by decide, by decide⟩ rfl (c_X6_isLawful hD hI (by omega) (by omega)) ?_
      refine J.ifb_eq (tgt := 27) (q := 23) dX6_may_20 rfl rfl (fun c20 => ?_) (fun c20 => ?_)
      · refine J.iconst (q := 28) dX6_may_27 ?_ rfl
        refine J.goto (tgt := 36) dX6_may_28 rfl ?_
        refine J.ireturn dX6_may_36 rfl ?_
        unfold MP an_may
        (try rw [hi_61]); (try rw [hi_62]); (try rw [hi_63]); (try rw [hi_65]); (try rw [hi_70]); (try rw [hi_74]); (try rw [hi_75]); (try rw [hi_76])
        repeat (first | rw [if_pos (by omega)] | rw [if_neg (by omega)])
        first
        | exact ⟨rfl, rfl, fun q hq => by (first | rfl | (repeat rw [up_n _ _ _ (by omega)])), rfl, rfl, rfl, rfl, rfl, rfl, rfl, rfl, rfl⟩
        | (rw [b2_t c20]; exact ⟨rfl, rfl, fun q hq => rfl, rfl, rfl, rfl, rfl, rfl, rfl, rfl, rfl, rfl⟩)
        | (rw [b2_f c20]; exact ⟨rfl, rfl, fun q hq => rfl, rfl, rfl, rfl, rfl, rfl, rfl, rfl, rfl, rfl⟩)
      · refine J.iconst (q := 24) dX6_may_23 ?_ rfl
        refine J.goto (tgt := 36) dX6_may_24 rfl ?_
        refine J.ireturn dX6_may_36 rfl ?_
        unfold MP an_may
        (try rw [hi_61]); (try rw [hi_62]); (try rw [hi_63]); (try rw [hi_65]); (try rw [hi_70]); (try rw [hi_74]); (try rw [hi_75]); (try rw [hi_76])
        repeat (first | rw [if_pos (by omega)] | rw [if_neg (by omega)])
        first
        | exact ⟨rfl, rfl, fun q hq => by (first | rfl | (repeat rw [up_n _ _ _ (by omega)])), rfl, rfl, rfl, rfl, rfl, rfl, rfl, rfl, rfl⟩
        | (rw [b2_t c20]; exact ⟨rfl, rfl, fun q hq => rfl, rfl, rfl, rfl, rfl, rfl, rfl, rfl, rfl, rfl⟩)
        | (rw [b2_f c20]; exact ⟨rfl, rfl, fun q hq => rfl, rfl, rfl, rfl, rfl, rfl, rfl, rfl, rfl, rfl⟩)

set_option maxRecDepth 100000 in
set_option maxHeartbeats 4000000 in
theorem lawfulCells_loop {l : Launch} {F : Nat × (Int → Int)} {iv : Mm} {D : Int} (hD : D ≤ 200000) (hI : MI D (iv 62)) {x : Int} (hx : 0 ≤ x ∧ x ≤ 7) : ∀ (n : Nat) (c : Nat), (81 - (c : Int) < n) → ((c : Int) ≤ 81) → J l (yX6_lawfulCells).cls cX6_lawfulCells 4 (some FieldType.int) 2 0 0 false F (Ret (some (i_ (lawC (iv 62) x))) S0 iv) 0 0 4 [some (r_ 61), some (i_ x), some (i_ (sumZ (fun c => b2 (iv 62 (14 + c) ≠ 1 ∧ lawB (iv 62) c x = true)) c)), some (i_ (c : Int))] [] S0 (iv) := by
  intro n
  induction n with
  | zero =>
    intro c hn hc
    omega
  | succ n ih =>
    intro c hn hc
    refine J.iload_n (q := 5) dX6_lawfulCells_4 rfl ?_ rfl
    refine J.bipush (q := 7) dX6_lawfulCells_5 (by decide) ?_ rfl
    refine J.icmp_ge (tgt := 41) (q := 10) dX6_lawfulCells_7 rfl rfl (fun c7 => ?_) (fun c7 => ?_)
    · refine J.iload_n (q := 42) dX6_lawfulCells_41 rfl ?_ rfl
      refine J.ireturn dX6_lawfulCells_42 rfl ?_
      have hc81 : c = 81 := by omega
      subst hc81
      exact ⟨rfl, rfl, rfl⟩
    · refine J.iload_n (q := 11) dX6_lawfulCells_10 rfl ?_ rfl
      refine J.aload_n (q := 12) dX6_lawfulCells_11 rfl ?_ rfl
      refine J.iload_n (q := 13) dX6_lawfulCells_12 rfl ?_ rfl
      have hcl := hI.cel c (by omega) (by omega)
      refine J.callV1i (ci := 6) (q := 16) dX6_lawfulCells_13 mv_X6_isHedge kL_X6_69 rfl (by decide) rfl ⟨by decide, by decide⟩ (Nat.le_of_ble_eq_true rfl) ⟨by decide, by decide⟩ rfl (c_X6_isHedge (by omega) (by omega)) ?_
      refine J.ifb_ne (tgt := 32) (q := 19) dX6_lawfulCells_16 rfl rfl (fun c16 => ?_) (fun c16 => ?_)
      · have he : (fun c => b2 (iv 62 (14 + c) ≠ 1 ∧ lawB (iv 62) c x = true)) (c : Int) = 0 := b2_f (fun z => z.1 c16)
        refine J.iconst (q := 33) dX6_lawfulCells_32 ?_ rfl
        refine J.iadd (q := 34) dX6_lawfulCells_33 ?_ rfl
        refine J.istore_n (q := 35) dX6_lawfulCells_34 (Nat.le_of_ble_eq_true rfl) ?_ rfl
        refine J.iinc (q := 38) dX6_lawfulCells_35 rfl ?_ rfl
        refine J.goto (tgt := 4) dX6_lawfulCells_38 rfl ?_
        have e2 : sumZ (fun c => b2 (iv 62 (14 + c) ≠ 1 ∧ lawB (iv 62) c x = true)) (c + 1) = sumZ (fun c => b2 (iv 62 (14 + c) ≠ 1 ∧ lawB (iv 62) c x = true)) c + (fun c => b2 (iv 62 (14 + c) ≠ 1 ∧ lawB (iv 62) c x = true)) (c : Int) := rfl
        rw [he] at e2
        refine J.eql (by rw [← e2]; rfl) (ih (c + 1) (by omega) (by omega))
      · refine J.aload_n (q := 20) dX6_lawfulCells_19 rfl ?_ rfl
        refine J.iload_n (q := 21) dX6_lawfulCells_20 rfl ?_ rfl
        refine J.iload_n (q := 22) dX6_lawfulCells_21 rfl ?_ rfl
        refine J.callV2i (ci := 6) (q := 25) dX6_lawfulCells_22 mv_X6_isLawful kL_X6_149 rfl (by decide) rfl ⟨by decide, by decide⟩ (Nat.le_of_ble_eq_true rfl) ⟨by decide, by decide⟩ rfl (c_X6_isLawful hD hI (by omega) (by omega)) ?_
        refine J.ifb_eq (tgt := 32) (q := 28) dX6_lawfulCells_25 rfl rfl (fun c25 => ?_) (fun c25 => ?_)
        · have he : (fun c => b2 (iv 62 (14 + c) ≠ 1 ∧ lawB (iv 62) c x = true)) (c : Int) = 0 := b2_f (fun z => c25 z.2)
          refine J.iconst (q := 33) dX6_lawfulCells_32 ?_ rfl
          refine J.iadd (q := 34) dX6_lawfulCells_33 ?_ rfl
          refine J.istore_n (q := 35) dX6_lawfulCells_34 (Nat.le_of_ble_eq_true rfl) ?_ rfl
          refine J.iinc (q := 38) dX6_lawfulCells_35 rfl ?_ rfl
          refine J.goto (tgt := 4) dX6_lawfulCells_38 rfl ?_
          have e2 : sumZ (fun c => b2 (iv 62 (14 + c) ≠ 1 ∧ lawB (iv 62) c x = true)) (c + 1) = sumZ (fun c => b2 (iv 62 (14 + c) ≠ 1 ∧ lawB (iv 62) c x = true)) c + (fun c => b2 (iv 62 (14 + c) ≠ 1 ∧ lawB (iv 62) c x = true)) (c : Int) := rfl
          rw [he] at e2
          refine J.eql (by rw [← e2]; rfl) (ih (c + 1) (by omega) (by omega))
        · have he : (fun c => b2 (iv 62 (14 + c) ≠ 1 ∧ lawB (iv 62) c x = true)) (c : Int) = 1 := b2_t ⟨c16, c25⟩
          refine J.iconst (q := 29) dX6_lawfulCells_28 ?_ rfl
          refine J.goto (tgt := 33) dX6_lawfulCells_29 rfl ?_
          refine J.iadd (q := 34) dX6_lawfulCells_33 ?_ rfl
          refine J.istore_n (q := 35) dX6_lawfulCells_34 (Nat.le_of_ble_eq_true rfl) ?_ rfl
          refine J.iinc (q := 38) dX6_lawfulCells_35 rfl ?_ rfl
          refine J.goto (tgt := 4) dX6_lawfulCells_38 rfl ?_
          have e2 : sumZ (fun c => b2 (iv 62 (14 + c) ≠ 1 ∧ lawB (iv 62) c x = true)) (c + 1) = sumZ (fun c => b2 (iv 62 (14 + c) ≠ 1 ∧ lawB (iv 62) c x = true)) c + (fun c => b2 (iv 62 (14 + c) ≠ 1 ∧ lawB (iv 62) c x = true)) (c : Int) := rfl
          rw [he] at e2
          refine J.eql (by rw [← e2]; rfl) (ih (c + 1) (by omega) (by omega))

set_option maxRecDepth 100000 in
set_option maxHeartbeats 4000000 in
theorem c_X6_lawfulCells {l : Launch} {F : Nat × (Int → Int)} {iv : Mm} {D : Int} (hD : D ≤ 200000) (hI : MI D (iv 62)) {x : Int} (hx : 0 ≤ x ∧ x ≤ 7) : Ctr l F 2 0 0 yX6_lawfulCells cX6_lawfulCells 4 (some FieldType.int) [r_ 61, i_ x] S0 (iv) (Ret (some (i_ (lawC (iv 62) x))) S0 iv) := by
  refine Ctr.of false (fun h => by cases h) (by decide) rfl (Nat.le_of_ble_eq_true rfl) ?_
  refine J.iconst (q := 1) dX6_lawfulCells_0 ?_ rfl
  refine J.istore_n (q := 2) dX6_lawfulCells_1 (Nat.le_of_ble_eq_true rfl) ?_ rfl
  refine J.iconst (q := 3) dX6_lawfulCells_2 ?_ rfl
  refine J.istore_n (q := 4) dX6_lawfulCells_3 (Nat.le_of_ble_eq_true rfl) ?_ rfl
  exact lawfulCells_loop hD hI hx 82 0 (by omega) (by omega)

set_option maxRecDepth 100000 in
set_option maxHeartbeats 4000000 in
theorem c_X6_where {l : Launch} {F : Nat × (Int → Int)} {iv : Mm} {D : Int} (hD : D ≤ 200000) (hI : MI D (iv 62)) {x : Int} (hx : -2147483648 ≤ x ∧ x < 2147483648) : Ctr l F 3 0 0 yX6_where cX6_where 2 (some FieldType.int) [r_ 61, i_ x] S0 (iv) (MP iv (an_where (hi iv) x)) := by
  refine Ctr.of false (fun h => by cases h) (by decide) rfl (Nat.le_of_ble_eq_true rfl) ?_
  refine J.iload_n (q := 1) dX6_where_0 rfl ?_ rfl
  refine J.callS1i (q := 4) dX6_where_1 mv_X6_isDeed kS_X6_isDeed kL_X6_146 ⟨by decide, by decide⟩ (Nat.le_of_ble_eq_true rfl) ⟨by decide, by decide⟩ rfl (c_X6_isDeed (by omega)) ?_
  refine J.ifb_eq (tgt := 15) (q := 7) dX6_where_4 rfl rfl (fun c4 => ?_) (fun c4 => ?_)
  · refine J.aload_n (q := 16) dX6_where_15 rfl ?_ rfl
    refine J.iconst (q := 17) dX6_where_16 ?_ rfl
    refine J.callV1i (ci := 6) (q := 20) dX6_where_17 mv_X6_no kL_X6_125 rfl (by decide) rfl ⟨by decide, by decide⟩ (Nat.le_of_ble_eq_true rfl) ⟨by decide, by decide⟩ rfl (c_X6_no (by omega)) ?_
    refine J.ireturn dX6_where_20 rfl ?_
    unfold MP an_where
    (try rw [hi_61]); (try rw [hi_62]); (try rw [hi_63]); (try rw [hi_65]); (try rw [hi_70]); (try rw [hi_74]); (try rw [hi_75]); (try rw [hi_76])
    repeat (first | rw [if_pos (by omega)] | rw [if_neg (by omega)])
    first
    | exact ⟨rfl, rfl, fun q hq => by (first | rfl | (repeat rw [up_n _ _ _ (by omega)])), rfl, rfl, rfl, rfl, rfl, rfl, rfl, rfl, rfl⟩
    | (exfalso; omega)
  · refine J.aload_n (q := 8) dX6_where_7 rfl ?_ rfl
    refine J.iload_n (q := 9) dX6_where_8 rfl ?_ rfl
    refine J.callV1i (ci := 6) (q := 12) dX6_where_9 mv_X6_lawfulCells kL_X6_152 rfl (by decide) rfl ⟨by decide, by decide⟩ (Nat.le_of_ble_eq_true rfl) ⟨by decide, by decide⟩ rfl (c_X6_lawfulCells hD hI (by omega)) ?_
    refine J.goto (tgt := 20) dX6_where_12 rfl ?_
    refine J.ireturn dX6_where_20 rfl ?_
    unfold MP an_where
    (try rw [hi_61]); (try rw [hi_62]); (try rw [hi_63]); (try rw [hi_65]); (try rw [hi_70]); (try rw [hi_74]); (try rw [hi_75]); (try rw [hi_76])
    repeat (first | rw [if_pos (by omega)] | rw [if_neg (by omega)])
    first
    | exact ⟨rfl, rfl, fun q hq => by (first | rfl | (repeat rw [up_n _ _ _ (by omega)])), rfl, rfl, rfl, rfl, rfl, rfl, rfl, rfl, rfl⟩
    | (exfalso; omega)

