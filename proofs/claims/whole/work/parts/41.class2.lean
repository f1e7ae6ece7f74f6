/-! the class: small public methods (printed by wip/whole/m_c2.py) -/
set_option maxRecDepth 100000 in
set_option maxHeartbeats 4000000 in
theorem c_X5_hedge {l : Launch} {F : Nat × (Int → Int)} {iv A : Mm} (hC : CR iv A) (hA : AI A) {c v : Int} (hc : -2147483648 ≤ c ∧ c < 2147483648) (hv : -2147483648 ≤ v ∧ v < 2147483648) : Ctr l F 2 0 0 yX5_hedge cX5_hedge 4 (some FieldType.int) [r_ 0, i_ c, i_ v] S0 (iv) (CP iv (an_hedge A c v)) := by
  refine Ctr.of false (fun h => by cases h) (by decide) rfl (Nat.le_of_ble_eq_true rfl) ?_
  have hI := hA.mi
  have hmm := hI.many
  have hkp := hA.kp
  have htp := hA.tp
  refine J.iload_n (q := 1) dX5_hedge_0 rfl ?_ rfl
  refine J.callS1i (q := 4) dX5_hedge_1 mv_X5_isCell kS_X5_isCell kL_X5_55 ⟨by decide, by decide⟩ (Nat.le_of_ble_eq_true rfl) ⟨by decide, by decide⟩ rfl (c_X5_isCell (by omega)) ?_
  refine J.ifb_eq (tgt := 15) (q := 7) dX5_hedge_4 rfl rfl (fun c4 => ?_) (fun c4 => ?_)
  · refine J.aload_n (q := 16) dX5_hedge_15 rfl ?_ rfl
    refine J.ldc (q := 18) (z := -1000001) dX5_hedge_16 kK_X5_63 ?_ rfl
    refine J.callV1 (ci := 5) (q := 21) dX5_hedge_18 mv_X5_tell kL_X5_64 rfl (by decide) rfl ⟨by decide, by decide⟩ (Nat.le_of_ble_eq_true rfl) ⟨by decide, by decide⟩ rfl (c_X5_tell (w := 0) (by decide) hC (by decide)) (fun v9 S9 iv9 hp => ?_)
    obtain ⟨rfl, rfl, hf8, hC8⟩ := hp
    refine J.ireturn dX5_hedge_21 rfl ?_
    unfold CP an_hedge
    repeat (first | rw [if_pos (by omega)] | rw [if_neg (by omega)])
    first
    | exact ⟨rfl, rfl, hf8, hC8⟩
    | exact ⟨rfl, rfl, fun q hq => by (first | rfl | (repeat rw [up_n _ _ _ (by omega)])), hC.up1 (by decide) (u1_hed hC.r (by omega) (by omega))⟩
    | (exfalso; omega)
  · refine J.iload_n (q := 8) dX5_hedge_7 rfl ?_ rfl
    refine J.iconst (q := 9) dX5_hedge_8 ?_ rfl
    refine J.callS2i (q := 12) dX5_hedge_9 mv_X5_isWithin kS_X5_isWithin kL_X5_59 ⟨by decide, by decide⟩ (Nat.le_of_ble_eq_true rfl) ⟨by decide, by decide⟩ rfl (c_X5_isWithin (by omega) (by omega)) ?_
    refine J.ifb_ne (tgt := 22) (q := 15) dX5_hedge_12 rfl rfl (fun c12 => ?_) (fun c12 => ?_)
    · refine J.aload_n (q := 23) dX5_hedge_22 rfl ?_ rfl
      refine J.getR (ci := 5) (k0 := 0) (c1 := 1) (q := 26) dX5_hedge_23 kF_X5_12 rfl (by decide) (by decide) rfl (by decide) rfl ?_ rfl
      refine J.getR (ci := 1) (k0 := 0) (c1 := 2) (q := 29) dX5_hedge_26 kF_X5_68 rfl (by decide) (by decide) rfl (by decide) rfl ?_ rfl
      refine J.iload_n (q := 30) dX5_hedge_29 rfl ?_ rfl
      refine J.iald (n := 81) (q := 31) dX5_hedge_30 rfl (by omega) ?_ rfl
      rw [g1_hed hC.r (by omega) (by omega)]
      have hcl := hI.cel c (by omega) (by omega)
      refine J.istore_n (q := 32) dX5_hedge_31 (Nat.le_of_ble_eq_true rfl) ?_ rfl
      refine J.aload_n (q := 33) dX5_hedge_32 rfl ?_ rfl
      refine J.getR (ci := 5) (k0 := 0) (c1 := 1) (q := 36) dX5_hedge_33 kF_X5_12 rfl (by decide) (by decide) rfl (by decide) rfl ?_ rfl
      refine J.getR (ci := 1) (k0 := 0) (c1 := 2) (q := 39) dX5_hedge_36 kF_X5_68 rfl (by decide) (by decide) rfl (by decide) rfl ?_ rfl
      refine J.iload_n (q := 40) dX5_hedge_39 rfl ?_ rfl
      refine J.iload_n (q := 41) dX5_hedge_40 rfl ?_ rfl
      refine J.iast (n := 81) (q := 42) dX5_hedge_41 rfl (by omega) ?_ rfl
      refine J.iload_n (q := 43) dX5_hedge_42 rfl ?_ rfl
      refine J.iload_n (q := 44) dX5_hedge_43 rfl ?_ rfl
      refine J.icmp_ne (tgt := 51) (q := 47) dX5_hedge_44 rfl rfl (fun c44 => ?_) (fun c44 => ?_)
      · refine J.iconst (q := 52) dX5_hedge_51 ?_ rfl
        refine J.ireturn dX5_hedge_52 rfl ?_
        unfold CP an_hedge
        repeat (first | rw [if_pos (by omega)] | rw [if_neg (by omega)])
        first
        | exact ⟨rfl, rfl, hf8, hC8⟩
        | exact ⟨rfl, rfl, fun q hq => by (first | rfl | (repeat rw [up_n _ _ _ (by omega)])), hC.up1 (by decide) (u1_hed hC.r (by omega) (by omega))⟩
        | (exfalso; omega)
      · refine J.iconst (q := 48) dX5_hedge_47 ?_ rfl
        refine J.goto (tgt := 52) dX5_hedge_48 rfl ?_
        refine J.ireturn dX5_hedge_52 rfl ?_
        unfold CP an_hedge
        repeat (first | rw [if_pos (by omega)] | rw [if_neg (by omega)])
        first
        | exact ⟨rfl, rfl, hf8, hC8⟩
        | exact ⟨rfl, rfl, fun q hq => by (first | rfl | (repeat rw [up_n _ _ _ (by omega)])), hC.up1 (by decide) (u1_hed hC.r (by omega) (by omega))⟩
        | (exfalso; omega)
    · refine J.aload_n (q := 16) dX5_hedge_15 rfl ?_ rfl
      refine J.ldc (q := 18) (z := -1000001) dX5_hedge_16 kK_X5_63 ?_ rfl
      refine J.callV1 (ci := 5) (q := 21) dX5_hedge_18 mv_X5_tell kL_X5_64 rfl (by decide) rfl ⟨by decide, by decide⟩ (Nat.le_of_ble_eq_true rfl) ⟨by decide, by decide⟩ rfl (c_X5_tell (w := 0) (by decide) hC (by decide)) (fun v9 S9 iv9 hp => ?_)
      obtain ⟨rfl, rfl, hf8, hC8⟩ := hp
      refine J.ireturn dX5_hedge_21 rfl ?_
      unfold CP an_hedge
      repeat (first | rw [if_pos (by omega)] | rw [if_neg (by omega)])
      first
      | exact ⟨rfl, rfl, hf8, hC8⟩
      | exact ⟨rfl, rfl, fun q hq => by (first | rfl | (repeat rw [up_n _ _ _ (by omega)])), hC.up1 (by decide) (u1_hed hC.r (by omega) (by omega))⟩
      | (exfalso; omega)

set_option maxRecDepth 100000 in
set_option maxHeartbeats 4000000 in
theorem c_X5_greens {l : Launch} {F : Nat × (Int → Int)} {iv A : Mm} (hC : CR iv A) (hA : AI A) {c v : Int} (hc : -2147483648 ≤ c ∧ c < 2147483648) (hv : -2147483648 ≤ v ∧ v < 2147483648) : Ctr l F 2 0 0 yX5_greens cX5_greens 4 (some FieldType.int) [r_ 0, i_ c, i_ v] S0 (iv) (CP iv (an_greens A c v)) := by
  refine Ctr.of false (fun h => by cases h) (by decide) rfl (Nat.le_of_ble_eq_true rfl) ?_
  have hI := hA.mi
  have hmm := hI.many
  have hkp := hA.kp
  have htp := hA.tp
  refine J.iload_n (q := 1) dX5_greens_0 rfl ?_ rfl
  refine J.callS1i (q := 4) dX5_greens_1 mv_X5_isCell kS_X5_isCell kL_X5_55 ⟨by decide, by decide⟩ (Nat.le_of_ble_eq_true rfl) ⟨by decide, by decide⟩ rfl (c_X5_isCell (by omega)) ?_
  refine J.ifb_eq (tgt := 16) (q := 7) dX5_greens_4 rfl rfl (fun c4 => ?_) (fun c4 => ?_)
  · refine J.aload_n (q := 17) dX5_greens_16 rfl ?_ rfl
    refine J.ldc (q := 19) (z := -1000001) dX5_greens_17 kK_X5_63 ?_ rfl
    refine J.callV1 (ci := 5) (q := 22) dX5_greens_19 mv_X5_tell kL_X5_64 rfl (by decide) rfl ⟨by decide, by decide⟩ (Nat.le_of_ble_eq_true rfl) ⟨by decide, by decide⟩ rfl (c_X5_tell (w := 0) (by decide) hC (by decide)) (fun v9 S9 iv9 hp => ?_)
    obtain ⟨rfl, rfl, hf8, hC8⟩ := hp
    refine J.ireturn dX5_greens_22 rfl ?_
    unfold CP an_greens
    repeat (first | rw [if_pos (by omega)] | rw [if_neg (by omega)])
    first
    | exact ⟨rfl, rfl, hf8, hC8⟩
    | exact ⟨rfl, rfl, fun q hq => by (first | rfl | (repeat rw [up_n _ _ _ (by omega)])), hC.up1 (by decide) (u1_lea hC.r (by omega) (by omega))⟩
    | (exfalso; omega)
  · refine J.iload_n (q := 8) dX5_greens_7 rfl ?_ rfl
    refine J.bipush (q := 10) dX5_greens_8 (by decide) ?_ rfl
    refine J.callS2i (q := 13) dX5_greens_10 mv_X5_isWithin kS_X5_isWithin kL_X5_59 ⟨by decide, by decide⟩ (Nat.le_of_ble_eq_true rfl) ⟨by decide, by decide⟩ rfl (c_X5_isWithin (by omega) (by omega)) ?_
    refine J.ifb_ne (tgt := 23) (q := 16) dX5_greens_13 rfl rfl (fun c13 => ?_) (fun c13 => ?_)
    · refine J.aload_n (q := 24) dX5_greens_23 rfl ?_ rfl
      refine J.getR (ci := 5) (k0 := 0) (c1 := 1) (q := 27) dX5_greens_24 kF_X5_12 rfl (by decide) (by decide) rfl (by decide) rfl ?_ rfl
      refine J.getR (ci := 1) (k0 := 1) (c1 := 3) (q := 30) dX5_greens_27 kF_X5_71 rfl (by decide) (by decide) rfl (by decide) rfl ?_ rfl
      refine J.iload_n (q := 31) dX5_greens_30 rfl ?_ rfl
      refine J.iald (n := 81) (q := 32) dX5_greens_31 rfl (by omega) ?_ rfl
      rw [g1_lea hC.r (by omega) (by omega)]
      refine J.istore_n (q := 33) dX5_greens_32 (Nat.le_of_ble_eq_true rfl) ?_ rfl
      refine J.aload_n (q := 34) dX5_greens_33 rfl ?_ rfl
      refine J.getR (ci := 5) (k0 := 0) (c1 := 1) (q := 37) dX5_greens_34 kF_X5_12 rfl (by decide) (by decide) rfl (by decide) rfl ?_ rfl
      refine J.getR (ci := 1) (k0 := 1) (c1 := 3) (q := 40) dX5_greens_37 kF_X5_71 rfl (by decide) (by decide) rfl (by decide) rfl ?_ rfl
      refine J.iload_n (q := 41) dX5_greens_40 rfl ?_ rfl
      refine J.iload_n (q := 42) dX5_greens_41 rfl ?_ rfl
      refine J.iast (n := 81) (q := 43) dX5_greens_42 rfl (by omega) ?_ rfl
      refine J.iload_n (q := 44) dX5_greens_43 rfl ?_ rfl
      refine J.ireturn dX5_greens_44 rfl ?_
      unfold CP an_greens
      repeat (first | rw [if_pos (by omega)] | rw [if_neg (by omega)])
      first
      | exact ⟨rfl, rfl, hf8, hC8⟩
      | exact ⟨rfl, rfl, fun q hq => by (first | rfl | (repeat rw [up_n _ _ _ (by omega)])), hC.up1 (by decide) (u1_lea hC.r (by omega) (by omega))⟩
      | (exfalso; omega)
    · refine J.aload_n (q := 17) dX5_greens_16 rfl ?_ rfl
      refine J.ldc (q := 19) (z := -1000001) dX5_greens_17 kK_X5_63 ?_ rfl
      refine J.callV1 (ci := 5) (q := 22) dX5_greens_19 mv_X5_tell kL_X5_64 rfl (by decide) rfl ⟨by decide, by decide⟩ (Nat.le_of_ble_eq_true rfl) ⟨by decide, by decide⟩ rfl (c_X5_tell (w := 0) (by decide) hC (by decide)) (fun v9 S9 iv9 hp => ?_)
      obtain ⟨rfl, rfl, hf8, hC8⟩ := hp
      refine J.ireturn dX5_greens_22 rfl ?_
      unfold CP an_greens
      repeat (first | rw [if_pos (by omega)] | rw [if_neg (by omega)])
      first
      | exact ⟨rfl, rfl, hf8, hC8⟩
      | exact ⟨rfl, rfl, fun q hq => by (first | rfl | (repeat rw [up_n _ _ _ (by omega)])), hC.up1 (by decide) (u1_lea hC.r (by omega) (by omega))⟩
      | (exfalso; omega)

set_option maxRecDepth 100000 in
set_option maxHeartbeats 4000000 in
theorem c_X5_land {l : Launch} {F : Nat × (Int → Int)} {iv A : Mm} (hC : CR iv A) (hA : AI A) {c v : Int} (hc : -2147483648 ≤ c ∧ c < 2147483648) (hv : -2147483648 ≤ v ∧ v < 2147483648) : Ctr l F 2 0 0 yX5_land cX5_land 3 (some FieldType.int) [r_ 0, i_ c, i_ v] S0 (iv) (CP iv (an_land A c v)) := by
  refine Ctr.of false (fun h => by cases h) (by decide) rfl (Nat.le_of_ble_eq_true rfl) ?_
  have hI := hA.mi
  have hmm := hI.many
  have hkp := hA.kp
  have htp := hA.tp
  refine J.iload_n (q := 1) dX5_land_0 rfl ?_ rfl
  refine J.callS1i (q := 4) dX5_land_1 mv_X5_isCell kS_X5_isCell kL_X5_55 ⟨by decide, by decide⟩ (Nat.le_of_ble_eq_true rfl) ⟨by decide, by decide⟩ rfl (c_X5_isCell (by omega)) ?_
  refine J.ifb_ne (tgt := 14) (q := 7) dX5_land_4 rfl rfl (fun c4 => ?_) (fun c4 => ?_)
  · refine J.iload_n (q := 15) dX5_land_14 rfl ?_ rfl
    rcases (show (v < 0 ∨ 2 < v) ∨ v = 0 ∨ v = 1 ∨ v = 2 by omega) with hO | hx15 | hx15 | hx15
    · refine J.tabOut (tgt := 70) dX5_land_15 (by omega) hO rfl ?_
      refine J.aload_n (q := 71) dX5_land_70 rfl ?_ rfl
      refine J.ldc (q := 73) (z := -1000001) dX5_land_71 kK_X5_63 ?_ rfl
      refine J.callV1 (ci := 5) (q := 76) dX5_land_73 mv_X5_tell kL_X5_64 rfl (by decide) rfl ⟨by decide, by decide⟩ (Nat.le_of_ble_eq_true rfl) ⟨by decide, by decide⟩ rfl (c_X5_tell (w := 0) (by decide) hC (by decide)) (fun v9 S9 iv9 hp => ?_)
      obtain ⟨rfl, rfl, hf8, hC8⟩ := hp
      refine J.ireturn dX5_land_76 rfl ?_
      unfold CP an_land
      repeat (first | rw [if_pos (by omega)] | rw [if_neg (by omega)])
      first
      | exact ⟨rfl, rfl, hf8, hC8⟩
      | exact ⟨rfl, rfl, fun q hq => by (first | rfl | (repeat rw [up_n _ _ _ (by omega)])), hC⟩
      | (exfalso; omega)
    · refine J.tabIn (off := 25) (tgt := 40) dX5_land_15 (by omega) (by omega) (by omega) (by rw [hx15]; rfl) rfl ?_
      refine J.aload_n (q := 41) dX5_land_40 rfl ?_ rfl
      refine J.getR (ci := 5) (k0 := 0) (c1 := 1) (q := 44) dX5_land_41 kF_X5_12 rfl (by decide) (by decide) rfl (by decide) rfl ?_ rfl
      refine J.getR (ci := 1) (k0 := 0) (c1 := 2) (q := 47) dX5_land_44 kF_X5_68 rfl (by decide) (by decide) rfl (by decide) rfl ?_ rfl
      refine J.iload_n (q := 48) dX5_land_47 rfl ?_ rfl
      refine J.iald (n := 81) (q := 49) dX5_land_48 rfl (by omega) ?_ rfl
      rw [g1_hed hC.r (by omega) (by omega)]
      refine J.ireturn dX5_land_49 rfl ?_
      unfold CP an_land
      repeat (first | rw [if_pos (by omega)] | rw [if_neg (by omega)])
      first
      | exact ⟨rfl, rfl, hf8, hC8⟩
      | exact ⟨rfl, rfl, fun q hq => by (first | rfl | (repeat rw [up_n _ _ _ (by omega)])), hC⟩
      | (exfalso; omega)
    · refine J.tabIn (off := 35) (tgt := 50) dX5_land_15 (by omega) (by omega) (by omega) (by rw [hx15]; rfl) rfl ?_
      refine J.aload_n (q := 51) dX5_land_50 rfl ?_ rfl
      refine J.getR (ci := 5) (k0 := 0) (c1 := 1) (q := 54) dX5_land_51 kF_X5_12 rfl (by decide) (by decide) rfl (by decide) rfl ?_ rfl
      refine J.getR (ci := 1) (k0 := 1) (c1 := 3) (q := 57) dX5_land_54 kF_X5_71 rfl (by decide) (by decide) rfl (by decide) rfl ?_ rfl
      refine J.iload_n (q := 58) dX5_land_57 rfl ?_ rfl
      refine J.iald (n := 81) (q := 59) dX5_land_58 rfl (by omega) ?_ rfl
      rw [g1_lea hC.r (by omega) (by omega)]
      refine J.ireturn dX5_land_59 rfl ?_
      unfold CP an_land
      repeat (first | rw [if_pos (by omega)] | rw [if_neg (by omega)])
      first
      | exact ⟨rfl, rfl, hf8, hC8⟩
      | exact ⟨rfl, rfl, fun q hq => by (first | rfl | (repeat rw [up_n _ _ _ (by omega)])), hC⟩
      | (exfalso; omega)
    · refine J.tabIn (off := 45) (tgt := 60) dX5_land_15 (by omega) (by omega) (by omega) (by rw [hx15]; rfl) rfl ?_
      refine J.aload_n (q := 61) dX5_land_60 rfl ?_ rfl
      refine J.getR (ci := 5) (k0 := 0) (c1 := 1) (q := 64) dX5_land_61 kF_X5_12 rfl (by decide) (by decide) rfl (by decide) rfl ?_ rfl
      refine J.getR (ci := 1) (k0 := 2) (c1 := 4) (q := 67) dX5_land_64 kF_X5_74 rfl (by decide) (by decide) rfl (by decide) rfl ?_ rfl
      refine J.iload_n (q := 68) dX5_land_67 rfl ?_ rfl
      refine J.iald (n := 81) (q := 69) dX5_land_68 rfl (by omega) ?_ rfl
      rw [g1_law hC.r (by omega) (by omega)]
      refine J.ireturn dX5_land_69 rfl ?_
      unfold CP an_land
      repeat (first | rw [if_pos (by omega)] | rw [if_neg (by omega)])
      first
      | exact ⟨rfl, rfl, hf8, hC8⟩
      | exact ⟨rfl, rfl, fun q hq => by (first | rfl | (repeat rw [up_n _ _ _ (by omega)])), hC⟩
      | (exfalso; omega)
  · refine J.aload_n (q := 8) dX5_land_7 rfl ?_ rfl
    refine J.ldc (q := 10) (z := -1000001) dX5_land_8 kK_X5_63 ?_ rfl
    refine J.callV1 (ci := 5) (q := 13) dX5_land_10 mv_X5_tell kL_X5_64 rfl (by decide) rfl ⟨by decide, by decide⟩ (Nat.le_of_ble_eq_true rfl) ⟨by decide, by decide⟩ rfl (c_X5_tell (w := 0) (by decide) hC (by decide)) (fun v9 S9 iv9 hp => ?_)
    obtain ⟨rfl, rfl, hf8, hC8⟩ := hp
    refine J.ireturn dX5_land_13 rfl ?_
    unfold CP an_land
    repeat (first | rw [if_pos (by omega)] | rw [if_neg (by omega)])
    first
    | exact ⟨rfl, rfl, hf8, hC8⟩
    | exact ⟨rfl, rfl, fun q hq => by (first | rfl | (repeat rw [up_n _ _ _ (by omega)])), hC⟩
    | (exfalso; omega)

set_option maxRecDepth 100000 in
set_option maxHeartbeats 4000000 in
theorem c_X5_bans {l : Launch} {F : Nat × (Int → Int)} {iv A : Mm} (hC : CR iv A) (hA : AI A) {w v : Int} (hw : -2147483648 ≤ w ∧ w < 2147483648) (hv : -2147483648 ≤ v ∧ v < 2147483648) : Ctr l F 2 0 0 yX5_bans cX5_bans 4 (some FieldType.int) [r_ 0, i_ w, i_ v] S0 (iv) (CP iv (an_bans A w v)) := by
  refine Ctr.of false (fun h => by cases h) (by decide) rfl (Nat.le_of_ble_eq_true rfl) ?_
  have hI := hA.mi
  have hmm := hI.many
  have hkp := hA.kp
  have htp := hA.tp
  refine J.iload_n (q := 1) dX5_bans_0 rfl ?_ rfl
  refine J.callS1i (q := 4) dX5_bans_1 mv_X5_isLaw kS_X5_isLaw kL_X5_112 ⟨by decide, by decide⟩ (Nat.le_of_ble_eq_true rfl) ⟨by decide, by decide⟩ rfl (c_X5_isLaw (by omega)) ?_
  refine J.ifb_eq (tgt := 17) (q := 7) dX5_bans_4 rfl rfl (fun c4 => ?_) (fun c4 => ?_)
  · refine J.aload_n (q := 18) dX5_bans_17 rfl ?_ rfl
    refine J.ldc (q := 20) (z := -1000001) dX5_bans_18 kK_X5_63 ?_ rfl
    refine J.callV1 (ci := 5) (q := 23) dX5_bans_20 mv_X5_tell kL_X5_64 rfl (by decide) rfl ⟨by decide, by decide⟩ (Nat.le_of_ble_eq_true rfl) ⟨by decide, by decide⟩ rfl (c_X5_tell (w := 0) (by decide) hC (by decide)) (fun v9 S9 iv9 hp => ?_)
    obtain ⟨rfl, rfl, hf8, hC8⟩ := hp
    refine J.ireturn dX5_bans_23 rfl ?_
    unfold CP an_bans
    repeat (first | rw [if_pos (by omega)] | rw [if_neg (by omega)])
    first
    | exact ⟨rfl, rfl, hf8, hC8⟩
    | exact ⟨rfl, rfl, fun q hq => by (first | rfl | (repeat rw [up_n _ _ _ (by omega)])), hC.up1 (by decide) (u1_ban hC.r (by omega) (by omega))⟩
    | (exfalso; omega)
  · refine J.iload_n (q := 8) dX5_bans_7 rfl ?_ rfl
    refine J.sipush (q := 11) dX5_bans_8 (by decide) ?_ rfl
    refine J.callS2i (q := 14) dX5_bans_11 mv_X5_isWithin kS_X5_isWithin kL_X5_59 ⟨by decide, by decide⟩ (Nat.le_of_ble_eq_true rfl) ⟨by decide, by decide⟩ rfl (c_X5_isWithin (by omega) (by omega)) ?_
    refine J.ifb_ne (tgt := 24) (q := 17) dX5_bans_14 rfl rfl (fun c14 => ?_) (fun c14 => ?_)
    · refine J.aload_n (q := 25) dX5_bans_24 rfl ?_ rfl
      refine J.getR (ci := 5) (k0 := 0) (c1 := 1) (q := 28) dX5_bans_25 kF_X5_12 rfl (by decide) (by decide) rfl (by decide) rfl ?_ rfl
      refine J.getR (ci := 1) (k0 := 4) (c1 := 6) (q := 31) dX5_bans_28 kF_X5_115 rfl (by decide) (by decide) rfl (by decide) rfl ?_ rfl
      refine J.iload_n (q := 32) dX5_bans_31 rfl ?_ rfl
      refine J.iald (n := 8) (q := 33) dX5_bans_32 rfl (by omega) ?_ rfl
      rw [g1_ban hC.r (by omega) (by omega)]
      refine J.istore_n (q := 34) dX5_bans_33 (Nat.le_of_ble_eq_true rfl) ?_ rfl
      refine J.aload_n (q := 35) dX5_bans_34 rfl ?_ rfl
      refine J.getR (ci := 5) (k0 := 0) (c1 := 1) (q := 38) dX5_bans_35 kF_X5_12 rfl (by decide) (by decide) rfl (by decide) rfl ?_ rfl
      refine J.getR (ci := 1) (k0 := 4) (c1 := 6) (q := 41) dX5_bans_38 kF_X5_115 rfl (by decide) (by decide) rfl (by decide) rfl ?_ rfl
      refine J.iload_n (q := 42) dX5_bans_41 rfl ?_ rfl
      refine J.iload_n (q := 43) dX5_bans_42 rfl ?_ rfl
      refine J.iast (n := 8) (q := 44) dX5_bans_43 rfl (by omega) ?_ rfl
      refine J.iload_n (q := 45) dX5_bans_44 rfl ?_ rfl
      refine J.ireturn dX5_bans_45 rfl ?_
      unfold CP an_bans
      repeat (first | rw [if_pos (by omega)] | rw [if_neg (by omega)])
      first
      | exact ⟨rfl, rfl, hf8, hC8⟩
      | exact ⟨rfl, rfl, fun q hq => by (first | rfl | (repeat rw [up_n _ _ _ (by omega)])), hC.up1 (by decide) (u1_ban hC.r (by omega) (by omega))⟩
      | (exfalso; omega)
    · refine J.aload_n (q := 18) dX5_bans_17 rfl ?_ rfl
      refine J.ldc (q := 20) (z := -1000001) dX5_bans_18 kK_X5_63 ?_ rfl
      refine J.callV1 (ci := 5) (q := 23) dX5_bans_20 mv_X5_tell kL_X5_64 rfl (by decide) rfl ⟨by decide, by decide⟩ (Nat.le_of_ble_eq_true rfl) ⟨by decide, by decide⟩ rfl (c_X5_tell (w := 0) (by decide) hC (by decide)) (fun v9 S9 iv9 hp => ?_)
      obtain ⟨rfl, rfl, hf8, hC8⟩ := hp
      refine J.ireturn dX5_bans_23 rfl ?_
      unfold CP an_bans
      repeat (first | rw [if_pos (by omega)] | rw [if_neg (by omega)])
      first
      | exact ⟨rfl, rfl, hf8, hC8⟩
      | exact ⟨rfl, rfl, fun q hq => by (first | rfl | (repeat rw [up_n _ _ _ (by omega)])), hC.up1 (by decide) (u1_ban hC.r (by omega) (by omega))⟩
      | (exfalso; omega)

set_option maxRecDepth 100000 in
set_option maxHeartbeats 4000000 in
theorem c_X5_set {l : Launch} {F : Nat × (Int → Int)} {iv A : Mm} (hC : CR iv A) (hA : AI A) {w v : Int} (hw : -2147483648 ≤ w ∧ w < 2147483648) (hv : -2147483648 ≤ v ∧ v < 2147483648) : Ctr l F 2 0 0 yX5_set cX5_set 4 (some FieldType.int) [r_ 0, i_ w, i_ v] S0 (iv) (CP iv (an_set A w v)) := by
  refine Ctr.of false (fun h => by cases h) (by decide) rfl (Nat.le_of_ble_eq_true rfl) ?_
  have hI := hA.mi
  have hmm := hI.many
  have hkp := hA.kp
  have htp := hA.tp
  refine J.iload_n (q := 1) dX5_set_0 rfl ?_ rfl
  refine J.if_ne (tgt := 31) (q := 4) dX5_set_1 rfl rfl (fun c1 => ?_) (fun c1 => ?_)
  · refine J.iload_n (q := 32) dX5_set_31 rfl ?_ rfl
    refine J.iconst (q := 33) dX5_set_32 ?_ rfl
    refine J.icmp_ne (tgt := 63) (q := 36) dX5_set_33 rfl rfl (fun c33 => ?_) (fun c33 => ?_)
    · refine J.aload_n (q := 64) dX5_set_63 rfl ?_ rfl
      refine J.ldc (q := 66) (z := -1000001) dX5_set_64 kK_X5_63 ?_ rfl
      refine J.callV1 (ci := 5) (q := 69) dX5_set_66 mv_X5_tell kL_X5_64 rfl (by decide) rfl ⟨by decide, by decide⟩ (Nat.le_of_ble_eq_true rfl) ⟨by decide, by decide⟩ rfl (c_X5_tell (w := 0) (by decide) hC (by decide)) (fun v9 S9 iv9 hp => ?_)
      obtain ⟨rfl, rfl, hf8, hC8⟩ := hp
      refine J.ireturn dX5_set_69 rfl ?_
      unfold CP an_set
      repeat (first | rw [if_pos (by omega)] | rw [if_neg (by omega)])
      first
      | exact ⟨rfl, rfl, hf8, hC8⟩
      | (have hw0 : w = 0 := by omega
         subst hw0
         exact ⟨rfl, rfl, fun q hq => up_n _ _ _ (by omega), hC.up1 (by decide) (u1_wet hC.r)⟩)
      | (have hw0 : w = 1 := by omega
         subst hw0
         exact ⟨rfl, rfl, fun q hq => up_n _ _ _ (by omega), hC.up1 (by decide) (u1_thr hC.r)⟩)
      | (exfalso; omega)
    · refine J.iload_n (q := 37) dX5_set_36 rfl ?_ rfl
      refine J.bipush (q := 39) dX5_set_37 (by decide) ?_ rfl
      refine J.callS2i (q := 42) dX5_set_39 mv_X5_isWithin kS_X5_isWithin kL_X5_59 ⟨by decide, by decide⟩ (Nat.le_of_ble_eq_true rfl) ⟨by decide, by decide⟩ rfl (c_X5_isWithin (by omega) (by omega)) ?_
      refine J.ifb_eq (tgt := 63) (q := 45) dX5_set_42 rfl rfl (fun c42 => ?_) (fun c42 => ?_)
      · refine J.aload_n (q := 64) dX5_set_63 rfl ?_ rfl
        refine J.ldc (q := 66) (z := -1000001) dX5_set_64 kK_X5_63 ?_ rfl
        refine J.callV1 (ci := 5) (q := 69) dX5_set_66 mv_X5_tell kL_X5_64 rfl (by decide) rfl ⟨by decide, by decide⟩ (Nat.le_of_ble_eq_true rfl) ⟨by decide, by decide⟩ rfl (c_X5_tell (w := 0) (by decide) hC (by decide)) (fun v9 S9 iv9 hp => ?_)
        obtain ⟨rfl, rfl, hf8, hC8⟩ := hp
        refine J.ireturn dX5_set_69 rfl ?_
        unfold CP an_set
        repeat (first | rw [if_pos (by omega)] | rw [if_neg (by omega)])
        first
        | exact ⟨rfl, rfl, hf8, hC8⟩
        | (have hw0 : w = 0 := by omega
           subst hw0
           exact ⟨rfl, rfl, fun q hq => up_n _ _ _ (by omega), hC.up1 (by decide) (u1_wet hC.r)⟩)
        | (have hw0 : w = 1 := by omega
           subst hw0
           exact ⟨rfl, rfl, fun q hq => up_n _ _ _ (by omega), hC.up1 (by decide) (u1_thr hC.r)⟩)
        | (exfalso; omega)
      · refine J.aload_n (q := 46) dX5_set_45 rfl ?_ rfl
        refine J.getR (ci := 5) (k0 := 0) (c1 := 1) (q := 49) dX5_set_46 kF_X5_12 rfl (by decide) (by decide) rfl (by decide) rfl ?_ rfl
        refine J.getI (ci := 1) (k0 := 13) (kz := 13) (q := 52) dX5_set_49 kF_X5_122 rfl (by decide) (by decide) rfl (.inl rfl) ?_ rfl
        rw [g1_thr hC.r]
        refine J.istore_n (q := 53) dX5_set_52 (Nat.le_of_ble_eq_true rfl) ?_ rfl
        refine J.aload_n (q := 54) dX5_set_53 rfl ?_ rfl
        refine J.getR (ci := 5) (k0 := 0) (c1 := 1) (q := 57) dX5_set_54 kF_X5_12 rfl (by decide) (by decide) rfl (by decide) rfl ?_ rfl
        refine J.iload_n (q := 58) dX5_set_57 rfl ?_ rfl
        refine J.putI (ci := 1) (k0 := 13) (kz := 13) (q := 61) dX5_set_58 kF_X5_122 rfl (by decide) (by decide) rfl rfl rfl ?_ rfl
        refine J.iload_n (q := 62) dX5_set_61 rfl ?_ rfl
        refine J.ireturn dX5_set_62 rfl ?_
        unfold CP an_set
        repeat (first | rw [if_pos (by omega)] | rw [if_neg (by omega)])
        first
        | exact ⟨rfl, rfl, hf8, hC8⟩
        | (have hw0 : w = 0 := by omega
           subst hw0
           exact ⟨rfl, rfl, fun q hq => up_n _ _ _ (by omega), hC.up1 (by decide) (u1_wet hC.r)⟩)
        | (have hw0 : w = 1 := by omega
           subst hw0
           exact ⟨rfl, rfl, fun q hq => up_n _ _ _ (by omega), hC.up1 (by decide) (u1_thr hC.r)⟩)
        | (exfalso; omega)
  · refine J.iload_n (q := 5) dX5_set_4 rfl ?_ rfl
    refine J.bipush (q := 7) dX5_set_5 (by decide) ?_ rfl
    refine J.callS2i (q := 10) dX5_set_7 mv_X5_isWithin kS_X5_isWithin kL_X5_59 ⟨by decide, by decide⟩ (Nat.le_of_ble_eq_true rfl) ⟨by decide, by decide⟩ rfl (c_X5_isWithin (by omega) (by omega)) ?_
    refine J.ifb_eq (tgt := 31) (q := 13) dX5_set_10 rfl rfl (fun c10 => ?_) (fun c10 => ?_)
    · refine J.iload_n (q := 32) dX5_set_31 rfl ?_ rfl
      refine J.iconst (q := 33) dX5_set_32 ?_ rfl
      refine J.icmp_ne (tgt := 63) (q := 36) dX5_set_33 rfl rfl (fun c33 => ?_) (fun c33 => ?_)
      · refine J.aload_n (q := 64) dX5_set_63 rfl ?_ rfl
        refine J.ldc (q := 66) (z := -1000001) dX5_set_64 kK_X5_63 ?_ rfl
        refine J.callV1 (ci := 5) (q := 69) dX5_set_66 mv_X5_tell kL_X5_64 rfl (by decide) rfl ⟨by decide, by decide⟩ (Nat.le_of_ble_eq_true rfl) ⟨by decide, by decide⟩ rfl (c_X5_tell (w := 0) (by decide) hC (by decide)) (fun v9 S9 iv9 hp => ?_)
        obtain ⟨rfl, rfl, hf8, hC8⟩ := hp
        refine J.ireturn dX5_set_69 rfl ?_
        unfold CP an_set
        repeat (first | rw [if_pos (by omega)] | rw [if_neg (by omega)])
        first
        | exact ⟨rfl, rfl, hf8, hC8⟩
        | (have hw0 : w = 0 := by omega
           subst hw0
           exact ⟨rfl, rfl, fun q hq => up_n _ _ _ (by omega), hC.up1 (by decide) (u1_wet hC.r)⟩)
        | (have hw0 : w = 1 := by omega
           subst hw0
           exact ⟨rfl, rfl, fun q hq => up_n _ _ _ (by omega), hC.up1 (by decide) (u1_thr hC.r)⟩)
        | (exfalso; omega)
      · refine J.iload_n (q := 37) dX5_set_36 rfl ?_ rfl
        refine J.bipush (q := 39) dX5_set_37 (by decide) ?_ rfl
        refine J.callS2i (q := 42) dX5_set_39 mv_X5_isWithin kS_X5_isWithin kL_X5_59 ⟨by decide, by decide⟩ (Nat.le_of_ble_eq_true rfl) ⟨by decide, by decide⟩ rfl (c_X5_isWithin (by omega) (by omega)) ?_
        refine J.ifb_eq (tgt := 63) (q := 45) dX5_set_42 rfl rfl (fun c42 => ?_) (fun c42 => ?_)
        · refine J.aload_n (q := 64) dX5_set_63 rfl ?_ rfl
          refine J.ldc (q := 66) (z := -1000001) dX5_set_64 kK_X5_63 ?_ rfl
          refine J.callV1 (ci := 5) (q := 69) dX5_set_66 mv_X5_tell kL_X5_64 rfl (by decide) rfl ⟨by decide, by decide⟩ (Nat.le_of_ble_eq_true rfl) ⟨by decide, by decide⟩ rfl (c_X5_tell (w := 0) (by decide) hC (by decide)) (fun v9 S9 iv9 hp => ?_)
          obtain ⟨rfl, rfl, hf8, hC8⟩ := hp
          refine J.ireturn dX5_set_69 rfl ?_
          unfold CP an_set
          repeat (first | rw [if_pos (by omega)] | rw [if_neg (by omega)])
          first
          | exact ⟨rfl, rfl, hf8, hC8⟩
          | (have hw0 : w = 0 := by omega
             subst hw0
             exact ⟨rfl, rfl, fun q hq => up_n _ _ _ (by omega), hC.up1 (by decide) (u1_wet hC.r)⟩)
          | (have hw0 : w = 1 := by omega
             subst hw0
             exact ⟨rfl, rfl, fun q hq => up_n _ _ _ (by omega), hC.up1 (by decide) (u1_thr hC.r)⟩)
          | (exfalso; omega)
        · refine J.aload_n (q := 46) dX5_set_45 rfl ?_ rfl
          refine J.getR (ci := 5) (k0 := 0) (c1 := 1) (q := 49) dX5_set_46 kF_X5_12 rfl (by decide) (by decide) rfl (by decide) rfl ?_ rfl
          refine J.getI (ci := 1) (k0 := 13) (kz := 13) (q := 52) dX5_set_49 kF_X5_122 rfl (by decide) (by decide) rfl (.inl rfl) ?_ rfl
          rw [g1_thr hC.r]
          refine J.istore_n (q := 53) dX5_set_52 (Nat.le_of_ble_eq_true rfl) ?_ rfl
          refine J.aload_n (q := 54) dX5_set_53 rfl ?_ rfl
          refine J.getR (ci := 5) (k0 := 0) (c1 := 1) (q := 57) dX5_set_54 kF_X5_12 rfl (by decide) (by decide) rfl (by decide) rfl ?_ rfl
          refine J.iload_n (q := 58) dX5_set_57 rfl ?_ rfl
          refine J.putI (ci := 1) (k0 := 13) (kz := 13) (q := 61) dX5_set_58 kF_X5_122 rfl (by decide) (by decide) rfl rfl rfl ?_ rfl
          refine J.iload_n (q := 62) dX5_set_61 rfl ?_ rfl
          refine J.ireturn dX5_set_62 rfl ?_
          unfold CP an_set
          repeat (first | rw [if_pos (by omega)] | rw [if_neg (by omega)])
          first
          | exact ⟨rfl, rfl, hf8, hC8⟩
          | (have hw0 : w = 0 := by omega
             subst hw0
             exact ⟨rfl, rfl, fun q hq => up_n _ _ _ (by omega), hC.up1 (by decide) (u1_wet hC.r)⟩)
          | (have hw0 : w = 1 := by omega
             subst hw0
             exact ⟨rfl, rfl, fun q hq => up_n _ _ _ (by omega), hC.up1 (by decide) (u1_thr hC.r)⟩)
          | (exfalso; omega)
    · refine J.aload_n (q := 14) dX5_set_13 rfl ?_ rfl
      refine J.getR (ci := 5) (k0 := 0) (c1 := 1) (q := 17) dX5_set_14 kF_X5_12 rfl (by decide) (by decide) rfl (by decide) rfl ?_ rfl
      refine J.getI (ci := 1) (k0 := 12) (kz := 12) (q := 20) dX5_set_17 kF_X5_118 rfl (by decide) (by decide) rfl (.inl rfl) ?_ rfl
      rw [g1_wet hC.r]
      refine J.istore_n (q := 21) dX5_set_20 (Nat.le_of_ble_eq_true rfl) ?_ rfl
      refine J.aload_n (q := 22) dX5_set_21 rfl ?_ rfl
      refine J.getR (ci := 5) (k0 := 0) (c1 := 1) (q := 25) dX5_set_22 kF_X5_12 rfl (by decide) (by decide) rfl (by decide) rfl ?_ rfl
      refine J.iload_n (q := 26) dX5_set_25 rfl ?_ rfl
      refine J.putI (ci := 1) (k0 := 12) (kz := 12) (q := 29) dX5_set_26 kF_X5_118 rfl (by decide) (by decide) rfl rfl rfl ?_ rfl
      refine J.iload_n (q := 30) dX5_set_29 rfl ?_ rfl
      refine J.ireturn dX5_set_30 rfl ?_
      unfold CP an_set
      repeat (first | rw [if_pos (by omega)] | rw [if_neg (by omega)])
      first
      | exact ⟨rfl, rfl, hf8, hC8⟩
      | (have hw0 : w = 0 := by omega
         subst hw0
         exact ⟨rfl, rfl, fun q hq => up_n _ _ _ (by omega), hC.up1 (by decide) (u1_wet hC.r)⟩)
      | (have hw0 : w = 1 := by omega
         subst hw0
         exact ⟨rfl, rfl, fun q hq => up_n _ _ _ (by omega), hC.up1 (by decide) (u1_thr hC.r)⟩)
      | (exfalso; omega)

set_option maxRecDepth 100000 in
set_option maxHeartbeats 4000000 in
theorem c_X5_seed {l : Launch} {F : Nat × (Int → Int)} {iv A : Mm} (hC : CR iv A) (hA : AI A) {v : Int} (hv : -2147483648 ≤ v ∧ v < 2147483648) : Ctr l F 2 0 0 yX5_seed cX5_seed 3 (some FieldType.int) [r_ 0, i_ v] S0 (iv) (CP iv (an_seed A v)) := by
  refine Ctr.of false (fun h => by cases h) (by decide) rfl (Nat.le_of_ble_eq_true rfl) ?_
  have hI := hA.mi
  have hmm := hI.many
  have hkp := hA.kp
  have htp := hA.tp
  refine J.aload_n (q := 1) dX5_seed_0 rfl ?_ rfl
  refine J.getR (ci := 5) (k0 := 0) (c1 := 1) (q := 4) dX5_seed_1 kF_X5_12 rfl (by decide) (by decide) rfl (by decide) rfl ?_ rfl
  refine J.getI (ci := 1) (k0 := 16) (kz := 16) (q := 7) dX5_seed_4 kF_X5_221 rfl (by decide) (by decide) rfl (.inl rfl) ?_ rfl
  rw [g1_zz hC.r]
  refine J.istore_n (q := 8) dX5_seed_7 (Nat.le_of_ble_eq_true rfl) ?_ rfl
  refine J.aload_n (q := 9) dX5_seed_8 rfl ?_ rfl
  refine J.getR (ci := 5) (k0 := 0) (c1 := 1) (q := 12) dX5_seed_9 kF_X5_12 rfl (by decide) (by decide) rfl (by decide) rfl ?_ rfl
  refine J.iload_n (q := 13) dX5_seed_12 rfl ?_ rfl
  refine J.putI (ci := 1) (k0 := 16) (kz := 16) (q := 16) dX5_seed_13 kF_X5_221 rfl (by decide) (by decide) rfl rfl rfl ?_ rfl
  refine J.iload_n (q := 17) dX5_seed_16 rfl ?_ rfl
  refine J.ireturn dX5_seed_17 rfl ?_
  unfold CP an_seed
  repeat (first | rw [if_pos (by omega)] | rw [if_neg (by omega)])
  first
  | exact ⟨rfl, rfl, hf8, hC8⟩
  | exact ⟨rfl, rfl, fun q hq => by (first | rfl | (repeat rw [up_n _ _ _ (by omega)])), hC.up1 (by decide) (u1_zz hC.r)⟩
  | (exfalso; omega)

theorem CR.row {iv iv2 A B : Mm} (h : CR iv A) (h1 : RR iv2 1 (B 62)) (h2 : B 61 3 = 1 → RR iv2 13 (B 63)) (h3 : iv2 0 7 = B 61 3) (h4 : iv2 50 0 = B 61 10)
    (f60 : iv2 60 = iv 60) (f51 : iv2 51 = iv 51) (f57 : iv2 57 = iv 57) (f58 : iv2 58 = iv 58) (f59 : iv2 59 = iv 59)
    (b65 : B 65 = A 65) (b70 : B 70 = A 70) (b74 : B 74 = A 74) (b75 : B 75 = A 75) (b76 : B 76 = A 76) : CR iv2 B :=
  ⟨h1, h2, h3, by rw [f60, b65]; exact h.e, h4, by rw [f51, b70]; exact h.t, by rw [f57, f58, b74, b75]; exact h.s, by rw [f59, b76]; exact h.n⟩
theorem CR.k0 {iv A : Mm} {iv2 : Mm} (h : CR iv A) (hf : ∀ q, 13 ≤ q → q ≤ 24 → iv2 q = iv q) : A 61 3 = 1 → RR iv2 13 (A 63) := fun e => (h.k e).fr (fun q q1 q2 q3 => hf q q1 (by omega))
set_option maxRecDepth 100000 in
set_option maxHeartbeats 4000000 in
theorem c_X5_wipe {l : Launch} {F : Nat × (Int → Int)} {iv A : Mm} (hC : CR iv A) (hA : AI A) : Ctr l F 2 0 0 yX5_wipe cX5_wipe 2 (some FieldType.int) [r_ 0] S0 (iv) (CP iv (an_wipe A)) := by
  refine Ctr.of false (fun h => by cases h) (by decide) rfl (Nat.le_of_ble_eq_true rfl) ?_
  have hI := hA.mi
  have hmm := hI.many
  have hkp := hA.kp
  have htp := hA.tp
  refine J.aload_n (q := 1) dX5_wipe_0 rfl ?_ rfl
  refine J.getR (ci := 5) (k0 := 4) (c1 := 50) (q := 4) dX5_wipe_1 kF_X5_36 rfl (by decide) (by decide) rfl (by decide) rfl ?_ rfl
  refine J.getI (ci := 3) (k0 := 0) (kz := 0) (q := 7) dX5_wipe_4 kF_X5_227 rfl (by decide) (by decide) rfl (.inl rfl) ?_ rfl
  rw [hC.z]
  refine J.istore_n (q := 8) dX5_wipe_7 (Nat.le_of_ble_eq_true rfl) ?_ rfl
  refine J.aload_n (q := 9) dX5_wipe_8 rfl ?_ rfl
  refine J.getR (ci := 5) (k0 := 4) (c1 := 50) (q := 12) dX5_wipe_9 kF_X5_36 rfl (by decide) (by decide) rfl (by decide) rfl ?_ rfl
  refine J.iconst (q := 13) dX5_wipe_12 ?_ rfl
  refine J.putI (ci := 3) (k0 := 0) (kz := 0) (q := 16) dX5_wipe_13 kF_X5_227 rfl (by decide) (by decide) rfl rfl rfl ?_ rfl
  refine J.iload_n (q := 17) dX5_wipe_16 rfl ?_ rfl
  refine J.ireturn dX5_wipe_17 rfl ?_
  unfold CP an_wipe
  repeat (first | rw [if_pos (by omega)] | rw [if_neg (by omega)])
  first
  | exact ⟨rfl, rfl, hf8, hC8⟩
  | exact ⟨rfl, rfl, fun q hq => up_n _ _ _ (by omega), hC.row (hC.r.fr (fun q q1 q2 q3 => up_n _ _ _ (by omega))) (hC.k0 (fun q q1 q2 => up_n _ _ _ (by omega))) hC.i rfl rfl rfl rfl rfl rfl rfl rfl rfl rfl rfl⟩
  | (exfalso; omega)

set_option maxRecDepth 100000 in
set_option maxHeartbeats 4000000 in
theorem c_X5_tear {l : Launch} {F : Nat × (Int → Int)} {iv A : Mm} (hC : CR iv A) (hA : AI A) : Ctr l F 2 0 0 yX5_tear cX5_tear 2 (some FieldType.int) [r_ 0] S0 (iv) (CP iv (an_tear A)) := by
  refine Ctr.of false (fun h => by cases h) (by decide) rfl (Nat.le_of_ble_eq_true rfl) ?_
  have hI := hA.mi
  have hmm := hI.many
  have hkp := hA.kp
  have htp := hA.tp
  refine J.aload_n (q := 1) dX5_tear_0 rfl ?_ rfl
  refine J.getI (ci := 5) (k0 := 7) (kz := 7) (q := 4) dX5_tear_1 kF_X5_51 rfl (by decide) (by decide) rfl (.inr rfl) ?_ rfl
  rw [hC.i]
  refine J.if_eq (tgt := 11) (q := 7) dX5_tear_4 rfl rfl (fun c4 => ?_) (fun c4 => ?_)
  · refine J.iconst (q := 12) dX5_tear_11 ?_ rfl
    refine J.istore_n (q := 13) dX5_tear_12 (Nat.le_of_ble_eq_true rfl) ?_ rfl
    refine J.aload_n (q := 14) dX5_tear_13 rfl ?_ rfl
    refine J.iconst (q := 15) dX5_tear_14 ?_ rfl
    refine J.putZ (ci := 5) (k0 := 7) (kz := 7) (q := 18) dX5_tear_15 kF_X5_51 rfl (by decide) (by decide) rfl rfl rfl (by omega) ?_ rfl
    refine J.iload_n (q := 19) dX5_tear_18 rfl ?_ rfl
    refine J.ireturn dX5_tear_19 rfl ?_
    unfold CP an_tear
    repeat (first | rw [if_pos (by omega)] | rw [if_neg (by omega)])
    first
    | exact ⟨rfl, rfl, hf8, hC8⟩
    | exact ⟨rfl, rfl, fun q hq => up_n _ _ _ (by omega), hC.row (hC.r.fr (fun q q1 q2 q3 => up_n _ _ _ (by omega))) (fun e => absurd (show (0 : Int) = 1 from e) (by decide)) rfl hC.z rfl rfl rfl rfl rfl rfl rfl rfl rfl rfl⟩
    | (exfalso; omega)
  · refine J.iconst (q := 8) dX5_tear_7 ?_ rfl
    refine J.goto (tgt := 12) dX5_tear_8 rfl ?_
    refine J.istore_n (q := 13) dX5_tear_12 (Nat.le_of_ble_eq_true rfl) ?_ rfl
    refine J.aload_n (q := 14) dX5_tear_13 rfl ?_ rfl
    refine J.iconst (q := 15) dX5_tear_14 ?_ rfl
    refine J.putZ (ci := 5) (k0 := 7) (kz := 7) (q := 18) dX5_tear_15 kF_X5_51 rfl (by decide) (by decide) rfl rfl rfl (by omega) ?_ rfl
    refine J.iload_n (q := 19) dX5_tear_18 rfl ?_ rfl
    refine J.ireturn dX5_tear_19 rfl ?_
    unfold CP an_tear
    repeat (first | rw [if_pos (by omega)] | rw [if_neg (by omega)])
    first
    | exact ⟨rfl, rfl, hf8, hC8⟩
    | exact ⟨rfl, rfl, fun q hq => up_n _ _ _ (by omega), hC.row (hC.r.fr (fun q q1 q2 q3 => up_n _ _ _ (by omega))) (fun e => absurd (show (0 : Int) = 1 from e) (by decide)) rfl hC.z rfl rfl rfl rfl rfl rfl rfl rfl rfl rfl⟩
    | (exfalso; omega)

set_option maxRecDepth 100000 in
set_option maxHeartbeats 4000000 in
theorem c_X5_hold {l : Launch} {F : Nat × (Int → Int)} {iv A : Mm} (hC : CR iv A) (hA : AI A) {p k : Int} (hp : -2147483648 ≤ p ∧ p < 2147483648) (hk : -2147483648 ≤ k ∧ k < 2147483648) : Ctr l F 2 0 0 yX5_hold cX5_hold 3 (some FieldType.int) [r_ 0, i_ p, i_ k] S0 (iv) (CP iv (an_hold A p k)) := by
  refine Ctr.of false (fun h => by cases h) (by decide) rfl (Nat.le_of_ble_eq_true rfl) ?_
  have hI := hA.mi
  have hmm := hI.many
  have hkp := hA.kp
  have htp := hA.tp
  refine J.iload_n (q := 1) dX5_hold_0 rfl ?_ rfl
  refine J.bipush (q := 3) dX5_hold_1 (by decide) ?_ rfl
  refine J.callS2i (q := 6) dX5_hold_3 mv_X5_isWithin kS_X5_isWithin kL_X5_59 ⟨by decide, by decide⟩ (Nat.le_of_ble_eq_true rfl) ⟨by decide, by decide⟩ rfl (c_X5_isWithin (by omega) (by omega)) ?_
  refine J.ifb_eq (tgt := 22) (q := 9) dX5_hold_6 rfl rfl (fun c6 => ?_) (fun c6 => ?_)
  · refine J.aload_n (q := 23) dX5_hold_22 rfl ?_ rfl
    refine J.ldc (q := 25) (z := -1000001) dX5_hold_23 kK_X5_63 ?_ rfl
    refine J.callV1 (ci := 5) (q := 28) dX5_hold_25 mv_X5_tell kL_X5_64 rfl (by decide) rfl ⟨by decide, by decide⟩ (Nat.le_of_ble_eq_true rfl) ⟨by decide, by decide⟩ rfl (c_X5_tell (w := 0) (by decide) hC (by decide)) (fun v9 S9 iv9 hp => ?_)
    obtain ⟨rfl, rfl, hf8, hC8⟩ := hp
    refine J.ireturn dX5_hold_28 rfl ?_
    unfold CP an_hold
    repeat (first | rw [if_pos (by omega)] | rw [if_neg (by omega)])
    first
    | exact ⟨rfl, rfl, hf8, hC8⟩
    | exact ⟨rfl, rfl, fun q hq => by (first | rfl | (repeat rw [up_n _ _ _ (by omega)])), hC.up1 (by decide) (u1_spo hC.r (by omega) (by omega))⟩
    | (exfalso; omega)
  · refine J.iload_n (q := 10) dX5_hold_9 rfl ?_ rfl
    refine J.iconst (q := 11) dX5_hold_10 ?_ rfl
    refine J.icmp_eq (tgt := 29) (q := 14) dX5_hold_11 rfl rfl (fun c11 => ?_) (fun c11 => ?_)
    · refine J.aload_n (q := 30) dX5_hold_29 rfl ?_ rfl
      refine J.getR (ci := 5) (k0 := 0) (c1 := 1) (q := 33) dX5_hold_30 kF_X5_12 rfl (by decide) (by decide) rfl (by decide) rfl ?_ rfl
      refine J.getR (ci := 1) (k0 := 10) (c1 := 12) (q := 36) dX5_hold_33 kF_X5_244 rfl (by decide) (by decide) rfl (by decide) rfl ?_ rfl
      refine J.iload_n (q := 37) dX5_hold_36 rfl ?_ rfl
      refine J.iload_n (q := 38) dX5_hold_37 rfl ?_ rfl
      refine J.iast (n := 10) (q := 39) dX5_hold_38 rfl (by omega) ?_ rfl
      refine J.iconst (q := 40) dX5_hold_39 ?_ rfl
      refine J.ireturn dX5_hold_40 rfl ?_
      unfold CP an_hold
      repeat (first | rw [if_pos (by omega)] | rw [if_neg (by omega)])
      first
      | exact ⟨rfl, rfl, hf8, hC8⟩
      | exact ⟨rfl, rfl, fun q hq => by (first | rfl | (repeat rw [up_n _ _ _ (by omega)])), hC.up1 (by decide) (u1_spo hC.r (by omega) (by omega))⟩
      | (exfalso; omega)
    · refine J.aload_n (q := 15) dX5_hold_14 rfl ?_ rfl
      refine J.iload_n (q := 16) dX5_hold_15 rfl ?_ rfl
      refine J.callV1i (ci := 5) (q := 19) dX5_hold_16 mv_X5_isSnail kL_X5_93 rfl (by decide) rfl ⟨by decide, by decide⟩ (Nat.le_of_ble_eq_true rfl) ⟨by decide, by decide⟩ rfl (c_X5_isSnail (by omega) (g1_many hC.r) (by omega)) ?_
      refine J.ifb_ne (tgt := 29) (q := 22) dX5_hold_19 rfl rfl (fun c19 => ?_) (fun c19 => ?_)
      · refine J.aload_n (q := 30) dX5_hold_29 rfl ?_ rfl
        refine J.getR (ci := 5) (k0 := 0) (c1 := 1) (q := 33) dX5_hold_30 kF_X5_12 rfl (by decide) (by decide) rfl (by decide) rfl ?_ rfl
        refine J.getR (ci := 1) (k0 := 10) (c1 := 12) (q := 36) dX5_hold_33 kF_X5_244 rfl (by decide) (by decide) rfl (by decide) rfl ?_ rfl
        refine J.iload_n (q := 37) dX5_hold_36 rfl ?_ rfl
        refine J.iload_n (q := 38) dX5_hold_37 rfl ?_ rfl
        refine J.iast (n := 10) (q := 39) dX5_hold_38 rfl (by omega) ?_ rfl
        refine J.iconst (q := 40) dX5_hold_39 ?_ rfl
        refine J.ireturn dX5_hold_40 rfl ?_
        unfold CP an_hold
        repeat (first | rw [if_pos (by omega)] | rw [if_neg (by omega)])
        first
        | exact ⟨rfl, rfl, hf8, hC8⟩
        | exact ⟨rfl, rfl, fun q hq => by (first | rfl | (repeat rw [up_n _ _ _ (by omega)])), hC.up1 (by decide) (u1_spo hC.r (by omega) (by omega))⟩
        | (exfalso; omega)
      · refine J.aload_n (q := 23) dX5_hold_22 rfl ?_ rfl
        refine J.ldc (q := 25) (z := -1000001) dX5_hold_23 kK_X5_63 ?_ rfl
        refine J.callV1 (ci := 5) (q := 28) dX5_hold_25 mv_X5_tell kL_X5_64 rfl (by decide) rfl ⟨by decide, by decide⟩ (Nat.le_of_ble_eq_true rfl) ⟨by decide, by decide⟩ rfl (c_X5_tell (w := 0) (by decide) hC (by decide)) (fun v9 S9 iv9 hp => ?_)
        obtain ⟨rfl, rfl, hf8, hC8⟩ := hp
        refine J.ireturn dX5_hold_28 rfl ?_
        unfold CP an_hold
        repeat (first | rw [if_pos (by omega)] | rw [if_neg (by omega)])
        first
        | exact ⟨rfl, rfl, hf8, hC8⟩
        | exact ⟨rfl, rfl, fun q hq => by (first | rfl | (repeat rw [up_n _ _ _ (by omega)])), hC.up1 (by decide) (u1_spo hC.r (by omega) (by omega))⟩
        | (exfalso; omega)

set_option maxRecDepth 100000 in
set_option maxHeartbeats 4000000 in
theorem c_X1_addSnail1 {l : Launch} {F : Nat × (Int → Int)} {iv : Mm} {s : Int → Int} {kd c : Int} (hR : RR iv 1 s) (hm : 0 ≤ s 2 ∧ s 2 ≤ 8) : Ctr l F 0 0 0 yX1_addSnail cX1_addSnail 4 (some FieldType.int) [r_ 1, i_ kd, i_ c] S0 (iv) (fun v S iv2 => v = some (i_ (if s 2 = 8 then -1 else s 2)) ∧ S = S0 ∧ (∀ q, (q < 1 ∨ 12 < q) → iv2 q = iv q) ∧ RR iv2 1 (if s 2 = 8 then s else addS s kd c)) := by
  refine Ctr.of false (fun h => by cases h) (by decide) rfl (Nat.le_of_ble_eq_true rfl) ?_
  refine J.aload_n (q := 1) dX1_addSnail_0 rfl ?_ rfl
  refine J.getI (ci := 1) (k0 := 11) (kz := 11) (q := 4) dX1_addSnail_1 kF_X1_45 rfl (by decide) (by decide) rfl (.inl rfl) ?_ rfl
  rw [g1_many hR]
  refine J.bipush (q := 6) dX1_addSnail_4 (by decide) ?_ rfl
  refine J.icmp_lt (tgt := 11) (q := 9) dX1_addSnail_6 rfl rfl (fun c6 => ?_) (fun c6 => ?_)
  · refine J.aload_n (q := 12) dX1_addSnail_11 rfl ?_ rfl
    refine J.getI (ci := 1) (k0 := 11) (kz := 11) (q := 15) dX1_addSnail_12 kF_X1_45 rfl (by decide) (by decide) rfl (.inl rfl) ?_ rfl
    rw [g1_many hR]
    refine J.istore_n (q := 16) dX1_addSnail_15 (Nat.le_of_ble_eq_true rfl) ?_ rfl
    refine J.aload_n (q := 17) dX1_addSnail_16 rfl ?_ rfl
    refine J.getR (ci := 1) (k0 := 5) (c1 := 7) (q := 20) dX1_addSnail_17 kF_X1_27 rfl (by decide) (by decide) rfl (by decide) rfl ?_ rfl
    refine J.iload_n (q := 21) dX1_addSnail_20 rfl ?_ rfl
    refine J.iload_n (q := 22) dX1_addSnail_21 rfl ?_ rfl
    refine J.iast (n := 8) (q := 23) dX1_addSnail_22 rfl (by omega) ?_ rfl
    refine J.aload_n (q := 24) dX1_addSnail_23 rfl ?_ rfl
    refine J.getR (ci := 1) (k0 := 6) (c1 := 8) (q := 27) dX1_addSnail_24 kF_X1_30 rfl (by decide) (by decide) rfl (by decide) rfl ?_ rfl
    refine J.iload_n (q := 28) dX1_addSnail_27 rfl ?_ rfl
    refine J.iload_n (q := 29) dX1_addSnail_28 rfl ?_ rfl
    refine J.iast (n := 8) (q := 30) dX1_addSnail_29 rfl (by omega) ?_ rfl
    refine J.aload_n (q := 31) dX1_addSnail_30 rfl ?_ rfl
    refine J.getR (ci := 1) (k0 := 7) (c1 := 9) (q := 34) dX1_addSnail_31 kF_X1_33 rfl (by decide) (by decide) rfl (by decide) rfl ?_ rfl
    refine J.iload_n (q := 35) dX1_addSnail_34 rfl ?_ rfl
    refine J.iconst (q := 36) dX1_addSnail_35 ?_ rfl
    refine J.iast (n := 8) (q := 37) dX1_addSnail_36 rfl (by omega) ?_ rfl
    refine J.aload_n (q := 38) dX1_addSnail_37 rfl ?_ rfl
    refine J.getR (ci := 1) (k0 := 8) (c1 := 10) (q := 41) dX1_addSnail_38 kF_X1_36 rfl (by decide) (by decide) rfl (by decide) rfl ?_ rfl
    refine J.iload_n (q := 42) dX1_addSnail_41 rfl ?_ rfl
    refine J.bipush (q := 44) dX1_addSnail_42 (by decide) ?_ rfl
    refine J.iast (n := 8) (q := 45) dX1_addSnail_44 rfl (by omega) ?_ rfl
    refine J.aload_n (q := 46) dX1_addSnail_45 rfl ?_ rfl
    refine J.getR (ci := 1) (k0 := 9) (c1 := 11) (q := 49) dX1_addSnail_46 kF_X1_39 rfl (by decide) (by decide) rfl (by decide) rfl ?_ rfl
    refine J.iload_n (q := 50) dX1_addSnail_49 rfl ?_ rfl
    refine J.iconst (q := 51) dX1_addSnail_50 ?_ rfl
    refine J.iast (n := 8) (q := 52) dX1_addSnail_51 rfl (by omega) ?_ rfl
    refine J.aload_n (q := 53) dX1_addSnail_52 rfl ?_ rfl
    refine J.dup (q := 54) dX1_addSnail_53 rfl ?_ rfl
    have h5 := u1_pri (v := 1) (u1_gat (v := 80) (u1_edi (v := 0) (u1_ats (v := c) (u1_kin (v := kd) hR (c := s 2) (by omega) (by omega)) (c := s 2) (by omega) (by omega)) (c := s 2) (by omega) (by omega)) (c := s 2) (by omega) (by omega)) (c := s 2) (by omega) (by omega)
    have e2 : upr (upr (upr (upr (upr s (257 + 5 * s 2 + 0) kd) (257 + 5 * s 2 + 1) c) (257 + 5 * s 2 + 2) 0) (257 + 5 * s 2 + 3) 80) (257 + 5 * s 2 + 4) 1 2 = s 2 := by
      rw [upr_n _ _ (by omega), upr_n _ _ (by omega), upr_n _ _ (by omega), upr_n _ _ (by omega), upr_n _ _ (by omega)]
    refine J.getI (ci := 1) (k0 := 11) (kz := 11) (q := 57) dX1_addSnail_54 kF_X1_45 rfl (by decide) (by decide) rfl (.inl rfl) ?_ rfl
    rw [g1_many h5, e2]
    refine J.iconst (q := 58) dX1_addSnail_57 ?_ rfl
    refine J.iadd (q := 59) dX1_addSnail_58 ?_ rfl
    refine J.putI (ci := 1) (k0 := 11) (kz := 11) (q := 62) dX1_addSnail_59 kF_X1_45 rfl (by decide) (by decide) rfl rfl rfl ?_ rfl
    refine J.iload_n (q := 63) dX1_addSnail_62 rfl ?_ rfl
    refine J.ireturn dX1_addSnail_63 rfl ?_
    first
    | (rw [if_pos (by omega), if_pos (by omega)]; exact ⟨rfl, rfl, fun _ _ => rfl, hR⟩)
    | (rw [if_neg (by omega), if_neg (by omega)]; exact ⟨rfl, rfl, fun q hq => by (repeat rw [up_n _ _ _ (by omega)]), u1_many h5⟩)
  · refine J.iconst (q := 10) dX1_addSnail_9 ?_ rfl
    refine J.ireturn dX1_addSnail_10 rfl ?_
    first
    | (rw [if_pos (by omega), if_pos (by omega)]; exact ⟨rfl, rfl, fun _ _ => rfl, hR⟩)
    | (rw [if_neg (by omega), if_neg (by omega)]; exact ⟨rfl, rfl, fun q hq => by (repeat rw [up_n _ _ _ (by omega)]), u1_many h5⟩)

set_option maxRecDepth 100000 in
set_option maxHeartbeats 4000000 in
theorem c_X1_addSnail26 {l : Launch} {F : Nat × (Int → Int)} {iv : Mm} {s : Int → Int} {kd c : Int} (hR : RR iv 26 s) (hm : 0 ≤ s 2 ∧ s 2 ≤ 8) : Ctr l F 0 0 0 yX1_addSnail cX1_addSnail 4 (some FieldType.int) [r_ 26, i_ kd, i_ c] S0 (iv) (fun v S iv2 => v = some (i_ (if s 2 = 8 then -1 else s 2)) ∧ S = S0 ∧ (∀ q, (q < 26 ∨ 37 < q) → iv2 q = iv q) ∧ RR iv2 26 (if s 2 = 8 then s else addS s kd c)) := by
  refine Ctr.of false (fun h => by cases h) (by decide) rfl (Nat.le_of_ble_eq_true rfl) ?_
  refine J.aload_n (q := 1) dX1_addSnail_0 rfl ?_ rfl
  refine J.getI (ci := 1) (k0 := 11) (kz := 11) (q := 4) dX1_addSnail_1 kF_X1_45 rfl (by decide) (by decide) rfl (.inl rfl) ?_ rfl
  rw [g26_many hR]
  refine J.bipush (q := 6) dX1_addSnail_4 (by decide) ?_ rfl
  refine J.icmp_lt (tgt := 11) (q := 9) dX1_addSnail_6 rfl rfl (fun c6 => ?_) (fun c6 => ?_)
  · refine J.aload_n (q := 12) dX1_addSnail_11 rfl ?_ rfl
    refine J.getI (ci := 1) (k0 := 11) (kz := 11) (q := 15) dX1_addSnail_12 kF_X1_45 rfl (by decide) (by decide) rfl (.inl rfl) ?_ rfl
    rw [g26_many hR]
    refine J.istore_n (q := 16) dX1_addSnail_15 (Nat.le_of_ble_eq_true rfl) ?_ rfl
    refine J.aload_n (q := 17) dX1_addSnail_16 rfl ?_ rfl
    refine J.getR (ci := 1) (k0 := 5) (c1 := 32) (q := 20) dX1_addSnail_17 kF_X1_27 rfl (by decide) (by decide) rfl (by decide) rfl ?_ rfl
    refine J.iload_n (q := 21) dX1_addSnail_20 rfl ?_ rfl
    refine J.iload_n (q := 22) dX1_addSnail_21 rfl ?_ rfl
    refine J.iast (n := 8) (q := 23) dX1_addSnail_22 rfl (by omega) ?_ rfl
    refine J.aload_n (q := 24) dX1_addSnail_23 rfl ?_ rfl
    refine J.getR (ci := 1) (k0 := 6) (c1 := 33) (q := 27) dX1_addSnail_24 kF_X1_30 rfl (by decide) (by decide) rfl (by decide) rfl ?_ rfl
    refine J.iload_n (q := 28) dX1_addSnail_27 rfl ?_ rfl
    refine J.iload_n (q := 29) dX1_addSnail_28 rfl ?_ rfl
    refine J.iast (n := 8) (q := 30) dX1_addSnail_29 rfl (by omega) ?_ rfl
    refine J.aload_n (q := 31) dX1_addSnail_30 rfl ?_ rfl
    refine J.getR (ci := 1) (k0 := 7) (c1 := 34) (q := 34) dX1_addSnail_31 kF_X1_33 rfl (by decide) (by decide) rfl (by decide) rfl ?_ rfl
    refine J.iload_n (q := 35) dX1_addSnail_34 rfl ?_ rfl
    refine J.iconst (q := 36) dX1_addSnail_35 ?_ rfl
    refine J.iast (n := 8) (q := 37) dX1_addSnail_36 rfl (by omega) ?_ rfl
    refine J.aload_n (q := 38) dX1_addSnail_37 rfl ?_ rfl
    refine J.getR (ci := 1) (k0 := 8) (c1 := 35) (q := 41) dX1_addSnail_38 kF_X1_36 rfl (by decide) (by decide) rfl (by decide) rfl ?_ rfl
    refine J.iload_n (q := 42) dX1_addSnail_41 rfl ?_ rfl
    refine J.bipush (q := 44) dX1_addSnail_42 (by decide) ?_ rfl
    refine J.iast (n := 8) (q := 45) dX1_addSnail_44 rfl (by omega) ?_ rfl
    refine J.aload_n (q := 46) dX1_addSnail_45 rfl ?_ rfl
    refine J.getR (ci := 1) (k0 := 9) (c1 := 36) (q := 49) dX1_addSnail_46 kF_X1_39 rfl (by decide) (by decide) rfl (by decide) rfl ?_ rfl
    refine J.iload_n (q := 50) dX1_addSnail_49 rfl ?_ rfl
    refine J.iconst (q := 51) dX1_addSnail_50 ?_ rfl
    refine J.iast (n := 8) (q := 52) dX1_addSnail_51 rfl (by omega) ?_ rfl
    refine J.aload_n (q := 53) dX1_addSnail_52 rfl ?_ rfl
    refine J.dup (q := 54) dX1_addSnail_53 rfl ?_ rfl
    have h5 := u26_pri (v := 1) (u26_gat (v := 80) (u26_edi (v := 0) (u26_ats (v := c) (u26_kin (v := kd) hR (c := s 2) (by omega) (by omega)) (c := s 2) (by omega) (by omega)) (c := s 2) (by omega) (by omega)) (c := s 2) (by omega) (by omega)) (c := s 2) (by omega) (by omega)
    have e2 : upr (upr (upr (upr (upr s (257 + 5 * s 2 + 0) kd) (257 + 5 * s 2 + 1) c) (257 + 5 * s 2 + 2) 0) (257 + 5 * s 2 + 3) 80) (257 + 5 * s 2 + 4) 1 2 = s 2 := by
      rw [upr_n _ _ (by omega), upr_n _ _ (by omega), upr_n _ _ (by omega), upr_n _ _ (by omega), upr_n _ _ (by omega)]
    refine J.getI (ci := 1) (k0 := 11) (kz := 11) (q := 57) dX1_addSnail_54 kF_X1_45 rfl (by decide) (by decide) rfl (.inl rfl) ?_ rfl
    rw [g26_many h5, e2]
    refine J.iconst (q := 58) dX1_addSnail_57 ?_ rfl
    refine J.iadd (q := 59) dX1_addSnail_58 ?_ rfl
    refine J.putI (ci := 1) (k0 := 11) (kz := 11) (q := 62) dX1_addSnail_59 kF_X1_45 rfl (by decide) (by decide) rfl rfl rfl ?_ rfl
    refine J.iload_n (q := 63) dX1_addSnail_62 rfl ?_ rfl
    refine J.ireturn dX1_addSnail_63 rfl ?_
    first
    | (rw [if_pos (by omega), if_pos (by omega)]; exact ⟨rfl, rfl, fun _ _ => rfl, hR⟩)
    | (rw [if_neg (by omega), if_neg (by omega)]; exact ⟨rfl, rfl, fun q hq => by (repeat rw [up_n _ _ _ (by omega)]), u26_many h5⟩)
  · refine J.iconst (q := 10) dX1_addSnail_9 ?_ rfl
    refine J.ireturn dX1_addSnail_10 rfl ?_
    first
    | (rw [if_pos (by omega), if_pos (by omega)]; exact ⟨rfl, rfl, fun _ _ => rfl, hR⟩)
    | (rw [if_neg (by omega), if_neg (by omega)]; exact ⟨rfl, rfl, fun q hq => by (repeat rw [up_n _ _ _ (by omega)]), u26_many h5⟩)

set_option maxRecDepth 100000 in
set_option maxHeartbeats 4000000 in
theorem c_X5_snail {l : Launch} {F : Nat × (Int → Int)} {iv A : Mm} (hC : CR iv A) (hA : AI A) {kd c : Int} (hkd : -2147483648 ≤ kd ∧ kd < 2147483648) (hc : -2147483648 ≤ c ∧ c < 2147483648) : Ctr l F 2 0 0 yX5_snail cX5_snail 4 (some FieldType.int) [r_ 0, i_ kd, i_ c] S0 (iv) (CP iv (an_snail A kd c)) := by
  refine Ctr.of false (fun h => by cases h) (by decide) rfl (Nat.le_of_ble_eq_true rfl) ?_
  have hI := hA.mi
  have hmm := hI.many
  have hkp := hA.kp
  have htp := hA.tp
  refine J.iload_n (q := 1) dX5_snail_0 rfl ?_ rfl
  refine J.bipush (q := 3) dX5_snail_1 (by decide) ?_ rfl
  refine J.callS2i (q := 6) dX5_snail_3 mv_X5_isWithin kS_X5_isWithin kL_X5_59 ⟨by decide, by decide⟩ (Nat.le_of_ble_eq_true rfl) ⟨by decide, by decide⟩ rfl (c_X5_isWithin (by omega) (by omega)) ?_
  refine J.ifb_eq (tgt := 16) (q := 9) dX5_snail_6 rfl rfl (fun c6 => ?_) (fun c6 => ?_)
  · refine J.aload_n (q := 17) dX5_snail_16 rfl ?_ rfl
    refine J.ldc (q := 19) (z := -1000001) dX5_snail_17 kK_X5_63 ?_ rfl
    refine J.callV1 (ci := 5) (q := 22) dX5_snail_19 mv_X5_tell kL_X5_64 rfl (by decide) rfl ⟨by decide, by decide⟩ (Nat.le_of_ble_eq_true rfl) ⟨by decide, by decide⟩ rfl (c_X5_tell (w := 0) (by decide) hC (by decide)) (fun v9 S9 iv9 hp => ?_)
    obtain ⟨rfl, rfl, hf8, hC8⟩ := hp
    refine J.ireturn dX5_snail_22 rfl ?_
    unfold CP an_snail
    repeat (first | rw [if_pos (by omega)] | rw [if_neg (by omega)])
    first
    | exact ⟨rfl, rfl, hf8, hC8⟩
    | exact ⟨rfl, rfl, fun q hq => (hf8 q hq).trans (hf9 q (by omega)), hC8⟩
    | exact ⟨congrArg (fun z => some (i_ z)) (by omega), rfl, fun q hq => hf9 q (by omega), hC9⟩
    | (exfalso; omega)
  · refine J.iload_n (q := 10) dX5_snail_9 rfl ?_ rfl
    refine J.callS1i (q := 13) dX5_snail_10 mv_X5_isCell kS_X5_isCell kL_X5_55 ⟨by decide, by decide⟩ (Nat.le_of_ble_eq_true rfl) ⟨by decide, by decide⟩ rfl (c_X5_isCell (by omega)) ?_
    refine J.ifb_ne (tgt := 23) (q := 16) dX5_snail_13 rfl rfl (fun c13 => ?_) (fun c13 => ?_)
    · refine J.aload_n (q := 24) dX5_snail_23 rfl ?_ rfl
      refine J.getR (ci := 5) (k0 := 0) (c1 := 1) (q := 27) dX5_snail_24 kF_X5_12 rfl (by decide) (by decide) rfl (by decide) rfl ?_ rfl
      refine J.iload_n (q := 28) dX5_snail_27 rfl ?_ rfl
      refine J.iload_n (q := 29) dX5_snail_28 rfl ?_ rfl
      refine J.callV2 (ci := 1) (q := 32) dX5_snail_29 mv_X1_addSnail kL_X5_88 rfl (by decide) rfl ⟨by decide, by decide⟩ (Nat.le_of_ble_eq_true rfl) ⟨by decide, by decide⟩ rfl (c_X1_addSnail1 hC.r (by omega)) (fun v9 S9 iv9 hp => ?_)
      obtain ⟨rfl, rfl, hf9, hR9⟩ := hp
      obtain ⟨X, hX⟩ : ∃ X : Int, X = (if A 62 2 = 8 then -1 else A 62 2) := ⟨_, rfl⟩
      rw [← hX]
      have hX1 : (A 62 2 = 8 ∧ X = -1) ∨ (¬ A 62 2 = 8 ∧ X = A 62 2) := by
        by_cases h : A 62 2 = 8
        · exact Or.inl ⟨h, by rw [hX, if_pos h]⟩
        · exact Or.inr ⟨h, by rw [hX, if_neg h]⟩
      clear hX
      refine J.istore_n (q := 33) dX5_snail_32 (Nat.le_of_ble_eq_true rfl) ?_ rfl
      refine J.iload_n (q := 34) dX5_snail_33 rfl ?_ rfl
      refine J.if_ge (tgt := 46) (q := 37) (hv := by omega) dX5_snail_34 rfl rfl (fun c34 => ?_) (fun c34 => ?_)
      · rw [if_neg (by omega)] at hR9
        have hC9 : CR iv9 (setr A 62 (addS (A 62) kd c)) := hC.rep hR9 (fun q hq => hf9 q (by omega))
        refine J.iload_n (q := 47) dX5_snail_46 rfl ?_ rfl
        refine J.ireturn dX5_snail_47 rfl ?_
        unfold CP an_snail
        repeat (first | rw [if_pos (by omega)] | rw [if_neg (by omega)])
        first
        | exact ⟨rfl, rfl, hf8, hC8⟩
        | exact ⟨rfl, rfl, fun q hq => (hf8 q hq).trans (hf9 q (by omega)), hC8⟩
        | exact ⟨congrArg (fun z => some (i_ z)) (by omega), rfl, fun q hq => hf9 q (by omega), hC9⟩
        | (exfalso; omega)
      · rw [if_pos (by omega)] at hR9
        have hC9 : CR iv9 A := hC.rep hR9 (fun q hq => hf9 q (by omega))
        refine J.aload_n (q := 38) dX5_snail_37 rfl ?_ rfl
        refine J.ldc (q := 40) (z := -1000002) dX5_snail_38 kK_X5_92 ?_ rfl
        refine J.callV1 (ci := 5) (q := 43) dX5_snail_40 mv_X5_tell kL_X5_64 rfl (by decide) rfl ⟨by decide, by decide⟩ (Nat.le_of_ble_eq_true rfl) ⟨by decide, by decide⟩ rfl (c_X5_tell (w := 1) (by decide) hC9 (by decide)) (fun v7 S7 iv7 hp => ?_)
        obtain ⟨rfl, rfl, hf8, hC8⟩ := hp
        refine J.goto (tgt := 47) dX5_snail_43 rfl ?_
        refine J.ireturn dX5_snail_47 rfl ?_
        unfold CP an_snail
        repeat (first | rw [if_pos (by omega)] | rw [if_neg (by omega)])
        first
        | exact ⟨rfl, rfl, hf8, hC8⟩
        | exact ⟨rfl, rfl, fun q hq => (hf8 q hq).trans (hf9 q (by omega)), hC8⟩
        | exact ⟨congrArg (fun z => some (i_ z)) (by omega), rfl, fun q hq => hf9 q (by omega), hC9⟩
        | (exfalso; omega)
    · refine J.aload_n (q := 17) dX5_snail_16 rfl ?_ rfl
      refine J.ldc (q := 19) (z := -1000001) dX5_snail_17 kK_X5_63 ?_ rfl
      refine J.callV1 (ci := 5) (q := 22) dX5_snail_19 mv_X5_tell kL_X5_64 rfl (by decide) rfl ⟨by decide, by decide⟩ (Nat.le_of_ble_eq_true rfl) ⟨by decide, by decide⟩ rfl (c_X5_tell (w := 0) (by decide) hC (by decide)) (fun v9 S9 iv9 hp => ?_)
      obtain ⟨rfl, rfl, hf8, hC8⟩ := hp
      refine J.ireturn dX5_snail_22 rfl ?_
      unfold CP an_snail
      repeat (first | rw [if_pos (by omega)] | rw [if_neg (by omega)])
      first
      | exact ⟨rfl, rfl, hf8, hC8⟩
      | exact ⟨rfl, rfl, fun q hq => (hf8 q hq).trans (hf9 q (by omega)), hC8⟩
      | exact ⟨congrArg (fun z => some (i_ z)) (by omega), rfl, fun q hq => hf9 q (by omega), hC9⟩
      | (exfalso; omega)

set_option maxRecDepth 100000 in
set_option maxHeartbeats 4000000 in
theorem status5_loop {l : Launch} {F : Nat × (Int → Int)} {iv A : Mm} (hC : CR iv A) : ∀ (n : Nat) (c : Nat), (7 - (c : Int) < n) → ((c : Int) ≤ 7) → J l (yX5_status).cls cX5_status 4 (some FieldType.int) 2 0 0 false F (CP iv (sumZ (A 65) 7, A)) 0 0 33 [some (r_ 0), some (i_ (-1)), some (i_ (sumZ (A 65) c)), some (i_ (c : Int))] [] S0 (iv) := by
  intro n
  induction n with
  | zero =>
    intro c hn hc
    omega
  | succ n ih =>
    intro c hn hc
    refine J.iload_n (q := 34) dX5_status_33 rfl ?_ rfl
    refine J.bipush (q := 36) dX5_status_34 (by decide) ?_ rfl
    refine J.icmp_ge (tgt := 54) (q := 39) dX5_status_36 rfl rfl (fun c36 => ?_) (fun c36 => ?_)
    · refine J.iload_n (q := 55) dX5_status_54 rfl ?_ rfl
      refine J.ireturn dX5_status_55 rfl ?_
      have hc7 : c = 7 := by omega
      subst hc7
      exact ⟨rfl, rfl, fun _ _ => rfl, hC⟩
    · refine J.iload_n (q := 40) dX5_status_39 rfl ?_ rfl
      refine J.aload_n (q := 41) dX5_status_40 rfl ?_ rfl
      refine J.getR (ci := 5) (k0 := 6) (c1 := 60) (q := 44) dX5_status_41 kF_X5_47 rfl (by decide) (by decide) rfl (by decide) rfl ?_ rfl
      refine J.iload_n (q := 45) dX5_status_44 rfl ?_ rfl
      refine J.iald (n := 7) (q := 46) dX5_status_45 rfl (by omega) ?_ rfl
      rw [hC.e _ (by omega) (by omega)]
      refine J.iadd (q := 47) dX5_status_46 ?_ rfl
      refine J.istore_n (q := 48) dX5_status_47 (Nat.le_of_ble_eq_true rfl) ?_ rfl
      refine J.iinc (q := 51) dX5_status_48 rfl ?_ rfl
      refine J.goto (tgt := 33) dX5_status_51 rfl ?_
      exact ih (c + 1) (by omega) (by omega)

set_option maxRecDepth 100000 in
set_option maxHeartbeats 4000000 in
theorem c_X5_status {l : Launch} {F : Nat × (Int → Int)} {iv A : Mm} (hC : CR iv A) (hA : AI A) {w : Int} (hw : -2147483648 ≤ w ∧ w < 2147483648) : Ctr l F 2 0 0 yX5_status cX5_status 4 (some FieldType.int) [r_ 0, i_ w] S0 (iv) (CP iv (an_status A w)) := by
  refine Ctr.of false (fun h => by cases h) (by decide) rfl (Nat.le_of_ble_eq_true rfl) ?_
  have hI := hA.mi
  have hmm := hI.many
  have hkp := hA.kp
  have htp := hA.tp
  refine J.iload_n (q := 1) dX5_status_0 rfl ?_ rfl
  refine J.iconst (q := 2) dX5_status_1 ?_ rfl
  refine J.icmp_lt (tgt := 11) (q := 5) dX5_status_2 rfl rfl (fun c2 => ?_) (fun c2 => ?_)
  · refine J.aload_n (q := 12) dX5_status_11 rfl ?_ rfl
    refine J.ldc (q := 14) (z := -1000001) dX5_status_12 kK_X5_63 ?_ rfl
    refine J.callV1 (ci := 5) (q := 17) dX5_status_14 mv_X5_tell kL_X5_64 rfl (by decide) rfl ⟨by decide, by decide⟩ (Nat.le_of_ble_eq_true rfl) ⟨by decide, by decide⟩ rfl (c_X5_tell (w := 0) (by decide) hC (by decide)) (fun v9 S9 iv9 hp => ?_)
    obtain ⟨rfl, rfl, hf8, hC8⟩ := hp
    refine J.ireturn dX5_status_17 rfl ?_
    unfold CP an_status
    repeat (first | rw [if_pos (by omega)] | rw [if_neg (by omega)])
    first
    | exact ⟨rfl, rfl, hf8, hC8⟩
    | (rcases (show w = 0 ∨ w = 1 ∨ w = 2 ∨ w = 3 ∨ w = 4 ∨ w = 5 ∨ w = 6 by omega) with h | h | h | h | h | h | h <;> subst h <;> exact ⟨congrArg (fun z => some (i_ z)) (by simp [sumZ]), rfl, fun _ _ => rfl, hC⟩)
    | (exfalso; omega)
  · refine J.iload_n (q := 6) dX5_status_5 rfl ?_ rfl
    refine J.bipush (q := 8) dX5_status_6 (by decide) ?_ rfl
    refine J.icmp_lt (tgt := 18) (q := 11) dX5_status_8 rfl rfl (fun c8 => ?_) (fun c8 => ?_)
    · refine J.iload_n (q := 19) dX5_status_18 rfl ?_ rfl
      refine J.if_lt (tgt := 29) (q := 22) dX5_status_19 rfl rfl (fun c19 => ?_) (fun c19 => ?_)
      · refine J.iconst (q := 30) dX5_status_29 ?_ rfl
        refine J.istore_n (q := 31) dX5_status_30 (Nat.le_of_ble_eq_true rfl) ?_ rfl
        refine J.iconst (q := 32) dX5_status_31 ?_ rfl
        refine J.istore_n (q := 33) dX5_status_32 (Nat.le_of_ble_eq_true rfl) ?_ rfl
        have hw1 : w = -1 := by omega
        subst hw1
        refine J.mono ?_ (status5_loop hC 8 0 (by omega) (by omega))
        rintro v S iv2 ⟨h1, h2⟩
        refine ⟨h1.trans ?_, h2⟩
        unfold an_status
        rw [if_pos (by omega)]
        rfl
      · refine J.aload_n (q := 23) dX5_status_22 rfl ?_ rfl
        refine J.getR (ci := 5) (k0 := 6) (c1 := 60) (q := 26) dX5_status_23 kF_X5_47 rfl (by decide) (by decide) rfl (by decide) rfl ?_ rfl
        refine J.iload_n (q := 27) dX5_status_26 rfl ?_ rfl
        refine J.iald (n := 7) (q := 28) dX5_status_27 rfl (by omega) ?_ rfl
        rw [hC.e _ (by omega) (by omega)]
        refine J.ireturn dX5_status_28 rfl ?_
        unfold CP an_status
        repeat (first | rw [if_pos (by omega)] | rw [if_neg (by omega)])
        first
        | exact ⟨rfl, rfl, hf8, hC8⟩
        | (rcases (show w = 0 ∨ w = 1 ∨ w = 2 ∨ w = 3 ∨ w = 4 ∨ w = 5 ∨ w = 6 by omega) with h | h | h | h | h | h | h <;> subst h <;> exact ⟨congrArg (fun z => some (i_ z)) (by simp [sumZ]), rfl, fun _ _ => rfl, hC⟩)
        | (exfalso; omega)
    · refine J.aload_n (q := 12) dX5_status_11 rfl ?_ rfl
      refine J.ldc (q := 14) (z := -1000001) dX5_status_12 kK_X5_63 ?_ rfl
      refine J.callV1 (ci := 5) (q := 17) dX5_status_14 mv_X5_tell kL_X5_64 rfl (by decide) rfl ⟨by decide, by decide⟩ (Nat.le_of_ble_eq_true rfl) ⟨by decide, by decide⟩ rfl (c_X5_tell (w := 0) (by decide) hC (by decide)) (fun v9 S9 iv9 hp => ?_)
      obtain ⟨rfl, rfl, hf8, hC8⟩ := hp
      refine J.ireturn dX5_status_17 rfl ?_
      unfold CP an_status
      repeat (first | rw [if_pos (by omega)] | rw [if_neg (by omega)])
      first
      | exact ⟨rfl, rfl, hf8, hC8⟩
      | (rcases (show w = 0 ∨ w = 1 ∨ w = 2 ∨ w = 3 ∨ w = 4 ∨ w = 5 ∨ w = 6 by omega) with h | h | h | h | h | h | h <;> subst h <;> exact ⟨congrArg (fun z => some (i_ z)) (by simp [sumZ]), rfl, fun _ _ => rfl, hC⟩)
      | (exfalso; omega)

