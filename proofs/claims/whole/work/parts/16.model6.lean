/-! the reference: more of its public methods (printed by wip/whole/m_model6.py) -/
set_option maxRecDepth 100000 in
set_option maxHeartbeats 4000000 in
theorem c_X6_seed {l : Launch} {F : Nat × (Int → Int)} {iv : Mm} (hA : AI iv) {v : Int} (hv : -2147483648 ≤ v ∧ v < 2147483648) : Ctr l F 2 0 0 yX6_seed cX6_seed 3 (some FieldType.int) [r_ 61, i_ v] S0 (iv) (MP iv (an_seed (hi iv) v)) := by
  refine Ctr.of false (fun h => by cases h) (by decide) rfl (Nat.le_of_ble_eq_true rfl) ?_
  have hI := hA.mi
  have hmm := hI.many
  have hkp := hA.kp
  have htp := hA.tp
  refine J.aload_n (q := 1) dX6_seed_0 rfl ?_ rfl
  refine J.getR (ci := 6) (k0 := 0) (c1 := 62) (q := 4) dX6_seed_1 kF_X6_9 rfl (by decide) (by decide) rfl (by decide) rfl ?_ rfl
  refine J.iconst (q := 5) dX6_seed_4 ?_ rfl
  refine J.iald (n := 307) (q := 6) dX6_seed_5 rfl (by omega) ?_ rfl
  refine J.istore_n (q := 7) dX6_seed_6 (Nat.le_of_ble_eq_true rfl) ?_ rfl
  refine J.aload_n (q := 8) dX6_seed_7 rfl ?_ rfl
  refine J.getR (ci := 6) (k0 := 0) (c1 := 62) (q := 11) dX6_seed_8 kF_X6_9 rfl (by decide) (by decide) rfl (by decide) rfl ?_ rfl
  refine J.iconst (q := 12) dX6_seed_11 ?_ rfl
  refine J.iload_n (q := 13) dX6_seed_12 rfl ?_ rfl
  refine J.iast (n := 307) (q := 14) dX6_seed_13 rfl (by omega) ?_ rfl
  refine J.iload_n (q := 15) dX6_seed_14 rfl ?_ rfl
  refine J.ireturn dX6_seed_15 rfl ?_
  unfold MP an_seed
  (try rw [hi_61]); (try rw [hi_62]); (try rw [hi_63]); (try rw [hi_65]); (try rw [hi_70]); (try rw [hi_74]); (try rw [hi_75]); (try rw [hi_76])
  repeat (first | rw [if_pos (by omega)] | rw [if_neg (by omega)])
  first
  | exact ⟨rfl, rfl, fun q hq => by (first | rfl | (repeat rw [up_n _ _ _ (by omega)])), rfl, rfl, rfl, rfl, rfl, rfl, rfl, rfl, rfl⟩
  | (exfalso; omega)

set_option maxRecDepth 100000 in
set_option maxHeartbeats 4000000 in
theorem c_X6_wipe {l : Launch} {F : Nat × (Int → Int)} {iv : Mm} (hA : AI iv) : Ctr l F 2 0 0 yX6_wipe cX6_wipe 2 (some FieldType.int) [r_ 61] S0 (iv) (MP iv (an_wipe (hi iv))) := by
  refine Ctr.of false (fun h => by cases h) (by decide) rfl (Nat.le_of_ble_eq_true rfl) ?_
  have hI := hA.mi
  have hmm := hI.many
  have hkp := hA.kp
  have htp := hA.tp
  refine J.aload_n (q := 1) dX6_wipe_0 rfl ?_ rfl
  refine J.getI (ci := 6) (k0 := 10) (kz := 10) (q := 4) dX6_wipe_1 kF_X6_195 rfl (by decide) (by decide) rfl (.inl rfl) ?_ rfl
  refine J.istore_n (q := 5) dX6_wipe_4 (Nat.le_of_ble_eq_true rfl) ?_ rfl
  refine J.aload_n (q := 6) dX6_wipe_5 rfl ?_ rfl
  refine J.iconst (q := 7) dX6_wipe_6 ?_ rfl
  refine J.putI (ci := 6) (k0 := 10) (kz := 10) (q := 10) dX6_wipe_7 kF_X6_195 rfl (by decide) (by decide) rfl rfl rfl ?_ rfl
  refine J.iload_n (q := 11) dX6_wipe_10 rfl ?_ rfl
  refine J.ireturn dX6_wipe_11 rfl ?_
  unfold MP an_wipe
  (try rw [hi_61]); (try rw [hi_62]); (try rw [hi_63]); (try rw [hi_65]); (try rw [hi_70]); (try rw [hi_74]); (try rw [hi_75]); (try rw [hi_76])
  repeat (first | rw [if_pos (by omega)] | rw [if_neg (by omega)])
  first
  | exact ⟨rfl, rfl, fun q hq => by (first | rfl | (repeat rw [up_n _ _ _ (by omega)])), rfl, rfl, rfl, rfl, rfl, rfl, rfl, rfl, rfl⟩
  | (exfalso; omega)

set_option maxRecDepth 100000 in
set_option maxHeartbeats 4000000 in
theorem c_X6_tear {l : Launch} {F : Nat × (Int → Int)} {iv : Mm} (hA : AI iv) : Ctr l F 2 0 0 yX6_tear cX6_tear 2 (some FieldType.int) [r_ 61] S0 (iv) (MP iv (an_tear (hi iv))) := by
  refine Ctr.of false (fun h => by cases h) (by decide) rfl (Nat.le_of_ble_eq_true rfl) ?_
  have hI := hA.mi
  have hmm := hI.many
  have hkp := hA.kp
  have htp := hA.tp
  refine J.aload_n (q := 1) dX6_tear_0 rfl ?_ rfl
  refine J.getI (ci := 6) (k0 := 3) (kz := 3) (q := 4) dX6_tear_1 kF_X6_253 rfl (by decide) (by decide) rfl (.inr rfl) ?_ rfl
  refine J.if_eq (tgt := 11) (q := 7) dX6_tear_4 rfl rfl (fun c4 => ?_) (fun c4 => ?_)
  · refine J.iconst (q := 12) dX6_tear_11 ?_ rfl
    refine J.istore_n (q := 13) dX6_tear_12 (Nat.le_of_ble_eq_true rfl) ?_ rfl
    refine J.aload_n (q := 14) dX6_tear_13 rfl ?_ rfl
    refine J.iconst (q := 15) dX6_tear_14 ?_ rfl
    refine J.putZ (ci := 6) (k0 := 3) (kz := 3) (q := 18) dX6_tear_15 kF_X6_253 rfl (by decide) (by decide) rfl rfl rfl (by omega) ?_ rfl
    refine J.iload_n (q := 19) dX6_tear_18 rfl ?_ rfl
    refine J.ireturn dX6_tear_19 rfl ?_
    unfold MP an_tear
    (try rw [hi_61]); (try rw [hi_62]); (try rw [hi_63]); (try rw [hi_65]); (try rw [hi_70]); (try rw [hi_74]); (try rw [hi_75]); (try rw [hi_76])
    repeat (first | rw [if_pos (by omega)] | rw [if_neg (by omega)])
    first
    | exact ⟨rfl, rfl, fun q hq => by (first | rfl | (repeat rw [up_n _ _ _ (by omega)])), rfl, rfl, rfl, rfl, rfl, rfl, rfl, rfl, rfl⟩
    | (exfalso; omega)
  · refine J.iconst (q := 8) dX6_tear_7 ?_ rfl
    refine J.goto (tgt := 12) dX6_tear_8 rfl ?_
    refine J.istore_n (q := 13) dX6_tear_12 (Nat.le_of_ble_eq_true rfl) ?_ rfl
    refine J.aload_n (q := 14) dX6_tear_13 rfl ?_ rfl
    refine J.iconst (q := 15) dX6_tear_14 ?_ rfl
    refine J.putZ (ci := 6) (k0 := 3) (kz := 3) (q := 18) dX6_tear_15 kF_X6_253 rfl (by decide) (by decide) rfl rfl rfl (by omega) ?_ rfl
    refine J.iload_n (q := 19) dX6_tear_18 rfl ?_ rfl
    refine J.ireturn dX6_tear_19 rfl ?_
    unfold MP an_tear
    (try rw [hi_61]); (try rw [hi_62]); (try rw [hi_63]); (try rw [hi_65]); (try rw [hi_70]); (try rw [hi_74]); (try rw [hi_75]); (try rw [hi_76])
    repeat (first | rw [if_pos (by omega)] | rw [if_neg (by omega)])
    first
    | exact ⟨rfl, rfl, fun q hq => by (first | rfl | (repeat rw [up_n _ _ _ (by omega)])), rfl, rfl, rfl, rfl, rfl, rfl, rfl, rfl, rfl⟩
    | (exfalso; omega)

set_option maxRecDepth 100000 in
set_option maxHeartbeats 4000000 in
theorem c_X6_hold {l : Launch} {F : Nat × (Int → Int)} {iv : Mm} (hA : AI iv) {p k : Int} (hp : -2147483648 ≤ p ∧ p < 2147483648) (hk : -2147483648 ≤ k ∧ k < 2147483648) : Ctr l F 2 0 0 yX6_hold cX6_hold 3 (some FieldType.int) [r_ 61, i_ p, i_ k] S0 (iv) (MP iv (an_hold (hi iv) p k)) := by
  refine Ctr.of false (fun h => by cases h) (by decide) rfl (Nat.le_of_ble_eq_true rfl) ?_
  have hI := hA.mi
  have hmm := hI.many
  have hkp := hA.kp
  have htp := hA.tp
  refine J.iload_n (q := 1) dX6_hold_0 rfl ?_ rfl
  refine J.callS1i (q := 4) dX6_hold_1 mv_X6_isSpot kS_X6_isSpot kL_X6_247 ⟨by decide, by decide⟩ (Nat.le_of_ble_eq_true rfl) ⟨by decide, by decide⟩ rfl (c_X6_isSpot (by omega)) ?_
  refine J.ifb_eq (tgt := 20) (q := 7) dX6_hold_4 rfl rfl (fun c4 => ?_) (fun c4 => ?_)
  · refine J.aload_n (q := 21) dX6_hold_20 rfl ?_ rfl
    refine J.iconst (q := 22) dX6_hold_21 ?_ rfl
    refine J.callV1i (ci := 6) (q := 25) dX6_hold_22 mv_X6_no kL_X6_125 rfl (by decide) rfl ⟨by decide, by decide⟩ (Nat.le_of_ble_eq_true rfl) ⟨by decide, by decide⟩ rfl (c_X6_no (by omega)) ?_
    refine J.ireturn dX6_hold_25 rfl ?_
    unfold MP an_hold
    (try rw [hi_61]); (try rw [hi_62]); (try rw [hi_63]); (try rw [hi_65]); (try rw [hi_70]); (try rw [hi_74]); (try rw [hi_75]); (try rw [hi_76])
    repeat (first | rw [if_pos (by omega)] | rw [if_neg (by omega)])
    first
    | exact ⟨rfl, rfl, fun q hq => by (first | rfl | (repeat rw [up_n _ _ _ (by omega)])), rfl, rfl, rfl, rfl, rfl, rfl, rfl, rfl, rfl⟩
    | (exfalso; omega)
  · refine J.iload_n (q := 8) dX6_hold_7 rfl ?_ rfl
    refine J.iconst (q := 9) dX6_hold_8 ?_ rfl
    refine J.icmp_eq (tgt := 26) (q := 12) dX6_hold_9 rfl rfl (fun c9 => ?_) (fun c9 => ?_)
    · refine J.aload_n (q := 27) dX6_hold_26 rfl ?_ rfl
      refine J.getR (ci := 6) (k0 := 0) (c1 := 62) (q := 30) dX6_hold_27 kF_X6_9 rfl (by decide) (by decide) rfl (by decide) rfl ?_ rfl
      refine J.sipush (q := 33) dX6_hold_30 (by decide) ?_ rfl
      refine J.iload_n (q := 34) dX6_hold_33 rfl ?_ rfl
      refine J.iadd (q := 35) dX6_hold_34 ?_ rfl
      refine J.iload_n (q := 36) dX6_hold_35 rfl ?_ rfl
      refine J.iast (n := 307) (q := 37) dX6_hold_36 rfl (by omega) ?_ rfl
      refine J.iconst (q := 38) dX6_hold_37 ?_ rfl
      refine J.ireturn dX6_hold_38 rfl ?_
      unfold MP an_hold
      (try rw [hi_61]); (try rw [hi_62]); (try rw [hi_63]); (try rw [hi_65]); (try rw [hi_70]); (try rw [hi_74]); (try rw [hi_75]); (try rw [hi_76])
      repeat (first | rw [if_pos (by omega)] | rw [if_neg (by omega)])
      first
      | exact ⟨rfl, rfl, fun q hq => by (first | rfl | (repeat rw [up_n _ _ _ (by omega)])), rfl, rfl, rfl, rfl, rfl, rfl, rfl, rfl, rfl⟩
      | (exfalso; omega)
    · refine J.aload_n (q := 13) dX6_hold_12 rfl ?_ rfl
      refine J.iload_n (q := 14) dX6_hold_13 rfl ?_ rfl
      refine J.callV1i (ci := 6) (q := 17) dX6_hold_14 mv_X6_isSnail kL_X6_131 rfl (by decide) rfl ⟨by decide, by decide⟩ (Nat.le_of_ble_eq_true rfl) ⟨by decide, by decide⟩ rfl (c_X6_isSnail (by omega) (by omega)) ?_
      refine J.ifb_ne (tgt := 26) (q := 20) dX6_hold_17 rfl rfl (fun c17 => ?_) (fun c17 => ?_)
      · refine J.aload_n (q := 27) dX6_hold_26 rfl ?_ rfl
        refine J.getR (ci := 6) (k0 := 0) (c1 := 62) (q := 30) dX6_hold_27 kF_X6_9 rfl (by decide) (by decide) rfl (by decide) rfl ?_ rfl
        refine J.sipush (q := 33) dX6_hold_30 (by decide) ?_ rfl
        refine J.iload_n (q := 34) dX6_hold_33 rfl ?_ rfl
        refine J.iadd (q := 35) dX6_hold_34 ?_ rfl
        refine J.iload_n (q := 36) dX6_hold_35 rfl ?_ rfl
        refine J.iast (n := 307) (q := 37) dX6_hold_36 rfl (by omega) ?_ rfl
        refine J.iconst (q := 38) dX6_hold_37 ?_ rfl
        refine J.ireturn dX6_hold_38 rfl ?_
        unfold MP an_hold
        (try rw [hi_61]); (try rw [hi_62]); (try rw [hi_63]); (try rw [hi_65]); (try rw [hi_70]); (try rw [hi_74]); (try rw [hi_75]); (try rw [hi_76])
        repeat (first | rw [if_pos (by omega)] | rw [if_neg (by omega)])
        first
        | exact ⟨rfl, rfl, fun q hq => by (first | rfl | (repeat rw [up_n _ _ _ (by omega)])), rfl, rfl, rfl, rfl, rfl, rfl, rfl, rfl, rfl⟩
        | (exfalso; omega)
      · refine J.aload_n (q := 21) dX6_hold_20 rfl ?_ rfl
        refine J.iconst (q := 22) dX6_hold_21 ?_ rfl
        refine J.callV1i (ci := 6) (q := 25) dX6_hold_22 mv_X6_no kL_X6_125 rfl (by decide) rfl ⟨by decide, by decide⟩ (Nat.le_of_ble_eq_true rfl) ⟨by decide, by decide⟩ rfl (c_X6_no (by omega)) ?_
        refine J.ireturn dX6_hold_25 rfl ?_
        unfold MP an_hold
        (try rw [hi_61]); (try rw [hi_62]); (try rw [hi_63]); (try rw [hi_65]); (try rw [hi_70]); (try rw [hi_74]); (try rw [hi_75]); (try rw [hi_76])
        repeat (first | rw [if_pos (by omega)] | rw [if_neg (by omega)])
        first
        | exact ⟨rfl, rfl, fun q hq => by (first | rfl | (repeat rw [up_n _ _ _ (by omega)])), rfl, rfl, rfl, rfl, rfl, rfl, rfl, rfl, rfl⟩
        | (exfalso; omega)

set_option maxRecDepth 100000 in
set_option maxHeartbeats 4000000 in
theorem c_X6_far {l : Launch} {F : Nat × (Int → Int)} {iv : Mm} (hA : AI iv) {x y : Int} (hx : -2147483648 ≤ x ∧ x < 2147483648) (hy : -2147483648 ≤ y ∧ y < 2147483648) : Ctr l F 2 0 0 yX6_far cX6_far 3 (some FieldType.int) [r_ 61, i_ x, i_ y] S0 (iv) (MP iv (an_far (hi iv) x y)) := by
  refine Ctr.of false (fun h => by cases h) (by decide) rfl (Nat.le_of_ble_eq_true rfl) ?_
  have hI := hA.mi
  have hmm := hI.many
  have hkp := hA.kp
  have htp := hA.tp
  refine J.iload_n (q := 1) dX6_far_0 rfl ?_ rfl
  refine J.callS1i (q := 4) dX6_far_1 mv_X6_isCell kS_X6_isCell kL_X6_122 ⟨by decide, by decide⟩ (Nat.le_of_ble_eq_true rfl) ⟨by decide, by decide⟩ rfl (c_X6_isCell (by omega)) ?_
  refine J.ifb_eq (tgt := 14) (q := 7) dX6_far_4 rfl rfl (fun c4 => ?_) (fun c4 => ?_)
  · refine J.aload_n (q := 15) dX6_far_14 rfl ?_ rfl
    refine J.iconst (q := 16) dX6_far_15 ?_ rfl
    refine J.callV1i (ci := 6) (q := 19) dX6_far_16 mv_X6_no kL_X6_125 rfl (by decide) rfl ⟨by decide, by decide⟩ (Nat.le_of_ble_eq_true rfl) ⟨by decide, by decide⟩ rfl (c_X6_no (by omega)) ?_
    refine J.ireturn dX6_far_19 rfl ?_
    unfold MP an_far
    (try rw [hi_61]); (try rw [hi_62]); (try rw [hi_63]); (try rw [hi_65]); (try rw [hi_70]); (try rw [hi_74]); (try rw [hi_75]); (try rw [hi_76])
    repeat (first | rw [if_pos (by omega)] | rw [if_neg (by omega)])
    first
    | exact ⟨rfl, rfl, fun q hq => by (first | rfl | (repeat rw [up_n _ _ _ (by omega)])), rfl, rfl, rfl, rfl, rfl, rfl, rfl, rfl, rfl⟩
    | exact ⟨rfl, rfl, fun q hq => hp1 q (by omega) (by omega) (by omega), hp1 62 (by decide) (by decide) (by decide), hp1 63 (by decide) (by decide) (by decide), hp1 65 (by decide) (by decide) (by decide), hp1 70 (by decide) (by decide) (by decide), hp1 74 (by decide) (by decide) (by decide), hp1 75 (by decide) (by decide) (by decide), hp1 76 (by decide) (by decide) (by decide), by rw [hp1 61 (by decide) (by decide) (by decide)]; rfl, by rw [hp1 61 (by decide) (by decide) (by decide)]; rfl⟩
    | (exfalso; omega)
  · refine J.iload_n (q := 8) dX6_far_7 rfl ?_ rfl
    refine J.callS1i (q := 11) dX6_far_8 mv_X6_isCell kS_X6_isCell kL_X6_122 ⟨by decide, by decide⟩ (Nat.le_of_ble_eq_true rfl) ⟨by decide, by decide⟩ rfl (c_X6_isCell (by omega)) ?_
    refine J.ifb_ne (tgt := 20) (q := 14) dX6_far_11 rfl rfl (fun c11 => ?_) (fun c11 => ?_)
    · refine J.aload_n (q := 21) dX6_far_20 rfl ?_ rfl
      refine J.callV0 (ci := 6) (q := 24) dX6_far_21 mv_X6_barsHedges kL_X6_73 rfl (by decide) rfl ⟨by decide, by decide⟩ (Nat.le_of_ble_eq_true rfl) ⟨by decide, by decide⟩ rfl (c_X6_barsHedges (fun c h1 h2 => (hI.cel c h1 h2).1)) (fun v9 S9 iv9 hp => ?_)
      obtain ⟨rfl, rfl, g1, g2⟩ := hp
      refine J.aload_n (q := 25) dX6_far_24 rfl ?_ rfl
      refine J.iload_n (q := 26) dX6_far_25 rfl ?_ rfl
      refine J.sipush (q := 29) dX6_far_26 (by decide) ?_ rfl
      refine J.callV2 (ci := 6) (q := 32) dX6_far_29 mv_X6_spreads kL_X6_79 rfl (by decide) rfl ⟨by decide, by decide⟩ (Nat.le_of_ble_eq_true rfl) ⟨by decide, by decide⟩ rfl (c_X6_spreads (op := opH (iv 62)) (by omega) (by omega) (fun c h1 h2 => by
        rw [g2 c h1 h2]
        exact opH_b (by omega))) (fun v8 S8 iv8 hp => ?_)
      obtain ⟨rfl, rfl, f1, f2, f3⟩ := hp
      have hp1 : ∀ q, q ≠ 66 → q ≠ 67 → q ≠ 68 → iv8 q = iv q := fun q a1 a2 a3 => (f1 q a1 a2).trans (g1 q a3)
      refine J.aload_n (q := 33) dX6_far_32 rfl ?_ rfl
      refine J.getR (ci := 6) (k0 := 5) (c1 := 66) (q := 36) dX6_far_33 kF_X6_22 rfl (by decide) (by decide) rfl (by decide) rfl ?_ rfl
      refine J.sipush (q := 39) dX6_far_36 (by decide) ?_ rfl
      refine J.iload_n (q := 40) dX6_far_39 rfl ?_ rfl
      refine J.iadd (q := 41) dX6_far_40 ?_ rfl
      refine J.iald (n := 729) (q := 42) dX6_far_41 rfl (by omega) ?_ rfl
      rw [f2 x (by omega) (by omega)]
      refine J.ireturn dX6_far_42 rfl ?_
      unfold MP an_far
      (try rw [hi_61]); (try rw [hi_62]); (try rw [hi_63]); (try rw [hi_65]); (try rw [hi_70]); (try rw [hi_74]); (try rw [hi_75]); (try rw [hi_76])
      repeat (first | rw [if_pos (by omega)] | rw [if_neg (by omega)])
      first
      | exact ⟨rfl, rfl, fun q hq => by (first | rfl | (repeat rw [up_n _ _ _ (by omega)])), rfl, rfl, rfl, rfl, rfl, rfl, rfl, rfl, rfl⟩
      | exact ⟨rfl, rfl, fun q hq => hp1 q (by omega) (by omega) (by omega), hp1 62 (by decide) (by decide) (by decide), hp1 63 (by decide) (by decide) (by decide), hp1 65 (by decide) (by decide) (by decide), hp1 70 (by decide) (by decide) (by decide), hp1 74 (by decide) (by decide) (by decide), hp1 75 (by decide) (by decide) (by decide), hp1 76 (by decide) (by decide) (by decide), by rw [hp1 61 (by decide) (by decide) (by decide)]; rfl, by rw [hp1 61 (by decide) (by decide) (by decide)]; rfl⟩
      | (exfalso; omega)
    · refine J.aload_n (q := 15) dX6_far_14 rfl ?_ rfl
      refine J.iconst (q := 16) dX6_far_15 ?_ rfl
      refine J.callV1i (ci := 6) (q := 19) dX6_far_16 mv_X6_no kL_X6_125 rfl (by decide) rfl ⟨by decide, by decide⟩ (Nat.le_of_ble_eq_true rfl) ⟨by decide, by decide⟩ rfl (c_X6_no (by omega)) ?_
      refine J.ireturn dX6_far_19 rfl ?_
      unfold MP an_far
      (try rw [hi_61]); (try rw [hi_62]); (try rw [hi_63]); (try rw [hi_65]); (try rw [hi_70]); (try rw [hi_74]); (try rw [hi_75]); (try rw [hi_76])
      repeat (first | rw [if_pos (by omega)] | rw [if_neg (by omega)])
      first
      | exact ⟨rfl, rfl, fun q hq => by (first | rfl | (repeat rw [up_n _ _ _ (by omega)])), rfl, rfl, rfl, rfl, rfl, rfl, rfl, rfl, rfl⟩
      | exact ⟨rfl, rfl, fun q hq => hp1 q (by omega) (by omega) (by omega), hp1 62 (by decide) (by decide) (by decide), hp1 63 (by decide) (by decide) (by decide), hp1 65 (by decide) (by decide) (by decide), hp1 70 (by decide) (by decide) (by decide), hp1 74 (by decide) (by decide) (by decide), hp1 75 (by decide) (by decide) (by decide), hp1 76 (by decide) (by decide) (by decide), by rw [hp1 61 (by decide) (by decide) (by decide)]; rfl, by rw [hp1 61 (by decide) (by decide) (by decide)]; rfl⟩
      | (exfalso; omega)

set_option maxRecDepth 100000 in
set_option maxHeartbeats 4000000 in
theorem route_loop {l : Launch} {F : Nat × (Int → Int)} {iv : Mm} (hA : AI iv) {x y w : Int} (hx : 0 ≤ x ∧ x ≤ 80) (hy : 0 ≤ y ∧ y ≤ 80) (hw : 0 ≤ w ∧ w ≤ 7) : ∀ (n : Nat) (k : Int) (iv1 : Mm), (81 - k < n) → (0 ≤ k ∧ k ≤ 81) → (∀ q, q ≠ 68 → iv1 q = iv q) → (∀ j, 0 ≤ j → j < k → iv1 68 j = (if opD (iv 62) w j = true then 0 else 1)) → J l (yX6_route).cls cX6_route 5 (some FieldType.int) 3 0 0 false F (MP iv (an_route (hi iv) x y w)) 0 0 30 [some (r_ 61), some (i_ x), some (i_ y), some (i_ w), some (i_ k)] [] S0 (iv1) := by
  intro n
  induction n with
  | zero =>
    intro k iv1 hn hk hfr hcp
    omega
  | succ n ih =>
    intro k iv1 hn hk hfr hcp
    have hI := hA.mi
    have hmm := hI.many
    have hkp := hA.kp
    have htp := hA.tp
    have e62 := hfr 62 (by decide)
    have hI1 : MI 99999 (iv1 62) := by rw [e62]; exact hI
    refine J.iload (q := 32) dX6_route_30 rfl ?_ rfl
    refine J.bipush (q := 34) dX6_route_32 (by decide) ?_ rfl
    refine J.icmp_ge (tgt := 74) (q := 37) dX6_route_34 rfl rfl (fun c34 => ?_) (fun c34 => ?_)
    · refine J.aload_n (q := 75) dX6_route_74 rfl ?_ rfl
      refine J.iload_n (q := 76) dX6_route_75 rfl ?_ rfl
      refine J.sipush (q := 79) dX6_route_76 (by decide) ?_ rfl
      refine J.callV2 (ci := 6) (q := 82) dX6_route_79 mv_X6_spreads kL_X6_79 rfl (by decide) rfl ⟨by decide, by decide⟩ (Nat.le_of_ble_eq_true rfl) ⟨by decide, by decide⟩ rfl (c_X6_spreads (op := opD (iv 62) w) (by omega) (by omega) (fun c h1 h2 => hcp c h1 (by omega))) (fun v8 S8 iv8 hp => ?_)
      obtain ⟨rfl, rfl, f1, f2, f3⟩ := hp
      have hp1 : ∀ q, q ≠ 66 → q ≠ 67 → q ≠ 68 → iv8 q = iv q := fun q a1 a2 a3 => (f1 q a1 a2).trans (hfr q a3)
      have hdr := dst_rng (op := opD (iv 62) w) hy x
      refine J.aload_n (q := 83) dX6_route_82 rfl ?_ rfl
      refine J.getR (ci := 6) (k0 := 5) (c1 := 66) (q := 86) dX6_route_83 kF_X6_22 rfl (by decide) (by decide) rfl (by decide) rfl ?_ rfl
      refine J.sipush (q := 89) dX6_route_86 (by decide) ?_ rfl
      refine J.iload_n (q := 90) dX6_route_89 rfl ?_ rfl
      refine J.iadd (q := 91) dX6_route_90 ?_ rfl
      refine J.iald (n := 729) (q := 92) dX6_route_91 rfl (by omega) ?_ rfl
      rw [f2 x (by omega) (by omega)]
      refine J.istore (q := 94) dX6_route_92 (Nat.le_of_ble_eq_true rfl) ?_ rfl
      refine J.iload (q := 96) dX6_route_94 rfl ?_ rfl
      refine J.bipush (q := 98) dX6_route_96 (by decide) ?_ rfl
      refine J.icmp_ne (tgt := 109) (q := 101) dX6_route_98 rfl rfl (fun c98 => ?_) (fun c98 => ?_)
      · refine J.iload (q := 111) dX6_route_109 rfl ?_ rfl
        refine J.ireturn dX6_route_111 rfl ?_
        unfold MP an_route
        (try rw [hi_61]); (try rw [hi_62]); (try rw [hi_63]); (try rw [hi_65]); (try rw [hi_70]); (try rw [hi_74]); (try rw [hi_75]); (try rw [hi_76])
        repeat (first | rw [if_pos (by omega)] | rw [if_neg (by omega)])
        first
        | exact ⟨rfl, rfl, fun q hq => by (first | rfl | (repeat rw [up_n _ _ _ (by omega)])), rfl, rfl, rfl, rfl, rfl, rfl, rfl, rfl, rfl⟩
        | exact ⟨rfl, rfl, fun q hq => hp1 q (by omega) (by omega) (by omega), hp1 62 (by decide) (by decide) (by decide), hp1 63 (by decide) (by decide) (by decide), hp1 65 (by decide) (by decide) (by decide), hp1 70 (by decide) (by decide) (by decide), hp1 74 (by decide) (by decide) (by decide), hp1 75 (by decide) (by decide) (by decide), hp1 76 (by decide) (by decide) (by decide), by rw [hp1 61 (by decide) (by decide) (by decide)]; rfl, by rw [hp1 61 (by decide) (by decide) (by decide)]; rfl⟩
        | exact ⟨rfl, rfl, fun q hq => (up_n _ _ _ (by omega)).trans (hp1 q (by omega) (by omega) (by omega)), (up_n _ _ _ (by decide)).trans (hp1 62 (by decide) (by decide) (by decide)), (up_n _ _ _ (by decide)).trans (hp1 63 (by decide) (by decide) (by decide)), by rw [up_s, hp1 65 (by decide) (by decide) (by decide)]; rfl, (up_n _ _ _ (by decide)).trans (hp1 70 (by decide) (by decide) (by decide)), (up_n _ _ _ (by decide)).trans (hp1 74 (by decide) (by decide) (by decide)), (up_n _ _ _ (by decide)).trans (hp1 75 (by decide) (by decide) (by decide)), (up_n _ _ _ (by decide)).trans (hp1 76 (by decide) (by decide) (by decide)), by rw [up_n _ _ _ (by decide), hp1 61 (by decide) (by decide) (by decide)]; rfl, by rw [up_n _ _ _ (by decide), hp1 61 (by decide) (by decide) (by decide)]; rfl⟩
        | (exfalso; omega)
      · refine J.aload_n (q := 102) dX6_route_101 rfl ?_ rfl
        refine J.iconst (q := 103) dX6_route_102 ?_ rfl
        refine J.callV1i (ci := 6) (q := 106) dX6_route_103 mv_X6_no kL_X6_125 rfl (by decide) rfl ⟨by decide, by decide⟩ (Nat.le_of_ble_eq_true rfl) ⟨by decide, by decide⟩ rfl (c_X6_no (by omega)) ?_
        refine J.goto (tgt := 111) dX6_route_106 rfl ?_
        refine J.ireturn dX6_route_111 rfl ?_
        unfold MP an_route
        (try rw [hi_61]); (try rw [hi_62]); (try rw [hi_63]); (try rw [hi_65]); (try rw [hi_70]); (try rw [hi_74]); (try rw [hi_75]); (try rw [hi_76])
        repeat (first | rw [if_pos (by omega)] | rw [if_neg (by omega)])
        first
        | exact ⟨rfl, rfl, fun q hq => by (first | rfl | (repeat rw [up_n _ _ _ (by omega)])), rfl, rfl, rfl, rfl, rfl, rfl, rfl, rfl, rfl⟩
        | exact ⟨rfl, rfl, fun q hq => hp1 q (by omega) (by omega) (by omega), hp1 62 (by decide) (by decide) (by decide), hp1 63 (by decide) (by decide) (by decide), hp1 65 (by decide) (by decide) (by decide), hp1 70 (by decide) (by decide) (by decide), hp1 74 (by decide) (by decide) (by decide), hp1 75 (by decide) (by decide) (by decide), hp1 76 (by decide) (by decide) (by decide), by rw [hp1 61 (by decide) (by decide) (by decide)]; rfl, by rw [hp1 61 (by decide) (by decide) (by decide)]; rfl⟩
        | exact ⟨rfl, rfl, fun q hq => (up_n _ _ _ (by omega)).trans (hp1 q (by omega) (by omega) (by omega)), (up_n _ _ _ (by decide)).trans (hp1 62 (by decide) (by decide) (by decide)), (up_n _ _ _ (by decide)).trans (hp1 63 (by decide) (by decide) (by decide)), by rw [up_s, hp1 65 (by decide) (by decide) (by decide)]; rfl, (up_n _ _ _ (by decide)).trans (hp1 70 (by decide) (by decide) (by decide)), (up_n _ _ _ (by decide)).trans (hp1 74 (by decide) (by decide) (by decide)), (up_n _ _ _ (by decide)).trans (hp1 75 (by decide) (by decide) (by decide)), (up_n _ _ _ (by decide)).trans (hp1 76 (by decide) (by decide) (by decide)), by rw [up_n _ _ _ (by decide), hp1 61 (by decide) (by decide) (by decide)]; rfl, by rw [up_n _ _ _ (by decide), hp1 61 (by decide) (by decide) (by decide)]; rfl⟩
        | (exfalso; omega)
    · refine J.aload_n (q := 38) dX6_route_37 rfl ?_ rfl
      refine J.getR (ci := 6) (k0 := 7) (c1 := 68) (q := 41) dX6_route_38 kF_X6_28 rfl (by decide) (by decide) rfl (by decide) rfl ?_ rfl
      refine J.iload (q := 43) dX6_route_41 rfl ?_ rfl
      refine J.aload_n (q := 44) dX6_route_43 rfl ?_ rfl
      refine J.iload (q := 46) dX6_route_44 rfl ?_ rfl
      have hcl := hI.cel k (by omega) (by omega)
      refine J.callV1i (ci := 6) (q := 49) dX6_route_46 mv_X6_isHedge kL_X6_69 rfl (by decide) rfl ⟨by decide, by decide⟩ (Nat.le_of_ble_eq_true rfl) ⟨by decide, by decide⟩ rfl (c_X6_isHedge (by omega) (by rw [e62]; omega)) ?_
      rw [e62]
      refine J.ifb_ne (tgt := 62) (q := 52) dX6_route_49 rfl rfl (fun c49 => ?_) (fun c49 => ?_)
      · have hop : (if opD (iv 62) w k = true then (0 : Int) else 1) = 1 := if_neg (fun z => (of_decide_eq_true z).1 c49)
        refine J.iconst (q := 63) dX6_route_62 ?_ rfl
        refine J.goto (tgt := 67) dX6_route_63 rfl ?_
        refine J.zast (n := 81) (q := 68) dX6_route_67 rfl (by omega) (by omega) ?_ rfl
        refine J.iinc (q := 71) dX6_route_68 rfl ?_ rfl
        refine J.goto (tgt := 30) dX6_route_71 rfl ?_
        refine ih (k + 1) _ (by omega) (by omega) (fun q hq => ?_) (fun j h0 h1 => ?_)
        · rw [up_n _ _ _ hq]; exact hfr q hq
        · rw [up_s]
          by_cases hj : j = k
          · subst hj; rw [upr_s, hop]
          · rw [upr_n _ _ hj]; exact hcp j h0 (by omega)
      · refine J.aload_n (q := 53) dX6_route_52 rfl ?_ rfl
        refine J.iload (q := 55) dX6_route_53 rfl ?_ rfl
        refine J.iload_n (q := 56) dX6_route_55 rfl ?_ rfl
        refine J.callV2i (ci := 6) (q := 59) dX6_route_56 mv_X6_isLawful kL_X6_149 rfl (by decide) rfl ⟨by decide, by decide⟩ (Nat.le_of_ble_eq_true rfl) ⟨by decide, by decide⟩ rfl (c_X6_isLawful (show (99999 : Int) ≤ 200000 by omega) hI1 (by omega) (by omega)) ?_
        rw [e62]
        refine J.ifb_ne (tgt := 66) (q := 62) dX6_route_59 rfl rfl (fun c59 => ?_) (fun c59 => ?_)
        · have hop : (if opD (iv 62) w k = true then (0 : Int) else 1) = 0 := if_pos (decide_eq_true ⟨c49, c59⟩)
          refine J.iconst (q := 67) dX6_route_66 ?_ rfl
          refine J.zast (n := 81) (q := 68) dX6_route_67 rfl (by omega) (by omega) ?_ rfl
          refine J.iinc (q := 71) dX6_route_68 rfl ?_ rfl
          refine J.goto (tgt := 30) dX6_route_71 rfl ?_
          refine ih (k + 1) _ (by omega) (by omega) (fun q hq => ?_) (fun j h0 h1 => ?_)
          · rw [up_n _ _ _ hq]; exact hfr q hq
          · rw [up_s]
            by_cases hj : j = k
            · subst hj; rw [upr_s, hop]
            · rw [upr_n _ _ hj]; exact hcp j h0 (by omega)
        · have hop : (if opD (iv 62) w k = true then (0 : Int) else 1) = 1 := if_neg (fun z => c59 (of_decide_eq_true z).2)
          refine J.iconst (q := 63) dX6_route_62 ?_ rfl
          refine J.goto (tgt := 67) dX6_route_63 rfl ?_
          refine J.zast (n := 81) (q := 68) dX6_route_67 rfl (by omega) (by omega) ?_ rfl
          refine J.iinc (q := 71) dX6_route_68 rfl ?_ rfl
          refine J.goto (tgt := 30) dX6_route_71 rfl ?_
          refine ih (k + 1) _ (by omega) (by omega) (fun q hq => ?_) (fun j h0 h1 => ?_)
          · rw [up_n _ _ _ hq]; exact hfr q hq
          · rw [up_s]
            by_cases hj : j = k
            · subst hj; rw [upr_s, hop]
            · rw [upr_n _ _ hj]; exact hcp j h0 (by omega)

set_option maxRecDepth 100000 in
set_option maxHeartbeats 4000000 in
theorem c_X6_route {l : Launch} {F : Nat × (Int → Int)} {iv : Mm} (hA : AI iv) {x y w : Int} (hx : -2147483648 ≤ x ∧ x < 2147483648) (hy : -2147483648 ≤ y ∧ y < 2147483648) (hw : -2147483648 ≤ w ∧ w < 2147483648) : Ctr l F 3 0 0 yX6_route cX6_route 5 (some FieldType.int) [r_ 61, i_ x, i_ y, i_ w] S0 (iv) (MP iv (an_route (hi iv) x y w)) := by
  refine Ctr.of false (fun h => by cases h) (by decide) rfl (Nat.le_of_ble_eq_true rfl) ?_
  have hI := hA.mi
  have hmm := hI.many
  have hkp := hA.kp
  have htp := hA.tp
  refine J.iload_n (q := 1) dX6_route_0 rfl ?_ rfl
  refine J.callS1i (q := 4) dX6_route_1 mv_X6_isCell kS_X6_isCell kL_X6_122 ⟨by decide, by decide⟩ (Nat.le_of_ble_eq_true rfl) ⟨by decide, by decide⟩ rfl (c_X6_isCell (by omega)) ?_
  refine J.ifb_eq (tgt := 21) (q := 7) dX6_route_4 rfl rfl (fun c4 => ?_) (fun c4 => ?_)
  · refine J.aload_n (q := 22) dX6_route_21 rfl ?_ rfl
    refine J.iconst (q := 23) dX6_route_22 ?_ rfl
    refine J.callV1i (ci := 6) (q := 26) dX6_route_23 mv_X6_no kL_X6_125 rfl (by decide) rfl ⟨by decide, by decide⟩ (Nat.le_of_ble_eq_true rfl) ⟨by decide, by decide⟩ rfl (c_X6_no (by omega)) ?_
    refine J.ireturn dX6_route_26 rfl ?_
    unfold MP an_route
    (try rw [hi_61]); (try rw [hi_62]); (try rw [hi_63]); (try rw [hi_65]); (try rw [hi_70]); (try rw [hi_74]); (try rw [hi_75]); (try rw [hi_76])
    repeat (first | rw [if_pos (by omega)] | rw [if_neg (by omega)])
    first
    | exact ⟨rfl, rfl, fun q hq => by (first | rfl | (repeat rw [up_n _ _ _ (by omega)])), rfl, rfl, rfl, rfl, rfl, rfl, rfl, rfl, rfl⟩
    | (exfalso; omega)
  · refine J.iload_n (q := 8) dX6_route_7 rfl ?_ rfl
    refine J.callS1i (q := 11) dX6_route_8 mv_X6_isCell kS_X6_isCell kL_X6_122 ⟨by decide, by decide⟩ (Nat.le_of_ble_eq_true rfl) ⟨by decide, by decide⟩ rfl (c_X6_isCell (by omega)) ?_
    refine J.ifb_eq (tgt := 21) (q := 14) dX6_route_11 rfl rfl (fun c11 => ?_) (fun c11 => ?_)
    · refine J.aload_n (q := 22) dX6_route_21 rfl ?_ rfl
      refine J.iconst (q := 23) dX6_route_22 ?_ rfl
      refine J.callV1i (ci := 6) (q := 26) dX6_route_23 mv_X6_no kL_X6_125 rfl (by decide) rfl ⟨by decide, by decide⟩ (Nat.le_of_ble_eq_true rfl) ⟨by decide, by decide⟩ rfl (c_X6_no (by omega)) ?_
      refine J.ireturn dX6_route_26 rfl ?_
      unfold MP an_route
      (try rw [hi_61]); (try rw [hi_62]); (try rw [hi_63]); (try rw [hi_65]); (try rw [hi_70]); (try rw [hi_74]); (try rw [hi_75]); (try rw [hi_76])
      repeat (first | rw [if_pos (by omega)] | rw [if_neg (by omega)])
      first
      | exact ⟨rfl, rfl, fun q hq => by (first | rfl | (repeat rw [up_n _ _ _ (by omega)])), rfl, rfl, rfl, rfl, rfl, rfl, rfl, rfl, rfl⟩
      | (exfalso; omega)
    · refine J.iload_n (q := 15) dX6_route_14 rfl ?_ rfl
      refine J.callS1i (q := 18) dX6_route_15 mv_X6_isDeed kS_X6_isDeed kL_X6_146 ⟨by decide, by decide⟩ (Nat.le_of_ble_eq_true rfl) ⟨by decide, by decide⟩ rfl (c_X6_isDeed (by omega)) ?_
      refine J.ifb_ne (tgt := 27) (q := 21) dX6_route_18 rfl rfl (fun c18 => ?_) (fun c18 => ?_)
      · refine J.iconst (q := 28) dX6_route_27 ?_ rfl
        refine J.istore (q := 30) dX6_route_28 (Nat.le_of_ble_eq_true rfl) ?_ rfl
        exact route_loop hA (by omega) (by omega) (by omega) 82 0 iv (by omega) (by omega) (fun _ _ => rfl) (fun j h0 h1 => by omega)
      · refine J.aload_n (q := 22) dX6_route_21 rfl ?_ rfl
        refine J.iconst (q := 23) dX6_route_22 ?_ rfl
        refine J.callV1i (ci := 6) (q := 26) dX6_route_23 mv_X6_no kL_X6_125 rfl (by decide) rfl ⟨by decide, by decide⟩ (Nat.le_of_ble_eq_true rfl) ⟨by decide, by decide⟩ rfl (c_X6_no (by omega)) ?_
        refine J.ireturn dX6_route_26 rfl ?_
        unfold MP an_route
        (try rw [hi_61]); (try rw [hi_62]); (try rw [hi_63]); (try rw [hi_65]); (try rw [hi_70]); (try rw [hi_74]); (try rw [hi_75]); (try rw [hi_76])
        repeat (first | rw [if_pos (by omega)] | rw [if_neg (by omega)])
        first
        | exact ⟨rfl, rfl, fun q hq => by (first | rfl | (repeat rw [up_n _ _ _ (by omega)])), rfl, rfl, rfl, rfl, rfl, rfl, rfl, rfl, rfl⟩
        | (exfalso; omega)

set_option maxRecDepth 100000 in
set_option maxHeartbeats 4000000 in
theorem count2_loop {l : Launch} {F : Nat × (Int → Int)} {iv : Mm} (hA : AI iv) : ∀ (n : Nat) (c : Nat), (81 - (c : Int) < n) → ((c : Int) ≤ 81) → J l (yX6_count).cls cX6_count 4 (some FieldType.int) 2 0 0 false F (MP iv (sumZ (fun c => iv 62 (14 + c)) 81, hi iv)) 0 0 64 [some (r_ 61), some (i_ 2), some (i_ (sumZ (fun c => iv 62 (14 + c)) c)), some (i_ (c : Int))] [] S0 (iv) := by
  intro n
  induction n with
  | zero =>
    intro c hn hc
    omega
  | succ n ih =>
    intro c hn hc
    have hI := hA.mi
    have hmm := hI.many
    have hkp := hA.kp
    have htp := hA.tp
    refine J.iload_n (q := 65) dX6_count_64 rfl ?_ rfl
    refine J.bipush (q := 67) dX6_count_65 (by decide) ?_ rfl
    refine J.icmp_ge (tgt := 88) (q := 70) dX6_count_67 rfl rfl (fun c67 => ?_) (fun c67 => ?_)
    · refine J.iload_n (q := 89) dX6_count_88 rfl ?_ rfl
      refine J.ireturn dX6_count_89 rfl ?_
      have hc81 : c = 81 := by omega
      subst hc81
      exact ⟨rfl, rfl, fun _ _ => rfl, rfl, rfl, rfl, rfl, rfl, rfl, rfl, rfl, rfl⟩
    · refine J.iload_n (q := 71) dX6_count_70 rfl ?_ rfl
      refine J.aload_n (q := 72) dX6_count_71 rfl ?_ rfl
      refine J.getR (ci := 6) (k0 := 0) (c1 := 62) (q := 75) dX6_count_72 kF_X6_9 rfl (by decide) (by decide) rfl (by decide) rfl ?_ rfl
      refine J.bipush (q := 77) dX6_count_75 (by decide) ?_ rfl
      refine J.iload_n (q := 78) dX6_count_77 rfl ?_ rfl
      refine J.iadd (q := 79) dX6_count_78 ?_ rfl
      refine J.iald (n := 307) (q := 80) dX6_count_79 rfl (by omega) ?_ rfl
      refine J.iadd (q := 81) dX6_count_80 ?_ rfl
      refine J.istore_n (q := 82) dX6_count_81 (Nat.le_of_ble_eq_true rfl) ?_ rfl
      have he : (fun c => iv 62 (14 + c)) (c : Int) = iv 62 (14 + c) := rfl
      refine J.iinc (q := 85) dX6_count_82 rfl ?_ rfl
      refine J.goto (tgt := 64) dX6_count_85 rfl ?_
      have e2 : sumZ (fun c => iv 62 (14 + c)) (c + 1) = sumZ (fun c => iv 62 (14 + c)) c + (fun c => iv 62 (14 + c)) (c : Int) := rfl
      rw [he] at e2
      refine J.eql (by rw [← e2]; rfl) (ih (c + 1) (by omega) (by omega))

set_option maxRecDepth 100000 in
set_option maxHeartbeats 4000000 in
theorem count7_loop {l : Launch} {F : Nat × (Int → Int)} {iv : Mm} (hA : AI iv) : ∀ (n : Nat) (c : Nat), (10 - (c : Int) < n) → ((c : Int) ≤ 10) → J l (yX6_count).cls cX6_count 4 (some FieldType.int) 2 0 0 false F (MP iv (sumZ (fun k => b2 (0 ≤ iv 62 (297 + k))) 10, hi iv)) 0 0 116 [some (r_ 61), some (i_ 7), some (i_ (sumZ (fun k => b2 (0 ≤ iv 62 (297 + k))) c)), some (i_ (c : Int))] [] S0 (iv) := by
  intro n
  induction n with
  | zero =>
    intro c hn hc
    omega
  | succ n ih =>
    intro c hn hc
    have hI := hA.mi
    have hmm := hI.many
    have hkp := hA.kp
    have htp := hA.tp
    refine J.iload_n (q := 117) dX6_count_116 rfl ?_ rfl
    refine J.bipush (q := 119) dX6_count_117 (by decide) ?_ rfl
    refine J.icmp_ge (tgt := 149) (q := 122) dX6_count_119 rfl rfl (fun c119 => ?_) (fun c119 => ?_)
    · refine J.iload_n (q := 150) dX6_count_149 rfl ?_ rfl
      refine J.ireturn dX6_count_150 rfl ?_
      have hc81 : c = 10 := by omega
      subst hc81
      exact ⟨rfl, rfl, fun _ _ => rfl, rfl, rfl, rfl, rfl, rfl, rfl, rfl, rfl, rfl⟩
    · refine J.iload_n (q := 123) dX6_count_122 rfl ?_ rfl
      refine J.aload_n (q := 124) dX6_count_123 rfl ?_ rfl
      refine J.getR (ci := 6) (k0 := 0) (c1 := 62) (q := 127) dX6_count_124 kF_X6_9 rfl (by decide) (by decide) rfl (by decide) rfl ?_ rfl
      refine J.sipush (q := 130) dX6_count_127 (by decide) ?_ rfl
      refine J.iload_n (q := 131) dX6_count_130 rfl ?_ rfl
      refine J.iadd (q := 132) dX6_count_131 ?_ rfl
      refine J.iald (n := 307) (q := 133) dX6_count_132 rfl (by omega) ?_ rfl
      have hsp := hI.spo c (by omega) (by omega)
      refine J.if_lt (tgt := 140) (q := 136) dX6_count_133 rfl rfl (fun c133 => ?_) (fun c133 => ?_)
      · have he : (fun k => b2 (0 ≤ iv 62 (297 + k))) (c : Int) = 0 := b2_f (by omega)
        refine J.iconst (q := 141) dX6_count_140 ?_ rfl
        refine J.iadd (q := 142) dX6_count_141 ?_ rfl
        refine J.istore_n (q := 143) dX6_count_142 (Nat.le_of_ble_eq_true rfl) ?_ rfl
        refine J.iinc (q := 146) dX6_count_143 rfl ?_ rfl
        refine J.goto (tgt := 116) dX6_count_146 rfl ?_
        have e2 : sumZ (fun k => b2 (0 ≤ iv 62 (297 + k))) (c + 1) = sumZ (fun k => b2 (0 ≤ iv 62 (297 + k))) c + (fun k => b2 (0 ≤ iv 62 (297 + k))) (c : Int) := rfl
        rw [he] at e2
        refine J.eql (by rw [← e2]; rfl) (ih (c + 1) (by omega) (by omega))
      · have he : (fun k => b2 (0 ≤ iv 62 (297 + k))) (c : Int) = 1 := b2_t (by omega)
        refine J.iconst (q := 137) dX6_count_136 ?_ rfl
        refine J.goto (tgt := 141) dX6_count_137 rfl ?_
        refine J.iadd (q := 142) dX6_count_141 ?_ rfl
        refine J.istore_n (q := 143) dX6_count_142 (Nat.le_of_ble_eq_true rfl) ?_ rfl
        refine J.iinc (q := 146) dX6_count_143 rfl ?_ rfl
        refine J.goto (tgt := 116) dX6_count_146 rfl ?_
        have e2 : sumZ (fun k => b2 (0 ≤ iv 62 (297 + k))) (c + 1) = sumZ (fun k => b2 (0 ≤ iv 62 (297 + k))) c + (fun k => b2 (0 ≤ iv 62 (297 + k))) (c : Int) := rfl
        rw [he] at e2
        refine J.eql (by rw [← e2]; rfl) (ih (c + 1) (by omega) (by omega))

set_option maxRecDepth 100000 in
set_option maxHeartbeats 4000000 in
theorem c_X6_count {l : Launch} {F : Nat × (Int → Int)} {iv : Mm} (hA : AI iv) {w : Int} (hw : -2147483648 ≤ w ∧ w < 2147483648) : Ctr l F 2 0 0 yX6_count cX6_count 4 (some FieldType.int) [r_ 61, i_ w] S0 (iv) (MP iv (an_count (hi iv) w)) := by
  refine Ctr.of false (fun h => by cases h) (by decide) rfl (Nat.le_of_ble_eq_true rfl) ?_
  have hI := hA.mi
  have hmm := hI.many
  have hkp := hA.kp
  have htp := hA.tp
  refine J.iconst (q := 1) dX6_count_0 ?_ rfl
  refine J.istore_n (q := 2) dX6_count_1 (Nat.le_of_ble_eq_true rfl) ?_ rfl
  refine J.iload_n (q := 3) dX6_count_2 rfl ?_ rfl
  rcases (show (w < 0 ∨ 7 < w) ∨ w = 0 ∨ w = 1 ∨ w = 2 ∨ w = 3 ∨ w = 4 ∨ w = 5 ∨ w = 6 ∨ w = 7 by omega) with hO | hx3 | hx3 | hx3 | hx3 | hx3 | hx3 | hx3 | hx3
  · refine J.tabOut (tgt := 151) dX6_count_3 (by omega) hO rfl ?_
    refine J.aload_n (q := 152) dX6_count_151 rfl ?_ rfl
    refine J.iconst (q := 153) dX6_count_152 ?_ rfl
    refine J.callV1i (ci := 6) (q := 156) dX6_count_153 mv_X6_no kL_X6_125 rfl (by decide) rfl ⟨by decide, by decide⟩ (Nat.le_of_ble_eq_true rfl) ⟨by decide, by decide⟩ rfl (c_X6_no (by omega)) ?_
    refine J.ireturn dX6_count_156 rfl ?_
    unfold MP an_count
    (try rw [hi_61]); (try rw [hi_62]); (try rw [hi_63]); (try rw [hi_65]); (try rw [hi_70]); (try rw [hi_74]); (try rw [hi_75]); (try rw [hi_76])
    repeat (first | rw [if_pos (by omega)] | rw [if_neg (by omega)])
    first
    | exact ⟨rfl, rfl, fun q hq => by (first | rfl | (repeat rw [up_n _ _ _ (by omega)])), rfl, rfl, rfl, rfl, rfl, rfl, rfl, rfl, rfl⟩
    | (exfalso; omega)
  · refine J.tabIn (off := 45) (tgt := 48) dX6_count_3 (by omega) (by omega) (by omega) (by rw [hx3]; rfl) rfl ?_
    refine J.aload_n (q := 49) dX6_count_48 rfl ?_ rfl
    refine J.getR (ci := 6) (k0 := 0) (c1 := 62) (q := 52) dX6_count_49 kF_X6_9 rfl (by decide) (by decide) rfl (by decide) rfl ?_ rfl
    refine J.iconst (q := 53) dX6_count_52 ?_ rfl
    refine J.iald (n := 307) (q := 54) dX6_count_53 rfl (by omega) ?_ rfl
    refine J.ireturn dX6_count_54 rfl ?_
    unfold MP an_count
    (try rw [hi_61]); (try rw [hi_62]); (try rw [hi_63]); (try rw [hi_65]); (try rw [hi_70]); (try rw [hi_74]); (try rw [hi_75]); (try rw [hi_76])
    repeat (first | rw [if_pos (by omega)] | rw [if_neg (by omega)])
    first
    | exact ⟨rfl, rfl, fun q hq => by (first | rfl | (repeat rw [up_n _ _ _ (by omega)])), rfl, rfl, rfl, rfl, rfl, rfl, rfl, rfl, rfl⟩
    | (exfalso; omega)
  · refine J.tabIn (off := 52) (tgt := 55) dX6_count_3 (by omega) (by omega) (by omega) (by rw [hx3]; rfl) rfl ?_
    refine J.aload_n (q := 56) dX6_count_55 rfl ?_ rfl
    refine J.getR (ci := 6) (k0 := 0) (c1 := 62) (q := 59) dX6_count_56 kF_X6_9 rfl (by decide) (by decide) rfl (by decide) rfl ?_ rfl
    refine J.iconst (q := 60) dX6_count_59 ?_ rfl
    refine J.iald (n := 307) (q := 61) dX6_count_60 rfl (by omega) ?_ rfl
    refine J.ireturn dX6_count_61 rfl ?_
    unfold MP an_count
    (try rw [hi_61]); (try rw [hi_62]); (try rw [hi_63]); (try rw [hi_65]); (try rw [hi_70]); (try rw [hi_74]); (try rw [hi_75]); (try rw [hi_76])
    repeat (first | rw [if_pos (by omega)] | rw [if_neg (by omega)])
    first
    | exact ⟨rfl, rfl, fun q hq => by (first | rfl | (repeat rw [up_n _ _ _ (by omega)])), rfl, rfl, rfl, rfl, rfl, rfl, rfl, rfl, rfl⟩
    | (exfalso; omega)
  · refine J.tabIn (off := 59) (tgt := 62) dX6_count_3 (by omega) (by omega) (by omega) (by rw [hx3]; rfl) rfl ?_
    refine J.iconst (q := 63) dX6_count_62 ?_ rfl
    refine J.istore_n (q := 64) dX6_count_63 (Nat.le_of_ble_eq_true rfl) ?_ rfl
    subst hx3
    exact count2_loop hA 82 0 (by omega) (by omega)
  · refine J.tabIn (off := 87) (tgt := 90) dX6_count_3 (by omega) (by omega) (by omega) (by rw [hx3]; rfl) rfl ?_
    refine J.aload_n (q := 91) dX6_count_90 rfl ?_ rfl
    refine J.getR (ci := 6) (k0 := 0) (c1 := 62) (q := 94) dX6_count_91 kF_X6_9 rfl (by decide) (by decide) rfl (by decide) rfl ?_ rfl
    refine J.iconst (q := 95) dX6_count_94 ?_ rfl
    refine J.iald (n := 307) (q := 96) dX6_count_95 rfl (by omega) ?_ rfl
    refine J.ireturn dX6_count_96 rfl ?_
    unfold MP an_count
    (try rw [hi_61]); (try rw [hi_62]); (try rw [hi_63]); (try rw [hi_65]); (try rw [hi_70]); (try rw [hi_74]); (try rw [hi_75]); (try rw [hi_76])
    repeat (first | rw [if_pos (by omega)] | rw [if_neg (by omega)])
    first
    | exact ⟨rfl, rfl, fun q hq => by (first | rfl | (repeat rw [up_n _ _ _ (by omega)])), rfl, rfl, rfl, rfl, rfl, rfl, rfl, rfl, rfl⟩
    | (exfalso; omega)
  · refine J.tabIn (off := 94) (tgt := 97) dX6_count_3 (by omega) (by omega) (by omega) (by rw [hx3]; rfl) rfl ?_
    refine J.aload_n (q := 98) dX6_count_97 rfl ?_ rfl
    refine J.callV0i (ci := 6) (q := 101) dX6_count_98 mv_X6_underLaw kL_X6_140 rfl (by decide) rfl ⟨by decide, by decide⟩ (Nat.le_of_ble_eq_true rfl) ⟨by decide, by decide⟩ rfl (c_X6_underLaw (show (99999 : Int) ≤ 200000 by omega) hI) ?_
    refine J.ireturn dX6_count_101 rfl ?_
    unfold MP an_count
    (try rw [hi_61]); (try rw [hi_62]); (try rw [hi_63]); (try rw [hi_65]); (try rw [hi_70]); (try rw [hi_74]); (try rw [hi_75]); (try rw [hi_76])
    repeat (first | rw [if_pos (by omega)] | rw [if_neg (by omega)])
    first
    | exact ⟨rfl, rfl, fun q hq => by (first | rfl | (repeat rw [up_n _ _ _ (by omega)])), rfl, rfl, rfl, rfl, rfl, rfl, rfl, rfl, rfl⟩
    | (exfalso; omega)
  · refine J.tabIn (off := 99) (tgt := 102) dX6_count_3 (by omega) (by omega) (by omega) (by rw [hx3]; rfl) rfl ?_
    refine J.aload_n (q := 103) dX6_count_102 rfl ?_ rfl
    refine J.getI (ci := 6) (k0 := 10) (kz := 10) (q := 106) dX6_count_103 kF_X6_195 rfl (by decide) (by decide) rfl (.inl rfl) ?_ rfl
    refine J.ireturn dX6_count_106 rfl ?_
    unfold MP an_count
    (try rw [hi_61]); (try rw [hi_62]); (try rw [hi_63]); (try rw [hi_65]); (try rw [hi_70]); (try rw [hi_74]); (try rw [hi_75]); (try rw [hi_76])
    repeat (first | rw [if_pos (by omega)] | rw [if_neg (by omega)])
    first
    | exact ⟨rfl, rfl, fun q hq => by (first | rfl | (repeat rw [up_n _ _ _ (by omega)])), rfl, rfl, rfl, rfl, rfl, rfl, rfl, rfl, rfl⟩
    | (exfalso; omega)
  · refine J.tabIn (off := 104) (tgt := 107) dX6_count_3 (by omega) (by omega) (by omega) (by rw [hx3]; rfl) rfl ?_
    refine J.aload_n (q := 108) dX6_count_107 rfl ?_ rfl
    refine J.getR (ci := 6) (k0 := 0) (c1 := 62) (q := 111) dX6_count_108 kF_X6_9 rfl (by decide) (by decide) rfl (by decide) rfl ?_ rfl
    refine J.iconst (q := 112) dX6_count_111 ?_ rfl
    refine J.iald (n := 307) (q := 113) dX6_count_112 rfl (by omega) ?_ rfl
    refine J.ireturn dX6_count_113 rfl ?_
    unfold MP an_count
    (try rw [hi_61]); (try rw [hi_62]); (try rw [hi_63]); (try rw [hi_65]); (try rw [hi_70]); (try rw [hi_74]); (try rw [hi_75]); (try rw [hi_76])
    repeat (first | rw [if_pos (by omega)] | rw [if_neg (by omega)])
    first
    | exact ⟨rfl, rfl, fun q hq => by (first | rfl | (repeat rw [up_n _ _ _ (by omega)])), rfl, rfl, rfl, rfl, rfl, rfl, rfl, rfl, rfl⟩
    | (exfalso; omega)
  · refine J.tabIn (off := 111) (tgt := 114) dX6_count_3 (by omega) (by omega) (by omega) (by rw [hx3]; rfl) rfl ?_
    refine J.iconst (q := 115) dX6_count_114 ?_ rfl
    refine J.istore_n (q := 116) dX6_count_115 (Nat.le_of_ble_eq_true rfl) ?_ rfl
    subst hx3
    exact count7_loop hA 11 0 (by omega) (by omega)

set_option maxRecDepth 100000 in
set_option maxHeartbeats 4000000 in
theorem status_loop {l : Launch} {F : Nat × (Int → Int)} {iv : Mm} (hA : AI iv) {w : Int} (hw : -1 ≤ w ∧ w ≤ 6) : ∀ (n : Nat) (c : Nat), (7 - (c : Int) < n) → ((c : Int) ≤ 7) → J l (yX6_status).cls cX6_status 4 (some FieldType.int) 2 0 0 false F (MP iv (an_status (hi iv) w)) 0 0 20 [some (r_ 61), some (i_ w), some (i_ (sumZ (fun k => if w = -1 ∨ w = k then iv 65 k else 0) c)), some (i_ (c : Int))] [] S0 (iv) := by
  intro n
  induction n with
  | zero =>
    intro c hn hc
    omega
  | succ n ih =>
    intro c hn hc
    have hI := hA.mi
    have hmm := hI.many
    have hkp := hA.kp
    have htp := hA.tp
    refine J.iload_n (q := 21) dX6_status_20 rfl ?_ rfl
    refine J.bipush (q := 23) dX6_status_21 (by decide) ?_ rfl
    refine J.icmp_ge (tgt := 55) (q := 26) dX6_status_23 rfl rfl (fun c23 => ?_) (fun c23 => ?_)
    · refine J.iload_n (q := 56) dX6_status_55 rfl ?_ rfl
      refine J.ireturn dX6_status_56 rfl ?_
      have hc81 : c = 7 := by omega
      subst hc81
      unfold MP an_status
      (try rw [hi_61]); (try rw [hi_62]); (try rw [hi_63]); (try rw [hi_65]); (try rw [hi_70]); (try rw [hi_74]); (try rw [hi_75]); (try rw [hi_76])
      repeat (first | rw [if_pos (by omega)] | rw [if_neg (by omega)])
      first
      | exact ⟨rfl, rfl, fun q hq => by (first | rfl | (repeat rw [up_n _ _ _ (by omega)])), rfl, rfl, rfl, rfl, rfl, rfl, rfl, rfl, rfl⟩
      | (exfalso; omega)
    · refine J.iload_n (q := 27) dX6_status_26 rfl ?_ rfl
      refine J.iload_n (q := 28) dX6_status_27 rfl ?_ rfl
      refine J.iconst (q := 29) dX6_status_28 ?_ rfl
      refine J.icmp_eq (tgt := 37) (q := 32) dX6_status_29 rfl rfl (fun c29 => ?_) (fun c29 => ?_)
      · refine J.aload_n (q := 38) dX6_status_37 rfl ?_ rfl
        refine J.getR (ci := 6) (k0 := 4) (c1 := 65) (q := 41) dX6_status_38 kF_X6_19 rfl (by decide) (by decide) rfl (by decide) rfl ?_ rfl
        refine J.iload_n (q := 42) dX6_status_41 rfl ?_ rfl
        have he : (fun k => if w = -1 ∨ w = k then iv 65 k else 0) (c : Int) = iv 65 c := if_pos (by omega)
        refine J.iald (n := 7) (q := 43) dX6_status_42 rfl (by omega) ?_ rfl
        refine J.goto (tgt := 47) dX6_status_43 rfl ?_
        refine J.iadd (q := 48) dX6_status_47 ?_ rfl
        refine J.istore_n (q := 49) dX6_status_48 (Nat.le_of_ble_eq_true rfl) ?_ rfl
        refine J.iinc (q := 52) dX6_status_49 rfl ?_ rfl
        refine J.goto (tgt := 20) dX6_status_52 rfl ?_
        have e2 : sumZ (fun k => if w = -1 ∨ w = k then iv 65 k else 0) (c + 1) = sumZ (fun k => if w = -1 ∨ w = k then iv 65 k else 0) c + (fun k => if w = -1 ∨ w = k then iv 65 k else 0) (c : Int) := rfl
        rw [he] at e2
        refine J.eql (by rw [← e2]; rfl) (ih (c + 1) (by omega) (by omega))
      · refine J.iload_n (q := 33) dX6_status_32 rfl ?_ rfl
        refine J.iload_n (q := 34) dX6_status_33 rfl ?_ rfl
        refine J.icmp_ne (tgt := 46) (q := 37) dX6_status_34 rfl rfl (fun c34 => ?_) (fun c34 => ?_)
        · have he : (fun k => if w = -1 ∨ w = k then iv 65 k else 0) (c : Int) = 0 := if_neg (by omega)
          refine J.iconst (q := 47) dX6_status_46 ?_ rfl
          refine J.iadd (q := 48) dX6_status_47 ?_ rfl
          refine J.istore_n (q := 49) dX6_status_48 (Nat.le_of_ble_eq_true rfl) ?_ rfl
          refine J.iinc (q := 52) dX6_status_49 rfl ?_ rfl
          refine J.goto (tgt := 20) dX6_status_52 rfl ?_
          have e2 : sumZ (fun k => if w = -1 ∨ w = k then iv 65 k else 0) (c + 1) = sumZ (fun k => if w = -1 ∨ w = k then iv 65 k else 0) c + (fun k => if w = -1 ∨ w = k then iv 65 k else 0) (c : Int) := rfl
          rw [he] at e2
          refine J.eql (by rw [← e2]; rfl) (ih (c + 1) (by omega) (by omega))
        · refine J.aload_n (q := 38) dX6_status_37 rfl ?_ rfl
          refine J.getR (ci := 6) (k0 := 4) (c1 := 65) (q := 41) dX6_status_38 kF_X6_19 rfl (by decide) (by decide) rfl (by decide) rfl ?_ rfl
          refine J.iload_n (q := 42) dX6_status_41 rfl ?_ rfl
          have he : (fun k => if w = -1 ∨ w = k then iv 65 k else 0) (c : Int) = iv 65 c := if_pos (by omega)
          refine J.iald (n := 7) (q := 43) dX6_status_42 rfl (by omega) ?_ rfl
          refine J.goto (tgt := 47) dX6_status_43 rfl ?_
          refine J.iadd (q := 48) dX6_status_47 ?_ rfl
          refine J.istore_n (q := 49) dX6_status_48 (Nat.le_of_ble_eq_true rfl) ?_ rfl
          refine J.iinc (q := 52) dX6_status_49 rfl ?_ rfl
          refine J.goto (tgt := 20) dX6_status_52 rfl ?_
          have e2 : sumZ (fun k => if w = -1 ∨ w = k then iv 65 k else 0) (c + 1) = sumZ (fun k => if w = -1 ∨ w = k then iv 65 k else 0) c + (fun k => if w = -1 ∨ w = k then iv 65 k else 0) (c : Int) := rfl
          rw [he] at e2
          refine J.eql (by rw [← e2]; rfl) (ih (c + 1) (by omega) (by omega))

set_option maxRecDepth 100000 in
set_option maxHeartbeats 4000000 in
theorem c_X6_status {l : Launch} {F : Nat × (Int → Int)} {iv : Mm} (hA : AI iv) {w : Int} (hw : -2147483648 ≤ w ∧ w < 2147483648) : Ctr l F 2 0 0 yX6_status cX6_status 4 (some FieldType.int) [r_ 61, i_ w] S0 (iv) (MP iv (an_status (hi iv) w)) := by
  refine Ctr.of false (fun h => by cases h) (by decide) rfl (Nat.le_of_ble_eq_true rfl) ?_
  have hI := hA.mi
  have hmm := hI.many
  have hkp := hA.kp
  have htp := hA.tp
  refine J.iload_n (q := 1) dX6_status_0 rfl ?_ rfl
  refine J.iconst (q := 2) dX6_status_1 ?_ rfl
  refine J.bipush (q := 4) dX6_status_2 (by decide) ?_ rfl
  refine J.callS3i (q := 7) dX6_status_4 mv_X6_in1 kS_X6_in1 kL_X6_61 ⟨by decide, by decide⟩ (Nat.le_of_ble_eq_true rfl) ⟨by decide, by decide⟩ rfl (c_X6_in1 (by omega) (by omega) (by omega)) ?_
  refine J.ifb_ne (tgt := 16) (q := 10) dX6_status_7 rfl rfl (fun c7 => ?_) (fun c7 => ?_)
  · refine J.iconst (q := 17) dX6_status_16 ?_ rfl
    refine J.istore_n (q := 18) dX6_status_17 (Nat.le_of_ble_eq_true rfl) ?_ rfl
    refine J.iconst (q := 19) dX6_status_18 ?_ rfl
    refine J.istore_n (q := 20) dX6_status_19 (Nat.le_of_ble_eq_true rfl) ?_ rfl
    exact status_loop hA (by omega) 8 0 (by omega) (by omega)
  · refine J.aload_n (q := 11) dX6_status_10 rfl ?_ rfl
    refine J.iconst (q := 12) dX6_status_11 ?_ rfl
    refine J.callV1i (ci := 6) (q := 15) dX6_status_12 mv_X6_no kL_X6_125 rfl (by decide) rfl ⟨by decide, by decide⟩ (Nat.le_of_ble_eq_true rfl) ⟨by decide, by decide⟩ rfl (c_X6_no (by omega)) ?_
    refine J.ireturn dX6_status_15 rfl ?_
    unfold MP an_status
    (try rw [hi_61]); (try rw [hi_62]); (try rw [hi_63]); (try rw [hi_65]); (try rw [hi_70]); (try rw [hi_74]); (try rw [hi_75]); (try rw [hi_76])
    repeat (first | rw [if_pos (by omega)] | rw [if_neg (by omega)])
    first
    | exact ⟨rfl, rfl, fun q hq => by (first | rfl | (repeat rw [up_n _ _ _ (by omega)])), rfl, rfl, rfl, rfl, rfl, rfl, rfl, rfl, rfl⟩
    | (exfalso; omega)

set_option maxRecDepth 100000 in
set_option maxHeartbeats 4000000 in
theorem image_loop {l : Launch} {F : Nat × (Int → Int)} {iv : Mm} (hA : AI iv) : ∀ (n : Nat) (k : Int) (iv1 : Mm), (307 - k < n) → (0 ≤ k ∧ k ≤ 307) → (∀ q, q ≠ 63 → iv1 q = iv q) → (∀ j, iv1 63 j = if 0 ≤ j ∧ j < k then iv 62 j else iv 63 j) → J l (yX6_image).cls cX6_image 2 (some FieldType.int) 2 0 0 false F (MP iv (an_image (hi iv))) 0 0 2 [some (r_ 61), some (i_ k)] [] S0 (iv1) := by
  intro n
  induction n with
  | zero =>
    intro k iv1 hn hk hfr hcp
    omega
  | succ n ih =>
    intro k iv1 hn hk hfr hcp
    refine J.iload_n (q := 3) dX6_image_2 rfl ?_ rfl
    refine J.sipush (q := 6) dX6_image_3 (by decide) ?_ rfl
    refine J.icmp_ge (tgt := 27) (q := 9) dX6_image_6 rfl rfl (fun c6 => ?_) (fun c6 => ?_)
    · refine J.aload_n (q := 28) dX6_image_27 rfl ?_ rfl
      refine J.iconst (q := 29) dX6_image_28 ?_ rfl
      refine J.putZ (ci := 6) (k0 := 3) (kz := 3) (q := 32) dX6_image_29 kF_X6_253 rfl (by decide) (by decide) rfl rfl rfl (by omega) ?_ rfl
      refine J.iconst (q := 33) dX6_image_32 ?_ rfl
      refine J.ireturn dX6_image_33 rfl ?_
      have hk81 : k = 307 := by omega
      subst hk81
      have h61 := hfr 61 (by decide)
      refine ⟨rfl, rfl, fun q hq => (up_n _ _ _ (by omega)).trans (hfr q (by omega)), hfr 62 (by decide), ?_, hfr 65 (by decide), hfr 70 (by decide), hfr 74 (by decide), hfr 75 (by decide), hfr 76 (by decide), ?_, ?_⟩
      · funext j
        exact hcp j
      · rfl
      · show upr (iv1 61) 3 1 10 = upr (iv 61) 3 1 10
        rw [h61]
    · refine J.aload_n (q := 10) dX6_image_9 rfl ?_ rfl
      refine J.getR (ci := 6) (k0 := 1) (c1 := 63) (q := 13) dX6_image_10 kF_X6_13 rfl (by decide) (by decide) rfl (by decide) rfl ?_ rfl
      refine J.iload_n (q := 14) dX6_image_13 rfl ?_ rfl
      refine J.aload_n (q := 15) dX6_image_14 rfl ?_ rfl
      refine J.getR (ci := 6) (k0 := 0) (c1 := 62) (q := 18) dX6_image_15 kF_X6_9 rfl (by decide) (by decide) rfl (by decide) rfl ?_ rfl
      refine J.iload_n (q := 19) dX6_image_18 rfl ?_ rfl
      refine J.iald (n := 307) (q := 20) dX6_image_19 rfl (by omega) ?_ rfl
      refine J.iast (n := 307) (q := 21) dX6_image_20 rfl (by omega) ?_ rfl
      refine J.iinc (q := 24) dX6_image_21 rfl ?_ rfl
      refine J.goto (tgt := 2) dX6_image_24 rfl ?_
      refine ih (k + 1) _ (by omega) (by omega) (fun q hq => ?_) (fun j => ?_)
      · rw [up_n _ _ _ hq]; exact hfr q hq
      · rw [up_s]
        by_cases hj : j = k
        · subst hj; rw [upr_s, if_pos (by omega), hfr 62 (by decide)]
        · rw [upr_n _ _ hj, hcp j]
          by_cases hj2 : 0 ≤ j ∧ j < k
          · rw [if_pos hj2, if_pos (by omega)]
          · rw [if_neg hj2, if_neg (by omega)]

set_option maxRecDepth 100000 in
set_option maxHeartbeats 4000000 in
theorem c_X6_image {l : Launch} {F : Nat × (Int → Int)} {iv : Mm} (hA : AI iv) : Ctr l F 2 0 0 yX6_image cX6_image 2 (some FieldType.int) [r_ 61] S0 (iv) (MP iv (an_image (hi iv))) := by
  refine Ctr.of false (fun h => by cases h) (by decide) rfl (Nat.le_of_ble_eq_true rfl) ?_
  have hI := hA.mi
  have hmm := hI.many
  have hkp := hA.kp
  have htp := hA.tp
  refine J.iconst (q := 1) dX6_image_0 ?_ rfl
  refine J.istore_n (q := 2) dX6_image_1 (Nat.le_of_ble_eq_true rfl) ?_ rfl
  exact image_loop hA 308 0 iv (by omega) (by omega) (fun _ _ => rfl) (fun j => by rw [if_neg (by omega)])

set_option maxRecDepth 100000 in
set_option maxHeartbeats 4000000 in
theorem undo_loop {l : Launch} {F : Nat × (Int → Int)} {iv : Mm} (hA : AI iv) (hk1 : iv 61 3 ≠ 0) : ∀ (n : Nat) (k : Int) (iv1 : Mm), (307 - k < n) → (0 ≤ k ∧ k ≤ 307) → (∀ q, q ≠ 62 → iv1 q = iv q) → (∀ j, iv1 62 j = if 0 ≤ j ∧ j < k then iv 63 j else iv 62 j) → J l (yX6_undo).cls cX6_undo 2 (some FieldType.int) 2 0 0 false F (MP iv (an_undo (hi iv))) 0 0 15 [some (r_ 61), some (i_ k)] [] S0 (iv1) := by
  intro n
  induction n with
  | zero =>
    intro k iv1 hn hk hfr hcp
    omega
  | succ n ih =>
    intro k iv1 hn hk hfr hcp
    refine J.iload_n (q := 16) dX6_undo_15 rfl ?_ rfl
    refine J.sipush (q := 19) dX6_undo_16 (by decide) ?_ rfl
    refine J.icmp_ge (tgt := 40) (q := 22) dX6_undo_19 rfl rfl (fun c19 => ?_) (fun c19 => ?_)
    · refine J.aload_n (q := 41) dX6_undo_40 rfl ?_ rfl
      refine J.getR (ci := 6) (k0 := 0) (c1 := 62) (q := 44) dX6_undo_41 kF_X6_9 rfl (by decide) (by decide) rfl (by decide) rfl ?_ rfl
      refine J.iconst (q := 45) dX6_undo_44 ?_ rfl
      refine J.iald (n := 307) (q := 46) dX6_undo_45 rfl (by omega) ?_ rfl
      refine J.ireturn dX6_undo_46 rfl ?_
      have hk81 : k = 307 := by omega
      subst hk81
      have h61 := hfr 61 (by decide)
      have e : an_undo (hi iv) = (hi iv 63 0, setr (hi iv) 62 (cpR (hi iv 63) (hi iv 62))) := if_neg hk1
      rw [e]
      refine ⟨congrArg (fun z => some (i_ z)) ?_, rfl, fun q hq => hfr q (by omega), ?_, hfr 63 (by decide), hfr 65 (by decide), hfr 70 (by decide), hfr 74 (by decide), hfr 75 (by decide), hfr 76 (by decide), by rw [h61]; rfl, by rw [h61]; rfl⟩
      · rw [hcp 0, if_pos (by omega)]
        rfl
      · funext j
        exact hcp j
    · refine J.aload_n (q := 23) dX6_undo_22 rfl ?_ rfl
      refine J.getR (ci := 6) (k0 := 0) (c1 := 62) (q := 26) dX6_undo_23 kF_X6_9 rfl (by decide) (by decide) rfl (by decide) rfl ?_ rfl
      refine J.iload_n (q := 27) dX6_undo_26 rfl ?_ rfl
      refine J.aload_n (q := 28) dX6_undo_27 rfl ?_ rfl
      refine J.getR (ci := 6) (k0 := 1) (c1 := 63) (q := 31) dX6_undo_28 kF_X6_13 rfl (by decide) (by decide) rfl (by decide) rfl ?_ rfl
      refine J.iload_n (q := 32) dX6_undo_31 rfl ?_ rfl
      refine J.iald (n := 307) (q := 33) dX6_undo_32 rfl (by omega) ?_ rfl
      refine J.iast (n := 307) (q := 34) dX6_undo_33 rfl (by omega) ?_ rfl
      refine J.iinc (q := 37) dX6_undo_34 rfl ?_ rfl
      refine J.goto (tgt := 15) dX6_undo_37 rfl ?_
      refine ih (k + 1) _ (by omega) (by omega) (fun q hq => ?_) (fun j => ?_)
      · rw [up_n _ _ _ hq]; exact hfr q hq
      · rw [up_s]
        by_cases hj : j = k
        · subst hj; rw [upr_s, if_pos (by omega), hfr 63 (by decide)]
        · rw [upr_n _ _ hj, hcp j]
          by_cases hj2 : 0 ≤ j ∧ j < k
          · rw [if_pos hj2, if_pos (by omega)]
          · rw [if_neg hj2, if_neg (by omega)]

set_option maxRecDepth 100000 in
set_option maxHeartbeats 4000000 in
theorem c_X6_undo {l : Launch} {F : Nat × (Int → Int)} {iv : Mm} (hA : AI iv) : Ctr l F 2 0 0 yX6_undo cX6_undo 2 (some FieldType.int) [r_ 61] S0 (iv) (MP iv (an_undo (hi iv))) := by
  refine Ctr.of false (fun h => by cases h) (by decide) rfl (Nat.le_of_ble_eq_true rfl) ?_
  have hI := hA.mi
  have hmm := hI.many
  have hkp := hA.kp
  have htp := hA.tp
  refine J.aload_n (q := 1) dX6_undo_0 rfl ?_ rfl
  refine J.getI (ci := 6) (k0 := 3) (kz := 3) (q := 4) dX6_undo_1 kF_X6_253 rfl (by decide) (by decide) rfl (.inr rfl) ?_ rfl
  refine J.if_ne (tgt := 13) (q := 7) dX6_undo_4 rfl rfl (fun c4 => ?_) (fun c4 => ?_)
  · refine J.iconst (q := 14) dX6_undo_13 ?_ rfl
    refine J.istore_n (q := 15) dX6_undo_14 (Nat.le_of_ble_eq_true rfl) ?_ rfl
    exact undo_loop hA (by omega) 308 0 iv (by omega) (by omega) (fun _ _ => rfl) (fun j => by rw [if_neg (by omega)])
  · refine J.aload_n (q := 8) dX6_undo_7 rfl ?_ rfl
    refine J.iconst (q := 9) dX6_undo_8 ?_ rfl
    refine J.callV1i (ci := 6) (q := 12) dX6_undo_9 mv_X6_no kL_X6_125 rfl (by decide) rfl ⟨by decide, by decide⟩ (Nat.le_of_ble_eq_true rfl) ⟨by decide, by decide⟩ rfl (c_X6_no (by omega)) ?_
    refine J.ireturn dX6_undo_12 rfl ?_
    unfold MP an_undo
    (try rw [hi_61]); (try rw [hi_62]); (try rw [hi_63]); (try rw [hi_65]); (try rw [hi_70]); (try rw [hi_74]); (try rw [hi_75]); (try rw [hi_76])
    repeat (first | rw [if_pos (by omega)] | rw [if_neg (by omega)])
    first
    | exact ⟨rfl, rfl, fun q hq => by (first | rfl | (repeat rw [up_n _ _ _ (by omega)])), rfl, rfl, rfl, rfl, rfl, rfl, rfl, rfl, rfl⟩
    | (exfalso; omega)

