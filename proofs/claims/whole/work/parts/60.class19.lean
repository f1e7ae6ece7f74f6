/-! the class: texts (printed by wip/whole/m_c19.py) -/
theorem kn_r (T : Int → Int) (z q : Int) : -1 ≤ kn T z q ∧ kn T z q ≤ 6 ∧ (0 ≤ kn T z q → tK T z q = 1) := by
  unfold kn
  repeat' split
  all_goals (rename_i h; refine ⟨by omega, by omega, fun _ => ?_⟩; first | exact h.1 | omega)
theorem rdIt_end {T WL WM WO s : Int → Int} {z q : Int} (h1 : WL q < 0) (h2 : WO q < 0) : rdIt T z WL WM WO s q = (false, s, q) := by
  unfold rdIt
  rw [if_neg (by omega), if_pos h2]
set_option maxRecDepth 100000 in
set_option maxHeartbeats 4000000 in
theorem c_readItem {l : Launch} {F : Nat × (Int → Int)} {iv : Mm} {T : Int → Int} {z q : Int} {N : Nat} (hT : ∀ j, 0 ≤ j → j < 120 → iv 51 j = T j) (hb : ∀ j, 0 ≤ j → j < 120 → 0 ≤ T j ∧ T j ≤ 255) (hz : 0 ≤ z ∧ z ≤ 120) (hTA : TA iv T z N) (hN9 : 0 ≤ qn T z N ∧ qn T z N ≤ z) (hTS : TSt iv T z N q) {f1 f2 f3 : Int → Int} (hW1 : ∀ j, 0 ≤ j → j < 56 → f1 j = g71 j) (hW2 : ∀ j, 0 ≤ j → j < 32 → f2 j = g72 j) (hW3 : ∀ j, 0 ≤ j → j < 40 → f3 j = g73 j) {s : Int → Int} {X : Pst} (hR : RR iv 26 s) (hm : 0 ≤ s 2 ∧ s 2 ≤ 8) (hX : rdIt T z (wd f1 7 T z) (wd f2 4 T z) (wd f3 5 T z) s q = X) : Ctr l F 8 0 0 yX3_readItem cX3_readItem 3 (some FieldType.boolean) [r_ 50, r_ 26] S0 (iv) (fun v S iv2 => v = some (i_ (b2 (X.1 = true))) ∧ S = S0 ∧ Fw iv iv2 ∧ TSt iv2 T z N X.2.2 ∧ (X.1 = true → RR iv2 26 X.2.1)) := by
  refine Ctr.of false (fun h => by cases h) (by decide) rfl (Nat.le_of_ble_eq_true rfl) ?_
  have hkr := kn_r T z q
  unfold rdIt at hX
  rw [kn_wd hW1, ko_wd hW3] at hX
  refine J.aload_n (q := 1) dX3_readItem_0 rfl ?_ rfl
  refine J.callV0i (ci := 3) (q := 4) dX3_readItem_1 mv_X3_kindNamed kL_X3_57 rfl (by decide) rfl ⟨by decide, by decide⟩ (Nat.le_of_ble_eq_true rfl) ⟨by decide, by decide⟩ rfl (c_X3_kindNamed hT hb hz hTA hN9 hTS) ?_
  refine J.istore_n (q := 5) dX3_readItem_4 (Nat.le_of_ble_eq_true rfl) ?_ rfl
  refine J.iload_n (q := 6) dX3_readItem_5 rfl ?_ rfl
  refine J.if_lt (tgt := 16) (q := 9) (hv := by omega) dX3_readItem_6 rfl rfl (fun c6 => ?_) (fun c6 => ?_)
  · rw [if_neg (by omega)] at hX
    refine J.aload_n (q := 17) dX3_readItem_16 rfl ?_ rfl
    refine J.ldcS (q := 19) (i := 0) dX3_readItem_17 (by decide) rfl rfl ?_ rfl
    refine J.callV1 (ci := 3) (q := 22) dX3_readItem_19 mv_X3_skipWord kL_X3_67 rfl (by decide) rfl ⟨by decide, by decide⟩ (Nat.le_of_ble_eq_true rfl) ⟨by decide, by decide⟩ rfl (c_skipWord hT hb hz hTA hN9 hTS (i := 0) (by decide)) (fun v30 S30 iv30 hp => ?_)
    obtain ⟨rfl, rfl, a30, t30⟩ := hp
    refine J.ifb_eq (tgt := 31) (q := 25) dX3_readItem_22 rfl rfl (fun c22 => ?_) (fun c22 => ?_)
    · rw [if_neg c22] at t30
      refine J.aload_n (q := 32) dX3_readItem_31 rfl ?_ rfl
      refine J.ldcS (q := 34) (i := 1) dX3_readItem_32 (by decide) rfl rfl ?_ rfl
      refine J.callV1 (ci := 3) (q := 37) dX3_readItem_34 mv_X3_skipWord kL_X3_67 rfl (by decide) rfl ⟨by decide, by decide⟩ (Nat.le_of_ble_eq_true rfl) ⟨by decide, by decide⟩ rfl (c_skipWord (a30.T hT) hb hz (a30.A hTA) hN9 t30 (i := 1) (by decide)) (fun v31 S31 iv31 hp => ?_)
      obtain ⟨rfl, rfl, a31, t31⟩ := hp
      refine J.ifb_eq (tgt := 46) (q := 40) dX3_readItem_37 rfl rfl (fun c37 => ?_) (fun c37 => ?_)
      · rw [if_neg c37] at t31
        refine J.aload_n (q := 47) dX3_readItem_46 rfl ?_ rfl
        refine J.ldcS (q := 49) (i := 2) dX3_readItem_47 (by decide) rfl rfl ?_ rfl
        refine J.callV1 (ci := 3) (q := 52) dX3_readItem_49 mv_X3_skipWord kL_X3_67 rfl (by decide) rfl ⟨by decide, by decide⟩ (Nat.le_of_ble_eq_true rfl) ⟨by decide, by decide⟩ rfl (c_skipWord ((a30.tr a31).T hT) hb hz ((a30.tr a31).A hTA) hN9 t31 (i := 2) (by decide)) (fun v32 S32 iv32 hp => ?_)
        obtain ⟨rfl, rfl, a32, t32⟩ := hp
        refine J.ifb_eq (tgt := 61) (q := 55) dX3_readItem_52 rfl rfl (fun c52 => ?_) (fun c52 => ?_)
        · rw [if_neg c52] at t32
          refine J.aload_n (q := 62) dX3_readItem_61 rfl ?_ rfl
          refine J.ldcS (q := 64) (i := 3) dX3_readItem_62 (by decide) rfl rfl ?_ rfl
          refine J.callV1 (ci := 3) (q := 67) dX3_readItem_64 mv_X3_skipWord kL_X3_67 rfl (by decide) rfl ⟨by decide, by decide⟩ (Nat.le_of_ble_eq_true rfl) ⟨by decide, by decide⟩ rfl (c_skipWord (((a30.tr a31).tr a32).T hT) hb hz (((a30.tr a31).tr a32).A hTA) hN9 t32 (i := 3) (by decide)) (fun v33 S33 iv33 hp => ?_)
          obtain ⟨rfl, rfl, a33, t33⟩ := hp
          refine J.ifb_eq (tgt := 76) (q := 70) dX3_readItem_67 rfl rfl (fun c67 => ?_) (fun c67 => ?_)
          · rw [if_neg c67] at t33
            refine J.aload_n (q := 77) dX3_readItem_76 rfl ?_ rfl
            refine J.ldcS (q := 79) (i := 4) dX3_readItem_77 (by decide) rfl rfl ?_ rfl
            refine J.callV1 (ci := 3) (q := 82) dX3_readItem_79 mv_X3_skipWord kL_X3_67 rfl (by decide) rfl ⟨by decide, by decide⟩ (Nat.le_of_ble_eq_true rfl) ⟨by decide, by decide⟩ rfl (c_skipWord ((((a30.tr a31).tr a32).tr a33).T hT) hb hz ((((a30.tr a31).tr a32).tr a33).A hTA) hN9 t33 (i := 4) (by decide)) (fun v34 S34 iv34 hp => ?_)
            obtain ⟨rfl, rfl, a34, t34⟩ := hp
            refine J.ifb_eq (tgt := 97) (q := 85) dX3_readItem_82 rfl rfl (fun c82 => ?_) (fun c82 => ?_)
            · rw [if_neg c82] at t34
              have hko : ko T z q = -1 := by unfold ko; rw [if_neg c22, if_neg c37, if_neg c52, if_neg c67, if_neg c82]
              rw [hko, if_pos (by decide)] at hX
              refine J.iconst (q := 98) dX3_readItem_97 ?_ rfl
              refine J.zreturn dX3_readItem_98 rfl (by omega) ?_
              first
              | exact ⟨rfl, rfl, w9, w1, w2⟩
              | exact ⟨rfl, rfl, w0, w1, w2⟩
              | (rw [b2_t (by assumption)]; exact ⟨rfl, rfl, w9, w1, w2⟩)
              | (rw [b2_f (by assumption)]; exact ⟨rfl, rfl, w9, w1, w2⟩)
              | (subst hX; exact ⟨rfl, rfl, ((((a30.tr a31).tr a32).tr a33).tr a34).fw, t34, fun h => (by cases h)⟩)
              | (exfalso; omega)
            · have hko : ko T z q = 4 := by unfold ko; rw [if_neg c22, if_neg c37, if_neg c52, if_neg c67, if_pos c82]
              rw [hko, if_neg (by decide)] at hX
              have hX2 : (if tkN T z (tE T z q) 20 < 0 then (false, s, (tE T z q)) else (true, upr s 5 (tkN T z (tE T z q) 20), (tE T z (tE T z q)))) = X := hX
              rw [if_pos c82] at t34
              refine J.aload_n (q := 86) dX3_readItem_85 rfl ?_ rfl
              refine J.aload_n (q := 87) dX3_readItem_86 rfl ?_ rfl
              refine J.callV1 (ci := 3) (q := 90) dX3_readItem_87 mv_X3_readThrush kL_X3_91 rfl (by decide) rfl ⟨by decide, by decide⟩ (Nat.le_of_ble_eq_true rfl) ⟨by decide, by decide⟩ rfl (c_readThrush (((((a30.tr a31).tr a32).tr a33).tr a34).T hT) hb hz (((((a30.tr a31).tr a32).tr a33).tr a34).A hTA) hN9 t34 (((((a30.tr a31).tr a32).tr a33).tr a34).R hR) hX2) (fun v9 S9 iv9 hp => ?_)
              obtain ⟨rfl, rfl, w0, w1, w2⟩ := hp
              have w9 := ((((a30.tr a31).tr a32).tr a33).tr a34).fw.tr w0
              refine J.ifb_eq (tgt := 97) (q := 93) dX3_readItem_90 rfl rfl (fun c90 => ?_) (fun c90 => ?_)
              · refine J.iconst (q := 98) dX3_readItem_97 ?_ rfl
                refine J.zreturn dX3_readItem_98 rfl (by omega) ?_
                first
                | exact ⟨rfl, rfl, w9, w1, w2⟩
                | exact ⟨rfl, rfl, w0, w1, w2⟩
                | (rw [b2_t (by assumption)]; exact ⟨rfl, rfl, w9, w1, w2⟩)
                | (rw [b2_f (by assumption)]; exact ⟨rfl, rfl, w9, w1, w2⟩)
                | (subst hX; exact ⟨rfl, rfl, ((((a30.tr a31).tr a32).tr a33).tr a34).fw, t34, fun h => (by cases h)⟩)
                | (exfalso; omega)
              · refine J.iconst (q := 94) dX3_readItem_93 ?_ rfl
                refine J.goto (tgt := 98) dX3_readItem_94 rfl ?_
                refine J.zreturn dX3_readItem_98 rfl (by omega) ?_
                first
                | exact ⟨rfl, rfl, w9, w1, w2⟩
                | exact ⟨rfl, rfl, w0, w1, w2⟩
                | (rw [b2_t (by assumption)]; exact ⟨rfl, rfl, w9, w1, w2⟩)
                | (rw [b2_f (by assumption)]; exact ⟨rfl, rfl, w9, w1, w2⟩)
                | (subst hX; exact ⟨rfl, rfl, ((((a30.tr a31).tr a32).tr a33).tr a34).fw, t34, fun h => (by cases h)⟩)
                | (exfalso; omega)
          · have hko : ko T z q = 3 := by unfold ko; rw [if_neg c22, if_neg c37, if_neg c52, if_pos c67]
            rw [hko, if_neg (by decide)] at hX
            have hX2 : (if tkN T z (tE T z q) 9 < 0 then (false, s, (tE T z q)) else (true, upr s 4 (tkN T z (tE T z q) 9), (tE T z (tE T z q)))) = X := hX
            rw [if_pos c67] at t33
            refine J.aload_n (q := 71) dX3_readItem_70 rfl ?_ rfl
            refine J.aload_n (q := 72) dX3_readItem_71 rfl ?_ rfl
            refine J.callV1 (ci := 3) (q := 75) dX3_readItem_72 mv_X3_readWet kL_X3_86 rfl (by decide) rfl ⟨by decide, by decide⟩ (Nat.le_of_ble_eq_true rfl) ⟨by decide, by decide⟩ rfl (c_readWet ((((a30.tr a31).tr a32).tr a33).T hT) hb hz ((((a30.tr a31).tr a32).tr a33).A hTA) hN9 t33 ((((a30.tr a31).tr a32).tr a33).R hR) hX2) (fun v9 S9 iv9 hp => ?_)
            obtain ⟨rfl, rfl, w0, w1, w2⟩ := hp
            have w9 := (((a30.tr a31).tr a32).tr a33).fw.tr w0
            refine J.zreturn dX3_readItem_75 rfl b2_01 ?_
            first
            | exact ⟨rfl, rfl, w9, w1, w2⟩
            | exact ⟨rfl, rfl, w0, w1, w2⟩
            | (rw [b2_t (by assumption)]; exact ⟨rfl, rfl, w9, w1, w2⟩)
            | (rw [b2_f (by assumption)]; exact ⟨rfl, rfl, w9, w1, w2⟩)
            | (subst hX; exact ⟨rfl, rfl, ((((a30.tr a31).tr a32).tr a33).tr a34).fw, t34, fun h => (by cases h)⟩)
            | (exfalso; omega)
        · have hko : ko T z q = 2 := by unfold ko; rw [if_neg c22, if_neg c37, if_pos c52]
          rw [hko, if_neg (by decide)] at hX
          have hX2 : (if tkN T z (tE T z q) 7 < 0 then (false, s, (tE T z q)) else if tkN T z (tE T z (tE T z q)) 255 < 0 then (false, s, (tE T z (tE T z q))) else (true, upr s (6 + tkN T z (tE T z q) 7) (tkN T z (tE T z (tE T z q)) 255), tE T z (tE T z (tE T z q)))) = X := hX
          rw [if_pos c52] at t32
          refine J.aload_n (q := 56) dX3_readItem_55 rfl ?_ rfl
          refine J.aload_n (q := 57) dX3_readItem_56 rfl ?_ rfl
          refine J.callV1 (ci := 3) (q := 60) dX3_readItem_57 mv_X3_readBans kL_X3_81 rfl (by decide) rfl ⟨by decide, by decide⟩ (Nat.le_of_ble_eq_true rfl) ⟨by decide, by decide⟩ rfl (c_readBans (((a30.tr a31).tr a32).T hT) hb hz (((a30.tr a31).tr a32).A hTA) hN9 t32 (((a30.tr a31).tr a32).R hR) hX2) (fun v9 S9 iv9 hp => ?_)
          obtain ⟨rfl, rfl, w0, w1, w2⟩ := hp
          have w9 := ((a30.tr a31).tr a32).fw.tr w0
          refine J.zreturn dX3_readItem_60 rfl b2_01 ?_
          first
          | exact ⟨rfl, rfl, w9, w1, w2⟩
          | exact ⟨rfl, rfl, w0, w1, w2⟩
          | (rw [b2_t (by assumption)]; exact ⟨rfl, rfl, w9, w1, w2⟩)
          | (rw [b2_f (by assumption)]; exact ⟨rfl, rfl, w9, w1, w2⟩)
          | (subst hX; exact ⟨rfl, rfl, ((((a30.tr a31).tr a32).tr a33).tr a34).fw, t34, fun h => (by cases h)⟩)
          | (exfalso; omega)
      · have hko : ko T z q = 1 := by unfold ko; rw [if_neg c22, if_pos c37]
        rw [hko, if_neg (by decide)] at hX
        have hX2 : (if tkN T z (tE T z q) 80 < 0 then (false, s, (tE T z q)) else if tkN T z (tE T z (tE T z q)) 9 < 0 then (false, s, (tE T z (tE T z q))) else (true, upr s (95 + tkN T z (tE T z q) 80) (tkN T z (tE T z (tE T z q)) 9), tE T z (tE T z (tE T z q)))) = X := hX
        rw [if_pos c37] at t31
        refine J.aload_n (q := 41) dX3_readItem_40 rfl ?_ rfl
        refine J.aload_n (q := 42) dX3_readItem_41 rfl ?_ rfl
        refine J.callV1 (ci := 3) (q := 45) dX3_readItem_42 mv_X3_readGreens kL_X3_76 rfl (by decide) rfl ⟨by decide, by decide⟩ (Nat.le_of_ble_eq_true rfl) ⟨by decide, by decide⟩ rfl (c_readGreens ((a30.tr a31).T hT) hb hz ((a30.tr a31).A hTA) hN9 t31 ((a30.tr a31).R hR) hX2) (fun v9 S9 iv9 hp => ?_)
        obtain ⟨rfl, rfl, w0, w1, w2⟩ := hp
        have w9 := (a30.tr a31).fw.tr w0
        refine J.zreturn dX3_readItem_45 rfl b2_01 ?_
        first
        | exact ⟨rfl, rfl, w9, w1, w2⟩
        | exact ⟨rfl, rfl, w0, w1, w2⟩
        | (rw [b2_t (by assumption)]; exact ⟨rfl, rfl, w9, w1, w2⟩)
        | (rw [b2_f (by assumption)]; exact ⟨rfl, rfl, w9, w1, w2⟩)
        | (subst hX; exact ⟨rfl, rfl, ((((a30.tr a31).tr a32).tr a33).tr a34).fw, t34, fun h => (by cases h)⟩)
        | (exfalso; omega)
    · have hko : ko T z q = 0 := by unfold ko; rw [if_pos c22]
      rw [hko, if_neg (by decide)] at hX
      have hX2 : (if tkN T z (tE T z q) 80 < 0 then (false, s, (tE T z q)) else (true, upr s (14 + tkN T z (tE T z q) 80) 1, (tE T z (tE T z q)))) = X := hX
      rw [if_pos c22] at t30
      refine J.aload_n (q := 26) dX3_readItem_25 rfl ?_ rfl
      refine J.aload_n (q := 27) dX3_readItem_26 rfl ?_ rfl
      refine J.callV1 (ci := 3) (q := 30) dX3_readItem_27 mv_X3_readHedge kL_X3_71 rfl (by decide) rfl ⟨by decide, by decide⟩ (Nat.le_of_ble_eq_true rfl) ⟨by decide, by decide⟩ rfl (c_readHedge (a30.T hT) hb hz (a30.A hTA) hN9 t30 (a30.R hR) hX2) (fun v9 S9 iv9 hp => ?_)
      obtain ⟨rfl, rfl, w0, w1, w2⟩ := hp
      have w9 := a30.fw.tr w0
      refine J.zreturn dX3_readItem_30 rfl b2_01 ?_
      first
      | exact ⟨rfl, rfl, w9, w1, w2⟩
      | exact ⟨rfl, rfl, w0, w1, w2⟩
      | (rw [b2_t (by assumption)]; exact ⟨rfl, rfl, w9, w1, w2⟩)
      | (rw [b2_f (by assumption)]; exact ⟨rfl, rfl, w9, w1, w2⟩)
      | (subst hX; exact ⟨rfl, rfl, ((((a30.tr a31).tr a32).tr a33).tr a34).fw, t34, fun h => (by cases h)⟩)
      | (exfalso; omega)
  · rw [if_pos (by omega)] at hX
    refine J.aload_n (q := 10) dX3_readItem_9 rfl ?_ rfl
    refine J.aload_n (q := 11) dX3_readItem_10 rfl ?_ rfl
    refine J.iload_n (q := 12) dX3_readItem_11 rfl ?_ rfl
    refine J.callV2 (ci := 3) (q := 15) dX3_readItem_12 mv_X3_readSnail kL_X3_61 rfl (by decide) rfl ⟨by decide, by decide⟩ (Nat.le_of_ble_eq_true rfl) ⟨by decide, by decide⟩ rfl (c_readSnail hT hb hz hTA hN9 hTS hR hm (hkr.2.2 (by omega)) ⟨fun q => (wd72_iff hW2).1, fun q => (wd72_iff hW2).2.1, fun q => (wd72_iff hW2).2.2.1, fun q => (wd72_iff hW2).2.2.2⟩ hX) (fun v9 S9 iv9 hp => ?_)
    obtain ⟨rfl, rfl, w0, w1, w2⟩ := hp
    refine J.zreturn dX3_readItem_15 rfl b2_01 ?_
    first
    | exact ⟨rfl, rfl, w9, w1, w2⟩
    | exact ⟨rfl, rfl, w0, w1, w2⟩
    | (rw [b2_t (by assumption)]; exact ⟨rfl, rfl, w9, w1, w2⟩)
    | (rw [b2_f (by assumption)]; exact ⟨rfl, rfl, w9, w1, w2⟩)
    | (subst hX; exact ⟨rfl, rfl, ((((a30.tr a31).tr a32).tr a33).tr a34).fw, t34, fun h => (by cases h)⟩)
    | (exfalso; omega)

set_option maxRecDepth 100000 in
set_option maxHeartbeats 4000000 in
theorem readInto_loop {l : Launch} {F : Nat × (Int → Int)} {iv0 : Mm} {T : Int → Int} {z : Int} {N : Nat} {Y : Int × Pst} (hT : ∀ j, 0 ≤ j → j < 120 → iv0 51 j = T j) (hb : ∀ j, 0 ≤ j → j < 120 → 0 ≤ T j ∧ T j ≤ 255) (hz : 0 ≤ z ∧ z ≤ 120) {iv : Mm} (h0 : ∀ p, (p < 52 ∨ 55 < p) → iv p = iv0 p) (hTA : TA iv T z N) (hN9 : 0 ≤ qn T z N ∧ qn T z N ≤ z) {f1 f2 f3 : Int → Int} (hW1 : ∀ j, 0 ≤ j → j < 56 → f1 j = g71 j) (hW2 : ∀ j, 0 ≤ j → j < 32 → f2 j = g72 j) (hW3 : ∀ j, 0 ≤ j → j < 40 → f3 j = g73 j) : ∀ (n : Nat) (f : Nat) (m : Int) (q : Int) (s : Int → Int) (iv1 : Mm), (121 - q < n) → (z - q < f) → (1 ≤ m ∧ m ≤ q + 1) → (Fw iv iv1) → (TSt iv1 T z N q) → (RR iv1 26 s) → (MI 99999 s) → (txL T z (wd f1 7 T z) (wd f2 4 T z) (wd f3 5 T z) f m (rdIt T z (wd f1 7 T z) (wd f2 4 T z) (wd f3 5 T z) s q) = Y) → J l (yX3_readInto).cls cX3_readInto 3 (some FieldType.int) 9 0 0 false F (fun v S iv2 => v = some (i_ (if txG T z Y then Y.1 else -1 - tB T z Y.2.2.2)) ∧ S = S0 ∧ ((∀ p, p ≠ 50 → (p < 26 ∨ 37 < p) → (p < 52 ∨ 55 < p) → iv2 p = iv0 p) ∧ ∀ j : Int, j ≠ 6 → iv2 50 j = iv0 50 j) ∧ (txG T z Y → RR iv2 26 Y.2.2.1 ∧ 1 ≤ Y.1)) 0 0 11 [some (r_ 50), some (r_ 26), some (i_ m)] [] S0 (iv1) := by
  intro n
  induction n with
  | zero =>
    intro f m q s iv1 hn hf hm hF hTS hR hs hL
    obtain ⟨t, ht, e6, hq⟩ := hTS
    obtain ⟨hq9, -, -, -⟩ := hTA.at hN9 ht hq
    omega
  | succ n ih =>
    intro f m q s iv1 hn hf hm hF hTS hR hs hL
    have hNl := hTA.1
    have hT1 : ∀ j, 0 ≤ j → j < 120 → iv1 51 j = T j := by rw [hF.1 51 (by decide) (by omega), h0 51 (by omega)]; exact hT
    have hA1 : TA iv1 T z N := hTA.fr (fun p p0 p1 => hF.1 p (by omega) (by omega))
    have hq9 : 0 ≤ q ∧ q ≤ z := by
      obtain ⟨t, ht, e6, hq⟩ := id hTS
      exact (hTA.at hN9 ht hq).1
    have hmm := hs.many
    have hMs := (rdIt_Ms (s0 := s) (T := T) (WL := wd f1 7 T z) (WM := wd f2 4 T z) (WO := wd f3 5 T z) (z := z) (q := q) (by have := wd_rng f1 7 T z q; omega) (by have := wd_rng f3 5 T z q; omega) ⟨hs, fun _ _ => rfl⟩).1
    obtain ⟨X, hX⟩ : ∃ X, X = rdIt T z (wd f1 7 T z) (wd f2 4 T z) (wd f3 5 T z) s q := ⟨_, rfl⟩
    have hXq := rdIt_q (T := T) (WL := wd f1 7 T z) (WM := wd f2 4 T z) (WO := wd f3 5 T z) (s := s) hq9.2
    rw [← hX] at hXq hL hMs
    refine J.iload_n (q := 12) dX3_readInto_11 rfl ?_ rfl
    refine J.bipush (q := 14) dX3_readInto_12 (by decide) ?_ rfl
    refine J.icmp_gt (tgt := 92) (q := 17) dX3_readInto_14 rfl rfl (fun c14 => ?_) (fun c14 => ?_)
    · have hqz : q = z ∧ m = 121 := by omega
      have hk0 : tK T z q = 0 := by
        unfold tK tK'
        rw [hqz.1, tB_z, if_pos rfl]
      have hXe : X = (false, s, q) := by
        rw [hX]
        refine rdIt_end ?_ ?_
        · unfold wd; rw [if_neg (by omega)]; decide
        · unfold wd; rw [if_neg (by omega)]; decide
      have hYe : Y = (m, (false, s, q)) := by rw [← hL, hXe]; exact txL_stop (fun h => by cases h.1) f
      obtain ⟨t, ht, e6, hq⟩ := id hTS
      obtain ⟨-, e53, -, -⟩ := hA1.at hN9 ht hq
      refine J.iconst (q := 93) dX3_readInto_92 ?_ rfl
      refine J.aload_n (q := 94) dX3_readInto_93 rfl ?_ rfl
      refine J.getR (ci := 3) (k0 := 3) (c1 := 53) (q := 97) dX3_readInto_94 kF_X3_22 rfl (by decide) (by decide) rfl (by decide) rfl ?_ rfl
      refine J.aload_n (q := 98) dX3_readInto_97 rfl ?_ rfl
      refine J.getI (ci := 3) (k0 := 6) (kz := 6) (q := 101) dX3_readInto_98 kF_X3_31 rfl (by decide) (by decide) rfl (.inl rfl) ?_ rfl
      rw [e6]
      refine J.iald (n := 121) (q := 102) dX3_readInto_101 rfl (by omega) ?_ rfl
      rw [e53]
      refine J.isub (q := 103) dX3_readInto_102 ?_ rfl
      refine J.ireturn dX3_readInto_103 rfl ?_
      first
      | (rw [if_neg hng, hYe]; exact ⟨rfl, rfl, ⟨fun p p1 p2 p3 => (hF9.1 p p1 p2).trans (h0 p p3), fun j hj => by rw [hF9.2 j hj, h0 50 (by omega)]⟩, fun h => absurd (by rw [hYe]; exact h) hng⟩)
      | (rw [if_pos hyg, hYe]; exact ⟨rfl, rfl, ⟨fun p p1 p2 p3 => (hF9.1 p p1 p2).trans (h0 p p3), fun j hj => by rw [hF9.2 j hj, h0 50 (by omega)]⟩, fun _ => ⟨hr9, hm.1⟩⟩)
      | (rw [hYe, if_neg (fun h => by cases h.1)]; exact ⟨rfl, rfl, ⟨fun p p1 p2 p3 => (hF.1 p p1 p2).trans (h0 p p3), fun j hj => by rw [hF.2 j hj, h0 50 (by omega)]⟩, fun h => by cases h.1⟩)
      | (exfalso; omega)
    · 
      refine J.aload_n (q := 18) dX3_readInto_17 rfl ?_ rfl
      refine J.aload_n (q := 19) dX3_readInto_18 rfl ?_ rfl
      refine J.callV1 (ci := 3) (q := 22) dX3_readInto_19 mv_X3_readItem kL_X3_37 rfl (by decide) rfl ⟨by decide, by decide⟩ (Nat.le_of_ble_eq_true rfl) ⟨by decide, by decide⟩ rfl (c_readItem hT1 hb hz hA1 hN9 hTS hW1 hW2 hW3 hR (by omega) hX.symm) (fun v9 S9 iv9 hp => ?_)
      obtain ⟨rfl, rfl, w0, w1, w2⟩ := hp
      have hF9 := hF.tr w0
      have hA9 : TA iv9 T z N := hTA.fr (fun p p0 p1 => hF9.1 p (by omega) (by omega))
      obtain ⟨t, ht, e6, hq⟩ := id w1
      obtain ⟨hq8, e53, e54, hcase⟩ := hA9.at hN9 ht hq
      have h52 : 0 ≤ iv9 52 t ∧ iv9 52 t ≤ 4 := by
        have := sS_r T (tB T z X.2.2)
        rcases hcase with h | h <;> omega
      refine J.ifb_ne (tgt := 37) (q := 25) dX3_readInto_22 rfl rfl (fun c22 => ?_) (fun c22 => ?_)
      · have hr9 := w2 c22
        have hks : (iv9 52 t = 0 ∧ tK T z X.2.2 = 0) ∨ (iv9 52 t = 3 ∧ tK T z X.2.2 = 3 ∧ t < N ∧ tB T z X.2.2 < z) ∨ (iv9 52 t ≠ 0 ∧ iv9 52 t ≠ 3 ∧ tK T z X.2.2 ≠ 0 ∧ tK T z X.2.2 ≠ 3) := by
          rcases hcase with h | h
          · exact Or.inl ⟨h.2.1, h.2.2⟩
          · rcases tK_s h.2.1 with y | y | y | y | y <;> omega
        refine J.aload_n (q := 38) dX3_readInto_37 rfl ?_ rfl
        refine J.getR (ci := 3) (k0 := 2) (c1 := 52) (q := 41) dX3_readInto_38 kF_X3_19 rfl (by decide) (by decide) rfl (by decide) rfl ?_ rfl
        refine J.aload_n (q := 42) dX3_readInto_41 rfl ?_ rfl
        refine J.getI (ci := 3) (k0 := 6) (kz := 6) (q := 45) dX3_readInto_42 kF_X3_31 rfl (by decide) (by decide) rfl (.inl rfl) ?_ rfl
        rw [e6]
        refine J.iald (n := 121) (q := 46) dX3_readInto_45 rfl (by omega) ?_ rfl
        refine J.if_ne (tgt := 51) (q := 49) (hv := by omega) dX3_readInto_46 rfl rfl (fun c46 => ?_) (fun c46 => ?_)
        · refine J.aload_n (q := 52) dX3_readInto_51 rfl ?_ rfl
          refine J.getR (ci := 3) (k0 := 2) (c1 := 52) (q := 55) dX3_readInto_52 kF_X3_19 rfl (by decide) (by decide) rfl (by decide) rfl ?_ rfl
          refine J.aload_n (q := 56) dX3_readInto_55 rfl ?_ rfl
          refine J.getI (ci := 3) (k0 := 6) (kz := 6) (q := 59) dX3_readInto_56 kF_X3_31 rfl (by decide) (by decide) rfl (.inl rfl) ?_ rfl
          rw [e6]
          refine J.iald (n := 121) (q := 60) dX3_readInto_59 rfl (by omega) ?_ rfl
          refine J.iconst (q := 61) dX3_readInto_60 ?_ rfl
          refine J.icmp_eq (tgt := 76) (q := 64) (hv := by omega) dX3_readInto_61 rfl rfl (fun c61 => ?_) (fun c61 => ?_)
          · have hk3 : tK T z X.2.2 = 3 ∧ t < N ∧ tB T z X.2.2 < z := by omega
            obtain ⟨f, rfl⟩ : ∃ g, f = g + 1 := ⟨f - 1, by omega⟩
            rw [txL, if_pos ⟨c22, hk3.1⟩] at hL
            have hee := tE_rng (T := T) hq8.2
            have hbb := tB_rng (T := T) hq8.2
            have hel := hee.2.2 (by omega)
            refine J.aload_n (q := 77) dX3_readInto_76 rfl ?_ rfl
            refine J.dup (q := 78) dX3_readInto_77 rfl ?_ rfl
            refine J.getI (ci := 3) (k0 := 6) (kz := 6) (q := 81) dX3_readInto_78 kF_X3_31 rfl (by decide) (by decide) rfl (.inl rfl) ?_ rfl
            rw [e6]
            refine J.iconst (q := 82) dX3_readInto_81 ?_ rfl
            refine J.iadd (q := 83) dX3_readInto_82 ?_ rfl
            refine J.putI (ci := 3) (k0 := 6) (kz := 6) (q := 86) dX3_readInto_83 kF_X3_31 rfl (by decide) (by decide) rfl rfl rfl ?_ rfl
            refine J.iinc (q := 89) dX3_readInto_86 rfl ?_ rfl
            refine J.goto (tgt := 11) dX3_readInto_89 rfl ?_
            refine ih f (m + 1) (tE T z X.2.2) X.2.1 _ (by omega) (by omega) (by omega) ⟨fun p hp hr => (up_n _ _ _ hp).trans (hF9.1 p hp hr), fun j hj => by rw [up_s, upr_n _ _ hj]; exact hF9.2 j hj⟩ ⟨t + 1, by omega, by rw [up_s, upr_s]; omega, ?_⟩ (n26 hr9 (by omega)) hMs hL
            show tE T z (qn T z t) = _
            rw [hq]
          · have hYe : Y = (m, X) := by rw [← hL]; exact txL_stop (fun h => by omega) f
            have hng : ¬ txG T z Y := fun h => by have h9 := h.2; rw [hYe] at h9; have h9 : tK T z X.2.2 = 0 := h9; omega
            refine J.iconst (q := 65) dX3_readInto_64 ?_ rfl
            refine J.aload_n (q := 66) dX3_readInto_65 rfl ?_ rfl
            refine J.getR (ci := 3) (k0 := 3) (c1 := 53) (q := 69) dX3_readInto_66 kF_X3_22 rfl (by decide) (by decide) rfl (by decide) rfl ?_ rfl
            refine J.aload_n (q := 70) dX3_readInto_69 rfl ?_ rfl
            refine J.getI (ci := 3) (k0 := 6) (kz := 6) (q := 73) dX3_readInto_70 kF_X3_31 rfl (by decide) (by decide) rfl (.inl rfl) ?_ rfl
            rw [e6]
            refine J.iald (n := 121) (q := 74) dX3_readInto_73 rfl (by omega) ?_ rfl
            rw [e53]
            refine J.isub (q := 75) dX3_readInto_74 ?_ rfl
            refine J.ireturn dX3_readInto_75 rfl ?_
            first
            | (rw [if_neg hng, hYe]; exact ⟨rfl, rfl, ⟨fun p p1 p2 p3 => (hF9.1 p p1 p2).trans (h0 p p3), fun j hj => by rw [hF9.2 j hj, h0 50 (by omega)]⟩, fun h => absurd (by rw [hYe]; exact h) hng⟩)
            | (rw [if_pos hyg, hYe]; exact ⟨rfl, rfl, ⟨fun p p1 p2 p3 => (hF9.1 p p1 p2).trans (h0 p p3), fun j hj => by rw [hF9.2 j hj, h0 50 (by omega)]⟩, fun _ => ⟨hr9, hm.1⟩⟩)
            | (rw [hYe, if_neg (fun h => by cases h.1)]; exact ⟨rfl, rfl, ⟨fun p p1 p2 p3 => (hF.1 p p1 p2).trans (h0 p p3), fun j hj => by rw [hF.2 j hj, h0 50 (by omega)]⟩, fun h => by cases h.1⟩)
            | (exfalso; omega)
        · have hYe : Y = (m, X) := by rw [← hL]; exact txL_stop (fun h => by omega) f
          have hyg : txG T z Y := by rw [hYe]; exact ⟨c22, by show tK T z X.2.2 = 0; omega⟩
          refine J.iload_n (q := 50) dX3_readInto_49 rfl ?_ rfl
          refine J.ireturn dX3_readInto_50 rfl ?_
          first
          | (rw [if_neg hng, hYe]; exact ⟨rfl, rfl, ⟨fun p p1 p2 p3 => (hF9.1 p p1 p2).trans (h0 p p3), fun j hj => by rw [hF9.2 j hj, h0 50 (by omega)]⟩, fun h => absurd (by rw [hYe]; exact h) hng⟩)
          | (rw [if_pos hyg, hYe]; exact ⟨rfl, rfl, ⟨fun p p1 p2 p3 => (hF9.1 p p1 p2).trans (h0 p p3), fun j hj => by rw [hF9.2 j hj, h0 50 (by omega)]⟩, fun _ => ⟨hr9, hm.1⟩⟩)
          | (rw [hYe, if_neg (fun h => by cases h.1)]; exact ⟨rfl, rfl, ⟨fun p p1 p2 p3 => (hF.1 p p1 p2).trans (h0 p p3), fun j hj => by rw [hF.2 j hj, h0 50 (by omega)]⟩, fun h => by cases h.1⟩)
          | (exfalso; omega)
      · have hYe : Y = (m, X) := by rw [← hL]; exact txL_stop (fun h => c22 h.1) f
        have hng : ¬ txG T z Y := fun h => c22 (by have := h.1; rw [hYe] at this; exact this)
        refine J.iconst (q := 26) dX3_readInto_25 ?_ rfl
        refine J.aload_n (q := 27) dX3_readInto_26 rfl ?_ rfl
        refine J.getR (ci := 3) (k0 := 3) (c1 := 53) (q := 30) dX3_readInto_27 kF_X3_22 rfl (by decide) (by decide) rfl (by decide) rfl ?_ rfl
        refine J.aload_n (q := 31) dX3_readInto_30 rfl ?_ rfl
        refine J.getI (ci := 3) (k0 := 6) (kz := 6) (q := 34) dX3_readInto_31 kF_X3_31 rfl (by decide) (by decide) rfl (.inl rfl) ?_ rfl
        rw [e6]
        refine J.iald (n := 121) (q := 35) dX3_readInto_34 rfl (by omega) ?_ rfl
        rw [e53]
        refine J.isub (q := 36) dX3_readInto_35 ?_ rfl
        refine J.ireturn dX3_readInto_36 rfl ?_
        first
        | (rw [if_neg hng, hYe]; exact ⟨rfl, rfl, ⟨fun p p1 p2 p3 => (hF9.1 p p1 p2).trans (h0 p p3), fun j hj => by rw [hF9.2 j hj, h0 50 (by omega)]⟩, fun h => absurd (by rw [hYe]; exact h) hng⟩)
        | (rw [if_pos hyg, hYe]; exact ⟨rfl, rfl, ⟨fun p p1 p2 p3 => (hF9.1 p p1 p2).trans (h0 p p3), fun j hj => by rw [hF9.2 j hj, h0 50 (by omega)]⟩, fun _ => ⟨hr9, hm.1⟩⟩)
        | (rw [hYe, if_neg (fun h => by cases h.1)]; exact ⟨rfl, rfl, ⟨fun p p1 p2 p3 => (hF.1 p p1 p2).trans (h0 p p3), fun j hj => by rw [hF.2 j hj, h0 50 (by omega)]⟩, fun h => by cases h.1⟩)
        | (exfalso; omega)

set_option maxRecDepth 100000 in
set_option maxHeartbeats 4000000 in
theorem c_readInto {l : Launch} {F : Nat × (Int → Int)} {iv : Mm} {T : Int → Int} {z : Int} (hT : ∀ j, 0 ≤ j → j < 120 → iv 51 j = T j) (hb : ∀ j, 0 ≤ j → j < 120 → 0 ≤ T j ∧ T j ≤ 255) (hz : 0 ≤ z ∧ z ≤ 120) (e0 : iv 50 0 = z) {f1 f2 f3 : Int → Int} (hW1 : ∀ j, 0 ≤ j → j < 56 → f1 j = g71 j) (hW2 : ∀ j, 0 ≤ j → j < 32 → f2 j = g72 j) (hW3 : ∀ j, 0 ≤ j → j < 40 → f3 j = g73 j) {s : Int → Int} {Y : Int × Pst} (hR : RR iv 26 s) (hs : MI 99999 s) (hY : txT T z (wd f1 7 T z) (wd f2 4 T z) (wd f3 5 T z) s = Y) : Ctr l F 9 0 0 yX3_readInto cX3_readInto 3 (some FieldType.int) [r_ 50, r_ 26] S0 (iv) (fun v S iv2 => v = some (i_ (if txG T z Y then Y.1 else -1 - tB T z Y.2.2.2)) ∧ S = S0 ∧ ((∀ p, p ≠ 50 → (p < 26 ∨ 37 < p) → (p < 52 ∨ 55 < p) → iv2 p = iv p) ∧ ∀ j : Int, j ≠ 6 → iv2 50 j = iv 50 j) ∧ (txG T z Y → RR iv2 26 Y.2.2.1 ∧ 1 ≤ Y.1)) := by
  refine Ctr.of false (fun h => by cases h) (by decide) rfl (Nat.le_of_ble_eq_true rfl) ?_
  refine J.aload_n (q := 1) dX3_readInto_0 rfl ?_ rfl
  refine J.callV0 (ci := 3) (q := 4) dX3_readInto_1 mv_X3_cutTokens kL_X3_34 rfl (by decide) rfl ⟨by decide, by decide⟩ (Nat.le_of_ble_eq_true rfl) ⟨by decide, by decide⟩ rfl (c_X3_cutTokens hT hb hz e0) (fun v9 S9 iv9 hp => ?_)
  obtain ⟨rfl, rfl, b1, N, hTA, hN9⟩ := hp
  refine J.aload_n (q := 5) dX3_readInto_4 rfl ?_ rfl
  refine J.iconst (q := 6) dX3_readInto_5 ?_ rfl
  refine J.putI (ci := 3) (k0 := 6) (kz := 6) (q := 9) dX3_readInto_6 kF_X3_31 rfl (by decide) (by decide) rfl rfl rfl ?_ rfl
  refine J.iconst (q := 10) dX3_readInto_9 ?_ rfl
  refine J.istore_n (q := 11) dX3_readInto_10 (Nat.le_of_ble_eq_true rfl) ?_ rfl
  refine readInto_loop (iv := up iv9 50 6 0) (iv0 := up iv 50 6 0) (N := N) (by rw [up_n _ _ _ (by decide)]; exact hT) hb hz (fun p hp => ?_) (hTA.fr (fun p p0 p1 => up_n _ _ _ (by omega))) hN9 hW1 hW2 hW3 122 121 1 0 s _ (by omega) (by omega) (by omega) Fw.rf ⟨0, Nat.zero_le _, by rw [up_s, upr_s]; rfl, rfl⟩ (n26 (f26 hR (fun p p0 p1 p2 => b1 p (by omega))) (by omega)) hs hY |> J.mono ?_
  · rintro v S iv2 ⟨h1, h2, ⟨h3, h4⟩, h5⟩
    exact ⟨h1, h2, ⟨fun p p1 p2 p3 => (h3 p p1 p2 p3).trans (up_n _ _ _ p1), fun j hj => (h4 j hj).trans (by rw [up_s, upr_n _ _ hj])⟩, h5⟩
  · by_cases e : p = 50
    · subst e; rw [up_s, up_s, b1 50 (by omega)]
    · rw [up_n _ _ _ e, up_n _ _ _ e]; exact b1 p hp

theorem txL_r {T WL WM WO : Int → Int} {z : Int} : ∀ (f : Nat) (m : Int) (X : Pst), (0 ≤ X.2.2 ∧ X.2.2 ≤ z) → (0 ≤ (txL T z WL WM WO f m X).2.2.2 ∧ (txL T z WL WM WO f m X).2.2.2 ≤ z) ∧ m ≤ (txL T z WL WM WO f m X).1 ∧ (txL T z WL WM WO f m X).1 ≤ m + f
  | 0, m, X, h => ⟨h, by show m ≤ m; omega, by show m ≤ m + ((0 : Nat) : Int); omega⟩
  | f + 1, m, X, h => by
    rw [txL]
    split
    · have h1 := tB_rng (T := T) h.2
      have h2 := tE_rng (T := T) h.2
      have h3 := rdIt_q (T := T) (WL := WL) (WM := WM) (WO := WO) (s := X.2.1) h2.2.1
      have h4 := txL_r (T := T) (z := z) (WL := WL) (WM := WM) (WO := WO) f (m + 1) (rdIt T z WL WM WO X.2.1 (tE T z X.2.2)) (by omega)
      omega
    · exact ⟨h, by show m ≤ m; omega, by show m ≤ m + ((f + 1 : Nat) : Int); omega⟩
theorem txA_q {A : Mm} (hA : AI A) : (0 ≤ (txA A).2.2.2 ∧ (txA A).2.2.2 ≤ A 61 10) ∧ 1 ≤ (txA A).1 ∧ (txA A).1 ≤ 122 := by
  have ht := hA.tp
  unfold txA txT
  have h3 := rdIt_q (T := A 70) (z := A 61 10) (WL := wd (A 71) 7 (A 70) (A 61 10)) (WM := wd (A 72) 4 (A 70) (A 61 10)) (WO := wd (A 73) 5 (A 70) (A 61 10)) (s := A 62) (q := 0) ht.1
  exact txL_r 121 1 _ ⟨h3.1, h3.2⟩
theorem txA_r {A : Mm} (hA : AI A) : 0 ≤ tB (A 70) (A 61 10) (txA A).2.2.2 := by
  have h := txA_q hA
  have := tB_rng (T := A 70) h.1.2
  omega
theorem txA_x {A : Mm} (hA : AI A) {x : Int} (hx : x = (if txG (A 70) (A 61 10) (txA A) then (txA A).1 else -1 - tB (A 70) (A 61 10) (txA A).2.2.2)) : -2147483648 ≤ x ∧ x < 2147483648 := by
  have h := txA_q hA
  have h2 := tB_rng (T := A 70) h.1.2
  have ht := hA.tp
  rw [hx]
  split <;> omega
set_option maxRecDepth 100000 in
set_option maxHeartbeats 4000000 in
theorem c_X5_text {l : Launch} {F : Nat × (Int → Int)} {iv A : Mm} (hC : CR iv A) (hA : AI A) (hW : WI A) : Ctr l F 10 0 0 yX5_text cX5_text 2 (some FieldType.int) [r_ 0] S0 (iv) (CP iv (an_text A)) := by
  refine Ctr.of false (fun h => by cases h) (by decide) rfl (Nat.le_of_ble_eq_true rfl) ?_
  have hI := hA.mi
  have hmm := hI.many
  have hkp := hA.kp
  have htp := hA.tp
  refine J.aload_n (q := 1) dX5_text_0 rfl ?_ rfl
  refine J.getR (ci := 5) (k0 := 4) (c1 := 50) (q := 4) dX5_text_1 kF_X5_36 rfl (by decide) (by decide) rfl (by decide) rfl ?_ rfl
  refine J.aload_n (q := 5) dX5_text_4 rfl ?_ rfl
  refine J.getR (ci := 5) (k0 := 2) (c1 := 25) (q := 8) dX5_text_5 kF_X5_22 rfl (by decide) (by decide) rfl (by decide) rfl ?_ rfl
  refine J.aload_n (q := 9) dX5_text_8 rfl ?_ rfl
  refine J.getR (ci := 5) (k0 := 0) (c1 := 1) (q := 12) dX5_text_9 kF_X5_12 rfl (by decide) (by decide) rfl (by decide) rfl ?_ rfl
  refine J.callV1 (ci := 0) (q := 15) dX5_text_12 mv_X0_draftOf kL_X5_230 rfl (by decide) rfl ⟨by decide, by decide⟩ (Nat.le_of_ble_eq_true rfl) ⟨by decide, by decide⟩ rfl (c_X0_draftOf hC.r) (fun v9 S9 iv9 hp => ?_)
  obtain ⟨rfl, rfl, hF9, hR9⟩ := hp
  refine J.callV1 (ci := 3) (q := 18) dX5_text_15 mv_X3_readInto kL_X5_234 rfl (by decide) rfl ⟨by decide, by decide⟩ (Nat.le_of_ble_eq_true rfl) ⟨by decide, by decide⟩ rfl (c_readInto (T := A 70) (z := A 61 10) (by rw [hF9 51 (by omega)]; exact hC.t) hA.by htp (by rw [hF9 50 (by omega)]; exact hC.z) hW.1 hW.2.1 hW.2.2 (Y := txA A) hR9 hI rfl) (fun v8 S8 iv8 hp => ?_)
  obtain ⟨rfl, rfl, ⟨h1, h2⟩, h3⟩ := hp
  obtain ⟨x, hx⟩ : ∃ x : Int, x = (if txG (A 70) (A 61 10) (txA A) then (txA A).1 else -1 - tB (A 70) (A 61 10) (txA A).2.2.2) := ⟨_, rfl⟩
  rw [← hx]
  have htq : 0 ≤ tB (A 70) (A 61 10) (txA A).2.2.2 := txA_r hA
  have hx1 : (txG (A 70) (A 61 10) (txA A) ∧ 1 ≤ x) ∨ (¬ txG (A 70) (A 61 10) (txA A) ∧ x < 0) := by
    by_cases h : txG (A 70) (A 61 10) (txA A)
    · exact Or.inl ⟨h, by rw [hx, if_pos h]; exact (h3 h).2⟩
    · exact Or.inr ⟨h, by rw [hx, if_neg h]; omega⟩
  have hxr : -2147483648 ≤ x ∧ x < 2147483648 := txA_x hA hx
  refine J.istore_n (q := 19) dX5_text_18 (Nat.le_of_ble_eq_true rfl) ?_ rfl
  refine J.iload_n (q := 20) dX5_text_19 rfl ?_ rfl
  refine J.if_le (tgt := 37) (q := 23) (hv := by omega) dX5_text_20 rfl rfl (fun c20 => ?_) (fun c20 => ?_)
  · have hg : ¬ txG (A 70) (A 61 10) (txA A) := by rcases hx1 with h | h; omega; exact h.1
    refine J.aload_n (q := 38) dX5_text_37 rfl ?_ rfl
    refine J.getR (ci := 5) (k0 := 4) (c1 := 50) (q := 41) dX5_text_38 kF_X5_36 rfl (by decide) (by decide) rfl (by decide) rfl ?_ rfl
    refine J.iconst (q := 42) dX5_text_41 ?_ rfl
    refine J.putI (ci := 3) (k0 := 0) (kz := 0) (q := 45) dX5_text_42 kF_X5_227 rfl (by decide) (by decide) rfl rfl rfl ?_ rfl
    refine J.iload_n (q := 46) dX5_text_45 rfl ?_ rfl
    refine J.ireturn dX5_text_46 rfl ?_
    unfold CP an_text
    first
    | (rw [if_pos hg]
       rw [if_pos hg] at hx
       refine ⟨congrArg (fun y => some (i_ y)) hx, rfl, fun p hp => ?_, ?_⟩
       · rw [up_n _ _ _ (by omega), m1 p (by omega), h1 p (by omega) (by omega) (by omega), hF9 p (by omega)]
       · refine hC.row (hR7.fr (fun p p0 p1 p2 => up_n _ _ _ (by omega))) (hC.k0 (fun p p0 p1 => by rw [up_n _ _ _ (by omega), m1 p (by omega), h1 p (by omega) (by omega) (by omega), hF9 p (by omega)])) ?_ (by rw [up_s, upr_s]; rfl) ?_ ?_ ?_ ?_ ?_ rfl rfl rfl rfl rfl
         · rw [up_n _ _ _ (by decide), m1 0 (by omega), h1 0 (by decide) (by omega) (by omega), hF9 0 (by omega)]; exact hC.i
         · rw [up_n _ _ _ (by decide), m1 60 (by omega), h1 60 (by decide) (by omega) (by omega), hF9 60 (by omega)]
         · rw [up_n _ _ _ (by decide), m1 51 (by omega), h1 51 (by decide) (by omega) (by omega), hF9 51 (by omega)]
         · rw [up_n _ _ _ (by decide), m1 57 (by omega), h1 57 (by decide) (by omega) (by omega), hF9 57 (by omega)]
         · rw [up_n _ _ _ (by decide), m1 58 (by omega), h1 58 (by decide) (by omega) (by omega), hF9 58 (by omega)]
         · rw [up_n _ _ _ (by decide), m1 59 (by omega), h1 59 (by decide) (by omega) (by omega), hF9 59 (by omega)])
    | (rw [if_neg hg]
       rw [if_neg hg] at hx
       refine ⟨congrArg (fun y => some (i_ y)) hx, rfl, fun p hp => ?_, ?_⟩
       · rw [up_n _ _ _ (by omega), h1 p (by omega) (by omega) (by omega), hF9 p (by omega)]
       · refine hC.row (hC.r.fr (fun p p0 p1 p2 => by rw [up_n _ _ _ (by omega), h1 p (by omega) (by omega) (by omega), hF9 p (by omega)])) (hC.k0 (fun p p0 p1 => by rw [up_n _ _ _ (by omega), h1 p (by omega) (by omega) (by omega), hF9 p (by omega)])) ?_ (by rw [up_s, upr_s]; rfl) ?_ ?_ ?_ ?_ ?_ rfl rfl rfl rfl rfl
         · rw [up_n _ _ _ (by decide), h1 0 (by decide) (by omega) (by omega), hF9 0 (by omega)]; exact hC.i
         · rw [up_n _ _ _ (by decide), h1 60 (by decide) (by omega) (by omega), hF9 60 (by omega)]
         · rw [up_n _ _ _ (by decide), h1 51 (by decide) (by omega) (by omega), hF9 51 (by omega)]
         · rw [up_n _ _ _ (by decide), h1 57 (by decide) (by omega) (by omega), hF9 57 (by omega)]
         · rw [up_n _ _ _ (by decide), h1 58 (by decide) (by omega) (by omega), hF9 58 (by omega)]
         · rw [up_n _ _ _ (by decide), h1 59 (by decide) (by omega) (by omega), hF9 59 (by omega)])
  · have hg : txG (A 70) (A 61 10) (txA A) := by rcases hx1 with h | h; exact h.1; omega
    have hr8 := (h3 hg).1
    refine J.aload_n (q := 24) dX5_text_23 rfl ?_ rfl
    refine J.getR (ci := 5) (k0 := 0) (c1 := 1) (q := 27) dX5_text_24 kF_X5_12 rfl (by decide) (by decide) rfl (by decide) rfl ?_ rfl
    refine J.aload_n (q := 28) dX5_text_27 rfl ?_ rfl
    refine J.getR (ci := 5) (k0 := 2) (c1 := 25) (q := 31) dX5_text_28 kF_X5_22 rfl (by decide) (by decide) rfl (by decide) rfl ?_ rfl
    refine J.getR (ci := 0) (k0 := 0) (c1 := 26) (q := 34) dX5_text_31 kF_X5_238 rfl (by decide) (by decide) rfl (by decide) rfl ?_ rfl
    refine J.callV1 (ci := 1) (q := 37) dX5_text_34 mv_X1_become kL_X5_241 rfl (by decide) rfl ⟨by decide, by decide⟩ (Nat.le_of_ble_eq_true rfl) ⟨by decide, by decide⟩ rfl (c_become1_26 hr8) (fun v7 S7 iv7 hp => ?_)
    obtain ⟨rfl, rfl, m1, hR7⟩ := hp
    refine J.aload_n (q := 38) dX5_text_37 rfl ?_ rfl
    refine J.getR (ci := 5) (k0 := 4) (c1 := 50) (q := 41) dX5_text_38 kF_X5_36 rfl (by decide) (by decide) rfl (by decide) rfl ?_ rfl
    refine J.iconst (q := 42) dX5_text_41 ?_ rfl
    refine J.putI (ci := 3) (k0 := 0) (kz := 0) (q := 45) dX5_text_42 kF_X5_227 rfl (by decide) (by decide) rfl rfl rfl ?_ rfl
    refine J.iload_n (q := 46) dX5_text_45 rfl ?_ rfl
    refine J.ireturn dX5_text_46 rfl ?_
    unfold CP an_text
    first
    | (rw [if_pos hg]
       rw [if_pos hg] at hx
       refine ⟨congrArg (fun y => some (i_ y)) hx, rfl, fun p hp => ?_, ?_⟩
       · rw [up_n _ _ _ (by omega), m1 p (by omega), h1 p (by omega) (by omega) (by omega), hF9 p (by omega)]
       · refine hC.row (hR7.fr (fun p p0 p1 p2 => up_n _ _ _ (by omega))) (hC.k0 (fun p p0 p1 => by rw [up_n _ _ _ (by omega), m1 p (by omega), h1 p (by omega) (by omega) (by omega), hF9 p (by omega)])) ?_ (by rw [up_s, upr_s]; rfl) ?_ ?_ ?_ ?_ ?_ rfl rfl rfl rfl rfl
         · rw [up_n _ _ _ (by decide), m1 0 (by omega), h1 0 (by decide) (by omega) (by omega), hF9 0 (by omega)]; exact hC.i
         · rw [up_n _ _ _ (by decide), m1 60 (by omega), h1 60 (by decide) (by omega) (by omega), hF9 60 (by omega)]
         · rw [up_n _ _ _ (by decide), m1 51 (by omega), h1 51 (by decide) (by omega) (by omega), hF9 51 (by omega)]
         · rw [up_n _ _ _ (by decide), m1 57 (by omega), h1 57 (by decide) (by omega) (by omega), hF9 57 (by omega)]
         · rw [up_n _ _ _ (by decide), m1 58 (by omega), h1 58 (by decide) (by omega) (by omega), hF9 58 (by omega)]
         · rw [up_n _ _ _ (by decide), m1 59 (by omega), h1 59 (by decide) (by omega) (by omega), hF9 59 (by omega)])
    | (rw [if_neg hg]
       rw [if_neg hg] at hx
       refine ⟨congrArg (fun y => some (i_ y)) hx, rfl, fun p hp => ?_, ?_⟩
       · rw [up_n _ _ _ (by omega), h1 p (by omega) (by omega) (by omega), hF9 p (by omega)]
       · refine hC.row (hC.r.fr (fun p p0 p1 p2 => by rw [up_n _ _ _ (by omega), h1 p (by omega) (by omega) (by omega), hF9 p (by omega)])) (hC.k0 (fun p p0 p1 => by rw [up_n _ _ _ (by omega), h1 p (by omega) (by omega) (by omega), hF9 p (by omega)])) ?_ (by rw [up_s, upr_s]; rfl) ?_ ?_ ?_ ?_ ?_ rfl rfl rfl rfl rfl
         · rw [up_n _ _ _ (by decide), h1 0 (by decide) (by omega) (by omega), hF9 0 (by omega)]; exact hC.i
         · rw [up_n _ _ _ (by decide), h1 60 (by decide) (by omega) (by omega), hF9 60 (by omega)]
         · rw [up_n _ _ _ (by decide), h1 51 (by decide) (by omega) (by omega), hF9 51 (by omega)]
         · rw [up_n _ _ _ (by decide), h1 57 (by decide) (by omega) (by omega), hF9 57 (by omega)]
         · rw [up_n _ _ _ (by decide), h1 58 (by decide) (by omega) (by omega), hF9 58 (by omega)]
         · rw [up_n _ _ _ (by decide), h1 59 (by decide) (by omega) (by omega), hF9 59 (by omega)])

