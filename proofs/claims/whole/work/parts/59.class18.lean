/-! the class: items are read (printed by wip/whole/m_c18.py) -/
def Fw (iv iv2 : Mm) : Prop := (∀ p, p ≠ 50 → (p < 26 ∨ 37 < p) → iv2 p = iv p) ∧ ∀ j : Int, j ≠ 6 → iv2 50 j = iv 50 j
theorem Fw.rf {iv : Mm} : Fw iv iv := ⟨fun _ _ _ => rfl, fun _ _ => rfl⟩
theorem Fw.tr {a b c : Mm} (h : Fw a b) (g : Fw b c) : Fw a c := ⟨fun p hp hq => (g.1 p hp hq).trans (h.1 p hp hq), fun j hj => (g.2 j hj).trans (h.2 j hj)⟩
theorem Aw.fw {iv iv2 : Mm} (h : Aw iv iv2) : Fw iv iv2 := ⟨fun p hp _ => h.1 p hp, h.2⟩
theorem Fw.up {iv iv2 : Mm} (h : Fw iv iv2) {q : Nat} {a x : Int} (hq : 26 ≤ q ∧ q ≤ 37) : Fw iv (up iv2 q a x) := ⟨fun p hp hr => (up_n _ _ _ (by omega)).trans (h.1 p hp hr), fun j hj => by rw [up_n _ _ _ (by omega)]; exact h.2 j hj⟩
theorem TSt.up {iv : Mm} {T : Int → Int} {z q : Int} {N : Nat} (h : TSt iv T z N q) {p : Nat} {a x : Int} (hp : p ≠ 50) : TSt (up iv p a x) T z N q := by
  obtain ⟨t, h1, h2, h3⟩ := h
  exact ⟨t, h1, by rw [up_n _ _ _ (fun e => hp e.symm)]; exact h2, h3⟩
theorem Aw.T {iv iv2 : Mm} {T : Int → Int} (h : Aw iv iv2) (hT : ∀ j, 0 ≤ j → j < 120 → iv 51 j = T j) : ∀ j, 0 ≤ j → j < 120 → iv2 51 j = T j := by rw [h.1 51 (by decide)]; exact hT
theorem Aw.A {iv iv2 : Mm} {T : Int → Int} {z : Int} {N : Nat} (h : Aw iv iv2) (hA : TA iv T z N) : TA iv2 T z N := hA.fr (fun p p0 p1 => h.1 p (by omega))
theorem Aw.R {iv iv2 : Mm} {s : Int → Int} (h : Aw iv iv2) (hR : RR iv 26 s) : RR iv2 26 s := f26 hR (fun p p0 p1 p2 => h.1 p (by omega))
theorem addS_k {s : Int → Int} {kd c : Int} (h2 : 0 ≤ s 2) : addS s kd c (257 + 5 * s 2 + 1) = c ∧ addS s kd c (257 + 5 * s 2 + 2) = 0 ∧ addS s kd c (257 + 5 * s 2 + 3) = 80 ∧ addS s kd c (257 + 5 * s 2 + 4) = 1 := by
  unfold addS
  refine ⟨?_, ?_, ?_, ?_⟩
  · rw [upr_n _ _ (by omega), upr_n _ _ (by omega), upr_n _ _ (by omega), upr_n _ _ (by omega), upr_s]
  · rw [upr_n _ _ (by omega), upr_n _ _ (by omega), upr_n _ _ (by omega), upr_s]
  · rw [upr_n _ _ (by omega), upr_n _ _ (by omega), upr_s]
  · rw [upr_n _ _ (by omega), upr_s]
set_option maxRecDepth 100000 in
set_option maxHeartbeats 4000000 in
theorem c_readHedge {l : Launch} {F : Nat × (Int → Int)} {iv : Mm} {T : Int → Int} {z q : Int} {N : Nat} (hT : ∀ j, 0 ≤ j → j < 120 → iv 51 j = T j) (hb : ∀ j, 0 ≤ j → j < 120 → 0 ≤ T j ∧ T j ≤ 255) (hz : 0 ≤ z ∧ z ≤ 120) (hTA : TA iv T z N) (hN9 : 0 ≤ qn T z N ∧ qn T z N ≤ z) (hTS : TSt iv T z N q) {s : Int → Int} {X : Pst} (hR : RR iv 26 s) (hX : (if tkN T z q 80 < 0 then (false, s, q) else (true, upr s (14 + tkN T z q 80) 1, tE T z q)) = X) : Ctr l F 1 0 0 yX3_readHedge cX3_readHedge 3 (some FieldType.boolean) [r_ 50, r_ 26] S0 (iv) (fun v S iv2 => v = some (i_ (b2 (X.1 = true))) ∧ S = S0 ∧ Fw iv iv2 ∧ TSt iv2 T z N X.2.2 ∧ (X.1 = true → RR iv2 26 X.2.1)) := by
  refine Ctr.of false (fun h => by cases h) (by decide) rfl (Nat.le_of_ble_eq_true rfl) ?_
  refine J.aload_n (q := 1) dX3_readHedge_0 rfl ?_ rfl
  refine J.bipush (q := 3) dX3_readHedge_1 (by decide) ?_ rfl
  refine J.callV1 (ci := 3) (q := 6) dX3_readHedge_3 mv_X3_takeNumber kL_X3_139 rfl (by decide) rfl ⟨by decide, by decide⟩ (Nat.le_of_ble_eq_true rfl) ⟨by decide, by decide⟩ rfl (c_takeNumber hT hb hz hTA hN9 hTS (m := 80) (by omega)) (fun v9 S9 iv9 hp => ?_)
  obtain ⟨rfl, rfl, a9, t9⟩ := hp
  have r9 := tkN_rng T z q 80
  refine J.istore_n (q := 7) dX3_readHedge_6 (Nat.le_of_ble_eq_true rfl) ?_ rfl
  refine J.iload_n (q := 8) dX3_readHedge_7 rfl ?_ rfl
  refine J.if_ge (tgt := 13) (q := 11) (hv := by omega) dX3_readHedge_8 rfl rfl (fun c8 => ?_) (fun c8 => ?_)
  · rw [if_neg (by omega)] at hX
    rw [tkQ, if_pos (by omega)] at t9
    refine J.aload_n (q := 14) dX3_readHedge_13 rfl ?_ rfl
    refine J.getR (ci := 1) (k0 := 0) (c1 := 27) (q := 17) dX3_readHedge_14 kF_X3_142 rfl (by decide) (by decide) rfl (by decide) rfl ?_ rfl
    refine J.iload_n (q := 18) dX3_readHedge_17 rfl ?_ rfl
    refine J.iconst (q := 19) dX3_readHedge_18 ?_ rfl
    refine J.iast (n := 81) (q := 20) dX3_readHedge_19 rfl (by omega) ?_ rfl
    refine J.iconst (q := 21) dX3_readHedge_20 ?_ rfl
    refine J.zreturn dX3_readHedge_21 rfl (by omega) ?_
    subst hX
    first
    | exact ⟨rfl, rfl, a9.fw, t9, fun h => (by cases h)⟩
    | exact ⟨rfl, rfl, a9.fw.up (by decide), t9.up (by decide), fun _ => u26_hed (a9.R hR) (by omega) (by omega)⟩
  · rw [if_pos (by omega)] at hX
    rw [tkQ, if_neg (by omega)] at t9
    refine J.iconst (q := 12) dX3_readHedge_11 ?_ rfl
    refine J.zreturn dX3_readHedge_12 rfl (by omega) ?_
    subst hX
    first
    | exact ⟨rfl, rfl, a9.fw, t9, fun h => (by cases h)⟩
    | exact ⟨rfl, rfl, a9.fw.up (by decide), t9.up (by decide), fun _ => u26_hed (a9.R hR) (by omega) (by omega)⟩

set_option maxRecDepth 100000 in
set_option maxHeartbeats 4000000 in
theorem c_readWet {l : Launch} {F : Nat × (Int → Int)} {iv : Mm} {T : Int → Int} {z q : Int} {N : Nat} (hT : ∀ j, 0 ≤ j → j < 120 → iv 51 j = T j) (hb : ∀ j, 0 ≤ j → j < 120 → 0 ≤ T j ∧ T j ≤ 255) (hz : 0 ≤ z ∧ z ≤ 120) (hTA : TA iv T z N) (hN9 : 0 ≤ qn T z N ∧ qn T z N ≤ z) (hTS : TSt iv T z N q) {s : Int → Int} {X : Pst} (hR : RR iv 26 s) (hX : (if tkN T z q 9 < 0 then (false, s, q) else (true, upr s 4 (tkN T z q 9), tE T z q)) = X) : Ctr l F 1 0 0 yX3_readWet cX3_readWet 3 (some FieldType.boolean) [r_ 50, r_ 26] S0 (iv) (fun v S iv2 => v = some (i_ (b2 (X.1 = true))) ∧ S = S0 ∧ Fw iv iv2 ∧ TSt iv2 T z N X.2.2 ∧ (X.1 = true → RR iv2 26 X.2.1)) := by
  refine Ctr.of false (fun h => by cases h) (by decide) rfl (Nat.le_of_ble_eq_true rfl) ?_
  refine J.aload_n (q := 1) dX3_readWet_0 rfl ?_ rfl
  refine J.bipush (q := 3) dX3_readWet_1 (by decide) ?_ rfl
  refine J.callV1 (ci := 3) (q := 6) dX3_readWet_3 mv_X3_takeNumber kL_X3_139 rfl (by decide) rfl ⟨by decide, by decide⟩ (Nat.le_of_ble_eq_true rfl) ⟨by decide, by decide⟩ rfl (c_takeNumber hT hb hz hTA hN9 hTS (m := 9) (by omega)) (fun v9 S9 iv9 hp => ?_)
  obtain ⟨rfl, rfl, a9, t9⟩ := hp
  have r9 := tkN_rng T z q 9
  refine J.istore_n (q := 7) dX3_readWet_6 (Nat.le_of_ble_eq_true rfl) ?_ rfl
  refine J.iload_n (q := 8) dX3_readWet_7 rfl ?_ rfl
  refine J.if_ge (tgt := 13) (q := 11) (hv := by omega) dX3_readWet_8 rfl rfl (fun c8 => ?_) (fun c8 => ?_)
  · rw [if_neg (by omega)] at hX
    rw [tkQ, if_pos (by omega)] at t9
    refine J.aload_n (q := 14) dX3_readWet_13 rfl ?_ rfl
    refine J.iload_n (q := 15) dX3_readWet_14 rfl ?_ rfl
    refine J.putI (ci := 1) (k0 := 12) (kz := 12) (q := 18) dX3_readWet_15 kF_X3_151 rfl (by decide) (by decide) rfl rfl rfl ?_ rfl
    refine J.iconst (q := 19) dX3_readWet_18 ?_ rfl
    refine J.zreturn dX3_readWet_19 rfl (by omega) ?_
    subst hX
    first
    | exact ⟨rfl, rfl, a9.fw, t9, fun h => (by cases h)⟩
    | exact ⟨rfl, rfl, a9.fw.up (by decide), t9.up (by decide), fun _ => u26_wet (a9.R hR)⟩
  · rw [if_pos (by omega)] at hX
    rw [tkQ, if_neg (by omega)] at t9
    refine J.iconst (q := 12) dX3_readWet_11 ?_ rfl
    refine J.zreturn dX3_readWet_12 rfl (by omega) ?_
    subst hX
    first
    | exact ⟨rfl, rfl, a9.fw, t9, fun h => (by cases h)⟩
    | exact ⟨rfl, rfl, a9.fw.up (by decide), t9.up (by decide), fun _ => u26_wet (a9.R hR)⟩

set_option maxRecDepth 100000 in
set_option maxHeartbeats 4000000 in
theorem c_readThrush {l : Launch} {F : Nat × (Int → Int)} {iv : Mm} {T : Int → Int} {z q : Int} {N : Nat} (hT : ∀ j, 0 ≤ j → j < 120 → iv 51 j = T j) (hb : ∀ j, 0 ≤ j → j < 120 → 0 ≤ T j ∧ T j ≤ 255) (hz : 0 ≤ z ∧ z ≤ 120) (hTA : TA iv T z N) (hN9 : 0 ≤ qn T z N ∧ qn T z N ≤ z) (hTS : TSt iv T z N q) {s : Int → Int} {X : Pst} (hR : RR iv 26 s) (hX : (if tkN T z q 20 < 0 then (false, s, q) else (true, upr s 5 (tkN T z q 20), tE T z q)) = X) : Ctr l F 1 0 0 yX3_readThrush cX3_readThrush 3 (some FieldType.boolean) [r_ 50, r_ 26] S0 (iv) (fun v S iv2 => v = some (i_ (b2 (X.1 = true))) ∧ S = S0 ∧ Fw iv iv2 ∧ TSt iv2 T z N X.2.2 ∧ (X.1 = true → RR iv2 26 X.2.1)) := by
  refine Ctr.of false (fun h => by cases h) (by decide) rfl (Nat.le_of_ble_eq_true rfl) ?_
  refine J.aload_n (q := 1) dX3_readThrush_0 rfl ?_ rfl
  refine J.bipush (q := 3) dX3_readThrush_1 (by decide) ?_ rfl
  refine J.callV1 (ci := 3) (q := 6) dX3_readThrush_3 mv_X3_takeNumber kL_X3_139 rfl (by decide) rfl ⟨by decide, by decide⟩ (Nat.le_of_ble_eq_true rfl) ⟨by decide, by decide⟩ rfl (c_takeNumber hT hb hz hTA hN9 hTS (m := 20) (by omega)) (fun v9 S9 iv9 hp => ?_)
  obtain ⟨rfl, rfl, a9, t9⟩ := hp
  have r9 := tkN_rng T z q 20
  refine J.istore_n (q := 7) dX3_readThrush_6 (Nat.le_of_ble_eq_true rfl) ?_ rfl
  refine J.iload_n (q := 8) dX3_readThrush_7 rfl ?_ rfl
  refine J.if_ge (tgt := 13) (q := 11) (hv := by omega) dX3_readThrush_8 rfl rfl (fun c8 => ?_) (fun c8 => ?_)
  · rw [if_neg (by omega)] at hX
    rw [tkQ, if_pos (by omega)] at t9
    refine J.aload_n (q := 14) dX3_readThrush_13 rfl ?_ rfl
    refine J.iload_n (q := 15) dX3_readThrush_14 rfl ?_ rfl
    refine J.putI (ci := 1) (k0 := 13) (kz := 13) (q := 18) dX3_readThrush_15 kF_X3_153 rfl (by decide) (by decide) rfl rfl rfl ?_ rfl
    refine J.iconst (q := 19) dX3_readThrush_18 ?_ rfl
    refine J.zreturn dX3_readThrush_19 rfl (by omega) ?_
    subst hX
    first
    | exact ⟨rfl, rfl, a9.fw, t9, fun h => (by cases h)⟩
    | exact ⟨rfl, rfl, a9.fw.up (by decide), t9.up (by decide), fun _ => u26_thr (a9.R hR)⟩
  · rw [if_pos (by omega)] at hX
    rw [tkQ, if_neg (by omega)] at t9
    refine J.iconst (q := 12) dX3_readThrush_11 ?_ rfl
    refine J.zreturn dX3_readThrush_12 rfl (by omega) ?_
    subst hX
    first
    | exact ⟨rfl, rfl, a9.fw, t9, fun h => (by cases h)⟩
    | exact ⟨rfl, rfl, a9.fw.up (by decide), t9.up (by decide), fun _ => u26_thr (a9.R hR)⟩

set_option maxRecDepth 100000 in
set_option maxHeartbeats 4000000 in
theorem readGreens_f {l : Launch} {F : Nat × (Int → Int)} {iv : Mm} {P : Option VT → Shp → Mm → Prop} {v1 : Int} (hP : P (some (i_ 0)) S0 iv) : J l (yX3_readGreens).cls cX3_readGreens 4 (some FieldType.boolean) 1 0 0 false F (P) 0 0 22 [some (r_ 50), some (r_ 26), some (i_ v1), some (i_ (-1))] [] S0 (iv) := by
  refine J.iload_n (q := 23) dX3_readGreens_22 rfl ?_ rfl
  refine J.if_ge (tgt := 28) (q := 26) dX3_readGreens_23 rfl rfl (fun c => absurd c (by decide)) (fun c23 => ?_)
  refine J.iconst (q := 27) dX3_readGreens_26 ?_ rfl
  refine J.zreturn dX3_readGreens_27 rfl (by omega) ?_
  exact hP

set_option maxRecDepth 100000 in
set_option maxHeartbeats 4000000 in
theorem c_readGreens {l : Launch} {F : Nat × (Int → Int)} {iv : Mm} {T : Int → Int} {z q : Int} {N : Nat} (hT : ∀ j, 0 ≤ j → j < 120 → iv 51 j = T j) (hb : ∀ j, 0 ≤ j → j < 120 → 0 ≤ T j ∧ T j ≤ 255) (hz : 0 ≤ z ∧ z ≤ 120) (hTA : TA iv T z N) (hN9 : 0 ≤ qn T z N ∧ qn T z N ≤ z) (hTS : TSt iv T z N q) {s : Int → Int} {X : Pst} (hR : RR iv 26 s) (hX : (if tkN T z q 80 < 0 then (false, s, q) else if tkN T z (tE T z q) 9 < 0 then (false, s, tE T z q) else (true, upr s (95 + tkN T z q 80) (tkN T z (tE T z q) 9), tE T z (tE T z q))) = X) : Ctr l F 1 0 0 yX3_readGreens cX3_readGreens 4 (some FieldType.boolean) [r_ 50, r_ 26] S0 (iv) (fun v S iv2 => v = some (i_ (b2 (X.1 = true))) ∧ S = S0 ∧ Fw iv iv2 ∧ TSt iv2 T z N X.2.2 ∧ (X.1 = true → RR iv2 26 X.2.1)) := by
  refine Ctr.of false (fun h => by cases h) (by decide) rfl (Nat.le_of_ble_eq_true rfl) ?_
  refine J.aload_n (q := 1) dX3_readGreens_0 rfl ?_ rfl
  refine J.bipush (q := 3) dX3_readGreens_1 (by decide) ?_ rfl
  refine J.callV1 (ci := 3) (q := 6) dX3_readGreens_3 mv_X3_takeNumber kL_X3_139 rfl (by decide) rfl ⟨by decide, by decide⟩ (Nat.le_of_ble_eq_true rfl) ⟨by decide, by decide⟩ rfl (c_takeNumber hT hb hz hTA hN9 hTS (m := 80) (by omega)) (fun v9 S9 iv9 hp => ?_)
  obtain ⟨rfl, rfl, a9, t9⟩ := hp
  have r9 := tkN_rng T z q 80
  refine J.istore_n (q := 7) dX3_readGreens_6 (Nat.le_of_ble_eq_true rfl) ?_ rfl
  refine J.iload_n (q := 8) dX3_readGreens_7 rfl ?_ rfl
  refine J.if_ge (tgt := 15) (q := 11) (hv := by omega) dX3_readGreens_8 rfl rfl (fun c8 => ?_) (fun c8 => ?_)
  · rw [if_neg (by omega)] at hX
    rw [tkQ, if_pos (by omega)] at t9
    refine J.aload_n (q := 16) dX3_readGreens_15 rfl ?_ rfl
    refine J.bipush (q := 18) dX3_readGreens_16 (by decide) ?_ rfl
    refine J.callV1 (ci := 3) (q := 21) dX3_readGreens_18 mv_X3_takeNumber kL_X3_139 rfl (by decide) rfl ⟨by decide, by decide⟩ (Nat.le_of_ble_eq_true rfl) ⟨by decide, by decide⟩ rfl (c_takeNumber (a9.T hT) hb hz (a9.A hTA) hN9 t9 (m := 9) (by omega)) (fun v8 S8 iv8 hp => ?_)
    obtain ⟨rfl, rfl, a8, t8⟩ := hp
    have r8 := tkN_rng T z (tE T z q) 9
    refine J.istore_n (q := 22) dX3_readGreens_21 (Nat.le_of_ble_eq_true rfl) ?_ rfl
    refine J.iload_n (q := 23) dX3_readGreens_22 rfl ?_ rfl
    refine J.if_ge (tgt := 28) (q := 26) (hv := by omega) dX3_readGreens_23 rfl rfl (fun c23 => ?_) (fun c23 => ?_)
    · rw [if_neg (by omega)] at hX
      rw [tkQ, if_pos (by omega)] at t8
      refine J.aload_n (q := 29) dX3_readGreens_28 rfl ?_ rfl
      refine J.getR (ci := 1) (k0 := 1) (c1 := 28) (q := 32) dX3_readGreens_29 kF_X3_145 rfl (by decide) (by decide) rfl (by decide) rfl ?_ rfl
      refine J.iload_n (q := 33) dX3_readGreens_32 rfl ?_ rfl
      refine J.iload_n (q := 34) dX3_readGreens_33 rfl ?_ rfl
      refine J.iast (n := 81) (q := 35) dX3_readGreens_34 rfl (by omega) ?_ rfl
      refine J.iconst (q := 36) dX3_readGreens_35 ?_ rfl
      refine J.zreturn dX3_readGreens_36 rfl (by omega) ?_
      subst hX
      first
      | exact ⟨rfl, rfl, (a9.tr a8).fw, t8, fun h => (by cases h)⟩
      | exact ⟨rfl, rfl, (a9.tr a8).fw.up (by decide), t8.up (by decide), fun _ => u26_lea ((a9.tr a8).R hR) (by omega) (by omega)⟩
    · rw [if_pos (by omega)] at hX
      rw [tkQ, if_neg (by omega)] at t8
      refine J.iconst (q := 27) dX3_readGreens_26 ?_ rfl
      refine J.zreturn dX3_readGreens_27 rfl (by omega) ?_
      subst hX
      first
      | exact ⟨rfl, rfl, (a9.tr a8).fw, t8, fun h => (by cases h)⟩
      | exact ⟨rfl, rfl, (a9.tr a8).fw.up (by decide), t8.up (by decide), fun _ => u26_lea ((a9.tr a8).R hR) (by omega) (by omega)⟩
  · rw [if_pos (by omega)] at hX
    rw [tkQ, if_neg (by omega)] at t9
    refine J.iconst (q := 12) dX3_readGreens_11 ?_ rfl
    refine J.goto (tgt := 21) dX3_readGreens_12 rfl ?_
    refine J.istore_n (q := 22) dX3_readGreens_21 (Nat.le_of_ble_eq_true rfl) ?_ rfl
    subst hX
    exact readGreens_f ⟨rfl, rfl, a9.fw, t9, fun h => (by cases h)⟩

set_option maxRecDepth 100000 in
set_option maxHeartbeats 4000000 in
theorem readBans_f {l : Launch} {F : Nat × (Int → Int)} {iv : Mm} {P : Option VT → Shp → Mm → Prop} {v1 : Int} (hP : P (some (i_ 0)) S0 iv) : J l (yX3_readBans).cls cX3_readBans 4 (some FieldType.boolean) 1 0 0 false F (P) 0 0 23 [some (r_ 50), some (r_ 26), some (i_ v1), some (i_ (-1))] [] S0 (iv) := by
  refine J.iload_n (q := 24) dX3_readBans_23 rfl ?_ rfl
  refine J.if_ge (tgt := 29) (q := 27) dX3_readBans_24 rfl rfl (fun c => absurd c (by decide)) (fun c24 => ?_)
  refine J.iconst (q := 28) dX3_readBans_27 ?_ rfl
  refine J.zreturn dX3_readBans_28 rfl (by omega) ?_
  exact hP

set_option maxRecDepth 100000 in
set_option maxHeartbeats 4000000 in
theorem c_readBans {l : Launch} {F : Nat × (Int → Int)} {iv : Mm} {T : Int → Int} {z q : Int} {N : Nat} (hT : ∀ j, 0 ≤ j → j < 120 → iv 51 j = T j) (hb : ∀ j, 0 ≤ j → j < 120 → 0 ≤ T j ∧ T j ≤ 255) (hz : 0 ≤ z ∧ z ≤ 120) (hTA : TA iv T z N) (hN9 : 0 ≤ qn T z N ∧ qn T z N ≤ z) (hTS : TSt iv T z N q) {s : Int → Int} {X : Pst} (hR : RR iv 26 s) (hX : (if tkN T z q 7 < 0 then (false, s, q) else if tkN T z (tE T z q) 255 < 0 then (false, s, tE T z q) else (true, upr s (6 + tkN T z q 7) (tkN T z (tE T z q) 255), tE T z (tE T z q))) = X) : Ctr l F 1 0 0 yX3_readBans cX3_readBans 4 (some FieldType.boolean) [r_ 50, r_ 26] S0 (iv) (fun v S iv2 => v = some (i_ (b2 (X.1 = true))) ∧ S = S0 ∧ Fw iv iv2 ∧ TSt iv2 T z N X.2.2 ∧ (X.1 = true → RR iv2 26 X.2.1)) := by
  refine Ctr.of false (fun h => by cases h) (by decide) rfl (Nat.le_of_ble_eq_true rfl) ?_
  refine J.aload_n (q := 1) dX3_readBans_0 rfl ?_ rfl
  refine J.bipush (q := 3) dX3_readBans_1 (by decide) ?_ rfl
  refine J.callV1 (ci := 3) (q := 6) dX3_readBans_3 mv_X3_takeNumber kL_X3_139 rfl (by decide) rfl ⟨by decide, by decide⟩ (Nat.le_of_ble_eq_true rfl) ⟨by decide, by decide⟩ rfl (c_takeNumber hT hb hz hTA hN9 hTS (m := 7) (by omega)) (fun v9 S9 iv9 hp => ?_)
  obtain ⟨rfl, rfl, a9, t9⟩ := hp
  have r9 := tkN_rng T z q 7
  refine J.istore_n (q := 7) dX3_readBans_6 (Nat.le_of_ble_eq_true rfl) ?_ rfl
  refine J.iload_n (q := 8) dX3_readBans_7 rfl ?_ rfl
  refine J.if_ge (tgt := 15) (q := 11) (hv := by omega) dX3_readBans_8 rfl rfl (fun c8 => ?_) (fun c8 => ?_)
  · rw [if_neg (by omega)] at hX
    rw [tkQ, if_pos (by omega)] at t9
    refine J.aload_n (q := 16) dX3_readBans_15 rfl ?_ rfl
    refine J.sipush (q := 19) dX3_readBans_16 (by decide) ?_ rfl
    refine J.callV1 (ci := 3) (q := 22) dX3_readBans_19 mv_X3_takeNumber kL_X3_139 rfl (by decide) rfl ⟨by decide, by decide⟩ (Nat.le_of_ble_eq_true rfl) ⟨by decide, by decide⟩ rfl (c_takeNumber (a9.T hT) hb hz (a9.A hTA) hN9 t9 (m := 255) (by omega)) (fun v8 S8 iv8 hp => ?_)
    obtain ⟨rfl, rfl, a8, t8⟩ := hp
    have r8 := tkN_rng T z (tE T z q) 255
    refine J.istore_n (q := 23) dX3_readBans_22 (Nat.le_of_ble_eq_true rfl) ?_ rfl
    refine J.iload_n (q := 24) dX3_readBans_23 rfl ?_ rfl
    refine J.if_ge (tgt := 29) (q := 27) (hv := by omega) dX3_readBans_24 rfl rfl (fun c24 => ?_) (fun c24 => ?_)
    · rw [if_neg (by omega)] at hX
      rw [tkQ, if_pos (by omega)] at t8
      refine J.aload_n (q := 30) dX3_readBans_29 rfl ?_ rfl
      refine J.getR (ci := 1) (k0 := 4) (c1 := 31) (q := 33) dX3_readBans_30 kF_X3_148 rfl (by decide) (by decide) rfl (by decide) rfl ?_ rfl
      refine J.iload_n (q := 34) dX3_readBans_33 rfl ?_ rfl
      refine J.iload_n (q := 35) dX3_readBans_34 rfl ?_ rfl
      refine J.iast (n := 8) (q := 36) dX3_readBans_35 rfl (by omega) ?_ rfl
      refine J.iconst (q := 37) dX3_readBans_36 ?_ rfl
      refine J.zreturn dX3_readBans_37 rfl (by omega) ?_
      subst hX
      first
      | exact ⟨rfl, rfl, (a9.tr a8).fw, t8, fun h => (by cases h)⟩
      | exact ⟨rfl, rfl, (a9.tr a8).fw.up (by decide), t8.up (by decide), fun _ => u26_ban ((a9.tr a8).R hR) (by omega) (by omega)⟩
    · rw [if_pos (by omega)] at hX
      rw [tkQ, if_neg (by omega)] at t8
      refine J.iconst (q := 28) dX3_readBans_27 ?_ rfl
      refine J.zreturn dX3_readBans_28 rfl (by omega) ?_
      subst hX
      first
      | exact ⟨rfl, rfl, (a9.tr a8).fw, t8, fun h => (by cases h)⟩
      | exact ⟨rfl, rfl, (a9.tr a8).fw.up (by decide), t8.up (by decide), fun _ => u26_ban ((a9.tr a8).R hR) (by omega) (by omega)⟩
  · rw [if_pos (by omega)] at hX
    rw [tkQ, if_neg (by omega)] at t9
    refine J.iconst (q := 12) dX3_readBans_11 ?_ rfl
    refine J.goto (tgt := 22) dX3_readBans_12 rfl ?_
    refine J.istore_n (q := 23) dX3_readBans_22 (Nat.le_of_ble_eq_true rfl) ?_ rfl
    subst hX
    exact readBans_f ⟨rfl, rfl, a9.fw, t9, fun h => (by cases h)⟩

set_option maxRecDepth 100000 in
set_option maxHeartbeats 4000000 in
theorem readSnail_f54 {l : Launch} {F : Nat × (Int → Int)} {iv : Mm} {P : Option VT → Shp → Mm → Prop} {y2 y3 y4 y6 y7 : Option VT} (hP : P (some (i_ 0)) S0 iv) : J l (yX3_readSnail).cls cX3_readSnail 8 (some FieldType.boolean) 7 0 0 false F (P) 0 0 54 [some (r_ 50), some (r_ 26), y2, y3, y4, some (i_ (-1)), y6, y7] [] S0 (iv) := by
  refine J.iload (q := 56) dX3_readSnail_54 rfl ?_ rfl
  refine J.if_ge (tgt := 63) (q := 59) dX3_readSnail_56 rfl rfl (fun c => absurd c (by decide)) (fun c56 => ?_)
  refine J.iconst (q := 60) dX3_readSnail_59 ?_ rfl
  refine J.goto (tgt := 73) dX3_readSnail_60 rfl ?_
  refine J.istore (q := 75) dX3_readSnail_73 (Nat.le_of_ble_eq_true rfl) ?_ rfl
  refine J.iload (q := 77) dX3_readSnail_75 rfl ?_ rfl
  refine J.if_ge (tgt := 84) (q := 80) dX3_readSnail_77 rfl rfl (fun c => absurd c (by decide)) (fun c77 => ?_)
  refine J.iconst (q := 81) dX3_readSnail_80 ?_ rfl
  refine J.goto (tgt := 93) dX3_readSnail_81 rfl ?_
  refine J.istore (q := 95) dX3_readSnail_93 (Nat.le_of_ble_eq_true rfl) ?_ rfl
  refine J.iload (q := 97) dX3_readSnail_95 rfl ?_ rfl
  refine J.if_ge (tgt := 102) (q := 100) dX3_readSnail_97 rfl rfl (fun c => absurd c (by decide)) (fun c97 => ?_)
  refine J.iconst (q := 101) dX3_readSnail_100 ?_ rfl
  refine J.zreturn dX3_readSnail_101 rfl (by omega) ?_
  exact hP

set_option maxRecDepth 100000 in
set_option maxHeartbeats 4000000 in
theorem readSnail_f75 {l : Launch} {F : Nat × (Int → Int)} {iv : Mm} {P : Option VT → Shp → Mm → Prop} {y2 y3 y4 y5 y7 : Option VT} (hP : P (some (i_ 0)) S0 iv) : J l (yX3_readSnail).cls cX3_readSnail 8 (some FieldType.boolean) 7 0 0 false F (P) 0 0 75 [some (r_ 50), some (r_ 26), y2, y3, y4, y5, some (i_ (-1)), y7] [] S0 (iv) := by
  refine J.iload (q := 77) dX3_readSnail_75 rfl ?_ rfl
  refine J.if_ge (tgt := 84) (q := 80) dX3_readSnail_77 rfl rfl (fun c => absurd c (by decide)) (fun c77 => ?_)
  refine J.iconst (q := 81) dX3_readSnail_80 ?_ rfl
  refine J.goto (tgt := 93) dX3_readSnail_81 rfl ?_
  refine J.istore (q := 95) dX3_readSnail_93 (Nat.le_of_ble_eq_true rfl) ?_ rfl
  refine J.iload (q := 97) dX3_readSnail_95 rfl ?_ rfl
  refine J.if_ge (tgt := 102) (q := 100) dX3_readSnail_97 rfl rfl (fun c => absurd c (by decide)) (fun c97 => ?_)
  refine J.iconst (q := 101) dX3_readSnail_100 ?_ rfl
  refine J.zreturn dX3_readSnail_101 rfl (by omega) ?_
  exact hP

set_option maxRecDepth 100000 in
set_option maxHeartbeats 4000000 in
theorem readSnail_f95 {l : Launch} {F : Nat × (Int → Int)} {iv : Mm} {P : Option VT → Shp → Mm → Prop} {y2 y3 y4 y5 y6 : Option VT} (hP : P (some (i_ 0)) S0 iv) : J l (yX3_readSnail).cls cX3_readSnail 8 (some FieldType.boolean) 7 0 0 false F (P) 0 0 95 [some (r_ 50), some (r_ 26), y2, y3, y4, y5, y6, some (i_ (-1))] [] S0 (iv) := by
  refine J.iload (q := 97) dX3_readSnail_95 rfl ?_ rfl
  refine J.if_ge (tgt := 102) (q := 100) dX3_readSnail_97 rfl rfl (fun c => absurd c (by decide)) (fun c97 => ?_)
  refine J.iconst (q := 101) dX3_readSnail_100 ?_ rfl
  refine J.zreturn dX3_readSnail_101 rfl (by omega) ?_
  exact hP

set_option maxRecDepth 100000 in
set_option maxHeartbeats 4000000 in
theorem c_readSnail {l : Launch} {F : Nat × (Int → Int)} {iv : Mm} {T : Int → Int} {z q : Int} {N : Nat} (hT : ∀ j, 0 ≤ j → j < 120 → iv 51 j = T j) (hb : ∀ j, 0 ≤ j → j < 120 → 0 ≤ T j ∧ T j ≤ 255) (hz : 0 ≤ z ∧ z ≤ 120) (hTA : TA iv T z N) (hN9 : 0 ≤ qn T z N ∧ qn T z N ≤ z) (hTS : TSt iv T z N q) {s WM : Int → Int} {kd : Int} {X : Pst} (hR : RR iv 26 s) (hm : 0 ≤ s 2 ∧ s 2 ≤ 8) (hk1 : tK T z q = 1) (hW : (∀ q, WM q = 0 ↔ WdP T z q 12) ∧ (∀ q, WM q = 1 ↔ WdP T z q 13) ∧ (∀ q, WM q = 2 ↔ WdP T z q 14) ∧ ∀ q, WM q = 3 ↔ WdP T z q 15) (hX : rdSn T z WM s q kd = X) : Ctr l F 7 0 0 yX3_readSnail cX3_readSnail 8 (some FieldType.boolean) [r_ 50, r_ 26, i_ kd] S0 (iv) (fun v S iv2 => v = some (i_ (b2 (X.1 = true))) ∧ S = S0 ∧ Fw iv iv2 ∧ TSt iv2 T z N X.2.2 ∧ (X.1 = true → RR iv2 26 X.2.1)) := by
  refine Ctr.of false (fun h => by cases h) (by decide) rfl (Nat.le_of_ble_eq_true rfl) ?_
  refine J.aload_n (q := 1) dX3_readSnail_0 rfl ?_ rfl
  refine J.iload_n (q := 2) dX3_readSnail_1 rfl ?_ rfl
  refine J.iconst (q := 3) dX3_readSnail_2 ?_ rfl
  refine J.callV2 (ci := 1) (q := 6) dX3_readSnail_3 mv_X1_addSnail kL_X3_111 rfl (by decide) rfl ⟨by decide, by decide⟩ (Nat.le_of_ble_eq_true rfl) ⟨by decide, by decide⟩ rfl (c_X1_addSnail26 hR (by omega)) (fun v9 S9 iv9 hp => ?_)
  obtain ⟨rfl, rfl, b1, hR9⟩ := hp
  obtain ⟨t, ht, e6, hq⟩ := id hTS
  obtain ⟨hq9, -, -, hcase⟩ := hTA.at hN9 ht hq
  obtain ⟨x, hx⟩ : ∃ x : Int, x = (if s 2 = 8 then -1 else s 2) := ⟨_, rfl⟩
  rw [← hx]
  have hx1 : (s 2 = 8 ∧ x = -1) ∨ (¬ s 2 = 8 ∧ x = s 2) := by
    by_cases h : s 2 = 8
    · exact Or.inl ⟨h, by rw [hx, if_pos h]⟩
    · exact Or.inr ⟨h, by rw [hx, if_neg h]⟩
  clear hx
  refine J.istore_n (q := 7) dX3_readSnail_6 (Nat.le_of_ble_eq_true rfl) ?_ rfl
  refine J.iload_n (q := 8) dX3_readSnail_7 rfl ?_ rfl
  refine J.if_ge (tgt := 13) (q := 11) (hv := by omega) dX3_readSnail_8 rfl rfl (fun c8 => ?_) (fun c8 => ?_)
  · have hx2 : x = s 2 := by omega
    subst hx2
    rw [rdSn, if_neg (by omega)] at hX
    rw [if_neg (by omega)] at hR9
    have hX1 : stepP T z WM (s 2) ((3 : Nat) : Int) (stepP T z WM (s 2) ((2 : Nat) : Int) (stepP T z WM (s 2) ((1 : Nat) : Int) (stepP T z WM (s 2) ((0 : Nat) : Int) (true, addS s kd 0, tE T z q)))) = X := hX
    have hak := addS_k (s := s) (kd := kd) (c := 0) (by omega)
    have e0 : stepP T z WM (s 2) ((0 : Nat) : Int) (true, (addS s kd 0), (tE T z q)) = if ptV T z (tE T z q) 12 80 0 < 0 then (false, (addS s kd 0), (ptQ T z (tE T z q) 12 80)) else (true, (upr (addS s kd 0) (257 + 5 * s 2 + 1) (ptV T z (tE T z q) 12 80 0)), (ptQ T z (tE T z q) 12 80)) := stp (i := 12) (d := 0) (hW.1 _) (by show (addS s kd 0) (257 + 5 * s 2 + 1) = 0; exact hak.1) (by decide)
    have e1 : stepP T z WM (s 2) ((1 : Nat) : Int) (true, (upr (addS s kd 0) (257 + 5 * s 2 + 1) (ptV T z (tE T z q) 12 80 0)), (ptQ T z (tE T z q) 12 80)) = if ptV T z (ptQ T z (tE T z q) 12 80) 13 7 0 < 0 then (false, (upr (addS s kd 0) (257 + 5 * s 2 + 1) (ptV T z (tE T z q) 12 80 0)), (ptQ T z (ptQ T z (tE T z q) 12 80) 13 7)) else (true, (upr (upr (addS s kd 0) (257 + 5 * s 2 + 1) (ptV T z (tE T z q) 12 80 0)) (257 + 5 * s 2 + 2) (ptV T z (ptQ T z (tE T z q) 12 80) 13 7 0)), (ptQ T z (ptQ T z (tE T z q) 12 80) 13 7)) := stp (i := 13) (d := 0) (hW.2.1 _) (by show (upr (addS s kd 0) (257 + 5 * s 2 + 1) (ptV T z (tE T z q) 12 80 0)) (257 + 5 * s 2 + 2) = 0; rw [upr_n _ _ (by omega)]; exact hak.2.1) (by decide)
    have e2 : stepP T z WM (s 2) ((2 : Nat) : Int) (true, (upr (upr (addS s kd 0) (257 + 5 * s 2 + 1) (ptV T z (tE T z q) 12 80 0)) (257 + 5 * s 2 + 2) (ptV T z (ptQ T z (tE T z q) 12 80) 13 7 0)), (ptQ T z (ptQ T z (tE T z q) 12 80) 13 7)) = if ptV T z (ptQ T z (ptQ T z (tE T z q) 12 80) 13 7) 14 80 80 < 0 then (false, (upr (upr (addS s kd 0) (257 + 5 * s 2 + 1) (ptV T z (tE T z q) 12 80 0)) (257 + 5 * s 2 + 2) (ptV T z (ptQ T z (tE T z q) 12 80) 13 7 0)), (ptQ T z (ptQ T z (ptQ T z (tE T z q) 12 80) 13 7) 14 80)) else (true, (upr (upr (upr (addS s kd 0) (257 + 5 * s 2 + 1) (ptV T z (tE T z q) 12 80 0)) (257 + 5 * s 2 + 2) (ptV T z (ptQ T z (tE T z q) 12 80) 13 7 0)) (257 + 5 * s 2 + 3) (ptV T z (ptQ T z (ptQ T z (tE T z q) 12 80) 13 7) 14 80 80)), (ptQ T z (ptQ T z (ptQ T z (tE T z q) 12 80) 13 7) 14 80)) := stp (i := 14) (d := 80) (hW.2.2.1 _) (by show (upr (upr (addS s kd 0) (257 + 5 * s 2 + 1) (ptV T z (tE T z q) 12 80 0)) (257 + 5 * s 2 + 2) (ptV T z (ptQ T z (tE T z q) 12 80) 13 7 0)) (257 + 5 * s 2 + 3) = 80; rw [upr_n _ _ (by omega), upr_n _ _ (by omega)]; exact hak.2.2.1) (by decide)
    have e3 : stepP T z WM (s 2) ((3 : Nat) : Int) (true, (upr (upr (upr (addS s kd 0) (257 + 5 * s 2 + 1) (ptV T z (tE T z q) 12 80 0)) (257 + 5 * s 2 + 2) (ptV T z (ptQ T z (tE T z q) 12 80) 13 7 0)) (257 + 5 * s 2 + 3) (ptV T z (ptQ T z (ptQ T z (tE T z q) 12 80) 13 7) 14 80 80)), (ptQ T z (ptQ T z (ptQ T z (tE T z q) 12 80) 13 7) 14 80)) = if ptV T z (ptQ T z (ptQ T z (ptQ T z (tE T z q) 12 80) 13 7) 14 80) 15 99 1 < 0 then (false, (upr (upr (upr (addS s kd 0) (257 + 5 * s 2 + 1) (ptV T z (tE T z q) 12 80 0)) (257 + 5 * s 2 + 2) (ptV T z (ptQ T z (tE T z q) 12 80) 13 7 0)) (257 + 5 * s 2 + 3) (ptV T z (ptQ T z (ptQ T z (tE T z q) 12 80) 13 7) 14 80 80)), (ptQ T z (ptQ T z (ptQ T z (ptQ T z (tE T z q) 12 80) 13 7) 14 80) 15 99)) else (true, (upr (upr (upr (upr (addS s kd 0) (257 + 5 * s 2 + 1) (ptV T z (tE T z q) 12 80 0)) (257 + 5 * s 2 + 2) (ptV T z (ptQ T z (tE T z q) 12 80) 13 7 0)) (257 + 5 * s 2 + 3) (ptV T z (ptQ T z (ptQ T z (tE T z q) 12 80) 13 7) 14 80 80)) (257 + 5 * s 2 + 4) (ptV T z (ptQ T z (ptQ T z (ptQ T z (tE T z q) 12 80) 13 7) 14 80) 15 99 1)), (ptQ T z (ptQ T z (ptQ T z (ptQ T z (tE T z q) 12 80) 13 7) 14 80) 15 99)) := stp (i := 15) (d := 1) (hW.2.2.2 _) (by show (upr (upr (upr (addS s kd 0) (257 + 5 * s 2 + 1) (ptV T z (tE T z q) 12 80 0)) (257 + 5 * s 2 + 2) (ptV T z (ptQ T z (tE T z q) 12 80) 13 7 0)) (257 + 5 * s 2 + 3) (ptV T z (ptQ T z (ptQ T z (tE T z q) 12 80) 13 7) 14 80 80)) (257 + 5 * s 2 + 4) = 1; rw [upr_n _ _ (by omega), upr_n _ _ (by omega), upr_n _ _ (by omega)]; exact hak.2.2.2) (by decide)
    refine J.aload_n (q := 14) dX3_readSnail_13 rfl ?_ rfl
    refine J.dup (q := 15) dX3_readSnail_14 rfl ?_ rfl
    refine J.getI (ci := 3) (k0 := 6) (kz := 6) (q := 18) dX3_readSnail_15 kF_X3_31 rfl (by decide) (by decide) rfl (.inl rfl) ?_ rfl
    rw [b1 50 (by omega), e6]
    refine J.iconst (q := 19) dX3_readSnail_18 ?_ rfl
    refine J.iadd (q := 20) dX3_readSnail_19 ?_ rfl
    refine J.putI (ci := 3) (k0 := 6) (kz := 6) (q := 23) dX3_readSnail_20 kF_X3_31 rfl (by decide) (by decide) rfl rfl rfl ?_ rfl
    refine J.aload_n (q := 24) dX3_readSnail_23 rfl ?_ rfl
    refine J.ldcS (q := 26) (i := 12) dX3_readSnail_24 (by decide) rfl rfl ?_ rfl
    refine J.bipush (q := 28) dX3_readSnail_26 (by decide) ?_ rfl
    refine J.iconst (q := 29) dX3_readSnail_28 ?_ rfl
    have hT1 : ∀ j, 0 ≤ j → j < 120 → up iv9 50 6 ((t : Int) + 1) 51 j = T j := by rw [up_n _ _ _ (by decide), b1 51 (by omega)]; exact hT
    have hA1 : TA (up iv9 50 6 ((t : Int) + 1)) T z N := hTA.fr (fun p p0 p1 => by rw [up_n _ _ _ (by omega), b1 p (by omega)])
    have hS1 : TSt (up iv9 50 6 ((t : Int) + 1)) T z N (tE T z q) := ⟨t + 1, by omega, by rw [up_s, upr_s]; omega, by show tE T z (qn T z t) = _; rw [hq]⟩
    have hR1 : RR (up iv9 50 6 ((t : Int) + 1)) 26 (addS s kd 0) := n26 hR9 (by omega)
    have hF1 : Fw iv (up iv9 50 6 ((t : Int) + 1)) := ⟨fun p hp hr => (up_n _ _ _ hp).trans (b1 p hr), fun j hj => by rw [up_s, upr_n _ _ hj, b1 50 (by omega)]⟩
    refine J.callV3 (ci := 3) (q := 32) dX3_readSnail_29 mv_X3_takePart kL_X3_117 rfl (by decide) rfl ⟨by decide, by decide⟩ (Nat.le_of_ble_eq_true rfl) ⟨by decide, by decide⟩ rfl (c_takePart hT1 hb hz hA1 hN9 hS1 (i := 12) (by decide) (m := 80) (w := 0) (by omega)) (fun v8 S8 iv8 hp => ?_)
    obtain ⟨rfl, rfl, a8, t8⟩ := hp
    have r8 := ptV_r T z (tE T z q) 12 (m := 80) (d := 0) (by omega)
    refine J.istore (q := 34) dX3_readSnail_32 (Nat.le_of_ble_eq_true rfl) ?_ rfl
    refine J.iload (q := 36) dX3_readSnail_34 rfl ?_ rfl
    refine J.if_ge (tgt := 43) (q := 39) (hv := by omega) dX3_readSnail_36 rfl rfl (fun c36 => ?_) (fun c36 => ?_)
    · refine J.aload_n (q := 44) dX3_readSnail_43 rfl ?_ rfl
      refine J.ldcS (q := 46) (i := 13) dX3_readSnail_44 (by decide) rfl rfl ?_ rfl
      refine J.bipush (q := 48) dX3_readSnail_46 (by decide) ?_ rfl
      refine J.iconst (q := 49) dX3_readSnail_48 ?_ rfl
      refine J.callV3 (ci := 3) (q := 52) dX3_readSnail_49 mv_X3_takePart kL_X3_117 rfl (by decide) rfl ⟨by decide, by decide⟩ (Nat.le_of_ble_eq_true rfl) ⟨by decide, by decide⟩ rfl (c_takePart (a8.T hT1) hb hz (a8.A hA1) hN9 t8 (i := 13) (by decide) (m := 7) (w := 0) (by omega)) (fun v7 S7 iv7 hp => ?_)
      obtain ⟨rfl, rfl, a7, t7⟩ := hp
      have r7 := ptV_r T z (ptQ T z (tE T z q) 12 80) 13 (m := 7) (d := 0) (by omega)
      refine J.istore (q := 54) dX3_readSnail_52 (Nat.le_of_ble_eq_true rfl) ?_ rfl
      refine J.iload (q := 56) dX3_readSnail_54 rfl ?_ rfl
      refine J.if_ge (tgt := 63) (q := 59) (hv := by omega) dX3_readSnail_56 rfl rfl (fun c56 => ?_) (fun c56 => ?_)
      · refine J.aload_n (q := 64) dX3_readSnail_63 rfl ?_ rfl
        refine J.ldcS (q := 66) (i := 14) dX3_readSnail_64 (by decide) rfl rfl ?_ rfl
        refine J.bipush (q := 68) dX3_readSnail_66 (by decide) ?_ rfl
        refine J.bipush (q := 70) dX3_readSnail_68 (by decide) ?_ rfl
        refine J.callV3 (ci := 3) (q := 73) dX3_readSnail_70 mv_X3_takePart kL_X3_117 rfl (by decide) rfl ⟨by decide, by decide⟩ (Nat.le_of_ble_eq_true rfl) ⟨by decide, by decide⟩ rfl (c_takePart (a7.T (a8.T hT1)) hb hz (a7.A (a8.A hA1)) hN9 t7 (i := 14) (by decide) (m := 80) (w := 80) (by omega)) (fun v6 S6 iv6 hp => ?_)
        obtain ⟨rfl, rfl, a6, t6⟩ := hp
        have r6 := ptV_r T z (ptQ T z (ptQ T z (tE T z q) 12 80) 13 7) 14 (m := 80) (d := 80) (by omega)
        refine J.istore (q := 75) dX3_readSnail_73 (Nat.le_of_ble_eq_true rfl) ?_ rfl
        refine J.iload (q := 77) dX3_readSnail_75 rfl ?_ rfl
        refine J.if_ge (tgt := 84) (q := 80) (hv := by omega) dX3_readSnail_77 rfl rfl (fun c77 => ?_) (fun c77 => ?_)
        · refine J.aload_n (q := 85) dX3_readSnail_84 rfl ?_ rfl
          refine J.ldcS (q := 87) (i := 15) dX3_readSnail_85 (by decide) rfl rfl ?_ rfl
          refine J.bipush (q := 89) dX3_readSnail_87 (by decide) ?_ rfl
          refine J.iconst (q := 90) dX3_readSnail_89 ?_ rfl
          refine J.callV3 (ci := 3) (q := 93) dX3_readSnail_90 mv_X3_takePart kL_X3_117 rfl (by decide) rfl ⟨by decide, by decide⟩ (Nat.le_of_ble_eq_true rfl) ⟨by decide, by decide⟩ rfl (c_takePart (a6.T (a7.T (a8.T hT1))) hb hz (a6.A (a7.A (a8.A hA1))) hN9 t6 (i := 15) (by decide) (m := 99) (w := 1) (by omega)) (fun v5 S5 iv5 hp => ?_)
          obtain ⟨rfl, rfl, a5, t5⟩ := hp
          have r5 := ptV_r T z (ptQ T z (ptQ T z (ptQ T z (tE T z q) 12 80) 13 7) 14 80) 15 (m := 99) (d := 1) (by omega)
          refine J.istore (q := 95) dX3_readSnail_93 (Nat.le_of_ble_eq_true rfl) ?_ rfl
          refine J.iload (q := 97) dX3_readSnail_95 rfl ?_ rfl
          refine J.if_ge (tgt := 102) (q := 100) (hv := by omega) dX3_readSnail_97 rfl rfl (fun c97 => ?_) (fun c97 => ?_)
          · rw [e0, if_neg (by omega)] at hX1
            rw [e1, if_neg (by omega)] at hX1
            rw [e2, if_neg (by omega)] at hX1
            rw [e3, if_neg (by omega)] at hX1
            refine J.aload_n (q := 103) dX3_readSnail_102 rfl ?_ rfl
            refine J.getR (ci := 1) (k0 := 6) (c1 := 33) (q := 106) dX3_readSnail_103 kF_X3_127 rfl (by decide) (by decide) rfl (by decide) rfl ?_ rfl
            refine J.iload_n (q := 107) dX3_readSnail_106 rfl ?_ rfl
            refine J.iload (q := 109) dX3_readSnail_107 rfl ?_ rfl
            refine J.iast (n := 8) (q := 110) dX3_readSnail_109 rfl (by omega) ?_ rfl
            refine J.aload_n (q := 111) dX3_readSnail_110 rfl ?_ rfl
            refine J.getR (ci := 1) (k0 := 7) (c1 := 34) (q := 114) dX3_readSnail_111 kF_X3_130 rfl (by decide) (by decide) rfl (by decide) rfl ?_ rfl
            refine J.iload_n (q := 115) dX3_readSnail_114 rfl ?_ rfl
            refine J.iload (q := 117) dX3_readSnail_115 rfl ?_ rfl
            refine J.iast (n := 8) (q := 118) dX3_readSnail_117 rfl (by omega) ?_ rfl
            refine J.aload_n (q := 119) dX3_readSnail_118 rfl ?_ rfl
            refine J.getR (ci := 1) (k0 := 8) (c1 := 35) (q := 122) dX3_readSnail_119 kF_X3_133 rfl (by decide) (by decide) rfl (by decide) rfl ?_ rfl
            refine J.iload_n (q := 123) dX3_readSnail_122 rfl ?_ rfl
            refine J.iload (q := 125) dX3_readSnail_123 rfl ?_ rfl
            refine J.iast (n := 8) (q := 126) dX3_readSnail_125 rfl (by omega) ?_ rfl
            refine J.aload_n (q := 127) dX3_readSnail_126 rfl ?_ rfl
            refine J.getR (ci := 1) (k0 := 9) (c1 := 36) (q := 130) dX3_readSnail_127 kF_X3_136 rfl (by decide) (by decide) rfl (by decide) rfl ?_ rfl
            refine J.iload_n (q := 131) dX3_readSnail_130 rfl ?_ rfl
            refine J.iload (q := 133) dX3_readSnail_131 rfl ?_ rfl
            refine J.iast (n := 8) (q := 134) dX3_readSnail_133 rfl (by omega) ?_ rfl
            refine J.iconst (q := 135) dX3_readSnail_134 ?_ rfl
            refine J.zreturn dX3_readSnail_135 rfl (by omega) ?_
            first
            | (subst hX; exact ⟨rfl, rfl, ⟨fun p hp hr => b1 p hr, fun j hj => by rw [b1 50 (by omega)]⟩, ⟨t, ht, by rw [b1 50 (by omega)]; exact e6, hq⟩, fun h => (by cases h)⟩)
            | (subst hX1; exact ⟨rfl, rfl, hF1.tr (((a8.tr a7).tr a6).tr a5).fw, t5, fun h => (by cases h)⟩)
            | (subst hX1
               exact ⟨rfl, rfl, (((hF1.tr (((a8.tr a7).tr a6).tr a5).fw).up (by decide)).up (by decide)).up (by decide) |>.up (by decide), ((t5.up (by decide)).up (by decide)).up (by decide) |>.up (by decide), fun _ => u26_pri (u26_gat (u26_edi (u26_ats ((((a8.tr a7).tr a6).tr a5).R hR1) (c := s 2) (by omega) (by omega)) (c := s 2) (by omega) (by omega)) (c := s 2) (by omega) (by omega)) (c := s 2) (by omega) (by omega)⟩)
          · rw [e0, if_neg (by omega)] at hX1
            rw [e1, if_neg (by omega)] at hX1
            rw [e2, if_neg (by omega)] at hX1
            rw [e3, if_pos (by omega)] at hX1
            refine J.iconst (q := 101) dX3_readSnail_100 ?_ rfl
            refine J.zreturn dX3_readSnail_101 rfl (by omega) ?_
            first
            | (subst hX; exact ⟨rfl, rfl, ⟨fun p hp hr => b1 p hr, fun j hj => by rw [b1 50 (by omega)]⟩, ⟨t, ht, by rw [b1 50 (by omega)]; exact e6, hq⟩, fun h => (by cases h)⟩)
            | (subst hX1; exact ⟨rfl, rfl, hF1.tr (((a8.tr a7).tr a6).tr a5).fw, t5, fun h => (by cases h)⟩)
            | (subst hX1
               exact ⟨rfl, rfl, (((hF1.tr (((a8.tr a7).tr a6).tr a5).fw).up (by decide)).up (by decide)).up (by decide) |>.up (by decide), ((t5.up (by decide)).up (by decide)).up (by decide) |>.up (by decide), fun _ => u26_pri (u26_gat (u26_edi (u26_ats ((((a8.tr a7).tr a6).tr a5).R hR1) (c := s 2) (by omega) (by omega)) (c := s 2) (by omega) (by omega)) (c := s 2) (by omega) (by omega)) (c := s 2) (by omega) (by omega)⟩)
        · rw [e0, if_neg (by omega)] at hX1
          rw [e1, if_neg (by omega)] at hX1
          rw [e2, if_pos (by omega)] at hX1
          rw [stp_f rfl] at hX1
          refine J.iconst (q := 81) dX3_readSnail_80 ?_ rfl
          refine J.goto (tgt := 93) dX3_readSnail_81 rfl ?_
          refine J.istore (q := 95) dX3_readSnail_93 (Nat.le_of_ble_eq_true rfl) ?_ rfl
          subst hX1
          exact readSnail_f95 ⟨rfl, rfl, hF1.tr ((a8.tr a7).tr a6).fw, t6, fun h => (by cases h)⟩
      · rw [e0, if_neg (by omega)] at hX1
        rw [e1, if_pos (by omega)] at hX1
        rw [stp_f rfl] at hX1
        rw [stp_f rfl] at hX1
        refine J.iconst (q := 60) dX3_readSnail_59 ?_ rfl
        refine J.goto (tgt := 73) dX3_readSnail_60 rfl ?_
        refine J.istore (q := 75) dX3_readSnail_73 (Nat.le_of_ble_eq_true rfl) ?_ rfl
        subst hX1
        exact readSnail_f75 ⟨rfl, rfl, hF1.tr (a8.tr a7).fw, t7, fun h => (by cases h)⟩
    · rw [e0, if_pos (by omega)] at hX1
      rw [stp_f rfl] at hX1
      rw [stp_f rfl] at hX1
      rw [stp_f rfl] at hX1
      refine J.iconst (q := 40) dX3_readSnail_39 ?_ rfl
      refine J.goto (tgt := 52) dX3_readSnail_40 rfl ?_
      refine J.istore (q := 54) dX3_readSnail_52 (Nat.le_of_ble_eq_true rfl) ?_ rfl
      subst hX1
      exact readSnail_f54 ⟨rfl, rfl, hF1.tr a8.fw, t8, fun h => (by cases h)⟩
  · rw [rdSn, if_pos (by omega)] at hX
    refine J.iconst (q := 12) dX3_readSnail_11 ?_ rfl
    refine J.zreturn dX3_readSnail_12 rfl (by omega) ?_
    first
    | (subst hX; exact ⟨rfl, rfl, ⟨fun p hp hr => b1 p hr, fun j hj => by rw [b1 50 (by omega)]⟩, ⟨t, ht, by rw [b1 50 (by omega)]; exact e6, hq⟩, fun h => (by cases h)⟩)
    | (subst hX1; exact ⟨rfl, rfl, hF1.tr (((a8.tr a7).tr a6).tr a5).fw, t5, fun h => (by cases h)⟩)
    | (subst hX1
       exact ⟨rfl, rfl, (((hF1.tr (((a8.tr a7).tr a6).tr a5).fw).up (by decide)).up (by decide)).up (by decide) |>.up (by decide), ((t5.up (by decide)).up (by decide)).up (by decide) |>.up (by decide), fun _ => u26_pri (u26_gat (u26_edi (u26_ats ((((a8.tr a7).tr a6).tr a5).R hR1) (c := s 2) (by omega) (by omega)) (c := s 2) (by omega) (by omega)) (c := s 2) (by omega) (by omega)) (c := s 2) (by omega) (by omega)⟩)

