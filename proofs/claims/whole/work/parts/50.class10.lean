/-! the class: forecasts (printed by wip/whole/m_c10.py) -/
def FT (iv iv2 : Mm) : Prop := ∀ q, (q ≤ 25 ∨ 44 ≤ q) → iv2 q = iv q
def HX (s : Int → Int) (X : P2) : Prop := MI 99999 X.1 ∧ X.1 2 = s 2 ∧ ∀ c, 0 ≤ c → c ≤ 80 → X.1 (14 + c) = s (14 + c)
def DL (iv iv1 : Mm) (s : Int → Int) (th : Int → Bool) (X : P2) (i : Nat) : Prop := FT iv iv1 ∧ Sv38 iv1 s ∧ RM26 iv1 (dysM (fdst s) th i X)
theorem CR.ft {iv iv2 A : Mm} (h : CR iv A) (hf : FT iv iv2) : CR iv2 A := h.fr (fun q hq => hf q (by omega))
theorem FT.rf {iv : Mm} : FT iv iv := fun _ _ => rfl
theorem FT.tr {a b c : Mm} (h : FT a b) (g : FT b c) : FT a c := fun q hq => (g q hq).trans (h q hq)
theorem FT.up {iv iv2 : Mm} (h : FT iv iv2) {q : Nat} {a x : Int} (hq : 26 ≤ q ∧ q ≤ 43) : FT iv (up iv2 q a x) := fun p hp => (up_n _ _ _ (by omega)).trans (h p hp)
theorem FT.rr {iv iv2 : Mm} {s : Int → Int} (h : FT iv iv2) (hR : RR iv 1 s) : RR iv2 1 s := f1 hR (fun q q1 q2 q3 => h q (by omega))
theorem HX.at {s : Int → Int} {X : P2} (h : HX s X) {th : Int → Bool} (i : Nat) : MI (99999 + i) (dysM (fdst s) th i X).1 ∧ (dysM (fdst s) th i X).1 2 = s 2 ∧ (∀ c, 0 ≤ c → c ≤ 80 → (dysM (fdst s) th i X).1 (14 + c) = s (14 + c)) ∧ ∀ j, kept j → (dysM (fdst s) th i X).1 j = X.1 j := by
  obtain ⟨h1, h2, h3⟩ := dysM_MI (fr := fdst s) (th := th) h.1 i
  exact ⟨h1, (h3 2 (kept_lo (by omega))).trans h.2.1, fun c c0 c1 => (h3 _ (kept_lo (by omega))).trans (h.2.2 c c0 c1), h3⟩
theorem fdst_f {s t : Int → Int} (h1 : opH t = opH s) (h2 : ∀ k, t (257 + 5 * k + 3) = s (257 + 5 * k + 3)) : fdst t = fdst s := by
  funext k c
  unfold fdst
  rw [h1, h2]
theorem fdst_w {s : Int → Int} {x : Int} : fdst (upr s 4 x) = fdst s := fdst_f (opH_upr (by omega)) (fun k => upr_n _ _ (by omega))
theorem fdst_s {s : Int → Int} {k f x : Int} (hk : 0 ≤ k) (hf : f = 0 ∨ f = 1) : fdst (upr s (257 + 5 * k + f) x) = fdst s := fdst_f (opH_upr (by omega)) (fun j => upr_n _ _ (by omega))
theorem dys_X {s t : Int → Int} (h : fdst t = fdst s) (Z : Int → Int) (i : Nat) : dys t i = (dysM (fdst s) th1 i (t, Z)).1 := by
  unfold dys
  rw [h]
  exact dysM_fst (fdst s) th1 (P0 t) (t, Z) rfl i
theorem HX.w {s : Int → Int} (h : MI 99999 s) {x : Int} (hx : 0 ≤ x ∧ x ≤ 9) (Z : Int → Int) : HX s (upr s 4 x, Z) :=
  ⟨h.upd (by omega) (by omega) (by omega) (by omega) (by omega) (by omega) (fun c _ _ => ⟨by omega, by omega, by omega⟩) (fun i _ _ => ⟨by omega, by omega, by omega, by omega, by omega⟩) (by omega), upr_n s x (show (2 : Int) ≠ 4 by decide), fun c c0 c1 => upr_n s x (show (14 + c : Int) ≠ 4 by omega)⟩
theorem HX.k {s : Int → Int} (h : MI 99999 s) {k x : Int} (hk : 0 ≤ k ∧ k < 8) (hx : 0 ≤ x ∧ x ≤ 6) (Z : Int → Int) : HX s (upr s (257 + 5 * k + 0) x, Z) :=
  ⟨h.upd (by omega) (by omega) (by omega) (by omega) (by omega) (by omega) (fun c _ _ => ⟨by omega, by omega, by omega⟩) (fun i _ _ => ⟨fun _ => by omega, by omega, by omega, by omega, by omega⟩) (by omega), upr_n _ _ (by omega), fun c c0 c1 => upr_n _ _ (by omega)⟩
theorem HX.a {s : Int → Int} (h : MI 99999 s) {k x : Int} (hk : 0 ≤ k ∧ k < 8) (hx : 0 ≤ x ∧ x ≤ 80) (Z : Int → Int) : HX s (upr s (257 + 5 * k + 1) x, Z) :=
  ⟨h.upd (by omega) (by omega) (by omega) (by omega) (by omega) (by omega) (fun c _ _ => ⟨by omega, by omega, by omega⟩) (fun i _ _ => ⟨by omega, fun _ => by omega, by omega, by omega, by omega⟩) (by omega), upr_n _ _ (by omega), fun c c0 c1 => upr_n _ _ (by omega)⟩
theorem HX.s {s : Int → Int} (h : MI 99999 s) (Z : Int → Int) : HX s (s, Z) := ⟨h, rfl, fun _ _ _ => rfl⟩
set_option maxRecDepth 100000 in
set_option maxHeartbeats 4000000 in
theorem c_X0_survey {l : Launch} {F : Nat × (Int → Int)} {iv : Mm} {s : Int → Int} (hR : RR iv 1 s) (hI : MI 99999 s) : Ctr l F 4 0 0 yX0_survey cX0_survey 2 none [r_ 25, r_ 1] S0 (iv) (fun v S iv2 => v = none ∧ S = S0 ∧ (∀ q, (q ≤ 38 ∨ 43 < q) → iv2 q = iv q) ∧ Sv38 iv2 s) := by
  refine Ctr.of false (fun h => by cases h) (by decide) rfl (Nat.le_of_ble_eq_true rfl) ?_
  refine J.aload_n (q := 1) dX0_survey_0 rfl ?_ rfl
  refine J.getR (ci := 0) (k0 := 1) (c1 := 38) (q := 4) dX0_survey_1 kF_X0_21 rfl (by decide) (by decide) rfl (by decide) rfl ?_ rfl
  refine J.aload_n (q := 5) dX0_survey_4 rfl ?_ rfl
  refine J.callV1 (ci := 4) (q := 8) dX0_survey_5 mv_X4_survey kL_X0_29 rfl (by decide) rfl ⟨by decide, by decide⟩ (Nat.le_of_ble_eq_true rfl) ⟨by decide, by decide⟩ rfl (c_survey38 hR hI) (fun v9 S9 iv9 hp => ?_)
  obtain ⟨rfl, rfl, b1, b2⟩ := hp
  refine J.vreturn dX0_survey_8 rfl ?_
  exact ⟨rfl, rfl, b1, b2⟩

set_option maxRecDepth 100000 in
set_option maxHeartbeats 4000000 in
theorem c_X0_passDay {l : Launch} {F : Nat × (Int → Int)} {iv0 iv : Mm} {s : Int → Int} {X : P2} {i : Nat} (hX : HX s X) (hi9 : (i : Int) ≤ 101) (hD : DL iv0 iv s th1 X i) : Ctr l F 4 0 0 yX0_passDay cX0_passDay 1 none [r_ 25] S0 (iv) (fun v S iv2 => v = none ∧ S = S0 ∧ DL iv0 iv2 s th1 X (i + 1)) := by
  refine Ctr.of false (fun h => by cases h) (by decide) rfl (Nat.le_of_ble_eq_true rfl) ?_
  obtain ⟨x1, x2, x3, x4⟩ := hX.at (th := th1) i
  refine J.aload_n (q := 1) dX0_passDay_0 rfl ?_ rfl
  refine J.getR (ci := 0) (k0 := 0) (c1 := 26) (q := 4) dX0_passDay_1 kF_X0_12 rfl (by decide) (by decide) rfl (by decide) rfl ?_ rfl
  refine J.aload_n (q := 5) dX0_passDay_4 rfl ?_ rfl
  refine J.getR (ci := 0) (k0 := 1) (c1 := 38) (q := 8) dX0_passDay_5 kF_X0_21 rfl (by decide) (by decide) rfl (by decide) rfl ?_ rfl
  refine J.sipush (q := 11) dX0_passDay_8 (by decide) ?_ rfl
  refine J.iconst (q := 12) dX0_passDay_11 ?_ rfl
  refine J.callV3 (ci := 1) (q := 15) dX0_passDay_12 mv_X1_passDays kL_X0_33 rfl (by decide) rfl ⟨by decide, by decide⟩ (Nat.le_of_ble_eq_true rfl) ⟨by decide, by decide⟩ rfl (c_passDays26 (D := 200000) (th := th1) (X0 := dysM (fdst s) th1 i X) (Int.le_refl _) hD.2.1 (by omega) hth255 (by omega) (D0 := 99999 + i) (by omega) x1 x2 x3 hD.2.2) (fun v9 S9 iv9 hp => ?_)
  obtain ⟨rfl, rfl, b1, b2⟩ := hp
  refine J.vreturn dX0_passDay_15 rfl ?_
  exact ⟨rfl, rfl, fun q hq => (b1 q (by omega)).trans (hD.1 q hq), fun a c a0 a1 c0 c1 => by rw [b1 42 (by omega), b1 43 (by omega)]; exact hD.2.1 a c a0 a1 c0 c1, b2⟩

set_option maxRecDepth 100000 in
set_option maxHeartbeats 4000000 in
theorem c_X0_draftOf {l : Launch} {F : Nat × (Int → Int)} {iv : Mm} {s : Int → Int} (hR : RR iv 1 s) : Ctr l F 2 0 0 yX0_draftOf cX0_draftOf 2 (some (FieldType.object "SnailLaws$Republic")) [r_ 25, r_ 1] S0 (iv) (fun v S iv2 => v = some (r_ 26) ∧ S = S0 ∧ FT iv iv2 ∧ RR iv2 26 s) := by
  refine Ctr.of false (fun h => by cases h) (by decide) rfl (Nat.le_of_ble_eq_true rfl) ?_
  refine J.aload_n (q := 1) dX0_draftOf_0 rfl ?_ rfl
  refine J.getR (ci := 0) (k0 := 0) (c1 := 26) (q := 4) dX0_draftOf_1 kF_X0_12 rfl (by decide) (by decide) rfl (by decide) rfl ?_ rfl
  refine J.aload_n (q := 5) dX0_draftOf_4 rfl ?_ rfl
  refine J.callV1 (ci := 1) (q := 8) dX0_draftOf_5 mv_X1_become kL_X0_25 rfl (by decide) rfl ⟨by decide, by decide⟩ (Nat.le_of_ble_eq_true rfl) ⟨by decide, by decide⟩ rfl (c_become26_1 hR) (fun v9 S9 iv9 hp => ?_)
  obtain ⟨rfl, rfl, b1, hR9⟩ := hp
  have hF9 : FT iv iv9 := fun q hq => b1 q (by omega)
  have hm9 : iv9 30 = iv 30 := b1 30 (by omega)
  refine J.aload_n (q := 9) dX0_draftOf_8 rfl ?_ rfl
  refine J.getR (ci := 0) (k0 := 0) (c1 := 26) (q := 12) dX0_draftOf_9 kF_X0_12 rfl (by decide) (by decide) rfl (by decide) rfl ?_ rfl
  refine J.areturn dX0_draftOf_12 ⟨_, rfl, Or.inl ⟨_, rfl⟩⟩ ?_
  exact ⟨rfl, rfl, hF9, hR9⟩

set_option maxRecDepth 100000 in
set_option maxHeartbeats 4000000 in
theorem c_X0_behind {l : Launch} {F : Nat × (Int → Int)} {iv : Mm} {s : Int → Int} (hR : RR iv 1 s) (hI : MI 99999 s) {Z : Int → Int} (hZ : ∀ c, 0 ≤ c → c < 81 → iv 30 c = Z c) {m : Int} (hm : 0 ≤ m ∧ m ≤ 100) : Ctr l F 5 0 0 yX0_behind cX0_behind 3 (some (FieldType.object "SnailLaws$Republic")) [r_ 25, r_ 1, i_ m] S0 (iv) (fun v S iv2 => v = some (r_ 26) ∧ S = S0 ∧ FT iv iv2 ∧ RM26 iv2 (dysM (fdst s) th1 m.toNat (s, Z))) := by
  refine Ctr.of false (fun h => by cases h) (by decide) rfl (Nat.le_of_ble_eq_true rfl) ?_
  refine J.aload_n (q := 1) dX0_behind_0 rfl ?_ rfl
  refine J.getR (ci := 0) (k0 := 0) (c1 := 26) (q := 4) dX0_behind_1 kF_X0_12 rfl (by decide) (by decide) rfl (by decide) rfl ?_ rfl
  refine J.aload_n (q := 5) dX0_behind_4 rfl ?_ rfl
  refine J.callV1 (ci := 1) (q := 8) dX0_behind_5 mv_X1_become kL_X0_25 rfl (by decide) rfl ⟨by decide, by decide⟩ (Nat.le_of_ble_eq_true rfl) ⟨by decide, by decide⟩ rfl (c_become26_1 hR) (fun v9 S9 iv9 hp => ?_)
  obtain ⟨rfl, rfl, b1, hR9⟩ := hp
  have hF9 : FT iv iv9 := fun q hq => b1 q (by omega)
  have hm9 : iv9 30 = iv 30 := b1 30 (by omega)
  refine J.aload_n (q := 9) dX0_behind_8 rfl ?_ rfl
  refine J.aload_n (q := 10) dX0_behind_9 rfl ?_ rfl
  refine J.callV1 (ci := 0) (q := 13) dX0_behind_10 mv_X0_survey kL_X0_32 rfl (by decide) rfl ⟨by decide, by decide⟩ (Nat.le_of_ble_eq_true rfl) ⟨by decide, by decide⟩ rfl (c_X0_survey (hF9.rr hR) hI) (fun v8 S8 iv8 hp => ?_)
  obtain ⟨rfl, rfl, y1, y2⟩ := hp
  refine J.aload_n (q := 14) dX0_behind_13 rfl ?_ rfl
  refine J.getR (ci := 0) (k0 := 0) (c1 := 26) (q := 17) dX0_behind_14 kF_X0_12 rfl (by decide) (by decide) rfl (by decide) rfl ?_ rfl
  refine J.aload_n (q := 18) dX0_behind_17 rfl ?_ rfl
  refine J.getR (ci := 0) (k0 := 1) (c1 := 38) (q := 21) dX0_behind_18 kF_X0_21 rfl (by decide) (by decide) rfl (by decide) rfl ?_ rfl
  refine J.sipush (q := 24) dX0_behind_21 (by decide) ?_ rfl
  refine J.iload_n (q := 25) dX0_behind_24 rfl ?_ rfl
  refine J.callV3 (ci := 1) (q := 28) dX0_behind_25 mv_X1_passDays kL_X0_33 rfl (by decide) rfl ⟨by decide, by decide⟩ (Nat.le_of_ble_eq_true rfl) ⟨by decide, by decide⟩ rfl (c_passDays26 (D := 200000) (th := th1) (X0 := (s, Z)) (Int.le_refl _) y2 (by omega) hth255 (by omega) (D0 := 99999) (by omega) hI rfl (fun _ _ _ => rfl) ⟨f26 hR9 (fun q q1 q2 q3 => y1 q (by omega)), fun c c0 c1 => by rw [y1 30 (by omega), hm9]; exact hZ c c0 c1⟩) (fun v7 S7 iv7 hp => ?_)
  obtain ⟨rfl, rfl, d1, d2⟩ := hp
  refine J.aload_n (q := 29) dX0_behind_28 rfl ?_ rfl
  refine J.getR (ci := 0) (k0 := 0) (c1 := 26) (q := 32) dX0_behind_29 kF_X0_12 rfl (by decide) (by decide) rfl (by decide) rfl ?_ rfl
  refine J.areturn dX0_behind_32 ⟨_, rfl, Or.inl ⟨_, rfl⟩⟩ ?_
  exact ⟨rfl, rfl, fun q hq => (d1 q (by omega)).trans ((y1 q (by omega)).trans (hF9 q hq)), d2⟩

set_option maxRecDepth 100000 in
set_option maxHeartbeats 4000000 in
theorem c_X5_ahead {l : Launch} {F : Nat × (Int → Int)} {iv A : Mm} (hC : CR iv A) (hA : AI A) {k m : Int} (hk : -2147483648 ≤ k ∧ k < 2147483648) (hm : -2147483648 ≤ m ∧ m < 2147483648) : Ctr l F 7 0 0 yX5_ahead cX5_ahead 3 (some FieldType.int) [r_ 0, i_ k, i_ m] S0 (iv) (CP iv (an_ahead A k m)) := by
  refine Ctr.of false (fun h => by cases h) (by decide) rfl (Nat.le_of_ble_eq_true rfl) ?_
  have hI := hA.mi
  have hmm := hI.many
  have hkp := hA.kp
  have htp := hA.tp
  refine J.aload_n (q := 1) dX5_ahead_0 rfl ?_ rfl
  refine J.iload_n (q := 2) dX5_ahead_1 rfl ?_ rfl
  refine J.callV1i (ci := 5) (q := 5) dX5_ahead_2 mv_X5_isSnail kL_X5_93 rfl (by decide) rfl ⟨by decide, by decide⟩ (Nat.le_of_ble_eq_true rfl) ⟨by decide, by decide⟩ rfl (c_X5_isSnail (by omega) (g1_many hC.r) (by omega)) ?_
  refine J.ifb_eq (tgt := 17) (q := 8) dX5_ahead_5 rfl rfl (fun c5 => ?_) (fun c5 => ?_)
  · refine J.aload_n (q := 18) dX5_ahead_17 rfl ?_ rfl
    refine J.ldc (q := 20) (z := -1000001) dX5_ahead_18 kK_X5_63 ?_ rfl
    refine J.callV1 (ci := 5) (q := 23) dX5_ahead_20 mv_X5_tell kL_X5_64 rfl (by decide) rfl ⟨by decide, by decide⟩ (Nat.le_of_ble_eq_true rfl) ⟨by decide, by decide⟩ rfl (c_X5_tell (w := 0) (by decide) hC (by decide)) (fun v9 S9 iv9 hp => ?_)
    obtain ⟨rfl, rfl, hf8, hC8⟩ := hp
    refine J.ireturn dX5_ahead_23 rfl ?_
    unfold CP an_ahead
    repeat (first | rw [if_pos (by omega)] | rw [if_neg (by omega)])
    first
    | exact ⟨rfl, rfl, hf8, hC8⟩
    | exact ⟨rfl, rfl, fun q hq => hF9 q (by omega), hC9⟩
    | (exfalso; omega)
  · refine J.iload_n (q := 9) dX5_ahead_8 rfl ?_ rfl
    refine J.bipush (q := 11) dX5_ahead_9 (by decide) ?_ rfl
    refine J.callS2i (q := 14) dX5_ahead_11 mv_X5_isWithin kS_X5_isWithin kL_X5_59 ⟨by decide, by decide⟩ (Nat.le_of_ble_eq_true rfl) ⟨by decide, by decide⟩ rfl (c_X5_isWithin (by omega) (by omega)) ?_
    refine J.ifb_ne (tgt := 24) (q := 17) dX5_ahead_14 rfl rfl (fun c14 => ?_) (fun c14 => ?_)
    · refine J.aload_n (q := 25) dX5_ahead_24 rfl ?_ rfl
      refine J.getR (ci := 5) (k0 := 2) (c1 := 25) (q := 28) dX5_ahead_25 kF_X5_22 rfl (by decide) (by decide) rfl (by decide) rfl ?_ rfl
      refine J.aload_n (q := 29) dX5_ahead_28 rfl ?_ rfl
      refine J.getR (ci := 5) (k0 := 0) (c1 := 1) (q := 32) dX5_ahead_29 kF_X5_12 rfl (by decide) (by decide) rfl (by decide) rfl ?_ rfl
      refine J.iload_n (q := 33) dX5_ahead_32 rfl ?_ rfl
      refine J.callV2 (ci := 0) (q := 36) dX5_ahead_33 mv_X0_behind kL_X5_176 rfl (by decide) rfl ⟨by decide, by decide⟩ (Nat.le_of_ble_eq_true rfl) ⟨by decide, by decide⟩ rfl (c_X0_behind hC.r hI (fun _ _ _ => rfl) (by omega)) (fun v9 S9 iv9 hp => ?_)
      obtain ⟨rfl, rfl, hF9, hM9⟩ := hp
      have hR9 := hM9.1
      rw [dys_met] at hR9
      have hC9 := hC.ft hF9
      refine J.getR (ci := 1) (k0 := 6) (c1 := 33) (q := 39) dX5_ahead_36 kF_X5_102 rfl (by decide) (by decide) rfl (by decide) rfl ?_ rfl
      refine J.iload_n (q := 40) dX5_ahead_39 rfl ?_ rfl
      refine J.iald (n := 8) (q := 41) dX5_ahead_40 rfl (by omega) ?_ rfl
      rw [g26_ats hR9 (by omega) (by omega)]
      refine J.ireturn dX5_ahead_41 rfl ?_
      unfold CP an_ahead
      repeat (first | rw [if_pos (by omega)] | rw [if_neg (by omega)])
      first
      | exact ⟨rfl, rfl, hf8, hC8⟩
      | exact ⟨rfl, rfl, fun q hq => hF9 q (by omega), hC9⟩
      | (exfalso; omega)
    · refine J.aload_n (q := 18) dX5_ahead_17 rfl ?_ rfl
      refine J.ldc (q := 20) (z := -1000001) dX5_ahead_18 kK_X5_63 ?_ rfl
      refine J.callV1 (ci := 5) (q := 23) dX5_ahead_20 mv_X5_tell kL_X5_64 rfl (by decide) rfl ⟨by decide, by decide⟩ (Nat.le_of_ble_eq_true rfl) ⟨by decide, by decide⟩ rfl (c_X5_tell (w := 0) (by decide) hC (by decide)) (fun v9 S9 iv9 hp => ?_)
      obtain ⟨rfl, rfl, hf8, hC8⟩ := hp
      refine J.ireturn dX5_ahead_23 rfl ?_
      unfold CP an_ahead
      repeat (first | rw [if_pos (by omega)] | rw [if_neg (by omega)])
      first
      | exact ⟨rfl, rfl, hf8, hC8⟩
      | exact ⟨rfl, rfl, fun q hq => hF9 q (by omega), hC9⟩
      | (exfalso; omega)

set_option maxRecDepth 100000 in
set_option maxHeartbeats 4000000 in
theorem c_X5_lawAt {l : Launch} {F : Nat × (Int → Int)} {iv A : Mm} (hC : CR iv A) (hA : AI A) {c m : Int} (hc : -2147483648 ≤ c ∧ c < 2147483648) (hm : -2147483648 ≤ m ∧ m < 2147483648) : Ctr l F 7 0 0 yX5_lawAt cX5_lawAt 3 (some FieldType.int) [r_ 0, i_ c, i_ m] S0 (iv) (CP iv (an_lawAt A c m)) := by
  refine Ctr.of false (fun h => by cases h) (by decide) rfl (Nat.le_of_ble_eq_true rfl) ?_
  have hI := hA.mi
  have hmm := hI.many
  have hkp := hA.kp
  have htp := hA.tp
  refine J.iload_n (q := 1) dX5_lawAt_0 rfl ?_ rfl
  refine J.callS1i (q := 4) dX5_lawAt_1 mv_X5_isCell kS_X5_isCell kL_X5_55 ⟨by decide, by decide⟩ (Nat.le_of_ble_eq_true rfl) ⟨by decide, by decide⟩ rfl (c_X5_isCell (by omega)) ?_
  refine J.ifb_eq (tgt := 16) (q := 7) dX5_lawAt_4 rfl rfl (fun c4 => ?_) (fun c4 => ?_)
  · refine J.aload_n (q := 17) dX5_lawAt_16 rfl ?_ rfl
    refine J.ldc (q := 19) (z := -1000001) dX5_lawAt_17 kK_X5_63 ?_ rfl
    refine J.callV1 (ci := 5) (q := 22) dX5_lawAt_19 mv_X5_tell kL_X5_64 rfl (by decide) rfl ⟨by decide, by decide⟩ (Nat.le_of_ble_eq_true rfl) ⟨by decide, by decide⟩ rfl (c_X5_tell (w := 0) (by decide) hC (by decide)) (fun v9 S9 iv9 hp => ?_)
    obtain ⟨rfl, rfl, hf8, hC8⟩ := hp
    refine J.ireturn dX5_lawAt_22 rfl ?_
    unfold CP an_lawAt
    repeat (first | rw [if_pos (by omega)] | rw [if_neg (by omega)])
    first
    | exact ⟨rfl, rfl, hf8, hC8⟩
    | exact ⟨rfl, rfl, fun q hq => hF9 q (by omega), hC9⟩
    | (exfalso; omega)
  · refine J.iload_n (q := 8) dX5_lawAt_7 rfl ?_ rfl
    refine J.bipush (q := 10) dX5_lawAt_8 (by decide) ?_ rfl
    refine J.callS2i (q := 13) dX5_lawAt_10 mv_X5_isWithin kS_X5_isWithin kL_X5_59 ⟨by decide, by decide⟩ (Nat.le_of_ble_eq_true rfl) ⟨by decide, by decide⟩ rfl (c_X5_isWithin (by omega) (by omega)) ?_
    refine J.ifb_ne (tgt := 23) (q := 16) dX5_lawAt_13 rfl rfl (fun c13 => ?_) (fun c13 => ?_)
    · refine J.aload_n (q := 24) dX5_lawAt_23 rfl ?_ rfl
      refine J.getR (ci := 5) (k0 := 2) (c1 := 25) (q := 27) dX5_lawAt_24 kF_X5_22 rfl (by decide) (by decide) rfl (by decide) rfl ?_ rfl
      refine J.aload_n (q := 28) dX5_lawAt_27 rfl ?_ rfl
      refine J.getR (ci := 5) (k0 := 0) (c1 := 1) (q := 31) dX5_lawAt_28 kF_X5_12 rfl (by decide) (by decide) rfl (by decide) rfl ?_ rfl
      refine J.iload_n (q := 32) dX5_lawAt_31 rfl ?_ rfl
      refine J.callV2 (ci := 0) (q := 35) dX5_lawAt_32 mv_X0_behind kL_X5_176 rfl (by decide) rfl ⟨by decide, by decide⟩ (Nat.le_of_ble_eq_true rfl) ⟨by decide, by decide⟩ rfl (c_X0_behind hC.r hI (fun _ _ _ => rfl) (by omega)) (fun v9 S9 iv9 hp => ?_)
      obtain ⟨rfl, rfl, hF9, hM9⟩ := hp
      have hR9 := hM9.1
      rw [dys_met] at hR9
      have hC9 := hC.ft hF9
      refine J.getR (ci := 1) (k0 := 2) (c1 := 29) (q := 38) dX5_lawAt_35 kF_X5_74 rfl (by decide) (by decide) rfl (by decide) rfl ?_ rfl
      refine J.iload_n (q := 39) dX5_lawAt_38 rfl ?_ rfl
      refine J.iald (n := 81) (q := 40) dX5_lawAt_39 rfl (by omega) ?_ rfl
      rw [g26_law hR9 (by omega) (by omega)]
      refine J.ireturn dX5_lawAt_40 rfl ?_
      unfold CP an_lawAt
      repeat (first | rw [if_pos (by omega)] | rw [if_neg (by omega)])
      first
      | exact ⟨rfl, rfl, hf8, hC8⟩
      | exact ⟨rfl, rfl, fun q hq => hF9 q (by omega), hC9⟩
      | (exfalso; omega)
    · refine J.aload_n (q := 17) dX5_lawAt_16 rfl ?_ rfl
      refine J.ldc (q := 19) (z := -1000001) dX5_lawAt_17 kK_X5_63 ?_ rfl
      refine J.callV1 (ci := 5) (q := 22) dX5_lawAt_19 mv_X5_tell kL_X5_64 rfl (by decide) rfl ⟨by decide, by decide⟩ (Nat.le_of_ble_eq_true rfl) ⟨by decide, by decide⟩ rfl (c_X5_tell (w := 0) (by decide) hC (by decide)) (fun v9 S9 iv9 hp => ?_)
      obtain ⟨rfl, rfl, hf8, hC8⟩ := hp
      refine J.ireturn dX5_lawAt_22 rfl ?_
      unfold CP an_lawAt
      repeat (first | rw [if_pos (by omega)] | rw [if_neg (by omega)])
      first
      | exact ⟨rfl, rfl, hf8, hC8⟩
      | exact ⟨rfl, rfl, fun q hq => hF9 q (by omega), hC9⟩
      | (exfalso; omega)

set_option maxRecDepth 100000 in
set_option maxHeartbeats 4000000 in
theorem daysToLaw_loop {l : Launch} {F : Nat × (Int → Int)} {iv : Mm} {s : Int → Int} (hR : RR iv 1 s) (hI : MI 99999 s) {w c : Int} (hw : 0 ≤ w ∧ w ≤ 7) (hc : 0 ≤ c ∧ c ≤ 80) {wet : Int} {R : Nat} {X : P2} (hX : HX s X) : ∀ (n : Nat) (i : Nat) (iv1 : Mm), (101 - (i : Int) < n) → (i ≤ 101) → (DL iv iv1 s th1 X i) → (firstD (fun i => decide ((dysM (fdst s) th1 i X).1 (176 + c) = w)) (101 - i) i = R) → J l (yX0_daysToLaw).cls cX0_daysToLaw 6 (some FieldType.int) 5 0 0 false F (fun v S iv2 => v = some (i_ (R : Int)) ∧ S = S0 ∧ FT iv iv2) 0 0 25 [some (r_ 25), some (r_ 1), some (i_ w), some (i_ c), some (i_ wet), some (i_ (i : Int))] [] S0 (iv1) := by
  intro n
  induction n with
  | zero =>
    intro i iv1 hn hi9 hD hB
    omega
  | succ n ih =>
    intro i iv1 hn hi9 hD hB
    obtain ⟨x1, x2, x3, x4⟩ := hX.at (th := th1) i
    have hmm := hI.many
    have hR26 := hD.2.2.1
    refine J.iload (q := 27) dX0_daysToLaw_25 rfl ?_ rfl
    refine J.bipush (q := 29) dX0_daysToLaw_27 (by decide) ?_ rfl
    refine J.icmp_ge (tgt := 55) (q := 32) dX0_daysToLaw_29 rfl rfl (fun c29 => ?_) (fun c29 => ?_)
    · rw [show 101 - i = 0 by omega, firstD] at hB
      refine J.iload (q := 57) dX0_daysToLaw_55 rfl ?_ rfl
      refine J.ireturn dX0_daysToLaw_57 rfl ?_
      subst hB
      exact ⟨rfl, rfl, hD.1⟩
    · have hfu : 101 - i = (100 - i) + 1 := by omega
      rw [hfu, firstD] at hB
      refine J.aload_n (q := 33) dX0_daysToLaw_32 rfl ?_ rfl
      refine J.getR (ci := 0) (k0 := 0) (c1 := 26) (q := 36) dX0_daysToLaw_33 kF_X0_12 rfl (by decide) (by decide) rfl (by decide) rfl ?_ rfl
      refine J.getR (ci := 1) (k0 := 2) (c1 := 29) (q := 39) dX0_daysToLaw_36 kF_X0_41 rfl (by decide) (by decide) rfl (by decide) rfl ?_ rfl
      refine J.iload_n (q := 40) dX0_daysToLaw_39 rfl ?_ rfl
      refine J.iald (n := 81) (q := 41) dX0_daysToLaw_40 rfl (by omega) ?_ rfl
      rw [g26_law hR26 (by omega) (by omega)]
      have hcl := (x1.cel c (by omega) (by omega)).2.2
      refine J.iload_n (q := 42) dX0_daysToLaw_41 rfl ?_ rfl
      refine J.icmp_eq (tgt := 55) (q := 45) dX0_daysToLaw_42 rfl rfl (fun c42 => ?_) (fun c42 => ?_)
      · rw [if_pos (decide_eq_true c42)] at hB
        refine J.iload (q := 57) dX0_daysToLaw_55 rfl ?_ rfl
        refine J.ireturn dX0_daysToLaw_57 rfl ?_
        subst hB
        exact ⟨rfl, rfl, hD.1⟩
      · rw [if_neg (fun z => c42 (of_decide_eq_true z))] at hB
        refine J.aload_n (q := 46) dX0_daysToLaw_45 rfl ?_ rfl
        refine J.callV0 (ci := 0) (q := 49) dX0_daysToLaw_46 mv_X0_passDay kL_X0_45 rfl (by decide) rfl ⟨by decide, by decide⟩ (Nat.le_of_ble_eq_true rfl) ⟨by decide, by decide⟩ rfl (c_X0_passDay hX (by omega) hD) (fun v9 S9 iv9 hp => ?_)
        obtain ⟨rfl, rfl, hD9⟩ := hp
        refine J.iinc (q := 52) dX0_daysToLaw_49 rfl ?_ rfl
        refine J.goto (tgt := 25) dX0_daysToLaw_52 rfl ?_
        exact ih (i + 1) iv9 (by omega) (by omega) hD9 (by rw [show 101 - (i + 1) = 100 - i by omega]; exact hB)

theorem rchD_X {s : Int → Int} {x w c : Int} (Z : Int → Int) : firstD (fun i => decide ((dysM (fdst s) th1 i (upr s 4 x, Z)).1 (176 + c) = w)) (101 - 0) 0 = rchD (upr s 4 x) w c := by
  unfold rchD
  congr 1
  funext i
  rw [dys_X fdst_w Z i]
theorem firstD_r (p : Nat → Bool) : ∀ n i : Nat, i ≤ firstD p n i ∧ firstD p n i ≤ i + n
  | 0, i => ⟨Nat.le_refl _, Nat.le_refl _⟩
  | n + 1, i => by
    have := firstD_r p n (i + 1)
    rw [firstD]
    split <;> omega
theorem rchD_r (s : Int → Int) (w c : Int) : rchD s w c ≤ 101 := (firstD_r _ 101 0).2
set_option maxRecDepth 100000 in
set_option maxHeartbeats 4000000 in
theorem c_X0_daysToLaw {l : Launch} {F : Nat × (Int → Int)} {iv : Mm} {s : Int → Int} (hR : RR iv 1 s) (hI : MI 99999 s) {w c wet : Int} (hw : 0 ≤ w ∧ w ≤ 7) (hc : 0 ≤ c ∧ c ≤ 80) (hwet : 0 ≤ wet ∧ wet ≤ 9) : Ctr l F 5 0 0 yX0_daysToLaw cX0_daysToLaw 6 (some FieldType.int) [r_ 25, r_ 1, i_ w, i_ c, i_ wet] S0 (iv) (fun v S iv2 => v = some (i_ (rchD (upr s 4 wet) w c : Int)) ∧ S = S0 ∧ FT iv iv2) := by
  refine Ctr.of false (fun h => by cases h) (by decide) rfl (Nat.le_of_ble_eq_true rfl) ?_
  refine J.aload_n (q := 1) dX0_daysToLaw_0 rfl ?_ rfl
  refine J.getR (ci := 0) (k0 := 0) (c1 := 26) (q := 4) dX0_daysToLaw_1 kF_X0_12 rfl (by decide) (by decide) rfl (by decide) rfl ?_ rfl
  refine J.aload_n (q := 5) dX0_daysToLaw_4 rfl ?_ rfl
  refine J.callV1 (ci := 1) (q := 8) dX0_daysToLaw_5 mv_X1_become kL_X0_25 rfl (by decide) rfl ⟨by decide, by decide⟩ (Nat.le_of_ble_eq_true rfl) ⟨by decide, by decide⟩ rfl (c_become26_1 hR) (fun v9 S9 iv9 hp => ?_)
  obtain ⟨rfl, rfl, b1, hR9⟩ := hp
  have hF9 : FT iv iv9 := fun q hq => b1 q (by omega)
  have hm9 : iv9 30 = iv 30 := b1 30 (by omega)
  refine J.aload_n (q := 9) dX0_daysToLaw_8 rfl ?_ rfl
  refine J.getR (ci := 0) (k0 := 0) (c1 := 26) (q := 12) dX0_daysToLaw_9 kF_X0_12 rfl (by decide) (by decide) rfl (by decide) rfl ?_ rfl
  refine J.iload (q := 14) dX0_daysToLaw_12 rfl ?_ rfl
  refine J.putI (ci := 1) (k0 := 12) (kz := 12) (q := 17) dX0_daysToLaw_14 kF_X0_37 rfl (by decide) (by decide) rfl rfl rfl ?_ rfl
  refine J.aload_n (q := 18) dX0_daysToLaw_17 rfl ?_ rfl
  refine J.aload_n (q := 19) dX0_daysToLaw_18 rfl ?_ rfl
  refine J.callV1 (ci := 0) (q := 22) dX0_daysToLaw_19 mv_X0_survey kL_X0_32 rfl (by decide) rfl ⟨by decide, by decide⟩ (Nat.le_of_ble_eq_true rfl) ⟨by decide, by decide⟩ rfl (c_X0_survey (f1 hR (fun q q1 q2 q3 => (up_n _ _ _ (by omega)).trans (hF9 q (by omega)))) hI) (fun v8 S8 iv8 hp => ?_)
  obtain ⟨rfl, rfl, y1, y2⟩ := hp
  refine J.iconst (q := 23) dX0_daysToLaw_22 ?_ rfl
  refine J.istore (q := 25) dX0_daysToLaw_23 (Nat.le_of_ble_eq_true rfl) ?_ rfl
  exact daysToLaw_loop hR hI hw hc (HX.w hI hwet (iv 30)) 102 0 iv8 (by omega) (by omega) ⟨fun q hq => (y1 q (by omega)).trans ((hF9.up (by omega)) q hq), y2, f26 (u26_wet hR9) (fun q q1 q2 q3 => y1 q (by omega)), fun j j0 j1 => by rw [y1 30 (by omega), up_n _ _ _ (by decide), hm9]; rfl⟩ (rchD_X (iv 30))

set_option maxRecDepth 100000 in
set_option maxHeartbeats 4000000 in
theorem c_X5_reaches {l : Launch} {F : Nat × (Int → Int)} {iv A : Mm} (hC : CR iv A) (hA : AI A) {w c : Int} (hw : -2147483648 ≤ w ∧ w < 2147483648) (hc : -2147483648 ≤ c ∧ c < 2147483648) : Ctr l F 7 0 0 yX5_reaches cX5_reaches 4 (some FieldType.int) [r_ 0, i_ w, i_ c] S0 (iv) (CP iv (an_reaches A w c)) := by
  refine Ctr.of false (fun h => by cases h) (by decide) rfl (Nat.le_of_ble_eq_true rfl) ?_
  have hI := hA.mi
  have hmm := hI.many
  have hkp := hA.kp
  have htp := hA.tp
  refine J.iload_n (q := 1) dX5_reaches_0 rfl ?_ rfl
  refine J.callS1i (q := 4) dX5_reaches_1 mv_X5_isLaw kS_X5_isLaw kL_X5_112 ⟨by decide, by decide⟩ (Nat.le_of_ble_eq_true rfl) ⟨by decide, by decide⟩ rfl (c_X5_isLaw (by omega)) ?_
  refine J.ifb_eq (tgt := 14) (q := 7) dX5_reaches_4 rfl rfl (fun c4 => ?_) (fun c4 => ?_)
  · refine J.aload_n (q := 15) dX5_reaches_14 rfl ?_ rfl
    refine J.ldc (q := 17) (z := -1000001) dX5_reaches_15 kK_X5_63 ?_ rfl
    refine J.callV1 (ci := 5) (q := 20) dX5_reaches_17 mv_X5_tell kL_X5_64 rfl (by decide) rfl ⟨by decide, by decide⟩ (Nat.le_of_ble_eq_true rfl) ⟨by decide, by decide⟩ rfl (c_X5_tell (w := 0) (by decide) hC (by decide)) (fun v9 S9 iv9 hp => ?_)
    obtain ⟨rfl, rfl, hf8, hC8⟩ := hp
    refine J.ireturn dX5_reaches_20 rfl ?_
    unfold CP an_reaches
    repeat (first | rw [if_pos (by omega)] | rw [if_neg (by omega)])
    first
    | exact ⟨rfl, rfl, hf8, hC8⟩
    | exact ⟨rfl, rfl, fun q hq => (hf8 q hq).trans (hF9 q (by omega)), hC8⟩
    | exact ⟨rfl, rfl, fun q hq => hF9 q (by omega), hC9⟩
    | (exfalso; omega)
  · refine J.iload_n (q := 8) dX5_reaches_7 rfl ?_ rfl
    refine J.callS1i (q := 11) dX5_reaches_8 mv_X5_isCell kS_X5_isCell kL_X5_55 ⟨by decide, by decide⟩ (Nat.le_of_ble_eq_true rfl) ⟨by decide, by decide⟩ rfl (c_X5_isCell (by omega)) ?_
    refine J.ifb_ne (tgt := 21) (q := 14) dX5_reaches_11 rfl rfl (fun c11 => ?_) (fun c11 => ?_)
    · refine J.aload_n (q := 22) dX5_reaches_21 rfl ?_ rfl
      refine J.getR (ci := 5) (k0 := 2) (c1 := 25) (q := 25) dX5_reaches_22 kF_X5_22 rfl (by decide) (by decide) rfl (by decide) rfl ?_ rfl
      refine J.aload_n (q := 26) dX5_reaches_25 rfl ?_ rfl
      refine J.getR (ci := 5) (k0 := 0) (c1 := 1) (q := 29) dX5_reaches_26 kF_X5_12 rfl (by decide) (by decide) rfl (by decide) rfl ?_ rfl
      refine J.iload_n (q := 30) dX5_reaches_29 rfl ?_ rfl
      refine J.iload_n (q := 31) dX5_reaches_30 rfl ?_ rfl
      refine J.aload_n (q := 32) dX5_reaches_31 rfl ?_ rfl
      refine J.getR (ci := 5) (k0 := 0) (c1 := 1) (q := 35) dX5_reaches_32 kF_X5_12 rfl (by decide) (by decide) rfl (by decide) rfl ?_ rfl
      refine J.getI (ci := 1) (k0 := 12) (kz := 12) (q := 38) dX5_reaches_35 kF_X5_118 rfl (by decide) (by decide) rfl (.inl rfl) ?_ rfl
      rw [g1_wet hC.r]
      have hwt := hI.wet
      refine J.callV4 (ci := 0) (q := 41) dX5_reaches_38 mv_X0_daysToLaw kL_X5_180 rfl (by decide) rfl ⟨by decide, by decide⟩ (Nat.le_of_ble_eq_true rfl) ⟨by decide, by decide⟩ rfl (c_X0_daysToLaw hC.r hI (w := w) (c := c) (wet := A 62 4) (by omega) (by omega) (by omega)) (fun v9 S9 iv9 hp => ?_)
      obtain ⟨rfl, rfl, hF9⟩ := hp
      have hC9 := hC.ft hF9
      rw [upr_self]
      have hrd := rchD_r (A 62) w c
      refine J.istore_n (q := 42) dX5_reaches_41 (Nat.le_of_ble_eq_true rfl) ?_ rfl
      refine J.iload_n (q := 43) dX5_reaches_42 rfl ?_ rfl
      refine J.bipush (q := 45) dX5_reaches_43 (by decide) ?_ rfl
      refine J.icmp_ne (tgt := 57) (q := 48) (hv := by omega) dX5_reaches_45 rfl rfl (fun c45 => ?_) (fun c45 => ?_)
      · refine J.iload_n (q := 58) dX5_reaches_57 rfl ?_ rfl
        refine J.ireturn dX5_reaches_58 rfl ?_
        unfold CP an_reaches
        repeat (first | rw [if_pos (by omega)] | rw [if_neg (by omega)])
        first
        | exact ⟨rfl, rfl, hf8, hC8⟩
        | exact ⟨rfl, rfl, fun q hq => (hf8 q hq).trans (hF9 q (by omega)), hC8⟩
        | exact ⟨rfl, rfl, fun q hq => hF9 q (by omega), hC9⟩
        | (exfalso; omega)
      · refine J.aload_n (q := 49) dX5_reaches_48 rfl ?_ rfl
        refine J.ldc (q := 51) (z := -1000004) dX5_reaches_49 kK_X5_172 ?_ rfl
        refine J.callV1 (ci := 5) (q := 54) dX5_reaches_51 mv_X5_tell kL_X5_64 rfl (by decide) rfl ⟨by decide, by decide⟩ (Nat.le_of_ble_eq_true rfl) ⟨by decide, by decide⟩ rfl (c_X5_tell (w := 3) (by decide) hC9 (by decide)) (fun v8 S8 iv8 hp => ?_)
        obtain ⟨rfl, rfl, hf8, hC8⟩ := hp
        refine J.goto (tgt := 58) dX5_reaches_54 rfl ?_
        refine J.ireturn dX5_reaches_58 rfl ?_
        unfold CP an_reaches
        repeat (first | rw [if_pos (by omega)] | rw [if_neg (by omega)])
        first
        | exact ⟨rfl, rfl, hf8, hC8⟩
        | exact ⟨rfl, rfl, fun q hq => (hf8 q hq).trans (hF9 q (by omega)), hC8⟩
        | exact ⟨rfl, rfl, fun q hq => hF9 q (by omega), hC9⟩
        | (exfalso; omega)
    · refine J.aload_n (q := 15) dX5_reaches_14 rfl ?_ rfl
      refine J.ldc (q := 17) (z := -1000001) dX5_reaches_15 kK_X5_63 ?_ rfl
      refine J.callV1 (ci := 5) (q := 20) dX5_reaches_17 mv_X5_tell kL_X5_64 rfl (by decide) rfl ⟨by decide, by decide⟩ (Nat.le_of_ble_eq_true rfl) ⟨by decide, by decide⟩ rfl (c_X5_tell (w := 0) (by decide) hC (by decide)) (fun v9 S9 iv9 hp => ?_)
      obtain ⟨rfl, rfl, hf8, hC8⟩ := hp
      refine J.ireturn dX5_reaches_20 rfl ?_
      unfold CP an_reaches
      repeat (first | rw [if_pos (by omega)] | rw [if_neg (by omega)])
      first
      | exact ⟨rfl, rfl, hf8, hC8⟩
      | exact ⟨rfl, rfl, fun q hq => (hf8 q hq).trans (hF9 q (by omega)), hC8⟩
      | exact ⟨rfl, rfl, fun q hq => hF9 q (by omega), hC9⟩
      | (exfalso; omega)

