/-! the reference: forecasts (printed by wip/whole/m_model8.py) -/
theorem TF.lo {iv iv2 : Mm} (h : TF iv iv2) : ∀ q, (q ≤ 63 ∨ 70 ≤ q) → iv2 q = iv q := fun q hq => hq.elim (h.1 q) (h.2.2 q)
theorem mpTF {iv iv2 : Mm} {x : Int} (h : TF iv iv2) : MP iv (x, hi iv) (some (i_ x)) S0 iv2 := ⟨rfl, rfl, fun q hq => h.lo q (by omega), h.like⟩
theorem mpTFb {iv iv2 : Mm} {w : Int} (h : TF iv iv2) : MP iv (bad (hi iv) w) (some (i_ (-1000001 - w))) S0 (up iv2 65 w (iv2 65 w + 1)) :=
  ⟨rfl, rfl, fun q hq => (up_n _ _ _ (by omega)).trans (h.lo q (by omega)), h.1 62 (by omega), h.1 63 (by omega), by rw [up_s, h.2.1]; rfl, h.2.2 70 (by omega), h.2.2 74 (by omega), h.2.2 75 (by omega), h.2.2 76 (by omega), by show iv2 61 3 = iv 61 3; rw [h.1 61 (by omega)], by show iv2 61 10 = iv 61 10; rw [h.1 61 (by omega)]⟩
theorem TF.rf {iv : Mm} : TF iv iv := ⟨fun _ _ => rfl, rfl, fun _ _ => rfl⟩
theorem TF.tr {a b c : Mm} (h1 : TF a b) (h2 : TF b c) : TF a c := ⟨fun q hq => (h2.1 q hq).trans (h1.1 q hq), h2.2.1.trans h1.2.1, fun q hq => (h2.2.2 q hq).trans (h1.2.2 q hq)⟩
theorem AI.tf {a b : Mm} (h : AI a) (t : TF a b) : AI b := by
  have e61 := t.1 61 (by omega)
  have e62 := t.1 62 (by omega)
  have e63 := t.1 63 (by omega)
  have e70 := t.2.2 70 (by omega)
  have e74 := t.2.2 74 (by omega)
  have e75 := t.2.2 75 (by omega)
  have e76 := t.2.2 76 (by omega)
  unfold AI
  rw [e61, e62, e63, e70, e74, e75, e76]
  exact h
set_option maxRecDepth 100000 in
set_option maxHeartbeats 4000000 in
theorem thereBy_loop {l : Launch} {F : Nat × (Int → Int)} {iv iv1 : Mm} (hA : AI iv) (hfar : FarOK iv1 (fdst (iv 62)) (iv 62 2)) {R : Nat} {k z : Int} (hk : 0 ≤ k ∧ k < iv 62 2) (hz : 0 ≤ z ∧ z ≤ 100) (K : ∀ _ : True, J l (yX6_thereBy).cls cX6_thereBy 4 (some FieldType.int) 4 0 0 false F (fun v S iv2 => v = some (i_ (if (R : Int) ≤ z then (R : Int) else -1)) ∧ S = S0 ∧ TF iv iv2 ∧ FarOK iv2 (fdst (iv 62)) (iv 62 2)) 0 0 37 [some (r_ 61), some (i_ k), some (i_ z), some (i_ ((R : Nat) : Int))] [] S0 (mk2 iv1 (dysM (fdst (iv 62)) th1 R (iv 62, iv1 69)))) : ∀ (n : Nat) (i : Nat), ((z + 1) - i < n) → ((i : Int) ≤ (z + 1)) → (firstD (fun i => decide (dys (iv 62) i (257 + 5 * k + 1) = iv 62 (257 + 5 * k + 3))) ((z.toNat + 1) - i) i = R) → J l (yX6_thereBy).cls cX6_thereBy 4 (some FieldType.int) 4 0 0 false F (fun v S iv2 => v = some (i_ (if (R : Int) ≤ z then (R : Int) else -1)) ∧ S = S0 ∧ TF iv iv2 ∧ FarOK iv2 (fdst (iv 62)) (iv 62 2)) 0 0 10 [some (r_ 61), some (i_ k), some (i_ z), some (i_ (i : Int))] [] S0 (mk2 iv1 (dysM (fdst (iv 62)) th1 i (iv 62, iv1 69))) := by
  intro n
  induction n with
  | zero =>
    intro i hn hi hB
    omega
  | succ n ih =>
    intro i hn hi hB
    have hI := hA.mi
    have hmm := hI.many
    obtain ⟨hX, hX0, hXk⟩ := dysM_MI (fr := fdst (iv 62)) (th := th1) (X := (iv 62, iv1 69)) hI i
    have hm2 : (dysM (fdst (iv 62)) th1 i (iv 62, iv1 69)).1 2 = iv 62 2 := hXk 2 (kept_lo (by omega))
    have e1 : dys (iv 62) i = (dysM (fdst (iv 62)) th1 i (iv 62, iv1 69)).1 := dysM_fst (fdst (iv 62)) th1 (P0 (iv 62)) (iv 62, iv1 69) rfl i
    refine J.iload_n (q := 11) dX6_thereBy_10 rfl ?_ rfl
    refine J.iload_n (q := 12) dX6_thereBy_11 rfl ?_ rfl
    refine J.icmp_gt (tgt := 37) (q := 15) dX6_thereBy_12 rfl rfl (fun c12 => ?_) (fun c12 => ?_)
    · have hi9 : i = (z.toNat + 1) := by omega
      rw [show (z.toNat + 1) - i = 0 by omega, firstD] at hB
      subst hB
      exact K trivial
    · refine J.aload_n (q := 16) dX6_thereBy_15 rfl ?_ rfl
      refine J.iload_n (q := 17) dX6_thereBy_16 rfl ?_ rfl
      have hsn := hX.sna k (by omega) (by omega)
      have hgk : (dysM (fdst (iv 62)) th1 i (iv 62, iv1 69)).1 (257 + 5 * k + 3) = iv 62 (257 + 5 * k + 3) := hXk _ (kept_s (by omega) (by omega))
      refine J.callV1i (ci := 6) (q := 20) dX6_thereBy_17 mv_X6_isThere kL_X6_143 rfl (by decide) rfl ⟨by decide, by decide⟩ (Nat.le_of_ble_eq_true rfl) ⟨by decide, by decide⟩ rfl (c_X6_isThere (by omega) (by rw [mk2_62]; omega) (by rw [mk2_62]; omega)) ?_
      simp only [mk2_62]
      refine J.ifb_ne (tgt := 37) (q := 23) dX6_thereBy_20 rfl rfl (fun c20 => ?_) (fun c20 => ?_)
      · have hpi : (fun i => decide (dys (iv 62) i (257 + 5 * k + 1) = iv 62 (257 + 5 * k + 3))) i = true := decide_eq_true (by rw [e1]; exact c20.trans hgk)
        rw [show (z.toNat + 1) - i = ((z.toNat + 1) - (i + 1)) + 1 by omega, firstD, if_pos hpi] at hB
        subst hB
        exact K trivial
      · have hpi : ¬ ((fun i => decide (dys (iv 62) i (257 + 5 * k + 1) = iv 62 (257 + 5 * k + 3))) i = true) := fun z => c20 (by rw [hgk, ← e1]; exact of_decide_eq_true z)
        refine J.aload_n (q := 24) dX6_thereBy_23 rfl ?_ rfl
        refine J.aload_n (q := 25) dX6_thereBy_24 rfl ?_ rfl
        refine J.callV0i (ci := 6) (q := 28) dX6_thereBy_25 mv_X6_allSnails kL_X6_115 rfl (by decide) rfl ⟨by decide, by decide⟩ (Nat.le_of_ble_eq_true rfl) ⟨by decide, by decide⟩ rfl (c_X6_allSnails (by rw [mk2_62, hm2]; exact hmm)) ?_
        simp only [mk2_62]
        rw [hm2]
        refine J.callV1v (ci := 6) (q := 31) dX6_thereBy_28 mv_X6_day kL_X6_119 rfl (by decide) rfl ⟨by decide, by decide⟩ (Nat.le_of_ble_eq_true rfl) ⟨by decide, by decide⟩ rfl (c_X6_day (by omega) hX hm2 hfar (allR hmm) (fun k a b => ⟨fun _ => rfl, fun _ => allB hmm ⟨a, b⟩⟩)) ?_
        refine J.iinc (q := 34) dX6_thereBy_31 rfl ?_ rfl
        refine J.goto (tgt := 10) dX6_thereBy_34 rfl ?_
        have e3 : (z.toNat + 1) - i = ((z.toNat + 1) - (i + 1)) + 1 := by omega
        rw [e3, firstD, if_neg hpi] at hB
        exact ih (i + 1) (by omega) (by omega) hB

set_option maxRecDepth 100000 in
set_option maxHeartbeats 4000000 in
theorem c_X6_thereBy {l : Launch} {F : Nat × (Int → Int)} {iv : Mm} (hA : AI iv) {k z : Int} (hk : 0 ≤ k ∧ k < iv 62 2) (hz : 0 ≤ z ∧ z ≤ 100) : Ctr l F 4 0 0 yX6_thereBy cX6_thereBy 4 (some FieldType.int) [r_ 61, i_ k, i_ z] S0 (iv) (fun v S iv2 => v = some (i_ (if (gatD (iv 62) k z.toNat : Int) ≤ z then (gatD (iv 62) k z.toNat : Int) else -1)) ∧ S = S0 ∧ TF iv iv2 ∧ FarOK iv2 (fdst (iv 62)) (iv 62 2)) := by
  refine Ctr.of false (fun h => by cases h) (by decide) rfl (Nat.le_of_ble_eq_true rfl) ?_
  have hI := hA.mi
  have hmm := hI.many
  have hkp := hA.kp
  have htp := hA.tp
  refine J.aload_n (q := 1) dX6_thereBy_0 rfl ?_ rfl
  refine J.callV0 (ci := 6) (q := 4) dX6_thereBy_1 mv_X6_setsAside kL_X6_155 rfl (by decide) rfl ⟨by decide, by decide⟩ (Nat.le_of_ble_eq_true rfl) ⟨by decide, by decide⟩ rfl (c_X6_setsAside) (fun v9 S9 iv9 hp => ?_)
  obtain ⟨rfl, rfl, a1, a2, a3⟩ := hp
  have e9 := a1 62 (by decide)
  have hI9 : MI 99999 (iv9 62) := by rw [e9]; exact hI
  refine J.aload_n (q := 5) dX6_thereBy_4 rfl ?_ rfl
  refine J.callV0 (ci := 6) (q := 8) dX6_thereBy_5 mv_X6_findsFars kL_X6_112 rfl (by decide) rfl ⟨by decide, by decide⟩ (Nat.le_of_ble_eq_true rfl) ⟨by decide, by decide⟩ rfl (c_X6_findsFars (show (99999 : Int) ≤ 200000 by omega) hI9) (fun v8 S8 iv8 hp => ?_)
  obtain ⟨rfl, rfl, g1, g2⟩ := hp
  have e8 := (g1 62 (by decide) (by decide) (by decide)).trans e9
  rw [e9] at g2
  refine J.iconst (q := 9) dX6_thereBy_8 ?_ rfl
  refine J.istore_n (q := 10) dX6_thereBy_9 (Nat.le_of_ble_eq_true rfl) ?_ rfl
  refine J.eqi (iv2 := mk2 iv8 (dysM (fdst (iv 62)) th1 0 (iv 62, iv8 69))) (by show iv8 = mk2 iv8 (iv 62, iv8 69); rw [← e8, mk2_self]) ?_
  refine thereBy_loop hA g2 (R := (gatD (iv 62) k z.toNat)) hk hz (fun _ => ?_) 102 0 (by omega) (by omega) rfl
  refine J.aload_n (q := 38) dX6_thereBy_37 rfl ?_ rfl
  refine J.callV0 (ci := 6) (q := 41) dX6_thereBy_38 mv_X6_laysBack kL_X6_158 rfl (by decide) rfl ⟨by decide, by decide⟩ (Nat.le_of_ble_eq_true rfl) ⟨by decide, by decide⟩ rfl (c_X6_laysBack) (fun v7 S7 iv7 hp => ?_)
  obtain ⟨rfl, rfl, b1, b2, b3⟩ := hp
  have e64 : iv8 64 = iv9 64 := g1 64 (by decide) (by decide) (by decide)
  have hTF : TF iv iv7 := by
    refine ⟨fun q hq => ?_, ?_, fun q hq => ?_⟩
    · by_cases h62 : q = 62
      · subst h62
        refine laid (fun j h1 h2 => ?_) b3 (dys_junk hI (gatD (iv 62) k z.toNat))
        rw [b2 j h1 h2, mk2_n _ _ (by decide) (by decide), e64, a2 j h1 h2]
      · rw [b1 q h62, mk2_n _ _ h62 (by omega), g1 q (by omega) (by omega) (by omega), a1 q (by omega)]
    · rw [b1 65 (by decide), mk2_n _ _ (by decide) (by decide), g1 65 (by decide) (by decide) (by decide), a1 65 (by decide)]
    · rw [b1 q (by omega), mk2_n _ _ (by omega) (by omega), g1 q (by omega) (by omega) (by omega), a1 q (by omega)]
  have hFO : FarOK iv7 (fdst (iv 62)) (iv 62 2) := fun i c h1 h2 h3 h4 => by rw [b1 66 (by decide), mk2_n _ _ (by decide) (by decide)]; exact g2 i c h1 h2 h3 h4
  refine J.iload_n (q := 42) dX6_thereBy_41 rfl ?_ rfl
  refine J.iload_n (q := 43) dX6_thereBy_42 rfl ?_ rfl
  have hfl : gatD (iv 62) k z.toNat ≤ z.toNat + 1 := by have := (firstD_le (fun i => decide (dys (iv 62) i (257 + 5 * k + 1) = iv 62 (257 + 5 * k + 3))) (z.toNat + 1) 0).2; unfold gatD; omega
  refine J.icmp_gt (tgt := 50) (q := 46) dX6_thereBy_43 rfl rfl (fun c43 => ?_) (fun c43 => ?_)
  · refine J.iconst (q := 51) dX6_thereBy_50 ?_ rfl
    refine J.ireturn dX6_thereBy_51 rfl ?_
    first
    | (rw [if_pos (by omega)]; exact ⟨rfl, rfl, hTF, hFO⟩)
    | (rw [if_neg (by omega)]; exact ⟨rfl, rfl, hTF, hFO⟩)
  · refine J.iload_n (q := 47) dX6_thereBy_46 rfl ?_ rfl
    refine J.goto (tgt := 51) dX6_thereBy_47 rfl ?_
    refine J.ireturn dX6_thereBy_51 rfl ?_
    first
    | (rw [if_pos (by omega)]; exact ⟨rfl, rfl, hTF, hFO⟩)
    | (rw [if_neg (by omega)]; exact ⟨rfl, rfl, hTF, hFO⟩)

set_option maxRecDepth 100000 in
set_option maxHeartbeats 4000000 in
theorem c_X6_reaches {l : Launch} {F : Nat × (Int → Int)} {iv : Mm} (hA : AI iv) {w c : Int} (hw : -2147483648 ≤ w ∧ w < 2147483648) (hc : -2147483648 ≤ c ∧ c < 2147483648) : Ctr l F 6 0 0 yX6_reaches cX6_reaches 4 (some FieldType.int) [r_ 61, i_ w, i_ c] S0 (iv) (MP iv (an_reaches (hi iv) w c)) := by
  refine Ctr.of false (fun h => by cases h) (by decide) rfl (Nat.le_of_ble_eq_true rfl) ?_
  have hI := hA.mi
  have hmm := hI.many
  have hkp := hA.kp
  have htp := hA.tp
  refine J.iload_n (q := 1) dX6_reaches_0 rfl ?_ rfl
  refine J.callS1i (q := 4) dX6_reaches_1 mv_X6_isLaw kS_X6_isLaw kL_X6_134 ⟨by decide, by decide⟩ (Nat.le_of_ble_eq_true rfl) ⟨by decide, by decide⟩ rfl (c_X6_isLaw (by omega)) ?_
  refine J.ifb_eq (tgt := 14) (q := 7) dX6_reaches_4 rfl rfl (fun c4 => ?_) (fun c4 => ?_)
  · refine J.aload_n (q := 15) dX6_reaches_14 rfl ?_ rfl
    refine J.iconst (q := 16) dX6_reaches_15 ?_ rfl
    refine J.callV1i (ci := 6) (q := 19) dX6_reaches_16 mv_X6_no kL_X6_125 rfl (by decide) rfl ⟨by decide, by decide⟩ (Nat.le_of_ble_eq_true rfl) ⟨by decide, by decide⟩ rfl (c_X6_no (by omega)) ?_
    refine J.ireturn dX6_reaches_19 rfl ?_
    unfold an_reaches
    (try rw [hi_61]); (try rw [hi_62]); (try rw [hi_63]); (try rw [hi_65]); (try rw [hi_70]); (try rw [hi_74]); (try rw [hi_75]); (try rw [hi_76])
    repeat (first | rw [if_pos (by omega)] | rw [if_neg (by omega)])
    first
    | exact mpTF TF.rf
    | exact mpTFb TF.rf
    | exact mpTF hTF
    | exact mpTFb hTF
    | (exfalso; omega)
  · refine J.iload_n (q := 8) dX6_reaches_7 rfl ?_ rfl
    refine J.callS1i (q := 11) dX6_reaches_8 mv_X6_isCell kS_X6_isCell kL_X6_122 ⟨by decide, by decide⟩ (Nat.le_of_ble_eq_true rfl) ⟨by decide, by decide⟩ rfl (c_X6_isCell (by omega)) ?_
    refine J.ifb_ne (tgt := 20) (q := 14) dX6_reaches_11 rfl rfl (fun c11 => ?_) (fun c11 => ?_)
    · refine J.aload_n (q := 21) dX6_reaches_20 rfl ?_ rfl
      refine J.iload_n (q := 22) dX6_reaches_21 rfl ?_ rfl
      refine J.iload_n (q := 23) dX6_reaches_22 rfl ?_ rfl
      refine J.callV2 (ci := 6) (q := 26) dX6_reaches_23 mv_X6_reachedBy kL_X6_161 rfl (by decide) rfl ⟨by decide, by decide⟩ (Nat.le_of_ble_eq_true rfl) ⟨by decide, by decide⟩ rfl (c_X6_reachedBy hA (by omega) (by omega)) (fun v9 S9 iv9 hp => ?_)
      obtain ⟨rfl, rfl, hTF⟩ := hp
      refine J.istore_n (q := 27) dX6_reaches_26 (Nat.le_of_ble_eq_true rfl) ?_ rfl
      refine J.iload_n (q := 28) dX6_reaches_27 rfl ?_ rfl
      have hfl : rchD (iv 62) w c ≤ 101 := (firstD_le _ 101 0).2
      by_cases hr1 : rchD (iv 62) w c ≤ 100
      · rw [if_pos hr1]
        refine J.if_ge (tgt := 39) (q := 31) dX6_reaches_28 rfl rfl (fun c28 => ?_) (fun c28 => absurd c28 (by omega))
        refine J.iload_n (q := 40) dX6_reaches_39 rfl ?_ rfl
        refine J.ireturn dX6_reaches_40 rfl ?_
        unfold an_reaches
        (try rw [hi_61]); (try rw [hi_62]); (try rw [hi_63]); (try rw [hi_65]); (try rw [hi_70]); (try rw [hi_74]); (try rw [hi_75]); (try rw [hi_76])
        repeat (first | rw [if_pos (by omega)] | rw [if_neg (by omega)])
        first
        | exact mpTF TF.rf
        | exact mpTFb TF.rf
        | exact mpTF hTF
        | exact mpTFb hTF
        | (exfalso; omega)
      rw [if_neg hr1]
      refine J.if_ge (tgt := 39) (q := 31) dX6_reaches_28 rfl rfl (fun c => absurd c (by omega)) (fun c28 => ?_)
      refine J.aload_n (q := 32) dX6_reaches_31 rfl ?_ rfl
      refine J.iconst (q := 33) dX6_reaches_32 ?_ rfl
      refine J.callV1i (ci := 6) (q := 36) dX6_reaches_33 mv_X6_no kL_X6_125 rfl (by decide) rfl ⟨by decide, by decide⟩ (Nat.le_of_ble_eq_true rfl) ⟨by decide, by decide⟩ rfl (c_X6_no (by omega)) ?_
      refine J.goto (tgt := 40) dX6_reaches_36 rfl ?_
      refine J.ireturn dX6_reaches_40 rfl ?_
      unfold an_reaches
      (try rw [hi_61]); (try rw [hi_62]); (try rw [hi_63]); (try rw [hi_65]); (try rw [hi_70]); (try rw [hi_74]); (try rw [hi_75]); (try rw [hi_76])
      repeat (first | rw [if_pos (by omega)] | rw [if_neg (by omega)])
      first
      | exact mpTF TF.rf
      | exact mpTFb TF.rf
      | exact mpTF hTF
      | exact mpTFb hTF
      | (exfalso; omega)
    · refine J.aload_n (q := 15) dX6_reaches_14 rfl ?_ rfl
      refine J.iconst (q := 16) dX6_reaches_15 ?_ rfl
      refine J.callV1i (ci := 6) (q := 19) dX6_reaches_16 mv_X6_no kL_X6_125 rfl (by decide) rfl ⟨by decide, by decide⟩ (Nat.le_of_ble_eq_true rfl) ⟨by decide, by decide⟩ rfl (c_X6_no (by omega)) ?_
      refine J.ireturn dX6_reaches_19 rfl ?_
      unfold an_reaches
      (try rw [hi_61]); (try rw [hi_62]); (try rw [hi_63]); (try rw [hi_65]); (try rw [hi_70]); (try rw [hi_74]); (try rw [hi_75]); (try rw [hi_76])
      repeat (first | rw [if_pos (by omega)] | rw [if_neg (by omega)])
      first
      | exact mpTF TF.rf
      | exact mpTFb TF.rf
      | exact mpTF hTF
      | exact mpTFb hTF
      | (exfalso; omega)

set_option maxRecDepth 100000 in
set_option maxHeartbeats 4000000 in
theorem c_X6_comes {l : Launch} {F : Nat × (Int → Int)} {iv : Mm} (hA : AI iv) {k : Int} (hk : -2147483648 ≤ k ∧ k < 2147483648) : Ctr l F 6 0 0 yX6_comes cX6_comes 3 (some FieldType.int) [r_ 61, i_ k] S0 (iv) (MP iv (an_comes (hi iv) k)) := by
  refine Ctr.of false (fun h => by cases h) (by decide) rfl (Nat.le_of_ble_eq_true rfl) ?_
  have hI := hA.mi
  have hmm := hI.many
  have hkp := hA.kp
  have htp := hA.tp
  refine J.aload_n (q := 1) dX6_comes_0 rfl ?_ rfl
  refine J.iload_n (q := 2) dX6_comes_1 rfl ?_ rfl
  refine J.callV1i (ci := 6) (q := 5) dX6_comes_2 mv_X6_isSnail kL_X6_131 rfl (by decide) rfl ⟨by decide, by decide⟩ (Nat.le_of_ble_eq_true rfl) ⟨by decide, by decide⟩ rfl (c_X6_isSnail (by omega) (by omega)) ?_
  refine J.ifb_ne (tgt := 14) (q := 8) dX6_comes_5 rfl rfl (fun c5 => ?_) (fun c5 => ?_)
  · refine J.aload_n (q := 15) dX6_comes_14 rfl ?_ rfl
    refine J.iload_n (q := 16) dX6_comes_15 rfl ?_ rfl
    refine J.bipush (q := 18) dX6_comes_16 (by decide) ?_ rfl
    refine J.callV2 (ci := 6) (q := 21) dX6_comes_18 mv_X6_thereBy kL_X6_164 rfl (by decide) rfl ⟨by decide, by decide⟩ (Nat.le_of_ble_eq_true rfl) ⟨by decide, by decide⟩ rfl (c_X6_thereBy hA (by omega) (by omega)) (fun v9 S9 iv9 hp => ?_)
    obtain ⟨rfl, rfl, hTF, hFO⟩ := hp
    refine J.istore_n (q := 22) dX6_comes_21 (Nat.le_of_ble_eq_true rfl) ?_ rfl
    refine J.iload_n (q := 23) dX6_comes_22 rfl ?_ rfl
    have hfl : gatD (iv 62) k 100 ≤ 101 := (firstD_le _ 101 0).2
    have e100 : (100 : Int).toNat = 100 := rfl
    rw [e100]
    by_cases hr1 : (gatD (iv 62) k 100 : Int) ≤ 100
    · rw [if_pos hr1]
      refine J.if_ge (tgt := 34) (q := 26) dX6_comes_23 rfl rfl (fun c28 => ?_) (fun c28 => absurd c28 (by omega))
      refine J.iload_n (q := 35) dX6_comes_34 rfl ?_ rfl
      refine J.ireturn dX6_comes_35 rfl ?_
      unfold an_comes
      (try rw [hi_61]); (try rw [hi_62]); (try rw [hi_63]); (try rw [hi_65]); (try rw [hi_70]); (try rw [hi_74]); (try rw [hi_75]); (try rw [hi_76])
      repeat (first | rw [if_pos (by omega)] | rw [if_neg (by omega)])
      first
      | exact mpTF TF.rf
      | exact mpTFb TF.rf
      | exact mpTF hTF
      | exact mpTFb hTF
      | (exfalso; omega)
    rw [if_neg hr1]
    refine J.if_ge (tgt := 34) (q := 26) dX6_comes_23 rfl rfl (fun c => absurd c (by omega)) (fun c23 => ?_)
    refine J.aload_n (q := 27) dX6_comes_26 rfl ?_ rfl
    refine J.iconst (q := 28) dX6_comes_27 ?_ rfl
    refine J.callV1i (ci := 6) (q := 31) dX6_comes_28 mv_X6_no kL_X6_125 rfl (by decide) rfl ⟨by decide, by decide⟩ (Nat.le_of_ble_eq_true rfl) ⟨by decide, by decide⟩ rfl (c_X6_no (by omega)) ?_
    refine J.goto (tgt := 35) dX6_comes_31 rfl ?_
    refine J.ireturn dX6_comes_35 rfl ?_
    unfold an_comes
    (try rw [hi_61]); (try rw [hi_62]); (try rw [hi_63]); (try rw [hi_65]); (try rw [hi_70]); (try rw [hi_74]); (try rw [hi_75]); (try rw [hi_76])
    repeat (first | rw [if_pos (by omega)] | rw [if_neg (by omega)])
    first
    | exact mpTF TF.rf
    | exact mpTFb TF.rf
    | exact mpTF hTF
    | exact mpTFb hTF
    | (exfalso; omega)
  · refine J.aload_n (q := 9) dX6_comes_8 rfl ?_ rfl
    refine J.iconst (q := 10) dX6_comes_9 ?_ rfl
    refine J.callV1i (ci := 6) (q := 13) dX6_comes_10 mv_X6_no kL_X6_125 rfl (by decide) rfl ⟨by decide, by decide⟩ (Nat.le_of_ble_eq_true rfl) ⟨by decide, by decide⟩ rfl (c_X6_no (by omega)) ?_
    refine J.ireturn dX6_comes_13 rfl ?_
    unfold an_comes
    (try rw [hi_61]); (try rw [hi_62]); (try rw [hi_63]); (try rw [hi_65]); (try rw [hi_70]); (try rw [hi_74]); (try rw [hi_75]); (try rw [hi_76])
    repeat (first | rw [if_pos (by omega)] | rw [if_neg (by omega)])
    first
    | exact mpTF TF.rf
    | exact mpTFb TF.rf
    | exact mpTF hTF
    | exact mpTFb hTF
    | (exfalso; omega)

theorem AI.dd {a b : Mm} (h : AI a) (t : ∀ q, q ≠ 64 → b q = a q) : AI b := h.tf ⟨fun q hq => t q (by omega), t 65 (by decide), fun q hq => t q (by omega)⟩

set_option maxRecDepth 100000 in
set_option maxHeartbeats 4000000 in
theorem c_X6_ahead {l : Launch} {F : Nat × (Int → Int)} {iv : Mm} (hA : AI iv) {k n : Int} (hk : -2147483648 ≤ k ∧ k < 2147483648) (hn : -2147483648 ≤ n ∧ n < 2147483648) : Ctr l F 6 0 0 yX6_ahead cX6_ahead 4 (some FieldType.int) [r_ 61, i_ k, i_ n] S0 (iv) (MP iv (an_ahead (hi iv) k n)) := by
  refine Ctr.of false (fun h => by cases h) (by decide) rfl (Nat.le_of_ble_eq_true rfl) ?_
  have hI := hA.mi
  have hmm := hI.many
  have hkp := hA.kp
  have htp := hA.tp
  refine J.aload_n (q := 1) dX6_ahead_0 rfl ?_ rfl
  refine J.iload_n (q := 2) dX6_ahead_1 rfl ?_ rfl
  refine J.callV1i (ci := 6) (q := 5) dX6_ahead_2 mv_X6_isSnail kL_X6_131 rfl (by decide) rfl ⟨by decide, by decide⟩ (Nat.le_of_ble_eq_true rfl) ⟨by decide, by decide⟩ rfl (c_X6_isSnail (by omega) (by omega)) ?_
  refine J.ifb_eq (tgt := 18) (q := 8) dX6_ahead_5 rfl rfl (fun c5 => ?_) (fun c5 => ?_)
  · refine J.aload_n (q := 19) dX6_ahead_18 rfl ?_ rfl
    refine J.iconst (q := 20) dX6_ahead_19 ?_ rfl
    refine J.callV1i (ci := 6) (q := 23) dX6_ahead_20 mv_X6_no kL_X6_125 rfl (by decide) rfl ⟨by decide, by decide⟩ (Nat.le_of_ble_eq_true rfl) ⟨by decide, by decide⟩ rfl (c_X6_no (by omega)) ?_
    refine J.ireturn dX6_ahead_23 rfl ?_
    unfold an_ahead
    (try rw [hi_61]); (try rw [hi_62]); (try rw [hi_63]); (try rw [hi_65]); (try rw [hi_70]); (try rw [hi_74]); (try rw [hi_75]); (try rw [hi_76])
    repeat (first | rw [if_pos (by omega)] | rw [if_neg (by omega)])
    first
    | exact mpTF TF.rf
    | exact mpTFb TF.rf
    | exact mpTF hTF
    | exact mpTFb hTF
    | (exfalso; omega)
  · refine J.iload_n (q := 9) dX6_ahead_8 rfl ?_ rfl
    refine J.iconst (q := 10) dX6_ahead_9 ?_ rfl
    refine J.bipush (q := 12) dX6_ahead_10 (by decide) ?_ rfl
    refine J.callS3i (q := 15) dX6_ahead_12 mv_X6_in1 kS_X6_in1 kL_X6_61 ⟨by decide, by decide⟩ (Nat.le_of_ble_eq_true rfl) ⟨by decide, by decide⟩ rfl (c_X6_in1 (by omega) (by omega) (by omega)) ?_
    refine J.ifb_ne (tgt := 24) (q := 18) dX6_ahead_15 rfl rfl (fun c15 => ?_) (fun c15 => ?_)
    · refine J.aload_n (q := 25) dX6_ahead_24 rfl ?_ rfl
      refine J.callV0 (ci := 6) (q := 28) dX6_ahead_25 mv_X6_setsAside kL_X6_155 rfl (by decide) rfl ⟨by decide, by decide⟩ (Nat.le_of_ble_eq_true rfl) ⟨by decide, by decide⟩ rfl (c_X6_setsAside) (fun v9 S9 iv9 hp => ?_)
      obtain ⟨rfl, rfl, a1, a2, a3⟩ := hp
      refine J.aload_n (q := 29) dX6_ahead_28 rfl ?_ rfl
      refine J.iload_n (q := 30) dX6_ahead_29 rfl ?_ rfl
      refine J.callV1 (ci := 6) (q := 33) dX6_ahead_30 mv_X6_days kL_X6_137 rfl (by decide) rfl ⟨by decide, by decide⟩ (Nat.le_of_ble_eq_true rfl) ⟨by decide, by decide⟩ rfl (c_X6_days (hA.dd a1) (by omega)) (fun v8 S8 iv8 hp => ?_)
      obtain ⟨rfl, rfl, g1, g2, g3⟩ := hp
      rw [a1 62 (by decide)] at g2
      refine J.aload_n (q := 34) dX6_ahead_33 rfl ?_ rfl
      refine J.iload_n (q := 35) dX6_ahead_34 rfl ?_ rfl
      refine J.iconst (q := 36) dX6_ahead_35 ?_ rfl
      refine J.callV2i (ci := 6) (q := 39) dX6_ahead_36 mv_X6_get kL_X6_76 rfl (by decide) rfl ⟨by decide, by decide⟩ (Nat.le_of_ble_eq_true rfl) ⟨by decide, by decide⟩ rfl (c_X6_get (by omega)) ?_
      rw [g2]
      refine J.istore_n (q := 40) dX6_ahead_39 (Nat.le_of_ble_eq_true rfl) ?_ rfl
      refine J.aload_n (q := 41) dX6_ahead_40 rfl ?_ rfl
      refine J.callV0 (ci := 6) (q := 44) dX6_ahead_41 mv_X6_laysBack kL_X6_158 rfl (by decide) rfl ⟨by decide, by decide⟩ (Nat.le_of_ble_eq_true rfl) ⟨by decide, by decide⟩ rfl (c_X6_laysBack) (fun v7 S7 iv7 hp => ?_)
      obtain ⟨rfl, rfl, b1, b2, b3⟩ := hp
      have hTF : TF iv iv7 := by
        refine ⟨fun q hq => ?_, ?_, fun q hq => ?_⟩
        · by_cases h62 : q = 62
          · subst h62
            refine laid (fun j h1 h2 => ?_) b3 (fun j hj => by rw [g2]; exact dys_junk hI n.toNat j hj)
            rw [b2 j h1 h2, g1 64 (by decide) (by decide) (by decide) (by decide) (by decide), a2 j h1 h2]
          · rw [b1 q h62, g1 q h62 (by omega) (by omega) (by omega) (by omega), a1 q (by omega)]
        · rw [b1 65 (by decide), g1 65 (by decide) (by decide) (by decide) (by decide) (by decide), a1 65 (by decide)]
        · rw [b1 q (by omega), g1 q (by omega) (by omega) (by omega) (by omega) (by omega), a1 q (by omega)]
      refine J.iload_n (q := 45) dX6_ahead_44 rfl ?_ rfl
      refine J.ireturn dX6_ahead_45 rfl ?_
      unfold an_ahead
      (try rw [hi_61]); (try rw [hi_62]); (try rw [hi_63]); (try rw [hi_65]); (try rw [hi_70]); (try rw [hi_74]); (try rw [hi_75]); (try rw [hi_76])
      repeat (first | rw [if_pos (by omega)] | rw [if_neg (by omega)])
      first
      | exact mpTF TF.rf
      | exact mpTFb TF.rf
      | exact mpTF hTF
      | exact mpTFb hTF
      | (exfalso; omega)
    · refine J.aload_n (q := 19) dX6_ahead_18 rfl ?_ rfl
      refine J.iconst (q := 20) dX6_ahead_19 ?_ rfl
      refine J.callV1i (ci := 6) (q := 23) dX6_ahead_20 mv_X6_no kL_X6_125 rfl (by decide) rfl ⟨by decide, by decide⟩ (Nat.le_of_ble_eq_true rfl) ⟨by decide, by decide⟩ rfl (c_X6_no (by omega)) ?_
      refine J.ireturn dX6_ahead_23 rfl ?_
      unfold an_ahead
      (try rw [hi_61]); (try rw [hi_62]); (try rw [hi_63]); (try rw [hi_65]); (try rw [hi_70]); (try rw [hi_74]); (try rw [hi_75]); (try rw [hi_76])
      repeat (first | rw [if_pos (by omega)] | rw [if_neg (by omega)])
      first
      | exact mpTF TF.rf
      | exact mpTFb TF.rf
      | exact mpTF hTF
      | exact mpTFb hTF
      | (exfalso; omega)

set_option maxRecDepth 100000 in
set_option maxHeartbeats 4000000 in
theorem c_X6_lawAt {l : Launch} {F : Nat × (Int → Int)} {iv : Mm} (hA : AI iv) {c n : Int} (hc : -2147483648 ≤ c ∧ c < 2147483648) (hn : -2147483648 ≤ n ∧ n < 2147483648) : Ctr l F 6 0 0 yX6_lawAt cX6_lawAt 4 (some FieldType.int) [r_ 61, i_ c, i_ n] S0 (iv) (MP iv (an_lawAt (hi iv) c n)) := by
  refine Ctr.of false (fun h => by cases h) (by decide) rfl (Nat.le_of_ble_eq_true rfl) ?_
  have hI := hA.mi
  have hmm := hI.many
  have hkp := hA.kp
  have htp := hA.tp
  refine J.iload_n (q := 1) dX6_lawAt_0 rfl ?_ rfl
  refine J.callS1i (q := 4) dX6_lawAt_1 mv_X6_isCell kS_X6_isCell kL_X6_122 ⟨by decide, by decide⟩ (Nat.le_of_ble_eq_true rfl) ⟨by decide, by decide⟩ rfl (c_X6_isCell (by omega)) ?_
  refine J.ifb_eq (tgt := 17) (q := 7) dX6_lawAt_4 rfl rfl (fun c4 => ?_) (fun c4 => ?_)
  · refine J.aload_n (q := 18) dX6_lawAt_17 rfl ?_ rfl
    refine J.iconst (q := 19) dX6_lawAt_18 ?_ rfl
    refine J.callV1i (ci := 6) (q := 22) dX6_lawAt_19 mv_X6_no kL_X6_125 rfl (by decide) rfl ⟨by decide, by decide⟩ (Nat.le_of_ble_eq_true rfl) ⟨by decide, by decide⟩ rfl (c_X6_no (by omega)) ?_
    refine J.ireturn dX6_lawAt_22 rfl ?_
    unfold an_lawAt
    (try rw [hi_61]); (try rw [hi_62]); (try rw [hi_63]); (try rw [hi_65]); (try rw [hi_70]); (try rw [hi_74]); (try rw [hi_75]); (try rw [hi_76])
    repeat (first | rw [if_pos (by omega)] | rw [if_neg (by omega)])
    first
    | exact mpTF TF.rf
    | exact mpTFb TF.rf
    | exact mpTF hTF
    | exact mpTFb hTF
    | (exfalso; omega)
  · refine J.iload_n (q := 8) dX6_lawAt_7 rfl ?_ rfl
    refine J.iconst (q := 9) dX6_lawAt_8 ?_ rfl
    refine J.bipush (q := 11) dX6_lawAt_9 (by decide) ?_ rfl
    refine J.callS3i (q := 14) dX6_lawAt_11 mv_X6_in1 kS_X6_in1 kL_X6_61 ⟨by decide, by decide⟩ (Nat.le_of_ble_eq_true rfl) ⟨by decide, by decide⟩ rfl (c_X6_in1 (by omega) (by omega) (by omega)) ?_
    refine J.ifb_ne (tgt := 23) (q := 17) dX6_lawAt_14 rfl rfl (fun c14 => ?_) (fun c14 => ?_)
    · refine J.aload_n (q := 24) dX6_lawAt_23 rfl ?_ rfl
      refine J.callV0 (ci := 6) (q := 27) dX6_lawAt_24 mv_X6_setsAside kL_X6_155 rfl (by decide) rfl ⟨by decide, by decide⟩ (Nat.le_of_ble_eq_true rfl) ⟨by decide, by decide⟩ rfl (c_X6_setsAside) (fun v9 S9 iv9 hp => ?_)
      obtain ⟨rfl, rfl, a1, a2, a3⟩ := hp
      refine J.aload_n (q := 28) dX6_lawAt_27 rfl ?_ rfl
      refine J.iload_n (q := 29) dX6_lawAt_28 rfl ?_ rfl
      refine J.callV1 (ci := 6) (q := 32) dX6_lawAt_29 mv_X6_days kL_X6_137 rfl (by decide) rfl ⟨by decide, by decide⟩ (Nat.le_of_ble_eq_true rfl) ⟨by decide, by decide⟩ rfl (c_X6_days (hA.dd a1) (by omega)) (fun v8 S8 iv8 hp => ?_)
      obtain ⟨rfl, rfl, g1, g2, g3⟩ := hp
      rw [a1 62 (by decide)] at g2
      refine J.aload_n (q := 33) dX6_lawAt_32 rfl ?_ rfl
      refine J.getR (ci := 6) (k0 := 0) (c1 := 62) (q := 36) dX6_lawAt_33 kF_X6_9 rfl (by decide) (by decide) rfl (by decide) rfl ?_ rfl
      refine J.sipush (q := 39) dX6_lawAt_36 (by decide) ?_ rfl
      refine J.iload_n (q := 40) dX6_lawAt_39 rfl ?_ rfl
      refine J.iadd (q := 41) dX6_lawAt_40 ?_ rfl
      refine J.iald (n := 307) (q := 42) dX6_lawAt_41 rfl (by omega) ?_ rfl
      rw [g2]
      refine J.istore_n (q := 43) dX6_lawAt_42 (Nat.le_of_ble_eq_true rfl) ?_ rfl
      refine J.aload_n (q := 44) dX6_lawAt_43 rfl ?_ rfl
      refine J.callV0 (ci := 6) (q := 47) dX6_lawAt_44 mv_X6_laysBack kL_X6_158 rfl (by decide) rfl ⟨by decide, by decide⟩ (Nat.le_of_ble_eq_true rfl) ⟨by decide, by decide⟩ rfl (c_X6_laysBack) (fun v7 S7 iv7 hp => ?_)
      obtain ⟨rfl, rfl, b1, b2, b3⟩ := hp
      have hTF : TF iv iv7 := by
        refine ⟨fun q hq => ?_, ?_, fun q hq => ?_⟩
        · by_cases h62 : q = 62
          · subst h62
            refine laid (fun j h1 h2 => ?_) b3 (fun j hj => by rw [g2]; exact dys_junk hI n.toNat j hj)
            rw [b2 j h1 h2, g1 64 (by decide) (by decide) (by decide) (by decide) (by decide), a2 j h1 h2]
          · rw [b1 q h62, g1 q h62 (by omega) (by omega) (by omega) (by omega), a1 q (by omega)]
        · rw [b1 65 (by decide), g1 65 (by decide) (by decide) (by decide) (by decide) (by decide), a1 65 (by decide)]
        · rw [b1 q (by omega), g1 q (by omega) (by omega) (by omega) (by omega) (by omega), a1 q (by omega)]
      refine J.iload_n (q := 48) dX6_lawAt_47 rfl ?_ rfl
      refine J.ireturn dX6_lawAt_48 rfl ?_
      unfold an_lawAt
      (try rw [hi_61]); (try rw [hi_62]); (try rw [hi_63]); (try rw [hi_65]); (try rw [hi_70]); (try rw [hi_74]); (try rw [hi_75]); (try rw [hi_76])
      repeat (first | rw [if_pos (by omega)] | rw [if_neg (by omega)])
      first
      | exact mpTF TF.rf
      | exact mpTFb TF.rf
      | exact mpTF hTF
      | exact mpTFb hTF
      | (exfalso; omega)
    · refine J.aload_n (q := 18) dX6_lawAt_17 rfl ?_ rfl
      refine J.iconst (q := 19) dX6_lawAt_18 ?_ rfl
      refine J.callV1i (ci := 6) (q := 22) dX6_lawAt_19 mv_X6_no kL_X6_125 rfl (by decide) rfl ⟨by decide, by decide⟩ (Nat.le_of_ble_eq_true rfl) ⟨by decide, by decide⟩ rfl (c_X6_no (by omega)) ?_
      refine J.ireturn dX6_lawAt_22 rfl ?_
      unfold an_lawAt
      (try rw [hi_61]); (try rw [hi_62]); (try rw [hi_63]); (try rw [hi_65]); (try rw [hi_70]); (try rw [hi_74]); (try rw [hi_75]); (try rw [hi_76])
      repeat (first | rw [if_pos (by omega)] | rw [if_neg (by omega)])
      first
      | exact mpTF TF.rf
      | exact mpTFb TF.rf
      | exact mpTF hTF
      | exact mpTFb hTF
      | (exfalso; omega)

set_option maxRecDepth 100000 in
set_option maxHeartbeats 4000000 in
theorem c_X6_go {l : Launch} {F : Nat × (Int → Int)} {iv : Mm} (hA : AI iv) {n : Int} (hn : -2147483648 ≤ n ∧ n < 2147483648) : Ctr l F 6 0 0 yX6_go cX6_go 2 (some FieldType.int) [r_ 61, i_ n] S0 (iv) (MP iv (an_go (hi iv) n)) := by
  refine Ctr.of false (fun h => by cases h) (by decide) rfl (Nat.le_of_ble_eq_true rfl) ?_
  have hI := hA.mi
  have hmm := hI.many
  have hkp := hA.kp
  have htp := hA.tp
  refine J.iload_n (q := 1) dX6_go_0 rfl ?_ rfl
  refine J.iconst (q := 2) dX6_go_1 ?_ rfl
  refine J.bipush (q := 4) dX6_go_2 (by decide) ?_ rfl
  refine J.callS3i (q := 7) dX6_go_4 mv_X6_in1 kS_X6_in1 kL_X6_61 ⟨by decide, by decide⟩ (Nat.le_of_ble_eq_true rfl) ⟨by decide, by decide⟩ rfl (c_X6_in1 (by omega) (by omega) (by omega)) ?_
  refine J.ifb_ne (tgt := 16) (q := 10) dX6_go_7 rfl rfl (fun c7 => ?_) (fun c7 => ?_)
  · refine J.aload_n (q := 17) dX6_go_16 rfl ?_ rfl
    refine J.getR (ci := 6) (k0 := 0) (c1 := 62) (q := 20) dX6_go_17 kF_X6_9 rfl (by decide) (by decide) rfl (by decide) rfl ?_ rfl
    refine J.iconst (q := 21) dX6_go_20 ?_ rfl
    refine J.iald (n := 307) (q := 22) dX6_go_21 rfl (by omega) ?_ rfl
    refine J.iload_n (q := 23) dX6_go_22 rfl ?_ rfl
    refine J.iadd (q := 24) dX6_go_23 ?_ rfl
    refine J.ldc (q := 26) (z := 99999) dX6_go_24 kK_X6_83 ?_ rfl
    have hd := hI.day
    refine J.icmp_le (tgt := 35) (q := 29) dX6_go_26 rfl rfl (fun c26 => ?_) (fun c26 => ?_)
    · refine J.aload_n (q := 36) dX6_go_35 rfl ?_ rfl
      refine J.iload_n (q := 37) dX6_go_36 rfl ?_ rfl
      refine J.callV1 (ci := 6) (q := 40) dX6_go_37 mv_X6_days kL_X6_137 rfl (by decide) rfl ⟨by decide, by decide⟩ (Nat.le_of_ble_eq_true rfl) ⟨by decide, by decide⟩ rfl (c_X6_days hA (by omega)) (fun v8 S8 iv8 hp => ?_)
      obtain ⟨rfl, rfl, g1, g2, g3⟩ := hp
      refine J.aload_n (q := 41) dX6_go_40 rfl ?_ rfl
      refine J.getR (ci := 6) (k0 := 0) (c1 := 62) (q := 44) dX6_go_41 kF_X6_9 rfl (by decide) (by decide) rfl (by decide) rfl ?_ rfl
      refine J.iconst (q := 45) dX6_go_44 ?_ rfl
      refine J.iald (n := 307) (q := 46) dX6_go_45 rfl (by omega) ?_ rfl
      rw [g2]
      refine J.ireturn dX6_go_46 rfl ?_
      unfold an_go
      (try rw [hi_61]); (try rw [hi_62]); (try rw [hi_63]); (try rw [hi_65]); (try rw [hi_70]); (try rw [hi_74]); (try rw [hi_75]); (try rw [hi_76])
      repeat (first | rw [if_pos (by omega)] | rw [if_neg (by omega)])
      first
      | exact mpTF TF.rf
      | exact mpTFb TF.rf
      | exact mpTF hTF
      | exact mpTFb hTF
      | exact ⟨rfl, rfl, fun q hq => g1 q (by omega) (by omega) (by omega) (by omega) (by omega), g2, g1 63 (by decide) (by decide) (by decide) (by decide) (by decide), g1 65 (by decide) (by decide) (by decide) (by decide) (by decide), g1 70 (by decide) (by decide) (by decide) (by decide) (by decide), g1 74 (by decide) (by decide) (by decide) (by decide) (by decide), g1 75 (by decide) (by decide) (by decide) (by decide) (by decide), g1 76 (by decide) (by decide) (by decide) (by decide) (by decide), by rw [g1 61 (by decide) (by decide) (by decide) (by decide) (by decide)]; rfl, by rw [g1 61 (by decide) (by decide) (by decide) (by decide) (by decide)]; rfl⟩
      | (exfalso; omega)
    · refine J.aload_n (q := 30) dX6_go_29 rfl ?_ rfl
      refine J.iconst (q := 31) dX6_go_30 ?_ rfl
      refine J.callV1i (ci := 6) (q := 34) dX6_go_31 mv_X6_no kL_X6_125 rfl (by decide) rfl ⟨by decide, by decide⟩ (Nat.le_of_ble_eq_true rfl) ⟨by decide, by decide⟩ rfl (c_X6_no (by omega)) ?_
      refine J.ireturn dX6_go_34 rfl ?_
      unfold an_go
      (try rw [hi_61]); (try rw [hi_62]); (try rw [hi_63]); (try rw [hi_65]); (try rw [hi_70]); (try rw [hi_74]); (try rw [hi_75]); (try rw [hi_76])
      repeat (first | rw [if_pos (by omega)] | rw [if_neg (by omega)])
      first
      | exact mpTF TF.rf
      | exact mpTFb TF.rf
      | exact mpTF hTF
      | exact mpTFb hTF
      | exact ⟨rfl, rfl, fun q hq => g1 q (by omega) (by omega) (by omega) (by omega) (by omega), g2, g1 63 (by decide) (by decide) (by decide) (by decide) (by decide), g1 65 (by decide) (by decide) (by decide) (by decide) (by decide), g1 70 (by decide) (by decide) (by decide) (by decide) (by decide), g1 74 (by decide) (by decide) (by decide) (by decide) (by decide), g1 75 (by decide) (by decide) (by decide) (by decide) (by decide), g1 76 (by decide) (by decide) (by decide) (by decide) (by decide), by rw [g1 61 (by decide) (by decide) (by decide) (by decide) (by decide)]; rfl, by rw [g1 61 (by decide) (by decide) (by decide) (by decide) (by decide)]; rfl⟩
      | (exfalso; omega)
  · refine J.aload_n (q := 11) dX6_go_10 rfl ?_ rfl
    refine J.iconst (q := 12) dX6_go_11 ?_ rfl
    refine J.callV1i (ci := 6) (q := 15) dX6_go_12 mv_X6_no kL_X6_125 rfl (by decide) rfl ⟨by decide, by decide⟩ (Nat.le_of_ble_eq_true rfl) ⟨by decide, by decide⟩ rfl (c_X6_no (by omega)) ?_
    refine J.ireturn dX6_go_15 rfl ?_
    unfold an_go
    (try rw [hi_61]); (try rw [hi_62]); (try rw [hi_63]); (try rw [hi_65]); (try rw [hi_70]); (try rw [hi_74]); (try rw [hi_75]); (try rw [hi_76])
    repeat (first | rw [if_pos (by omega)] | rw [if_neg (by omega)])
    first
    | exact mpTF TF.rf
    | exact mpTFb TF.rf
    | exact mpTF hTF
    | exact mpTFb hTF
    | exact ⟨rfl, rfl, fun q hq => g1 q (by omega) (by omega) (by omega) (by omega) (by omega), g2, g1 63 (by decide) (by decide) (by decide) (by decide) (by decide), g1 65 (by decide) (by decide) (by decide) (by decide) (by decide), g1 70 (by decide) (by decide) (by decide) (by decide) (by decide), g1 74 (by decide) (by decide) (by decide) (by decide) (by decide), g1 75 (by decide) (by decide) (by decide) (by decide) (by decide), g1 76 (by decide) (by decide) (by decide) (by decide) (by decide), by rw [g1 61 (by decide) (by decide) (by decide) (by decide) (by decide)]; rfl, by rw [g1 61 (by decide) (by decide) (by decide) (by decide) (by decide)]; rfl⟩
    | (exfalso; omega)

set_option maxRecDepth 100000 in
set_option maxHeartbeats 4000000 in
theorem c_X6_lag {l : Launch} {F : Nat × (Int → Int)} {iv : Mm} (hA : AI iv) {w o c : Int} (hw : -2147483648 ≤ w ∧ w < 2147483648) (ho : -2147483648 ≤ o ∧ o < 2147483648) (hc : -2147483648 ≤ c ∧ c < 2147483648) : Ctr l F 6 0 0 yX6_lag cX6_lag 6 (some FieldType.int) [r_ 61, i_ w, i_ o, i_ c] S0 (iv) (MP iv (an_lag (hi iv) w o c)) := by
  refine Ctr.of false (fun h => by cases h) (by decide) rfl (Nat.le_of_ble_eq_true rfl) ?_
  have hI := hA.mi
  have hmm := hI.many
  have hkp := hA.kp
  have htp := hA.tp
  refine J.iload_n (q := 1) dX6_lag_0 rfl ?_ rfl
  refine J.callS1i (q := 4) dX6_lag_1 mv_X6_isLaw kS_X6_isLaw kL_X6_134 ⟨by decide, by decide⟩ (Nat.le_of_ble_eq_true rfl) ⟨by decide, by decide⟩ rfl (c_X6_isLaw (by omega)) ?_
  refine J.ifb_eq (tgt := 21) (q := 7) dX6_lag_4 rfl rfl (fun c4 => ?_) (fun c4 => ?_)
  · refine J.aload_n (q := 22) dX6_lag_21 rfl ?_ rfl
    refine J.iconst (q := 23) dX6_lag_22 ?_ rfl
    refine J.callV1i (ci := 6) (q := 26) dX6_lag_23 mv_X6_no kL_X6_125 rfl (by decide) rfl ⟨by decide, by decide⟩ (Nat.le_of_ble_eq_true rfl) ⟨by decide, by decide⟩ rfl (c_X6_no (by omega)) ?_
    refine J.ireturn dX6_lag_26 rfl ?_
    unfold an_lag
    (try rw [hi_61]); (try rw [hi_62]); (try rw [hi_63]); (try rw [hi_65]); (try rw [hi_70]); (try rw [hi_74]); (try rw [hi_75]); (try rw [hi_76])
    repeat (first | rw [if_pos (by omega)] | rw [if_neg (by omega)])
    first
    | exact mpTF TF.rf
    | exact mpTFb TF.rf
    | exact mpTF hTF
    | exact mpTFb hTF
    | (rw [show V1 = rchD (iv 62) w c by omega, show V2 = rchD (iv 62) o c by omega]; exact mpTF hTF)
    | (exfalso; omega)
  · refine J.iload_n (q := 8) dX6_lag_7 rfl ?_ rfl
    refine J.callS1i (q := 11) dX6_lag_8 mv_X6_isLaw kS_X6_isLaw kL_X6_134 ⟨by decide, by decide⟩ (Nat.le_of_ble_eq_true rfl) ⟨by decide, by decide⟩ rfl (c_X6_isLaw (by omega)) ?_
    refine J.ifb_eq (tgt := 21) (q := 14) dX6_lag_11 rfl rfl (fun c11 => ?_) (fun c11 => ?_)
    · refine J.aload_n (q := 22) dX6_lag_21 rfl ?_ rfl
      refine J.iconst (q := 23) dX6_lag_22 ?_ rfl
      refine J.callV1i (ci := 6) (q := 26) dX6_lag_23 mv_X6_no kL_X6_125 rfl (by decide) rfl ⟨by decide, by decide⟩ (Nat.le_of_ble_eq_true rfl) ⟨by decide, by decide⟩ rfl (c_X6_no (by omega)) ?_
      refine J.ireturn dX6_lag_26 rfl ?_
      unfold an_lag
      (try rw [hi_61]); (try rw [hi_62]); (try rw [hi_63]); (try rw [hi_65]); (try rw [hi_70]); (try rw [hi_74]); (try rw [hi_75]); (try rw [hi_76])
      repeat (first | rw [if_pos (by omega)] | rw [if_neg (by omega)])
      first
      | exact mpTF TF.rf
      | exact mpTFb TF.rf
      | exact mpTF hTF
      | exact mpTFb hTF
      | (rw [show V1 = rchD (iv 62) w c by omega, show V2 = rchD (iv 62) o c by omega]; exact mpTF hTF)
      | (exfalso; omega)
    · refine J.iload_n (q := 15) dX6_lag_14 rfl ?_ rfl
      refine J.callS1i (q := 18) dX6_lag_15 mv_X6_isCell kS_X6_isCell kL_X6_122 ⟨by decide, by decide⟩ (Nat.le_of_ble_eq_true rfl) ⟨by decide, by decide⟩ rfl (c_X6_isCell (by omega)) ?_
      refine J.ifb_ne (tgt := 27) (q := 21) dX6_lag_18 rfl rfl (fun c18 => ?_) (fun c18 => ?_)
      · refine J.aload_n (q := 28) dX6_lag_27 rfl ?_ rfl
        refine J.iload_n (q := 29) dX6_lag_28 rfl ?_ rfl
        refine J.iload_n (q := 30) dX6_lag_29 rfl ?_ rfl
        refine J.callV2 (ci := 6) (q := 33) dX6_lag_30 mv_X6_reachedBy kL_X6_161 rfl (by decide) rfl ⟨by decide, by decide⟩ (Nat.le_of_ble_eq_true rfl) ⟨by decide, by decide⟩ rfl (c_X6_reachedBy hA (by omega) (by omega)) (fun v9 S9 iv9 hp => ?_)
        obtain ⟨rfl, rfl, t1⟩ := hp
        refine J.istore (q := 35) dX6_lag_33 (Nat.le_of_ble_eq_true rfl) ?_ rfl
        refine J.aload_n (q := 36) dX6_lag_35 rfl ?_ rfl
        refine J.iload_n (q := 37) dX6_lag_36 rfl ?_ rfl
        refine J.iload_n (q := 38) dX6_lag_37 rfl ?_ rfl
        refine J.callV2 (ci := 6) (q := 41) dX6_lag_38 mv_X6_reachedBy kL_X6_161 rfl (by decide) rfl ⟨by decide, by decide⟩ (Nat.le_of_ble_eq_true rfl) ⟨by decide, by decide⟩ rfl (c_X6_reachedBy (hA.tf t1) (by omega) (by omega)) (fun v8 S8 iv8 hp => ?_)
        obtain ⟨rfl, rfl, t2⟩ := hp
        rw [t1.1 62 (by omega)]
        have hTF := t1.tr t2
        have f1 : rchD (iv 62) w c ≤ 101 := (firstD_le _ 101 0).2
        have f2 : rchD (iv 62) o c ≤ 101 := (firstD_le _ 101 0).2
        obtain ⟨V1, hV1⟩ : ∃ V : Int, V = (if rchD (iv 62) w c ≤ 100 then (rchD (iv 62) w c : Int) else -1) := ⟨_, rfl⟩
        obtain ⟨V2, hV2⟩ : ∃ V : Int, V = (if rchD (iv 62) o c ≤ 100 then (rchD (iv 62) o c : Int) else -1) := ⟨_, rfl⟩
        rw [← hV1, ← hV2]
        have hW1 : (rchD (iv 62) w c ≤ 100 ∧ V1 = rchD (iv 62) w c) ∨ (¬ rchD (iv 62) w c ≤ 100 ∧ V1 = -1) := by
          by_cases h : rchD (iv 62) w c ≤ 100
          · exact Or.inl ⟨h, by rw [hV1, if_pos h]⟩
          · exact Or.inr ⟨h, by rw [hV1, if_neg h]⟩
        have hW2 : (rchD (iv 62) o c ≤ 100 ∧ V2 = rchD (iv 62) o c) ∨ (¬ rchD (iv 62) o c ≤ 100 ∧ V2 = -1) := by
          by_cases h : rchD (iv 62) o c ≤ 100
          · exact Or.inl ⟨h, by rw [hV2, if_pos h]⟩
          · exact Or.inr ⟨h, by rw [hV2, if_neg h]⟩
        clear hV1 hV2
        refine J.istore (q := 43) dX6_lag_41 (Nat.le_of_ble_eq_true rfl) ?_ rfl
        refine J.iload (q := 45) dX6_lag_43 rfl ?_ rfl
        refine J.if_lt (tgt := 53) (q := 48) dX6_lag_45 rfl rfl (fun c45 => ?_) (fun c45 => ?_)
        · refine J.aload_n (q := 54) dX6_lag_53 rfl ?_ rfl
          refine J.iconst (q := 55) dX6_lag_54 ?_ rfl
          refine J.callV1i (ci := 6) (q := 58) dX6_lag_55 mv_X6_no kL_X6_125 rfl (by decide) rfl ⟨by decide, by decide⟩ (Nat.le_of_ble_eq_true rfl) ⟨by decide, by decide⟩ rfl (c_X6_no (by omega)) ?_
          refine J.goto (tgt := 66) dX6_lag_58 rfl ?_
          refine J.ireturn dX6_lag_66 rfl ?_
          unfold an_lag
          (try rw [hi_61]); (try rw [hi_62]); (try rw [hi_63]); (try rw [hi_65]); (try rw [hi_70]); (try rw [hi_74]); (try rw [hi_75]); (try rw [hi_76])
          repeat (first | rw [if_pos (by omega)] | rw [if_neg (by omega)])
          first
          | exact mpTF TF.rf
          | exact mpTFb TF.rf
          | exact mpTF hTF
          | exact mpTFb hTF
          | (rw [show V1 = rchD (iv 62) w c by omega, show V2 = rchD (iv 62) o c by omega]; exact mpTF hTF)
          | (exfalso; omega)
        · refine J.iload (q := 50) dX6_lag_48 rfl ?_ rfl
          refine J.if_ge (tgt := 61) (q := 53) dX6_lag_50 rfl rfl (fun c50 => ?_) (fun c50 => ?_)
          · refine J.iload (q := 63) dX6_lag_61 rfl ?_ rfl
            refine J.iload (q := 65) dX6_lag_63 rfl ?_ rfl
            refine J.isub (q := 66) dX6_lag_65 ?_ rfl
            refine J.ireturn dX6_lag_66 rfl ?_
            unfold an_lag
            (try rw [hi_61]); (try rw [hi_62]); (try rw [hi_63]); (try rw [hi_65]); (try rw [hi_70]); (try rw [hi_74]); (try rw [hi_75]); (try rw [hi_76])
            repeat (first | rw [if_pos (by omega)] | rw [if_neg (by omega)])
            first
            | exact mpTF TF.rf
            | exact mpTFb TF.rf
            | exact mpTF hTF
            | exact mpTFb hTF
            | (rw [show V1 = rchD (iv 62) w c by omega, show V2 = rchD (iv 62) o c by omega]; exact mpTF hTF)
            | (exfalso; omega)
          · refine J.aload_n (q := 54) dX6_lag_53 rfl ?_ rfl
            refine J.iconst (q := 55) dX6_lag_54 ?_ rfl
            refine J.callV1i (ci := 6) (q := 58) dX6_lag_55 mv_X6_no kL_X6_125 rfl (by decide) rfl ⟨by decide, by decide⟩ (Nat.le_of_ble_eq_true rfl) ⟨by decide, by decide⟩ rfl (c_X6_no (by omega)) ?_
            refine J.goto (tgt := 66) dX6_lag_58 rfl ?_
            refine J.ireturn dX6_lag_66 rfl ?_
            unfold an_lag
            (try rw [hi_61]); (try rw [hi_62]); (try rw [hi_63]); (try rw [hi_65]); (try rw [hi_70]); (try rw [hi_74]); (try rw [hi_75]); (try rw [hi_76])
            repeat (first | rw [if_pos (by omega)] | rw [if_neg (by omega)])
            first
            | exact mpTF TF.rf
            | exact mpTFb TF.rf
            | exact mpTF hTF
            | exact mpTFb hTF
            | (rw [show V1 = rchD (iv 62) w c by omega, show V2 = rchD (iv 62) o c by omega]; exact mpTF hTF)
            | (exfalso; omega)
      · refine J.aload_n (q := 22) dX6_lag_21 rfl ?_ rfl
        refine J.iconst (q := 23) dX6_lag_22 ?_ rfl
        refine J.callV1i (ci := 6) (q := 26) dX6_lag_23 mv_X6_no kL_X6_125 rfl (by decide) rfl ⟨by decide, by decide⟩ (Nat.le_of_ble_eq_true rfl) ⟨by decide, by decide⟩ rfl (c_X6_no (by omega)) ?_
        refine J.ireturn dX6_lag_26 rfl ?_
        unfold an_lag
        (try rw [hi_61]); (try rw [hi_62]); (try rw [hi_63]); (try rw [hi_65]); (try rw [hi_70]); (try rw [hi_74]); (try rw [hi_75]); (try rw [hi_76])
        repeat (first | rw [if_pos (by omega)] | rw [if_neg (by omega)])
        first
        | exact mpTF TF.rf
        | exact mpTFb TF.rf
        | exact mpTF hTF
        | exact mpTFb hTF
        | (rw [show V1 = rchD (iv 62) w c by omega, show V2 = rchD (iv 62) o c by omega]; exact mpTF hTF)
        | (exfalso; omega)

