/-! the reference: releases, the farthest, trails (printed by wip/whole/m_model10.py) -/
set_option maxRecDepth 100000 in
set_option maxHeartbeats 4000000 in
theorem priceOf_loop {l : Launch} {F : Nat × (Int → Int)} {iv : Mm} {D : Int} (hD : D ≤ 200000) (hI : MI D (iv 62)) {z : Int} (hz : 0 ≤ z ∧ z ≤ 255) : ∀ (n : Nat) (c : Nat), (iv 62 2 - (c : Int) < n) → ((c : Int) ≤ iv 62 2) → J l (yX6_priceOf).cls cX6_priceOf 4 (some FieldType.int) 1 0 0 false F (Ret (some (i_ (prcS (iv 62) z))) S0 iv) 0 0 4 [some (r_ 61), some (i_ z), some (i_ (sumZ (fun k => if k < iv 62 2 ∧ bitB z k = true then iv 62 (257 + 5 * k + 4) else 0) c)), some (i_ (c : Int))] [] S0 (iv) := by
  intro n
  induction n with
  | zero =>
    intro c hn hc
    omega
  | succ n ih =>
    intro c hn hc
    have hmm := hI.many
    refine J.iload_n (q := 5) dX6_priceOf_4 rfl ?_ rfl
    refine J.aload_n (q := 6) dX6_priceOf_5 rfl ?_ rfl
    refine J.getR (ci := 6) (k0 := 0) (c1 := 62) (q := 9) dX6_priceOf_6 kF_X6_9 rfl (by decide) (by decide) rfl (by decide) rfl ?_ rfl
    refine J.iconst (q := 10) dX6_priceOf_9 ?_ rfl
    refine J.iald (n := 307) (q := 11) dX6_priceOf_10 rfl (by omega) ?_ rfl
    refine J.icmp_ge (tgt := 41) (q := 14) (hv := by omega) dX6_priceOf_11 rfl rfl (fun c11 => ?_) (fun c11 => ?_)
    · have hcm : (iv 62 2).toNat = c := by omega
      refine J.iload_n (q := 42) dX6_priceOf_41 rfl ?_ rfl
      refine J.ireturn dX6_priceOf_42 rfl ?_
      refine ⟨congrArg (fun z => some (i_ z)) ?_, rfl, rfl⟩
      unfold prcS
      exact (sumZ_stop (m := c) 8 (by omega) (fun k h1 h2 => if_neg (fun q => by omega))).symm
    · refine J.iload_n (q := 15) dX6_priceOf_14 rfl ?_ rfl
      refine J.iload_n (q := 16) dX6_priceOf_15 rfl ?_ rfl
      refine J.iload_n (q := 17) dX6_priceOf_16 rfl ?_ rfl
      refine J.callS2i (q := 20) dX6_priceOf_17 mv_X6_isIn kS_X6_isIn kL_X6_104 ⟨by decide, by decide⟩ (Nat.le_of_ble_eq_true rfl) ⟨by decide, by decide⟩ rfl (c_X6_isIn (by omega) (by omega)) ?_
      refine J.ifb_eq (tgt := 32) (q := 23) dX6_priceOf_20 rfl rfl (fun c20 => ?_) (fun c20 => ?_)
      · have he : (fun k => if k < iv 62 2 ∧ bitB z k = true then iv 62 (257 + 5 * k + 4) else 0) (c : Int) = 0 := if_neg (fun q => c20 (of_decide_eq_true q.2))
        refine J.iconst (q := 33) dX6_priceOf_32 ?_ rfl
        refine J.iadd (q := 34) dX6_priceOf_33 ?_ rfl
        refine J.istore_n (q := 35) dX6_priceOf_34 (Nat.le_of_ble_eq_true rfl) ?_ rfl
        refine J.iinc (q := 38) dX6_priceOf_35 rfl ?_ rfl
        refine J.goto (tgt := 4) dX6_priceOf_38 rfl ?_
        have e2 : sumZ (fun k => if k < iv 62 2 ∧ bitB z k = true then iv 62 (257 + 5 * k + 4) else 0) (c + 1) = sumZ (fun k => if k < iv 62 2 ∧ bitB z k = true then iv 62 (257 + 5 * k + 4) else 0) c + (fun k => if k < iv 62 2 ∧ bitB z k = true then iv 62 (257 + 5 * k + 4) else 0) (c : Int) := rfl
        rw [he] at e2
        refine J.eql (by rw [← e2]; rfl) (ih (c + 1) (by omega) (by omega))
      · have he : (fun k => if k < iv 62 2 ∧ bitB z k = true then iv 62 (257 + 5 * k + 4) else 0) (c : Int) = iv 62 (257 + 5 * c + 4) := if_pos ⟨by omega, decide_eq_true c20⟩
        refine J.aload_n (q := 24) dX6_priceOf_23 rfl ?_ rfl
        refine J.iload_n (q := 25) dX6_priceOf_24 rfl ?_ rfl
        refine J.iconst (q := 26) dX6_priceOf_25 ?_ rfl
        refine J.callV2i (ci := 6) (q := 29) dX6_priceOf_26 mv_X6_get kL_X6_76 rfl (by decide) rfl ⟨by decide, by decide⟩ (Nat.le_of_ble_eq_true rfl) ⟨by decide, by decide⟩ rfl (c_X6_get (by omega)) ?_
        refine J.goto (tgt := 33) dX6_priceOf_29 rfl ?_
        refine J.iadd (q := 34) dX6_priceOf_33 ?_ rfl
        refine J.istore_n (q := 35) dX6_priceOf_34 (Nat.le_of_ble_eq_true rfl) ?_ rfl
        refine J.iinc (q := 38) dX6_priceOf_35 rfl ?_ rfl
        refine J.goto (tgt := 4) dX6_priceOf_38 rfl ?_
        have e2 : sumZ (fun k => if k < iv 62 2 ∧ bitB z k = true then iv 62 (257 + 5 * k + 4) else 0) (c + 1) = sumZ (fun k => if k < iv 62 2 ∧ bitB z k = true then iv 62 (257 + 5 * k + 4) else 0) c + (fun k => if k < iv 62 2 ∧ bitB z k = true then iv 62 (257 + 5 * k + 4) else 0) (c : Int) := rfl
        rw [he] at e2
        refine J.eql (by rw [← e2]; rfl) (ih (c + 1) (by omega) (by omega))

set_option maxRecDepth 100000 in
set_option maxHeartbeats 4000000 in
theorem c_X6_priceOf {l : Launch} {F : Nat × (Int → Int)} {iv : Mm} {D : Int} (hD : D ≤ 200000) (hI : MI D (iv 62)) {z : Int} (hz : 0 ≤ z ∧ z ≤ 255) : Ctr l F 1 0 0 yX6_priceOf cX6_priceOf 4 (some FieldType.int) [r_ 61, i_ z] S0 (iv) (Ret (some (i_ (prcS (iv 62) z))) S0 iv) := by
  refine Ctr.of false (fun h => by cases h) (by decide) rfl (Nat.le_of_ble_eq_true rfl) ?_
  have hmm := hI.many
  refine J.iconst (q := 1) dX6_priceOf_0 ?_ rfl
  refine J.istore_n (q := 2) dX6_priceOf_1 (Nat.le_of_ble_eq_true rfl) ?_ rfl
  refine J.iconst (q := 3) dX6_priceOf_2 ?_ rfl
  refine J.istore_n (q := 4) dX6_priceOf_3 (Nat.le_of_ble_eq_true rfl) ?_ rfl
  exact priceOf_loop hD hI hz 9 0 (by omega) (by omega)

set_option maxRecDepth 100000 in
set_option maxHeartbeats 4000000 in
theorem c_X6_isRelease {l : Launch} {F : Nat × (Int → Int)} {iv : Mm} {w c n : Int} (hw : -2147483648 ≤ w ∧ w < 2147483648) (hc : -2147483648 ≤ c ∧ c < 2147483648) (hn : -2147483648 ≤ n ∧ n < 2147483648) : Ctr l F 2 0 0 yX6_isRelease cX6_isRelease 3 (some FieldType.boolean) [i_ w, i_ c, i_ n] S0 (iv) (Ret (some (i_ (b2 ((0 ≤ w ∧ w ≤ 7) ∧ (0 ≤ c ∧ c ≤ 80) ∧ (0 ≤ n ∧ n ≤ 40))))) S0 iv) := by
  refine Ctr.of false (fun h => by cases h) (by decide) rfl (Nat.le_of_ble_eq_true rfl) ?_
  refine J.iload_n (q := 1) dX6_isRelease_0 rfl ?_ rfl
  refine J.callS1i (q := 4) dX6_isRelease_1 mv_X6_isLaw kS_X6_isLaw kL_X6_134 ⟨by decide, by decide⟩ (Nat.le_of_ble_eq_true rfl) ⟨by decide, by decide⟩ rfl (c_X6_isLaw (by omega)) ?_
  refine J.ifb_eq (tgt := 28) (q := 7) dX6_isRelease_4 rfl rfl (fun c4 => ?_) (fun c4 => ?_)
  · refine J.iconst (q := 29) dX6_isRelease_28 ?_ rfl
    refine J.zreturn dX6_isRelease_29 rfl (by omega) ?_
    first
    | exact ⟨rfl, rfl, rfl⟩
    | (refine ⟨congrArg (fun z => some (i_ z)) ?_, rfl, rfl⟩; first | rfl | omega | (simp only [b2]; split <;> omega) | (simp only [b2, *]; split <;> omega))
  · refine J.iload_n (q := 8) dX6_isRelease_7 rfl ?_ rfl
    refine J.callS1i (q := 11) dX6_isRelease_8 mv_X6_isCell kS_X6_isCell kL_X6_122 ⟨by decide, by decide⟩ (Nat.le_of_ble_eq_true rfl) ⟨by decide, by decide⟩ rfl (c_X6_isCell (by omega)) ?_
    refine J.ifb_eq (tgt := 28) (q := 14) dX6_isRelease_11 rfl rfl (fun c11 => ?_) (fun c11 => ?_)
    · refine J.iconst (q := 29) dX6_isRelease_28 ?_ rfl
      refine J.zreturn dX6_isRelease_29 rfl (by omega) ?_
      first
      | exact ⟨rfl, rfl, rfl⟩
      | (refine ⟨congrArg (fun z => some (i_ z)) ?_, rfl, rfl⟩; first | rfl | omega | (simp only [b2]; split <;> omega) | (simp only [b2, *]; split <;> omega))
    · refine J.iload_n (q := 15) dX6_isRelease_14 rfl ?_ rfl
      refine J.iconst (q := 16) dX6_isRelease_15 ?_ rfl
      refine J.bipush (q := 18) dX6_isRelease_16 (by decide) ?_ rfl
      refine J.callS3i (q := 21) dX6_isRelease_18 mv_X6_in1 kS_X6_in1 kL_X6_61 ⟨by decide, by decide⟩ (Nat.le_of_ble_eq_true rfl) ⟨by decide, by decide⟩ rfl (c_X6_in1 (by omega) (by omega) (by omega)) ?_
      refine J.ifb_eq (tgt := 28) (q := 24) dX6_isRelease_21 rfl rfl (fun c21 => ?_) (fun c21 => ?_)
      · refine J.iconst (q := 29) dX6_isRelease_28 ?_ rfl
        refine J.zreturn dX6_isRelease_29 rfl (by omega) ?_
        first
        | exact ⟨rfl, rfl, rfl⟩
        | (refine ⟨congrArg (fun z => some (i_ z)) ?_, rfl, rfl⟩; first | rfl | omega | (simp only [b2]; split <;> omega) | (simp only [b2, *]; split <;> omega))
      · refine J.iconst (q := 25) dX6_isRelease_24 ?_ rfl
        refine J.goto (tgt := 29) dX6_isRelease_25 rfl ?_
        refine J.zreturn dX6_isRelease_29 rfl (by omega) ?_
        first
        | exact ⟨rfl, rfl, rfl⟩
        | (refine ⟨congrArg (fun z => some (i_ z)) ?_, rfl, rfl⟩; first | rfl | omega | (simp only [b2]; split <;> omega) | (simp only [b2, *]; split <;> omega))

/-- thinking under way: what was laid aside and the ways are there -/
def LBk (iv iv1 : Mm) : Prop := TF iv iv1 ∧ (∀ j, 0 ≤ j → j < 307 → iv1 64 j = iv 62 j) ∧ FarOK iv1 (fdst (iv 62)) (iv 62 2)
set_option maxRecDepth 100000 in
set_option maxHeartbeats 4000000 in
theorem bestRelease_days {l : Launch} {F : Nat × (Int → Int)} {iv iv1 : Mm} (hA : AI iv) (hL : LBk iv iv1) {w c x : Int} (hw : 0 ≤ w ∧ w ≤ 7) (hc : 0 ≤ c ∧ c ≤ 80) (hx : 0 ≤ x ∧ x ≤ 40) {z : Nat} (hz : z < 256) (K : J l (yX6_bestRelease).cls cX6_bestRelease 7 (some FieldType.int) 4 0 0 false F (fun v S iv2 => v = some (i_ (relS (iv 62) w c x.toNat)) ∧ S = S0 ∧ TF iv iv2) 0 0 64 [some (r_ 61), some (i_ w), some (i_ c), some (i_ x), some (i_ (bestS (prcS (iv 62)) (fun z => decide ((dysM (fdst (iv 62)) (bitB z) x.toNat (P0 (iv 62))).1 (176 + c) = w)) z)), some (i_ (z : Int)), some (i_ (x.toNat : Int))] [] S0 (mk2 iv1 (dysM (fdst (iv 62)) (bitB (z : Int)) x.toNat (iv 62, iv1 69)))) : ∀ (n : Nat) (i : Nat), (x - i < n) → ((i : Int) ≤ x) → J l (yX6_bestRelease).cls cX6_bestRelease 7 (some FieldType.int) 4 0 0 false F (fun v S iv2 => v = some (i_ (relS (iv 62) w c x.toNat)) ∧ S = S0 ∧ TF iv iv2) 0 0 46 [some (r_ 61), some (i_ w), some (i_ c), some (i_ x), some (i_ (bestS (prcS (iv 62)) (fun z => decide ((dysM (fdst (iv 62)) (bitB z) x.toNat (P0 (iv 62))).1 (176 + c) = w)) z)), some (i_ (z : Int)), some (i_ (i : Int))] [] S0 (mk2 iv1 (dysM (fdst (iv 62)) (bitB (z : Int)) i (iv 62, iv1 69))) := by
  intro n
  induction n with
  | zero =>
    intro i hn hi
    omega
  | succ n ih =>
    intro i hn hi
    have hI := hA.mi
    have hmm := hI.many
    obtain ⟨hX, hX0, hXk⟩ := dysM_MI (fr := fdst (iv 62)) (th := bitB (z : Int)) (X := (iv 62, iv1 69)) hI i
    have hm2 : (dysM (fdst (iv 62)) (bitB (z : Int)) i (iv 62, iv1 69)).1 2 = iv 62 2 := hXk 2 (kept_lo (by omega))
    have hfar := hL.2.2
    refine J.iload (q := 48) dX6_bestRelease_46 rfl ?_ rfl
    refine J.iload_n (q := 49) dX6_bestRelease_48 rfl ?_ rfl
    refine J.icmp_ge (tgt := 64) (q := 52) dX6_bestRelease_49 rfl rfl (fun c49 => ?_) (fun c49 => ?_)
    · have hix : x.toNat = i := by omega
      subst hix
      exact K
    · refine J.aload_n (q := 53) dX6_bestRelease_52 rfl ?_ rfl
      refine J.iload (q := 55) dX6_bestRelease_53 rfl ?_ rfl
      refine J.callV1v (ci := 6) (q := 58) dX6_bestRelease_55 mv_X6_day kL_X6_119 rfl (by decide) rfl ⟨by decide, by decide⟩ (Nat.le_of_ble_eq_true rfl) ⟨by decide, by decide⟩ rfl (c_X6_day (th := bitB (z : Int)) (by omega) hX hm2 hfar (by omega) (fun k a b => (decide_eq_true_iff (p := (z : Int) / 2 ^ k.toNat % 2 = 1)).symm)) ?_
      refine J.iinc (q := 61) dX6_bestRelease_58 rfl ?_ rfl
      refine J.goto (tgt := 46) dX6_bestRelease_61 rfl ?_
      exact ih (i + 1) (by omega) (by omega)

set_option maxRecDepth 100000 in
set_option maxHeartbeats 4000000 in
theorem bestRelease_loop {l : Launch} {F : Nat × (Int → Int)} {iv : Mm} (hA : AI iv) {w c x : Int} (hw : 0 ≤ w ∧ w ≤ 7) (hc : 0 ≤ c ∧ c ≤ 80) (hx : 0 ≤ x ∧ x ≤ 40) : ∀ (n : Nat) (z : Nat) (iv1 : Mm) (y6 : Option VT), (256 - (z : Int) < n) → (z ≤ 2 ^ (iv 62 2).toNat) → (LBk iv iv1) → J l (yX6_bestRelease).cls cX6_bestRelease 7 (some FieldType.int) 4 0 0 false F (fun v S iv2 => v = some (i_ (relS (iv 62) w c x.toNat)) ∧ S = S0 ∧ TF iv iv2) 0 0 14 [some (r_ 61), some (i_ w), some (i_ c), some (i_ x), some (i_ (bestS (prcS (iv 62)) (fun z => decide ((dysM (fdst (iv 62)) (bitB z) x.toNat (P0 (iv 62))).1 (176 + c) = w)) z)), some (i_ (z : Int)), y6] [] S0 (iv1) := by
  intro n
  induction n with
  | zero =>
    intro z iv1 y6 hn hz hL
    have h1 := pow_cast _ hA.mi.many
    have h2 := allR hA.mi.many
    omega
  | succ n ih =>
    intro z iv1 y6 hn hz hL
    have hI := hA.mi
    have hmm := hI.many
    have hpc := pow_cast _ hmm
    have har := allR hmm
    have e62 := hL.1.1 62 (by omega)
    have hI1 : MI 99999 (iv1 62) := by rw [e62]; exact hI
    obtain ⟨b, hb⟩ : ∃ b : Int, b = bestS (prcS (iv 62)) (fun z => decide ((dysM (fdst (iv 62)) (bitB z) x.toNat (P0 (iv 62))).1 (176 + c) = w)) z := ⟨_, rfl⟩
    have hbl := bestS_lt (prcS (iv 62)) (fun z => decide ((dysM (fdst (iv 62)) (bitB z) x.toNat (P0 (iv 62))).1 (176 + c) = w)) z
    have hp1 := prcS_rng (z := (z : Int)) hI
    have hp2 := prcS_rng (z := b) hI
    have hb1 : bestS (prcS (iv 62)) (fun z => decide ((dysM (fdst (iv 62)) (bitB z) x.toNat (P0 (iv 62))).1 (176 + c) = w)) (z + 1) = if (bestS (prcS (iv 62)) (fun z => decide ((dysM (fdst (iv 62)) (bitB z) x.toNat (P0 (iv 62))).1 (176 + c) = w)) z < 0 ∨ prcS (iv 62) z < prcS (iv 62) (bestS (prcS (iv 62)) (fun z => decide ((dysM (fdst (iv 62)) (bitB z) x.toNat (P0 (iv 62))).1 (176 + c) = w)) z)) ∧ (fun z => decide ((dysM (fdst (iv 62)) (bitB z) x.toNat (P0 (iv 62))).1 (176 + c) = w)) z = true then (z : Int) else bestS (prcS (iv 62)) (fun z => decide ((dysM (fdst (iv 62)) (bitB z) x.toNat (P0 (iv 62))).1 (176 + c) = w)) z := rfl
    rw [← hb] at hbl hb1 ⊢
    refine J.iload (q := 16) dX6_bestRelease_14 rfl ?_ rfl
    refine J.aload_n (q := 17) dX6_bestRelease_16 rfl ?_ rfl
    refine J.callV0i (ci := 6) (q := 20) dX6_bestRelease_17 mv_X6_allSnails kL_X6_115 rfl (by decide) rfl ⟨by decide, by decide⟩ (Nat.le_of_ble_eq_true rfl) ⟨by decide, by decide⟩ rfl (c_X6_allSnails (by rw [e62]; omega)) ?_
    rw [e62]
    refine J.icmp_gt (tgt := 97) (q := 23) (hv := by omega) dX6_bestRelease_20 rfl rfl (fun c20 => ?_) (fun c20 => ?_)
    · refine J.iload (q := 99) dX6_bestRelease_97 rfl ?_ rfl
      refine J.ireturn dX6_bestRelease_99 rfl ?_
      have hz9 : z = 2 ^ (iv 62 2).toNat := by omega
      subst hz9
      rw [hb]
      exact ⟨rfl, rfl, hL.1⟩
    · refine J.iload (q := 25) dX6_bestRelease_23 rfl ?_ rfl
      refine J.if_lt (tgt := 43) (q := 28) dX6_bestRelease_25 rfl rfl (fun c25 => ?_) (fun c25 => ?_)
      · refine J.iconst (q := 44) dX6_bestRelease_43 ?_ rfl
        refine J.istore (q := 46) dX6_bestRelease_44 (Nat.le_of_ble_eq_true rfl) ?_ rfl
        have hL62 : iv1 = mk2 iv1 (dysM (fdst (iv 62)) (bitB (z : Int)) 0 (iv 62, iv1 69)) := by show iv1 = mk2 iv1 (iv 62, iv1 69); rw [← e62, mk2_self]
        rw [hb]
        refine J.eqi hL62 (bestRelease_days hA hL hw hc hx (by omega) ?_ 41 0 (by omega) (by omega))
        rw [← hb]
        refine J.aload_n (q := 65) dX6_bestRelease_64 rfl ?_ rfl
        refine J.getR (ci := 6) (k0 := 0) (c1 := 62) (q := 68) dX6_bestRelease_65 kF_X6_9 rfl (by decide) (by decide) rfl (by decide) rfl ?_ rfl
        refine J.sipush (q := 71) dX6_bestRelease_68 (by decide) ?_ rfl
        refine J.iload_n (q := 72) dX6_bestRelease_71 rfl ?_ rfl
        refine J.iadd (q := 73) dX6_bestRelease_72 ?_ rfl
        refine J.iald (n := 307) (q := 74) dX6_bestRelease_73 rfl (by omega) ?_ rfl
        try simp only [mk2_62]
        refine J.iload_n (q := 75) dX6_bestRelease_74 rfl ?_ rfl
        obtain ⟨hXn, -, -⟩ := dysM_MI (fr := fdst (iv 62)) (th := bitB (z : Int)) (X := (iv 62, iv1 69)) hI x.toNat
        have hcl := hXn.cel c hc.1 hc.2
        have e1 : (dysM (fdst (iv 62)) (bitB (z : Int)) x.toNat (P0 (iv 62))).1 = (dysM (fdst (iv 62)) (bitB (z : Int)) x.toNat (iv 62, iv1 69)).1 := dysM_fst (fdst (iv 62)) (bitB (z : Int)) (P0 (iv 62)) (iv 62, iv1 69) rfl x.toNat
        refine J.icmp_ne (tgt := 83) (q := 78) (hv := by omega) dX6_bestRelease_75 rfl rfl (fun c75 => ?_) (fun c75 => ?_)
        · have hns : ¬ ((b < 0 ∨ prcS (iv 62) z < prcS (iv 62) b) ∧ (fun z => decide ((dysM (fdst (iv 62)) (bitB z) x.toNat (P0 (iv 62))).1 (176 + c) = w)) z = true) := fun q => c75 (by rw [← e1]; exact of_decide_eq_true q.2)
          refine J.iload (q := 85) dX6_bestRelease_83 rfl ?_ rfl
          refine J.istore (q := 87) dX6_bestRelease_85 (Nat.le_of_ble_eq_true rfl) ?_ rfl
          refine J.aload_n (q := 88) dX6_bestRelease_87 rfl ?_ rfl
          refine J.callV0 (ci := 6) (q := 91) dX6_bestRelease_88 mv_X6_laysBack kL_X6_158 rfl (by decide) rfl ⟨by decide, by decide⟩ (Nat.le_of_ble_eq_true rfl) ⟨by decide, by decide⟩ rfl (c_X6_laysBack) (fun v7 S7 iv7 hp => ?_)
          obtain ⟨rfl, rfl, b1, b2, b3⟩ := hp
          have hL7 : LBk iv iv7 := by
            refine ⟨⟨fun q hq => ?_, ?_, fun q hq => ?_⟩, fun j h1 h2 => ?_, fun i a h1 h2 h3 h4 => ?_⟩
            · by_cases h62 : q = 62
              · subst h62
                refine laid (fun j h1 h2 => ?_) b3 (dys_junk hI _)
                rw [b2 j h1 h2, mk2_n _ _ (by decide) (by decide), hL.2.1 j h1 h2]
              · rw [b1 q h62, mk2_n _ _ h62 (by omega), hL.1.1 q hq]
            · rw [b1 65 (by decide), mk2_n _ _ (by decide) (by decide), hL.1.2.1]
            · rw [b1 q (by omega), mk2_n _ _ (by omega) (by omega), hL.1.2.2 q hq]
            · rw [b1 64 (by decide), mk2_n _ _ (by decide) (by decide), hL.2.1 j h1 h2]
            · rw [b1 66 (by decide), mk2_n _ _ (by decide) (by decide)]; exact hL.2.2 i a h1 h2 h3 h4
          refine J.iinc (q := 94) dX6_bestRelease_91 rfl ?_ rfl
          refine J.goto (tgt := 14) dX6_bestRelease_94 rfl ?_
          first
          | (rw [if_neg hns] at hb1
             refine J.eql ?_ (ih (z + 1) _ y6 (by omega) (by omega) hL)
             rw [hb1]
             rfl)
          | (rw [if_neg hns] at hb1
             refine J.eql ?_ (ih (z + 1) _ (some (i_ (x.toNat : Int))) (by omega) (by omega) hL7)
             rw [hb1]
             rfl)
          | (rw [if_pos hps] at hb1
             refine J.eql ?_ (ih (z + 1) _ (some (i_ (x.toNat : Int))) (by omega) (by omega) hL7)
             rw [hb1]
             rfl)
        · have hps : (b < 0 ∨ prcS (iv 62) z < prcS (iv 62) b) ∧ (fun z => decide ((dysM (fdst (iv 62)) (bitB z) x.toNat (P0 (iv 62))).1 (176 + c) = w)) z = true := ⟨by omega, decide_eq_true (by rw [e1]; exact c75)⟩
          refine J.iload (q := 80) dX6_bestRelease_78 rfl ?_ rfl
          refine J.goto (tgt := 85) dX6_bestRelease_80 rfl ?_
          refine J.istore (q := 87) dX6_bestRelease_85 (Nat.le_of_ble_eq_true rfl) ?_ rfl
          refine J.aload_n (q := 88) dX6_bestRelease_87 rfl ?_ rfl
          refine J.callV0 (ci := 6) (q := 91) dX6_bestRelease_88 mv_X6_laysBack kL_X6_158 rfl (by decide) rfl ⟨by decide, by decide⟩ (Nat.le_of_ble_eq_true rfl) ⟨by decide, by decide⟩ rfl (c_X6_laysBack) (fun v7 S7 iv7 hp => ?_)
          obtain ⟨rfl, rfl, b1, b2, b3⟩ := hp
          have hL7 : LBk iv iv7 := by
            refine ⟨⟨fun q hq => ?_, ?_, fun q hq => ?_⟩, fun j h1 h2 => ?_, fun i a h1 h2 h3 h4 => ?_⟩
            · by_cases h62 : q = 62
              · subst h62
                refine laid (fun j h1 h2 => ?_) b3 (dys_junk hI _)
                rw [b2 j h1 h2, mk2_n _ _ (by decide) (by decide), hL.2.1 j h1 h2]
              · rw [b1 q h62, mk2_n _ _ h62 (by omega), hL.1.1 q hq]
            · rw [b1 65 (by decide), mk2_n _ _ (by decide) (by decide), hL.1.2.1]
            · rw [b1 q (by omega), mk2_n _ _ (by omega) (by omega), hL.1.2.2 q hq]
            · rw [b1 64 (by decide), mk2_n _ _ (by decide) (by decide), hL.2.1 j h1 h2]
            · rw [b1 66 (by decide), mk2_n _ _ (by decide) (by decide)]; exact hL.2.2 i a h1 h2 h3 h4
          refine J.iinc (q := 94) dX6_bestRelease_91 rfl ?_ rfl
          refine J.goto (tgt := 14) dX6_bestRelease_94 rfl ?_
          first
          | (rw [if_neg hns] at hb1
             refine J.eql ?_ (ih (z + 1) _ y6 (by omega) (by omega) hL)
             rw [hb1]
             rfl)
          | (rw [if_neg hns] at hb1
             refine J.eql ?_ (ih (z + 1) _ (some (i_ (x.toNat : Int))) (by omega) (by omega) hL7)
             rw [hb1]
             rfl)
          | (rw [if_pos hps] at hb1
             refine J.eql ?_ (ih (z + 1) _ (some (i_ (x.toNat : Int))) (by omega) (by omega) hL7)
             rw [hb1]
             rfl)
      · refine J.aload_n (q := 29) dX6_bestRelease_28 rfl ?_ rfl
        refine J.iload (q := 31) dX6_bestRelease_29 rfl ?_ rfl
        refine J.callV1i (ci := 6) (q := 34) dX6_bestRelease_31 mv_X6_priceOf kL_X6_167 rfl (by decide) rfl ⟨by decide, by decide⟩ (Nat.le_of_ble_eq_true rfl) ⟨by decide, by decide⟩ rfl (c_X6_priceOf (show (99999 : Int) ≤ 200000 by omega) hI1 (by omega)) ?_
        rw [e62]
        refine J.aload_n (q := 35) dX6_bestRelease_34 rfl ?_ rfl
        refine J.iload (q := 37) dX6_bestRelease_35 rfl ?_ rfl
        refine J.callV1i (ci := 6) (q := 40) dX6_bestRelease_37 mv_X6_priceOf kL_X6_167 rfl (by decide) rfl ⟨by decide, by decide⟩ (Nat.le_of_ble_eq_true rfl) ⟨by decide, by decide⟩ rfl (c_X6_priceOf (show (99999 : Int) ≤ 200000 by omega) hI1 (by omega)) ?_
        rw [e62]
        refine J.icmp_ge (tgt := 91) (q := 43) dX6_bestRelease_40 rfl rfl (fun c40 => ?_) (fun c40 => ?_)
        · have hns : ¬ ((b < 0 ∨ prcS (iv 62) z < prcS (iv 62) b) ∧ (fun z => decide ((dysM (fdst (iv 62)) (bitB z) x.toNat (P0 (iv 62))).1 (176 + c) = w)) z = true) := fun q => by omega
          refine J.iinc (q := 94) dX6_bestRelease_91 rfl ?_ rfl
          refine J.goto (tgt := 14) dX6_bestRelease_94 rfl ?_
          first
          | (rw [if_neg hns] at hb1
             refine J.eql ?_ (ih (z + 1) _ y6 (by omega) (by omega) hL)
             rw [hb1]
             rfl)
          | (rw [if_neg hns] at hb1
             refine J.eql ?_ (ih (z + 1) _ (some (i_ (x.toNat : Int))) (by omega) (by omega) hL7)
             rw [hb1]
             rfl)
          | (rw [if_pos hps] at hb1
             refine J.eql ?_ (ih (z + 1) _ (some (i_ (x.toNat : Int))) (by omega) (by omega) hL7)
             rw [hb1]
             rfl)
        · refine J.iconst (q := 44) dX6_bestRelease_43 ?_ rfl
          refine J.istore (q := 46) dX6_bestRelease_44 (Nat.le_of_ble_eq_true rfl) ?_ rfl
          have hL62 : iv1 = mk2 iv1 (dysM (fdst (iv 62)) (bitB (z : Int)) 0 (iv 62, iv1 69)) := by show iv1 = mk2 iv1 (iv 62, iv1 69); rw [← e62, mk2_self]
          rw [hb]
          refine J.eqi hL62 (bestRelease_days hA hL hw hc hx (by omega) ?_ 41 0 (by omega) (by omega))
          rw [← hb]
          refine J.aload_n (q := 65) dX6_bestRelease_64 rfl ?_ rfl
          refine J.getR (ci := 6) (k0 := 0) (c1 := 62) (q := 68) dX6_bestRelease_65 kF_X6_9 rfl (by decide) (by decide) rfl (by decide) rfl ?_ rfl
          refine J.sipush (q := 71) dX6_bestRelease_68 (by decide) ?_ rfl
          refine J.iload_n (q := 72) dX6_bestRelease_71 rfl ?_ rfl
          refine J.iadd (q := 73) dX6_bestRelease_72 ?_ rfl
          refine J.iald (n := 307) (q := 74) dX6_bestRelease_73 rfl (by omega) ?_ rfl
          try simp only [mk2_62]
          refine J.iload_n (q := 75) dX6_bestRelease_74 rfl ?_ rfl
          obtain ⟨hXn, -, -⟩ := dysM_MI (fr := fdst (iv 62)) (th := bitB (z : Int)) (X := (iv 62, iv1 69)) hI x.toNat
          have hcl := hXn.cel c hc.1 hc.2
          have e1 : (dysM (fdst (iv 62)) (bitB (z : Int)) x.toNat (P0 (iv 62))).1 = (dysM (fdst (iv 62)) (bitB (z : Int)) x.toNat (iv 62, iv1 69)).1 := dysM_fst (fdst (iv 62)) (bitB (z : Int)) (P0 (iv 62)) (iv 62, iv1 69) rfl x.toNat
          refine J.icmp_ne (tgt := 83) (q := 78) (hv := by omega) dX6_bestRelease_75 rfl rfl (fun c75 => ?_) (fun c75 => ?_)
          · have hns : ¬ ((b < 0 ∨ prcS (iv 62) z < prcS (iv 62) b) ∧ (fun z => decide ((dysM (fdst (iv 62)) (bitB z) x.toNat (P0 (iv 62))).1 (176 + c) = w)) z = true) := fun q => c75 (by rw [← e1]; exact of_decide_eq_true q.2)
            refine J.iload (q := 85) dX6_bestRelease_83 rfl ?_ rfl
            refine J.istore (q := 87) dX6_bestRelease_85 (Nat.le_of_ble_eq_true rfl) ?_ rfl
            refine J.aload_n (q := 88) dX6_bestRelease_87 rfl ?_ rfl
            refine J.callV0 (ci := 6) (q := 91) dX6_bestRelease_88 mv_X6_laysBack kL_X6_158 rfl (by decide) rfl ⟨by decide, by decide⟩ (Nat.le_of_ble_eq_true rfl) ⟨by decide, by decide⟩ rfl (c_X6_laysBack) (fun v7 S7 iv7 hp => ?_)
            obtain ⟨rfl, rfl, b1, b2, b3⟩ := hp
            have hL7 : LBk iv iv7 := by
              refine ⟨⟨fun q hq => ?_, ?_, fun q hq => ?_⟩, fun j h1 h2 => ?_, fun i a h1 h2 h3 h4 => ?_⟩
              · by_cases h62 : q = 62
                · subst h62
                  refine laid (fun j h1 h2 => ?_) b3 (dys_junk hI _)
                  rw [b2 j h1 h2, mk2_n _ _ (by decide) (by decide), hL.2.1 j h1 h2]
                · rw [b1 q h62, mk2_n _ _ h62 (by omega), hL.1.1 q hq]
              · rw [b1 65 (by decide), mk2_n _ _ (by decide) (by decide), hL.1.2.1]
              · rw [b1 q (by omega), mk2_n _ _ (by omega) (by omega), hL.1.2.2 q hq]
              · rw [b1 64 (by decide), mk2_n _ _ (by decide) (by decide), hL.2.1 j h1 h2]
              · rw [b1 66 (by decide), mk2_n _ _ (by decide) (by decide)]; exact hL.2.2 i a h1 h2 h3 h4
            refine J.iinc (q := 94) dX6_bestRelease_91 rfl ?_ rfl
            refine J.goto (tgt := 14) dX6_bestRelease_94 rfl ?_
            first
            | (rw [if_neg hns] at hb1
               refine J.eql ?_ (ih (z + 1) _ y6 (by omega) (by omega) hL)
               rw [hb1]
               rfl)
            | (rw [if_neg hns] at hb1
               refine J.eql ?_ (ih (z + 1) _ (some (i_ (x.toNat : Int))) (by omega) (by omega) hL7)
               rw [hb1]
               rfl)
            | (rw [if_pos hps] at hb1
               refine J.eql ?_ (ih (z + 1) _ (some (i_ (x.toNat : Int))) (by omega) (by omega) hL7)
               rw [hb1]
               rfl)
          · have hps : (b < 0 ∨ prcS (iv 62) z < prcS (iv 62) b) ∧ (fun z => decide ((dysM (fdst (iv 62)) (bitB z) x.toNat (P0 (iv 62))).1 (176 + c) = w)) z = true := ⟨by omega, decide_eq_true (by rw [e1]; exact c75)⟩
            refine J.iload (q := 80) dX6_bestRelease_78 rfl ?_ rfl
            refine J.goto (tgt := 85) dX6_bestRelease_80 rfl ?_
            refine J.istore (q := 87) dX6_bestRelease_85 (Nat.le_of_ble_eq_true rfl) ?_ rfl
            refine J.aload_n (q := 88) dX6_bestRelease_87 rfl ?_ rfl
            refine J.callV0 (ci := 6) (q := 91) dX6_bestRelease_88 mv_X6_laysBack kL_X6_158 rfl (by decide) rfl ⟨by decide, by decide⟩ (Nat.le_of_ble_eq_true rfl) ⟨by decide, by decide⟩ rfl (c_X6_laysBack) (fun v7 S7 iv7 hp => ?_)
            obtain ⟨rfl, rfl, b1, b2, b3⟩ := hp
            have hL7 : LBk iv iv7 := by
              refine ⟨⟨fun q hq => ?_, ?_, fun q hq => ?_⟩, fun j h1 h2 => ?_, fun i a h1 h2 h3 h4 => ?_⟩
              · by_cases h62 : q = 62
                · subst h62
                  refine laid (fun j h1 h2 => ?_) b3 (dys_junk hI _)
                  rw [b2 j h1 h2, mk2_n _ _ (by decide) (by decide), hL.2.1 j h1 h2]
                · rw [b1 q h62, mk2_n _ _ h62 (by omega), hL.1.1 q hq]
              · rw [b1 65 (by decide), mk2_n _ _ (by decide) (by decide), hL.1.2.1]
              · rw [b1 q (by omega), mk2_n _ _ (by omega) (by omega), hL.1.2.2 q hq]
              · rw [b1 64 (by decide), mk2_n _ _ (by decide) (by decide), hL.2.1 j h1 h2]
              · rw [b1 66 (by decide), mk2_n _ _ (by decide) (by decide)]; exact hL.2.2 i a h1 h2 h3 h4
            refine J.iinc (q := 94) dX6_bestRelease_91 rfl ?_ rfl
            refine J.goto (tgt := 14) dX6_bestRelease_94 rfl ?_
            first
            | (rw [if_neg hns] at hb1
               refine J.eql ?_ (ih (z + 1) _ y6 (by omega) (by omega) hL)
               rw [hb1]
               rfl)
            | (rw [if_neg hns] at hb1
               refine J.eql ?_ (ih (z + 1) _ (some (i_ (x.toNat : Int))) (by omega) (by omega) hL7)
               rw [hb1]
               rfl)
            | (rw [if_pos hps] at hb1
               refine J.eql ?_ (ih (z + 1) _ (some (i_ (x.toNat : Int))) (by omega) (by omega) hL7)
               rw [hb1]
               rfl)

set_option maxRecDepth 100000 in
set_option maxHeartbeats 4000000 in
theorem c_X6_bestRelease {l : Launch} {F : Nat × (Int → Int)} {iv : Mm} (hA : AI iv) {w c x : Int} (hw : 0 ≤ w ∧ w ≤ 7) (hc : 0 ≤ c ∧ c ≤ 80) (hx : 0 ≤ x ∧ x ≤ 40) : Ctr l F 4 0 0 yX6_bestRelease cX6_bestRelease 7 (some FieldType.int) [r_ 61, i_ w, i_ c, i_ x] S0 (iv) (fun v S iv2 => v = some (i_ (relS (iv 62) w c x.toNat)) ∧ S = S0 ∧ TF iv iv2) := by
  refine Ctr.of false (fun h => by cases h) (by decide) rfl (Nat.le_of_ble_eq_true rfl) ?_
  have hI := hA.mi
  have hmm := hI.many
  have hkp := hA.kp
  have htp := hA.tp
  refine J.aload_n (q := 1) dX6_bestRelease_0 rfl ?_ rfl
  refine J.callV0 (ci := 6) (q := 4) dX6_bestRelease_1 mv_X6_setsAside kL_X6_155 rfl (by decide) rfl ⟨by decide, by decide⟩ (Nat.le_of_ble_eq_true rfl) ⟨by decide, by decide⟩ rfl (c_X6_setsAside) (fun v9 S9 iv9 hp => ?_)
  obtain ⟨rfl, rfl, a1, a2, a3⟩ := hp
  have e9 := a1 62 (by decide)
  have hI9 : MI 99999 (iv9 62) := by rw [e9]; exact hI
  refine J.aload_n (q := 5) dX6_bestRelease_4 rfl ?_ rfl
  refine J.callV0 (ci := 6) (q := 8) dX6_bestRelease_5 mv_X6_findsFars kL_X6_112 rfl (by decide) rfl ⟨by decide, by decide⟩ (Nat.le_of_ble_eq_true rfl) ⟨by decide, by decide⟩ rfl (c_X6_findsFars (show (99999 : Int) ≤ 200000 by omega) hI9) (fun v8 S8 iv8 hp => ?_)
  obtain ⟨rfl, rfl, g1, g2⟩ := hp
  have e8 := (g1 62 (by decide) (by decide) (by decide)).trans e9
  rw [e9] at g2
  refine J.iconst (q := 9) dX6_bestRelease_8 ?_ rfl
  refine J.istore (q := 11) dX6_bestRelease_9 (Nat.le_of_ble_eq_true rfl) ?_ rfl
  refine J.iconst (q := 12) dX6_bestRelease_11 ?_ rfl
  refine J.istore (q := 14) dX6_bestRelease_12 (Nat.le_of_ble_eq_true rfl) ?_ rfl
  refine bestRelease_loop hA hw hc hx 257 0 iv8 _ (by omega) (Nat.zero_le _) ⟨⟨fun q hq => ?_, ?_, fun q hq => ?_⟩, fun j h1 h2 => ?_, g2⟩
  · rw [g1 q (by omega) (by omega) (by omega), a1 q (by omega)]
  · rw [g1 65 (by decide) (by decide) (by decide), a1 65 (by decide)]
  · rw [g1 q (by omega) (by omega) (by omega), a1 q (by omega)]
  · rw [g1 64 (by decide) (by decide) (by decide), a2 j h1 h2]

set_option maxRecDepth 100000 in
set_option maxHeartbeats 4000000 in
theorem c_X6_release {l : Launch} {F : Nat × (Int → Int)} {iv : Mm} (hA : AI iv) {w c n : Int} (hw : -2147483648 ≤ w ∧ w < 2147483648) (hc : -2147483648 ≤ c ∧ c < 2147483648) (hn : -2147483648 ≤ n ∧ n < 2147483648) : Ctr l F 6 0 0 yX6_release cX6_release 5 (some FieldType.int) [r_ 61, i_ w, i_ c, i_ n] S0 (iv) (MP iv (an_release (hi iv) w c n)) := by
  refine Ctr.of false (fun h => by cases h) (by decide) rfl (Nat.le_of_ble_eq_true rfl) ?_
  have hI := hA.mi
  have hmm := hI.many
  have hkp := hA.kp
  have htp := hA.tp
  refine J.iload_n (q := 1) dX6_release_0 rfl ?_ rfl
  refine J.iload_n (q := 2) dX6_release_1 rfl ?_ rfl
  refine J.iload_n (q := 3) dX6_release_2 rfl ?_ rfl
  refine J.callS3i (q := 6) dX6_release_3 mv_X6_isRelease kS_X6_isRelease kL_X6_170 ⟨by decide, by decide⟩ (Nat.le_of_ble_eq_true rfl) ⟨by decide, by decide⟩ rfl (c_X6_isRelease (by omega) (by omega) (by omega)) ?_
  refine J.ifb_ne (tgt := 15) (q := 9) dX6_release_6 rfl rfl (fun c6 => ?_) (fun c6 => ?_)
  · refine J.aload_n (q := 16) dX6_release_15 rfl ?_ rfl
    refine J.iload_n (q := 17) dX6_release_16 rfl ?_ rfl
    refine J.iload_n (q := 18) dX6_release_17 rfl ?_ rfl
    refine J.iload_n (q := 19) dX6_release_18 rfl ?_ rfl
    refine J.callV3 (ci := 6) (q := 22) dX6_release_19 mv_X6_bestRelease kL_X6_173 rfl (by decide) rfl ⟨by decide, by decide⟩ (Nat.le_of_ble_eq_true rfl) ⟨by decide, by decide⟩ rfl (c_X6_bestRelease hA (by omega) (by omega) (by omega)) (fun v9 S9 iv9 hp => ?_)
    obtain ⟨rfl, rfl, hTF⟩ := hp
    have hrl : -1 ≤ relS (iv 62) w c n.toNat ∧ relS (iv 62) w c n.toNat < 256 := by
      have h1 := bestS_lt (prcS (iv 62)) (fun z => decide ((dysM (fdst (iv 62)) (bitB z) n.toNat (P0 (iv 62))).1 (176 + c) = w)) (2 ^ (iv 62 2).toNat)
      have h2 := pow_cast _ hmm
      have h3 := allR hmm
      unfold relS
      omega
    refine J.istore (q := 24) dX6_release_22 (Nat.le_of_ble_eq_true rfl) ?_ rfl
    refine J.iload (q := 26) dX6_release_24 rfl ?_ rfl
    refine J.if_ge (tgt := 37) (q := 29) dX6_release_26 rfl rfl (fun c26 => ?_) (fun c26 => ?_)
    · refine J.iload (q := 39) dX6_release_37 rfl ?_ rfl
      refine J.ireturn dX6_release_39 rfl ?_
      unfold an_release
      (try rw [hi_61]); (try rw [hi_62]); (try rw [hi_63]); (try rw [hi_65]); (try rw [hi_70]); (try rw [hi_74]); (try rw [hi_75]); (try rw [hi_76])
      repeat (first | rw [if_pos (by omega)] | rw [if_neg (by omega)])
      first
      | exact mpTF TF.rf
      | exact mpTFb TF.rf
      | exact mpTF hTF
      | exact mpTFb hTF
      | (exfalso; omega)
    · refine J.aload_n (q := 30) dX6_release_29 rfl ?_ rfl
      refine J.iconst (q := 31) dX6_release_30 ?_ rfl
      refine J.callV1i (ci := 6) (q := 34) dX6_release_31 mv_X6_no kL_X6_125 rfl (by decide) rfl ⟨by decide, by decide⟩ (Nat.le_of_ble_eq_true rfl) ⟨by decide, by decide⟩ rfl (c_X6_no (by omega)) ?_
      refine J.goto (tgt := 39) dX6_release_34 rfl ?_
      refine J.ireturn dX6_release_39 rfl ?_
      unfold an_release
      (try rw [hi_61]); (try rw [hi_62]); (try rw [hi_63]); (try rw [hi_65]); (try rw [hi_70]); (try rw [hi_74]); (try rw [hi_75]); (try rw [hi_76])
      repeat (first | rw [if_pos (by omega)] | rw [if_neg (by omega)])
      first
      | exact mpTF TF.rf
      | exact mpTFb TF.rf
      | exact mpTF hTF
      | exact mpTFb hTF
      | (exfalso; omega)
  · refine J.aload_n (q := 10) dX6_release_9 rfl ?_ rfl
    refine J.iconst (q := 11) dX6_release_10 ?_ rfl
    refine J.callV1i (ci := 6) (q := 14) dX6_release_11 mv_X6_no kL_X6_125 rfl (by decide) rfl ⟨by decide, by decide⟩ (Nat.le_of_ble_eq_true rfl) ⟨by decide, by decide⟩ rfl (c_X6_no (by omega)) ?_
    refine J.ireturn dX6_release_14 rfl ?_
    unfold an_release
    (try rw [hi_61]); (try rw [hi_62]); (try rw [hi_63]); (try rw [hi_65]); (try rw [hi_70]); (try rw [hi_74]); (try rw [hi_75]); (try rw [hi_76])
    repeat (first | rw [if_pos (by omega)] | rw [if_neg (by omega)])
    first
    | exact mpTF TF.rf
    | exact mpTFb TF.rf
    | exact mpTF hTF
    | exact mpTFb hTF
    | (exfalso; omega)

set_option maxRecDepth 100000 in
set_option maxHeartbeats 4000000 in
theorem c_X6_costs {l : Launch} {F : Nat × (Int → Int)} {iv : Mm} (hA : AI iv) {w c n : Int} (hw : -2147483648 ≤ w ∧ w < 2147483648) (hc : -2147483648 ≤ c ∧ c < 2147483648) (hn : -2147483648 ≤ n ∧ n < 2147483648) : Ctr l F 6 0 0 yX6_costs cX6_costs 5 (some FieldType.int) [r_ 61, i_ w, i_ c, i_ n] S0 (iv) (MP iv (an_costs (hi iv) w c n)) := by
  refine Ctr.of false (fun h => by cases h) (by decide) rfl (Nat.le_of_ble_eq_true rfl) ?_
  have hI := hA.mi
  have hmm := hI.many
  have hkp := hA.kp
  have htp := hA.tp
  refine J.iload_n (q := 1) dX6_costs_0 rfl ?_ rfl
  refine J.iload_n (q := 2) dX6_costs_1 rfl ?_ rfl
  refine J.iload_n (q := 3) dX6_costs_2 rfl ?_ rfl
  refine J.callS3i (q := 6) dX6_costs_3 mv_X6_isRelease kS_X6_isRelease kL_X6_170 ⟨by decide, by decide⟩ (Nat.le_of_ble_eq_true rfl) ⟨by decide, by decide⟩ rfl (c_X6_isRelease (by omega) (by omega) (by omega)) ?_
  refine J.ifb_ne (tgt := 15) (q := 9) dX6_costs_6 rfl rfl (fun c6 => ?_) (fun c6 => ?_)
  · refine J.aload_n (q := 16) dX6_costs_15 rfl ?_ rfl
    refine J.iload_n (q := 17) dX6_costs_16 rfl ?_ rfl
    refine J.iload_n (q := 18) dX6_costs_17 rfl ?_ rfl
    refine J.iload_n (q := 19) dX6_costs_18 rfl ?_ rfl
    refine J.callV3 (ci := 6) (q := 22) dX6_costs_19 mv_X6_bestRelease kL_X6_173 rfl (by decide) rfl ⟨by decide, by decide⟩ (Nat.le_of_ble_eq_true rfl) ⟨by decide, by decide⟩ rfl (c_X6_bestRelease hA (by omega) (by omega) (by omega)) (fun v9 S9 iv9 hp => ?_)
    obtain ⟨rfl, rfl, hTF⟩ := hp
    have hrl : -1 ≤ relS (iv 62) w c n.toNat ∧ relS (iv 62) w c n.toNat < 256 := by
      have h1 := bestS_lt (prcS (iv 62)) (fun z => decide ((dysM (fdst (iv 62)) (bitB z) n.toNat (P0 (iv 62))).1 (176 + c) = w)) (2 ^ (iv 62 2).toNat)
      have h2 := pow_cast _ hmm
      have h3 := allR hmm
      unfold relS
      omega
    refine J.istore (q := 24) dX6_costs_22 (Nat.le_of_ble_eq_true rfl) ?_ rfl
    refine J.iload (q := 26) dX6_costs_24 rfl ?_ rfl
    refine J.if_ge (tgt := 37) (q := 29) dX6_costs_26 rfl rfl (fun c26 => ?_) (fun c26 => ?_)
    · refine J.aload_n (q := 38) dX6_costs_37 rfl ?_ rfl
      refine J.iload (q := 40) dX6_costs_38 rfl ?_ rfl
      have hI9 : MI 99999 (iv9 62) := by rw [hTF.1 62 (by omega)]; exact hI
      refine J.callV1i (ci := 6) (q := 43) dX6_costs_40 mv_X6_priceOf kL_X6_167 rfl (by decide) rfl ⟨by decide, by decide⟩ (Nat.le_of_ble_eq_true rfl) ⟨by decide, by decide⟩ rfl (c_X6_priceOf (show (99999 : Int) ≤ 200000 by omega) hI9 (by omega)) ?_
      rw [hTF.1 62 (by omega)]
      refine J.ireturn dX6_costs_43 rfl ?_
      unfold an_costs
      (try rw [hi_61]); (try rw [hi_62]); (try rw [hi_63]); (try rw [hi_65]); (try rw [hi_70]); (try rw [hi_74]); (try rw [hi_75]); (try rw [hi_76])
      repeat (first | rw [if_pos (by omega)] | rw [if_neg (by omega)])
      first
      | exact mpTF TF.rf
      | exact mpTFb TF.rf
      | exact mpTF hTF
      | exact mpTFb hTF
      | (exfalso; omega)
    · refine J.aload_n (q := 30) dX6_costs_29 rfl ?_ rfl
      refine J.iconst (q := 31) dX6_costs_30 ?_ rfl
      refine J.callV1i (ci := 6) (q := 34) dX6_costs_31 mv_X6_no kL_X6_125 rfl (by decide) rfl ⟨by decide, by decide⟩ (Nat.le_of_ble_eq_true rfl) ⟨by decide, by decide⟩ rfl (c_X6_no (by omega)) ?_
      refine J.goto (tgt := 43) dX6_costs_34 rfl ?_
      refine J.ireturn dX6_costs_43 rfl ?_
      unfold an_costs
      (try rw [hi_61]); (try rw [hi_62]); (try rw [hi_63]); (try rw [hi_65]); (try rw [hi_70]); (try rw [hi_74]); (try rw [hi_75]); (try rw [hi_76])
      repeat (first | rw [if_pos (by omega)] | rw [if_neg (by omega)])
      first
      | exact mpTF TF.rf
      | exact mpTFb TF.rf
      | exact mpTF hTF
      | exact mpTFb hTF
      | (exfalso; omega)
  · refine J.aload_n (q := 10) dX6_costs_9 rfl ?_ rfl
    refine J.iconst (q := 11) dX6_costs_10 ?_ rfl
    refine J.callV1i (ci := 6) (q := 14) dX6_costs_11 mv_X6_no kL_X6_125 rfl (by decide) rfl ⟨by decide, by decide⟩ (Nat.le_of_ble_eq_true rfl) ⟨by decide, by decide⟩ rfl (c_X6_no (by omega)) ?_
    refine J.ireturn dX6_costs_14 rfl ?_
    unfold an_costs
    (try rw [hi_61]); (try rw [hi_62]); (try rw [hi_63]); (try rw [hi_65]); (try rw [hi_70]); (try rw [hi_74]); (try rw [hi_75]); (try rw [hi_76])
    repeat (first | rw [if_pos (by omega)] | rw [if_neg (by omega)])
    first
    | exact mpTF TF.rf
    | exact mpTFb TF.rf
    | exact mpTF hTF
    | exact mpTFb hTF
    | (exfalso; omega)

