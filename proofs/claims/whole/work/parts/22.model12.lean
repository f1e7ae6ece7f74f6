/-! the reference: overtaking, clashes, spots, sheets (printed by wip/whole/m_model12.py) -/
theorem I3_i2b {v : Int} (hv : -2147483648 ≤ v ∧ v < 2147483648) : (Int32.ofInt v).toInt8.toInt32 = Int32.ofInt (v.bmod 256) := by
  rw [← Int32.toInt_inj, Int8.toInt_toInt32, Int32.toInt_toInt8, I3_toInt hv, I3_toInt (by simp only [Int.bmod_def]; omega)]
theorem I3_i2s {v : Int} (hv : -2147483648 ≤ v ∧ v < 2147483648) : (Int32.ofInt v).toInt16.toInt32 = Int32.ofInt (v.bmod 65536) := by
  rw [← Int32.toInt_inj, Int16.toInt_toInt32, Int32.toInt_toInt16, I3_toInt hv, I3_toInt (by simp only [Int.bmod_def]; omega)]
def abv (k : Int) : Int := if k = 3 then 2 else if k = 4 then 3 else if k = 6 then 1 else 0
def rk (k : Int) : Int := if k = 0 then 0 else if k = 1 ∨ k = 2 ∨ k = 5 then 1 else if k = 3 ∨ k = 6 then 2 else 3
theorem undr_abv {a b : Int} (ha : 0 ≤ a ∧ a ≤ 6) (hb : 0 ≤ b ∧ b ≤ 6) (h1 : a ≠ b) (h2 : a ≠ 0) : undr (abv a) b = undr a b ∧ rk (abv a) < rk a ∧ 0 ≤ abv a ∧ abv a ≤ 6 := by
  obtain ⟨n, rfl⟩ := Int.eq_ofNat_of_zero_le ha.1
  obtain ⟨m, rfl⟩ := Int.eq_ofNat_of_zero_le hb.1
  have h : ∀ a : Nat, a < 7 → ∀ b : Nat, b < 7 → ((a : Int) = (b : Int) ∨ (a : Int) = 0 ∨ (undr (abv (a : Int)) (b : Int) = undr (a : Int) (b : Int) ∧ rk (abv (a : Int)) < rk (a : Int) ∧ 0 ≤ abv (a : Int) ∧ abv (a : Int) ≤ 6)) := by decide
  rcases h n (by omega) m (by omega) with h | h | h
  · exact absurd h h1
  · exact absurd h h2
  · exact h
theorem undr_0 {b : Int} (hb : b ≠ 0) : undr 0 b = false := by
  unfold undr
  exact decide_eq_false (by omega)
theorem undr_s (a : Int) : undr a a = true := decide_eq_true (Or.inl rfl)
theorem rk_rng (k : Int) : 0 ≤ rk k ∧ rk k ≤ 3 := by
  unfold rk
  repeat' split
  all_goals omega
theorem runN_rng (p : Int → Bool) : ∀ (n : Nat) (i : Int), i ≤ runN p n i ∧ runN p n i ≤ i + n
  | 0, i => by simp [runN]
  | n + 1, i => by
    have := runN_rng p n (i + 1)
    unfold runN
    split <;> omega
set_option maxRecDepth 100000 in
set_option maxHeartbeats 4000000 in
theorem overtakes_loop {l : Launch} {F : Nat × (Int → Int)} {iv iv1 : Mm} (hA : AI iv) (hfar : FarOK iv1 (fdst (iv 62)) (iv 62 2)) {R : Nat} {x y : Int} (hx : 0 ≤ x ∧ x < iv 62 2) (hy : 0 ≤ y ∧ y < iv 62 2) (K : ∀ _ : True, J l (yX6_overtakes).cls cX6_overtakes 4 (some FieldType.int) 6 0 0 false F (MP iv (an_overtakes (hi iv) x y)) 0 0 82 [some (r_ 61), some (i_ x), some (i_ y), some (i_ ((R : Nat) : Int))] [] S0 (mk2 iv1 (dysM (fdst (iv 62)) th1 R (iv 62, iv1 69)))) : ∀ (n : Nat) (i : Nat), (101 - i < n) → ((i : Int) ≤ 101) → (firstD (fun i => decide (fdst (iv 62) y (dys (iv 62) i (257 + 5 * x + 1)) < fdst (iv 62) y (dys (iv 62) i (257 + 5 * y + 1)))) (101 - i) i = R) → J l (yX6_overtakes).cls cX6_overtakes 4 (some FieldType.int) 6 0 0 false F (MP iv (an_overtakes (hi iv) x y)) 0 0 37 [some (r_ 61), some (i_ x), some (i_ y), some (i_ (i : Int))] [] S0 (mk2 iv1 (dysM (fdst (iv 62)) th1 i (iv 62, iv1 69))) := by
  intro n
  induction n with
  | zero =>
    intro i hn hi hB
    omega
  | succ n ih =>
    intro i hn hi hB
    have hI := hA.mi
    have hmm := hI.many
    obtain ⟨hX, hX0, hXk⟩ := dysM_MI (fr := fdst (iv 62)) (th := th1) (X := (iv 62, iv1 69)) hI i
    have hm2 : (dysM (fdst (iv 62)) th1 i (iv 62, iv1 69)).1 2 = iv 62 2 := hXk 2 (kept_lo (by omega))
    have e1 : dys (iv 62) i = (dysM (fdst (iv 62)) th1 i (iv 62, iv1 69)).1 := dysM_fst (fdst (iv 62)) th1 (P0 (iv 62)) (iv 62, iv1 69) rfl i
    refine J.iload_n (q := 38) dX6_overtakes_37 rfl ?_ rfl
    refine J.bipush (q := 40) dX6_overtakes_38 (by decide) ?_ rfl
    refine J.icmp_gt (tgt := 82) (q := 43) dX6_overtakes_40 rfl rfl (fun c40 => ?_) (fun c40 => ?_)
    · have hi9 : i = 101 := by omega
      rw [show 101 - i = 0 by omega, firstD] at hB
      subst hB
      exact K trivial
    · have hsx := hX.sna x (by omega) (by omega)
      have hsy := hX.sna y (by omega) (by omega)
      have hf1 := hfar y ((dysM (fdst (iv 62)) th1 i (iv 62, iv1 69)).1 (257 + 5 * x + 1)) (by omega) (by omega) (by omega) (by omega)
      have hf2 := hfar y ((dysM (fdst (iv 62)) th1 i (iv 62, iv1 69)).1 (257 + 5 * y + 1)) (by omega) (by omega) (by omega) (by omega)
      refine J.aload_n (q := 44) dX6_overtakes_43 rfl ?_ rfl
      refine J.iload_n (q := 45) dX6_overtakes_44 rfl ?_ rfl
      refine J.aload_n (q := 46) dX6_overtakes_45 rfl ?_ rfl
      refine J.iload_n (q := 47) dX6_overtakes_46 rfl ?_ rfl
      refine J.iconst (q := 48) dX6_overtakes_47 ?_ rfl
      refine J.callV2i (ci := 6) (q := 51) dX6_overtakes_48 mv_X6_get kL_X6_76 rfl (by decide) rfl ⟨by decide, by decide⟩ (Nat.le_of_ble_eq_true rfl) ⟨by decide, by decide⟩ rfl (c_X6_get (by omega)) ?_
      simp only [mk2_62]
      refine J.callV2i (ci := 6) (q := 54) dX6_overtakes_51 mv_X6_farBy kL_X6_84 rfl (by decide) rfl ⟨by decide, by decide⟩ (Nat.le_of_ble_eq_true rfl) ⟨by decide, by decide⟩ rfl (c_X6_farBy (by omega) (by omega)) ?_
      rw [mk2_n _ _ (by decide) (by decide), hf1.1]
      refine J.aload_n (q := 55) dX6_overtakes_54 rfl ?_ rfl
      refine J.iload_n (q := 56) dX6_overtakes_55 rfl ?_ rfl
      refine J.aload_n (q := 57) dX6_overtakes_56 rfl ?_ rfl
      refine J.iload_n (q := 58) dX6_overtakes_57 rfl ?_ rfl
      refine J.iconst (q := 59) dX6_overtakes_58 ?_ rfl
      refine J.callV2i (ci := 6) (q := 62) dX6_overtakes_59 mv_X6_get kL_X6_76 rfl (by decide) rfl ⟨by decide, by decide⟩ (Nat.le_of_ble_eq_true rfl) ⟨by decide, by decide⟩ rfl (c_X6_get (by omega)) ?_
      simp only [mk2_62]
      refine J.callV2i (ci := 6) (q := 65) dX6_overtakes_62 mv_X6_farBy kL_X6_84 rfl (by decide) rfl ⟨by decide, by decide⟩ (Nat.le_of_ble_eq_true rfl) ⟨by decide, by decide⟩ rfl (c_X6_farBy (by omega) (by omega)) ?_
      rw [mk2_n _ _ (by decide) (by decide), hf2.1]
      refine J.icmp_lt (tgt := 82) (q := 68) (hv := by omega) dX6_overtakes_65 rfl rfl (fun c65 => ?_) (fun c65 => ?_)
      · have hpi : (fun i => decide (fdst (iv 62) y (dys (iv 62) i (257 + 5 * x + 1)) < fdst (iv 62) y (dys (iv 62) i (257 + 5 * y + 1)))) i = true := decide_eq_true (by rw [e1]; exact c65)
        rw [show 101 - i = (101 - (i + 1)) + 1 by omega, firstD, if_pos hpi] at hB
        subst hB
        exact K trivial
      · have hpi : ¬ ((fun i => decide (fdst (iv 62) y (dys (iv 62) i (257 + 5 * x + 1)) < fdst (iv 62) y (dys (iv 62) i (257 + 5 * y + 1)))) i = true) := fun z => by have h9 := of_decide_eq_true z; rw [e1] at h9; omega
        refine J.aload_n (q := 69) dX6_overtakes_68 rfl ?_ rfl
        refine J.aload_n (q := 70) dX6_overtakes_69 rfl ?_ rfl
        refine J.callV0i (ci := 6) (q := 73) dX6_overtakes_70 mv_X6_allSnails kL_X6_115 rfl (by decide) rfl ⟨by decide, by decide⟩ (Nat.le_of_ble_eq_true rfl) ⟨by decide, by decide⟩ rfl (c_X6_allSnails (by rw [mk2_62, hm2]; exact hmm)) ?_
        simp only [mk2_62]
        rw [hm2]
        refine J.callV1v (ci := 6) (q := 76) dX6_overtakes_73 mv_X6_day kL_X6_119 rfl (by decide) rfl ⟨by decide, by decide⟩ (Nat.le_of_ble_eq_true rfl) ⟨by decide, by decide⟩ rfl (c_X6_day (by omega) hX hm2 hfar (allR hmm) (fun k a b => ⟨fun _ => rfl, fun _ => allB hmm ⟨a, b⟩⟩)) ?_
        refine J.iinc (q := 79) dX6_overtakes_76 rfl ?_ rfl
        refine J.goto (tgt := 37) dX6_overtakes_79 rfl ?_
        have e3 : 101 - i = (101 - (i + 1)) + 1 := by omega
        rw [e3, firstD, if_neg hpi] at hB
        exact ih (i + 1) (by omega) (by omega) hB

set_option maxRecDepth 100000 in
set_option maxHeartbeats 4000000 in
theorem c_X6_overtakes {l : Launch} {F : Nat × (Int → Int)} {iv : Mm} (hA : AI iv) {x y : Int} (hx : -2147483648 ≤ x ∧ x < 2147483648) (hy : -2147483648 ≤ y ∧ y < 2147483648) : Ctr l F 6 0 0 yX6_overtakes cX6_overtakes 4 (some FieldType.int) [r_ 61, i_ x, i_ y] S0 (iv) (MP iv (an_overtakes (hi iv) x y)) := by
  refine Ctr.of false (fun h => by cases h) (by decide) rfl (Nat.le_of_ble_eq_true rfl) ?_
  have hI := hA.mi
  have hmm := hI.many
  have hkp := hA.kp
  have htp := hA.tp
  refine J.aload_n (q := 1) dX6_overtakes_0 rfl ?_ rfl
  refine J.iload_n (q := 2) dX6_overtakes_1 rfl ?_ rfl
  refine J.callV1i (ci := 6) (q := 5) dX6_overtakes_2 mv_X6_isSnail kL_X6_131 rfl (by decide) rfl ⟨by decide, by decide⟩ (Nat.le_of_ble_eq_true rfl) ⟨by decide, by decide⟩ rfl (c_X6_isSnail (by omega) (by omega)) ?_
  refine J.ifb_eq (tgt := 21) (q := 8) dX6_overtakes_5 rfl rfl (fun c5 => ?_) (fun c5 => ?_)
  · refine J.aload_n (q := 22) dX6_overtakes_21 rfl ?_ rfl
    refine J.iconst (q := 23) dX6_overtakes_22 ?_ rfl
    refine J.callV1i (ci := 6) (q := 26) dX6_overtakes_23 mv_X6_no kL_X6_125 rfl (by decide) rfl ⟨by decide, by decide⟩ (Nat.le_of_ble_eq_true rfl) ⟨by decide, by decide⟩ rfl (c_X6_no (by omega)) ?_
    refine J.ireturn dX6_overtakes_26 rfl ?_
    unfold an_overtakes
    (try rw [hi_61]); (try rw [hi_62]); (try rw [hi_63]); (try rw [hi_65]); (try rw [hi_70]); (try rw [hi_74]); (try rw [hi_75]); (try rw [hi_76])
    repeat (first | rw [if_pos (by omega)] | rw [if_neg (by omega)])
    first
    | exact mpTF TF.rf
    | exact mpTFb TF.rf
    | exact mpTF hTF
    | exact mpTFb hTF
    | (exfalso; omega)
  · refine J.aload_n (q := 9) dX6_overtakes_8 rfl ?_ rfl
    refine J.iload_n (q := 10) dX6_overtakes_9 rfl ?_ rfl
    refine J.callV1i (ci := 6) (q := 13) dX6_overtakes_10 mv_X6_isSnail kL_X6_131 rfl (by decide) rfl ⟨by decide, by decide⟩ (Nat.le_of_ble_eq_true rfl) ⟨by decide, by decide⟩ rfl (c_X6_isSnail (by omega) (by omega)) ?_
    refine J.ifb_eq (tgt := 21) (q := 16) dX6_overtakes_13 rfl rfl (fun c13 => ?_) (fun c13 => ?_)
    · refine J.aload_n (q := 22) dX6_overtakes_21 rfl ?_ rfl
      refine J.iconst (q := 23) dX6_overtakes_22 ?_ rfl
      refine J.callV1i (ci := 6) (q := 26) dX6_overtakes_23 mv_X6_no kL_X6_125 rfl (by decide) rfl ⟨by decide, by decide⟩ (Nat.le_of_ble_eq_true rfl) ⟨by decide, by decide⟩ rfl (c_X6_no (by omega)) ?_
      refine J.ireturn dX6_overtakes_26 rfl ?_
      unfold an_overtakes
      (try rw [hi_61]); (try rw [hi_62]); (try rw [hi_63]); (try rw [hi_65]); (try rw [hi_70]); (try rw [hi_74]); (try rw [hi_75]); (try rw [hi_76])
      repeat (first | rw [if_pos (by omega)] | rw [if_neg (by omega)])
      first
      | exact mpTF TF.rf
      | exact mpTFb TF.rf
      | exact mpTF hTF
      | exact mpTFb hTF
      | (exfalso; omega)
    · refine J.iload_n (q := 17) dX6_overtakes_16 rfl ?_ rfl
      refine J.iload_n (q := 18) dX6_overtakes_17 rfl ?_ rfl
      refine J.icmp_ne (tgt := 27) (q := 21) dX6_overtakes_18 rfl rfl (fun c18 => ?_) (fun c18 => ?_)
      · refine J.aload_n (q := 28) dX6_overtakes_27 rfl ?_ rfl
        refine J.callV0 (ci := 6) (q := 31) dX6_overtakes_28 mv_X6_setsAside kL_X6_155 rfl (by decide) rfl ⟨by decide, by decide⟩ (Nat.le_of_ble_eq_true rfl) ⟨by decide, by decide⟩ rfl (c_X6_setsAside) (fun v9 S9 iv9 hp => ?_)
        obtain ⟨rfl, rfl, a1, a2, a3⟩ := hp
        have e9 := a1 62 (by decide)
        have hI9 : MI 99999 (iv9 62) := by rw [e9]; exact hI
        refine J.aload_n (q := 32) dX6_overtakes_31 rfl ?_ rfl
        refine J.callV0 (ci := 6) (q := 35) dX6_overtakes_32 mv_X6_findsFars kL_X6_112 rfl (by decide) rfl ⟨by decide, by decide⟩ (Nat.le_of_ble_eq_true rfl) ⟨by decide, by decide⟩ rfl (c_X6_findsFars (show (99999 : Int) ≤ 200000 by omega) hI9) (fun v8 S8 iv8 hp => ?_)
        obtain ⟨rfl, rfl, g1, g2⟩ := hp
        have e8 := (g1 62 (by decide) (by decide) (by decide)).trans e9
        rw [e9] at g2
        refine J.iconst (q := 36) dX6_overtakes_35 ?_ rfl
        refine J.istore_n (q := 37) dX6_overtakes_36 (Nat.le_of_ble_eq_true rfl) ?_ rfl
        refine J.eqi (iv2 := mk2 iv8 (dysM (fdst (iv 62)) th1 0 (iv 62, iv8 69))) (by show iv8 = mk2 iv8 (iv 62, iv8 69); rw [← e8, mk2_self]) ?_
        refine overtakes_loop hA g2 (R := (ovtD (iv 62) x y)) (by omega) (by omega) (fun _ => ?_) 102 0 (by omega) (by omega) rfl
        refine J.aload_n (q := 83) dX6_overtakes_82 rfl ?_ rfl
        refine J.callV0 (ci := 6) (q := 86) dX6_overtakes_83 mv_X6_laysBack kL_X6_158 rfl (by decide) rfl ⟨by decide, by decide⟩ (Nat.le_of_ble_eq_true rfl) ⟨by decide, by decide⟩ rfl (c_X6_laysBack) (fun v7 S7 iv7 hp => ?_)
        obtain ⟨rfl, rfl, b1, b2, b3⟩ := hp
        have e64 : iv8 64 = iv9 64 := g1 64 (by decide) (by decide) (by decide)
        have hTF : TF iv iv7 := by
          refine ⟨fun q hq => ?_, ?_, fun q hq => ?_⟩
          · by_cases h62 : q = 62
            · subst h62
              refine laid (fun j h1 h2 => ?_) b3 (dys_junk hI (ovtD (iv 62) x y))
              rw [b2 j h1 h2, mk2_n _ _ (by decide) (by decide), e64, a2 j h1 h2]
            · rw [b1 q h62, mk2_n _ _ h62 (by omega), g1 q (by omega) (by omega) (by omega), a1 q (by omega)]
          · rw [b1 65 (by decide), mk2_n _ _ (by decide) (by decide), g1 65 (by decide) (by decide) (by decide), a1 65 (by decide)]
          · rw [b1 q (by omega), mk2_n _ _ (by omega) (by omega), g1 q (by omega) (by omega) (by omega), a1 q (by omega)]
        refine J.iload_n (q := 87) dX6_overtakes_86 rfl ?_ rfl
        refine J.bipush (q := 89) dX6_overtakes_87 (by decide) ?_ rfl
        have hfl : ovtD (iv 62) x y ≤ 101 := (firstD_le (fun i => decide (fdst (iv 62) y (dys (iv 62) i (257 + 5 * x + 1)) < fdst (iv 62) y (dys (iv 62) i (257 + 5 * y + 1)))) 101 0).2
        refine J.icmp_gt (tgt := 96) (q := 92) dX6_overtakes_89 rfl rfl (fun c89 => ?_) (fun c89 => ?_)
        · refine J.aload_n (q := 97) dX6_overtakes_96 rfl ?_ rfl
          refine J.iconst (q := 98) dX6_overtakes_97 ?_ rfl
          refine J.callV1i (ci := 6) (q := 101) dX6_overtakes_98 mv_X6_no kL_X6_125 rfl (by decide) rfl ⟨by decide, by decide⟩ (Nat.le_of_ble_eq_true rfl) ⟨by decide, by decide⟩ rfl (c_X6_no (by omega)) ?_
          refine J.ireturn dX6_overtakes_101 rfl ?_
          unfold an_overtakes
          (try rw [hi_61]); (try rw [hi_62]); (try rw [hi_63]); (try rw [hi_65]); (try rw [hi_70]); (try rw [hi_74]); (try rw [hi_75]); (try rw [hi_76])
          repeat (first | rw [if_pos (by omega)] | rw [if_neg (by omega)])
          first
          | exact mpTF TF.rf
          | exact mpTFb TF.rf
          | exact mpTF hTF
          | exact mpTFb hTF
          | (exfalso; omega)
        · refine J.iload_n (q := 93) dX6_overtakes_92 rfl ?_ rfl
          refine J.goto (tgt := 101) dX6_overtakes_93 rfl ?_
          refine J.ireturn dX6_overtakes_101 rfl ?_
          unfold an_overtakes
          (try rw [hi_61]); (try rw [hi_62]); (try rw [hi_63]); (try rw [hi_65]); (try rw [hi_70]); (try rw [hi_74]); (try rw [hi_75]); (try rw [hi_76])
          repeat (first | rw [if_pos (by omega)] | rw [if_neg (by omega)])
          first
          | exact mpTF TF.rf
          | exact mpTFb TF.rf
          | exact mpTF hTF
          | exact mpTFb hTF
          | (exfalso; omega)
      · refine J.aload_n (q := 22) dX6_overtakes_21 rfl ?_ rfl
        refine J.iconst (q := 23) dX6_overtakes_22 ?_ rfl
        refine J.callV1i (ci := 6) (q := 26) dX6_overtakes_23 mv_X6_no kL_X6_125 rfl (by decide) rfl ⟨by decide, by decide⟩ (Nat.le_of_ble_eq_true rfl) ⟨by decide, by decide⟩ rfl (c_X6_no (by omega)) ?_
        refine J.ireturn dX6_overtakes_26 rfl ?_
        unfold an_overtakes
        (try rw [hi_61]); (try rw [hi_62]); (try rw [hi_63]); (try rw [hi_65]); (try rw [hi_70]); (try rw [hi_74]); (try rw [hi_75]); (try rw [hi_76])
        repeat (first | rw [if_pos (by omega)] | rw [if_neg (by omega)])
        first
        | exact mpTF TF.rf
        | exact mpTFb TF.rf
        | exact mpTF hTF
        | exact mpTFb hTF
        | (exfalso; omega)

set_option maxRecDepth 100000 in
set_option maxHeartbeats 4000000 in
theorem c_X6_above {l : Launch} {F : Nat × (Int → Int)} {iv : Mm} {k : Int} (hk : 0 ≤ k ∧ k ≤ 6) : Ctr l F 0 0 0 yX6_above cX6_above 1 (some FieldType.int) [i_ k] S0 (iv) (Ret (some (i_ (abv k))) S0 iv) := by
  refine Ctr.of false (fun h => by cases h) (by decide) rfl (Nat.le_of_ble_eq_true rfl) ?_
  refine J.iload_n (q := 1) dX6_above_0 rfl ?_ rfl
  refine J.iconst (q := 2) dX6_above_1 ?_ rfl
  refine J.icmp_ne (tgt := 9) (q := 5) dX6_above_2 rfl rfl (fun c2 => ?_) (fun c2 => ?_)
  · refine J.iload_n (q := 10) dX6_above_9 rfl ?_ rfl
    refine J.iconst (q := 11) dX6_above_10 ?_ rfl
    refine J.icmp_ne (tgt := 18) (q := 14) dX6_above_11 rfl rfl (fun c11 => ?_) (fun c11 => ?_)
    · refine J.iload_n (q := 19) dX6_above_18 rfl ?_ rfl
      refine J.bipush (q := 21) dX6_above_19 (by decide) ?_ rfl
      refine J.icmp_ne (tgt := 28) (q := 24) dX6_above_21 rfl rfl (fun c21 => ?_) (fun c21 => ?_)
      · refine J.iconst (q := 29) dX6_above_28 ?_ rfl
        refine J.ireturn dX6_above_29 rfl ?_
        refine ⟨congrArg (fun z => some (i_ z)) ?_, rfl, rfl⟩
        unfold abv
        repeat (first | rw [if_pos (by omega)] | rw [if_neg (by omega)])
      · refine J.iconst (q := 25) dX6_above_24 ?_ rfl
        refine J.goto (tgt := 29) dX6_above_25 rfl ?_
        refine J.ireturn dX6_above_29 rfl ?_
        refine ⟨congrArg (fun z => some (i_ z)) ?_, rfl, rfl⟩
        unfold abv
        repeat (first | rw [if_pos (by omega)] | rw [if_neg (by omega)])
    · refine J.iconst (q := 15) dX6_above_14 ?_ rfl
      refine J.goto (tgt := 29) dX6_above_15 rfl ?_
      refine J.ireturn dX6_above_29 rfl ?_
      refine ⟨congrArg (fun z => some (i_ z)) ?_, rfl, rfl⟩
      unfold abv
      repeat (first | rw [if_pos (by omega)] | rw [if_neg (by omega)])
  · refine J.iconst (q := 6) dX6_above_5 ?_ rfl
    refine J.goto (tgt := 29) dX6_above_6 rfl ?_
    refine J.ireturn dX6_above_29 rfl ?_
    refine ⟨congrArg (fun z => some (i_ z)) ?_, rfl, rfl⟩
    unfold abv
    repeat (first | rw [if_pos (by omega)] | rw [if_neg (by omega)])

set_option maxRecDepth 100000 in
set_option maxHeartbeats 4000000 in
theorem as_loop {l : Launch} {F : Nat × (Int → Int)} {iv : Mm} (hA : AI iv) {p x : Int} (hp : 0 ≤ p ∧ p ≤ 9) (hx : 0 ≤ x ∧ x ≤ 6) (hs : 0 ≤ iv 62 (297 + p)) : ∀ (n : Nat) (q : Int), (rk q < n) → (0 ≤ q ∧ q ≤ 6) → (undr q x = undr (iv 62 (257 + 5 * iv 62 (297 + p) + 0)) x) → J l (yX6_as).cls cX6_as 5 (some FieldType.int) 6 0 0 false F (MP iv (an_as (hi iv) p x)) 0 0 52 [some (r_ 61), some (i_ p), some (i_ x), some (i_ (iv 62 (297 + p))), some (i_ q)] [] S0 (iv) := by
  intro n
  induction n with
  | zero =>
    intro q hn hq hU
    have := rk_rng q
    omega
  | succ n ih =>
    intro q hn hq hU
    refine J.iload (q := 54) dX6_as_52 rfl ?_ rfl
    refine J.iload_n (q := 55) dX6_as_54 rfl ?_ rfl
    refine J.icmp_eq (tgt := 73) (q := 58) (hv := by omega) dX6_as_55 rfl rfl (fun c55 => ?_) (fun c55 => ?_)
    · refine J.iload (q := 75) dX6_as_73 rfl ?_ rfl
      refine J.iload_n (q := 76) dX6_as_75 rfl ?_ rfl
      refine J.icmp_ne (tgt := 83) (q := 79) dX6_as_76 rfl rfl (fun c => absurd c55 c) (fun _ => ?_)
      refine J.iload_n (q := 80) dX6_as_79 rfl ?_ rfl
      refine J.goto (tgt := 88) dX6_as_80 rfl ?_
      refine J.ireturn dX6_as_88 rfl ?_
      have hun : undr (iv 62 (257 + 5 * iv 62 (297 + p) + 0)) x = true := by rw [← hU, c55]; exact undr_s x
      unfold an_as
      (try rw [hi_61]); (try rw [hi_62]); (try rw [hi_63]); (try rw [hi_65]); (try rw [hi_70]); (try rw [hi_74]); (try rw [hi_75]); (try rw [hi_76])
      repeat (first | rw [if_pos (by omega)] | rw [if_neg (by omega)])
      first
      | exact mpTF TF.rf
      | (rw [if_pos hun]; exact mpTF TF.rf)
      | (rw [if_neg hun]; exact mpTFb TF.rf)
      | exact mpTFb TF.rf
      | (exfalso; omega)
    · refine J.iload (q := 60) dX6_as_58 rfl ?_ rfl
      refine J.if_eq (tgt := 73) (q := 63) dX6_as_60 rfl rfl (fun c60 => ?_) (fun c60 => ?_)
      · have hun : ¬ undr (iv 62 (257 + 5 * iv 62 (297 + p) + 0)) x = true := by rw [← hU, c60, undr_0 (b := x) (by omega)]; decide
        refine J.iload (q := 75) dX6_as_73 rfl ?_ rfl
        refine J.iload_n (q := 76) dX6_as_75 rfl ?_ rfl
        refine J.icmp_ne (tgt := 83) (q := 79) dX6_as_76 rfl rfl (fun c76 => ?_) (fun c => absurd c (by omega))
        refine J.aload_n (q := 84) dX6_as_83 rfl ?_ rfl
        refine J.iconst (q := 85) dX6_as_84 ?_ rfl
        refine J.callV1i (ci := 6) (q := 88) dX6_as_85 mv_X6_no kL_X6_125 rfl (by decide) rfl ⟨by decide, by decide⟩ (Nat.le_of_ble_eq_true rfl) ⟨by decide, by decide⟩ rfl (c_X6_no (by omega)) ?_
        refine J.ireturn dX6_as_88 rfl ?_
        unfold an_as
        (try rw [hi_61]); (try rw [hi_62]); (try rw [hi_63]); (try rw [hi_65]); (try rw [hi_70]); (try rw [hi_74]); (try rw [hi_75]); (try rw [hi_76])
        repeat (first | rw [if_pos (by omega)] | rw [if_neg (by omega)])
        first
        | exact mpTF TF.rf
        | (rw [if_pos hun]; exact mpTF TF.rf)
        | (rw [if_neg hun]; exact mpTFb TF.rf)
        | exact mpTFb TF.rf
        | (exfalso; omega)
      · obtain ⟨u1, u2, u3⟩ := undr_abv hq hx c55 c60
        refine J.iload (q := 65) dX6_as_63 rfl ?_ rfl
        refine J.callS1i (q := 68) dX6_as_65 mv_X6_above kS_X6_above kL_X6_250 ⟨by decide, by decide⟩ (Nat.le_of_ble_eq_true rfl) ⟨by decide, by decide⟩ rfl (c_X6_above (by omega)) ?_
        refine J.istore (q := 70) dX6_as_68 (Nat.le_of_ble_eq_true rfl) ?_ rfl
        refine J.goto (tgt := 52) dX6_as_70 rfl ?_
        exact ih (abv q) (by omega) u3 (u1.trans hU)

set_option maxRecDepth 100000 in
set_option maxHeartbeats 4000000 in
theorem c_X6_as {l : Launch} {F : Nat × (Int → Int)} {iv : Mm} (hA : AI iv) {p x : Int} (hp : -2147483648 ≤ p ∧ p < 2147483648) (hx : -2147483648 ≤ x ∧ x < 2147483648) : Ctr l F 6 0 0 yX6_as cX6_as 5 (some FieldType.int) [r_ 61, i_ p, i_ x] S0 (iv) (MP iv (an_as (hi iv) p x)) := by
  refine Ctr.of false (fun h => by cases h) (by decide) rfl (Nat.le_of_ble_eq_true rfl) ?_
  have hI := hA.mi
  have hmm := hI.many
  have hkp := hA.kp
  have htp := hA.tp
  refine J.iload_n (q := 1) dX6_as_0 rfl ?_ rfl
  refine J.callS1i (q := 4) dX6_as_1 mv_X6_isSpot kS_X6_isSpot kL_X6_247 ⟨by decide, by decide⟩ (Nat.le_of_ble_eq_true rfl) ⟨by decide, by decide⟩ rfl (c_X6_isSpot (by omega)) ?_
  refine J.ifb_eq (tgt := 17) (q := 7) dX6_as_4 rfl rfl (fun c4 => ?_) (fun c4 => ?_)
  · refine J.aload_n (q := 18) dX6_as_17 rfl ?_ rfl
    refine J.iconst (q := 19) dX6_as_18 ?_ rfl
    refine J.callV1i (ci := 6) (q := 22) dX6_as_19 mv_X6_no kL_X6_125 rfl (by decide) rfl ⟨by decide, by decide⟩ (Nat.le_of_ble_eq_true rfl) ⟨by decide, by decide⟩ rfl (c_X6_no (by omega)) ?_
    refine J.ireturn dX6_as_22 rfl ?_
    unfold an_as
    (try rw [hi_61]); (try rw [hi_62]); (try rw [hi_63]); (try rw [hi_65]); (try rw [hi_70]); (try rw [hi_74]); (try rw [hi_75]); (try rw [hi_76])
    repeat (first | rw [if_pos (by omega)] | rw [if_neg (by omega)])
    first
    | exact mpTF TF.rf
    | exact mpTFb TF.rf
    | exact mpTF hTF
    | exact mpTFb hTF
    | (exfalso; omega)
  · refine J.iload_n (q := 8) dX6_as_7 rfl ?_ rfl
    refine J.iconst (q := 9) dX6_as_8 ?_ rfl
    refine J.bipush (q := 11) dX6_as_9 (by decide) ?_ rfl
    refine J.callS3i (q := 14) dX6_as_11 mv_X6_in1 kS_X6_in1 kL_X6_61 ⟨by decide, by decide⟩ (Nat.le_of_ble_eq_true rfl) ⟨by decide, by decide⟩ rfl (c_X6_in1 (by omega) (by omega) (by omega)) ?_
    refine J.ifb_ne (tgt := 23) (q := 17) dX6_as_14 rfl rfl (fun c14 => ?_) (fun c14 => ?_)
    · refine J.aload_n (q := 24) dX6_as_23 rfl ?_ rfl
      refine J.getR (ci := 6) (k0 := 0) (c1 := 62) (q := 27) dX6_as_24 kF_X6_9 rfl (by decide) (by decide) rfl (by decide) rfl ?_ rfl
      refine J.sipush (q := 30) dX6_as_27 (by decide) ?_ rfl
      refine J.iload_n (q := 31) dX6_as_30 rfl ?_ rfl
      refine J.iadd (q := 32) dX6_as_31 ?_ rfl
      refine J.iald (n := 307) (q := 33) dX6_as_32 rfl (by omega) ?_ rfl
      refine J.istore_n (q := 34) dX6_as_33 (Nat.le_of_ble_eq_true rfl) ?_ rfl
      refine J.iload_n (q := 35) dX6_as_34 rfl ?_ rfl
      have hsp := hI.spo p (by omega) (by omega)
      refine J.if_ge (tgt := 44) (q := 38) dX6_as_35 rfl rfl (fun c35 => ?_) (fun c35 => ?_)
      · have hsn := hI.sna (iv 62 (297 + p)) (by omega) (by omega)
        refine J.aload_n (q := 45) dX6_as_44 rfl ?_ rfl
        refine J.iload_n (q := 46) dX6_as_45 rfl ?_ rfl
        refine J.iconst (q := 47) dX6_as_46 ?_ rfl
        refine J.callV2i (ci := 6) (q := 50) dX6_as_47 mv_X6_get kL_X6_76 rfl (by decide) rfl ⟨by decide, by decide⟩ (Nat.le_of_ble_eq_true rfl) ⟨by decide, by decide⟩ rfl (c_X6_get (by omega)) ?_
        refine J.istore (q := 52) dX6_as_50 (Nat.le_of_ble_eq_true rfl) ?_ rfl
        exact as_loop hA (by omega) (by omega) (by omega) 4 _ (by have := rk_rng (iv 62 (257 + 5 * iv 62 (297 + p) + 0)); omega) (by omega) rfl
      · refine J.aload_n (q := 39) dX6_as_38 rfl ?_ rfl
        refine J.iconst (q := 40) dX6_as_39 ?_ rfl
        refine J.callV1i (ci := 6) (q := 43) dX6_as_40 mv_X6_no kL_X6_125 rfl (by decide) rfl ⟨by decide, by decide⟩ (Nat.le_of_ble_eq_true rfl) ⟨by decide, by decide⟩ rfl (c_X6_no (by omega)) ?_
        refine J.ireturn dX6_as_43 rfl ?_
        unfold an_as
        (try rw [hi_61]); (try rw [hi_62]); (try rw [hi_63]); (try rw [hi_65]); (try rw [hi_70]); (try rw [hi_74]); (try rw [hi_75]); (try rw [hi_76])
        repeat (first | rw [if_pos (by omega)] | rw [if_neg (by omega)])
        first
        | exact mpTF TF.rf
        | exact mpTFb TF.rf
        | exact mpTF hTF
        | exact mpTFb hTF
        | (exfalso; omega)
    · refine J.aload_n (q := 18) dX6_as_17 rfl ?_ rfl
      refine J.iconst (q := 19) dX6_as_18 ?_ rfl
      refine J.callV1i (ci := 6) (q := 22) dX6_as_19 mv_X6_no kL_X6_125 rfl (by decide) rfl ⟨by decide, by decide⟩ (Nat.le_of_ble_eq_true rfl) ⟨by decide, by decide⟩ rfl (c_X6_no (by omega)) ?_
      refine J.ireturn dX6_as_22 rfl ?_
      unfold an_as
      (try rw [hi_61]); (try rw [hi_62]); (try rw [hi_63]); (try rw [hi_65]); (try rw [hi_70]); (try rw [hi_74]); (try rw [hi_75]); (try rw [hi_76])
      repeat (first | rw [if_pos (by omega)] | rw [if_neg (by omega)])
      first
      | exact mpTF TF.rf
      | exact mpTFb TF.rf
      | exact mpTF hTF
      | exact mpTFb hTF
      | (exfalso; omega)

set_option maxRecDepth 100000 in
set_option maxHeartbeats 4000000 in
theorem c_X6_write {l : Launch} {F : Nat × (Int → Int)} {iv : Mm} (hA : AI iv) {z j v : Int} (hz : -2147483648 ≤ z ∧ z < 2147483648) (hj : -2147483648 ≤ j ∧ j < 2147483648) (hv : -2147483648 ≤ v ∧ v < 2147483648) : Ctr l F 6 0 0 yX6_write cX6_write 5 (some FieldType.int) [r_ 61, i_ z, i_ j, i_ v] S0 (iv) (MP iv (an_write (hi iv) z j v)) := by
  refine Ctr.of false (fun h => by cases h) (by decide) rfl (Nat.le_of_ble_eq_true rfl) ?_
  have hI := hA.mi
  have hmm := hI.many
  have hkp := hA.kp
  have htp := hA.tp
  refine J.aload_n (q := 1) dX6_write_0 rfl ?_ rfl
  refine J.iload_n (q := 2) dX6_write_1 rfl ?_ rfl
  refine J.callV1i (ci := 6) (q := 5) dX6_write_2 mv_X6_wrongSheet kL_X6_180 rfl (by decide) rfl ⟨by decide, by decide⟩ (Nat.le_of_ble_eq_true rfl) ⟨by decide, by decide⟩ rfl (c_X6_wrongSheet hA (by omega)) ?_
  refine J.istore (q := 7) dX6_write_5 (Nat.le_of_ble_eq_true rfl) ?_ rfl
  have hw : wrgS iv z = 5 ∨ wrgS iv z = -1 ∨ wrgS iv z = 0 := by unfold wrgS; split <;> (try split) <;> simp
  have hok : wrgS iv z < 0 → 0 ≤ z ∧ z ≤ 3 := by
    intro h
    unfold wrgS at h
    by_cases h1 : 0 ≤ z ∧ z ≤ 3
    · exact h1
    · rw [if_neg h1] at h; simp at h
  refine J.iload (q := 9) dX6_write_7 rfl ?_ rfl
  refine J.if_ge (tgt := 31) (q := 12) dX6_write_9 rfl rfl (fun c9 => ?_) (fun c9 => ?_)
  · refine J.iload (q := 33) dX6_write_31 rfl ?_ rfl
    refine J.if_lt (tgt := 43) (q := 36) dX6_write_33 rfl rfl (fun c33 => ?_) (fun c33 => ?_)
    · refine J.aload_n (q := 44) dX6_write_43 rfl ?_ rfl
      refine J.getR (ci := 6) (k0 := 20) (c1 := 76) (q := 47) dX6_write_44 kF_X6_54 rfl (by decide) (by decide) rfl (by decide) rfl ?_ rfl
      refine J.bipush (q := 49) dX6_write_47 (by decide) ?_ rfl
      refine J.iload_n (q := 50) dX6_write_49 rfl ?_ rfl
      refine J.imul (q := 51) dX6_write_50 ?_ rfl
      refine J.iload_n (q := 52) dX6_write_51 rfl ?_ rfl
      refine J.iadd (q := 53) dX6_write_52 ?_ rfl
      refine J.aload_n (q := 54) dX6_write_53 rfl ?_ rfl
      refine J.getR (ci := 6) (k0 := 18) (c1 := 74) (q := 57) dX6_write_54 kF_X6_48 rfl (by decide) (by decide) rfl (by decide) rfl ?_ rfl
      refine J.iload_n (q := 58) dX6_write_57 rfl ?_ rfl
      refine J.iald (n := 4) (q := 59) dX6_write_58 rfl (by omega) ?_ rfl
      refine J.bipush (q := 61) dX6_write_59 (by decide) ?_ rfl
      refine J.icmp_ne (tgt := 69) (q := 64) dX6_write_61 rfl rfl (fun c61 => ?_) (fun c61 => ?_)
      · refine J.aload_n (q := 70) dX6_write_69 rfl ?_ rfl
        refine J.getR (ci := 6) (k0 := 18) (c1 := 74) (q := 73) dX6_write_70 kF_X6_48 rfl (by decide) (by decide) rfl (by decide) rfl ?_ rfl
        refine J.iload_n (q := 74) dX6_write_73 rfl ?_ rfl
        refine J.iald (n := 4) (q := 75) dX6_write_74 rfl (by omega) ?_ rfl
        refine J.bipush (q := 77) dX6_write_75 (by decide) ?_ rfl
        refine J.icmp_ne (tgt := 85) (q := 80) dX6_write_77 rfl rfl (fun c77 => ?_) (fun c77 => ?_)
        · have hcw : cutW (iv 74 z) v = v := by unfold cutW; rw [if_neg c61, if_neg c77]
          refine J.iload_n (q := 86) dX6_write_85 rfl ?_ rfl
          refine J.iast (n := 160) (q := 87) dX6_write_86 rfl (by omega) ?_ rfl
          refine J.iconst (q := 88) dX6_write_87 ?_ rfl
          refine J.ireturn dX6_write_88 rfl ?_
          unfold an_write
          rw [show wrgS (hi iv) z = wrgS iv z from rfl]
          (try rw [hi_61]); (try rw [hi_62]); (try rw [hi_63]); (try rw [hi_65]); (try rw [hi_70]); (try rw [hi_74]); (try rw [hi_75]); (try rw [hi_76])
          repeat (first | rw [if_pos (by omega)] | rw [if_neg (by omega)])
          first
          | exact mpTFb TF.rf
          | (rw [hcw]; exact ⟨rfl, rfl, fun q hq => up_n _ _ _ (by omega), rfl, rfl, rfl, rfl, rfl, rfl, rfl, rfl, rfl⟩)
          | (exfalso; omega)
        · refine J.iload_n (q := 81) dX6_write_80 rfl ?_ rfl
          have hcw : cutW (iv 74 z) v = v.bmod 65536 := by unfold cutW; rw [if_neg c61, if_pos c77]
          refine J.i2s (q := 82) (z := (v.bmod 65536)) dX6_write_81 (I3_i2s hv) ?_ rfl
          refine J.goto (tgt := 86) dX6_write_82 rfl ?_
          refine J.iast (n := 160) (q := 87) dX6_write_86 rfl (by omega) ?_ rfl
          refine J.iconst (q := 88) dX6_write_87 ?_ rfl
          refine J.ireturn dX6_write_88 rfl ?_
          unfold an_write
          rw [show wrgS (hi iv) z = wrgS iv z from rfl]
          (try rw [hi_61]); (try rw [hi_62]); (try rw [hi_63]); (try rw [hi_65]); (try rw [hi_70]); (try rw [hi_74]); (try rw [hi_75]); (try rw [hi_76])
          repeat (first | rw [if_pos (by omega)] | rw [if_neg (by omega)])
          first
          | exact mpTFb TF.rf
          | (rw [hcw]; exact ⟨rfl, rfl, fun q hq => up_n _ _ _ (by omega), rfl, rfl, rfl, rfl, rfl, rfl, rfl, rfl, rfl⟩)
          | (exfalso; omega)
      · refine J.iload_n (q := 65) dX6_write_64 rfl ?_ rfl
        have hcw : cutW (iv 74 z) v = v.bmod 256 := if_pos c61
        refine J.i2b (q := 66) (z := (v.bmod 256)) dX6_write_65 (I3_i2b hv) ?_ rfl
        refine J.goto (tgt := 86) dX6_write_66 rfl ?_
        refine J.iast (n := 160) (q := 87) dX6_write_86 rfl (by omega) ?_ rfl
        refine J.iconst (q := 88) dX6_write_87 ?_ rfl
        refine J.ireturn dX6_write_88 rfl ?_
        unfold an_write
        rw [show wrgS (hi iv) z = wrgS iv z from rfl]
        (try rw [hi_61]); (try rw [hi_62]); (try rw [hi_63]); (try rw [hi_65]); (try rw [hi_70]); (try rw [hi_74]); (try rw [hi_75]); (try rw [hi_76])
        repeat (first | rw [if_pos (by omega)] | rw [if_neg (by omega)])
        first
        | exact mpTFb TF.rf
        | (rw [hcw]; exact ⟨rfl, rfl, fun q hq => up_n _ _ _ (by omega), rfl, rfl, rfl, rfl, rfl, rfl, rfl, rfl, rfl⟩)
        | (exfalso; omega)
    · refine J.aload_n (q := 37) dX6_write_36 rfl ?_ rfl
      refine J.iload (q := 39) dX6_write_37 rfl ?_ rfl
      refine J.callV1i (ci := 6) (q := 42) dX6_write_39 mv_X6_no kL_X6_125 rfl (by decide) rfl ⟨by decide, by decide⟩ (Nat.le_of_ble_eq_true rfl) ⟨by decide, by decide⟩ rfl (c_X6_no (by omega)) ?_
      refine J.ireturn dX6_write_42 rfl ?_
      unfold an_write
      rw [show wrgS (hi iv) z = wrgS iv z from rfl]
      (try rw [hi_61]); (try rw [hi_62]); (try rw [hi_63]); (try rw [hi_65]); (try rw [hi_70]); (try rw [hi_74]); (try rw [hi_75]); (try rw [hi_76])
      repeat (first | rw [if_pos (by omega)] | rw [if_neg (by omega)])
      first
      | exact mpTFb TF.rf
      | (rw [hcw]; exact ⟨rfl, rfl, fun q hq => up_n _ _ _ (by omega), rfl, rfl, rfl, rfl, rfl, rfl, rfl, rfl, rfl⟩)
      | (exfalso; omega)
  · have hz9 := hok (by omega)
    have hsh := hA.sh z hz9.1 hz9.2
    refine J.iload_n (q := 13) dX6_write_12 rfl ?_ rfl
    refine J.iconst (q := 14) dX6_write_13 ?_ rfl
    refine J.aload_n (q := 15) dX6_write_14 rfl ?_ rfl
    refine J.getR (ci := 6) (k0 := 19) (c1 := 75) (q := 18) dX6_write_15 kF_X6_51 rfl (by decide) (by decide) rfl (by decide) rfl ?_ rfl
    refine J.iload_n (q := 19) dX6_write_18 rfl ?_ rfl
    refine J.iald (n := 4) (q := 20) dX6_write_19 rfl (by omega) ?_ rfl
    refine J.iconst (q := 21) dX6_write_20 ?_ rfl
    refine J.isub (q := 22) dX6_write_21 ?_ rfl
    refine J.callS3i (q := 25) dX6_write_22 mv_X6_in1 kS_X6_in1 kL_X6_61 ⟨by decide, by decide⟩ (Nat.le_of_ble_eq_true rfl) ⟨by decide, by decide⟩ rfl (c_X6_in1 (by omega) (by omega) (by omega)) ?_
    refine J.ifb_ne (tgt := 31) (q := 28) dX6_write_25 rfl rfl (fun c25 => ?_) (fun c25 => ?_)
    · refine J.iload (q := 33) dX6_write_31 rfl ?_ rfl
      refine J.if_lt (tgt := 43) (q := 36) dX6_write_33 rfl rfl (fun c33 => ?_) (fun c33 => ?_)
      · refine J.aload_n (q := 44) dX6_write_43 rfl ?_ rfl
        refine J.getR (ci := 6) (k0 := 20) (c1 := 76) (q := 47) dX6_write_44 kF_X6_54 rfl (by decide) (by decide) rfl (by decide) rfl ?_ rfl
        refine J.bipush (q := 49) dX6_write_47 (by decide) ?_ rfl
        refine J.iload_n (q := 50) dX6_write_49 rfl ?_ rfl
        refine J.imul (q := 51) dX6_write_50 ?_ rfl
        refine J.iload_n (q := 52) dX6_write_51 rfl ?_ rfl
        refine J.iadd (q := 53) dX6_write_52 ?_ rfl
        refine J.aload_n (q := 54) dX6_write_53 rfl ?_ rfl
        refine J.getR (ci := 6) (k0 := 18) (c1 := 74) (q := 57) dX6_write_54 kF_X6_48 rfl (by decide) (by decide) rfl (by decide) rfl ?_ rfl
        refine J.iload_n (q := 58) dX6_write_57 rfl ?_ rfl
        refine J.iald (n := 4) (q := 59) dX6_write_58 rfl (by omega) ?_ rfl
        refine J.bipush (q := 61) dX6_write_59 (by decide) ?_ rfl
        refine J.icmp_ne (tgt := 69) (q := 64) dX6_write_61 rfl rfl (fun c61 => ?_) (fun c61 => ?_)
        · refine J.aload_n (q := 70) dX6_write_69 rfl ?_ rfl
          refine J.getR (ci := 6) (k0 := 18) (c1 := 74) (q := 73) dX6_write_70 kF_X6_48 rfl (by decide) (by decide) rfl (by decide) rfl ?_ rfl
          refine J.iload_n (q := 74) dX6_write_73 rfl ?_ rfl
          refine J.iald (n := 4) (q := 75) dX6_write_74 rfl (by omega) ?_ rfl
          refine J.bipush (q := 77) dX6_write_75 (by decide) ?_ rfl
          refine J.icmp_ne (tgt := 85) (q := 80) dX6_write_77 rfl rfl (fun c77 => ?_) (fun c77 => ?_)
          · have hcw : cutW (iv 74 z) v = v := by unfold cutW; rw [if_neg c61, if_neg c77]
            refine J.iload_n (q := 86) dX6_write_85 rfl ?_ rfl
            refine J.iast (n := 160) (q := 87) dX6_write_86 rfl (by omega) ?_ rfl
            refine J.iconst (q := 88) dX6_write_87 ?_ rfl
            refine J.ireturn dX6_write_88 rfl ?_
            unfold an_write
            rw [show wrgS (hi iv) z = wrgS iv z from rfl]
            (try rw [hi_61]); (try rw [hi_62]); (try rw [hi_63]); (try rw [hi_65]); (try rw [hi_70]); (try rw [hi_74]); (try rw [hi_75]); (try rw [hi_76])
            repeat (first | rw [if_pos (by omega)] | rw [if_neg (by omega)])
            first
            | exact mpTFb TF.rf
            | (rw [hcw]; exact ⟨rfl, rfl, fun q hq => up_n _ _ _ (by omega), rfl, rfl, rfl, rfl, rfl, rfl, rfl, rfl, rfl⟩)
            | (exfalso; omega)
          · refine J.iload_n (q := 81) dX6_write_80 rfl ?_ rfl
            have hcw : cutW (iv 74 z) v = v.bmod 65536 := by unfold cutW; rw [if_neg c61, if_pos c77]
            refine J.i2s (q := 82) (z := (v.bmod 65536)) dX6_write_81 (I3_i2s hv) ?_ rfl
            refine J.goto (tgt := 86) dX6_write_82 rfl ?_
            refine J.iast (n := 160) (q := 87) dX6_write_86 rfl (by omega) ?_ rfl
            refine J.iconst (q := 88) dX6_write_87 ?_ rfl
            refine J.ireturn dX6_write_88 rfl ?_
            unfold an_write
            rw [show wrgS (hi iv) z = wrgS iv z from rfl]
            (try rw [hi_61]); (try rw [hi_62]); (try rw [hi_63]); (try rw [hi_65]); (try rw [hi_70]); (try rw [hi_74]); (try rw [hi_75]); (try rw [hi_76])
            repeat (first | rw [if_pos (by omega)] | rw [if_neg (by omega)])
            first
            | exact mpTFb TF.rf
            | (rw [hcw]; exact ⟨rfl, rfl, fun q hq => up_n _ _ _ (by omega), rfl, rfl, rfl, rfl, rfl, rfl, rfl, rfl, rfl⟩)
            | (exfalso; omega)
        · refine J.iload_n (q := 65) dX6_write_64 rfl ?_ rfl
          have hcw : cutW (iv 74 z) v = v.bmod 256 := if_pos c61
          refine J.i2b (q := 66) (z := (v.bmod 256)) dX6_write_65 (I3_i2b hv) ?_ rfl
          refine J.goto (tgt := 86) dX6_write_66 rfl ?_
          refine J.iast (n := 160) (q := 87) dX6_write_86 rfl (by omega) ?_ rfl
          refine J.iconst (q := 88) dX6_write_87 ?_ rfl
          refine J.ireturn dX6_write_88 rfl ?_
          unfold an_write
          rw [show wrgS (hi iv) z = wrgS iv z from rfl]
          (try rw [hi_61]); (try rw [hi_62]); (try rw [hi_63]); (try rw [hi_65]); (try rw [hi_70]); (try rw [hi_74]); (try rw [hi_75]); (try rw [hi_76])
          repeat (first | rw [if_pos (by omega)] | rw [if_neg (by omega)])
          first
          | exact mpTFb TF.rf
          | (rw [hcw]; exact ⟨rfl, rfl, fun q hq => up_n _ _ _ (by omega), rfl, rfl, rfl, rfl, rfl, rfl, rfl, rfl, rfl⟩)
          | (exfalso; omega)
      · refine J.aload_n (q := 37) dX6_write_36 rfl ?_ rfl
        refine J.iload (q := 39) dX6_write_37 rfl ?_ rfl
        refine J.callV1i (ci := 6) (q := 42) dX6_write_39 mv_X6_no kL_X6_125 rfl (by decide) rfl ⟨by decide, by decide⟩ (Nat.le_of_ble_eq_true rfl) ⟨by decide, by decide⟩ rfl (c_X6_no (by omega)) ?_
        refine J.ireturn dX6_write_42 rfl ?_
        unfold an_write
        rw [show wrgS (hi iv) z = wrgS iv z from rfl]
        (try rw [hi_61]); (try rw [hi_62]); (try rw [hi_63]); (try rw [hi_65]); (try rw [hi_70]); (try rw [hi_74]); (try rw [hi_75]); (try rw [hi_76])
        repeat (first | rw [if_pos (by omega)] | rw [if_neg (by omega)])
        first
        | exact mpTFb TF.rf
        | (rw [hcw]; exact ⟨rfl, rfl, fun q hq => up_n _ _ _ (by omega), rfl, rfl, rfl, rfl, rfl, rfl, rfl, rfl, rfl⟩)
        | (exfalso; omega)
    · refine J.iconst (q := 29) dX6_write_28 ?_ rfl
      refine J.istore (q := 31) dX6_write_29 (Nat.le_of_ble_eq_true rfl) ?_ rfl
      refine J.iload (q := 33) dX6_write_31 rfl ?_ rfl
      refine J.if_lt (tgt := 43) (q := 36) dX6_write_33 rfl rfl (fun c33 => ?_) (fun c33 => ?_)
      · refine J.aload_n (q := 44) dX6_write_43 rfl ?_ rfl
        refine J.getR (ci := 6) (k0 := 20) (c1 := 76) (q := 47) dX6_write_44 kF_X6_54 rfl (by decide) (by decide) rfl (by decide) rfl ?_ rfl
        refine J.bipush (q := 49) dX6_write_47 (by decide) ?_ rfl
        refine J.iload_n (q := 50) dX6_write_49 rfl ?_ rfl
        refine J.imul (q := 51) dX6_write_50 ?_ rfl
        refine J.iload_n (q := 52) dX6_write_51 rfl ?_ rfl
        refine J.iadd (q := 53) dX6_write_52 ?_ rfl
        refine J.aload_n (q := 54) dX6_write_53 rfl ?_ rfl
        refine J.getR (ci := 6) (k0 := 18) (c1 := 74) (q := 57) dX6_write_54 kF_X6_48 rfl (by decide) (by decide) rfl (by decide) rfl ?_ rfl
        refine J.iload_n (q := 58) dX6_write_57 rfl ?_ rfl
        refine J.iald (n := 4) (q := 59) dX6_write_58 rfl (by omega) ?_ rfl
        refine J.bipush (q := 61) dX6_write_59 (by decide) ?_ rfl
        refine J.icmp_ne (tgt := 69) (q := 64) dX6_write_61 rfl rfl (fun c61 => ?_) (fun c61 => ?_)
        · refine J.aload_n (q := 70) dX6_write_69 rfl ?_ rfl
          refine J.getR (ci := 6) (k0 := 18) (c1 := 74) (q := 73) dX6_write_70 kF_X6_48 rfl (by decide) (by decide) rfl (by decide) rfl ?_ rfl
          refine J.iload_n (q := 74) dX6_write_73 rfl ?_ rfl
          refine J.iald (n := 4) (q := 75) dX6_write_74 rfl (by omega) ?_ rfl
          refine J.bipush (q := 77) dX6_write_75 (by decide) ?_ rfl
          refine J.icmp_ne (tgt := 85) (q := 80) dX6_write_77 rfl rfl (fun c77 => ?_) (fun c77 => ?_)
          · have hcw : cutW (iv 74 z) v = v := by unfold cutW; rw [if_neg c61, if_neg c77]
            refine J.iload_n (q := 86) dX6_write_85 rfl ?_ rfl
            refine J.iast (n := 160) (q := 87) dX6_write_86 rfl (by omega) ?_ rfl
            refine J.iconst (q := 88) dX6_write_87 ?_ rfl
            refine J.ireturn dX6_write_88 rfl ?_
            unfold an_write
            rw [show wrgS (hi iv) z = wrgS iv z from rfl]
            (try rw [hi_61]); (try rw [hi_62]); (try rw [hi_63]); (try rw [hi_65]); (try rw [hi_70]); (try rw [hi_74]); (try rw [hi_75]); (try rw [hi_76])
            repeat (first | rw [if_pos (by omega)] | rw [if_neg (by omega)])
            first
            | exact mpTFb TF.rf
            | (rw [hcw]; exact ⟨rfl, rfl, fun q hq => up_n _ _ _ (by omega), rfl, rfl, rfl, rfl, rfl, rfl, rfl, rfl, rfl⟩)
            | (exfalso; omega)
          · refine J.iload_n (q := 81) dX6_write_80 rfl ?_ rfl
            have hcw : cutW (iv 74 z) v = v.bmod 65536 := by unfold cutW; rw [if_neg c61, if_pos c77]
            refine J.i2s (q := 82) (z := (v.bmod 65536)) dX6_write_81 (I3_i2s hv) ?_ rfl
            refine J.goto (tgt := 86) dX6_write_82 rfl ?_
            refine J.iast (n := 160) (q := 87) dX6_write_86 rfl (by omega) ?_ rfl
            refine J.iconst (q := 88) dX6_write_87 ?_ rfl
            refine J.ireturn dX6_write_88 rfl ?_
            unfold an_write
            rw [show wrgS (hi iv) z = wrgS iv z from rfl]
            (try rw [hi_61]); (try rw [hi_62]); (try rw [hi_63]); (try rw [hi_65]); (try rw [hi_70]); (try rw [hi_74]); (try rw [hi_75]); (try rw [hi_76])
            repeat (first | rw [if_pos (by omega)] | rw [if_neg (by omega)])
            first
            | exact mpTFb TF.rf
            | (rw [hcw]; exact ⟨rfl, rfl, fun q hq => up_n _ _ _ (by omega), rfl, rfl, rfl, rfl, rfl, rfl, rfl, rfl, rfl⟩)
            | (exfalso; omega)
        · refine J.iload_n (q := 65) dX6_write_64 rfl ?_ rfl
          have hcw : cutW (iv 74 z) v = v.bmod 256 := if_pos c61
          refine J.i2b (q := 66) (z := (v.bmod 256)) dX6_write_65 (I3_i2b hv) ?_ rfl
          refine J.goto (tgt := 86) dX6_write_66 rfl ?_
          refine J.iast (n := 160) (q := 87) dX6_write_86 rfl (by omega) ?_ rfl
          refine J.iconst (q := 88) dX6_write_87 ?_ rfl
          refine J.ireturn dX6_write_88 rfl ?_
          unfold an_write
          rw [show wrgS (hi iv) z = wrgS iv z from rfl]
          (try rw [hi_61]); (try rw [hi_62]); (try rw [hi_63]); (try rw [hi_65]); (try rw [hi_70]); (try rw [hi_74]); (try rw [hi_75]); (try rw [hi_76])
          repeat (first | rw [if_pos (by omega)] | rw [if_neg (by omega)])
          first
          | exact mpTFb TF.rf
          | (rw [hcw]; exact ⟨rfl, rfl, fun q hq => up_n _ _ _ (by omega), rfl, rfl, rfl, rfl, rfl, rfl, rfl, rfl, rfl⟩)
          | (exfalso; omega)
      · refine J.aload_n (q := 37) dX6_write_36 rfl ?_ rfl
        refine J.iload (q := 39) dX6_write_37 rfl ?_ rfl
        refine J.callV1i (ci := 6) (q := 42) dX6_write_39 mv_X6_no kL_X6_125 rfl (by decide) rfl ⟨by decide, by decide⟩ (Nat.le_of_ble_eq_true rfl) ⟨by decide, by decide⟩ rfl (c_X6_no (by omega)) ?_
        refine J.ireturn dX6_write_42 rfl ?_
        unfold an_write
        rw [show wrgS (hi iv) z = wrgS iv z from rfl]
        (try rw [hi_61]); (try rw [hi_62]); (try rw [hi_63]); (try rw [hi_65]); (try rw [hi_70]); (try rw [hi_74]); (try rw [hi_75]); (try rw [hi_76])
        repeat (first | rw [if_pos (by omega)] | rw [if_neg (by omega)])
        first
        | exact mpTFb TF.rf
        | (rw [hcw]; exact ⟨rfl, rfl, fun q hq => up_n _ _ _ (by omega), rfl, rfl, rfl, rfl, rfl, rfl, rfl, rfl, rfl⟩)
        | (exfalso; omega)

