/-! the reference: sheets (printed by wip/whole/m_model13.py) -/
theorem mpMk {iv iv2 O : Mm} {x y : Int} (hxy : x = y) (h0 : ∀ q, (q ≤ 60 ∨ (71 ≤ q ∧ q ≤ 73)) → iv2 q = iv q) (h : Like iv2 O) : MP iv (y, O) (some (i_ x)) S0 iv2 := by subst hxy; exact ⟨rfl, rfl, h0, h⟩
set_option maxRecDepth 100000 in
set_option maxHeartbeats 4000000 in
theorem sheet_loop {l : Launch} {F : Nat × (Int → Int)} {iv : Mm} (hA : AI iv) {z w y m : Int} (hz : 0 ≤ z ∧ z ≤ 3) (hw : w = 0 ∨ w = 8 ∨ w = 16 ∨ w = 32) (hy : 0 ≤ y ∧ y ≤ 40) (hm : m = if w = 0 then 0 else y) : ∀ (n : Nat) (c : Int) (iv1 : Mm), (40 - c < n) → (0 ≤ c ∧ c ≤ 40) → ((∀ q, q ≠ 74 → q ≠ 75 → q ≠ 76 → iv1 q = iv q) ∧ iv1 74 = upr (iv 74) z w ∧ iv1 75 = upr (iv 75) z m ∧ ∀ j, iv1 76 j = if 40 * z ≤ j ∧ j < 40 * z + c then 0 else iv 76 j) → J l (yX6_sheet).cls cX6_sheet 5 (some FieldType.int) 6 0 0 false F (MP iv (an_sheet (hi iv) z w y)) 0 0 83 [some (r_ 61), some (i_ z), some (i_ w), some (i_ y), some (i_ c)] [] S0 (iv1) := by
  intro n
  induction n with
  | zero =>
    intro c iv1 hn hc hL
    omega
  | succ n ih =>
    intro c iv1 hn hc hL
    refine J.iload (q := 85) dX6_sheet_83 rfl ?_ rfl
    refine J.bipush (q := 87) dX6_sheet_85 (by decide) ?_ rfl
    refine J.icmp_ge (tgt := 109) (q := 90) dX6_sheet_87 rfl rfl (fun c87 => ?_) (fun c87 => ?_)
    · refine J.aload_n (q := 110) dX6_sheet_109 rfl ?_ rfl
      refine J.getR (ci := 6) (k0 := 19) (c1 := 75) (q := 113) dX6_sheet_110 kF_X6_51 rfl (by decide) (by decide) rfl (by decide) rfl ?_ rfl
      refine J.iload_n (q := 114) dX6_sheet_113 rfl ?_ rfl
      refine J.iald (n := 4) (q := 115) dX6_sheet_114 rfl (by omega) ?_ rfl
      refine J.ireturn dX6_sheet_115 rfl ?_
      have hc9 : c = 40 := by omega
      subst hc9
      unfold an_sheet
      rw [if_pos (by omega), if_neg (by omega), if_neg (by omega)]
      refine mpMk (by rw [hL.2.2.1, upr_s]; exact hm) (fun q hq => hL.1 q (by omega) (by omega) (by omega)) ⟨hL.1 62 (by decide) (by decide) (by decide), hL.1 63 (by decide) (by decide) (by decide), hL.1 65 (by decide) (by decide) (by decide), hL.1 70 (by decide) (by decide) (by decide), hL.2.1, hL.2.2.1.trans (by rw [hm]; rfl), funext hL.2.2.2, by rw [hL.1 61 (by decide) (by decide) (by decide)]; rfl, by rw [hL.1 61 (by decide) (by decide) (by decide)]; rfl⟩
    · refine J.aload_n (q := 91) dX6_sheet_90 rfl ?_ rfl
      refine J.getR (ci := 6) (k0 := 20) (c1 := 76) (q := 94) dX6_sheet_91 kF_X6_54 rfl (by decide) (by decide) rfl (by decide) rfl ?_ rfl
      refine J.bipush (q := 96) dX6_sheet_94 (by decide) ?_ rfl
      refine J.iload_n (q := 97) dX6_sheet_96 rfl ?_ rfl
      refine J.imul (q := 98) dX6_sheet_97 ?_ rfl
      refine J.iload (q := 100) dX6_sheet_98 rfl ?_ rfl
      refine J.iadd (q := 101) dX6_sheet_100 ?_ rfl
      refine J.iconst (q := 102) dX6_sheet_101 ?_ rfl
      refine J.iast (n := 160) (q := 103) dX6_sheet_102 rfl (by omega) ?_ rfl
      refine J.iinc (q := 106) dX6_sheet_103 rfl ?_ rfl
      refine J.goto (tgt := 83) dX6_sheet_106 rfl ?_
      refine ih (c + 1) _ (by omega) (by omega) ⟨fun q h1 h2 h3 => (up_n _ _ _ h3).trans (hL.1 q h1 h2 h3), (up_n _ _ _ (by decide)).trans hL.2.1, (up_n _ _ _ (by decide)).trans hL.2.2.1, fun j => ?_⟩
      rw [up_s]
      by_cases h : j = 40 * z + c
      · subst h; rw [upr_s, if_pos (by omega)]
      · rw [upr_n _ _ h, hL.2.2.2 j]
        by_cases h9 : 40 * z ≤ j ∧ j < 40 * z + c
        · rw [if_pos h9, if_pos (by omega)]
        · rw [if_neg h9, if_neg (by omega)]

set_option maxRecDepth 100000 in
set_option maxHeartbeats 4000000 in
theorem c_X6_sheet {l : Launch} {F : Nat × (Int → Int)} {iv : Mm} (hA : AI iv) {z w y : Int} (hz : -2147483648 ≤ z ∧ z < 2147483648) (hw : -2147483648 ≤ w ∧ w < 2147483648) (hy : -2147483648 ≤ y ∧ y < 2147483648) : Ctr l F 6 0 0 yX6_sheet cX6_sheet 5 (some FieldType.int) [r_ 61, i_ z, i_ w, i_ y] S0 (iv) (MP iv (an_sheet (hi iv) z w y)) := by
  refine Ctr.of false (fun h => by cases h) (by decide) rfl (Nat.le_of_ble_eq_true rfl) ?_
  have hI := hA.mi
  have hmm := hI.many
  have hkp := hA.kp
  have htp := hA.tp
  refine J.iload_n (q := 1) dX6_sheet_0 rfl ?_ rfl
  refine J.callS1i (q := 4) dX6_sheet_1 mv_X6_isSheet kS_X6_isSheet kL_X6_177 ⟨by decide, by decide⟩ (Nat.le_of_ble_eq_true rfl) ⟨by decide, by decide⟩ rfl (c_X6_isSheet (by omega)) ?_
  refine J.ifb_eq (tgt := 29) (q := 7) dX6_sheet_4 rfl rfl (fun c4 => ?_) (fun c4 => ?_)
  · refine J.aload_n (q := 30) dX6_sheet_29 rfl ?_ rfl
    refine J.iconst (q := 31) dX6_sheet_30 ?_ rfl
    refine J.callV1i (ci := 6) (q := 34) dX6_sheet_31 mv_X6_no kL_X6_125 rfl (by decide) rfl ⟨by decide, by decide⟩ (Nat.le_of_ble_eq_true rfl) ⟨by decide, by decide⟩ rfl (c_X6_no (by omega)) ?_
    refine J.ireturn dX6_sheet_34 rfl ?_
    unfold an_sheet
    (try rw [hi_61]); (try rw [hi_62]); (try rw [hi_63]); (try rw [hi_65]); (try rw [hi_70]); (try rw [hi_74]); (try rw [hi_75]); (try rw [hi_76])
    repeat (first | rw [if_pos (by omega)] | rw [if_neg (by omega)])
    first
    | exact mpTF TF.rf
    | exact mpTFb TF.rf
    | exact mpTF hTF
    | exact mpTFb hTF
    | (exfalso; omega)
  · refine J.iload_n (q := 8) dX6_sheet_7 rfl ?_ rfl
    refine J.if_eq (tgt := 35) (q := 11) dX6_sheet_8 rfl rfl (fun c8 => ?_) (fun c8 => ?_)
    · refine J.iload_n (q := 36) dX6_sheet_35 rfl ?_ rfl
      refine J.if_ge (tgt := 46) (q := 39) dX6_sheet_36 rfl rfl (fun c36 => ?_) (fun c36 => ?_)
      · refine J.iload_n (q := 47) dX6_sheet_46 rfl ?_ rfl
        refine J.bipush (q := 49) dX6_sheet_47 (by decide) ?_ rfl
        refine J.icmp_le (tgt := 58) (q := 52) dX6_sheet_49 rfl rfl (fun c49 => ?_) (fun c49 => ?_)
        · refine J.aload_n (q := 59) dX6_sheet_58 rfl ?_ rfl
          refine J.getR (ci := 6) (k0 := 18) (c1 := 74) (q := 62) dX6_sheet_59 kF_X6_48 rfl (by decide) (by decide) rfl (by decide) rfl ?_ rfl
          refine J.iload_n (q := 63) dX6_sheet_62 rfl ?_ rfl
          refine J.iload_n (q := 64) dX6_sheet_63 rfl ?_ rfl
          refine J.iast (n := 4) (q := 65) dX6_sheet_64 rfl (by omega) ?_ rfl
          refine J.aload_n (q := 66) dX6_sheet_65 rfl ?_ rfl
          refine J.getR (ci := 6) (k0 := 19) (c1 := 75) (q := 69) dX6_sheet_66 kF_X6_51 rfl (by decide) (by decide) rfl (by decide) rfl ?_ rfl
          refine J.iload_n (q := 70) dX6_sheet_69 rfl ?_ rfl
          refine J.iload_n (q := 71) dX6_sheet_70 rfl ?_ rfl
          obtain ⟨m, hm⟩ : ∃ m : Int, m = if w = 0 then 0 else y := ⟨_, rfl⟩
          refine J.if_ne (tgt := 78) (q := 74) dX6_sheet_71 rfl rfl (fun c71 => ?_) (fun c71 => ?_)
          · have hmv : m = y := by rw [hm, if_neg c71]
            refine J.iload_n (q := 79) dX6_sheet_78 rfl ?_ rfl
            refine J.iast (n := 4) (q := 80) dX6_sheet_79 rfl (by omega) ?_ rfl
            refine J.iconst (q := 81) dX6_sheet_80 ?_ rfl
            refine J.istore (q := 83) dX6_sheet_81 (Nat.le_of_ble_eq_true rfl) ?_ rfl
            exact sheet_loop (m := m) hA (by omega) (by omega) (by omega) hm 41 0 _ (by omega) (by omega) ⟨fun q h1 h2 h3 => (up_n _ _ _ h2).trans (up_n _ _ _ h1), (up_n _ _ _ (by decide)).trans (up_s _ _ _ _), (up_s _ _ _ _).trans (by rw [up_n _ _ _ (by decide), hmv]), fun j => by rw [if_neg (by omega), up_n _ _ _ (by decide), up_n _ _ _ (by decide)]⟩
          · have hmv : m = 0 := by rw [hm, if_pos c71]
            refine J.iconst (q := 75) dX6_sheet_74 ?_ rfl
            refine J.goto (tgt := 79) dX6_sheet_75 rfl ?_
            refine J.iast (n := 4) (q := 80) dX6_sheet_79 rfl (by omega) ?_ rfl
            refine J.iconst (q := 81) dX6_sheet_80 ?_ rfl
            refine J.istore (q := 83) dX6_sheet_81 (Nat.le_of_ble_eq_true rfl) ?_ rfl
            exact sheet_loop (m := m) hA (by omega) (by omega) (by omega) hm 41 0 _ (by omega) (by omega) ⟨fun q h1 h2 h3 => (up_n _ _ _ h2).trans (up_n _ _ _ h1), (up_n _ _ _ (by decide)).trans (up_s _ _ _ _), (up_s _ _ _ _).trans (by rw [up_n _ _ _ (by decide), hmv]), fun j => by rw [if_neg (by omega), up_n _ _ _ (by decide), up_n _ _ _ (by decide)]⟩
        · refine J.aload_n (q := 53) dX6_sheet_52 rfl ?_ rfl
          refine J.iconst (q := 54) dX6_sheet_53 ?_ rfl
          refine J.callV1i (ci := 6) (q := 57) dX6_sheet_54 mv_X6_no kL_X6_125 rfl (by decide) rfl ⟨by decide, by decide⟩ (Nat.le_of_ble_eq_true rfl) ⟨by decide, by decide⟩ rfl (c_X6_no (by omega)) ?_
          refine J.ireturn dX6_sheet_57 rfl ?_
          unfold an_sheet
          (try rw [hi_61]); (try rw [hi_62]); (try rw [hi_63]); (try rw [hi_65]); (try rw [hi_70]); (try rw [hi_74]); (try rw [hi_75]); (try rw [hi_76])
          repeat (first | rw [if_pos (by omega)] | rw [if_neg (by omega)])
          first
          | exact mpTF TF.rf
          | exact mpTFb TF.rf
          | exact mpTF hTF
          | exact mpTFb hTF
          | (exfalso; omega)
      · refine J.aload_n (q := 40) dX6_sheet_39 rfl ?_ rfl
        refine J.bipush (q := 42) dX6_sheet_40 (by decide) ?_ rfl
        refine J.callV1i (ci := 6) (q := 45) dX6_sheet_42 mv_X6_no kL_X6_125 rfl (by decide) rfl ⟨by decide, by decide⟩ (Nat.le_of_ble_eq_true rfl) ⟨by decide, by decide⟩ rfl (c_X6_no (by omega)) ?_
        refine J.ireturn dX6_sheet_45 rfl ?_
        unfold an_sheet
        (try rw [hi_61]); (try rw [hi_62]); (try rw [hi_63]); (try rw [hi_65]); (try rw [hi_70]); (try rw [hi_74]); (try rw [hi_75]); (try rw [hi_76])
        repeat (first | rw [if_pos (by omega)] | rw [if_neg (by omega)])
        first
        | exact mpTF TF.rf
        | exact mpTFb TF.rf
        | exact mpTF hTF
        | exact mpTFb hTF
        | (exfalso; omega)
    · refine J.iload_n (q := 12) dX6_sheet_11 rfl ?_ rfl
      refine J.bipush (q := 14) dX6_sheet_12 (by decide) ?_ rfl
      refine J.icmp_eq (tgt := 35) (q := 17) dX6_sheet_14 rfl rfl (fun c14 => ?_) (fun c14 => ?_)
      · refine J.iload_n (q := 36) dX6_sheet_35 rfl ?_ rfl
        refine J.if_ge (tgt := 46) (q := 39) dX6_sheet_36 rfl rfl (fun c36 => ?_) (fun c36 => ?_)
        · refine J.iload_n (q := 47) dX6_sheet_46 rfl ?_ rfl
          refine J.bipush (q := 49) dX6_sheet_47 (by decide) ?_ rfl
          refine J.icmp_le (tgt := 58) (q := 52) dX6_sheet_49 rfl rfl (fun c49 => ?_) (fun c49 => ?_)
          · refine J.aload_n (q := 59) dX6_sheet_58 rfl ?_ rfl
            refine J.getR (ci := 6) (k0 := 18) (c1 := 74) (q := 62) dX6_sheet_59 kF_X6_48 rfl (by decide) (by decide) rfl (by decide) rfl ?_ rfl
            refine J.iload_n (q := 63) dX6_sheet_62 rfl ?_ rfl
            refine J.iload_n (q := 64) dX6_sheet_63 rfl ?_ rfl
            refine J.iast (n := 4) (q := 65) dX6_sheet_64 rfl (by omega) ?_ rfl
            refine J.aload_n (q := 66) dX6_sheet_65 rfl ?_ rfl
            refine J.getR (ci := 6) (k0 := 19) (c1 := 75) (q := 69) dX6_sheet_66 kF_X6_51 rfl (by decide) (by decide) rfl (by decide) rfl ?_ rfl
            refine J.iload_n (q := 70) dX6_sheet_69 rfl ?_ rfl
            refine J.iload_n (q := 71) dX6_sheet_70 rfl ?_ rfl
            obtain ⟨m, hm⟩ : ∃ m : Int, m = if w = 0 then 0 else y := ⟨_, rfl⟩
            refine J.if_ne (tgt := 78) (q := 74) dX6_sheet_71 rfl rfl (fun c71 => ?_) (fun c71 => ?_)
            · have hmv : m = y := by rw [hm, if_neg c71]
              refine J.iload_n (q := 79) dX6_sheet_78 rfl ?_ rfl
              refine J.iast (n := 4) (q := 80) dX6_sheet_79 rfl (by omega) ?_ rfl
              refine J.iconst (q := 81) dX6_sheet_80 ?_ rfl
              refine J.istore (q := 83) dX6_sheet_81 (Nat.le_of_ble_eq_true rfl) ?_ rfl
              exact sheet_loop (m := m) hA (by omega) (by omega) (by omega) hm 41 0 _ (by omega) (by omega) ⟨fun q h1 h2 h3 => (up_n _ _ _ h2).trans (up_n _ _ _ h1), (up_n _ _ _ (by decide)).trans (up_s _ _ _ _), (up_s _ _ _ _).trans (by rw [up_n _ _ _ (by decide), hmv]), fun j => by rw [if_neg (by omega), up_n _ _ _ (by decide), up_n _ _ _ (by decide)]⟩
            · have hmv : m = 0 := by rw [hm, if_pos c71]
              refine J.iconst (q := 75) dX6_sheet_74 ?_ rfl
              refine J.goto (tgt := 79) dX6_sheet_75 rfl ?_
              refine J.iast (n := 4) (q := 80) dX6_sheet_79 rfl (by omega) ?_ rfl
              refine J.iconst (q := 81) dX6_sheet_80 ?_ rfl
              refine J.istore (q := 83) dX6_sheet_81 (Nat.le_of_ble_eq_true rfl) ?_ rfl
              exact sheet_loop (m := m) hA (by omega) (by omega) (by omega) hm 41 0 _ (by omega) (by omega) ⟨fun q h1 h2 h3 => (up_n _ _ _ h2).trans (up_n _ _ _ h1), (up_n _ _ _ (by decide)).trans (up_s _ _ _ _), (up_s _ _ _ _).trans (by rw [up_n _ _ _ (by decide), hmv]), fun j => by rw [if_neg (by omega), up_n _ _ _ (by decide), up_n _ _ _ (by decide)]⟩
          · refine J.aload_n (q := 53) dX6_sheet_52 rfl ?_ rfl
            refine J.iconst (q := 54) dX6_sheet_53 ?_ rfl
            refine J.callV1i (ci := 6) (q := 57) dX6_sheet_54 mv_X6_no kL_X6_125 rfl (by decide) rfl ⟨by decide, by decide⟩ (Nat.le_of_ble_eq_true rfl) ⟨by decide, by decide⟩ rfl (c_X6_no (by omega)) ?_
            refine J.ireturn dX6_sheet_57 rfl ?_
            unfold an_sheet
            (try rw [hi_61]); (try rw [hi_62]); (try rw [hi_63]); (try rw [hi_65]); (try rw [hi_70]); (try rw [hi_74]); (try rw [hi_75]); (try rw [hi_76])
            repeat (first | rw [if_pos (by omega)] | rw [if_neg (by omega)])
            first
            | exact mpTF TF.rf
            | exact mpTFb TF.rf
            | exact mpTF hTF
            | exact mpTFb hTF
            | (exfalso; omega)
        · refine J.aload_n (q := 40) dX6_sheet_39 rfl ?_ rfl
          refine J.bipush (q := 42) dX6_sheet_40 (by decide) ?_ rfl
          refine J.callV1i (ci := 6) (q := 45) dX6_sheet_42 mv_X6_no kL_X6_125 rfl (by decide) rfl ⟨by decide, by decide⟩ (Nat.le_of_ble_eq_true rfl) ⟨by decide, by decide⟩ rfl (c_X6_no (by omega)) ?_
          refine J.ireturn dX6_sheet_45 rfl ?_
          unfold an_sheet
          (try rw [hi_61]); (try rw [hi_62]); (try rw [hi_63]); (try rw [hi_65]); (try rw [hi_70]); (try rw [hi_74]); (try rw [hi_75]); (try rw [hi_76])
          repeat (first | rw [if_pos (by omega)] | rw [if_neg (by omega)])
          first
          | exact mpTF TF.rf
          | exact mpTFb TF.rf
          | exact mpTF hTF
          | exact mpTFb hTF
          | (exfalso; omega)
      · refine J.iload_n (q := 18) dX6_sheet_17 rfl ?_ rfl
        refine J.bipush (q := 20) dX6_sheet_18 (by decide) ?_ rfl
        refine J.icmp_eq (tgt := 35) (q := 23) dX6_sheet_20 rfl rfl (fun c20 => ?_) (fun c20 => ?_)
        · refine J.iload_n (q := 36) dX6_sheet_35 rfl ?_ rfl
          refine J.if_ge (tgt := 46) (q := 39) dX6_sheet_36 rfl rfl (fun c36 => ?_) (fun c36 => ?_)
          · refine J.iload_n (q := 47) dX6_sheet_46 rfl ?_ rfl
            refine J.bipush (q := 49) dX6_sheet_47 (by decide) ?_ rfl
            refine J.icmp_le (tgt := 58) (q := 52) dX6_sheet_49 rfl rfl (fun c49 => ?_) (fun c49 => ?_)
            · refine J.aload_n (q := 59) dX6_sheet_58 rfl ?_ rfl
              refine J.getR (ci := 6) (k0 := 18) (c1 := 74) (q := 62) dX6_sheet_59 kF_X6_48 rfl (by decide) (by decide) rfl (by decide) rfl ?_ rfl
              refine J.iload_n (q := 63) dX6_sheet_62 rfl ?_ rfl
              refine J.iload_n (q := 64) dX6_sheet_63 rfl ?_ rfl
              refine J.iast (n := 4) (q := 65) dX6_sheet_64 rfl (by omega) ?_ rfl
              refine J.aload_n (q := 66) dX6_sheet_65 rfl ?_ rfl
              refine J.getR (ci := 6) (k0 := 19) (c1 := 75) (q := 69) dX6_sheet_66 kF_X6_51 rfl (by decide) (by decide) rfl (by decide) rfl ?_ rfl
              refine J.iload_n (q := 70) dX6_sheet_69 rfl ?_ rfl
              refine J.iload_n (q := 71) dX6_sheet_70 rfl ?_ rfl
              obtain ⟨m, hm⟩ : ∃ m : Int, m = if w = 0 then 0 else y := ⟨_, rfl⟩
              refine J.if_ne (tgt := 78) (q := 74) dX6_sheet_71 rfl rfl (fun c71 => ?_) (fun c71 => ?_)
              · have hmv : m = y := by rw [hm, if_neg c71]
                refine J.iload_n (q := 79) dX6_sheet_78 rfl ?_ rfl
                refine J.iast (n := 4) (q := 80) dX6_sheet_79 rfl (by omega) ?_ rfl
                refine J.iconst (q := 81) dX6_sheet_80 ?_ rfl
                refine J.istore (q := 83) dX6_sheet_81 (Nat.le_of_ble_eq_true rfl) ?_ rfl
                exact sheet_loop (m := m) hA (by omega) (by omega) (by omega) hm 41 0 _ (by omega) (by omega) ⟨fun q h1 h2 h3 => (up_n _ _ _ h2).trans (up_n _ _ _ h1), (up_n _ _ _ (by decide)).trans (up_s _ _ _ _), (up_s _ _ _ _).trans (by rw [up_n _ _ _ (by decide), hmv]), fun j => by rw [if_neg (by omega), up_n _ _ _ (by decide), up_n _ _ _ (by decide)]⟩
              · have hmv : m = 0 := by rw [hm, if_pos c71]
                refine J.iconst (q := 75) dX6_sheet_74 ?_ rfl
                refine J.goto (tgt := 79) dX6_sheet_75 rfl ?_
                refine J.iast (n := 4) (q := 80) dX6_sheet_79 rfl (by omega) ?_ rfl
                refine J.iconst (q := 81) dX6_sheet_80 ?_ rfl
                refine J.istore (q := 83) dX6_sheet_81 (Nat.le_of_ble_eq_true rfl) ?_ rfl
                exact sheet_loop (m := m) hA (by omega) (by omega) (by omega) hm 41 0 _ (by omega) (by omega) ⟨fun q h1 h2 h3 => (up_n _ _ _ h2).trans (up_n _ _ _ h1), (up_n _ _ _ (by decide)).trans (up_s _ _ _ _), (up_s _ _ _ _).trans (by rw [up_n _ _ _ (by decide), hmv]), fun j => by rw [if_neg (by omega), up_n _ _ _ (by decide), up_n _ _ _ (by decide)]⟩
            · refine J.aload_n (q := 53) dX6_sheet_52 rfl ?_ rfl
              refine J.iconst (q := 54) dX6_sheet_53 ?_ rfl
              refine J.callV1i (ci := 6) (q := 57) dX6_sheet_54 mv_X6_no kL_X6_125 rfl (by decide) rfl ⟨by decide, by decide⟩ (Nat.le_of_ble_eq_true rfl) ⟨by decide, by decide⟩ rfl (c_X6_no (by omega)) ?_
              refine J.ireturn dX6_sheet_57 rfl ?_
              unfold an_sheet
              (try rw [hi_61]); (try rw [hi_62]); (try rw [hi_63]); (try rw [hi_65]); (try rw [hi_70]); (try rw [hi_74]); (try rw [hi_75]); (try rw [hi_76])
              repeat (first | rw [if_pos (by omega)] | rw [if_neg (by omega)])
              first
              | exact mpTF TF.rf
              | exact mpTFb TF.rf
              | exact mpTF hTF
              | exact mpTFb hTF
              | (exfalso; omega)
          · refine J.aload_n (q := 40) dX6_sheet_39 rfl ?_ rfl
            refine J.bipush (q := 42) dX6_sheet_40 (by decide) ?_ rfl
            refine J.callV1i (ci := 6) (q := 45) dX6_sheet_42 mv_X6_no kL_X6_125 rfl (by decide) rfl ⟨by decide, by decide⟩ (Nat.le_of_ble_eq_true rfl) ⟨by decide, by decide⟩ rfl (c_X6_no (by omega)) ?_
            refine J.ireturn dX6_sheet_45 rfl ?_
            unfold an_sheet
            (try rw [hi_61]); (try rw [hi_62]); (try rw [hi_63]); (try rw [hi_65]); (try rw [hi_70]); (try rw [hi_74]); (try rw [hi_75]); (try rw [hi_76])
            repeat (first | rw [if_pos (by omega)] | rw [if_neg (by omega)])
            first
            | exact mpTF TF.rf
            | exact mpTFb TF.rf
            | exact mpTF hTF
            | exact mpTFb hTF
            | (exfalso; omega)
        · refine J.iload_n (q := 24) dX6_sheet_23 rfl ?_ rfl
          refine J.bipush (q := 26) dX6_sheet_24 (by decide) ?_ rfl
          refine J.icmp_eq (tgt := 35) (q := 29) dX6_sheet_26 rfl rfl (fun c26 => ?_) (fun c26 => ?_)
          · refine J.iload_n (q := 36) dX6_sheet_35 rfl ?_ rfl
            refine J.if_ge (tgt := 46) (q := 39) dX6_sheet_36 rfl rfl (fun c36 => ?_) (fun c36 => ?_)
            · refine J.iload_n (q := 47) dX6_sheet_46 rfl ?_ rfl
              refine J.bipush (q := 49) dX6_sheet_47 (by decide) ?_ rfl
              refine J.icmp_le (tgt := 58) (q := 52) dX6_sheet_49 rfl rfl (fun c49 => ?_) (fun c49 => ?_)
              · refine J.aload_n (q := 59) dX6_sheet_58 rfl ?_ rfl
                refine J.getR (ci := 6) (k0 := 18) (c1 := 74) (q := 62) dX6_sheet_59 kF_X6_48 rfl (by decide) (by decide) rfl (by decide) rfl ?_ rfl
                refine J.iload_n (q := 63) dX6_sheet_62 rfl ?_ rfl
                refine J.iload_n (q := 64) dX6_sheet_63 rfl ?_ rfl
                refine J.iast (n := 4) (q := 65) dX6_sheet_64 rfl (by omega) ?_ rfl
                refine J.aload_n (q := 66) dX6_sheet_65 rfl ?_ rfl
                refine J.getR (ci := 6) (k0 := 19) (c1 := 75) (q := 69) dX6_sheet_66 kF_X6_51 rfl (by decide) (by decide) rfl (by decide) rfl ?_ rfl
                refine J.iload_n (q := 70) dX6_sheet_69 rfl ?_ rfl
                refine J.iload_n (q := 71) dX6_sheet_70 rfl ?_ rfl
                obtain ⟨m, hm⟩ : ∃ m : Int, m = if w = 0 then 0 else y := ⟨_, rfl⟩
                refine J.if_ne (tgt := 78) (q := 74) dX6_sheet_71 rfl rfl (fun c71 => ?_) (fun c71 => ?_)
                · have hmv : m = y := by rw [hm, if_neg c71]
                  refine J.iload_n (q := 79) dX6_sheet_78 rfl ?_ rfl
                  refine J.iast (n := 4) (q := 80) dX6_sheet_79 rfl (by omega) ?_ rfl
                  refine J.iconst (q := 81) dX6_sheet_80 ?_ rfl
                  refine J.istore (q := 83) dX6_sheet_81 (Nat.le_of_ble_eq_true rfl) ?_ rfl
                  exact sheet_loop (m := m) hA (by omega) (by omega) (by omega) hm 41 0 _ (by omega) (by omega) ⟨fun q h1 h2 h3 => (up_n _ _ _ h2).trans (up_n _ _ _ h1), (up_n _ _ _ (by decide)).trans (up_s _ _ _ _), (up_s _ _ _ _).trans (by rw [up_n _ _ _ (by decide), hmv]), fun j => by rw [if_neg (by omega), up_n _ _ _ (by decide), up_n _ _ _ (by decide)]⟩
                · have hmv : m = 0 := by rw [hm, if_pos c71]
                  refine J.iconst (q := 75) dX6_sheet_74 ?_ rfl
                  refine J.goto (tgt := 79) dX6_sheet_75 rfl ?_
                  refine J.iast (n := 4) (q := 80) dX6_sheet_79 rfl (by omega) ?_ rfl
                  refine J.iconst (q := 81) dX6_sheet_80 ?_ rfl
                  refine J.istore (q := 83) dX6_sheet_81 (Nat.le_of_ble_eq_true rfl) ?_ rfl
                  exact sheet_loop (m := m) hA (by omega) (by omega) (by omega) hm 41 0 _ (by omega) (by omega) ⟨fun q h1 h2 h3 => (up_n _ _ _ h2).trans (up_n _ _ _ h1), (up_n _ _ _ (by decide)).trans (up_s _ _ _ _), (up_s _ _ _ _).trans (by rw [up_n _ _ _ (by decide), hmv]), fun j => by rw [if_neg (by omega), up_n _ _ _ (by decide), up_n _ _ _ (by decide)]⟩
              · refine J.aload_n (q := 53) dX6_sheet_52 rfl ?_ rfl
                refine J.iconst (q := 54) dX6_sheet_53 ?_ rfl
                refine J.callV1i (ci := 6) (q := 57) dX6_sheet_54 mv_X6_no kL_X6_125 rfl (by decide) rfl ⟨by decide, by decide⟩ (Nat.le_of_ble_eq_true rfl) ⟨by decide, by decide⟩ rfl (c_X6_no (by omega)) ?_
                refine J.ireturn dX6_sheet_57 rfl ?_
                unfold an_sheet
                (try rw [hi_61]); (try rw [hi_62]); (try rw [hi_63]); (try rw [hi_65]); (try rw [hi_70]); (try rw [hi_74]); (try rw [hi_75]); (try rw [hi_76])
                repeat (first | rw [if_pos (by omega)] | rw [if_neg (by omega)])
                first
                | exact mpTF TF.rf
                | exact mpTFb TF.rf
                | exact mpTF hTF
                | exact mpTFb hTF
                | (exfalso; omega)
            · refine J.aload_n (q := 40) dX6_sheet_39 rfl ?_ rfl
              refine J.bipush (q := 42) dX6_sheet_40 (by decide) ?_ rfl
              refine J.callV1i (ci := 6) (q := 45) dX6_sheet_42 mv_X6_no kL_X6_125 rfl (by decide) rfl ⟨by decide, by decide⟩ (Nat.le_of_ble_eq_true rfl) ⟨by decide, by decide⟩ rfl (c_X6_no (by omega)) ?_
              refine J.ireturn dX6_sheet_45 rfl ?_
              unfold an_sheet
              (try rw [hi_61]); (try rw [hi_62]); (try rw [hi_63]); (try rw [hi_65]); (try rw [hi_70]); (try rw [hi_74]); (try rw [hi_75]); (try rw [hi_76])
              repeat (first | rw [if_pos (by omega)] | rw [if_neg (by omega)])
              first
              | exact mpTF TF.rf
              | exact mpTFb TF.rf
              | exact mpTF hTF
              | exact mpTFb hTF
              | (exfalso; omega)
          · refine J.aload_n (q := 30) dX6_sheet_29 rfl ?_ rfl
            refine J.iconst (q := 31) dX6_sheet_30 ?_ rfl
            refine J.callV1i (ci := 6) (q := 34) dX6_sheet_31 mv_X6_no kL_X6_125 rfl (by decide) rfl ⟨by decide, by decide⟩ (Nat.le_of_ble_eq_true rfl) ⟨by decide, by decide⟩ rfl (c_X6_no (by omega)) ?_
            refine J.ireturn dX6_sheet_34 rfl ?_
            unfold an_sheet
            (try rw [hi_61]); (try rw [hi_62]); (try rw [hi_63]); (try rw [hi_65]); (try rw [hi_70]); (try rw [hi_74]); (try rw [hi_75]); (try rw [hi_76])
            repeat (first | rw [if_pos (by omega)] | rw [if_neg (by omega)])
            first
            | exact mpTF TF.rf
            | exact mpTFb TF.rf
            | exact mpTF hTF
            | exact mpTFb hTF
            | (exfalso; omega)

set_option maxRecDepth 100000 in
set_option maxHeartbeats 4000000 in
theorem load_loop {l : Launch} {F : Nat × (Int → Int)} {iv : Mm} (hA : AI iv) {z R y : Int} (hz : 0 ≤ z ∧ z ≤ 3) (hR : lodN (hi iv) z = R) (hw : wrgS (hi iv) z = -1) : ∀ (n : Nat) (i : Int) (iv1 : Mm), (iv 75 z - i < n) → (0 ≤ i ∧ i ≤ iv 75 z) → (runN (fun i => decide (0 ≤ iv 76 (40 * z + i) ∧ iv 76 (40 * z + i) ≤ 9)) (iv 75 z - i).toNat i = R) → ((∀ q, q ≠ 62 → iv1 q = iv q) ∧ ∀ j, iv1 62 j = if 95 ≤ j ∧ j < 95 + i then iv 76 (40 * z + (j - 95)) else iv 62 j) → J l (yX6_load).cls cX6_load 4 (some FieldType.int) 6 0 0 false F (MP iv (an_load (hi iv) z)) 0 0 18 [some (r_ 61), some (i_ z), some (i_ y), some (i_ i)] [] S0 (iv1) := by
  intro n
  induction n with
  | zero =>
    intro i iv1 hn hc hB hL
    omega
  | succ n ih =>
    intro i iv1 hn hc hB hL
    have hI := hA.mi
    have hmm := hI.many
    have hkp := hA.kp
    have htp := hA.tp
    have hsh := hA.sh z hz.1 hz.2
    have e75 : iv1 75 = iv 75 := hL.1 75 (by decide)
    have e76 : iv1 76 = iv 76 := hL.1 76 (by decide)
    refine J.iload_n (q := 19) dX6_load_18 rfl ?_ rfl
    refine J.aload_n (q := 20) dX6_load_19 rfl ?_ rfl
    refine J.getR (ci := 6) (k0 := 19) (c1 := 75) (q := 23) dX6_load_20 kF_X6_51 rfl (by decide) (by decide) rfl (by decide) rfl ?_ rfl
    refine J.iload_n (q := 24) dX6_load_23 rfl ?_ rfl
    refine J.iald (n := 4) (q := 25) dX6_load_24 rfl (by omega) ?_ rfl
    rw [e75]
    refine J.icmp_ge (tgt := 74) (q := 28) (hv := by omega) dX6_load_25 rfl rfl (fun c25 => ?_) (fun c25 => ?_)
    · have hi9 : iv 75 z - i = 0 := by omega
      rw [hi9] at hB
      have hRi : i = R := hB
      refine J.iload_n (q := 75) dX6_load_74 rfl ?_ rfl
      refine J.ireturn dX6_load_75 rfl ?_
      subst hRi
      unfold an_load
      rw [if_neg (by omega)]
      refine mpMk hR.symm (fun q hq => hL.1 q (by omega)) ⟨funext fun j => (hL.2 j).trans ?_, hL.1 63 (by decide), hL.1 65 (by decide), hL.1 70 (by decide), hL.1 74 (by decide), hL.1 75 (by decide), hL.1 76 (by decide), by rw [hL.1 61 (by decide)]; rfl, by rw [hL.1 61 (by decide)]; rfl⟩
      show _ = lodS (hi iv) z j
      unfold lodS
      rw [hR]
      rfl
    · refine J.aload_n (q := 29) dX6_load_28 rfl ?_ rfl
      refine J.getR (ci := 6) (k0 := 20) (c1 := 76) (q := 32) dX6_load_29 kF_X6_54 rfl (by decide) (by decide) rfl (by decide) rfl ?_ rfl
      refine J.bipush (q := 34) dX6_load_32 (by decide) ?_ rfl
      refine J.iload_n (q := 35) dX6_load_34 rfl ?_ rfl
      refine J.imul (q := 36) dX6_load_35 ?_ rfl
      refine J.iload_n (q := 37) dX6_load_36 rfl ?_ rfl
      refine J.iadd (q := 38) dX6_load_37 ?_ rfl
      have hnu := hA.nu (40 * z + i) (by omega) (by omega)
      refine J.iald (n := 160) (q := 39) dX6_load_38 rfl (by omega) ?_ rfl
      rw [e76]
      refine J.iconst (q := 40) dX6_load_39 ?_ rfl
      refine J.bipush (q := 42) dX6_load_40 (by decide) ?_ rfl
      refine J.callS3i (q := 45) dX6_load_42 mv_X6_in1 kS_X6_in1 kL_X6_61 ⟨by decide, by decide⟩ (Nat.le_of_ble_eq_true rfl) ⟨by decide, by decide⟩ rfl (c_X6_in1 (by omega) (by omega) (by omega)) ?_
      refine J.ifb_eq (tgt := 74) (q := 48) dX6_load_45 rfl rfl (fun c45 => ?_) (fun c45 => ?_)
      · have hpi : ¬ ((fun i => decide (0 ≤ iv 76 (40 * z + i) ∧ iv 76 (40 * z + i) ≤ 9)) i = true) := fun q => c45 (of_decide_eq_true q)
        rw [show (iv 75 z - i).toNat = (iv 75 z - (i + 1)).toNat + 1 by omega, runN, if_neg hpi] at hB
        have hRi : i = R := hB
        refine J.iload_n (q := 75) dX6_load_74 rfl ?_ rfl
        refine J.ireturn dX6_load_75 rfl ?_
        subst hRi
        unfold an_load
        rw [if_neg (by omega)]
        refine mpMk hR.symm (fun q hq => hL.1 q (by omega)) ⟨funext fun j => (hL.2 j).trans ?_, hL.1 63 (by decide), hL.1 65 (by decide), hL.1 70 (by decide), hL.1 74 (by decide), hL.1 75 (by decide), hL.1 76 (by decide), by rw [hL.1 61 (by decide)]; rfl, by rw [hL.1 61 (by decide)]; rfl⟩
        show _ = lodS (hi iv) z j
        unfold lodS
        rw [hR]
        rfl
      · have hpi : (fun i => decide (0 ≤ iv 76 (40 * z + i) ∧ iv 76 (40 * z + i) ≤ 9)) i = true := decide_eq_true (by omega)
        rw [show (iv 75 z - i).toNat = (iv 75 z - (i + 1)).toNat + 1 by omega, runN, if_pos hpi] at hB
        refine J.aload_n (q := 49) dX6_load_48 rfl ?_ rfl
        refine J.getR (ci := 6) (k0 := 0) (c1 := 62) (q := 52) dX6_load_49 kF_X6_9 rfl (by decide) (by decide) rfl (by decide) rfl ?_ rfl
        refine J.bipush (q := 54) dX6_load_52 (by decide) ?_ rfl
        refine J.iload_n (q := 55) dX6_load_54 rfl ?_ rfl
        refine J.iadd (q := 56) dX6_load_55 ?_ rfl
        refine J.aload_n (q := 57) dX6_load_56 rfl ?_ rfl
        refine J.getR (ci := 6) (k0 := 20) (c1 := 76) (q := 60) dX6_load_57 kF_X6_54 rfl (by decide) (by decide) rfl (by decide) rfl ?_ rfl
        refine J.bipush (q := 62) dX6_load_60 (by decide) ?_ rfl
        refine J.iload_n (q := 63) dX6_load_62 rfl ?_ rfl
        refine J.imul (q := 64) dX6_load_63 ?_ rfl
        refine J.iload_n (q := 65) dX6_load_64 rfl ?_ rfl
        refine J.iadd (q := 66) dX6_load_65 ?_ rfl
        refine J.iald (n := 160) (q := 67) dX6_load_66 rfl (by omega) ?_ rfl
        rw [e76]
        refine J.iast (n := 307) (q := 68) dX6_load_67 rfl (by omega) ?_ rfl
        refine J.iinc (q := 71) dX6_load_68 rfl ?_ rfl
        refine J.goto (tgt := 18) dX6_load_71 rfl ?_
        refine ih (i + 1) _ (by omega) (by omega) hB ⟨fun q h1 => (up_n _ _ _ h1).trans (hL.1 q h1), fun j => ?_⟩
        rw [up_s]
        by_cases h : j = 95 + i
        · subst h; rw [upr_s, if_pos (by omega), show 95 + i - 95 = i by omega]
        · rw [upr_n _ _ h, hL.2 j]
          by_cases h9 : 95 ≤ j ∧ j < 95 + i
          · rw [if_pos h9, if_pos (by omega)]
          · rw [if_neg h9, if_neg (by omega)]

set_option maxRecDepth 100000 in
set_option maxHeartbeats 4000000 in
theorem c_X6_load {l : Launch} {F : Nat × (Int → Int)} {iv : Mm} (hA : AI iv) {z : Int} (hz : -2147483648 ≤ z ∧ z < 2147483648) : Ctr l F 6 0 0 yX6_load cX6_load 4 (some FieldType.int) [r_ 61, i_ z] S0 (iv) (MP iv (an_load (hi iv) z)) := by
  refine Ctr.of false (fun h => by cases h) (by decide) rfl (Nat.le_of_ble_eq_true rfl) ?_
  have hI := hA.mi
  have hmm := hI.many
  have hkp := hA.kp
  have htp := hA.tp
  refine J.aload_n (q := 1) dX6_load_0 rfl ?_ rfl
  refine J.iload_n (q := 2) dX6_load_1 rfl ?_ rfl
  refine J.callV1i (ci := 6) (q := 5) dX6_load_2 mv_X6_wrongSheet kL_X6_180 rfl (by decide) rfl ⟨by decide, by decide⟩ (Nat.le_of_ble_eq_true rfl) ⟨by decide, by decide⟩ rfl (c_X6_wrongSheet hA (by omega)) ?_
  refine J.istore_n (q := 6) dX6_load_5 (Nat.le_of_ble_eq_true rfl) ?_ rfl
  have hw : wrgS iv z = 5 ∨ wrgS iv z = -1 ∨ wrgS iv z = 0 := by unfold wrgS; split <;> (try split) <;> simp
  have hok : wrgS iv z < 0 → 0 ≤ z ∧ z ≤ 3 := by
    intro h
    unfold wrgS at h
    by_cases h1 : 0 ≤ z ∧ z ≤ 3
    · exact h1
    · rw [if_neg h1] at h; simp at h
  refine J.iload_n (q := 7) dX6_load_6 rfl ?_ rfl
  refine J.if_lt (tgt := 16) (q := 10) (hv := by omega) dX6_load_7 rfl rfl (fun c7 => ?_) (fun c7 => ?_)
  · have hz9 := hok (by omega)
    have hsh := hA.sh z hz9.1 hz9.2
    refine J.iconst (q := 17) dX6_load_16 ?_ rfl
    refine J.istore_n (q := 18) dX6_load_17 (Nat.le_of_ble_eq_true rfl) ?_ rfl
    exact load_loop (R := lodN (hi iv) z) hA hz9 rfl (by show wrgS iv z = -1; omega) 41 0 _ (by omega) (by omega) (by rw [Int.sub_zero]; rfl) ⟨fun q h1 => rfl, fun j => by rw [if_neg (by omega)]⟩
  · refine J.aload_n (q := 11) dX6_load_10 rfl ?_ rfl
    refine J.iload_n (q := 12) dX6_load_11 rfl ?_ rfl
    refine J.callV1i (ci := 6) (q := 15) dX6_load_12 mv_X6_no kL_X6_125 rfl (by decide) rfl ⟨by decide, by decide⟩ (Nat.le_of_ble_eq_true rfl) ⟨by decide, by decide⟩ rfl (c_X6_no (by omega)) ?_
    refine J.ireturn dX6_load_15 rfl ?_
    unfold an_load
    rw [show wrgS (hi iv) z = wrgS iv z from rfl]
    (try rw [hi_61]); (try rw [hi_62]); (try rw [hi_63]); (try rw [hi_65]); (try rw [hi_70]); (try rw [hi_74]); (try rw [hi_75]); (try rw [hi_76])
    repeat (first | rw [if_pos (by omega)] | rw [if_neg (by omega)])
    exact mpTFb TF.rf

set_option maxRecDepth 100000 in
set_option maxHeartbeats 4000000 in
theorem judge_loop {l : Launch} {F : Nat × (Int → Int)} {iv : Mm} (hA : AI iv) {z R y : Int} (hz : 0 ≤ z ∧ z ≤ 3) (hR : judN (hi iv) z = R) (hw : wrgS (hi iv) z = -1) : ∀ (n : Nat) (i : Int), (iv 75 z - i < n) → (0 ≤ i ∧ i ≤ iv 75 z) → (runN (fun i => decide (iv 76 (40 * z + i) = iv 62 (176 + i))) (iv 75 z - i).toNat i = R) → J l (yX6_judge).cls cX6_judge 4 (some FieldType.int) 6 0 0 false F (MP iv (an_judge (hi iv) z)) 0 0 18 [some (r_ 61), some (i_ z), some (i_ y), some (i_ i)] [] S0 (iv) := by
  intro n
  induction n with
  | zero =>
    intro i hn hc hB
    omega
  | succ n ih =>
    intro i hn hc hB
    have hI := hA.mi
    have hmm := hI.many
    have hkp := hA.kp
    have htp := hA.tp
    have hsh := hA.sh z hz.1 hz.2
    refine J.iload_n (q := 19) dX6_judge_18 rfl ?_ rfl
    refine J.aload_n (q := 20) dX6_judge_19 rfl ?_ rfl
    refine J.getR (ci := 6) (k0 := 19) (c1 := 75) (q := 23) dX6_judge_20 kF_X6_51 rfl (by decide) (by decide) rfl (by decide) rfl ?_ rfl
    refine J.iload_n (q := 24) dX6_judge_23 rfl ?_ rfl
    refine J.iald (n := 4) (q := 25) dX6_judge_24 rfl (by omega) ?_ rfl
    refine J.icmp_ge (tgt := 58) (q := 28) (hv := by omega) dX6_judge_25 rfl rfl (fun c25 => ?_) (fun c25 => ?_)
    · have hi9 : iv 75 z - i = 0 := by omega
      rw [hi9] at hB
      have hRi : i = R := hB
      refine J.iload_n (q := 59) dX6_judge_58 rfl ?_ rfl
      refine J.aload_n (q := 60) dX6_judge_59 rfl ?_ rfl
      refine J.getR (ci := 6) (k0 := 19) (c1 := 75) (q := 63) dX6_judge_60 kF_X6_51 rfl (by decide) (by decide) rfl (by decide) rfl ?_ rfl
      refine J.iload_n (q := 64) dX6_judge_63 rfl ?_ rfl
      refine J.iald (n := 4) (q := 65) dX6_judge_64 rfl (by omega) ?_ rfl
      refine J.icmp_ne (tgt := 72) (q := 68) (hv := by omega) dX6_judge_65 rfl rfl (fun c65 => ?_) (fun c65 => ?_)
      · refine J.iconst (q := 73) dX6_judge_72 ?_ rfl
        refine J.iload_n (q := 74) dX6_judge_73 rfl ?_ rfl
        refine J.iadd (q := 75) dX6_judge_74 ?_ rfl
        refine J.ireturn dX6_judge_75 rfl ?_
        unfold an_judge
        rw [if_neg (by omega), hR, ← hRi]
        show MP iv ((if i = iv 75 z then 0 else 1 + i), hi iv) _ S0 iv
        repeat (first | rw [if_pos (by omega)] | rw [if_neg (by omega)])
        first
        | exact mpTF TF.rf
        | (exfalso; omega)
      · refine J.iconst (q := 69) dX6_judge_68 ?_ rfl
        refine J.goto (tgt := 75) dX6_judge_69 rfl ?_
        refine J.ireturn dX6_judge_75 rfl ?_
        unfold an_judge
        rw [if_neg (by omega), hR, ← hRi]
        show MP iv ((if i = iv 75 z then 0 else 1 + i), hi iv) _ S0 iv
        repeat (first | rw [if_pos (by omega)] | rw [if_neg (by omega)])
        first
        | exact mpTF TF.rf
        | (exfalso; omega)
    · refine J.aload_n (q := 29) dX6_judge_28 rfl ?_ rfl
      refine J.getR (ci := 6) (k0 := 20) (c1 := 76) (q := 32) dX6_judge_29 kF_X6_54 rfl (by decide) (by decide) rfl (by decide) rfl ?_ rfl
      refine J.bipush (q := 34) dX6_judge_32 (by decide) ?_ rfl
      refine J.iload_n (q := 35) dX6_judge_34 rfl ?_ rfl
      refine J.imul (q := 36) dX6_judge_35 ?_ rfl
      refine J.iload_n (q := 37) dX6_judge_36 rfl ?_ rfl
      refine J.iadd (q := 38) dX6_judge_37 ?_ rfl
      have hnu := hA.nu (40 * z + i) (by omega) (by omega)
      have hcl := hI.cel i (by omega) (by omega)
      refine J.iald (n := 160) (q := 39) dX6_judge_38 rfl (by omega) ?_ rfl
      refine J.aload_n (q := 40) dX6_judge_39 rfl ?_ rfl
      refine J.getR (ci := 6) (k0 := 0) (c1 := 62) (q := 43) dX6_judge_40 kF_X6_9 rfl (by decide) (by decide) rfl (by decide) rfl ?_ rfl
      refine J.sipush (q := 46) dX6_judge_43 (by decide) ?_ rfl
      refine J.iload_n (q := 47) dX6_judge_46 rfl ?_ rfl
      refine J.iadd (q := 48) dX6_judge_47 ?_ rfl
      refine J.iald (n := 307) (q := 49) dX6_judge_48 rfl (by omega) ?_ rfl
      refine J.icmp_ne (tgt := 58) (q := 52) (hv := by omega) dX6_judge_49 rfl rfl (fun c49 => ?_) (fun c49 => ?_)
      · have hpi : ¬ ((fun i => decide (iv 76 (40 * z + i) = iv 62 (176 + i))) i = true) := fun q => c49 (of_decide_eq_true q)
        rw [show (iv 75 z - i).toNat = (iv 75 z - (i + 1)).toNat + 1 by omega, runN, if_neg hpi] at hB
        have hRi : i = R := hB
        refine J.iload_n (q := 59) dX6_judge_58 rfl ?_ rfl
        refine J.aload_n (q := 60) dX6_judge_59 rfl ?_ rfl
        refine J.getR (ci := 6) (k0 := 19) (c1 := 75) (q := 63) dX6_judge_60 kF_X6_51 rfl (by decide) (by decide) rfl (by decide) rfl ?_ rfl
        refine J.iload_n (q := 64) dX6_judge_63 rfl ?_ rfl
        refine J.iald (n := 4) (q := 65) dX6_judge_64 rfl (by omega) ?_ rfl
        refine J.icmp_ne (tgt := 72) (q := 68) (hv := by omega) dX6_judge_65 rfl rfl (fun c65 => ?_) (fun c65 => ?_)
        · refine J.iconst (q := 73) dX6_judge_72 ?_ rfl
          refine J.iload_n (q := 74) dX6_judge_73 rfl ?_ rfl
          refine J.iadd (q := 75) dX6_judge_74 ?_ rfl
          refine J.ireturn dX6_judge_75 rfl ?_
          unfold an_judge
          rw [if_neg (by omega), hR, ← hRi]
          show MP iv ((if i = iv 75 z then 0 else 1 + i), hi iv) _ S0 iv
          repeat (first | rw [if_pos (by omega)] | rw [if_neg (by omega)])
          first
          | exact mpTF TF.rf
          | (exfalso; omega)
        · refine J.iconst (q := 69) dX6_judge_68 ?_ rfl
          refine J.goto (tgt := 75) dX6_judge_69 rfl ?_
          refine J.ireturn dX6_judge_75 rfl ?_
          unfold an_judge
          rw [if_neg (by omega), hR, ← hRi]
          show MP iv ((if i = iv 75 z then 0 else 1 + i), hi iv) _ S0 iv
          repeat (first | rw [if_pos (by omega)] | rw [if_neg (by omega)])
          first
          | exact mpTF TF.rf
          | (exfalso; omega)
      · have hpi : (fun i => decide (iv 76 (40 * z + i) = iv 62 (176 + i))) i = true := decide_eq_true (by omega)
        rw [show (iv 75 z - i).toNat = (iv 75 z - (i + 1)).toNat + 1 by omega, runN, if_pos hpi] at hB
        refine J.iinc (q := 55) dX6_judge_52 rfl ?_ rfl
        refine J.goto (tgt := 18) dX6_judge_55 rfl ?_
        exact ih (i + 1) (by omega) (by omega) hB

set_option maxRecDepth 100000 in
set_option maxHeartbeats 4000000 in
theorem c_X6_judge {l : Launch} {F : Nat × (Int → Int)} {iv : Mm} (hA : AI iv) {z : Int} (hz : -2147483648 ≤ z ∧ z < 2147483648) : Ctr l F 6 0 0 yX6_judge cX6_judge 4 (some FieldType.int) [r_ 61, i_ z] S0 (iv) (MP iv (an_judge (hi iv) z)) := by
  refine Ctr.of false (fun h => by cases h) (by decide) rfl (Nat.le_of_ble_eq_true rfl) ?_
  have hI := hA.mi
  have hmm := hI.many
  have hkp := hA.kp
  have htp := hA.tp
  refine J.aload_n (q := 1) dX6_judge_0 rfl ?_ rfl
  refine J.iload_n (q := 2) dX6_judge_1 rfl ?_ rfl
  refine J.callV1i (ci := 6) (q := 5) dX6_judge_2 mv_X6_wrongSheet kL_X6_180 rfl (by decide) rfl ⟨by decide, by decide⟩ (Nat.le_of_ble_eq_true rfl) ⟨by decide, by decide⟩ rfl (c_X6_wrongSheet hA (by omega)) ?_
  refine J.istore_n (q := 6) dX6_judge_5 (Nat.le_of_ble_eq_true rfl) ?_ rfl
  have hw : wrgS iv z = 5 ∨ wrgS iv z = -1 ∨ wrgS iv z = 0 := by unfold wrgS; split <;> (try split) <;> simp
  have hok : wrgS iv z < 0 → 0 ≤ z ∧ z ≤ 3 := by
    intro h
    unfold wrgS at h
    by_cases h1 : 0 ≤ z ∧ z ≤ 3
    · exact h1
    · rw [if_neg h1] at h; simp at h
  refine J.iload_n (q := 7) dX6_judge_6 rfl ?_ rfl
  refine J.if_lt (tgt := 16) (q := 10) (hv := by omega) dX6_judge_7 rfl rfl (fun c7 => ?_) (fun c7 => ?_)
  · have hz9 := hok (by omega)
    have hsh := hA.sh z hz9.1 hz9.2
    refine J.iconst (q := 17) dX6_judge_16 ?_ rfl
    refine J.istore_n (q := 18) dX6_judge_17 (Nat.le_of_ble_eq_true rfl) ?_ rfl
    exact judge_loop (R := judN (hi iv) z) hA hz9 rfl (by show wrgS iv z = -1; omega) 41 0 (by omega) (by omega) (by rw [Int.sub_zero]; rfl)
  · refine J.aload_n (q := 11) dX6_judge_10 rfl ?_ rfl
    refine J.iload_n (q := 12) dX6_judge_11 rfl ?_ rfl
    refine J.callV1i (ci := 6) (q := 15) dX6_judge_12 mv_X6_no kL_X6_125 rfl (by decide) rfl ⟨by decide, by decide⟩ (Nat.le_of_ble_eq_true rfl) ⟨by decide, by decide⟩ rfl (c_X6_no (by omega)) ?_
    refine J.ireturn dX6_judge_15 rfl ?_
    unfold an_judge
    rw [show wrgS (hi iv) z = wrgS iv z from rfl]
    (try rw [hi_61]); (try rw [hi_62]); (try rw [hi_63]); (try rw [hi_65]); (try rw [hi_70]); (try rw [hi_74]); (try rw [hi_75]); (try rw [hi_76])
    repeat (first | rw [if_pos (by omega)] | rw [if_neg (by omega)])
    exact mpTFb TF.rf

