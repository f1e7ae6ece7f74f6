/-! the reference: copies, what's now, what's free, the tape (printed by wip/whole/m_model14.py) -/
theorem ior_up {s b : Int} {k : Nat} (hk : k < 8) (hs : 0 ≤ s ∧ s < 2 ^ k) (hb : b = 2 ^ k ∨ b = 0) : Int32.ofInt s ||| Int32.ofInt b = Int32.ofInt (s + b) := by
  obtain ⟨a, rfl⟩ := Int.eq_ofNat_of_zero_le hs.1
  rcases hb with rfl | rfl
  · have h1 : (2 : Int) ^ k = ((2 ^ k : Nat) : Int) := by rw [Int.natCast_pow]; rfl
    rw [h1] at hs ⊢
    have h2 : a < 2 ^ k := by omega
    have h3 : (2 : Nat) ^ k ≤ 128 := by
      have h : ∀ k : Nat, k < 8 → 2 ^ k ≤ 128 := by decide
      exact h k hk
    have h4 : 2 ^ k ||| a = 2 ^ k + a := (Nat.two_pow_add_eq_or_of_lt h2 1 |> fun h => by simpa using h.symm)
    have h5 : a ||| 2 ^ k = a + 2 ^ k := by rw [Nat.or_comm, h4, Nat.add_comm]
    have h6 : ∀ a : Nat, a < 256 → ∀ b : Nat, b < 256 → Int32.ofInt (a : Int) ||| Int32.ofInt (b : Int) = Int32.ofInt ((a ||| b : Nat) : Int) := by
      intro a ha b hb
      apply Int32.toBitVec_inj.mp
      rw [Int32.toBitVec_or]
      apply BitVec.eq_of_toNat_eq
      rw [BitVec.toNat_or]
      simp only [Int32.toBitVec_ofInt, BitVec.ofInt_natCast, BitVec.toNat_ofNat]
      have := Nat.or_lt_two_pow (n := 8) ha hb
      rw [Nat.mod_eq_of_lt (by omega), Nat.mod_eq_of_lt (by omega), Nat.mod_eq_of_lt (by omega)]
    rw [h6 a (by omega) (2 ^ k) (by omega), h5, Int.natCast_add]
  · rw [Int.add_zero]
    apply Int32.toBitVec_inj.mp
    rw [Int32.toBitVec_or]
    show _ ||| 0#32 = _
    rw [BitVec.or_zero]
set_option maxRecDepth 100000 in
set_option maxHeartbeats 4000000 in
theorem copy2_loop {l : Launch} {F : Nat × (Int → Int)} {iv : Mm} (hA : AI iv) {z x t y v : Int} (hz : 0 ≤ z ∧ z ≤ 3) (ht : 0 ≤ t ∧ t ≤ 3) (hv : 0 ≤ v) (hx : 0 ≤ x ∧ x ≤ iv 75 z - v) (hy : 0 ≤ y ∧ y ≤ iv 75 t - v) (hO : an_copy (hi iv) z x t y v = (v, setr (hi iv) 76 (cpyS (iv 76) (40 * z + x) (40 * t + y) v))) : ∀ (n : Nat) (i : Int) (iv1 : Mm), (v - i < n) → (0 ≤ i ∧ i ≤ v) → ((∀ q, q ≠ 76 → q ≠ 77 → iv1 q = iv q) ∧ (∀ j, 0 ≤ j → j < v → iv1 77 j = iv 76 (40 * z + x + j)) ∧ ∀ j, iv1 76 j = if 40 * t + y ≤ j ∧ j < 40 * t + y + i then iv 76 (40 * z + x + (j - (40 * t + y))) else iv 76 j) → J l (yX6_copy).cls cX6_copy 7 (some FieldType.int) 6 0 0 false F (MP iv (an_copy (hi iv) z x t y v)) 0 0 152 [some (r_ 61), some (i_ z), some (i_ x), some (i_ t), some (i_ y), some (i_ v), some (i_ i)] [] S0 (iv1) := by
  intro n
  induction n with
  | zero =>
    intro i iv1 hn hi hL
    omega
  | succ n ih =>
    intro i iv1 hn hi hL
    have hI := hA.mi
    have hmm := hI.many
    have hkp := hA.kp
    have htp := hA.tp
    have hs1 := hA.sh z hz.1 hz.2
    have hs2 := hA.sh t ht.1 ht.2
    refine J.iload (q := 154) dX6_copy_152 rfl ?_ rfl
    refine J.iload (q := 156) dX6_copy_154 rfl ?_ rfl
    refine J.icmp_ge (tgt := 187) (q := 159) dX6_copy_156 rfl rfl (fun c156 => ?_) (fun c156 => ?_)
    · refine J.iload (q := 189) dX6_copy_187 rfl ?_ rfl
      refine J.ireturn dX6_copy_189 rfl ?_
      have hi9 : i = v := by omega
      subst hi9
      rw [hO]
      refine mpMk rfl (fun q hq => hL.1 q (by omega) (by omega)) ⟨hL.1 62 (by decide) (by decide), hL.1 63 (by decide) (by decide), hL.1 65 (by decide) (by decide), hL.1 70 (by decide) (by decide), hL.1 74 (by decide) (by decide), hL.1 75 (by decide) (by decide), funext hL.2.2, by rw [hL.1 61 (by decide) (by decide)]; rfl, by rw [hL.1 61 (by decide) (by decide)]; rfl⟩
    · refine J.aload_n (q := 160) dX6_copy_159 rfl ?_ rfl
      refine J.getR (ci := 6) (k0 := 20) (c1 := 76) (q := 163) dX6_copy_160 kF_X6_54 rfl (by decide) (by decide) rfl (by decide) rfl ?_ rfl
      refine J.bipush (q := 165) dX6_copy_163 (by decide) ?_ rfl
      refine J.iload_n (q := 166) dX6_copy_165 rfl ?_ rfl
      refine J.imul (q := 167) dX6_copy_166 ?_ rfl
      refine J.iload (q := 169) dX6_copy_167 rfl ?_ rfl
      refine J.iadd (q := 170) dX6_copy_169 ?_ rfl
      refine J.iload (q := 172) dX6_copy_170 rfl ?_ rfl
      refine J.iadd (q := 173) dX6_copy_172 ?_ rfl
      refine J.aload_n (q := 174) dX6_copy_173 rfl ?_ rfl
      refine J.getR (ci := 6) (k0 := 21) (c1 := 77) (q := 177) dX6_copy_174 kF_X6_57 rfl (by decide) (by decide) rfl (by decide) rfl ?_ rfl
      refine J.iload (q := 179) dX6_copy_177 rfl ?_ rfl
      refine J.iald (n := 40) (q := 180) dX6_copy_179 rfl (by omega) ?_ rfl
      rw [hL.2.1 i (by omega) (by omega)]
      refine J.iast (n := 160) (q := 181) dX6_copy_180 rfl (by omega) ?_ rfl
      refine J.iinc (q := 184) dX6_copy_181 rfl ?_ rfl
      refine J.goto (tgt := 152) dX6_copy_184 rfl ?_
      refine ih (i + 1) _ (by omega) (by omega) ⟨fun q h1 h2 => (up_n _ _ _ h1).trans (hL.1 q h1 h2), fun j h1 h2 => by rw [up_n _ _ _ (by decide)]; exact hL.2.1 j h1 h2, fun j => ?_⟩
      rw [up_s]
      by_cases h : j = 40 * t + y + i
      · subst h; rw [upr_s, if_pos (by omega), show 40 * t + y + i - (40 * t + y) = i by omega]
      · rw [upr_n _ _ h, hL.2.2 j]
        by_cases h9 : 40 * t + y ≤ j ∧ j < 40 * t + y + i
        · rw [if_pos h9, if_pos (by omega)]
        · rw [if_neg h9, if_neg (by omega)]

set_option maxRecDepth 100000 in
set_option maxHeartbeats 4000000 in
theorem copy1_loop {l : Launch} {F : Nat × (Int → Int)} {iv : Mm} (hA : AI iv) {z x t y v : Int} (hz : 0 ≤ z ∧ z ≤ 3) (ht : 0 ≤ t ∧ t ≤ 3) (hv : 0 ≤ v) (hx : 0 ≤ x ∧ x ≤ iv 75 z - v) (hy : 0 ≤ y ∧ y ≤ iv 75 t - v) (hO : an_copy (hi iv) z x t y v = (v, setr (hi iv) 76 (cpyS (iv 76) (40 * z + x) (40 * t + y) v))) : ∀ (n : Nat) (i : Int) (iv1 : Mm), (v - i < n) → (0 ≤ i ∧ i ≤ v) → ((∀ q, q ≠ 77 → iv1 q = iv q) ∧ ∀ j, 0 ≤ j → j < i → iv1 77 j = iv 76 (40 * z + x + j)) → J l (yX6_copy).cls cX6_copy 7 (some FieldType.int) 6 0 0 false F (MP iv (an_copy (hi iv) z x t y v)) 0 0 115 [some (r_ 61), some (i_ z), some (i_ x), some (i_ t), some (i_ y), some (i_ v), some (i_ i)] [] S0 (iv1) := by
  intro n
  induction n with
  | zero =>
    intro i iv1 hn hi hL
    omega
  | succ n ih =>
    intro i iv1 hn hi hL
    have hI := hA.mi
    have hmm := hI.many
    have hkp := hA.kp
    have htp := hA.tp
    have hs1 := hA.sh z hz.1 hz.2
    have hs2 := hA.sh t ht.1 ht.2
    refine J.iload (q := 117) dX6_copy_115 rfl ?_ rfl
    refine J.iload (q := 119) dX6_copy_117 rfl ?_ rfl
    refine J.icmp_ge (tgt := 149) (q := 122) dX6_copy_119 rfl rfl (fun c119 => ?_) (fun c119 => ?_)
    · refine J.iconst (q := 150) dX6_copy_149 ?_ rfl
      refine J.istore (q := 152) dX6_copy_150 (Nat.le_of_ble_eq_true rfl) ?_ rfl
      have hi9 : i = v := by omega
      subst hi9
      exact copy2_loop hA hz ht hv hx hy hO 41 0 _ (by omega) (by omega) ⟨fun q h1 h2 => hL.1 q h2, hL.2, fun j => by rw [if_neg (by omega), hL.1 76 (by decide)]⟩
    · refine J.aload_n (q := 123) dX6_copy_122 rfl ?_ rfl
      refine J.getR (ci := 6) (k0 := 21) (c1 := 77) (q := 126) dX6_copy_123 kF_X6_57 rfl (by decide) (by decide) rfl (by decide) rfl ?_ rfl
      refine J.iload (q := 128) dX6_copy_126 rfl ?_ rfl
      refine J.aload_n (q := 129) dX6_copy_128 rfl ?_ rfl
      refine J.getR (ci := 6) (k0 := 20) (c1 := 76) (q := 132) dX6_copy_129 kF_X6_54 rfl (by decide) (by decide) rfl (by decide) rfl ?_ rfl
      refine J.bipush (q := 134) dX6_copy_132 (by decide) ?_ rfl
      refine J.iload_n (q := 135) dX6_copy_134 rfl ?_ rfl
      refine J.imul (q := 136) dX6_copy_135 ?_ rfl
      refine J.iload_n (q := 137) dX6_copy_136 rfl ?_ rfl
      refine J.iadd (q := 138) dX6_copy_137 ?_ rfl
      refine J.iload (q := 140) dX6_copy_138 rfl ?_ rfl
      refine J.iadd (q := 141) dX6_copy_140 ?_ rfl
      refine J.iald (n := 160) (q := 142) dX6_copy_141 rfl (by omega) ?_ rfl
      rw [hL.1 76 (by decide)]
      refine J.iast (n := 40) (q := 143) dX6_copy_142 rfl (by omega) ?_ rfl
      refine J.iinc (q := 146) dX6_copy_143 rfl ?_ rfl
      refine J.goto (tgt := 115) dX6_copy_146 rfl ?_
      refine ih (i + 1) _ (by omega) (by omega) ⟨fun q h1 => (up_n _ _ _ h1).trans (hL.1 q h1), fun j h1 h2 => ?_⟩
      rw [up_s]
      by_cases h : j = i
      · subst h; rw [upr_s]
      · rw [upr_n _ _ h, hL.2 j h1 (by omega)]

set_option maxRecDepth 100000 in
set_option maxHeartbeats 4000000 in
theorem c_X6_copy {l : Launch} {F : Nat × (Int → Int)} {iv : Mm} (hA : AI iv) {z x t y v : Int} (hz : -2147483648 ≤ z ∧ z < 2147483648) (hx : -2147483648 ≤ x ∧ x < 2147483648) (ht : -2147483648 ≤ t ∧ t < 2147483648) (hy : -2147483648 ≤ y ∧ y < 2147483648) (hv : -2147483648 ≤ v ∧ v < 2147483648) : Ctr l F 6 0 0 yX6_copy cX6_copy 7 (some FieldType.int) [r_ 61, i_ z, i_ x, i_ t, i_ y, i_ v] S0 (iv) (MP iv (an_copy (hi iv) z x t y v)) := by
  refine Ctr.of false (fun h => by cases h) (by decide) rfl (Nat.le_of_ble_eq_true rfl) ?_
  have hI := hA.mi
  have hmm := hI.many
  have hkp := hA.kp
  have htp := hA.tp
  refine J.iload_n (q := 1) dX6_copy_0 rfl ?_ rfl
  refine J.callS1i (q := 4) dX6_copy_1 mv_X6_isSheet kS_X6_isSheet kL_X6_177 ⟨by decide, by decide⟩ (Nat.le_of_ble_eq_true rfl) ⟨by decide, by decide⟩ rfl (c_X6_isSheet (by omega)) ?_
  refine J.ifb_eq (tgt := 14) (q := 7) dX6_copy_4 rfl rfl (fun c4 => ?_) (fun c4 => ?_)
  · refine J.aload_n (q := 15) dX6_copy_14 rfl ?_ rfl
    refine J.iconst (q := 16) dX6_copy_15 ?_ rfl
    refine J.callV1i (ci := 6) (q := 19) dX6_copy_16 mv_X6_no kL_X6_125 rfl (by decide) rfl ⟨by decide, by decide⟩ (Nat.le_of_ble_eq_true rfl) ⟨by decide, by decide⟩ rfl (c_X6_no (by omega)) ?_
    refine J.ireturn dX6_copy_19 rfl ?_
    unfold an_copy
    (try rw [hi_61]); (try rw [hi_62]); (try rw [hi_63]); (try rw [hi_65]); (try rw [hi_70]); (try rw [hi_74]); (try rw [hi_75]); (try rw [hi_76])
    repeat (first | rw [if_pos (by omega)] | rw [if_neg (by omega)])
    first
    | exact mpTF TF.rf
    | exact mpTFb TF.rf
    | exact mpTF hTF
    | exact mpTFb hTF
    | (exfalso; omega)
  · refine J.iload_n (q := 8) dX6_copy_7 rfl ?_ rfl
    refine J.callS1i (q := 11) dX6_copy_8 mv_X6_isSheet kS_X6_isSheet kL_X6_177 ⟨by decide, by decide⟩ (Nat.le_of_ble_eq_true rfl) ⟨by decide, by decide⟩ rfl (c_X6_isSheet (by omega)) ?_
    refine J.ifb_ne (tgt := 20) (q := 14) dX6_copy_11 rfl rfl (fun c11 => ?_) (fun c11 => ?_)
    · refine J.aload_n (q := 21) dX6_copy_20 rfl ?_ rfl
      refine J.getR (ci := 6) (k0 := 18) (c1 := 74) (q := 24) dX6_copy_21 kF_X6_48 rfl (by decide) (by decide) rfl (by decide) rfl ?_ rfl
      refine J.iload_n (q := 25) dX6_copy_24 rfl ?_ rfl
      refine J.iald (n := 4) (q := 26) dX6_copy_25 rfl (by omega) ?_ rfl
      have hs1 := hA.sh z (by omega) (by omega)
      have hs2 := hA.sh t (by omega) (by omega)
      refine J.if_eq (tgt := 38) (q := 29) dX6_copy_26 rfl rfl (fun c26 => ?_) (fun c26 => ?_)
      · refine J.aload_n (q := 39) dX6_copy_38 rfl ?_ rfl
        refine J.iconst (q := 40) dX6_copy_39 ?_ rfl
        refine J.callV1i (ci := 6) (q := 43) dX6_copy_40 mv_X6_no kL_X6_125 rfl (by decide) rfl ⟨by decide, by decide⟩ (Nat.le_of_ble_eq_true rfl) ⟨by decide, by decide⟩ rfl (c_X6_no (by omega)) ?_
        refine J.ireturn dX6_copy_43 rfl ?_
        unfold an_copy
        (try rw [hi_61]); (try rw [hi_62]); (try rw [hi_63]); (try rw [hi_65]); (try rw [hi_70]); (try rw [hi_74]); (try rw [hi_75]); (try rw [hi_76])
        repeat (first | rw [if_pos (by omega)] | rw [if_neg (by omega)])
        first
        | exact mpTF TF.rf
        | exact mpTFb TF.rf
        | exact mpTF hTF
        | exact mpTFb hTF
        | (exfalso; omega)
      · refine J.aload_n (q := 30) dX6_copy_29 rfl ?_ rfl
        refine J.getR (ci := 6) (k0 := 18) (c1 := 74) (q := 33) dX6_copy_30 kF_X6_48 rfl (by decide) (by decide) rfl (by decide) rfl ?_ rfl
        refine J.iload_n (q := 34) dX6_copy_33 rfl ?_ rfl
        refine J.iald (n := 4) (q := 35) dX6_copy_34 rfl (by omega) ?_ rfl
        refine J.if_ne (tgt := 44) (q := 38) dX6_copy_35 rfl rfl (fun c35 => ?_) (fun c35 => ?_)
        · refine J.aload_n (q := 45) dX6_copy_44 rfl ?_ rfl
          refine J.getR (ci := 6) (k0 := 18) (c1 := 74) (q := 48) dX6_copy_45 kF_X6_48 rfl (by decide) (by decide) rfl (by decide) rfl ?_ rfl
          refine J.iload_n (q := 49) dX6_copy_48 rfl ?_ rfl
          refine J.iald (n := 4) (q := 50) dX6_copy_49 rfl (by omega) ?_ rfl
          refine J.aload_n (q := 51) dX6_copy_50 rfl ?_ rfl
          refine J.getR (ci := 6) (k0 := 18) (c1 := 74) (q := 54) dX6_copy_51 kF_X6_48 rfl (by decide) (by decide) rfl (by decide) rfl ?_ rfl
          refine J.iload_n (q := 55) dX6_copy_54 rfl ?_ rfl
          refine J.iald (n := 4) (q := 56) dX6_copy_55 rfl (by omega) ?_ rfl
          refine J.icmp_eq (tgt := 65) (q := 59) dX6_copy_56 rfl rfl (fun c56 => ?_) (fun c56 => ?_)
          · refine J.iload (q := 67) dX6_copy_65 rfl ?_ rfl
            refine J.if_lt (tgt := 106) (q := 70) dX6_copy_67 rfl rfl (fun c67 => ?_) (fun c67 => ?_)
            · refine J.aload_n (q := 107) dX6_copy_106 rfl ?_ rfl
              refine J.iconst (q := 108) dX6_copy_107 ?_ rfl
              refine J.callV1i (ci := 6) (q := 111) dX6_copy_108 mv_X6_no kL_X6_125 rfl (by decide) rfl ⟨by decide, by decide⟩ (Nat.le_of_ble_eq_true rfl) ⟨by decide, by decide⟩ rfl (c_X6_no (by omega)) ?_
              refine J.ireturn dX6_copy_111 rfl ?_
              unfold an_copy
              (try rw [hi_61]); (try rw [hi_62]); (try rw [hi_63]); (try rw [hi_65]); (try rw [hi_70]); (try rw [hi_74]); (try rw [hi_75]); (try rw [hi_76])
              repeat (first | rw [if_pos (by omega)] | rw [if_neg (by omega)])
              first
              | exact mpTF TF.rf
              | exact mpTFb TF.rf
              | exact mpTF hTF
              | exact mpTFb hTF
              | (exfalso; omega)
            · refine J.iload_n (q := 71) dX6_copy_70 rfl ?_ rfl
              refine J.if_lt (tgt := 106) (q := 74) dX6_copy_71 rfl rfl (fun c71 => ?_) (fun c71 => ?_)
              · refine J.aload_n (q := 107) dX6_copy_106 rfl ?_ rfl
                refine J.iconst (q := 108) dX6_copy_107 ?_ rfl
                refine J.callV1i (ci := 6) (q := 111) dX6_copy_108 mv_X6_no kL_X6_125 rfl (by decide) rfl ⟨by decide, by decide⟩ (Nat.le_of_ble_eq_true rfl) ⟨by decide, by decide⟩ rfl (c_X6_no (by omega)) ?_
                refine J.ireturn dX6_copy_111 rfl ?_
                unfold an_copy
                (try rw [hi_61]); (try rw [hi_62]); (try rw [hi_63]); (try rw [hi_65]); (try rw [hi_70]); (try rw [hi_74]); (try rw [hi_75]); (try rw [hi_76])
                repeat (first | rw [if_pos (by omega)] | rw [if_neg (by omega)])
                first
                | exact mpTF TF.rf
                | exact mpTFb TF.rf
                | exact mpTF hTF
                | exact mpTFb hTF
                | (exfalso; omega)
              · refine J.iload (q := 76) dX6_copy_74 rfl ?_ rfl
                refine J.if_lt (tgt := 106) (q := 79) dX6_copy_76 rfl rfl (fun c76 => ?_) (fun c76 => ?_)
                · refine J.aload_n (q := 107) dX6_copy_106 rfl ?_ rfl
                  refine J.iconst (q := 108) dX6_copy_107 ?_ rfl
                  refine J.callV1i (ci := 6) (q := 111) dX6_copy_108 mv_X6_no kL_X6_125 rfl (by decide) rfl ⟨by decide, by decide⟩ (Nat.le_of_ble_eq_true rfl) ⟨by decide, by decide⟩ rfl (c_X6_no (by omega)) ?_
                  refine J.ireturn dX6_copy_111 rfl ?_
                  unfold an_copy
                  (try rw [hi_61]); (try rw [hi_62]); (try rw [hi_63]); (try rw [hi_65]); (try rw [hi_70]); (try rw [hi_74]); (try rw [hi_75]); (try rw [hi_76])
                  repeat (first | rw [if_pos (by omega)] | rw [if_neg (by omega)])
                  first
                  | exact mpTF TF.rf
                  | exact mpTFb TF.rf
                  | exact mpTF hTF
                  | exact mpTFb hTF
                  | (exfalso; omega)
                · refine J.iload_n (q := 80) dX6_copy_79 rfl ?_ rfl
                  refine J.aload_n (q := 81) dX6_copy_80 rfl ?_ rfl
                  refine J.getR (ci := 6) (k0 := 19) (c1 := 75) (q := 84) dX6_copy_81 kF_X6_51 rfl (by decide) (by decide) rfl (by decide) rfl ?_ rfl
                  refine J.iload_n (q := 85) dX6_copy_84 rfl ?_ rfl
                  refine J.iald (n := 4) (q := 86) dX6_copy_85 rfl (by omega) ?_ rfl
                  refine J.iload (q := 88) dX6_copy_86 rfl ?_ rfl
                  refine J.isub (q := 89) dX6_copy_88 ?_ rfl
                  refine J.icmp_gt (tgt := 106) (q := 92) dX6_copy_89 rfl rfl (fun c89 => ?_) (fun c89 => ?_)
                  · refine J.aload_n (q := 107) dX6_copy_106 rfl ?_ rfl
                    refine J.iconst (q := 108) dX6_copy_107 ?_ rfl
                    refine J.callV1i (ci := 6) (q := 111) dX6_copy_108 mv_X6_no kL_X6_125 rfl (by decide) rfl ⟨by decide, by decide⟩ (Nat.le_of_ble_eq_true rfl) ⟨by decide, by decide⟩ rfl (c_X6_no (by omega)) ?_
                    refine J.ireturn dX6_copy_111 rfl ?_
                    unfold an_copy
                    (try rw [hi_61]); (try rw [hi_62]); (try rw [hi_63]); (try rw [hi_65]); (try rw [hi_70]); (try rw [hi_74]); (try rw [hi_75]); (try rw [hi_76])
                    repeat (first | rw [if_pos (by omega)] | rw [if_neg (by omega)])
                    first
                    | exact mpTF TF.rf
                    | exact mpTFb TF.rf
                    | exact mpTF hTF
                    | exact mpTFb hTF
                    | (exfalso; omega)
                  · refine J.iload (q := 94) dX6_copy_92 rfl ?_ rfl
                    refine J.aload_n (q := 95) dX6_copy_94 rfl ?_ rfl
                    refine J.getR (ci := 6) (k0 := 19) (c1 := 75) (q := 98) dX6_copy_95 kF_X6_51 rfl (by decide) (by decide) rfl (by decide) rfl ?_ rfl
                    refine J.iload_n (q := 99) dX6_copy_98 rfl ?_ rfl
                    refine J.iald (n := 4) (q := 100) dX6_copy_99 rfl (by omega) ?_ rfl
                    refine J.iload (q := 102) dX6_copy_100 rfl ?_ rfl
                    refine J.isub (q := 103) dX6_copy_102 ?_ rfl
                    refine J.icmp_le (tgt := 112) (q := 106) dX6_copy_103 rfl rfl (fun c103 => ?_) (fun c103 => ?_)
                    · refine J.iconst (q := 113) dX6_copy_112 ?_ rfl
                      refine J.istore (q := 115) dX6_copy_113 (Nat.le_of_ble_eq_true rfl) ?_ rfl
                      exact copy1_loop hA (by omega) (by omega) (by omega) (by omega) (by omega) (by
                        unfold an_copy
                        show (if (0 ≤ z ∧ z ≤ 3) ∧ (0 ≤ t ∧ t ≤ 3) then (if iv 74 z = 0 ∨ iv 74 t = 0 then bad (hi iv) 5 else if iv 74 z ≠ iv 74 t then bad (hi iv) 2 else if v < 0 ∨ x < 0 ∨ y < 0 ∨ iv 75 z - v < x ∨ iv 75 t - v < y then bad (hi iv) 0 else (v, setr (hi iv) 76 (cpyS (iv 76) (40 * z + x) (40 * t + y) v))) else bad (hi iv) 0) = _
                        rw [if_pos (by omega), if_neg (by omega), if_neg (by omega), if_neg (by omega)]) 41 0 _ (by omega) (by omega) ⟨fun q h => rfl, fun j h1 h2 => by omega⟩
                    · refine J.aload_n (q := 107) dX6_copy_106 rfl ?_ rfl
                      refine J.iconst (q := 108) dX6_copy_107 ?_ rfl
                      refine J.callV1i (ci := 6) (q := 111) dX6_copy_108 mv_X6_no kL_X6_125 rfl (by decide) rfl ⟨by decide, by decide⟩ (Nat.le_of_ble_eq_true rfl) ⟨by decide, by decide⟩ rfl (c_X6_no (by omega)) ?_
                      refine J.ireturn dX6_copy_111 rfl ?_
                      unfold an_copy
                      (try rw [hi_61]); (try rw [hi_62]); (try rw [hi_63]); (try rw [hi_65]); (try rw [hi_70]); (try rw [hi_74]); (try rw [hi_75]); (try rw [hi_76])
                      repeat (first | rw [if_pos (by omega)] | rw [if_neg (by omega)])
                      first
                      | exact mpTF TF.rf
                      | exact mpTFb TF.rf
                      | exact mpTF hTF
                      | exact mpTFb hTF
                      | (exfalso; omega)
          · refine J.aload_n (q := 60) dX6_copy_59 rfl ?_ rfl
            refine J.iconst (q := 61) dX6_copy_60 ?_ rfl
            refine J.callV1i (ci := 6) (q := 64) dX6_copy_61 mv_X6_no kL_X6_125 rfl (by decide) rfl ⟨by decide, by decide⟩ (Nat.le_of_ble_eq_true rfl) ⟨by decide, by decide⟩ rfl (c_X6_no (by omega)) ?_
            refine J.ireturn dX6_copy_64 rfl ?_
            unfold an_copy
            (try rw [hi_61]); (try rw [hi_62]); (try rw [hi_63]); (try rw [hi_65]); (try rw [hi_70]); (try rw [hi_74]); (try rw [hi_75]); (try rw [hi_76])
            repeat (first | rw [if_pos (by omega)] | rw [if_neg (by omega)])
            first
            | exact mpTF TF.rf
            | exact mpTFb TF.rf
            | exact mpTF hTF
            | exact mpTFb hTF
            | (exfalso; omega)
        · refine J.aload_n (q := 39) dX6_copy_38 rfl ?_ rfl
          refine J.iconst (q := 40) dX6_copy_39 ?_ rfl
          refine J.callV1i (ci := 6) (q := 43) dX6_copy_40 mv_X6_no kL_X6_125 rfl (by decide) rfl ⟨by decide, by decide⟩ (Nat.le_of_ble_eq_true rfl) ⟨by decide, by decide⟩ rfl (c_X6_no (by omega)) ?_
          refine J.ireturn dX6_copy_43 rfl ?_
          unfold an_copy
          (try rw [hi_61]); (try rw [hi_62]); (try rw [hi_63]); (try rw [hi_65]); (try rw [hi_70]); (try rw [hi_74]); (try rw [hi_75]); (try rw [hi_76])
          repeat (first | rw [if_pos (by omega)] | rw [if_neg (by omega)])
          first
          | exact mpTF TF.rf
          | exact mpTFb TF.rf
          | exact mpTF hTF
          | exact mpTFb hTF
          | (exfalso; omega)
    · refine J.aload_n (q := 15) dX6_copy_14 rfl ?_ rfl
      refine J.iconst (q := 16) dX6_copy_15 ?_ rfl
      refine J.callV1i (ci := 6) (q := 19) dX6_copy_16 mv_X6_no kL_X6_125 rfl (by decide) rfl ⟨by decide, by decide⟩ (Nat.le_of_ble_eq_true rfl) ⟨by decide, by decide⟩ rfl (c_X6_no (by omega)) ?_
      refine J.ireturn dX6_copy_19 rfl ?_
      unfold an_copy
      (try rw [hi_61]); (try rw [hi_62]); (try rw [hi_63]); (try rw [hi_65]); (try rw [hi_70]); (try rw [hi_74]); (try rw [hi_75]); (try rw [hi_76])
      repeat (first | rw [if_pos (by omega)] | rw [if_neg (by omega)])
      first
      | exact mpTF TF.rf
      | exact mpTFb TF.rf
      | exact mpTF hTF
      | exact mpTFb hTF
      | (exfalso; omega)

