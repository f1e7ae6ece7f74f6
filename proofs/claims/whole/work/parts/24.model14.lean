/-! the reference: copies, what's now, what's free, the tape (printed by wip/whole/m_model14.py) -/
theorem ior_up {s b : Int} {k : Nat} (hk : k < 8) (hs : 0 ≤ s ∧ s < 2 ^ k) (hb : b = 2 ^ k ∨ b = 0) : Int32.ofInt s ||| Int32.ofInt b = Int32.ofInt (s + b) := by
  obtain ⟨a, rfl⟩ := Int.eq_ofNat_of_zero_le hs.1
  rcases hb with rfl | rfl
  · have h1 : (2 : Int) ^ k = ((2 ^ k : Nat) : Int) := by rw [Int.natCast_pow]; rfl
    rw [h1] at hs ⊢
    have h2 : a < 2 ^ k := by omega
    have h3 : (2 : Nat) ^ k ≤ 128 := by
      have h : ∀ k : Nat, k < 8 → 2 ^ k ≤ 128 := by decide
      exact h k hk
    have h4 : 2 ^ k ||| a = 2 ^ k + a := (Nat.two_pow_add_eq_or_of_lt h2 1 |> fun h => by simpa using h.symm)
    have h5 : a ||| 2 ^ k = a + 2 ^ k := by rw [Nat.or_comm, h4, Nat.add_comm]
    have h6 : ∀ a : Nat, a < 256 → ∀ b : Nat, b < 256 → Int32.ofInt (a : Int) ||| Int32.ofInt (b : Int) = Int32.ofInt ((a ||| b : Nat) : Int) := by
      intro a ha b hb
      apply Int32.toBitVec_inj.mp
      rw [Int32.toBitVec_or]
      apply BitVec.eq_of_toNat_eq
      rw [BitVec.toNat_or]
      simp only [Int32.toBitVec_ofInt, BitVec.ofInt_natCast, BitVec.toNat_ofNat]
      have := Nat.or_lt_two_pow (n := 8) ha hb
      rw [Nat.mod_eq_of_lt (by omega), Nat.mod_eq_of_lt (by omega), Nat.mod_eq_of_lt (by omega)]
    rw [h6 a (by omega) (2 ^ k) (by omega), h5, Int.natCast_add]
  · rw [Int.add_zero]
    apply Int32.toBitVec_inj.mp
    rw [Int32.toBitVec_or]
    show _ ||| 0#32 = _
    rw [BitVec.or_zero]
theorem bits_rng {f : Int → Int} (hf : ∀ k : Nat, f k = 2 ^ k ∨ f k = 0) : ∀ n : Nat, 0 ≤ sumZ f n ∧ sumZ f n < 2 ^ n
  | 0 => by simp [sumZ]
  | n + 1 => by
    have h1 := bits_rng hf n
    have h2 := hf n
    rw [sumZ, Int.pow_succ]
    omega
theorem b2s_rng {p : Nat → Prop} [∀ k, Decidable (p k)] {f : Int → Int} (h : ∀ k : Nat, f k = b2 (p k)) (n : Nat) : 0 ≤ sumZ f n ∧ sumZ f n ≤ n := by
  have := sumZ_rng (f := f) (b := 1) (fun k => by rw [h k]; unfold b2; split <;> omega) n
  omega
set_option maxRecDepth 100000 in
set_option maxHeartbeats 4000000 in
theorem copy2_loop {l : Launch} {F : Nat × (Int → Int)} {iv : Mm} (hA : AI iv) {z x t y v : Int} (hz : 0 ≤ z ∧ z ≤ 3) (ht : 0 ≤ t ∧ t ≤ 3) (hv : 0 ≤ v) (hx : 0 ≤ x ∧ x ≤ iv 75 z - v) (hy : 0 ≤ y ∧ y ≤ iv 75 t - v) (hO : an_copy (hi iv) z x t y v = (v, setr (hi iv) 76 (cpyS (iv 76) (40 * z + x) (40 * t + y) v))) : ∀ (n : Nat) (i : Int) (iv1 : Mm), (v - i < n) → (0 ≤ i ∧ i ≤ v) → ((∀ q, q ≠ 76 → q ≠ 77 → iv1 q = iv q) ∧ (∀ j, 0 ≤ j → j < v → iv1 77 j = iv 76 (40 * z + x + j)) ∧ ∀ j, iv1 76 j = if 40 * t + y ≤ j ∧ j < 40 * t + y + i then iv 76 (40 * z + x + (j - (40 * t + y))) else iv 76 j) → J l (yX6_copy).cls cX6_copy 7 (some FieldType.int) 6 0 0 false F (MP iv (an_copy (hi iv) z x t y v)) 0 0 152 [some (r_ 61), some (i_ z), some (i_ x), some (i_ t), some (i_ y), some (i_ v), some (i_ i)] [] S0 (iv1) := by
  intro n
  induction n with
  | zero =>
    intro i iv1 hn hi hL
    omega
  | succ n ih =>
    intro i iv1 hn hi hL
    have hI := hA.mi
    have hmm := hI.many
    have hkp := hA.kp
    have htp := hA.tp
    have hs1 := hA.sh z hz.1 hz.2
    have hs2 := hA.sh t ht.1 ht.2
    refine J.iload (q := 154) dX6_copy_152 rfl ?_ rfl
    refine J.iload (q := 156) dX6_copy_154 rfl ?_ rfl
    refine J.icmp_ge (tgt := 187) (q := 159) dX6_copy_156 rfl rfl (fun c156 => ?_) (fun c156 => ?_)
    · refine J.iload (q := 189) dX6_copy_187 rfl ?_ rfl
      refine J.ireturn dX6_copy_189 rfl ?_
      have hi9 : i = v := by omega
      subst hi9
      rw [hO]
      refine mpMk rfl (fun q hq => hL.1 q (by omega) (by omega)) ⟨hL.1 62 (by decide) (by decide), hL.1 63 (by decide) (by decide), hL.1 65 (by decide) (by decide), hL.1 70 (by decide) (by decide), hL.1 74 (by decide) (by decide), hL.1 75 (by decide) (by decide), funext hL.2.2, by rw [hL.1 61 (by decide) (by decide)]; rfl, by rw [hL.1 61 (by decide) (by decide)]; rfl⟩
    · refine J.aload_n (q := 160) dX6_copy_159 rfl ?_ rfl
      refine J.getR (ci := 6) (k0 := 20) (c1 := 76) (q := 163) dX6_copy_160 kF_X6_54 rfl (by decide) (by decide) rfl (by decide) rfl ?_ rfl
      refine J.bipush (q := 165) dX6_copy_163 (by decide) ?_ rfl
      refine J.iload_n (q := 166) dX6_copy_165 rfl ?_ rfl
      refine J.imul (q := 167) dX6_copy_166 ?_ rfl
      refine J.iload (q := 169) dX6_copy_167 rfl ?_ rfl
      refine J.iadd (q := 170) dX6_copy_169 ?_ rfl
      refine J.iload (q := 172) dX6_copy_170 rfl ?_ rfl
      refine J.iadd (q := 173) dX6_copy_172 ?_ rfl
      refine J.aload_n (q := 174) dX6_copy_173 rfl ?_ rfl
      refine J.getR (ci := 6) (k0 := 21) (c1 := 77) (q := 177) dX6_copy_174 kF_X6_57 rfl (by decide) (by decide) rfl (by decide) rfl ?_ rfl
      refine J.iload (q := 179) dX6_copy_177 rfl ?_ rfl
      refine J.iald (n := 40) (q := 180) dX6_copy_179 rfl (by omega) ?_ rfl
      rw [hL.2.1 i (by omega) (by omega)]
      refine J.iast (n := 160) (q := 181) dX6_copy_180 rfl (by omega) ?_ rfl
      refine J.iinc (q := 184) dX6_copy_181 rfl ?_ rfl
      refine J.goto (tgt := 152) dX6_copy_184 rfl ?_
      refine ih (i + 1) _ (by omega) (by omega) ⟨fun q h1 h2 => (up_n _ _ _ h1).trans (hL.1 q h1 h2), fun j h1 h2 => by rw [up_n _ _ _ (by decide)]; exact hL.2.1 j h1 h2, fun j => ?_⟩
      rw [up_s]
      by_cases h : j = 40 * t + y + i
      · subst h; rw [upr_s, if_pos (by omega), show 40 * t + y + i - (40 * t + y) = i by omega]
      · rw [upr_n _ _ h, hL.2.2 j]
        by_cases h9 : 40 * t + y ≤ j ∧ j < 40 * t + y + i
        · rw [if_pos h9, if_pos (by omega)]
        · rw [if_neg h9, if_neg (by omega)]

set_option maxRecDepth 100000 in
set_option maxHeartbeats 4000000 in
theorem copy1_loop {l : Launch} {F : Nat × (Int → Int)} {iv : Mm} (hA : AI iv) {z x t y v : Int} (hz : 0 ≤ z ∧ z ≤ 3) (ht : 0 ≤ t ∧ t ≤ 3) (hv : 0 ≤ v) (hx : 0 ≤ x ∧ x ≤ iv 75 z - v) (hy : 0 ≤ y ∧ y ≤ iv 75 t - v) (hO : an_copy (hi iv) z x t y v = (v, setr (hi iv) 76 (cpyS (iv 76) (40 * z + x) (40 * t + y) v))) : ∀ (n : Nat) (i : Int) (iv1 : Mm), (v - i < n) → (0 ≤ i ∧ i ≤ v) → ((∀ q, q ≠ 77 → iv1 q = iv q) ∧ ∀ j, 0 ≤ j → j < i → iv1 77 j = iv 76 (40 * z + x + j)) → J l (yX6_copy).cls cX6_copy 7 (some FieldType.int) 6 0 0 false F (MP iv (an_copy (hi iv) z x t y v)) 0 0 115 [some (r_ 61), some (i_ z), some (i_ x), some (i_ t), some (i_ y), some (i_ v), some (i_ i)] [] S0 (iv1) := by
  intro n
  induction n with
  | zero =>
    intro i iv1 hn hi hL
    omega
  | succ n ih =>
    intro i iv1 hn hi hL
    have hI := hA.mi
    have hmm := hI.many
    have hkp := hA.kp
    have htp := hA.tp
    have hs1 := hA.sh z hz.1 hz.2
    have hs2 := hA.sh t ht.1 ht.2
    refine J.iload (q := 117) dX6_copy_115 rfl ?_ rfl
    refine J.iload (q := 119) dX6_copy_117 rfl ?_ rfl
    refine J.icmp_ge (tgt := 149) (q := 122) dX6_copy_119 rfl rfl (fun c119 => ?_) (fun c119 => ?_)
    · refine J.iconst (q := 150) dX6_copy_149 ?_ rfl
      refine J.istore (q := 152) dX6_copy_150 (Nat.le_of_ble_eq_true rfl) ?_ rfl
      have hi9 : i = v := by omega
      subst hi9
      exact copy2_loop hA hz ht hv hx hy hO 41 0 _ (by omega) (by omega) ⟨fun q h1 h2 => hL.1 q h2, hL.2, fun j => by rw [if_neg (by omega), hL.1 76 (by decide)]⟩
    · refine J.aload_n (q := 123) dX6_copy_122 rfl ?_ rfl
      refine J.getR (ci := 6) (k0 := 21) (c1 := 77) (q := 126) dX6_copy_123 kF_X6_57 rfl (by decide) (by decide) rfl (by decide) rfl ?_ rfl
      refine J.iload (q := 128) dX6_copy_126 rfl ?_ rfl
      refine J.aload_n (q := 129) dX6_copy_128 rfl ?_ rfl
      refine J.getR (ci := 6) (k0 := 20) (c1 := 76) (q := 132) dX6_copy_129 kF_X6_54 rfl (by decide) (by decide) rfl (by decide) rfl ?_ rfl
      refine J.bipush (q := 134) dX6_copy_132 (by decide) ?_ rfl
      refine J.iload_n (q := 135) dX6_copy_134 rfl ?_ rfl
      refine J.imul (q := 136) dX6_copy_135 ?_ rfl
      refine J.iload_n (q := 137) dX6_copy_136 rfl ?_ rfl
      refine J.iadd (q := 138) dX6_copy_137 ?_ rfl
      refine J.iload (q := 140) dX6_copy_138 rfl ?_ rfl
      refine J.iadd (q := 141) dX6_copy_140 ?_ rfl
      refine J.iald (n := 160) (q := 142) dX6_copy_141 rfl (by omega) ?_ rfl
      rw [hL.1 76 (by decide)]
      refine J.iast (n := 40) (q := 143) dX6_copy_142 rfl (by omega) ?_ rfl
      refine J.iinc (q := 146) dX6_copy_143 rfl ?_ rfl
      refine J.goto (tgt := 115) dX6_copy_146 rfl ?_
      refine ih (i + 1) _ (by omega) (by omega) ⟨fun q h1 => (up_n _ _ _ h1).trans (hL.1 q h1), fun j h1 h2 => ?_⟩
      rw [up_s]
      by_cases h : j = i
      · subst h; rw [upr_s]
      · rw [upr_n _ _ h, hL.2 j h1 (by omega)]

set_option maxRecDepth 100000 in
set_option maxHeartbeats 4000000 in
theorem c_X6_copy {l : Launch} {F : Nat × (Int → Int)} {iv : Mm} (hA : AI iv) {z x t y v : Int} (hz : -2147483648 ≤ z ∧ z < 2147483648) (hx : -2147483648 ≤ x ∧ x < 2147483648) (ht : -2147483648 ≤ t ∧ t < 2147483648) (hy : -2147483648 ≤ y ∧ y < 2147483648) (hv : -2147483648 ≤ v ∧ v < 2147483648) : Ctr l F 6 0 0 yX6_copy cX6_copy 7 (some FieldType.int) [r_ 61, i_ z, i_ x, i_ t, i_ y, i_ v] S0 (iv) (MP iv (an_copy (hi iv) z x t y v)) := by
  refine Ctr.of false (fun h => by cases h) (by decide) rfl (Nat.le_of_ble_eq_true rfl) ?_
  have hI := hA.mi
  have hmm := hI.many
  have hkp := hA.kp
  have htp := hA.tp
  refine J.iload_n (q := 1) dX6_copy_0 rfl ?_ rfl
  refine J.callS1i (q := 4) dX6_copy_1 mv_X6_isSheet kS_X6_isSheet kL_X6_177 ⟨by decide, by decide⟩ (Nat.le_of_ble_eq_true rfl) ⟨by decide, by decide⟩ rfl (c_X6_isSheet (by omega)) ?_
  refine J.ifb_eq (tgt := 14) (q := 7) dX6_copy_4 rfl rfl (fun c4 => ?_) (fun c4 => ?_)
  · refine J.aload_n (q := 15) dX6_copy_14 rfl ?_ rfl
    refine J.iconst (q := 16) dX6_copy_15 ?_ rfl
    refine J.callV1i (ci := 6) (q := 19) dX6_copy_16 mv_X6_no kL_X6_125 rfl (by decide) rfl ⟨by decide, by decide⟩ (Nat.le_of_ble_eq_true rfl) ⟨by decide, by decide⟩ rfl (c_X6_no (by omega)) ?_
    refine J.ireturn dX6_copy_19 rfl ?_
    unfold an_copy
    (try rw [hi_61]); (try rw [hi_62]); (try rw [hi_63]); (try rw [hi_65]); (try rw [hi_70]); (try rw [hi_74]); (try rw [hi_75]); (try rw [hi_76])
    repeat (first | rw [if_pos (by omega)] | rw [if_neg (by omega)])
    first
    | exact mpTF TF.rf
    | exact mpTFb TF.rf
    | exact mpTF hTF
    | exact mpTFb hTF
    | (exfalso; omega)
  · refine J.iload_n (q := 8) dX6_copy_7 rfl ?_ rfl
    refine J.callS1i (q := 11) dX6_copy_8 mv_X6_isSheet kS_X6_isSheet kL_X6_177 ⟨by decide, by decide⟩ (Nat.le_of_ble_eq_true rfl) ⟨by decide, by decide⟩ rfl (c_X6_isSheet (by omega)) ?_
    refine J.ifb_ne (tgt := 20) (q := 14) dX6_copy_11 rfl rfl (fun c11 => ?_) (fun c11 => ?_)
    · refine J.aload_n (q := 21) dX6_copy_20 rfl ?_ rfl
      refine J.getR (ci := 6) (k0 := 18) (c1 := 74) (q := 24) dX6_copy_21 kF_X6_48 rfl (by decide) (by decide) rfl (by decide) rfl ?_ rfl
      refine J.iload_n (q := 25) dX6_copy_24 rfl ?_ rfl
      refine J.iald (n := 4) (q := 26) dX6_copy_25 rfl (by omega) ?_ rfl
      have hs1 := hA.sh z (by omega) (by omega)
      have hs2 := hA.sh t (by omega) (by omega)
      refine J.if_eq (tgt := 38) (q := 29) dX6_copy_26 rfl rfl (fun c26 => ?_) (fun c26 => ?_)
      · refine J.aload_n (q := 39) dX6_copy_38 rfl ?_ rfl
        refine J.iconst (q := 40) dX6_copy_39 ?_ rfl
        refine J.callV1i (ci := 6) (q := 43) dX6_copy_40 mv_X6_no kL_X6_125 rfl (by decide) rfl ⟨by decide, by decide⟩ (Nat.le_of_ble_eq_true rfl) ⟨by decide, by decide⟩ rfl (c_X6_no (by omega)) ?_
        refine J.ireturn dX6_copy_43 rfl ?_
        unfold an_copy
        (try rw [hi_61]); (try rw [hi_62]); (try rw [hi_63]); (try rw [hi_65]); (try rw [hi_70]); (try rw [hi_74]); (try rw [hi_75]); (try rw [hi_76])
        repeat (first | rw [if_pos (by omega)] | rw [if_neg (by omega)])
        first
        | exact mpTF TF.rf
        | exact mpTFb TF.rf
        | exact mpTF hTF
        | exact mpTFb hTF
        | (exfalso; omega)
      · refine J.aload_n (q := 30) dX6_copy_29 rfl ?_ rfl
        refine J.getR (ci := 6) (k0 := 18) (c1 := 74) (q := 33) dX6_copy_30 kF_X6_48 rfl (by decide) (by decide) rfl (by decide) rfl ?_ rfl
        refine J.iload_n (q := 34) dX6_copy_33 rfl ?_ rfl
        refine J.iald (n := 4) (q := 35) dX6_copy_34 rfl (by omega) ?_ rfl
        refine J.if_ne (tgt := 44) (q := 38) dX6_copy_35 rfl rfl (fun c35 => ?_) (fun c35 => ?_)
        · refine J.aload_n (q := 45) dX6_copy_44 rfl ?_ rfl
          refine J.getR (ci := 6) (k0 := 18) (c1 := 74) (q := 48) dX6_copy_45 kF_X6_48 rfl (by decide) (by decide) rfl (by decide) rfl ?_ rfl
          refine J.iload_n (q := 49) dX6_copy_48 rfl ?_ rfl
          refine J.iald (n := 4) (q := 50) dX6_copy_49 rfl (by omega) ?_ rfl
          refine J.aload_n (q := 51) dX6_copy_50 rfl ?_ rfl
          refine J.getR (ci := 6) (k0 := 18) (c1 := 74) (q := 54) dX6_copy_51 kF_X6_48 rfl (by decide) (by decide) rfl (by decide) rfl ?_ rfl
          refine J.iload_n (q := 55) dX6_copy_54 rfl ?_ rfl
          refine J.iald (n := 4) (q := 56) dX6_copy_55 rfl (by omega) ?_ rfl
          refine J.icmp_eq (tgt := 65) (q := 59) dX6_copy_56 rfl rfl (fun c56 => ?_) (fun c56 => ?_)
          · refine J.iload (q := 67) dX6_copy_65 rfl ?_ rfl
            refine J.if_lt (tgt := 106) (q := 70) dX6_copy_67 rfl rfl (fun c67 => ?_) (fun c67 => ?_)
            · refine J.aload_n (q := 107) dX6_copy_106 rfl ?_ rfl
              refine J.iconst (q := 108) dX6_copy_107 ?_ rfl
              refine J.callV1i (ci := 6) (q := 111) dX6_copy_108 mv_X6_no kL_X6_125 rfl (by decide) rfl ⟨by decide, by decide⟩ (Nat.le_of_ble_eq_true rfl) ⟨by decide, by decide⟩ rfl (c_X6_no (by omega)) ?_
              refine J.ireturn dX6_copy_111 rfl ?_
              unfold an_copy
              (try rw [hi_61]); (try rw [hi_62]); (try rw [hi_63]); (try rw [hi_65]); (try rw [hi_70]); (try rw [hi_74]); (try rw [hi_75]); (try rw [hi_76])
              repeat (first | rw [if_pos (by omega)] | rw [if_neg (by omega)])
              first
              | exact mpTF TF.rf
              | exact mpTFb TF.rf
              | exact mpTF hTF
              | exact mpTFb hTF
              | (exfalso; omega)
            · refine J.iload_n (q := 71) dX6_copy_70 rfl ?_ rfl
              refine J.if_lt (tgt := 106) (q := 74) dX6_copy_71 rfl rfl (fun c71 => ?_) (fun c71 => ?_)
              · refine J.aload_n (q := 107) dX6_copy_106 rfl ?_ rfl
                refine J.iconst (q := 108) dX6_copy_107 ?_ rfl
                refine J.callV1i (ci := 6) (q := 111) dX6_copy_108 mv_X6_no kL_X6_125 rfl (by decide) rfl ⟨by decide, by decide⟩ (Nat.le_of_ble_eq_true rfl) ⟨by decide, by decide⟩ rfl (c_X6_no (by omega)) ?_
                refine J.ireturn dX6_copy_111 rfl ?_
                unfold an_copy
                (try rw [hi_61]); (try rw [hi_62]); (try rw [hi_63]); (try rw [hi_65]); (try rw [hi_70]); (try rw [hi_74]); (try rw [hi_75]); (try rw [hi_76])
                repeat (first | rw [if_pos (by omega)] | rw [if_neg (by omega)])
                first
                | exact mpTF TF.rf
                | exact mpTFb TF.rf
                | exact mpTF hTF
                | exact mpTFb hTF
                | (exfalso; omega)
              · refine J.iload (q := 76) dX6_copy_74 rfl ?_ rfl
                refine J.if_lt (tgt := 106) (q := 79) dX6_copy_76 rfl rfl (fun c76 => ?_) (fun c76 => ?_)
                · refine J.aload_n (q := 107) dX6_copy_106 rfl ?_ rfl
                  refine J.iconst (q := 108) dX6_copy_107 ?_ rfl
                  refine J.callV1i (ci := 6) (q := 111) dX6_copy_108 mv_X6_no kL_X6_125 rfl (by decide) rfl ⟨by decide, by decide⟩ (Nat.le_of_ble_eq_true rfl) ⟨by decide, by decide⟩ rfl (c_X6_no (by omega)) ?_
                  refine J.ireturn dX6_copy_111 rfl ?_
                  unfold an_copy
                  (try rw [hi_61]); (try rw [hi_62]); (try rw [hi_63]); (try rw [hi_65]); (try rw [hi_70]); (try rw [hi_74]); (try rw [hi_75]); (try rw [hi_76])
                  repeat (first | rw [if_pos (by omega)] | rw [if_neg (by omega)])
                  first
                  | exact mpTF TF.rf
                  | exact mpTFb TF.rf
                  | exact mpTF hTF
                  | exact mpTFb hTF
                  | (exfalso; omega)
                · refine J.iload_n (q := 80) dX6_copy_79 rfl ?_ rfl
                  refine J.aload_n (q := 81) dX6_copy_80 rfl ?_ rfl
                  refine J.getR (ci := 6) (k0 := 19) (c1 := 75) (q := 84) dX6_copy_81 kF_X6_51 rfl (by decide) (by decide) rfl (by decide) rfl ?_ rfl
                  refine J.iload_n (q := 85) dX6_copy_84 rfl ?_ rfl
                  refine J.iald (n := 4) (q := 86) dX6_copy_85 rfl (by omega) ?_ rfl
                  refine J.iload (q := 88) dX6_copy_86 rfl ?_ rfl
                  refine J.isub (q := 89) dX6_copy_88 ?_ rfl
                  refine J.icmp_gt (tgt := 106) (q := 92) dX6_copy_89 rfl rfl (fun c89 => ?_) (fun c89 => ?_)
                  · refine J.aload_n (q := 107) dX6_copy_106 rfl ?_ rfl
                    refine J.iconst (q := 108) dX6_copy_107 ?_ rfl
                    refine J.callV1i (ci := 6) (q := 111) dX6_copy_108 mv_X6_no kL_X6_125 rfl (by decide) rfl ⟨by decide, by decide⟩ (Nat.le_of_ble_eq_true rfl) ⟨by decide, by decide⟩ rfl (c_X6_no (by omega)) ?_
                    refine J.ireturn dX6_copy_111 rfl ?_
                    unfold an_copy
                    (try rw [hi_61]); (try rw [hi_62]); (try rw [hi_63]); (try rw [hi_65]); (try rw [hi_70]); (try rw [hi_74]); (try rw [hi_75]); (try rw [hi_76])
                    repeat (first | rw [if_pos (by omega)] | rw [if_neg (by omega)])
                    first
                    | exact mpTF TF.rf
                    | exact mpTFb TF.rf
                    | exact mpTF hTF
                    | exact mpTFb hTF
                    | (exfalso; omega)
                  · refine J.iload (q := 94) dX6_copy_92 rfl ?_ rfl
                    refine J.aload_n (q := 95) dX6_copy_94 rfl ?_ rfl
                    refine J.getR (ci := 6) (k0 := 19) (c1 := 75) (q := 98) dX6_copy_95 kF_X6_51 rfl (by decide) (by decide) rfl (by decide) rfl ?_ rfl
                    refine J.iload_n (q := 99) dX6_copy_98 rfl ?_ rfl
                    refine J.iald (n := 4) (q := 100) dX6_copy_99 rfl (by omega) ?_ rfl
                    refine J.iload (q := 102) dX6_copy_100 rfl ?_ rfl
                    refine J.isub (q := 103) dX6_copy_102 ?_ rfl
                    refine J.icmp_le (tgt := 112) (q := 106) dX6_copy_103 rfl rfl (fun c103 => ?_) (fun c103 => ?_)
                    · refine J.iconst (q := 113) dX6_copy_112 ?_ rfl
                      refine J.istore (q := 115) dX6_copy_113 (Nat.le_of_ble_eq_true rfl) ?_ rfl
                      exact copy1_loop hA (by omega) (by omega) (by omega) (by omega) (by omega) (by
                        unfold an_copy
                        show (if (0 ≤ z ∧ z ≤ 3) ∧ (0 ≤ t ∧ t ≤ 3) then (if iv 74 z = 0 ∨ iv 74 t = 0 then bad (hi iv) 5 else if iv 74 z ≠ iv 74 t then bad (hi iv) 2 else if v < 0 ∨ x < 0 ∨ y < 0 ∨ iv 75 z - v < x ∨ iv 75 t - v < y then bad (hi iv) 0 else (v, setr (hi iv) 76 (cpyS (iv 76) (40 * z + x) (40 * t + y) v))) else bad (hi iv) 0) = _
                        rw [if_pos (by omega), if_neg (by omega), if_neg (by omega), if_neg (by omega)]) 41 0 _ (by omega) (by omega) ⟨fun q h => rfl, fun j h1 h2 => by omega⟩
                    · refine J.aload_n (q := 107) dX6_copy_106 rfl ?_ rfl
                      refine J.iconst (q := 108) dX6_copy_107 ?_ rfl
                      refine J.callV1i (ci := 6) (q := 111) dX6_copy_108 mv_X6_no kL_X6_125 rfl (by decide) rfl ⟨by decide, by decide⟩ (Nat.le_of_ble_eq_true rfl) ⟨by decide, by decide⟩ rfl (c_X6_no (by omega)) ?_
                      refine J.ireturn dX6_copy_111 rfl ?_
                      unfold an_copy
                      (try rw [hi_61]); (try rw [hi_62]); (try rw [hi_63]); (try rw [hi_65]); (try rw [hi_70]); (try rw [hi_74]); (try rw [hi_75]); (try rw [hi_76])
                      repeat (first | rw [if_pos (by omega)] | rw [if_neg (by omega)])
                      first
                      | exact mpTF TF.rf
                      | exact mpTFb TF.rf
                      | exact mpTF hTF
                      | exact mpTFb hTF
                      | (exfalso; omega)
          · refine J.aload_n (q := 60) dX6_copy_59 rfl ?_ rfl
            refine J.iconst (q := 61) dX6_copy_60 ?_ rfl
            refine J.callV1i (ci := 6) (q := 64) dX6_copy_61 mv_X6_no kL_X6_125 rfl (by decide) rfl ⟨by decide, by decide⟩ (Nat.le_of_ble_eq_true rfl) ⟨by decide, by decide⟩ rfl (c_X6_no (by omega)) ?_
            refine J.ireturn dX6_copy_64 rfl ?_
            unfold an_copy
            (try rw [hi_61]); (try rw [hi_62]); (try rw [hi_63]); (try rw [hi_65]); (try rw [hi_70]); (try rw [hi_74]); (try rw [hi_75]); (try rw [hi_76])
            repeat (first | rw [if_pos (by omega)] | rw [if_neg (by omega)])
            first
            | exact mpTF TF.rf
            | exact mpTFb TF.rf
            | exact mpTF hTF
            | exact mpTFb hTF
            | (exfalso; omega)
        · refine J.aload_n (q := 39) dX6_copy_38 rfl ?_ rfl
          refine J.iconst (q := 40) dX6_copy_39 ?_ rfl
          refine J.callV1i (ci := 6) (q := 43) dX6_copy_40 mv_X6_no kL_X6_125 rfl (by decide) rfl ⟨by decide, by decide⟩ (Nat.le_of_ble_eq_true rfl) ⟨by decide, by decide⟩ rfl (c_X6_no (by omega)) ?_
          refine J.ireturn dX6_copy_43 rfl ?_
          unfold an_copy
          (try rw [hi_61]); (try rw [hi_62]); (try rw [hi_63]); (try rw [hi_65]); (try rw [hi_70]); (try rw [hi_74]); (try rw [hi_75]); (try rw [hi_76])
          repeat (first | rw [if_pos (by omega)] | rw [if_neg (by omega)])
          first
          | exact mpTF TF.rf
          | exact mpTFb TF.rf
          | exact mpTF hTF
          | exact mpTFb hTF
          | (exfalso; omega)
    · refine J.aload_n (q := 15) dX6_copy_14 rfl ?_ rfl
      refine J.iconst (q := 16) dX6_copy_15 ?_ rfl
      refine J.callV1i (ci := 6) (q := 19) dX6_copy_16 mv_X6_no kL_X6_125 rfl (by decide) rfl ⟨by decide, by decide⟩ (Nat.le_of_ble_eq_true rfl) ⟨by decide, by decide⟩ rfl (c_X6_no (by omega)) ?_
      refine J.ireturn dX6_copy_19 rfl ?_
      unfold an_copy
      (try rw [hi_61]); (try rw [hi_62]); (try rw [hi_63]); (try rw [hi_65]); (try rw [hi_70]); (try rw [hi_74]); (try rw [hi_75]); (try rw [hi_76])
      repeat (first | rw [if_pos (by omega)] | rw [if_neg (by omega)])
      first
      | exact mpTF TF.rf
      | exact mpTFb TF.rf
      | exact mpTF hTF
      | exact mpTFb hTF
      | (exfalso; omega)

set_option maxRecDepth 100000 in
set_option maxHeartbeats 4000000 in
theorem now3_loop {l : Launch} {F : Nat × (Int → Int)} {iv : Mm} (hA : AI iv) : ∀ (n : Nat) (c : Nat), (81 - (c : Int) < n) → ((c : Int) ≤ 81) → J l (yX6_now).cls cX6_now 4 (some FieldType.int) 6 0 0 false F (MP iv (sumZ (fun c => iv 62 (95 + c)) 81, hi iv)) 0 0 61 [some (r_ 61), some (i_ 3), some (i_ (sumZ (fun c => iv 62 (95 + c)) c)), some (i_ (c : Int))] [] S0 (iv) := by
  intro n
  induction n with
  | zero =>
    intro c hn hc
    omega
  | succ n ih =>
    intro c hn hc
    have hI := hA.mi
    have hmm := hI.many
    have hkp := hA.kp
    have htp := hA.tp
    refine J.iload_n (q := 62) dX6_now_61 rfl ?_ rfl
    refine J.bipush (q := 64) dX6_now_62 (by decide) ?_ rfl
    refine J.icmp_ge (tgt := 85) (q := 67) dX6_now_64 rfl rfl (fun c64 => ?_) (fun c64 => ?_)
    · refine J.iload_n (q := 86) dX6_now_85 rfl ?_ rfl
      refine J.ireturn dX6_now_86 rfl ?_
      have hc81 : c = 81 := by omega
      subst hc81
      exact ⟨rfl, rfl, fun _ _ => rfl, rfl, rfl, rfl, rfl, rfl, rfl, rfl, rfl, rfl⟩
    · refine J.iload_n (q := 68) dX6_now_67 rfl ?_ rfl
      refine J.aload_n (q := 69) dX6_now_68 rfl ?_ rfl
      refine J.getR (ci := 6) (k0 := 0) (c1 := 62) (q := 72) dX6_now_69 kF_X6_9 rfl (by decide) (by decide) rfl (by decide) rfl ?_ rfl
      refine J.bipush (q := 74) dX6_now_72 (by decide) ?_ rfl
      refine J.iload_n (q := 75) dX6_now_74 rfl ?_ rfl
      refine J.iadd (q := 76) dX6_now_75 ?_ rfl
      refine J.iald (n := 307) (q := 77) dX6_now_76 rfl (by omega) ?_ rfl
      have he : (fun c => iv 62 (95 + c)) (c : Int) = iv 62 (95 + c) := rfl
      refine J.iadd (q := 78) dX6_now_77 ?_ rfl
      refine J.istore_n (q := 79) dX6_now_78 (Nat.le_of_ble_eq_true rfl) ?_ rfl
      refine J.iinc (q := 82) dX6_now_79 rfl ?_ rfl
      refine J.goto (tgt := 61) dX6_now_82 rfl ?_
      have e2 : sumZ (fun c => iv 62 (95 + c)) (c + 1) = sumZ (fun c => iv 62 (95 + c)) c + (fun c => iv 62 (95 + c)) (c : Int) := rfl
      rw [he] at e2
      refine J.eql (by rw [← e2]; rfl) (ih (c + 1) (by omega) (by omega))

set_option maxRecDepth 100000 in
set_option maxHeartbeats 4000000 in
theorem now5_loop {l : Launch} {F : Nat × (Int → Int)} {iv : Mm} (hA : AI iv) : ∀ (n : Nat) (c : Nat), (iv 62 2 - (c : Int) < n) → ((c : Int) ≤ iv 62 2) → J l (yX6_now).cls cX6_now 4 (some FieldType.int) 6 0 0 false F (MP iv (gatS (iv 62), hi iv)) 0 0 96 [some (r_ 61), some (i_ 5), some (i_ (sumZ (fun k => if k < iv 62 2 ∧ iv 62 (257 + 5 * k + 1) = iv 62 (257 + 5 * k + 3) then (2 : Int) ^ k.toNat else 0) c)), some (i_ (c : Int))] [] S0 (iv) := by
  intro n
  induction n with
  | zero =>
    intro c hn hc
    omega
  | succ n ih =>
    intro c hn hc
    have hI := hA.mi
    have hmm := hI.many
    have hkp := hA.kp
    have htp := hA.tp
    refine J.iload_n (q := 97) dX6_now_96 rfl ?_ rfl
    refine J.aload_n (q := 98) dX6_now_97 rfl ?_ rfl
    refine J.getR (ci := 6) (k0 := 0) (c1 := 62) (q := 101) dX6_now_98 kF_X6_9 rfl (by decide) (by decide) rfl (by decide) rfl ?_ rfl
    refine J.iconst (q := 102) dX6_now_101 ?_ rfl
    refine J.iald (n := 307) (q := 103) dX6_now_102 rfl (by omega) ?_ rfl
    refine J.icmp_ge (tgt := 130) (q := 106) (hv := by omega) dX6_now_103 rfl rfl (fun c103 => ?_) (fun c103 => ?_)
    · refine J.iload_n (q := 131) dX6_now_130 rfl ?_ rfl
      refine J.ireturn dX6_now_131 rfl ?_
      have hcs : sumZ (fun k => if k < iv 62 2 ∧ iv 62 (257 + 5 * k + 1) = iv 62 (257 + 5 * k + 3) then (2 : Int) ^ k.toNat else 0) 8 = sumZ (fun k => if k < iv 62 2 ∧ iv 62 (257 + 5 * k + 1) = iv 62 (257 + 5 * k + 3) then (2 : Int) ^ k.toNat else 0) c := sumZ_stop 8 (by omega) (fun k h1 h2 => if_neg (by omega))
      have hgs : gatS (iv 62) = sumZ (fun k => if k < iv 62 2 ∧ iv 62 (257 + 5 * k + 1) = iv 62 (257 + 5 * k + 3) then (2 : Int) ^ k.toNat else 0) c := hcs
      rw [hgs]
      exact ⟨rfl, rfl, fun _ _ => rfl, rfl, rfl, rfl, rfl, rfl, rfl, rfl, rfl, rfl⟩
    · have hsn := hI.sna c (by omega) (by omega)
      have hbr := bits_rng (f := (fun k => if k < iv 62 2 ∧ iv 62 (257 + 5 * k + 1) = iv 62 (257 + 5 * k + 3) then (2 : Int) ^ k.toNat else 0)) (fun k => by split <;> simp) c
      refine J.iload_n (q := 107) dX6_now_106 rfl ?_ rfl
      refine J.aload_n (q := 108) dX6_now_107 rfl ?_ rfl
      refine J.iload_n (q := 109) dX6_now_108 rfl ?_ rfl
      refine J.callV1i (ci := 6) (q := 112) dX6_now_109 mv_X6_isThere kL_X6_143 rfl (by decide) rfl ⟨by decide, by decide⟩ (Nat.le_of_ble_eq_true rfl) ⟨by decide, by decide⟩ rfl (c_X6_isThere (by omega) (by omega) (by omega)) ?_
      refine J.ifb_eq (tgt := 121) (q := 115) dX6_now_112 rfl rfl (fun c112 => ?_) (fun c112 => ?_)
      · have he : (fun k => if k < iv 62 2 ∧ iv 62 (257 + 5 * k + 1) = iv 62 (257 + 5 * k + 3) then (2 : Int) ^ k.toNat else 0) (c : Int) = 0 := if_neg (by omega)
        refine J.iconst (q := 122) dX6_now_121 ?_ rfl
        refine J.ior (q := 123) dX6_now_122 (ior_up (k := c) (by omega) hbr (by first | exact Or.inl (Int.one_mul _) | exact Or.inr rfl)) ?_ rfl
        refine J.istore_n (q := 124) dX6_now_123 (Nat.le_of_ble_eq_true rfl) ?_ rfl
        refine J.iinc (q := 127) dX6_now_124 rfl ?_ rfl
        refine J.goto (tgt := 96) dX6_now_127 rfl ?_
        have e2 : sumZ (fun k => if k < iv 62 2 ∧ iv 62 (257 + 5 * k + 1) = iv 62 (257 + 5 * k + 3) then (2 : Int) ^ k.toNat else 0) (c + 1) = sumZ (fun k => if k < iv 62 2 ∧ iv 62 (257 + 5 * k + 1) = iv 62 (257 + 5 * k + 3) then (2 : Int) ^ k.toNat else 0) c + (fun k => if k < iv 62 2 ∧ iv 62 (257 + 5 * k + 1) = iv 62 (257 + 5 * k + 3) then (2 : Int) ^ k.toNat else 0) (c : Int) := rfl
        rw [he] at e2
        refine J.eql (by rw [← e2]; rfl) (ih (c + 1) (by omega) (by omega))
      · have he : (fun k => if k < iv 62 2 ∧ iv 62 (257 + 5 * k + 1) = iv 62 (257 + 5 * k + 3) then (2 : Int) ^ k.toNat else 0) (c : Int) = 1 * 2 ^ c := (if_pos (by omega)).trans (by rw [Int.toNat_natCast, Int.one_mul])
        refine J.iconst (q := 116) dX6_now_115 ?_ rfl
        refine J.iload_n (q := 117) dX6_now_116 rfl ?_ rfl
        refine J.ishl (q := 118) dX6_now_117 (I3_shl c (by omega) rfl rfl) ?_ rfl
        refine J.goto (tgt := 122) dX6_now_118 rfl ?_
        refine J.ior (q := 123) dX6_now_122 (ior_up (k := c) (by omega) hbr (by first | exact Or.inl (Int.one_mul _) | exact Or.inr rfl)) ?_ rfl
        refine J.istore_n (q := 124) dX6_now_123 (Nat.le_of_ble_eq_true rfl) ?_ rfl
        refine J.iinc (q := 127) dX6_now_124 rfl ?_ rfl
        refine J.goto (tgt := 96) dX6_now_127 rfl ?_
        have e2 : sumZ (fun k => if k < iv 62 2 ∧ iv 62 (257 + 5 * k + 1) = iv 62 (257 + 5 * k + 3) then (2 : Int) ^ k.toNat else 0) (c + 1) = sumZ (fun k => if k < iv 62 2 ∧ iv 62 (257 + 5 * k + 1) = iv 62 (257 + 5 * k + 3) then (2 : Int) ^ k.toNat else 0) c + (fun k => if k < iv 62 2 ∧ iv 62 (257 + 5 * k + 1) = iv 62 (257 + 5 * k + 3) then (2 : Int) ^ k.toNat else 0) (c : Int) := rfl
        rw [he] at e2
        refine J.eql (by rw [← e2]; rfl) (ih (c + 1) (by omega) (by omega))

set_option maxRecDepth 100000 in
set_option maxHeartbeats 4000000 in
theorem c_X6_now {l : Launch} {F : Nat × (Int → Int)} {iv : Mm} (hA : AI iv) {w : Int} (hw : -2147483648 ≤ w ∧ w < 2147483648) : Ctr l F 6 0 0 yX6_now cX6_now 4 (some FieldType.int) [r_ 61, i_ w] S0 (iv) (MP iv (an_now (hi iv) w)) := by
  refine Ctr.of false (fun h => by cases h) (by decide) rfl (Nat.le_of_ble_eq_true rfl) ?_
  have hI := hA.mi
  have hmm := hI.many
  have hkp := hA.kp
  have htp := hA.tp
  refine J.iconst (q := 1) dX6_now_0 ?_ rfl
  refine J.istore_n (q := 2) dX6_now_1 (Nat.le_of_ble_eq_true rfl) ?_ rfl
  refine J.iload_n (q := 3) dX6_now_2 rfl ?_ rfl
  rcases (show (w < 0 ∨ 5 < w) ∨ w = 0 ∨ w = 1 ∨ w = 2 ∨ w = 3 ∨ w = 4 ∨ w = 5 by omega) with hO | hx3 | hx3 | hx3 | hx3 | hx3 | hx3
  · refine J.tabOut (tgt := 132) dX6_now_3 (by omega) hO rfl ?_
    refine J.aload_n (q := 133) dX6_now_132 rfl ?_ rfl
    refine J.iconst (q := 134) dX6_now_133 ?_ rfl
    refine J.callV1i (ci := 6) (q := 137) dX6_now_134 mv_X6_no kL_X6_125 rfl (by decide) rfl ⟨by decide, by decide⟩ (Nat.le_of_ble_eq_true rfl) ⟨by decide, by decide⟩ rfl (c_X6_no (by omega)) ?_
    refine J.ireturn dX6_now_137 rfl ?_
    unfold an_now
    (try rw [hi_61]); (try rw [hi_62]); (try rw [hi_63]); (try rw [hi_65]); (try rw [hi_70]); (try rw [hi_74]); (try rw [hi_75]); (try rw [hi_76])
    repeat (first | rw [if_pos (by omega)] | rw [if_neg (by omega)])
    first
    | exact mpTF TF.rf
    | exact mpTFb TF.rf
    | exact mpTF hTF
    | exact mpTFb hTF
    | (exfalso; omega)
  · refine J.tabIn (off := 37) (tgt := 40) dX6_now_3 (by omega) (by omega) (by omega) (by rw [hx3]; rfl) rfl ?_
    refine J.aload_n (q := 41) dX6_now_40 rfl ?_ rfl
    refine J.getR (ci := 6) (k0 := 0) (c1 := 62) (q := 44) dX6_now_41 kF_X6_9 rfl (by decide) (by decide) rfl (by decide) rfl ?_ rfl
    refine J.iconst (q := 45) dX6_now_44 ?_ rfl
    refine J.iald (n := 307) (q := 46) dX6_now_45 rfl (by omega) ?_ rfl
    refine J.ireturn dX6_now_46 rfl ?_
    unfold an_now
    (try rw [hi_61]); (try rw [hi_62]); (try rw [hi_63]); (try rw [hi_65]); (try rw [hi_70]); (try rw [hi_74]); (try rw [hi_75]); (try rw [hi_76])
    repeat (first | rw [if_pos (by omega)] | rw [if_neg (by omega)])
    first
    | exact mpTF TF.rf
    | exact mpTFb TF.rf
    | exact mpTF hTF
    | exact mpTFb hTF
    | (exfalso; omega)
  · refine J.tabIn (off := 44) (tgt := 47) dX6_now_3 (by omega) (by omega) (by omega) (by rw [hx3]; rfl) rfl ?_
    refine J.aload_n (q := 48) dX6_now_47 rfl ?_ rfl
    refine J.getR (ci := 6) (k0 := 0) (c1 := 62) (q := 51) dX6_now_48 kF_X6_9 rfl (by decide) (by decide) rfl (by decide) rfl ?_ rfl
    refine J.iconst (q := 52) dX6_now_51 ?_ rfl
    refine J.iald (n := 307) (q := 53) dX6_now_52 rfl (by omega) ?_ rfl
    refine J.ireturn dX6_now_53 rfl ?_
    unfold an_now
    (try rw [hi_61]); (try rw [hi_62]); (try rw [hi_63]); (try rw [hi_65]); (try rw [hi_70]); (try rw [hi_74]); (try rw [hi_75]); (try rw [hi_76])
    repeat (first | rw [if_pos (by omega)] | rw [if_neg (by omega)])
    first
    | exact mpTF TF.rf
    | exact mpTFb TF.rf
    | exact mpTF hTF
    | exact mpTFb hTF
    | (exfalso; omega)
  · refine J.tabIn (off := 51) (tgt := 54) dX6_now_3 (by omega) (by omega) (by omega) (by rw [hx3]; rfl) rfl ?_
    refine J.aload_n (q := 55) dX6_now_54 rfl ?_ rfl
    refine J.callV0i (ci := 6) (q := 58) dX6_now_55 mv_X6_underLaw kL_X6_140 rfl (by decide) rfl ⟨by decide, by decide⟩ (Nat.le_of_ble_eq_true rfl) ⟨by decide, by decide⟩ rfl (c_X6_underLaw (show (99999 : Int) ≤ 200000 by omega) hI) ?_
    refine J.ireturn dX6_now_58 rfl ?_
    unfold an_now
    (try rw [hi_61]); (try rw [hi_62]); (try rw [hi_63]); (try rw [hi_65]); (try rw [hi_70]); (try rw [hi_74]); (try rw [hi_75]); (try rw [hi_76])
    repeat (first | rw [if_pos (by omega)] | rw [if_neg (by omega)])
    first
    | exact mpTF TF.rf
    | exact mpTFb TF.rf
    | exact mpTF hTF
    | exact mpTFb hTF
    | (exfalso; omega)
  · refine J.tabIn (off := 56) (tgt := 59) dX6_now_3 (by omega) (by omega) (by omega) (by rw [hx3]; rfl) rfl ?_
    refine J.iconst (q := 60) dX6_now_59 ?_ rfl
    refine J.istore_n (q := 61) dX6_now_60 (Nat.le_of_ble_eq_true rfl) ?_ rfl
    subst hx3
    exact now3_loop hA 82 0 (by omega) (by omega)
  · refine J.tabIn (off := 84) (tgt := 87) dX6_now_3 (by omega) (by omega) (by omega) (by rw [hx3]; rfl) rfl ?_
    refine J.aload_n (q := 88) dX6_now_87 rfl ?_ rfl
    refine J.getR (ci := 6) (k0 := 0) (c1 := 62) (q := 91) dX6_now_88 kF_X6_9 rfl (by decide) (by decide) rfl (by decide) rfl ?_ rfl
    refine J.iconst (q := 92) dX6_now_91 ?_ rfl
    refine J.iald (n := 307) (q := 93) dX6_now_92 rfl (by omega) ?_ rfl
    refine J.ireturn dX6_now_93 rfl ?_
    unfold an_now
    (try rw [hi_61]); (try rw [hi_62]); (try rw [hi_63]); (try rw [hi_65]); (try rw [hi_70]); (try rw [hi_74]); (try rw [hi_75]); (try rw [hi_76])
    repeat (first | rw [if_pos (by omega)] | rw [if_neg (by omega)])
    first
    | exact mpTF TF.rf
    | exact mpTFb TF.rf
    | exact mpTF hTF
    | exact mpTFb hTF
    | (exfalso; omega)
  · refine J.tabIn (off := 91) (tgt := 94) dX6_now_3 (by omega) (by omega) (by omega) (by rw [hx3]; rfl) rfl ?_
    refine J.iconst (q := 95) dX6_now_94 ?_ rfl
    refine J.istore_n (q := 96) dX6_now_95 (Nat.le_of_ble_eq_true rfl) ?_ rfl
    subst hx3
    exact now5_loop hA 9 0 (by omega) (by omega)

set_option maxRecDepth 100000 in
set_option maxHeartbeats 4000000 in
theorem free2_loop {l : Launch} {F : Nat × (Int → Int)} {iv : Mm} (hA : AI iv) : ∀ (n : Nat) (c : Nat), (8 - (c : Int) < n) → ((c : Int) ≤ 8) → J l (yX6_free).cls cX6_free 4 (some FieldType.int) 6 0 0 false F (MP iv (an_free (hi iv))) 0 0 36 [some (r_ 61), some (i_ (opnC (iv 62))), some (i_ (sumZ (fun d => if lawC (iv 62) d = opnC (iv 62) then (2 : Int) ^ d.toNat else 0) c)), some (i_ (c : Int))] [] S0 (iv) := by
  intro n
  induction n with
  | zero =>
    intro c hn hc
    omega
  | succ n ih =>
    intro c hn hc
    have hI := hA.mi
    have hmm := hI.many
    have hkp := hA.kp
    have htp := hA.tp
    refine J.iload_n (q := 37) dX6_free_36 rfl ?_ rfl
    refine J.bipush (q := 39) dX6_free_37 (by decide) ?_ rfl
    refine J.icmp_ge (tgt := 67) (q := 42) dX6_free_39 rfl rfl (fun c39 => ?_) (fun c39 => ?_)
    · refine J.iload_n (q := 68) dX6_free_67 rfl ?_ rfl
      refine J.ireturn dX6_free_68 rfl ?_
      have hc81 : c = 8 := by omega
      subst hc81
      exact ⟨rfl, rfl, fun _ _ => rfl, rfl, rfl, rfl, rfl, rfl, rfl, rfl, rfl, rfl⟩
    · have hbr := bits_rng (f := (fun d => if lawC (iv 62) d = opnC (iv 62) then (2 : Int) ^ d.toNat else 0)) (fun k => by split <;> simp) c
      refine J.iload_n (q := 43) dX6_free_42 rfl ?_ rfl
      refine J.aload_n (q := 44) dX6_free_43 rfl ?_ rfl
      refine J.iload_n (q := 45) dX6_free_44 rfl ?_ rfl
      refine J.callV1i (ci := 6) (q := 48) dX6_free_45 mv_X6_lawfulCells kL_X6_152 rfl (by decide) rfl ⟨by decide, by decide⟩ (Nat.le_of_ble_eq_true rfl) ⟨by decide, by decide⟩ rfl (c_X6_lawfulCells (show (99999 : Int) ≤ 200000 by omega) hI (by omega)) ?_
      refine J.iload_n (q := 49) dX6_free_48 rfl ?_ rfl
      have hr1 := b2s_rng (f := fun c => b2 (iv 62 (14 + c) ≠ 1)) (fun k => rfl) 81
      have hr2 := b2s_rng (f := fun x => b2 (iv 62 (14 + x) ≠ 1 ∧ lawB (iv 62) x c = true)) (fun k => rfl) 81
      change 0 ≤ opnC (iv 62) ∧ opnC (iv 62) ≤ _ at hr1
      change 0 ≤ lawC (iv 62) c ∧ lawC (iv 62) c ≤ _ at hr2
      refine J.icmp_ne (tgt := 58) (q := 52) (hv := by omega) dX6_free_49 rfl rfl (fun c49 => ?_) (fun c49 => ?_)
      · have he : (fun d => if lawC (iv 62) d = opnC (iv 62) then (2 : Int) ^ d.toNat else 0) (c : Int) = 0 := if_neg c49
        refine J.iconst (q := 59) dX6_free_58 ?_ rfl
        refine J.ior (q := 60) dX6_free_59 (ior_up (k := c) (by omega) hbr (by first | exact Or.inl (Int.one_mul _) | exact Or.inr rfl)) ?_ rfl
        refine J.istore_n (q := 61) dX6_free_60 (Nat.le_of_ble_eq_true rfl) ?_ rfl
        refine J.iinc (q := 64) dX6_free_61 rfl ?_ rfl
        refine J.goto (tgt := 36) dX6_free_64 rfl ?_
        have e2 : sumZ (fun d => if lawC (iv 62) d = opnC (iv 62) then (2 : Int) ^ d.toNat else 0) (c + 1) = sumZ (fun d => if lawC (iv 62) d = opnC (iv 62) then (2 : Int) ^ d.toNat else 0) c + (fun d => if lawC (iv 62) d = opnC (iv 62) then (2 : Int) ^ d.toNat else 0) (c : Int) := rfl
        rw [he] at e2
        refine J.eql (by rw [← e2]; rfl) (ih (c + 1) (by omega) (by omega))
      · have he : (fun d => if lawC (iv 62) d = opnC (iv 62) then (2 : Int) ^ d.toNat else 0) (c : Int) = 1 * 2 ^ c := (if_pos c49).trans (by rw [Int.toNat_natCast, Int.one_mul])
        refine J.iconst (q := 53) dX6_free_52 ?_ rfl
        refine J.iload_n (q := 54) dX6_free_53 rfl ?_ rfl
        refine J.ishl (q := 55) dX6_free_54 (I3_shl c (by omega) rfl rfl) ?_ rfl
        refine J.goto (tgt := 59) dX6_free_55 rfl ?_
        refine J.ior (q := 60) dX6_free_59 (ior_up (k := c) (by omega) hbr (by first | exact Or.inl (Int.one_mul _) | exact Or.inr rfl)) ?_ rfl
        refine J.istore_n (q := 61) dX6_free_60 (Nat.le_of_ble_eq_true rfl) ?_ rfl
        refine J.iinc (q := 64) dX6_free_61 rfl ?_ rfl
        refine J.goto (tgt := 36) dX6_free_64 rfl ?_
        have e2 : sumZ (fun d => if lawC (iv 62) d = opnC (iv 62) then (2 : Int) ^ d.toNat else 0) (c + 1) = sumZ (fun d => if lawC (iv 62) d = opnC (iv 62) then (2 : Int) ^ d.toNat else 0) c + (fun d => if lawC (iv 62) d = opnC (iv 62) then (2 : Int) ^ d.toNat else 0) (c : Int) := rfl
        rw [he] at e2
        refine J.eql (by rw [← e2]; rfl) (ih (c + 1) (by omega) (by omega))

set_option maxRecDepth 100000 in
set_option maxHeartbeats 4000000 in
theorem free1_loop {l : Launch} {F : Nat × (Int → Int)} {iv : Mm} (hA : AI iv) : ∀ (n : Nat) (c : Nat), (81 - (c : Int) < n) → ((c : Int) ≤ 81) → J l (yX6_free).cls cX6_free 4 (some FieldType.int) 6 0 0 false F (MP iv (an_free (hi iv))) 0 0 4 [some (r_ 61), some (i_ (sumZ (fun c => b2 (iv 62 (14 + c) ≠ 1)) c)), some (i_ (c : Int)), none] [] S0 (iv) := by
  intro n
  induction n with
  | zero =>
    intro c hn hc
    omega
  | succ n ih =>
    intro c hn hc
    have hI := hA.mi
    have hmm := hI.many
    have hkp := hA.kp
    have htp := hA.tp
    refine J.iload_n (q := 5) dX6_free_4 rfl ?_ rfl
    refine J.bipush (q := 7) dX6_free_5 (by decide) ?_ rfl
    refine J.icmp_ge (tgt := 32) (q := 10) dX6_free_7 rfl rfl (fun c7 => ?_) (fun c7 => ?_)
    · refine J.iconst (q := 33) dX6_free_32 ?_ rfl
      refine J.istore_n (q := 34) dX6_free_33 (Nat.le_of_ble_eq_true rfl) ?_ rfl
      refine J.iconst (q := 35) dX6_free_34 ?_ rfl
      refine J.istore_n (q := 36) dX6_free_35 (Nat.le_of_ble_eq_true rfl) ?_ rfl
      have hc81 : c = 81 := by omega
      subst hc81
      exact free2_loop hA 9 0 (by omega) (by omega)
    · have hcl := hI.cel c (by omega) (by omega)
      refine J.iload_n (q := 11) dX6_free_10 rfl ?_ rfl
      refine J.aload_n (q := 12) dX6_free_11 rfl ?_ rfl
      refine J.iload_n (q := 13) dX6_free_12 rfl ?_ rfl
      refine J.callV1i (ci := 6) (q := 16) dX6_free_13 mv_X6_isHedge kL_X6_69 rfl (by decide) rfl ⟨by decide, by decide⟩ (Nat.le_of_ble_eq_true rfl) ⟨by decide, by decide⟩ rfl (c_X6_isHedge (by omega) (by omega)) ?_
      refine J.ifb_eq (tgt := 23) (q := 19) dX6_free_16 rfl rfl (fun c16 => ?_) (fun c16 => ?_)
      · have he : (fun c => b2 (iv 62 (14 + c) ≠ 1)) (c : Int) = 1 := b2_t c16
        refine J.iconst (q := 24) dX6_free_23 ?_ rfl
        refine J.iadd (q := 25) dX6_free_24 ?_ rfl
        refine J.istore_n (q := 26) dX6_free_25 (Nat.le_of_ble_eq_true rfl) ?_ rfl
        refine J.iinc (q := 29) dX6_free_26 rfl ?_ rfl
        refine J.goto (tgt := 4) dX6_free_29 rfl ?_
        have e2 : sumZ (fun c => b2 (iv 62 (14 + c) ≠ 1)) (c + 1) = sumZ (fun c => b2 (iv 62 (14 + c) ≠ 1)) c + (fun c => b2 (iv 62 (14 + c) ≠ 1)) (c : Int) := rfl
        rw [he] at e2
        refine J.eql (by rw [← e2]; rfl) (ih (c + 1) (by omega) (by omega))
      · have he : (fun c => b2 (iv 62 (14 + c) ≠ 1)) (c : Int) = 0 := b2_f (by omega)
        refine J.iconst (q := 20) dX6_free_19 ?_ rfl
        refine J.goto (tgt := 24) dX6_free_20 rfl ?_
        refine J.iadd (q := 25) dX6_free_24 ?_ rfl
        refine J.istore_n (q := 26) dX6_free_25 (Nat.le_of_ble_eq_true rfl) ?_ rfl
        refine J.iinc (q := 29) dX6_free_26 rfl ?_ rfl
        refine J.goto (tgt := 4) dX6_free_29 rfl ?_
        have e2 : sumZ (fun c => b2 (iv 62 (14 + c) ≠ 1)) (c + 1) = sumZ (fun c => b2 (iv 62 (14 + c) ≠ 1)) c + (fun c => b2 (iv 62 (14 + c) ≠ 1)) (c : Int) := rfl
        rw [he] at e2
        refine J.eql (by rw [← e2]; rfl) (ih (c + 1) (by omega) (by omega))

set_option maxRecDepth 100000 in
set_option maxHeartbeats 4000000 in
theorem c_X6_free {l : Launch} {F : Nat × (Int → Int)} {iv : Mm} (hA : AI iv) : Ctr l F 6 0 0 yX6_free cX6_free 4 (some FieldType.int) [r_ 61] S0 (iv) (MP iv (an_free (hi iv))) := by
  refine Ctr.of false (fun h => by cases h) (by decide) rfl (Nat.le_of_ble_eq_true rfl) ?_
  have hI := hA.mi
  have hmm := hI.many
  have hkp := hA.kp
  have htp := hA.tp
  refine J.iconst (q := 1) dX6_free_0 ?_ rfl
  refine J.istore_n (q := 2) dX6_free_1 (Nat.le_of_ble_eq_true rfl) ?_ rfl
  refine J.iconst (q := 3) dX6_free_2 ?_ rfl
  refine J.istore_n (q := 4) dX6_free_3 (Nat.le_of_ble_eq_true rfl) ?_ rfl
  exact free1_loop hA 82 0 (by omega) (by omega)

set_option maxRecDepth 100000 in
set_option maxHeartbeats 4000000 in
theorem feed_loop {l : Launch} {F : Nat × (Int → Int)} {iv : Mm} (hA : AI iv) {b m : Int} (hb : -2147483648 ≤ b ∧ b < 2147483648) (hm : 1 ≤ m ∧ m ≤ 4) (ht : iv 61 10 + m ≤ 120) : ∀ (n : Nat) (i : Int) (iv1 : Mm), (i + 1 < n) → (-1 ≤ i ∧ i < m) → ((∀ q, q ≠ 61 → q ≠ 70 → iv1 q = iv q) ∧ iv1 61 = upr (iv 61) 10 (iv 61 10 + (m - 1 - i)) ∧ ∀ j, iv1 70 j = if iv 61 10 ≤ j ∧ j < iv 61 10 + (m - 1 - i) then b / 2 ^ (8 * (m - 1 - (j - iv 61 10))).toNat % 256 else iv 70 j) → J l (yX6_feed).cls cX6_feed 4 (some FieldType.int) 6 0 0 false F (MP iv (an_feed (hi iv) b m)) 0 0 36 [some (r_ 61), some (i_ b), some (i_ m), some (i_ i)] [] S0 (iv1) := by
  intro n
  induction n with
  | zero =>
    intro i iv1 hn hj hL
    omega
  | succ n ih =>
    intro i iv1 hn hj hL
    have hI := hA.mi
    have hmm := hI.many
    have hkp := hA.kp
    have htp := hA.tp
    have e610 : iv1 61 10 = iv 61 10 + (m - 1 - i) := by rw [hL.2.1, upr_s]
    refine J.iload_n (q := 37) dX6_feed_36 rfl ?_ rfl
    refine J.if_lt (tgt := 75) (q := 40) dX6_feed_37 rfl rfl (fun c37 => ?_) (fun c37 => ?_)
    · refine J.aload_n (q := 76) dX6_feed_75 rfl ?_ rfl
      refine J.getI (ci := 6) (k0 := 10) (kz := 10) (q := 79) dX6_feed_76 kF_X6_195 rfl (by decide) (by decide) rfl (.inl rfl) ?_ rfl
      refine J.ireturn dX6_feed_79 rfl ?_
      have hi9 : i = -1 := by omega
      subst hi9
      unfold an_feed
      show MP iv (if 1 ≤ m ∧ m ≤ 4 then (if 120 < iv 61 10 + m then bad (hi iv) 1 else (iv 61 10 + m, setr (setr (hi iv) 70 (fun j => if iv 61 10 ≤ j ∧ j < iv 61 10 + m then b / 2 ^ (8 * (m - 1 - (j - iv 61 10))).toNat % 256 else iv 70 j)) 61 (upr (hi iv 61) 10 (iv 61 10 + m)))) else bad (hi iv) 0) _ S0 iv1
      rw [if_pos (by omega), if_neg (by omega)]
      have hm9 : m - 1 - -1 = m := by omega
      have h70 : iv1 70 = fun j => if iv 61 10 ≤ j ∧ j < iv 61 10 + m then b / 2 ^ (8 * (m - 1 - (j - iv 61 10))).toNat % 256 else iv 70 j := funext fun j => by rw [hL.2.2 j, hm9]
      refine mpMk (by omega) (fun q hq => hL.1 q (by omega) (by omega)) ⟨hL.1 62 (by decide) (by decide), hL.1 63 (by decide) (by decide), hL.1 65 (by decide) (by decide), h70, hL.1 74 (by decide) (by decide), hL.1 75 (by decide) (by decide), hL.1 76 (by decide) (by decide), by rw [hL.2.1]; rfl, by rw [e610, hm9]; rfl⟩
    · refine J.aload_n (q := 41) dX6_feed_40 rfl ?_ rfl
      refine J.getR (ci := 6) (k0 := 9) (c1 := 70) (q := 44) dX6_feed_41 kF_X6_35 rfl (by decide) (by decide) rfl (by decide) rfl ?_ rfl
      refine J.aload_n (q := 45) dX6_feed_44 rfl ?_ rfl
      refine J.getI (ci := 6) (k0 := 10) (kz := 10) (q := 48) dX6_feed_45 kF_X6_195 rfl (by decide) (by decide) rfl (.inl rfl) ?_ rfl
      refine J.iload_n (q := 49) dX6_feed_48 rfl ?_ rfl
      refine J.bipush (q := 51) dX6_feed_49 (by decide) ?_ rfl
      refine J.iload_n (q := 52) dX6_feed_51 rfl ?_ rfl
      refine J.imul (q := 53) dX6_feed_52 ?_ rfl
      refine J.ishr (q := 54) dX6_feed_53 (I3_shr (by omega) (8 * i).toNat (by omega) (by omega) rfl) ?_ rfl
      refine J.sipush (q := 57) dX6_feed_54 (by decide) ?_ rfl
      refine J.iand (q := 58) dX6_feed_57 (I3_and 8 (by decide) rfl rfl) ?_ rfl
      refine J.iast (n := 120) (q := 59) dX6_feed_58 rfl (by omega) ?_ rfl
      refine J.aload_n (q := 60) dX6_feed_59 rfl ?_ rfl
      refine J.dup (q := 61) dX6_feed_60 rfl ?_ rfl
      refine J.getI (ci := 6) (k0 := 10) (kz := 10) (q := 64) dX6_feed_61 kF_X6_195 rfl (by decide) (by decide) rfl (.inl rfl) ?_ rfl
      refine J.iconst (q := 65) dX6_feed_64 ?_ rfl
      refine J.iadd (q := 66) dX6_feed_65 ?_ rfl
      refine J.putI (ci := 6) (k0 := 10) (kz := 10) (q := 69) dX6_feed_66 kF_X6_195 rfl (by decide) (by decide) rfl rfl rfl ?_ rfl
      refine J.iinc (q := 72) dX6_feed_69 rfl ?_ rfl
      refine J.goto (tgt := 36) dX6_feed_72 rfl ?_
      refine ih (i + -1) _ (by omega) (by omega) ⟨fun q h1 h2 => (up_n _ _ _ h1).trans ((up_n _ _ _ h2).trans (hL.1 q h1 h2)), ?_, fun j => ?_⟩
      · rw [up_s, up_n _ _ _ (by decide), hL.2.1, upr_upr, upr_s]
        exact congrArg _ (by omega)
      · rw [up_n _ _ _ (by decide), up_s]
        by_cases h : j = iv1 61 10
        · subst h
          rw [upr_s, if_pos (by omega), show m - 1 - (iv1 61 10 - iv 61 10) = i by omega]
          rfl
        · rw [upr_n _ _ h, hL.2.2 j]
          by_cases h9 : iv 61 10 ≤ j ∧ j < iv 61 10 + (m - 1 - i)
          · rw [if_pos h9, if_pos (by omega)]
          · rw [if_neg h9, if_neg (by omega)]

set_option maxRecDepth 100000 in
set_option maxHeartbeats 4000000 in
theorem c_X6_feed {l : Launch} {F : Nat × (Int → Int)} {iv : Mm} (hA : AI iv) {b m : Int} (hb : -2147483648 ≤ b ∧ b < 2147483648) (hm : -2147483648 ≤ m ∧ m < 2147483648) : Ctr l F 6 0 0 yX6_feed cX6_feed 4 (some FieldType.int) [r_ 61, i_ b, i_ m] S0 (iv) (MP iv (an_feed (hi iv) b m)) := by
  refine Ctr.of false (fun h => by cases h) (by decide) rfl (Nat.le_of_ble_eq_true rfl) ?_
  have hI := hA.mi
  have hmm := hI.many
  have hkp := hA.kp
  have htp := hA.tp
  refine J.iload_n (q := 1) dX6_feed_0 rfl ?_ rfl
  refine J.iconst (q := 2) dX6_feed_1 ?_ rfl
  refine J.iconst (q := 3) dX6_feed_2 ?_ rfl
  refine J.callS3i (q := 6) dX6_feed_3 mv_X6_in1 kS_X6_in1 kL_X6_61 ⟨by decide, by decide⟩ (Nat.le_of_ble_eq_true rfl) ⟨by decide, by decide⟩ rfl (c_X6_in1 (by omega) (by omega) (by omega)) ?_
  refine J.ifb_ne (tgt := 15) (q := 9) dX6_feed_6 rfl rfl (fun c6 => ?_) (fun c6 => ?_)
  · refine J.aload_n (q := 16) dX6_feed_15 rfl ?_ rfl
    refine J.getI (ci := 6) (k0 := 10) (kz := 10) (q := 19) dX6_feed_16 kF_X6_195 rfl (by decide) (by decide) rfl (.inl rfl) ?_ rfl
    refine J.iload_n (q := 20) dX6_feed_19 rfl ?_ rfl
    refine J.iadd (q := 21) dX6_feed_20 ?_ rfl
    refine J.bipush (q := 23) dX6_feed_21 (by decide) ?_ rfl
    refine J.icmp_le (tgt := 32) (q := 26) dX6_feed_23 rfl rfl (fun c23 => ?_) (fun c23 => ?_)
    · refine J.iload_n (q := 33) dX6_feed_32 rfl ?_ rfl
      refine J.iconst (q := 34) dX6_feed_33 ?_ rfl
      refine J.isub (q := 35) dX6_feed_34 ?_ rfl
      refine J.istore_n (q := 36) dX6_feed_35 (Nat.le_of_ble_eq_true rfl) ?_ rfl
      exact feed_loop hA (by omega) (by omega) (by omega) 5 (m - 1) _ (by omega) (by omega) ⟨fun q h1 h2 => rfl, by rw [show iv 61 10 + (m - 1 - (m - 1)) = iv 61 10 by omega, upr_self], fun j => by rw [if_neg (by omega)]⟩
    · refine J.aload_n (q := 27) dX6_feed_26 rfl ?_ rfl
      refine J.iconst (q := 28) dX6_feed_27 ?_ rfl
      refine J.callV1i (ci := 6) (q := 31) dX6_feed_28 mv_X6_no kL_X6_125 rfl (by decide) rfl ⟨by decide, by decide⟩ (Nat.le_of_ble_eq_true rfl) ⟨by decide, by decide⟩ rfl (c_X6_no (by omega)) ?_
      refine J.ireturn dX6_feed_31 rfl ?_
      unfold an_feed
      (try rw [hi_61]); (try rw [hi_62]); (try rw [hi_63]); (try rw [hi_65]); (try rw [hi_70]); (try rw [hi_74]); (try rw [hi_75]); (try rw [hi_76])
      repeat (first | rw [if_pos (by omega)] | rw [if_neg (by omega)])
      first
      | exact mpTF TF.rf
      | exact mpTFb TF.rf
      | exact mpTF hTF
      | exact mpTFb hTF
      | (exfalso; omega)
  · refine J.aload_n (q := 10) dX6_feed_9 rfl ?_ rfl
    refine J.iconst (q := 11) dX6_feed_10 ?_ rfl
    refine J.callV1i (ci := 6) (q := 14) dX6_feed_11 mv_X6_no kL_X6_125 rfl (by decide) rfl ⟨by decide, by decide⟩ (Nat.le_of_ble_eq_true rfl) ⟨by decide, by decide⟩ rfl (c_X6_no (by omega)) ?_
    refine J.ireturn dX6_feed_14 rfl ?_
    unfold an_feed
    (try rw [hi_61]); (try rw [hi_62]); (try rw [hi_63]); (try rw [hi_65]); (try rw [hi_70]); (try rw [hi_74]); (try rw [hi_75]); (try rw [hi_76])
    repeat (first | rw [if_pos (by omega)] | rw [if_neg (by omega)])
    first
    | exact mpTF TF.rf
    | exact mpTFb TF.rf
    | exact mpTF hTF
    | exact mpTFb hTF
    | (exfalso; omega)

