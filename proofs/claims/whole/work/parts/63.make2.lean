/-! the making of the reference (printed by wip/whole/m_i2.py) -/
set_option maxRecDepth 100000 in
set_option maxHeartbeats 4000000 in
theorem init6_b {l : Launch} {F : Nat × (Int → Int)} {iv : Mm} {P : Option VT → Shp → Mm → Prop} (hK : ∀ iv2 : Mm, (∀ q, q ≠ 62 → iv2 q = iv q) → (∀ j, iv2 62 j = if 297 ≤ j ∧ j < 307 then -1 else iv 62 j) → P none (Sg 78 76) iv2) : ∀ (n : Nat) (i : Int) (iv1 : Mm), (10 - i < n) → (0 ≤ i ∧ i ≤ 10) → (∀ q, q ≠ 62 → iv1 q = iv q) → (∀ j, iv1 62 j = if 297 ≤ j ∧ j < 297 + i then -1 else iv 62 j) → J l (yX6_init).cls cX6_init 2 none 1 16 2356 true F (P) 16 2356 933 [some (r_ 61), some (i_ i)] [] (Sg 78 76) (iv1) := by
  intro n
  induction n with
  | zero =>
    intro i iv1 hn hi0 hf hd
    omega
  | succ n ih =>
    intro i iv1 hn hi0 hf hd
    refine J.iload_n (q := 934) dX6_init_933 rfl ?_ rfl
    refine J.bipush (q := 936) dX6_init_934 (by decide) ?_ rfl
    refine J.icmp_ge (tgt := 956) (q := 939) dX6_init_936 rfl rfl (fun c936 => ?_) (fun c936 => ?_)
    · refine J.vreturn dX6_init_956 rfl ?_
      exact hK iv1 hf (fun j => by rw [hd j, show (297 + i : Int) = 307 by omega])
    · refine J.aload_n (q := 940) dX6_init_939 rfl ?_ rfl
      refine J.getR (ci := 6) (k0 := 0) (c1 := 62) (q := 943) dX6_init_940 kF_X6_9 rfl (by decide) (by decide) rfl (by decide) rfl ?_ rfl
      refine J.sipush (q := 946) dX6_init_943 (by decide) ?_ rfl
      refine J.iload_n (q := 947) dX6_init_946 rfl ?_ rfl
      refine J.iadd (q := 948) dX6_init_947 ?_ rfl
      refine J.iconst (q := 949) dX6_init_948 ?_ rfl
      refine J.iast (n := 307) (q := 950) dX6_init_949 rfl (by omega) ?_ rfl
      refine J.iinc (q := 953) dX6_init_950 rfl ?_ rfl
      refine J.goto (tgt := 933) dX6_init_953 rfl ?_
      refine ih (i + 1) _ (by omega) (by omega) (fun p hp => ?_) (fun j => ?_)
      · rw [up_n _ _ _ hp]; exact hf p hp
      · rw [up_s]
        unfold upr
        rw [hd j]
        repeat' split
        all_goals first | rfl | omega | (exfalso; omega)

set_option maxRecDepth 100000 in
set_option maxHeartbeats 4000000 in
theorem init6_a {l : Launch} {F : Nat × (Int → Int)} {iv : Mm} {P : Option VT → Shp → Mm → Prop} (hK : ∀ iv2 : Mm, (∀ q, q ≠ 62 → iv2 q = iv q) → (∀ j, iv2 62 j = if 176 ≤ j ∧ j < 257 then -1 else iv 62 j) → ∀ y : Option VT, J l (yX6_init).cls cX6_init 2 none 1 16 2356 true F P 16 2356 931 [some (r_ 61), y] [] (Sg 78 76) iv2) : ∀ (n : Nat) (i : Int) (iv1 : Mm), (81 - i < n) → (0 ≤ i ∧ i ≤ 81) → (∀ q, q ≠ 62 → iv1 q = iv q) → (∀ j, iv1 62 j = if 176 ≤ j ∧ j < 176 + i then -1 else iv 62 j) → J l (yX6_init).cls cX6_init 2 none 1 16 2356 true F (P) 16 2356 908 [some (r_ 61), some (i_ i)] [] (Sg 78 76) (iv1) := by
  intro n
  induction n with
  | zero =>
    intro i iv1 hn hi0 hf hd
    omega
  | succ n ih =>
    intro i iv1 hn hi0 hf hd
    refine J.iload_n (q := 909) dX6_init_908 rfl ?_ rfl
    refine J.bipush (q := 911) dX6_init_909 (by decide) ?_ rfl
    refine J.icmp_ge (tgt := 931) (q := 914) dX6_init_911 rfl rfl (fun c911 => ?_) (fun c911 => ?_)
    · exact hK iv1 hf (fun j => by rw [hd j, show (176 + i : Int) = 257 by omega]) _
    · refine J.aload_n (q := 915) dX6_init_914 rfl ?_ rfl
      refine J.getR (ci := 6) (k0 := 0) (c1 := 62) (q := 918) dX6_init_915 kF_X6_9 rfl (by decide) (by decide) rfl (by decide) rfl ?_ rfl
      refine J.sipush (q := 921) dX6_init_918 (by decide) ?_ rfl
      refine J.iload_n (q := 922) dX6_init_921 rfl ?_ rfl
      refine J.iadd (q := 923) dX6_init_922 ?_ rfl
      refine J.iconst (q := 924) dX6_init_923 ?_ rfl
      refine J.iast (n := 307) (q := 925) dX6_init_924 rfl (by omega) ?_ rfl
      refine J.iinc (q := 928) dX6_init_925 rfl ?_ rfl
      refine J.goto (tgt := 908) dX6_init_928 rfl ?_
      refine ih (i + 1) _ (by omega) (by omega) (fun p hp => ?_) (fun j => ?_)
      · rw [up_n _ _ _ hp]; exact hf p hp
      · rw [up_s]
        unfold upr
        rw [hd j]
        repeat' split
        all_goals first | rfl | omega | (exfalso; omega)

set_option maxRecDepth 100000 in
set_option maxHeartbeats 4000000 in
theorem c_X6_init_61 {l : Launch} {F : Nat × (Int → Int)} {iv : Mm} (hz : ∀ q, 61 ≤ q → iv q = fun _ => 0) : Ctr l F 1 16 2356 yX6_init cX6_init 2 none [r_ 61] (Sg 62 60) iv (IP 78 76 (fun iv2 => (∀ q, q < 62 → iv2 q = iv q) ∧ (∀ j, iv2 62 j = sI j) ∧ (∀ q, 63 ≤ q → (q < 71 ∨ 73 < q) → iv2 q = iv q) ∧ WI iv2)) := by
  refine Ctr.of true (fun _ => rfl) (by decide) rfl (Nat.le_of_ble_eq_true rfl) ?_
  refine J.aload_n (q := 1) dX6_init_0 rfl ?_ rfl
  refine J.objInit (q := 4) dX6_init_1 kL_X6_1 rfl (by decide) rfl ?_
  refine J.aload_n (q := 5) dX6_init_4 rfl ?_ rfl
  refine J.sipush (q := 8) dX6_init_5 (by decide) ?_ rfl
  refine J.newIG (q := 10) (N := 307) (n := 62) (m := 60) (a1 := 1) (b1 := 307) dX6_init_8 rfl (by decide) rfl (by decide +kernel) (by decide) kA_int ⟨by decide, by decide⟩ rfl rfl rfl (hz 62 (by omega)) ?_
  refine J.putFG (q := 13) (ci := 6) (k0 := 0) (n := 63) (m := 60) dX6_init_10 kF_X6_9 rfl (by decide) (by decide) (by decide) rfl rfl rfl rfl (by decide) rfl rfl ?_
  refine J.aload_n (q := 14) dX6_init_13 rfl ?_ rfl
  refine J.sipush (q := 17) dX6_init_14 (by decide) ?_ rfl
  refine J.newIG (q := 19) (N := 307) (n := 63) (m := 61) (a1 := 2) (b1 := 614) dX6_init_17 rfl (by decide) rfl (by decide +kernel) (by decide) kA_int ⟨by decide, by decide⟩ rfl rfl rfl (hz 63 (by omega)) ?_
  refine J.putFG (q := 22) (ci := 6) (k0 := 1) (n := 64) (m := 61) dX6_init_19 kF_X6_13 rfl (by decide) (by decide) (by decide) rfl rfl rfl rfl (by decide) rfl rfl ?_
  refine J.aload_n (q := 23) dX6_init_22 rfl ?_ rfl
  refine J.sipush (q := 26) dX6_init_23 (by decide) ?_ rfl
  refine J.newIG (q := 28) (N := 307) (n := 64) (m := 62) (a1 := 3) (b1 := 921) dX6_init_26 rfl (by decide) rfl (by decide +kernel) (by decide) kA_int ⟨by decide, by decide⟩ rfl rfl rfl (hz 64 (by omega)) ?_
  refine J.putFG (q := 31) (ci := 6) (k0 := 2) (n := 65) (m := 62) dX6_init_28 kF_X6_16 rfl (by decide) (by decide) (by decide) rfl rfl rfl rfl (by decide) rfl rfl ?_
  refine J.aload_n (q := 32) dX6_init_31 rfl ?_ rfl
  refine J.bipush (q := 34) dX6_init_32 (by decide) ?_ rfl
  refine J.newIG (q := 36) (N := 7) (n := 65) (m := 63) (a1 := 4) (b1 := 928) dX6_init_34 rfl (by decide) rfl (by decide +kernel) (by decide) kA_int ⟨by decide, by decide⟩ rfl rfl rfl (hz 65 (by omega)) ?_
  refine J.putFG (q := 39) (ci := 6) (k0 := 4) (n := 66) (m := 63) dX6_init_36 kF_X6_19 rfl (by decide) (by decide) (by decide) rfl rfl rfl rfl (by decide) rfl rfl ?_
  refine J.aload_n (q := 40) dX6_init_39 rfl ?_ rfl
  refine J.sipush (q := 43) dX6_init_40 (by decide) ?_ rfl
  refine J.newIG (q := 45) (N := 729) (n := 66) (m := 64) (a1 := 5) (b1 := 1657) dX6_init_43 rfl (by decide) rfl (by decide +kernel) (by decide) kA_int ⟨by decide, by decide⟩ rfl rfl rfl (hz 66 (by omega)) ?_
  refine J.putFG (q := 48) (ci := 6) (k0 := 5) (n := 67) (m := 64) dX6_init_45 kF_X6_22 rfl (by decide) (by decide) (by decide) rfl rfl rfl rfl (by decide) rfl rfl ?_
  refine J.aload_n (q := 49) dX6_init_48 rfl ?_ rfl
  refine J.bipush (q := 51) dX6_init_49 (by decide) ?_ rfl
  refine J.newIG (q := 53) (N := 81) (n := 67) (m := 65) (a1 := 6) (b1 := 1738) dX6_init_51 rfl (by decide) rfl (by decide +kernel) (by decide) kA_int ⟨by decide, by decide⟩ rfl rfl rfl (hz 67 (by omega)) ?_
  refine J.putFG (q := 56) (ci := 6) (k0 := 6) (n := 68) (m := 65) dX6_init_53 kF_X6_25 rfl (by decide) (by decide) (by decide) rfl rfl rfl rfl (by decide) rfl rfl ?_
  refine J.aload_n (q := 57) dX6_init_56 rfl ?_ rfl
  refine J.bipush (q := 59) dX6_init_57 (by decide) ?_ rfl
  refine J.newZG (q := 61) (N := 81) (n := 68) (m := 66) (a1 := 7) (b1 := 1819) dX6_init_59 rfl (by decide) rfl (by decide +kernel) (by decide) kA_boolean ⟨by decide, by decide⟩ rfl rfl rfl (hz 68 (by omega)) ?_
  refine J.putFG (q := 64) (ci := 6) (k0 := 7) (n := 69) (m := 66) dX6_init_61 kF_X6_28 rfl (by decide) (by decide) (by decide) rfl rfl rfl rfl (by decide) rfl rfl ?_
  refine J.aload_n (q := 65) dX6_init_64 rfl ?_ rfl
  refine J.bipush (q := 67) dX6_init_65 (by decide) ?_ rfl
  refine J.newIG (q := 69) (N := 81) (n := 69) (m := 67) (a1 := 8) (b1 := 1900) dX6_init_67 rfl (by decide) rfl (by decide +kernel) (by decide) kA_int ⟨by decide, by decide⟩ rfl rfl rfl (hz 69 (by omega)) ?_
  refine J.putFG (q := 72) (ci := 6) (k0 := 8) (n := 70) (m := 67) dX6_init_69 kF_X6_32 rfl (by decide) (by decide) (by decide) rfl rfl rfl rfl (by decide) rfl rfl ?_
  refine J.aload_n (q := 73) dX6_init_72 rfl ?_ rfl
  refine J.bipush (q := 75) dX6_init_73 (by decide) ?_ rfl
  refine J.newIG (q := 77) (N := 120) (n := 70) (m := 68) (a1 := 9) (b1 := 2020) dX6_init_75 rfl (by decide) rfl (by decide +kernel) (by decide) kA_int ⟨by decide, by decide⟩ rfl rfl rfl (hz 70 (by omega)) ?_
  refine J.putFG (q := 80) (ci := 6) (k0 := 9) (n := 71) (m := 68) dX6_init_77 kF_X6_35 rfl (by decide) (by decide) (by decide) rfl rfl rfl rfl (by decide) rfl rfl ?_
  refine J.aload_n (q := 81) dX6_init_80 rfl ?_ rfl
  refine J.bipush (q := 83) dX6_init_81 (by decide) ?_ rfl
  refine J.newCG (q := 85) (N := 56) (n := 71) (m := 69) (a1 := 10) (b1 := 2076) dX6_init_83 rfl (by decide) rfl (by decide +kernel) (by decide) kA_char ⟨by decide, by decide⟩ rfl rfl rfl (hz 71 (by omega)) ?_
  refine J.ivE (Wr_0 (q := 71) g71 (hz 71 (by omega))) ?_
  refine J.dup (q := 86) dX6_init_85 rfl ?_ rfl
  refine J.iconst (q := 87) dX6_init_86 ?_ rfl
  refine J.bipush (q := 89) dX6_init_87 (by decide) ?_ rfl
  refine J.castW (n := 56) (j := 0) (q := 90) dX6_init_89 rfl rfl rfl (by decide) (by decide) rfl ?_
  refine J.dup (q := 91) dX6_init_90 rfl ?_ rfl
  refine J.iconst (q := 92) dX6_init_91 ?_ rfl
  refine J.bipush (q := 94) dX6_init_92 (by decide) ?_ rfl
  refine J.castW (n := 56) (j := 1) (q := 95) dX6_init_94 rfl rfl rfl (by decide) (by decide) rfl ?_
  refine J.dup (q := 96) dX6_init_95 rfl ?_ rfl
  refine J.iconst (q := 97) dX6_init_96 ?_ rfl
  refine J.bipush (q := 99) dX6_init_97 (by decide) ?_ rfl
  refine J.castW (n := 56) (j := 2) (q := 100) dX6_init_99 rfl rfl rfl (by decide) (by decide) rfl ?_
  refine J.dup (q := 101) dX6_init_100 rfl ?_ rfl
  refine J.iconst (q := 102) dX6_init_101 ?_ rfl
  refine J.bipush (q := 104) dX6_init_102 (by decide) ?_ rfl
  refine J.castW (n := 56) (j := 3) (q := 105) dX6_init_104 rfl rfl rfl (by decide) (by decide) rfl ?_
  refine J.dup (q := 106) dX6_init_105 rfl ?_ rfl
  refine J.iconst (q := 107) dX6_init_106 ?_ rfl
  refine J.bipush (q := 109) dX6_init_107 (by decide) ?_ rfl
  refine J.castW (n := 56) (j := 4) (q := 110) dX6_init_109 rfl rfl rfl (by decide) (by decide) rfl ?_
  refine J.dup (q := 111) dX6_init_110 rfl ?_ rfl
  refine J.iconst (q := 112) dX6_init_111 ?_ rfl
  refine J.bipush (q := 114) dX6_init_112 (by decide) ?_ rfl
  refine J.castW (n := 56) (j := 5) (q := 115) dX6_init_114 rfl rfl rfl (by decide) (by decide) rfl ?_
  refine J.dup (q := 116) dX6_init_115 rfl ?_ rfl
  refine J.bipush (q := 118) dX6_init_116 (by decide) ?_ rfl
  refine J.bipush (q := 120) dX6_init_118 (by decide) ?_ rfl
  refine J.castW (n := 56) (j := 6) (q := 121) dX6_init_120 rfl rfl rfl (by decide) (by decide) rfl ?_
  refine J.dup (q := 122) dX6_init_121 rfl ?_ rfl
  refine J.bipush (q := 124) dX6_init_122 (by decide) ?_ rfl
  refine J.bipush (q := 126) dX6_init_124 (by decide) ?_ rfl
  refine J.castW (n := 56) (j := 7) (q := 127) dX6_init_126 rfl rfl rfl (by decide) (by decide) rfl ?_
  refine J.dup (q := 128) dX6_init_127 rfl ?_ rfl
  refine J.bipush (q := 130) dX6_init_128 (by decide) ?_ rfl
  refine J.bipush (q := 132) dX6_init_130 (by decide) ?_ rfl
  refine J.castW (n := 56) (j := 8) (q := 133) dX6_init_132 rfl rfl rfl (by decide) (by decide) rfl ?_
  refine J.dup (q := 134) dX6_init_133 rfl ?_ rfl
  refine J.bipush (q := 136) dX6_init_134 (by decide) ?_ rfl
  refine J.bipush (q := 138) dX6_init_136 (by decide) ?_ rfl
  refine J.castW (n := 56) (j := 9) (q := 139) dX6_init_138 rfl rfl rfl (by decide) (by decide) rfl ?_
  refine J.dup (q := 140) dX6_init_139 rfl ?_ rfl
  refine J.bipush (q := 142) dX6_init_140 (by decide) ?_ rfl
  refine J.bipush (q := 144) dX6_init_142 (by decide) ?_ rfl
  refine J.castW (n := 56) (j := 10) (q := 145) dX6_init_144 rfl rfl rfl (by decide) (by decide) rfl ?_
  refine J.dup (q := 146) dX6_init_145 rfl ?_ rfl
  refine J.bipush (q := 148) dX6_init_146 (by decide) ?_ rfl
  refine J.bipush (q := 150) dX6_init_148 (by decide) ?_ rfl
  refine J.castW (n := 56) (j := 11) (q := 151) dX6_init_150 rfl rfl rfl (by decide) (by decide) rfl ?_
  refine J.dup (q := 152) dX6_init_151 rfl ?_ rfl
  refine J.bipush (q := 154) dX6_init_152 (by decide) ?_ rfl
  refine J.bipush (q := 156) dX6_init_154 (by decide) ?_ rfl
  refine J.castW (n := 56) (j := 12) (q := 157) dX6_init_156 rfl rfl rfl (by decide) (by decide) rfl ?_
  refine J.dup (q := 158) dX6_init_157 rfl ?_ rfl
  refine J.bipush (q := 160) dX6_init_158 (by decide) ?_ rfl
  refine J.bipush (q := 162) dX6_init_160 (by decide) ?_ rfl
  refine J.castW (n := 56) (j := 13) (q := 163) dX6_init_162 rfl rfl rfl (by decide) (by decide) rfl ?_
  refine J.dup (q := 164) dX6_init_163 rfl ?_ rfl
  refine J.bipush (q := 166) dX6_init_164 (by decide) ?_ rfl
  refine J.bipush (q := 168) dX6_init_166 (by decide) ?_ rfl
  refine J.castW (n := 56) (j := 14) (q := 169) dX6_init_168 rfl rfl rfl (by decide) (by decide) rfl ?_
  refine J.dup (q := 170) dX6_init_169 rfl ?_ rfl
  refine J.bipush (q := 172) dX6_init_170 (by decide) ?_ rfl
  refine J.bipush (q := 174) dX6_init_172 (by decide) ?_ rfl
  refine J.castW (n := 56) (j := 15) (q := 175) dX6_init_174 rfl rfl rfl (by decide) (by decide) rfl ?_
  refine J.dup (q := 176) dX6_init_175 rfl ?_ rfl
  refine J.bipush (q := 178) dX6_init_176 (by decide) ?_ rfl
  refine J.bipush (q := 180) dX6_init_178 (by decide) ?_ rfl
  refine J.castW (n := 56) (j := 16) (q := 181) dX6_init_180 rfl rfl rfl (by decide) (by decide) rfl ?_
  refine J.dup (q := 182) dX6_init_181 rfl ?_ rfl
  refine J.bipush (q := 184) dX6_init_182 (by decide) ?_ rfl
  refine J.bipush (q := 186) dX6_init_184 (by decide) ?_ rfl
  refine J.castW (n := 56) (j := 17) (q := 187) dX6_init_186 rfl rfl rfl (by decide) (by decide) rfl ?_
  refine J.dup (q := 188) dX6_init_187 rfl ?_ rfl
  refine J.bipush (q := 190) dX6_init_188 (by decide) ?_ rfl
  refine J.bipush (q := 192) dX6_init_190 (by decide) ?_ rfl
  refine J.castW (n := 56) (j := 18) (q := 193) dX6_init_192 rfl rfl rfl (by decide) (by decide) rfl ?_
  refine J.dup (q := 194) dX6_init_193 rfl ?_ rfl
  refine J.bipush (q := 196) dX6_init_194 (by decide) ?_ rfl
  refine J.bipush (q := 198) dX6_init_196 (by decide) ?_ rfl
  refine J.castW (n := 56) (j := 19) (q := 199) dX6_init_198 rfl rfl rfl (by decide) (by decide) rfl ?_
  refine J.dup (q := 200) dX6_init_199 rfl ?_ rfl
  refine J.bipush (q := 202) dX6_init_200 (by decide) ?_ rfl
  refine J.bipush (q := 204) dX6_init_202 (by decide) ?_ rfl
  refine J.castW (n := 56) (j := 20) (q := 205) dX6_init_204 rfl rfl rfl (by decide) (by decide) rfl ?_
  refine J.dup (q := 206) dX6_init_205 rfl ?_ rfl
  refine J.bipush (q := 208) dX6_init_206 (by decide) ?_ rfl
  refine J.bipush (q := 210) dX6_init_208 (by decide) ?_ rfl
  refine J.castW (n := 56) (j := 21) (q := 211) dX6_init_210 rfl rfl rfl (by decide) (by decide) rfl ?_
  refine J.dup (q := 212) dX6_init_211 rfl ?_ rfl
  refine J.bipush (q := 214) dX6_init_212 (by decide) ?_ rfl
  refine J.bipush (q := 216) dX6_init_214 (by decide) ?_ rfl
  refine J.castW (n := 56) (j := 22) (q := 217) dX6_init_216 rfl rfl rfl (by decide) (by decide) rfl ?_
  refine J.dup (q := 218) dX6_init_217 rfl ?_ rfl
  refine J.bipush (q := 220) dX6_init_218 (by decide) ?_ rfl
  refine J.bipush (q := 222) dX6_init_220 (by decide) ?_ rfl
  refine J.castW (n := 56) (j := 23) (q := 223) dX6_init_222 rfl rfl rfl (by decide) (by decide) rfl ?_
  refine J.dup (q := 224) dX6_init_223 rfl ?_ rfl
  refine J.bipush (q := 226) dX6_init_224 (by decide) ?_ rfl
  refine J.bipush (q := 228) dX6_init_226 (by decide) ?_ rfl
  refine J.castW (n := 56) (j := 24) (q := 229) dX6_init_228 rfl rfl rfl (by decide) (by decide) rfl ?_
  refine J.dup (q := 230) dX6_init_229 rfl ?_ rfl
  refine J.bipush (q := 232) dX6_init_230 (by decide) ?_ rfl
  refine J.bipush (q := 234) dX6_init_232 (by decide) ?_ rfl
  refine J.castW (n := 56) (j := 25) (q := 235) dX6_init_234 rfl rfl rfl (by decide) (by decide) rfl ?_
  refine J.dup (q := 236) dX6_init_235 rfl ?_ rfl
  refine J.bipush (q := 238) dX6_init_236 (by decide) ?_ rfl
  refine J.bipush (q := 240) dX6_init_238 (by decide) ?_ rfl
  refine J.castW (n := 56) (j := 26) (q := 241) dX6_init_240 rfl rfl rfl (by decide) (by decide) rfl ?_
  refine J.dup (q := 242) dX6_init_241 rfl ?_ rfl
  refine J.bipush (q := 244) dX6_init_242 (by decide) ?_ rfl
  refine J.bipush (q := 246) dX6_init_244 (by decide) ?_ rfl
  refine J.castW (n := 56) (j := 27) (q := 247) dX6_init_246 rfl rfl rfl (by decide) (by decide) rfl ?_
  refine J.dup (q := 248) dX6_init_247 rfl ?_ rfl
  refine J.bipush (q := 250) dX6_init_248 (by decide) ?_ rfl
  refine J.bipush (q := 252) dX6_init_250 (by decide) ?_ rfl
  refine J.castW (n := 56) (j := 28) (q := 253) dX6_init_252 rfl rfl rfl (by decide) (by decide) rfl ?_
  refine J.dup (q := 254) dX6_init_253 rfl ?_ rfl
  refine J.bipush (q := 256) dX6_init_254 (by decide) ?_ rfl
  refine J.bipush (q := 258) dX6_init_256 (by decide) ?_ rfl
  refine J.castW (n := 56) (j := 29) (q := 259) dX6_init_258 rfl rfl rfl (by decide) (by decide) rfl ?_
  refine J.dup (q := 260) dX6_init_259 rfl ?_ rfl
  refine J.bipush (q := 262) dX6_init_260 (by decide) ?_ rfl
  refine J.bipush (q := 264) dX6_init_262 (by decide) ?_ rfl
  refine J.castW (n := 56) (j := 30) (q := 265) dX6_init_264 rfl rfl rfl (by decide) (by decide) rfl ?_
  refine J.dup (q := 266) dX6_init_265 rfl ?_ rfl
  refine J.bipush (q := 268) dX6_init_266 (by decide) ?_ rfl
  refine J.bipush (q := 270) dX6_init_268 (by decide) ?_ rfl
  refine J.castW (n := 56) (j := 31) (q := 271) dX6_init_270 rfl rfl rfl (by decide) (by decide) rfl ?_
  refine J.dup (q := 272) dX6_init_271 rfl ?_ rfl
  refine J.bipush (q := 274) dX6_init_272 (by decide) ?_ rfl
  refine J.bipush (q := 276) dX6_init_274 (by decide) ?_ rfl
  refine J.castW (n := 56) (j := 32) (q := 277) dX6_init_276 rfl rfl rfl (by decide) (by decide) rfl ?_
  refine J.dup (q := 278) dX6_init_277 rfl ?_ rfl
  refine J.bipush (q := 280) dX6_init_278 (by decide) ?_ rfl
  refine J.bipush (q := 282) dX6_init_280 (by decide) ?_ rfl
  refine J.castW (n := 56) (j := 33) (q := 283) dX6_init_282 rfl rfl rfl (by decide) (by decide) rfl ?_
  refine J.dup (q := 284) dX6_init_283 rfl ?_ rfl
  refine J.bipush (q := 286) dX6_init_284 (by decide) ?_ rfl
  refine J.bipush (q := 288) dX6_init_286 (by decide) ?_ rfl
  refine J.castW (n := 56) (j := 34) (q := 289) dX6_init_288 rfl rfl rfl (by decide) (by decide) rfl ?_
  refine J.dup (q := 290) dX6_init_289 rfl ?_ rfl
  refine J.bipush (q := 292) dX6_init_290 (by decide) ?_ rfl
  refine J.bipush (q := 294) dX6_init_292 (by decide) ?_ rfl
  refine J.castW (n := 56) (j := 35) (q := 295) dX6_init_294 rfl rfl rfl (by decide) (by decide) rfl ?_
  refine J.dup (q := 296) dX6_init_295 rfl ?_ rfl
  refine J.bipush (q := 298) dX6_init_296 (by decide) ?_ rfl
  refine J.bipush (q := 300) dX6_init_298 (by decide) ?_ rfl
  refine J.castW (n := 56) (j := 36) (q := 301) dX6_init_300 rfl rfl rfl (by decide) (by decide) rfl ?_
  refine J.dup (q := 302) dX6_init_301 rfl ?_ rfl
  refine J.bipush (q := 304) dX6_init_302 (by decide) ?_ rfl
  refine J.bipush (q := 306) dX6_init_304 (by decide) ?_ rfl
  refine J.castW (n := 56) (j := 37) (q := 307) dX6_init_306 rfl rfl rfl (by decide) (by decide) rfl ?_
  refine J.dup (q := 308) dX6_init_307 rfl ?_ rfl
  refine J.bipush (q := 310) dX6_init_308 (by decide) ?_ rfl
  refine J.bipush (q := 312) dX6_init_310 (by decide) ?_ rfl
  refine J.castW (n := 56) (j := 38) (q := 313) dX6_init_312 rfl rfl rfl (by decide) (by decide) rfl ?_
  refine J.dup (q := 314) dX6_init_313 rfl ?_ rfl
  refine J.bipush (q := 316) dX6_init_314 (by decide) ?_ rfl
  refine J.bipush (q := 318) dX6_init_316 (by decide) ?_ rfl
  refine J.castW (n := 56) (j := 39) (q := 319) dX6_init_318 rfl rfl rfl (by decide) (by decide) rfl ?_
  refine J.dup (q := 320) dX6_init_319 rfl ?_ rfl
  refine J.bipush (q := 322) dX6_init_320 (by decide) ?_ rfl
  refine J.bipush (q := 324) dX6_init_322 (by decide) ?_ rfl
  refine J.castW (n := 56) (j := 40) (q := 325) dX6_init_324 rfl rfl rfl (by decide) (by decide) rfl ?_
  refine J.dup (q := 326) dX6_init_325 rfl ?_ rfl
  refine J.bipush (q := 328) dX6_init_326 (by decide) ?_ rfl
  refine J.bipush (q := 330) dX6_init_328 (by decide) ?_ rfl
  refine J.castW (n := 56) (j := 41) (q := 331) dX6_init_330 rfl rfl rfl (by decide) (by decide) rfl ?_
  refine J.dup (q := 332) dX6_init_331 rfl ?_ rfl
  refine J.bipush (q := 334) dX6_init_332 (by decide) ?_ rfl
  refine J.bipush (q := 336) dX6_init_334 (by decide) ?_ rfl
  refine J.castW (n := 56) (j := 42) (q := 337) dX6_init_336 rfl rfl rfl (by decide) (by decide) rfl ?_
  refine J.dup (q := 338) dX6_init_337 rfl ?_ rfl
  refine J.bipush (q := 340) dX6_init_338 (by decide) ?_ rfl
  refine J.bipush (q := 342) dX6_init_340 (by decide) ?_ rfl
  refine J.castW (n := 56) (j := 43) (q := 343) dX6_init_342 rfl rfl rfl (by decide) (by decide) rfl ?_
  refine J.dup (q := 344) dX6_init_343 rfl ?_ rfl
  refine J.bipush (q := 346) dX6_init_344 (by decide) ?_ rfl
  refine J.bipush (q := 348) dX6_init_346 (by decide) ?_ rfl
  refine J.castW (n := 56) (j := 44) (q := 349) dX6_init_348 rfl rfl rfl (by decide) (by decide) rfl ?_
  refine J.dup (q := 350) dX6_init_349 rfl ?_ rfl
  refine J.bipush (q := 352) dX6_init_350 (by decide) ?_ rfl
  refine J.bipush (q := 354) dX6_init_352 (by decide) ?_ rfl
  refine J.castW (n := 56) (j := 45) (q := 355) dX6_init_354 rfl rfl rfl (by decide) (by decide) rfl ?_
  refine J.dup (q := 356) dX6_init_355 rfl ?_ rfl
  refine J.bipush (q := 358) dX6_init_356 (by decide) ?_ rfl
  refine J.bipush (q := 360) dX6_init_358 (by decide) ?_ rfl
  refine J.castW (n := 56) (j := 46) (q := 361) dX6_init_360 rfl rfl rfl (by decide) (by decide) rfl ?_
  refine J.dup (q := 362) dX6_init_361 rfl ?_ rfl
  refine J.bipush (q := 364) dX6_init_362 (by decide) ?_ rfl
  refine J.bipush (q := 366) dX6_init_364 (by decide) ?_ rfl
  refine J.castW (n := 56) (j := 47) (q := 367) dX6_init_366 rfl rfl rfl (by decide) (by decide) rfl ?_
  refine J.dup (q := 368) dX6_init_367 rfl ?_ rfl
  refine J.bipush (q := 370) dX6_init_368 (by decide) ?_ rfl
  refine J.bipush (q := 372) dX6_init_370 (by decide) ?_ rfl
  refine J.castW (n := 56) (j := 48) (q := 373) dX6_init_372 rfl rfl rfl (by decide) (by decide) rfl ?_
  refine J.dup (q := 374) dX6_init_373 rfl ?_ rfl
  refine J.bipush (q := 376) dX6_init_374 (by decide) ?_ rfl
  refine J.bipush (q := 378) dX6_init_376 (by decide) ?_ rfl
  refine J.castW (n := 56) (j := 49) (q := 379) dX6_init_378 rfl rfl rfl (by decide) (by decide) rfl ?_
  refine J.dup (q := 380) dX6_init_379 rfl ?_ rfl
  refine J.bipush (q := 382) dX6_init_380 (by decide) ?_ rfl
  refine J.bipush (q := 384) dX6_init_382 (by decide) ?_ rfl
  refine J.castW (n := 56) (j := 50) (q := 385) dX6_init_384 rfl rfl rfl (by decide) (by decide) rfl ?_
  refine J.dup (q := 386) dX6_init_385 rfl ?_ rfl
  refine J.bipush (q := 388) dX6_init_386 (by decide) ?_ rfl
  refine J.bipush (q := 390) dX6_init_388 (by decide) ?_ rfl
  refine J.castW (n := 56) (j := 51) (q := 391) dX6_init_390 rfl rfl rfl (by decide) (by decide) rfl ?_
  refine J.dup (q := 392) dX6_init_391 rfl ?_ rfl
  refine J.bipush (q := 394) dX6_init_392 (by decide) ?_ rfl
  refine J.bipush (q := 396) dX6_init_394 (by decide) ?_ rfl
  refine J.castW (n := 56) (j := 52) (q := 397) dX6_init_396 rfl rfl rfl (by decide) (by decide) rfl ?_
  refine J.dup (q := 398) dX6_init_397 rfl ?_ rfl
  refine J.bipush (q := 400) dX6_init_398 (by decide) ?_ rfl
  refine J.bipush (q := 402) dX6_init_400 (by decide) ?_ rfl
  refine J.castW (n := 56) (j := 53) (q := 403) dX6_init_402 rfl rfl rfl (by decide) (by decide) rfl ?_
  refine J.dup (q := 404) dX6_init_403 rfl ?_ rfl
  refine J.bipush (q := 406) dX6_init_404 (by decide) ?_ rfl
  refine J.bipush (q := 408) dX6_init_406 (by decide) ?_ rfl
  refine J.castW (n := 56) (j := 54) (q := 409) dX6_init_408 rfl rfl rfl (by decide) (by decide) rfl ?_
  refine J.dup (q := 410) dX6_init_409 rfl ?_ rfl
  refine J.bipush (q := 412) dX6_init_410 (by decide) ?_ rfl
  refine J.bipush (q := 414) dX6_init_412 (by decide) ?_ rfl
  refine J.castW (n := 56) (j := 55) (q := 415) dX6_init_414 rfl rfl rfl (by decide) (by decide) rfl ?_
  refine J.putFG (q := 418) (ci := 6) (k0 := 15) (n := 72) (m := 69) dX6_init_415 kF_X6_38 rfl (by decide) (by decide) (by decide) rfl rfl rfl rfl (by decide) rfl rfl ?_
  refine J.aload_n (q := 419) dX6_init_418 rfl ?_ rfl
  refine J.bipush (q := 421) dX6_init_419 (by decide) ?_ rfl
  refine J.newCG (q := 423) (N := 32) (n := 72) (m := 70) (a1 := 11) (b1 := 2108) dX6_init_421 rfl (by decide) rfl (by decide +kernel) (by decide) kA_char ⟨by decide, by decide⟩ rfl rfl rfl (hz 72 (by omega)) ?_
  refine J.ivE (Wr_0 (q := 72) g72 (hz 72 (by omega))) ?_
  refine J.dup (q := 424) dX6_init_423 rfl ?_ rfl
  refine J.iconst (q := 425) dX6_init_424 ?_ rfl
  refine J.bipush (q := 427) dX6_init_425 (by decide) ?_ rfl
  refine J.castW (n := 32) (j := 0) (q := 428) dX6_init_427 rfl rfl rfl (by decide) (by decide) rfl ?_
  refine J.dup (q := 429) dX6_init_428 rfl ?_ rfl
  refine J.iconst (q := 430) dX6_init_429 ?_ rfl
  refine J.bipush (q := 432) dX6_init_430 (by decide) ?_ rfl
  refine J.castW (n := 32) (j := 1) (q := 433) dX6_init_432 rfl rfl rfl (by decide) (by decide) rfl ?_
  refine J.dup (q := 434) dX6_init_433 rfl ?_ rfl
  refine J.iconst (q := 435) dX6_init_434 ?_ rfl
  refine J.bipush (q := 437) dX6_init_435 (by decide) ?_ rfl
  refine J.castW (n := 32) (j := 2) (q := 438) dX6_init_437 rfl rfl rfl (by decide) (by decide) rfl ?_
  refine J.dup (q := 439) dX6_init_438 rfl ?_ rfl
  refine J.iconst (q := 440) dX6_init_439 ?_ rfl
  refine J.bipush (q := 442) dX6_init_440 (by decide) ?_ rfl
  refine J.castW (n := 32) (j := 3) (q := 443) dX6_init_442 rfl rfl rfl (by decide) (by decide) rfl ?_
  refine J.dup (q := 444) dX6_init_443 rfl ?_ rfl
  refine J.iconst (q := 445) dX6_init_444 ?_ rfl
  refine J.bipush (q := 447) dX6_init_445 (by decide) ?_ rfl
  refine J.castW (n := 32) (j := 4) (q := 448) dX6_init_447 rfl rfl rfl (by decide) (by decide) rfl ?_
  refine J.dup (q := 449) dX6_init_448 rfl ?_ rfl
  refine J.iconst (q := 450) dX6_init_449 ?_ rfl
  refine J.bipush (q := 452) dX6_init_450 (by decide) ?_ rfl
  refine J.castW (n := 32) (j := 5) (q := 453) dX6_init_452 rfl rfl rfl (by decide) (by decide) rfl ?_
  refine J.dup (q := 454) dX6_init_453 rfl ?_ rfl
  refine J.bipush (q := 456) dX6_init_454 (by decide) ?_ rfl
  refine J.bipush (q := 458) dX6_init_456 (by decide) ?_ rfl
  refine J.castW (n := 32) (j := 6) (q := 459) dX6_init_458 rfl rfl rfl (by decide) (by decide) rfl ?_
  refine J.dup (q := 460) dX6_init_459 rfl ?_ rfl
  refine J.bipush (q := 462) dX6_init_460 (by decide) ?_ rfl
  refine J.bipush (q := 464) dX6_init_462 (by decide) ?_ rfl
  refine J.castW (n := 32) (j := 7) (q := 465) dX6_init_464 rfl rfl rfl (by decide) (by decide) rfl ?_
  refine J.dup (q := 466) dX6_init_465 rfl ?_ rfl
  refine J.bipush (q := 468) dX6_init_466 (by decide) ?_ rfl
  refine J.bipush (q := 470) dX6_init_468 (by decide) ?_ rfl
  refine J.castW (n := 32) (j := 8) (q := 471) dX6_init_470 rfl rfl rfl (by decide) (by decide) rfl ?_
  refine J.dup (q := 472) dX6_init_471 rfl ?_ rfl
  refine J.bipush (q := 474) dX6_init_472 (by decide) ?_ rfl
  refine J.bipush (q := 476) dX6_init_474 (by decide) ?_ rfl
  refine J.castW (n := 32) (j := 9) (q := 477) dX6_init_476 rfl rfl rfl (by decide) (by decide) rfl ?_
  refine J.dup (q := 478) dX6_init_477 rfl ?_ rfl
  refine J.bipush (q := 480) dX6_init_478 (by decide) ?_ rfl
  refine J.bipush (q := 482) dX6_init_480 (by decide) ?_ rfl
  refine J.castW (n := 32) (j := 10) (q := 483) dX6_init_482 rfl rfl rfl (by decide) (by decide) rfl ?_
  refine J.dup (q := 484) dX6_init_483 rfl ?_ rfl
  refine J.bipush (q := 486) dX6_init_484 (by decide) ?_ rfl
  refine J.bipush (q := 488) dX6_init_486 (by decide) ?_ rfl
  refine J.castW (n := 32) (j := 11) (q := 489) dX6_init_488 rfl rfl rfl (by decide) (by decide) rfl ?_
  refine J.dup (q := 490) dX6_init_489 rfl ?_ rfl
  refine J.bipush (q := 492) dX6_init_490 (by decide) ?_ rfl
  refine J.bipush (q := 494) dX6_init_492 (by decide) ?_ rfl
  refine J.castW (n := 32) (j := 12) (q := 495) dX6_init_494 rfl rfl rfl (by decide) (by decide) rfl ?_
  refine J.dup (q := 496) dX6_init_495 rfl ?_ rfl
  refine J.bipush (q := 498) dX6_init_496 (by decide) ?_ rfl
  refine J.bipush (q := 500) dX6_init_498 (by decide) ?_ rfl
  refine J.castW (n := 32) (j := 13) (q := 501) dX6_init_500 rfl rfl rfl (by decide) (by decide) rfl ?_
  refine J.dup (q := 502) dX6_init_501 rfl ?_ rfl
  refine J.bipush (q := 504) dX6_init_502 (by decide) ?_ rfl
  refine J.bipush (q := 506) dX6_init_504 (by decide) ?_ rfl
  refine J.castW (n := 32) (j := 14) (q := 507) dX6_init_506 rfl rfl rfl (by decide) (by decide) rfl ?_
  refine J.dup (q := 508) dX6_init_507 rfl ?_ rfl
  refine J.bipush (q := 510) dX6_init_508 (by decide) ?_ rfl
  refine J.bipush (q := 512) dX6_init_510 (by decide) ?_ rfl
  refine J.castW (n := 32) (j := 15) (q := 513) dX6_init_512 rfl rfl rfl (by decide) (by decide) rfl ?_
  refine J.dup (q := 514) dX6_init_513 rfl ?_ rfl
  refine J.bipush (q := 516) dX6_init_514 (by decide) ?_ rfl
  refine J.bipush (q := 518) dX6_init_516 (by decide) ?_ rfl
  refine J.castW (n := 32) (j := 16) (q := 519) dX6_init_518 rfl rfl rfl (by decide) (by decide) rfl ?_
  refine J.dup (q := 520) dX6_init_519 rfl ?_ rfl
  refine J.bipush (q := 522) dX6_init_520 (by decide) ?_ rfl
  refine J.bipush (q := 524) dX6_init_522 (by decide) ?_ rfl
  refine J.castW (n := 32) (j := 17) (q := 525) dX6_init_524 rfl rfl rfl (by decide) (by decide) rfl ?_
  refine J.dup (q := 526) dX6_init_525 rfl ?_ rfl
  refine J.bipush (q := 528) dX6_init_526 (by decide) ?_ rfl
  refine J.bipush (q := 530) dX6_init_528 (by decide) ?_ rfl
  refine J.castW (n := 32) (j := 18) (q := 531) dX6_init_530 rfl rfl rfl (by decide) (by decide) rfl ?_
  refine J.dup (q := 532) dX6_init_531 rfl ?_ rfl
  refine J.bipush (q := 534) dX6_init_532 (by decide) ?_ rfl
  refine J.bipush (q := 536) dX6_init_534 (by decide) ?_ rfl
  refine J.castW (n := 32) (j := 19) (q := 537) dX6_init_536 rfl rfl rfl (by decide) (by decide) rfl ?_
  refine J.dup (q := 538) dX6_init_537 rfl ?_ rfl
  refine J.bipush (q := 540) dX6_init_538 (by decide) ?_ rfl
  refine J.bipush (q := 542) dX6_init_540 (by decide) ?_ rfl
  refine J.castW (n := 32) (j := 20) (q := 543) dX6_init_542 rfl rfl rfl (by decide) (by decide) rfl ?_
  refine J.dup (q := 544) dX6_init_543 rfl ?_ rfl
  refine J.bipush (q := 546) dX6_init_544 (by decide) ?_ rfl
  refine J.bipush (q := 548) dX6_init_546 (by decide) ?_ rfl
  refine J.castW (n := 32) (j := 21) (q := 549) dX6_init_548 rfl rfl rfl (by decide) (by decide) rfl ?_
  refine J.dup (q := 550) dX6_init_549 rfl ?_ rfl
  refine J.bipush (q := 552) dX6_init_550 (by decide) ?_ rfl
  refine J.bipush (q := 554) dX6_init_552 (by decide) ?_ rfl
  refine J.castW (n := 32) (j := 22) (q := 555) dX6_init_554 rfl rfl rfl (by decide) (by decide) rfl ?_
  refine J.dup (q := 556) dX6_init_555 rfl ?_ rfl
  refine J.bipush (q := 558) dX6_init_556 (by decide) ?_ rfl
  refine J.bipush (q := 560) dX6_init_558 (by decide) ?_ rfl
  refine J.castW (n := 32) (j := 23) (q := 561) dX6_init_560 rfl rfl rfl (by decide) (by decide) rfl ?_
  refine J.dup (q := 562) dX6_init_561 rfl ?_ rfl
  refine J.bipush (q := 564) dX6_init_562 (by decide) ?_ rfl
  refine J.bipush (q := 566) dX6_init_564 (by decide) ?_ rfl
  refine J.castW (n := 32) (j := 24) (q := 567) dX6_init_566 rfl rfl rfl (by decide) (by decide) rfl ?_
  refine J.dup (q := 568) dX6_init_567 rfl ?_ rfl
  refine J.bipush (q := 570) dX6_init_568 (by decide) ?_ rfl
  refine J.bipush (q := 572) dX6_init_570 (by decide) ?_ rfl
  refine J.castW (n := 32) (j := 25) (q := 573) dX6_init_572 rfl rfl rfl (by decide) (by decide) rfl ?_
  refine J.dup (q := 574) dX6_init_573 rfl ?_ rfl
  refine J.bipush (q := 576) dX6_init_574 (by decide) ?_ rfl
  refine J.bipush (q := 578) dX6_init_576 (by decide) ?_ rfl
  refine J.castW (n := 32) (j := 26) (q := 579) dX6_init_578 rfl rfl rfl (by decide) (by decide) rfl ?_
  refine J.dup (q := 580) dX6_init_579 rfl ?_ rfl
  refine J.bipush (q := 582) dX6_init_580 (by decide) ?_ rfl
  refine J.bipush (q := 584) dX6_init_582 (by decide) ?_ rfl
  refine J.castW (n := 32) (j := 27) (q := 585) dX6_init_584 rfl rfl rfl (by decide) (by decide) rfl ?_
  refine J.dup (q := 586) dX6_init_585 rfl ?_ rfl
  refine J.bipush (q := 588) dX6_init_586 (by decide) ?_ rfl
  refine J.bipush (q := 590) dX6_init_588 (by decide) ?_ rfl
  refine J.castW (n := 32) (j := 28) (q := 591) dX6_init_590 rfl rfl rfl (by decide) (by decide) rfl ?_
  refine J.dup (q := 592) dX6_init_591 rfl ?_ rfl
  refine J.bipush (q := 594) dX6_init_592 (by decide) ?_ rfl
  refine J.bipush (q := 596) dX6_init_594 (by decide) ?_ rfl
  refine J.castW (n := 32) (j := 29) (q := 597) dX6_init_596 rfl rfl rfl (by decide) (by decide) rfl ?_
  refine J.dup (q := 598) dX6_init_597 rfl ?_ rfl
  refine J.bipush (q := 600) dX6_init_598 (by decide) ?_ rfl
  refine J.bipush (q := 602) dX6_init_600 (by decide) ?_ rfl
  refine J.castW (n := 32) (j := 30) (q := 603) dX6_init_602 rfl rfl rfl (by decide) (by decide) rfl ?_
  refine J.dup (q := 604) dX6_init_603 rfl ?_ rfl
  refine J.bipush (q := 606) dX6_init_604 (by decide) ?_ rfl
  refine J.bipush (q := 608) dX6_init_606 (by decide) ?_ rfl
  refine J.castW (n := 32) (j := 31) (q := 609) dX6_init_608 rfl rfl rfl (by decide) (by decide) rfl ?_
  refine J.putFG (q := 612) (ci := 6) (k0 := 16) (n := 73) (m := 70) dX6_init_609 kF_X6_42 rfl (by decide) (by decide) (by decide) rfl rfl rfl rfl (by decide) rfl rfl ?_
  refine J.aload_n (q := 613) dX6_init_612 rfl ?_ rfl
  refine J.bipush (q := 615) dX6_init_613 (by decide) ?_ rfl
  refine J.newCG (q := 617) (N := 40) (n := 73) (m := 71) (a1 := 12) (b1 := 2148) dX6_init_615 rfl (by decide) rfl (by decide +kernel) (by decide) kA_char ⟨by decide, by decide⟩ rfl rfl rfl (hz 73 (by omega)) ?_
  refine J.ivE (Wr_0 (q := 73) g73 (hz 73 (by omega))) ?_
  refine J.dup (q := 618) dX6_init_617 rfl ?_ rfl
  refine J.iconst (q := 619) dX6_init_618 ?_ rfl
  refine J.bipush (q := 621) dX6_init_619 (by decide) ?_ rfl
  refine J.castW (n := 40) (j := 0) (q := 622) dX6_init_621 rfl rfl rfl (by decide) (by decide) rfl ?_
  refine J.dup (q := 623) dX6_init_622 rfl ?_ rfl
  refine J.iconst (q := 624) dX6_init_623 ?_ rfl
  refine J.bipush (q := 626) dX6_init_624 (by decide) ?_ rfl
  refine J.castW (n := 40) (j := 1) (q := 627) dX6_init_626 rfl rfl rfl (by decide) (by decide) rfl ?_
  refine J.dup (q := 628) dX6_init_627 rfl ?_ rfl
  refine J.iconst (q := 629) dX6_init_628 ?_ rfl
  refine J.bipush (q := 631) dX6_init_629 (by decide) ?_ rfl
  refine J.castW (n := 40) (j := 2) (q := 632) dX6_init_631 rfl rfl rfl (by decide) (by decide) rfl ?_
  refine J.dup (q := 633) dX6_init_632 rfl ?_ rfl
  refine J.iconst (q := 634) dX6_init_633 ?_ rfl
  refine J.bipush (q := 636) dX6_init_634 (by decide) ?_ rfl
  refine J.castW (n := 40) (j := 3) (q := 637) dX6_init_636 rfl rfl rfl (by decide) (by decide) rfl ?_
  refine J.dup (q := 638) dX6_init_637 rfl ?_ rfl
  refine J.iconst (q := 639) dX6_init_638 ?_ rfl
  refine J.bipush (q := 641) dX6_init_639 (by decide) ?_ rfl
  refine J.castW (n := 40) (j := 4) (q := 642) dX6_init_641 rfl rfl rfl (by decide) (by decide) rfl ?_
  refine J.dup (q := 643) dX6_init_642 rfl ?_ rfl
  refine J.iconst (q := 644) dX6_init_643 ?_ rfl
  refine J.bipush (q := 646) dX6_init_644 (by decide) ?_ rfl
  refine J.castW (n := 40) (j := 5) (q := 647) dX6_init_646 rfl rfl rfl (by decide) (by decide) rfl ?_
  refine J.dup (q := 648) dX6_init_647 rfl ?_ rfl
  refine J.bipush (q := 650) dX6_init_648 (by decide) ?_ rfl
  refine J.bipush (q := 652) dX6_init_650 (by decide) ?_ rfl
  refine J.castW (n := 40) (j := 6) (q := 653) dX6_init_652 rfl rfl rfl (by decide) (by decide) rfl ?_
  refine J.dup (q := 654) dX6_init_653 rfl ?_ rfl
  refine J.bipush (q := 656) dX6_init_654 (by decide) ?_ rfl
  refine J.bipush (q := 658) dX6_init_656 (by decide) ?_ rfl
  refine J.castW (n := 40) (j := 7) (q := 659) dX6_init_658 rfl rfl rfl (by decide) (by decide) rfl ?_
  refine J.dup (q := 660) dX6_init_659 rfl ?_ rfl
  refine J.bipush (q := 662) dX6_init_660 (by decide) ?_ rfl
  refine J.bipush (q := 664) dX6_init_662 (by decide) ?_ rfl
  refine J.castW (n := 40) (j := 8) (q := 665) dX6_init_664 rfl rfl rfl (by decide) (by decide) rfl ?_
  refine J.dup (q := 666) dX6_init_665 rfl ?_ rfl
  refine J.bipush (q := 668) dX6_init_666 (by decide) ?_ rfl
  refine J.bipush (q := 670) dX6_init_668 (by decide) ?_ rfl
  refine J.castW (n := 40) (j := 9) (q := 671) dX6_init_670 rfl rfl rfl (by decide) (by decide) rfl ?_
  refine J.dup (q := 672) dX6_init_671 rfl ?_ rfl
  refine J.bipush (q := 674) dX6_init_672 (by decide) ?_ rfl
  refine J.bipush (q := 676) dX6_init_674 (by decide) ?_ rfl
  refine J.castW (n := 40) (j := 10) (q := 677) dX6_init_676 rfl rfl rfl (by decide) (by decide) rfl ?_
  refine J.dup (q := 678) dX6_init_677 rfl ?_ rfl
  refine J.bipush (q := 680) dX6_init_678 (by decide) ?_ rfl
  refine J.bipush (q := 682) dX6_init_680 (by decide) ?_ rfl
  refine J.castW (n := 40) (j := 11) (q := 683) dX6_init_682 rfl rfl rfl (by decide) (by decide) rfl ?_
  refine J.dup (q := 684) dX6_init_683 rfl ?_ rfl
  refine J.bipush (q := 686) dX6_init_684 (by decide) ?_ rfl
  refine J.bipush (q := 688) dX6_init_686 (by decide) ?_ rfl
  refine J.castW (n := 40) (j := 12) (q := 689) dX6_init_688 rfl rfl rfl (by decide) (by decide) rfl ?_
  refine J.dup (q := 690) dX6_init_689 rfl ?_ rfl
  refine J.bipush (q := 692) dX6_init_690 (by decide) ?_ rfl
  refine J.bipush (q := 694) dX6_init_692 (by decide) ?_ rfl
  refine J.castW (n := 40) (j := 13) (q := 695) dX6_init_694 rfl rfl rfl (by decide) (by decide) rfl ?_
  refine J.dup (q := 696) dX6_init_695 rfl ?_ rfl
  refine J.bipush (q := 698) dX6_init_696 (by decide) ?_ rfl
  refine J.bipush (q := 700) dX6_init_698 (by decide) ?_ rfl
  refine J.castW (n := 40) (j := 14) (q := 701) dX6_init_700 rfl rfl rfl (by decide) (by decide) rfl ?_
  refine J.dup (q := 702) dX6_init_701 rfl ?_ rfl
  refine J.bipush (q := 704) dX6_init_702 (by decide) ?_ rfl
  refine J.bipush (q := 706) dX6_init_704 (by decide) ?_ rfl
  refine J.castW (n := 40) (j := 15) (q := 707) dX6_init_706 rfl rfl rfl (by decide) (by decide) rfl ?_
  refine J.dup (q := 708) dX6_init_707 rfl ?_ rfl
  refine J.bipush (q := 710) dX6_init_708 (by decide) ?_ rfl
  refine J.bipush (q := 712) dX6_init_710 (by decide) ?_ rfl
  refine J.castW (n := 40) (j := 16) (q := 713) dX6_init_712 rfl rfl rfl (by decide) (by decide) rfl ?_
  refine J.dup (q := 714) dX6_init_713 rfl ?_ rfl
  refine J.bipush (q := 716) dX6_init_714 (by decide) ?_ rfl
  refine J.bipush (q := 718) dX6_init_716 (by decide) ?_ rfl
  refine J.castW (n := 40) (j := 17) (q := 719) dX6_init_718 rfl rfl rfl (by decide) (by decide) rfl ?_
  refine J.dup (q := 720) dX6_init_719 rfl ?_ rfl
  refine J.bipush (q := 722) dX6_init_720 (by decide) ?_ rfl
  refine J.bipush (q := 724) dX6_init_722 (by decide) ?_ rfl
  refine J.castW (n := 40) (j := 18) (q := 725) dX6_init_724 rfl rfl rfl (by decide) (by decide) rfl ?_
  refine J.dup (q := 726) dX6_init_725 rfl ?_ rfl
  refine J.bipush (q := 728) dX6_init_726 (by decide) ?_ rfl
  refine J.bipush (q := 730) dX6_init_728 (by decide) ?_ rfl
  refine J.castW (n := 40) (j := 19) (q := 731) dX6_init_730 rfl rfl rfl (by decide) (by decide) rfl ?_
  refine J.dup (q := 732) dX6_init_731 rfl ?_ rfl
  refine J.bipush (q := 734) dX6_init_732 (by decide) ?_ rfl
  refine J.bipush (q := 736) dX6_init_734 (by decide) ?_ rfl
  refine J.castW (n := 40) (j := 20) (q := 737) dX6_init_736 rfl rfl rfl (by decide) (by decide) rfl ?_
  refine J.dup (q := 738) dX6_init_737 rfl ?_ rfl
  refine J.bipush (q := 740) dX6_init_738 (by decide) ?_ rfl
  refine J.bipush (q := 742) dX6_init_740 (by decide) ?_ rfl
  refine J.castW (n := 40) (j := 21) (q := 743) dX6_init_742 rfl rfl rfl (by decide) (by decide) rfl ?_
  refine J.dup (q := 744) dX6_init_743 rfl ?_ rfl
  refine J.bipush (q := 746) dX6_init_744 (by decide) ?_ rfl
  refine J.bipush (q := 748) dX6_init_746 (by decide) ?_ rfl
  refine J.castW (n := 40) (j := 22) (q := 749) dX6_init_748 rfl rfl rfl (by decide) (by decide) rfl ?_
  refine J.dup (q := 750) dX6_init_749 rfl ?_ rfl
  refine J.bipush (q := 752) dX6_init_750 (by decide) ?_ rfl
  refine J.bipush (q := 754) dX6_init_752 (by decide) ?_ rfl
  refine J.castW (n := 40) (j := 23) (q := 755) dX6_init_754 rfl rfl rfl (by decide) (by decide) rfl ?_
  refine J.dup (q := 756) dX6_init_755 rfl ?_ rfl
  refine J.bipush (q := 758) dX6_init_756 (by decide) ?_ rfl
  refine J.bipush (q := 760) dX6_init_758 (by decide) ?_ rfl
  refine J.castW (n := 40) (j := 24) (q := 761) dX6_init_760 rfl rfl rfl (by decide) (by decide) rfl ?_
  refine J.dup (q := 762) dX6_init_761 rfl ?_ rfl
  refine J.bipush (q := 764) dX6_init_762 (by decide) ?_ rfl
  refine J.bipush (q := 766) dX6_init_764 (by decide) ?_ rfl
  refine J.castW (n := 40) (j := 25) (q := 767) dX6_init_766 rfl rfl rfl (by decide) (by decide) rfl ?_
  refine J.dup (q := 768) dX6_init_767 rfl ?_ rfl
  refine J.bipush (q := 770) dX6_init_768 (by decide) ?_ rfl
  refine J.bipush (q := 772) dX6_init_770 (by decide) ?_ rfl
  refine J.castW (n := 40) (j := 26) (q := 773) dX6_init_772 rfl rfl rfl (by decide) (by decide) rfl ?_
  refine J.dup (q := 774) dX6_init_773 rfl ?_ rfl
  refine J.bipush (q := 776) dX6_init_774 (by decide) ?_ rfl
  refine J.bipush (q := 778) dX6_init_776 (by decide) ?_ rfl
  refine J.castW (n := 40) (j := 27) (q := 779) dX6_init_778 rfl rfl rfl (by decide) (by decide) rfl ?_
  refine J.dup (q := 780) dX6_init_779 rfl ?_ rfl
  refine J.bipush (q := 782) dX6_init_780 (by decide) ?_ rfl
  refine J.bipush (q := 784) dX6_init_782 (by decide) ?_ rfl
  refine J.castW (n := 40) (j := 28) (q := 785) dX6_init_784 rfl rfl rfl (by decide) (by decide) rfl ?_
  refine J.dup (q := 786) dX6_init_785 rfl ?_ rfl
  refine J.bipush (q := 788) dX6_init_786 (by decide) ?_ rfl
  refine J.bipush (q := 790) dX6_init_788 (by decide) ?_ rfl
  refine J.castW (n := 40) (j := 29) (q := 791) dX6_init_790 rfl rfl rfl (by decide) (by decide) rfl ?_
  refine J.dup (q := 792) dX6_init_791 rfl ?_ rfl
  refine J.bipush (q := 794) dX6_init_792 (by decide) ?_ rfl
  refine J.bipush (q := 796) dX6_init_794 (by decide) ?_ rfl
  refine J.castW (n := 40) (j := 30) (q := 797) dX6_init_796 rfl rfl rfl (by decide) (by decide) rfl ?_
  refine J.dup (q := 798) dX6_init_797 rfl ?_ rfl
  refine J.bipush (q := 800) dX6_init_798 (by decide) ?_ rfl
  refine J.bipush (q := 802) dX6_init_800 (by decide) ?_ rfl
  refine J.castW (n := 40) (j := 31) (q := 803) dX6_init_802 rfl rfl rfl (by decide) (by decide) rfl ?_
  refine J.dup (q := 804) dX6_init_803 rfl ?_ rfl
  refine J.bipush (q := 806) dX6_init_804 (by decide) ?_ rfl
  refine J.bipush (q := 808) dX6_init_806 (by decide) ?_ rfl
  refine J.castW (n := 40) (j := 32) (q := 809) dX6_init_808 rfl rfl rfl (by decide) (by decide) rfl ?_
  refine J.dup (q := 810) dX6_init_809 rfl ?_ rfl
  refine J.bipush (q := 812) dX6_init_810 (by decide) ?_ rfl
  refine J.bipush (q := 814) dX6_init_812 (by decide) ?_ rfl
  refine J.castW (n := 40) (j := 33) (q := 815) dX6_init_814 rfl rfl rfl (by decide) (by decide) rfl ?_
  refine J.dup (q := 816) dX6_init_815 rfl ?_ rfl
  refine J.bipush (q := 818) dX6_init_816 (by decide) ?_ rfl
  refine J.bipush (q := 820) dX6_init_818 (by decide) ?_ rfl
  refine J.castW (n := 40) (j := 34) (q := 821) dX6_init_820 rfl rfl rfl (by decide) (by decide) rfl ?_
  refine J.dup (q := 822) dX6_init_821 rfl ?_ rfl
  refine J.bipush (q := 824) dX6_init_822 (by decide) ?_ rfl
  refine J.bipush (q := 826) dX6_init_824 (by decide) ?_ rfl
  refine J.castW (n := 40) (j := 35) (q := 827) dX6_init_826 rfl rfl rfl (by decide) (by decide) rfl ?_
  refine J.dup (q := 828) dX6_init_827 rfl ?_ rfl
  refine J.bipush (q := 830) dX6_init_828 (by decide) ?_ rfl
  refine J.bipush (q := 832) dX6_init_830 (by decide) ?_ rfl
  refine J.castW (n := 40) (j := 36) (q := 833) dX6_init_832 rfl rfl rfl (by decide) (by decide) rfl ?_
  refine J.dup (q := 834) dX6_init_833 rfl ?_ rfl
  refine J.bipush (q := 836) dX6_init_834 (by decide) ?_ rfl
  refine J.bipush (q := 838) dX6_init_836 (by decide) ?_ rfl
  refine J.castW (n := 40) (j := 37) (q := 839) dX6_init_838 rfl rfl rfl (by decide) (by decide) rfl ?_
  refine J.dup (q := 840) dX6_init_839 rfl ?_ rfl
  refine J.bipush (q := 842) dX6_init_840 (by decide) ?_ rfl
  refine J.bipush (q := 844) dX6_init_842 (by decide) ?_ rfl
  refine J.castW (n := 40) (j := 38) (q := 845) dX6_init_844 rfl rfl rfl (by decide) (by decide) rfl ?_
  refine J.dup (q := 846) dX6_init_845 rfl ?_ rfl
  refine J.bipush (q := 848) dX6_init_846 (by decide) ?_ rfl
  refine J.bipush (q := 850) dX6_init_848 (by decide) ?_ rfl
  refine J.castW (n := 40) (j := 39) (q := 851) dX6_init_850 rfl rfl rfl (by decide) (by decide) rfl ?_
  refine J.putFG (q := 854) (ci := 6) (k0 := 17) (n := 74) (m := 71) dX6_init_851 kF_X6_45 rfl (by decide) (by decide) (by decide) rfl rfl rfl rfl (by decide) rfl rfl ?_
  refine J.aload_n (q := 855) dX6_init_854 rfl ?_ rfl
  refine J.iconst (q := 856) dX6_init_855 ?_ rfl
  refine J.newIG (q := 858) (N := 4) (n := 74) (m := 72) (a1 := 13) (b1 := 2152) dX6_init_856 rfl (by decide) rfl (by decide +kernel) (by decide) kA_int ⟨by decide, by decide⟩ rfl rfl rfl (hz 74 (by omega)) ?_
  refine J.putFG (q := 861) (ci := 6) (k0 := 18) (n := 75) (m := 72) dX6_init_858 kF_X6_48 rfl (by decide) (by decide) (by decide) rfl rfl rfl rfl (by decide) rfl rfl ?_
  refine J.aload_n (q := 862) dX6_init_861 rfl ?_ rfl
  refine J.iconst (q := 863) dX6_init_862 ?_ rfl
  refine J.newIG (q := 865) (N := 4) (n := 75) (m := 73) (a1 := 14) (b1 := 2156) dX6_init_863 rfl (by decide) rfl (by decide +kernel) (by decide) kA_int ⟨by decide, by decide⟩ rfl rfl rfl (hz 75 (by omega)) ?_
  refine J.putFG (q := 868) (ci := 6) (k0 := 19) (n := 76) (m := 73) dX6_init_865 kF_X6_51 rfl (by decide) (by decide) (by decide) rfl rfl rfl rfl (by decide) rfl rfl ?_
  refine J.aload_n (q := 869) dX6_init_868 rfl ?_ rfl
  refine J.sipush (q := 872) dX6_init_869 (by decide) ?_ rfl
  refine J.newIG (q := 874) (N := 160) (n := 76) (m := 74) (a1 := 15) (b1 := 2316) dX6_init_872 rfl (by decide) rfl (by decide +kernel) (by decide) kA_int ⟨by decide, by decide⟩ rfl rfl rfl (hz 76 (by omega)) ?_
  refine J.putFG (q := 877) (ci := 6) (k0 := 20) (n := 77) (m := 74) dX6_init_874 kF_X6_54 rfl (by decide) (by decide) (by decide) rfl rfl rfl rfl (by decide) rfl rfl ?_
  refine J.aload_n (q := 878) dX6_init_877 rfl ?_ rfl
  refine J.bipush (q := 880) dX6_init_878 (by decide) ?_ rfl
  refine J.newIG (q := 882) (N := 40) (n := 77) (m := 75) (a1 := 16) (b1 := 2356) dX6_init_880 rfl (by decide) rfl (by decide +kernel) (by decide) kA_int ⟨by decide, by decide⟩ rfl rfl rfl (hz 77 (by omega)) ?_
  refine J.putFG (q := 885) (ci := 6) (k0 := 21) (n := 78) (m := 75) dX6_init_882 kF_X6_57 rfl (by decide) (by decide) (by decide) rfl rfl rfl rfl (by decide) rfl rfl ?_
  refine J.aload_n (q := 886) dX6_init_885 rfl ?_ rfl
  refine J.getR (ci := 6) (k0 := 0) (c1 := 62) (q := 889) dX6_init_886 kF_X6_9 rfl (by decide) (by decide) rfl (by decide) rfl ?_ rfl
  refine J.iconst (q := 890) dX6_init_889 ?_ rfl
  refine J.iconst (q := 891) dX6_init_890 ?_ rfl
  refine J.iast (n := 307) (q := 892) dX6_init_891 rfl (by omega) ?_ rfl
  refine J.aload_n (q := 893) dX6_init_892 rfl ?_ rfl
  refine J.getR (ci := 6) (k0 := 0) (c1 := 62) (q := 896) dX6_init_893 kF_X6_9 rfl (by decide) (by decide) rfl (by decide) rfl ?_ rfl
  refine J.iconst (q := 897) dX6_init_896 ?_ rfl
  refine J.iconst (q := 898) dX6_init_897 ?_ rfl
  refine J.iast (n := 307) (q := 899) dX6_init_898 rfl (by omega) ?_ rfl
  refine J.aload_n (q := 900) dX6_init_899 rfl ?_ rfl
  refine J.getR (ci := 6) (k0 := 0) (c1 := 62) (q := 903) dX6_init_900 kF_X6_9 rfl (by decide) (by decide) rfl (by decide) rfl ?_ rfl
  refine J.iconst (q := 904) dX6_init_903 ?_ rfl
  refine J.iconst (q := 905) dX6_init_904 ?_ rfl
  refine J.iast (n := 307) (q := 906) dX6_init_905 rfl (by omega) ?_ rfl
  refine J.iconst (q := 907) dX6_init_906 ?_ rfl
  refine J.istore_n (q := 908) dX6_init_907 (Nat.le_of_ble_eq_true rfl) ?_ rfl
  refine init6_a (iv := (up (up (up (Wr (Wr (Wr iv 71 g71 56) 72 g72 32) 73 g73 40) 62 3 1) 62 4 5) 62 5 1)) (P := IP 78 76 (fun iv2 => (∀ q, q < 62 → iv2 q = iv q) ∧ (∀ j, iv2 62 j = sI j) ∧ (∀ q, 63 ≤ q → (q < 71 ∨ 73 < q) → iv2 q = iv q) ∧ WI iv2)) (fun iv2 f1 d1 y => ?_) 82 0 _ (by omega) (by omega) (fun _ _ => rfl) (fun j => by rw [if_neg (by omega)])
  refine J.iconst (q := 932) dX6_init_931 ?_ rfl
  refine J.istore_n (q := 933) dX6_init_932 (Nat.le_of_ble_eq_true rfl) ?_ rfl
  refine init6_b (iv := iv2) (fun iv3 f3 d3 => ?_) 11 0 _ (by omega) (by omega) (fun _ _ => rfl) (fun j => by rw [if_neg (by omega)])
  have hM : ∀ q, q ≠ 62 → (up (up (up (Wr (Wr (Wr iv 71 g71 56) 72 g72 32) 73 g73 40) 62 3 1) 62 4 5) 62 5 1) q = Wr (Wr (Wr iv 71 g71 56) 72 g72 32) 73 g73 40 q := fun q hq => by rw [up_n _ _ _ hq, up_n _ _ _ hq, up_n _ _ _ hq]
  have hW : ∀ q, q ≠ 71 → q ≠ 72 → q ≠ 73 → Wr (Wr (Wr iv 71 g71 56) 72 g72 32) 73 g73 40 q = iv q := fun q h1 h2 h3 => by
    unfold Wr
    rw [if_neg h3, if_neg h2, if_neg h1]
  refine ⟨rfl, rfl, fun q hq => ?_, fun j => ?_, fun q h0 h1 => ?_, fun j j0 j1 => ?_, fun j j0 j1 => ?_, fun j j0 j1 => ?_⟩
  · rw [f3 q (by omega), f1 q (by omega), hM q (by omega), hW q (by omega) (by omega) (by omega)]
  · have e : (up (up (up (Wr (Wr (Wr iv 71 g71 56) 72 g72 32) 73 g73 40) 62 3 1) 62 4 5) 62 5 1) 62 j = if j = 5 then 1 else if j = 4 then 5 else if j = 3 then 1 else 0 := by
      show upr (upr (upr (iv 62) 3 1) 4 5) 5 1 j = _
      rw [hz 62 (by omega)]
      rfl
    rw [d3 j, d1 j, e]
    unfold sI
    repeat' split
    all_goals first | rfl | omega | (exfalso; omega)
  · rw [f3 q (by omega), f1 q (by omega), hM q (by omega), hW q (by omega) (by omega) (by omega)]
  · rw [f3 71 (by omega), f1 71 (by omega), hM 71 (by omega)]
    show (if 0 ≤ j ∧ j < ((56 : Nat) : Int) then g71 j else 0) = g71 j
    exact if_pos (by omega)
  · rw [f3 72 (by omega), f1 72 (by omega), hM 72 (by omega)]
    show (if 0 ≤ j ∧ j < ((32 : Nat) : Int) then g72 j else 0) = g72 j
    exact if_pos (by omega)
  · rw [f3 73 (by omega), f1 73 (by omega), hM 73 (by omega)]
    show (if 0 ≤ j ∧ j < ((40 : Nat) : Int) then g73 j else 0) = g73 j
    exact if_pos (by omega)

