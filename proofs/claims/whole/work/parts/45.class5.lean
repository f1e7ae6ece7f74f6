/-! the class: a republic becomes another; images (printed by wip/whole/m_c5.py) -/
theorem acp (iv : Mm) (q0 q1 : Nat) (n : Int) : ∃ iv2 : Mm, iv2 = setr iv q1 (cpyJ (iv q0) (iv q1) 0 0 n) ∧ (∀ q, q ≠ q1 → iv2 q = iv q) ∧ ∀ j, 0 ≤ j → j < n → iv2 q1 j = iv q0 j := by
  refine ⟨_, rfl, fun q hq => setr_n _ _ hq, fun j j0 j1 => ?_⟩
  rw [setr_s]
  unfold cpyJ
  rw [if_pos (by omega), show (0 + (j - 0) : Int) = j by omega]
set_option maxRecDepth 100000 in
set_option maxHeartbeats 4000000 in
theorem c_become26_1 {l : Launch} {F : Nat × (Int → Int)} {iv : Mm} {s : Int → Int} (hR : RR iv 1 s) : Ctr l F 1 0 0 yX1_become cX1_become 2 none [r_ 26, r_ 1] S0 (iv) (fun v S iv2 => v = none ∧ S = S0 ∧ (∀ q, (q < 26 ∨ 37 < q ∨ q = 30) → iv2 q = iv q) ∧ RR iv2 26 s) := by
  refine Ctr.of false (fun h => by cases h) (by decide) rfl (Nat.le_of_ble_eq_true rfl) ?_
  refine J.aload_n (q := 1) dX1_become_0 rfl ?_ rfl
  refine J.getR (ci := 1) (k0 := 0) (c1 := 2) (q := 4) dX1_become_1 kF_X1_9 rfl (by decide) (by decide) rfl (by decide) rfl ?_ rfl
  refine J.iconst (q := 5) dX1_become_4 ?_ rfl
  refine J.aload_n (q := 6) dX1_become_5 rfl ?_ rfl
  refine J.getR (ci := 1) (k0 := 0) (c1 := 27) (q := 9) dX1_become_6 kF_X1_9 rfl (by decide) (by decide) rfl (by decide) rfl ?_ rfl
  refine J.iconst (q := 10) dX1_become_9 ?_ rfl
  refine J.bipush (q := 12) dX1_become_10 (by decide) ?_ rfl
  refine J.acopy (q := 15) (n0 := 81) (n1 := 81) dX1_become_12 kL_X1_70 rfl rfl (by omega) (by omega) (by omega) ?_ rfl
  obtain ⟨m1, em, f1, r1⟩ := acp iv 2 27 81
  rw [← em]
  clear em
  refine J.aload_n (q := 16) dX1_become_15 rfl ?_ rfl
  refine J.getR (ci := 1) (k0 := 1) (c1 := 3) (q := 19) dX1_become_16 kF_X1_15 rfl (by decide) (by decide) rfl (by decide) rfl ?_ rfl
  refine J.iconst (q := 20) dX1_become_19 ?_ rfl
  refine J.aload_n (q := 21) dX1_become_20 rfl ?_ rfl
  refine J.getR (ci := 1) (k0 := 1) (c1 := 28) (q := 24) dX1_become_21 kF_X1_15 rfl (by decide) (by decide) rfl (by decide) rfl ?_ rfl
  refine J.iconst (q := 25) dX1_become_24 ?_ rfl
  refine J.bipush (q := 27) dX1_become_25 (by decide) ?_ rfl
  refine J.acopy (q := 30) (n0 := 81) (n1 := 81) dX1_become_27 kL_X1_70 rfl rfl (by omega) (by omega) (by omega) ?_ rfl
  obtain ⟨m2, em, f2, r2⟩ := acp m1 3 28 81
  rw [← em]
  clear em
  refine J.aload_n (q := 31) dX1_become_30 rfl ?_ rfl
  refine J.getR (ci := 1) (k0 := 2) (c1 := 4) (q := 34) dX1_become_31 kF_X1_18 rfl (by decide) (by decide) rfl (by decide) rfl ?_ rfl
  refine J.iconst (q := 35) dX1_become_34 ?_ rfl
  refine J.aload_n (q := 36) dX1_become_35 rfl ?_ rfl
  refine J.getR (ci := 1) (k0 := 2) (c1 := 29) (q := 39) dX1_become_36 kF_X1_18 rfl (by decide) (by decide) rfl (by decide) rfl ?_ rfl
  refine J.iconst (q := 40) dX1_become_39 ?_ rfl
  refine J.bipush (q := 42) dX1_become_40 (by decide) ?_ rfl
  refine J.acopy (q := 45) (n0 := 81) (n1 := 81) dX1_become_42 kL_X1_70 rfl rfl (by omega) (by omega) (by omega) ?_ rfl
  obtain ⟨m3, em, f3, r3⟩ := acp m2 4 29 81
  rw [← em]
  clear em
  refine J.aload_n (q := 46) dX1_become_45 rfl ?_ rfl
  refine J.getR (ci := 1) (k0 := 4) (c1 := 6) (q := 49) dX1_become_46 kF_X1_24 rfl (by decide) (by decide) rfl (by decide) rfl ?_ rfl
  refine J.iconst (q := 50) dX1_become_49 ?_ rfl
  refine J.aload_n (q := 51) dX1_become_50 rfl ?_ rfl
  refine J.getR (ci := 1) (k0 := 4) (c1 := 31) (q := 54) dX1_become_51 kF_X1_24 rfl (by decide) (by decide) rfl (by decide) rfl ?_ rfl
  refine J.iconst (q := 55) dX1_become_54 ?_ rfl
  refine J.bipush (q := 57) dX1_become_55 (by decide) ?_ rfl
  refine J.acopy (q := 60) (n0 := 8) (n1 := 8) dX1_become_57 kL_X1_70 rfl rfl (by omega) (by omega) (by omega) ?_ rfl
  obtain ⟨m4, em, f4, r4⟩ := acp m3 6 31 8
  rw [← em]
  clear em
  refine J.aload_n (q := 61) dX1_become_60 rfl ?_ rfl
  refine J.getR (ci := 1) (k0 := 5) (c1 := 7) (q := 64) dX1_become_61 kF_X1_27 rfl (by decide) (by decide) rfl (by decide) rfl ?_ rfl
  refine J.iconst (q := 65) dX1_become_64 ?_ rfl
  refine J.aload_n (q := 66) dX1_become_65 rfl ?_ rfl
  refine J.getR (ci := 1) (k0 := 5) (c1 := 32) (q := 69) dX1_become_66 kF_X1_27 rfl (by decide) (by decide) rfl (by decide) rfl ?_ rfl
  refine J.iconst (q := 70) dX1_become_69 ?_ rfl
  refine J.bipush (q := 72) dX1_become_70 (by decide) ?_ rfl
  refine J.acopy (q := 75) (n0 := 8) (n1 := 8) dX1_become_72 kL_X1_70 rfl rfl (by omega) (by omega) (by omega) ?_ rfl
  obtain ⟨m5, em, f5, r5⟩ := acp m4 7 32 8
  rw [← em]
  clear em
  refine J.aload_n (q := 76) dX1_become_75 rfl ?_ rfl
  refine J.getR (ci := 1) (k0 := 6) (c1 := 8) (q := 79) dX1_become_76 kF_X1_30 rfl (by decide) (by decide) rfl (by decide) rfl ?_ rfl
  refine J.iconst (q := 80) dX1_become_79 ?_ rfl
  refine J.aload_n (q := 81) dX1_become_80 rfl ?_ rfl
  refine J.getR (ci := 1) (k0 := 6) (c1 := 33) (q := 84) dX1_become_81 kF_X1_30 rfl (by decide) (by decide) rfl (by decide) rfl ?_ rfl
  refine J.iconst (q := 85) dX1_become_84 ?_ rfl
  refine J.bipush (q := 87) dX1_become_85 (by decide) ?_ rfl
  refine J.acopy (q := 90) (n0 := 8) (n1 := 8) dX1_become_87 kL_X1_70 rfl rfl (by omega) (by omega) (by omega) ?_ rfl
  obtain ⟨m6, em, f6, r6⟩ := acp m5 8 33 8
  rw [← em]
  clear em
  refine J.aload_n (q := 91) dX1_become_90 rfl ?_ rfl
  refine J.getR (ci := 1) (k0 := 7) (c1 := 9) (q := 94) dX1_become_91 kF_X1_33 rfl (by decide) (by decide) rfl (by decide) rfl ?_ rfl
  refine J.iconst (q := 95) dX1_become_94 ?_ rfl
  refine J.aload_n (q := 96) dX1_become_95 rfl ?_ rfl
  refine J.getR (ci := 1) (k0 := 7) (c1 := 34) (q := 99) dX1_become_96 kF_X1_33 rfl (by decide) (by decide) rfl (by decide) rfl ?_ rfl
  refine J.iconst (q := 100) dX1_become_99 ?_ rfl
  refine J.bipush (q := 102) dX1_become_100 (by decide) ?_ rfl
  refine J.acopy (q := 105) (n0 := 8) (n1 := 8) dX1_become_102 kL_X1_70 rfl rfl (by omega) (by omega) (by omega) ?_ rfl
  obtain ⟨m7, em, f7, r7⟩ := acp m6 9 34 8
  rw [← em]
  clear em
  refine J.aload_n (q := 106) dX1_become_105 rfl ?_ rfl
  refine J.getR (ci := 1) (k0 := 8) (c1 := 10) (q := 109) dX1_become_106 kF_X1_36 rfl (by decide) (by decide) rfl (by decide) rfl ?_ rfl
  refine J.iconst (q := 110) dX1_become_109 ?_ rfl
  refine J.aload_n (q := 111) dX1_become_110 rfl ?_ rfl
  refine J.getR (ci := 1) (k0 := 8) (c1 := 35) (q := 114) dX1_become_111 kF_X1_36 rfl (by decide) (by decide) rfl (by decide) rfl ?_ rfl
  refine J.iconst (q := 115) dX1_become_114 ?_ rfl
  refine J.bipush (q := 117) dX1_become_115 (by decide) ?_ rfl
  refine J.acopy (q := 120) (n0 := 8) (n1 := 8) dX1_become_117 kL_X1_70 rfl rfl (by omega) (by omega) (by omega) ?_ rfl
  obtain ⟨m8, em, f8, r8⟩ := acp m7 10 35 8
  rw [← em]
  clear em
  refine J.aload_n (q := 121) dX1_become_120 rfl ?_ rfl
  refine J.getR (ci := 1) (k0 := 9) (c1 := 11) (q := 124) dX1_become_121 kF_X1_39 rfl (by decide) (by decide) rfl (by decide) rfl ?_ rfl
  refine J.iconst (q := 125) dX1_become_124 ?_ rfl
  refine J.aload_n (q := 126) dX1_become_125 rfl ?_ rfl
  refine J.getR (ci := 1) (k0 := 9) (c1 := 36) (q := 129) dX1_become_126 kF_X1_39 rfl (by decide) (by decide) rfl (by decide) rfl ?_ rfl
  refine J.iconst (q := 130) dX1_become_129 ?_ rfl
  refine J.bipush (q := 132) dX1_become_130 (by decide) ?_ rfl
  refine J.acopy (q := 135) (n0 := 8) (n1 := 8) dX1_become_132 kL_X1_70 rfl rfl (by omega) (by omega) (by omega) ?_ rfl
  obtain ⟨m9, em, f9, r9⟩ := acp m8 11 36 8
  rw [← em]
  clear em
  refine J.aload_n (q := 136) dX1_become_135 rfl ?_ rfl
  refine J.getR (ci := 1) (k0 := 10) (c1 := 12) (q := 139) dX1_become_136 kF_X1_42 rfl (by decide) (by decide) rfl (by decide) rfl ?_ rfl
  refine J.iconst (q := 140) dX1_become_139 ?_ rfl
  refine J.aload_n (q := 141) dX1_become_140 rfl ?_ rfl
  refine J.getR (ci := 1) (k0 := 10) (c1 := 37) (q := 144) dX1_become_141 kF_X1_42 rfl (by decide) (by decide) rfl (by decide) rfl ?_ rfl
  refine J.iconst (q := 145) dX1_become_144 ?_ rfl
  refine J.bipush (q := 147) dX1_become_145 (by decide) ?_ rfl
  refine J.acopy (q := 150) (n0 := 10) (n1 := 10) dX1_become_147 kL_X1_70 rfl rfl (by omega) (by omega) (by omega) ?_ rfl
  obtain ⟨m10, em, f10, r10⟩ := acp m9 12 37 10
  rw [← em]
  clear em
  have hRs : RR m10 1 s := hR.fr (fun q q1 q2 q3 => by rw [f10 _ (by omega), f9 _ (by omega), f8 _ (by omega), f7 _ (by omega), f6 _ (by omega), f5 _ (by omega), f4 _ (by omega), f3 _ (by omega), f2 _ (by omega), f1 _ (by omega)])
  refine J.aload_n (q := 151) dX1_become_150 rfl ?_ rfl
  refine J.aload_n (q := 152) dX1_become_151 rfl ?_ rfl
  refine J.getI (ci := 1) (k0 := 11) (kz := 11) (q := 155) dX1_become_152 kF_X1_45 rfl (by decide) (by decide) rfl (.inl rfl) ?_ rfl
  rw [g1_many hRs]
  refine J.putI (ci := 1) (k0 := 11) (kz := 11) (q := 158) dX1_become_155 kF_X1_45 rfl (by decide) (by decide) rfl rfl rfl ?_ rfl
  refine J.aload_n (q := 159) dX1_become_158 rfl ?_ rfl
  refine J.aload_n (q := 160) dX1_become_159 rfl ?_ rfl
  refine J.getI (ci := 1) (k0 := 12) (kz := 12) (q := 163) dX1_become_160 kF_X1_49 rfl (by decide) (by decide) rfl (.inl rfl) ?_ rfl
  rw [up_n _ _ _ (by decide), g1_wet hRs]
  refine J.putI (ci := 1) (k0 := 12) (kz := 12) (q := 166) dX1_become_163 kF_X1_49 rfl (by decide) (by decide) rfl rfl rfl ?_ rfl
  refine J.aload_n (q := 167) dX1_become_166 rfl ?_ rfl
  refine J.aload_n (q := 168) dX1_become_167 rfl ?_ rfl
  refine J.getI (ci := 1) (k0 := 13) (kz := 13) (q := 171) dX1_become_168 kF_X1_52 rfl (by decide) (by decide) rfl (.inl rfl) ?_ rfl
  rw [up_n _ _ _ (by decide), up_n _ _ _ (by decide), g1_thr hRs]
  refine J.putI (ci := 1) (k0 := 13) (kz := 13) (q := 174) dX1_become_171 kF_X1_52 rfl (by decide) (by decide) rfl rfl rfl ?_ rfl
  refine J.aload_n (q := 175) dX1_become_174 rfl ?_ rfl
  refine J.aload_n (q := 176) dX1_become_175 rfl ?_ rfl
  refine J.getI (ci := 1) (k0 := 14) (kz := 14) (q := 179) dX1_become_176 kF_X1_55 rfl (by decide) (by decide) rfl (.inl rfl) ?_ rfl
  rw [up_n _ _ _ (by decide), up_n _ _ _ (by decide), up_n _ _ _ (by decide), g1_day hRs]
  refine J.putI (ci := 1) (k0 := 14) (kz := 14) (q := 182) dX1_become_179 kF_X1_55 rfl (by decide) (by decide) rfl rfl rfl ?_ rfl
  refine J.aload_n (q := 183) dX1_become_182 rfl ?_ rfl
  refine J.aload_n (q := 184) dX1_become_183 rfl ?_ rfl
  refine J.getI (ci := 1) (k0 := 15) (kz := 15) (q := 187) dX1_become_184 kF_X1_58 rfl (by decide) (by decide) rfl (.inl rfl) ?_ rfl
  rw [up_n _ _ _ (by decide), up_n _ _ _ (by decide), up_n _ _ _ (by decide), up_n _ _ _ (by decide), g1_cla hRs]
  refine J.putI (ci := 1) (k0 := 15) (kz := 15) (q := 190) dX1_become_187 kF_X1_58 rfl (by decide) (by decide) rfl rfl rfl ?_ rfl
  refine J.aload_n (q := 191) dX1_become_190 rfl ?_ rfl
  refine J.aload_n (q := 192) dX1_become_191 rfl ?_ rfl
  refine J.getI (ci := 1) (k0 := 16) (kz := 16) (q := 195) dX1_become_192 kF_X1_61 rfl (by decide) (by decide) rfl (.inl rfl) ?_ rfl
  rw [up_n _ _ _ (by decide), up_n _ _ _ (by decide), up_n _ _ _ (by decide), up_n _ _ _ (by decide), up_n _ _ _ (by decide), g1_zz hRs]
  refine J.putI (ci := 1) (k0 := 16) (kz := 16) (q := 198) dX1_become_195 kF_X1_61 rfl (by decide) (by decide) rfl rfl rfl ?_ rfl
  refine J.vreturn dX1_become_198 rfl ?_
  refine ⟨rfl, rfl, fun q hq => ?_, fun o i t hp => ?_⟩
  · rw [up_n _ _ _ (by omega), up_n _ _ _ (by omega), up_n _ _ _ (by omega), up_n _ _ _ (by omega), up_n _ _ _ (by omega), up_n _ _ _ (by omega), f10 _ (by omega), f9 _ (by omega), f8 _ (by omega), f7 _ (by omega), f6 _ (by omega), f5 _ (by omega), f4 _ (by omega), f3 _ (by omega), f2 _ (by omega), f1 _ (by omega)]
  · rcases hp with ⟨rfl, rfl, rfl⟩ | ⟨rfl, rfl, rfl⟩ | ⟨rfl, rfl, rfl⟩ | ⟨rfl, rfl, rfl⟩ | ⟨rfl, rfl, rfl⟩ | ⟨rfl, rfl, rfl⟩ | ⟨rfl, h0, h1, rfl⟩ | ⟨rfl, h0, h1, rfl⟩ | ⟨rfl, h0, h1, rfl⟩ | ⟨rfl, h0, h1, rfl⟩ | ⟨rfl, h0, h1, rfl⟩ | ⟨rfl, h0, h1, rfl⟩ | ⟨rfl, h0, h1, rfl⟩ | ⟨rfl, h0, h1, rfl⟩ | ⟨rfl, h0, h1, rfl⟩ | ⟨rfl, h0, h1, rfl⟩
    · simp [up, upr]
    · simp [up, upr]
    · simp [up, upr]
    · simp [up, upr]
    · simp [up, upr]
    · simp [up, upr]
    · rw [up_n _ _ _ (by omega), up_n _ _ _ (by omega), up_n _ _ _ (by omega), up_n _ _ _ (by omega), up_n _ _ _ (by omega), up_n _ _ _ (by omega), f10 _ (by omega), f9 _ (by omega), f8 _ (by omega), f7 _ (by omega), f6 _ (by omega), f5 _ (by omega), f4 _ (by omega), f3 _ (by omega), f2 _ (by omega), r1 _ h0 h1, g1_hed hR h0 h1]
    · rw [up_n _ _ _ (by omega), up_n _ _ _ (by omega), up_n _ _ _ (by omega), up_n _ _ _ (by omega), up_n _ _ _ (by omega), up_n _ _ _ (by omega), f10 _ (by omega), f9 _ (by omega), f8 _ (by omega), f7 _ (by omega), f6 _ (by omega), f5 _ (by omega), f4 _ (by omega), f3 _ (by omega), r2 _ h0 h1, f1 _ (by omega), g1_lea hR h0 h1]
    · rw [up_n _ _ _ (by omega), up_n _ _ _ (by omega), up_n _ _ _ (by omega), up_n _ _ _ (by omega), up_n _ _ _ (by omega), up_n _ _ _ (by omega), f10 _ (by omega), f9 _ (by omega), f8 _ (by omega), f7 _ (by omega), f6 _ (by omega), f5 _ (by omega), f4 _ (by omega), r3 _ h0 h1, f2 _ (by omega), f1 _ (by omega), g1_law hR h0 h1]
    · rw [up_n _ _ _ (by omega), up_n _ _ _ (by omega), up_n _ _ _ (by omega), up_n _ _ _ (by omega), up_n _ _ _ (by omega), up_n _ _ _ (by omega), f10 _ (by omega), f9 _ (by omega), f8 _ (by omega), f7 _ (by omega), f6 _ (by omega), f5 _ (by omega), r4 _ h0 h1, f3 _ (by omega), f2 _ (by omega), f1 _ (by omega), g1_ban hR h0 h1]
    · rw [up_n _ _ _ (by omega), up_n _ _ _ (by omega), up_n _ _ _ (by omega), up_n _ _ _ (by omega), up_n _ _ _ (by omega), up_n _ _ _ (by omega), f10 _ (by omega), f9 _ (by omega), f8 _ (by omega), f7 _ (by omega), f6 _ (by omega), r5 _ h0 h1, f4 _ (by omega), f3 _ (by omega), f2 _ (by omega), f1 _ (by omega), g1_kin hR h0 h1]
    · rw [up_n _ _ _ (by omega), up_n _ _ _ (by omega), up_n _ _ _ (by omega), up_n _ _ _ (by omega), up_n _ _ _ (by omega), up_n _ _ _ (by omega), f10 _ (by omega), f9 _ (by omega), f8 _ (by omega), f7 _ (by omega), r6 _ h0 h1, f5 _ (by omega), f4 _ (by omega), f3 _ (by omega), f2 _ (by omega), f1 _ (by omega), g1_ats hR h0 h1]
    · rw [up_n _ _ _ (by omega), up_n _ _ _ (by omega), up_n _ _ _ (by omega), up_n _ _ _ (by omega), up_n _ _ _ (by omega), up_n _ _ _ (by omega), f10 _ (by omega), f9 _ (by omega), f8 _ (by omega), r7 _ h0 h1, f6 _ (by omega), f5 _ (by omega), f4 _ (by omega), f3 _ (by omega), f2 _ (by omega), f1 _ (by omega), g1_edi hR h0 h1]
    · rw [up_n _ _ _ (by omega), up_n _ _ _ (by omega), up_n _ _ _ (by omega), up_n _ _ _ (by omega), up_n _ _ _ (by omega), up_n _ _ _ (by omega), f10 _ (by omega), f9 _ (by omega), r8 _ h0 h1, f7 _ (by omega), f6 _ (by omega), f5 _ (by omega), f4 _ (by omega), f3 _ (by omega), f2 _ (by omega), f1 _ (by omega), g1_gat hR h0 h1]
    · rw [up_n _ _ _ (by omega), up_n _ _ _ (by omega), up_n _ _ _ (by omega), up_n _ _ _ (by omega), up_n _ _ _ (by omega), up_n _ _ _ (by omega), f10 _ (by omega), r9 _ h0 h1, f8 _ (by omega), f7 _ (by omega), f6 _ (by omega), f5 _ (by omega), f4 _ (by omega), f3 _ (by omega), f2 _ (by omega), f1 _ (by omega), g1_pri hR h0 h1]
    · rw [up_n _ _ _ (by omega), up_n _ _ _ (by omega), up_n _ _ _ (by omega), up_n _ _ _ (by omega), up_n _ _ _ (by omega), up_n _ _ _ (by omega), r10 _ h0 h1, f9 _ (by omega), f8 _ (by omega), f7 _ (by omega), f6 _ (by omega), f5 _ (by omega), f4 _ (by omega), f3 _ (by omega), f2 _ (by omega), f1 _ (by omega), g1_spo hR h0 h1]

set_option maxRecDepth 100000 in
set_option maxHeartbeats 4000000 in
theorem c_become13_1 {l : Launch} {F : Nat × (Int → Int)} {iv : Mm} {s : Int → Int} (hR : RR iv 1 s) : Ctr l F 1 0 0 yX1_become cX1_become 2 none [r_ 13, r_ 1] S0 (iv) (fun v S iv2 => v = none ∧ S = S0 ∧ (∀ q, (q < 13 ∨ 24 < q ∨ q = 17) → iv2 q = iv q) ∧ RR iv2 13 s) := by
  refine Ctr.of false (fun h => by cases h) (by decide) rfl (Nat.le_of_ble_eq_true rfl) ?_
  refine J.aload_n (q := 1) dX1_become_0 rfl ?_ rfl
  refine J.getR (ci := 1) (k0 := 0) (c1 := 2) (q := 4) dX1_become_1 kF_X1_9 rfl (by decide) (by decide) rfl (by decide) rfl ?_ rfl
  refine J.iconst (q := 5) dX1_become_4 ?_ rfl
  refine J.aload_n (q := 6) dX1_become_5 rfl ?_ rfl
  refine J.getR (ci := 1) (k0 := 0) (c1 := 14) (q := 9) dX1_become_6 kF_X1_9 rfl (by decide) (by decide) rfl (by decide) rfl ?_ rfl
  refine J.iconst (q := 10) dX1_become_9 ?_ rfl
  refine J.bipush (q := 12) dX1_become_10 (by decide) ?_ rfl
  refine J.acopy (q := 15) (n0 := 81) (n1 := 81) dX1_become_12 kL_X1_70 rfl rfl (by omega) (by omega) (by omega) ?_ rfl
  obtain ⟨m1, em, f1, r1⟩ := acp iv 2 14 81
  rw [← em]
  clear em
  refine J.aload_n (q := 16) dX1_become_15 rfl ?_ rfl
  refine J.getR (ci := 1) (k0 := 1) (c1 := 3) (q := 19) dX1_become_16 kF_X1_15 rfl (by decide) (by decide) rfl (by decide) rfl ?_ rfl
  refine J.iconst (q := 20) dX1_become_19 ?_ rfl
  refine J.aload_n (q := 21) dX1_become_20 rfl ?_ rfl
  refine J.getR (ci := 1) (k0 := 1) (c1 := 15) (q := 24) dX1_become_21 kF_X1_15 rfl (by decide) (by decide) rfl (by decide) rfl ?_ rfl
  refine J.iconst (q := 25) dX1_become_24 ?_ rfl
  refine J.bipush (q := 27) dX1_become_25 (by decide) ?_ rfl
  refine J.acopy (q := 30) (n0 := 81) (n1 := 81) dX1_become_27 kL_X1_70 rfl rfl (by omega) (by omega) (by omega) ?_ rfl
  obtain ⟨m2, em, f2, r2⟩ := acp m1 3 15 81
  rw [← em]
  clear em
  refine J.aload_n (q := 31) dX1_become_30 rfl ?_ rfl
  refine J.getR (ci := 1) (k0 := 2) (c1 := 4) (q := 34) dX1_become_31 kF_X1_18 rfl (by decide) (by decide) rfl (by decide) rfl ?_ rfl
  refine J.iconst (q := 35) dX1_become_34 ?_ rfl
  refine J.aload_n (q := 36) dX1_become_35 rfl ?_ rfl
  refine J.getR (ci := 1) (k0 := 2) (c1 := 16) (q := 39) dX1_become_36 kF_X1_18 rfl (by decide) (by decide) rfl (by decide) rfl ?_ rfl
  refine J.iconst (q := 40) dX1_become_39 ?_ rfl
  refine J.bipush (q := 42) dX1_become_40 (by decide) ?_ rfl
  refine J.acopy (q := 45) (n0 := 81) (n1 := 81) dX1_become_42 kL_X1_70 rfl rfl (by omega) (by omega) (by omega) ?_ rfl
  obtain ⟨m3, em, f3, r3⟩ := acp m2 4 16 81
  rw [← em]
  clear em
  refine J.aload_n (q := 46) dX1_become_45 rfl ?_ rfl
  refine J.getR (ci := 1) (k0 := 4) (c1 := 6) (q := 49) dX1_become_46 kF_X1_24 rfl (by decide) (by decide) rfl (by decide) rfl ?_ rfl
  refine J.iconst (q := 50) dX1_become_49 ?_ rfl
  refine J.aload_n (q := 51) dX1_become_50 rfl ?_ rfl
  refine J.getR (ci := 1) (k0 := 4) (c1 := 18) (q := 54) dX1_become_51 kF_X1_24 rfl (by decide) (by decide) rfl (by decide) rfl ?_ rfl
  refine J.iconst (q := 55) dX1_become_54 ?_ rfl
  refine J.bipush (q := 57) dX1_become_55 (by decide) ?_ rfl
  refine J.acopy (q := 60) (n0 := 8) (n1 := 8) dX1_become_57 kL_X1_70 rfl rfl (by omega) (by omega) (by omega) ?_ rfl
  obtain ⟨m4, em, f4, r4⟩ := acp m3 6 18 8
  rw [← em]
  clear em
  refine J.aload_n (q := 61) dX1_become_60 rfl ?_ rfl
  refine J.getR (ci := 1) (k0 := 5) (c1 := 7) (q := 64) dX1_become_61 kF_X1_27 rfl (by decide) (by decide) rfl (by decide) rfl ?_ rfl
  refine J.iconst (q := 65) dX1_become_64 ?_ rfl
  refine J.aload_n (q := 66) dX1_become_65 rfl ?_ rfl
  refine J.getR (ci := 1) (k0 := 5) (c1 := 19) (q := 69) dX1_become_66 kF_X1_27 rfl (by decide) (by decide) rfl (by decide) rfl ?_ rfl
  refine J.iconst (q := 70) dX1_become_69 ?_ rfl
  refine J.bipush (q := 72) dX1_become_70 (by decide) ?_ rfl
  refine J.acopy (q := 75) (n0 := 8) (n1 := 8) dX1_become_72 kL_X1_70 rfl rfl (by omega) (by omega) (by omega) ?_ rfl
  obtain ⟨m5, em, f5, r5⟩ := acp m4 7 19 8
  rw [← em]
  clear em
  refine J.aload_n (q := 76) dX1_become_75 rfl ?_ rfl
  refine J.getR (ci := 1) (k0 := 6) (c1 := 8) (q := 79) dX1_become_76 kF_X1_30 rfl (by decide) (by decide) rfl (by decide) rfl ?_ rfl
  refine J.iconst (q := 80) dX1_become_79 ?_ rfl
  refine J.aload_n (q := 81) dX1_become_80 rfl ?_ rfl
  refine J.getR (ci := 1) (k0 := 6) (c1 := 20) (q := 84) dX1_become_81 kF_X1_30 rfl (by decide) (by decide) rfl (by decide) rfl ?_ rfl
  refine J.iconst (q := 85) dX1_become_84 ?_ rfl
  refine J.bipush (q := 87) dX1_become_85 (by decide) ?_ rfl
  refine J.acopy (q := 90) (n0 := 8) (n1 := 8) dX1_become_87 kL_X1_70 rfl rfl (by omega) (by omega) (by omega) ?_ rfl
  obtain ⟨m6, em, f6, r6⟩ := acp m5 8 20 8
  rw [← em]
  clear em
  refine J.aload_n (q := 91) dX1_become_90 rfl ?_ rfl
  refine J.getR (ci := 1) (k0 := 7) (c1 := 9) (q := 94) dX1_become_91 kF_X1_33 rfl (by decide) (by decide) rfl (by decide) rfl ?_ rfl
  refine J.iconst (q := 95) dX1_become_94 ?_ rfl
  refine J.aload_n (q := 96) dX1_become_95 rfl ?_ rfl
  refine J.getR (ci := 1) (k0 := 7) (c1 := 21) (q := 99) dX1_become_96 kF_X1_33 rfl (by decide) (by decide) rfl (by decide) rfl ?_ rfl
  refine J.iconst (q := 100) dX1_become_99 ?_ rfl
  refine J.bipush (q := 102) dX1_become_100 (by decide) ?_ rfl
  refine J.acopy (q := 105) (n0 := 8) (n1 := 8) dX1_become_102 kL_X1_70 rfl rfl (by omega) (by omega) (by omega) ?_ rfl
  obtain ⟨m7, em, f7, r7⟩ := acp m6 9 21 8
  rw [← em]
  clear em
  refine J.aload_n (q := 106) dX1_become_105 rfl ?_ rfl
  refine J.getR (ci := 1) (k0 := 8) (c1 := 10) (q := 109) dX1_become_106 kF_X1_36 rfl (by decide) (by decide) rfl (by decide) rfl ?_ rfl
  refine J.iconst (q := 110) dX1_become_109 ?_ rfl
  refine J.aload_n (q := 111) dX1_become_110 rfl ?_ rfl
  refine J.getR (ci := 1) (k0 := 8) (c1 := 22) (q := 114) dX1_become_111 kF_X1_36 rfl (by decide) (by decide) rfl (by decide) rfl ?_ rfl
  refine J.iconst (q := 115) dX1_become_114 ?_ rfl
  refine J.bipush (q := 117) dX1_become_115 (by decide) ?_ rfl
  refine J.acopy (q := 120) (n0 := 8) (n1 := 8) dX1_become_117 kL_X1_70 rfl rfl (by omega) (by omega) (by omega) ?_ rfl
  obtain ⟨m8, em, f8, r8⟩ := acp m7 10 22 8
  rw [← em]
  clear em
  refine J.aload_n (q := 121) dX1_become_120 rfl ?_ rfl
  refine J.getR (ci := 1) (k0 := 9) (c1 := 11) (q := 124) dX1_become_121 kF_X1_39 rfl (by decide) (by decide) rfl (by decide) rfl ?_ rfl
  refine J.iconst (q := 125) dX1_become_124 ?_ rfl
  refine J.aload_n (q := 126) dX1_become_125 rfl ?_ rfl
  refine J.getR (ci := 1) (k0 := 9) (c1 := 23) (q := 129) dX1_become_126 kF_X1_39 rfl (by decide) (by decide) rfl (by decide) rfl ?_ rfl
  refine J.iconst (q := 130) dX1_become_129 ?_ rfl
  refine J.bipush (q := 132) dX1_become_130 (by decide) ?_ rfl
  refine J.acopy (q := 135) (n0 := 8) (n1 := 8) dX1_become_132 kL_X1_70 rfl rfl (by omega) (by omega) (by omega) ?_ rfl
  obtain ⟨m9, em, f9, r9⟩ := acp m8 11 23 8
  rw [← em]
  clear em
  refine J.aload_n (q := 136) dX1_become_135 rfl ?_ rfl
  refine J.getR (ci := 1) (k0 := 10) (c1 := 12) (q := 139) dX1_become_136 kF_X1_42 rfl (by decide) (by decide) rfl (by decide) rfl ?_ rfl
  refine J.iconst (q := 140) dX1_become_139 ?_ rfl
  refine J.aload_n (q := 141) dX1_become_140 rfl ?_ rfl
  refine J.getR (ci := 1) (k0 := 10) (c1 := 24) (q := 144) dX1_become_141 kF_X1_42 rfl (by decide) (by decide) rfl (by decide) rfl ?_ rfl
  refine J.iconst (q := 145) dX1_become_144 ?_ rfl
  refine J.bipush (q := 147) dX1_become_145 (by decide) ?_ rfl
  refine J.acopy (q := 150) (n0 := 10) (n1 := 10) dX1_become_147 kL_X1_70 rfl rfl (by omega) (by omega) (by omega) ?_ rfl
  obtain ⟨m10, em, f10, r10⟩ := acp m9 12 24 10
  rw [← em]
  clear em
  have hRs : RR m10 1 s := hR.fr (fun q q1 q2 q3 => by rw [f10 _ (by omega), f9 _ (by omega), f8 _ (by omega), f7 _ (by omega), f6 _ (by omega), f5 _ (by omega), f4 _ (by omega), f3 _ (by omega), f2 _ (by omega), f1 _ (by omega)])
  refine J.aload_n (q := 151) dX1_become_150 rfl ?_ rfl
  refine J.aload_n (q := 152) dX1_become_151 rfl ?_ rfl
  refine J.getI (ci := 1) (k0 := 11) (kz := 11) (q := 155) dX1_become_152 kF_X1_45 rfl (by decide) (by decide) rfl (.inl rfl) ?_ rfl
  rw [g1_many hRs]
  refine J.putI (ci := 1) (k0 := 11) (kz := 11) (q := 158) dX1_become_155 kF_X1_45 rfl (by decide) (by decide) rfl rfl rfl ?_ rfl
  refine J.aload_n (q := 159) dX1_become_158 rfl ?_ rfl
  refine J.aload_n (q := 160) dX1_become_159 rfl ?_ rfl
  refine J.getI (ci := 1) (k0 := 12) (kz := 12) (q := 163) dX1_become_160 kF_X1_49 rfl (by decide) (by decide) rfl (.inl rfl) ?_ rfl
  rw [up_n _ _ _ (by decide), g1_wet hRs]
  refine J.putI (ci := 1) (k0 := 12) (kz := 12) (q := 166) dX1_become_163 kF_X1_49 rfl (by decide) (by decide) rfl rfl rfl ?_ rfl
  refine J.aload_n (q := 167) dX1_become_166 rfl ?_ rfl
  refine J.aload_n (q := 168) dX1_become_167 rfl ?_ rfl
  refine J.getI (ci := 1) (k0 := 13) (kz := 13) (q := 171) dX1_become_168 kF_X1_52 rfl (by decide) (by decide) rfl (.inl rfl) ?_ rfl
  rw [up_n _ _ _ (by decide), up_n _ _ _ (by decide), g1_thr hRs]
  refine J.putI (ci := 1) (k0 := 13) (kz := 13) (q := 174) dX1_become_171 kF_X1_52 rfl (by decide) (by decide) rfl rfl rfl ?_ rfl
  refine J.aload_n (q := 175) dX1_become_174 rfl ?_ rfl
  refine J.aload_n (q := 176) dX1_become_175 rfl ?_ rfl
  refine J.getI (ci := 1) (k0 := 14) (kz := 14) (q := 179) dX1_become_176 kF_X1_55 rfl (by decide) (by decide) rfl (.inl rfl) ?_ rfl
  rw [up_n _ _ _ (by decide), up_n _ _ _ (by decide), up_n _ _ _ (by decide), g1_day hRs]
  refine J.putI (ci := 1) (k0 := 14) (kz := 14) (q := 182) dX1_become_179 kF_X1_55 rfl (by decide) (by decide) rfl rfl rfl ?_ rfl
  refine J.aload_n (q := 183) dX1_become_182 rfl ?_ rfl
  refine J.aload_n (q := 184) dX1_become_183 rfl ?_ rfl
  refine J.getI (ci := 1) (k0 := 15) (kz := 15) (q := 187) dX1_become_184 kF_X1_58 rfl (by decide) (by decide) rfl (.inl rfl) ?_ rfl
  rw [up_n _ _ _ (by decide), up_n _ _ _ (by decide), up_n _ _ _ (by decide), up_n _ _ _ (by decide), g1_cla hRs]
  refine J.putI (ci := 1) (k0 := 15) (kz := 15) (q := 190) dX1_become_187 kF_X1_58 rfl (by decide) (by decide) rfl rfl rfl ?_ rfl
  refine J.aload_n (q := 191) dX1_become_190 rfl ?_ rfl
  refine J.aload_n (q := 192) dX1_become_191 rfl ?_ rfl
  refine J.getI (ci := 1) (k0 := 16) (kz := 16) (q := 195) dX1_become_192 kF_X1_61 rfl (by decide) (by decide) rfl (.inl rfl) ?_ rfl
  rw [up_n _ _ _ (by decide), up_n _ _ _ (by decide), up_n _ _ _ (by decide), up_n _ _ _ (by decide), up_n _ _ _ (by decide), g1_zz hRs]
  refine J.putI (ci := 1) (k0 := 16) (kz := 16) (q := 198) dX1_become_195 kF_X1_61 rfl (by decide) (by decide) rfl rfl rfl ?_ rfl
  refine J.vreturn dX1_become_198 rfl ?_
  refine ⟨rfl, rfl, fun q hq => ?_, fun o i t hp => ?_⟩
  · rw [up_n _ _ _ (by omega), up_n _ _ _ (by omega), up_n _ _ _ (by omega), up_n _ _ _ (by omega), up_n _ _ _ (by omega), up_n _ _ _ (by omega), f10 _ (by omega), f9 _ (by omega), f8 _ (by omega), f7 _ (by omega), f6 _ (by omega), f5 _ (by omega), f4 _ (by omega), f3 _ (by omega), f2 _ (by omega), f1 _ (by omega)]
  · rcases hp with ⟨rfl, rfl, rfl⟩ | ⟨rfl, rfl, rfl⟩ | ⟨rfl, rfl, rfl⟩ | ⟨rfl, rfl, rfl⟩ | ⟨rfl, rfl, rfl⟩ | ⟨rfl, rfl, rfl⟩ | ⟨rfl, h0, h1, rfl⟩ | ⟨rfl, h0, h1, rfl⟩ | ⟨rfl, h0, h1, rfl⟩ | ⟨rfl, h0, h1, rfl⟩ | ⟨rfl, h0, h1, rfl⟩ | ⟨rfl, h0, h1, rfl⟩ | ⟨rfl, h0, h1, rfl⟩ | ⟨rfl, h0, h1, rfl⟩ | ⟨rfl, h0, h1, rfl⟩ | ⟨rfl, h0, h1, rfl⟩
    · simp [up, upr]
    · simp [up, upr]
    · simp [up, upr]
    · simp [up, upr]
    · simp [up, upr]
    · simp [up, upr]
    · rw [up_n _ _ _ (by omega), up_n _ _ _ (by omega), up_n _ _ _ (by omega), up_n _ _ _ (by omega), up_n _ _ _ (by omega), up_n _ _ _ (by omega), f10 _ (by omega), f9 _ (by omega), f8 _ (by omega), f7 _ (by omega), f6 _ (by omega), f5 _ (by omega), f4 _ (by omega), f3 _ (by omega), f2 _ (by omega), r1 _ h0 h1, g1_hed hR h0 h1]
    · rw [up_n _ _ _ (by omega), up_n _ _ _ (by omega), up_n _ _ _ (by omega), up_n _ _ _ (by omega), up_n _ _ _ (by omega), up_n _ _ _ (by omega), f10 _ (by omega), f9 _ (by omega), f8 _ (by omega), f7 _ (by omega), f6 _ (by omega), f5 _ (by omega), f4 _ (by omega), f3 _ (by omega), r2 _ h0 h1, f1 _ (by omega), g1_lea hR h0 h1]
    · rw [up_n _ _ _ (by omega), up_n _ _ _ (by omega), up_n _ _ _ (by omega), up_n _ _ _ (by omega), up_n _ _ _ (by omega), up_n _ _ _ (by omega), f10 _ (by omega), f9 _ (by omega), f8 _ (by omega), f7 _ (by omega), f6 _ (by omega), f5 _ (by omega), f4 _ (by omega), r3 _ h0 h1, f2 _ (by omega), f1 _ (by omega), g1_law hR h0 h1]
    · rw [up_n _ _ _ (by omega), up_n _ _ _ (by omega), up_n _ _ _ (by omega), up_n _ _ _ (by omega), up_n _ _ _ (by omega), up_n _ _ _ (by omega), f10 _ (by omega), f9 _ (by omega), f8 _ (by omega), f7 _ (by omega), f6 _ (by omega), f5 _ (by omega), r4 _ h0 h1, f3 _ (by omega), f2 _ (by omega), f1 _ (by omega), g1_ban hR h0 h1]
    · rw [up_n _ _ _ (by omega), up_n _ _ _ (by omega), up_n _ _ _ (by omega), up_n _ _ _ (by omega), up_n _ _ _ (by omega), up_n _ _ _ (by omega), f10 _ (by omega), f9 _ (by omega), f8 _ (by omega), f7 _ (by omega), f6 _ (by omega), r5 _ h0 h1, f4 _ (by omega), f3 _ (by omega), f2 _ (by omega), f1 _ (by omega), g1_kin hR h0 h1]
    · rw [up_n _ _ _ (by omega), up_n _ _ _ (by omega), up_n _ _ _ (by omega), up_n _ _ _ (by omega), up_n _ _ _ (by omega), up_n _ _ _ (by omega), f10 _ (by omega), f9 _ (by omega), f8 _ (by omega), f7 _ (by omega), r6 _ h0 h1, f5 _ (by omega), f4 _ (by omega), f3 _ (by omega), f2 _ (by omega), f1 _ (by omega), g1_ats hR h0 h1]
    · rw [up_n _ _ _ (by omega), up_n _ _ _ (by omega), up_n _ _ _ (by omega), up_n _ _ _ (by omega), up_n _ _ _ (by omega), up_n _ _ _ (by omega), f10 _ (by omega), f9 _ (by omega), f8 _ (by omega), r7 _ h0 h1, f6 _ (by omega), f5 _ (by omega), f4 _ (by omega), f3 _ (by omega), f2 _ (by omega), f1 _ (by omega), g1_edi hR h0 h1]
    · rw [up_n _ _ _ (by omega), up_n _ _ _ (by omega), up_n _ _ _ (by omega), up_n _ _ _ (by omega), up_n _ _ _ (by omega), up_n _ _ _ (by omega), f10 _ (by omega), f9 _ (by omega), r8 _ h0 h1, f7 _ (by omega), f6 _ (by omega), f5 _ (by omega), f4 _ (by omega), f3 _ (by omega), f2 _ (by omega), f1 _ (by omega), g1_gat hR h0 h1]
    · rw [up_n _ _ _ (by omega), up_n _ _ _ (by omega), up_n _ _ _ (by omega), up_n _ _ _ (by omega), up_n _ _ _ (by omega), up_n _ _ _ (by omega), f10 _ (by omega), r9 _ h0 h1, f8 _ (by omega), f7 _ (by omega), f6 _ (by omega), f5 _ (by omega), f4 _ (by omega), f3 _ (by omega), f2 _ (by omega), f1 _ (by omega), g1_pri hR h0 h1]
    · rw [up_n _ _ _ (by omega), up_n _ _ _ (by omega), up_n _ _ _ (by omega), up_n _ _ _ (by omega), up_n _ _ _ (by omega), up_n _ _ _ (by omega), r10 _ h0 h1, f9 _ (by omega), f8 _ (by omega), f7 _ (by omega), f6 _ (by omega), f5 _ (by omega), f4 _ (by omega), f3 _ (by omega), f2 _ (by omega), f1 _ (by omega), g1_spo hR h0 h1]

set_option maxRecDepth 100000 in
set_option maxHeartbeats 4000000 in
theorem c_become1_13 {l : Launch} {F : Nat × (Int → Int)} {iv : Mm} {s : Int → Int} (hR : RR iv 13 s) : Ctr l F 1 0 0 yX1_become cX1_become 2 none [r_ 1, r_ 13] S0 (iv) (fun v S iv2 => v = none ∧ S = S0 ∧ (∀ q, (q < 1 ∨ 12 < q ∨ q = 5) → iv2 q = iv q) ∧ RR iv2 1 s) := by
  refine Ctr.of false (fun h => by cases h) (by decide) rfl (Nat.le_of_ble_eq_true rfl) ?_
  refine J.aload_n (q := 1) dX1_become_0 rfl ?_ rfl
  refine J.getR (ci := 1) (k0 := 0) (c1 := 14) (q := 4) dX1_become_1 kF_X1_9 rfl (by decide) (by decide) rfl (by decide) rfl ?_ rfl
  refine J.iconst (q := 5) dX1_become_4 ?_ rfl
  refine J.aload_n (q := 6) dX1_become_5 rfl ?_ rfl
  refine J.getR (ci := 1) (k0 := 0) (c1 := 2) (q := 9) dX1_become_6 kF_X1_9 rfl (by decide) (by decide) rfl (by decide) rfl ?_ rfl
  refine J.iconst (q := 10) dX1_become_9 ?_ rfl
  refine J.bipush (q := 12) dX1_become_10 (by decide) ?_ rfl
  refine J.acopy (q := 15) (n0 := 81) (n1 := 81) dX1_become_12 kL_X1_70 rfl rfl (by omega) (by omega) (by omega) ?_ rfl
  obtain ⟨m1, em, f1, r1⟩ := acp iv 14 2 81
  rw [← em]
  clear em
  refine J.aload_n (q := 16) dX1_become_15 rfl ?_ rfl
  refine J.getR (ci := 1) (k0 := 1) (c1 := 15) (q := 19) dX1_become_16 kF_X1_15 rfl (by decide) (by decide) rfl (by decide) rfl ?_ rfl
  refine J.iconst (q := 20) dX1_become_19 ?_ rfl
  refine J.aload_n (q := 21) dX1_become_20 rfl ?_ rfl
  refine J.getR (ci := 1) (k0 := 1) (c1 := 3) (q := 24) dX1_become_21 kF_X1_15 rfl (by decide) (by decide) rfl (by decide) rfl ?_ rfl
  refine J.iconst (q := 25) dX1_become_24 ?_ rfl
  refine J.bipush (q := 27) dX1_become_25 (by decide) ?_ rfl
  refine J.acopy (q := 30) (n0 := 81) (n1 := 81) dX1_become_27 kL_X1_70 rfl rfl (by omega) (by omega) (by omega) ?_ rfl
  obtain ⟨m2, em, f2, r2⟩ := acp m1 15 3 81
  rw [← em]
  clear em
  refine J.aload_n (q := 31) dX1_become_30 rfl ?_ rfl
  refine J.getR (ci := 1) (k0 := 2) (c1 := 16) (q := 34) dX1_become_31 kF_X1_18 rfl (by decide) (by decide) rfl (by decide) rfl ?_ rfl
  refine J.iconst (q := 35) dX1_become_34 ?_ rfl
  refine J.aload_n (q := 36) dX1_become_35 rfl ?_ rfl
  refine J.getR (ci := 1) (k0 := 2) (c1 := 4) (q := 39) dX1_become_36 kF_X1_18 rfl (by decide) (by decide) rfl (by decide) rfl ?_ rfl
  refine J.iconst (q := 40) dX1_become_39 ?_ rfl
  refine J.bipush (q := 42) dX1_become_40 (by decide) ?_ rfl
  refine J.acopy (q := 45) (n0 := 81) (n1 := 81) dX1_become_42 kL_X1_70 rfl rfl (by omega) (by omega) (by omega) ?_ rfl
  obtain ⟨m3, em, f3, r3⟩ := acp m2 16 4 81
  rw [← em]
  clear em
  refine J.aload_n (q := 46) dX1_become_45 rfl ?_ rfl
  refine J.getR (ci := 1) (k0 := 4) (c1 := 18) (q := 49) dX1_become_46 kF_X1_24 rfl (by decide) (by decide) rfl (by decide) rfl ?_ rfl
  refine J.iconst (q := 50) dX1_become_49 ?_ rfl
  refine J.aload_n (q := 51) dX1_become_50 rfl ?_ rfl
  refine J.getR (ci := 1) (k0 := 4) (c1 := 6) (q := 54) dX1_become_51 kF_X1_24 rfl (by decide) (by decide) rfl (by decide) rfl ?_ rfl
  refine J.iconst (q := 55) dX1_become_54 ?_ rfl
  refine J.bipush (q := 57) dX1_become_55 (by decide) ?_ rfl
  refine J.acopy (q := 60) (n0 := 8) (n1 := 8) dX1_become_57 kL_X1_70 rfl rfl (by omega) (by omega) (by omega) ?_ rfl
  obtain ⟨m4, em, f4, r4⟩ := acp m3 18 6 8
  rw [← em]
  clear em
  refine J.aload_n (q := 61) dX1_become_60 rfl ?_ rfl
  refine J.getR (ci := 1) (k0 := 5) (c1 := 19) (q := 64) dX1_become_61 kF_X1_27 rfl (by decide) (by decide) rfl (by decide) rfl ?_ rfl
  refine J.iconst (q := 65) dX1_become_64 ?_ rfl
  refine J.aload_n (q := 66) dX1_become_65 rfl ?_ rfl
  refine J.getR (ci := 1) (k0 := 5) (c1 := 7) (q := 69) dX1_become_66 kF_X1_27 rfl (by decide) (by decide) rfl (by decide) rfl ?_ rfl
  refine J.iconst (q := 70) dX1_become_69 ?_ rfl
  refine J.bipush (q := 72) dX1_become_70 (by decide) ?_ rfl
  refine J.acopy (q := 75) (n0 := 8) (n1 := 8) dX1_become_72 kL_X1_70 rfl rfl (by omega) (by omega) (by omega) ?_ rfl
  obtain ⟨m5, em, f5, r5⟩ := acp m4 19 7 8
  rw [← em]
  clear em
  refine J.aload_n (q := 76) dX1_become_75 rfl ?_ rfl
  refine J.getR (ci := 1) (k0 := 6) (c1 := 20) (q := 79) dX1_become_76 kF_X1_30 rfl (by decide) (by decide) rfl (by decide) rfl ?_ rfl
  refine J.iconst (q := 80) dX1_become_79 ?_ rfl
  refine J.aload_n (q := 81) dX1_become_80 rfl ?_ rfl
  refine J.getR (ci := 1) (k0 := 6) (c1 := 8) (q := 84) dX1_become_81 kF_X1_30 rfl (by decide) (by decide) rfl (by decide) rfl ?_ rfl
  refine J.iconst (q := 85) dX1_become_84 ?_ rfl
  refine J.bipush (q := 87) dX1_become_85 (by decide) ?_ rfl
  refine J.acopy (q := 90) (n0 := 8) (n1 := 8) dX1_become_87 kL_X1_70 rfl rfl (by omega) (by omega) (by omega) ?_ rfl
  obtain ⟨m6, em, f6, r6⟩ := acp m5 20 8 8
  rw [← em]
  clear em
  refine J.aload_n (q := 91) dX1_become_90 rfl ?_ rfl
  refine J.getR (ci := 1) (k0 := 7) (c1 := 21) (q := 94) dX1_become_91 kF_X1_33 rfl (by decide) (by decide) rfl (by decide) rfl ?_ rfl
  refine J.iconst (q := 95) dX1_become_94 ?_ rfl
  refine J.aload_n (q := 96) dX1_become_95 rfl ?_ rfl
  refine J.getR (ci := 1) (k0 := 7) (c1 := 9) (q := 99) dX1_become_96 kF_X1_33 rfl (by decide) (by decide) rfl (by decide) rfl ?_ rfl
  refine J.iconst (q := 100) dX1_become_99 ?_ rfl
  refine J.bipush (q := 102) dX1_become_100 (by decide) ?_ rfl
  refine J.acopy (q := 105) (n0 := 8) (n1 := 8) dX1_become_102 kL_X1_70 rfl rfl (by omega) (by omega) (by omega) ?_ rfl
  obtain ⟨m7, em, f7, r7⟩ := acp m6 21 9 8
  rw [← em]
  clear em
  refine J.aload_n (q := 106) dX1_become_105 rfl ?_ rfl
  refine J.getR (ci := 1) (k0 := 8) (c1 := 22) (q := 109) dX1_become_106 kF_X1_36 rfl (by decide) (by decide) rfl (by decide) rfl ?_ rfl
  refine J.iconst (q := 110) dX1_become_109 ?_ rfl
  refine J.aload_n (q := 111) dX1_become_110 rfl ?_ rfl
  refine J.getR (ci := 1) (k0 := 8) (c1 := 10) (q := 114) dX1_become_111 kF_X1_36 rfl (by decide) (by decide) rfl (by decide) rfl ?_ rfl
  refine J.iconst (q := 115) dX1_become_114 ?_ rfl
  refine J.bipush (q := 117) dX1_become_115 (by decide) ?_ rfl
  refine J.acopy (q := 120) (n0 := 8) (n1 := 8) dX1_become_117 kL_X1_70 rfl rfl (by omega) (by omega) (by omega) ?_ rfl
  obtain ⟨m8, em, f8, r8⟩ := acp m7 22 10 8
  rw [← em]
  clear em
  refine J.aload_n (q := 121) dX1_become_120 rfl ?_ rfl
  refine J.getR (ci := 1) (k0 := 9) (c1 := 23) (q := 124) dX1_become_121 kF_X1_39 rfl (by decide) (by decide) rfl (by decide) rfl ?_ rfl
  refine J.iconst (q := 125) dX1_become_124 ?_ rfl
  refine J.aload_n (q := 126) dX1_become_125 rfl ?_ rfl
  refine J.getR (ci := 1) (k0 := 9) (c1 := 11) (q := 129) dX1_become_126 kF_X1_39 rfl (by decide) (by decide) rfl (by decide) rfl ?_ rfl
  refine J.iconst (q := 130) dX1_become_129 ?_ rfl
  refine J.bipush (q := 132) dX1_become_130 (by decide) ?_ rfl
  refine J.acopy (q := 135) (n0 := 8) (n1 := 8) dX1_become_132 kL_X1_70 rfl rfl (by omega) (by omega) (by omega) ?_ rfl
  obtain ⟨m9, em, f9, r9⟩ := acp m8 23 11 8
  rw [← em]
  clear em
  refine J.aload_n (q := 136) dX1_become_135 rfl ?_ rfl
  refine J.getR (ci := 1) (k0 := 10) (c1 := 24) (q := 139) dX1_become_136 kF_X1_42 rfl (by decide) (by decide) rfl (by decide) rfl ?_ rfl
  refine J.iconst (q := 140) dX1_become_139 ?_ rfl
  refine J.aload_n (q := 141) dX1_become_140 rfl ?_ rfl
  refine J.getR (ci := 1) (k0 := 10) (c1 := 12) (q := 144) dX1_become_141 kF_X1_42 rfl (by decide) (by decide) rfl (by decide) rfl ?_ rfl
  refine J.iconst (q := 145) dX1_become_144 ?_ rfl
  refine J.bipush (q := 147) dX1_become_145 (by decide) ?_ rfl
  refine J.acopy (q := 150) (n0 := 10) (n1 := 10) dX1_become_147 kL_X1_70 rfl rfl (by omega) (by omega) (by omega) ?_ rfl
  obtain ⟨m10, em, f10, r10⟩ := acp m9 24 12 10
  rw [← em]
  clear em
  have hRs : RR m10 13 s := hR.fr (fun q q1 q2 q3 => by rw [f10 _ (by omega), f9 _ (by omega), f8 _ (by omega), f7 _ (by omega), f6 _ (by omega), f5 _ (by omega), f4 _ (by omega), f3 _ (by omega), f2 _ (by omega), f1 _ (by omega)])
  refine J.aload_n (q := 151) dX1_become_150 rfl ?_ rfl
  refine J.aload_n (q := 152) dX1_become_151 rfl ?_ rfl
  refine J.getI (ci := 1) (k0 := 11) (kz := 11) (q := 155) dX1_become_152 kF_X1_45 rfl (by decide) (by decide) rfl (.inl rfl) ?_ rfl
  rw [g13_many hRs]
  refine J.putI (ci := 1) (k0 := 11) (kz := 11) (q := 158) dX1_become_155 kF_X1_45 rfl (by decide) (by decide) rfl rfl rfl ?_ rfl
  refine J.aload_n (q := 159) dX1_become_158 rfl ?_ rfl
  refine J.aload_n (q := 160) dX1_become_159 rfl ?_ rfl
  refine J.getI (ci := 1) (k0 := 12) (kz := 12) (q := 163) dX1_become_160 kF_X1_49 rfl (by decide) (by decide) rfl (.inl rfl) ?_ rfl
  rw [up_n _ _ _ (by decide), g13_wet hRs]
  refine J.putI (ci := 1) (k0 := 12) (kz := 12) (q := 166) dX1_become_163 kF_X1_49 rfl (by decide) (by decide) rfl rfl rfl ?_ rfl
  refine J.aload_n (q := 167) dX1_become_166 rfl ?_ rfl
  refine J.aload_n (q := 168) dX1_become_167 rfl ?_ rfl
  refine J.getI (ci := 1) (k0 := 13) (kz := 13) (q := 171) dX1_become_168 kF_X1_52 rfl (by decide) (by decide) rfl (.inl rfl) ?_ rfl
  rw [up_n _ _ _ (by decide), up_n _ _ _ (by decide), g13_thr hRs]
  refine J.putI (ci := 1) (k0 := 13) (kz := 13) (q := 174) dX1_become_171 kF_X1_52 rfl (by decide) (by decide) rfl rfl rfl ?_ rfl
  refine J.aload_n (q := 175) dX1_become_174 rfl ?_ rfl
  refine J.aload_n (q := 176) dX1_become_175 rfl ?_ rfl
  refine J.getI (ci := 1) (k0 := 14) (kz := 14) (q := 179) dX1_become_176 kF_X1_55 rfl (by decide) (by decide) rfl (.inl rfl) ?_ rfl
  rw [up_n _ _ _ (by decide), up_n _ _ _ (by decide), up_n _ _ _ (by decide), g13_day hRs]
  refine J.putI (ci := 1) (k0 := 14) (kz := 14) (q := 182) dX1_become_179 kF_X1_55 rfl (by decide) (by decide) rfl rfl rfl ?_ rfl
  refine J.aload_n (q := 183) dX1_become_182 rfl ?_ rfl
  refine J.aload_n (q := 184) dX1_become_183 rfl ?_ rfl
  refine J.getI (ci := 1) (k0 := 15) (kz := 15) (q := 187) dX1_become_184 kF_X1_58 rfl (by decide) (by decide) rfl (.inl rfl) ?_ rfl
  rw [up_n _ _ _ (by decide), up_n _ _ _ (by decide), up_n _ _ _ (by decide), up_n _ _ _ (by decide), g13_cla hRs]
  refine J.putI (ci := 1) (k0 := 15) (kz := 15) (q := 190) dX1_become_187 kF_X1_58 rfl (by decide) (by decide) rfl rfl rfl ?_ rfl
  refine J.aload_n (q := 191) dX1_become_190 rfl ?_ rfl
  refine J.aload_n (q := 192) dX1_become_191 rfl ?_ rfl
  refine J.getI (ci := 1) (k0 := 16) (kz := 16) (q := 195) dX1_become_192 kF_X1_61 rfl (by decide) (by decide) rfl (.inl rfl) ?_ rfl
  rw [up_n _ _ _ (by decide), up_n _ _ _ (by decide), up_n _ _ _ (by decide), up_n _ _ _ (by decide), up_n _ _ _ (by decide), g13_zz hRs]
  refine J.putI (ci := 1) (k0 := 16) (kz := 16) (q := 198) dX1_become_195 kF_X1_61 rfl (by decide) (by decide) rfl rfl rfl ?_ rfl
  refine J.vreturn dX1_become_198 rfl ?_
  refine ⟨rfl, rfl, fun q hq => ?_, fun o i t hp => ?_⟩
  · rw [up_n _ _ _ (by omega), up_n _ _ _ (by omega), up_n _ _ _ (by omega), up_n _ _ _ (by omega), up_n _ _ _ (by omega), up_n _ _ _ (by omega), f10 _ (by omega), f9 _ (by omega), f8 _ (by omega), f7 _ (by omega), f6 _ (by omega), f5 _ (by omega), f4 _ (by omega), f3 _ (by omega), f2 _ (by omega), f1 _ (by omega)]
  · rcases hp with ⟨rfl, rfl, rfl⟩ | ⟨rfl, rfl, rfl⟩ | ⟨rfl, rfl, rfl⟩ | ⟨rfl, rfl, rfl⟩ | ⟨rfl, rfl, rfl⟩ | ⟨rfl, rfl, rfl⟩ | ⟨rfl, h0, h1, rfl⟩ | ⟨rfl, h0, h1, rfl⟩ | ⟨rfl, h0, h1, rfl⟩ | ⟨rfl, h0, h1, rfl⟩ | ⟨rfl, h0, h1, rfl⟩ | ⟨rfl, h0, h1, rfl⟩ | ⟨rfl, h0, h1, rfl⟩ | ⟨rfl, h0, h1, rfl⟩ | ⟨rfl, h0, h1, rfl⟩ | ⟨rfl, h0, h1, rfl⟩
    · simp [up, upr]
    · simp [up, upr]
    · simp [up, upr]
    · simp [up, upr]
    · simp [up, upr]
    · simp [up, upr]
    · rw [up_n _ _ _ (by omega), up_n _ _ _ (by omega), up_n _ _ _ (by omega), up_n _ _ _ (by omega), up_n _ _ _ (by omega), up_n _ _ _ (by omega), f10 _ (by omega), f9 _ (by omega), f8 _ (by omega), f7 _ (by omega), f6 _ (by omega), f5 _ (by omega), f4 _ (by omega), f3 _ (by omega), f2 _ (by omega), r1 _ h0 h1, g13_hed hR h0 h1]
    · rw [up_n _ _ _ (by omega), up_n _ _ _ (by omega), up_n _ _ _ (by omega), up_n _ _ _ (by omega), up_n _ _ _ (by omega), up_n _ _ _ (by omega), f10 _ (by omega), f9 _ (by omega), f8 _ (by omega), f7 _ (by omega), f6 _ (by omega), f5 _ (by omega), f4 _ (by omega), f3 _ (by omega), r2 _ h0 h1, f1 _ (by omega), g13_lea hR h0 h1]
    · rw [up_n _ _ _ (by omega), up_n _ _ _ (by omega), up_n _ _ _ (by omega), up_n _ _ _ (by omega), up_n _ _ _ (by omega), up_n _ _ _ (by omega), f10 _ (by omega), f9 _ (by omega), f8 _ (by omega), f7 _ (by omega), f6 _ (by omega), f5 _ (by omega), f4 _ (by omega), r3 _ h0 h1, f2 _ (by omega), f1 _ (by omega), g13_law hR h0 h1]
    · rw [up_n _ _ _ (by omega), up_n _ _ _ (by omega), up_n _ _ _ (by omega), up_n _ _ _ (by omega), up_n _ _ _ (by omega), up_n _ _ _ (by omega), f10 _ (by omega), f9 _ (by omega), f8 _ (by omega), f7 _ (by omega), f6 _ (by omega), f5 _ (by omega), r4 _ h0 h1, f3 _ (by omega), f2 _ (by omega), f1 _ (by omega), g13_ban hR h0 h1]
    · rw [up_n _ _ _ (by omega), up_n _ _ _ (by omega), up_n _ _ _ (by omega), up_n _ _ _ (by omega), up_n _ _ _ (by omega), up_n _ _ _ (by omega), f10 _ (by omega), f9 _ (by omega), f8 _ (by omega), f7 _ (by omega), f6 _ (by omega), r5 _ h0 h1, f4 _ (by omega), f3 _ (by omega), f2 _ (by omega), f1 _ (by omega), g13_kin hR h0 h1]
    · rw [up_n _ _ _ (by omega), up_n _ _ _ (by omega), up_n _ _ _ (by omega), up_n _ _ _ (by omega), up_n _ _ _ (by omega), up_n _ _ _ (by omega), f10 _ (by omega), f9 _ (by omega), f8 _ (by omega), f7 _ (by omega), r6 _ h0 h1, f5 _ (by omega), f4 _ (by omega), f3 _ (by omega), f2 _ (by omega), f1 _ (by omega), g13_ats hR h0 h1]
    · rw [up_n _ _ _ (by omega), up_n _ _ _ (by omega), up_n _ _ _ (by omega), up_n _ _ _ (by omega), up_n _ _ _ (by omega), up_n _ _ _ (by omega), f10 _ (by omega), f9 _ (by omega), f8 _ (by omega), r7 _ h0 h1, f6 _ (by omega), f5 _ (by omega), f4 _ (by omega), f3 _ (by omega), f2 _ (by omega), f1 _ (by omega), g13_edi hR h0 h1]
    · rw [up_n _ _ _ (by omega), up_n _ _ _ (by omega), up_n _ _ _ (by omega), up_n _ _ _ (by omega), up_n _ _ _ (by omega), up_n _ _ _ (by omega), f10 _ (by omega), f9 _ (by omega), r8 _ h0 h1, f7 _ (by omega), f6 _ (by omega), f5 _ (by omega), f4 _ (by omega), f3 _ (by omega), f2 _ (by omega), f1 _ (by omega), g13_gat hR h0 h1]
    · rw [up_n _ _ _ (by omega), up_n _ _ _ (by omega), up_n _ _ _ (by omega), up_n _ _ _ (by omega), up_n _ _ _ (by omega), up_n _ _ _ (by omega), f10 _ (by omega), r9 _ h0 h1, f8 _ (by omega), f7 _ (by omega), f6 _ (by omega), f5 _ (by omega), f4 _ (by omega), f3 _ (by omega), f2 _ (by omega), f1 _ (by omega), g13_pri hR h0 h1]
    · rw [up_n _ _ _ (by omega), up_n _ _ _ (by omega), up_n _ _ _ (by omega), up_n _ _ _ (by omega), up_n _ _ _ (by omega), up_n _ _ _ (by omega), r10 _ h0 h1, f9 _ (by omega), f8 _ (by omega), f7 _ (by omega), f6 _ (by omega), f5 _ (by omega), f4 _ (by omega), f3 _ (by omega), f2 _ (by omega), f1 _ (by omega), g13_spo hR h0 h1]

set_option maxRecDepth 100000 in
set_option maxHeartbeats 4000000 in
theorem c_become1_26 {l : Launch} {F : Nat × (Int → Int)} {iv : Mm} {s : Int → Int} (hR : RR iv 26 s) : Ctr l F 1 0 0 yX1_become cX1_become 2 none [r_ 1, r_ 26] S0 (iv) (fun v S iv2 => v = none ∧ S = S0 ∧ (∀ q, (q < 1 ∨ 12 < q ∨ q = 5) → iv2 q = iv q) ∧ RR iv2 1 s) := by
  refine Ctr.of false (fun h => by cases h) (by decide) rfl (Nat.le_of_ble_eq_true rfl) ?_
  refine J.aload_n (q := 1) dX1_become_0 rfl ?_ rfl
  refine J.getR (ci := 1) (k0 := 0) (c1 := 27) (q := 4) dX1_become_1 kF_X1_9 rfl (by decide) (by decide) rfl (by decide) rfl ?_ rfl
  refine J.iconst (q := 5) dX1_become_4 ?_ rfl
  refine J.aload_n (q := 6) dX1_become_5 rfl ?_ rfl
  refine J.getR (ci := 1) (k0 := 0) (c1 := 2) (q := 9) dX1_become_6 kF_X1_9 rfl (by decide) (by decide) rfl (by decide) rfl ?_ rfl
  refine J.iconst (q := 10) dX1_become_9 ?_ rfl
  refine J.bipush (q := 12) dX1_become_10 (by decide) ?_ rfl
  refine J.acopy (q := 15) (n0 := 81) (n1 := 81) dX1_become_12 kL_X1_70 rfl rfl (by omega) (by omega) (by omega) ?_ rfl
  obtain ⟨m1, em, f1, r1⟩ := acp iv 27 2 81
  rw [← em]
  clear em
  refine J.aload_n (q := 16) dX1_become_15 rfl ?_ rfl
  refine J.getR (ci := 1) (k0 := 1) (c1 := 28) (q := 19) dX1_become_16 kF_X1_15 rfl (by decide) (by decide) rfl (by decide) rfl ?_ rfl
  refine J.iconst (q := 20) dX1_become_19 ?_ rfl
  refine J.aload_n (q := 21) dX1_become_20 rfl ?_ rfl
  refine J.getR (ci := 1) (k0 := 1) (c1 := 3) (q := 24) dX1_become_21 kF_X1_15 rfl (by decide) (by decide) rfl (by decide) rfl ?_ rfl
  refine J.iconst (q := 25) dX1_become_24 ?_ rfl
  refine J.bipush (q := 27) dX1_become_25 (by decide) ?_ rfl
  refine J.acopy (q := 30) (n0 := 81) (n1 := 81) dX1_become_27 kL_X1_70 rfl rfl (by omega) (by omega) (by omega) ?_ rfl
  obtain ⟨m2, em, f2, r2⟩ := acp m1 28 3 81
  rw [← em]
  clear em
  refine J.aload_n (q := 31) dX1_become_30 rfl ?_ rfl
  refine J.getR (ci := 1) (k0 := 2) (c1 := 29) (q := 34) dX1_become_31 kF_X1_18 rfl (by decide) (by decide) rfl (by decide) rfl ?_ rfl
  refine J.iconst (q := 35) dX1_become_34 ?_ rfl
  refine J.aload_n (q := 36) dX1_become_35 rfl ?_ rfl
  refine J.getR (ci := 1) (k0 := 2) (c1 := 4) (q := 39) dX1_become_36 kF_X1_18 rfl (by decide) (by decide) rfl (by decide) rfl ?_ rfl
  refine J.iconst (q := 40) dX1_become_39 ?_ rfl
  refine J.bipush (q := 42) dX1_become_40 (by decide) ?_ rfl
  refine J.acopy (q := 45) (n0 := 81) (n1 := 81) dX1_become_42 kL_X1_70 rfl rfl (by omega) (by omega) (by omega) ?_ rfl
  obtain ⟨m3, em, f3, r3⟩ := acp m2 29 4 81
  rw [← em]
  clear em
  refine J.aload_n (q := 46) dX1_become_45 rfl ?_ rfl
  refine J.getR (ci := 1) (k0 := 4) (c1 := 31) (q := 49) dX1_become_46 kF_X1_24 rfl (by decide) (by decide) rfl (by decide) rfl ?_ rfl
  refine J.iconst (q := 50) dX1_become_49 ?_ rfl
  refine J.aload_n (q := 51) dX1_become_50 rfl ?_ rfl
  refine J.getR (ci := 1) (k0 := 4) (c1 := 6) (q := 54) dX1_become_51 kF_X1_24 rfl (by decide) (by decide) rfl (by decide) rfl ?_ rfl
  refine J.iconst (q := 55) dX1_become_54 ?_ rfl
  refine J.bipush (q := 57) dX1_become_55 (by decide) ?_ rfl
  refine J.acopy (q := 60) (n0 := 8) (n1 := 8) dX1_become_57 kL_X1_70 rfl rfl (by omega) (by omega) (by omega) ?_ rfl
  obtain ⟨m4, em, f4, r4⟩ := acp m3 31 6 8
  rw [← em]
  clear em
  refine J.aload_n (q := 61) dX1_become_60 rfl ?_ rfl
  refine J.getR (ci := 1) (k0 := 5) (c1 := 32) (q := 64) dX1_become_61 kF_X1_27 rfl (by decide) (by decide) rfl (by decide) rfl ?_ rfl
  refine J.iconst (q := 65) dX1_become_64 ?_ rfl
  refine J.aload_n (q := 66) dX1_become_65 rfl ?_ rfl
  refine J.getR (ci := 1) (k0 := 5) (c1 := 7) (q := 69) dX1_become_66 kF_X1_27 rfl (by decide) (by decide) rfl (by decide) rfl ?_ rfl
  refine J.iconst (q := 70) dX1_become_69 ?_ rfl
  refine J.bipush (q := 72) dX1_become_70 (by decide) ?_ rfl
  refine J.acopy (q := 75) (n0 := 8) (n1 := 8) dX1_become_72 kL_X1_70 rfl rfl (by omega) (by omega) (by omega) ?_ rfl
  obtain ⟨m5, em, f5, r5⟩ := acp m4 32 7 8
  rw [← em]
  clear em
  refine J.aload_n (q := 76) dX1_become_75 rfl ?_ rfl
  refine J.getR (ci := 1) (k0 := 6) (c1 := 33) (q := 79) dX1_become_76 kF_X1_30 rfl (by decide) (by decide) rfl (by decide) rfl ?_ rfl
  refine J.iconst (q := 80) dX1_become_79 ?_ rfl
  refine J.aload_n (q := 81) dX1_become_80 rfl ?_ rfl
  refine J.getR (ci := 1) (k0 := 6) (c1 := 8) (q := 84) dX1_become_81 kF_X1_30 rfl (by decide) (by decide) rfl (by decide) rfl ?_ rfl
  refine J.iconst (q := 85) dX1_become_84 ?_ rfl
  refine J.bipush (q := 87) dX1_become_85 (by decide) ?_ rfl
  refine J.acopy (q := 90) (n0 := 8) (n1 := 8) dX1_become_87 kL_X1_70 rfl rfl (by omega) (by omega) (by omega) ?_ rfl
  obtain ⟨m6, em, f6, r6⟩ := acp m5 33 8 8
  rw [← em]
  clear em
  refine J.aload_n (q := 91) dX1_become_90 rfl ?_ rfl
  refine J.getR (ci := 1) (k0 := 7) (c1 := 34) (q := 94) dX1_become_91 kF_X1_33 rfl (by decide) (by decide) rfl (by decide) rfl ?_ rfl
  refine J.iconst (q := 95) dX1_become_94 ?_ rfl
  refine J.aload_n (q := 96) dX1_become_95 rfl ?_ rfl
  refine J.getR (ci := 1) (k0 := 7) (c1 := 9) (q := 99) dX1_become_96 kF_X1_33 rfl (by decide) (by decide) rfl (by decide) rfl ?_ rfl
  refine J.iconst (q := 100) dX1_become_99 ?_ rfl
  refine J.bipush (q := 102) dX1_become_100 (by decide) ?_ rfl
  refine J.acopy (q := 105) (n0 := 8) (n1 := 8) dX1_become_102 kL_X1_70 rfl rfl (by omega) (by omega) (by omega) ?_ rfl
  obtain ⟨m7, em, f7, r7⟩ := acp m6 34 9 8
  rw [← em]
  clear em
  refine J.aload_n (q := 106) dX1_become_105 rfl ?_ rfl
  refine J.getR (ci := 1) (k0 := 8) (c1 := 35) (q := 109) dX1_become_106 kF_X1_36 rfl (by decide) (by decide) rfl (by decide) rfl ?_ rfl
  refine J.iconst (q := 110) dX1_become_109 ?_ rfl
  refine J.aload_n (q := 111) dX1_become_110 rfl ?_ rfl
  refine J.getR (ci := 1) (k0 := 8) (c1 := 10) (q := 114) dX1_become_111 kF_X1_36 rfl (by decide) (by decide) rfl (by decide) rfl ?_ rfl
  refine J.iconst (q := 115) dX1_become_114 ?_ rfl
  refine J.bipush (q := 117) dX1_become_115 (by decide) ?_ rfl
  refine J.acopy (q := 120) (n0 := 8) (n1 := 8) dX1_become_117 kL_X1_70 rfl rfl (by omega) (by omega) (by omega) ?_ rfl
  obtain ⟨m8, em, f8, r8⟩ := acp m7 35 10 8
  rw [← em]
  clear em
  refine J.aload_n (q := 121) dX1_become_120 rfl ?_ rfl
  refine J.getR (ci := 1) (k0 := 9) (c1 := 36) (q := 124) dX1_become_121 kF_X1_39 rfl (by decide) (by decide) rfl (by decide) rfl ?_ rfl
  refine J.iconst (q := 125) dX1_become_124 ?_ rfl
  refine J.aload_n (q := 126) dX1_become_125 rfl ?_ rfl
  refine J.getR (ci := 1) (k0 := 9) (c1 := 11) (q := 129) dX1_become_126 kF_X1_39 rfl (by decide) (by decide) rfl (by decide) rfl ?_ rfl
  refine J.iconst (q := 130) dX1_become_129 ?_ rfl
  refine J.bipush (q := 132) dX1_become_130 (by decide) ?_ rfl
  refine J.acopy (q := 135) (n0 := 8) (n1 := 8) dX1_become_132 kL_X1_70 rfl rfl (by omega) (by omega) (by omega) ?_ rfl
  obtain ⟨m9, em, f9, r9⟩ := acp m8 36 11 8
  rw [← em]
  clear em
  refine J.aload_n (q := 136) dX1_become_135 rfl ?_ rfl
  refine J.getR (ci := 1) (k0 := 10) (c1 := 37) (q := 139) dX1_become_136 kF_X1_42 rfl (by decide) (by decide) rfl (by decide) rfl ?_ rfl
  refine J.iconst (q := 140) dX1_become_139 ?_ rfl
  refine J.aload_n (q := 141) dX1_become_140 rfl ?_ rfl
  refine J.getR (ci := 1) (k0 := 10) (c1 := 12) (q := 144) dX1_become_141 kF_X1_42 rfl (by decide) (by decide) rfl (by decide) rfl ?_ rfl
  refine J.iconst (q := 145) dX1_become_144 ?_ rfl
  refine J.bipush (q := 147) dX1_become_145 (by decide) ?_ rfl
  refine J.acopy (q := 150) (n0 := 10) (n1 := 10) dX1_become_147 kL_X1_70 rfl rfl (by omega) (by omega) (by omega) ?_ rfl
  obtain ⟨m10, em, f10, r10⟩ := acp m9 37 12 10
  rw [← em]
  clear em
  have hRs : RR m10 26 s := hR.fr (fun q q1 q2 q3 => by rw [f10 _ (by omega), f9 _ (by omega), f8 _ (by omega), f7 _ (by omega), f6 _ (by omega), f5 _ (by omega), f4 _ (by omega), f3 _ (by omega), f2 _ (by omega), f1 _ (by omega)])
  refine J.aload_n (q := 151) dX1_become_150 rfl ?_ rfl
  refine J.aload_n (q := 152) dX1_become_151 rfl ?_ rfl
  refine J.getI (ci := 1) (k0 := 11) (kz := 11) (q := 155) dX1_become_152 kF_X1_45 rfl (by decide) (by decide) rfl (.inl rfl) ?_ rfl
  rw [g26_many hRs]
  refine J.putI (ci := 1) (k0 := 11) (kz := 11) (q := 158) dX1_become_155 kF_X1_45 rfl (by decide) (by decide) rfl rfl rfl ?_ rfl
  refine J.aload_n (q := 159) dX1_become_158 rfl ?_ rfl
  refine J.aload_n (q := 160) dX1_become_159 rfl ?_ rfl
  refine J.getI (ci := 1) (k0 := 12) (kz := 12) (q := 163) dX1_become_160 kF_X1_49 rfl (by decide) (by decide) rfl (.inl rfl) ?_ rfl
  rw [up_n _ _ _ (by decide), g26_wet hRs]
  refine J.putI (ci := 1) (k0 := 12) (kz := 12) (q := 166) dX1_become_163 kF_X1_49 rfl (by decide) (by decide) rfl rfl rfl ?_ rfl
  refine J.aload_n (q := 167) dX1_become_166 rfl ?_ rfl
  refine J.aload_n (q := 168) dX1_become_167 rfl ?_ rfl
  refine J.getI (ci := 1) (k0 := 13) (kz := 13) (q := 171) dX1_become_168 kF_X1_52 rfl (by decide) (by decide) rfl (.inl rfl) ?_ rfl
  rw [up_n _ _ _ (by decide), up_n _ _ _ (by decide), g26_thr hRs]
  refine J.putI (ci := 1) (k0 := 13) (kz := 13) (q := 174) dX1_become_171 kF_X1_52 rfl (by decide) (by decide) rfl rfl rfl ?_ rfl
  refine J.aload_n (q := 175) dX1_become_174 rfl ?_ rfl
  refine J.aload_n (q := 176) dX1_become_175 rfl ?_ rfl
  refine J.getI (ci := 1) (k0 := 14) (kz := 14) (q := 179) dX1_become_176 kF_X1_55 rfl (by decide) (by decide) rfl (.inl rfl) ?_ rfl
  rw [up_n _ _ _ (by decide), up_n _ _ _ (by decide), up_n _ _ _ (by decide), g26_day hRs]
  refine J.putI (ci := 1) (k0 := 14) (kz := 14) (q := 182) dX1_become_179 kF_X1_55 rfl (by decide) (by decide) rfl rfl rfl ?_ rfl
  refine J.aload_n (q := 183) dX1_become_182 rfl ?_ rfl
  refine J.aload_n (q := 184) dX1_become_183 rfl ?_ rfl
  refine J.getI (ci := 1) (k0 := 15) (kz := 15) (q := 187) dX1_become_184 kF_X1_58 rfl (by decide) (by decide) rfl (.inl rfl) ?_ rfl
  rw [up_n _ _ _ (by decide), up_n _ _ _ (by decide), up_n _ _ _ (by decide), up_n _ _ _ (by decide), g26_cla hRs]
  refine J.putI (ci := 1) (k0 := 15) (kz := 15) (q := 190) dX1_become_187 kF_X1_58 rfl (by decide) (by decide) rfl rfl rfl ?_ rfl
  refine J.aload_n (q := 191) dX1_become_190 rfl ?_ rfl
  refine J.aload_n (q := 192) dX1_become_191 rfl ?_ rfl
  refine J.getI (ci := 1) (k0 := 16) (kz := 16) (q := 195) dX1_become_192 kF_X1_61 rfl (by decide) (by decide) rfl (.inl rfl) ?_ rfl
  rw [up_n _ _ _ (by decide), up_n _ _ _ (by decide), up_n _ _ _ (by decide), up_n _ _ _ (by decide), up_n _ _ _ (by decide), g26_zz hRs]
  refine J.putI (ci := 1) (k0 := 16) (kz := 16) (q := 198) dX1_become_195 kF_X1_61 rfl (by decide) (by decide) rfl rfl rfl ?_ rfl
  refine J.vreturn dX1_become_198 rfl ?_
  refine ⟨rfl, rfl, fun q hq => ?_, fun o i t hp => ?_⟩
  · rw [up_n _ _ _ (by omega), up_n _ _ _ (by omega), up_n _ _ _ (by omega), up_n _ _ _ (by omega), up_n _ _ _ (by omega), up_n _ _ _ (by omega), f10 _ (by omega), f9 _ (by omega), f8 _ (by omega), f7 _ (by omega), f6 _ (by omega), f5 _ (by omega), f4 _ (by omega), f3 _ (by omega), f2 _ (by omega), f1 _ (by omega)]
  · rcases hp with ⟨rfl, rfl, rfl⟩ | ⟨rfl, rfl, rfl⟩ | ⟨rfl, rfl, rfl⟩ | ⟨rfl, rfl, rfl⟩ | ⟨rfl, rfl, rfl⟩ | ⟨rfl, rfl, rfl⟩ | ⟨rfl, h0, h1, rfl⟩ | ⟨rfl, h0, h1, rfl⟩ | ⟨rfl, h0, h1, rfl⟩ | ⟨rfl, h0, h1, rfl⟩ | ⟨rfl, h0, h1, rfl⟩ | ⟨rfl, h0, h1, rfl⟩ | ⟨rfl, h0, h1, rfl⟩ | ⟨rfl, h0, h1, rfl⟩ | ⟨rfl, h0, h1, rfl⟩ | ⟨rfl, h0, h1, rfl⟩
    · simp [up, upr]
    · simp [up, upr]
    · simp [up, upr]
    · simp [up, upr]
    · simp [up, upr]
    · simp [up, upr]
    · rw [up_n _ _ _ (by omega), up_n _ _ _ (by omega), up_n _ _ _ (by omega), up_n _ _ _ (by omega), up_n _ _ _ (by omega), up_n _ _ _ (by omega), f10 _ (by omega), f9 _ (by omega), f8 _ (by omega), f7 _ (by omega), f6 _ (by omega), f5 _ (by omega), f4 _ (by omega), f3 _ (by omega), f2 _ (by omega), r1 _ h0 h1, g26_hed hR h0 h1]
    · rw [up_n _ _ _ (by omega), up_n _ _ _ (by omega), up_n _ _ _ (by omega), up_n _ _ _ (by omega), up_n _ _ _ (by omega), up_n _ _ _ (by omega), f10 _ (by omega), f9 _ (by omega), f8 _ (by omega), f7 _ (by omega), f6 _ (by omega), f5 _ (by omega), f4 _ (by omega), f3 _ (by omega), r2 _ h0 h1, f1 _ (by omega), g26_lea hR h0 h1]
    · rw [up_n _ _ _ (by omega), up_n _ _ _ (by omega), up_n _ _ _ (by omega), up_n _ _ _ (by omega), up_n _ _ _ (by omega), up_n _ _ _ (by omega), f10 _ (by omega), f9 _ (by omega), f8 _ (by omega), f7 _ (by omega), f6 _ (by omega), f5 _ (by omega), f4 _ (by omega), r3 _ h0 h1, f2 _ (by omega), f1 _ (by omega), g26_law hR h0 h1]
    · rw [up_n _ _ _ (by omega), up_n _ _ _ (by omega), up_n _ _ _ (by omega), up_n _ _ _ (by omega), up_n _ _ _ (by omega), up_n _ _ _ (by omega), f10 _ (by omega), f9 _ (by omega), f8 _ (by omega), f7 _ (by omega), f6 _ (by omega), f5 _ (by omega), r4 _ h0 h1, f3 _ (by omega), f2 _ (by omega), f1 _ (by omega), g26_ban hR h0 h1]
    · rw [up_n _ _ _ (by omega), up_n _ _ _ (by omega), up_n _ _ _ (by omega), up_n _ _ _ (by omega), up_n _ _ _ (by omega), up_n _ _ _ (by omega), f10 _ (by omega), f9 _ (by omega), f8 _ (by omega), f7 _ (by omega), f6 _ (by omega), r5 _ h0 h1, f4 _ (by omega), f3 _ (by omega), f2 _ (by omega), f1 _ (by omega), g26_kin hR h0 h1]
    · rw [up_n _ _ _ (by omega), up_n _ _ _ (by omega), up_n _ _ _ (by omega), up_n _ _ _ (by omega), up_n _ _ _ (by omega), up_n _ _ _ (by omega), f10 _ (by omega), f9 _ (by omega), f8 _ (by omega), f7 _ (by omega), r6 _ h0 h1, f5 _ (by omega), f4 _ (by omega), f3 _ (by omega), f2 _ (by omega), f1 _ (by omega), g26_ats hR h0 h1]
    · rw [up_n _ _ _ (by omega), up_n _ _ _ (by omega), up_n _ _ _ (by omega), up_n _ _ _ (by omega), up_n _ _ _ (by omega), up_n _ _ _ (by omega), f10 _ (by omega), f9 _ (by omega), f8 _ (by omega), r7 _ h0 h1, f6 _ (by omega), f5 _ (by omega), f4 _ (by omega), f3 _ (by omega), f2 _ (by omega), f1 _ (by omega), g26_edi hR h0 h1]
    · rw [up_n _ _ _ (by omega), up_n _ _ _ (by omega), up_n _ _ _ (by omega), up_n _ _ _ (by omega), up_n _ _ _ (by omega), up_n _ _ _ (by omega), f10 _ (by omega), f9 _ (by omega), r8 _ h0 h1, f7 _ (by omega), f6 _ (by omega), f5 _ (by omega), f4 _ (by omega), f3 _ (by omega), f2 _ (by omega), f1 _ (by omega), g26_gat hR h0 h1]
    · rw [up_n _ _ _ (by omega), up_n _ _ _ (by omega), up_n _ _ _ (by omega), up_n _ _ _ (by omega), up_n _ _ _ (by omega), up_n _ _ _ (by omega), f10 _ (by omega), r9 _ h0 h1, f8 _ (by omega), f7 _ (by omega), f6 _ (by omega), f5 _ (by omega), f4 _ (by omega), f3 _ (by omega), f2 _ (by omega), f1 _ (by omega), g26_pri hR h0 h1]
    · rw [up_n _ _ _ (by omega), up_n _ _ _ (by omega), up_n _ _ _ (by omega), up_n _ _ _ (by omega), up_n _ _ _ (by omega), up_n _ _ _ (by omega), r10 _ h0 h1, f9 _ (by omega), f8 _ (by omega), f7 _ (by omega), f6 _ (by omega), f5 _ (by omega), f4 _ (by omega), f3 _ (by omega), f2 _ (by omega), f1 _ (by omega), g26_spo hR h0 h1]

theorem CR.img {iv iv2 A : Mm} (h : CR iv A) (hf : ∀ q, (q < 13 ∨ 24 < q ∨ q = 17) → iv2 q = iv q) (hr : RR iv2 13 (A 62)) : CR (up iv2 0 7 1) (an_image A).2 :=
  h.row (h.r.fr (fun q q1 q2 q3 => by rw [up_n _ _ _ (by omega)]; exact hf q (by omega))) (fun _ => (hr.cg (s2 := cpR (A 62) (A 63)) (fun j j0 j1 => if_pos ⟨j0, j1⟩)).fr (fun q q1 q2 q3 => up_n _ _ _ (by omega))) rfl
    (by rw [up_n _ _ _ (by decide), hf 50 (by omega)]; exact h.z) (by rw [up_n _ _ _ (by decide)]; exact hf 60 (by omega)) (by rw [up_n _ _ _ (by decide)]; exact hf 51 (by omega)) (by rw [up_n _ _ _ (by decide)]; exact hf 57 (by omega)) (by rw [up_n _ _ _ (by decide)]; exact hf 58 (by omega)) (by rw [up_n _ _ _ (by decide)]; exact hf 59 (by omega)) rfl rfl rfl rfl rfl
set_option maxRecDepth 100000 in
set_option maxHeartbeats 4000000 in
theorem c_X5_image {l : Launch} {F : Nat × (Int → Int)} {iv A : Mm} (hC : CR iv A) (hA : AI A) : Ctr l F 2 0 0 yX5_image cX5_image 1 (some FieldType.int) [r_ 0] S0 (iv) (CP iv (an_image A)) := by
  refine Ctr.of false (fun h => by cases h) (by decide) rfl (Nat.le_of_ble_eq_true rfl) ?_
  have hI := hA.mi
  have hmm := hI.many
  have hkp := hA.kp
  have htp := hA.tp
  refine J.aload_n (q := 1) dX5_image_0 rfl ?_ rfl
  refine J.getR (ci := 5) (k0 := 1) (c1 := 13) (q := 4) dX5_image_1 kF_X5_16 rfl (by decide) (by decide) rfl (by decide) rfl ?_ rfl
  refine J.aload_n (q := 5) dX5_image_4 rfl ?_ rfl
  refine J.getR (ci := 5) (k0 := 0) (c1 := 1) (q := 8) dX5_image_5 kF_X5_12 rfl (by decide) (by decide) rfl (by decide) rfl ?_ rfl
  refine J.callV1 (ci := 1) (q := 11) dX5_image_8 mv_X1_become kL_X5_241 rfl (by decide) rfl ⟨by decide, by decide⟩ (Nat.le_of_ble_eq_true rfl) ⟨by decide, by decide⟩ rfl (c_become13_1 hC.r) (fun v9 S9 iv9 hp => ?_)
  obtain ⟨rfl, rfl, b1, b2⟩ := hp
  refine J.aload_n (q := 12) dX5_image_11 rfl ?_ rfl
  refine J.iconst (q := 13) dX5_image_12 ?_ rfl
  refine J.putZ (ci := 5) (k0 := 7) (kz := 7) (q := 16) dX5_image_13 kF_X5_51 rfl (by decide) (by decide) rfl rfl rfl (by omega) ?_ rfl
  refine J.iconst (q := 17) dX5_image_16 ?_ rfl
  refine J.ireturn dX5_image_17 rfl ?_
  exact ⟨rfl, rfl, fun q hq => (up_n _ _ _ (by omega)).trans (b1 q (by omega)), hC.img b1 b2⟩

set_option maxRecDepth 100000 in
set_option maxHeartbeats 4000000 in
theorem c_X5_undo {l : Launch} {F : Nat × (Int → Int)} {iv A : Mm} (hC : CR iv A) (hA : AI A) : Ctr l F 2 0 0 yX5_undo cX5_undo 1 (some FieldType.int) [r_ 0] S0 (iv) (CP iv (an_undo A)) := by
  refine Ctr.of false (fun h => by cases h) (by decide) rfl (Nat.le_of_ble_eq_true rfl) ?_
  have hI := hA.mi
  have hmm := hI.many
  have hkp := hA.kp
  have htp := hA.tp
  refine J.aload_n (q := 1) dX5_undo_0 rfl ?_ rfl
  refine J.getI (ci := 5) (k0 := 7) (kz := 7) (q := 4) dX5_undo_1 kF_X5_51 rfl (by decide) (by decide) rfl (.inr rfl) ?_ rfl
  rw [hC.i]
  refine J.if_ne (tgt := 14) (q := 7) dX5_undo_4 rfl rfl (fun c4 => ?_) (fun c4 => ?_)
  · refine J.aload_n (q := 15) dX5_undo_14 rfl ?_ rfl
    refine J.getR (ci := 5) (k0 := 0) (c1 := 1) (q := 18) dX5_undo_15 kF_X5_12 rfl (by decide) (by decide) rfl (by decide) rfl ?_ rfl
    refine J.aload_n (q := 19) dX5_undo_18 rfl ?_ rfl
    refine J.getR (ci := 5) (k0 := 1) (c1 := 13) (q := 22) dX5_undo_19 kF_X5_16 rfl (by decide) (by decide) rfl (by decide) rfl ?_ rfl
    refine J.callV1 (ci := 1) (q := 25) dX5_undo_22 mv_X1_become kL_X5_241 rfl (by decide) rfl ⟨by decide, by decide⟩ (Nat.le_of_ble_eq_true rfl) ⟨by decide, by decide⟩ rfl (c_become1_13 (hC.k (by omega))) (fun v9 S9 iv9 hp => ?_)
    obtain ⟨rfl, rfl, b1, b2⟩ := hp
    refine J.aload_n (q := 26) dX5_undo_25 rfl ?_ rfl
    refine J.getR (ci := 5) (k0 := 0) (c1 := 1) (q := 29) dX5_undo_26 kF_X5_12 rfl (by decide) (by decide) rfl (by decide) rfl ?_ rfl
    refine J.getI (ci := 1) (k0 := 14) (kz := 14) (q := 32) dX5_undo_29 kF_X5_125 rfl (by decide) (by decide) rfl (.inl rfl) ?_ rfl
    rw [g1_day b2]
    refine J.ireturn dX5_undo_32 rfl ?_
    unfold CP an_undo
    repeat (first | rw [if_pos (by omega)] | rw [if_neg (by omega)])
    first
    | exact ⟨rfl, rfl, hf8, hC8⟩
    | exact ⟨rfl, rfl, fun q hq => b1 q (by omega), hC.rep (b2.cg (s2 := cpR (A 63) (A 62)) (fun j j0 j1 => if_pos ⟨j0, j1⟩)) (fun q hq => b1 q (by omega))⟩
    | (exfalso; omega)
  · refine J.aload_n (q := 8) dX5_undo_7 rfl ?_ rfl
    refine J.ldc (q := 10) (z := -1000004) dX5_undo_8 kK_X5_172 ?_ rfl
    refine J.callV1 (ci := 5) (q := 13) dX5_undo_10 mv_X5_tell kL_X5_64 rfl (by decide) rfl ⟨by decide, by decide⟩ (Nat.le_of_ble_eq_true rfl) ⟨by decide, by decide⟩ rfl (c_X5_tell (w := 3) (by decide) hC (by decide)) (fun v9 S9 iv9 hp => ?_)
    obtain ⟨rfl, rfl, hf8, hC8⟩ := hp
    refine J.ireturn dX5_undo_13 rfl ?_
    unfold CP an_undo
    repeat (first | rw [if_pos (by omega)] | rw [if_neg (by omega)])
    first
    | exact ⟨rfl, rfl, hf8, hC8⟩
    | exact ⟨rfl, rfl, fun q hq => b1 q (by omega), hC.rep (b2.cg (s2 := cpR (A 63) (A 62)) (fun j j0 j1 => if_pos ⟨j0, j1⟩)) (fun q hq => b1 q (by omega))⟩
    | (exfalso; omega)

