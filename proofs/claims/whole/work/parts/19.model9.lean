/-! the reference: the best of some (printed by wip/whole/m_model9.py) -/
theorem upr_upr (s : Int → Int) (a x y : Int) : upr (upr s a x) a y = upr s a y := by
  funext j
  unfold upr
  split <;> rfl
theorem upr_self (s : Int → Int) (a : Int) : upr s a (s a) = s := by
  funext j
  unfold upr
  split
  · rename_i h; rw [h]
  · rfl
/-- thinking with one number of the row changed -/
theorem TF_up {iv iv1 : Mm} {a x y : Int} (h : TF (up iv 62 a x) iv1) : TF (up iv 62 a y) (up iv1 62 a y) := by
  refine ⟨fun q hq => ?_, ?_, fun q hq => ?_⟩
  · by_cases h62 : q = 62
    · subst h62
      rw [up_s, up_s, h.1 62 (by omega), up_s, upr_upr]
    · rw [up_n _ _ _ h62, up_n _ _ _ h62, h.1 q hq, up_n _ _ _ h62]
  · rw [up_n _ _ _ (by decide), up_n _ _ _ (by decide), h.2.1, up_n _ _ _ (by decide)]
  · rw [up_n _ _ _ (by omega), up_n _ _ _ (by omega), h.2.2 q hq, up_n _ _ _ (by omega)]
theorem up_self (iv : Mm) (a : Int) : up iv 62 a (iv 62 a) = iv := by
  funext q
  by_cases h62 : q = 62
  · subst h62
    rw [up_s, upr_self]
  · rw [up_n _ _ _ h62]
theorem TF.back {iv iv1 : Mm} {a x : Int} (h : TF (up iv 62 a x) iv1) : TF iv (up iv1 62 a (iv 62 a)) := by
  have h2 := TF_up h (y := iv 62 a)
  have e : up iv 62 a (iv 62 a) = iv := by
    funext q
    by_cases h62 : q = 62
    · subst h62
      rw [up_s, upr_self]
    · rw [up_n _ _ _ h62]
  rwa [e] at h2
theorem AI.u62 {A : Mm} (h : AI A) {a x : Int} (hm : MI 99999 (upr (A 62) a x)) : AI (up A 62 a x) := ⟨hm, h.2⟩
theorem bestN_lt (f : Int → Nat) : ∀ n : Nat, -1 ≤ bestN f n ∧ bestN f n < n
  | 0 => by simp [bestN]
  | n + 1 => by
    have := bestN_lt f n
    unfold bestN
    split <;> omega
set_option maxRecDepth 100000 in
set_option maxHeartbeats 4000000 in
theorem wetFor_loop {l : Launch} {F : Nat × (Int → Int)} {iv : Mm} (hA : AI iv) {w c : Int} (hw : 0 ≤ w ∧ w ≤ 7) (hc : 0 ≤ c ∧ c ≤ 80) {f : Int → Nat} (hf : ∀ x, f x = rchD (upr (iv 62) 4 x) w c) : ∀ (n : Nat) (j : Nat) (x : Int) (iv1 : Mm) (y7 : Option VT) (y8 : Option VT), (10 - (j : Int) < n) → (j ≤ 10) → (TF (up iv 62 4 x) iv1) → J l (yX6_wetFor).cls cX6_wetFor 9 (some FieldType.int) 6 0 0 false F (MP iv (an_wetFor (hi iv) w c)) 0 0 36 [some (r_ 61), some (i_ w), some (i_ c), some (i_ (iv 62 4)), some (i_ (bestN f j)), some (i_ (if bestN f j < 0 then (0 : Int) else (f (bestN f j) : Int))), some (i_ (j : Int)), y7, y8] [] S0 (iv1) := by
  intro n
  induction n with
  | zero =>
    intro j x iv1 y7 y8 hn hj hTF
    omega
  | succ n ih =>
    intro j x iv1 y7 y8 hn hj hTF
    have hI := hA.mi
    have hmm := hI.many
    have hkp := hA.kp
    have htp := hA.tp
    have hbl := bestN_lt f j
    have hfle : ∀ x, f x ≤ 101 := fun x => by rw [hf]; exact (firstD_le _ 101 0).2
    have hl0 := hfle (bestN f j)
    have hl1 := hfle j
    obtain ⟨L, hL⟩ : ∃ L : Int, L = (if bestN f j < 0 then (0 : Int) else (f (bestN f j) : Int)) := ⟨_, rfl⟩
    have hL1 : (bestN f j < 0 ∧ L = 0) ∨ (0 ≤ bestN f j ∧ L = f (bestN f j)) := by
      by_cases h : bestN f j < 0
      · exact Or.inl ⟨h, by rw [hL, if_pos h]⟩
      · exact Or.inr ⟨by omega, by rw [hL, if_neg h]⟩
    rw [← hL]
    refine J.iload (q := 38) dX6_wetFor_36 rfl ?_ rfl
    refine J.bipush (q := 40) dX6_wetFor_38 (by decide) ?_ rfl
    refine J.icmp_gt (tgt := 117) (q := 43) dX6_wetFor_40 rfl rfl (fun c40 => ?_) (fun c40 => ?_)
    · have hj9 : j = 10 := by omega
      subst hj9
      have hff : f = fun x => rchD (upr (iv 62) 4 x) w c := funext hf
      subst hff
      have hTF := hTF.back
      try dsimp only at *
      refine J.aload_n (q := 118) dX6_wetFor_117 rfl ?_ rfl
      refine J.getR (ci := 6) (k0 := 0) (c1 := 62) (q := 121) dX6_wetFor_118 kF_X6_9 rfl (by decide) (by decide) rfl (by decide) rfl ?_ rfl
      refine J.iconst (q := 122) dX6_wetFor_121 ?_ rfl
      refine J.iload_n (q := 123) dX6_wetFor_122 rfl ?_ rfl
      refine J.iast (n := 307) (q := 124) dX6_wetFor_123 rfl (by omega) ?_ rfl
      refine J.iload (q := 126) dX6_wetFor_124 rfl ?_ rfl
      refine J.if_ge (tgt := 137) (q := 129) dX6_wetFor_126 rfl rfl (fun c126 => ?_) (fun c126 => ?_)
      · refine J.iload (q := 139) dX6_wetFor_137 rfl ?_ rfl
        refine J.ireturn dX6_wetFor_139 rfl ?_
        unfold an_wetFor
        (try rw [hi_61]); (try rw [hi_62]); (try rw [hi_63]); (try rw [hi_65]); (try rw [hi_70]); (try rw [hi_74]); (try rw [hi_75]); (try rw [hi_76])
        repeat (first | rw [if_pos (by omega)] | rw [if_neg (by omega)])
        first
        | exact mpTF TF.rf
        | exact mpTFb TF.rf
        | exact mpTF hTF
        | exact mpTFb hTF
        | (exfalso; omega)
      · refine J.aload_n (q := 130) dX6_wetFor_129 rfl ?_ rfl
        refine J.iconst (q := 131) dX6_wetFor_130 ?_ rfl
        refine J.callV1i (ci := 6) (q := 134) dX6_wetFor_131 mv_X6_no kL_X6_125 rfl (by decide) rfl ⟨by decide, by decide⟩ (Nat.le_of_ble_eq_true rfl) ⟨by decide, by decide⟩ rfl (c_X6_no (by omega)) ?_
        refine J.goto (tgt := 139) dX6_wetFor_134 rfl ?_
        refine J.ireturn dX6_wetFor_139 rfl ?_
        unfold an_wetFor
        (try rw [hi_61]); (try rw [hi_62]); (try rw [hi_63]); (try rw [hi_65]); (try rw [hi_70]); (try rw [hi_74]); (try rw [hi_75]); (try rw [hi_76])
        repeat (first | rw [if_pos (by omega)] | rw [if_neg (by omega)])
        first
        | exact mpTF TF.rf
        | exact mpTFb TF.rf
        | exact mpTF hTF
        | exact mpTFb hTF
        | (exfalso; omega)
    · refine J.aload_n (q := 44) dX6_wetFor_43 rfl ?_ rfl
      refine J.getR (ci := 6) (k0 := 0) (c1 := 62) (q := 47) dX6_wetFor_44 kF_X6_9 rfl (by decide) (by decide) rfl (by decide) rfl ?_ rfl
      refine J.iconst (q := 48) dX6_wetFor_47 ?_ rfl
      refine J.iload (q := 50) dX6_wetFor_48 rfl ?_ rfl
      
      refine J.iast (n := 307) (q := 51) dX6_wetFor_50 rfl (by omega) ?_ rfl
      refine J.aload_n (q := 52) dX6_wetFor_51 rfl ?_ rfl
      refine J.iload_n (q := 53) dX6_wetFor_52 rfl ?_ rfl
      refine J.iload_n (q := 54) dX6_wetFor_53 rfl ?_ rfl
      have hm1 : MI 99999 (upr (iv 62) 4 j) := hI.upd (by omega) (by omega) (by omega) (by omega) (by omega) (by omega) (fun c _ _ => ⟨by omega, by omega, by omega⟩) (fun i _ _ => ⟨by omega, by omega, by omega, by omega, by omega⟩) (by omega)
      have hA1 : AI (up iv1 62 4 j) := (hA.u62 hm1).tf (TF_up hTF)
      have hrow : up iv1 62 4 j 62 = upr (iv 62) 4 j := by rw [up_s, hTF.1 62 (by omega), up_s, upr_upr]
      refine J.callV2 (ci := 6) (q := 57) dX6_wetFor_54 mv_X6_reachedBy kL_X6_161 rfl (by decide) rfl ⟨by decide, by decide⟩ (Nat.le_of_ble_eq_true rfl) ⟨by decide, by decide⟩ rfl (c_X6_reachedBy hA1 (by omega) (by omega)) (fun v9 S9 iv9 hp => ?_)
      obtain ⟨rfl, rfl, t0⟩ := hp
      have t1 := t0
      have t2 := (TF_up hTF (y := j)).tr t1
      rw [hrow, ← hf j]
      obtain ⟨V, hV⟩ : ∃ V : Int, V = (if f j ≤ 100 then (f j : Int) else -1) := ⟨_, rfl⟩
      have hV1 : (f j ≤ 100 ∧ V = f j) ∨ (¬ f j ≤ 100 ∧ V = -1) := by
        by_cases h : f j ≤ 100
        · exact Or.inl ⟨h, by rw [hV, if_pos h]⟩
        · exact Or.inr ⟨h, by rw [hV, if_neg h]⟩
      rw [← hV]
      clear hV
      refine J.istore (q := 59) dX6_wetFor_57 (Nat.le_of_ble_eq_true rfl) ?_ rfl
      refine J.iload (q := 61) dX6_wetFor_59 rfl ?_ rfl
      refine J.if_lt (tgt := 80) (q := 64) dX6_wetFor_61 rfl rfl (fun c61 => ?_) (fun c61 => ?_)
      · refine J.iconst (q := 81) dX6_wetFor_80 ?_ rfl
        refine J.istore (q := 83) dX6_wetFor_81 (Nat.le_of_ble_eq_true rfl) ?_ rfl
        refine J.iload (q := 85) dX6_wetFor_83 rfl ?_ rfl
        refine J.if_eq (tgt := 93) (q := 88) dX6_wetFor_85 rfl rfl (fun c85 => ?_) (fun c85 => ?_)
        · refine J.iload (q := 95) dX6_wetFor_93 rfl ?_ rfl
          refine J.istore (q := 97) dX6_wetFor_95 (Nat.le_of_ble_eq_true rfl) ?_ rfl
          refine J.iload (q := 99) dX6_wetFor_97 rfl ?_ rfl
          refine J.if_eq (tgt := 107) (q := 102) dX6_wetFor_99 rfl rfl (fun c99 => ?_) (fun c99 => ?_)
          · refine J.iload (q := 109) dX6_wetFor_107 rfl ?_ rfl
            refine J.istore (q := 111) dX6_wetFor_109 (Nat.le_of_ble_eq_true rfl) ?_ rfl
            refine J.iinc (q := 114) dX6_wetFor_111 rfl ?_ rfl
            refine J.goto (tgt := 36) dX6_wetFor_114 rfl ?_
            first
            | (have hb9 : bestN f (j + 1) = (j : Int) := if_pos (by omega)
               refine J.eql ?_ (ih (j + 1) j _ (some (i_ V)) (some (i_ 1)) (by omega) (by omega) t2)
               rw [hb9, if_neg (by omega)]
               have hVj : V = (f j : Int) := by omega
               rw [hVj]
               rfl)
            | (have hb9 : bestN f (j + 1) = bestN f j := if_neg (by omega)
               refine J.eql ?_ (ih (j + 1) j _ (some (i_ V)) (some (i_ 0)) (by omega) (by omega) t2)
               rw [hb9, ← hL]
               rfl)
            | (exfalso; omega)
          · refine J.iload (q := 104) dX6_wetFor_102 rfl ?_ rfl
            refine J.goto (tgt := 109) dX6_wetFor_104 rfl ?_
            refine J.istore (q := 111) dX6_wetFor_109 (Nat.le_of_ble_eq_true rfl) ?_ rfl
            refine J.iinc (q := 114) dX6_wetFor_111 rfl ?_ rfl
            refine J.goto (tgt := 36) dX6_wetFor_114 rfl ?_
            first
            | (have hb9 : bestN f (j + 1) = (j : Int) := if_pos (by omega)
               refine J.eql ?_ (ih (j + 1) j _ (some (i_ V)) (some (i_ 1)) (by omega) (by omega) t2)
               rw [hb9, if_neg (by omega)]
               have hVj : V = (f j : Int) := by omega
               rw [hVj]
               rfl)
            | (have hb9 : bestN f (j + 1) = bestN f j := if_neg (by omega)
               refine J.eql ?_ (ih (j + 1) j _ (some (i_ V)) (some (i_ 0)) (by omega) (by omega) t2)
               rw [hb9, ← hL]
               rfl)
            | (exfalso; omega)
        · refine J.iload (q := 90) dX6_wetFor_88 rfl ?_ rfl
          refine J.goto (tgt := 95) dX6_wetFor_90 rfl ?_
          refine J.istore (q := 97) dX6_wetFor_95 (Nat.le_of_ble_eq_true rfl) ?_ rfl
          refine J.iload (q := 99) dX6_wetFor_97 rfl ?_ rfl
          refine J.if_eq (tgt := 107) (q := 102) dX6_wetFor_99 rfl rfl (fun c99 => ?_) (fun c99 => ?_)
          · refine J.iload (q := 109) dX6_wetFor_107 rfl ?_ rfl
            refine J.istore (q := 111) dX6_wetFor_109 (Nat.le_of_ble_eq_true rfl) ?_ rfl
            refine J.iinc (q := 114) dX6_wetFor_111 rfl ?_ rfl
            refine J.goto (tgt := 36) dX6_wetFor_114 rfl ?_
            first
            | (have hb9 : bestN f (j + 1) = (j : Int) := if_pos (by omega)
               refine J.eql ?_ (ih (j + 1) j _ (some (i_ V)) (some (i_ 1)) (by omega) (by omega) t2)
               rw [hb9, if_neg (by omega)]
               have hVj : V = (f j : Int) := by omega
               rw [hVj]
               rfl)
            | (have hb9 : bestN f (j + 1) = bestN f j := if_neg (by omega)
               refine J.eql ?_ (ih (j + 1) j _ (some (i_ V)) (some (i_ 0)) (by omega) (by omega) t2)
               rw [hb9, ← hL]
               rfl)
            | (exfalso; omega)
          · refine J.iload (q := 104) dX6_wetFor_102 rfl ?_ rfl
            refine J.goto (tgt := 109) dX6_wetFor_104 rfl ?_
            refine J.istore (q := 111) dX6_wetFor_109 (Nat.le_of_ble_eq_true rfl) ?_ rfl
            refine J.iinc (q := 114) dX6_wetFor_111 rfl ?_ rfl
            refine J.goto (tgt := 36) dX6_wetFor_114 rfl ?_
            first
            | (have hb9 : bestN f (j + 1) = (j : Int) := if_pos (by omega)
               refine J.eql ?_ (ih (j + 1) j _ (some (i_ V)) (some (i_ 1)) (by omega) (by omega) t2)
               rw [hb9, if_neg (by omega)]
               have hVj : V = (f j : Int) := by omega
               rw [hVj]
               rfl)
            | (have hb9 : bestN f (j + 1) = bestN f j := if_neg (by omega)
               refine J.eql ?_ (ih (j + 1) j _ (some (i_ V)) (some (i_ 0)) (by omega) (by omega) t2)
               rw [hb9, ← hL]
               rfl)
            | (exfalso; omega)
      · refine J.iload (q := 66) dX6_wetFor_64 rfl ?_ rfl
        refine J.if_lt (tgt := 76) (q := 69) dX6_wetFor_66 rfl rfl (fun c66 => ?_) (fun c66 => ?_)
        · refine J.iconst (q := 77) dX6_wetFor_76 ?_ rfl
          refine J.goto (tgt := 81) dX6_wetFor_77 rfl ?_
          refine J.istore (q := 83) dX6_wetFor_81 (Nat.le_of_ble_eq_true rfl) ?_ rfl
          refine J.iload (q := 85) dX6_wetFor_83 rfl ?_ rfl
          refine J.if_eq (tgt := 93) (q := 88) dX6_wetFor_85 rfl rfl (fun c85 => ?_) (fun c85 => ?_)
          · refine J.iload (q := 95) dX6_wetFor_93 rfl ?_ rfl
            refine J.istore (q := 97) dX6_wetFor_95 (Nat.le_of_ble_eq_true rfl) ?_ rfl
            refine J.iload (q := 99) dX6_wetFor_97 rfl ?_ rfl
            refine J.if_eq (tgt := 107) (q := 102) dX6_wetFor_99 rfl rfl (fun c99 => ?_) (fun c99 => ?_)
            · refine J.iload (q := 109) dX6_wetFor_107 rfl ?_ rfl
              refine J.istore (q := 111) dX6_wetFor_109 (Nat.le_of_ble_eq_true rfl) ?_ rfl
              refine J.iinc (q := 114) dX6_wetFor_111 rfl ?_ rfl
              refine J.goto (tgt := 36) dX6_wetFor_114 rfl ?_
              first
              | (have hb9 : bestN f (j + 1) = (j : Int) := if_pos (by omega)
                 refine J.eql ?_ (ih (j + 1) j _ (some (i_ V)) (some (i_ 1)) (by omega) (by omega) t2)
                 rw [hb9, if_neg (by omega)]
                 have hVj : V = (f j : Int) := by omega
                 rw [hVj]
                 rfl)
              | (have hb9 : bestN f (j + 1) = bestN f j := if_neg (by omega)
                 refine J.eql ?_ (ih (j + 1) j _ (some (i_ V)) (some (i_ 0)) (by omega) (by omega) t2)
                 rw [hb9, ← hL]
                 rfl)
              | (exfalso; omega)
            · refine J.iload (q := 104) dX6_wetFor_102 rfl ?_ rfl
              refine J.goto (tgt := 109) dX6_wetFor_104 rfl ?_
              refine J.istore (q := 111) dX6_wetFor_109 (Nat.le_of_ble_eq_true rfl) ?_ rfl
              refine J.iinc (q := 114) dX6_wetFor_111 rfl ?_ rfl
              refine J.goto (tgt := 36) dX6_wetFor_114 rfl ?_
              first
              | (have hb9 : bestN f (j + 1) = (j : Int) := if_pos (by omega)
                 refine J.eql ?_ (ih (j + 1) j _ (some (i_ V)) (some (i_ 1)) (by omega) (by omega) t2)
                 rw [hb9, if_neg (by omega)]
                 have hVj : V = (f j : Int) := by omega
                 rw [hVj]
                 rfl)
              | (have hb9 : bestN f (j + 1) = bestN f j := if_neg (by omega)
                 refine J.eql ?_ (ih (j + 1) j _ (some (i_ V)) (some (i_ 0)) (by omega) (by omega) t2)
                 rw [hb9, ← hL]
                 rfl)
              | (exfalso; omega)
          · refine J.iload (q := 90) dX6_wetFor_88 rfl ?_ rfl
            refine J.goto (tgt := 95) dX6_wetFor_90 rfl ?_
            refine J.istore (q := 97) dX6_wetFor_95 (Nat.le_of_ble_eq_true rfl) ?_ rfl
            refine J.iload (q := 99) dX6_wetFor_97 rfl ?_ rfl
            refine J.if_eq (tgt := 107) (q := 102) dX6_wetFor_99 rfl rfl (fun c99 => ?_) (fun c99 => ?_)
            · refine J.iload (q := 109) dX6_wetFor_107 rfl ?_ rfl
              refine J.istore (q := 111) dX6_wetFor_109 (Nat.le_of_ble_eq_true rfl) ?_ rfl
              refine J.iinc (q := 114) dX6_wetFor_111 rfl ?_ rfl
              refine J.goto (tgt := 36) dX6_wetFor_114 rfl ?_
              first
              | (have hb9 : bestN f (j + 1) = (j : Int) := if_pos (by omega)
                 refine J.eql ?_ (ih (j + 1) j _ (some (i_ V)) (some (i_ 1)) (by omega) (by omega) t2)
                 rw [hb9, if_neg (by omega)]
                 have hVj : V = (f j : Int) := by omega
                 rw [hVj]
                 rfl)
              | (have hb9 : bestN f (j + 1) = bestN f j := if_neg (by omega)
                 refine J.eql ?_ (ih (j + 1) j _ (some (i_ V)) (some (i_ 0)) (by omega) (by omega) t2)
                 rw [hb9, ← hL]
                 rfl)
              | (exfalso; omega)
            · refine J.iload (q := 104) dX6_wetFor_102 rfl ?_ rfl
              refine J.goto (tgt := 109) dX6_wetFor_104 rfl ?_
              refine J.istore (q := 111) dX6_wetFor_109 (Nat.le_of_ble_eq_true rfl) ?_ rfl
              refine J.iinc (q := 114) dX6_wetFor_111 rfl ?_ rfl
              refine J.goto (tgt := 36) dX6_wetFor_114 rfl ?_
              first
              | (have hb9 : bestN f (j + 1) = (j : Int) := if_pos (by omega)
                 refine J.eql ?_ (ih (j + 1) j _ (some (i_ V)) (some (i_ 1)) (by omega) (by omega) t2)
                 rw [hb9, if_neg (by omega)]
                 have hVj : V = (f j : Int) := by omega
                 rw [hVj]
                 rfl)
              | (have hb9 : bestN f (j + 1) = bestN f j := if_neg (by omega)
                 refine J.eql ?_ (ih (j + 1) j _ (some (i_ V)) (some (i_ 0)) (by omega) (by omega) t2)
                 rw [hb9, ← hL]
                 rfl)
              | (exfalso; omega)
        · refine J.iload (q := 71) dX6_wetFor_69 rfl ?_ rfl
          refine J.iload (q := 73) dX6_wetFor_71 rfl ?_ rfl
          refine J.icmp_ge (tgt := 80) (q := 76) dX6_wetFor_73 rfl rfl (fun c73 => ?_) (fun c73 => ?_)
          · refine J.iconst (q := 81) dX6_wetFor_80 ?_ rfl
            refine J.istore (q := 83) dX6_wetFor_81 (Nat.le_of_ble_eq_true rfl) ?_ rfl
            refine J.iload (q := 85) dX6_wetFor_83 rfl ?_ rfl
            refine J.if_eq (tgt := 93) (q := 88) dX6_wetFor_85 rfl rfl (fun c85 => ?_) (fun c85 => ?_)
            · refine J.iload (q := 95) dX6_wetFor_93 rfl ?_ rfl
              refine J.istore (q := 97) dX6_wetFor_95 (Nat.le_of_ble_eq_true rfl) ?_ rfl
              refine J.iload (q := 99) dX6_wetFor_97 rfl ?_ rfl
              refine J.if_eq (tgt := 107) (q := 102) dX6_wetFor_99 rfl rfl (fun c99 => ?_) (fun c99 => ?_)
              · refine J.iload (q := 109) dX6_wetFor_107 rfl ?_ rfl
                refine J.istore (q := 111) dX6_wetFor_109 (Nat.le_of_ble_eq_true rfl) ?_ rfl
                refine J.iinc (q := 114) dX6_wetFor_111 rfl ?_ rfl
                refine J.goto (tgt := 36) dX6_wetFor_114 rfl ?_
                first
                | (have hb9 : bestN f (j + 1) = (j : Int) := if_pos (by omega)
                   refine J.eql ?_ (ih (j + 1) j _ (some (i_ V)) (some (i_ 1)) (by omega) (by omega) t2)
                   rw [hb9, if_neg (by omega)]
                   have hVj : V = (f j : Int) := by omega
                   rw [hVj]
                   rfl)
                | (have hb9 : bestN f (j + 1) = bestN f j := if_neg (by omega)
                   refine J.eql ?_ (ih (j + 1) j _ (some (i_ V)) (some (i_ 0)) (by omega) (by omega) t2)
                   rw [hb9, ← hL]
                   rfl)
                | (exfalso; omega)
              · refine J.iload (q := 104) dX6_wetFor_102 rfl ?_ rfl
                refine J.goto (tgt := 109) dX6_wetFor_104 rfl ?_
                refine J.istore (q := 111) dX6_wetFor_109 (Nat.le_of_ble_eq_true rfl) ?_ rfl
                refine J.iinc (q := 114) dX6_wetFor_111 rfl ?_ rfl
                refine J.goto (tgt := 36) dX6_wetFor_114 rfl ?_
                first
                | (have hb9 : bestN f (j + 1) = (j : Int) := if_pos (by omega)
                   refine J.eql ?_ (ih (j + 1) j _ (some (i_ V)) (some (i_ 1)) (by omega) (by omega) t2)
                   rw [hb9, if_neg (by omega)]
                   have hVj : V = (f j : Int) := by omega
                   rw [hVj]
                   rfl)
                | (have hb9 : bestN f (j + 1) = bestN f j := if_neg (by omega)
                   refine J.eql ?_ (ih (j + 1) j _ (some (i_ V)) (some (i_ 0)) (by omega) (by omega) t2)
                   rw [hb9, ← hL]
                   rfl)
                | (exfalso; omega)
            · refine J.iload (q := 90) dX6_wetFor_88 rfl ?_ rfl
              refine J.goto (tgt := 95) dX6_wetFor_90 rfl ?_
              refine J.istore (q := 97) dX6_wetFor_95 (Nat.le_of_ble_eq_true rfl) ?_ rfl
              refine J.iload (q := 99) dX6_wetFor_97 rfl ?_ rfl
              refine J.if_eq (tgt := 107) (q := 102) dX6_wetFor_99 rfl rfl (fun c99 => ?_) (fun c99 => ?_)
              · refine J.iload (q := 109) dX6_wetFor_107 rfl ?_ rfl
                refine J.istore (q := 111) dX6_wetFor_109 (Nat.le_of_ble_eq_true rfl) ?_ rfl
                refine J.iinc (q := 114) dX6_wetFor_111 rfl ?_ rfl
                refine J.goto (tgt := 36) dX6_wetFor_114 rfl ?_
                first
                | (have hb9 : bestN f (j + 1) = (j : Int) := if_pos (by omega)
                   refine J.eql ?_ (ih (j + 1) j _ (some (i_ V)) (some (i_ 1)) (by omega) (by omega) t2)
                   rw [hb9, if_neg (by omega)]
                   have hVj : V = (f j : Int) := by omega
                   rw [hVj]
                   rfl)
                | (have hb9 : bestN f (j + 1) = bestN f j := if_neg (by omega)
                   refine J.eql ?_ (ih (j + 1) j _ (some (i_ V)) (some (i_ 0)) (by omega) (by omega) t2)
                   rw [hb9, ← hL]
                   rfl)
                | (exfalso; omega)
              · refine J.iload (q := 104) dX6_wetFor_102 rfl ?_ rfl
                refine J.goto (tgt := 109) dX6_wetFor_104 rfl ?_
                refine J.istore (q := 111) dX6_wetFor_109 (Nat.le_of_ble_eq_true rfl) ?_ rfl
                refine J.iinc (q := 114) dX6_wetFor_111 rfl ?_ rfl
                refine J.goto (tgt := 36) dX6_wetFor_114 rfl ?_
                first
                | (have hb9 : bestN f (j + 1) = (j : Int) := if_pos (by omega)
                   refine J.eql ?_ (ih (j + 1) j _ (some (i_ V)) (some (i_ 1)) (by omega) (by omega) t2)
                   rw [hb9, if_neg (by omega)]
                   have hVj : V = (f j : Int) := by omega
                   rw [hVj]
                   rfl)
                | (have hb9 : bestN f (j + 1) = bestN f j := if_neg (by omega)
                   refine J.eql ?_ (ih (j + 1) j _ (some (i_ V)) (some (i_ 0)) (by omega) (by omega) t2)
                   rw [hb9, ← hL]
                   rfl)
                | (exfalso; omega)
          · refine J.iconst (q := 77) dX6_wetFor_76 ?_ rfl
            refine J.goto (tgt := 81) dX6_wetFor_77 rfl ?_
            refine J.istore (q := 83) dX6_wetFor_81 (Nat.le_of_ble_eq_true rfl) ?_ rfl
            refine J.iload (q := 85) dX6_wetFor_83 rfl ?_ rfl
            refine J.if_eq (tgt := 93) (q := 88) dX6_wetFor_85 rfl rfl (fun c85 => ?_) (fun c85 => ?_)
            · refine J.iload (q := 95) dX6_wetFor_93 rfl ?_ rfl
              refine J.istore (q := 97) dX6_wetFor_95 (Nat.le_of_ble_eq_true rfl) ?_ rfl
              refine J.iload (q := 99) dX6_wetFor_97 rfl ?_ rfl
              refine J.if_eq (tgt := 107) (q := 102) dX6_wetFor_99 rfl rfl (fun c99 => ?_) (fun c99 => ?_)
              · refine J.iload (q := 109) dX6_wetFor_107 rfl ?_ rfl
                refine J.istore (q := 111) dX6_wetFor_109 (Nat.le_of_ble_eq_true rfl) ?_ rfl
                refine J.iinc (q := 114) dX6_wetFor_111 rfl ?_ rfl
                refine J.goto (tgt := 36) dX6_wetFor_114 rfl ?_
                first
                | (have hb9 : bestN f (j + 1) = (j : Int) := if_pos (by omega)
                   refine J.eql ?_ (ih (j + 1) j _ (some (i_ V)) (some (i_ 1)) (by omega) (by omega) t2)
                   rw [hb9, if_neg (by omega)]
                   have hVj : V = (f j : Int) := by omega
                   rw [hVj]
                   rfl)
                | (have hb9 : bestN f (j + 1) = bestN f j := if_neg (by omega)
                   refine J.eql ?_ (ih (j + 1) j _ (some (i_ V)) (some (i_ 0)) (by omega) (by omega) t2)
                   rw [hb9, ← hL]
                   rfl)
                | (exfalso; omega)
              · refine J.iload (q := 104) dX6_wetFor_102 rfl ?_ rfl
                refine J.goto (tgt := 109) dX6_wetFor_104 rfl ?_
                refine J.istore (q := 111) dX6_wetFor_109 (Nat.le_of_ble_eq_true rfl) ?_ rfl
                refine J.iinc (q := 114) dX6_wetFor_111 rfl ?_ rfl
                refine J.goto (tgt := 36) dX6_wetFor_114 rfl ?_
                first
                | (have hb9 : bestN f (j + 1) = (j : Int) := if_pos (by omega)
                   refine J.eql ?_ (ih (j + 1) j _ (some (i_ V)) (some (i_ 1)) (by omega) (by omega) t2)
                   rw [hb9, if_neg (by omega)]
                   have hVj : V = (f j : Int) := by omega
                   rw [hVj]
                   rfl)
                | (have hb9 : bestN f (j + 1) = bestN f j := if_neg (by omega)
                   refine J.eql ?_ (ih (j + 1) j _ (some (i_ V)) (some (i_ 0)) (by omega) (by omega) t2)
                   rw [hb9, ← hL]
                   rfl)
                | (exfalso; omega)
            · refine J.iload (q := 90) dX6_wetFor_88 rfl ?_ rfl
              refine J.goto (tgt := 95) dX6_wetFor_90 rfl ?_
              refine J.istore (q := 97) dX6_wetFor_95 (Nat.le_of_ble_eq_true rfl) ?_ rfl
              refine J.iload (q := 99) dX6_wetFor_97 rfl ?_ rfl
              refine J.if_eq (tgt := 107) (q := 102) dX6_wetFor_99 rfl rfl (fun c99 => ?_) (fun c99 => ?_)
              · refine J.iload (q := 109) dX6_wetFor_107 rfl ?_ rfl
                refine J.istore (q := 111) dX6_wetFor_109 (Nat.le_of_ble_eq_true rfl) ?_ rfl
                refine J.iinc (q := 114) dX6_wetFor_111 rfl ?_ rfl
                refine J.goto (tgt := 36) dX6_wetFor_114 rfl ?_
                first
                | (have hb9 : bestN f (j + 1) = (j : Int) := if_pos (by omega)
                   refine J.eql ?_ (ih (j + 1) j _ (some (i_ V)) (some (i_ 1)) (by omega) (by omega) t2)
                   rw [hb9, if_neg (by omega)]
                   have hVj : V = (f j : Int) := by omega
                   rw [hVj]
                   rfl)
                | (have hb9 : bestN f (j + 1) = bestN f j := if_neg (by omega)
                   refine J.eql ?_ (ih (j + 1) j _ (some (i_ V)) (some (i_ 0)) (by omega) (by omega) t2)
                   rw [hb9, ← hL]
                   rfl)
                | (exfalso; omega)
              · refine J.iload (q := 104) dX6_wetFor_102 rfl ?_ rfl
                refine J.goto (tgt := 109) dX6_wetFor_104 rfl ?_
                refine J.istore (q := 111) dX6_wetFor_109 (Nat.le_of_ble_eq_true rfl) ?_ rfl
                refine J.iinc (q := 114) dX6_wetFor_111 rfl ?_ rfl
                refine J.goto (tgt := 36) dX6_wetFor_114 rfl ?_
                first
                | (have hb9 : bestN f (j + 1) = (j : Int) := if_pos (by omega)
                   refine J.eql ?_ (ih (j + 1) j _ (some (i_ V)) (some (i_ 1)) (by omega) (by omega) t2)
                   rw [hb9, if_neg (by omega)]
                   have hVj : V = (f j : Int) := by omega
                   rw [hVj]
                   rfl)
                | (have hb9 : bestN f (j + 1) = bestN f j := if_neg (by omega)
                   refine J.eql ?_ (ih (j + 1) j _ (some (i_ V)) (some (i_ 0)) (by omega) (by omega) t2)
                   rw [hb9, ← hL]
                   rfl)
                | (exfalso; omega)

set_option maxRecDepth 100000 in
set_option maxHeartbeats 4000000 in
theorem c_X6_wetFor {l : Launch} {F : Nat × (Int → Int)} {iv : Mm} (hA : AI iv) {w c : Int} (hw : -2147483648 ≤ w ∧ w < 2147483648) (hc : -2147483648 ≤ c ∧ c < 2147483648) : Ctr l F 6 0 0 yX6_wetFor cX6_wetFor 9 (some FieldType.int) [r_ 61, i_ w, i_ c] S0 (iv) (MP iv (an_wetFor (hi iv) w c)) := by
  refine Ctr.of false (fun h => by cases h) (by decide) rfl (Nat.le_of_ble_eq_true rfl) ?_
  have hI := hA.mi
  have hmm := hI.many
  have hkp := hA.kp
  have htp := hA.tp
  refine J.iload_n (q := 1) dX6_wetFor_0 rfl ?_ rfl
  refine J.callS1i (q := 4) dX6_wetFor_1 mv_X6_isLaw kS_X6_isLaw kL_X6_134 ⟨by decide, by decide⟩ (Nat.le_of_ble_eq_true rfl) ⟨by decide, by decide⟩ rfl (c_X6_isLaw (by omega)) ?_
  refine J.ifb_eq (tgt := 14) (q := 7) dX6_wetFor_4 rfl rfl (fun c4 => ?_) (fun c4 => ?_)
  · refine J.aload_n (q := 15) dX6_wetFor_14 rfl ?_ rfl
    refine J.iconst (q := 16) dX6_wetFor_15 ?_ rfl
    refine J.callV1i (ci := 6) (q := 19) dX6_wetFor_16 mv_X6_no kL_X6_125 rfl (by decide) rfl ⟨by decide, by decide⟩ (Nat.le_of_ble_eq_true rfl) ⟨by decide, by decide⟩ rfl (c_X6_no (by omega)) ?_
    refine J.ireturn dX6_wetFor_19 rfl ?_
    unfold an_wetFor
    (try rw [hi_61]); (try rw [hi_62]); (try rw [hi_63]); (try rw [hi_65]); (try rw [hi_70]); (try rw [hi_74]); (try rw [hi_75]); (try rw [hi_76])
    repeat (first | rw [if_pos (by omega)] | rw [if_neg (by omega)])
    first
    | exact mpTF TF.rf
    | exact mpTFb TF.rf
    | exact mpTF hTF
    | exact mpTFb hTF
    | (exfalso; omega)
  · refine J.iload_n (q := 8) dX6_wetFor_7 rfl ?_ rfl
    refine J.callS1i (q := 11) dX6_wetFor_8 mv_X6_isCell kS_X6_isCell kL_X6_122 ⟨by decide, by decide⟩ (Nat.le_of_ble_eq_true rfl) ⟨by decide, by decide⟩ rfl (c_X6_isCell (by omega)) ?_
    refine J.ifb_ne (tgt := 20) (q := 14) dX6_wetFor_11 rfl rfl (fun c11 => ?_) (fun c11 => ?_)
    · refine J.aload_n (q := 21) dX6_wetFor_20 rfl ?_ rfl
      refine J.getR (ci := 6) (k0 := 0) (c1 := 62) (q := 24) dX6_wetFor_21 kF_X6_9 rfl (by decide) (by decide) rfl (by decide) rfl ?_ rfl
      refine J.iconst (q := 25) dX6_wetFor_24 ?_ rfl
      refine J.iald (n := 307) (q := 26) dX6_wetFor_25 rfl (by omega) ?_ rfl
      refine J.istore_n (q := 27) dX6_wetFor_26 (Nat.le_of_ble_eq_true rfl) ?_ rfl
      refine J.iconst (q := 28) dX6_wetFor_27 ?_ rfl
      refine J.istore (q := 30) dX6_wetFor_28 (Nat.le_of_ble_eq_true rfl) ?_ rfl
      refine J.iconst (q := 31) dX6_wetFor_30 ?_ rfl
      refine J.istore (q := 33) dX6_wetFor_31 (Nat.le_of_ble_eq_true rfl) ?_ rfl
      refine J.iconst (q := 34) dX6_wetFor_33 ?_ rfl
      refine J.istore (q := 36) dX6_wetFor_34 (Nat.le_of_ble_eq_true rfl) ?_ rfl
      exact wetFor_loop hA (by omega) (by omega) (fun _ => rfl) 11 0 (iv 62 4) iv _ _ (by omega) (by omega) (by rw [up_self]; exact TF.rf)
    · refine J.aload_n (q := 15) dX6_wetFor_14 rfl ?_ rfl
      refine J.iconst (q := 16) dX6_wetFor_15 ?_ rfl
      refine J.callV1i (ci := 6) (q := 19) dX6_wetFor_16 mv_X6_no kL_X6_125 rfl (by decide) rfl ⟨by decide, by decide⟩ (Nat.le_of_ble_eq_true rfl) ⟨by decide, by decide⟩ rfl (c_X6_no (by omega)) ?_
      refine J.ireturn dX6_wetFor_19 rfl ?_
      unfold an_wetFor
      (try rw [hi_61]); (try rw [hi_62]); (try rw [hi_63]); (try rw [hi_65]); (try rw [hi_70]); (try rw [hi_74]); (try rw [hi_75]); (try rw [hi_76])
      repeat (first | rw [if_pos (by omega)] | rw [if_neg (by omega)])
      first
      | exact mpTF TF.rf
      | exact mpTFb TF.rf
      | exact mpTF hTF
      | exact mpTFb hTF
      | (exfalso; omega)

set_option maxRecDepth 100000 in
set_option maxHeartbeats 4000000 in
theorem kindFor_loop {l : Launch} {F : Nat × (Int → Int)} {iv : Mm} (hA : AI iv) {k : Int} (hk : 0 ≤ k ∧ k < iv 62 2) {f : Int → Nat} (hf : ∀ x, f x = gatD (upr (iv 62) (257 + 5 * k + 0) x) k 100) : ∀ (n : Nat) (j : Nat) (x : Int) (iv1 : Mm) (y6 : Option VT) (y7 : Option VT), (7 - (j : Int) < n) → (j ≤ 7) → (TF (up iv 62 (257 + 5 * k + 0) x) iv1) → J l (yX6_kindFor).cls cX6_kindFor 8 (some FieldType.int) 6 0 0 false F (MP iv (an_kindFor (hi iv) k)) 0 0 29 [some (r_ 61), some (i_ k), some (i_ (iv 62 (257 + 5 * k + 0))), some (i_ (bestN f j)), some (i_ (if bestN f j < 0 then (0 : Int) else (f (bestN f j) : Int))), some (i_ (j : Int)), y6, y7] [] S0 (iv1) := by
  intro n
  induction n with
  | zero =>
    intro j x iv1 y6 y7 hn hj hTF
    omega
  | succ n ih =>
    intro j x iv1 y6 y7 hn hj hTF
    have hI := hA.mi
    have hmm := hI.many
    have hkp := hA.kp
    have htp := hA.tp
    have hbl := bestN_lt f j
    have hfle : ∀ x, f x ≤ 101 := fun x => by rw [hf]; exact (firstD_le _ 101 0).2
    have hl0 := hfle (bestN f j)
    have hl1 := hfle j
    obtain ⟨L, hL⟩ : ∃ L : Int, L = (if bestN f j < 0 then (0 : Int) else (f (bestN f j) : Int)) := ⟨_, rfl⟩
    have hL1 : (bestN f j < 0 ∧ L = 0) ∨ (0 ≤ bestN f j ∧ L = f (bestN f j)) := by
      by_cases h : bestN f j < 0
      · exact Or.inl ⟨h, by rw [hL, if_pos h]⟩
      · exact Or.inr ⟨by omega, by rw [hL, if_neg h]⟩
    rw [← hL]
    refine J.iload (q := 31) dX6_kindFor_29 rfl ?_ rfl
    refine J.bipush (q := 33) dX6_kindFor_31 (by decide) ?_ rfl
    refine J.icmp_gt (tgt := 108) (q := 36) dX6_kindFor_33 rfl rfl (fun c33 => ?_) (fun c33 => ?_)
    · have hj9 : j = 7 := by omega
      subst hj9
      have hff : f = fun x => gatD (upr (iv 62) (257 + 5 * k + 0) x) k 100 := funext hf
      subst hff
      have hTF := hTF.back
      try dsimp only at *
      refine J.aload_n (q := 109) dX6_kindFor_108 rfl ?_ rfl
      refine J.iload_n (q := 110) dX6_kindFor_109 rfl ?_ rfl
      refine J.iconst (q := 111) dX6_kindFor_110 ?_ rfl
      refine J.iload_n (q := 112) dX6_kindFor_111 rfl ?_ rfl
      refine J.callV3v (ci := 6) (q := 115) dX6_kindFor_112 mv_X6_puts kL_X6_97 rfl (by decide) rfl ⟨by decide, by decide⟩ (Nat.le_of_ble_eq_true rfl) ⟨by decide, by decide⟩ rfl (c_X6_puts (by omega)) ?_
      refine J.iload_n (q := 116) dX6_kindFor_115 rfl ?_ rfl
      refine J.if_ge (tgt := 127) (q := 119) dX6_kindFor_116 rfl rfl (fun c116 => ?_) (fun c116 => ?_)
      · refine J.iload_n (q := 128) dX6_kindFor_127 rfl ?_ rfl
        refine J.ireturn dX6_kindFor_128 rfl ?_
        unfold an_kindFor
        (try rw [hi_61]); (try rw [hi_62]); (try rw [hi_63]); (try rw [hi_65]); (try rw [hi_70]); (try rw [hi_74]); (try rw [hi_75]); (try rw [hi_76])
        repeat (first | rw [if_pos (by omega)] | rw [if_neg (by omega)])
        first
        | exact mpTF TF.rf
        | exact mpTFb TF.rf
        | exact mpTF hTF
        | exact mpTFb hTF
        | (exfalso; omega)
      · refine J.aload_n (q := 120) dX6_kindFor_119 rfl ?_ rfl
        refine J.iconst (q := 121) dX6_kindFor_120 ?_ rfl
        refine J.callV1i (ci := 6) (q := 124) dX6_kindFor_121 mv_X6_no kL_X6_125 rfl (by decide) rfl ⟨by decide, by decide⟩ (Nat.le_of_ble_eq_true rfl) ⟨by decide, by decide⟩ rfl (c_X6_no (by omega)) ?_
        refine J.goto (tgt := 128) dX6_kindFor_124 rfl ?_
        refine J.ireturn dX6_kindFor_128 rfl ?_
        unfold an_kindFor
        (try rw [hi_61]); (try rw [hi_62]); (try rw [hi_63]); (try rw [hi_65]); (try rw [hi_70]); (try rw [hi_74]); (try rw [hi_75]); (try rw [hi_76])
        repeat (first | rw [if_pos (by omega)] | rw [if_neg (by omega)])
        first
        | exact mpTF TF.rf
        | exact mpTFb TF.rf
        | exact mpTF hTF
        | exact mpTFb hTF
        | (exfalso; omega)
    · refine J.aload_n (q := 37) dX6_kindFor_36 rfl ?_ rfl
      refine J.iload_n (q := 38) dX6_kindFor_37 rfl ?_ rfl
      refine J.iconst (q := 39) dX6_kindFor_38 ?_ rfl
      refine J.iload (q := 41) dX6_kindFor_39 rfl ?_ rfl
      
      refine J.callV3v (ci := 6) (q := 44) dX6_kindFor_41 mv_X6_puts kL_X6_97 rfl (by decide) rfl ⟨by decide, by decide⟩ (Nat.le_of_ble_eq_true rfl) ⟨by decide, by decide⟩ rfl (c_X6_puts (by omega)) ?_
      refine J.aload_n (q := 45) dX6_kindFor_44 rfl ?_ rfl
      refine J.iload_n (q := 46) dX6_kindFor_45 rfl ?_ rfl
      refine J.bipush (q := 48) dX6_kindFor_46 (by decide) ?_ rfl
      have hm1 : MI 99999 (upr (iv 62) (257 + 5 * k + 0) j) := hI.upd (by omega) (by omega) (by omega) (by omega) (by omega) (by omega) (fun c _ _ => ⟨by omega, by omega, by omega⟩) (fun i _ _ => ⟨fun _ => by omega, by omega, by omega, by omega, by omega⟩) (by omega)
      have hA1 : AI (up iv1 62 (257 + 5 * k + 0) j) := (hA.u62 hm1).tf (TF_up hTF)
      have hrow : up iv1 62 (257 + 5 * k + 0) j 62 = upr (iv 62) (257 + 5 * k + 0) j := by rw [up_s, hTF.1 62 (by omega), up_s, upr_upr]
      refine J.callV2 (ci := 6) (q := 51) dX6_kindFor_48 mv_X6_thereBy kL_X6_164 rfl (by decide) rfl ⟨by decide, by decide⟩ (Nat.le_of_ble_eq_true rfl) ⟨by decide, by decide⟩ rfl (c_X6_thereBy hA1 (by rw [hrow, upr_n _ _ (by omega)]; omega) (by omega)) (fun v9 S9 iv9 hp => ?_)
      obtain ⟨rfl, rfl, t0⟩ := hp
      have t1 := t0.1
      have t2 := (TF_up hTF (y := j)).tr t1
      rw [hrow]
      have e100 : (100 : Int).toNat = 100 := rfl
      rw [e100, ← hf j]
      have ecst : (if (f j : Int) ≤ 100 then (f j : Int) else -1) = (if f j ≤ 100 then (f j : Int) else -1) := by
        by_cases h : f j ≤ 100
        · rw [if_pos h, if_pos (by omega)]
        · rw [if_neg h, if_neg (by omega)]
      rw [ecst]
      obtain ⟨V, hV⟩ : ∃ V : Int, V = (if f j ≤ 100 then (f j : Int) else -1) := ⟨_, rfl⟩
      have hV1 : (f j ≤ 100 ∧ V = f j) ∨ (¬ f j ≤ 100 ∧ V = -1) := by
        by_cases h : f j ≤ 100
        · exact Or.inl ⟨h, by rw [hV, if_pos h]⟩
        · exact Or.inr ⟨h, by rw [hV, if_neg h]⟩
      rw [← hV]
      clear hV
      refine J.istore (q := 53) dX6_kindFor_51 (Nat.le_of_ble_eq_true rfl) ?_ rfl
      refine J.iload (q := 55) dX6_kindFor_53 rfl ?_ rfl
      refine J.if_lt (tgt := 73) (q := 58) dX6_kindFor_55 rfl rfl (fun c55 => ?_) (fun c55 => ?_)
      · refine J.iconst (q := 74) dX6_kindFor_73 ?_ rfl
        refine J.istore (q := 76) dX6_kindFor_74 (Nat.le_of_ble_eq_true rfl) ?_ rfl
        refine J.iload (q := 78) dX6_kindFor_76 rfl ?_ rfl
        refine J.if_eq (tgt := 86) (q := 81) dX6_kindFor_78 rfl rfl (fun c78 => ?_) (fun c78 => ?_)
        · refine J.iload_n (q := 87) dX6_kindFor_86 rfl ?_ rfl
          refine J.istore_n (q := 88) dX6_kindFor_87 (Nat.le_of_ble_eq_true rfl) ?_ rfl
          refine J.iload (q := 90) dX6_kindFor_88 rfl ?_ rfl
          refine J.if_eq (tgt := 98) (q := 93) dX6_kindFor_90 rfl rfl (fun c90 => ?_) (fun c90 => ?_)
          · refine J.iload (q := 100) dX6_kindFor_98 rfl ?_ rfl
            refine J.istore (q := 102) dX6_kindFor_100 (Nat.le_of_ble_eq_true rfl) ?_ rfl
            refine J.iinc (q := 105) dX6_kindFor_102 rfl ?_ rfl
            refine J.goto (tgt := 29) dX6_kindFor_105 rfl ?_
            first
            | (have hb9 : bestN f (j + 1) = (j : Int) := if_pos (by omega)
               refine J.eql ?_ (ih (j + 1) j _ (some (i_ V)) (some (i_ 1)) (by omega) (by omega) t2)
               rw [hb9, if_neg (by omega)]
               have hVj : V = (f j : Int) := by omega
               rw [hVj]
               rfl)
            | (have hb9 : bestN f (j + 1) = bestN f j := if_neg (by omega)
               refine J.eql ?_ (ih (j + 1) j _ (some (i_ V)) (some (i_ 0)) (by omega) (by omega) t2)
               rw [hb9, ← hL]
               rfl)
            | (exfalso; omega)
          · refine J.iload (q := 95) dX6_kindFor_93 rfl ?_ rfl
            refine J.goto (tgt := 100) dX6_kindFor_95 rfl ?_
            refine J.istore (q := 102) dX6_kindFor_100 (Nat.le_of_ble_eq_true rfl) ?_ rfl
            refine J.iinc (q := 105) dX6_kindFor_102 rfl ?_ rfl
            refine J.goto (tgt := 29) dX6_kindFor_105 rfl ?_
            first
            | (have hb9 : bestN f (j + 1) = (j : Int) := if_pos (by omega)
               refine J.eql ?_ (ih (j + 1) j _ (some (i_ V)) (some (i_ 1)) (by omega) (by omega) t2)
               rw [hb9, if_neg (by omega)]
               have hVj : V = (f j : Int) := by omega
               rw [hVj]
               rfl)
            | (have hb9 : bestN f (j + 1) = bestN f j := if_neg (by omega)
               refine J.eql ?_ (ih (j + 1) j _ (some (i_ V)) (some (i_ 0)) (by omega) (by omega) t2)
               rw [hb9, ← hL]
               rfl)
            | (exfalso; omega)
        · refine J.iload (q := 83) dX6_kindFor_81 rfl ?_ rfl
          refine J.goto (tgt := 87) dX6_kindFor_83 rfl ?_
          refine J.istore_n (q := 88) dX6_kindFor_87 (Nat.le_of_ble_eq_true rfl) ?_ rfl
          refine J.iload (q := 90) dX6_kindFor_88 rfl ?_ rfl
          refine J.if_eq (tgt := 98) (q := 93) dX6_kindFor_90 rfl rfl (fun c90 => ?_) (fun c90 => ?_)
          · refine J.iload (q := 100) dX6_kindFor_98 rfl ?_ rfl
            refine J.istore (q := 102) dX6_kindFor_100 (Nat.le_of_ble_eq_true rfl) ?_ rfl
            refine J.iinc (q := 105) dX6_kindFor_102 rfl ?_ rfl
            refine J.goto (tgt := 29) dX6_kindFor_105 rfl ?_
            first
            | (have hb9 : bestN f (j + 1) = (j : Int) := if_pos (by omega)
               refine J.eql ?_ (ih (j + 1) j _ (some (i_ V)) (some (i_ 1)) (by omega) (by omega) t2)
               rw [hb9, if_neg (by omega)]
               have hVj : V = (f j : Int) := by omega
               rw [hVj]
               rfl)
            | (have hb9 : bestN f (j + 1) = bestN f j := if_neg (by omega)
               refine J.eql ?_ (ih (j + 1) j _ (some (i_ V)) (some (i_ 0)) (by omega) (by omega) t2)
               rw [hb9, ← hL]
               rfl)
            | (exfalso; omega)
          · refine J.iload (q := 95) dX6_kindFor_93 rfl ?_ rfl
            refine J.goto (tgt := 100) dX6_kindFor_95 rfl ?_
            refine J.istore (q := 102) dX6_kindFor_100 (Nat.le_of_ble_eq_true rfl) ?_ rfl
            refine J.iinc (q := 105) dX6_kindFor_102 rfl ?_ rfl
            refine J.goto (tgt := 29) dX6_kindFor_105 rfl ?_
            first
            | (have hb9 : bestN f (j + 1) = (j : Int) := if_pos (by omega)
               refine J.eql ?_ (ih (j + 1) j _ (some (i_ V)) (some (i_ 1)) (by omega) (by omega) t2)
               rw [hb9, if_neg (by omega)]
               have hVj : V = (f j : Int) := by omega
               rw [hVj]
               rfl)
            | (have hb9 : bestN f (j + 1) = bestN f j := if_neg (by omega)
               refine J.eql ?_ (ih (j + 1) j _ (some (i_ V)) (some (i_ 0)) (by omega) (by omega) t2)
               rw [hb9, ← hL]
               rfl)
            | (exfalso; omega)
      · refine J.iload_n (q := 59) dX6_kindFor_58 rfl ?_ rfl
        refine J.if_lt (tgt := 69) (q := 62) dX6_kindFor_59 rfl rfl (fun c59 => ?_) (fun c59 => ?_)
        · refine J.iconst (q := 70) dX6_kindFor_69 ?_ rfl
          refine J.goto (tgt := 74) dX6_kindFor_70 rfl ?_
          refine J.istore (q := 76) dX6_kindFor_74 (Nat.le_of_ble_eq_true rfl) ?_ rfl
          refine J.iload (q := 78) dX6_kindFor_76 rfl ?_ rfl
          refine J.if_eq (tgt := 86) (q := 81) dX6_kindFor_78 rfl rfl (fun c78 => ?_) (fun c78 => ?_)
          · refine J.iload_n (q := 87) dX6_kindFor_86 rfl ?_ rfl
            refine J.istore_n (q := 88) dX6_kindFor_87 (Nat.le_of_ble_eq_true rfl) ?_ rfl
            refine J.iload (q := 90) dX6_kindFor_88 rfl ?_ rfl
            refine J.if_eq (tgt := 98) (q := 93) dX6_kindFor_90 rfl rfl (fun c90 => ?_) (fun c90 => ?_)
            · refine J.iload (q := 100) dX6_kindFor_98 rfl ?_ rfl
              refine J.istore (q := 102) dX6_kindFor_100 (Nat.le_of_ble_eq_true rfl) ?_ rfl
              refine J.iinc (q := 105) dX6_kindFor_102 rfl ?_ rfl
              refine J.goto (tgt := 29) dX6_kindFor_105 rfl ?_
              first
              | (have hb9 : bestN f (j + 1) = (j : Int) := if_pos (by omega)
                 refine J.eql ?_ (ih (j + 1) j _ (some (i_ V)) (some (i_ 1)) (by omega) (by omega) t2)
                 rw [hb9, if_neg (by omega)]
                 have hVj : V = (f j : Int) := by omega
                 rw [hVj]
                 rfl)
              | (have hb9 : bestN f (j + 1) = bestN f j := if_neg (by omega)
                 refine J.eql ?_ (ih (j + 1) j _ (some (i_ V)) (some (i_ 0)) (by omega) (by omega) t2)
                 rw [hb9, ← hL]
                 rfl)
              | (exfalso; omega)
            · refine J.iload (q := 95) dX6_kindFor_93 rfl ?_ rfl
              refine J.goto (tgt := 100) dX6_kindFor_95 rfl ?_
              refine J.istore (q := 102) dX6_kindFor_100 (Nat.le_of_ble_eq_true rfl) ?_ rfl
              refine J.iinc (q := 105) dX6_kindFor_102 rfl ?_ rfl
              refine J.goto (tgt := 29) dX6_kindFor_105 rfl ?_
              first
              | (have hb9 : bestN f (j + 1) = (j : Int) := if_pos (by omega)
                 refine J.eql ?_ (ih (j + 1) j _ (some (i_ V)) (some (i_ 1)) (by omega) (by omega) t2)
                 rw [hb9, if_neg (by omega)]
                 have hVj : V = (f j : Int) := by omega
                 rw [hVj]
                 rfl)
              | (have hb9 : bestN f (j + 1) = bestN f j := if_neg (by omega)
                 refine J.eql ?_ (ih (j + 1) j _ (some (i_ V)) (some (i_ 0)) (by omega) (by omega) t2)
                 rw [hb9, ← hL]
                 rfl)
              | (exfalso; omega)
          · refine J.iload (q := 83) dX6_kindFor_81 rfl ?_ rfl
            refine J.goto (tgt := 87) dX6_kindFor_83 rfl ?_
            refine J.istore_n (q := 88) dX6_kindFor_87 (Nat.le_of_ble_eq_true rfl) ?_ rfl
            refine J.iload (q := 90) dX6_kindFor_88 rfl ?_ rfl
            refine J.if_eq (tgt := 98) (q := 93) dX6_kindFor_90 rfl rfl (fun c90 => ?_) (fun c90 => ?_)
            · refine J.iload (q := 100) dX6_kindFor_98 rfl ?_ rfl
              refine J.istore (q := 102) dX6_kindFor_100 (Nat.le_of_ble_eq_true rfl) ?_ rfl
              refine J.iinc (q := 105) dX6_kindFor_102 rfl ?_ rfl
              refine J.goto (tgt := 29) dX6_kindFor_105 rfl ?_
              first
              | (have hb9 : bestN f (j + 1) = (j : Int) := if_pos (by omega)
                 refine J.eql ?_ (ih (j + 1) j _ (some (i_ V)) (some (i_ 1)) (by omega) (by omega) t2)
                 rw [hb9, if_neg (by omega)]
                 have hVj : V = (f j : Int) := by omega
                 rw [hVj]
                 rfl)
              | (have hb9 : bestN f (j + 1) = bestN f j := if_neg (by omega)
                 refine J.eql ?_ (ih (j + 1) j _ (some (i_ V)) (some (i_ 0)) (by omega) (by omega) t2)
                 rw [hb9, ← hL]
                 rfl)
              | (exfalso; omega)
            · refine J.iload (q := 95) dX6_kindFor_93 rfl ?_ rfl
              refine J.goto (tgt := 100) dX6_kindFor_95 rfl ?_
              refine J.istore (q := 102) dX6_kindFor_100 (Nat.le_of_ble_eq_true rfl) ?_ rfl
              refine J.iinc (q := 105) dX6_kindFor_102 rfl ?_ rfl
              refine J.goto (tgt := 29) dX6_kindFor_105 rfl ?_
              first
              | (have hb9 : bestN f (j + 1) = (j : Int) := if_pos (by omega)
                 refine J.eql ?_ (ih (j + 1) j _ (some (i_ V)) (some (i_ 1)) (by omega) (by omega) t2)
                 rw [hb9, if_neg (by omega)]
                 have hVj : V = (f j : Int) := by omega
                 rw [hVj]
                 rfl)
              | (have hb9 : bestN f (j + 1) = bestN f j := if_neg (by omega)
                 refine J.eql ?_ (ih (j + 1) j _ (some (i_ V)) (some (i_ 0)) (by omega) (by omega) t2)
                 rw [hb9, ← hL]
                 rfl)
              | (exfalso; omega)
        · refine J.iload (q := 64) dX6_kindFor_62 rfl ?_ rfl
          refine J.iload (q := 66) dX6_kindFor_64 rfl ?_ rfl
          refine J.icmp_ge (tgt := 73) (q := 69) dX6_kindFor_66 rfl rfl (fun c66 => ?_) (fun c66 => ?_)
          · refine J.iconst (q := 74) dX6_kindFor_73 ?_ rfl
            refine J.istore (q := 76) dX6_kindFor_74 (Nat.le_of_ble_eq_true rfl) ?_ rfl
            refine J.iload (q := 78) dX6_kindFor_76 rfl ?_ rfl
            refine J.if_eq (tgt := 86) (q := 81) dX6_kindFor_78 rfl rfl (fun c78 => ?_) (fun c78 => ?_)
            · refine J.iload_n (q := 87) dX6_kindFor_86 rfl ?_ rfl
              refine J.istore_n (q := 88) dX6_kindFor_87 (Nat.le_of_ble_eq_true rfl) ?_ rfl
              refine J.iload (q := 90) dX6_kindFor_88 rfl ?_ rfl
              refine J.if_eq (tgt := 98) (q := 93) dX6_kindFor_90 rfl rfl (fun c90 => ?_) (fun c90 => ?_)
              · refine J.iload (q := 100) dX6_kindFor_98 rfl ?_ rfl
                refine J.istore (q := 102) dX6_kindFor_100 (Nat.le_of_ble_eq_true rfl) ?_ rfl
                refine J.iinc (q := 105) dX6_kindFor_102 rfl ?_ rfl
                refine J.goto (tgt := 29) dX6_kindFor_105 rfl ?_
                first
                | (have hb9 : bestN f (j + 1) = (j : Int) := if_pos (by omega)
                   refine J.eql ?_ (ih (j + 1) j _ (some (i_ V)) (some (i_ 1)) (by omega) (by omega) t2)
                   rw [hb9, if_neg (by omega)]
                   have hVj : V = (f j : Int) := by omega
                   rw [hVj]
                   rfl)
                | (have hb9 : bestN f (j + 1) = bestN f j := if_neg (by omega)
                   refine J.eql ?_ (ih (j + 1) j _ (some (i_ V)) (some (i_ 0)) (by omega) (by omega) t2)
                   rw [hb9, ← hL]
                   rfl)
                | (exfalso; omega)
              · refine J.iload (q := 95) dX6_kindFor_93 rfl ?_ rfl
                refine J.goto (tgt := 100) dX6_kindFor_95 rfl ?_
                refine J.istore (q := 102) dX6_kindFor_100 (Nat.le_of_ble_eq_true rfl) ?_ rfl
                refine J.iinc (q := 105) dX6_kindFor_102 rfl ?_ rfl
                refine J.goto (tgt := 29) dX6_kindFor_105 rfl ?_
                first
                | (have hb9 : bestN f (j + 1) = (j : Int) := if_pos (by omega)
                   refine J.eql ?_ (ih (j + 1) j _ (some (i_ V)) (some (i_ 1)) (by omega) (by omega) t2)
                   rw [hb9, if_neg (by omega)]
                   have hVj : V = (f j : Int) := by omega
                   rw [hVj]
                   rfl)
                | (have hb9 : bestN f (j + 1) = bestN f j := if_neg (by omega)
                   refine J.eql ?_ (ih (j + 1) j _ (some (i_ V)) (some (i_ 0)) (by omega) (by omega) t2)
                   rw [hb9, ← hL]
                   rfl)
                | (exfalso; omega)
            · refine J.iload (q := 83) dX6_kindFor_81 rfl ?_ rfl
              refine J.goto (tgt := 87) dX6_kindFor_83 rfl ?_
              refine J.istore_n (q := 88) dX6_kindFor_87 (Nat.le_of_ble_eq_true rfl) ?_ rfl
              refine J.iload (q := 90) dX6_kindFor_88 rfl ?_ rfl
              refine J.if_eq (tgt := 98) (q := 93) dX6_kindFor_90 rfl rfl (fun c90 => ?_) (fun c90 => ?_)
              · refine J.iload (q := 100) dX6_kindFor_98 rfl ?_ rfl
                refine J.istore (q := 102) dX6_kindFor_100 (Nat.le_of_ble_eq_true rfl) ?_ rfl
                refine J.iinc (q := 105) dX6_kindFor_102 rfl ?_ rfl
                refine J.goto (tgt := 29) dX6_kindFor_105 rfl ?_
                first
                | (have hb9 : bestN f (j + 1) = (j : Int) := if_pos (by omega)
                   refine J.eql ?_ (ih (j + 1) j _ (some (i_ V)) (some (i_ 1)) (by omega) (by omega) t2)
                   rw [hb9, if_neg (by omega)]
                   have hVj : V = (f j : Int) := by omega
                   rw [hVj]
                   rfl)
                | (have hb9 : bestN f (j + 1) = bestN f j := if_neg (by omega)
                   refine J.eql ?_ (ih (j + 1) j _ (some (i_ V)) (some (i_ 0)) (by omega) (by omega) t2)
                   rw [hb9, ← hL]
                   rfl)
                | (exfalso; omega)
              · refine J.iload (q := 95) dX6_kindFor_93 rfl ?_ rfl
                refine J.goto (tgt := 100) dX6_kindFor_95 rfl ?_
                refine J.istore (q := 102) dX6_kindFor_100 (Nat.le_of_ble_eq_true rfl) ?_ rfl
                refine J.iinc (q := 105) dX6_kindFor_102 rfl ?_ rfl
                refine J.goto (tgt := 29) dX6_kindFor_105 rfl ?_
                first
                | (have hb9 : bestN f (j + 1) = (j : Int) := if_pos (by omega)
                   refine J.eql ?_ (ih (j + 1) j _ (some (i_ V)) (some (i_ 1)) (by omega) (by omega) t2)
                   rw [hb9, if_neg (by omega)]
                   have hVj : V = (f j : Int) := by omega
                   rw [hVj]
                   rfl)
                | (have hb9 : bestN f (j + 1) = bestN f j := if_neg (by omega)
                   refine J.eql ?_ (ih (j + 1) j _ (some (i_ V)) (some (i_ 0)) (by omega) (by omega) t2)
                   rw [hb9, ← hL]
                   rfl)
                | (exfalso; omega)
          · refine J.iconst (q := 70) dX6_kindFor_69 ?_ rfl
            refine J.goto (tgt := 74) dX6_kindFor_70 rfl ?_
            refine J.istore (q := 76) dX6_kindFor_74 (Nat.le_of_ble_eq_true rfl) ?_ rfl
            refine J.iload (q := 78) dX6_kindFor_76 rfl ?_ rfl
            refine J.if_eq (tgt := 86) (q := 81) dX6_kindFor_78 rfl rfl (fun c78 => ?_) (fun c78 => ?_)
            · refine J.iload_n (q := 87) dX6_kindFor_86 rfl ?_ rfl
              refine J.istore_n (q := 88) dX6_kindFor_87 (Nat.le_of_ble_eq_true rfl) ?_ rfl
              refine J.iload (q := 90) dX6_kindFor_88 rfl ?_ rfl
              refine J.if_eq (tgt := 98) (q := 93) dX6_kindFor_90 rfl rfl (fun c90 => ?_) (fun c90 => ?_)
              · refine J.iload (q := 100) dX6_kindFor_98 rfl ?_ rfl
                refine J.istore (q := 102) dX6_kindFor_100 (Nat.le_of_ble_eq_true rfl) ?_ rfl
                refine J.iinc (q := 105) dX6_kindFor_102 rfl ?_ rfl
                refine J.goto (tgt := 29) dX6_kindFor_105 rfl ?_
                first
                | (have hb9 : bestN f (j + 1) = (j : Int) := if_pos (by omega)
                   refine J.eql ?_ (ih (j + 1) j _ (some (i_ V)) (some (i_ 1)) (by omega) (by omega) t2)
                   rw [hb9, if_neg (by omega)]
                   have hVj : V = (f j : Int) := by omega
                   rw [hVj]
                   rfl)
                | (have hb9 : bestN f (j + 1) = bestN f j := if_neg (by omega)
                   refine J.eql ?_ (ih (j + 1) j _ (some (i_ V)) (some (i_ 0)) (by omega) (by omega) t2)
                   rw [hb9, ← hL]
                   rfl)
                | (exfalso; omega)
              · refine J.iload (q := 95) dX6_kindFor_93 rfl ?_ rfl
                refine J.goto (tgt := 100) dX6_kindFor_95 rfl ?_
                refine J.istore (q := 102) dX6_kindFor_100 (Nat.le_of_ble_eq_true rfl) ?_ rfl
                refine J.iinc (q := 105) dX6_kindFor_102 rfl ?_ rfl
                refine J.goto (tgt := 29) dX6_kindFor_105 rfl ?_
                first
                | (have hb9 : bestN f (j + 1) = (j : Int) := if_pos (by omega)
                   refine J.eql ?_ (ih (j + 1) j _ (some (i_ V)) (some (i_ 1)) (by omega) (by omega) t2)
                   rw [hb9, if_neg (by omega)]
                   have hVj : V = (f j : Int) := by omega
                   rw [hVj]
                   rfl)
                | (have hb9 : bestN f (j + 1) = bestN f j := if_neg (by omega)
                   refine J.eql ?_ (ih (j + 1) j _ (some (i_ V)) (some (i_ 0)) (by omega) (by omega) t2)
                   rw [hb9, ← hL]
                   rfl)
                | (exfalso; omega)
            · refine J.iload (q := 83) dX6_kindFor_81 rfl ?_ rfl
              refine J.goto (tgt := 87) dX6_kindFor_83 rfl ?_
              refine J.istore_n (q := 88) dX6_kindFor_87 (Nat.le_of_ble_eq_true rfl) ?_ rfl
              refine J.iload (q := 90) dX6_kindFor_88 rfl ?_ rfl
              refine J.if_eq (tgt := 98) (q := 93) dX6_kindFor_90 rfl rfl (fun c90 => ?_) (fun c90 => ?_)
              · refine J.iload (q := 100) dX6_kindFor_98 rfl ?_ rfl
                refine J.istore (q := 102) dX6_kindFor_100 (Nat.le_of_ble_eq_true rfl) ?_ rfl
                refine J.iinc (q := 105) dX6_kindFor_102 rfl ?_ rfl
                refine J.goto (tgt := 29) dX6_kindFor_105 rfl ?_
                first
                | (have hb9 : bestN f (j + 1) = (j : Int) := if_pos (by omega)
                   refine J.eql ?_ (ih (j + 1) j _ (some (i_ V)) (some (i_ 1)) (by omega) (by omega) t2)
                   rw [hb9, if_neg (by omega)]
                   have hVj : V = (f j : Int) := by omega
                   rw [hVj]
                   rfl)
                | (have hb9 : bestN f (j + 1) = bestN f j := if_neg (by omega)
                   refine J.eql ?_ (ih (j + 1) j _ (some (i_ V)) (some (i_ 0)) (by omega) (by omega) t2)
                   rw [hb9, ← hL]
                   rfl)
                | (exfalso; omega)
              · refine J.iload (q := 95) dX6_kindFor_93 rfl ?_ rfl
                refine J.goto (tgt := 100) dX6_kindFor_95 rfl ?_
                refine J.istore (q := 102) dX6_kindFor_100 (Nat.le_of_ble_eq_true rfl) ?_ rfl
                refine J.iinc (q := 105) dX6_kindFor_102 rfl ?_ rfl
                refine J.goto (tgt := 29) dX6_kindFor_105 rfl ?_
                first
                | (have hb9 : bestN f (j + 1) = (j : Int) := if_pos (by omega)
                   refine J.eql ?_ (ih (j + 1) j _ (some (i_ V)) (some (i_ 1)) (by omega) (by omega) t2)
                   rw [hb9, if_neg (by omega)]
                   have hVj : V = (f j : Int) := by omega
                   rw [hVj]
                   rfl)
                | (have hb9 : bestN f (j + 1) = bestN f j := if_neg (by omega)
                   refine J.eql ?_ (ih (j + 1) j _ (some (i_ V)) (some (i_ 0)) (by omega) (by omega) t2)
                   rw [hb9, ← hL]
                   rfl)
                | (exfalso; omega)

set_option maxRecDepth 100000 in
set_option maxHeartbeats 4000000 in
theorem c_X6_kindFor {l : Launch} {F : Nat × (Int → Int)} {iv : Mm} (hA : AI iv) {k : Int} (hk : -2147483648 ≤ k ∧ k < 2147483648) : Ctr l F 6 0 0 yX6_kindFor cX6_kindFor 8 (some FieldType.int) [r_ 61, i_ k] S0 (iv) (MP iv (an_kindFor (hi iv) k)) := by
  refine Ctr.of false (fun h => by cases h) (by decide) rfl (Nat.le_of_ble_eq_true rfl) ?_
  have hI := hA.mi
  have hmm := hI.many
  have hkp := hA.kp
  have htp := hA.tp
  refine J.aload_n (q := 1) dX6_kindFor_0 rfl ?_ rfl
  refine J.iload_n (q := 2) dX6_kindFor_1 rfl ?_ rfl
  refine J.callV1i (ci := 6) (q := 5) dX6_kindFor_2 mv_X6_isSnail kL_X6_131 rfl (by decide) rfl ⟨by decide, by decide⟩ (Nat.le_of_ble_eq_true rfl) ⟨by decide, by decide⟩ rfl (c_X6_isSnail (by omega) (by omega)) ?_
  refine J.ifb_ne (tgt := 14) (q := 8) dX6_kindFor_5 rfl rfl (fun c5 => ?_) (fun c5 => ?_)
  · refine J.aload_n (q := 15) dX6_kindFor_14 rfl ?_ rfl
    refine J.iload_n (q := 16) dX6_kindFor_15 rfl ?_ rfl
    refine J.iconst (q := 17) dX6_kindFor_16 ?_ rfl
    refine J.callV2i (ci := 6) (q := 20) dX6_kindFor_17 mv_X6_get kL_X6_76 rfl (by decide) rfl ⟨by decide, by decide⟩ (Nat.le_of_ble_eq_true rfl) ⟨by decide, by decide⟩ rfl (c_X6_get (by omega)) ?_
    refine J.istore_n (q := 21) dX6_kindFor_20 (Nat.le_of_ble_eq_true rfl) ?_ rfl
    refine J.iconst (q := 22) dX6_kindFor_21 ?_ rfl
    refine J.istore_n (q := 23) dX6_kindFor_22 (Nat.le_of_ble_eq_true rfl) ?_ rfl
    refine J.iconst (q := 24) dX6_kindFor_23 ?_ rfl
    refine J.istore (q := 26) dX6_kindFor_24 (Nat.le_of_ble_eq_true rfl) ?_ rfl
    refine J.iconst (q := 27) dX6_kindFor_26 ?_ rfl
    refine J.istore (q := 29) dX6_kindFor_27 (Nat.le_of_ble_eq_true rfl) ?_ rfl
    exact kindFor_loop hA (by omega) (fun _ => rfl) 8 0 (iv 62 (257 + 5 * k + 0)) iv _ _ (by omega) (by omega) (by rw [up_self]; exact TF.rf)
  · refine J.aload_n (q := 9) dX6_kindFor_8 rfl ?_ rfl
    refine J.iconst (q := 10) dX6_kindFor_9 ?_ rfl
    refine J.callV1i (ci := 6) (q := 13) dX6_kindFor_10 mv_X6_no kL_X6_125 rfl (by decide) rfl ⟨by decide, by decide⟩ (Nat.le_of_ble_eq_true rfl) ⟨by decide, by decide⟩ rfl (c_X6_no (by omega)) ?_
    refine J.ireturn dX6_kindFor_13 rfl ?_
    unfold an_kindFor
    (try rw [hi_61]); (try rw [hi_62]); (try rw [hi_63]); (try rw [hi_65]); (try rw [hi_70]); (try rw [hi_74]); (try rw [hi_75]); (try rw [hi_76])
    repeat (first | rw [if_pos (by omega)] | rw [if_neg (by omega)])
    first
    | exact mpTF TF.rf
    | exact mpTFb TF.rf
    | exact mpTF hTF
    | exact mpTFb hTF
    | (exfalso; omega)

