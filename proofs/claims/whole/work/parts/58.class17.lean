/-! the class: items of texts (printed by wip/whole/m_c17.py) -/
theorem Cn0 : Cw 0 = 4353053 := by decide +kernel
theorem Cn1 : Cw 1 = 110110744 := by decide +kernel
theorem Cn2 : Cw 2 = 40492 := by decide +kernel
theorem Cn3 : Cw 3 = 16922 := by decide +kernel
theorem Cn4 : Cw 4 = 291599792 := by decide +kernel
theorem Cn5 : Cw 5 = 10373925 := by decide +kernel
theorem Cn6 : Cw 6 = 110110480 := by decide +kernel
theorem Cn7 : Cw 7 = 383153 := by decide +kernel
theorem Cn8 : Cw 8 = 279109042 := by decide +kernel
theorem Cn9 : Cw 9 = 2896470 := by decide +kernel
theorem Cn10 : Cw 10 = 1371632 := by decide +kernel
theorem Cn11 : Cw 11 = 2895699227 := by decide +kernel
theorem Cn12 : Cw 12 = 47 := by decide +kernel
theorem Cn13 : Cw 13 = 8798 := by decide +kernel
theorem Cn14 : Cw 14 = 139055 := by decide +kernel
theorem Cn15 : Cw 15 = 8863997 := by decide +kernel
def kn (T : Int → Int) (z q : Int) : Int := if WdP T z q 5 then 0 else if WdP T z q 6 then 1 else if WdP T z q 7 then 2 else if WdP T z q 8 then 3 else if WdP T z q 9 then 4 else if WdP T z q 10 then 5 else if WdP T z q 11 then 6 else -1
def ko (T : Int → Int) (z q : Int) : Int := if WdP T z q 0 then 0 else if WdP T z q 1 then 1 else if WdP T z q 2 then 2 else if WdP T z q 3 then 3 else if WdP T z q 4 then 4 else -1
theorem kn_wd {T f : Int → Int} {z q : Int} (hf : ∀ j, 0 ≤ j → j < 56 → f j = g71 j) : wd f 7 T z q = kn T z q := by
  unfold wd kn
  by_cases h : tK T z q = 1
  · rw [if_pos h, whW_cg 7 (fun j j0 j1 => hf j j0 (by omega)), wh71]
    have k5 := Cn5
    have k6 := Cn6
    have k7 := Cn7
    have k8 := Cn8
    have k9 := Cn9
    have k10 := Cn10
    have k11 := Cn11
    have w9 : ∀ i, WdP T z q i ↔ Cw i = tV T z q := fun i => ⟨fun g => g.2.symm, fun g => ⟨h, g.symm⟩⟩
    simp only [w9]
    generalize tV T z q = v
    repeat' split
    all_goals omega
  · rw [if_neg h]
    simp [WdP, h]
theorem ko_wd {T f : Int → Int} {z q : Int} (hf : ∀ j, 0 ≤ j → j < 40 → f j = g73 j) : wd f 5 T z q = ko T z q := by
  unfold wd ko
  by_cases h : tK T z q = 1
  · rw [if_pos h, whW_cg 5 (fun j j0 j1 => hf j j0 (by omega)), wh73]
    have k0 := Cn0
    have k1 := Cn1
    have k2 := Cn2
    have k3 := Cn3
    have k4 := Cn4
    have w9 : ∀ i, WdP T z q i ↔ Cw i = tV T z q := fun i => ⟨fun g => g.2.symm, fun g => ⟨h, g.symm⟩⟩
    simp only [w9]
    generalize tV T z q = v
    repeat' split
    all_goals omega
  · rw [if_neg h]
    simp [WdP, h]
theorem wd72_iff {T f : Int → Int} {z q : Int} (hf : ∀ j, 0 ≤ j → j < 32 → f j = g72 j) : (wd f 4 T z q = 0 ↔ WdP T z q 12) ∧ (wd f 4 T z q = 1 ↔ WdP T z q 13) ∧ (wd f 4 T z q = 2 ↔ WdP T z q 14) ∧ (wd f 4 T z q = 3 ↔ WdP T z q 15) := by
  unfold wd WdP
  by_cases h : tK T z q = 1
  · rw [if_pos h, whW_cg 4 (fun j j0 j1 => hf j j0 (by omega)), wh72]
    have k12 := Cn12
    have k13 := Cn13
    have k14 := Cn14
    have k15 := Cn15
    generalize tV T z q = v
    by_cases e3 : Cw 15 = v
    · rw [if_pos e3]; refine ⟨?_, ?_, ?_, ?_⟩ <;> omega
    · rw [if_neg e3]
      by_cases e2 : Cw 14 = v
      · rw [if_pos e2]; refine ⟨?_, ?_, ?_, ?_⟩ <;> omega
      · rw [if_neg e2]
        by_cases e1 : Cw 13 = v
        · rw [if_pos e1]; refine ⟨?_, ?_, ?_, ?_⟩ <;> omega
        · rw [if_neg e1]
          by_cases e0 : Cw 12 = v
          · rw [if_pos e0]; refine ⟨?_, ?_, ?_, ?_⟩ <;> omega
          · rw [if_neg e0]; refine ⟨?_, ?_, ?_, ?_⟩ <;> omega
  · rw [if_neg h]; refine ⟨?_, ?_, ?_, ?_⟩ <;> omega
theorem ptV_r (T : Int → Int) (z q : Int) (i : Nat) {m d : Int} (hd : 0 ≤ d ∧ d ≤ m) : -1 ≤ ptV T z q i m d ∧ ptV T z q i m d ≤ m ∨ ptV T z q i m d = -1 := by
  have := tkN_rng T z (tE T z q) m
  unfold ptV
  split <;> omega
theorem stp {T WM σ : Int → Int} {z q k d : Int} {w : Int} {i : Nat} (hW : WM q = w ↔ WdP T z q i) (hd : σ (257 + 5 * k + (1 + w)) = d) (hd0 : 0 ≤ d) : stepP T z WM k w (true, σ, q) = if ptV T z q i (mostW w) d < 0 then (false, σ, ptQ T z q i (mostW w)) else (true, upr σ (257 + 5 * k + (1 + w)) (ptV T z q i (mostW w) d), ptQ T z q i (mostW w)) := by
  unfold stepP ptV ptQ
  dsimp only
  rw [if_pos rfl]
  by_cases h : WdP T z q i
  · rw [if_pos (hW.mpr h), if_pos h, if_pos h]
    unfold tkQ
    by_cases h2 : 0 ≤ tkN T z (tE T z q) (mostW w)
    · rw [if_pos h2, if_neg (by omega), if_pos h2]
    · rw [if_neg h2, if_pos (by omega), if_neg h2]
  · rw [if_neg (fun e => h (hW.mp e)), if_neg h, if_neg h, if_neg (by omega), ← hd, upr_self]
theorem stp_f {T WM : Int → Int} {z k w : Int} {X : Pst} (h : X.1 = false) : stepP T z WM k w X = X := by
  unfold stepP
  rw [if_neg (by rw [h]; decide)]
theorem stepP_Ms {s0 : Int → Int} {T WM : Int → Int} {z k : Int} {w : Nat} {X : Pst} (hk : 0 ≤ k ∧ k ≤ 7) (hw : w ≤ 3) (h : Ms s0 X.2.1) : Ms s0 (stepP T z WM k w X).2.1 := by
  have hr := tkN_rng T z (tE T z X.2.2) (mostW w)
  have hm : mostW (w : Int) = if (w : Int) = 1 then 7 else if (w : Int) = 3 then 99 else 80 := rfl
  unfold stepP
  split
  · split
    · split
      · rename_i h1 h2 h3
        show Ms s0 (upr X.2.1 _ _)
        have hm2 : ((w : Int) = 1 ∧ mostW (w : Int) = 7) ∨ ((w : Int) = 3 ∧ mostW (w : Int) = 99) ∨ (((w : Int) = 0 ∨ (w : Int) = 2) ∧ mostW (w : Int) = 80) := by
          rw [hm]
          split
          · omega
          · split <;> omega
        exact h.upd (by omega) (by omega) (by omega) (by omega) (fun c _ _ => ⟨by omega, by omega, by omega⟩) (fun i _ _ => ⟨by omega, by omega, by omega, by omega, by omega⟩) (by omega)
      · exact h
    · exact h
  · exact h
theorem rdIt_Ms {s0 : Int → Int} {T WL WM WO s : Int → Int} {z q : Int} (hL : WL q ≤ 6) (hO : WO q ≤ 4) (h : Ms s0 s) : Ms s0 (rdIt T z WL WM WO s q).2.1 := by
  have hm := h.1.many
  unfold rdIt
  split
  · unfold rdSn
    split
    · exact h
    · rename_i h0 h8
      have ha := addS_Ms (c := 0) h h8 ⟨h0, hL⟩ (by omega)
      have h1 := stepP_Ms (T := T) (z := z) (WM := WM) (k := s 2) (w := 0) (X := (true, addS s (WL q) 0, tE T z q)) (by omega) (by omega) ha
      have h2 := stepP_Ms (T := T) (z := z) (WM := WM) (k := s 2) (w := 1) (by omega) (by omega) h1
      have h3 := stepP_Ms (T := T) (z := z) (WM := WM) (k := s 2) (w := 2) (by omega) (by omega) h2
      exact stepP_Ms (T := T) (z := z) (WM := WM) (k := s 2) (w := 3) (by omega) (by omega) h3
  · split
    · exact h
    · have r1 := tkN_rng T z (tE T z q) (mostO (WO q))
      have r2 := tkN_rng T z (tE T z (tE T z q)) (mostU (WO q))
      have hmo : mostO (WO q) = if WO q < 2 then 80 else if WO q = 2 then 7 else if WO q = 3 then 9 else 20 := rfl
      have hmu : mostU (WO q) = if WO q = 1 then 9 else 255 := rfl
      have hcs : (WO q = 0 ∧ mostO (WO q) = 80) ∨ (WO q = 1 ∧ mostO (WO q) = 80 ∧ mostU (WO q) = 9) ∨ (WO q = 2 ∧ mostO (WO q) = 7 ∧ mostU (WO q) = 255) ∨ (WO q = 3 ∧ mostO (WO q) = 9) ∨ (WO q = 4 ∧ mostO (WO q) = 20) := by
        rw [hmo, hmu]
        rename_i g1 g2
        rcases (show WO q = 0 ∨ WO q = 1 ∨ WO q = 2 ∨ WO q = 3 ∨ WO q = 4 by omega) with e | e | e | e | e <;> rw [e] <;> simp
      unfold rdW
      split
      · exact h
      · split
        · split
          · exact h
          · show Ms s0 (upr s _ _)
            split
            · exact h.upd (by omega) (by omega) (by omega) (by omega) (fun c _ _ => ⟨by omega, by omega, by omega⟩) (fun i _ _ => ⟨by omega, by omega, by omega, by omega, by omega⟩) (by omega)
            · exact h.upd (by omega) (by omega) (by omega) (by omega) (fun c _ _ => ⟨by omega, by omega, by omega⟩) (fun i _ _ => ⟨by omega, by omega, by omega, by omega, by omega⟩) (by omega)
        · show Ms s0 (if WO q = 0 then _ else _)
          split
          · exact h.upd (by omega) (by omega) (by omega) (by omega) (fun c _ _ => ⟨by omega, by omega, by omega⟩) (fun i _ _ => ⟨by omega, by omega, by omega, by omega, by omega⟩) (by omega)
          · split
            · exact h.upd (by omega) (by omega) (by omega) (by omega) (fun c _ _ => ⟨by omega, by omega, by omega⟩) (fun i _ _ => ⟨by omega, by omega, by omega, by omega, by omega⟩) (by omega)
            · exact h.upd (by omega) (by omega) (by omega) (by omega) (fun c _ _ => ⟨by omega, by omega, by omega⟩) (fun i _ _ => ⟨by omega, by omega, by omega, by omega, by omega⟩) (by omega)
set_option maxRecDepth 100000 in
set_option maxHeartbeats 4000000 in
theorem c_X3_kindNamed {l : Launch} {F : Nat × (Int → Int)} {iv : Mm} {T : Int → Int} {z q : Int} {N : Nat} (hT : ∀ j, 0 ≤ j → j < 120 → iv 51 j = T j) (hb : ∀ j, 0 ≤ j → j < 120 → 0 ≤ T j ∧ T j ≤ 255) (hz : 0 ≤ z ∧ z ≤ 120) (hTA : TA iv T z N) (hN9 : 0 ≤ qn T z N ∧ qn T z N ≤ z) (hTS : TSt iv T z N q) : Ctr l F 5 0 0 yX3_kindNamed cX3_kindNamed 1 (some FieldType.int) [r_ 50] S0 (iv) (Ret (some (i_ (kn T z q))) S0 iv) := by
  refine Ctr.of false (fun h => by cases h) (by decide) rfl (Nat.le_of_ble_eq_true rfl) ?_
  refine J.aload_n (q := 1) dX3_kindNamed_0 rfl ?_ rfl
  refine J.ldcS (q := 3) (i := 5) dX3_kindNamed_1 (by decide) rfl rfl ?_ rfl
  refine J.callV1i (ci := 3) (q := 6) dX3_kindNamed_3 mv_X3_isWord kL_X3_96 rfl (by decide) rfl ⟨by decide, by decide⟩ (Nat.le_of_ble_eq_true rfl) ⟨by decide, by decide⟩ rfl (c_isWord hT hb hz hTA hN9 hTS (i := 5) (by decide)) ?_
  refine J.ifb_eq (tgt := 11) (q := 9) dX3_kindNamed_6 rfl rfl (fun c6 => ?_) (fun c6 => ?_)
  · refine J.aload_n (q := 12) dX3_kindNamed_11 rfl ?_ rfl
    refine J.ldcS (q := 14) (i := 6) dX3_kindNamed_12 (by decide) rfl rfl ?_ rfl
    refine J.callV1i (ci := 3) (q := 17) dX3_kindNamed_14 mv_X3_isWord kL_X3_96 rfl (by decide) rfl ⟨by decide, by decide⟩ (Nat.le_of_ble_eq_true rfl) ⟨by decide, by decide⟩ rfl (c_isWord hT hb hz hTA hN9 hTS (i := 6) (by decide)) ?_
    refine J.ifb_eq (tgt := 22) (q := 20) dX3_kindNamed_17 rfl rfl (fun c17 => ?_) (fun c17 => ?_)
    · refine J.aload_n (q := 23) dX3_kindNamed_22 rfl ?_ rfl
      refine J.ldcS (q := 25) (i := 7) dX3_kindNamed_23 (by decide) rfl rfl ?_ rfl
      refine J.callV1i (ci := 3) (q := 28) dX3_kindNamed_25 mv_X3_isWord kL_X3_96 rfl (by decide) rfl ⟨by decide, by decide⟩ (Nat.le_of_ble_eq_true rfl) ⟨by decide, by decide⟩ rfl (c_isWord hT hb hz hTA hN9 hTS (i := 7) (by decide)) ?_
      refine J.ifb_eq (tgt := 33) (q := 31) dX3_kindNamed_28 rfl rfl (fun c28 => ?_) (fun c28 => ?_)
      · refine J.aload_n (q := 34) dX3_kindNamed_33 rfl ?_ rfl
        refine J.ldcS (q := 36) (i := 8) dX3_kindNamed_34 (by decide) rfl rfl ?_ rfl
        refine J.callV1i (ci := 3) (q := 39) dX3_kindNamed_36 mv_X3_isWord kL_X3_96 rfl (by decide) rfl ⟨by decide, by decide⟩ (Nat.le_of_ble_eq_true rfl) ⟨by decide, by decide⟩ rfl (c_isWord hT hb hz hTA hN9 hTS (i := 8) (by decide)) ?_
        refine J.ifb_eq (tgt := 44) (q := 42) dX3_kindNamed_39 rfl rfl (fun c39 => ?_) (fun c39 => ?_)
        · refine J.aload_n (q := 45) dX3_kindNamed_44 rfl ?_ rfl
          refine J.ldcS (q := 47) (i := 9) dX3_kindNamed_45 (by decide) rfl rfl ?_ rfl
          refine J.callV1i (ci := 3) (q := 50) dX3_kindNamed_47 mv_X3_isWord kL_X3_96 rfl (by decide) rfl ⟨by decide, by decide⟩ (Nat.le_of_ble_eq_true rfl) ⟨by decide, by decide⟩ rfl (c_isWord hT hb hz hTA hN9 hTS (i := 9) (by decide)) ?_
          refine J.ifb_eq (tgt := 55) (q := 53) dX3_kindNamed_50 rfl rfl (fun c50 => ?_) (fun c50 => ?_)
          · refine J.aload_n (q := 56) dX3_kindNamed_55 rfl ?_ rfl
            refine J.ldcS (q := 58) (i := 10) dX3_kindNamed_56 (by decide) rfl rfl ?_ rfl
            refine J.callV1i (ci := 3) (q := 61) dX3_kindNamed_58 mv_X3_isWord kL_X3_96 rfl (by decide) rfl ⟨by decide, by decide⟩ (Nat.le_of_ble_eq_true rfl) ⟨by decide, by decide⟩ rfl (c_isWord hT hb hz hTA hN9 hTS (i := 10) (by decide)) ?_
            refine J.ifb_eq (tgt := 66) (q := 64) dX3_kindNamed_61 rfl rfl (fun c61 => ?_) (fun c61 => ?_)
            · refine J.aload_n (q := 67) dX3_kindNamed_66 rfl ?_ rfl
              refine J.ldcS (q := 69) (i := 11) dX3_kindNamed_67 (by decide) rfl rfl ?_ rfl
              refine J.callV1i (ci := 3) (q := 72) dX3_kindNamed_69 mv_X3_isWord kL_X3_96 rfl (by decide) rfl ⟨by decide, by decide⟩ (Nat.le_of_ble_eq_true rfl) ⟨by decide, by decide⟩ rfl (c_isWord hT hb hz hTA hN9 hTS (i := 11) (by decide)) ?_
              refine J.ifb_eq (tgt := 80) (q := 75) dX3_kindNamed_72 rfl rfl (fun c72 => ?_) (fun c72 => ?_)
              · refine J.iconst (q := 81) dX3_kindNamed_80 ?_ rfl
                refine J.ireturn dX3_kindNamed_81 rfl ?_
                unfold kn
                first
                | (rw [if_pos c6]; exact ⟨rfl, rfl, rfl⟩)
                | (rw [if_neg c6, if_pos c17]; exact ⟨rfl, rfl, rfl⟩)
                | (rw [if_neg c6, if_neg c17, if_pos c28]; exact ⟨rfl, rfl, rfl⟩)
                | (rw [if_neg c6, if_neg c17, if_neg c28, if_pos c39]; exact ⟨rfl, rfl, rfl⟩)
                | (rw [if_neg c6, if_neg c17, if_neg c28, if_neg c39, if_pos c50]; exact ⟨rfl, rfl, rfl⟩)
                | (rw [if_neg c6, if_neg c17, if_neg c28, if_neg c39, if_neg c50, if_pos c61]; exact ⟨rfl, rfl, rfl⟩)
                | (rw [if_neg c6, if_neg c17, if_neg c28, if_neg c39, if_neg c50, if_neg c61, if_pos c72]; exact ⟨rfl, rfl, rfl⟩)
                | (rw [if_neg c6, if_neg c17, if_neg c28, if_neg c39, if_neg c50, if_neg c61, if_neg c72]; exact ⟨rfl, rfl, rfl⟩)
                | (exfalso; omega)
              · refine J.bipush (q := 77) dX3_kindNamed_75 (by decide) ?_ rfl
                refine J.goto (tgt := 81) dX3_kindNamed_77 rfl ?_
                refine J.ireturn dX3_kindNamed_81 rfl ?_
                unfold kn
                first
                | (rw [if_pos c6]; exact ⟨rfl, rfl, rfl⟩)
                | (rw [if_neg c6, if_pos c17]; exact ⟨rfl, rfl, rfl⟩)
                | (rw [if_neg c6, if_neg c17, if_pos c28]; exact ⟨rfl, rfl, rfl⟩)
                | (rw [if_neg c6, if_neg c17, if_neg c28, if_pos c39]; exact ⟨rfl, rfl, rfl⟩)
                | (rw [if_neg c6, if_neg c17, if_neg c28, if_neg c39, if_pos c50]; exact ⟨rfl, rfl, rfl⟩)
                | (rw [if_neg c6, if_neg c17, if_neg c28, if_neg c39, if_neg c50, if_pos c61]; exact ⟨rfl, rfl, rfl⟩)
                | (rw [if_neg c6, if_neg c17, if_neg c28, if_neg c39, if_neg c50, if_neg c61, if_pos c72]; exact ⟨rfl, rfl, rfl⟩)
                | (rw [if_neg c6, if_neg c17, if_neg c28, if_neg c39, if_neg c50, if_neg c61, if_neg c72]; exact ⟨rfl, rfl, rfl⟩)
                | (exfalso; omega)
            · refine J.iconst (q := 65) dX3_kindNamed_64 ?_ rfl
              refine J.ireturn dX3_kindNamed_65 rfl ?_
              unfold kn
              first
              | (rw [if_pos c6]; exact ⟨rfl, rfl, rfl⟩)
              | (rw [if_neg c6, if_pos c17]; exact ⟨rfl, rfl, rfl⟩)
              | (rw [if_neg c6, if_neg c17, if_pos c28]; exact ⟨rfl, rfl, rfl⟩)
              | (rw [if_neg c6, if_neg c17, if_neg c28, if_pos c39]; exact ⟨rfl, rfl, rfl⟩)
              | (rw [if_neg c6, if_neg c17, if_neg c28, if_neg c39, if_pos c50]; exact ⟨rfl, rfl, rfl⟩)
              | (rw [if_neg c6, if_neg c17, if_neg c28, if_neg c39, if_neg c50, if_pos c61]; exact ⟨rfl, rfl, rfl⟩)
              | (rw [if_neg c6, if_neg c17, if_neg c28, if_neg c39, if_neg c50, if_neg c61, if_pos c72]; exact ⟨rfl, rfl, rfl⟩)
              | (rw [if_neg c6, if_neg c17, if_neg c28, if_neg c39, if_neg c50, if_neg c61, if_neg c72]; exact ⟨rfl, rfl, rfl⟩)
              | (exfalso; omega)
          · refine J.iconst (q := 54) dX3_kindNamed_53 ?_ rfl
            refine J.ireturn dX3_kindNamed_54 rfl ?_
            unfold kn
            first
            | (rw [if_pos c6]; exact ⟨rfl, rfl, rfl⟩)
            | (rw [if_neg c6, if_pos c17]; exact ⟨rfl, rfl, rfl⟩)
            | (rw [if_neg c6, if_neg c17, if_pos c28]; exact ⟨rfl, rfl, rfl⟩)
            | (rw [if_neg c6, if_neg c17, if_neg c28, if_pos c39]; exact ⟨rfl, rfl, rfl⟩)
            | (rw [if_neg c6, if_neg c17, if_neg c28, if_neg c39, if_pos c50]; exact ⟨rfl, rfl, rfl⟩)
            | (rw [if_neg c6, if_neg c17, if_neg c28, if_neg c39, if_neg c50, if_pos c61]; exact ⟨rfl, rfl, rfl⟩)
            | (rw [if_neg c6, if_neg c17, if_neg c28, if_neg c39, if_neg c50, if_neg c61, if_pos c72]; exact ⟨rfl, rfl, rfl⟩)
            | (rw [if_neg c6, if_neg c17, if_neg c28, if_neg c39, if_neg c50, if_neg c61, if_neg c72]; exact ⟨rfl, rfl, rfl⟩)
            | (exfalso; omega)
        · refine J.iconst (q := 43) dX3_kindNamed_42 ?_ rfl
          refine J.ireturn dX3_kindNamed_43 rfl ?_
          unfold kn
          first
          | (rw [if_pos c6]; exact ⟨rfl, rfl, rfl⟩)
          | (rw [if_neg c6, if_pos c17]; exact ⟨rfl, rfl, rfl⟩)
          | (rw [if_neg c6, if_neg c17, if_pos c28]; exact ⟨rfl, rfl, rfl⟩)
          | (rw [if_neg c6, if_neg c17, if_neg c28, if_pos c39]; exact ⟨rfl, rfl, rfl⟩)
          | (rw [if_neg c6, if_neg c17, if_neg c28, if_neg c39, if_pos c50]; exact ⟨rfl, rfl, rfl⟩)
          | (rw [if_neg c6, if_neg c17, if_neg c28, if_neg c39, if_neg c50, if_pos c61]; exact ⟨rfl, rfl, rfl⟩)
          | (rw [if_neg c6, if_neg c17, if_neg c28, if_neg c39, if_neg c50, if_neg c61, if_pos c72]; exact ⟨rfl, rfl, rfl⟩)
          | (rw [if_neg c6, if_neg c17, if_neg c28, if_neg c39, if_neg c50, if_neg c61, if_neg c72]; exact ⟨rfl, rfl, rfl⟩)
          | (exfalso; omega)
      · refine J.iconst (q := 32) dX3_kindNamed_31 ?_ rfl
        refine J.ireturn dX3_kindNamed_32 rfl ?_
        unfold kn
        first
        | (rw [if_pos c6]; exact ⟨rfl, rfl, rfl⟩)
        | (rw [if_neg c6, if_pos c17]; exact ⟨rfl, rfl, rfl⟩)
        | (rw [if_neg c6, if_neg c17, if_pos c28]; exact ⟨rfl, rfl, rfl⟩)
        | (rw [if_neg c6, if_neg c17, if_neg c28, if_pos c39]; exact ⟨rfl, rfl, rfl⟩)
        | (rw [if_neg c6, if_neg c17, if_neg c28, if_neg c39, if_pos c50]; exact ⟨rfl, rfl, rfl⟩)
        | (rw [if_neg c6, if_neg c17, if_neg c28, if_neg c39, if_neg c50, if_pos c61]; exact ⟨rfl, rfl, rfl⟩)
        | (rw [if_neg c6, if_neg c17, if_neg c28, if_neg c39, if_neg c50, if_neg c61, if_pos c72]; exact ⟨rfl, rfl, rfl⟩)
        | (rw [if_neg c6, if_neg c17, if_neg c28, if_neg c39, if_neg c50, if_neg c61, if_neg c72]; exact ⟨rfl, rfl, rfl⟩)
        | (exfalso; omega)
    · refine J.iconst (q := 21) dX3_kindNamed_20 ?_ rfl
      refine J.ireturn dX3_kindNamed_21 rfl ?_
      unfold kn
      first
      | (rw [if_pos c6]; exact ⟨rfl, rfl, rfl⟩)
      | (rw [if_neg c6, if_pos c17]; exact ⟨rfl, rfl, rfl⟩)
      | (rw [if_neg c6, if_neg c17, if_pos c28]; exact ⟨rfl, rfl, rfl⟩)
      | (rw [if_neg c6, if_neg c17, if_neg c28, if_pos c39]; exact ⟨rfl, rfl, rfl⟩)
      | (rw [if_neg c6, if_neg c17, if_neg c28, if_neg c39, if_pos c50]; exact ⟨rfl, rfl, rfl⟩)
      | (rw [if_neg c6, if_neg c17, if_neg c28, if_neg c39, if_neg c50, if_pos c61]; exact ⟨rfl, rfl, rfl⟩)
      | (rw [if_neg c6, if_neg c17, if_neg c28, if_neg c39, if_neg c50, if_neg c61, if_pos c72]; exact ⟨rfl, rfl, rfl⟩)
      | (rw [if_neg c6, if_neg c17, if_neg c28, if_neg c39, if_neg c50, if_neg c61, if_neg c72]; exact ⟨rfl, rfl, rfl⟩)
      | (exfalso; omega)
  · refine J.iconst (q := 10) dX3_kindNamed_9 ?_ rfl
    refine J.ireturn dX3_kindNamed_10 rfl ?_
    unfold kn
    first
    | (rw [if_pos c6]; exact ⟨rfl, rfl, rfl⟩)
    | (rw [if_neg c6, if_pos c17]; exact ⟨rfl, rfl, rfl⟩)
    | (rw [if_neg c6, if_neg c17, if_pos c28]; exact ⟨rfl, rfl, rfl⟩)
    | (rw [if_neg c6, if_neg c17, if_neg c28, if_pos c39]; exact ⟨rfl, rfl, rfl⟩)
    | (rw [if_neg c6, if_neg c17, if_neg c28, if_neg c39, if_pos c50]; exact ⟨rfl, rfl, rfl⟩)
    | (rw [if_neg c6, if_neg c17, if_neg c28, if_neg c39, if_neg c50, if_pos c61]; exact ⟨rfl, rfl, rfl⟩)
    | (rw [if_neg c6, if_neg c17, if_neg c28, if_neg c39, if_neg c50, if_neg c61, if_pos c72]; exact ⟨rfl, rfl, rfl⟩)
    | (rw [if_neg c6, if_neg c17, if_neg c28, if_neg c39, if_neg c50, if_neg c61, if_neg c72]; exact ⟨rfl, rfl, rfl⟩)
    | (exfalso; omega)

