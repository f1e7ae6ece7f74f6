/-! the reference: texts (printed by wip/whole/m_model22.py) -/
theorem stepP_q {T : Int → Int} {z : Int} {WM : Int → Int} {k w : Int} {X : Pst} (h : X.2.2 ≤ z) : X.2.2 ≤ (stepP T z WM k w X).2.2 ∧ (stepP T z WM k w X).2.2 ≤ z := by
  have h1 := tB_rng (T := T) h
  have h2 := tE_rng (T := T) h
  have h3 := tB_rng (T := T) h2.2.1
  have h4 := tE_rng (T := T) h2.2.1
  unfold stepP
  repeat' split
  all_goals (try dsimp only) <;> omega
theorem partsP_q {T : Int → Int} {z : Int} {WM : Int → Int} {k : Int} {X : Pst} (h : X.2.2 ≤ z) : ∀ n : Nat, X.2.2 ≤ (partsP T z WM k n X).2.2 ∧ (partsP T z WM k n X).2.2 ≤ z
  | 0 => ⟨Int.le_refl _, h⟩
  | n + 1 => by
    have h1 := partsP_q h (WM := WM) (k := k) (T := T) n
    have h2 := stepP_q (T := T) (WM := WM) (k := k) (w := n) h1.2
    rw [partsP]
    omega
theorem rdIt_q {T : Int → Int} {z : Int} {WL WM WO : Int → Int} {s : Int → Int} {q : Int} (h : q ≤ z) : q ≤ (rdIt T z WL WM WO s q).2.2 ∧ (rdIt T z WL WM WO s q).2.2 ≤ z := by
  have h1 := tB_rng (T := T) h
  have h2 := tE_rng (T := T) h
  have h3 := tB_rng (T := T) h2.2.1
  have h4 := tE_rng (T := T) h2.2.1
  have h5 := tB_rng (T := T) h4.2.1
  have h6 := tE_rng (T := T) h4.2.1
  have h7 := fun X0 : Pst => fun e : X0.2.2 = tE T z q => partsP_q (T := T) (z := z) (WM := WM) (k := s 2) (X := X0) (by rw [e]; exact h2.2.1) 4
  unfold rdIt rdSn rdW
  repeat' split
  all_goals first
    | (dsimp only; omega)
    | (have := h7 (true, addS s (WL q) 0, tE T z q) rfl; dsimp only at this ⊢; omega)
def txL (T : Int → Int) (z : Int) (WL WM WO : Int → Int) : Nat → Int → Pst → Int × Pst
  | 0, m, X => (m, X)
  | f + 1, m, X => if X.1 = true ∧ tK T z X.2.2 = 3 then txL T z WL WM WO f (m + 1) (rdIt T z WL WM WO X.2.1 (tE T z X.2.2)) else (m, X)
theorem txL_stop {T : Int → Int} {z : Int} {WL WM WO : Int → Int} {m : Int} {X : Pst} (h : ¬ (X.1 = true ∧ tK T z X.2.2 = 3)) : ∀ f : Nat, txL T z WL WM WO f m X = (m, X)
  | 0 => rfl
  | f + 1 => by rw [txL, if_neg h]
abbrev txG (T : Int → Int) (z : Int) (Y : Int × Pst) : Prop := Y.2.1 = true ∧ tK T z Y.2.2.2 = 0
def txT (T : Int → Int) (z : Int) (WL WM WO : Int → Int) (s : Int → Int) : Int × Pst := txL T z WL WM WO 121 1 (rdIt T z WL WM WO s 0)
def txA (A : Mm) : Int × Pst := txT (A 70) (A 61 10) (wd (A 71) 7 (A 70) (A 61 10)) (wd (A 72) 4 (A 70) (A 61 10)) (wd (A 73) 5 (A 70) (A 61 10)) (A 62)
def an_text (A : Mm) : Int × Mm := if txG (A 70) (A 61 10) (txA A) then ((txA A).1, setr (setr A 62 (txA A).2.2.1) 61 (upr (A 61) 10 0)) else (-1 - tB (A 70) (A 61 10) (txA A).2.2.2, setr A 61 (upr (A 61) 10 0))
set_option maxRecDepth 100000 in
set_option maxHeartbeats 4000000 in
theorem text_loop {l : Launch} {F : Nat × (Int → Int)} {iv0 : Mm} {s0 : Int → Int} {Y : Int × Pst} (hA : AI iv0) (h71 : Alph (iv0 71) 56) (h72 : Alph (iv0 72) 32) (h73 : Alph (iv0 73) 40) (h64 : ∀ j, 0 ≤ j → j < 307 → iv0 64 j = s0 j) : ∀ (n : Nat) (f : Nat) (m : Int) (X : Pst) (iv1 : Mm), (iv0 61 10 - X.2.2 < n) → (iv0 61 10 - X.2.2 < f) → (Rd iv0 iv1 X.2.1 X.2.2) → (Ms s0 X.2.1) → (txL (iv0 70) (iv0 61 10) (wd (iv0 71) 7 (iv0 70) (iv0 61 10)) (wd (iv0 72) 4 (iv0 70) (iv0 61 10)) (wd (iv0 73) 5 (iv0 70) (iv0 61 10)) f m X = Y) → J l (yX6_text).cls cX6_text 3 (some FieldType.int) 6 0 0 false F (fun v S iv2 => v = some (i_ (if txG (iv0 70) (iv0 61 10) Y then Y.1 else -1 - tB (iv0 70) (iv0 61 10) Y.2.2.2)) ∧ S = S0 ∧ (∀ p, p ≠ 61 → p ≠ 62 → iv2 p = iv0 p) ∧ (iv2 62 = if txG (iv0 70) (iv0 61 10) Y then Y.2.2.1 else s0) ∧ iv2 61 10 = 0 ∧ iv2 61 3 = iv0 61 3) 0 0 20 [some (r_ 61), some (i_ m), some (i_ (b2 (X.1 = true)))] [] S0 (iv1) := by
  intro n
  induction n with
  | zero =>
    intro f m X iv1 hn hf hR hs hL
    have h1 := hR.2.2.2.1
    have h2 := hR.e10
    omega
  | succ n ih =>
    intro f m X iv1 hn hf hR hs hL
    have hA1 := hR.ai hA hs.1
    have ht := hR.2.2.2
    have hq := ht.1
    rw [hR.e10] at hq
    have ek : iv1 61 11 = tK (iv0 70) (iv0 61 10) X.2.2 := by rw [ht.2.2.2.1, hR.e70, hR.e10]
    have eb : iv1 61 12 = tB (iv0 70) (iv0 61 10) X.2.2 := by rw [ht.2.1, hR.e70, hR.e10]
    have hkr := tK_rng (iv0 70) (iv0 61 10) X.2.2
    have hbr := tB_rng (T := iv0 70) hq.2
    have heq := tE_rng (T := iv0 70) hq.2
    refine J.iload_n (q := 21) dX6_text_20 rfl ?_ rfl
    refine J.ifb_eq (tgt := 47) (q := 24) dX6_text_21 rfl rfl (fun c21 => ?_) (fun c21 => ?_)
    · have hY := txL_stop (T := iv0 70) (z := iv0 61 10) (WL := wd (iv0 71) 7 (iv0 70) (iv0 61 10)) (WM := wd (iv0 72) 4 (iv0 70) (iv0 61 10)) (WO := wd (iv0 73) 5 (iv0 70) (iv0 61 10)) (m := m) (X := X) (fun h => c21 h.1) f
      rw [hY] at hL
      refine J.iload_n (q := 48) dX6_text_47 rfl ?_ rfl
      refine J.ifb_eq (tgt := 62) (q := 51) dX6_text_48 rfl rfl (fun c48 => ?_) (fun c48 => ?_)
      · refine J.iconst (q := 63) dX6_text_62 ?_ rfl
        refine J.istore_n (q := 64) dX6_text_63 (Nat.le_of_ble_eq_true rfl) ?_ rfl
        refine J.aload_n (q := 65) dX6_text_64 rfl ?_ rfl
        refine J.iconst (q := 66) dX6_text_65 ?_ rfl
        refine J.putI (ci := 6) (k0 := 10) (kz := 10) (q := 69) dX6_text_66 kF_X6_195 rfl (by decide) (by decide) rfl rfl rfl ?_ rfl
        refine J.iload_n (q := 70) dX6_text_69 rfl ?_ rfl
        refine J.if_ne (tgt := 84) (q := 73) dX6_text_70 rfl rfl (fun c70 => ?_) (fun c70 => ?_)
        · refine J.iload_n (q := 85) dX6_text_84 rfl ?_ rfl
          refine J.ireturn dX6_text_85 rfl ?_
          subst hL
          first
          | (have hG : txG (iv0 70) (iv0 61 10) (m, X) := ⟨by assumption, by rw [← ek]; omega⟩
             rw [if_pos hG, if_pos hG]
             exact ⟨rfl, rfl, fun p h1 h2 => (up_n _ _ _ h1).trans (hR.1 p h1 h2), (up_n _ _ _ (by decide)).trans hR.2.2.1, by rw [up_s, upr_s], by rw [up_s, upr_n _ _ (by decide)]; exact hR.2.1 3 (by omega)⟩)
          | (have hG : ¬ txG (iv0 70) (iv0 61 10) (m, X) := fun h => by first | exact absurd h.1 (by assumption) | (have := h.2; rw [← ek] at this; contradiction)
             rw [if_neg hG, if_neg hG]
             refine ⟨?_, rfl, fun p h1 h2 => ?_, e62, ?_, ?_⟩
             · rw [hl9 61 (by decide), up_s, upr_n _ _ (by decide), eb]
             · rw [hl9 p h2, up_n _ _ _ h1]; exact hR.1 p h1 h2
             · rw [hl9 61 (by decide), up_s, upr_s]
             · rw [hl9 61 (by decide), up_s, upr_n _ _ (by decide)]; exact hR.2.1 3 (by omega))
          | (exfalso; omega)
          | (exact absurd (by assumption) c21)
        · refine J.aload_n (q := 74) dX6_text_73 rfl ?_ rfl
          refine J.callV0 (ci := 6) (q := 77) dX6_text_74 mv_X6_laysBack kL_X6_158 rfl (by decide) rfl ⟨by decide, by decide⟩ (Nat.le_of_ble_eq_true rfl) ⟨by decide, by decide⟩ rfl (c_X6_laysBack) (fun v7 S7 iv7 hp => ?_)
          obtain ⟨rfl, rfl, hl9, hli, hlo⟩ := hp
          have e62 : iv7 62 = s0 := by
            funext j
            by_cases hj : 0 ≤ j ∧ j < 307
            · rw [hli j hj.1 hj.2, up_n _ _ _ (by decide), hR.1 64 (by decide) (by decide), h64 j hj.1 hj.2]
            · rw [hlo j (by omega), up_n _ _ _ (by decide), hR.2.2.1, hs.2 j (by omega)]
          refine J.iconst (q := 78) dX6_text_77 ?_ rfl
          refine J.aload_n (q := 79) dX6_text_78 rfl ?_ rfl
          refine J.getI (ci := 6) (k0 := 12) (kz := 12) (q := 82) dX6_text_79 kF_X6_202 rfl (by decide) (by decide) rfl (.inl rfl) ?_ rfl
          refine J.isub (q := 83) dX6_text_82 ?_ rfl
          refine J.ireturn dX6_text_83 rfl ?_
          subst hL
          first
          | (have hG : txG (iv0 70) (iv0 61 10) (m, X) := ⟨by assumption, by rw [← ek]; omega⟩
             rw [if_pos hG, if_pos hG]
             exact ⟨rfl, rfl, fun p h1 h2 => (up_n _ _ _ h1).trans (hR.1 p h1 h2), (up_n _ _ _ (by decide)).trans hR.2.2.1, by rw [up_s, upr_s], by rw [up_s, upr_n _ _ (by decide)]; exact hR.2.1 3 (by omega)⟩)
          | (have hG : ¬ txG (iv0 70) (iv0 61 10) (m, X) := fun h => by first | exact absurd h.1 (by assumption) | (have := h.2; rw [← ek] at this; contradiction)
             rw [if_neg hG, if_neg hG]
             refine ⟨?_, rfl, fun p h1 h2 => ?_, e62, ?_, ?_⟩
             · rw [hl9 61 (by decide), up_s, upr_n _ _ (by decide), eb]
             · rw [hl9 p h2, up_n _ _ _ h1]; exact hR.1 p h1 h2
             · rw [hl9 61 (by decide), up_s, upr_s]
             · rw [hl9 61 (by decide), up_s, upr_n _ _ (by decide)]; exact hR.2.1 3 (by omega))
          | (exfalso; omega)
          | (exact absurd (by assumption) c21)
      · refine J.aload_n (q := 52) dX6_text_51 rfl ?_ rfl
        refine J.getI (ci := 6) (k0 := 11) (kz := 11) (q := 55) dX6_text_52 kF_X6_209 rfl (by decide) (by decide) rfl (.inl rfl) ?_ rfl
        refine J.if_ne (tgt := 62) (q := 58) (hv := by omega) dX6_text_55 rfl rfl (fun c55 => ?_) (fun c55 => ?_)
        · refine J.iconst (q := 63) dX6_text_62 ?_ rfl
          refine J.istore_n (q := 64) dX6_text_63 (Nat.le_of_ble_eq_true rfl) ?_ rfl
          refine J.aload_n (q := 65) dX6_text_64 rfl ?_ rfl
          refine J.iconst (q := 66) dX6_text_65 ?_ rfl
          refine J.putI (ci := 6) (k0 := 10) (kz := 10) (q := 69) dX6_text_66 kF_X6_195 rfl (by decide) (by decide) rfl rfl rfl ?_ rfl
          refine J.iload_n (q := 70) dX6_text_69 rfl ?_ rfl
          refine J.if_ne (tgt := 84) (q := 73) dX6_text_70 rfl rfl (fun c70 => ?_) (fun c70 => ?_)
          · refine J.iload_n (q := 85) dX6_text_84 rfl ?_ rfl
            refine J.ireturn dX6_text_85 rfl ?_
            subst hL
            first
            | (have hG : txG (iv0 70) (iv0 61 10) (m, X) := ⟨by assumption, by rw [← ek]; omega⟩
               rw [if_pos hG, if_pos hG]
               exact ⟨rfl, rfl, fun p h1 h2 => (up_n _ _ _ h1).trans (hR.1 p h1 h2), (up_n _ _ _ (by decide)).trans hR.2.2.1, by rw [up_s, upr_s], by rw [up_s, upr_n _ _ (by decide)]; exact hR.2.1 3 (by omega)⟩)
            | (have hG : ¬ txG (iv0 70) (iv0 61 10) (m, X) := fun h => by first | exact absurd h.1 (by assumption) | (have := h.2; rw [← ek] at this; contradiction)
               rw [if_neg hG, if_neg hG]
               refine ⟨?_, rfl, fun p h1 h2 => ?_, e62, ?_, ?_⟩
               · rw [hl9 61 (by decide), up_s, upr_n _ _ (by decide), eb]
               · rw [hl9 p h2, up_n _ _ _ h1]; exact hR.1 p h1 h2
               · rw [hl9 61 (by decide), up_s, upr_s]
               · rw [hl9 61 (by decide), up_s, upr_n _ _ (by decide)]; exact hR.2.1 3 (by omega))
            | (exfalso; omega)
            | (exact absurd (by assumption) c21)
          · refine J.aload_n (q := 74) dX6_text_73 rfl ?_ rfl
            refine J.callV0 (ci := 6) (q := 77) dX6_text_74 mv_X6_laysBack kL_X6_158 rfl (by decide) rfl ⟨by decide, by decide⟩ (Nat.le_of_ble_eq_true rfl) ⟨by decide, by decide⟩ rfl (c_X6_laysBack) (fun v7 S7 iv7 hp => ?_)
            obtain ⟨rfl, rfl, hl9, hli, hlo⟩ := hp
            have e62 : iv7 62 = s0 := by
              funext j
              by_cases hj : 0 ≤ j ∧ j < 307
              · rw [hli j hj.1 hj.2, up_n _ _ _ (by decide), hR.1 64 (by decide) (by decide), h64 j hj.1 hj.2]
              · rw [hlo j (by omega), up_n _ _ _ (by decide), hR.2.2.1, hs.2 j (by omega)]
            refine J.iconst (q := 78) dX6_text_77 ?_ rfl
            refine J.aload_n (q := 79) dX6_text_78 rfl ?_ rfl
            refine J.getI (ci := 6) (k0 := 12) (kz := 12) (q := 82) dX6_text_79 kF_X6_202 rfl (by decide) (by decide) rfl (.inl rfl) ?_ rfl
            refine J.isub (q := 83) dX6_text_82 ?_ rfl
            refine J.ireturn dX6_text_83 rfl ?_
            subst hL
            first
            | (have hG : txG (iv0 70) (iv0 61 10) (m, X) := ⟨by assumption, by rw [← ek]; omega⟩
               rw [if_pos hG, if_pos hG]
               exact ⟨rfl, rfl, fun p h1 h2 => (up_n _ _ _ h1).trans (hR.1 p h1 h2), (up_n _ _ _ (by decide)).trans hR.2.2.1, by rw [up_s, upr_s], by rw [up_s, upr_n _ _ (by decide)]; exact hR.2.1 3 (by omega)⟩)
            | (have hG : ¬ txG (iv0 70) (iv0 61 10) (m, X) := fun h => by first | exact absurd h.1 (by assumption) | (have := h.2; rw [← ek] at this; contradiction)
               rw [if_neg hG, if_neg hG]
               refine ⟨?_, rfl, fun p h1 h2 => ?_, e62, ?_, ?_⟩
               · rw [hl9 61 (by decide), up_s, upr_n _ _ (by decide), eb]
               · rw [hl9 p h2, up_n _ _ _ h1]; exact hR.1 p h1 h2
               · rw [hl9 61 (by decide), up_s, upr_s]
               · rw [hl9 61 (by decide), up_s, upr_n _ _ (by decide)]; exact hR.2.1 3 (by omega))
            | (exfalso; omega)
            | (exact absurd (by assumption) c21)
        · refine J.iconst (q := 59) dX6_text_58 ?_ rfl
          refine J.goto (tgt := 63) dX6_text_59 rfl ?_
          refine J.istore_n (q := 64) dX6_text_63 (Nat.le_of_ble_eq_true rfl) ?_ rfl
          refine J.aload_n (q := 65) dX6_text_64 rfl ?_ rfl
          refine J.iconst (q := 66) dX6_text_65 ?_ rfl
          refine J.putI (ci := 6) (k0 := 10) (kz := 10) (q := 69) dX6_text_66 kF_X6_195 rfl (by decide) (by decide) rfl rfl rfl ?_ rfl
          refine J.iload_n (q := 70) dX6_text_69 rfl ?_ rfl
          refine J.if_ne (tgt := 84) (q := 73) dX6_text_70 rfl rfl (fun c70 => ?_) (fun c70 => ?_)
          · refine J.iload_n (q := 85) dX6_text_84 rfl ?_ rfl
            refine J.ireturn dX6_text_85 rfl ?_
            subst hL
            first
            | (have hG : txG (iv0 70) (iv0 61 10) (m, X) := ⟨by assumption, by rw [← ek]; omega⟩
               rw [if_pos hG, if_pos hG]
               exact ⟨rfl, rfl, fun p h1 h2 => (up_n _ _ _ h1).trans (hR.1 p h1 h2), (up_n _ _ _ (by decide)).trans hR.2.2.1, by rw [up_s, upr_s], by rw [up_s, upr_n _ _ (by decide)]; exact hR.2.1 3 (by omega)⟩)
            | (have hG : ¬ txG (iv0 70) (iv0 61 10) (m, X) := fun h => by first | exact absurd h.1 (by assumption) | (have := h.2; rw [← ek] at this; contradiction)
               rw [if_neg hG, if_neg hG]
               refine ⟨?_, rfl, fun p h1 h2 => ?_, e62, ?_, ?_⟩
               · rw [hl9 61 (by decide), up_s, upr_n _ _ (by decide), eb]
               · rw [hl9 p h2, up_n _ _ _ h1]; exact hR.1 p h1 h2
               · rw [hl9 61 (by decide), up_s, upr_s]
               · rw [hl9 61 (by decide), up_s, upr_n _ _ (by decide)]; exact hR.2.1 3 (by omega))
            | (exfalso; omega)
            | (exact absurd (by assumption) c21)
          · refine J.aload_n (q := 74) dX6_text_73 rfl ?_ rfl
            refine J.callV0 (ci := 6) (q := 77) dX6_text_74 mv_X6_laysBack kL_X6_158 rfl (by decide) rfl ⟨by decide, by decide⟩ (Nat.le_of_ble_eq_true rfl) ⟨by decide, by decide⟩ rfl (c_X6_laysBack) (fun v7 S7 iv7 hp => ?_)
            obtain ⟨rfl, rfl, hl9, hli, hlo⟩ := hp
            have e62 : iv7 62 = s0 := by
              funext j
              by_cases hj : 0 ≤ j ∧ j < 307
              · rw [hli j hj.1 hj.2, up_n _ _ _ (by decide), hR.1 64 (by decide) (by decide), h64 j hj.1 hj.2]
              · rw [hlo j (by omega), up_n _ _ _ (by decide), hR.2.2.1, hs.2 j (by omega)]
            refine J.iconst (q := 78) dX6_text_77 ?_ rfl
            refine J.aload_n (q := 79) dX6_text_78 rfl ?_ rfl
            refine J.getI (ci := 6) (k0 := 12) (kz := 12) (q := 82) dX6_text_79 kF_X6_202 rfl (by decide) (by decide) rfl (.inl rfl) ?_ rfl
            refine J.isub (q := 83) dX6_text_82 ?_ rfl
            refine J.ireturn dX6_text_83 rfl ?_
            subst hL
            first
            | (have hG : txG (iv0 70) (iv0 61 10) (m, X) := ⟨by assumption, by rw [← ek]; omega⟩
               rw [if_pos hG, if_pos hG]
               exact ⟨rfl, rfl, fun p h1 h2 => (up_n _ _ _ h1).trans (hR.1 p h1 h2), (up_n _ _ _ (by decide)).trans hR.2.2.1, by rw [up_s, upr_s], by rw [up_s, upr_n _ _ (by decide)]; exact hR.2.1 3 (by omega)⟩)
            | (have hG : ¬ txG (iv0 70) (iv0 61 10) (m, X) := fun h => by first | exact absurd h.1 (by assumption) | (have := h.2; rw [← ek] at this; contradiction)
               rw [if_neg hG, if_neg hG]
               refine ⟨?_, rfl, fun p h1 h2 => ?_, e62, ?_, ?_⟩
               · rw [hl9 61 (by decide), up_s, upr_n _ _ (by decide), eb]
               · rw [hl9 p h2, up_n _ _ _ h1]; exact hR.1 p h1 h2
               · rw [hl9 61 (by decide), up_s, upr_s]
               · rw [hl9 61 (by decide), up_s, upr_n _ _ (by decide)]; exact hR.2.1 3 (by omega))
            | (exfalso; omega)
            | (exact absurd (by assumption) c21)
    · refine J.aload_n (q := 25) dX6_text_24 rfl ?_ rfl
      refine J.getI (ci := 6) (k0 := 11) (kz := 11) (q := 28) dX6_text_25 kF_X6_209 rfl (by decide) (by decide) rfl (.inl rfl) ?_ rfl
      refine J.iconst (q := 29) dX6_text_28 ?_ rfl
      refine J.icmp_ne (tgt := 47) (q := 32) (hv := by omega) dX6_text_29 rfl rfl (fun c29 => ?_) (fun c29 => ?_)
      · have hY := txL_stop (T := iv0 70) (z := iv0 61 10) (WL := wd (iv0 71) 7 (iv0 70) (iv0 61 10)) (WM := wd (iv0 72) 4 (iv0 70) (iv0 61 10)) (WO := wd (iv0 73) 5 (iv0 70) (iv0 61 10)) (m := m) (X := X) (fun h => c29 (ek.trans h.2)) f
        rw [hY] at hL
        refine J.iload_n (q := 48) dX6_text_47 rfl ?_ rfl
        refine J.ifb_eq (tgt := 62) (q := 51) dX6_text_48 rfl rfl (fun c48 => ?_) (fun c48 => ?_)
        · refine J.iconst (q := 63) dX6_text_62 ?_ rfl
          refine J.istore_n (q := 64) dX6_text_63 (Nat.le_of_ble_eq_true rfl) ?_ rfl
          refine J.aload_n (q := 65) dX6_text_64 rfl ?_ rfl
          refine J.iconst (q := 66) dX6_text_65 ?_ rfl
          refine J.putI (ci := 6) (k0 := 10) (kz := 10) (q := 69) dX6_text_66 kF_X6_195 rfl (by decide) (by decide) rfl rfl rfl ?_ rfl
          refine J.iload_n (q := 70) dX6_text_69 rfl ?_ rfl
          refine J.if_ne (tgt := 84) (q := 73) dX6_text_70 rfl rfl (fun c70 => ?_) (fun c70 => ?_)
          · refine J.iload_n (q := 85) dX6_text_84 rfl ?_ rfl
            refine J.ireturn dX6_text_85 rfl ?_
            subst hL
            first
            | (have hG : txG (iv0 70) (iv0 61 10) (m, X) := ⟨by assumption, by rw [← ek]; omega⟩
               rw [if_pos hG, if_pos hG]
               exact ⟨rfl, rfl, fun p h1 h2 => (up_n _ _ _ h1).trans (hR.1 p h1 h2), (up_n _ _ _ (by decide)).trans hR.2.2.1, by rw [up_s, upr_s], by rw [up_s, upr_n _ _ (by decide)]; exact hR.2.1 3 (by omega)⟩)
            | (have hG : ¬ txG (iv0 70) (iv0 61 10) (m, X) := fun h => by first | exact absurd h.1 (by assumption) | (have := h.2; rw [← ek] at this; contradiction)
               rw [if_neg hG, if_neg hG]
               refine ⟨?_, rfl, fun p h1 h2 => ?_, e62, ?_, ?_⟩
               · rw [hl9 61 (by decide), up_s, upr_n _ _ (by decide), eb]
               · rw [hl9 p h2, up_n _ _ _ h1]; exact hR.1 p h1 h2
               · rw [hl9 61 (by decide), up_s, upr_s]
               · rw [hl9 61 (by decide), up_s, upr_n _ _ (by decide)]; exact hR.2.1 3 (by omega))
            | (exfalso; omega)
            | (exact absurd (by assumption) c21)
          · refine J.aload_n (q := 74) dX6_text_73 rfl ?_ rfl
            refine J.callV0 (ci := 6) (q := 77) dX6_text_74 mv_X6_laysBack kL_X6_158 rfl (by decide) rfl ⟨by decide, by decide⟩ (Nat.le_of_ble_eq_true rfl) ⟨by decide, by decide⟩ rfl (c_X6_laysBack) (fun v7 S7 iv7 hp => ?_)
            obtain ⟨rfl, rfl, hl9, hli, hlo⟩ := hp
            have e62 : iv7 62 = s0 := by
              funext j
              by_cases hj : 0 ≤ j ∧ j < 307
              · rw [hli j hj.1 hj.2, up_n _ _ _ (by decide), hR.1 64 (by decide) (by decide), h64 j hj.1 hj.2]
              · rw [hlo j (by omega), up_n _ _ _ (by decide), hR.2.2.1, hs.2 j (by omega)]
            refine J.iconst (q := 78) dX6_text_77 ?_ rfl
            refine J.aload_n (q := 79) dX6_text_78 rfl ?_ rfl
            refine J.getI (ci := 6) (k0 := 12) (kz := 12) (q := 82) dX6_text_79 kF_X6_202 rfl (by decide) (by decide) rfl (.inl rfl) ?_ rfl
            refine J.isub (q := 83) dX6_text_82 ?_ rfl
            refine J.ireturn dX6_text_83 rfl ?_
            subst hL
            first
            | (have hG : txG (iv0 70) (iv0 61 10) (m, X) := ⟨by assumption, by rw [← ek]; omega⟩
               rw [if_pos hG, if_pos hG]
               exact ⟨rfl, rfl, fun p h1 h2 => (up_n _ _ _ h1).trans (hR.1 p h1 h2), (up_n _ _ _ (by decide)).trans hR.2.2.1, by rw [up_s, upr_s], by rw [up_s, upr_n _ _ (by decide)]; exact hR.2.1 3 (by omega)⟩)
            | (have hG : ¬ txG (iv0 70) (iv0 61 10) (m, X) := fun h => by first | exact absurd h.1 (by assumption) | (have := h.2; rw [← ek] at this; contradiction)
               rw [if_neg hG, if_neg hG]
               refine ⟨?_, rfl, fun p h1 h2 => ?_, e62, ?_, ?_⟩
               · rw [hl9 61 (by decide), up_s, upr_n _ _ (by decide), eb]
               · rw [hl9 p h2, up_n _ _ _ h1]; exact hR.1 p h1 h2
               · rw [hl9 61 (by decide), up_s, upr_s]
               · rw [hl9 61 (by decide), up_s, upr_n _ _ (by decide)]; exact hR.2.1 3 (by omega))
            | (exfalso; omega)
            | (exact absurd (by assumption) c21)
        · refine J.aload_n (q := 52) dX6_text_51 rfl ?_ rfl
          refine J.getI (ci := 6) (k0 := 11) (kz := 11) (q := 55) dX6_text_52 kF_X6_209 rfl (by decide) (by decide) rfl (.inl rfl) ?_ rfl
          refine J.if_ne (tgt := 62) (q := 58) (hv := by omega) dX6_text_55 rfl rfl (fun c55 => ?_) (fun c55 => ?_)
          · refine J.iconst (q := 63) dX6_text_62 ?_ rfl
            refine J.istore_n (q := 64) dX6_text_63 (Nat.le_of_ble_eq_true rfl) ?_ rfl
            refine J.aload_n (q := 65) dX6_text_64 rfl ?_ rfl
            refine J.iconst (q := 66) dX6_text_65 ?_ rfl
            refine J.putI (ci := 6) (k0 := 10) (kz := 10) (q := 69) dX6_text_66 kF_X6_195 rfl (by decide) (by decide) rfl rfl rfl ?_ rfl
            refine J.iload_n (q := 70) dX6_text_69 rfl ?_ rfl
            refine J.if_ne (tgt := 84) (q := 73) dX6_text_70 rfl rfl (fun c70 => ?_) (fun c70 => ?_)
            · refine J.iload_n (q := 85) dX6_text_84 rfl ?_ rfl
              refine J.ireturn dX6_text_85 rfl ?_
              subst hL
              first
              | (have hG : txG (iv0 70) (iv0 61 10) (m, X) := ⟨by assumption, by rw [← ek]; omega⟩
                 rw [if_pos hG, if_pos hG]
                 exact ⟨rfl, rfl, fun p h1 h2 => (up_n _ _ _ h1).trans (hR.1 p h1 h2), (up_n _ _ _ (by decide)).trans hR.2.2.1, by rw [up_s, upr_s], by rw [up_s, upr_n _ _ (by decide)]; exact hR.2.1 3 (by omega)⟩)
              | (have hG : ¬ txG (iv0 70) (iv0 61 10) (m, X) := fun h => by first | exact absurd h.1 (by assumption) | (have := h.2; rw [← ek] at this; contradiction)
                 rw [if_neg hG, if_neg hG]
                 refine ⟨?_, rfl, fun p h1 h2 => ?_, e62, ?_, ?_⟩
                 · rw [hl9 61 (by decide), up_s, upr_n _ _ (by decide), eb]
                 · rw [hl9 p h2, up_n _ _ _ h1]; exact hR.1 p h1 h2
                 · rw [hl9 61 (by decide), up_s, upr_s]
                 · rw [hl9 61 (by decide), up_s, upr_n _ _ (by decide)]; exact hR.2.1 3 (by omega))
              | (exfalso; omega)
              | (exact absurd (by assumption) c21)
            · refine J.aload_n (q := 74) dX6_text_73 rfl ?_ rfl
              refine J.callV0 (ci := 6) (q := 77) dX6_text_74 mv_X6_laysBack kL_X6_158 rfl (by decide) rfl ⟨by decide, by decide⟩ (Nat.le_of_ble_eq_true rfl) ⟨by decide, by decide⟩ rfl (c_X6_laysBack) (fun v7 S7 iv7 hp => ?_)
              obtain ⟨rfl, rfl, hl9, hli, hlo⟩ := hp
              have e62 : iv7 62 = s0 := by
                funext j
                by_cases hj : 0 ≤ j ∧ j < 307
                · rw [hli j hj.1 hj.2, up_n _ _ _ (by decide), hR.1 64 (by decide) (by decide), h64 j hj.1 hj.2]
                · rw [hlo j (by omega), up_n _ _ _ (by decide), hR.2.2.1, hs.2 j (by omega)]
              refine J.iconst (q := 78) dX6_text_77 ?_ rfl
              refine J.aload_n (q := 79) dX6_text_78 rfl ?_ rfl
              refine J.getI (ci := 6) (k0 := 12) (kz := 12) (q := 82) dX6_text_79 kF_X6_202 rfl (by decide) (by decide) rfl (.inl rfl) ?_ rfl
              refine J.isub (q := 83) dX6_text_82 ?_ rfl
              refine J.ireturn dX6_text_83 rfl ?_
              subst hL
              first
              | (have hG : txG (iv0 70) (iv0 61 10) (m, X) := ⟨by assumption, by rw [← ek]; omega⟩
                 rw [if_pos hG, if_pos hG]
                 exact ⟨rfl, rfl, fun p h1 h2 => (up_n _ _ _ h1).trans (hR.1 p h1 h2), (up_n _ _ _ (by decide)).trans hR.2.2.1, by rw [up_s, upr_s], by rw [up_s, upr_n _ _ (by decide)]; exact hR.2.1 3 (by omega)⟩)
              | (have hG : ¬ txG (iv0 70) (iv0 61 10) (m, X) := fun h => by first | exact absurd h.1 (by assumption) | (have := h.2; rw [← ek] at this; contradiction)
                 rw [if_neg hG, if_neg hG]
                 refine ⟨?_, rfl, fun p h1 h2 => ?_, e62, ?_, ?_⟩
                 · rw [hl9 61 (by decide), up_s, upr_n _ _ (by decide), eb]
                 · rw [hl9 p h2, up_n _ _ _ h1]; exact hR.1 p h1 h2
                 · rw [hl9 61 (by decide), up_s, upr_s]
                 · rw [hl9 61 (by decide), up_s, upr_n _ _ (by decide)]; exact hR.2.1 3 (by omega))
              | (exfalso; omega)
              | (exact absurd (by assumption) c21)
          · refine J.iconst (q := 59) dX6_text_58 ?_ rfl
            refine J.goto (tgt := 63) dX6_text_59 rfl ?_
            refine J.istore_n (q := 64) dX6_text_63 (Nat.le_of_ble_eq_true rfl) ?_ rfl
            refine J.aload_n (q := 65) dX6_text_64 rfl ?_ rfl
            refine J.iconst (q := 66) dX6_text_65 ?_ rfl
            refine J.putI (ci := 6) (k0 := 10) (kz := 10) (q := 69) dX6_text_66 kF_X6_195 rfl (by decide) (by decide) rfl rfl rfl ?_ rfl
            refine J.iload_n (q := 70) dX6_text_69 rfl ?_ rfl
            refine J.if_ne (tgt := 84) (q := 73) dX6_text_70 rfl rfl (fun c70 => ?_) (fun c70 => ?_)
            · refine J.iload_n (q := 85) dX6_text_84 rfl ?_ rfl
              refine J.ireturn dX6_text_85 rfl ?_
              subst hL
              first
              | (have hG : txG (iv0 70) (iv0 61 10) (m, X) := ⟨by assumption, by rw [← ek]; omega⟩
                 rw [if_pos hG, if_pos hG]
                 exact ⟨rfl, rfl, fun p h1 h2 => (up_n _ _ _ h1).trans (hR.1 p h1 h2), (up_n _ _ _ (by decide)).trans hR.2.2.1, by rw [up_s, upr_s], by rw [up_s, upr_n _ _ (by decide)]; exact hR.2.1 3 (by omega)⟩)
              | (have hG : ¬ txG (iv0 70) (iv0 61 10) (m, X) := fun h => by first | exact absurd h.1 (by assumption) | (have := h.2; rw [← ek] at this; contradiction)
                 rw [if_neg hG, if_neg hG]
                 refine ⟨?_, rfl, fun p h1 h2 => ?_, e62, ?_, ?_⟩
                 · rw [hl9 61 (by decide), up_s, upr_n _ _ (by decide), eb]
                 · rw [hl9 p h2, up_n _ _ _ h1]; exact hR.1 p h1 h2
                 · rw [hl9 61 (by decide), up_s, upr_s]
                 · rw [hl9 61 (by decide), up_s, upr_n _ _ (by decide)]; exact hR.2.1 3 (by omega))
              | (exfalso; omega)
              | (exact absurd (by assumption) c21)
            · refine J.aload_n (q := 74) dX6_text_73 rfl ?_ rfl
              refine J.callV0 (ci := 6) (q := 77) dX6_text_74 mv_X6_laysBack kL_X6_158 rfl (by decide) rfl ⟨by decide, by decide⟩ (Nat.le_of_ble_eq_true rfl) ⟨by decide, by decide⟩ rfl (c_X6_laysBack) (fun v7 S7 iv7 hp => ?_)
              obtain ⟨rfl, rfl, hl9, hli, hlo⟩ := hp
              have e62 : iv7 62 = s0 := by
                funext j
                by_cases hj : 0 ≤ j ∧ j < 307
                · rw [hli j hj.1 hj.2, up_n _ _ _ (by decide), hR.1 64 (by decide) (by decide), h64 j hj.1 hj.2]
                · rw [hlo j (by omega), up_n _ _ _ (by decide), hR.2.2.1, hs.2 j (by omega)]
              refine J.iconst (q := 78) dX6_text_77 ?_ rfl
              refine J.aload_n (q := 79) dX6_text_78 rfl ?_ rfl
              refine J.getI (ci := 6) (k0 := 12) (kz := 12) (q := 82) dX6_text_79 kF_X6_202 rfl (by decide) (by decide) rfl (.inl rfl) ?_ rfl
              refine J.isub (q := 83) dX6_text_82 ?_ rfl
              refine J.ireturn dX6_text_83 rfl ?_
              subst hL
              first
              | (have hG : txG (iv0 70) (iv0 61 10) (m, X) := ⟨by assumption, by rw [← ek]; omega⟩
                 rw [if_pos hG, if_pos hG]
                 exact ⟨rfl, rfl, fun p h1 h2 => (up_n _ _ _ h1).trans (hR.1 p h1 h2), (up_n _ _ _ (by decide)).trans hR.2.2.1, by rw [up_s, upr_s], by rw [up_s, upr_n _ _ (by decide)]; exact hR.2.1 3 (by omega)⟩)
              | (have hG : ¬ txG (iv0 70) (iv0 61 10) (m, X) := fun h => by first | exact absurd h.1 (by assumption) | (have := h.2; rw [← ek] at this; contradiction)
                 rw [if_neg hG, if_neg hG]
                 refine ⟨?_, rfl, fun p h1 h2 => ?_, e62, ?_, ?_⟩
                 · rw [hl9 61 (by decide), up_s, upr_n _ _ (by decide), eb]
                 · rw [hl9 p h2, up_n _ _ _ h1]; exact hR.1 p h1 h2
                 · rw [hl9 61 (by decide), up_s, upr_s]
                 · rw [hl9 61 (by decide), up_s, upr_n _ _ (by decide)]; exact hR.2.1 3 (by omega))
              | (exfalso; omega)
              | (exact absurd (by assumption) c21)
      · have hk3 : tK (iv0 70) (iv0 61 10) X.2.2 = 3 := ek.symm.trans c29
        obtain ⟨f, rfl⟩ : ∃ g, f = g + 1 := ⟨f - 1, by omega⟩
        rw [txL, if_pos ⟨c21, hk3⟩] at hL
        refine J.aload_n (q := 33) dX6_text_32 rfl ?_ rfl
        refine J.callV0 (ci := 6) (q := 36) dX6_text_33 mv_X6_nextToken kL_X6_230 rfl (by decide) rfl ⟨by decide, by decide⟩ (Nat.le_of_ble_eq_true rfl) ⟨by decide, by decide⟩ rfl (c_X6_nextToken hA1 ht.e) (fun v9 S9 iv9 hp => ?_)
        obtain ⟨rfl, rfl, w0, w12, w13, w11, w14⟩ := hp
        have ht9 := hR.2.2.2.nx w0 w12 w13 w11 w14
        rw [hR.e70, hR.e10] at ht9
        have hR9 := hR.tok w0 ht9
        have hA9 := hR9.ai hA hs.1
        refine J.aload_n (q := 37) dX6_text_36 rfl ?_ rfl
        refine J.callV0 (ci := 6) (q := 40) dX6_text_37 mv_X6_readsItem kL_X6_243 rfl (by decide) rfl ⟨by decide, by decide⟩ (Nat.le_of_ble_eq_true rfl) ⟨by decide, by decide⟩ rfl (c_X6_readsItem hA h71 h72 h73 hR9 hs rfl) (fun v8 S8 iv8 hp => ?_)
        obtain ⟨rfl, rfl, hR8, hs8⟩ := hp
        refine J.istore_n (q := 41) dX6_text_40 (Nat.le_of_ble_eq_true rfl) ?_ rfl
        refine J.iinc (q := 44) dX6_text_41 rfl ?_ rfl
        refine J.goto (tgt := 20) dX6_text_44 rfl ?_
        have hm9 := rdIt_q (T := iv0 70) (z := iv0 61 10) (WL := wd (iv0 71) 7 (iv0 70) (iv0 61 10)) (WM := wd (iv0 72) 4 (iv0 70) (iv0 61 10)) (WO := wd (iv0 73) 5 (iv0 70) (iv0 61 10)) (s := X.2.1) (q := tE (iv0 70) (iv0 61 10) X.2.2) (by omega)
        exact ih f (m + 1) _ iv8 (by omega) (by omega) hR8 hs8 hL

set_option maxRecDepth 100000 in
set_option maxHeartbeats 4000000 in
theorem c_X6_text {l : Launch} {F : Nat × (Int → Int)} {iv : Mm} (hA : AI iv) (h71 : Alph (iv 71) 56) (h72 : Alph (iv 72) 32) (h73 : Alph (iv 73) 40) : Ctr l F 6 0 0 yX6_text cX6_text 3 (some FieldType.int) [r_ 61] S0 (iv) (MP iv (an_text (hi iv))) := by
  refine Ctr.of false (fun h => by cases h) (by decide) rfl (Nat.le_of_ble_eq_true rfl) ?_
  refine J.aload_n (q := 1) dX6_text_0 rfl ?_ rfl
  refine J.callV0 (ci := 6) (q := 4) dX6_text_1 mv_X6_setsAside kL_X6_155 rfl (by decide) rfl ⟨by decide, by decide⟩ (Nat.le_of_ble_eq_true rfl) ⟨by decide, by decide⟩ rfl (c_X6_setsAside) (fun v9 S9 iv9 hp => ?_)
  obtain ⟨rfl, rfl, ho9, hi9, hx9⟩ := hp
  have hA9 : AI iv9 := by
    unfold AI
    rw [ho9 61 (by decide), ho9 62 (by decide), ho9 63 (by decide), ho9 70 (by decide), ho9 74 (by decide), ho9 75 (by decide), ho9 76 (by decide)]
    exact hA
  have e10 : iv9 61 10 = iv 61 10 := congrFun (ho9 61 (by decide)) 10
  refine J.aload_n (q := 5) dX6_text_4 rfl ?_ rfl
  refine J.iconst (q := 6) dX6_text_5 ?_ rfl
  refine J.putI (ci := 6) (k0 := 13) (kz := 13) (q := 9) dX6_text_6 kF_X6_199 rfl (by decide) (by decide) rfl rfl rfl ?_ rfl
  refine J.aload_n (q := 10) dX6_text_9 rfl ?_ rfl
  have hA10 : AI (up iv9 61 13 0) := by
    unfold AI
    exact hA9
  refine J.callV0 (ci := 6) (q := 13) dX6_text_10 mv_X6_nextToken kL_X6_230 rfl (by decide) rfl ⟨by decide, by decide⟩ (Nat.le_of_ble_eq_true rfl) ⟨by decide, by decide⟩ rfl (c_X6_nextToken hA10 ⟨by rw [up_s, upr_s]; omega, by rw [up_s, upr_s, upr_n _ _ (by decide)]; exact hA9.tp.1⟩) (fun v8 S8 iv8 hp => ?_)
  obtain ⟨rfl, rfl, w0, w12, w13, w11, w14⟩ := hp
  rw [up_s, upr_s, upr_n _ _ (by decide), up_n _ _ _ (by decide)] at w12 w13 w11 w14
  have e70 : iv8 70 = iv9 70 := (w0.1 70 (by decide)).trans (up_n _ _ _ (by decide))
  have e10' : iv8 61 10 = iv9 61 10 := (w0.2 10 (by omega)).trans (by rw [up_s, upr_n _ _ (by decide)])
  have hR : Rd iv9 iv8 (iv 62) 0 := by
    refine ⟨fun p h1 h2 => (w0.1 p h1).trans (up_n _ _ _ h1), fun j hj => (w0.2 j hj).trans (by rw [up_s, upr_n _ _ (by omega)]), (w0.1 62 (by decide)).trans ((up_n _ _ _ (by decide)).trans (ho9 62 (by decide))), ⟨by omega, by rw [e10']; exact hA9.tp.1⟩, ?_, ?_, ?_, ?_⟩
    · rw [e70, e10']; exact w12
    · rw [e70, e10']; exact w13
    · rw [e70, e10']; exact w11
    · rw [e70, e10']; exact w14
  have hs : Ms (iv 62) (iv 62) := ⟨hA.mi, fun _ _ => rfl⟩
  have g71 : Alph (iv9 71) 56 := by rw [ho9 71 (by decide)]; exact h71
  have g72 : Alph (iv9 72) 32 := by rw [ho9 72 (by decide)]; exact h72
  have g73 : Alph (iv9 73) 40 := by rw [ho9 73 (by decide)]; exact h73
  refine J.iconst (q := 14) dX6_text_13 ?_ rfl
  refine J.istore_n (q := 15) dX6_text_14 (Nat.le_of_ble_eq_true rfl) ?_ rfl
  refine J.aload_n (q := 16) dX6_text_15 rfl ?_ rfl
  refine J.callV0 (ci := 6) (q := 19) dX6_text_16 mv_X6_readsItem kL_X6_243 rfl (by decide) rfl ⟨by decide, by decide⟩ (Nat.le_of_ble_eq_true rfl) ⟨by decide, by decide⟩ rfl (c_X6_readsItem hA9 g71 g72 g73 hR hs rfl) (fun v7 S7 iv7 hp => ?_)
  obtain ⟨rfl, rfl, hR7, hs7⟩ := hp
  refine J.istore_n (q := 20) dX6_text_19 (Nat.le_of_ble_eq_true rfl) ?_ rfl
  have hq9 := hR7.2.2.2.1
  rw [hR7.e10] at hq9
  have hz9 := hA9.tp
  refine J.mono ?_ (text_loop hA9 g71 g72 g73 (fun j h1 h2 => hi9 j h1 h2) 121 121 1 _ iv7 (by omega) (by omega) hR7 hs7 rfl)
  rintro v S iv2 ⟨rfl, rfl, h1, h2, h3, h4⟩
  have eT : txL (iv9 70) (iv9 61 10) (wd (iv9 71) 7 (iv9 70) (iv9 61 10)) (wd (iv9 72) 4 (iv9 70) (iv9 61 10)) (wd (iv9 73) 5 (iv9 70) (iv9 61 10)) 121 1 (rdIt (iv9 70) (iv9 61 10) (wd (iv9 71) 7 (iv9 70) (iv9 61 10)) (wd (iv9 72) 4 (iv9 70) (iv9 61 10)) (wd (iv9 73) 5 (iv9 70) (iv9 61 10)) (iv 62) 0) = txA (hi iv) := by
    rw [e10, ho9 70 (by decide), ho9 71 (by decide), ho9 72 (by decide), ho9 73 (by decide)]
    rfl
  rw [eT, e10, ho9 70 (by decide)] at h2 ⊢
  have k3 : iv9 61 3 = iv 61 3 := congrFun (ho9 61 (by decide)) 3
  unfold MP an_text
  rw [hi_70, hi_61]
  by_cases hG : txG (iv 70) (iv 61 10) (txA (hi iv))
  · rw [if_pos hG, if_pos hG]
    rw [if_pos hG] at h2
    refine ⟨rfl, rfl, fun q hq => (h1 q (by omega) (by omega)).trans (ho9 q (by omega)), h2, (h1 63 (by decide) (by decide)).trans (ho9 63 (by decide)), (h1 65 (by decide) (by decide)).trans (ho9 65 (by decide)), (h1 70 (by decide) (by decide)).trans (ho9 70 (by decide)), (h1 74 (by decide) (by decide)).trans (ho9 74 (by decide)), (h1 75 (by decide) (by decide)).trans (ho9 75 (by decide)), (h1 76 (by decide) (by decide)).trans (ho9 76 (by decide)), h4.trans k3, h3⟩
  · rw [if_neg hG, if_neg hG]
    rw [if_neg hG] at h2
    refine ⟨rfl, rfl, fun q hq => (h1 q (by omega) (by omega)).trans (ho9 q (by omega)), h2, (h1 63 (by decide) (by decide)).trans (ho9 63 (by decide)), (h1 65 (by decide) (by decide)).trans (ho9 65 (by decide)), (h1 70 (by decide) (by decide)).trans (ho9 70 (by decide)), (h1 74 (by decide) (by decide)).trans (ho9 74 (by decide)), (h1 75 (by decide) (by decide)).trans (ho9 75 (by decide)), (h1 76 (by decide) (by decide)).trans (ho9 76 (by decide)), h4.trans k3, h3⟩

