/-! the reference: snails and items in texts (printed by wip/whole/m_model21.py) -/
abbrev Pst := Bool × (Int → Int) × Int
def wd (f : Int → Int) (n : Nat) (T : Int → Int) (z q : Int) : Int := if tK T z q = 1 then whW f (tV T z q) n else -1
def mostW (w : Int) : Int := if w = 1 then 7 else if w = 3 then 99 else 80
def stepP (T : Int → Int) (z : Int) (WM : Int → Int) (k w : Int) (X : Pst) : Pst :=
  if X.1 = true then (if WM X.2.2 = w then (if 0 ≤ tkN T z (tE T z X.2.2) (mostW w) then (true, upr X.2.1 (257 + 5 * k + (1 + w)) (tkN T z (tE T z X.2.2) (mostW w)), tE T z (tE T z X.2.2)) else (false, X.2.1, tE T z X.2.2)) else X) else X
def partsP (T : Int → Int) (z : Int) (WM : Int → Int) (k : Int) : Nat → Pst → Pst
  | 0, X => X
  | w + 1, X => stepP T z WM k w (partsP T z WM k w X)
theorem partsP_f {T : Int → Int} {z : Int} {WM : Int → Int} {k : Int} {X Y : Pst} {w : Nat} (h : partsP T z WM k w X = Y) (hY : Y.1 = false) : ∀ m : Nat, w ≤ m → partsP T z WM k m X = Y
  | 0, hm => by rw [show w = 0 by omega] at h; exact h
  | m + 1, hm => by
    by_cases he : w = m + 1
    · subst he; exact h
    · rw [partsP, partsP_f h hY m (by omega)]
      unfold stepP
      rw [if_neg (by rw [hY]; decide)]
def rdSn (T : Int → Int) (z : Int) (WM : Int → Int) (s : Int → Int) (q kd : Int) : Pst := if s 2 = 8 then (false, s, q) else partsP T z WM (s 2) 4 (true, addS s kd 0, tE T z q)
def Rd (iv0 iv1 : Mm) (s : Int → Int) (q : Int) : Prop := (∀ p, p ≠ 61 → p ≠ 62 → iv1 p = iv0 p) ∧ (∀ j : Int, (j < 11 ∨ 14 < j) → iv1 61 j = iv0 61 j) ∧ iv1 62 = s ∧ TokAt iv1 q
theorem Rd.ai {iv0 iv1 : Mm} {s : Int → Int} {q : Int} (h : Rd iv0 iv1 s q) (hA : AI iv0) (hs : MI 99999 s) : AI iv1 := by
  have e10 := h.2.1 10 (by omega)
  have e3 := h.2.1 3 (by omega)
  have e63 := h.1 63 (by decide) (by decide)
  have e70 := h.1 70 (by decide) (by decide)
  have e74 := h.1 74 (by decide) (by decide)
  have e75 := h.1 75 (by decide) (by decide)
  have e76 := h.1 76 (by decide) (by decide)
  unfold AI
  rw [h.2.2.1, e3, e10, e63, e70, e74, e75, e76]
  exact ⟨hs, hA.2⟩
theorem Rd.tok {iv0 iv1 iv2 : Mm} {s : Int → Int} {q q2 : Int} (h : Rd iv0 iv1 s q) (w : Tw iv1 iv2) (t : TokAt iv2 q2) : Rd iv0 iv2 s q2 :=
  ⟨fun p h1 h2 => (w.1 p h1).trans (h.1 p h1 h2), fun j hj => (w.2 j hj).trans (h.2.1 j hj), (w.1 62 (by decide)).trans h.2.2.1, t⟩
theorem Rd.e70 {iv0 iv1 : Mm} {s : Int → Int} {q : Int} (h : Rd iv0 iv1 s q) : iv1 70 = iv0 70 := h.1 70 (by decide) (by decide)
theorem Rd.e10 {iv0 iv1 : Mm} {s : Int → Int} {q : Int} (h : Rd iv0 iv1 s q) : iv1 61 10 = iv0 61 10 := h.2.1 10 (by omega)
theorem Rd.row {iv0 iv1 : Mm} {s t : Int → Int} {q : Int} (h : Rd iv0 iv1 s q) : Rd iv0 (setr iv1 62 t) t q :=
  ⟨fun p h1 h2 => (setr_n _ _ h2).trans (h.1 p h1 h2), h.2.1, rfl, h.2.2.2⟩
theorem Rd.upd {iv0 iv1 : Mm} {s : Int → Int} {q a x : Int} (h : Rd iv0 iv1 s q) : Rd iv0 (up iv1 62 a x) (upr s a x) q :=
  ⟨fun p h1 h2 => (up_n _ _ _ h2).trans (h.1 p h1 h2), fun j hj => by rw [up_n _ _ _ (by decide)]; exact h.2.1 j hj, by rw [up_s, h.2.2.1], by
    have ht := h.2.2.2
    unfold TokAt at *
    rw [up_n _ _ _ (by decide), up_n _ _ _ (by decide)]
    exact ht⟩
theorem Rd.wof {iv0 iv1 : Mm} {s : Int → Int} {q : Int} (h : Rd iv0 iv1 s q) (p n : Nat) (h1 : p ≠ 61) (h2 : p ≠ 62) : wOf iv1 p n = wd (iv0 p) n (iv0 70) (iv0 61 10) q := by
  unfold wOf wd
  rw [h.2.2.2.2.2.2.1, h.2.2.2.2.2.2.2, h.e70, h.e10, h.1 p h1 h2]
theorem whW_rng (f : Int → Int) (v : Int) : ∀ n : Nat, -1 ≤ whW f v n ∧ whW f v n < n
  | 0 => by simp [whW]
  | n + 1 => by
    have := whW_rng f v n
    unfold whW
    split <;> omega
theorem wd_rng (f : Int → Int) (n : Nat) (T : Int → Int) (z q : Int) : -1 ≤ wd f n T z q ∧ wd f n T z q < n := by
  have := whW_rng f (tV T z q) n
  unfold wd
  split <;> omega
set_option maxRecDepth 100000 in
set_option maxHeartbeats 4000000 in
theorem readsSnail_loop {l : Launch} {F : Nat × (Int → Int)} {iv0 : Mm} (hA : AI iv0) (ha : Alph (iv0 72) 32) {WM : Int → Int} (hW : WM = wd (iv0 72) 4 (iv0 70) (iv0 61 10)) {kd k : Int} {X0 : Pst} (hk : 0 ≤ k ∧ k ≤ 7) : ∀ (n : Nat) (w : Nat) (q : Int) (s : Int → Int) (iv1 : Mm) (y4 : Option VT), (4 - w < n) → (w ≤ 4) → (Rd iv0 iv1 s q) → (MI 99999 s) → (s 2 = k + 1) → (partsP (iv0 70) (iv0 61 10) WM k w X0 = (true, s, q)) → J l (yX6_readsSnail).cls cX6_readsSnail 5 (some FieldType.boolean) 4 0 0 false F (fun v S iv2 => v = some (i_ (b2 ((partsP (iv0 70) (iv0 61 10) WM k 4 X0).1 = true))) ∧ S = S0 ∧ Rd iv0 iv2 (partsP (iv0 70) (iv0 61 10) WM k 4 X0).2.1 (partsP (iv0 70) (iv0 61 10) WM k 4 X0).2.2 ∧ MI 99999 (partsP (iv0 70) (iv0 61 10) WM k 4 X0).2.1) 0 0 32 [some (r_ 61), some (i_ kd), some (i_ k), some (i_ (w : Int)), y4] [] S0 (iv1) := by
  intro n
  induction n with
  | zero =>
    intro w q s iv1 y4 hn hw hR hs h2 hP
    omega
  | succ n ih =>
    intro w q s iv1 y4 hn hw hR hs h2 hP
    have hA1 := hR.ai hA hs
    have ht := hR.2.2.2
    have hwr := wd_rng (iv0 72) 4 (iv0 70) (iv0 61 10) q
    have hst : partsP (iv0 70) (iv0 61 10) WM k (w + 1) X0 = stepP (iv0 70) (iv0 61 10) WM k w (true, s, q) := by rw [partsP, hP]
    unfold stepP at hst
    rw [if_pos rfl] at hst
    simp only [hW] at hst
    refine J.iload_n (q := 33) dX6_readsSnail_32 rfl ?_ rfl
    refine J.iconst (q := 34) dX6_readsSnail_33 ?_ rfl
    refine J.icmp_ge (tgt := 105) (q := 37) dX6_readsSnail_34 rfl rfl (fun c34 => ?_) (fun c34 => ?_)
    · refine J.iconst (q := 106) dX6_readsSnail_105 ?_ rfl
      refine J.zreturn dX6_readsSnail_106 rfl (by omega) ?_
      first
      | (rw [partsP_f hst rfl 4 (by omega)]; exact ⟨rfl, rfl, hR8, hs⟩)
      | (have hw4 : w = 4 := by omega
         subst hw4; rw [hP]; exact ⟨rfl, rfl, hR, hs⟩)
    · refine J.aload_n (q := 38) dX6_readsSnail_37 rfl ?_ rfl
      refine J.aload_n (q := 39) dX6_readsSnail_38 rfl ?_ rfl
      refine J.getR (ci := 6) (k0 := 16) (c1 := 72) (q := 42) dX6_readsSnail_39 kF_X6_42 rfl (by decide) (by decide) rfl (by decide) rfl ?_ rfl
      refine J.callV1i (ci := 6) (q := 45) dX6_readsSnail_42 mv_X6_wordOf kL_X6_233 rfl (by decide) rfl ⟨by decide, by decide⟩ (Nat.le_of_ble_eq_true rfl) ⟨by decide, by decide⟩ rfl (c_X6_wordOf72 (by rw [hR.1 72 (by decide) (by decide)]; exact ha) ht.k ht.v) ?_
      rw [hR.wof 72 4 (by decide) (by decide)]
      refine J.iload_n (q := 46) dX6_readsSnail_45 rfl ?_ rfl
      refine J.icmp_ne (tgt := 99) (q := 49) (hv := by omega) dX6_readsSnail_46 rfl rfl (fun c46 => ?_) (fun c46 => ?_)
      · rw [if_neg c46] at hst
        refine J.iinc (q := 102) dX6_readsSnail_99 rfl ?_ rfl
        refine J.goto (tgt := 32) dX6_readsSnail_102 rfl ?_
        first
        | exact ih (w + 1) q s iv1 y4 (by omega) (by omega) hR hs h2 hst
        | (refine ih (w + 1) _ _ _ _ (by omega) (by omega) hR8.upd ?_ ?_ hst
           · exact hs.upd (by omega) (by omega) (by omega) (by omega) (by omega) (by omega) (fun c _ _ => ⟨by omega, by omega, by omega⟩) (fun i _ _ => ⟨by omega, fun _ => by omega, fun _ => by omega, fun _ => by omega, fun _ => by omega⟩) (by omega)
           · rw [upr_n _ _ (by omega)]; exact h2)
      · rw [if_pos c46] at hst
        refine J.aload_n (q := 50) dX6_readsSnail_49 rfl ?_ rfl
        refine J.callV0 (ci := 6) (q := 53) dX6_readsSnail_50 mv_X6_nextToken kL_X6_230 rfl (by decide) rfl ⟨by decide, by decide⟩ (Nat.le_of_ble_eq_true rfl) ⟨by decide, by decide⟩ rfl (c_X6_nextToken hA1 ht.e) (fun v9 S9 iv9 hp => ?_)
        obtain ⟨rfl, rfl, w0, w12, w13, w11, w14⟩ := hp
        have ht9 := ht.nx w0 w12 w13 w11 w14
        rw [hR.e70, hR.e10] at ht9
        have hR9 := hR.tok w0 ht9
        have hA9 := hR9.ai hA hs
        refine J.aload_n (q := 54) dX6_readsSnail_53 rfl ?_ rfl
        refine J.iconst (q := 55) dX6_readsSnail_54 ?_ rfl
        refine J.iload_n (q := 56) dX6_readsSnail_55 rfl ?_ rfl
        refine J.iconst (q := 57) dX6_readsSnail_56 ?_ rfl
        refine J.icmp_ne (tgt := 65) (q := 60) dX6_readsSnail_57 rfl rfl (fun c57 => ?_) (fun c57 => ?_)
        · refine J.iload_n (q := 66) dX6_readsSnail_65 rfl ?_ rfl
          refine J.iconst (q := 67) dX6_readsSnail_66 ?_ rfl
          refine J.icmp_ne (tgt := 75) (q := 70) dX6_readsSnail_67 rfl rfl (fun c67 => ?_) (fun c67 => ?_)
          · rw [show mostW (w : Int) = 80 by unfold mostW; rw [if_neg c57, if_neg c67]] at hst
            refine J.bipush (q := 77) dX6_readsSnail_75 (by decide) ?_ rfl
            refine J.callV2 (ci := 6) (q := 80) dX6_readsSnail_77 mv_X6_takesNumber kL_X6_237 rfl (by decide) rfl ⟨by decide, by decide⟩ (Nat.le_of_ble_eq_true rfl) ⟨by decide, by decide⟩ rfl (c_X6_takesNumber hA9 ht9 (by omega)) (fun v8 S8 iv8 hp => ?_)
            obtain ⟨rfl, rfl, x0, hx⟩ := hp
            have hR8 := hR9.tok x0 hx
            rw [hR9.e70, hR9.e10] at hR8 ⊢
            have htr7 := tkN_rng (iv0 70) (iv0 61 10) (tE (iv0 70) (iv0 61 10) q) 7
            have htr9 := tkN_rng (iv0 70) (iv0 61 10) (tE (iv0 70) (iv0 61 10) q) 99
            have htr8 := tkN_rng (iv0 70) (iv0 61 10) (tE (iv0 70) (iv0 61 10) q) 80
            refine J.istore (q := 82) dX6_readsSnail_80 (Nat.le_of_ble_eq_true rfl) ?_ rfl
            refine J.iload (q := 84) dX6_readsSnail_82 rfl ?_ rfl
            refine J.if_ge (tgt := 89) (q := 87) (hv := by omega) dX6_readsSnail_84 rfl rfl (fun c84 => ?_) (fun c84 => ?_)
            · rw [if_pos c84] at hst
              rw [tkQ, if_pos c84] at hR8
              refine J.aload_n (q := 90) dX6_readsSnail_89 rfl ?_ rfl
              refine J.iload_n (q := 91) dX6_readsSnail_90 rfl ?_ rfl
              refine J.iconst (q := 92) dX6_readsSnail_91 ?_ rfl
              refine J.iload_n (q := 93) dX6_readsSnail_92 rfl ?_ rfl
              refine J.iadd (q := 94) dX6_readsSnail_93 ?_ rfl
              refine J.iload (q := 96) dX6_readsSnail_94 rfl ?_ rfl
              refine J.callV3v (ci := 6) (q := 99) dX6_readsSnail_96 mv_X6_puts kL_X6_97 rfl (by decide) rfl ⟨by decide, by decide⟩ (Nat.le_of_ble_eq_true rfl) ⟨by decide, by decide⟩ rfl (c_X6_puts (by omega)) ?_
              refine J.iinc (q := 102) dX6_readsSnail_99 rfl ?_ rfl
              refine J.goto (tgt := 32) dX6_readsSnail_102 rfl ?_
              first
              | exact ih (w + 1) q s iv1 y4 (by omega) (by omega) hR hs h2 hst
              | (refine ih (w + 1) _ _ _ _ (by omega) (by omega) hR8.upd ?_ ?_ hst
                 · exact hs.upd (by omega) (by omega) (by omega) (by omega) (by omega) (by omega) (fun c _ _ => ⟨by omega, by omega, by omega⟩) (fun i _ _ => ⟨by omega, fun _ => by omega, fun _ => by omega, fun _ => by omega, fun _ => by omega⟩) (by omega)
                 · rw [upr_n _ _ (by omega)]; exact h2)
            · rw [if_neg (by omega)] at hst
              rw [tkQ, if_neg (by omega)] at hR8
              refine J.iconst (q := 88) dX6_readsSnail_87 ?_ rfl
              refine J.zreturn dX6_readsSnail_88 rfl (by omega) ?_
              first
              | (rw [partsP_f hst rfl 4 (by omega)]; exact ⟨rfl, rfl, hR8, hs⟩)
              | (have hw4 : w = 4 := by omega
                 subst hw4; rw [hP]; exact ⟨rfl, rfl, hR, hs⟩)
          · rw [show mostW (w : Int) = 99 by unfold mostW; rw [if_neg c57, if_pos c67]] at hst
            refine J.bipush (q := 72) dX6_readsSnail_70 (by decide) ?_ rfl
            refine J.goto (tgt := 77) dX6_readsSnail_72 rfl ?_
            refine J.callV2 (ci := 6) (q := 80) dX6_readsSnail_77 mv_X6_takesNumber kL_X6_237 rfl (by decide) rfl ⟨by decide, by decide⟩ (Nat.le_of_ble_eq_true rfl) ⟨by decide, by decide⟩ rfl (c_X6_takesNumber hA9 ht9 (by omega)) (fun v8 S8 iv8 hp => ?_)
            obtain ⟨rfl, rfl, x0, hx⟩ := hp
            have hR8 := hR9.tok x0 hx
            rw [hR9.e70, hR9.e10] at hR8 ⊢
            have htr7 := tkN_rng (iv0 70) (iv0 61 10) (tE (iv0 70) (iv0 61 10) q) 7
            have htr9 := tkN_rng (iv0 70) (iv0 61 10) (tE (iv0 70) (iv0 61 10) q) 99
            have htr8 := tkN_rng (iv0 70) (iv0 61 10) (tE (iv0 70) (iv0 61 10) q) 80
            refine J.istore (q := 82) dX6_readsSnail_80 (Nat.le_of_ble_eq_true rfl) ?_ rfl
            refine J.iload (q := 84) dX6_readsSnail_82 rfl ?_ rfl
            refine J.if_ge (tgt := 89) (q := 87) (hv := by omega) dX6_readsSnail_84 rfl rfl (fun c84 => ?_) (fun c84 => ?_)
            · rw [if_pos c84] at hst
              rw [tkQ, if_pos c84] at hR8
              refine J.aload_n (q := 90) dX6_readsSnail_89 rfl ?_ rfl
              refine J.iload_n (q := 91) dX6_readsSnail_90 rfl ?_ rfl
              refine J.iconst (q := 92) dX6_readsSnail_91 ?_ rfl
              refine J.iload_n (q := 93) dX6_readsSnail_92 rfl ?_ rfl
              refine J.iadd (q := 94) dX6_readsSnail_93 ?_ rfl
              refine J.iload (q := 96) dX6_readsSnail_94 rfl ?_ rfl
              refine J.callV3v (ci := 6) (q := 99) dX6_readsSnail_96 mv_X6_puts kL_X6_97 rfl (by decide) rfl ⟨by decide, by decide⟩ (Nat.le_of_ble_eq_true rfl) ⟨by decide, by decide⟩ rfl (c_X6_puts (by omega)) ?_
              refine J.iinc (q := 102) dX6_readsSnail_99 rfl ?_ rfl
              refine J.goto (tgt := 32) dX6_readsSnail_102 rfl ?_
              first
              | exact ih (w + 1) q s iv1 y4 (by omega) (by omega) hR hs h2 hst
              | (refine ih (w + 1) _ _ _ _ (by omega) (by omega) hR8.upd ?_ ?_ hst
                 · exact hs.upd (by omega) (by omega) (by omega) (by omega) (by omega) (by omega) (fun c _ _ => ⟨by omega, by omega, by omega⟩) (fun i _ _ => ⟨by omega, fun _ => by omega, fun _ => by omega, fun _ => by omega, fun _ => by omega⟩) (by omega)
                 · rw [upr_n _ _ (by omega)]; exact h2)
            · rw [if_neg (by omega)] at hst
              rw [tkQ, if_neg (by omega)] at hR8
              refine J.iconst (q := 88) dX6_readsSnail_87 ?_ rfl
              refine J.zreturn dX6_readsSnail_88 rfl (by omega) ?_
              first
              | (rw [partsP_f hst rfl 4 (by omega)]; exact ⟨rfl, rfl, hR8, hs⟩)
              | (have hw4 : w = 4 := by omega
                 subst hw4; rw [hP]; exact ⟨rfl, rfl, hR, hs⟩)
        · rw [show mostW (w : Int) = 7 from if_pos c57] at hst
          refine J.bipush (q := 62) dX6_readsSnail_60 (by decide) ?_ rfl
          refine J.goto (tgt := 77) dX6_readsSnail_62 rfl ?_
          refine J.callV2 (ci := 6) (q := 80) dX6_readsSnail_77 mv_X6_takesNumber kL_X6_237 rfl (by decide) rfl ⟨by decide, by decide⟩ (Nat.le_of_ble_eq_true rfl) ⟨by decide, by decide⟩ rfl (c_X6_takesNumber hA9 ht9 (by omega)) (fun v8 S8 iv8 hp => ?_)
          obtain ⟨rfl, rfl, x0, hx⟩ := hp
          have hR8 := hR9.tok x0 hx
          rw [hR9.e70, hR9.e10] at hR8 ⊢
          have htr7 := tkN_rng (iv0 70) (iv0 61 10) (tE (iv0 70) (iv0 61 10) q) 7
          have htr9 := tkN_rng (iv0 70) (iv0 61 10) (tE (iv0 70) (iv0 61 10) q) 99
          have htr8 := tkN_rng (iv0 70) (iv0 61 10) (tE (iv0 70) (iv0 61 10) q) 80
          refine J.istore (q := 82) dX6_readsSnail_80 (Nat.le_of_ble_eq_true rfl) ?_ rfl
          refine J.iload (q := 84) dX6_readsSnail_82 rfl ?_ rfl
          refine J.if_ge (tgt := 89) (q := 87) (hv := by omega) dX6_readsSnail_84 rfl rfl (fun c84 => ?_) (fun c84 => ?_)
          · rw [if_pos c84] at hst
            rw [tkQ, if_pos c84] at hR8
            refine J.aload_n (q := 90) dX6_readsSnail_89 rfl ?_ rfl
            refine J.iload_n (q := 91) dX6_readsSnail_90 rfl ?_ rfl
            refine J.iconst (q := 92) dX6_readsSnail_91 ?_ rfl
            refine J.iload_n (q := 93) dX6_readsSnail_92 rfl ?_ rfl
            refine J.iadd (q := 94) dX6_readsSnail_93 ?_ rfl
            refine J.iload (q := 96) dX6_readsSnail_94 rfl ?_ rfl
            refine J.callV3v (ci := 6) (q := 99) dX6_readsSnail_96 mv_X6_puts kL_X6_97 rfl (by decide) rfl ⟨by decide, by decide⟩ (Nat.le_of_ble_eq_true rfl) ⟨by decide, by decide⟩ rfl (c_X6_puts (by omega)) ?_
            refine J.iinc (q := 102) dX6_readsSnail_99 rfl ?_ rfl
            refine J.goto (tgt := 32) dX6_readsSnail_102 rfl ?_
            first
            | exact ih (w + 1) q s iv1 y4 (by omega) (by omega) hR hs h2 hst
            | (refine ih (w + 1) _ _ _ _ (by omega) (by omega) hR8.upd ?_ ?_ hst
               · exact hs.upd (by omega) (by omega) (by omega) (by omega) (by omega) (by omega) (fun c _ _ => ⟨by omega, by omega, by omega⟩) (fun i _ _ => ⟨by omega, fun _ => by omega, fun _ => by omega, fun _ => by omega, fun _ => by omega⟩) (by omega)
               · rw [upr_n _ _ (by omega)]; exact h2)
          · rw [if_neg (by omega)] at hst
            rw [tkQ, if_neg (by omega)] at hR8
            refine J.iconst (q := 88) dX6_readsSnail_87 ?_ rfl
            refine J.zreturn dX6_readsSnail_88 rfl (by omega) ?_
            first
            | (rw [partsP_f hst rfl 4 (by omega)]; exact ⟨rfl, rfl, hR8, hs⟩)
            | (have hw4 : w = 4 := by omega
               subst hw4; rw [hP]; exact ⟨rfl, rfl, hR, hs⟩)

