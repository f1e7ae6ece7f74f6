/-! the reference: snails and items in texts (printed by wip/whole/m_model21.py) -/
abbrev Pst := Bool × (Int → Int) × Int
def wd (f : Int → Int) (n : Nat) (T : Int → Int) (z q : Int) : Int := if tK T z q = 1 then whW f (tV T z q) n else -1
def mostW (w : Int) : Int := if w = 1 then 7 else if w = 3 then 99 else 80
def stepP (T : Int → Int) (z : Int) (WM : Int → Int) (k w : Int) (X : Pst) : Pst :=
  if X.1 = true then (if WM X.2.2 = w then (if 0 ≤ tkN T z (tE T z X.2.2) (mostW w) then (true, upr X.2.1 (257 + 5 * k + (1 + w)) (tkN T z (tE T z X.2.2) (mostW w)), tE T z (tE T z X.2.2)) else (false, X.2.1, tE T z X.2.2)) else X) else X
def partsP (T : Int → Int) (z : Int) (WM : Int → Int) (k : Int) : Nat → Pst → Pst
  | 0, X => X
  | w + 1, X => stepP T z WM k w (partsP T z WM k w X)
theorem partsP_f {T : Int → Int} {z : Int} {WM : Int → Int} {k : Int} {X Y : Pst} {w : Nat} (h : partsP T z WM k w X = Y) (hY : Y.1 = false) : ∀ m : Nat, w ≤ m → partsP T z WM k m X = Y
  | 0, hm => by rw [show w = 0 by omega] at h; exact h
  | m + 1, hm => by
    by_cases he : w = m + 1
    · subst he; exact h
    · rw [partsP, partsP_f h hY m (by omega)]
      unfold stepP
      rw [if_neg (by rw [hY]; decide)]
def rdSn (T : Int → Int) (z : Int) (WM : Int → Int) (s : Int → Int) (q kd : Int) : Pst := if s 2 = 8 then (false, s, q) else partsP T z WM (s 2) 4 (true, addS s kd 0, tE T z q)
def Rd (iv0 iv1 : Mm) (s : Int → Int) (q : Int) : Prop := (∀ p, p ≠ 61 → p ≠ 62 → iv1 p = iv0 p) ∧ (∀ j : Int, (j < 11 ∨ 14 < j) → iv1 61 j = iv0 61 j) ∧ iv1 62 = s ∧ TokAt iv1 q
theorem Rd.ai {iv0 iv1 : Mm} {s : Int → Int} {q : Int} (h : Rd iv0 iv1 s q) (hA : AI iv0) (hs : MI 99999 s) : AI iv1 := by
  have e10 := h.2.1 10 (by omega)
  have e3 := h.2.1 3 (by omega)
  have e63 := h.1 63 (by decide) (by decide)
  have e70 := h.1 70 (by decide) (by decide)
  have e74 := h.1 74 (by decide) (by decide)
  have e75 := h.1 75 (by decide) (by decide)
  have e76 := h.1 76 (by decide) (by decide)
  unfold AI
  rw [h.2.2.1, e3, e10, e63, e70, e74, e75, e76]
  exact ⟨hs, hA.2⟩
theorem Rd.tok {iv0 iv1 iv2 : Mm} {s : Int → Int} {q q2 : Int} (h : Rd iv0 iv1 s q) (w : Tw iv1 iv2) (t : TokAt iv2 q2) : Rd iv0 iv2 s q2 :=
  ⟨fun p h1 h2 => (w.1 p h1).trans (h.1 p h1 h2), fun j hj => (w.2 j hj).trans (h.2.1 j hj), (w.1 62 (by decide)).trans h.2.2.1, t⟩
theorem Rd.e70 {iv0 iv1 : Mm} {s : Int → Int} {q : Int} (h : Rd iv0 iv1 s q) : iv1 70 = iv0 70 := h.1 70 (by decide) (by decide)
theorem Rd.e10 {iv0 iv1 : Mm} {s : Int → Int} {q : Int} (h : Rd iv0 iv1 s q) : iv1 61 10 = iv0 61 10 := h.2.1 10 (by omega)
theorem Rd.row {iv0 iv1 : Mm} {s t : Int → Int} {q : Int} (h : Rd iv0 iv1 s q) : Rd iv0 (setr iv1 62 t) t q :=
  ⟨fun p h1 h2 => (setr_n _ _ h2).trans (h.1 p h1 h2), h.2.1, rfl, h.2.2.2⟩
theorem Rd.upd {iv0 iv1 : Mm} {s : Int → Int} {q a x : Int} (h : Rd iv0 iv1 s q) : Rd iv0 (up iv1 62 a x) (upr s a x) q :=
  ⟨fun p h1 h2 => (up_n _ _ _ h2).trans (h.1 p h1 h2), fun j hj => by rw [up_n _ _ _ (by decide)]; exact h.2.1 j hj, by rw [up_s, h.2.2.1], by
    have ht := h.2.2.2
    unfold TokAt at *
    rw [up_n _ _ _ (by decide), up_n _ _ _ (by decide)]
    exact ht⟩
theorem Rd.wof {iv0 iv1 : Mm} {s : Int → Int} {q : Int} (h : Rd iv0 iv1 s q) (p n : Nat) (h1 : p ≠ 61) (h2 : p ≠ 62) : wOf iv1 p n = wd (iv0 p) n (iv0 70) (iv0 61 10) q := by
  unfold wOf wd
  rw [h.2.2.2.2.2.2.1, h.2.2.2.2.2.2.2, h.e70, h.e10, h.1 p h1 h2]
def Ms (s0 s : Int → Int) : Prop := MI 99999 s ∧ ∀ j : Int, (j < 0 ∨ 307 ≤ j) → s j = s0 j
theorem Ms.upd {s0 s : Int → Int} (h : Ms s0 s) {a x : Int} (ha : 3 ≤ a ∧ a < 307)
    (h4 : a = 4 → 0 ≤ x ∧ x ≤ 9) (h5 : a = 5 → 0 ≤ x ∧ x ≤ 20) (h6 : ∀ j, 0 ≤ j → j < 8 → a = 6 + j → 0 ≤ x ∧ x ≤ 255)
    (hc : ∀ c, 0 ≤ c → c ≤ 80 → (a = 14 + c → 0 ≤ x ∧ x ≤ 1) ∧ (a = 95 + c → 0 ≤ x ∧ x ≤ 9) ∧ (a = 176 + c → -1 ≤ x ∧ x ≤ 7))
    (hk : ∀ k, 0 ≤ k → k < 8 → (a = 257 + 5 * k + 0 → 0 ≤ x ∧ x ≤ 6) ∧ (a = 257 + 5 * k + 1 → 0 ≤ x ∧ x ≤ 80) ∧ (a = 257 + 5 * k + 2 → 0 ≤ x ∧ x ≤ 7) ∧ (a = 257 + 5 * k + 3 → 0 ≤ x ∧ x ≤ 80) ∧ (a = 257 + 5 * k + 4 → 0 ≤ x ∧ x ≤ 99))
    (hj : ∀ j, 0 ≤ j → j < 10 → a = 297 + j → -1 ≤ x ∧ x < s 2) : Ms s0 (upr s a x) :=
  ⟨h.1.upd (by omega) (by omega) (by omega) h4 h5 h6 hc hk hj, fun j hj9 => by rw [upr_n _ _ (by omega)]; exact h.2 j hj9⟩
theorem Ms.inc {s0 s : Int → Int} (h : Ms s0 s) (h2 : s 2 < 8) : Ms s0 (upr s 2 (s 2 + 1)) := by
  have e : ∀ b : Int, b ≠ 2 → upr s 2 (s 2 + 1) b = s b := fun b hb => upr_n _ _ hb
  have m := h.1.many
  refine ⟨⟨?_, ?_, ?_, ?_, ?_, ?_, ?_, ?_, ?_⟩, fun j hj9 => by rw [e j (by omega)]; exact h.2 j hj9⟩
  · rw [e 0 (by omega)]; exact h.1.day
  · rw [e 1 (by omega)]; exact h.1.cla
  · rw [upr_s]; omega
  · rw [e 4 (by omega)]; exact h.1.wet
  · rw [e 5 (by omega)]; exact h.1.thr
  · intro j h1 h2; rw [e _ (by omega)]; exact h.1.ban j h1 h2
  · intro c h1 h2; rw [e _ (by omega), e _ (by omega), e _ (by omega)]; exact h.1.cel c h1 h2
  · intro k h1 h2; rw [e _ (by omega), e _ (by omega), e _ (by omega), e _ (by omega), e _ (by omega)]; exact h.1.sna k h1 h2
  · intro j h1 h2; rw [e _ (by omega), upr_s]; have := h.1.spo j h1 h2; omega
theorem addS_Ms {s0 s : Int → Int} {kd c : Int} (h : Ms s0 s) (h2 : s 2 ≠ 8) (hkd : 0 ≤ kd ∧ kd ≤ 6) (hc : 0 ≤ c ∧ c ≤ 80) : Ms s0 (addS s kd c) := by
  have m := h.1.many
  unfold addS
  have h1 : Ms s0 (upr (upr (upr (upr (upr s (257 + 5 * s 2 + 0) kd) (257 + 5 * s 2 + 1) c) (257 + 5 * s 2 + 2) 0) (257 + 5 * s 2 + 3) 80) (257 + 5 * s 2 + 4) 1) := by
    refine Ms.upd (Ms.upd (Ms.upd (Ms.upd (Ms.upd h ?_ ?_ ?_ ?_ ?_ ?_ ?_) ?_ ?_ ?_ ?_ ?_ ?_ ?_) ?_ ?_ ?_ ?_ ?_ ?_ ?_) ?_ ?_ ?_ ?_ ?_ ?_ ?_) ?_ ?_ ?_ ?_ ?_ ?_ ?_ <;> first | omega | (intro a b d; refine ⟨?_, ?_, ?_, ?_, ?_⟩ <;> omega) | (intro a b d; refine ⟨?_, ?_, ?_⟩ <;> omega)
  have e := h1.inc (by repeat rw [upr_n _ _ (show (2 : Int) ≠ _ by omega)]
                       omega)
  repeat rw [upr_n _ _ (show (2 : Int) ≠ _ by omega)] at e
  exact e
theorem addS_2 {s : Int → Int} {kd c : Int} : addS s kd c 2 = s 2 + 1 := upr_s _ _ _
theorem whW_rng (f : Int → Int) (v : Int) : ∀ n : Nat, -1 ≤ whW f v n ∧ whW f v n < n
  | 0 => by simp [whW]
  | n + 1 => by
    have := whW_rng f v n
    unfold whW
    split <;> omega
theorem wd_rng (f : Int → Int) (n : Nat) (T : Int → Int) (z q : Int) : -1 ≤ wd f n T z q ∧ wd f n T z q < n := by
  have := whW_rng f (tV T z q) n
  unfold wd
  split <;> omega
set_option maxRecDepth 100000 in
set_option maxHeartbeats 4000000 in
theorem readsSnail_loop {l : Launch} {F : Nat × (Int → Int)} {iv0 : Mm} {s0 : Int → Int} (hA : AI iv0) (ha : Alph (iv0 72) 32) {WM : Int → Int} (hW : WM = wd (iv0 72) 4 (iv0 70) (iv0 61 10)) {kd k : Int} {X0 : Pst} (hk : 0 ≤ k ∧ k ≤ 7) : ∀ (n : Nat) (w : Nat) (q : Int) (s : Int → Int) (iv1 : Mm) (y4 : Option VT), (4 - w < n) → (w ≤ 4) → (Rd iv0 iv1 s q) → (Ms s0 s) → (s 2 = k + 1) → (partsP (iv0 70) (iv0 61 10) WM k w X0 = (true, s, q)) → J l (yX6_readsSnail).cls cX6_readsSnail 5 (some FieldType.boolean) 4 0 0 false F (fun v S iv2 => v = some (i_ (b2 ((partsP (iv0 70) (iv0 61 10) WM k 4 X0).1 = true))) ∧ S = S0 ∧ Rd iv0 iv2 (partsP (iv0 70) (iv0 61 10) WM k 4 X0).2.1 (partsP (iv0 70) (iv0 61 10) WM k 4 X0).2.2 ∧ Ms s0 (partsP (iv0 70) (iv0 61 10) WM k 4 X0).2.1) 0 0 32 [some (r_ 61), some (i_ kd), some (i_ k), some (i_ (w : Int)), y4] [] S0 (iv1) := by
  intro n
  induction n with
  | zero =>
    intro w q s iv1 y4 hn hw hR hs h2 hP
    omega
  | succ n ih =>
    intro w q s iv1 y4 hn hw hR hs h2 hP
    subst hW
    have hA1 := hR.ai hA hs.1
    have ht := hR.2.2.2
    have hwr := wd_rng (iv0 72) 4 (iv0 70) (iv0 61 10) q
    have hst : partsP (iv0 70) (iv0 61 10) (wd (iv0 72) 4 (iv0 70) (iv0 61 10)) k (w + 1) X0 = stepP (iv0 70) (iv0 61 10) (wd (iv0 72) 4 (iv0 70) (iv0 61 10)) k w (true, s, q) := by rw [partsP, hP]
    unfold stepP at hst
    rw [if_pos rfl] at hst
    dsimp only at hst
    refine J.iload_n (q := 33) dX6_readsSnail_32 rfl ?_ rfl
    refine J.iconst (q := 34) dX6_readsSnail_33 ?_ rfl
    refine J.icmp_ge (tgt := 105) (q := 37) dX6_readsSnail_34 rfl rfl (fun c34 => ?_) (fun c34 => ?_)
    · refine J.iconst (q := 106) dX6_readsSnail_105 ?_ rfl
      refine J.zreturn dX6_readsSnail_106 rfl (by omega) ?_
      first
      | (rw [partsP_f hst rfl 4 (by omega)]; exact ⟨rfl, rfl, hR8, hs⟩)
      | (have hw4 : w = 4 := by omega
         subst hw4; rw [hP]; exact ⟨rfl, rfl, hR, hs⟩)
    · refine J.aload_n (q := 38) dX6_readsSnail_37 rfl ?_ rfl
      refine J.aload_n (q := 39) dX6_readsSnail_38 rfl ?_ rfl
      refine J.getR (ci := 6) (k0 := 16) (c1 := 72) (q := 42) dX6_readsSnail_39 kF_X6_42 rfl (by decide) (by decide) rfl (by decide) rfl ?_ rfl
      refine J.callV1i (ci := 6) (q := 45) dX6_readsSnail_42 mv_X6_wordOf kL_X6_233 rfl (by decide) rfl ⟨by decide, by decide⟩ (Nat.le_of_ble_eq_true rfl) ⟨by decide, by decide⟩ rfl (c_X6_wordOf72 (by rw [hR.1 72 (by decide) (by decide)]; exact ha) ht.k ht.v) ?_
      rw [hR.wof 72 4 (by decide) (by decide)]
      refine J.iload_n (q := 46) dX6_readsSnail_45 rfl ?_ rfl
      refine J.icmp_ne (tgt := 99) (q := 49) (hv := by omega) dX6_readsSnail_46 rfl rfl (fun c46 => ?_) (fun c46 => ?_)
      · rw [if_neg c46] at hst
        refine J.iinc (q := 102) dX6_readsSnail_99 rfl ?_ rfl
        refine J.goto (tgt := 32) dX6_readsSnail_102 rfl ?_
        first
        | exact ih (w + 1) q s iv1 y4 (by omega) (by omega) hR hs h2 hst
        | (refine ih (w + 1) _ _ _ _ (by omega) (by omega) hR8.upd ?_ ?_ hst
           · exact hs.upd (by omega) (by omega) (by omega) (by omega) (fun c _ _ => ⟨by omega, by omega, by omega⟩) (fun i _ _ => ⟨by omega, fun _ => by omega, fun _ => by omega, fun _ => by omega, fun _ => by omega⟩) (by omega)
           · rw [upr_n _ _ (by omega)]; exact h2)
      · rw [if_pos c46] at hst
        refine J.aload_n (q := 50) dX6_readsSnail_49 rfl ?_ rfl
        refine J.callV0 (ci := 6) (q := 53) dX6_readsSnail_50 mv_X6_nextToken kL_X6_230 rfl (by decide) rfl ⟨by decide, by decide⟩ (Nat.le_of_ble_eq_true rfl) ⟨by decide, by decide⟩ rfl (c_X6_nextToken hA1 ht.e) (fun v9 S9 iv9 hp => ?_)
        obtain ⟨rfl, rfl, w0, w12, w13, w11, w14⟩ := hp
        have ht9 := ht.nx w0 w12 w13 w11 w14
        rw [hR.e70, hR.e10] at ht9
        have hR9 := hR.tok w0 ht9
        have hA9 := hR9.ai hA hs.1
        refine J.aload_n (q := 54) dX6_readsSnail_53 rfl ?_ rfl
        refine J.iconst (q := 55) dX6_readsSnail_54 ?_ rfl
        refine J.iload_n (q := 56) dX6_readsSnail_55 rfl ?_ rfl
        refine J.iconst (q := 57) dX6_readsSnail_56 ?_ rfl
        refine J.icmp_ne (tgt := 65) (q := 60) dX6_readsSnail_57 rfl rfl (fun c57 => ?_) (fun c57 => ?_)
        · refine J.iload_n (q := 66) dX6_readsSnail_65 rfl ?_ rfl
          refine J.iconst (q := 67) dX6_readsSnail_66 ?_ rfl
          refine J.icmp_ne (tgt := 75) (q := 70) dX6_readsSnail_67 rfl rfl (fun c67 => ?_) (fun c67 => ?_)
          · rw [show mostW (w : Int) = 80 by unfold mostW; rw [if_neg c57, if_neg c67]] at hst
            refine J.bipush (q := 77) dX6_readsSnail_75 (by decide) ?_ rfl
            refine J.callV2 (ci := 6) (q := 80) dX6_readsSnail_77 mv_X6_takesNumber kL_X6_237 rfl (by decide) rfl ⟨by decide, by decide⟩ (Nat.le_of_ble_eq_true rfl) ⟨by decide, by decide⟩ rfl (c_X6_takesNumber hA9 ht9 (by omega)) (fun v8 S8 iv8 hp => ?_)
            obtain ⟨rfl, rfl, x0, hx⟩ := hp
            have hR8 := hR9.tok x0 hx
            rw [hR9.e70, hR9.e10] at hR8 ⊢
            have htr7 := tkN_rng (iv0 70) (iv0 61 10) (tE (iv0 70) (iv0 61 10) q) 7
            have htr9 := tkN_rng (iv0 70) (iv0 61 10) (tE (iv0 70) (iv0 61 10) q) 99
            have htr8 := tkN_rng (iv0 70) (iv0 61 10) (tE (iv0 70) (iv0 61 10) q) 80
            refine J.istore (q := 82) dX6_readsSnail_80 (Nat.le_of_ble_eq_true rfl) ?_ rfl
            refine J.iload (q := 84) dX6_readsSnail_82 rfl ?_ rfl
            refine J.if_ge (tgt := 89) (q := 87) (hv := by omega) dX6_readsSnail_84 rfl rfl (fun c84 => ?_) (fun c84 => ?_)
            · rw [if_pos c84] at hst
              rw [tkQ, if_pos c84] at hR8
              refine J.aload_n (q := 90) dX6_readsSnail_89 rfl ?_ rfl
              refine J.iload_n (q := 91) dX6_readsSnail_90 rfl ?_ rfl
              refine J.iconst (q := 92) dX6_readsSnail_91 ?_ rfl
              refine J.iload_n (q := 93) dX6_readsSnail_92 rfl ?_ rfl
              refine J.iadd (q := 94) dX6_readsSnail_93 ?_ rfl
              refine J.iload (q := 96) dX6_readsSnail_94 rfl ?_ rfl
              refine J.callV3v (ci := 6) (q := 99) dX6_readsSnail_96 mv_X6_puts kL_X6_97 rfl (by decide) rfl ⟨by decide, by decide⟩ (Nat.le_of_ble_eq_true rfl) ⟨by decide, by decide⟩ rfl (c_X6_puts (by omega)) ?_
              refine J.iinc (q := 102) dX6_readsSnail_99 rfl ?_ rfl
              refine J.goto (tgt := 32) dX6_readsSnail_102 rfl ?_
              first
              | exact ih (w + 1) q s iv1 y4 (by omega) (by omega) hR hs h2 hst
              | (refine ih (w + 1) _ _ _ _ (by omega) (by omega) hR8.upd ?_ ?_ hst
                 · exact hs.upd (by omega) (by omega) (by omega) (by omega) (fun c _ _ => ⟨by omega, by omega, by omega⟩) (fun i _ _ => ⟨by omega, fun _ => by omega, fun _ => by omega, fun _ => by omega, fun _ => by omega⟩) (by omega)
                 · rw [upr_n _ _ (by omega)]; exact h2)
            · rw [if_neg (by omega)] at hst
              rw [tkQ, if_neg (by omega)] at hR8
              refine J.iconst (q := 88) dX6_readsSnail_87 ?_ rfl
              refine J.zreturn dX6_readsSnail_88 rfl (by omega) ?_
              first
              | (rw [partsP_f hst rfl 4 (by omega)]; exact ⟨rfl, rfl, hR8, hs⟩)
              | (have hw4 : w = 4 := by omega
                 subst hw4; rw [hP]; exact ⟨rfl, rfl, hR, hs⟩)
          · rw [show mostW (w : Int) = 99 by unfold mostW; rw [if_neg c57, if_pos c67]] at hst
            refine J.bipush (q := 72) dX6_readsSnail_70 (by decide) ?_ rfl
            refine J.goto (tgt := 77) dX6_readsSnail_72 rfl ?_
            refine J.callV2 (ci := 6) (q := 80) dX6_readsSnail_77 mv_X6_takesNumber kL_X6_237 rfl (by decide) rfl ⟨by decide, by decide⟩ (Nat.le_of_ble_eq_true rfl) ⟨by decide, by decide⟩ rfl (c_X6_takesNumber hA9 ht9 (by omega)) (fun v8 S8 iv8 hp => ?_)
            obtain ⟨rfl, rfl, x0, hx⟩ := hp
            have hR8 := hR9.tok x0 hx
            rw [hR9.e70, hR9.e10] at hR8 ⊢
            have htr7 := tkN_rng (iv0 70) (iv0 61 10) (tE (iv0 70) (iv0 61 10) q) 7
            have htr9 := tkN_rng (iv0 70) (iv0 61 10) (tE (iv0 70) (iv0 61 10) q) 99
            have htr8 := tkN_rng (iv0 70) (iv0 61 10) (tE (iv0 70) (iv0 61 10) q) 80
            refine J.istore (q := 82) dX6_readsSnail_80 (Nat.le_of_ble_eq_true rfl) ?_ rfl
            refine J.iload (q := 84) dX6_readsSnail_82 rfl ?_ rfl
            refine J.if_ge (tgt := 89) (q := 87) (hv := by omega) dX6_readsSnail_84 rfl rfl (fun c84 => ?_) (fun c84 => ?_)
            · rw [if_pos c84] at hst
              rw [tkQ, if_pos c84] at hR8
              refine J.aload_n (q := 90) dX6_readsSnail_89 rfl ?_ rfl
              refine J.iload_n (q := 91) dX6_readsSnail_90 rfl ?_ rfl
              refine J.iconst (q := 92) dX6_readsSnail_91 ?_ rfl
              refine J.iload_n (q := 93) dX6_readsSnail_92 rfl ?_ rfl
              refine J.iadd (q := 94) dX6_readsSnail_93 ?_ rfl
              refine J.iload (q := 96) dX6_readsSnail_94 rfl ?_ rfl
              refine J.callV3v (ci := 6) (q := 99) dX6_readsSnail_96 mv_X6_puts kL_X6_97 rfl (by decide) rfl ⟨by decide, by decide⟩ (Nat.le_of_ble_eq_true rfl) ⟨by decide, by decide⟩ rfl (c_X6_puts (by omega)) ?_
              refine J.iinc (q := 102) dX6_readsSnail_99 rfl ?_ rfl
              refine J.goto (tgt := 32) dX6_readsSnail_102 rfl ?_
              first
              | exact ih (w + 1) q s iv1 y4 (by omega) (by omega) hR hs h2 hst
              | (refine ih (w + 1) _ _ _ _ (by omega) (by omega) hR8.upd ?_ ?_ hst
                 · exact hs.upd (by omega) (by omega) (by omega) (by omega) (fun c _ _ => ⟨by omega, by omega, by omega⟩) (fun i _ _ => ⟨by omega, fun _ => by omega, fun _ => by omega, fun _ => by omega, fun _ => by omega⟩) (by omega)
                 · rw [upr_n _ _ (by omega)]; exact h2)
            · rw [if_neg (by omega)] at hst
              rw [tkQ, if_neg (by omega)] at hR8
              refine J.iconst (q := 88) dX6_readsSnail_87 ?_ rfl
              refine J.zreturn dX6_readsSnail_88 rfl (by omega) ?_
              first
              | (rw [partsP_f hst rfl 4 (by omega)]; exact ⟨rfl, rfl, hR8, hs⟩)
              | (have hw4 : w = 4 := by omega
                 subst hw4; rw [hP]; exact ⟨rfl, rfl, hR, hs⟩)
        · rw [show mostW (w : Int) = 7 from if_pos c57] at hst
          refine J.bipush (q := 62) dX6_readsSnail_60 (by decide) ?_ rfl
          refine J.goto (tgt := 77) dX6_readsSnail_62 rfl ?_
          refine J.callV2 (ci := 6) (q := 80) dX6_readsSnail_77 mv_X6_takesNumber kL_X6_237 rfl (by decide) rfl ⟨by decide, by decide⟩ (Nat.le_of_ble_eq_true rfl) ⟨by decide, by decide⟩ rfl (c_X6_takesNumber hA9 ht9 (by omega)) (fun v8 S8 iv8 hp => ?_)
          obtain ⟨rfl, rfl, x0, hx⟩ := hp
          have hR8 := hR9.tok x0 hx
          rw [hR9.e70, hR9.e10] at hR8 ⊢
          have htr7 := tkN_rng (iv0 70) (iv0 61 10) (tE (iv0 70) (iv0 61 10) q) 7
          have htr9 := tkN_rng (iv0 70) (iv0 61 10) (tE (iv0 70) (iv0 61 10) q) 99
          have htr8 := tkN_rng (iv0 70) (iv0 61 10) (tE (iv0 70) (iv0 61 10) q) 80
          refine J.istore (q := 82) dX6_readsSnail_80 (Nat.le_of_ble_eq_true rfl) ?_ rfl
          refine J.iload (q := 84) dX6_readsSnail_82 rfl ?_ rfl
          refine J.if_ge (tgt := 89) (q := 87) (hv := by omega) dX6_readsSnail_84 rfl rfl (fun c84 => ?_) (fun c84 => ?_)
          · rw [if_pos c84] at hst
            rw [tkQ, if_pos c84] at hR8
            refine J.aload_n (q := 90) dX6_readsSnail_89 rfl ?_ rfl
            refine J.iload_n (q := 91) dX6_readsSnail_90 rfl ?_ rfl
            refine J.iconst (q := 92) dX6_readsSnail_91 ?_ rfl
            refine J.iload_n (q := 93) dX6_readsSnail_92 rfl ?_ rfl
            refine J.iadd (q := 94) dX6_readsSnail_93 ?_ rfl
            refine J.iload (q := 96) dX6_readsSnail_94 rfl ?_ rfl
            refine J.callV3v (ci := 6) (q := 99) dX6_readsSnail_96 mv_X6_puts kL_X6_97 rfl (by decide) rfl ⟨by decide, by decide⟩ (Nat.le_of_ble_eq_true rfl) ⟨by decide, by decide⟩ rfl (c_X6_puts (by omega)) ?_
            refine J.iinc (q := 102) dX6_readsSnail_99 rfl ?_ rfl
            refine J.goto (tgt := 32) dX6_readsSnail_102 rfl ?_
            first
            | exact ih (w + 1) q s iv1 y4 (by omega) (by omega) hR hs h2 hst
            | (refine ih (w + 1) _ _ _ _ (by omega) (by omega) hR8.upd ?_ ?_ hst
               · exact hs.upd (by omega) (by omega) (by omega) (by omega) (fun c _ _ => ⟨by omega, by omega, by omega⟩) (fun i _ _ => ⟨by omega, fun _ => by omega, fun _ => by omega, fun _ => by omega, fun _ => by omega⟩) (by omega)
               · rw [upr_n _ _ (by omega)]; exact h2)
          · rw [if_neg (by omega)] at hst
            rw [tkQ, if_neg (by omega)] at hR8
            refine J.iconst (q := 88) dX6_readsSnail_87 ?_ rfl
            refine J.zreturn dX6_readsSnail_88 rfl (by omega) ?_
            first
            | (rw [partsP_f hst rfl 4 (by omega)]; exact ⟨rfl, rfl, hR8, hs⟩)
            | (have hw4 : w = 4 := by omega
               subst hw4; rw [hP]; exact ⟨rfl, rfl, hR, hs⟩)

set_option maxRecDepth 100000 in
set_option maxHeartbeats 4000000 in
theorem c_X6_readsSnail {l : Launch} {F : Nat × (Int → Int)} {iv0 iv : Mm} {s0 : Int → Int} (hA : AI iv0) (ha : Alph (iv0 72) 32) {s : Int → Int} {q kd : Int} {X : Pst} (hkd : 0 ≤ kd ∧ kd ≤ 6) (hR : Rd iv0 iv s q) (hs : Ms s0 s) (hX : rdSn (iv0 70) (iv0 61 10) (wd (iv0 72) 4 (iv0 70) (iv0 61 10)) s q kd = X) : Ctr l F 4 0 0 yX6_readsSnail cX6_readsSnail 5 (some FieldType.boolean) [r_ 61, i_ kd] S0 (iv) (fun v S iv2 => v = some (i_ (b2 (X.1 = true))) ∧ S = S0 ∧ Rd iv0 iv2 X.2.1 X.2.2 ∧ Ms s0 X.2.1) := by
  refine Ctr.of false (fun h => by cases h) (by decide) rfl (Nat.le_of_ble_eq_true rfl) ?_
  have es : iv 62 = s := hR.2.2.1
  have hm := hs.1.many
  rw [← es] at hm
  refine J.aload_n (q := 1) dX6_readsSnail_0 rfl ?_ rfl
  refine J.getR (ci := 6) (k0 := 0) (c1 := 62) (q := 4) dX6_readsSnail_1 kF_X6_9 rfl (by decide) (by decide) rfl (by decide) rfl ?_ rfl
  refine J.iconst (q := 5) dX6_readsSnail_4 ?_ rfl
  refine J.iald (n := 307) (q := 6) dX6_readsSnail_5 rfl (by omega) ?_ rfl
  refine J.bipush (q := 8) dX6_readsSnail_6 (by decide) ?_ rfl
  refine J.icmp_ne (tgt := 13) (q := 11) (hv := by omega) dX6_readsSnail_8 rfl rfl (fun c8 => ?_) (fun c8 => ?_)
  · rw [rdSn, if_neg (by rw [← es]; exact c8)] at hX
    refine J.aload_n (q := 14) dX6_readsSnail_13 rfl ?_ rfl
    refine J.getR (ci := 6) (k0 := 0) (c1 := 62) (q := 17) dX6_readsSnail_14 kF_X6_9 rfl (by decide) (by decide) rfl (by decide) rfl ?_ rfl
    refine J.iconst (q := 18) dX6_readsSnail_17 ?_ rfl
    refine J.iald (n := 307) (q := 19) dX6_readsSnail_18 rfl (by omega) ?_ rfl
    refine J.istore_n (q := 20) dX6_readsSnail_19 (Nat.le_of_ble_eq_true rfl) ?_ rfl
    refine J.aload_n (q := 21) dX6_readsSnail_20 rfl ?_ rfl
    refine J.iload_n (q := 22) dX6_readsSnail_21 rfl ?_ rfl
    refine J.iconst (q := 23) dX6_readsSnail_22 ?_ rfl
    refine J.callV2v (ci := 6) (q := 26) dX6_readsSnail_23 mv_X6_addsSnail kL_X6_128 rfl (by decide) rfl ⟨by decide, by decide⟩ (Nat.le_of_ble_eq_true rfl) ⟨by decide, by decide⟩ rfl (c_X6_addsSnail (by omega)) ?_
    rw [es]
    have hR1 := hR.row (t := addS s kd 0)
    have hs1 : Ms s0 (addS s kd 0) := addS_Ms hs (by rw [← es]; exact c8) hkd (by omega)
    have hA1 := hR1.ai hA hs1.1
    refine J.aload_n (q := 27) dX6_readsSnail_26 rfl ?_ rfl
    refine J.callV0 (ci := 6) (q := 30) dX6_readsSnail_27 mv_X6_nextToken kL_X6_230 rfl (by decide) rfl ⟨by decide, by decide⟩ (Nat.le_of_ble_eq_true rfl) ⟨by decide, by decide⟩ rfl (c_X6_nextToken hA1 hR1.2.2.2.e) (fun v9 S9 iv9 hp => ?_)
    obtain ⟨rfl, rfl, w0, w12, w13, w11, w14⟩ := hp
    have ht9 := hR1.2.2.2.nx w0 w12 w13 w11 w14
    rw [hR1.e70, hR1.e10] at ht9
    have hR9 := hR1.tok w0 ht9
    have hA9 := hR9.ai hA hs1.1
    refine J.iconst (q := 31) dX6_readsSnail_30 ?_ rfl
    refine J.istore_n (q := 32) dX6_readsSnail_31 (Nat.le_of_ble_eq_true rfl) ?_ rfl
    subst hX
    exact readsSnail_loop hA ha rfl (k := s 2) (by rw [← es]; omega) 5 0 _ _ iv9 none (by omega) (by omega) hR9 hs1 addS_2 rfl
  · rw [rdSn, if_pos (by rw [← es]; exact c8)] at hX
    refine J.iconst (q := 12) dX6_readsSnail_11 ?_ rfl
    refine J.zreturn dX6_readsSnail_12 rfl (by omega) ?_
    subst hX; exact ⟨rfl, rfl, hR, hs⟩

def mostO (w : Int) : Int := if w < 2 then 80 else if w = 2 then 7 else if w = 3 then 9 else 20
def mostU (w : Int) : Int := if w = 1 then 9 else 255
def rdW (T : Int → Int) (z w : Int) (s : Int → Int) (q : Int) : Pst :=
  if tkN T z (tE T z q) (mostO w) < 0 then (false, s, tE T z q)
  else if w = 1 ∨ w = 2 then
    (if tkN T z (tE T z (tE T z q)) (mostU w) < 0 then (false, s, tE T z (tE T z q))
     else (true, upr s ((if w = 1 then 95 else 6) + tkN T z (tE T z q) (mostO w)) (tkN T z (tE T z (tE T z q)) (mostU w)), tE T z (tE T z (tE T z q))))
  else (true, (if w = 0 then upr s (14 + tkN T z (tE T z q) (mostO w)) 1 else if w = 3 then upr s 4 (tkN T z (tE T z q) (mostO w)) else upr s 5 (tkN T z (tE T z q) (mostO w))), tE T z (tE T z q))
def rdIt (T : Int → Int) (z : Int) (WL WM WO : Int → Int) (s : Int → Int) (q : Int) : Pst :=
  if 0 ≤ WL q then rdSn T z WM s q (WL q) else if WO q < 0 then (false, s, q) else rdW T z (WO q) s q
set_option maxRecDepth 100000 in
set_option maxHeartbeats 4000000 in
theorem readsItem_0 {l : Launch} {F : Nat × (Int → Int)} {iv0 iv : Mm} {s0 : Int → Int} (hA : AI iv0) {s : Int → Int} {q k : Int} {y3 y4 y5 : Option VT} {X : Pst} (hR : Rd iv0 iv s q) (hs : Ms s0 s) (hX : rdW (iv0 70) (iv0 61 10) 0 s q = X) : J l (yX6_readsItem).cls cX6_readsItem 6 (some FieldType.boolean) 5 0 0 false F (fun v S iv2 => v = some (i_ (b2 (X.1 = true))) ∧ S = S0 ∧ Rd iv0 iv2 X.2.1 X.2.2 ∧ Ms s0 X.2.1) 0 0 34 [some (r_ 61), some (i_ k), some (i_ 0), y3, y4, y5] [] S0 (iv) := by
  have hA1 := hR.ai hA hs.1
  have hr1 := tkN_rng (iv0 70) (iv0 61 10) (tE (iv0 70) (iv0 61 10) q) 80
  have hX9 : (if tkN (iv0 70) (iv0 61 10) (tE (iv0 70) (iv0 61 10) q) 80 < 0 then (false, s, (tE (iv0 70) (iv0 61 10) q)) else (true, upr s (14 + tkN (iv0 70) (iv0 61 10) (tE (iv0 70) (iv0 61 10) q) 80) 1, (tE (iv0 70) (iv0 61 10) (tE (iv0 70) (iv0 61 10) q)))) = X := hX
  refine J.aload_n (q := 35) dX6_readsItem_34 rfl ?_ rfl
  refine J.callV0 (ci := 6) (q := 38) dX6_readsItem_35 mv_X6_nextToken kL_X6_230 rfl (by decide) rfl ⟨by decide, by decide⟩ (Nat.le_of_ble_eq_true rfl) ⟨by decide, by decide⟩ rfl (c_X6_nextToken hA1 hR.2.2.2.e) (fun v9 S9 iv9 hp => ?_)
  obtain ⟨rfl, rfl, w0, w12, w13, w11, w14⟩ := hp
  have ht9 := hR.2.2.2.nx w0 w12 w13 w11 w14
  rw [hR.e70, hR.e10] at ht9
  have hR9 := hR.tok w0 ht9
  have hA9 := hR9.ai hA hs.1
  refine J.aload_n (q := 39) dX6_readsItem_38 rfl ?_ rfl
  refine J.iconst (q := 40) dX6_readsItem_39 ?_ rfl
  refine J.iload_n (q := 41) dX6_readsItem_40 rfl ?_ rfl
  refine J.iconst (q := 42) dX6_readsItem_41 ?_ rfl
  refine J.icmp_ge (tgt := 50) (q := 45) dX6_readsItem_42 rfl rfl (fun c => absurd c (by decide)) (fun c42 => ?_)
  refine J.bipush (q := 47) dX6_readsItem_45 (by decide) ?_ rfl
  refine J.goto (tgt := 72) dX6_readsItem_47 rfl ?_
  refine J.callV2 (ci := 6) (q := 75) dX6_readsItem_72 mv_X6_takesNumber kL_X6_237 rfl (by decide) rfl ⟨by decide, by decide⟩ (Nat.le_of_ble_eq_true rfl) ⟨by decide, by decide⟩ rfl (c_X6_takesNumber hA9 ht9 (by omega)) (fun v8 S8 iv8 hp => ?_)
  obtain ⟨rfl, rfl, x8, hx8⟩ := hp
  rw [hR9.e70, hR9.e10] at hx8 ⊢
  have hR8 := hR9.tok x8 hx8
  have hA8 := hR8.ai hA hs.1
  refine J.istore_n (q := 76) dX6_readsItem_75 (Nat.le_of_ble_eq_true rfl) ?_ rfl
  refine J.iload_n (q := 77) dX6_readsItem_76 rfl ?_ rfl
  refine J.if_ge (tgt := 82) (q := 80) (hv := by omega) dX6_readsItem_77 rfl rfl (fun c77 => ?_) (fun c77 => ?_)
  · rw [if_neg (by omega)] at hX9
    rw [tkQ, if_pos (by omega)] at hR8
    refine J.iload_n (q := 83) dX6_readsItem_82 rfl ?_ rfl
    refine J.iconst (q := 84) dX6_readsItem_83 ?_ rfl
    refine J.icmp_eq (tgt := 92) (q := 87) dX6_readsItem_84 rfl rfl (fun c => absurd c (by decide)) (fun c84 => ?_)
    refine J.iload_n (q := 88) dX6_readsItem_87 rfl ?_ rfl
    refine J.iconst (q := 89) dX6_readsItem_88 ?_ rfl
    refine J.icmp_ne (tgt := 113) (q := 92) dX6_readsItem_89 rfl rfl (fun c89 => ?_) (fun c => absurd c (by decide))
    refine J.iconst (q := 114) dX6_readsItem_113 ?_ rfl
    refine J.istore (q := 116) dX6_readsItem_114 (Nat.le_of_ble_eq_true rfl) ?_ rfl
    refine J.iload (q := 118) dX6_readsItem_116 rfl ?_ rfl
    refine J.if_ge (tgt := 123) (q := 121) dX6_readsItem_118 rfl rfl (fun c118 => ?_) (fun c => absurd c (by decide))
    refine J.iload_n (q := 124) dX6_readsItem_123 rfl ?_ rfl
    refine J.if_ne (tgt := 134) (q := 127) dX6_readsItem_124 rfl rfl (fun c => absurd c (by decide)) (fun c124 => ?_)
    refine J.bipush (q := 129) dX6_readsItem_127 (by decide) ?_ rfl
    refine J.iload_n (q := 130) dX6_readsItem_129 rfl ?_ rfl
    refine J.iadd (q := 131) dX6_readsItem_130 ?_ rfl
    refine J.goto (tgt := 168) dX6_readsItem_131 rfl ?_
    refine J.istore (q := 170) dX6_readsItem_168 (Nat.le_of_ble_eq_true rfl) ?_ rfl
    refine J.aload_n (q := 171) dX6_readsItem_170 rfl ?_ rfl
    refine J.getR (ci := 6) (k0 := 0) (c1 := 62) (q := 174) dX6_readsItem_171 kF_X6_9 rfl (by decide) (by decide) rfl (by decide) rfl ?_ rfl
    refine J.iload (q := 176) dX6_readsItem_174 rfl ?_ rfl
    refine J.iload_n (q := 177) dX6_readsItem_176 rfl ?_ rfl
    refine J.iconst (q := 178) dX6_readsItem_177 ?_ rfl
    refine J.icmp_ge (tgt := 186) (q := 181) dX6_readsItem_178 rfl rfl (fun c => absurd c (by decide)) (fun c178 => ?_)
    refine J.iload (q := 183) dX6_readsItem_181 rfl ?_ rfl
    refine J.goto (tgt := 187) dX6_readsItem_183 rfl ?_
    refine J.iast (n := 307) (q := 188) dX6_readsItem_187 rfl (by omega) ?_ rfl
    refine J.iconst (q := 189) dX6_readsItem_188 ?_ rfl
    refine J.zreturn dX6_readsItem_189 rfl (by omega) ?_
    subst hX9
    first
    | exact ⟨rfl, rfl, hR8, hs⟩
    | exact ⟨rfl, rfl, hR7, hs⟩
    | exact ⟨rfl, rfl, hR8.upd, hs.upd (by omega) (by omega) (by omega) (by omega) (fun c _ _ => ⟨by omega, by omega, by omega⟩) (fun i _ _ => ⟨by omega, by omega, by omega, by omega, by omega⟩) (by omega)⟩
  · rw [if_pos (by omega)] at hX9
    rw [tkQ, if_neg (by omega)] at hR8
    refine J.iconst (q := 81) dX6_readsItem_80 ?_ rfl
    refine J.zreturn dX6_readsItem_81 rfl (by omega) ?_
    subst hX9
    first
    | exact ⟨rfl, rfl, hR8, hs⟩
    | exact ⟨rfl, rfl, hR7, hs⟩
    | exact ⟨rfl, rfl, hR8.upd, hs.upd (by omega) (by omega) (by omega) (by omega) (fun c _ _ => ⟨by omega, by omega, by omega⟩) (fun i _ _ => ⟨by omega, by omega, by omega, by omega, by omega⟩) (by omega)⟩

set_option maxRecDepth 100000 in
set_option maxHeartbeats 4000000 in
theorem readsItem_1 {l : Launch} {F : Nat × (Int → Int)} {iv0 iv : Mm} {s0 : Int → Int} (hA : AI iv0) {s : Int → Int} {q k : Int} {y3 y4 y5 : Option VT} {X : Pst} (hR : Rd iv0 iv s q) (hs : Ms s0 s) (hX : rdW (iv0 70) (iv0 61 10) 1 s q = X) : J l (yX6_readsItem).cls cX6_readsItem 6 (some FieldType.boolean) 5 0 0 false F (fun v S iv2 => v = some (i_ (b2 (X.1 = true))) ∧ S = S0 ∧ Rd iv0 iv2 X.2.1 X.2.2 ∧ Ms s0 X.2.1) 0 0 34 [some (r_ 61), some (i_ k), some (i_ 1), y3, y4, y5] [] S0 (iv) := by
  have hA1 := hR.ai hA hs.1
  have hr1 := tkN_rng (iv0 70) (iv0 61 10) (tE (iv0 70) (iv0 61 10) q) 80
  have hr2 := tkN_rng (iv0 70) (iv0 61 10) (tE (iv0 70) (iv0 61 10) (tE (iv0 70) (iv0 61 10) q)) 9
  have hX9 : (if tkN (iv0 70) (iv0 61 10) (tE (iv0 70) (iv0 61 10) q) 80 < 0 then (false, s, (tE (iv0 70) (iv0 61 10) q)) else if tkN (iv0 70) (iv0 61 10) (tE (iv0 70) (iv0 61 10) (tE (iv0 70) (iv0 61 10) q)) 9 < 0 then (false, s, (tE (iv0 70) (iv0 61 10) (tE (iv0 70) (iv0 61 10) q))) else (true, upr s (95 + tkN (iv0 70) (iv0 61 10) (tE (iv0 70) (iv0 61 10) q) 80) (tkN (iv0 70) (iv0 61 10) (tE (iv0 70) (iv0 61 10) (tE (iv0 70) (iv0 61 10) q)) 9), tE (iv0 70) (iv0 61 10) (tE (iv0 70) (iv0 61 10) (tE (iv0 70) (iv0 61 10) q)))) = X := hX
  refine J.aload_n (q := 35) dX6_readsItem_34 rfl ?_ rfl
  refine J.callV0 (ci := 6) (q := 38) dX6_readsItem_35 mv_X6_nextToken kL_X6_230 rfl (by decide) rfl ⟨by decide, by decide⟩ (Nat.le_of_ble_eq_true rfl) ⟨by decide, by decide⟩ rfl (c_X6_nextToken hA1 hR.2.2.2.e) (fun v9 S9 iv9 hp => ?_)
  obtain ⟨rfl, rfl, w0, w12, w13, w11, w14⟩ := hp
  have ht9 := hR.2.2.2.nx w0 w12 w13 w11 w14
  rw [hR.e70, hR.e10] at ht9
  have hR9 := hR.tok w0 ht9
  have hA9 := hR9.ai hA hs.1
  refine J.aload_n (q := 39) dX6_readsItem_38 rfl ?_ rfl
  refine J.iconst (q := 40) dX6_readsItem_39 ?_ rfl
  refine J.iload_n (q := 41) dX6_readsItem_40 rfl ?_ rfl
  refine J.iconst (q := 42) dX6_readsItem_41 ?_ rfl
  refine J.icmp_ge (tgt := 50) (q := 45) dX6_readsItem_42 rfl rfl (fun c => absurd c (by decide)) (fun c42 => ?_)
  refine J.bipush (q := 47) dX6_readsItem_45 (by decide) ?_ rfl
  refine J.goto (tgt := 72) dX6_readsItem_47 rfl ?_
  refine J.callV2 (ci := 6) (q := 75) dX6_readsItem_72 mv_X6_takesNumber kL_X6_237 rfl (by decide) rfl ⟨by decide, by decide⟩ (Nat.le_of_ble_eq_true rfl) ⟨by decide, by decide⟩ rfl (c_X6_takesNumber hA9 ht9 (by omega)) (fun v8 S8 iv8 hp => ?_)
  obtain ⟨rfl, rfl, x8, hx8⟩ := hp
  rw [hR9.e70, hR9.e10] at hx8 ⊢
  have hR8 := hR9.tok x8 hx8
  have hA8 := hR8.ai hA hs.1
  refine J.istore_n (q := 76) dX6_readsItem_75 (Nat.le_of_ble_eq_true rfl) ?_ rfl
  refine J.iload_n (q := 77) dX6_readsItem_76 rfl ?_ rfl
  refine J.if_ge (tgt := 82) (q := 80) (hv := by omega) dX6_readsItem_77 rfl rfl (fun c77 => ?_) (fun c77 => ?_)
  · rw [if_neg (by omega)] at hX9
    rw [tkQ, if_pos (by omega)] at hR8
    refine J.iload_n (q := 83) dX6_readsItem_82 rfl ?_ rfl
    refine J.iconst (q := 84) dX6_readsItem_83 ?_ rfl
    refine J.icmp_eq (tgt := 92) (q := 87) dX6_readsItem_84 rfl rfl (fun c84 => ?_) (fun c => absurd c (by decide))
    refine J.aload_n (q := 93) dX6_readsItem_92 rfl ?_ rfl
    refine J.iconst (q := 94) dX6_readsItem_93 ?_ rfl
    refine J.iload_n (q := 95) dX6_readsItem_94 rfl ?_ rfl
    refine J.iconst (q := 96) dX6_readsItem_95 ?_ rfl
    refine J.icmp_ne (tgt := 104) (q := 99) dX6_readsItem_96 rfl rfl (fun c => absurd c (by decide)) (fun c96 => ?_)
    refine J.bipush (q := 101) dX6_readsItem_99 (by decide) ?_ rfl
    refine J.goto (tgt := 107) dX6_readsItem_101 rfl ?_
    refine J.callV2 (ci := 6) (q := 110) dX6_readsItem_107 mv_X6_takesNumber kL_X6_237 rfl (by decide) rfl ⟨by decide, by decide⟩ (Nat.le_of_ble_eq_true rfl) ⟨by decide, by decide⟩ rfl (c_X6_takesNumber hA8 hR8.2.2.2 (by omega)) (fun v7 S7 iv7 hp => ?_)
    obtain ⟨rfl, rfl, x7, hx7⟩ := hp
    rw [hR8.e70, hR8.e10] at hx7 ⊢
    have hR7 := hR8.tok x7 hx7
    have hA7 := hR7.ai hA hs.1
    refine J.goto (tgt := 114) dX6_readsItem_110 rfl ?_
    refine J.istore (q := 116) dX6_readsItem_114 (Nat.le_of_ble_eq_true rfl) ?_ rfl
    refine J.iload (q := 118) dX6_readsItem_116 rfl ?_ rfl
    refine J.if_ge (tgt := 123) (q := 121) (hv := by omega) dX6_readsItem_118 rfl rfl (fun c118 => ?_) (fun c118 => ?_)
    · rw [if_neg (by omega)] at hX9
      rw [tkQ, if_pos (by omega)] at hR7
      refine J.iload_n (q := 124) dX6_readsItem_123 rfl ?_ rfl
      refine J.if_ne (tgt := 134) (q := 127) dX6_readsItem_124 rfl rfl (fun c124 => ?_) (fun c => absurd c (by decide))
      refine J.iload_n (q := 135) dX6_readsItem_134 rfl ?_ rfl
      refine J.iconst (q := 136) dX6_readsItem_135 ?_ rfl
      refine J.icmp_ne (tgt := 146) (q := 139) dX6_readsItem_136 rfl rfl (fun c => absurd c (by decide)) (fun c136 => ?_)
      refine J.bipush (q := 141) dX6_readsItem_139 (by decide) ?_ rfl
      refine J.iload_n (q := 142) dX6_readsItem_141 rfl ?_ rfl
      refine J.iadd (q := 143) dX6_readsItem_142 ?_ rfl
      refine J.goto (tgt := 168) dX6_readsItem_143 rfl ?_
      refine J.istore (q := 170) dX6_readsItem_168 (Nat.le_of_ble_eq_true rfl) ?_ rfl
      refine J.aload_n (q := 171) dX6_readsItem_170 rfl ?_ rfl
      refine J.getR (ci := 6) (k0 := 0) (c1 := 62) (q := 174) dX6_readsItem_171 kF_X6_9 rfl (by decide) (by decide) rfl (by decide) rfl ?_ rfl
      refine J.iload (q := 176) dX6_readsItem_174 rfl ?_ rfl
      refine J.iload_n (q := 177) dX6_readsItem_176 rfl ?_ rfl
      refine J.iconst (q := 178) dX6_readsItem_177 ?_ rfl
      refine J.icmp_ge (tgt := 186) (q := 181) dX6_readsItem_178 rfl rfl (fun c => absurd c (by decide)) (fun c178 => ?_)
      refine J.iload (q := 183) dX6_readsItem_181 rfl ?_ rfl
      refine J.goto (tgt := 187) dX6_readsItem_183 rfl ?_
      refine J.iast (n := 307) (q := 188) dX6_readsItem_187 rfl (by omega) ?_ rfl
      refine J.iconst (q := 189) dX6_readsItem_188 ?_ rfl
      refine J.zreturn dX6_readsItem_189 rfl (by omega) ?_
      subst hX9
      first
      | exact ⟨rfl, rfl, hR8, hs⟩
      | exact ⟨rfl, rfl, hR7, hs⟩
      | exact ⟨rfl, rfl, hR7.upd, hs.upd (by omega) (by omega) (by omega) (by omega) (fun c _ _ => ⟨by omega, by omega, by omega⟩) (fun i _ _ => ⟨by omega, by omega, by omega, by omega, by omega⟩) (by omega)⟩
    · rw [if_pos (by omega)] at hX9
      rw [tkQ, if_neg (by omega)] at hR7
      refine J.iconst (q := 122) dX6_readsItem_121 ?_ rfl
      refine J.zreturn dX6_readsItem_122 rfl (by omega) ?_
      subst hX9
      first
      | exact ⟨rfl, rfl, hR8, hs⟩
      | exact ⟨rfl, rfl, hR7, hs⟩
      | exact ⟨rfl, rfl, hR7.upd, hs.upd (by omega) (by omega) (by omega) (by omega) (fun c _ _ => ⟨by omega, by omega, by omega⟩) (fun i _ _ => ⟨by omega, by omega, by omega, by omega, by omega⟩) (by omega)⟩
  · rw [if_pos (by omega)] at hX9
    rw [tkQ, if_neg (by omega)] at hR8
    refine J.iconst (q := 81) dX6_readsItem_80 ?_ rfl
    refine J.zreturn dX6_readsItem_81 rfl (by omega) ?_
    subst hX9
    first
    | exact ⟨rfl, rfl, hR8, hs⟩
    | exact ⟨rfl, rfl, hR7, hs⟩
    | exact ⟨rfl, rfl, hR7.upd, hs.upd (by omega) (by omega) (by omega) (by omega) (fun c _ _ => ⟨by omega, by omega, by omega⟩) (fun i _ _ => ⟨by omega, by omega, by omega, by omega, by omega⟩) (by omega)⟩

set_option maxRecDepth 100000 in
set_option maxHeartbeats 4000000 in
theorem readsItem_2 {l : Launch} {F : Nat × (Int → Int)} {iv0 iv : Mm} {s0 : Int → Int} (hA : AI iv0) {s : Int → Int} {q k : Int} {y3 y4 y5 : Option VT} {X : Pst} (hR : Rd iv0 iv s q) (hs : Ms s0 s) (hX : rdW (iv0 70) (iv0 61 10) 2 s q = X) : J l (yX6_readsItem).cls cX6_readsItem 6 (some FieldType.boolean) 5 0 0 false F (fun v S iv2 => v = some (i_ (b2 (X.1 = true))) ∧ S = S0 ∧ Rd iv0 iv2 X.2.1 X.2.2 ∧ Ms s0 X.2.1) 0 0 34 [some (r_ 61), some (i_ k), some (i_ 2), y3, y4, y5] [] S0 (iv) := by
  have hA1 := hR.ai hA hs.1
  have hr1 := tkN_rng (iv0 70) (iv0 61 10) (tE (iv0 70) (iv0 61 10) q) 7
  have hr2 := tkN_rng (iv0 70) (iv0 61 10) (tE (iv0 70) (iv0 61 10) (tE (iv0 70) (iv0 61 10) q)) 255
  have hX9 : (if tkN (iv0 70) (iv0 61 10) (tE (iv0 70) (iv0 61 10) q) 7 < 0 then (false, s, (tE (iv0 70) (iv0 61 10) q)) else if tkN (iv0 70) (iv0 61 10) (tE (iv0 70) (iv0 61 10) (tE (iv0 70) (iv0 61 10) q)) 255 < 0 then (false, s, (tE (iv0 70) (iv0 61 10) (tE (iv0 70) (iv0 61 10) q))) else (true, upr s (6 + tkN (iv0 70) (iv0 61 10) (tE (iv0 70) (iv0 61 10) q) 7) (tkN (iv0 70) (iv0 61 10) (tE (iv0 70) (iv0 61 10) (tE (iv0 70) (iv0 61 10) q)) 255), tE (iv0 70) (iv0 61 10) (tE (iv0 70) (iv0 61 10) (tE (iv0 70) (iv0 61 10) q)))) = X := hX
  refine J.aload_n (q := 35) dX6_readsItem_34 rfl ?_ rfl
  refine J.callV0 (ci := 6) (q := 38) dX6_readsItem_35 mv_X6_nextToken kL_X6_230 rfl (by decide) rfl ⟨by decide, by decide⟩ (Nat.le_of_ble_eq_true rfl) ⟨by decide, by decide⟩ rfl (c_X6_nextToken hA1 hR.2.2.2.e) (fun v9 S9 iv9 hp => ?_)
  obtain ⟨rfl, rfl, w0, w12, w13, w11, w14⟩ := hp
  have ht9 := hR.2.2.2.nx w0 w12 w13 w11 w14
  rw [hR.e70, hR.e10] at ht9
  have hR9 := hR.tok w0 ht9
  have hA9 := hR9.ai hA hs.1
  refine J.aload_n (q := 39) dX6_readsItem_38 rfl ?_ rfl
  refine J.iconst (q := 40) dX6_readsItem_39 ?_ rfl
  refine J.iload_n (q := 41) dX6_readsItem_40 rfl ?_ rfl
  refine J.iconst (q := 42) dX6_readsItem_41 ?_ rfl
  refine J.icmp_ge (tgt := 50) (q := 45) dX6_readsItem_42 rfl rfl (fun c42 => ?_) (fun c => absurd c (by decide))
  refine J.iload_n (q := 51) dX6_readsItem_50 rfl ?_ rfl
  refine J.iconst (q := 52) dX6_readsItem_51 ?_ rfl
  refine J.icmp_ne (tgt := 60) (q := 55) dX6_readsItem_52 rfl rfl (fun c => absurd c (by decide)) (fun c52 => ?_)
  refine J.bipush (q := 57) dX6_readsItem_55 (by decide) ?_ rfl
  refine J.goto (tgt := 72) dX6_readsItem_57 rfl ?_
  refine J.callV2 (ci := 6) (q := 75) dX6_readsItem_72 mv_X6_takesNumber kL_X6_237 rfl (by decide) rfl ⟨by decide, by decide⟩ (Nat.le_of_ble_eq_true rfl) ⟨by decide, by decide⟩ rfl (c_X6_takesNumber hA9 ht9 (by omega)) (fun v8 S8 iv8 hp => ?_)
  obtain ⟨rfl, rfl, x8, hx8⟩ := hp
  rw [hR9.e70, hR9.e10] at hx8 ⊢
  have hR8 := hR9.tok x8 hx8
  have hA8 := hR8.ai hA hs.1
  refine J.istore_n (q := 76) dX6_readsItem_75 (Nat.le_of_ble_eq_true rfl) ?_ rfl
  refine J.iload_n (q := 77) dX6_readsItem_76 rfl ?_ rfl
  refine J.if_ge (tgt := 82) (q := 80) (hv := by omega) dX6_readsItem_77 rfl rfl (fun c77 => ?_) (fun c77 => ?_)
  · rw [if_neg (by omega)] at hX9
    rw [tkQ, if_pos (by omega)] at hR8
    refine J.iload_n (q := 83) dX6_readsItem_82 rfl ?_ rfl
    refine J.iconst (q := 84) dX6_readsItem_83 ?_ rfl
    refine J.icmp_eq (tgt := 92) (q := 87) dX6_readsItem_84 rfl rfl (fun c => absurd c (by decide)) (fun c84 => ?_)
    refine J.iload_n (q := 88) dX6_readsItem_87 rfl ?_ rfl
    refine J.iconst (q := 89) dX6_readsItem_88 ?_ rfl
    refine J.icmp_ne (tgt := 113) (q := 92) dX6_readsItem_89 rfl rfl (fun c => absurd c (by decide)) (fun c89 => ?_)
    refine J.aload_n (q := 93) dX6_readsItem_92 rfl ?_ rfl
    refine J.iconst (q := 94) dX6_readsItem_93 ?_ rfl
    refine J.iload_n (q := 95) dX6_readsItem_94 rfl ?_ rfl
    refine J.iconst (q := 96) dX6_readsItem_95 ?_ rfl
    refine J.icmp_ne (tgt := 104) (q := 99) dX6_readsItem_96 rfl rfl (fun c96 => ?_) (fun c => absurd c (by decide))
    refine J.sipush (q := 107) dX6_readsItem_104 (by decide) ?_ rfl
    refine J.callV2 (ci := 6) (q := 110) dX6_readsItem_107 mv_X6_takesNumber kL_X6_237 rfl (by decide) rfl ⟨by decide, by decide⟩ (Nat.le_of_ble_eq_true rfl) ⟨by decide, by decide⟩ rfl (c_X6_takesNumber hA8 hR8.2.2.2 (by omega)) (fun v7 S7 iv7 hp => ?_)
    obtain ⟨rfl, rfl, x7, hx7⟩ := hp
    rw [hR8.e70, hR8.e10] at hx7 ⊢
    have hR7 := hR8.tok x7 hx7
    have hA7 := hR7.ai hA hs.1
    refine J.goto (tgt := 114) dX6_readsItem_110 rfl ?_
    refine J.istore (q := 116) dX6_readsItem_114 (Nat.le_of_ble_eq_true rfl) ?_ rfl
    refine J.iload (q := 118) dX6_readsItem_116 rfl ?_ rfl
    refine J.if_ge (tgt := 123) (q := 121) (hv := by omega) dX6_readsItem_118 rfl rfl (fun c118 => ?_) (fun c118 => ?_)
    · rw [if_neg (by omega)] at hX9
      rw [tkQ, if_pos (by omega)] at hR7
      refine J.iload_n (q := 124) dX6_readsItem_123 rfl ?_ rfl
      refine J.if_ne (tgt := 134) (q := 127) dX6_readsItem_124 rfl rfl (fun c124 => ?_) (fun c => absurd c (by decide))
      refine J.iload_n (q := 135) dX6_readsItem_134 rfl ?_ rfl
      refine J.iconst (q := 136) dX6_readsItem_135 ?_ rfl
      refine J.icmp_ne (tgt := 146) (q := 139) dX6_readsItem_136 rfl rfl (fun c136 => ?_) (fun c => absurd c (by decide))
      refine J.iload_n (q := 147) dX6_readsItem_146 rfl ?_ rfl
      refine J.iconst (q := 148) dX6_readsItem_147 ?_ rfl
      refine J.icmp_ne (tgt := 158) (q := 151) dX6_readsItem_148 rfl rfl (fun c => absurd c (by decide)) (fun c148 => ?_)
      refine J.bipush (q := 153) dX6_readsItem_151 (by decide) ?_ rfl
      refine J.iload_n (q := 154) dX6_readsItem_153 rfl ?_ rfl
      refine J.iadd (q := 155) dX6_readsItem_154 ?_ rfl
      refine J.goto (tgt := 168) dX6_readsItem_155 rfl ?_
      refine J.istore (q := 170) dX6_readsItem_168 (Nat.le_of_ble_eq_true rfl) ?_ rfl
      refine J.aload_n (q := 171) dX6_readsItem_170 rfl ?_ rfl
      refine J.getR (ci := 6) (k0 := 0) (c1 := 62) (q := 174) dX6_readsItem_171 kF_X6_9 rfl (by decide) (by decide) rfl (by decide) rfl ?_ rfl
      refine J.iload (q := 176) dX6_readsItem_174 rfl ?_ rfl
      refine J.iload_n (q := 177) dX6_readsItem_176 rfl ?_ rfl
      refine J.iconst (q := 178) dX6_readsItem_177 ?_ rfl
      refine J.icmp_ge (tgt := 186) (q := 181) dX6_readsItem_178 rfl rfl (fun c => absurd c (by decide)) (fun c178 => ?_)
      refine J.iload (q := 183) dX6_readsItem_181 rfl ?_ rfl
      refine J.goto (tgt := 187) dX6_readsItem_183 rfl ?_
      refine J.iast (n := 307) (q := 188) dX6_readsItem_187 rfl (by omega) ?_ rfl
      refine J.iconst (q := 189) dX6_readsItem_188 ?_ rfl
      refine J.zreturn dX6_readsItem_189 rfl (by omega) ?_
      subst hX9
      first
      | exact ⟨rfl, rfl, hR8, hs⟩
      | exact ⟨rfl, rfl, hR7, hs⟩
      | exact ⟨rfl, rfl, hR7.upd, hs.upd (by omega) (by omega) (by omega) (by omega) (fun c _ _ => ⟨by omega, by omega, by omega⟩) (fun i _ _ => ⟨by omega, by omega, by omega, by omega, by omega⟩) (by omega)⟩
    · rw [if_pos (by omega)] at hX9
      rw [tkQ, if_neg (by omega)] at hR7
      refine J.iconst (q := 122) dX6_readsItem_121 ?_ rfl
      refine J.zreturn dX6_readsItem_122 rfl (by omega) ?_
      subst hX9
      first
      | exact ⟨rfl, rfl, hR8, hs⟩
      | exact ⟨rfl, rfl, hR7, hs⟩
      | exact ⟨rfl, rfl, hR7.upd, hs.upd (by omega) (by omega) (by omega) (by omega) (fun c _ _ => ⟨by omega, by omega, by omega⟩) (fun i _ _ => ⟨by omega, by omega, by omega, by omega, by omega⟩) (by omega)⟩
  · rw [if_pos (by omega)] at hX9
    rw [tkQ, if_neg (by omega)] at hR8
    refine J.iconst (q := 81) dX6_readsItem_80 ?_ rfl
    refine J.zreturn dX6_readsItem_81 rfl (by omega) ?_
    subst hX9
    first
    | exact ⟨rfl, rfl, hR8, hs⟩
    | exact ⟨rfl, rfl, hR7, hs⟩
    | exact ⟨rfl, rfl, hR7.upd, hs.upd (by omega) (by omega) (by omega) (by omega) (fun c _ _ => ⟨by omega, by omega, by omega⟩) (fun i _ _ => ⟨by omega, by omega, by omega, by omega, by omega⟩) (by omega)⟩

set_option maxRecDepth 100000 in
set_option maxHeartbeats 4000000 in
theorem readsItem_3 {l : Launch} {F : Nat × (Int → Int)} {iv0 iv : Mm} {s0 : Int → Int} (hA : AI iv0) {s : Int → Int} {q k : Int} {y3 y4 y5 : Option VT} {X : Pst} (hR : Rd iv0 iv s q) (hs : Ms s0 s) (hX : rdW (iv0 70) (iv0 61 10) 3 s q = X) : J l (yX6_readsItem).cls cX6_readsItem 6 (some FieldType.boolean) 5 0 0 false F (fun v S iv2 => v = some (i_ (b2 (X.1 = true))) ∧ S = S0 ∧ Rd iv0 iv2 X.2.1 X.2.2 ∧ Ms s0 X.2.1) 0 0 34 [some (r_ 61), some (i_ k), some (i_ 3), y3, y4, y5] [] S0 (iv) := by
  have hA1 := hR.ai hA hs.1
  have hr1 := tkN_rng (iv0 70) (iv0 61 10) (tE (iv0 70) (iv0 61 10) q) 9
  have hX9 : (if tkN (iv0 70) (iv0 61 10) (tE (iv0 70) (iv0 61 10) q) 9 < 0 then (false, s, (tE (iv0 70) (iv0 61 10) q)) else (true, upr s 4 (tkN (iv0 70) (iv0 61 10) (tE (iv0 70) (iv0 61 10) q) 9), (tE (iv0 70) (iv0 61 10) (tE (iv0 70) (iv0 61 10) q)))) = X := hX
  refine J.aload_n (q := 35) dX6_readsItem_34 rfl ?_ rfl
  refine J.callV0 (ci := 6) (q := 38) dX6_readsItem_35 mv_X6_nextToken kL_X6_230 rfl (by decide) rfl ⟨by decide, by decide⟩ (Nat.le_of_ble_eq_true rfl) ⟨by decide, by decide⟩ rfl (c_X6_nextToken hA1 hR.2.2.2.e) (fun v9 S9 iv9 hp => ?_)
  obtain ⟨rfl, rfl, w0, w12, w13, w11, w14⟩ := hp
  have ht9 := hR.2.2.2.nx w0 w12 w13 w11 w14
  rw [hR.e70, hR.e10] at ht9
  have hR9 := hR.tok w0 ht9
  have hA9 := hR9.ai hA hs.1
  refine J.aload_n (q := 39) dX6_readsItem_38 rfl ?_ rfl
  refine J.iconst (q := 40) dX6_readsItem_39 ?_ rfl
  refine J.iload_n (q := 41) dX6_readsItem_40 rfl ?_ rfl
  refine J.iconst (q := 42) dX6_readsItem_41 ?_ rfl
  refine J.icmp_ge (tgt := 50) (q := 45) dX6_readsItem_42 rfl rfl (fun c42 => ?_) (fun c => absurd c (by decide))
  refine J.iload_n (q := 51) dX6_readsItem_50 rfl ?_ rfl
  refine J.iconst (q := 52) dX6_readsItem_51 ?_ rfl
  refine J.icmp_ne (tgt := 60) (q := 55) dX6_readsItem_52 rfl rfl (fun c52 => ?_) (fun c => absurd c (by decide))
  refine J.iload_n (q := 61) dX6_readsItem_60 rfl ?_ rfl
  refine J.iconst (q := 62) dX6_readsItem_61 ?_ rfl
  refine J.icmp_ne (tgt := 70) (q := 65) dX6_readsItem_62 rfl rfl (fun c => absurd c (by decide)) (fun c62 => ?_)
  refine J.bipush (q := 67) dX6_readsItem_65 (by decide) ?_ rfl
  refine J.goto (tgt := 72) dX6_readsItem_67 rfl ?_
  refine J.callV2 (ci := 6) (q := 75) dX6_readsItem_72 mv_X6_takesNumber kL_X6_237 rfl (by decide) rfl ⟨by decide, by decide⟩ (Nat.le_of_ble_eq_true rfl) ⟨by decide, by decide⟩ rfl (c_X6_takesNumber hA9 ht9 (by omega)) (fun v8 S8 iv8 hp => ?_)
  obtain ⟨rfl, rfl, x8, hx8⟩ := hp
  rw [hR9.e70, hR9.e10] at hx8 ⊢
  have hR8 := hR9.tok x8 hx8
  have hA8 := hR8.ai hA hs.1
  refine J.istore_n (q := 76) dX6_readsItem_75 (Nat.le_of_ble_eq_true rfl) ?_ rfl
  refine J.iload_n (q := 77) dX6_readsItem_76 rfl ?_ rfl
  refine J.if_ge (tgt := 82) (q := 80) (hv := by omega) dX6_readsItem_77 rfl rfl (fun c77 => ?_) (fun c77 => ?_)
  · rw [if_neg (by omega)] at hX9
    rw [tkQ, if_pos (by omega)] at hR8
    refine J.iload_n (q := 83) dX6_readsItem_82 rfl ?_ rfl
    refine J.iconst (q := 84) dX6_readsItem_83 ?_ rfl
    refine J.icmp_eq (tgt := 92) (q := 87) dX6_readsItem_84 rfl rfl (fun c => absurd c (by decide)) (fun c84 => ?_)
    refine J.iload_n (q := 88) dX6_readsItem_87 rfl ?_ rfl
    refine J.iconst (q := 89) dX6_readsItem_88 ?_ rfl
    refine J.icmp_ne (tgt := 113) (q := 92) dX6_readsItem_89 rfl rfl (fun c89 => ?_) (fun c => absurd c (by decide))
    refine J.iconst (q := 114) dX6_readsItem_113 ?_ rfl
    refine J.istore (q := 116) dX6_readsItem_114 (Nat.le_of_ble_eq_true rfl) ?_ rfl
    refine J.iload (q := 118) dX6_readsItem_116 rfl ?_ rfl
    refine J.if_ge (tgt := 123) (q := 121) dX6_readsItem_118 rfl rfl (fun c118 => ?_) (fun c => absurd c (by decide))
    refine J.iload_n (q := 124) dX6_readsItem_123 rfl ?_ rfl
    refine J.if_ne (tgt := 134) (q := 127) dX6_readsItem_124 rfl rfl (fun c124 => ?_) (fun c => absurd c (by decide))
    refine J.iload_n (q := 135) dX6_readsItem_134 rfl ?_ rfl
    refine J.iconst (q := 136) dX6_readsItem_135 ?_ rfl
    refine J.icmp_ne (tgt := 146) (q := 139) dX6_readsItem_136 rfl rfl (fun c136 => ?_) (fun c => absurd c (by decide))
    refine J.iload_n (q := 147) dX6_readsItem_146 rfl ?_ rfl
    refine J.iconst (q := 148) dX6_readsItem_147 ?_ rfl
    refine J.icmp_ne (tgt := 158) (q := 151) dX6_readsItem_148 rfl rfl (fun c148 => ?_) (fun c => absurd c (by decide))
    refine J.iload_n (q := 159) dX6_readsItem_158 rfl ?_ rfl
    refine J.iconst (q := 160) dX6_readsItem_159 ?_ rfl
    refine J.icmp_ne (tgt := 167) (q := 163) dX6_readsItem_160 rfl rfl (fun c => absurd c (by decide)) (fun c160 => ?_)
    refine J.iconst (q := 164) dX6_readsItem_163 ?_ rfl
    refine J.goto (tgt := 168) dX6_readsItem_164 rfl ?_
    refine J.istore (q := 170) dX6_readsItem_168 (Nat.le_of_ble_eq_true rfl) ?_ rfl
    refine J.aload_n (q := 171) dX6_readsItem_170 rfl ?_ rfl
    refine J.getR (ci := 6) (k0 := 0) (c1 := 62) (q := 174) dX6_readsItem_171 kF_X6_9 rfl (by decide) (by decide) rfl (by decide) rfl ?_ rfl
    refine J.iload (q := 176) dX6_readsItem_174 rfl ?_ rfl
    refine J.iload_n (q := 177) dX6_readsItem_176 rfl ?_ rfl
    refine J.iconst (q := 178) dX6_readsItem_177 ?_ rfl
    refine J.icmp_ge (tgt := 186) (q := 181) dX6_readsItem_178 rfl rfl (fun c178 => ?_) (fun c => absurd c (by decide))
    refine J.iload_n (q := 187) dX6_readsItem_186 rfl ?_ rfl
    refine J.iast (n := 307) (q := 188) dX6_readsItem_187 rfl (by omega) ?_ rfl
    refine J.iconst (q := 189) dX6_readsItem_188 ?_ rfl
    refine J.zreturn dX6_readsItem_189 rfl (by omega) ?_
    subst hX9
    first
    | exact ⟨rfl, rfl, hR8, hs⟩
    | exact ⟨rfl, rfl, hR7, hs⟩
    | exact ⟨rfl, rfl, hR8.upd, hs.upd (by omega) (by omega) (by omega) (by omega) (fun c _ _ => ⟨by omega, by omega, by omega⟩) (fun i _ _ => ⟨by omega, by omega, by omega, by omega, by omega⟩) (by omega)⟩
  · rw [if_pos (by omega)] at hX9
    rw [tkQ, if_neg (by omega)] at hR8
    refine J.iconst (q := 81) dX6_readsItem_80 ?_ rfl
    refine J.zreturn dX6_readsItem_81 rfl (by omega) ?_
    subst hX9
    first
    | exact ⟨rfl, rfl, hR8, hs⟩
    | exact ⟨rfl, rfl, hR7, hs⟩
    | exact ⟨rfl, rfl, hR8.upd, hs.upd (by omega) (by omega) (by omega) (by omega) (fun c _ _ => ⟨by omega, by omega, by omega⟩) (fun i _ _ => ⟨by omega, by omega, by omega, by omega, by omega⟩) (by omega)⟩

set_option maxRecDepth 100000 in
set_option maxHeartbeats 4000000 in
theorem readsItem_4 {l : Launch} {F : Nat × (Int → Int)} {iv0 iv : Mm} {s0 : Int → Int} (hA : AI iv0) {s : Int → Int} {q k : Int} {y3 y4 y5 : Option VT} {X : Pst} (hR : Rd iv0 iv s q) (hs : Ms s0 s) (hX : rdW (iv0 70) (iv0 61 10) 4 s q = X) : J l (yX6_readsItem).cls cX6_readsItem 6 (some FieldType.boolean) 5 0 0 false F (fun v S iv2 => v = some (i_ (b2 (X.1 = true))) ∧ S = S0 ∧ Rd iv0 iv2 X.2.1 X.2.2 ∧ Ms s0 X.2.1) 0 0 34 [some (r_ 61), some (i_ k), some (i_ 4), y3, y4, y5] [] S0 (iv) := by
  have hA1 := hR.ai hA hs.1
  have hr1 := tkN_rng (iv0 70) (iv0 61 10) (tE (iv0 70) (iv0 61 10) q) 20
  have hX9 : (if tkN (iv0 70) (iv0 61 10) (tE (iv0 70) (iv0 61 10) q) 20 < 0 then (false, s, (tE (iv0 70) (iv0 61 10) q)) else (true, upr s 5 (tkN (iv0 70) (iv0 61 10) (tE (iv0 70) (iv0 61 10) q) 20), (tE (iv0 70) (iv0 61 10) (tE (iv0 70) (iv0 61 10) q)))) = X := hX
  refine J.aload_n (q := 35) dX6_readsItem_34 rfl ?_ rfl
  refine J.callV0 (ci := 6) (q := 38) dX6_readsItem_35 mv_X6_nextToken kL_X6_230 rfl (by decide) rfl ⟨by decide, by decide⟩ (Nat.le_of_ble_eq_true rfl) ⟨by decide, by decide⟩ rfl (c_X6_nextToken hA1 hR.2.2.2.e) (fun v9 S9 iv9 hp => ?_)
  obtain ⟨rfl, rfl, w0, w12, w13, w11, w14⟩ := hp
  have ht9 := hR.2.2.2.nx w0 w12 w13 w11 w14
  rw [hR.e70, hR.e10] at ht9
  have hR9 := hR.tok w0 ht9
  have hA9 := hR9.ai hA hs.1
  refine J.aload_n (q := 39) dX6_readsItem_38 rfl ?_ rfl
  refine J.iconst (q := 40) dX6_readsItem_39 ?_ rfl
  refine J.iload_n (q := 41) dX6_readsItem_40 rfl ?_ rfl
  refine J.iconst (q := 42) dX6_readsItem_41 ?_ rfl
  refine J.icmp_ge (tgt := 50) (q := 45) dX6_readsItem_42 rfl rfl (fun c42 => ?_) (fun c => absurd c (by decide))
  refine J.iload_n (q := 51) dX6_readsItem_50 rfl ?_ rfl
  refine J.iconst (q := 52) dX6_readsItem_51 ?_ rfl
  refine J.icmp_ne (tgt := 60) (q := 55) dX6_readsItem_52 rfl rfl (fun c52 => ?_) (fun c => absurd c (by decide))
  refine J.iload_n (q := 61) dX6_readsItem_60 rfl ?_ rfl
  refine J.iconst (q := 62) dX6_readsItem_61 ?_ rfl
  refine J.icmp_ne (tgt := 70) (q := 65) dX6_readsItem_62 rfl rfl (fun c62 => ?_) (fun c => absurd c (by decide))
  refine J.bipush (q := 72) dX6_readsItem_70 (by decide) ?_ rfl
  refine J.callV2 (ci := 6) (q := 75) dX6_readsItem_72 mv_X6_takesNumber kL_X6_237 rfl (by decide) rfl ⟨by decide, by decide⟩ (Nat.le_of_ble_eq_true rfl) ⟨by decide, by decide⟩ rfl (c_X6_takesNumber hA9 ht9 (by omega)) (fun v8 S8 iv8 hp => ?_)
  obtain ⟨rfl, rfl, x8, hx8⟩ := hp
  rw [hR9.e70, hR9.e10] at hx8 ⊢
  have hR8 := hR9.tok x8 hx8
  have hA8 := hR8.ai hA hs.1
  refine J.istore_n (q := 76) dX6_readsItem_75 (Nat.le_of_ble_eq_true rfl) ?_ rfl
  refine J.iload_n (q := 77) dX6_readsItem_76 rfl ?_ rfl
  refine J.if_ge (tgt := 82) (q := 80) (hv := by omega) dX6_readsItem_77 rfl rfl (fun c77 => ?_) (fun c77 => ?_)
  · rw [if_neg (by omega)] at hX9
    rw [tkQ, if_pos (by omega)] at hR8
    refine J.iload_n (q := 83) dX6_readsItem_82 rfl ?_ rfl
    refine J.iconst (q := 84) dX6_readsItem_83 ?_ rfl
    refine J.icmp_eq (tgt := 92) (q := 87) dX6_readsItem_84 rfl rfl (fun c => absurd c (by decide)) (fun c84 => ?_)
    refine J.iload_n (q := 88) dX6_readsItem_87 rfl ?_ rfl
    refine J.iconst (q := 89) dX6_readsItem_88 ?_ rfl
    refine J.icmp_ne (tgt := 113) (q := 92) dX6_readsItem_89 rfl rfl (fun c89 => ?_) (fun c => absurd c (by decide))
    refine J.iconst (q := 114) dX6_readsItem_113 ?_ rfl
    refine J.istore (q := 116) dX6_readsItem_114 (Nat.le_of_ble_eq_true rfl) ?_ rfl
    refine J.iload (q := 118) dX6_readsItem_116 rfl ?_ rfl
    refine J.if_ge (tgt := 123) (q := 121) dX6_readsItem_118 rfl rfl (fun c118 => ?_) (fun c => absurd c (by decide))
    refine J.iload_n (q := 124) dX6_readsItem_123 rfl ?_ rfl
    refine J.if_ne (tgt := 134) (q := 127) dX6_readsItem_124 rfl rfl (fun c124 => ?_) (fun c => absurd c (by decide))
    refine J.iload_n (q := 135) dX6_readsItem_134 rfl ?_ rfl
    refine J.iconst (q := 136) dX6_readsItem_135 ?_ rfl
    refine J.icmp_ne (tgt := 146) (q := 139) dX6_readsItem_136 rfl rfl (fun c136 => ?_) (fun c => absurd c (by decide))
    refine J.iload_n (q := 147) dX6_readsItem_146 rfl ?_ rfl
    refine J.iconst (q := 148) dX6_readsItem_147 ?_ rfl
    refine J.icmp_ne (tgt := 158) (q := 151) dX6_readsItem_148 rfl rfl (fun c148 => ?_) (fun c => absurd c (by decide))
    refine J.iload_n (q := 159) dX6_readsItem_158 rfl ?_ rfl
    refine J.iconst (q := 160) dX6_readsItem_159 ?_ rfl
    refine J.icmp_ne (tgt := 167) (q := 163) dX6_readsItem_160 rfl rfl (fun c160 => ?_) (fun c => absurd c (by decide))
    refine J.iconst (q := 168) dX6_readsItem_167 ?_ rfl
    refine J.istore (q := 170) dX6_readsItem_168 (Nat.le_of_ble_eq_true rfl) ?_ rfl
    refine J.aload_n (q := 171) dX6_readsItem_170 rfl ?_ rfl
    refine J.getR (ci := 6) (k0 := 0) (c1 := 62) (q := 174) dX6_readsItem_171 kF_X6_9 rfl (by decide) (by decide) rfl (by decide) rfl ?_ rfl
    refine J.iload (q := 176) dX6_readsItem_174 rfl ?_ rfl
    refine J.iload_n (q := 177) dX6_readsItem_176 rfl ?_ rfl
    refine J.iconst (q := 178) dX6_readsItem_177 ?_ rfl
    refine J.icmp_ge (tgt := 186) (q := 181) dX6_readsItem_178 rfl rfl (fun c178 => ?_) (fun c => absurd c (by decide))
    refine J.iload_n (q := 187) dX6_readsItem_186 rfl ?_ rfl
    refine J.iast (n := 307) (q := 188) dX6_readsItem_187 rfl (by omega) ?_ rfl
    refine J.iconst (q := 189) dX6_readsItem_188 ?_ rfl
    refine J.zreturn dX6_readsItem_189 rfl (by omega) ?_
    subst hX9
    first
    | exact ⟨rfl, rfl, hR8, hs⟩
    | exact ⟨rfl, rfl, hR7, hs⟩
    | exact ⟨rfl, rfl, hR8.upd, hs.upd (by omega) (by omega) (by omega) (by omega) (fun c _ _ => ⟨by omega, by omega, by omega⟩) (fun i _ _ => ⟨by omega, by omega, by omega, by omega, by omega⟩) (by omega)⟩
  · rw [if_pos (by omega)] at hX9
    rw [tkQ, if_neg (by omega)] at hR8
    refine J.iconst (q := 81) dX6_readsItem_80 ?_ rfl
    refine J.zreturn dX6_readsItem_81 rfl (by omega) ?_
    subst hX9
    first
    | exact ⟨rfl, rfl, hR8, hs⟩
    | exact ⟨rfl, rfl, hR7, hs⟩
    | exact ⟨rfl, rfl, hR8.upd, hs.upd (by omega) (by omega) (by omega) (by omega) (fun c _ _ => ⟨by omega, by omega, by omega⟩) (fun i _ _ => ⟨by omega, by omega, by omega, by omega, by omega⟩) (by omega)⟩

set_option maxRecDepth 100000 in
set_option maxHeartbeats 4000000 in
theorem c_X6_readsItem {l : Launch} {F : Nat × (Int → Int)} {iv0 iv : Mm} {s0 : Int → Int} (hA : AI iv0) (h71 : Alph (iv0 71) 56) (h72 : Alph (iv0 72) 32) (h73 : Alph (iv0 73) 40) {s : Int → Int} {q : Int} {X : Pst} (hR : Rd iv0 iv s q) (hs : Ms s0 s) (hX : rdIt (iv0 70) (iv0 61 10) (wd (iv0 71) 7 (iv0 70) (iv0 61 10)) (wd (iv0 72) 4 (iv0 70) (iv0 61 10)) (wd (iv0 73) 5 (iv0 70) (iv0 61 10)) s q = X) : Ctr l F 5 0 0 yX6_readsItem cX6_readsItem 6 (some FieldType.boolean) [r_ 61] S0 (iv) (fun v S iv2 => v = some (i_ (b2 (X.1 = true))) ∧ S = S0 ∧ Rd iv0 iv2 X.2.1 X.2.2 ∧ Ms s0 X.2.1) := by
  refine Ctr.of false (fun h => by cases h) (by decide) rfl (Nat.le_of_ble_eq_true rfl) ?_
  have ht := hR.2.2.2
  have hw1 := wd_rng (iv0 71) 7 (iv0 70) (iv0 61 10) q
  have hw3 := wd_rng (iv0 73) 5 (iv0 70) (iv0 61 10) q
  refine J.aload_n (q := 1) dX6_readsItem_0 rfl ?_ rfl
  refine J.aload_n (q := 2) dX6_readsItem_1 rfl ?_ rfl
  refine J.getR (ci := 6) (k0 := 15) (c1 := 71) (q := 5) dX6_readsItem_2 kF_X6_38 rfl (by decide) (by decide) rfl (by decide) rfl ?_ rfl
  refine J.callV1i (ci := 6) (q := 8) dX6_readsItem_5 mv_X6_wordOf kL_X6_233 rfl (by decide) rfl ⟨by decide, by decide⟩ (Nat.le_of_ble_eq_true rfl) ⟨by decide, by decide⟩ rfl (c_X6_wordOf71 (by rw [hR.1 71 (by decide) (by decide)]; exact h71) ht.k ht.v) ?_
  rw [hR.wof 71 7 (by decide) (by decide)]
  refine J.istore_n (q := 9) dX6_readsItem_8 (Nat.le_of_ble_eq_true rfl) ?_ rfl
  refine J.iload_n (q := 10) dX6_readsItem_9 rfl ?_ rfl
  refine J.if_lt (tgt := 19) (q := 13) (hv := by omega) dX6_readsItem_10 rfl rfl (fun c10 => ?_) (fun c10 => ?_)
  · rw [rdIt, if_neg (by omega)] at hX
    refine J.aload_n (q := 20) dX6_readsItem_19 rfl ?_ rfl
    refine J.aload_n (q := 21) dX6_readsItem_20 rfl ?_ rfl
    refine J.getR (ci := 6) (k0 := 17) (c1 := 73) (q := 24) dX6_readsItem_21 kF_X6_45 rfl (by decide) (by decide) rfl (by decide) rfl ?_ rfl
    refine J.callV1i (ci := 6) (q := 27) dX6_readsItem_24 mv_X6_wordOf kL_X6_233 rfl (by decide) rfl ⟨by decide, by decide⟩ (Nat.le_of_ble_eq_true rfl) ⟨by decide, by decide⟩ rfl (c_X6_wordOf73 (by rw [hR.1 73 (by decide) (by decide)]; exact h73) ht.k ht.v) ?_
    rw [hR.wof 73 5 (by decide) (by decide)]
    refine J.istore_n (q := 28) dX6_readsItem_27 (Nat.le_of_ble_eq_true rfl) ?_ rfl
    refine J.iload_n (q := 29) dX6_readsItem_28 rfl ?_ rfl
    refine J.if_ge (tgt := 34) (q := 32) (hv := by omega) dX6_readsItem_29 rfl rfl (fun c29 => ?_) (fun c29 => ?_)
    · rw [if_neg (by omega)] at hX
      generalize wd (iv0 73) 5 (iv0 70) (iv0 61 10) q = w at *
      rcases (show w = 0 ∨ w = 1 ∨ w = 2 ∨ w = 3 ∨ w = 4 by omega) with rfl | rfl | rfl | rfl | rfl
      · exact readsItem_0 hA hR hs hX
      · exact readsItem_1 hA hR hs hX
      · exact readsItem_2 hA hR hs hX
      · exact readsItem_3 hA hR hs hX
      · exact readsItem_4 hA hR hs hX
    · rw [if_pos (by omega)] at hX
      refine J.iconst (q := 33) dX6_readsItem_32 ?_ rfl
      refine J.zreturn dX6_readsItem_33 rfl (by omega) ?_
      first
      | exact ⟨rfl, rfl, h9⟩
      | (subst hX; exact ⟨rfl, rfl, hR, hs⟩)
  · rw [rdIt, if_pos c10] at hX
    refine J.aload_n (q := 14) dX6_readsItem_13 rfl ?_ rfl
    refine J.iload_n (q := 15) dX6_readsItem_14 rfl ?_ rfl
    refine J.callV1 (ci := 6) (q := 18) dX6_readsItem_15 mv_X6_readsSnail kL_X6_240 rfl (by decide) rfl ⟨by decide, by decide⟩ (Nat.le_of_ble_eq_true rfl) ⟨by decide, by decide⟩ rfl (c_X6_readsSnail hA h72 (by omega) hR hs hX) (fun v9 S9 iv9 hp => ?_)
    obtain ⟨rfl, rfl, h9⟩ := hp
    refine J.zreturn dX6_readsItem_18 rfl b2_01 ?_
    first
    | exact ⟨rfl, rfl, h9⟩
    | (subst hX; exact ⟨rfl, rfl, hR, hs⟩)

