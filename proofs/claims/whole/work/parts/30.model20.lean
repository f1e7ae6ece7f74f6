/-! the reference: what is read from tokens (printed by wip/whole/m_model20.py) -/
theorem fldT_rng {st : Int → Int → Int} {p : Int → Bool} {T : Int → Int} (h : ∀ i v, p i = true → 0 ≤ v ∧ v ≤ 300000000000000 → 0 ≤ st v (T i) ∧ st v (T i) ≤ 300000000000000) : ∀ (n : Nat) (i v : Int), 0 ≤ v ∧ v ≤ 300000000000000 → 0 ≤ fldT st p T n i v ∧ fldT st p T n i v ≤ 300000000000000
  | 0, _, _, hv => hv
  | n + 1, i, v, hv => by
    unfold fldT
    split
    · exact fldT_rng h n _ _ (h i v (by assumption) hv)
    · exact hv
theorem tV_rng (T : Int → Int) (z q : Int) : 0 ≤ tV T z q ∧ tV T z q ≤ 300000000000000 := by
  unfold tV tV'
  split
  · omega
  · split
    · exact fldT_rng (fun i v h hv => stW_r hv (of_decide_eq_true h)) _ _ _ (by omega)
    · split
      · exact fldT_rng (fun i v h hv => stN_r hv (of_decide_eq_true h)) _ _ _ (by omega)
      · omega
theorem tK_rng (T : Int → Int) (z q : Int) : 0 ≤ tK T z q ∧ tK T z q ≤ 4 := by
  unfold tK tK'
  repeat' split
  all_goals omega
theorem tB_rng {T : Int → Int} {z q : Int} (hq : q ≤ z) : q ≤ tB T z q ∧ tB T z q ≤ z := by
  have := runN_rng (blk T) (z - q).toNat q
  unfold tB
  omega
theorem tE_rng {T : Int → Int} {z q : Int} (hq : q ≤ z) : tB T z q ≤ tE T z q ∧ tE T z q ≤ z ∧ (tK T z q ≠ 0 → tB T z q < tE T z q) := by
  have hb := tB_rng (T := T) hq
  unfold tE tE' tK tK'
  by_cases h0 : tB T z q = z
  · rw [if_pos h0, if_pos h0]
    exact ⟨by omega, by omega, fun h => absurd rfl h⟩
  · rw [if_neg h0, if_neg h0]
    have hn : (z - tB T z q).toNat = (z - (tB T z q + 1)).toNat + 1 := by omega
    have key : ∀ p : Int → Bool, p (tB T z q) = true → tB T z q + 1 ≤ runN p (z - tB T z q).toNat (tB T z q) ∧ runN p (z - tB T z q).toNat (tB T z q) ≤ z := by
      intro p hp
      rw [hn, runN, if_pos hp]
      have := runN_rng p (z - (tB T z q + 1)).toNat (tB T z q + 1)
      omega
    split
    · have := key _ (by assumption)
      exact ⟨by omega, by omega, fun _ => by omega⟩
    · split
      · have := key _ (by assumption)
        exact ⟨by omega, by omega, fun _ => by omega⟩
      · exact ⟨by omega, by omega, fun _ => by omega⟩
def TokAt (iv : Mm) (q : Int) : Prop := (0 ≤ q ∧ q ≤ iv 61 10) ∧ iv 61 12 = tB (iv 70) (iv 61 10) q ∧ iv 61 13 = tE (iv 70) (iv 61 10) q ∧ iv 61 11 = tK (iv 70) (iv 61 10) q ∧ iv 61 14 = tV (iv 70) (iv 61 10) q
theorem TokAt.e {iv : Mm} {q : Int} (h : TokAt iv q) : 0 ≤ iv 61 13 ∧ iv 61 13 ≤ iv 61 10 := by
  have h1 := tB_rng (T := iv 70) h.1.2
  have h2 := tE_rng (T := iv 70) h.1.2
  have := h.1
  rw [h.2.2.1]
  omega
theorem TokAt.k {iv : Mm} {q : Int} (h : TokAt iv q) : 0 ≤ iv 61 11 ∧ iv 61 11 ≤ 4 := by rw [h.2.2.2.1]; exact tK_rng _ _ _
theorem TokAt.v {iv : Mm} {q : Int} (h : TokAt iv q) : 0 ≤ iv 61 14 ∧ iv 61 14 ≤ 300000000000000 := by rw [h.2.2.2.2]; exact tV_rng _ _ _
theorem TokAt.nx {iv iv2 : Mm} {q : Int} (h : TokAt iv q) (w0 : Tw iv iv2) (w12 : iv2 61 12 = tB (iv 70) (iv 61 10) (iv 61 13)) (w13 : iv2 61 13 = tE (iv 70) (iv 61 10) (iv 61 13)) (w11 : iv2 61 11 = tK (iv 70) (iv 61 10) (iv 61 13)) (w14 : iv2 61 14 = tV (iv 70) (iv 61 10) (iv 61 13)) : TokAt iv2 (tE (iv 70) (iv 61 10) q) := by
  have he := h.e
  have e70 : iv2 70 = iv 70 := w0.1 70 (by decide)
  have e10 : iv2 61 10 = iv 61 10 := w0.2 10 (by omega)
  rw [← h.2.2.1]
  refine ⟨by rw [e10]; exact he, ?_, ?_, ?_, ?_⟩
  · rw [e70, e10]; exact w12
  · rw [e70, e10]; exact w13
  · rw [e70, e10]; exact w11
  · rw [e70, e10]; exact w14
theorem I6_l2i {x : Int} (hx : -2147483648 ≤ x ∧ x < 2147483648) : (Int64.ofInt x).toInt32 = Int32.ofInt x := by
  rw [← Int32.toInt_inj, Int64.toInt_toInt32, I6_toInt (by omega), I3_toInt hx]
  exact Int.bmod_eq_of_le (by omega) (by omega)
theorem tV_num {T : Int → Int} {z q : Int} (h : tK T z q = 2) : tV T z q ≤ 999 := by
  unfold tK tK' at h
  unfold tV
  split at h
  · omega
  · split at h
    · omega
    · split at h
      · split at h <;> omega
      · split at h <;> omega
def tkN (T : Int → Int) (z q m : Int) : Int := if tK T z q = 2 ∧ tV T z q ≤ m then tV T z q else -1
def tkQ (T : Int → Int) (z q m : Int) : Int := if 0 ≤ tkN T z q m then tE T z q else q
theorem tkN_rng (T : Int → Int) (z q m : Int) : -1 ≤ tkN T z q m ∧ (0 ≤ tkN T z q m → tkN T z q m ≤ m) := by
  have := tV_rng T z q
  unfold tkN
  split <;> omega
set_option maxRecDepth 100000 in
set_option maxHeartbeats 4000000 in
theorem c_X6_takesNumber {l : Launch} {F : Nat × (Int → Int)} {iv : Mm} (hA : AI iv) {q m : Int} (hT : TokAt iv q) (hm : 0 ≤ m ∧ m ≤ 255) : Ctr l F 3 0 0 yX6_takesNumber cX6_takesNumber 4 (some FieldType.int) [r_ 61, i_ 0, i_ m] S0 (iv) (fun v S iv2 => v = some (i_ (tkN (iv 70) (iv 61 10) q m)) ∧ S = S0 ∧ Tw iv iv2 ∧ TokAt iv2 (tkQ (iv 70) (iv 61 10) q m)) := by
  refine Ctr.of false (fun h => by cases h) (by decide) rfl (Nat.le_of_ble_eq_true rfl) ?_
  have hk := hT.k
  have hv := hT.v
  have he := hT.e
  have hn : iv 61 11 = 2 → iv 61 14 ≤ 999 := fun h => by rw [hT.2.2.2.2]; exact tV_num (hT.2.2.2.1.symm.trans h)
  have hN : tkN (iv 70) (iv 61 10) q m = if iv 61 11 = 2 ∧ iv 61 14 ≤ m then iv 61 14 else -1 := by rw [hT.2.2.2.1, hT.2.2.2.2]; rfl
  have hQ : tkQ (iv 70) (iv 61 10) q m = if 0 ≤ tkN (iv 70) (iv 61 10) q m then tE (iv 70) (iv 61 10) q else q := rfl
  refine J.aload_n (q := 1) dX6_takesNumber_0 rfl ?_ rfl
  refine J.getI (ci := 6) (k0 := 11) (kz := 11) (q := 4) dX6_takesNumber_1 kF_X6_209 rfl (by decide) (by decide) rfl (.inl rfl) ?_ rfl
  refine J.iconst (q := 5) dX6_takesNumber_4 ?_ rfl
  refine J.icmp_ne (tgt := 29) (q := 8) (hv := by omega) dX6_takesNumber_5 rfl rfl (fun c5 => ?_) (fun c5 => ?_)
  · refine J.iconst (q := 30) dX6_takesNumber_29 ?_ rfl
    refine J.istore_n (q := 31) dX6_takesNumber_30 (Nat.le_of_ble_eq_true rfl) ?_ rfl
    refine J.iload_n (q := 32) dX6_takesNumber_31 rfl ?_ rfl
    refine J.if_lt (tgt := 39) (q := 35) (hv := by omega) dX6_takesNumber_32 rfl rfl (fun c32 => ?_) (fun c32 => ?_)
    · refine J.iload_n (q := 40) dX6_takesNumber_39 rfl ?_ rfl
      refine J.ireturn dX6_takesNumber_40 rfl ?_
      first
      | (rw [hQ, hN]; rw [if_pos (by omega), if_pos (by omega)]; exact ⟨rfl, rfl, w0, hX⟩)
      | (rw [hQ, hN]; rw [if_neg (by omega), if_neg (by omega)]; exact ⟨rfl, rfl, Tw.rf, hT⟩)
      | (exfalso; omega)
    · refine J.aload_n (q := 36) dX6_takesNumber_35 rfl ?_ rfl
      refine J.callV0 (ci := 6) (q := 39) dX6_takesNumber_36 mv_X6_nextToken kL_X6_230 rfl (by decide) rfl ⟨by decide, by decide⟩ (Nat.le_of_ble_eq_true rfl) ⟨by decide, by decide⟩ rfl (c_X6_nextToken hA he) (fun v9 S9 iv9 hp => ?_)
      obtain ⟨rfl, rfl, w0, w12, w13, w11, w14⟩ := hp
      have hX := hT.nx w0 w12 w13 w11 w14
      refine J.iload_n (q := 40) dX6_takesNumber_39 rfl ?_ rfl
      refine J.ireturn dX6_takesNumber_40 rfl ?_
      first
      | (rw [hQ, hN]; rw [if_pos (by omega), if_pos (by omega)]; exact ⟨rfl, rfl, w0, hX⟩)
      | (rw [hQ, hN]; rw [if_neg (by omega), if_neg (by omega)]; exact ⟨rfl, rfl, Tw.rf, hT⟩)
      | (exfalso; omega)
  · have hn9 := hn c5
    refine J.aload_n (q := 9) dX6_takesNumber_8 rfl ?_ rfl
    refine J.getL (ci := 6) (k0 := 14) (kz := 14) (q := 12) dX6_takesNumber_9 kF_X6_205 rfl (by decide) (by decide) rfl rfl ?_ rfl
    refine J.l2i (q := 13) (z := iv 61 14) dX6_takesNumber_12 (I6_l2i (by omega)) ?_ rfl
    refine J.iload_n (q := 14) dX6_takesNumber_13 rfl ?_ rfl
    refine J.iload_n (q := 15) dX6_takesNumber_14 rfl ?_ rfl
    refine J.callS3i (q := 18) dX6_takesNumber_15 mv_X6_in1 kS_X6_in1 kL_X6_61 ⟨by decide, by decide⟩ (Nat.le_of_ble_eq_true rfl) ⟨by decide, by decide⟩ rfl (c_X6_in1 (by omega) (by omega) (by omega)) ?_
    refine J.ifb_eq (tgt := 29) (q := 21) dX6_takesNumber_18 rfl rfl (fun c18 => ?_) (fun c18 => ?_)
    · refine J.iconst (q := 30) dX6_takesNumber_29 ?_ rfl
      refine J.istore_n (q := 31) dX6_takesNumber_30 (Nat.le_of_ble_eq_true rfl) ?_ rfl
      refine J.iload_n (q := 32) dX6_takesNumber_31 rfl ?_ rfl
      refine J.if_lt (tgt := 39) (q := 35) (hv := by omega) dX6_takesNumber_32 rfl rfl (fun c32 => ?_) (fun c32 => ?_)
      · refine J.iload_n (q := 40) dX6_takesNumber_39 rfl ?_ rfl
        refine J.ireturn dX6_takesNumber_40 rfl ?_
        first
        | (rw [hQ, hN]; rw [if_pos (by omega), if_pos (by omega)]; exact ⟨rfl, rfl, w0, hX⟩)
        | (rw [hQ, hN]; rw [if_neg (by omega), if_neg (by omega)]; exact ⟨rfl, rfl, Tw.rf, hT⟩)
        | (exfalso; omega)
      · refine J.aload_n (q := 36) dX6_takesNumber_35 rfl ?_ rfl
        refine J.callV0 (ci := 6) (q := 39) dX6_takesNumber_36 mv_X6_nextToken kL_X6_230 rfl (by decide) rfl ⟨by decide, by decide⟩ (Nat.le_of_ble_eq_true rfl) ⟨by decide, by decide⟩ rfl (c_X6_nextToken hA he) (fun v9 S9 iv9 hp => ?_)
        obtain ⟨rfl, rfl, w0, w12, w13, w11, w14⟩ := hp
        have hX := hT.nx w0 w12 w13 w11 w14
        refine J.iload_n (q := 40) dX6_takesNumber_39 rfl ?_ rfl
        refine J.ireturn dX6_takesNumber_40 rfl ?_
        first
        | (rw [hQ, hN]; rw [if_pos (by omega), if_pos (by omega)]; exact ⟨rfl, rfl, w0, hX⟩)
        | (rw [hQ, hN]; rw [if_neg (by omega), if_neg (by omega)]; exact ⟨rfl, rfl, Tw.rf, hT⟩)
        | (exfalso; omega)
    · refine J.aload_n (q := 22) dX6_takesNumber_21 rfl ?_ rfl
      refine J.getL (ci := 6) (k0 := 14) (kz := 14) (q := 25) dX6_takesNumber_22 kF_X6_205 rfl (by decide) (by decide) rfl rfl ?_ rfl
      refine J.l2i (q := 26) (z := iv 61 14) dX6_takesNumber_25 (I6_l2i (by omega)) ?_ rfl
      refine J.goto (tgt := 30) dX6_takesNumber_26 rfl ?_
      refine J.istore_n (q := 31) dX6_takesNumber_30 (Nat.le_of_ble_eq_true rfl) ?_ rfl
      refine J.iload_n (q := 32) dX6_takesNumber_31 rfl ?_ rfl
      refine J.if_lt (tgt := 39) (q := 35) (hv := by omega) dX6_takesNumber_32 rfl rfl (fun c32 => ?_) (fun c32 => ?_)
      · refine J.iload_n (q := 40) dX6_takesNumber_39 rfl ?_ rfl
        refine J.ireturn dX6_takesNumber_40 rfl ?_
        first
        | (rw [hQ, hN]; rw [if_pos (by omega), if_pos (by omega)]; exact ⟨rfl, rfl, w0, hX⟩)
        | (rw [hQ, hN]; rw [if_neg (by omega), if_neg (by omega)]; exact ⟨rfl, rfl, Tw.rf, hT⟩)
        | (exfalso; omega)
      · refine J.aload_n (q := 36) dX6_takesNumber_35 rfl ?_ rfl
        refine J.callV0 (ci := 6) (q := 39) dX6_takesNumber_36 mv_X6_nextToken kL_X6_230 rfl (by decide) rfl ⟨by decide, by decide⟩ (Nat.le_of_ble_eq_true rfl) ⟨by decide, by decide⟩ rfl (c_X6_nextToken hA he) (fun v9 S9 iv9 hp => ?_)
        obtain ⟨rfl, rfl, w0, w12, w13, w11, w14⟩ := hp
        have hX := hT.nx w0 w12 w13 w11 w14
        refine J.iload_n (q := 40) dX6_takesNumber_39 rfl ?_ rfl
        refine J.ireturn dX6_takesNumber_40 rfl ?_
        first
        | (rw [hQ, hN]; rw [if_pos (by omega), if_pos (by omega)]; exact ⟨rfl, rfl, w0, hX⟩)
        | (rw [hQ, hN]; rw [if_neg (by omega), if_neg (by omega)]; exact ⟨rfl, rfl, Tw.rf, hT⟩)
        | (exfalso; omega)

