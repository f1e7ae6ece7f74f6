/-! the class: tokens are cut (printed by wip/whole/m_c15.py) -/
def qn (T : Int → Int) (z : Int) : Nat → Int
  | 0 => 0
  | t + 1 => tE T z (qn T z t)
def sS (T : Int → Int) (b : Int) : Int := if ltr T b = true then 1 else if dgt T b = true then 2 else if T b = 59 then 3 else 4
def capN (v : Int) : Int := if 1000 < v then 1000 else v
theorem tB_z (T : Int → Int) (z : Int) : tB T z z = z := by
  unfold tB
  rw [show (z - z).toNat = 0 by omega]
  rfl
theorem tB_n {T : Int → Int} {z p : Int} (hp : p < z) (h : T p ≠ 32) : tB T z p = p := by
  unfold tB
  rw [show (z - p).toNat = (z - (p + 1)).toNat + 1 by omega, runN, if_neg]
  exact fun q => h (of_decide_eq_true q)
theorem tB_s {T : Int → Int} {z p : Int} (hp : p < z) (h : T p = 32) : tB T z p = tB T z (p + 1) := by
  unfold tB
  rw [show (z - p).toNat = (z - (p + 1)).toNat + 1 by omega, runN, if_pos]
  exact decide_eq_true h
theorem sS_1 {T : Int → Int} {i : Int} : decide (sS T i = 1) = ltr T i := by
  unfold sS
  cases h : ltr T i
  · simp only [Bool.false_eq_true, if_false]
    refine decide_eq_false (fun q => ?_)
    revert q
    split
    · omega
    · split <;> omega
  · simp
theorem dgt_nl {T : Int → Int} {i : Int} (h : dgt T i = true) : ltr T i = false := by
  unfold dgt at h
  unfold ltr
  have := of_decide_eq_true h
  exact decide_eq_false (by omega)
theorem sS_2 {T : Int → Int} {i : Int} : decide (sS T i = 2) = dgt T i := by
  unfold sS
  cases h : dgt T i
  · refine decide_eq_false (fun q => ?_)
    revert q
    simp only [Bool.false_eq_true, if_false]
    split
    · omega
    · split <;> omega
  · simp [dgt_nl h]
theorem sS_r (T : Int → Int) (i : Int) : 1 ≤ sS T i ∧ sS T i ≤ 4 := by
  unfold sS
  repeat' split
  all_goals omega
theorem runN_in {p : Int → Bool} : ∀ (n : Nat) (i j : Int), i ≤ j → j < runN p n i → p j = true
  | 0, i, j, h1, h2 => by
    have h2 : j < i := h2
    omega
  | n + 1, i, j, h1, h2 => by
    rw [runN] at h2
    by_cases hp : p i = true
    · rw [if_pos hp] at h2
      by_cases e : j = i
      · rw [e]; exact hp
      · exact runN_in n (i + 1) j (by omega) h2
    · rw [if_neg hp] at h2
      omega
/-- where the token that starts at p ends -/
theorem tE_c {T : Int → Int} {z p : Int} (hp : p < z) : tE' T z p = if sS T p = 1 ∨ sS T p = 2 then runN (fun i => decide (sS T i = sS T p)) (z - (p + 1)).toNat (p + 1) else p + 1 := by
  unfold tE'
  rw [if_neg (by omega), show (z - p).toNat = (z - (p + 1)).toNat + 1 by omega]
  by_cases h1 : ltr T p = true
  · have hs : sS T p = 1 := by unfold sS; rw [if_pos h1]
    rw [if_pos h1, if_pos (Or.inl hs), hs, runN, if_pos h1]
    congr 1
    funext i
    exact sS_1.symm
  · rw [if_neg h1]
    by_cases h2 : dgt T p = true
    · have hs : sS T p = 2 := by unfold sS; rw [if_neg h1, if_pos h2]
      rw [if_pos h2, if_pos (Or.inr hs), hs, runN, if_pos h2]
      congr 1
      funext i
      exact sS_2.symm
    · have hs : ¬ (sS T p = 1 ∨ sS T p = 2) := by
        unfold sS
        rw [if_neg h1, if_neg h2]
        split <;> omega
      rw [if_neg h2, if_neg hs]
theorem tV_c {T : Int → Int} {z p : Int} (hp : p < z) (hs : sS T p = 2) : tV' T z p = fldT stN (dgt T) T (z - p).toNat p 0 ∧ dgt T p = true := by
  have h2 : dgt T p = true := by rw [← sS_2]; exact decide_eq_true hs
  have h1 := dgt_nl h2
  unfold tV'
  rw [if_neg (by omega), if_neg (by rw [h1]; decide), if_pos h2]
  exact ⟨rfl, h2⟩
set_option maxRecDepth 100000 in
set_option maxHeartbeats 4000000 in
theorem c_X3_sortOf {l : Launch} {F : Nat × (Int → Int)} {iv : Mm} {T : Int → Int} {p x : Int} (hx : T p = x) (hr : 0 ≤ x ∧ x ≤ 255) : Ctr l F 0 0 0 yX3_sortOf cX3_sortOf 1 (some FieldType.int) [i_ x] S0 (iv) (Ret (some (i_ (sS T p))) S0 iv) := by
  refine Ctr.of false (fun h => by cases h) (by decide) rfl (Nat.le_of_ble_eq_true rfl) ?_
  refine J.iload_n (q := 1) dX3_sortOf_0 rfl ?_ rfl
  refine J.bipush (q := 3) dX3_sortOf_1 (by decide) ?_ rfl
  refine J.icmp_lt (tgt := 14) (q := 6) dX3_sortOf_3 rfl rfl (fun c3 => ?_) (fun c3 => ?_)
  · refine J.iload_n (q := 15) dX3_sortOf_14 rfl ?_ rfl
    refine J.bipush (q := 17) dX3_sortOf_15 (by decide) ?_ rfl
    refine J.icmp_lt (tgt := 28) (q := 20) dX3_sortOf_17 rfl rfl (fun c17 => ?_) (fun c17 => ?_)
    · refine J.iload_n (q := 29) dX3_sortOf_28 rfl ?_ rfl
      refine J.bipush (q := 31) dX3_sortOf_29 (by decide) ?_ rfl
      refine J.icmp_ne (tgt := 38) (q := 34) dX3_sortOf_31 rfl rfl (fun c31 => ?_) (fun c31 => ?_)
      · refine J.iconst (q := 39) dX3_sortOf_38 ?_ rfl
        refine J.ireturn dX3_sortOf_39 rfl ?_
        refine ⟨congrArg (fun q => some (i_ q)) ?_, rfl, rfl⟩
        unfold sS ltr dgt
        rw [hx]
        by_cases h1 : 97 ≤ x ∧ x ≤ 122
        · rw [if_pos (decide_eq_true h1)] <;> omega
        · rw [if_neg (fun q => h1 (of_decide_eq_true q))]
          by_cases h2 : 48 ≤ x ∧ x ≤ 57
          · rw [if_pos (decide_eq_true h2)] <;> omega
          · rw [if_neg (fun q => h2 (of_decide_eq_true q))]
            by_cases h3 : x = 59
            · rw [if_pos h3] <;> omega
            · rw [if_neg h3] <;> omega
      · refine J.iconst (q := 35) dX3_sortOf_34 ?_ rfl
        refine J.goto (tgt := 39) dX3_sortOf_35 rfl ?_
        refine J.ireturn dX3_sortOf_39 rfl ?_
        refine ⟨congrArg (fun q => some (i_ q)) ?_, rfl, rfl⟩
        unfold sS ltr dgt
        rw [hx]
        by_cases h1 : 97 ≤ x ∧ x ≤ 122
        · rw [if_pos (decide_eq_true h1)] <;> omega
        · rw [if_neg (fun q => h1 (of_decide_eq_true q))]
          by_cases h2 : 48 ≤ x ∧ x ≤ 57
          · rw [if_pos (decide_eq_true h2)] <;> omega
          · rw [if_neg (fun q => h2 (of_decide_eq_true q))]
            by_cases h3 : x = 59
            · rw [if_pos h3] <;> omega
            · rw [if_neg h3] <;> omega
    · refine J.iload_n (q := 21) dX3_sortOf_20 rfl ?_ rfl
      refine J.bipush (q := 23) dX3_sortOf_21 (by decide) ?_ rfl
      refine J.icmp_gt (tgt := 28) (q := 26) dX3_sortOf_23 rfl rfl (fun c23 => ?_) (fun c23 => ?_)
      · refine J.iload_n (q := 29) dX3_sortOf_28 rfl ?_ rfl
        refine J.bipush (q := 31) dX3_sortOf_29 (by decide) ?_ rfl
        refine J.icmp_ne (tgt := 38) (q := 34) dX3_sortOf_31 rfl rfl (fun c31 => ?_) (fun c31 => ?_)
        · refine J.iconst (q := 39) dX3_sortOf_38 ?_ rfl
          refine J.ireturn dX3_sortOf_39 rfl ?_
          refine ⟨congrArg (fun q => some (i_ q)) ?_, rfl, rfl⟩
          unfold sS ltr dgt
          rw [hx]
          by_cases h1 : 97 ≤ x ∧ x ≤ 122
          · rw [if_pos (decide_eq_true h1)] <;> omega
          · rw [if_neg (fun q => h1 (of_decide_eq_true q))]
            by_cases h2 : 48 ≤ x ∧ x ≤ 57
            · rw [if_pos (decide_eq_true h2)] <;> omega
            · rw [if_neg (fun q => h2 (of_decide_eq_true q))]
              by_cases h3 : x = 59
              · rw [if_pos h3] <;> omega
              · rw [if_neg h3] <;> omega
        · refine J.iconst (q := 35) dX3_sortOf_34 ?_ rfl
          refine J.goto (tgt := 39) dX3_sortOf_35 rfl ?_
          refine J.ireturn dX3_sortOf_39 rfl ?_
          refine ⟨congrArg (fun q => some (i_ q)) ?_, rfl, rfl⟩
          unfold sS ltr dgt
          rw [hx]
          by_cases h1 : 97 ≤ x ∧ x ≤ 122
          · rw [if_pos (decide_eq_true h1)] <;> omega
          · rw [if_neg (fun q => h1 (of_decide_eq_true q))]
            by_cases h2 : 48 ≤ x ∧ x ≤ 57
            · rw [if_pos (decide_eq_true h2)] <;> omega
            · rw [if_neg (fun q => h2 (of_decide_eq_true q))]
              by_cases h3 : x = 59
              · rw [if_pos h3] <;> omega
              · rw [if_neg h3] <;> omega
      · refine J.iconst (q := 27) dX3_sortOf_26 ?_ rfl
        refine J.ireturn dX3_sortOf_27 rfl ?_
        refine ⟨congrArg (fun q => some (i_ q)) ?_, rfl, rfl⟩
        unfold sS ltr dgt
        rw [hx]
        by_cases h1 : 97 ≤ x ∧ x ≤ 122
        · rw [if_pos (decide_eq_true h1)] <;> omega
        · rw [if_neg (fun q => h1 (of_decide_eq_true q))]
          by_cases h2 : 48 ≤ x ∧ x ≤ 57
          · rw [if_pos (decide_eq_true h2)] <;> omega
          · rw [if_neg (fun q => h2 (of_decide_eq_true q))]
            by_cases h3 : x = 59
            · rw [if_pos h3] <;> omega
            · rw [if_neg h3] <;> omega
  · refine J.iload_n (q := 7) dX3_sortOf_6 rfl ?_ rfl
    refine J.bipush (q := 9) dX3_sortOf_7 (by decide) ?_ rfl
    refine J.icmp_gt (tgt := 14) (q := 12) dX3_sortOf_9 rfl rfl (fun c9 => ?_) (fun c9 => ?_)
    · refine J.iload_n (q := 15) dX3_sortOf_14 rfl ?_ rfl
      refine J.bipush (q := 17) dX3_sortOf_15 (by decide) ?_ rfl
      refine J.icmp_lt (tgt := 28) (q := 20) dX3_sortOf_17 rfl rfl (fun c17 => ?_) (fun c17 => ?_)
      · refine J.iload_n (q := 29) dX3_sortOf_28 rfl ?_ rfl
        refine J.bipush (q := 31) dX3_sortOf_29 (by decide) ?_ rfl
        refine J.icmp_ne (tgt := 38) (q := 34) dX3_sortOf_31 rfl rfl (fun c31 => ?_) (fun c31 => ?_)
        · refine J.iconst (q := 39) dX3_sortOf_38 ?_ rfl
          refine J.ireturn dX3_sortOf_39 rfl ?_
          refine ⟨congrArg (fun q => some (i_ q)) ?_, rfl, rfl⟩
          unfold sS ltr dgt
          rw [hx]
          by_cases h1 : 97 ≤ x ∧ x ≤ 122
          · rw [if_pos (decide_eq_true h1)] <;> omega
          · rw [if_neg (fun q => h1 (of_decide_eq_true q))]
            by_cases h2 : 48 ≤ x ∧ x ≤ 57
            · rw [if_pos (decide_eq_true h2)] <;> omega
            · rw [if_neg (fun q => h2 (of_decide_eq_true q))]
              by_cases h3 : x = 59
              · rw [if_pos h3] <;> omega
              · rw [if_neg h3] <;> omega
        · refine J.iconst (q := 35) dX3_sortOf_34 ?_ rfl
          refine J.goto (tgt := 39) dX3_sortOf_35 rfl ?_
          refine J.ireturn dX3_sortOf_39 rfl ?_
          refine ⟨congrArg (fun q => some (i_ q)) ?_, rfl, rfl⟩
          unfold sS ltr dgt
          rw [hx]
          by_cases h1 : 97 ≤ x ∧ x ≤ 122
          · rw [if_pos (decide_eq_true h1)] <;> omega
          · rw [if_neg (fun q => h1 (of_decide_eq_true q))]
            by_cases h2 : 48 ≤ x ∧ x ≤ 57
            · rw [if_pos (decide_eq_true h2)] <;> omega
            · rw [if_neg (fun q => h2 (of_decide_eq_true q))]
              by_cases h3 : x = 59
              · rw [if_pos h3] <;> omega
              · rw [if_neg h3] <;> omega
      · refine J.iload_n (q := 21) dX3_sortOf_20 rfl ?_ rfl
        refine J.bipush (q := 23) dX3_sortOf_21 (by decide) ?_ rfl
        refine J.icmp_gt (tgt := 28) (q := 26) dX3_sortOf_23 rfl rfl (fun c23 => ?_) (fun c23 => ?_)
        · refine J.iload_n (q := 29) dX3_sortOf_28 rfl ?_ rfl
          refine J.bipush (q := 31) dX3_sortOf_29 (by decide) ?_ rfl
          refine J.icmp_ne (tgt := 38) (q := 34) dX3_sortOf_31 rfl rfl (fun c31 => ?_) (fun c31 => ?_)
          · refine J.iconst (q := 39) dX3_sortOf_38 ?_ rfl
            refine J.ireturn dX3_sortOf_39 rfl ?_
            refine ⟨congrArg (fun q => some (i_ q)) ?_, rfl, rfl⟩
            unfold sS ltr dgt
            rw [hx]
            by_cases h1 : 97 ≤ x ∧ x ≤ 122
            · rw [if_pos (decide_eq_true h1)] <;> omega
            · rw [if_neg (fun q => h1 (of_decide_eq_true q))]
              by_cases h2 : 48 ≤ x ∧ x ≤ 57
              · rw [if_pos (decide_eq_true h2)] <;> omega
              · rw [if_neg (fun q => h2 (of_decide_eq_true q))]
                by_cases h3 : x = 59
                · rw [if_pos h3] <;> omega
                · rw [if_neg h3] <;> omega
          · refine J.iconst (q := 35) dX3_sortOf_34 ?_ rfl
            refine J.goto (tgt := 39) dX3_sortOf_35 rfl ?_
            refine J.ireturn dX3_sortOf_39 rfl ?_
            refine ⟨congrArg (fun q => some (i_ q)) ?_, rfl, rfl⟩
            unfold sS ltr dgt
            rw [hx]
            by_cases h1 : 97 ≤ x ∧ x ≤ 122
            · rw [if_pos (decide_eq_true h1)] <;> omega
            · rw [if_neg (fun q => h1 (of_decide_eq_true q))]
              by_cases h2 : 48 ≤ x ∧ x ≤ 57
              · rw [if_pos (decide_eq_true h2)] <;> omega
              · rw [if_neg (fun q => h2 (of_decide_eq_true q))]
                by_cases h3 : x = 59
                · rw [if_pos h3] <;> omega
                · rw [if_neg h3] <;> omega
        · refine J.iconst (q := 27) dX3_sortOf_26 ?_ rfl
          refine J.ireturn dX3_sortOf_27 rfl ?_
          refine ⟨congrArg (fun q => some (i_ q)) ?_, rfl, rfl⟩
          unfold sS ltr dgt
          rw [hx]
          by_cases h1 : 97 ≤ x ∧ x ≤ 122
          · rw [if_pos (decide_eq_true h1)] <;> omega
          · rw [if_neg (fun q => h1 (of_decide_eq_true q))]
            by_cases h2 : 48 ≤ x ∧ x ≤ 57
            · rw [if_pos (decide_eq_true h2)] <;> omega
            · rw [if_neg (fun q => h2 (of_decide_eq_true q))]
              by_cases h3 : x = 59
              · rw [if_pos h3] <;> omega
              · rw [if_neg h3] <;> omega
    · refine J.iconst (q := 13) dX3_sortOf_12 ?_ rfl
      refine J.ireturn dX3_sortOf_13 rfl ?_
      refine ⟨congrArg (fun q => some (i_ q)) ?_, rfl, rfl⟩
      unfold sS ltr dgt
      rw [hx]
      by_cases h1 : 97 ≤ x ∧ x ≤ 122
      · rw [if_pos (decide_eq_true h1)] <;> omega
      · rw [if_neg (fun q => h1 (of_decide_eq_true q))]
        by_cases h2 : 48 ≤ x ∧ x ≤ 57
        · rw [if_pos (decide_eq_true h2)] <;> omega
        · rw [if_neg (fun q => h2 (of_decide_eq_true q))]
          by_cases h3 : x = 59
          · rw [if_pos h3] <;> omega
          · rw [if_neg h3] <;> omega

set_option maxRecDepth 100000 in
set_option maxHeartbeats 4000000 in
theorem valueOf_loop {l : Launch} {F : Nat × (Int → Int)} {iv : Mm} {T : Int → Int} {b e z V : Int} (hT : ∀ j, 0 ≤ j → j < 120 → iv 51 j = T j) (hb : ∀ j, 0 ≤ j → j < 120 → 0 ≤ T j ∧ T j ≤ 255) (hz : 0 ≤ z ∧ z ≤ 120) (he : b ≤ e ∧ e ≤ z) (hb0 : 0 ≤ b) (hd9 : ∀ j, b ≤ j → j < e → dgt T j = true) (hend : e < z → dgt T e = false) : ∀ (n : Nat) (i : Int) (vm : Int), (e - i < n) → (b ≤ i ∧ i ≤ e) → (0 ≤ vm ∧ vm ≤ 300000000000000) → (fldT stN (dgt T) T (z - i).toNat i vm = V) → J l (yX3_valueOf).cls cX3_valueOf 5 (some FieldType.int) 1 0 0 false F (Ret (some (i_ (capN V))) S0 iv) 0 0 5 [some (r_ 50), some (i_ b), some (i_ e), some (i_ (capN vm)), some (i_ i)] [] S0 (iv) := by
  intro n
  induction n with
  | zero =>
    intro i vm hn hi9 hv hV
    omega
  | succ n ih =>
    intro i vm hn hi9 hv hV
    have hcr : 0 ≤ capN vm ∧ capN vm ≤ 1000 := by unfold capN; split <;> omega
    refine J.iload (q := 7) dX3_valueOf_5 rfl ?_ rfl
    refine J.iload_n (q := 8) dX3_valueOf_7 rfl ?_ rfl
    refine J.icmp_ge (tgt := 39) (q := 11) dX3_valueOf_8 rfl rfl (fun c8 => ?_) (fun c8 => ?_)
    · refine J.iload_n (q := 40) dX3_valueOf_39 rfl ?_ rfl
      refine J.ireturn dX3_valueOf_40 rfl ?_
      have hie : i = e := by omega
      subst hie
      have hVv : vm = V := by
        rw [← hV]
        by_cases h : i < z
        · rw [show (z - i).toNat = (z - (i + 1)).toNat + 1 by omega, fldT, if_neg (by rw [hend h]; decide)]
        · rw [show (z - i).toNat = 0 by omega]; rfl
      subst hVv
      exact ⟨rfl, rfl, rfl⟩
    · have hdi := hd9 i (by omega) (by omega)
      have hdr := of_decide_eq_true hdi
      rw [show (z - i).toNat = (z - (i + 1)).toNat + 1 by omega, fldT, if_pos hdi] at hV
      have hvr := stN_r hv hdr
      have hcs : capN (stN vm (T i)) = if 1000 < capN vm * 10 + T i - 48 then 1000 else capN vm * 10 + T i - 48 := by
        unfold capN stN
        split <;> (try split) <;> (try split) <;> (try split) <;> omega
      refine J.iload_n (q := 12) dX3_valueOf_11 rfl ?_ rfl
      refine J.bipush (q := 14) dX3_valueOf_12 (by decide) ?_ rfl
      refine J.imul (q := 15) dX3_valueOf_14 ?_ rfl
      refine J.aload_n (q := 16) dX3_valueOf_15 rfl ?_ rfl
      refine J.getR (ci := 3) (k0 := 1) (c1 := 51) (q := 19) dX3_valueOf_16 kF_X3_15 rfl (by decide) (by decide) rfl (by decide) rfl ?_ rfl
      refine J.iload (q := 21) dX3_valueOf_19 rfl ?_ rfl
      refine J.iald (n := 120) (q := 22) dX3_valueOf_21 rfl (by omega) ?_ rfl
      rw [hT _ (by omega) (by omega)]
      refine J.iadd (q := 23) dX3_valueOf_22 ?_ rfl
      refine J.bipush (q := 25) dX3_valueOf_23 (by decide) ?_ rfl
      refine J.isub (q := 26) dX3_valueOf_25 ?_ rfl
      refine J.sipush (q := 29) dX3_valueOf_26 (by decide) ?_ rfl
      refine J.mmin (x := (capN vm * 10 + T i - 48)) (q := 32) dX3_valueOf_29 kL_X3_52 ?_ rfl
      rw [← hcs]
      refine J.istore_n (q := 33) dX3_valueOf_32 (Nat.le_of_ble_eq_true rfl) ?_ rfl
      refine J.iinc (q := 36) dX3_valueOf_33 rfl ?_ rfl
      refine J.goto (tgt := 5) dX3_valueOf_36 rfl ?_
      exact ih (i + 1) (stN vm (T i)) (by omega) (by omega) hvr hV

set_option maxRecDepth 100000 in
set_option maxHeartbeats 4000000 in
theorem c_X3_valueOf {l : Launch} {F : Nat × (Int → Int)} {iv : Mm} {T : Int → Int} {b e z : Int} (hT : ∀ j, 0 ≤ j → j < 120 → iv 51 j = T j) (hb : ∀ j, 0 ≤ j → j < 120 → 0 ≤ T j ∧ T j ≤ 255) (hz : 0 ≤ z ∧ z ≤ 120) (he : b ≤ e ∧ e ≤ z) (hb0 : 0 ≤ b) (hd9 : ∀ j, b ≤ j → j < e → dgt T j = true) (hend : e < z → dgt T e = false) : Ctr l F 1 0 0 yX3_valueOf cX3_valueOf 5 (some FieldType.int) [r_ 50, i_ b, i_ e] S0 (iv) (Ret (some (i_ (capN (fldT stN (dgt T) T (z - b).toNat b 0)))) S0 iv) := by
  refine Ctr.of false (fun h => by cases h) (by decide) rfl (Nat.le_of_ble_eq_true rfl) ?_
  refine J.iconst (q := 1) dX3_valueOf_0 ?_ rfl
  refine J.istore_n (q := 2) dX3_valueOf_1 (Nat.le_of_ble_eq_true rfl) ?_ rfl
  refine J.iload_n (q := 3) dX3_valueOf_2 rfl ?_ rfl
  refine J.istore (q := 5) dX3_valueOf_3 (Nat.le_of_ble_eq_true rfl) ?_ rfl
  exact valueOf_loop hT hb hz he hb0 hd9 hend 121 b 0 (by omega) (by omega) (by omega) rfl

set_option maxRecDepth 100000 in
set_option maxHeartbeats 4000000 in
theorem cutToken_loop {l : Launch} {F : Nat × (Int → Int)} {iv : Mm} {T : Int → Int} {t p z : Int} (hT : ∀ j, 0 ≤ j → j < 120 → iv 51 j = T j) (hb : ∀ j, 0 ≤ j → j < 120 → 0 ≤ T j ∧ T j ≤ 255) (hz : 0 ≤ z ∧ z ≤ 120) (e0 : iv 50 0 = z) (ht : 0 ≤ t ∧ t < 120) (hp : 0 ≤ p ∧ p < z) {E : Int} (hE : tE' T z p = E) : ∀ (n : Nat) (e : Int), (z - e < n) → (p + 1 ≤ e ∧ e ≤ z) → ((if sS T p = 1 ∨ sS T p = 2 then runN (fun i => decide (sS T i = sS T p)) (z - e).toNat e else e) = E) → ((sS T p = 1 ∨ sS T p = 2) → ∀ j, p ≤ j → j < e → sS T j = sS T p) → J l (yX3_cutToken).cls cX3_cutToken 6 (some FieldType.int) 2 0 0 false F (fun v S iv2 => v = some (i_ (tE' T z p)) ∧ S = S0 ∧ (∀ q, (q < 52 ∨ 55 < q) → iv2 q = iv q) ∧ (∀ j, j ≠ t → iv2 52 j = iv 52 j ∧ iv2 53 j = iv 53 j ∧ iv2 54 j = iv 54 j ∧ iv2 55 j = iv 55 j) ∧ iv2 52 t = sS T p ∧ iv2 53 t = p ∧ iv2 54 t = tE' T z p ∧ (sS T p = 2 → iv2 55 t = capN (tV' T z p))) 0 0 32 [some (r_ 50), some (i_ t), some (i_ p), some (i_ (sS T p)), some (i_ (b2 (sS T p = 1 ∨ sS T p = 2))), some (i_ e)] [] S0 (iv) := by
  intro n
  induction n with
  | zero =>
    intro e hn he hR hin
    omega
  | succ n ih =>
    intro e hn he hR hin
    have hsr := sS_r T p
    refine J.iload (q := 34) dX3_cutToken_32 rfl ?_ rfl
    refine J.ifb_eq (tgt := 66) (q := 37) dX3_cutToken_34 rfl rfl (fun c34 => ?_) (fun c34 => ?_)
    · rw [if_neg c34] at hR
      have heE : e = E := hR
      have hlast : e < z → sS T p = 2 → sS T e ≠ 2 := fun _ h => absurd (Or.inr h) c34
      refine J.aload_n (q := 67) dX3_cutToken_66 rfl ?_ rfl
      refine J.getR (ci := 3) (k0 := 2) (c1 := 52) (q := 70) dX3_cutToken_67 kF_X3_19 rfl (by decide) (by decide) rfl (by decide) rfl ?_ rfl
      refine J.iload_n (q := 71) dX3_cutToken_70 rfl ?_ rfl
      refine J.iload_n (q := 72) dX3_cutToken_71 rfl ?_ rfl
      refine J.iast (n := 121) (q := 73) dX3_cutToken_72 rfl (by omega) ?_ rfl
      refine J.aload_n (q := 74) dX3_cutToken_73 rfl ?_ rfl
      refine J.getR (ci := 3) (k0 := 3) (c1 := 53) (q := 77) dX3_cutToken_74 kF_X3_22 rfl (by decide) (by decide) rfl (by decide) rfl ?_ rfl
      refine J.iload_n (q := 78) dX3_cutToken_77 rfl ?_ rfl
      refine J.iload_n (q := 79) dX3_cutToken_78 rfl ?_ rfl
      refine J.iast (n := 121) (q := 80) dX3_cutToken_79 rfl (by omega) ?_ rfl
      refine J.aload_n (q := 81) dX3_cutToken_80 rfl ?_ rfl
      refine J.getR (ci := 3) (k0 := 4) (c1 := 54) (q := 84) dX3_cutToken_81 kF_X3_25 rfl (by decide) (by decide) rfl (by decide) rfl ?_ rfl
      refine J.iload_n (q := 85) dX3_cutToken_84 rfl ?_ rfl
      refine J.iload (q := 87) dX3_cutToken_85 rfl ?_ rfl
      refine J.iast (n := 121) (q := 88) dX3_cutToken_87 rfl (by omega) ?_ rfl
      refine J.aload_n (q := 89) dX3_cutToken_88 rfl ?_ rfl
      refine J.getR (ci := 3) (k0 := 5) (c1 := 55) (q := 92) dX3_cutToken_89 kF_X3_28 rfl (by decide) (by decide) rfl (by decide) rfl ?_ rfl
      refine J.iload_n (q := 93) dX3_cutToken_92 rfl ?_ rfl
      refine J.iload_n (q := 94) dX3_cutToken_93 rfl ?_ rfl
      refine J.iconst (q := 95) dX3_cutToken_94 ?_ rfl
      refine J.icmp_ne (tgt := 108) (q := 98) (hv := by omega) dX3_cutToken_95 rfl rfl (fun c95 => ?_) (fun c95 => ?_)
      · refine J.iconst (q := 109) dX3_cutToken_108 ?_ rfl
        refine J.iast (n := 121) (q := 110) dX3_cutToken_109 rfl (by omega) ?_ rfl
        refine J.iload (q := 112) dX3_cutToken_110 rfl ?_ rfl
        refine J.ireturn dX3_cutToken_112 rfl ?_
        subst heE
        rw [hE]
        refine ⟨rfl, rfl, fun q hq => ?_, fun j hj => ⟨?_, ?_, ?_, ?_⟩, ?_, ?_, ?_, fun h2 => ?_⟩
        · rw [up_n _ _ _ (by omega), up_n _ _ _ (by omega), up_n _ _ _ (by omega), up_n _ _ _ (by omega)]
        · rw [up_n _ _ _ (by decide), up_n _ _ _ (by decide), up_n _ _ _ (by decide), up_s, upr_n _ _ hj]
        · rw [up_n _ _ _ (by decide), up_n _ _ _ (by decide), up_s, upr_n _ _ hj, up_n _ _ _ (by decide)]
        · rw [up_n _ _ _ (by decide), up_s, upr_n _ _ hj, up_n _ _ _ (by decide), up_n _ _ _ (by decide)]
        · rw [up_s, upr_n _ _ hj, up_n _ _ _ (by decide), up_n _ _ _ (by decide), up_n _ _ _ (by decide)]
        · rw [up_n _ _ _ (by decide), up_n _ _ _ (by decide), up_n _ _ _ (by decide), up_s, upr_s]
        · rw [up_n _ _ _ (by decide), up_n _ _ _ (by decide), up_s, upr_s]
        · rw [up_n _ _ _ (by decide), up_s, upr_s]
        · first
          | (exfalso; omega)
          | (rw [up_s, upr_s, (tV_c (by omega) h2).1])
      · refine J.aload_n (q := 99) dX3_cutToken_98 rfl ?_ rfl
        refine J.iload_n (q := 100) dX3_cutToken_99 rfl ?_ rfl
        refine J.iload (q := 102) dX3_cutToken_100 rfl ?_ rfl
        refine J.callV2i (ci := 3) (q := 105) dX3_cutToken_102 mv_X3_valueOf kL_X3_49 rfl (by decide) rfl ⟨by decide, by decide⟩ (Nat.le_of_ble_eq_true rfl) ⟨by decide, by decide⟩ rfl (c_X3_valueOf (T := T) (z := z) (fun j j0 j1 => by rw [up_n _ _ _ (by decide), up_n _ _ _ (by decide), up_n _ _ _ (by decide)]; exact hT j j0 j1) hb hz (by omega) (by omega) (fun j j0 j1 => by rw [← sS_2]; exact decide_eq_true ((hin (Or.inr c95) j j0 j1).trans c95)) (fun h => by rw [← sS_2]; exact decide_eq_false (hlast h c95))) ?_
        refine J.goto (tgt := 109) dX3_cutToken_105 rfl ?_
        refine J.iast (n := 121) (q := 110) dX3_cutToken_109 rfl (by omega) ?_ rfl
        refine J.iload (q := 112) dX3_cutToken_110 rfl ?_ rfl
        refine J.ireturn dX3_cutToken_112 rfl ?_
        subst heE
        rw [hE]
        refine ⟨rfl, rfl, fun q hq => ?_, fun j hj => ⟨?_, ?_, ?_, ?_⟩, ?_, ?_, ?_, fun h2 => ?_⟩
        · rw [up_n _ _ _ (by omega), up_n _ _ _ (by omega), up_n _ _ _ (by omega), up_n _ _ _ (by omega)]
        · rw [up_n _ _ _ (by decide), up_n _ _ _ (by decide), up_n _ _ _ (by decide), up_s, upr_n _ _ hj]
        · rw [up_n _ _ _ (by decide), up_n _ _ _ (by decide), up_s, upr_n _ _ hj, up_n _ _ _ (by decide)]
        · rw [up_n _ _ _ (by decide), up_s, upr_n _ _ hj, up_n _ _ _ (by decide), up_n _ _ _ (by decide)]
        · rw [up_s, upr_n _ _ hj, up_n _ _ _ (by decide), up_n _ _ _ (by decide), up_n _ _ _ (by decide)]
        · rw [up_n _ _ _ (by decide), up_n _ _ _ (by decide), up_n _ _ _ (by decide), up_s, upr_s]
        · rw [up_n _ _ _ (by decide), up_n _ _ _ (by decide), up_s, upr_s]
        · rw [up_n _ _ _ (by decide), up_s, upr_s]
        · first
          | (exfalso; omega)
          | (rw [up_s, upr_s, (tV_c (by omega) h2).1])
    · rw [if_pos c34] at hR
      refine J.iload (q := 39) dX3_cutToken_37 rfl ?_ rfl
      refine J.aload_n (q := 40) dX3_cutToken_39 rfl ?_ rfl
      refine J.getI (ci := 3) (k0 := 0) (kz := 0) (q := 43) dX3_cutToken_40 kF_X3_9 rfl (by decide) (by decide) rfl (.inl rfl) ?_ rfl
      rw [e0]
      refine J.icmp_ge (tgt := 66) (q := 46) dX3_cutToken_43 rfl rfl (fun c43 => ?_) (fun c43 => ?_)
      · rw [show (z - e).toNat = 0 by omega] at hR
        have heE : e = E := hR
        have hlast : e < z → sS T p = 2 → sS T e ≠ 2 := fun h _ => absurd h (by omega)
        refine J.aload_n (q := 67) dX3_cutToken_66 rfl ?_ rfl
        refine J.getR (ci := 3) (k0 := 2) (c1 := 52) (q := 70) dX3_cutToken_67 kF_X3_19 rfl (by decide) (by decide) rfl (by decide) rfl ?_ rfl
        refine J.iload_n (q := 71) dX3_cutToken_70 rfl ?_ rfl
        refine J.iload_n (q := 72) dX3_cutToken_71 rfl ?_ rfl
        refine J.iast (n := 121) (q := 73) dX3_cutToken_72 rfl (by omega) ?_ rfl
        refine J.aload_n (q := 74) dX3_cutToken_73 rfl ?_ rfl
        refine J.getR (ci := 3) (k0 := 3) (c1 := 53) (q := 77) dX3_cutToken_74 kF_X3_22 rfl (by decide) (by decide) rfl (by decide) rfl ?_ rfl
        refine J.iload_n (q := 78) dX3_cutToken_77 rfl ?_ rfl
        refine J.iload_n (q := 79) dX3_cutToken_78 rfl ?_ rfl
        refine J.iast (n := 121) (q := 80) dX3_cutToken_79 rfl (by omega) ?_ rfl
        refine J.aload_n (q := 81) dX3_cutToken_80 rfl ?_ rfl
        refine J.getR (ci := 3) (k0 := 4) (c1 := 54) (q := 84) dX3_cutToken_81 kF_X3_25 rfl (by decide) (by decide) rfl (by decide) rfl ?_ rfl
        refine J.iload_n (q := 85) dX3_cutToken_84 rfl ?_ rfl
        refine J.iload (q := 87) dX3_cutToken_85 rfl ?_ rfl
        refine J.iast (n := 121) (q := 88) dX3_cutToken_87 rfl (by omega) ?_ rfl
        refine J.aload_n (q := 89) dX3_cutToken_88 rfl ?_ rfl
        refine J.getR (ci := 3) (k0 := 5) (c1 := 55) (q := 92) dX3_cutToken_89 kF_X3_28 rfl (by decide) (by decide) rfl (by decide) rfl ?_ rfl
        refine J.iload_n (q := 93) dX3_cutToken_92 rfl ?_ rfl
        refine J.iload_n (q := 94) dX3_cutToken_93 rfl ?_ rfl
        refine J.iconst (q := 95) dX3_cutToken_94 ?_ rfl
        refine J.icmp_ne (tgt := 108) (q := 98) (hv := by omega) dX3_cutToken_95 rfl rfl (fun c95 => ?_) (fun c95 => ?_)
        · refine J.iconst (q := 109) dX3_cutToken_108 ?_ rfl
          refine J.iast (n := 121) (q := 110) dX3_cutToken_109 rfl (by omega) ?_ rfl
          refine J.iload (q := 112) dX3_cutToken_110 rfl ?_ rfl
          refine J.ireturn dX3_cutToken_112 rfl ?_
          subst heE
          rw [hE]
          refine ⟨rfl, rfl, fun q hq => ?_, fun j hj => ⟨?_, ?_, ?_, ?_⟩, ?_, ?_, ?_, fun h2 => ?_⟩
          · rw [up_n _ _ _ (by omega), up_n _ _ _ (by omega), up_n _ _ _ (by omega), up_n _ _ _ (by omega)]
          · rw [up_n _ _ _ (by decide), up_n _ _ _ (by decide), up_n _ _ _ (by decide), up_s, upr_n _ _ hj]
          · rw [up_n _ _ _ (by decide), up_n _ _ _ (by decide), up_s, upr_n _ _ hj, up_n _ _ _ (by decide)]
          · rw [up_n _ _ _ (by decide), up_s, upr_n _ _ hj, up_n _ _ _ (by decide), up_n _ _ _ (by decide)]
          · rw [up_s, upr_n _ _ hj, up_n _ _ _ (by decide), up_n _ _ _ (by decide), up_n _ _ _ (by decide)]
          · rw [up_n _ _ _ (by decide), up_n _ _ _ (by decide), up_n _ _ _ (by decide), up_s, upr_s]
          · rw [up_n _ _ _ (by decide), up_n _ _ _ (by decide), up_s, upr_s]
          · rw [up_n _ _ _ (by decide), up_s, upr_s]
          · first
            | (exfalso; omega)
            | (rw [up_s, upr_s, (tV_c (by omega) h2).1])
        · refine J.aload_n (q := 99) dX3_cutToken_98 rfl ?_ rfl
          refine J.iload_n (q := 100) dX3_cutToken_99 rfl ?_ rfl
          refine J.iload (q := 102) dX3_cutToken_100 rfl ?_ rfl
          refine J.callV2i (ci := 3) (q := 105) dX3_cutToken_102 mv_X3_valueOf kL_X3_49 rfl (by decide) rfl ⟨by decide, by decide⟩ (Nat.le_of_ble_eq_true rfl) ⟨by decide, by decide⟩ rfl (c_X3_valueOf (T := T) (z := z) (fun j j0 j1 => by rw [up_n _ _ _ (by decide), up_n _ _ _ (by decide), up_n _ _ _ (by decide)]; exact hT j j0 j1) hb hz (by omega) (by omega) (fun j j0 j1 => by rw [← sS_2]; exact decide_eq_true ((hin (Or.inr c95) j j0 j1).trans c95)) (fun h => by rw [← sS_2]; exact decide_eq_false (hlast h c95))) ?_
          refine J.goto (tgt := 109) dX3_cutToken_105 rfl ?_
          refine J.iast (n := 121) (q := 110) dX3_cutToken_109 rfl (by omega) ?_ rfl
          refine J.iload (q := 112) dX3_cutToken_110 rfl ?_ rfl
          refine J.ireturn dX3_cutToken_112 rfl ?_
          subst heE
          rw [hE]
          refine ⟨rfl, rfl, fun q hq => ?_, fun j hj => ⟨?_, ?_, ?_, ?_⟩, ?_, ?_, ?_, fun h2 => ?_⟩
          · rw [up_n _ _ _ (by omega), up_n _ _ _ (by omega), up_n _ _ _ (by omega), up_n _ _ _ (by omega)]
          · rw [up_n _ _ _ (by decide), up_n _ _ _ (by decide), up_n _ _ _ (by decide), up_s, upr_n _ _ hj]
          · rw [up_n _ _ _ (by decide), up_n _ _ _ (by decide), up_s, upr_n _ _ hj, up_n _ _ _ (by decide)]
          · rw [up_n _ _ _ (by decide), up_s, upr_n _ _ hj, up_n _ _ _ (by decide), up_n _ _ _ (by decide)]
          · rw [up_s, upr_n _ _ hj, up_n _ _ _ (by decide), up_n _ _ _ (by decide), up_n _ _ _ (by decide)]
          · rw [up_n _ _ _ (by decide), up_n _ _ _ (by decide), up_n _ _ _ (by decide), up_s, upr_s]
          · rw [up_n _ _ _ (by decide), up_n _ _ _ (by decide), up_s, upr_s]
          · rw [up_n _ _ _ (by decide), up_s, upr_s]
          · first
            | (exfalso; omega)
            | (rw [up_s, upr_s, (tV_c (by omega) h2).1])
      · rw [show (z - e).toNat = (z - (e + 1)).toNat + 1 by omega, runN] at hR
        refine J.aload_n (q := 47) dX3_cutToken_46 rfl ?_ rfl
        refine J.getR (ci := 3) (k0 := 1) (c1 := 51) (q := 50) dX3_cutToken_47 kF_X3_15 rfl (by decide) (by decide) rfl (by decide) rfl ?_ rfl
        refine J.iload (q := 52) dX3_cutToken_50 rfl ?_ rfl
        refine J.iald (n := 120) (q := 53) dX3_cutToken_52 rfl (by omega) ?_ rfl
        rw [hT _ (by omega) (by omega)]
        have hse := sS_r T e
        refine J.callS1i (q := 56) dX3_cutToken_53 mv_X3_sortOf kS_X3_sortOf kL_X3_45 ⟨by decide, by decide⟩ (Nat.le_of_ble_eq_true rfl) ⟨by decide, by decide⟩ rfl (c_X3_sortOf (p := e) rfl (hb e (by omega) (by omega))) ?_
        refine J.iload_n (q := 57) dX3_cutToken_56 rfl ?_ rfl
        refine J.icmp_ne (tgt := 66) (q := 60) (hv := by omega) dX3_cutToken_57 rfl rfl (fun c57 => ?_) (fun c57 => ?_)
        · rw [if_neg (fun q => c57 (of_decide_eq_true q))] at hR
          have heE : e = E := hR
          have hlast : e < z → sS T p = 2 → sS T e ≠ 2 := fun _ h => by omega
          refine J.aload_n (q := 67) dX3_cutToken_66 rfl ?_ rfl
          refine J.getR (ci := 3) (k0 := 2) (c1 := 52) (q := 70) dX3_cutToken_67 kF_X3_19 rfl (by decide) (by decide) rfl (by decide) rfl ?_ rfl
          refine J.iload_n (q := 71) dX3_cutToken_70 rfl ?_ rfl
          refine J.iload_n (q := 72) dX3_cutToken_71 rfl ?_ rfl
          refine J.iast (n := 121) (q := 73) dX3_cutToken_72 rfl (by omega) ?_ rfl
          refine J.aload_n (q := 74) dX3_cutToken_73 rfl ?_ rfl
          refine J.getR (ci := 3) (k0 := 3) (c1 := 53) (q := 77) dX3_cutToken_74 kF_X3_22 rfl (by decide) (by decide) rfl (by decide) rfl ?_ rfl
          refine J.iload_n (q := 78) dX3_cutToken_77 rfl ?_ rfl
          refine J.iload_n (q := 79) dX3_cutToken_78 rfl ?_ rfl
          refine J.iast (n := 121) (q := 80) dX3_cutToken_79 rfl (by omega) ?_ rfl
          refine J.aload_n (q := 81) dX3_cutToken_80 rfl ?_ rfl
          refine J.getR (ci := 3) (k0 := 4) (c1 := 54) (q := 84) dX3_cutToken_81 kF_X3_25 rfl (by decide) (by decide) rfl (by decide) rfl ?_ rfl
          refine J.iload_n (q := 85) dX3_cutToken_84 rfl ?_ rfl
          refine J.iload (q := 87) dX3_cutToken_85 rfl ?_ rfl
          refine J.iast (n := 121) (q := 88) dX3_cutToken_87 rfl (by omega) ?_ rfl
          refine J.aload_n (q := 89) dX3_cutToken_88 rfl ?_ rfl
          refine J.getR (ci := 3) (k0 := 5) (c1 := 55) (q := 92) dX3_cutToken_89 kF_X3_28 rfl (by decide) (by decide) rfl (by decide) rfl ?_ rfl
          refine J.iload_n (q := 93) dX3_cutToken_92 rfl ?_ rfl
          refine J.iload_n (q := 94) dX3_cutToken_93 rfl ?_ rfl
          refine J.iconst (q := 95) dX3_cutToken_94 ?_ rfl
          refine J.icmp_ne (tgt := 108) (q := 98) (hv := by omega) dX3_cutToken_95 rfl rfl (fun c95 => ?_) (fun c95 => ?_)
          · refine J.iconst (q := 109) dX3_cutToken_108 ?_ rfl
            refine J.iast (n := 121) (q := 110) dX3_cutToken_109 rfl (by omega) ?_ rfl
            refine J.iload (q := 112) dX3_cutToken_110 rfl ?_ rfl
            refine J.ireturn dX3_cutToken_112 rfl ?_
            subst heE
            rw [hE]
            refine ⟨rfl, rfl, fun q hq => ?_, fun j hj => ⟨?_, ?_, ?_, ?_⟩, ?_, ?_, ?_, fun h2 => ?_⟩
            · rw [up_n _ _ _ (by omega), up_n _ _ _ (by omega), up_n _ _ _ (by omega), up_n _ _ _ (by omega)]
            · rw [up_n _ _ _ (by decide), up_n _ _ _ (by decide), up_n _ _ _ (by decide), up_s, upr_n _ _ hj]
            · rw [up_n _ _ _ (by decide), up_n _ _ _ (by decide), up_s, upr_n _ _ hj, up_n _ _ _ (by decide)]
            · rw [up_n _ _ _ (by decide), up_s, upr_n _ _ hj, up_n _ _ _ (by decide), up_n _ _ _ (by decide)]
            · rw [up_s, upr_n _ _ hj, up_n _ _ _ (by decide), up_n _ _ _ (by decide), up_n _ _ _ (by decide)]
            · rw [up_n _ _ _ (by decide), up_n _ _ _ (by decide), up_n _ _ _ (by decide), up_s, upr_s]
            · rw [up_n _ _ _ (by decide), up_n _ _ _ (by decide), up_s, upr_s]
            · rw [up_n _ _ _ (by decide), up_s, upr_s]
            · first
              | (exfalso; omega)
              | (rw [up_s, upr_s, (tV_c (by omega) h2).1])
          · refine J.aload_n (q := 99) dX3_cutToken_98 rfl ?_ rfl
            refine J.iload_n (q := 100) dX3_cutToken_99 rfl ?_ rfl
            refine J.iload (q := 102) dX3_cutToken_100 rfl ?_ rfl
            refine J.callV2i (ci := 3) (q := 105) dX3_cutToken_102 mv_X3_valueOf kL_X3_49 rfl (by decide) rfl ⟨by decide, by decide⟩ (Nat.le_of_ble_eq_true rfl) ⟨by decide, by decide⟩ rfl (c_X3_valueOf (T := T) (z := z) (fun j j0 j1 => by rw [up_n _ _ _ (by decide), up_n _ _ _ (by decide), up_n _ _ _ (by decide)]; exact hT j j0 j1) hb hz (by omega) (by omega) (fun j j0 j1 => by rw [← sS_2]; exact decide_eq_true ((hin (Or.inr c95) j j0 j1).trans c95)) (fun h => by rw [← sS_2]; exact decide_eq_false (hlast h c95))) ?_
            refine J.goto (tgt := 109) dX3_cutToken_105 rfl ?_
            refine J.iast (n := 121) (q := 110) dX3_cutToken_109 rfl (by omega) ?_ rfl
            refine J.iload (q := 112) dX3_cutToken_110 rfl ?_ rfl
            refine J.ireturn dX3_cutToken_112 rfl ?_
            subst heE
            rw [hE]
            refine ⟨rfl, rfl, fun q hq => ?_, fun j hj => ⟨?_, ?_, ?_, ?_⟩, ?_, ?_, ?_, fun h2 => ?_⟩
            · rw [up_n _ _ _ (by omega), up_n _ _ _ (by omega), up_n _ _ _ (by omega), up_n _ _ _ (by omega)]
            · rw [up_n _ _ _ (by decide), up_n _ _ _ (by decide), up_n _ _ _ (by decide), up_s, upr_n _ _ hj]
            · rw [up_n _ _ _ (by decide), up_n _ _ _ (by decide), up_s, upr_n _ _ hj, up_n _ _ _ (by decide)]
            · rw [up_n _ _ _ (by decide), up_s, upr_n _ _ hj, up_n _ _ _ (by decide), up_n _ _ _ (by decide)]
            · rw [up_s, upr_n _ _ hj, up_n _ _ _ (by decide), up_n _ _ _ (by decide), up_n _ _ _ (by decide)]
            · rw [up_n _ _ _ (by decide), up_n _ _ _ (by decide), up_n _ _ _ (by decide), up_s, upr_s]
            · rw [up_n _ _ _ (by decide), up_n _ _ _ (by decide), up_s, upr_s]
            · rw [up_n _ _ _ (by decide), up_s, upr_s]
            · first
              | (exfalso; omega)
              | (rw [up_s, upr_s, (tV_c (by omega) h2).1])
        · rw [if_pos (decide_eq_true c57)] at hR
          refine J.iinc (q := 63) dX3_cutToken_60 rfl ?_ rfl
          refine J.goto (tgt := 32) dX3_cutToken_63 rfl ?_
          exact ih (e + 1) (by omega) (by omega) (by rw [if_pos c34]; exact hR) (fun h j j0 j1 => by
            by_cases ej : j = e
            · rw [ej]; exact c57
            · exact hin h j j0 (by omega))

set_option maxRecDepth 100000 in
set_option maxHeartbeats 4000000 in
theorem c_X3_cutToken {l : Launch} {F : Nat × (Int → Int)} {iv : Mm} {T : Int → Int} {t p z : Int} (hT : ∀ j, 0 ≤ j → j < 120 → iv 51 j = T j) (hb : ∀ j, 0 ≤ j → j < 120 → 0 ≤ T j ∧ T j ≤ 255) (hz : 0 ≤ z ∧ z ≤ 120) (e0 : iv 50 0 = z) (ht : 0 ≤ t ∧ t < 120) (hp : 0 ≤ p ∧ p < z) : Ctr l F 2 0 0 yX3_cutToken cX3_cutToken 6 (some FieldType.int) [r_ 50, i_ t, i_ p] S0 (iv) (fun v S iv2 => v = some (i_ (tE' T z p)) ∧ S = S0 ∧ (∀ q, (q < 52 ∨ 55 < q) → iv2 q = iv q) ∧ (∀ j, j ≠ t → iv2 52 j = iv 52 j ∧ iv2 53 j = iv 53 j ∧ iv2 54 j = iv 54 j ∧ iv2 55 j = iv 55 j) ∧ iv2 52 t = sS T p ∧ iv2 53 t = p ∧ iv2 54 t = tE' T z p ∧ (sS T p = 2 → iv2 55 t = capN (tV' T z p))) := by
  refine Ctr.of false (fun h => by cases h) (by decide) rfl (Nat.le_of_ble_eq_true rfl) ?_
  have hsr := sS_r T p
  refine J.aload_n (q := 1) dX3_cutToken_0 rfl ?_ rfl
  refine J.getR (ci := 3) (k0 := 1) (c1 := 51) (q := 4) dX3_cutToken_1 kF_X3_15 rfl (by decide) (by decide) rfl (by decide) rfl ?_ rfl
  refine J.iload_n (q := 5) dX3_cutToken_4 rfl ?_ rfl
  refine J.iald (n := 120) (q := 6) dX3_cutToken_5 rfl (by omega) ?_ rfl
  rw [hT _ (by omega) (by omega)]
  refine J.callS1i (q := 9) dX3_cutToken_6 mv_X3_sortOf kS_X3_sortOf kL_X3_45 ⟨by decide, by decide⟩ (Nat.le_of_ble_eq_true rfl) ⟨by decide, by decide⟩ rfl (c_X3_sortOf (p := p) rfl (hb p (by omega) (by omega))) ?_
  refine J.istore_n (q := 10) dX3_cutToken_9 (Nat.le_of_ble_eq_true rfl) ?_ rfl
  refine J.iload_n (q := 11) dX3_cutToken_10 rfl ?_ rfl
  refine J.iconst (q := 12) dX3_cutToken_11 ?_ rfl
  refine J.icmp_eq (tgt := 20) (q := 15) (hv := by omega) dX3_cutToken_12 rfl rfl (fun c12 => ?_) (fun c12 => ?_)
  · refine J.iconst (q := 21) dX3_cutToken_20 ?_ rfl
    refine J.goto (tgt := 25) dX3_cutToken_21 rfl ?_
    refine J.istore (q := 27) dX3_cutToken_25 (Nat.le_of_ble_eq_true rfl) ?_ rfl
    refine J.iload_n (q := 28) dX3_cutToken_27 rfl ?_ rfl
    refine J.iconst (q := 29) dX3_cutToken_28 ?_ rfl
    refine J.iadd (q := 30) dX3_cutToken_29 ?_ rfl
    refine J.istore (q := 32) dX3_cutToken_30 (Nat.le_of_ble_eq_true rfl) ?_ rfl
    have hbl : ∀ x : Int, (x = 1 ∧ (sS T p = 1 ∨ sS T p = 2)) ∨ (x = 0 ∧ ¬ (sS T p = 1 ∨ sS T p = 2)) → x = b2 (sS T p = 1 ∨ sS T p = 2) := by
      intro x hx9
      rcases hx9 with ⟨rfl, h⟩ | ⟨rfl, h⟩
      · exact (b2_t h).symm
      · exact (b2_f h).symm
    refine J.eql ?_ (cutToken_loop hT hb hz e0 ht hp rfl 121 (p + 1) (by omega) (by omega) (tE_c hp.2).symm (fun h j j0 j1 => by rw [show j = p by omega]))
    first
    | (rw [← hbl 1 (Or.inl ⟨rfl, by omega⟩)]; rfl)
    | (rw [← hbl 0 (Or.inr ⟨rfl, by omega⟩)]; rfl)
  · refine J.iload_n (q := 16) dX3_cutToken_15 rfl ?_ rfl
    refine J.iconst (q := 17) dX3_cutToken_16 ?_ rfl
    refine J.icmp_ne (tgt := 24) (q := 20) (hv := by omega) dX3_cutToken_17 rfl rfl (fun c17 => ?_) (fun c17 => ?_)
    · refine J.iconst (q := 25) dX3_cutToken_24 ?_ rfl
      refine J.istore (q := 27) dX3_cutToken_25 (Nat.le_of_ble_eq_true rfl) ?_ rfl
      refine J.iload_n (q := 28) dX3_cutToken_27 rfl ?_ rfl
      refine J.iconst (q := 29) dX3_cutToken_28 ?_ rfl
      refine J.iadd (q := 30) dX3_cutToken_29 ?_ rfl
      refine J.istore (q := 32) dX3_cutToken_30 (Nat.le_of_ble_eq_true rfl) ?_ rfl
      have hbl : ∀ x : Int, (x = 1 ∧ (sS T p = 1 ∨ sS T p = 2)) ∨ (x = 0 ∧ ¬ (sS T p = 1 ∨ sS T p = 2)) → x = b2 (sS T p = 1 ∨ sS T p = 2) := by
        intro x hx9
        rcases hx9 with ⟨rfl, h⟩ | ⟨rfl, h⟩
        · exact (b2_t h).symm
        · exact (b2_f h).symm
      refine J.eql ?_ (cutToken_loop hT hb hz e0 ht hp rfl 121 (p + 1) (by omega) (by omega) (tE_c hp.2).symm (fun h j j0 j1 => by rw [show j = p by omega]))
      first
      | (rw [← hbl 1 (Or.inl ⟨rfl, by omega⟩)]; rfl)
      | (rw [← hbl 0 (Or.inr ⟨rfl, by omega⟩)]; rfl)
    · refine J.iconst (q := 21) dX3_cutToken_20 ?_ rfl
      refine J.goto (tgt := 25) dX3_cutToken_21 rfl ?_
      refine J.istore (q := 27) dX3_cutToken_25 (Nat.le_of_ble_eq_true rfl) ?_ rfl
      refine J.iload_n (q := 28) dX3_cutToken_27 rfl ?_ rfl
      refine J.iconst (q := 29) dX3_cutToken_28 ?_ rfl
      refine J.iadd (q := 30) dX3_cutToken_29 ?_ rfl
      refine J.istore (q := 32) dX3_cutToken_30 (Nat.le_of_ble_eq_true rfl) ?_ rfl
      have hbl : ∀ x : Int, (x = 1 ∧ (sS T p = 1 ∨ sS T p = 2)) ∨ (x = 0 ∧ ¬ (sS T p = 1 ∨ sS T p = 2)) → x = b2 (sS T p = 1 ∨ sS T p = 2) := by
        intro x hx9
        rcases hx9 with ⟨rfl, h⟩ | ⟨rfl, h⟩
        · exact (b2_t h).symm
        · exact (b2_f h).symm
      refine J.eql ?_ (cutToken_loop hT hb hz e0 ht hp rfl 121 (p + 1) (by omega) (by omega) (tE_c hp.2).symm (fun h j j0 j1 => by rw [show j = p by omega]))
      first
      | (rw [← hbl 1 (Or.inl ⟨rfl, by omega⟩)]; rfl)
      | (rw [← hbl 0 (Or.inr ⟨rfl, by omega⟩)]; rfl)

def TA (iv : Mm) (T : Int → Int) (z : Int) (N : Nat) : Prop := (N : Int) ≤ 120 ∧ tB T z (qn T z N) = z ∧ (iv 52 N = 0 ∧ iv 53 N = z ∧ iv 54 N = z) ∧ ∀ t : Nat, t < N → (0 ≤ qn T z t ∧ qn T z t ≤ z ∧ tB T z (qn T z t) < z) ∧ iv 52 t = sS T (tB T z (qn T z t)) ∧ iv 53 t = tB T z (qn T z t) ∧ iv 54 t = tE T z (qn T z t) ∧ (sS T (tB T z (qn T z t)) = 2 → iv 55 t = capN (tV T z (qn T z t)))
set_option maxRecDepth 100000 in
set_option maxHeartbeats 4000000 in
theorem cutTokens_loop {l : Launch} {F : Nat × (Int → Int)} {iv : Mm} {T : Int → Int} {z : Int} (hT : ∀ j, 0 ≤ j → j < 120 → iv 51 j = T j) (hb : ∀ j, 0 ≤ j → j < 120 → 0 ≤ T j ∧ T j ≤ 255) (hz : 0 ≤ z ∧ z ≤ 120) (e0 : iv 50 0 = z) : ∀ (n : Nat) (t : Nat) (b : Int) (p : Int) (iv1 : Mm), (z - p < n) → (0 ≤ p ∧ p ≤ z) → (0 ≤ b ∧ b ≤ z) → ((t : Int) ≤ b) → (∀ q, (q < 52 ∨ 55 < q) → iv1 q = iv q) → (qn T z t = b) → (b ≤ p → tB T z b = tB T z p) → (∀ u : Nat, u < t → (0 ≤ qn T z u ∧ qn T z u ≤ z ∧ tB T z (qn T z u) < z) ∧ iv1 52 u = sS T (tB T z (qn T z u)) ∧ iv1 53 u = tB T z (qn T z u) ∧ iv1 54 u = tE T z (qn T z u) ∧ (sS T (tB T z (qn T z u)) = 2 → iv1 55 u = capN (tV T z (qn T z u)))) → J l (yX3_cutTokens).cls cX3_cutTokens 4 none 3 0 0 false F (fun v S iv2 => v = none ∧ S = S0 ∧ (∀ q, (q < 52 ∨ 55 < q) → iv2 q = iv q) ∧ ∃ N, TA iv2 T z N ∧ (0 ≤ qn T z N ∧ qn T z N ≤ z)) 0 0 6 [some (r_ 50), some (i_ (t : Int)), some (i_ b), some (i_ p)] [] S0 (iv1) := by
  intro n
  induction n with
  | zero =>
    intro t b p iv1 hn hp hb9 htb hf hbq hq hD
    omega
  | succ n ih =>
    intro t b p iv1 hn hp hb9 htb hf hbq hq hD
    have e01 : iv1 50 0 = z := by rw [hf 50 (by omega)]; exact e0
    have hT1 : ∀ j, 0 ≤ j → j < 120 → iv1 51 j = T j := by rw [hf 51 (by omega)]; exact hT
    refine J.iload_n (q := 7) dX3_cutTokens_6 rfl ?_ rfl
    refine J.aload_n (q := 8) dX3_cutTokens_7 rfl ?_ rfl
    refine J.getI (ci := 3) (k0 := 0) (kz := 0) (q := 11) dX3_cutTokens_8 kF_X3_9 rfl (by decide) (by decide) rfl (.inl rfl) ?_ rfl
    rw [e01]
    refine J.icmp_ge (tgt := 46) (q := 14) dX3_cutTokens_11 rfl rfl (fun c11 => ?_) (fun c11 => ?_)
    · refine J.aload_n (q := 47) dX3_cutTokens_46 rfl ?_ rfl
      refine J.getR (ci := 3) (k0 := 2) (c1 := 52) (q := 50) dX3_cutTokens_47 kF_X3_19 rfl (by decide) (by decide) rfl (by decide) rfl ?_ rfl
      refine J.iload_n (q := 51) dX3_cutTokens_50 rfl ?_ rfl
      refine J.iconst (q := 52) dX3_cutTokens_51 ?_ rfl
      refine J.iast (n := 121) (q := 53) dX3_cutTokens_52 rfl (by omega) ?_ rfl
      refine J.aload_n (q := 54) dX3_cutTokens_53 rfl ?_ rfl
      refine J.getR (ci := 3) (k0 := 3) (c1 := 53) (q := 57) dX3_cutTokens_54 kF_X3_22 rfl (by decide) (by decide) rfl (by decide) rfl ?_ rfl
      refine J.iload_n (q := 58) dX3_cutTokens_57 rfl ?_ rfl
      refine J.aload_n (q := 59) dX3_cutTokens_58 rfl ?_ rfl
      refine J.getI (ci := 3) (k0 := 0) (kz := 0) (q := 62) dX3_cutTokens_59 kF_X3_9 rfl (by decide) (by decide) rfl (.inl rfl) ?_ rfl
      rw [up_n _ _ _ (by decide), e01]
      refine J.iast (n := 121) (q := 63) dX3_cutTokens_62 rfl (by omega) ?_ rfl
      refine J.aload_n (q := 64) dX3_cutTokens_63 rfl ?_ rfl
      refine J.getR (ci := 3) (k0 := 4) (c1 := 54) (q := 67) dX3_cutTokens_64 kF_X3_25 rfl (by decide) (by decide) rfl (by decide) rfl ?_ rfl
      refine J.iload_n (q := 68) dX3_cutTokens_67 rfl ?_ rfl
      refine J.aload_n (q := 69) dX3_cutTokens_68 rfl ?_ rfl
      refine J.getI (ci := 3) (k0 := 0) (kz := 0) (q := 72) dX3_cutTokens_69 kF_X3_9 rfl (by decide) (by decide) rfl (.inl rfl) ?_ rfl
      rw [up_n _ _ _ (by decide), up_n _ _ _ (by decide), e01]
      refine J.iast (n := 121) (q := 73) dX3_cutTokens_72 rfl (by omega) ?_ rfl
      refine J.vreturn dX3_cutTokens_73 rfl ?_
      have hpz : p = z := by omega
      have hqz : tB T z (qn T z t) = z := by rw [hbq, hq (by omega), hpz, tB_z]
      refine ⟨rfl, rfl, fun q hq9 => ?_, t, ⟨by omega, hqz, ⟨?_, ?_, ?_⟩, fun u hu => ?_⟩, by omega, by omega⟩
      · rw [up_n _ _ _ (by omega), up_n _ _ _ (by omega), up_n _ _ _ (by omega)]; exact hf q hq9
      · rw [up_n _ _ _ (by decide), up_n _ _ _ (by decide), up_s, upr_s]
      · rw [up_n _ _ _ (by decide), up_s, upr_s]
      · rw [up_s, upr_s]
      · rw [up_n _ _ _ (by decide), up_n _ _ _ (by decide), up_s, upr_n _ _ (by omega), up_n _ _ _ (by decide), up_s, upr_n _ _ (by omega), up_n _ _ _ (by decide), up_s, upr_n _ _ (by omega), up_n _ _ _ (by decide), up_n _ _ _ (by decide), up_n _ _ _ (by decide), up_n _ _ _ (by decide), up_n _ _ _ (by decide)]
        exact hD u hu
    · refine J.iload_n (q := 15) dX3_cutTokens_14 rfl ?_ rfl
      refine J.iload_n (q := 16) dX3_cutTokens_15 rfl ?_ rfl
      refine J.icmp_lt (tgt := 40) (q := 19) dX3_cutTokens_16 rfl rfl (fun c16 => ?_) (fun c16 => ?_)
      · have hq2 : b ≤ p + 1 → tB T z b = tB T z (p + 1) := fun h => by rw [show p + 1 = b by omega]
        refine J.iinc (q := 43) dX3_cutTokens_40 rfl ?_ rfl
        refine J.goto (tgt := 6) dX3_cutTokens_43 rfl ?_
        first
        | exact ih t b (p + 1) iv1 (by omega) (by omega) hb9 htb hf hbq hq2 hD
        | (refine ih (t + 1) (tE' T z p) (p + 1) iv9 (by omega) (by omega) (by omega) (by omega) (fun q hq9 => (k1 q hq9).trans (hf q hq9)) hqt.symm hq2 (fun u hu => ?_)
           by_cases e : u = t
           · subst e
             rw [hbq, hq1, hb1]
             have e1 : tE T z b = tE' T z p := by unfold tE; rw [hq1, hb1]
             have e2 : tV T z b = tV' T z p := by unfold tV; rw [hq1, hb1]
             rw [e1, e2]
             exact ⟨⟨by omega, by omega, by omega⟩, k3, k4, k5, k6⟩
           · have h := hD u (by omega)
             have hk := k2 u (by omega)
             rw [hk.1, hk.2.1, hk.2.2.1, hk.2.2.2]
             exact h)
      · have hq1 := hq (by omega)
        refine J.aload_n (q := 20) dX3_cutTokens_19 rfl ?_ rfl
        refine J.getR (ci := 3) (k0 := 1) (c1 := 51) (q := 23) dX3_cutTokens_20 kF_X3_15 rfl (by decide) (by decide) rfl (by decide) rfl ?_ rfl
        refine J.iload_n (q := 24) dX3_cutTokens_23 rfl ?_ rfl
        refine J.iald (n := 120) (q := 25) dX3_cutTokens_24 rfl (by omega) ?_ rfl
        rw [hT1 _ (by omega) (by omega)]
        have hbp := hb p (by omega) (by omega)
        refine J.bipush (q := 27) dX3_cutTokens_25 (by decide) ?_ rfl
        refine J.icmp_eq (tgt := 40) (q := 30) dX3_cutTokens_27 rfl rfl (fun c27 => ?_) (fun c27 => ?_)
        · have hq2 : b ≤ p + 1 → tB T z b = tB T z (p + 1) := fun _ => hq1.trans (tB_s (show p < z by omega) c27)
          refine J.iinc (q := 43) dX3_cutTokens_40 rfl ?_ rfl
          refine J.goto (tgt := 6) dX3_cutTokens_43 rfl ?_
          first
          | exact ih t b (p + 1) iv1 (by omega) (by omega) hb9 htb hf hbq hq2 hD
          | (refine ih (t + 1) (tE' T z p) (p + 1) iv9 (by omega) (by omega) (by omega) (by omega) (fun q hq9 => (k1 q hq9).trans (hf q hq9)) hqt.symm hq2 (fun u hu => ?_)
             by_cases e : u = t
             · subst e
               rw [hbq, hq1, hb1]
               have e1 : tE T z b = tE' T z p := by unfold tE; rw [hq1, hb1]
               have e2 : tV T z b = tV' T z p := by unfold tV; rw [hq1, hb1]
               rw [e1, e2]
               exact ⟨⟨by omega, by omega, by omega⟩, k3, k4, k5, k6⟩
             · have h := hD u (by omega)
               have hk := k2 u (by omega)
               rw [hk.1, hk.2.1, hk.2.2.1, hk.2.2.2]
               exact h)
        · have hb1 := tB_n (show p < z by omega) c27
          have hee := tE_rng (T := T) (z := z) (q := p) (by omega)
          refine J.aload_n (q := 31) dX3_cutTokens_30 rfl ?_ rfl
          refine J.iload_n (q := 32) dX3_cutTokens_31 rfl ?_ rfl
          refine J.iload_n (q := 33) dX3_cutTokens_32 rfl ?_ rfl
          refine J.callV2 (ci := 3) (q := 36) dX3_cutTokens_33 mv_X3_cutToken kL_X3_41 rfl (by decide) rfl ⟨by decide, by decide⟩ (Nat.le_of_ble_eq_true rfl) ⟨by decide, by decide⟩ rfl (c_X3_cutToken hT1 hb hz e01 (by omega) (by omega)) (fun v9 S9 iv9 hp9 => ?_)
          obtain ⟨rfl, rfl, k1, k2, k3, k4, k5, k6⟩ := hp9
          have hqt : tE' T z p = qn T z (t + 1) := by
            show _ = tE T z (qn T z t)
            unfold tE
            rw [hbq, hq1, hb1]
          have hpe : tE T z p = tE' T z p := by unfold tE; rw [hb1]
          have hne : tK T z p ≠ 0 := by
            unfold tK tK'
            rw [hb1, if_neg (by omega)]
            repeat' split
            all_goals omega
          have hlt := hee.2.2 hne
          rw [hb1, hpe] at hlt
          rw [hpe] at hee
          have hq2 : tE' T z p ≤ p + 1 → tB T z (tE' T z p) = tB T z (p + 1) := fun h => by rw [show tE' T z p = p + 1 by omega]
          refine J.istore_n (q := 37) dX3_cutTokens_36 (Nat.le_of_ble_eq_true rfl) ?_ rfl
          refine J.iinc (q := 40) dX3_cutTokens_37 rfl ?_ rfl
          refine J.iinc (q := 43) dX3_cutTokens_40 rfl ?_ rfl
          refine J.goto (tgt := 6) dX3_cutTokens_43 rfl ?_
          first
          | exact ih t b (p + 1) iv1 (by omega) (by omega) hb9 htb hf hbq hq2 hD
          | (refine ih (t + 1) (tE' T z p) (p + 1) iv9 (by omega) (by omega) (by omega) (by omega) (fun q hq9 => (k1 q hq9).trans (hf q hq9)) hqt.symm hq2 (fun u hu => ?_)
             by_cases e : u = t
             · subst e
               rw [hbq, hq1, hb1]
               have e1 : tE T z b = tE' T z p := by unfold tE; rw [hq1, hb1]
               have e2 : tV T z b = tV' T z p := by unfold tV; rw [hq1, hb1]
               rw [e1, e2]
               exact ⟨⟨by omega, by omega, by omega⟩, k3, k4, k5, k6⟩
             · have h := hD u (by omega)
               have hk := k2 u (by omega)
               rw [hk.1, hk.2.1, hk.2.2.1, hk.2.2.2]
               exact h)

set_option maxRecDepth 100000 in
set_option maxHeartbeats 4000000 in
theorem c_X3_cutTokens {l : Launch} {F : Nat × (Int → Int)} {iv : Mm} {T : Int → Int} {z : Int} (hT : ∀ j, 0 ≤ j → j < 120 → iv 51 j = T j) (hb : ∀ j, 0 ≤ j → j < 120 → 0 ≤ T j ∧ T j ≤ 255) (hz : 0 ≤ z ∧ z ≤ 120) (e0 : iv 50 0 = z) : Ctr l F 3 0 0 yX3_cutTokens cX3_cutTokens 4 none [r_ 50] S0 (iv) (fun v S iv2 => v = none ∧ S = S0 ∧ (∀ q, (q < 52 ∨ 55 < q) → iv2 q = iv q) ∧ ∃ N, TA iv2 T z N ∧ (0 ≤ qn T z N ∧ qn T z N ≤ z)) := by
  refine Ctr.of false (fun h => by cases h) (by decide) rfl (Nat.le_of_ble_eq_true rfl) ?_
  refine J.iconst (q := 1) dX3_cutTokens_0 ?_ rfl
  refine J.istore_n (q := 2) dX3_cutTokens_1 (Nat.le_of_ble_eq_true rfl) ?_ rfl
  refine J.iconst (q := 3) dX3_cutTokens_2 ?_ rfl
  refine J.istore_n (q := 4) dX3_cutTokens_3 (Nat.le_of_ble_eq_true rfl) ?_ rfl
  refine J.iconst (q := 5) dX3_cutTokens_4 ?_ rfl
  refine J.istore_n (q := 6) dX3_cutTokens_5 (Nat.le_of_ble_eq_true rfl) ?_ rfl
  exact cutTokens_loop hT hb hz e0 122 0 0 0 iv (by omega) (by omega) (by omega) (by omega) (fun _ _ => rfl) rfl (fun _ => rfl) (fun u hu => by omega)

