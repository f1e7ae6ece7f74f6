/-! the class: days (printed by wip/whole/m_c4.py) -/
theorem itM_fix {fr : Int → Int → Int} {k : Int} {X Y : P2} {m : Nat} (h : itM fr k m Y = X) (hf : stepM fr k X = X) : ∀ n : Nat, m ≤ n → itM fr k n Y = X
  | 0, hn => by rw [show m = 0 by omega] at h; exact h
  | n + 1, hn => by
    by_cases e : m = n + 1
    · subst e; exact h
    · rw [itM, itM_fix h hf n (by omega), hf]
theorem nxt_C {s0 s : Int → Int} {k : Int} (h : 0 ≤ s (257 + 5 * k + 1) ∧ s (257 + 5 * k + 1) ≤ 80) (hH : ∀ c, 0 ≤ c → c ≤ 80 → s (14 + c) = s0 (14 + c)) : nxC (opH s0) (fdst s0 k) (s (257 + 5 * k + 1)) = nxtM (fdst s0) s k := by
  unfold nxC nxtM opH
  by_cases e : s (14 + s (257 + 5 * k + 1)) = 1
  · rw [if_pos e, if_neg (fun z => by have z := of_decide_eq_true z; rw [← hH _ h.1 h.2] at z; omega)]
  · rw [if_neg e, if_pos (decide_eq_true (by rw [← hH _ h.1 h.2]; exact Or.inr (Or.inr e)))]
    rfl
set_option maxRecDepth 100000 in
set_option maxHeartbeats 4000000 in
theorem isOfKind_m {l : Launch} {F : Nat × (Int → Int)} {iv : Mm} {y x j : Int} (hx : 0 ≤ x ∧ x ≤ 6) (hj : 0 ≤ j ∧ j ≤ 7) : J l (yX5_isOfKind).cls cX5_isOfKind 4 (some FieldType.boolean) 1 0 0 false F (Ret (some (i_ (b2 (False)))) S0 iv) 0 0 4 [some (i_ y), some (i_ x), some (i_ (-1)), some (i_ j)] [] S0 (iv) := by
  refine J.iload_n (q := 5) dX5_isOfKind_4 rfl ?_ rfl
  refine J.bipush (q := 7) dX5_isOfKind_5 (by decide) ?_ rfl
  refine J.icmp_ge (tgt := 38) (q := 10) dX5_isOfKind_7 rfl rfl (fun c7 => ?_) (fun c7 => ?_)
  · refine J.iconst (q := 39) dX5_isOfKind_38 ?_ rfl
    refine J.zreturn dX5_isOfKind_39 rfl (by omega) ?_
    first
    | exact ⟨rfl, rfl, rfl⟩
    | (refine ⟨congrArg (fun z => some (i_ z)) ?_, rfl, rfl⟩; first | rfl | omega)
    | (exfalso; omega)
  · refine J.iload_n (q := 11) dX5_isOfKind_10 rfl ?_ rfl
    refine J.bipush (q := 13) dX5_isOfKind_11 (by decide) ?_ rfl
    refine J.callS2i (q := 16) dX5_isOfKind_13 mv_X5_isWithin kS_X5_isWithin kL_X5_59 ⟨by decide, by decide⟩ (Nat.le_of_ble_eq_true rfl) ⟨by decide, by decide⟩ rfl (c_X5_isWithin (by omega) (by omega)) ?_
    refine J.ifb_eq (tgt := 38) (q := 19) dX5_isOfKind_16 rfl rfl (fun c16 => ?_) (fun c => absurd c (by omega))
    refine J.iconst (q := 39) dX5_isOfKind_38 ?_ rfl
    refine J.zreturn dX5_isOfKind_39 rfl (by omega) ?_
    first
    | exact ⟨rfl, rfl, rfl⟩
    | (refine ⟨congrArg (fun z => some (i_ z)) ?_, rfl, rfl⟩; first | rfl | omega)
    | (exfalso; omega)

set_option maxRecDepth 100000 in
set_option maxHeartbeats 4000000 in
theorem isOfKind_0 {l : Launch} {F : Nat × (Int → Int)} {iv : Mm} {y x j : Int} (hx : 0 ≤ x ∧ x ≤ 6) (hj : 0 ≤ j ∧ j ≤ 6) : J l (yX5_isOfKind).cls cX5_isOfKind 4 (some FieldType.boolean) 1 0 0 false F (Ret (some (i_ (b2 (undr 0 x = true)))) S0 iv) 0 0 4 [some (i_ y), some (i_ x), some (i_ (0)), some (i_ j)] [] S0 (iv) := by
  refine J.iload_n (q := 5) dX5_isOfKind_4 rfl ?_ rfl
  refine J.bipush (q := 7) dX5_isOfKind_5 (by decide) ?_ rfl
  refine J.icmp_ge (tgt := 38) (q := 10) dX5_isOfKind_7 rfl rfl (fun c => absurd c (by omega)) (fun c7 => ?_)
  refine J.iload_n (q := 11) dX5_isOfKind_10 rfl ?_ rfl
  refine J.bipush (q := 13) dX5_isOfKind_11 (by decide) ?_ rfl
  refine J.callS2i (q := 16) dX5_isOfKind_13 mv_X5_isWithin kS_X5_isWithin kL_X5_59 ⟨by decide, by decide⟩ (Nat.le_of_ble_eq_true rfl) ⟨by decide, by decide⟩ rfl (c_X5_isWithin (by omega) (by omega)) ?_
  refine J.ifb_eq (tgt := 38) (q := 19) dX5_isOfKind_16 rfl rfl (fun c => absurd c (fun q => q (by omega))) (fun c16 => ?_)
  refine J.iload_n (q := 20) dX5_isOfKind_19 rfl ?_ rfl
  refine J.iload_n (q := 21) dX5_isOfKind_20 rfl ?_ rfl
  refine J.icmp_ne (tgt := 26) (q := 24) dX5_isOfKind_21 rfl rfl (fun c21 => ?_) (fun c21 => ?_)
  · refine J.gets1 (q := 29) dX5_isOfKind_26 kF_X5_298 ?_ rfl
    refine J.iload_n (q := 30) dX5_isOfKind_29 rfl ?_ rfl
    refine J.tld1 (q := 31) dX5_isOfKind_30 (by omega) ?_ rfl
    refine J.istore_n (q := 32) dX5_isOfKind_31 (Nat.le_of_ble_eq_true rfl) ?_ rfl
    refine J.iinc (q := 35) dX5_isOfKind_32 rfl ?_ rfl
    refine J.goto (tgt := 4) dX5_isOfKind_35 rfl ?_
    have hu : (undr 0 x = true) = False := by
      have hne : x ≠ 0 := by omega
      exact propext ⟨fun h => by have := of_decide_eq_true h; omega, fun h => h.elim⟩
    refine J.mono ?_ (isOfKind_m (y := y) (iv := iv) hx (j := j + 1) (by omega))
    rintro v S iv2 ⟨rfl, h2, h3⟩
    refine ⟨?_, h2, h3⟩
    simp only [hu]
  · have hu : undr 0 x = true := decide_eq_true (by omega)
    rw [b2_t hu]
    refine J.iconst (q := 25) dX5_isOfKind_24 ?_ rfl
    refine J.zreturn dX5_isOfKind_25 rfl (by omega) ?_
    first
    | exact ⟨rfl, rfl, rfl⟩
    | (refine ⟨congrArg (fun z => some (i_ z)) ?_, rfl, rfl⟩; first | rfl | omega)
    | (exfalso; omega)

set_option maxRecDepth 100000 in
set_option maxHeartbeats 4000000 in
theorem isOfKind_1 {l : Launch} {F : Nat × (Int → Int)} {iv : Mm} {y x j : Int} (hx : 0 ≤ x ∧ x ≤ 6) (hj : 0 ≤ j ∧ j ≤ 5) : J l (yX5_isOfKind).cls cX5_isOfKind 4 (some FieldType.boolean) 1 0 0 false F (Ret (some (i_ (b2 (undr 1 x = true)))) S0 iv) 0 0 4 [some (i_ y), some (i_ x), some (i_ (1)), some (i_ j)] [] S0 (iv) := by
  refine J.iload_n (q := 5) dX5_isOfKind_4 rfl ?_ rfl
  refine J.bipush (q := 7) dX5_isOfKind_5 (by decide) ?_ rfl
  refine J.icmp_ge (tgt := 38) (q := 10) dX5_isOfKind_7 rfl rfl (fun c => absurd c (by omega)) (fun c7 => ?_)
  refine J.iload_n (q := 11) dX5_isOfKind_10 rfl ?_ rfl
  refine J.bipush (q := 13) dX5_isOfKind_11 (by decide) ?_ rfl
  refine J.callS2i (q := 16) dX5_isOfKind_13 mv_X5_isWithin kS_X5_isWithin kL_X5_59 ⟨by decide, by decide⟩ (Nat.le_of_ble_eq_true rfl) ⟨by decide, by decide⟩ rfl (c_X5_isWithin (by omega) (by omega)) ?_
  refine J.ifb_eq (tgt := 38) (q := 19) dX5_isOfKind_16 rfl rfl (fun c => absurd c (fun q => q (by omega))) (fun c16 => ?_)
  refine J.iload_n (q := 20) dX5_isOfKind_19 rfl ?_ rfl
  refine J.iload_n (q := 21) dX5_isOfKind_20 rfl ?_ rfl
  refine J.icmp_ne (tgt := 26) (q := 24) dX5_isOfKind_21 rfl rfl (fun c21 => ?_) (fun c21 => ?_)
  · refine J.gets1 (q := 29) dX5_isOfKind_26 kF_X5_298 ?_ rfl
    refine J.iload_n (q := 30) dX5_isOfKind_29 rfl ?_ rfl
    refine J.tld1 (q := 31) dX5_isOfKind_30 (by omega) ?_ rfl
    refine J.istore_n (q := 32) dX5_isOfKind_31 (Nat.le_of_ble_eq_true rfl) ?_ rfl
    refine J.iinc (q := 35) dX5_isOfKind_32 rfl ?_ rfl
    refine J.goto (tgt := 4) dX5_isOfKind_35 rfl ?_
    have hu : (undr 1 x = true) = (undr 0 x = true) := by
      have hne : x ≠ 1 := by omega
      exact propext ⟨fun h => by have := of_decide_eq_true h; exact decide_eq_true (by omega), fun h => by have := of_decide_eq_true h; exact decide_eq_true (by omega)⟩
    refine J.mono ?_ (isOfKind_0 (y := y) (iv := iv) hx (j := j + 1) (by omega))
    rintro v S iv2 ⟨rfl, h2, h3⟩
    refine ⟨?_, h2, h3⟩
    simp only [hu]
  · have hu : undr 1 x = true := decide_eq_true (by omega)
    rw [b2_t hu]
    refine J.iconst (q := 25) dX5_isOfKind_24 ?_ rfl
    refine J.zreturn dX5_isOfKind_25 rfl (by omega) ?_
    first
    | exact ⟨rfl, rfl, rfl⟩
    | (refine ⟨congrArg (fun z => some (i_ z)) ?_, rfl, rfl⟩; first | rfl | omega)
    | (exfalso; omega)

set_option maxRecDepth 100000 in
set_option maxHeartbeats 4000000 in
theorem isOfKind_2 {l : Launch} {F : Nat × (Int → Int)} {iv : Mm} {y x j : Int} (hx : 0 ≤ x ∧ x ≤ 6) (hj : 0 ≤ j ∧ j ≤ 5) : J l (yX5_isOfKind).cls cX5_isOfKind 4 (some FieldType.boolean) 1 0 0 false F (Ret (some (i_ (b2 (undr 2 x = true)))) S0 iv) 0 0 4 [some (i_ y), some (i_ x), some (i_ (2)), some (i_ j)] [] S0 (iv) := by
  refine J.iload_n (q := 5) dX5_isOfKind_4 rfl ?_ rfl
  refine J.bipush (q := 7) dX5_isOfKind_5 (by decide) ?_ rfl
  refine J.icmp_ge (tgt := 38) (q := 10) dX5_isOfKind_7 rfl rfl (fun c => absurd c (by omega)) (fun c7 => ?_)
  refine J.iload_n (q := 11) dX5_isOfKind_10 rfl ?_ rfl
  refine J.bipush (q := 13) dX5_isOfKind_11 (by decide) ?_ rfl
  refine J.callS2i (q := 16) dX5_isOfKind_13 mv_X5_isWithin kS_X5_isWithin kL_X5_59 ⟨by decide, by decide⟩ (Nat.le_of_ble_eq_true rfl) ⟨by decide, by decide⟩ rfl (c_X5_isWithin (by omega) (by omega)) ?_
  refine J.ifb_eq (tgt := 38) (q := 19) dX5_isOfKind_16 rfl rfl (fun c => absurd c (fun q => q (by omega))) (fun c16 => ?_)
  refine J.iload_n (q := 20) dX5_isOfKind_19 rfl ?_ rfl
  refine J.iload_n (q := 21) dX5_isOfKind_20 rfl ?_ rfl
  refine J.icmp_ne (tgt := 26) (q := 24) dX5_isOfKind_21 rfl rfl (fun c21 => ?_) (fun c21 => ?_)
  · refine J.gets1 (q := 29) dX5_isOfKind_26 kF_X5_298 ?_ rfl
    refine J.iload_n (q := 30) dX5_isOfKind_29 rfl ?_ rfl
    refine J.tld1 (q := 31) dX5_isOfKind_30 (by omega) ?_ rfl
    refine J.istore_n (q := 32) dX5_isOfKind_31 (Nat.le_of_ble_eq_true rfl) ?_ rfl
    refine J.iinc (q := 35) dX5_isOfKind_32 rfl ?_ rfl
    refine J.goto (tgt := 4) dX5_isOfKind_35 rfl ?_
    have hu : (undr 2 x = true) = (undr 0 x = true) := by
      have hne : x ≠ 2 := by omega
      exact propext ⟨fun h => by have := of_decide_eq_true h; exact decide_eq_true (by omega), fun h => by have := of_decide_eq_true h; exact decide_eq_true (by omega)⟩
    refine J.mono ?_ (isOfKind_0 (y := y) (iv := iv) hx (j := j + 1) (by omega))
    rintro v S iv2 ⟨rfl, h2, h3⟩
    refine ⟨?_, h2, h3⟩
    simp only [hu]
  · have hu : undr 2 x = true := decide_eq_true (by omega)
    rw [b2_t hu]
    refine J.iconst (q := 25) dX5_isOfKind_24 ?_ rfl
    refine J.zreturn dX5_isOfKind_25 rfl (by omega) ?_
    first
    | exact ⟨rfl, rfl, rfl⟩
    | (refine ⟨congrArg (fun z => some (i_ z)) ?_, rfl, rfl⟩; first | rfl | omega)
    | (exfalso; omega)

set_option maxRecDepth 100000 in
set_option maxHeartbeats 4000000 in
theorem isOfKind_5 {l : Launch} {F : Nat × (Int → Int)} {iv : Mm} {y x j : Int} (hx : 0 ≤ x ∧ x ≤ 6) (hj : 0 ≤ j ∧ j ≤ 5) : J l (yX5_isOfKind).cls cX5_isOfKind 4 (some FieldType.boolean) 1 0 0 false F (Ret (some (i_ (b2 (undr 5 x = true)))) S0 iv) 0 0 4 [some (i_ y), some (i_ x), some (i_ (5)), some (i_ j)] [] S0 (iv) := by
  refine J.iload_n (q := 5) dX5_isOfKind_4 rfl ?_ rfl
  refine J.bipush (q := 7) dX5_isOfKind_5 (by decide) ?_ rfl
  refine J.icmp_ge (tgt := 38) (q := 10) dX5_isOfKind_7 rfl rfl (fun c => absurd c (by omega)) (fun c7 => ?_)
  refine J.iload_n (q := 11) dX5_isOfKind_10 rfl ?_ rfl
  refine J.bipush (q := 13) dX5_isOfKind_11 (by decide) ?_ rfl
  refine J.callS2i (q := 16) dX5_isOfKind_13 mv_X5_isWithin kS_X5_isWithin kL_X5_59 ⟨by decide, by decide⟩ (Nat.le_of_ble_eq_true rfl) ⟨by decide, by decide⟩ rfl (c_X5_isWithin (by omega) (by omega)) ?_
  refine J.ifb_eq (tgt := 38) (q := 19) dX5_isOfKind_16 rfl rfl (fun c => absurd c (fun q => q (by omega))) (fun c16 => ?_)
  refine J.iload_n (q := 20) dX5_isOfKind_19 rfl ?_ rfl
  refine J.iload_n (q := 21) dX5_isOfKind_20 rfl ?_ rfl
  refine J.icmp_ne (tgt := 26) (q := 24) dX5_isOfKind_21 rfl rfl (fun c21 => ?_) (fun c21 => ?_)
  · refine J.gets1 (q := 29) dX5_isOfKind_26 kF_X5_298 ?_ rfl
    refine J.iload_n (q := 30) dX5_isOfKind_29 rfl ?_ rfl
    refine J.tld1 (q := 31) dX5_isOfKind_30 (by omega) ?_ rfl
    refine J.istore_n (q := 32) dX5_isOfKind_31 (Nat.le_of_ble_eq_true rfl) ?_ rfl
    refine J.iinc (q := 35) dX5_isOfKind_32 rfl ?_ rfl
    refine J.goto (tgt := 4) dX5_isOfKind_35 rfl ?_
    have hu : (undr 5 x = true) = (undr 0 x = true) := by
      have hne : x ≠ 5 := by omega
      exact propext ⟨fun h => by have := of_decide_eq_true h; exact decide_eq_true (by omega), fun h => by have := of_decide_eq_true h; exact decide_eq_true (by omega)⟩
    refine J.mono ?_ (isOfKind_0 (y := y) (iv := iv) hx (j := j + 1) (by omega))
    rintro v S iv2 ⟨rfl, h2, h3⟩
    refine ⟨?_, h2, h3⟩
    simp only [hu]
  · have hu : undr 5 x = true := decide_eq_true (by omega)
    rw [b2_t hu]
    refine J.iconst (q := 25) dX5_isOfKind_24 ?_ rfl
    refine J.zreturn dX5_isOfKind_25 rfl (by omega) ?_
    first
    | exact ⟨rfl, rfl, rfl⟩
    | (refine ⟨congrArg (fun z => some (i_ z)) ?_, rfl, rfl⟩; first | rfl | omega)
    | (exfalso; omega)

set_option maxRecDepth 100000 in
set_option maxHeartbeats 4000000 in
theorem isOfKind_3 {l : Launch} {F : Nat × (Int → Int)} {iv : Mm} {y x j : Int} (hx : 0 ≤ x ∧ x ≤ 6) (hj : 0 ≤ j ∧ j ≤ 4) : J l (yX5_isOfKind).cls cX5_isOfKind 4 (some FieldType.boolean) 1 0 0 false F (Ret (some (i_ (b2 (undr 3 x = true)))) S0 iv) 0 0 4 [some (i_ y), some (i_ x), some (i_ (3)), some (i_ j)] [] S0 (iv) := by
  refine J.iload_n (q := 5) dX5_isOfKind_4 rfl ?_ rfl
  refine J.bipush (q := 7) dX5_isOfKind_5 (by decide) ?_ rfl
  refine J.icmp_ge (tgt := 38) (q := 10) dX5_isOfKind_7 rfl rfl (fun c => absurd c (by omega)) (fun c7 => ?_)
  refine J.iload_n (q := 11) dX5_isOfKind_10 rfl ?_ rfl
  refine J.bipush (q := 13) dX5_isOfKind_11 (by decide) ?_ rfl
  refine J.callS2i (q := 16) dX5_isOfKind_13 mv_X5_isWithin kS_X5_isWithin kL_X5_59 ⟨by decide, by decide⟩ (Nat.le_of_ble_eq_true rfl) ⟨by decide, by decide⟩ rfl (c_X5_isWithin (by omega) (by omega)) ?_
  refine J.ifb_eq (tgt := 38) (q := 19) dX5_isOfKind_16 rfl rfl (fun c => absurd c (fun q => q (by omega))) (fun c16 => ?_)
  refine J.iload_n (q := 20) dX5_isOfKind_19 rfl ?_ rfl
  refine J.iload_n (q := 21) dX5_isOfKind_20 rfl ?_ rfl
  refine J.icmp_ne (tgt := 26) (q := 24) dX5_isOfKind_21 rfl rfl (fun c21 => ?_) (fun c21 => ?_)
  · refine J.gets1 (q := 29) dX5_isOfKind_26 kF_X5_298 ?_ rfl
    refine J.iload_n (q := 30) dX5_isOfKind_29 rfl ?_ rfl
    refine J.tld1 (q := 31) dX5_isOfKind_30 (by omega) ?_ rfl
    refine J.istore_n (q := 32) dX5_isOfKind_31 (Nat.le_of_ble_eq_true rfl) ?_ rfl
    refine J.iinc (q := 35) dX5_isOfKind_32 rfl ?_ rfl
    refine J.goto (tgt := 4) dX5_isOfKind_35 rfl ?_
    have hu : (undr 3 x = true) = (undr 2 x = true) := by
      have hne : x ≠ 3 := by omega
      exact propext ⟨fun h => by have := of_decide_eq_true h; exact decide_eq_true (by omega), fun h => by have := of_decide_eq_true h; exact decide_eq_true (by omega)⟩
    refine J.mono ?_ (isOfKind_2 (y := y) (iv := iv) hx (j := j + 1) (by omega))
    rintro v S iv2 ⟨rfl, h2, h3⟩
    refine ⟨?_, h2, h3⟩
    simp only [hu]
  · have hu : undr 3 x = true := decide_eq_true (by omega)
    rw [b2_t hu]
    refine J.iconst (q := 25) dX5_isOfKind_24 ?_ rfl
    refine J.zreturn dX5_isOfKind_25 rfl (by omega) ?_
    first
    | exact ⟨rfl, rfl, rfl⟩
    | (refine ⟨congrArg (fun z => some (i_ z)) ?_, rfl, rfl⟩; first | rfl | omega)
    | (exfalso; omega)

set_option maxRecDepth 100000 in
set_option maxHeartbeats 4000000 in
theorem isOfKind_4 {l : Launch} {F : Nat × (Int → Int)} {iv : Mm} {y x j : Int} (hx : 0 ≤ x ∧ x ≤ 6) (hj : 0 ≤ j ∧ j ≤ 3) : J l (yX5_isOfKind).cls cX5_isOfKind 4 (some FieldType.boolean) 1 0 0 false F (Ret (some (i_ (b2 (undr 4 x = true)))) S0 iv) 0 0 4 [some (i_ y), some (i_ x), some (i_ (4)), some (i_ j)] [] S0 (iv) := by
  refine J.iload_n (q := 5) dX5_isOfKind_4 rfl ?_ rfl
  refine J.bipush (q := 7) dX5_isOfKind_5 (by decide) ?_ rfl
  refine J.icmp_ge (tgt := 38) (q := 10) dX5_isOfKind_7 rfl rfl (fun c => absurd c (by omega)) (fun c7 => ?_)
  refine J.iload_n (q := 11) dX5_isOfKind_10 rfl ?_ rfl
  refine J.bipush (q := 13) dX5_isOfKind_11 (by decide) ?_ rfl
  refine J.callS2i (q := 16) dX5_isOfKind_13 mv_X5_isWithin kS_X5_isWithin kL_X5_59 ⟨by decide, by decide⟩ (Nat.le_of_ble_eq_true rfl) ⟨by decide, by decide⟩ rfl (c_X5_isWithin (by omega) (by omega)) ?_
  refine J.ifb_eq (tgt := 38) (q := 19) dX5_isOfKind_16 rfl rfl (fun c => absurd c (fun q => q (by omega))) (fun c16 => ?_)
  refine J.iload_n (q := 20) dX5_isOfKind_19 rfl ?_ rfl
  refine J.iload_n (q := 21) dX5_isOfKind_20 rfl ?_ rfl
  refine J.icmp_ne (tgt := 26) (q := 24) dX5_isOfKind_21 rfl rfl (fun c21 => ?_) (fun c21 => ?_)
  · refine J.gets1 (q := 29) dX5_isOfKind_26 kF_X5_298 ?_ rfl
    refine J.iload_n (q := 30) dX5_isOfKind_29 rfl ?_ rfl
    refine J.tld1 (q := 31) dX5_isOfKind_30 (by omega) ?_ rfl
    refine J.istore_n (q := 32) dX5_isOfKind_31 (Nat.le_of_ble_eq_true rfl) ?_ rfl
    refine J.iinc (q := 35) dX5_isOfKind_32 rfl ?_ rfl
    refine J.goto (tgt := 4) dX5_isOfKind_35 rfl ?_
    have hu : (undr 4 x = true) = (undr 3 x = true) := by
      have hne : x ≠ 4 := by omega
      exact propext ⟨fun h => by have := of_decide_eq_true h; exact decide_eq_true (by omega), fun h => by have := of_decide_eq_true h; exact decide_eq_true (by omega)⟩
    refine J.mono ?_ (isOfKind_3 (y := y) (iv := iv) hx (j := j + 1) (by omega))
    rintro v S iv2 ⟨rfl, h2, h3⟩
    refine ⟨?_, h2, h3⟩
    simp only [hu]
  · have hu : undr 4 x = true := decide_eq_true (by omega)
    rw [b2_t hu]
    refine J.iconst (q := 25) dX5_isOfKind_24 ?_ rfl
    refine J.zreturn dX5_isOfKind_25 rfl (by omega) ?_
    first
    | exact ⟨rfl, rfl, rfl⟩
    | (refine ⟨congrArg (fun z => some (i_ z)) ?_, rfl, rfl⟩; first | rfl | omega)
    | (exfalso; omega)

set_option maxRecDepth 100000 in
set_option maxHeartbeats 4000000 in
theorem isOfKind_6 {l : Launch} {F : Nat × (Int → Int)} {iv : Mm} {y x j : Int} (hx : 0 ≤ x ∧ x ≤ 6) (hj : 0 ≤ j ∧ j ≤ 4) : J l (yX5_isOfKind).cls cX5_isOfKind 4 (some FieldType.boolean) 1 0 0 false F (Ret (some (i_ (b2 (undr 6 x = true)))) S0 iv) 0 0 4 [some (i_ y), some (i_ x), some (i_ (6)), some (i_ j)] [] S0 (iv) := by
  refine J.iload_n (q := 5) dX5_isOfKind_4 rfl ?_ rfl
  refine J.bipush (q := 7) dX5_isOfKind_5 (by decide) ?_ rfl
  refine J.icmp_ge (tgt := 38) (q := 10) dX5_isOfKind_7 rfl rfl (fun c => absurd c (by omega)) (fun c7 => ?_)
  refine J.iload_n (q := 11) dX5_isOfKind_10 rfl ?_ rfl
  refine J.bipush (q := 13) dX5_isOfKind_11 (by decide) ?_ rfl
  refine J.callS2i (q := 16) dX5_isOfKind_13 mv_X5_isWithin kS_X5_isWithin kL_X5_59 ⟨by decide, by decide⟩ (Nat.le_of_ble_eq_true rfl) ⟨by decide, by decide⟩ rfl (c_X5_isWithin (by omega) (by omega)) ?_
  refine J.ifb_eq (tgt := 38) (q := 19) dX5_isOfKind_16 rfl rfl (fun c => absurd c (fun q => q (by omega))) (fun c16 => ?_)
  refine J.iload_n (q := 20) dX5_isOfKind_19 rfl ?_ rfl
  refine J.iload_n (q := 21) dX5_isOfKind_20 rfl ?_ rfl
  refine J.icmp_ne (tgt := 26) (q := 24) dX5_isOfKind_21 rfl rfl (fun c21 => ?_) (fun c21 => ?_)
  · refine J.gets1 (q := 29) dX5_isOfKind_26 kF_X5_298 ?_ rfl
    refine J.iload_n (q := 30) dX5_isOfKind_29 rfl ?_ rfl
    refine J.tld1 (q := 31) dX5_isOfKind_30 (by omega) ?_ rfl
    refine J.istore_n (q := 32) dX5_isOfKind_31 (Nat.le_of_ble_eq_true rfl) ?_ rfl
    refine J.iinc (q := 35) dX5_isOfKind_32 rfl ?_ rfl
    refine J.goto (tgt := 4) dX5_isOfKind_35 rfl ?_
    have hu : (undr 6 x = true) = (undr 1 x = true) := by
      have hne : x ≠ 6 := by omega
      exact propext ⟨fun h => by have := of_decide_eq_true h; exact decide_eq_true (by omega), fun h => by have := of_decide_eq_true h; exact decide_eq_true (by omega)⟩
    refine J.mono ?_ (isOfKind_1 (y := y) (iv := iv) hx (j := j + 1) (by omega))
    rintro v S iv2 ⟨rfl, h2, h3⟩
    refine ⟨?_, h2, h3⟩
    simp only [hu]
  · have hu : undr 6 x = true := decide_eq_true (by omega)
    rw [b2_t hu]
    refine J.iconst (q := 25) dX5_isOfKind_24 ?_ rfl
    refine J.zreturn dX5_isOfKind_25 rfl (by omega) ?_
    first
    | exact ⟨rfl, rfl, rfl⟩
    | (refine ⟨congrArg (fun z => some (i_ z)) ?_, rfl, rfl⟩; first | rfl | omega)
    | (exfalso; omega)

set_option maxRecDepth 100000 in
set_option maxHeartbeats 4000000 in
theorem c_X5_isOfKind {l : Launch} {F : Nat × (Int → Int)} {iv : Mm} {y x : Int} (hy : 0 ≤ y ∧ y ≤ 6) (hx : 0 ≤ x ∧ x ≤ 6) : Ctr l F 1 0 0 yX5_isOfKind cX5_isOfKind 4 (some FieldType.boolean) [i_ y, i_ x] S0 (iv) (Ret (some (i_ (b2 (undr y x = true)))) S0 iv) := by
  refine Ctr.of false (fun h => by cases h) (by decide) rfl (Nat.le_of_ble_eq_true rfl) ?_
  refine J.iload_n (q := 1) dX5_isOfKind_0 rfl ?_ rfl
  refine J.istore_n (q := 2) dX5_isOfKind_1 (Nat.le_of_ble_eq_true rfl) ?_ rfl
  refine J.iconst (q := 3) dX5_isOfKind_2 ?_ rfl
  refine J.istore_n (q := 4) dX5_isOfKind_3 (Nat.le_of_ble_eq_true rfl) ?_ rfl
  rcases (show y = 0 ∨ y = 1 ∨ y = 2 ∨ y = 3 ∨ y = 4 ∨ y = 5 ∨ y = 6 by omega) with rfl | rfl | rfl | rfl | rfl | rfl | rfl
  · exact isOfKind_0 hx (by omega)
  · exact isOfKind_1 hx (by omega)
  · exact isOfKind_2 hx (by omega)
  · exact isOfKind_3 hx (by omega)
  · exact isOfKind_4 hx (by omega)
  · exact isOfKind_5 hx (by omega)
  · exact isOfKind_6 hx (by omega)

def RM1 (iv : Mm) (X : P2) : Prop := RR iv 1 X.1 ∧ ∀ c, 0 ≤ c → c < 81 → iv 5 c = X.2 c
set_option maxRecDepth 100000 in
set_option maxHeartbeats 4000000 in
theorem c_movesOf1 {l : Launch} {F : Nat × (Int → Int)} {iv : Mm} {D : Int} {s : Int → Int} (hD : D ≤ 200000) (hR : RR iv 1 s) (hI : MI D s) {k : Int} (hk : 0 ≤ k ∧ k < 8) : Ctr l F 0 0 0 yX1_movesOf cX1_movesOf 5 (some FieldType.int) [r_ 1, i_ k] S0 (iv) (Ret (some (i_ (movM s k))) S0 iv) := by
  refine Ctr.of false (fun h => by cases h) (by decide) rfl (Nat.le_of_ble_eq_true rfl) ?_
  have hw := hI.wet
  have hd := hI.day
  have hs := hI.sna k hk.1 hk.2
  have hg := hI.cel (s (257 + 5 * k + 1)) hs.2.1.1 hs.2.1.2
  refine J.aload_n (q := 1) dX1_movesOf_0 rfl ?_ rfl
  refine J.getI (ci := 1) (k0 := 12) (kz := 12) (q := 4) dX1_movesOf_1 kF_X1_49 rfl (by decide) (by decide) rfl (.inl rfl) ?_ rfl
  rw [g1_wet hR]
  refine J.iconst (q := 5) dX1_movesOf_4 ?_ rfl
  refine J.idiv (q := 6) dX1_movesOf_5 (I3_div (by omega) (by omega) rfl) (I3_n0 (by omega)) ?_ rfl
  refine J.iconst (q := 7) dX1_movesOf_6 ?_ rfl
  refine J.iadd (q := 8) dX1_movesOf_7 ?_ rfl
  refine J.istore_n (q := 9) dX1_movesOf_8 (Nat.le_of_ble_eq_true rfl) ?_ rfl
  refine J.aload_n (q := 10) dX1_movesOf_9 rfl ?_ rfl
  refine J.getR (ci := 1) (k0 := 1) (c1 := 3) (q := 13) dX1_movesOf_10 kF_X1_15 rfl (by decide) (by decide) rfl (by decide) rfl ?_ rfl
  refine J.aload_n (q := 14) dX1_movesOf_13 rfl ?_ rfl
  refine J.getR (ci := 1) (k0 := 6) (c1 := 8) (q := 17) dX1_movesOf_14 kF_X1_30 rfl (by decide) (by decide) rfl (by decide) rfl ?_ rfl
  refine J.iload_n (q := 18) dX1_movesOf_17 rfl ?_ rfl
  refine J.iald (n := 8) (q := 19) dX1_movesOf_18 rfl (by omega) ?_ rfl
  rw [g1_ats hR (by omega) (by omega)]
  refine J.iald (n := 81) (q := 20) dX1_movesOf_19 rfl (by omega) ?_ rfl
  rw [g1_lea hR (by omega) (by omega)]
  refine J.if_le (tgt := 27) (q := 23) dX1_movesOf_20 rfl rfl (fun c20 => ?_) (fun c20 => ?_)
  · refine J.iload_n (q := 28) dX1_movesOf_27 rfl ?_ rfl
    refine J.istore_n (q := 29) dX1_movesOf_28 (Nat.le_of_ble_eq_true rfl) ?_ rfl
    refine J.aload_n (q := 30) dX1_movesOf_29 rfl ?_ rfl
    refine J.getI (ci := 1) (k0 := 14) (kz := 14) (q := 33) dX1_movesOf_30 kF_X1_55 rfl (by decide) (by decide) rfl (.inl rfl) ?_ rfl
    rw [g1_day hR]
    refine J.iconst (q := 34) dX1_movesOf_33 ?_ rfl
    refine J.irem (q := 35) dX1_movesOf_34 (I3_rem (by omega) (by omega) rfl) (I3_n0 (by omega)) ?_ rfl
    refine J.if_ne (tgt := 44) (q := 38) dX1_movesOf_35 rfl rfl (fun c35 => ?_) (fun c35 => ?_)
    · refine J.iconst (q := 45) dX1_movesOf_44 ?_ rfl
      refine J.istore (q := 47) dX1_movesOf_45 (Nat.le_of_ble_eq_true rfl) ?_ rfl
      refine J.aload_n (q := 48) dX1_movesOf_47 rfl ?_ rfl
      refine J.getR (ci := 1) (k0 := 5) (c1 := 7) (q := 51) dX1_movesOf_48 kF_X1_27 rfl (by decide) (by decide) rfl (by decide) rfl ?_ rfl
      refine J.iload_n (q := 52) dX1_movesOf_51 rfl ?_ rfl
      refine J.iald (n := 8) (q := 53) dX1_movesOf_52 rfl (by omega) ?_ rfl
      rw [g1_kin hR (by omega) (by omega)]
      rcases (show ((s (257 + 5 * k + 0)) < 1 ∨ 6 < (s (257 + 5 * k + 0))) ∨ (s (257 + 5 * k + 0)) = 1 ∨ (s (257 + 5 * k + 0)) = 2 ∨ (s (257 + 5 * k + 0)) = 3 ∨ (s (257 + 5 * k + 0)) = 4 ∨ (s (257 + 5 * k + 0)) = 5 ∨ (s (257 + 5 * k + 0)) = 6 by omega) with hO | hx53 | hx53 | hx53 | hx53 | hx53 | hx53
      · refine J.tabOut (tgt := 125) dX1_movesOf_53 (by omega) hO rfl ?_
        refine J.iload_n (q := 126) dX1_movesOf_125 rfl ?_ rfl
        refine J.ireturn dX1_movesOf_126 rfl ?_
        refine ⟨congrArg (fun z => some (i_ z)) ?_, rfl, rfl⟩
        unfold movM
        repeat (first | rw [if_pos (by omega)] | rw [if_neg (by omega)])
        try omega
      · refine J.tabIn (off := 39) (tgt := 92) dX1_movesOf_53 (by omega) (by omega) (by omega) (by rw [hx53]; rfl) rfl ?_
        refine J.iload_n (q := 93) dX1_movesOf_92 rfl ?_ rfl
        refine J.ireturn dX1_movesOf_93 rfl ?_
        refine ⟨congrArg (fun z => some (i_ z)) ?_, rfl, rfl⟩
        unfold movM
        repeat (first | rw [if_pos (by omega)] | rw [if_neg (by omega)])
        try omega
      · refine J.tabIn (off := 45) (tgt := 98) dX1_movesOf_53 (by omega) (by omega) (by omega) (by rw [hx53]; rfl) rfl ?_
        refine J.iload_n (q := 99) dX1_movesOf_98 rfl ?_ rfl
        refine J.iconst (q := 100) dX1_movesOf_99 ?_ rfl
        refine J.isub (q := 101) dX1_movesOf_100 ?_ rfl
        refine J.ireturn dX1_movesOf_101 rfl ?_
        refine ⟨congrArg (fun z => some (i_ z)) ?_, rfl, rfl⟩
        unfold movM
        repeat (first | rw [if_pos (by omega)] | rw [if_neg (by omega)])
        try omega
      · refine J.tabIn (off := 49) (tgt := 102) dX1_movesOf_53 (by omega) (by omega) (by omega) (by rw [hx53]; rfl) rfl ?_
        refine J.iload (q := 104) dX1_movesOf_102 rfl ?_ rfl
        refine J.ireturn dX1_movesOf_104 rfl ?_
        refine ⟨congrArg (fun z => some (i_ z)) ?_, rfl, rfl⟩
        unfold movM
        repeat (first | rw [if_pos (by omega)] | rw [if_neg (by omega)])
        try omega
      · refine J.tabIn (off := 52) (tgt := 105) dX1_movesOf_53 (by omega) (by omega) (by omega) (by rw [hx53]; rfl) rfl ?_
        refine J.iload (q := 107) dX1_movesOf_105 rfl ?_ rfl
        refine J.aload_n (q := 108) dX1_movesOf_107 rfl ?_ rfl
        refine J.getI (ci := 1) (k0 := 14) (kz := 14) (q := 111) dX1_movesOf_108 kF_X1_55 rfl (by decide) (by decide) rfl (.inl rfl) ?_ rfl
        rw [g1_day hR]
        refine J.iconst (q := 112) dX1_movesOf_111 ?_ rfl
        refine J.irem (q := 113) dX1_movesOf_112 (I3_rem (by omega) (by omega) rfl) (I3_n0 (by omega)) ?_ rfl
        refine J.if_ne (tgt := 120) (q := 116) dX1_movesOf_113 rfl rfl (fun c113 => ?_) (fun c113 => ?_)
        · refine J.iconst (q := 121) dX1_movesOf_120 ?_ rfl
          refine J.iadd (q := 122) dX1_movesOf_121 ?_ rfl
          refine J.ireturn dX1_movesOf_122 rfl ?_
          refine ⟨congrArg (fun z => some (i_ z)) ?_, rfl, rfl⟩
          unfold movM
          repeat (first | rw [if_pos (by omega)] | rw [if_neg (by omega)])
          try omega
        · refine J.iconst (q := 117) dX1_movesOf_116 ?_ rfl
          refine J.goto (tgt := 121) dX1_movesOf_117 rfl ?_
          refine J.iadd (q := 122) dX1_movesOf_121 ?_ rfl
          refine J.ireturn dX1_movesOf_122 rfl ?_
          refine ⟨congrArg (fun z => some (i_ z)) ?_, rfl, rfl⟩
          unfold movM
          repeat (first | rw [if_pos (by omega)] | rw [if_neg (by omega)])
          try omega
      · refine J.tabIn (off := 70) (tgt := 123) dX1_movesOf_53 (by omega) (by omega) (by omega) (by rw [hx53]; rfl) rfl ?_
        refine J.iconst (q := 124) dX1_movesOf_123 ?_ rfl
        refine J.ireturn dX1_movesOf_124 rfl ?_
        refine ⟨congrArg (fun z => some (i_ z)) ?_, rfl, rfl⟩
        unfold movM
        repeat (first | rw [if_pos (by omega)] | rw [if_neg (by omega)])
        try omega
      · refine J.tabIn (off := 41) (tgt := 94) dX1_movesOf_53 (by omega) (by omega) (by omega) (by rw [hx53]; rfl) rfl ?_
        refine J.iconst (q := 95) dX1_movesOf_94 ?_ rfl
        refine J.iload_n (q := 96) dX1_movesOf_95 rfl ?_ rfl
        refine J.imul (q := 97) dX1_movesOf_96 ?_ rfl
        refine J.ireturn dX1_movesOf_97 rfl ?_
        refine ⟨congrArg (fun z => some (i_ z)) ?_, rfl, rfl⟩
        unfold movM
        repeat (first | rw [if_pos (by omega)] | rw [if_neg (by omega)])
        try omega
    · refine J.iload_n (q := 39) dX1_movesOf_38 rfl ?_ rfl
      refine J.iconst (q := 40) dX1_movesOf_39 ?_ rfl
      refine J.isub (q := 41) dX1_movesOf_40 ?_ rfl
      refine J.goto (tgt := 45) dX1_movesOf_41 rfl ?_
      refine J.istore (q := 47) dX1_movesOf_45 (Nat.le_of_ble_eq_true rfl) ?_ rfl
      refine J.aload_n (q := 48) dX1_movesOf_47 rfl ?_ rfl
      refine J.getR (ci := 1) (k0 := 5) (c1 := 7) (q := 51) dX1_movesOf_48 kF_X1_27 rfl (by decide) (by decide) rfl (by decide) rfl ?_ rfl
      refine J.iload_n (q := 52) dX1_movesOf_51 rfl ?_ rfl
      refine J.iald (n := 8) (q := 53) dX1_movesOf_52 rfl (by omega) ?_ rfl
      rw [g1_kin hR (by omega) (by omega)]
      rcases (show ((s (257 + 5 * k + 0)) < 1 ∨ 6 < (s (257 + 5 * k + 0))) ∨ (s (257 + 5 * k + 0)) = 1 ∨ (s (257 + 5 * k + 0)) = 2 ∨ (s (257 + 5 * k + 0)) = 3 ∨ (s (257 + 5 * k + 0)) = 4 ∨ (s (257 + 5 * k + 0)) = 5 ∨ (s (257 + 5 * k + 0)) = 6 by omega) with hO | hx53 | hx53 | hx53 | hx53 | hx53 | hx53
      · refine J.tabOut (tgt := 125) dX1_movesOf_53 (by omega) hO rfl ?_
        refine J.iload_n (q := 126) dX1_movesOf_125 rfl ?_ rfl
        refine J.ireturn dX1_movesOf_126 rfl ?_
        refine ⟨congrArg (fun z => some (i_ z)) ?_, rfl, rfl⟩
        unfold movM
        repeat (first | rw [if_pos (by omega)] | rw [if_neg (by omega)])
        try omega
      · refine J.tabIn (off := 39) (tgt := 92) dX1_movesOf_53 (by omega) (by omega) (by omega) (by rw [hx53]; rfl) rfl ?_
        refine J.iload_n (q := 93) dX1_movesOf_92 rfl ?_ rfl
        refine J.ireturn dX1_movesOf_93 rfl ?_
        refine ⟨congrArg (fun z => some (i_ z)) ?_, rfl, rfl⟩
        unfold movM
        repeat (first | rw [if_pos (by omega)] | rw [if_neg (by omega)])
        try omega
      · refine J.tabIn (off := 45) (tgt := 98) dX1_movesOf_53 (by omega) (by omega) (by omega) (by rw [hx53]; rfl) rfl ?_
        refine J.iload_n (q := 99) dX1_movesOf_98 rfl ?_ rfl
        refine J.iconst (q := 100) dX1_movesOf_99 ?_ rfl
        refine J.isub (q := 101) dX1_movesOf_100 ?_ rfl
        refine J.ireturn dX1_movesOf_101 rfl ?_
        refine ⟨congrArg (fun z => some (i_ z)) ?_, rfl, rfl⟩
        unfold movM
        repeat (first | rw [if_pos (by omega)] | rw [if_neg (by omega)])
        try omega
      · refine J.tabIn (off := 49) (tgt := 102) dX1_movesOf_53 (by omega) (by omega) (by omega) (by rw [hx53]; rfl) rfl ?_
        refine J.iload (q := 104) dX1_movesOf_102 rfl ?_ rfl
        refine J.ireturn dX1_movesOf_104 rfl ?_
        refine ⟨congrArg (fun z => some (i_ z)) ?_, rfl, rfl⟩
        unfold movM
        repeat (first | rw [if_pos (by omega)] | rw [if_neg (by omega)])
        try omega
      · refine J.tabIn (off := 52) (tgt := 105) dX1_movesOf_53 (by omega) (by omega) (by omega) (by rw [hx53]; rfl) rfl ?_
        refine J.iload (q := 107) dX1_movesOf_105 rfl ?_ rfl
        refine J.aload_n (q := 108) dX1_movesOf_107 rfl ?_ rfl
        refine J.getI (ci := 1) (k0 := 14) (kz := 14) (q := 111) dX1_movesOf_108 kF_X1_55 rfl (by decide) (by decide) rfl (.inl rfl) ?_ rfl
        rw [g1_day hR]
        refine J.iconst (q := 112) dX1_movesOf_111 ?_ rfl
        refine J.irem (q := 113) dX1_movesOf_112 (I3_rem (by omega) (by omega) rfl) (I3_n0 (by omega)) ?_ rfl
        refine J.if_ne (tgt := 120) (q := 116) dX1_movesOf_113 rfl rfl (fun c113 => ?_) (fun c113 => ?_)
        · refine J.iconst (q := 121) dX1_movesOf_120 ?_ rfl
          refine J.iadd (q := 122) dX1_movesOf_121 ?_ rfl
          refine J.ireturn dX1_movesOf_122 rfl ?_
          refine ⟨congrArg (fun z => some (i_ z)) ?_, rfl, rfl⟩
          unfold movM
          repeat (first | rw [if_pos (by omega)] | rw [if_neg (by omega)])
          try omega
        · refine J.iconst (q := 117) dX1_movesOf_116 ?_ rfl
          refine J.goto (tgt := 121) dX1_movesOf_117 rfl ?_
          refine J.iadd (q := 122) dX1_movesOf_121 ?_ rfl
          refine J.ireturn dX1_movesOf_122 rfl ?_
          refine ⟨congrArg (fun z => some (i_ z)) ?_, rfl, rfl⟩
          unfold movM
          repeat (first | rw [if_pos (by omega)] | rw [if_neg (by omega)])
          try omega
      · refine J.tabIn (off := 70) (tgt := 123) dX1_movesOf_53 (by omega) (by omega) (by omega) (by rw [hx53]; rfl) rfl ?_
        refine J.iconst (q := 124) dX1_movesOf_123 ?_ rfl
        refine J.ireturn dX1_movesOf_124 rfl ?_
        refine ⟨congrArg (fun z => some (i_ z)) ?_, rfl, rfl⟩
        unfold movM
        repeat (first | rw [if_pos (by omega)] | rw [if_neg (by omega)])
        try omega
      · refine J.tabIn (off := 41) (tgt := 94) dX1_movesOf_53 (by omega) (by omega) (by omega) (by rw [hx53]; rfl) rfl ?_
        refine J.iconst (q := 95) dX1_movesOf_94 ?_ rfl
        refine J.iload_n (q := 96) dX1_movesOf_95 rfl ?_ rfl
        refine J.imul (q := 97) dX1_movesOf_96 ?_ rfl
        refine J.ireturn dX1_movesOf_97 rfl ?_
        refine ⟨congrArg (fun z => some (i_ z)) ?_, rfl, rfl⟩
        unfold movM
        repeat (first | rw [if_pos (by omega)] | rw [if_neg (by omega)])
        try omega
  · refine J.iconst (q := 24) dX1_movesOf_23 ?_ rfl
    refine J.goto (tgt := 28) dX1_movesOf_24 rfl ?_
    refine J.istore_n (q := 29) dX1_movesOf_28 (Nat.le_of_ble_eq_true rfl) ?_ rfl
    refine J.aload_n (q := 30) dX1_movesOf_29 rfl ?_ rfl
    refine J.getI (ci := 1) (k0 := 14) (kz := 14) (q := 33) dX1_movesOf_30 kF_X1_55 rfl (by decide) (by decide) rfl (.inl rfl) ?_ rfl
    rw [g1_day hR]
    refine J.iconst (q := 34) dX1_movesOf_33 ?_ rfl
    refine J.irem (q := 35) dX1_movesOf_34 (I3_rem (by omega) (by omega) rfl) (I3_n0 (by omega)) ?_ rfl
    refine J.if_ne (tgt := 44) (q := 38) dX1_movesOf_35 rfl rfl (fun c35 => ?_) (fun c35 => ?_)
    · refine J.iconst (q := 45) dX1_movesOf_44 ?_ rfl
      refine J.istore (q := 47) dX1_movesOf_45 (Nat.le_of_ble_eq_true rfl) ?_ rfl
      refine J.aload_n (q := 48) dX1_movesOf_47 rfl ?_ rfl
      refine J.getR (ci := 1) (k0 := 5) (c1 := 7) (q := 51) dX1_movesOf_48 kF_X1_27 rfl (by decide) (by decide) rfl (by decide) rfl ?_ rfl
      refine J.iload_n (q := 52) dX1_movesOf_51 rfl ?_ rfl
      refine J.iald (n := 8) (q := 53) dX1_movesOf_52 rfl (by omega) ?_ rfl
      rw [g1_kin hR (by omega) (by omega)]
      rcases (show ((s (257 + 5 * k + 0)) < 1 ∨ 6 < (s (257 + 5 * k + 0))) ∨ (s (257 + 5 * k + 0)) = 1 ∨ (s (257 + 5 * k + 0)) = 2 ∨ (s (257 + 5 * k + 0)) = 3 ∨ (s (257 + 5 * k + 0)) = 4 ∨ (s (257 + 5 * k + 0)) = 5 ∨ (s (257 + 5 * k + 0)) = 6 by omega) with hO | hx53 | hx53 | hx53 | hx53 | hx53 | hx53
      · refine J.tabOut (tgt := 125) dX1_movesOf_53 (by omega) hO rfl ?_
        refine J.iload_n (q := 126) dX1_movesOf_125 rfl ?_ rfl
        refine J.ireturn dX1_movesOf_126 rfl ?_
        refine ⟨congrArg (fun z => some (i_ z)) ?_, rfl, rfl⟩
        unfold movM
        repeat (first | rw [if_pos (by omega)] | rw [if_neg (by omega)])
        try omega
      · refine J.tabIn (off := 39) (tgt := 92) dX1_movesOf_53 (by omega) (by omega) (by omega) (by rw [hx53]; rfl) rfl ?_
        refine J.iload_n (q := 93) dX1_movesOf_92 rfl ?_ rfl
        refine J.ireturn dX1_movesOf_93 rfl ?_
        refine ⟨congrArg (fun z => some (i_ z)) ?_, rfl, rfl⟩
        unfold movM
        repeat (first | rw [if_pos (by omega)] | rw [if_neg (by omega)])
        try omega
      · refine J.tabIn (off := 45) (tgt := 98) dX1_movesOf_53 (by omega) (by omega) (by omega) (by rw [hx53]; rfl) rfl ?_
        refine J.iload_n (q := 99) dX1_movesOf_98 rfl ?_ rfl
        refine J.iconst (q := 100) dX1_movesOf_99 ?_ rfl
        refine J.isub (q := 101) dX1_movesOf_100 ?_ rfl
        refine J.ireturn dX1_movesOf_101 rfl ?_
        refine ⟨congrArg (fun z => some (i_ z)) ?_, rfl, rfl⟩
        unfold movM
        repeat (first | rw [if_pos (by omega)] | rw [if_neg (by omega)])
        try omega
      · refine J.tabIn (off := 49) (tgt := 102) dX1_movesOf_53 (by omega) (by omega) (by omega) (by rw [hx53]; rfl) rfl ?_
        refine J.iload (q := 104) dX1_movesOf_102 rfl ?_ rfl
        refine J.ireturn dX1_movesOf_104 rfl ?_
        refine ⟨congrArg (fun z => some (i_ z)) ?_, rfl, rfl⟩
        unfold movM
        repeat (first | rw [if_pos (by omega)] | rw [if_neg (by omega)])
        try omega
      · refine J.tabIn (off := 52) (tgt := 105) dX1_movesOf_53 (by omega) (by omega) (by omega) (by rw [hx53]; rfl) rfl ?_
        refine J.iload (q := 107) dX1_movesOf_105 rfl ?_ rfl
        refine J.aload_n (q := 108) dX1_movesOf_107 rfl ?_ rfl
        refine J.getI (ci := 1) (k0 := 14) (kz := 14) (q := 111) dX1_movesOf_108 kF_X1_55 rfl (by decide) (by decide) rfl (.inl rfl) ?_ rfl
        rw [g1_day hR]
        refine J.iconst (q := 112) dX1_movesOf_111 ?_ rfl
        refine J.irem (q := 113) dX1_movesOf_112 (I3_rem (by omega) (by omega) rfl) (I3_n0 (by omega)) ?_ rfl
        refine J.if_ne (tgt := 120) (q := 116) dX1_movesOf_113 rfl rfl (fun c113 => ?_) (fun c113 => ?_)
        · refine J.iconst (q := 121) dX1_movesOf_120 ?_ rfl
          refine J.iadd (q := 122) dX1_movesOf_121 ?_ rfl
          refine J.ireturn dX1_movesOf_122 rfl ?_
          refine ⟨congrArg (fun z => some (i_ z)) ?_, rfl, rfl⟩
          unfold movM
          repeat (first | rw [if_pos (by omega)] | rw [if_neg (by omega)])
          try omega
        · refine J.iconst (q := 117) dX1_movesOf_116 ?_ rfl
          refine J.goto (tgt := 121) dX1_movesOf_117 rfl ?_
          refine J.iadd (q := 122) dX1_movesOf_121 ?_ rfl
          refine J.ireturn dX1_movesOf_122 rfl ?_
          refine ⟨congrArg (fun z => some (i_ z)) ?_, rfl, rfl⟩
          unfold movM
          repeat (first | rw [if_pos (by omega)] | rw [if_neg (by omega)])
          try omega
      · refine J.tabIn (off := 70) (tgt := 123) dX1_movesOf_53 (by omega) (by omega) (by omega) (by rw [hx53]; rfl) rfl ?_
        refine J.iconst (q := 124) dX1_movesOf_123 ?_ rfl
        refine J.ireturn dX1_movesOf_124 rfl ?_
        refine ⟨congrArg (fun z => some (i_ z)) ?_, rfl, rfl⟩
        unfold movM
        repeat (first | rw [if_pos (by omega)] | rw [if_neg (by omega)])
        try omega
      · refine J.tabIn (off := 41) (tgt := 94) dX1_movesOf_53 (by omega) (by omega) (by omega) (by rw [hx53]; rfl) rfl ?_
        refine J.iconst (q := 95) dX1_movesOf_94 ?_ rfl
        refine J.iload_n (q := 96) dX1_movesOf_95 rfl ?_ rfl
        refine J.imul (q := 97) dX1_movesOf_96 ?_ rfl
        refine J.ireturn dX1_movesOf_97 rfl ?_
        refine ⟨congrArg (fun z => some (i_ z)) ?_, rfl, rfl⟩
        unfold movM
        repeat (first | rw [if_pos (by omega)] | rw [if_neg (by omega)])
        try omega
    · refine J.iload_n (q := 39) dX1_movesOf_38 rfl ?_ rfl
      refine J.iconst (q := 40) dX1_movesOf_39 ?_ rfl
      refine J.isub (q := 41) dX1_movesOf_40 ?_ rfl
      refine J.goto (tgt := 45) dX1_movesOf_41 rfl ?_
      refine J.istore (q := 47) dX1_movesOf_45 (Nat.le_of_ble_eq_true rfl) ?_ rfl
      refine J.aload_n (q := 48) dX1_movesOf_47 rfl ?_ rfl
      refine J.getR (ci := 1) (k0 := 5) (c1 := 7) (q := 51) dX1_movesOf_48 kF_X1_27 rfl (by decide) (by decide) rfl (by decide) rfl ?_ rfl
      refine J.iload_n (q := 52) dX1_movesOf_51 rfl ?_ rfl
      refine J.iald (n := 8) (q := 53) dX1_movesOf_52 rfl (by omega) ?_ rfl
      rw [g1_kin hR (by omega) (by omega)]
      rcases (show ((s (257 + 5 * k + 0)) < 1 ∨ 6 < (s (257 + 5 * k + 0))) ∨ (s (257 + 5 * k + 0)) = 1 ∨ (s (257 + 5 * k + 0)) = 2 ∨ (s (257 + 5 * k + 0)) = 3 ∨ (s (257 + 5 * k + 0)) = 4 ∨ (s (257 + 5 * k + 0)) = 5 ∨ (s (257 + 5 * k + 0)) = 6 by omega) with hO | hx53 | hx53 | hx53 | hx53 | hx53 | hx53
      · refine J.tabOut (tgt := 125) dX1_movesOf_53 (by omega) hO rfl ?_
        refine J.iload_n (q := 126) dX1_movesOf_125 rfl ?_ rfl
        refine J.ireturn dX1_movesOf_126 rfl ?_
        refine ⟨congrArg (fun z => some (i_ z)) ?_, rfl, rfl⟩
        unfold movM
        repeat (first | rw [if_pos (by omega)] | rw [if_neg (by omega)])
        try omega
      · refine J.tabIn (off := 39) (tgt := 92) dX1_movesOf_53 (by omega) (by omega) (by omega) (by rw [hx53]; rfl) rfl ?_
        refine J.iload_n (q := 93) dX1_movesOf_92 rfl ?_ rfl
        refine J.ireturn dX1_movesOf_93 rfl ?_
        refine ⟨congrArg (fun z => some (i_ z)) ?_, rfl, rfl⟩
        unfold movM
        repeat (first | rw [if_pos (by omega)] | rw [if_neg (by omega)])
        try omega
      · refine J.tabIn (off := 45) (tgt := 98) dX1_movesOf_53 (by omega) (by omega) (by omega) (by rw [hx53]; rfl) rfl ?_
        refine J.iload_n (q := 99) dX1_movesOf_98 rfl ?_ rfl
        refine J.iconst (q := 100) dX1_movesOf_99 ?_ rfl
        refine J.isub (q := 101) dX1_movesOf_100 ?_ rfl
        refine J.ireturn dX1_movesOf_101 rfl ?_
        refine ⟨congrArg (fun z => some (i_ z)) ?_, rfl, rfl⟩
        unfold movM
        repeat (first | rw [if_pos (by omega)] | rw [if_neg (by omega)])
        try omega
      · refine J.tabIn (off := 49) (tgt := 102) dX1_movesOf_53 (by omega) (by omega) (by omega) (by rw [hx53]; rfl) rfl ?_
        refine J.iload (q := 104) dX1_movesOf_102 rfl ?_ rfl
        refine J.ireturn dX1_movesOf_104 rfl ?_
        refine ⟨congrArg (fun z => some (i_ z)) ?_, rfl, rfl⟩
        unfold movM
        repeat (first | rw [if_pos (by omega)] | rw [if_neg (by omega)])
        try omega
      · refine J.tabIn (off := 52) (tgt := 105) dX1_movesOf_53 (by omega) (by omega) (by omega) (by rw [hx53]; rfl) rfl ?_
        refine J.iload (q := 107) dX1_movesOf_105 rfl ?_ rfl
        refine J.aload_n (q := 108) dX1_movesOf_107 rfl ?_ rfl
        refine J.getI (ci := 1) (k0 := 14) (kz := 14) (q := 111) dX1_movesOf_108 kF_X1_55 rfl (by decide) (by decide) rfl (.inl rfl) ?_ rfl
        rw [g1_day hR]
        refine J.iconst (q := 112) dX1_movesOf_111 ?_ rfl
        refine J.irem (q := 113) dX1_movesOf_112 (I3_rem (by omega) (by omega) rfl) (I3_n0 (by omega)) ?_ rfl
        refine J.if_ne (tgt := 120) (q := 116) dX1_movesOf_113 rfl rfl (fun c113 => ?_) (fun c113 => ?_)
        · refine J.iconst (q := 121) dX1_movesOf_120 ?_ rfl
          refine J.iadd (q := 122) dX1_movesOf_121 ?_ rfl
          refine J.ireturn dX1_movesOf_122 rfl ?_
          refine ⟨congrArg (fun z => some (i_ z)) ?_, rfl, rfl⟩
          unfold movM
          repeat (first | rw [if_pos (by omega)] | rw [if_neg (by omega)])
          try omega
        · refine J.iconst (q := 117) dX1_movesOf_116 ?_ rfl
          refine J.goto (tgt := 121) dX1_movesOf_117 rfl ?_
          refine J.iadd (q := 122) dX1_movesOf_121 ?_ rfl
          refine J.ireturn dX1_movesOf_122 rfl ?_
          refine ⟨congrArg (fun z => some (i_ z)) ?_, rfl, rfl⟩
          unfold movM
          repeat (first | rw [if_pos (by omega)] | rw [if_neg (by omega)])
          try omega
      · refine J.tabIn (off := 70) (tgt := 123) dX1_movesOf_53 (by omega) (by omega) (by omega) (by rw [hx53]; rfl) rfl ?_
        refine J.iconst (q := 124) dX1_movesOf_123 ?_ rfl
        refine J.ireturn dX1_movesOf_124 rfl ?_
        refine ⟨congrArg (fun z => some (i_ z)) ?_, rfl, rfl⟩
        unfold movM
        repeat (first | rw [if_pos (by omega)] | rw [if_neg (by omega)])
        try omega
      · refine J.tabIn (off := 41) (tgt := 94) dX1_movesOf_53 (by omega) (by omega) (by omega) (by rw [hx53]; rfl) rfl ?_
        refine J.iconst (q := 95) dX1_movesOf_94 ?_ rfl
        refine J.iload_n (q := 96) dX1_movesOf_95 rfl ?_ rfl
        refine J.imul (q := 97) dX1_movesOf_96 ?_ rfl
        refine J.ireturn dX1_movesOf_97 rfl ?_
        refine ⟨congrArg (fun z => some (i_ z)) ?_, rfl, rfl⟩
        unfold movM
        repeat (first | rw [if_pos (by omega)] | rw [if_neg (by omega)])
        try omega

set_option maxRecDepth 100000 in
set_option maxHeartbeats 4000000 in
theorem c_comeUnder1 {l : Launch} {F : Nat × (Int → Int)} {iv : Mm} {D : Int} {X Z : P2} (hI : MI D X.1) {c w : Int} (hc : 0 ≤ c ∧ c ≤ 80) (hw : 0 ≤ w ∧ w ≤ 7) (hR : RR iv 1 Z.1) (hM : ∀ j, 0 ≤ j → j < 81 → iv 5 j = Z.2 j) (e1 : Z.1 1 = X.1 1) (e2 : Z.1 (176 + c) = X.1 (176 + c)) : Ctr l F 1 0 0 yX1_comeUnder cX1_comeUnder 3 none [r_ 1, i_ c, i_ w] S0 (iv) (fun v S iv2 => v = none ∧ S = S0 ∧ (∀ q, (q < 1 ∨ 12 < q) → iv2 q = iv q) ∧ RM1 iv2 (come Z c w)) := by
  refine Ctr.of false (fun h => by cases h) (by decide) rfl (Nat.le_of_ble_eq_true rfl) ?_
  have hcl := hI.cla
  have hcc := (hI.cel c hc.1 hc.2).2.2
  rw [← e1] at hcl
  rw [← e2] at hcc
  refine J.aload_n (q := 1) dX1_comeUnder_0 rfl ?_ rfl
  refine J.getR (ci := 1) (k0 := 2) (c1 := 4) (q := 4) dX1_comeUnder_1 kF_X1_18 rfl (by decide) (by decide) rfl (by decide) rfl ?_ rfl
  refine J.iload_n (q := 5) dX1_comeUnder_4 rfl ?_ rfl
  refine J.iald (n := 81) (q := 6) dX1_comeUnder_5 rfl (by omega) ?_ rfl
  rw [g1_law hR (by omega) (by omega)]
  refine J.iconst (q := 7) dX1_comeUnder_6 ?_ rfl
  refine J.icmp_eq (tgt := 45) (q := 10) dX1_comeUnder_7 rfl rfl (fun c7 => ?_) (fun c7 => ?_)
  · have hcm : come Z c w = (upr Z.1 (176 + c) w, Z.2) := by
      unfold come
      rw [if_neg (fun z => by omega), if_neg (fun z => by omega)]
    refine J.aload_n (q := 46) dX1_comeUnder_45 rfl ?_ rfl
    refine J.getR (ci := 1) (k0 := 2) (c1 := 4) (q := 49) dX1_comeUnder_46 kF_X1_18 rfl (by decide) (by decide) rfl (by decide) rfl ?_ rfl
    refine J.iload_n (q := 50) dX1_comeUnder_49 rfl ?_ rfl
    refine J.iload_n (q := 51) dX1_comeUnder_50 rfl ?_ rfl
    refine J.iast (n := 81) (q := 52) dX1_comeUnder_51 rfl (by omega) ?_ rfl
    refine J.vreturn dX1_comeUnder_52 rfl ?_
    rw [hcm]
    first
    | (refine ⟨rfl, rfl, fun q hq => ?_, ?_, fun j j0 j1 => ?_⟩
       · rw [up_n _ _ _ (by omega)]
       · exact u1_law (c := c) hR (by omega) (by omega)
       · rw [up_n _ _ _ (by decide)]; exact hM j j0 j1)
    | (refine ⟨rfl, rfl, fun q hq => ?_, ?_, fun j j0 j1 => ?_⟩
       · rw [up_n _ _ _ (by omega), up_n _ _ _ (by omega), up_n _ _ _ (by omega)]
       · exact u1_law (c := c) (u1_cla (n1 hR (Or.inr (Or.inr rfl)))) (by omega) (by omega)
       · rw [up_n _ _ _ (by decide), up_n _ _ _ (by decide), up_s]
         show _ = upr Z.2 c (Z.2 c + 1) j
         by_cases e : j = c
         · subst e; rw [upr_s, upr_s]
         · rw [upr_n _ _ e, upr_n _ _ e]; exact hM j j0 j1)
  · refine J.aload_n (q := 11) dX1_comeUnder_10 rfl ?_ rfl
    refine J.getR (ci := 1) (k0 := 2) (c1 := 4) (q := 14) dX1_comeUnder_11 kF_X1_18 rfl (by decide) (by decide) rfl (by decide) rfl ?_ rfl
    refine J.iload_n (q := 15) dX1_comeUnder_14 rfl ?_ rfl
    refine J.iald (n := 81) (q := 16) dX1_comeUnder_15 rfl (by omega) ?_ rfl
    rw [g1_law hR (by omega) (by omega)]
    refine J.iload_n (q := 17) dX1_comeUnder_16 rfl ?_ rfl
    refine J.icmp_eq (tgt := 45) (q := 20) dX1_comeUnder_17 rfl rfl (fun c17 => ?_) (fun c17 => ?_)
    · have hcm : come Z c w = (upr Z.1 (176 + c) w, Z.2) := by
        unfold come
        rw [if_neg (fun z => by omega), if_neg (fun z => by omega)]
      refine J.aload_n (q := 46) dX1_comeUnder_45 rfl ?_ rfl
      refine J.getR (ci := 1) (k0 := 2) (c1 := 4) (q := 49) dX1_comeUnder_46 kF_X1_18 rfl (by decide) (by decide) rfl (by decide) rfl ?_ rfl
      refine J.iload_n (q := 50) dX1_comeUnder_49 rfl ?_ rfl
      refine J.iload_n (q := 51) dX1_comeUnder_50 rfl ?_ rfl
      refine J.iast (n := 81) (q := 52) dX1_comeUnder_51 rfl (by omega) ?_ rfl
      refine J.vreturn dX1_comeUnder_52 rfl ?_
      rw [hcm]
      first
      | (refine ⟨rfl, rfl, fun q hq => ?_, ?_, fun j j0 j1 => ?_⟩
         · rw [up_n _ _ _ (by omega)]
         · exact u1_law (c := c) hR (by omega) (by omega)
         · rw [up_n _ _ _ (by decide)]; exact hM j j0 j1)
      | (refine ⟨rfl, rfl, fun q hq => ?_, ?_, fun j j0 j1 => ?_⟩
         · rw [up_n _ _ _ (by omega), up_n _ _ _ (by omega), up_n _ _ _ (by omega)]
         · exact u1_law (c := c) (u1_cla (n1 hR (Or.inr (Or.inr rfl)))) (by omega) (by omega)
         · rw [up_n _ _ _ (by decide), up_n _ _ _ (by decide), up_s]
           show _ = upr Z.2 c (Z.2 c + 1) j
           by_cases e : j = c
           · subst e; rw [upr_s, upr_s]
           · rw [upr_n _ _ e, upr_n _ _ e]; exact hM j j0 j1)
    · have hcm : come Z c w = (upr (upr Z.1 1 (Z.1 1 + (if Z.1 1 < 99999 then 1 else 0))) (176 + c) w, upr Z.2 c (Z.2 c + 1)) := by
        unfold come
        have hp : 0 ≤ Z.1 (176 + c) ∧ Z.1 (176 + c) ≠ w := ⟨by omega, by omega⟩
        rw [if_pos hp, if_pos hp]
      refine J.aload_n (q := 21) dX1_comeUnder_20 rfl ?_ rfl
      refine J.getR (ci := 1) (k0 := 3) (c1 := 5) (q := 24) dX1_comeUnder_21 kF_X1_21 rfl (by decide) (by decide) rfl (by decide) rfl ?_ rfl
      refine J.iload_n (q := 25) dX1_comeUnder_24 rfl ?_ rfl
      refine J.dup2 (q := 26) dX1_comeUnder_25 rfl rfl ?_ rfl
      refine J.iald (n := 81) (q := 27) dX1_comeUnder_26 rfl (by omega) ?_ rfl
      rw [hM c (by omega) (by omega)]
      refine J.iconst (q := 28) dX1_comeUnder_27 ?_ rfl
      refine J.iadd (q := 29) dX1_comeUnder_28 ?_ rfl
      refine J.iast (n := 81) (q := 30) dX1_comeUnder_29 rfl (by omega) ?_ rfl
      refine J.aload_n (q := 31) dX1_comeUnder_30 rfl ?_ rfl
      refine J.aload_n (q := 32) dX1_comeUnder_31 rfl ?_ rfl
      refine J.getI (ci := 1) (k0 := 15) (kz := 15) (q := 35) dX1_comeUnder_32 kF_X1_58 rfl (by decide) (by decide) rfl (.inl rfl) ?_ rfl
      rw [up_n _ _ _ (by decide), g1_cla hR]
      refine J.iconst (q := 36) dX1_comeUnder_35 ?_ rfl
      refine J.iadd (q := 37) dX1_comeUnder_36 ?_ rfl
      refine J.ldc (q := 39) (z := 99999) dX1_comeUnder_37 kK_X1_98 ?_ rfl
      refine J.mmin (x := (Z.1 1 + 1)) (q := 42) dX1_comeUnder_39 kL_X1_99 ?_ rfl
      rw [show (if (99999 : Int) < Z.1 1 + 1 then (99999 : Int) else Z.1 1 + 1) = Z.1 1 + (if Z.1 1 < 99999 then 1 else 0) by split <;> split <;> omega]
      refine J.putI (ci := 1) (k0 := 15) (kz := 15) (q := 45) dX1_comeUnder_42 kF_X1_58 rfl (by decide) (by decide) rfl rfl rfl ?_ rfl
      refine J.aload_n (q := 46) dX1_comeUnder_45 rfl ?_ rfl
      refine J.getR (ci := 1) (k0 := 2) (c1 := 4) (q := 49) dX1_comeUnder_46 kF_X1_18 rfl (by decide) (by decide) rfl (by decide) rfl ?_ rfl
      refine J.iload_n (q := 50) dX1_comeUnder_49 rfl ?_ rfl
      refine J.iload_n (q := 51) dX1_comeUnder_50 rfl ?_ rfl
      refine J.iast (n := 81) (q := 52) dX1_comeUnder_51 rfl (by omega) ?_ rfl
      refine J.vreturn dX1_comeUnder_52 rfl ?_
      rw [hcm]
      first
      | (refine ⟨rfl, rfl, fun q hq => ?_, ?_, fun j j0 j1 => ?_⟩
         · rw [up_n _ _ _ (by omega)]
         · exact u1_law (c := c) hR (by omega) (by omega)
         · rw [up_n _ _ _ (by decide)]; exact hM j j0 j1)
      | (refine ⟨rfl, rfl, fun q hq => ?_, ?_, fun j j0 j1 => ?_⟩
         · rw [up_n _ _ _ (by omega), up_n _ _ _ (by omega), up_n _ _ _ (by omega)]
         · exact u1_law (c := c) (u1_cla (n1 hR (Or.inr (Or.inr rfl)))) (by omega) (by omega)
         · rw [up_n _ _ _ (by decide), up_n _ _ _ (by decide), up_s]
           show _ = upr Z.2 c (Z.2 c + 1) j
           by_cases e : j = c
           · subst e; rw [upr_s, upr_s]
           · rw [upr_n _ _ e, upr_n _ _ e]; exact hM j j0 j1)

theorem come_eq {s u : Int → Int} {p a c w : Int} (h1 : p ≠ 1) (h2 : p ≠ 176 + c) : come (upr s p a, u) c w = (upr (if 0 ≤ s (176 + c) ∧ s (176 + c) ≠ w then upr (upr s p a) 1 (s 1 + (if s 1 < 99999 then 1 else 0)) else upr s p a) (176 + c) w, if 0 ≤ s (176 + c) ∧ s (176 + c) ≠ w then upr u c (u c + 1) else u) := by
  unfold come
  simp only [upr_n s a (show (176 + c : Int) ≠ p from fun z => h2 z.symm), upr_n s a (show (1 : Int) ≠ p from fun z => h1 z.symm)]
theorem come_swap {s u : Int → Int} {p a b c w j : Int} (h1 : p ≠ 1) (h2 : p ≠ 176 + c) : upr (come (upr s p b, u) c w).1 p a j = (come (upr s p a, u) c w).1 j := by
  rw [come_eq h1 h2, come_eq h1 h2]
  dsimp only
  by_cases e : j = p
  · subst e
    rw [upr_s, upr_n _ _ h2]
    split
    · rw [upr_n _ _ h1, upr_s]
    · rw [upr_s]
  · rw [upr_n _ _ e]
    by_cases e2 : j = 176 + c
    · subst e2; rw [upr_s, upr_s]
    · rw [upr_n _ _ e2, upr_n _ _ e2]
      split
      · by_cases e3 : j = 1
        · subst e3; rw [upr_s, upr_s]
        · rw [upr_n _ _ e3, upr_n _ _ e3, upr_n _ _ e, upr_n _ _ e]
      · rw [upr_n _ _ e, upr_n _ _ e]
theorem come_swap2 {s u : Int → Int} {p a b c w : Int} (h1 : p ≠ 1) (h2 : p ≠ 176 + c) : (come (upr s p a, u) c w).2 = (come (upr s p b, u) c w).2 := by
  rw [come_eq h1 h2, come_eq h1 h2]
set_option maxRecDepth 100000 in
set_option maxHeartbeats 4000000 in
theorem passDayOf1_end {l : Launch} {F : Nat × (Int → Int)} {iv iv1 : Mm} {D : Int} {s0 : Int → Int} {X0 X : P2} (hD : D ≤ 200000) (hI : MI D X0.1) {k m : Int} (hk : 0 ≤ k ∧ k < X0.1 2) {y7 : Option VT} (hfin : itM (fdst s0) k (movM X0.1 k).toNat (come X0 (X0.1 (257 + 5 * k + 1)) (X0.1 (257 + 5 * k + 2))) = X) (hR : RR iv1 1 (upr X.1 (257 + 5 * k + 1) (X0.1 (257 + 5 * k + 1)))) (hM : ∀ c, 0 ≤ c → c < 81 → iv1 5 c = X.2 c) (hf : ∀ q, (q < 1 ∨ 12 < q) → iv1 q = iv q) : J l (yX1_passDayOf).cls cX1_passDayOf 8 none 2 0 0 false F (fun v S iv2 => v = none ∧ S = S0 ∧ (∀ q, (q < 1 ∨ 12 < q) → iv2 q = iv q) ∧ RM1 iv2 (crawl (fdst s0) k X0)) 0 0 75 [some (r_ 1), some (i_ k), some (r_ 44), some (i_ (X0.1 (257 + 5 * k + 2))), some (i_ (X.1 (257 + 5 * k + 1))), some (i_ (movM X0.1 k)), some (i_ m), y7] [] S0 (iv1) := by
  have hmm := hI.many
  have hs := hI.sna k (by omega) (by omega)
  have hcI := come_MI (X := X0) (c := X0.1 (257 + 5 * k + 1)) (law := X0.1 (257 + 5 * k + 2)) hI hs.2.1 hs.2.2.1
  obtain ⟨hXI, hXk⟩ := it_MI (fr := fdst s0) (k := k) hcI (by omega) (movM X0.1 k).toNat
  rw [hfin] at hXI hXk
  have hXs := hXI.sna k (by omega) (by omega)
  have hXg := hXI.cel (X.1 (257 + 5 * k + 1)) hXs.2.1.1 hXs.2.1.2
  have hR2 : RR (up iv1 8 k (X.1 (257 + 5 * k + 1))) 1 X.1 := by
    have h := u1_ats (v := X.1 (257 + 5 * k + 1)) hR (c := k) (by omega) (by omega)
    rw [upr_upr, upr_self] at h
    exact h
  have hcr : crawl (fdst s0) k X0 = munch k X := by unfold crawl; rw [hfin]
  unfold munch at hcr
  rw [hcr]
  refine J.aload_n (q := 76) dX1_passDayOf_75 rfl ?_ rfl
  refine J.getR (ci := 1) (k0 := 6) (c1 := 8) (q := 79) dX1_passDayOf_76 kF_X1_30 rfl (by decide) (by decide) rfl (by decide) rfl ?_ rfl
  refine J.iload_n (q := 80) dX1_passDayOf_79 rfl ?_ rfl
  refine J.iload (q := 82) dX1_passDayOf_80 rfl ?_ rfl
  refine J.iast (n := 8) (q := 83) dX1_passDayOf_82 rfl (by omega) ?_ rfl
  refine J.aload_n (q := 84) dX1_passDayOf_83 rfl ?_ rfl
  refine J.getR (ci := 1) (k0 := 1) (c1 := 3) (q := 87) dX1_passDayOf_84 kF_X1_15 rfl (by decide) (by decide) rfl (by decide) rfl ?_ rfl
  refine J.iload (q := 89) dX1_passDayOf_87 rfl ?_ rfl
  refine J.iald (n := 81) (q := 90) dX1_passDayOf_89 rfl (by omega) ?_ rfl
  rw [g1_lea hR2 (by omega) (by omega)]
  refine J.if_le (tgt := 117) (q := 93) dX1_passDayOf_90 rfl rfl (fun c90 => ?_) (fun c90 => ?_)
  · rw [if_neg (fun z => by omega), Int.sub_zero, upr_self]
    refine J.vreturn dX1_passDayOf_117 rfl ?_
    first
    | (refine ⟨rfl, rfl, fun q hq => ?_, hR2, fun c c0 c1 => ?_⟩
       · rw [up_n _ _ _ (by omega)]; exact hf q hq
       · rw [up_n _ _ _ (by decide)]; exact hM c c0 c1)
    | (refine ⟨rfl, rfl, fun q hq => ?_, u1_lea hR2 (by omega) (by omega), fun c c0 c1 => ?_⟩
       · rw [up_n _ _ _ (by omega), up_n _ _ _ (by omega)]; exact hf q hq
       · rw [up_n _ _ _ (by decide), up_n _ _ _ (by decide)]; exact hM c c0 c1)
    | (exfalso; omega)
  · refine J.aload_n (q := 94) dX1_passDayOf_93 rfl ?_ rfl
    refine J.getR (ci := 1) (k0 := 5) (c1 := 7) (q := 97) dX1_passDayOf_94 kF_X1_27 rfl (by decide) (by decide) rfl (by decide) rfl ?_ rfl
    refine J.iload_n (q := 98) dX1_passDayOf_97 rfl ?_ rfl
    refine J.iald (n := 8) (q := 99) dX1_passDayOf_98 rfl (by omega) ?_ rfl
    rw [g1_kin hR2 (by omega) (by omega)]
    refine J.iconst (q := 100) dX1_passDayOf_99 ?_ rfl
    refine J.callSN2i (q := 103) dX1_passDayOf_100 mv_X5_isOfKind kS_X5_isOfKind (by decide) ⟨by decide, by decide⟩ (Nat.le_of_ble_eq_true rfl) ⟨by decide, by decide⟩ rfl (c_X5_isOfKind (by omega) (by omega)) ?_
    have hun : (undr (X.1 (257 + 5 * k + 0)) 1 = true) = (X.1 (257 + 5 * k + 0) = 1 ∨ X.1 (257 + 5 * k + 0) = 6) := propext ⟨fun z => by have := of_decide_eq_true z; omega, fun z => decide_eq_true (by omega)⟩
    simp only [hun]
    refine J.ifb_eq (tgt := 117) (q := 106) dX1_passDayOf_103 rfl rfl (fun c103 => ?_) (fun c103 => ?_)
    · rw [if_neg (fun z => by omega), Int.sub_zero, upr_self]
      refine J.vreturn dX1_passDayOf_117 rfl ?_
      first
      | (refine ⟨rfl, rfl, fun q hq => ?_, hR2, fun c c0 c1 => ?_⟩
         · rw [up_n _ _ _ (by omega)]; exact hf q hq
         · rw [up_n _ _ _ (by decide)]; exact hM c c0 c1)
      | (refine ⟨rfl, rfl, fun q hq => ?_, u1_lea hR2 (by omega) (by omega), fun c c0 c1 => ?_⟩
         · rw [up_n _ _ _ (by omega), up_n _ _ _ (by omega)]; exact hf q hq
         · rw [up_n _ _ _ (by decide), up_n _ _ _ (by decide)]; exact hM c c0 c1)
      | (exfalso; omega)
    · rw [if_pos (by omega)]
      refine J.aload_n (q := 107) dX1_passDayOf_106 rfl ?_ rfl
      refine J.getR (ci := 1) (k0 := 1) (c1 := 3) (q := 110) dX1_passDayOf_107 kF_X1_15 rfl (by decide) (by decide) rfl (by decide) rfl ?_ rfl
      refine J.iload (q := 112) dX1_passDayOf_110 rfl ?_ rfl
      refine J.dup2 (q := 113) dX1_passDayOf_112 rfl rfl ?_ rfl
      refine J.iald (n := 81) (q := 114) dX1_passDayOf_113 rfl (by omega) ?_ rfl
      rw [g1_lea hR2 (by omega) (by omega)]
      refine J.iconst (q := 115) dX1_passDayOf_114 ?_ rfl
      refine J.isub (q := 116) dX1_passDayOf_115 ?_ rfl
      refine J.iast (n := 81) (q := 117) dX1_passDayOf_116 rfl (by omega) ?_ rfl
      refine J.vreturn dX1_passDayOf_117 rfl ?_
      first
      | (refine ⟨rfl, rfl, fun q hq => ?_, hR2, fun c c0 c1 => ?_⟩
         · rw [up_n _ _ _ (by omega)]; exact hf q hq
         · rw [up_n _ _ _ (by decide)]; exact hM c c0 c1)
      | (refine ⟨rfl, rfl, fun q hq => ?_, u1_lea hR2 (by omega) (by omega), fun c c0 c1 => ?_⟩
         · rw [up_n _ _ _ (by omega), up_n _ _ _ (by omega)]; exact hf q hq
         · rw [up_n _ _ _ (by decide), up_n _ _ _ (by decide)]; exact hM c c0 c1)
      | (exfalso; omega)

set_option maxRecDepth 100000 in
set_option maxHeartbeats 4000000 in
theorem passDayOf1_loop {l : Launch} {F : Nat × (Int → Int)} {iv : Mm} {D : Int} {s0 : Int → Int} {X0 : P2} (hD : D ≤ 200000) (hS : Sv44 iv s0) (hI : MI D X0.1) {k : Int} (hk : 0 ≤ k ∧ k < X0.1 2) (e2 : X0.1 2 = s0 2) (hH : ∀ c, 0 ≤ c → c ≤ 80 → X0.1 (14 + c) = s0 (14 + c)) : ∀ (n : Nat) (m : Nat) (X : P2) (iv1 : Mm) (y7 : Option VT), (movM X0.1 k - m < n) → (m ≤ movM X0.1 k) → (itM (fdst s0) k m (come X0 (X0.1 (257 + 5 * k + 1)) (X0.1 (257 + 5 * k + 2))) = X) → (RR iv1 1 (upr X.1 (257 + 5 * k + 1) (X0.1 (257 + 5 * k + 1)))) → (∀ c, 0 ≤ c → c < 81 → iv1 5 c = X.2 c) → (∀ q, (q < 1 ∨ 12 < q) → iv1 q = iv q) → J l (yX1_passDayOf).cls cX1_passDayOf 8 none 2 0 0 false F (fun v S iv2 => v = none ∧ S = S0 ∧ (∀ q, (q < 1 ∨ 12 < q) → iv2 q = iv q) ∧ RM1 iv2 (crawl (fdst s0) k X0)) 0 0 32 [some (r_ 1), some (i_ k), some (r_ 44), some (i_ (X0.1 (257 + 5 * k + 2))), some (i_ (X.1 (257 + 5 * k + 1))), some (i_ (movM X0.1 k)), some (i_ (m : Int)), y7] [] S0 (iv1) := by
  intro n
  induction n with
  | zero =>
    intro m X iv1 y7 hn hm hX hR hM hf
    omega
  | succ n ih =>
    intro m X iv1 y7 hn hm hX hR hM hf
    have hmm := hI.many
    have hs := hI.sna k (by omega) (by omega)
    have hcI := come_MI (X := X0) (c := X0.1 (257 + 5 * k + 1)) (law := X0.1 (257 + 5 * k + 2)) hI hs.2.1 hs.2.2.1
    obtain ⟨hXI, hXk⟩ := it_MI (fr := fdst s0) (k := k) hcI (by omega) m
    rw [hX] at hXI hXk
    have hXs := hXI.sna k (by omega) (by omega)
    have hmv := movM_rng (k := k) hI
    have eE : X.1 (257 + 5 * k + 2) = X0.1 (257 + 5 * k + 2) := (hXk _ (kept_s (by omega) (by omega))).trans (come_kept hs.2.1 (kept_s (by omega) (by omega)))
    have eK : X.1 (257 + 5 * k + 0) = X0.1 (257 + 5 * k + 0) := (hXk _ (kept_s (by omega) (by omega))).trans (come_kept hs.2.1 (kept_s (by omega) (by omega)))
    have eH : ∀ c, 0 ≤ c → c ≤ 80 → X.1 (14 + c) = s0 (14 + c) := fun c c0 c1 => ((hXk _ (kept_lo (by omega))).trans (come_kept hs.2.1 (kept_lo (by omega)))).trans (hH c c0 c1)
    have hN := nxt_C (k := k) hXs.2.1 eH
    have hnr := nxtM_rng (fr := fdst s0) hXs.2.1
    have hS1 : Sv44 iv1 s0 := by
      intro a c a0 a1 c0 c1
      rw [hf 48 (by decide), hf 49 (by decide)]
      exact hS a c a0 a1 c0 c1
    have hXg := hXI.cel (X.1 (257 + 5 * k + 1)) hXs.2.1.1 hXs.2.1.2
    refine J.iload (q := 34) dX1_passDayOf_32 rfl ?_ rfl
    refine J.iload (q := 36) dX1_passDayOf_34 rfl ?_ rfl
    refine J.icmp_ge (tgt := 75) (q := 39) dX1_passDayOf_36 rfl rfl (fun c36 => ?_) (fun c36 => ?_)
    · 
      first
      | exact passDayOf1_end hD hI hk hfin hR hM hf
      | exact passDayOf1_end hD hI hk (by rw [show (movM X0.1 k).toNat = m by omega]; exact hX) hR hM hf
    · refine J.aload_n (q := 40) dX1_passDayOf_39 rfl ?_ rfl
      refine J.iload_n (q := 41) dX1_passDayOf_40 rfl ?_ rfl
      refine J.iload (q := 43) dX1_passDayOf_41 rfl ?_ rfl
      refine J.callV2i (ci := 4) (q := 46) dX1_passDayOf_43 mv_X4_nextOf kL_X1_88 rfl (by decide) rfl ⟨by decide, by decide⟩ (Nat.le_of_ble_eq_true rfl) ⟨by decide, by decide⟩ rfl (c_nextOf44 hS1 (by omega) (by omega) (by omega)) ?_
      rw [hN]
      refine J.istore (q := 48) dX1_passDayOf_46 (Nat.le_of_ble_eq_true rfl) ?_ rfl
      refine J.iload (q := 50) dX1_passDayOf_48 rfl ?_ rfl
      refine J.iload (q := 52) dX1_passDayOf_50 rfl ?_ rfl
      refine J.icmp_ne (tgt := 58) (q := 55) dX1_passDayOf_52 rfl rfl (fun c52 => ?_) (fun c52 => ?_)
      · have hst : stepM (fdst s0) k X = come (upr X.1 (257 + 5 * k + 1) (nxtM (fdst s0) X.1 k), X.2) (nxtM (fdst s0) X.1 k) (X.1 (257 + 5 * k + 2)) := if_neg c52
        refine J.iload (q := 60) dX1_passDayOf_58 rfl ?_ rfl
        refine J.istore (q := 62) dX1_passDayOf_60 (Nat.le_of_ble_eq_true rfl) ?_ rfl
        refine J.aload_n (q := 63) dX1_passDayOf_62 rfl ?_ rfl
        refine J.iload (q := 65) dX1_passDayOf_63 rfl ?_ rfl
        refine J.iload_n (q := 66) dX1_passDayOf_65 rfl ?_ rfl
        refine J.callV2 (ci := 1) (q := 69) dX1_passDayOf_66 mv_X1_comeUnder kL_X1_84 rfl (by decide) rfl ⟨by decide, by decide⟩ (Nat.le_of_ble_eq_true rfl) ⟨by decide, by decide⟩ rfl (c_comeUnder1 (X := X) (Z := (upr X.1 (257 + 5 * k + 1) (X0.1 (257 + 5 * k + 1)), X.2)) hXI hnr hs.2.2.1 hR hM (upr_n _ _ (by omega)) (upr_n _ _ (by omega))) (fun v9 S9 iv9 hp => ?_)
        obtain ⟨rfl, rfl, d1, d2, d3⟩ := hp
        refine J.iinc (q := 72) dX1_passDayOf_69 rfl ?_ rfl
        refine J.goto (tgt := 32) dX1_passDayOf_72 rfl ?_
        have hX1 : itM (fdst s0) k (m + 1) (come X0 (X0.1 (257 + 5 * k + 1)) (X0.1 (257 + 5 * k + 2))) = come (upr X.1 (257 + 5 * k + 1) (nxtM (fdst s0) X.1 k), X.2) (nxtM (fdst s0) X.1 k) (X.1 (257 + 5 * k + 2)) := by rw [itM, hX, hst]
        have eAT : (come (upr X.1 (257 + 5 * k + 1) (nxtM (fdst s0) X.1 k), X.2) (nxtM (fdst s0) X.1 k) (X.1 (257 + 5 * k + 2))).1 (257 + 5 * k + 1) = nxtM (fdst s0) X.1 k := by rw [come_o (by omega) (by omega)]; exact upr_s _ _ _
        refine J.eql ?_ (ih (m + 1) _ iv9 (some (i_ (nxtM (fdst s0) X.1 k))) (by omega) (by omega) hX1 ?_ ?_ (fun q hq => (d1 q hq).trans (hf q hq)))
        · rw [eAT]; rfl
        · refine d2.cg (fun j j0 j1 => ?_)
          rw [eE]
          exact come_swap (by omega) (by omega)
        · intro c c0 c1
          rw [d3 c c0 c1, eE]
          exact congrFun (come_swap2 (by omega) (by omega)) c
      · have hst : stepM (fdst s0) k X = X := if_pos c52
        have hfin := itM_fix hX hst (movM X0.1 k).toNat (by omega)
        refine J.goto (tgt := 75) dX1_passDayOf_55 rfl ?_
        first
        | exact passDayOf1_end hD hI hk hfin hR hM hf
        | exact passDayOf1_end hD hI hk (by rw [show (movM X0.1 k).toNat = m by omega]; exact hX) hR hM hf

set_option maxRecDepth 100000 in
set_option maxHeartbeats 4000000 in
theorem c_passDayOf1 {l : Launch} {F : Nat × (Int → Int)} {iv : Mm} {D : Int} {s0 : Int → Int} {X0 : P2} (hD : D ≤ 200000) (hS : Sv44 iv s0) (hI : MI D X0.1) {k : Int} (hk : 0 ≤ k ∧ k < X0.1 2) (e2 : X0.1 2 = s0 2) (hH : ∀ c, 0 ≤ c → c ≤ 80 → X0.1 (14 + c) = s0 (14 + c)) (hM0 : RM1 iv X0) : Ctr l F 2 0 0 yX1_passDayOf cX1_passDayOf 8 none [r_ 1, i_ k, r_ 44] S0 (iv) (fun v S iv2 => v = none ∧ S = S0 ∧ (∀ q, (q < 1 ∨ 12 < q) → iv2 q = iv q) ∧ RM1 iv2 (crawl (fdst s0) k X0)) := by
  refine Ctr.of false (fun h => by cases h) (by decide) rfl (Nat.le_of_ble_eq_true rfl) ?_
  have hmm := hI.many
  have hs := hI.sna k (by omega) (by omega)
  have hR := hM0.1
  have hmv := movM_rng (k := k) hI
  refine J.aload_n (q := 1) dX1_passDayOf_0 rfl ?_ rfl
  refine J.getR (ci := 1) (k0 := 7) (c1 := 9) (q := 4) dX1_passDayOf_1 kF_X1_33 rfl (by decide) (by decide) rfl (by decide) rfl ?_ rfl
  refine J.iload_n (q := 5) dX1_passDayOf_4 rfl ?_ rfl
  refine J.iald (n := 8) (q := 6) dX1_passDayOf_5 rfl (by omega) ?_ rfl
  rw [g1_edi hR (by omega) (by omega)]
  refine J.istore_n (q := 7) dX1_passDayOf_6 (Nat.le_of_ble_eq_true rfl) ?_ rfl
  refine J.aload_n (q := 8) dX1_passDayOf_7 rfl ?_ rfl
  refine J.getR (ci := 1) (k0 := 6) (c1 := 8) (q := 11) dX1_passDayOf_8 kF_X1_30 rfl (by decide) (by decide) rfl (by decide) rfl ?_ rfl
  refine J.iload_n (q := 12) dX1_passDayOf_11 rfl ?_ rfl
  refine J.iald (n := 8) (q := 13) dX1_passDayOf_12 rfl (by omega) ?_ rfl
  rw [g1_ats hR (by omega) (by omega)]
  refine J.istore (q := 15) dX1_passDayOf_13 (Nat.le_of_ble_eq_true rfl) ?_ rfl
  refine J.aload_n (q := 16) dX1_passDayOf_15 rfl ?_ rfl
  refine J.iload_n (q := 17) dX1_passDayOf_16 rfl ?_ rfl
  refine J.callV1i (ci := 1) (q := 20) dX1_passDayOf_17 mv_X1_movesOf kL_X1_80 rfl (by decide) rfl ⟨by decide, by decide⟩ (Nat.le_of_ble_eq_true rfl) ⟨by decide, by decide⟩ rfl (c_movesOf1 hD hR hI (by omega)) ?_
  refine J.istore (q := 22) dX1_passDayOf_20 (Nat.le_of_ble_eq_true rfl) ?_ rfl
  refine J.aload_n (q := 23) dX1_passDayOf_22 rfl ?_ rfl
  refine J.iload (q := 25) dX1_passDayOf_23 rfl ?_ rfl
  refine J.iload_n (q := 26) dX1_passDayOf_25 rfl ?_ rfl
  refine J.callV2 (ci := 1) (q := 29) dX1_passDayOf_26 mv_X1_comeUnder kL_X1_84 rfl (by decide) rfl ⟨by decide, by decide⟩ (Nat.le_of_ble_eq_true rfl) ⟨by decide, by decide⟩ rfl (c_comeUnder1 (X := X0) (Z := X0) hI hs.2.1 hs.2.2.1 hR hM0.2 rfl rfl) (fun v9 S9 iv9 hp => ?_)
  obtain ⟨rfl, rfl, d1, d2, d3⟩ := hp
  refine J.iconst (q := 30) dX1_passDayOf_29 ?_ rfl
  refine J.istore (q := 32) dX1_passDayOf_30 (Nat.le_of_ble_eq_true rfl) ?_ rfl
  have eAT : (come X0 (X0.1 (257 + 5 * k + 1)) (X0.1 (257 + 5 * k + 2))).1 (257 + 5 * k + 1) = X0.1 (257 + 5 * k + 1) := come_o (by omega) (by omega)
  refine J.eql ?_ (passDayOf1_loop hD hS hI hk e2 hH 5 0 (come X0 (X0.1 (257 + 5 * k + 1)) (X0.1 (257 + 5 * k + 2))) iv9 none (by omega) (by omega) rfl ?_ d3 d1)
  · rw [eAT]; rfl
  · have e := upr_self (come X0 (X0.1 (257 + 5 * k + 1)) (X0.1 (257 + 5 * k + 2))).1 (257 + 5 * k + 1)
    rw [eAT] at e
    rw [e]
    exact d2

set_option maxRecDepth 100000 in
set_option maxHeartbeats 4000000 in
theorem passDays1_in {l : Launch} {F : Nat × (Int → Int)} {iv : Mm} {D : Int} {s0 : Int → Int} {th : Int → Bool} {z n0 : Int} (hD : D ≤ 200000) (hS : Sv44 iv s0) (hz : 0 ≤ z ∧ z ≤ 255) (hth : ∀ k, 0 ≤ k → k < 8 → ((z / 2 ^ k.toNat % 2 = 1) ↔ th k = true)) {W Y : P2} {e : Int} (K : ∀ (iv2 : Mm) (y5 : Option VT), RM1 iv2 Y → (∀ q, (q < 1 ∨ 12 < q) → iv2 q = iv q) → J l (yX1_passDays).cls cX1_passDays 6 none 3 0 0 false F (fun v S iv2 => v = none ∧ S = S0 ∧ (∀ q, (q < 1 ∨ 12 < q) → iv2 q = iv q) ∧ RM1 iv2 W) 0 0 44 [some (r_ 1), some (r_ 44), some (i_ z), some (i_ n0), some (i_ e), y5] [] S0 iv2) : ∀ (n : Nat) (k : Int) (X : P2) (iv1 : Mm), (8 - k < n) → (0 ≤ k ∧ k ≤ X.1 2) → (MI D X.1) → (X.1 2 = s0 2) → (∀ c, 0 ≤ c → c ≤ 80 → X.1 (14 + c) = s0 (14 + c)) → (RM1 iv1 X) → (∀ q, (q < 1 ∨ 12 < q) → iv1 q = iv q) → (dayL (fdst s0) th n k X = Y) → J l (yX1_passDays).cls cX1_passDays 6 none 3 0 0 false F (fun v S iv2 => v = none ∧ S = S0 ∧ (∀ q, (q < 1 ∨ 12 < q) → iv2 q = iv q) ∧ RM1 iv2 W) 0 0 12 [some (r_ 1), some (r_ 44), some (i_ z), some (i_ n0), some (i_ e), some (i_ k)] [] S0 (iv1) := by
  intro n
  induction n with
  | zero =>
    intro k X iv1 hn hk hI e2 hH hM hf hY
    have := hI.many
    omega
  | succ n ih =>
    intro k X iv1 hn hk hI e2 hH hM hf hY
    have hmm := hI.many
    have hS1 : Sv44 iv1 s0 := by
      intro a c a0 a1 c0 c1
      rw [hf 48 (by decide), hf 49 (by decide)]
      exact hS a c a0 a1 c0 c1
    refine J.iload (q := 14) dX1_passDays_12 rfl ?_ rfl
    refine J.aload_n (q := 15) dX1_passDays_14 rfl ?_ rfl
    refine J.getI (ci := 1) (k0 := 11) (kz := 11) (q := 18) dX1_passDays_15 kF_X1_45 rfl (by decide) (by decide) rfl (.inl rfl) ?_ rfl
    rw [g1_many hM.1]
    refine J.icmp_ge (tgt := 44) (q := 21) dX1_passDays_18 rfl rfl (fun c18 => ?_) (fun c18 => ?_)
    · rw [dayL, if_neg (by omega)] at hY
      subst hY
      exact K iv1 _ hM hf
    · rw [dayL, if_pos (by omega)] at hY
      have hthk := hth k (by omega) (by omega)
      refine J.iload_n (q := 22) dX1_passDays_21 rfl ?_ rfl
      refine J.iload (q := 24) dX1_passDays_22 rfl ?_ rfl
      refine J.ishr (q := 25) (z := z / 2 ^ k.toNat) dX1_passDays_24 (I3_shr (by omega) k.toNat (by omega) (by omega) rfl) ?_ rfl
      refine J.iconst (q := 26) dX1_passDays_25 ?_ rfl
      refine J.iand (q := 27) (z := z / 2 ^ k.toNat % 2) dX1_passDays_26 (I3_and 1 (by decide) rfl rfl) ?_ rfl
      refine J.iconst (q := 28) dX1_passDays_27 ?_ rfl
      refine J.icmp_ne (tgt := 38) (q := 31) (hv := by omega) dX1_passDays_28 rfl rfl (fun c28 => ?_) (fun c28 => ?_)
      · rw [if_neg (fun q => absurd (hthk.mpr q) (by omega))] at hY
        refine J.iinc (q := 41) dX1_passDays_38 rfl ?_ rfl
        refine J.goto (tgt := 12) dX1_passDays_41 rfl ?_
        first
        | exact ih (k + 1) X iv1 (by omega) (by omega) hI e2 hH hM hf hY
        | exact ih (k + 1) _ iv9 (by omega) ⟨by omega, by rw [hXk 2 (kept_lo (by omega))]; omega⟩ hXI (by rw [hXk 2 (kept_lo (by omega))]; exact e2) (fun c c0 c1 => by rw [hXk _ (kept_lo (by omega))]; exact hH c c0 c1) d2 (fun q hq => (d1 q hq).trans (hf q hq)) hY
      · rw [if_pos (hthk.mp (by omega))] at hY
        obtain ⟨hXI, hXk⟩ := crawl_MI (fr := fdst s0) (k := k) hI (by omega)
        refine J.aload_n (q := 32) dX1_passDays_31 rfl ?_ rfl
        refine J.iload (q := 34) dX1_passDays_32 rfl ?_ rfl
        refine J.aload_n (q := 35) dX1_passDays_34 rfl ?_ rfl
        refine J.callV2 (ci := 1) (q := 38) dX1_passDays_35 mv_X1_passDayOf kL_X1_76 rfl (by decide) rfl ⟨by decide, by decide⟩ (Nat.le_of_ble_eq_true rfl) ⟨by decide, by decide⟩ rfl (c_passDayOf1 hD hS1 hI (by omega) e2 hH hM) (fun v9 S9 iv9 hp => ?_)
        obtain ⟨rfl, rfl, d1, d2⟩ := hp
        refine J.iinc (q := 41) dX1_passDays_38 rfl ?_ rfl
        refine J.goto (tgt := 12) dX1_passDays_41 rfl ?_
        first
        | exact ih (k + 1) X iv1 (by omega) (by omega) hI e2 hH hM hf hY
        | exact ih (k + 1) _ iv9 (by omega) ⟨by omega, by rw [hXk 2 (kept_lo (by omega))]; omega⟩ hXI (by rw [hXk 2 (kept_lo (by omega))]; exact e2) (fun c c0 c1 => by rw [hXk _ (kept_lo (by omega))]; exact hH c c0 c1) d2 (fun q hq => (d1 q hq).trans (hf q hq)) hY

set_option maxRecDepth 100000 in
set_option maxHeartbeats 4000000 in
theorem passDays1_loop {l : Launch} {F : Nat × (Int → Int)} {iv : Mm} {D : Int} {s0 : Int → Int} {th : Int → Bool} {z n0 : Int} (hD : D ≤ 200000) (hS : Sv44 iv s0) (hz : 0 ≤ z ∧ z ≤ 255) (hth : ∀ k, 0 ≤ k → k < 8 → ((z / 2 ^ k.toNat % 2 = 1) ↔ th k = true)) {X0 : P2} (hn0 : 0 ≤ n0 ∧ n0 ≤ 101) {D0 : Int} (hD0 : D0 + n0 ≤ D) (hI : MI D0 X0.1) (e2 : X0.1 2 = s0 2) (hH : ∀ c, 0 ≤ c → c ≤ 80 → X0.1 (14 + c) = s0 (14 + c)) : ∀ (n : Nat) (e : Nat) (iv1 : Mm) (y5 : Option VT), (n0 - e < n) → (e ≤ n0) → (RM1 iv1 (dysM (fdst s0) th e X0)) → (∀ q, (q < 1 ∨ 12 < q) → iv1 q = iv q) → J l (yX1_passDays).cls cX1_passDays 6 none 3 0 0 false F (fun v S iv2 => v = none ∧ S = S0 ∧ (∀ q, (q < 1 ∨ 12 < q) → iv2 q = iv q) ∧ RM1 iv2 (dysM (fdst s0) th n0.toNat X0)) 0 0 3 [some (r_ 1), some (r_ 44), some (i_ z), some (i_ n0), some (i_ (e : Int)), y5] [] S0 (iv1) := by
  intro n
  induction n with
  | zero =>
    intro e iv1 y5 hn he hM hf
    omega
  | succ n ih =>
    intro e iv1 y5 hn he hM hf
    obtain ⟨hXI, hX0, hXk⟩ := dysM_MI (fr := fdst s0) (th := th) hI e
    have hXD := hXI.mono (show D0 + e ≤ D by omega)
    have x2 := (hXk 2 (kept_lo (by omega))).trans e2
    have hmm := hXI.many
    refine J.iload (q := 5) dX1_passDays_3 rfl ?_ rfl
    refine J.iload_n (q := 6) dX1_passDays_5 rfl ?_ rfl
    refine J.icmp_ge (tgt := 60) (q := 9) dX1_passDays_6 rfl rfl (fun c6 => ?_) (fun c6 => ?_)
    · refine J.vreturn dX1_passDays_60 rfl ?_
      have hee : n0.toNat = e := by omega
      rw [hee]
      exact ⟨rfl, rfl, hf, hM⟩
    · refine J.iconst (q := 10) dX1_passDays_9 ?_ rfl
      refine J.istore (q := 12) dX1_passDays_10 (Nat.le_of_ble_eq_true rfl) ?_ rfl
      refine passDays1_in hD hS hz hth (Y := dayL (fdst s0) th 9 0 (dysM (fdst s0) th e X0)) (fun iv2 y5 hM2 hf2 => ?_) 9 0 _ iv1 (by omega) (by omega) hXD x2 (fun c c0 c1 => by rw [hXk _ (kept_lo (by omega))]; exact hH c c0 c1) hM hf rfl
      refine J.aload_n (q := 45) dX1_passDays_44 rfl ?_ rfl
      refine J.dup (q := 46) dX1_passDays_45 rfl ?_ rfl
      refine J.getI (ci := 1) (k0 := 14) (kz := 14) (q := 49) dX1_passDays_46 kF_X1_55 rfl (by decide) (by decide) rfl (.inl rfl) ?_ rfl
      rw [g1_day hM2.1]
      refine J.iconst (q := 50) dX1_passDays_49 ?_ rfl
      refine J.iadd (q := 51) dX1_passDays_50 ?_ rfl
      refine J.putI (ci := 1) (k0 := 14) (kz := 14) (q := 54) dX1_passDays_51 kF_X1_55 rfl (by decide) (by decide) rfl rfl rfl ?_ rfl
      refine J.iinc (q := 57) dX1_passDays_54 rfl ?_ rfl
      refine J.goto (tgt := 3) dX1_passDays_57 rfl ?_
      refine ih (e + 1) _ _ (by omega) (by omega) ⟨?_, fun c c0 c1 => ?_⟩ (fun q hq => ?_)
      · exact u1_day hM2.1
      · rw [up_n _ _ _ (by decide)]; exact hM2.2 c c0 c1
      · rw [up_n _ _ _ (by omega)]; exact hf2 q hq

set_option maxRecDepth 100000 in
set_option maxHeartbeats 4000000 in
theorem c_passDays1 {l : Launch} {F : Nat × (Int → Int)} {iv : Mm} {D : Int} {s0 : Int → Int} {th : Int → Bool} {z n0 : Int} (hD : D ≤ 200000) (hS : Sv44 iv s0) (hz : 0 ≤ z ∧ z ≤ 255) (hth : ∀ k, 0 ≤ k → k < 8 → ((z / 2 ^ k.toNat % 2 = 1) ↔ th k = true)) {X0 : P2} (hn0 : 0 ≤ n0 ∧ n0 ≤ 101) {D0 : Int} (hD0 : D0 + n0 ≤ D) (hI : MI D0 X0.1) (e2 : X0.1 2 = s0 2) (hH : ∀ c, 0 ≤ c → c ≤ 80 → X0.1 (14 + c) = s0 (14 + c)) (hM : RM1 iv X0) : Ctr l F 3 0 0 yX1_passDays cX1_passDays 6 none [r_ 1, r_ 44, i_ z, i_ n0] S0 (iv) (fun v S iv2 => v = none ∧ S = S0 ∧ (∀ q, (q < 1 ∨ 12 < q) → iv2 q = iv q) ∧ RM1 iv2 (dysM (fdst s0) th n0.toNat X0)) := by
  refine Ctr.of false (fun h => by cases h) (by decide) rfl (Nat.le_of_ble_eq_true rfl) ?_
  refine J.iconst (q := 1) dX1_passDays_0 ?_ rfl
  refine J.istore (q := 3) dX1_passDays_1 (Nat.le_of_ble_eq_true rfl) ?_ rfl
  exact passDays1_loop hD hS hz hth hn0 hD0 hI e2 hH 102 0 iv none (by omega) (by omega) hM (fun _ _ => rfl)

def RM26 (iv : Mm) (X : P2) : Prop := RR iv 26 X.1 ∧ ∀ c, 0 ≤ c → c < 81 → iv 30 c = X.2 c
set_option maxRecDepth 100000 in
set_option maxHeartbeats 4000000 in
theorem c_movesOf26 {l : Launch} {F : Nat × (Int → Int)} {iv : Mm} {D : Int} {s : Int → Int} (hD : D ≤ 200000) (hR : RR iv 26 s) (hI : MI D s) {k : Int} (hk : 0 ≤ k ∧ k < 8) : Ctr l F 0 0 0 yX1_movesOf cX1_movesOf 5 (some FieldType.int) [r_ 26, i_ k] S0 (iv) (Ret (some (i_ (movM s k))) S0 iv) := by
  refine Ctr.of false (fun h => by cases h) (by decide) rfl (Nat.le_of_ble_eq_true rfl) ?_
  have hw := hI.wet
  have hd := hI.day
  have hs := hI.sna k hk.1 hk.2
  have hg := hI.cel (s (257 + 5 * k + 1)) hs.2.1.1 hs.2.1.2
  refine J.aload_n (q := 1) dX1_movesOf_0 rfl ?_ rfl
  refine J.getI (ci := 1) (k0 := 12) (kz := 12) (q := 4) dX1_movesOf_1 kF_X1_49 rfl (by decide) (by decide) rfl (.inl rfl) ?_ rfl
  rw [g26_wet hR]
  refine J.iconst (q := 5) dX1_movesOf_4 ?_ rfl
  refine J.idiv (q := 6) dX1_movesOf_5 (I3_div (by omega) (by omega) rfl) (I3_n0 (by omega)) ?_ rfl
  refine J.iconst (q := 7) dX1_movesOf_6 ?_ rfl
  refine J.iadd (q := 8) dX1_movesOf_7 ?_ rfl
  refine J.istore_n (q := 9) dX1_movesOf_8 (Nat.le_of_ble_eq_true rfl) ?_ rfl
  refine J.aload_n (q := 10) dX1_movesOf_9 rfl ?_ rfl
  refine J.getR (ci := 1) (k0 := 1) (c1 := 28) (q := 13) dX1_movesOf_10 kF_X1_15 rfl (by decide) (by decide) rfl (by decide) rfl ?_ rfl
  refine J.aload_n (q := 14) dX1_movesOf_13 rfl ?_ rfl
  refine J.getR (ci := 1) (k0 := 6) (c1 := 33) (q := 17) dX1_movesOf_14 kF_X1_30 rfl (by decide) (by decide) rfl (by decide) rfl ?_ rfl
  refine J.iload_n (q := 18) dX1_movesOf_17 rfl ?_ rfl
  refine J.iald (n := 8) (q := 19) dX1_movesOf_18 rfl (by omega) ?_ rfl
  rw [g26_ats hR (by omega) (by omega)]
  refine J.iald (n := 81) (q := 20) dX1_movesOf_19 rfl (by omega) ?_ rfl
  rw [g26_lea hR (by omega) (by omega)]
  refine J.if_le (tgt := 27) (q := 23) dX1_movesOf_20 rfl rfl (fun c20 => ?_) (fun c20 => ?_)
  · refine J.iload_n (q := 28) dX1_movesOf_27 rfl ?_ rfl
    refine J.istore_n (q := 29) dX1_movesOf_28 (Nat.le_of_ble_eq_true rfl) ?_ rfl
    refine J.aload_n (q := 30) dX1_movesOf_29 rfl ?_ rfl
    refine J.getI (ci := 1) (k0 := 14) (kz := 14) (q := 33) dX1_movesOf_30 kF_X1_55 rfl (by decide) (by decide) rfl (.inl rfl) ?_ rfl
    rw [g26_day hR]
    refine J.iconst (q := 34) dX1_movesOf_33 ?_ rfl
    refine J.irem (q := 35) dX1_movesOf_34 (I3_rem (by omega) (by omega) rfl) (I3_n0 (by omega)) ?_ rfl
    refine J.if_ne (tgt := 44) (q := 38) dX1_movesOf_35 rfl rfl (fun c35 => ?_) (fun c35 => ?_)
    · refine J.iconst (q := 45) dX1_movesOf_44 ?_ rfl
      refine J.istore (q := 47) dX1_movesOf_45 (Nat.le_of_ble_eq_true rfl) ?_ rfl
      refine J.aload_n (q := 48) dX1_movesOf_47 rfl ?_ rfl
      refine J.getR (ci := 1) (k0 := 5) (c1 := 32) (q := 51) dX1_movesOf_48 kF_X1_27 rfl (by decide) (by decide) rfl (by decide) rfl ?_ rfl
      refine J.iload_n (q := 52) dX1_movesOf_51 rfl ?_ rfl
      refine J.iald (n := 8) (q := 53) dX1_movesOf_52 rfl (by omega) ?_ rfl
      rw [g26_kin hR (by omega) (by omega)]
      rcases (show ((s (257 + 5 * k + 0)) < 1 ∨ 6 < (s (257 + 5 * k + 0))) ∨ (s (257 + 5 * k + 0)) = 1 ∨ (s (257 + 5 * k + 0)) = 2 ∨ (s (257 + 5 * k + 0)) = 3 ∨ (s (257 + 5 * k + 0)) = 4 ∨ (s (257 + 5 * k + 0)) = 5 ∨ (s (257 + 5 * k + 0)) = 6 by omega) with hO | hx53 | hx53 | hx53 | hx53 | hx53 | hx53
      · refine J.tabOut (tgt := 125) dX1_movesOf_53 (by omega) hO rfl ?_
        refine J.iload_n (q := 126) dX1_movesOf_125 rfl ?_ rfl
        refine J.ireturn dX1_movesOf_126 rfl ?_
        refine ⟨congrArg (fun z => some (i_ z)) ?_, rfl, rfl⟩
        unfold movM
        repeat (first | rw [if_pos (by omega)] | rw [if_neg (by omega)])
        try omega
      · refine J.tabIn (off := 39) (tgt := 92) dX1_movesOf_53 (by omega) (by omega) (by omega) (by rw [hx53]; rfl) rfl ?_
        refine J.iload_n (q := 93) dX1_movesOf_92 rfl ?_ rfl
        refine J.ireturn dX1_movesOf_93 rfl ?_
        refine ⟨congrArg (fun z => some (i_ z)) ?_, rfl, rfl⟩
        unfold movM
        repeat (first | rw [if_pos (by omega)] | rw [if_neg (by omega)])
        try omega
      · refine J.tabIn (off := 45) (tgt := 98) dX1_movesOf_53 (by omega) (by omega) (by omega) (by rw [hx53]; rfl) rfl ?_
        refine J.iload_n (q := 99) dX1_movesOf_98 rfl ?_ rfl
        refine J.iconst (q := 100) dX1_movesOf_99 ?_ rfl
        refine J.isub (q := 101) dX1_movesOf_100 ?_ rfl
        refine J.ireturn dX1_movesOf_101 rfl ?_
        refine ⟨congrArg (fun z => some (i_ z)) ?_, rfl, rfl⟩
        unfold movM
        repeat (first | rw [if_pos (by omega)] | rw [if_neg (by omega)])
        try omega
      · refine J.tabIn (off := 49) (tgt := 102) dX1_movesOf_53 (by omega) (by omega) (by omega) (by rw [hx53]; rfl) rfl ?_
        refine J.iload (q := 104) dX1_movesOf_102 rfl ?_ rfl
        refine J.ireturn dX1_movesOf_104 rfl ?_
        refine ⟨congrArg (fun z => some (i_ z)) ?_, rfl, rfl⟩
        unfold movM
        repeat (first | rw [if_pos (by omega)] | rw [if_neg (by omega)])
        try omega
      · refine J.tabIn (off := 52) (tgt := 105) dX1_movesOf_53 (by omega) (by omega) (by omega) (by rw [hx53]; rfl) rfl ?_
        refine J.iload (q := 107) dX1_movesOf_105 rfl ?_ rfl
        refine J.aload_n (q := 108) dX1_movesOf_107 rfl ?_ rfl
        refine J.getI (ci := 1) (k0 := 14) (kz := 14) (q := 111) dX1_movesOf_108 kF_X1_55 rfl (by decide) (by decide) rfl (.inl rfl) ?_ rfl
        rw [g26_day hR]
        refine J.iconst (q := 112) dX1_movesOf_111 ?_ rfl
        refine J.irem (q := 113) dX1_movesOf_112 (I3_rem (by omega) (by omega) rfl) (I3_n0 (by omega)) ?_ rfl
        refine J.if_ne (tgt := 120) (q := 116) dX1_movesOf_113 rfl rfl (fun c113 => ?_) (fun c113 => ?_)
        · refine J.iconst (q := 121) dX1_movesOf_120 ?_ rfl
          refine J.iadd (q := 122) dX1_movesOf_121 ?_ rfl
          refine J.ireturn dX1_movesOf_122 rfl ?_
          refine ⟨congrArg (fun z => some (i_ z)) ?_, rfl, rfl⟩
          unfold movM
          repeat (first | rw [if_pos (by omega)] | rw [if_neg (by omega)])
          try omega
        · refine J.iconst (q := 117) dX1_movesOf_116 ?_ rfl
          refine J.goto (tgt := 121) dX1_movesOf_117 rfl ?_
          refine J.iadd (q := 122) dX1_movesOf_121 ?_ rfl
          refine J.ireturn dX1_movesOf_122 rfl ?_
          refine ⟨congrArg (fun z => some (i_ z)) ?_, rfl, rfl⟩
          unfold movM
          repeat (first | rw [if_pos (by omega)] | rw [if_neg (by omega)])
          try omega
      · refine J.tabIn (off := 70) (tgt := 123) dX1_movesOf_53 (by omega) (by omega) (by omega) (by rw [hx53]; rfl) rfl ?_
        refine J.iconst (q := 124) dX1_movesOf_123 ?_ rfl
        refine J.ireturn dX1_movesOf_124 rfl ?_
        refine ⟨congrArg (fun z => some (i_ z)) ?_, rfl, rfl⟩
        unfold movM
        repeat (first | rw [if_pos (by omega)] | rw [if_neg (by omega)])
        try omega
      · refine J.tabIn (off := 41) (tgt := 94) dX1_movesOf_53 (by omega) (by omega) (by omega) (by rw [hx53]; rfl) rfl ?_
        refine J.iconst (q := 95) dX1_movesOf_94 ?_ rfl
        refine J.iload_n (q := 96) dX1_movesOf_95 rfl ?_ rfl
        refine J.imul (q := 97) dX1_movesOf_96 ?_ rfl
        refine J.ireturn dX1_movesOf_97 rfl ?_
        refine ⟨congrArg (fun z => some (i_ z)) ?_, rfl, rfl⟩
        unfold movM
        repeat (first | rw [if_pos (by omega)] | rw [if_neg (by omega)])
        try omega
    · refine J.iload_n (q := 39) dX1_movesOf_38 rfl ?_ rfl
      refine J.iconst (q := 40) dX1_movesOf_39 ?_ rfl
      refine J.isub (q := 41) dX1_movesOf_40 ?_ rfl
      refine J.goto (tgt := 45) dX1_movesOf_41 rfl ?_
      refine J.istore (q := 47) dX1_movesOf_45 (Nat.le_of_ble_eq_true rfl) ?_ rfl
      refine J.aload_n (q := 48) dX1_movesOf_47 rfl ?_ rfl
      refine J.getR (ci := 1) (k0 := 5) (c1 := 32) (q := 51) dX1_movesOf_48 kF_X1_27 rfl (by decide) (by decide) rfl (by decide) rfl ?_ rfl
      refine J.iload_n (q := 52) dX1_movesOf_51 rfl ?_ rfl
      refine J.iald (n := 8) (q := 53) dX1_movesOf_52 rfl (by omega) ?_ rfl
      rw [g26_kin hR (by omega) (by omega)]
      rcases (show ((s (257 + 5 * k + 0)) < 1 ∨ 6 < (s (257 + 5 * k + 0))) ∨ (s (257 + 5 * k + 0)) = 1 ∨ (s (257 + 5 * k + 0)) = 2 ∨ (s (257 + 5 * k + 0)) = 3 ∨ (s (257 + 5 * k + 0)) = 4 ∨ (s (257 + 5 * k + 0)) = 5 ∨ (s (257 + 5 * k + 0)) = 6 by omega) with hO | hx53 | hx53 | hx53 | hx53 | hx53 | hx53
      · refine J.tabOut (tgt := 125) dX1_movesOf_53 (by omega) hO rfl ?_
        refine J.iload_n (q := 126) dX1_movesOf_125 rfl ?_ rfl
        refine J.ireturn dX1_movesOf_126 rfl ?_
        refine ⟨congrArg (fun z => some (i_ z)) ?_, rfl, rfl⟩
        unfold movM
        repeat (first | rw [if_pos (by omega)] | rw [if_neg (by omega)])
        try omega
      · refine J.tabIn (off := 39) (tgt := 92) dX1_movesOf_53 (by omega) (by omega) (by omega) (by rw [hx53]; rfl) rfl ?_
        refine J.iload_n (q := 93) dX1_movesOf_92 rfl ?_ rfl
        refine J.ireturn dX1_movesOf_93 rfl ?_
        refine ⟨congrArg (fun z => some (i_ z)) ?_, rfl, rfl⟩
        unfold movM
        repeat (first | rw [if_pos (by omega)] | rw [if_neg (by omega)])
        try omega
      · refine J.tabIn (off := 45) (tgt := 98) dX1_movesOf_53 (by omega) (by omega) (by omega) (by rw [hx53]; rfl) rfl ?_
        refine J.iload_n (q := 99) dX1_movesOf_98 rfl ?_ rfl
        refine J.iconst (q := 100) dX1_movesOf_99 ?_ rfl
        refine J.isub (q := 101) dX1_movesOf_100 ?_ rfl
        refine J.ireturn dX1_movesOf_101 rfl ?_
        refine ⟨congrArg (fun z => some (i_ z)) ?_, rfl, rfl⟩
        unfold movM
        repeat (first | rw [if_pos (by omega)] | rw [if_neg (by omega)])
        try omega
      · refine J.tabIn (off := 49) (tgt := 102) dX1_movesOf_53 (by omega) (by omega) (by omega) (by rw [hx53]; rfl) rfl ?_
        refine J.iload (q := 104) dX1_movesOf_102 rfl ?_ rfl
        refine J.ireturn dX1_movesOf_104 rfl ?_
        refine ⟨congrArg (fun z => some (i_ z)) ?_, rfl, rfl⟩
        unfold movM
        repeat (first | rw [if_pos (by omega)] | rw [if_neg (by omega)])
        try omega
      · refine J.tabIn (off := 52) (tgt := 105) dX1_movesOf_53 (by omega) (by omega) (by omega) (by rw [hx53]; rfl) rfl ?_
        refine J.iload (q := 107) dX1_movesOf_105 rfl ?_ rfl
        refine J.aload_n (q := 108) dX1_movesOf_107 rfl ?_ rfl
        refine J.getI (ci := 1) (k0 := 14) (kz := 14) (q := 111) dX1_movesOf_108 kF_X1_55 rfl (by decide) (by decide) rfl (.inl rfl) ?_ rfl
        rw [g26_day hR]
        refine J.iconst (q := 112) dX1_movesOf_111 ?_ rfl
        refine J.irem (q := 113) dX1_movesOf_112 (I3_rem (by omega) (by omega) rfl) (I3_n0 (by omega)) ?_ rfl
        refine J.if_ne (tgt := 120) (q := 116) dX1_movesOf_113 rfl rfl (fun c113 => ?_) (fun c113 => ?_)
        · refine J.iconst (q := 121) dX1_movesOf_120 ?_ rfl
          refine J.iadd (q := 122) dX1_movesOf_121 ?_ rfl
          refine J.ireturn dX1_movesOf_122 rfl ?_
          refine ⟨congrArg (fun z => some (i_ z)) ?_, rfl, rfl⟩
          unfold movM
          repeat (first | rw [if_pos (by omega)] | rw [if_neg (by omega)])
          try omega
        · refine J.iconst (q := 117) dX1_movesOf_116 ?_ rfl
          refine J.goto (tgt := 121) dX1_movesOf_117 rfl ?_
          refine J.iadd (q := 122) dX1_movesOf_121 ?_ rfl
          refine J.ireturn dX1_movesOf_122 rfl ?_
          refine ⟨congrArg (fun z => some (i_ z)) ?_, rfl, rfl⟩
          unfold movM
          repeat (first | rw [if_pos (by omega)] | rw [if_neg (by omega)])
          try omega
      · refine J.tabIn (off := 70) (tgt := 123) dX1_movesOf_53 (by omega) (by omega) (by omega) (by rw [hx53]; rfl) rfl ?_
        refine J.iconst (q := 124) dX1_movesOf_123 ?_ rfl
        refine J.ireturn dX1_movesOf_124 rfl ?_
        refine ⟨congrArg (fun z => some (i_ z)) ?_, rfl, rfl⟩
        unfold movM
        repeat (first | rw [if_pos (by omega)] | rw [if_neg (by omega)])
        try omega
      · refine J.tabIn (off := 41) (tgt := 94) dX1_movesOf_53 (by omega) (by omega) (by omega) (by rw [hx53]; rfl) rfl ?_
        refine J.iconst (q := 95) dX1_movesOf_94 ?_ rfl
        refine J.iload_n (q := 96) dX1_movesOf_95 rfl ?_ rfl
        refine J.imul (q := 97) dX1_movesOf_96 ?_ rfl
        refine J.ireturn dX1_movesOf_97 rfl ?_
        refine ⟨congrArg (fun z => some (i_ z)) ?_, rfl, rfl⟩
        unfold movM
        repeat (first | rw [if_pos (by omega)] | rw [if_neg (by omega)])
        try omega
  · refine J.iconst (q := 24) dX1_movesOf_23 ?_ rfl
    refine J.goto (tgt := 28) dX1_movesOf_24 rfl ?_
    refine J.istore_n (q := 29) dX1_movesOf_28 (Nat.le_of_ble_eq_true rfl) ?_ rfl
    refine J.aload_n (q := 30) dX1_movesOf_29 rfl ?_ rfl
    refine J.getI (ci := 1) (k0 := 14) (kz := 14) (q := 33) dX1_movesOf_30 kF_X1_55 rfl (by decide) (by decide) rfl (.inl rfl) ?_ rfl
    rw [g26_day hR]
    refine J.iconst (q := 34) dX1_movesOf_33 ?_ rfl
    refine J.irem (q := 35) dX1_movesOf_34 (I3_rem (by omega) (by omega) rfl) (I3_n0 (by omega)) ?_ rfl
    refine J.if_ne (tgt := 44) (q := 38) dX1_movesOf_35 rfl rfl (fun c35 => ?_) (fun c35 => ?_)
    · refine J.iconst (q := 45) dX1_movesOf_44 ?_ rfl
      refine J.istore (q := 47) dX1_movesOf_45 (Nat.le_of_ble_eq_true rfl) ?_ rfl
      refine J.aload_n (q := 48) dX1_movesOf_47 rfl ?_ rfl
      refine J.getR (ci := 1) (k0 := 5) (c1 := 32) (q := 51) dX1_movesOf_48 kF_X1_27 rfl (by decide) (by decide) rfl (by decide) rfl ?_ rfl
      refine J.iload_n (q := 52) dX1_movesOf_51 rfl ?_ rfl
      refine J.iald (n := 8) (q := 53) dX1_movesOf_52 rfl (by omega) ?_ rfl
      rw [g26_kin hR (by omega) (by omega)]
      rcases (show ((s (257 + 5 * k + 0)) < 1 ∨ 6 < (s (257 + 5 * k + 0))) ∨ (s (257 + 5 * k + 0)) = 1 ∨ (s (257 + 5 * k + 0)) = 2 ∨ (s (257 + 5 * k + 0)) = 3 ∨ (s (257 + 5 * k + 0)) = 4 ∨ (s (257 + 5 * k + 0)) = 5 ∨ (s (257 + 5 * k + 0)) = 6 by omega) with hO | hx53 | hx53 | hx53 | hx53 | hx53 | hx53
      · refine J.tabOut (tgt := 125) dX1_movesOf_53 (by omega) hO rfl ?_
        refine J.iload_n (q := 126) dX1_movesOf_125 rfl ?_ rfl
        refine J.ireturn dX1_movesOf_126 rfl ?_
        refine ⟨congrArg (fun z => some (i_ z)) ?_, rfl, rfl⟩
        unfold movM
        repeat (first | rw [if_pos (by omega)] | rw [if_neg (by omega)])
        try omega
      · refine J.tabIn (off := 39) (tgt := 92) dX1_movesOf_53 (by omega) (by omega) (by omega) (by rw [hx53]; rfl) rfl ?_
        refine J.iload_n (q := 93) dX1_movesOf_92 rfl ?_ rfl
        refine J.ireturn dX1_movesOf_93 rfl ?_
        refine ⟨congrArg (fun z => some (i_ z)) ?_, rfl, rfl⟩
        unfold movM
        repeat (first | rw [if_pos (by omega)] | rw [if_neg (by omega)])
        try omega
      · refine J.tabIn (off := 45) (tgt := 98) dX1_movesOf_53 (by omega) (by omega) (by omega) (by rw [hx53]; rfl) rfl ?_
        refine J.iload_n (q := 99) dX1_movesOf_98 rfl ?_ rfl
        refine J.iconst (q := 100) dX1_movesOf_99 ?_ rfl
        refine J.isub (q := 101) dX1_movesOf_100 ?_ rfl
        refine J.ireturn dX1_movesOf_101 rfl ?_
        refine ⟨congrArg (fun z => some (i_ z)) ?_, rfl, rfl⟩
        unfold movM
        repeat (first | rw [if_pos (by omega)] | rw [if_neg (by omega)])
        try omega
      · refine J.tabIn (off := 49) (tgt := 102) dX1_movesOf_53 (by omega) (by omega) (by omega) (by rw [hx53]; rfl) rfl ?_
        refine J.iload (q := 104) dX1_movesOf_102 rfl ?_ rfl
        refine J.ireturn dX1_movesOf_104 rfl ?_
        refine ⟨congrArg (fun z => some (i_ z)) ?_, rfl, rfl⟩
        unfold movM
        repeat (first | rw [if_pos (by omega)] | rw [if_neg (by omega)])
        try omega
      · refine J.tabIn (off := 52) (tgt := 105) dX1_movesOf_53 (by omega) (by omega) (by omega) (by rw [hx53]; rfl) rfl ?_
        refine J.iload (q := 107) dX1_movesOf_105 rfl ?_ rfl
        refine J.aload_n (q := 108) dX1_movesOf_107 rfl ?_ rfl
        refine J.getI (ci := 1) (k0 := 14) (kz := 14) (q := 111) dX1_movesOf_108 kF_X1_55 rfl (by decide) (by decide) rfl (.inl rfl) ?_ rfl
        rw [g26_day hR]
        refine J.iconst (q := 112) dX1_movesOf_111 ?_ rfl
        refine J.irem (q := 113) dX1_movesOf_112 (I3_rem (by omega) (by omega) rfl) (I3_n0 (by omega)) ?_ rfl
        refine J.if_ne (tgt := 120) (q := 116) dX1_movesOf_113 rfl rfl (fun c113 => ?_) (fun c113 => ?_)
        · refine J.iconst (q := 121) dX1_movesOf_120 ?_ rfl
          refine J.iadd (q := 122) dX1_movesOf_121 ?_ rfl
          refine J.ireturn dX1_movesOf_122 rfl ?_
          refine ⟨congrArg (fun z => some (i_ z)) ?_, rfl, rfl⟩
          unfold movM
          repeat (first | rw [if_pos (by omega)] | rw [if_neg (by omega)])
          try omega
        · refine J.iconst (q := 117) dX1_movesOf_116 ?_ rfl
          refine J.goto (tgt := 121) dX1_movesOf_117 rfl ?_
          refine J.iadd (q := 122) dX1_movesOf_121 ?_ rfl
          refine J.ireturn dX1_movesOf_122 rfl ?_
          refine ⟨congrArg (fun z => some (i_ z)) ?_, rfl, rfl⟩
          unfold movM
          repeat (first | rw [if_pos (by omega)] | rw [if_neg (by omega)])
          try omega
      · refine J.tabIn (off := 70) (tgt := 123) dX1_movesOf_53 (by omega) (by omega) (by omega) (by rw [hx53]; rfl) rfl ?_
        refine J.iconst (q := 124) dX1_movesOf_123 ?_ rfl
        refine J.ireturn dX1_movesOf_124 rfl ?_
        refine ⟨congrArg (fun z => some (i_ z)) ?_, rfl, rfl⟩
        unfold movM
        repeat (first | rw [if_pos (by omega)] | rw [if_neg (by omega)])
        try omega
      · refine J.tabIn (off := 41) (tgt := 94) dX1_movesOf_53 (by omega) (by omega) (by omega) (by rw [hx53]; rfl) rfl ?_
        refine J.iconst (q := 95) dX1_movesOf_94 ?_ rfl
        refine J.iload_n (q := 96) dX1_movesOf_95 rfl ?_ rfl
        refine J.imul (q := 97) dX1_movesOf_96 ?_ rfl
        refine J.ireturn dX1_movesOf_97 rfl ?_
        refine ⟨congrArg (fun z => some (i_ z)) ?_, rfl, rfl⟩
        unfold movM
        repeat (first | rw [if_pos (by omega)] | rw [if_neg (by omega)])
        try omega
    · refine J.iload_n (q := 39) dX1_movesOf_38 rfl ?_ rfl
      refine J.iconst (q := 40) dX1_movesOf_39 ?_ rfl
      refine J.isub (q := 41) dX1_movesOf_40 ?_ rfl
      refine J.goto (tgt := 45) dX1_movesOf_41 rfl ?_
      refine J.istore (q := 47) dX1_movesOf_45 (Nat.le_of_ble_eq_true rfl) ?_ rfl
      refine J.aload_n (q := 48) dX1_movesOf_47 rfl ?_ rfl
      refine J.getR (ci := 1) (k0 := 5) (c1 := 32) (q := 51) dX1_movesOf_48 kF_X1_27 rfl (by decide) (by decide) rfl (by decide) rfl ?_ rfl
      refine J.iload_n (q := 52) dX1_movesOf_51 rfl ?_ rfl
      refine J.iald (n := 8) (q := 53) dX1_movesOf_52 rfl (by omega) ?_ rfl
      rw [g26_kin hR (by omega) (by omega)]
      rcases (show ((s (257 + 5 * k + 0)) < 1 ∨ 6 < (s (257 + 5 * k + 0))) ∨ (s (257 + 5 * k + 0)) = 1 ∨ (s (257 + 5 * k + 0)) = 2 ∨ (s (257 + 5 * k + 0)) = 3 ∨ (s (257 + 5 * k + 0)) = 4 ∨ (s (257 + 5 * k + 0)) = 5 ∨ (s (257 + 5 * k + 0)) = 6 by omega) with hO | hx53 | hx53 | hx53 | hx53 | hx53 | hx53
      · refine J.tabOut (tgt := 125) dX1_movesOf_53 (by omega) hO rfl ?_
        refine J.iload_n (q := 126) dX1_movesOf_125 rfl ?_ rfl
        refine J.ireturn dX1_movesOf_126 rfl ?_
        refine ⟨congrArg (fun z => some (i_ z)) ?_, rfl, rfl⟩
        unfold movM
        repeat (first | rw [if_pos (by omega)] | rw [if_neg (by omega)])
        try omega
      · refine J.tabIn (off := 39) (tgt := 92) dX1_movesOf_53 (by omega) (by omega) (by omega) (by rw [hx53]; rfl) rfl ?_
        refine J.iload_n (q := 93) dX1_movesOf_92 rfl ?_ rfl
        refine J.ireturn dX1_movesOf_93 rfl ?_
        refine ⟨congrArg (fun z => some (i_ z)) ?_, rfl, rfl⟩
        unfold movM
        repeat (first | rw [if_pos (by omega)] | rw [if_neg (by omega)])
        try omega
      · refine J.tabIn (off := 45) (tgt := 98) dX1_movesOf_53 (by omega) (by omega) (by omega) (by rw [hx53]; rfl) rfl ?_
        refine J.iload_n (q := 99) dX1_movesOf_98 rfl ?_ rfl
        refine J.iconst (q := 100) dX1_movesOf_99 ?_ rfl
        refine J.isub (q := 101) dX1_movesOf_100 ?_ rfl
        refine J.ireturn dX1_movesOf_101 rfl ?_
        refine ⟨congrArg (fun z => some (i_ z)) ?_, rfl, rfl⟩
        unfold movM
        repeat (first | rw [if_pos (by omega)] | rw [if_neg (by omega)])
        try omega
      · refine J.tabIn (off := 49) (tgt := 102) dX1_movesOf_53 (by omega) (by omega) (by omega) (by rw [hx53]; rfl) rfl ?_
        refine J.iload (q := 104) dX1_movesOf_102 rfl ?_ rfl
        refine J.ireturn dX1_movesOf_104 rfl ?_
        refine ⟨congrArg (fun z => some (i_ z)) ?_, rfl, rfl⟩
        unfold movM
        repeat (first | rw [if_pos (by omega)] | rw [if_neg (by omega)])
        try omega
      · refine J.tabIn (off := 52) (tgt := 105) dX1_movesOf_53 (by omega) (by omega) (by omega) (by rw [hx53]; rfl) rfl ?_
        refine J.iload (q := 107) dX1_movesOf_105 rfl ?_ rfl
        refine J.aload_n (q := 108) dX1_movesOf_107 rfl ?_ rfl
        refine J.getI (ci := 1) (k0 := 14) (kz := 14) (q := 111) dX1_movesOf_108 kF_X1_55 rfl (by decide) (by decide) rfl (.inl rfl) ?_ rfl
        rw [g26_day hR]
        refine J.iconst (q := 112) dX1_movesOf_111 ?_ rfl
        refine J.irem (q := 113) dX1_movesOf_112 (I3_rem (by omega) (by omega) rfl) (I3_n0 (by omega)) ?_ rfl
        refine J.if_ne (tgt := 120) (q := 116) dX1_movesOf_113 rfl rfl (fun c113 => ?_) (fun c113 => ?_)
        · refine J.iconst (q := 121) dX1_movesOf_120 ?_ rfl
          refine J.iadd (q := 122) dX1_movesOf_121 ?_ rfl
          refine J.ireturn dX1_movesOf_122 rfl ?_
          refine ⟨congrArg (fun z => some (i_ z)) ?_, rfl, rfl⟩
          unfold movM
          repeat (first | rw [if_pos (by omega)] | rw [if_neg (by omega)])
          try omega
        · refine J.iconst (q := 117) dX1_movesOf_116 ?_ rfl
          refine J.goto (tgt := 121) dX1_movesOf_117 rfl ?_
          refine J.iadd (q := 122) dX1_movesOf_121 ?_ rfl
          refine J.ireturn dX1_movesOf_122 rfl ?_
          refine ⟨congrArg (fun z => some (i_ z)) ?_, rfl, rfl⟩
          unfold movM
          repeat (first | rw [if_pos (by omega)] | rw [if_neg (by omega)])
          try omega
      · refine J.tabIn (off := 70) (tgt := 123) dX1_movesOf_53 (by omega) (by omega) (by omega) (by rw [hx53]; rfl) rfl ?_
        refine J.iconst (q := 124) dX1_movesOf_123 ?_ rfl
        refine J.ireturn dX1_movesOf_124 rfl ?_
        refine ⟨congrArg (fun z => some (i_ z)) ?_, rfl, rfl⟩
        unfold movM
        repeat (first | rw [if_pos (by omega)] | rw [if_neg (by omega)])
        try omega
      · refine J.tabIn (off := 41) (tgt := 94) dX1_movesOf_53 (by omega) (by omega) (by omega) (by rw [hx53]; rfl) rfl ?_
        refine J.iconst (q := 95) dX1_movesOf_94 ?_ rfl
        refine J.iload_n (q := 96) dX1_movesOf_95 rfl ?_ rfl
        refine J.imul (q := 97) dX1_movesOf_96 ?_ rfl
        refine J.ireturn dX1_movesOf_97 rfl ?_
        refine ⟨congrArg (fun z => some (i_ z)) ?_, rfl, rfl⟩
        unfold movM
        repeat (first | rw [if_pos (by omega)] | rw [if_neg (by omega)])
        try omega

set_option maxRecDepth 100000 in
set_option maxHeartbeats 4000000 in
theorem c_comeUnder26 {l : Launch} {F : Nat × (Int → Int)} {iv : Mm} {D : Int} {X Z : P2} (hI : MI D X.1) {c w : Int} (hc : 0 ≤ c ∧ c ≤ 80) (hw : 0 ≤ w ∧ w ≤ 7) (hR : RR iv 26 Z.1) (hM : ∀ j, 0 ≤ j → j < 81 → iv 30 j = Z.2 j) (e1 : Z.1 1 = X.1 1) (e2 : Z.1 (176 + c) = X.1 (176 + c)) : Ctr l F 1 0 0 yX1_comeUnder cX1_comeUnder 3 none [r_ 26, i_ c, i_ w] S0 (iv) (fun v S iv2 => v = none ∧ S = S0 ∧ (∀ q, (q < 26 ∨ 37 < q) → iv2 q = iv q) ∧ RM26 iv2 (come Z c w)) := by
  refine Ctr.of false (fun h => by cases h) (by decide) rfl (Nat.le_of_ble_eq_true rfl) ?_
  have hcl := hI.cla
  have hcc := (hI.cel c hc.1 hc.2).2.2
  rw [← e1] at hcl
  rw [← e2] at hcc
  refine J.aload_n (q := 1) dX1_comeUnder_0 rfl ?_ rfl
  refine J.getR (ci := 1) (k0 := 2) (c1 := 29) (q := 4) dX1_comeUnder_1 kF_X1_18 rfl (by decide) (by decide) rfl (by decide) rfl ?_ rfl
  refine J.iload_n (q := 5) dX1_comeUnder_4 rfl ?_ rfl
  refine J.iald (n := 81) (q := 6) dX1_comeUnder_5 rfl (by omega) ?_ rfl
  rw [g26_law hR (by omega) (by omega)]
  refine J.iconst (q := 7) dX1_comeUnder_6 ?_ rfl
  refine J.icmp_eq (tgt := 45) (q := 10) dX1_comeUnder_7 rfl rfl (fun c7 => ?_) (fun c7 => ?_)
  · have hcm : come Z c w = (upr Z.1 (176 + c) w, Z.2) := by
      unfold come
      rw [if_neg (fun z => by omega), if_neg (fun z => by omega)]
    refine J.aload_n (q := 46) dX1_comeUnder_45 rfl ?_ rfl
    refine J.getR (ci := 1) (k0 := 2) (c1 := 29) (q := 49) dX1_comeUnder_46 kF_X1_18 rfl (by decide) (by decide) rfl (by decide) rfl ?_ rfl
    refine J.iload_n (q := 50) dX1_comeUnder_49 rfl ?_ rfl
    refine J.iload_n (q := 51) dX1_comeUnder_50 rfl ?_ rfl
    refine J.iast (n := 81) (q := 52) dX1_comeUnder_51 rfl (by omega) ?_ rfl
    refine J.vreturn dX1_comeUnder_52 rfl ?_
    rw [hcm]
    first
    | (refine ⟨rfl, rfl, fun q hq => ?_, ?_, fun j j0 j1 => ?_⟩
       · rw [up_n _ _ _ (by omega)]
       · exact u26_law (c := c) hR (by omega) (by omega)
       · rw [up_n _ _ _ (by decide)]; exact hM j j0 j1)
    | (refine ⟨rfl, rfl, fun q hq => ?_, ?_, fun j j0 j1 => ?_⟩
       · rw [up_n _ _ _ (by omega), up_n _ _ _ (by omega), up_n _ _ _ (by omega)]
       · exact u26_law (c := c) (u26_cla (n26 hR (Or.inr (Or.inr rfl)))) (by omega) (by omega)
       · rw [up_n _ _ _ (by decide), up_n _ _ _ (by decide), up_s]
         show _ = upr Z.2 c (Z.2 c + 1) j
         by_cases e : j = c
         · subst e; rw [upr_s, upr_s]
         · rw [upr_n _ _ e, upr_n _ _ e]; exact hM j j0 j1)
  · refine J.aload_n (q := 11) dX1_comeUnder_10 rfl ?_ rfl
    refine J.getR (ci := 1) (k0 := 2) (c1 := 29) (q := 14) dX1_comeUnder_11 kF_X1_18 rfl (by decide) (by decide) rfl (by decide) rfl ?_ rfl
    refine J.iload_n (q := 15) dX1_comeUnder_14 rfl ?_ rfl
    refine J.iald (n := 81) (q := 16) dX1_comeUnder_15 rfl (by omega) ?_ rfl
    rw [g26_law hR (by omega) (by omega)]
    refine J.iload_n (q := 17) dX1_comeUnder_16 rfl ?_ rfl
    refine J.icmp_eq (tgt := 45) (q := 20) dX1_comeUnder_17 rfl rfl (fun c17 => ?_) (fun c17 => ?_)
    · have hcm : come Z c w = (upr Z.1 (176 + c) w, Z.2) := by
        unfold come
        rw [if_neg (fun z => by omega), if_neg (fun z => by omega)]
      refine J.aload_n (q := 46) dX1_comeUnder_45 rfl ?_ rfl
      refine J.getR (ci := 1) (k0 := 2) (c1 := 29) (q := 49) dX1_comeUnder_46 kF_X1_18 rfl (by decide) (by decide) rfl (by decide) rfl ?_ rfl
      refine J.iload_n (q := 50) dX1_comeUnder_49 rfl ?_ rfl
      refine J.iload_n (q := 51) dX1_comeUnder_50 rfl ?_ rfl
      refine J.iast (n := 81) (q := 52) dX1_comeUnder_51 rfl (by omega) ?_ rfl
      refine J.vreturn dX1_comeUnder_52 rfl ?_
      rw [hcm]
      first
      | (refine ⟨rfl, rfl, fun q hq => ?_, ?_, fun j j0 j1 => ?_⟩
         · rw [up_n _ _ _ (by omega)]
         · exact u26_law (c := c) hR (by omega) (by omega)
         · rw [up_n _ _ _ (by decide)]; exact hM j j0 j1)
      | (refine ⟨rfl, rfl, fun q hq => ?_, ?_, fun j j0 j1 => ?_⟩
         · rw [up_n _ _ _ (by omega), up_n _ _ _ (by omega), up_n _ _ _ (by omega)]
         · exact u26_law (c := c) (u26_cla (n26 hR (Or.inr (Or.inr rfl)))) (by omega) (by omega)
         · rw [up_n _ _ _ (by decide), up_n _ _ _ (by decide), up_s]
           show _ = upr Z.2 c (Z.2 c + 1) j
           by_cases e : j = c
           · subst e; rw [upr_s, upr_s]
           · rw [upr_n _ _ e, upr_n _ _ e]; exact hM j j0 j1)
    · have hcm : come Z c w = (upr (upr Z.1 1 (Z.1 1 + (if Z.1 1 < 99999 then 1 else 0))) (176 + c) w, upr Z.2 c (Z.2 c + 1)) := by
        unfold come
        have hp : 0 ≤ Z.1 (176 + c) ∧ Z.1 (176 + c) ≠ w := ⟨by omega, by omega⟩
        rw [if_pos hp, if_pos hp]
      refine J.aload_n (q := 21) dX1_comeUnder_20 rfl ?_ rfl
      refine J.getR (ci := 1) (k0 := 3) (c1 := 30) (q := 24) dX1_comeUnder_21 kF_X1_21 rfl (by decide) (by decide) rfl (by decide) rfl ?_ rfl
      refine J.iload_n (q := 25) dX1_comeUnder_24 rfl ?_ rfl
      refine J.dup2 (q := 26) dX1_comeUnder_25 rfl rfl ?_ rfl
      refine J.iald (n := 81) (q := 27) dX1_comeUnder_26 rfl (by omega) ?_ rfl
      rw [hM c (by omega) (by omega)]
      refine J.iconst (q := 28) dX1_comeUnder_27 ?_ rfl
      refine J.iadd (q := 29) dX1_comeUnder_28 ?_ rfl
      refine J.iast (n := 81) (q := 30) dX1_comeUnder_29 rfl (by omega) ?_ rfl
      refine J.aload_n (q := 31) dX1_comeUnder_30 rfl ?_ rfl
      refine J.aload_n (q := 32) dX1_comeUnder_31 rfl ?_ rfl
      refine J.getI (ci := 1) (k0 := 15) (kz := 15) (q := 35) dX1_comeUnder_32 kF_X1_58 rfl (by decide) (by decide) rfl (.inl rfl) ?_ rfl
      rw [up_n _ _ _ (by decide), g26_cla hR]
      refine J.iconst (q := 36) dX1_comeUnder_35 ?_ rfl
      refine J.iadd (q := 37) dX1_comeUnder_36 ?_ rfl
      refine J.ldc (q := 39) (z := 99999) dX1_comeUnder_37 kK_X1_98 ?_ rfl
      refine J.mmin (x := (Z.1 1 + 1)) (q := 42) dX1_comeUnder_39 kL_X1_99 ?_ rfl
      rw [show (if (99999 : Int) < Z.1 1 + 1 then (99999 : Int) else Z.1 1 + 1) = Z.1 1 + (if Z.1 1 < 99999 then 1 else 0) by split <;> split <;> omega]
      refine J.putI (ci := 1) (k0 := 15) (kz := 15) (q := 45) dX1_comeUnder_42 kF_X1_58 rfl (by decide) (by decide) rfl rfl rfl ?_ rfl
      refine J.aload_n (q := 46) dX1_comeUnder_45 rfl ?_ rfl
      refine J.getR (ci := 1) (k0 := 2) (c1 := 29) (q := 49) dX1_comeUnder_46 kF_X1_18 rfl (by decide) (by decide) rfl (by decide) rfl ?_ rfl
      refine J.iload_n (q := 50) dX1_comeUnder_49 rfl ?_ rfl
      refine J.iload_n (q := 51) dX1_comeUnder_50 rfl ?_ rfl
      refine J.iast (n := 81) (q := 52) dX1_comeUnder_51 rfl (by omega) ?_ rfl
      refine J.vreturn dX1_comeUnder_52 rfl ?_
      rw [hcm]
      first
      | (refine ⟨rfl, rfl, fun q hq => ?_, ?_, fun j j0 j1 => ?_⟩
         · rw [up_n _ _ _ (by omega)]
         · exact u26_law (c := c) hR (by omega) (by omega)
         · rw [up_n _ _ _ (by decide)]; exact hM j j0 j1)
      | (refine ⟨rfl, rfl, fun q hq => ?_, ?_, fun j j0 j1 => ?_⟩
         · rw [up_n _ _ _ (by omega), up_n _ _ _ (by omega), up_n _ _ _ (by omega)]
         · exact u26_law (c := c) (u26_cla (n26 hR (Or.inr (Or.inr rfl)))) (by omega) (by omega)
         · rw [up_n _ _ _ (by decide), up_n _ _ _ (by decide), up_s]
           show _ = upr Z.2 c (Z.2 c + 1) j
           by_cases e : j = c
           · subst e; rw [upr_s, upr_s]
           · rw [upr_n _ _ e, upr_n _ _ e]; exact hM j j0 j1)

set_option maxRecDepth 100000 in
set_option maxHeartbeats 4000000 in
theorem passDayOf26_end {l : Launch} {F : Nat × (Int → Int)} {iv iv1 : Mm} {D : Int} {s0 : Int → Int} {X0 X : P2} (hD : D ≤ 200000) (hI : MI D X0.1) {k m : Int} (hk : 0 ≤ k ∧ k < X0.1 2) {y7 : Option VT} (hfin : itM (fdst s0) k (movM X0.1 k).toNat (come X0 (X0.1 (257 + 5 * k + 1)) (X0.1 (257 + 5 * k + 2))) = X) (hR : RR iv1 26 (upr X.1 (257 + 5 * k + 1) (X0.1 (257 + 5 * k + 1)))) (hM : ∀ c, 0 ≤ c → c < 81 → iv1 30 c = X.2 c) (hf : ∀ q, (q < 26 ∨ 37 < q) → iv1 q = iv q) : J l (yX1_passDayOf).cls cX1_passDayOf 8 none 2 0 0 false F (fun v S iv2 => v = none ∧ S = S0 ∧ (∀ q, (q < 26 ∨ 37 < q) → iv2 q = iv q) ∧ RM26 iv2 (crawl (fdst s0) k X0)) 0 0 75 [some (r_ 26), some (i_ k), some (r_ 38), some (i_ (X0.1 (257 + 5 * k + 2))), some (i_ (X.1 (257 + 5 * k + 1))), some (i_ (movM X0.1 k)), some (i_ m), y7] [] S0 (iv1) := by
  have hmm := hI.many
  have hs := hI.sna k (by omega) (by omega)
  have hcI := come_MI (X := X0) (c := X0.1 (257 + 5 * k + 1)) (law := X0.1 (257 + 5 * k + 2)) hI hs.2.1 hs.2.2.1
  obtain ⟨hXI, hXk⟩ := it_MI (fr := fdst s0) (k := k) hcI (by omega) (movM X0.1 k).toNat
  rw [hfin] at hXI hXk
  have hXs := hXI.sna k (by omega) (by omega)
  have hXg := hXI.cel (X.1 (257 + 5 * k + 1)) hXs.2.1.1 hXs.2.1.2
  have hR2 : RR (up iv1 33 k (X.1 (257 + 5 * k + 1))) 26 X.1 := by
    have h := u26_ats (v := X.1 (257 + 5 * k + 1)) hR (c := k) (by omega) (by omega)
    rw [upr_upr, upr_self] at h
    exact h
  have hcr : crawl (fdst s0) k X0 = munch k X := by unfold crawl; rw [hfin]
  unfold munch at hcr
  rw [hcr]
  refine J.aload_n (q := 76) dX1_passDayOf_75 rfl ?_ rfl
  refine J.getR (ci := 1) (k0 := 6) (c1 := 33) (q := 79) dX1_passDayOf_76 kF_X1_30 rfl (by decide) (by decide) rfl (by decide) rfl ?_ rfl
  refine J.iload_n (q := 80) dX1_passDayOf_79 rfl ?_ rfl
  refine J.iload (q := 82) dX1_passDayOf_80 rfl ?_ rfl
  refine J.iast (n := 8) (q := 83) dX1_passDayOf_82 rfl (by omega) ?_ rfl
  refine J.aload_n (q := 84) dX1_passDayOf_83 rfl ?_ rfl
  refine J.getR (ci := 1) (k0 := 1) (c1 := 28) (q := 87) dX1_passDayOf_84 kF_X1_15 rfl (by decide) (by decide) rfl (by decide) rfl ?_ rfl
  refine J.iload (q := 89) dX1_passDayOf_87 rfl ?_ rfl
  refine J.iald (n := 81) (q := 90) dX1_passDayOf_89 rfl (by omega) ?_ rfl
  rw [g26_lea hR2 (by omega) (by omega)]
  refine J.if_le (tgt := 117) (q := 93) dX1_passDayOf_90 rfl rfl (fun c90 => ?_) (fun c90 => ?_)
  · rw [if_neg (fun z => by omega), Int.sub_zero, upr_self]
    refine J.vreturn dX1_passDayOf_117 rfl ?_
    first
    | (refine ⟨rfl, rfl, fun q hq => ?_, hR2, fun c c0 c1 => ?_⟩
       · rw [up_n _ _ _ (by omega)]; exact hf q hq
       · rw [up_n _ _ _ (by decide)]; exact hM c c0 c1)
    | (refine ⟨rfl, rfl, fun q hq => ?_, u26_lea hR2 (by omega) (by omega), fun c c0 c1 => ?_⟩
       · rw [up_n _ _ _ (by omega), up_n _ _ _ (by omega)]; exact hf q hq
       · rw [up_n _ _ _ (by decide), up_n _ _ _ (by decide)]; exact hM c c0 c1)
    | (exfalso; omega)
  · refine J.aload_n (q := 94) dX1_passDayOf_93 rfl ?_ rfl
    refine J.getR (ci := 1) (k0 := 5) (c1 := 32) (q := 97) dX1_passDayOf_94 kF_X1_27 rfl (by decide) (by decide) rfl (by decide) rfl ?_ rfl
    refine J.iload_n (q := 98) dX1_passDayOf_97 rfl ?_ rfl
    refine J.iald (n := 8) (q := 99) dX1_passDayOf_98 rfl (by omega) ?_ rfl
    rw [g26_kin hR2 (by omega) (by omega)]
    refine J.iconst (q := 100) dX1_passDayOf_99 ?_ rfl
    refine J.callSN2i (q := 103) dX1_passDayOf_100 mv_X5_isOfKind kS_X5_isOfKind (by decide) ⟨by decide, by decide⟩ (Nat.le_of_ble_eq_true rfl) ⟨by decide, by decide⟩ rfl (c_X5_isOfKind (by omega) (by omega)) ?_
    have hun : (undr (X.1 (257 + 5 * k + 0)) 1 = true) = (X.1 (257 + 5 * k + 0) = 1 ∨ X.1 (257 + 5 * k + 0) = 6) := propext ⟨fun z => by have := of_decide_eq_true z; omega, fun z => decide_eq_true (by omega)⟩
    simp only [hun]
    refine J.ifb_eq (tgt := 117) (q := 106) dX1_passDayOf_103 rfl rfl (fun c103 => ?_) (fun c103 => ?_)
    · rw [if_neg (fun z => by omega), Int.sub_zero, upr_self]
      refine J.vreturn dX1_passDayOf_117 rfl ?_
      first
      | (refine ⟨rfl, rfl, fun q hq => ?_, hR2, fun c c0 c1 => ?_⟩
         · rw [up_n _ _ _ (by omega)]; exact hf q hq
         · rw [up_n _ _ _ (by decide)]; exact hM c c0 c1)
      | (refine ⟨rfl, rfl, fun q hq => ?_, u26_lea hR2 (by omega) (by omega), fun c c0 c1 => ?_⟩
         · rw [up_n _ _ _ (by omega), up_n _ _ _ (by omega)]; exact hf q hq
         · rw [up_n _ _ _ (by decide), up_n _ _ _ (by decide)]; exact hM c c0 c1)
      | (exfalso; omega)
    · rw [if_pos (by omega)]
      refine J.aload_n (q := 107) dX1_passDayOf_106 rfl ?_ rfl
      refine J.getR (ci := 1) (k0 := 1) (c1 := 28) (q := 110) dX1_passDayOf_107 kF_X1_15 rfl (by decide) (by decide) rfl (by decide) rfl ?_ rfl
      refine J.iload (q := 112) dX1_passDayOf_110 rfl ?_ rfl
      refine J.dup2 (q := 113) dX1_passDayOf_112 rfl rfl ?_ rfl
      refine J.iald (n := 81) (q := 114) dX1_passDayOf_113 rfl (by omega) ?_ rfl
      rw [g26_lea hR2 (by omega) (by omega)]
      refine J.iconst (q := 115) dX1_passDayOf_114 ?_ rfl
      refine J.isub (q := 116) dX1_passDayOf_115 ?_ rfl
      refine J.iast (n := 81) (q := 117) dX1_passDayOf_116 rfl (by omega) ?_ rfl
      refine J.vreturn dX1_passDayOf_117 rfl ?_
      first
      | (refine ⟨rfl, rfl, fun q hq => ?_, hR2, fun c c0 c1 => ?_⟩
         · rw [up_n _ _ _ (by omega)]; exact hf q hq
         · rw [up_n _ _ _ (by decide)]; exact hM c c0 c1)
      | (refine ⟨rfl, rfl, fun q hq => ?_, u26_lea hR2 (by omega) (by omega), fun c c0 c1 => ?_⟩
         · rw [up_n _ _ _ (by omega), up_n _ _ _ (by omega)]; exact hf q hq
         · rw [up_n _ _ _ (by decide), up_n _ _ _ (by decide)]; exact hM c c0 c1)
      | (exfalso; omega)

set_option maxRecDepth 100000 in
set_option maxHeartbeats 4000000 in
theorem passDayOf26_loop {l : Launch} {F : Nat × (Int → Int)} {iv : Mm} {D : Int} {s0 : Int → Int} {X0 : P2} (hD : D ≤ 200000) (hS : Sv38 iv s0) (hI : MI D X0.1) {k : Int} (hk : 0 ≤ k ∧ k < X0.1 2) (e2 : X0.1 2 = s0 2) (hH : ∀ c, 0 ≤ c → c ≤ 80 → X0.1 (14 + c) = s0 (14 + c)) : ∀ (n : Nat) (m : Nat) (X : P2) (iv1 : Mm) (y7 : Option VT), (movM X0.1 k - m < n) → (m ≤ movM X0.1 k) → (itM (fdst s0) k m (come X0 (X0.1 (257 + 5 * k + 1)) (X0.1 (257 + 5 * k + 2))) = X) → (RR iv1 26 (upr X.1 (257 + 5 * k + 1) (X0.1 (257 + 5 * k + 1)))) → (∀ c, 0 ≤ c → c < 81 → iv1 30 c = X.2 c) → (∀ q, (q < 26 ∨ 37 < q) → iv1 q = iv q) → J l (yX1_passDayOf).cls cX1_passDayOf 8 none 2 0 0 false F (fun v S iv2 => v = none ∧ S = S0 ∧ (∀ q, (q < 26 ∨ 37 < q) → iv2 q = iv q) ∧ RM26 iv2 (crawl (fdst s0) k X0)) 0 0 32 [some (r_ 26), some (i_ k), some (r_ 38), some (i_ (X0.1 (257 + 5 * k + 2))), some (i_ (X.1 (257 + 5 * k + 1))), some (i_ (movM X0.1 k)), some (i_ (m : Int)), y7] [] S0 (iv1) := by
  intro n
  induction n with
  | zero =>
    intro m X iv1 y7 hn hm hX hR hM hf
    omega
  | succ n ih =>
    intro m X iv1 y7 hn hm hX hR hM hf
    have hmm := hI.many
    have hs := hI.sna k (by omega) (by omega)
    have hcI := come_MI (X := X0) (c := X0.1 (257 + 5 * k + 1)) (law := X0.1 (257 + 5 * k + 2)) hI hs.2.1 hs.2.2.1
    obtain ⟨hXI, hXk⟩ := it_MI (fr := fdst s0) (k := k) hcI (by omega) m
    rw [hX] at hXI hXk
    have hXs := hXI.sna k (by omega) (by omega)
    have hmv := movM_rng (k := k) hI
    have eE : X.1 (257 + 5 * k + 2) = X0.1 (257 + 5 * k + 2) := (hXk _ (kept_s (by omega) (by omega))).trans (come_kept hs.2.1 (kept_s (by omega) (by omega)))
    have eK : X.1 (257 + 5 * k + 0) = X0.1 (257 + 5 * k + 0) := (hXk _ (kept_s (by omega) (by omega))).trans (come_kept hs.2.1 (kept_s (by omega) (by omega)))
    have eH : ∀ c, 0 ≤ c → c ≤ 80 → X.1 (14 + c) = s0 (14 + c) := fun c c0 c1 => ((hXk _ (kept_lo (by omega))).trans (come_kept hs.2.1 (kept_lo (by omega)))).trans (hH c c0 c1)
    have hN := nxt_C (k := k) hXs.2.1 eH
    have hnr := nxtM_rng (fr := fdst s0) hXs.2.1
    have hS1 : Sv38 iv1 s0 := by
      intro a c a0 a1 c0 c1
      rw [hf 42 (by decide), hf 43 (by decide)]
      exact hS a c a0 a1 c0 c1
    have hXg := hXI.cel (X.1 (257 + 5 * k + 1)) hXs.2.1.1 hXs.2.1.2
    refine J.iload (q := 34) dX1_passDayOf_32 rfl ?_ rfl
    refine J.iload (q := 36) dX1_passDayOf_34 rfl ?_ rfl
    refine J.icmp_ge (tgt := 75) (q := 39) dX1_passDayOf_36 rfl rfl (fun c36 => ?_) (fun c36 => ?_)
    · 
      first
      | exact passDayOf26_end hD hI hk hfin hR hM hf
      | exact passDayOf26_end hD hI hk (by rw [show (movM X0.1 k).toNat = m by omega]; exact hX) hR hM hf
    · refine J.aload_n (q := 40) dX1_passDayOf_39 rfl ?_ rfl
      refine J.iload_n (q := 41) dX1_passDayOf_40 rfl ?_ rfl
      refine J.iload (q := 43) dX1_passDayOf_41 rfl ?_ rfl
      refine J.callV2i (ci := 4) (q := 46) dX1_passDayOf_43 mv_X4_nextOf kL_X1_88 rfl (by decide) rfl ⟨by decide, by decide⟩ (Nat.le_of_ble_eq_true rfl) ⟨by decide, by decide⟩ rfl (c_nextOf38 hS1 (by omega) (by omega) (by omega)) ?_
      rw [hN]
      refine J.istore (q := 48) dX1_passDayOf_46 (Nat.le_of_ble_eq_true rfl) ?_ rfl
      refine J.iload (q := 50) dX1_passDayOf_48 rfl ?_ rfl
      refine J.iload (q := 52) dX1_passDayOf_50 rfl ?_ rfl
      refine J.icmp_ne (tgt := 58) (q := 55) dX1_passDayOf_52 rfl rfl (fun c52 => ?_) (fun c52 => ?_)
      · have hst : stepM (fdst s0) k X = come (upr X.1 (257 + 5 * k + 1) (nxtM (fdst s0) X.1 k), X.2) (nxtM (fdst s0) X.1 k) (X.1 (257 + 5 * k + 2)) := if_neg c52
        refine J.iload (q := 60) dX1_passDayOf_58 rfl ?_ rfl
        refine J.istore (q := 62) dX1_passDayOf_60 (Nat.le_of_ble_eq_true rfl) ?_ rfl
        refine J.aload_n (q := 63) dX1_passDayOf_62 rfl ?_ rfl
        refine J.iload (q := 65) dX1_passDayOf_63 rfl ?_ rfl
        refine J.iload_n (q := 66) dX1_passDayOf_65 rfl ?_ rfl
        refine J.callV2 (ci := 1) (q := 69) dX1_passDayOf_66 mv_X1_comeUnder kL_X1_84 rfl (by decide) rfl ⟨by decide, by decide⟩ (Nat.le_of_ble_eq_true rfl) ⟨by decide, by decide⟩ rfl (c_comeUnder26 (X := X) (Z := (upr X.1 (257 + 5 * k + 1) (X0.1 (257 + 5 * k + 1)), X.2)) hXI hnr hs.2.2.1 hR hM (upr_n _ _ (by omega)) (upr_n _ _ (by omega))) (fun v9 S9 iv9 hp => ?_)
        obtain ⟨rfl, rfl, d1, d2, d3⟩ := hp
        refine J.iinc (q := 72) dX1_passDayOf_69 rfl ?_ rfl
        refine J.goto (tgt := 32) dX1_passDayOf_72 rfl ?_
        have hX1 : itM (fdst s0) k (m + 1) (come X0 (X0.1 (257 + 5 * k + 1)) (X0.1 (257 + 5 * k + 2))) = come (upr X.1 (257 + 5 * k + 1) (nxtM (fdst s0) X.1 k), X.2) (nxtM (fdst s0) X.1 k) (X.1 (257 + 5 * k + 2)) := by rw [itM, hX, hst]
        have eAT : (come (upr X.1 (257 + 5 * k + 1) (nxtM (fdst s0) X.1 k), X.2) (nxtM (fdst s0) X.1 k) (X.1 (257 + 5 * k + 2))).1 (257 + 5 * k + 1) = nxtM (fdst s0) X.1 k := by rw [come_o (by omega) (by omega)]; exact upr_s _ _ _
        refine J.eql ?_ (ih (m + 1) _ iv9 (some (i_ (nxtM (fdst s0) X.1 k))) (by omega) (by omega) hX1 ?_ ?_ (fun q hq => (d1 q hq).trans (hf q hq)))
        · rw [eAT]; rfl
        · refine d2.cg (fun j j0 j1 => ?_)
          rw [eE]
          exact come_swap (by omega) (by omega)
        · intro c c0 c1
          rw [d3 c c0 c1, eE]
          exact congrFun (come_swap2 (by omega) (by omega)) c
      · have hst : stepM (fdst s0) k X = X := if_pos c52
        have hfin := itM_fix hX hst (movM X0.1 k).toNat (by omega)
        refine J.goto (tgt := 75) dX1_passDayOf_55 rfl ?_
        first
        | exact passDayOf26_end hD hI hk hfin hR hM hf
        | exact passDayOf26_end hD hI hk (by rw [show (movM X0.1 k).toNat = m by omega]; exact hX) hR hM hf

set_option maxRecDepth 100000 in
set_option maxHeartbeats 4000000 in
theorem c_passDayOf26 {l : Launch} {F : Nat × (Int → Int)} {iv : Mm} {D : Int} {s0 : Int → Int} {X0 : P2} (hD : D ≤ 200000) (hS : Sv38 iv s0) (hI : MI D X0.1) {k : Int} (hk : 0 ≤ k ∧ k < X0.1 2) (e2 : X0.1 2 = s0 2) (hH : ∀ c, 0 ≤ c → c ≤ 80 → X0.1 (14 + c) = s0 (14 + c)) (hM0 : RM26 iv X0) : Ctr l F 2 0 0 yX1_passDayOf cX1_passDayOf 8 none [r_ 26, i_ k, r_ 38] S0 (iv) (fun v S iv2 => v = none ∧ S = S0 ∧ (∀ q, (q < 26 ∨ 37 < q) → iv2 q = iv q) ∧ RM26 iv2 (crawl (fdst s0) k X0)) := by
  refine Ctr.of false (fun h => by cases h) (by decide) rfl (Nat.le_of_ble_eq_true rfl) ?_
  have hmm := hI.many
  have hs := hI.sna k (by omega) (by omega)
  have hR := hM0.1
  have hmv := movM_rng (k := k) hI
  refine J.aload_n (q := 1) dX1_passDayOf_0 rfl ?_ rfl
  refine J.getR (ci := 1) (k0 := 7) (c1 := 34) (q := 4) dX1_passDayOf_1 kF_X1_33 rfl (by decide) (by decide) rfl (by decide) rfl ?_ rfl
  refine J.iload_n (q := 5) dX1_passDayOf_4 rfl ?_ rfl
  refine J.iald (n := 8) (q := 6) dX1_passDayOf_5 rfl (by omega) ?_ rfl
  rw [g26_edi hR (by omega) (by omega)]
  refine J.istore_n (q := 7) dX1_passDayOf_6 (Nat.le_of_ble_eq_true rfl) ?_ rfl
  refine J.aload_n (q := 8) dX1_passDayOf_7 rfl ?_ rfl
  refine J.getR (ci := 1) (k0 := 6) (c1 := 33) (q := 11) dX1_passDayOf_8 kF_X1_30 rfl (by decide) (by decide) rfl (by decide) rfl ?_ rfl
  refine J.iload_n (q := 12) dX1_passDayOf_11 rfl ?_ rfl
  refine J.iald (n := 8) (q := 13) dX1_passDayOf_12 rfl (by omega) ?_ rfl
  rw [g26_ats hR (by omega) (by omega)]
  refine J.istore (q := 15) dX1_passDayOf_13 (Nat.le_of_ble_eq_true rfl) ?_ rfl
  refine J.aload_n (q := 16) dX1_passDayOf_15 rfl ?_ rfl
  refine J.iload_n (q := 17) dX1_passDayOf_16 rfl ?_ rfl
  refine J.callV1i (ci := 1) (q := 20) dX1_passDayOf_17 mv_X1_movesOf kL_X1_80 rfl (by decide) rfl ⟨by decide, by decide⟩ (Nat.le_of_ble_eq_true rfl) ⟨by decide, by decide⟩ rfl (c_movesOf26 hD hR hI (by omega)) ?_
  refine J.istore (q := 22) dX1_passDayOf_20 (Nat.le_of_ble_eq_true rfl) ?_ rfl
  refine J.aload_n (q := 23) dX1_passDayOf_22 rfl ?_ rfl
  refine J.iload (q := 25) dX1_passDayOf_23 rfl ?_ rfl
  refine J.iload_n (q := 26) dX1_passDayOf_25 rfl ?_ rfl
  refine J.callV2 (ci := 1) (q := 29) dX1_passDayOf_26 mv_X1_comeUnder kL_X1_84 rfl (by decide) rfl ⟨by decide, by decide⟩ (Nat.le_of_ble_eq_true rfl) ⟨by decide, by decide⟩ rfl (c_comeUnder26 (X := X0) (Z := X0) hI hs.2.1 hs.2.2.1 hR hM0.2 rfl rfl) (fun v9 S9 iv9 hp => ?_)
  obtain ⟨rfl, rfl, d1, d2, d3⟩ := hp
  refine J.iconst (q := 30) dX1_passDayOf_29 ?_ rfl
  refine J.istore (q := 32) dX1_passDayOf_30 (Nat.le_of_ble_eq_true rfl) ?_ rfl
  have eAT : (come X0 (X0.1 (257 + 5 * k + 1)) (X0.1 (257 + 5 * k + 2))).1 (257 + 5 * k + 1) = X0.1 (257 + 5 * k + 1) := come_o (by omega) (by omega)
  refine J.eql ?_ (passDayOf26_loop hD hS hI hk e2 hH 5 0 (come X0 (X0.1 (257 + 5 * k + 1)) (X0.1 (257 + 5 * k + 2))) iv9 none (by omega) (by omega) rfl ?_ d3 d1)
  · rw [eAT]; rfl
  · have e := upr_self (come X0 (X0.1 (257 + 5 * k + 1)) (X0.1 (257 + 5 * k + 2))).1 (257 + 5 * k + 1)
    rw [eAT] at e
    rw [e]
    exact d2

set_option maxRecDepth 100000 in
set_option maxHeartbeats 4000000 in
theorem passDays26_in {l : Launch} {F : Nat × (Int → Int)} {iv : Mm} {D : Int} {s0 : Int → Int} {th : Int → Bool} {z n0 : Int} (hD : D ≤ 200000) (hS : Sv38 iv s0) (hz : 0 ≤ z ∧ z ≤ 255) (hth : ∀ k, 0 ≤ k → k < 8 → ((z / 2 ^ k.toNat % 2 = 1) ↔ th k = true)) {W Y : P2} {e : Int} (K : ∀ (iv2 : Mm) (y5 : Option VT), RM26 iv2 Y → (∀ q, (q < 26 ∨ 37 < q) → iv2 q = iv q) → J l (yX1_passDays).cls cX1_passDays 6 none 3 0 0 false F (fun v S iv2 => v = none ∧ S = S0 ∧ (∀ q, (q < 26 ∨ 37 < q) → iv2 q = iv q) ∧ RM26 iv2 W) 0 0 44 [some (r_ 26), some (r_ 38), some (i_ z), some (i_ n0), some (i_ e), y5] [] S0 iv2) : ∀ (n : Nat) (k : Int) (X : P2) (iv1 : Mm), (8 - k < n) → (0 ≤ k ∧ k ≤ X.1 2) → (MI D X.1) → (X.1 2 = s0 2) → (∀ c, 0 ≤ c → c ≤ 80 → X.1 (14 + c) = s0 (14 + c)) → (RM26 iv1 X) → (∀ q, (q < 26 ∨ 37 < q) → iv1 q = iv q) → (dayL (fdst s0) th n k X = Y) → J l (yX1_passDays).cls cX1_passDays 6 none 3 0 0 false F (fun v S iv2 => v = none ∧ S = S0 ∧ (∀ q, (q < 26 ∨ 37 < q) → iv2 q = iv q) ∧ RM26 iv2 W) 0 0 12 [some (r_ 26), some (r_ 38), some (i_ z), some (i_ n0), some (i_ e), some (i_ k)] [] S0 (iv1) := by
  intro n
  induction n with
  | zero =>
    intro k X iv1 hn hk hI e2 hH hM hf hY
    have := hI.many
    omega
  | succ n ih =>
    intro k X iv1 hn hk hI e2 hH hM hf hY
    have hmm := hI.many
    have hS1 : Sv38 iv1 s0 := by
      intro a c a0 a1 c0 c1
      rw [hf 42 (by decide), hf 43 (by decide)]
      exact hS a c a0 a1 c0 c1
    refine J.iload (q := 14) dX1_passDays_12 rfl ?_ rfl
    refine J.aload_n (q := 15) dX1_passDays_14 rfl ?_ rfl
    refine J.getI (ci := 1) (k0 := 11) (kz := 11) (q := 18) dX1_passDays_15 kF_X1_45 rfl (by decide) (by decide) rfl (.inl rfl) ?_ rfl
    rw [g26_many hM.1]
    refine J.icmp_ge (tgt := 44) (q := 21) dX1_passDays_18 rfl rfl (fun c18 => ?_) (fun c18 => ?_)
    · rw [dayL, if_neg (by omega)] at hY
      subst hY
      exact K iv1 _ hM hf
    · rw [dayL, if_pos (by omega)] at hY
      have hthk := hth k (by omega) (by omega)
      refine J.iload_n (q := 22) dX1_passDays_21 rfl ?_ rfl
      refine J.iload (q := 24) dX1_passDays_22 rfl ?_ rfl
      refine J.ishr (q := 25) (z := z / 2 ^ k.toNat) dX1_passDays_24 (I3_shr (by omega) k.toNat (by omega) (by omega) rfl) ?_ rfl
      refine J.iconst (q := 26) dX1_passDays_25 ?_ rfl
      refine J.iand (q := 27) (z := z / 2 ^ k.toNat % 2) dX1_passDays_26 (I3_and 1 (by decide) rfl rfl) ?_ rfl
      refine J.iconst (q := 28) dX1_passDays_27 ?_ rfl
      refine J.icmp_ne (tgt := 38) (q := 31) (hv := by omega) dX1_passDays_28 rfl rfl (fun c28 => ?_) (fun c28 => ?_)
      · rw [if_neg (fun q => absurd (hthk.mpr q) (by omega))] at hY
        refine J.iinc (q := 41) dX1_passDays_38 rfl ?_ rfl
        refine J.goto (tgt := 12) dX1_passDays_41 rfl ?_
        first
        | exact ih (k + 1) X iv1 (by omega) (by omega) hI e2 hH hM hf hY
        | exact ih (k + 1) _ iv9 (by omega) ⟨by omega, by rw [hXk 2 (kept_lo (by omega))]; omega⟩ hXI (by rw [hXk 2 (kept_lo (by omega))]; exact e2) (fun c c0 c1 => by rw [hXk _ (kept_lo (by omega))]; exact hH c c0 c1) d2 (fun q hq => (d1 q hq).trans (hf q hq)) hY
      · rw [if_pos (hthk.mp (by omega))] at hY
        obtain ⟨hXI, hXk⟩ := crawl_MI (fr := fdst s0) (k := k) hI (by omega)
        refine J.aload_n (q := 32) dX1_passDays_31 rfl ?_ rfl
        refine J.iload (q := 34) dX1_passDays_32 rfl ?_ rfl
        refine J.aload_n (q := 35) dX1_passDays_34 rfl ?_ rfl
        refine J.callV2 (ci := 1) (q := 38) dX1_passDays_35 mv_X1_passDayOf kL_X1_76 rfl (by decide) rfl ⟨by decide, by decide⟩ (Nat.le_of_ble_eq_true rfl) ⟨by decide, by decide⟩ rfl (c_passDayOf26 hD hS1 hI (by omega) e2 hH hM) (fun v9 S9 iv9 hp => ?_)
        obtain ⟨rfl, rfl, d1, d2⟩ := hp
        refine J.iinc (q := 41) dX1_passDays_38 rfl ?_ rfl
        refine J.goto (tgt := 12) dX1_passDays_41 rfl ?_
        first
        | exact ih (k + 1) X iv1 (by omega) (by omega) hI e2 hH hM hf hY
        | exact ih (k + 1) _ iv9 (by omega) ⟨by omega, by rw [hXk 2 (kept_lo (by omega))]; omega⟩ hXI (by rw [hXk 2 (kept_lo (by omega))]; exact e2) (fun c c0 c1 => by rw [hXk _ (kept_lo (by omega))]; exact hH c c0 c1) d2 (fun q hq => (d1 q hq).trans (hf q hq)) hY

set_option maxRecDepth 100000 in
set_option maxHeartbeats 4000000 in
theorem passDays26_loop {l : Launch} {F : Nat × (Int → Int)} {iv : Mm} {D : Int} {s0 : Int → Int} {th : Int → Bool} {z n0 : Int} (hD : D ≤ 200000) (hS : Sv38 iv s0) (hz : 0 ≤ z ∧ z ≤ 255) (hth : ∀ k, 0 ≤ k → k < 8 → ((z / 2 ^ k.toNat % 2 = 1) ↔ th k = true)) {X0 : P2} (hn0 : 0 ≤ n0 ∧ n0 ≤ 101) {D0 : Int} (hD0 : D0 + n0 ≤ D) (hI : MI D0 X0.1) (e2 : X0.1 2 = s0 2) (hH : ∀ c, 0 ≤ c → c ≤ 80 → X0.1 (14 + c) = s0 (14 + c)) : ∀ (n : Nat) (e : Nat) (iv1 : Mm) (y5 : Option VT), (n0 - e < n) → (e ≤ n0) → (RM26 iv1 (dysM (fdst s0) th e X0)) → (∀ q, (q < 26 ∨ 37 < q) → iv1 q = iv q) → J l (yX1_passDays).cls cX1_passDays 6 none 3 0 0 false F (fun v S iv2 => v = none ∧ S = S0 ∧ (∀ q, (q < 26 ∨ 37 < q) → iv2 q = iv q) ∧ RM26 iv2 (dysM (fdst s0) th n0.toNat X0)) 0 0 3 [some (r_ 26), some (r_ 38), some (i_ z), some (i_ n0), some (i_ (e : Int)), y5] [] S0 (iv1) := by
  intro n
  induction n with
  | zero =>
    intro e iv1 y5 hn he hM hf
    omega
  | succ n ih =>
    intro e iv1 y5 hn he hM hf
    obtain ⟨hXI, hX0, hXk⟩ := dysM_MI (fr := fdst s0) (th := th) hI e
    have hXD := hXI.mono (show D0 + e ≤ D by omega)
    have x2 := (hXk 2 (kept_lo (by omega))).trans e2
    have hmm := hXI.many
    refine J.iload (q := 5) dX1_passDays_3 rfl ?_ rfl
    refine J.iload_n (q := 6) dX1_passDays_5 rfl ?_ rfl
    refine J.icmp_ge (tgt := 60) (q := 9) dX1_passDays_6 rfl rfl (fun c6 => ?_) (fun c6 => ?_)
    · refine J.vreturn dX1_passDays_60 rfl ?_
      have hee : n0.toNat = e := by omega
      rw [hee]
      exact ⟨rfl, rfl, hf, hM⟩
    · refine J.iconst (q := 10) dX1_passDays_9 ?_ rfl
      refine J.istore (q := 12) dX1_passDays_10 (Nat.le_of_ble_eq_true rfl) ?_ rfl
      refine passDays26_in hD hS hz hth (Y := dayL (fdst s0) th 9 0 (dysM (fdst s0) th e X0)) (fun iv2 y5 hM2 hf2 => ?_) 9 0 _ iv1 (by omega) (by omega) hXD x2 (fun c c0 c1 => by rw [hXk _ (kept_lo (by omega))]; exact hH c c0 c1) hM hf rfl
      refine J.aload_n (q := 45) dX1_passDays_44 rfl ?_ rfl
      refine J.dup (q := 46) dX1_passDays_45 rfl ?_ rfl
      refine J.getI (ci := 1) (k0 := 14) (kz := 14) (q := 49) dX1_passDays_46 kF_X1_55 rfl (by decide) (by decide) rfl (.inl rfl) ?_ rfl
      rw [g26_day hM2.1]
      refine J.iconst (q := 50) dX1_passDays_49 ?_ rfl
      refine J.iadd (q := 51) dX1_passDays_50 ?_ rfl
      refine J.putI (ci := 1) (k0 := 14) (kz := 14) (q := 54) dX1_passDays_51 kF_X1_55 rfl (by decide) (by decide) rfl rfl rfl ?_ rfl
      refine J.iinc (q := 57) dX1_passDays_54 rfl ?_ rfl
      refine J.goto (tgt := 3) dX1_passDays_57 rfl ?_
      refine ih (e + 1) _ _ (by omega) (by omega) ⟨?_, fun c c0 c1 => ?_⟩ (fun q hq => ?_)
      · exact u26_day hM2.1
      · rw [up_n _ _ _ (by decide)]; exact hM2.2 c c0 c1
      · rw [up_n _ _ _ (by omega)]; exact hf2 q hq

set_option maxRecDepth 100000 in
set_option maxHeartbeats 4000000 in
theorem c_passDays26 {l : Launch} {F : Nat × (Int → Int)} {iv : Mm} {D : Int} {s0 : Int → Int} {th : Int → Bool} {z n0 : Int} (hD : D ≤ 200000) (hS : Sv38 iv s0) (hz : 0 ≤ z ∧ z ≤ 255) (hth : ∀ k, 0 ≤ k → k < 8 → ((z / 2 ^ k.toNat % 2 = 1) ↔ th k = true)) {X0 : P2} (hn0 : 0 ≤ n0 ∧ n0 ≤ 101) {D0 : Int} (hD0 : D0 + n0 ≤ D) (hI : MI D0 X0.1) (e2 : X0.1 2 = s0 2) (hH : ∀ c, 0 ≤ c → c ≤ 80 → X0.1 (14 + c) = s0 (14 + c)) (hM : RM26 iv X0) : Ctr l F 3 0 0 yX1_passDays cX1_passDays 6 none [r_ 26, r_ 38, i_ z, i_ n0] S0 (iv) (fun v S iv2 => v = none ∧ S = S0 ∧ (∀ q, (q < 26 ∨ 37 < q) → iv2 q = iv q) ∧ RM26 iv2 (dysM (fdst s0) th n0.toNat X0)) := by
  refine Ctr.of false (fun h => by cases h) (by decide) rfl (Nat.le_of_ble_eq_true rfl) ?_
  refine J.iconst (q := 1) dX1_passDays_0 ?_ rfl
  refine J.istore (q := 3) dX1_passDays_1 (Nat.le_of_ble_eq_true rfl) ?_ rfl
  exact passDays26_loop hD hS hz hth hn0 hD0 hI e2 hH 102 0 iv none (by omega) (by omega) hM (fun _ _ => rfl)

