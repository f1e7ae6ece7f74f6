/-! the reference: rows, how far, moves (printed by wip/whole/m_model2.py) -/
set_option maxRecDepth 100000 in
set_option maxHeartbeats 4000000 in
theorem setsAside_loop {l : Launch} {F : Nat × (Int → Int)} {iv : Mm} : ∀ (n : Nat) (k : Int) (iv1 : Mm), (307 - k < n) → (0 ≤ k ∧ k ≤ 307) → (∀ q, q ≠ 64 → iv1 q = iv q) → (∀ j, 0 ≤ j → j < k → iv1 64 j = iv 62 j) → (∀ j, (j < 0 ∨ k ≤ j) → iv1 64 j = iv 64 j) → J l (yX6_setsAside).cls cX6_setsAside 2 none 0 0 0 false F (fun v S iv2 => v = none ∧ S = S0 ∧ (∀ q, q ≠ 64 → iv2 q = iv q) ∧ (∀ j, 0 ≤ j → j < 307 → iv2 64 j = iv 62 j) ∧ ∀ j, (j < 0 ∨ 307 ≤ j) → iv2 64 j = iv 64 j) 0 0 2 [some (r_ 61), some (i_ k)] [] S0 (iv1) := by
  intro n
  induction n with
  | zero =>
    intro k iv1 hn hk hfr hcp hre
    omega
  | succ n ih =>
    intro k iv1 hn hk hfr hcp hre
    refine J.iload_n (q := 3) dX6_setsAside_2 rfl ?_ rfl
    refine J.sipush (q := 6) dX6_setsAside_3 (by decide) ?_ rfl
    refine J.icmp_ge (tgt := 27) (q := 9) dX6_setsAside_6 rfl rfl (fun c6 => ?_) (fun c6 => ?_)
    · refine J.vreturn dX6_setsAside_27 rfl ?_
      exact ⟨rfl, rfl, hfr, fun j h0 h1 => hcp j h0 (by omega), fun j h0 => hre j (by omega)⟩
    · refine J.aload_n (q := 10) dX6_setsAside_9 rfl ?_ rfl
      refine J.getR (ci := 6) (k0 := 2) (c1 := 64) (q := 13) dX6_setsAside_10 kF_X6_16 rfl (by decide) (by decide) rfl (by decide) rfl ?_ rfl
      refine J.iload_n (q := 14) dX6_setsAside_13 rfl ?_ rfl
      refine J.aload_n (q := 15) dX6_setsAside_14 rfl ?_ rfl
      refine J.getR (ci := 6) (k0 := 0) (c1 := 62) (q := 18) dX6_setsAside_15 kF_X6_9 rfl (by decide) (by decide) rfl (by decide) rfl ?_ rfl
      refine J.iload_n (q := 19) dX6_setsAside_18 rfl ?_ rfl
      refine J.iald (n := 307) (q := 20) dX6_setsAside_19 rfl (by omega) ?_ rfl
      refine J.iast (n := 307) (q := 21) dX6_setsAside_20 rfl (by omega) ?_ rfl
      refine J.iinc (q := 24) dX6_setsAside_21 rfl ?_ rfl
      refine J.goto (tgt := 2) dX6_setsAside_24 rfl ?_
      refine ih (k + 1) _ (by omega) (by omega) (fun q hq => ?_) (fun j h0 h1 => ?_) (fun j h0 => ?_)
      · rw [up_n _ _ _ hq]; exact hfr q hq
      · rw [up_s]
        by_cases hj : j = k
        · subst hj; rw [upr_s, hfr 62 (by decide)]
        · rw [upr_n _ _ hj]; exact hcp j h0 (by omega)
      · rw [up_s, upr_n _ _ (by omega)]; exact hre j (by omega)
set_option maxRecDepth 100000 in
set_option maxHeartbeats 4000000 in
theorem c_X6_setsAside {l : Launch} {F : Nat × (Int → Int)} {iv : Mm} : Ctr l F 0 0 0 yX6_setsAside cX6_setsAside 2 none [r_ 61] S0 (iv) (fun v S iv2 => v = none ∧ S = S0 ∧ (∀ q, q ≠ 64 → iv2 q = iv q) ∧ (∀ j, 0 ≤ j → j < 307 → iv2 64 j = iv 62 j) ∧ ∀ j, (j < 0 ∨ 307 ≤ j) → iv2 64 j = iv 64 j) := by
  refine Ctr.of false (fun h => by cases h) (by decide) rfl (Nat.le_of_ble_eq_true rfl) ?_
  refine J.iconst (q := 1) dX6_setsAside_0 ?_ rfl
  refine J.istore_n (q := 2) dX6_setsAside_1 (Nat.le_of_ble_eq_true rfl) ?_ rfl
  exact setsAside_loop 308 0 iv (by omega) (by omega) (fun _ _ => rfl) (fun j h0 h1 => by omega) (fun _ _ => rfl)

set_option maxRecDepth 100000 in
set_option maxHeartbeats 4000000 in
theorem laysBack_loop {l : Launch} {F : Nat × (Int → Int)} {iv : Mm} : ∀ (n : Nat) (k : Int) (iv1 : Mm), (307 - k < n) → (0 ≤ k ∧ k ≤ 307) → (∀ q, q ≠ 62 → iv1 q = iv q) → (∀ j, 0 ≤ j → j < k → iv1 62 j = iv 64 j) → (∀ j, (j < 0 ∨ k ≤ j) → iv1 62 j = iv 62 j) → J l (yX6_laysBack).cls cX6_laysBack 2 none 0 0 0 false F (fun v S iv2 => v = none ∧ S = S0 ∧ (∀ q, q ≠ 62 → iv2 q = iv q) ∧ (∀ j, 0 ≤ j → j < 307 → iv2 62 j = iv 64 j) ∧ ∀ j, (j < 0 ∨ 307 ≤ j) → iv2 62 j = iv 62 j) 0 0 2 [some (r_ 61), some (i_ k)] [] S0 (iv1) := by
  intro n
  induction n with
  | zero =>
    intro k iv1 hn hk hfr hcp hre
    omega
  | succ n ih =>
    intro k iv1 hn hk hfr hcp hre
    refine J.iload_n (q := 3) dX6_laysBack_2 rfl ?_ rfl
    refine J.sipush (q := 6) dX6_laysBack_3 (by decide) ?_ rfl
    refine J.icmp_ge (tgt := 27) (q := 9) dX6_laysBack_6 rfl rfl (fun c6 => ?_) (fun c6 => ?_)
    · refine J.vreturn dX6_laysBack_27 rfl ?_
      exact ⟨rfl, rfl, hfr, fun j h0 h1 => hcp j h0 (by omega), fun j h0 => hre j (by omega)⟩
    · refine J.aload_n (q := 10) dX6_laysBack_9 rfl ?_ rfl
      refine J.getR (ci := 6) (k0 := 0) (c1 := 62) (q := 13) dX6_laysBack_10 kF_X6_9 rfl (by decide) (by decide) rfl (by decide) rfl ?_ rfl
      refine J.iload_n (q := 14) dX6_laysBack_13 rfl ?_ rfl
      refine J.aload_n (q := 15) dX6_laysBack_14 rfl ?_ rfl
      refine J.getR (ci := 6) (k0 := 2) (c1 := 64) (q := 18) dX6_laysBack_15 kF_X6_16 rfl (by decide) (by decide) rfl (by decide) rfl ?_ rfl
      refine J.iload_n (q := 19) dX6_laysBack_18 rfl ?_ rfl
      refine J.iald (n := 307) (q := 20) dX6_laysBack_19 rfl (by omega) ?_ rfl
      refine J.iast (n := 307) (q := 21) dX6_laysBack_20 rfl (by omega) ?_ rfl
      refine J.iinc (q := 24) dX6_laysBack_21 rfl ?_ rfl
      refine J.goto (tgt := 2) dX6_laysBack_24 rfl ?_
      refine ih (k + 1) _ (by omega) (by omega) (fun q hq => ?_) (fun j h0 h1 => ?_) (fun j h0 => ?_)
      · rw [up_n _ _ _ hq]; exact hfr q hq
      · rw [up_s]
        by_cases hj : j = k
        · subst hj; rw [upr_s, hfr 64 (by decide)]
        · rw [upr_n _ _ hj]; exact hcp j h0 (by omega)
      · rw [up_s, upr_n _ _ (by omega)]; exact hre j (by omega)
set_option maxRecDepth 100000 in
set_option maxHeartbeats 4000000 in
theorem c_X6_laysBack {l : Launch} {F : Nat × (Int → Int)} {iv : Mm} : Ctr l F 0 0 0 yX6_laysBack cX6_laysBack 2 none [r_ 61] S0 (iv) (fun v S iv2 => v = none ∧ S = S0 ∧ (∀ q, q ≠ 62 → iv2 q = iv q) ∧ (∀ j, 0 ≤ j → j < 307 → iv2 62 j = iv 64 j) ∧ ∀ j, (j < 0 ∨ 307 ≤ j) → iv2 62 j = iv 62 j) := by
  refine Ctr.of false (fun h => by cases h) (by decide) rfl (Nat.le_of_ble_eq_true rfl) ?_
  refine J.iconst (q := 1) dX6_laysBack_0 ?_ rfl
  refine J.istore_n (q := 2) dX6_laysBack_1 (Nat.le_of_ble_eq_true rfl) ?_ rfl
  exact laysBack_loop 308 0 iv (by omega) (by omega) (fun _ _ => rfl) (fun j h0 h1 => by omega) (fun _ _ => rfl)

set_option maxRecDepth 100000 in
set_option maxHeartbeats 4000000 in
theorem barsHedges_loop {l : Launch} {F : Nat × (Int → Int)} {iv : Mm} (hg : ∀ c, 0 ≤ c → c ≤ 80 → 0 ≤ iv 62 (14 + c) ∧ iv 62 (14 + c) ≤ 1) : ∀ (n : Nat) (k : Int) (iv1 : Mm), (81 - k < n) → (0 ≤ k ∧ k ≤ 81) → (∀ q, q ≠ 68 → iv1 q = iv q) → (∀ j, 0 ≤ j → j < k → iv1 68 j = b2 (iv 62 (14 + j) = 1)) → J l (yX6_barsHedges).cls cX6_barsHedges 2 none 1 0 0 false F (fun v S iv2 => v = none ∧ S = S0 ∧ (∀ q, q ≠ 68 → iv2 q = iv q) ∧ ∀ j, 0 ≤ j → j < 81 → iv2 68 j = b2 (iv 62 (14 + j) = 1)) 0 0 2 [some (r_ 61), some (i_ k)] [] S0 (iv1) := by
  intro n
  induction n with
  | zero =>
    intro k iv1 hn hk hfr hcp
    omega
  | succ n ih =>
    intro k iv1 hn hk hfr hcp
    refine J.iload_n (q := 3) dX6_barsHedges_2 rfl ?_ rfl
    refine J.bipush (q := 5) dX6_barsHedges_3 (by decide) ?_ rfl
    refine J.icmp_ge (tgt := 25) (q := 8) dX6_barsHedges_5 rfl rfl (fun c5 => ?_) (fun c5 => ?_)
    · refine J.vreturn dX6_barsHedges_25 rfl ?_
      exact ⟨rfl, rfl, hfr, fun j h0 h1 => hcp j h0 (by omega)⟩
    · refine J.aload_n (q := 9) dX6_barsHedges_8 rfl ?_ rfl
      refine J.getR (ci := 6) (k0 := 7) (c1 := 68) (q := 12) dX6_barsHedges_9 kF_X6_28 rfl (by decide) (by decide) rfl (by decide) rfl ?_ rfl
      refine J.iload_n (q := 13) dX6_barsHedges_12 rfl ?_ rfl
      refine J.aload_n (q := 14) dX6_barsHedges_13 rfl ?_ rfl
      refine J.iload_n (q := 15) dX6_barsHedges_14 rfl ?_ rfl
      have hgk := hg k (by omega) (by omega)
      have e62 := hfr 62 (by decide)
      refine J.callV1i (ci := 6) (q := 18) dX6_barsHedges_15 mv_X6_isHedge kL_X6_69 rfl (by decide) rfl ⟨by decide, by decide⟩ (Nat.le_of_ble_eq_true rfl) ⟨by decide, by decide⟩ rfl (c_X6_isHedge (by omega) (by rw [e62]; omega)) ?_
      refine J.zast (n := 81) (q := 19) dX6_barsHedges_18 rfl (by omega) b2_01 ?_ rfl
      refine J.iinc (q := 22) dX6_barsHedges_19 rfl ?_ rfl
      refine J.goto (tgt := 2) dX6_barsHedges_22 rfl ?_
      refine ih (k + 1) _ (by omega) (by omega) (fun q hq => ?_) (fun j h0 h1 => ?_)
      · rw [up_n _ _ _ hq]; exact hfr q hq
      · rw [up_s]
        by_cases hj : j = k
        · subst hj; rw [upr_s, hfr 62 (by decide)]
        · rw [upr_n _ _ hj]; exact hcp j h0 (by omega)

set_option maxRecDepth 100000 in
set_option maxHeartbeats 4000000 in
theorem c_X6_barsHedges {l : Launch} {F : Nat × (Int → Int)} {iv : Mm} (hg : ∀ c, 0 ≤ c → c ≤ 80 → 0 ≤ iv 62 (14 + c) ∧ iv 62 (14 + c) ≤ 1) : Ctr l F 1 0 0 yX6_barsHedges cX6_barsHedges 2 none [r_ 61] S0 (iv) (fun v S iv2 => v = none ∧ S = S0 ∧ (∀ q, q ≠ 68 → iv2 q = iv q) ∧ ∀ j, 0 ≤ j → j < 81 → iv2 68 j = b2 (iv 62 (14 + j) = 1)) := by
  refine Ctr.of false (fun h => by cases h) (by decide) rfl (Nat.le_of_ble_eq_true rfl) ?_
  refine J.iconst (q := 1) dX6_barsHedges_0 ?_ rfl
  refine J.istore_n (q := 2) dX6_barsHedges_1 (Nat.le_of_ble_eq_true rfl) ?_ rfl
  exact barsHedges_loop hg 82 0 iv (by omega) (by omega) (fun _ _ => rfl) (fun j h0 h1 => by omega)

/-- the rows hold a search under way -/
def RB (iv iv1 : Mm) (base : Int) (T : T3) : Prop := (∀ q, q ≠ 66 → q ≠ 67 → iv1 q = iv q) ∧ (∀ c, 0 ≤ c → c < 81 → iv1 66 (base + c) = T.1 c) ∧ (∀ j, (j < base ∨ base + 81 ≤ j) → iv1 66 j = iv 66 j) ∧ ∀ j, 0 ≤ j → j < T.2.2 → iv1 67 j = T.2.1 j
set_option maxRecDepth 100000 in
set_option maxHeartbeats 4000000 in
theorem spreads_fill {l : Launch} {F : Nat × (Int → Int)} {iv : Mm} {op : Int → Bool} {fr base : Int} (hf : 0 ≤ fr ∧ fr ≤ 80) (hb : 0 ≤ base ∧ base ≤ 648) (hbar : ∀ c, 0 ≤ c → c < 81 → iv 68 c = (if op c = true then 0 else 1)) : ∀ (n : Nat) (k : Int) (iv1 : Mm), (81 - k < n) → (0 ≤ k ∧ k ≤ 81) → (∀ q, q ≠ 66 → iv1 q = iv q) → (∀ j, 0 ≤ j → j < k → iv1 66 (base + j) = 99) → (∀ j, (j < base ∨ base + 81 ≤ j) → iv1 66 j = iv 66 j) → (∀ iv2 : Mm, (∀ q, q ≠ 66 → iv2 q = iv q) → (∀ j, 0 ≤ j → j < 81 → iv2 66 (base + j) = 99) → (∀ j, (j < base ∨ base + 81 ≤ j) → iv2 66 j = iv 66 j) → J l (yX6_spreads).cls cX6_spreads 7 none 1 0 0 false F (fun v S iv2 => v = none ∧ S = S0 ∧ (∀ q, q ≠ 66 → q ≠ 67 → iv2 q = iv q) ∧ (∀ c, 0 ≤ c → c < 81 → iv2 66 (base + c) = dst op fr c) ∧ ∀ j, (j < base ∨ base + 81 ≤ j) → iv2 66 j = iv 66 j) 0 0 24 [some (r_ 61), some (i_ fr), some (i_ base), some (i_ 81), none, none, none] [] S0 (iv2)) → J l (yX6_spreads).cls cX6_spreads 7 none 1 0 0 false F (fun v S iv2 => v = none ∧ S = S0 ∧ (∀ q, q ≠ 66 → q ≠ 67 → iv2 q = iv q) ∧ (∀ c, 0 ≤ c → c < 81 → iv2 66 (base + c) = dst op fr c) ∧ ∀ j, (j < base ∨ base + 81 ≤ j) → iv2 66 j = iv 66 j) 0 0 2 [some (r_ 61), some (i_ fr), some (i_ base), some (i_ k), none, none, none] [] S0 (iv1) := by
  intro n
  induction n with
  | zero =>
    intro k iv1 hn hk hfr hcp hre K
    omega
  | succ n ih =>
    intro k iv1 hn hk hfr hcp hre K
    refine J.iload_n (q := 3) dX6_spreads_2 rfl ?_ rfl
    refine J.bipush (q := 5) dX6_spreads_3 (by decide) ?_ rfl
    refine J.icmp_ge (tgt := 24) (q := 8) dX6_spreads_5 rfl rfl (fun c5 => ?_) (fun c5 => ?_)
    · have hk81 : k = 81 := by omega
      subst hk81
      exact K iv1 hfr hcp hre
    · refine J.aload_n (q := 9) dX6_spreads_8 rfl ?_ rfl
      refine J.getR (ci := 6) (k0 := 5) (c1 := 66) (q := 12) dX6_spreads_9 kF_X6_22 rfl (by decide) (by decide) rfl (by decide) rfl ?_ rfl
      refine J.iload_n (q := 13) dX6_spreads_12 rfl ?_ rfl
      refine J.iload_n (q := 14) dX6_spreads_13 rfl ?_ rfl
      refine J.iadd (q := 15) dX6_spreads_14 ?_ rfl
      refine J.bipush (q := 17) dX6_spreads_15 (by decide) ?_ rfl
      refine J.iast (n := 729) (q := 18) dX6_spreads_17 rfl (by omega) ?_ rfl
      refine J.iinc (q := 21) dX6_spreads_18 rfl ?_ rfl
      refine J.goto (tgt := 2) dX6_spreads_21 rfl ?_
      refine ih (k + 1) _ (by omega) (by omega) (fun q hq => ?_) (fun j h0 h1 => ?_) (fun j h0 => ?_) K
      · rw [up_n _ _ _ hq]; exact hfr q hq
      · rw [up_s]
        by_cases hj : j = k
        · subst hj; rw [upr_s]
        · rw [upr_n _ _ (by omega)]; exact hcp j h0 (by omega)
      · rw [up_s, upr_n _ _ (by omega)]; exact hre j h0

set_option maxRecDepth 100000 in
set_option maxHeartbeats 4000000 in
theorem spreads_w {l : Launch} {F : Nat × (Int → Int)} {iv : Mm} {op : Int → Bool} {fr base : Int} (hf : 0 ≤ fr ∧ fr ≤ 80) (hb : 0 ≤ base ∧ base ≤ 648) (hbar : ∀ c, 0 ≤ c → c < 81 → iv 68 c = (if op c = true then 0 else 1)) {T : T3} {i w : Int} {x6 : Option VT} {iv1 : Mm} (hT : BI T) (hi : 0 ≤ i ∧ i < T.2.2) (hw : 0 ≤ w ∧ w ≤ 3) (hR : RB iv iv1 base T) (K : ∀ (iv2 : Mm) (y6 : Option VT), RB iv iv2 base (rlx op i w T) → J l (yX6_spreads).cls cX6_spreads 7 none 1 0 0 false F (fun v S iv2 => v = none ∧ S = S0 ∧ (∀ q, q ≠ 66 → q ≠ 67 → iv2 q = iv q) ∧ (∀ c, 0 ≤ c → c < 81 → iv2 66 (base + c) = dst op fr c) ∧ ∀ j, (j < base ∨ base + 81 ≤ j) → iv2 66 j = iv 66 j) 0 0 65 [some (r_ 61), some (i_ fr), some (i_ base), some (i_ (rlx op i w T).2.2), some (i_ i), some (i_ (w + 1)), y6] [] S0 (iv2)) : J l (yX6_spreads).cls cX6_spreads 7 none 1 0 0 false F (fun v S iv2 => v = none ∧ S = S0 ∧ (∀ q, q ≠ 66 → q ≠ 67 → iv2 q = iv q) ∧ (∀ c, 0 ≤ c → c < 81 → iv2 66 (base + c) = dst op fr c) ∧ ∀ j, (j < base ∨ base + 81 ≤ j) → iv2 66 j = iv 66 j) 0 0 65 [some (r_ 61), some (i_ fr), some (i_ base), some (i_ T.2.2), some (i_ i), some (i_ w), x6] [] S0 (iv1) := by
  refine J.iload (q := 67) dX6_spreads_65 rfl ?_ rfl
  refine J.iconst (q := 68) dX6_spreads_67 ?_ rfl
  obtain ⟨h1, h2, h3, h4⟩ := id hR
  have hm := hT.m
  have hoi := hT.2.1 i hi.1 hi.2
  have e67 := h4 i hi.1 hi.2
  have hbr := besM_rng (w := w) hoi.1
  refine J.icmp_ge (tgt := 156) (q := 71) dX6_spreads_68 rfl rfl (fun c => absurd c (by omega)) (fun c68 => ?_)
  refine J.aload_n (q := 72) dX6_spreads_71 rfl ?_ rfl
  refine J.getR (ci := 6) (k0 := 6) (c1 := 67) (q := 75) dX6_spreads_72 kF_X6_25 rfl (by decide) (by decide) rfl (by decide) rfl ?_ rfl
  refine J.iload (q := 77) dX6_spreads_75 rfl ?_ rfl
  refine J.iald (n := 81) (q := 78) dX6_spreads_77 rfl (by omega) ?_ rfl
  refine J.iload (q := 80) dX6_spreads_78 rfl ?_ rfl
  rw [e67]
  refine J.callS2i (q := 83) dX6_spreads_80 mv_X6_beside kS_X6_beside kL_X6_65 ⟨by decide, by decide⟩ (Nat.le_of_ble_eq_true rfl) ⟨by decide, by decide⟩ rfl (c_X6_beside (by omega) (by omega)) ?_
  refine J.istore (q := 85) dX6_spreads_83 (Nat.le_of_ble_eq_true rfl) ?_ rfl
  refine J.iload (q := 87) dX6_spreads_85 rfl ?_ rfl
  refine J.if_lt (tgt := 150) (q := 90) dX6_spreads_87 rfl rfl (fun c87 => ?_) (fun c87 => ?_)
  · have hrl : rlx op i w T = T := if_neg (fun z => by omega)
    refine J.iinc (q := 153) dX6_spreads_150 rfl ?_ rfl
    refine J.goto (tgt := 65) dX6_spreads_153 rfl ?_
    first
    | (rw [hrl] at K; exact K iv1 _ hR)
    | (refine K _ (some (i_ (besM (T.2.1 i) w))) ?_ |> fun z => J.eql (by rw [hrl]; rfl) z
       rw [hrl]
       refine ⟨fun q z1 z2 => ?_, fun c z1 z2 => ?_, fun j z1 => ?_, fun j z1 z2 => ?_⟩
       · rw [up_n _ _ _ z2, up_n _ _ _ z1]; exact h1 q z1 z2
       · rw [up_n _ _ _ (by decide), up_s]
         show _ = upr _ _ _ c
         by_cases hc : c = besM (T.2.1 i) w
         · subst hc; rw [upr_s, upr_s]
         · rw [upr_n _ _ (by omega), upr_n _ _ hc]; exact h2 c z1 z2
       · rw [up_n _ _ _ (by decide), up_s, upr_n _ _ (by omega)]; exact h3 j z1
       · rw [up_s, up_n _ _ _ (by decide)]
         show _ = upr _ _ _ j
         have z2 : j < T.2.2 + 1 := z2
         by_cases hj : j = T.2.2
         · subst hj; rw [upr_s, upr_s]
         · rw [upr_n _ _ hj, upr_n _ _ hj]; exact h4 j z1 (by omega))
  · refine J.aload_n (q := 91) dX6_spreads_90 rfl ?_ rfl
    refine J.getR (ci := 6) (k0 := 7) (c1 := 68) (q := 94) dX6_spreads_91 kF_X6_28 rfl (by decide) (by decide) rfl (by decide) rfl ?_ rfl
    refine J.iload (q := 96) dX6_spreads_94 rfl ?_ rfl
    refine J.zald (n := 81) (q := 97) dX6_spreads_96 rfl (by omega) ?_ rfl
    have e68 := hbar (besM (T.2.1 i) w) (by omega) (by omega)
    rw [← h1 68 (by decide) (by decide)] at e68
    rw [e68]
    refine J.if_ne (tgt := 150) (q := 100) (hv := by split <;> omega) dX6_spreads_97 rfl rfl (fun c97 => ?_) (fun c97 => ?_)
    · have hrl : rlx op i w T = T := if_neg (fun z => c97 (if_pos z.2.1))
      refine J.iinc (q := 153) dX6_spreads_150 rfl ?_ rfl
      refine J.goto (tgt := 65) dX6_spreads_153 rfl ?_
      first
      | (rw [hrl] at K; exact K iv1 _ hR)
      | (refine K _ (some (i_ (besM (T.2.1 i) w))) ?_ |> fun z => J.eql (by rw [hrl]; rfl) z
         rw [hrl]
         refine ⟨fun q z1 z2 => ?_, fun c z1 z2 => ?_, fun j z1 => ?_, fun j z1 z2 => ?_⟩
         · rw [up_n _ _ _ z2, up_n _ _ _ z1]; exact h1 q z1 z2
         · rw [up_n _ _ _ (by decide), up_s]
           show _ = upr _ _ _ c
           by_cases hc : c = besM (T.2.1 i) w
           · subst hc; rw [upr_s, upr_s]
           · rw [upr_n _ _ (by omega), upr_n _ _ hc]; exact h2 c z1 z2
         · rw [up_n _ _ _ (by decide), up_s, upr_n _ _ (by omega)]; exact h3 j z1
         · rw [up_s, up_n _ _ _ (by decide)]
           show _ = upr _ _ _ j
           have z2 : j < T.2.2 + 1 := z2
           by_cases hj : j = T.2.2
           · subst hj; rw [upr_s, upr_s]
           · rw [upr_n _ _ hj, upr_n _ _ hj]; exact h4 j z1 (by omega))
    · have hop : op (besM (T.2.1 i) w) = true := by
        by_cases z : op (besM (T.2.1 i) w) = true
        · exact z
        · rw [if_neg z] at c97; omega
      refine J.aload_n (q := 101) dX6_spreads_100 rfl ?_ rfl
      refine J.getR (ci := 6) (k0 := 5) (c1 := 66) (q := 104) dX6_spreads_101 kF_X6_22 rfl (by decide) (by decide) rfl (by decide) rfl ?_ rfl
      refine J.iload_n (q := 105) dX6_spreads_104 rfl ?_ rfl
      refine J.iload (q := 107) dX6_spreads_105 rfl ?_ rfl
      refine J.iadd (q := 108) dX6_spreads_107 ?_ rfl
      refine J.iald (n := 729) (q := 109) dX6_spreads_108 rfl (by omega) ?_ rfl
      refine J.bipush (q := 111) dX6_spreads_109 (by decide) ?_ rfl
      rw [h2 _ (by omega) (by omega)]
      have hfc := hT.2.2 (besM (T.2.1 i) w)
      refine J.icmp_ne (tgt := 150) (q := 114) dX6_spreads_111 rfl rfl (fun c111 => ?_) (fun c111 => ?_)
      · have hrl : rlx op i w T = T := if_neg (fun z => c111 z.2.2)
        refine J.iinc (q := 153) dX6_spreads_150 rfl ?_ rfl
        refine J.goto (tgt := 65) dX6_spreads_153 rfl ?_
        first
        | (rw [hrl] at K; exact K iv1 _ hR)
        | (refine K _ (some (i_ (besM (T.2.1 i) w))) ?_ |> fun z => J.eql (by rw [hrl]; rfl) z
           rw [hrl]
           refine ⟨fun q z1 z2 => ?_, fun c z1 z2 => ?_, fun j z1 => ?_, fun j z1 z2 => ?_⟩
           · rw [up_n _ _ _ z2, up_n _ _ _ z1]; exact h1 q z1 z2
           · rw [up_n _ _ _ (by decide), up_s]
             show _ = upr _ _ _ c
             by_cases hc : c = besM (T.2.1 i) w
             · subst hc; rw [upr_s, upr_s]
             · rw [upr_n _ _ (by omega), upr_n _ _ hc]; exact h2 c z1 z2
           · rw [up_n _ _ _ (by decide), up_s, upr_n _ _ (by omega)]; exact h3 j z1
           · rw [up_s, up_n _ _ _ (by decide)]
             show _ = upr _ _ _ j
             have z2 : j < T.2.2 + 1 := z2
             by_cases hj : j = T.2.2
             · subst hj; rw [upr_s, upr_s]
             · rw [upr_n _ _ hj, upr_n _ _ hj]; exact h4 j z1 (by omega))
      · have hrl : rlx op i w T = (upr T.1 (besM (T.2.1 i) w) (T.1 (T.2.1 i) + 1), upr T.2.1 T.2.2 (besM (T.2.1 i) w), T.2.2 + 1) := if_pos ⟨by omega, hop, c111⟩
        have hm81 := cnt_lt T.1 (besM (T.2.1 i) w) c111 81 (by omega)
        rw [← hT.1] at hm81
        refine J.aload_n (q := 115) dX6_spreads_114 rfl ?_ rfl
        refine J.getR (ci := 6) (k0 := 5) (c1 := 66) (q := 118) dX6_spreads_115 kF_X6_22 rfl (by decide) (by decide) rfl (by decide) rfl ?_ rfl
        refine J.iload_n (q := 119) dX6_spreads_118 rfl ?_ rfl
        refine J.iload (q := 121) dX6_spreads_119 rfl ?_ rfl
        refine J.iadd (q := 122) dX6_spreads_121 ?_ rfl
        refine J.aload_n (q := 123) dX6_spreads_122 rfl ?_ rfl
        refine J.getR (ci := 6) (k0 := 5) (c1 := 66) (q := 126) dX6_spreads_123 kF_X6_22 rfl (by decide) (by decide) rfl (by decide) rfl ?_ rfl
        refine J.iload_n (q := 127) dX6_spreads_126 rfl ?_ rfl
        refine J.aload_n (q := 128) dX6_spreads_127 rfl ?_ rfl
        refine J.getR (ci := 6) (k0 := 6) (c1 := 67) (q := 131) dX6_spreads_128 kF_X6_25 rfl (by decide) (by decide) rfl (by decide) rfl ?_ rfl
        refine J.iload (q := 133) dX6_spreads_131 rfl ?_ rfl
        refine J.iald (n := 81) (q := 134) dX6_spreads_133 rfl (by omega) ?_ rfl
        refine J.iadd (q := 135) dX6_spreads_134 ?_ rfl
        rw [e67]
        refine J.iald (n := 729) (q := 136) dX6_spreads_135 rfl (by omega) ?_ rfl
        rw [h2 _ (by omega) (by omega)]
        refine J.iconst (q := 137) dX6_spreads_136 ?_ rfl
        refine J.iadd (q := 138) dX6_spreads_137 ?_ rfl
        refine J.iast (n := 729) (q := 139) dX6_spreads_138 rfl (by omega) ?_ rfl
        refine J.aload_n (q := 140) dX6_spreads_139 rfl ?_ rfl
        refine J.getR (ci := 6) (k0 := 6) (c1 := 67) (q := 143) dX6_spreads_140 kF_X6_25 rfl (by decide) (by decide) rfl (by decide) rfl ?_ rfl
        refine J.iload_n (q := 144) dX6_spreads_143 rfl ?_ rfl
        refine J.iload (q := 146) dX6_spreads_144 rfl ?_ rfl
        refine J.iast (n := 81) (q := 147) dX6_spreads_146 rfl (by omega) ?_ rfl
        refine J.iinc (q := 150) dX6_spreads_147 rfl ?_ rfl
        refine J.iinc (q := 153) dX6_spreads_150 rfl ?_ rfl
        refine J.goto (tgt := 65) dX6_spreads_153 rfl ?_
        first
        | (rw [hrl] at K; exact K iv1 _ hR)
        | (refine K _ (some (i_ (besM (T.2.1 i) w))) ?_ |> fun z => J.eql (by rw [hrl]; rfl) z
           rw [hrl]
           refine ⟨fun q z1 z2 => ?_, fun c z1 z2 => ?_, fun j z1 => ?_, fun j z1 z2 => ?_⟩
           · rw [up_n _ _ _ z2, up_n _ _ _ z1]; exact h1 q z1 z2
           · rw [up_n _ _ _ (by decide), up_s]
             show _ = upr _ _ _ c
             by_cases hc : c = besM (T.2.1 i) w
             · subst hc; rw [upr_s, upr_s]
             · rw [upr_n _ _ (by omega), upr_n _ _ hc]; exact h2 c z1 z2
           · rw [up_n _ _ _ (by decide), up_s, upr_n _ _ (by omega)]; exact h3 j z1
           · rw [up_s, up_n _ _ _ (by decide)]
             show _ = upr _ _ _ j
             have z2 : j < T.2.2 + 1 := z2
             by_cases hj : j = T.2.2
             · subst hj; rw [upr_s, upr_s]
             · rw [upr_n _ _ hj, upr_n _ _ hj]; exact h4 j z1 (by omega))

set_option maxRecDepth 100000 in
set_option maxHeartbeats 4000000 in
theorem spreads_vis {l : Launch} {F : Nat × (Int → Int)} {iv : Mm} {op : Int → Bool} {fr base : Int} (hf : 0 ≤ fr ∧ fr ≤ 80) (hb : 0 ≤ base ∧ base ≤ 648) (hbar : ∀ c, 0 ≤ c → c < 81 → iv 68 c = (if op c = true then 0 else 1)) {T : T3} {i : Int} {x5 x6 : Option VT} {iv1 : Mm} (hT : BI T) (hi : 0 ≤ i ∧ i < T.2.2) (hR : RB iv iv1 base T) (K : ∀ (iv2 : Mm) (y5 y6 : Option VT), RB iv iv2 base (vis op i T) → J l (yX6_spreads).cls cX6_spreads 7 none 1 0 0 false F (fun v S iv2 => v = none ∧ S = S0 ∧ (∀ q, q ≠ 66 → q ≠ 67 → iv2 q = iv q) ∧ (∀ c, 0 ≤ c → c < 81 → iv2 66 (base + c) = dst op fr c) ∧ ∀ j, (j < base ∨ base + 81 ≤ j) → iv2 66 j = iv 66 j) 0 0 156 [some (r_ 61), some (i_ fr), some (i_ base), some (i_ (vis op i T).2.2), some (i_ i), y5, y6] [] S0 (iv2)) : J l (yX6_spreads).cls cX6_spreads 7 none 1 0 0 false F (fun v S iv2 => v = none ∧ S = S0 ∧ (∀ q, q ≠ 66 → q ≠ 67 → iv2 q = iv q) ∧ (∀ c, 0 ≤ c → c < 81 → iv2 66 (base + c) = dst op fr c) ∧ ∀ j, (j < base ∨ base + 81 ≤ j) → iv2 66 j = iv 66 j) 0 0 62 [some (r_ 61), some (i_ fr), some (i_ base), some (i_ T.2.2), some (i_ i), x5, x6] [] S0 (iv1) := by
  obtain ⟨a1, b1, -, -⟩ := rlx_BI (op := op) (w := 0) hT hi
  obtain ⟨a2, b2, -, -⟩ := rlx_BI (op := op) (w := 1) a1 (i := i) (by omega)
  obtain ⟨a3, b3, -, -⟩ := rlx_BI (op := op) (w := 2) a2 (i := i) (by omega)
  obtain ⟨a4, b4, -, -⟩ := rlx_BI (op := op) (w := 3) a3 (i := i) (by omega)
  refine J.iconst (q := 63) dX6_spreads_62 ?_ rfl
  refine J.istore (q := 65) dX6_spreads_63 (Nat.le_of_ble_eq_true rfl) ?_ rfl
  refine spreads_w hf hb hbar (T := T) (i := i) (w := 0) hT hi (by omega) hR (fun iv2 y6 hR2 => ?_)
  refine spreads_w hf hb hbar (T := rlx op i 0 T) (i := i) (w := 1) a1 (by omega) (by omega) hR2 (fun iv3 y6 hR3 => ?_)
  refine spreads_w hf hb hbar (T := rlx op i 1 (rlx op i 0 T)) (i := i) (w := 2) a2 (by omega) (by omega) hR3 (fun iv4 y6 hR4 => ?_)
  refine spreads_w hf hb hbar (T := rlx op i 2 (rlx op i 1 (rlx op i 0 T))) (i := i) (w := 3) a3 (by omega) (by omega) hR4 (fun iv5 y6 hR5 => ?_)
  refine J.iload (q := 67) dX6_spreads_65 rfl ?_ rfl
  refine J.iconst (q := 68) dX6_spreads_67 ?_ rfl
  refine J.icmp_ge (tgt := 156) (q := 71) dX6_spreads_68 rfl rfl (fun c68 => ?_) (fun c => absurd c (by omega))
  exact K iv5 _ _ hR5

set_option maxRecDepth 100000 in
set_option maxHeartbeats 4000000 in
theorem spreads_loop {l : Launch} {F : Nat × (Int → Int)} {iv : Mm} {op : Int → Bool} {fr base : Int} (hf : 0 ≤ fr ∧ fr ≤ 80) (hb : 0 ≤ base ∧ base ≤ 648) (hbar : ∀ c, 0 ≤ c → c < 81 → iv 68 c = (if op c = true then 0 else 1)) : ∀ (n : Nat) (i : Int) (T : T3) (iv1 : Mm) (y5 : Option VT) (y6 : Option VT), (81 - i < n) → (BI T) → (0 ≤ i ∧ i ≤ T.2.2) → (RB iv iv1 base T) → ((bfsL op n i T).1 = dst op fr) → J l (yX6_spreads).cls cX6_spreads 7 none 1 0 0 false F (fun v S iv2 => v = none ∧ S = S0 ∧ (∀ q, q ≠ 66 → q ≠ 67 → iv2 q = iv q) ∧ (∀ c, 0 ≤ c → c < 81 → iv2 66 (base + c) = dst op fr c) ∧ ∀ j, (j < base ∨ base + 81 ≤ j) → iv2 66 j = iv 66 j) 0 0 56 [some (r_ 61), some (i_ fr), some (i_ base), some (i_ T.2.2), some (i_ i), y5, y6] [] S0 (iv1) := by
  intro n
  induction n with
  | zero =>
    intro i T iv1 y5 y6 hn hT hi hR hB
    have := hT.m
    omega
  | succ n ih =>
    intro i T iv1 y5 y6 hn hT hi hR hB
    have hm := hT.m
    refine J.iload (q := 58) dX6_spreads_56 rfl ?_ rfl
    refine J.iload_n (q := 59) dX6_spreads_58 rfl ?_ rfl
    refine J.icmp_ge (tgt := 162) (q := 62) dX6_spreads_59 rfl rfl (fun c59 => ?_) (fun c59 => ?_)
    · refine J.vreturn dX6_spreads_162 rfl ?_
      rw [bfsL, if_neg (by omega)] at hB
      obtain ⟨h1, h2, h3, h4⟩ := hR
      exact ⟨rfl, rfl, h1, fun c z1 z2 => by rw [h2 c z1 z2, hB], h3⟩
    · have hlt : i < T.2.2 := by omega
      obtain ⟨hv1, hv2, -, -⟩ := vis_BI (op := op) hT ⟨hi.1, hlt⟩
      rw [bfsL, if_pos hlt] at hB
      refine spreads_vis hf hb hbar hT ⟨hi.1, hlt⟩ hR (fun iv2 z5 z6 hR2 => ?_)
      refine J.iinc (q := 159) dX6_spreads_156 rfl ?_ rfl
      refine J.goto (tgt := 56) dX6_spreads_159 rfl ?_
      exact ih (i + 1) (vis op i T) iv2 z5 z6 (by omega) hv1 (by omega) hR2 hB

set_option maxRecDepth 100000 in
set_option maxHeartbeats 4000000 in
theorem c_X6_spreads {l : Launch} {F : Nat × (Int → Int)} {iv : Mm} {op : Int → Bool} {fr base : Int} (hf : 0 ≤ fr ∧ fr ≤ 80) (hb : 0 ≤ base ∧ base ≤ 648) (hbar : ∀ c, 0 ≤ c → c < 81 → iv 68 c = (if op c = true then 0 else 1)) : Ctr l F 1 0 0 yX6_spreads cX6_spreads 7 none [r_ 61, i_ fr, i_ base] S0 (iv) (fun v S iv2 => v = none ∧ S = S0 ∧ (∀ q, q ≠ 66 → q ≠ 67 → iv2 q = iv q) ∧ (∀ c, 0 ≤ c → c < 81 → iv2 66 (base + c) = dst op fr c) ∧ ∀ j, (j < base ∨ base + 81 ≤ j) → iv2 66 j = iv 66 j) := by
  refine Ctr.of false (fun h => by cases h) (by decide) rfl (Nat.le_of_ble_eq_true rfl) ?_
  refine J.iconst (q := 1) dX6_spreads_0 ?_ rfl
  refine J.istore_n (q := 2) dX6_spreads_1 (Nat.le_of_ble_eq_true rfl) ?_ rfl
  refine spreads_fill hf hb hbar 82 0 iv (by omega) (by omega) (fun _ _ => rfl) (fun j h0 h1 => by omega) (fun _ _ => rfl) (fun iv2 h1 h2 h3 => ?_)
  refine J.iconst (q := 25) dX6_spreads_24 ?_ rfl
  refine J.istore_n (q := 26) dX6_spreads_25 (Nat.le_of_ble_eq_true rfl) ?_ rfl
  refine J.aload_n (q := 27) dX6_spreads_26 rfl ?_ rfl
  refine J.getR (ci := 6) (k0 := 7) (c1 := 68) (q := 30) dX6_spreads_27 kF_X6_28 rfl (by decide) (by decide) rfl (by decide) rfl ?_ rfl
  refine J.iload_n (q := 31) dX6_spreads_30 rfl ?_ rfl
  refine J.zald (n := 81) (q := 32) dX6_spreads_31 rfl (by omega) ?_ rfl
  have e68 := hbar fr (by omega) (by omega)
  rw [← h1 68 (by decide)] at e68
  rw [e68]
  refine J.if_ne (tgt := 53) (q := 35) (hv := by split <;> omega) dX6_spreads_32 rfl rfl (fun c32 => ?_) (fun c32 => ?_)
  · have hb0 : bfs0 op fr = (fun _ => 99, fun _ => 0, 0) := if_neg (fun z => c32 (if_pos z))
    refine J.iconst (q := 54) dX6_spreads_53 ?_ rfl
    refine J.istore (q := 56) dX6_spreads_54 (Nat.le_of_ble_eq_true rfl) ?_ rfl
    refine spreads_loop hf hb hbar 82 0 (bfs0 op fr) _ _ _ (by omega) (bfs0_BI hf) (by have := (bfs0_BI (op := op) hf).m; omega) ?_ rfl |> fun z => J.eql (by rw [hb0]; rfl) z
    rw [hb0]
    refine ⟨fun q z1 z2 => ?_, fun c z1 z2 => ?_, fun j z1 => ?_, fun j z1 z2 => ?_⟩
    · first | exact h1 q z1 | (rw [up_n _ _ _ z2, up_n _ _ _ z1]; exact h1 q z1)
    · first
      | exact h2 c z1 z2
      | (rw [up_n _ _ _ (by decide), up_s]
         show _ = upr (fun _ => 99) fr 0 c
         by_cases hc : c = fr
         · subst hc; rw [upr_s, upr_s]
         · rw [upr_n _ _ (by omega), upr_n _ _ hc]; exact h2 c z1 z2)
    · first | exact h3 j z1 | (rw [up_n _ _ _ (by decide), up_s, upr_n _ _ (by omega)]; exact h3 j z1)
    · first
      | (have z2 : j < 0 := z2; omega)
      | (have z2 : j < 1 := z2
         have : j = 0 := by omega
         subst this
         rw [up_s, upr_s]
         show _ = upr (fun _ => 0) 0 fr 0
         rw [upr_s])
  · have hb0 : bfs0 op fr = (upr (fun _ => 99) fr 0, upr (fun _ => 0) 0 fr, 1) := if_pos (by
      by_cases z : op fr = true
      · exact z
      · rw [if_neg z] at c32; omega)
    refine J.aload_n (q := 36) dX6_spreads_35 rfl ?_ rfl
    refine J.getR (ci := 6) (k0 := 5) (c1 := 66) (q := 39) dX6_spreads_36 kF_X6_22 rfl (by decide) (by decide) rfl (by decide) rfl ?_ rfl
    refine J.iload_n (q := 40) dX6_spreads_39 rfl ?_ rfl
    refine J.iload_n (q := 41) dX6_spreads_40 rfl ?_ rfl
    refine J.iadd (q := 42) dX6_spreads_41 ?_ rfl
    refine J.iconst (q := 43) dX6_spreads_42 ?_ rfl
    refine J.iast (n := 729) (q := 44) dX6_spreads_43 rfl (by omega) ?_ rfl
    refine J.aload_n (q := 45) dX6_spreads_44 rfl ?_ rfl
    refine J.getR (ci := 6) (k0 := 6) (c1 := 67) (q := 48) dX6_spreads_45 kF_X6_25 rfl (by decide) (by decide) rfl (by decide) rfl ?_ rfl
    refine J.iconst (q := 49) dX6_spreads_48 ?_ rfl
    refine J.iload_n (q := 50) dX6_spreads_49 rfl ?_ rfl
    refine J.iast (n := 81) (q := 51) dX6_spreads_50 rfl (by omega) ?_ rfl
    refine J.iconst (q := 52) dX6_spreads_51 ?_ rfl
    refine J.istore_n (q := 53) dX6_spreads_52 (Nat.le_of_ble_eq_true rfl) ?_ rfl
    refine J.iconst (q := 54) dX6_spreads_53 ?_ rfl
    refine J.istore (q := 56) dX6_spreads_54 (Nat.le_of_ble_eq_true rfl) ?_ rfl
    refine spreads_loop hf hb hbar 82 0 (bfs0 op fr) _ _ _ (by omega) (bfs0_BI hf) (by have := (bfs0_BI (op := op) hf).m; omega) ?_ rfl |> fun z => J.eql (by rw [hb0]; rfl) z
    rw [hb0]
    refine ⟨fun q z1 z2 => ?_, fun c z1 z2 => ?_, fun j z1 => ?_, fun j z1 z2 => ?_⟩
    · first | exact h1 q z1 | (rw [up_n _ _ _ z2, up_n _ _ _ z1]; exact h1 q z1)
    · first
      | exact h2 c z1 z2
      | (rw [up_n _ _ _ (by decide), up_s]
         show _ = upr (fun _ => 99) fr 0 c
         by_cases hc : c = fr
         · subst hc; rw [upr_s, upr_s]
         · rw [upr_n _ _ (by omega), upr_n _ _ hc]; exact h2 c z1 z2)
    · first | exact h3 j z1 | (rw [up_n _ _ _ (by decide), up_s, upr_n _ _ (by omega)]; exact h3 j z1)
    · first
      | (have z2 : j < 0 := z2; omega)
      | (have z2 : j < 1 := z2
         have : j = 0 := by omega
         subst this
         rw [up_s, upr_s]
         show _ = upr (fun _ => 0) 0 fr 0
         rw [upr_s])

