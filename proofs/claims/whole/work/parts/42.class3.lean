/-! the class: ways (printed by wip/whole/m_c3.py) -/
def nxF (f : Int → Int) (c : Int) : Int := nx1 (fun _ => f) 0 c 0 (nx1 (fun _ => f) 0 c 1 (nx1 (fun _ => f) 0 c 2 (nx1 (fun _ => f) 0 c 3 c)))
def nxC (op : Int → Bool) (f : Int → Int) (c : Int) : Int := if op c = true then nxF f c else c
theorem opH_p {s : Int → Int} {c : Int} (h : s (14 + c) ≠ 1) : (if opH s c = true then (1 : Int) else 0) = 1 := if_pos (decide_eq_true (Or.inr (Or.inr h)))
theorem opH_q {s : Int → Int} {c : Int} (hc : 0 ≤ c ∧ c < 81) (h : s (14 + c) = 1) : (if opH s c = true then (1 : Int) else 0) = 0 := if_neg (fun z => by have := of_decide_eq_true z; omega)
set_option maxRecDepth 100000 in
set_option maxHeartbeats 4000000 in
theorem fill_45_loop {l : Launch} {F : Nat × (Int → Int)} {iv : Mm} {x : Int} : ∀ (n : Nat) (c : Int) (iv1 : Mm), (81 - c < n) → (0 ≤ c ∧ c ≤ 81) → (∀ p, p ≠ 45 → iv1 p = iv p) → (∀ j, 0 ≤ j → j < c → iv1 45 j = x) → J l (yJ7_fill_53178).cls cJ7_fill_53178 4 none 0 0 0 false F (fun v S iv2 => v = none ∧ S = S0 ∧ (∀ p, p ≠ 45 → iv2 p = iv p) ∧ ∀ j, 0 ≤ j → j < 81 → iv2 45 j = x) 0 0 5 [some (r_ 45), some (i_ x), some (i_ c), some (i_ 81)] [] S0 (iv1) := by
  intro n
  induction n with
  | zero =>
    intro c iv1 hn hc hf hd
    omega
  | succ n ih =>
    intro c iv1 hn hc hf hd
    refine J.iload_n (q := 6) dJ7_fill_53178_5 rfl ?_ rfl
    refine J.iload_n (q := 7) dJ7_fill_53178_6 rfl ?_ rfl
    refine J.icmp_ge (tgt := 20) (q := 10) dJ7_fill_53178_7 rfl rfl (fun c7 => ?_) (fun c7 => ?_)
    · refine J.vreturn dJ7_fill_53178_20 rfl ?_
      exact ⟨rfl, rfl, hf, fun j h0 h1 => hd j h0 (by omega)⟩
    · refine J.aload_n (q := 11) dJ7_fill_53178_10 rfl ?_ rfl
      refine J.iload_n (q := 12) dJ7_fill_53178_11 rfl ?_ rfl
      refine J.iload_n (q := 13) dJ7_fill_53178_12 rfl ?_ rfl
      refine J.iast (n := 81) (q := 14) dJ7_fill_53178_13 rfl (by omega) ?_ rfl
      refine J.iinc (q := 17) dJ7_fill_53178_14 rfl ?_ rfl
      refine J.goto (tgt := 5) dJ7_fill_53178_17 rfl ?_
      refine ih (c + 1) _ (by omega) (by omega) (fun p hp => ?_) (fun j h0 h1 => ?_)
      · rw [up_n _ _ _ hp]; exact hf p hp
      · rw [up_s]
        by_cases hj : j = c
        · subst hj; rw [upr_s]
        · rw [upr_n _ _ hj]; exact hd j h0 (by omega)

set_option maxRecDepth 100000 in
set_option maxHeartbeats 4000000 in
theorem c_fill_45 {l : Launch} {F : Nat × (Int → Int)} {iv : Mm} {x : Int} : Ctr l F 0 0 0 yJ7_fill_53178 cJ7_fill_53178 4 none [r_ 45, i_ x] S0 (iv) (fun v S iv2 => v = none ∧ S = S0 ∧ (∀ p, p ≠ 45 → iv2 p = iv p) ∧ ∀ j, 0 ≤ j → j < 81 → iv2 45 j = x) := by
  refine Ctr.of false (fun h => by cases h) (by decide) rfl (Nat.le_of_ble_eq_true rfl) ?_
  refine J.iconst (q := 1) dJ7_fill_53178_0 ?_ rfl
  refine J.istore_n (q := 2) dJ7_fill_53178_1 (Nat.le_of_ble_eq_true rfl) ?_ rfl
  refine J.aload_n (q := 3) dJ7_fill_53178_2 rfl ?_ rfl
  refine J.alen0 (n := 81) (q := 4) dJ7_fill_53178_3 rfl ?_ rfl
  refine J.istore_n (q := 5) dJ7_fill_53178_4 (Nat.le_of_ble_eq_true rfl) ?_ rfl
  exact fill_45_loop 82 0 iv (by omega) (by omega) (fun _ _ => rfl) (fun j h0 h1 => by omega)

set_option maxRecDepth 100000 in
set_option maxHeartbeats 4000000 in
theorem fill_39_loop {l : Launch} {F : Nat × (Int → Int)} {iv : Mm} {x : Int} : ∀ (n : Nat) (c : Int) (iv1 : Mm), (81 - c < n) → (0 ≤ c ∧ c ≤ 81) → (∀ p, p ≠ 39 → iv1 p = iv p) → (∀ j, 0 ≤ j → j < c → iv1 39 j = x) → J l (yJ7_fill_53178).cls cJ7_fill_53178 4 none 0 0 0 false F (fun v S iv2 => v = none ∧ S = S0 ∧ (∀ p, p ≠ 39 → iv2 p = iv p) ∧ ∀ j, 0 ≤ j → j < 81 → iv2 39 j = x) 0 0 5 [some (r_ 39), some (i_ x), some (i_ c), some (i_ 81)] [] S0 (iv1) := by
  intro n
  induction n with
  | zero =>
    intro c iv1 hn hc hf hd
    omega
  | succ n ih =>
    intro c iv1 hn hc hf hd
    refine J.iload_n (q := 6) dJ7_fill_53178_5 rfl ?_ rfl
    refine J.iload_n (q := 7) dJ7_fill_53178_6 rfl ?_ rfl
    refine J.icmp_ge (tgt := 20) (q := 10) dJ7_fill_53178_7 rfl rfl (fun c7 => ?_) (fun c7 => ?_)
    · refine J.vreturn dJ7_fill_53178_20 rfl ?_
      exact ⟨rfl, rfl, hf, fun j h0 h1 => hd j h0 (by omega)⟩
    · refine J.aload_n (q := 11) dJ7_fill_53178_10 rfl ?_ rfl
      refine J.iload_n (q := 12) dJ7_fill_53178_11 rfl ?_ rfl
      refine J.iload_n (q := 13) dJ7_fill_53178_12 rfl ?_ rfl
      refine J.iast (n := 81) (q := 14) dJ7_fill_53178_13 rfl (by omega) ?_ rfl
      refine J.iinc (q := 17) dJ7_fill_53178_14 rfl ?_ rfl
      refine J.goto (tgt := 5) dJ7_fill_53178_17 rfl ?_
      refine ih (c + 1) _ (by omega) (by omega) (fun p hp => ?_) (fun j h0 h1 => ?_)
      · rw [up_n _ _ _ hp]; exact hf p hp
      · rw [up_s]
        by_cases hj : j = c
        · subst hj; rw [upr_s]
        · rw [upr_n _ _ hj]; exact hd j h0 (by omega)

set_option maxRecDepth 100000 in
set_option maxHeartbeats 4000000 in
theorem c_fill_39 {l : Launch} {F : Nat × (Int → Int)} {iv : Mm} {x : Int} : Ctr l F 0 0 0 yJ7_fill_53178 cJ7_fill_53178 4 none [r_ 39, i_ x] S0 (iv) (fun v S iv2 => v = none ∧ S = S0 ∧ (∀ p, p ≠ 39 → iv2 p = iv p) ∧ ∀ j, 0 ≤ j → j < 81 → iv2 39 j = x) := by
  refine Ctr.of false (fun h => by cases h) (by decide) rfl (Nat.le_of_ble_eq_true rfl) ?_
  refine J.iconst (q := 1) dJ7_fill_53178_0 ?_ rfl
  refine J.istore_n (q := 2) dJ7_fill_53178_1 (Nat.le_of_ble_eq_true rfl) ?_ rfl
  refine J.aload_n (q := 3) dJ7_fill_53178_2 rfl ?_ rfl
  refine J.alen0 (n := 81) (q := 4) dJ7_fill_53178_3 rfl ?_ rfl
  refine J.istore_n (q := 5) dJ7_fill_53178_4 (Nat.le_of_ble_eq_true rfl) ?_ rfl
  exact fill_39_loop 82 0 iv (by omega) (by omega) (fun _ _ => rfl) (fun j h0 h1 => by omega)

set_option maxRecDepth 100000 in
set_option maxHeartbeats 4000000 in
theorem fill_4_loop {l : Launch} {F : Nat × (Int → Int)} {iv : Mm} {x : Int} : ∀ (n : Nat) (c : Int) (iv1 : Mm), (81 - c < n) → (0 ≤ c ∧ c ≤ 81) → (∀ p, p ≠ 4 → iv1 p = iv p) → (∀ j, 0 ≤ j → j < c → iv1 4 j = x) → J l (yJ7_fill_53178).cls cJ7_fill_53178 4 none 0 0 0 false F (fun v S iv2 => v = none ∧ S = S0 ∧ (∀ p, p ≠ 4 → iv2 p = iv p) ∧ ∀ j, 0 ≤ j → j < 81 → iv2 4 j = x) 0 0 5 [some (r_ 4), some (i_ x), some (i_ c), some (i_ 81)] [] S0 (iv1) := by
  intro n
  induction n with
  | zero =>
    intro c iv1 hn hc hf hd
    omega
  | succ n ih =>
    intro c iv1 hn hc hf hd
    refine J.iload_n (q := 6) dJ7_fill_53178_5 rfl ?_ rfl
    refine J.iload_n (q := 7) dJ7_fill_53178_6 rfl ?_ rfl
    refine J.icmp_ge (tgt := 20) (q := 10) dJ7_fill_53178_7 rfl rfl (fun c7 => ?_) (fun c7 => ?_)
    · refine J.vreturn dJ7_fill_53178_20 rfl ?_
      exact ⟨rfl, rfl, hf, fun j h0 h1 => hd j h0 (by omega)⟩
    · refine J.aload_n (q := 11) dJ7_fill_53178_10 rfl ?_ rfl
      refine J.iload_n (q := 12) dJ7_fill_53178_11 rfl ?_ rfl
      refine J.iload_n (q := 13) dJ7_fill_53178_12 rfl ?_ rfl
      refine J.iast (n := 81) (q := 14) dJ7_fill_53178_13 rfl (by omega) ?_ rfl
      refine J.iinc (q := 17) dJ7_fill_53178_14 rfl ?_ rfl
      refine J.goto (tgt := 5) dJ7_fill_53178_17 rfl ?_
      refine ih (c + 1) _ (by omega) (by omega) (fun p hp => ?_) (fun j h0 h1 => ?_)
      · rw [up_n _ _ _ hp]; exact hf p hp
      · rw [up_s]
        by_cases hj : j = c
        · subst hj; rw [upr_s]
        · rw [upr_n _ _ hj]; exact hd j h0 (by omega)

set_option maxRecDepth 100000 in
set_option maxHeartbeats 4000000 in
theorem c_fill_4 {l : Launch} {F : Nat × (Int → Int)} {iv : Mm} {x : Int} : Ctr l F 0 0 0 yJ7_fill_53178 cJ7_fill_53178 4 none [r_ 4, i_ x] S0 (iv) (fun v S iv2 => v = none ∧ S = S0 ∧ (∀ p, p ≠ 4 → iv2 p = iv p) ∧ ∀ j, 0 ≤ j → j < 81 → iv2 4 j = x) := by
  refine Ctr.of false (fun h => by cases h) (by decide) rfl (Nat.le_of_ble_eq_true rfl) ?_
  refine J.iconst (q := 1) dJ7_fill_53178_0 ?_ rfl
  refine J.istore_n (q := 2) dJ7_fill_53178_1 (Nat.le_of_ble_eq_true rfl) ?_ rfl
  refine J.aload_n (q := 3) dJ7_fill_53178_2 rfl ?_ rfl
  refine J.alen0 (n := 81) (q := 4) dJ7_fill_53178_3 rfl ?_ rfl
  refine J.istore_n (q := 5) dJ7_fill_53178_4 (Nat.le_of_ble_eq_true rfl) ?_ rfl
  exact fill_4_loop 82 0 iv (by omega) (by omega) (fun _ _ => rfl) (fun j h0 h1 => by omega)

set_option maxRecDepth 100000 in
set_option maxHeartbeats 4000000 in
theorem fill_30_loop {l : Launch} {F : Nat × (Int → Int)} {iv : Mm} {x : Int} : ∀ (n : Nat) (c : Int) (iv1 : Mm), (81 - c < n) → (0 ≤ c ∧ c ≤ 81) → (∀ p, p ≠ 30 → iv1 p = iv p) → (∀ j, 0 ≤ j → j < c → iv1 30 j = x) → J l (yJ7_fill_53178).cls cJ7_fill_53178 4 none 0 0 0 false F (fun v S iv2 => v = none ∧ S = S0 ∧ (∀ p, p ≠ 30 → iv2 p = iv p) ∧ ∀ j, 0 ≤ j → j < 81 → iv2 30 j = x) 0 0 5 [some (r_ 30), some (i_ x), some (i_ c), some (i_ 81)] [] S0 (iv1) := by
  intro n
  induction n with
  | zero =>
    intro c iv1 hn hc hf hd
    omega
  | succ n ih =>
    intro c iv1 hn hc hf hd
    refine J.iload_n (q := 6) dJ7_fill_53178_5 rfl ?_ rfl
    refine J.iload_n (q := 7) dJ7_fill_53178_6 rfl ?_ rfl
    refine J.icmp_ge (tgt := 20) (q := 10) dJ7_fill_53178_7 rfl rfl (fun c7 => ?_) (fun c7 => ?_)
    · refine J.vreturn dJ7_fill_53178_20 rfl ?_
      exact ⟨rfl, rfl, hf, fun j h0 h1 => hd j h0 (by omega)⟩
    · refine J.aload_n (q := 11) dJ7_fill_53178_10 rfl ?_ rfl
      refine J.iload_n (q := 12) dJ7_fill_53178_11 rfl ?_ rfl
      refine J.iload_n (q := 13) dJ7_fill_53178_12 rfl ?_ rfl
      refine J.iast (n := 81) (q := 14) dJ7_fill_53178_13 rfl (by omega) ?_ rfl
      refine J.iinc (q := 17) dJ7_fill_53178_14 rfl ?_ rfl
      refine J.goto (tgt := 5) dJ7_fill_53178_17 rfl ?_
      refine ih (c + 1) _ (by omega) (by omega) (fun p hp => ?_) (fun j h0 h1 => ?_)
      · rw [up_n _ _ _ hp]; exact hf p hp
      · rw [up_s]
        by_cases hj : j = c
        · subst hj; rw [upr_s]
        · rw [upr_n _ _ hj]; exact hd j h0 (by omega)

set_option maxRecDepth 100000 in
set_option maxHeartbeats 4000000 in
theorem c_fill_30 {l : Launch} {F : Nat × (Int → Int)} {iv : Mm} {x : Int} : Ctr l F 0 0 0 yJ7_fill_53178 cJ7_fill_53178 4 none [r_ 30, i_ x] S0 (iv) (fun v S iv2 => v = none ∧ S = S0 ∧ (∀ p, p ≠ 30 → iv2 p = iv p) ∧ ∀ j, 0 ≤ j → j < 81 → iv2 30 j = x) := by
  refine Ctr.of false (fun h => by cases h) (by decide) rfl (Nat.le_of_ble_eq_true rfl) ?_
  refine J.iconst (q := 1) dJ7_fill_53178_0 ?_ rfl
  refine J.istore_n (q := 2) dJ7_fill_53178_1 (Nat.le_of_ble_eq_true rfl) ?_ rfl
  refine J.aload_n (q := 3) dJ7_fill_53178_2 rfl ?_ rfl
  refine J.alen0 (n := 81) (q := 4) dJ7_fill_53178_3 rfl ?_ rfl
  refine J.istore_n (q := 5) dJ7_fill_53178_4 (Nat.le_of_ble_eq_true rfl) ?_ rfl
  exact fill_30_loop 82 0 iv (by omega) (by omega) (fun _ _ => rfl) (fun j h0 h1 => by omega)

set_option maxRecDepth 100000 in
set_option maxHeartbeats 4000000 in
theorem openLand44_loop {l : Launch} {F : Nat × (Int → Int)} {iv : Mm} {D : Int} {s : Int → Int} (hR : RR iv 1 s) (hI : MI D s) : ∀ (n : Nat) (c : Int) (iv1 : Mm), (81 - c < n) → (0 ≤ c ∧ c ≤ 81) → (∀ q, q ≠ 46 → iv1 q = iv q) → (∀ j, 0 ≤ j → j < c → iv1 46 j = (if opH s j = true then 1 else 0)) → J l (yX4_openLand).cls cX4_openLand 3 none 0 0 0 false F (fun v S iv2 => v = none ∧ S = S0 ∧ (∀ q, q ≠ 46 → iv2 q = iv q) ∧ ∀ c, 0 ≤ c → c < 81 → iv2 46 c = (if opH s c = true then 1 else 0)) 0 0 2 [some (r_ 44), some (r_ 1), some (i_ c)] [] S0 (iv1) := by
  intro n
  induction n with
  | zero =>
    intro c iv1 hn hc hf hd
    omega
  | succ n ih =>
    intro c iv1 hn hc hf hd
    refine J.iload_n (q := 3) dX4_openLand_2 rfl ?_ rfl
    refine J.bipush (q := 5) dX4_openLand_3 (by decide) ?_ rfl
    refine J.icmp_ge (tgt := 34) (q := 8) dX4_openLand_5 rfl rfl (fun c5 => ?_) (fun c5 => ?_)
    · refine J.vreturn dX4_openLand_34 rfl ?_
      exact ⟨rfl, rfl, hf, fun j h0 h1 => hd j h0 (by omega)⟩
    · refine J.aload_n (q := 9) dX4_openLand_8 rfl ?_ rfl
      refine J.getR (ci := 4) (k0 := 1) (c1 := 46) (q := 12) dX4_openLand_9 kF_X4_15 rfl (by decide) (by decide) rfl (by decide) rfl ?_ rfl
      refine J.iload_n (q := 13) dX4_openLand_12 rfl ?_ rfl
      refine J.aload_n (q := 14) dX4_openLand_13 rfl ?_ rfl
      refine J.getR (ci := 1) (k0 := 0) (c1 := 2) (q := 17) dX4_openLand_14 kF_X4_28 rfl (by decide) (by decide) rfl (by decide) rfl ?_ rfl
      refine J.iload_n (q := 18) dX4_openLand_17 rfl ?_ rfl
      refine J.iald (n := 81) (q := 19) dX4_openLand_18 rfl (by omega) ?_ rfl
      rw [hf 2 (by decide), g1_hed hR (by omega) (by omega)]
      have hcl := hI.cel c (by omega) (by omega)
      
      refine J.if_ne (tgt := 26) (q := 22) dX4_openLand_19 rfl rfl (fun c19 => ?_) (fun c19 => ?_)
      · have ho := opH_q (s := s) (c := c) (by omega) (by omega)
        refine J.iconst (q := 27) dX4_openLand_26 ?_ rfl
        refine J.zast (n := 81) (q := 28) dX4_openLand_27 rfl (by omega) (by omega) ?_ rfl
        refine J.iinc (q := 31) dX4_openLand_28 rfl ?_ rfl
        refine J.goto (tgt := 2) dX4_openLand_31 rfl ?_
        refine ih (c + 1) _ (by omega) (by omega) (fun q hq => ?_) (fun j h0 h1 => ?_)
        · rw [up_n _ _ _ hq]; exact hf q hq
        · rw [up_s]
          by_cases hj : j = c
          · subst hj; rw [upr_s, ho]
          · rw [upr_n _ _ hj]; exact hd j h0 (by omega)
      · have ho := opH_p (s := s) (c := c) (by omega)
        refine J.iconst (q := 23) dX4_openLand_22 ?_ rfl
        refine J.goto (tgt := 27) dX4_openLand_23 rfl ?_
        refine J.zast (n := 81) (q := 28) dX4_openLand_27 rfl (by omega) (by omega) ?_ rfl
        refine J.iinc (q := 31) dX4_openLand_28 rfl ?_ rfl
        refine J.goto (tgt := 2) dX4_openLand_31 rfl ?_
        refine ih (c + 1) _ (by omega) (by omega) (fun q hq => ?_) (fun j h0 h1 => ?_)
        · rw [up_n _ _ _ hq]; exact hf q hq
        · rw [up_s]
          by_cases hj : j = c
          · subst hj; rw [upr_s, ho]
          · rw [upr_n _ _ hj]; exact hd j h0 (by omega)

set_option maxRecDepth 100000 in
set_option maxHeartbeats 4000000 in
theorem c_openLand44 {l : Launch} {F : Nat × (Int → Int)} {iv : Mm} {D : Int} {s : Int → Int} (hR : RR iv 1 s) (hI : MI D s) : Ctr l F 0 0 0 yX4_openLand cX4_openLand 3 none [r_ 44, r_ 1] S0 (iv) (fun v S iv2 => v = none ∧ S = S0 ∧ (∀ q, q ≠ 46 → iv2 q = iv q) ∧ ∀ c, 0 ≤ c → c < 81 → iv2 46 c = (if opH s c = true then 1 else 0)) := by
  refine Ctr.of false (fun h => by cases h) (by decide) rfl (Nat.le_of_ble_eq_true rfl) ?_
  refine J.iconst (q := 1) dX4_openLand_0 ?_ rfl
  refine J.istore_n (q := 2) dX4_openLand_1 (Nat.le_of_ble_eq_true rfl) ?_ rfl
  exact openLand44_loop hR hI 82 0 iv (by omega) (by omega) (fun _ _ => rfl) (fun j h0 h1 => by omega)

def RB44 (iv iv1 : Mm) (T : T3) : Prop := (∀ q, q ≠ 45 → q ≠ 47 → iv1 q = iv q) ∧ (∀ c, 0 ≤ c → c < 81 → iv1 45 c = T.1 c) ∧ ∀ j, 0 ≤ j → j < T.2.2 → iv1 47 j = T.2.1 j
set_option maxRecDepth 100000 in
set_option maxHeartbeats 4000000 in
theorem spreadFrom44_w {l : Launch} {F : Nat × (Int → Int)} {iv iv1 : Mm} {op : Int → Bool} (ho : ∀ c, 0 ≤ c → c < 81 → iv 46 c = (if op c = true then 1 else 0)) {X T : T3} {i w c0 z2 : Int} {x5 : Option VT} (hT : BI T) (hi9 : 0 ≤ i ∧ i < T.2.2) (hw : 0 ≤ w ∧ w ≤ 3) (hc0 : T.2.1 i = c0) (hR : RB44 iv iv1 T) (K : ∀ (iv2 : Mm) (y5 : Option VT), RB44 iv iv2 (rlx op i w T) → J l (yX4_spreadFrom).cls cX4_spreadFrom 6 (some FieldType.int) 1 0 0 false F (fun v S iv2 => v = some (i_ X.2.2) ∧ S = S0 ∧ RB44 iv iv2 X) 0 0 5 [some (r_ 44), some (i_ c0), some (i_ z2), some (i_ (rlx op i w T).2.2), some (i_ (w + 1)), y5] [] S0 (iv2)) : J l (yX4_spreadFrom).cls cX4_spreadFrom 6 (some FieldType.int) 1 0 0 false F (fun v S iv2 => v = some (i_ X.2.2) ∧ S = S0 ∧ RB44 iv iv2 X) 0 0 5 [some (r_ 44), some (i_ c0), some (i_ z2), some (i_ T.2.2), some (i_ w), x5] [] S0 (iv1) := by
  obtain ⟨h1, h2, h4⟩ := id hR
  have hm := hT.m
  have hoi := hT.2.1 i hi9.1 hi9.2
  rw [hc0] at hoi
  have hbr := besM_rng (w := w) hoi.1
  have hbc : bsC c0 w = if besM c0 w < 0 then -1 else besM c0 w := rfl
  refine J.iload (q := 7) dX4_spreadFrom_5 rfl ?_ rfl
  refine J.iconst (q := 8) dX4_spreadFrom_7 ?_ rfl
  refine J.icmp_ge (tgt := 84) (q := 11) dX4_spreadFrom_8 rfl rfl (fun c => absurd c (by omega)) (fun c8 => ?_)
  refine J.iload_n (q := 12) dX4_spreadFrom_11 rfl ?_ rfl
  refine J.iload (q := 14) dX4_spreadFrom_12 rfl ?_ rfl
  refine J.callSN2i (q := 17) dX4_spreadFrom_14 mv_X5_beside kS_X5_beside (by decide) ⟨by decide, by decide⟩ (Nat.le_of_ble_eq_true rfl) ⟨by decide, by decide⟩ rfl (c_X5_beside (by omega) (by omega)) ?_
  refine J.istore (q := 19) dX4_spreadFrom_17 (Nat.le_of_ble_eq_true rfl) ?_ rfl
  refine J.iload (q := 21) dX4_spreadFrom_19 rfl ?_ rfl
  refine J.if_lt (tgt := 78) (q := 24) (hv := by rw [hbc]; split <;> omega) dX4_spreadFrom_21 rfl rfl (fun c21 => ?_) (fun c21 => ?_)
  · have hrl : rlx op i w T = T := if_neg (fun z => by
      rw [hc0] at z
      rw [hbc, if_neg (by omega)] at c21
      omega)
    refine J.iinc (q := 81) dX4_spreadFrom_78 rfl ?_ rfl
    refine J.goto (tgt := 5) dX4_spreadFrom_81 rfl ?_
    first
    | (rw [hrl] at K; exact K iv1 _ hR)
    | (refine K _ _ ?_ |> fun z => J.eql (by rw [hrl]; rfl) z
       rw [hrl]
       refine ⟨fun q z1 z2 => ?_, fun c z1 z2 => ?_, fun j z1 z2 => ?_⟩
       · rw [up_n _ _ _ z2, up_n _ _ _ z1]; exact h1 q z1 z2
       · rw [up_n _ _ _ (by decide), up_s]
         show _ = upr _ _ _ c
         by_cases hc : c = besM c0 w
         · subst hc; rw [upr_s, upr_s]
         · rw [upr_n _ _ hc, upr_n _ _ hc]; exact h2 c z1 z2
       · rw [up_s, up_n _ _ _ (by decide)]
         show _ = upr _ _ _ j
         have z2 : j < T.2.2 + 1 := z2
         by_cases hj : j = T.2.2
         · subst hj; rw [upr_s, upr_s]
         · rw [upr_n _ _ hj, upr_n _ _ hj]; exact h4 j z1 (by omega))
  · have hb0 : 0 ≤ besM c0 w := by
      by_cases z : besM c0 w < 0
      · rw [hbc, if_pos z] at c21; omega
      · omega
    rw [hbc, if_neg (by omega)]
    refine J.aload_n (q := 25) dX4_spreadFrom_24 rfl ?_ rfl
    refine J.getR (ci := 4) (k0 := 1) (c1 := 46) (q := 28) dX4_spreadFrom_25 kF_X4_15 rfl (by decide) (by decide) rfl (by decide) rfl ?_ rfl
    refine J.iload (q := 30) dX4_spreadFrom_28 rfl ?_ rfl
    refine J.zald (n := 81) (q := 31) dX4_spreadFrom_30 rfl (by omega) ?_ rfl
    rw [h1 46 (by decide) (by decide), ho _ (by omega) (by omega)]
    refine J.if_eq (tgt := 78) (q := 34) (hv := by split <;> omega) dX4_spreadFrom_31 rfl rfl (fun c31 => ?_) (fun c31 => ?_)
    · have hrl : rlx op i w T = T := if_neg (fun z => by
        rw [hc0] at z
        rw [if_pos z.2.1] at c31
        omega)
      refine J.iinc (q := 81) dX4_spreadFrom_78 rfl ?_ rfl
      refine J.goto (tgt := 5) dX4_spreadFrom_81 rfl ?_
      first
      | (rw [hrl] at K; exact K iv1 _ hR)
      | (refine K _ _ ?_ |> fun z => J.eql (by rw [hrl]; rfl) z
         rw [hrl]
         refine ⟨fun q z1 z2 => ?_, fun c z1 z2 => ?_, fun j z1 z2 => ?_⟩
         · rw [up_n _ _ _ z2, up_n _ _ _ z1]; exact h1 q z1 z2
         · rw [up_n _ _ _ (by decide), up_s]
           show _ = upr _ _ _ c
           by_cases hc : c = besM c0 w
           · subst hc; rw [upr_s, upr_s]
           · rw [upr_n _ _ hc, upr_n _ _ hc]; exact h2 c z1 z2
         · rw [up_s, up_n _ _ _ (by decide)]
           show _ = upr _ _ _ j
           have z2 : j < T.2.2 + 1 := z2
           by_cases hj : j = T.2.2
           · subst hj; rw [upr_s, upr_s]
           · rw [upr_n _ _ hj, upr_n _ _ hj]; exact h4 j z1 (by omega))
    · have hop : op (besM c0 w) = true := by
        by_cases z : op (besM c0 w) = true
        · exact z
        · rw [if_neg z] at c31; omega
      refine J.aload_n (q := 35) dX4_spreadFrom_34 rfl ?_ rfl
      refine J.getR (ci := 4) (k0 := 0) (c1 := 45) (q := 38) dX4_spreadFrom_35 kF_X4_9 rfl (by decide) (by decide) rfl (by decide) rfl ?_ rfl
      refine J.iload (q := 40) dX4_spreadFrom_38 rfl ?_ rfl
      refine J.iald (n := 81) (q := 41) dX4_spreadFrom_40 rfl (by omega) ?_ rfl
      rw [h2 _ (by omega) (by omega)]
      have hfc := hT.2.2 (besM c0 w)
      refine J.bipush (q := 43) dX4_spreadFrom_41 (by decide) ?_ rfl
      refine J.icmp_ne (tgt := 78) (q := 46) dX4_spreadFrom_43 rfl rfl (fun c43 => ?_) (fun c43 => ?_)
      · have hrl : rlx op i w T = T := if_neg (fun z => by rw [hc0] at z; exact c43 z.2.2)
        refine J.iinc (q := 81) dX4_spreadFrom_78 rfl ?_ rfl
        refine J.goto (tgt := 5) dX4_spreadFrom_81 rfl ?_
        first
        | (rw [hrl] at K; exact K iv1 _ hR)
        | (refine K _ _ ?_ |> fun z => J.eql (by rw [hrl]; rfl) z
           rw [hrl]
           refine ⟨fun q z1 z2 => ?_, fun c z1 z2 => ?_, fun j z1 z2 => ?_⟩
           · rw [up_n _ _ _ z2, up_n _ _ _ z1]; exact h1 q z1 z2
           · rw [up_n _ _ _ (by decide), up_s]
             show _ = upr _ _ _ c
             by_cases hc : c = besM c0 w
             · subst hc; rw [upr_s, upr_s]
             · rw [upr_n _ _ hc, upr_n _ _ hc]; exact h2 c z1 z2
           · rw [up_s, up_n _ _ _ (by decide)]
             show _ = upr _ _ _ j
             have z2 : j < T.2.2 + 1 := z2
             by_cases hj : j = T.2.2
             · subst hj; rw [upr_s, upr_s]
             · rw [upr_n _ _ hj, upr_n _ _ hj]; exact h4 j z1 (by omega))
      · have hrl : rlx op i w T = (upr T.1 (besM c0 w) (T.1 c0 + 1), upr T.2.1 T.2.2 (besM c0 w), T.2.2 + 1) := by
          unfold rlx
          rw [hc0]
          exact if_pos ⟨by omega, hop, c43⟩
        have hm81 := cnt_lt T.1 (besM c0 w) c43 81 (by omega)
        rw [← hT.1] at hm81
        refine J.iload_n (q := 47) dX4_spreadFrom_46 rfl ?_ rfl
        refine J.bipush (q := 49) dX4_spreadFrom_47 (by decide) ?_ rfl
        refine J.icmp_ge (tgt := 78) (q := 52) dX4_spreadFrom_49 rfl rfl (fun c => absurd c (by omega)) (fun c49 => ?_)
        refine J.aload_n (q := 53) dX4_spreadFrom_52 rfl ?_ rfl
        refine J.getR (ci := 4) (k0 := 0) (c1 := 45) (q := 56) dX4_spreadFrom_53 kF_X4_9 rfl (by decide) (by decide) rfl (by decide) rfl ?_ rfl
        refine J.iload (q := 58) dX4_spreadFrom_56 rfl ?_ rfl
        refine J.aload_n (q := 59) dX4_spreadFrom_58 rfl ?_ rfl
        refine J.getR (ci := 4) (k0 := 0) (c1 := 45) (q := 62) dX4_spreadFrom_59 kF_X4_9 rfl (by decide) (by decide) rfl (by decide) rfl ?_ rfl
        refine J.iload_n (q := 63) dX4_spreadFrom_62 rfl ?_ rfl
        refine J.iald (n := 81) (q := 64) dX4_spreadFrom_63 rfl (by omega) ?_ rfl
        rw [h2 _ (by omega) (by omega)]
        refine J.iconst (q := 65) dX4_spreadFrom_64 ?_ rfl
        refine J.iadd (q := 66) dX4_spreadFrom_65 ?_ rfl
        refine J.iast (n := 81) (q := 67) dX4_spreadFrom_66 rfl (by omega) ?_ rfl
        refine J.aload_n (q := 68) dX4_spreadFrom_67 rfl ?_ rfl
        refine J.getR (ci := 4) (k0 := 2) (c1 := 47) (q := 71) dX4_spreadFrom_68 kF_X4_19 rfl (by decide) (by decide) rfl (by decide) rfl ?_ rfl
        refine J.iload_n (q := 72) dX4_spreadFrom_71 rfl ?_ rfl
        refine J.iload (q := 74) dX4_spreadFrom_72 rfl ?_ rfl
        refine J.iast (n := 81) (q := 75) dX4_spreadFrom_74 rfl (by omega) ?_ rfl
        refine J.iinc (q := 78) dX4_spreadFrom_75 rfl ?_ rfl
        refine J.iinc (q := 81) dX4_spreadFrom_78 rfl ?_ rfl
        refine J.goto (tgt := 5) dX4_spreadFrom_81 rfl ?_
        first
        | (rw [hrl] at K; exact K iv1 _ hR)
        | (refine K _ _ ?_ |> fun z => J.eql (by rw [hrl]; rfl) z
           rw [hrl]
           refine ⟨fun q z1 z2 => ?_, fun c z1 z2 => ?_, fun j z1 z2 => ?_⟩
           · rw [up_n _ _ _ z2, up_n _ _ _ z1]; exact h1 q z1 z2
           · rw [up_n _ _ _ (by decide), up_s]
             show _ = upr _ _ _ c
             by_cases hc : c = besM c0 w
             · subst hc; rw [upr_s, upr_s]
             · rw [upr_n _ _ hc, upr_n _ _ hc]; exact h2 c z1 z2
           · rw [up_s, up_n _ _ _ (by decide)]
             show _ = upr _ _ _ j
             have z2 : j < T.2.2 + 1 := z2
             by_cases hj : j = T.2.2
             · subst hj; rw [upr_s, upr_s]
             · rw [upr_n _ _ hj, upr_n _ _ hj]; exact h4 j z1 (by omega))

set_option maxRecDepth 100000 in
set_option maxHeartbeats 4000000 in
theorem c_spreadFrom44 {l : Launch} {F : Nat × (Int → Int)} {iv iv1 : Mm} {op : Int → Bool} (ho : ∀ c, 0 ≤ c → c < 81 → iv 46 c = (if op c = true then 1 else 0)) {T : T3} {i : Int} (hT : BI T) (hi9 : 0 ≤ i ∧ i < T.2.2) (hR : RB44 iv iv1 T) : Ctr l F 1 0 0 yX4_spreadFrom cX4_spreadFrom 6 (some FieldType.int) [r_ 44, i_ (T.2.1 i), i_ T.2.2] S0 (iv1) (fun v S iv2 => v = some (i_ (vis op i T).2.2) ∧ S = S0 ∧ RB44 iv iv2 (vis op i T)) := by
  refine Ctr.of false (fun h => by cases h) (by decide) rfl (Nat.le_of_ble_eq_true rfl) ?_
  obtain ⟨a1, b1, e1, -⟩ := rlx_BI (op := op) (w := 0) hT hi9
  obtain ⟨a2, b2, e2, -⟩ := rlx_BI (op := op) (w := 1) a1 (i := i) (by omega)
  obtain ⟨a3, b3, e3, -⟩ := rlx_BI (op := op) (w := 2) a2 (i := i) (by omega)
  obtain ⟨a4, b4, e4, -⟩ := rlx_BI (op := op) (w := 3) a3 (i := i) (by omega)
  have f1 := e1 i hi9.1 hi9.2
  have f2 := (e2 i hi9.1 (by omega)).trans f1
  have f3 := (e3 i hi9.1 (by omega)).trans f2
  refine J.iload_n (q := 1) dX4_spreadFrom_0 rfl ?_ rfl
  refine J.istore_n (q := 2) dX4_spreadFrom_1 (Nat.le_of_ble_eq_true rfl) ?_ rfl
  refine J.iconst (q := 3) dX4_spreadFrom_2 ?_ rfl
  refine J.istore (q := 5) dX4_spreadFrom_3 (Nat.le_of_ble_eq_true rfl) ?_ rfl
  refine spreadFrom44_w (X := vis op i T) ho (T := T) (i := i) (w := 0) hT hi9 (by omega) rfl hR (fun iv2 y5 hR2 => ?_)
  refine spreadFrom44_w (X := vis op i T) ho (T := rlx op i 0 T) (i := i) (w := 1) a1 (by omega) (by omega) f1 hR2 (fun iv3 y5 hR3 => ?_)
  refine spreadFrom44_w (X := vis op i T) ho (T := rlx op i 1 (rlx op i 0 T)) (i := i) (w := 2) a2 (by omega) (by omega) f2 hR3 (fun iv4 y5 hR4 => ?_)
  refine spreadFrom44_w (X := vis op i T) ho (T := rlx op i 2 (rlx op i 1 (rlx op i 0 T))) (i := i) (w := 3) a3 (by omega) (by omega) f3 hR4 (fun iv5 y5 hR5 => ?_)
  refine J.iload (q := 7) dX4_spreadFrom_5 rfl ?_ rfl
  refine J.iconst (q := 8) dX4_spreadFrom_7 ?_ rfl
  refine J.icmp_ge (tgt := 84) (q := 11) dX4_spreadFrom_8 rfl rfl (fun c8 => ?_) (fun c => absurd c (by omega))
  refine J.iload_n (q := 85) dX4_spreadFrom_84 rfl ?_ rfl
  refine J.ireturn dX4_spreadFrom_85 rfl ?_
  exact ⟨rfl, rfl, hR5⟩

set_option maxRecDepth 100000 in
set_option maxHeartbeats 4000000 in
theorem measure44_loop {l : Launch} {F : Nat × (Int → Int)} {iv : Mm} {op : Int → Bool} {fr : Int} (hf : 0 ≤ fr ∧ fr ≤ 80) (ho : ∀ c, 0 ≤ c → c < 81 → iv 46 c = (if op c = true then 1 else 0)) : ∀ (n : Nat) (i : Int) (T : T3) (iv1 : Mm), (81 - i < n) → (BI T) → (0 ≤ i ∧ i ≤ T.2.2) → (RB44 iv iv1 T) → ((bfsL op n i T).1 = dst op fr) → J l (yX4_measure).cls cX4_measure 4 none 2 0 0 false F (fun v S iv2 => v = none ∧ S = S0 ∧ (∀ q, q ≠ 45 → q ≠ 47 → iv2 q = iv q) ∧ ∀ c, 0 ≤ c → c < 81 → iv2 45 c = dst op fr c) 0 0 37 [some (r_ 44), some (i_ fr), some (i_ T.2.2), some (i_ i)] [] S0 (iv1) := by
  intro n
  induction n with
  | zero =>
    intro i T iv1 hn hT hi9 hR hB
    have := hT.m
    omega
  | succ n ih =>
    intro i T iv1 hn hT hi9 hR hB
    have hm := hT.m
    obtain ⟨h1, h2, h4⟩ := id hR
    refine J.iload_n (q := 38) dX4_measure_37 rfl ?_ rfl
    refine J.iload_n (q := 39) dX4_measure_38 rfl ?_ rfl
    refine J.icmp_ge (tgt := 66) (q := 42) dX4_measure_39 rfl rfl (fun c39 => ?_) (fun c39 => ?_)
    · rw [bfsL, if_neg (by omega)] at hB
      refine J.vreturn dX4_measure_66 rfl ?_
      exact ⟨rfl, rfl, h1, fun c z1 z2 => by rw [h2 c z1 z2, hB]⟩
    · have hlt : i < T.2.2 := by omega
      rw [bfsL, if_pos hlt] at hB
      obtain ⟨hv1, hv2, -, -⟩ := vis_BI (op := op) hT ⟨hi9.1, hlt⟩
      refine J.iload_n (q := 43) dX4_measure_42 rfl ?_ rfl
      refine J.bipush (q := 45) dX4_measure_43 (by decide) ?_ rfl
      refine J.icmp_ge (tgt := 66) (q := 48) dX4_measure_45 rfl rfl (fun c => absurd c (by omega)) (fun c45 => ?_)
      refine J.aload_n (q := 49) dX4_measure_48 rfl ?_ rfl
      refine J.aload_n (q := 50) dX4_measure_49 rfl ?_ rfl
      refine J.getR (ci := 4) (k0 := 2) (c1 := 47) (q := 53) dX4_measure_50 kF_X4_19 rfl (by decide) (by decide) rfl (by decide) rfl ?_ rfl
      refine J.iload_n (q := 54) dX4_measure_53 rfl ?_ rfl
      refine J.iald (n := 81) (q := 55) dX4_measure_54 rfl (by omega) ?_ rfl
      rw [h4 _ (by omega) (by omega)]
      refine J.iload_n (q := 56) dX4_measure_55 rfl ?_ rfl
      refine J.callV2 (ci := 4) (q := 59) dX4_measure_56 mv_X4_spreadFrom kL_X4_43 rfl (by decide) rfl ⟨by decide, by decide⟩ (Nat.le_of_ble_eq_true rfl) ⟨by decide, by decide⟩ rfl (c_spreadFrom44 ho hT ⟨hi9.1, hlt⟩ hR) (fun v9 S9 iv9 hp => ?_)
      obtain ⟨rfl, rfl, hR9⟩ := hp
      refine J.istore_n (q := 60) dX4_measure_59 (Nat.le_of_ble_eq_true rfl) ?_ rfl
      refine J.iinc (q := 63) dX4_measure_60 rfl ?_ rfl
      refine J.goto (tgt := 37) dX4_measure_63 rfl ?_
      exact ih (i + 1) _ iv9 (by omega) hv1 (by omega) hR9 hB

set_option maxRecDepth 100000 in
set_option maxHeartbeats 4000000 in
theorem c_measure44 {l : Launch} {F : Nat × (Int → Int)} {iv : Mm} {op : Int → Bool} {fr : Int} (hf : 0 ≤ fr ∧ fr ≤ 80) (ho : ∀ c, 0 ≤ c → c < 81 → iv 46 c = (if op c = true then 1 else 0)) : Ctr l F 2 0 0 yX4_measure cX4_measure 4 none [r_ 44, i_ fr] S0 (iv) (fun v S iv2 => v = none ∧ S = S0 ∧ (∀ q, q ≠ 45 → q ≠ 47 → iv2 q = iv q) ∧ ∀ c, 0 ≤ c → c < 81 → iv2 45 c = dst op fr c) := by
  refine Ctr.of false (fun h => by cases h) (by decide) rfl (Nat.le_of_ble_eq_true rfl) ?_
  refine J.aload_n (q := 1) dX4_measure_0 rfl ?_ rfl
  refine J.getR (ci := 4) (k0 := 0) (c1 := 45) (q := 4) dX4_measure_1 kF_X4_9 rfl (by decide) (by decide) rfl (by decide) rfl ?_ rfl
  refine J.bipush (q := 6) dX4_measure_4 (by decide) ?_ rfl
  refine J.callS2 (q := 9) dX4_measure_6 mv_J7_fill_53178 kS_J7_fill_53178 kL_X4_37 ⟨by decide, by decide⟩ (Nat.le_of_ble_eq_true rfl) ⟨by decide, by decide⟩ rfl (c_fill_45) (fun v9 S9 iv9 hp => ?_)
  obtain ⟨rfl, rfl, f1, f2⟩ := hp
  refine J.aload_n (q := 10) dX4_measure_9 rfl ?_ rfl
  refine J.getR (ci := 4) (k0 := 1) (c1 := 46) (q := 13) dX4_measure_10 kF_X4_15 rfl (by decide) (by decide) rfl (by decide) rfl ?_ rfl
  refine J.iload_n (q := 14) dX4_measure_13 rfl ?_ rfl
  refine J.zald (n := 81) (q := 15) dX4_measure_14 rfl (by omega) ?_ rfl
  rw [f1 46 (by decide), ho _ (by omega) (by omega)]
  refine J.if_ne (tgt := 19) (q := 18) (hv := by split <;> omega) dX4_measure_15 rfl rfl (fun c15 => ?_) (fun c15 => ?_)
  · have hb0 : bfs0 op fr = (upr (fun _ => 99) fr 0, upr (fun _ => 0) 0 fr, 1) := if_pos (by
      by_cases z : op fr = true
      · exact z
      · rw [if_neg z] at c15; omega)
    refine J.aload_n (q := 20) dX4_measure_19 rfl ?_ rfl
    refine J.getR (ci := 4) (k0 := 0) (c1 := 45) (q := 23) dX4_measure_20 kF_X4_9 rfl (by decide) (by decide) rfl (by decide) rfl ?_ rfl
    refine J.iload_n (q := 24) dX4_measure_23 rfl ?_ rfl
    refine J.iconst (q := 25) dX4_measure_24 ?_ rfl
    refine J.iast (n := 81) (q := 26) dX4_measure_25 rfl (by omega) ?_ rfl
    refine J.aload_n (q := 27) dX4_measure_26 rfl ?_ rfl
    refine J.getR (ci := 4) (k0 := 2) (c1 := 47) (q := 30) dX4_measure_27 kF_X4_19 rfl (by decide) (by decide) rfl (by decide) rfl ?_ rfl
    refine J.iconst (q := 31) dX4_measure_30 ?_ rfl
    refine J.iload_n (q := 32) dX4_measure_31 rfl ?_ rfl
    refine J.iast (n := 81) (q := 33) dX4_measure_32 rfl (by omega) ?_ rfl
    refine J.iconst (q := 34) dX4_measure_33 ?_ rfl
    refine J.istore_n (q := 35) dX4_measure_34 (Nat.le_of_ble_eq_true rfl) ?_ rfl
    refine J.iconst (q := 36) dX4_measure_35 ?_ rfl
    refine J.istore_n (q := 37) dX4_measure_36 (Nat.le_of_ble_eq_true rfl) ?_ rfl
    refine measure44_loop hf ho 82 0 (bfs0 op fr) _ (by omega) (bfs0_BI hf) (by have := (bfs0_BI (op := op) hf).m; omega) ?_ rfl |> fun z => J.eql (by rw [hb0]; rfl) z
    rw [hb0]
    refine ⟨fun q z1 z2 => ?_, fun c z1 z2 => ?_, fun j z1 z2 => ?_⟩
    · rw [up_n _ _ _ z2, up_n _ _ _ z1]; exact f1 q z1
    · rw [up_n _ _ _ (by decide), up_s]
      show _ = upr (fun _ => 99) fr 0 c
      by_cases hc : c = fr
      · subst hc; rw [upr_s, upr_s]
      · rw [upr_n _ _ hc, upr_n _ _ hc]; exact f2 c z1 z2
    · have z2 : j < 1 := z2
      have : j = 0 := by omega
      subst this
      rw [up_s, upr_s]
      show _ = upr (fun _ => 0) 0 fr 0
      rw [upr_s]
  · have hb0 : bfs0 op fr = (fun _ => 99, fun _ => 0, 0) := if_neg (fun z => by rw [if_pos z] at c15; omega)
    refine J.vreturn dX4_measure_18 rfl ?_
    refine ⟨rfl, rfl, fun q z1 z2 => f1 q z1, fun c z1 z2 => ?_⟩
    rw [f2 c z1 z2]
    unfold dst
    rw [hb0, bfsL, if_neg (by decide)]

set_option maxRecDepth 100000 in
set_option maxHeartbeats 4000000 in
theorem nearerThan44_w {l : Launch} {F : Nat × (Int → Int)} {iv : Mm} {f : Int → Int} {c w t X : Int} {x3 : Option VT} (hf : ∀ j, 0 ≤ j → j < 81 → iv 45 j = f j) (hfr : ∀ j, 0 ≤ f j ∧ f j ≤ 99) (hc : 0 ≤ c ∧ c ≤ 80) (hw : 0 ≤ w ∧ w ≤ 3) (hX : nx1 (fun _ => f) 0 c w t = X) (K : t = X → ∀ y3 : Option VT, J l (yX4_nearerThan).cls cX4_nearerThan 4 (some FieldType.int) 1 0 0 false F (fun v S iv2 => v = some (i_ X) ∧ S = S0 ∧ iv2 = iv) 0 0 13 [some (r_ 44), some (i_ c), some (i_ (w + 1)), y3] [] S0 iv) : J l (yX4_nearerThan).cls cX4_nearerThan 4 (some FieldType.int) 1 0 0 false F (fun v S iv2 => v = some (i_ X) ∧ S = S0 ∧ iv2 = iv) 0 0 13 [some (r_ 44), some (i_ c), some (i_ w), x3] [] S0 (iv) := by
  have hbr := besM_rng (w := w) hc
  have hbc : bsC c w = if besM c w < 0 then -1 else besM c w := rfl
  unfold nx1 at hX
  dsimp only at hX
  have hf1 := hfr c
  have hf2 := hfr (besM c w)
  refine J.iload_n (q := 14) dX4_nearerThan_13 rfl ?_ rfl
  refine J.iconst (q := 15) dX4_nearerThan_14 ?_ rfl
  refine J.icmp_ge (tgt := 51) (q := 18) dX4_nearerThan_15 rfl rfl (fun c => absurd c (by omega)) (fun c15 => ?_)
  refine J.iload_n (q := 19) dX4_nearerThan_18 rfl ?_ rfl
  refine J.iload_n (q := 20) dX4_nearerThan_19 rfl ?_ rfl
  refine J.callSN2i (q := 23) dX4_nearerThan_20 mv_X5_beside kS_X5_beside (by decide) ⟨by decide, by decide⟩ (Nat.le_of_ble_eq_true rfl) ⟨by decide, by decide⟩ rfl (c_X5_beside (by omega) (by omega)) ?_
  refine J.istore_n (q := 24) dX4_nearerThan_23 (Nat.le_of_ble_eq_true rfl) ?_ rfl
  refine J.iload_n (q := 25) dX4_nearerThan_24 rfl ?_ rfl
  refine J.if_lt (tgt := 45) (q := 28) (hv := by rw [hbc]; split <;> omega) dX4_nearerThan_25 rfl rfl (fun c25 => ?_) (fun c25 => ?_)
  · rw [if_neg (fun z => by rw [hbc, if_neg (by omega)] at c25; omega)] at hX
    refine J.iinc (q := 48) dX4_nearerThan_45 rfl ?_ rfl
    refine J.goto (tgt := 13) dX4_nearerThan_48 rfl ?_
    exact K hX _
  · have hb0 : 0 ≤ besM c w := by
      by_cases z : besM c w < 0
      · rw [hbc, if_pos z] at c25; omega
      · omega
    rw [hbc, if_neg (by omega)]
    refine J.aload_n (q := 29) dX4_nearerThan_28 rfl ?_ rfl
    refine J.getR (ci := 4) (k0 := 0) (c1 := 45) (q := 32) dX4_nearerThan_29 kF_X4_9 rfl (by decide) (by decide) rfl (by decide) rfl ?_ rfl
    refine J.iload_n (q := 33) dX4_nearerThan_32 rfl ?_ rfl
    refine J.iald (n := 81) (q := 34) dX4_nearerThan_33 rfl (by omega) ?_ rfl
    rw [hf _ (by omega) (by omega)]
    refine J.aload_n (q := 35) dX4_nearerThan_34 rfl ?_ rfl
    refine J.getR (ci := 4) (k0 := 0) (c1 := 45) (q := 38) dX4_nearerThan_35 kF_X4_9 rfl (by decide) (by decide) rfl (by decide) rfl ?_ rfl
    refine J.iload_n (q := 39) dX4_nearerThan_38 rfl ?_ rfl
    refine J.iald (n := 81) (q := 40) dX4_nearerThan_39 rfl (by omega) ?_ rfl
    rw [hf _ (by omega) (by omega)]
    refine J.icmp_ge (tgt := 45) (q := 43) dX4_nearerThan_40 rfl rfl (fun c40 => ?_) (fun c40 => ?_)
    · rw [if_neg (fun z => by omega)] at hX
      refine J.iinc (q := 48) dX4_nearerThan_45 rfl ?_ rfl
      refine J.goto (tgt := 13) dX4_nearerThan_48 rfl ?_
      exact K hX _
    · rw [if_pos ⟨hb0, by omega⟩] at hX
      refine J.iload_n (q := 44) dX4_nearerThan_43 rfl ?_ rfl
      refine J.ireturn dX4_nearerThan_44 rfl ?_
      subst hX; exact ⟨rfl, rfl, rfl⟩

set_option maxRecDepth 100000 in
set_option maxHeartbeats 4000000 in
theorem c_nearerThan44 {l : Launch} {F : Nat × (Int → Int)} {iv : Mm} {op : Int → Bool} {f : Int → Int} {c : Int} (ho : ∀ c, 0 ≤ c → c < 81 → iv 46 c = (if op c = true then 1 else 0)) (hf : ∀ j, 0 ≤ j → j < 81 → iv 45 j = f j) (hfr : ∀ j, 0 ≤ f j ∧ f j ≤ 99) (hc : 0 ≤ c ∧ c ≤ 80) : Ctr l F 1 0 0 yX4_nearerThan cX4_nearerThan 4 (some FieldType.int) [r_ 44, i_ c] S0 (iv) (Ret (some (i_ (nxC op f c))) S0 iv) := by
  refine Ctr.of false (fun h => by cases h) (by decide) rfl (Nat.le_of_ble_eq_true rfl) ?_
  refine J.aload_n (q := 1) dX4_nearerThan_0 rfl ?_ rfl
  refine J.getR (ci := 4) (k0 := 1) (c1 := 46) (q := 4) dX4_nearerThan_1 kF_X4_15 rfl (by decide) (by decide) rfl (by decide) rfl ?_ rfl
  refine J.iload_n (q := 5) dX4_nearerThan_4 rfl ?_ rfl
  refine J.zald (n := 81) (q := 6) dX4_nearerThan_5 rfl (by omega) ?_ rfl
  rw [ho _ (by omega) (by omega)]
  refine J.if_ne (tgt := 11) (q := 9) (hv := by split <;> omega) dX4_nearerThan_6 rfl rfl (fun c6 => ?_) (fun c6 => ?_)
  · have hx : nxC op f c = nxF f c := if_pos (by
      by_cases z : op c = true
      · exact z
      · rw [if_neg z] at c6; omega)
    rw [hx]
    refine J.iconst (q := 12) dX4_nearerThan_11 ?_ rfl
    refine J.istore_n (q := 13) dX4_nearerThan_12 (Nat.le_of_ble_eq_true rfl) ?_ rfl
    refine nearerThan44_w (X := nxF f c) (w := 0) hf hfr hc (by omega) rfl (fun e1 y3 => ?_)
    refine nearerThan44_w (X := nxF f c) (w := 1) hf hfr hc (by omega) e1 (fun e2 y3 => ?_)
    refine nearerThan44_w (X := nxF f c) (w := 2) hf hfr hc (by omega) e2 (fun e3 y3 => ?_)
    refine nearerThan44_w (X := nxF f c) (w := 3) hf hfr hc (by omega) e3 (fun e4 y3 => ?_)
    rw [← e4]
    refine J.iload_n (q := 14) dX4_nearerThan_13 rfl ?_ rfl
    refine J.iconst (q := 15) dX4_nearerThan_14 ?_ rfl
    refine J.icmp_ge (tgt := 51) (q := 18) dX4_nearerThan_15 rfl rfl (fun c15 => ?_) (fun c => absurd c (by omega))
    refine J.iload_n (q := 52) dX4_nearerThan_51 rfl ?_ rfl
    refine J.ireturn dX4_nearerThan_52 rfl ?_
    exact ⟨rfl, rfl, rfl⟩
  · have hx : nxC op f c = c := if_neg (fun z => by rw [if_pos z] at c6; omega)
    rw [hx]
    refine J.iload_n (q := 10) dX4_nearerThan_9 rfl ?_ rfl
    refine J.ireturn dX4_nearerThan_10 rfl ?_
    exact ⟨rfl, rfl, rfl⟩

def Sv44 (iv : Mm) (s : Int → Int) : Prop := ∀ k c, 0 ≤ k → k < s 2 → 0 ≤ c → c < 81 → iv 48 (81 * k + c) = fdst s k c ∧ iv 49 (81 * k + c) = nxC (opH s) (fdst s k) c
set_option maxRecDepth 100000 in
set_option maxHeartbeats 4000000 in
theorem survey44_cells {l : Launch} {F : Nat × (Int → Int)} {iv : Mm} {D : Int} {s : Int → Int} (hR : RR iv 1 s) (hI : MI D s) {k : Int} (hk : 0 ≤ k ∧ k < s 2) (K : ∀ (iv2 : Mm), (∀ q, (q ≤ 44 ∨ 49 < q) → iv2 q = iv q) → (∀ c, 0 ≤ c → c < 81 → iv2 46 c = (if opH s c = true then 1 else 0)) → (∀ a c, 0 ≤ a → a < k + 1 → 0 ≤ c → c < 81 → iv2 48 (81 * a + c) = fdst s a c ∧ iv2 49 (81 * a + c) = nxC (opH s) (fdst s a) c) → J l (yX4_survey).cls cX4_survey 4 none 3 0 0 false F (fun v S iv2 => v = none ∧ S = S0 ∧ (∀ q, (q ≤ 44 ∨ 49 < q) → iv2 q = iv q) ∧ Sv44 iv2 s) 0 0 72 [some (r_ 44), some (r_ 1), some (i_ k), some (i_ 81)] [] S0 iv2) : ∀ (n : Nat) (c : Int) (iv1 : Mm), (81 - c < n) → (0 ≤ c ∧ c ≤ 81) → (∀ q, (q ≤ 44 ∨ 49 < q) → iv1 q = iv q) → (∀ c, 0 ≤ c → c < 81 → iv1 46 c = (if opH s c = true then 1 else 0)) → (∀ j, 0 ≤ j → j < 81 → iv1 45 j = fdst s k j) → ((∀ a c, 0 ≤ a → a < k → 0 ≤ c → c < 81 → iv1 48 (81 * a + c) = fdst s a c ∧ iv1 49 (81 * a + c) = nxC (opH s) (fdst s a) c)) → (∀ j, 0 ≤ j → j < c → iv1 48 (81 * k + j) = fdst s k j ∧ iv1 49 (81 * k + j) = nxC (opH s) (fdst s k) j) → J l (yX4_survey).cls cX4_survey 4 none 3 0 0 false F (fun v S iv2 => v = none ∧ S = S0 ∧ (∀ q, (q ≤ 44 ∨ 49 < q) → iv2 q = iv q) ∧ Sv44 iv2 s) 0 0 27 [some (r_ 44), some (r_ 1), some (i_ k), some (i_ c)] [] S0 (iv1) := by
  intro n
  induction n with
  | zero =>
    intro c iv1 hn hc hf ho hs hd he
    omega
  | succ n ih =>
    intro c iv1 hn hc hf ho hs hd he
    have hmm := hI.many
    have hfd := fun j => fdst_rng hI (k := k) (by omega) j
    refine J.iload_n (q := 28) dX4_survey_27 rfl ?_ rfl
    refine J.bipush (q := 30) dX4_survey_28 (by decide) ?_ rfl
    refine J.icmp_ge (tgt := 72) (q := 33) dX4_survey_30 rfl rfl (fun c30 => ?_) (fun c30 => ?_)
    · have hc81 : c = 81 := by omega
      subst hc81
      refine K iv1 hf ho (fun a e a0 a1 e0 e1 => ?_)
      by_cases hak : a = k
      · subst hak; exact he e e0 (by omega)
      · exact hd a e a0 (by omega) e0 e1
    · refine J.aload_n (q := 34) dX4_survey_33 rfl ?_ rfl
      refine J.getR (ci := 4) (k0 := 3) (c1 := 48) (q := 37) dX4_survey_34 kF_X4_22 rfl (by decide) (by decide) rfl (by decide) rfl ?_ rfl
      refine J.iload_n (q := 38) dX4_survey_37 rfl ?_ rfl
      refine J.bipush (q := 40) dX4_survey_38 (by decide) ?_ rfl
      refine J.imul (q := 41) dX4_survey_40 ?_ rfl
      refine J.iload_n (q := 42) dX4_survey_41 rfl ?_ rfl
      refine J.iadd (q := 43) dX4_survey_42 ?_ rfl
      refine J.aload_n (q := 44) dX4_survey_43 rfl ?_ rfl
      refine J.getR (ci := 4) (k0 := 0) (c1 := 45) (q := 47) dX4_survey_44 kF_X4_9 rfl (by decide) (by decide) rfl (by decide) rfl ?_ rfl
      refine J.iload_n (q := 48) dX4_survey_47 rfl ?_ rfl
      refine J.iald (n := 81) (q := 49) dX4_survey_48 rfl (by omega) ?_ rfl
      rw [hs _ (by omega) (by omega)]
      refine J.iast (n := 648) (q := 50) dX4_survey_49 rfl (by omega) ?_ rfl
      refine J.aload_n (q := 51) dX4_survey_50 rfl ?_ rfl
      refine J.getR (ci := 4) (k0 := 4) (c1 := 49) (q := 54) dX4_survey_51 kF_X4_25 rfl (by decide) (by decide) rfl (by decide) rfl ?_ rfl
      refine J.iload_n (q := 55) dX4_survey_54 rfl ?_ rfl
      refine J.bipush (q := 57) dX4_survey_55 (by decide) ?_ rfl
      refine J.imul (q := 58) dX4_survey_57 ?_ rfl
      refine J.iload_n (q := 59) dX4_survey_58 rfl ?_ rfl
      refine J.iadd (q := 60) dX4_survey_59 ?_ rfl
      refine J.aload_n (q := 61) dX4_survey_60 rfl ?_ rfl
      refine J.iload_n (q := 62) dX4_survey_61 rfl ?_ rfl
      refine J.callV1i (ci := 4) (q := 65) dX4_survey_62 mv_X4_nearerThan kL_X4_65 rfl (by decide) rfl ⟨by decide, by decide⟩ (Nat.le_of_ble_eq_true rfl) ⟨by decide, by decide⟩ rfl (c_nearerThan44 (op := opH s) (f := fdst s k) (fun a a0 a1 => by rw [up_n _ _ _ (by decide)]; exact ho a a0 a1) (fun j j0 j1 => by rw [up_n _ _ _ (by decide)]; exact hs j j0 j1) hfd (by omega)) ?_
      refine J.iast (n := 648) (q := 66) dX4_survey_65 rfl (by omega) ?_ rfl
      refine J.iinc (q := 69) dX4_survey_66 rfl ?_ rfl
      refine J.goto (tgt := 27) dX4_survey_69 rfl ?_
      refine ih (c + 1) _ (by omega) (by omega) (fun q hq => ?_) (fun a a0 a1 => ?_) (fun j j0 j1 => ?_) (fun a e a0 a1 e0 e1 => ?_) (fun j j0 j1 => ?_)
      · rw [up_n _ _ _ (by omega), up_n _ _ _ (by omega)]; exact hf q hq
      · rw [up_n _ _ _ (by decide), up_n _ _ _ (by decide)]; exact ho a a0 a1
      · rw [up_n _ _ _ (by decide), up_n _ _ _ (by decide)]; exact hs j j0 j1
      · rw [up_n _ _ _ (by decide), up_s, up_s, upr_n _ _ (by omega), upr_n _ _ (by omega), up_n _ _ _ (by decide)]; exact hd a e a0 a1 e0 e1
      · rw [up_n _ _ _ (by decide), up_s, up_s]
        by_cases hj : j = c
        · subst hj
          rw [Int.mul_comm 81 k, upr_s, upr_s]; exact ⟨rfl, rfl⟩
        · rw [upr_n _ _ (by omega), upr_n _ _ (by omega), up_n _ _ _ (by decide)]; exact he j j0 (by omega)

set_option maxRecDepth 100000 in
set_option maxHeartbeats 4000000 in
theorem survey44_loop {l : Launch} {F : Nat × (Int → Int)} {iv : Mm} {D : Int} {s : Int → Int} (hR : RR iv 1 s) (hI : MI D s) : ∀ (n : Nat) (k : Int) (iv1 : Mm) (y3 : Option VT), (8 - k < n) → (0 ≤ k ∧ k ≤ s 2) → (∀ q, (q ≤ 44 ∨ 49 < q) → iv1 q = iv q) → (∀ c, 0 ≤ c → c < 81 → iv1 46 c = (if opH s c = true then 1 else 0)) → ((∀ a c, 0 ≤ a → a < k → 0 ≤ c → c < 81 → iv1 48 (81 * a + c) = fdst s a c ∧ iv1 49 (81 * a + c) = nxC (opH s) (fdst s a) c)) → J l (yX4_survey).cls cX4_survey 4 none 3 0 0 false F (fun v S iv2 => v = none ∧ S = S0 ∧ (∀ q, (q ≤ 44 ∨ 49 < q) → iv2 q = iv q) ∧ Sv44 iv2 s) 0 0 7 [some (r_ 44), some (r_ 1), some (i_ k), y3] [] S0 (iv1) := by
  intro n
  induction n with
  | zero =>
    intro k iv1 y3 hn hk hf ho hd
    have := hI.many
    omega
  | succ n ih =>
    intro k iv1 y3 hn hk hf ho hd
    have hmm := hI.many
    have hR1 : RR iv1 1 s := f1 hR (fun q q1 q2 q3 => hf q (by omega))
    refine J.iload_n (q := 8) dX4_survey_7 rfl ?_ rfl
    refine J.aload_n (q := 9) dX4_survey_8 rfl ?_ rfl
    refine J.getI (ci := 1) (k0 := 11) (kz := 11) (q := 12) dX4_survey_9 kF_X4_54 rfl (by decide) (by decide) rfl (.inl rfl) ?_ rfl
    rw [g1_many hR1]
    refine J.icmp_ge (tgt := 78) (q := 15) dX4_survey_12 rfl rfl (fun c12 => ?_) (fun c12 => ?_)
    · refine J.vreturn dX4_survey_78 rfl ?_
      exact ⟨rfl, rfl, hf, fun a c a0 a1 c0 c1 => hd a c a0 (by omega) c0 c1⟩
    · refine J.aload_n (q := 16) dX4_survey_15 rfl ?_ rfl
      refine J.aload_n (q := 17) dX4_survey_16 rfl ?_ rfl
      refine J.getR (ci := 1) (k0 := 8) (c1 := 10) (q := 20) dX4_survey_17 kF_X4_58 rfl (by decide) (by decide) rfl (by decide) rfl ?_ rfl
      refine J.iload_n (q := 21) dX4_survey_20 rfl ?_ rfl
      refine J.iald (n := 8) (q := 22) dX4_survey_21 rfl (by omega) ?_ rfl
      rw [g1_gat hR1 (by omega) (by omega)]
      have hgs := (hI.sna k (by omega) (by omega)).2.2.2.1
      refine J.callV1 (ci := 4) (q := 25) dX4_survey_22 mv_X4_measure kL_X4_61 rfl (by decide) rfl ⟨by decide, by decide⟩ (Nat.le_of_ble_eq_true rfl) ⟨by decide, by decide⟩ rfl (c_measure44 (op := opH s) (by omega) ho) (fun v9 S9 iv9 hp => ?_)
      obtain ⟨rfl, rfl, m1, m2⟩ := hp
      refine J.iconst (q := 26) dX4_survey_25 ?_ rfl
      refine J.istore_n (q := 27) dX4_survey_26 (Nat.le_of_ble_eq_true rfl) ?_ rfl
      refine survey44_cells hR hI (k := k) (by omega) (fun iv2 a1 a2 a3 => ?_) 82 0 iv9 (by omega) (by omega) (fun q hq => (m1 q (by omega) (by omega)).trans (hf q hq)) (fun a a0 a1 => by rw [m1 46 (by decide) (by decide)]; exact ho a a0 a1) (fun j j0 j1 => m2 j j0 j1) (fun a e a0 a1 e0 e1 => by rw [m1 48 (by decide) (by decide), m1 49 (by decide) (by decide)]; exact hd a e a0 a1 e0 e1) (fun j j0 j1 => by omega)
      refine J.iinc (q := 75) dX4_survey_72 rfl ?_ rfl
      refine J.goto (tgt := 7) dX4_survey_75 rfl ?_
      exact ih (k + 1) iv2 _ (by omega) (by omega) a1 a2 a3

set_option maxRecDepth 100000 in
set_option maxHeartbeats 4000000 in
theorem c_survey44 {l : Launch} {F : Nat × (Int → Int)} {iv : Mm} {D : Int} {s : Int → Int} (hR : RR iv 1 s) (hI : MI D s) : Ctr l F 3 0 0 yX4_survey cX4_survey 4 none [r_ 44, r_ 1] S0 (iv) (fun v S iv2 => v = none ∧ S = S0 ∧ (∀ q, (q ≤ 44 ∨ 49 < q) → iv2 q = iv q) ∧ Sv44 iv2 s) := by
  refine Ctr.of false (fun h => by cases h) (by decide) rfl (Nat.le_of_ble_eq_true rfl) ?_
  refine J.aload_n (q := 1) dX4_survey_0 rfl ?_ rfl
  refine J.aload_n (q := 2) dX4_survey_1 rfl ?_ rfl
  refine J.callV1 (ci := 4) (q := 5) dX4_survey_2 mv_X4_openLand kL_X4_50 rfl (by decide) rfl ⟨by decide, by decide⟩ (Nat.le_of_ble_eq_true rfl) ⟨by decide, by decide⟩ rfl (c_openLand44 hR hI) (fun v9 S9 iv9 hp => ?_)
  obtain ⟨rfl, rfl, l1, l2⟩ := hp
  refine J.iconst (q := 6) dX4_survey_5 ?_ rfl
  refine J.istore_n (q := 7) dX4_survey_6 (Nat.le_of_ble_eq_true rfl) ?_ rfl
  exact survey44_loop hR hI 9 0 iv9 none (by omega) (by have := hI.many; omega) (fun q hq => l1 q (by omega)) l2 (fun a c a0 a1 c0 c1 => by omega)

set_option maxRecDepth 100000 in
set_option maxHeartbeats 4000000 in
theorem c_gateStepsOf44 {l : Launch} {F : Nat × (Int → Int)} {iv : Mm} {s : Int → Int} (hS : Sv44 iv s) {k c : Int} (hk : 0 ≤ k ∧ k < s 2) (hm : s 2 ≤ 8) (hc : 0 ≤ c ∧ c ≤ 80) : Ctr l F 0 0 0 yX4_gateStepsOf cX4_gateStepsOf 3 (some FieldType.int) [r_ 44, i_ k, i_ c] S0 (iv) (Ret (some (i_ (fdst s k c))) S0 iv) := by
  refine Ctr.of false (fun h => by cases h) (by decide) rfl (Nat.le_of_ble_eq_true rfl) ?_
  have hSk := hS k c (by omega) (by omega) (by omega) (by omega)
  rw [Int.mul_comm 81 k] at hSk
  refine J.aload_n (q := 1) dX4_gateStepsOf_0 rfl ?_ rfl
  refine J.getR (ci := 4) (k0 := 3) (c1 := 48) (q := 4) dX4_gateStepsOf_1 kF_X4_22 rfl (by decide) (by decide) rfl (by decide) rfl ?_ rfl
  refine J.iload_n (q := 5) dX4_gateStepsOf_4 rfl ?_ rfl
  refine J.bipush (q := 7) dX4_gateStepsOf_5 (by decide) ?_ rfl
  refine J.imul (q := 8) dX4_gateStepsOf_7 ?_ rfl
  refine J.iload_n (q := 9) dX4_gateStepsOf_8 rfl ?_ rfl
  refine J.iadd (q := 10) dX4_gateStepsOf_9 ?_ rfl
  refine J.iald (n := 648) (q := 11) dX4_gateStepsOf_10 rfl (by omega) ?_ rfl
  refine J.ireturn dX4_gateStepsOf_11 rfl ?_
  exact ⟨congrArg (fun z => some (i_ z)) hSk.1, rfl, rfl⟩

set_option maxRecDepth 100000 in
set_option maxHeartbeats 4000000 in
theorem c_nextOf44 {l : Launch} {F : Nat × (Int → Int)} {iv : Mm} {s : Int → Int} (hS : Sv44 iv s) {k c : Int} (hk : 0 ≤ k ∧ k < s 2) (hm : s 2 ≤ 8) (hc : 0 ≤ c ∧ c ≤ 80) : Ctr l F 0 0 0 yX4_nextOf cX4_nextOf 3 (some FieldType.int) [r_ 44, i_ k, i_ c] S0 (iv) (Ret (some (i_ (nxC (opH s) (fdst s k) c))) S0 iv) := by
  refine Ctr.of false (fun h => by cases h) (by decide) rfl (Nat.le_of_ble_eq_true rfl) ?_
  have hSk := hS k c (by omega) (by omega) (by omega) (by omega)
  rw [Int.mul_comm 81 k] at hSk
  refine J.aload_n (q := 1) dX4_nextOf_0 rfl ?_ rfl
  refine J.getR (ci := 4) (k0 := 4) (c1 := 49) (q := 4) dX4_nextOf_1 kF_X4_25 rfl (by decide) (by decide) rfl (by decide) rfl ?_ rfl
  refine J.iload_n (q := 5) dX4_nextOf_4 rfl ?_ rfl
  refine J.bipush (q := 7) dX4_nextOf_5 (by decide) ?_ rfl
  refine J.imul (q := 8) dX4_nextOf_7 ?_ rfl
  refine J.iload_n (q := 9) dX4_nextOf_8 rfl ?_ rfl
  refine J.iadd (q := 10) dX4_nextOf_9 ?_ rfl
  refine J.iald (n := 648) (q := 11) dX4_nextOf_10 rfl (by omega) ?_ rfl
  refine J.ireturn dX4_nextOf_11 rfl ?_
  exact ⟨congrArg (fun z => some (i_ z)) hSk.2, rfl, rfl⟩

set_option maxRecDepth 100000 in
set_option maxHeartbeats 4000000 in
theorem openLand38_loop {l : Launch} {F : Nat × (Int → Int)} {iv : Mm} {D : Int} {s : Int → Int} (hR : RR iv 1 s) (hI : MI D s) : ∀ (n : Nat) (c : Int) (iv1 : Mm), (81 - c < n) → (0 ≤ c ∧ c ≤ 81) → (∀ q, q ≠ 40 → iv1 q = iv q) → (∀ j, 0 ≤ j → j < c → iv1 40 j = (if opH s j = true then 1 else 0)) → J l (yX4_openLand).cls cX4_openLand 3 none 0 0 0 false F (fun v S iv2 => v = none ∧ S = S0 ∧ (∀ q, q ≠ 40 → iv2 q = iv q) ∧ ∀ c, 0 ≤ c → c < 81 → iv2 40 c = (if opH s c = true then 1 else 0)) 0 0 2 [some (r_ 38), some (r_ 1), some (i_ c)] [] S0 (iv1) := by
  intro n
  induction n with
  | zero =>
    intro c iv1 hn hc hf hd
    omega
  | succ n ih =>
    intro c iv1 hn hc hf hd
    refine J.iload_n (q := 3) dX4_openLand_2 rfl ?_ rfl
    refine J.bipush (q := 5) dX4_openLand_3 (by decide) ?_ rfl
    refine J.icmp_ge (tgt := 34) (q := 8) dX4_openLand_5 rfl rfl (fun c5 => ?_) (fun c5 => ?_)
    · refine J.vreturn dX4_openLand_34 rfl ?_
      exact ⟨rfl, rfl, hf, fun j h0 h1 => hd j h0 (by omega)⟩
    · refine J.aload_n (q := 9) dX4_openLand_8 rfl ?_ rfl
      refine J.getR (ci := 4) (k0 := 1) (c1 := 40) (q := 12) dX4_openLand_9 kF_X4_15 rfl (by decide) (by decide) rfl (by decide) rfl ?_ rfl
      refine J.iload_n (q := 13) dX4_openLand_12 rfl ?_ rfl
      refine J.aload_n (q := 14) dX4_openLand_13 rfl ?_ rfl
      refine J.getR (ci := 1) (k0 := 0) (c1 := 2) (q := 17) dX4_openLand_14 kF_X4_28 rfl (by decide) (by decide) rfl (by decide) rfl ?_ rfl
      refine J.iload_n (q := 18) dX4_openLand_17 rfl ?_ rfl
      refine J.iald (n := 81) (q := 19) dX4_openLand_18 rfl (by omega) ?_ rfl
      rw [hf 2 (by decide), g1_hed hR (by omega) (by omega)]
      have hcl := hI.cel c (by omega) (by omega)
      
      refine J.if_ne (tgt := 26) (q := 22) dX4_openLand_19 rfl rfl (fun c19 => ?_) (fun c19 => ?_)
      · have ho := opH_q (s := s) (c := c) (by omega) (by omega)
        refine J.iconst (q := 27) dX4_openLand_26 ?_ rfl
        refine J.zast (n := 81) (q := 28) dX4_openLand_27 rfl (by omega) (by omega) ?_ rfl
        refine J.iinc (q := 31) dX4_openLand_28 rfl ?_ rfl
        refine J.goto (tgt := 2) dX4_openLand_31 rfl ?_
        refine ih (c + 1) _ (by omega) (by omega) (fun q hq => ?_) (fun j h0 h1 => ?_)
        · rw [up_n _ _ _ hq]; exact hf q hq
        · rw [up_s]
          by_cases hj : j = c
          · subst hj; rw [upr_s, ho]
          · rw [upr_n _ _ hj]; exact hd j h0 (by omega)
      · have ho := opH_p (s := s) (c := c) (by omega)
        refine J.iconst (q := 23) dX4_openLand_22 ?_ rfl
        refine J.goto (tgt := 27) dX4_openLand_23 rfl ?_
        refine J.zast (n := 81) (q := 28) dX4_openLand_27 rfl (by omega) (by omega) ?_ rfl
        refine J.iinc (q := 31) dX4_openLand_28 rfl ?_ rfl
        refine J.goto (tgt := 2) dX4_openLand_31 rfl ?_
        refine ih (c + 1) _ (by omega) (by omega) (fun q hq => ?_) (fun j h0 h1 => ?_)
        · rw [up_n _ _ _ hq]; exact hf q hq
        · rw [up_s]
          by_cases hj : j = c
          · subst hj; rw [upr_s, ho]
          · rw [upr_n _ _ hj]; exact hd j h0 (by omega)

set_option maxRecDepth 100000 in
set_option maxHeartbeats 4000000 in
theorem c_openLand38 {l : Launch} {F : Nat × (Int → Int)} {iv : Mm} {D : Int} {s : Int → Int} (hR : RR iv 1 s) (hI : MI D s) : Ctr l F 0 0 0 yX4_openLand cX4_openLand 3 none [r_ 38, r_ 1] S0 (iv) (fun v S iv2 => v = none ∧ S = S0 ∧ (∀ q, q ≠ 40 → iv2 q = iv q) ∧ ∀ c, 0 ≤ c → c < 81 → iv2 40 c = (if opH s c = true then 1 else 0)) := by
  refine Ctr.of false (fun h => by cases h) (by decide) rfl (Nat.le_of_ble_eq_true rfl) ?_
  refine J.iconst (q := 1) dX4_openLand_0 ?_ rfl
  refine J.istore_n (q := 2) dX4_openLand_1 (Nat.le_of_ble_eq_true rfl) ?_ rfl
  exact openLand38_loop hR hI 82 0 iv (by omega) (by omega) (fun _ _ => rfl) (fun j h0 h1 => by omega)

def RB38 (iv iv1 : Mm) (T : T3) : Prop := (∀ q, q ≠ 39 → q ≠ 41 → iv1 q = iv q) ∧ (∀ c, 0 ≤ c → c < 81 → iv1 39 c = T.1 c) ∧ ∀ j, 0 ≤ j → j < T.2.2 → iv1 41 j = T.2.1 j
set_option maxRecDepth 100000 in
set_option maxHeartbeats 4000000 in
theorem spreadFrom38_w {l : Launch} {F : Nat × (Int → Int)} {iv iv1 : Mm} {op : Int → Bool} (ho : ∀ c, 0 ≤ c → c < 81 → iv 40 c = (if op c = true then 1 else 0)) {X T : T3} {i w c0 z2 : Int} {x5 : Option VT} (hT : BI T) (hi9 : 0 ≤ i ∧ i < T.2.2) (hw : 0 ≤ w ∧ w ≤ 3) (hc0 : T.2.1 i = c0) (hR : RB38 iv iv1 T) (K : ∀ (iv2 : Mm) (y5 : Option VT), RB38 iv iv2 (rlx op i w T) → J l (yX4_spreadFrom).cls cX4_spreadFrom 6 (some FieldType.int) 1 0 0 false F (fun v S iv2 => v = some (i_ X.2.2) ∧ S = S0 ∧ RB38 iv iv2 X) 0 0 5 [some (r_ 38), some (i_ c0), some (i_ z2), some (i_ (rlx op i w T).2.2), some (i_ (w + 1)), y5] [] S0 (iv2)) : J l (yX4_spreadFrom).cls cX4_spreadFrom 6 (some FieldType.int) 1 0 0 false F (fun v S iv2 => v = some (i_ X.2.2) ∧ S = S0 ∧ RB38 iv iv2 X) 0 0 5 [some (r_ 38), some (i_ c0), some (i_ z2), some (i_ T.2.2), some (i_ w), x5] [] S0 (iv1) := by
  obtain ⟨h1, h2, h4⟩ := id hR
  have hm := hT.m
  have hoi := hT.2.1 i hi9.1 hi9.2
  rw [hc0] at hoi
  have hbr := besM_rng (w := w) hoi.1
  have hbc : bsC c0 w = if besM c0 w < 0 then -1 else besM c0 w := rfl
  refine J.iload (q := 7) dX4_spreadFrom_5 rfl ?_ rfl
  refine J.iconst (q := 8) dX4_spreadFrom_7 ?_ rfl
  refine J.icmp_ge (tgt := 84) (q := 11) dX4_spreadFrom_8 rfl rfl (fun c => absurd c (by omega)) (fun c8 => ?_)
  refine J.iload_n (q := 12) dX4_spreadFrom_11 rfl ?_ rfl
  refine J.iload (q := 14) dX4_spreadFrom_12 rfl ?_ rfl
  refine J.callSN2i (q := 17) dX4_spreadFrom_14 mv_X5_beside kS_X5_beside (by decide) ⟨by decide, by decide⟩ (Nat.le_of_ble_eq_true rfl) ⟨by decide, by decide⟩ rfl (c_X5_beside (by omega) (by omega)) ?_
  refine J.istore (q := 19) dX4_spreadFrom_17 (Nat.le_of_ble_eq_true rfl) ?_ rfl
  refine J.iload (q := 21) dX4_spreadFrom_19 rfl ?_ rfl
  refine J.if_lt (tgt := 78) (q := 24) (hv := by rw [hbc]; split <;> omega) dX4_spreadFrom_21 rfl rfl (fun c21 => ?_) (fun c21 => ?_)
  · have hrl : rlx op i w T = T := if_neg (fun z => by
      rw [hc0] at z
      rw [hbc, if_neg (by omega)] at c21
      omega)
    refine J.iinc (q := 81) dX4_spreadFrom_78 rfl ?_ rfl
    refine J.goto (tgt := 5) dX4_spreadFrom_81 rfl ?_
    first
    | (rw [hrl] at K; exact K iv1 _ hR)
    | (refine K _ _ ?_ |> fun z => J.eql (by rw [hrl]; rfl) z
       rw [hrl]
       refine ⟨fun q z1 z2 => ?_, fun c z1 z2 => ?_, fun j z1 z2 => ?_⟩
       · rw [up_n _ _ _ z2, up_n _ _ _ z1]; exact h1 q z1 z2
       · rw [up_n _ _ _ (by decide), up_s]
         show _ = upr _ _ _ c
         by_cases hc : c = besM c0 w
         · subst hc; rw [upr_s, upr_s]
         · rw [upr_n _ _ hc, upr_n _ _ hc]; exact h2 c z1 z2
       · rw [up_s, up_n _ _ _ (by decide)]
         show _ = upr _ _ _ j
         have z2 : j < T.2.2 + 1 := z2
         by_cases hj : j = T.2.2
         · subst hj; rw [upr_s, upr_s]
         · rw [upr_n _ _ hj, upr_n _ _ hj]; exact h4 j z1 (by omega))
  · have hb0 : 0 ≤ besM c0 w := by
      by_cases z : besM c0 w < 0
      · rw [hbc, if_pos z] at c21; omega
      · omega
    rw [hbc, if_neg (by omega)]
    refine J.aload_n (q := 25) dX4_spreadFrom_24 rfl ?_ rfl
    refine J.getR (ci := 4) (k0 := 1) (c1 := 40) (q := 28) dX4_spreadFrom_25 kF_X4_15 rfl (by decide) (by decide) rfl (by decide) rfl ?_ rfl
    refine J.iload (q := 30) dX4_spreadFrom_28 rfl ?_ rfl
    refine J.zald (n := 81) (q := 31) dX4_spreadFrom_30 rfl (by omega) ?_ rfl
    rw [h1 40 (by decide) (by decide), ho _ (by omega) (by omega)]
    refine J.if_eq (tgt := 78) (q := 34) (hv := by split <;> omega) dX4_spreadFrom_31 rfl rfl (fun c31 => ?_) (fun c31 => ?_)
    · have hrl : rlx op i w T = T := if_neg (fun z => by
        rw [hc0] at z
        rw [if_pos z.2.1] at c31
        omega)
      refine J.iinc (q := 81) dX4_spreadFrom_78 rfl ?_ rfl
      refine J.goto (tgt := 5) dX4_spreadFrom_81 rfl ?_
      first
      | (rw [hrl] at K; exact K iv1 _ hR)
      | (refine K _ _ ?_ |> fun z => J.eql (by rw [hrl]; rfl) z
         rw [hrl]
         refine ⟨fun q z1 z2 => ?_, fun c z1 z2 => ?_, fun j z1 z2 => ?_⟩
         · rw [up_n _ _ _ z2, up_n _ _ _ z1]; exact h1 q z1 z2
         · rw [up_n _ _ _ (by decide), up_s]
           show _ = upr _ _ _ c
           by_cases hc : c = besM c0 w
           · subst hc; rw [upr_s, upr_s]
           · rw [upr_n _ _ hc, upr_n _ _ hc]; exact h2 c z1 z2
         · rw [up_s, up_n _ _ _ (by decide)]
           show _ = upr _ _ _ j
           have z2 : j < T.2.2 + 1 := z2
           by_cases hj : j = T.2.2
           · subst hj; rw [upr_s, upr_s]
           · rw [upr_n _ _ hj, upr_n _ _ hj]; exact h4 j z1 (by omega))
    · have hop : op (besM c0 w) = true := by
        by_cases z : op (besM c0 w) = true
        · exact z
        · rw [if_neg z] at c31; omega
      refine J.aload_n (q := 35) dX4_spreadFrom_34 rfl ?_ rfl
      refine J.getR (ci := 4) (k0 := 0) (c1 := 39) (q := 38) dX4_spreadFrom_35 kF_X4_9 rfl (by decide) (by decide) rfl (by decide) rfl ?_ rfl
      refine J.iload (q := 40) dX4_spreadFrom_38 rfl ?_ rfl
      refine J.iald (n := 81) (q := 41) dX4_spreadFrom_40 rfl (by omega) ?_ rfl
      rw [h2 _ (by omega) (by omega)]
      have hfc := hT.2.2 (besM c0 w)
      refine J.bipush (q := 43) dX4_spreadFrom_41 (by decide) ?_ rfl
      refine J.icmp_ne (tgt := 78) (q := 46) dX4_spreadFrom_43 rfl rfl (fun c43 => ?_) (fun c43 => ?_)
      · have hrl : rlx op i w T = T := if_neg (fun z => by rw [hc0] at z; exact c43 z.2.2)
        refine J.iinc (q := 81) dX4_spreadFrom_78 rfl ?_ rfl
        refine J.goto (tgt := 5) dX4_spreadFrom_81 rfl ?_
        first
        | (rw [hrl] at K; exact K iv1 _ hR)
        | (refine K _ _ ?_ |> fun z => J.eql (by rw [hrl]; rfl) z
           rw [hrl]
           refine ⟨fun q z1 z2 => ?_, fun c z1 z2 => ?_, fun j z1 z2 => ?_⟩
           · rw [up_n _ _ _ z2, up_n _ _ _ z1]; exact h1 q z1 z2
           · rw [up_n _ _ _ (by decide), up_s]
             show _ = upr _ _ _ c
             by_cases hc : c = besM c0 w
             · subst hc; rw [upr_s, upr_s]
             · rw [upr_n _ _ hc, upr_n _ _ hc]; exact h2 c z1 z2
           · rw [up_s, up_n _ _ _ (by decide)]
             show _ = upr _ _ _ j
             have z2 : j < T.2.2 + 1 := z2
             by_cases hj : j = T.2.2
             · subst hj; rw [upr_s, upr_s]
             · rw [upr_n _ _ hj, upr_n _ _ hj]; exact h4 j z1 (by omega))
      · have hrl : rlx op i w T = (upr T.1 (besM c0 w) (T.1 c0 + 1), upr T.2.1 T.2.2 (besM c0 w), T.2.2 + 1) := by
          unfold rlx
          rw [hc0]
          exact if_pos ⟨by omega, hop, c43⟩
        have hm81 := cnt_lt T.1 (besM c0 w) c43 81 (by omega)
        rw [← hT.1] at hm81
        refine J.iload_n (q := 47) dX4_spreadFrom_46 rfl ?_ rfl
        refine J.bipush (q := 49) dX4_spreadFrom_47 (by decide) ?_ rfl
        refine J.icmp_ge (tgt := 78) (q := 52) dX4_spreadFrom_49 rfl rfl (fun c => absurd c (by omega)) (fun c49 => ?_)
        refine J.aload_n (q := 53) dX4_spreadFrom_52 rfl ?_ rfl
        refine J.getR (ci := 4) (k0 := 0) (c1 := 39) (q := 56) dX4_spreadFrom_53 kF_X4_9 rfl (by decide) (by decide) rfl (by decide) rfl ?_ rfl
        refine J.iload (q := 58) dX4_spreadFrom_56 rfl ?_ rfl
        refine J.aload_n (q := 59) dX4_spreadFrom_58 rfl ?_ rfl
        refine J.getR (ci := 4) (k0 := 0) (c1 := 39) (q := 62) dX4_spreadFrom_59 kF_X4_9 rfl (by decide) (by decide) rfl (by decide) rfl ?_ rfl
        refine J.iload_n (q := 63) dX4_spreadFrom_62 rfl ?_ rfl
        refine J.iald (n := 81) (q := 64) dX4_spreadFrom_63 rfl (by omega) ?_ rfl
        rw [h2 _ (by omega) (by omega)]
        refine J.iconst (q := 65) dX4_spreadFrom_64 ?_ rfl
        refine J.iadd (q := 66) dX4_spreadFrom_65 ?_ rfl
        refine J.iast (n := 81) (q := 67) dX4_spreadFrom_66 rfl (by omega) ?_ rfl
        refine J.aload_n (q := 68) dX4_spreadFrom_67 rfl ?_ rfl
        refine J.getR (ci := 4) (k0 := 2) (c1 := 41) (q := 71) dX4_spreadFrom_68 kF_X4_19 rfl (by decide) (by decide) rfl (by decide) rfl ?_ rfl
        refine J.iload_n (q := 72) dX4_spreadFrom_71 rfl ?_ rfl
        refine J.iload (q := 74) dX4_spreadFrom_72 rfl ?_ rfl
        refine J.iast (n := 81) (q := 75) dX4_spreadFrom_74 rfl (by omega) ?_ rfl
        refine J.iinc (q := 78) dX4_spreadFrom_75 rfl ?_ rfl
        refine J.iinc (q := 81) dX4_spreadFrom_78 rfl ?_ rfl
        refine J.goto (tgt := 5) dX4_spreadFrom_81 rfl ?_
        first
        | (rw [hrl] at K; exact K iv1 _ hR)
        | (refine K _ _ ?_ |> fun z => J.eql (by rw [hrl]; rfl) z
           rw [hrl]
           refine ⟨fun q z1 z2 => ?_, fun c z1 z2 => ?_, fun j z1 z2 => ?_⟩
           · rw [up_n _ _ _ z2, up_n _ _ _ z1]; exact h1 q z1 z2
           · rw [up_n _ _ _ (by decide), up_s]
             show _ = upr _ _ _ c
             by_cases hc : c = besM c0 w
             · subst hc; rw [upr_s, upr_s]
             · rw [upr_n _ _ hc, upr_n _ _ hc]; exact h2 c z1 z2
           · rw [up_s, up_n _ _ _ (by decide)]
             show _ = upr _ _ _ j
             have z2 : j < T.2.2 + 1 := z2
             by_cases hj : j = T.2.2
             · subst hj; rw [upr_s, upr_s]
             · rw [upr_n _ _ hj, upr_n _ _ hj]; exact h4 j z1 (by omega))

set_option maxRecDepth 100000 in
set_option maxHeartbeats 4000000 in
theorem c_spreadFrom38 {l : Launch} {F : Nat × (Int → Int)} {iv iv1 : Mm} {op : Int → Bool} (ho : ∀ c, 0 ≤ c → c < 81 → iv 40 c = (if op c = true then 1 else 0)) {T : T3} {i : Int} (hT : BI T) (hi9 : 0 ≤ i ∧ i < T.2.2) (hR : RB38 iv iv1 T) : Ctr l F 1 0 0 yX4_spreadFrom cX4_spreadFrom 6 (some FieldType.int) [r_ 38, i_ (T.2.1 i), i_ T.2.2] S0 (iv1) (fun v S iv2 => v = some (i_ (vis op i T).2.2) ∧ S = S0 ∧ RB38 iv iv2 (vis op i T)) := by
  refine Ctr.of false (fun h => by cases h) (by decide) rfl (Nat.le_of_ble_eq_true rfl) ?_
  obtain ⟨a1, b1, e1, -⟩ := rlx_BI (op := op) (w := 0) hT hi9
  obtain ⟨a2, b2, e2, -⟩ := rlx_BI (op := op) (w := 1) a1 (i := i) (by omega)
  obtain ⟨a3, b3, e3, -⟩ := rlx_BI (op := op) (w := 2) a2 (i := i) (by omega)
  obtain ⟨a4, b4, e4, -⟩ := rlx_BI (op := op) (w := 3) a3 (i := i) (by omega)
  have f1 := e1 i hi9.1 hi9.2
  have f2 := (e2 i hi9.1 (by omega)).trans f1
  have f3 := (e3 i hi9.1 (by omega)).trans f2
  refine J.iload_n (q := 1) dX4_spreadFrom_0 rfl ?_ rfl
  refine J.istore_n (q := 2) dX4_spreadFrom_1 (Nat.le_of_ble_eq_true rfl) ?_ rfl
  refine J.iconst (q := 3) dX4_spreadFrom_2 ?_ rfl
  refine J.istore (q := 5) dX4_spreadFrom_3 (Nat.le_of_ble_eq_true rfl) ?_ rfl
  refine spreadFrom38_w (X := vis op i T) ho (T := T) (i := i) (w := 0) hT hi9 (by omega) rfl hR (fun iv2 y5 hR2 => ?_)
  refine spreadFrom38_w (X := vis op i T) ho (T := rlx op i 0 T) (i := i) (w := 1) a1 (by omega) (by omega) f1 hR2 (fun iv3 y5 hR3 => ?_)
  refine spreadFrom38_w (X := vis op i T) ho (T := rlx op i 1 (rlx op i 0 T)) (i := i) (w := 2) a2 (by omega) (by omega) f2 hR3 (fun iv4 y5 hR4 => ?_)
  refine spreadFrom38_w (X := vis op i T) ho (T := rlx op i 2 (rlx op i 1 (rlx op i 0 T))) (i := i) (w := 3) a3 (by omega) (by omega) f3 hR4 (fun iv5 y5 hR5 => ?_)
  refine J.iload (q := 7) dX4_spreadFrom_5 rfl ?_ rfl
  refine J.iconst (q := 8) dX4_spreadFrom_7 ?_ rfl
  refine J.icmp_ge (tgt := 84) (q := 11) dX4_spreadFrom_8 rfl rfl (fun c8 => ?_) (fun c => absurd c (by omega))
  refine J.iload_n (q := 85) dX4_spreadFrom_84 rfl ?_ rfl
  refine J.ireturn dX4_spreadFrom_85 rfl ?_
  exact ⟨rfl, rfl, hR5⟩

set_option maxRecDepth 100000 in
set_option maxHeartbeats 4000000 in
theorem measure38_loop {l : Launch} {F : Nat × (Int → Int)} {iv : Mm} {op : Int → Bool} {fr : Int} (hf : 0 ≤ fr ∧ fr ≤ 80) (ho : ∀ c, 0 ≤ c → c < 81 → iv 40 c = (if op c = true then 1 else 0)) : ∀ (n : Nat) (i : Int) (T : T3) (iv1 : Mm), (81 - i < n) → (BI T) → (0 ≤ i ∧ i ≤ T.2.2) → (RB38 iv iv1 T) → ((bfsL op n i T).1 = dst op fr) → J l (yX4_measure).cls cX4_measure 4 none 2 0 0 false F (fun v S iv2 => v = none ∧ S = S0 ∧ (∀ q, q ≠ 39 → q ≠ 41 → iv2 q = iv q) ∧ ∀ c, 0 ≤ c → c < 81 → iv2 39 c = dst op fr c) 0 0 37 [some (r_ 38), some (i_ fr), some (i_ T.2.2), some (i_ i)] [] S0 (iv1) := by
  intro n
  induction n with
  | zero =>
    intro i T iv1 hn hT hi9 hR hB
    have := hT.m
    omega
  | succ n ih =>
    intro i T iv1 hn hT hi9 hR hB
    have hm := hT.m
    obtain ⟨h1, h2, h4⟩ := id hR
    refine J.iload_n (q := 38) dX4_measure_37 rfl ?_ rfl
    refine J.iload_n (q := 39) dX4_measure_38 rfl ?_ rfl
    refine J.icmp_ge (tgt := 66) (q := 42) dX4_measure_39 rfl rfl (fun c39 => ?_) (fun c39 => ?_)
    · rw [bfsL, if_neg (by omega)] at hB
      refine J.vreturn dX4_measure_66 rfl ?_
      exact ⟨rfl, rfl, h1, fun c z1 z2 => by rw [h2 c z1 z2, hB]⟩
    · have hlt : i < T.2.2 := by omega
      rw [bfsL, if_pos hlt] at hB
      obtain ⟨hv1, hv2, -, -⟩ := vis_BI (op := op) hT ⟨hi9.1, hlt⟩
      refine J.iload_n (q := 43) dX4_measure_42 rfl ?_ rfl
      refine J.bipush (q := 45) dX4_measure_43 (by decide) ?_ rfl
      refine J.icmp_ge (tgt := 66) (q := 48) dX4_measure_45 rfl rfl (fun c => absurd c (by omega)) (fun c45 => ?_)
      refine J.aload_n (q := 49) dX4_measure_48 rfl ?_ rfl
      refine J.aload_n (q := 50) dX4_measure_49 rfl ?_ rfl
      refine J.getR (ci := 4) (k0 := 2) (c1 := 41) (q := 53) dX4_measure_50 kF_X4_19 rfl (by decide) (by decide) rfl (by decide) rfl ?_ rfl
      refine J.iload_n (q := 54) dX4_measure_53 rfl ?_ rfl
      refine J.iald (n := 81) (q := 55) dX4_measure_54 rfl (by omega) ?_ rfl
      rw [h4 _ (by omega) (by omega)]
      refine J.iload_n (q := 56) dX4_measure_55 rfl ?_ rfl
      refine J.callV2 (ci := 4) (q := 59) dX4_measure_56 mv_X4_spreadFrom kL_X4_43 rfl (by decide) rfl ⟨by decide, by decide⟩ (Nat.le_of_ble_eq_true rfl) ⟨by decide, by decide⟩ rfl (c_spreadFrom38 ho hT ⟨hi9.1, hlt⟩ hR) (fun v9 S9 iv9 hp => ?_)
      obtain ⟨rfl, rfl, hR9⟩ := hp
      refine J.istore_n (q := 60) dX4_measure_59 (Nat.le_of_ble_eq_true rfl) ?_ rfl
      refine J.iinc (q := 63) dX4_measure_60 rfl ?_ rfl
      refine J.goto (tgt := 37) dX4_measure_63 rfl ?_
      exact ih (i + 1) _ iv9 (by omega) hv1 (by omega) hR9 hB

set_option maxRecDepth 100000 in
set_option maxHeartbeats 4000000 in
theorem c_measure38 {l : Launch} {F : Nat × (Int → Int)} {iv : Mm} {op : Int → Bool} {fr : Int} (hf : 0 ≤ fr ∧ fr ≤ 80) (ho : ∀ c, 0 ≤ c → c < 81 → iv 40 c = (if op c = true then 1 else 0)) : Ctr l F 2 0 0 yX4_measure cX4_measure 4 none [r_ 38, i_ fr] S0 (iv) (fun v S iv2 => v = none ∧ S = S0 ∧ (∀ q, q ≠ 39 → q ≠ 41 → iv2 q = iv q) ∧ ∀ c, 0 ≤ c → c < 81 → iv2 39 c = dst op fr c) := by
  refine Ctr.of false (fun h => by cases h) (by decide) rfl (Nat.le_of_ble_eq_true rfl) ?_
  refine J.aload_n (q := 1) dX4_measure_0 rfl ?_ rfl
  refine J.getR (ci := 4) (k0 := 0) (c1 := 39) (q := 4) dX4_measure_1 kF_X4_9 rfl (by decide) (by decide) rfl (by decide) rfl ?_ rfl
  refine J.bipush (q := 6) dX4_measure_4 (by decide) ?_ rfl
  refine J.callS2 (q := 9) dX4_measure_6 mv_J7_fill_53178 kS_J7_fill_53178 kL_X4_37 ⟨by decide, by decide⟩ (Nat.le_of_ble_eq_true rfl) ⟨by decide, by decide⟩ rfl (c_fill_39) (fun v9 S9 iv9 hp => ?_)
  obtain ⟨rfl, rfl, f1, f2⟩ := hp
  refine J.aload_n (q := 10) dX4_measure_9 rfl ?_ rfl
  refine J.getR (ci := 4) (k0 := 1) (c1 := 40) (q := 13) dX4_measure_10 kF_X4_15 rfl (by decide) (by decide) rfl (by decide) rfl ?_ rfl
  refine J.iload_n (q := 14) dX4_measure_13 rfl ?_ rfl
  refine J.zald (n := 81) (q := 15) dX4_measure_14 rfl (by omega) ?_ rfl
  rw [f1 40 (by decide), ho _ (by omega) (by omega)]
  refine J.if_ne (tgt := 19) (q := 18) (hv := by split <;> omega) dX4_measure_15 rfl rfl (fun c15 => ?_) (fun c15 => ?_)
  · have hb0 : bfs0 op fr = (upr (fun _ => 99) fr 0, upr (fun _ => 0) 0 fr, 1) := if_pos (by
      by_cases z : op fr = true
      · exact z
      · rw [if_neg z] at c15; omega)
    refine J.aload_n (q := 20) dX4_measure_19 rfl ?_ rfl
    refine J.getR (ci := 4) (k0 := 0) (c1 := 39) (q := 23) dX4_measure_20 kF_X4_9 rfl (by decide) (by decide) rfl (by decide) rfl ?_ rfl
    refine J.iload_n (q := 24) dX4_measure_23 rfl ?_ rfl
    refine J.iconst (q := 25) dX4_measure_24 ?_ rfl
    refine J.iast (n := 81) (q := 26) dX4_measure_25 rfl (by omega) ?_ rfl
    refine J.aload_n (q := 27) dX4_measure_26 rfl ?_ rfl
    refine J.getR (ci := 4) (k0 := 2) (c1 := 41) (q := 30) dX4_measure_27 kF_X4_19 rfl (by decide) (by decide) rfl (by decide) rfl ?_ rfl
    refine J.iconst (q := 31) dX4_measure_30 ?_ rfl
    refine J.iload_n (q := 32) dX4_measure_31 rfl ?_ rfl
    refine J.iast (n := 81) (q := 33) dX4_measure_32 rfl (by omega) ?_ rfl
    refine J.iconst (q := 34) dX4_measure_33 ?_ rfl
    refine J.istore_n (q := 35) dX4_measure_34 (Nat.le_of_ble_eq_true rfl) ?_ rfl
    refine J.iconst (q := 36) dX4_measure_35 ?_ rfl
    refine J.istore_n (q := 37) dX4_measure_36 (Nat.le_of_ble_eq_true rfl) ?_ rfl
    refine measure38_loop hf ho 82 0 (bfs0 op fr) _ (by omega) (bfs0_BI hf) (by have := (bfs0_BI (op := op) hf).m; omega) ?_ rfl |> fun z => J.eql (by rw [hb0]; rfl) z
    rw [hb0]
    refine ⟨fun q z1 z2 => ?_, fun c z1 z2 => ?_, fun j z1 z2 => ?_⟩
    · rw [up_n _ _ _ z2, up_n _ _ _ z1]; exact f1 q z1
    · rw [up_n _ _ _ (by decide), up_s]
      show _ = upr (fun _ => 99) fr 0 c
      by_cases hc : c = fr
      · subst hc; rw [upr_s, upr_s]
      · rw [upr_n _ _ hc, upr_n _ _ hc]; exact f2 c z1 z2
    · have z2 : j < 1 := z2
      have : j = 0 := by omega
      subst this
      rw [up_s, upr_s]
      show _ = upr (fun _ => 0) 0 fr 0
      rw [upr_s]
  · have hb0 : bfs0 op fr = (fun _ => 99, fun _ => 0, 0) := if_neg (fun z => by rw [if_pos z] at c15; omega)
    refine J.vreturn dX4_measure_18 rfl ?_
    refine ⟨rfl, rfl, fun q z1 z2 => f1 q z1, fun c z1 z2 => ?_⟩
    rw [f2 c z1 z2]
    unfold dst
    rw [hb0, bfsL, if_neg (by decide)]

set_option maxRecDepth 100000 in
set_option maxHeartbeats 4000000 in
theorem nearerThan38_w {l : Launch} {F : Nat × (Int → Int)} {iv : Mm} {f : Int → Int} {c w t X : Int} {x3 : Option VT} (hf : ∀ j, 0 ≤ j → j < 81 → iv 39 j = f j) (hfr : ∀ j, 0 ≤ f j ∧ f j ≤ 99) (hc : 0 ≤ c ∧ c ≤ 80) (hw : 0 ≤ w ∧ w ≤ 3) (hX : nx1 (fun _ => f) 0 c w t = X) (K : t = X → ∀ y3 : Option VT, J l (yX4_nearerThan).cls cX4_nearerThan 4 (some FieldType.int) 1 0 0 false F (fun v S iv2 => v = some (i_ X) ∧ S = S0 ∧ iv2 = iv) 0 0 13 [some (r_ 38), some (i_ c), some (i_ (w + 1)), y3] [] S0 iv) : J l (yX4_nearerThan).cls cX4_nearerThan 4 (some FieldType.int) 1 0 0 false F (fun v S iv2 => v = some (i_ X) ∧ S = S0 ∧ iv2 = iv) 0 0 13 [some (r_ 38), some (i_ c), some (i_ w), x3] [] S0 (iv) := by
  have hbr := besM_rng (w := w) hc
  have hbc : bsC c w = if besM c w < 0 then -1 else besM c w := rfl
  unfold nx1 at hX
  dsimp only at hX
  have hf1 := hfr c
  have hf2 := hfr (besM c w)
  refine J.iload_n (q := 14) dX4_nearerThan_13 rfl ?_ rfl
  refine J.iconst (q := 15) dX4_nearerThan_14 ?_ rfl
  refine J.icmp_ge (tgt := 51) (q := 18) dX4_nearerThan_15 rfl rfl (fun c => absurd c (by omega)) (fun c15 => ?_)
  refine J.iload_n (q := 19) dX4_nearerThan_18 rfl ?_ rfl
  refine J.iload_n (q := 20) dX4_nearerThan_19 rfl ?_ rfl
  refine J.callSN2i (q := 23) dX4_nearerThan_20 mv_X5_beside kS_X5_beside (by decide) ⟨by decide, by decide⟩ (Nat.le_of_ble_eq_true rfl) ⟨by decide, by decide⟩ rfl (c_X5_beside (by omega) (by omega)) ?_
  refine J.istore_n (q := 24) dX4_nearerThan_23 (Nat.le_of_ble_eq_true rfl) ?_ rfl
  refine J.iload_n (q := 25) dX4_nearerThan_24 rfl ?_ rfl
  refine J.if_lt (tgt := 45) (q := 28) (hv := by rw [hbc]; split <;> omega) dX4_nearerThan_25 rfl rfl (fun c25 => ?_) (fun c25 => ?_)
  · rw [if_neg (fun z => by rw [hbc, if_neg (by omega)] at c25; omega)] at hX
    refine J.iinc (q := 48) dX4_nearerThan_45 rfl ?_ rfl
    refine J.goto (tgt := 13) dX4_nearerThan_48 rfl ?_
    exact K hX _
  · have hb0 : 0 ≤ besM c w := by
      by_cases z : besM c w < 0
      · rw [hbc, if_pos z] at c25; omega
      · omega
    rw [hbc, if_neg (by omega)]
    refine J.aload_n (q := 29) dX4_nearerThan_28 rfl ?_ rfl
    refine J.getR (ci := 4) (k0 := 0) (c1 := 39) (q := 32) dX4_nearerThan_29 kF_X4_9 rfl (by decide) (by decide) rfl (by decide) rfl ?_ rfl
    refine J.iload_n (q := 33) dX4_nearerThan_32 rfl ?_ rfl
    refine J.iald (n := 81) (q := 34) dX4_nearerThan_33 rfl (by omega) ?_ rfl
    rw [hf _ (by omega) (by omega)]
    refine J.aload_n (q := 35) dX4_nearerThan_34 rfl ?_ rfl
    refine J.getR (ci := 4) (k0 := 0) (c1 := 39) (q := 38) dX4_nearerThan_35 kF_X4_9 rfl (by decide) (by decide) rfl (by decide) rfl ?_ rfl
    refine J.iload_n (q := 39) dX4_nearerThan_38 rfl ?_ rfl
    refine J.iald (n := 81) (q := 40) dX4_nearerThan_39 rfl (by omega) ?_ rfl
    rw [hf _ (by omega) (by omega)]
    refine J.icmp_ge (tgt := 45) (q := 43) dX4_nearerThan_40 rfl rfl (fun c40 => ?_) (fun c40 => ?_)
    · rw [if_neg (fun z => by omega)] at hX
      refine J.iinc (q := 48) dX4_nearerThan_45 rfl ?_ rfl
      refine J.goto (tgt := 13) dX4_nearerThan_48 rfl ?_
      exact K hX _
    · rw [if_pos ⟨hb0, by omega⟩] at hX
      refine J.iload_n (q := 44) dX4_nearerThan_43 rfl ?_ rfl
      refine J.ireturn dX4_nearerThan_44 rfl ?_
      subst hX; exact ⟨rfl, rfl, rfl⟩

set_option maxRecDepth 100000 in
set_option maxHeartbeats 4000000 in
theorem c_nearerThan38 {l : Launch} {F : Nat × (Int → Int)} {iv : Mm} {op : Int → Bool} {f : Int → Int} {c : Int} (ho : ∀ c, 0 ≤ c → c < 81 → iv 40 c = (if op c = true then 1 else 0)) (hf : ∀ j, 0 ≤ j → j < 81 → iv 39 j = f j) (hfr : ∀ j, 0 ≤ f j ∧ f j ≤ 99) (hc : 0 ≤ c ∧ c ≤ 80) : Ctr l F 1 0 0 yX4_nearerThan cX4_nearerThan 4 (some FieldType.int) [r_ 38, i_ c] S0 (iv) (Ret (some (i_ (nxC op f c))) S0 iv) := by
  refine Ctr.of false (fun h => by cases h) (by decide) rfl (Nat.le_of_ble_eq_true rfl) ?_
  refine J.aload_n (q := 1) dX4_nearerThan_0 rfl ?_ rfl
  refine J.getR (ci := 4) (k0 := 1) (c1 := 40) (q := 4) dX4_nearerThan_1 kF_X4_15 rfl (by decide) (by decide) rfl (by decide) rfl ?_ rfl
  refine J.iload_n (q := 5) dX4_nearerThan_4 rfl ?_ rfl
  refine J.zald (n := 81) (q := 6) dX4_nearerThan_5 rfl (by omega) ?_ rfl
  rw [ho _ (by omega) (by omega)]
  refine J.if_ne (tgt := 11) (q := 9) (hv := by split <;> omega) dX4_nearerThan_6 rfl rfl (fun c6 => ?_) (fun c6 => ?_)
  · have hx : nxC op f c = nxF f c := if_pos (by
      by_cases z : op c = true
      · exact z
      · rw [if_neg z] at c6; omega)
    rw [hx]
    refine J.iconst (q := 12) dX4_nearerThan_11 ?_ rfl
    refine J.istore_n (q := 13) dX4_nearerThan_12 (Nat.le_of_ble_eq_true rfl) ?_ rfl
    refine nearerThan38_w (X := nxF f c) (w := 0) hf hfr hc (by omega) rfl (fun e1 y3 => ?_)
    refine nearerThan38_w (X := nxF f c) (w := 1) hf hfr hc (by omega) e1 (fun e2 y3 => ?_)
    refine nearerThan38_w (X := nxF f c) (w := 2) hf hfr hc (by omega) e2 (fun e3 y3 => ?_)
    refine nearerThan38_w (X := nxF f c) (w := 3) hf hfr hc (by omega) e3 (fun e4 y3 => ?_)
    rw [← e4]
    refine J.iload_n (q := 14) dX4_nearerThan_13 rfl ?_ rfl
    refine J.iconst (q := 15) dX4_nearerThan_14 ?_ rfl
    refine J.icmp_ge (tgt := 51) (q := 18) dX4_nearerThan_15 rfl rfl (fun c15 => ?_) (fun c => absurd c (by omega))
    refine J.iload_n (q := 52) dX4_nearerThan_51 rfl ?_ rfl
    refine J.ireturn dX4_nearerThan_52 rfl ?_
    exact ⟨rfl, rfl, rfl⟩
  · have hx : nxC op f c = c := if_neg (fun z => by rw [if_pos z] at c6; omega)
    rw [hx]
    refine J.iload_n (q := 10) dX4_nearerThan_9 rfl ?_ rfl
    refine J.ireturn dX4_nearerThan_10 rfl ?_
    exact ⟨rfl, rfl, rfl⟩

def Sv38 (iv : Mm) (s : Int → Int) : Prop := ∀ k c, 0 ≤ k → k < s 2 → 0 ≤ c → c < 81 → iv 42 (81 * k + c) = fdst s k c ∧ iv 43 (81 * k + c) = nxC (opH s) (fdst s k) c
set_option maxRecDepth 100000 in
set_option maxHeartbeats 4000000 in
theorem survey38_cells {l : Launch} {F : Nat × (Int → Int)} {iv : Mm} {D : Int} {s : Int → Int} (hR : RR iv 1 s) (hI : MI D s) {k : Int} (hk : 0 ≤ k ∧ k < s 2) (K : ∀ (iv2 : Mm), (∀ q, (q ≤ 38 ∨ 43 < q) → iv2 q = iv q) → (∀ c, 0 ≤ c → c < 81 → iv2 40 c = (if opH s c = true then 1 else 0)) → (∀ a c, 0 ≤ a → a < k + 1 → 0 ≤ c → c < 81 → iv2 42 (81 * a + c) = fdst s a c ∧ iv2 43 (81 * a + c) = nxC (opH s) (fdst s a) c) → J l (yX4_survey).cls cX4_survey 4 none 3 0 0 false F (fun v S iv2 => v = none ∧ S = S0 ∧ (∀ q, (q ≤ 38 ∨ 43 < q) → iv2 q = iv q) ∧ Sv38 iv2 s) 0 0 72 [some (r_ 38), some (r_ 1), some (i_ k), some (i_ 81)] [] S0 iv2) : ∀ (n : Nat) (c : Int) (iv1 : Mm), (81 - c < n) → (0 ≤ c ∧ c ≤ 81) → (∀ q, (q ≤ 38 ∨ 43 < q) → iv1 q = iv q) → (∀ c, 0 ≤ c → c < 81 → iv1 40 c = (if opH s c = true then 1 else 0)) → (∀ j, 0 ≤ j → j < 81 → iv1 39 j = fdst s k j) → ((∀ a c, 0 ≤ a → a < k → 0 ≤ c → c < 81 → iv1 42 (81 * a + c) = fdst s a c ∧ iv1 43 (81 * a + c) = nxC (opH s) (fdst s a) c)) → (∀ j, 0 ≤ j → j < c → iv1 42 (81 * k + j) = fdst s k j ∧ iv1 43 (81 * k + j) = nxC (opH s) (fdst s k) j) → J l (yX4_survey).cls cX4_survey 4 none 3 0 0 false F (fun v S iv2 => v = none ∧ S = S0 ∧ (∀ q, (q ≤ 38 ∨ 43 < q) → iv2 q = iv q) ∧ Sv38 iv2 s) 0 0 27 [some (r_ 38), some (r_ 1), some (i_ k), some (i_ c)] [] S0 (iv1) := by
  intro n
  induction n with
  | zero =>
    intro c iv1 hn hc hf ho hs hd he
    omega
  | succ n ih =>
    intro c iv1 hn hc hf ho hs hd he
    have hmm := hI.many
    have hfd := fun j => fdst_rng hI (k := k) (by omega) j
    refine J.iload_n (q := 28) dX4_survey_27 rfl ?_ rfl
    refine J.bipush (q := 30) dX4_survey_28 (by decide) ?_ rfl
    refine J.icmp_ge (tgt := 72) (q := 33) dX4_survey_30 rfl rfl (fun c30 => ?_) (fun c30 => ?_)
    · have hc81 : c = 81 := by omega
      subst hc81
      refine K iv1 hf ho (fun a e a0 a1 e0 e1 => ?_)
      by_cases hak : a = k
      · subst hak; exact he e e0 (by omega)
      · exact hd a e a0 (by omega) e0 e1
    · refine J.aload_n (q := 34) dX4_survey_33 rfl ?_ rfl
      refine J.getR (ci := 4) (k0 := 3) (c1 := 42) (q := 37) dX4_survey_34 kF_X4_22 rfl (by decide) (by decide) rfl (by decide) rfl ?_ rfl
      refine J.iload_n (q := 38) dX4_survey_37 rfl ?_ rfl
      refine J.bipush (q := 40) dX4_survey_38 (by decide) ?_ rfl
      refine J.imul (q := 41) dX4_survey_40 ?_ rfl
      refine J.iload_n (q := 42) dX4_survey_41 rfl ?_ rfl
      refine J.iadd (q := 43) dX4_survey_42 ?_ rfl
      refine J.aload_n (q := 44) dX4_survey_43 rfl ?_ rfl
      refine J.getR (ci := 4) (k0 := 0) (c1 := 39) (q := 47) dX4_survey_44 kF_X4_9 rfl (by decide) (by decide) rfl (by decide) rfl ?_ rfl
      refine J.iload_n (q := 48) dX4_survey_47 rfl ?_ rfl
      refine J.iald (n := 81) (q := 49) dX4_survey_48 rfl (by omega) ?_ rfl
      rw [hs _ (by omega) (by omega)]
      refine J.iast (n := 648) (q := 50) dX4_survey_49 rfl (by omega) ?_ rfl
      refine J.aload_n (q := 51) dX4_survey_50 rfl ?_ rfl
      refine J.getR (ci := 4) (k0 := 4) (c1 := 43) (q := 54) dX4_survey_51 kF_X4_25 rfl (by decide) (by decide) rfl (by decide) rfl ?_ rfl
      refine J.iload_n (q := 55) dX4_survey_54 rfl ?_ rfl
      refine J.bipush (q := 57) dX4_survey_55 (by decide) ?_ rfl
      refine J.imul (q := 58) dX4_survey_57 ?_ rfl
      refine J.iload_n (q := 59) dX4_survey_58 rfl ?_ rfl
      refine J.iadd (q := 60) dX4_survey_59 ?_ rfl
      refine J.aload_n (q := 61) dX4_survey_60 rfl ?_ rfl
      refine J.iload_n (q := 62) dX4_survey_61 rfl ?_ rfl
      refine J.callV1i (ci := 4) (q := 65) dX4_survey_62 mv_X4_nearerThan kL_X4_65 rfl (by decide) rfl ⟨by decide, by decide⟩ (Nat.le_of_ble_eq_true rfl) ⟨by decide, by decide⟩ rfl (c_nearerThan38 (op := opH s) (f := fdst s k) (fun a a0 a1 => by rw [up_n _ _ _ (by decide)]; exact ho a a0 a1) (fun j j0 j1 => by rw [up_n _ _ _ (by decide)]; exact hs j j0 j1) hfd (by omega)) ?_
      refine J.iast (n := 648) (q := 66) dX4_survey_65 rfl (by omega) ?_ rfl
      refine J.iinc (q := 69) dX4_survey_66 rfl ?_ rfl
      refine J.goto (tgt := 27) dX4_survey_69 rfl ?_
      refine ih (c + 1) _ (by omega) (by omega) (fun q hq => ?_) (fun a a0 a1 => ?_) (fun j j0 j1 => ?_) (fun a e a0 a1 e0 e1 => ?_) (fun j j0 j1 => ?_)
      · rw [up_n _ _ _ (by omega), up_n _ _ _ (by omega)]; exact hf q hq
      · rw [up_n _ _ _ (by decide), up_n _ _ _ (by decide)]; exact ho a a0 a1
      · rw [up_n _ _ _ (by decide), up_n _ _ _ (by decide)]; exact hs j j0 j1
      · rw [up_n _ _ _ (by decide), up_s, up_s, upr_n _ _ (by omega), upr_n _ _ (by omega), up_n _ _ _ (by decide)]; exact hd a e a0 a1 e0 e1
      · rw [up_n _ _ _ (by decide), up_s, up_s]
        by_cases hj : j = c
        · subst hj
          rw [Int.mul_comm 81 k, upr_s, upr_s]; exact ⟨rfl, rfl⟩
        · rw [upr_n _ _ (by omega), upr_n _ _ (by omega), up_n _ _ _ (by decide)]; exact he j j0 (by omega)

set_option maxRecDepth 100000 in
set_option maxHeartbeats 4000000 in
theorem survey38_loop {l : Launch} {F : Nat × (Int → Int)} {iv : Mm} {D : Int} {s : Int → Int} (hR : RR iv 1 s) (hI : MI D s) : ∀ (n : Nat) (k : Int) (iv1 : Mm) (y3 : Option VT), (8 - k < n) → (0 ≤ k ∧ k ≤ s 2) → (∀ q, (q ≤ 38 ∨ 43 < q) → iv1 q = iv q) → (∀ c, 0 ≤ c → c < 81 → iv1 40 c = (if opH s c = true then 1 else 0)) → ((∀ a c, 0 ≤ a → a < k → 0 ≤ c → c < 81 → iv1 42 (81 * a + c) = fdst s a c ∧ iv1 43 (81 * a + c) = nxC (opH s) (fdst s a) c)) → J l (yX4_survey).cls cX4_survey 4 none 3 0 0 false F (fun v S iv2 => v = none ∧ S = S0 ∧ (∀ q, (q ≤ 38 ∨ 43 < q) → iv2 q = iv q) ∧ Sv38 iv2 s) 0 0 7 [some (r_ 38), some (r_ 1), some (i_ k), y3] [] S0 (iv1) := by
  intro n
  induction n with
  | zero =>
    intro k iv1 y3 hn hk hf ho hd
    have := hI.many
    omega
  | succ n ih =>
    intro k iv1 y3 hn hk hf ho hd
    have hmm := hI.many
    have hR1 : RR iv1 1 s := f1 hR (fun q q1 q2 q3 => hf q (by omega))
    refine J.iload_n (q := 8) dX4_survey_7 rfl ?_ rfl
    refine J.aload_n (q := 9) dX4_survey_8 rfl ?_ rfl
    refine J.getI (ci := 1) (k0 := 11) (kz := 11) (q := 12) dX4_survey_9 kF_X4_54 rfl (by decide) (by decide) rfl (.inl rfl) ?_ rfl
    rw [g1_many hR1]
    refine J.icmp_ge (tgt := 78) (q := 15) dX4_survey_12 rfl rfl (fun c12 => ?_) (fun c12 => ?_)
    · refine J.vreturn dX4_survey_78 rfl ?_
      exact ⟨rfl, rfl, hf, fun a c a0 a1 c0 c1 => hd a c a0 (by omega) c0 c1⟩
    · refine J.aload_n (q := 16) dX4_survey_15 rfl ?_ rfl
      refine J.aload_n (q := 17) dX4_survey_16 rfl ?_ rfl
      refine J.getR (ci := 1) (k0 := 8) (c1 := 10) (q := 20) dX4_survey_17 kF_X4_58 rfl (by decide) (by decide) rfl (by decide) rfl ?_ rfl
      refine J.iload_n (q := 21) dX4_survey_20 rfl ?_ rfl
      refine J.iald (n := 8) (q := 22) dX4_survey_21 rfl (by omega) ?_ rfl
      rw [g1_gat hR1 (by omega) (by omega)]
      have hgs := (hI.sna k (by omega) (by omega)).2.2.2.1
      refine J.callV1 (ci := 4) (q := 25) dX4_survey_22 mv_X4_measure kL_X4_61 rfl (by decide) rfl ⟨by decide, by decide⟩ (Nat.le_of_ble_eq_true rfl) ⟨by decide, by decide⟩ rfl (c_measure38 (op := opH s) (by omega) ho) (fun v9 S9 iv9 hp => ?_)
      obtain ⟨rfl, rfl, m1, m2⟩ := hp
      refine J.iconst (q := 26) dX4_survey_25 ?_ rfl
      refine J.istore_n (q := 27) dX4_survey_26 (Nat.le_of_ble_eq_true rfl) ?_ rfl
      refine survey38_cells hR hI (k := k) (by omega) (fun iv2 a1 a2 a3 => ?_) 82 0 iv9 (by omega) (by omega) (fun q hq => (m1 q (by omega) (by omega)).trans (hf q hq)) (fun a a0 a1 => by rw [m1 40 (by decide) (by decide)]; exact ho a a0 a1) (fun j j0 j1 => m2 j j0 j1) (fun a e a0 a1 e0 e1 => by rw [m1 42 (by decide) (by decide), m1 43 (by decide) (by decide)]; exact hd a e a0 a1 e0 e1) (fun j j0 j1 => by omega)
      refine J.iinc (q := 75) dX4_survey_72 rfl ?_ rfl
      refine J.goto (tgt := 7) dX4_survey_75 rfl ?_
      exact ih (k + 1) iv2 _ (by omega) (by omega) a1 a2 a3

set_option maxRecDepth 100000 in
set_option maxHeartbeats 4000000 in
theorem c_survey38 {l : Launch} {F : Nat × (Int → Int)} {iv : Mm} {D : Int} {s : Int → Int} (hR : RR iv 1 s) (hI : MI D s) : Ctr l F 3 0 0 yX4_survey cX4_survey 4 none [r_ 38, r_ 1] S0 (iv) (fun v S iv2 => v = none ∧ S = S0 ∧ (∀ q, (q ≤ 38 ∨ 43 < q) → iv2 q = iv q) ∧ Sv38 iv2 s) := by
  refine Ctr.of false (fun h => by cases h) (by decide) rfl (Nat.le_of_ble_eq_true rfl) ?_
  refine J.aload_n (q := 1) dX4_survey_0 rfl ?_ rfl
  refine J.aload_n (q := 2) dX4_survey_1 rfl ?_ rfl
  refine J.callV1 (ci := 4) (q := 5) dX4_survey_2 mv_X4_openLand kL_X4_50 rfl (by decide) rfl ⟨by decide, by decide⟩ (Nat.le_of_ble_eq_true rfl) ⟨by decide, by decide⟩ rfl (c_openLand38 hR hI) (fun v9 S9 iv9 hp => ?_)
  obtain ⟨rfl, rfl, l1, l2⟩ := hp
  refine J.iconst (q := 6) dX4_survey_5 ?_ rfl
  refine J.istore_n (q := 7) dX4_survey_6 (Nat.le_of_ble_eq_true rfl) ?_ rfl
  exact survey38_loop hR hI 9 0 iv9 none (by omega) (by have := hI.many; omega) (fun q hq => l1 q (by omega)) l2 (fun a c a0 a1 c0 c1 => by omega)

set_option maxRecDepth 100000 in
set_option maxHeartbeats 4000000 in
theorem c_gateStepsOf38 {l : Launch} {F : Nat × (Int → Int)} {iv : Mm} {s : Int → Int} (hS : Sv38 iv s) {k c : Int} (hk : 0 ≤ k ∧ k < s 2) (hm : s 2 ≤ 8) (hc : 0 ≤ c ∧ c ≤ 80) : Ctr l F 0 0 0 yX4_gateStepsOf cX4_gateStepsOf 3 (some FieldType.int) [r_ 38, i_ k, i_ c] S0 (iv) (Ret (some (i_ (fdst s k c))) S0 iv) := by
  refine Ctr.of false (fun h => by cases h) (by decide) rfl (Nat.le_of_ble_eq_true rfl) ?_
  have hSk := hS k c (by omega) (by omega) (by omega) (by omega)
  rw [Int.mul_comm 81 k] at hSk
  refine J.aload_n (q := 1) dX4_gateStepsOf_0 rfl ?_ rfl
  refine J.getR (ci := 4) (k0 := 3) (c1 := 42) (q := 4) dX4_gateStepsOf_1 kF_X4_22 rfl (by decide) (by decide) rfl (by decide) rfl ?_ rfl
  refine J.iload_n (q := 5) dX4_gateStepsOf_4 rfl ?_ rfl
  refine J.bipush (q := 7) dX4_gateStepsOf_5 (by decide) ?_ rfl
  refine J.imul (q := 8) dX4_gateStepsOf_7 ?_ rfl
  refine J.iload_n (q := 9) dX4_gateStepsOf_8 rfl ?_ rfl
  refine J.iadd (q := 10) dX4_gateStepsOf_9 ?_ rfl
  refine J.iald (n := 648) (q := 11) dX4_gateStepsOf_10 rfl (by omega) ?_ rfl
  refine J.ireturn dX4_gateStepsOf_11 rfl ?_
  exact ⟨congrArg (fun z => some (i_ z)) hSk.1, rfl, rfl⟩

set_option maxRecDepth 100000 in
set_option maxHeartbeats 4000000 in
theorem c_nextOf38 {l : Launch} {F : Nat × (Int → Int)} {iv : Mm} {s : Int → Int} (hS : Sv38 iv s) {k c : Int} (hk : 0 ≤ k ∧ k < s 2) (hm : s 2 ≤ 8) (hc : 0 ≤ c ∧ c ≤ 80) : Ctr l F 0 0 0 yX4_nextOf cX4_nextOf 3 (some FieldType.int) [r_ 38, i_ k, i_ c] S0 (iv) (Ret (some (i_ (nxC (opH s) (fdst s k) c))) S0 iv) := by
  refine Ctr.of false (fun h => by cases h) (by decide) rfl (Nat.le_of_ble_eq_true rfl) ?_
  have hSk := hS k c (by omega) (by omega) (by omega) (by omega)
  rw [Int.mul_comm 81 k] at hSk
  refine J.aload_n (q := 1) dX4_nextOf_0 rfl ?_ rfl
  refine J.getR (ci := 4) (k0 := 4) (c1 := 43) (q := 4) dX4_nextOf_1 kF_X4_25 rfl (by decide) (by decide) rfl (by decide) rfl ?_ rfl
  refine J.iload_n (q := 5) dX4_nextOf_4 rfl ?_ rfl
  refine J.bipush (q := 7) dX4_nextOf_5 (by decide) ?_ rfl
  refine J.imul (q := 8) dX4_nextOf_7 ?_ rfl
  refine J.iload_n (q := 9) dX4_nextOf_8 rfl ?_ rfl
  refine J.iadd (q := 10) dX4_nextOf_9 ?_ rfl
  refine J.iald (n := 648) (q := 11) dX4_nextOf_10 rfl (by omega) ?_ rfl
  refine J.ireturn dX4_nextOf_11 rfl ?_
  exact ⟨congrArg (fun z => some (i_ z)) hSk.2, rfl, rfl⟩

