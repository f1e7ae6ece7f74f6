/-! the class: thrushes, the odds, sheets, the tape (printed by wip/whole/m_c8.py) -/
theorem thrK_add : ∀ (n : Nat) (k : Int) (s : Int → Int) (a : Int), thrK n k (s, a) = ((thrK n k (s, 0)).1, a + (thrK n k (s, 0)).2)
  | 0, _, s, a => by simp [thrK]
  | n + 1, k, s, a => by
    unfold thrK
    dsimp only
    by_cases h : k < s 2
    · rw [if_pos h, if_pos h]
      rw [thrK_add n (k + 1) _ (a + _), thrK_add n (k + 1) _ (0 + _)]
      ext1
      · rfl
      · dsimp only; omega
    · rw [if_neg h, if_neg h]
      ext1
      · rfl
      · dsimp only; omega
set_option maxRecDepth 100000 in
set_option maxHeartbeats 4000000 in
theorem drawThrushes_loop {l : Launch} {F : Nat × (Int → Int)} {iv : Mm} {D : Int} {R : P2i} : ∀ (n : Nat) (k : Int) (Y : P2i) (iv1 : Mm), (8 - k < n) → (0 ≤ k ∧ k ≤ Y.1 2) → (MI D Y.1) → (RR iv1 1 Y.1) → (∀ q, (q < 1 ∨ 12 < q ∨ q = 5) → iv1 q = iv q) → (thrK n k Y = R) → J l (yX1_drawThrushes).cls cX1_drawThrushes 3 (some FieldType.int) 0 0 0 false F (fun v S iv2 => v = some (i_ R.2) ∧ S = S0 ∧ (∀ q, (q < 1 ∨ 12 < q ∨ q = 5) → iv2 q = iv q) ∧ RR iv2 1 R.1) 0 0 4 [some (r_ 1), some (i_ Y.2), some (i_ k)] [] S0 (iv1) := by
  intro n
  induction n with
  | zero =>
    intro k Y iv1 hn hk hI hR hf hB
    have := hI.many
    omega
  | succ n ih =>
    intro k Y iv1 hn hk hI hR hf hB
    have hmm := hI.many
    rw [thrK] at hB
    have hdr := drw_rng (drX Y.1)
    have ht := hI.thr
    refine J.iload_n (q := 5) dX1_drawThrushes_4 rfl ?_ rfl
    refine J.aload_n (q := 6) dX1_drawThrushes_5 rfl ?_ rfl
    refine J.getI (ci := 1) (k0 := 11) (kz := 11) (q := 9) dX1_drawThrushes_6 kF_X1_45 rfl (by decide) (by decide) rfl (.inl rfl) ?_ rfl
    rw [g1_many hR]
    refine J.icmp_ge (tgt := 60) (q := 12) dX1_drawThrushes_9 rfl rfl (fun c9 => ?_) (fun c9 => ?_)
    · rw [if_neg (by omega)] at hB
      refine J.iload_n (q := 61) dX1_drawThrushes_60 rfl ?_ rfl
      refine J.ireturn dX1_drawThrushes_61 rfl ?_
      subst hB
      exact ⟨rfl, rfl, hf, hR⟩
    · rw [if_pos (by omega)] at hB
      have hs := hI.sna k (by omega) (by omega)
      refine J.aload_n (q := 13) dX1_drawThrushes_12 rfl ?_ rfl
      refine J.aload_n (q := 14) dX1_drawThrushes_13 rfl ?_ rfl
      refine J.getI (ci := 1) (k0 := 16) (kz := 16) (q := 17) dX1_drawThrushes_14 kF_X1_61 rfl (by decide) (by decide) rfl (.inl rfl) ?_ rfl
      rw [g1_zz hR]
      refine J.ldc (q := 19) (z := 1103515245) dX1_drawThrushes_17 kK_X1_104 ?_ rfl
      refine J.imul (q := 20) dX1_drawThrushes_19 ?_ rfl
      refine J.sipush (q := 23) dX1_drawThrushes_20 (by decide) ?_ rfl
      refine J.iadd (q := 24) dX1_drawThrushes_23 ?_ rfl
      refine J.putI (ci := 1) (k0 := 16) (kz := 16) (q := 27) dX1_drawThrushes_24 kF_X1_61 rfl (by decide) (by decide) rfl rfl rfl ?_ rfl
      refine J.aload_n (q := 28) dX1_drawThrushes_27 rfl ?_ rfl
      have hR1 : RR (up iv1 1 16 (Y.1 3 * 1103515245 + 12345)) 1 (upr Y.1 3 (drX Y.1)) := u1_zz hR
      refine J.getI (ci := 1) (k0 := 16) (kz := 16) (q := 31) dX1_drawThrushes_28 kF_X1_61 rfl (by decide) (by decide) rfl (.inl rfl) ?_ rfl
      rw [g1_zz hR1, upr_s]
      refine J.bipush (q := 33) dX1_drawThrushes_31 (by decide) ?_ rfl
      refine J.iushr (q := 34) (z := drw (drX Y.1)) dX1_drawThrushes_33 (drw_ok _) ?_ rfl
      refine J.bipush (q := 36) dX1_drawThrushes_34 (by decide) ?_ rfl
      refine J.irem (q := 37) dX1_drawThrushes_36 (I3_rem (by omega) (by omega) rfl) (I3_n0 (by omega)) ?_ rfl
      refine J.aload_n (q := 38) dX1_drawThrushes_37 rfl ?_ rfl
      refine J.getI (ci := 1) (k0 := 13) (kz := 13) (q := 41) dX1_drawThrushes_38 kF_X1_52 rfl (by decide) (by decide) rfl (.inl rfl) ?_ rfl
      rw [g1_thr hR1, upr_n _ _ (by decide)]
      refine J.icmp_ge (tgt := 54) (q := 44) (hv := by omega) dX1_drawThrushes_41 rfl rfl (fun c41 => ?_) (fun c41 => ?_)
      · have hh : ¬ hitB Y.1 = true := fun q => by have := of_decide_eq_true q; omega
        rw [if_neg hh, if_neg hh] at hB
        have hsf := upr_self (upr Y.1 3 (drX Y.1)) (257 + 5 * k + 1)
        rw [upr_n _ _ (by omega)] at hsf
        rw [hsf] at hB
        refine J.iinc (q := 57) dX1_drawThrushes_54 rfl ?_ rfl
        refine J.goto (tgt := 4) dX1_drawThrushes_57 rfl ?_
        first
        | (exact absurd (by assumption) hh)
        | (have hY2 := thr_MI (x := drX Y.1) (y := 0) hI (k := k) (by omega) (by omega)
           refine ih (k + 1) (_, Y.2 + 1) _ (by omega) ⟨by omega, ?_⟩ hY2 (u1_ats (c := k) hR1 (by omega) (by omega)) (fun q hq => ?_) hB
           · show k + 1 ≤ upr (upr Y.1 3 (drX Y.1)) (257 + 5 * k + 1) 0 2
             rw [upr_n _ _ (by omega), upr_n _ _ (by decide)]; omega
           · rw [up_n _ _ _ (by omega), up_n _ _ _ (by omega)]; exact hf q hq)
        | (have hY2 := thr_MI (x := drX Y.1) (y := Y.1 (257 + 5 * k + 1)) hI (k := k) (by omega) (by omega)
           rw [hsf] at hY2
           refine J.eql ?_ (ih (k + 1) (upr Y.1 3 (drX Y.1), Y.2 + 0) _ (by omega) ⟨by omega, ?_⟩ hY2 hR1 (fun q hq => ?_) hB)
           · rw [Int.add_zero]; rfl
           · show k + 1 ≤ upr Y.1 3 (drX Y.1) 2
             rw [upr_n _ _ (by decide)]; omega
           · rw [up_n _ _ _ (by omega)]; exact hf q hq)
      · have hh : hitB Y.1 = true := decide_eq_true (by omega)
        rw [if_pos hh, if_pos hh] at hB
        refine J.aload_n (q := 45) dX1_drawThrushes_44 rfl ?_ rfl
        refine J.getR (ci := 1) (k0 := 6) (c1 := 8) (q := 48) dX1_drawThrushes_45 kF_X1_30 rfl (by decide) (by decide) rfl (by decide) rfl ?_ rfl
        refine J.iload_n (q := 49) dX1_drawThrushes_48 rfl ?_ rfl
        refine J.iconst (q := 50) dX1_drawThrushes_49 ?_ rfl
        refine J.iast (n := 8) (q := 51) dX1_drawThrushes_50 rfl (by omega) ?_ rfl
        refine J.iinc (q := 54) dX1_drawThrushes_51 rfl ?_ rfl
        refine J.iinc (q := 57) dX1_drawThrushes_54 rfl ?_ rfl
        refine J.goto (tgt := 4) dX1_drawThrushes_57 rfl ?_
        first
        | (exact absurd (by assumption) hh)
        | (have hY2 := thr_MI (x := drX Y.1) (y := 0) hI (k := k) (by omega) (by omega)
           refine ih (k + 1) (_, Y.2 + 1) _ (by omega) ⟨by omega, ?_⟩ hY2 (u1_ats (c := k) hR1 (by omega) (by omega)) (fun q hq => ?_) hB
           · show k + 1 ≤ upr (upr Y.1 3 (drX Y.1)) (257 + 5 * k + 1) 0 2
             rw [upr_n _ _ (by omega), upr_n _ _ (by decide)]; omega
           · rw [up_n _ _ _ (by omega), up_n _ _ _ (by omega)]; exact hf q hq)
        | (have hY2 := thr_MI (x := drX Y.1) (y := Y.1 (257 + 5 * k + 1)) hI (k := k) (by omega) (by omega)
           rw [hsf] at hY2
           refine J.eql ?_ (ih (k + 1) (upr Y.1 3 (drX Y.1), Y.2 + 0) _ (by omega) ⟨by omega, ?_⟩ hY2 hR1 (fun q hq => ?_) hB)
           · rw [Int.add_zero]; rfl
           · show k + 1 ≤ upr Y.1 3 (drX Y.1) 2
             rw [upr_n _ _ (by decide)]; omega
           · rw [up_n _ _ _ (by omega)]; exact hf q hq)

set_option maxRecDepth 100000 in
set_option maxHeartbeats 4000000 in
theorem c_X1_drawThrushes {l : Launch} {F : Nat × (Int → Int)} {iv : Mm} {D : Int} {s : Int → Int} (hR : RR iv 1 s) (hI : MI D s) : Ctr l F 0 0 0 yX1_drawThrushes cX1_drawThrushes 3 (some FieldType.int) [r_ 1] S0 (iv) (fun v S iv2 => v = some (i_ (thrK 9 0 (s, 0)).2) ∧ S = S0 ∧ (∀ q, (q < 1 ∨ 12 < q ∨ q = 5) → iv2 q = iv q) ∧ RR iv2 1 (thrK 9 0 (s, 0)).1) := by
  refine Ctr.of false (fun h => by cases h) (by decide) rfl (Nat.le_of_ble_eq_true rfl) ?_
  refine J.iconst (q := 1) dX1_drawThrushes_0 ?_ rfl
  refine J.istore_n (q := 2) dX1_drawThrushes_1 (Nat.le_of_ble_eq_true rfl) ?_ rfl
  refine J.iconst (q := 3) dX1_drawThrushes_2 ?_ rfl
  refine J.istore_n (q := 4) dX1_drawThrushes_3 (Nat.le_of_ble_eq_true rfl) ?_ rfl
  have hmm := hI.many
  exact drawThrushes_loop 9 0 (s, 0) iv (by omega) ⟨by omega, hmm.1⟩ hI hR (fun _ _ => rfl) rfl

set_option maxRecDepth 100000 in
set_option maxHeartbeats 4000000 in
theorem thrushes5_loop {l : Launch} {F : Nat × (Int → Int)} {iv A : Mm} (hC : CR iv A) (hA : AI A) {m : Int} {z5 : Int → Int} (hm : 1 ≤ m ∧ m ≤ 20) (hd : A 62 0 + m ≤ 99999) : ∀ (n : Nat) (i : Nat) (iv1 : Mm), (m - (i : Int) < n) → ((i : Int) ≤ m) → (Sv44 iv1 (A 62)) → (RM1 iv1 (thrD (fdst (A 62)) i ((A 62, z5), 0)).1) → (∀ q, (q < 1 ∨ 12 < q) → (q < 44 ∨ 49 < q) → iv1 q = iv q) → J l (yX5_thrushes).cls cX5_thrushes 4 (some FieldType.int) 4 0 0 false F (CP iv (an_thrushes A m)) 0 0 54 [some (r_ 0), some (i_ m), some (i_ (thrD (fdst (A 62)) i ((A 62, z5), 0)).2), some (i_ (i : Int))] [] S0 (iv1) := by
  intro n
  induction n with
  | zero =>
    intro i iv1 hn hi2 hS hM hf
    omega
  | succ n ih =>
    intro i iv1 hn hi2 hS hM hf
    have hI := hA.mi
    have hmm := hI.many
    have hkp := hA.kp
    have htp := hA.tp
    obtain ⟨z1, z2, z3⟩ := thrD_MI (fr := fdst (A 62)) (Z := ((A 62, z5), 0)) hI i
    obtain ⟨k1, k2, k3⟩ := thrK_MI 9 0 ((thrD (fdst (A 62)) i ((A 62, z5), 0)).1.1, (thrD (fdst (A 62)) i ((A 62, z5), 0)).2) z1 (by omega)
    have ka := thrK_add 9 0 (thrD (fdst (A 62)) i ((A 62, z5), 0)).1.1 (thrD (fdst (A 62)) i ((A 62, z5), 0)).2
    have kz : (thrK 9 0 ((thrD (fdst (A 62)) i ((A 62, z5), 0)).1.1, 0)).1 = (thrK 9 0 ((thrD (fdst (A 62)) i ((A 62, z5), 0)).1.1, (thrD (fdst (A 62)) i ((A 62, z5), 0)).2)).1 := by rw [ka]
    refine J.iload_n (q := 55) dX5_thrushes_54 rfl ?_ rfl
    refine J.iload_n (q := 56) dX5_thrushes_55 rfl ?_ rfl
    refine J.icmp_ge (tgt := 90) (q := 59) dX5_thrushes_56 rfl rfl (fun c56 => ?_) (fun c56 => ?_)
    · refine J.iload_n (q := 91) dX5_thrushes_90 rfl ?_ rfl
      refine J.ireturn dX5_thrushes_91 rfl ?_
      have him : m.toNat = i := by omega
      obtain ⟨t1, t2⟩ := thrD_eq (fdst (A 62)) ((A 62, z5), 0) (P0 (A 62), 0) rfl rfl i
      unfold an_thrushes
      rw [him, if_pos (by omega), if_neg (by omega)]
      have hR := hM.1
      rw [t1] at hR
      exact ⟨congrArg (fun z => some (i_ z)) t2, rfl, fun q hq => hf q (by omega) (by omega), hC.rep hR (fun q hq => hf q (by omega) (by omega))⟩
    · refine J.iload_n (q := 60) dX5_thrushes_59 rfl ?_ rfl
      refine J.aload_n (q := 61) dX5_thrushes_60 rfl ?_ rfl
      refine J.getR (ci := 5) (k0 := 0) (c1 := 1) (q := 64) dX5_thrushes_61 kF_X5_12 rfl (by decide) (by decide) rfl (by decide) rfl ?_ rfl
      refine J.callV0 (ci := 1) (q := 67) dX5_thrushes_64 mv_X1_drawThrushes kL_X5_215 rfl (by decide) rfl ⟨by decide, by decide⟩ (Nat.le_of_ble_eq_true rfl) ⟨by decide, by decide⟩ rfl (c_X1_drawThrushes hM.1 z1) (fun v9 S9 iv9 hp => ?_)
      obtain ⟨rfl, rfl, b1, hR9⟩ := hp
      rw [kz] at hR9
      have hS9 : Sv44 iv9 (A 62) := fun a c a0 a1 c0 c1 => by rw [b1 48 (by omega), b1 49 (by omega)]; exact hS a c a0 a1 c0 c1
      refine J.iadd (q := 68) dX5_thrushes_67 ?_ rfl
      refine J.istore_n (q := 69) dX5_thrushes_68 (Nat.le_of_ble_eq_true rfl) ?_ rfl
      refine J.aload_n (q := 70) dX5_thrushes_69 rfl ?_ rfl
      refine J.getR (ci := 5) (k0 := 0) (c1 := 1) (q := 73) dX5_thrushes_70 kF_X5_12 rfl (by decide) (by decide) rfl (by decide) rfl ?_ rfl
      refine J.aload_n (q := 74) dX5_thrushes_73 rfl ?_ rfl
      refine J.getR (ci := 5) (k0 := 3) (c1 := 44) (q := 77) dX5_thrushes_74 kF_X5_29 rfl (by decide) (by decide) rfl (by decide) rfl ?_ rfl
      refine J.sipush (q := 80) dX5_thrushes_77 (by decide) ?_ rfl
      refine J.iconst (q := 81) dX5_thrushes_80 ?_ rfl
      refine J.callV3 (ci := 1) (q := 84) dX5_thrushes_81 mv_X1_passDays kL_X5_133 rfl (by decide) rfl ⟨by decide, by decide⟩ (Nat.le_of_ble_eq_true rfl) ⟨by decide, by decide⟩ rfl (c_passDays1 (D := 200000) (th := th1) (X0 := ((thrK 9 0 ((thrD (fdst (A 62)) i ((A 62, z5), 0)).1.1, (thrD (fdst (A 62)) i ((A 62, z5), 0)).2)).1, (thrD (fdst (A 62)) i ((A 62, z5), 0)).1.2)) (Int.le_refl _) hS9 (by omega) hth255 (by omega) (D0 := 99999 + i) (by omega) k1 ((k3 2 (kept_lo (by omega)) (by decide)).trans (z3 2 (kept_lo (by omega)) (by decide))) (fun c c0 c1 => (k3 _ (kept_lo (by omega)) (by omega)).trans (z3 _ (kept_lo (by omega)) (by omega))) ⟨hR9, fun c c0 c1 => by rw [b1 5 (by omega)]; exact hM.2 c c0 c1⟩) (fun v8 S8 iv8 hp => ?_)
      obtain ⟨rfl, rfl, d1, hM8⟩ := hp
      refine J.iinc (q := 87) dX5_thrushes_84 rfl ?_ rfl
      refine J.goto (tgt := 54) dX5_thrushes_87 rfl ?_
      refine J.eql ?_ (ih (i + 1) iv8 (by omega) (by omega) (fun a c a0 a1 c0 c1 => by rw [d1 48 (by omega), d1 49 (by omega)]; exact hS9 a c a0 a1 c0 c1) hM8 (fun q q1 q2 => (d1 q q1).trans ((b1 q (by omega)).trans (hf q q1 q2))))
      show _ = [some (r_ 0), some (i_ m), some (i_ (thrK 9 0 ((thrD (fdst (A 62)) i ((A 62, z5), 0)).1.1, (thrD (fdst (A 62)) i ((A 62, z5), 0)).2)).2), some (i_ ((i + 1 : Nat) : Int))]
      rw [ka]
      rfl

set_option maxRecDepth 100000 in
set_option maxHeartbeats 4000000 in
theorem c_X5_thrushes {l : Launch} {F : Nat × (Int → Int)} {iv A : Mm} (hC : CR iv A) (hA : AI A) {m : Int} (hm : -2147483648 ≤ m ∧ m < 2147483648) : Ctr l F 4 0 0 yX5_thrushes cX5_thrushes 4 (some FieldType.int) [r_ 0, i_ m] S0 (iv) (CP iv (an_thrushes A m)) := by
  refine Ctr.of false (fun h => by cases h) (by decide) rfl (Nat.le_of_ble_eq_true rfl) ?_
  have hI := hA.mi
  have hmm := hI.many
  have hkp := hA.kp
  have htp := hA.tp
  have hdy := hI.day
  refine J.iload_n (q := 1) dX5_thrushes_0 rfl ?_ rfl
  refine J.iconst (q := 2) dX5_thrushes_1 ?_ rfl
  refine J.icmp_lt (tgt := 11) (q := 5) dX5_thrushes_2 rfl rfl (fun c2 => ?_) (fun c2 => ?_)
  · refine J.aload_n (q := 12) dX5_thrushes_11 rfl ?_ rfl
    refine J.ldc (q := 14) (z := -1000001) dX5_thrushes_12 kK_X5_63 ?_ rfl
    refine J.callV1 (ci := 5) (q := 17) dX5_thrushes_14 mv_X5_tell kL_X5_64 rfl (by decide) rfl ⟨by decide, by decide⟩ (Nat.le_of_ble_eq_true rfl) ⟨by decide, by decide⟩ rfl (c_X5_tell (w := 0) (by decide) hC (by decide)) (fun v9 S9 iv9 hp => ?_)
    obtain ⟨rfl, rfl, hf8, hC8⟩ := hp
    refine J.ireturn dX5_thrushes_17 rfl ?_
    unfold CP an_thrushes
    repeat (first | rw [if_pos (by omega)] | rw [if_neg (by omega)])
    first
    | exact ⟨rfl, rfl, hf8, hC8⟩
    | (exfalso; omega)
  · refine J.iload_n (q := 6) dX5_thrushes_5 rfl ?_ rfl
    refine J.bipush (q := 8) dX5_thrushes_6 (by decide) ?_ rfl
    refine J.icmp_le (tgt := 18) (q := 11) dX5_thrushes_8 rfl rfl (fun c8 => ?_) (fun c8 => ?_)
    · refine J.aload_n (q := 19) dX5_thrushes_18 rfl ?_ rfl
      refine J.getR (ci := 5) (k0 := 0) (c1 := 1) (q := 22) dX5_thrushes_19 kF_X5_12 rfl (by decide) (by decide) rfl (by decide) rfl ?_ rfl
      refine J.getI (ci := 1) (k0 := 14) (kz := 14) (q := 25) dX5_thrushes_22 kF_X5_125 rfl (by decide) (by decide) rfl (.inl rfl) ?_ rfl
      rw [g1_day hC.r]
      refine J.iload_n (q := 26) dX5_thrushes_25 rfl ?_ rfl
      refine J.iadd (q := 27) dX5_thrushes_26 ?_ rfl
      refine J.ldc (q := 29) (z := 99999) dX5_thrushes_27 kK_X5_128 ?_ rfl
      refine J.icmp_le (tgt := 39) (q := 32) dX5_thrushes_29 rfl rfl (fun c29 => ?_) (fun c29 => ?_)
      · refine J.aload_n (q := 40) dX5_thrushes_39 rfl ?_ rfl
        refine J.getR (ci := 5) (k0 := 3) (c1 := 44) (q := 43) dX5_thrushes_40 kF_X5_29 rfl (by decide) (by decide) rfl (by decide) rfl ?_ rfl
        refine J.aload_n (q := 44) dX5_thrushes_43 rfl ?_ rfl
        refine J.getR (ci := 5) (k0 := 0) (c1 := 1) (q := 47) dX5_thrushes_44 kF_X5_12 rfl (by decide) (by decide) rfl (by decide) rfl ?_ rfl
        refine J.callV1 (ci := 4) (q := 50) dX5_thrushes_47 mv_X4_survey kL_X5_130 rfl (by decide) rfl ⟨by decide, by decide⟩ (Nat.le_of_ble_eq_true rfl) ⟨by decide, by decide⟩ rfl (c_survey44 hC.r hI) (fun v9 S9 iv9 hp => ?_)
        obtain ⟨rfl, rfl, b1, hSv⟩ := hp
        have hR9 : RR iv9 1 (A 62) := f1 hC.r (fun q q1 q2 q3 => b1 q (by omega))
        refine J.iconst (q := 51) dX5_thrushes_50 ?_ rfl
        refine J.istore_n (q := 52) dX5_thrushes_51 (Nat.le_of_ble_eq_true rfl) ?_ rfl
        refine J.iconst (q := 53) dX5_thrushes_52 ?_ rfl
        refine J.istore_n (q := 54) dX5_thrushes_53 (Nat.le_of_ble_eq_true rfl) ?_ rfl
        exact thrushes5_loop hC hA (z5 := iv9 5) (by omega) (by omega) 21 0 iv9 (by omega) (by omega) hSv ⟨hR9, fun _ _ _ => rfl⟩ (fun q q1 q2 => b1 q (by omega))
      · refine J.aload_n (q := 33) dX5_thrushes_32 rfl ?_ rfl
        refine J.ldc (q := 35) (z := -1000005) dX5_thrushes_33 kK_X5_129 ?_ rfl
        refine J.callV1 (ci := 5) (q := 38) dX5_thrushes_35 mv_X5_tell kL_X5_64 rfl (by decide) rfl ⟨by decide, by decide⟩ (Nat.le_of_ble_eq_true rfl) ⟨by decide, by decide⟩ rfl (c_X5_tell (w := 4) (by decide) hC (by decide)) (fun v9 S9 iv9 hp => ?_)
        obtain ⟨rfl, rfl, hf8, hC8⟩ := hp
        refine J.ireturn dX5_thrushes_38 rfl ?_
        unfold CP an_thrushes
        repeat (first | rw [if_pos (by omega)] | rw [if_neg (by omega)])
        first
        | exact ⟨rfl, rfl, hf8, hC8⟩
        | (exfalso; omega)
    · refine J.aload_n (q := 12) dX5_thrushes_11 rfl ?_ rfl
      refine J.ldc (q := 14) (z := -1000001) dX5_thrushes_12 kK_X5_63 ?_ rfl
      refine J.callV1 (ci := 5) (q := 17) dX5_thrushes_14 mv_X5_tell kL_X5_64 rfl (by decide) rfl ⟨by decide, by decide⟩ (Nat.le_of_ble_eq_true rfl) ⟨by decide, by decide⟩ rfl (c_X5_tell (w := 0) (by decide) hC (by decide)) (fun v9 S9 iv9 hp => ?_)
      obtain ⟨rfl, rfl, hf8, hC8⟩ := hp
      refine J.ireturn dX5_thrushes_17 rfl ?_
      unfold CP an_thrushes
      repeat (first | rw [if_pos (by omega)] | rw [if_neg (by omega)])
      first
      | exact ⟨rfl, rfl, hf8, hC8⟩
      | (exfalso; omega)

def cdv (n : Nat) : Nat → Nat
  | 0 => 1
  | j + 1 => if n % (j + 2) = 0 ∧ 20 % (j + 2) = 0 then j + 2 else cdv n j
theorem cdv_gcd {n : Nat} (h : n ≤ 20) : cdv n 19 = Nat.gcd n 20 := by
  have h : ∀ n : Nat, n < 21 → cdv n 19 = Nat.gcd n 20 := by decide
  exact h n (by omega)
def CPL (iv : Mm) (O : Int × Mm) : Option VT → Shp → Mm → Prop := fun v S iv2 => v = some (l_ O.1) ∧ S = S0 ∧ (∀ q, 61 ≤ q → iv2 q = iv q) ∧ CR iv2 O.2
set_option maxRecDepth 100000 in
set_option maxHeartbeats 4000000 in
theorem commonDivisor_loop {l : Launch} {F : Nat × (Int → Int)} {iv : Mm} {z : Nat} (hz : z ≤ 20) : ∀ (n : Nat) (j : Nat), (19 - (j : Int) < n) → ((j : Int) ≤ 19) → J l (yX5_commonDivisor).cls cX5_commonDivisor 3 (some FieldType.int) 0 0 0 false F (Ret (some (i_ (Nat.gcd z 20 : Int))) S0 iv) 0 0 4 [some (i_ (z : Int)), some (i_ (cdv z j : Int)), some (i_ ((j : Int) + 2))] [] S0 (iv) := by
  intro n
  induction n with
  | zero =>
    intro j hn hj
    omega
  | succ n ih =>
    intro j hn hj
    have h3 : ((z % (j + 2) : Nat) : Int) = (z : Int) % ((j : Int) + 2) := by rw [Int.natCast_emod]; rfl
    have h4 : ((20 % (j + 2) : Nat) : Int) = 20 % ((j : Int) + 2) := by rw [Int.natCast_emod]; rfl
    obtain ⟨w1, hw1⟩ : ∃ w1, w1 = z % (j + 2) := ⟨_, rfl⟩
    obtain ⟨w2, hw2⟩ : ∃ w2, w2 = 20 % (j + 2) := ⟨_, rfl⟩
    have hl1 := Nat.mod_lt z (show 0 < j + 2 by omega)
    have hl2 := Nat.mod_lt 20 (show 0 < j + 2 by omega)
    rw [← hw1] at h3 hl1
    rw [← hw2] at h4 hl2
    refine J.iload_n (q := 5) dX5_commonDivisor_4 rfl ?_ rfl
    refine J.bipush (q := 7) dX5_commonDivisor_5 (by decide) ?_ rfl
    refine J.icmp_gt (tgt := 31) (q := 10) dX5_commonDivisor_7 rfl rfl (fun c7 => ?_) (fun c7 => ?_)
    · refine J.iload_n (q := 32) dX5_commonDivisor_31 rfl ?_ rfl
      refine J.ireturn dX5_commonDivisor_32 rfl ?_
      have hj9 : j = 19 := by omega
      subst hj9
      rw [← cdv_gcd hz]
      exact ⟨rfl, rfl, rfl⟩
    · refine J.iload_n (q := 11) dX5_commonDivisor_10 rfl ?_ rfl
      refine J.iload_n (q := 12) dX5_commonDivisor_11 rfl ?_ rfl
      refine J.irem (q := 13) dX5_commonDivisor_12 (I3_rem (by omega) (by omega) rfl) (I3_n0 (by omega)) ?_ rfl
      rw [← h3]
      refine J.if_ne (tgt := 25) (q := 16) (hv := by omega) dX5_commonDivisor_13 rfl rfl (fun c13 => ?_) (fun c13 => ?_)
      · have he : cdv z (j + 1) = cdv z j := if_neg (fun q => by rw [← hw1] at q; omega)
        refine J.iinc (q := 28) dX5_commonDivisor_25 rfl ?_ rfl
        refine J.goto (tgt := 4) dX5_commonDivisor_28 rfl ?_
        refine J.eql ?_ (ih (j + 1) (by omega) (by omega))
        rw [he, show ((j + 1 : Nat) : Int) + 2 = (j : Int) + 2 + 1 by omega]
        first
        | rfl
        | (rw [show ((j + 2 : Nat) : Int) = (j : Int) + 2 by omega]; rfl)
      · refine J.bipush (q := 18) dX5_commonDivisor_16 (by decide) ?_ rfl
        refine J.iload_n (q := 19) dX5_commonDivisor_18 rfl ?_ rfl
        refine J.irem (q := 20) dX5_commonDivisor_19 (I3_rem (by omega) (by omega) rfl) (I3_n0 (by omega)) ?_ rfl
        rw [← h4]
        refine J.if_ne (tgt := 25) (q := 23) (hv := by omega) dX5_commonDivisor_20 rfl rfl (fun c20 => ?_) (fun c20 => ?_)
        · have he : cdv z (j + 1) = cdv z j := if_neg (fun q => by rw [← hw2] at q; omega)
          refine J.iinc (q := 28) dX5_commonDivisor_25 rfl ?_ rfl
          refine J.goto (tgt := 4) dX5_commonDivisor_28 rfl ?_
          refine J.eql ?_ (ih (j + 1) (by omega) (by omega))
          rw [he, show ((j + 1 : Nat) : Int) + 2 = (j : Int) + 2 + 1 by omega]
          first
          | rfl
          | (rw [show ((j + 2 : Nat) : Int) = (j : Int) + 2 by omega]; rfl)
        · have he : cdv z (j + 1) = j + 2 := if_pos ⟨by rw [← hw1]; omega, by rw [← hw2]; omega⟩
          refine J.iload_n (q := 24) dX5_commonDivisor_23 rfl ?_ rfl
          refine J.istore_n (q := 25) dX5_commonDivisor_24 (Nat.le_of_ble_eq_true rfl) ?_ rfl
          refine J.iinc (q := 28) dX5_commonDivisor_25 rfl ?_ rfl
          refine J.goto (tgt := 4) dX5_commonDivisor_28 rfl ?_
          refine J.eql ?_ (ih (j + 1) (by omega) (by omega))
          rw [he, show ((j + 1 : Nat) : Int) + 2 = (j : Int) + 2 + 1 by omega]
          first
          | rfl
          | (rw [show ((j + 2 : Nat) : Int) = (j : Int) + 2 by omega]; rfl)

set_option maxRecDepth 100000 in
set_option maxHeartbeats 4000000 in
theorem c_X5_commonDivisor {l : Launch} {F : Nat × (Int → Int)} {iv : Mm} {z : Nat} (hz : z ≤ 20) : Ctr l F 0 0 0 yX5_commonDivisor cX5_commonDivisor 3 (some FieldType.int) [i_ (z : Int)] S0 (iv) (Ret (some (i_ (Nat.gcd z 20 : Int))) S0 iv) := by
  refine Ctr.of false (fun h => by cases h) (by decide) rfl (Nat.le_of_ble_eq_true rfl) ?_
  refine J.iconst (q := 1) dX5_commonDivisor_0 ?_ rfl
  refine J.istore_n (q := 2) dX5_commonDivisor_1 (Nat.le_of_ble_eq_true rfl) ?_ rfl
  refine J.iconst (q := 3) dX5_commonDivisor_2 ?_ rfl
  refine J.istore_n (q := 4) dX5_commonDivisor_3 (Nat.le_of_ble_eq_true rfl) ?_ rfl
  exact commonDivisor_loop hz 20 0 (by omega) (by omega)

set_option maxRecDepth 100000 in
set_option maxHeartbeats 4000000 in
theorem alone5_loop {l : Launch} {F : Nat × (Int → Int)} {iv A : Mm} (hC : CR iv A) {m w V : Int} {z3 z4 T : Int} (hT : 0 ≤ T ∧ T ≤ 20) (hm : 0 ≤ m ∧ m ≤ 14) (hV : an_alone A m w = (V, A)) (hVT : T ^ m.toNat = V) : ∀ (n : Nat) (k : Nat), (m - (k : Int) < n) → ((k : Int) ≤ m) → J l (yX5_alone).cls cX5_alone 9 (some FieldType.long) 4 0 0 false F (CPL iv (an_alone A m w)) 0 0 63 [some (r_ 0), some (i_ m), some (i_ w), some (i_ z3), some (i_ z4), some (i_ T), some (l_ (T ^ k)), none, some (i_ (k : Int))] [] S0 (iv) := by
  intro n
  induction n with
  | zero =>
    intro k hn hk
    omega
  | succ n ih =>
    intro k hn hk
    refine J.iload (q := 65) dX5_alone_63 rfl ?_ rfl
    refine J.iload_n (q := 66) dX5_alone_65 rfl ?_ rfl
    refine J.icmp_ge (tgt := 83) (q := 69) dX5_alone_66 rfl rfl (fun c66 => ?_) (fun c66 => ?_)
    · refine J.lload (q := 85) dX5_alone_83 rfl ?_ rfl
      refine J.lreturn dX5_alone_85 rfl ?_
      have hmk : m.toNat = k := by omega
      rw [hV, ← hVT, hmk]
      exact ⟨rfl, rfl, fun _ _ => rfl, hC⟩
    · refine J.lload (q := 71) dX5_alone_69 rfl ?_ rfl
      refine J.iload (q := 73) dX5_alone_71 rfl ?_ rfl
      refine J.i2l (q := 74) (z := T) dX5_alone_73 (I6_i2l (by omega)) ?_ rfl
      refine J.lmul (q := 75) dX5_alone_74 ?_ rfl
      refine J.lstore (q := 77) dX5_alone_75 (Nat.le_of_ble_eq_true rfl) ?_ rfl
      refine J.iinc (q := 80) dX5_alone_77 rfl ?_ rfl
      refine J.goto (tgt := 63) dX5_alone_80 rfl ?_
      refine J.eql ?_ (ih (k + 1) (by omega) (by omega))
      rw [Int.pow_succ]
      rfl

theorem odd_pow (x n : Nat) : x ^ n / Nat.gcd (x ^ n) (20 ^ n) = (x / Nat.gcd x 20) ^ n ∧ 20 ^ n / Nat.gcd (x ^ n) (20 ^ n) = (20 / Nat.gcd x 20) ^ n := by
  rw [Nat.pow_gcd_pow, Nat.div_pow (Nat.gcd_dvd_left x 20), Nat.div_pow (Nat.gcd_dvd_right x 20)]
  exact ⟨rfl, rfl⟩
set_option maxRecDepth 100000 in
set_option maxHeartbeats 4000000 in
theorem c_X5_alone {l : Launch} {F : Nat × (Int → Int)} {iv A : Mm} (hC : CR iv A) (hA : AI A) {m w : Int} (hm : -2147483648 ≤ m ∧ m < 2147483648) (hw : -2147483648 ≤ w ∧ w < 2147483648) : Ctr l F 4 0 0 yX5_alone cX5_alone 9 (some FieldType.long) [r_ 0, i_ m, i_ w] S0 (iv) (CPL iv (an_alone A m w)) := by
  refine Ctr.of false (fun h => by cases h) (by decide) rfl (Nat.le_of_ble_eq_true rfl) ?_
  have hI := hA.mi
  have hmm := hI.many
  have hkp := hA.kp
  have htp := hA.tp
  have hth := hI.thr
  obtain ⟨x, hx⟩ : ∃ x : Nat, (x : Int) = 20 - A 62 5 := ⟨(20 - A 62 5).toNat, by omega⟩
  have hxl : x ≤ 20 := by omega
  have hg0 : 0 < Nat.gcd x 20 := Nat.gcd_pos_of_pos_right _ (by decide)
  have hg1 : Nat.gcd x 20 ≤ 20 := Nat.gcd_le_right _ (by decide)
  refine J.iload_n (q := 1) dX5_alone_0 rfl ?_ rfl
  refine J.bipush (q := 3) dX5_alone_1 (by decide) ?_ rfl
  refine J.callS2i (q := 6) dX5_alone_3 mv_X5_isWithin kS_X5_isWithin kL_X5_59 ⟨by decide, by decide⟩ (Nat.le_of_ble_eq_true rfl) ⟨by decide, by decide⟩ rfl (c_X5_isWithin (by omega) (by omega)) ?_
  refine J.ifb_eq (tgt := 17) (q := 9) dX5_alone_6 rfl rfl (fun c6 => ?_) (fun c6 => ?_)
  · refine J.aload_n (q := 18) dX5_alone_17 rfl ?_ rfl
    refine J.ldc (q := 20) (z := -1000001) dX5_alone_18 kK_X5_63 ?_ rfl
    refine J.callV1 (ci := 5) (q := 23) dX5_alone_20 mv_X5_tell kL_X5_64 rfl (by decide) rfl ⟨by decide, by decide⟩ (Nat.le_of_ble_eq_true rfl) ⟨by decide, by decide⟩ rfl (c_X5_tell (w := 0) (by decide) hC (by decide)) (fun v9 S9 iv9 hp => ?_)
    obtain ⟨rfl, rfl, hf8, hC8⟩ := hp
    refine J.i2l (q := 24) (z := -1000001 - 0) dX5_alone_23 (I6_i2l (x := -1000001 - 0) (by omega)) ?_ rfl
    refine J.lreturn dX5_alone_24 rfl ?_
    unfold an_alone
    rw [if_neg (by omega)]
    exact ⟨rfl, rfl, hf8, hC8⟩
  · refine J.iload_n (q := 10) dX5_alone_9 rfl ?_ rfl
    refine J.iconst (q := 11) dX5_alone_10 ?_ rfl
    refine J.callS2i (q := 14) dX5_alone_11 mv_X5_isWithin kS_X5_isWithin kL_X5_59 ⟨by decide, by decide⟩ (Nat.le_of_ble_eq_true rfl) ⟨by decide, by decide⟩ rfl (c_X5_isWithin (by omega) (by omega)) ?_
    refine J.ifb_ne (tgt := 25) (q := 17) dX5_alone_14 rfl rfl (fun c14 => ?_) (fun c14 => ?_)
    · refine J.bipush (q := 27) dX5_alone_25 (by decide) ?_ rfl
      refine J.aload_n (q := 28) dX5_alone_27 rfl ?_ rfl
      refine J.getR (ci := 5) (k0 := 0) (c1 := 1) (q := 31) dX5_alone_28 kF_X5_12 rfl (by decide) (by decide) rfl (by decide) rfl ?_ rfl
      refine J.getI (ci := 1) (k0 := 13) (kz := 13) (q := 34) dX5_alone_31 kF_X5_122 rfl (by decide) (by decide) rfl (.inl rfl) ?_ rfl
      rw [g1_thr hC.r]
      refine J.isub (q := 35) dX5_alone_34 ?_ rfl
      rw [← hx]
      refine J.istore_n (q := 36) dX5_alone_35 (Nat.le_of_ble_eq_true rfl) ?_ rfl
      refine J.iload_n (q := 37) dX5_alone_36 rfl ?_ rfl
      refine J.callS1i (q := 40) dX5_alone_37 mv_X5_commonDivisor kS_X5_commonDivisor kL_X5_218 ⟨by decide, by decide⟩ (Nat.le_of_ble_eq_true rfl) ⟨by decide, by decide⟩ rfl (c_X5_commonDivisor hxl) ?_
      refine J.istore (q := 42) dX5_alone_40 (Nat.le_of_ble_eq_true rfl) ?_ rfl
      refine J.iload_n (q := 43) dX5_alone_42 rfl ?_ rfl
      refine J.if_ne (tgt := 50) (q := 46) dX5_alone_43 rfl rfl (fun c43 => ?_) (fun c43 => ?_)
      · 
        refine J.bipush (q := 52) dX5_alone_50 (by decide) ?_ rfl
        refine J.iload (q := 54) dX5_alone_52 rfl ?_ rfl
        refine J.idiv (q := 55) dX5_alone_54 (I3_div (by omega) (by omega) rfl) (I3_n0 (by omega)) ?_ rfl
        refine J.istore (q := 57) dX5_alone_55 (Nat.le_of_ble_eq_true rfl) ?_ rfl
        refine J.lconst (q := 58) (z := 1) dX5_alone_57 rfl ?_ rfl
        refine J.lstore (q := 60) dX5_alone_58 (Nat.le_of_ble_eq_true rfl) ?_ rfl
        refine J.iconst (q := 61) dX5_alone_60 ?_ rfl
        refine J.istore (q := 63) dX5_alone_61 (Nat.le_of_ble_eq_true rfl) ?_ rfl
        have ho : oddN (A 62 5) m.toNat = x ^ m.toNat := by unfold oddN; rw [show (20 - A 62 5).toNat = x by omega]
        have hop := odd_pow x m.toNat
        first
        | (have hw0 : w = 0 := by omega
           have hTl : x / Nat.gcd x 20 ≤ 20 := Nat.le_trans (Nat.div_le_self _ _) hxl
           refine alone5_loop hC (T := (x : Int) / (Nat.gcd x 20 : Int)) (V := ((x ^ m.toNat / Nat.gcd (x ^ m.toNat) (20 ^ m.toNat) : Nat) : Int)) ?_ (by omega) ?_ ?_ 15 0 (by omega) (by omega)
           · exact ⟨by rw [← Int.natCast_ediv]; exact Int.natCast_nonneg _, by rw [← Int.natCast_ediv]; exact Int.ofNat_le.mpr hTl⟩
           · unfold an_alone
             rw [if_pos (by omega), if_pos hw0, ho]
           · rw [hop.1, Int.natCast_pow, Int.natCast_ediv])
        | (have hw0 : ¬ w = 0 := by omega
           have hTl : 20 / Nat.gcd x 20 ≤ 20 := Nat.div_le_self _ _
           refine alone5_loop hC (T := (20 : Int) / (Nat.gcd x 20 : Int)) (V := ((20 ^ m.toNat / Nat.gcd (x ^ m.toNat) (20 ^ m.toNat) : Nat) : Int)) ?_ (by omega) ?_ ?_ 15 0 (by omega) (by omega)
           · have e20 : (20 : Int) / (Nat.gcd x 20 : Int) = ((20 / Nat.gcd x 20 : Nat) : Int) := by rw [Int.natCast_ediv]; rfl
             rw [e20]
             exact ⟨Int.natCast_nonneg _, Int.ofNat_le.mpr hTl⟩
           · unfold an_alone
             rw [if_pos (by omega), if_neg hw0, ho]
           · rw [hop.2, Int.natCast_pow, Int.natCast_ediv]; rfl)
      · refine J.iload_n (q := 47) dX5_alone_46 rfl ?_ rfl
        refine J.goto (tgt := 52) dX5_alone_47 rfl ?_
        refine J.iload (q := 54) dX5_alone_52 rfl ?_ rfl
        refine J.idiv (q := 55) dX5_alone_54 (I3_div (by omega) (by omega) rfl) (I3_n0 (by omega)) ?_ rfl
        refine J.istore (q := 57) dX5_alone_55 (Nat.le_of_ble_eq_true rfl) ?_ rfl
        refine J.lconst (q := 58) (z := 1) dX5_alone_57 rfl ?_ rfl
        refine J.lstore (q := 60) dX5_alone_58 (Nat.le_of_ble_eq_true rfl) ?_ rfl
        refine J.iconst (q := 61) dX5_alone_60 ?_ rfl
        refine J.istore (q := 63) dX5_alone_61 (Nat.le_of_ble_eq_true rfl) ?_ rfl
        have ho : oddN (A 62 5) m.toNat = x ^ m.toNat := by unfold oddN; rw [show (20 - A 62 5).toNat = x by omega]
        have hop := odd_pow x m.toNat
        first
        | (have hw0 : w = 0 := by omega
           have hTl : x / Nat.gcd x 20 ≤ 20 := Nat.le_trans (Nat.div_le_self _ _) hxl
           refine alone5_loop hC (T := (x : Int) / (Nat.gcd x 20 : Int)) (V := ((x ^ m.toNat / Nat.gcd (x ^ m.toNat) (20 ^ m.toNat) : Nat) : Int)) ?_ (by omega) ?_ ?_ 15 0 (by omega) (by omega)
           · exact ⟨by rw [← Int.natCast_ediv]; exact Int.natCast_nonneg _, by rw [← Int.natCast_ediv]; exact Int.ofNat_le.mpr hTl⟩
           · unfold an_alone
             rw [if_pos (by omega), if_pos hw0, ho]
           · rw [hop.1, Int.natCast_pow, Int.natCast_ediv])
        | (have hw0 : ¬ w = 0 := by omega
           have hTl : 20 / Nat.gcd x 20 ≤ 20 := Nat.div_le_self _ _
           refine alone5_loop hC (T := (20 : Int) / (Nat.gcd x 20 : Int)) (V := ((20 ^ m.toNat / Nat.gcd (x ^ m.toNat) (20 ^ m.toNat) : Nat) : Int)) ?_ (by omega) ?_ ?_ 15 0 (by omega) (by omega)
           · have e20 : (20 : Int) / (Nat.gcd x 20 : Int) = ((20 / Nat.gcd x 20 : Nat) : Int) := by rw [Int.natCast_ediv]; rfl
             rw [e20]
             exact ⟨Int.natCast_nonneg _, Int.ofNat_le.mpr hTl⟩
           · unfold an_alone
             rw [if_pos (by omega), if_neg hw0, ho]
           · rw [hop.2, Int.natCast_pow, Int.natCast_ediv]; rfl)
    · refine J.aload_n (q := 18) dX5_alone_17 rfl ?_ rfl
      refine J.ldc (q := 20) (z := -1000001) dX5_alone_18 kK_X5_63 ?_ rfl
      refine J.callV1 (ci := 5) (q := 23) dX5_alone_20 mv_X5_tell kL_X5_64 rfl (by decide) rfl ⟨by decide, by decide⟩ (Nat.le_of_ble_eq_true rfl) ⟨by decide, by decide⟩ rfl (c_X5_tell (w := 0) (by decide) hC (by decide)) (fun v9 S9 iv9 hp => ?_)
      obtain ⟨rfl, rfl, hf8, hC8⟩ := hp
      refine J.i2l (q := 24) (z := -1000001 - 0) dX5_alone_23 (I6_i2l (x := -1000001 - 0) (by omega)) ?_ rfl
      refine J.lreturn dX5_alone_24 rfl ?_
      unfold an_alone
      rw [if_neg (by omega)]
      exact ⟨rfl, rfl, hf8, hC8⟩

