/-! the reference: thrushes (printed by wip/whole/m_model17.py) -/
def drw (x : Int) : Int := x % 4294967296 / 256
theorem drw_rng (x : Int) : 0 ≤ drw x ∧ drw x < 16777216 := by unfold drw; omega
theorem drw_ok (x : Int) : ((Int32.ofInt x).toUInt32 >>> ((Int32.ofInt 8).toUInt32 &&& Int32.toUInt32 31)).toInt32 = Int32.ofInt (drw x) := by
  have e : ((Int32.ofInt 8).toUInt32 &&& Int32.toUInt32 31) = 8 := by decide
  rw [e]
  apply Int32.toBitVec_inj.mp
  apply BitVec.eq_of_toNat_eq
  have h1 : ((Int32.ofInt x).toUInt32 >>> 8).toInt32.toBitVec.toNat = ((Int32.ofInt x).toUInt32 >>> 8).toNat := rfl
  have h2 : (Int32.ofInt x).toUInt32.toNat = (Int32.ofInt x).toBitVec.toNat := rfl
  rw [h1, UInt32.toNat_shiftRight, h2, Int32.toBitVec_ofInt, BitVec.toNat_ofInt, Int32.toBitVec_ofInt, BitVec.toNat_ofInt]
  have h3 : (8 : UInt32).toNat % 32 = 8 := by decide
  rw [h3, Nat.shiftRight_eq_div_pow]
  have := drw_rng x
  unfold drw at *
  simp only [Nat.reducePow]
  omega
abbrev P2i := (Int → Int) × Int
def drX (s : Int → Int) : Int := s 3 * 1103515245 + 12345
def hitB (s : Int → Int) : Bool := decide (drw (drX s) % 20 < s 5)
def thrK : Nat → Int → (Int → Int) × Int → (Int → Int) × Int
  | 0, _, Y => Y
  | n + 1, k, Y => if k < Y.1 2 then thrK n (k + 1) (upr (upr Y.1 3 (drX Y.1)) (257 + 5 * k + 1) (if hitB Y.1 = true then 0 else Y.1 (257 + 5 * k + 1)), Y.2 + (if hitB Y.1 = true then 1 else 0)) else Y
def thrD (fr : Int → Int → Int) : Nat → P2 × Int → P2 × Int
  | 0, Z => Z
  | n + 1, Z => (dayM fr th1 ((thrK 9 0 ((thrD fr n Z).1.1, (thrD fr n Z).2)).1, (thrD fr n Z).1.2), (thrK 9 0 ((thrD fr n Z).1.1, (thrD fr n Z).2)).2)
def an_thrushes (A : Mm) (n : Int) : Int × Mm := if 1 ≤ n ∧ n ≤ 20 then (if 99999 < A 62 0 + n then bad A 4 else ((thrD (fdst (A 62)) n.toNat (P0 (A 62), 0)).2, setr A 62 (thrD (fdst (A 62)) n.toNat (P0 (A 62), 0)).1.1)) else bad A 0
theorem thrD_eq (fr : Int → Int → Int) (X Y : P2 × Int) (h1 : X.1.1 = Y.1.1) (h2 : X.2 = Y.2) : ∀ n : Nat, (thrD fr n X).1.1 = (thrD fr n Y).1.1 ∧ (thrD fr n X).2 = (thrD fr n Y).2
  | 0 => ⟨h1, h2⟩
  | n + 1 => by
    obtain ⟨e1, e2⟩ := thrD_eq fr X Y h1 h2 n
    unfold thrD
    rw [e1, e2]
    exact ⟨dayM_fst fr th1 _ _ rfl, rfl⟩
theorem thr_MI {D : Int} {s : Int → Int} {k x y : Int} (h : MI D s) (hk : 0 ≤ k ∧ k < 8) (hy : 0 ≤ y ∧ y ≤ 80) : MI D (upr (upr s 3 x) (257 + 5 * k + 1) y) :=
  (h.upd (a := 3) (by omega) (by omega) (by omega) (by omega) (by omega) (by omega) (fun c _ _ => ⟨by omega, by omega, by omega⟩) (fun i _ _ => ⟨by omega, by omega, by omega, by omega, by omega⟩) (by omega)).upd (by omega) (by omega) (by omega) (by omega) (by omega) (by omega) (fun c _ _ => ⟨by omega, by omega, by omega⟩) (fun i _ _ => ⟨by omega, fun _ => by omega, by omega, by omega, by omega⟩) (by omega)
theorem thrK_MI {D : Int} : ∀ (n : Nat) (k : Int) (Y : (Int → Int) × Int), MI D Y.1 → 0 ≤ k → MI D (thrK n k Y).1 ∧ (thrK n k Y).1 0 = Y.1 0 ∧ ∀ j, kept j → j ≠ 3 → (thrK n k Y).1 j = Y.1 j
  | 0, _, _, h, _ => ⟨h, rfl, fun _ _ _ => rfl⟩
  | n + 1, k, Y, h, hk => by
    have hm := h.many
    unfold thrK
    split
    · have hs := h.sna k (by omega) (by omega)
      obtain ⟨a1, a2, a3⟩ := thrK_MI n (k + 1) (upr (upr Y.1 3 (drX Y.1)) (257 + 5 * k + 1) (if hitB Y.1 = true then 0 else Y.1 (257 + 5 * k + 1)), Y.2 + (if hitB Y.1 = true then 1 else 0)) (thr_MI h (by omega) (by split <;> omega)) (by omega)
      refine ⟨a1, a2.trans ?_, fun j hj h3 => (a3 j hj h3).trans ?_⟩
      · show upr (upr Y.1 3 _) _ _ 0 = Y.1 0
        rw [upr_n _ _ (by omega), upr_n _ _ (by decide)]
      · show upr (upr Y.1 3 _) _ _ j = Y.1 j
        rw [upr_n _ _ (hj.2.2.2 k (by omega) (by omega)), upr_n _ _ h3]
    · exact ⟨h, rfl, fun _ _ _ => rfl⟩
theorem thrD_MI {D : Int} {fr : Int → Int → Int} {Z : P2 × Int} (h : MI D Z.1.1) : ∀ n : Nat, MI (D + n) (thrD fr n Z).1.1 ∧ (thrD fr n Z).1.1 0 = Z.1.1 0 + n ∧ ∀ j, kept j → j ≠ 3 → (thrD fr n Z).1.1 j = Z.1.1 j
  | 0 => ⟨h.mono (by omega), by simp [thrD], fun _ _ _ => rfl⟩
  | n + 1 => by
    obtain ⟨h1, h2, h3⟩ := thrD_MI (fr := fr) h n
    obtain ⟨k1, k2, k3⟩ := thrK_MI 9 0 ((thrD fr n Z).1.1, (thrD fr n Z).2) h1 (by omega)
    obtain ⟨d1, d2, d3⟩ := dayM_MI (fr := fr) (th := th1) (X := ((thrK 9 0 ((thrD fr n Z).1.1, (thrD fr n Z).2)).1, (thrD fr n Z).1.2)) k1
    refine ⟨d1.mono (by omega), ?_, fun j hj hj3 => (d3 j hj).trans ((k3 j hj hj3).trans (h3 j hj hj3))⟩
    have d2' : (thrD fr (n + 1) Z).1.1 0 = (thrK 9 0 ((thrD fr n Z).1.1, (thrD fr n Z).2)).1 0 + 1 := d2
    have k2' : (thrK 9 0 ((thrD fr n Z).1.1, (thrD fr n Z).2)).1 0 = (thrD fr n Z).1.1 0 := k2
    rw [d2', k2', h2]
    omega
set_option maxRecDepth 100000 in
set_option maxHeartbeats 4000000 in
theorem c_X6_draw {l : Launch} {F : Nat × (Int → Int)} {iv : Mm} : Ctr l F 0 0 0 yX6_draw cX6_draw 1 (some FieldType.int) [r_ 61] S0 (iv) (Ret (some (i_ (drw (drX (iv 62))))) S0 (up iv 62 3 (drX (iv 62)))) := by
  refine Ctr.of false (fun h => by cases h) (by decide) rfl (Nat.le_of_ble_eq_true rfl) ?_
  refine J.aload_n (q := 1) dX6_draw_0 rfl ?_ rfl
  refine J.getR (ci := 6) (k0 := 0) (c1 := 62) (q := 4) dX6_draw_1 kF_X6_9 rfl (by decide) (by decide) rfl (by decide) rfl ?_ rfl
  refine J.iconst (q := 5) dX6_draw_4 ?_ rfl
  refine J.aload_n (q := 6) dX6_draw_5 rfl ?_ rfl
  refine J.getR (ci := 6) (k0 := 0) (c1 := 62) (q := 9) dX6_draw_6 kF_X6_9 rfl (by decide) (by decide) rfl (by decide) rfl ?_ rfl
  refine J.iconst (q := 10) dX6_draw_9 ?_ rfl
  refine J.iald (n := 307) (q := 11) dX6_draw_10 rfl (by omega) ?_ rfl
  refine J.ldc (q := 13) (z := 1103515245) dX6_draw_11 kK_X6_189 ?_ rfl
  refine J.imul (q := 14) dX6_draw_13 ?_ rfl
  refine J.sipush (q := 17) dX6_draw_14 (by decide) ?_ rfl
  refine J.iadd (q := 18) dX6_draw_17 ?_ rfl
  refine J.iast (n := 307) (q := 19) dX6_draw_18 rfl (by omega) ?_ rfl
  refine J.aload_n (q := 20) dX6_draw_19 rfl ?_ rfl
  refine J.getR (ci := 6) (k0 := 0) (c1 := 62) (q := 23) dX6_draw_20 kF_X6_9 rfl (by decide) (by decide) rfl (by decide) rfl ?_ rfl
  refine J.iconst (q := 24) dX6_draw_23 ?_ rfl
  refine J.iald (n := 307) (q := 25) dX6_draw_24 rfl (by omega) ?_ rfl
  rw [up_s, upr_s]
  refine J.bipush (q := 27) dX6_draw_25 (by decide) ?_ rfl
  refine J.iushr (q := 28) (z := drw (iv 62 3 * 1103515245 + 12345)) dX6_draw_27 (drw_ok _) ?_ rfl
  refine J.ireturn dX6_draw_28 rfl ?_
  exact ⟨rfl, rfl, rfl⟩

set_option maxRecDepth 100000 in
set_option maxHeartbeats 4000000 in
theorem thr1_loop {l : Launch} {F : Nat × (Int → Int)} {iv iv1 : Mm} (hA : AI iv) (hfr : ∀ q, q ≠ 66 → q ≠ 67 → q ≠ 68 → iv1 q = iv q) (hfar : FarOK iv1 (fdst (iv 62)) (iv 62 2)) {m : Int} (hm : 1 ≤ m ∧ m ≤ 20) (hd : iv 62 0 + m ≤ 99999) {D i : Int} {cl : Int → Int} {R : (Int → Int) × Int} (K : ∀ y4 y5 : Option VT, J l (yX6_thrushes).cls cX6_thrushes 6 (some FieldType.int) 6 0 0 false F (MP iv (an_thrushes (hi iv) m)) 0 0 127 [some (r_ 61), some (i_ m), some (i_ R.2), some (i_ i), y4, y5] [] S0 (mk2 iv1 (R.1, cl))) : ∀ (n : Nat) (k : Int) (Y : P2i) (y4 y5 : Option VT), (8 - k < n) → (0 ≤ k ∧ k ≤ iv 62 2) → (MI D Y.1) → (Y.1 2 = iv 62 2) → (thrK (9 - k).toNat k Y = R) → (y4 = some (i_ k)) → J l (yX6_thrushes).cls cX6_thrushes 6 (some FieldType.int) 6 0 0 false F (MP iv (an_thrushes (hi iv) m)) 0 0 51 [some (r_ 61), some (i_ m), some (i_ Y.2), some (i_ i), y4, y5] [] S0 (mk2 iv1 (Y.1, cl)) := by
  intro n
  induction n with
  | zero =>
    intro k Y y4 y5 hn hk hY hm2 hB h4
    have hmm := hA.mi.many
    omega
  | succ n ih =>
    intro k Y y4 y5 hn hk hY hm2 hB h4
    have hI := hA.mi
    have hmm := hI.many
    have hkp := hA.kp
    have htp := hA.tp
    subst h4
    rw [show (9 - k).toNat = (8 - k).toNat + 1 by omega, thrK] at hB
    have hdr := drw_rng (drX Y.1)
    have ht := hY.thr
    refine J.iload (q := 53) dX6_thrushes_51 rfl ?_ rfl
    refine J.aload_n (q := 54) dX6_thrushes_53 rfl ?_ rfl
    refine J.getR (ci := 6) (k0 := 0) (c1 := 62) (q := 57) dX6_thrushes_54 kF_X6_9 rfl (by decide) (by decide) rfl (by decide) rfl ?_ rfl
    refine J.iconst (q := 58) dX6_thrushes_57 ?_ rfl
    refine J.iald (n := 307) (q := 59) dX6_thrushes_58 rfl (by omega) ?_ rfl
    simp only [mk2_62]
    rw [hm2]
    refine J.icmp_ge (tgt := 127) (q := 62) dX6_thrushes_59 rfl rfl (fun c59 => ?_) (fun c59 => ?_)
    · rw [if_neg (by omega)] at hB
      subst hB
      exact K _ _
    · rw [if_pos (by omega), show (8 - k).toNat = (9 - (k + 1)).toNat by omega] at hB
      have hs := hY.sna k (by omega) (by omega)
      have hu2 : ∀ y : Int, upr (upr Y.1 3 (drX Y.1)) (257 + 5 * k + 1) y 2 = iv 62 2 := fun y => by rw [upr_n _ _ (by omega), upr_n _ _ (by decide)]; exact hm2
      refine J.aload_n (q := 63) dX6_thrushes_62 rfl ?_ rfl
      refine J.callV0i (ci := 6) (q := 66) dX6_thrushes_63 mv_X6_draw kL_X6_190 rfl (by decide) rfl ⟨by decide, by decide⟩ (Nat.le_of_ble_eq_true rfl) ⟨by decide, by decide⟩ rfl (c_X6_draw) ?_
      simp only [mk2_62]
      rw [mk2_up62]
      refine J.bipush (q := 68) dX6_thrushes_66 (by decide) ?_ rfl
      refine J.irem (q := 69) dX6_thrushes_68 (I3_rem (by omega) (by omega) rfl) (I3_n0 (by omega)) ?_ rfl
      refine J.aload_n (q := 70) dX6_thrushes_69 rfl ?_ rfl
      refine J.getR (ci := 6) (k0 := 0) (c1 := 62) (q := 73) dX6_thrushes_70 kF_X6_9 rfl (by decide) (by decide) rfl (by decide) rfl ?_ rfl
      refine J.iconst (q := 74) dX6_thrushes_73 ?_ rfl
      refine J.iald (n := 307) (q := 75) dX6_thrushes_74 rfl (by omega) ?_ rfl
      simp only [mk2_62]
      rw [upr_n _ _ (by decide)]
      refine J.icmp_ge (tgt := 82) (q := 78) (hv := by omega) dX6_thrushes_75 rfl rfl (fun c75 => ?_) (fun c75 => ?_)
      · have hh : ¬ hitB Y.1 = true := fun q => by have := of_decide_eq_true q; omega
        rw [if_neg hh, if_neg hh] at hB
        refine J.iconst (q := 83) dX6_thrushes_82 ?_ rfl
        refine J.istore (q := 85) dX6_thrushes_83 (Nat.le_of_ble_eq_true rfl) ?_ rfl
        refine J.aload_n (q := 86) dX6_thrushes_85 rfl ?_ rfl
        refine J.iload (q := 88) dX6_thrushes_86 rfl ?_ rfl
        refine J.iconst (q := 89) dX6_thrushes_88 ?_ rfl
        refine J.iload (q := 91) dX6_thrushes_89 rfl ?_ rfl
        refine J.if_eq (tgt := 98) (q := 94) dX6_thrushes_91 rfl rfl (fun c91 => ?_) (fun c91 => ?_)
        · refine J.aload_n (q := 99) dX6_thrushes_98 rfl ?_ rfl
          refine J.iload (q := 101) dX6_thrushes_99 rfl ?_ rfl
          refine J.iconst (q := 102) dX6_thrushes_101 ?_ rfl
          refine J.callV2i (ci := 6) (q := 105) dX6_thrushes_102 mv_X6_get kL_X6_76 rfl (by decide) rfl ⟨by decide, by decide⟩ (Nat.le_of_ble_eq_true rfl) ⟨by decide, by decide⟩ rfl (c_X6_get (by omega)) ?_
          simp only [mk2_62]
          rw [upr_n _ _ (by omega)]
          refine J.callV3v (ci := 6) (q := 108) dX6_thrushes_105 mv_X6_puts kL_X6_97 rfl (by decide) rfl ⟨by decide, by decide⟩ (Nat.le_of_ble_eq_true rfl) ⟨by decide, by decide⟩ rfl (c_X6_puts (by omega)) ?_
          rw [mk2_up62]
          refine J.iload_n (q := 109) dX6_thrushes_108 rfl ?_ rfl
          refine J.iload (q := 111) dX6_thrushes_109 rfl ?_ rfl
          refine J.if_eq (tgt := 118) (q := 114) dX6_thrushes_111 rfl rfl (fun c111 => ?_) (fun c111 => ?_)
          · refine J.iconst (q := 119) dX6_thrushes_118 ?_ rfl
            refine J.iadd (q := 120) dX6_thrushes_119 ?_ rfl
            refine J.istore_n (q := 121) dX6_thrushes_120 (Nat.le_of_ble_eq_true rfl) ?_ rfl
            refine J.iinc (q := 124) dX6_thrushes_121 rfl ?_ rfl
            refine J.goto (tgt := 51) dX6_thrushes_124 rfl ?_
            first
            | (exfalso; omega)
            | exact ih (k + 1) (_, _) _ _ (by omega) (by omega) (thr_MI hY (by omega) (by omega)) (hu2 _) hB rfl
          · refine J.iconst (q := 115) dX6_thrushes_114 ?_ rfl
            refine J.goto (tgt := 119) dX6_thrushes_115 rfl ?_
            refine J.iadd (q := 120) dX6_thrushes_119 ?_ rfl
            refine J.istore_n (q := 121) dX6_thrushes_120 (Nat.le_of_ble_eq_true rfl) ?_ rfl
            refine J.iinc (q := 124) dX6_thrushes_121 rfl ?_ rfl
            refine J.goto (tgt := 51) dX6_thrushes_124 rfl ?_
            first
            | (exfalso; omega)
            | exact ih (k + 1) (_, _) _ _ (by omega) (by omega) (thr_MI hY (by omega) (by omega)) (hu2 _) hB rfl
        · refine J.iconst (q := 95) dX6_thrushes_94 ?_ rfl
          refine J.goto (tgt := 105) dX6_thrushes_95 rfl ?_
          refine J.callV3v (ci := 6) (q := 108) dX6_thrushes_105 mv_X6_puts kL_X6_97 rfl (by decide) rfl ⟨by decide, by decide⟩ (Nat.le_of_ble_eq_true rfl) ⟨by decide, by decide⟩ rfl (c_X6_puts (by omega)) ?_
          rw [mk2_up62]
          refine J.iload_n (q := 109) dX6_thrushes_108 rfl ?_ rfl
          refine J.iload (q := 111) dX6_thrushes_109 rfl ?_ rfl
          refine J.if_eq (tgt := 118) (q := 114) dX6_thrushes_111 rfl rfl (fun c111 => ?_) (fun c111 => ?_)
          · refine J.iconst (q := 119) dX6_thrushes_118 ?_ rfl
            refine J.iadd (q := 120) dX6_thrushes_119 ?_ rfl
            refine J.istore_n (q := 121) dX6_thrushes_120 (Nat.le_of_ble_eq_true rfl) ?_ rfl
            refine J.iinc (q := 124) dX6_thrushes_121 rfl ?_ rfl
            refine J.goto (tgt := 51) dX6_thrushes_124 rfl ?_
            first
            | (exfalso; omega)
            | exact ih (k + 1) (_, _) _ _ (by omega) (by omega) (thr_MI hY (by omega) (by omega)) (hu2 _) hB rfl
          · refine J.iconst (q := 115) dX6_thrushes_114 ?_ rfl
            refine J.goto (tgt := 119) dX6_thrushes_115 rfl ?_
            refine J.iadd (q := 120) dX6_thrushes_119 ?_ rfl
            refine J.istore_n (q := 121) dX6_thrushes_120 (Nat.le_of_ble_eq_true rfl) ?_ rfl
            refine J.iinc (q := 124) dX6_thrushes_121 rfl ?_ rfl
            refine J.goto (tgt := 51) dX6_thrushes_124 rfl ?_
            first
            | (exfalso; omega)
            | exact ih (k + 1) (_, _) _ _ (by omega) (by omega) (thr_MI hY (by omega) (by omega)) (hu2 _) hB rfl
      · have hh : hitB Y.1 = true := decide_eq_true (by omega)
        rw [if_pos hh, if_pos hh] at hB
        refine J.iconst (q := 79) dX6_thrushes_78 ?_ rfl
        refine J.goto (tgt := 83) dX6_thrushes_79 rfl ?_
        refine J.istore (q := 85) dX6_thrushes_83 (Nat.le_of_ble_eq_true rfl) ?_ rfl
        refine J.aload_n (q := 86) dX6_thrushes_85 rfl ?_ rfl
        refine J.iload (q := 88) dX6_thrushes_86 rfl ?_ rfl
        refine J.iconst (q := 89) dX6_thrushes_88 ?_ rfl
        refine J.iload (q := 91) dX6_thrushes_89 rfl ?_ rfl
        refine J.if_eq (tgt := 98) (q := 94) dX6_thrushes_91 rfl rfl (fun c91 => ?_) (fun c91 => ?_)
        · refine J.aload_n (q := 99) dX6_thrushes_98 rfl ?_ rfl
          refine J.iload (q := 101) dX6_thrushes_99 rfl ?_ rfl
          refine J.iconst (q := 102) dX6_thrushes_101 ?_ rfl
          refine J.callV2i (ci := 6) (q := 105) dX6_thrushes_102 mv_X6_get kL_X6_76 rfl (by decide) rfl ⟨by decide, by decide⟩ (Nat.le_of_ble_eq_true rfl) ⟨by decide, by decide⟩ rfl (c_X6_get (by omega)) ?_
          simp only [mk2_62]
          rw [upr_n _ _ (by omega)]
          refine J.callV3v (ci := 6) (q := 108) dX6_thrushes_105 mv_X6_puts kL_X6_97 rfl (by decide) rfl ⟨by decide, by decide⟩ (Nat.le_of_ble_eq_true rfl) ⟨by decide, by decide⟩ rfl (c_X6_puts (by omega)) ?_
          rw [mk2_up62]
          refine J.iload_n (q := 109) dX6_thrushes_108 rfl ?_ rfl
          refine J.iload (q := 111) dX6_thrushes_109 rfl ?_ rfl
          refine J.if_eq (tgt := 118) (q := 114) dX6_thrushes_111 rfl rfl (fun c111 => ?_) (fun c111 => ?_)
          · refine J.iconst (q := 119) dX6_thrushes_118 ?_ rfl
            refine J.iadd (q := 120) dX6_thrushes_119 ?_ rfl
            refine J.istore_n (q := 121) dX6_thrushes_120 (Nat.le_of_ble_eq_true rfl) ?_ rfl
            refine J.iinc (q := 124) dX6_thrushes_121 rfl ?_ rfl
            refine J.goto (tgt := 51) dX6_thrushes_124 rfl ?_
            first
            | (exfalso; omega)
            | exact ih (k + 1) (_, _) _ _ (by omega) (by omega) (thr_MI hY (by omega) (by omega)) (hu2 _) hB rfl
          · refine J.iconst (q := 115) dX6_thrushes_114 ?_ rfl
            refine J.goto (tgt := 119) dX6_thrushes_115 rfl ?_
            refine J.iadd (q := 120) dX6_thrushes_119 ?_ rfl
            refine J.istore_n (q := 121) dX6_thrushes_120 (Nat.le_of_ble_eq_true rfl) ?_ rfl
            refine J.iinc (q := 124) dX6_thrushes_121 rfl ?_ rfl
            refine J.goto (tgt := 51) dX6_thrushes_124 rfl ?_
            first
            | (exfalso; omega)
            | exact ih (k + 1) (_, _) _ _ (by omega) (by omega) (thr_MI hY (by omega) (by omega)) (hu2 _) hB rfl
        · refine J.iconst (q := 95) dX6_thrushes_94 ?_ rfl
          refine J.goto (tgt := 105) dX6_thrushes_95 rfl ?_
          refine J.callV3v (ci := 6) (q := 108) dX6_thrushes_105 mv_X6_puts kL_X6_97 rfl (by decide) rfl ⟨by decide, by decide⟩ (Nat.le_of_ble_eq_true rfl) ⟨by decide, by decide⟩ rfl (c_X6_puts (by omega)) ?_
          rw [mk2_up62]
          refine J.iload_n (q := 109) dX6_thrushes_108 rfl ?_ rfl
          refine J.iload (q := 111) dX6_thrushes_109 rfl ?_ rfl
          refine J.if_eq (tgt := 118) (q := 114) dX6_thrushes_111 rfl rfl (fun c111 => ?_) (fun c111 => ?_)
          · refine J.iconst (q := 119) dX6_thrushes_118 ?_ rfl
            refine J.iadd (q := 120) dX6_thrushes_119 ?_ rfl
            refine J.istore_n (q := 121) dX6_thrushes_120 (Nat.le_of_ble_eq_true rfl) ?_ rfl
            refine J.iinc (q := 124) dX6_thrushes_121 rfl ?_ rfl
            refine J.goto (tgt := 51) dX6_thrushes_124 rfl ?_
            first
            | (exfalso; omega)
            | exact ih (k + 1) (_, _) _ _ (by omega) (by omega) (thr_MI hY (by omega) (by omega)) (hu2 _) hB rfl
          · refine J.iconst (q := 115) dX6_thrushes_114 ?_ rfl
            refine J.goto (tgt := 119) dX6_thrushes_115 rfl ?_
            refine J.iadd (q := 120) dX6_thrushes_119 ?_ rfl
            refine J.istore_n (q := 121) dX6_thrushes_120 (Nat.le_of_ble_eq_true rfl) ?_ rfl
            refine J.iinc (q := 124) dX6_thrushes_121 rfl ?_ rfl
            refine J.goto (tgt := 51) dX6_thrushes_124 rfl ?_
            first
            | (exfalso; omega)
            | exact ih (k + 1) (_, _) _ _ (by omega) (by omega) (thr_MI hY (by omega) (by omega)) (hu2 _) hB rfl

set_option maxRecDepth 100000 in
set_option maxHeartbeats 4000000 in
theorem thr2_loop {l : Launch} {F : Nat × (Int → Int)} {iv iv1 : Mm} (hA : AI iv) (hfr : ∀ q, q ≠ 66 → q ≠ 67 → q ≠ 68 → iv1 q = iv q) (hfar : FarOK iv1 (fdst (iv 62)) (iv 62 2)) {m : Int} (hm : 1 ≤ m ∧ m ≤ 20) (hd : iv 62 0 + m ≤ 99999) : ∀ (n : Nat) (i : Nat) (y4 y5 : Option VT), (m - (i : Int) < n) → ((i : Int) ≤ m) → J l (yX6_thrushes).cls cX6_thrushes 6 (some FieldType.int) 6 0 0 false F (MP iv (an_thrushes (hi iv) m)) 0 0 43 [some (r_ 61), some (i_ m), some (i_ (thrD (fdst (iv 62)) i ((iv 62, iv1 69), 0)).2), some (i_ (i : Int)), y4, y5] [] S0 (mk2 iv1 (thrD (fdst (iv 62)) i ((iv 62, iv1 69), 0)).1) := by
  intro n
  induction n with
  | zero =>
    intro i y4 y5 hn hi2
    omega
  | succ n ih =>
    intro i y4 y5 hn hi2
    have hI := hA.mi
    have hmm := hI.many
    have hkp := hA.kp
    have htp := hA.tp
    obtain ⟨z1, z2, z3⟩ := thrD_MI (fr := fdst (iv 62)) (Z := ((iv 62, iv1 69), 0)) hI i
    have z9 : (thrD (fdst (iv 62)) i ((iv 62, iv1 69), 0)).1.1 2 = iv 62 2 := z3 2 (kept_lo (by omega)) (by decide)
    obtain ⟨k1, k2, k3⟩ := thrK_MI 9 0 ((thrD (fdst (iv 62)) i ((iv 62, iv1 69), 0)).1.1, (thrD (fdst (iv 62)) i ((iv 62, iv1 69), 0)).2) z1 (by omega)
    have hX := k1
    have hm2 : (thrK 9 0 ((thrD (fdst (iv 62)) i ((iv 62, iv1 69), 0)).1.1, (thrD (fdst (iv 62)) i ((iv 62, iv1 69), 0)).2)).1 2 = iv 62 2 := (k3 2 (kept_lo (by omega)) (by decide)).trans z9
    refine J.iload_n (q := 44) dX6_thrushes_43 rfl ?_ rfl
    refine J.iload_n (q := 45) dX6_thrushes_44 rfl ?_ rfl
    refine J.icmp_ge (tgt := 141) (q := 48) dX6_thrushes_45 rfl rfl (fun c45 => ?_) (fun c45 => ?_)
    · refine J.iload_n (q := 142) dX6_thrushes_141 rfl ?_ rfl
      refine J.ireturn dX6_thrushes_142 rfl ?_
      have him : m.toNat = i := by omega
      obtain ⟨t1, t2⟩ := thrD_eq (fdst (iv 62)) ((iv 62, iv1 69), 0) (P0 (iv 62), 0) rfl rfl i
      unfold an_thrushes
      rw [show hi iv 62 = iv 62 from rfl, him, if_pos (by omega), if_neg (by omega)]
      refine mpMk t2 (fun q hq => (mk2_n _ _ (by omega) (by omega)).trans (hfr q (by omega) (by omega) (by omega))) ⟨t1, ?_, ?_, ?_, ?_, ?_, ?_, ?_, ?_⟩
      · exact (mk2_n _ _ (by decide) (by decide)).trans (hfr 63 (by decide) (by decide) (by decide))
      · exact (mk2_n _ _ (by decide) (by decide)).trans (hfr 65 (by decide) (by decide) (by decide))
      · exact (mk2_n _ _ (by decide) (by decide)).trans (hfr 70 (by decide) (by decide) (by decide))
      · exact (mk2_n _ _ (by decide) (by decide)).trans (hfr 74 (by decide) (by decide) (by decide))
      · exact (mk2_n _ _ (by decide) (by decide)).trans (hfr 75 (by decide) (by decide) (by decide))
      · exact (mk2_n _ _ (by decide) (by decide)).trans (hfr 76 (by decide) (by decide) (by decide))
      · rw [mk2_n _ _ (by decide) (by decide), hfr 61 (by decide) (by decide) (by decide)]; rfl
      · rw [mk2_n _ _ (by decide) (by decide), hfr 61 (by decide) (by decide) (by decide)]; rfl
    · refine J.iconst (q := 49) dX6_thrushes_48 ?_ rfl
      refine J.istore (q := 51) dX6_thrushes_49 (Nat.le_of_ble_eq_true rfl) ?_ rfl
      refine thr1_loop hA hfr hfar hm hd (cl := (thrD (fdst (iv 62)) i ((iv 62, iv1 69), 0)).1.2) (R := thrK 9 0 ((thrD (fdst (iv 62)) i ((iv 62, iv1 69), 0)).1.1, (thrD (fdst (iv 62)) i ((iv 62, iv1 69), 0)).2)) (fun y4 y5 => ?_) 9 0 ((thrD (fdst (iv 62)) i ((iv 62, iv1 69), 0)).1.1, (thrD (fdst (iv 62)) i ((iv 62, iv1 69), 0)).2) _ _ (by omega) (by omega) z1 z9 rfl rfl
      refine J.aload_n (q := 128) dX6_thrushes_127 rfl ?_ rfl
      refine J.aload_n (q := 129) dX6_thrushes_128 rfl ?_ rfl
      refine J.callV0i (ci := 6) (q := 132) dX6_thrushes_129 mv_X6_allSnails kL_X6_115 rfl (by decide) rfl ⟨by decide, by decide⟩ (Nat.le_of_ble_eq_true rfl) ⟨by decide, by decide⟩ rfl (c_X6_allSnails (by rw [mk2_62, hm2]; exact hmm)) ?_
      simp only [mk2_62]
      rw [hm2]
      refine J.callV1v (ci := 6) (q := 135) dX6_thrushes_132 mv_X6_day kL_X6_119 rfl (by decide) rfl ⟨by decide, by decide⟩ (Nat.le_of_ble_eq_true rfl) ⟨by decide, by decide⟩ rfl (c_X6_day (X := ((thrK 9 0 ((thrD (fdst (iv 62)) i ((iv 62, iv1 69), 0)).1.1, (thrD (fdst (iv 62)) i ((iv 62, iv1 69), 0)).2)).1, (thrD (fdst (iv 62)) i ((iv 62, iv1 69), 0)).1.2)) (by omega) hX hm2 hfar (allR hmm) (fun k a b => ⟨fun _ => rfl, fun _ => allB hmm ⟨a, b⟩⟩)) ?_
      refine J.iinc (q := 138) dX6_thrushes_135 rfl ?_ rfl
      refine J.goto (tgt := 43) dX6_thrushes_138 rfl ?_
      exact ih (i + 1) _ _ (by omega) (by omega)

set_option maxRecDepth 100000 in
set_option maxHeartbeats 4000000 in
theorem c_X6_thrushes {l : Launch} {F : Nat × (Int → Int)} {iv : Mm} (hA : AI iv) {m : Int} (hm : -2147483648 ≤ m ∧ m < 2147483648) : Ctr l F 6 0 0 yX6_thrushes cX6_thrushes 6 (some FieldType.int) [r_ 61, i_ m] S0 (iv) (MP iv (an_thrushes (hi iv) m)) := by
  refine Ctr.of false (fun h => by cases h) (by decide) rfl (Nat.le_of_ble_eq_true rfl) ?_
  have hI := hA.mi
  have hmm := hI.many
  have hkp := hA.kp
  have htp := hA.tp
  refine J.iload_n (q := 1) dX6_thrushes_0 rfl ?_ rfl
  refine J.iconst (q := 2) dX6_thrushes_1 ?_ rfl
  refine J.bipush (q := 4) dX6_thrushes_2 (by decide) ?_ rfl
  refine J.callS3i (q := 7) dX6_thrushes_4 mv_X6_in1 kS_X6_in1 kL_X6_61 ⟨by decide, by decide⟩ (Nat.le_of_ble_eq_true rfl) ⟨by decide, by decide⟩ rfl (c_X6_in1 (by omega) (by omega) (by omega)) ?_
  refine J.ifb_ne (tgt := 16) (q := 10) dX6_thrushes_7 rfl rfl (fun c7 => ?_) (fun c7 => ?_)
  · refine J.aload_n (q := 17) dX6_thrushes_16 rfl ?_ rfl
    refine J.getR (ci := 6) (k0 := 0) (c1 := 62) (q := 20) dX6_thrushes_17 kF_X6_9 rfl (by decide) (by decide) rfl (by decide) rfl ?_ rfl
    refine J.iconst (q := 21) dX6_thrushes_20 ?_ rfl
    have hd := hI.day
    refine J.iald (n := 307) (q := 22) dX6_thrushes_21 rfl (by omega) ?_ rfl
    refine J.iload_n (q := 23) dX6_thrushes_22 rfl ?_ rfl
    refine J.iadd (q := 24) dX6_thrushes_23 ?_ rfl
    refine J.ldc (q := 26) (z := 99999) dX6_thrushes_24 kK_X6_83 ?_ rfl
    refine J.icmp_le (tgt := 35) (q := 29) dX6_thrushes_26 rfl rfl (fun c26 => ?_) (fun c26 => ?_)
    · refine J.aload_n (q := 36) dX6_thrushes_35 rfl ?_ rfl
      refine J.callV0 (ci := 6) (q := 39) dX6_thrushes_36 mv_X6_findsFars kL_X6_112 rfl (by decide) rfl ⟨by decide, by decide⟩ (Nat.le_of_ble_eq_true rfl) ⟨by decide, by decide⟩ rfl (c_X6_findsFars (show (99999 : Int) ≤ 200000 by omega) hI) (fun v8 S8 iv8 hp => ?_)
      obtain ⟨rfl, rfl, g1, g2⟩ := hp
      have e62 := g1 62 (by decide) (by decide) (by decide)
      refine J.iconst (q := 40) dX6_thrushes_39 ?_ rfl
      refine J.istore_n (q := 41) dX6_thrushes_40 (Nat.le_of_ble_eq_true rfl) ?_ rfl
      refine J.iconst (q := 42) dX6_thrushes_41 ?_ rfl
      refine J.istore_n (q := 43) dX6_thrushes_42 (Nat.le_of_ble_eq_true rfl) ?_ rfl
      refine J.eqi (iv2 := mk2 iv8 (thrD (fdst (iv 62)) 0 ((iv 62, iv8 69), 0)).1) (by show iv8 = mk2 iv8 (iv 62, iv8 69); rw [← e62, mk2_self]) ?_
      exact thr2_loop hA g1 g2 (by omega) (by omega) 21 0 _ _ (by omega) (by omega)
    · refine J.aload_n (q := 30) dX6_thrushes_29 rfl ?_ rfl
      refine J.iconst (q := 31) dX6_thrushes_30 ?_ rfl
      refine J.callV1i (ci := 6) (q := 34) dX6_thrushes_31 mv_X6_no kL_X6_125 rfl (by decide) rfl ⟨by decide, by decide⟩ (Nat.le_of_ble_eq_true rfl) ⟨by decide, by decide⟩ rfl (c_X6_no (by omega)) ?_
      refine J.ireturn dX6_thrushes_34 rfl ?_
      unfold an_thrushes
      (try rw [hi_61]); (try rw [hi_62]); (try rw [hi_63]); (try rw [hi_65]); (try rw [hi_70]); (try rw [hi_74]); (try rw [hi_75]); (try rw [hi_76])
      repeat (first | rw [if_pos (by omega)] | rw [if_neg (by omega)])
      first
      | exact mpTF TF.rf
      | exact mpTFb TF.rf
      | exact mpTF hTF
      | exact mpTFb hTF
      | (exfalso; omega)
  · refine J.aload_n (q := 11) dX6_thrushes_10 rfl ?_ rfl
    refine J.iconst (q := 12) dX6_thrushes_11 ?_ rfl
    refine J.callV1i (ci := 6) (q := 15) dX6_thrushes_12 mv_X6_no kL_X6_125 rfl (by decide) rfl ⟨by decide, by decide⟩ (Nat.le_of_ble_eq_true rfl) ⟨by decide, by decide⟩ rfl (c_X6_no (by omega)) ?_
    refine J.ireturn dX6_thrushes_15 rfl ?_
    unfold an_thrushes
    (try rw [hi_61]); (try rw [hi_62]); (try rw [hi_63]); (try rw [hi_65]); (try rw [hi_70]); (try rw [hi_74]); (try rw [hi_75]); (try rw [hi_76])
    repeat (first | rw [if_pos (by omega)] | rw [if_neg (by omega)])
    first
    | exact mpTF TF.rf
    | exact mpTFb TF.rf
    | exact mpTF hTF
    | exact mpTFb hTF
    | (exfalso; omega)

