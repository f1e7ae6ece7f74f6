/-! the reference: left alone (printed by wip/whole/m_model16.py) -/
theorem I6_toInt {a : Int} (ha : -9223372036854775808 ≤ a ∧ a < 9223372036854775808) : (Int64.ofInt a).toInt = a := Int64.toInt_ofInt_of_le (by omega) (by omega)
theorem I6_eq {a b : Int} (ha : -9223372036854775808 ≤ a ∧ a < 9223372036854775808) (hb : -9223372036854775808 ≤ b ∧ b < 9223372036854775808) : Int64.ofInt a = Int64.ofInt b ↔ a = b := by
  rw [← Int64.toInt_inj, I6_toInt ha, I6_toInt hb]
def cmpZ (x y : Int) : Int := if x > y then 1 else if x = y then 0 else -1
theorem I6_cmp {x y : Int} (hx : -9223372036854775808 ≤ x ∧ x < 9223372036854775808) (hy : -9223372036854775808 ≤ y ∧ y < 9223372036854775808) : lg_cmp (Int64.ofInt x) (Int64.ofInt y) = Int32.ofInt (cmpZ x y) := by
  unfold lg_cmp cmpZ
  simp only [gt_iff_lt, Int64.lt_iff_toInt_lt, I6_toInt hx, I6_toInt hy, I6_eq hx hy]
  split
  · rfl
  · split <;> rfl
theorem I6_i2l {x : Int} (hx : -2147483648 ≤ x ∧ x < 2147483648) : (Int32.ofInt x).toInt64 = Int64.ofInt x := by
  rw [← Int64.toInt_inj, Int32.toInt_toInt64, I3_toInt hx, I6_toInt (by omega)]
theorem I6_div {x y z : Int} (hx : 0 ≤ x ∧ x < 9223372036854775808) (hy : 0 < y ∧ y < 9223372036854775808) (hz : z = x / y) : Int64.ofInt x / Int64.ofInt y = Int64.ofInt z := by
  subst hz
  have h1 : 0 ≤ x / y := Int.ediv_nonneg hx.1 (by omega)
  have h2 : x / y ≤ x := Int.ediv_le_self _ hx.1
  rw [← Int64.toInt_inj, Int64.toInt_div, I6_toInt (by omega), I6_toInt (by omega), I6_toInt (by omega), Int.tdiv_eq_ediv_of_nonneg hx.1]
  exact Int.bmod_eq_of_le (by omega) (by omega)
theorem I6_rem {x y z : Int} (hx : 0 ≤ x ∧ x < 9223372036854775808) (hy : 0 < y ∧ y < 9223372036854775808) (hz : z = x % y) : Int64.ofInt x - Int64.ofInt x / Int64.ofInt y * Int64.ofInt y = Int64.ofInt z := by
  subst hz
  rw [I6_div hx hy rfl, ← Int64.ofInt_mul, ← Int64.ofInt_sub]
  congr 1
  have := Int.emod_add_mul_ediv x y
  rw [Int.mul_comm y] at this
  omega
theorem I6_n0 {y : Int} (hy : 0 < y ∧ y < 9223372036854775808) : ¬ Int64.ofInt y = 0 := by
  intro h
  have := (I6_eq (a := y) (b := 0) (by omega) (by omega)).mp h
  omega
theorem cmpZ_0 {x y : Int} : cmpZ x y = 0 ↔ x = y := by
  unfold cmpZ
  split
  · omega
  · split <;> omega
theorem cmpZ_r (x y : Int) : -1 ≤ cmpZ x y ∧ cmpZ x y ≤ 1 := by
  unfold cmpZ
  split
  · omega
  · split <;> omega
theorem cmpZ_le {x y : Int} : cmpZ x y ≤ 0 ↔ x ≤ y := by
  unfold cmpZ
  split
  · omega
  · split <;> omega
def MPL (iv : Mm) (O : Int × Mm) : Option VT → Shp → Mm → Prop := fun v S iv2 => v = some (l_ O.1) ∧ S = S0 ∧ (∀ q, (q ≤ 60 ∨ (71 ≤ q ∧ q ≤ 73)) → iv2 q = iv q) ∧ Like iv2 O.2
/-- the odds -/
def oddN (t : Int) (n : Nat) : Nat := (20 - t).toNat ^ n
def an_alone (A : Mm) (n w : Int) : Int × Mm := if (0 ≤ n ∧ n ≤ 14) ∧ (0 ≤ w ∧ w ≤ 1) then ((if w = 0 then ((oddN (A 62 5) n.toNat / Nat.gcd (oddN (A 62 5) n.toNat) (20 ^ n.toNat) : Nat) : Int) else ((20 ^ n.toNat / Nat.gcd (oddN (A 62 5) n.toNat) (20 ^ n.toNat) : Nat) : Int)), A) else bad A 0
theorem oddN_rng {t : Int} (ht : 0 ≤ t ∧ t ≤ 20) {n : Nat} (hn : n ≤ 14) : oddN t n ≤ 20 ^ n ∧ 0 < 20 ^ n ∧ 20 ^ n ≤ 1638400000000000000 := by
  refine ⟨Nat.pow_le_pow_left (by omega) n, Nat.pow_pos (by decide), ?_⟩
  exact Nat.le_trans (Nat.pow_le_pow_right (by decide) hn) (by decide)
theorem oddN_s {t : Int} (ht : 0 ≤ t ∧ t ≤ 20) (n : Nat) : ((oddN t (n + 1) : Nat) : Int) = (oddN t n : Int) * (20 - t) := by
  unfold oddN
  rw [Nat.pow_succ, Int.natCast_mul, Int.toNat_of_nonneg (by omega)]
theorem gcd_step {a b G : Nat} (h : Nat.gcd a b = G) : Nat.gcd b (a % b) = G := by
  rw [Nat.gcd_comm, ← Nat.gcd_rec, Nat.gcd_comm]; exact h
set_option maxRecDepth 100000 in
set_option maxHeartbeats 4000000 in
theorem alone2_loop {l : Launch} {F : Nat × (Int → Int)} {iv : Mm} {m w : Int} {P Q G : Nat} (hw : 0 ≤ w ∧ w ≤ 1) (hP : P ≤ 1638400000000000000) (hQ : 0 < Q ∧ Q ≤ 1638400000000000000) (hG : 0 < G) (hO : an_alone (hi iv) m w = ((if w = 0 then ((P / G : Nat) : Int) else ((Q / G : Nat) : Int)), hi iv)) : ∀ (n : Nat) (a b : Nat) (y z : Option VT), (b < n) → (a ≤ 1638400000000000000 ∧ b ≤ 1638400000000000000) → (Nat.gcd a b = G) → J l (yX6_alone).cls cX6_alone 13 (some FieldType.long) 6 0 0 false F (MPL iv (an_alone (hi iv) m w)) 0 0 75 [some (r_ 61), some (i_ m), some (i_ w), some (l_ (P : Int)), none, some (l_ (Q : Int)), none, some (l_ (a : Int)), none, some (l_ (b : Int)), none, y, z] [] S0 (iv) := by
  intro n
  induction n with
  | zero =>
    intro a b y z hn ha hg
    omega
  | succ n ih =>
    intro a b y z hn ha hg
    refine J.lload (q := 77) dX6_alone_75 rfl ?_ rfl
    refine J.lconst (q := 78) (z := 0) dX6_alone_77 rfl ?_ rfl
    refine J.lcmp (q := 79) (z := cmpZ (b : Int) 0) dX6_alone_78 (I6_cmp (by omega) (by omega)) ?_ rfl
    refine J.if_eq (tgt := 100) (q := 82) (hv := by have := cmpZ_r (b : Int) 0; omega) dX6_alone_79 rfl rfl (fun c79 => ?_) (fun c79 => ?_)
    · have hb0 : b = 0 := by have := cmpZ_0.mp c79; omega
      subst hb0
      rw [Nat.gcd_zero_right] at hg
      subst hg
      refine J.iload_n (q := 101) dX6_alone_100 rfl ?_ rfl
      refine J.if_ne (tgt := 111) (q := 104) dX6_alone_101 rfl rfl (fun c101 => ?_) (fun c101 => ?_)
      · refine J.lload (q := 113) dX6_alone_111 rfl ?_ rfl
        refine J.lload (q := 115) dX6_alone_113 rfl ?_ rfl
        refine J.ldiv (q := 116) (z := ((Q / a : Nat) : Int)) dX6_alone_115 (I6_div (by omega) (by omega) rfl) (I6_n0 (by omega)) ?_ rfl
        refine J.lreturn dX6_alone_116 rfl ?_
        rw [show an_alone (hi iv) m w = ((if w = 0 then ((P / a : Nat) : Int) else ((Q / a : Nat) : Int)), hi iv) from hO]
        repeat (first | rw [if_pos (by omega)] | rw [if_neg (by omega)])
        exact ⟨rfl, rfl, fun q hq => rfl, rfl, rfl, rfl, rfl, rfl, rfl, rfl, rfl, rfl⟩
      · refine J.lload_n (q := 105) dX6_alone_104 rfl ?_ rfl
        refine J.lload (q := 107) dX6_alone_105 rfl ?_ rfl
        refine J.ldiv (q := 108) (z := ((P / a : Nat) : Int)) dX6_alone_107 (I6_div (by omega) (by omega) rfl) (I6_n0 (by omega)) ?_ rfl
        refine J.goto (tgt := 116) dX6_alone_108 rfl ?_
        refine J.lreturn dX6_alone_116 rfl ?_
        rw [show an_alone (hi iv) m w = ((if w = 0 then ((P / a : Nat) : Int) else ((Q / a : Nat) : Int)), hi iv) from hO]
        repeat (first | rw [if_pos (by omega)] | rw [if_neg (by omega)])
        exact ⟨rfl, rfl, fun q hq => rfl, rfl, rfl, rfl, rfl, rfl, rfl, rfl, rfl, rfl⟩
    · have hb0 : b ≠ 0 := fun q => c79 (cmpZ_0.mpr (by omega))
      have hml := Nat.mod_lt a (show 0 < b by omega)
      refine J.lload (q := 84) dX6_alone_82 rfl ?_ rfl
      refine J.lload (q := 86) dX6_alone_84 rfl ?_ rfl
      refine J.lrem (q := 87) (z := ((a % b : Nat) : Int)) dX6_alone_86 (I6_rem (by omega) (by omega) (by omega)) (I6_n0 (by omega)) ?_ rfl
      refine J.lstore (q := 89) dX6_alone_87 (Nat.le_of_ble_eq_true rfl) ?_ rfl
      refine J.lload (q := 91) dX6_alone_89 rfl ?_ rfl
      refine J.lstore (q := 93) dX6_alone_91 (Nat.le_of_ble_eq_true rfl) ?_ rfl
      refine J.lload (q := 95) dX6_alone_93 rfl ?_ rfl
      refine J.lstore (q := 97) dX6_alone_95 (Nat.le_of_ble_eq_true rfl) ?_ rfl
      refine J.goto (tgt := 75) dX6_alone_97 rfl ?_
      exact ih b (a % b) _ _ (by omega) (by omega) (gcd_step hg)

set_option maxRecDepth 100000 in
set_option maxHeartbeats 4000000 in
theorem alone1_loop {l : Launch} {F : Nat × (Int → Int)} {iv : Mm} (hA : AI iv) {m w : Int} (hw : 0 ≤ w ∧ w ≤ 1) (hm : 0 ≤ m ∧ m ≤ 14) : ∀ (n : Nat) (k : Nat), (m - (k : Int) < n) → ((k : Int) ≤ m) → J l (yX6_alone).cls cX6_alone 13 (some FieldType.long) 6 0 0 false F (MPL iv (an_alone (hi iv) m w)) 0 0 34 [some (r_ 61), some (i_ m), some (i_ w), some (l_ (oddN (iv 62 5) k : Int)), none, some (l_ ((20 ^ k : Nat) : Int)), none, some (i_ (k : Int)), none, none, none, none, none] [] S0 (iv) := by
  intro n
  induction n with
  | zero =>
    intro k hn hk
    omega
  | succ n ih =>
    intro k hn hk
    have hI := hA.mi
    have hmm := hI.many
    have hkp := hA.kp
    have htp := hA.tp
    have ht := hI.thr
    refine J.iload (q := 36) dX6_alone_34 rfl ?_ rfl
    refine J.iload_n (q := 37) dX6_alone_36 rfl ?_ rfl
    refine J.icmp_ge (tgt := 68) (q := 40) dX6_alone_37 rfl rfl (fun c37 => ?_) (fun c37 => ?_)
    · refine J.lload_n (q := 69) dX6_alone_68 rfl ?_ rfl
      refine J.lstore (q := 71) dX6_alone_69 (Nat.le_of_ble_eq_true rfl) ?_ rfl
      refine J.lload (q := 73) dX6_alone_71 rfl ?_ rfl
      refine J.lstore (q := 75) dX6_alone_73 (Nat.le_of_ble_eq_true rfl) ?_ rfl
      have hkm : m.toNat = k := by omega
      have hr := oddN_rng ht (n := k) (by omega)
      refine alone2_loop (P := oddN (iv 62 5) k) (Q := 20 ^ k) (G := Nat.gcd (oddN (iv 62 5) k) (20 ^ k)) hw (by omega) (by omega) (Nat.gcd_pos_of_pos_right _ hr.2.1) ?_ (20 ^ k + 1) (oddN (iv 62 5) k) (20 ^ k) none none (by omega) (by omega) rfl
      unfold an_alone
      rw [if_pos (by omega), hkm]
      rfl
    · refine J.lload_n (q := 41) dX6_alone_40 rfl ?_ rfl
      refine J.ldc2 (q := 44) (z := 20) dX6_alone_41 kK_X6_193 ?_ rfl
      refine J.aload_n (q := 45) dX6_alone_44 rfl ?_ rfl
      refine J.getR (ci := 6) (k0 := 0) (c1 := 62) (q := 48) dX6_alone_45 kF_X6_9 rfl (by decide) (by decide) rfl (by decide) rfl ?_ rfl
      refine J.iconst (q := 49) dX6_alone_48 ?_ rfl
      refine J.iald (n := 307) (q := 50) dX6_alone_49 rfl (by omega) ?_ rfl
      refine J.i2l (q := 51) (z := iv 62 5) dX6_alone_50 (I6_i2l (by omega)) ?_ rfl
      refine J.lsub (q := 52) dX6_alone_51 ?_ rfl
      refine J.lmul (q := 53) dX6_alone_52 ?_ rfl
      refine J.lstore_n (q := 54) dX6_alone_53 (Nat.le_of_ble_eq_true rfl) ?_ rfl
      refine J.lload (q := 56) dX6_alone_54 rfl ?_ rfl
      refine J.ldc2 (q := 59) (z := 20) dX6_alone_56 kK_X6_193 ?_ rfl
      refine J.lmul (q := 60) dX6_alone_59 ?_ rfl
      refine J.lstore (q := 62) dX6_alone_60 (Nat.le_of_ble_eq_true rfl) ?_ rfl
      refine J.iinc (q := 65) dX6_alone_62 rfl ?_ rfl
      refine J.goto (tgt := 34) dX6_alone_65 rfl ?_
      refine J.eql ?_ (ih (k + 1) (by omega) (by omega))
      rw [oddN_s ht, Nat.pow_succ, Int.natCast_mul]
      rfl

set_option maxRecDepth 100000 in
set_option maxHeartbeats 4000000 in
theorem c_X6_alone {l : Launch} {F : Nat × (Int → Int)} {iv : Mm} (hA : AI iv) {m w : Int} (hm : -2147483648 ≤ m ∧ m < 2147483648) (hw : -2147483648 ≤ w ∧ w < 2147483648) : Ctr l F 6 0 0 yX6_alone cX6_alone 13 (some FieldType.long) [r_ 61, i_ m, i_ w] S0 (iv) (MPL iv (an_alone (hi iv) m w)) := by
  refine Ctr.of false (fun h => by cases h) (by decide) rfl (Nat.le_of_ble_eq_true rfl) ?_
  have hI := hA.mi
  have hmm := hI.many
  have hkp := hA.kp
  have htp := hA.tp
  refine J.iload_n (q := 1) dX6_alone_0 rfl ?_ rfl
  refine J.iconst (q := 2) dX6_alone_1 ?_ rfl
  refine J.bipush (q := 4) dX6_alone_2 (by decide) ?_ rfl
  refine J.callS3i (q := 7) dX6_alone_4 mv_X6_in1 kS_X6_in1 kL_X6_61 ⟨by decide, by decide⟩ (Nat.le_of_ble_eq_true rfl) ⟨by decide, by decide⟩ rfl (c_X6_in1 (by omega) (by omega) (by omega)) ?_
  refine J.ifb_eq (tgt := 19) (q := 10) dX6_alone_7 rfl rfl (fun c7 => ?_) (fun c7 => ?_)
  · refine J.aload_n (q := 20) dX6_alone_19 rfl ?_ rfl
    refine J.iconst (q := 21) dX6_alone_20 ?_ rfl
    refine J.callV1i (ci := 6) (q := 24) dX6_alone_21 mv_X6_no kL_X6_125 rfl (by decide) rfl ⟨by decide, by decide⟩ (Nat.le_of_ble_eq_true rfl) ⟨by decide, by decide⟩ rfl (c_X6_no (by omega)) ?_
    refine J.i2l (q := 25) (z := -1000001 - 0) dX6_alone_24 (I6_i2l (by omega)) ?_ rfl
    refine J.lreturn dX6_alone_25 rfl ?_
    unfold an_alone
    rw [if_neg (by omega)]
    exact ⟨rfl, rfl, fun q hq => up_n _ _ _ (by omega), rfl, rfl, rfl, rfl, rfl, rfl, rfl, rfl, rfl⟩
  · refine J.iload_n (q := 11) dX6_alone_10 rfl ?_ rfl
    refine J.iconst (q := 12) dX6_alone_11 ?_ rfl
    refine J.iconst (q := 13) dX6_alone_12 ?_ rfl
    refine J.callS3i (q := 16) dX6_alone_13 mv_X6_in1 kS_X6_in1 kL_X6_61 ⟨by decide, by decide⟩ (Nat.le_of_ble_eq_true rfl) ⟨by decide, by decide⟩ rfl (c_X6_in1 (by omega) (by omega) (by omega)) ?_
    refine J.ifb_ne (tgt := 26) (q := 19) dX6_alone_16 rfl rfl (fun c16 => ?_) (fun c16 => ?_)
    · refine J.lconst (q := 27) (z := 1) dX6_alone_26 rfl ?_ rfl
      refine J.lstore_n (q := 28) dX6_alone_27 (Nat.le_of_ble_eq_true rfl) ?_ rfl
      refine J.lconst (q := 29) (z := 1) dX6_alone_28 rfl ?_ rfl
      refine J.lstore (q := 31) dX6_alone_29 (Nat.le_of_ble_eq_true rfl) ?_ rfl
      refine J.iconst (q := 32) dX6_alone_31 ?_ rfl
      refine J.istore (q := 34) dX6_alone_32 (Nat.le_of_ble_eq_true rfl) ?_ rfl
      exact alone1_loop hA (by omega) (by omega) 16 0 (by omega) (by omega)
    · refine J.aload_n (q := 20) dX6_alone_19 rfl ?_ rfl
      refine J.iconst (q := 21) dX6_alone_20 ?_ rfl
      refine J.callV1i (ci := 6) (q := 24) dX6_alone_21 mv_X6_no kL_X6_125 rfl (by decide) rfl ⟨by decide, by decide⟩ (Nat.le_of_ble_eq_true rfl) ⟨by decide, by decide⟩ rfl (c_X6_no (by omega)) ?_
      refine J.i2l (q := 25) (z := -1000001 - 0) dX6_alone_24 (I6_i2l (by omega)) ?_ rfl
      refine J.lreturn dX6_alone_25 rfl ?_
      unfold an_alone
      rw [if_neg (by omega)]
      exact ⟨rfl, rfl, fun q hq => up_n _ _ _ (by omega), rfl, rfl, rfl, rfl, rfl, rfl, rfl, rfl, rfl⟩

