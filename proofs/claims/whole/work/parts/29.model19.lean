/-! the reference: words (printed by wip/whole/m_model19.py) -/
def cdF (f : Int → Int) (b : Int) : Nat → Int
  | 0 => 0
  | k + 1 => if f (b + k) = 32 then cdF f b k else cdF f b k * 27 + f (b + k) - 96
def whW (f : Int → Int) (v : Int) : Nat → Int
  | 0 => -1
  | w + 1 => if cdF f (8 * w) 8 = v then w else whW f v w
theorem cdF_rng {f : Int → Int} {b : Int} : ∀ k : Nat, (∀ j : Nat, j < k → f (b + j) = 32 ∨ (97 ≤ f (b + j) ∧ f (b + j) ≤ 122)) → 0 ≤ cdF f b k ∧ cdF f b k < 27 ^ k
  | 0, _ => by simp [cdF]
  | k + 1, h => by
    have h1 := cdF_rng k (fun j hj => h j (by omega))
    have h2 := h k (by omega)
    rw [cdF, Int.pow_succ]
    split <;> omega
theorem pow27 {k : Nat} (hk : k ≤ 8) : (27 : Int) ^ k ≤ 282429536481 := by
  have h : ∀ k : Nat, k < 9 → (27 : Int) ^ k ≤ 282429536481 := by decide
  exact h k (by omega)
def wOf (iv : Mm) (p n : Nat) : Int := if iv 61 11 = 1 then whW (iv p) (iv 61 14) n else -1
def Alph (f : Int → Int) (n : Int) : Prop := ∀ j, 0 ≤ j → j < n → f j = 32 ∨ (97 ≤ f j ∧ f j ≤ 122)
set_option maxRecDepth 100000 in
set_option maxHeartbeats 4000000 in
theorem wordOf71_in {l : Launch} {F : Nat × (Int → Int)} {iv : Mm} (ha : Alph (iv 71) 56) (ht : 0 ≤ iv 61 11 ∧ iv 61 11 ≤ 4) (hv : 0 ≤ iv 61 14 ∧ iv 61 14 ≤ 300000000000000) {x : Int} {w : Nat} (hw : w < 7) (K : J l (yX6_wordOf).cls cX6_wordOf 7 (some FieldType.int) 0 0 0 false F (Ret (some (i_ (wOf iv 71 7))) S0 iv) 0 0 82 [some (r_ 61), some (r_ 71), some (i_ x), some (i_ (w : Int)), some (l_ (cdF (iv 71) (8 * w) 8)), none, some (i_ 8)] [] S0 iv) : ∀ (n : Nat) (k : Nat), (8 - k < n) → (k ≤ 8) → J l (yX6_wordOf).cls cX6_wordOf 7 (some FieldType.int) 0 0 0 false F (Ret (some (i_ (wOf iv 71 7))) S0 iv) 0 0 27 [some (r_ 61), some (r_ 71), some (i_ x), some (i_ (w : Int)), some (l_ (cdF (iv 71) (8 * w) k)), none, some (i_ (k : Int))] [] S0 (iv) := by
  intro n
  induction n with
  | zero =>
    intro k hn hk
    omega
  | succ n ih =>
    intro k hn hk
    have hcs : cdF (iv 71) (8 * w) (k + 1) = if iv 71 (8 * w + k) = 32 then cdF (iv 71) (8 * w) k else cdF (iv 71) (8 * w) k * 27 + iv 71 (8 * w + k) - 96 := rfl
    refine J.iload (q := 29) dX6_wordOf_27 rfl ?_ rfl
    refine J.bipush (q := 31) dX6_wordOf_29 (by decide) ?_ rfl
    refine J.icmp_ge (tgt := 82) (q := 34) dX6_wordOf_31 rfl rfl (fun c31 => ?_) (fun c31 => ?_)
    · have hk8 : k = 8 := by omega
      subst hk8
      exact K
    · have hch := ha (8 * w + k) (by omega) (by omega)
      refine J.aload_n (q := 35) dX6_wordOf_34 rfl ?_ rfl
      refine J.bipush (q := 37) dX6_wordOf_35 (by decide) ?_ rfl
      refine J.iload_n (q := 38) dX6_wordOf_37 rfl ?_ rfl
      refine J.imul (q := 39) dX6_wordOf_38 ?_ rfl
      refine J.iload (q := 41) dX6_wordOf_39 rfl ?_ rfl
      refine J.iadd (q := 42) dX6_wordOf_41 ?_ rfl
      refine J.cald (n := 56) (q := 43) dX6_wordOf_42 rfl (by omega) ?_ rfl
      refine J.bipush (q := 45) dX6_wordOf_43 (by decide) ?_ rfl
      refine J.icmp_ne (tgt := 53) (q := 48) (hv := by omega) dX6_wordOf_45 rfl rfl (fun c45 => ?_) (fun c45 => ?_)
      · rw [if_neg c45] at hcs
        refine J.lload (q := 55) dX6_wordOf_53 rfl ?_ rfl
        refine J.ldc2 (q := 58) (z := 27) dX6_wordOf_55 kK_X6_217 ?_ rfl
        refine J.lmul (q := 59) dX6_wordOf_58 ?_ rfl
        refine J.aload_n (q := 60) dX6_wordOf_59 rfl ?_ rfl
        refine J.bipush (q := 62) dX6_wordOf_60 (by decide) ?_ rfl
        refine J.iload_n (q := 63) dX6_wordOf_62 rfl ?_ rfl
        refine J.imul (q := 64) dX6_wordOf_63 ?_ rfl
        refine J.iload (q := 66) dX6_wordOf_64 rfl ?_ rfl
        refine J.iadd (q := 67) dX6_wordOf_66 ?_ rfl
        refine J.cald (n := 56) (q := 68) dX6_wordOf_67 rfl (by omega) ?_ rfl
        refine J.i2l (q := 69) (z := iv 71 (8 * w + k)) dX6_wordOf_68 (I6_i2l (by omega)) ?_ rfl
        refine J.ladd (q := 70) dX6_wordOf_69 ?_ rfl
        refine J.ldc2 (q := 73) (z := 96) dX6_wordOf_70 kK_X6_219 ?_ rfl
        refine J.lsub (q := 74) dX6_wordOf_73 ?_ rfl
        refine J.lstore (q := 76) dX6_wordOf_74 (Nat.le_of_ble_eq_true rfl) ?_ rfl
        refine J.iinc (q := 79) dX6_wordOf_76 rfl ?_ rfl
        refine J.goto (tgt := 27) dX6_wordOf_79 rfl ?_
        refine J.eql ?_ (ih (k + 1) (by omega) (by omega))
        rw [hcs]
        rfl
      · rw [if_pos c45] at hcs
        refine J.lload (q := 50) dX6_wordOf_48 rfl ?_ rfl
        refine J.goto (tgt := 74) dX6_wordOf_50 rfl ?_
        refine J.lstore (q := 76) dX6_wordOf_74 (Nat.le_of_ble_eq_true rfl) ?_ rfl
        refine J.iinc (q := 79) dX6_wordOf_76 rfl ?_ rfl
        refine J.goto (tgt := 27) dX6_wordOf_79 rfl ?_
        refine J.eql ?_ (ih (k + 1) (by omega) (by omega))
        rw [hcs]
        rfl

set_option maxRecDepth 100000 in
set_option maxHeartbeats 4000000 in
theorem wordOf71_out {l : Launch} {F : Nat × (Int → Int)} {iv : Mm} (ha : Alph (iv 71) 56) (ht : 0 ≤ iv 61 11 ∧ iv 61 11 ≤ 4) (hv : 0 ≤ iv 61 14 ∧ iv 61 14 ≤ 300000000000000) : ∀ (n : Nat) (w : Nat) (x : Int) (y4 y5 y6 : Option VT), (7 - w < n) → (w ≤ 7) → (x = whW (iv 71) (iv 61 14) w) → (w = 0 ∨ iv 61 11 = 1) → J l (yX6_wordOf).cls cX6_wordOf 7 (some FieldType.int) 0 0 0 false F (Ret (some (i_ (wOf iv 71 7))) S0 iv) 0 0 4 [some (r_ 61), some (r_ 71), some (i_ x), some (i_ (w : Int)), y4, y5, y6] [] S0 (iv) := by
  intro n
  induction n with
  | zero =>
    intro w x y4 y5 y6 hn hw hx h1
    omega
  | succ n ih =>
    intro w x y4 y5 y6 hn hw hx h1
    have hst : whW (iv 71) (iv 61 14) (w + 1) = if cdF (iv 71) (8 * w) 8 = iv 61 14 then (w : Int) else whW (iv 71) (iv 61 14) w := rfl
    refine J.iload_n (q := 5) dX6_wordOf_4 rfl ?_ rfl
    refine J.aload_n (q := 6) dX6_wordOf_5 rfl ?_ rfl
    refine J.alen2 (n := 56) (q := 7) dX6_wordOf_6 rfl ?_ rfl
    refine J.bipush (q := 9) dX6_wordOf_7 (by decide) ?_ rfl
    refine J.idiv (q := 10) dX6_wordOf_9 (I3_div (by omega) (by omega) rfl) (I3_n0 (by omega)) ?_ rfl
    refine J.icmp_ge (tgt := 104) (q := 13) dX6_wordOf_10 rfl rfl (fun c10 => ?_) (fun c10 => ?_)
    · refine J.iload_n (q := 105) dX6_wordOf_104 rfl ?_ rfl
      refine J.ireturn dX6_wordOf_105 rfl ?_
      unfold wOf
      first
      | (rw [if_pos (by omega)]; have hwn : w = 7 := by omega
         subst hwn; rw [hx]; exact ⟨rfl, rfl, rfl⟩)
      | (rw [if_neg (by omega)]; have hw0 : w = 0 := by omega
         subst hw0; rw [hx]; exact ⟨rfl, rfl, rfl⟩)
    · refine J.aload_n (q := 14) dX6_wordOf_13 rfl ?_ rfl
      refine J.getI (ci := 6) (k0 := 11) (kz := 11) (q := 17) dX6_wordOf_14 kF_X6_209 rfl (by decide) (by decide) rfl (.inl rfl) ?_ rfl
      refine J.iconst (q := 18) dX6_wordOf_17 ?_ rfl
      refine J.icmp_ne (tgt := 104) (q := 21) (hv := by omega) dX6_wordOf_18 rfl rfl (fun c18 => ?_) (fun c18 => ?_)
      · refine J.iload_n (q := 105) dX6_wordOf_104 rfl ?_ rfl
        refine J.ireturn dX6_wordOf_105 rfl ?_
        unfold wOf
        first
        | (rw [if_pos (by omega)]; have hwn : w = 7 := by omega
           subst hwn; rw [hx]; exact ⟨rfl, rfl, rfl⟩)
        | (rw [if_neg (by omega)]; have hw0 : w = 0 := by omega
           subst hw0; rw [hx]; exact ⟨rfl, rfl, rfl⟩)
      · refine J.lconst (q := 22) (z := 0) dX6_wordOf_21 rfl ?_ rfl
        refine J.lstore (q := 24) dX6_wordOf_22 (Nat.le_of_ble_eq_true rfl) ?_ rfl
        refine J.iconst (q := 25) dX6_wordOf_24 ?_ rfl
        refine J.istore (q := 27) dX6_wordOf_25 (Nat.le_of_ble_eq_true rfl) ?_ rfl
        refine wordOf71_in ha ht hv (w := w) (by omega) ?_ 9 0 (by omega) (by omega)
        refine J.lload (q := 84) dX6_wordOf_82 rfl ?_ rfl
        refine J.aload_n (q := 85) dX6_wordOf_84 rfl ?_ rfl
        refine J.getL (ci := 6) (k0 := 14) (kz := 14) (q := 88) dX6_wordOf_85 kF_X6_205 rfl (by decide) (by decide) rfl rfl ?_ rfl
        have hcr := cdF_rng (f := iv 71) (b := 8 * w) 8 (fun j hj => ha _ (by omega) (by omega))
        have hp27 := pow27 (k := 8) (by omega)
        refine J.lcmp (q := 89) (z := cmpZ (cdF (iv 71) (8 * w) 8) (iv 61 14)) dX6_wordOf_88 (I6_cmp (by omega) (by omega)) ?_ rfl
        refine J.if_ne (tgt := 96) (q := 92) (hv := by have := cmpZ_r (cdF (iv 71) (8 * w) 8) (iv 61 14); omega) dX6_wordOf_89 rfl rfl (fun c89 => ?_) (fun c89 => ?_)
        · rw [if_neg (fun q => c89 (cmpZ_0.mpr q))] at hst
          refine J.iload_n (q := 97) dX6_wordOf_96 rfl ?_ rfl
          refine J.istore_n (q := 98) dX6_wordOf_97 (Nat.le_of_ble_eq_true rfl) ?_ rfl
          refine J.iinc (q := 101) dX6_wordOf_98 rfl ?_ rfl
          refine J.goto (tgt := 4) dX6_wordOf_101 rfl ?_
          first
          | exact ih (w + 1) _ _ _ _ (by omega) (by omega) hst.symm (by omega)
          | exact ih (w + 1) _ _ _ _ (by omega) (by omega) (hx.trans hst.symm) (by omega)
        · rw [if_pos (cmpZ_0.mp c89)] at hst
          refine J.iload_n (q := 93) dX6_wordOf_92 rfl ?_ rfl
          refine J.goto (tgt := 97) dX6_wordOf_93 rfl ?_
          refine J.istore_n (q := 98) dX6_wordOf_97 (Nat.le_of_ble_eq_true rfl) ?_ rfl
          refine J.iinc (q := 101) dX6_wordOf_98 rfl ?_ rfl
          refine J.goto (tgt := 4) dX6_wordOf_101 rfl ?_
          first
          | exact ih (w + 1) _ _ _ _ (by omega) (by omega) hst.symm (by omega)
          | exact ih (w + 1) _ _ _ _ (by omega) (by omega) (hx.trans hst.symm) (by omega)

set_option maxRecDepth 100000 in
set_option maxHeartbeats 4000000 in
theorem c_X6_wordOf71 {l : Launch} {F : Nat × (Int → Int)} {iv : Mm} (ha : Alph (iv 71) 56) (ht : 0 ≤ iv 61 11 ∧ iv 61 11 ≤ 4) (hv : 0 ≤ iv 61 14 ∧ iv 61 14 ≤ 300000000000000) : Ctr l F 0 0 0 yX6_wordOf cX6_wordOf 7 (some FieldType.int) [r_ 61, r_ 71] S0 (iv) (Ret (some (i_ (wOf iv 71 7))) S0 iv) := by
  refine Ctr.of false (fun h => by cases h) (by decide) rfl (Nat.le_of_ble_eq_true rfl) ?_
  refine J.iconst (q := 1) dX6_wordOf_0 ?_ rfl
  refine J.istore_n (q := 2) dX6_wordOf_1 (Nat.le_of_ble_eq_true rfl) ?_ rfl
  refine J.iconst (q := 3) dX6_wordOf_2 ?_ rfl
  refine J.istore_n (q := 4) dX6_wordOf_3 (Nat.le_of_ble_eq_true rfl) ?_ rfl
  exact wordOf71_out ha ht hv 8 0 _ _ _ _ (by omega) (by omega) rfl (Or.inl rfl)

set_option maxRecDepth 100000 in
set_option maxHeartbeats 4000000 in
theorem wordOf72_in {l : Launch} {F : Nat × (Int → Int)} {iv : Mm} (ha : Alph (iv 72) 32) (ht : 0 ≤ iv 61 11 ∧ iv 61 11 ≤ 4) (hv : 0 ≤ iv 61 14 ∧ iv 61 14 ≤ 300000000000000) {x : Int} {w : Nat} (hw : w < 4) (K : J l (yX6_wordOf).cls cX6_wordOf 7 (some FieldType.int) 0 0 0 false F (Ret (some (i_ (wOf iv 72 4))) S0 iv) 0 0 82 [some (r_ 61), some (r_ 72), some (i_ x), some (i_ (w : Int)), some (l_ (cdF (iv 72) (8 * w) 8)), none, some (i_ 8)] [] S0 iv) : ∀ (n : Nat) (k : Nat), (8 - k < n) → (k ≤ 8) → J l (yX6_wordOf).cls cX6_wordOf 7 (some FieldType.int) 0 0 0 false F (Ret (some (i_ (wOf iv 72 4))) S0 iv) 0 0 27 [some (r_ 61), some (r_ 72), some (i_ x), some (i_ (w : Int)), some (l_ (cdF (iv 72) (8 * w) k)), none, some (i_ (k : Int))] [] S0 (iv) := by
  intro n
  induction n with
  | zero =>
    intro k hn hk
    omega
  | succ n ih =>
    intro k hn hk
    have hcs : cdF (iv 72) (8 * w) (k + 1) = if iv 72 (8 * w + k) = 32 then cdF (iv 72) (8 * w) k else cdF (iv 72) (8 * w) k * 27 + iv 72 (8 * w + k) - 96 := rfl
    refine J.iload (q := 29) dX6_wordOf_27 rfl ?_ rfl
    refine J.bipush (q := 31) dX6_wordOf_29 (by decide) ?_ rfl
    refine J.icmp_ge (tgt := 82) (q := 34) dX6_wordOf_31 rfl rfl (fun c31 => ?_) (fun c31 => ?_)
    · have hk8 : k = 8 := by omega
      subst hk8
      exact K
    · have hch := ha (8 * w + k) (by omega) (by omega)
      refine J.aload_n (q := 35) dX6_wordOf_34 rfl ?_ rfl
      refine J.bipush (q := 37) dX6_wordOf_35 (by decide) ?_ rfl
      refine J.iload_n (q := 38) dX6_wordOf_37 rfl ?_ rfl
      refine J.imul (q := 39) dX6_wordOf_38 ?_ rfl
      refine J.iload (q := 41) dX6_wordOf_39 rfl ?_ rfl
      refine J.iadd (q := 42) dX6_wordOf_41 ?_ rfl
      refine J.cald (n := 32) (q := 43) dX6_wordOf_42 rfl (by omega) ?_ rfl
      refine J.bipush (q := 45) dX6_wordOf_43 (by decide) ?_ rfl
      refine J.icmp_ne (tgt := 53) (q := 48) (hv := by omega) dX6_wordOf_45 rfl rfl (fun c45 => ?_) (fun c45 => ?_)
      · rw [if_neg c45] at hcs
        refine J.lload (q := 55) dX6_wordOf_53 rfl ?_ rfl
        refine J.ldc2 (q := 58) (z := 27) dX6_wordOf_55 kK_X6_217 ?_ rfl
        refine J.lmul (q := 59) dX6_wordOf_58 ?_ rfl
        refine J.aload_n (q := 60) dX6_wordOf_59 rfl ?_ rfl
        refine J.bipush (q := 62) dX6_wordOf_60 (by decide) ?_ rfl
        refine J.iload_n (q := 63) dX6_wordOf_62 rfl ?_ rfl
        refine J.imul (q := 64) dX6_wordOf_63 ?_ rfl
        refine J.iload (q := 66) dX6_wordOf_64 rfl ?_ rfl
        refine J.iadd (q := 67) dX6_wordOf_66 ?_ rfl
        refine J.cald (n := 32) (q := 68) dX6_wordOf_67 rfl (by omega) ?_ rfl
        refine J.i2l (q := 69) (z := iv 72 (8 * w + k)) dX6_wordOf_68 (I6_i2l (by omega)) ?_ rfl
        refine J.ladd (q := 70) dX6_wordOf_69 ?_ rfl
        refine J.ldc2 (q := 73) (z := 96) dX6_wordOf_70 kK_X6_219 ?_ rfl
        refine J.lsub (q := 74) dX6_wordOf_73 ?_ rfl
        refine J.lstore (q := 76) dX6_wordOf_74 (Nat.le_of_ble_eq_true rfl) ?_ rfl
        refine J.iinc (q := 79) dX6_wordOf_76 rfl ?_ rfl
        refine J.goto (tgt := 27) dX6_wordOf_79 rfl ?_
        refine J.eql ?_ (ih (k + 1) (by omega) (by omega))
        rw [hcs]
        rfl
      · rw [if_pos c45] at hcs
        refine J.lload (q := 50) dX6_wordOf_48 rfl ?_ rfl
        refine J.goto (tgt := 74) dX6_wordOf_50 rfl ?_
        refine J.lstore (q := 76) dX6_wordOf_74 (Nat.le_of_ble_eq_true rfl) ?_ rfl
        refine J.iinc (q := 79) dX6_wordOf_76 rfl ?_ rfl
        refine J.goto (tgt := 27) dX6_wordOf_79 rfl ?_
        refine J.eql ?_ (ih (k + 1) (by omega) (by omega))
        rw [hcs]
        rfl

set_option maxRecDepth 100000 in
set_option maxHeartbeats 4000000 in
theorem wordOf72_out {l : Launch} {F : Nat × (Int → Int)} {iv : Mm} (ha : Alph (iv 72) 32) (ht : 0 ≤ iv 61 11 ∧ iv 61 11 ≤ 4) (hv : 0 ≤ iv 61 14 ∧ iv 61 14 ≤ 300000000000000) : ∀ (n : Nat) (w : Nat) (x : Int) (y4 y5 y6 : Option VT), (4 - w < n) → (w ≤ 4) → (x = whW (iv 72) (iv 61 14) w) → (w = 0 ∨ iv 61 11 = 1) → J l (yX6_wordOf).cls cX6_wordOf 7 (some FieldType.int) 0 0 0 false F (Ret (some (i_ (wOf iv 72 4))) S0 iv) 0 0 4 [some (r_ 61), some (r_ 72), some (i_ x), some (i_ (w : Int)), y4, y5, y6] [] S0 (iv) := by
  intro n
  induction n with
  | zero =>
    intro w x y4 y5 y6 hn hw hx h1
    omega
  | succ n ih =>
    intro w x y4 y5 y6 hn hw hx h1
    have hst : whW (iv 72) (iv 61 14) (w + 1) = if cdF (iv 72) (8 * w) 8 = iv 61 14 then (w : Int) else whW (iv 72) (iv 61 14) w := rfl
    refine J.iload_n (q := 5) dX6_wordOf_4 rfl ?_ rfl
    refine J.aload_n (q := 6) dX6_wordOf_5 rfl ?_ rfl
    refine J.alen2 (n := 32) (q := 7) dX6_wordOf_6 rfl ?_ rfl
    refine J.bipush (q := 9) dX6_wordOf_7 (by decide) ?_ rfl
    refine J.idiv (q := 10) dX6_wordOf_9 (I3_div (by omega) (by omega) rfl) (I3_n0 (by omega)) ?_ rfl
    refine J.icmp_ge (tgt := 104) (q := 13) dX6_wordOf_10 rfl rfl (fun c10 => ?_) (fun c10 => ?_)
    · refine J.iload_n (q := 105) dX6_wordOf_104 rfl ?_ rfl
      refine J.ireturn dX6_wordOf_105 rfl ?_
      unfold wOf
      first
      | (rw [if_pos (by omega)]; have hwn : w = 4 := by omega
         subst hwn; rw [hx]; exact ⟨rfl, rfl, rfl⟩)
      | (rw [if_neg (by omega)]; have hw0 : w = 0 := by omega
         subst hw0; rw [hx]; exact ⟨rfl, rfl, rfl⟩)
    · refine J.aload_n (q := 14) dX6_wordOf_13 rfl ?_ rfl
      refine J.getI (ci := 6) (k0 := 11) (kz := 11) (q := 17) dX6_wordOf_14 kF_X6_209 rfl (by decide) (by decide) rfl (.inl rfl) ?_ rfl
      refine J.iconst (q := 18) dX6_wordOf_17 ?_ rfl
      refine J.icmp_ne (tgt := 104) (q := 21) (hv := by omega) dX6_wordOf_18 rfl rfl (fun c18 => ?_) (fun c18 => ?_)
      · refine J.iload_n (q := 105) dX6_wordOf_104 rfl ?_ rfl
        refine J.ireturn dX6_wordOf_105 rfl ?_
        unfold wOf
        first
        | (rw [if_pos (by omega)]; have hwn : w = 4 := by omega
           subst hwn; rw [hx]; exact ⟨rfl, rfl, rfl⟩)
        | (rw [if_neg (by omega)]; have hw0 : w = 0 := by omega
           subst hw0; rw [hx]; exact ⟨rfl, rfl, rfl⟩)
      · refine J.lconst (q := 22) (z := 0) dX6_wordOf_21 rfl ?_ rfl
        refine J.lstore (q := 24) dX6_wordOf_22 (Nat.le_of_ble_eq_true rfl) ?_ rfl
        refine J.iconst (q := 25) dX6_wordOf_24 ?_ rfl
        refine J.istore (q := 27) dX6_wordOf_25 (Nat.le_of_ble_eq_true rfl) ?_ rfl
        refine wordOf72_in ha ht hv (w := w) (by omega) ?_ 9 0 (by omega) (by omega)
        refine J.lload (q := 84) dX6_wordOf_82 rfl ?_ rfl
        refine J.aload_n (q := 85) dX6_wordOf_84 rfl ?_ rfl
        refine J.getL (ci := 6) (k0 := 14) (kz := 14) (q := 88) dX6_wordOf_85 kF_X6_205 rfl (by decide) (by decide) rfl rfl ?_ rfl
        have hcr := cdF_rng (f := iv 72) (b := 8 * w) 8 (fun j hj => ha _ (by omega) (by omega))
        have hp27 := pow27 (k := 8) (by omega)
        refine J.lcmp (q := 89) (z := cmpZ (cdF (iv 72) (8 * w) 8) (iv 61 14)) dX6_wordOf_88 (I6_cmp (by omega) (by omega)) ?_ rfl
        refine J.if_ne (tgt := 96) (q := 92) (hv := by have := cmpZ_r (cdF (iv 72) (8 * w) 8) (iv 61 14); omega) dX6_wordOf_89 rfl rfl (fun c89 => ?_) (fun c89 => ?_)
        · rw [if_neg (fun q => c89 (cmpZ_0.mpr q))] at hst
          refine J.iload_n (q := 97) dX6_wordOf_96 rfl ?_ rfl
          refine J.istore_n (q := 98) dX6_wordOf_97 (Nat.le_of_ble_eq_true rfl) ?_ rfl
          refine J.iinc (q := 101) dX6_wordOf_98 rfl ?_ rfl
          refine J.goto (tgt := 4) dX6_wordOf_101 rfl ?_
          first
          | exact ih (w + 1) _ _ _ _ (by omega) (by omega) hst.symm (by omega)
          | exact ih (w + 1) _ _ _ _ (by omega) (by omega) (hx.trans hst.symm) (by omega)
        · rw [if_pos (cmpZ_0.mp c89)] at hst
          refine J.iload_n (q := 93) dX6_wordOf_92 rfl ?_ rfl
          refine J.goto (tgt := 97) dX6_wordOf_93 rfl ?_
          refine J.istore_n (q := 98) dX6_wordOf_97 (Nat.le_of_ble_eq_true rfl) ?_ rfl
          refine J.iinc (q := 101) dX6_wordOf_98 rfl ?_ rfl
          refine J.goto (tgt := 4) dX6_wordOf_101 rfl ?_
          first
          | exact ih (w + 1) _ _ _ _ (by omega) (by omega) hst.symm (by omega)
          | exact ih (w + 1) _ _ _ _ (by omega) (by omega) (hx.trans hst.symm) (by omega)

set_option maxRecDepth 100000 in
set_option maxHeartbeats 4000000 in
theorem c_X6_wordOf72 {l : Launch} {F : Nat × (Int → Int)} {iv : Mm} (ha : Alph (iv 72) 32) (ht : 0 ≤ iv 61 11 ∧ iv 61 11 ≤ 4) (hv : 0 ≤ iv 61 14 ∧ iv 61 14 ≤ 300000000000000) : Ctr l F 0 0 0 yX6_wordOf cX6_wordOf 7 (some FieldType.int) [r_ 61, r_ 72] S0 (iv) (Ret (some (i_ (wOf iv 72 4))) S0 iv) := by
  refine Ctr.of false (fun h => by cases h) (by decide) rfl (Nat.le_of_ble_eq_true rfl) ?_
  refine J.iconst (q := 1) dX6_wordOf_0 ?_ rfl
  refine J.istore_n (q := 2) dX6_wordOf_1 (Nat.le_of_ble_eq_true rfl) ?_ rfl
  refine J.iconst (q := 3) dX6_wordOf_2 ?_ rfl
  refine J.istore_n (q := 4) dX6_wordOf_3 (Nat.le_of_ble_eq_true rfl) ?_ rfl
  exact wordOf72_out ha ht hv 5 0 _ _ _ _ (by omega) (by omega) rfl (Or.inl rfl)

set_option maxRecDepth 100000 in
set_option maxHeartbeats 4000000 in
theorem wordOf73_in {l : Launch} {F : Nat × (Int → Int)} {iv : Mm} (ha : Alph (iv 73) 40) (ht : 0 ≤ iv 61 11 ∧ iv 61 11 ≤ 4) (hv : 0 ≤ iv 61 14 ∧ iv 61 14 ≤ 300000000000000) {x : Int} {w : Nat} (hw : w < 5) (K : J l (yX6_wordOf).cls cX6_wordOf 7 (some FieldType.int) 0 0 0 false F (Ret (some (i_ (wOf iv 73 5))) S0 iv) 0 0 82 [some (r_ 61), some (r_ 73), some (i_ x), some (i_ (w : Int)), some (l_ (cdF (iv 73) (8 * w) 8)), none, some (i_ 8)] [] S0 iv) : ∀ (n : Nat) (k : Nat), (8 - k < n) → (k ≤ 8) → J l (yX6_wordOf).cls cX6_wordOf 7 (some FieldType.int) 0 0 0 false F (Ret (some (i_ (wOf iv 73 5))) S0 iv) 0 0 27 [some (r_ 61), some (r_ 73), some (i_ x), some (i_ (w : Int)), some (l_ (cdF (iv 73) (8 * w) k)), none, some (i_ (k : Int))] [] S0 (iv) := by
  intro n
  induction n with
  | zero =>
    intro k hn hk
    omega
  | succ n ih =>
    intro k hn hk
    have hcs : cdF (iv 73) (8 * w) (k + 1) = if iv 73 (8 * w + k) = 32 then cdF (iv 73) (8 * w) k else cdF (iv 73) (8 * w) k * 27 + iv 73 (8 * w + k) - 96 := rfl
    refine J.iload (q := 29) dX6_wordOf_27 rfl ?_ rfl
    refine J.bipush (q := 31) dX6_wordOf_29 (by decide) ?_ rfl
    refine J.icmp_ge (tgt := 82) (q := 34) dX6_wordOf_31 rfl rfl (fun c31 => ?_) (fun c31 => ?_)
    · have hk8 : k = 8 := by omega
      subst hk8
      exact K
    · have hch := ha (8 * w + k) (by omega) (by omega)
      refine J.aload_n (q := 35) dX6_wordOf_34 rfl ?_ rfl
      refine J.bipush (q := 37) dX6_wordOf_35 (by decide) ?_ rfl
      refine J.iload_n (q := 38) dX6_wordOf_37 rfl ?_ rfl
      refine J.imul (q := 39) dX6_wordOf_38 ?_ rfl
      refine J.iload (q := 41) dX6_wordOf_39 rfl ?_ rfl
      refine J.iadd (q := 42) dX6_wordOf_41 ?_ rfl
      refine J.cald (n := 40) (q := 43) dX6_wordOf_42 rfl (by omega) ?_ rfl
      refine J.bipush (q := 45) dX6_wordOf_43 (by decide) ?_ rfl
      refine J.icmp_ne (tgt := 53) (q := 48) (hv := by omega) dX6_wordOf_45 rfl rfl (fun c45 => ?_) (fun c45 => ?_)
      · rw [if_neg c45] at hcs
        refine J.lload (q := 55) dX6_wordOf_53 rfl ?_ rfl
        refine J.ldc2 (q := 58) (z := 27) dX6_wordOf_55 kK_X6_217 ?_ rfl
        refine J.lmul (q := 59) dX6_wordOf_58 ?_ rfl
        refine J.aload_n (q := 60) dX6_wordOf_59 rfl ?_ rfl
        refine J.bipush (q := 62) dX6_wordOf_60 (by decide) ?_ rfl
        refine J.iload_n (q := 63) dX6_wordOf_62 rfl ?_ rfl
        refine J.imul (q := 64) dX6_wordOf_63 ?_ rfl
        refine J.iload (q := 66) dX6_wordOf_64 rfl ?_ rfl
        refine J.iadd (q := 67) dX6_wordOf_66 ?_ rfl
        refine J.cald (n := 40) (q := 68) dX6_wordOf_67 rfl (by omega) ?_ rfl
        refine J.i2l (q := 69) (z := iv 73 (8 * w + k)) dX6_wordOf_68 (I6_i2l (by omega)) ?_ rfl
        refine J.ladd (q := 70) dX6_wordOf_69 ?_ rfl
        refine J.ldc2 (q := 73) (z := 96) dX6_wordOf_70 kK_X6_219 ?_ rfl
        refine J.lsub (q := 74) dX6_wordOf_73 ?_ rfl
        refine J.lstore (q := 76) dX6_wordOf_74 (Nat.le_of_ble_eq_true rfl) ?_ rfl
        refine J.iinc (q := 79) dX6_wordOf_76 rfl ?_ rfl
        refine J.goto (tgt := 27) dX6_wordOf_79 rfl ?_
        refine J.eql ?_ (ih (k + 1) (by omega) (by omega))
        rw [hcs]
        rfl
      · rw [if_pos c45] at hcs
        refine J.lload (q := 50) dX6_wordOf_48 rfl ?_ rfl
        refine J.goto (tgt := 74) dX6_wordOf_50 rfl ?_
        refine J.lstore (q := 76) dX6_wordOf_74 (Nat.le_of_ble_eq_true rfl) ?_ rfl
        refine J.iinc (q := 79) dX6_wordOf_76 rfl ?_ rfl
        refine J.goto (tgt := 27) dX6_wordOf_79 rfl ?_
        refine J.eql ?_ (ih (k + 1) (by omega) (by omega))
        rw [hcs]
        rfl

set_option maxRecDepth 100000 in
set_option maxHeartbeats 4000000 in
theorem wordOf73_out {l : Launch} {F : Nat × (Int → Int)} {iv : Mm} (ha : Alph (iv 73) 40) (ht : 0 ≤ iv 61 11 ∧ iv 61 11 ≤ 4) (hv : 0 ≤ iv 61 14 ∧ iv 61 14 ≤ 300000000000000) : ∀ (n : Nat) (w : Nat) (x : Int) (y4 y5 y6 : Option VT), (5 - w < n) → (w ≤ 5) → (x = whW (iv 73) (iv 61 14) w) → (w = 0 ∨ iv 61 11 = 1) → J l (yX6_wordOf).cls cX6_wordOf 7 (some FieldType.int) 0 0 0 false F (Ret (some (i_ (wOf iv 73 5))) S0 iv) 0 0 4 [some (r_ 61), some (r_ 73), some (i_ x), some (i_ (w : Int)), y4, y5, y6] [] S0 (iv) := by
  intro n
  induction n with
  | zero =>
    intro w x y4 y5 y6 hn hw hx h1
    omega
  | succ n ih =>
    intro w x y4 y5 y6 hn hw hx h1
    have hst : whW (iv 73) (iv 61 14) (w + 1) = if cdF (iv 73) (8 * w) 8 = iv 61 14 then (w : Int) else whW (iv 73) (iv 61 14) w := rfl
    refine J.iload_n (q := 5) dX6_wordOf_4 rfl ?_ rfl
    refine J.aload_n (q := 6) dX6_wordOf_5 rfl ?_ rfl
    refine J.alen2 (n := 40) (q := 7) dX6_wordOf_6 rfl ?_ rfl
    refine J.bipush (q := 9) dX6_wordOf_7 (by decide) ?_ rfl
    refine J.idiv (q := 10) dX6_wordOf_9 (I3_div (by omega) (by omega) rfl) (I3_n0 (by omega)) ?_ rfl
    refine J.icmp_ge (tgt := 104) (q := 13) dX6_wordOf_10 rfl rfl (fun c10 => ?_) (fun c10 => ?_)
    · refine J.iload_n (q := 105) dX6_wordOf_104 rfl ?_ rfl
      refine J.ireturn dX6_wordOf_105 rfl ?_
      unfold wOf
      first
      | (rw [if_pos (by omega)]; have hwn : w = 5 := by omega
         subst hwn; rw [hx]; exact ⟨rfl, rfl, rfl⟩)
      | (rw [if_neg (by omega)]; have hw0 : w = 0 := by omega
         subst hw0; rw [hx]; exact ⟨rfl, rfl, rfl⟩)
    · refine J.aload_n (q := 14) dX6_wordOf_13 rfl ?_ rfl
      refine J.getI (ci := 6) (k0 := 11) (kz := 11) (q := 17) dX6_wordOf_14 kF_X6_209 rfl (by decide) (by decide) rfl (.inl rfl) ?_ rfl
      refine J.iconst (q := 18) dX6_wordOf_17 ?_ rfl
      refine J.icmp_ne (tgt := 104) (q := 21) (hv := by omega) dX6_wordOf_18 rfl rfl (fun c18 => ?_) (fun c18 => ?_)
      · refine J.iload_n (q := 105) dX6_wordOf_104 rfl ?_ rfl
        refine J.ireturn dX6_wordOf_105 rfl ?_
        unfold wOf
        first
        | (rw [if_pos (by omega)]; have hwn : w = 5 := by omega
           subst hwn; rw [hx]; exact ⟨rfl, rfl, rfl⟩)
        | (rw [if_neg (by omega)]; have hw0 : w = 0 := by omega
           subst hw0; rw [hx]; exact ⟨rfl, rfl, rfl⟩)
      · refine J.lconst (q := 22) (z := 0) dX6_wordOf_21 rfl ?_ rfl
        refine J.lstore (q := 24) dX6_wordOf_22 (Nat.le_of_ble_eq_true rfl) ?_ rfl
        refine J.iconst (q := 25) dX6_wordOf_24 ?_ rfl
        refine J.istore (q := 27) dX6_wordOf_25 (Nat.le_of_ble_eq_true rfl) ?_ rfl
        refine wordOf73_in ha ht hv (w := w) (by omega) ?_ 9 0 (by omega) (by omega)
        refine J.lload (q := 84) dX6_wordOf_82 rfl ?_ rfl
        refine J.aload_n (q := 85) dX6_wordOf_84 rfl ?_ rfl
        refine J.getL (ci := 6) (k0 := 14) (kz := 14) (q := 88) dX6_wordOf_85 kF_X6_205 rfl (by decide) (by decide) rfl rfl ?_ rfl
        have hcr := cdF_rng (f := iv 73) (b := 8 * w) 8 (fun j hj => ha _ (by omega) (by omega))
        have hp27 := pow27 (k := 8) (by omega)
        refine J.lcmp (q := 89) (z := cmpZ (cdF (iv 73) (8 * w) 8) (iv 61 14)) dX6_wordOf_88 (I6_cmp (by omega) (by omega)) ?_ rfl
        refine J.if_ne (tgt := 96) (q := 92) (hv := by have := cmpZ_r (cdF (iv 73) (8 * w) 8) (iv 61 14); omega) dX6_wordOf_89 rfl rfl (fun c89 => ?_) (fun c89 => ?_)
        · rw [if_neg (fun q => c89 (cmpZ_0.mpr q))] at hst
          refine J.iload_n (q := 97) dX6_wordOf_96 rfl ?_ rfl
          refine J.istore_n (q := 98) dX6_wordOf_97 (Nat.le_of_ble_eq_true rfl) ?_ rfl
          refine J.iinc (q := 101) dX6_wordOf_98 rfl ?_ rfl
          refine J.goto (tgt := 4) dX6_wordOf_101 rfl ?_
          first
          | exact ih (w + 1) _ _ _ _ (by omega) (by omega) hst.symm (by omega)
          | exact ih (w + 1) _ _ _ _ (by omega) (by omega) (hx.trans hst.symm) (by omega)
        · rw [if_pos (cmpZ_0.mp c89)] at hst
          refine J.iload_n (q := 93) dX6_wordOf_92 rfl ?_ rfl
          refine J.goto (tgt := 97) dX6_wordOf_93 rfl ?_
          refine J.istore_n (q := 98) dX6_wordOf_97 (Nat.le_of_ble_eq_true rfl) ?_ rfl
          refine J.iinc (q := 101) dX6_wordOf_98 rfl ?_ rfl
          refine J.goto (tgt := 4) dX6_wordOf_101 rfl ?_
          first
          | exact ih (w + 1) _ _ _ _ (by omega) (by omega) hst.symm (by omega)
          | exact ih (w + 1) _ _ _ _ (by omega) (by omega) (hx.trans hst.symm) (by omega)

set_option maxRecDepth 100000 in
set_option maxHeartbeats 4000000 in
theorem c_X6_wordOf73 {l : Launch} {F : Nat × (Int → Int)} {iv : Mm} (ha : Alph (iv 73) 40) (ht : 0 ≤ iv 61 11 ∧ iv 61 11 ≤ 4) (hv : 0 ≤ iv 61 14 ∧ iv 61 14 ≤ 300000000000000) : Ctr l F 0 0 0 yX6_wordOf cX6_wordOf 7 (some FieldType.int) [r_ 61, r_ 73] S0 (iv) (Ret (some (i_ (wOf iv 73 5))) S0 iv) := by
  refine Ctr.of false (fun h => by cases h) (by decide) rfl (Nat.le_of_ble_eq_true rfl) ?_
  refine J.iconst (q := 1) dX6_wordOf_0 ?_ rfl
  refine J.istore_n (q := 2) dX6_wordOf_1 (Nat.le_of_ble_eq_true rfl) ?_ rfl
  refine J.iconst (q := 3) dX6_wordOf_2 ?_ rfl
  refine J.istore_n (q := 4) dX6_wordOf_3 (Nat.le_of_ble_eq_true rfl) ?_ rfl
  exact wordOf73_out ha ht hv 6 0 _ _ _ _ (by omega) (by omega) rfl (Or.inl rfl)

