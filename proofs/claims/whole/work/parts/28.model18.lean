/-! the reference: tokens (printed by wip/whole/m_model18.py) -/
def blk (T : Int → Int) (i : Int) : Bool := decide (T i = 32)
def ltr (T : Int → Int) (i : Int) : Bool := decide (97 ≤ T i ∧ T i ≤ 122)
def dgt (T : Int → Int) (i : Int) : Bool := decide (48 ≤ T i ∧ T i ≤ 57)
def stW (v x : Int) : Int := if 9999999999999 < v then v else v * 27 + x - 96
def stN (v x : Int) : Int := if 999 < v then v else v * 10 + x - 48
def fldT (st : Int → Int → Int) (p : Int → Bool) (T : Int → Int) : Nat → Int → Int → Int
  | 0, _, v => v
  | n + 1, i, v => if p i = true then fldT st p T n (i + 1) (st v (T i)) else v
/-- where the token begins that is read from place q on, its end, its value, what it is -/
def tB (T : Int → Int) (z q : Int) : Int := runN (blk T) (z - q).toNat q
def tE' (T : Int → Int) (z b : Int) : Int := if b = z then b else if ltr T b = true then runN (ltr T) (z - b).toNat b else if dgt T b = true then runN (dgt T) (z - b).toNat b else b + 1
def tV' (T : Int → Int) (z b : Int) : Int := if b = z then 0 else if ltr T b = true then fldT stW (ltr T) T (z - b).toNat b 0 else if dgt T b = true then fldT stN (dgt T) T (z - b).toNat b 0 else 0
def tK' (T : Int → Int) (z b : Int) : Int := if b = z then 0 else if ltr T b = true then 1 else if dgt T b = true then (if 999 < tV' T z b then 4 else 2) else if T b = 59 then 3 else 4
def tE (T : Int → Int) (z q : Int) : Int := tE' T z (tB T z q)
def tV (T : Int → Int) (z q : Int) : Int := tV' T z (tB T z q)
def tK (T : Int → Int) (z q : Int) : Int := tK' T z (tB T z q)
def Tw (iv iv1 : Mm) : Prop := (∀ q, q ≠ 61 → iv1 q = iv q) ∧ ∀ j : Int, (j < 11 ∨ 14 < j) → iv1 61 j = iv 61 j
theorem Tw.rf {iv : Mm} : Tw iv iv := ⟨fun _ _ => rfl, fun _ _ => rfl⟩
theorem u61s {iv : Mm} {k v : Int} : up iv 61 k v 61 k = v := by rw [up_s, upr_s]
theorem u61n {iv : Mm} {k j v : Int} (h : j ≠ k) : up iv 61 k v 61 j = iv 61 j := by rw [up_s, upr_n _ _ h]
theorem u61o {iv : Mm} {q : Nat} {k v : Int} (h : q ≠ 61) : up iv 61 k v q = iv q := up_n _ _ _ h
theorem Tw.up {iv iv1 : Mm} {k v : Int} (h : Tw iv iv1) (hk : 11 ≤ k ∧ k ≤ 14) : Tw iv (up iv1 61 k v) := ⟨fun q hq => (u61o hq).trans (h.1 q hq), fun j hj => (u61n (by omega)).trans (h.2 j hj)⟩
theorem stW_r {v x : Int} (hv : 0 ≤ v ∧ v ≤ 300000000000000) (hx : 97 ≤ x ∧ x ≤ 122) : 0 ≤ stW v x ∧ stW v x ≤ 300000000000000 := by unfold stW; split <;> omega
theorem stN_r {v x : Int} (hv : 0 ≤ v ∧ v ≤ 300000000000000) (hx : 48 ≤ x ∧ x ≤ 57) : 0 ≤ stN v x ∧ stN v x ≤ 300000000000000 := by unfold stN; split <;> omega
set_option maxRecDepth 100000 in
set_option maxHeartbeats 4000000 in
theorem nextToken_word {l : Launch} {F : Nat × (Int → Int)} {iv : Mm} (hA : AI iv) {B E K V : Int} (hK : K = 1) : ∀ (n : Nat) (e v : Int) (iv1 : Mm), (iv 61 10 - e < n) → (0 ≤ e ∧ e ≤ iv 61 10) → (0 ≤ v ∧ v ≤ 300000000000000) → (Tw iv iv1) → (iv1 61 11 = 1) → (iv1 61 12 = B) → (iv1 61 13 = e) → (iv1 61 14 = v) → (runN (ltr (iv 70)) (iv 61 10 - e).toNat e = E) → (fldT stW (ltr (iv 70)) (iv 70) (iv 61 10 - e).toNat e v = V) → J l (yX6_nextToken).cls cX6_nextToken 1 none 2 0 0 false F (fun v S iv2 => v = none ∧ S = S0 ∧ Tw iv iv2 ∧ iv2 61 12 = B ∧ iv2 61 13 = E ∧ iv2 61 11 = K ∧ iv2 61 14 = V) 0 0 98 [some (r_ 61)] [] S0 (iv1) := by
  intro n
  induction n with
  | zero =>
    intro e v iv1 hn he hv hL e11 e12 e13 e14 hE hV
    omega
  | succ n ih =>
    intro e v iv1 hn he hv hL e11 e12 e13 e14 hE hV
    have htp := hA.tp
    have e70 : iv1 70 = iv 70 := hL.1 70 (by decide)
    have e10 : iv1 61 10 = iv 61 10 := hL.2 10 (by omega)
    refine J.aload_n (q := 99) dX6_nextToken_98 rfl ?_ rfl
    refine J.getI (ci := 6) (k0 := 13) (kz := 13) (q := 102) dX6_nextToken_99 kF_X6_199 rfl (by decide) (by decide) rfl (.inl rfl) ?_ rfl
    (try simp (disch := decide) only [u61s, u61n, u61o, e10, e12, e13, e14, e70])
    refine J.aload_n (q := 103) dX6_nextToken_102 rfl ?_ rfl
    refine J.getI (ci := 6) (k0 := 10) (kz := 10) (q := 106) dX6_nextToken_103 kF_X6_195 rfl (by decide) (by decide) rfl (.inl rfl) ?_ rfl
    (try simp (disch := decide) only [u61s, u61n, u61o, e10, e12, e13, e14, e70])
    refine J.icmp_ge (tgt := 337) (q := 109) (hv := by omega) dX6_nextToken_106 rfl rfl (fun c106 => ?_) (fun c106 => ?_)
    · have he9 : iv 61 10 - e = 0 := by omega
      rw [he9] at hE hV
      have hE : e = E := hE
      have hV : v = V := hV
      refine J.vreturn dX6_nextToken_337 rfl ?_
      exact ⟨rfl, rfl, hL, e12, e13.trans hE, e11.trans hK.symm, e14.trans hV⟩
    · rw [show (iv 61 10 - e).toNat = (iv 61 10 - (e + 1)).toNat + 1 by omega, runN] at hE
      rw [show (iv 61 10 - e).toNat = (iv 61 10 - (e + 1)).toNat + 1 by omega, fldT] at hV
      have hby := hA.by e (by omega) (by omega)
      refine J.aload_n (q := 110) dX6_nextToken_109 rfl ?_ rfl
      refine J.getR (ci := 6) (k0 := 9) (c1 := 70) (q := 113) dX6_nextToken_110 kF_X6_35 rfl (by decide) (by decide) rfl (by decide) rfl ?_ rfl
      (try simp (disch := decide) only [u61s, u61n, u61o, e10, e12, e13, e14, e70])
      refine J.aload_n (q := 114) dX6_nextToken_113 rfl ?_ rfl
      refine J.getI (ci := 6) (k0 := 13) (kz := 13) (q := 117) dX6_nextToken_114 kF_X6_199 rfl (by decide) (by decide) rfl (.inl rfl) ?_ rfl
      (try simp (disch := decide) only [u61s, u61n, u61o, e10, e12, e13, e14, e70])
      refine J.iald (n := 120) (q := 118) dX6_nextToken_117 rfl (by omega) ?_ rfl
      (try simp (disch := decide) only [u61s, u61n, u61o, e10, e12, e13, e14, e70])
      refine J.callS1i (q := 121) dX6_nextToken_118 mv_X6_isLetter kS_X6_isLetter kL_X6_212 ⟨by decide, by decide⟩ (Nat.le_of_ble_eq_true rfl) ⟨by decide, by decide⟩ rfl (c_X6_isLetter (by omega)) ?_
      (try simp (disch := decide) only [u61s, u61n, u61o, e10, e12, e13, e14, e70])
      refine J.ifb_eq (tgt := 337) (q := 124) dX6_nextToken_121 rfl rfl (fun c121 => ?_) (fun c121 => ?_)
      · have hpi : ¬ ltr (iv 70) e = true := fun q => c121 (of_decide_eq_true q)
        rw [if_neg hpi] at hE hV
        refine J.vreturn dX6_nextToken_337 rfl ?_
        exact ⟨rfl, rfl, hL, e12, e13.trans hE, e11.trans hK.symm, e14.trans hV⟩
      · have hpi : ltr (iv 70) e = true := decide_eq_true (by omega)
        rw [if_pos hpi] at hE hV
        refine J.aload_n (q := 125) dX6_nextToken_124 rfl ?_ rfl
        refine J.aload_n (q := 126) dX6_nextToken_125 rfl ?_ rfl
        refine J.getL (ci := 6) (k0 := 14) (kz := 14) (q := 129) dX6_nextToken_126 kF_X6_205 rfl (by decide) (by decide) rfl rfl ?_ rfl
        (try simp (disch := decide) only [u61s, u61n, u61o, e10, e12, e13, e14, e70])
        refine J.ldc2 (q := 132) (z := 9999999999999) dX6_nextToken_129 kK_X6_215 ?_ rfl
        refine J.lcmp (q := 133) (z := cmpZ v 9999999999999) dX6_nextToken_132 (I6_cmp (x := v) (y := 9999999999999) (by omega) (by omega)) ?_ rfl
        refine J.if_le (tgt := 143) (q := 136) (hv := by have := cmpZ_r v 9999999999999; omega) dX6_nextToken_133 rfl rfl (fun c133 => ?_) (fun c133 => ?_)
        · have hvl := cmpZ_le.mp c133
          have hst : stW v (iv 70 e) = v * 27 + iv 70 e - 96 := if_neg (by omega)
          refine J.aload_n (q := 144) dX6_nextToken_143 rfl ?_ rfl
          refine J.getL (ci := 6) (k0 := 14) (kz := 14) (q := 147) dX6_nextToken_144 kF_X6_205 rfl (by decide) (by decide) rfl rfl ?_ rfl
          (try simp (disch := decide) only [u61s, u61n, u61o, e10, e12, e13, e14, e70])
          refine J.ldc2 (q := 150) (z := 27) dX6_nextToken_147 kK_X6_217 ?_ rfl
          refine J.lmul (q := 151) dX6_nextToken_150 ?_ rfl
          refine J.aload_n (q := 152) dX6_nextToken_151 rfl ?_ rfl
          refine J.getR (ci := 6) (k0 := 9) (c1 := 70) (q := 155) dX6_nextToken_152 kF_X6_35 rfl (by decide) (by decide) rfl (by decide) rfl ?_ rfl
          (try simp (disch := decide) only [u61s, u61n, u61o, e10, e12, e13, e14, e70])
          refine J.aload_n (q := 156) dX6_nextToken_155 rfl ?_ rfl
          refine J.getI (ci := 6) (k0 := 13) (kz := 13) (q := 159) dX6_nextToken_156 kF_X6_199 rfl (by decide) (by decide) rfl (.inl rfl) ?_ rfl
          (try simp (disch := decide) only [u61s, u61n, u61o, e10, e12, e13, e14, e70])
          refine J.iald (n := 120) (q := 160) dX6_nextToken_159 rfl (by omega) ?_ rfl
          (try simp (disch := decide) only [u61s, u61n, u61o, e10, e12, e13, e14, e70])
          refine J.i2l (q := 161) (z := iv 70 e) dX6_nextToken_160 (I6_i2l (by omega)) ?_ rfl
          refine J.ladd (q := 162) dX6_nextToken_161 ?_ rfl
          refine J.ldc2 (q := 165) (z := 96) dX6_nextToken_162 kK_X6_219 ?_ rfl
          refine J.lsub (q := 166) dX6_nextToken_165 ?_ rfl
          refine J.putL (ci := 6) (k0 := 14) (kz := 14) (q := 169) dX6_nextToken_166 kF_X6_205 rfl (by decide) (by decide) rfl rfl rfl ?_ rfl
          refine J.aload_n (q := 170) dX6_nextToken_169 rfl ?_ rfl
          refine J.dup (q := 171) dX6_nextToken_170 rfl ?_ rfl
          refine J.getI (ci := 6) (k0 := 13) (kz := 13) (q := 174) dX6_nextToken_171 kF_X6_199 rfl (by decide) (by decide) rfl (.inl rfl) ?_ rfl
          (try simp (disch := decide) only [u61s, u61n, u61o, e10, e12, e13, e14, e70])
          refine J.iconst (q := 175) dX6_nextToken_174 ?_ rfl
          refine J.iadd (q := 176) dX6_nextToken_175 ?_ rfl
          refine J.putI (ci := 6) (k0 := 13) (kz := 13) (q := 179) dX6_nextToken_176 kF_X6_199 rfl (by decide) (by decide) rfl rfl rfl ?_ rfl
          refine J.goto (tgt := 98) dX6_nextToken_179 rfl ?_
          rw [hst] at hV
          refine ih (e + 1) _ _ (by omega) (by omega) (by rw [← hst]; exact stW_r hv (by omega)) ((hL.up (by omega)).up (by omega)) ?_ ?_ ?_ ?_ hE hV
          · simp (disch := decide) only [u61s, u61n, e11]
          · simp (disch := decide) only [u61s, u61n, e12]
          · simp (disch := decide) only [u61s, u61n, e13]
          · simp (disch := decide) only [u61s, u61n, e14]
        · have hvl : ¬ v ≤ 9999999999999 := fun q => by have := cmpZ_le.mpr q; omega
          have hst : stW v (iv 70 e) = v := if_pos (by omega)
          refine J.aload_n (q := 137) dX6_nextToken_136 rfl ?_ rfl
          refine J.getL (ci := 6) (k0 := 14) (kz := 14) (q := 140) dX6_nextToken_137 kF_X6_205 rfl (by decide) (by decide) rfl rfl ?_ rfl
          (try simp (disch := decide) only [u61s, u61n, u61o, e10, e12, e13, e14, e70])
          refine J.goto (tgt := 166) dX6_nextToken_140 rfl ?_
          refine J.putL (ci := 6) (k0 := 14) (kz := 14) (q := 169) dX6_nextToken_166 kF_X6_205 rfl (by decide) (by decide) rfl rfl rfl ?_ rfl
          refine J.aload_n (q := 170) dX6_nextToken_169 rfl ?_ rfl
          refine J.dup (q := 171) dX6_nextToken_170 rfl ?_ rfl
          refine J.getI (ci := 6) (k0 := 13) (kz := 13) (q := 174) dX6_nextToken_171 kF_X6_199 rfl (by decide) (by decide) rfl (.inl rfl) ?_ rfl
          (try simp (disch := decide) only [u61s, u61n, u61o, e10, e12, e13, e14, e70])
          refine J.iconst (q := 175) dX6_nextToken_174 ?_ rfl
          refine J.iadd (q := 176) dX6_nextToken_175 ?_ rfl
          refine J.putI (ci := 6) (k0 := 13) (kz := 13) (q := 179) dX6_nextToken_176 kF_X6_199 rfl (by decide) (by decide) rfl rfl rfl ?_ rfl
          refine J.goto (tgt := 98) dX6_nextToken_179 rfl ?_
          rw [hst] at hV
          refine ih (e + 1) _ _ (by omega) (by omega) (by rw [← hst]; exact stW_r hv (by omega)) ((hL.up (by omega)).up (by omega)) ?_ ?_ ?_ ?_ hE hV
          · simp (disch := decide) only [u61s, u61n, e11]
          · simp (disch := decide) only [u61s, u61n, e12]
          · simp (disch := decide) only [u61s, u61n, e13]
          · simp (disch := decide) only [u61s, u61n, e14]

