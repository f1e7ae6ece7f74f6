/-! the reference: tokens (printed by wip/whole/m_model18.py) -/
def blk (T : Int → Int) (i : Int) : Bool := decide (T i = 32)
def ltr (T : Int → Int) (i : Int) : Bool := decide (97 ≤ T i ∧ T i ≤ 122)
def dgt (T : Int → Int) (i : Int) : Bool := decide (48 ≤ T i ∧ T i ≤ 57)
def stW (v x : Int) : Int := if 9999999999999 < v then v else v * 27 + x - 96
def stN (v x : Int) : Int := if 999 < v then v else v * 10 + x - 48
def fldT (st : Int → Int → Int) (p : Int → Bool) (T : Int → Int) : Nat → Int → Int → Int
  | 0, _, v => v
  | n + 1, i, v => if p i = true then fldT st p T n (i + 1) (st v (T i)) else v
/-- where the token begins that is read from place q on, its end, its value, what it is -/
def tB (T : Int → Int) (z q : Int) : Int := runN (blk T) (z - q).toNat q
def tE' (T : Int → Int) (z b : Int) : Int := if b = z then b else if ltr T b = true then runN (ltr T) (z - b).toNat b else if dgt T b = true then runN (dgt T) (z - b).toNat b else b + 1
def tV' (T : Int → Int) (z b : Int) : Int := if b = z then 0 else if ltr T b = true then fldT stW (ltr T) T (z - b).toNat b 0 else if dgt T b = true then fldT stN (dgt T) T (z - b).toNat b 0 else 0
def tK' (T : Int → Int) (z b : Int) : Int := if b = z then 0 else if ltr T b = true then 1 else if dgt T b = true then (if 999 < tV' T z b then 4 else 2) else if T b = 59 then 3 else 4
def tE (T : Int → Int) (z q : Int) : Int := tE' T z (tB T z q)
def tV (T : Int → Int) (z q : Int) : Int := tV' T z (tB T z q)
def tK (T : Int → Int) (z q : Int) : Int := tK' T z (tB T z q)
def Tw (iv iv1 : Mm) : Prop := (∀ q, q ≠ 61 → iv1 q = iv q) ∧ ∀ j : Int, (j < 11 ∨ 14 < j) → iv1 61 j = iv 61 j
theorem Tw.rf {iv : Mm} : Tw iv iv := ⟨fun _ _ => rfl, fun _ _ => rfl⟩
theorem u61s {iv : Mm} {k v : Int} : up iv 61 k v 61 k = v := by rw [up_s, upr_s]
theorem u61n {iv : Mm} {k j v : Int} (h : j ≠ k) : up iv 61 k v 61 j = iv 61 j := by rw [up_s, upr_n _ _ h]
theorem u61o {iv : Mm} {q : Nat} {k v : Int} (h : q ≠ 61) : up iv 61 k v q = iv q := up_n _ _ _ h
theorem Tw.up {iv iv1 : Mm} {k v : Int} (h : Tw iv iv1) (hk : 11 ≤ k ∧ k ≤ 14) : Tw iv (up iv1 61 k v) := ⟨fun q hq => (u61o hq).trans (h.1 q hq), fun j hj => (u61n (by omega)).trans (h.2 j hj)⟩
theorem stW_r {v x : Int} (hv : 0 ≤ v ∧ v ≤ 300000000000000) (hx : 97 ≤ x ∧ x ≤ 122) : 0 ≤ stW v x ∧ stW v x ≤ 300000000000000 := by unfold stW; split <;> omega
theorem stN_r {v x : Int} (hv : 0 ≤ v ∧ v ≤ 300000000000000) (hx : 48 ≤ x ∧ x ≤ 57) : 0 ≤ stN v x ∧ stN v x ≤ 300000000000000 := by unfold stN; split <;> omega
set_option maxRecDepth 100000 in
set_option maxHeartbeats 4000000 in
theorem nextToken_word {l : Launch} {F : Nat × (Int → Int)} {iv : Mm} (hA : AI iv) {B E K V : Int} (hK : K = 1) : ∀ (n : Nat) (e v : Int) (iv1 : Mm), (iv 61 10 - e < n) → (0 ≤ e ∧ e ≤ iv 61 10) → (0 ≤ v ∧ v ≤ 300000000000000) → (Tw iv iv1) → (iv1 61 11 = 1) → (iv1 61 12 = B) → (iv1 61 13 = e) → (iv1 61 14 = v) → (runN (ltr (iv 70)) (iv 61 10 - e).toNat e = E) → (fldT stW (ltr (iv 70)) (iv 70) (iv 61 10 - e).toNat e v = V) → J l (yX6_nextToken).cls cX6_nextToken 1 none 2 0 0 false F (fun v S iv2 => v = none ∧ S = S0 ∧ Tw iv iv2 ∧ iv2 61 12 = B ∧ iv2 61 13 = E ∧ iv2 61 11 = K ∧ iv2 61 14 = V) 0 0 98 [some (r_ 61)] [] S0 (iv1) := by
  intro n
  induction n with
  | zero =>
    intro e v iv1 hn he hv hL e11 e12 e13 e14 hE hV
    omega
  | succ n ih =>
    intro e v iv1 hn he hv hL e11 e12 e13 e14 hE hV
    have htp := hA.tp
    have e70 : iv1 70 = iv 70 := hL.1 70 (by decide)
    have e10 : iv1 61 10 = iv 61 10 := hL.2 10 (by omega)
    refine J.aload_n (q := 99) dX6_nextToken_98 rfl ?_ rfl
    refine J.getI (ci := 6) (k0 := 13) (kz := 13) (q := 102) dX6_nextToken_99 kF_X6_199 rfl (by decide) (by decide) rfl (.inl rfl) ?_ rfl
    (try simp (disch := decide) only [u61s, u61n, u61o, e10, e12, e13, e14, e70])
    refine J.aload_n (q := 103) dX6_nextToken_102 rfl ?_ rfl
    refine J.getI (ci := 6) (k0 := 10) (kz := 10) (q := 106) dX6_nextToken_103 kF_X6_195 rfl (by decide) (by decide) rfl (.inl rfl) ?_ rfl
    (try simp (disch := decide) only [u61s, u61n, u61o, e10, e12, e13, e14, e70])
    refine J.icmp_ge (tgt := 337) (q := 109) (hv := by omega) dX6_nextToken_106 rfl rfl (fun c106 => ?_) (fun c106 => ?_)
    · have he9 : iv 61 10 - e = 0 := by omega
      rw [he9] at hE hV
      have hE : e = E := hE
      have hV : v = V := hV
      refine J.vreturn dX6_nextToken_337 rfl ?_
      exact ⟨rfl, rfl, hL, e12, e13.trans hE, e11.trans hK.symm, e14.trans hV⟩
    · rw [show (iv 61 10 - e).toNat = (iv 61 10 - (e + 1)).toNat + 1 by omega, runN] at hE
      rw [show (iv 61 10 - e).toNat = (iv 61 10 - (e + 1)).toNat + 1 by omega, fldT] at hV
      have hby := hA.by e (by omega) (by omega)
      refine J.aload_n (q := 110) dX6_nextToken_109 rfl ?_ rfl
      refine J.getR (ci := 6) (k0 := 9) (c1 := 70) (q := 113) dX6_nextToken_110 kF_X6_35 rfl (by decide) (by decide) rfl (by decide) rfl ?_ rfl
      (try simp (disch := decide) only [u61s, u61n, u61o, e10, e12, e13, e14, e70])
      refine J.aload_n (q := 114) dX6_nextToken_113 rfl ?_ rfl
      refine J.getI (ci := 6) (k0 := 13) (kz := 13) (q := 117) dX6_nextToken_114 kF_X6_199 rfl (by decide) (by decide) rfl (.inl rfl) ?_ rfl
      (try simp (disch := decide) only [u61s, u61n, u61o, e10, e12, e13, e14, e70])
      refine J.iald (n := 120) (q := 118) dX6_nextToken_117 rfl (by omega) ?_ rfl
      (try simp (disch := decide) only [u61s, u61n, u61o, e10, e12, e13, e14, e70])
      refine J.callS1i (q := 121) dX6_nextToken_118 mv_X6_isLetter kS_X6_isLetter kL_X6_212 ⟨by decide, by decide⟩ (Nat.le_of_ble_eq_true rfl) ⟨by decide, by decide⟩ rfl (c_X6_isLetter (by omega)) ?_
      (try simp (disch := decide) only [u61s, u61n, u61o, e10, e12, e13, e14, e70])
      refine J.ifb_eq (tgt := 337) (q := 124) dX6_nextToken_121 rfl rfl (fun c121 => ?_) (fun c121 => ?_)
      · have hpi : ¬ ltr (iv 70) e = true := fun q => c121 (of_decide_eq_true q)
        rw [if_neg hpi] at hE hV
        refine J.vreturn dX6_nextToken_337 rfl ?_
        exact ⟨rfl, rfl, hL, e12, e13.trans hE, e11.trans hK.symm, e14.trans hV⟩
      · have hpi : ltr (iv 70) e = true := decide_eq_true (by omega)
        rw [if_pos hpi] at hE hV
        refine J.aload_n (q := 125) dX6_nextToken_124 rfl ?_ rfl
        refine J.aload_n (q := 126) dX6_nextToken_125 rfl ?_ rfl
        refine J.getL (ci := 6) (k0 := 14) (kz := 14) (q := 129) dX6_nextToken_126 kF_X6_205 rfl (by decide) (by decide) rfl rfl ?_ rfl
        (try simp (disch := decide) only [u61s, u61n, u61o, e10, e12, e13, e14, e70])
        refine J.ldc2 (q := 132) (z := 9999999999999) dX6_nextToken_129 kK_X6_215 ?_ rfl
        refine J.lcmp (q := 133) (z := cmpZ v 9999999999999) dX6_nextToken_132 (I6_cmp (x := v) (y := 9999999999999) (by omega) (by omega)) ?_ rfl
        refine J.if_le (tgt := 143) (q := 136) (hv := by have := cmpZ_r v 9999999999999; omega) dX6_nextToken_133 rfl rfl (fun c133 => ?_) (fun c133 => ?_)
        · have hvl := cmpZ_le.mp c133
          have hst : stW v (iv 70 e) = v * 27 + iv 70 e - 96 := if_neg (by omega)
          refine J.aload_n (q := 144) dX6_nextToken_143 rfl ?_ rfl
          refine J.getL (ci := 6) (k0 := 14) (kz := 14) (q := 147) dX6_nextToken_144 kF_X6_205 rfl (by decide) (by decide) rfl rfl ?_ rfl
          (try simp (disch := decide) only [u61s, u61n, u61o, e10, e12, e13, e14, e70])
          refine J.ldc2 (q := 150) (z := 27) dX6_nextToken_147 kK_X6_217 ?_ rfl
          refine J.lmul (q := 151) dX6_nextToken_150 ?_ rfl
          refine J.aload_n (q := 152) dX6_nextToken_151 rfl ?_ rfl
          refine J.getR (ci := 6) (k0 := 9) (c1 := 70) (q := 155) dX6_nextToken_152 kF_X6_35 rfl (by decide) (by decide) rfl (by decide) rfl ?_ rfl
          (try simp (disch := decide) only [u61s, u61n, u61o, e10, e12, e13, e14, e70])
          refine J.aload_n (q := 156) dX6_nextToken_155 rfl ?_ rfl
          refine J.getI (ci := 6) (k0 := 13) (kz := 13) (q := 159) dX6_nextToken_156 kF_X6_199 rfl (by decide) (by decide) rfl (.inl rfl) ?_ rfl
          (try simp (disch := decide) only [u61s, u61n, u61o, e10, e12, e13, e14, e70])
          refine J.iald (n := 120) (q := 160) dX6_nextToken_159 rfl (by omega) ?_ rfl
          (try simp (disch := decide) only [u61s, u61n, u61o, e10, e12, e13, e14, e70])
          refine J.i2l (q := 161) (z := iv 70 e) dX6_nextToken_160 (I6_i2l (by omega)) ?_ rfl
          refine J.ladd (q := 162) dX6_nextToken_161 ?_ rfl
          refine J.ldc2 (q := 165) (z := 96) dX6_nextToken_162 kK_X6_219 ?_ rfl
          refine J.lsub (q := 166) dX6_nextToken_165 ?_ rfl
          refine J.putL (ci := 6) (k0 := 14) (kz := 14) (q := 169) dX6_nextToken_166 kF_X6_205 rfl (by decide) (by decide) rfl rfl rfl ?_ rfl
          refine J.aload_n (q := 170) dX6_nextToken_169 rfl ?_ rfl
          refine J.dup (q := 171) dX6_nextToken_170 rfl ?_ rfl
          refine J.getI (ci := 6) (k0 := 13) (kz := 13) (q := 174) dX6_nextToken_171 kF_X6_199 rfl (by decide) (by decide) rfl (.inl rfl) ?_ rfl
          (try simp (disch := decide) only [u61s, u61n, u61o, e10, e12, e13, e14, e70])
          refine J.iconst (q := 175) dX6_nextToken_174 ?_ rfl
          refine J.iadd (q := 176) dX6_nextToken_175 ?_ rfl
          refine J.putI (ci := 6) (k0 := 13) (kz := 13) (q := 179) dX6_nextToken_176 kF_X6_199 rfl (by decide) (by decide) rfl rfl rfl ?_ rfl
          refine J.goto (tgt := 98) dX6_nextToken_179 rfl ?_
          rw [hst] at hV
          refine ih (e + 1) _ _ (by omega) (by omega) (by rw [← hst]; exact stW_r hv (by omega)) ((hL.up (by omega)).up (by omega)) ?_ ?_ ?_ ?_ hE hV
          · simp (disch := decide) only [u61s, u61n, e11]
          · simp (disch := decide) only [u61s, u61n, e12]
          · simp (disch := decide) only [u61s, u61n, e13]
          · simp (disch := decide) only [u61s, u61n, e14]
        · have hvl : ¬ v ≤ 9999999999999 := fun q => by have := cmpZ_le.mpr q; omega
          have hst : stW v (iv 70 e) = v := if_pos (by omega)
          refine J.aload_n (q := 137) dX6_nextToken_136 rfl ?_ rfl
          refine J.getL (ci := 6) (k0 := 14) (kz := 14) (q := 140) dX6_nextToken_137 kF_X6_205 rfl (by decide) (by decide) rfl rfl ?_ rfl
          (try simp (disch := decide) only [u61s, u61n, u61o, e10, e12, e13, e14, e70])
          refine J.goto (tgt := 166) dX6_nextToken_140 rfl ?_
          refine J.putL (ci := 6) (k0 := 14) (kz := 14) (q := 169) dX6_nextToken_166 kF_X6_205 rfl (by decide) (by decide) rfl rfl rfl ?_ rfl
          refine J.aload_n (q := 170) dX6_nextToken_169 rfl ?_ rfl
          refine J.dup (q := 171) dX6_nextToken_170 rfl ?_ rfl
          refine J.getI (ci := 6) (k0 := 13) (kz := 13) (q := 174) dX6_nextToken_171 kF_X6_199 rfl (by decide) (by decide) rfl (.inl rfl) ?_ rfl
          (try simp (disch := decide) only [u61s, u61n, u61o, e10, e12, e13, e14, e70])
          refine J.iconst (q := 175) dX6_nextToken_174 ?_ rfl
          refine J.iadd (q := 176) dX6_nextToken_175 ?_ rfl
          refine J.putI (ci := 6) (k0 := 13) (kz := 13) (q := 179) dX6_nextToken_176 kF_X6_199 rfl (by decide) (by decide) rfl rfl rfl ?_ rfl
          refine J.goto (tgt := 98) dX6_nextToken_179 rfl ?_
          rw [hst] at hV
          refine ih (e + 1) _ _ (by omega) (by omega) (by rw [← hst]; exact stW_r hv (by omega)) ((hL.up (by omega)).up (by omega)) ?_ ?_ ?_ ?_ hE hV
          · simp (disch := decide) only [u61s, u61n, e11]
          · simp (disch := decide) only [u61s, u61n, e12]
          · simp (disch := decide) only [u61s, u61n, e13]
          · simp (disch := decide) only [u61s, u61n, e14]

set_option maxRecDepth 100000 in
set_option maxHeartbeats 4000000 in
theorem nextToken_num {l : Launch} {F : Nat × (Int → Int)} {iv : Mm} (hA : AI iv) {B E K V : Int} (hK : K = (if 999 < V then 4 else 2)) : ∀ (n : Nat) (e v : Int) (iv1 : Mm), (iv 61 10 - e < n) → (0 ≤ e ∧ e ≤ iv 61 10) → (0 ≤ v ∧ v ≤ 300000000000000) → (Tw iv iv1) → (True) → (iv1 61 12 = B) → (iv1 61 13 = e) → (iv1 61 14 = v) → (runN (dgt (iv 70)) (iv 61 10 - e).toNat e = E) → (fldT stN (dgt (iv 70)) (iv 70) (iv 61 10 - e).toNat e v = V) → J l (yX6_nextToken).cls cX6_nextToken 1 none 2 0 0 false F (fun v S iv2 => v = none ∧ S = S0 ∧ Tw iv iv2 ∧ iv2 61 12 = B ∧ iv2 61 13 = E ∧ iv2 61 11 = K ∧ iv2 61 14 = V) 0 0 197 [some (r_ 61)] [] S0 (iv1) := by
  intro n
  induction n with
  | zero =>
    intro e v iv1 hn he hv hL e11 e12 e13 e14 hE hV
    omega
  | succ n ih =>
    intro e v iv1 hn he hv hL e11 e12 e13 e14 hE hV
    have htp := hA.tp
    have e70 : iv1 70 = iv 70 := hL.1 70 (by decide)
    have e10 : iv1 61 10 = iv 61 10 := hL.2 10 (by omega)
    refine J.aload_n (q := 198) dX6_nextToken_197 rfl ?_ rfl
    refine J.getI (ci := 6) (k0 := 13) (kz := 13) (q := 201) dX6_nextToken_198 kF_X6_199 rfl (by decide) (by decide) rfl (.inl rfl) ?_ rfl
    (try simp (disch := decide) only [u61s, u61n, u61o, e10, e12, e13, e14, e70])
    refine J.aload_n (q := 202) dX6_nextToken_201 rfl ?_ rfl
    refine J.getI (ci := 6) (k0 := 10) (kz := 10) (q := 205) dX6_nextToken_202 kF_X6_195 rfl (by decide) (by decide) rfl (.inl rfl) ?_ rfl
    (try simp (disch := decide) only [u61s, u61n, u61o, e10, e12, e13, e14, e70])
    refine J.icmp_ge (tgt := 281) (q := 208) (hv := by omega) dX6_nextToken_205 rfl rfl (fun c205 => ?_) (fun c205 => ?_)
    · have he9 : iv 61 10 - e = 0 := by omega
      rw [he9] at hE hV
      have hE : e = E := hE
      have hV : v = V := hV
      refine J.aload_n (q := 282) dX6_nextToken_281 rfl ?_ rfl
      refine J.aload_n (q := 283) dX6_nextToken_282 rfl ?_ rfl
      refine J.getL (ci := 6) (k0 := 14) (kz := 14) (q := 286) dX6_nextToken_283 kF_X6_205 rfl (by decide) (by decide) rfl rfl ?_ rfl
      (try simp (disch := decide) only [u61s, u61n, u61o, e10, e12, e13, e14, e70])
      refine J.ldc2 (q := 289) (z := 999) dX6_nextToken_286 kK_X6_224 ?_ rfl
      have hvV : v = V := hV
      rw [hvV]
      refine J.lcmp (q := 290) (z := cmpZ V 999) dX6_nextToken_289 (I6_cmp (x := V) (y := 999) (by omega) (by omega)) ?_ rfl
      refine J.if_le (tgt := 297) (q := 293) (hv := by have := cmpZ_r V 999; omega) dX6_nextToken_290 rfl rfl (fun c290 => ?_) (fun c290 => ?_)
      · have hvl := cmpZ_le.mp c290
        rw [if_neg (by omega)] at hK
        refine J.iconst (q := 298) dX6_nextToken_297 ?_ rfl
        refine J.putI (ci := 6) (k0 := 11) (kz := 11) (q := 301) dX6_nextToken_298 kF_X6_209 rfl (by decide) (by decide) rfl rfl rfl ?_ rfl
        refine J.goto (tgt := 337) dX6_nextToken_301 rfl ?_
        refine J.vreturn dX6_nextToken_337 rfl ?_
        refine ⟨rfl, rfl, hL.up (by omega), ?_, ?_, ?_, ?_⟩ <;> simp (disch := decide) only [u61s, u61n] <;> first | exact e12 | exact e13.trans hE | exact e14.trans hvV | exact hK.symm
      · have hvl : ¬ V ≤ 999 := fun q => by have := cmpZ_le.mpr q; omega
        rw [if_pos (by omega)] at hK
        refine J.iconst (q := 294) dX6_nextToken_293 ?_ rfl
        refine J.goto (tgt := 298) dX6_nextToken_294 rfl ?_
        refine J.putI (ci := 6) (k0 := 11) (kz := 11) (q := 301) dX6_nextToken_298 kF_X6_209 rfl (by decide) (by decide) rfl rfl rfl ?_ rfl
        refine J.goto (tgt := 337) dX6_nextToken_301 rfl ?_
        refine J.vreturn dX6_nextToken_337 rfl ?_
        refine ⟨rfl, rfl, hL.up (by omega), ?_, ?_, ?_, ?_⟩ <;> simp (disch := decide) only [u61s, u61n] <;> first | exact e12 | exact e13.trans hE | exact e14.trans hvV | exact hK.symm
    · rw [show (iv 61 10 - e).toNat = (iv 61 10 - (e + 1)).toNat + 1 by omega, runN] at hE
      rw [show (iv 61 10 - e).toNat = (iv 61 10 - (e + 1)).toNat + 1 by omega, fldT] at hV
      have hby := hA.by e (by omega) (by omega)
      refine J.aload_n (q := 209) dX6_nextToken_208 rfl ?_ rfl
      refine J.getR (ci := 6) (k0 := 9) (c1 := 70) (q := 212) dX6_nextToken_209 kF_X6_35 rfl (by decide) (by decide) rfl (by decide) rfl ?_ rfl
      (try simp (disch := decide) only [u61s, u61n, u61o, e10, e12, e13, e14, e70])
      refine J.aload_n (q := 213) dX6_nextToken_212 rfl ?_ rfl
      refine J.getI (ci := 6) (k0 := 13) (kz := 13) (q := 216) dX6_nextToken_213 kF_X6_199 rfl (by decide) (by decide) rfl (.inl rfl) ?_ rfl
      (try simp (disch := decide) only [u61s, u61n, u61o, e10, e12, e13, e14, e70])
      refine J.iald (n := 120) (q := 217) dX6_nextToken_216 rfl (by omega) ?_ rfl
      (try simp (disch := decide) only [u61s, u61n, u61o, e10, e12, e13, e14, e70])
      refine J.callS1i (q := 220) dX6_nextToken_217 mv_X6_isDigit kS_X6_isDigit kL_X6_221 ⟨by decide, by decide⟩ (Nat.le_of_ble_eq_true rfl) ⟨by decide, by decide⟩ rfl (c_X6_isDigit (by omega)) ?_
      (try simp (disch := decide) only [u61s, u61n, u61o, e10, e12, e13, e14, e70])
      refine J.ifb_eq (tgt := 281) (q := 223) dX6_nextToken_220 rfl rfl (fun c220 => ?_) (fun c220 => ?_)
      · have hpi : ¬ dgt (iv 70) e = true := fun q => c220 (of_decide_eq_true q)
        rw [if_neg hpi] at hE hV
        refine J.aload_n (q := 282) dX6_nextToken_281 rfl ?_ rfl
        refine J.aload_n (q := 283) dX6_nextToken_282 rfl ?_ rfl
        refine J.getL (ci := 6) (k0 := 14) (kz := 14) (q := 286) dX6_nextToken_283 kF_X6_205 rfl (by decide) (by decide) rfl rfl ?_ rfl
        (try simp (disch := decide) only [u61s, u61n, u61o, e10, e12, e13, e14, e70])
        refine J.ldc2 (q := 289) (z := 999) dX6_nextToken_286 kK_X6_224 ?_ rfl
        have hvV : v = V := hV
        rw [hvV]
        refine J.lcmp (q := 290) (z := cmpZ V 999) dX6_nextToken_289 (I6_cmp (x := V) (y := 999) (by omega) (by omega)) ?_ rfl
        refine J.if_le (tgt := 297) (q := 293) (hv := by have := cmpZ_r V 999; omega) dX6_nextToken_290 rfl rfl (fun c290 => ?_) (fun c290 => ?_)
        · have hvl := cmpZ_le.mp c290
          rw [if_neg (by omega)] at hK
          refine J.iconst (q := 298) dX6_nextToken_297 ?_ rfl
          refine J.putI (ci := 6) (k0 := 11) (kz := 11) (q := 301) dX6_nextToken_298 kF_X6_209 rfl (by decide) (by decide) rfl rfl rfl ?_ rfl
          refine J.goto (tgt := 337) dX6_nextToken_301 rfl ?_
          refine J.vreturn dX6_nextToken_337 rfl ?_
          refine ⟨rfl, rfl, hL.up (by omega), ?_, ?_, ?_, ?_⟩ <;> simp (disch := decide) only [u61s, u61n] <;> first | exact e12 | exact e13.trans hE | exact e14.trans hvV | exact hK.symm
        · have hvl : ¬ V ≤ 999 := fun q => by have := cmpZ_le.mpr q; omega
          rw [if_pos (by omega)] at hK
          refine J.iconst (q := 294) dX6_nextToken_293 ?_ rfl
          refine J.goto (tgt := 298) dX6_nextToken_294 rfl ?_
          refine J.putI (ci := 6) (k0 := 11) (kz := 11) (q := 301) dX6_nextToken_298 kF_X6_209 rfl (by decide) (by decide) rfl rfl rfl ?_ rfl
          refine J.goto (tgt := 337) dX6_nextToken_301 rfl ?_
          refine J.vreturn dX6_nextToken_337 rfl ?_
          refine ⟨rfl, rfl, hL.up (by omega), ?_, ?_, ?_, ?_⟩ <;> simp (disch := decide) only [u61s, u61n] <;> first | exact e12 | exact e13.trans hE | exact e14.trans hvV | exact hK.symm
      · have hpi : dgt (iv 70) e = true := decide_eq_true (by omega)
        rw [if_pos hpi] at hE hV
        refine J.aload_n (q := 224) dX6_nextToken_223 rfl ?_ rfl
        refine J.aload_n (q := 225) dX6_nextToken_224 rfl ?_ rfl
        refine J.getL (ci := 6) (k0 := 14) (kz := 14) (q := 228) dX6_nextToken_225 kF_X6_205 rfl (by decide) (by decide) rfl rfl ?_ rfl
        (try simp (disch := decide) only [u61s, u61n, u61o, e10, e12, e13, e14, e70])
        refine J.ldc2 (q := 231) (z := 999) dX6_nextToken_228 kK_X6_224 ?_ rfl
        refine J.lcmp (q := 232) (z := cmpZ v 999) dX6_nextToken_231 (I6_cmp (x := v) (y := 999) (by omega) (by omega)) ?_ rfl
        refine J.if_le (tgt := 242) (q := 235) (hv := by have := cmpZ_r v 999; omega) dX6_nextToken_232 rfl rfl (fun c232 => ?_) (fun c232 => ?_)
        · have hvl := cmpZ_le.mp c232
          have hst : stN v (iv 70 e) = v * 10 + iv 70 e - 48 := if_neg (by omega)
          refine J.aload_n (q := 243) dX6_nextToken_242 rfl ?_ rfl
          refine J.getL (ci := 6) (k0 := 14) (kz := 14) (q := 246) dX6_nextToken_243 kF_X6_205 rfl (by decide) (by decide) rfl rfl ?_ rfl
          (try simp (disch := decide) only [u61s, u61n, u61o, e10, e12, e13, e14, e70])
          refine J.ldc2 (q := 249) (z := 10) dX6_nextToken_246 kK_X6_226 ?_ rfl
          refine J.lmul (q := 250) dX6_nextToken_249 ?_ rfl
          refine J.aload_n (q := 251) dX6_nextToken_250 rfl ?_ rfl
          refine J.getR (ci := 6) (k0 := 9) (c1 := 70) (q := 254) dX6_nextToken_251 kF_X6_35 rfl (by decide) (by decide) rfl (by decide) rfl ?_ rfl
          (try simp (disch := decide) only [u61s, u61n, u61o, e10, e12, e13, e14, e70])
          refine J.aload_n (q := 255) dX6_nextToken_254 rfl ?_ rfl
          refine J.getI (ci := 6) (k0 := 13) (kz := 13) (q := 258) dX6_nextToken_255 kF_X6_199 rfl (by decide) (by decide) rfl (.inl rfl) ?_ rfl
          (try simp (disch := decide) only [u61s, u61n, u61o, e10, e12, e13, e14, e70])
          refine J.iald (n := 120) (q := 259) dX6_nextToken_258 rfl (by omega) ?_ rfl
          (try simp (disch := decide) only [u61s, u61n, u61o, e10, e12, e13, e14, e70])
          refine J.i2l (q := 260) (z := iv 70 e) dX6_nextToken_259 (I6_i2l (by omega)) ?_ rfl
          refine J.ladd (q := 261) dX6_nextToken_260 ?_ rfl
          refine J.ldc2 (q := 264) (z := 48) dX6_nextToken_261 kK_X6_228 ?_ rfl
          refine J.lsub (q := 265) dX6_nextToken_264 ?_ rfl
          refine J.putL (ci := 6) (k0 := 14) (kz := 14) (q := 268) dX6_nextToken_265 kF_X6_205 rfl (by decide) (by decide) rfl rfl rfl ?_ rfl
          refine J.aload_n (q := 269) dX6_nextToken_268 rfl ?_ rfl
          refine J.dup (q := 270) dX6_nextToken_269 rfl ?_ rfl
          refine J.getI (ci := 6) (k0 := 13) (kz := 13) (q := 273) dX6_nextToken_270 kF_X6_199 rfl (by decide) (by decide) rfl (.inl rfl) ?_ rfl
          (try simp (disch := decide) only [u61s, u61n, u61o, e10, e12, e13, e14, e70])
          refine J.iconst (q := 274) dX6_nextToken_273 ?_ rfl
          refine J.iadd (q := 275) dX6_nextToken_274 ?_ rfl
          refine J.putI (ci := 6) (k0 := 13) (kz := 13) (q := 278) dX6_nextToken_275 kF_X6_199 rfl (by decide) (by decide) rfl rfl rfl ?_ rfl
          refine J.goto (tgt := 197) dX6_nextToken_278 rfl ?_
          rw [hst] at hV
          refine ih (e + 1) _ _ (by omega) (by omega) (by rw [← hst]; exact stN_r hv (by omega)) ((hL.up (by omega)).up (by omega)) ?_ ?_ ?_ ?_ hE hV
          · trivial
          · simp (disch := decide) only [u61s, u61n, e12]
          · simp (disch := decide) only [u61s, u61n, e13]
          · simp (disch := decide) only [u61s, u61n, e14]
        · have hvl : ¬ v ≤ 999 := fun q => by have := cmpZ_le.mpr q; omega
          have hst : stN v (iv 70 e) = v := if_pos (by omega)
          refine J.aload_n (q := 236) dX6_nextToken_235 rfl ?_ rfl
          refine J.getL (ci := 6) (k0 := 14) (kz := 14) (q := 239) dX6_nextToken_236 kF_X6_205 rfl (by decide) (by decide) rfl rfl ?_ rfl
          (try simp (disch := decide) only [u61s, u61n, u61o, e10, e12, e13, e14, e70])
          refine J.goto (tgt := 265) dX6_nextToken_239 rfl ?_
          refine J.putL (ci := 6) (k0 := 14) (kz := 14) (q := 268) dX6_nextToken_265 kF_X6_205 rfl (by decide) (by decide) rfl rfl rfl ?_ rfl
          refine J.aload_n (q := 269) dX6_nextToken_268 rfl ?_ rfl
          refine J.dup (q := 270) dX6_nextToken_269 rfl ?_ rfl
          refine J.getI (ci := 6) (k0 := 13) (kz := 13) (q := 273) dX6_nextToken_270 kF_X6_199 rfl (by decide) (by decide) rfl (.inl rfl) ?_ rfl
          (try simp (disch := decide) only [u61s, u61n, u61o, e10, e12, e13, e14, e70])
          refine J.iconst (q := 274) dX6_nextToken_273 ?_ rfl
          refine J.iadd (q := 275) dX6_nextToken_274 ?_ rfl
          refine J.putI (ci := 6) (k0 := 13) (kz := 13) (q := 278) dX6_nextToken_275 kF_X6_199 rfl (by decide) (by decide) rfl rfl rfl ?_ rfl
          refine J.goto (tgt := 197) dX6_nextToken_278 rfl ?_
          rw [hst] at hV
          refine ih (e + 1) _ _ (by omega) (by omega) (by rw [← hst]; exact stN_r hv (by omega)) ((hL.up (by omega)).up (by omega)) ?_ ?_ ?_ ?_ hE hV
          · trivial
          · simp (disch := decide) only [u61s, u61n, e12]
          · simp (disch := decide) only [u61s, u61n, e13]
          · simp (disch := decide) only [u61s, u61n, e14]

set_option maxRecDepth 100000 in
set_option maxHeartbeats 4000000 in
theorem nextToken_loop {l : Launch} {F : Nat × (Int → Int)} {iv : Mm} (hA : AI iv) {B E K V : Int} (hE : E = tE' (iv 70) (iv 61 10) B) (hV : V = tV' (iv 70) (iv 61 10) B) (hK : K = tK' (iv 70) (iv 61 10) B) : ∀ (n : Nat) (p : Int) (iv1 : Mm), (iv 61 10 - p < n) → (0 ≤ p ∧ p ≤ iv 61 10) → (Tw iv iv1) → (iv1 61 12 = p) → (runN (blk (iv 70)) (iv 61 10 - p).toNat p = B) → J l (yX6_nextToken).cls cX6_nextToken 1 none 2 0 0 false F (fun v S iv2 => v = none ∧ S = S0 ∧ Tw iv iv2 ∧ iv2 61 12 = B ∧ iv2 61 13 = E ∧ iv2 61 11 = K ∧ iv2 61 14 = V) 0 0 8 [some (r_ 61)] [] S0 (iv1) := by
  intro n
  induction n with
  | zero =>
    intro p iv1 hn hp hL e12 hB
    omega
  | succ n ih =>
    intro p iv1 hn hp hL e12 hB
    have htp := hA.tp
    have e70 : iv1 70 = iv 70 := hL.1 70 (by decide)
    have e10 : iv1 61 10 = iv 61 10 := hL.2 10 (by omega)
    have e13 : True := trivial
    have e14 : True := trivial
    refine J.aload_n (q := 9) dX6_nextToken_8 rfl ?_ rfl
    refine J.getI (ci := 6) (k0 := 12) (kz := 12) (q := 12) dX6_nextToken_9 kF_X6_202 rfl (by decide) (by decide) rfl (.inl rfl) ?_ rfl
    (try simp (disch := decide) only [u61s, u61n, u61o, e10, e12, e13, e14, e70])
    refine J.aload_n (q := 13) dX6_nextToken_12 rfl ?_ rfl
    refine J.getI (ci := 6) (k0 := 10) (kz := 10) (q := 16) dX6_nextToken_13 kF_X6_195 rfl (by decide) (by decide) rfl (.inl rfl) ?_ rfl
    (try simp (disch := decide) only [u61s, u61n, u61o, e10, e12, e13, e14, e70])
    refine J.icmp_ge (tgt := 46) (q := 19) (hv := by omega) dX6_nextToken_16 rfl rfl (fun c16 => ?_) (fun c16 => ?_)
    · have hp9 : iv 61 10 - p = 0 := by omega
      rw [hp9] at hB
      have hBp : p = B := hB
      subst hBp
      have hpz : p = iv 61 10 := by omega
      rw [tE', if_pos hpz] at hE
      rw [tV', if_pos hpz] at hV
      rw [tK', if_pos hpz] at hK
      refine J.aload_n (q := 47) dX6_nextToken_46 rfl ?_ rfl
      refine J.aload_n (q := 48) dX6_nextToken_47 rfl ?_ rfl
      refine J.getI (ci := 6) (k0 := 12) (kz := 12) (q := 51) dX6_nextToken_48 kF_X6_202 rfl (by decide) (by decide) rfl (.inl rfl) ?_ rfl
      (try simp (disch := decide) only [u61s, u61n, u61o, e10, e12, e13, e14, e70])
      refine J.putI (ci := 6) (k0 := 13) (kz := 13) (q := 54) dX6_nextToken_51 kF_X6_199 rfl (by decide) (by decide) rfl rfl rfl ?_ rfl
      refine J.aload_n (q := 55) dX6_nextToken_54 rfl ?_ rfl
      refine J.lconst (q := 56) (z := 0) dX6_nextToken_55 rfl ?_ rfl
      refine J.putL (ci := 6) (k0 := 14) (kz := 14) (q := 59) dX6_nextToken_56 kF_X6_205 rfl (by decide) (by decide) rfl rfl rfl ?_ rfl
      refine J.aload_n (q := 60) dX6_nextToken_59 rfl ?_ rfl
      refine J.getI (ci := 6) (k0 := 12) (kz := 12) (q := 63) dX6_nextToken_60 kF_X6_202 rfl (by decide) (by decide) rfl (.inl rfl) ?_ rfl
      (try simp (disch := decide) only [u61s, u61n, u61o, e10, e12, e13, e14, e70])
      refine J.aload_n (q := 64) dX6_nextToken_63 rfl ?_ rfl
      refine J.getI (ci := 6) (k0 := 10) (kz := 10) (q := 67) dX6_nextToken_64 kF_X6_195 rfl (by decide) (by decide) rfl (.inl rfl) ?_ rfl
      (try simp (disch := decide) only [u61s, u61n, u61o, e10, e12, e13, e14, e70])
      refine J.icmp_ne (tgt := 78) (q := 70) (hv := by omega) dX6_nextToken_67 rfl rfl (fun c67 => ?_) (fun c67 => ?_)
      · refine J.aload_n (q := 79) dX6_nextToken_78 rfl ?_ rfl
        refine J.getR (ci := 6) (k0 := 9) (c1 := 70) (q := 82) dX6_nextToken_79 kF_X6_35 rfl (by decide) (by decide) rfl (by decide) rfl ?_ rfl
        (try simp (disch := decide) only [u61s, u61n, u61o, e10, e12, e13, e14, e70])
        refine J.aload_n (q := 83) dX6_nextToken_82 rfl ?_ rfl
        refine J.getI (ci := 6) (k0 := 12) (kz := 12) (q := 86) dX6_nextToken_83 kF_X6_202 rfl (by decide) (by decide) rfl (.inl rfl) ?_ rfl
        (try simp (disch := decide) only [u61s, u61n, u61o, e10, e12, e13, e14, e70])
        refine J.iald (n := 120) (q := 87) dX6_nextToken_86 rfl (by omega) ?_ rfl
        (try simp (disch := decide) only [u61s, u61n, u61o, e10, e12, e13, e14, e70])
        refine J.callS1i (q := 90) dX6_nextToken_87 mv_X6_isLetter kS_X6_isLetter kL_X6_212 ⟨by decide, by decide⟩ (Nat.le_of_ble_eq_true rfl) ⟨by decide, by decide⟩ rfl (c_X6_isLetter (by omega)) ?_
        (try simp (disch := decide) only [u61s, u61n, u61o, e10, e12, e13, e14, e70])
        refine J.ifb_eq (tgt := 182) (q := 93) dX6_nextToken_90 rfl rfl (fun c90 => ?_) (fun c90 => ?_)
        · have hpl : ¬ ltr (iv 70) p = true := fun q => c90 (of_decide_eq_true q)
          (try rw [if_neg hpl] at hE hV hK)
          refine J.aload_n (q := 183) dX6_nextToken_182 rfl ?_ rfl
          refine J.getR (ci := 6) (k0 := 9) (c1 := 70) (q := 186) dX6_nextToken_183 kF_X6_35 rfl (by decide) (by decide) rfl (by decide) rfl ?_ rfl
          (try simp (disch := decide) only [u61s, u61n, u61o, e10, e12, e13, e14, e70])
          refine J.aload_n (q := 187) dX6_nextToken_186 rfl ?_ rfl
          refine J.getI (ci := 6) (k0 := 12) (kz := 12) (q := 190) dX6_nextToken_187 kF_X6_202 rfl (by decide) (by decide) rfl (.inl rfl) ?_ rfl
          (try simp (disch := decide) only [u61s, u61n, u61o, e10, e12, e13, e14, e70])
          refine J.iald (n := 120) (q := 191) dX6_nextToken_190 rfl (by omega) ?_ rfl
          (try simp (disch := decide) only [u61s, u61n, u61o, e10, e12, e13, e14, e70])
          refine J.callS1i (q := 194) dX6_nextToken_191 mv_X6_isDigit kS_X6_isDigit kL_X6_221 ⟨by decide, by decide⟩ (Nat.le_of_ble_eq_true rfl) ⟨by decide, by decide⟩ rfl (c_X6_isDigit (by omega)) ?_
          (try simp (disch := decide) only [u61s, u61n, u61o, e10, e12, e13, e14, e70])
          refine J.ifb_eq (tgt := 304) (q := 197) dX6_nextToken_194 rfl rfl (fun c194 => ?_) (fun c194 => ?_)
          · have hpd : ¬ dgt (iv 70) p = true := fun q => c194 (of_decide_eq_true q)
            (try rw [if_neg hpd] at hE hV hK)
            refine J.aload_n (q := 305) dX6_nextToken_304 rfl ?_ rfl
            refine J.aload_n (q := 306) dX6_nextToken_305 rfl ?_ rfl
            refine J.getR (ci := 6) (k0 := 9) (c1 := 70) (q := 309) dX6_nextToken_306 kF_X6_35 rfl (by decide) (by decide) rfl (by decide) rfl ?_ rfl
            (try simp (disch := decide) only [u61s, u61n, u61o, e10, e12, e13, e14, e70])
            refine J.aload_n (q := 310) dX6_nextToken_309 rfl ?_ rfl
            refine J.getI (ci := 6) (k0 := 12) (kz := 12) (q := 313) dX6_nextToken_310 kF_X6_202 rfl (by decide) (by decide) rfl (.inl rfl) ?_ rfl
            (try simp (disch := decide) only [u61s, u61n, u61o, e10, e12, e13, e14, e70])
            refine J.iald (n := 120) (q := 314) dX6_nextToken_313 rfl (by omega) ?_ rfl
            (try simp (disch := decide) only [u61s, u61n, u61o, e10, e12, e13, e14, e70])
            refine J.bipush (q := 316) dX6_nextToken_314 (by decide) ?_ rfl
            refine J.icmp_ne (tgt := 323) (q := 319) (hv := by omega) dX6_nextToken_316 rfl rfl (fun c316 => ?_) (fun c316 => ?_)
            · (try rw [if_neg c316] at hK)
              refine J.iconst (q := 324) dX6_nextToken_323 ?_ rfl
              refine J.putI (ci := 6) (k0 := 11) (kz := 11) (q := 327) dX6_nextToken_324 kF_X6_209 rfl (by decide) (by decide) rfl rfl rfl ?_ rfl
              refine J.aload_n (q := 328) dX6_nextToken_327 rfl ?_ rfl
              refine J.dup (q := 329) dX6_nextToken_328 rfl ?_ rfl
              refine J.getI (ci := 6) (k0 := 13) (kz := 13) (q := 332) dX6_nextToken_329 kF_X6_199 rfl (by decide) (by decide) rfl (.inl rfl) ?_ rfl
              (try simp (disch := decide) only [u61s, u61n, u61o, e10, e12, e13, e14, e70])
              refine J.iconst (q := 333) dX6_nextToken_332 ?_ rfl
              refine J.iadd (q := 334) dX6_nextToken_333 ?_ rfl
              refine J.putI (ci := 6) (k0 := 13) (kz := 13) (q := 337) dX6_nextToken_334 kF_X6_199 rfl (by decide) (by decide) rfl rfl rfl ?_ rfl
              refine J.vreturn dX6_nextToken_337 rfl ?_
              have hTw : ∀ x y z : Int, Tw iv (up (up (up iv1 61 13 x) 61 14 y) 61 11 z) := fun _ _ _ => ((hL.up (by omega)).up (by omega)).up (by omega)
              first
              | (exfalso; omega)
              | (refine ⟨rfl, rfl, hTw _ _ _, ?_, ?_, ?_, ?_⟩ <;> simp (disch := decide) only [u61s, u61n] <;> first | exact e12 | exact hE.symm | exact hV.symm | exact hK.symm)
              | (refine ⟨rfl, rfl, (hTw _ _ _).up (by omega), ?_, ?_, ?_, ?_⟩ <;> simp (disch := decide) only [u61s, u61n] <;> first | exact e12 | exact hE.symm | exact hV.symm | exact hK.symm)
            · (try rw [if_pos c316] at hK)
              refine J.iconst (q := 320) dX6_nextToken_319 ?_ rfl
              refine J.goto (tgt := 324) dX6_nextToken_320 rfl ?_
              refine J.putI (ci := 6) (k0 := 11) (kz := 11) (q := 327) dX6_nextToken_324 kF_X6_209 rfl (by decide) (by decide) rfl rfl rfl ?_ rfl
              refine J.aload_n (q := 328) dX6_nextToken_327 rfl ?_ rfl
              refine J.dup (q := 329) dX6_nextToken_328 rfl ?_ rfl
              refine J.getI (ci := 6) (k0 := 13) (kz := 13) (q := 332) dX6_nextToken_329 kF_X6_199 rfl (by decide) (by decide) rfl (.inl rfl) ?_ rfl
              (try simp (disch := decide) only [u61s, u61n, u61o, e10, e12, e13, e14, e70])
              refine J.iconst (q := 333) dX6_nextToken_332 ?_ rfl
              refine J.iadd (q := 334) dX6_nextToken_333 ?_ rfl
              refine J.putI (ci := 6) (k0 := 13) (kz := 13) (q := 337) dX6_nextToken_334 kF_X6_199 rfl (by decide) (by decide) rfl rfl rfl ?_ rfl
              refine J.vreturn dX6_nextToken_337 rfl ?_
              have hTw : ∀ x y z : Int, Tw iv (up (up (up iv1 61 13 x) 61 14 y) 61 11 z) := fun _ _ _ => ((hL.up (by omega)).up (by omega)).up (by omega)
              first
              | (exfalso; omega)
              | (refine ⟨rfl, rfl, hTw _ _ _, ?_, ?_, ?_, ?_⟩ <;> simp (disch := decide) only [u61s, u61n] <;> first | exact e12 | exact hE.symm | exact hV.symm | exact hK.symm)
              | (refine ⟨rfl, rfl, (hTw _ _ _).up (by omega), ?_, ?_, ?_, ?_⟩ <;> simp (disch := decide) only [u61s, u61n] <;> first | exact e12 | exact hE.symm | exact hV.symm | exact hK.symm)
          · have hpd : dgt (iv 70) p = true := decide_eq_true c194
            (try rw [if_pos hpd] at hE hV hK)
            first
            | (exfalso; omega)
            | (refine nextToken_num hA (by rw [hK, tV', if_neg hpz, if_neg hpl, if_pos hpd, ← hV]) (iv 61 10 - p + 1).toNat p 0 _ (by omega) (by omega) (by omega) ((hL.up (by omega)).up (by omega)) trivial ?_ ?_ ?_ hE.symm hV.symm <;> simp (disch := decide) only [u61s, u61n, e12])
        · have hpl : ltr (iv 70) p = true := decide_eq_true c90
          (try rw [if_pos hpl] at hE hV hK)
          refine J.aload_n (q := 94) dX6_nextToken_93 rfl ?_ rfl
          refine J.iconst (q := 95) dX6_nextToken_94 ?_ rfl
          refine J.putI (ci := 6) (k0 := 11) (kz := 11) (q := 98) dX6_nextToken_95 kF_X6_209 rfl (by decide) (by decide) rfl rfl rfl ?_ rfl
          first
          | (exfalso; omega)
          | (refine nextToken_word hA hK (iv 61 10 - p + 1).toNat p 0 _ (by omega) (by omega) (by omega) (((hL.up (by omega)).up (by omega)).up (by omega)) ?_ ?_ ?_ ?_ hE.symm hV.symm <;> simp (disch := decide) only [u61s, u61n, e12])
      · refine J.aload_n (q := 71) dX6_nextToken_70 rfl ?_ rfl
        refine J.iconst (q := 72) dX6_nextToken_71 ?_ rfl
        refine J.putI (ci := 6) (k0 := 11) (kz := 11) (q := 75) dX6_nextToken_72 kF_X6_209 rfl (by decide) (by decide) rfl rfl rfl ?_ rfl
        refine J.goto (tgt := 337) dX6_nextToken_75 rfl ?_
        refine J.vreturn dX6_nextToken_337 rfl ?_
        have hTw : ∀ x y z : Int, Tw iv (up (up (up iv1 61 13 x) 61 14 y) 61 11 z) := fun _ _ _ => ((hL.up (by omega)).up (by omega)).up (by omega)
        first
        | (exfalso; omega)
        | (refine ⟨rfl, rfl, hTw _ _ _, ?_, ?_, ?_, ?_⟩ <;> simp (disch := decide) only [u61s, u61n] <;> first | exact e12 | exact hE.symm | exact hV.symm | exact hK.symm)
        | (refine ⟨rfl, rfl, (hTw _ _ _).up (by omega), ?_, ?_, ?_, ?_⟩ <;> simp (disch := decide) only [u61s, u61n] <;> first | exact e12 | exact hE.symm | exact hV.symm | exact hK.symm)
    · rw [show (iv 61 10 - p).toNat = (iv 61 10 - (p + 1)).toNat + 1 by omega, runN] at hB
      have hby := hA.by p (by omega) (by omega)
      refine J.aload_n (q := 20) dX6_nextToken_19 rfl ?_ rfl
      refine J.getR (ci := 6) (k0 := 9) (c1 := 70) (q := 23) dX6_nextToken_20 kF_X6_35 rfl (by decide) (by decide) rfl (by decide) rfl ?_ rfl
      (try simp (disch := decide) only [u61s, u61n, u61o, e10, e12, e13, e14, e70])
      refine J.aload_n (q := 24) dX6_nextToken_23 rfl ?_ rfl
      refine J.getI (ci := 6) (k0 := 12) (kz := 12) (q := 27) dX6_nextToken_24 kF_X6_202 rfl (by decide) (by decide) rfl (.inl rfl) ?_ rfl
      (try simp (disch := decide) only [u61s, u61n, u61o, e10, e12, e13, e14, e70])
      refine J.iald (n := 120) (q := 28) dX6_nextToken_27 rfl (by omega) ?_ rfl
      (try simp (disch := decide) only [u61s, u61n, u61o, e10, e12, e13, e14, e70])
      refine J.bipush (q := 30) dX6_nextToken_28 (by decide) ?_ rfl
      refine J.icmp_ne (tgt := 46) (q := 33) (hv := by omega) dX6_nextToken_30 rfl rfl (fun c30 => ?_) (fun c30 => ?_)
      · have hpi : ¬ blk (iv 70) p = true := fun q => c30 (of_decide_eq_true q)
        rw [if_neg hpi] at hB
        have hBp : p = B := hB
        subst hBp
        have hpz : ¬ p = iv 61 10 := by omega
        rw [tE', if_neg hpz] at hE
        rw [tV', if_neg hpz] at hV
        rw [tK', if_neg hpz] at hK
        refine J.aload_n (q := 47) dX6_nextToken_46 rfl ?_ rfl
        refine J.aload_n (q := 48) dX6_nextToken_47 rfl ?_ rfl
        refine J.getI (ci := 6) (k0 := 12) (kz := 12) (q := 51) dX6_nextToken_48 kF_X6_202 rfl (by decide) (by decide) rfl (.inl rfl) ?_ rfl
        (try simp (disch := decide) only [u61s, u61n, u61o, e10, e12, e13, e14, e70])
        refine J.putI (ci := 6) (k0 := 13) (kz := 13) (q := 54) dX6_nextToken_51 kF_X6_199 rfl (by decide) (by decide) rfl rfl rfl ?_ rfl
        refine J.aload_n (q := 55) dX6_nextToken_54 rfl ?_ rfl
        refine J.lconst (q := 56) (z := 0) dX6_nextToken_55 rfl ?_ rfl
        refine J.putL (ci := 6) (k0 := 14) (kz := 14) (q := 59) dX6_nextToken_56 kF_X6_205 rfl (by decide) (by decide) rfl rfl rfl ?_ rfl
        refine J.aload_n (q := 60) dX6_nextToken_59 rfl ?_ rfl
        refine J.getI (ci := 6) (k0 := 12) (kz := 12) (q := 63) dX6_nextToken_60 kF_X6_202 rfl (by decide) (by decide) rfl (.inl rfl) ?_ rfl
        (try simp (disch := decide) only [u61s, u61n, u61o, e10, e12, e13, e14, e70])
        refine J.aload_n (q := 64) dX6_nextToken_63 rfl ?_ rfl
        refine J.getI (ci := 6) (k0 := 10) (kz := 10) (q := 67) dX6_nextToken_64 kF_X6_195 rfl (by decide) (by decide) rfl (.inl rfl) ?_ rfl
        (try simp (disch := decide) only [u61s, u61n, u61o, e10, e12, e13, e14, e70])
        refine J.icmp_ne (tgt := 78) (q := 70) (hv := by omega) dX6_nextToken_67 rfl rfl (fun c67 => ?_) (fun c67 => ?_)
        · refine J.aload_n (q := 79) dX6_nextToken_78 rfl ?_ rfl
          refine J.getR (ci := 6) (k0 := 9) (c1 := 70) (q := 82) dX6_nextToken_79 kF_X6_35 rfl (by decide) (by decide) rfl (by decide) rfl ?_ rfl
          (try simp (disch := decide) only [u61s, u61n, u61o, e10, e12, e13, e14, e70])
          refine J.aload_n (q := 83) dX6_nextToken_82 rfl ?_ rfl
          refine J.getI (ci := 6) (k0 := 12) (kz := 12) (q := 86) dX6_nextToken_83 kF_X6_202 rfl (by decide) (by decide) rfl (.inl rfl) ?_ rfl
          (try simp (disch := decide) only [u61s, u61n, u61o, e10, e12, e13, e14, e70])
          refine J.iald (n := 120) (q := 87) dX6_nextToken_86 rfl (by omega) ?_ rfl
          (try simp (disch := decide) only [u61s, u61n, u61o, e10, e12, e13, e14, e70])
          refine J.callS1i (q := 90) dX6_nextToken_87 mv_X6_isLetter kS_X6_isLetter kL_X6_212 ⟨by decide, by decide⟩ (Nat.le_of_ble_eq_true rfl) ⟨by decide, by decide⟩ rfl (c_X6_isLetter (by omega)) ?_
          (try simp (disch := decide) only [u61s, u61n, u61o, e10, e12, e13, e14, e70])
          refine J.ifb_eq (tgt := 182) (q := 93) dX6_nextToken_90 rfl rfl (fun c90 => ?_) (fun c90 => ?_)
          · have hpl : ¬ ltr (iv 70) p = true := fun q => c90 (of_decide_eq_true q)
            (try rw [if_neg hpl] at hE hV hK)
            refine J.aload_n (q := 183) dX6_nextToken_182 rfl ?_ rfl
            refine J.getR (ci := 6) (k0 := 9) (c1 := 70) (q := 186) dX6_nextToken_183 kF_X6_35 rfl (by decide) (by decide) rfl (by decide) rfl ?_ rfl
            (try simp (disch := decide) only [u61s, u61n, u61o, e10, e12, e13, e14, e70])
            refine J.aload_n (q := 187) dX6_nextToken_186 rfl ?_ rfl
            refine J.getI (ci := 6) (k0 := 12) (kz := 12) (q := 190) dX6_nextToken_187 kF_X6_202 rfl (by decide) (by decide) rfl (.inl rfl) ?_ rfl
            (try simp (disch := decide) only [u61s, u61n, u61o, e10, e12, e13, e14, e70])
            refine J.iald (n := 120) (q := 191) dX6_nextToken_190 rfl (by omega) ?_ rfl
            (try simp (disch := decide) only [u61s, u61n, u61o, e10, e12, e13, e14, e70])
            refine J.callS1i (q := 194) dX6_nextToken_191 mv_X6_isDigit kS_X6_isDigit kL_X6_221 ⟨by decide, by decide⟩ (Nat.le_of_ble_eq_true rfl) ⟨by decide, by decide⟩ rfl (c_X6_isDigit (by omega)) ?_
            (try simp (disch := decide) only [u61s, u61n, u61o, e10, e12, e13, e14, e70])
            refine J.ifb_eq (tgt := 304) (q := 197) dX6_nextToken_194 rfl rfl (fun c194 => ?_) (fun c194 => ?_)
            · have hpd : ¬ dgt (iv 70) p = true := fun q => c194 (of_decide_eq_true q)
              (try rw [if_neg hpd] at hE hV hK)
              refine J.aload_n (q := 305) dX6_nextToken_304 rfl ?_ rfl
              refine J.aload_n (q := 306) dX6_nextToken_305 rfl ?_ rfl
              refine J.getR (ci := 6) (k0 := 9) (c1 := 70) (q := 309) dX6_nextToken_306 kF_X6_35 rfl (by decide) (by decide) rfl (by decide) rfl ?_ rfl
              (try simp (disch := decide) only [u61s, u61n, u61o, e10, e12, e13, e14, e70])
              refine J.aload_n (q := 310) dX6_nextToken_309 rfl ?_ rfl
              refine J.getI (ci := 6) (k0 := 12) (kz := 12) (q := 313) dX6_nextToken_310 kF_X6_202 rfl (by decide) (by decide) rfl (.inl rfl) ?_ rfl
              (try simp (disch := decide) only [u61s, u61n, u61o, e10, e12, e13, e14, e70])
              refine J.iald (n := 120) (q := 314) dX6_nextToken_313 rfl (by omega) ?_ rfl
              (try simp (disch := decide) only [u61s, u61n, u61o, e10, e12, e13, e14, e70])
              refine J.bipush (q := 316) dX6_nextToken_314 (by decide) ?_ rfl
              refine J.icmp_ne (tgt := 323) (q := 319) (hv := by omega) dX6_nextToken_316 rfl rfl (fun c316 => ?_) (fun c316 => ?_)
              · (try rw [if_neg c316] at hK)
                refine J.iconst (q := 324) dX6_nextToken_323 ?_ rfl
                refine J.putI (ci := 6) (k0 := 11) (kz := 11) (q := 327) dX6_nextToken_324 kF_X6_209 rfl (by decide) (by decide) rfl rfl rfl ?_ rfl
                refine J.aload_n (q := 328) dX6_nextToken_327 rfl ?_ rfl
                refine J.dup (q := 329) dX6_nextToken_328 rfl ?_ rfl
                refine J.getI (ci := 6) (k0 := 13) (kz := 13) (q := 332) dX6_nextToken_329 kF_X6_199 rfl (by decide) (by decide) rfl (.inl rfl) ?_ rfl
                (try simp (disch := decide) only [u61s, u61n, u61o, e10, e12, e13, e14, e70])
                refine J.iconst (q := 333) dX6_nextToken_332 ?_ rfl
                refine J.iadd (q := 334) dX6_nextToken_333 ?_ rfl
                refine J.putI (ci := 6) (k0 := 13) (kz := 13) (q := 337) dX6_nextToken_334 kF_X6_199 rfl (by decide) (by decide) rfl rfl rfl ?_ rfl
                refine J.vreturn dX6_nextToken_337 rfl ?_
                have hTw : ∀ x y z : Int, Tw iv (up (up (up iv1 61 13 x) 61 14 y) 61 11 z) := fun _ _ _ => ((hL.up (by omega)).up (by omega)).up (by omega)
                first
                | (exfalso; omega)
                | (refine ⟨rfl, rfl, hTw _ _ _, ?_, ?_, ?_, ?_⟩ <;> simp (disch := decide) only [u61s, u61n] <;> first | exact e12 | exact hE.symm | exact hV.symm | exact hK.symm)
                | (refine ⟨rfl, rfl, (hTw _ _ _).up (by omega), ?_, ?_, ?_, ?_⟩ <;> simp (disch := decide) only [u61s, u61n] <;> first | exact e12 | exact hE.symm | exact hV.symm | exact hK.symm)
              · (try rw [if_pos c316] at hK)
                refine J.iconst (q := 320) dX6_nextToken_319 ?_ rfl
                refine J.goto (tgt := 324) dX6_nextToken_320 rfl ?_
                refine J.putI (ci := 6) (k0 := 11) (kz := 11) (q := 327) dX6_nextToken_324 kF_X6_209 rfl (by decide) (by decide) rfl rfl rfl ?_ rfl
                refine J.aload_n (q := 328) dX6_nextToken_327 rfl ?_ rfl
                refine J.dup (q := 329) dX6_nextToken_328 rfl ?_ rfl
                refine J.getI (ci := 6) (k0 := 13) (kz := 13) (q := 332) dX6_nextToken_329 kF_X6_199 rfl (by decide) (by decide) rfl (.inl rfl) ?_ rfl
                (try simp (disch := decide) only [u61s, u61n, u61o, e10, e12, e13, e14, e70])
                refine J.iconst (q := 333) dX6_nextToken_332 ?_ rfl
                refine J.iadd (q := 334) dX6_nextToken_333 ?_ rfl
                refine J.putI (ci := 6) (k0 := 13) (kz := 13) (q := 337) dX6_nextToken_334 kF_X6_199 rfl (by decide) (by decide) rfl rfl rfl ?_ rfl
                refine J.vreturn dX6_nextToken_337 rfl ?_
                have hTw : ∀ x y z : Int, Tw iv (up (up (up iv1 61 13 x) 61 14 y) 61 11 z) := fun _ _ _ => ((hL.up (by omega)).up (by omega)).up (by omega)
                first
                | (exfalso; omega)
                | (refine ⟨rfl, rfl, hTw _ _ _, ?_, ?_, ?_, ?_⟩ <;> simp (disch := decide) only [u61s, u61n] <;> first | exact e12 | exact hE.symm | exact hV.symm | exact hK.symm)
                | (refine ⟨rfl, rfl, (hTw _ _ _).up (by omega), ?_, ?_, ?_, ?_⟩ <;> simp (disch := decide) only [u61s, u61n] <;> first | exact e12 | exact hE.symm | exact hV.symm | exact hK.symm)
            · have hpd : dgt (iv 70) p = true := decide_eq_true c194
              (try rw [if_pos hpd] at hE hV hK)
              first
              | (exfalso; omega)
              | (refine nextToken_num hA (by rw [hK, tV', if_neg hpz, if_neg hpl, if_pos hpd, ← hV]) (iv 61 10 - p + 1).toNat p 0 _ (by omega) (by omega) (by omega) ((hL.up (by omega)).up (by omega)) trivial ?_ ?_ ?_ hE.symm hV.symm <;> simp (disch := decide) only [u61s, u61n, e12])
          · have hpl : ltr (iv 70) p = true := decide_eq_true c90
            (try rw [if_pos hpl] at hE hV hK)
            refine J.aload_n (q := 94) dX6_nextToken_93 rfl ?_ rfl
            refine J.iconst (q := 95) dX6_nextToken_94 ?_ rfl
            refine J.putI (ci := 6) (k0 := 11) (kz := 11) (q := 98) dX6_nextToken_95 kF_X6_209 rfl (by decide) (by decide) rfl rfl rfl ?_ rfl
            first
            | (exfalso; omega)
            | (refine nextToken_word hA hK (iv 61 10 - p + 1).toNat p 0 _ (by omega) (by omega) (by omega) (((hL.up (by omega)).up (by omega)).up (by omega)) ?_ ?_ ?_ ?_ hE.symm hV.symm <;> simp (disch := decide) only [u61s, u61n, e12])
        · refine J.aload_n (q := 71) dX6_nextToken_70 rfl ?_ rfl
          refine J.iconst (q := 72) dX6_nextToken_71 ?_ rfl
          refine J.putI (ci := 6) (k0 := 11) (kz := 11) (q := 75) dX6_nextToken_72 kF_X6_209 rfl (by decide) (by decide) rfl rfl rfl ?_ rfl
          refine J.goto (tgt := 337) dX6_nextToken_75 rfl ?_
          refine J.vreturn dX6_nextToken_337 rfl ?_
          have hTw : ∀ x y z : Int, Tw iv (up (up (up iv1 61 13 x) 61 14 y) 61 11 z) := fun _ _ _ => ((hL.up (by omega)).up (by omega)).up (by omega)
          first
          | (exfalso; omega)
          | (refine ⟨rfl, rfl, hTw _ _ _, ?_, ?_, ?_, ?_⟩ <;> simp (disch := decide) only [u61s, u61n] <;> first | exact e12 | exact hE.symm | exact hV.symm | exact hK.symm)
          | (refine ⟨rfl, rfl, (hTw _ _ _).up (by omega), ?_, ?_, ?_, ?_⟩ <;> simp (disch := decide) only [u61s, u61n] <;> first | exact e12 | exact hE.symm | exact hV.symm | exact hK.symm)
      · have hpi : blk (iv 70) p = true := decide_eq_true (by omega)
        rw [if_pos hpi] at hB
        refine J.aload_n (q := 34) dX6_nextToken_33 rfl ?_ rfl
        refine J.dup (q := 35) dX6_nextToken_34 rfl ?_ rfl
        refine J.getI (ci := 6) (k0 := 12) (kz := 12) (q := 38) dX6_nextToken_35 kF_X6_202 rfl (by decide) (by decide) rfl (.inl rfl) ?_ rfl
        (try simp (disch := decide) only [u61s, u61n, u61o, e10, e12, e13, e14, e70])
        refine J.iconst (q := 39) dX6_nextToken_38 ?_ rfl
        refine J.iadd (q := 40) dX6_nextToken_39 ?_ rfl
        refine J.putI (ci := 6) (k0 := 12) (kz := 12) (q := 43) dX6_nextToken_40 kF_X6_202 rfl (by decide) (by decide) rfl rfl rfl ?_ rfl
        refine J.goto (tgt := 8) dX6_nextToken_43 rfl ?_
        refine ih (p + 1) _ (by omega) (by omega) (hL.up (by omega)) ?_ hB
        simp (disch := decide) only [u61s, e12]

set_option maxRecDepth 100000 in
set_option maxHeartbeats 4000000 in
theorem c_X6_nextToken {l : Launch} {F : Nat × (Int → Int)} {iv : Mm} (hA : AI iv) (hq : 0 ≤ iv 61 13 ∧ iv 61 13 ≤ iv 61 10) : Ctr l F 2 0 0 yX6_nextToken cX6_nextToken 1 none [r_ 61] S0 (iv) (fun v S iv2 => v = none ∧ S = S0 ∧ Tw iv iv2 ∧ iv2 61 12 = tB (iv 70) (iv 61 10) (iv 61 13) ∧ iv2 61 13 = tE (iv 70) (iv 61 10) (iv 61 13) ∧ iv2 61 11 = tK (iv 70) (iv 61 10) (iv 61 13) ∧ iv2 61 14 = tV (iv 70) (iv 61 10) (iv 61 13)) := by
  refine Ctr.of false (fun h => by cases h) (by decide) rfl (Nat.le_of_ble_eq_true rfl) ?_
  have e10 : True := trivial
  have e12 : True := trivial
  have e13 : True := trivial
  have e14 : True := trivial
  have e70 : True := trivial
  refine J.aload_n (q := 1) dX6_nextToken_0 rfl ?_ rfl
  refine J.aload_n (q := 2) dX6_nextToken_1 rfl ?_ rfl
  refine J.getI (ci := 6) (k0 := 13) (kz := 13) (q := 5) dX6_nextToken_2 kF_X6_199 rfl (by decide) (by decide) rfl (.inl rfl) ?_ rfl
  (try simp (disch := decide) only [u61s, u61n, u61o, e10, e12, e13, e14, e70])
  refine J.putI (ci := 6) (k0 := 12) (kz := 12) (q := 8) dX6_nextToken_5 kF_X6_202 rfl (by decide) (by decide) rfl rfl rfl ?_ rfl
  exact nextToken_loop hA rfl rfl rfl (iv 61 10 - iv 61 13 + 1).toNat (iv 61 13) _ (by omega) hq (Tw.rf.up (by omega)) u61s rfl

