/-! the class: words and numbers of texts (printed by wip/whole/m_c16.py) -/
def pvT (T : Int → Int) (b : Int) : Nat → Int
  | 0 => 0
  | j + 1 => stW (pvT T b j) (T (b + j))
def Ltr (T : Int → Int) (b : Int) (n : Nat) : Prop := ∀ j : Nat, j < n → 97 ≤ T (b + j) ∧ T (b + j) ≤ 122
theorem fldT_pv {T : Int → Int} {p : Int → Bool} {b E : Int} : ∀ (n k : Nat), runN p n (b + k) = E → fldT stW p T n (b + k) (pvT T b k) = pvT T b (E - b).toNat
  | 0, k, h => by
    have h : b + k = E := h
    rw [show (E - b).toNat = k by omega]
    rfl
  | n + 1, k, h => by
    rw [runN] at h
    rw [fldT]
    by_cases hp : p (b + k) = true
    · rw [if_pos hp] at h ⊢
      have e : b + (k : Int) + 1 = b + ((k + 1 : Nat) : Int) := by omega
      rw [e] at h ⊢
      exact fldT_pv n (k + 1) h
    · rw [if_neg hp] at h ⊢
      rw [show (E - b).toNat = k by omega]
theorem p27 {L m : Nat} (hm : m < 9) (h : L ≤ m) : (27 : Int) ^ L ≤ 27 ^ m := by
  have h9 : ∀ m : Nat, m < 9 → ∀ L : Nat, L < 9 → L ≤ m → (27 : Int) ^ L ≤ 27 ^ m := by decide +kernel
  exact h9 m hm L (by omega) h
theorem pv_b {T : Int → Int} {b : Int} : ∀ k : Nat, k < 8 → Ltr T b (k + 1) → 27 ^ k ≤ pvT T b (k + 1) ∧ pvT T b (k + 1) < 27 ^ (k + 1)
  | 0, _, h => by
    have h0 := h 0 (by omega)
    show 27 ^ 0 ≤ stW 0 (T (b + ((0 : Nat) : Int))) ∧ stW 0 (T (b + ((0 : Nat) : Int))) < 27 ^ 1
    unfold stW
    rw [if_neg (by omega)]
    omega
  | k + 1, hk, h => by
    have h1 := pv_b k (by omega) (fun j hj => h j (by omega))
    have h2 := h (k + 1) (by omega)
    have h3 : (27 : Int) ^ (k + 1) ≤ 27 ^ 8 := p27 (by omega) (by omega)
    have h4 : (27 : Int) ^ 8 = 282429536481 := by decide
    rw [pvT]
    unfold stW
    rw [if_neg (by omega)]
    have e1 : (27 : Int) ^ (k + 1) = 27 ^ k * 27 := Int.pow_succ _ _
    have e2 : (27 : Int) ^ (k + 1 + 1) = 27 ^ (k + 1) * 27 := Int.pow_succ _ _
    omega
theorem pv_step {T : Int → Int} {b : Int} {k : Nat} (hk : k < 8) (h : Ltr T b k) : pvT T b (k + 1) = pvT T b k * 27 + T (b + k) - 96 := by
  rw [pvT]
  unfold stW
  rw [if_neg]
  cases k with
  | zero => show ¬ (9999999999999 : Int) < 0; omega
  | succ k =>
    have h1 := pv_b k (by omega) h
    have h3 : (27 : Int) ^ (k + 1) ≤ 27 ^ 8 := p27 (by omega) (by omega)
    have h4 : (27 : Int) ^ 8 = 282429536481 := by decide
    omega
theorem pv_mono {T : Int → Int} {b : Int} : ∀ (n k : Nat), Ltr T b (k + n) → 0 ≤ pvT T b k → pvT T b k ≤ pvT T b (k + n)
  | 0, _, _, _ => Int.le_refl _
  | n + 1, k, h, h0 => by
    have h1 := pv_mono n k (fun j hj => h j (by omega)) h0
    have h2 := h (k + n) (by omega)
    have e : pvT T b (k + (n + 1)) = stW (pvT T b (k + n)) (T (b + ((k + n : Nat) : Int))) := rfl
    rw [e]
    unfold stW
    split <;> omega
theorem pv_let {T S : Int → Int} {b c : Int} : ∀ m : Nat, m ≤ 8 → Ltr T b m → Ltr S c m → pvT T b m = pvT S c m → ∀ j : Nat, j < m → T (b + j) = S (c + j)
  | 0, _, _, _, _, j, hj => by omega
  | m + 1, hm, h1, h2, he, j, hj => by
    have h1' : Ltr T b m := fun j hj => h1 j (by omega)
    have h2' : Ltr S c m := fun j hj => h2 j (by omega)
    rw [pv_step (by omega) h1', pv_step (by omega) h2'] at he
    have d1 := h1 m (by omega)
    have d2 := h2 m (by omega)
    by_cases e : j = m
    · subst e; omega
    · exact pv_let m (by omega) h1' h2' (by omega) j (by omega)
theorem pv_cg {T S : Int → Int} {b c : Int} : ∀ m : Nat, (∀ j : Nat, j < m → T (b + j) = S (c + j)) → pvT T b m = pvT S c m
  | 0, _ => rfl
  | m + 1, h => by rw [pvT, pvT, pv_cg m (fun j hj => h j (by omega)), h m (by omega)]
theorem pv_inj {T S : Int → Int} {b c : Int} {L m : Nat} (hL : 0 < L) (hm : 0 < m ∧ m ≤ 7) (h1 : Ltr T b L) (h2 : Ltr S c m) : pvT T b L = pvT S c m ↔ L = m ∧ ∀ j : Nat, j < m → T (b + j) = S (c + j) := by
  constructor
  · intro he
    obtain ⟨k, rfl⟩ : ∃ k, m = k + 1 := ⟨m - 1, by omega⟩
    have b2 := pv_b k (by omega) h2
    have hlm : L = k + 1 := by
      by_cases h8 : L ≤ 8
      · obtain ⟨l, rfl⟩ : ∃ l, L = l + 1 := ⟨L - 1, by omega⟩
        have b1 := pv_b l (by omega) h1
        by_cases e : l = k
        · omega
        · by_cases e2 : l < k
          · have := p27 (L := l + 1) (m := k) (by omega) (by omega)
            omega
          · have := p27 (L := k + 1) (m := l) (by omega) (by omega)
            omega
      · have b1 := pv_b (T := T) (b := b) 7 (by omega) (fun j hj => h1 j (by omega))
        have b1' : (27 : Int) ^ 7 ≤ pvT T b 8 := b1.1
        have hp7 : (0 : Int) ≤ 27 ^ 7 := by decide
        have b3 := pv_mono (T := T) (b := b) (L - 8) 8 (by rw [show 8 + (L - 8) = L by omega]; exact h1) (by omega)
        rw [show 8 + (L - 8) = L by omega] at b3
        have := p27 (L := k + 1) (m := 7) (by omega) (by omega)
        omega
    subst hlm
    exact ⟨rfl, pv_let _ (by omega) h1 h2 he⟩
  · rintro ⟨rfl, h⟩
    exact pv_cg _ h
/-- the number of the i-th word -/
def Cw (i : Nat) : Int := pvT (fun x => sB i x.toNat) 0 (sLen.getD i 0)
theorem word_eq {T : Int → Int} {z q : Int} {i : Nat} (hi : i < 16) (hb : tB T z q < z) (hk : ltr T (tB T z q) = true) : tV T z q = Cw i ↔ tE T z q - tB T z q = (sLen.getD i 0 : Int) ∧ ∀ j : Nat, j < sLen.getD i 0 → T (tB T z q + j) = sB i j := by
  have hl := sLen_r hi
  obtain ⟨b, hbb⟩ : ∃ b, b = tB T z q := ⟨_, rfl⟩
  have hE : tE T z q = runN (ltr T) (z - b).toNat b := by
    unfold tE tE'
    rw [← hbb, if_neg (by omega), if_pos (by rw [hbb]; exact hk)]
  have hV : tV T z q = fldT stW (ltr T) T (z - b).toNat b 0 := by
    unfold tV tV'
    rw [← hbb, if_neg (by omega), if_pos (by rw [hbb]; exact hk)]
  rw [← hbb] at hb hk ⊢
  have hf := fldT_pv (T := T) (p := ltr T) (b := b) (E := tE T z q) (z - b).toNat 0 (by rw [show b + ((0 : Nat) : Int) = b by omega]; exact hE.symm)
  rw [show b + ((0 : Nat) : Int) = b by omega] at hf
  have hV2 : tV T z q = pvT T b (tE T z q - b).toNat := hV.trans hf
  have hg : b + 1 ≤ tE T z q := by
    rw [hE, show (z - b).toNat = (z - (b + 1)).toNat + 1 by omega, runN, if_pos hk]
    exact (runN_rng (ltr T) _ _).1
  have hL1 : Ltr T b (tE T z q - b).toNat := fun j hj => by
    have := runN_in (p := ltr T) (z - b).toNat b (b + j) (by omega) (by rw [← hE]; omega)
    exact of_decide_eq_true this
  have hL2 : Ltr (fun x => sB i x.toNat) 0 (sLen.getD i 0) := fun j hj => by
    show 97 ≤ sB i (0 + (j : Int)).toNat ∧ sB i (0 + (j : Int)).toNat ≤ 122
    rw [show (0 + (j : Int)).toNat = j by omega]
    exact sB_r hi hj
  rw [hV2]
  unfold Cw
  rw [pv_inj (by omega) ⟨by omega, by omega⟩ hL1 hL2]
  have hs : ∀ j : Nat, (fun x : Int => sB i x.toNat) (0 + (j : Int)) = sB i j := fun j => by
    show sB i (0 + (j : Int)).toNat = sB i j
    rw [show (0 + (j : Int)).toNat = j by omega]
  constructor
  · rintro ⟨h1, h2⟩
    exact ⟨by omega, fun j hj => (h2 j hj).trans (hs j)⟩
  · rintro ⟨h1, h2⟩
    exact ⟨by omega, fun j hj => (h2 j hj).trans (hs j).symm⟩
def Wd (T : Int → Int) (z q : Int) (i : Nat) : Prop := tK T z q = 1 ∧ tV T z q = Cw i
def TSt (iv : Mm) (T : Int → Int) (z : Int) (N : Nat) (q : Int) : Prop := ∃ t : Nat, t ≤ N ∧ iv 50 6 = t ∧ qn T z t = q
def Aw (iv iv2 : Mm) : Prop := (∀ p, p ≠ 50 → iv2 p = iv p) ∧ ∀ j : Int, j ≠ 6 → iv2 50 j = iv 50 j
theorem Aw.rf {iv : Mm} : Aw iv iv := ⟨fun _ _ => rfl, fun _ _ => rfl⟩
theorem Aw.tr {a b c : Mm} (h : Aw a b) (g : Aw b c) : Aw a c := ⟨fun p hp => (g.1 p hp).trans (h.1 p hp), fun j hj => (g.2 j hj).trans (h.2 j hj)⟩
theorem Aw.up {iv : Mm} {x : Int} : Aw iv (up iv 50 6 x) := ⟨fun p hp => up_n _ _ _ hp, fun j hj => by rw [up_s, upr_n _ _ hj]⟩
theorem TA.fr {iv iv2 : Mm} {T : Int → Int} {z : Int} {N : Nat} (h : TA iv T z N) (hf : ∀ q, 52 ≤ q → q ≤ 55 → iv2 q = iv q) : TA iv2 T z N := by
  unfold TA at *
  rw [hf 52 (by omega) (by omega), hf 53 (by omega) (by omega), hf 54 (by omega) (by omega), hf 55 (by omega) (by omega)]
  exact h
/-- what the token now read is -/
theorem tK_s {T : Int → Int} {z q : Int} (hb : tB T z q < z) : (sS T (tB T z q) = 1 ∧ tK T z q = 1 ∧ ltr T (tB T z q) = true) ∨ (sS T (tB T z q) = 2 ∧ tK T z q = 2 ∧ tV T z q ≤ 999) ∨ (sS T (tB T z q) = 2 ∧ tK T z q = 4 ∧ 999 < tV T z q) ∨ (sS T (tB T z q) = 3 ∧ tK T z q = 3) ∨ (sS T (tB T z q) = 4 ∧ tK T z q = 4) := by
  unfold tK tK' sS tV
  rw [if_neg (show ¬ tB T z q = z by omega)]
  by_cases h1 : ltr T (tB T z q) = true
  · rw [if_pos h1, if_pos h1]; exact Or.inl ⟨rfl, rfl, h1⟩
  · rw [if_neg h1, if_neg h1]
    by_cases h2 : dgt T (tB T z q) = true
    · rw [if_pos h2, if_pos h2]
      by_cases h3 : 999 < tV' T z (tB T z q)
      · rw [if_pos h3]; exact Or.inr (Or.inr (Or.inl ⟨rfl, rfl, h3⟩))
      · rw [if_neg h3]; exact Or.inr (Or.inl ⟨rfl, rfl, by omega⟩)
    · rw [if_neg h2, if_neg h2]
      by_cases h3 : T (tB T z q) = 59
      · rw [if_pos h3]; exact Or.inr (Or.inr (Or.inr (Or.inl ⟨rfl, rfl⟩)))
      · rw [if_neg h3]; exact Or.inr (Or.inr (Or.inr (Or.inr ⟨rfl, rfl⟩)))
theorem TA.at {iv : Mm} {T : Int → Int} {z : Int} {N t : Nat} {q : Int} (h : TA iv T z N) (hN : 0 ≤ qn T z N ∧ qn T z N ≤ z) (ht : t ≤ N) (hq : qn T z t = q) : (0 ≤ q ∧ q ≤ z) ∧ iv 53 t = tB T z q ∧ iv 54 t = tE T z q ∧ ((t = N ∧ iv 52 t = 0 ∧ tK T z q = 0) ∨ (t < N ∧ tB T z q < z ∧ iv 52 t = sS T (tB T z q) ∧ (sS T (tB T z q) = 2 → iv 55 t = capN (tV T z q)))) := by
  subst hq
  obtain ⟨h1, h2, h3, h4⟩ := h
  by_cases e : t = N
  · subst e
    refine ⟨hN, by rw [h2]; exact h3.2.1, ?_, Or.inl ⟨rfl, h3.1, ?_⟩⟩
    · unfold tE tE'
      rw [h2, if_pos rfl]; exact h3.2.2
    · unfold tK tK'
      rw [h2, if_pos rfl]
  · obtain ⟨k1, k2, k3, k4, k5⟩ := h4 t (by omega)
    exact ⟨⟨k1.1, k1.2.1⟩, k3, k4, Or.inr ⟨by omega, k1.2.2, k2, k5⟩⟩
set_option maxRecDepth 100000 in
set_option maxHeartbeats 4000000 in
theorem isWord_loop {l : Launch} {F : Nat × (Int → Int)} {iv : Mm} {T : Int → Int} {b : Int} (hT : ∀ j, 0 ≤ j → j < 120 → iv 51 j = T j) (hb : ∀ j, 0 ≤ j → j < 120 → 0 ≤ T j ∧ T j ≤ 255) {i : Nat} (hi16 : i < 16) (hb9 : 0 ≤ b ∧ b + (sLen.getD i 0 : Int) ≤ 120) {P : Prop} [Decidable P] (hP : P ↔ ∀ j : Nat, j < sLen.getD i 0 → T (b + j) = sB i j) : ∀ (n : Nat) (k : Nat), ((sLen.getD i 0 : Int) - k < n) → (k ≤ sLen.getD i 0) → (∀ j : Nat, j < k → T (b + j) = sB i j) → J l (yX3_isWord).cls cX3_isWord 4 (some FieldType.boolean) 4 0 0 false F (Ret (some (i_ (b2 P))) S0 iv) 0 0 45 [some (r_ 50), some (r_ (1100 + i)), some (i_ b), some (i_ (k : Int))] [] S0 (iv) := by
  intro n
  induction n with
  | zero =>
    intro k hn hk hE
    omega
  | succ n ih =>
    intro k hn hk hE
    have hl := sLen_r hi16
    refine J.iload_n (q := 46) dX3_isWord_45 rfl ?_ rfl
    refine J.aload_n (q := 47) dX3_isWord_46 rfl ?_ rfl
    refine J.callW0i (i := i) (q := 50) dX3_isWord_47 mv_J0_length_8abf5 kL_X3_155 hi16 rfl ⟨by decide, by decide⟩ (Nat.le_of_ble_eq_true rfl) ⟨by decide, by decide⟩ rfl (c_slen hi16) ?_
    refine J.icmp_ge (tgt := 77) (q := 53) dX3_isWord_50 rfl rfl (fun c50 => ?_) (fun c50 => ?_)
    · refine J.iconst (q := 78) dX3_isWord_77 ?_ rfl
      refine J.zreturn dX3_isWord_78 rfl (by omega) ?_
      first
      | (rw [b2_t (hP.mpr (fun j hj => hE j (by omega)))]; exact ⟨rfl, rfl, rfl⟩)
      | (rw [b2_f (fun h => absurd (hP.mp h k (by omega)) (by assumption))]; exact ⟨rfl, rfl, rfl⟩)
    · have hbk := hb (b + k) (by omega) (by omega)
      have hsk := sB_r hi16 (j := k) (by omega)
      refine J.aload_n (q := 54) dX3_isWord_53 rfl ?_ rfl
      refine J.getR (ci := 3) (k0 := 1) (c1 := 51) (q := 57) dX3_isWord_54 kF_X3_15 rfl (by decide) (by decide) rfl (by decide) rfl ?_ rfl
      refine J.iload_n (q := 58) dX3_isWord_57 rfl ?_ rfl
      refine J.iload_n (q := 59) dX3_isWord_58 rfl ?_ rfl
      refine J.iadd (q := 60) dX3_isWord_59 ?_ rfl
      refine J.iald (n := 120) (q := 61) dX3_isWord_60 rfl (by omega) ?_ rfl
      rw [hT _ (by omega) (by omega)]
      refine J.aload_n (q := 62) dX3_isWord_61 rfl ?_ rfl
      refine J.iload_n (q := 63) dX3_isWord_62 rfl ?_ rfl
      refine J.callW1i (i := i) (q := 66) dX3_isWord_63 mv_J0_charAt_5068e kL_X3_160 hi16 rfl ⟨by decide, by decide⟩ (Nat.le_of_ble_eq_true rfl) ⟨by decide, by decide⟩ rfl (c_charAt hi16 (x := (k : Int)) (by omega)) ?_
      rw [Int.toNat_natCast]
      refine J.icmp_eq (tgt := 71) (q := 69) (hv := by omega) dX3_isWord_66 rfl rfl (fun c66 => ?_) (fun c66 => ?_)
      · refine J.iinc (q := 74) dX3_isWord_71 rfl ?_ rfl
        refine J.goto (tgt := 45) dX3_isWord_74 rfl ?_
        exact ih (k + 1) (by omega) (by omega) (fun j hj => by
          by_cases e : j = k
          · subst e; exact c66
          · exact hE j (by omega))
      · refine J.iconst (q := 70) dX3_isWord_69 ?_ rfl
        refine J.zreturn dX3_isWord_70 rfl (by omega) ?_
        first
        | (rw [b2_t (hP.mpr (fun j hj => hE j (by omega)))]; exact ⟨rfl, rfl, rfl⟩)
        | (rw [b2_f (fun h => absurd (hP.mp h k (by omega)) (by assumption))]; exact ⟨rfl, rfl, rfl⟩)

theorem Wd_dec (T : Int → Int) (z q : Int) (i : Nat) : True := trivial
abbrev WdP (T : Int → Int) (z q : Int) (i : Nat) : Prop := tK T z q = 1 ∧ tV T z q = Cw i
set_option maxRecDepth 100000 in
set_option maxHeartbeats 4000000 in
theorem c_isWord {l : Launch} {F : Nat × (Int → Int)} {iv : Mm} {T : Int → Int} {z q : Int} {N : Nat} (hT : ∀ j, 0 ≤ j → j < 120 → iv 51 j = T j) (hb : ∀ j, 0 ≤ j → j < 120 → 0 ≤ T j ∧ T j ≤ 255) (hz : 0 ≤ z ∧ z ≤ 120) (hTA : TA iv T z N) (hN9 : 0 ≤ qn T z N ∧ qn T z N ≤ z) (hTS : TSt iv T z N q) {i : Nat} (hi16 : i < 16) : Ctr l F 4 0 0 yX3_isWord cX3_isWord 4 (some FieldType.boolean) [r_ 50, r_ (1100 + i)] S0 (iv) (Ret (some (i_ (b2 (WdP T z q i)))) S0 iv) := by
  refine Ctr.of false (fun h => by cases h) (by decide) rfl (Nat.le_of_ble_eq_true rfl) ?_
  have hNl := hTA.1
  obtain ⟨t, ht, e6, hq⟩ := hTS
  obtain ⟨hq9, e53, e54, hcase⟩ := hTA.at hN9 ht hq
  have hbr := tB_rng (T := T) hq9.2
  have her := tE_rng (T := T) hq9.2
  have hl := sLen_r hi16
  have h52 : 0 ≤ iv 52 t ∧ iv 52 t ≤ 4 := by
    have := sS_r T (tB T z q)
    rcases hcase with h | h <;> omega
  refine J.aload_n (q := 1) dX3_isWord_0 rfl ?_ rfl
  refine J.getR (ci := 3) (k0 := 3) (c1 := 53) (q := 4) dX3_isWord_1 kF_X3_22 rfl (by decide) (by decide) rfl (by decide) rfl ?_ rfl
  refine J.aload_n (q := 5) dX3_isWord_4 rfl ?_ rfl
  refine J.getI (ci := 3) (k0 := 6) (kz := 6) (q := 8) dX3_isWord_5 kF_X3_31 rfl (by decide) (by decide) rfl (.inl rfl) ?_ rfl
  rw [e6]
  refine J.iald (n := 121) (q := 9) dX3_isWord_8 rfl (by omega) ?_ rfl
  rw [e53]
  refine J.istore_n (q := 10) dX3_isWord_9 (Nat.le_of_ble_eq_true rfl) ?_ rfl
  refine J.aload_n (q := 11) dX3_isWord_10 rfl ?_ rfl
  refine J.getR (ci := 3) (k0 := 2) (c1 := 52) (q := 14) dX3_isWord_11 kF_X3_19 rfl (by decide) (by decide) rfl (by decide) rfl ?_ rfl
  refine J.aload_n (q := 15) dX3_isWord_14 rfl ?_ rfl
  refine J.getI (ci := 3) (k0 := 6) (kz := 6) (q := 18) dX3_isWord_15 kF_X3_31 rfl (by decide) (by decide) rfl (.inl rfl) ?_ rfl
  rw [e6]
  refine J.iald (n := 121) (q := 19) dX3_isWord_18 rfl (by omega) ?_ rfl
  refine J.iconst (q := 20) dX3_isWord_19 ?_ rfl
  refine J.icmp_ne (tgt := 41) (q := 23) (hv := by omega) dX3_isWord_20 rfl rfl (fun c20 => ?_) (fun c20 => ?_)
  · have hno : ¬ WdP T z q i := fun h => by
      have hk := h.1
      rcases hcase with g | g
      · omega
      · rcases tK_s g.2.1 with y | y | y | y | y <;> omega
    refine J.iconst (q := 42) dX3_isWord_41 ?_ rfl
    refine J.zreturn dX3_isWord_42 rfl (by omega) ?_
    rw [b2_f hno]; exact ⟨rfl, rfl, rfl⟩
  · have hlt : tB T z q < z := by rcases hcase with g | g <;> omega
    have hkl : tK T z q = 1 ∧ ltr T (tB T z q) = true := by
      rcases hcase with g | g
      · omega
      · rcases tK_s g.2.1 with y | y | y | y | y
        · exact ⟨y.2.1, y.2.2⟩
        · omega
        · omega
        · omega
        · omega
    have hwe := word_eq hi16 hlt hkl.2
    refine J.aload_n (q := 24) dX3_isWord_23 rfl ?_ rfl
    refine J.getR (ci := 3) (k0 := 4) (c1 := 54) (q := 27) dX3_isWord_24 kF_X3_25 rfl (by decide) (by decide) rfl (by decide) rfl ?_ rfl
    refine J.aload_n (q := 28) dX3_isWord_27 rfl ?_ rfl
    refine J.getI (ci := 3) (k0 := 6) (kz := 6) (q := 31) dX3_isWord_28 kF_X3_31 rfl (by decide) (by decide) rfl (.inl rfl) ?_ rfl
    rw [e6]
    refine J.iald (n := 121) (q := 32) dX3_isWord_31 rfl (by omega) ?_ rfl
    rw [e54]
    refine J.iload_n (q := 33) dX3_isWord_32 rfl ?_ rfl
    refine J.isub (q := 34) dX3_isWord_33 ?_ rfl
    refine J.aload_n (q := 35) dX3_isWord_34 rfl ?_ rfl
    refine J.callW0i (i := i) (q := 38) dX3_isWord_35 mv_J0_length_8abf5 kL_X3_155 hi16 rfl ⟨by decide, by decide⟩ (Nat.le_of_ble_eq_true rfl) ⟨by decide, by decide⟩ rfl (c_slen hi16) ?_
    refine J.icmp_eq (tgt := 43) (q := 41) (hv := by omega) dX3_isWord_38 rfl rfl (fun c38 => ?_) (fun c38 => ?_)
    · refine J.iconst (q := 44) dX3_isWord_43 ?_ rfl
      refine J.istore_n (q := 45) dX3_isWord_44 (Nat.le_of_ble_eq_true rfl) ?_ rfl
      exact isWord_loop hT hb hi16 (by omega) (P := WdP T z q i) ⟨fun h => (hwe.mp h.2).2, fun h => ⟨hkl.1, hwe.mpr ⟨c38, h⟩⟩⟩ 8 0 (by omega) (by omega) (fun j hj => by omega)
    · have hno : ¬ WdP T z q i := fun h => c38 (hwe.mp h.2).1
      refine J.iconst (q := 42) dX3_isWord_41 ?_ rfl
      refine J.zreturn dX3_isWord_42 rfl (by omega) ?_
      rw [b2_f hno]; exact ⟨rfl, rfl, rfl⟩

set_option maxRecDepth 100000 in
set_option maxHeartbeats 4000000 in
theorem c_skipWord {l : Launch} {F : Nat × (Int → Int)} {iv : Mm} {T : Int → Int} {z q : Int} {N : Nat} (hT : ∀ j, 0 ≤ j → j < 120 → iv 51 j = T j) (hb : ∀ j, 0 ≤ j → j < 120 → 0 ≤ T j ∧ T j ≤ 255) (hz : 0 ≤ z ∧ z ≤ 120) (hTA : TA iv T z N) (hN9 : 0 ≤ qn T z N ∧ qn T z N ≤ z) (hTS : TSt iv T z N q) {i : Nat} (hi16 : i < 16) : Ctr l F 5 0 0 yX3_skipWord cX3_skipWord 2 (some FieldType.boolean) [r_ 50, r_ (1100 + i)] S0 (iv) (fun v S iv2 => v = some (i_ (b2 (WdP T z q i))) ∧ S = S0 ∧ Aw iv iv2 ∧ TSt iv2 T z N (if WdP T z q i then tE T z q else q)) := by
  refine Ctr.of false (fun h => by cases h) (by decide) rfl (Nat.le_of_ble_eq_true rfl) ?_
  refine J.aload_n (q := 1) dX3_skipWord_0 rfl ?_ rfl
  refine J.aload_n (q := 2) dX3_skipWord_1 rfl ?_ rfl
  refine J.callV1i (ci := 3) (q := 5) dX3_skipWord_2 mv_X3_isWord kL_X3_96 rfl (by decide) rfl ⟨by decide, by decide⟩ (Nat.le_of_ble_eq_true rfl) ⟨by decide, by decide⟩ rfl (c_isWord hT hb hz hTA hN9 hTS hi16) ?_
  obtain ⟨t, ht, e6, hq⟩ := id hTS
  obtain ⟨hq9, e53, e54, hcase⟩ := hTA.at hN9 ht hq
  refine J.ifb_ne (tgt := 10) (q := 8) dX3_skipWord_5 rfl rfl (fun c5 => ?_) (fun c5 => ?_)
  · refine J.aload_n (q := 11) dX3_skipWord_10 rfl ?_ rfl
    refine J.dup (q := 12) dX3_skipWord_11 rfl ?_ rfl
    refine J.getI (ci := 3) (k0 := 6) (kz := 6) (q := 15) dX3_skipWord_12 kF_X3_31 rfl (by decide) (by decide) rfl (.inl rfl) ?_ rfl
    rw [e6]
    refine J.iconst (q := 16) dX3_skipWord_15 ?_ rfl
    refine J.iadd (q := 17) dX3_skipWord_16 ?_ rfl
    refine J.putI (ci := 3) (k0 := 6) (kz := 6) (q := 20) dX3_skipWord_17 kF_X3_31 rfl (by decide) (by decide) rfl rfl rfl ?_ rfl
    refine J.iconst (q := 21) dX3_skipWord_20 ?_ rfl
    refine J.zreturn dX3_skipWord_21 rfl (by omega) ?_
    first
    | (rw [b2_f (by assumption), if_neg (by assumption)]; exact ⟨rfl, rfl, Aw.rf, hTS⟩)
    | (have hkk := c5.1
       rw [b2_t c5, if_pos c5]
       refine ⟨rfl, rfl, Aw.up, t + 1, by omega, by rw [up_s, upr_s]; omega, ?_⟩
       show tE T z (qn T z t) = _
       rw [hq])
  · refine J.iconst (q := 9) dX3_skipWord_8 ?_ rfl
    refine J.zreturn dX3_skipWord_9 rfl (by omega) ?_
    first
    | (rw [b2_f (by assumption), if_neg (by assumption)]; exact ⟨rfl, rfl, Aw.rf, hTS⟩)
    | (have hkk := c5.1
       rw [b2_t c5, if_pos c5]
       refine ⟨rfl, rfl, Aw.up, t + 1, by omega, by rw [up_s, upr_s]; omega, ?_⟩
       show tE T z (qn T z t) = _
       rw [hq])

set_option maxRecDepth 100000 in
set_option maxHeartbeats 4000000 in
theorem c_takeNumber {l : Launch} {F : Nat × (Int → Int)} {iv : Mm} {T : Int → Int} {z q : Int} {N : Nat} (hT : ∀ j, 0 ≤ j → j < 120 → iv 51 j = T j) (hb : ∀ j, 0 ≤ j → j < 120 → 0 ≤ T j ∧ T j ≤ 255) (hz : 0 ≤ z ∧ z ≤ 120) (hTA : TA iv T z N) (hN9 : 0 ≤ qn T z N ∧ qn T z N ≤ z) (hTS : TSt iv T z N q) {m : Int} (hm : 0 ≤ m ∧ m ≤ 255) : Ctr l F 0 0 0 yX3_takeNumber cX3_takeNumber 3 (some FieldType.int) [r_ 50, i_ m] S0 (iv) (fun v S iv2 => v = some (i_ (tkN T z q m)) ∧ S = S0 ∧ Aw iv iv2 ∧ TSt iv2 T z N (tkQ T z q m)) := by
  refine Ctr.of false (fun h => by cases h) (by decide) rfl (Nat.le_of_ble_eq_true rfl) ?_
  have hTS0 := hTS
  have hNl := hTA.1
  obtain ⟨t, ht, e6, hq⟩ := hTS
  obtain ⟨hq9, e53, e54, hcase⟩ := hTA.at hN9 ht hq
  have hbr := tB_rng (T := T) hq9.2
  have her := tE_rng (T := T) hq9.2
  have h52 : 0 ≤ iv 52 t ∧ iv 52 t ≤ 4 := by
    have := sS_r T (tB T z q)
    rcases hcase with h | h <;> omega
  have hvr := tV_rng T z q
  have hcp : (tV T z q ≤ 999 ∧ capN (tV T z q) = tV T z q) ∨ (999 < tV T z q ∧ capN (tV T z q) = 1000) := by
    unfold capN
    split <;> omega
  refine J.aload_n (q := 1) dX3_takeNumber_0 rfl ?_ rfl
  refine J.getR (ci := 3) (k0 := 2) (c1 := 52) (q := 4) dX3_takeNumber_1 kF_X3_19 rfl (by decide) (by decide) rfl (by decide) rfl ?_ rfl
  refine J.aload_n (q := 5) dX3_takeNumber_4 rfl ?_ rfl
  refine J.getI (ci := 3) (k0 := 6) (kz := 6) (q := 8) dX3_takeNumber_5 kF_X3_31 rfl (by decide) (by decide) rfl (.inl rfl) ?_ rfl
  rw [e6]
  refine J.iald (n := 121) (q := 9) dX3_takeNumber_8 rfl (by omega) ?_ rfl
  refine J.iconst (q := 10) dX3_takeNumber_9 ?_ rfl
  refine J.icmp_ne (tgt := 26) (q := 13) (hv := by omega) dX3_takeNumber_10 rfl rfl (fun c10 => ?_) (fun c10 => ?_)
  · have hno : tkN T z q m = -1 := if_neg (fun h => by
      have hk := h.1
      rcases hcase with g | g
      · omega
      · rcases tK_s g.2.1 with y | y | y | y | y <;> omega)
    refine J.iconst (q := 27) dX3_takeNumber_26 ?_ rfl
    refine J.ireturn dX3_takeNumber_27 rfl ?_
    first
    | (rw [tkQ, hno, if_neg (by omega)]; exact ⟨rfl, rfl, Aw.rf, hTS0⟩)
    | (rw [tkQ, hyes, if_pos (by omega)]
       refine ⟨rfl, rfl, Aw.up, t + 1, by omega, by rw [up_s, upr_s]; omega, ?_⟩
       show tE T z (qn T z t) = _
       rw [hq])
  · have hg : t < N ∧ tB T z q < z ∧ sS T (tB T z q) = 2 ∧ iv 55 t = capN (tV T z q) := by
      rcases hcase with g | g
      · omega
      · exact ⟨g.1, g.2.1, by omega, g.2.2.2 (by omega)⟩
    have hk2 : (tK T z q = 2 ∧ tV T z q ≤ 999) ∨ (tK T z q ≠ 2 ∧ 999 < tV T z q) := by rcases tK_s hg.2.1 with y | y | y | y | y <;> omega
    refine J.aload_n (q := 14) dX3_takeNumber_13 rfl ?_ rfl
    refine J.getR (ci := 3) (k0 := 5) (c1 := 55) (q := 17) dX3_takeNumber_14 kF_X3_28 rfl (by decide) (by decide) rfl (by decide) rfl ?_ rfl
    refine J.aload_n (q := 18) dX3_takeNumber_17 rfl ?_ rfl
    refine J.getI (ci := 3) (k0 := 6) (kz := 6) (q := 21) dX3_takeNumber_18 kF_X3_31 rfl (by decide) (by decide) rfl (.inl rfl) ?_ rfl
    rw [e6]
    refine J.iald (n := 121) (q := 22) dX3_takeNumber_21 rfl (by omega) ?_ rfl
    rw [hg.2.2.2]
    refine J.iload_n (q := 23) dX3_takeNumber_22 rfl ?_ rfl
    refine J.icmp_le (tgt := 28) (q := 26) (hv := by omega) dX3_takeNumber_23 rfl rfl (fun c23 => ?_) (fun c23 => ?_)
    · have hyes : tkN T z q m = tV T z q := if_pos (by omega)
      have hcv : capN (tV T z q) = tV T z q := by omega
      refine J.aload_n (q := 29) dX3_takeNumber_28 rfl ?_ rfl
      refine J.getR (ci := 3) (k0 := 5) (c1 := 55) (q := 32) dX3_takeNumber_29 kF_X3_28 rfl (by decide) (by decide) rfl (by decide) rfl ?_ rfl
      refine J.aload_n (q := 33) dX3_takeNumber_32 rfl ?_ rfl
      refine J.getI (ci := 3) (k0 := 6) (kz := 6) (q := 36) dX3_takeNumber_33 kF_X3_31 rfl (by decide) (by decide) rfl (.inl rfl) ?_ rfl
      rw [e6]
      refine J.iald (n := 121) (q := 37) dX3_takeNumber_36 rfl (by omega) ?_ rfl
      rw [hg.2.2.2, hcv]
      refine J.istore_n (q := 38) dX3_takeNumber_37 (Nat.le_of_ble_eq_true rfl) ?_ rfl
      refine J.aload_n (q := 39) dX3_takeNumber_38 rfl ?_ rfl
      refine J.dup (q := 40) dX3_takeNumber_39 rfl ?_ rfl
      refine J.getI (ci := 3) (k0 := 6) (kz := 6) (q := 43) dX3_takeNumber_40 kF_X3_31 rfl (by decide) (by decide) rfl (.inl rfl) ?_ rfl
      rw [e6]
      refine J.iconst (q := 44) dX3_takeNumber_43 ?_ rfl
      refine J.iadd (q := 45) dX3_takeNumber_44 ?_ rfl
      refine J.putI (ci := 3) (k0 := 6) (kz := 6) (q := 48) dX3_takeNumber_45 kF_X3_31 rfl (by decide) (by decide) rfl rfl rfl ?_ rfl
      refine J.iload_n (q := 49) dX3_takeNumber_48 rfl ?_ rfl
      refine J.ireturn dX3_takeNumber_49 rfl ?_
      first
      | (rw [tkQ, hno, if_neg (by omega)]; exact ⟨rfl, rfl, Aw.rf, hTS0⟩)
      | (rw [tkQ, hyes, if_pos (by omega)]
         refine ⟨rfl, rfl, Aw.up, t + 1, by omega, by rw [up_s, upr_s]; omega, ?_⟩
         show tE T z (qn T z t) = _
         rw [hq])
    · have hno : tkN T z q m = -1 := if_neg (fun h => by omega)
      refine J.iconst (q := 27) dX3_takeNumber_26 ?_ rfl
      refine J.ireturn dX3_takeNumber_27 rfl ?_
      first
      | (rw [tkQ, hno, if_neg (by omega)]; exact ⟨rfl, rfl, Aw.rf, hTS0⟩)
      | (rw [tkQ, hyes, if_pos (by omega)]
         refine ⟨rfl, rfl, Aw.up, t + 1, by omega, by rw [up_s, upr_s]; omega, ?_⟩
         show tE T z (qn T z t) = _
         rw [hq])

theorem TSt.n {iv : Mm} {T : Int → Int} {z q : Int} {N : Nat} (h : TSt iv T z N q) : True := trivial
def ptV (T : Int → Int) (z q : Int) (i : Nat) (m d : Int) : Int := if WdP T z q i then tkN T z (tE T z q) m else d
def ptQ (T : Int → Int) (z q : Int) (i : Nat) (m : Int) : Int := if WdP T z q i then tkQ T z (tE T z q) m else q
set_option maxRecDepth 100000 in
set_option maxHeartbeats 4000000 in
theorem c_takePart {l : Launch} {F : Nat × (Int → Int)} {iv : Mm} {T : Int → Int} {z q : Int} {N : Nat} (hT : ∀ j, 0 ≤ j → j < 120 → iv 51 j = T j) (hb : ∀ j, 0 ≤ j → j < 120 → 0 ≤ T j ∧ T j ≤ 255) (hz : 0 ≤ z ∧ z ≤ 120) (hTA : TA iv T z N) (hN9 : 0 ≤ qn T z N ∧ qn T z N ≤ z) (hTS : TSt iv T z N q) {i : Nat} (hi16 : i < 16) {m w : Int} (hm : 0 ≤ m ∧ m ≤ 255) : Ctr l F 6 0 0 yX3_takePart cX3_takePart 4 (some FieldType.int) [r_ 50, r_ (1100 + i), i_ m, i_ w] S0 (iv) (fun v S iv2 => v = some (i_ (ptV T z q i m w)) ∧ S = S0 ∧ Aw iv iv2 ∧ TSt iv2 T z N (ptQ T z q i m)) := by
  refine Ctr.of false (fun h => by cases h) (by decide) rfl (Nat.le_of_ble_eq_true rfl) ?_
  refine J.aload_n (q := 1) dX3_takePart_0 rfl ?_ rfl
  refine J.aload_n (q := 2) dX3_takePart_1 rfl ?_ rfl
  refine J.callV1 (ci := 3) (q := 5) dX3_takePart_2 mv_X3_skipWord kL_X3_67 rfl (by decide) rfl ⟨by decide, by decide⟩ (Nat.le_of_ble_eq_true rfl) ⟨by decide, by decide⟩ rfl (c_skipWord hT hb hz hTA hN9 hTS hi16) (fun v9 S9 iv9 hp => ?_)
  obtain ⟨rfl, rfl, a9, t9⟩ := hp
  refine J.ifb_eq (tgt := 16) (q := 8) dX3_takePart_5 rfl rfl (fun c5 => ?_) (fun c5 => ?_)
  · rw [if_neg c5] at t9
    refine J.iload_n (q := 17) dX3_takePart_16 rfl ?_ rfl
    refine J.ireturn dX3_takePart_17 rfl ?_
    first
    | (rw [ptV, ptQ, if_pos c5, if_pos c5]; exact ⟨rfl, rfl, a9.tr a8, t8⟩)
    | (rw [ptV, ptQ, if_neg c5, if_neg c5]; exact ⟨rfl, rfl, a9, t9⟩)
  · rw [if_pos c5] at t9
    refine J.aload_n (q := 9) dX3_takePart_8 rfl ?_ rfl
    refine J.iload_n (q := 10) dX3_takePart_9 rfl ?_ rfl
    refine J.callV1 (ci := 3) (q := 13) dX3_takePart_10 mv_X3_takeNumber kL_X3_139 rfl (by decide) rfl ⟨by decide, by decide⟩ (Nat.le_of_ble_eq_true rfl) ⟨by decide, by decide⟩ rfl (c_takeNumber (by rw [a9.1 51 (by decide)]; exact hT) hb hz (hTA.fr (fun p p0 p1 => a9.1 p (by omega))) hN9 t9 hm) (fun v8 S8 iv8 hp => ?_)
    obtain ⟨rfl, rfl, a8, t8⟩ := hp
    refine J.goto (tgt := 17) dX3_takePart_13 rfl ?_
    refine J.ireturn dX3_takePart_17 rfl ?_
    first
    | (rw [ptV, ptQ, if_pos c5, if_pos c5]; exact ⟨rfl, rfl, a9.tr a8, t8⟩)
    | (rw [ptV, ptQ, if_neg c5, if_neg c5]; exact ⟨rfl, rfl, a9, t9⟩)

def g71 (j : Int) : Int := ([115, 110, 97, 105, 108, 32, 32, 32, 103, 114, 101, 101, 100, 121, 32, 32, 115, 108, 111, 119, 32, 32, 32, 32, 115, 108, 101, 101, 112, 121, 32, 32, 101, 108, 100, 101, 114, 32, 32, 32, 98, 111, 114, 110, 101, 32, 32, 32, 103, 108, 117, 116, 116, 111, 110, 32] : List Int).getD j.toNat 32
def g72 (j : Int) : Int := ([97, 116, 32, 32, 32, 32, 32, 32, 108, 97, 119, 32, 32, 32, 32, 32, 103, 97, 116, 101, 32, 32, 32, 32, 112, 114, 105, 99, 101, 32, 32, 32] : List Int).getD j.toNat 32
def g73 (j : Int) : Int := ([104, 101, 100, 103, 101, 32, 32, 32, 103, 114, 101, 101, 110, 115, 32, 32, 98, 97, 110, 115, 32, 32, 32, 32, 119, 101, 116, 32, 32, 32, 32, 32, 116, 104, 114, 117, 115, 104, 32, 32] : List Int).getD j.toNat 32
def WI (A : Mm) : Prop := (∀ j, 0 ≤ j → j < 56 → A 71 j = g71 j) ∧ (∀ j, 0 ≤ j → j < 32 → A 72 j = g72 j) ∧ ∀ j, 0 ≤ j → j < 40 → A 73 j = g73 j
theorem cdF_cg {f g : Int → Int} {b : Int} : ∀ k : Nat, (∀ j : Nat, j < k → f (b + j) = g (b + j)) → cdF f b k = cdF g b k
  | 0, _ => rfl
  | k + 1, h => by rw [cdF, cdF, cdF_cg k (fun j hj => h j (by omega)), h k (by omega)]
theorem whW_cg {f g : Int → Int} {v : Int} : ∀ n : Nat, (∀ j, 0 ≤ j → j < 8 * (n : Int) → f j = g j) → whW f v n = whW g v n
  | 0, _ => rfl
  | n + 1, h => by
    rw [whW, whW, whW_cg n (fun j j0 j1 => h j j0 (by omega)), cdF_cg 8 (fun j hj => h _ (by omega) (by omega))]
theorem cd71_0 : cdF g71 (8 * ((0 : Nat) : Int)) 8 = Cw 5 := by decide +kernel
theorem cd71_1 : cdF g71 (8 * ((1 : Nat) : Int)) 8 = Cw 6 := by decide +kernel
theorem cd71_2 : cdF g71 (8 * ((2 : Nat) : Int)) 8 = Cw 7 := by decide +kernel
theorem cd71_3 : cdF g71 (8 * ((3 : Nat) : Int)) 8 = Cw 8 := by decide +kernel
theorem cd71_4 : cdF g71 (8 * ((4 : Nat) : Int)) 8 = Cw 9 := by decide +kernel
theorem cd71_5 : cdF g71 (8 * ((5 : Nat) : Int)) 8 = Cw 10 := by decide +kernel
theorem cd71_6 : cdF g71 (8 * ((6 : Nat) : Int)) 8 = Cw 11 := by decide +kernel
theorem wh71 (v : Int) : whW g71 v 7 = if Cw 11 = v then 6 else if Cw 10 = v then 5 else if Cw 9 = v then 4 else if Cw 8 = v then 3 else if Cw 7 = v then 2 else if Cw 6 = v then 1 else if Cw 5 = v then 0 else -1 := by
  show (if cdF g71 (8 * ((6 : Nat) : Int)) 8 = v then ((6 : Nat) : Int) else if cdF g71 (8 * ((5 : Nat) : Int)) 8 = v then ((5 : Nat) : Int) else if cdF g71 (8 * ((4 : Nat) : Int)) 8 = v then ((4 : Nat) : Int) else if cdF g71 (8 * ((3 : Nat) : Int)) 8 = v then ((3 : Nat) : Int) else if cdF g71 (8 * ((2 : Nat) : Int)) 8 = v then ((2 : Nat) : Int) else if cdF g71 (8 * ((1 : Nat) : Int)) 8 = v then ((1 : Nat) : Int) else if cdF g71 (8 * ((0 : Nat) : Int)) 8 = v then ((0 : Nat) : Int) else -1) = _
  rw [cd71_6, cd71_5, cd71_4, cd71_3, cd71_2, cd71_1, cd71_0]
  rfl
theorem cd72_0 : cdF g72 (8 * ((0 : Nat) : Int)) 8 = Cw 12 := by decide +kernel
theorem cd72_1 : cdF g72 (8 * ((1 : Nat) : Int)) 8 = Cw 13 := by decide +kernel
theorem cd72_2 : cdF g72 (8 * ((2 : Nat) : Int)) 8 = Cw 14 := by decide +kernel
theorem cd72_3 : cdF g72 (8 * ((3 : Nat) : Int)) 8 = Cw 15 := by decide +kernel
theorem wh72 (v : Int) : whW g72 v 4 = if Cw 15 = v then 3 else if Cw 14 = v then 2 else if Cw 13 = v then 1 else if Cw 12 = v then 0 else -1 := by
  show (if cdF g72 (8 * ((3 : Nat) : Int)) 8 = v then ((3 : Nat) : Int) else if cdF g72 (8 * ((2 : Nat) : Int)) 8 = v then ((2 : Nat) : Int) else if cdF g72 (8 * ((1 : Nat) : Int)) 8 = v then ((1 : Nat) : Int) else if cdF g72 (8 * ((0 : Nat) : Int)) 8 = v then ((0 : Nat) : Int) else -1) = _
  rw [cd72_3, cd72_2, cd72_1, cd72_0]
  rfl
theorem cd73_0 : cdF g73 (8 * ((0 : Nat) : Int)) 8 = Cw 0 := by decide +kernel
theorem cd73_1 : cdF g73 (8 * ((1 : Nat) : Int)) 8 = Cw 1 := by decide +kernel
theorem cd73_2 : cdF g73 (8 * ((2 : Nat) : Int)) 8 = Cw 2 := by decide +kernel
theorem cd73_3 : cdF g73 (8 * ((3 : Nat) : Int)) 8 = Cw 3 := by decide +kernel
theorem cd73_4 : cdF g73 (8 * ((4 : Nat) : Int)) 8 = Cw 4 := by decide +kernel
theorem wh73 (v : Int) : whW g73 v 5 = if Cw 4 = v then 4 else if Cw 3 = v then 3 else if Cw 2 = v then 2 else if Cw 1 = v then 1 else if Cw 0 = v then 0 else -1 := by
  show (if cdF g73 (8 * ((4 : Nat) : Int)) 8 = v then ((4 : Nat) : Int) else if cdF g73 (8 * ((3 : Nat) : Int)) 8 = v then ((3 : Nat) : Int) else if cdF g73 (8 * ((2 : Nat) : Int)) 8 = v then ((2 : Nat) : Int) else if cdF g73 (8 * ((1 : Nat) : Int)) 8 = v then ((1 : Nat) : Int) else if cdF g73 (8 * ((0 : Nat) : Int)) 8 = v then ((0 : Nat) : Int) else -1) = _
  rw [cd73_4, cd73_3, cd73_2, cd73_1, cd73_0]
  rfl
