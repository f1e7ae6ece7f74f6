/-! the reference: what is thought and laid back (printed by wip/whole/m_model7.py) -/
/-- all but the rows that thinking uses stays -/
def TF (iv iv2 : Mm) : Prop := (∀ q, q ≤ 63 → iv2 q = iv q) ∧ iv2 65 = iv 65 ∧ ∀ q, 70 ≤ q → iv2 q = iv q
theorem TF.like {iv iv2 : Mm} (h : TF iv iv2) : Like iv2 iv := ⟨h.1 62 (by omega), h.1 63 (by omega), h.2.1, h.2.2 70 (by omega), h.2.2 74 (by omega), h.2.2 75 (by omega), h.2.2 76 (by omega), by rw [h.1 61 (by omega)], by rw [h.1 61 (by omega)]⟩
theorem laid {f g h : Int → Int} (h1 : ∀ j, 0 ≤ j → j < 307 → h j = f j) (h2 : ∀ j, (j < 0 ∨ 307 ≤ j) → h j = g j) (h3 : ∀ j, (j < 0 ∨ 307 ≤ j) → g j = f j) : h = f := by
  funext j
  by_cases hj : 0 ≤ j ∧ j < 307
  · exact h1 j hj.1 hj.2
  · rw [h2 j (by omega), h3 j (by omega)]
theorem dys_junk {D : Int} {s c : Int → Int} {fr : Int → Int → Int} {th : Int → Bool} (h : MI D s) (n : Nat) : ∀ j : Int, (j < 0 ∨ 307 ≤ j) → (dysM fr th n (s, c)).1 j = s j := fun j hj => (dysM_MI (X := (s, c)) h n).2.2 j (by
  refine ⟨by omega, by omega, by omega, fun k h1 h2 => by omega⟩)
theorem firstD_le (p : Nat → Bool) : ∀ (n i : Nat), i ≤ firstD p n i ∧ firstD p n i ≤ i + n
  | 0, i => by simp [firstD]
  | n + 1, i => by
    unfold firstD
    split
    · omega
    · have := firstD_le p n (i + 1)
      omega
set_option maxRecDepth 100000 in
set_option maxHeartbeats 4000000 in
theorem days_loop {l : Launch} {F : Nat × (Int → Int)} {iv iv1 : Mm} (hA : AI iv) (hfar : FarOK iv1 (fdst (iv 62)) (iv 62 2)) {z : Int} (hz : 0 ≤ z ∧ z ≤ 100) (hfr : ∀ q, q ≠ 66 → q ≠ 67 → q ≠ 68 → iv1 q = iv q) : ∀ (n : Nat) (i : Nat), (z - i < n) → ((i : Int) ≤ z) → J l (yX6_days).cls cX6_days 3 none 4 0 0 false F (fun v S iv2 => v = none ∧ S = S0 ∧ (∀ q, q ≠ 62 → q ≠ 66 → q ≠ 67 → q ≠ 68 → q ≠ 69 → iv2 q = iv q) ∧ iv2 62 = dys (iv 62) z.toNat ∧ iv2 69 = (dysM (fdst (iv 62)) th1 z.toNat (iv 62, iv 69)).2) 0 0 6 [some (r_ 61), some (i_ z), some (i_ (i : Int))] [] S0 (mk2 iv1 (dysM (fdst (iv 62)) th1 i (iv 62, iv1 69))) := by
  intro n
  induction n with
  | zero =>
    intro i hn hi
    omega
  | succ n ih =>
    intro i hn hi
    have hI := hA.mi
    have hmm := hI.many
    obtain ⟨hX, hX0, hXk⟩ := dysM_MI (fr := fdst (iv 62)) (th := th1) (X := (iv 62, iv1 69)) hI i
    have hm2 : (dysM (fdst (iv 62)) th1 i (iv 62, iv1 69)).1 2 = iv 62 2 := hXk 2 (kept_lo (by omega))
    have e1 : dys (iv 62) i = (dysM (fdst (iv 62)) th1 i (iv 62, iv1 69)).1 := dysM_fst (fdst (iv 62)) th1 (P0 (iv 62)) (iv 62, iv1 69) rfl i
    refine J.iload_n (q := 7) dX6_days_6 rfl ?_ rfl
    refine J.iload_n (q := 8) dX6_days_7 rfl ?_ rfl
    refine J.icmp_ge (tgt := 25) (q := 11) dX6_days_8 rfl rfl (fun c8 => ?_) (fun c8 => ?_)
    · refine J.vreturn dX6_days_25 rfl ?_
      have hzi : z.toNat = i := by omega
      rw [hzi, e1]
      have e69 := hfr 69 (by decide) (by decide) (by decide)
      refine ⟨rfl, rfl, fun q h1 h2 h3 h4 h5 => (mk2_n _ _ h1 h5).trans (hfr q h2 h3 h4), rfl, ?_⟩
      rw [mk2_69, e69]
    · refine J.aload_n (q := 12) dX6_days_11 rfl ?_ rfl
      refine J.aload_n (q := 13) dX6_days_12 rfl ?_ rfl
      refine J.callV0i (ci := 6) (q := 16) dX6_days_13 mv_X6_allSnails kL_X6_115 rfl (by decide) rfl ⟨by decide, by decide⟩ (Nat.le_of_ble_eq_true rfl) ⟨by decide, by decide⟩ rfl (c_X6_allSnails (by rw [mk2_62, hm2]; exact hmm)) ?_
      simp only [mk2_62]
      rw [hm2]
      refine J.callV1v (ci := 6) (q := 19) dX6_days_16 mv_X6_day kL_X6_119 rfl (by decide) rfl ⟨by decide, by decide⟩ (Nat.le_of_ble_eq_true rfl) ⟨by decide, by decide⟩ rfl (c_X6_day (by omega) hX hm2 hfar (allR hmm) (fun k a b => ⟨fun _ => rfl, fun _ => allB hmm ⟨a, b⟩⟩)) ?_
      refine J.iinc (q := 22) dX6_days_19 rfl ?_ rfl
      refine J.goto (tgt := 6) dX6_days_22 rfl ?_
      exact ih (i + 1) (by omega) (by omega)

set_option maxRecDepth 100000 in
set_option maxHeartbeats 4000000 in
theorem c_X6_days {l : Launch} {F : Nat × (Int → Int)} {iv : Mm} (hA : AI iv) {z : Int} (hz : 0 ≤ z ∧ z ≤ 100) : Ctr l F 4 0 0 yX6_days cX6_days 3 none [r_ 61, i_ z] S0 (iv) (fun v S iv2 => v = none ∧ S = S0 ∧ (∀ q, q ≠ 62 → q ≠ 66 → q ≠ 67 → q ≠ 68 → q ≠ 69 → iv2 q = iv q) ∧ iv2 62 = dys (iv 62) z.toNat ∧ iv2 69 = (dysM (fdst (iv 62)) th1 z.toNat (iv 62, iv 69)).2) := by
  refine Ctr.of false (fun h => by cases h) (by decide) rfl (Nat.le_of_ble_eq_true rfl) ?_
  have hI := hA.mi
  have hmm := hI.many
  have hkp := hA.kp
  have htp := hA.tp
  refine J.aload_n (q := 1) dX6_days_0 rfl ?_ rfl
  refine J.callV0 (ci := 6) (q := 4) dX6_days_1 mv_X6_findsFars kL_X6_112 rfl (by decide) rfl ⟨by decide, by decide⟩ (Nat.le_of_ble_eq_true rfl) ⟨by decide, by decide⟩ rfl (c_X6_findsFars (show (99999 : Int) ≤ 200000 by omega) hI) (fun v8 S8 iv8 hp => ?_)
  obtain ⟨rfl, rfl, g1, g2⟩ := hp
  have e62 := g1 62 (by decide) (by decide) (by decide)
  refine J.iconst (q := 5) dX6_days_4 ?_ rfl
  refine J.istore_n (q := 6) dX6_days_5 (Nat.le_of_ble_eq_true rfl) ?_ rfl
  refine J.eqi (iv2 := mk2 iv8 (dysM (fdst (iv 62)) th1 0 (iv 62, iv8 69))) ?_ (days_loop hA g2 hz g1 101 0 (by omega) (by omega))
  show iv8 = mk2 iv8 (iv 62, iv8 69)
  rw [← e62, mk2_self]

set_option maxRecDepth 100000 in
set_option maxHeartbeats 4000000 in
theorem reachedBy_loop {l : Launch} {F : Nat × (Int → Int)} {iv iv1 : Mm} (hA : AI iv) (hfar : FarOK iv1 (fdst (iv 62)) (iv 62 2)) {R : Nat} {w c : Int} (hw : 0 ≤ w ∧ w ≤ 7) (hc : 0 ≤ c ∧ c ≤ 80) (K : ∀ _ : True, J l (yX6_reachedBy).cls cX6_reachedBy 4 (some FieldType.int) 4 0 0 false F (fun v S iv2 => v = some (i_ (if R ≤ 100 then (R : Int) else -1)) ∧ S = S0 ∧ TF iv iv2) 0 0 44 [some (r_ 61), some (i_ w), some (i_ c), some (i_ ((R : Nat) : Int))] [] S0 (mk2 iv1 (dysM (fdst (iv 62)) th1 R (iv 62, iv1 69)))) : ∀ (n : Nat) (i : Nat), (101 - i < n) → ((i : Int) ≤ 101) → (firstD (fun i => decide (dys (iv 62) i (176 + c) = w)) (101 - i) i = R) → J l (yX6_reachedBy).cls cX6_reachedBy 4 (some FieldType.int) 4 0 0 false F (fun v S iv2 => v = some (i_ (if R ≤ 100 then (R : Int) else -1)) ∧ S = S0 ∧ TF iv iv2) 0 0 10 [some (r_ 61), some (i_ w), some (i_ c), some (i_ (i : Int))] [] S0 (mk2 iv1 (dysM (fdst (iv 62)) th1 i (iv 62, iv1 69))) := by
  intro n
  induction n with
  | zero =>
    intro i hn hi hB
    omega
  | succ n ih =>
    intro i hn hi hB
    have hI := hA.mi
    have hmm := hI.many
    obtain ⟨hX, hX0, hXk⟩ := dysM_MI (fr := fdst (iv 62)) (th := th1) (X := (iv 62, iv1 69)) hI i
    have hm2 : (dysM (fdst (iv 62)) th1 i (iv 62, iv1 69)).1 2 = iv 62 2 := hXk 2 (kept_lo (by omega))
    have e1 : dys (iv 62) i = (dysM (fdst (iv 62)) th1 i (iv 62, iv1 69)).1 := dysM_fst (fdst (iv 62)) th1 (P0 (iv 62)) (iv 62, iv1 69) rfl i
    refine J.iload_n (q := 11) dX6_reachedBy_10 rfl ?_ rfl
    refine J.bipush (q := 13) dX6_reachedBy_11 (by decide) ?_ rfl
    refine J.icmp_gt (tgt := 44) (q := 16) dX6_reachedBy_13 rfl rfl (fun c13 => ?_) (fun c13 => ?_)
    · have hi9 : i = 101 := by omega
      rw [show 101 - i = 0 by omega, firstD] at hB
      subst hB
      exact K trivial
    · refine J.aload_n (q := 17) dX6_reachedBy_16 rfl ?_ rfl
      refine J.getR (ci := 6) (k0 := 0) (c1 := 62) (q := 20) dX6_reachedBy_17 kF_X6_9 rfl (by decide) (by decide) rfl (by decide) rfl ?_ rfl
      refine J.sipush (q := 23) dX6_reachedBy_20 (by decide) ?_ rfl
      refine J.iload_n (q := 24) dX6_reachedBy_23 rfl ?_ rfl
      refine J.iadd (q := 25) dX6_reachedBy_24 ?_ rfl
      refine J.iald (n := 307) (q := 26) dX6_reachedBy_25 rfl (by omega) ?_ rfl
      try simp only [mk2_62, mk2_69]
      refine J.iload_n (q := 27) dX6_reachedBy_26 rfl ?_ rfl
      have hcl := hX.cel c hc.1 hc.2
      refine J.icmp_eq (tgt := 44) (q := 30) (hv := by omega) dX6_reachedBy_27 rfl rfl (fun c27 => ?_) (fun c27 => ?_)
      · have hpi : (fun i => decide (dys (iv 62) i (176 + c) = w)) i = true := decide_eq_true (by rw [e1]; exact c27)
        rw [show 101 - i = (101 - (i + 1)) + 1 by omega, firstD, if_pos hpi] at hB
        subst hB
        exact K trivial
      · have hpi : ¬ ((fun i => decide (dys (iv 62) i (176 + c) = w)) i = true) := fun z => c27 (by rw [← e1]; exact of_decide_eq_true z)
        refine J.aload_n (q := 31) dX6_reachedBy_30 rfl ?_ rfl
        refine J.aload_n (q := 32) dX6_reachedBy_31 rfl ?_ rfl
        refine J.callV0i (ci := 6) (q := 35) dX6_reachedBy_32 mv_X6_allSnails kL_X6_115 rfl (by decide) rfl ⟨by decide, by decide⟩ (Nat.le_of_ble_eq_true rfl) ⟨by decide, by decide⟩ rfl (c_X6_allSnails (by rw [mk2_62, hm2]; exact hmm)) ?_
        simp only [mk2_62]
        rw [hm2]
        refine J.callV1v (ci := 6) (q := 38) dX6_reachedBy_35 mv_X6_day kL_X6_119 rfl (by decide) rfl ⟨by decide, by decide⟩ (Nat.le_of_ble_eq_true rfl) ⟨by decide, by decide⟩ rfl (c_X6_day (by omega) hX hm2 hfar (allR hmm) (fun k a b => ⟨fun _ => rfl, fun _ => allB hmm ⟨a, b⟩⟩)) ?_
        refine J.iinc (q := 41) dX6_reachedBy_38 rfl ?_ rfl
        refine J.goto (tgt := 10) dX6_reachedBy_41 rfl ?_
        have e3 : 101 - i = (101 - (i + 1)) + 1 := by omega
        rw [e3, firstD, if_neg hpi] at hB
        exact ih (i + 1) (by omega) (by omega) hB

set_option maxRecDepth 100000 in
set_option maxHeartbeats 4000000 in
theorem c_X6_reachedBy {l : Launch} {F : Nat × (Int → Int)} {iv : Mm} (hA : AI iv) {w c : Int} (hw : 0 ≤ w ∧ w ≤ 7) (hc : 0 ≤ c ∧ c ≤ 80) : Ctr l F 4 0 0 yX6_reachedBy cX6_reachedBy 4 (some FieldType.int) [r_ 61, i_ w, i_ c] S0 (iv) (fun v S iv2 => v = some (i_ (if rchD (iv 62) w c ≤ 100 then (rchD (iv 62) w c : Int) else -1)) ∧ S = S0 ∧ TF iv iv2) := by
  refine Ctr.of false (fun h => by cases h) (by decide) rfl (Nat.le_of_ble_eq_true rfl) ?_
  have hI := hA.mi
  have hmm := hI.many
  have hkp := hA.kp
  have htp := hA.tp
  refine J.aload_n (q := 1) dX6_reachedBy_0 rfl ?_ rfl
  refine J.callV0 (ci := 6) (q := 4) dX6_reachedBy_1 mv_X6_setsAside kL_X6_155 rfl (by decide) rfl ⟨by decide, by decide⟩ (Nat.le_of_ble_eq_true rfl) ⟨by decide, by decide⟩ rfl (c_X6_setsAside) (fun v9 S9 iv9 hp => ?_)
  obtain ⟨rfl, rfl, a1, a2, a3⟩ := hp
  have e9 := a1 62 (by decide)
  have hI9 : MI 99999 (iv9 62) := by rw [e9]; exact hI
  refine J.aload_n (q := 5) dX6_reachedBy_4 rfl ?_ rfl
  refine J.callV0 (ci := 6) (q := 8) dX6_reachedBy_5 mv_X6_findsFars kL_X6_112 rfl (by decide) rfl ⟨by decide, by decide⟩ (Nat.le_of_ble_eq_true rfl) ⟨by decide, by decide⟩ rfl (c_X6_findsFars (show (99999 : Int) ≤ 200000 by omega) hI9) (fun v8 S8 iv8 hp => ?_)
  obtain ⟨rfl, rfl, g1, g2⟩ := hp
  have e8 := (g1 62 (by decide) (by decide) (by decide)).trans e9
  rw [e9] at g2
  refine J.iconst (q := 9) dX6_reachedBy_8 ?_ rfl
  refine J.istore_n (q := 10) dX6_reachedBy_9 (Nat.le_of_ble_eq_true rfl) ?_ rfl
  refine J.eqi (iv2 := mk2 iv8 (dysM (fdst (iv 62)) th1 0 (iv 62, iv8 69))) (by show iv8 = mk2 iv8 (iv 62, iv8 69); rw [← e8, mk2_self]) ?_
  refine reachedBy_loop hA g2 (R := rchD (iv 62) w c) hw hc (fun _ => ?_) 102 0 (by omega) (by omega) rfl
  refine J.aload_n (q := 45) dX6_reachedBy_44 rfl ?_ rfl
  refine J.callV0 (ci := 6) (q := 48) dX6_reachedBy_45 mv_X6_laysBack kL_X6_158 rfl (by decide) rfl ⟨by decide, by decide⟩ (Nat.le_of_ble_eq_true rfl) ⟨by decide, by decide⟩ rfl (c_X6_laysBack) (fun v7 S7 iv7 hp => ?_)
  obtain ⟨rfl, rfl, b1, b2, b3⟩ := hp
  have e64 : iv8 64 = iv9 64 := g1 64 (by decide) (by decide) (by decide)
  have hTF : TF iv iv7 := by
    refine ⟨fun q hq => ?_, ?_, fun q hq => ?_⟩
    · by_cases h62 : q = 62
      · subst h62
        refine laid (fun j h1 h2 => ?_) b3 (dys_junk hI (rchD (iv 62) w c))
        rw [b2 j h1 h2, mk2_n _ _ (by decide) (by decide), e64, a2 j h1 h2]
      · rw [b1 q h62, mk2_n _ _ h62 (by omega), g1 q (by omega) (by omega) (by omega), a1 q (by omega)]
    · rw [b1 65 (by decide), mk2_n _ _ (by decide) (by decide), g1 65 (by decide) (by decide) (by decide), a1 65 (by decide)]
    · rw [b1 q (by omega), mk2_n _ _ (by omega) (by omega), g1 q (by omega) (by omega) (by omega), a1 q (by omega)]
  refine J.iload_n (q := 49) dX6_reachedBy_48 rfl ?_ rfl
  refine J.bipush (q := 51) dX6_reachedBy_49 (by decide) ?_ rfl
  have hfl : rchD (iv 62) w c ≤ 101 := (firstD_le (fun i => decide (dys (iv 62) i (176 + c) = w)) 101 0).2
  refine J.icmp_gt (tgt := 58) (q := 54) dX6_reachedBy_51 rfl rfl (fun c51 => ?_) (fun c51 => ?_)
  · refine J.iconst (q := 59) dX6_reachedBy_58 ?_ rfl
    refine J.ireturn dX6_reachedBy_59 rfl ?_
    first
    | (rw [if_pos (by omega)]; exact ⟨rfl, rfl, hTF⟩)
    | (rw [if_neg (by omega)]; exact ⟨rfl, rfl, hTF⟩)
  · refine J.iload_n (q := 55) dX6_reachedBy_54 rfl ?_ rfl
    refine J.goto (tgt := 59) dX6_reachedBy_55 rfl ?_
    refine J.ireturn dX6_reachedBy_59 rfl ?_
    first
    | (rw [if_pos (by omega)]; exact ⟨rfl, rfl, hTF⟩)
    | (rw [if_neg (by omega)]; exact ⟨rfl, rfl, hTF⟩)

