/-! the class: the farthest start, trails: the walks (printed by wip/whole/m_c14.py) -/
theorem gat_0 {s : Int → Int} {k : Int} {n : Nat} : gatD (upr s (257 + 5 * k + 1) (s (257 + 5 * k + 3))) k n ≤ n := by
  unfold gatD
  rw [firstD, if_pos]
  · exact Nat.zero_le _
  · refine decide_eq_true ?_
    show upr s _ _ (257 + 5 * k + 1) = upr s _ _ (257 + 5 * k + 3)
    rw [upr_s, upr_n _ _ (by omega)]
def Fst (s : Int → Int) (k : Int) (n j : Nat) (bst mst : Int) : Prop :=
  ((farS s k n j < 0 ∨ farS s k n j = s (257 + 5 * k + 3)) ∧ bst = s (257 + 5 * k + 3) ∧ mst = 0 ∧ (farS s k n j < 0 → (j : Int) ≤ s (257 + 5 * k + 3)))
  ∨ (0 ≤ farS s k n j ∧ farS s k n j ≠ s (257 + 5 * k + 3) ∧ bst = farS s k n j ∧ mst = fdst s k (farS s k n j) ∧ 0 < mst ∧ mst < 99)
theorem Fst.z {s : Int → Int} {k : Int} {n : Nat} (hg : 0 ≤ s (257 + 5 * k + 3)) : Fst s k n 0 (s (257 + 5 * k + 3)) 0 := Or.inl ⟨Or.inl (by show (-1 : Int) < 0; decide), rfl, rfl, fun _ => by omega⟩
theorem Fst.yes {s : Int → Int} {k : Int} {n j : Nat} {bst mst : Int} (hI : MI 99999 s) (hk : 0 ≤ k ∧ k < 8) (hj : (j : Int) ≤ 80) (hgo : s (14 + s (257 + 5 * k + 3)) ≠ 1) (h : Fst s k n j bst mst) (hq : mst < fdst s k j ∧ fdst s k j < 99 ∧ gatD (upr s (257 + 5 * k + 1) j) k n ≤ n) : Fst s k n (j + 1) j (fdst s k j) := by
  have hg := (hI.sna k hk.1 hk.2).2.2.2.1
  obtain ⟨d1, d2, d3⟩ := dst_all (op := opH s) hg
  have f0 : fdst s k (s (257 + 5 * k + 3)) = 0 := d3 ((opH_c hg).mpr hgo)
  have hop := (opH_c (s := s) (c := j) (by omega)).mp (d1 j (by have := hq.2.1; unfold fdst at this; omega)).1
  have hm0 : 0 ≤ mst := by rcases h with h | h <;> omega
  have e : farS s k n (j + 1) = j := by
    rw [farS]
    refine if_pos ⟨⟨hop, ?_⟩, hq.2.2⟩
    rcases h with ⟨h1, h2, h3, h4⟩ | ⟨h1, h2, h3, h4, h5, h6⟩
    · rcases h1 with h1 | h1
      · exact Or.inl h1
      · refine Or.inr ?_
        rw [h1, f0]; omega
    · refine Or.inr ?_
      rw [← h4]; omega
  refine Or.inr ?_
  rw [e]
  refine ⟨by omega, fun z => ?_, rfl, rfl, by omega, hq.2.1⟩
  rw [z, f0] at hq
  omega
theorem Fst.no {s : Int → Int} {k : Int} {n j : Nat} {bst mst : Int} (hI : MI 99999 s) (hk : 0 ≤ k ∧ k < 8) (hj : (j : Int) ≤ 80) (hgo : s (14 + s (257 + 5 * k + 3)) ≠ 1) (h : Fst s k n j bst mst) (hq : ¬ (mst < fdst s k j ∧ fdst s k j < 99 ∧ gatD (upr s (257 + 5 * k + 1) j) k n ≤ n)) : Fst s k n (j + 1) bst mst := by
  have hg := (hI.sna k hk.1 hk.2).2.2.2.1
  obtain ⟨d1, d2, d3⟩ := dst_all (op := opH s) hg
  have f0 : fdst s k (s (257 + 5 * k + 3)) = 0 := d3 ((opH_c hg).mpr hgo)
  have fr := fdst_rng hI hk j
  by_cases hR : (s (14 + (j : Int)) ≠ 1 ∧ (farS s k n j < 0 ∨ fdst s k (farS s k n j) < fdst s k j)) ∧ gatD (upr s (257 + 5 * k + 1) j) k n ≤ n
  · have e : farS s k n (j + 1) = j := by rw [farS]; exact if_pos hR
    have h99 : fdst s k j ≠ 99 := by
      intro z
      by_cases hjg : (j : Int) = s (257 + 5 * k + 3)
      · rw [hjg, f0] at z; omega
      · exact far99 hI hk (by omega) z hjg hR.2
    have hle : fdst s k j ≤ mst := by
      by_cases z : mst < fdst s k j
      · exact absurd ⟨z, by omega, hR.2⟩ hq
      · omega
    rcases h with ⟨h1, h2, h3, h4⟩ | ⟨h1, h2, h3, h4, h5, h6⟩
    · have hj0 : fdst s k j = 0 := by omega
      have hjg := (d1 j (by unfold fdst at h99; exact h99)).2.2 hj0
      refine Or.inl ⟨Or.inr ?_, h2, h3, fun z => ?_⟩
      · rw [e]; exact hjg
      · rw [e] at z; omega
    · rcases hR.1.2 with z | z
      · omega
      · rw [← h4] at z; omega
  · have e : farS s k n (j + 1) = farS s k n j := by rw [farS]; exact if_neg hR
    unfold Fst
    rw [e]
    rcases h with ⟨h1, h2, h3, h4⟩ | h
    · refine Or.inl ⟨h1, h2, h3, fun z => ?_⟩
      have := h4 z
      by_cases hjg : (j : Int) = s (257 + 5 * k + 3)
      · exfalso
        refine hR ⟨⟨by rw [hjg]; exact hgo, Or.inl z⟩, ?_⟩
        rw [hjg]
        exact gat_0
      · omega
    · exact Or.inr h
theorem Fst.end {s : Int → Int} {k : Int} {n : Nat} {bst mst : Int} (hg : s (257 + 5 * k + 3) ≤ 80) (h : Fst s k n 81 bst mst) : bst = farS s k n 81 := by
  rcases h with ⟨h1, h2, h3, h4⟩ | ⟨h1, h2, h3, h4, h5, h6⟩
  · rcases h1 with h1 | h1
    · have := h4 h1; omega
    · rw [h1]; exact h2
  · exact h3
set_option maxRecDepth 100000 in
set_option maxHeartbeats 4000000 in
theorem arrivesFrom_loop {l : Launch} {F : Nat × (Int → Int)} {iv : Mm} {s : Int → Int} (hR : RR iv 1 s) (hI : MI 99999 s) {k c m : Int} (hk : 0 ≤ k ∧ k < s 2) (hm : 0 ≤ m ∧ m ≤ 40) {R : Nat} {X : P2} (hX : HX s X) (hgt : X.1 (257 + 5 * k + 3) = s (257 + 5 * k + 3)) : ∀ (n : Nat) (i : Nat) (iv1 : Mm), (m - (i : Int) < n) → ((i : Int) ≤ m) → (DL iv iv1 s th1 X i) → (firstD (fun i => decide ((dysM (fdst s) th1 i X).1 (257 + 5 * k + 1) = s (257 + 5 * k + 3))) (m.toNat + 1 - i) i = R) → J l (yX0_arrivesFrom).cls cX0_arrivesFrom 6 (some FieldType.boolean) 5 0 0 false F (fun v S iv2 => v = some (i_ (b2 ((R : Int) ≤ m))) ∧ S = S0 ∧ FT iv iv2 ∧ Sv38 iv2 s) 0 0 21 [some (r_ 25), some (r_ 1), some (i_ k), some (i_ c), some (i_ m), some (i_ (i : Int))] [] S0 (iv1) := by
  intro n
  induction n with
  | zero =>
    intro i iv1 hn hi9 hD hB
    omega
  | succ n ih =>
    intro i iv1 hn hi9 hD hB
    obtain ⟨x1, x2, x3, x4⟩ := hX.at (th := th1) i
    have hmm := hI.many
    have hR26 := hD.2.2.1
    have hsn := x1.sna k (by omega) (by omega)
    have hg9 := x4 (257 + 5 * k + 3) (kept_s (by omega) (by omega))
    have hgr := (hI.sna k (by omega) (by omega)).2.2.2.1
    rw [show m.toNat + 1 - i = (m.toNat - i) + 1 by omega, firstD] at hB
    refine J.iload (q := 23) dX0_arrivesFrom_21 rfl ?_ rfl
    refine J.iload (q := 25) dX0_arrivesFrom_23 rfl ?_ rfl
    refine J.icmp_ge (tgt := 59) (q := 28) dX0_arrivesFrom_25 rfl rfl (fun c25 => ?_) (fun c25 => ?_)
    · refine J.aload_n (q := 60) dX0_arrivesFrom_59 rfl ?_ rfl
      refine J.getR (ci := 0) (k0 := 0) (c1 := 26) (q := 63) dX0_arrivesFrom_60 kF_X0_12 rfl (by decide) (by decide) rfl (by decide) rfl ?_ rfl
      refine J.getR (ci := 1) (k0 := 6) (c1 := 33) (q := 66) dX0_arrivesFrom_63 kF_X0_51 rfl (by decide) (by decide) rfl (by decide) rfl ?_ rfl
      refine J.iload_n (q := 67) dX0_arrivesFrom_66 rfl ?_ rfl
      refine J.iald (n := 8) (q := 68) dX0_arrivesFrom_67 rfl (by omega) ?_ rfl
      rw [g26_ats hR26 (by omega) (by omega)]
      refine J.aload_n (q := 69) dX0_arrivesFrom_68 rfl ?_ rfl
      refine J.getR (ci := 0) (k0 := 0) (c1 := 26) (q := 72) dX0_arrivesFrom_69 kF_X0_12 rfl (by decide) (by decide) rfl (by decide) rfl ?_ rfl
      refine J.getR (ci := 1) (k0 := 8) (c1 := 35) (q := 75) dX0_arrivesFrom_72 kF_X0_54 rfl (by decide) (by decide) rfl (by decide) rfl ?_ rfl
      refine J.iload_n (q := 76) dX0_arrivesFrom_75 rfl ?_ rfl
      refine J.iald (n := 8) (q := 77) dX0_arrivesFrom_76 rfl (by omega) ?_ rfl
      rw [g26_gat hR26 (by omega) (by omega), hg9, hgt]
      refine J.icmp_ne (tgt := 84) (q := 80) (hv := by omega) dX0_arrivesFrom_77 rfl rfl (fun c77 => ?_) (fun c77 => ?_)
      · refine J.iconst (q := 85) dX0_arrivesFrom_84 ?_ rfl
        refine J.zreturn dX0_arrivesFrom_85 rfl (by omega) ?_
        first
        | (subst hB; rw [b2_t (by omega)]; exact ⟨rfl, rfl, hD.1, hD.2.1⟩)
        | (rw [if_pos (decide_eq_true (by omega))] at hB; subst hB; rw [b2_t (by omega)]; exact ⟨rfl, rfl, hD.1, hD.2.1⟩)
        | (rw [if_neg (fun z => by have := of_decide_eq_true z; omega), show m.toNat - i = 0 by omega, firstD] at hB; subst hB; rw [b2_f (by omega)]; exact ⟨rfl, rfl, hD.1, hD.2.1⟩)
        | (exfalso; omega)
      · refine J.iconst (q := 81) dX0_arrivesFrom_80 ?_ rfl
        refine J.goto (tgt := 85) dX0_arrivesFrom_81 rfl ?_
        refine J.zreturn dX0_arrivesFrom_85 rfl (by omega) ?_
        first
        | (subst hB; rw [b2_t (by omega)]; exact ⟨rfl, rfl, hD.1, hD.2.1⟩)
        | (rw [if_pos (decide_eq_true (by omega))] at hB; subst hB; rw [b2_t (by omega)]; exact ⟨rfl, rfl, hD.1, hD.2.1⟩)
        | (rw [if_neg (fun z => by have := of_decide_eq_true z; omega), show m.toNat - i = 0 by omega, firstD] at hB; subst hB; rw [b2_f (by omega)]; exact ⟨rfl, rfl, hD.1, hD.2.1⟩)
        | (exfalso; omega)
    · refine J.aload_n (q := 29) dX0_arrivesFrom_28 rfl ?_ rfl
      refine J.getR (ci := 0) (k0 := 0) (c1 := 26) (q := 32) dX0_arrivesFrom_29 kF_X0_12 rfl (by decide) (by decide) rfl (by decide) rfl ?_ rfl
      refine J.getR (ci := 1) (k0 := 6) (c1 := 33) (q := 35) dX0_arrivesFrom_32 kF_X0_51 rfl (by decide) (by decide) rfl (by decide) rfl ?_ rfl
      refine J.iload_n (q := 36) dX0_arrivesFrom_35 rfl ?_ rfl
      refine J.iald (n := 8) (q := 37) dX0_arrivesFrom_36 rfl (by omega) ?_ rfl
      rw [g26_ats hR26 (by omega) (by omega)]
      refine J.aload_n (q := 38) dX0_arrivesFrom_37 rfl ?_ rfl
      refine J.getR (ci := 0) (k0 := 0) (c1 := 26) (q := 41) dX0_arrivesFrom_38 kF_X0_12 rfl (by decide) (by decide) rfl (by decide) rfl ?_ rfl
      refine J.getR (ci := 1) (k0 := 8) (c1 := 35) (q := 44) dX0_arrivesFrom_41 kF_X0_54 rfl (by decide) (by decide) rfl (by decide) rfl ?_ rfl
      refine J.iload_n (q := 45) dX0_arrivesFrom_44 rfl ?_ rfl
      refine J.iald (n := 8) (q := 46) dX0_arrivesFrom_45 rfl (by omega) ?_ rfl
      rw [g26_gat hR26 (by omega) (by omega), hg9, hgt]
      refine J.icmp_eq (tgt := 59) (q := 49) (hv := by omega) dX0_arrivesFrom_46 rfl rfl (fun c46 => ?_) (fun c46 => ?_)
      · rw [if_pos (decide_eq_true c46)] at hB
        refine J.aload_n (q := 60) dX0_arrivesFrom_59 rfl ?_ rfl
        refine J.getR (ci := 0) (k0 := 0) (c1 := 26) (q := 63) dX0_arrivesFrom_60 kF_X0_12 rfl (by decide) (by decide) rfl (by decide) rfl ?_ rfl
        refine J.getR (ci := 1) (k0 := 6) (c1 := 33) (q := 66) dX0_arrivesFrom_63 kF_X0_51 rfl (by decide) (by decide) rfl (by decide) rfl ?_ rfl
        refine J.iload_n (q := 67) dX0_arrivesFrom_66 rfl ?_ rfl
        refine J.iald (n := 8) (q := 68) dX0_arrivesFrom_67 rfl (by omega) ?_ rfl
        rw [g26_ats hR26 (by omega) (by omega)]
        refine J.aload_n (q := 69) dX0_arrivesFrom_68 rfl ?_ rfl
        refine J.getR (ci := 0) (k0 := 0) (c1 := 26) (q := 72) dX0_arrivesFrom_69 kF_X0_12 rfl (by decide) (by decide) rfl (by decide) rfl ?_ rfl
        refine J.getR (ci := 1) (k0 := 8) (c1 := 35) (q := 75) dX0_arrivesFrom_72 kF_X0_54 rfl (by decide) (by decide) rfl (by decide) rfl ?_ rfl
        refine J.iload_n (q := 76) dX0_arrivesFrom_75 rfl ?_ rfl
        refine J.iald (n := 8) (q := 77) dX0_arrivesFrom_76 rfl (by omega) ?_ rfl
        rw [g26_gat hR26 (by omega) (by omega), hg9, hgt]
        refine J.icmp_ne (tgt := 84) (q := 80) (hv := by omega) dX0_arrivesFrom_77 rfl rfl (fun c77 => ?_) (fun c77 => ?_)
        · refine J.iconst (q := 85) dX0_arrivesFrom_84 ?_ rfl
          refine J.zreturn dX0_arrivesFrom_85 rfl (by omega) ?_
          first
          | (subst hB; rw [b2_t (by omega)]; exact ⟨rfl, rfl, hD.1, hD.2.1⟩)
          | (rw [if_pos (decide_eq_true (by omega))] at hB; subst hB; rw [b2_t (by omega)]; exact ⟨rfl, rfl, hD.1, hD.2.1⟩)
          | (rw [if_neg (fun z => by have := of_decide_eq_true z; omega), show m.toNat - i = 0 by omega, firstD] at hB; subst hB; rw [b2_f (by omega)]; exact ⟨rfl, rfl, hD.1, hD.2.1⟩)
          | (exfalso; omega)
        · refine J.iconst (q := 81) dX0_arrivesFrom_80 ?_ rfl
          refine J.goto (tgt := 85) dX0_arrivesFrom_81 rfl ?_
          refine J.zreturn dX0_arrivesFrom_85 rfl (by omega) ?_
          first
          | (subst hB; rw [b2_t (by omega)]; exact ⟨rfl, rfl, hD.1, hD.2.1⟩)
          | (rw [if_pos (decide_eq_true (by omega))] at hB; subst hB; rw [b2_t (by omega)]; exact ⟨rfl, rfl, hD.1, hD.2.1⟩)
          | (rw [if_neg (fun z => by have := of_decide_eq_true z; omega), show m.toNat - i = 0 by omega, firstD] at hB; subst hB; rw [b2_f (by omega)]; exact ⟨rfl, rfl, hD.1, hD.2.1⟩)
          | (exfalso; omega)
      · rw [if_neg (fun z => c46 (of_decide_eq_true z))] at hB
        refine J.aload_n (q := 50) dX0_arrivesFrom_49 rfl ?_ rfl
        refine J.callV0 (ci := 0) (q := 53) dX0_arrivesFrom_50 mv_X0_passDay kL_X0_45 rfl (by decide) rfl ⟨by decide, by decide⟩ (Nat.le_of_ble_eq_true rfl) ⟨by decide, by decide⟩ rfl (c_X0_passDay hX (by omega) hD) (fun v9 S9 iv9 hp => ?_)
        obtain ⟨rfl, rfl, hD9⟩ := hp
        refine J.iinc (q := 56) dX0_arrivesFrom_53 rfl ?_ rfl
        refine J.goto (tgt := 21) dX0_arrivesFrom_56 rfl ?_
        exact ih (i + 1) iv9 (by omega) (by omega) hD9 (by rw [show m.toNat + 1 - (i + 1) = m.toNat - i by omega]; exact hB)

set_option maxRecDepth 100000 in
set_option maxHeartbeats 4000000 in
theorem c_X0_arrivesFrom {l : Launch} {F : Nat × (Int → Int)} {iv : Mm} {s : Int → Int} (hR : RR iv 1 s) (hI : MI 99999 s) (hS : Sv38 iv s) {k c m : Int} (hk : 0 ≤ k ∧ k < s 2) (hc : 0 ≤ c ∧ c ≤ 80) (hm : 0 ≤ m ∧ m ≤ 40) : Ctr l F 5 0 0 yX0_arrivesFrom cX0_arrivesFrom 6 (some FieldType.boolean) [r_ 25, r_ 1, i_ k, i_ c, i_ m] S0 (iv) (fun v S iv2 => v = some (i_ (b2 ((gatD (upr s (257 + 5 * k + 1) c) k m.toNat : Int) ≤ m))) ∧ S = S0 ∧ FT iv iv2 ∧ Sv38 iv2 s) := by
  refine Ctr.of false (fun h => by cases h) (by decide) rfl (Nat.le_of_ble_eq_true rfl) ?_
  have hmm := hI.many
  refine J.aload_n (q := 1) dX0_arrivesFrom_0 rfl ?_ rfl
  refine J.getR (ci := 0) (k0 := 0) (c1 := 26) (q := 4) dX0_arrivesFrom_1 kF_X0_12 rfl (by decide) (by decide) rfl (by decide) rfl ?_ rfl
  refine J.aload_n (q := 5) dX0_arrivesFrom_4 rfl ?_ rfl
  refine J.callV1 (ci := 1) (q := 8) dX0_arrivesFrom_5 mv_X1_become kL_X0_25 rfl (by decide) rfl ⟨by decide, by decide⟩ (Nat.le_of_ble_eq_true rfl) ⟨by decide, by decide⟩ rfl (c_become26_1 hR) (fun v9 S9 iv9 hp => ?_)
  obtain ⟨rfl, rfl, b1, hR9⟩ := hp
  have hF9 : FT iv iv9 := fun q hq => b1 q (by omega)
  have hm9 : iv9 30 = iv 30 := b1 30 (by omega)
  refine J.aload_n (q := 9) dX0_arrivesFrom_8 rfl ?_ rfl
  refine J.getR (ci := 0) (k0 := 0) (c1 := 26) (q := 12) dX0_arrivesFrom_9 kF_X0_12 rfl (by decide) (by decide) rfl (by decide) rfl ?_ rfl
  refine J.getR (ci := 1) (k0 := 6) (c1 := 33) (q := 15) dX0_arrivesFrom_12 kF_X0_51 rfl (by decide) (by decide) rfl (by decide) rfl ?_ rfl
  refine J.iload_n (q := 16) dX0_arrivesFrom_15 rfl ?_ rfl
  refine J.iload_n (q := 17) dX0_arrivesFrom_16 rfl ?_ rfl
  refine J.iast (n := 8) (q := 18) dX0_arrivesFrom_17 rfl (by omega) ?_ rfl
  refine J.iconst (q := 19) dX0_arrivesFrom_18 ?_ rfl
  refine J.istore (q := 21) dX0_arrivesFrom_19 (Nat.le_of_ble_eq_true rfl) ?_ rfl
  refine arrivesFrom_loop hR hI hk hm (HX.a hI (by omega) hc (iv 30)) (upr_n _ _ (by omega)) 42 0 _ (by omega) (by omega) ⟨hF9.up (by omega), fun a e a0 a1 e0 e1 => by rw [up_n _ _ _ (by decide), up_n _ _ _ (by decide), b1 42 (by omega), b1 43 (by omega)]; exact hS a e a0 a1 e0 e1, u26_ats hR9 (by omega) (by omega), fun j j0 j1 => by rw [up_n _ _ _ (by decide), hm9]; rfl⟩ ?_
  unfold gatD
  rw [Nat.sub_zero]
  congr 1
  funext i
  rw [dys_X (fdst_s hk.1 (Or.inr rfl)) (iv 30) i, upr_n _ _ (show (257 + 5 * k + 3 : Int) ≠ 257 + 5 * k + 1 by omega)]

set_option maxRecDepth 100000 in
set_option maxHeartbeats 4000000 in
theorem farthestStart_loop {l : Launch} {F : Nat × (Int → Int)} {iv : Mm} {s : Int → Int} (hR : RR iv 1 s) (hI : MI 99999 s) {k m : Int} (hk : 0 ≤ k ∧ k < s 2) (hm : 0 ≤ m ∧ m ≤ 40) (hgo : s (14 + s (257 + 5 * k + 3)) ≠ 1) : ∀ (n : Nat) (j : Nat) (bst : Int) (mst : Int) (iv1 : Mm) (y7 : Option VT), (81 - (j : Int) < n) → ((j : Int) ≤ 81) → (FT iv iv1) → (Sv38 iv1 s) → (Fst s k m.toNat j bst mst) → J l (yX0_farthestStart).cls cX0_farthestStart 8 (some FieldType.int) 6 0 0 false F (fun v S iv2 => v = some (i_ (farS s k m.toNat 81)) ∧ S = S0 ∧ FT iv iv2) 0 0 19 [some (r_ 25), some (r_ 1), some (i_ k), some (i_ m), some (i_ bst), some (i_ mst), some (i_ (j : Int)), y7] [] S0 (iv1) := by
  intro n
  induction n with
  | zero =>
    intro j bst mst iv1 y7 hn hj hF hS hB
    omega
  | succ n ih =>
    intro j bst mst iv1 y7 hn hj hF hS hB
    have hmm := hI.many
    have hR1 := hF.rr hR
    have hfr := fdst_rng hI (k := k) (by omega) (j : Int)
    have hgr := (hI.sna k (by omega) (by omega)).2.2.2.1
    have hmr : 0 ≤ mst ∧ mst ≤ 99 := by rcases hB with h | h <;> omega
    refine J.iload (q := 21) dX0_farthestStart_19 rfl ?_ rfl
    refine J.bipush (q := 23) dX0_farthestStart_21 (by decide) ?_ rfl
    refine J.icmp_ge (tgt := 78) (q := 26) dX0_farthestStart_23 rfl rfl (fun c23 => ?_) (fun c23 => ?_)
    · refine J.iload (q := 80) dX0_farthestStart_78 rfl ?_ rfl
      refine J.ireturn dX0_farthestStart_80 rfl ?_
      have hj81 : j = 81 := by omega
      subst hj81
      exact ⟨congrArg (fun q => some (i_ q)) (hB.end (by omega)), rfl, hF⟩
    · refine J.aload_n (q := 27) dX0_farthestStart_26 rfl ?_ rfl
      refine J.getR (ci := 0) (k0 := 1) (c1 := 38) (q := 30) dX0_farthestStart_27 kF_X0_21 rfl (by decide) (by decide) rfl (by decide) rfl ?_ rfl
      refine J.iload_n (q := 31) dX0_farthestStart_30 rfl ?_ rfl
      refine J.iload (q := 33) dX0_farthestStart_31 rfl ?_ rfl
      refine J.callV2i (ci := 4) (q := 36) dX0_farthestStart_33 mv_X4_gateStepsOf kL_X0_61 rfl (by decide) rfl ⟨by decide, by decide⟩ (Nat.le_of_ble_eq_true rfl) ⟨by decide, by decide⟩ rfl (c_gateStepsOf38 hS (by omega) (by omega) (by omega)) ?_
      refine J.istore (q := 38) dX0_farthestStart_36 (Nat.le_of_ble_eq_true rfl) ?_ rfl
      refine J.iload (q := 40) dX0_farthestStart_38 rfl ?_ rfl
      refine J.iload (q := 42) dX0_farthestStart_40 rfl ?_ rfl
      refine J.icmp_le (tgt := 72) (q := 45) (hv := by omega) dX0_farthestStart_42 rfl rfl (fun c42 => ?_) (fun c42 => ?_)
      · have hB3 := hB.no hI (by omega) (by omega) hgo (fun q => by omega)
        refine J.iinc (q := 75) dX0_farthestStart_72 rfl ?_ rfl
        refine J.goto (tgt := 19) dX0_farthestStart_75 rfl ?_
        first
        | exact ih (j + 1) _ _ iv9 _ (by omega) (by omega) (hF.tr hF9) hS9 hB3
        | exact ih (j + 1) _ _ iv1 _ (by omega) (by omega) hF hS hB3
        | (exfalso; omega)
      · refine J.iload (q := 47) dX0_farthestStart_45 rfl ?_ rfl
        refine J.bipush (q := 49) dX0_farthestStart_47 (by decide) ?_ rfl
        refine J.icmp_ge (tgt := 72) (q := 52) (hv := by omega) dX0_farthestStart_49 rfl rfl (fun c49 => ?_) (fun c49 => ?_)
        · have hB3 := hB.no hI (by omega) (by omega) hgo (fun q => by omega)
          refine J.iinc (q := 75) dX0_farthestStart_72 rfl ?_ rfl
          refine J.goto (tgt := 19) dX0_farthestStart_75 rfl ?_
          first
          | exact ih (j + 1) _ _ iv9 _ (by omega) (by omega) (hF.tr hF9) hS9 hB3
          | exact ih (j + 1) _ _ iv1 _ (by omega) (by omega) hF hS hB3
          | (exfalso; omega)
        · refine J.aload_n (q := 53) dX0_farthestStart_52 rfl ?_ rfl
          refine J.aload_n (q := 54) dX0_farthestStart_53 rfl ?_ rfl
          refine J.iload_n (q := 55) dX0_farthestStart_54 rfl ?_ rfl
          refine J.iload (q := 57) dX0_farthestStart_55 rfl ?_ rfl
          refine J.iload_n (q := 58) dX0_farthestStart_57 rfl ?_ rfl
          refine J.callV4 (ci := 0) (q := 61) dX0_farthestStart_58 mv_X0_arrivesFrom kL_X0_97 rfl (by decide) rfl ⟨by decide, by decide⟩ (Nat.le_of_ble_eq_true rfl) ⟨by decide, by decide⟩ rfl (c_X0_arrivesFrom hR1 hI hS hk (by omega) hm) (fun v9 S9 iv9 hp => ?_)
          obtain ⟨rfl, rfl, hF9, hS9⟩ := hp
          refine J.ifb_eq (tgt := 72) (q := 64) dX0_farthestStart_61 rfl rfl (fun c61 => ?_) (fun c61 => ?_)
          · have hB3 := hB.no hI (by omega) (by omega) hgo (fun q => by omega)
            refine J.iinc (q := 75) dX0_farthestStart_72 rfl ?_ rfl
            refine J.goto (tgt := 19) dX0_farthestStart_75 rfl ?_
            first
            | exact ih (j + 1) _ _ iv9 _ (by omega) (by omega) (hF.tr hF9) hS9 hB3
            | exact ih (j + 1) _ _ iv1 _ (by omega) (by omega) hF hS hB3
            | (exfalso; omega)
          · have hB3 := hB.yes hI (by omega) (by omega) hgo ⟨c42, c49, by omega⟩
            refine J.iload (q := 66) dX0_farthestStart_64 rfl ?_ rfl
            refine J.istore (q := 68) dX0_farthestStart_66 (Nat.le_of_ble_eq_true rfl) ?_ rfl
            refine J.iload (q := 70) dX0_farthestStart_68 rfl ?_ rfl
            refine J.istore (q := 72) dX0_farthestStart_70 (Nat.le_of_ble_eq_true rfl) ?_ rfl
            refine J.iinc (q := 75) dX0_farthestStart_72 rfl ?_ rfl
            refine J.goto (tgt := 19) dX0_farthestStart_75 rfl ?_
            first
            | exact ih (j + 1) _ _ iv9 _ (by omega) (by omega) (hF.tr hF9) hS9 hB3
            | exact ih (j + 1) _ _ iv1 _ (by omega) (by omega) hF hS hB3
            | (exfalso; omega)

set_option maxRecDepth 100000 in
set_option maxHeartbeats 4000000 in
theorem c_X0_farthestStart {l : Launch} {F : Nat × (Int → Int)} {iv : Mm} {s : Int → Int} (hR : RR iv 1 s) (hI : MI 99999 s) {k m : Int} (hk : 0 ≤ k ∧ k < s 2) (hm : 0 ≤ m ∧ m ≤ 40) (hgo : s (14 + s (257 + 5 * k + 3)) ≠ 1) : Ctr l F 6 0 0 yX0_farthestStart cX0_farthestStart 8 (some FieldType.int) [r_ 25, r_ 1, i_ k, i_ m] S0 (iv) (fun v S iv2 => v = some (i_ (farS s k m.toNat 81)) ∧ S = S0 ∧ FT iv iv2) := by
  refine Ctr.of false (fun h => by cases h) (by decide) rfl (Nat.le_of_ble_eq_true rfl) ?_
  have hmm := hI.many
  have hgr := (hI.sna k (by omega) (by omega)).2.2.2.1
  refine J.aload_n (q := 1) dX0_farthestStart_0 rfl ?_ rfl
  refine J.aload_n (q := 2) dX0_farthestStart_1 rfl ?_ rfl
  refine J.callV1 (ci := 0) (q := 5) dX0_farthestStart_2 mv_X0_survey kL_X0_32 rfl (by decide) rfl ⟨by decide, by decide⟩ (Nat.le_of_ble_eq_true rfl) ⟨by decide, by decide⟩ rfl (c_X0_survey hR hI) (fun v8 S8 iv8 hp => ?_)
  obtain ⟨rfl, rfl, y1, y2⟩ := hp
  have hF8 : FT iv iv8 := fun q hq => y1 q (by omega)
  refine J.aload_n (q := 6) dX0_farthestStart_5 rfl ?_ rfl
  refine J.getR (ci := 1) (k0 := 8) (c1 := 10) (q := 9) dX0_farthestStart_6 kF_X0_54 rfl (by decide) (by decide) rfl (by decide) rfl ?_ rfl
  refine J.iload_n (q := 10) dX0_farthestStart_9 rfl ?_ rfl
  refine J.iald (n := 8) (q := 11) dX0_farthestStart_10 rfl (by omega) ?_ rfl
  rw [g1_gat (hF8.rr hR) (by omega) (by omega)]
  refine J.istore (q := 13) dX0_farthestStart_11 (Nat.le_of_ble_eq_true rfl) ?_ rfl
  refine J.iconst (q := 14) dX0_farthestStart_13 ?_ rfl
  refine J.istore (q := 16) dX0_farthestStart_14 (Nat.le_of_ble_eq_true rfl) ?_ rfl
  refine J.iconst (q := 17) dX0_farthestStart_16 ?_ rfl
  refine J.istore (q := 19) dX0_farthestStart_17 (Nat.le_of_ble_eq_true rfl) ?_ rfl
  exact farthestStart_loop hR hI hk hm hgo 82 0 _ _ iv8 none (by omega) (by omega) hF8 y2 (Fst.z hgr.1)

set_option maxRecDepth 100000 in
set_option maxHeartbeats 4000000 in
theorem c_X5_farthest {l : Launch} {F : Nat × (Int → Int)} {iv A : Mm} (hC : CR iv A) (hA : AI A) {k m : Int} (hk : -2147483648 ≤ k ∧ k < 2147483648) (hm : -2147483648 ≤ m ∧ m < 2147483648) : Ctr l F 7 0 0 yX5_farthest cX5_farthest 3 (some FieldType.int) [r_ 0, i_ k, i_ m] S0 (iv) (CP iv (an_farthest A k m)) := by
  refine Ctr.of false (fun h => by cases h) (by decide) rfl (Nat.le_of_ble_eq_true rfl) ?_
  have hI := hA.mi
  have hmm := hI.many
  have hkp := hA.kp
  have htp := hA.tp
  refine J.aload_n (q := 1) dX5_farthest_0 rfl ?_ rfl
  refine J.iload_n (q := 2) dX5_farthest_1 rfl ?_ rfl
  refine J.callV1i (ci := 5) (q := 5) dX5_farthest_2 mv_X5_isSnail kL_X5_93 rfl (by decide) rfl ⟨by decide, by decide⟩ (Nat.le_of_ble_eq_true rfl) ⟨by decide, by decide⟩ rfl (c_X5_isSnail (by omega) (g1_many hC.r) (by omega)) ?_
  refine J.ifb_eq (tgt := 17) (q := 8) dX5_farthest_5 rfl rfl (fun c5 => ?_) (fun c5 => ?_)
  · refine J.aload_n (q := 18) dX5_farthest_17 rfl ?_ rfl
    refine J.ldc (q := 20) (z := -1000001) dX5_farthest_18 kK_X5_63 ?_ rfl
    refine J.callV1 (ci := 5) (q := 23) dX5_farthest_20 mv_X5_tell kL_X5_64 rfl (by decide) rfl ⟨by decide, by decide⟩ (Nat.le_of_ble_eq_true rfl) ⟨by decide, by decide⟩ rfl (c_X5_tell (w := 0) (by decide) hC (by decide)) (fun v9 S9 iv9 hp => ?_)
    obtain ⟨rfl, rfl, hf8, hC8⟩ := hp
    refine J.ireturn dX5_farthest_23 rfl ?_
    unfold CP an_farthest
    repeat (first | rw [if_pos (by omega)] | rw [if_neg (by omega)])
    first
    | exact ⟨rfl, rfl, hf8, hC8⟩
    | exact ⟨rfl, rfl, fun q hq => hF9 q (by omega), hC9⟩
    | (exfalso; omega)
  · refine J.iload_n (q := 9) dX5_farthest_8 rfl ?_ rfl
    refine J.bipush (q := 11) dX5_farthest_9 (by decide) ?_ rfl
    refine J.callS2i (q := 14) dX5_farthest_11 mv_X5_isWithin kS_X5_isWithin kL_X5_59 ⟨by decide, by decide⟩ (Nat.le_of_ble_eq_true rfl) ⟨by decide, by decide⟩ rfl (c_X5_isWithin (by omega) (by omega)) ?_
    refine J.ifb_ne (tgt := 24) (q := 17) dX5_farthest_14 rfl rfl (fun c14 => ?_) (fun c14 => ?_)
    · refine J.aload_n (q := 25) dX5_farthest_24 rfl ?_ rfl
      refine J.getR (ci := 5) (k0 := 0) (c1 := 1) (q := 28) dX5_farthest_25 kF_X5_12 rfl (by decide) (by decide) rfl (by decide) rfl ?_ rfl
      refine J.getR (ci := 1) (k0 := 0) (c1 := 2) (q := 31) dX5_farthest_28 kF_X5_68 rfl (by decide) (by decide) rfl (by decide) rfl ?_ rfl
      refine J.aload_n (q := 32) dX5_farthest_31 rfl ?_ rfl
      refine J.getR (ci := 5) (k0 := 0) (c1 := 1) (q := 35) dX5_farthest_32 kF_X5_12 rfl (by decide) (by decide) rfl (by decide) rfl ?_ rfl
      refine J.getR (ci := 1) (k0 := 8) (c1 := 10) (q := 38) dX5_farthest_35 kF_X5_99 rfl (by decide) (by decide) rfl (by decide) rfl ?_ rfl
      refine J.iload_n (q := 39) dX5_farthest_38 rfl ?_ rfl
      refine J.iald (n := 8) (q := 40) dX5_farthest_39 rfl (by omega) ?_ rfl
      rw [g1_gat hC.r (by omega) (by omega)]
      have hsn := hI.sna k (by omega) (by omega)
      have hcl := hI.cel (A 62 (257 + 5 * k + 3)) (by omega) (by omega)
      refine J.iald (n := 81) (q := 41) dX5_farthest_40 rfl (by omega) ?_ rfl
      rw [g1_hed hC.r (by omega) (by omega)]
      refine J.iconst (q := 42) dX5_farthest_41 ?_ rfl
      refine J.icmp_ne (tgt := 52) (q := 45) (hv := by omega) dX5_farthest_42 rfl rfl (fun c42 => ?_) (fun c42 => ?_)
      · refine J.aload_n (q := 53) dX5_farthest_52 rfl ?_ rfl
        refine J.getR (ci := 5) (k0 := 2) (c1 := 25) (q := 56) dX5_farthest_53 kF_X5_22 rfl (by decide) (by decide) rfl (by decide) rfl ?_ rfl
        refine J.aload_n (q := 57) dX5_farthest_56 rfl ?_ rfl
        refine J.getR (ci := 5) (k0 := 0) (c1 := 1) (q := 60) dX5_farthest_57 kF_X5_12 rfl (by decide) (by decide) rfl (by decide) rfl ?_ rfl
        refine J.iload_n (q := 61) dX5_farthest_60 rfl ?_ rfl
        refine J.iload_n (q := 62) dX5_farthest_61 rfl ?_ rfl
        refine J.callV3 (ci := 0) (q := 65) dX5_farthest_62 mv_X0_farthestStart kL_X5_204 rfl (by decide) rfl ⟨by decide, by decide⟩ (Nat.le_of_ble_eq_true rfl) ⟨by decide, by decide⟩ rfl (c_X0_farthestStart hC.r hI (by omega) (by omega) (by omega)) (fun v9 S9 iv9 hp => ?_)
        obtain ⟨rfl, rfl, hF9⟩ := hp
        have hC9 := hC.ft hF9
        refine J.ireturn dX5_farthest_65 rfl ?_
        unfold CP an_farthest
        repeat (first | rw [if_pos (by omega)] | rw [if_neg (by omega)])
        first
        | exact ⟨rfl, rfl, hf8, hC8⟩
        | exact ⟨rfl, rfl, fun q hq => hF9 q (by omega), hC9⟩
        | (exfalso; omega)
      · refine J.aload_n (q := 46) dX5_farthest_45 rfl ?_ rfl
        refine J.ldc (q := 48) (z := -1000004) dX5_farthest_46 kK_X5_172 ?_ rfl
        refine J.callV1 (ci := 5) (q := 51) dX5_farthest_48 mv_X5_tell kL_X5_64 rfl (by decide) rfl ⟨by decide, by decide⟩ (Nat.le_of_ble_eq_true rfl) ⟨by decide, by decide⟩ rfl (c_X5_tell (w := 3) (by decide) hC (by decide)) (fun v9 S9 iv9 hp => ?_)
        obtain ⟨rfl, rfl, hf8, hC8⟩ := hp
        refine J.ireturn dX5_farthest_51 rfl ?_
        unfold CP an_farthest
        repeat (first | rw [if_pos (by omega)] | rw [if_neg (by omega)])
        first
        | exact ⟨rfl, rfl, hf8, hC8⟩
        | exact ⟨rfl, rfl, fun q hq => hF9 q (by omega), hC9⟩
        | (exfalso; omega)
    · refine J.aload_n (q := 18) dX5_farthest_17 rfl ?_ rfl
      refine J.ldc (q := 20) (z := -1000001) dX5_farthest_18 kK_X5_63 ?_ rfl
      refine J.callV1 (ci := 5) (q := 23) dX5_farthest_20 mv_X5_tell kL_X5_64 rfl (by decide) rfl ⟨by decide, by decide⟩ (Nat.le_of_ble_eq_true rfl) ⟨by decide, by decide⟩ rfl (c_X5_tell (w := 0) (by decide) hC (by decide)) (fun v9 S9 iv9 hp => ?_)
      obtain ⟨rfl, rfl, hf8, hC8⟩ := hp
      refine J.ireturn dX5_farthest_23 rfl ?_
      unfold CP an_farthest
      repeat (first | rw [if_pos (by omega)] | rw [if_neg (by omega)])
      first
      | exact ⟨rfl, rfl, hf8, hC8⟩
      | exact ⟨rfl, rfl, fun q hq => hF9 q (by omega), hC9⟩
      | (exfalso; omega)

set_option maxRecDepth 100000 in
set_option maxHeartbeats 4000000 in
theorem leavesTrail_loop {l : Launch} {F : Nat × (Int → Int)} {iv A : Mm} (hC : CR iv A) (hA : AI A) {z k c : Int} (hz : 0 ≤ z ∧ z ≤ 3) (hk : 0 ≤ k ∧ k < A 62 2) (hc : 0 ≤ c ∧ c ≤ 80) : ∀ (n : Nat) (i : Nat) (iv1 : Mm) (y7 : Option VT), (A 75 z - (i : Int) < n) → ((i : Int) ≤ A 75 z) → (DL iv iv1 (A 62) th1 (upr (A 62) (257 + 5 * k + 1) c, iv 30) (i - 1)) → (fitB A z k c i = true) → J l (yX0_leavesTrail).cls cX0_leavesTrail 8 (some FieldType.boolean) 5 0 0 false F (fun v S iv2 => v = some (i_ (b2 (fitB A z k c (A 75 z).toNat = true))) ∧ S = S0 ∧ FT iv iv2 ∧ Sv38 iv2 (A 62)) 0 0 21 [some (r_ 25), some (r_ 1), some (i_ k), some (i_ c), some (r_ 56), some (i_ z), some (i_ (i : Int)), y7] [] S0 (iv1) := by
  intro n
  induction n with
  | zero =>
    intro i iv1 y7 hn hi9 hD hB
    omega
  | succ n ih =>
    intro i iv1 y7 hn hi9 hD hB
    have hI := hA.mi
    have hmm := hI.many
    have hkp := hA.kp
    have htp := hA.tp
    have hsz := hA.sh z (by omega) (by omega)
    have hX := HX.a hI (k := k) (x := c) (by omega) hc (iv 30)
    obtain ⟨x1, x2, x3, x4⟩ := hX.at (th := th1) i
    have hsn := x1.sna k (by omega) (by omega)
    have hdx := dys_X (fdst_s (s := A 62) (k := k) (f := 1) (x := c) hk.1 (Or.inr rfl)) (iv 30) i
    have hfi : fitB A z k c (i + 1) = (fitB A z k c i && decide (A 76 (40 * z + i) = -1 ∨ A 76 (40 * z + i) = dys (upr (A 62) (257 + 5 * k + 1) c) i (257 + 5 * k + 1))) := rfl
    rw [hB, Bool.true_and, hdx] at hfi
    refine J.iload (q := 23) dX0_leavesTrail_21 rfl ?_ rfl
    refine J.aload (q := 25) dX0_leavesTrail_23 rfl ?_ rfl
    refine J.getR (ci := 2) (k0 := 1) (c1 := 58) (q := 28) dX0_leavesTrail_25 kF_X0_101 rfl (by decide) (by decide) rfl (by decide) rfl ?_ rfl
    refine J.iload (q := 30) dX0_leavesTrail_28 rfl ?_ rfl
    refine J.iald (n := 4) (q := 31) dX0_leavesTrail_30 rfl (by omega) ?_ rfl
    rw [hD.1 58 (by omega), (hC.s z (by omega) (by omega)).2]
    refine J.icmp_ge (tgt := 82) (q := 34) dX0_leavesTrail_31 rfl rfl (fun c31 => ?_) (fun c31 => ?_)
    · refine J.iconst (q := 83) dX0_leavesTrail_82 ?_ rfl
      refine J.zreturn dX0_leavesTrail_83 rfl (by omega) ?_
      first
      | (rw [b2_f (by rw [fitB_le hfi (A 75 z).toNat (by omega)]; decide)]; exact ⟨rfl, rfl, hD8.1, hD8.2.1⟩)
      | (rw [b2_t (by rw [show (A 75 z).toNat = i by omega]; exact hB)]; exact ⟨rfl, rfl, hD.1, hD.2.1⟩)
      | (exfalso; omega)
    · refine J.iload (q := 36) dX0_leavesTrail_34 rfl ?_ rfl
      refine J.if_le (tgt := 43) (q := 39) (hv := by omega) dX0_leavesTrail_36 rfl rfl (fun c36 => ?_) (fun c36 => ?_)
      · have hnu := hA.nu (40 * z + i) (by omega) (by omega)
        have hD8 : DL iv iv1 (A 62) th1 (upr (A 62) (257 + 5 * k + 1) c, iv 30) i := by rw [show i - 1 = i by omega] at hD; exact hD
        refine J.aload (q := 45) dX0_leavesTrail_43 rfl ?_ rfl
        refine J.iload (q := 47) dX0_leavesTrail_45 rfl ?_ rfl
        refine J.iload (q := 49) dX0_leavesTrail_47 rfl ?_ rfl
        refine J.callV2i (ci := 2) (q := 52) dX0_leavesTrail_49 mv_X2_numberAt kL_X0_106 rfl (by decide) rfl ⟨by decide, by decide⟩ (Nat.le_of_ble_eq_true rfl) ⟨by decide, by decide⟩ rfl (c_X2_numberAt (f := A 76) (by rw [hD8.1 59 (by omega)]; exact hC.n) (by omega) (by omega)) ?_
        refine J.istore (q := 54) dX0_leavesTrail_52 (Nat.le_of_ble_eq_true rfl) ?_ rfl
        refine J.iload (q := 56) dX0_leavesTrail_54 rfl ?_ rfl
        refine J.iconst (q := 57) dX0_leavesTrail_56 ?_ rfl
        refine J.icmp_eq (tgt := 76) (q := 60) (hv := by omega) dX0_leavesTrail_57 rfl rfl (fun c57 => ?_) (fun c57 => ?_)
        · rw [decide_eq_true (Or.inl c57)] at hfi
          refine J.iinc (q := 79) dX0_leavesTrail_76 rfl ?_ rfl
          refine J.goto (tgt := 21) dX0_leavesTrail_79 rfl ?_
          first
          | exact ih (i + 1) iv9 _ (by omega) (by omega) hD8 hfi
          | exact ih (i + 1) iv1 _ (by omega) (by omega) hD8 hfi
          | (exfalso; omega)
        · refine J.iload (q := 62) dX0_leavesTrail_60 rfl ?_ rfl
          refine J.aload_n (q := 63) dX0_leavesTrail_62 rfl ?_ rfl
          refine J.getR (ci := 0) (k0 := 0) (c1 := 26) (q := 66) dX0_leavesTrail_63 kF_X0_12 rfl (by decide) (by decide) rfl (by decide) rfl ?_ rfl
          refine J.getR (ci := 1) (k0 := 6) (c1 := 33) (q := 69) dX0_leavesTrail_66 kF_X0_51 rfl (by decide) (by decide) rfl (by decide) rfl ?_ rfl
          refine J.iload_n (q := 70) dX0_leavesTrail_69 rfl ?_ rfl
          refine J.iald (n := 8) (q := 71) dX0_leavesTrail_70 rfl (by omega) ?_ rfl
          rw [g26_ats hD8.2.2.1 (by omega) (by omega)]
          refine J.icmp_eq (tgt := 76) (q := 74) (hv := by omega) dX0_leavesTrail_71 rfl rfl (fun c71 => ?_) (fun c71 => ?_)
          · rw [decide_eq_true (Or.inr c71)] at hfi
            refine J.iinc (q := 79) dX0_leavesTrail_76 rfl ?_ rfl
            refine J.goto (tgt := 21) dX0_leavesTrail_79 rfl ?_
            first
            | exact ih (i + 1) iv9 _ (by omega) (by omega) hD8 hfi
            | exact ih (i + 1) iv1 _ (by omega) (by omega) hD8 hfi
            | (exfalso; omega)
          · rw [decide_eq_false (fun q => q.elim c57 c71)] at hfi
            refine J.iconst (q := 75) dX0_leavesTrail_74 ?_ rfl
            refine J.zreturn dX0_leavesTrail_75 rfl (by omega) ?_
            first
            | (rw [b2_f (by rw [fitB_le hfi (A 75 z).toNat (by omega)]; decide)]; exact ⟨rfl, rfl, hD8.1, hD8.2.1⟩)
            | (rw [b2_t (by rw [show (A 75 z).toNat = i by omega]; exact hB)]; exact ⟨rfl, rfl, hD.1, hD.2.1⟩)
            | (exfalso; omega)
      · have hnu := hA.nu (40 * z + i) (by omega) (by omega)
        refine J.aload_n (q := 40) dX0_leavesTrail_39 rfl ?_ rfl
        refine J.callV0 (ci := 0) (q := 43) dX0_leavesTrail_40 mv_X0_passDay kL_X0_45 rfl (by decide) rfl ⟨by decide, by decide⟩ (Nat.le_of_ble_eq_true rfl) ⟨by decide, by decide⟩ rfl (c_X0_passDay hX (by omega) hD) (fun v9 S9 iv9 hp => ?_)
        obtain ⟨rfl, rfl, hD8⟩ := hp
        rw [show i - 1 + 1 = i by omega] at hD8
        refine J.aload (q := 45) dX0_leavesTrail_43 rfl ?_ rfl
        refine J.iload (q := 47) dX0_leavesTrail_45 rfl ?_ rfl
        refine J.iload (q := 49) dX0_leavesTrail_47 rfl ?_ rfl
        refine J.callV2i (ci := 2) (q := 52) dX0_leavesTrail_49 mv_X2_numberAt kL_X0_106 rfl (by decide) rfl ⟨by decide, by decide⟩ (Nat.le_of_ble_eq_true rfl) ⟨by decide, by decide⟩ rfl (c_X2_numberAt (f := A 76) (by rw [hD8.1 59 (by omega)]; exact hC.n) (by omega) (by omega)) ?_
        refine J.istore (q := 54) dX0_leavesTrail_52 (Nat.le_of_ble_eq_true rfl) ?_ rfl
        refine J.iload (q := 56) dX0_leavesTrail_54 rfl ?_ rfl
        refine J.iconst (q := 57) dX0_leavesTrail_56 ?_ rfl
        refine J.icmp_eq (tgt := 76) (q := 60) (hv := by omega) dX0_leavesTrail_57 rfl rfl (fun c57 => ?_) (fun c57 => ?_)
        · rw [decide_eq_true (Or.inl c57)] at hfi
          refine J.iinc (q := 79) dX0_leavesTrail_76 rfl ?_ rfl
          refine J.goto (tgt := 21) dX0_leavesTrail_79 rfl ?_
          first
          | exact ih (i + 1) iv9 _ (by omega) (by omega) hD8 hfi
          | exact ih (i + 1) iv1 _ (by omega) (by omega) hD8 hfi
          | (exfalso; omega)
        · refine J.iload (q := 62) dX0_leavesTrail_60 rfl ?_ rfl
          refine J.aload_n (q := 63) dX0_leavesTrail_62 rfl ?_ rfl
          refine J.getR (ci := 0) (k0 := 0) (c1 := 26) (q := 66) dX0_leavesTrail_63 kF_X0_12 rfl (by decide) (by decide) rfl (by decide) rfl ?_ rfl
          refine J.getR (ci := 1) (k0 := 6) (c1 := 33) (q := 69) dX0_leavesTrail_66 kF_X0_51 rfl (by decide) (by decide) rfl (by decide) rfl ?_ rfl
          refine J.iload_n (q := 70) dX0_leavesTrail_69 rfl ?_ rfl
          refine J.iald (n := 8) (q := 71) dX0_leavesTrail_70 rfl (by omega) ?_ rfl
          rw [g26_ats hD8.2.2.1 (by omega) (by omega)]
          refine J.icmp_eq (tgt := 76) (q := 74) (hv := by omega) dX0_leavesTrail_71 rfl rfl (fun c71 => ?_) (fun c71 => ?_)
          · rw [decide_eq_true (Or.inr c71)] at hfi
            refine J.iinc (q := 79) dX0_leavesTrail_76 rfl ?_ rfl
            refine J.goto (tgt := 21) dX0_leavesTrail_79 rfl ?_
            first
            | exact ih (i + 1) iv9 _ (by omega) (by omega) hD8 hfi
            | exact ih (i + 1) iv1 _ (by omega) (by omega) hD8 hfi
            | (exfalso; omega)
          · rw [decide_eq_false (fun q => q.elim c57 c71)] at hfi
            refine J.iconst (q := 75) dX0_leavesTrail_74 ?_ rfl
            refine J.zreturn dX0_leavesTrail_75 rfl (by omega) ?_
            first
            | (rw [b2_f (by rw [fitB_le hfi (A 75 z).toNat (by omega)]; decide)]; exact ⟨rfl, rfl, hD8.1, hD8.2.1⟩)
            | (rw [b2_t (by rw [show (A 75 z).toNat = i by omega]; exact hB)]; exact ⟨rfl, rfl, hD.1, hD.2.1⟩)
            | (exfalso; omega)

set_option maxRecDepth 100000 in
set_option maxHeartbeats 4000000 in
theorem c_X0_leavesTrail {l : Launch} {F : Nat × (Int → Int)} {iv A : Mm} (hC : CR iv A) (hA : AI A) {z k c : Int} (hz : 0 ≤ z ∧ z ≤ 3) (hk : 0 ≤ k ∧ k < A 62 2) (hc : 0 ≤ c ∧ c ≤ 80) (hS : Sv38 iv (A 62)) : Ctr l F 5 0 0 yX0_leavesTrail cX0_leavesTrail 8 (some FieldType.boolean) [r_ 25, r_ 1, i_ k, i_ c, r_ 56, i_ z] S0 (iv) (fun v S iv2 => v = some (i_ (b2 (fitB A z k c (A 75 z).toNat = true))) ∧ S = S0 ∧ FT iv iv2 ∧ Sv38 iv2 (A 62)) := by
  refine Ctr.of false (fun h => by cases h) (by decide) rfl (Nat.le_of_ble_eq_true rfl) ?_
  have hI := hA.mi
  have hmm := hI.many
  have hkp := hA.kp
  have htp := hA.tp
  refine J.aload_n (q := 1) dX0_leavesTrail_0 rfl ?_ rfl
  refine J.getR (ci := 0) (k0 := 0) (c1 := 26) (q := 4) dX0_leavesTrail_1 kF_X0_12 rfl (by decide) (by decide) rfl (by decide) rfl ?_ rfl
  refine J.aload_n (q := 5) dX0_leavesTrail_4 rfl ?_ rfl
  refine J.callV1 (ci := 1) (q := 8) dX0_leavesTrail_5 mv_X1_become kL_X0_25 rfl (by decide) rfl ⟨by decide, by decide⟩ (Nat.le_of_ble_eq_true rfl) ⟨by decide, by decide⟩ rfl (c_become26_1 hC.r) (fun v9 S9 iv9 hp => ?_)
  obtain ⟨rfl, rfl, b1, hR9⟩ := hp
  have hF9 : FT iv iv9 := fun q hq => b1 q (by omega)
  have hm9 : iv9 30 = iv 30 := b1 30 (by omega)
  refine J.aload_n (q := 9) dX0_leavesTrail_8 rfl ?_ rfl
  refine J.getR (ci := 0) (k0 := 0) (c1 := 26) (q := 12) dX0_leavesTrail_9 kF_X0_12 rfl (by decide) (by decide) rfl (by decide) rfl ?_ rfl
  refine J.getR (ci := 1) (k0 := 6) (c1 := 33) (q := 15) dX0_leavesTrail_12 kF_X0_51 rfl (by decide) (by decide) rfl (by decide) rfl ?_ rfl
  refine J.iload_n (q := 16) dX0_leavesTrail_15 rfl ?_ rfl
  refine J.iload_n (q := 17) dX0_leavesTrail_16 rfl ?_ rfl
  refine J.iast (n := 8) (q := 18) dX0_leavesTrail_17 rfl (by omega) ?_ rfl
  refine J.iconst (q := 19) dX0_leavesTrail_18 ?_ rfl
  refine J.istore (q := 21) dX0_leavesTrail_19 (Nat.le_of_ble_eq_true rfl) ?_ rfl
  have hsz := hA.sh z (by omega) (by omega)
  refine leavesTrail_loop hC hA hz hk hc 41 0 _ none (by omega) (by omega) ⟨hF9.up (by omega), fun a e a0 a1 e0 e1 => by rw [up_n _ _ _ (by decide), up_n _ _ _ (by decide), b1 42 (by omega), b1 43 (by omega)]; exact hS a e a0 a1 e0 e1, u26_ats hR9 (by omega) (by omega), fun j j0 j1 => by rw [up_n _ _ _ (by decide), hm9]; rfl⟩ rfl

theorem wrgT_c (A : Mm) (z k : Int) : (0 ≤ wrgS A z ∧ wrgT A z k = wrgS A z) ∨ (wrgS A z < 0 ∧ (0 ≤ k ∧ k ≤ A 62 2 - 1) ∧ wrgT A z k = -1) ∨ (wrgS A z < 0 ∧ ¬ (0 ≤ k ∧ k ≤ A 62 2 - 1) ∧ wrgT A z k = 0) := by
  unfold wrgT
  by_cases h : 0 ≤ wrgS A z
  · exact Or.inl ⟨h, if_pos h⟩
  · rw [if_neg h]
    by_cases h2 : 0 ≤ k ∧ k ≤ A 62 2 - 1
    · exact Or.inr (Or.inl ⟨by omega, h2, if_pos h2⟩)
    · exact Or.inr (Or.inr ⟨by omega, h2, if_neg h2⟩)
set_option maxRecDepth 100000 in
set_option maxHeartbeats 4000000 in
theorem c_X5_trailFlaw {l : Launch} {F : Nat × (Int → Int)} {iv A : Mm} (hC : CR iv A) (hA : AI A) {z k : Int} (hz : -2147483648 ≤ z ∧ z < 2147483648) (hk : -2147483648 ≤ k ∧ k < 2147483648) : Ctr l F 3 0 0 yX5_trailFlaw cX5_trailFlaw 4 (some FieldType.int) [r_ 0, i_ z, i_ k] S0 (iv) (Ret (some (i_ (if 0 ≤ wrgT A z k then -1000001 - wrgT A z k else 0))) S0 iv) := by
  refine Ctr.of false (fun h => by cases h) (by decide) rfl (Nat.le_of_ble_eq_true rfl) ?_
  have hI := hA.mi
  have hmm := hI.many
  have hkp := hA.kp
  have htp := hA.tp
  have ht := wrgT_c A z k
  refine J.aload_n (q := 1) dX5_trailFlaw_0 rfl ?_ rfl
  refine J.iload_n (q := 2) dX5_trailFlaw_1 rfl ?_ rfl
  refine J.callV1i (ci := 5) (q := 5) dX5_trailFlaw_2 mv_X5_sheetFlaw kL_X5_266 rfl (by decide) rfl ⟨by decide, by decide⟩ (Nat.le_of_ble_eq_true rfl) ⟨by decide, by decide⟩ rfl (c_X5_sheetFlaw hC hA (by omega)) ?_
  obtain ⟨fl, hfl⟩ : ∃ fl : Int, fl = (if 0 ≤ wrgS A z then -1000001 - wrgS A z else 0) := ⟨_, rfl⟩
  rw [← hfl]
  have hw := wrgS_c A z
  have hfl1 : (0 ≤ wrgS A z ∧ fl = -1000001 - wrgS A z) ∨ (wrgS A z < 0 ∧ fl = 0) := by
    by_cases h : 0 ≤ wrgS A z
    · exact Or.inl ⟨h, by rw [hfl, if_pos h]⟩
    · exact Or.inr ⟨by omega, by rw [hfl, if_neg h]⟩
  clear hfl
  refine J.istore_n (q := 6) dX5_trailFlaw_5 (Nat.le_of_ble_eq_true rfl) ?_ rfl
  refine J.iload_n (q := 7) dX5_trailFlaw_6 rfl ?_ rfl
  refine J.if_eq (tgt := 12) (q := 10) (hv := by omega) dX5_trailFlaw_7 rfl rfl (fun c7 => ?_) (fun c7 => ?_)
  · refine J.aload_n (q := 13) dX5_trailFlaw_12 rfl ?_ rfl
    refine J.iload_n (q := 14) dX5_trailFlaw_13 rfl ?_ rfl
    refine J.callV1i (ci := 5) (q := 17) dX5_trailFlaw_14 mv_X5_isSnail kL_X5_93 rfl (by decide) rfl ⟨by decide, by decide⟩ (Nat.le_of_ble_eq_true rfl) ⟨by decide, by decide⟩ rfl (c_X5_isSnail (by omega) (g1_many hC.r) (by omega)) ?_
    refine J.ifb_eq (tgt := 24) (q := 20) dX5_trailFlaw_17 rfl rfl (fun c17 => ?_) (fun c17 => ?_)
    · refine J.ldc (q := 26) (z := -1000001) dX5_trailFlaw_24 kK_X5_63 ?_ rfl
      refine J.ireturn dX5_trailFlaw_26 rfl ?_
      refine ⟨congrArg (fun q => some (i_ q)) ?_, rfl, rfl⟩
      first
      | (rw [if_pos (by omega)]; omega)
      | (rw [if_neg (by omega)])
      | (exfalso; omega)
    · refine J.iconst (q := 21) dX5_trailFlaw_20 ?_ rfl
      refine J.goto (tgt := 26) dX5_trailFlaw_21 rfl ?_
      refine J.ireturn dX5_trailFlaw_26 rfl ?_
      refine ⟨congrArg (fun q => some (i_ q)) ?_, rfl, rfl⟩
      first
      | (rw [if_pos (by omega)]; omega)
      | (rw [if_neg (by omega)])
      | (exfalso; omega)
  · refine J.iload_n (q := 11) dX5_trailFlaw_10 rfl ?_ rfl
    refine J.ireturn dX5_trailFlaw_11 rfl ?_
    refine ⟨congrArg (fun q => some (i_ q)) ?_, rfl, rfl⟩
    first
    | (rw [if_pos (by omega)]; omega)
    | (rw [if_neg (by omega)])
    | (exfalso; omega)

set_option maxRecDepth 100000 in
set_option maxHeartbeats 4000000 in
theorem fits5_loop {l : Launch} {F : Nat × (Int → Int)} {iv A : Mm} (hC : CR iv A) (hA : AI A) {z k : Int} (hz : 0 ≤ z ∧ z ≤ 3) (hk : 0 ≤ k ∧ k < A 62 2) (hw : wrgT A z k < 0) {fl : Int} : ∀ (n : Nat) (c : Nat) (iv1 : Mm), (81 - (c : Int) < n) → ((c : Int) ≤ 81) → (FT iv iv1) → (Sv38 iv1 (A 62)) → J l (yX5_fits).cls cX5_fits 6 (some FieldType.int) 7 0 0 false F (CP iv (an_fits A z k)) 0 0 34 [some (r_ 0), some (i_ z), some (i_ k), some (i_ fl), some (i_ (sumZ (fun c => b2 (fitB A z k c (A 75 z).toNat = true)) c)), some (i_ (c : Int))] [] S0 (iv1) := by
  intro n
  induction n with
  | zero =>
    intro c iv1 hn hc hF hS
    omega
  | succ n ih =>
    intro c iv1 hn hc hF hS
    have hI := hA.mi
    have hmm := hI.many
    have hkp := hA.kp
    have htp := hA.tp
    refine J.iload (q := 36) dX5_fits_34 rfl ?_ rfl
    refine J.bipush (q := 38) dX5_fits_36 (by decide) ?_ rfl
    refine J.icmp_ge (tgt := 72) (q := 41) dX5_fits_38 rfl rfl (fun c38 => ?_) (fun c38 => ?_)
    · refine J.iload (q := 74) dX5_fits_72 rfl ?_ rfl
      refine J.ireturn dX5_fits_74 rfl ?_
      have hc81 : c = 81 := by omega
      subst hc81
      unfold CP an_fits
      rw [if_neg (by omega)]
      exact ⟨rfl, rfl, fun q hq => hF q (by omega), hC.ft hF⟩
    · refine J.aload_n (q := 42) dX5_fits_41 rfl ?_ rfl
      refine J.getR (ci := 5) (k0 := 2) (c1 := 25) (q := 45) dX5_fits_42 kF_X5_22 rfl (by decide) (by decide) rfl (by decide) rfl ?_ rfl
      refine J.aload_n (q := 46) dX5_fits_45 rfl ?_ rfl
      refine J.getR (ci := 5) (k0 := 0) (c1 := 1) (q := 49) dX5_fits_46 kF_X5_12 rfl (by decide) (by decide) rfl (by decide) rfl ?_ rfl
      refine J.iload_n (q := 50) dX5_fits_49 rfl ?_ rfl
      refine J.iload (q := 52) dX5_fits_50 rfl ?_ rfl
      refine J.aload_n (q := 53) dX5_fits_52 rfl ?_ rfl
      refine J.getR (ci := 5) (k0 := 5) (c1 := 56) (q := 56) dX5_fits_53 kF_X5_43 rfl (by decide) (by decide) rfl (by decide) rfl ?_ rfl
      refine J.iload_n (q := 57) dX5_fits_56 rfl ?_ rfl
      refine J.callV5 (ci := 0) (q := 60) dX5_fits_57 mv_X0_leavesTrail kL_X5_211 rfl (by decide) rfl ⟨by decide, by decide⟩ (Nat.le_of_ble_eq_true rfl) ⟨by decide, by decide⟩ rfl (c_X0_leavesTrail (hC.ft hF) hA hz hk (by omega) hS) (fun v9 S9 iv9 hp => ?_)
      obtain ⟨rfl, rfl, hF9, hS9⟩ := hp
      refine J.ifb_eq (tgt := 66) (q := 63) dX5_fits_60 rfl rfl (fun c60 => ?_) (fun c60 => ?_)
      · have he : (fun c => b2 (fitB A z k c (A 75 z).toNat = true)) (c : Int) = 0 := b2_f c60
        refine J.iinc (q := 69) dX5_fits_66 rfl ?_ rfl
        refine J.goto (tgt := 34) dX5_fits_69 rfl ?_
        refine J.eql ?_ (ih (c + 1) iv9 (by omega) (by omega) (hF.tr hF9) hS9)
        rw [show sumZ (fun c => b2 (fitB A z k c (A 75 z).toNat = true)) (c + 1) = sumZ (fun c => b2 (fitB A z k c (A 75 z).toNat = true)) c + (fun c => b2 (fitB A z k c (A 75 z).toNat = true)) (c : Int) from rfl, he]
        first
        | rfl
        | (rw [Int.add_zero]; rfl)
      · have he : (fun c => b2 (fitB A z k c (A 75 z).toNat = true)) (c : Int) = 1 := b2_t c60
        refine J.iinc (q := 66) dX5_fits_63 rfl ?_ rfl
        refine J.iinc (q := 69) dX5_fits_66 rfl ?_ rfl
        refine J.goto (tgt := 34) dX5_fits_69 rfl ?_
        refine J.eql ?_ (ih (c + 1) iv9 (by omega) (by omega) (hF.tr hF9) hS9)
        rw [show sumZ (fun c => b2 (fitB A z k c (A 75 z).toNat = true)) (c + 1) = sumZ (fun c => b2 (fitB A z k c (A 75 z).toNat = true)) c + (fun c => b2 (fitB A z k c (A 75 z).toNat = true)) (c : Int) from rfl, he]
        first
        | rfl
        | (rw [Int.add_zero]; rfl)

set_option maxRecDepth 100000 in
set_option maxHeartbeats 4000000 in
theorem c_X5_fits {l : Launch} {F : Nat × (Int → Int)} {iv A : Mm} (hC : CR iv A) (hA : AI A) {z k : Int} (hz : -2147483648 ≤ z ∧ z < 2147483648) (hk : -2147483648 ≤ k ∧ k < 2147483648) : Ctr l F 7 0 0 yX5_fits cX5_fits 6 (some FieldType.int) [r_ 0, i_ z, i_ k] S0 (iv) (CP iv (an_fits A z k)) := by
  refine Ctr.of false (fun h => by cases h) (by decide) rfl (Nat.le_of_ble_eq_true rfl) ?_
  have hI := hA.mi
  have hmm := hI.many
  have hkp := hA.kp
  have htp := hA.tp
  refine J.aload_n (q := 1) dX5_fits_0 rfl ?_ rfl
  refine J.iload_n (q := 2) dX5_fits_1 rfl ?_ rfl
  refine J.iload_n (q := 3) dX5_fits_2 rfl ?_ rfl
  refine J.callV2i (ci := 5) (q := 6) dX5_fits_3 mv_X5_trailFlaw kL_X5_207 rfl (by decide) rfl ⟨by decide, by decide⟩ (Nat.le_of_ble_eq_true rfl) ⟨by decide, by decide⟩ rfl (c_X5_trailFlaw hC hA (by omega) (by omega)) ?_
  obtain ⟨fl, hfl⟩ : ∃ fl : Int, fl = (if 0 ≤ wrgT A z k then -1000001 - wrgT A z k else 0) := ⟨_, rfl⟩
  rw [← hfl]
  have hw := wrgS_c A z
  have ht := wrgT_c A z k
  have hfl1 : (0 ≤ wrgT A z k ∧ fl = -1000001 - wrgT A z k) ∨ (wrgT A z k < 0 ∧ fl = 0) := by
    by_cases h : 0 ≤ wrgT A z k
    · exact Or.inl ⟨h, by rw [hfl, if_pos h]⟩
    · exact Or.inr ⟨by omega, by rw [hfl, if_neg h]⟩
  clear hfl
  refine J.istore_n (q := 7) dX5_fits_6 (Nat.le_of_ble_eq_true rfl) ?_ rfl
  refine J.iload_n (q := 8) dX5_fits_7 rfl ?_ rfl
  refine J.if_eq (tgt := 17) (q := 11) (hv := by omega) dX5_fits_8 rfl rfl (fun c8 => ?_) (fun c8 => ?_)
  · refine J.aload_n (q := 18) dX5_fits_17 rfl ?_ rfl
    refine J.getR (ci := 5) (k0 := 2) (c1 := 25) (q := 21) dX5_fits_18 kF_X5_22 rfl (by decide) (by decide) rfl (by decide) rfl ?_ rfl
    refine J.aload_n (q := 22) dX5_fits_21 rfl ?_ rfl
    refine J.getR (ci := 5) (k0 := 0) (c1 := 1) (q := 25) dX5_fits_22 kF_X5_12 rfl (by decide) (by decide) rfl (by decide) rfl ?_ rfl
    refine J.callV1 (ci := 0) (q := 28) dX5_fits_25 mv_X0_survey kL_X5_210 rfl (by decide) rfl ⟨by decide, by decide⟩ (Nat.le_of_ble_eq_true rfl) ⟨by decide, by decide⟩ rfl (c_X0_survey hC.r hI) (fun v9 S9 iv9 hp => ?_)
    obtain ⟨rfl, rfl, y1, y2⟩ := hp
    have hF9 : FT iv iv9 := fun q hq => y1 q (by omega)
    refine J.iconst (q := 29) dX5_fits_28 ?_ rfl
    refine J.istore (q := 31) dX5_fits_29 (Nat.le_of_ble_eq_true rfl) ?_ rfl
    refine J.iconst (q := 32) dX5_fits_31 ?_ rfl
    refine J.istore (q := 34) dX5_fits_32 (Nat.le_of_ble_eq_true rfl) ?_ rfl
    exact fits5_loop hC hA (by omega) (by omega) (by omega) 82 0 iv9 (by omega) (by omega) hF9 y2
  · refine J.aload_n (q := 12) dX5_fits_11 rfl ?_ rfl
    refine J.iload_n (q := 13) dX5_fits_12 rfl ?_ rfl
    refine J.callV1 (ci := 5) (q := 16) dX5_fits_13 mv_X5_tell kL_X5_64 rfl (by decide) rfl ⟨by decide, by decide⟩ (Nat.le_of_ble_eq_true rfl) ⟨by decide, by decide⟩ rfl (c_X5_tell (w := wrgT A z k) (by omega) hC (by omega)) (fun v8 S8 iv8 hp => ?_)
    obtain ⟨rfl, rfl, hf8, hC8⟩ := hp
    refine J.ireturn dX5_fits_16 rfl ?_
    unfold CP an_fits
    repeat (first | rw [if_pos (by omega)] | rw [if_neg (by omega)])
    first
    | exact ⟨rfl, rfl, hf8, hC8⟩
    | (exfalso; omega)

set_option maxRecDepth 100000 in
set_option maxHeartbeats 4000000 in
theorem began5_loop {l : Launch} {F : Nat × (Int → Int)} {iv A : Mm} (hC : CR iv A) (hA : AI A) {z k : Int} (hz : 0 ≤ z ∧ z ≤ 3) (hk : 0 ≤ k ∧ k < A 62 2) (hw : wrgT A z k < 0) {fl : Int} {R : Int} : ∀ (n : Nat) (c : Nat) (iv1 : Mm), (81 - (c : Int) < n) → ((c : Int) ≤ 81) → (FT iv iv1) → (Sv38 iv1 (A 62)) → (firC (fun c => fitB A z k c (A 75 z).toNat) (81 - c) (c : Int) = R) → (firC (fun c => fitB A z k c (A 75 z).toNat) 81 0 = R) → J l (yX5_began).cls cX5_began 5 (some FieldType.int) 7 0 0 false F (CP iv (an_began A z k)) 0 0 31 [some (r_ 0), some (i_ z), some (i_ k), some (i_ fl), some (i_ (c : Int))] [] S0 (iv1) := by
  intro n
  induction n with
  | zero =>
    intro c iv1 hn hc hF hS hB hR
    omega
  | succ n ih =>
    intro c iv1 hn hc hF hS hB hR
    have hI := hA.mi
    have hmm := hI.many
    have hkp := hA.kp
    have htp := hA.tp
    refine J.iload (q := 33) dX5_began_31 rfl ?_ rfl
    refine J.bipush (q := 35) dX5_began_33 (by decide) ?_ rfl
    refine J.icmp_ge (tgt := 69) (q := 38) dX5_began_35 rfl rfl (fun c35 => ?_) (fun c35 => ?_)
    · rw [show 81 - c = 0 by omega, firC] at hB
      refine J.aload_n (q := 70) dX5_began_69 rfl ?_ rfl
      refine J.ldc (q := 72) (z := -1000004) dX5_began_70 kK_X5_172 ?_ rfl
      refine J.callV1 (ci := 5) (q := 75) dX5_began_72 mv_X5_tell kL_X5_64 rfl (by decide) rfl ⟨by decide, by decide⟩ (Nat.le_of_ble_eq_true rfl) ⟨by decide, by decide⟩ rfl (c_X5_tell (w := 3) (by decide) (hC.ft hF) (by decide)) (fun v8 S8 iv8 hp => ?_)
      obtain ⟨rfl, rfl, hf8, hC8⟩ := hp
      refine J.ireturn dX5_began_75 rfl ?_
      unfold CP an_began
      rw [if_neg (by omega), hR]
      subst hB
      first
      | (rw [if_pos (by omega)]; exact ⟨rfl, rfl, fun q hq => (hf8 q hq).trans (hF q (by omega)), hC8⟩)
      | (rw [if_neg (by omega)]; exact ⟨rfl, rfl, fun q hq => (hF9 q (by omega)).trans (hF q (by omega)), hC.ft (hF.tr hF9)⟩)
      | (exfalso; omega)
    · rw [show 81 - c = (80 - c) + 1 by omega, firC] at hB
      refine J.aload_n (q := 39) dX5_began_38 rfl ?_ rfl
      refine J.getR (ci := 5) (k0 := 2) (c1 := 25) (q := 42) dX5_began_39 kF_X5_22 rfl (by decide) (by decide) rfl (by decide) rfl ?_ rfl
      refine J.aload_n (q := 43) dX5_began_42 rfl ?_ rfl
      refine J.getR (ci := 5) (k0 := 0) (c1 := 1) (q := 46) dX5_began_43 kF_X5_12 rfl (by decide) (by decide) rfl (by decide) rfl ?_ rfl
      refine J.iload_n (q := 47) dX5_began_46 rfl ?_ rfl
      refine J.iload (q := 49) dX5_began_47 rfl ?_ rfl
      refine J.aload_n (q := 50) dX5_began_49 rfl ?_ rfl
      refine J.getR (ci := 5) (k0 := 5) (c1 := 56) (q := 53) dX5_began_50 kF_X5_43 rfl (by decide) (by decide) rfl (by decide) rfl ?_ rfl
      refine J.iload_n (q := 54) dX5_began_53 rfl ?_ rfl
      refine J.callV5 (ci := 0) (q := 57) dX5_began_54 mv_X0_leavesTrail kL_X5_211 rfl (by decide) rfl ⟨by decide, by decide⟩ (Nat.le_of_ble_eq_true rfl) ⟨by decide, by decide⟩ rfl (c_X0_leavesTrail (hC.ft hF) hA hz hk (by omega) hS) (fun v9 S9 iv9 hp => ?_)
      obtain ⟨rfl, rfl, hF9, hS9⟩ := hp
      refine J.ifb_eq (tgt := 63) (q := 60) dX5_began_57 rfl rfl (fun c57 => ?_) (fun c57 => ?_)
      · rw [if_neg c57] at hB
        refine J.iinc (q := 66) dX5_began_63 rfl ?_ rfl
        refine J.goto (tgt := 31) dX5_began_66 rfl ?_
        exact ih (c + 1) iv9 (by omega) (by omega) (hF.tr hF9) hS9 (by rw [show 81 - (c + 1) = 80 - c by omega]; exact hB) hR
      · rw [if_pos c57] at hB
        refine J.iload (q := 62) dX5_began_60 rfl ?_ rfl
        refine J.ireturn dX5_began_62 rfl ?_
        unfold CP an_began
        rw [if_neg (by omega), hR]
        subst hB
        first
        | (rw [if_pos (by omega)]; exact ⟨rfl, rfl, fun q hq => (hf8 q hq).trans (hF q (by omega)), hC8⟩)
        | (rw [if_neg (by omega)]; exact ⟨rfl, rfl, fun q hq => (hF9 q (by omega)).trans (hF q (by omega)), hC.ft (hF.tr hF9)⟩)
        | (exfalso; omega)

set_option maxRecDepth 100000 in
set_option maxHeartbeats 4000000 in
theorem c_X5_began {l : Launch} {F : Nat × (Int → Int)} {iv A : Mm} (hC : CR iv A) (hA : AI A) {z k : Int} (hz : -2147483648 ≤ z ∧ z < 2147483648) (hk : -2147483648 ≤ k ∧ k < 2147483648) : Ctr l F 7 0 0 yX5_began cX5_began 5 (some FieldType.int) [r_ 0, i_ z, i_ k] S0 (iv) (CP iv (an_began A z k)) := by
  refine Ctr.of false (fun h => by cases h) (by decide) rfl (Nat.le_of_ble_eq_true rfl) ?_
  have hI := hA.mi
  have hmm := hI.many
  have hkp := hA.kp
  have htp := hA.tp
  refine J.aload_n (q := 1) dX5_began_0 rfl ?_ rfl
  refine J.iload_n (q := 2) dX5_began_1 rfl ?_ rfl
  refine J.iload_n (q := 3) dX5_began_2 rfl ?_ rfl
  refine J.callV2i (ci := 5) (q := 6) dX5_began_3 mv_X5_trailFlaw kL_X5_207 rfl (by decide) rfl ⟨by decide, by decide⟩ (Nat.le_of_ble_eq_true rfl) ⟨by decide, by decide⟩ rfl (c_X5_trailFlaw hC hA (by omega) (by omega)) ?_
  obtain ⟨fl, hfl⟩ : ∃ fl : Int, fl = (if 0 ≤ wrgT A z k then -1000001 - wrgT A z k else 0) := ⟨_, rfl⟩
  rw [← hfl]
  have hw := wrgS_c A z
  have ht := wrgT_c A z k
  have hfl1 : (0 ≤ wrgT A z k ∧ fl = -1000001 - wrgT A z k) ∨ (wrgT A z k < 0 ∧ fl = 0) := by
    by_cases h : 0 ≤ wrgT A z k
    · exact Or.inl ⟨h, by rw [hfl, if_pos h]⟩
    · exact Or.inr ⟨by omega, by rw [hfl, if_neg h]⟩
  clear hfl
  refine J.istore_n (q := 7) dX5_began_6 (Nat.le_of_ble_eq_true rfl) ?_ rfl
  refine J.iload_n (q := 8) dX5_began_7 rfl ?_ rfl
  refine J.if_eq (tgt := 17) (q := 11) (hv := by omega) dX5_began_8 rfl rfl (fun c8 => ?_) (fun c8 => ?_)
  · refine J.aload_n (q := 18) dX5_began_17 rfl ?_ rfl
    refine J.getR (ci := 5) (k0 := 2) (c1 := 25) (q := 21) dX5_began_18 kF_X5_22 rfl (by decide) (by decide) rfl (by decide) rfl ?_ rfl
    refine J.aload_n (q := 22) dX5_began_21 rfl ?_ rfl
    refine J.getR (ci := 5) (k0 := 0) (c1 := 1) (q := 25) dX5_began_22 kF_X5_12 rfl (by decide) (by decide) rfl (by decide) rfl ?_ rfl
    refine J.callV1 (ci := 0) (q := 28) dX5_began_25 mv_X0_survey kL_X5_210 rfl (by decide) rfl ⟨by decide, by decide⟩ (Nat.le_of_ble_eq_true rfl) ⟨by decide, by decide⟩ rfl (c_X0_survey hC.r hI) (fun v9 S9 iv9 hp => ?_)
    obtain ⟨rfl, rfl, y1, y2⟩ := hp
    have hF9 : FT iv iv9 := fun q hq => y1 q (by omega)
    refine J.iconst (q := 29) dX5_began_28 ?_ rfl
    refine J.istore (q := 31) dX5_began_29 (Nat.le_of_ble_eq_true rfl) ?_ rfl
    exact began5_loop hC hA (by omega) (by omega) (by omega) 82 0 iv9 (by omega) (by omega) hF9 y2 rfl rfl
  · refine J.aload_n (q := 12) dX5_began_11 rfl ?_ rfl
    refine J.iload_n (q := 13) dX5_began_12 rfl ?_ rfl
    refine J.callV1 (ci := 5) (q := 16) dX5_began_13 mv_X5_tell kL_X5_64 rfl (by decide) rfl ⟨by decide, by decide⟩ (Nat.le_of_ble_eq_true rfl) ⟨by decide, by decide⟩ rfl (c_X5_tell (w := wrgT A z k) (by omega) hC (by omega)) (fun v8 S8 iv8 hp => ?_)
    obtain ⟨rfl, rfl, hf8, hC8⟩ := hp
    refine J.ireturn dX5_began_16 rfl ?_
    unfold CP an_began
    repeat (first | rw [if_pos (by omega)] | rw [if_neg (by omega)])
    first
    | exact ⟨rfl, rfl, hf8, hC8⟩
    | (exfalso; omega)

