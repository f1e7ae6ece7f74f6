/-! the reference: the farthest, trails (printed by wip/whole/m_model11.py) -/
theorem farS_lt (s : Int → Int) (k : Int) (n : Nat) : ∀ c : Nat, -1 ≤ farS s k n c ∧ farS s k n c < c
  | 0 => by simp [farS]
  | c + 1 => by
    have := farS_lt s k n c
    unfold farS
    split <;> omega
theorem fdst_AT (s : Int → Int) (k c : Int) : fdst (upr s (257 + 5 * k + 1) c) = fdst s ∨ ¬ (0 ≤ k) := by
  by_cases hk : 0 ≤ k
  · refine Or.inl ?_
    funext a b
    exact fdst_upr (by omega) (by omega)
  · exact Or.inr hk
theorem fitB_hi (iv : Mm) : fitB (hi iv) = fitB iv := by
  funext z k c i
  induction i with
  | zero => rfl
  | succ i ih => rw [fitB, fitB, ih]; rfl
set_option maxRecDepth 100000 in
set_option maxHeartbeats 4000000 in
theorem farthest_loop {l : Launch} {F : Nat × (Int → Int)} {iv : Mm} (hA : AI iv) {k n0 : Int} (hk : 0 ≤ k ∧ k < iv 62 2) (hn0 : 0 ≤ n0 ∧ n0 ≤ 40) (hgh : iv 62 (14 + iv 62 (257 + 5 * k + 3)) ≠ 1) : ∀ (n : Nat) (c : Nat) (x : Int) (iv1 : Mm) (y6 : Option VT), (81 - (c : Int) < n) → (c ≤ 81) → (TF (up iv 62 (257 + 5 * k + 1) x) iv1) → (FarOK iv1 (fdst (iv 62)) (iv 62 2)) → J l (yX6_farthest).cls cX6_farthest 7 (some FieldType.int) 6 0 0 false F (MP iv (an_farthest (hi iv) k n0)) 0 0 60 [some (r_ 61), some (i_ k), some (i_ n0), some (i_ (iv 62 (257 + 5 * k + 1))), some (i_ (farS (iv 62) k n0.toNat c)), some (i_ (c : Int)), y6] [] S0 (iv1) := by
  intro n
  induction n with
  | zero =>
    intro c x iv1 y6 hn hc hTF hF
    omega
  | succ n ih =>
    intro c x iv1 y6 hn hc hTF hF
    have hI := hA.mi
    have hmm := hI.many
    have hkp := hA.kp
    have htp := hA.tp
    have hbl := farS_lt (iv 62) k n0.toNat c
    obtain ⟨b, hb⟩ : ∃ b : Int, b = farS (iv 62) k n0.toNat c := ⟨_, rfl⟩
    have hb1 : farS (iv 62) k n0.toNat (c + 1) = if (iv 62 (14 + c) ≠ 1 ∧ (farS (iv 62) k n0.toNat c < 0 ∨ fdst (iv 62) k (farS (iv 62) k n0.toNat c) < fdst (iv 62) k c)) ∧ gatD (upr (iv 62) (257 + 5 * k + 1) c) k n0.toNat ≤ n0.toNat then (c : Int) else farS (iv 62) k n0.toNat c := rfl
    rw [← hb] at hbl hb1 ⊢
    have hrow1 : iv1 62 = upr (iv 62) (257 + 5 * k + 1) x := by rw [hTF.1 62 (by omega), up_s]
    refine J.iload (q := 62) dX6_farthest_60 rfl ?_ rfl
    refine J.bipush (q := 64) dX6_farthest_62 (by decide) ?_ rfl
    refine J.icmp_ge (tgt := 142) (q := 67) (hv := by omega) dX6_farthest_64 rfl rfl (fun c64 => ?_) (fun c64 => ?_)
    · refine J.aload_n (q := 143) dX6_farthest_142 rfl ?_ rfl
      refine J.iload_n (q := 144) dX6_farthest_143 rfl ?_ rfl
      refine J.iconst (q := 145) dX6_farthest_144 ?_ rfl
      refine J.iload_n (q := 146) dX6_farthest_145 rfl ?_ rfl
      refine J.callV3v (ci := 6) (q := 149) dX6_farthest_146 mv_X6_puts kL_X6_97 rfl (by decide) rfl ⟨by decide, by decide⟩ (Nat.le_of_ble_eq_true rfl) ⟨by decide, by decide⟩ rfl (c_X6_puts (by omega)) ?_
      refine J.iload (q := 151) dX6_farthest_149 rfl ?_ rfl
      refine J.ireturn dX6_farthest_151 rfl ?_
      have hc9 : c = 81 := by omega
      subst hc9
      have hTF := hTF.back
      rw [hb]
      unfold an_farthest
      (try rw [hi_61]); (try rw [hi_62]); (try rw [hi_63]); (try rw [hi_65]); (try rw [hi_70]); (try rw [hi_74]); (try rw [hi_75]); (try rw [hi_76])
      repeat (first | rw [if_pos (by omega)] | rw [if_neg (by omega)])
      first
      | exact mpTF TF.rf
      | exact mpTFb TF.rf
      | exact mpTF hTF
      | exact mpTFb hTF
      | (exfalso; omega)
    · have hcl := hI.cel c (by omega) (by omega)
      have hhe : iv1 62 (14 + (c : Int)) = iv 62 (14 + (c : Int)) := by rw [hrow1, upr_n _ _ (by omega)]
      refine J.aload_n (q := 68) dX6_farthest_67 rfl ?_ rfl
      refine J.iload (q := 70) dX6_farthest_68 rfl ?_ rfl
      refine J.callV1i (ci := 6) (q := 73) dX6_farthest_70 mv_X6_isHedge kL_X6_69 rfl (by decide) rfl ⟨by decide, by decide⟩ (Nat.le_of_ble_eq_true rfl) ⟨by decide, by decide⟩ rfl (c_X6_isHedge (by omega) (by rw [hhe]; omega)) ?_
      rw [hhe]
      refine J.ifb_ne (tgt := 102) (q := 76) dX6_farthest_73 rfl rfl (fun c73 => ?_) (fun c73 => ?_)
      · have hns : ¬ ((iv 62 (14 + c) ≠ 1 ∧ (b < 0 ∨ fdst (iv 62) k b < fdst (iv 62) k c)) ∧ gatD (upr (iv 62) (257 + 5 * k + 1) c) k n0.toNat ≤ n0.toNat) := fun q => q.1.1 c73
        refine J.iconst (q := 103) dX6_farthest_102 ?_ rfl
        refine J.istore (q := 105) dX6_farthest_103 (Nat.le_of_ble_eq_true rfl) ?_ rfl
        refine J.aload_n (q := 106) dX6_farthest_105 rfl ?_ rfl
        refine J.iload_n (q := 107) dX6_farthest_106 rfl ?_ rfl
        refine J.iconst (q := 108) dX6_farthest_107 ?_ rfl
        refine J.iload (q := 110) dX6_farthest_108 rfl ?_ rfl
        refine J.callV3v (ci := 6) (q := 113) dX6_farthest_110 mv_X6_puts kL_X6_97 rfl (by decide) rfl ⟨by decide, by decide⟩ (Nat.le_of_ble_eq_true rfl) ⟨by decide, by decide⟩ rfl (c_X6_puts (by omega)) ?_
        refine J.iload (q := 115) dX6_farthest_113 rfl ?_ rfl
        refine J.if_eq (tgt := 132) (q := 118) dX6_farthest_115 rfl rfl (fun c115 => ?_) (fun c115 => ?_)
        · refine J.iload (q := 134) dX6_farthest_132 rfl ?_ rfl
          refine J.istore (q := 136) dX6_farthest_134 (Nat.le_of_ble_eq_true rfl) ?_ rfl
          refine J.iinc (q := 139) dX6_farthest_136 rfl ?_ rfl
          refine J.goto (tgt := 60) dX6_farthest_139 rfl ?_
          first
          | (have hps : (iv 62 (14 + c) ≠ 1 ∧ (b < 0 ∨ fdst (iv 62) k b < fdst (iv 62) k c)) ∧ gatD (upr (iv 62) (257 + 5 * k + 1) c) k n0.toNat ≤ n0.toNat := ⟨⟨c73, by omega⟩, by omega⟩
             rw [if_pos hps] at hb1
             refine J.eql ?_ (ih (c + 1) c _ (some (i_ 1)) (by omega) (by omega) t2 hF9)
             rw [hb1]
             rfl)
          | (have hns : ¬ ((iv 62 (14 + c) ≠ 1 ∧ (b < 0 ∨ fdst (iv 62) k b < fdst (iv 62) k c)) ∧ gatD (upr (iv 62) (257 + 5 * k + 1) c) k n0.toNat ≤ n0.toNat) := fun q => by omega
             rw [if_neg hns] at hb1
             refine J.eql ?_ (ih (c + 1) c _ (some (i_ 1)) (by omega) (by omega) t2 hF9)
             rw [hb1]
             rfl)
          | (rw [if_neg hns] at hb1
             refine J.eql ?_ (ih (c + 1) c _ (some (i_ 0)) (by omega) (by omega) (TF_up hTF) (fun i a h1 h2 h3 h4 => by rw [up_n _ _ _ (by decide)]; exact hF i a h1 h2 h3 h4))
             rw [hb1]
             rfl)
          | (exfalso; omega)
        · refine J.aload_n (q := 119) dX6_farthest_118 rfl ?_ rfl
          refine J.iload_n (q := 120) dX6_farthest_119 rfl ?_ rfl
          refine J.iload_n (q := 121) dX6_farthest_120 rfl ?_ rfl
          have hm1 : MI 99999 (upr (iv 62) (257 + 5 * k + 1) c) := hI.upd (by omega) (by omega) (by omega) (by omega) (by omega) (by omega) (fun c _ _ => ⟨by omega, by omega, by omega⟩) (fun i _ _ => ⟨by omega, fun _ => by omega, by omega, by omega, by omega⟩) (by omega)
          have hA1 : AI (up iv1 62 (257 + 5 * k + 1) c) := (hA.u62 hm1).tf (TF_up hTF)
          have hrow : up iv1 62 (257 + 5 * k + 1) c 62 = upr (iv 62) (257 + 5 * k + 1) c := by rw [up_s, hrow1, upr_upr]
          refine J.callV2 (ci := 6) (q := 124) dX6_farthest_121 mv_X6_thereBy kL_X6_164 rfl (by decide) rfl ⟨by decide, by decide⟩ (Nat.le_of_ble_eq_true rfl) ⟨by decide, by decide⟩ rfl (c_X6_thereBy hA1 (by rw [hrow, upr_n _ _ (by omega)]; omega) (by omega)) (fun v9 S9 iv9 hp => ?_)
          obtain ⟨rfl, rfl, t0, hFO⟩ := hp
          have t2 := (TF_up hTF (y := (c : Int))).tr t0
          have hF9 : FarOK iv9 (fdst (iv 62)) (iv 62 2) := by
            rw [hrow, upr_n _ _ (by omega)] at hFO
            rcases fdst_AT (iv 62) k c with h | h
            · rw [h] at hFO; exact hFO
            · omega
          rw [hrow]
          obtain ⟨V, hV⟩ : ∃ V : Int, V = (if (gatD (upr (iv 62) (257 + 5 * k + 1) c) k n0.toNat : Int) ≤ n0 then (gatD (upr (iv 62) (257 + 5 * k + 1) c) k n0.toNat : Int) else -1) := ⟨_, rfl⟩
          have hgl : gatD (upr (iv 62) (257 + 5 * k + 1) c) k n0.toNat ≤ n0.toNat + 1 := by have := (firstD_le (fun i => decide (dys (upr (iv 62) (257 + 5 * k + 1) c) i (257 + 5 * k + 1) = upr (iv 62) (257 + 5 * k + 1) c (257 + 5 * k + 3))) (n0.toNat + 1) 0).2; unfold gatD; omega
          have hV1 : (gatD (upr (iv 62) (257 + 5 * k + 1) c) k n0.toNat ≤ n0.toNat ∧ 0 ≤ V ∧ V ≤ 100) ∨ (¬ gatD (upr (iv 62) (257 + 5 * k + 1) c) k n0.toNat ≤ n0.toNat ∧ V = -1) := by
            by_cases h : (gatD (upr (iv 62) (257 + 5 * k + 1) c) k n0.toNat : Int) ≤ n0
            · exact Or.inl ⟨by omega, by rw [hV, if_pos h]; omega⟩
            · exact Or.inr ⟨by omega, by rw [hV, if_neg h]⟩
          rw [← hV]
          clear hV
          refine J.if_lt (tgt := 132) (q := 127) dX6_farthest_124 rfl rfl (fun c124 => ?_) (fun c124 => ?_)
          · refine J.iload (q := 134) dX6_farthest_132 rfl ?_ rfl
            refine J.istore (q := 136) dX6_farthest_134 (Nat.le_of_ble_eq_true rfl) ?_ rfl
            refine J.iinc (q := 139) dX6_farthest_136 rfl ?_ rfl
            refine J.goto (tgt := 60) dX6_farthest_139 rfl ?_
            first
            | (have hps : (iv 62 (14 + c) ≠ 1 ∧ (b < 0 ∨ fdst (iv 62) k b < fdst (iv 62) k c)) ∧ gatD (upr (iv 62) (257 + 5 * k + 1) c) k n0.toNat ≤ n0.toNat := ⟨⟨c73, by omega⟩, by omega⟩
               rw [if_pos hps] at hb1
               refine J.eql ?_ (ih (c + 1) c _ (some (i_ 1)) (by omega) (by omega) t2 hF9)
               rw [hb1]
               rfl)
            | (have hns : ¬ ((iv 62 (14 + c) ≠ 1 ∧ (b < 0 ∨ fdst (iv 62) k b < fdst (iv 62) k c)) ∧ gatD (upr (iv 62) (257 + 5 * k + 1) c) k n0.toNat ≤ n0.toNat) := fun q => by omega
               rw [if_neg hns] at hb1
               refine J.eql ?_ (ih (c + 1) c _ (some (i_ 1)) (by omega) (by omega) t2 hF9)
               rw [hb1]
               rfl)
            | (rw [if_neg hns] at hb1
               refine J.eql ?_ (ih (c + 1) c _ (some (i_ 0)) (by omega) (by omega) (TF_up hTF) (fun i a h1 h2 h3 h4 => by rw [up_n _ _ _ (by decide)]; exact hF i a h1 h2 h3 h4))
               rw [hb1]
               rfl)
            | (exfalso; omega)
          · refine J.iload (q := 129) dX6_farthest_127 rfl ?_ rfl
            refine J.goto (tgt := 134) dX6_farthest_129 rfl ?_
            refine J.istore (q := 136) dX6_farthest_134 (Nat.le_of_ble_eq_true rfl) ?_ rfl
            refine J.iinc (q := 139) dX6_farthest_136 rfl ?_ rfl
            refine J.goto (tgt := 60) dX6_farthest_139 rfl ?_
            first
            | (have hps : (iv 62 (14 + c) ≠ 1 ∧ (b < 0 ∨ fdst (iv 62) k b < fdst (iv 62) k c)) ∧ gatD (upr (iv 62) (257 + 5 * k + 1) c) k n0.toNat ≤ n0.toNat := ⟨⟨c73, by omega⟩, by omega⟩
               rw [if_pos hps] at hb1
               refine J.eql ?_ (ih (c + 1) c _ (some (i_ 1)) (by omega) (by omega) t2 hF9)
               rw [hb1]
               rfl)
            | (have hns : ¬ ((iv 62 (14 + c) ≠ 1 ∧ (b < 0 ∨ fdst (iv 62) k b < fdst (iv 62) k c)) ∧ gatD (upr (iv 62) (257 + 5 * k + 1) c) k n0.toNat ≤ n0.toNat) := fun q => by omega
               rw [if_neg hns] at hb1
               refine J.eql ?_ (ih (c + 1) c _ (some (i_ 1)) (by omega) (by omega) t2 hF9)
               rw [hb1]
               rfl)
            | (rw [if_neg hns] at hb1
               refine J.eql ?_ (ih (c + 1) c _ (some (i_ 0)) (by omega) (by omega) (TF_up hTF) (fun i a h1 h2 h3 h4 => by rw [up_n _ _ _ (by decide)]; exact hF i a h1 h2 h3 h4))
               rw [hb1]
               rfl)
            | (exfalso; omega)
      · refine J.iload (q := 78) dX6_farthest_76 rfl ?_ rfl
        refine J.if_lt (tgt := 98) (q := 81) dX6_farthest_78 rfl rfl (fun c78 => ?_) (fun c78 => ?_)
        · refine J.iconst (q := 99) dX6_farthest_98 ?_ rfl
          refine J.goto (tgt := 103) dX6_farthest_99 rfl ?_
          refine J.istore (q := 105) dX6_farthest_103 (Nat.le_of_ble_eq_true rfl) ?_ rfl
          refine J.aload_n (q := 106) dX6_farthest_105 rfl ?_ rfl
          refine J.iload_n (q := 107) dX6_farthest_106 rfl ?_ rfl
          refine J.iconst (q := 108) dX6_farthest_107 ?_ rfl
          refine J.iload (q := 110) dX6_farthest_108 rfl ?_ rfl
          refine J.callV3v (ci := 6) (q := 113) dX6_farthest_110 mv_X6_puts kL_X6_97 rfl (by decide) rfl ⟨by decide, by decide⟩ (Nat.le_of_ble_eq_true rfl) ⟨by decide, by decide⟩ rfl (c_X6_puts (by omega)) ?_
          refine J.iload (q := 115) dX6_farthest_113 rfl ?_ rfl
          refine J.if_eq (tgt := 132) (q := 118) dX6_farthest_115 rfl rfl (fun c115 => ?_) (fun c115 => ?_)
          · refine J.iload (q := 134) dX6_farthest_132 rfl ?_ rfl
            refine J.istore (q := 136) dX6_farthest_134 (Nat.le_of_ble_eq_true rfl) ?_ rfl
            refine J.iinc (q := 139) dX6_farthest_136 rfl ?_ rfl
            refine J.goto (tgt := 60) dX6_farthest_139 rfl ?_
            first
            | (have hps : (iv 62 (14 + c) ≠ 1 ∧ (b < 0 ∨ fdst (iv 62) k b < fdst (iv 62) k c)) ∧ gatD (upr (iv 62) (257 + 5 * k + 1) c) k n0.toNat ≤ n0.toNat := ⟨⟨c73, by omega⟩, by omega⟩
               rw [if_pos hps] at hb1
               refine J.eql ?_ (ih (c + 1) c _ (some (i_ 1)) (by omega) (by omega) t2 hF9)
               rw [hb1]
               rfl)
            | (have hns : ¬ ((iv 62 (14 + c) ≠ 1 ∧ (b < 0 ∨ fdst (iv 62) k b < fdst (iv 62) k c)) ∧ gatD (upr (iv 62) (257 + 5 * k + 1) c) k n0.toNat ≤ n0.toNat) := fun q => by omega
               rw [if_neg hns] at hb1
               refine J.eql ?_ (ih (c + 1) c _ (some (i_ 1)) (by omega) (by omega) t2 hF9)
               rw [hb1]
               rfl)
            | (rw [if_neg hns] at hb1
               refine J.eql ?_ (ih (c + 1) c _ (some (i_ 0)) (by omega) (by omega) (TF_up hTF) (fun i a h1 h2 h3 h4 => by rw [up_n _ _ _ (by decide)]; exact hF i a h1 h2 h3 h4))
               rw [hb1]
               rfl)
            | (exfalso; omega)
          · refine J.aload_n (q := 119) dX6_farthest_118 rfl ?_ rfl
            refine J.iload_n (q := 120) dX6_farthest_119 rfl ?_ rfl
            refine J.iload_n (q := 121) dX6_farthest_120 rfl ?_ rfl
            have hm1 : MI 99999 (upr (iv 62) (257 + 5 * k + 1) c) := hI.upd (by omega) (by omega) (by omega) (by omega) (by omega) (by omega) (fun c _ _ => ⟨by omega, by omega, by omega⟩) (fun i _ _ => ⟨by omega, fun _ => by omega, by omega, by omega, by omega⟩) (by omega)
            have hA1 : AI (up iv1 62 (257 + 5 * k + 1) c) := (hA.u62 hm1).tf (TF_up hTF)
            have hrow : up iv1 62 (257 + 5 * k + 1) c 62 = upr (iv 62) (257 + 5 * k + 1) c := by rw [up_s, hrow1, upr_upr]
            refine J.callV2 (ci := 6) (q := 124) dX6_farthest_121 mv_X6_thereBy kL_X6_164 rfl (by decide) rfl ⟨by decide, by decide⟩ (Nat.le_of_ble_eq_true rfl) ⟨by decide, by decide⟩ rfl (c_X6_thereBy hA1 (by rw [hrow, upr_n _ _ (by omega)]; omega) (by omega)) (fun v9 S9 iv9 hp => ?_)
            obtain ⟨rfl, rfl, t0, hFO⟩ := hp
            have t2 := (TF_up hTF (y := (c : Int))).tr t0
            have hF9 : FarOK iv9 (fdst (iv 62)) (iv 62 2) := by
              rw [hrow, upr_n _ _ (by omega)] at hFO
              rcases fdst_AT (iv 62) k c with h | h
              · rw [h] at hFO; exact hFO
              · omega
            rw [hrow]
            obtain ⟨V, hV⟩ : ∃ V : Int, V = (if (gatD (upr (iv 62) (257 + 5 * k + 1) c) k n0.toNat : Int) ≤ n0 then (gatD (upr (iv 62) (257 + 5 * k + 1) c) k n0.toNat : Int) else -1) := ⟨_, rfl⟩
            have hgl : gatD (upr (iv 62) (257 + 5 * k + 1) c) k n0.toNat ≤ n0.toNat + 1 := by have := (firstD_le (fun i => decide (dys (upr (iv 62) (257 + 5 * k + 1) c) i (257 + 5 * k + 1) = upr (iv 62) (257 + 5 * k + 1) c (257 + 5 * k + 3))) (n0.toNat + 1) 0).2; unfold gatD; omega
            have hV1 : (gatD (upr (iv 62) (257 + 5 * k + 1) c) k n0.toNat ≤ n0.toNat ∧ 0 ≤ V ∧ V ≤ 100) ∨ (¬ gatD (upr (iv 62) (257 + 5 * k + 1) c) k n0.toNat ≤ n0.toNat ∧ V = -1) := by
              by_cases h : (gatD (upr (iv 62) (257 + 5 * k + 1) c) k n0.toNat : Int) ≤ n0
              · exact Or.inl ⟨by omega, by rw [hV, if_pos h]; omega⟩
              · exact Or.inr ⟨by omega, by rw [hV, if_neg h]⟩
            rw [← hV]
            clear hV
            refine J.if_lt (tgt := 132) (q := 127) dX6_farthest_124 rfl rfl (fun c124 => ?_) (fun c124 => ?_)
            · refine J.iload (q := 134) dX6_farthest_132 rfl ?_ rfl
              refine J.istore (q := 136) dX6_farthest_134 (Nat.le_of_ble_eq_true rfl) ?_ rfl
              refine J.iinc (q := 139) dX6_farthest_136 rfl ?_ rfl
              refine J.goto (tgt := 60) dX6_farthest_139 rfl ?_
              first
              | (have hps : (iv 62 (14 + c) ≠ 1 ∧ (b < 0 ∨ fdst (iv 62) k b < fdst (iv 62) k c)) ∧ gatD (upr (iv 62) (257 + 5 * k + 1) c) k n0.toNat ≤ n0.toNat := ⟨⟨c73, by omega⟩, by omega⟩
                 rw [if_pos hps] at hb1
                 refine J.eql ?_ (ih (c + 1) c _ (some (i_ 1)) (by omega) (by omega) t2 hF9)
                 rw [hb1]
                 rfl)
              | (have hns : ¬ ((iv 62 (14 + c) ≠ 1 ∧ (b < 0 ∨ fdst (iv 62) k b < fdst (iv 62) k c)) ∧ gatD (upr (iv 62) (257 + 5 * k + 1) c) k n0.toNat ≤ n0.toNat) := fun q => by omega
                 rw [if_neg hns] at hb1
                 refine J.eql ?_ (ih (c + 1) c _ (some (i_ 1)) (by omega) (by omega) t2 hF9)
                 rw [hb1]
                 rfl)
              | (rw [if_neg hns] at hb1
                 refine J.eql ?_ (ih (c + 1) c _ (some (i_ 0)) (by omega) (by omega) (TF_up hTF) (fun i a h1 h2 h3 h4 => by rw [up_n _ _ _ (by decide)]; exact hF i a h1 h2 h3 h4))
                 rw [hb1]
                 rfl)
              | (exfalso; omega)
            · refine J.iload (q := 129) dX6_farthest_127 rfl ?_ rfl
              refine J.goto (tgt := 134) dX6_farthest_129 rfl ?_
              refine J.istore (q := 136) dX6_farthest_134 (Nat.le_of_ble_eq_true rfl) ?_ rfl
              refine J.iinc (q := 139) dX6_farthest_136 rfl ?_ rfl
              refine J.goto (tgt := 60) dX6_farthest_139 rfl ?_
              first
              | (have hps : (iv 62 (14 + c) ≠ 1 ∧ (b < 0 ∨ fdst (iv 62) k b < fdst (iv 62) k c)) ∧ gatD (upr (iv 62) (257 + 5 * k + 1) c) k n0.toNat ≤ n0.toNat := ⟨⟨c73, by omega⟩, by omega⟩
                 rw [if_pos hps] at hb1
                 refine J.eql ?_ (ih (c + 1) c _ (some (i_ 1)) (by omega) (by omega) t2 hF9)
                 rw [hb1]
                 rfl)
              | (have hns : ¬ ((iv 62 (14 + c) ≠ 1 ∧ (b < 0 ∨ fdst (iv 62) k b < fdst (iv 62) k c)) ∧ gatD (upr (iv 62) (257 + 5 * k + 1) c) k n0.toNat ≤ n0.toNat) := fun q => by omega
                 rw [if_neg hns] at hb1
                 refine J.eql ?_ (ih (c + 1) c _ (some (i_ 1)) (by omega) (by omega) t2 hF9)
                 rw [hb1]
                 rfl)
              | (rw [if_neg hns] at hb1
                 refine J.eql ?_ (ih (c + 1) c _ (some (i_ 0)) (by omega) (by omega) (TF_up hTF) (fun i a h1 h2 h3 h4 => by rw [up_n _ _ _ (by decide)]; exact hF i a h1 h2 h3 h4))
                 rw [hb1]
                 rfl)
              | (exfalso; omega)
        · refine J.aload_n (q := 82) dX6_farthest_81 rfl ?_ rfl
          refine J.iload_n (q := 83) dX6_farthest_82 rfl ?_ rfl
          refine J.iload (q := 85) dX6_farthest_83 rfl ?_ rfl
          obtain ⟨f1, f1a⟩ := hF k c (by omega) (by omega) (by omega) (by omega)
          obtain ⟨f2, f2a⟩ := hF k b (by omega) (by omega) (by omega) (by omega)
          refine J.callV2i (ci := 6) (q := 88) dX6_farthest_85 mv_X6_farBy kL_X6_84 rfl (by decide) rfl ⟨by decide, by decide⟩ (Nat.le_of_ble_eq_true rfl) ⟨by decide, by decide⟩ rfl (c_X6_farBy (by omega) (by omega)) ?_
          rw [f1]
          refine J.aload_n (q := 89) dX6_farthest_88 rfl ?_ rfl
          refine J.iload_n (q := 90) dX6_farthest_89 rfl ?_ rfl
          refine J.iload (q := 92) dX6_farthest_90 rfl ?_ rfl
          refine J.callV2i (ci := 6) (q := 95) dX6_farthest_92 mv_X6_farBy kL_X6_84 rfl (by decide) rfl ⟨by decide, by decide⟩ (Nat.le_of_ble_eq_true rfl) ⟨by decide, by decide⟩ rfl (c_X6_farBy (by omega) (by omega)) ?_
          rw [f2]
          refine J.icmp_le (tgt := 102) (q := 98) dX6_farthest_95 rfl rfl (fun c95 => ?_) (fun c95 => ?_)
          · have hns : ¬ ((iv 62 (14 + c) ≠ 1 ∧ (b < 0 ∨ fdst (iv 62) k b < fdst (iv 62) k c)) ∧ gatD (upr (iv 62) (257 + 5 * k + 1) c) k n0.toNat ≤ n0.toNat) := fun q => by omega
            refine J.iconst (q := 103) dX6_farthest_102 ?_ rfl
            refine J.istore (q := 105) dX6_farthest_103 (Nat.le_of_ble_eq_true rfl) ?_ rfl
            refine J.aload_n (q := 106) dX6_farthest_105 rfl ?_ rfl
            refine J.iload_n (q := 107) dX6_farthest_106 rfl ?_ rfl
            refine J.iconst (q := 108) dX6_farthest_107 ?_ rfl
            refine J.iload (q := 110) dX6_farthest_108 rfl ?_ rfl
            refine J.callV3v (ci := 6) (q := 113) dX6_farthest_110 mv_X6_puts kL_X6_97 rfl (by decide) rfl ⟨by decide, by decide⟩ (Nat.le_of_ble_eq_true rfl) ⟨by decide, by decide⟩ rfl (c_X6_puts (by omega)) ?_
            refine J.iload (q := 115) dX6_farthest_113 rfl ?_ rfl
            refine J.if_eq (tgt := 132) (q := 118) dX6_farthest_115 rfl rfl (fun c115 => ?_) (fun c115 => ?_)
            · refine J.iload (q := 134) dX6_farthest_132 rfl ?_ rfl
              refine J.istore (q := 136) dX6_farthest_134 (Nat.le_of_ble_eq_true rfl) ?_ rfl
              refine J.iinc (q := 139) dX6_farthest_136 rfl ?_ rfl
              refine J.goto (tgt := 60) dX6_farthest_139 rfl ?_
              first
              | (have hps : (iv 62 (14 + c) ≠ 1 ∧ (b < 0 ∨ fdst (iv 62) k b < fdst (iv 62) k c)) ∧ gatD (upr (iv 62) (257 + 5 * k + 1) c) k n0.toNat ≤ n0.toNat := ⟨⟨c73, by omega⟩, by omega⟩
                 rw [if_pos hps] at hb1
                 refine J.eql ?_ (ih (c + 1) c _ (some (i_ 1)) (by omega) (by omega) t2 hF9)
                 rw [hb1]
                 rfl)
              | (have hns : ¬ ((iv 62 (14 + c) ≠ 1 ∧ (b < 0 ∨ fdst (iv 62) k b < fdst (iv 62) k c)) ∧ gatD (upr (iv 62) (257 + 5 * k + 1) c) k n0.toNat ≤ n0.toNat) := fun q => by omega
                 rw [if_neg hns] at hb1
                 refine J.eql ?_ (ih (c + 1) c _ (some (i_ 1)) (by omega) (by omega) t2 hF9)
                 rw [hb1]
                 rfl)
              | (rw [if_neg hns] at hb1
                 refine J.eql ?_ (ih (c + 1) c _ (some (i_ 0)) (by omega) (by omega) (TF_up hTF) (fun i a h1 h2 h3 h4 => by rw [up_n _ _ _ (by decide)]; exact hF i a h1 h2 h3 h4))
                 rw [hb1]
                 rfl)
              | (exfalso; omega)
            · refine J.aload_n (q := 119) dX6_farthest_118 rfl ?_ rfl
              refine J.iload_n (q := 120) dX6_farthest_119 rfl ?_ rfl
              refine J.iload_n (q := 121) dX6_farthest_120 rfl ?_ rfl
              have hm1 : MI 99999 (upr (iv 62) (257 + 5 * k + 1) c) := hI.upd (by omega) (by omega) (by omega) (by omega) (by omega) (by omega) (fun c _ _ => ⟨by omega, by omega, by omega⟩) (fun i _ _ => ⟨by omega, fun _ => by omega, by omega, by omega, by omega⟩) (by omega)
              have hA1 : AI (up iv1 62 (257 + 5 * k + 1) c) := (hA.u62 hm1).tf (TF_up hTF)
              have hrow : up iv1 62 (257 + 5 * k + 1) c 62 = upr (iv 62) (257 + 5 * k + 1) c := by rw [up_s, hrow1, upr_upr]
              refine J.callV2 (ci := 6) (q := 124) dX6_farthest_121 mv_X6_thereBy kL_X6_164 rfl (by decide) rfl ⟨by decide, by decide⟩ (Nat.le_of_ble_eq_true rfl) ⟨by decide, by decide⟩ rfl (c_X6_thereBy hA1 (by rw [hrow, upr_n _ _ (by omega)]; omega) (by omega)) (fun v9 S9 iv9 hp => ?_)
              obtain ⟨rfl, rfl, t0, hFO⟩ := hp
              have t2 := (TF_up hTF (y := (c : Int))).tr t0
              have hF9 : FarOK iv9 (fdst (iv 62)) (iv 62 2) := by
                rw [hrow, upr_n _ _ (by omega)] at hFO
                rcases fdst_AT (iv 62) k c with h | h
                · rw [h] at hFO; exact hFO
                · omega
              rw [hrow]
              obtain ⟨V, hV⟩ : ∃ V : Int, V = (if (gatD (upr (iv 62) (257 + 5 * k + 1) c) k n0.toNat : Int) ≤ n0 then (gatD (upr (iv 62) (257 + 5 * k + 1) c) k n0.toNat : Int) else -1) := ⟨_, rfl⟩
              have hgl : gatD (upr (iv 62) (257 + 5 * k + 1) c) k n0.toNat ≤ n0.toNat + 1 := by have := (firstD_le (fun i => decide (dys (upr (iv 62) (257 + 5 * k + 1) c) i (257 + 5 * k + 1) = upr (iv 62) (257 + 5 * k + 1) c (257 + 5 * k + 3))) (n0.toNat + 1) 0).2; unfold gatD; omega
              have hV1 : (gatD (upr (iv 62) (257 + 5 * k + 1) c) k n0.toNat ≤ n0.toNat ∧ 0 ≤ V ∧ V ≤ 100) ∨ (¬ gatD (upr (iv 62) (257 + 5 * k + 1) c) k n0.toNat ≤ n0.toNat ∧ V = -1) := by
                by_cases h : (gatD (upr (iv 62) (257 + 5 * k + 1) c) k n0.toNat : Int) ≤ n0
                · exact Or.inl ⟨by omega, by rw [hV, if_pos h]; omega⟩
                · exact Or.inr ⟨by omega, by rw [hV, if_neg h]⟩
              rw [← hV]
              clear hV
              refine J.if_lt (tgt := 132) (q := 127) dX6_farthest_124 rfl rfl (fun c124 => ?_) (fun c124 => ?_)
              · refine J.iload (q := 134) dX6_farthest_132 rfl ?_ rfl
                refine J.istore (q := 136) dX6_farthest_134 (Nat.le_of_ble_eq_true rfl) ?_ rfl
                refine J.iinc (q := 139) dX6_farthest_136 rfl ?_ rfl
                refine J.goto (tgt := 60) dX6_farthest_139 rfl ?_
                first
                | (have hps : (iv 62 (14 + c) ≠ 1 ∧ (b < 0 ∨ fdst (iv 62) k b < fdst (iv 62) k c)) ∧ gatD (upr (iv 62) (257 + 5 * k + 1) c) k n0.toNat ≤ n0.toNat := ⟨⟨c73, by omega⟩, by omega⟩
                   rw [if_pos hps] at hb1
                   refine J.eql ?_ (ih (c + 1) c _ (some (i_ 1)) (by omega) (by omega) t2 hF9)
                   rw [hb1]
                   rfl)
                | (have hns : ¬ ((iv 62 (14 + c) ≠ 1 ∧ (b < 0 ∨ fdst (iv 62) k b < fdst (iv 62) k c)) ∧ gatD (upr (iv 62) (257 + 5 * k + 1) c) k n0.toNat ≤ n0.toNat) := fun q => by omega
                   rw [if_neg hns] at hb1
                   refine J.eql ?_ (ih (c + 1) c _ (some (i_ 1)) (by omega) (by omega) t2 hF9)
                   rw [hb1]
                   rfl)
                | (rw [if_neg hns] at hb1
                   refine J.eql ?_ (ih (c + 1) c _ (some (i_ 0)) (by omega) (by omega) (TF_up hTF) (fun i a h1 h2 h3 h4 => by rw [up_n _ _ _ (by decide)]; exact hF i a h1 h2 h3 h4))
                   rw [hb1]
                   rfl)
                | (exfalso; omega)
              · refine J.iload (q := 129) dX6_farthest_127 rfl ?_ rfl
                refine J.goto (tgt := 134) dX6_farthest_129 rfl ?_
                refine J.istore (q := 136) dX6_farthest_134 (Nat.le_of_ble_eq_true rfl) ?_ rfl
                refine J.iinc (q := 139) dX6_farthest_136 rfl ?_ rfl
                refine J.goto (tgt := 60) dX6_farthest_139 rfl ?_
                first
                | (have hps : (iv 62 (14 + c) ≠ 1 ∧ (b < 0 ∨ fdst (iv 62) k b < fdst (iv 62) k c)) ∧ gatD (upr (iv 62) (257 + 5 * k + 1) c) k n0.toNat ≤ n0.toNat := ⟨⟨c73, by omega⟩, by omega⟩
                   rw [if_pos hps] at hb1
                   refine J.eql ?_ (ih (c + 1) c _ (some (i_ 1)) (by omega) (by omega) t2 hF9)
                   rw [hb1]
                   rfl)
                | (have hns : ¬ ((iv 62 (14 + c) ≠ 1 ∧ (b < 0 ∨ fdst (iv 62) k b < fdst (iv 62) k c)) ∧ gatD (upr (iv 62) (257 + 5 * k + 1) c) k n0.toNat ≤ n0.toNat) := fun q => by omega
                   rw [if_neg hns] at hb1
                   refine J.eql ?_ (ih (c + 1) c _ (some (i_ 1)) (by omega) (by omega) t2 hF9)
                   rw [hb1]
                   rfl)
                | (rw [if_neg hns] at hb1
                   refine J.eql ?_ (ih (c + 1) c _ (some (i_ 0)) (by omega) (by omega) (TF_up hTF) (fun i a h1 h2 h3 h4 => by rw [up_n _ _ _ (by decide)]; exact hF i a h1 h2 h3 h4))
                   rw [hb1]
                   rfl)
                | (exfalso; omega)
          · refine J.iconst (q := 99) dX6_farthest_98 ?_ rfl
            refine J.goto (tgt := 103) dX6_farthest_99 rfl ?_
            refine J.istore (q := 105) dX6_farthest_103 (Nat.le_of_ble_eq_true rfl) ?_ rfl
            refine J.aload_n (q := 106) dX6_farthest_105 rfl ?_ rfl
            refine J.iload_n (q := 107) dX6_farthest_106 rfl ?_ rfl
            refine J.iconst (q := 108) dX6_farthest_107 ?_ rfl
            refine J.iload (q := 110) dX6_farthest_108 rfl ?_ rfl
            refine J.callV3v (ci := 6) (q := 113) dX6_farthest_110 mv_X6_puts kL_X6_97 rfl (by decide) rfl ⟨by decide, by decide⟩ (Nat.le_of_ble_eq_true rfl) ⟨by decide, by decide⟩ rfl (c_X6_puts (by omega)) ?_
            refine J.iload (q := 115) dX6_farthest_113 rfl ?_ rfl
            refine J.if_eq (tgt := 132) (q := 118) dX6_farthest_115 rfl rfl (fun c115 => ?_) (fun c115 => ?_)
            · refine J.iload (q := 134) dX6_farthest_132 rfl ?_ rfl
              refine J.istore (q := 136) dX6_farthest_134 (Nat.le_of_ble_eq_true rfl) ?_ rfl
              refine J.iinc (q := 139) dX6_farthest_136 rfl ?_ rfl
              refine J.goto (tgt := 60) dX6_farthest_139 rfl ?_
              first
              | (have hps : (iv 62 (14 + c) ≠ 1 ∧ (b < 0 ∨ fdst (iv 62) k b < fdst (iv 62) k c)) ∧ gatD (upr (iv 62) (257 + 5 * k + 1) c) k n0.toNat ≤ n0.toNat := ⟨⟨c73, by omega⟩, by omega⟩
                 rw [if_pos hps] at hb1
                 refine J.eql ?_ (ih (c + 1) c _ (some (i_ 1)) (by omega) (by omega) t2 hF9)
                 rw [hb1]
                 rfl)
              | (have hns : ¬ ((iv 62 (14 + c) ≠ 1 ∧ (b < 0 ∨ fdst (iv 62) k b < fdst (iv 62) k c)) ∧ gatD (upr (iv 62) (257 + 5 * k + 1) c) k n0.toNat ≤ n0.toNat) := fun q => by omega
                 rw [if_neg hns] at hb1
                 refine J.eql ?_ (ih (c + 1) c _ (some (i_ 1)) (by omega) (by omega) t2 hF9)
                 rw [hb1]
                 rfl)
              | (rw [if_neg hns] at hb1
                 refine J.eql ?_ (ih (c + 1) c _ (some (i_ 0)) (by omega) (by omega) (TF_up hTF) (fun i a h1 h2 h3 h4 => by rw [up_n _ _ _ (by decide)]; exact hF i a h1 h2 h3 h4))
                 rw [hb1]
                 rfl)
              | (exfalso; omega)
            · refine J.aload_n (q := 119) dX6_farthest_118 rfl ?_ rfl
              refine J.iload_n (q := 120) dX6_farthest_119 rfl ?_ rfl
              refine J.iload_n (q := 121) dX6_farthest_120 rfl ?_ rfl
              have hm1 : MI 99999 (upr (iv 62) (257 + 5 * k + 1) c) := hI.upd (by omega) (by omega) (by omega) (by omega) (by omega) (by omega) (fun c _ _ => ⟨by omega, by omega, by omega⟩) (fun i _ _ => ⟨by omega, fun _ => by omega, by omega, by omega, by omega⟩) (by omega)
              have hA1 : AI (up iv1 62 (257 + 5 * k + 1) c) := (hA.u62 hm1).tf (TF_up hTF)
              have hrow : up iv1 62 (257 + 5 * k + 1) c 62 = upr (iv 62) (257 + 5 * k + 1) c := by rw [up_s, hrow1, upr_upr]
              refine J.callV2 (ci := 6) (q := 124) dX6_farthest_121 mv_X6_thereBy kL_X6_164 rfl (by decide) rfl ⟨by decide, by decide⟩ (Nat.le_of_ble_eq_true rfl) ⟨by decide, by decide⟩ rfl (c_X6_thereBy hA1 (by rw [hrow, upr_n _ _ (by omega)]; omega) (by omega)) (fun v9 S9 iv9 hp => ?_)
              obtain ⟨rfl, rfl, t0, hFO⟩ := hp
              have t2 := (TF_up hTF (y := (c : Int))).tr t0
              have hF9 : FarOK iv9 (fdst (iv 62)) (iv 62 2) := by
                rw [hrow, upr_n _ _ (by omega)] at hFO
                rcases fdst_AT (iv 62) k c with h | h
                · rw [h] at hFO; exact hFO
                · omega
              rw [hrow]
              obtain ⟨V, hV⟩ : ∃ V : Int, V = (if (gatD (upr (iv 62) (257 + 5 * k + 1) c) k n0.toNat : Int) ≤ n0 then (gatD (upr (iv 62) (257 + 5 * k + 1) c) k n0.toNat : Int) else -1) := ⟨_, rfl⟩
              have hgl : gatD (upr (iv 62) (257 + 5 * k + 1) c) k n0.toNat ≤ n0.toNat + 1 := by have := (firstD_le (fun i => decide (dys (upr (iv 62) (257 + 5 * k + 1) c) i (257 + 5 * k + 1) = upr (iv 62) (257 + 5 * k + 1) c (257 + 5 * k + 3))) (n0.toNat + 1) 0).2; unfold gatD; omega
              have hV1 : (gatD (upr (iv 62) (257 + 5 * k + 1) c) k n0.toNat ≤ n0.toNat ∧ 0 ≤ V ∧ V ≤ 100) ∨ (¬ gatD (upr (iv 62) (257 + 5 * k + 1) c) k n0.toNat ≤ n0.toNat ∧ V = -1) := by
                by_cases h : (gatD (upr (iv 62) (257 + 5 * k + 1) c) k n0.toNat : Int) ≤ n0
                · exact Or.inl ⟨by omega, by rw [hV, if_pos h]; omega⟩
                · exact Or.inr ⟨by omega, by rw [hV, if_neg h]⟩
              rw [← hV]
              clear hV
              refine J.if_lt (tgt := 132) (q := 127) dX6_farthest_124 rfl rfl (fun c124 => ?_) (fun c124 => ?_)
              · refine J.iload (q := 134) dX6_farthest_132 rfl ?_ rfl
                refine J.istore (q := 136) dX6_farthest_134 (Nat.le_of_ble_eq_true rfl) ?_ rfl
                refine J.iinc (q := 139) dX6_farthest_136 rfl ?_ rfl
                refine J.goto (tgt := 60) dX6_farthest_139 rfl ?_
                first
                | (have hps : (iv 62 (14 + c) ≠ 1 ∧ (b < 0 ∨ fdst (iv 62) k b < fdst (iv 62) k c)) ∧ gatD (upr (iv 62) (257 + 5 * k + 1) c) k n0.toNat ≤ n0.toNat := ⟨⟨c73, by omega⟩, by omega⟩
                   rw [if_pos hps] at hb1
                   refine J.eql ?_ (ih (c + 1) c _ (some (i_ 1)) (by omega) (by omega) t2 hF9)
                   rw [hb1]
                   rfl)
                | (have hns : ¬ ((iv 62 (14 + c) ≠ 1 ∧ (b < 0 ∨ fdst (iv 62) k b < fdst (iv 62) k c)) ∧ gatD (upr (iv 62) (257 + 5 * k + 1) c) k n0.toNat ≤ n0.toNat) := fun q => by omega
                   rw [if_neg hns] at hb1
                   refine J.eql ?_ (ih (c + 1) c _ (some (i_ 1)) (by omega) (by omega) t2 hF9)
                   rw [hb1]
                   rfl)
                | (rw [if_neg hns] at hb1
                   refine J.eql ?_ (ih (c + 1) c _ (some (i_ 0)) (by omega) (by omega) (TF_up hTF) (fun i a h1 h2 h3 h4 => by rw [up_n _ _ _ (by decide)]; exact hF i a h1 h2 h3 h4))
                   rw [hb1]
                   rfl)
                | (exfalso; omega)
              · refine J.iload (q := 129) dX6_farthest_127 rfl ?_ rfl
                refine J.goto (tgt := 134) dX6_farthest_129 rfl ?_
                refine J.istore (q := 136) dX6_farthest_134 (Nat.le_of_ble_eq_true rfl) ?_ rfl
                refine J.iinc (q := 139) dX6_farthest_136 rfl ?_ rfl
                refine J.goto (tgt := 60) dX6_farthest_139 rfl ?_
                first
                | (have hps : (iv 62 (14 + c) ≠ 1 ∧ (b < 0 ∨ fdst (iv 62) k b < fdst (iv 62) k c)) ∧ gatD (upr (iv 62) (257 + 5 * k + 1) c) k n0.toNat ≤ n0.toNat := ⟨⟨c73, by omega⟩, by omega⟩
                   rw [if_pos hps] at hb1
                   refine J.eql ?_ (ih (c + 1) c _ (some (i_ 1)) (by omega) (by omega) t2 hF9)
                   rw [hb1]
                   rfl)
                | (have hns : ¬ ((iv 62 (14 + c) ≠ 1 ∧ (b < 0 ∨ fdst (iv 62) k b < fdst (iv 62) k c)) ∧ gatD (upr (iv 62) (257 + 5 * k + 1) c) k n0.toNat ≤ n0.toNat) := fun q => by omega
                   rw [if_neg hns] at hb1
                   refine J.eql ?_ (ih (c + 1) c _ (some (i_ 1)) (by omega) (by omega) t2 hF9)
                   rw [hb1]
                   rfl)
                | (rw [if_neg hns] at hb1
                   refine J.eql ?_ (ih (c + 1) c _ (some (i_ 0)) (by omega) (by omega) (TF_up hTF) (fun i a h1 h2 h3 h4 => by rw [up_n _ _ _ (by decide)]; exact hF i a h1 h2 h3 h4))
                   rw [hb1]
                   rfl)
                | (exfalso; omega)

set_option maxRecDepth 100000 in
set_option maxHeartbeats 4000000 in
theorem c_X6_farthest {l : Launch} {F : Nat × (Int → Int)} {iv : Mm} (hA : AI iv) {k n : Int} (hk : -2147483648 ≤ k ∧ k < 2147483648) (hn : -2147483648 ≤ n ∧ n < 2147483648) : Ctr l F 6 0 0 yX6_farthest cX6_farthest 7 (some FieldType.int) [r_ 61, i_ k, i_ n] S0 (iv) (MP iv (an_farthest (hi iv) k n)) := by
  refine Ctr.of false (fun h => by cases h) (by decide) rfl (Nat.le_of_ble_eq_true rfl) ?_
  have hI := hA.mi
  have hmm := hI.many
  have hkp := hA.kp
  have htp := hA.tp
  refine J.aload_n (q := 1) dX6_farthest_0 rfl ?_ rfl
  refine J.iload_n (q := 2) dX6_farthest_1 rfl ?_ rfl
  refine J.callV1i (ci := 6) (q := 5) dX6_farthest_2 mv_X6_isSnail kL_X6_131 rfl (by decide) rfl ⟨by decide, by decide⟩ (Nat.le_of_ble_eq_true rfl) ⟨by decide, by decide⟩ rfl (c_X6_isSnail (by omega) (by omega)) ?_
  refine J.ifb_eq (tgt := 18) (q := 8) dX6_farthest_5 rfl rfl (fun c5 => ?_) (fun c5 => ?_)
  · refine J.aload_n (q := 19) dX6_farthest_18 rfl ?_ rfl
    refine J.iconst (q := 20) dX6_farthest_19 ?_ rfl
    refine J.callV1i (ci := 6) (q := 23) dX6_farthest_20 mv_X6_no kL_X6_125 rfl (by decide) rfl ⟨by decide, by decide⟩ (Nat.le_of_ble_eq_true rfl) ⟨by decide, by decide⟩ rfl (c_X6_no (by omega)) ?_
    refine J.ireturn dX6_farthest_23 rfl ?_
    unfold an_farthest
    (try rw [hi_61]); (try rw [hi_62]); (try rw [hi_63]); (try rw [hi_65]); (try rw [hi_70]); (try rw [hi_74]); (try rw [hi_75]); (try rw [hi_76])
    repeat (first | rw [if_pos (by omega)] | rw [if_neg (by omega)])
    first
    | exact mpTF TF.rf
    | exact mpTFb TF.rf
    | exact mpTF hTF
    | exact mpTFb hTF
    | (exfalso; omega)
  · refine J.iload_n (q := 9) dX6_farthest_8 rfl ?_ rfl
    refine J.iconst (q := 10) dX6_farthest_9 ?_ rfl
    refine J.bipush (q := 12) dX6_farthest_10 (by decide) ?_ rfl
    refine J.callS3i (q := 15) dX6_farthest_12 mv_X6_in1 kS_X6_in1 kL_X6_61 ⟨by decide, by decide⟩ (Nat.le_of_ble_eq_true rfl) ⟨by decide, by decide⟩ rfl (c_X6_in1 (by omega) (by omega) (by omega)) ?_
    refine J.ifb_ne (tgt := 24) (q := 18) dX6_farthest_15 rfl rfl (fun c15 => ?_) (fun c15 => ?_)
    · refine J.aload_n (q := 25) dX6_farthest_24 rfl ?_ rfl
      refine J.aload_n (q := 26) dX6_farthest_25 rfl ?_ rfl
      refine J.iload_n (q := 27) dX6_farthest_26 rfl ?_ rfl
      refine J.iconst (q := 28) dX6_farthest_27 ?_ rfl
      refine J.callV2i (ci := 6) (q := 31) dX6_farthest_28 mv_X6_get kL_X6_76 rfl (by decide) rfl ⟨by decide, by decide⟩ (Nat.le_of_ble_eq_true rfl) ⟨by decide, by decide⟩ rfl (c_X6_get (by omega)) ?_
      have hsn := hI.sna k (by omega) (by omega)
      have hcg := hI.cel _ hsn.2.2.2.1.1 hsn.2.2.2.1.2
      refine J.callV1i (ci := 6) (q := 34) dX6_farthest_31 mv_X6_isHedge kL_X6_69 rfl (by decide) rfl ⟨by decide, by decide⟩ (Nat.le_of_ble_eq_true rfl) ⟨by decide, by decide⟩ rfl (c_X6_isHedge (by omega) (by omega)) ?_
      refine J.ifb_eq (tgt := 43) (q := 37) dX6_farthest_34 rfl rfl (fun c34 => ?_) (fun c34 => ?_)
      · refine J.aload_n (q := 44) dX6_farthest_43 rfl ?_ rfl
        refine J.callV0 (ci := 6) (q := 47) dX6_farthest_44 mv_X6_findsFars kL_X6_112 rfl (by decide) rfl ⟨by decide, by decide⟩ (Nat.le_of_ble_eq_true rfl) ⟨by decide, by decide⟩ rfl (c_X6_findsFars (show (99999 : Int) ≤ 200000 by omega) hI) (fun v8 S8 iv8 hp => ?_)
        obtain ⟨rfl, rfl, g1, g2⟩ := hp
        have e62 := g1 62 (by decide) (by decide) (by decide)
        have hTF : TF iv iv8 := ⟨fun q hq => g1 q (by omega) (by omega) (by omega), g1 65 (by decide) (by decide) (by decide), fun q hq => g1 q (by omega) (by omega) (by omega)⟩
        refine J.aload_n (q := 48) dX6_farthest_47 rfl ?_ rfl
        refine J.iload_n (q := 49) dX6_farthest_48 rfl ?_ rfl
        refine J.iconst (q := 50) dX6_farthest_49 ?_ rfl
        refine J.callV2i (ci := 6) (q := 53) dX6_farthest_50 mv_X6_get kL_X6_76 rfl (by decide) rfl ⟨by decide, by decide⟩ (Nat.le_of_ble_eq_true rfl) ⟨by decide, by decide⟩ rfl (c_X6_get (by omega)) ?_
        rw [e62]
        refine J.istore_n (q := 54) dX6_farthest_53 (Nat.le_of_ble_eq_true rfl) ?_ rfl
        refine J.iconst (q := 55) dX6_farthest_54 ?_ rfl
        refine J.istore (q := 57) dX6_farthest_55 (Nat.le_of_ble_eq_true rfl) ?_ rfl
        refine J.iconst (q := 58) dX6_farthest_57 ?_ rfl
        refine J.istore (q := 60) dX6_farthest_58 (Nat.le_of_ble_eq_true rfl) ?_ rfl
        exact farthest_loop hA (by omega) (by omega) (by omega) 82 0 (iv 62 (257 + 5 * k + 1)) iv8 _ (by omega) (by omega) (by rw [up_self]; exact hTF) g2
      · refine J.aload_n (q := 38) dX6_farthest_37 rfl ?_ rfl
        refine J.iconst (q := 39) dX6_farthest_38 ?_ rfl
        refine J.callV1i (ci := 6) (q := 42) dX6_farthest_39 mv_X6_no kL_X6_125 rfl (by decide) rfl ⟨by decide, by decide⟩ (Nat.le_of_ble_eq_true rfl) ⟨by decide, by decide⟩ rfl (c_X6_no (by omega)) ?_
        refine J.ireturn dX6_farthest_42 rfl ?_
        unfold an_farthest
        (try rw [hi_61]); (try rw [hi_62]); (try rw [hi_63]); (try rw [hi_65]); (try rw [hi_70]); (try rw [hi_74]); (try rw [hi_75]); (try rw [hi_76])
        repeat (first | rw [if_pos (by omega)] | rw [if_neg (by omega)])
        first
        | exact mpTF TF.rf
        | exact mpTFb TF.rf
        | exact mpTF hTF
        | exact mpTFb hTF
        | (exfalso; omega)
    · refine J.aload_n (q := 19) dX6_farthest_18 rfl ?_ rfl
      refine J.iconst (q := 20) dX6_farthest_19 ?_ rfl
      refine J.callV1i (ci := 6) (q := 23) dX6_farthest_20 mv_X6_no kL_X6_125 rfl (by decide) rfl ⟨by decide, by decide⟩ (Nat.le_of_ble_eq_true rfl) ⟨by decide, by decide⟩ rfl (c_X6_no (by omega)) ?_
      refine J.ireturn dX6_farthest_23 rfl ?_
      unfold an_farthest
      (try rw [hi_61]); (try rw [hi_62]); (try rw [hi_63]); (try rw [hi_65]); (try rw [hi_70]); (try rw [hi_74]); (try rw [hi_75]); (try rw [hi_76])
      repeat (first | rw [if_pos (by omega)] | rw [if_neg (by omega)])
      first
      | exact mpTF TF.rf
      | exact mpTFb TF.rf
      | exact mpTF hTF
      | exact mpTFb hTF
      | (exfalso; omega)

set_option maxRecDepth 100000 in
set_option maxHeartbeats 4000000 in
theorem c_X6_wrongSheet {l : Launch} {F : Nat × (Int → Int)} {iv : Mm} (hA : AI iv) {z : Int} (hz : -2147483648 ≤ z ∧ z < 2147483648) : Ctr l F 2 0 0 yX6_wrongSheet cX6_wrongSheet 2 (some FieldType.int) [r_ 61, i_ z] S0 (iv) (Ret (some (i_ (wrgS iv z))) S0 iv) := by
  refine Ctr.of false (fun h => by cases h) (by decide) rfl (Nat.le_of_ble_eq_true rfl) ?_
  refine J.iload_n (q := 1) dX6_wrongSheet_0 rfl ?_ rfl
  refine J.callS1i (q := 4) dX6_wrongSheet_1 mv_X6_isSheet kS_X6_isSheet kL_X6_177 ⟨by decide, by decide⟩ (Nat.le_of_ble_eq_true rfl) ⟨by decide, by decide⟩ rfl (c_X6_isSheet (by omega)) ?_
  refine J.ifb_ne (tgt := 11) (q := 7) dX6_wrongSheet_4 rfl rfl (fun c4 => ?_) (fun c4 => ?_)
  · refine J.aload_n (q := 12) dX6_wrongSheet_11 rfl ?_ rfl
    refine J.getR (ci := 6) (k0 := 18) (c1 := 74) (q := 15) dX6_wrongSheet_12 kF_X6_48 rfl (by decide) (by decide) rfl (by decide) rfl ?_ rfl
    refine J.iload_n (q := 16) dX6_wrongSheet_15 rfl ?_ rfl
    have hsh := hA.sh z (by omega) (by omega)
    refine J.iald (n := 4) (q := 17) dX6_wrongSheet_16 rfl (by omega) ?_ rfl
    refine J.if_ne (tgt := 24) (q := 20) (hv := by omega) dX6_wrongSheet_17 rfl rfl (fun c17 => ?_) (fun c17 => ?_)
    · refine J.iconst (q := 25) dX6_wrongSheet_24 ?_ rfl
      refine J.ireturn dX6_wrongSheet_25 rfl ?_
      refine ⟨congrArg (fun q => some (i_ q)) ?_, rfl, rfl⟩
      unfold wrgS
      repeat (first | rw [if_pos (by omega)] | rw [if_neg (by omega)])
    · refine J.iconst (q := 21) dX6_wrongSheet_20 ?_ rfl
      refine J.goto (tgt := 25) dX6_wrongSheet_21 rfl ?_
      refine J.ireturn dX6_wrongSheet_25 rfl ?_
      refine ⟨congrArg (fun q => some (i_ q)) ?_, rfl, rfl⟩
      unfold wrgS
      repeat (first | rw [if_pos (by omega)] | rw [if_neg (by omega)])
  · refine J.iconst (q := 8) dX6_wrongSheet_7 ?_ rfl
    refine J.goto (tgt := 25) dX6_wrongSheet_8 rfl ?_
    refine J.ireturn dX6_wrongSheet_25 rfl ?_
    refine ⟨congrArg (fun q => some (i_ q)) ?_, rfl, rfl⟩
    unfold wrgS
    repeat (first | rw [if_pos (by omega)] | rw [if_neg (by omega)])

set_option maxRecDepth 100000 in
set_option maxHeartbeats 4000000 in
theorem c_X6_wrongTrail {l : Launch} {F : Nat × (Int → Int)} {iv : Mm} (hA : AI iv) {z k : Int} (hz : -2147483648 ≤ z ∧ z < 2147483648) (hk : -2147483648 ≤ k ∧ k < 2147483648) : Ctr l F 3 0 0 yX6_wrongTrail cX6_wrongTrail 4 (some FieldType.int) [r_ 61, i_ z, i_ k] S0 (iv) (Ret (some (i_ (wrgT iv z k))) S0 iv) := by
  refine Ctr.of false (fun h => by cases h) (by decide) rfl (Nat.le_of_ble_eq_true rfl) ?_
  have hI := hA.mi
  have hmm := hI.many
  have hkp := hA.kp
  have htp := hA.tp
  have hw : wrgS iv z = 5 ∨ wrgS iv z = -1 ∨ wrgS iv z = 0 := by unfold wrgS; split <;> (try split) <;> simp
  refine J.aload_n (q := 1) dX6_wrongTrail_0 rfl ?_ rfl
  refine J.iload_n (q := 2) dX6_wrongTrail_1 rfl ?_ rfl
  refine J.callV1i (ci := 6) (q := 5) dX6_wrongTrail_2 mv_X6_wrongSheet kL_X6_180 rfl (by decide) rfl ⟨by decide, by decide⟩ (Nat.le_of_ble_eq_true rfl) ⟨by decide, by decide⟩ rfl (c_X6_wrongSheet hA (by omega)) ?_
  refine J.istore_n (q := 6) dX6_wrongTrail_5 (Nat.le_of_ble_eq_true rfl) ?_ rfl
  refine J.iload_n (q := 7) dX6_wrongTrail_6 rfl ?_ rfl
  refine J.if_lt (tgt := 14) (q := 10) dX6_wrongTrail_7 rfl rfl (fun c7 => ?_) (fun c7 => ?_)
  · refine J.aload_n (q := 15) dX6_wrongTrail_14 rfl ?_ rfl
    refine J.iload_n (q := 16) dX6_wrongTrail_15 rfl ?_ rfl
    refine J.callV1i (ci := 6) (q := 19) dX6_wrongTrail_16 mv_X6_isSnail kL_X6_131 rfl (by decide) rfl ⟨by decide, by decide⟩ (Nat.le_of_ble_eq_true rfl) ⟨by decide, by decide⟩ rfl (c_X6_isSnail (by omega) (by omega)) ?_
    refine J.ifb_eq (tgt := 26) (q := 22) dX6_wrongTrail_19 rfl rfl (fun c19 => ?_) (fun c19 => ?_)
    · refine J.iconst (q := 27) dX6_wrongTrail_26 ?_ rfl
      refine J.ireturn dX6_wrongTrail_27 rfl ?_
      refine ⟨congrArg (fun q => some (i_ q)) ?_, rfl, rfl⟩
      unfold wrgT
      repeat (first | rw [if_pos (by omega)] | rw [if_neg (by omega)])
    · refine J.iconst (q := 23) dX6_wrongTrail_22 ?_ rfl
      refine J.goto (tgt := 27) dX6_wrongTrail_23 rfl ?_
      refine J.ireturn dX6_wrongTrail_27 rfl ?_
      refine ⟨congrArg (fun q => some (i_ q)) ?_, rfl, rfl⟩
      unfold wrgT
      repeat (first | rw [if_pos (by omega)] | rw [if_neg (by omega)])
  · refine J.iload_n (q := 11) dX6_wrongTrail_10 rfl ?_ rfl
    refine J.goto (tgt := 27) dX6_wrongTrail_11 rfl ?_
    refine J.ireturn dX6_wrongTrail_27 rfl ?_
    refine ⟨congrArg (fun q => some (i_ q)) ?_, rfl, rfl⟩
    unfold wrgT
    repeat (first | rw [if_pos (by omega)] | rw [if_neg (by omega)])

set_option maxRecDepth 100000 in
set_option maxHeartbeats 4000000 in
theorem fitsFrom_loop {l : Launch} {F : Nat × (Int → Int)} {iv iv1 : Mm} (hA : AI iv) (hL : TF iv iv1 ∧ (∀ j, 0 ≤ j → j < 307 → iv1 64 j = iv 62 j) ∧ FarOK iv1 (fdst (iv 62)) (iv 62 2)) {z k c : Int} (hz : 0 ≤ z ∧ z ≤ 3) (hk : 0 ≤ k ∧ k < iv 62 2) (hc : 0 ≤ c ∧ c ≤ 80) : ∀ (n : Nat) (i : Nat) (y6 : Option VT), (iv 75 z - i < n) → ((i : Int) ≤ iv 75 z) → J l (yX6_fitsFrom).cls cX6_fitsFrom 7 (some FieldType.boolean) 4 0 0 false F (fun v S iv2 => v = some (i_ (b2 (fitB iv z k c (iv 75 z).toNat = true))) ∧ S = S0 ∧ TF iv iv2) 0 0 21 [some (r_ 61), some (i_ z), some (i_ k), some (i_ c), some (i_ (b2 (fitB iv z k c i = true))), some (i_ (i : Int)), y6] [] S0 (mk2 iv1 (dysM (fdst (iv 62)) th1 i ((upr (iv 62) (257 + 5 * k + 1) c), iv1 69))) := by
  intro n
  induction n with
  | zero =>
    intro i y6 hn hi
    omega
  | succ n ih =>
    intro i y6 hn hi
    have hI := hA.mi
    have hmm := hI.many
    have hkp := hA.kp
    have htp := hA.tp
    have hsh := hA.sh z hz.1 hz.2
    have hm1 : MI 99999 (upr (iv 62) (257 + 5 * k + 1) c) := hI.upd (by omega) (by omega) (by omega) (by omega) (by omega) (by omega) (fun c _ _ => ⟨by omega, by omega, by omega⟩) (fun i _ _ => ⟨by omega, fun _ => by omega, by omega, by omega, by omega⟩) (by omega)
    obtain ⟨hX, hX0, hXk⟩ := dysM_MI (fr := fdst (iv 62)) (th := th1) (X := ((upr (iv 62) (257 + 5 * k + 1) c), iv1 69)) hm1 i
    have hm2 : (dysM (fdst (iv 62)) th1 i ((upr (iv 62) (257 + 5 * k + 1) c), iv1 69)).1 2 = iv 62 2 := (hXk 2 (kept_lo (by omega))).trans (upr_n _ _ (by omega))
    have hfar := hL.2.2
    have e75 : mk2 iv1 (dysM (fdst (iv 62)) th1 i ((upr (iv 62) (257 + 5 * k + 1) c), iv1 69)) 75 = iv 75 := (mk2_n _ _ (by decide) (by decide)).trans (hL.1.2.2 75 (by omega))
    have e76 : mk2 iv1 (dysM (fdst (iv 62)) th1 i ((upr (iv 62) (257 + 5 * k + 1) c), iv1 69)) 76 = iv 76 := (mk2_n _ _ (by decide) (by decide)).trans (hL.1.2.2 76 (by omega))
    have hfd : fdst (upr (iv 62) (257 + 5 * k + 1) c) = fdst (iv 62) := (fdst_AT (iv 62) k c).resolve_right (by omega)
    have e1 : dys (upr (iv 62) (257 + 5 * k + 1) c) i = (dysM (fdst (iv 62)) th1 i ((upr (iv 62) (257 + 5 * k + 1) c), iv1 69)).1 := by
      unfold dys
      rw [hfd]
      exact dysM_fst (fdst (iv 62)) th1 (P0 (upr (iv 62) (257 + 5 * k + 1) c)) ((upr (iv 62) (257 + 5 * k + 1) c), iv1 69) rfl i
    have hfi : fitB iv z k c (i + 1) = (fitB iv z k c i && decide (iv 76 (40 * z + i) = -1 ∨ iv 76 (40 * z + i) = dys (upr (iv 62) (257 + 5 * k + 1) c) i (257 + 5 * k + 1))) := rfl
    refine J.iload (q := 23) dX6_fitsFrom_21 rfl ?_ rfl
    refine J.aload_n (q := 24) dX6_fitsFrom_23 rfl ?_ rfl
    refine J.getR (ci := 6) (k0 := 19) (c1 := 75) (q := 27) dX6_fitsFrom_24 kF_X6_51 rfl (by decide) (by decide) rfl (by decide) rfl ?_ rfl
    refine J.iload_n (q := 28) dX6_fitsFrom_27 rfl ?_ rfl
    refine J.iald (n := 4) (q := 29) dX6_fitsFrom_28 rfl (by omega) ?_ rfl
    rw [e75]
    refine J.icmp_ge (tgt := 89) (q := 32) (hv := by omega) dX6_fitsFrom_29 rfl rfl (fun c29 => ?_) (fun c29 => ?_)
    · have hi9 : (iv 75 z).toNat = i := by omega
      refine J.aload_n (q := 90) dX6_fitsFrom_89 rfl ?_ rfl
      refine J.callV0 (ci := 6) (q := 93) dX6_fitsFrom_90 mv_X6_laysBack kL_X6_158 rfl (by decide) rfl ⟨by decide, by decide⟩ (Nat.le_of_ble_eq_true rfl) ⟨by decide, by decide⟩ rfl (c_X6_laysBack) (fun v7 S7 iv7 hp => ?_)
      obtain ⟨rfl, rfl, b1, b2', b3⟩ := hp
      have hTF7 : TF iv iv7 := by
        refine ⟨fun q hq => ?_, ?_, fun q hq => ?_⟩
        · by_cases h62 : q = 62
          · subst h62
            refine laid (fun j h1 h2 => ?_) b3 (fun j hj => (dys_junk hm1 _ j hj).trans (upr_n _ _ (by omega)))
            rw [b2' j h1 h2, mk2_n _ _ (by decide) (by decide), hL.2.1 j h1 h2]
          · rw [b1 q h62, mk2_n _ _ h62 (by omega), hL.1.1 q hq]
        · rw [b1 65 (by decide), mk2_n _ _ (by decide) (by decide), hL.1.2.1]
        · rw [b1 q (by omega), mk2_n _ _ (by omega) (by omega), hL.1.2.2 q hq]
      refine J.iload (q := 95) dX6_fitsFrom_93 rfl ?_ rfl
      refine J.zreturn dX6_fitsFrom_95 rfl b2_01 ?_
      refine ⟨congrArg (fun q => some (i_ q)) ?_, rfl, hTF7⟩
      first
      | (rw [hi9]; done)
      | (rw [b2_f c34, b2_f (by rw [hfl]; decide)]; done)
    · refine J.iload (q := 34) dX6_fitsFrom_32 rfl ?_ rfl
      refine J.ifb_eq (tgt := 89) (q := 37) dX6_fitsFrom_34 rfl rfl (fun c34 => ?_) (fun c34 => ?_)
      · have hfl := fitB_le (Bool.eq_false_iff.mpr c34) (iv 75 z).toNat (by omega)
        refine J.aload_n (q := 90) dX6_fitsFrom_89 rfl ?_ rfl
        refine J.callV0 (ci := 6) (q := 93) dX6_fitsFrom_90 mv_X6_laysBack kL_X6_158 rfl (by decide) rfl ⟨by decide, by decide⟩ (Nat.le_of_ble_eq_true rfl) ⟨by decide, by decide⟩ rfl (c_X6_laysBack) (fun v7 S7 iv7 hp => ?_)
        obtain ⟨rfl, rfl, b1, b2', b3⟩ := hp
        have hTF7 : TF iv iv7 := by
          refine ⟨fun q hq => ?_, ?_, fun q hq => ?_⟩
          · by_cases h62 : q = 62
            · subst h62
              refine laid (fun j h1 h2 => ?_) b3 (fun j hj => (dys_junk hm1 _ j hj).trans (upr_n _ _ (by omega)))
              rw [b2' j h1 h2, mk2_n _ _ (by decide) (by decide), hL.2.1 j h1 h2]
            · rw [b1 q h62, mk2_n _ _ h62 (by omega), hL.1.1 q hq]
          · rw [b1 65 (by decide), mk2_n _ _ (by decide) (by decide), hL.1.2.1]
          · rw [b1 q (by omega), mk2_n _ _ (by omega) (by omega), hL.1.2.2 q hq]
        refine J.iload (q := 95) dX6_fitsFrom_93 rfl ?_ rfl
        refine J.zreturn dX6_fitsFrom_95 rfl b2_01 ?_
        refine ⟨congrArg (fun q => some (i_ q)) ?_, rfl, hTF7⟩
        first
        | (rw [hi9]; done)
        | (rw [b2_f c34, b2_f (by rw [hfl]; decide)]; done)
      · refine J.aload_n (q := 38) dX6_fitsFrom_37 rfl ?_ rfl
        refine J.getR (ci := 6) (k0 := 20) (c1 := 76) (q := 41) dX6_fitsFrom_38 kF_X6_54 rfl (by decide) (by decide) rfl (by decide) rfl ?_ rfl
        refine J.bipush (q := 43) dX6_fitsFrom_41 (by decide) ?_ rfl
        refine J.iload_n (q := 44) dX6_fitsFrom_43 rfl ?_ rfl
        refine J.imul (q := 45) dX6_fitsFrom_44 ?_ rfl
        refine J.iload (q := 47) dX6_fitsFrom_45 rfl ?_ rfl
        refine J.iadd (q := 48) dX6_fitsFrom_47 ?_ rfl
        have hnu := hA.nu (40 * z + i) (by omega) (by omega)
        refine J.iald (n := 160) (q := 49) dX6_fitsFrom_48 rfl (by omega) ?_ rfl
        rw [e76]
        refine J.istore (q := 51) dX6_fitsFrom_49 (Nat.le_of_ble_eq_true rfl) ?_ rfl
        refine J.iload (q := 53) dX6_fitsFrom_51 rfl ?_ rfl
        refine J.iconst (q := 54) dX6_fitsFrom_53 ?_ rfl
        refine J.icmp_eq (tgt := 68) (q := 57) dX6_fitsFrom_54 rfl rfl (fun c54 => ?_) (fun c54 => ?_)
        · have hcond : iv 76 (40 * z + i) = -1 ∨ iv 76 (40 * z + i) = dys (upr (iv 62) (257 + 5 * k + 1) c) i (257 + 5 * k + 1) := by
            first
            | exact Or.inl c54
            | exact Or.inr (c65.trans (congrFun e1.symm _))
          have hff : fitB iv z k c (i + 1) = true := by
            rw [hfi, c34, decide_eq_true hcond]
            rfl
          have hbb : b2 (fitB iv z k c (i + 1) = true) = 1 := b2_t hff
          refine J.iconst (q := 69) dX6_fitsFrom_68 ?_ rfl
          refine J.goto (tgt := 73) dX6_fitsFrom_69 rfl ?_
          refine J.istore (q := 75) dX6_fitsFrom_73 (Nat.le_of_ble_eq_true rfl) ?_ rfl
          refine J.aload_n (q := 76) dX6_fitsFrom_75 rfl ?_ rfl
          refine J.aload_n (q := 77) dX6_fitsFrom_76 rfl ?_ rfl
          refine J.callV0i (ci := 6) (q := 80) dX6_fitsFrom_77 mv_X6_allSnails kL_X6_115 rfl (by decide) rfl ⟨by decide, by decide⟩ (Nat.le_of_ble_eq_true rfl) ⟨by decide, by decide⟩ rfl (c_X6_allSnails (by rw [mk2_62, hm2]; exact hmm)) ?_
          simp only [mk2_62]
          rw [hm2]
          refine J.callV1v (ci := 6) (q := 83) dX6_fitsFrom_80 mv_X6_day kL_X6_119 rfl (by decide) rfl ⟨by decide, by decide⟩ (Nat.le_of_ble_eq_true rfl) ⟨by decide, by decide⟩ rfl (c_X6_day (by omega) hX hm2 hfar (allR hmm) (fun k a b => ⟨fun _ => rfl, fun _ => allB hmm ⟨a, b⟩⟩)) ?_
          refine J.iinc (q := 86) dX6_fitsFrom_83 rfl ?_ rfl
          refine J.goto (tgt := 21) dX6_fitsFrom_86 rfl ?_
          refine J.eql ?_ (ih (i + 1) (some (i_ (iv 76 (40 * z + i)))) (by omega) (by omega))
          rw [hbb]
          rfl
        · refine J.iload (q := 59) dX6_fitsFrom_57 rfl ?_ rfl
          refine J.aload_n (q := 60) dX6_fitsFrom_59 rfl ?_ rfl
          refine J.iload_n (q := 61) dX6_fitsFrom_60 rfl ?_ rfl
          refine J.iconst (q := 62) dX6_fitsFrom_61 ?_ rfl
          have hsx := hX.sna k (by omega) (by omega)
          refine J.callV2i (ci := 6) (q := 65) dX6_fitsFrom_62 mv_X6_get kL_X6_76 rfl (by decide) rfl ⟨by decide, by decide⟩ (Nat.le_of_ble_eq_true rfl) ⟨by decide, by decide⟩ rfl (c_X6_get (by omega)) ?_
          simp only [mk2_62]
          refine J.icmp_ne (tgt := 72) (q := 68) dX6_fitsFrom_65 rfl rfl (fun c65 => ?_) (fun c65 => ?_)
          · have hcond : ¬ (iv 76 (40 * z + i) = -1 ∨ iv 76 (40 * z + i) = dys (upr (iv 62) (257 + 5 * k + 1) c) i (257 + 5 * k + 1)) := fun q => q.elim c54 (fun r => c65 (r.trans (congrFun e1 _)))
            have hff : ¬ fitB iv z k c (i + 1) = true := by
              rw [hfi, c34, decide_eq_false hcond]
              decide
            have hbb : b2 (fitB iv z k c (i + 1) = true) = 0 := b2_f hff
            refine J.iconst (q := 73) dX6_fitsFrom_72 ?_ rfl
            refine J.istore (q := 75) dX6_fitsFrom_73 (Nat.le_of_ble_eq_true rfl) ?_ rfl
            refine J.aload_n (q := 76) dX6_fitsFrom_75 rfl ?_ rfl
            refine J.aload_n (q := 77) dX6_fitsFrom_76 rfl ?_ rfl
            refine J.callV0i (ci := 6) (q := 80) dX6_fitsFrom_77 mv_X6_allSnails kL_X6_115 rfl (by decide) rfl ⟨by decide, by decide⟩ (Nat.le_of_ble_eq_true rfl) ⟨by decide, by decide⟩ rfl (c_X6_allSnails (by rw [mk2_62, hm2]; exact hmm)) ?_
            simp only [mk2_62]
            rw [hm2]
            refine J.callV1v (ci := 6) (q := 83) dX6_fitsFrom_80 mv_X6_day kL_X6_119 rfl (by decide) rfl ⟨by decide, by decide⟩ (Nat.le_of_ble_eq_true rfl) ⟨by decide, by decide⟩ rfl (c_X6_day (by omega) hX hm2 hfar (allR hmm) (fun k a b => ⟨fun _ => rfl, fun _ => allB hmm ⟨a, b⟩⟩)) ?_
            refine J.iinc (q := 86) dX6_fitsFrom_83 rfl ?_ rfl
            refine J.goto (tgt := 21) dX6_fitsFrom_86 rfl ?_
            refine J.eql ?_ (ih (i + 1) (some (i_ (iv 76 (40 * z + i)))) (by omega) (by omega))
            rw [hbb]
            rfl
          · have hcond : iv 76 (40 * z + i) = -1 ∨ iv 76 (40 * z + i) = dys (upr (iv 62) (257 + 5 * k + 1) c) i (257 + 5 * k + 1) := by
              first
              | exact Or.inl c54
              | exact Or.inr (c65.trans (congrFun e1.symm _))
            have hff : fitB iv z k c (i + 1) = true := by
              rw [hfi, c34, decide_eq_true hcond]
              rfl
            have hbb : b2 (fitB iv z k c (i + 1) = true) = 1 := b2_t hff
            refine J.iconst (q := 69) dX6_fitsFrom_68 ?_ rfl
            refine J.goto (tgt := 73) dX6_fitsFrom_69 rfl ?_
            refine J.istore (q := 75) dX6_fitsFrom_73 (Nat.le_of_ble_eq_true rfl) ?_ rfl
            refine J.aload_n (q := 76) dX6_fitsFrom_75 rfl ?_ rfl
            refine J.aload_n (q := 77) dX6_fitsFrom_76 rfl ?_ rfl
            refine J.callV0i (ci := 6) (q := 80) dX6_fitsFrom_77 mv_X6_allSnails kL_X6_115 rfl (by decide) rfl ⟨by decide, by decide⟩ (Nat.le_of_ble_eq_true rfl) ⟨by decide, by decide⟩ rfl (c_X6_allSnails (by rw [mk2_62, hm2]; exact hmm)) ?_
            simp only [mk2_62]
            rw [hm2]
            refine J.callV1v (ci := 6) (q := 83) dX6_fitsFrom_80 mv_X6_day kL_X6_119 rfl (by decide) rfl ⟨by decide, by decide⟩ (Nat.le_of_ble_eq_true rfl) ⟨by decide, by decide⟩ rfl (c_X6_day (by omega) hX hm2 hfar (allR hmm) (fun k a b => ⟨fun _ => rfl, fun _ => allB hmm ⟨a, b⟩⟩)) ?_
            refine J.iinc (q := 86) dX6_fitsFrom_83 rfl ?_ rfl
            refine J.goto (tgt := 21) dX6_fitsFrom_86 rfl ?_
            refine J.eql ?_ (ih (i + 1) (some (i_ (iv 76 (40 * z + i)))) (by omega) (by omega))
            rw [hbb]
            rfl

set_option maxRecDepth 100000 in
set_option maxHeartbeats 4000000 in
theorem c_X6_fitsFrom {l : Launch} {F : Nat × (Int → Int)} {iv : Mm} (hA : AI iv) {z k c : Int} (hz : 0 ≤ z ∧ z ≤ 3) (hk : 0 ≤ k ∧ k < iv 62 2) (hc : 0 ≤ c ∧ c ≤ 80) : Ctr l F 4 0 0 yX6_fitsFrom cX6_fitsFrom 7 (some FieldType.boolean) [r_ 61, i_ z, i_ k, i_ c] S0 (iv) (fun v S iv2 => v = some (i_ (b2 (fitB iv z k c (iv 75 z).toNat = true))) ∧ S = S0 ∧ TF iv iv2) := by
  refine Ctr.of false (fun h => by cases h) (by decide) rfl (Nat.le_of_ble_eq_true rfl) ?_
  have hI := hA.mi
  have hmm := hI.many
  have hkp := hA.kp
  have htp := hA.tp
  refine J.aload_n (q := 1) dX6_fitsFrom_0 rfl ?_ rfl
  refine J.callV0 (ci := 6) (q := 4) dX6_fitsFrom_1 mv_X6_setsAside kL_X6_155 rfl (by decide) rfl ⟨by decide, by decide⟩ (Nat.le_of_ble_eq_true rfl) ⟨by decide, by decide⟩ rfl (c_X6_setsAside) (fun v9 S9 iv9 hp => ?_)
  obtain ⟨rfl, rfl, a1, a2, a3⟩ := hp
  have e9 := a1 62 (by decide)
  have hI9 : MI 99999 (iv9 62) := by rw [e9]; exact hI
  refine J.aload_n (q := 5) dX6_fitsFrom_4 rfl ?_ rfl
  refine J.callV0 (ci := 6) (q := 8) dX6_fitsFrom_5 mv_X6_findsFars kL_X6_112 rfl (by decide) rfl ⟨by decide, by decide⟩ (Nat.le_of_ble_eq_true rfl) ⟨by decide, by decide⟩ rfl (c_X6_findsFars (show (99999 : Int) ≤ 200000 by omega) hI9) (fun v8 S8 iv8 hp => ?_)
  obtain ⟨rfl, rfl, g1, g2⟩ := hp
  have e8 := (g1 62 (by decide) (by decide) (by decide)).trans e9
  rw [e9] at g2
  refine J.aload_n (q := 9) dX6_fitsFrom_8 rfl ?_ rfl
  refine J.iload_n (q := 10) dX6_fitsFrom_9 rfl ?_ rfl
  refine J.iconst (q := 11) dX6_fitsFrom_10 ?_ rfl
  refine J.iload_n (q := 12) dX6_fitsFrom_11 rfl ?_ rfl
  refine J.callV3v (ci := 6) (q := 15) dX6_fitsFrom_12 mv_X6_puts kL_X6_97 rfl (by decide) rfl ⟨by decide, by decide⟩ (Nat.le_of_ble_eq_true rfl) ⟨by decide, by decide⟩ rfl (c_X6_puts (by omega)) ?_
  refine J.iconst (q := 16) dX6_fitsFrom_15 ?_ rfl
  refine J.istore (q := 18) dX6_fitsFrom_16 (Nat.le_of_ble_eq_true rfl) ?_ rfl
  refine J.iconst (q := 19) dX6_fitsFrom_18 ?_ rfl
  refine J.istore (q := 21) dX6_fitsFrom_19 (Nat.le_of_ble_eq_true rfl) ?_ rfl
  have hL8 : iv8 = mk2 iv8 (iv 62, iv8 69) := by rw [← e8, mk2_self]
  refine J.eqi (iv2 := mk2 iv8 (dysM (fdst (iv 62)) th1 0 (upr (iv 62) (257 + 5 * k + 1) c, iv8 69))) ?_ (J.eql ?_ (fitsFrom_loop hA ⟨⟨fun q hq => ?_, ?_, fun q hq => ?_⟩, fun j h1 h2 => ?_, g2⟩ hz hk hc 41 0 none (by have := (hA.sh z hz.1 hz.2); omega) (by have := (hA.sh z hz.1 hz.2); omega)))
  · exact (congrArg (fun m => up m 62 (257 + 5 * k + 1) c) hL8).trans (mk2_up62 iv8 (iv 62, iv8 69) _ _)
  · rw [b2_t (show fitB iv z k c 0 = true from rfl)]
    rfl
  · rw [g1 q (by omega) (by omega) (by omega), a1 q (by omega)]
  · rw [g1 65 (by decide) (by decide) (by decide), a1 65 (by decide)]
  · rw [g1 q (by omega) (by omega) (by omega), a1 q (by omega)]
  · rw [g1 64 (by decide) (by decide) (by decide), a2 j h1 h2]

set_option maxRecDepth 100000 in
set_option maxHeartbeats 4000000 in
theorem fits_loop {l : Launch} {F : Nat × (Int → Int)} {iv : Mm} (hA : AI iv) {z k : Int} (hz : 0 ≤ z ∧ z ≤ 3) (hk : 0 ≤ k ∧ k < iv 62 2) (hw : wrgT iv z k < 0) {y3 : Int} : ∀ (n : Nat) (c : Nat) (iv1 : Mm), (81 - (c : Int) < n) → (c ≤ 81) → (TF iv iv1) → J l (yX6_fits).cls cX6_fits 6 (some FieldType.int) 6 0 0 false F (MP iv (an_fits (hi iv) z k)) 0 0 23 [some (r_ 61), some (i_ z), some (i_ k), some (i_ y3), some (i_ (sumZ (fun c => b2 (fitB iv z k c (iv 75 z).toNat = true)) c)), some (i_ (c : Int))] [] S0 (iv1) := by
  intro n
  induction n with
  | zero =>
    intro c iv1 hn hc hTF
    omega
  | succ n ih =>
    intro c iv1 hn hc hTF
    have hA1 := hA.tf hTF
    have e62 := hTF.1 62 (by omega)
    have e75 := hTF.2.2 75 (by omega)
    have e76 := hTF.2.2 76 (by omega)
    have hfb : fitB iv1 z k c (iv1 75 z).toNat = fitB iv z k c (iv 75 z).toNat := by
      have hg : ∀ n : Nat, fitB iv1 z k c n = fitB iv z k c n := by
        intro n
        induction n with
        | zero => rfl
        | succ n ih => rw [fitB, fitB, ih, e76, e62]
      rw [e75, hg]
    refine J.iload (q := 25) dX6_fits_23 rfl ?_ rfl
    refine J.bipush (q := 27) dX6_fits_25 (by decide) ?_ rfl
    refine J.icmp_ge (tgt := 57) (q := 30) dX6_fits_27 rfl rfl (fun c27 => ?_) (fun c27 => ?_)
    · refine J.iload (q := 59) dX6_fits_57 rfl ?_ rfl
      refine J.ireturn dX6_fits_59 rfl ?_
      have hc9 : c = 81 := by omega
      subst hc9
      unfold an_fits
      rw [fitB_hi]
      try (rw [show wrgT (hi iv) z k = wrgT iv z k from rfl])
      (try rw [hi_61]); (try rw [hi_62]); (try rw [hi_63]); (try rw [hi_65]); (try rw [hi_70]); (try rw [hi_74]); (try rw [hi_75]); (try rw [hi_76])
      first
      | (rw [if_pos (by omega)]; first | exact mpTFb TF.rf | exact mpTFb hTF)
      | (rw [if_neg (by omega)]; first | exact mpTF hTF | (rw [if_pos (by omega)]; exact mpTFb hTF) | (rw [if_neg (by omega)]; exact mpTF hTF))
      | (exfalso; omega)
    · refine J.iload (q := 32) dX6_fits_30 rfl ?_ rfl
      refine J.aload_n (q := 33) dX6_fits_32 rfl ?_ rfl
      refine J.iload_n (q := 34) dX6_fits_33 rfl ?_ rfl
      refine J.iload_n (q := 35) dX6_fits_34 rfl ?_ rfl
      refine J.iload (q := 37) dX6_fits_35 rfl ?_ rfl
      refine J.callV3 (ci := 6) (q := 40) dX6_fits_37 mv_X6_fitsFrom kL_X6_186 rfl (by decide) rfl ⟨by decide, by decide⟩ (Nat.le_of_ble_eq_true rfl) ⟨by decide, by decide⟩ rfl (c_X6_fitsFrom hA1 hz (by rw [e62]; exact hk) (by omega)) (fun v9 S9 iv9 hp => ?_)
      obtain ⟨rfl, rfl, t1⟩ := hp
      have hT2 := hTF.tr t1
      rw [hfb]
      refine J.ifb_eq (tgt := 47) (q := 43) dX6_fits_40 rfl rfl (fun c40 => ?_) (fun c40 => ?_)
      · have he : (fun c => b2 (fitB iv z k c (iv 75 z).toNat = true)) (c : Int) = 0 := b2_f c40
        refine J.iconst (q := 48) dX6_fits_47 ?_ rfl
        refine J.iadd (q := 49) dX6_fits_48 ?_ rfl
        refine J.istore (q := 51) dX6_fits_49 (Nat.le_of_ble_eq_true rfl) ?_ rfl
        refine J.iinc (q := 54) dX6_fits_51 rfl ?_ rfl
        refine J.goto (tgt := 23) dX6_fits_54 rfl ?_
        have e2 : sumZ (fun c => b2 (fitB iv z k c (iv 75 z).toNat = true)) (c + 1) = sumZ (fun c => b2 (fitB iv z k c (iv 75 z).toNat = true)) c + (fun c => b2 (fitB iv z k c (iv 75 z).toNat = true)) (c : Int) := rfl
        rw [he] at e2
        refine J.eql (by rw [← e2]; rfl) (ih (c + 1) _ (by omega) (by omega) hT2)
      · have he : (fun c => b2 (fitB iv z k c (iv 75 z).toNat = true)) (c : Int) = 1 := b2_t c40
        refine J.iconst (q := 44) dX6_fits_43 ?_ rfl
        refine J.goto (tgt := 48) dX6_fits_44 rfl ?_
        refine J.iadd (q := 49) dX6_fits_48 ?_ rfl
        refine J.istore (q := 51) dX6_fits_49 (Nat.le_of_ble_eq_true rfl) ?_ rfl
        refine J.iinc (q := 54) dX6_fits_51 rfl ?_ rfl
        refine J.goto (tgt := 23) dX6_fits_54 rfl ?_
        have e2 : sumZ (fun c => b2 (fitB iv z k c (iv 75 z).toNat = true)) (c + 1) = sumZ (fun c => b2 (fitB iv z k c (iv 75 z).toNat = true)) c + (fun c => b2 (fitB iv z k c (iv 75 z).toNat = true)) (c : Int) := rfl
        rw [he] at e2
        refine J.eql (by rw [← e2]; rfl) (ih (c + 1) _ (by omega) (by omega) hT2)

set_option maxRecDepth 100000 in
set_option maxHeartbeats 4000000 in
theorem c_X6_fits {l : Launch} {F : Nat × (Int → Int)} {iv : Mm} (hA : AI iv) {z k : Int} (hz : -2147483648 ≤ z ∧ z < 2147483648) (hk : -2147483648 ≤ k ∧ k < 2147483648) : Ctr l F 6 0 0 yX6_fits cX6_fits 6 (some FieldType.int) [r_ 61, i_ z, i_ k] S0 (iv) (MP iv (an_fits (hi iv) z k)) := by
  refine Ctr.of false (fun h => by cases h) (by decide) rfl (Nat.le_of_ble_eq_true rfl) ?_
  have hI := hA.mi
  have hmm := hI.many
  have hkp := hA.kp
  have htp := hA.tp
  have hwv : wrgT iv z k = 5 ∨ wrgT iv z k = -1 ∨ wrgT iv z k = 0 := by
    have hw : wrgS iv z = 5 ∨ wrgS iv z = -1 ∨ wrgS iv z = 0 := by unfold wrgS; split <;> (try split) <;> simp
    unfold wrgT
    split
    · exact hw
    · split <;> simp
  have hok : wrgT iv z k < 0 → (0 ≤ z ∧ z ≤ 3) ∧ 0 ≤ k ∧ k < iv 62 2 := by
    intro h
    unfold wrgT wrgS at h
    by_cases h1 : 0 ≤ z ∧ z ≤ 3
    · refine ⟨h1, ?_⟩
      by_cases h2 : 0 ≤ k ∧ k ≤ iv 62 2 - 1
      · omega
      · rw [if_neg h2] at h
        split at h <;> omega
    · rw [if_neg h1] at h
      simp at h
  refine J.aload_n (q := 1) dX6_fits_0 rfl ?_ rfl
  refine J.iload_n (q := 2) dX6_fits_1 rfl ?_ rfl
  refine J.iload_n (q := 3) dX6_fits_2 rfl ?_ rfl
  refine J.callV2i (ci := 6) (q := 6) dX6_fits_3 mv_X6_wrongTrail kL_X6_183 rfl (by decide) rfl ⟨by decide, by decide⟩ (Nat.le_of_ble_eq_true rfl) ⟨by decide, by decide⟩ rfl (c_X6_wrongTrail hA (by omega) (by omega)) ?_
  refine J.istore_n (q := 7) dX6_fits_6 (Nat.le_of_ble_eq_true rfl) ?_ rfl
  refine J.iload_n (q := 8) dX6_fits_7 rfl ?_ rfl
  refine J.if_lt (tgt := 17) (q := 11) dX6_fits_8 rfl rfl (fun c8 => ?_) (fun c8 => ?_)
  · refine J.iconst (q := 18) dX6_fits_17 ?_ rfl
    refine J.istore (q := 20) dX6_fits_18 (Nat.le_of_ble_eq_true rfl) ?_ rfl
    refine J.iconst (q := 21) dX6_fits_20 ?_ rfl
    refine J.istore (q := 23) dX6_fits_21 (Nat.le_of_ble_eq_true rfl) ?_ rfl
    obtain ⟨hz9, hk9⟩ := hok (by omega)
    exact fits_loop hA hz9 hk9 (by omega) 82 0 iv (by omega) (by omega) TF.rf
  · refine J.aload_n (q := 12) dX6_fits_11 rfl ?_ rfl
    refine J.iload_n (q := 13) dX6_fits_12 rfl ?_ rfl
    refine J.callV1i (ci := 6) (q := 16) dX6_fits_13 mv_X6_no kL_X6_125 rfl (by decide) rfl ⟨by decide, by decide⟩ (Nat.le_of_ble_eq_true rfl) ⟨by decide, by decide⟩ rfl (c_X6_no (by omega)) ?_
    refine J.ireturn dX6_fits_16 rfl ?_
    unfold an_fits
    rw [fitB_hi]
    try (rw [show wrgT (hi iv) z k = wrgT iv z k from rfl])
    (try rw [hi_61]); (try rw [hi_62]); (try rw [hi_63]); (try rw [hi_65]); (try rw [hi_70]); (try rw [hi_74]); (try rw [hi_75]); (try rw [hi_76])
    first
    | (rw [if_pos (by omega)]; first | exact mpTFb TF.rf | exact mpTFb hTF)
    | (rw [if_neg (by omega)]; first | exact mpTF hTF | (rw [if_pos (by omega)]; exact mpTFb hTF) | (rw [if_neg (by omega)]; exact mpTF hTF))
    | (exfalso; omega)

theorem firC_lt (p : Int → Bool) : ∀ (n : Nat) (c : Int), 0 ≤ c → -1 ≤ firC p n c ∧ firC p n c < c + n
  | 0, c, h => by unfold firC; omega
  | n + 1, c, h => by
    have := firC_lt p n (c + 1) (by omega)
    unfold firC
    split <;> omega

set_option maxRecDepth 100000 in
set_option maxHeartbeats 4000000 in
theorem began_loop {l : Launch} {F : Nat × (Int → Int)} {iv : Mm} (hA : AI iv) {z k : Int} (hz : 0 ≤ z ∧ z ≤ 3) (hk : 0 ≤ k ∧ k < iv 62 2) (hw : wrgT iv z k < 0) {y3 : Int} {R : Int} (hR : firC (fun c => fitB iv z k c (iv 75 z).toNat) 81 0 = R) : ∀ (n : Nat) (c : Nat) (iv1 : Mm), (81 - (c : Int) < n) → (c ≤ 81) → (TF iv iv1) → (firC (fun c => fitB iv z k c (iv 75 z).toNat) (81 - c) c = R) → J l (yX6_began).cls cX6_began 5 (some FieldType.int) 6 0 0 false F (MP iv (an_began (hi iv) z k)) 0 0 20 [some (r_ 61), some (i_ z), some (i_ k), some (i_ y3), some (i_ (c : Int))] [] S0 (iv1) := by
  intro n
  induction n with
  | zero =>
    intro c iv1 hn hc hTF hB
    omega
  | succ n ih =>
    intro c iv1 hn hc hTF hB
    have hA1 := hA.tf hTF
    have e62 := hTF.1 62 (by omega)
    have e75 := hTF.2.2 75 (by omega)
    have e76 := hTF.2.2 76 (by omega)
    have hfb : fitB iv1 z k c (iv1 75 z).toNat = fitB iv z k c (iv 75 z).toNat := by
      have hg : ∀ n : Nat, fitB iv1 z k c n = fitB iv z k c n := by
        intro n
        induction n with
        | zero => rfl
        | succ n ih => rw [fitB, fitB, ih, e76, e62]
      rw [e75, hg]
    refine J.iload (q := 22) dX6_began_20 rfl ?_ rfl
    refine J.bipush (q := 24) dX6_began_22 (by decide) ?_ rfl
    refine J.icmp_ge (tgt := 47) (q := 27) (hv := by omega) dX6_began_24 rfl rfl (fun c24 => ?_) (fun c24 => ?_)
    · rw [show 81 - c = 0 by omega, firC] at hB
      refine J.aload_n (q := 48) dX6_began_47 rfl ?_ rfl
      refine J.iconst (q := 49) dX6_began_48 ?_ rfl
      refine J.callV1i (ci := 6) (q := 52) dX6_began_49 mv_X6_no kL_X6_125 rfl (by decide) rfl ⟨by decide, by decide⟩ (Nat.le_of_ble_eq_true rfl) ⟨by decide, by decide⟩ rfl (c_X6_no (by omega)) ?_
      refine J.ireturn dX6_began_52 rfl ?_
      subst hB
      unfold an_began
      rw [fitB_hi]
      rw [show (fun c => fitB iv z k c (hi iv 75 z).toNat) = (fun c => fitB iv z k c (iv 75 z).toNat) from rfl, hR]
      try (rw [show wrgT (hi iv) z k = wrgT iv z k from rfl])
      (try rw [hi_61]); (try rw [hi_62]); (try rw [hi_63]); (try rw [hi_65]); (try rw [hi_70]); (try rw [hi_74]); (try rw [hi_75]); (try rw [hi_76])
      first
      | (rw [if_pos (by omega)]; first | exact mpTFb TF.rf | exact mpTFb hTF)
      | (rw [if_neg (by omega)]; first | exact mpTF hTF | (rw [if_pos (by omega)]; exact mpTFb hTF) | (rw [if_neg (by omega)]; exact mpTF hTF))
      | (exfalso; omega)
    · rw [show 81 - c = (81 - (c + 1)) + 1 by omega, firC] at hB
      refine J.aload_n (q := 28) dX6_began_27 rfl ?_ rfl
      refine J.iload_n (q := 29) dX6_began_28 rfl ?_ rfl
      refine J.iload_n (q := 30) dX6_began_29 rfl ?_ rfl
      refine J.iload (q := 32) dX6_began_30 rfl ?_ rfl
      refine J.callV3 (ci := 6) (q := 35) dX6_began_32 mv_X6_fitsFrom kL_X6_186 rfl (by decide) rfl ⟨by decide, by decide⟩ (Nat.le_of_ble_eq_true rfl) ⟨by decide, by decide⟩ rfl (c_X6_fitsFrom hA1 hz (by rw [e62]; exact hk) (by omega)) (fun v9 S9 iv9 hp => ?_)
      obtain ⟨rfl, rfl, t1⟩ := hp
      have hTF := hTF.tr t1
      rw [hfb]
      refine J.ifb_eq (tgt := 41) (q := 38) dX6_began_35 rfl rfl (fun c35 => ?_) (fun c35 => ?_)
      · rw [if_neg c35] at hB
        refine J.iinc (q := 44) dX6_began_41 rfl ?_ rfl
        refine J.goto (tgt := 20) dX6_began_44 rfl ?_
        exact ih (c + 1) _ (by omega) (by omega) hTF hB
      · rw [if_pos c35] at hB
        refine J.iload (q := 40) dX6_began_38 rfl ?_ rfl
        refine J.ireturn dX6_began_40 rfl ?_
        subst hB
        unfold an_began
        rw [fitB_hi]
        rw [show (fun c => fitB iv z k c (hi iv 75 z).toNat) = (fun c => fitB iv z k c (iv 75 z).toNat) from rfl, hR]
        try (rw [show wrgT (hi iv) z k = wrgT iv z k from rfl])
        (try rw [hi_61]); (try rw [hi_62]); (try rw [hi_63]); (try rw [hi_65]); (try rw [hi_70]); (try rw [hi_74]); (try rw [hi_75]); (try rw [hi_76])
        first
        | (rw [if_pos (by omega)]; first | exact mpTFb TF.rf | exact mpTFb hTF)
        | (rw [if_neg (by omega)]; first | exact mpTF hTF | (rw [if_pos (by omega)]; exact mpTFb hTF) | (rw [if_neg (by omega)]; exact mpTF hTF))
        | (exfalso; omega)

set_option maxRecDepth 100000 in
set_option maxHeartbeats 4000000 in
theorem c_X6_began {l : Launch} {F : Nat × (Int → Int)} {iv : Mm} (hA : AI iv) {z k : Int} (hz : -2147483648 ≤ z ∧ z < 2147483648) (hk : -2147483648 ≤ k ∧ k < 2147483648) : Ctr l F 6 0 0 yX6_began cX6_began 5 (some FieldType.int) [r_ 61, i_ z, i_ k] S0 (iv) (MP iv (an_began (hi iv) z k)) := by
  refine Ctr.of false (fun h => by cases h) (by decide) rfl (Nat.le_of_ble_eq_true rfl) ?_
  have hI := hA.mi
  have hmm := hI.many
  have hkp := hA.kp
  have htp := hA.tp
  have hwv : wrgT iv z k = 5 ∨ wrgT iv z k = -1 ∨ wrgT iv z k = 0 := by
    have hw : wrgS iv z = 5 ∨ wrgS iv z = -1 ∨ wrgS iv z = 0 := by unfold wrgS; split <;> (try split) <;> simp
    unfold wrgT
    split
    · exact hw
    · split <;> simp
  have hok : wrgT iv z k < 0 → (0 ≤ z ∧ z ≤ 3) ∧ 0 ≤ k ∧ k < iv 62 2 := by
    intro h
    unfold wrgT wrgS at h
    by_cases h1 : 0 ≤ z ∧ z ≤ 3
    · refine ⟨h1, ?_⟩
      by_cases h2 : 0 ≤ k ∧ k ≤ iv 62 2 - 1
      · omega
      · rw [if_neg h2] at h
        split at h <;> omega
    · rw [if_neg h1] at h
      simp at h
  refine J.aload_n (q := 1) dX6_began_0 rfl ?_ rfl
  refine J.iload_n (q := 2) dX6_began_1 rfl ?_ rfl
  refine J.iload_n (q := 3) dX6_began_2 rfl ?_ rfl
  refine J.callV2i (ci := 6) (q := 6) dX6_began_3 mv_X6_wrongTrail kL_X6_183 rfl (by decide) rfl ⟨by decide, by decide⟩ (Nat.le_of_ble_eq_true rfl) ⟨by decide, by decide⟩ rfl (c_X6_wrongTrail hA (by omega) (by omega)) ?_
  refine J.istore_n (q := 7) dX6_began_6 (Nat.le_of_ble_eq_true rfl) ?_ rfl
  refine J.iload_n (q := 8) dX6_began_7 rfl ?_ rfl
  refine J.if_lt (tgt := 17) (q := 11) dX6_began_8 rfl rfl (fun c8 => ?_) (fun c8 => ?_)
  · refine J.iconst (q := 18) dX6_began_17 ?_ rfl
    refine J.istore (q := 20) dX6_began_18 (Nat.le_of_ble_eq_true rfl) ?_ rfl
    obtain ⟨hz9, hk9⟩ := hok (by omega)
    exact began_loop hA hz9 hk9 (by omega) rfl 82 0 iv (by omega) (by omega) TF.rf rfl
  · refine J.aload_n (q := 12) dX6_began_11 rfl ?_ rfl
    refine J.iload_n (q := 13) dX6_began_12 rfl ?_ rfl
    refine J.callV1i (ci := 6) (q := 16) dX6_began_13 mv_X6_no kL_X6_125 rfl (by decide) rfl ⟨by decide, by decide⟩ (Nat.le_of_ble_eq_true rfl) ⟨by decide, by decide⟩ rfl (c_X6_no (by omega)) ?_
    refine J.ireturn dX6_began_16 rfl ?_
    unfold an_began
    rw [fitB_hi]
    try (rw [show wrgT (hi iv) z k = wrgT iv z k from rfl])
    (try rw [hi_61]); (try rw [hi_62]); (try rw [hi_63]); (try rw [hi_65]); (try rw [hi_70]); (try rw [hi_74]); (try rw [hi_75]); (try rw [hi_76])
    first
    | (rw [if_pos (by omega)]; first | exact mpTFb TF.rf | exact mpTFb hTF)
    | (rw [if_neg (by omega)]; first | exact mpTF hTF | (rw [if_pos (by omega)]; exact mpTFb hTF) | (rw [if_neg (by omega)]; exact mpTF hTF))
    | (exfalso; omega)

