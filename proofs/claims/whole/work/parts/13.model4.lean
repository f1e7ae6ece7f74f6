/-! the reference: a day and the days (printed by wip/whole/m_model4.py) -/
set_option maxRecDepth 100000 in
set_option maxHeartbeats 4000000 in
theorem crawls_loop {l : Launch} {F : Nat × (Int → Int)} {D : Int} {iv : Mm} {X : P2} {fr : Int → Int → Int} {k : Int} (hD : D ≤ 200000) (hI : MI D X.1) (hk : 0 ≤ k ∧ k < 8) (hfar : ∀ c, 0 ≤ c → c ≤ 80 → iv 66 (81 * k + c) = fr k c ∧ 0 ≤ fr k c ∧ fr k c ≤ 99) : ∀ (n : Nat) (i : Nat) (y4 : Option VT), (movM X.1 k - i < n) → ((i : Int) ≤ movM X.1 k) → J l (yX6_crawls).cls cX6_crawls 5 none 2 0 0 false F (Ret none S0 (mk2 iv (crawl fr k X))) 0 0 24 [some (r_ 61), some (i_ k), some (i_ (movM X.1 k)), some (i_ (i : Int)), y4] [] S0 (mk2 iv (itM fr k i (come X (X.1 (257 + 5 * k + 1)) (X.1 (257 + 5 * k + 2))))) := by
  intro n
  induction n with
  | zero =>
    intro i y4 hn hi
    omega
  | succ n ih =>
    intro i y4 hn hi
    have hs0 := hI.sna k (by omega) (by omega)
    have hY := come_MI (X := X) (c := X.1 (257 + 5 * k + 1)) (law := X.1 (257 + 5 * k + 2)) hI hs0.2.1 hs0.2.2.1
    obtain ⟨hZ, hZk⟩ := it_MI (fr := fr) hY hk i
    have hs := hZ.sna k (by omega) (by omega)
    have hm := movM_rng (k := k) hI
    have hg := hZ.cel _ hs.2.1.1 hs.2.1.2
    have hn := nxtM_rng (fr := fr) hs.2.1
    refine J.iload_n (q := 25) dX6_crawls_24 rfl ?_ rfl
    refine J.iload_n (q := 26) dX6_crawls_25 rfl ?_ rfl
    refine J.icmp_ge (tgt := 73) (q := 29) dX6_crawls_26 rfl rfl (fun c26 => ?_) (fun c26 => ?_)
    · refine J.bipush (q := 75) dX6_crawls_73 (by decide) ?_ rfl
      refine J.aload_n (q := 76) dX6_crawls_75 rfl ?_ rfl
      refine J.iload_n (q := 77) dX6_crawls_76 rfl ?_ rfl
      refine J.iconst (q := 78) dX6_crawls_77 ?_ rfl
      refine J.callV2i (ci := 6) (q := 81) dX6_crawls_78 mv_X6_get kL_X6_76 rfl (by decide) rfl ⟨by decide, by decide⟩ (Nat.le_of_ble_eq_true rfl) ⟨by decide, by decide⟩ rfl (c_X6_get (by omega)) ?_
      try simp only [mk2_62, mk2_69, mk2_up62, mk2_up69]
      refine J.iadd (q := 82) dX6_crawls_81 ?_ rfl
      refine J.istore_n (q := 83) dX6_crawls_82 (Nat.le_of_ble_eq_true rfl) ?_ rfl
      refine J.aload_n (q := 84) dX6_crawls_83 rfl ?_ rfl
      refine J.getR (ci := 6) (k0 := 0) (c1 := 62) (q := 87) dX6_crawls_84 kF_X6_9 rfl (by decide) (by decide) rfl (by decide) rfl ?_ rfl
      refine J.iload_n (q := 88) dX6_crawls_87 rfl ?_ rfl
      refine J.dup2 (q := 89) dX6_crawls_88 rfl rfl ?_ rfl
      refine J.iald (n := 307) (q := 90) dX6_crawls_89 rfl (by omega) ?_ rfl
      try simp only [mk2_62, mk2_69, mk2_up62, mk2_up69]
      refine J.aload_n (q := 91) dX6_crawls_90 rfl ?_ rfl
      refine J.iload_n (q := 92) dX6_crawls_91 rfl ?_ rfl
      refine J.callV1i (ci := 6) (q := 95) dX6_crawls_92 mv_X6_isGreedy kL_X6_101 rfl (by decide) rfl ⟨by decide, by decide⟩ (Nat.le_of_ble_eq_true rfl) ⟨by decide, by decide⟩ rfl (c_X6_isGreedy hk (by rw [mk2_62]; omega)) ?_
      try simp only [mk2_62, mk2_69, mk2_up62, mk2_up69]
      refine J.ifb_eq (tgt := 111) (q := 98) dX6_crawls_95 rfl rfl (fun c95 => ?_) (fun c95 => ?_)
      · refine J.iconst (q := 112) dX6_crawls_111 ?_ rfl
        refine J.isub (q := 113) dX6_crawls_112 ?_ rfl
        refine J.iast (n := 307) (q := 114) dX6_crawls_113 rfl (by omega) ?_ rfl
        try simp only [mk2_62, mk2_69, mk2_up62, mk2_up69]
        refine J.vreturn dX6_crawls_114 rfl ?_
        refine ⟨rfl, rfl, ?_⟩
        have hit : (movM X.1 k).toNat = i := by omega
        unfold crawl munch
        rw [hit]
        first
        | (rw [if_pos (by omega)]; done)
        | (rw [if_neg (by omega)]; done)
      · refine J.aload_n (q := 99) dX6_crawls_98 rfl ?_ rfl
        refine J.getR (ci := 6) (k0 := 0) (c1 := 62) (q := 102) dX6_crawls_99 kF_X6_9 rfl (by decide) (by decide) rfl (by decide) rfl ?_ rfl
        refine J.iload_n (q := 103) dX6_crawls_102 rfl ?_ rfl
        refine J.iald (n := 307) (q := 104) dX6_crawls_103 rfl (by omega) ?_ rfl
        try simp only [mk2_62, mk2_69, mk2_up62, mk2_up69]
        refine J.if_le (tgt := 111) (q := 107) dX6_crawls_104 rfl rfl (fun c104 => ?_) (fun c104 => ?_)
        · refine J.iconst (q := 112) dX6_crawls_111 ?_ rfl
          refine J.isub (q := 113) dX6_crawls_112 ?_ rfl
          refine J.iast (n := 307) (q := 114) dX6_crawls_113 rfl (by omega) ?_ rfl
          try simp only [mk2_62, mk2_69, mk2_up62, mk2_up69]
          refine J.vreturn dX6_crawls_114 rfl ?_
          refine ⟨rfl, rfl, ?_⟩
          have hit : (movM X.1 k).toNat = i := by omega
          unfold crawl munch
          rw [hit]
          first
          | (rw [if_pos (by omega)]; done)
          | (rw [if_neg (by omega)]; done)
        · refine J.iconst (q := 108) dX6_crawls_107 ?_ rfl
          refine J.goto (tgt := 112) dX6_crawls_108 rfl ?_
          refine J.isub (q := 113) dX6_crawls_112 ?_ rfl
          refine J.iast (n := 307) (q := 114) dX6_crawls_113 rfl (by omega) ?_ rfl
          try simp only [mk2_62, mk2_69, mk2_up62, mk2_up69]
          refine J.vreturn dX6_crawls_114 rfl ?_
          refine ⟨rfl, rfl, ?_⟩
          have hit : (movM X.1 k).toNat = i := by omega
          unfold crawl munch
          rw [hit]
          first
          | (rw [if_pos (by omega)]; done)
          | (rw [if_neg (by omega)]; done)
    · refine J.aload_n (q := 30) dX6_crawls_29 rfl ?_ rfl
      refine J.iload_n (q := 31) dX6_crawls_30 rfl ?_ rfl
      refine J.callV1i (ci := 6) (q := 34) dX6_crawls_31 mv_X6_nextOf kL_X6_94 rfl (by decide) rfl ⟨by decide, by decide⟩ (Nat.le_of_ble_eq_true rfl) ⟨by decide, by decide⟩ rfl (c_X6_nextOf (fr := fr) hk (fun c h1 h2 => by rw [mk2_n _ _ (by decide) (by decide)]; exact hfar c h1 h2) hs.2.1 hg.1) ?_
      try simp only [mk2_62, mk2_69, mk2_up62, mk2_up69]
      refine J.istore (q := 36) dX6_crawls_34 (Nat.le_of_ble_eq_true rfl) ?_ rfl
      refine J.iload (q := 38) dX6_crawls_36 rfl ?_ rfl
      refine J.aload_n (q := 39) dX6_crawls_38 rfl ?_ rfl
      refine J.iload_n (q := 40) dX6_crawls_39 rfl ?_ rfl
      refine J.iconst (q := 41) dX6_crawls_40 ?_ rfl
      refine J.callV2i (ci := 6) (q := 44) dX6_crawls_41 mv_X6_get kL_X6_76 rfl (by decide) rfl ⟨by decide, by decide⟩ (Nat.le_of_ble_eq_true rfl) ⟨by decide, by decide⟩ rfl (c_X6_get (by omega)) ?_
      try simp only [mk2_62, mk2_69, mk2_up62, mk2_up69]
      refine J.icmp_eq (tgt := 67) (q := 47) (hv := by omega) dX6_crawls_44 rfl rfl (fun c44 => ?_) (fun c44 => ?_)
      · have he : itM fr k (i + 1) (come X (X.1 (257 + 5 * k + 1)) (X.1 (257 + 5 * k + 2))) = (itM fr k i (come X (X.1 (257 + 5 * k + 1)) (X.1 (257 + 5 * k + 2)))) := if_pos c44
        refine J.iinc (q := 70) dX6_crawls_67 rfl ?_ rfl
        refine J.goto (tgt := 24) dX6_crawls_70 rfl ?_
        have hlt : (i : Int) < movM X.1 k := by omega
        rw [← he]
        exact ih (i + 1) _ (by omega) (by omega)
      · have he : itM fr k (i + 1) (come X (X.1 (257 + 5 * k + 1)) (X.1 (257 + 5 * k + 2))) = come (upr (itM fr k i (come X (X.1 (257 + 5 * k + 1)) (X.1 (257 + 5 * k + 2)))).1 (257 + 5 * k + 1) (nxtM fr (itM fr k i (come X (X.1 (257 + 5 * k + 1)) (X.1 (257 + 5 * k + 2)))).1 k), (itM fr k i (come X (X.1 (257 + 5 * k + 1)) (X.1 (257 + 5 * k + 2)))).2) (nxtM fr (itM fr k i (come X (X.1 (257 + 5 * k + 1)) (X.1 (257 + 5 * k + 2)))).1 k) ((itM fr k i (come X (X.1 (257 + 5 * k + 1)) (X.1 (257 + 5 * k + 2)))).1 (257 + 5 * k + 2)) := if_neg c44
        have hU : MI D (upr (itM fr k i (come X (X.1 (257 + 5 * k + 1)) (X.1 (257 + 5 * k + 2)))).1 (257 + 5 * k + 1) (nxtM fr (itM fr k i (come X (X.1 (257 + 5 * k + 1)) (X.1 (257 + 5 * k + 2)))).1 k)) := by
          refine hZ.upd (by omega) (by omega) (by omega) (by omega) (by omega) (by omega) (fun c _ _ => ⟨by omega, by omega, by omega⟩) (fun i _ _ => ⟨by omega, fun _ => hn, by omega, by omega, by omega⟩) (by omega)
        refine J.aload_n (q := 48) dX6_crawls_47 rfl ?_ rfl
        refine J.iload_n (q := 49) dX6_crawls_48 rfl ?_ rfl
        refine J.iconst (q := 50) dX6_crawls_49 ?_ rfl
        refine J.iload (q := 52) dX6_crawls_50 rfl ?_ rfl
        refine J.callV3v (ci := 6) (q := 55) dX6_crawls_52 mv_X6_puts kL_X6_97 rfl (by decide) rfl ⟨by decide, by decide⟩ (Nat.le_of_ble_eq_true rfl) ⟨by decide, by decide⟩ rfl (c_X6_puts (by omega)) ?_
        try simp only [mk2_62, mk2_69, mk2_up62, mk2_up69]
        refine J.aload_n (q := 56) dX6_crawls_55 rfl ?_ rfl
        refine J.iload (q := 58) dX6_crawls_56 rfl ?_ rfl
        refine J.aload_n (q := 59) dX6_crawls_58 rfl ?_ rfl
        refine J.iload_n (q := 60) dX6_crawls_59 rfl ?_ rfl
        refine J.iconst (q := 61) dX6_crawls_60 ?_ rfl
        refine J.callV2i (ci := 6) (q := 64) dX6_crawls_61 mv_X6_get kL_X6_76 rfl (by decide) rfl ⟨by decide, by decide⟩ (Nat.le_of_ble_eq_true rfl) ⟨by decide, by decide⟩ rfl (c_X6_get (by omega)) ?_
        try simp only [mk2_62, mk2_69, mk2_up62, mk2_up69]
        try rw [upr_n _ _ (by omega)]
        refine J.callV2v (ci := 6) (q := 67) dX6_crawls_64 mv_X6_comesUnder kL_X6_87 rfl (by decide) rfl ⟨by decide, by decide⟩ (Nat.le_of_ble_eq_true rfl) ⟨by decide, by decide⟩ rfl (c_X6_comesUnder (X := (upr (itM fr k i (come X (X.1 (257 + 5 * k + 1)) (X.1 (257 + 5 * k + 2)))).1 (257 + 5 * k + 1) (nxtM fr (itM fr k i (come X (X.1 (257 + 5 * k + 1)) (X.1 (257 + 5 * k + 2)))).1 k), (itM fr k i (come X (X.1 (257 + 5 * k + 1)) (X.1 (257 + 5 * k + 2)))).2)) hU (by omega) (by omega)) ?_
        try simp only [mk2_62, mk2_69, mk2_up62, mk2_up69]
        refine J.iinc (q := 70) dX6_crawls_67 rfl ?_ rfl
        refine J.goto (tgt := 24) dX6_crawls_70 rfl ?_
        have hlt : (i : Int) < movM X.1 k := by omega
        rw [← he]
        exact ih (i + 1) _ (by omega) (by omega)

set_option maxRecDepth 100000 in
set_option maxHeartbeats 4000000 in
theorem c_X6_crawls {l : Launch} {F : Nat × (Int → Int)} {D : Int} {iv : Mm} {X : P2} {fr : Int → Int → Int} {k : Int} (hD : D ≤ 200000) (hI : MI D X.1) (hk : 0 ≤ k ∧ k < 8) (hfar : ∀ c, 0 ≤ c → c ≤ 80 → iv 66 (81 * k + c) = fr k c ∧ 0 ≤ fr k c ∧ fr k c ≤ 99) : Ctr l F 2 0 0 yX6_crawls cX6_crawls 5 none [r_ 61, i_ k] S0 (mk2 iv X) (Ret none S0 (mk2 iv (crawl fr k X))) := by
  refine Ctr.of false (fun h => by cases h) (by decide) rfl (Nat.le_of_ble_eq_true rfl) ?_
  have hs := hI.sna k (by omega) (by omega)
  have hY := come_MI (X := X) (c := X.1 (257 + 5 * k + 1)) (law := X.1 (257 + 5 * k + 2)) hI hs.2.1 hs.2.2.1
  refine J.aload_n (q := 1) dX6_crawls_0 rfl ?_ rfl
  refine J.aload_n (q := 2) dX6_crawls_1 rfl ?_ rfl
  refine J.iload_n (q := 3) dX6_crawls_2 rfl ?_ rfl
  refine J.iconst (q := 4) dX6_crawls_3 ?_ rfl
  refine J.callV2i (ci := 6) (q := 7) dX6_crawls_4 mv_X6_get kL_X6_76 rfl (by decide) rfl ⟨by decide, by decide⟩ (Nat.le_of_ble_eq_true rfl) ⟨by decide, by decide⟩ rfl (c_X6_get (by omega)) ?_
  try simp only [mk2_62, mk2_69, mk2_up62, mk2_up69]
  refine J.aload_n (q := 8) dX6_crawls_7 rfl ?_ rfl
  refine J.iload_n (q := 9) dX6_crawls_8 rfl ?_ rfl
  refine J.iconst (q := 10) dX6_crawls_9 ?_ rfl
  refine J.callV2i (ci := 6) (q := 13) dX6_crawls_10 mv_X6_get kL_X6_76 rfl (by decide) rfl ⟨by decide, by decide⟩ (Nat.le_of_ble_eq_true rfl) ⟨by decide, by decide⟩ rfl (c_X6_get (by omega)) ?_
  try simp only [mk2_62, mk2_69, mk2_up62, mk2_up69]
  refine J.callV2v (ci := 6) (q := 16) dX6_crawls_13 mv_X6_comesUnder kL_X6_87 rfl (by decide) rfl ⟨by decide, by decide⟩ (Nat.le_of_ble_eq_true rfl) ⟨by decide, by decide⟩ rfl (c_X6_comesUnder hI (by omega) (by omega)) ?_
  try simp only [mk2_62, mk2_69, mk2_up62, mk2_up69]
  refine J.aload_n (q := 17) dX6_crawls_16 rfl ?_ rfl
  refine J.iload_n (q := 18) dX6_crawls_17 rfl ?_ rfl
  refine J.callV1i (ci := 6) (q := 21) dX6_crawls_18 mv_X6_movesOf kL_X6_90 rfl (by decide) rfl ⟨by decide, by decide⟩ (Nat.le_of_ble_eq_true rfl) ⟨by decide, by decide⟩ rfl (c_X6_movesOf (by omega) hY hk) ?_
  try simp only [mk2_62, mk2_69, mk2_up62, mk2_up69]
  rw [movM_come hI hs.2.1 hk]
  refine J.istore_n (q := 22) dX6_crawls_21 (Nat.le_of_ble_eq_true rfl) ?_ rfl
  refine J.iconst (q := 23) dX6_crawls_22 ?_ rfl
  refine J.istore_n (q := 24) dX6_crawls_23 (Nat.le_of_ble_eq_true rfl) ?_ rfl
  have hm := movM_rng (k := k) hI
  exact crawls_loop hD hI hk hfar 10 0 _ (by omega) (by omega)

set_option maxRecDepth 100000 in
set_option maxHeartbeats 4000000 in
theorem day_loop {l : Launch} {F : Nat × (Int → Int)} {D m : Int} {iv : Mm} {fr : Int → Int → Int} {th : Int → Bool} {those : Int} (hD : D ≤ 200000) (hfar : FarOK iv fr m) (ht : 0 ≤ those ∧ those ≤ 255) (hth : ∀ k, 0 ≤ k → k < m → (those / 2 ^ k.toNat % 2 = 1 ↔ th k = true)) {n0 : Nat} {k0 : Int} {X0 : P2} : ∀ (n : Nat) (k : Int) (X : P2), (8 - k < n) → (0 ≤ k ∧ k ≤ m) → (MI D X.1) → (X.1 2 = m) → (dayL fr th n k X = dayL fr th n0 k0 X0) → J l (yX6_day).cls cX6_day 3 none 3 0 0 false F (Ret none S0 (mk2 iv (upr (dayL fr th n0 k0 X0).1 0 ((dayL fr th n0 k0 X0).1 0 + 1), (dayL fr th n0 k0 X0).2))) 0 0 2 [some (r_ 61), some (i_ those), some (i_ k)] [] S0 (mk2 iv X) := by
  intro n
  induction n with
  | zero =>
    intro k X hn hk hI hm hB
    have := hI.many
    omega
  | succ n ih =>
    intro k X hn hk hI hm hB
    have hmm := hI.many
    refine J.iload_n (q := 3) dX6_day_2 rfl ?_ rfl
    refine J.aload_n (q := 4) dX6_day_3 rfl ?_ rfl
    refine J.getR (ci := 6) (k0 := 0) (c1 := 62) (q := 7) dX6_day_4 kF_X6_9 rfl (by decide) (by decide) rfl (by decide) rfl ?_ rfl
    refine J.iconst (q := 8) dX6_day_7 ?_ rfl
    refine J.iald (n := 307) (q := 9) dX6_day_8 rfl (by omega) ?_ rfl
    try simp only [mk2_62, mk2_69, mk2_up62, mk2_up69]
    refine J.icmp_ge (tgt := 31) (q := 12) (hv := by omega) dX6_day_9 rfl rfl (fun c9 => ?_) (fun c9 => ?_)
    · refine J.aload_n (q := 32) dX6_day_31 rfl ?_ rfl
      refine J.getR (ci := 6) (k0 := 0) (c1 := 62) (q := 35) dX6_day_32 kF_X6_9 rfl (by decide) (by decide) rfl (by decide) rfl ?_ rfl
      refine J.iconst (q := 36) dX6_day_35 ?_ rfl
      refine J.dup2 (q := 37) dX6_day_36 rfl rfl ?_ rfl
      refine J.iald (n := 307) (q := 38) dX6_day_37 rfl (by omega) ?_ rfl
      try simp only [mk2_62, mk2_69, mk2_up62, mk2_up69]
      refine J.iconst (q := 39) dX6_day_38 ?_ rfl
      refine J.iadd (q := 40) dX6_day_39 ?_ rfl
      refine J.iast (n := 307) (q := 41) dX6_day_40 rfl (by omega) ?_ rfl
      try simp only [mk2_62, mk2_69, mk2_up62, mk2_up69]
      refine J.vreturn dX6_day_41 rfl ?_
      rw [dayL, if_neg (by omega)] at hB
      rw [← hB]
      exact ⟨rfl, rfl, rfl⟩
    · rw [dayL, if_pos (by omega)] at hB
      have hbit := hth k (by omega) (by omega)
      have hmo := Int.emod_nonneg (those / 2 ^ k.toNat) (show (2 : Int) ≠ 0 by decide)
      refine J.iload_n (q := 13) dX6_day_12 rfl ?_ rfl
      refine J.iload_n (q := 14) dX6_day_13 rfl ?_ rfl
      refine J.callS2i (q := 17) dX6_day_14 mv_X6_isIn kS_X6_isIn kL_X6_104 ⟨by decide, by decide⟩ (Nat.le_of_ble_eq_true rfl) ⟨by decide, by decide⟩ rfl (c_X6_isIn (by omega) (by omega)) ?_
      try simp only [mk2_62, mk2_69, mk2_up62, mk2_up69]
      refine J.ifb_eq (tgt := 25) (q := 20) dX6_day_17 rfl rfl (fun c17 => ?_) (fun c17 => ?_)
      · rw [if_neg (fun z => c17 (hbit.mpr z))] at hB
        refine J.iinc (q := 28) dX6_day_25 rfl ?_ rfl
        refine J.goto (tgt := 2) dX6_day_28 rfl ?_
        first
        | exact ih (k + 1) X (by omega) (by omega) hI hm hB
        | (obtain ⟨hC, hCk⟩ := crawl_MI (fr := fr) (k := k) hI (by omega)
           exact ih (k + 1) _ (by omega) (by omega) hC ((hCk 2 (kept_lo (by omega))).trans hm) hB)
      · rw [if_pos (hbit.mp c17)] at hB
        refine J.aload_n (q := 21) dX6_day_20 rfl ?_ rfl
        refine J.iload_n (q := 22) dX6_day_21 rfl ?_ rfl
        refine J.callV1v (ci := 6) (q := 25) dX6_day_22 mv_X6_crawls kL_X6_108 rfl (by decide) rfl ⟨by decide, by decide⟩ (Nat.le_of_ble_eq_true rfl) ⟨by decide, by decide⟩ rfl (c_X6_crawls (fr := fr) hD hI (by omega) (fun c h1 h2 => hfar k c (by omega) (by omega) h1 h2)) ?_
        try simp only [mk2_62, mk2_69, mk2_up62, mk2_up69]
        refine J.iinc (q := 28) dX6_day_25 rfl ?_ rfl
        refine J.goto (tgt := 2) dX6_day_28 rfl ?_
        first
        | exact ih (k + 1) X (by omega) (by omega) hI hm hB
        | (obtain ⟨hC, hCk⟩ := crawl_MI (fr := fr) (k := k) hI (by omega)
           exact ih (k + 1) _ (by omega) (by omega) hC ((hCk 2 (kept_lo (by omega))).trans hm) hB)

set_option maxRecDepth 100000 in
set_option maxHeartbeats 4000000 in
theorem c_X6_day {l : Launch} {F : Nat × (Int → Int)} {D m : Int} {iv : Mm} {X : P2} {fr : Int → Int → Int} {th : Int → Bool} {those : Int} (hD : D ≤ 200000) (hI : MI D X.1) (hm : X.1 2 = m) (hfar : FarOK iv fr m) (ht : 0 ≤ those ∧ those ≤ 255) (hth : ∀ k, 0 ≤ k → k < m → (those / 2 ^ k.toNat % 2 = 1 ↔ th k = true)) : Ctr l F 3 0 0 yX6_day cX6_day 3 none [r_ 61, i_ those] S0 (mk2 iv X) (Ret none S0 (mk2 iv (dayM fr th X))) := by
  refine Ctr.of false (fun h => by cases h) (by decide) rfl (Nat.le_of_ble_eq_true rfl) ?_
  refine J.iconst (q := 1) dX6_day_0 ?_ rfl
  refine J.istore_n (q := 2) dX6_day_1 (Nat.le_of_ble_eq_true rfl) ?_ rfl
  have hmm := hI.many
  exact day_loop hD hfar ht hth 9 0 X (by omega) (by omega) hI hm rfl

set_option maxRecDepth 100000 in
set_option maxHeartbeats 4000000 in
theorem findsFars_loop {l : Launch} {F : Nat × (Int → Int)} {D : Int} {iv : Mm} (hD : D ≤ 200000) (hI : MI D (iv 62)) {ivb : Mm} (hb : ∀ q, q ≠ 68 → ivb q = iv q) (hbar : ∀ c, 0 ≤ c → c < 81 → ivb 68 c = (if opH (iv 62) c = true then 0 else 1)) : ∀ (n : Nat) (k : Int) (iv1 : Mm), (8 - k < n) → (0 ≤ k ∧ k ≤ iv 62 2) → (∀ q, q ≠ 66 → q ≠ 67 → iv1 q = ivb q) → (FarOK iv1 (fdst (iv 62)) k) → J l (yX6_findsFars).cls cX6_findsFars 2 none 2 0 0 false F (fun v S iv2 => v = none ∧ S = S0 ∧ (∀ q, q ≠ 66 → q ≠ 67 → q ≠ 68 → iv2 q = iv q) ∧ FarOK iv2 (fdst (iv 62)) (iv 62 2)) 0 0 6 [some (r_ 61), some (i_ k)] [] S0 (iv1) := by
  intro n
  induction n with
  | zero =>
    intro k iv1 hn hk hfr hF
    have := hI.many
    omega
  | succ n ih =>
    intro k iv1 hn hk hfr hF
    have hmm := hI.many
    have e62 : iv1 62 = iv 62 := (hfr 62 (by decide) (by decide)).trans (hb 62 (by decide))
    refine J.iload_n (q := 7) dX6_findsFars_6 rfl ?_ rfl
    refine J.aload_n (q := 8) dX6_findsFars_7 rfl ?_ rfl
    refine J.getR (ci := 6) (k0 := 0) (c1 := 62) (q := 11) dX6_findsFars_8 kF_X6_9 rfl (by decide) (by decide) rfl (by decide) rfl ?_ rfl
    refine J.iconst (q := 12) dX6_findsFars_11 ?_ rfl
    refine J.iald (n := 307) (q := 13) dX6_findsFars_12 rfl (by omega) ?_ rfl
    rw [e62]
    refine J.icmp_ge (tgt := 36) (q := 16) dX6_findsFars_13 rfl rfl (fun c13 => ?_) (fun c13 => ?_)
    · refine J.vreturn dX6_findsFars_36 rfl ?_
      have hk2 : k = iv 62 2 := by omega
      subst hk2
      exact ⟨rfl, rfl, fun q h1 h2 h3 => (hfr q h1 h2).trans (hb q h3), hF⟩
    · have hs := hI.sna k (by omega) (by omega)
      refine J.aload_n (q := 17) dX6_findsFars_16 rfl ?_ rfl
      refine J.aload_n (q := 18) dX6_findsFars_17 rfl ?_ rfl
      refine J.iload_n (q := 19) dX6_findsFars_18 rfl ?_ rfl
      refine J.iconst (q := 20) dX6_findsFars_19 ?_ rfl
      refine J.callV2i (ci := 6) (q := 23) dX6_findsFars_20 mv_X6_get kL_X6_76 rfl (by decide) rfl ⟨by decide, by decide⟩ (Nat.le_of_ble_eq_true rfl) ⟨by decide, by decide⟩ rfl (c_X6_get (by omega)) ?_
      rw [e62]
      refine J.bipush (q := 25) dX6_findsFars_23 (by decide) ?_ rfl
      refine J.iload_n (q := 26) dX6_findsFars_25 rfl ?_ rfl
      refine J.imul (q := 27) dX6_findsFars_26 ?_ rfl
      refine J.callV2 (ci := 6) (q := 30) dX6_findsFars_27 mv_X6_spreads kL_X6_79 rfl (by decide) rfl ⟨by decide, by decide⟩ (Nat.le_of_ble_eq_true rfl) ⟨by decide, by decide⟩ rfl (c_X6_spreads (op := opH (iv 62)) (by omega) (by omega) (fun c h1 h2 => by rw [hfr 68 (by decide) (by decide)]; exact hbar c h1 h2)) (fun v9 S9 iv9 hp => ?_)
      obtain ⟨rfl, rfl, g1, g2, g3⟩ := hp
      refine J.iinc (q := 33) dX6_findsFars_30 rfl ?_ rfl
      refine J.goto (tgt := 6) dX6_findsFars_33 rfl ?_
      refine ih (k + 1) _ (by omega) (by omega) (fun q h1 h2 => (g1 q h1 h2).trans (hfr q h1 h2)) (fun i c h1 h2 h3 h4 => ?_)
      by_cases hi : i = k
      · subst hi
        exact ⟨g2 c h3 (by omega), fdst_rng hI (by omega) c⟩
      · rw [g3 _ (by omega)]
        exact hF i c h1 (by omega) h3 h4

set_option maxRecDepth 100000 in
set_option maxHeartbeats 4000000 in
theorem c_X6_findsFars {l : Launch} {F : Nat × (Int → Int)} {D : Int} {iv : Mm} (hD : D ≤ 200000) (hI : MI D (iv 62)) : Ctr l F 2 0 0 yX6_findsFars cX6_findsFars 2 none [r_ 61] S0 (iv) (fun v S iv2 => v = none ∧ S = S0 ∧ (∀ q, q ≠ 66 → q ≠ 67 → q ≠ 68 → iv2 q = iv q) ∧ FarOK iv2 (fdst (iv 62)) (iv 62 2)) := by
  refine Ctr.of false (fun h => by cases h) (by decide) rfl (Nat.le_of_ble_eq_true rfl) ?_
  refine J.aload_n (q := 1) dX6_findsFars_0 rfl ?_ rfl
  refine J.callV0 (ci := 6) (q := 4) dX6_findsFars_1 mv_X6_barsHedges kL_X6_73 rfl (by decide) rfl ⟨by decide, by decide⟩ (Nat.le_of_ble_eq_true rfl) ⟨by decide, by decide⟩ rfl (c_X6_barsHedges (fun c h1 h2 => (hI.cel c h1 h2).1)) (fun v9 S9 iv9 hp => ?_)
  obtain ⟨rfl, rfl, g1, g2⟩ := hp
  refine J.iconst (q := 5) dX6_findsFars_4 ?_ rfl
  refine J.istore_n (q := 6) dX6_findsFars_5 (Nat.le_of_ble_eq_true rfl) ?_ rfl
  have hmm := hI.many
  refine findsFars_loop hD hI g1 (fun c h1 h2 => ?_) 9 0 _ (by omega) (by omega) (fun _ _ _ => rfl) (fun i c h1 h2 => by omega)
  rw [g2 c h1 h2]
  exact opH_b (by omega)

