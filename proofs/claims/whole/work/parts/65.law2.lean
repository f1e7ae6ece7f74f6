/-! the law: its loop, its start (printed by wip/whole/m_l2.py) -/
def PLaw : Option VT → Shp → Mm → Prop := fun v S iv2 => v = some (i_ 1)
set_option maxRecDepth 100000 in
set_option maxHeartbeats 4000000 in
theorem law_loop {l : Launch} {F : Nat × (Int → Int)} (hF0 : F.1 < 65536) (hF1 : ∀ j, -2147483648 ≤ F.2 j ∧ F.2 j < 2147483648) : ∀ (n : Nat) (i : Int) (iv1 : Mm), (F.1 + 7 - i < n) → (0 ≤ i) → (i ≤ F.1 + 6) → (LV iv1) → J l (yL_law).cls cL_law 4 (some FieldType.boolean) 14 78 7462 false F (PLaw) 78 7462 18 [some (r_ 1000), some (r_ 0), some (r_ 61), some (i_ i)] [] S0 (iv1) := by
  intro n
  induction n with
  | zero =>
    intro i iv1 hn hi0 hi7 hV
    omega
  | succ n ih =>
    intro i iv1 hn hi0 hi7 hV
    refine J.iload_n (q := 19) dL_law_18 rfl ?_ rfl
    refine J.aload_n (q := 20) dL_law_19 rfl ?_ rfl
    refine J.slen (q := 21) dL_law_20 ?_ rfl
    refine J.bipush (q := 23) dL_law_21 (by decide) ?_ rfl
    refine J.isub (q := 24) dL_law_23 ?_ rfl
    refine J.icmp_gt (tgt := 1698) (q := 27) dL_law_24 rfl rfl (fun c24 => ?_) (fun c24 => ?_)
    · refine J.iconst (q := 1699) dL_law_1698 ?_ rfl
      refine J.zreturn dL_law_1699 rfl (by omega) ?_
      exact rfl
    · have hi6 : i + 6 ≤ F.1 := by omega
      have hK : ∀ iv2, LV iv2 → J l (yL_law).cls cL_law 4 (some FieldType.boolean) 14 78 7462 false F PLaw 78 7462 1692 [some (r_ 1000), some (r_ 0), some (r_ 61), some (i_ i)] [] S0 iv2 := fun iv2 hV2 => by
        refine J.iinc (q := 1695) dL_law_1692 rfl ?_ rfl
        refine J.goto (tgt := 18) dL_law_1695 rfl ?_
        exact ih (i + 6) iv2 (by omega) (by omega) (by omega) hV2
      refine J.aload_n (q := 28) dL_law_27 rfl ?_ rfl
      refine J.iload_n (q := 29) dL_law_28 rfl ?_ rfl
      refine J.sld (q := 30) dL_law_29 (by omega) hF0 ?_ rfl
      refine J.bipush (q := 32) dL_law_30 (by decide) ?_ rfl
      refine J.iand (q := 33) (z := F.2 i % 64) dL_law_32 (I3_and 6 (by decide) rfl (by rw [show (2 : Int) ^ 6 = 64 from rfl])) ?_ rfl
      rcases (show (F.2 i % 64 < 0 ∨ 48 < F.2 i % 64) ∨ F.2 i % 64 = 0 ∨ F.2 i % 64 = 1 ∨ F.2 i % 64 = 2 ∨ F.2 i % 64 = 3 ∨ F.2 i % 64 = 4 ∨ F.2 i % 64 = 5 ∨ F.2 i % 64 = 6 ∨ F.2 i % 64 = 7 ∨ F.2 i % 64 = 8 ∨ F.2 i % 64 = 9 ∨ F.2 i % 64 = 10 ∨ F.2 i % 64 = 11 ∨ F.2 i % 64 = 12 ∨ F.2 i % 64 = 13 ∨ F.2 i % 64 = 14 ∨ F.2 i % 64 = 15 ∨ F.2 i % 64 = 16 ∨ F.2 i % 64 = 17 ∨ F.2 i % 64 = 18 ∨ F.2 i % 64 = 19 ∨ F.2 i % 64 = 20 ∨ F.2 i % 64 = 21 ∨ F.2 i % 64 = 22 ∨ F.2 i % 64 = 23 ∨ F.2 i % 64 = 24 ∨ F.2 i % 64 = 25 ∨ F.2 i % 64 = 26 ∨ F.2 i % 64 = 27 ∨ F.2 i % 64 = 28 ∨ F.2 i % 64 = 29 ∨ F.2 i % 64 = 30 ∨ F.2 i % 64 = 31 ∨ F.2 i % 64 = 32 ∨ F.2 i % 64 = 33 ∨ F.2 i % 64 = 34 ∨ F.2 i % 64 = 35 ∨ F.2 i % 64 = 36 ∨ F.2 i % 64 = 37 ∨ F.2 i % 64 = 38 ∨ F.2 i % 64 = 39 ∨ F.2 i % 64 = 40 ∨ F.2 i % 64 = 41 ∨ F.2 i % 64 = 42 ∨ F.2 i % 64 = 43 ∨ F.2 i % 64 = 44 ∨ F.2 i % 64 = 45 ∨ F.2 i % 64 = 46 ∨ F.2 i % 64 = 47 ∨ F.2 i % 64 = 48 by omega) with hO | hx33 | hx33 | hx33 | hx33 | hx33 | hx33 | hx33 | hx33 | hx33 | hx33 | hx33 | hx33 | hx33 | hx33 | hx33 | hx33 | hx33 | hx33 | hx33 | hx33 | hx33 | hx33 | hx33 | hx33 | hx33 | hx33 | hx33 | hx33 | hx33 | hx33 | hx33 | hx33 | hx33 | hx33 | hx33 | hx33 | hx33 | hx33 | hx33 | hx33 | hx33 | hx33 | hx33 | hx33 | hx33 | hx33 | hx33 | hx33 | hx33
      · refine J.tabOut (tgt := 1692) dL_law_33 (by omega) hO rfl ?_
        exact hK iv1 hV
      · refine J.tabIn (off := 211) (tgt := 244) dL_law_33 (by omega) (by omega) (by omega) (by rw [hx33]; rfl) rfl ?_
        exact law_0 hF0 hF1 hi0 hi6 hV hK
      · refine J.tabIn (off := 244) (tgt := 277) dL_law_33 (by omega) (by omega) (by omega) (by rw [hx33]; rfl) rfl ?_
        exact law_1 hF0 hF1 hi0 hi6 hV hK
      · refine J.tabIn (off := 277) (tgt := 310) dL_law_33 (by omega) (by omega) (by omega) (by rw [hx33]; rfl) rfl ?_
        exact law_2 hF0 hF1 hi0 hi6 hV hK
      · refine J.tabIn (off := 310) (tgt := 343) dL_law_33 (by omega) (by omega) (by omega) (by rw [hx33]; rfl) rfl ?_
        exact law_3 hF0 hF1 hi0 hi6 hV hK
      · refine J.tabIn (off := 343) (tgt := 376) dL_law_33 (by omega) (by omega) (by omega) (by rw [hx33]; rfl) rfl ?_
        exact law_4 hF0 hF1 hi0 hi6 hV hK
      · refine J.tabIn (off := 376) (tgt := 409) dL_law_33 (by omega) (by omega) (by omega) (by rw [hx33]; rfl) rfl ?_
        exact law_5 hF0 hF1 hi0 hi6 hV hK
      · refine J.tabIn (off := 409) (tgt := 442) dL_law_33 (by omega) (by omega) (by omega) (by rw [hx33]; rfl) rfl ?_
        exact law_6 hF0 hF1 hi0 hi6 hV hK
      · refine J.tabIn (off := 452) (tgt := 485) dL_law_33 (by omega) (by omega) (by omega) (by rw [hx33]; rfl) rfl ?_
        exact law_7 hF0 hF1 hi0 hi6 hV hK
      · refine J.tabIn (off := 485) (tgt := 518) dL_law_33 (by omega) (by omega) (by omega) (by rw [hx33]; rfl) rfl ?_
        exact law_8 hF0 hF1 hi0 hi6 hV hK
      · refine J.tabIn (off := 518) (tgt := 551) dL_law_33 (by omega) (by omega) (by omega) (by rw [hx33]; rfl) rfl ?_
        exact law_9 hF0 hF1 hi0 hi6 hV hK
      · refine J.tabIn (off := 541) (tgt := 574) dL_law_33 (by omega) (by omega) (by omega) (by rw [hx33]; rfl) rfl ?_
        exact law_10 hF0 hF1 hi0 hi6 hV hK
      · refine J.tabIn (off := 564) (tgt := 597) dL_law_33 (by omega) (by omega) (by omega) (by rw [hx33]; rfl) rfl ?_
        exact law_11 hF0 hF1 hi0 hi6 hV hK
      · refine J.tabIn (off := 587) (tgt := 620) dL_law_33 (by omega) (by omega) (by omega) (by rw [hx33]; rfl) rfl ?_
        exact law_12 hF0 hF1 hi0 hi6 hV hK
      · refine J.tabIn (off := 600) (tgt := 633) dL_law_33 (by omega) (by omega) (by omega) (by rw [hx33]; rfl) rfl ?_
        exact law_13 hF0 hF1 hi0 hi6 hV hK
      · refine J.tabIn (off := 633) (tgt := 666) dL_law_33 (by omega) (by omega) (by omega) (by rw [hx33]; rfl) rfl ?_
        exact law_14 hF0 hF1 hi0 hi6 hV hK
      · refine J.tabIn (off := 656) (tgt := 689) dL_law_33 (by omega) (by omega) (by omega) (by rw [hx33]; rfl) rfl ?_
        exact law_15 hF0 hF1 hi0 hi6 hV hK
      · refine J.tabIn (off := 699) (tgt := 732) dL_law_33 (by omega) (by omega) (by omega) (by rw [hx33]; rfl) rfl ?_
        exact law_16 hF0 hF1 hi0 hi6 hV hK
      · refine J.tabIn (off := 712) (tgt := 745) dL_law_33 (by omega) (by omega) (by omega) (by rw [hx33]; rfl) rfl ?_
        exact law_17 hF0 hF1 hi0 hi6 hV hK
      · refine J.tabIn (off := 745) (tgt := 778) dL_law_33 (by omega) (by omega) (by omega) (by rw [hx33]; rfl) rfl ?_
        exact law_18 hF0 hF1 hi0 hi6 hV hK
      · refine J.tabIn (off := 778) (tgt := 811) dL_law_33 (by omega) (by omega) (by omega) (by rw [hx33]; rfl) rfl ?_
        exact law_19 hF0 hF1 hi0 hi6 hV hK
      · refine J.tabIn (off := 811) (tgt := 844) dL_law_33 (by omega) (by omega) (by omega) (by rw [hx33]; rfl) rfl ?_
        exact law_20 hF0 hF1 hi0 hi6 hV hK
      · refine J.tabIn (off := 844) (tgt := 877) dL_law_33 (by omega) (by omega) (by omega) (by rw [hx33]; rfl) rfl ?_
        exact law_21 hF0 hF1 hi0 hi6 hV hK
      · refine J.tabIn (off := 867) (tgt := 900) dL_law_33 (by omega) (by omega) (by omega) (by rw [hx33]; rfl) rfl ?_
        exact law_22 hF0 hF1 hi0 hi6 hV hK
      · refine J.tabIn (off := 890) (tgt := 923) dL_law_33 (by omega) (by omega) (by omega) (by rw [hx33]; rfl) rfl ?_
        exact law_23 hF0 hF1 hi0 hi6 hV hK
      · refine J.tabIn (off := 923) (tgt := 956) dL_law_33 (by omega) (by omega) (by omega) (by rw [hx33]; rfl) rfl ?_
        exact law_24 hF0 hF1 hi0 hi6 hV hK
      · refine J.tabIn (off := 966) (tgt := 999) dL_law_33 (by omega) (by omega) (by omega) (by rw [hx33]; rfl) rfl ?_
        exact law_25 hF0 hF1 hi0 hi6 hV hK
      · refine J.tabIn (off := 989) (tgt := 1022) dL_law_33 (by omega) (by omega) (by omega) (by rw [hx33]; rfl) rfl ?_
        exact law_26 hF0 hF1 hi0 hi6 hV hK
      · refine J.tabIn (off := 1032) (tgt := 1065) dL_law_33 (by omega) (by omega) (by omega) (by rw [hx33]; rfl) rfl ?_
        exact law_27 hF0 hF1 hi0 hi6 hV hK
      · refine J.tabIn (off := 1075) (tgt := 1108) dL_law_33 (by omega) (by omega) (by omega) (by rw [hx33]; rfl) rfl ?_
        exact law_28 hF0 hF1 hi0 hi6 hV hK
      · refine J.tabIn (off := 1108) (tgt := 1141) dL_law_33 (by omega) (by omega) (by omega) (by rw [hx33]; rfl) rfl ?_
        exact law_29 hF0 hF1 hi0 hi6 hV hK
      · refine J.tabIn (off := 1141) (tgt := 1174) dL_law_33 (by omega) (by omega) (by omega) (by rw [hx33]; rfl) rfl ?_
        exact law_30 hF0 hF1 hi0 hi6 hV hK
      · refine J.tabIn (off := 1174) (tgt := 1207) dL_law_33 (by omega) (by omega) (by omega) (by rw [hx33]; rfl) rfl ?_
        exact law_31 hF0 hF1 hi0 hi6 hV hK
      · refine J.tabIn (off := 1197) (tgt := 1230) dL_law_33 (by omega) (by omega) (by omega) (by rw [hx33]; rfl) rfl ?_
        exact law_32 hF0 hF1 hi0 hi6 hV hK
      · refine J.tabIn (off := 1231) (tgt := 1264) dL_law_33 (by omega) (by omega) (by omega) (by rw [hx33]; rfl) rfl ?_
        exact law_33 hF0 hF1 hi0 hi6 hV hK
      · refine J.tabIn (off := 1254) (tgt := 1287) dL_law_33 (by omega) (by omega) (by omega) (by rw [hx33]; rfl) rfl ?_
        exact law_34 hF0 hF1 hi0 hi6 hV hK
      · refine J.tabIn (off := 1287) (tgt := 1320) dL_law_33 (by omega) (by omega) (by omega) (by rw [hx33]; rfl) rfl ?_
        exact law_35 hF0 hF1 hi0 hi6 hV hK
      · refine J.tabIn (off := 1300) (tgt := 1333) dL_law_33 (by omega) (by omega) (by omega) (by rw [hx33]; rfl) rfl ?_
        exact law_36 hF0 hF1 hi0 hi6 hV hK
      · refine J.tabIn (off := 1313) (tgt := 1346) dL_law_33 (by omega) (by omega) (by omega) (by rw [hx33]; rfl) rfl ?_
        exact law_37 hF0 hF1 hi0 hi6 hV hK
      · refine J.tabIn (off := 1346) (tgt := 1379) dL_law_33 (by omega) (by omega) (by omega) (by rw [hx33]; rfl) rfl ?_
        exact law_38 hF0 hF1 hi0 hi6 hV hK
      · refine J.tabIn (off := 1379) (tgt := 1412) dL_law_33 (by omega) (by omega) (by omega) (by rw [hx33]; rfl) rfl ?_
        exact law_39 hF0 hF1 hi0 hi6 hV hK
      · refine J.tabIn (off := 1422) (tgt := 1455) dL_law_33 (by omega) (by omega) (by omega) (by rw [hx33]; rfl) rfl ?_
        exact law_40 hF0 hF1 hi0 hi6 hV hK
      · refine J.tabIn (off := 1465) (tgt := 1498) dL_law_33 (by omega) (by omega) (by omega) (by rw [hx33]; rfl) rfl ?_
        exact law_41 hF0 hF1 hi0 hi6 hV hK
      · refine J.tabIn (off := 1528) (tgt := 1561) dL_law_33 (by omega) (by omega) (by omega) (by rw [hx33]; rfl) rfl ?_
        exact law_42 hF0 hF1 hi0 hi6 hV hK
      · refine J.tabIn (off := 1551) (tgt := 1584) dL_law_33 (by omega) (by omega) (by omega) (by rw [hx33]; rfl) rfl ?_
        exact law_43 hF0 hF1 hi0 hi6 hV hK
      · refine J.tabIn (off := 1574) (tgt := 1607) dL_law_33 (by omega) (by omega) (by omega) (by rw [hx33]; rfl) rfl ?_
        exact law_44 hF0 hF1 hi0 hi6 hV hK
      · refine J.tabIn (off := 1587) (tgt := 1620) dL_law_33 (by omega) (by omega) (by omega) (by rw [hx33]; rfl) rfl ?_
        exact law_45 hF0 hF1 hi0 hi6 hV hK
      · refine J.tabIn (off := 1600) (tgt := 1633) dL_law_33 (by omega) (by omega) (by omega) (by rw [hx33]; rfl) rfl ?_
        exact law_46 hF0 hF1 hi0 hi6 hV hK
      · refine J.tabIn (off := 1613) (tgt := 1646) dL_law_33 (by omega) (by omega) (by omega) (by rw [hx33]; rfl) rfl ?_
        exact law_47 hF0 hF1 hi0 hi6 hV hK
      · refine J.tabIn (off := 1636) (tgt := 1669) dL_law_33 (by omega) (by omega) (by omega) (by rw [hx33]; rfl) rfl ?_
        exact law_48 hF0 hF1 hi0 hi6 hV hK

set_option maxRecDepth 100000 in
set_option maxHeartbeats 4000000 in
theorem law_start {l : Launch} {F : Nat × (Int → Int)} (hF0 : F.1 < 65536) (hF1 : ∀ j, -2147483648 ≤ F.2 j ∧ F.2 j < 2147483648) : J l (yL_law).cls cL_law 4 (some FieldType.boolean) 14 78 7462 false F PLaw 0 0 0 [some (r_ 1000), none, none, none] [] (Sg 0 0) (fun _ _ => 0) := by
  have hz : ∀ q, 0 ≤ q → (fun (_ : Nat) (_ : Int) => (0 : Int)) q = fun _ => 0 := fun q _ => rfl
  refine J.newG (q := 3) (ci := 5) (n := 0) (m := 0) (a1 := 1) (b1 := 8) dL_law_0 (by decide) rfl (by decide +kernel) (by decide) kB_L_7 kO_X5 kD_X5 ⟨by decide, by decide⟩ rfl rfl rfl (hz 0 (by omega)) ?_
  refine J.dup (q := 4) dL_law_3 rfl ?_ rfl
  refine J.callIG (q := 7) (a1 := 61) (b1 := 5084) dL_law_4 mv_X5_init rfl kL_L_9 (by decide) ⟨by decide, by decide⟩ rfl ⟨by decide, by decide⟩ rfl rfl rfl (c_X5_init_0 (fun q hq => hz q (by omega))) (fun iv4 hp4 => ?_)
  obtain ⟨r4, i4, z4, f4⟩ := hp4
  have hz4 : ∀ q, 61 ≤ q → iv4 q = fun _ => 0 := fun q hq => f4 q (by omega)
  clear hz
  have hz := hz4
  refine J.astore_n (q := 8) dL_law_7 (Nat.le_of_ble_eq_true rfl) ?_ rfl
  refine J.newG (q := 11) (ci := 6) (n := 61) (m := 60) (a1 := 62) (b1 := 5106) dL_law_8 (by decide) rfl (by decide +kernel) (by decide) kB_L_10 kO_X6 kD_X6 ⟨by decide, by decide⟩ rfl rfl rfl (hz 61 (by omega)) ?_
  refine J.dup (q := 12) dL_law_11 rfl ?_ rfl
  refine J.callIG (q := 15) (a1 := 78) (b1 := 7462) dL_law_12 mv_X6_init rfl kL_L_12 (by decide) ⟨by decide, by decide⟩ rfl ⟨by decide, by decide⟩ rfl rfl rfl (c_X6_init_61 (fun q hq => hz q (by omega))) (fun iv12 hp12 => ?_)
  obtain ⟨e12, s12, f12, w12⟩ := hp12
  rw [Sg_S0]
  have g60 : ∀ q, (q = 51 ∨ 57 ≤ q ∧ q ≤ 61) → iv12 q = fun _ => 0 := fun q hq => (e12 q (by omega)).trans (f4 q (by omega))
  have g70 : ∀ q, 63 ≤ q → (q < 71 ∨ 73 < q) → iv12 q = fun _ => 0 := fun q h0 h1 => (f12 q h0 h1).trans (f4 q (by omega))
  have hm : MI 99999 (iv12 62) := sI_MI.cg (fun j _ _ => s12 j)
  have hV : LV iv12 := by
    refine ⟨⟨?_, fun e => ?_, ?_, fun k k0 k1 => ?_, ?_, fun j j0 j1 => ?_, fun z z0 z1 => ?_, fun j j0 j1 => ?_⟩, ⟨hm, ?_, fun e => ?_, ?_, fun j j0 j1 => ?_, fun z z0 z1 => ?_, fun j j0 j1 => ?_⟩, w12⟩
    · exact (r4.fr (fun q q1 q2 q3 => e12 q (by omega))).cg (fun j _ _ => s12 j)
    · have e : iv12 61 3 = 1 := e
      rw [g60 61 (by omega)] at e
      exact absurd e (by decide)
    · show iv12 0 7 = iv12 61 3
      rw [e12 0 (by omega), i4, g60 61 (by omega)]
    · show iv12 60 k = iv12 65 k
      rw [g60 60 (by omega), g70 65 (by omega) (by omega)]
    · show iv12 50 0 = iv12 61 10
      rw [e12 50 (by omega), z4, g60 61 (by omega)]
    · show iv12 51 j = iv12 70 j
      rw [g60 51 (by omega), g70 70 (by omega) (by omega)]
    · show iv12 57 z = iv12 74 z ∧ iv12 58 z = iv12 75 z
      rw [g60 57 (by omega), g60 58 (by omega), g70 74 (by omega) (by omega), g70 75 (by omega) (by omega)]
      exact ⟨rfl, rfl⟩
    · show iv12 59 j = iv12 76 j
      rw [g60 59 (by omega), g70 76 (by omega) (by omega)]
    · show 0 ≤ iv12 61 3 ∧ iv12 61 3 ≤ 1
      rw [g60 61 (by omega)]
      decide
    · have e : iv12 61 3 = 1 := e
      rw [g60 61 (by omega)] at e
      exact absurd e (by decide)
    · show 0 ≤ iv12 61 10 ∧ iv12 61 10 ≤ 120
      rw [g60 61 (by omega)]
      decide
    · show 0 ≤ iv12 70 j ∧ iv12 70 j ≤ 255
      rw [g70 70 (by omega) (by omega)]
      show 0 ≤ (0 : Int) ∧ (0 : Int) ≤ 255
      decide
    · show (iv12 74 z = 0 ∨ iv12 74 z = 8 ∨ iv12 74 z = 16 ∨ iv12 74 z = 32) ∧ (0 ≤ iv12 75 z ∧ iv12 75 z ≤ 40) ∧ (iv12 74 z = 0 → iv12 75 z = 0)
      rw [g70 74 (by omega) (by omega), g70 75 (by omega) (by omega)]
      show ((0 : Int) = 0 ∨ (0 : Int) = 8 ∨ (0 : Int) = 16 ∨ (0 : Int) = 32) ∧ (0 ≤ (0 : Int) ∧ (0 : Int) ≤ 40) ∧ ((0 : Int) = 0 → (0 : Int) = 0)
      decide
    · show -2147483648 ≤ iv12 76 j ∧ iv12 76 j < 2147483648
      rw [g70 76 (by omega) (by omega)]
      show -2147483648 ≤ (0 : Int) ∧ (0 : Int) < 2147483648
      decide
  refine J.astore_n (q := 16) dL_law_15 (Nat.le_of_ble_eq_true rfl) ?_ rfl
  refine J.iconst (q := 17) dL_law_16 ?_ rfl
  refine J.istore_n (q := 18) dL_law_17 (Nat.le_of_ble_eq_true rfl) ?_ rfl
  exact law_loop hF0 hF1 (F.1 + 8) 0 iv12 (by omega) (by omega) (by omega) hV
