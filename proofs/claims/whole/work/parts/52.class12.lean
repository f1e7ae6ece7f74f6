/-! the class: releases (printed by wip/whole/m_c12.py) -/
-- where no snail of a set bears a law, that law comes nowhere
theorem come_nl {X : P2} {p law c w : Int} (hc : 0 ≤ c) (h : X.1 (176 + c) ≠ w) (hw : law ≠ w) : (come X p law).1 (176 + c) ≠ w := by
  unfold come
  show upr _ (176 + p) law (176 + c) ≠ w
  by_cases e : (176 + c : Int) = 176 + p
  · rw [e, upr_s]; exact hw
  · rw [upr_n _ _ e]
    split
    · by_cases e1 : (176 + c : Int) = 1
      · exfalso; omega
      · rw [upr_n _ _ e1]; exact h
    · exact h
theorem step_nl {fr : Int → Int → Int} {k c w : Int} {X : P2} (hk : 0 ≤ k) (hc : 0 ≤ c ∧ c ≤ 80) (h : X.1 (176 + c) ≠ w) (hw : X.1 (257 + 5 * k + 2) ≠ w) : (stepM fr k X).1 (176 + c) ≠ w := by
  unfold stepM
  split
  · exact h
  · refine come_nl hc.1 ?_ hw
    show upr X.1 _ _ (176 + c) ≠ w
    rw [upr_n _ _ (by omega)]
    exact h
theorem it_nl {D : Int} {fr : Int → Int → Int} {k c w : Int} {X : P2} (hI : MI D X.1) (hk : 0 ≤ k ∧ k < 8) (hc : 0 ≤ c ∧ c ≤ 80) (h : X.1 (176 + c) ≠ w) (hw : X.1 (257 + 5 * k + 2) ≠ w) : ∀ n : Nat, (itM fr k n X).1 (176 + c) ≠ w
  | 0 => h
  | n + 1 => by
    obtain ⟨h1, h2⟩ := it_MI (fr := fr) hI hk n
    exact step_nl hk.1 hc (it_nl hI hk hc h hw n) (by rw [h2 _ (kept_s hk (by omega))]; exact hw)
theorem crawl_nl {D : Int} {fr : Int → Int → Int} {k c w : Int} {X : P2} (hI : MI D X.1) (hk : 0 ≤ k ∧ k < 8) (hc : 0 ≤ c ∧ c ≤ 80) (h : X.1 (176 + c) ≠ w) (hw : X.1 (257 + 5 * k + 2) ≠ w) : (crawl fr k X).1 (176 + c) ≠ w := by
  have hs := hI.sna k hk.1 hk.2
  have h1 := come_MI (X := X) (c := X.1 (257 + 5 * k + 1)) (law := X.1 (257 + 5 * k + 2)) hI hs.2.1 hs.2.2.1
  obtain ⟨h2, h3⟩ := it_MI (fr := fr) h1 hk (movM X.1 k).toNat
  have h4 := it_nl (fr := fr) h1 hk hc (come_nl hc.1 h hw) (by rw [come_kept hs.2.1 (kept_s hk (by omega))]; exact hw) (movM X.1 k).toNat
  have h5 := h2.sna k hk.1 hk.2
  unfold crawl munch
  show upr _ _ _ (176 + c) ≠ w
  rw [upr_n _ _ (by omega)]
  exact h4
theorem dayL_nl {D : Int} {fr : Int → Int → Int} {th : Int → Bool} {c w : Int} (hc : 0 ≤ c ∧ c ≤ 80) : ∀ (n : Nat) (k : Int) (X : P2), MI D X.1 → 0 ≤ k → X.1 (176 + c) ≠ w → (∀ j, 0 ≤ j → j < X.1 2 → th j = true → X.1 (257 + 5 * j + 2) ≠ w) → (dayL fr th n k X).1 (176 + c) ≠ w
  | 0, _, _, _, _, h, _ => h
  | n + 1, k, X, hI, hk, h, hw => by
    have hm := hI.many
    unfold dayL
    split
    · rename_i hlt
      by_cases ht : th k = true
      · rw [if_pos ht]
        obtain ⟨h1, h2⟩ := crawl_MI (fr := fr) (k := k) hI (by omega)
        refine dayL_nl hc n (k + 1) _ h1 (by omega) (crawl_nl hI (by omega) hc h (hw k hk hlt ht)) (fun j j0 j1 jt => ?_)
        rw [h2 2 (kept_lo (by omega))] at j1
        rw [h2 _ (kept_s (by omega) (by omega))]
        exact hw j j0 j1 jt
      · rw [if_neg ht]
        exact dayL_nl hc n (k + 1) X hI (by omega) h hw
    · exact h
theorem dysM_nl {D : Int} {fr : Int → Int → Int} {th : Int → Bool} {c w : Int} {X : P2} (hc : 0 ≤ c ∧ c ≤ 80) (hI : MI D X.1) (h : X.1 (176 + c) ≠ w) (hw : ∀ j, 0 ≤ j → j < X.1 2 → th j = true → X.1 (257 + 5 * j + 2) ≠ w) : ∀ n : Nat, (dysM fr th n X).1 (176 + c) ≠ w
  | 0 => h
  | n + 1 => by
    obtain ⟨h1, h2, h3⟩ := dysM_MI (fr := fr) (th := th) hI n
    have h4 := dysM_nl (fr := fr) (th := th) hc hI h hw n
    have hm := h1.many
    have e : (dysM fr th (n + 1) X).1 (176 + c) = (dayL fr th 9 0 (dysM fr th n X)).1 (176 + c) := by
      show upr _ 0 _ (176 + c) = _
      rw [upr_n _ _ (by omega)]
    rw [e]
    refine dayL_nl hc 9 0 _ h1 (by omega) h4 (fun j j0 j1 jt => ?_)
    have h2m := h3 2 (kept_lo (by omega))
    rw [h2m] at j1 hm
    rw [h3 _ (kept_s (by omega) (by omega))]
    exact hw j j0 j1 jt
def Sst (f : Int → Int) (p : Int → Bool) (j : Nat) (bst lst : Int) : Prop := (bestS f p j < 0 ∧ bst = -1000004 ∧ lst = 793) ∨ (0 ≤ bestS f p j ∧ bst = bestS f p j ∧ lst = f (bestS f p j))
theorem Sst.z {f : Int → Int} {p : Int → Bool} : Sst f p 0 (-1000004) 793 := Or.inl ⟨by show (-1 : Int) < 0; decide, rfl, rfl⟩
theorem Sst.yes {f : Int → Int} {p : Int → Bool} {j : Nat} {bst lst : Int} (h : Sst f p j bst lst) (hq : f j < lst) (hp : p j = true) : Sst f p (j + 1) j (f j) := by
  have e : bestS f p (j + 1) = j := by
    rw [bestS]
    exact if_pos ⟨by rcases h with h | h <;> omega, hp⟩
  refine Or.inr ?_
  rw [e]
  exact ⟨by omega, rfl, rfl⟩
theorem Sst.no {f : Int → Int} {p : Int → Bool} {j : Nat} {bst lst : Int} (h : Sst f p j bst lst) (hf : f j ≤ 792) (hq : ¬ (f j < lst ∧ p j = true)) : Sst f p (j + 1) bst lst := by
  have e : bestS f p (j + 1) = bestS f p j := by
    rw [bestS]
    refine if_neg (fun z => hq ⟨?_, z.2⟩)
    have := z.1
    rcases h with h | h <;> omega
  unfold Sst
  rw [e]
  exact h
set_option maxRecDepth 100000 in
set_option maxHeartbeats 4000000 in
theorem priceOf5_loop {l : Launch} {F : Nat × (Int → Int)} {iv : Mm} {D : Int} {s : Int → Int} (hR : RR iv 1 s) (hI : MI D s) {z : Int} (hz : 0 ≤ z ∧ z ≤ 255) : ∀ (n : Nat) (c : Nat), (s 2 - (c : Int) < n) → ((c : Int) ≤ s 2) → J l (yX1_priceOf).cls cX1_priceOf 4 (some FieldType.int) 0 0 0 false F (Ret (some (i_ (prcS s z))) S0 iv) 0 0 4 [some (r_ 1), some (i_ z), some (i_ (sumZ (fun k => if k < s 2 ∧ bitB z k = true then s (257 + 5 * k + 4) else 0) c)), some (i_ (c : Int))] [] S0 (iv) := by
  intro n
  induction n with
  | zero =>
    intro c hn hc
    omega
  | succ n ih =>
    intro c hn hc
    have hmm := hI.many
    refine J.iload_n (q := 5) dX1_priceOf_4 rfl ?_ rfl
    refine J.aload_n (q := 6) dX1_priceOf_5 rfl ?_ rfl
    refine J.getI (ci := 1) (k0 := 11) (kz := 11) (q := 9) dX1_priceOf_6 kF_X1_45 rfl (by decide) (by decide) rfl (.inl rfl) ?_ rfl
    rw [g1_many hR]
    refine J.icmp_ge (tgt := 36) (q := 12) (hv := by omega) dX1_priceOf_9 rfl rfl (fun c9 => ?_) (fun c9 => ?_)
    · have hcs : sumZ (fun k => if k < s 2 ∧ bitB z k = true then s (257 + 5 * k + 4) else 0) 8 = sumZ (fun k => if k < s 2 ∧ bitB z k = true then s (257 + 5 * k + 4) else 0) c := sumZ_stop 8 (by omega) (fun k h1 h2 => if_neg (fun q => by omega))
      have hgs : prcS s z = sumZ (fun k => if k < s 2 ∧ bitB z k = true then s (257 + 5 * k + 4) else 0) c := hcs
      rw [hgs]
      refine J.iload_n (q := 37) dX1_priceOf_36 rfl ?_ rfl
      refine J.ireturn dX1_priceOf_37 rfl ?_
      exact ⟨rfl, rfl, rfl⟩
    · refine J.iload_n (q := 13) dX1_priceOf_12 rfl ?_ rfl
      refine J.iload_n (q := 14) dX1_priceOf_13 rfl ?_ rfl
      refine J.ishr (q := 15) (z := z / 2 ^ (c : Int).toNat) dX1_priceOf_14 (I3_shr (by omega) (c : Int).toNat (by omega) (by omega) rfl) ?_ rfl
      refine J.iconst (q := 16) dX1_priceOf_15 ?_ rfl
      refine J.iand (q := 17) (z := z / 2 ^ (c : Int).toNat % 2) dX1_priceOf_16 (I3_and 1 (by decide) rfl rfl) ?_ rfl
      refine J.iconst (q := 18) dX1_priceOf_17 ?_ rfl
      refine J.icmp_ne (tgt := 30) (q := 21) (hv := by omega) dX1_priceOf_18 rfl rfl (fun c18 => ?_) (fun c18 => ?_)
      · have he : (fun k => if k < s 2 ∧ bitB z k = true then s (257 + 5 * k + 4) else 0) (c : Int) = 0 := if_neg (fun q => c18 (of_decide_eq_true q.2))
        refine J.iinc (q := 33) dX1_priceOf_30 rfl ?_ rfl
        refine J.goto (tgt := 4) dX1_priceOf_33 rfl ?_
        refine J.eql ?_ (ih (c + 1) (by omega) (by omega))
        rw [show sumZ (fun k => if k < s 2 ∧ bitB z k = true then s (257 + 5 * k + 4) else 0) (c + 1) = sumZ (fun k => if k < s 2 ∧ bitB z k = true then s (257 + 5 * k + 4) else 0) c + (fun k => if k < s 2 ∧ bitB z k = true then s (257 + 5 * k + 4) else 0) (c : Int) from rfl, he]
        first
        | rfl
        | (rw [Int.add_zero]; rfl)
      · have he : (fun k => if k < s 2 ∧ bitB z k = true then s (257 + 5 * k + 4) else 0) (c : Int) = s (257 + 5 * (c : Int) + 4) := if_pos ⟨by omega, decide_eq_true c18⟩
        refine J.iload_n (q := 22) dX1_priceOf_21 rfl ?_ rfl
        refine J.aload_n (q := 23) dX1_priceOf_22 rfl ?_ rfl
        refine J.getR (ci := 1) (k0 := 9) (c1 := 11) (q := 26) dX1_priceOf_23 kF_X1_39 rfl (by decide) (by decide) rfl (by decide) rfl ?_ rfl
        refine J.iload_n (q := 27) dX1_priceOf_26 rfl ?_ rfl
        refine J.iald (n := 8) (q := 28) dX1_priceOf_27 rfl (by omega) ?_ rfl
        rw [g1_pri hR (by omega) (by omega)]
        refine J.iadd (q := 29) dX1_priceOf_28 ?_ rfl
        refine J.istore_n (q := 30) dX1_priceOf_29 (Nat.le_of_ble_eq_true rfl) ?_ rfl
        refine J.iinc (q := 33) dX1_priceOf_30 rfl ?_ rfl
        refine J.goto (tgt := 4) dX1_priceOf_33 rfl ?_
        refine J.eql ?_ (ih (c + 1) (by omega) (by omega))
        rw [show sumZ (fun k => if k < s 2 ∧ bitB z k = true then s (257 + 5 * k + 4) else 0) (c + 1) = sumZ (fun k => if k < s 2 ∧ bitB z k = true then s (257 + 5 * k + 4) else 0) c + (fun k => if k < s 2 ∧ bitB z k = true then s (257 + 5 * k + 4) else 0) (c : Int) from rfl, he]
        first
        | rfl
        | (rw [Int.add_zero]; rfl)

set_option maxRecDepth 100000 in
set_option maxHeartbeats 4000000 in
theorem c_X1_priceOf {l : Launch} {F : Nat × (Int → Int)} {iv : Mm} {D : Int} {s : Int → Int} (hR : RR iv 1 s) (hI : MI D s) {z : Int} (hz : 0 ≤ z ∧ z ≤ 255) : Ctr l F 0 0 0 yX1_priceOf cX1_priceOf 4 (some FieldType.int) [r_ 1, i_ z] S0 (iv) (Ret (some (i_ (prcS s z))) S0 iv) := by
  refine Ctr.of false (fun h => by cases h) (by decide) rfl (Nat.le_of_ble_eq_true rfl) ?_
  refine J.iconst (q := 1) dX1_priceOf_0 ?_ rfl
  refine J.istore_n (q := 2) dX1_priceOf_1 (Nat.le_of_ble_eq_true rfl) ?_ rfl
  refine J.iconst (q := 3) dX1_priceOf_2 ?_ rfl
  refine J.istore_n (q := 4) dX1_priceOf_3 (Nat.le_of_ble_eq_true rfl) ?_ rfl
  have hmm := hI.many
  exact priceOf5_loop hR hI hz 9 0 (by omega) (by omega)

set_option maxRecDepth 100000 in
set_option maxHeartbeats 4000000 in
theorem bearsLaw_loop {l : Launch} {F : Nat × (Int → Int)} {iv : Mm} {D : Int} {s : Int → Int} (hR : RR iv 1 s) (hI : MI D s) {z w : Int} (hz : 0 ≤ z ∧ z ≤ 255) (hw : 0 ≤ w ∧ w ≤ 7) : ∀ (n : Nat) (c : Int), (8 - c < n) → (0 ≤ c ∧ c ≤ s 2) → (∀ k, 0 ≤ k → k < c → bitB z k = true → s (257 + 5 * k + 2) ≠ w) → J l (yX0_bearsLaw).cls cX0_bearsLaw 5 (some FieldType.boolean) 0 0 0 false F (fun v S iv2 => ∃ x : Int, v = some (i_ x) ∧ S = S0 ∧ iv2 = iv ∧ (x = 1 ∨ (x = 0 ∧ ∀ k, 0 ≤ k → k < s 2 → bitB z k = true → s (257 + 5 * k + 2) ≠ w))) 0 0 3 [some (r_ 25), some (r_ 1), some (i_ z), some (i_ w), some (i_ c)] [] S0 (iv) := by
  intro n
  induction n with
  | zero =>
    intro c hn hc hN
    have := hI.many
    omega
  | succ n ih =>
    intro c hn hc hN
    have hmm := hI.many
    refine J.iload (q := 5) dX0_bearsLaw_3 rfl ?_ rfl
    refine J.aload_n (q := 6) dX0_bearsLaw_5 rfl ?_ rfl
    refine J.getI (ci := 1) (k0 := 11) (kz := 11) (q := 9) dX0_bearsLaw_6 kF_X0_79 rfl (by decide) (by decide) rfl (.inl rfl) ?_ rfl
    rw [g1_many hR]
    refine J.icmp_ge (tgt := 41) (q := 12) dX0_bearsLaw_9 rfl rfl (fun c9 => ?_) (fun c9 => ?_)
    · refine J.iconst (q := 42) dX0_bearsLaw_41 ?_ rfl
      refine J.zreturn dX0_bearsLaw_42 rfl (by omega) ?_
      first
      | exact ⟨1, rfl, rfl, rfl, Or.inl rfl⟩
      | exact ⟨0, rfl, rfl, rfl, Or.inr ⟨rfl, fun k k0 k1 kt => hN k k0 (by omega) kt⟩⟩
    · refine J.iload_n (q := 13) dX0_bearsLaw_12 rfl ?_ rfl
      refine J.iload (q := 15) dX0_bearsLaw_13 rfl ?_ rfl
      refine J.ishr (q := 16) (z := z / 2 ^ c.toNat) dX0_bearsLaw_15 (I3_shr (by omega) c.toNat (by omega) (by omega) rfl) ?_ rfl
      refine J.iconst (q := 17) dX0_bearsLaw_16 ?_ rfl
      refine J.iand (q := 18) (z := z / 2 ^ c.toNat % 2) dX0_bearsLaw_17 (I3_and 1 (by decide) rfl rfl) ?_ rfl
      refine J.iconst (q := 19) dX0_bearsLaw_18 ?_ rfl
      refine J.icmp_ne (tgt := 35) (q := 22) (hv := by omega) dX0_bearsLaw_19 rfl rfl (fun c19 => ?_) (fun c19 => ?_)
      · have hcc : bitB z c = true → s (257 + 5 * c + 2) ≠ w := fun q => absurd (of_decide_eq_true q) c19
        refine J.iinc (q := 38) dX0_bearsLaw_35 rfl ?_ rfl
        refine J.goto (tgt := 3) dX0_bearsLaw_38 rfl ?_
        exact ih (c + 1) (by omega) (by omega) (fun k k0 k1 kt => by
          by_cases e : k = c
          · subst e; exact hcc kt
          · exact hN k k0 (by omega) kt)
      · refine J.aload_n (q := 23) dX0_bearsLaw_22 rfl ?_ rfl
        refine J.getR (ci := 1) (k0 := 7) (c1 := 9) (q := 26) dX0_bearsLaw_23 kF_X0_94 rfl (by decide) (by decide) rfl (by decide) rfl ?_ rfl
        refine J.iload (q := 28) dX0_bearsLaw_26 rfl ?_ rfl
        refine J.iald (n := 8) (q := 29) dX0_bearsLaw_28 rfl (by omega) ?_ rfl
        rw [g1_edi hR (by omega) (by omega)]
        have hsn := hI.sna c (by omega) (by omega)
        refine J.iload_n (q := 30) dX0_bearsLaw_29 rfl ?_ rfl
        refine J.icmp_ne (tgt := 35) (q := 33) dX0_bearsLaw_30 rfl rfl (fun c30 => ?_) (fun c30 => ?_)
        · have hcc : bitB z c = true → s (257 + 5 * c + 2) ≠ w := fun q => c30
          refine J.iinc (q := 38) dX0_bearsLaw_35 rfl ?_ rfl
          refine J.goto (tgt := 3) dX0_bearsLaw_38 rfl ?_
          exact ih (c + 1) (by omega) (by omega) (fun k k0 k1 kt => by
            by_cases e : k = c
            · subst e; exact hcc kt
            · exact hN k k0 (by omega) kt)
        · refine J.iconst (q := 34) dX0_bearsLaw_33 ?_ rfl
          refine J.zreturn dX0_bearsLaw_34 rfl (by omega) ?_
          first
          | exact ⟨1, rfl, rfl, rfl, Or.inl rfl⟩
          | exact ⟨0, rfl, rfl, rfl, Or.inr ⟨rfl, fun k k0 k1 kt => hN k k0 (by omega) kt⟩⟩

set_option maxRecDepth 100000 in
set_option maxHeartbeats 4000000 in
theorem c_X0_bearsLaw {l : Launch} {F : Nat × (Int → Int)} {iv : Mm} {D : Int} {s : Int → Int} (hR : RR iv 1 s) (hI : MI D s) {z w : Int} (hz : 0 ≤ z ∧ z ≤ 255) (hw : 0 ≤ w ∧ w ≤ 7) : Ctr l F 0 0 0 yX0_bearsLaw cX0_bearsLaw 5 (some FieldType.boolean) [r_ 25, r_ 1, i_ z, i_ w] S0 (iv) (fun v S iv2 => ∃ x : Int, v = some (i_ x) ∧ S = S0 ∧ iv2 = iv ∧ (x = 1 ∨ (x = 0 ∧ ∀ k, 0 ≤ k → k < s 2 → bitB z k = true → s (257 + 5 * k + 2) ≠ w))) := by
  refine Ctr.of false (fun h => by cases h) (by decide) rfl (Nat.le_of_ble_eq_true rfl) ?_
  refine J.iconst (q := 1) dX0_bearsLaw_0 ?_ rfl
  refine J.istore (q := 3) dX0_bearsLaw_1 (Nat.le_of_ble_eq_true rfl) ?_ rfl
  have hmm := hI.many
  exact bearsLaw_loop hR hI hz hw 9 0 (by omega) (by omega) (fun k k0 k1 kt => by omega)

set_option maxRecDepth 100000 in
set_option maxHeartbeats 4000000 in
theorem c_X0_bringsLaw {l : Launch} {F : Nat × (Int → Int)} {iv : Mm} {s : Int → Int} (hR : RR iv 1 s) (hI : MI 99999 s) (hS : Sv38 iv s) {z w c m : Int} (hz : 0 ≤ z ∧ z ≤ 255) (hw : 0 ≤ w ∧ w ≤ 7) (hc : 0 ≤ c ∧ c ≤ 80) (hm : 0 ≤ m ∧ m ≤ 40) : Ctr l F 4 0 0 yX0_bringsLaw cX0_bringsLaw 6 (some FieldType.boolean) [r_ 25, r_ 1, i_ z, i_ w, i_ c, i_ m] S0 (iv) (fun v S iv2 => v = some (i_ (b2 ((dysM (fdst s) (bitB z) m.toNat (P0 s)).1 (176 + c) = w))) ∧ S = S0 ∧ FT iv iv2 ∧ Sv38 iv2 s) := by
  refine Ctr.of false (fun h => by cases h) (by decide) rfl (Nat.le_of_ble_eq_true rfl) ?_
  have hcl := (hI.cel c (by omega) (by omega)).2.2
  refine J.aload_n (q := 1) dX0_bringsLaw_0 rfl ?_ rfl
  refine J.getR (ci := 1) (k0 := 2) (c1 := 4) (q := 4) dX0_bringsLaw_1 kF_X0_41 rfl (by decide) (by decide) rfl (by decide) rfl ?_ rfl
  refine J.iload (q := 6) dX0_bringsLaw_4 rfl ?_ rfl
  refine J.iald (n := 81) (q := 7) dX0_bringsLaw_6 rfl (by omega) ?_ rfl
  rw [g1_law hR (by omega) (by omega)]
  refine J.iload_n (q := 8) dX0_bringsLaw_7 rfl ?_ rfl
  refine J.icmp_eq (tgt := 23) (q := 11) dX0_bringsLaw_8 rfl rfl (fun c8 => ?_) (fun c8 => ?_)
  · refine J.aload_n (q := 24) dX0_bringsLaw_23 rfl ?_ rfl
    refine J.getR (ci := 0) (k0 := 0) (c1 := 26) (q := 27) dX0_bringsLaw_24 kF_X0_12 rfl (by decide) (by decide) rfl (by decide) rfl ?_ rfl
    refine J.aload_n (q := 28) dX0_bringsLaw_27 rfl ?_ rfl
    refine J.callV1 (ci := 1) (q := 31) dX0_bringsLaw_28 mv_X1_become kL_X0_25 rfl (by decide) rfl ⟨by decide, by decide⟩ (Nat.le_of_ble_eq_true rfl) ⟨by decide, by decide⟩ rfl (c_become26_1 hR) (fun v9 S9 iv9 hp => ?_)
    obtain ⟨rfl, rfl, b1, hR9⟩ := hp
    have hF9 : FT iv iv9 := fun q hq => b1 q (by omega)
    have hm9 : iv9 30 = iv 30 := b1 30 (by omega)
    refine J.aload_n (q := 32) dX0_bringsLaw_31 rfl ?_ rfl
    refine J.getR (ci := 0) (k0 := 0) (c1 := 26) (q := 35) dX0_bringsLaw_32 kF_X0_12 rfl (by decide) (by decide) rfl (by decide) rfl ?_ rfl
    refine J.aload_n (q := 36) dX0_bringsLaw_35 rfl ?_ rfl
    refine J.getR (ci := 0) (k0 := 1) (c1 := 38) (q := 39) dX0_bringsLaw_36 kF_X0_21 rfl (by decide) (by decide) rfl (by decide) rfl ?_ rfl
    refine J.iload_n (q := 40) dX0_bringsLaw_39 rfl ?_ rfl
    refine J.iload (q := 42) dX0_bringsLaw_40 rfl ?_ rfl
    refine J.callV3 (ci := 1) (q := 45) dX0_bringsLaw_42 mv_X1_passDays kL_X0_33 rfl (by decide) rfl ⟨by decide, by decide⟩ (Nat.le_of_ble_eq_true rfl) ⟨by decide, by decide⟩ rfl (c_passDays26 (D := 200000) (th := bitB z) (X0 := (s, iv 30)) (Int.le_refl _) (fun a e a0 a1 e0 e1 => by rw [b1 42 (by omega), b1 43 (by omega)]; exact hS a e a0 a1 e0 e1) hz (fun k k0 k1 => ⟨fun q => decide_eq_true q, fun q => of_decide_eq_true q⟩) (by omega) (D0 := 99999) (by omega) hI rfl (fun _ _ _ => rfl) ⟨hR9, fun e e0 e1 => by rw [hm9]⟩) (fun v8 S8 iv8 hp => ?_)
    obtain ⟨rfl, rfl, d1, hR8, -⟩ := hp
    have hF8 : FT iv iv8 := fun q hq => (d1 q (by omega)).trans (hF9 q hq)
    have hS8 : Sv38 iv8 s := fun a e a0 a1 e0 e1 => by rw [d1 42 (by omega), d1 43 (by omega), b1 42 (by omega), b1 43 (by omega)]; exact hS a e a0 a1 e0 e1
    rw [dysM_fst (fdst s) (bitB z) (s, iv 30) (P0 s) rfl m.toNat] at hR8
    obtain ⟨h8I, -, -⟩ := dysM_MI (fr := fdst s) (th := bitB z) (X := P0 s) hI m.toNat
    have hcl8 := (h8I.cel c (by omega) (by omega)).2.2
    refine J.aload_n (q := 46) dX0_bringsLaw_45 rfl ?_ rfl
    refine J.getR (ci := 0) (k0 := 0) (c1 := 26) (q := 49) dX0_bringsLaw_46 kF_X0_12 rfl (by decide) (by decide) rfl (by decide) rfl ?_ rfl
    refine J.getR (ci := 1) (k0 := 2) (c1 := 29) (q := 52) dX0_bringsLaw_49 kF_X0_41 rfl (by decide) (by decide) rfl (by decide) rfl ?_ rfl
    refine J.iload (q := 54) dX0_bringsLaw_52 rfl ?_ rfl
    refine J.iald (n := 81) (q := 55) dX0_bringsLaw_54 rfl (by omega) ?_ rfl
    rw [g26_law hR8 (by omega) (by omega)]
    refine J.iload_n (q := 56) dX0_bringsLaw_55 rfl ?_ rfl
    refine J.icmp_ne (tgt := 63) (q := 59) (hv := by omega) dX0_bringsLaw_56 rfl rfl (fun c56 => ?_) (fun c56 => ?_)
    · refine J.iconst (q := 64) dX0_bringsLaw_63 ?_ rfl
      refine J.zreturn dX0_bringsLaw_64 rfl (by omega) ?_
      first
      | exact ⟨rfl, rfl, FT.rf, hS⟩
      | (rw [b2_t (by omega)]; exact ⟨rfl, rfl, hF8, hS8⟩)
      | (rw [b2_f (by omega)]; exact ⟨rfl, rfl, hF8, hS8⟩)
    · refine J.iconst (q := 60) dX0_bringsLaw_59 ?_ rfl
      refine J.goto (tgt := 64) dX0_bringsLaw_60 rfl ?_
      refine J.zreturn dX0_bringsLaw_64 rfl (by omega) ?_
      first
      | exact ⟨rfl, rfl, FT.rf, hS⟩
      | (rw [b2_t (by omega)]; exact ⟨rfl, rfl, hF8, hS8⟩)
      | (rw [b2_f (by omega)]; exact ⟨rfl, rfl, hF8, hS8⟩)
  · refine J.aload_n (q := 12) dX0_bringsLaw_11 rfl ?_ rfl
    refine J.aload_n (q := 13) dX0_bringsLaw_12 rfl ?_ rfl
    refine J.iload_n (q := 14) dX0_bringsLaw_13 rfl ?_ rfl
    refine J.iload_n (q := 15) dX0_bringsLaw_14 rfl ?_ rfl
    refine J.callV3 (ci := 0) (q := 18) dX0_bringsLaw_15 mv_X0_bearsLaw kL_X0_90 rfl (by decide) rfl ⟨by decide, by decide⟩ (Nat.le_of_ble_eq_true rfl) ⟨by decide, by decide⟩ rfl (c_X0_bearsLaw hR hI hz hw) (fun v7 S7 iv7 hp => ?_)
    obtain ⟨xb, rfl, rfl, e7, hxb⟩ := hp
    subst iv7
    refine J.if_ne (tgt := 23) (q := 21) (hv := by omega) dX0_bringsLaw_18 rfl rfl (fun c18 => ?_) (fun c18 => ?_)
    · refine J.aload_n (q := 24) dX0_bringsLaw_23 rfl ?_ rfl
      refine J.getR (ci := 0) (k0 := 0) (c1 := 26) (q := 27) dX0_bringsLaw_24 kF_X0_12 rfl (by decide) (by decide) rfl (by decide) rfl ?_ rfl
      refine J.aload_n (q := 28) dX0_bringsLaw_27 rfl ?_ rfl
      refine J.callV1 (ci := 1) (q := 31) dX0_bringsLaw_28 mv_X1_become kL_X0_25 rfl (by decide) rfl ⟨by decide, by decide⟩ (Nat.le_of_ble_eq_true rfl) ⟨by decide, by decide⟩ rfl (c_become26_1 hR) (fun v9 S9 iv9 hp => ?_)
      obtain ⟨rfl, rfl, b1, hR9⟩ := hp
      have hF9 : FT iv iv9 := fun q hq => b1 q (by omega)
      have hm9 : iv9 30 = iv 30 := b1 30 (by omega)
      refine J.aload_n (q := 32) dX0_bringsLaw_31 rfl ?_ rfl
      refine J.getR (ci := 0) (k0 := 0) (c1 := 26) (q := 35) dX0_bringsLaw_32 kF_X0_12 rfl (by decide) (by decide) rfl (by decide) rfl ?_ rfl
      refine J.aload_n (q := 36) dX0_bringsLaw_35 rfl ?_ rfl
      refine J.getR (ci := 0) (k0 := 1) (c1 := 38) (q := 39) dX0_bringsLaw_36 kF_X0_21 rfl (by decide) (by decide) rfl (by decide) rfl ?_ rfl
      refine J.iload_n (q := 40) dX0_bringsLaw_39 rfl ?_ rfl
      refine J.iload (q := 42) dX0_bringsLaw_40 rfl ?_ rfl
      refine J.callV3 (ci := 1) (q := 45) dX0_bringsLaw_42 mv_X1_passDays kL_X0_33 rfl (by decide) rfl ⟨by decide, by decide⟩ (Nat.le_of_ble_eq_true rfl) ⟨by decide, by decide⟩ rfl (c_passDays26 (D := 200000) (th := bitB z) (X0 := (s, iv 30)) (Int.le_refl _) (fun a e a0 a1 e0 e1 => by rw [b1 42 (by omega), b1 43 (by omega)]; exact hS a e a0 a1 e0 e1) hz (fun k k0 k1 => ⟨fun q => decide_eq_true q, fun q => of_decide_eq_true q⟩) (by omega) (D0 := 99999) (by omega) hI rfl (fun _ _ _ => rfl) ⟨hR9, fun e e0 e1 => by rw [hm9]⟩) (fun v8 S8 iv8 hp => ?_)
      obtain ⟨rfl, rfl, d1, hR8, -⟩ := hp
      have hF8 : FT iv iv8 := fun q hq => (d1 q (by omega)).trans (hF9 q hq)
      have hS8 : Sv38 iv8 s := fun a e a0 a1 e0 e1 => by rw [d1 42 (by omega), d1 43 (by omega), b1 42 (by omega), b1 43 (by omega)]; exact hS a e a0 a1 e0 e1
      rw [dysM_fst (fdst s) (bitB z) (s, iv 30) (P0 s) rfl m.toNat] at hR8
      obtain ⟨h8I, -, -⟩ := dysM_MI (fr := fdst s) (th := bitB z) (X := P0 s) hI m.toNat
      have hcl8 := (h8I.cel c (by omega) (by omega)).2.2
      refine J.aload_n (q := 46) dX0_bringsLaw_45 rfl ?_ rfl
      refine J.getR (ci := 0) (k0 := 0) (c1 := 26) (q := 49) dX0_bringsLaw_46 kF_X0_12 rfl (by decide) (by decide) rfl (by decide) rfl ?_ rfl
      refine J.getR (ci := 1) (k0 := 2) (c1 := 29) (q := 52) dX0_bringsLaw_49 kF_X0_41 rfl (by decide) (by decide) rfl (by decide) rfl ?_ rfl
      refine J.iload (q := 54) dX0_bringsLaw_52 rfl ?_ rfl
      refine J.iald (n := 81) (q := 55) dX0_bringsLaw_54 rfl (by omega) ?_ rfl
      rw [g26_law hR8 (by omega) (by omega)]
      refine J.iload_n (q := 56) dX0_bringsLaw_55 rfl ?_ rfl
      refine J.icmp_ne (tgt := 63) (q := 59) (hv := by omega) dX0_bringsLaw_56 rfl rfl (fun c56 => ?_) (fun c56 => ?_)
      · refine J.iconst (q := 64) dX0_bringsLaw_63 ?_ rfl
        refine J.zreturn dX0_bringsLaw_64 rfl (by omega) ?_
        first
        | exact ⟨rfl, rfl, FT.rf, hS⟩
        | (rw [b2_t (by omega)]; exact ⟨rfl, rfl, hF8, hS8⟩)
        | (rw [b2_f (by omega)]; exact ⟨rfl, rfl, hF8, hS8⟩)
      · refine J.iconst (q := 60) dX0_bringsLaw_59 ?_ rfl
        refine J.goto (tgt := 64) dX0_bringsLaw_60 rfl ?_
        refine J.zreturn dX0_bringsLaw_64 rfl (by omega) ?_
        first
        | exact ⟨rfl, rfl, FT.rf, hS⟩
        | (rw [b2_t (by omega)]; exact ⟨rfl, rfl, hF8, hS8⟩)
        | (rw [b2_f (by omega)]; exact ⟨rfl, rfl, hF8, hS8⟩)
    · have hno : ¬ ((dysM (fdst s) (bitB z) m.toNat (P0 s)).1 (176 + c) = w) := dysM_nl (X := P0 s) hc hI c8 (hxb.elim (fun h => by omega) (fun h => h.2)) m.toNat
      rw [b2_f hno]
      refine J.iconst (q := 22) dX0_bringsLaw_21 ?_ rfl
      refine J.zreturn dX0_bringsLaw_22 rfl (by omega) ?_
      first
      | exact ⟨rfl, rfl, FT.rf, hS⟩
      | (rw [b2_t (by omega)]; exact ⟨rfl, rfl, hF8, hS8⟩)
      | (rw [b2_f (by omega)]; exact ⟨rfl, rfl, hF8, hS8⟩)

set_option maxRecDepth 100000 in
set_option maxHeartbeats 4000000 in
theorem cheapestSet_loop {l : Launch} {F : Nat × (Int → Int)} {iv : Mm} {s : Int → Int} (hR : RR iv 1 s) (hI : MI 99999 s) {w c m : Int} (hw : 0 ≤ w ∧ w ≤ 7) (hc : 0 ≤ c ∧ c ≤ 80) (hm : 0 ≤ m ∧ m ≤ 40) (hz8 : (2 ^ (s 2).toNat : Nat) ≤ 256) : ∀ (n : Nat) (j : Nat) (bst : Int) (lst : Int) (iv1 : Mm) (y9 : Option VT), ((2 ^ (s 2).toNat : Nat) - (j : Int) < n) → (j ≤ 2 ^ (s 2).toNat) → (FT iv iv1) → (Sv38 iv1 s) → (Sst (prcS s) (fun z => decide ((dysM (fdst s) (bitB z) m.toNat (P0 s)).1 (176 + c) = w)) j bst lst) → J l (yX0_cheapestSet).cls cX0_cheapestSet 10 (some FieldType.int) 5 0 0 false F (fun v S iv2 => v = some (i_ (if relS s w c m.toNat < 0 then -1000004 else relS s w c m.toNat)) ∧ S = S0 ∧ FT iv iv2) 0 0 25 [some (r_ 25), some (r_ 1), some (i_ w), some (i_ c), some (i_ m), some (i_ bst), some (i_ lst), some (i_ ((2 ^ (s 2).toNat : Nat) : Int)), some (i_ (j : Int)), y9] [] S0 (iv1) := by
  intro n
  induction n with
  | zero =>
    intro j bst lst iv1 y9 hn hj hF hS hB
    omega
  | succ n ih =>
    intro j bst lst iv1 y9 hn hj hF hS hB
    obtain ⟨N, hN⟩ : ∃ N : Nat, N = 2 ^ (s 2).toNat := ⟨_, rfl⟩
    rw [← hN] at hn hj hz8 ⊢
    have hR1 := hF.rr hR
    have hpr := prcS_rng (s := s) (z := (j : Int)) hI
    have hlr : 0 ≤ lst ∧ lst ≤ 793 := by
      rcases hB with h | h
      · omega
      · have := prcS_rng (s := s) (z := bestS (prcS s) (fun z => decide ((dysM (fdst s) (bitB z) m.toNat (P0 s)).1 (176 + c) = w)) j) hI
        omega
    refine J.iload (q := 27) dX0_cheapestSet_25 rfl ?_ rfl
    refine J.iload (q := 29) dX0_cheapestSet_27 rfl ?_ rfl
    refine J.icmp_ge (tgt := 75) (q := 32) (hv := by omega) dX0_cheapestSet_29 rfl rfl (fun c29 => ?_) (fun c29 => ?_)
    · refine J.iload (q := 77) dX0_cheapestSet_75 rfl ?_ rfl
      refine J.ireturn dX0_cheapestSet_77 rfl ?_
      have hjN : j = N := by omega
      subst hjN
      have hrl : relS s w c m.toNat = bestS (prcS s) (fun z => decide ((dysM (fdst s) (bitB z) m.toNat (P0 s)).1 (176 + c) = w)) j := by unfold relS; rw [hN]
      refine ⟨congrArg (fun q => some (i_ q)) ?_, rfl, hF⟩
      rw [hrl]
      rcases hB with h | h
      · rw [if_pos h.1]; exact h.2.1
      · rw [if_neg (by omega)]; exact h.2.1
    · refine J.aload_n (q := 33) dX0_cheapestSet_32 rfl ?_ rfl
      refine J.iload (q := 35) dX0_cheapestSet_33 rfl ?_ rfl
      refine J.callV1i (ci := 1) (q := 38) dX0_cheapestSet_35 mv_X1_priceOf kL_X0_82 rfl (by decide) rfl ⟨by decide, by decide⟩ (Nat.le_of_ble_eq_true rfl) ⟨by decide, by decide⟩ rfl (c_X1_priceOf hR1 hI (by omega)) ?_
      refine J.istore (q := 40) dX0_cheapestSet_38 (Nat.le_of_ble_eq_true rfl) ?_ rfl
      refine J.iload (q := 42) dX0_cheapestSet_40 rfl ?_ rfl
      refine J.iload (q := 44) dX0_cheapestSet_42 rfl ?_ rfl
      refine J.icmp_ge (tgt := 69) (q := 47) (hv := by omega) dX0_cheapestSet_44 rfl rfl (fun c44 => ?_) (fun c44 => ?_)
      · have hB3 : Sst (prcS s) (fun z => decide ((dysM (fdst s) (bitB z) m.toNat (P0 s)).1 (176 + c) = w)) (j + 1) bst lst := hB.no (by omega) (fun q => by omega)
        refine J.iinc (q := 72) dX0_cheapestSet_69 rfl ?_ rfl
        refine J.goto (tgt := 25) dX0_cheapestSet_72 rfl ?_
        first
        | exact ih (j + 1) _ _ iv9 _ (by omega) (by omega) (hF.tr hF9) hS9 hB3 |> fun z => by rw [← hN] at z; exact z
        | exact ih (j + 1) _ _ iv1 _ (by omega) (by omega) hF hS hB3 |> fun z => by rw [← hN] at z; exact z
      · refine J.aload_n (q := 48) dX0_cheapestSet_47 rfl ?_ rfl
        refine J.aload_n (q := 49) dX0_cheapestSet_48 rfl ?_ rfl
        refine J.iload (q := 51) dX0_cheapestSet_49 rfl ?_ rfl
        refine J.iload_n (q := 52) dX0_cheapestSet_51 rfl ?_ rfl
        refine J.iload_n (q := 53) dX0_cheapestSet_52 rfl ?_ rfl
        refine J.iload (q := 55) dX0_cheapestSet_53 rfl ?_ rfl
        refine J.callV5 (ci := 0) (q := 58) dX0_cheapestSet_55 mv_X0_bringsLaw kL_X0_86 rfl (by decide) rfl ⟨by decide, by decide⟩ (Nat.le_of_ble_eq_true rfl) ⟨by decide, by decide⟩ rfl (c_X0_bringsLaw hR1 hI hS (by omega) hw hc hm) (fun v9 S9 iv9 hp => ?_)
        obtain ⟨rfl, rfl, hF9, hS9⟩ := hp
        refine J.ifb_eq (tgt := 69) (q := 61) dX0_cheapestSet_58 rfl rfl (fun c58 => ?_) (fun c58 => ?_)
        · have hB3 : Sst (prcS s) (fun z => decide ((dysM (fdst s) (bitB z) m.toNat (P0 s)).1 (176 + c) = w)) (j + 1) bst lst := hB.no (by omega) (fun q => c58 (of_decide_eq_true q.2))
          refine J.iinc (q := 72) dX0_cheapestSet_69 rfl ?_ rfl
          refine J.goto (tgt := 25) dX0_cheapestSet_72 rfl ?_
          first
          | exact ih (j + 1) _ _ iv9 _ (by omega) (by omega) (hF.tr hF9) hS9 hB3 |> fun z => by rw [← hN] at z; exact z
          | exact ih (j + 1) _ _ iv1 _ (by omega) (by omega) hF hS hB3 |> fun z => by rw [← hN] at z; exact z
        · have hB3 := hB.yes c44 (decide_eq_true c58)
          refine J.iload (q := 63) dX0_cheapestSet_61 rfl ?_ rfl
          refine J.istore (q := 65) dX0_cheapestSet_63 (Nat.le_of_ble_eq_true rfl) ?_ rfl
          refine J.iload (q := 67) dX0_cheapestSet_65 rfl ?_ rfl
          refine J.istore (q := 69) dX0_cheapestSet_67 (Nat.le_of_ble_eq_true rfl) ?_ rfl
          refine J.iinc (q := 72) dX0_cheapestSet_69 rfl ?_ rfl
          refine J.goto (tgt := 25) dX0_cheapestSet_72 rfl ?_
          first
          | exact ih (j + 1) _ _ iv9 _ (by omega) (by omega) (hF.tr hF9) hS9 hB3 |> fun z => by rw [← hN] at z; exact z
          | exact ih (j + 1) _ _ iv1 _ (by omega) (by omega) hF hS hB3 |> fun z => by rw [← hN] at z; exact z

set_option maxRecDepth 100000 in
set_option maxHeartbeats 4000000 in
theorem c_X0_cheapestSet {l : Launch} {F : Nat × (Int → Int)} {iv : Mm} {s : Int → Int} (hR : RR iv 1 s) (hI : MI 99999 s) {w c m : Int} (hw : 0 ≤ w ∧ w ≤ 7) (hc : 0 ≤ c ∧ c ≤ 80) (hm : 0 ≤ m ∧ m ≤ 40) : Ctr l F 5 0 0 yX0_cheapestSet cX0_cheapestSet 10 (some FieldType.int) [r_ 25, r_ 1, i_ w, i_ c, i_ m] S0 (iv) (fun v S iv2 => v = some (i_ (if relS s w c m.toNat < 0 then -1000004 else relS s w c m.toNat)) ∧ S = S0 ∧ FT iv iv2) := by
  refine Ctr.of false (fun h => by cases h) (by decide) rfl (Nat.le_of_ble_eq_true rfl) ?_
  have hmm := hI.many
  refine J.aload_n (q := 1) dX0_cheapestSet_0 rfl ?_ rfl
  refine J.aload_n (q := 2) dX0_cheapestSet_1 rfl ?_ rfl
  refine J.callV1 (ci := 0) (q := 5) dX0_cheapestSet_2 mv_X0_survey kL_X0_32 rfl (by decide) rfl ⟨by decide, by decide⟩ (Nat.le_of_ble_eq_true rfl) ⟨by decide, by decide⟩ rfl (c_X0_survey hR hI) (fun v8 S8 iv8 hp => ?_)
  obtain ⟨rfl, rfl, y1, y2⟩ := hp
  have hF8 : FT iv iv8 := fun q hq => y1 q (by omega)
  refine J.ldc (q := 7) (z := -1000004) dX0_cheapestSet_5 kK_X0_78 ?_ rfl
  refine J.istore (q := 9) dX0_cheapestSet_7 (Nat.le_of_ble_eq_true rfl) ?_ rfl
  refine J.sipush (q := 12) dX0_cheapestSet_9 (by decide) ?_ rfl
  refine J.istore (q := 14) dX0_cheapestSet_12 (Nat.le_of_ble_eq_true rfl) ?_ rfl
  refine J.iconst (q := 15) dX0_cheapestSet_14 ?_ rfl
  refine J.aload_n (q := 16) dX0_cheapestSet_15 rfl ?_ rfl
  refine J.getI (ci := 1) (k0 := 11) (kz := 11) (q := 19) dX0_cheapestSet_16 kF_X0_79 rfl (by decide) (by decide) rfl (.inl rfl) ?_ rfl
  rw [g1_many (hF8.rr hR)]
  refine J.ishl (q := 20) dX0_cheapestSet_19 (I3_shl (s 2).toNat (by omega) (by omega) rfl) ?_ rfl
  refine J.istore (q := 22) dX0_cheapestSet_20 (Nat.le_of_ble_eq_true rfl) ?_ rfl
  refine J.iconst (q := 23) dX0_cheapestSet_22 ?_ rfl
  refine J.istore (q := 25) dX0_cheapestSet_23 (Nat.le_of_ble_eq_true rfl) ?_ rfl
  have hz8 : (2 ^ (s 2).toNat : Nat) ≤ 256 := by
    have h : ∀ k : Nat, k < 9 → 2 ^ k ≤ 256 := by decide
    exact h _ (by omega)
  refine J.eql ?_ (cheapestSet_loop hR hI hw hc hm hz8 257 0 _ _ iv8 none (by omega) (Nat.zero_le _) hF8 y2 Sst.z)
  rw [pow_cast _ hmm]
  rfl

set_option maxRecDepth 100000 in
set_option maxHeartbeats 4000000 in
theorem c_X5_release {l : Launch} {F : Nat × (Int → Int)} {iv A : Mm} (hC : CR iv A) (hA : AI A) {w c m : Int} (hw : -2147483648 ≤ w ∧ w < 2147483648) (hc : -2147483648 ≤ c ∧ c < 2147483648) (hm : -2147483648 ≤ m ∧ m < 2147483648) : Ctr l F 7 0 0 yX5_release cX5_release 5 (some FieldType.int) [r_ 0, i_ w, i_ c, i_ m] S0 (iv) (CP iv (an_release A w c m)) := by
  refine Ctr.of false (fun h => by cases h) (by decide) rfl (Nat.le_of_ble_eq_true rfl) ?_
  have hI := hA.mi
  have hmm := hI.many
  have hkp := hA.kp
  have htp := hA.tp
  refine J.iload_n (q := 1) dX5_release_0 rfl ?_ rfl
  refine J.callS1i (q := 4) dX5_release_1 mv_X5_isLaw kS_X5_isLaw kL_X5_112 ⟨by decide, by decide⟩ (Nat.le_of_ble_eq_true rfl) ⟨by decide, by decide⟩ rfl (c_X5_isLaw (by omega)) ?_
  refine J.ifb_eq (tgt := 23) (q := 7) dX5_release_4 rfl rfl (fun c4 => ?_) (fun c4 => ?_)
  · refine J.aload_n (q := 24) dX5_release_23 rfl ?_ rfl
    refine J.ldc (q := 26) (z := -1000001) dX5_release_24 kK_X5_63 ?_ rfl
    refine J.callV1 (ci := 5) (q := 29) dX5_release_26 mv_X5_tell kL_X5_64 rfl (by decide) rfl ⟨by decide, by decide⟩ (Nat.le_of_ble_eq_true rfl) ⟨by decide, by decide⟩ rfl (c_X5_tell (w := 0) (by decide) hC (by decide)) (fun v9 S9 iv9 hp => ?_)
    obtain ⟨rfl, rfl, hf8, hC8⟩ := hp
    refine J.ireturn dX5_release_29 rfl ?_
    unfold CP an_release
    first
    | (rw [if_neg (by omega)]; exact ⟨rfl, rfl, hf8, hC8⟩)
    | (rw [if_pos (by omega), if_pos (by omega)]; exact ⟨rfl, rfl, fun q hq => (hf8 q hq).trans (hF9 q (by omega)), hC8⟩)
    | (rw [if_pos (by omega), if_neg (by omega)]; exact ⟨congrArg (fun q => some (i_ q)) (by omega), rfl, fun q hq => hF9 q (by omega), hC9⟩)
    | (exfalso; omega)
  · refine J.iload_n (q := 8) dX5_release_7 rfl ?_ rfl
    refine J.callS1i (q := 11) dX5_release_8 mv_X5_isCell kS_X5_isCell kL_X5_55 ⟨by decide, by decide⟩ (Nat.le_of_ble_eq_true rfl) ⟨by decide, by decide⟩ rfl (c_X5_isCell (by omega)) ?_
    refine J.ifb_eq (tgt := 23) (q := 14) dX5_release_11 rfl rfl (fun c11 => ?_) (fun c11 => ?_)
    · refine J.aload_n (q := 24) dX5_release_23 rfl ?_ rfl
      refine J.ldc (q := 26) (z := -1000001) dX5_release_24 kK_X5_63 ?_ rfl
      refine J.callV1 (ci := 5) (q := 29) dX5_release_26 mv_X5_tell kL_X5_64 rfl (by decide) rfl ⟨by decide, by decide⟩ (Nat.le_of_ble_eq_true rfl) ⟨by decide, by decide⟩ rfl (c_X5_tell (w := 0) (by decide) hC (by decide)) (fun v9 S9 iv9 hp => ?_)
      obtain ⟨rfl, rfl, hf8, hC8⟩ := hp
      refine J.ireturn dX5_release_29 rfl ?_
      unfold CP an_release
      first
      | (rw [if_neg (by omega)]; exact ⟨rfl, rfl, hf8, hC8⟩)
      | (rw [if_pos (by omega), if_pos (by omega)]; exact ⟨rfl, rfl, fun q hq => (hf8 q hq).trans (hF9 q (by omega)), hC8⟩)
      | (rw [if_pos (by omega), if_neg (by omega)]; exact ⟨congrArg (fun q => some (i_ q)) (by omega), rfl, fun q hq => hF9 q (by omega), hC9⟩)
      | (exfalso; omega)
    · refine J.iload_n (q := 15) dX5_release_14 rfl ?_ rfl
      refine J.bipush (q := 17) dX5_release_15 (by decide) ?_ rfl
      refine J.callS2i (q := 20) dX5_release_17 mv_X5_isWithin kS_X5_isWithin kL_X5_59 ⟨by decide, by decide⟩ (Nat.le_of_ble_eq_true rfl) ⟨by decide, by decide⟩ rfl (c_X5_isWithin (by omega) (by omega)) ?_
      refine J.ifb_ne (tgt := 30) (q := 23) dX5_release_20 rfl rfl (fun c20 => ?_) (fun c20 => ?_)
      · refine J.aload_n (q := 31) dX5_release_30 rfl ?_ rfl
        refine J.getR (ci := 5) (k0 := 2) (c1 := 25) (q := 34) dX5_release_31 kF_X5_22 rfl (by decide) (by decide) rfl (by decide) rfl ?_ rfl
        refine J.aload_n (q := 35) dX5_release_34 rfl ?_ rfl
        refine J.getR (ci := 5) (k0 := 0) (c1 := 1) (q := 38) dX5_release_35 kF_X5_12 rfl (by decide) (by decide) rfl (by decide) rfl ?_ rfl
        refine J.iload_n (q := 39) dX5_release_38 rfl ?_ rfl
        refine J.iload_n (q := 40) dX5_release_39 rfl ?_ rfl
        refine J.iload_n (q := 41) dX5_release_40 rfl ?_ rfl
        refine J.callV4 (ci := 0) (q := 44) dX5_release_41 mv_X0_cheapestSet kL_X5_198 rfl (by decide) rfl ⟨by decide, by decide⟩ (Nat.le_of_ble_eq_true rfl) ⟨by decide, by decide⟩ rfl (c_X0_cheapestSet hC.r hI (by omega) (by omega) (by omega)) (fun v9 S9 iv9 hp => ?_)
        obtain ⟨rfl, rfl, hF9⟩ := hp
        have hC9 := hC.ft hF9
        have hbl := bestS_lt (prcS (A 62)) (fun z => decide ((dysM (fdst (A 62)) (bitB z) m.toNat (P0 (A 62))).1 (176 + c) = w)) (2 ^ (A 62 2).toNat)
        have hz8 : (2 ^ (A 62 2).toNat : Nat) ≤ 256 := by
          have h : ∀ k : Nat, k < 9 → 2 ^ k ≤ 256 := by decide
          exact h _ (by omega)
        change -1 ≤ relS (A 62) w c m.toNat ∧ relS (A 62) w c m.toNat < _ at hbl
        obtain ⟨N, hN⟩ : ∃ N : Nat, N = 2 ^ (A 62 2).toNat := ⟨_, rfl⟩
        rw [← hN] at hbl hz8
        obtain ⟨x, hx⟩ : ∃ x : Int, x = (if relS (A 62) w c m.toNat < 0 then -1000004 else relS (A 62) w c m.toNat) := ⟨_, rfl⟩
        rw [← hx]
        have hx1 : (relS (A 62) w c m.toNat < 0 ∧ x = -1000004) ∨ (¬ relS (A 62) w c m.toNat < 0 ∧ x = relS (A 62) w c m.toNat) := by
          by_cases h : relS (A 62) w c m.toNat < 0
          · exact Or.inl ⟨h, by rw [hx, if_pos h]⟩
          · exact Or.inr ⟨h, by rw [hx, if_neg h]⟩
        clear hx
        refine J.istore (q := 46) dX5_release_44 (Nat.le_of_ble_eq_true rfl) ?_ rfl
        refine J.iload (q := 48) dX5_release_46 rfl ?_ rfl
        refine J.ldc (q := 50) (z := -1000004) dX5_release_48 kK_X5_172 ?_ rfl
        refine J.icmp_ne (tgt := 62) (q := 53) (hv := by omega) dX5_release_50 rfl rfl (fun c50 => ?_) (fun c50 => ?_)
        · refine J.iload (q := 64) dX5_release_62 rfl ?_ rfl
          refine J.ireturn dX5_release_64 rfl ?_
          unfold CP an_release
          first
          | (rw [if_neg (by omega)]; exact ⟨rfl, rfl, hf8, hC8⟩)
          | (rw [if_pos (by omega), if_pos (by omega)]; exact ⟨rfl, rfl, fun q hq => (hf8 q hq).trans (hF9 q (by omega)), hC8⟩)
          | (rw [if_pos (by omega), if_neg (by omega)]; exact ⟨congrArg (fun q => some (i_ q)) (by omega), rfl, fun q hq => hF9 q (by omega), hC9⟩)
          | (exfalso; omega)
        · refine J.aload_n (q := 54) dX5_release_53 rfl ?_ rfl
          refine J.ldc (q := 56) (z := -1000004) dX5_release_54 kK_X5_172 ?_ rfl
          refine J.callV1 (ci := 5) (q := 59) dX5_release_56 mv_X5_tell kL_X5_64 rfl (by decide) rfl ⟨by decide, by decide⟩ (Nat.le_of_ble_eq_true rfl) ⟨by decide, by decide⟩ rfl (c_X5_tell (w := 3) (by decide) hC9 (by decide)) (fun v8 S8 iv8 hp => ?_)
          obtain ⟨rfl, rfl, hf8, hC8⟩ := hp
          refine J.goto (tgt := 64) dX5_release_59 rfl ?_
          refine J.ireturn dX5_release_64 rfl ?_
          unfold CP an_release
          first
          | (rw [if_neg (by omega)]; exact ⟨rfl, rfl, hf8, hC8⟩)
          | (rw [if_pos (by omega), if_pos (by omega)]; exact ⟨rfl, rfl, fun q hq => (hf8 q hq).trans (hF9 q (by omega)), hC8⟩)
          | (rw [if_pos (by omega), if_neg (by omega)]; exact ⟨congrArg (fun q => some (i_ q)) (by omega), rfl, fun q hq => hF9 q (by omega), hC9⟩)
          | (exfalso; omega)
      · refine J.aload_n (q := 24) dX5_release_23 rfl ?_ rfl
        refine J.ldc (q := 26) (z := -1000001) dX5_release_24 kK_X5_63 ?_ rfl
        refine J.callV1 (ci := 5) (q := 29) dX5_release_26 mv_X5_tell kL_X5_64 rfl (by decide) rfl ⟨by decide, by decide⟩ (Nat.le_of_ble_eq_true rfl) ⟨by decide, by decide⟩ rfl (c_X5_tell (w := 0) (by decide) hC (by decide)) (fun v9 S9 iv9 hp => ?_)
        obtain ⟨rfl, rfl, hf8, hC8⟩ := hp
        refine J.ireturn dX5_release_29 rfl ?_
        unfold CP an_release
        first
        | (rw [if_neg (by omega)]; exact ⟨rfl, rfl, hf8, hC8⟩)
        | (rw [if_pos (by omega), if_pos (by omega)]; exact ⟨rfl, rfl, fun q hq => (hf8 q hq).trans (hF9 q (by omega)), hC8⟩)
        | (rw [if_pos (by omega), if_neg (by omega)]; exact ⟨congrArg (fun q => some (i_ q)) (by omega), rfl, fun q hq => hF9 q (by omega), hC9⟩)
        | (exfalso; omega)

set_option maxRecDepth 100000 in
set_option maxHeartbeats 4000000 in
theorem c_X5_costs {l : Launch} {F : Nat × (Int → Int)} {iv A : Mm} (hC : CR iv A) (hA : AI A) {w c m : Int} (hw : -2147483648 ≤ w ∧ w < 2147483648) (hc : -2147483648 ≤ c ∧ c < 2147483648) (hm : -2147483648 ≤ m ∧ m < 2147483648) : Ctr l F 7 0 0 yX5_costs cX5_costs 5 (some FieldType.int) [r_ 0, i_ w, i_ c, i_ m] S0 (iv) (CP iv (an_costs A w c m)) := by
  refine Ctr.of false (fun h => by cases h) (by decide) rfl (Nat.le_of_ble_eq_true rfl) ?_
  have hI := hA.mi
  have hmm := hI.many
  have hkp := hA.kp
  have htp := hA.tp
  refine J.iload_n (q := 1) dX5_costs_0 rfl ?_ rfl
  refine J.callS1i (q := 4) dX5_costs_1 mv_X5_isLaw kS_X5_isLaw kL_X5_112 ⟨by decide, by decide⟩ (Nat.le_of_ble_eq_true rfl) ⟨by decide, by decide⟩ rfl (c_X5_isLaw (by omega)) ?_
  refine J.ifb_eq (tgt := 23) (q := 7) dX5_costs_4 rfl rfl (fun c4 => ?_) (fun c4 => ?_)
  · refine J.aload_n (q := 24) dX5_costs_23 rfl ?_ rfl
    refine J.ldc (q := 26) (z := -1000001) dX5_costs_24 kK_X5_63 ?_ rfl
    refine J.callV1 (ci := 5) (q := 29) dX5_costs_26 mv_X5_tell kL_X5_64 rfl (by decide) rfl ⟨by decide, by decide⟩ (Nat.le_of_ble_eq_true rfl) ⟨by decide, by decide⟩ rfl (c_X5_tell (w := 0) (by decide) hC (by decide)) (fun v9 S9 iv9 hp => ?_)
    obtain ⟨rfl, rfl, hf8, hC8⟩ := hp
    refine J.ireturn dX5_costs_29 rfl ?_
    unfold CP an_costs
    first
    | (rw [if_neg (by omega)]; exact ⟨rfl, rfl, hf8, hC8⟩)
    | (rw [if_pos (by omega), if_pos (by omega)]; exact ⟨rfl, rfl, fun q hq => (hf8 q hq).trans (hF9 q (by omega)), hC8⟩)
    | (rw [if_pos (by omega), if_neg (by omega)]; exact ⟨congrArg (fun q => some (i_ q)) (by rw [show x = relS (A 62) w c m.toNat by omega]), rfl, fun q hq => hF9 q (by omega), hC9⟩)
    | (exfalso; omega)
  · refine J.iload_n (q := 8) dX5_costs_7 rfl ?_ rfl
    refine J.callS1i (q := 11) dX5_costs_8 mv_X5_isCell kS_X5_isCell kL_X5_55 ⟨by decide, by decide⟩ (Nat.le_of_ble_eq_true rfl) ⟨by decide, by decide⟩ rfl (c_X5_isCell (by omega)) ?_
    refine J.ifb_eq (tgt := 23) (q := 14) dX5_costs_11 rfl rfl (fun c11 => ?_) (fun c11 => ?_)
    · refine J.aload_n (q := 24) dX5_costs_23 rfl ?_ rfl
      refine J.ldc (q := 26) (z := -1000001) dX5_costs_24 kK_X5_63 ?_ rfl
      refine J.callV1 (ci := 5) (q := 29) dX5_costs_26 mv_X5_tell kL_X5_64 rfl (by decide) rfl ⟨by decide, by decide⟩ (Nat.le_of_ble_eq_true rfl) ⟨by decide, by decide⟩ rfl (c_X5_tell (w := 0) (by decide) hC (by decide)) (fun v9 S9 iv9 hp => ?_)
      obtain ⟨rfl, rfl, hf8, hC8⟩ := hp
      refine J.ireturn dX5_costs_29 rfl ?_
      unfold CP an_costs
      first
      | (rw [if_neg (by omega)]; exact ⟨rfl, rfl, hf8, hC8⟩)
      | (rw [if_pos (by omega), if_pos (by omega)]; exact ⟨rfl, rfl, fun q hq => (hf8 q hq).trans (hF9 q (by omega)), hC8⟩)
      | (rw [if_pos (by omega), if_neg (by omega)]; exact ⟨congrArg (fun q => some (i_ q)) (by rw [show x = relS (A 62) w c m.toNat by omega]), rfl, fun q hq => hF9 q (by omega), hC9⟩)
      | (exfalso; omega)
    · refine J.iload_n (q := 15) dX5_costs_14 rfl ?_ rfl
      refine J.bipush (q := 17) dX5_costs_15 (by decide) ?_ rfl
      refine J.callS2i (q := 20) dX5_costs_17 mv_X5_isWithin kS_X5_isWithin kL_X5_59 ⟨by decide, by decide⟩ (Nat.le_of_ble_eq_true rfl) ⟨by decide, by decide⟩ rfl (c_X5_isWithin (by omega) (by omega)) ?_
      refine J.ifb_ne (tgt := 30) (q := 23) dX5_costs_20 rfl rfl (fun c20 => ?_) (fun c20 => ?_)
      · refine J.aload_n (q := 31) dX5_costs_30 rfl ?_ rfl
        refine J.getR (ci := 5) (k0 := 2) (c1 := 25) (q := 34) dX5_costs_31 kF_X5_22 rfl (by decide) (by decide) rfl (by decide) rfl ?_ rfl
        refine J.aload_n (q := 35) dX5_costs_34 rfl ?_ rfl
        refine J.getR (ci := 5) (k0 := 0) (c1 := 1) (q := 38) dX5_costs_35 kF_X5_12 rfl (by decide) (by decide) rfl (by decide) rfl ?_ rfl
        refine J.iload_n (q := 39) dX5_costs_38 rfl ?_ rfl
        refine J.iload_n (q := 40) dX5_costs_39 rfl ?_ rfl
        refine J.iload_n (q := 41) dX5_costs_40 rfl ?_ rfl
        refine J.callV4 (ci := 0) (q := 44) dX5_costs_41 mv_X0_cheapestSet kL_X5_198 rfl (by decide) rfl ⟨by decide, by decide⟩ (Nat.le_of_ble_eq_true rfl) ⟨by decide, by decide⟩ rfl (c_X0_cheapestSet hC.r hI (by omega) (by omega) (by omega)) (fun v9 S9 iv9 hp => ?_)
        obtain ⟨rfl, rfl, hF9⟩ := hp
        have hC9 := hC.ft hF9
        have hbl := bestS_lt (prcS (A 62)) (fun z => decide ((dysM (fdst (A 62)) (bitB z) m.toNat (P0 (A 62))).1 (176 + c) = w)) (2 ^ (A 62 2).toNat)
        have hz8 : (2 ^ (A 62 2).toNat : Nat) ≤ 256 := by
          have h : ∀ k : Nat, k < 9 → 2 ^ k ≤ 256 := by decide
          exact h _ (by omega)
        change -1 ≤ relS (A 62) w c m.toNat ∧ relS (A 62) w c m.toNat < _ at hbl
        obtain ⟨N, hN⟩ : ∃ N : Nat, N = 2 ^ (A 62 2).toNat := ⟨_, rfl⟩
        rw [← hN] at hbl hz8
        obtain ⟨x, hx⟩ : ∃ x : Int, x = (if relS (A 62) w c m.toNat < 0 then -1000004 else relS (A 62) w c m.toNat) := ⟨_, rfl⟩
        rw [← hx]
        have hx1 : (relS (A 62) w c m.toNat < 0 ∧ x = -1000004) ∨ (¬ relS (A 62) w c m.toNat < 0 ∧ x = relS (A 62) w c m.toNat) := by
          by_cases h : relS (A 62) w c m.toNat < 0
          · exact Or.inl ⟨h, by rw [hx, if_pos h]⟩
          · exact Or.inr ⟨h, by rw [hx, if_neg h]⟩
        clear hx
        refine J.istore (q := 46) dX5_costs_44 (Nat.le_of_ble_eq_true rfl) ?_ rfl
        refine J.iload (q := 48) dX5_costs_46 rfl ?_ rfl
        refine J.ldc (q := 50) (z := -1000004) dX5_costs_48 kK_X5_172 ?_ rfl
        refine J.icmp_ne (tgt := 62) (q := 53) (hv := by omega) dX5_costs_50 rfl rfl (fun c50 => ?_) (fun c50 => ?_)
        · refine J.aload_n (q := 63) dX5_costs_62 rfl ?_ rfl
          refine J.getR (ci := 5) (k0 := 0) (c1 := 1) (q := 66) dX5_costs_63 kF_X5_12 rfl (by decide) (by decide) rfl (by decide) rfl ?_ rfl
          refine J.iload (q := 68) dX5_costs_66 rfl ?_ rfl
          refine J.callV1i (ci := 1) (q := 71) dX5_costs_68 mv_X1_priceOf kL_X5_201 rfl (by decide) rfl ⟨by decide, by decide⟩ (Nat.le_of_ble_eq_true rfl) ⟨by decide, by decide⟩ rfl (c_X1_priceOf hC9.r hI (by omega)) ?_
          refine J.ireturn dX5_costs_71 rfl ?_
          unfold CP an_costs
          first
          | (rw [if_neg (by omega)]; exact ⟨rfl, rfl, hf8, hC8⟩)
          | (rw [if_pos (by omega), if_pos (by omega)]; exact ⟨rfl, rfl, fun q hq => (hf8 q hq).trans (hF9 q (by omega)), hC8⟩)
          | (rw [if_pos (by omega), if_neg (by omega)]; exact ⟨congrArg (fun q => some (i_ q)) (by rw [show x = relS (A 62) w c m.toNat by omega]), rfl, fun q hq => hF9 q (by omega), hC9⟩)
          | (exfalso; omega)
        · refine J.aload_n (q := 54) dX5_costs_53 rfl ?_ rfl
          refine J.ldc (q := 56) (z := -1000004) dX5_costs_54 kK_X5_172 ?_ rfl
          refine J.callV1 (ci := 5) (q := 59) dX5_costs_56 mv_X5_tell kL_X5_64 rfl (by decide) rfl ⟨by decide, by decide⟩ (Nat.le_of_ble_eq_true rfl) ⟨by decide, by decide⟩ rfl (c_X5_tell (w := 3) (by decide) hC9 (by decide)) (fun v8 S8 iv8 hp => ?_)
          obtain ⟨rfl, rfl, hf8, hC8⟩ := hp
          refine J.goto (tgt := 71) dX5_costs_59 rfl ?_
          refine J.ireturn dX5_costs_71 rfl ?_
          unfold CP an_costs
          first
          | (rw [if_neg (by omega)]; exact ⟨rfl, rfl, hf8, hC8⟩)
          | (rw [if_pos (by omega), if_pos (by omega)]; exact ⟨rfl, rfl, fun q hq => (hf8 q hq).trans (hF9 q (by omega)), hC8⟩)
          | (rw [if_pos (by omega), if_neg (by omega)]; exact ⟨congrArg (fun q => some (i_ q)) (by rw [show x = relS (A 62) w c m.toNat by omega]), rfl, fun q hq => hF9 q (by omega), hC9⟩)
          | (exfalso; omega)
      · refine J.aload_n (q := 24) dX5_costs_23 rfl ?_ rfl
        refine J.ldc (q := 26) (z := -1000001) dX5_costs_24 kK_X5_63 ?_ rfl
        refine J.callV1 (ci := 5) (q := 29) dX5_costs_26 mv_X5_tell kL_X5_64 rfl (by decide) rfl ⟨by decide, by decide⟩ (Nat.le_of_ble_eq_true rfl) ⟨by decide, by decide⟩ rfl (c_X5_tell (w := 0) (by decide) hC (by decide)) (fun v9 S9 iv9 hp => ?_)
        obtain ⟨rfl, rfl, hf8, hC8⟩ := hp
        refine J.ireturn dX5_costs_29 rfl ?_
        unfold CP an_costs
        first
        | (rw [if_neg (by omega)]; exact ⟨rfl, rfl, hf8, hC8⟩)
        | (rw [if_pos (by omega), if_pos (by omega)]; exact ⟨rfl, rfl, fun q hq => (hf8 q hq).trans (hF9 q (by omega)), hC8⟩)
        | (rw [if_pos (by omega), if_neg (by omega)]; exact ⟨congrArg (fun q => some (i_ q)) (by rw [show x = relS (A 62) w c m.toNat by omega]), rfl, fun q hq => hF9 q (by omega), hC9⟩)
        | (exfalso; omega)

