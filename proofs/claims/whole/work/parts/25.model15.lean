/-! the reference: clashes (printed by wip/whole/m_model15.py) -/
def Cb (p : Int) (X Y : P2) (n : Nat) : Prop := X.2 p ≤ Y.2 p ∧ Y.2 p ≤ X.2 p + n
theorem Cb.rf {p : Int} {X : P2} {n : Nat} : Cb p X X n := ⟨Int.le_refl _, by omega⟩
theorem Cb.tr {p : Int} {X Y Z : P2} {m n : Nat} (h1 : Cb p X Y m) (h2 : Cb p Y Z n) : Cb p X Z (m + n) := ⟨by have := h1.1; have := h2.1; omega, by have := h1.2; have := h2.2; omega⟩
theorem Cb.le {p : Int} {X Y : P2} {m n : Nat} (h : Cb p X Y m) (hn : m ≤ n) : Cb p X Y n := ⟨h.1, by have := h.2; omega⟩
theorem come_b (p : Int) (X : P2) (c w : Int) : Cb p X (come X c w) 1 := by
  unfold come
  constructor <;> dsimp only <;> split <;> (try (by_cases h : p = c)) <;> (try (subst h; rw [upr_s])) <;> (try rw [upr_n _ _ h]) <;> omega
theorem stepM_b (fr : Int → Int → Int) (k p : Int) (X : P2) : Cb p X (stepM fr k X) 1 := by
  unfold stepM
  split
  · exact Cb.rf
  · exact come_b p (upr X.1 (257 + 5 * k + 1) (nxtM fr X.1 k), X.2) _ _
theorem itM_b (fr : Int → Int → Int) (k p : Int) (X : P2) : ∀ n : Nat, Cb p X (itM fr k n X) n
  | 0 => Cb.rf
  | n + 1 => (itM_b fr k p X n).tr (stepM_b fr k p _)
theorem crawl_b {D : Int} {fr : Int → Int → Int} {k p : Int} {X : P2} (h : MI D X.1) : Cb p X (crawl fr k X) 5 := by
  have hm := movM_rng (k := k) h
  have h1 := (come_b p X (X.1 (257 + 5 * k + 1)) (X.1 (257 + 5 * k + 2))).tr (itM_b fr k p (come X (X.1 (257 + 5 * k + 1)) (X.1 (257 + 5 * k + 2))) (movM X.1 k).toNat)
  exact Cb.le (Y := munch k _) h1 (by omega)
theorem dayL_b {D : Int} {fr : Int → Int → Int} {th : Int → Bool} {p : Int} : ∀ (n : Nat) (k : Int) (X : P2), MI D X.1 → 0 ≤ k → Cb p X (dayL fr th n k X) (5 * n)
  | 0, _, _, _, _ => Cb.rf
  | n + 1, k, X, h, hk => by
    have hm := h.many
    unfold dayL
    split
    · split
      · exact ((crawl_b h).tr (dayL_b n (k + 1) _ (crawl_MI h (by omega)).1 (by omega))).le (by omega)
      · exact (dayL_b n (k + 1) _ h (by omega)).le (by omega)
    · exact Cb.rf
theorem dysM_b {D : Int} {fr : Int → Int → Int} {th : Int → Bool} {p : Int} {X : P2} (h : MI D X.1) : ∀ n : Nat, Cb p X (dysM fr th n X) (45 * n)
  | 0 => Cb.rf
  | n + 1 => ((dysM_b h n).tr (Cb.le (Y := dayM fr th _) (dayL_b (fr := fr) (th := th) (p := p) 9 0 _ (dysM_MI h n).1 (by omega)) (Nat.le_refl _))).le (by omega)
theorem come_snd {X Y : P2} (c w p : Int) (h1 : X.1 = Y.1) (h2 : X.2 p = Y.2 p) : (come X c w).2 p = (come Y c w).2 p := by
  obtain ⟨s, a⟩ := X
  obtain ⟨s2, b⟩ := Y
  cases h1
  have h2 : a p = b p := h2
  unfold come
  dsimp only
  split
  · by_cases h : p = c
    · subst h; rw [upr_s, upr_s, h2]
    · rw [upr_n _ _ h, upr_n _ _ h, h2]
  · exact h2
theorem stepM_snd (fr : Int → Int → Int) {X Y : P2} (k p : Int) (h1 : X.1 = Y.1) (h2 : X.2 p = Y.2 p) : (stepM fr k X).2 p = (stepM fr k Y).2 p := by
  unfold stepM
  rw [h1]
  split
  · exact h2
  · exact come_snd _ _ p rfl h2
theorem itM_snd (fr : Int → Int → Int) {X Y : P2} (k p : Int) (h1 : X.1 = Y.1) (h2 : X.2 p = Y.2 p) : ∀ n : Nat, (itM fr k n X).2 p = (itM fr k n Y).2 p
  | 0 => h2
  | n + 1 => stepM_snd fr k p (itM_fst fr k X Y h1 n) (itM_snd fr k p h1 h2 n)
theorem come_fst2 {X Y : P2} (c w : Int) (h1 : X.1 = Y.1) : (come X c w).1 = (come Y c w).1 := by
  obtain ⟨s, a⟩ := X
  obtain ⟨s2, b⟩ := Y
  cases h1
  rfl
theorem crawl_snd (fr : Int → Int → Int) {X Y : P2} (k p : Int) (h1 : X.1 = Y.1) (h2 : X.2 p = Y.2 p) : (crawl fr k X).2 p = (crawl fr k Y).2 p := by
  show (itM fr k (movM X.1 k).toNat (come X (X.1 (257 + 5 * k + 1)) (X.1 (257 + 5 * k + 2)))).2 p = (itM fr k (movM Y.1 k).toNat (come Y (Y.1 (257 + 5 * k + 1)) (Y.1 (257 + 5 * k + 2)))).2 p
  rw [h1]
  exact itM_snd fr k p (come_fst2 _ _ h1) (come_snd _ _ p h1 h2) _
theorem dayL_snd (fr : Int → Int → Int) (th : Int → Bool) (p : Int) : ∀ (n : Nat) (k : Int) (X Y : P2), X.1 = Y.1 → X.2 p = Y.2 p → (dayL fr th n k X).2 p = (dayL fr th n k Y).2 p
  | 0, _, _, _, _, h => h
  | n + 1, k, X, Y, h1, h2 => by
    unfold dayL
    rw [h1]
    split
    · apply dayL_snd
      · split
        · exact crawl_fst fr k X Y h1
        · exact h1
      · split
        · exact crawl_snd fr k p h1 h2
        · exact h2
    · exact h2
theorem dysM_snd (fr : Int → Int → Int) (th : Int → Bool) {X Y : P2} (p : Int) (h1 : X.1 = Y.1) (h2 : X.2 p = Y.2 p) : ∀ n : Nat, (dysM fr th n X).2 p = (dysM fr th n Y).2 p
  | 0 => h2
  | n + 1 => dayL_snd fr th p 9 0 _ _ (dysM_fst fr th X Y h1 n) (dysM_snd fr th p h1 h2 n)
theorem mostP_rng (f : Int → Int) : ∀ n : Nat, -1 ≤ mostP f n ∧ mostP f n < n
  | 0 => by simp [mostP]
  | n + 1 => by
    have := mostP_rng f n
    unfold mostP
    split <;> omega
theorem mostP_rg (f : Int → Int) {b : Int} (hb : ∀ c, 0 ≤ c → c < 81 → 0 ≤ f c ∧ f c ≤ b) (h0 : 0 ≤ b) (n : Nat) (hn : n ≤ 81) : 0 ≤ (if mostP f n < 0 then 0 else f (mostP f n)) ∧ (if mostP f n < 0 then 0 else f (mostP f n)) ≤ b := by
  have := mostP_rng f n
  split
  · omega
  · exact hb _ (by omega) (by omega)
set_option maxRecDepth 100000 in
set_option maxHeartbeats 4000000 in
theorem clash2_loop {l : Launch} {F : Nat × (Int → Int)} {iv iv2 : Mm} (hA : AI iv) {m : Int} (hm : 0 ≤ m ∧ m ≤ 40) (hTF : TF iv iv2) {f : Int → Int} (hf : f = (dysM (fdst (iv 62)) th1 m.toNat (P0 (iv 62))).2) (he : ∀ c, 0 ≤ c → c < 81 → iv2 69 c = f c) (hb : ∀ c, 0 ≤ c → c < 81 → 0 ≤ f c ∧ f c ≤ 4000) : ∀ (n : Nat) (c : Nat) (x y : Int), (81 - (c : Int) < n) → ((c : Int) ≤ 81) → (x = mostP f c) → (y = if mostP f c < 0 then 0 else f (mostP f c)) → J l (yX6_clash).cls cX6_clash 5 (some FieldType.int) 6 0 0 false F (MP iv (an_clash (hi iv) m)) 0 0 57 [some (r_ 61), some (i_ m), some (i_ x), some (i_ y), some (i_ (c : Int))] [] S0 (iv2) := by
  intro n
  induction n with
  | zero =>
    intro c x y hn hc hx hy
    omega
  | succ n ih =>
    intro c x y hn hc hx hy
    have hI := hA.mi
    have hmm := hI.many
    have hkp := hA.kp
    have htp := hA.tp
    have hml := mostP_rng f c
    have hrg := mostP_rg f hb (by omega) c (by omega)
    rw [← hy] at hrg
    have hst : mostP f (c + 1) = if y < f c then (c : Int) else mostP f c := by rw [mostP, ← hy]
    refine J.iload (q := 59) dX6_clash_57 rfl ?_ rfl
    refine J.bipush (q := 61) dX6_clash_59 (by decide) ?_ rfl
    refine J.icmp_ge (tgt := 111) (q := 64) dX6_clash_61 rfl rfl (fun c61 => ?_) (fun c61 => ?_)
    · refine J.iload_n (q := 112) dX6_clash_111 rfl ?_ rfl
      have hc81 : c = 81 := by omega
      subst hc81
      refine J.if_ge (tgt := 123) (q := 115) (hv := by omega) dX6_clash_112 rfl rfl (fun c112 => ?_) (fun c112 => ?_)
      · refine J.iload_n (q := 124) dX6_clash_123 rfl ?_ rfl
        refine J.ireturn dX6_clash_124 rfl ?_
        unfold an_clash
        rw [if_pos (by omega)]
        rw [show hi iv 62 = iv 62 from rfl, ← hf]
        first
        | (rw [if_neg (by omega), ← hx]; exact mpTF hTF)
        | (rw [if_pos (by omega)]; exact mpTFb hTF)
        | (exfalso; omega)
      · refine J.aload_n (q := 116) dX6_clash_115 rfl ?_ rfl
        refine J.iconst (q := 117) dX6_clash_116 ?_ rfl
        refine J.callV1i (ci := 6) (q := 120) dX6_clash_117 mv_X6_no kL_X6_125 rfl (by decide) rfl ⟨by decide, by decide⟩ (Nat.le_of_ble_eq_true rfl) ⟨by decide, by decide⟩ rfl (c_X6_no (by omega)) ?_
        refine J.goto (tgt := 124) dX6_clash_120 rfl ?_
        refine J.ireturn dX6_clash_124 rfl ?_
        unfold an_clash
        rw [if_pos (by omega)]
        rw [show hi iv 62 = iv 62 from rfl, ← hf]
        first
        | (rw [if_neg (by omega), ← hx]; exact mpTF hTF)
        | (rw [if_pos (by omega)]; exact mpTFb hTF)
        | (exfalso; omega)
    · have hec := he c (by omega) (by omega)
      have hbc := hb c (by omega) (by omega)
      refine J.aload_n (q := 65) dX6_clash_64 rfl ?_ rfl
      refine J.getR (ci := 6) (k0 := 8) (c1 := 69) (q := 68) dX6_clash_65 kF_X6_32 rfl (by decide) (by decide) rfl (by decide) rfl ?_ rfl
      refine J.iload (q := 70) dX6_clash_68 rfl ?_ rfl
      refine J.iald (n := 81) (q := 71) dX6_clash_70 rfl (by omega) ?_ rfl
      refine J.iload_n (q := 72) dX6_clash_71 rfl ?_ rfl
      refine J.icmp_le (tgt := 80) (q := 75) (hv := by omega) dX6_clash_72 rfl rfl (fun c72 => ?_) (fun c72 => ?_)
      · refine J.iload_n (q := 81) dX6_clash_80 rfl ?_ rfl
        refine J.istore_n (q := 82) dX6_clash_81 (Nat.le_of_ble_eq_true rfl) ?_ rfl
        refine J.aload_n (q := 83) dX6_clash_82 rfl ?_ rfl
        refine J.getR (ci := 6) (k0 := 8) (c1 := 69) (q := 86) dX6_clash_83 kF_X6_32 rfl (by decide) (by decide) rfl (by decide) rfl ?_ rfl
        refine J.iload (q := 88) dX6_clash_86 rfl ?_ rfl
        refine J.iald (n := 81) (q := 89) dX6_clash_88 rfl (by omega) ?_ rfl
        refine J.iload_n (q := 90) dX6_clash_89 rfl ?_ rfl
        refine J.icmp_le (tgt := 103) (q := 93) (hv := by omega) dX6_clash_90 rfl rfl (fun c90 => ?_) (fun c90 => ?_)
        · rw [if_neg (by omega)] at hst
          refine J.iload_n (q := 104) dX6_clash_103 rfl ?_ rfl
          refine J.istore_n (q := 105) dX6_clash_104 (Nat.le_of_ble_eq_true rfl) ?_ rfl
          refine J.iinc (q := 108) dX6_clash_105 rfl ?_ rfl
          refine J.goto (tgt := 57) dX6_clash_108 rfl ?_
          first
          | exact ih (c + 1) c _ (by omega) (by omega) hst.symm (by rw [hst, if_neg (by omega)]; exact hec)
          | exact ih (c + 1) x y (by omega) (by omega) (hx.trans hst.symm) (by rw [hst]; exact hy)
          | (exfalso; omega)
        · rw [if_pos (by omega)] at hst
          refine J.aload_n (q := 94) dX6_clash_93 rfl ?_ rfl
          refine J.getR (ci := 6) (k0 := 8) (c1 := 69) (q := 97) dX6_clash_94 kF_X6_32 rfl (by decide) (by decide) rfl (by decide) rfl ?_ rfl
          refine J.iload (q := 99) dX6_clash_97 rfl ?_ rfl
          refine J.iald (n := 81) (q := 100) dX6_clash_99 rfl (by omega) ?_ rfl
          refine J.goto (tgt := 104) dX6_clash_100 rfl ?_
          refine J.istore_n (q := 105) dX6_clash_104 (Nat.le_of_ble_eq_true rfl) ?_ rfl
          refine J.iinc (q := 108) dX6_clash_105 rfl ?_ rfl
          refine J.goto (tgt := 57) dX6_clash_108 rfl ?_
          first
          | exact ih (c + 1) c _ (by omega) (by omega) hst.symm (by rw [hst, if_neg (by omega)]; exact hec)
          | exact ih (c + 1) x y (by omega) (by omega) (hx.trans hst.symm) (by rw [hst]; exact hy)
          | (exfalso; omega)
      · refine J.iload (q := 77) dX6_clash_75 rfl ?_ rfl
        refine J.goto (tgt := 81) dX6_clash_77 rfl ?_
        refine J.istore_n (q := 82) dX6_clash_81 (Nat.le_of_ble_eq_true rfl) ?_ rfl
        refine J.aload_n (q := 83) dX6_clash_82 rfl ?_ rfl
        refine J.getR (ci := 6) (k0 := 8) (c1 := 69) (q := 86) dX6_clash_83 kF_X6_32 rfl (by decide) (by decide) rfl (by decide) rfl ?_ rfl
        refine J.iload (q := 88) dX6_clash_86 rfl ?_ rfl
        refine J.iald (n := 81) (q := 89) dX6_clash_88 rfl (by omega) ?_ rfl
        refine J.iload_n (q := 90) dX6_clash_89 rfl ?_ rfl
        refine J.icmp_le (tgt := 103) (q := 93) (hv := by omega) dX6_clash_90 rfl rfl (fun c90 => ?_) (fun c90 => ?_)
        · rw [if_neg (by omega)] at hst
          refine J.iload_n (q := 104) dX6_clash_103 rfl ?_ rfl
          refine J.istore_n (q := 105) dX6_clash_104 (Nat.le_of_ble_eq_true rfl) ?_ rfl
          refine J.iinc (q := 108) dX6_clash_105 rfl ?_ rfl
          refine J.goto (tgt := 57) dX6_clash_108 rfl ?_
          first
          | exact ih (c + 1) c _ (by omega) (by omega) hst.symm (by rw [hst, if_neg (by omega)]; exact hec)
          | exact ih (c + 1) x y (by omega) (by omega) (hx.trans hst.symm) (by rw [hst]; exact hy)
          | (exfalso; omega)
        · rw [if_pos (by omega)] at hst
          refine J.aload_n (q := 94) dX6_clash_93 rfl ?_ rfl
          refine J.getR (ci := 6) (k0 := 8) (c1 := 69) (q := 97) dX6_clash_94 kF_X6_32 rfl (by decide) (by decide) rfl (by decide) rfl ?_ rfl
          refine J.iload (q := 99) dX6_clash_97 rfl ?_ rfl
          refine J.iald (n := 81) (q := 100) dX6_clash_99 rfl (by omega) ?_ rfl
          refine J.goto (tgt := 104) dX6_clash_100 rfl ?_
          refine J.istore_n (q := 105) dX6_clash_104 (Nat.le_of_ble_eq_true rfl) ?_ rfl
          refine J.iinc (q := 108) dX6_clash_105 rfl ?_ rfl
          refine J.goto (tgt := 57) dX6_clash_108 rfl ?_
          first
          | exact ih (c + 1) c _ (by omega) (by omega) hst.symm (by rw [hst, if_neg (by omega)]; exact hec)
          | exact ih (c + 1) x y (by omega) (by omega) (hx.trans hst.symm) (by rw [hst]; exact hy)
          | (exfalso; omega)

set_option maxRecDepth 100000 in
set_option maxHeartbeats 4000000 in
theorem clash1_loop {l : Launch} {F : Nat × (Int → Int)} {iv : Mm} (hA : AI iv) {m : Int} (hm : 0 ≤ m ∧ m ≤ 40) : ∀ (n : Nat) (c : Int) (iv1 : Mm), (81 - c < n) → (0 ≤ c ∧ c ≤ 81) → ((∀ q, q ≠ 69 → iv1 q = iv q) ∧ ∀ j, 0 ≤ j → j < c → iv1 69 j = 0) → J l (yX6_clash).cls cX6_clash 5 (some FieldType.int) 6 0 0 false F (MP iv (an_clash (hi iv) m)) 0 0 18 [some (r_ 61), some (i_ m), some (i_ c), none, none] [] S0 (iv1) := by
  intro n
  induction n with
  | zero =>
    intro c iv1 hn hc hL
    omega
  | succ n ih =>
    intro c iv1 hn hc hL
    have hI := hA.mi
    have hmm := hI.many
    have hkp := hA.kp
    have htp := hA.tp
    refine J.iload_n (q := 19) dX6_clash_18 rfl ?_ rfl
    refine J.bipush (q := 21) dX6_clash_19 (by decide) ?_ rfl
    refine J.icmp_ge (tgt := 37) (q := 24) dX6_clash_21 rfl rfl (fun c21 => ?_) (fun c21 => ?_)
    · refine J.aload_n (q := 38) dX6_clash_37 rfl ?_ rfl
      refine J.callV0 (ci := 6) (q := 41) dX6_clash_38 mv_X6_setsAside kL_X6_155 rfl (by decide) rfl ⟨by decide, by decide⟩ (Nat.le_of_ble_eq_true rfl) ⟨by decide, by decide⟩ rfl (c_X6_setsAside) (fun v9 S9 iv9 hp => ?_)
      obtain ⟨rfl, rfl, a1, a2, a3⟩ := hp
      have hA9 : AI iv9 := hA.tf ⟨fun q hq => (a1 q (by omega)).trans (hL.1 q (by omega)), (a1 65 (by decide)).trans (hL.1 65 (by decide)), fun q hq => (a1 q (by omega)).trans (hL.1 q (by omega))⟩
      refine J.aload_n (q := 42) dX6_clash_41 rfl ?_ rfl
      refine J.iload_n (q := 43) dX6_clash_42 rfl ?_ rfl
      refine J.callV1 (ci := 6) (q := 46) dX6_clash_43 mv_X6_days kL_X6_137 rfl (by decide) rfl ⟨by decide, by decide⟩ (Nat.le_of_ble_eq_true rfl) ⟨by decide, by decide⟩ rfl (c_X6_days hA9 (by omega)) (fun v8 S8 iv8 hp => ?_)
      obtain ⟨rfl, rfl, g1, g2, g3⟩ := hp
      refine J.aload_n (q := 47) dX6_clash_46 rfl ?_ rfl
      refine J.callV0 (ci := 6) (q := 50) dX6_clash_47 mv_X6_laysBack kL_X6_158 rfl (by decide) rfl ⟨by decide, by decide⟩ (Nat.le_of_ble_eq_true rfl) ⟨by decide, by decide⟩ rfl (c_X6_laysBack) (fun v7 S7 iv7 hp => ?_)
      obtain ⟨rfl, rfl, b1, b2, b3⟩ := hp
      have e64 : iv8 64 = iv9 64 := g1 64 (by decide) (by decide) (by decide) (by decide) (by decide)
      have e9 : iv9 62 = iv 62 := (a1 62 (by decide)).trans (hL.1 62 (by decide))
      rw [e9] at g2 g3
      have hTF : TF iv iv7 := by
        refine ⟨fun q hq => ?_, ?_, fun q hq => ?_⟩
        · by_cases h62 : q = 62
          · subst h62
            refine laid (fun j h1 h2 => ?_) b3 (fun j hj => by rw [g2]; exact dys_junk hI m.toNat j hj)
            rw [b2 j h1 h2, e64, a2 j h1 h2, hL.1 62 (by decide)]
          · rw [b1 q h62, g1 q h62 (by omega) (by omega) (by omega) (by omega), a1 q (by omega), hL.1 q (by omega)]
        · rw [b1 65 (by decide), g1 65 (by decide) (by decide) (by decide) (by decide) (by decide), a1 65 (by decide), hL.1 65 (by decide)]
        · rw [b1 q (by omega), g1 q (by omega) (by omega) (by omega) (by omega) (by omega), a1 q (by omega), hL.1 q (by omega)]
      have h69 : ∀ c, 0 ≤ c → c < 81 → iv7 69 c = (dysM (fdst (iv 62)) th1 m.toNat (P0 (iv 62))).2 c := by
        intro c h1 h2
        rw [b1 69 (by decide), g3]
        refine dysM_snd (X := (iv 62, iv9 69)) (Y := P0 (iv 62)) _ _ c rfl ?_ _
        show iv9 69 c = 0
        rw [a1 69 (by decide), hL.2 c h1 (by omega)]
      have h69b : ∀ c, 0 ≤ c → c < 81 → 0 ≤ (dysM (fdst (iv 62)) th1 m.toNat (P0 (iv 62))).2 c ∧ (dysM (fdst (iv 62)) th1 m.toNat (P0 (iv 62))).2 c ≤ 4000 := by
        intro c h1 h2
        have h := dysM_b (fr := fdst (iv 62)) (th := th1) (p := c) (X := P0 (iv 62)) hI m.toNat
        have z1 := h.1
        have z2 := h.2
        have z3 : (P0 (iv 62)).2 c = 0 := rfl
        omega
      refine J.iconst (q := 51) dX6_clash_50 ?_ rfl
      refine J.istore_n (q := 52) dX6_clash_51 (Nat.le_of_ble_eq_true rfl) ?_ rfl
      refine J.iconst (q := 53) dX6_clash_52 ?_ rfl
      refine J.istore_n (q := 54) dX6_clash_53 (Nat.le_of_ble_eq_true rfl) ?_ rfl
      refine J.iconst (q := 55) dX6_clash_54 ?_ rfl
      refine J.istore (q := 57) dX6_clash_55 (Nat.le_of_ble_eq_true rfl) ?_ rfl
      exact clash2_loop hA hm hTF rfl h69 h69b 82 0 _ _ (by omega) (by omega) rfl rfl
    · refine J.aload_n (q := 25) dX6_clash_24 rfl ?_ rfl
      refine J.getR (ci := 6) (k0 := 8) (c1 := 69) (q := 28) dX6_clash_25 kF_X6_32 rfl (by decide) (by decide) rfl (by decide) rfl ?_ rfl
      refine J.iload_n (q := 29) dX6_clash_28 rfl ?_ rfl
      refine J.iconst (q := 30) dX6_clash_29 ?_ rfl
      refine J.iast (n := 81) (q := 31) dX6_clash_30 rfl (by omega) ?_ rfl
      refine J.iinc (q := 34) dX6_clash_31 rfl ?_ rfl
      refine J.goto (tgt := 18) dX6_clash_34 rfl ?_
      refine ih (c + 1) _ (by omega) (by omega) ⟨fun q h1 => (up_n _ _ _ h1).trans (hL.1 q h1), fun j h1 h2 => ?_⟩
      rw [up_s]
      by_cases h : j = c
      · subst h; rw [upr_s]
      · rw [upr_n _ _ h, hL.2 j h1 (by omega)]

set_option maxRecDepth 100000 in
set_option maxHeartbeats 4000000 in
theorem c_X6_clash {l : Launch} {F : Nat × (Int → Int)} {iv : Mm} (hA : AI iv) {m : Int} (hm : -2147483648 ≤ m ∧ m < 2147483648) : Ctr l F 6 0 0 yX6_clash cX6_clash 5 (some FieldType.int) [r_ 61, i_ m] S0 (iv) (MP iv (an_clash (hi iv) m)) := by
  refine Ctr.of false (fun h => by cases h) (by decide) rfl (Nat.le_of_ble_eq_true rfl) ?_
  have hI := hA.mi
  have hmm := hI.many
  have hkp := hA.kp
  have htp := hA.tp
  refine J.iload_n (q := 1) dX6_clash_0 rfl ?_ rfl
  refine J.iconst (q := 2) dX6_clash_1 ?_ rfl
  refine J.bipush (q := 4) dX6_clash_2 (by decide) ?_ rfl
  refine J.callS3i (q := 7) dX6_clash_4 mv_X6_in1 kS_X6_in1 kL_X6_61 ⟨by decide, by decide⟩ (Nat.le_of_ble_eq_true rfl) ⟨by decide, by decide⟩ rfl (c_X6_in1 (by omega) (by omega) (by omega)) ?_
  refine J.ifb_ne (tgt := 16) (q := 10) dX6_clash_7 rfl rfl (fun c7 => ?_) (fun c7 => ?_)
  · refine J.iconst (q := 17) dX6_clash_16 ?_ rfl
    refine J.istore_n (q := 18) dX6_clash_17 (Nat.le_of_ble_eq_true rfl) ?_ rfl
    exact clash1_loop hA (by omega) 82 0 _ (by omega) (by omega) ⟨fun q h => rfl, fun j h1 h2 => by omega⟩
  · refine J.aload_n (q := 11) dX6_clash_10 rfl ?_ rfl
    refine J.iconst (q := 12) dX6_clash_11 ?_ rfl
    refine J.callV1i (ci := 6) (q := 15) dX6_clash_12 mv_X6_no kL_X6_125 rfl (by decide) rfl ⟨by decide, by decide⟩ (Nat.le_of_ble_eq_true rfl) ⟨by decide, by decide⟩ rfl (c_X6_no (by omega)) ?_
    refine J.ireturn dX6_clash_15 rfl ?_
    unfold an_clash
    (try rw [hi_61]); (try rw [hi_62]); (try rw [hi_63]); (try rw [hi_65]); (try rw [hi_70]); (try rw [hi_74]); (try rw [hi_75]); (try rw [hi_76])
    repeat (first | rw [if_pos (by omega)] | rw [if_neg (by omega)])
    first
    | exact mpTF TF.rf
    | exact mpTFb TF.rf
    | exact mpTF hTF
    | exact mpTFb hTF
    | (exfalso; omega)

