/-! the class: the farthest start, trails (printed by wip/whole/m_c13.py) -/
theorem besM_back {c w : Int} (hc : 0 ≤ c ∧ c ≤ 80) (hw : 0 ≤ w ∧ w ≤ 3) (hb : 0 ≤ besM c w) : ∃ v, (0 ≤ v ∧ v ≤ 3) ∧ besM (besM c w) v = c := by
  rcases (show w = 0 ∨ w = 1 ∨ w = 2 ∨ w = 3 by omega) with rfl | rfl | rfl | rfl
  · refine ⟨2, by omega, ?_⟩
    unfold besM at hb ⊢
    simp only [if_pos, if_neg, reduceIte] at hb ⊢
    have h9 : (0 : Int) ≤ c - 9 := by simpa using hb
    simp
    omega
  · refine ⟨3, by omega, ?_⟩
    unfold besM at hb ⊢
    simp at hb ⊢
    by_cases h : c % 9 = 8
    · rw [if_pos h] at hb; omega
    · rw [if_neg h] at hb ⊢
      rw [if_neg (by omega)]; omega
  · refine ⟨0, by omega, ?_⟩
    unfold besM at hb ⊢
    simp at hb ⊢
    by_cases h : c + 9 < 81
    · rw [if_pos h] at hb ⊢; omega
    · rw [if_neg h] at hb; omega
  · refine ⟨1, by omega, ?_⟩
    unfold besM at hb ⊢
    simp at hb ⊢
    by_cases h : c % 9 = 0
    · rw [if_pos h] at hb; omega
    · rw [if_neg h] at hb ⊢
      rw [if_neg (by omega)]; omega
/-- what holds of the cells that a search has reached -/
def BQ (op : Int → Bool) (fr : Int) (T : T3) : Prop := ∀ c, T.1 c ≠ 99 → op c = true ∧ (0 ≤ c ∧ c ≤ 80) ∧ (∃ j, 0 ≤ j ∧ j < T.2.2 ∧ T.2.1 j = c) ∧ (T.1 c = 0 → c = fr)
theorem rlx_BQ {op : Int → Bool} {fr i w : Int} {T : T3} (h : BI T) (hi9 : 0 ≤ i ∧ i < T.2.2) (hw : 0 ≤ w ∧ w ≤ 3) (hQ : BQ op fr T) : BQ op fr (rlx op i w T) := by
  have hm := h.m
  have hoi := h.2.1 i hi9.1 hi9.2
  have hb := besM_rng (w := w) hoi.1
  unfold rlx
  split
  · rename_i hc
    obtain ⟨h0, h1, h2⟩ := hc
    intro c hcn
    have hcn : upr T.1 (besM (T.2.1 i) w) (T.1 (T.2.1 i) + 1) c ≠ 99 := hcn
    by_cases e : c = besM (T.2.1 i) w
    · subst e
      refine ⟨h1, by omega, ⟨T.2.2, by omega, by show T.2.2 < T.2.2 + 1; omega, upr_s _ _ _⟩, fun z => ?_⟩
      have z : upr T.1 (besM (T.2.1 i) w) (T.1 (T.2.1 i) + 1) (besM (T.2.1 i) w) = 0 := z
      rw [upr_s] at z
      omega
    · rw [upr_n _ _ e] at hcn
      obtain ⟨q1, q2, ⟨j, j0, j1, j2⟩, q3⟩ := hQ c hcn
      refine ⟨q1, q2, ⟨j, j0, by show j < T.2.2 + 1; omega, ?_⟩, fun z => ?_⟩
      · show upr T.2.1 T.2.2 _ j = c
        rw [upr_n _ _ (by omega)]; exact j2
      · have z : upr T.1 (besM (T.2.1 i) w) (T.1 (T.2.1 i) + 1) c = 0 := z
        rw [upr_n _ _ e] at z
        exact q3 z
  · exact hQ
/-- the cells beside item i are reached -/
def BC (op : Int → Bool) (T : T3) (i : Int) : Prop := ∀ j, 0 ≤ j → j < i → ∀ w, 0 ≤ w → w ≤ 3 → 0 ≤ besM (T.2.1 j) w → op (besM (T.2.1 j) w) = true → T.1 (besM (T.2.1 j) w) ≠ 99
theorem rlx_one {op : Int → Bool} {i w : Int} {T : T3} (h : BI T) (hi9 : 0 ≤ i ∧ i < T.2.2) (hb : 0 ≤ besM (T.2.1 i) w) (ho : op (besM (T.2.1 i) w) = true) : (rlx op i w T).1 (besM (T.2.1 i) w) ≠ 99 := by
  have hm := h.m
  have hoi := h.2.1 i hi9.1 hi9.2
  by_cases e : T.1 (besM (T.2.1 i) w) = 99
  · have : rlx op i w T = (upr T.1 (besM (T.2.1 i) w) (T.1 (T.2.1 i) + 1), upr T.2.1 T.2.2 (besM (T.2.1 i) w), T.2.2 + 1) := if_pos ⟨hb, ho, e⟩
    rw [this]
    show upr T.1 _ _ _ ≠ 99
    rw [upr_s]
    omega
  · rw [(rlx_BI (op := op) (w := w) h hi9).2.2.2 _ e]
    exact e
theorem vis_BC {op : Int → Bool} {fr i : Int} {T : T3} (h : BI T) (hi9 : 0 ≤ i ∧ i < T.2.2) (hQ : BQ op fr T) (hC : BC op T i) : BQ op fr (vis op i T) ∧ BC op (vis op i T) (i + 1) := by
  obtain ⟨a1, b1, e1, n1⟩ := rlx_BI (op := op) (w := 0) h hi9
  obtain ⟨a2, b2, e2, n2⟩ := rlx_BI (op := op) (w := 1) a1 (i := i) (by omega)
  obtain ⟨a3, b3, e3, n3⟩ := rlx_BI (op := op) (w := 2) a2 (i := i) (by omega)
  obtain ⟨a4, b4, e4, n4⟩ := rlx_BI (op := op) (w := 3) a3 (i := i) (by omega)
  obtain ⟨v1, v2, v3, v4⟩ := vis_BI (op := op) h hi9
  have q1 := rlx_BQ (w := 0) h hi9 (by omega) hQ
  have q2 := rlx_BQ (w := 1) a1 (i := i) (by omega) (by omega) q1
  have q3 := rlx_BQ (w := 2) a2 (i := i) (by omega) (by omega) q2
  have q4 := rlx_BQ (w := 3) a3 (i := i) (by omega) (by omega) q3
  have f1 := e1 i hi9.1 hi9.2
  have f2 := (e2 i hi9.1 (by omega)).trans f1
  have f3 := (e3 i hi9.1 (by omega)).trans f2
  refine ⟨q4, fun j j0 j1 w w0 w1 hb ho => ?_⟩
  by_cases e : j = i
  · subst e
    rw [v3 j j0 hi9.2] at hb ho ⊢
    rcases (show w = 0 ∨ w = 1 ∨ w = 2 ∨ w = 3 by omega) with rfl | rfl | rfl | rfl
    · have z := rlx_one (w := 0) h hi9 hb ho
      have z2 := z; rw [← n2 _ z] at z2
      have z3 := z2; rw [← n3 _ z2] at z3
      have z4 := z3; rw [← n4 _ z3] at z4
      exact z4
    · have z := rlx_one (op := op) (w := 1) a1 (i := j) (by omega) (by rw [f1]; exact hb) (by rw [f1]; exact ho)
      rw [f1] at z
      have z3 := z; rw [← n3 _ z] at z3
      have z4 := z3; rw [← n4 _ z3] at z4
      exact z4
    · have z := rlx_one (op := op) (w := 2) a2 (i := j) (by omega) (by rw [f2]; exact hb) (by rw [f2]; exact ho)
      rw [f2] at z
      have z4 := z; rw [← n4 _ z] at z4
      exact z4
    · have z := rlx_one (op := op) (w := 3) a3 (i := j) (by omega) (by rw [f3]; exact hb) (by rw [f3]; exact ho)
      rw [f3] at z
      exact z
  · rw [v3 j j0 (by omega)] at hb ho ⊢
    have z := hC j j0 (by omega) w w0 w1 hb ho
    rw [v4 _ z]
    exact z
theorem bfsL_BC {op : Int → Bool} {fr : Int} : ∀ (n : Nat) (i : Int) (T : T3), BI T → (0 ≤ i ∧ i ≤ T.2.2) → 81 - i < n → BQ op fr T → BC op T i → BQ op fr (bfsL op n i T) ∧ BC op (bfsL op n i T) (bfsL op n i T).2.2
  | 0, i, T, h, h1, h2, _, _ => by have := h.m; omega
  | n + 1, i, T, h, h1, h2, hQ, hC => by
    unfold bfsL
    split
    · rename_i hc
      obtain ⟨v1, v2, v3, v4⟩ := vis_BI (op := op) h ⟨h1.1, hc⟩
      obtain ⟨c1, c2⟩ := vis_BC h ⟨h1.1, hc⟩ hQ hC
      exact bfsL_BC n (i + 1) _ v1 (by omega) (by omega) c1 c2
    · exact ⟨hQ, by rw [show T.2.2 = i by omega]; exact hC⟩
theorem bfsL_keep {op : Int → Bool} : ∀ (n : Nat) (i : Int) (T : T3), BI T → 0 ≤ i → ∀ c, T.1 c ≠ 99 → (bfsL op n i T).1 c = T.1 c
  | 0, _, _, _, _, _, _ => rfl
  | n + 1, i, T, h, hi9, c, hc => by
    unfold bfsL
    split
    · rename_i h1
      obtain ⟨v1, v2, v3, v4⟩ := vis_BI (op := op) h ⟨hi9, h1⟩
      have e := v4 c hc
      rw [bfsL_keep n (i + 1) _ v1 (by omega) c (by rw [e]; exact hc), e]
    · rfl
theorem dst_all {op : Int → Bool} {fr : Int} (hf : 0 ≤ fr ∧ fr ≤ 80) : (∀ c, dst op fr c ≠ 99 → op c = true ∧ (0 ≤ c ∧ c ≤ 80) ∧ (dst op fr c = 0 → c = fr)) ∧ (∀ c w, 0 ≤ w → w ≤ 3 → dst op fr c ≠ 99 → 0 ≤ besM c w → op (besM c w) = true → dst op fr (besM c w) ≠ 99) ∧ (op fr = true → dst op fr fr = 0) := by
  have hB := bfs0_BI (op := op) hf
  have hQ0 : BQ op fr (bfs0 op fr) := by
    unfold bfs0
    split
    · rename_i ho
      intro c hc
      have hc : upr (fun _ => 99) fr 0 c ≠ 99 := hc
      by_cases e : c = fr
      · subst e; exact ⟨ho, hf, ⟨0, by omega, by show (0 : Int) < 1; omega, by show upr (fun _ => 0) 0 c 0 = c; exact upr_s _ _ _⟩, fun _ => rfl⟩
      · rw [upr_n _ _ e] at hc; exact absurd rfl hc
    · intro c hc; exact absurd rfl hc
  obtain ⟨h1, h2⟩ := bfsL_BC (fr := fr) 82 0 (bfs0 op fr) hB ⟨by omega, hB.m.1⟩ (by omega) hQ0 (fun j j0 j1 => by omega)
  refine ⟨fun c hc => ?_, fun c w w0 w1 hc hb ho => ?_, fun ho => ?_⟩
  · obtain ⟨q1, q2, q3, q4⟩ := h1 c hc
    exact ⟨q1, q2, q4⟩
  · obtain ⟨q1, q2, ⟨j, j0, j1, j2⟩, q4⟩ := h1 c hc
    have := h2 j j0 j1 w w0 w1
    rw [j2] at this
    exact this hb ho
  · have e0 : (bfs0 op fr).1 fr = 0 := by
      unfold bfs0
      rw [if_pos ho]
      show upr (fun _ => 99) fr 0 fr = 0
      exact upr_s _ _ _
    have := bfsL_keep (op := op) 82 0 (bfs0 op fr) hB (by omega) fr (by rw [e0]; decide)
    show (bfsL op 82 0 (bfs0 op fr)).1 fr = 0
    rw [this, e0]
theorem opH_c {s : Int → Int} {c : Int} (hc : 0 ≤ c ∧ c ≤ 80) : opH s c = true ↔ s (14 + c) ≠ 1 := by
  unfold opH
  constructor
  · intro h; have := of_decide_eq_true h; omega
  · intro h; exact decide_eq_true (Or.inr (Or.inr h))
/-- from where no way leads to the gate, a snail doesn't move -/
theorem stuck {s t : Int → Int} {k : Int} (hg : 0 ≤ s (257 + 5 * k + 3) ∧ s (257 + 5 * k + 3) ≤ 80) (hc : 0 ≤ t (257 + 5 * k + 1) ∧ t (257 + 5 * k + 1) ≤ 80) (hH : ∀ c, 0 ≤ c → c ≤ 80 → t (14 + c) = s (14 + c)) (h99 : fdst s k (t (257 + 5 * k + 1)) = 99) : nxtM (fdst s) t k = t (257 + 5 * k + 1) := by
  obtain ⟨d1, d2, d3⟩ := dst_all (op := opH s) hg
  unfold nxtM
  split
  · rfl
  · rename_i ho
    have hopen : opH s (t (257 + 5 * k + 1)) = true := (opH_c hc).mpr (by rw [← hH _ hc.1 hc.2]; exact ho)
    have key : ∀ w x, 0 ≤ w ∧ w ≤ 3 → nx1 (fdst s) k (t (257 + 5 * k + 1)) w x = x := by
      intro w x hw
      unfold nx1
      refine if_neg (fun z => ?_)
      obtain ⟨z1, z2⟩ := z
      have hr := dst_rng (op := opH s) hg (besM (t (257 + 5 * k + 1)) w)
      have hn : dst (opH s) (s (257 + 5 * k + 3)) (besM (t (257 + 5 * k + 1)) w) ≠ 99 := by
        unfold fdst at z2 h99
        omega
      obtain ⟨v, hv, hv2⟩ := besM_back hc hw z1
      have := d2 _ v hv.1 hv.2 hn (by rw [hv2]; exact hc.1) (by rw [hv2]; exact hopen)
      rw [hv2] at this
      exact this h99
    rw [key 0 _ (by omega), key 1 _ (by omega), key 2 _ (by omega), key 3 _ (by omega)]
theorem crawl_AT {fr : Int → Int → Int} {D : Int} {k j : Int} {X : P2} (hI : MI D X.1) (hk : 0 ≤ k ∧ k < 8) (hj : 0 ≤ j ∧ j < 8) (hjk : j ≠ k) : (crawl fr k X).1 (257 + 5 * j + 1) = X.1 (257 + 5 * j + 1) := by
  have hs := hI.sna k hk.1 hk.2
  have h1 := come_MI (X := X) (c := X.1 (257 + 5 * k + 1)) (law := X.1 (257 + 5 * k + 2)) hI hs.2.1 hs.2.2.1
  have hst : ∀ Y : P2, MI D Y.1 → (stepM fr k Y).1 (257 + 5 * j + 1) = Y.1 (257 + 5 * j + 1) := by
    intro Y hY
    have hn := nxtM_rng (fr := fr) (hY.sna k hk.1 hk.2).2.1
    unfold stepM
    split
    · rfl
    · rw [come_o (by omega) (by omega)]
      exact upr_n _ _ (by omega)
  have hit : ∀ (n : Nat) (Y : P2), MI D Y.1 → (itM fr k n Y).1 (257 + 5 * j + 1) = Y.1 (257 + 5 * j + 1) := by
    intro n Y hY
    induction n with
    | zero => rfl
    | succ n ih => exact (hst _ (it_MI hY hk n).1).trans ih
  have h2 := (it_MI (fr := fr) h1 hk (movM X.1 k).toNat).1
  have h3 := (h2.sna k hk.1 hk.2).2.1
  unfold crawl munch
  show upr _ _ _ (257 + 5 * j + 1) = _
  rw [upr_n _ _ (by omega), hit _ _ h1, come_o (by omega) (by omega)]
theorem crawl_stk {s : Int → Int} {D : Int} {k c : Int} {X : P2} (hI : MI D X.1) (hk : 0 ≤ k ∧ k < 8) (hg : 0 ≤ s (257 + 5 * k + 3) ∧ s (257 + 5 * k + 3) ≤ 80) (hH : ∀ c, 0 ≤ c → c ≤ 80 → X.1 (14 + c) = s (14 + c)) (hX : X.1 (257 + 5 * k + 1) = c) (h99 : fdst s k c = 99) : (crawl (fdst s) k X).1 (257 + 5 * k + 1) = c := by
  have hs := hI.sna k hk.1 hk.2
  have h1 := come_MI (X := X) (c := X.1 (257 + 5 * k + 1)) (law := X.1 (257 + 5 * k + 2)) hI hs.2.1 hs.2.2.1
  obtain ⟨Y, hY⟩ : ∃ Y, Y = come X (X.1 (257 + 5 * k + 1)) (X.1 (257 + 5 * k + 2)) := ⟨_, rfl⟩
  rw [← hY] at h1
  have y1 : Y.1 (257 + 5 * k + 1) = c := by rw [hY, come_o (by omega) (by omega)]; exact hX
  have yH : ∀ c, 0 ≤ c → c ≤ 80 → Y.1 (14 + c) = s (14 + c) := fun c c0 c1 => by rw [hY, come_o (by omega) (by omega)]; exact hH c c0 c1
  have hst : stepM (fdst s) k Y = Y := if_pos (stuck hg (by rw [y1, ← hX]; exact hs.2.1) yH (by rw [y1]; exact h99))
  have hit := itM_fix (fr := fdst s) (k := k) (X := Y) (Y := Y) (m := 0) rfl hst (movM X.1 k).toNat (Nat.zero_le _)
  have h3 := (h1.sna k hk.1 hk.2).2.1
  unfold crawl
  rw [← hY, hit]
  unfold munch
  show upr _ _ _ (257 + 5 * k + 1) = _
  rw [upr_n _ _ (by omega)]
  exact y1
theorem dayL_stk {s : Int → Int} {D : Int} {k c : Int} {th : Int → Bool} (hk : 0 ≤ k ∧ k < 8) (hg : 0 ≤ s (257 + 5 * k + 3) ∧ s (257 + 5 * k + 3) ≤ 80) (h99 : fdst s k c = 99) : ∀ (n : Nat) (j : Int) (X : P2), MI D X.1 → 0 ≤ j → (∀ c, 0 ≤ c → c ≤ 80 → X.1 (14 + c) = s (14 + c)) → X.1 (257 + 5 * k + 1) = c → (dayL (fdst s) th n j X).1 (257 + 5 * k + 1) = c
  | 0, _, _, _, _, _, h => h
  | n + 1, j, X, hI, hj, hH, h => by
    have hm := hI.many
    unfold dayL
    split
    · rename_i hlt
      by_cases ht : th j = true
      · rw [if_pos ht]
        obtain ⟨h1, h2⟩ := crawl_MI (fr := fdst s) (k := j) hI (by omega)
        refine dayL_stk hk hg h99 n (j + 1) _ h1 (by omega) (fun c c0 c1 => by rw [h2 _ (kept_lo (by omega))]; exact hH c c0 c1) ?_
        by_cases e : j = k
        · subst e; exact crawl_stk hI hk hg hH h h99
        · rw [crawl_AT hI (by omega) hk (fun q => e q.symm)]; exact h
      · rw [if_neg ht]
        exact dayL_stk hk hg h99 n (j + 1) X hI (by omega) hH h
    · exact h
theorem dysM_stk {s : Int → Int} {k c : Int} {X : P2} (hX : HX s X) (hk : 0 ≤ k ∧ k < 8) (hg : 0 ≤ s (257 + 5 * k + 3) ∧ s (257 + 5 * k + 3) ≤ 80) (h99 : fdst s k c = 99) (h : X.1 (257 + 5 * k + 1) = c) : ∀ n : Nat, (dysM (fdst s) th1 n X).1 (257 + 5 * k + 1) = c
  | 0 => h
  | n + 1 => by
    obtain ⟨x1, x2, x3, x4⟩ := hX.at (th := th1) n
    have e : (dysM (fdst s) th1 (n + 1) X).1 (257 + 5 * k + 1) = (dayL (fdst s) th1 9 0 (dysM (fdst s) th1 n X)).1 (257 + 5 * k + 1) := by
      show upr _ 0 _ _ = _
      rw [upr_n _ _ (by omega)]
    rw [e]
    exact dayL_stk hk hg h99 9 0 _ x1 (by omega) x3 (dysM_stk hX hk hg h99 h n)
theorem firstD_no {p : Nat → Bool} : ∀ n i : Nat, (∀ j, p j = false) → firstD p n i = i + n
  | 0, i, _ => rfl
  | n + 1, i, h => by
    rw [firstD, if_neg (by rw [h i]; decide), firstD_no n (i + 1) h]
    omega
/-- it never comes from there -/
theorem far99 {s : Int → Int} {k c : Int} {n : Nat} (hI : MI 99999 s) (hk : 0 ≤ k ∧ k < 8) (hc : 0 ≤ c ∧ c ≤ 80) (h99 : fdst s k c = 99) (hne : c ≠ s (257 + 5 * k + 3)) : ¬ gatD (upr s (257 + 5 * k + 1) c) k n ≤ n := by
  have hs := hI.sna k hk.1 hk.2
  have e : gatD (upr s (257 + 5 * k + 1) c) k n = n + 1 := by
    unfold gatD
    rw [firstD_no (n + 1) 0 (fun j => ?_)]
    · omega
    · rw [dys_X (fdst_s hk.1 (Or.inr rfl)) (fun _ => 0) j]
      have h1 := dysM_stk (HX.a hI hk hc (fun _ => 0)) hk hs.2.2.2.1 h99 (upr_s s _ _) j
      rw [h1, upr_n _ _ (show (257 + 5 * k + 3 : Int) ≠ 257 + 5 * k + 1 by omega)]
      exact decide_eq_false hne
  omega
