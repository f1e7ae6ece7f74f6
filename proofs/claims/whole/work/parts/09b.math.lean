/-! PURE: rows, and what the reference's parts do, as functions on rows -/
def setr (iv : Mm) (q : Nat) (f : Int → Int) : Mm := fun c => if c = q then f else iv c
theorem setr_s (iv : Mm) (q : Nat) (f : Int → Int) : setr iv q f q = f := if_pos rfl
theorem setr_n {c q : Nat} (iv : Mm) (f : Int → Int) (h : c ≠ q) : setr iv q f c = iv c := if_neg h
theorem up_set (iv : Mm) (q : Nat) (a x : Int) : up iv q a x = setr iv q (upr (iv q) a x) := rfl
/-- the cell beside one, as the reference tells it -/
def besM (c w : Int) : Int := if w = 0 then c - 9 else if w = 1 then (if c % 9 = 8 then -1 else c + 1) else if w = 2 then (if c + 9 < 81 then c + 9 else -1) else (if c % 9 = 0 then -1 else c - 1)
theorem besM_rng {c w : Int} (hc : 0 ≤ c ∧ c ≤ 80) : -9 ≤ besM c w ∧ besM c w ≤ 80 := by
  unfold besM
  split
  · omega
  · split
    · split <;> omega
    · split
      · split <;> omega
      · split <;> omega
-- breadth first
abbrev T3 : Type := (Int → Int) × (Int → Int) × Int
def rlx (op : Int → Bool) (i w : Int) (T : T3) : T3 :=
  if 0 ≤ besM (T.2.1 i) w ∧ op (besM (T.2.1 i) w) = true ∧ T.1 (besM (T.2.1 i) w) = 99 then (upr T.1 (besM (T.2.1 i) w) (T.1 (T.2.1 i) + 1), upr T.2.1 T.2.2 (besM (T.2.1 i) w), T.2.2 + 1) else T
def vis (op : Int → Bool) (i : Int) (T : T3) : T3 := rlx op i 3 (rlx op i 2 (rlx op i 1 (rlx op i 0 T)))
def bfsL (op : Int → Bool) : Nat → Int → T3 → T3
  | 0, _, T => T
  | n + 1, i, T => if i < T.2.2 then bfsL op n (i + 1) (vis op i T) else T
def bfs0 (op : Int → Bool) (fr : Int) : T3 := if op fr = true then (upr (fun _ => 99) fr 0, upr (fun _ => 0) 0 fr, 1) else (fun _ => 99, fun _ => 0, 0)
def dst (op : Int → Bool) (fr : Int) : Int → Int := (bfsL op 82 0 (bfs0 op fr)).1
def cnt (f : Int → Int) : Nat → Int
  | 0 => 0
  | n + 1 => cnt f n + (if f n = 99 then 0 else 1)
theorem cnt_le (f : Int → Int) : ∀ n : Nat, 0 ≤ cnt f n ∧ cnt f n ≤ n
  | 0 => by simp [cnt]
  | n + 1 => by
    have h := cnt_le f n
    unfold cnt
    split <;> omega
theorem cnt_upr (f : Int → Int) (c x : Int) (hx : x ≠ 99) (hf : f c = 99) : ∀ n : Nat, cnt (upr f c x) n = cnt f n + (if 0 ≤ c ∧ c < n then 1 else 0)
  | 0 => by
    unfold cnt
    rw [if_neg (by omega)]
    rfl
  | n + 1 => by
    have h := cnt_upr f c x hx hf n
    unfold cnt
    rw [h]
    by_cases hc : (n : Int) = c
    · subst hc
      rw [upr_s, if_neg hx, hf, if_pos rfl, if_neg (by omega), if_pos (by omega)]
    · rw [upr_n _ _ hc]
      by_cases h2 : 0 ≤ c ∧ c < n
      · have hq : 0 ≤ c ∧ c < ((n + 1 : Nat) : Int) := by omega
        rw [if_pos h2, if_pos hq]; omega
      · have hq : ¬ (0 ≤ c ∧ c < ((n + 1 : Nat) : Int)) := by omega
        rw [if_neg h2, if_neg hq]; omega
theorem cnt_lt (f : Int → Int) (c : Int) (hf : f c = 99) : ∀ n : Nat, (0 ≤ c ∧ c < n) → cnt f n < n
  | 0, h => by omega
  | n + 1, h => by
    unfold cnt
    by_cases hc : (n : Int) = c
    · subst hc
      rw [if_pos hf]
      have := cnt_le f n
      omega
    · have := cnt_lt f c hf n (by omega)
      split <;> omega
theorem cnt_99 : ∀ n : Nat, cnt (fun _ => 99) n = 0
  | 0 => rfl
  | n + 1 => by
    unfold cnt
    rw [cnt_99 n, if_pos rfl]
    rfl
/-- what holds of a breadth first search under way -/
def BI (T : T3) : Prop := T.2.2 = cnt T.1 81 ∧ (∀ j, 0 ≤ j → j < T.2.2 → (0 ≤ T.2.1 j ∧ T.2.1 j ≤ 80) ∧ 0 ≤ T.1 (T.2.1 j) ∧ T.1 (T.2.1 j) ≤ j) ∧ ∀ c, 0 ≤ T.1 c ∧ T.1 c ≤ 99
theorem BI.m {T : T3} (h : BI T) : 0 ≤ T.2.2 ∧ T.2.2 ≤ 81 := by
  have := cnt_le T.1 81
  have h1 := h.1
  omega
theorem rlx_BI {op : Int → Bool} {i w : Int} {T : T3} (h : BI T) (hi : 0 ≤ i ∧ i < T.2.2) : BI (rlx op i w T) ∧ T.2.2 ≤ (rlx op i w T).2.2 ∧ (∀ j, 0 ≤ j → j < T.2.2 → (rlx op i w T).2.1 j = T.2.1 j) ∧ ∀ c, T.1 c ≠ 99 → (rlx op i w T).1 c = T.1 c := by
  unfold rlx
  have hm := h.m
  have hoi := h.2.1 i hi.1 hi.2
  have hb := besM_rng (w := w) hoi.1
  split
  · rename_i hc
    obtain ⟨h0, h1, h2⟩ := hc
    refine ⟨⟨?_, fun j hj0 hj1 => ?_, fun c => ?_⟩, ?_, fun j hj0 hj1 => ?_, fun c hc => ?_⟩
    · show T.2.2 + 1 = cnt (upr T.1 _ _) 81
      rw [cnt_upr _ _ _ (by omega) h2, if_pos (by omega), ← h.1]
    · show (0 ≤ upr T.2.1 T.2.2 _ j ∧ _) ∧ _
      have hj1 : j < T.2.2 + 1 := hj1
      by_cases hj : j = T.2.2
      · subst hj
        simp only [upr_s]
        omega
      · have hj2 := h.2.1 j hj0 (by omega)
        simp only [upr_n _ _ hj]
        have : T.2.1 j ≠ besM (T.2.1 i) w := fun q => by rw [q, h2] at hj2; omega
        rw [upr_n _ _ this]
        exact hj2
    · show 0 ≤ upr T.1 _ _ c ∧ upr T.1 _ _ c ≤ 99
      by_cases hc : c = besM (T.2.1 i) w
      · subst hc
        rw [upr_s]
        omega
      · rw [upr_n _ _ hc]
        exact h.2.2 c
    · show T.2.2 ≤ T.2.2 + 1
      omega
    · show upr T.2.1 T.2.2 _ j = _
      rw [upr_n _ _ (by omega)]
    · show upr T.1 _ _ c = _
      rw [upr_n _ _ (fun q => hc (by rw [q]; exact h2))]
  · exact ⟨h, Int.le_refl _, fun _ _ _ => rfl, fun _ _ => rfl⟩
theorem vis_BI {op : Int → Bool} {i : Int} {T : T3} (h : BI T) (hi : 0 ≤ i ∧ i < T.2.2) : BI (vis op i T) ∧ T.2.2 ≤ (vis op i T).2.2 ∧ (∀ j, 0 ≤ j → j < T.2.2 → (vis op i T).2.1 j = T.2.1 j) ∧ ∀ c, T.1 c ≠ 99 → (vis op i T).1 c = T.1 c := by
  obtain ⟨a1, b1, c1, d1⟩ := rlx_BI (op := op) (w := 0) h hi
  obtain ⟨a2, b2, c2, d2⟩ := rlx_BI (op := op) (w := 1) a1 (i := i) (by omega)
  obtain ⟨a3, b3, c3, d3⟩ := rlx_BI (op := op) (w := 2) a2 (i := i) (by omega)
  obtain ⟨a4, b4, c4, d4⟩ := rlx_BI (op := op) (w := 3) a3 (i := i) (by omega)
  refine ⟨a4, by show _ ≤ (rlx op i 3 _).2.2; omega, fun j h0 h1 => ?_, fun c hc => ?_⟩
  · exact (c4 j h0 (by omega)).trans ((c3 j h0 (by omega)).trans ((c2 j h0 (by omega)).trans (c1 j h0 h1)))
  · have e1 := d1 c hc
    have e2 := d2 c (by rw [e1]; exact hc)
    have e3 := d3 c (by rw [e2, e1]; exact hc)
    have e4 := d4 c (by rw [e3, e2, e1]; exact hc)
    exact e4.trans (e3.trans (e2.trans e1))
theorem bfs0_BI {op : Int → Bool} {fr : Int} (hf : 0 ≤ fr ∧ fr ≤ 80) : BI (bfs0 op fr) := by
  unfold bfs0
  split
  · refine ⟨?_, fun j h0 h1 => ?_, fun c => ?_⟩
    · show (1 : Int) = cnt (upr _ _ _) 81
      rw [cnt_upr _ _ _ (by omega) rfl, cnt_99, if_pos (by omega)]
      rfl
    · have h1 : j < 1 := h1
      have : j = 0 := by omega
      subst this
      simp only [upr_s]
      omega
    · show 0 ≤ upr (fun _ => 99) fr 0 c ∧ upr (fun _ => 99) fr 0 c ≤ 99
      simp only [upr]
      split <;> omega
  · refine ⟨?_, fun j h0 h1 => ?_, fun c => ?_⟩
    · show (0 : Int) = cnt _ 81
      rw [cnt_99]
    · have h1 : j < 0 := h1
      omega
    · show (0 : Int) ≤ 99 ∧ (99 : Int) ≤ 99
      omega
theorem bfsL_BI {op : Int → Bool} : ∀ (n : Nat) (i : Int) (T : T3), BI T → 0 ≤ i → BI (bfsL op n i T)
  | 0, _, _, h, _ => h
  | n + 1, i, T, h, hi => by
    unfold bfsL
    split
    · rename_i hc
      exact bfsL_BI n (i + 1) _ (vis_BI h ⟨hi, hc⟩).1 (by omega)
    · exact h
theorem dst_rng {op : Int → Bool} {fr : Int} (hf : 0 ≤ fr ∧ fr ≤ 80) (c : Int) : 0 ≤ dst op fr c ∧ dst op fr c ≤ 99 := (bfsL_BI 82 0 _ (bfs0_BI hf) (by omega)).2.2 c
