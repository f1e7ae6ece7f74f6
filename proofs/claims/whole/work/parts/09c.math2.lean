/-! PURE: a snail's day and the days, as functions on the row of the republic and the row of the clashes -/
abbrev P2 : Type := (Int → Int) × (Int → Int)
def mk2 (iv : Mm) (X : P2) : Mm := setr (setr iv 62 X.1) 69 X.2
theorem mk2_62 (iv : Mm) (X : P2) : mk2 iv X 62 = X.1 := rfl
theorem mk2_69 (iv : Mm) (X : P2) : mk2 iv X 69 = X.2 := rfl
theorem mk2_n {q : Nat} (iv : Mm) (X : P2) (h1 : q ≠ 62) (h2 : q ≠ 69) : mk2 iv X q = iv q := by
  unfold mk2
  rw [setr_n _ _ h2, setr_n _ _ h1]
theorem mk2_self (iv : Mm) : mk2 iv (iv 62, iv 69) = iv := by
  funext q
  by_cases h1 : q = 62
  · subst h1; rfl
  · by_cases h2 : q = 69
    · subst h2; rfl
    · exact mk2_n _ _ h1 h2
theorem mk2_up62 (iv : Mm) (X : P2) (a x : Int) : up (mk2 iv X) 62 a x = mk2 iv (upr X.1 a x, X.2) := by
  funext q
  by_cases h1 : q = 62
  · subst h1; rfl
  · rw [up_n _ _ _ h1]
    by_cases h2 : q = 69
    · subst h2; rfl
    · rw [mk2_n _ _ h1 h2, mk2_n _ _ h1 h2]
theorem mk2_up69 (iv : Mm) (X : P2) (a x : Int) : up (mk2 iv X) 69 a x = mk2 iv (X.1, upr X.2 a x) := by
  funext q
  by_cases h1 : q = 69
  · subst h1; rfl
  · rw [up_n _ _ _ h1]
    by_cases h2 : q = 62
    · subst h2; rfl
    · rw [mk2_n _ _ h2 h1, mk2_n _ _ h2 h1]
/-- what holds of the republic's numbers: every one is in its range; DAY is at most D -/
def MI (D : Int) (s : Int → Int) : Prop := (0 ≤ s 0 ∧ s 0 ≤ D) ∧ (0 ≤ s 1 ∧ s 1 ≤ 99999) ∧ (0 ≤ s 2 ∧ s 2 ≤ 8) ∧ (0 ≤ s 4 ∧ s 4 ≤ 9) ∧ (0 ≤ s 5 ∧ s 5 ≤ 20) ∧ (∀ j, 0 ≤ j → j < 8 → 0 ≤ s (6 + j) ∧ s (6 + j) ≤ 255)
  ∧ (∀ c, 0 ≤ c → c ≤ 80 → (0 ≤ s (14 + c) ∧ s (14 + c) ≤ 1) ∧ (0 ≤ s (95 + c) ∧ s (95 + c) ≤ 9) ∧ (-1 ≤ s (176 + c) ∧ s (176 + c) ≤ 7))
  ∧ (∀ k, 0 ≤ k → k < 8 → (0 ≤ s (257 + 5 * k + 0) ∧ s (257 + 5 * k + 0) ≤ 6) ∧ (0 ≤ s (257 + 5 * k + 1) ∧ s (257 + 5 * k + 1) ≤ 80) ∧ (0 ≤ s (257 + 5 * k + 2) ∧ s (257 + 5 * k + 2) ≤ 7) ∧ (0 ≤ s (257 + 5 * k + 3) ∧ s (257 + 5 * k + 3) ≤ 80) ∧ (0 ≤ s (257 + 5 * k + 4) ∧ s (257 + 5 * k + 4) ≤ 99))
  ∧ ∀ j, 0 ≤ j → j < 10 → -1 ≤ s (297 + j) ∧ s (297 + j) < s 2
theorem MI.day {D : Int} {s : Int → Int} (h : MI D s) : 0 ≤ s 0 ∧ s 0 ≤ D := h.1
theorem MI.cla {D : Int} {s : Int → Int} (h : MI D s) : 0 ≤ s 1 ∧ s 1 ≤ 99999 := h.2.1
theorem MI.many {D : Int} {s : Int → Int} (h : MI D s) : 0 ≤ s 2 ∧ s 2 ≤ 8 := h.2.2.1
theorem MI.wet {D : Int} {s : Int → Int} (h : MI D s) : 0 ≤ s 4 ∧ s 4 ≤ 9 := h.2.2.2.1
theorem MI.thr {D : Int} {s : Int → Int} (h : MI D s) : 0 ≤ s 5 ∧ s 5 ≤ 20 := h.2.2.2.2.1
theorem MI.ban {D : Int} {s : Int → Int} (h : MI D s) : ∀ j, 0 ≤ j → j < 8 → 0 ≤ s (6 + j) ∧ s (6 + j) ≤ 255 := h.2.2.2.2.2.1
theorem MI.cel {D : Int} {s : Int → Int} (h : MI D s) : ∀ c, 0 ≤ c → c ≤ 80 → (0 ≤ s (14 + c) ∧ s (14 + c) ≤ 1) ∧ (0 ≤ s (95 + c) ∧ s (95 + c) ≤ 9) ∧ (-1 ≤ s (176 + c) ∧ s (176 + c) ≤ 7) := h.2.2.2.2.2.2.1
theorem MI.sna {D : Int} {s : Int → Int} (h : MI D s) : ∀ k, 0 ≤ k → k < 8 → (0 ≤ s (257 + 5 * k + 0) ∧ s (257 + 5 * k + 0) ≤ 6) ∧ (0 ≤ s (257 + 5 * k + 1) ∧ s (257 + 5 * k + 1) ≤ 80) ∧ (0 ≤ s (257 + 5 * k + 2) ∧ s (257 + 5 * k + 2) ≤ 7) ∧ (0 ≤ s (257 + 5 * k + 3) ∧ s (257 + 5 * k + 3) ≤ 80) ∧ (0 ≤ s (257 + 5 * k + 4) ∧ s (257 + 5 * k + 4) ≤ 99) := h.2.2.2.2.2.2.2.1
theorem MI.spo {D : Int} {s : Int → Int} (h : MI D s) : ∀ j, 0 ≤ j → j < 10 → -1 ≤ s (297 + j) ∧ s (297 + j) < s 2 := h.2.2.2.2.2.2.2.2
theorem MI.mono {D E : Int} {s : Int → Int} (h : MI D s) (hDE : D ≤ E) : MI E s := ⟨⟨h.1.1, by have := h.1.2; omega⟩, h.2⟩
/-- one number of the row becomes another that is in range there -/
theorem MI.upd {D : Int} {s : Int → Int} (h : MI D s) {a x : Int}
    (h0 : a = 0 → 0 ≤ x ∧ x ≤ D) (h1 : a = 1 → 0 ≤ x ∧ x ≤ 99999) (h2 : a ≠ 2) (h4 : a = 4 → 0 ≤ x ∧ x ≤ 9) (h5 : a = 5 → 0 ≤ x ∧ x ≤ 20) (h6 : ∀ j, 0 ≤ j → j < 8 → a = 6 + j → 0 ≤ x ∧ x ≤ 255)
    (hc : ∀ c, 0 ≤ c → c ≤ 80 → (a = 14 + c → 0 ≤ x ∧ x ≤ 1) ∧ (a = 95 + c → 0 ≤ x ∧ x ≤ 9) ∧ (a = 176 + c → -1 ≤ x ∧ x ≤ 7))
    (hk : ∀ k, 0 ≤ k → k < 8 → (a = 257 + 5 * k + 0 → 0 ≤ x ∧ x ≤ 6) ∧ (a = 257 + 5 * k + 1 → 0 ≤ x ∧ x ≤ 80) ∧ (a = 257 + 5 * k + 2 → 0 ≤ x ∧ x ≤ 7) ∧ (a = 257 + 5 * k + 3 → 0 ≤ x ∧ x ≤ 80) ∧ (a = 257 + 5 * k + 4 → 0 ≤ x ∧ x ≤ 99))
    (hj : ∀ j, 0 ≤ j → j < 10 → a = 297 + j → -1 ≤ x ∧ x < s 2) : MI D (upr s a x) := by
  have e : ∀ b : Int, ∀ P : Int → Prop, (a = b → P x) → P (s b) → P (upr s a x b) := by
    intro b P p1 p2
    unfold upr
    split
    · rename_i hb; exact p1 hb.symm
    · exact p2
  refine ⟨e 0 (fun z => 0 ≤ z ∧ z ≤ D) h0 h.day, e 1 (fun z => 0 ≤ z ∧ z ≤ 99999) h1 h.cla, e 2 (fun z => 0 ≤ z ∧ z ≤ 8) (fun q => absurd q h2) h.many, e 4 (fun z => 0 ≤ z ∧ z ≤ 9) h4 h.wet, e 5 (fun z => 0 ≤ z ∧ z ≤ 20) h5 h.thr, fun j z1 z2 => e (6 + j) (fun z => 0 ≤ z ∧ z ≤ 255) (h6 j z1 z2) (h.ban j z1 z2), fun c z1 z2 => ⟨?_, ?_, ?_⟩, fun k z1 z2 => ⟨?_, ?_, ?_, ?_, ?_⟩, fun j z1 z2 => ?_⟩
  · exact e (14 + c) (fun z => 0 ≤ z ∧ z ≤ 1) (hc c z1 z2).1 (h.cel c z1 z2).1
  · exact e (95 + c) (fun z => 0 ≤ z ∧ z ≤ 9) (hc c z1 z2).2.1 (h.cel c z1 z2).2.1
  · exact e (176 + c) (fun z => -1 ≤ z ∧ z ≤ 7) (hc c z1 z2).2.2 (h.cel c z1 z2).2.2
  · exact e _ (fun z => 0 ≤ z ∧ z ≤ 6) (hk k z1 z2).1 (h.sna k z1 z2).1
  · exact e _ (fun z => 0 ≤ z ∧ z ≤ 80) (hk k z1 z2).2.1 (h.sna k z1 z2).2.1
  · exact e _ (fun z => 0 ≤ z ∧ z ≤ 7) (hk k z1 z2).2.2.1 (h.sna k z1 z2).2.2.1
  · exact e _ (fun z => 0 ≤ z ∧ z ≤ 80) (hk k z1 z2).2.2.2.1 (h.sna k z1 z2).2.2.2.1
  · exact e _ (fun z => 0 ≤ z ∧ z ≤ 99) (hk k z1 z2).2.2.2.2 (h.sna k z1 z2).2.2.2.2
  · rw [upr_n s x (show (2 : Int) ≠ a from fun q => h2 q.symm)]
    exact e (297 + j) (fun z => -1 ≤ z ∧ z < s 2) (hj j z1 z2) (h.spo j z1 z2)
/-- a cell comes under a law -/
def come (X : P2) (c law : Int) : P2 :=
  (upr (if 0 ≤ X.1 (176 + c) ∧ X.1 (176 + c) ≠ law then upr X.1 1 (X.1 1 + (if X.1 1 < 99999 then 1 else 0)) else X.1) (176 + c) law,
   if 0 ≤ X.1 (176 + c) ∧ X.1 (176 + c) ≠ law then upr X.2 c (X.2 c + 1) else X.2)
theorem come_o {X : P2} {c law j : Int} (h1 : j ≠ 1) (h2 : j ≠ 176 + c) : (come X c law).1 j = X.1 j := by
  unfold come
  show upr _ _ _ j = _
  rw [upr_n _ _ h2]
  split
  · rw [upr_n _ _ h1]
  · rfl
theorem come_MI {D : Int} {X : P2} {c law : Int} (h : MI D X.1) (hc : 0 ≤ c ∧ c ≤ 80) (hl : 0 ≤ law ∧ law ≤ 7) : MI D (come X c law).1 := by
  unfold come
  show MI D (upr _ _ _)
  have h1 : MI D (if 0 ≤ X.1 (176 + c) ∧ X.1 (176 + c) ≠ law then upr X.1 1 (X.1 1 + (if X.1 1 < 99999 then 1 else 0)) else X.1) := by
    split
    · have := h.cla
      refine h.upd (by omega) (fun _ => by split <;> omega) (by omega) (by omega) (by omega) (by omega) (fun c _ _ => ⟨by omega, by omega, by omega⟩) (fun k _ _ => ⟨by omega, by omega, by omega, by omega, by omega⟩) (by omega)
    · exact h
  refine h1.upd (by omega) (by omega) (by omega) (by omega) (by omega) (by omega) (fun c _ _ => ⟨by omega, by omega, by omega⟩) (fun k _ _ => ⟨by omega, by omega, by omega, by omega, by omega⟩) (by omega)
/-- MOVES of a snail -/
def movM (s : Int → Int) (k : Int) : Int :=
  if s (257 + 5 * k + 0) = 1 then (if 0 < s (95 + s (257 + 5 * k + 1)) then 0 else s 4 / 5 + 1)
  else if s (257 + 5 * k + 0) = 2 then s 4 / 5 + 1 - 1
  else if s (257 + 5 * k + 0) = 3 then (if s 0 % 2 = 0 then s 4 / 5 + 1 - 1 else 0)
  else if s (257 + 5 * k + 0) = 4 then (if s 0 % 2 = 0 then s 4 / 5 + 1 - 1 else 0) + (if s 0 % 5 = 0 then 1 else 0)
  else if s (257 + 5 * k + 0) = 5 then 3
  else if s (257 + 5 * k + 0) = 6 then (if 0 < s (95 + s (257 + 5 * k + 1)) then 0 else 2 * (s 4 / 5 + 1))
  else s 4 / 5 + 1
theorem movM_rng {D : Int} {s : Int → Int} {k : Int} (h : MI D s) : 0 ≤ movM s k ∧ movM s k ≤ 4 := by
  have := h.wet
  unfold movM
  repeat' split
  all_goals omega
/-- one way tried: the cell beside, if it is less far from the gate -/
def nx1 (fr : Int → Int → Int) (k at_ w t : Int) : Int := if 0 ≤ besM at_ w ∧ fr k (besM at_ w) < fr k at_ then besM at_ w else t
def nxtM (fr : Int → Int → Int) (s : Int → Int) (k : Int) : Int :=
  if s (14 + s (257 + 5 * k + 1)) = 1 then s (257 + 5 * k + 1)
  else nx1 fr k (s (257 + 5 * k + 1)) 0 (nx1 fr k (s (257 + 5 * k + 1)) 1 (nx1 fr k (s (257 + 5 * k + 1)) 2 (nx1 fr k (s (257 + 5 * k + 1)) 3 (s (257 + 5 * k + 1)))))
theorem nx1_rng {fr : Int → Int → Int} {k a w t : Int} (ha : 0 ≤ a ∧ a ≤ 80) (ht : 0 ≤ t ∧ t ≤ 80) : 0 ≤ nx1 fr k a w t ∧ nx1 fr k a w t ≤ 80 := by
  unfold nx1
  have := besM_rng (w := w) ha
  split <;> omega
theorem nxtM_rng {fr : Int → Int → Int} {s : Int → Int} {k : Int} (ha : 0 ≤ s (257 + 5 * k + 1) ∧ s (257 + 5 * k + 1) ≤ 80) : 0 ≤ nxtM fr s k ∧ nxtM fr s k ≤ 80 := by
  unfold nxtM
  split
  · exact ha
  · exact nx1_rng ha (nx1_rng ha (nx1_rng ha (nx1_rng ha ha)))
def stepM (fr : Int → Int → Int) (k : Int) (X : P2) : P2 :=
  if nxtM fr X.1 k = X.1 (257 + 5 * k + 1) then X else come (upr X.1 (257 + 5 * k + 1) (nxtM fr X.1 k), X.2) (nxtM fr X.1 k) (X.1 (257 + 5 * k + 2))
def itM (fr : Int → Int → Int) (k : Int) : Nat → P2 → P2
  | 0, X => X
  | n + 1, X => stepM fr k (itM fr k n X)
def munch (k : Int) (X : P2) : P2 :=
  (upr X.1 (95 + X.1 (257 + 5 * k + 1)) (X.1 (95 + X.1 (257 + 5 * k + 1)) - (if (X.1 (257 + 5 * k + 0) = 1 ∨ X.1 (257 + 5 * k + 0) = 6) ∧ 0 < X.1 (95 + X.1 (257 + 5 * k + 1)) then 1 else 0)), X.2)
def crawl (fr : Int → Int → Int) (k : Int) (X : P2) : P2 :=
  munch k (itM fr k (movM X.1 k).toNat (come X (X.1 (257 + 5 * k + 1)) (X.1 (257 + 5 * k + 2))))
/-- the snails of a set, from number k on -/
def dayL (fr : Int → Int → Int) (th : Int → Bool) : Nat → Int → P2 → P2
  | 0, _, X => X
  | n + 1, k, X => if k < X.1 2 then dayL fr th n (k + 1) (if th k = true then crawl fr k X else X) else X
def dayM (fr : Int → Int → Int) (th : Int → Bool) (X : P2) : P2 := (upr (dayL fr th 9 0 X).1 0 ((dayL fr th 9 0 X).1 0 + 1), (dayL fr th 9 0 X).2)
def dysM (fr : Int → Int → Int) (th : Int → Bool) : Nat → P2 → P2
  | 0, X => X
  | n + 1, X => dayM fr th (dysM fr th n X)
/-- what a snail's day leaves as it was: all but DAY's own, CLASHES, greens, laws, and where snails are -/
def kept (j : Int) : Prop := j ≠ 0 ∧ j ≠ 1 ∧ ¬ (95 ≤ j ∧ j < 257) ∧ ∀ k : Int, 0 ≤ k → k < 8 → j ≠ 257 + 5 * k + 1
theorem come_kept {X : P2} {c law j : Int} (hc : 0 ≤ c ∧ c ≤ 80) (hj : kept j) : (come X c law).1 j = X.1 j := come_o hj.2.1 (by have := hj.2.2.1; omega)
theorem step_at {X : P2} {k j : Int} (x : Int) (hk : 0 ≤ k ∧ k < 8) (hj : kept j) : upr X.1 (257 + 5 * k + 1) x j = X.1 j := upr_n _ _ (hj.2.2.2 k hk.1 hk.2)
theorem kept_s {k f : Int} (hk : 0 ≤ k ∧ k < 8) (hf : f = 0 ∨ f = 2 ∨ f = 3 ∨ f = 4) : kept (257 + 5 * k + f) := by
  refine ⟨by omega, by omega, by omega, fun i h1 h2 => by omega⟩
theorem kept_lo {j : Int} (h : 2 ≤ j ∧ j < 95) : kept j := ⟨by omega, by omega, by omega, fun i h1 h2 => by omega⟩
theorem kept_hi {j : Int} (h : 297 ≤ j) : kept j := ⟨by omega, by omega, by omega, fun i h1 h2 => by omega⟩
theorem come_at {X : P2} {c law k f : Int} (hc : 0 ≤ c ∧ c ≤ 80) (hk : 0 ≤ k ∧ k < 8) (hf : 0 ≤ f ∧ f ≤ 4) : (come X c law).1 (257 + 5 * k + f) = X.1 (257 + 5 * k + f) := come_o (by omega) (by omega)
theorem step_MI {D : Int} {fr : Int → Int → Int} {k : Int} {X : P2} (h : MI D X.1) (hk : 0 ≤ k ∧ k < 8) : MI D (stepM fr k X).1 ∧ ∀ j, kept j → (stepM fr k X).1 j = X.1 j := by
  have hs := h.sna k hk.1 hk.2
  have hn := nxtM_rng (fr := fr) hs.2.1
  unfold stepM
  split
  · exact ⟨h, fun _ _ => rfl⟩
  · refine ⟨come_MI (X := (upr X.1 _ _, X.2)) ?_ hn (by omega), fun j hj => ?_⟩
    · refine h.upd (by omega) (by omega) (by omega) (by omega) (by omega) (by omega) (fun c _ _ => ⟨by omega, by omega, by omega⟩) (fun i _ _ => ⟨by omega, fun _ => hn, by omega, by omega, by omega⟩) (by omega)
    · rw [come_kept hn hj]
      exact step_at _ hk hj
theorem it_MI {D : Int} {fr : Int → Int → Int} {k : Int} {X : P2} (h : MI D X.1) (hk : 0 ≤ k ∧ k < 8) : ∀ n : Nat, MI D (itM fr k n X).1 ∧ ∀ j, kept j → (itM fr k n X).1 j = X.1 j
  | 0 => ⟨h, fun _ _ => rfl⟩
  | n + 1 => by
    obtain ⟨h1, h2⟩ := it_MI (fr := fr) h hk n
    obtain ⟨h3, h4⟩ := step_MI (fr := fr) h1 hk
    exact ⟨h3, fun j hj => (h4 j hj).trans (h2 j hj)⟩
theorem munch_MI {D : Int} {k : Int} {X : P2} (h : MI D X.1) (hk : 0 ≤ k ∧ k < 8) : MI D (munch k X).1 ∧ ∀ j, kept j → (munch k X).1 j = X.1 j := by
  have hs := h.sna k hk.1 hk.2
  have hg := h.cel (X.1 (257 + 5 * k + 1)) hs.2.1.1 hs.2.1.2
  unfold munch
  refine ⟨?_, fun j hj => upr_n _ _ (by have := hj.2.2.1; omega)⟩
  refine h.upd (by omega) (by omega) (by omega) (by omega) (by omega) (by omega) (fun c _ _ => ⟨by omega, fun _ => by split <;> omega, by omega⟩) (fun i _ _ => ⟨by omega, by omega, by omega, by omega, by omega⟩) (by omega)
theorem crawl_MI {D : Int} {fr : Int → Int → Int} {k : Int} {X : P2} (h : MI D X.1) (hk : 0 ≤ k ∧ k < 8) : MI D (crawl fr k X).1 ∧ ∀ j, kept j → (crawl fr k X).1 j = X.1 j := by
  have hs := h.sna k hk.1 hk.2
  have h1 := come_MI (X := X) (c := X.1 (257 + 5 * k + 1)) (law := X.1 (257 + 5 * k + 2)) h hs.2.1 hs.2.2.1
  obtain ⟨h2, h3⟩ := it_MI (fr := fr) h1 hk (movM X.1 k).toNat
  obtain ⟨h4, h5⟩ := munch_MI h2 hk
  exact ⟨h4, fun j hj => (h5 j hj).trans ((h3 j hj).trans (come_kept hs.2.1 hj))⟩
theorem crawl_0 {D : Int} {fr : Int → Int → Int} {k : Int} {X : P2} (h : MI D X.1) (hk : 0 ≤ k ∧ k < 8) : (crawl fr k X).1 0 = X.1 0 := by
  have hs := h.sna k hk.1 hk.2
  have hst : ∀ Y : P2, MI D Y.1 → (stepM fr k Y).1 0 = Y.1 0 := by
    intro Y hY
    have hn := nxtM_rng (fr := fr) (hY.sna k hk.1 hk.2).2.1
    unfold stepM
    split
    · rfl
    · rw [come_o (by omega) (by omega)]
      exact upr_n _ _ (by omega)
  have hit : ∀ (n : Nat) (Y : P2), MI D Y.1 → (itM fr k n Y).1 0 = Y.1 0 := by
    intro n Y hY
    induction n with
    | zero => rfl
    | succ n ih => exact (hst _ (it_MI hY hk n).1).trans ih
  have h1 := come_MI (X := X) (c := X.1 (257 + 5 * k + 1)) (law := X.1 (257 + 5 * k + 2)) h hs.2.1 hs.2.2.1
  have h2 := (it_MI (fr := fr) h1 hk (movM X.1 k).toNat).1
  have h3 := (h2.sna k hk.1 hk.2).2.1
  unfold crawl munch
  show upr _ _ _ 0 = _
  rw [upr_n _ _ (by omega), hit _ _ h1, come_o (by omega) (by omega)]
theorem dayL_MI {D : Int} {fr : Int → Int → Int} {th : Int → Bool} : ∀ (n : Nat) (k : Int) (X : P2), MI D X.1 → 0 ≤ k → MI D (dayL fr th n k X).1 ∧ (dayL fr th n k X).1 0 = X.1 0 ∧ ∀ j, kept j → (dayL fr th n k X).1 j = X.1 j
  | 0, _, X, h, _ => ⟨h, rfl, fun _ _ => rfl⟩
  | n + 1, k, X, h, hk => by
    unfold dayL
    split
    · rename_i hlt
      have hm := h.many
      by_cases ht : th k = true
      · rw [if_pos ht]
        obtain ⟨h1, h2⟩ := crawl_MI (fr := fr) (k := k) h (by omega)
        obtain ⟨h3, h4, h5⟩ := dayL_MI (fr := fr) (th := th) n (k + 1) _ h1 (by omega)
        exact ⟨h3, h4.trans (crawl_0 h (by omega)), fun j hj => (h5 j hj).trans (h2 j hj)⟩
      · rw [if_neg ht]
        exact dayL_MI n (k + 1) X h (by omega)
    · exact ⟨h, rfl, fun _ _ => rfl⟩
theorem dayM_MI {D : Int} {fr : Int → Int → Int} {th : Int → Bool} {X : P2} (h : MI D X.1) : MI (D + 1) (dayM fr th X).1 ∧ (dayM fr th X).1 0 = X.1 0 + 1 ∧ ∀ j, kept j → (dayM fr th X).1 j = X.1 j := by
  obtain ⟨h1, h2, h3⟩ := dayL_MI (fr := fr) (th := th) 9 0 X h (by omega)
  have hd := h.day
  unfold dayM
  refine ⟨?_, ?_, fun j hj => ?_⟩
  · refine (h1.mono (show D ≤ D + 1 by omega)).upd (fun _ => by rw [h2]; omega) (by omega) (by omega) (by omega) (by omega) (by omega) (fun c _ _ => ⟨by omega, by omega, by omega⟩) (fun i _ _ => ⟨by omega, by omega, by omega, by omega, by omega⟩) (by omega)
  · show upr (dayL fr th 9 0 X).1 0 ((dayL fr th 9 0 X).1 0 + 1) 0 = X.1 0 + 1
    rw [upr_s, h2]
  · show upr (dayL fr th 9 0 X).1 0 ((dayL fr th 9 0 X).1 0 + 1) j = X.1 j
    rw [upr_n _ _ hj.1]
    exact h3 j hj
theorem dysM_MI {D : Int} {fr : Int → Int → Int} {th : Int → Bool} {X : P2} (h : MI D X.1) : ∀ n : Nat, MI (D + n) (dysM fr th n X).1 ∧ (dysM fr th n X).1 0 = X.1 0 + n ∧ ∀ j, kept j → (dysM fr th n X).1 j = X.1 j
  | 0 => ⟨h.mono (by omega), by simp [dysM], fun _ _ => rfl⟩
  | n + 1 => by
    obtain ⟨h1, h2, h3⟩ := dysM_MI (fr := fr) (th := th) h n
    obtain ⟨h4, h5, h6⟩ := dayM_MI (fr := fr) (th := th) h1
    refine ⟨h4.mono (by omega), ?_, fun j hj => (h6 j hj).trans (h3 j hj)⟩
    show (dayM fr th _).1 0 = _
    rw [h5, h2]
    omega
theorem movM_come {D : Int} {X : P2} {c law k : Int} (h : MI D X.1) (hc : 0 ≤ c ∧ c ≤ 80) (hk : 0 ≤ k ∧ k < 8) : movM (come X c law).1 k = movM X.1 k := by
  have hs := h.sna k hk.1 hk.2
  have e0 : (come X c law).1 (257 + 5 * k + 0) = X.1 (257 + 5 * k + 0) := come_o (by omega) (by omega)
  have e1 : (come X c law).1 (257 + 5 * k + 1) = X.1 (257 + 5 * k + 1) := come_o (by omega) (by omega)
  have e2 : (come X c law).1 (95 + X.1 (257 + 5 * k + 1)) = X.1 (95 + X.1 (257 + 5 * k + 1)) := come_o (by omega) (by omega)
  have e3 : (come X c law).1 4 = X.1 4 := come_o (by omega) (by omega)
  have e4 : (come X c law).1 0 = X.1 0 := come_o (by omega) (by omega)
  simp only [movM, e0, e1, e2, e3, e4]
/-- how far the cells are from a snail's gate, over the land of a row -/
def opH (s : Int → Int) (c : Int) : Bool := decide (c < 0 ∨ 80 < c ∨ s (14 + c) ≠ 1)
theorem opH_b {s : Int → Int} {c : Int} (h : 0 ≤ c ∧ c ≤ 80) : b2 (s (14 + c) = 1) = (if opH s c = true then 0 else 1) := by
  by_cases hh : s (14 + c) = 1
  · rw [b2_t hh, if_neg (fun z : opH s c = true => by have := of_decide_eq_true z; omega)]
  · rw [b2_f hh, if_pos (show opH s c = true from decide_eq_true (Or.inr (Or.inr hh)))]
theorem opH_upr {s : Int → Int} {a x : Int} (h : a < 14 ∨ 94 < a) : opH (upr s a x) = opH s := by
  funext c
  unfold opH
  by_cases hc : c < 0 ∨ 80 < c
  · rw [decide_eq_true (show c < 0 ∨ 80 < c ∨ upr s a x (14 + c) ≠ 1 by omega), decide_eq_true (show c < 0 ∨ 80 < c ∨ s (14 + c) ≠ 1 by omega)]
  · rw [upr_n _ _ (by omega)]
def fdst (s : Int → Int) (k c : Int) : Int := dst (opH s) (s (257 + 5 * k + 3)) c
theorem fdst_rng {D : Int} {s : Int → Int} {k : Int} (h : MI D s) (hk : 0 ≤ k ∧ k < 8) (c : Int) : 0 ≤ fdst s k c ∧ fdst s k c ≤ 99 := dst_rng (h.sna k hk.1 hk.2).2.2.2.1 c
def bit (s k : Int) : Prop := s / 2 ^ k.toNat % 2 = 1
/-- row 66 holds the ways that fr tells, of the snails below m -/
def FarOK (iv : Mm) (fr : Int → Int → Int) (m : Int) : Prop := ∀ k c, 0 ≤ k → k < m → 0 ≤ c → c ≤ 80 → iv 66 (81 * k + c) = fr k c ∧ 0 ≤ fr k c ∧ fr k c ≤ 99
theorem fdst_upr {s : Int → Int} {a x k c : Int} (h : a < 14 ∨ 94 < a) (hk : a ≠ 257 + 5 * k + 3) : fdst (upr s a x) k c = fdst s k c := by
  unfold fdst
  rw [opH_upr h, upr_n _ _ (fun z => hk z.symm)]
