/-! the class: how its rows tell the state (printed by wip/whole/m_c1.py) -/
/-- row o of a republic, place i, tells number t -/
def Pl (o : Nat) (i t : Int) : Prop := (o = 0 ∧ i = 11 ∧ t = 2) ∨ (o = 0 ∧ i = 12 ∧ t = 4) ∨ (o = 0 ∧ i = 13 ∧ t = 5) ∨ (o = 0 ∧ i = 14 ∧ t = 0) ∨ (o = 0 ∧ i = 15 ∧ t = 1) ∨ (o = 0 ∧ i = 16 ∧ t = 3) ∨ (o = 1 ∧ 0 ≤ i ∧ i < 81 ∧ t = 14 + i) ∨ (o = 2 ∧ 0 ≤ i ∧ i < 81 ∧ t = 95 + i) ∨ (o = 3 ∧ 0 ≤ i ∧ i < 81 ∧ t = 176 + i) ∨ (o = 5 ∧ 0 ≤ i ∧ i < 8 ∧ t = 6 + i) ∨ (o = 6 ∧ 0 ≤ i ∧ i < 8 ∧ t = 257 + 5 * i + 0) ∨ (o = 7 ∧ 0 ≤ i ∧ i < 8 ∧ t = 257 + 5 * i + 1) ∨ (o = 8 ∧ 0 ≤ i ∧ i < 8 ∧ t = 257 + 5 * i + 2) ∨ (o = 9 ∧ 0 ≤ i ∧ i < 8 ∧ t = 257 + 5 * i + 3) ∨ (o = 10 ∧ 0 ≤ i ∧ i < 8 ∧ t = 257 + 5 * i + 4) ∨ (o = 11 ∧ 0 ≤ i ∧ i < 10 ∧ t = 297 + i)
def RR (iv : Mm) (r : Nat) (s : Int → Int) : Prop := ∀ (o : Nat) (i t : Int), Pl o i t → iv (r + o) i = s t
theorem Pl.o {o : Nat} {i t : Int} (h : Pl o i t) : o ≤ 11 ∧ o ≠ 4 := by unfold Pl at h; omega
theorem Pl.t {o : Nat} {i t : Int} (h : Pl o i t) : 0 ≤ t ∧ t < 307 := by unfold Pl at h; omega
theorem Pl.fn {o : Nat} {i t u : Int} (h : Pl o i t) (g : Pl o i u) : t = u := by unfold Pl at h g; omega
theorem Pl.ij {o p : Nat} {i j t : Int} (h : Pl o i t) (g : Pl p j t) : o = p ∧ i = j := by
  unfold Pl at h g
  omega
theorem RR.fr {iv iv2 : Mm} {r : Nat} {s : Int → Int} (h : RR iv r s) (hf : ∀ q, r ≤ q → q ≤ r + 11 → q ≠ r + 4 → iv2 q = iv q) : RR iv2 r s := fun o i t hp => by
  have := hp.o
  rw [hf (r + o) (by omega) (by omega) (by omega)]
  exact h o i t hp
theorem RR.cg {iv : Mm} {r : Nat} {s s2 : Int → Int} (h : RR iv r s) (hs : ∀ j, 0 ≤ j → j < 307 → s2 j = s j) : RR iv r s2 := fun o i t hp => by rw [hs t hp.t.1 hp.t.2]; exact h o i t hp
theorem RR.u {iv : Mm} {r : Nat} {s : Int → Int} (h : RR iv r s) {o : Nat} {i t : Int} (hp : Pl o i t) (v : Int) : RR (up iv (r + o) i v) r (upr s t v) := fun p j u hq => by
  by_cases e : p = o
  · subst e
    rw [up_s]
    by_cases e2 : j = i
    · subst e2
      rw [hq.fn hp, upr_s, upr_s]
    · rw [upr_n _ _ e2, upr_n _ _ (fun e3 => e2 (by subst e3; exact (hq.ij hp).2))]
      exact h p j u hq
  · rw [up_n _ _ _ (by omega), upr_n _ _ (fun e3 => e (by subst e3; exact (hq.ij hp).1))]
    exact h p j u hq
theorem g1_many {iv : Mm} {s : Int → Int} (h : RR iv 1 s) : iv 1 11 = s 2 := h 0 11 2 (Or.inl ⟨rfl, rfl, rfl⟩)
theorem u1_many {iv : Mm} {s : Int → Int} (h : RR iv 1 s) {v : Int} : RR (up iv 1 11 v) 1 (upr s 2 v) := h.u (o := 0) (i := 11) (t := 2) (Or.inl ⟨rfl, rfl, rfl⟩) v
theorem g1_wet {iv : Mm} {s : Int → Int} (h : RR iv 1 s) : iv 1 12 = s 4 := h 0 12 4 (Or.inr (Or.inl ⟨rfl, rfl, rfl⟩))
theorem u1_wet {iv : Mm} {s : Int → Int} (h : RR iv 1 s) {v : Int} : RR (up iv 1 12 v) 1 (upr s 4 v) := h.u (o := 0) (i := 12) (t := 4) (Or.inr (Or.inl ⟨rfl, rfl, rfl⟩)) v
theorem g1_thr {iv : Mm} {s : Int → Int} (h : RR iv 1 s) : iv 1 13 = s 5 := h 0 13 5 (Or.inr (Or.inr (Or.inl ⟨rfl, rfl, rfl⟩)))
theorem u1_thr {iv : Mm} {s : Int → Int} (h : RR iv 1 s) {v : Int} : RR (up iv 1 13 v) 1 (upr s 5 v) := h.u (o := 0) (i := 13) (t := 5) (Or.inr (Or.inr (Or.inl ⟨rfl, rfl, rfl⟩))) v
theorem g1_day {iv : Mm} {s : Int → Int} (h : RR iv 1 s) : iv 1 14 = s 0 := h 0 14 0 (Or.inr (Or.inr (Or.inr (Or.inl ⟨rfl, rfl, rfl⟩))))
theorem u1_day {iv : Mm} {s : Int → Int} (h : RR iv 1 s) {v : Int} : RR (up iv 1 14 v) 1 (upr s 0 v) := h.u (o := 0) (i := 14) (t := 0) (Or.inr (Or.inr (Or.inr (Or.inl ⟨rfl, rfl, rfl⟩)))) v
theorem g1_cla {iv : Mm} {s : Int → Int} (h : RR iv 1 s) : iv 1 15 = s 1 := h 0 15 1 (Or.inr (Or.inr (Or.inr (Or.inr (Or.inl ⟨rfl, rfl, rfl⟩)))))
theorem u1_cla {iv : Mm} {s : Int → Int} (h : RR iv 1 s) {v : Int} : RR (up iv 1 15 v) 1 (upr s 1 v) := h.u (o := 0) (i := 15) (t := 1) (Or.inr (Or.inr (Or.inr (Or.inr (Or.inl ⟨rfl, rfl, rfl⟩))))) v
theorem g1_zz {iv : Mm} {s : Int → Int} (h : RR iv 1 s) : iv 1 16 = s 3 := h 0 16 3 (Or.inr (Or.inr (Or.inr (Or.inr (Or.inr (Or.inl ⟨rfl, rfl, rfl⟩))))))
theorem u1_zz {iv : Mm} {s : Int → Int} (h : RR iv 1 s) {v : Int} : RR (up iv 1 16 v) 1 (upr s 3 v) := h.u (o := 0) (i := 16) (t := 3) (Or.inr (Or.inr (Or.inr (Or.inr (Or.inr (Or.inl ⟨rfl, rfl, rfl⟩)))))) v
theorem g1_hed {iv : Mm} {s : Int → Int} (h : RR iv 1 s) {c : Int} (h0 : 0 ≤ c) (h1 : c < 81) : iv 2 c = s (14 + c) := h 1 c (14 + c) (Or.inr (Or.inr (Or.inr (Or.inr (Or.inr (Or.inr (Or.inl ⟨rfl, h0, h1, rfl⟩)))))))
theorem u1_hed {iv : Mm} {s : Int → Int} (h : RR iv 1 s) {c v : Int} (h0 : 0 ≤ c) (h1 : c < 81) : RR (up iv 2 c v) 1 (upr s (14 + c) v) := h.u (o := 1) (i := c) (t := 14 + c) (Or.inr (Or.inr (Or.inr (Or.inr (Or.inr (Or.inr (Or.inl ⟨rfl, h0, h1, rfl⟩))))))) v
theorem g1_lea {iv : Mm} {s : Int → Int} (h : RR iv 1 s) {c : Int} (h0 : 0 ≤ c) (h1 : c < 81) : iv 3 c = s (95 + c) := h 2 c (95 + c) (Or.inr (Or.inr (Or.inr (Or.inr (Or.inr (Or.inr (Or.inr (Or.inl ⟨rfl, h0, h1, rfl⟩))))))))
theorem u1_lea {iv : Mm} {s : Int → Int} (h : RR iv 1 s) {c v : Int} (h0 : 0 ≤ c) (h1 : c < 81) : RR (up iv 3 c v) 1 (upr s (95 + c) v) := h.u (o := 2) (i := c) (t := 95 + c) (Or.inr (Or.inr (Or.inr (Or.inr (Or.inr (Or.inr (Or.inr (Or.inl ⟨rfl, h0, h1, rfl⟩)))))))) v
theorem g1_law {iv : Mm} {s : Int → Int} (h : RR iv 1 s) {c : Int} (h0 : 0 ≤ c) (h1 : c < 81) : iv 4 c = s (176 + c) := h 3 c (176 + c) (Or.inr (Or.inr (Or.inr (Or.inr (Or.inr (Or.inr (Or.inr (Or.inr (Or.inl ⟨rfl, h0, h1, rfl⟩)))))))))
theorem u1_law {iv : Mm} {s : Int → Int} (h : RR iv 1 s) {c v : Int} (h0 : 0 ≤ c) (h1 : c < 81) : RR (up iv 4 c v) 1 (upr s (176 + c) v) := h.u (o := 3) (i := c) (t := 176 + c) (Or.inr (Or.inr (Or.inr (Or.inr (Or.inr (Or.inr (Or.inr (Or.inr (Or.inl ⟨rfl, h0, h1, rfl⟩))))))))) v
theorem g1_ban {iv : Mm} {s : Int → Int} (h : RR iv 1 s) {c : Int} (h0 : 0 ≤ c) (h1 : c < 8) : iv 6 c = s (6 + c) := h 5 c (6 + c) (Or.inr (Or.inr (Or.inr (Or.inr (Or.inr (Or.inr (Or.inr (Or.inr (Or.inr (Or.inl ⟨rfl, h0, h1, rfl⟩))))))))))
theorem u1_ban {iv : Mm} {s : Int → Int} (h : RR iv 1 s) {c v : Int} (h0 : 0 ≤ c) (h1 : c < 8) : RR (up iv 6 c v) 1 (upr s (6 + c) v) := h.u (o := 5) (i := c) (t := 6 + c) (Or.inr (Or.inr (Or.inr (Or.inr (Or.inr (Or.inr (Or.inr (Or.inr (Or.inr (Or.inl ⟨rfl, h0, h1, rfl⟩)))))))))) v
theorem g1_kin {iv : Mm} {s : Int → Int} (h : RR iv 1 s) {c : Int} (h0 : 0 ≤ c) (h1 : c < 8) : iv 7 c = s (257 + 5 * c + 0) := h 6 c (257 + 5 * c + 0) (Or.inr (Or.inr (Or.inr (Or.inr (Or.inr (Or.inr (Or.inr (Or.inr (Or.inr (Or.inr (Or.inl ⟨rfl, h0, h1, rfl⟩)))))))))))
theorem u1_kin {iv : Mm} {s : Int → Int} (h : RR iv 1 s) {c v : Int} (h0 : 0 ≤ c) (h1 : c < 8) : RR (up iv 7 c v) 1 (upr s (257 + 5 * c + 0) v) := h.u (o := 6) (i := c) (t := 257 + 5 * c + 0) (Or.inr (Or.inr (Or.inr (Or.inr (Or.inr (Or.inr (Or.inr (Or.inr (Or.inr (Or.inr (Or.inl ⟨rfl, h0, h1, rfl⟩))))))))))) v
theorem g1_ats {iv : Mm} {s : Int → Int} (h : RR iv 1 s) {c : Int} (h0 : 0 ≤ c) (h1 : c < 8) : iv 8 c = s (257 + 5 * c + 1) := h 7 c (257 + 5 * c + 1) (Or.inr (Or.inr (Or.inr (Or.inr (Or.inr (Or.inr (Or.inr (Or.inr (Or.inr (Or.inr (Or.inr (Or.inl ⟨rfl, h0, h1, rfl⟩))))))))))))
theorem u1_ats {iv : Mm} {s : Int → Int} (h : RR iv 1 s) {c v : Int} (h0 : 0 ≤ c) (h1 : c < 8) : RR (up iv 8 c v) 1 (upr s (257 + 5 * c + 1) v) := h.u (o := 7) (i := c) (t := 257 + 5 * c + 1) (Or.inr (Or.inr (Or.inr (Or.inr (Or.inr (Or.inr (Or.inr (Or.inr (Or.inr (Or.inr (Or.inr (Or.inl ⟨rfl, h0, h1, rfl⟩)))))))))))) v
theorem g1_edi {iv : Mm} {s : Int → Int} (h : RR iv 1 s) {c : Int} (h0 : 0 ≤ c) (h1 : c < 8) : iv 9 c = s (257 + 5 * c + 2) := h 8 c (257 + 5 * c + 2) (Or.inr (Or.inr (Or.inr (Or.inr (Or.inr (Or.inr (Or.inr (Or.inr (Or.inr (Or.inr (Or.inr (Or.inr (Or.inl ⟨rfl, h0, h1, rfl⟩)))))))))))))
theorem u1_edi {iv : Mm} {s : Int → Int} (h : RR iv 1 s) {c v : Int} (h0 : 0 ≤ c) (h1 : c < 8) : RR (up iv 9 c v) 1 (upr s (257 + 5 * c + 2) v) := h.u (o := 8) (i := c) (t := 257 + 5 * c + 2) (Or.inr (Or.inr (Or.inr (Or.inr (Or.inr (Or.inr (Or.inr (Or.inr (Or.inr (Or.inr (Or.inr (Or.inr (Or.inl ⟨rfl, h0, h1, rfl⟩))))))))))))) v
theorem g1_gat {iv : Mm} {s : Int → Int} (h : RR iv 1 s) {c : Int} (h0 : 0 ≤ c) (h1 : c < 8) : iv 10 c = s (257 + 5 * c + 3) := h 9 c (257 + 5 * c + 3) (Or.inr (Or.inr (Or.inr (Or.inr (Or.inr (Or.inr (Or.inr (Or.inr (Or.inr (Or.inr (Or.inr (Or.inr (Or.inr (Or.inl ⟨rfl, h0, h1, rfl⟩))))))))))))))
theorem u1_gat {iv : Mm} {s : Int → Int} (h : RR iv 1 s) {c v : Int} (h0 : 0 ≤ c) (h1 : c < 8) : RR (up iv 10 c v) 1 (upr s (257 + 5 * c + 3) v) := h.u (o := 9) (i := c) (t := 257 + 5 * c + 3) (Or.inr (Or.inr (Or.inr (Or.inr (Or.inr (Or.inr (Or.inr (Or.inr (Or.inr (Or.inr (Or.inr (Or.inr (Or.inr (Or.inl ⟨rfl, h0, h1, rfl⟩)))))))))))))) v
theorem g1_pri {iv : Mm} {s : Int → Int} (h : RR iv 1 s) {c : Int} (h0 : 0 ≤ c) (h1 : c < 8) : iv 11 c = s (257 + 5 * c + 4) := h 10 c (257 + 5 * c + 4) (Or.inr (Or.inr (Or.inr (Or.inr (Or.inr (Or.inr (Or.inr (Or.inr (Or.inr (Or.inr (Or.inr (Or.inr (Or.inr (Or.inr (Or.inl ⟨rfl, h0, h1, rfl⟩)))))))))))))))
theorem u1_pri {iv : Mm} {s : Int → Int} (h : RR iv 1 s) {c v : Int} (h0 : 0 ≤ c) (h1 : c < 8) : RR (up iv 11 c v) 1 (upr s (257 + 5 * c + 4) v) := h.u (o := 10) (i := c) (t := 257 + 5 * c + 4) (Or.inr (Or.inr (Or.inr (Or.inr (Or.inr (Or.inr (Or.inr (Or.inr (Or.inr (Or.inr (Or.inr (Or.inr (Or.inr (Or.inr (Or.inl ⟨rfl, h0, h1, rfl⟩))))))))))))))) v
theorem g1_spo {iv : Mm} {s : Int → Int} (h : RR iv 1 s) {c : Int} (h0 : 0 ≤ c) (h1 : c < 10) : iv 12 c = s (297 + c) := h 11 c (297 + c) (Or.inr (Or.inr (Or.inr (Or.inr (Or.inr (Or.inr (Or.inr (Or.inr (Or.inr (Or.inr (Or.inr (Or.inr (Or.inr (Or.inr (Or.inr (⟨rfl, h0, h1, rfl⟩))))))))))))))))
theorem u1_spo {iv : Mm} {s : Int → Int} (h : RR iv 1 s) {c v : Int} (h0 : 0 ≤ c) (h1 : c < 10) : RR (up iv 12 c v) 1 (upr s (297 + c) v) := h.u (o := 11) (i := c) (t := 297 + c) (Or.inr (Or.inr (Or.inr (Or.inr (Or.inr (Or.inr (Or.inr (Or.inr (Or.inr (Or.inr (Or.inr (Or.inr (Or.inr (Or.inr (Or.inr (⟨rfl, h0, h1, rfl⟩)))))))))))))))) v
theorem n1 {iv : Mm} {s : Int → Int} (h : RR iv 1 s) {q : Nat} {a x : Int} (hq : q < 1 ∨ 12 < q ∨ q = 5) : RR (up iv q a x) 1 s := h.fr (fun p p1 p2 p3 => up_n _ _ _ (by omega))
theorem f1 {iv iv2 : Mm} {s : Int → Int} (h : RR iv 1 s) (hf : ∀ q, 1 ≤ q → q ≤ 12 → q ≠ 5 → iv2 q = iv q) : RR iv2 1 s := h.fr hf
theorem g13_many {iv : Mm} {s : Int → Int} (h : RR iv 13 s) : iv 13 11 = s 2 := h 0 11 2 (Or.inl ⟨rfl, rfl, rfl⟩)
theorem u13_many {iv : Mm} {s : Int → Int} (h : RR iv 13 s) {v : Int} : RR (up iv 13 11 v) 13 (upr s 2 v) := h.u (o := 0) (i := 11) (t := 2) (Or.inl ⟨rfl, rfl, rfl⟩) v
theorem g13_wet {iv : Mm} {s : Int → Int} (h : RR iv 13 s) : iv 13 12 = s 4 := h 0 12 4 (Or.inr (Or.inl ⟨rfl, rfl, rfl⟩))
theorem u13_wet {iv : Mm} {s : Int → Int} (h : RR iv 13 s) {v : Int} : RR (up iv 13 12 v) 13 (upr s 4 v) := h.u (o := 0) (i := 12) (t := 4) (Or.inr (Or.inl ⟨rfl, rfl, rfl⟩)) v
theorem g13_thr {iv : Mm} {s : Int → Int} (h : RR iv 13 s) : iv 13 13 = s 5 := h 0 13 5 (Or.inr (Or.inr (Or.inl ⟨rfl, rfl, rfl⟩)))
theorem u13_thr {iv : Mm} {s : Int → Int} (h : RR iv 13 s) {v : Int} : RR (up iv 13 13 v) 13 (upr s 5 v) := h.u (o := 0) (i := 13) (t := 5) (Or.inr (Or.inr (Or.inl ⟨rfl, rfl, rfl⟩))) v
theorem g13_day {iv : Mm} {s : Int → Int} (h : RR iv 13 s) : iv 13 14 = s 0 := h 0 14 0 (Or.inr (Or.inr (Or.inr (Or.inl ⟨rfl, rfl, rfl⟩))))
theorem u13_day {iv : Mm} {s : Int → Int} (h : RR iv 13 s) {v : Int} : RR (up iv 13 14 v) 13 (upr s 0 v) := h.u (o := 0) (i := 14) (t := 0) (Or.inr (Or.inr (Or.inr (Or.inl ⟨rfl, rfl, rfl⟩)))) v
theorem g13_cla {iv : Mm} {s : Int → Int} (h : RR iv 13 s) : iv 13 15 = s 1 := h 0 15 1 (Or.inr (Or.inr (Or.inr (Or.inr (Or.inl ⟨rfl, rfl, rfl⟩)))))
theorem u13_cla {iv : Mm} {s : Int → Int} (h : RR iv 13 s) {v : Int} : RR (up iv 13 15 v) 13 (upr s 1 v) := h.u (o := 0) (i := 15) (t := 1) (Or.inr (Or.inr (Or.inr (Or.inr (Or.inl ⟨rfl, rfl, rfl⟩))))) v
theorem g13_zz {iv : Mm} {s : Int → Int} (h : RR iv 13 s) : iv 13 16 = s 3 := h 0 16 3 (Or.inr (Or.inr (Or.inr (Or.inr (Or.inr (Or.inl ⟨rfl, rfl, rfl⟩))))))
theorem u13_zz {iv : Mm} {s : Int → Int} (h : RR iv 13 s) {v : Int} : RR (up iv 13 16 v) 13 (upr s 3 v) := h.u (o := 0) (i := 16) (t := 3) (Or.inr (Or.inr (Or.inr (Or.inr (Or.inr (Or.inl ⟨rfl, rfl, rfl⟩)))))) v
theorem g13_hed {iv : Mm} {s : Int → Int} (h : RR iv 13 s) {c : Int} (h0 : 0 ≤ c) (h1 : c < 81) : iv 14 c = s (14 + c) := h 1 c (14 + c) (Or.inr (Or.inr (Or.inr (Or.inr (Or.inr (Or.inr (Or.inl ⟨rfl, h0, h1, rfl⟩)))))))
theorem u13_hed {iv : Mm} {s : Int → Int} (h : RR iv 13 s) {c v : Int} (h0 : 0 ≤ c) (h1 : c < 81) : RR (up iv 14 c v) 13 (upr s (14 + c) v) := h.u (o := 1) (i := c) (t := 14 + c) (Or.inr (Or.inr (Or.inr (Or.inr (Or.inr (Or.inr (Or.inl ⟨rfl, h0, h1, rfl⟩))))))) v
theorem g13_lea {iv : Mm} {s : Int → Int} (h : RR iv 13 s) {c : Int} (h0 : 0 ≤ c) (h1 : c < 81) : iv 15 c = s (95 + c) := h 2 c (95 + c) (Or.inr (Or.inr (Or.inr (Or.inr (Or.inr (Or.inr (Or.inr (Or.inl ⟨rfl, h0, h1, rfl⟩))))))))
theorem u13_lea {iv : Mm} {s : Int → Int} (h : RR iv 13 s) {c v : Int} (h0 : 0 ≤ c) (h1 : c < 81) : RR (up iv 15 c v) 13 (upr s (95 + c) v) := h.u (o := 2) (i := c) (t := 95 + c) (Or.inr (Or.inr (Or.inr (Or.inr (Or.inr (Or.inr (Or.inr (Or.inl ⟨rfl, h0, h1, rfl⟩)))))))) v
theorem g13_law {iv : Mm} {s : Int → Int} (h : RR iv 13 s) {c : Int} (h0 : 0 ≤ c) (h1 : c < 81) : iv 16 c = s (176 + c) := h 3 c (176 + c) (Or.inr (Or.inr (Or.inr (Or.inr (Or.inr (Or.inr (Or.inr (Or.inr (Or.inl ⟨rfl, h0, h1, rfl⟩)))))))))
theorem u13_law {iv : Mm} {s : Int → Int} (h : RR iv 13 s) {c v : Int} (h0 : 0 ≤ c) (h1 : c < 81) : RR (up iv 16 c v) 13 (upr s (176 + c) v) := h.u (o := 3) (i := c) (t := 176 + c) (Or.inr (Or.inr (Or.inr (Or.inr (Or.inr (Or.inr (Or.inr (Or.inr (Or.inl ⟨rfl, h0, h1, rfl⟩))))))))) v
theorem g13_ban {iv : Mm} {s : Int → Int} (h : RR iv 13 s) {c : Int} (h0 : 0 ≤ c) (h1 : c < 8) : iv 18 c = s (6 + c) := h 5 c (6 + c) (Or.inr (Or.inr (Or.inr (Or.inr (Or.inr (Or.inr (Or.inr (Or.inr (Or.inr (Or.inl ⟨rfl, h0, h1, rfl⟩))))))))))
theorem u13_ban {iv : Mm} {s : Int → Int} (h : RR iv 13 s) {c v : Int} (h0 : 0 ≤ c) (h1 : c < 8) : RR (up iv 18 c v) 13 (upr s (6 + c) v) := h.u (o := 5) (i := c) (t := 6 + c) (Or.inr (Or.inr (Or.inr (Or.inr (Or.inr (Or.inr (Or.inr (Or.inr (Or.inr (Or.inl ⟨rfl, h0, h1, rfl⟩)))))))))) v
theorem g13_kin {iv : Mm} {s : Int → Int} (h : RR iv 13 s) {c : Int} (h0 : 0 ≤ c) (h1 : c < 8) : iv 19 c = s (257 + 5 * c + 0) := h 6 c (257 + 5 * c + 0) (Or.inr (Or.inr (Or.inr (Or.inr (Or.inr (Or.inr (Or.inr (Or.inr (Or.inr (Or.inr (Or.inl ⟨rfl, h0, h1, rfl⟩)))))))))))
theorem u13_kin {iv : Mm} {s : Int → Int} (h : RR iv 13 s) {c v : Int} (h0 : 0 ≤ c) (h1 : c < 8) : RR (up iv 19 c v) 13 (upr s (257 + 5 * c + 0) v) := h.u (o := 6) (i := c) (t := 257 + 5 * c + 0) (Or.inr (Or.inr (Or.inr (Or.inr (Or.inr (Or.inr (Or.inr (Or.inr (Or.inr (Or.inr (Or.inl ⟨rfl, h0, h1, rfl⟩))))))))))) v
theorem g13_ats {iv : Mm} {s : Int → Int} (h : RR iv 13 s) {c : Int} (h0 : 0 ≤ c) (h1 : c < 8) : iv 20 c = s (257 + 5 * c + 1) := h 7 c (257 + 5 * c + 1) (Or.inr (Or.inr (Or.inr (Or.inr (Or.inr (Or.inr (Or.inr (Or.inr (Or.inr (Or.inr (Or.inr (Or.inl ⟨rfl, h0, h1, rfl⟩))))))))))))
theorem u13_ats {iv : Mm} {s : Int → Int} (h : RR iv 13 s) {c v : Int} (h0 : 0 ≤ c) (h1 : c < 8) : RR (up iv 20 c v) 13 (upr s (257 + 5 * c + 1) v) := h.u (o := 7) (i := c) (t := 257 + 5 * c + 1) (Or.inr (Or.inr (Or.inr (Or.inr (Or.inr (Or.inr (Or.inr (Or.inr (Or.inr (Or.inr (Or.inr (Or.inl ⟨rfl, h0, h1, rfl⟩)))))))))))) v
theorem g13_edi {iv : Mm} {s : Int → Int} (h : RR iv 13 s) {c : Int} (h0 : 0 ≤ c) (h1 : c < 8) : iv 21 c = s (257 + 5 * c + 2) := h 8 c (257 + 5 * c + 2) (Or.inr (Or.inr (Or.inr (Or.inr (Or.inr (Or.inr (Or.inr (Or.inr (Or.inr (Or.inr (Or.inr (Or.inr (Or.inl ⟨rfl, h0, h1, rfl⟩)))))))))))))
theorem u13_edi {iv : Mm} {s : Int → Int} (h : RR iv 13 s) {c v : Int} (h0 : 0 ≤ c) (h1 : c < 8) : RR (up iv 21 c v) 13 (upr s (257 + 5 * c + 2) v) := h.u (o := 8) (i := c) (t := 257 + 5 * c + 2) (Or.inr (Or.inr (Or.inr (Or.inr (Or.inr (Or.inr (Or.inr (Or.inr (Or.inr (Or.inr (Or.inr (Or.inr (Or.inl ⟨rfl, h0, h1, rfl⟩))))))))))))) v
theorem g13_gat {iv : Mm} {s : Int → Int} (h : RR iv 13 s) {c : Int} (h0 : 0 ≤ c) (h1 : c < 8) : iv 22 c = s (257 + 5 * c + 3) := h 9 c (257 + 5 * c + 3) (Or.inr (Or.inr (Or.inr (Or.inr (Or.inr (Or.inr (Or.inr (Or.inr (Or.inr (Or.inr (Or.inr (Or.inr (Or.inr (Or.inl ⟨rfl, h0, h1, rfl⟩))))))))))))))
theorem u13_gat {iv : Mm} {s : Int → Int} (h : RR iv 13 s) {c v : Int} (h0 : 0 ≤ c) (h1 : c < 8) : RR (up iv 22 c v) 13 (upr s (257 + 5 * c + 3) v) := h.u (o := 9) (i := c) (t := 257 + 5 * c + 3) (Or.inr (Or.inr (Or.inr (Or.inr (Or.inr (Or.inr (Or.inr (Or.inr (Or.inr (Or.inr (Or.inr (Or.inr (Or.inr (Or.inl ⟨rfl, h0, h1, rfl⟩)))))))))))))) v
theorem g13_pri {iv : Mm} {s : Int → Int} (h : RR iv 13 s) {c : Int} (h0 : 0 ≤ c) (h1 : c < 8) : iv 23 c = s (257 + 5 * c + 4) := h 10 c (257 + 5 * c + 4) (Or.inr (Or.inr (Or.inr (Or.inr (Or.inr (Or.inr (Or.inr (Or.inr (Or.inr (Or.inr (Or.inr (Or.inr (Or.inr (Or.inr (Or.inl ⟨rfl, h0, h1, rfl⟩)))))))))))))))
theorem u13_pri {iv : Mm} {s : Int → Int} (h : RR iv 13 s) {c v : Int} (h0 : 0 ≤ c) (h1 : c < 8) : RR (up iv 23 c v) 13 (upr s (257 + 5 * c + 4) v) := h.u (o := 10) (i := c) (t := 257 + 5 * c + 4) (Or.inr (Or.inr (Or.inr (Or.inr (Or.inr (Or.inr (Or.inr (Or.inr (Or.inr (Or.inr (Or.inr (Or.inr (Or.inr (Or.inr (Or.inl ⟨rfl, h0, h1, rfl⟩))))))))))))))) v
theorem g13_spo {iv : Mm} {s : Int → Int} (h : RR iv 13 s) {c : Int} (h0 : 0 ≤ c) (h1 : c < 10) : iv 24 c = s (297 + c) := h 11 c (297 + c) (Or.inr (Or.inr (Or.inr (Or.inr (Or.inr (Or.inr (Or.inr (Or.inr (Or.inr (Or.inr (Or.inr (Or.inr (Or.inr (Or.inr (Or.inr (⟨rfl, h0, h1, rfl⟩))))))))))))))))
theorem u13_spo {iv : Mm} {s : Int → Int} (h : RR iv 13 s) {c v : Int} (h0 : 0 ≤ c) (h1 : c < 10) : RR (up iv 24 c v) 13 (upr s (297 + c) v) := h.u (o := 11) (i := c) (t := 297 + c) (Or.inr (Or.inr (Or.inr (Or.inr (Or.inr (Or.inr (Or.inr (Or.inr (Or.inr (Or.inr (Or.inr (Or.inr (Or.inr (Or.inr (Or.inr (⟨rfl, h0, h1, rfl⟩)))))))))))))))) v
theorem n13 {iv : Mm} {s : Int → Int} (h : RR iv 13 s) {q : Nat} {a x : Int} (hq : q < 13 ∨ 24 < q ∨ q = 17) : RR (up iv q a x) 13 s := h.fr (fun p p1 p2 p3 => up_n _ _ _ (by omega))
theorem f13 {iv iv2 : Mm} {s : Int → Int} (h : RR iv 13 s) (hf : ∀ q, 13 ≤ q → q ≤ 24 → q ≠ 17 → iv2 q = iv q) : RR iv2 13 s := h.fr hf
theorem g26_many {iv : Mm} {s : Int → Int} (h : RR iv 26 s) : iv 26 11 = s 2 := h 0 11 2 (Or.inl ⟨rfl, rfl, rfl⟩)
theorem u26_many {iv : Mm} {s : Int → Int} (h : RR iv 26 s) {v : Int} : RR (up iv 26 11 v) 26 (upr s 2 v) := h.u (o := 0) (i := 11) (t := 2) (Or.inl ⟨rfl, rfl, rfl⟩) v
theorem g26_wet {iv : Mm} {s : Int → Int} (h : RR iv 26 s) : iv 26 12 = s 4 := h 0 12 4 (Or.inr (Or.inl ⟨rfl, rfl, rfl⟩))
theorem u26_wet {iv : Mm} {s : Int → Int} (h : RR iv 26 s) {v : Int} : RR (up iv 26 12 v) 26 (upr s 4 v) := h.u (o := 0) (i := 12) (t := 4) (Or.inr (Or.inl ⟨rfl, rfl, rfl⟩)) v
theorem g26_thr {iv : Mm} {s : Int → Int} (h : RR iv 26 s) : iv 26 13 = s 5 := h 0 13 5 (Or.inr (Or.inr (Or.inl ⟨rfl, rfl, rfl⟩)))
theorem u26_thr {iv : Mm} {s : Int → Int} (h : RR iv 26 s) {v : Int} : RR (up iv 26 13 v) 26 (upr s 5 v) := h.u (o := 0) (i := 13) (t := 5) (Or.inr (Or.inr (Or.inl ⟨rfl, rfl, rfl⟩))) v
theorem g26_day {iv : Mm} {s : Int → Int} (h : RR iv 26 s) : iv 26 14 = s 0 := h 0 14 0 (Or.inr (Or.inr (Or.inr (Or.inl ⟨rfl, rfl, rfl⟩))))
theorem u26_day {iv : Mm} {s : Int → Int} (h : RR iv 26 s) {v : Int} : RR (up iv 26 14 v) 26 (upr s 0 v) := h.u (o := 0) (i := 14) (t := 0) (Or.inr (Or.inr (Or.inr (Or.inl ⟨rfl, rfl, rfl⟩)))) v
theorem g26_cla {iv : Mm} {s : Int → Int} (h : RR iv 26 s) : iv 26 15 = s 1 := h 0 15 1 (Or.inr (Or.inr (Or.inr (Or.inr (Or.inl ⟨rfl, rfl, rfl⟩)))))
theorem u26_cla {iv : Mm} {s : Int → Int} (h : RR iv 26 s) {v : Int} : RR (up iv 26 15 v) 26 (upr s 1 v) := h.u (o := 0) (i := 15) (t := 1) (Or.inr (Or.inr (Or.inr (Or.inr (Or.inl ⟨rfl, rfl, rfl⟩))))) v
theorem g26_zz {iv : Mm} {s : Int → Int} (h : RR iv 26 s) : iv 26 16 = s 3 := h 0 16 3 (Or.inr (Or.inr (Or.inr (Or.inr (Or.inr (Or.inl ⟨rfl, rfl, rfl⟩))))))
theorem u26_zz {iv : Mm} {s : Int → Int} (h : RR iv 26 s) {v : Int} : RR (up iv 26 16 v) 26 (upr s 3 v) := h.u (o := 0) (i := 16) (t := 3) (Or.inr (Or.inr (Or.inr (Or.inr (Or.inr (Or.inl ⟨rfl, rfl, rfl⟩)))))) v
theorem g26_hed {iv : Mm} {s : Int → Int} (h : RR iv 26 s) {c : Int} (h0 : 0 ≤ c) (h1 : c < 81) : iv 27 c = s (14 + c) := h 1 c (14 + c) (Or.inr (Or.inr (Or.inr (Or.inr (Or.inr (Or.inr (Or.inl ⟨rfl, h0, h1, rfl⟩)))))))
theorem u26_hed {iv : Mm} {s : Int → Int} (h : RR iv 26 s) {c v : Int} (h0 : 0 ≤ c) (h1 : c < 81) : RR (up iv 27 c v) 26 (upr s (14 + c) v) := h.u (o := 1) (i := c) (t := 14 + c) (Or.inr (Or.inr (Or.inr (Or.inr (Or.inr (Or.inr (Or.inl ⟨rfl, h0, h1, rfl⟩))))))) v
theorem g26_lea {iv : Mm} {s : Int → Int} (h : RR iv 26 s) {c : Int} (h0 : 0 ≤ c) (h1 : c < 81) : iv 28 c = s (95 + c) := h 2 c (95 + c) (Or.inr (Or.inr (Or.inr (Or.inr (Or.inr (Or.inr (Or.inr (Or.inl ⟨rfl, h0, h1, rfl⟩))))))))
theorem u26_lea {iv : Mm} {s : Int → Int} (h : RR iv 26 s) {c v : Int} (h0 : 0 ≤ c) (h1 : c < 81) : RR (up iv 28 c v) 26 (upr s (95 + c) v) := h.u (o := 2) (i := c) (t := 95 + c) (Or.inr (Or.inr (Or.inr (Or.inr (Or.inr (Or.inr (Or.inr (Or.inl ⟨rfl, h0, h1, rfl⟩)))))))) v
theorem g26_law {iv : Mm} {s : Int → Int} (h : RR iv 26 s) {c : Int} (h0 : 0 ≤ c) (h1 : c < 81) : iv 29 c = s (176 + c) := h 3 c (176 + c) (Or.inr (Or.inr (Or.inr (Or.inr (Or.inr (Or.inr (Or.inr (Or.inr (Or.inl ⟨rfl, h0, h1, rfl⟩)))))))))
theorem u26_law {iv : Mm} {s : Int → Int} (h : RR iv 26 s) {c v : Int} (h0 : 0 ≤ c) (h1 : c < 81) : RR (up iv 29 c v) 26 (upr s (176 + c) v) := h.u (o := 3) (i := c) (t := 176 + c) (Or.inr (Or.inr (Or.inr (Or.inr (Or.inr (Or.inr (Or.inr (Or.inr (Or.inl ⟨rfl, h0, h1, rfl⟩))))))))) v
theorem g26_ban {iv : Mm} {s : Int → Int} (h : RR iv 26 s) {c : Int} (h0 : 0 ≤ c) (h1 : c < 8) : iv 31 c = s (6 + c) := h 5 c (6 + c) (Or.inr (Or.inr (Or.inr (Or.inr (Or.inr (Or.inr (Or.inr (Or.inr (Or.inr (Or.inl ⟨rfl, h0, h1, rfl⟩))))))))))
theorem u26_ban {iv : Mm} {s : Int → Int} (h : RR iv 26 s) {c v : Int} (h0 : 0 ≤ c) (h1 : c < 8) : RR (up iv 31 c v) 26 (upr s (6 + c) v) := h.u (o := 5) (i := c) (t := 6 + c) (Or.inr (Or.inr (Or.inr (Or.inr (Or.inr (Or.inr (Or.inr (Or.inr (Or.inr (Or.inl ⟨rfl, h0, h1, rfl⟩)))))))))) v
theorem g26_kin {iv : Mm} {s : Int → Int} (h : RR iv 26 s) {c : Int} (h0 : 0 ≤ c) (h1 : c < 8) : iv 32 c = s (257 + 5 * c + 0) := h 6 c (257 + 5 * c + 0) (Or.inr (Or.inr (Or.inr (Or.inr (Or.inr (Or.inr (Or.inr (Or.inr (Or.inr (Or.inr (Or.inl ⟨rfl, h0, h1, rfl⟩)))))))))))
theorem u26_kin {iv : Mm} {s : Int → Int} (h : RR iv 26 s) {c v : Int} (h0 : 0 ≤ c) (h1 : c < 8) : RR (up iv 32 c v) 26 (upr s (257 + 5 * c + 0) v) := h.u (o := 6) (i := c) (t := 257 + 5 * c + 0) (Or.inr (Or.inr (Or.inr (Or.inr (Or.inr (Or.inr (Or.inr (Or.inr (Or.inr (Or.inr (Or.inl ⟨rfl, h0, h1, rfl⟩))))))))))) v
theorem g26_ats {iv : Mm} {s : Int → Int} (h : RR iv 26 s) {c : Int} (h0 : 0 ≤ c) (h1 : c < 8) : iv 33 c = s (257 + 5 * c + 1) := h 7 c (257 + 5 * c + 1) (Or.inr (Or.inr (Or.inr (Or.inr (Or.inr (Or.inr (Or.inr (Or.inr (Or.inr (Or.inr (Or.inr (Or.inl ⟨rfl, h0, h1, rfl⟩))))))))))))
theorem u26_ats {iv : Mm} {s : Int → Int} (h : RR iv 26 s) {c v : Int} (h0 : 0 ≤ c) (h1 : c < 8) : RR (up iv 33 c v) 26 (upr s (257 + 5 * c + 1) v) := h.u (o := 7) (i := c) (t := 257 + 5 * c + 1) (Or.inr (Or.inr (Or.inr (Or.inr (Or.inr (Or.inr (Or.inr (Or.inr (Or.inr (Or.inr (Or.inr (Or.inl ⟨rfl, h0, h1, rfl⟩)))))))))))) v
theorem g26_edi {iv : Mm} {s : Int → Int} (h : RR iv 26 s) {c : Int} (h0 : 0 ≤ c) (h1 : c < 8) : iv 34 c = s (257 + 5 * c + 2) := h 8 c (257 + 5 * c + 2) (Or.inr (Or.inr (Or.inr (Or.inr (Or.inr (Or.inr (Or.inr (Or.inr (Or.inr (Or.inr (Or.inr (Or.inr (Or.inl ⟨rfl, h0, h1, rfl⟩)))))))))))))
theorem u26_edi {iv : Mm} {s : Int → Int} (h : RR iv 26 s) {c v : Int} (h0 : 0 ≤ c) (h1 : c < 8) : RR (up iv 34 c v) 26 (upr s (257 + 5 * c + 2) v) := h.u (o := 8) (i := c) (t := 257 + 5 * c + 2) (Or.inr (Or.inr (Or.inr (Or.inr (Or.inr (Or.inr (Or.inr (Or.inr (Or.inr (Or.inr (Or.inr (Or.inr (Or.inl ⟨rfl, h0, h1, rfl⟩))))))))))))) v
theorem g26_gat {iv : Mm} {s : Int → Int} (h : RR iv 26 s) {c : Int} (h0 : 0 ≤ c) (h1 : c < 8) : iv 35 c = s (257 + 5 * c + 3) := h 9 c (257 + 5 * c + 3) (Or.inr (Or.inr (Or.inr (Or.inr (Or.inr (Or.inr (Or.inr (Or.inr (Or.inr (Or.inr (Or.inr (Or.inr (Or.inr (Or.inl ⟨rfl, h0, h1, rfl⟩))))))))))))))
theorem u26_gat {iv : Mm} {s : Int → Int} (h : RR iv 26 s) {c v : Int} (h0 : 0 ≤ c) (h1 : c < 8) : RR (up iv 35 c v) 26 (upr s (257 + 5 * c + 3) v) := h.u (o := 9) (i := c) (t := 257 + 5 * c + 3) (Or.inr (Or.inr (Or.inr (Or.inr (Or.inr (Or.inr (Or.inr (Or.inr (Or.inr (Or.inr (Or.inr (Or.inr (Or.inr (Or.inl ⟨rfl, h0, h1, rfl⟩)))))))))))))) v
theorem g26_pri {iv : Mm} {s : Int → Int} (h : RR iv 26 s) {c : Int} (h0 : 0 ≤ c) (h1 : c < 8) : iv 36 c = s (257 + 5 * c + 4) := h 10 c (257 + 5 * c + 4) (Or.inr (Or.inr (Or.inr (Or.inr (Or.inr (Or.inr (Or.inr (Or.inr (Or.inr (Or.inr (Or.inr (Or.inr (Or.inr (Or.inr (Or.inl ⟨rfl, h0, h1, rfl⟩)))))))))))))))
theorem u26_pri {iv : Mm} {s : Int → Int} (h : RR iv 26 s) {c v : Int} (h0 : 0 ≤ c) (h1 : c < 8) : RR (up iv 36 c v) 26 (upr s (257 + 5 * c + 4) v) := h.u (o := 10) (i := c) (t := 257 + 5 * c + 4) (Or.inr (Or.inr (Or.inr (Or.inr (Or.inr (Or.inr (Or.inr (Or.inr (Or.inr (Or.inr (Or.inr (Or.inr (Or.inr (Or.inr (Or.inl ⟨rfl, h0, h1, rfl⟩))))))))))))))) v
theorem g26_spo {iv : Mm} {s : Int → Int} (h : RR iv 26 s) {c : Int} (h0 : 0 ≤ c) (h1 : c < 10) : iv 37 c = s (297 + c) := h 11 c (297 + c) (Or.inr (Or.inr (Or.inr (Or.inr (Or.inr (Or.inr (Or.inr (Or.inr (Or.inr (Or.inr (Or.inr (Or.inr (Or.inr (Or.inr (Or.inr (⟨rfl, h0, h1, rfl⟩))))))))))))))))
theorem u26_spo {iv : Mm} {s : Int → Int} (h : RR iv 26 s) {c v : Int} (h0 : 0 ≤ c) (h1 : c < 10) : RR (up iv 37 c v) 26 (upr s (297 + c) v) := h.u (o := 11) (i := c) (t := 297 + c) (Or.inr (Or.inr (Or.inr (Or.inr (Or.inr (Or.inr (Or.inr (Or.inr (Or.inr (Or.inr (Or.inr (Or.inr (Or.inr (Or.inr (Or.inr (⟨rfl, h0, h1, rfl⟩)))))))))))))))) v
theorem n26 {iv : Mm} {s : Int → Int} (h : RR iv 26 s) {q : Nat} {a x : Int} (hq : q < 26 ∨ 37 < q ∨ q = 30) : RR (up iv q a x) 26 s := h.fr (fun p p1 p2 p3 => up_n _ _ _ (by omega))
theorem f26 {iv iv2 : Mm} {s : Int → Int} (h : RR iv 26 s) (hf : ∀ q, 26 ≤ q → q ≤ 37 → q ≠ 30 → iv2 q = iv q) : RR iv2 26 s := h.fr hf
/-- the class's rows tell the state A -/
def CR (iv A : Mm) : Prop := RR iv 1 (A 62) ∧ (A 61 3 = 1 → RR iv 13 (A 63)) ∧ iv 0 7 = A 61 3 ∧ (∀ k, 0 ≤ k → k < 7 → iv 60 k = A 65 k) ∧ iv 50 0 = A 61 10 ∧ (∀ j, 0 ≤ j → j < 120 → iv 51 j = A 70 j) ∧ (∀ z, 0 ≤ z → z < 4 → iv 57 z = A 74 z ∧ iv 58 z = A 75 z) ∧ ∀ j, 0 ≤ j → j < 160 → iv 59 j = A 76 j
theorem CR.r {iv A : Mm} (h : CR iv A) : RR iv 1 (A 62) := h.1
theorem CR.k {iv A : Mm} (h : CR iv A) : A 61 3 = 1 → RR iv 13 (A 63) := h.2.1
theorem CR.i {iv A : Mm} (h : CR iv A) : iv 0 7 = A 61 3 := h.2.2.1
theorem CR.e {iv A : Mm} (h : CR iv A) : ∀ k, 0 ≤ k → k < 7 → iv 60 k = A 65 k := h.2.2.2.1
theorem CR.z {iv A : Mm} (h : CR iv A) : iv 50 0 = A 61 10 := h.2.2.2.2.1
theorem CR.t {iv A : Mm} (h : CR iv A) : ∀ j, 0 ≤ j → j < 120 → iv 51 j = A 70 j := h.2.2.2.2.2.1
theorem CR.s {iv A : Mm} (h : CR iv A) : ∀ z, 0 ≤ z → z < 4 → iv 57 z = A 74 z ∧ iv 58 z = A 75 z := h.2.2.2.2.2.2.1
theorem CR.n {iv A : Mm} (h : CR iv A) : ∀ j, 0 ≤ j → j < 160 → iv 59 j = A 76 j := h.2.2.2.2.2.2.2
/-- rows that tell nothing of the state may change -/
theorem CR.fr {iv iv2 A : Mm} (h : CR iv A) (hf : ∀ q, (q ≤ 24 ∧ q ≠ 5 ∨ q = 50 ∨ q = 51 ∨ 57 ≤ q ∧ q ≤ 60) → iv2 q = iv q) : CR iv2 A :=
  ⟨h.r.fr (fun q q1 q2 q3 => hf q (by omega)), fun e => (h.k e).fr (fun q q1 q2 q3 => hf q (by omega)), by rw [hf 0 (by omega)]; exact h.i, by rw [hf 60 (by omega)]; exact h.e, by rw [hf 50 (by omega)]; exact h.z, by rw [hf 51 (by omega)]; exact h.t, by rw [hf 57 (by omega), hf 58 (by omega)]; exact h.s, by rw [hf 59 (by omega)]; exact h.n⟩
/-- the republic at 1 becomes another -/
theorem CR.rep {iv iv2 A : Mm} (h : CR iv A) {s : Int → Int} (hr : RR iv2 1 s) (hf : ∀ q, (q = 0 ∨ 13 ≤ q ∧ q ≤ 24 ∨ q = 50 ∨ q = 51 ∨ 57 ≤ q ∧ q ≤ 60) → iv2 q = iv q) : CR iv2 (setr A 62 s) :=
  ⟨hr, fun e => (h.k e).fr (fun q q1 q2 q3 => hf q (by omega)), by rw [hf 0 (by omega)]; exact h.i, by rw [hf 60 (by omega)]; exact h.e, by rw [hf 50 (by omega)]; exact h.z, by rw [hf 51 (by omega)]; exact h.t, by rw [hf 57 (by omega), hf 58 (by omega)]; exact h.s, by rw [hf 59 (by omega)]; exact h.n⟩
theorem CR.up1 {iv A : Mm} (h : CR iv A) {s : Int → Int} {q : Nat} {a x : Int} (hq : 1 ≤ q ∧ q ≤ 12) (hr : RR (up iv q a x) 1 s) : CR (up iv q a x) (setr A 62 s) := h.rep hr (fun p hp => up_n _ _ _ (by omega))
theorem CR.er {iv A : Mm} (h : CR iv A) {w : Int} : CR (up iv 60 w (iv 60 w + 1)) (er A w) ∨ ¬ (0 ≤ w ∧ w < 7) := by
  by_cases hw : 0 ≤ w ∧ w < 7
  · refine Or.inl ⟨h.r.fr (fun q q1 q2 q3 => up_n _ _ _ (by omega)), fun e => (h.k e).fr (fun q q1 q2 q3 => up_n _ _ _ (by omega)), h.i, fun k k0 k1 => ?_, h.z, h.t, h.s, h.n⟩
    show up iv 60 w (iv 60 w + 1) 60 k = setr A 65 (upr (A 65) w (A 65 w + 1)) 65 k
    rw [setr_s, up_s]
    by_cases e : k = w
    · subst e; rw [upr_s, upr_s, h.e _ hw.1 hw.2]
    · rw [upr_n _ _ e, upr_n _ _ e]; exact h.e k k0 k1
  · exact Or.inr hw
/-- the class has answered O.1, and its rows tell O.2 then; the reference's are as they were -/
def CP (iv : Mm) (O : Int × Mm) : Option VT → Shp → Mm → Prop := fun v S iv2 => v = some (i_ O.1) ∧ S = S0 ∧ (∀ q, 61 ≤ q → iv2 q = iv q) ∧ CR iv2 O.2
set_option maxRecDepth 100000 in
set_option maxHeartbeats 4000000 in
theorem c_X5_isWithin {l : Launch} {F : Nat × (Int → Int)} {iv : Mm} {v m : Int} (hv : -2147483648 ≤ v ∧ v < 2147483648) (hm : -2147483648 ≤ m ∧ m < 2147483648) : Ctr l F 0 0 0 yX5_isWithin cX5_isWithin 2 (some FieldType.boolean) [i_ v, i_ m] S0 (iv) (Ret (some (i_ (b2 (0 ≤ v ∧ v ≤ m)))) S0 iv) := by
  refine Ctr.of false (fun h => by cases h) (by decide) rfl (Nat.le_of_ble_eq_true rfl) ?_
  refine J.iload_n (q := 1) dX5_isWithin_0 rfl ?_ rfl
  refine J.if_lt (tgt := 13) (q := 4) dX5_isWithin_1 rfl rfl (fun c1 => ?_) (fun c1 => ?_)
  · refine J.iconst (q := 14) dX5_isWithin_13 ?_ rfl
    refine J.zreturn dX5_isWithin_14 rfl (by omega) ?_
    first
    | exact ⟨rfl, rfl, rfl⟩
    | (refine ⟨congrArg (fun z => some (i_ z)) ?_, rfl, rfl⟩; first | rfl | omega | (simp only [b2]; split <;> omega) | (simp only [b2, *]; split <;> omega))
  · refine J.iload_n (q := 5) dX5_isWithin_4 rfl ?_ rfl
    refine J.iload_n (q := 6) dX5_isWithin_5 rfl ?_ rfl
    refine J.icmp_gt (tgt := 13) (q := 9) dX5_isWithin_6 rfl rfl (fun c6 => ?_) (fun c6 => ?_)
    · refine J.iconst (q := 14) dX5_isWithin_13 ?_ rfl
      refine J.zreturn dX5_isWithin_14 rfl (by omega) ?_
      first
      | exact ⟨rfl, rfl, rfl⟩
      | (refine ⟨congrArg (fun z => some (i_ z)) ?_, rfl, rfl⟩; first | rfl | omega | (simp only [b2]; split <;> omega) | (simp only [b2, *]; split <;> omega))
    · refine J.iconst (q := 10) dX5_isWithin_9 ?_ rfl
      refine J.goto (tgt := 14) dX5_isWithin_10 rfl ?_
      refine J.zreturn dX5_isWithin_14 rfl (by omega) ?_
      first
      | exact ⟨rfl, rfl, rfl⟩
      | (refine ⟨congrArg (fun z => some (i_ z)) ?_, rfl, rfl⟩; first | rfl | omega | (simp only [b2]; split <;> omega) | (simp only [b2, *]; split <;> omega))

set_option maxRecDepth 100000 in
set_option maxHeartbeats 4000000 in
theorem c_X5_isCell {l : Launch} {F : Nat × (Int → Int)} {iv : Mm} {v : Int} (hv : -2147483648 ≤ v ∧ v < 2147483648) : Ctr l F 1 0 0 yX5_isCell cX5_isCell 1 (some FieldType.boolean) [i_ v] S0 (iv) (Ret (some (i_ (b2 (0 ≤ v ∧ v ≤ 80)))) S0 iv) := by
  refine Ctr.of false (fun h => by cases h) (by decide) rfl (Nat.le_of_ble_eq_true rfl) ?_
  refine J.iload_n (q := 1) dX5_isCell_0 rfl ?_ rfl
  refine J.bipush (q := 3) dX5_isCell_1 (by decide) ?_ rfl
  refine J.callS2i (q := 6) dX5_isCell_3 mv_X5_isWithin kS_X5_isWithin kL_X5_59 ⟨by decide, by decide⟩ (Nat.le_of_ble_eq_true rfl) ⟨by decide, by decide⟩ rfl (c_X5_isWithin (by omega) (by omega)) ?_
  refine J.zreturn dX5_isCell_6 rfl b2_01 ?_
  first
  | exact ⟨rfl, rfl, rfl⟩
  | (refine ⟨congrArg (fun z => some (i_ z)) ?_, rfl, rfl⟩; first | rfl | omega | (simp only [b2]; split <;> omega) | (simp only [b2, *]; split <;> omega))

set_option maxRecDepth 100000 in
set_option maxHeartbeats 4000000 in
theorem c_X5_isLaw {l : Launch} {F : Nat × (Int → Int)} {iv : Mm} {v : Int} (hv : -2147483648 ≤ v ∧ v < 2147483648) : Ctr l F 1 0 0 yX5_isLaw cX5_isLaw 1 (some FieldType.boolean) [i_ v] S0 (iv) (Ret (some (i_ (b2 (0 ≤ v ∧ v ≤ 7)))) S0 iv) := by
  refine Ctr.of false (fun h => by cases h) (by decide) rfl (Nat.le_of_ble_eq_true rfl) ?_
  refine J.iload_n (q := 1) dX5_isLaw_0 rfl ?_ rfl
  refine J.bipush (q := 3) dX5_isLaw_1 (by decide) ?_ rfl
  refine J.callS2i (q := 6) dX5_isLaw_3 mv_X5_isWithin kS_X5_isWithin kL_X5_59 ⟨by decide, by decide⟩ (Nat.le_of_ble_eq_true rfl) ⟨by decide, by decide⟩ rfl (c_X5_isWithin (by omega) (by omega)) ?_
  refine J.zreturn dX5_isLaw_6 rfl b2_01 ?_
  first
  | exact ⟨rfl, rfl, rfl⟩
  | (refine ⟨congrArg (fun z => some (i_ z)) ?_, rfl, rfl⟩; first | rfl | omega | (simp only [b2]; split <;> omega) | (simp only [b2, *]; split <;> omega))

set_option maxRecDepth 100000 in
set_option maxHeartbeats 4000000 in
theorem c_X5_isDeed {l : Launch} {F : Nat × (Int → Int)} {iv : Mm} {v : Int} (hv : -2147483648 ≤ v ∧ v < 2147483648) : Ctr l F 1 0 0 yX5_isDeed cX5_isDeed 1 (some FieldType.boolean) [i_ v] S0 (iv) (Ret (some (i_ (b2 (0 ≤ v ∧ v ≤ 7)))) S0 iv) := by
  refine Ctr.of false (fun h => by cases h) (by decide) rfl (Nat.le_of_ble_eq_true rfl) ?_
  refine J.iload_n (q := 1) dX5_isDeed_0 rfl ?_ rfl
  refine J.bipush (q := 3) dX5_isDeed_1 (by decide) ?_ rfl
  refine J.callS2i (q := 6) dX5_isDeed_3 mv_X5_isWithin kS_X5_isWithin kL_X5_59 ⟨by decide, by decide⟩ (Nat.le_of_ble_eq_true rfl) ⟨by decide, by decide⟩ rfl (c_X5_isWithin (by omega) (by omega)) ?_
  refine J.zreturn dX5_isDeed_6 rfl b2_01 ?_
  first
  | exact ⟨rfl, rfl, rfl⟩
  | (refine ⟨congrArg (fun z => some (i_ z)) ?_, rfl, rfl⟩; first | rfl | omega | (simp only [b2]; split <;> omega) | (simp only [b2, *]; split <;> omega))

set_option maxRecDepth 100000 in
set_option maxHeartbeats 4000000 in
theorem c_X5_isSheet {l : Launch} {F : Nat × (Int → Int)} {iv : Mm} {v : Int} (hv : -2147483648 ≤ v ∧ v < 2147483648) : Ctr l F 1 0 0 yX5_isSheet cX5_isSheet 1 (some FieldType.boolean) [i_ v] S0 (iv) (Ret (some (i_ (b2 (0 ≤ v ∧ v ≤ 3)))) S0 iv) := by
  refine Ctr.of false (fun h => by cases h) (by decide) rfl (Nat.le_of_ble_eq_true rfl) ?_
  refine J.iload_n (q := 1) dX5_isSheet_0 rfl ?_ rfl
  refine J.iconst (q := 2) dX5_isSheet_1 ?_ rfl
  refine J.callS2i (q := 5) dX5_isSheet_2 mv_X5_isWithin kS_X5_isWithin kL_X5_59 ⟨by decide, by decide⟩ (Nat.le_of_ble_eq_true rfl) ⟨by decide, by decide⟩ rfl (c_X5_isWithin (by omega) (by omega)) ?_
  refine J.zreturn dX5_isSheet_5 rfl b2_01 ?_
  first
  | exact ⟨rfl, rfl, rfl⟩
  | (refine ⟨congrArg (fun z => some (i_ z)) ?_, rfl, rfl⟩; first | rfl | omega | (simp only [b2]; split <;> omega) | (simp only [b2, *]; split <;> omega))

set_option maxRecDepth 100000 in
set_option maxHeartbeats 4000000 in
theorem c_X5_isBits {l : Launch} {F : Nat × (Int → Int)} {iv : Mm} {v : Int} (hv : -2147483648 ≤ v ∧ v < 2147483648) : Ctr l F 0 0 0 yX5_isBits cX5_isBits 1 (some FieldType.boolean) [i_ v] S0 (iv) (Ret (some (i_ (b2 (v = 0 ∨ v = 8 ∨ v = 16 ∨ v = 32)))) S0 iv) := by
  refine Ctr.of false (fun h => by cases h) (by decide) rfl (Nat.le_of_ble_eq_true rfl) ?_
  refine J.iload_n (q := 1) dX5_isBits_0 rfl ?_ rfl
  refine J.if_eq (tgt := 22) (q := 4) dX5_isBits_1 rfl rfl (fun c1 => ?_) (fun c1 => ?_)
  · refine J.iconst (q := 23) dX5_isBits_22 ?_ rfl
    refine J.goto (tgt := 27) dX5_isBits_23 rfl ?_
    refine J.zreturn dX5_isBits_27 rfl (by omega) ?_
    first
    | exact ⟨rfl, rfl, rfl⟩
    | (refine ⟨congrArg (fun z => some (i_ z)) ?_, rfl, rfl⟩; first | rfl | omega | (simp only [b2]; split <;> omega) | (simp only [b2, *]; split <;> omega))
  · refine J.iload_n (q := 5) dX5_isBits_4 rfl ?_ rfl
    refine J.bipush (q := 7) dX5_isBits_5 (by decide) ?_ rfl
    refine J.icmp_eq (tgt := 22) (q := 10) dX5_isBits_7 rfl rfl (fun c7 => ?_) (fun c7 => ?_)
    · refine J.iconst (q := 23) dX5_isBits_22 ?_ rfl
      refine J.goto (tgt := 27) dX5_isBits_23 rfl ?_
      refine J.zreturn dX5_isBits_27 rfl (by omega) ?_
      first
      | exact ⟨rfl, rfl, rfl⟩
      | (refine ⟨congrArg (fun z => some (i_ z)) ?_, rfl, rfl⟩; first | rfl | omega | (simp only [b2]; split <;> omega) | (simp only [b2, *]; split <;> omega))
    · refine J.iload_n (q := 11) dX5_isBits_10 rfl ?_ rfl
      refine J.bipush (q := 13) dX5_isBits_11 (by decide) ?_ rfl
      refine J.icmp_eq (tgt := 22) (q := 16) dX5_isBits_13 rfl rfl (fun c13 => ?_) (fun c13 => ?_)
      · refine J.iconst (q := 23) dX5_isBits_22 ?_ rfl
        refine J.goto (tgt := 27) dX5_isBits_23 rfl ?_
        refine J.zreturn dX5_isBits_27 rfl (by omega) ?_
        first
        | exact ⟨rfl, rfl, rfl⟩
        | (refine ⟨congrArg (fun z => some (i_ z)) ?_, rfl, rfl⟩; first | rfl | omega | (simp only [b2]; split <;> omega) | (simp only [b2, *]; split <;> omega))
      · refine J.iload_n (q := 17) dX5_isBits_16 rfl ?_ rfl
        refine J.bipush (q := 19) dX5_isBits_17 (by decide) ?_ rfl
        refine J.icmp_ne (tgt := 26) (q := 22) dX5_isBits_19 rfl rfl (fun c19 => ?_) (fun c19 => ?_)
        · refine J.iconst (q := 27) dX5_isBits_26 ?_ rfl
          refine J.zreturn dX5_isBits_27 rfl (by omega) ?_
          first
          | exact ⟨rfl, rfl, rfl⟩
          | (refine ⟨congrArg (fun z => some (i_ z)) ?_, rfl, rfl⟩; first | rfl | omega | (simp only [b2]; split <;> omega) | (simp only [b2, *]; split <;> omega))
        · refine J.iconst (q := 23) dX5_isBits_22 ?_ rfl
          refine J.goto (tgt := 27) dX5_isBits_23 rfl ?_
          refine J.zreturn dX5_isBits_27 rfl (by omega) ?_
          first
          | exact ⟨rfl, rfl, rfl⟩
          | (refine ⟨congrArg (fun z => some (i_ z)) ?_, rfl, rfl⟩; first | rfl | omega | (simp only [b2]; split <;> omega) | (simp only [b2, *]; split <;> omega))

set_option maxRecDepth 100000 in
set_option maxHeartbeats 4000000 in
theorem c_X5_isSnail {l : Launch} {F : Nat × (Int → Int)} {iv : Mm} {v m : Int} (hv : -2147483648 ≤ v ∧ v < 2147483648) (em : iv 1 11 = m) (hm : 0 ≤ m ∧ m ≤ 8) : Ctr l F 0 0 0 yX5_isSnail cX5_isSnail 2 (some FieldType.boolean) [r_ 0, i_ v] S0 (iv) (Ret (some (i_ (b2 (0 ≤ v ∧ v ≤ m - 1)))) S0 iv) := by
  refine Ctr.of false (fun h => by cases h) (by decide) rfl (Nat.le_of_ble_eq_true rfl) ?_
  subst em
  refine J.iload_n (q := 1) dX5_isSnail_0 rfl ?_ rfl
  refine J.if_lt (tgt := 19) (q := 4) dX5_isSnail_1 rfl rfl (fun c1 => ?_) (fun c1 => ?_)
  · refine J.iconst (q := 20) dX5_isSnail_19 ?_ rfl
    refine J.zreturn dX5_isSnail_20 rfl (by omega) ?_
    first
    | exact ⟨rfl, rfl, rfl⟩
    | (refine ⟨congrArg (fun z => some (i_ z)) ?_, rfl, rfl⟩; first | rfl | omega | (simp only [b2]; split <;> omega) | (simp only [b2, *]; split <;> omega))
  · refine J.iload_n (q := 5) dX5_isSnail_4 rfl ?_ rfl
    refine J.aload_n (q := 6) dX5_isSnail_5 rfl ?_ rfl
    refine J.getR (ci := 5) (k0 := 0) (c1 := 1) (q := 9) dX5_isSnail_6 kF_X5_12 rfl (by decide) (by decide) rfl (by decide) rfl ?_ rfl
    refine J.getI (ci := 1) (k0 := 11) (kz := 11) (q := 12) dX5_isSnail_9 kF_X5_289 rfl (by decide) (by decide) rfl (.inl rfl) ?_ rfl
    refine J.icmp_ge (tgt := 19) (q := 15) dX5_isSnail_12 rfl rfl (fun c12 => ?_) (fun c12 => ?_)
    · refine J.iconst (q := 20) dX5_isSnail_19 ?_ rfl
      refine J.zreturn dX5_isSnail_20 rfl (by omega) ?_
      first
      | exact ⟨rfl, rfl, rfl⟩
      | (refine ⟨congrArg (fun z => some (i_ z)) ?_, rfl, rfl⟩; first | rfl | omega | (simp only [b2]; split <;> omega) | (simp only [b2, *]; split <;> omega))
    · refine J.iconst (q := 16) dX5_isSnail_15 ?_ rfl
      refine J.goto (tgt := 20) dX5_isSnail_16 rfl ?_
      refine J.zreturn dX5_isSnail_20 rfl (by omega) ?_
      first
      | exact ⟨rfl, rfl, rfl⟩
      | (refine ⟨congrArg (fun z => some (i_ z)) ?_, rfl, rfl⟩; first | rfl | omega | (simp only [b2]; split <;> omega) | (simp only [b2, *]; split <;> omega))

set_option maxRecDepth 100000 in
set_option maxHeartbeats 4000000 in
theorem c_X5_tell {l : Launch} {F : Nat × (Int → Int)} {iv A : Mm} {w : Int} (hw : 0 ≤ w ∧ w ≤ 6) (hC : CR iv A) {x : Int} (hx : x = -1000001 - w) : Ctr l F 1 0 0 yX5_tell cX5_tell 3 (some FieldType.int) [r_ 0, i_ x] S0 (iv) (CP iv (bad A w)) := by
  refine Ctr.of false (fun h => by cases h) (by decide) rfl (Nat.le_of_ble_eq_true rfl) ?_
  obtain ⟨w2, e2⟩ : ∃ w2 : Int, -1000001 - x = w2 := ⟨_, rfl⟩
  have hww : w2 = w := by omega
  subst hww
  refine J.ldc (q := 2) (z := -1000001) dX5_tell_0 kK_X5_63 ?_ rfl
  refine J.iload_n (q := 3) dX5_tell_2 rfl ?_ rfl
  refine J.isub (q := 4) dX5_tell_3 ?_ rfl
  rw [e2]
  refine J.istore_n (q := 5) dX5_tell_4 (Nat.le_of_ble_eq_true rfl) ?_ rfl
  refine J.iload_n (q := 6) dX5_tell_5 rfl ?_ rfl
  refine J.bipush (q := 8) dX5_tell_6 (by decide) ?_ rfl
  refine J.callS2i (q := 11) dX5_tell_8 mv_X5_isWithin kS_X5_isWithin kL_X5_59 ⟨by decide, by decide⟩ (Nat.le_of_ble_eq_true rfl) ⟨by decide, by decide⟩ rfl (c_X5_isWithin (by omega) (by omega)) ?_
  refine J.ifb_eq (tgt := 24) (q := 14) dX5_tell_11 rfl rfl (fun c11 => ?_) (fun c11 => ?_)
  · refine J.iload_n (q := 25) dX5_tell_24 rfl ?_ rfl
    refine J.ireturn dX5_tell_25 rfl ?_
    first
    | (rcases hC.er (w := w2) with h | h
       · exact ⟨by rw [hx]; rfl, rfl, fun q hq => up_n _ _ _ (by omega), h⟩
       · exfalso; omega)
    | (exfalso; omega)
  · refine J.aload_n (q := 15) dX5_tell_14 rfl ?_ rfl
    refine J.getR (ci := 5) (k0 := 6) (c1 := 60) (q := 18) dX5_tell_15 kF_X5_47 rfl (by decide) (by decide) rfl (by decide) rfl ?_ rfl
    refine J.iload_n (q := 19) dX5_tell_18 rfl ?_ rfl
    refine J.dup2 (q := 20) dX5_tell_19 rfl rfl ?_ rfl
    refine J.iald (n := 7) (q := 21) dX5_tell_20 rfl (by omega) ?_ rfl
    refine J.iconst (q := 22) dX5_tell_21 ?_ rfl
    refine J.iadd (q := 23) dX5_tell_22 ?_ rfl
    refine J.iast (n := 7) (q := 24) dX5_tell_23 rfl (by omega) ?_ rfl
    refine J.iload_n (q := 25) dX5_tell_24 rfl ?_ rfl
    refine J.ireturn dX5_tell_25 rfl ?_
    first
    | (rcases hC.er (w := w2) with h | h
       · exact ⟨by rw [hx]; rfl, rfl, fun q hq => up_n _ _ _ (by omega), h⟩
       · exfalso; omega)
    | (exfalso; omega)

def bsC (c w : Int) : Int := if besM c w < 0 then -1 else besM c w
set_option maxRecDepth 100000 in
set_option maxHeartbeats 4000000 in
theorem c_X5_beside {l : Launch} {F : Nat × (Int → Int)} {iv : Mm} {c w : Int} (hc : 0 ≤ c ∧ c ≤ 80) (hw : 0 ≤ w ∧ w ≤ 3) : Ctr l F 0 0 0 yX5_beside cX5_beside 2 (some FieldType.int) [i_ c, i_ w] S0 (iv) (Ret (some (i_ (bsC c w))) S0 iv) := by
  refine Ctr.of false (fun h => by cases h) (by decide) rfl (Nat.le_of_ble_eq_true rfl) ?_
  refine J.iload_n (q := 1) dX5_beside_0 rfl ?_ rfl
  rcases (show (w < 0 ∨ 2 < w) ∨ w = 0 ∨ w = 1 ∨ w = 2 by omega) with hO | hx1 | hx1 | hx1
  · refine J.tabOut (tgt := 75) dX5_beside_1 (by omega) hO rfl ?_
    refine J.iload_n (q := 76) dX5_beside_75 rfl ?_ rfl
    refine J.bipush (q := 78) dX5_beside_76 (by decide) ?_ rfl
    refine J.irem (q := 79) dX5_beside_78 (I3_rem (by omega) (by omega) rfl) (I3_n0 (by omega)) ?_ rfl
    refine J.if_le (tgt := 88) (q := 82) dX5_beside_79 rfl rfl (fun c79 => ?_) (fun c79 => ?_)
    · refine J.iconst (q := 89) dX5_beside_88 ?_ rfl
      refine J.ireturn dX5_beside_89 rfl ?_
      refine ⟨congrArg (fun z => some (i_ z)) ?_, rfl, rfl⟩
      unfold bsC besM
      repeat (first | rw [if_pos (by omega)] | rw [if_neg (by omega)])
      try omega
    · refine J.iload_n (q := 83) dX5_beside_82 rfl ?_ rfl
      refine J.iconst (q := 84) dX5_beside_83 ?_ rfl
      refine J.isub (q := 85) dX5_beside_84 ?_ rfl
      refine J.goto (tgt := 89) dX5_beside_85 rfl ?_
      refine J.ireturn dX5_beside_89 rfl ?_
      refine ⟨congrArg (fun z => some (i_ z)) ?_, rfl, rfl⟩
      unfold bsC besM
      repeat (first | rw [if_pos (by omega)] | rw [if_neg (by omega)])
      try omega
  · refine J.tabIn (off := 27) (tgt := 28) dX5_beside_1 (by omega) (by omega) (by omega) (by rw [hx1]; rfl) rfl ?_
    refine J.iload_n (q := 29) dX5_beside_28 rfl ?_ rfl
    refine J.bipush (q := 31) dX5_beside_29 (by decide) ?_ rfl
    refine J.icmp_lt (tgt := 41) (q := 34) dX5_beside_31 rfl rfl (fun c31 => ?_) (fun c31 => ?_)
    · refine J.iconst (q := 42) dX5_beside_41 ?_ rfl
      refine J.ireturn dX5_beside_42 rfl ?_
      refine ⟨congrArg (fun z => some (i_ z)) ?_, rfl, rfl⟩
      unfold bsC besM
      repeat (first | rw [if_pos (by omega)] | rw [if_neg (by omega)])
      try omega
    · refine J.iload_n (q := 35) dX5_beside_34 rfl ?_ rfl
      refine J.bipush (q := 37) dX5_beside_35 (by decide) ?_ rfl
      refine J.isub (q := 38) dX5_beside_37 ?_ rfl
      refine J.goto (tgt := 42) dX5_beside_38 rfl ?_
      refine J.ireturn dX5_beside_42 rfl ?_
      refine ⟨congrArg (fun z => some (i_ z)) ?_, rfl, rfl⟩
      unfold bsC besM
      repeat (first | rw [if_pos (by omega)] | rw [if_neg (by omega)])
      try omega
  · refine J.tabIn (off := 42) (tgt := 43) dX5_beside_1 (by omega) (by omega) (by omega) (by rw [hx1]; rfl) rfl ?_
    refine J.iload_n (q := 44) dX5_beside_43 rfl ?_ rfl
    refine J.bipush (q := 46) dX5_beside_44 (by decide) ?_ rfl
    refine J.irem (q := 47) dX5_beside_46 (I3_rem (by omega) (by omega) rfl) (I3_n0 (by omega)) ?_ rfl
    refine J.bipush (q := 49) dX5_beside_47 (by decide) ?_ rfl
    refine J.icmp_ge (tgt := 58) (q := 52) dX5_beside_49 rfl rfl (fun c49 => ?_) (fun c49 => ?_)
    · refine J.iconst (q := 59) dX5_beside_58 ?_ rfl
      refine J.ireturn dX5_beside_59 rfl ?_
      refine ⟨congrArg (fun z => some (i_ z)) ?_, rfl, rfl⟩
      unfold bsC besM
      repeat (first | rw [if_pos (by omega)] | rw [if_neg (by omega)])
      try omega
    · refine J.iload_n (q := 53) dX5_beside_52 rfl ?_ rfl
      refine J.iconst (q := 54) dX5_beside_53 ?_ rfl
      refine J.iadd (q := 55) dX5_beside_54 ?_ rfl
      refine J.goto (tgt := 59) dX5_beside_55 rfl ?_
      refine J.ireturn dX5_beside_59 rfl ?_
      refine ⟨congrArg (fun z => some (i_ z)) ?_, rfl, rfl⟩
      unfold bsC besM
      repeat (first | rw [if_pos (by omega)] | rw [if_neg (by omega)])
      try omega
  · refine J.tabIn (off := 59) (tgt := 60) dX5_beside_1 (by omega) (by omega) (by omega) (by rw [hx1]; rfl) rfl ?_
    refine J.iload_n (q := 61) dX5_beside_60 rfl ?_ rfl
    refine J.bipush (q := 63) dX5_beside_61 (by decide) ?_ rfl
    refine J.icmp_ge (tgt := 73) (q := 66) dX5_beside_63 rfl rfl (fun c63 => ?_) (fun c63 => ?_)
    · refine J.iconst (q := 74) dX5_beside_73 ?_ rfl
      refine J.ireturn dX5_beside_74 rfl ?_
      refine ⟨congrArg (fun z => some (i_ z)) ?_, rfl, rfl⟩
      unfold bsC besM
      repeat (first | rw [if_pos (by omega)] | rw [if_neg (by omega)])
      try omega
    · refine J.iload_n (q := 67) dX5_beside_66 rfl ?_ rfl
      refine J.bipush (q := 69) dX5_beside_67 (by decide) ?_ rfl
      refine J.iadd (q := 70) dX5_beside_69 ?_ rfl
      refine J.goto (tgt := 74) dX5_beside_70 rfl ?_
      refine J.ireturn dX5_beside_74 rfl ?_
      refine ⟨congrArg (fun z => some (i_ z)) ?_, rfl, rfl⟩
      unfold bsC besM
      repeat (first | rw [if_pos (by omega)] | rw [if_neg (by omega)])
      try omega

