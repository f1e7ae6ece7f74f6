/-! PURE: what holds of the rows between two calls holds after each -/
theorem AI.r62 {A : Mm} (h : AI A) {s : Int → Int} (hs : MI 99999 s) : AI (setr A 62 s) := ⟨hs, h.2⟩
theorem AI.bad {A : Mm} (h : AI A) {w : Int} : AI (bad A w).2 := h
theorem MI.cg {D : Int} {s t : Int → Int} (h : MI D s) (e : ∀ j, 0 ≤ j → j < 307 → t j = s j) : MI D t := by
  refine ⟨?_, ?_, ?_, ?_, ?_, ?_, ?_, ?_, ?_⟩
  · rw [e 0 (by omega) (by omega)]; exact h.day
  · rw [e 1 (by omega) (by omega)]; exact h.cla
  · rw [e 2 (by omega) (by omega)]; exact h.many
  · rw [e 4 (by omega) (by omega)]; exact h.wet
  · rw [e 5 (by omega) (by omega)]; exact h.thr
  · intro j h1 h2; rw [e _ (by omega) (by omega)]; exact h.ban j h1 h2
  · intro c h1 h2; rw [e _ (by omega) (by omega), e _ (by omega) (by omega), e _ (by omega) (by omega)]; exact h.cel c h1 h2
  · intro k h1 h2; rw [e _ (by omega) (by omega), e _ (by omega) (by omega), e _ (by omega) (by omega), e _ (by omega) (by omega), e _ (by omega) (by omega)]; exact h.sna k h1 h2
  · intro j h1 h2; rw [e _ (by omega) (by omega), e 2 (by omega) (by omega)]; exact h.spo j h1 h2
theorem MI.rep {D : Int} {s : Int → Int} (h : MI D s) : MI D (repS s) := by
  have e : ∀ j : Int, ¬ (176 ≤ j ∧ j < 257) → repS s j = s j := fun j hj => if_neg hj
  have e2 : ∀ j : Int, (176 ≤ j ∧ j < 257) → repS s j = -1 := fun j hj => if_pos hj
  refine ⟨?_, ?_, ?_, ?_, ?_, ?_, ?_, ?_, ?_⟩
  · rw [e 0 (by omega)]; exact h.day
  · rw [e 1 (by omega)]; exact h.cla
  · rw [e 2 (by omega)]; exact h.many
  · rw [e 4 (by omega)]; exact h.wet
  · rw [e 5 (by omega)]; exact h.thr
  · intro j h1 h2; rw [e _ (by omega)]; exact h.ban j h1 h2
  · intro c h1 h2
    have := h.cel c h1 h2
    rw [e _ (by omega), e _ (by omega), e2 _ (by omega)]
    omega
  · intro k h1 h2; rw [e _ (by omega), e _ (by omega), e _ (by omega), e _ (by omega), e _ (by omega)]; exact h.sna k h1 h2
  · intro j h1 h2; rw [e _ (by omega), e 2 (by omega)]; exact h.spo j h1 h2
theorem runN_p {p : Int → Bool} : ∀ (n : Nat) (i j : Int), i ≤ j → j < runN p n i → p j = true
  | 0, i, j, h1, h2 => by
    rw [runN] at h2
    omega
  | n + 1, i, j, h1, h2 => by
    rw [runN] at h2
    by_cases hp : p i = true
    · rw [if_pos hp] at h2
      by_cases e : j = i
      · rw [e]; exact hp
      · exact runN_p n (i + 1) j (by omega) h2
    · rw [if_neg hp] at h2
      omega
theorem MI.lod {A : Mm} {z : Int} (hA : AI A) (hz : ¬ 0 ≤ wrgS A z) : MI 99999 (lodS A z) := by
  have h := hA.mi
  have hz2 : 0 ≤ z ∧ z ≤ 3 := by
    unfold wrgS at hz
    split at hz
    · assumption
    · omega
  have hs := hA.sh z hz2.1 hz2.2
  have hr := runN_rng (fun i => decide (0 ≤ A 76 (40 * z + i) ∧ A 76 (40 * z + i) ≤ 9)) (A 75 z).toNat 0
  have hR : lodN A z = runN (fun i => decide (0 ≤ A 76 (40 * z + i) ∧ A 76 (40 * z + i) ≤ 9)) (A 75 z).toNat 0 := rfl
  rw [← hR] at hr
  have hp : ∀ j : Int, 0 ≤ j → j < lodN A z → 0 ≤ A 76 (40 * z + j) ∧ A 76 (40 * z + j) ≤ 9 := fun j h1 h2 => by
    have := runN_p _ _ j h1 (hR ▸ h2)
    simpa using this
  have e : ∀ j : Int, ¬ (95 ≤ j ∧ j < 95 + lodN A z) → lodS A z j = A 62 j := fun j hj => if_neg hj
  have e2 : ∀ j : Int, (95 ≤ j ∧ j < 95 + lodN A z) → lodS A z j = A 76 (40 * z + (j - 95)) := fun j hj => if_pos hj
  refine ⟨?_, ?_, ?_, ?_, ?_, ?_, ?_, ?_, ?_⟩
  · rw [e 0 (by omega)]; exact h.day
  · rw [e 1 (by omega)]; exact h.cla
  · rw [e 2 (by omega)]; exact h.many
  · rw [e 4 (by omega)]; exact h.wet
  · rw [e 5 (by omega)]; exact h.thr
  · intro j h1 h2; rw [e _ (by omega)]; exact h.ban j h1 h2
  · intro c h1 h2
    have hcl := h.cel c h1 h2
    by_cases hc : c < lodN A z
    · rw [e (14 + c) (by omega), e2 (95 + c) (by omega), e (176 + c) (by omega), show (95 + c - 95 : Int) = c by omega]
      exact ⟨hcl.1, hp c h1 hc, hcl.2.2⟩
    · rw [e (14 + c) (by omega), e (95 + c) (by omega), e (176 + c) (by omega)]
      exact hcl
  · intro k h1 h2; rw [e _ (by omega), e _ (by omega), e _ (by omega), e _ (by omega), e _ (by omega)]; exact h.sna k h1 h2
  · intro j h1 h2; rw [e _ (by omega), e 2 (by omega)]; exact h.spo j h1 h2
theorem ai_hedge {A : Mm} (hA : AI A) {c v : Int} : AI (an_hedge A c v).2 := by
  unfold an_hedge
  split
  · refine hA.r62 (hA.mi.upd ?_ ?_ ?_ ?_ ?_ ?_ ?_ ?_ ?_) <;> first | omega | (intros; omega) | (intro a b d; refine ⟨?_, ?_, ?_, ?_, ?_⟩ <;> omega) | (intro a b d; refine ⟨?_, ?_, ?_⟩ <;> omega)
  · exact hA.bad
theorem ai_greens {A : Mm} (hA : AI A) {c v : Int} : AI (an_greens A c v).2 := by
  unfold an_greens
  split
  · refine hA.r62 (hA.mi.upd ?_ ?_ ?_ ?_ ?_ ?_ ?_ ?_ ?_) <;> first | omega | (intros; omega) | (intro a b d; refine ⟨?_, ?_, ?_, ?_, ?_⟩ <;> omega) | (intro a b d; refine ⟨?_, ?_, ?_⟩ <;> omega)
  · exact hA.bad
theorem ai_snail {A : Mm} (hA : AI A) {kd c : Int} : AI (an_snail A kd c).2 := by
  unfold an_snail
  split
  · rename_i h
    split
    · exact hA.bad
    · rename_i h8
      exact hA.r62 (addS_Ms (s0 := A 62) ⟨hA.mi, fun _ _ => rfl⟩ h8 h.1 h.2).1
  · exact hA.bad
theorem ai_change {A : Mm} (hA : AI A) {k w v : Int} : AI (an_change A k w v).2 := by
  have hm := hA.mi.many
  unfold an_change
  split
  · rename_i h
    obtain ⟨h1, h2, h3⟩ := h
    unfold mostT at h3
    rcases (show w = 0 ∨ w = 1 ∨ w = 2 ∨ w = 3 ∨ w = 4 by omega) with rfl | rfl | rfl | rfl | rfl <;> (try simp at h3) <;>
      (refine hA.r62 (hA.mi.upd ?_ ?_ ?_ ?_ ?_ ?_ ?_ ?_ ?_) <;> first | omega | (intros; omega) | (intro a b d; refine ⟨?_, ?_, ?_, ?_, ?_⟩ <;> omega) | (intro a b d; refine ⟨?_, ?_, ?_⟩ <;> omega))
  · exact hA.bad
theorem ai_bans {A : Mm} (hA : AI A) {w v : Int} : AI (an_bans A w v).2 := by
  unfold an_bans
  split
  · refine hA.r62 (hA.mi.upd ?_ ?_ ?_ ?_ ?_ ?_ ?_ ?_ ?_) <;> first | omega | (intros; omega) | (intro a b d; refine ⟨?_, ?_, ?_, ?_, ?_⟩ <;> omega) | (intro a b d; refine ⟨?_, ?_, ?_⟩ <;> omega)
  · exact hA.bad
theorem ai_set {A : Mm} (hA : AI A) {w v : Int} : AI (an_set A w v).2 := by
  unfold an_set
  split
  · refine hA.r62 (hA.mi.upd ?_ ?_ ?_ ?_ ?_ ?_ ?_ ?_ ?_) <;> first | omega | (intros; omega) | (intro a b d; refine ⟨?_, ?_, ?_, ?_, ?_⟩ <;> omega) | (intro a b d; refine ⟨?_, ?_, ?_⟩ <;> omega)
  · exact hA.bad
theorem MI.own {s : Int → Int} (h : MI 99999 s) : MI (s 0) s := ⟨⟨h.1.1, Int.le_refl _⟩, h.2⟩
theorem ai_go {A : Mm} (hA : AI A) {n : Int} : AI (an_go A n).2 := by
  unfold an_go
  split
  · split
    · exact hA.bad
    · have h := (dysM_MI (fr := fdst (A 62)) (th := th1) (X := P0 (A 62)) (D := A 62 0) hA.mi.own n.toNat).1
      exact hA.r62 (h.mono (by omega))
  · exact hA.bad
theorem ai_thrushes {A : Mm} (hA : AI A) {n : Int} : AI (an_thrushes A n).2 := by
  unfold an_thrushes
  split
  · split
    · exact hA.bad
    · have h := (thrD_MI (fr := fdst (A 62)) (Z := (P0 (A 62), 0)) (D := A 62 0) hA.mi.own n.toNat).1
      exact hA.r62 (h.mono (by omega))
  · exact hA.bad
theorem ai_repeals {A : Mm} (hA : AI A) : AI (an_repeals A).2 := hA.r62 hA.mi.rep
theorem ai_seed {A : Mm} (hA : AI A) {v : Int} : AI (an_seed A v).2 := by
  unfold an_seed
  refine hA.r62 (hA.mi.upd ?_ ?_ ?_ ?_ ?_ ?_ ?_ ?_ ?_) <;> first | omega | (intros; omega) | (intro a b d; refine ⟨?_, ?_, ?_, ?_, ?_⟩ <;> omega) | (intro a b d; refine ⟨?_, ?_, ?_⟩ <;> omega)
theorem ai_hold {A : Mm} (hA : AI A) {p k : Int} : AI (an_hold A p k).2 := by
  have hm := hA.mi.many
  unfold an_hold
  split
  · refine hA.r62 (hA.mi.upd ?_ ?_ ?_ ?_ ?_ ?_ ?_ ?_ ?_) <;> first | omega | (intros; omega) | (intro a b d; refine ⟨?_, ?_, ?_, ?_, ?_⟩ <;> omega) | (intro a b d; refine ⟨?_, ?_, ?_⟩ <;> omega)
  · exact hA.bad
theorem ai_wipe {A : Mm} (hA : AI A) : AI (an_wipe A).2 :=
  ⟨hA.mi, hA.2.1, hA.2.2.1, ⟨by show (0 : Int) ≤ 0; omega, by show (0 : Int) ≤ 120; omega⟩, hA.by, hA.sh, hA.nu⟩
theorem ai_tear {A : Mm} (hA : AI A) : AI (an_tear A).2 :=
  ⟨hA.mi, ⟨by show (0 : Int) ≤ 0; omega, by show (0 : Int) ≤ 1; omega⟩, fun h => absurd (show (0 : Int) = 1 from h) (by omega), hA.tp, hA.by, hA.sh, hA.nu⟩
theorem ai_image {A : Mm} (hA : AI A) : AI (an_image A).2 :=
  ⟨hA.mi, ⟨by show (0 : Int) ≤ 1; omega, by show (1 : Int) ≤ 1; omega⟩, fun _ => hA.mi.cg (fun j h0 h1 => if_pos ⟨h0, h1⟩), hA.tp, hA.by, hA.sh, hA.nu⟩
theorem ai_undo {A : Mm} (hA : AI A) : AI (an_undo A).2 := by
  unfold an_undo
  split
  · exact hA.bad
  · exact hA.r62 ((hA.2.2.1 (by have := hA.kp; omega)).cg (fun j h0 h1 => if_pos ⟨h0, h1⟩))
theorem ai_feed {A : Mm} (hA : AI A) {b n : Int} : AI (an_feed A b n).2 := by
  unfold an_feed
  split
  · split
    · exact hA.bad
    · have ht := hA.tp
      refine ⟨hA.mi, hA.2.1, hA.2.2.1, ⟨by show 0 ≤ A 61 10 + n; omega, by show A 61 10 + n ≤ 120; omega⟩, fun j h0 h1 => ?_, hA.sh, hA.nu⟩
      show 0 ≤ (if A 61 10 ≤ j ∧ j < A 61 10 + n then b / 2 ^ (8 * (n - 1 - (j - A 61 10))).toNat % 256 else A 70 j) ∧ (if A 61 10 ≤ j ∧ j < A 61 10 + n then b / 2 ^ (8 * (n - 1 - (j - A 61 10))).toNat % 256 else A 70 j) ≤ 255
      split
      · omega
      · exact hA.by j h0 h1
  · exact hA.bad
theorem ai_sheet {A : Mm} (hA : AI A) {z w n : Int} : AI (an_sheet A z w n).2 := by
  unfold an_sheet
  split
  · rename_i h
    split
    · exact hA.bad
    · split
      · exact hA.bad
      · refine ⟨hA.mi, hA.2.1, hA.2.2.1, hA.tp, hA.by, fun y y0 y1 => ?_, fun j h0 h1 => ?_⟩
        · show (upr (A 74) z w y = 0 ∨ upr (A 74) z w y = 8 ∨ upr (A 74) z w y = 16 ∨ upr (A 74) z w y = 32) ∧ (0 ≤ upr (A 75) z (if w = 0 then 0 else n) y ∧ upr (A 75) z (if w = 0 then 0 else n) y ≤ 40) ∧ (upr (A 74) z w y = 0 → upr (A 75) z (if w = 0 then 0 else n) y = 0)
          by_cases e : y = z
          · subst e
            rw [upr_s, upr_s]
            refine ⟨h.2, ?_, fun e => if_pos e⟩
            split <;> omega
          · rw [upr_n _ _ e, upr_n _ _ e]
            exact hA.sh y y0 y1
        · show -2147483648 ≤ zerS (A 76) z j ∧ zerS (A 76) z j < 2147483648
          unfold zerS
          split
          · omega
          · exact hA.nu j h0 h1
  · exact hA.bad
theorem ai_write {A : Mm} (hA : AI A) {z i v : Int} (hv : -2147483648 ≤ v ∧ v < 2147483648) : AI (an_write A z i v).2 := by
  unfold an_write
  split
  · exact hA.bad
  · split
    · refine ⟨hA.mi, hA.2.1, hA.2.2.1, hA.tp, hA.by, hA.sh, fun j h0 h1 => ?_⟩
      show -2147483648 ≤ upr (A 76) (40 * z + i) (cutW (A 74 z) v) j ∧ upr (A 76) (40 * z + i) (cutW (A 74 z) v) j < 2147483648
      by_cases e : j = 40 * z + i
      · rw [e, upr_s]
        unfold cutW
        simp only [Int.bmod_def]
        split
        · omega
        · split <;> omega
      · rw [upr_n _ _ e]
        exact hA.nu j h0 h1
    · exact hA.bad
theorem ai_copy {A : Mm} (hA : AI A) {z x t y n : Int} : AI (an_copy A z x t y n).2 := by
  unfold an_copy
  split
  · rename_i h
    split
    · exact hA.bad
    · split
      · exact hA.bad
      · split
        · exact hA.bad
        · have h1 := hA.sh z h.1.1 h.1.2
          refine ⟨hA.mi, hA.2.1, hA.2.2.1, hA.tp, hA.by, hA.sh, fun j j0 j1 => ?_⟩
          show -2147483648 ≤ cpyS (A 76) (40 * z + x) (40 * t + y) n j ∧ cpyS (A 76) (40 * z + x) (40 * t + y) n j < 2147483648
          unfold cpyS
          split
          · exact hA.nu _ (by omega) (by omega)
          · exact hA.nu j j0 j1
  · exact hA.bad
theorem ai_load {A : Mm} (hA : AI A) {z : Int} : AI (an_load A z).2 := by
  unfold an_load
  split
  · exact hA.bad
  · rename_i h
    exact hA.r62 (MI.lod hA h)
theorem txL_Ms {s0 : Int → Int} {T WL WM WO : Int → Int} {z : Int} (hL : ∀ q, WL q ≤ 6) (hO : ∀ q, WO q ≤ 4) : ∀ (f : Nat) (m : Int) (X : Pst), Ms s0 X.2.1 → Ms s0 (txL T z WL WM WO f m X).2.2.1
  | 0, m, X, h => h
  | f + 1, m, X, h => by
    rw [txL]
    split
    · exact txL_Ms hL hO f (m + 1) _ (rdIt_Ms (hL _) (hO _) h)
    · exact h
theorem ai_text {A : Mm} (hA : AI A) : AI (an_text A).2 := by
  have hw : ∀ s : Int → Int, MI 99999 s → AI (setr (setr A 62 s) 61 (upr (A 61) 10 0)) := fun s hs =>
    ⟨hs, hA.2.1, hA.2.2.1, ⟨by show (0 : Int) ≤ 0; omega, by show (0 : Int) ≤ 120; omega⟩, hA.by, hA.sh, hA.nu⟩
  unfold an_text
  split
  · refine hw _ ?_
    have hL : ∀ q, wd (A 71) 7 (A 70) (A 61 10) q ≤ 6 := fun q => by have := (wd_rng (A 71) 7 (A 70) (A 61 10) q).2; omega
    have hO : ∀ q, wd (A 73) 5 (A 70) (A 61 10) q ≤ 4 := fun q => by have := (wd_rng (A 73) 5 (A 70) (A 61 10) q).2; omega
    exact (txL_Ms (s0 := A 62) hL hO 121 1 _ (rdIt_Ms (hL _) (hO _) ⟨hA.mi, fun _ _ => rfl⟩)).1
  · exact ⟨hA.mi, hA.2.1, hA.2.2.1, ⟨by show (0 : Int) ≤ 0; omega, by show (0 : Int) ≤ 120; omega⟩, hA.by, hA.sh, hA.nu⟩
/-- between two calls: the class's rows tell the state of the reference's, which is in order -/
def LV (iv : Mm) : Prop := CR iv (hi iv) ∧ AI (hi iv) ∧ WI (hi iv)
theorem hi_eq {iv iv2 : Mm} (h : ∀ q, 61 ≤ q → iv2 q = iv q) : hi iv2 = hi iv := by
  funext q
  unfold hi
  split
  · rfl
  · exact h q (by omega)
theorem LV.go {iv iv2 iv3 B : Mm} (h : LV iv) (h1 : ∀ q, 61 ≤ q → iv2 q = iv q) (h2 : CR iv2 B) (h3 : ∀ q, (q ≤ 60 ∨ (71 ≤ q ∧ q ≤ 73)) → iv3 q = iv2 q) (h4 : Like iv3 B) (h5 : AI B) : LV iv3 := by
  obtain ⟨l62, l63, l65, l70, l74, l75, l76, l3, l10⟩ := h4
  refine ⟨?_, ?_, ?_⟩
  · have c := h2.fr (iv2 := iv3) (fun q hq => h3 q (by omega))
    refine ⟨?_, fun e => ?_, ?_, fun k k0 k1 => ?_, ?_, fun j j0 j1 => ?_, fun z z0 z1 => ?_, fun j j0 j1 => ?_⟩
    · show RR iv3 1 (iv3 62); rw [l62]; exact c.r
    · show RR iv3 13 (iv3 63); rw [l63]; exact c.k (l3 ▸ e)
    · show iv3 0 7 = iv3 61 3; rw [l3]; exact c.i
    · show iv3 60 k = iv3 65 k; rw [l65]; exact c.e k k0 k1
    · show iv3 50 0 = iv3 61 10; rw [l10]; exact c.z
    · show iv3 51 j = iv3 70 j; rw [l70]; exact c.t j j0 j1
    · show iv3 57 z = iv3 74 z ∧ iv3 58 z = iv3 75 z; rw [l74, l75]; exact c.s z z0 z1
    · show iv3 59 j = iv3 76 j; rw [l76]; exact c.n j j0 j1
  · refine ⟨?_, ?_, fun e => ?_, ?_, ?_, ?_, ?_⟩
    · show MI 99999 (iv3 62); rw [l62]; exact h5.mi
    · show 0 ≤ iv3 61 3 ∧ iv3 61 3 ≤ 1; rw [l3]; exact h5.kp
    · show MI 99999 (iv3 63); rw [l63]; exact h5.2.2.1 (l3 ▸ e)
    · show 0 ≤ iv3 61 10 ∧ iv3 61 10 ≤ 120; rw [l10]; exact h5.tp
    · show ∀ j, 0 ≤ j → j < 120 → 0 ≤ iv3 70 j ∧ iv3 70 j ≤ 255; rw [l70]; exact h5.by
    · show ∀ z, 0 ≤ z → z ≤ 3 → (iv3 74 z = 0 ∨ iv3 74 z = 8 ∨ iv3 74 z = 16 ∨ iv3 74 z = 32) ∧ (0 ≤ iv3 75 z ∧ iv3 75 z ≤ 40) ∧ (iv3 74 z = 0 → iv3 75 z = 0); rw [l74, l75]; exact h5.sh
    · show ∀ j, 0 ≤ j → j < 160 → -2147483648 ≤ iv3 76 j ∧ iv3 76 j < 2147483648; rw [l76]; exact h5.nu
  · have w := h.2.2
    refine ⟨fun j j0 j1 => ?_, fun j j0 j1 => ?_, fun j j0 j1 => ?_⟩
    · show iv3 71 j = _; rw [h3 71 (by omega), h1 71 (by omega)]; exact w.1 j j0 j1
    · show iv3 72 j = _; rw [h3 72 (by omega), h1 72 (by omega)]; exact w.2.1 j j0 j1
    · show iv3 73 j = _; rw [h3 73 (by omega), h1 73 (by omega)]; exact w.2.2 j j0 j1
theorem g_alph : Alph g71 56 ∧ Alph g72 32 ∧ Alph g73 40 := by
  have k : ∀ (L : List Int) (n : Nat), (∀ j : Nat, j < n → L.getD j 32 = 32 ∨ (97 ≤ L.getD j 32 ∧ L.getD j 32 ≤ 122)) → ∀ j : Int, 0 ≤ j → j < (n : Int) → L.getD j.toNat 32 = 32 ∨ (97 ≤ L.getD j.toNat 32 ∧ L.getD j.toNat 32 ≤ 122) := fun L n h j h0 h1 => h j.toNat (by omega)
  exact ⟨k _ 56 (by decide +kernel), k _ 32 (by decide +kernel), k _ 40 (by decide +kernel)⟩
theorem WI.alph {A : Mm} (h : WI A) : Alph (A 71) 56 ∧ Alph (A 72) 32 ∧ Alph (A 73) 40 :=
  ⟨fun j j0 j1 => by rw [h.1 j j0 j1]; exact g_alph.1 j j0 j1, fun j j0 j1 => by rw [h.2.1 j j0 j1]; exact g_alph.2.1 j j0 j1, fun j j0 j1 => by rw [h.2.2 j j0 j1]; exact g_alph.2.2 j j0 j1⟩
