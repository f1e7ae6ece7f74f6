/-! THE ROWS OF J that make cells; Math.min, System.arraycopy (printed by wip/whole/gen_rules4.py) -/
def nwS (S : Shp) (kd : Nat × Nat) : Shp := (S.1 + 1, (fun q => if q = S.1 then kd else S.2.1 q), (fun q => if q = S.1 then (fun _ => 9999) else S.2.2 q))
def nwI (S : Shp) (iv : Mm) : Mm := fun q => if q = S.1 then (fun _ => 0) else iv q
def upR (S : Shp) (q k c : Nat) : Shp := (S.1, S.2.1, fun p => if p = q then (fun j => if j = k then c else S.2.2 q j) else S.2.2 p)
theorem WFS.nw {S : Shp} {kd : Nat × Nat} (h : WFS S) (hk : kd.2 < 65536) (hn : S.1 + 1 < 1000) : WFS (nwS S kd) := by
  refine ⟨fun q hq => ?_, fun q => ?_, hn⟩
  · show (if q = S.1 then kd else S.2.1 q) = (99, 0)
    have hq : S.1 + 1 ≤ q := hq
    rw [if_neg (by omega)]
    exact h.1 q (by omega)
  · show (if q = S.1 then kd else S.2.1 q).2 < 65536
    by_cases hq : q = S.1
    · rw [if_pos hq]; exact hk
    · rw [if_neg hq]; exact h.2.1 q
theorem enc_nw {cI cZ cC : ClassId} {base : Nat} {S : Shp} {iv : Mm} {kd : Nat × Nat} : enc cI cZ cC base (nwS S kd) (nwI S iv) = enc cI cZ cC base S iv ++ [(base + S.1, wE cI cZ cC base kd (fun _ => 9999) (fun _ => 0))] := by
  unfold enc
  show (List.range (S.1 + 1)).map _ = _
  rw [List.range_succ, List.map_append]
  congr 1
  · apply List.map_congr_left
    intro k hk
    have hk := List.mem_range.mp hk
    have : k ≠ S.1 := by omega
    simp only [nwS, nwI, if_neg this]
  · simp [nwS, nwI]
theorem HF.nw {D : va_G} {cI cZ cC : ClassId} {base : Nat} {s : State} {S : Shp} {iv : Mm} {H H1 : Heap} {locs : List Loc} {kd : Nat × Nat} (hH : HF D cI cZ cC base s S iv H locs) (hk : kd.2 < 65536) (hn : S.1 + 1 < 1000)
    (hat : va_at D vwCl (base + S.1, wE cI cZ cC base kd (fun _ => 9999) (fun _ => 0)) H1) (z : H1.size = H.size + 1) (oq : ∀ q : Nat, q < H.size → H1[q]? = H[q]?) : HF D cI cZ cC base s (nwS S kd) (nwI S iv) H1 locs := by
  obtain ⟨hP, hS, hsz, hWf⟩ := hH
  refine ⟨?_, ⟨Nat.le_trans hS.1 (by omega), fun x h1 h2 => (oq x (Nat.lt_of_lt_of_le h1 hS.1)).trans (hS.2.1 x h1 h2), hS.2.2⟩, ?_, hWf.nw hk hn⟩
  · rw [enc_nw]
    refine (hP.kept (fun k x hx => oq x.1 (hP k x hx).lt)).app (fun k x hx => ?_)
    have hz : k < 1 := (List.getElem?_eq_some_iff.mp hx).1
    rw [show k = 0 by omega] at hx
    cases hx
    exact hat
  · show H1.size = base + (S.1 + 1)
    omega
theorem cb_ok {ty : FieldType} {N : Nat} (h : componentBytes ty ≤ 8) (hN : N < 65536) : N * componentBytes ty ≤ 536870912 := by
  have := Nat.mul_le_mul (Nat.le_of_lt hN) h
  omega
def okTy (ty : FieldType) : Bool := match ty with
  | .int => true
  | .boolean => true
  | .long => true
  | .object _ => true
  | .array _ => true
  | _ => false
theorem wF_def {base : Nat} {ty : FieldType} (h : okTy ty = true) : defaultValue ty = wF base ty 9999 0 := by
  cases ty <;> first | rfl | (cases h; done)
theorem c_ok {ci : Nat} (h : ci < 7) : ∀ j, j < cN ci → okTy (cY ci j) = true := by
  rcases (show ci = 0 ∨ ci = 1 ∨ ci = 2 ∨ ci = 3 ∨ ci = 4 ∨ ci = 5 ∨ ci = 6 by omega) with rfl | rfl | rfl | rfl | rfl | rfl | rfl <;> decide +kernel
