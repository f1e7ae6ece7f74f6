/-! the class: traits, ways, days (printed by wip/whole/m_c7.py) -/
theorem hth255 : ∀ k : Int, 0 ≤ k → k < 8 → ((255 : Int) / 2 ^ k.toNat % 2 = 1 ↔ th1 k = true) := by
  intro k h0 h1
  obtain ⟨K, rfl⟩ := Int.eq_ofNat_of_zero_le h0
  have h : ∀ K : Nat, K < 8 → (255 : Int) / 2 ^ K % 2 = 1 := by decide
  rw [Int.toNat_natCast]
  exact ⟨fun _ => rfl, fun _ => h K (by omega)⟩
theorem tF2_m {w : Int} (h : 0 ≤ w ∧ w ≤ 4) : tF2.getD w.toNat 0 = mostT w := by
  rcases (show w = 0 ∨ w = 1 ∨ w = 2 ∨ w = 3 ∨ w = 4 by omega) with rfl | rfl | rfl | rfl | rfl <;> rfl
theorem mostT_r (w : Int) : 6 ≤ mostT w ∧ mostT w ≤ 99 := by
  unfold mostT
  repeat' split
  all_goals omega
set_option maxRecDepth 100000 in
set_option maxHeartbeats 4000000 in
theorem c_traitRow_0 {l : Launch} {F : Nat × (Int → Int)} {iv : Mm} {w : Int} (hw : w = 0) : Ctr l F 0 0 0 yX1_traitRow cX1_traitRow 2 (some (FieldType.array FieldType.int)) [r_ 1, i_ w] S0 (iv) (Ret (some (r_ 7)) S0 iv) := by
  refine Ctr.of false (fun h => by cases h) (by decide) rfl (Nat.le_of_ble_eq_true rfl) ?_
  refine J.iload_n (q := 1) dX1_traitRow_0 rfl ?_ rfl
  rcases (show (w < 0 ∨ 3 < w) ∨ w = 0 ∨ w = 1 ∨ w = 2 ∨ w = 3 by omega) with hO | hx1 | hx1 | hx1 | hx1
  · refine J.tabOut (tgt := 52) dX1_traitRow_1 (by omega) hO rfl ?_
    refine J.aload_n (q := 53) dX1_traitRow_52 rfl ?_ rfl
    refine J.getR (ci := 1) (k0 := 9) (c1 := 11) (q := 56) dX1_traitRow_53 kF_X1_39 rfl (by decide) (by decide) rfl (by decide) rfl ?_ rfl
    refine J.areturn dX1_traitRow_56 ⟨_, rfl, Or.inr ⟨_, rfl⟩⟩ ?_
    first
    | exact ⟨rfl, rfl, rfl⟩
    | (exfalso; omega)
  · refine J.tabIn (off := 31) (tgt := 32) dX1_traitRow_1 (by omega) (by omega) (by omega) (by rw [hx1]; rfl) rfl ?_
    refine J.aload_n (q := 33) dX1_traitRow_32 rfl ?_ rfl
    refine J.getR (ci := 1) (k0 := 5) (c1 := 7) (q := 36) dX1_traitRow_33 kF_X1_27 rfl (by decide) (by decide) rfl (by decide) rfl ?_ rfl
    refine J.areturn dX1_traitRow_36 ⟨_, rfl, Or.inr ⟨_, rfl⟩⟩ ?_
    first
    | exact ⟨rfl, rfl, rfl⟩
    | (exfalso; omega)
  · refine J.tabIn (off := 36) (tgt := 37) dX1_traitRow_1 (by omega) (by omega) (by omega) (by rw [hx1]; rfl) rfl ?_
    refine J.aload_n (q := 38) dX1_traitRow_37 rfl ?_ rfl
    refine J.getR (ci := 1) (k0 := 6) (c1 := 8) (q := 41) dX1_traitRow_38 kF_X1_30 rfl (by decide) (by decide) rfl (by decide) rfl ?_ rfl
    refine J.areturn dX1_traitRow_41 ⟨_, rfl, Or.inr ⟨_, rfl⟩⟩ ?_
    first
    | exact ⟨rfl, rfl, rfl⟩
    | (exfalso; omega)
  · refine J.tabIn (off := 41) (tgt := 42) dX1_traitRow_1 (by omega) (by omega) (by omega) (by rw [hx1]; rfl) rfl ?_
    refine J.aload_n (q := 43) dX1_traitRow_42 rfl ?_ rfl
    refine J.getR (ci := 1) (k0 := 7) (c1 := 9) (q := 46) dX1_traitRow_43 kF_X1_33 rfl (by decide) (by decide) rfl (by decide) rfl ?_ rfl
    refine J.areturn dX1_traitRow_46 ⟨_, rfl, Or.inr ⟨_, rfl⟩⟩ ?_
    first
    | exact ⟨rfl, rfl, rfl⟩
    | (exfalso; omega)
  · refine J.tabIn (off := 46) (tgt := 47) dX1_traitRow_1 (by omega) (by omega) (by omega) (by rw [hx1]; rfl) rfl ?_
    refine J.aload_n (q := 48) dX1_traitRow_47 rfl ?_ rfl
    refine J.getR (ci := 1) (k0 := 8) (c1 := 10) (q := 51) dX1_traitRow_48 kF_X1_36 rfl (by decide) (by decide) rfl (by decide) rfl ?_ rfl
    refine J.areturn dX1_traitRow_51 ⟨_, rfl, Or.inr ⟨_, rfl⟩⟩ ?_
    first
    | exact ⟨rfl, rfl, rfl⟩
    | (exfalso; omega)

set_option maxRecDepth 100000 in
set_option maxHeartbeats 4000000 in
theorem c_traitRow_1 {l : Launch} {F : Nat × (Int → Int)} {iv : Mm} {w : Int} (hw : w = 1) : Ctr l F 0 0 0 yX1_traitRow cX1_traitRow 2 (some (FieldType.array FieldType.int)) [r_ 1, i_ w] S0 (iv) (Ret (some (r_ 8)) S0 iv) := by
  refine Ctr.of false (fun h => by cases h) (by decide) rfl (Nat.le_of_ble_eq_true rfl) ?_
  refine J.iload_n (q := 1) dX1_traitRow_0 rfl ?_ rfl
  rcases (show (w < 0 ∨ 3 < w) ∨ w = 0 ∨ w = 1 ∨ w = 2 ∨ w = 3 by omega) with hO | hx1 | hx1 | hx1 | hx1
  · refine J.tabOut (tgt := 52) dX1_traitRow_1 (by omega) hO rfl ?_
    refine J.aload_n (q := 53) dX1_traitRow_52 rfl ?_ rfl
    refine J.getR (ci := 1) (k0 := 9) (c1 := 11) (q := 56) dX1_traitRow_53 kF_X1_39 rfl (by decide) (by decide) rfl (by decide) rfl ?_ rfl
    refine J.areturn dX1_traitRow_56 ⟨_, rfl, Or.inr ⟨_, rfl⟩⟩ ?_
    first
    | exact ⟨rfl, rfl, rfl⟩
    | (exfalso; omega)
  · refine J.tabIn (off := 31) (tgt := 32) dX1_traitRow_1 (by omega) (by omega) (by omega) (by rw [hx1]; rfl) rfl ?_
    refine J.aload_n (q := 33) dX1_traitRow_32 rfl ?_ rfl
    refine J.getR (ci := 1) (k0 := 5) (c1 := 7) (q := 36) dX1_traitRow_33 kF_X1_27 rfl (by decide) (by decide) rfl (by decide) rfl ?_ rfl
    refine J.areturn dX1_traitRow_36 ⟨_, rfl, Or.inr ⟨_, rfl⟩⟩ ?_
    first
    | exact ⟨rfl, rfl, rfl⟩
    | (exfalso; omega)
  · refine J.tabIn (off := 36) (tgt := 37) dX1_traitRow_1 (by omega) (by omega) (by omega) (by rw [hx1]; rfl) rfl ?_
    refine J.aload_n (q := 38) dX1_traitRow_37 rfl ?_ rfl
    refine J.getR (ci := 1) (k0 := 6) (c1 := 8) (q := 41) dX1_traitRow_38 kF_X1_30 rfl (by decide) (by decide) rfl (by decide) rfl ?_ rfl
    refine J.areturn dX1_traitRow_41 ⟨_, rfl, Or.inr ⟨_, rfl⟩⟩ ?_
    first
    | exact ⟨rfl, rfl, rfl⟩
    | (exfalso; omega)
  · refine J.tabIn (off := 41) (tgt := 42) dX1_traitRow_1 (by omega) (by omega) (by omega) (by rw [hx1]; rfl) rfl ?_
    refine J.aload_n (q := 43) dX1_traitRow_42 rfl ?_ rfl
    refine J.getR (ci := 1) (k0 := 7) (c1 := 9) (q := 46) dX1_traitRow_43 kF_X1_33 rfl (by decide) (by decide) rfl (by decide) rfl ?_ rfl
    refine J.areturn dX1_traitRow_46 ⟨_, rfl, Or.inr ⟨_, rfl⟩⟩ ?_
    first
    | exact ⟨rfl, rfl, rfl⟩
    | (exfalso; omega)
  · refine J.tabIn (off := 46) (tgt := 47) dX1_traitRow_1 (by omega) (by omega) (by omega) (by rw [hx1]; rfl) rfl ?_
    refine J.aload_n (q := 48) dX1_traitRow_47 rfl ?_ rfl
    refine J.getR (ci := 1) (k0 := 8) (c1 := 10) (q := 51) dX1_traitRow_48 kF_X1_36 rfl (by decide) (by decide) rfl (by decide) rfl ?_ rfl
    refine J.areturn dX1_traitRow_51 ⟨_, rfl, Or.inr ⟨_, rfl⟩⟩ ?_
    first
    | exact ⟨rfl, rfl, rfl⟩
    | (exfalso; omega)

set_option maxRecDepth 100000 in
set_option maxHeartbeats 4000000 in
theorem c_traitRow_2 {l : Launch} {F : Nat × (Int → Int)} {iv : Mm} {w : Int} (hw : w = 2) : Ctr l F 0 0 0 yX1_traitRow cX1_traitRow 2 (some (FieldType.array FieldType.int)) [r_ 1, i_ w] S0 (iv) (Ret (some (r_ 9)) S0 iv) := by
  refine Ctr.of false (fun h => by cases h) (by decide) rfl (Nat.le_of_ble_eq_true rfl) ?_
  refine J.iload_n (q := 1) dX1_traitRow_0 rfl ?_ rfl
  rcases (show (w < 0 ∨ 3 < w) ∨ w = 0 ∨ w = 1 ∨ w = 2 ∨ w = 3 by omega) with hO | hx1 | hx1 | hx1 | hx1
  · refine J.tabOut (tgt := 52) dX1_traitRow_1 (by omega) hO rfl ?_
    refine J.aload_n (q := 53) dX1_traitRow_52 rfl ?_ rfl
    refine J.getR (ci := 1) (k0 := 9) (c1 := 11) (q := 56) dX1_traitRow_53 kF_X1_39 rfl (by decide) (by decide) rfl (by decide) rfl ?_ rfl
    refine J.areturn dX1_traitRow_56 ⟨_, rfl, Or.inr ⟨_, rfl⟩⟩ ?_
    first
    | exact ⟨rfl, rfl, rfl⟩
    | (exfalso; omega)
  · refine J.tabIn (off := 31) (tgt := 32) dX1_traitRow_1 (by omega) (by omega) (by omega) (by rw [hx1]; rfl) rfl ?_
    refine J.aload_n (q := 33) dX1_traitRow_32 rfl ?_ rfl
    refine J.getR (ci := 1) (k0 := 5) (c1 := 7) (q := 36) dX1_traitRow_33 kF_X1_27 rfl (by decide) (by decide) rfl (by decide) rfl ?_ rfl
    refine J.areturn dX1_traitRow_36 ⟨_, rfl, Or.inr ⟨_, rfl⟩⟩ ?_
    first
    | exact ⟨rfl, rfl, rfl⟩
    | (exfalso; omega)
  · refine J.tabIn (off := 36) (tgt := 37) dX1_traitRow_1 (by omega) (by omega) (by omega) (by rw [hx1]; rfl) rfl ?_
    refine J.aload_n (q := 38) dX1_traitRow_37 rfl ?_ rfl
    refine J.getR (ci := 1) (k0 := 6) (c1 := 8) (q := 41) dX1_traitRow_38 kF_X1_30 rfl (by decide) (by decide) rfl (by decide) rfl ?_ rfl
    refine J.areturn dX1_traitRow_41 ⟨_, rfl, Or.inr ⟨_, rfl⟩⟩ ?_
    first
    | exact ⟨rfl, rfl, rfl⟩
    | (exfalso; omega)
  · refine J.tabIn (off := 41) (tgt := 42) dX1_traitRow_1 (by omega) (by omega) (by omega) (by rw [hx1]; rfl) rfl ?_
    refine J.aload_n (q := 43) dX1_traitRow_42 rfl ?_ rfl
    refine J.getR (ci := 1) (k0 := 7) (c1 := 9) (q := 46) dX1_traitRow_43 kF_X1_33 rfl (by decide) (by decide) rfl (by decide) rfl ?_ rfl
    refine J.areturn dX1_traitRow_46 ⟨_, rfl, Or.inr ⟨_, rfl⟩⟩ ?_
    first
    | exact ⟨rfl, rfl, rfl⟩
    | (exfalso; omega)
  · refine J.tabIn (off := 46) (tgt := 47) dX1_traitRow_1 (by omega) (by omega) (by omega) (by rw [hx1]; rfl) rfl ?_
    refine J.aload_n (q := 48) dX1_traitRow_47 rfl ?_ rfl
    refine J.getR (ci := 1) (k0 := 8) (c1 := 10) (q := 51) dX1_traitRow_48 kF_X1_36 rfl (by decide) (by decide) rfl (by decide) rfl ?_ rfl
    refine J.areturn dX1_traitRow_51 ⟨_, rfl, Or.inr ⟨_, rfl⟩⟩ ?_
    first
    | exact ⟨rfl, rfl, rfl⟩
    | (exfalso; omega)

set_option maxRecDepth 100000 in
set_option maxHeartbeats 4000000 in
theorem c_traitRow_3 {l : Launch} {F : Nat × (Int → Int)} {iv : Mm} {w : Int} (hw : w = 3) : Ctr l F 0 0 0 yX1_traitRow cX1_traitRow 2 (some (FieldType.array FieldType.int)) [r_ 1, i_ w] S0 (iv) (Ret (some (r_ 10)) S0 iv) := by
  refine Ctr.of false (fun h => by cases h) (by decide) rfl (Nat.le_of_ble_eq_true rfl) ?_
  refine J.iload_n (q := 1) dX1_traitRow_0 rfl ?_ rfl
  rcases (show (w < 0 ∨ 3 < w) ∨ w = 0 ∨ w = 1 ∨ w = 2 ∨ w = 3 by omega) with hO | hx1 | hx1 | hx1 | hx1
  · refine J.tabOut (tgt := 52) dX1_traitRow_1 (by omega) hO rfl ?_
    refine J.aload_n (q := 53) dX1_traitRow_52 rfl ?_ rfl
    refine J.getR (ci := 1) (k0 := 9) (c1 := 11) (q := 56) dX1_traitRow_53 kF_X1_39 rfl (by decide) (by decide) rfl (by decide) rfl ?_ rfl
    refine J.areturn dX1_traitRow_56 ⟨_, rfl, Or.inr ⟨_, rfl⟩⟩ ?_
    first
    | exact ⟨rfl, rfl, rfl⟩
    | (exfalso; omega)
  · refine J.tabIn (off := 31) (tgt := 32) dX1_traitRow_1 (by omega) (by omega) (by omega) (by rw [hx1]; rfl) rfl ?_
    refine J.aload_n (q := 33) dX1_traitRow_32 rfl ?_ rfl
    refine J.getR (ci := 1) (k0 := 5) (c1 := 7) (q := 36) dX1_traitRow_33 kF_X1_27 rfl (by decide) (by decide) rfl (by decide) rfl ?_ rfl
    refine J.areturn dX1_traitRow_36 ⟨_, rfl, Or.inr ⟨_, rfl⟩⟩ ?_
    first
    | exact ⟨rfl, rfl, rfl⟩
    | (exfalso; omega)
  · refine J.tabIn (off := 36) (tgt := 37) dX1_traitRow_1 (by omega) (by omega) (by omega) (by rw [hx1]; rfl) rfl ?_
    refine J.aload_n (q := 38) dX1_traitRow_37 rfl ?_ rfl
    refine J.getR (ci := 1) (k0 := 6) (c1 := 8) (q := 41) dX1_traitRow_38 kF_X1_30 rfl (by decide) (by decide) rfl (by decide) rfl ?_ rfl
    refine J.areturn dX1_traitRow_41 ⟨_, rfl, Or.inr ⟨_, rfl⟩⟩ ?_
    first
    | exact ⟨rfl, rfl, rfl⟩
    | (exfalso; omega)
  · refine J.tabIn (off := 41) (tgt := 42) dX1_traitRow_1 (by omega) (by omega) (by omega) (by rw [hx1]; rfl) rfl ?_
    refine J.aload_n (q := 43) dX1_traitRow_42 rfl ?_ rfl
    refine J.getR (ci := 1) (k0 := 7) (c1 := 9) (q := 46) dX1_traitRow_43 kF_X1_33 rfl (by decide) (by decide) rfl (by decide) rfl ?_ rfl
    refine J.areturn dX1_traitRow_46 ⟨_, rfl, Or.inr ⟨_, rfl⟩⟩ ?_
    first
    | exact ⟨rfl, rfl, rfl⟩
    | (exfalso; omega)
  · refine J.tabIn (off := 46) (tgt := 47) dX1_traitRow_1 (by omega) (by omega) (by omega) (by rw [hx1]; rfl) rfl ?_
    refine J.aload_n (q := 48) dX1_traitRow_47 rfl ?_ rfl
    refine J.getR (ci := 1) (k0 := 8) (c1 := 10) (q := 51) dX1_traitRow_48 kF_X1_36 rfl (by decide) (by decide) rfl (by decide) rfl ?_ rfl
    refine J.areturn dX1_traitRow_51 ⟨_, rfl, Or.inr ⟨_, rfl⟩⟩ ?_
    first
    | exact ⟨rfl, rfl, rfl⟩
    | (exfalso; omega)

set_option maxRecDepth 100000 in
set_option maxHeartbeats 4000000 in
theorem c_traitRow_4 {l : Launch} {F : Nat × (Int → Int)} {iv : Mm} {w : Int} (hw : w = 4) : Ctr l F 0 0 0 yX1_traitRow cX1_traitRow 2 (some (FieldType.array FieldType.int)) [r_ 1, i_ w] S0 (iv) (Ret (some (r_ 11)) S0 iv) := by
  refine Ctr.of false (fun h => by cases h) (by decide) rfl (Nat.le_of_ble_eq_true rfl) ?_
  refine J.iload_n (q := 1) dX1_traitRow_0 rfl ?_ rfl
  rcases (show (w < 0 ∨ 3 < w) ∨ w = 0 ∨ w = 1 ∨ w = 2 ∨ w = 3 by omega) with hO | hx1 | hx1 | hx1 | hx1
  · refine J.tabOut (tgt := 52) dX1_traitRow_1 (by omega) hO rfl ?_
    refine J.aload_n (q := 53) dX1_traitRow_52 rfl ?_ rfl
    refine J.getR (ci := 1) (k0 := 9) (c1 := 11) (q := 56) dX1_traitRow_53 kF_X1_39 rfl (by decide) (by decide) rfl (by decide) rfl ?_ rfl
    refine J.areturn dX1_traitRow_56 ⟨_, rfl, Or.inr ⟨_, rfl⟩⟩ ?_
    first
    | exact ⟨rfl, rfl, rfl⟩
    | (exfalso; omega)
  · refine J.tabIn (off := 31) (tgt := 32) dX1_traitRow_1 (by omega) (by omega) (by omega) (by rw [hx1]; rfl) rfl ?_
    refine J.aload_n (q := 33) dX1_traitRow_32 rfl ?_ rfl
    refine J.getR (ci := 1) (k0 := 5) (c1 := 7) (q := 36) dX1_traitRow_33 kF_X1_27 rfl (by decide) (by decide) rfl (by decide) rfl ?_ rfl
    refine J.areturn dX1_traitRow_36 ⟨_, rfl, Or.inr ⟨_, rfl⟩⟩ ?_
    first
    | exact ⟨rfl, rfl, rfl⟩
    | (exfalso; omega)
  · refine J.tabIn (off := 36) (tgt := 37) dX1_traitRow_1 (by omega) (by omega) (by omega) (by rw [hx1]; rfl) rfl ?_
    refine J.aload_n (q := 38) dX1_traitRow_37 rfl ?_ rfl
    refine J.getR (ci := 1) (k0 := 6) (c1 := 8) (q := 41) dX1_traitRow_38 kF_X1_30 rfl (by decide) (by decide) rfl (by decide) rfl ?_ rfl
    refine J.areturn dX1_traitRow_41 ⟨_, rfl, Or.inr ⟨_, rfl⟩⟩ ?_
    first
    | exact ⟨rfl, rfl, rfl⟩
    | (exfalso; omega)
  · refine J.tabIn (off := 41) (tgt := 42) dX1_traitRow_1 (by omega) (by omega) (by omega) (by rw [hx1]; rfl) rfl ?_
    refine J.aload_n (q := 43) dX1_traitRow_42 rfl ?_ rfl
    refine J.getR (ci := 1) (k0 := 7) (c1 := 9) (q := 46) dX1_traitRow_43 kF_X1_33 rfl (by decide) (by decide) rfl (by decide) rfl ?_ rfl
    refine J.areturn dX1_traitRow_46 ⟨_, rfl, Or.inr ⟨_, rfl⟩⟩ ?_
    first
    | exact ⟨rfl, rfl, rfl⟩
    | (exfalso; omega)
  · refine J.tabIn (off := 46) (tgt := 47) dX1_traitRow_1 (by omega) (by omega) (by omega) (by rw [hx1]; rfl) rfl ?_
    refine J.aload_n (q := 48) dX1_traitRow_47 rfl ?_ rfl
    refine J.getR (ci := 1) (k0 := 8) (c1 := 10) (q := 51) dX1_traitRow_48 kF_X1_36 rfl (by decide) (by decide) rfl (by decide) rfl ?_ rfl
    refine J.areturn dX1_traitRow_51 ⟨_, rfl, Or.inr ⟨_, rfl⟩⟩ ?_
    first
    | exact ⟨rfl, rfl, rfl⟩
    | (exfalso; omega)

set_option maxRecDepth 100000 in
set_option maxHeartbeats 4000000 in
theorem change_0 {l : Launch} {F : Nat × (Int → Int)} {iv A : Mm} (hC : CR iv A) (hA : AI A) {k v : Int} {y4 y5 : Option VT} (hk : 0 ≤ k ∧ k < A 62 2) (hv : 0 ≤ v ∧ v ≤ mostT 0) : J l (yX5_change).cls cX5_change 6 (some FieldType.int) 2 0 0 false F (CP iv (an_change A k 0 v)) 0 0 40 [some (r_ 0), some (i_ k), some (i_ 0), some (i_ v), y4, y5] [] S0 (iv) := by
  have hI := hA.mi
  have hmm := hI.many
  have hkp := hA.kp
  have htp := hA.tp
  have hmt : mostT 0 = 6 := rfl
  refine J.aload_n (q := 41) dX5_change_40 rfl ?_ rfl
  refine J.getR (ci := 5) (k0 := 0) (c1 := 1) (q := 44) dX5_change_41 kF_X5_12 rfl (by decide) (by decide) rfl (by decide) rfl ?_ rfl
  refine J.iload_n (q := 45) dX5_change_44 rfl ?_ rfl
  refine J.callV1i (ci := 1) (q := 48) dX5_change_45 mv_X1_traitRow kL_X5_105 rfl (by decide) rfl ⟨by decide, by decide⟩ (Nat.le_of_ble_eq_true rfl) ⟨by decide, by decide⟩ rfl (c_traitRow_0 rfl) ?_
  refine J.astore (q := 50) dX5_change_48 (Nat.le_of_ble_eq_true rfl) ?_ rfl
  refine J.aload (q := 52) dX5_change_50 rfl ?_ rfl
  refine J.iload_n (q := 53) dX5_change_52 rfl ?_ rfl
  refine J.iald (n := 8) (q := 54) dX5_change_53 rfl (by omega) ?_ rfl
  rw [g1_kin hC.r (by omega) (by omega)]
  refine J.istore (q := 56) dX5_change_54 (Nat.le_of_ble_eq_true rfl) ?_ rfl
  refine J.aload (q := 58) dX5_change_56 rfl ?_ rfl
  refine J.iload_n (q := 59) dX5_change_58 rfl ?_ rfl
  refine J.iload_n (q := 60) dX5_change_59 rfl ?_ rfl
  refine J.iast (n := 8) (q := 61) dX5_change_60 rfl (by omega) ?_ rfl
  refine J.iload (q := 63) dX5_change_61 rfl ?_ rfl
  refine J.ireturn dX5_change_63 rfl ?_
  unfold CP an_change
  rw [if_pos (by omega)]
  exact ⟨rfl, rfl, fun q hq => up_n _ _ _ (by omega), hC.up1 (by decide) (u1_kin hC.r (by omega) (by omega))⟩

set_option maxRecDepth 100000 in
set_option maxHeartbeats 4000000 in
theorem of_0 {l : Launch} {F : Nat × (Int → Int)} {iv A : Mm} (hC : CR iv A) (hA : AI A) {k : Int} (hk : 0 ≤ k ∧ k < A 62 2) : J l (yX5_of).cls cX5_of 3 (some FieldType.int) 4 0 0 false F (CP iv (an_of A k 0)) 0 0 89 [some (r_ 0), some (i_ k), some (i_ 0)] [] S0 (iv) := by
  have hI := hA.mi
  have hmm := hI.many
  have hkp := hA.kp
  have htp := hA.tp
  refine J.aload_n (q := 90) dX5_of_89 rfl ?_ rfl
  refine J.getR (ci := 5) (k0 := 0) (c1 := 1) (q := 93) dX5_of_90 kF_X5_12 rfl (by decide) (by decide) rfl (by decide) rfl ?_ rfl
  refine J.iload_n (q := 94) dX5_of_93 rfl ?_ rfl
  refine J.callV1i (ci := 1) (q := 97) dX5_of_94 mv_X1_traitRow kL_X5_105 rfl (by decide) rfl ⟨by decide, by decide⟩ (Nat.le_of_ble_eq_true rfl) ⟨by decide, by decide⟩ rfl (c_traitRow_0 rfl) ?_
  refine J.iload_n (q := 98) dX5_of_97 rfl ?_ rfl
  refine J.iald (n := 8) (q := 99) dX5_of_98 rfl (by omega) ?_ rfl
  rw [g1_kin hC.r (by omega) (by omega)]
  refine J.ireturn dX5_of_99 rfl ?_
  unfold CP an_of
  rw [if_pos (by omega), if_pos (by omega)]
  exact ⟨rfl, rfl, fun _ _ => rfl, hC⟩

set_option maxRecDepth 100000 in
set_option maxHeartbeats 4000000 in
theorem change_1 {l : Launch} {F : Nat × (Int → Int)} {iv A : Mm} (hC : CR iv A) (hA : AI A) {k v : Int} {y4 y5 : Option VT} (hk : 0 ≤ k ∧ k < A 62 2) (hv : 0 ≤ v ∧ v ≤ mostT 1) : J l (yX5_change).cls cX5_change 6 (some FieldType.int) 2 0 0 false F (CP iv (an_change A k 1 v)) 0 0 40 [some (r_ 0), some (i_ k), some (i_ 1), some (i_ v), y4, y5] [] S0 (iv) := by
  have hI := hA.mi
  have hmm := hI.many
  have hkp := hA.kp
  have htp := hA.tp
  have hmt : mostT 1 = 80 := rfl
  refine J.aload_n (q := 41) dX5_change_40 rfl ?_ rfl
  refine J.getR (ci := 5) (k0 := 0) (c1 := 1) (q := 44) dX5_change_41 kF_X5_12 rfl (by decide) (by decide) rfl (by decide) rfl ?_ rfl
  refine J.iload_n (q := 45) dX5_change_44 rfl ?_ rfl
  refine J.callV1i (ci := 1) (q := 48) dX5_change_45 mv_X1_traitRow kL_X5_105 rfl (by decide) rfl ⟨by decide, by decide⟩ (Nat.le_of_ble_eq_true rfl) ⟨by decide, by decide⟩ rfl (c_traitRow_1 rfl) ?_
  refine J.astore (q := 50) dX5_change_48 (Nat.le_of_ble_eq_true rfl) ?_ rfl
  refine J.aload (q := 52) dX5_change_50 rfl ?_ rfl
  refine J.iload_n (q := 53) dX5_change_52 rfl ?_ rfl
  refine J.iald (n := 8) (q := 54) dX5_change_53 rfl (by omega) ?_ rfl
  rw [g1_ats hC.r (by omega) (by omega)]
  refine J.istore (q := 56) dX5_change_54 (Nat.le_of_ble_eq_true rfl) ?_ rfl
  refine J.aload (q := 58) dX5_change_56 rfl ?_ rfl
  refine J.iload_n (q := 59) dX5_change_58 rfl ?_ rfl
  refine J.iload_n (q := 60) dX5_change_59 rfl ?_ rfl
  refine J.iast (n := 8) (q := 61) dX5_change_60 rfl (by omega) ?_ rfl
  refine J.iload (q := 63) dX5_change_61 rfl ?_ rfl
  refine J.ireturn dX5_change_63 rfl ?_
  unfold CP an_change
  rw [if_pos (by omega)]
  exact ⟨rfl, rfl, fun q hq => up_n _ _ _ (by omega), hC.up1 (by decide) (u1_ats hC.r (by omega) (by omega))⟩

set_option maxRecDepth 100000 in
set_option maxHeartbeats 4000000 in
theorem of_1 {l : Launch} {F : Nat × (Int → Int)} {iv A : Mm} (hC : CR iv A) (hA : AI A) {k : Int} (hk : 0 ≤ k ∧ k < A 62 2) : J l (yX5_of).cls cX5_of 3 (some FieldType.int) 4 0 0 false F (CP iv (an_of A k 1)) 0 0 89 [some (r_ 0), some (i_ k), some (i_ 1)] [] S0 (iv) := by
  have hI := hA.mi
  have hmm := hI.many
  have hkp := hA.kp
  have htp := hA.tp
  refine J.aload_n (q := 90) dX5_of_89 rfl ?_ rfl
  refine J.getR (ci := 5) (k0 := 0) (c1 := 1) (q := 93) dX5_of_90 kF_X5_12 rfl (by decide) (by decide) rfl (by decide) rfl ?_ rfl
  refine J.iload_n (q := 94) dX5_of_93 rfl ?_ rfl
  refine J.callV1i (ci := 1) (q := 97) dX5_of_94 mv_X1_traitRow kL_X5_105 rfl (by decide) rfl ⟨by decide, by decide⟩ (Nat.le_of_ble_eq_true rfl) ⟨by decide, by decide⟩ rfl (c_traitRow_1 rfl) ?_
  refine J.iload_n (q := 98) dX5_of_97 rfl ?_ rfl
  refine J.iald (n := 8) (q := 99) dX5_of_98 rfl (by omega) ?_ rfl
  rw [g1_ats hC.r (by omega) (by omega)]
  refine J.ireturn dX5_of_99 rfl ?_
  unfold CP an_of
  rw [if_pos (by omega), if_pos (by omega)]
  exact ⟨rfl, rfl, fun _ _ => rfl, hC⟩

set_option maxRecDepth 100000 in
set_option maxHeartbeats 4000000 in
theorem change_2 {l : Launch} {F : Nat × (Int → Int)} {iv A : Mm} (hC : CR iv A) (hA : AI A) {k v : Int} {y4 y5 : Option VT} (hk : 0 ≤ k ∧ k < A 62 2) (hv : 0 ≤ v ∧ v ≤ mostT 2) : J l (yX5_change).cls cX5_change 6 (some FieldType.int) 2 0 0 false F (CP iv (an_change A k 2 v)) 0 0 40 [some (r_ 0), some (i_ k), some (i_ 2), some (i_ v), y4, y5] [] S0 (iv) := by
  have hI := hA.mi
  have hmm := hI.many
  have hkp := hA.kp
  have htp := hA.tp
  have hmt : mostT 2 = 7 := rfl
  refine J.aload_n (q := 41) dX5_change_40 rfl ?_ rfl
  refine J.getR (ci := 5) (k0 := 0) (c1 := 1) (q := 44) dX5_change_41 kF_X5_12 rfl (by decide) (by decide) rfl (by decide) rfl ?_ rfl
  refine J.iload_n (q := 45) dX5_change_44 rfl ?_ rfl
  refine J.callV1i (ci := 1) (q := 48) dX5_change_45 mv_X1_traitRow kL_X5_105 rfl (by decide) rfl ⟨by decide, by decide⟩ (Nat.le_of_ble_eq_true rfl) ⟨by decide, by decide⟩ rfl (c_traitRow_2 rfl) ?_
  refine J.astore (q := 50) dX5_change_48 (Nat.le_of_ble_eq_true rfl) ?_ rfl
  refine J.aload (q := 52) dX5_change_50 rfl ?_ rfl
  refine J.iload_n (q := 53) dX5_change_52 rfl ?_ rfl
  refine J.iald (n := 8) (q := 54) dX5_change_53 rfl (by omega) ?_ rfl
  rw [g1_edi hC.r (by omega) (by omega)]
  refine J.istore (q := 56) dX5_change_54 (Nat.le_of_ble_eq_true rfl) ?_ rfl
  refine J.aload (q := 58) dX5_change_56 rfl ?_ rfl
  refine J.iload_n (q := 59) dX5_change_58 rfl ?_ rfl
  refine J.iload_n (q := 60) dX5_change_59 rfl ?_ rfl
  refine J.iast (n := 8) (q := 61) dX5_change_60 rfl (by omega) ?_ rfl
  refine J.iload (q := 63) dX5_change_61 rfl ?_ rfl
  refine J.ireturn dX5_change_63 rfl ?_
  unfold CP an_change
  rw [if_pos (by omega)]
  exact ⟨rfl, rfl, fun q hq => up_n _ _ _ (by omega), hC.up1 (by decide) (u1_edi hC.r (by omega) (by omega))⟩

set_option maxRecDepth 100000 in
set_option maxHeartbeats 4000000 in
theorem of_2 {l : Launch} {F : Nat × (Int → Int)} {iv A : Mm} (hC : CR iv A) (hA : AI A) {k : Int} (hk : 0 ≤ k ∧ k < A 62 2) : J l (yX5_of).cls cX5_of 3 (some FieldType.int) 4 0 0 false F (CP iv (an_of A k 2)) 0 0 89 [some (r_ 0), some (i_ k), some (i_ 2)] [] S0 (iv) := by
  have hI := hA.mi
  have hmm := hI.many
  have hkp := hA.kp
  have htp := hA.tp
  refine J.aload_n (q := 90) dX5_of_89 rfl ?_ rfl
  refine J.getR (ci := 5) (k0 := 0) (c1 := 1) (q := 93) dX5_of_90 kF_X5_12 rfl (by decide) (by decide) rfl (by decide) rfl ?_ rfl
  refine J.iload_n (q := 94) dX5_of_93 rfl ?_ rfl
  refine J.callV1i (ci := 1) (q := 97) dX5_of_94 mv_X1_traitRow kL_X5_105 rfl (by decide) rfl ⟨by decide, by decide⟩ (Nat.le_of_ble_eq_true rfl) ⟨by decide, by decide⟩ rfl (c_traitRow_2 rfl) ?_
  refine J.iload_n (q := 98) dX5_of_97 rfl ?_ rfl
  refine J.iald (n := 8) (q := 99) dX5_of_98 rfl (by omega) ?_ rfl
  rw [g1_edi hC.r (by omega) (by omega)]
  refine J.ireturn dX5_of_99 rfl ?_
  unfold CP an_of
  rw [if_pos (by omega), if_pos (by omega)]
  exact ⟨rfl, rfl, fun _ _ => rfl, hC⟩

set_option maxRecDepth 100000 in
set_option maxHeartbeats 4000000 in
theorem change_3 {l : Launch} {F : Nat × (Int → Int)} {iv A : Mm} (hC : CR iv A) (hA : AI A) {k v : Int} {y4 y5 : Option VT} (hk : 0 ≤ k ∧ k < A 62 2) (hv : 0 ≤ v ∧ v ≤ mostT 3) : J l (yX5_change).cls cX5_change 6 (some FieldType.int) 2 0 0 false F (CP iv (an_change A k 3 v)) 0 0 40 [some (r_ 0), some (i_ k), some (i_ 3), some (i_ v), y4, y5] [] S0 (iv) := by
  have hI := hA.mi
  have hmm := hI.many
  have hkp := hA.kp
  have htp := hA.tp
  have hmt : mostT 3 = 80 := rfl
  refine J.aload_n (q := 41) dX5_change_40 rfl ?_ rfl
  refine J.getR (ci := 5) (k0 := 0) (c1 := 1) (q := 44) dX5_change_41 kF_X5_12 rfl (by decide) (by decide) rfl (by decide) rfl ?_ rfl
  refine J.iload_n (q := 45) dX5_change_44 rfl ?_ rfl
  refine J.callV1i (ci := 1) (q := 48) dX5_change_45 mv_X1_traitRow kL_X5_105 rfl (by decide) rfl ⟨by decide, by decide⟩ (Nat.le_of_ble_eq_true rfl) ⟨by decide, by decide⟩ rfl (c_traitRow_3 rfl) ?_
  refine J.astore (q := 50) dX5_change_48 (Nat.le_of_ble_eq_true rfl) ?_ rfl
  refine J.aload (q := 52) dX5_change_50 rfl ?_ rfl
  refine J.iload_n (q := 53) dX5_change_52 rfl ?_ rfl
  refine J.iald (n := 8) (q := 54) dX5_change_53 rfl (by omega) ?_ rfl
  rw [g1_gat hC.r (by omega) (by omega)]
  refine J.istore (q := 56) dX5_change_54 (Nat.le_of_ble_eq_true rfl) ?_ rfl
  refine J.aload (q := 58) dX5_change_56 rfl ?_ rfl
  refine J.iload_n (q := 59) dX5_change_58 rfl ?_ rfl
  refine J.iload_n (q := 60) dX5_change_59 rfl ?_ rfl
  refine J.iast (n := 8) (q := 61) dX5_change_60 rfl (by omega) ?_ rfl
  refine J.iload (q := 63) dX5_change_61 rfl ?_ rfl
  refine J.ireturn dX5_change_63 rfl ?_
  unfold CP an_change
  rw [if_pos (by omega)]
  exact ⟨rfl, rfl, fun q hq => up_n _ _ _ (by omega), hC.up1 (by decide) (u1_gat hC.r (by omega) (by omega))⟩

set_option maxRecDepth 100000 in
set_option maxHeartbeats 4000000 in
theorem of_3 {l : Launch} {F : Nat × (Int → Int)} {iv A : Mm} (hC : CR iv A) (hA : AI A) {k : Int} (hk : 0 ≤ k ∧ k < A 62 2) : J l (yX5_of).cls cX5_of 3 (some FieldType.int) 4 0 0 false F (CP iv (an_of A k 3)) 0 0 89 [some (r_ 0), some (i_ k), some (i_ 3)] [] S0 (iv) := by
  have hI := hA.mi
  have hmm := hI.many
  have hkp := hA.kp
  have htp := hA.tp
  refine J.aload_n (q := 90) dX5_of_89 rfl ?_ rfl
  refine J.getR (ci := 5) (k0 := 0) (c1 := 1) (q := 93) dX5_of_90 kF_X5_12 rfl (by decide) (by decide) rfl (by decide) rfl ?_ rfl
  refine J.iload_n (q := 94) dX5_of_93 rfl ?_ rfl
  refine J.callV1i (ci := 1) (q := 97) dX5_of_94 mv_X1_traitRow kL_X5_105 rfl (by decide) rfl ⟨by decide, by decide⟩ (Nat.le_of_ble_eq_true rfl) ⟨by decide, by decide⟩ rfl (c_traitRow_3 rfl) ?_
  refine J.iload_n (q := 98) dX5_of_97 rfl ?_ rfl
  refine J.iald (n := 8) (q := 99) dX5_of_98 rfl (by omega) ?_ rfl
  rw [g1_gat hC.r (by omega) (by omega)]
  refine J.ireturn dX5_of_99 rfl ?_
  unfold CP an_of
  rw [if_pos (by omega), if_pos (by omega)]
  exact ⟨rfl, rfl, fun _ _ => rfl, hC⟩

set_option maxRecDepth 100000 in
set_option maxHeartbeats 4000000 in
theorem change_4 {l : Launch} {F : Nat × (Int → Int)} {iv A : Mm} (hC : CR iv A) (hA : AI A) {k v : Int} {y4 y5 : Option VT} (hk : 0 ≤ k ∧ k < A 62 2) (hv : 0 ≤ v ∧ v ≤ mostT 4) : J l (yX5_change).cls cX5_change 6 (some FieldType.int) 2 0 0 false F (CP iv (an_change A k 4 v)) 0 0 40 [some (r_ 0), some (i_ k), some (i_ 4), some (i_ v), y4, y5] [] S0 (iv) := by
  have hI := hA.mi
  have hmm := hI.many
  have hkp := hA.kp
  have htp := hA.tp
  have hmt : mostT 4 = 99 := rfl
  refine J.aload_n (q := 41) dX5_change_40 rfl ?_ rfl
  refine J.getR (ci := 5) (k0 := 0) (c1 := 1) (q := 44) dX5_change_41 kF_X5_12 rfl (by decide) (by decide) rfl (by decide) rfl ?_ rfl
  refine J.iload_n (q := 45) dX5_change_44 rfl ?_ rfl
  refine J.callV1i (ci := 1) (q := 48) dX5_change_45 mv_X1_traitRow kL_X5_105 rfl (by decide) rfl ⟨by decide, by decide⟩ (Nat.le_of_ble_eq_true rfl) ⟨by decide, by decide⟩ rfl (c_traitRow_4 rfl) ?_
  refine J.astore (q := 50) dX5_change_48 (Nat.le_of_ble_eq_true rfl) ?_ rfl
  refine J.aload (q := 52) dX5_change_50 rfl ?_ rfl
  refine J.iload_n (q := 53) dX5_change_52 rfl ?_ rfl
  refine J.iald (n := 8) (q := 54) dX5_change_53 rfl (by omega) ?_ rfl
  rw [g1_pri hC.r (by omega) (by omega)]
  refine J.istore (q := 56) dX5_change_54 (Nat.le_of_ble_eq_true rfl) ?_ rfl
  refine J.aload (q := 58) dX5_change_56 rfl ?_ rfl
  refine J.iload_n (q := 59) dX5_change_58 rfl ?_ rfl
  refine J.iload_n (q := 60) dX5_change_59 rfl ?_ rfl
  refine J.iast (n := 8) (q := 61) dX5_change_60 rfl (by omega) ?_ rfl
  refine J.iload (q := 63) dX5_change_61 rfl ?_ rfl
  refine J.ireturn dX5_change_63 rfl ?_
  unfold CP an_change
  rw [if_pos (by omega)]
  exact ⟨rfl, rfl, fun q hq => up_n _ _ _ (by omega), hC.up1 (by decide) (u1_pri hC.r (by omega) (by omega))⟩

set_option maxRecDepth 100000 in
set_option maxHeartbeats 4000000 in
theorem of_4 {l : Launch} {F : Nat × (Int → Int)} {iv A : Mm} (hC : CR iv A) (hA : AI A) {k : Int} (hk : 0 ≤ k ∧ k < A 62 2) : J l (yX5_of).cls cX5_of 3 (some FieldType.int) 4 0 0 false F (CP iv (an_of A k 4)) 0 0 89 [some (r_ 0), some (i_ k), some (i_ 4)] [] S0 (iv) := by
  have hI := hA.mi
  have hmm := hI.many
  have hkp := hA.kp
  have htp := hA.tp
  refine J.aload_n (q := 90) dX5_of_89 rfl ?_ rfl
  refine J.getR (ci := 5) (k0 := 0) (c1 := 1) (q := 93) dX5_of_90 kF_X5_12 rfl (by decide) (by decide) rfl (by decide) rfl ?_ rfl
  refine J.iload_n (q := 94) dX5_of_93 rfl ?_ rfl
  refine J.callV1i (ci := 1) (q := 97) dX5_of_94 mv_X1_traitRow kL_X5_105 rfl (by decide) rfl ⟨by decide, by decide⟩ (Nat.le_of_ble_eq_true rfl) ⟨by decide, by decide⟩ rfl (c_traitRow_4 rfl) ?_
  refine J.iload_n (q := 98) dX5_of_97 rfl ?_ rfl
  refine J.iald (n := 8) (q := 99) dX5_of_98 rfl (by omega) ?_ rfl
  rw [g1_pri hC.r (by omega) (by omega)]
  refine J.ireturn dX5_of_99 rfl ?_
  unfold CP an_of
  rw [if_pos (by omega), if_pos (by omega)]
  exact ⟨rfl, rfl, fun _ _ => rfl, hC⟩

set_option maxRecDepth 100000 in
set_option maxHeartbeats 4000000 in
theorem c_X5_change {l : Launch} {F : Nat × (Int → Int)} {iv A : Mm} (hC : CR iv A) (hA : AI A) {k w v : Int} (hk : -2147483648 ≤ k ∧ k < 2147483648) (hw : -2147483648 ≤ w ∧ w < 2147483648) (hv : -2147483648 ≤ v ∧ v < 2147483648) : Ctr l F 2 0 0 yX5_change cX5_change 6 (some FieldType.int) [r_ 0, i_ k, i_ w, i_ v] S0 (iv) (CP iv (an_change A k w v)) := by
  refine Ctr.of false (fun h => by cases h) (by decide) rfl (Nat.le_of_ble_eq_true rfl) ?_
  have hI := hA.mi
  have hmm := hI.many
  have hkp := hA.kp
  have htp := hA.tp
  have hmr := mostT_r w
  refine J.aload_n (q := 1) dX5_change_0 rfl ?_ rfl
  refine J.iload_n (q := 2) dX5_change_1 rfl ?_ rfl
  refine J.callV1i (ci := 5) (q := 5) dX5_change_2 mv_X5_isSnail kL_X5_93 rfl (by decide) rfl ⟨by decide, by decide⟩ (Nat.le_of_ble_eq_true rfl) ⟨by decide, by decide⟩ rfl (c_X5_isSnail (by omega) (g1_many hC.r) (by omega)) ?_
  refine J.ifb_eq (tgt := 33) (q := 8) dX5_change_5 rfl rfl (fun c5 => ?_) (fun c5 => ?_)
  · refine J.aload_n (q := 34) dX5_change_33 rfl ?_ rfl
    refine J.ldc (q := 36) (z := -1000001) dX5_change_34 kK_X5_63 ?_ rfl
    refine J.callV1 (ci := 5) (q := 39) dX5_change_36 mv_X5_tell kL_X5_64 rfl (by decide) rfl ⟨by decide, by decide⟩ (Nat.le_of_ble_eq_true rfl) ⟨by decide, by decide⟩ rfl (c_X5_tell (w := 0) (by decide) hC (by decide)) (fun v9 S9 iv9 hp => ?_)
    obtain ⟨rfl, rfl, hf8, hC8⟩ := hp
    refine J.ireturn dX5_change_39 rfl ?_
    unfold CP an_change
    repeat (first | rw [if_pos (by omega)] | rw [if_neg (by omega)])
    first
    | exact ⟨rfl, rfl, hf8, hC8⟩
    | (exfalso; omega)
  · refine J.iload_n (q := 9) dX5_change_8 rfl ?_ rfl
    refine J.gets2 (q := 12) dX5_change_9 kF_X5_109 ?_ rfl
    refine J.tlen2 (q := 13) dX5_change_12 ?_ rfl
    refine J.iconst (q := 14) dX5_change_13 ?_ rfl
    refine J.isub (q := 15) dX5_change_14 ?_ rfl
    refine J.callS2i (q := 18) dX5_change_15 mv_X5_isWithin kS_X5_isWithin kL_X5_59 ⟨by decide, by decide⟩ (Nat.le_of_ble_eq_true rfl) ⟨by decide, by decide⟩ rfl (c_X5_isWithin (by omega) (by omega)) ?_
    refine J.ifb_eq (tgt := 33) (q := 21) dX5_change_18 rfl rfl (fun c18 => ?_) (fun c18 => ?_)
    · refine J.aload_n (q := 34) dX5_change_33 rfl ?_ rfl
      refine J.ldc (q := 36) (z := -1000001) dX5_change_34 kK_X5_63 ?_ rfl
      refine J.callV1 (ci := 5) (q := 39) dX5_change_36 mv_X5_tell kL_X5_64 rfl (by decide) rfl ⟨by decide, by decide⟩ (Nat.le_of_ble_eq_true rfl) ⟨by decide, by decide⟩ rfl (c_X5_tell (w := 0) (by decide) hC (by decide)) (fun v9 S9 iv9 hp => ?_)
      obtain ⟨rfl, rfl, hf8, hC8⟩ := hp
      refine J.ireturn dX5_change_39 rfl ?_
      unfold CP an_change
      repeat (first | rw [if_pos (by omega)] | rw [if_neg (by omega)])
      first
      | exact ⟨rfl, rfl, hf8, hC8⟩
      | (exfalso; omega)
    · refine J.iload_n (q := 22) dX5_change_21 rfl ?_ rfl
      refine J.gets2 (q := 25) dX5_change_22 kF_X5_109 ?_ rfl
      refine J.iload_n (q := 26) dX5_change_25 rfl ?_ rfl
      refine J.tld2 (q := 27) dX5_change_26 (by omega) ?_ rfl
      rw [tF2_m (by omega)]
      refine J.callS2i (q := 30) dX5_change_27 mv_X5_isWithin kS_X5_isWithin kL_X5_59 ⟨by decide, by decide⟩ (Nat.le_of_ble_eq_true rfl) ⟨by decide, by decide⟩ rfl (c_X5_isWithin (by omega) (by omega)) ?_
      refine J.ifb_ne (tgt := 40) (q := 33) dX5_change_30 rfl rfl (fun c30 => ?_) (fun c30 => ?_)
      · rcases (show w = 0 ∨ w = 1 ∨ w = 2 ∨ w = 3 ∨ w = 4 by omega) with rfl | rfl | rfl | rfl | rfl
        · exact change_0 hC hA (by omega) (by omega)
        · exact change_1 hC hA (by omega) (by omega)
        · exact change_2 hC hA (by omega) (by omega)
        · exact change_3 hC hA (by omega) (by omega)
        · exact change_4 hC hA (by omega) (by omega)
      · refine J.aload_n (q := 34) dX5_change_33 rfl ?_ rfl
        refine J.ldc (q := 36) (z := -1000001) dX5_change_34 kK_X5_63 ?_ rfl
        refine J.callV1 (ci := 5) (q := 39) dX5_change_36 mv_X5_tell kL_X5_64 rfl (by decide) rfl ⟨by decide, by decide⟩ (Nat.le_of_ble_eq_true rfl) ⟨by decide, by decide⟩ rfl (c_X5_tell (w := 0) (by decide) hC (by decide)) (fun v9 S9 iv9 hp => ?_)
        obtain ⟨rfl, rfl, hf8, hC8⟩ := hp
        refine J.ireturn dX5_change_39 rfl ?_
        unfold CP an_change
        repeat (first | rw [if_pos (by omega)] | rw [if_neg (by omega)])
        first
        | exact ⟨rfl, rfl, hf8, hC8⟩
        | (exfalso; omega)

set_option maxRecDepth 100000 in
set_option maxHeartbeats 4000000 in
theorem c_X5_of {l : Launch} {F : Nat × (Int → Int)} {iv A : Mm} (hC : CR iv A) (hA : AI A) {k w : Int} (hk : -2147483648 ≤ k ∧ k < 2147483648) (hw : -2147483648 ≤ w ∧ w < 2147483648) : Ctr l F 4 0 0 yX5_of cX5_of 3 (some FieldType.int) [r_ 0, i_ k, i_ w] S0 (iv) (CP iv (an_of A k w)) := by
  refine Ctr.of false (fun h => by cases h) (by decide) rfl (Nat.le_of_ble_eq_true rfl) ?_
  have hI := hA.mi
  have hmm := hI.many
  have hkp := hA.kp
  have htp := hA.tp
  refine J.aload_n (q := 1) dX5_of_0 rfl ?_ rfl
  refine J.iload_n (q := 2) dX5_of_1 rfl ?_ rfl
  refine J.callV1i (ci := 5) (q := 5) dX5_of_2 mv_X5_isSnail kL_X5_93 rfl (by decide) rfl ⟨by decide, by decide⟩ (Nat.le_of_ble_eq_true rfl) ⟨by decide, by decide⟩ rfl (c_X5_isSnail (by omega) (g1_many hC.r) (by omega)) ?_
  refine J.ifb_eq (tgt := 17) (q := 8) dX5_of_5 rfl rfl (fun c5 => ?_) (fun c5 => ?_)
  · refine J.aload_n (q := 18) dX5_of_17 rfl ?_ rfl
    refine J.ldc (q := 20) (z := -1000001) dX5_of_18 kK_X5_63 ?_ rfl
    refine J.callV1 (ci := 5) (q := 23) dX5_of_20 mv_X5_tell kL_X5_64 rfl (by decide) rfl ⟨by decide, by decide⟩ (Nat.le_of_ble_eq_true rfl) ⟨by decide, by decide⟩ rfl (c_X5_tell (w := 0) (by decide) hC (by decide)) (fun v9 S9 iv9 hp => ?_)
    obtain ⟨rfl, rfl, hf8, hC8⟩ := hp
    refine J.ireturn dX5_of_23 rfl ?_
    unfold CP an_of
    repeat (first | rw [if_pos (by omega)] | rw [if_neg (by omega)])
    first
    | exact ⟨rfl, rfl, hf8, hC8⟩
    | exact ⟨rfl, rfl, fun _ _ => rfl, hC⟩
    | exact ⟨rfl, rfl, hf8, hC8⟩
    | (exfalso; omega)
  · refine J.iload_n (q := 9) dX5_of_8 rfl ?_ rfl
    refine J.bipush (q := 11) dX5_of_9 (by decide) ?_ rfl
    refine J.callS2i (q := 14) dX5_of_11 mv_X5_isWithin kS_X5_isWithin kL_X5_59 ⟨by decide, by decide⟩ (Nat.le_of_ble_eq_true rfl) ⟨by decide, by decide⟩ rfl (c_X5_isWithin (by omega) (by omega)) ?_
    refine J.ifb_ne (tgt := 24) (q := 17) dX5_of_14 rfl rfl (fun c14 => ?_) (fun c14 => ?_)
    · refine J.iload_n (q := 25) dX5_of_24 rfl ?_ rfl
      refine J.iconst (q := 26) dX5_of_25 ?_ rfl
      refine J.icmp_ne (tgt := 38) (q := 29) dX5_of_26 rfl rfl (fun c26 => ?_) (fun c26 => ?_)
      · refine J.iload_n (q := 39) dX5_of_38 rfl ?_ rfl
        refine J.bipush (q := 41) dX5_of_39 (by decide) ?_ rfl
        refine J.icmp_ne (tgt := 89) (q := 44) dX5_of_41 rfl rfl (fun c41 => ?_) (fun c41 => ?_)
        · rcases (show w = 0 ∨ w = 1 ∨ w = 2 ∨ w = 3 ∨ w = 4 by omega) with rfl | rfl | rfl | rfl | rfl
          · exact of_0 hC hA (by omega)
          · exact of_1 hC hA (by omega)
          · exact of_2 hC hA (by omega)
          · exact of_3 hC hA (by omega)
          · exact of_4 hC hA (by omega)
        · refine J.aload_n (q := 45) dX5_of_44 rfl ?_ rfl
          refine J.getR (ci := 5) (k0 := 3) (c1 := 44) (q := 48) dX5_of_45 kF_X5_29 rfl (by decide) (by decide) rfl (by decide) rfl ?_ rfl
          refine J.aload_n (q := 49) dX5_of_48 rfl ?_ rfl
          refine J.getR (ci := 5) (k0 := 0) (c1 := 1) (q := 52) dX5_of_49 kF_X5_12 rfl (by decide) (by decide) rfl (by decide) rfl ?_ rfl
          refine J.callV1 (ci := 4) (q := 55) dX5_of_52 mv_X4_openLand kL_X5_77 rfl (by decide) rfl ⟨by decide, by decide⟩ (Nat.le_of_ble_eq_true rfl) ⟨by decide, by decide⟩ rfl (c_openLand44 hC.r hI) (fun v9 S9 iv9 hp => ?_)
          obtain ⟨rfl, rfl, b1, b2⟩ := hp
          have hR9 : RR iv9 1 (A 62) := f1 hC.r (fun q q1 q2 q3 => b1 q (by omega))
          refine J.aload_n (q := 56) dX5_of_55 rfl ?_ rfl
          refine J.getR (ci := 5) (k0 := 3) (c1 := 44) (q := 59) dX5_of_56 kF_X5_29 rfl (by decide) (by decide) rfl (by decide) rfl ?_ rfl
          refine J.aload_n (q := 60) dX5_of_59 rfl ?_ rfl
          refine J.getR (ci := 5) (k0 := 0) (c1 := 1) (q := 63) dX5_of_60 kF_X5_12 rfl (by decide) (by decide) rfl (by decide) rfl ?_ rfl
          refine J.getR (ci := 1) (k0 := 8) (c1 := 10) (q := 66) dX5_of_63 kF_X5_99 rfl (by decide) (by decide) rfl (by decide) rfl ?_ rfl
          refine J.iload_n (q := 67) dX5_of_66 rfl ?_ rfl
          refine J.iald (n := 8) (q := 68) dX5_of_67 rfl (by omega) ?_ rfl
          rw [g1_gat hR9 (by omega) (by omega)]
          have hsn := hI.sna k (by omega) (by omega)
          refine J.callV1 (ci := 4) (q := 71) dX5_of_68 mv_X4_measure kL_X5_81 rfl (by decide) rfl ⟨by decide, by decide⟩ (Nat.le_of_ble_eq_true rfl) ⟨by decide, by decide⟩ rfl (c_measure44 (op := opH (A 62)) (fr := A 62 (257 + 5 * k + 3)) (by omega) b2) (fun v8 S8 iv8 hp => ?_)
          obtain ⟨rfl, rfl, m1, m2⟩ := hp
          have hC8 : CR iv8 A := hC.fr (fun q hq => (m1 q (by omega) (by omega)).trans (b1 q (by omega)))
          have hf8 : ∀ q, 61 ≤ q → iv8 q = iv q := fun q hq => (m1 q (by omega) (by omega)).trans (b1 q (by omega))
          have hR8 := hC8.r
          refine J.aload_n (q := 72) dX5_of_71 rfl ?_ rfl
          refine J.getR (ci := 5) (k0 := 3) (c1 := 44) (q := 75) dX5_of_72 kF_X5_29 rfl (by decide) (by decide) rfl (by decide) rfl ?_ rfl
          refine J.getR (ci := 4) (k0 := 0) (c1 := 45) (q := 78) dX5_of_75 kF_X5_85 rfl (by decide) (by decide) rfl (by decide) rfl ?_ rfl
          refine J.aload_n (q := 79) dX5_of_78 rfl ?_ rfl
          refine J.getR (ci := 5) (k0 := 0) (c1 := 1) (q := 82) dX5_of_79 kF_X5_12 rfl (by decide) (by decide) rfl (by decide) rfl ?_ rfl
          refine J.getR (ci := 1) (k0 := 6) (c1 := 8) (q := 85) dX5_of_82 kF_X5_102 rfl (by decide) (by decide) rfl (by decide) rfl ?_ rfl
          refine J.iload_n (q := 86) dX5_of_85 rfl ?_ rfl
          refine J.iald (n := 8) (q := 87) dX5_of_86 rfl (by omega) ?_ rfl
          rw [g1_ats hR8 (by omega) (by omega)]
          refine J.iald (n := 81) (q := 88) dX5_of_87 rfl (by omega) ?_ rfl
          rw [m2 _ (by omega) (by omega)]
          refine J.ireturn dX5_of_88 rfl ?_
          unfold CP an_of
          repeat (first | rw [if_pos (by omega)] | rw [if_neg (by omega)])
          first
          | exact ⟨rfl, rfl, hf8, hC8⟩
          | exact ⟨rfl, rfl, fun _ _ => rfl, hC⟩
          | exact ⟨rfl, rfl, hf8, hC8⟩
          | (exfalso; omega)
      · refine J.aload_n (q := 30) dX5_of_29 rfl ?_ rfl
        refine J.getR (ci := 5) (k0 := 0) (c1 := 1) (q := 33) dX5_of_30 kF_X5_12 rfl (by decide) (by decide) rfl (by decide) rfl ?_ rfl
        refine J.iload_n (q := 34) dX5_of_33 rfl ?_ rfl
        refine J.callV1i (ci := 1) (q := 37) dX5_of_34 mv_X1_movesOf kL_X5_96 rfl (by decide) rfl ⟨by decide, by decide⟩ (Nat.le_of_ble_eq_true rfl) ⟨by decide, by decide⟩ rfl (c_movesOf1 (show (99999 : Int) ≤ 200000 by omega) hC.r hI (by omega)) ?_
        refine J.ireturn dX5_of_37 rfl ?_
        unfold CP an_of
        repeat (first | rw [if_pos (by omega)] | rw [if_neg (by omega)])
        first
        | exact ⟨rfl, rfl, hf8, hC8⟩
        | exact ⟨rfl, rfl, fun _ _ => rfl, hC⟩
        | exact ⟨rfl, rfl, hf8, hC8⟩
        | (exfalso; omega)
    · refine J.aload_n (q := 18) dX5_of_17 rfl ?_ rfl
      refine J.ldc (q := 20) (z := -1000001) dX5_of_18 kK_X5_63 ?_ rfl
      refine J.callV1 (ci := 5) (q := 23) dX5_of_20 mv_X5_tell kL_X5_64 rfl (by decide) rfl ⟨by decide, by decide⟩ (Nat.le_of_ble_eq_true rfl) ⟨by decide, by decide⟩ rfl (c_X5_tell (w := 0) (by decide) hC (by decide)) (fun v9 S9 iv9 hp => ?_)
      obtain ⟨rfl, rfl, hf8, hC8⟩ := hp
      refine J.ireturn dX5_of_23 rfl ?_
      unfold CP an_of
      repeat (first | rw [if_pos (by omega)] | rw [if_neg (by omega)])
      first
      | exact ⟨rfl, rfl, hf8, hC8⟩
      | exact ⟨rfl, rfl, fun _ _ => rfl, hC⟩
      | exact ⟨rfl, rfl, hf8, hC8⟩
      | (exfalso; omega)

set_option maxRecDepth 100000 in
set_option maxHeartbeats 4000000 in
theorem c_X5_far {l : Launch} {F : Nat × (Int → Int)} {iv A : Mm} (hC : CR iv A) (hA : AI A) {x y : Int} (hx : -2147483648 ≤ x ∧ x < 2147483648) (hy : -2147483648 ≤ y ∧ y < 2147483648) : Ctr l F 4 0 0 yX5_far cX5_far 3 (some FieldType.int) [r_ 0, i_ x, i_ y] S0 (iv) (CP iv (an_far A x y)) := by
  refine Ctr.of false (fun h => by cases h) (by decide) rfl (Nat.le_of_ble_eq_true rfl) ?_
  have hI := hA.mi
  have hmm := hI.many
  have hkp := hA.kp
  have htp := hA.tp
  refine J.iload_n (q := 1) dX5_far_0 rfl ?_ rfl
  refine J.callS1i (q := 4) dX5_far_1 mv_X5_isCell kS_X5_isCell kL_X5_55 ⟨by decide, by decide⟩ (Nat.le_of_ble_eq_true rfl) ⟨by decide, by decide⟩ rfl (c_X5_isCell (by omega)) ?_
  refine J.ifb_eq (tgt := 14) (q := 7) dX5_far_4 rfl rfl (fun c4 => ?_) (fun c4 => ?_)
  · refine J.aload_n (q := 15) dX5_far_14 rfl ?_ rfl
    refine J.ldc (q := 17) (z := -1000001) dX5_far_15 kK_X5_63 ?_ rfl
    refine J.callV1 (ci := 5) (q := 20) dX5_far_17 mv_X5_tell kL_X5_64 rfl (by decide) rfl ⟨by decide, by decide⟩ (Nat.le_of_ble_eq_true rfl) ⟨by decide, by decide⟩ rfl (c_X5_tell (w := 0) (by decide) hC (by decide)) (fun v9 S9 iv9 hp => ?_)
    obtain ⟨rfl, rfl, hf8, hC8⟩ := hp
    refine J.ireturn dX5_far_20 rfl ?_
    unfold CP an_far
    repeat (first | rw [if_pos (by omega)] | rw [if_neg (by omega)])
    first
    | exact ⟨rfl, rfl, hf8, hC8⟩
    | (exfalso; omega)
  · refine J.iload_n (q := 8) dX5_far_7 rfl ?_ rfl
    refine J.callS1i (q := 11) dX5_far_8 mv_X5_isCell kS_X5_isCell kL_X5_55 ⟨by decide, by decide⟩ (Nat.le_of_ble_eq_true rfl) ⟨by decide, by decide⟩ rfl (c_X5_isCell (by omega)) ?_
    refine J.ifb_ne (tgt := 21) (q := 14) dX5_far_11 rfl rfl (fun c11 => ?_) (fun c11 => ?_)
    · refine J.aload_n (q := 22) dX5_far_21 rfl ?_ rfl
      refine J.getR (ci := 5) (k0 := 3) (c1 := 44) (q := 25) dX5_far_22 kF_X5_29 rfl (by decide) (by decide) rfl (by decide) rfl ?_ rfl
      refine J.aload_n (q := 26) dX5_far_25 rfl ?_ rfl
      refine J.getR (ci := 5) (k0 := 0) (c1 := 1) (q := 29) dX5_far_26 kF_X5_12 rfl (by decide) (by decide) rfl (by decide) rfl ?_ rfl
      refine J.callV1 (ci := 4) (q := 32) dX5_far_29 mv_X4_openLand kL_X5_77 rfl (by decide) rfl ⟨by decide, by decide⟩ (Nat.le_of_ble_eq_true rfl) ⟨by decide, by decide⟩ rfl (c_openLand44 hC.r hI) (fun v9 S9 iv9 hp => ?_)
      obtain ⟨rfl, rfl, b1, b2⟩ := hp
      have hR9 : RR iv9 1 (A 62) := f1 hC.r (fun q q1 q2 q3 => b1 q (by omega))
      refine J.aload_n (q := 33) dX5_far_32 rfl ?_ rfl
      refine J.getR (ci := 5) (k0 := 3) (c1 := 44) (q := 36) dX5_far_33 kF_X5_29 rfl (by decide) (by decide) rfl (by decide) rfl ?_ rfl
      refine J.iload_n (q := 37) dX5_far_36 rfl ?_ rfl
      refine J.callV1 (ci := 4) (q := 40) dX5_far_37 mv_X4_measure kL_X5_81 rfl (by decide) rfl ⟨by decide, by decide⟩ (Nat.le_of_ble_eq_true rfl) ⟨by decide, by decide⟩ rfl (c_measure44 (op := opH (A 62)) (fr := y) (by omega) b2) (fun v8 S8 iv8 hp => ?_)
      obtain ⟨rfl, rfl, m1, m2⟩ := hp
      have hC8 : CR iv8 A := hC.fr (fun q hq => (m1 q (by omega) (by omega)).trans (b1 q (by omega)))
      have hf8 : ∀ q, 61 ≤ q → iv8 q = iv q := fun q hq => (m1 q (by omega) (by omega)).trans (b1 q (by omega))
      refine J.aload_n (q := 41) dX5_far_40 rfl ?_ rfl
      refine J.getR (ci := 5) (k0 := 3) (c1 := 44) (q := 44) dX5_far_41 kF_X5_29 rfl (by decide) (by decide) rfl (by decide) rfl ?_ rfl
      refine J.getR (ci := 4) (k0 := 0) (c1 := 45) (q := 47) dX5_far_44 kF_X5_85 rfl (by decide) (by decide) rfl (by decide) rfl ?_ rfl
      refine J.iload_n (q := 48) dX5_far_47 rfl ?_ rfl
      refine J.iald (n := 81) (q := 49) dX5_far_48 rfl (by omega) ?_ rfl
      rw [m2 _ (by omega) (by omega)]
      refine J.ireturn dX5_far_49 rfl ?_
      unfold CP an_far
      repeat (first | rw [if_pos (by omega)] | rw [if_neg (by omega)])
      first
      | exact ⟨rfl, rfl, hf8, hC8⟩
      | (exfalso; omega)
    · refine J.aload_n (q := 15) dX5_far_14 rfl ?_ rfl
      refine J.ldc (q := 17) (z := -1000001) dX5_far_15 kK_X5_63 ?_ rfl
      refine J.callV1 (ci := 5) (q := 20) dX5_far_17 mv_X5_tell kL_X5_64 rfl (by decide) rfl ⟨by decide, by decide⟩ (Nat.le_of_ble_eq_true rfl) ⟨by decide, by decide⟩ rfl (c_X5_tell (w := 0) (by decide) hC (by decide)) (fun v9 S9 iv9 hp => ?_)
      obtain ⟨rfl, rfl, hf8, hC8⟩ := hp
      refine J.ireturn dX5_far_20 rfl ?_
      unfold CP an_far
      repeat (first | rw [if_pos (by omega)] | rw [if_neg (by omega)])
      first
      | exact ⟨rfl, rfl, hf8, hC8⟩
      | (exfalso; omega)

set_option maxRecDepth 100000 in
set_option maxHeartbeats 4000000 in
theorem openFor44_loop {l : Launch} {F : Nat × (Int → Int)} {iv : Mm} {D : Int} {s : Int → Int} {x : Int} (hR : RR iv 1 s) (hI : MI D s) (hx : 0 ≤ x ∧ x ≤ 7) : ∀ (n : Nat) (c : Int) (iv1 : Mm), (81 - c < n) → (0 ≤ c ∧ c ≤ 81) → (∀ q, q ≠ 46 → iv1 q = iv q) → (∀ j, 0 ≤ j → j < c → iv1 46 j = (if opD s x j = true then 1 else 0)) → J l (yX4_openFor).cls cX4_openFor 4 none 1 0 0 false F (fun v S iv2 => v = none ∧ S = S0 ∧ (∀ q, q ≠ 46 → iv2 q = iv q) ∧ ∀ c, 0 ≤ c → c < 81 → iv2 46 c = (if opD s x c = true then 1 else 0)) 0 0 2 [some (r_ 44), some (r_ 1), some (i_ x), some (i_ c)] [] S0 (iv1) := by
  intro n
  induction n with
  | zero =>
    intro c iv1 hn hc hf hd
    omega
  | succ n ih =>
    intro c iv1 hn hc hf hd
    have hR1 : RR iv1 1 s := f1 hR (fun q q1 q2 q3 => hf q (by omega))
    refine J.iload_n (q := 3) dX4_openFor_2 rfl ?_ rfl
    refine J.bipush (q := 5) dX4_openFor_3 (by decide) ?_ rfl
    refine J.icmp_ge (tgt := 43) (q := 8) dX4_openFor_5 rfl rfl (fun c5 => ?_) (fun c5 => ?_)
    · refine J.vreturn dX4_openFor_43 rfl ?_
      exact ⟨rfl, rfl, hf, fun j h0 h1 => hd j h0 (by omega)⟩
    · refine J.aload_n (q := 9) dX4_openFor_8 rfl ?_ rfl
      refine J.getR (ci := 4) (k0 := 1) (c1 := 46) (q := 12) dX4_openFor_9 kF_X4_15 rfl (by decide) (by decide) rfl (by decide) rfl ?_ rfl
      refine J.iload_n (q := 13) dX4_openFor_12 rfl ?_ rfl
      refine J.aload_n (q := 14) dX4_openFor_13 rfl ?_ rfl
      refine J.getR (ci := 1) (k0 := 0) (c1 := 2) (q := 17) dX4_openFor_14 kF_X4_28 rfl (by decide) (by decide) rfl (by decide) rfl ?_ rfl
      refine J.iload_n (q := 18) dX4_openFor_17 rfl ?_ rfl
      refine J.iald (n := 81) (q := 19) dX4_openFor_18 rfl (by omega) ?_ rfl
      rw [g1_hed hR1 (by omega) (by omega)]
      have hcl := hI.cel c (by omega) (by omega)
      refine J.if_ne (tgt := 35) (q := 22) dX4_openFor_19 rfl rfl (fun c19 => ?_) (fun c19 => ?_)
      · have ho : (if opD s x c = true then (1 : Int) else 0) = 0 := if_neg (fun z => (of_decide_eq_true z).1 (by omega))
        refine J.iconst (q := 36) dX4_openFor_35 ?_ rfl
        refine J.zast (n := 81) (q := 37) dX4_openFor_36 rfl (by omega) (by omega) ?_ rfl
        refine J.iinc (q := 40) dX4_openFor_37 rfl ?_ rfl
        refine J.goto (tgt := 2) dX4_openFor_40 rfl ?_
        refine ih (c + 1) _ (by omega) (by omega) (fun q hq => ?_) (fun j h0 h1 => ?_)
        · rw [up_n _ _ _ hq]; exact hf q hq
        · rw [up_s]
          by_cases hj : j = c
          · subst hj; rw [upr_s, ho]
          · rw [upr_n _ _ hj]; exact hd j h0 (by omega)
      · refine J.aload_n (q := 23) dX4_openFor_22 rfl ?_ rfl
        refine J.iload_n (q := 24) dX4_openFor_23 rfl ?_ rfl
        refine J.iload_n (q := 25) dX4_openFor_24 rfl ?_ rfl
        refine J.callV2i (ci := 1) (q := 28) dX4_openFor_25 mv_X1_isLawful kL_X4_33 rfl (by decide) rfl ⟨by decide, by decide⟩ (Nat.le_of_ble_eq_true rfl) ⟨by decide, by decide⟩ rfl (c_X1_isLawful hR1 hI (by omega) (by omega)) ?_
        refine J.ifb_eq (tgt := 35) (q := 31) dX4_openFor_28 rfl rfl (fun c28 => ?_) (fun c28 => ?_)
        · have ho : (if opD s x c = true then (1 : Int) else 0) = 0 := if_neg (fun z => c28 (of_decide_eq_true z).2)
          refine J.iconst (q := 36) dX4_openFor_35 ?_ rfl
          refine J.zast (n := 81) (q := 37) dX4_openFor_36 rfl (by omega) (by omega) ?_ rfl
          refine J.iinc (q := 40) dX4_openFor_37 rfl ?_ rfl
          refine J.goto (tgt := 2) dX4_openFor_40 rfl ?_
          refine ih (c + 1) _ (by omega) (by omega) (fun q hq => ?_) (fun j h0 h1 => ?_)
          · rw [up_n _ _ _ hq]; exact hf q hq
          · rw [up_s]
            by_cases hj : j = c
            · subst hj; rw [upr_s, ho]
            · rw [upr_n _ _ hj]; exact hd j h0 (by omega)
        · have ho : (if opD s x c = true then (1 : Int) else 0) = 1 := if_pos (decide_eq_true ⟨by omega, c28⟩)
          refine J.iconst (q := 32) dX4_openFor_31 ?_ rfl
          refine J.goto (tgt := 36) dX4_openFor_32 rfl ?_
          refine J.zast (n := 81) (q := 37) dX4_openFor_36 rfl (by omega) (by omega) ?_ rfl
          refine J.iinc (q := 40) dX4_openFor_37 rfl ?_ rfl
          refine J.goto (tgt := 2) dX4_openFor_40 rfl ?_
          refine ih (c + 1) _ (by omega) (by omega) (fun q hq => ?_) (fun j h0 h1 => ?_)
          · rw [up_n _ _ _ hq]; exact hf q hq
          · rw [up_s]
            by_cases hj : j = c
            · subst hj; rw [upr_s, ho]
            · rw [upr_n _ _ hj]; exact hd j h0 (by omega)

set_option maxRecDepth 100000 in
set_option maxHeartbeats 4000000 in
theorem c_openFor44 {l : Launch} {F : Nat × (Int → Int)} {iv : Mm} {D : Int} {s : Int → Int} {x : Int} (hR : RR iv 1 s) (hI : MI D s) (hx : 0 ≤ x ∧ x ≤ 7) : Ctr l F 1 0 0 yX4_openFor cX4_openFor 4 none [r_ 44, r_ 1, i_ x] S0 (iv) (fun v S iv2 => v = none ∧ S = S0 ∧ (∀ q, q ≠ 46 → iv2 q = iv q) ∧ ∀ c, 0 ≤ c → c < 81 → iv2 46 c = (if opD s x c = true then 1 else 0)) := by
  refine Ctr.of false (fun h => by cases h) (by decide) rfl (Nat.le_of_ble_eq_true rfl) ?_
  refine J.iconst (q := 1) dX4_openFor_0 ?_ rfl
  refine J.istore_n (q := 2) dX4_openFor_1 (Nat.le_of_ble_eq_true rfl) ?_ rfl
  exact openFor44_loop hR hI hx 82 0 iv (by omega) (by omega) (fun _ _ => rfl) (fun j h0 h1 => by omega)

set_option maxRecDepth 100000 in
set_option maxHeartbeats 4000000 in
theorem c_X5_route {l : Launch} {F : Nat × (Int → Int)} {iv A : Mm} (hC : CR iv A) (hA : AI A) {x y w : Int} (hx : -2147483648 ≤ x ∧ x < 2147483648) (hy : -2147483648 ≤ y ∧ y < 2147483648) (hw : -2147483648 ≤ w ∧ w < 2147483648) : Ctr l F 4 0 0 yX5_route cX5_route 4 (some FieldType.int) [r_ 0, i_ x, i_ y, i_ w] S0 (iv) (CP iv (an_route A x y w)) := by
  refine Ctr.of false (fun h => by cases h) (by decide) rfl (Nat.le_of_ble_eq_true rfl) ?_
  have hI := hA.mi
  have hmm := hI.many
  have hkp := hA.kp
  have htp := hA.tp
  refine J.iload_n (q := 1) dX5_route_0 rfl ?_ rfl
  refine J.callS1i (q := 4) dX5_route_1 mv_X5_isCell kS_X5_isCell kL_X5_55 ⟨by decide, by decide⟩ (Nat.le_of_ble_eq_true rfl) ⟨by decide, by decide⟩ rfl (c_X5_isCell (by omega)) ?_
  refine J.ifb_eq (tgt := 21) (q := 7) dX5_route_4 rfl rfl (fun c4 => ?_) (fun c4 => ?_)
  · refine J.aload_n (q := 22) dX5_route_21 rfl ?_ rfl
    refine J.ldc (q := 24) (z := -1000001) dX5_route_22 kK_X5_63 ?_ rfl
    refine J.callV1 (ci := 5) (q := 27) dX5_route_24 mv_X5_tell kL_X5_64 rfl (by decide) rfl ⟨by decide, by decide⟩ (Nat.le_of_ble_eq_true rfl) ⟨by decide, by decide⟩ rfl (c_X5_tell (w := 0) (by decide) hC (by decide)) (fun v9 S9 iv9 hp => ?_)
    obtain ⟨rfl, rfl, hf8, hC8⟩ := hp
    refine J.ireturn dX5_route_27 rfl ?_
    unfold CP an_route
    repeat (first | rw [if_pos (by omega)] | rw [if_neg (by omega)])
    first
    | exact ⟨rfl, rfl, hf8, hC8⟩
    | exact ⟨rfl, rfl, fun q hq => (hf7 q hq).trans (hf8 q hq), hC7⟩
    | exact ⟨rfl, rfl, hf8, hC8⟩
    | (exfalso; omega)
  · refine J.iload_n (q := 8) dX5_route_7 rfl ?_ rfl
    refine J.callS1i (q := 11) dX5_route_8 mv_X5_isCell kS_X5_isCell kL_X5_55 ⟨by decide, by decide⟩ (Nat.le_of_ble_eq_true rfl) ⟨by decide, by decide⟩ rfl (c_X5_isCell (by omega)) ?_
    refine J.ifb_eq (tgt := 21) (q := 14) dX5_route_11 rfl rfl (fun c11 => ?_) (fun c11 => ?_)
    · refine J.aload_n (q := 22) dX5_route_21 rfl ?_ rfl
      refine J.ldc (q := 24) (z := -1000001) dX5_route_22 kK_X5_63 ?_ rfl
      refine J.callV1 (ci := 5) (q := 27) dX5_route_24 mv_X5_tell kL_X5_64 rfl (by decide) rfl ⟨by decide, by decide⟩ (Nat.le_of_ble_eq_true rfl) ⟨by decide, by decide⟩ rfl (c_X5_tell (w := 0) (by decide) hC (by decide)) (fun v9 S9 iv9 hp => ?_)
      obtain ⟨rfl, rfl, hf8, hC8⟩ := hp
      refine J.ireturn dX5_route_27 rfl ?_
      unfold CP an_route
      repeat (first | rw [if_pos (by omega)] | rw [if_neg (by omega)])
      first
      | exact ⟨rfl, rfl, hf8, hC8⟩
      | exact ⟨rfl, rfl, fun q hq => (hf7 q hq).trans (hf8 q hq), hC7⟩
      | exact ⟨rfl, rfl, hf8, hC8⟩
      | (exfalso; omega)
    · refine J.iload_n (q := 15) dX5_route_14 rfl ?_ rfl
      refine J.callS1i (q := 18) dX5_route_15 mv_X5_isDeed kS_X5_isDeed kL_X5_159 ⟨by decide, by decide⟩ (Nat.le_of_ble_eq_true rfl) ⟨by decide, by decide⟩ rfl (c_X5_isDeed (by omega)) ?_
      refine J.ifb_ne (tgt := 28) (q := 21) dX5_route_18 rfl rfl (fun c18 => ?_) (fun c18 => ?_)
      · refine J.aload_n (q := 29) dX5_route_28 rfl ?_ rfl
        refine J.getR (ci := 5) (k0 := 3) (c1 := 44) (q := 32) dX5_route_29 kF_X5_29 rfl (by decide) (by decide) rfl (by decide) rfl ?_ rfl
        refine J.aload_n (q := 33) dX5_route_32 rfl ?_ rfl
        refine J.getR (ci := 5) (k0 := 0) (c1 := 1) (q := 36) dX5_route_33 kF_X5_12 rfl (by decide) (by decide) rfl (by decide) rfl ?_ rfl
        refine J.iload_n (q := 37) dX5_route_36 rfl ?_ rfl
        refine J.callV2 (ci := 4) (q := 40) dX5_route_37 mv_X4_openFor kL_X5_168 rfl (by decide) rfl ⟨by decide, by decide⟩ (Nat.le_of_ble_eq_true rfl) ⟨by decide, by decide⟩ rfl (c_openFor44 hC.r hI (by omega)) (fun v9 S9 iv9 hp => ?_)
        obtain ⟨rfl, rfl, b1, b2⟩ := hp
        refine J.aload_n (q := 41) dX5_route_40 rfl ?_ rfl
        refine J.getR (ci := 5) (k0 := 3) (c1 := 44) (q := 44) dX5_route_41 kF_X5_29 rfl (by decide) (by decide) rfl (by decide) rfl ?_ rfl
        refine J.iload_n (q := 45) dX5_route_44 rfl ?_ rfl
        refine J.callV1 (ci := 4) (q := 48) dX5_route_45 mv_X4_measure kL_X5_81 rfl (by decide) rfl ⟨by decide, by decide⟩ (Nat.le_of_ble_eq_true rfl) ⟨by decide, by decide⟩ rfl (c_measure44 (op := opD (A 62) w) (fr := y) (by omega) b2) (fun v8 S8 iv8 hp => ?_)
        obtain ⟨rfl, rfl, m1, m2⟩ := hp
        have hC8 : CR iv8 A := hC.fr (fun q hq => (m1 q (by omega) (by omega)).trans (b1 q (by omega)))
        have hf8 : ∀ q, 61 ≤ q → iv8 q = iv q := fun q hq => (m1 q (by omega) (by omega)).trans (b1 q (by omega))
        have hdr := dst_rng (op := opD (A 62) w) (show 0 ≤ y ∧ y ≤ 80 by omega) x
        refine J.aload_n (q := 49) dX5_route_48 rfl ?_ rfl
        refine J.getR (ci := 5) (k0 := 3) (c1 := 44) (q := 52) dX5_route_49 kF_X5_29 rfl (by decide) (by decide) rfl (by decide) rfl ?_ rfl
        refine J.getR (ci := 4) (k0 := 0) (c1 := 45) (q := 55) dX5_route_52 kF_X5_85 rfl (by decide) (by decide) rfl (by decide) rfl ?_ rfl
        refine J.iload_n (q := 56) dX5_route_55 rfl ?_ rfl
        refine J.iald (n := 81) (q := 57) dX5_route_56 rfl (by omega) ?_ rfl
        rw [m2 _ (by omega) (by omega)]
        refine J.bipush (q := 59) dX5_route_57 (by decide) ?_ rfl
        refine J.icmp_ne (tgt := 71) (q := 62) (hv := by omega) dX5_route_59 rfl rfl (fun c59 => ?_) (fun c59 => ?_)
        · refine J.aload_n (q := 72) dX5_route_71 rfl ?_ rfl
          refine J.getR (ci := 5) (k0 := 3) (c1 := 44) (q := 75) dX5_route_72 kF_X5_29 rfl (by decide) (by decide) rfl (by decide) rfl ?_ rfl
          refine J.getR (ci := 4) (k0 := 0) (c1 := 45) (q := 78) dX5_route_75 kF_X5_85 rfl (by decide) (by decide) rfl (by decide) rfl ?_ rfl
          refine J.iload_n (q := 79) dX5_route_78 rfl ?_ rfl
          refine J.iald (n := 81) (q := 80) dX5_route_79 rfl (by omega) ?_ rfl
          rw [m2 _ (by omega) (by omega)]
          refine J.ireturn dX5_route_80 rfl ?_
          unfold CP an_route
          repeat (first | rw [if_pos (by omega)] | rw [if_neg (by omega)])
          first
          | exact ⟨rfl, rfl, hf8, hC8⟩
          | exact ⟨rfl, rfl, fun q hq => (hf7 q hq).trans (hf8 q hq), hC7⟩
          | exact ⟨rfl, rfl, hf8, hC8⟩
          | (exfalso; omega)
        · refine J.aload_n (q := 63) dX5_route_62 rfl ?_ rfl
          refine J.ldc (q := 65) (z := -1000004) dX5_route_63 kK_X5_172 ?_ rfl
          refine J.callV1 (ci := 5) (q := 68) dX5_route_65 mv_X5_tell kL_X5_64 rfl (by decide) rfl ⟨by decide, by decide⟩ (Nat.le_of_ble_eq_true rfl) ⟨by decide, by decide⟩ rfl (c_X5_tell (w := 3) (by decide) hC8 (by decide)) (fun v7 S7 iv7 hp => ?_)
          obtain ⟨rfl, rfl, hf7, hC7⟩ := hp
          refine J.goto (tgt := 80) dX5_route_68 rfl ?_
          refine J.ireturn dX5_route_80 rfl ?_
          unfold CP an_route
          repeat (first | rw [if_pos (by omega)] | rw [if_neg (by omega)])
          first
          | exact ⟨rfl, rfl, hf8, hC8⟩
          | exact ⟨rfl, rfl, fun q hq => (hf7 q hq).trans (hf8 q hq), hC7⟩
          | exact ⟨rfl, rfl, hf8, hC8⟩
          | (exfalso; omega)
      · refine J.aload_n (q := 22) dX5_route_21 rfl ?_ rfl
        refine J.ldc (q := 24) (z := -1000001) dX5_route_22 kK_X5_63 ?_ rfl
        refine J.callV1 (ci := 5) (q := 27) dX5_route_24 mv_X5_tell kL_X5_64 rfl (by decide) rfl ⟨by decide, by decide⟩ (Nat.le_of_ble_eq_true rfl) ⟨by decide, by decide⟩ rfl (c_X5_tell (w := 0) (by decide) hC (by decide)) (fun v9 S9 iv9 hp => ?_)
        obtain ⟨rfl, rfl, hf8, hC8⟩ := hp
        refine J.ireturn dX5_route_27 rfl ?_
        unfold CP an_route
        repeat (first | rw [if_pos (by omega)] | rw [if_neg (by omega)])
        first
        | exact ⟨rfl, rfl, hf8, hC8⟩
        | exact ⟨rfl, rfl, fun q hq => (hf7 q hq).trans (hf8 q hq), hC7⟩
        | exact ⟨rfl, rfl, hf8, hC8⟩
        | (exfalso; omega)

theorem dys_met {s c : Int → Int} (n : Nat) : (dysM (fdst s) th1 n (s, c)).1 = dys s n := dysM_fst (fdst s) th1 (s, c) (P0 s) rfl n
set_option maxRecDepth 100000 in
set_option maxHeartbeats 4000000 in
theorem c_X5_go {l : Launch} {F : Nat × (Int → Int)} {iv A : Mm} (hC : CR iv A) (hA : AI A) {n : Int} (hn : -2147483648 ≤ n ∧ n < 2147483648) : Ctr l F 4 0 0 yX5_go cX5_go 2 (some FieldType.int) [r_ 0, i_ n] S0 (iv) (CP iv (an_go A n)) := by
  refine Ctr.of false (fun h => by cases h) (by decide) rfl (Nat.le_of_ble_eq_true rfl) ?_
  have hI := hA.mi
  have hmm := hI.many
  have hkp := hA.kp
  have htp := hA.tp
  have hdy := hI.day
  refine J.iload_n (q := 1) dX5_go_0 rfl ?_ rfl
  refine J.iconst (q := 2) dX5_go_1 ?_ rfl
  refine J.icmp_lt (tgt := 11) (q := 5) dX5_go_2 rfl rfl (fun c2 => ?_) (fun c2 => ?_)
  · refine J.aload_n (q := 12) dX5_go_11 rfl ?_ rfl
    refine J.ldc (q := 14) (z := -1000001) dX5_go_12 kK_X5_63 ?_ rfl
    refine J.callV1 (ci := 5) (q := 17) dX5_go_14 mv_X5_tell kL_X5_64 rfl (by decide) rfl ⟨by decide, by decide⟩ (Nat.le_of_ble_eq_true rfl) ⟨by decide, by decide⟩ rfl (c_X5_tell (w := 0) (by decide) hC (by decide)) (fun v9 S9 iv9 hp => ?_)
    obtain ⟨rfl, rfl, hf8, hC8⟩ := hp
    refine J.ireturn dX5_go_17 rfl ?_
    unfold CP an_go
    repeat (first | rw [if_pos (by omega)] | rw [if_neg (by omega)])
    first
    | exact ⟨rfl, rfl, hf8, hC8⟩
    | exact ⟨rfl, rfl, fun q hq => (d1 q (by omega)).trans (b1 q (by omega)), hC.rep hR8 (fun q hq => (d1 q (by omega)).trans (b1 q (by omega)))⟩
    | (exfalso; omega)
  · refine J.iload_n (q := 6) dX5_go_5 rfl ?_ rfl
    refine J.bipush (q := 8) dX5_go_6 (by decide) ?_ rfl
    refine J.icmp_le (tgt := 18) (q := 11) dX5_go_8 rfl rfl (fun c8 => ?_) (fun c8 => ?_)
    · refine J.aload_n (q := 19) dX5_go_18 rfl ?_ rfl
      refine J.getR (ci := 5) (k0 := 0) (c1 := 1) (q := 22) dX5_go_19 kF_X5_12 rfl (by decide) (by decide) rfl (by decide) rfl ?_ rfl
      refine J.getI (ci := 1) (k0 := 14) (kz := 14) (q := 25) dX5_go_22 kF_X5_125 rfl (by decide) (by decide) rfl (.inl rfl) ?_ rfl
      rw [g1_day hC.r]
      refine J.iload_n (q := 26) dX5_go_25 rfl ?_ rfl
      refine J.iadd (q := 27) dX5_go_26 ?_ rfl
      refine J.ldc (q := 29) (z := 99999) dX5_go_27 kK_X5_128 ?_ rfl
      refine J.icmp_le (tgt := 39) (q := 32) dX5_go_29 rfl rfl (fun c29 => ?_) (fun c29 => ?_)
      · refine J.aload_n (q := 40) dX5_go_39 rfl ?_ rfl
        refine J.getR (ci := 5) (k0 := 3) (c1 := 44) (q := 43) dX5_go_40 kF_X5_29 rfl (by decide) (by decide) rfl (by decide) rfl ?_ rfl
        refine J.aload_n (q := 44) dX5_go_43 rfl ?_ rfl
        refine J.getR (ci := 5) (k0 := 0) (c1 := 1) (q := 47) dX5_go_44 kF_X5_12 rfl (by decide) (by decide) rfl (by decide) rfl ?_ rfl
        refine J.callV1 (ci := 4) (q := 50) dX5_go_47 mv_X4_survey kL_X5_130 rfl (by decide) rfl ⟨by decide, by decide⟩ (Nat.le_of_ble_eq_true rfl) ⟨by decide, by decide⟩ rfl (c_survey44 hC.r hI) (fun v9 S9 iv9 hp => ?_)
        obtain ⟨rfl, rfl, b1, hSv⟩ := hp
        have hR9 : RR iv9 1 (A 62) := f1 hC.r (fun q q1 q2 q3 => b1 q (by omega))
        refine J.aload_n (q := 51) dX5_go_50 rfl ?_ rfl
        refine J.getR (ci := 5) (k0 := 0) (c1 := 1) (q := 54) dX5_go_51 kF_X5_12 rfl (by decide) (by decide) rfl (by decide) rfl ?_ rfl
        refine J.aload_n (q := 55) dX5_go_54 rfl ?_ rfl
        refine J.getR (ci := 5) (k0 := 3) (c1 := 44) (q := 58) dX5_go_55 kF_X5_29 rfl (by decide) (by decide) rfl (by decide) rfl ?_ rfl
        refine J.sipush (q := 61) dX5_go_58 (by decide) ?_ rfl
        refine J.iload_n (q := 62) dX5_go_61 rfl ?_ rfl
        refine J.callV3 (ci := 1) (q := 65) dX5_go_62 mv_X1_passDays kL_X5_133 rfl (by decide) rfl ⟨by decide, by decide⟩ (Nat.le_of_ble_eq_true rfl) ⟨by decide, by decide⟩ rfl (c_passDays1 (D := 200000) (th := th1) (X0 := (A 62, iv9 5)) (Int.le_refl _) hSv (by omega) hth255 (by omega) (D0 := 99999) (by omega) hI rfl (fun _ _ _ => rfl) ⟨hR9, fun _ _ _ => rfl⟩) (fun v8 S8 iv8 hp => ?_)
        obtain ⟨rfl, rfl, d1, hR8, -⟩ := hp
        rw [dys_met] at hR8
        refine J.aload_n (q := 66) dX5_go_65 rfl ?_ rfl
        refine J.getR (ci := 5) (k0 := 0) (c1 := 1) (q := 69) dX5_go_66 kF_X5_12 rfl (by decide) (by decide) rfl (by decide) rfl ?_ rfl
        refine J.getI (ci := 1) (k0 := 15) (kz := 15) (q := 72) dX5_go_69 kF_X5_137 rfl (by decide) (by decide) rfl (.inl rfl) ?_ rfl
        rw [g1_cla hR8]
        refine J.ireturn dX5_go_72 rfl ?_
        unfold CP an_go
        repeat (first | rw [if_pos (by omega)] | rw [if_neg (by omega)])
        first
        | exact ⟨rfl, rfl, hf8, hC8⟩
        | exact ⟨rfl, rfl, fun q hq => (d1 q (by omega)).trans (b1 q (by omega)), hC.rep hR8 (fun q hq => (d1 q (by omega)).trans (b1 q (by omega)))⟩
        | (exfalso; omega)
      · refine J.aload_n (q := 33) dX5_go_32 rfl ?_ rfl
        refine J.ldc (q := 35) (z := -1000005) dX5_go_33 kK_X5_129 ?_ rfl
        refine J.callV1 (ci := 5) (q := 38) dX5_go_35 mv_X5_tell kL_X5_64 rfl (by decide) rfl ⟨by decide, by decide⟩ (Nat.le_of_ble_eq_true rfl) ⟨by decide, by decide⟩ rfl (c_X5_tell (w := 4) (by decide) hC (by decide)) (fun v9 S9 iv9 hp => ?_)
        obtain ⟨rfl, rfl, hf8, hC8⟩ := hp
        refine J.ireturn dX5_go_38 rfl ?_
        unfold CP an_go
        repeat (first | rw [if_pos (by omega)] | rw [if_neg (by omega)])
        first
        | exact ⟨rfl, rfl, hf8, hC8⟩
        | exact ⟨rfl, rfl, fun q hq => (d1 q (by omega)).trans (b1 q (by omega)), hC.rep hR8 (fun q hq => (d1 q (by omega)).trans (b1 q (by omega)))⟩
        | (exfalso; omega)
    · refine J.aload_n (q := 12) dX5_go_11 rfl ?_ rfl
      refine J.ldc (q := 14) (z := -1000001) dX5_go_12 kK_X5_63 ?_ rfl
      refine J.callV1 (ci := 5) (q := 17) dX5_go_14 mv_X5_tell kL_X5_64 rfl (by decide) rfl ⟨by decide, by decide⟩ (Nat.le_of_ble_eq_true rfl) ⟨by decide, by decide⟩ rfl (c_X5_tell (w := 0) (by decide) hC (by decide)) (fun v9 S9 iv9 hp => ?_)
      obtain ⟨rfl, rfl, hf8, hC8⟩ := hp
      refine J.ireturn dX5_go_17 rfl ?_
      unfold CP an_go
      repeat (first | rw [if_pos (by omega)] | rw [if_neg (by omega)])
      first
      | exact ⟨rfl, rfl, hf8, hC8⟩
      | exact ⟨rfl, rfl, fun q hq => (d1 q (by omega)).trans (b1 q (by omega)), hC.rep hR8 (fun q hq => (d1 q (by omega)).trans (b1 q (by omega)))⟩
      | (exfalso; omega)

set_option maxRecDepth 100000 in
set_option maxHeartbeats 4000000 in
theorem c_X5_as {l : Launch} {F : Nat × (Int → Int)} {iv A : Mm} (hC : CR iv A) (hA : AI A) {p x : Int} (hp : -2147483648 ≤ p ∧ p < 2147483648) (hx : -2147483648 ≤ x ∧ x < 2147483648) : Ctr l F 3 0 0 yX5_as cX5_as 4 (some FieldType.int) [r_ 0, i_ p, i_ x] S0 (iv) (CP iv (an_as A p x)) := by
  refine Ctr.of false (fun h => by cases h) (by decide) rfl (Nat.le_of_ble_eq_true rfl) ?_
  have hI := hA.mi
  have hmm := hI.many
  have hkp := hA.kp
  have htp := hA.tp
  have hsp := fun z1 z2 => hI.spo p z1 z2
  refine J.iload_n (q := 1) dX5_as_0 rfl ?_ rfl
  refine J.bipush (q := 3) dX5_as_1 (by decide) ?_ rfl
  refine J.callS2i (q := 6) dX5_as_3 mv_X5_isWithin kS_X5_isWithin kL_X5_59 ⟨by decide, by decide⟩ (Nat.le_of_ble_eq_true rfl) ⟨by decide, by decide⟩ rfl (c_X5_isWithin (by omega) (by omega)) ?_
  refine J.ifb_eq (tgt := 18) (q := 9) dX5_as_6 rfl rfl (fun c6 => ?_) (fun c6 => ?_)
  · refine J.aload_n (q := 19) dX5_as_18 rfl ?_ rfl
    refine J.ldc (q := 21) (z := -1000001) dX5_as_19 kK_X5_63 ?_ rfl
    refine J.callV1 (ci := 5) (q := 24) dX5_as_21 mv_X5_tell kL_X5_64 rfl (by decide) rfl ⟨by decide, by decide⟩ (Nat.le_of_ble_eq_true rfl) ⟨by decide, by decide⟩ rfl (c_X5_tell (w := 0) (by decide) hC (by decide)) (fun v9 S9 iv9 hp => ?_)
    obtain ⟨rfl, rfl, hf8, hC8⟩ := hp
    refine J.ireturn dX5_as_24 rfl ?_
    unfold CP an_as
    repeat (first | rw [if_pos (by omega)] | rw [if_neg (by omega)])
    first
    | exact ⟨rfl, rfl, hf8, hC8⟩
    | exact ⟨rfl, rfl, fun _ _ => rfl, hC⟩
    | (rw [if_pos c63]; exact ⟨rfl, rfl, fun _ _ => rfl, hC⟩)
    | (rw [if_neg c63]; exact ⟨rfl, rfl, hf8, hC8⟩)
    | (exfalso; omega)
  · refine J.iload_n (q := 10) dX5_as_9 rfl ?_ rfl
    refine J.bipush (q := 12) dX5_as_10 (by decide) ?_ rfl
    refine J.callS2i (q := 15) dX5_as_12 mv_X5_isWithin kS_X5_isWithin kL_X5_59 ⟨by decide, by decide⟩ (Nat.le_of_ble_eq_true rfl) ⟨by decide, by decide⟩ rfl (c_X5_isWithin (by omega) (by omega)) ?_
    refine J.ifb_ne (tgt := 25) (q := 18) dX5_as_15 rfl rfl (fun c15 => ?_) (fun c15 => ?_)
    · refine J.aload_n (q := 26) dX5_as_25 rfl ?_ rfl
      refine J.getR (ci := 5) (k0 := 0) (c1 := 1) (q := 29) dX5_as_26 kF_X5_12 rfl (by decide) (by decide) rfl (by decide) rfl ?_ rfl
      refine J.getR (ci := 1) (k0 := 10) (c1 := 12) (q := 32) dX5_as_29 kF_X5_244 rfl (by decide) (by decide) rfl (by decide) rfl ?_ rfl
      refine J.iload_n (q := 33) dX5_as_32 rfl ?_ rfl
      refine J.iald (n := 10) (q := 34) dX5_as_33 rfl (by omega) ?_ rfl
      rw [g1_spo hC.r (by omega) (by omega)]
      have hsp := hI.spo p (by omega) (by omega)
      have hsn := fun z1 z2 => hI.sna (A 62 (297 + p)) z1 z2
      refine J.istore_n (q := 35) dX5_as_34 (Nat.le_of_ble_eq_true rfl) ?_ rfl
      refine J.aload_n (q := 36) dX5_as_35 rfl ?_ rfl
      refine J.iload_n (q := 37) dX5_as_36 rfl ?_ rfl
      refine J.callV1i (ci := 5) (q := 40) dX5_as_37 mv_X5_isSnail kL_X5_93 rfl (by decide) rfl ⟨by decide, by decide⟩ (Nat.le_of_ble_eq_true rfl) ⟨by decide, by decide⟩ rfl (c_X5_isSnail (by omega) (g1_many hC.r) (by omega)) ?_
      refine J.ifb_ne (tgt := 50) (q := 43) dX5_as_40 rfl rfl (fun c40 => ?_) (fun c40 => ?_)
      · refine J.aload_n (q := 51) dX5_as_50 rfl ?_ rfl
        refine J.getR (ci := 5) (k0 := 0) (c1 := 1) (q := 54) dX5_as_51 kF_X5_12 rfl (by decide) (by decide) rfl (by decide) rfl ?_ rfl
        refine J.getR (ci := 1) (k0 := 5) (c1 := 7) (q := 57) dX5_as_54 kF_X5_184 rfl (by decide) (by decide) rfl (by decide) rfl ?_ rfl
        refine J.iload_n (q := 58) dX5_as_57 rfl ?_ rfl
        refine J.iald (n := 8) (q := 59) dX5_as_58 rfl (by omega) ?_ rfl
        rw [g1_kin hC.r (by omega) (by omega)]
        have hsn := hI.sna (A 62 (297 + p)) (by omega) (by omega)
        refine J.iload_n (q := 60) dX5_as_59 rfl ?_ rfl
        refine J.callS2i (q := 63) dX5_as_60 mv_X5_isOfKind kS_X5_isOfKind kL_X5_248 ⟨by decide, by decide⟩ (Nat.le_of_ble_eq_true rfl) ⟨by decide, by decide⟩ rfl (c_X5_isOfKind (by omega) (by omega)) ?_
        
        refine J.ifb_eq (tgt := 70) (q := 66) dX5_as_63 rfl rfl (fun c63 => ?_) (fun c63 => ?_)
        · refine J.aload_n (q := 71) dX5_as_70 rfl ?_ rfl
          refine J.ldc (q := 73) (z := -1000003) dX5_as_71 kK_X5_251 ?_ rfl
          refine J.callV1 (ci := 5) (q := 76) dX5_as_73 mv_X5_tell kL_X5_64 rfl (by decide) rfl ⟨by decide, by decide⟩ (Nat.le_of_ble_eq_true rfl) ⟨by decide, by decide⟩ rfl (c_X5_tell (w := 2) (by decide) hC (by decide)) (fun v9 S9 iv9 hp => ?_)
          obtain ⟨rfl, rfl, hf8, hC8⟩ := hp
          refine J.ireturn dX5_as_76 rfl ?_
          unfold CP an_as
          repeat (first | rw [if_pos (by omega)] | rw [if_neg (by omega)])
          first
          | exact ⟨rfl, rfl, hf8, hC8⟩
          | exact ⟨rfl, rfl, fun _ _ => rfl, hC⟩
          | (rw [if_pos c63]; exact ⟨rfl, rfl, fun _ _ => rfl, hC⟩)
          | (rw [if_neg c63]; exact ⟨rfl, rfl, hf8, hC8⟩)
          | (exfalso; omega)
        · refine J.iload_n (q := 67) dX5_as_66 rfl ?_ rfl
          refine J.goto (tgt := 76) dX5_as_67 rfl ?_
          refine J.ireturn dX5_as_76 rfl ?_
          unfold CP an_as
          repeat (first | rw [if_pos (by omega)] | rw [if_neg (by omega)])
          first
          | exact ⟨rfl, rfl, hf8, hC8⟩
          | exact ⟨rfl, rfl, fun _ _ => rfl, hC⟩
          | (rw [if_pos c63]; exact ⟨rfl, rfl, fun _ _ => rfl, hC⟩)
          | (rw [if_neg c63]; exact ⟨rfl, rfl, hf8, hC8⟩)
          | (exfalso; omega)
      · refine J.aload_n (q := 44) dX5_as_43 rfl ?_ rfl
        refine J.ldc (q := 46) (z := -1000006) dX5_as_44 kK_X5_247 ?_ rfl
        refine J.callV1 (ci := 5) (q := 49) dX5_as_46 mv_X5_tell kL_X5_64 rfl (by decide) rfl ⟨by decide, by decide⟩ (Nat.le_of_ble_eq_true rfl) ⟨by decide, by decide⟩ rfl (c_X5_tell (w := 5) (by decide) hC (by decide)) (fun v9 S9 iv9 hp => ?_)
        obtain ⟨rfl, rfl, hf8, hC8⟩ := hp
        refine J.ireturn dX5_as_49 rfl ?_
        unfold CP an_as
        repeat (first | rw [if_pos (by omega)] | rw [if_neg (by omega)])
        first
        | exact ⟨rfl, rfl, hf8, hC8⟩
        | exact ⟨rfl, rfl, fun _ _ => rfl, hC⟩
        | (rw [if_pos c63]; exact ⟨rfl, rfl, fun _ _ => rfl, hC⟩)
        | (rw [if_neg c63]; exact ⟨rfl, rfl, hf8, hC8⟩)
        | (exfalso; omega)
    · refine J.aload_n (q := 19) dX5_as_18 rfl ?_ rfl
      refine J.ldc (q := 21) (z := -1000001) dX5_as_19 kK_X5_63 ?_ rfl
      refine J.callV1 (ci := 5) (q := 24) dX5_as_21 mv_X5_tell kL_X5_64 rfl (by decide) rfl ⟨by decide, by decide⟩ (Nat.le_of_ble_eq_true rfl) ⟨by decide, by decide⟩ rfl (c_X5_tell (w := 0) (by decide) hC (by decide)) (fun v9 S9 iv9 hp => ?_)
      obtain ⟨rfl, rfl, hf8, hC8⟩ := hp
      refine J.ireturn dX5_as_24 rfl ?_
      unfold CP an_as
      repeat (first | rw [if_pos (by omega)] | rw [if_neg (by omega)])
      first
      | exact ⟨rfl, rfl, hf8, hC8⟩
      | exact ⟨rfl, rfl, fun _ _ => rfl, hC⟩
      | (rw [if_pos c63]; exact ⟨rfl, rfl, fun _ _ => rfl, hC⟩)
      | (rw [if_neg c63]; exact ⟨rfl, rfl, hf8, hC8⟩)
      | (exfalso; omega)

