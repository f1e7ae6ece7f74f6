/-! PURE: what each call answers, and what it leaves, over the rows of the reference (62 the republic, 63 what is kept, 65 findings, 70 the tape, 74, 75, 76 the sheets; 61 3 is something kept, 61 10 bytes of the tape) -/
def hi (iv : Mm) : Mm := fun q => if q < 61 then fun _ => 0 else iv q
theorem hi_61 (iv : Mm) : hi iv 61 = iv 61 := rfl
theorem hi_62 (iv : Mm) : hi iv 62 = iv 62 := rfl
theorem hi_63 (iv : Mm) : hi iv 63 = iv 63 := rfl
theorem hi_65 (iv : Mm) : hi iv 65 = iv 65 := rfl
theorem hi_70 (iv : Mm) : hi iv 70 = iv 70 := rfl
theorem hi_74 (iv : Mm) : hi iv 74 = iv 74 := rfl
theorem hi_75 (iv : Mm) : hi iv 75 = iv 75 := rfl
theorem hi_76 (iv : Mm) : hi iv 76 = iv 76 := rfl
def er (A : Mm) (w : Int) : Mm := setr A 65 (upr (A 65) w (A 65 w + 1))
def bad (A : Mm) (w : Int) : Int × Mm := (-1000001 - w, er A w)
/-- the rows that tell the state are alike -/
def Like (iv B : Mm) : Prop := iv 62 = B 62 ∧ iv 63 = B 63 ∧ iv 65 = B 65 ∧ iv 70 = B 70 ∧ iv 74 = B 74 ∧ iv 75 = B 75 ∧ iv 76 = B 76 ∧ iv 61 3 = B 61 3 ∧ iv 61 10 = B 61 10
/-- the reference has answered O.1, and its rows tell O.2 then; the class's cells are as they were -/
def MP (iv : Mm) (O : Int × Mm) : Option VT → Shp → Mm → Prop := fun v S iv2 => v = some (i_ O.1) ∧ S = S0 ∧ (∀ q, (q ≤ 60 ∨ (71 ≤ q ∧ q ≤ 73)) → iv2 q = iv q) ∧ Like iv2 O.2
def sumZ (f : Int → Int) : Nat → Int
  | 0 => 0
  | n + 1 => sumZ f n + f n
def lawB (s : Int → Int) (c d : Int) : Bool := decide (s (176 + c) < 0 ∨ ¬ s (6 + s (176 + c)) / 2 ^ d.toNat % 2 = 1)
def th1 (_ : Int) : Bool := true
def P0 (s : Int → Int) : P2 := (s, fun _ => 0)
def dys (s : Int → Int) (n : Nat) : Int → Int := (dysM (fdst s) th1 n (P0 s)).1
def an_hedge (A : Mm) (c v : Int) : Int × Mm := if (0 ≤ c ∧ c ≤ 80) ∧ (0 ≤ v ∧ v ≤ 1) then ((if A 62 (14 + c) = v then 0 else 1), setr A 62 (upr (A 62) (14 + c) v)) else bad A 0
def an_greens (A : Mm) (c v : Int) : Int × Mm := if (0 ≤ c ∧ c ≤ 80) ∧ (0 ≤ v ∧ v ≤ 9) then (A 62 (95 + c), setr A 62 (upr (A 62) (95 + c) v)) else bad A 0
def an_land (A : Mm) (c v : Int) : Int × Mm := if (0 ≤ c ∧ c ≤ 80) ∧ (0 ≤ v ∧ v ≤ 2) then ((if v = 0 then A 62 (14 + c) else if v = 1 then A 62 (95 + c) else A 62 (176 + c)), A) else bad A 0
def an_far (A : Mm) (x y : Int) : Int × Mm := if (0 ≤ x ∧ x ≤ 80) ∧ (0 ≤ y ∧ y ≤ 80) then (dst (opH (A 62)) y x, A) else bad A 0
def addS (s : Int → Int) (kd c : Int) : Int → Int := upr (upr (upr (upr (upr (upr s (257 + 5 * s 2 + 0) kd) (257 + 5 * s 2 + 1) c) (257 + 5 * s 2 + 2) 0) (257 + 5 * s 2 + 3) 80) (257 + 5 * s 2 + 4) 1) 2 (s 2 + 1)
def an_snail (A : Mm) (kd c : Int) : Int × Mm := if (0 ≤ kd ∧ kd ≤ 6) ∧ (0 ≤ c ∧ c ≤ 80) then (if A 62 2 = 8 then bad A 1 else (A 62 2, setr A 62 (addS (A 62) kd c))) else bad A 0
def an_of (A : Mm) (k w : Int) : Int × Mm := if (0 ≤ k ∧ k ≤ A 62 2 - 1) ∧ (0 ≤ w ∧ w ≤ 6) then ((if w < 5 then A 62 (257 + 5 * k + w) else if w = 5 then movM (A 62) k else fdst (A 62) k (A 62 (257 + 5 * k + 1))), A) else bad A 0
def mostT (w : Int) : Int := if w = 0 then 6 else if w = 2 then 7 else if w = 4 then 99 else 80
def an_change (A : Mm) (k w v : Int) : Int × Mm := if (0 ≤ k ∧ k ≤ A 62 2 - 1) ∧ (0 ≤ w ∧ w ≤ 4) ∧ (0 ≤ v ∧ v ≤ mostT w) then (A 62 (257 + 5 * k + w), setr A 62 (upr (A 62) (257 + 5 * k + w) v)) else bad A 0
def an_bans (A : Mm) (w v : Int) : Int × Mm := if (0 ≤ w ∧ w ≤ 7) ∧ (0 ≤ v ∧ v ≤ 255) then (A 62 (6 + w), setr A 62 (upr (A 62) (6 + w) v)) else bad A 0
def an_set (A : Mm) (w v : Int) : Int × Mm := if (w = 0 ∧ 0 ≤ v ∧ v ≤ 9) ∨ (w = 1 ∧ 0 ≤ v ∧ v ≤ 20) then (A 62 (4 + w), setr A 62 (upr (A 62) (4 + w) v)) else bad A 0
def an_go (A : Mm) (n : Int) : Int × Mm := if 1 ≤ n ∧ n ≤ 40 then (if 99999 < A 62 0 + n then bad A 4 else (dys (A 62) n.toNat 1, setr A 62 (dys (A 62) n.toNat))) else bad A 0
def undL (s : Int → Int) : Int := sumZ (fun c => b2 (0 ≤ s (176 + c))) 81
def gatS (s : Int → Int) : Int := sumZ (fun k => if k < s 2 ∧ s (257 + 5 * k + 1) = s (257 + 5 * k + 3) then 2 ^ k.toNat else 0) 8
def an_now (A : Mm) (w : Int) : Int × Mm :=
  if w = 0 then (A 62 0, A) else if w = 1 then (A 62 1, A) else if w = 2 then (undL (A 62), A) else if w = 3 then (sumZ (fun c => A 62 (95 + c)) 81, A) else if w = 4 then (A 62 4, A) else if w = 5 then (gatS (A 62), A) else bad A 0
def an_realm (A : Mm) (w : Int) : Int × Mm := if 0 ≤ w ∧ w ≤ 7 then (sumZ (fun c => b2 (A 62 (176 + c) = w)) 81, A) else bad A 0
def repS (s : Int → Int) : Int → Int := fun j => if 176 ≤ j ∧ j < 257 then -1 else s j
def an_repeals (A : Mm) : Int × Mm := (undL (A 62), setr A 62 (repS (A 62)))
def an_may (A : Mm) (c d : Int) : Int × Mm := if (0 ≤ c ∧ c ≤ 80) ∧ (0 ≤ d ∧ d ≤ 7) then (b2 (lawB (A 62) c d = true), A) else bad A 0
def lawC (s : Int → Int) (d : Int) : Int := sumZ (fun c => b2 (s (14 + c) ≠ 1 ∧ lawB s c d = true)) 81
def an_where (A : Mm) (d : Int) : Int × Mm := if 0 ≤ d ∧ d ≤ 7 then (lawC (A 62) d, A) else bad A 0
def opD (s : Int → Int) (d c : Int) : Bool := decide (s (14 + c) ≠ 1 ∧ lawB s c d = true)
def an_route (A : Mm) (x y d : Int) : Int × Mm := if (0 ≤ x ∧ x ≤ 80) ∧ (0 ≤ y ∧ y ≤ 80) ∧ (0 ≤ d ∧ d ≤ 7) then (if dst (opD (A 62) d) y x = 99 then bad A 3 else (dst (opD (A 62) d) y x, A)) else bad A 0
def opnC (s : Int → Int) : Int := sumZ (fun c => b2 (s (14 + c) ≠ 1)) 81
def an_free (A : Mm) : Int × Mm := (sumZ (fun d => if lawC (A 62) d = opnC (A 62) then 2 ^ d.toNat else 0) 8, A)
def an_ahead (A : Mm) (k n : Int) : Int × Mm := if (0 ≤ k ∧ k ≤ A 62 2 - 1) ∧ (0 ≤ n ∧ n ≤ 100) then (dys (A 62) n.toNat (257 + 5 * k + 1), A) else bad A 0
def an_lawAt (A : Mm) (c n : Int) : Int × Mm := if (0 ≤ c ∧ c ≤ 80) ∧ (0 ≤ n ∧ n ≤ 100) then (dys (A 62) n.toNat (176 + c), A) else bad A 0
/-- behind how many days (of at most n more, i have gone by) p first holds; i + n then if it doesn't -/
def firstD (p : Nat → Bool) : Nat → Nat → Nat
  | 0, i => i
  | n + 1, i => if p i = true then i else firstD p n (i + 1)
def rchD (s : Int → Int) (w c : Int) : Nat := firstD (fun i => decide (dys s i (176 + c) = w)) 101 0
def an_reaches (A : Mm) (w c : Int) : Int × Mm := if (0 ≤ w ∧ w ≤ 7) ∧ (0 ≤ c ∧ c ≤ 80) then (if rchD (A 62) w c ≤ 100 then ((rchD (A 62) w c : Nat), A) else bad A 3) else bad A 0
/-- the least of the choices below n by which a number is least; none: -1 -/
def bestN (f : Int → Nat) : Nat → Int
  | 0 => -1
  | n + 1 => if f n ≤ 100 ∧ (bestN f n < 0 ∨ f n < f (bestN f n)) then n else bestN f n
def an_wetFor (A : Mm) (w c : Int) : Int × Mm := if (0 ≤ w ∧ w ≤ 7) ∧ (0 ≤ c ∧ c ≤ 80) then (if bestN (fun x => rchD (upr (A 62) 4 x) w c) 10 < 0 then bad A 3 else (bestN (fun x => rchD (upr (A 62) 4 x) w c) 10, A)) else bad A 0
def gatD (s : Int → Int) (k : Int) (n : Nat) : Nat := firstD (fun i => decide (dys s i (257 + 5 * k + 1) = s (257 + 5 * k + 3))) (n + 1) 0
def an_comes (A : Mm) (k : Int) : Int × Mm := if 0 ≤ k ∧ k ≤ A 62 2 - 1 then (if gatD (A 62) k 100 ≤ 100 then ((gatD (A 62) k 100 : Nat), A) else bad A 3) else bad A 0
def an_kindFor (A : Mm) (k : Int) : Int × Mm := if 0 ≤ k ∧ k ≤ A 62 2 - 1 then (if bestN (fun x => gatD (upr (A 62) (257 + 5 * k + 0) x) k 100) 7 < 0 then bad A 3 else (bestN (fun x => gatD (upr (A 62) (257 + 5 * k + 0) x) k 100) 7, A)) else bad A 0
def ovtD (s : Int → Int) (x y : Int) : Nat := firstD (fun i => decide (fdst s y (dys s i (257 + 5 * x + 1)) < fdst s y (dys s i (257 + 5 * y + 1)))) 101 0
def an_overtakes (A : Mm) (x y : Int) : Int × Mm := if (0 ≤ x ∧ x ≤ A 62 2 - 1) ∧ (0 ≤ y ∧ y ≤ A 62 2 - 1) ∧ x ≠ y then (if ovtD (A 62) x y ≤ 100 then ((ovtD (A 62) x y : Nat), A) else bad A 3) else bad A 0
def an_lag (A : Mm) (w o c : Int) : Int × Mm := if (0 ≤ w ∧ w ≤ 7) ∧ (0 ≤ o ∧ o ≤ 7) ∧ (0 ≤ c ∧ c ≤ 80) then (if rchD (A 62) w c ≤ 100 ∧ rchD (A 62) o c ≤ 100 then ((rchD (A 62) w c : Int) - (rchD (A 62) o c : Int), A) else bad A 3) else bad A 0
/-- the place below n of the greatest number above 0; of several the least; none: -1 -/
def mostP (f : Int → Int) : Nat → Int
  | 0 => -1
  | n + 1 => if (if mostP f n < 0 then 0 else f (mostP f n)) < f n then n else mostP f n
def an_clash (A : Mm) (n : Int) : Int × Mm := if 0 ≤ n ∧ n ≤ 40 then (if mostP (dysM (fdst (A 62)) th1 n.toNat (P0 (A 62))).2 81 < 0 then bad A 3 else (mostP (dysM (fdst (A 62)) th1 n.toNat (P0 (A 62))).2 81, A)) else bad A 0
def bitB (z k : Int) : Bool := decide (z / 2 ^ k.toNat % 2 = 1)
def prcS (s : Int → Int) (z : Int) : Int := sumZ (fun k => if k < s 2 ∧ bitB z k = true then s (257 + 5 * k + 4) else 0) 8
/-- the cheapest set below n by which p holds; of several the least; none: -1 -/
def bestS (f : Int → Int) (p : Int → Bool) : Nat → Int
  | 0 => -1
  | n + 1 => if (bestS f p n < 0 ∨ f n < f (bestS f p n)) ∧ p n = true then n else bestS f p n
def relS (s : Int → Int) (w c : Int) (n : Nat) : Int := bestS (prcS s) (fun z => decide ((dysM (fdst s) (bitB z) n (P0 s)).1 (176 + c) = w)) (2 ^ (s 2).toNat)
def an_release (A : Mm) (w c n : Int) : Int × Mm := if (0 ≤ w ∧ w ≤ 7) ∧ (0 ≤ c ∧ c ≤ 80) ∧ (0 ≤ n ∧ n ≤ 40) then (if relS (A 62) w c n.toNat < 0 then bad A 3 else (relS (A 62) w c n.toNat, A)) else bad A 0
def an_costs (A : Mm) (w c n : Int) : Int × Mm := if (0 ≤ w ∧ w ≤ 7) ∧ (0 ≤ c ∧ c ≤ 80) ∧ (0 ≤ n ∧ n ≤ 40) then (if relS (A 62) w c n.toNat < 0 then bad A 3 else (prcS (A 62) (relS (A 62) w c n.toNat), A)) else bad A 0
/-- the farthest cell below n from which the snail comes -/
def farS (s : Int → Int) (k : Int) (n : Nat) : Nat → Int
  | 0 => -1
  | c + 1 => if (s (14 + c) ≠ 1 ∧ (farS s k n c < 0 ∨ fdst s k (farS s k n c) < fdst s k c)) ∧ gatD (upr s (257 + 5 * k + 1) c) k n ≤ n then c else farS s k n c
def an_farthest (A : Mm) (k n : Int) : Int × Mm := if (0 ≤ k ∧ k ≤ A 62 2 - 1) ∧ (0 ≤ n ∧ n ≤ 40) then (if A 62 (14 + A 62 (257 + 5 * k + 3)) = 1 then bad A 3 else (farS (A 62) k n.toNat 81, A)) else bad A 0
/-- what a sheet's number is answered with, if it's wrong; -1: it isn't -/
def wrgS (A : Mm) (z : Int) : Int := if 0 ≤ z ∧ z ≤ 3 then (if A 74 z = 0 then 5 else -1) else 0
def fitB (A : Mm) (z k c : Int) : Nat → Bool
  | 0 => true
  | i + 1 => fitB A z k c i && decide (A 76 (40 * z + i) = -1 ∨ A 76 (40 * z + i) = dys (upr (A 62) (257 + 5 * k + 1) c) i (257 + 5 * k + 1))
def wrgT (A : Mm) (z k : Int) : Int := if 0 ≤ wrgS A z then wrgS A z else if 0 ≤ k ∧ k ≤ A 62 2 - 1 then -1 else 0
def an_fits (A : Mm) (z k : Int) : Int × Mm := if 0 ≤ wrgT A z k then bad A (wrgT A z k) else (sumZ (fun c => b2 (fitB A z k c (A 75 z).toNat = true)) 81, A)
def firC (p : Int → Bool) : Nat → Int → Int
  | 0, _ => -1
  | n + 1, c => if p c = true then c else firC p n (c + 1)
def an_began (A : Mm) (z k : Int) : Int × Mm := if 0 ≤ wrgT A z k then bad A (wrgT A z k) else if firC (fun c => fitB A z k c (A 75 z).toNat) 81 0 < 0 then bad A 3 else (firC (fun c => fitB A z k c (A 75 z).toNat) 81 0, A)
def an_seed (A : Mm) (v : Int) : Int × Mm := (A 62 3, setr A 62 (upr (A 62) 3 v))
def an_wipe (A : Mm) : Int × Mm := (A 61 10, setr A 61 (upr (A 61) 10 0))
def an_hold (A : Mm) (p k : Int) : Int × Mm := if (0 ≤ p ∧ p ≤ 9) ∧ (k = -1 ∨ (0 ≤ k ∧ k ≤ A 62 2 - 1)) then (1, setr A 62 (upr (A 62) (297 + p) k)) else bad A 0
def undr (a b : Int) : Bool := decide (a = b ∨ b = 0 ∨ (a = 3 ∧ b = 2) ∨ (a = 4 ∧ (b = 3 ∨ b = 2)) ∨ (a = 6 ∧ b = 1))
def an_as (A : Mm) (p x : Int) : Int × Mm := if (0 ≤ p ∧ p ≤ 9) ∧ (0 ≤ x ∧ x ≤ 6) then (if A 62 (297 + p) < 0 then bad A 5 else if undr (A 62 (257 + 5 * A 62 (297 + p) + 0)) x = true then (A 62 (297 + p), A) else bad A 2) else bad A 0
def zerS (f : Int → Int) (z : Int) : Int → Int := fun j => if 40 * z ≤ j ∧ j < 40 * z + 40 then 0 else f j
def an_sheet (A : Mm) (z w n : Int) : Int × Mm := if (0 ≤ z ∧ z ≤ 3) ∧ (w = 0 ∨ w = 8 ∨ w = 16 ∨ w = 32) then (if n < 0 then bad A 6 else if 40 < n then bad A 0 else ((if w = 0 then 0 else n), setr (setr (setr A 74 (upr (A 74) z w)) 75 (upr (A 75) z (if w = 0 then 0 else n))) 76 (zerS (A 76) z))) else bad A 0
def cutW (w v : Int) : Int := if w = 8 then v.bmod 256 else if w = 16 then v.bmod 65536 else v
def an_write (A : Mm) (z i v : Int) : Int × Mm := if 0 ≤ wrgS A z then bad A (wrgS A z) else if 0 ≤ i ∧ i ≤ A 75 z - 1 then (1, setr A 76 (upr (A 76) (40 * z + i) (cutW (A 74 z) v))) else bad A 0
def cpyS (f : Int → Int) (a b n : Int) : Int → Int := fun j => if b ≤ j ∧ j < b + n then f (a + (j - b)) else f j
def an_copy (A : Mm) (z x t y n : Int) : Int × Mm := if (0 ≤ z ∧ z ≤ 3) ∧ (0 ≤ t ∧ t ≤ 3) then (if A 74 z = 0 ∨ A 74 t = 0 then bad A 5 else if A 74 z ≠ A 74 t then bad A 2 else if n < 0 ∨ x < 0 ∨ y < 0 ∨ A 75 z - n < x ∨ A 75 t - n < y then bad A 0 else (n, setr A 76 (cpyS (A 76) (40 * z + x) (40 * t + y) n))) else bad A 0
/-- how many of the numbers from place i on (n at most) hold p -/
def runN (p : Int → Bool) : Nat → Int → Int
  | 0, i => i
  | n + 1, i => if p i = true then runN p n (i + 1) else i
def lodN (A : Mm) (z : Int) : Int := runN (fun i => decide (0 ≤ A 76 (40 * z + i) ∧ A 76 (40 * z + i) ≤ 9)) (A 75 z).toNat 0
def lodS (A : Mm) (z : Int) : Int → Int := fun j => if 95 ≤ j ∧ j < 95 + lodN A z then A 76 (40 * z + (j - 95)) else A 62 j
def an_load (A : Mm) (z : Int) : Int × Mm := if 0 ≤ wrgS A z then bad A (wrgS A z) else (lodN A z, setr A 62 (lodS A z))
def judN (A : Mm) (z : Int) : Int := runN (fun i => decide (A 76 (40 * z + i) = A 62 (176 + i))) (A 75 z).toNat 0
def an_judge (A : Mm) (z : Int) : Int × Mm := if 0 ≤ wrgS A z then bad A (wrgS A z) else ((if judN A z = A 75 z then 0 else 1 + judN A z), A)
def cpR (f g : Int → Int) : Int → Int := fun j => if 0 ≤ j ∧ j < 307 then f j else g j
def an_image (A : Mm) : Int × Mm := (1, setr (setr A 63 (cpR (A 62) (A 63))) 61 (upr (A 61) 3 1))
def an_undo (A : Mm) : Int × Mm := if A 61 3 = 0 then bad A 3 else (A 63 0, setr A 62 (cpR (A 63) (A 62)))
def an_tear (A : Mm) : Int × Mm := ((if A 61 3 = 0 then 0 else 1), setr A 61 (upr (A 61) 3 0))
def an_count (A : Mm) (w : Int) : Int × Mm :=
  if w = 0 then (A 62 0, A) else if w = 1 then (A 62 2, A) else if w = 2 then (sumZ (fun c => A 62 (14 + c)) 81, A) else if w = 3 then (A 62 1, A) else if w = 4 then (undL (A 62), A) else if w = 5 then (A 61 10, A) else if w = 6 then (A 62 3, A) else if w = 7 then (sumZ (fun k => b2 (0 ≤ A 62 (297 + k))) 10, A) else bad A 0
def an_status (A : Mm) (w : Int) : Int × Mm := if -1 ≤ w ∧ w ≤ 6 then (sumZ (fun k => if w = -1 ∨ w = k then A 65 k else 0) 7, A) else bad A 0
def an_feed (A : Mm) (b n : Int) : Int × Mm := if 1 ≤ n ∧ n ≤ 4 then (if 120 < A 61 10 + n then bad A 1 else (A 61 10 + n, setr (setr A 70 (fun j => if A 61 10 ≤ j ∧ j < A 61 10 + n then b / 2 ^ (8 * (n - 1 - (j - A 61 10))).toNat % 256 else A 70 j)) 61 (upr (A 61) 10 (A 61 10 + n)))) else bad A 0
/-- what holds of the rows between two calls -/
def AI (A : Mm) : Prop := MI 99999 (A 62) ∧ (0 ≤ A 61 3 ∧ A 61 3 ≤ 1) ∧ (A 61 3 = 1 → MI 99999 (A 63)) ∧ (0 ≤ A 61 10 ∧ A 61 10 ≤ 120) ∧ (∀ j, 0 ≤ j → j < 120 → 0 ≤ A 70 j ∧ A 70 j ≤ 255)
  ∧ (∀ z, 0 ≤ z → z ≤ 3 → (A 74 z = 0 ∨ A 74 z = 8 ∨ A 74 z = 16 ∨ A 74 z = 32) ∧ (0 ≤ A 75 z ∧ A 75 z ≤ 40) ∧ (A 74 z = 0 → A 75 z = 0)) ∧ ∀ j, 0 ≤ j → j < 160 → -2147483648 ≤ A 76 j ∧ A 76 j < 2147483648
theorem AI.mi {A : Mm} (h : AI A) : MI 99999 (A 62) := h.1
theorem AI.kp {A : Mm} (h : AI A) : 0 ≤ A 61 3 ∧ A 61 3 ≤ 1 := h.2.1
theorem AI.tp {A : Mm} (h : AI A) : 0 ≤ A 61 10 ∧ A 61 10 ≤ 120 := h.2.2.2.1
theorem AI.by {A : Mm} (h : AI A) : ∀ j, 0 ≤ j → j < 120 → 0 ≤ A 70 j ∧ A 70 j ≤ 255 := h.2.2.2.2.1
theorem AI.sh {A : Mm} (h : AI A) : ∀ z, 0 ≤ z → z ≤ 3 → (A 74 z = 0 ∨ A 74 z = 8 ∨ A 74 z = 16 ∨ A 74 z = 32) ∧ (0 ≤ A 75 z ∧ A 75 z ≤ 40) ∧ (A 74 z = 0 → A 75 z = 0) := h.2.2.2.2.2.1
theorem AI.nu {A : Mm} (h : AI A) : ∀ j, 0 ≤ j → j < 160 → -2147483648 ≤ A 76 j ∧ A 76 j < 2147483648 := h.2.2.2.2.2.2
theorem come_fst (s c1 c2 : Int → Int) (c w : Int) : (come (s, c1) c w).1 = (come (s, c2) c w).1 := rfl
theorem stepM_fst (fr : Int → Int → Int) (k : Int) (X Y : P2) (h : X.1 = Y.1) : (stepM fr k X).1 = (stepM fr k Y).1 := by
  obtain ⟨s, c1⟩ := X
  obtain ⟨s2, c2⟩ := Y
  cases h
  unfold stepM
  dsimp only
  split <;> rfl
theorem itM_fst (fr : Int → Int → Int) (k : Int) (X Y : P2) (h : X.1 = Y.1) : ∀ n : Nat, (itM fr k n X).1 = (itM fr k n Y).1
  | 0 => h
  | n + 1 => stepM_fst fr k _ _ (itM_fst fr k X Y h n)
theorem crawl_fst (fr : Int → Int → Int) (k : Int) (X Y : P2) (h : X.1 = Y.1) : (crawl fr k X).1 = (crawl fr k Y).1 := by
  obtain ⟨s, c1⟩ := X
  obtain ⟨s2, c2⟩ := Y
  cases h
  unfold crawl munch
  dsimp only
  rw [itM_fst fr k (come (s, c1) (s (257 + 5 * k + 1)) (s (257 + 5 * k + 2))) (come (s, c2) (s (257 + 5 * k + 1)) (s (257 + 5 * k + 2))) rfl]
theorem dayL_fst (fr : Int → Int → Int) (th : Int → Bool) : ∀ (n : Nat) (k : Int) (X Y : P2), X.1 = Y.1 → (dayL fr th n k X).1 = (dayL fr th n k Y).1
  | 0, _, _, _, h => h
  | n + 1, k, X, Y, h => by
    unfold dayL
    rw [h]
    split
    · apply dayL_fst
      split
      · exact crawl_fst fr k X Y h
      · exact h
    · exact h
theorem dayM_fst (fr : Int → Int → Int) (th : Int → Bool) (X Y : P2) (h : X.1 = Y.1) : (dayM fr th X).1 = (dayM fr th Y).1 := by
  unfold dayM
  dsimp only
  rw [dayL_fst fr th 9 0 X Y h]
theorem dysM_fst (fr : Int → Int → Int) (th : Int → Bool) (X Y : P2) (h : X.1 = Y.1) : ∀ n : Nat, (dysM fr th n X).1 = (dysM fr th n Y).1
  | 0 => h
  | n + 1 => dayM_fst fr th _ _ (dysM_fst fr th X Y h n)
theorem allB {m k : Int} (hm : 0 ≤ m ∧ m ≤ 8) (hk : 0 ≤ k ∧ k < m) : (1 * 2 ^ m.toNat - 1 : Int) / 2 ^ k.toNat % 2 = 1 := by
  obtain ⟨M, rfl⟩ := Int.eq_ofNat_of_zero_le hm.1
  obtain ⟨K, rfl⟩ := Int.eq_ofNat_of_zero_le hk.1
  have h : ∀ M : Nat, M < 9 → ∀ K : Nat, K < M → (1 * 2 ^ M - 1 : Int) / 2 ^ K % 2 = 1 := by decide
  simp only [Int.toNat_natCast]
  exact h M (by omega) K (by omega)
theorem allR {m : Int} (hm : 0 ≤ m ∧ m ≤ 8) : 0 ≤ (1 * 2 ^ m.toNat - 1 : Int) ∧ (1 * 2 ^ m.toNat - 1 : Int) ≤ 255 := by
  obtain ⟨M, rfl⟩ := Int.eq_ofNat_of_zero_le hm.1
  have h : ∀ M : Nat, M < 9 → 0 ≤ (1 * 2 ^ M - 1 : Int) ∧ (1 * 2 ^ M - 1 : Int) ≤ 255 := by decide
  simp only [Int.toNat_natCast]
  exact h M (by omega)
theorem sumZ_stop {f : Int → Int} {m : Nat} : ∀ n : Nat, m ≤ n → (∀ k : Nat, m ≤ k → k < n → f k = 0) → sumZ f n = sumZ f m
  | 0, h, _ => by rw [show m = 0 by omega]
  | n + 1, h, hz => by
    by_cases hm : m = n + 1
    · rw [hm]
    · rw [sumZ, hz n (by omega) (by omega), sumZ_stop n (by omega) (fun k h1 h2 => hz k h1 (by omega))]
      omega
theorem sumZ_rng {f : Int → Int} {b : Int} (hb : ∀ k : Nat, 0 ≤ f k ∧ f k ≤ b) : ∀ n : Nat, 0 ≤ sumZ f n ∧ sumZ f n ≤ b * n
  | 0 => by simp [sumZ]
  | n + 1 => by
    have h1 := sumZ_rng hb n
    have h2 := hb n
    rw [sumZ, show b * ((n + 1 : Nat) : Int) = b * n + b by rw [Int.natCast_add, Int.mul_add]; omega]
    omega
theorem prcS_rng {D : Int} {s : Int → Int} {z : Int} (h : MI D s) : 0 ≤ prcS s z ∧ prcS s z ≤ 792 := by
  have hm := h.many
  unfold prcS
  refine sumZ_rng (b := 99) (fun k => ?_) 8
  split
  · rename_i hk
    have := h.sna k (by omega) (by omega)
    omega
  · omega
theorem bestS_lt (f : Int → Int) (p : Int → Bool) : ∀ n : Nat, -1 ≤ bestS f p n ∧ bestS f p n < n
  | 0 => by simp [bestS]
  | n + 1 => by
    have := bestS_lt f p n
    unfold bestS
    split <;> omega
theorem fitB_le {A : Mm} {z k c : Int} {i : Nat} (h : fitB A z k c i = false) : ∀ n : Nat, i ≤ n → fitB A z k c n = false
  | 0, hi => by rw [show i = 0 by omega] at h; exact h
  | n + 1, hi => by
    by_cases hn : i = n + 1
    · rw [← hn]; exact h
    · rw [fitB, fitB_le h n (by omega)]
      rfl
theorem pow_cast (m : Int) (h : 0 ≤ m ∧ m ≤ 8) : ((2 ^ m.toNat : Nat) : Int) = 1 * 2 ^ m.toNat := by
  rw [Int.natCast_pow]
  simp
