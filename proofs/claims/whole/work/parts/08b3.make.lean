theorem J.putF {l : Launch} {own : String} {cc : ByteArray} {nL : Nat} {rt : Option FieldType} {d kc ks : Nat} {fi : Bool} {F : Nat × (Int → Int)} {Post : Option VT → Shp → Mm → Prop} {a b pc : Nat} {ls : List (Option VT)} {st : List VT} {S : Shp} {iv : Mm} {c0 c1 ci k0 ix q : Nat} (hd : decode cc pc = .ok (.putfield ix, 3)) (hw : Cond.fieldLink own ix (cT ci k0).1 (cT ci k0).2.1 (cT ci k0).2.2.1 ∈ gtb) (hk : S.2.1 c0 = (ci + 3, 0)) (hc : ci < 7) (hk0 : k0 < cN ci) (hfi1 : fi = true) (hty : (match cY ci k0 with | .object _ => true | .array _ => true | _ => false) = true) (hfin : (cT ci k0).2.2.2 = true) (hdecl : (cT ci k0).1 = own) (hc1 : c1 < 1000) (hq : pc + 3 = q) (k : J l own cc nL rt d kc ks fi F Post a b q ls st (upR S c0 k0 c1) iv) : J l own cc nL rt d kc ks fi F Post a b pc ls (r_ c1 :: r_ c0 :: st) S iv := by
  intro p e s m args below meth c D cI cZ cC base fa Q C E H locs lsA hH hL
  obtain ⟨hx, hb, hml, hr, ho, hts, hfi, hK, hN, hF, hbs⟩ := id C
  obtain ⟨hP, hS, hsz, hWf⟩ := id hH
  subst hq
  obtain ⟨hlt, he⟩ := enc_o (cI := cI) (cZ := cZ) (cC := cC) (base := base) (iv := iv) hWf hk hc
  have ea : adr base fa c0 = base + c0 := adr_in (Nat.lt_trans hlt hWf.2.2)
  have eb : adr base fa c1 = base + c1 := adr_in hc1
  rw [List.map_cons, List.map_cons, show wV base fa (r_ c0) = .ref (adr base fa c0) from rfl, show wV base fa (r_ c1) = .ref (adr base fa c1) from rfl, ea, eb]
  have hin := c_in hc
  have hap := va_apart (own := own) hts hin (cY ci) (c_ty hc) (c_nm hc) hK (c_cl hc)
  obtain ⟨r, h1, cell, q1, q2, q3, q4⟩ := hP c0 _ he
  have hr9 : r = (cR ci, cT ci, cN ci) := Option.some.inj (h1.symm.trans (c_cl hc))
  subst hr9
  obtain ⟨hSl, hfc, kC, hkC, hkind⟩ := hK.1 ci _ (c_cl hc)
  obtain ⟨cf, kf, fi9, f, hi, hsl⟩ := hSl k0 hk0
  have hlay := hts _ (hin _ (u_in_lay hk0))
  unfold u_lay at hlay
  rw [if_pos hfin] at hlay
  have hst := (u_facts hfc hkC (u_lays hts hin hk0) hi).1
  have hcf : m.cls = cf := by
    obtain ⟨_, _, c', _, _, _, -, -, hf', -, -, -, hown2, -⟩ := Cond.laysFinal_spec hlay
    have e1 : c' = cf := by have := hi.symm.trans hf'; simp at this; exact this.1.symm
    rw [hdecl] at hown2
    rw [← e1]; exact Option.some.inj (ho.symm.trans hown2)
  have hv1 : narrow (cY ci k0) (.ref (base + c1)) = .ref (base + c1) := by
    cases hy : cY ci k0 <;> first | rfl | (rw [hy] at hty; cases hty; done)
  have hv2 : fits (cY ci k0) (.ref (base + c1)) = true := by
    cases hy : cY ci k0 <;> first | rfl | (rw [hy] at hty; cases hty; done)
  have h6 := u_fits (v := .ref (base + c1)) hfc hkC hkind (Or.inr hlay) hi (c_ty hc k0 hk0) hv1 hv2
  refine W.putFinK hx hb ho (hts _ hw) hi hst hcf (hfi hfi1) (by rw [q2]; exact h6) q1 q3 (by rw [hsl]; exact k2_hasslot (q4 k0 hk0)) rfl rfl hd fun H1 e1 e2 e3 => ?_
  rw [hsl] at e1 ⊢
  have e4 : wF base (cY ci k0) c1 (iv c0 k0) = .ref (base + c1) := by
    cases hy : cY ci k0 <;> first | (rw [hy] at hty; cases hty; done) | (simp only [wF]; rw [if_pos hc1])
  have e5 : ((List.range (cN ci)).map (fun j => wF base (cY ci j) (S.2.2 c0 j) (iv c0 j))).set k0 (.ref (base + c1)) = (List.range (cN ci)).map (fun j : Nat => wF base (cY ci j) (if j = k0 then c1 else S.2.2 c0 j) (iv c0 j)) := by
    apply List.ext_getElem?
    intro j
    by_cases hj : j < cN ci
    · rw [List.getElem?_map, List.getElem?_range hj]
      by_cases hjk : j = k0
      · subst hjk
        rw [List.getElem?_set_self (by simpa using hj)]
        simp [e4]
      · rw [List.getElem?_set_ne (fun h => hjk h.symm), List.getElem?_map, List.getElem?_range hj]
        simp [hjk]
    · rw [List.getElem?_eq_none (by simp; omega), List.getElem?_eq_none (by simp; omega)]
  have e6 : (enc cI cZ cC base S iv).set c0 (base + c0, .inr (ci, (List.range (cN ci)).map (fun j : Nat => wF base (cY ci j) (if j = k0 then c1 else S.2.2 c0 j) (iv c0 j)))) = enc cI cZ cC base (upR S c0 k0 c1) iv := by
    apply List.ext_getElem?
    intro j
    by_cases hj : j < S.1
    · rw [enc_at (S := upR S c0 k0 c1) hj]
      by_cases hjc : j = c0
      · subst hjc
        rw [List.getElem?_set_self (by simpa [enc] using hj)]
        simp only [upR, hk, if_pos, wE_o]
      · rw [List.getElem?_set_ne (fun h => hjc h.symm), enc_at hj]
        simp only [upR, if_neg hjc]
    · rw [List.getElem?_eq_none (by simp [enc]; omega), List.getElem?_eq_none (by simp [enc, upR]; omega)]
  refine k p e s m args below meth c D cI cZ cC base fa Q C E H1 _ lsA ⟨?_, hS.put e2 e3 (Nat.le_add_right _ _), e2.trans hsz, hWf⟩ hL
  rw [← e6, ← e5]
  exact hP.set (A := fun q => base ≤ q) enc_D he ⟨_, c_cl hc, t_OB.to (V := updV (vp_V _) k0 _) ⟨_, e1, q2, q3, t_set q4 hap hk0 _⟩ (fun j _ => vp_updV_set (by simp [hk0]) _ j)⟩ e3
