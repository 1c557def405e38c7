/-! ===== kept: coats that leave, come, move ===== -/
section S72
variable {F E : Int → Int} {n : Int}
theorem sm_at {g : Int → Int} {f : Int → Int} {z0 v : Int} {m : Nat} (z1 : 0 ≤ z0) (z2 : z0 < m) (h0 : g z0 = v) (h : ∀ k : Int, 0 ≤ k → k < m → k ≠ z0 → g k = f k) : sm g m = sm f m - f z0 + v := by
  rw [← sm_up z1 z2]
  exact sm_congr fun k hk => by
    by_cases q : (k : Int) = z0
    · rw [q, h0, zup_eq]
    · rw [zup_ne _ _ q]
      exact h k (by omega) (by omega) q
/-- a coat leaves by an end -/
theorem yPQ.en {a j x e c : Int} (h : yPQ F) (hJ : J n F) (hj : j = 7 ∨ j = 8 ∨ j = 9) (he : e = j - 6) (hc : c = j - 5) (x0 : 0 ≤ x) (x1 : x < 60) (hx : F (29 + 8 * x + 1) = 1) : yPQ (enF (zup (zup F 11 a) j (F j + 1)) x e c) ∧ (yDy F → yDy (enF (zup (zup F 11 a) j (F j + 1)) x e c)) := by
  have hv := hJ.2.1 x x0 x1 hx
  have hb := hdl_b hJ.vd x0 x1
  have h13 := hJ.vd.2.1 13 (by omega) (by omega) (by omega)
  have hk := hJ.vd.2.2.2.1 x x0 x1
  have gh : hdl (zup (zup F 11 a) j (F j + 1)) x = hdl F x := cnt_h x0 (by omega)
  have go : ∀ i : Int, i ≠ 11 → i ≠ j → zup (zup F 11 a) j (F j + 1) i = F i := fun i q1 q2 => by rw [zup_ne _ _ q2, zup_ne _ _ q1]
  have gj : zup (zup F 11 a) j (F j + 1) j = F j + 1 := zup_eq _ _ _
  generalize zup (zup F 11 a) j (F j + 1) = G at gh go gj ⊢
  have o : ∀ i : Int, i ≠ 11 → i ≠ 12 → i ≠ 13 → ¬ (29 + 8 * x ≤ i ∧ i ≤ 29 + 8 * x + 1) → ¬ (29 + 8 * x + 5 ≤ i ∧ i ≤ 29 + 8 * x + 7) → (i < 529 ∨ 559 ≤ i) → i ≠ 559 + hdl F x → enF G x e c i = G i := fun i q1 q2 q3 q4 q5 q6 q7 => enF_o (by omega) (by omega) (by omega) (by omega) (by omega) q2 q6 q3 (by rw [gh]; exact q7)
  have oF : ∀ i : Int, i ≠ j → i ≠ 11 → i ≠ 12 → i ≠ 13 → ¬ (29 + 8 * x ≤ i ∧ i ≤ 29 + 8 * x + 1) → ¬ (29 + 8 * x + 5 ≤ i ∧ i ≤ 29 + 8 * x + 7) → (i < 529 ∨ 559 ≤ i) → i ≠ 559 + hdl F x → enF G x e c i = F i := fun i q0 q1 q2 q3 q4 q5 q6 q7 => (o i q1 q2 q3 q4 q5 q6 q7).trans (go i q1 q0)
  have e1 : enF G x e c (29 + 8 * x + 1) = 0 := en_1 x0 x1 (by rw [gh]; exact hb.1)
  have e6 : enF G x e c (29 + 8 * x + 6) = F (29 + 8 * x + 6) + 1 := by
    rw [← go (29 + 8 * x + 6) (by omega) (by omega)]
    simp (disch := omega) only [enF, lgF_o, lvF, zup_ne, zup_eq]
  have eh : enF G x e c (559 + hdl F x) = F (559 + hdl F x) + 2 * e := by
    have := en_h (F := G) (e := e) (c := c) x0 x1 (by rw [gh]; exact hb.1)
    rw [gh, go _ (by omega) (by omega)] at this
    exact this
  have ej : enF G x e c j = F j + 1 := by rw [o j (by omega) (by omega) (by omega) (by omega) (by omega) (by omega) (by omega), gj]
  have hz : yHZ F (enF G x e c) := fun z z0 z1 z2 => by
    by_cases q : z = hdl F x
    · subst q
      refine ⟨by rw [eh]; omega, fun _ q2 => absurd ?_ q2⟩
      unfold eo
      omega
    · have ez : enF G x e c (559 + z) = F (559 + z) := oF _ (by omega) (by omega) (by omega) (by omega) (by omega) (by omega) (by omega) (by omega)
      exact ⟨by rw [ez]; exact z2, fun q1 _ => ⟨by rw [fol_congr ez]; exact q1, eo_congr ez⟩⟩
  have hR : enF G x e c = lgF (lvF (zup G (559 + hdl G x) (G (559 + hdl G x) + 2 * e)) x) c (hdl G x) := rfl
  have hRo : ∀ i : Int, i = 0 ∨ i = 13 ∨ (529 ≤ i ∧ i < 559) → lvF (zup G (559 + hdl G x) (G (559 + hdl G x) + 2 * e)) x i = F i := fun i hi => by
    rw [lvF_o (by omega) (by omega) (by omega) (by omega) (by omega) (by omega), zup_ne _ _ (by omega)]
    exact go i (by omega) (by omega)
  have hRe : lvF (zup G (559 + hdl G x) (G (559 + hdl G x) + 2 * e)) x (559 + hdl F x) = F (559 + hdl F x) + 2 * e := by
    rw [← eh, hR, lgF_o (by omega) (by omega)]
  have hl : yLG (enF G x e c) := by
    rw [hR, gh]
    rw [hR, gh] at hz
    rw [gh] at hRo hRe
    refine h.2.2.2.ev (fun i i0 i1 => hRo i (by omega)) (hRo 13 (by omega)) (hRo 0 (by omega)) hz (by omega) (by omega) (by rw [hRe]; omega) (fun _ => ?_)
    unfold fol eo
    rw [hRe]
    omega
  have e13 : enF G x e c 13 = F 13 + 1 := by
    rw [hR, (lg_at rfl).2.2.2, hRo 13 (by omega)]
  obtain ⟨h1, h2, ⟨c1, c2, c3, c4, c5⟩, h4⟩ := h
  have hi : ∀ y : Int, 0 ≤ y → y < 60 → (isHk (enF G x e c) y ↔ isHk F y) := fun y y0 y1 => by
    unfold isHk
    rw [oF 1 (by omega) (by omega) (by omega) (by omega) (by omega) (by omega) (by omega) (by omega), oF (14 + 3 * (y / 12) + 0) (by omega) (by omega) (by omega) (by omega) (by omega) (by omega) (by omega) (by omega)]
  have oh : ∀ y w : Int, 0 ≤ y → y < 60 → y ≠ x → 0 ≤ w → w < 8 → enF G x e c (29 + 8 * y + w) = F (29 + 8 * y + w) := fun y w y0 y1 hy w0 w1 => oF _ (by omega) (by omega) (by omega) (by omega) (by omega) (by omega) (by omega) (by omega)
  have s1 : sm (fun y => enF G x e c (29 + 8 * y + 1)) 60 = sm (fun y => F (29 + 8 * y + 1)) 60 - F (29 + 8 * x + 1) + 0 := sm_at (f := fun y => F (29 + 8 * y + 1)) x0 x1 e1 fun k k0 k1 hk => oh k 1 k0 k1 hk (by omega) (by omega)
  have s6 : sm (fun y => enF G x e c (29 + 8 * y + 6)) 60 = sm (fun y => F (29 + 8 * y + 6)) 60 - F (29 + 8 * x + 6) + (F (29 + 8 * x + 6) + 1) := sm_at (f := fun y => F (29 + 8 * y + 6)) x0 x1 e6 fun k k0 k1 hk => oh k 6 k0 k1 hk (by omega) (by omega)
  have ei : ∀ i : Int, 5 ≤ i → i ≤ 10 → i ≠ j → enF G x e c i = F i := fun i i0 i1 i2 => oF _ i2 (by omega) (by omega) (by omega) (by omega) (by omega) (by omega) (by omega)
  have e789 : enF G x e c 7 + enF G x e c 8 + enF G x e c 9 = F 7 + F 8 + F 9 + 1 := by
    rcases hj with rfl | rfl | rfl
    · rw [ej, ei 8 (by omega) (by omega) (by omega), ei 9 (by omega) (by omega) (by omega)]
      omega
    · rw [ej, ei 7 (by omega) (by omega) (by omega), ei 9 (by omega) (by omega) (by omega)]
      omega
    · rw [ej, ei 7 (by omega) (by omega) (by omega), ei 8 (by omega) (by omega) (by omega)]
      omega
  have e5 := ei 5 (by omega) (by omega) (by omega)
  have e6' := ei 6 (by omega) (by omega) (by omega)
  have e10 := ei 10 (by omega) (by omega) (by omega)
  refine ⟨⟨fun y y0 y1 hy => ?_, fun y y0 y1 hy => ?_, ⟨?_, ?_, ?_, ?_, ?_⟩, hl⟩, fun hD y y0 y1 hy => ?_⟩
  · by_cases q : y = x
    · subst q
      omega
    · rw [oh y 1 y0 y1 q (by omega) (by omega)] at hy
      rw [oh y 3 y0 y1 q (by omega) (by omega), oF (14 + 3 * (y / 12) + 1) (by omega) (by omega) (by omega) (by omega) (by omega) (by omega) (by omega) (by omega)]
      exact h1 y y0 y1 hy
  · rw [hi y y0 y1] at hy
    have q : y ≠ x := fun q => hy (by rw [q]; exact hv.2.1)
    rw [oh y 6 y0 y1 q (by omega) (by omega)]
    exact h2 y y0 y1 hy
  · rw [e6', ← c1]
    exact sm_congr fun k hk => oF _ (by omega) (by omega) (by omega) (by omega) (by omega) (by omega) (by omega) (by omega)
  · omega
  · omega
  · omega
  · omega
  · by_cases q : y = x
    · subst q
      omega
    · rw [oh y 1 y0 y1 q (by omega) (by omega)] at hy
      rw [oh y 4 y0 y1 q (by omega) (by omega), oF 0 (by omega) (by omega) (by omega) (by omega) (by omega) (by omega) (by omega) (by omega)]
      exact hD y y0 y1 hy
theorem yPP.cl {x : Int} (h : yPP F) (hJ : J n F) (x0 : 0 ≤ x) (x1 : x < 60) (hx : F (29 + 8 * x + 1) = 1) : yPP (u_cl F x) := by
  have := h.1.en (a := F 11 + duF F x) (j := 7) (e := 1) (c := 2) hJ (by omega) (by omega) (by omega) x0 x1 hx
  exact ⟨this.1, this.2 h.2⟩
theorem yPP.gv {x : Int} (h : yPP F) (hJ : J n F) (x0 : 0 ≤ x) (x1 : x < 60) (hx : F (29 + 8 * x + 1) = 1) : yPP (u_gv F x) := by
  have := h.1.en (a := F 11 + (duF F x + 50)) (j := 8) (e := 2) (c := 3) hJ (by omega) (by omega) (by omega) x0 x1 hx
  exact ⟨this.1, this.2 h.2⟩
/-- a coat comes -/
theorem yPP.tk {x y z : Int} (h : yPP F) (hJ : J n F) (hf : isFr F x z) (y0 : 0 ≤ y) (y1 : y ≤ 19) : yPP (u_tk F x y z) := by
  have x0 : 0 ≤ x := hf.1.1
  have x1 : x < 60 := by have := hf.1.2.1; omega
  have hb := hdl_b hJ.vd x0 x1
  have h13 := hJ.vd.2.1 13 (by omega) (by omega) (by omega)
  have hk := hJ.vd.2.2.2.1 x x0 x1
  have hfree : F (559 + hdl F x) = 0 := hJ.2.2.1 x x0 x1 (by have := hf.2.1; omega) hf.2.2.1
  have hR : u_tk F x y z = lgF (zup (zup (hgF F x y z (F 0)) (509 + y) (F (509 + y) + 1)) 6 (F 6 + 1)) 0 (hdl F x) := rfl
  have oR : ∀ i : Int, i ≠ 5 → i ≠ 6 → i ≠ 509 + y → ¬ (29 + 8 * x + 1 ≤ i ∧ i ≤ 29 + 8 * x + 4) → i ≠ 559 + hdl F x → zup (zup (hgF F x y z (F 0)) (509 + y) (F (509 + y) + 1)) 6 (F 6 + 1) i = F i := fun i q1 q2 q3 q4 q5 => by
    rw [zup_ne _ _ q2, zup_ne _ _ q3, hgF_o (by omega) (by omega) (by omega) (by omega) q5 q1]
  have oF : ∀ i : Int, i ≠ 5 → i ≠ 6 → i ≠ 13 → i ≠ 509 + y → ¬ (29 + 8 * x + 1 ≤ i ∧ i ≤ 29 + 8 * x + 4) → (i < 529 ∨ 559 ≤ i) → i ≠ 559 + hdl F x → u_tk F x y z i = F i := fun i q1 q2 q3 q4 q5 q6 q7 => by
    rw [hR, lgF_o q6 q3]
    exact oR i q1 q2 q4 q5 q7
  have e1 : u_tk F x y z (29 + 8 * x + 1) = 1 := by simp (disch := omega) only [u_tk, lgF_o, hgF, zup_ne, zup_eq]
  have e3 : u_tk F x y z (29 + 8 * x + 3) = z := by simp (disch := omega) only [u_tk, lgF_o, hgF, zup_ne, zup_eq]
  have e4 : u_tk F x y z (29 + 8 * x + 4) = F 0 := by simp (disch := omega) only [u_tk, lgF_o, hgF, zup_ne, zup_eq]
  have e5 : u_tk F x y z 5 = F 5 + 1 := by simp (disch := omega) only [u_tk, lgF_o, hgF, zup_ne, zup_eq]
  have e6 : u_tk F x y z 6 = F 6 + 1 := by simp (disch := omega) only [u_tk, lgF_o, zup_eq]
  have ey : u_tk F x y z (509 + y) = F (509 + y) + 1 := by simp (disch := omega) only [u_tk, lgF_o, zup_ne, zup_eq]
  have eR : zup (zup (hgF F x y z (F 0)) (509 + y) (F (509 + y) + 1)) 6 (F 6 + 1) (559 + hdl F x) = 1 + 16 * y := by simp (disch := omega) only [hgF, zup_ne, zup_eq]
  have hz : yHZ F (u_tk F x y z) := fun w w0 w1 w2 => by
    by_cases q : w = hdl F x
    · subst q
      omega
    · have ez : u_tk F x y z (559 + w) = F (559 + w) := oF _ (by omega) (by omega) (by omega) (by omega) (by omega) (by omega) (by omega)
      exact ⟨by rw [ez]; exact w2, fun q1 _ => ⟨by rw [fol_congr ez]; exact q1, eo_congr ez⟩⟩
  have hl : yLG (u_tk F x y z) := by
    rw [hR] at hz ⊢
    exact h.1.2.2.2.ev (fun i i0 i1 => oR i (by omega) (by omega) (by omega) (by omega) (by omega)) (oR 13 (by omega) (by omega) (by omega) (by omega) (by omega)) (oR 0 (by omega) (by omega) (by omega) (by omega) (by omega)) hz (by omega) (by omega) (by rw [eR]; omega) (fun q => absurd q (by omega))
  have e13 : u_tk F x y z 13 = F 13 + 1 := by
    rw [hR, (lg_at rfl).2.2.2, oR 13 (by omega) (by omega) (by omega) (by omega) (by omega)]
  obtain ⟨⟨h1, h2, ⟨c1, c2, c3, c4, c5⟩, h4⟩, hD⟩ := h
  have hi : ∀ w : Int, 0 ≤ w → w < 60 → (isHk (u_tk F x y z) w ↔ isHk F w) := fun w w0 w1 => by
    unfold isHk
    rw [oF 1 (by omega) (by omega) (by omega) (by omega) (by omega) (by omega) (by omega), oF (14 + 3 * (w / 12) + 0) (by omega) (by omega) (by omega) (by omega) (by omega) (by omega) (by omega)]
  have oh : ∀ w i : Int, 0 ≤ w → w < 60 → w ≠ x → 0 ≤ i → i < 8 → u_tk F x y z (29 + 8 * w + i) = F (29 + 8 * w + i) := fun w i w0 w1 hw i0 i1 => oF _ (by omega) (by omega) (by omega) (by omega) (by omega) (by omega) (by omega)
  have s1 : sm (fun w => u_tk F x y z (29 + 8 * w + 1)) 60 = sm (fun w => F (29 + 8 * w + 1)) 60 - F (29 + 8 * x + 1) + 1 := sm_at (f := fun w => F (29 + 8 * w + 1)) x0 x1 e1 fun k k0 k1 hk => oh k 1 k0 k1 hk (by omega) (by omega)
  have s6 : sm (fun w => u_tk F x y z (29 + 8 * w + 6)) 60 = sm (fun w => F (29 + 8 * w + 6)) 60 := sm_congr fun k hk => oF _ (by omega) (by omega) (by omega) (by omega) (by omega) (by omega) (by omega)
  have sg : sm (fun w => u_tk F x y z (509 + w)) 20 = sm (fun w => F (509 + w)) 20 - F (509 + y) + (F (509 + y) + 1) := sm_at (f := fun w => F (509 + w)) y0 (by omega) ey fun k k0 k1 hk => oF _ (by omega) (by omega) (by omega) (by omega) (by omega) (by omega) (by omega)
  have e7 := oF 7 (by omega) (by omega) (by omega) (by omega) (by omega) (by omega) (by omega)
  have e8 := oF 8 (by omega) (by omega) (by omega) (by omega) (by omega) (by omega) (by omega)
  have e9 := oF 9 (by omega) (by omega) (by omega) (by omega) (by omega) (by omega) (by omega)
  have e10 := oF 10 (by omega) (by omega) (by omega) (by omega) (by omega) (by omega) (by omega)
  have hf1 := hf.2.1
  refine ⟨⟨fun w w0 w1 hw => ?_, fun w w0 w1 hw => ?_, ⟨?_, ?_, ?_, ?_, ?_⟩, hl⟩, fun w w0 w1 hw => ?_⟩
  · rw [oF (14 + 3 * (w / 12) + 1) (by omega) (by omega) (by omega) (by omega) (by omega) (by omega) (by omega)]
    by_cases q : w = x
    · subst q
      rw [e3]
      exact hf.2.2.2.2
    · rw [oh w 1 w0 w1 q (by omega) (by omega)] at hw
      rw [oh w 3 w0 w1 q (by omega) (by omega)]
      exact h1 w w0 w1 hw
  · rw [hi w w0 w1] at hw
    have q : w ≠ x := fun q => hw (by rw [q]; exact hf.1)
    rw [oh w 6 w0 w1 q (by omega) (by omega)]
    exact h2 w w0 w1 hw
  · omega
  · omega
  · omega
  · omega
  · omega
  · rw [oF 0 (by omega) (by omega) (by omega) (by omega) (by omega) (by omega) (by omega)]
    by_cases q : w = x
    · subst q
      rw [e4]
      omega
    · rw [oh w 1 w0 w1 q (by omega) (by omega)] at hw
      rw [oh w 4 w0 w1 q (by omega) (by omega)]
      exact hD w w0 w1 hw
/-- a coat moves -/
theorem yPP.dm {a b : Int} (h : yPP F) (hJ : J n F) (a0 : 0 ≤ a) (a1 : a < 60) (ha : F (29 + 8 * a + 1) = 1) (hf : isFr F b (F (29 + 8 * a + 3))) : yPP (dmU F a b) := by
  have b0 : 0 ≤ b := hf.1.1
  have b1 : b < 60 := by have := hf.1.2.1; omega
  have hab : a ≠ b := fun q => hf.2.1 (by rw [← q]; exact ha)
  have hba := hdl_b hJ.vd a0 a1
  have hbb := hdl_b hJ.vd b0 b1
  have hne := hdl_ne hJ.vd a0 a1 b0 b1 hab
  have h13 := hJ.vd.2.1 13 (by omega) (by omega) (by omega)
  have hva := hJ.2.1 a a0 a1 ha
  have hka := hJ.vd.2.2.2.1 a a0 a1
  have hkb := hJ.vd.2.2.2.1 b b0 b1
  have hfree : F (559 + hdl F b) = 0 := hJ.2.2.1 b b0 b1 (by have := hf.2.1; omega) hf.2.2.1
  have hlv := hdl_lv (F := F) hab
  have hR : dmU F a b = lgF (zup (zup (hgF (lvF F a) b (F (29 + 8 * a + 2)) (F (29 + 8 * a + 3)) (F (29 + 8 * a + 4))) (559 + hdl F a) (F (559 + hdl F a) + 512 * (hdl F b + 1))) 10 (F 10 + 1)) 1 (hdl F b) := rfl
  have oR : ∀ i : Int, i ≠ 5 → i ≠ 10 → i ≠ 12 → ¬ (29 + 8 * a ≤ i ∧ i ≤ 29 + 8 * a + 1) → ¬ (29 + 8 * a + 5 ≤ i ∧ i ≤ 29 + 8 * a + 7) → ¬ (29 + 8 * b + 1 ≤ i ∧ i ≤ 29 + 8 * b + 4) → i ≠ 559 + hdl F a → i ≠ 559 + hdl F b → zup (zup (hgF (lvF F a) b (F (29 + 8 * a + 2)) (F (29 + 8 * a + 3)) (F (29 + 8 * a + 4))) (559 + hdl F a) (F (559 + hdl F a) + 512 * (hdl F b + 1))) 10 (F 10 + 1) i = F i := fun i q1 q2 q3 q4 q5 q6 q7 q8 => by
    rw [zup_ne _ _ q2, zup_ne _ _ q7, hgF_o (by omega) (by omega) (by omega) (by omega) (by rw [hlv]; exact q8) q1, lvF_o (by omega) (by omega) (by omega) (by omega) (by omega) q3]
  have oF : ∀ i : Int, i ≠ 5 → i ≠ 10 → i ≠ 12 → i ≠ 13 → ¬ (29 + 8 * a ≤ i ∧ i ≤ 29 + 8 * a + 1) → ¬ (29 + 8 * a + 5 ≤ i ∧ i ≤ 29 + 8 * a + 7) → ¬ (29 + 8 * b + 1 ≤ i ∧ i ≤ 29 + 8 * b + 4) → (i < 529 ∨ 559 ≤ i) → i ≠ 559 + hdl F a → i ≠ 559 + hdl F b → dmU F a b i = F i := fun i q1 q2 q3 q4 q5 q6 q7 q8 q9 q10 => by
    rw [hR, lgF_o q8 q4]
    exact oR i q1 q2 q3 q5 q6 q7 q9 q10
  have ea1 : dmU F a b (29 + 8 * a + 1) = 0 := by
    simp (disch := omega) only [dmU, lgF_o, zup_ne, hgF_o]
    simp (disch := omega) only [lvF, zup_ne, zup_eq]
  have ea6 : dmU F a b (29 + 8 * a + 6) = F (29 + 8 * a + 6) + 1 := by
    simp (disch := omega) only [dmU, lgF_o, zup_ne, hgF_o]
    simp (disch := omega) only [lvF, zup_ne, zup_eq]
  have eb1 : dmU F a b (29 + 8 * b + 1) = 1 := by simp (disch := omega) only [dmU, lgF_o, zup_ne, zup_eq, hgF]
  have eb3 : dmU F a b (29 + 8 * b + 3) = F (29 + 8 * a + 3) := by simp (disch := omega) only [dmU, lgF_o, zup_ne, zup_eq, hgF]
  have eb4 : dmU F a b (29 + 8 * b + 4) = F (29 + 8 * a + 4) := by simp (disch := omega) only [dmU, lgF_o, zup_ne, zup_eq, hgF]
  have e5 : dmU F a b 5 = F 5 + 1 := by simp (disch := omega) only [dmU, lgF_o, zup_ne, zup_eq, hgF, lvF_o]
  have e10 : dmU F a b 10 = F 10 + 1 := by simp (disch := omega) only [dmU, lgF_o, zup_eq]
  have eha : dmU F a b (559 + hdl F a) = F (559 + hdl F a) + 512 * (hdl F b + 1) := by
    simp (disch := omega) only [dmU, lgF_o, zup_ne, zup_eq]
  have eRb : zup (zup (hgF (lvF F a) b (F (29 + 8 * a + 2)) (F (29 + 8 * a + 3)) (F (29 + 8 * a + 4))) (559 + hdl F a) (F (559 + hdl F a) + 512 * (hdl F b + 1))) 10 (F 10 + 1) (559 + hdl F b) = 1 + 16 * F (29 + 8 * a + 2) := by
    rw [zup_ne _ _ (by omega), zup_ne _ _ (by omega)]
    unfold hgF
    rw [hlv]
    simp (disch := omega) only [zup_ne, zup_eq]
  have hz : yHZ F (dmU F a b) := fun w w0 w1 w2 => by
    by_cases q : w = hdl F a
    · subst q
      refine ⟨by rw [eha]; omega, fun _ q2 => absurd ?_ q2⟩
      unfold eo
      omega
    · by_cases q3 : w = hdl F b
      · subst q3
        omega
      · have ez : dmU F a b (559 + w) = F (559 + w) := oF _ (by omega) (by omega) (by omega) (by omega) (by omega) (by omega) (by omega) (by omega) (by omega) (by omega)
        exact ⟨by rw [ez]; exact w2, fun q1 _ => ⟨by rw [fol_congr ez]; exact q1, eo_congr ez⟩⟩
  have hl : yLG (dmU F a b) := by
    rw [hR] at hz ⊢
    exact h.1.2.2.2.ev (fun i i0 i1 => oR i (by omega) (by omega) (by omega) (by omega) (by omega) (by omega) (by omega) (by omega)) (oR 13 (by omega) (by omega) (by omega) (by omega) (by omega) (by omega) (by omega) (by omega)) (oR 0 (by omega) (by omega) (by omega) (by omega) (by omega) (by omega) (by omega) (by omega)) hz (by omega) (by omega) (by rw [eRb]; omega) (fun q => absurd q (by omega))
  have e13 : dmU F a b 13 = F 13 + 1 := by
    rw [hR, (lg_at rfl).2.2.2, oR 13 (by omega) (by omega) (by omega) (by omega) (by omega) (by omega) (by omega) (by omega)]
  obtain ⟨⟨h1, h2, ⟨c1, c2, c3, c4, c5⟩, h4⟩, hD⟩ := h
  have hi : ∀ w : Int, 0 ≤ w → w < 60 → (isHk (dmU F a b) w ↔ isHk F w) := fun w w0 w1 => by
    unfold isHk
    rw [oF 1 (by omega) (by omega) (by omega) (by omega) (by omega) (by omega) (by omega) (by omega) (by omega) (by omega), oF (14 + 3 * (w / 12) + 0) (by omega) (by omega) (by omega) (by omega) (by omega) (by omega) (by omega) (by omega) (by omega) (by omega)]
  have oh : ∀ w i : Int, 0 ≤ w → w < 60 → w ≠ a → w ≠ b → 0 ≤ i → i < 8 → dmU F a b (29 + 8 * w + i) = F (29 + 8 * w + i) := fun w i w0 w1 hw hw2 i0 i1 => oF _ (by omega) (by omega) (by omega) (by omega) (by omega) (by omega) (by omega) (by omega) (by omega) (by omega)
  have s1 : sm (fun w => dmU F a b (29 + 8 * w + 1)) 60 = sm (zup (fun w => F (29 + 8 * w + 1)) a 0) 60 - zup (fun w => F (29 + 8 * w + 1)) a 0 b + 1 := sm_at (f := zup (fun w => F (29 + 8 * w + 1)) a 0) b0 b1 eb1 fun k k0 k1 hk => by
    by_cases q : k = a
    · rw [q, zup_eq]
      exact ea1
    · rw [zup_ne _ _ q]
      exact oh k 1 k0 k1 q hk (by omega) (by omega)
  rw [sm_up a0 a1, zup_ne _ _ (fun q => hab q.symm)] at s1
  have s6 : sm (fun w => dmU F a b (29 + 8 * w + 6)) 60 = sm (fun w => F (29 + 8 * w + 6)) 60 - F (29 + 8 * a + 6) + (F (29 + 8 * a + 6) + 1) := sm_at (f := fun w => F (29 + 8 * w + 6)) a0 a1 ea6 fun k k0 k1 hk => oF _ (by omega) (by omega) (by omega) (by omega) (by omega) (by omega) (by omega) (by omega) (by omega) (by omega)
  have sg : sm (fun w => dmU F a b (509 + w)) 20 = sm (fun w => F (509 + w)) 20 := sm_congr fun k hk => oF _ (by omega) (by omega) (by omega) (by omega) (by omega) (by omega) (by omega) (by omega) (by omega) (by omega)
  have e6 := oF 6 (by omega) (by omega) (by omega) (by omega) (by omega) (by omega) (by omega) (by omega) (by omega) (by omega)
  have e7 := oF 7 (by omega) (by omega) (by omega) (by omega) (by omega) (by omega) (by omega) (by omega) (by omega) (by omega)
  have e8 := oF 8 (by omega) (by omega) (by omega) (by omega) (by omega) (by omega) (by omega) (by omega) (by omega) (by omega)
  have e9 := oF 9 (by omega) (by omega) (by omega) (by omega) (by omega) (by omega) (by omega) (by omega) (by omega) (by omega)
  have hf1 := hf.2.1
  have s1' : sm (fun w => dmU F a b (29 + 8 * w + 1)) 60 = sm (fun w => F (29 + 8 * w + 1)) 60 - F (29 + 8 * a + 1) + 0 - F (29 + 8 * b + 1) + 1 := s1
  refine ⟨⟨fun w w0 w1 hw => ?_, fun w w0 w1 hw => ?_, ⟨?_, ?_, ?_, ?_, ?_⟩, hl⟩, fun w w0 w1 hw => ?_⟩
  · rw [oF (14 + 3 * (w / 12) + 1) (by omega) (by omega) (by omega) (by omega) (by omega) (by omega) (by omega) (by omega) (by omega) (by omega)]
    by_cases q : w = b
    · subst q
      rw [eb3]
      exact hf.2.2.2.2
    · by_cases qa : w = a
      · subst qa
        omega
      · rw [oh w 1 w0 w1 qa q (by omega) (by omega)] at hw
        rw [oh w 3 w0 w1 qa q (by omega) (by omega)]
        exact h1 w w0 w1 hw
  · rw [hi w w0 w1] at hw
    have qa : w ≠ a := fun q => hw (by rw [q]; exact hva.2.1)
    rw [oF _ (by omega) (by omega) (by omega) (by omega) (by omega) (by omega) (by omega) (by omega) (by omega) (by omega)]
    exact h2 w w0 w1 hw
  · omega
  · omega
  · omega
  · omega
  · omega
  · rw [oF 0 (by omega) (by omega) (by omega) (by omega) (by omega) (by omega) (by omega) (by omega) (by omega) (by omega)]
    by_cases q : w = b
    · subst q
      rw [eb4]
      exact hD a a0 a1 ha
    · by_cases qa : w = a
      · subst qa
        omega
      · rw [oh w 1 w0 w1 qa q (by omega) (by omega)] at hw
        rw [oh w 4 w0 w1 qa q (by omega) (by omega)]
        exact hD w w0 w1 hw
theorem yPP.mv {a b : Int} (h : yPP F) (hJ : J n F) (ha : 0 ≤ a ∧ a < 5) (hb : 0 ≤ b ∧ b < 5) (hab : a ≠ b) : ∀ i : Nat, i ≤ 12 → yPP (mvS F a b i).2
  | 0, _ => h
  | i + 1, hi => by
    have ih := yPP.mv h hJ ha hb hab i (by omega)
    have hj := hJ.mv ha hb hab i (by omega)
    rw [mvS_s _ _ _ _ _ rfl]
    generalize mvS F a b i = P at ih hj ⊢
    by_cases q1 : P.1 = 1
    · rw [if_neg (fun q => q q1)]
      by_cases q2 : P.2 (29 + 8 * (12 * a + i) + 1) = 1
      · rw [if_neg (fun q => q q2)]
        by_cases q3 : fo P.2 b (P.2 (29 + 8 * (12 * a + i) + 3)) 12 = -5
        · rw [if_pos q3]
          exact ih
        · rw [if_neg q3]
          have hf := (fo_b (F := P.2) (z := P.2 (29 + 8 * (12 * a + i) + 3)) hb.1 12).resolve_left q3
          exact ih.dm hj (a := 12 * a + i) (by omega) (by omega) q2 hf.2.2
      · rw [if_pos q2]
        exact ih
    · rw [if_pos q1]
      exact ih
/-- a day: who stays, has stayed no longer than the limit -/
theorem yPQ.pd (h : yPQ F) (hJ : J n F) : ∀ i : Nat, i ≤ 60 → yPQ (pdS F i).2 ∧ (∀ x : Int, 0 ≤ x → x < i → (pdS F i).2 (29 + 8 * x + 1) = 1 → (pdS F i).2 0 - (pdS F i).2 (29 + 8 * x + 4) ≤ (pdS F i).2 4)
  | 0, _ => ⟨h, fun x x0 x1 => absurd x1 (by omega)⟩
  | i + 1, hi => by
    have ih := yPQ.pd h hJ i (by omega)
    have hj := (hJ.pd i (by omega)).1
    rw [pdS_s _ _ _ rfl]
    generalize pdS F i = P at ih hj ⊢
    by_cases q : P.2 (29 + 8 * (i : Int) + 1) = 1 ∧ P.2 4 < P.2 0 - P.2 (29 + 8 * (i : Int) + 4)
    · rw [if_pos q]
      have hb := hdl_b hj.vd (x := (i : Int)) (by omega) (by omega)
      have hh := cnt_h (F := P.2) (a := P.2 11 + 10 * P.2 (29 + 8 * (i : Int) + 3)) (j := 9) (v := P.2 9 + 1) (x := (i : Int)) (by omega) (by omega)
      have g1 := ih.1.en (a := P.2 11 + 10 * P.2 (29 + 8 * (i : Int) + 3)) (j := 9) (e := 3) (c := 4) hj (by omega) (by omega) (by omega) (x := (i : Int)) (by omega) (by omega) q.1
      refine ⟨g1.1, fun x x0 x1 hx => ?_⟩
      have e1 := en_1 (F := zup (zup P.2 11 (P.2 11 + 10 * P.2 (29 + 8 * (i : Int) + 3))) 9 (P.2 9 + 1)) (x := (i : Int)) (e := 3) (c := 4) (by omega) (by omega) (by rw [hh]; exact hb.1)
      have hx : enF (zup (zup P.2 11 (P.2 11 + 10 * P.2 (29 + 8 * (i : Int) + 3))) 9 (P.2 9 + 1)) (i : Int) 3 4 (29 + 8 * x + 1) = 1 := hx
      have hxi : x ≠ (i : Int) := fun e => by
        rw [e, e1] at hx
        omega
      have o : ∀ j : Int, j ≠ 9 → j ≠ 11 → j ≠ 12 → j ≠ 13 → ¬ (29 + 8 * (i : Int) ≤ j ∧ j < 29 + 8 * (i : Int) + 8) → j < 529 → enF (zup (zup P.2 11 (P.2 11 + 10 * P.2 (29 + 8 * (i : Int) + 3))) 9 (P.2 9 + 1)) (i : Int) 3 4 j = P.2 j := fun j q0 q1 q2 q3 q4 q5 => by
        rw [enF_o (by omega) (by omega) (by omega) (by omega) (by omega) (by omega) (by omega) (by omega) (by rw [hh]; omega), zup_ne _ _ q0, zup_ne _ _ q1]
      rw [o _ (by omega) (by omega) (by omega) (by omega) (by omega) (by omega)] at hx
      show enF (zup (zup P.2 11 (P.2 11 + 10 * P.2 (29 + 8 * (i : Int) + 3))) 9 (P.2 9 + 1)) (i : Int) 3 4 0 - enF (zup (zup P.2 11 (P.2 11 + 10 * P.2 (29 + 8 * (i : Int) + 3))) 9 (P.2 9 + 1)) (i : Int) 3 4 (29 + 8 * x + 4) ≤ enF (zup (zup P.2 11 (P.2 11 + 10 * P.2 (29 + 8 * (i : Int) + 3))) 9 (P.2 9 + 1)) (i : Int) 3 4 4
      rw [o 0 (by omega) (by omega) (by omega) (by omega) (by omega) (by omega), o 4 (by omega) (by omega) (by omega) (by omega) (by omega) (by omega), o (29 + 8 * x + 4) (by omega) (by omega) (by omega) (by omega) (by omega) (by omega)]
      exact ih.2 x x0 (by omega) hx
    · rw [if_neg q]
      refine ⟨ih.1, fun x x0 x1 hx => ?_⟩
      by_cases hxi : x = (i : Int)
      · subst hxi
        omega
      · exact ih.2 x x0 (by omega) hx
theorem yPP.ps (h : yPP F) (hJ : J n F) : ∀ m : Nat, F 0 + m ≤ 9999 → yPP (psS F m).2
  | 0, _ => h
  | m + 1, hm => by
    have ih := yPP.ps h hJ m (by omega)
    have hj := hJ.ps m (by omega)
    have hd := hj.1.day (by omega)
    have h2 := ih.1.day.pd hd 60 (by omega)
    have h3 := (hd.pd 60 (by omega)).1
    rw [psS_s]
    generalize pdS (zup (psS F m).2 0 ((psS F m).2 0 + 1)) 60 = P at h2 h3 ⊢
    refine ⟨h2.1, fun x x0 x1 hx => ?_⟩
    have h4 := h2.2 x x0 (by omega) hx
    have h5 := h3.vd.1
    show P.2 0 - P.2 (29 + 8 * x + 4) ≤ 99
    omega
theorem yPP.z : yPP Fz := by
  have z : ∀ j : Int, 5 ≤ j → Fz j = 0 := fun j hj => Fz_0 (by omega) (by omega)
  have z0 : Fz 0 = 0 := Fz_0 (by omega) (by omega)
  have s : ∀ (f : Int → Int) (m : Nat), (∀ k : Nat, k < m → f k = 0) → sm f m = 0 := fun f m hf => sm_0 hf
  refine ⟨⟨fun x x0 x1 hx => ?_, fun x x0 x1 hx => z _ (by omega), ⟨?_, ?_, ?_, ?_, ?_⟩, fun b b0 b1 b2 => ?_⟩, fun x x0 x1 hx => ?_⟩
  · rw [z _ (by omega)] at hx
    omega
  · rw [z 6 (by omega)]
    exact s _ _ fun k hk => z _ (by omega)
  · rw [z 6 (by omega), z 7 (by omega), z 8 (by omega), z 9 (by omega), s (fun x => Fz (29 + 8 * x + 1)) 60 fun k hk => z _ (by omega)]
    rfl
  · rw [z 5 (by omega), z 6 (by omega), z 10 (by omega)]
    rfl
  · rw [z 7 (by omega), z 8 (by omega), z 9 (by omega), z 10 (by omega), s (fun x => Fz (29 + 8 * x + 6)) 60 fun k hk => z _ (by omega)]
    rfl
  · rw [z 13 (by omega), z 6 (by omega), z 7 (by omega), z 8 (by omega), z 9 (by omega), z 10 (by omega)]
    rfl
  · rw [z 13 (by omega)] at b2
    omega
  · rw [z _ (by omega)] at hx
    omega
end S72
