/-! ===== what holds of a row is kept ===== -/
theorem J.cg {n m : Int} {F G : Int → Int} (hg : ∀ j : Int, j = 1 ∨ j = 5 ∨ (14 ≤ j ∧ j < 509) ∨ (559 ≤ j ∧ j < 6559) → G j = F j) (hVG : Vb m G) (h : J n F) : J m G := by
  have hh : ∀ x : Int, 0 ≤ x → x < 60 → hdl G x = hdl F x := fun x h0 h1 => hdl_congr (hg _ (by omega))
  have hb : ∀ x : Int, 0 ≤ x → x < 60 → 0 ≤ hdl F x ∧ hdl F x < 6000 := fun x h0 h1 => by
    have := h.1.vd.2.2.2.1 x h0 h1
    unfold hdl
    omega
  have hi : ∀ x : Int, 0 ≤ x → x < 60 → (isHk G x ↔ isHk F x) := fun x h0 h1 => by
    unfold isHk
    rw [hg 1 (by omega), hg (14 + 3 * (x / 12) + 0) (by omega)]
  have hf : ∀ x : Int, 0 ≤ x → x < 6000 → fol G x = fol F x := fun x h0 h1 => fol_congr (hg _ (by omega))
  have he : ∀ x : Int, 0 ≤ x → x < 6000 → eo G x = eo F x := fun x h0 h1 => eo_congr (hg _ (by omega))
  obtain ⟨hV, hA, hB, hC, hD, hG, hH, hR, hAC⟩ := h
  refine ⟨hVG, fun x h0 h1 h2 => ?_, fun x h0 h1 h2 h3 => ?_, fun x y h0 h1 h2 h3 => ?_, fun x h0 h1 h2 => ?_, fun z h0 h1 h2 h3 h4 => ?_, fun z h0 h1 => ?_, fun x h0 h1 h2 => ?_, fun x h0 h1 => ?_⟩
  · have b := hb x h0 h1
    rw [hh x h0 h1, hi x h0 h1, hg (559 + hdl F x) (by omega), hg (29 + 8 * x + 2) (by omega), hg (29 + 8 * x + 5) (by omega)]
    rw [hg _ (by omega)] at h2
    exact hA x h0 h1 h2
  · have b := hb x h0 h1
    rw [hg _ (by omega)] at h2 h3
    rw [hh x h0 h1, hg (559 + hdl F x) (by omega)]
    exact hB x h0 h1 h2 h3
  · have b := hV.vd.2.2.2.1 x h0 h1
    rw [hg _ (by omega)] at h2
    rw [hg (559 + (100 * x + y)) (by omega)]
    exact hC x y h0 h1 h2 h3
  · rw [hi x h0 h1] at h2
    rw [hg (29 + 8 * x + 0) (by omega), hg (29 + 8 * x + 1) (by omega), hg (29 + 8 * x + 5) (by omega)]
    exact hD x h0 h1 h2
  · rw [hg _ (by omega)] at h2
    rw [hf z h0 h1] at h3
    rw [he z h0 h1] at h4
    rw [hg (29 + 8 * (z / 100) + 1) (by omega), hh (z / 100) (by omega) (by omega)]
    exact hG z h0 h1 h2 h3 h4
  · have b := fol_b hV.vd h0 h1
    have c := hH z h0 h1
    rw [hf z h0 h1, he z h0 h1, hg (559 + z) (by omega)]
    refine ⟨c.1, fun q => ?_⟩
    have hq : fol F z < 6000 := by
      rcases c.1 with e | e
      · unfold fol at q ⊢
        omega
      · unfold fol
        omega
    rw [hg (559 + fol F z) (by omega)]
    exact c.2 q
  · rw [hg _ (by omega)] at h2
    rw [hg (29 + 8 * x + 0) (by omega)]
    exact hR x h0 h1 h2
  · obtain ⟨d, z, hd, hc⟩ := hAC x h0 h1
    rw [hg 5 (by omega)]
    exact ⟨d, z, hd, hc.congr hf⟩
theorem J.lg {n c e : Int} {F : Int → Int} (h : J n F) (hc : 0 ≤ c ∧ c ≤ 9999) (he : 0 ≤ e ∧ e ≤ 9999) : J (n + 1) (lgF F c e) := h.cg (fun j hj => lgF_o (by omega) (by omega)) (h.1.lg hc he)
/-- a place that J says nothing of: the day, the rule .., what is counted, a guest's coats -/
theorem J.set {n m i v : Int} {F : Int → Int} (h : J n F) (hi : i = 0 ∨ (2 ≤ i ∧ i < 14 ∧ i ≠ 5) ∨ (509 ≤ i ∧ i < 559)) (hV : Vb m (zup F i v)) : J m (zup F i v) := h.cg (fun j hj => zup_ne _ _ (by omega)) hV
theorem hdE_x {v : Int} (h : hdE v) : v / 512 ≤ 6000 := by
  rcases h with h | h <;> omega
/-- an end, by its entries -/
theorem en_0 {F : Int → Int} {x e c : Int} (h0 : 0 ≤ x) (h1 : x < 60) (hb : 0 ≤ hdl F x) : enF F x e c (29 + 8 * x + 0) = F (29 + 8 * x + 0) + bI (¬ F (29 + 8 * x + 0) = 99) := by
  simp (disch := omega) only [enF, lgF_o, lvF, zup_ne, zup_eq]
theorem en_1 {F : Int → Int} {x e c : Int} (h0 : 0 ≤ x) (h1 : x < 60) (hb : 0 ≤ hdl F x) : enF F x e c (29 + 8 * x + 1) = 0 := by
  simp (disch := omega) only [enF, lgF_o, lvF, zup_ne, zup_eq]
theorem en_5 {F : Int → Int} {x e c : Int} (h0 : 0 ≤ x) (h1 : x < 60) (hb : 0 ≤ hdl F x) : enF F x e c (29 + 8 * x + 5) = bI (F (29 + 8 * x + 0) = 99) := by
  simp (disch := omega) only [enF, lgF_o, lvF, zup_ne, zup_eq]
theorem en_h {F : Int → Int} {x e c : Int} (h0 : 0 ≤ x) (h1 : x < 60) (hb : 0 ≤ hdl F x) : enF F x e c (559 + hdl F x) = F (559 + hdl F x) + 2 * e := by
  simp (disch := omega) only [enF, lgF_o, lvF, zup_ne, zup_eq]
theorem J.en {n x e c : Int} {F : Int → Int} (h : J n F) (h0 : 0 ≤ x) (h1 : x < 60) (hx : F (29 + 8 * x + 1) = 1) (he : 1 ≤ e ∧ e ≤ 3) (hc : 0 ≤ c ∧ c ≤ 9999) : J (n + 2) (enF F x e c) := by
  have hb := fun y (q0 : 0 ≤ y) (q1 : y < 60) => hdl_b h.1.vd q0 q1
  obtain ⟨hV, hA, hB, hC, hD, hG, hH, hR, hAC⟩ := h
  have hv := hA x h0 h1 hx
  have hk := hV.vd.2.2.2.1 x h0 h1
  have hbx := hb x h0 h1
  have hyx : hdl F x = 100 * x + F (29 + 8 * x + 0) := rfl
  have hne := fun y (q0 : 0 ≤ y) (q1 : y < 60) (q : x ≠ y) => hdl_ne hV.vd h0 h1 q0 q1 q
  -- other hooks
  have oh : ∀ y i : Int, 0 ≤ y → y < 60 → y ≠ x → 0 ≤ i → i < 8 → enF F x e c (29 + 8 * y + i) = F (29 + 8 * y + i) := fun y i q0 q1 q r0 r1 =>
    enF_o (by omega) (by omega) (by omega) (by omega) (by omega) (by omega) (by omega) (by omega) (by omega)
  have hho : ∀ y : Int, 0 ≤ y → y < 60 → y ≠ x → hdl (enF F x e c) y = hdl F y := fun y q0 q1 q => hdl_congr (oh y 0 q0 q1 q (by omega) (by omega))
  have ho : ∀ z : Int, 0 ≤ z → z < 6000 → z ≠ hdl F x → enF F x e c (559 + z) = F (559 + z) := fun z q0 q1 q =>
    enF_o (by omega) (by omega) (by omega) (by omega) (by omega) (by omega) (by omega) (by omega) (by omega)
  have e1 := en_1 (F := F) (e := e) (c := c) h0 h1 hbx.1
  have e0 := en_0 (F := F) (e := e) (c := c) h0 h1 hbx.1
  have e5 := en_5 (F := F) (e := e) (c := c) h0 h1 hbx.1
  have eh := en_h (F := F) (e := e) (c := c) h0 h1 hbx.1
  have hi : ∀ y : Int, 0 ≤ y → y < 60 → (isHk (enF F x e c) y ↔ isHk F y) := fun y q0 q1 => by
    unfold isHk
    rw [enF_o (j := 1) (by omega) (by omega) (by omega) (by omega) (by omega) (by omega) (by omega) (by omega) (by omega), enF_o (j := 14 + 3 * (y / 12) + 0) (by omega) (by omega) (by omega) (by omega) (by omega) (by omega) (by omega) (by omega) (by omega)]
  have hf : ∀ z : Int, 0 ≤ z → z < 6000 → fol (enF F x e c) z = fol F z := fun z q0 q1 => by
    by_cases hz : z = hdl F x
    · subst hz
      unfold fol
      rw [eh]
      omega
    · exact fol_congr (ho z q0 q1 hz)
  refine ⟨hV.en h0 h1 (by omega) hc (by omega), fun y q0 q1 q2 => ?_, fun y q0 q1 q2 q3 => ?_, fun y w q0 q1 q2 q3 => ?_, fun y q0 q1 q2 => ?_, fun z q0 q1 q2 q3 q4 => ?_, fun z q0 q1 => ?_, fun y q0 q1 q2 => ?_, fun z q0 q1 => ?_⟩
  · by_cases hy : y = x
    · subst hy
      omega
    · have hb2 := hb y q0 q1
      have hn2 := hne y q0 q1 (fun q => hy q.symm)
      rw [hho y q0 q1 hy, ho _ hb2.1 (by omega) (by omega), oh y 2 q0 q1 hy (by omega) (by omega), oh y 5 q0 q1 hy (by omega) (by omega), hi y q0 q1]
      rw [oh y 1 q0 q1 hy (by omega) (by omega)] at q2
      exact hA y q0 q1 q2
  · by_cases hy : y = x
    · subst hy
      have e99 : ¬ F (29 + 8 * y + 0) = 99 := fun q => by
        rw [e5, bI_t q] at q3
        omega
      have eq : hdl (enF F y e c) y = 100 * y + (F (29 + 8 * y + 0) + 1) := by
        unfold hdl
        rw [e0, bI_t e99]
      rw [eq, ho _ (by omega) (by omega) (by omega)]
      exact hC y (F (29 + 8 * y + 0) + 1) q0 q1 (by omega) (by omega)
    · have hb2 := hb y q0 q1
      have hn2 := hne y q0 q1 (fun q => hy q.symm)
      rw [oh y 1 q0 q1 hy (by omega) (by omega)] at q2
      rw [oh y 5 q0 q1 hy (by omega) (by omega)] at q3
      rw [hho y q0 q1 hy, ho _ hb2.1 (by omega) (by omega)]
      exact hB y q0 q1 q2 q3
  · have hky := hV.vd.2.2.2.1 y q0 q1
    have hyy : F (29 + 8 * y + 0) < w ∧ hdl F x ≠ 100 * y + w := by
      by_cases hy : y = x
      · subst hy
        have := bI_b (¬ F (29 + 8 * y + 0) = 99)
        omega
      · rw [oh y 0 q0 q1 hy (by omega) (by omega)] at q2
        omega
    rw [ho _ (by omega) (by omega) (by omega)]
    exact hC y w q0 q1 hyy.1 q3
  · rw [hi y q0 q1] at q2
    have hy : y ≠ x := fun q => q2 (by rw [q]; exact hv.2.1)
    rw [oh y 0 q0 q1 hy (by omega) (by omega), oh y 1 q0 q1 hy (by omega) (by omega), oh y 5 q0 q1 hy (by omega) (by omega)]
    exact hD y q0 q1 q2
  · by_cases hz : z = hdl F x
    · subst hz
      unfold eo at q4
      rw [eh] at q4
      omega
    · rw [ho z q0 q1 hz] at q2
      rw [hf z q0 q1] at q3
      rw [eo_congr (ho z q0 q1 hz)] at q4
      have hg := hG z q0 q1 q2 q3 q4
      have hy : z / 100 ≠ x := fun q => hz (by rw [← q]; exact hg.2.symm)
      rw [oh (z / 100) 1 (by omega) (by omega) hy (by omega) (by omega), hho (z / 100) (by omega) (by omega) hy]
      exact hg
  · have hz2 := hH z q0 q1
    by_cases hz : z = hdl F x
    · subst hz
      rw [eh]
      refine ⟨Or.inr (by omega), fun q => ?_⟩
      rw [hf _ q0 q1] at q
      unfold fol at q
      omega
    · rw [ho z q0 q1 hz, hf z q0 q1, eo_congr (ho z q0 q1 hz)]
      refine ⟨hz2.1, fun q => ?_⟩
      have h2 := hz2.2 q
      have hq : fol F z < 6000 := by
        have := hdE_x hz2.1
        unfold fol
        omega
      by_cases hf2 : fol F z = hdl F x
      · rw [hf2] at h2 ⊢
        rw [eh]
        omega
      · rw [ho _ q hq hf2]
        exact h2
  · by_cases hy : y = x
    · subst hy
      have e99 : F (29 + 8 * y + 0) = 99 := by
        rw [e5] at q2
        by_cases q : F (29 + 8 * y + 0) = 99
        · exact q
        · rw [bI_f q] at q2
          omega
      rw [e0, bI_f (fun z => z e99), e99]
      rfl
    · rw [oh y 5 q0 q1 hy (by omega) (by omega)] at q2
      rw [oh y 0 q0 q1 hy (by omega) (by omega)]
      exact hR y q0 q1 q2
  · obtain ⟨d, w, hd, hc2⟩ := hAC z q0 q1
    refine ⟨d, w, ?_, hc2.congr hf⟩
    rw [enF_o (j := 5) (by omega) (by omega) (by omega) (by omega) (by omega) (by omega) (by omega) (by omega) (by omega)]
    exact hd
/-- a coat comes, by its entries -/
theorem J.hg {n x y z d : Int} {F : Int → Int} (h : J n F) (h0 : 0 ≤ x) (h1 : x < 60) (hx : F (29 + 8 * x + 1) = 0) (hr : F (29 + 8 * x + 5) = 0) (hk : isHk F x) (hy : 0 ≤ y ∧ y ≤ 19) (hz : 0 ≤ z ∧ z ≤ 5) (hd : 0 ≤ d ∧ d ≤ 9999) : J (n + 1) (hgF F x y z d) := by
  have hb := fun y (q0 : 0 ≤ y) (q1 : y < 60) => hdl_b h.1.vd q0 q1
  obtain ⟨hV, hA, hB, hC, hD, hG, hH, hR, hAC⟩ := h
  have hv := hB x h0 h1 hx hr
  have hkx := hV.vd.2.2.2.1 x h0 h1
  have hbx := hb x h0 h1
  have hyx : hdl F x = 100 * x + F (29 + 8 * x + 0) := rfl
  have hne := fun y (q0 : 0 ≤ y) (q1 : y < 60) (q : x ≠ y) => hdl_ne hV.vd h0 h1 q0 q1 q
  have oh : ∀ w i : Int, 0 ≤ w → w < 60 → w ≠ x → 0 ≤ i → i < 8 → hgF F x y z d (29 + 8 * w + i) = F (29 + 8 * w + i) := fun w i q0 q1 q r0 r1 =>
    hgF_o (by omega) (by omega) (by omega) (by omega) (by omega) (by omega)
  have ox : ∀ i : Int, i = 0 ∨ i = 5 → hgF F x y z d (29 + 8 * x + i) = F (29 + 8 * x + i) := fun i q =>
    hgF_o (by omega) (by omega) (by omega) (by omega) (by omega) (by omega)
  have hho : ∀ w : Int, 0 ≤ w → w < 60 → hdl (hgF F x y z d) w = hdl F w := fun w q0 q1 => by
    by_cases hw : w = x
    · subst hw
      exact hdl_congr (ox 0 (by omega))
    · exact hdl_congr (oh w 0 q0 q1 hw (by omega) (by omega))
  have ho : ∀ w : Int, 0 ≤ w → w < 6000 → w ≠ hdl F x → hgF F x y z d (559 + w) = F (559 + w) := fun w q0 q1 q =>
    hgF_o (by omega) (by omega) (by omega) (by omega) (by omega) (by omega)
  have eh : hgF F x y z d (559 + hdl F x) = 1 + 16 * y := by
    simp (disch := omega) only [hgF, zup_ne, zup_eq]
  have e1 : hgF F x y z d (29 + 8 * x + 1) = 1 := by
    simp (disch := omega) only [hgF, zup_ne, zup_eq]
  have e2 : hgF F x y z d (29 + 8 * x + 2) = y := by
    simp (disch := omega) only [hgF, zup_ne, zup_eq]
  have hi : ∀ w : Int, 0 ≤ w → w < 60 → (isHk (hgF F x y z d) w ↔ isHk F w) := fun w q0 q1 => by
    unfold isHk
    rw [hgF_o (j := 1) (by omega) (by omega) (by omega) (by omega) (by omega) (by omega), hgF_o (j := 14 + 3 * (w / 12) + 0) (by omega) (by omega) (by omega) (by omega) (by omega) (by omega)]
  have hf : ∀ w : Int, 0 ≤ w → w < 6000 → fol (hgF F x y z d) w = fol F w := fun w q0 q1 => by
    by_cases hz : w = hdl F x
    · subst hz
      unfold fol
      rw [eh, hv]
      omega
    · exact fol_congr (ho w q0 q1 hz)
  refine ⟨hV.hg h0 h1 hy hz hd, fun w q0 q1 q2 => ?_, fun w q0 q1 q2 q3 => ?_, fun w v q0 q1 q2 q3 => ?_, fun w q0 q1 q2 => ?_, fun w q0 q1 q2 q3 q4 => ?_, fun w q0 q1 => ?_, fun w q0 q1 q2 => ?_, fun w q0 q1 => ?_⟩
  · rw [hho w q0 q1, hi w q0 q1]
    by_cases hw : w = x
    · subst hw
      rw [eh, e2, ox 5 (by omega)]
      exact ⟨rfl, hk, hr⟩
    · have hb2 := hb w q0 q1
      have hn2 := hne w q0 q1 (fun q => hw q.symm)
      rw [ho _ hb2.1 (by omega) (by omega), oh w 2 q0 q1 hw (by omega) (by omega), oh w 5 q0 q1 hw (by omega) (by omega)]
      rw [oh w 1 q0 q1 hw (by omega) (by omega)] at q2
      exact hA w q0 q1 q2
  · by_cases hw : w = x
    · subst hw
      omega
    · have hb2 := hb w q0 q1
      have hn2 := hne w q0 q1 (fun q => hw q.symm)
      rw [oh w 1 q0 q1 hw (by omega) (by omega)] at q2
      rw [oh w 5 q0 q1 hw (by omega) (by omega)] at q3
      rw [hho w q0 q1, ho _ hb2.1 (by omega) (by omega)]
      exact hB w q0 q1 q2 q3
  · have hky := hV.vd.2.2.2.1 w q0 q1
    have hyy : F (29 + 8 * w + 0) < v := by
      by_cases hw : w = x
      · subst hw
        rw [ox 0 (by omega)] at q2
        exact q2
      · rw [oh w 0 q0 q1 hw (by omega) (by omega)] at q2
        exact q2
    have hn3 : 100 * w + v ≠ hdl F x := by
      by_cases hw : w = x
      · subst hw
        omega
      · omega
    rw [ho _ (by omega) (by omega) hn3]
    exact hC w v q0 q1 hyy q3
  · rw [hi w q0 q1] at q2
    have hw : w ≠ x := fun q => q2 (by rw [q]; exact hk)
    rw [oh w 0 q0 q1 hw (by omega) (by omega), oh w 1 q0 q1 hw (by omega) (by omega), oh w 5 q0 q1 hw (by omega) (by omega)]
    exact hD w q0 q1 q2
  · by_cases hz : w = hdl F x
    · have e100 : w / 100 = x := by omega
      rw [e100, hho x h0 h1]
      exact ⟨e1, hz.symm⟩
    · rw [ho w q0 q1 hz] at q2
      rw [hf w q0 q1] at q3
      rw [eo_congr (ho w q0 q1 hz)] at q4
      have hg := hG w q0 q1 q2 q3 q4
      have hy2 : w / 100 ≠ x := fun q => by
        rw [q] at hg
        omega
      rw [oh (w / 100) 1 (by omega) (by omega) hy2 (by omega) (by omega), hho (w / 100) (by omega) (by omega)]
      exact hg
  · have hz2 := hH w q0 q1
    by_cases hz : w = hdl F x
    · subst hz
      rw [eh]
      refine ⟨Or.inr (by omega), fun q => ?_⟩
      rw [hf _ q0 q1] at q
      unfold fol at q
      omega
    · rw [ho w q0 q1 hz, hf w q0 q1, eo_congr (ho w q0 q1 hz)]
      refine ⟨hz2.1, fun q => ?_⟩
      have h2 := hz2.2 q
      have hq : fol F w < 6000 := by
        have := hdE_x hz2.1
        unfold fol
        omega
      have hf2 : fol F w ≠ hdl F x := fun q => by
        rw [q] at h2
        omega
      rw [ho _ q hq hf2]
      exact h2
  · by_cases hw : w = x
    · subst hw
      rw [ox 5 (by omega)] at q2
      rw [ox 0 (by omega)]
      exact hR w q0 q1 q2
    · rw [oh w 5 q0 q1 hw (by omega) (by omega)] at q2
      rw [oh w 0 q0 q1 hw (by omega) (by omega)]
      exact hR w q0 q1 q2
  · obtain ⟨d2, v, hd2, hc2⟩ := hAC w q0 q1
    refine ⟨d2, v, ?_, hc2.congr hf⟩
    have e5 : hgF F x y z d 5 = F 5 + 1 := by
      simp (disch := omega) only [hgF, zup_ne, zup_eq]
    omega
