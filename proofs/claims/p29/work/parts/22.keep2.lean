/-! ===== a move; tags that are valid ===== -/
theorem J.dm {n a b : Int} {F : Int → Int} (h : J n F) (h0 : 0 ≤ a) (h1 : a < 60) (h2 : 0 ≤ b) (h3 : b < 60) (ha : F (29 + 8 * a + 1) = 1) (hb0 : F (29 + 8 * b + 1) = 0) (hb5 : F (29 + 8 * b + 5) = 0) (hbk : isHk F b) : J (n + 3) (dmU F a b) := by
  have hbd := fun y (q0 : 0 ≤ y) (q1 : y < 60) => hdl_b h.1.vd q0 q1
  obtain ⟨hV, hA, hB, hC, hD, hG, hH, hR, hAC⟩ := h
  have hab : a ≠ b := fun q => by
    rw [q] at ha
    omega
  have hva := hA a h0 h1 ha
  have hvb := hB b h2 h3 hb0 hb5
  have hka := hV.vd.2.2.2.1 a h0 h1
  have hkb := hV.vd.2.2.2.1 b h2 h3
  have hba := hbd a h0 h1
  have hbb := hbd b h2 h3
  have hya : hdl F a = 100 * a + F (29 + 8 * a + 0) := rfl
  have hyb : hdl F b = 100 * b + F (29 + 8 * b + 0) := rfl
  have hnab := hdl_ne hV.vd h0 h1 h2 h3 hab
  have hna := fun y (q0 : 0 ≤ y) (q1 : y < 60) (q : a ≠ y) => hdl_ne hV.vd h0 h1 q0 q1 q
  have hnb := fun y (q0 : 0 ≤ y) (q1 : y < 60) (q : b ≠ y) => hdl_ne hV.vd h2 h3 q0 q1 q
  have hlv := hdl_lv (F := F) hab
  have h13 := hV.vd.2.1 13 (by omega) (by omega) (by omega)
  have oh : ∀ w i : Int, 0 ≤ w → w < 60 → w ≠ a → w ≠ b → 0 ≤ i → i < 8 → dmU F a b (29 + 8 * w + i) = F (29 + 8 * w + i) := fun w i q0 q1 qa qb r0 r1 => by
    simp (disch := omega) only [dmU, lgF_o, zup_ne, hgF_o, lvF_o]
  have ob : ∀ i : Int, i = 0 ∨ i = 5 → dmU F a b (29 + 8 * b + i) = F (29 + 8 * b + i) := fun i q => by
    simp (disch := omega) only [dmU, lgF_o, zup_ne, hgF_o, lvF_o]
  have eb1 : dmU F a b (29 + 8 * b + 1) = 1 := by
    simp (disch := omega) only [dmU, lgF_o, zup_ne, zup_eq, hgF]
  have eb2 : dmU F a b (29 + 8 * b + 2) = F (29 + 8 * a + 2) := by
    simp (disch := omega) only [dmU, lgF_o, zup_ne, zup_eq, hgF]
  have ea0 : dmU F a b (29 + 8 * a + 0) = F (29 + 8 * a + 0) + bI (¬ F (29 + 8 * a + 0) = 99) := by
    simp (disch := omega) only [dmU, lgF_o, zup_ne, hgF_o]
    simp (disch := omega) only [lvF, zup_ne, zup_eq]
  have ea1 : dmU F a b (29 + 8 * a + 1) = 0 := by
    simp (disch := omega) only [dmU, lgF_o, zup_ne, hgF_o]
    simp (disch := omega) only [lvF, zup_ne, zup_eq]
  have ea5 : dmU F a b (29 + 8 * a + 5) = bI (F (29 + 8 * a + 0) = 99) := by
    simp (disch := omega) only [dmU, lgF_o, zup_ne, hgF_o]
    simp (disch := omega) only [lvF, zup_ne, zup_eq]
  have eha : dmU F a b (559 + hdl F a) = F (559 + hdl F a) + 512 * (hdl F b + 1) := by
    simp (disch := omega) only [dmU, lgF_o, zup_ne, zup_eq]
  have ehb : dmU F a b (559 + hdl F b) = 1 + 16 * F (29 + 8 * a + 2) := by
    simp (disch := omega) only [dmU, lgF_o, zup_ne]
    unfold hgF
    rw [hlv]
    simp (disch := omega) only [zup_ne, zup_eq]
  have e5 : dmU F a b 5 = F 5 + 1 := by
    simp (disch := omega) only [dmU, lgF_o, zup_ne, zup_eq, hgF, lvF_o]
  have ho : ∀ w : Int, 0 ≤ w → w < 6000 → w ≠ hdl F a → w ≠ hdl F b → dmU F a b (559 + w) = F (559 + w) := fun w q0 q1 qa qb => by
    simp (disch := omega) only [dmU, lgF_o, zup_ne, hgF_o, lvF_o]
  have hho : ∀ w : Int, 0 ≤ w → w < 60 → w ≠ a → hdl (dmU F a b) w = hdl F w := fun w q0 q1 qa => by
    by_cases hw : w = b
    · subst hw
      exact hdl_congr (ob 0 (by omega))
    · exact hdl_congr (oh w 0 q0 q1 qa hw (by omega) (by omega))
  have hi : ∀ w : Int, 0 ≤ w → w < 60 → (isHk (dmU F a b) w ↔ isHk F w) := fun w q0 q1 => by
    have e1 : dmU F a b 1 = F 1 := by simp (disch := omega) only [dmU, lgF_o, zup_ne, hgF_o, lvF_o]
    have e2 : dmU F a b (14 + 3 * (w / 12) + 0) = F (14 + 3 * (w / 12) + 0) := by simp (disch := omega) only [dmU, lgF_o, zup_ne, hgF_o, lvF_o]
    unfold isHk
    rw [e1, e2]
  have hfa : fol (dmU F a b) (hdl F a) = hdl F b := by
    unfold fol
    rw [eha]
    omega
  have hfa0 : fol F (hdl F a) < 0 := by
    unfold fol
    omega
  have hfb : fol (dmU F a b) (hdl F b) = -1 := by
    unfold fol
    rw [ehb]
    omega
  have hfo : ∀ w : Int, 0 ≤ w → w < 6000 → w ≠ hdl F a → fol (dmU F a b) w = fol F w := fun w q0 q1 qa => by
    by_cases hw : w = hdl F b
    · rw [hw, hfb]
      unfold fol
      rw [hvb]
      rfl
    · exact fol_congr (ho w q0 q1 qa hw)
  have hch : ∀ (d : Nat) (w z : Int), Ch F d w z → Ch (dmU F a b) (d + 1) w (hdl F b) ∨ Ch (dmU F a b) d w z := by
    intro d
    induction d with
    | zero =>
      intro w z hc
      obtain ⟨rfl, q0, q1, q2⟩ := hc
      by_cases hw : w = hdl F a
      · subst hw
        exact Or.inl ⟨q0, q1, by rw [hfa]; exact hbb.1, by rw [hfa]; exact ⟨rfl, hbb.1, by omega, by rw [hfb]; omega⟩⟩
      · exact Or.inr ⟨rfl, q0, q1, by rw [hfo w q0 q1 hw]; exact q2⟩
    | succ d ih =>
      intro w z hc
      obtain ⟨q0, q1, q2, q3⟩ := hc
      have hw : w ≠ hdl F a := fun q => by
        rw [q] at q2
        omega
      have hf := hfo w q0 q1 hw
      rcases ih _ _ q3 with q | q
      · exact Or.inl ⟨q0, q1, by rw [hf]; exact q2, by rw [hf]; exact q⟩
      · exact Or.inr ⟨q0, q1, by rw [hf]; exact q2, by rw [hf]; exact q⟩
  refine ⟨hV.dm h0 h1 h2 h3 hab (by omega), fun w q0 q1 q2 => ?_, fun w q0 q1 q2 q3 => ?_, fun w v q0 q1 q2 q3 => ?_, fun w q0 q1 q2 => ?_, fun w q0 q1 q2 q3 q4 => ?_, fun w q0 q1 => ?_, fun w q0 q1 q2 => ?_, fun w q0 q1 => ?_⟩
  · have hwa : w ≠ a := fun q => by
      rw [q] at q2
      omega
    rw [hho w q0 q1 hwa, hi w q0 q1]
    by_cases hw : w = b
    · subst hw
      rw [ehb, eb2, ob 5 (by omega)]
      exact ⟨rfl, hbk, hb5⟩
    · have hb2 := hbd w q0 q1
      have hn2 := hna w q0 q1 (fun q => hwa q.symm)
      have hn3 := hnb w q0 q1 (fun q => hw q.symm)
      rw [ho _ hb2.1 (by omega) (by omega) (by omega), oh w 2 q0 q1 hwa hw (by omega) (by omega), oh w 5 q0 q1 hwa hw (by omega) (by omega)]
      rw [oh w 1 q0 q1 hwa hw (by omega) (by omega)] at q2
      exact hA w q0 q1 q2
  · by_cases hwa : w = a
    · subst hwa
      have e99 : ¬ F (29 + 8 * w + 0) = 99 := fun q => by
        rw [ea5, bI_t q] at q3
        omega
      have eq : hdl (dmU F w b) w = 100 * w + (F (29 + 8 * w + 0) + 1) := by
        unfold hdl
        rw [ea0, bI_t e99]
      rw [eq, ho _ (by omega) (by omega) (by omega) (by omega)]
      exact hC w (F (29 + 8 * w + 0) + 1) q0 q1 (by omega) (by omega)
    · have hwb : w ≠ b := fun q => by
        rw [q] at q2
        omega
      have hb2 := hbd w q0 q1
      have hn2 := hna w q0 q1 (fun q => hwa q.symm)
      have hn3 := hnb w q0 q1 (fun q => hwb q.symm)
      rw [oh w 1 q0 q1 hwa hwb (by omega) (by omega)] at q2
      rw [oh w 5 q0 q1 hwa hwb (by omega) (by omega)] at q3
      rw [hho w q0 q1 hwa, ho _ hb2.1 (by omega) (by omega) (by omega)]
      exact hB w q0 q1 q2 q3
  · have hky := hV.vd.2.2.2.1 w q0 q1
    have hyy : F (29 + 8 * w + 0) < v := by
      by_cases hwa : w = a
      · subst hwa
        have := bI_b (¬ F (29 + 8 * w + 0) = 99)
        omega
      · by_cases hwb : w = b
        · subst hwb
          rw [ob 0 (by omega)] at q2
          exact q2
        · rw [oh w 0 q0 q1 hwa hwb (by omega) (by omega)] at q2
          exact q2
    have hn3 : 100 * w + v ≠ hdl F a := by
      by_cases hwa : w = a
      · subst hwa
        omega
      · omega
    have hn4 : 100 * w + v ≠ hdl F b := by
      by_cases hwb : w = b
      · subst hwb
        omega
      · omega
    rw [ho _ (by omega) (by omega) hn3 hn4]
    exact hC w v q0 q1 hyy q3
  · rw [hi w q0 q1] at q2
    have hwa : w ≠ a := fun q => q2 (by rw [q]; exact hva.2.1)
    have hwb : w ≠ b := fun q => q2 (by rw [q]; exact hbk)
    rw [oh w 0 q0 q1 hwa hwb (by omega) (by omega), oh w 1 q0 q1 hwa hwb (by omega) (by omega), oh w 5 q0 q1 hwa hwb (by omega) (by omega)]
    exact hD w q0 q1 q2
  · by_cases hza : w = hdl F a
    · subst hza
      omega
    · by_cases hzb : w = hdl F b
      · have e100 : w / 100 = b := by omega
        rw [e100, hho b h2 h3 (fun q => hab q.symm)]
        exact ⟨eb1, hzb.symm⟩
      · rw [ho w q0 q1 hza hzb] at q2
        rw [hfo w q0 q1 hza] at q3
        rw [eo_congr (ho w q0 q1 hza hzb)] at q4
        have hg := hG w q0 q1 q2 q3 q4
        have hy1 : w / 100 ≠ a := fun q => hza (by rw [← q]; exact hg.2.symm)
        have hy2 : w / 100 ≠ b := fun q => by
          rw [q] at hg
          omega
        rw [oh (w / 100) 1 (by omega) (by omega) hy1 hy2 (by omega) (by omega), hho (w / 100) (by omega) (by omega) hy1]
        exact hg
  · have hz2 := hH w q0 q1
    by_cases hza : w = hdl F a
    · subst hza
      rw [hfa]
      refine ⟨by rw [eha]; exact Or.inr (by omega), fun q => ⟨by rw [ehb]; omega, ?_, ?_⟩⟩
      · rw [ehb, eha]
        omega
      · unfold eo
        rw [eha]
        omega
    · by_cases hzb : w = hdl F b
      · subst hzb
        rw [ehb, hfb]
        exact ⟨Or.inr (by omega), fun q => absurd q (by omega)⟩
      · rw [ho w q0 q1 hza hzb, hfo w q0 q1 hza, eo_congr (ho w q0 q1 hza hzb)]
        refine ⟨hz2.1, fun q => ?_⟩
        have h2' := hz2.2 q
        have hq : fol F w < 6000 := by
          have := hdE_x hz2.1
          unfold fol
          omega
        have hf2 : fol F w ≠ hdl F b := fun q => by
          rw [q] at h2'
          omega
        by_cases hf3 : fol F w = hdl F a
        · rw [hf3] at h2' ⊢
          rw [eha]
          omega
        · rw [ho _ q hq hf3 hf2]
          exact h2'
  · by_cases hwa : w = a
    · subst hwa
      have e99 : F (29 + 8 * w + 0) = 99 := by
        rw [ea5] at q2
        by_cases q : F (29 + 8 * w + 0) = 99
        · exact q
        · rw [bI_f q] at q2
          omega
      rw [ea0, bI_f (fun z => z e99), e99]
      rfl
    · by_cases hwb : w = b
      · subst hwb
        rw [ob 5 (by omega)] at q2
        rw [ob 0 (by omega)]
        exact hR w q0 q1 q2
      · rw [oh w 5 q0 q1 hwa hwb (by omega) (by omega)] at q2
        rw [oh w 0 q0 q1 hwa hwb (by omega) (by omega)]
        exact hR w q0 q1 q2
  · obtain ⟨d, v, hd, hc2⟩ := hAC w q0 q1
    rcases hch d w v hc2 with q | q
    · exact ⟨d + 1, _, by omega, q⟩
    · exact ⟨d, _, by omega, q⟩
theorem Ch.given {n : Int} {F : Int → Int} (h : J n F) : ∀ {d : Nat} {x z : Int}, Ch F d x z → 0 < F (559 + x) → 0 < F (559 + z)
  | 0, x, z, hc, hx => by rw [← hc.1]; exact hx
  | d + 1, x, z, hc, hx => Ch.given h hc.2.2.2 ((h.2.2.2.2.2.2.1 x hc.1 hc.2.1).2 hc.2.2.1).1
/-- a tag without error: its coat -/
theorem J.tag {n t : Int} {F : Int → Int} (h : J n F) (ht : noT F t = 0) : isTg t ∧ 0 < F (559 + t / 10) ∧ 0 ≤ hkT F t ∧ hkT F t < 60 ∧ F (29 + 8 * hkT F t + 1) = 1 ∧ hdl F (hkT F t) = la F (t / 10) ∧ F (559 + hdl F (hkT F t)) = 1 + 16 * F (29 + 8 * hkT F t + 2) ∧ F (559 + hdl F (hkT F t)) < 512 := by
  have hV := h.1.vd
  unfold noT at ht
  by_cases h1 : isTg t
  · rw [if_neg (fun q => q h1)] at ht
    by_cases h2 : 0 < F (559 + t / 10)
    · rw [if_neg (fun q => q h2)] at ht
      obtain ⟨d, -, hc, -⟩ := h.ac.en (x := t / 10) (by omega) (by omega)
      have hz := hc.z
      have hg := Ch.given h hc h2
      have he : eo F (la F (t / 10)) = 0 := by
        by_cases q : eo F (la F (t / 10)) = 0
        · exact q
        · rw [if_neg q] at ht
          split at ht <;> omega
      have hk := h.2.2.2.2.2.1 (la F (t / 10)) hz.1 hz.2.1 hg hz.2.2 he
      have ha := h.2.1 (la F (t / 10) / 100) (by omega) (by omega) hk.1
      have hw := hV.2.2.2.1 (la F (t / 10) / 100) (by omega) (by omega)
      exact ⟨h1, h2, by unfold hkT; omega, by unfold hkT; omega, hk.1, hk.2, ha.1, by rw [show F (559 + hdl F (hkT F t)) = _ from ha.1]; omega⟩
    · rw [if_pos h2] at ht
      omega
  · rw [if_pos h1] at ht
    omega
/-- rows that agree on handles: the same chains -/
theorem la_congr {n : Int} {F G : Int → Int} (h : J n F) (hg : ∀ j : Int, j = 5 ∨ (559 ≤ j ∧ j < 6559) → G j = F j) {x : Int} (h0 : 0 ≤ x) (h1 : x < 6000) : la G x = la F x ∧ wy G x = wy F x := by
  obtain ⟨d, hd, hc, hw⟩ := h.ac.en h0 h1
  have hc2 := hc.congr (G := G) fun y q0 q1 => fol_congr (hg _ (by omega))
  have e5 := hg 5 (by omega)
  unfold la wy at *
  rw [e5]
  exact ⟨hc2.ls (by omega), (hc2.wy (by omega)).trans hw.symm⟩
theorem hkT_congr {n t : Int} {F G : Int → Int} (h : J n F) (hg : ∀ j : Int, j = 5 ∨ (559 ≤ j ∧ j < 6559) → G j = F j) (h0 : 0 ≤ t) (h1 : t ≤ 59999) : hkT G t = hkT F t := by
  unfold hkT
  rw [(la_congr h hg (by omega) (by omega)).1]
