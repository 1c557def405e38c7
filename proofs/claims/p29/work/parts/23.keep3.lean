/-! ===== a counted end; days; which coat of a guest ===== -/
theorem cnt_h {F : Int → Int} {a j v x : Int} (h0 : 0 ≤ x) (hj : j < 14) : hdl (zup (zup F 11 a) j v) x = hdl F x := hdl_congr (by rw [zup_ne _ _ (by omega), zup_ne _ _ (by omega)])
theorem Vb.cnt {n a j : Int} {F : Int → Int} (h : Vb n F) (hj : 6 ≤ j ∧ j ≤ 10) : Vb (n + 1) (zup (zup F 11 a) j (F j + 1)) := by
  have hc := h.vd.2.1 j (by omega) (by omega) (by omega)
  have hn := h.n0
  exact ((h.mono (m := n + 1) (by omega)).upd fun q => absurd rfl q).set (by omega) (bHi_c _ j (by omega) (by omega)) (by omega)
theorem J.cnt {n a j : Int} {F : Int → Int} (h : J n F) (hj : 6 ≤ j ∧ j ≤ 10) : J (n + 1) (zup (zup F 11 a) j (F j + 1)) :=
  h.cg (fun i hi => by rw [zup_ne _ _ (by omega), zup_ne _ _ (by omega)]) (h.1.cnt hj)
theorem J.cend {n a j x e c : Int} {F : Int → Int} (h : J n F) (hj : 6 ≤ j ∧ j ≤ 10) (h0 : 0 ≤ x) (h1 : x < 60) (hx : F (29 + 8 * x + 1) = 1) (he : 1 ≤ e ∧ e ≤ 3) (hc : 0 ≤ c ∧ c ≤ 9999) : J (n + 3) (enF (zup (zup F 11 a) j (F j + 1)) x e c) := by
  have := (h.cnt (a := a) hj).en (x := x) (e := e) (c := c) h0 h1 (by rw [zup_ne _ _ (by omega), zup_ne _ _ (by omega)]; exact hx) he hc
  rwa [show n + 1 + 2 = n + 3 by omega] at this
theorem J.u {n x : Int} {F : Int → Int} (h : J n F) (h0 : 0 ≤ x) (h1 : x < 60) (hx : F (29 + 8 * x + 1) = 1) : F (559 + hdl F x) < 512 := by
  have := h.2.1 x h0 h1 hx
  have := h.1.vd.2.2.2.1 x h0 h1
  omega
theorem J.cu {n a j v x : Int} {F : Int → Int} (h : J n F) (hj : j < 14) (h0 : 0 ≤ x) (h1 : x < 60) (hx : F (29 + 8 * x + 1) = 1) : zup (zup F 11 a) j v (559 + hdl (zup (zup F 11 a) j v) x) < 512 := by
  have hb := hdl_b h.1.vd h0 h1
  rw [cnt_h h0 hj, zup_ne _ _ (by omega), zup_ne _ _ (by omega)]
  exact h.u h0 h1 hx
theorem J.mono {n m : Int} {F : Int → Int} (h : J n F) (hm : n ≤ m) : J m F := ⟨h.1.mono hm, h.2⟩
theorem J.n0 {n : Int} {F : Int → Int} (h : J n F) : 0 ≤ n := h.1.n0
theorem pdS_s (F : Int → Int) (i : Nat) (P : Int × (Int → Int)) (hP : pdS F i = P) : pdS F (i + 1) = if P.2 (29 + 8 * i + 1) = 1 ∧ P.2 4 < P.2 0 - P.2 (29 + 8 * i + 4) then (P.1 + 1, enF (zup (zup P.2 11 (P.2 11 + 10 * P.2 (29 + 8 * i + 3))) 9 (P.2 9 + 1)) i 3 4) else P := by
  subst hP
  rfl
theorem J.pd {n : Int} {F : Int → Int} (h : J n F) : ∀ i : Nat, i ≤ 60 → J (n + 3 * i) (pdS F i).2 ∧ 0 ≤ (pdS F i).1 ∧ (pdS F i).1 ≤ i
  | 0, _ => ⟨h.mono (by omega), by show (0 : Int) ≤ 0; omega, by show (0 : Int) ≤ 0; omega⟩
  | i + 1, hi => by
    obtain ⟨h1, h2, h3⟩ := J.pd h i (by omega)
    have e : ((i + 1 : Nat) : Int) = (i : Int) + 1 := by omega
    rw [pdS_s F i _ rfl, e]
    split
    · rename_i q
      have := h1.cend (a := (pdS F i).2 11 + 10 * (pdS F i).2 (29 + 8 * i + 3)) (j := 9) (x := i) (e := 3) (c := 4) (by omega) (by omega) (by omega) q.1 (by omega) (by omega)
      exact ⟨this.mono (by omega), by show 0 ≤ (pdS F i).1 + 1; omega, by show (pdS F i).1 + 1 ≤ _; omega⟩
    · exact ⟨h1.mono (by omega), h2, by omega⟩
/-- the day, the rule, the rent and the limit stay while coats leave -/
theorem pdS_lo {n : Int} {F : Int → Int} (h : J n F) {j : Int} (h0 : 0 ≤ j) (hj : j ≤ 4) : ∀ i : Nat, i ≤ 60 → (pdS F i).2 j = F j
  | 0, _ => rfl
  | i + 1, hi => by
    have ih := pdS_lo h h0 hj i (by omega)
    have hJ := (h.pd i (by omega)).1
    rw [pdS_s F i _ rfl]
    split
    · have hb := hdl_b hJ.1.vd (x := i) (by omega) (by omega)
      show enF _ _ _ _ j = _
      have hh := cnt_h (F := (pdS F i).2) (a := (pdS F i).2 11 + 10 * (pdS F i).2 (29 + 8 * i + 3)) (j := 9) (v := (pdS F i).2 9 + 1) (x := i) (by omega) (by omega)
      rw [enF_o (by omega) (by omega) (by omega) (by omega) (by omega) (by omega) (by omega) (by omega) (by rw [hh]; omega), zup_ne _ _ (by omega), zup_ne _ _ (by omega)]
      exact ih
    · exact ih
theorem J.day {n : Int} {F : Int → Int} (h : J n F) (hd : F 0 + 1 ≤ 9999) : J n (zup F 0 (F 0 + 1)) := by
  have := h.1.vd.1
  exact h.set (by omega) (h.1.set (m := 9999) (by omega) rfl (by omega))
theorem psS_s (F : Int → Int) (m : Nat) : psS F (m + 1) = ((psS F m).1 + (pdS (zup (psS F m).2 0 ((psS F m).2 0 + 1)) 60).1, (pdS (zup (psS F m).2 0 ((psS F m).2 0 + 1)) 60).2) := rfl
theorem J.ps {n : Int} {F : Int → Int} (h : J n F) : ∀ m : Nat, F 0 + m ≤ 9999 → J (n + 180 * m) (psS F m).2 ∧ (psS F m).2 0 = F 0 + m ∧ 0 ≤ (psS F m).1 ∧ (psS F m).1 ≤ 60 * m
  | 0, _ => ⟨h.mono (by omega), by show F 0 = F 0 + 0; omega, by show (0 : Int) ≤ 0; omega, by show (0 : Int) ≤ 0; omega⟩
  | m + 1, hm => by
    have e : ((m + 1 : Nat) : Int) = (m : Int) + 1 := by omega
    obtain ⟨h1, h2, h3, h4⟩ := J.ps h m (by omega)
    have hd := h1.day (by omega)
    obtain ⟨g1, g2, g3⟩ := hd.pd 60 (by omega)
    have g4 := pdS_lo hd (j := 0) (by omega) (by omega) 60 (by omega)
    rw [zup_eq] at g4
    rw [e, psS_s]
    generalize pdS (zup (psS F m).2 0 ((psS F m).2 0 + 1)) 60 = P at g1 g2 g3 g4 ⊢
    refine ⟨g1.mono (by omega), ?_, ?_, ?_⟩
    · show P.2 0 = _
      omega
    · show 0 ≤ (psS F m).1 + P.1
      omega
    · show (psS F m).1 + P.1 ≤ _
      omega
theorem cGv_b (F : Int → Int) (y : Int) : ∀ n : Nat, 0 ≤ cGv F y n ∧ cGv F y n ≤ n
  | 0 => ⟨by show (0 : Int) ≤ 0; omega, by show (0 : Int) ≤ 0; omega⟩
  | n + 1 => by
    have := cGv_b F y n
    have hb := bI_b (isGv F y n)
    show 0 ≤ cGv F y n + bI _ ∧ cGv F y n + bI _ ≤ _
    omega
theorem cGv_s (F : Int → Int) (y : Int) (n : Nat) : cGv F y (n + 1) = cGv F y n + bI (isGv F y n) := rfl
theorem gvx_s (F : Int → Int) (y p : Int) (n : Nat) : gvx F y p (n + 1) = if 0 ≤ gvx F y p n then gvx F y p n else if isGv F y n ∧ cGv F y n = p then (n : Int) else -1 := rfl
theorem gvx_keep {F : Int → Int} {y p : Int} {n : Nat} (h : 0 ≤ gvx F y p n) : ∀ k : Nat, gvx F y p (n + k) = gvx F y p n
  | 0 => rfl
  | k + 1 => by
    show gvx F y p (n + k + 1) = _
    rw [gvx_s, gvx_keep h k, if_pos h]
theorem gvx_at {F : Int → Int} {y p : Int} {n : Nat} (h : gvx F y p n = -1) (hg : isGv F y n) (hc : cGv F y n = p) (hn : n < 60) : gvx F y p 60 = n := by
  have h1 : gvx F y p (n + 1) = n := by rw [gvx_s, if_neg (by omega), if_pos ⟨hg, hc⟩]
  have h2 := gvx_keep (n := n + 1) (by rw [h1]; omega) (59 - n)
  rw [show n + 1 + (59 - n) = 60 by omega] at h2
  rw [h2, h1]
theorem gvx_no {F : Int → Int} {y p : Int} {n : Nat} (h : gvx F y p n = -1) (hg : ¬ (isGv F y n ∧ cGv F y n = p)) : gvx F y p (n + 1) = -1 := by
  rw [gvx_s, if_neg (by omega), if_neg hg]
theorem sD_s (F : Int → Int) (y : Int) (n : Nat) : sD F y (n + 1) = sD F y n + (if isGv F y n then duF F n else 0) := rfl
