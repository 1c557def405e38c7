/-! ===== what the acts keep ===== -/
section S61
variable {E : gE} {B S : Nat} {h0 h : gH} {X : Nat → SC} {T : TC} {i : Nat} {Y : SC} {F t : Int → Int} {A : Nat → Nat} {N : Nat} {V : Nat → Int → Int} {Q : Option Value → gH → Prop}
theorem RI.cg (hR : RI F t N V) {G : Int → Int} (hg : ∀ j : Int, j = 5 ∨ (29 ≤ j ∧ j < 509) ∨ (559 ≤ j ∧ j < 6559) → G j = F j) : RI G t N V := by
  have e5 := hg 5 (by omega)
  refine ⟨by rw [e5]; exact hR.1, fun e e0 e1 => ?_, fun e g e0 e1 g0 g1 q => ?_, fun z z0 z1 hz => ?_, fun x x0 x1 => ?_⟩
  · rw [e5] at e1 ⊢
    have hv := hR.2.1 e e0 e1
    rw [hg _ (by omega)]
    exact hv
  · rw [e5] at e1 g1
    exact hR.2.2.1 e g e0 e1 g0 g1 q
  · rw [e5]
    rw [hg _ (by omega)] at hz
    exact hR.2.2.2.1 z z0 z1 hz
  · rw [e5, hg (29 + 8 * x + 1) (by omega), hdl_congr (hg (29 + 8 * x + 0) (by omega))]
    exact hR.2.2.2.2 x x0 x1
theorem RI.ag (hR : RI F t N V) {x y : Int} (x0 : 0 ≤ x) (x1 : x < 60) (hx : ¬ F (29 + 8 * x + 1) = 1) : RI (u_ag F x y) t N V := by
  have e : ∀ j : Int, j ≠ 29 + 8 * x + 0 → u_ag F x y j = F j := fun j hj => zup_ne _ _ hj
  have e5 := e 5 (by omega)
  refine ⟨by rw [e5]; exact hR.1, fun a e0 e1 => ?_, fun a g e0 e1 g0 g1 q => ?_, fun z z0 z1 hz => ?_, fun n n0 n1 => ?_⟩
  · rw [e5] at e1 ⊢
    have hv := hR.2.1 a e0 e1
    rw [e _ (by omega)]
    exact hv
  · rw [e5] at e1 g1
    exact hR.2.2.1 a g e0 e1 g0 g1 q
  · rw [e5]
    rw [e _ (by omega)] at hz
    exact hR.2.2.2.1 z z0 z1 hz
  · rw [e5, e (29 + 8 * n + 1) (by omega)]
    by_cases q : n = x
    · subst q
      exact ⟨fun z => absurd z hx, (hR.2.2.2.2 n n0 n1).2⟩
    · rw [hdl_congr (e (29 + 8 * n + 0) (by omega))]
      exact hR.2.2.2.2 n n0 n1
/-- rows that agree but for racks -/
theorem J.ck {n m : Int} {F G : Int → Int} (hg : ∀ j : Int, j = 5 ∨ (29 ≤ j ∧ j < 509) ∨ (559 ≤ j ∧ j < 6559) → G j = F j) (hi : ∀ x : Int, 0 ≤ x → x < 60 → isHk F x → isHk G x) (hVG : Vb m G) (h : J n F) : J m G := by
  have hh : ∀ x : Int, 0 ≤ x → x < 60 → hdl G x = hdl F x := fun x h0 h1 => hdl_congr (hg _ (by omega))
  have hb : ∀ x : Int, 0 ≤ x → x < 60 → 0 ≤ hdl F x ∧ hdl F x < 6000 := fun x h0 h1 => by
    have := h.1.vd.2.2.2.1 x h0 h1
    unfold hdl
    omega
  have hf : ∀ x : Int, 0 ≤ x → x < 6000 → fol G x = fol F x := fun x h0 h1 => fol_congr (hg _ (by omega))
  have he : ∀ x : Int, 0 ≤ x → x < 6000 → eo G x = eo F x := fun x h0 h1 => eo_congr (hg _ (by omega))
  obtain ⟨hV, hA, hB, hC, hD, hG, hH, hR, hAC⟩ := h
  refine ⟨hVG, fun x h0 h1 h2 => ?_, fun x h0 h1 h2 h3 => ?_, fun x y h0 h1 h2 h3 => ?_, fun x h0 h1 h2 => ?_, fun z h0 h1 h2 h3 h4 => ?_, fun z h0 h1 => ?_, fun x h0 h1 h2 => ?_, fun x h0 h1 => ?_⟩
  · have b := hb x h0 h1
    rw [hh x h0 h1, hg (559 + hdl F x) (by omega), hg (29 + 8 * x + 2) (by omega), hg (29 + 8 * x + 5) (by omega)]
    rw [hg _ (by omega)] at h2
    have := hA x h0 h1 h2
    exact ⟨this.1, hi x h0 h1 this.2.1, this.2.2⟩
  · have b := hb x h0 h1
    rw [hg _ (by omega)] at h2 h3
    rw [hh x h0 h1, hg (559 + hdl F x) (by omega)]
    exact hB x h0 h1 h2 h3
  · have b := hV.vd.2.2.2.1 x h0 h1
    rw [hg _ (by omega)] at h2
    rw [hg (559 + (100 * x + y)) (by omega)]
    exact hC x y h0 h1 h2 h3
  · rw [hg (29 + 8 * x + 0) (by omega), hg (29 + 8 * x + 1) (by omega), hg (29 + 8 * x + 5) (by omega)]
    exact hD x h0 h1 fun q => h2 (hi x h0 h1 q)
  · rw [hg _ (by omega)] at h2
    rw [hf z h0 h1] at h3
    rw [he z h0 h1] at h4
    rw [hg (29 + 8 * (z / 100) + 1) (by omega), hh (z / 100) (by omega) (by omega)]
    exact hG z h0 h1 h2 h3 h4
  · have b := fol_b hV.vd h0 h1
    have c := hH z h0 h1
    rw [hf z h0 h1, he z h0 h1, hg (559 + z) (by omega)]
    refine ⟨c.1, fun q => ?_⟩
    have hq : fol F z < 6000 := by
      have := hdE_x c.1
      unfold fol
      omega
    rw [hg (559 + fol F z) (by omega)]
    exact c.2 q
  · rw [hg _ (by omega)] at h2
    rw [hg (29 + 8 * x + 0) (by omega)]
    exact hR x h0 h1 h2
  · obtain ⟨d, z, hd, hc⟩ := hAC x h0 h1
    rw [hg 5 (by omega)]
    exact ⟨d, z, hd, hc.congr hf⟩
theorem J.ar {n a b : Int} {F : Int → Int} (h : J n F) (h4 : F 1 ≤ 4) (ha : 0 ≤ a ∧ a ≤ 12) (hb : 0 ≤ b ∧ b ≤ 5) : J n (u_ar F a b) := by
  have hs := h.vd.1
  have e : ∀ j : Int, j ≠ 1 → ¬ (14 + 3 * F 1 ≤ j ∧ j < 14 + 3 * F 1 + 3) → u_ar F a b j = F j := fun j q0 q1 => by
    unfold u_ar
    rw [zup_ne _ _ q0, zup_ne _ _ (by omega), zup_ne _ _ (by omega), zup_ne _ _ (by omega)]
  have e1 : u_ar F a b 1 = F 1 + 1 := zup_eq _ _ _
  refine h.ck (fun j hj => e j (by omega) (by omega)) (fun x x0 x1 ⟨q0, q1, q2, q3⟩ => ⟨q0, q1, by omega, by rw [e _ (by omega) (by omega)]; exact q3⟩) ?_
  unfold u_ar
  exact (((h.1.set (by omega) (bHi_r0 n (F 1) (by omega) (by omega)) (by omega)).set (by omega) (bHi_r1 n (F 1) (by omega) (by omega)) (by omega)).set (by omega) (bHi_r2 n (F 1) (by omega) (by omega)) (by omega)).set (m := 5) (by omega) rfl (by omega)
theorem J.op {n r o : Int} {F : Int → Int} (h : J n F) (r0 : 0 ≤ r) (r1 : r < 5) (ho : 0 ≤ o ∧ o ≤ 1) : J n (u_op F r o) := by
  have e : ∀ j : Int, j ≠ 14 + 3 * r + 2 → u_op F r o j = F j := fun j q0 => zup_ne _ _ q0
  exact h.ck (fun j hj => e j (by omega)) (fun x x0 x1 ⟨q0, q1, q2, q3⟩ => ⟨q0, q1, by rw [e _ (by omega)]; exact q2, by rw [e _ (by omega)]; exact q3⟩) (h.1.set (by omega) (bHi_r2 n r r0 r1) (by omega))
theorem J.ag {n x y : Int} {F : Int → Int} (h : J n F) (x0 : 0 ≤ x) (x1 : x < 60) (hk : isHk F x) (hy : F (29 + 8 * x + 0) < y) (hy2 : y ≤ 99) (hx : F (29 + 8 * x + 1) = 0) (hr : F (29 + 8 * x + 5) = 0) : J n (u_ag F x y) := by
  have e : ∀ j : Int, j ≠ 29 + 8 * x + 0 → u_ag F x y j = F j := fun j q0 => zup_ne _ _ q0
  have ex : u_ag F x y (29 + 8 * x + 0) = y := zup_eq _ _ _
  have hb := fun z (q0 : 0 ≤ z) (q1 : z < 60) => hdl_b h.1.vd q0 q1
  have hy0 := (h.vd.2.2.2.1 x x0 x1).1
  have hV2 : Vb n (u_ag F x y) := h.1.set (by omega) (bHi_h0 n x x0 x1) (by omega)
  have hf : ∀ z : Int, 0 ≤ z → z < 6000 → fol (u_ag F x y) z = fol F z := fun z h0 h1 => fol_congr (e _ (by omega))
  have hh : ∀ z : Int, 0 ≤ z → z < 60 → z ≠ x → hdl (u_ag F x y) z = hdl F z := fun z h0 h1 q => hdl_congr (e _ (by omega))
  have hi : ∀ z : Int, 0 ≤ z → z < 60 → (isHk (u_ag F x y) z ↔ isHk F z) := fun z h0 h1 => by
    unfold isHk
    rw [e 1 (by omega), e (14 + 3 * (z / 12) + 0) (by omega)]
  obtain ⟨hV, hA, hB, hC, hD, hG, hH, hR, hAC⟩ := h
  refine ⟨hV2, fun z h0 h1 h2 => ?_, fun z h0 h1 h2 h3 => ?_, fun z w h0 h1 h2 h3 => ?_, fun z h0 h1 h2 => ?_, fun z h0 h1 h2 h3 h4 => ?_, fun z h0 h1 => ?_, fun z h0 h1 h2 => ?_, fun z h0 h1 => ?_⟩
  · rw [e _ (by omega)] at h2
    have hzx : z ≠ x := fun q => by subst q; omega
    have b := hb z h0 h1
    rw [hh z h0 h1 hzx, hi z h0 h1, e (559 + hdl F z) (by omega), e (29 + 8 * z + 2) (by omega), e (29 + 8 * z + 5) (by omega)]
    exact hA z h0 h1 h2
  · rw [e _ (by omega)] at h2 h3
    by_cases q : z = x
    · subst q
      have eh : hdl (u_ag F z y) z = 100 * z + y := by
        unfold hdl
        rw [ex]
      rw [eh, e _ (by omega)]
      exact hC z y h0 h1 hy hy2
    · have b := hb z h0 h1
      rw [hh z h0 h1 q, e _ (by omega)]
      exact hB z h0 h1 h2 h3
  · have b := hV.vd.2.2.2.1 z h0 h1
    have hlt : F (29 + 8 * z + 0) < w := by
      by_cases q : z = x
      · subst q
        omega
      · rw [e _ (by omega)] at h2
        exact h2
    rw [e (559 + (100 * z + w)) (by omega)]
    exact hC z w h0 h1 hlt h3
  · rw [hi z h0 h1] at h2
    have hzx : z ≠ x := fun q => h2 (by rw [q]; exact hk)
    rw [e (29 + 8 * z + 0) (by omega), e (29 + 8 * z + 1) (by omega), e (29 + 8 * z + 5) (by omega)]
    exact hD z h0 h1 h2
  · rw [e _ (by omega)] at h2
    rw [hf z h0 h1] at h3
    rw [eo_congr (e _ (by omega))] at h4
    have hg := hG z h0 h1 h2 h3 h4
    have hzx : z / 100 ≠ x := fun q => by
      rw [q] at hg
      omega
    rw [e (29 + 8 * (z / 100) + 1) (by omega), hh (z / 100) (by omega) (by omega) hzx]
    exact hg
  · have c := hH z h0 h1
    rw [hf z h0 h1, eo_congr (e (559 + z) (by omega)), e (559 + z) (by omega)]
    refine ⟨c.1, fun q => ?_⟩
    have b := fol_b hV.vd h0 h1
    rw [e (559 + fol F z) (by omega)]
    exact c.2 q
  · rw [e _ (by omega)] at h2
    have hzx : z ≠ x := fun q => by subst q; omega
    rw [e (29 + 8 * z + 0) (by omega)]
    exact hR z h0 h1 h2
  · obtain ⟨d, w, hd, hc⟩ := hAC z h0 h1
    rw [e 5 (by omega)]
    exact ⟨d, w, hd, hc.congr hf⟩
theorem J.st {n w v : Int} {F : Int → Int} (h : J n F) (ho : okSt w v) : J n (u_st F w v) := by
  refine h.set (by omega) (h.1.upd fun _ => ?_)
  rcases ho with ⟨rfl, q⟩ | ⟨rfl, q⟩ | ⟨rfl, q⟩
  · rw [show bLo (2 + 0) = 0 from rfl, show bHi n (2 + 0) = 3 from rfl]
    exact q
  · rw [show bLo (2 + 1) = 0 from rfl, show bHi n (2 + 1) = 50 from rfl]
    exact q
  · rw [show bLo (2 + 2) = 1 from rfl, show bHi n (2 + 2) = 99 from rfl]
    exact q
theorem bst_fr {F : Int → Int} {z : Int} : ∀ m : Nat, ¬ bst F z m = -5 → isFr F (bst F z m) z
  | 0, h => absurd rfl h
  | m + 1, h => by
    have e : bst F z (m + 1) = if isFr F m z ∧ (bst F z m = -5 ∨ rk F m < rk F (bst F z m)) then (m : Int) else bst F z m := rfl
    rw [e] at h ⊢
    by_cases q : isFr F m z ∧ (bst F z m = -5 ∨ rk F m < rk F (bst F z m))
    · rw [if_pos q]
      exact q.1
    · rw [if_neg q] at h ⊢
      exact bst_fr m h
theorem J.tk {n x y z : Int} {F : Int → Int} (h : J n F) (hf : isFr F x z) (hy : 0 ≤ y ∧ y ≤ 19) (hz : 0 ≤ z ∧ z ≤ 5) : J (n + 4) (u_tk F x y z) := by
  have hs := h.vd.1
  have hx := h.vd.2.2.2.1 x (by omega) (by omega)
  have hb := hdl_b h.vd (x := x) (by omega) (by omega)
  have hg := h.hg (x := x) (y := y) (z := z) (d := F 0) (by omega) (by omega) (by omega) hf.2.2.1 hf.1 hy hz (by omega)
  have hgu := h.vd.2.2.2.2.1 y (by omega) (by omega)
  have h6 := h.vd.2.1 6 (by omega) (by omega) (by omega)
  have hn := h.n0
  have v1 : Vb (n + 2) (zup (hgF F x y z (F 0)) (509 + y) (F (509 + y) + 1)) := (hg.1.mono (m := n + 2) (by omega)).set (by omega) (bHi_g _ y (by omega) (by omega)) (by omega)
  have j1 : J (n + 2) (zup (hgF F x y z (F 0)) (509 + y) (F (509 + y) + 1)) := hg.set (by omega) v1
  have v2 : Vb (n + 3) (zup (zup (hgF F x y z (F 0)) (509 + y) (F (509 + y) + 1)) 6 (F 6 + 1)) := (v1.mono (m := n + 3) (by omega)).set (by omega) (bHi_c _ 6 (by omega) (by omega)) (by omega)
  have j2 : J (n + 3) (zup (zup (hgF F x y z (F 0)) (509 + y) (F (509 + y) + 1)) 6 (F 6 + 1)) := j1.set (by omega) v2
  have := j2.lg (c := 0) (e := hdl F x) (by omega) (by omega)
  rw [show n + 3 + 1 = n + 4 by omega] at this
  exact this
theorem J.gv {n x : Int} {F : Int → Int} (h : J n F) (h0 : 0 ≤ x) (h1 : x < 60) (hx : F (29 + 8 * x + 1) = 1) : J (n + 3) (u_gv F x) := h.cend (j := 8) (by omega) h0 h1 hx (by omega) (by omega)
theorem J.sh {n : Int} {F : Int → Int} (h : J n F) : J n (shF F 6000) := by
  have hAC := h.ac
  have hV2 := shF_Vb h.1 hAC 6000
  have hJ := h
  obtain ⟨hV, hA, hB, hC, hD, hG, hH, hR, _⟩ := h
  have lo : ∀ j : Int, j < 559 → shF F 6000 j = F j := fun j hj => shF_lo (by omega)
  have hh : ∀ x : Int, 0 ≤ x → x < 60 → hdl (shF F 6000) x = hdl F x := fun x h0 h1 => hdl_congr (lo _ (by omega))
  have hb : ∀ x : Int, 0 ≤ x → x < 60 → 0 ≤ hdl F x ∧ hdl F x < 6000 := fun x h0 h1 => by
    have := hdl_b hV.vd h0 h1
    omega
  -- handles that nothing follows are what they were
  have hk : ∀ z : Int, 0 ≤ z → z < 6000 → fol F z < 0 → shF F 6000 (559 + z) = F (559 + z) := fun z h0 h1 h2 => by
    obtain ⟨d, hd, hc, hw⟩ := hAC.en h0 h1
    refine shF_no ?_
    cases d with
    | zero => omega
    | succ d =>
      have := hc.2.2.1
      omega
  have hz0 : ∀ z : Int, 0 ≤ z → z < 6000 → F (559 + z) = 0 → shF F 6000 (559 + z) = 0 := fun z h0 h1 h2 => by
    rw [hk z h0 h1 (by unfold fol; omega)]
    exact h2
  have hi : ∀ x : Int, 0 ≤ x → x < 60 → (isHk (shF F 6000) x ↔ isHk F x) := fun x h0 h1 => by
    unfold isHk
    rw [lo 1 (by omega), lo (14 + 3 * (x / 12) + 0) (by omega)]
  -- an entry is what it was, or leads to the end at once
  have hs : ∀ z : Int, 0 ≤ z → z < 6000 → shF F 6000 (559 + z) = F (559 + z) ∨ (shF F 6000 (559 + z) = F (559 + z) % 512 + 512 * (la F z + 1) ∧ 1 < wy F z) := fun z h0 h1 => by
    by_cases q : 1 < wy F z
    · exact Or.inr ⟨shF_at ⟨h0, h1⟩ q, q⟩
    · exact Or.inl (shF_no q)
  refine ⟨hV2, fun x h0 h1 h2 => ?_, fun x h0 h1 h2 h3 => ?_, fun x y h0 h1 h2 h3 => ?_, fun x h0 h1 h2 => ?_, fun z h0 h1 h2 h3 h4 => ?_, fun z h0 h1 => ?_, fun x h0 h1 h2 => ?_, shF_AC hAC⟩
  · have b := hb x h0 h1
    rw [lo _ (by omega)] at h2
    have ha := hA x h0 h1 h2
    have hw := (hV.vd.2.2.2.1 x h0 h1).2.2.1
    rw [hh x h0 h1, hi x h0 h1, hk _ b.1 b.2 (by unfold fol; omega), lo (29 + 8 * x + 2) (by omega), lo (29 + 8 * x + 5) (by omega)]
    exact ha
  · have b := hb x h0 h1
    rw [lo _ (by omega)] at h2 h3
    rw [hh x h0 h1]
    exact hz0 _ b.1 b.2 (hB x h0 h1 h2 h3)
  · have b := hV.vd.2.2.2.1 x h0 h1
    rw [lo _ (by omega)] at h2
    exact hz0 _ (by omega) (by omega) (hC x y h0 h1 h2 h3)
  · rw [hi x h0 h1] at h2
    rw [lo (29 + 8 * x + 0) (by omega), lo (29 + 8 * x + 1) (by omega), lo (29 + 8 * x + 5) (by omega)]
    exact hD x h0 h1 h2
  · have hlb := hAC.b h0 h1
    rcases hs z h0 h1 with q | ⟨q, q2⟩
    · rw [q] at h2
      rw [fol_congr q] at h3
      rw [eo_congr q] at h4
      rw [lo (29 + 8 * (z / 100) + 1) (by omega), hh (z / 100) (by omega) (by omega)]
      exact hG z h0 h1 h2 h3 h4
    · unfold fol at h3
      rw [q] at h3
      omega
  · have c := hH z h0 h1
    have hlb := hAC.b h0 h1
    rcases hs z h0 h1 with q | ⟨q, q2⟩
    · rw [q, fol_congr q, eo_congr q]
      refine ⟨c.1, fun w => ?_⟩
      have c2 := c.2 w
      have hq : fol F z < 6000 := by
        have := hdE_x c.1
        unfold fol
        omega
      rcases hs (fol F z) w hq with r | ⟨r, r2⟩
      · rw [r]
        exact c2
      · have hlb2 := hAC.b w hq
        rw [r]
        omega
    · obtain ⟨d, hd, hc, hw⟩ := hAC.en h0 h1
      have hpos : 0 < F (559 + z) := by
        cases d with
        | zero => omega
        | succ d =>
          have := hc.2.2.1
          unfold fol at this
          omega
      have hfo : 0 ≤ fol F z := by
        cases d with
        | zero => omega
        | succ d => exact hc.2.2.1
      have hgl := Ch.given hJ hc hpos
      have hol := Ch.own hJ hc
      have hzl := hc.z
      have hkl := hk (la F z) hzl.1 hzl.2.1 hzl.2.2
      have hfl : fol (shF F 6000) z = la F z := by
        unfold fol
        rw [q]
        omega
      have hel := c.2 hfo
      have hez : eo (shF F 6000) z = 0 := by
        have := hel.2.2
        unfold eo at this ⊢
        rw [q]
        omega
      rw [hfl, hkl, hez, q]
      have hh1 := c.1
      refine ⟨Or.inr ?_, fun _ => ⟨hgl, ?_, rfl⟩⟩
      · rcases hh1 with w | w <;> omega
      · omega
  · rw [lo _ (by omega)] at h2
    rw [lo (29 + 8 * x + 0) (by omega)]
    exact hR x h0 h1 h2
end S61
