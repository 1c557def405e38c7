/-! ===== bounds kept ===== -/
theorem bI_b (p : Prop) [Decidable p] : 0 ≤ bI p ∧ bI p ≤ 1 := by unfold bI; split <;> omega
theorem bLo_0 {j : Int} (h : j ≠ 4) : bLo j = 0 := if_neg h
theorem Vb.set {n : Int} {F : Int → Int} (h : Vb n F) {i v m : Int} (h4 : i ≠ 4) (hm : bHi n i = m) (hv : 0 ≤ v ∧ v ≤ m) : Vb n (zup F i v) := h.upd fun _ => by
  rw [bLo_0 h4, hm]
  exact hv
theorem Vb.n0 {n : Int} {F : Int → Int} (h : Vb n F) : 0 ≤ n := by
  have := h.vd.2.1 5 (by omega) (by omega) (by omega)
  omega
theorem Vb.lv {n x : Int} {F : Int → Int} (h : Vb n F) (h0 : 0 ≤ x) (h1 : x < 60) : Vb (n + 1) (lvF F x) := by
  have hk := h.vd.2.2.2.1 x h0 h1
  have hc := h.vd.2.1 12 (by omega) (by omega) (by omega)
  have hn := h.n0
  have hb := bI_b (F (29 + 8 * x + 0) = 99)
  have hy : 0 ≤ F (29 + 8 * x + 0) + bI (¬ F (29 + 8 * x + 0) = 99) ∧ F (29 + 8 * x + 0) + bI (¬ F (29 + 8 * x + 0) = 99) ≤ 99 := by
    unfold bI
    split <;> omega
  unfold lvF
  refine ((((((h.mono (m := n + 1) (by omega)).set (by omega) (bHi_h1 _ x h0 h1) (by omega)).set (by omega) (bHi_h5 _ x h0 h1) hb).set (by omega) (bHi_h0 _ x h0 h1) hy).set (by omega) (bHi_h6 _ x h0 h1) (by omega)).set (by omega) (bHi_c _ 12 (by omega) (by omega)) (by omega)).set (by omega) (bHi_h7 _ x h0 h1) (by omega)
theorem Vb.hg {n x y z d : Int} {F : Int → Int} (h : Vb n F) (h0 : 0 ≤ x) (h1 : x < 60) (hy : 0 ≤ y ∧ y ≤ 19) (hz : 0 ≤ z ∧ z ≤ 5) (hd : 0 ≤ d ∧ d ≤ 9999) : Vb (n + 1) (hgF F x y z d) := by
  have hb := hdl_b h.vd h0 h1
  have hc := h.vd.2.1 5 (by omega) (by omega) (by omega)
  have hn := h.n0
  unfold hgF
  refine ((((((h.mono (m := n + 1) (by omega)).set (by omega) (bHi_h1 _ x h0 h1) (by omega)).set (by omega) (bHi_h2 _ x h0 h1) hy).set (by omega) (bHi_h3 _ x h0 h1) hz).set (by omega) (bHi_h4 _ x h0 h1) hd).set (by omega) (bHi_t _ _ hb.1 (by omega)) (by omega)).set (by omega) (bHi_c _ 5 (by omega) (by omega)) (by omega)
theorem Vb.lg {n c e : Int} {F : Int → Int} (h : Vb n F) (hc : 0 ≤ c ∧ c ≤ 9999) (he : 0 ≤ e ∧ e ≤ 9999) : Vb (n + 1) (lgF F c e) := by
  have h13 := h.vd.2.1 13 (by omega) (by omega) (by omega)
  have hs := h.vd.1
  have hn := h.n0
  have e0 : ∀ i : Int, i = 0 ∨ i = 1 ∨ i = 2 → bHi (n + 1) (529 + 3 * (F 13 % 10) + i) = 9999 := fun i hi => by
    rw [show 529 + 3 * (F 13 % 10) + i = 529 + (3 * (F 13 % 10) + i) by omega]
    exact bHi_l _ _ (by omega) (by omega)
  unfold lgF
  refine ((((h.mono (m := n + 1) (by omega)).set (by omega) (by have := e0 0 (by omega); rwa [Int.add_zero] at this) hc).set (by omega) (e0 1 (by omega)) he).set (by omega) (e0 2 (by omega)) (by omega)).set (by omega) (bHi_c _ 13 (by omega) (by omega)) (by omega)
theorem Vb.en {n x e c : Int} {F : Int → Int} (h : Vb n F) (h0 : 0 ≤ x) (h1 : x < 60) (he : 0 ≤ e ∧ e ≤ 3) (hc : 0 ≤ c ∧ c ≤ 9999) (hu : F (559 + hdl F x) < 512) : Vb (n + 2) (enF F x e c) := by
  have hb := hdl_b h.vd h0 h1
  have hh := h.vd.2.2.2.2.2.2 (hdl F x) hb.1 (by omega)
  unfold enF
  have := ((h.set (i := 559 + hdl F x) (v := F (559 + hdl F x) + 2 * e) (by omega) (bHi_t _ _ hb.1 (by omega)) (by omega)).lv h0 h1).lg (c := c) (e := hdl F x) hc (by omega)
  rwa [show n + 1 + 1 = n + 2 by omega] at this
theorem hdl_lv {a b : Int} {F : Int → Int} (hab : a ≠ b) : hdl (lvF F a) b = hdl F b := hdl_congr (lvF_o (by omega) (by omega) (by omega) (by omega) (by omega) (by omega))
theorem hdl_ne {n a b : Int} {F : Int → Int} (h : Vd n F) (h0 : 0 ≤ a) (h1 : a < 60) (h2 : 0 ≤ b) (h3 : b < 60) (hab : a ≠ b) : hdl F a ≠ hdl F b := by
  have := h.2.2.2.1 a h0 h1
  have := h.2.2.2.1 b h2 h3
  unfold hdl
  omega
theorem Vb.dm {n a b : Int} {F : Int → Int} (h : Vb n F) (h0 : 0 ≤ a) (h1 : a < 60) (h2 : 0 ≤ b) (h3 : b < 60) (hab : a ≠ b) (hu : F (559 + hdl F a) < 512) : Vb (n + 3) (dmU F a b) := by
  have ha := h.vd.2.2.2.1 a h0 h1
  have hba := hdl_b h.vd h0 h1
  have hbb := hdl_b h.vd h2 h3
  have hh := h.vd.2.2.2.2.2.2 (hdl F a) hba.1 (by omega)
  have h10 := h.vd.2.1 10 (by omega) (by omega) (by omega)
  have hn := h.n0
  have hne := hdl_ne h.vd h0 h1 h2 h3 hab
  unfold dmU
  have := ((((h.lv h0 h1).hg (x := b) (y := F (29 + 8 * a + 2)) (z := F (29 + 8 * a + 3)) (d := F (29 + 8 * a + 4)) h2 h3 (by omega) (by omega) (by omega)).set (i := 559 + hdl F a) (v := F (559 + hdl F a) + 512 * (hdl F b + 1)) (by omega) (bHi_t _ _ hba.1 (by omega)) (by omega)).set (i := 10) (v := F 10 + 1) (by omega) (bHi_c _ 10 (by omega) (by omega)) (by omega)).lg (c := 1) (e := hdl F b) (by omega) (by omega)
  rwa [show n + 1 + 1 + 1 = n + 3 by omega] at this
