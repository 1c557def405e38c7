/-! ===== what the law's checks rest on, and that acts keep it ===== -/
/-- an event of the log: its kind, its handle, its day -/
def yLS (F : Int → Int) (s : Int) : Prop := (0 ≤ F (529 + 3 * s) ∧ F (529 + 3 * s) ≤ 4) ∧ (0 ≤ F (529 + 3 * s + 1) ∧ F (529 + 3 * s + 1) < 6000) ∧ 0 < F (559 + F (529 + 3 * s + 1)) ∧ F (529 + 3 * s + 2) ≤ F 0 ∧
  (2 ≤ F (529 + 3 * s) → fol F (F (529 + 3 * s + 1)) < 0 ∧ eo F (F (529 + 3 * s + 1)) = F (529 + 3 * s) - 1)
def yLG (F : Int → Int) : Prop := ∀ b : Int, 0 ≤ b → b < 10 → b < F 13 → yLS F ((F 13 - 1 - b) % 10)
def ySz (F : Int → Int) : Prop := ∀ x : Int, 0 ≤ x → x < 60 → F (29 + 8 * x + 1) = 1 → F (29 + 8 * x + 3) ≤ F (14 + 3 * (x / 12) + 1)
def yDy (F : Int → Int) : Prop := ∀ x : Int, 0 ≤ x → x < 60 → F (29 + 8 * x + 1) = 1 → F 0 - F (29 + 8 * x + 4) ≤ 99
def yNh (F : Int → Int) : Prop := ∀ x : Int, 0 ≤ x → x < 60 → ¬ isHk F x → F (29 + 8 * x + 6) = 0
def yCt (F : Int → Int) : Prop := sm (fun y => F (509 + y)) 20 = F 6 ∧ F 6 = sm (fun x => F (29 + 8 * x + 1)) 60 + F 7 + F 8 + F 9 ∧ F 5 = F 6 + F 10 ∧ sm (fun x => F (29 + 8 * x + 6)) 60 = F 7 + F 8 + F 9 + F 10 ∧ F 13 = F 6 + F 7 + F 8 + F 9 + F 10
def yPQ (F : Int → Int) : Prop := ySz F ∧ yNh F ∧ yCt F ∧ yLG F
def yPP (F : Int → Int) : Prop := yPQ F ∧ yDy F
section S71
variable {F E : Int → Int} {n : Int}
/-- handles stay handles; those that have ended stay as they are -/
def yHZ (F E : Int → Int) : Prop := ∀ z : Int, 0 ≤ z → z < 6000 → 0 < F (559 + z) → 0 < E (559 + z) ∧ (fol F z < 0 → ¬ eo F z = 0 → fol E z < 0 ∧ eo E z = eo F z)
theorem yHZ.of (h : ∀ z : Int, 0 ≤ z → z < 6000 → E (559 + z) = F (559 + z)) : yHZ F E := fun z z0 z1 z2 => ⟨by rw [h z z0 z1]; exact z2, fun q1 _ => ⟨by rw [fol_congr (h z z0 z1)]; exact q1, eo_congr (h z z0 z1)⟩⟩
theorem yLS.to {s : Int} (h : yLS F s) (e0 : E (529 + 3 * s) = F (529 + 3 * s)) (e1 : E (529 + 3 * s + 1) = F (529 + 3 * s + 1)) (e2 : E (529 + 3 * s + 2) = F (529 + 3 * s + 2)) (h0 : F 0 ≤ E 0) (hz : yHZ F E) : yLS E s := by
  unfold yLS at h ⊢
  rw [e0, e1, e2]
  obtain ⟨a, b, c, d, e⟩ := h
  have z := hz _ b.1 b.2 c
  refine ⟨a, b, z.1, by omega, fun q => ?_⟩
  have e3 := e q
  have z2 := z.2 e3.1 (by omega)
  exact ⟨z2.1, by rw [z2.2]; exact e3.2⟩
theorem yLG.keep (h : yLG F) (h13 : E 13 = F 13) (hs : ∀ j : Int, 529 ≤ j → j < 559 → E j = F j) (h0 : F 0 ≤ E 0) (hz : yHZ F E) : yLG E := fun b b0 b1 b2 => by
  rw [h13] at b2 ⊢
  have h1 := h b b0 b1 b2
  have hb : 0 ≤ (F 13 - 1 - b) % 10 ∧ (F 13 - 1 - b) % 10 < 10 := by omega
  exact h1.to (hs _ (by omega) (by omega)) (hs _ (by omega) (by omega)) (hs _ (by omega) (by omega)) h0 hz
theorem yLG.step (h : yLG F) (h13 : E 13 = F 13 + 1) (hs : ∀ s w : Int, 0 ≤ s → s < 10 → s ≠ F 13 % 10 → 0 ≤ w → w ≤ 2 → E (529 + 3 * s + w) = F (529 + 3 * s + w)) (h0 : F 0 ≤ E 0) (hz : yHZ F E) (hn : yLS E (F 13 % 10)) : yLG E := fun b b0 b1 b2 => by
  rw [h13] at b2 ⊢
  by_cases q : b = 0
  · subst q
    rw [show F 13 + 1 - 1 - 0 = F 13 by omega]
    exact hn
  · have e : (F 13 + 1 - 1 - b) % 10 = (F 13 - 1 - (b - 1)) % 10 := by omega
    rw [e]
    have h1 := h (b - 1) (by omega) (by omega) (by omega)
    have hb : 0 ≤ (F 13 - 1 - (b - 1)) % 10 ∧ (F 13 - 1 - (b - 1)) % 10 < 10 := by omega
    have hne : (F 13 - 1 - (b - 1)) % 10 ≠ F 13 % 10 := by omega
    have q0 := hs _ 0 hb.1 hb.2 hne (by omega) (by omega)
    rw [Int.add_zero] at q0
    exact h1.to q0 (hs _ 1 hb.1 hb.2 hne (by omega) (by omega)) (hs _ 2 hb.1 hb.2 hne (by omega) (by omega)) h0 hz
theorem lg_at {c e s : Int} (h : s = F 13 % 10) : lgF F c e (529 + 3 * s) = c ∧ lgF F c e (529 + 3 * s + 1) = e ∧ lgF F c e (529 + 3 * s + 2) = F 0 ∧ lgF F c e 13 = F 13 + 1 := by
  subst h
  have hb : 0 ≤ F 13 % 10 ∧ F 13 % 10 < 10 := by omega
  refine ⟨?_, ?_, ?_, ?_⟩ <;> simp (disch := omega) only [lgF, zup_ne, zup_eq]
theorem lg_ne {c e s w : Int} (s0 : 0 ≤ s) (s1 : s < 10) (h : s ≠ F 13 % 10) (w0 : 0 ≤ w) (w1 : w ≤ 2) : lgF F c e (529 + 3 * s + w) = F (529 + 3 * s + w) := by
  have hb : 0 ≤ F 13 % 10 ∧ F 13 % 10 < 10 := by omega
  simp (disch := omega) only [lgF, zup_ne]
/-- an event after a change that leaves the log, the day -/
theorem yLG.ev {c e : Int} (h : yLG F) (hl : ∀ j : Int, 529 ≤ j → j < 559 → E j = F j) (h13 : E 13 = F 13) (h0 : E 0 = F 0) (hz : yHZ F (lgF E c e)) (hc : 0 ≤ c ∧ c ≤ 4) (he : 0 ≤ e ∧ e < 6000) (hp : 0 < E (559 + e)) (hx : 2 ≤ c → fol E e < 0 ∧ eo E e = c - 1) : yLG (lgF E c e) := by
  have hb : 0 ≤ F 13 % 10 ∧ F 13 % 10 < 10 := by omega
  have ha := lg_at (F := E) (c := c) (e := e) (s := F 13 % 10) (by rw [h13])
  have e0 : lgF E c e 0 = E 0 := lgF_o (by omega) (by omega)
  have ez : lgF E c e (559 + e) = E (559 + e) := lgF_o (by omega) (by omega)
  refine h.step (by rw [ha.2.2.2, h13]) (fun s w s0 s1 hs w0 w1 => ?_) (by rw [e0, h0]; exact Int.le_refl _) hz ?_
  · rw [lg_ne s0 s1 (by rw [h13]; exact hs) w0 w1]
    exact hl _ (by omega) (by omega)
  · unfold yLS
    rw [ha.1, ha.2.1, ha.2.2.1, e0, ez, fol_congr ez, eo_congr ez]
    exact ⟨hc, he, hp, Int.le_refl _, hx⟩
/-- little has changed -/
theorem yPQ.cg (h : yPQ F) (hg : ∀ j : Int, (5 ≤ j ∧ j ≤ 10) ∨ j = 13 ∨ (29 ≤ j ∧ j < 509 ∧ (j - 29) % 8 ≠ 0) ∨ (509 ≤ j ∧ j < 559) → E j = F j) (h0 : F 0 ≤ E 0) (hz : yHZ F E) (hs : ∀ x : Int, 0 ≤ x → x < 60 → F (29 + 8 * x + 1) = 1 → E (14 + 3 * (x / 12) + 1) = F (14 + 3 * (x / 12) + 1)) (hi : ∀ x : Int, 0 ≤ x → x < 60 → isHk F x → isHk E x) : yPQ E := by
  obtain ⟨h1, h2, ⟨c1, c2, c3, c4, c5⟩, h4⟩ := h
  refine ⟨fun x x0 x1 hx => ?_, fun x x0 x1 hx => ?_, ⟨?_, ?_, ?_, ?_, ?_⟩, h4.keep (hg 13 (by omega)) (fun j j0 j1 => hg j (by omega)) h0 hz⟩
  · rw [hg _ (by omega)] at hx
    rw [hg _ (by omega), hs x x0 x1 hx]
    exact h1 x x0 x1 hx
  · rw [hg _ (by omega)]
    exact h2 x x0 x1 fun q => hx (hi x x0 x1 q)
  · rw [hg 6 (by omega), ← c1]
    exact sm_congr fun k hk => hg _ (by omega)
  · rw [hg 6 (by omega), hg 7 (by omega), hg 8 (by omega), hg 9 (by omega), c2, show sm (fun x => E (29 + 8 * x + 1)) 60 = sm (fun x => F (29 + 8 * x + 1)) 60 from sm_congr fun k hk => hg _ (by omega)]
  · rw [hg 5 (by omega), hg 6 (by omega), hg 10 (by omega), c3]
  · rw [hg 7 (by omega), hg 8 (by omega), hg 9 (by omega), hg 10 (by omega), ← c4]
    exact sm_congr fun k hk => hg _ (by omega)
  · rw [hg 13 (by omega), hg 6 (by omega), hg 7 (by omega), hg 8 (by omega), hg 9 (by omega), hg 10 (by omega), c5]
theorem yDy.cg (h : yDy F) (hg : ∀ x w : Int, 0 ≤ x → x < 60 → w = 1 ∨ w = 4 → E (29 + 8 * x + w) = F (29 + 8 * x + w)) (h0 : E 0 = F 0) : yDy E := fun x x0 x1 hx => by
  rw [hg x 1 x0 x1 (by omega)] at hx
  rw [h0, hg x 4 x0 x1 (by omega)]
  exact h x x0 x1 hx
theorem yPP.ar {a b : Int} (h : yPP F) (hJ : J n F) (h4 : F 1 ≤ 4) : yPP (u_ar F a b) := by
  have hs := hJ.vd.1
  have e : ∀ j : Int, j ≠ 1 → ¬ (14 + 3 * F 1 ≤ j ∧ j < 14 + 3 * F 1 + 3) → u_ar F a b j = F j := fun j q0 q1 => by
    unfold u_ar
    rw [zup_ne _ _ q0, zup_ne _ _ (by omega), zup_ne _ _ (by omega), zup_ne _ _ (by omega)]
  have e1 : u_ar F a b 1 = F 1 + 1 := zup_eq _ _ _
  refine ⟨h.1.cg (fun j hj => e j (by omega) (by omega)) (by rw [e 0 (by omega) (by omega)]; exact Int.le_refl _) (yHZ.of fun z z0 z1 => e _ (by omega) (by omega)) (fun x x0 x1 hx => ?_) (fun x x0 x1 ⟨q0, q1, q2, q3⟩ => ⟨q0, q1, by omega, by rw [e _ (by omega) (by omega)]; exact q3⟩), h.2.cg (fun x w x0 x1 hw => e _ (by omega) (by omega)) (e 0 (by omega) (by omega))⟩
  have hk := (hJ.2.1 x x0 x1 hx).2.1
  exact e _ (by omega) (by omega)
theorem yPP.op {r o : Int} (h : yPP F) (r0 : 0 ≤ r) (r1 : r < 5) : yPP (u_op F r o) := by
  have e : ∀ j : Int, j ≠ 14 + 3 * r + 2 → u_op F r o j = F j := fun j q0 => zup_ne _ _ q0
  exact ⟨h.1.cg (fun j hj => e j (by omega)) (by rw [e 0 (by omega)]; exact Int.le_refl _) (yHZ.of fun z z0 z1 => e _ (by omega)) (fun x x0 x1 hx => e _ (by omega)) (fun x x0 x1 ⟨q0, q1, q2, q3⟩ => ⟨q0, q1, by rw [e _ (by omega)]; exact q2, by rw [e _ (by omega)]; exact q3⟩), h.2.cg (fun x w x0 x1 hw => e _ (by omega)) (e 0 (by omega))⟩
theorem yPP.ag {x y : Int} (h : yPP F) (x0 : 0 ≤ x) (x1 : x < 60) : yPP (u_ag F x y) := by
  have e : ∀ j : Int, j ≠ 29 + 8 * x + 0 → u_ag F x y j = F j := fun j q0 => zup_ne _ _ q0
  exact ⟨h.1.cg (fun j hj => e j (by omega)) (by rw [e 0 (by omega)]; exact Int.le_refl _) (yHZ.of fun z z0 z1 => e _ (by omega)) (fun x x0 x1 hx => e _ (by omega)) (fun x x0 x1 ⟨q0, q1, q2, q3⟩ => ⟨q0, q1, by rw [e _ (by omega)]; exact q2, by rw [e _ (by omega)]; exact q3⟩), h.2.cg (fun x w x0 x1 hw => e _ (by omega)) (e 0 (by omega))⟩
theorem yPP.st {w v : Int} (h : yPP F) (w0 : 0 ≤ w) (w2 : w ≤ 2) : yPP (u_st F w v) := by
  have e : ∀ j : Int, j ≠ 2 + w → u_st F w v j = F j := fun j q0 => zup_ne _ _ q0
  exact ⟨h.1.cg (fun j hj => e j (by omega)) (by rw [e 0 (by omega)]; exact Int.le_refl _) (yHZ.of fun z z0 z1 => e _ (by omega)) (fun x x0 x1 hx => e _ (by omega)) (fun x x0 x1 ⟨q0, q1, q2, q3⟩ => ⟨q0, q1, by rw [e _ (by omega)]; exact q2, by rw [e _ (by omega)]; exact q3⟩), h.2.cg (fun x w x0 x1 hw => e _ (by omega)) (e 0 (by omega))⟩
theorem yPQ.day (h : yPQ F) : yPQ (zup F 0 (F 0 + 1)) := by
  have e : ∀ j : Int, j ≠ 0 → zup F 0 (F 0 + 1) j = F j := fun j q0 => zup_ne _ _ q0
  exact h.cg (fun j hj => e j (by omega)) (by rw [zup_eq]; omega) (yHZ.of fun z z0 z1 => e _ (by omega)) (fun x x0 x1 hx => e _ (by omega)) (fun x x0 x1 ⟨q0, q1, q2, q3⟩ => ⟨q0, q1, by rw [e _ (by omega)]; exact q2, by rw [e _ (by omega)]; exact q3⟩)
theorem yPP.sh (h : yPP F) (hJ : J n F) : yPP (shF F 6000) := by
  have lo : ∀ j : Int, j < 559 → shF F 6000 j = F j := fun j hj => shF_lo (by omega)
  refine ⟨h.1.cg (fun j hj => lo j (by omega)) (by rw [lo 0 (by omega)]; exact Int.le_refl _) (fun z z0 z1 z2 => ?_) (fun x x0 x1 hx => lo _ (by omega)) (fun x x0 x1 ⟨q0, q1, q2, q3⟩ => ⟨q0, q1, by rw [lo _ (by omega)]; exact q2, by rw [lo _ (by omega)]; exact q3⟩), h.2.cg (fun x w x0 x1 hw => lo _ (by omega)) (lo 0 (by omega))⟩
  by_cases q : 1 < wy F z
  · have hl := hJ.ac.b z0 z1
    obtain ⟨d, hd, hc, hw⟩ := hJ.ac.en z0 z1
    have e := shF_at (F := F) (i := 6000) ⟨z0, z1⟩ q
    refine ⟨by rw [e]; omega, fun q1 _ => ?_⟩
    cases d with
    | zero => omega
    | succ d =>
      have := hc.2.2.1
      omega
  · have e := shF_no (i := 6000) q
    exact ⟨by rw [e]; exact z2, fun q1 _ => ⟨by rw [fol_congr e]; exact q1, eo_congr e⟩⟩
end S71
