/-! ===== what the answers say of each other ===== -/
section S76
variable {nv : Int} {F : Int → Int} {sn ln : Int}
theorem tb_10 {x : Int} (h0 : 0 ≤ x) : tb x / 10 = x := by
  unfold tb
  omega
theorem tb_tg {x : Int} (h0 : 0 ≤ x) (h1 : x ≤ 5999) : isTg (tb x) := by
  have e := tb_10 h0
  refine ⟨?_, ?_, by rw [e]⟩
  · unfold tb
    omega
  · unfold tb
    omega
theorem tb_inj {a b : Int} (ha : 0 ≤ a) (hb : 0 ≤ b) (h : tb a = tb b) : a = b := by
  rw [← tb_10 ha, ← tb_10 hb, h]
theorem end_ch (hA : AC F) {z : Int} (z0 : 0 ≤ z) (z1 : z < 6000) (h : fol F z < 0) : la F z = z ∧ wy F z = 0 := by
  obtain ⟨d, hd, hc, hw⟩ := hA.en z0 z1
  cases d with
  | zero => exact ⟨hc.1.symm, by omega⟩
  | succ d =>
    have := hc.2.2.1
    omega
theorem go_ch (hA : AC F) {z : Int} (z0 : 0 ≤ z) (z1 : z < 6000) (h : 0 ≤ fol F z) : (0 ≤ fol F z ∧ fol F z < 6000) ∧ la F z = la F (fol F z) ∧ wy F z = wy F (fol F z) + 1 := by
  obtain ⟨d, hd, hc, hw⟩ := hA.en z0 z1
  cases d with
  | zero =>
    have := hc.2.2.2
    omega
  | succ d =>
    have h3 := hc.2.2.2
    have hx := h3.x
    have h4 := ch_d (n := 0) hA (d := d) (by omega) h3
    exact ⟨hx, h4.2.symm, by omega⟩
theorem la_end (hA : AC F) {z : Int} (z0 : 0 ≤ z) (z1 : z < 6000) : (0 ≤ la F z ∧ la F z < 6000) ∧ fol F (la F z) < 0 := by
  obtain ⟨d, hd, hc, hw⟩ := hA.en z0 z1
  have := hc.z
  exact ⟨⟨this.1, this.2.1⟩, this.2.2⟩
/-- a coat that is here -/
theorem held (hJ : J nv F) {x : Int} (x0 : 0 ≤ x) (x1 : x < 60) (hx : F (29 + 8 * x + 1) = 1) : isHk F x ∧ F (29 + 8 * x + 5) = 0 ∧ c_du F (tb (hdl F x)) = duF F x ∧ c_to (100 * x + F (29 + 8 * x + 0)) = tb (hdl F x) ∧
    c_tg F (tb (hdl F x)) 0 = x ∧ c_tg F (tb (hdl F x)) 1 = 0 ∧ c_tg F (tb (hdl F x)) 2 = 0 ∧ c_tg F (tb (hdl F x)) 3 = tb (hdl F x) ∧ c_tg F (tb (hdl F x)) 4 = -5 ∧ c_tg F (tb (hdl F x)) 5 = F (29 + 8 * x + 2) := by
  have hv := hJ.2.1 x x0 x1 hx
  have hb := hdl_b hJ.vd x0 x1
  have hk := hJ.vd.2.2.2.1 x x0 x1
  have e10 := tb_10 hb.1
  have ht := tb_tg hb.1 hb.2
  have hp : 0 < F (559 + tb (hdl F x) / 10) := by
    rw [e10]
    omega
  have hf : fol F (hdl F x) < 0 := by
    unfold fol
    omega
  have he : eo F (hdl F x) = 0 := by
    unfold eo
    omega
  have hc := end_ch hJ.ac hb.1 (by omega) hf
  have hd : hdl F x / 100 = x := by
    unfold hdl
    omega
  obtain ⟨t0, t1, t2, t3, t4⟩ := c_tg_v ht hp
  have t5 := c_tg_d (w := 5) ht hp rfl
  rw [e10] at t0 t1 t2 t3 t4 t5
  rw [hc.1] at t0 t2 t3
  refine ⟨hv.2.1, hv.2.2, ?_, ?_, ?_, ?_, ?_, ?_, ?_, ?_⟩
  · have hn : noT F (tb (hdl F x)) = 0 := by
      unfold noT
      rw [if_neg (not_not_intro ht), if_neg (not_not_intro hp), e10, hc.1, if_pos he]
    unfold c_du hkT
    rw [if_neg (not_not_intro hn), e10, hc.1, hd]
  · exact if_pos hb
  · rw [t0, if_pos he, hd]
  · rw [t1, hc.2]
  · rw [t2, he]
  · exact t3
  · rw [t4, if_neg (by omega)]
  · rw [t5, hv.1]
    omega
theorem c_gs_v {g : Int} (g0 : 0 ≤ g) (g1 : g ≤ 19) : c_gs F g 0 = cGv F g 60 ∧ c_gs F g 1 = sD F g 60 ∧ c_gs F g 2 = F (509 + g) := by
  refine ⟨?_, ?_, ?_⟩
  · unfold c_gs
    rw [if_neg (not_not_intro ⟨g0, g1⟩)]
    rfl
  · unfold c_gs
    rw [if_neg (not_not_intro ⟨g0, g1⟩)]
    rfl
  · unfold c_gs
    rw [if_neg (not_not_intro ⟨g0, g1⟩)]
    rfl
-- sums
theorem sm_plus {f g : Int → Int} : ∀ m : Nat, sm (fun k => f k + g k) m = sm f m + sm g m
  | 0 => rfl
  | m + 1 => by
    show sm (fun k => f k + g k) m + (f m + g m) = sm f m + f m + (sm g m + g m)
    rw [sm_plus m]
    omega
theorem sm_ext {g : Int → Int} {a b : Nat} (hab : a ≤ b) (h : ∀ k : Nat, a ≤ k → k < b → g k = 0) : sm g a = sm g b := sm_cut hab (fun _ _ => rfl) h
theorem sm_s (g : Int → Int) (m : Nat) : sm g (m + 1) = sm g m + g m := rfl
/-- what is due for a hook -/
def duH (F : Int → Int) (x : Int) : Int := if F (29 + 8 * x + 1) = 1 then duF F x else 0
/-- one guest has the coat of a hook -/
theorem sm_one (hJ : J nv F) {x v : Int} (x0 : 0 ≤ x) (x1 : x < 60) : sm (fun g => if isGv F g x then v else 0) 20 = if F (29 + 8 * x + 1) = 1 then v else 0 := by
  have hk := hJ.vd.2.2.2.1 x x0 x1
  by_cases q : F (29 + 8 * x + 1) = 1
  · rw [if_pos q]
    have := sm_at (g := fun g => if isGv F g x then v else 0) (f := fun _ => 0) (z0 := F (29 + 8 * x + 2)) (v := v) (m := 20) (by omega) (by omega) (if_pos ⟨q, rfl⟩) (fun k k0 k1 hk2 => if_neg fun q2 => hk2 q2.2.symm)
    rw [this, sm_0 (g := fun _ => 0) fun k hk => rfl]
    omega
  · rw [if_neg q]
    exact sm_0 fun k hk => if_neg fun q2 => q q2.1
theorem sm_gv (hJ : J nv F) : ∀ n : Nat, n ≤ 60 → sm (fun g => cGv F g n) 20 = sm (fun x => F (29 + 8 * x + 1)) n
  | 0, _ => sm_0 fun k hk => rfl
  | n + 1, hn => by
    have hk := hJ.vd.2.2.2.1 (n : Int) (by omega) (by omega)
    have e := sm_plus (f := fun g => cGv F g n) (g := fun g => if isGv F g (n : Int) then 1 else 0) 20
    have e2 := sm_one (v := 1) hJ (x := (n : Int)) (by omega) (by omega)
    rw [sm_s (fun x => F (29 + 8 * x + 1)) n]
    refine Eq.trans (show sm (fun g => cGv F g (n + 1)) 20 = _ from e) ?_
    rw [sm_gv hJ n (by omega), e2]
    split <;> omega
theorem sm_sD (hJ : J nv F) : ∀ n : Nat, n ≤ 60 → sm (fun g => sD F g n) 20 = sm (duH F) n
  | 0, _ => sm_0 fun k hk => rfl
  | n + 1, hn => by
    have e := sm_plus (f := fun g => sD F g n) (g := fun g => if isGv F g (n : Int) then duF F n else 0) 20
    have e2 := sm_one (v := duF F n) hJ (x := (n : Int)) (by omega) (by omega)
    rw [sm_s (duH F) n]
    refine Eq.trans (show sm (fun g => sD F g (n + 1)) 20 = _ from e) ?_
    rw [sm_sD hJ n (by omega), e2]
    rfl
theorem no_hk (hJ : J nv F) (hP : yPP F) {x : Int} (x0 : 0 ≤ x) (x1 : x < 60) (h : ¬ isHk F x) : F (29 + 8 * x + 0) = 0 ∧ F (29 + 8 * x + 1) = 0 ∧ F (29 + 8 * x + 5) = 0 ∧ F (29 + 8 * x + 6) = 0 ∧ duH F x = 0 := by
  have hd := hJ.2.2.2.2.1 x x0 x1 h
  exact ⟨hd.1, hd.2.1, hd.2.2, hP.1.2.1 x x0 x1 h, if_neg (by omega)⟩
theorem duH_b (hJ : J nv F) {x : Int} (x0 : 0 ≤ x) (x1 : x < 60) : 0 ≤ duH F x ∧ duH F x ≤ 2500000 := by
  have := duF_b hJ.vd x0 x1
  unfold duH
  split <;> omega
end S76
