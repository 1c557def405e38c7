/-! ===== what is behind the first row stays ===== -/
section S71
variable {E : gE} {B S : Nat} {h0 h : gH} {X : Nat → SC} {T : TC} {i : Nat} {Y : SC} {F t : Int → Int} {A : Nat → Nat} {N : Nat} {V : Nat → Int → Int} {Q : Option Value → gH → Prop}
variable {E : gE} {B S : Nat} {h h0 g1 : gH} {nv nv2 : Int} {X : Nat → SC} {T : TC} {kp nw sn ln tc tc2 : Int} {g tg cp tg2 cp2 F t u t2 : Int → Int} {A A2 A3 : Nat → Nat} {N N2 N3 : Nat} {V V2 V3 : Nat → Int → Int} {MM : gMd} {As : List Value} {z : Int}
theorem ou_ar {a b : Int} (h1 : 0 ≤ F 1 ∧ F 1 ≤ 5) : Ou F (u_ar F a b) := fun j hj => by
  unfold u_ar
  rw [zup_ne _ _ (by omega), zup_ne _ _ (by omega), zup_ne _ _ (by omega), zup_ne _ _ (by omega)]
theorem ou_op {r o : Int} (hr : r < 5) : Ou F (u_op F r o) := fun j hj => zup_ne _ _ (by omega)
theorem ou_ag {x y : Int} (hx : x < 60) : Ou F (u_ag F x y) := fun j hj => zup_ne _ _ (by omega)
theorem ou_st {w v : Int} (hw : w ≤ 2) : Ou F (u_st F w v) := fun j hj => zup_ne _ _ (by omega)
theorem ou_tk {x y z : Int} (hJ : J nv F) (x0 : 0 ≤ x) (x1 : x < 60) (hy : y ≤ 19) : Ou F (u_tk F x y z) := fun j hj => by
  have hb := hdl_b hJ.vd x0 x1
  unfold u_tk
  rw [lgF_o (by omega) (by omega), zup_ne _ _ (by omega), zup_ne _ _ (by omega), hgF_o (by omega) (by omega) (by omega) (by omega) (by omega) (by omega)]
theorem ou_gv {x : Int} (hJ : J nv F) (x0 : 0 ≤ x) (x1 : x < 60) : Ou F (u_gv F x) := fun j hj => by
  have hb := hdl_b hJ.vd x0 x1
  have hh := cnt_h (F := F) (a := F 11 + (duF F x + 50)) (j := 8) (v := F 8 + 1) x0 (by omega)
  unfold u_gv
  rw [enF_o (by omega) (by omega) (by omega) (by omega) (by omega) (by omega) (by omega) (by omega) (by rw [hh]; omega), zup_ne _ _ (by omega), zup_ne _ _ (by omega)]
theorem ou_dm {a b : Int} (hJ : J nv F) (a0 : 0 ≤ a) (a1 : a < 60) (b0 : 0 ≤ b) (b1 : b < 60) (hab : a ≠ b) : Ou F (dmU F a b) := fun j hj => by
  have hba := hdl_b hJ.vd a0 a1
  have hbb := hdl_b hJ.vd b0 b1
  have hlv := hdl_lv (F := F) hab
  simp (disch := omega) only [dmU, lgF_o, zup_ne, hgF_o, lvF_o]
theorem ou_pd (hJ : J nv F) : ∀ i : Nat, i ≤ 60 → Ou F (pdS F i).2
  | 0, _ => Ou.rf F
  | i + 1, hi => by
    have ih := ou_pd hJ i (by omega)
    have hj := (hJ.pd i (by omega)).1
    rw [pdS_s _ _ _ rfl]
    generalize pdS F i = P at ih hj ⊢
    by_cases q : P.2 (29 + 8 * (i : Int) + 1) = 1 ∧ P.2 4 < P.2 0 - P.2 (29 + 8 * (i : Int) + 4)
    · rw [if_pos q]
      intro j hj2
      have hb := hdl_b hj.vd (x := (i : Int)) (by omega) (by omega)
      have hh := cnt_h (F := P.2) (a := P.2 11 + 10 * P.2 (29 + 8 * (i : Int) + 3)) (j := 9) (v := P.2 9 + 1) (x := (i : Int)) (by omega) (by omega)
      show enF (zup (zup P.2 11 (P.2 11 + 10 * P.2 (29 + 8 * (i : Int) + 3))) 9 (P.2 9 + 1)) i 3 4 j = _
      rw [enF_o (by omega) (by omega) (by omega) (by omega) (by omega) (by omega) (by omega) (by omega) (by rw [hh]; omega), zup_ne _ _ (by omega), zup_ne _ _ (by omega)]
      exact ih j hj2
    · rw [if_neg q]
      exact ih
theorem ou_ps (hJ : J nv F) : ∀ m : Nat, F 0 + m ≤ 9999 → Ou F (psS F m).2
  | 0, _ => Ou.rf F
  | m + 1, hm => by
    have ih := ou_ps hJ m (by omega)
    have hj := hJ.ps m (by omega)
    have hd := hj.1.day (by omega)
    have h2 := ou_pd hd 60 (by omega)
    rw [psS_s]
    generalize pdS (zup (psS F m).2 0 ((psS F m).2 0 + 1)) 60 = P at h2 ⊢
    intro j hj2
    have h3 := h2 j hj2
    rw [zup_ne _ _ (by omega)] at h3
    exact h3.trans (ih j hj2)
theorem ag_ar {G : Int → Int} {a b : Int} (h : Ag F G) : Ag (u_ar F a b) (u_ar G a b) := by
  unfold u_ar
  rw [h 1 (by omega)]
  exact (((h.up rfl).up rfl).up rfl).up rfl
theorem ag_tk {G : Int → Int} {x y z : Int} (h : Ag F G) (x1 : x < 60) (hy : y ≤ 19) : Ag (u_tk F x y z) (u_tk G x y z) := by
  unfold u_tk
  rw [h 0 (by omega), h (509 + y) (by omega), h 6 (by omega), h.hdl x1]
  exact (((h.hg x1 rfl rfl rfl).up rfl).up rfl).lg rfl
theorem ag_gv {G : Int → Int} {x : Int} (hJ : J nv F) (h : Ag F G) (h0 : 0 ≤ x) (h1 : x < 60) : Ag (u_gv F x) (u_gv G x) := by
  have hb := hdl_b hJ.1.vd h0 h1
  unfold u_gv
  rw [h 11 (by omega), h 8 (by omega), ag_du h h1]
  exact ag_en ((h.up rfl).up rfl) h1 (by rw [cnt_h h0 (by omega)]; omega)
-- what an answer that is no error says
theorem ar_ok {a b : Int} (h1 : 0 ≤ F 1 ∧ F 1 ≤ 5) (h : ¬ c_ar F a b < 0) : (1 ≤ a ∧ a ≤ 12) ∧ (1 ≤ b ∧ b ≤ 5) ∧ F 1 ≤ 4 := by
  unfold c_ar at h
  (repeat' split at h) <;> omega
theorem op_ok {r o : Int} (h : ¬ c_op F r o < 0) : 0 ≤ r ∧ r ≤ F 1 - 1 := Decidable.byContradiction fun q => h (by
  unfold c_op
  rw [if_pos q]
  omega)
theorem ag_ok {x y : Int} (h : ¬ c_ag F x y < 0) : isHk F x ∧ (F (29 + 8 * x + 0) + 1 ≤ y ∧ y ≤ 99) ∧ ¬ F (29 + 8 * x + 1) = 1 ∧ ¬ F (29 + 8 * x + 5) = 1 := by
  unfold c_ag at h
  by_cases q1 : isHk F x
  · rw [if_neg (not_not_intro q1)] at h
    by_cases q2 : F (29 + 8 * x + 0) + 1 ≤ y ∧ y ≤ 99
    · rw [if_neg (not_not_intro q2)] at h
      by_cases q3 : F (29 + 8 * x + 1) = 1
      · rw [if_pos q3] at h
        omega
      · rw [if_neg q3] at h
        by_cases q4 : F (29 + 8 * x + 5) = 1
        · rw [if_pos q4] at h
          omega
        · exact ⟨q1, q2, q3, q4⟩
    · rw [if_pos q2] at h
      omega
  · rw [if_pos q1] at h
    omega
theorem st_ok {w v : Int} (h : ¬ c_st F w v < 0) : okSt w v := Decidable.byContradiction fun q => h (by
  unfold c_st
  rw [if_pos q]
  omega)
theorem tk_ok {y z : Int} (h : ¬ c_tk F y z < 0) : (0 ≤ y ∧ y ≤ 19) ∧ (1 ≤ z ∧ z ≤ 5) ∧ ¬ bst F z 60 = -5 := by
  unfold c_tk at h
  by_cases q1 : 0 ≤ y ∧ y ≤ 19
  · rw [if_neg (not_not_intro q1)] at h
    by_cases q2 : 1 ≤ z ∧ z ≤ 5
    · rw [if_neg (not_not_intro q2)] at h
      by_cases q3 : bst F z 60 = -5
      · rw [if_pos q3] at h
        omega
      · exact ⟨q1, q2, q3⟩
    · rw [if_pos q2] at h
      omega
  · rw [if_pos q1] at h
    omega
theorem cl_ok {x : Int} (h : ¬ c_cl F x < 0) : noT F x = 0 := by
  have hb := noT_b F x
  unfold c_cl at h
  by_cases q : noT F x = 0
  · exact q
  · rw [if_pos q] at h
    omega
theorem gv_ok {y p : Int} (h : ¬ c_gv F y p < 0) : (0 ≤ y ∧ y ≤ 19) ∧ ¬ gvx F y p 60 < 0 := by
  unfold c_gv at h
  by_cases q1 : 0 ≤ y ∧ y ≤ 19
  · rw [if_neg (not_not_intro q1)] at h
    by_cases q2 : gvx F y p 60 < 0
    · rw [if_pos q2] at h
      omega
    · exact ⟨q1, q2⟩
  · rw [if_pos q1] at h
    omega
theorem mv_ok {x y : Int} (h : ¬ c_mv F x y < 0) : noT F x = 0 ∧ isFr F y (F (29 + 8 * hkT F x + 3)) := by
  have hb := noT_b F x
  unfold c_mv at h
  by_cases q1 : noT F x = 0
  · rw [if_neg (not_not_intro q1)] at h
    by_cases q2 : isHk F y
    · rw [if_neg (not_not_intro q2)] at h
      by_cases q3 : isFr F y (F (29 + 8 * hkT F x + 3))
      · exact ⟨q1, q3⟩
      · rw [if_pos q3] at h
        omega
    · rw [if_pos q2] at h
      omega
  · rw [if_pos q1] at h
    omega
theorem ma_ok {a b : Int} (h : ¬ c_ma F a b < 0) : (0 ≤ a ∧ a ≤ F 1 - 1) ∧ (0 ≤ b ∧ b ≤ F 1 - 1) ∧ a ≠ b := by
  unfold c_ma at h
  by_cases q1 : 0 ≤ a ∧ a ≤ F 1 - 1
  · rw [if_neg (not_not_intro q1)] at h
    by_cases q2 : 0 ≤ b ∧ b ≤ F 1 - 1
    · rw [if_neg (not_not_intro q2)] at h
      by_cases q3 : a = b
      · rw [if_pos q3] at h
        omega
      · exact ⟨q1, q2, q3⟩
    · rw [if_pos q2] at h
      omega
  · rw [if_pos q1] at h
    omega
theorem ps_ok {m : Int} (h : ¬ c_ps F m < 0) : (1 ≤ m ∧ m ≤ 60) ∧ F 0 + m ≤ 9999 := by
  unfold c_ps at h
  by_cases q1 : 1 ≤ m ∧ m ≤ 60
  · rw [if_neg (not_not_intro q1)] at h
    by_cases q2 : 9999 < F 0 + m
    · rw [if_pos q2] at h
      omega
    · exact ⟨q1, by omega⟩
  · rw [if_pos q1] at h
    omega
theorem ca_ok (l0 : 0 ≤ ln) (l1 : ln ≤ 60) (h : ¬ c_ca F g ln < 0) : ft g ln = -1 := by
  have hb := ft_b l0 l1 g
  unfold c_ca at h
  by_cases q : 0 ≤ ft g ln
  · rw [if_pos q] at h
    omega
  · omega
/-- an error after a try: what lies behind all states may have changed -/
theorem LI.two_er (hL : LI B S nv X kp nw sn ln tc g tg cp F t A N V h) (hW2 : CN B S h X ((kp, nw, sn, ln, tc2), g, tg2, cp2) 0 g1 (F, t, A2, N2, V2)) (hR2 : RI F t N2 V2) (hn : nv ≤ nv2)
    (hm : Wp E MM 0 (gEnt MM (.ref (B + 517) :: As)) [] (MH (B + 517) g1 F sn kp g ln) (fun r2 h2 => r2 = some (.int (zI z)) ∧ ∃ F2 : Int → Int, h2 = MH (B + 517) g1 F2 sn kp g ln ∧ ∀ j : Int, j < 39354 → F2 j = F j)) : Two B S nv2 h E MM As (some (.int (zI z))) g1 :=
  Two.mk hL.2.1 hW2 (hm.mono fun r2 h2 ⟨q0, F2, q1, q2⟩ => ⟨q0, fun q hq => by rw [q1]; exact MH_lt hq, by
    rw [q1]
    obtain ⟨hW, hM, hT, ⟨hJ, hR⟩, h5, hX, hH, hS⟩ := hL
    exact ⟨X, kp, nw, sn, ln, tc2, g, tg2, cp2, F2, t, A2, N2, V2, CW.mh (hW2.to (fun j j0 j1 => q2 j (by omega)) (fun _ _ _ => rfl)), MC.of, hT, ⟨(hJ.mono hn).congr fun j _ hj => q2 j (by omega), hR2.cg fun j hj => q2 j (by omega)⟩, h5.mono hn, hX,
      fun k hk j j0 j1 => by rw [q2 _ (by have := hT.2.1; omega)]; exact hH k hk j j0 j1, fun q j j0 j1 => by rw [q2 _ (by omega)]; exact hS q j j0 j1⟩⟩)
end S71
