/-! ===== claims, one after the other ===== -/
section S59
variable {E : gE} {B S : Nat} {h0 h : gH} {X : Nat → SC} {T : TC} {i : Nat} {Y : SC} {F t : Int → Int} {A : Nat → Nat} {N : Nat} {V : Nat → Int → Int} {Q : Option Value → gH → Prop}
theorem noT_ok {F : Int → Int} {x : Int} (h : noT F x = 0) : isTg x ∧ 0 < F (559 + x / 10) ∧ eo F (la F (x / 10)) = 0 := by
  unfold noT at h
  by_cases q1 : isTg x
  · rw [if_neg (not_not_intro q1)] at h
    by_cases q2 : 0 < F (559 + x / 10)
    · rw [if_neg (not_not_intro q2)] at h
      by_cases q3 : eo F (la F (x / 10)) = 0
      · exact ⟨q1, q2, q3⟩
      · rw [if_neg q3] at h
        split at h <;> omega
    · rw [if_pos q2] at h
      omega
  · rw [if_pos q1] at h
    omega
/-- a claim, by its entries -/
theorem ucl_f {nv x : Int} (hV : Vd nv F) (x0 : 0 ≤ x) (x1 : x < 60) : u_cl F x 5 = F 5 ∧ u_cl F x (559 + hdl F x) = F (559 + hdl F x) + 2 ∧ (∀ z : Int, 0 ≤ z → z < 6000 → z ≠ hdl F x → u_cl F x (559 + z) = F (559 + z)) := by
  have hb := hdl_b hV x0 x1
  have hh := cnt_h (F := F) (a := F 11 + duF F x) (j := 7) (v := F 7 + 1) x0 (by omega)
  unfold u_cl
  refine ⟨?_, ?_, fun z z0 z1 hz => ?_⟩
  · rw [enF_o (by omega) (by omega) (by omega) (by omega) (by omega) (by omega) (by omega) (by omega) (by omega), zup_ne _ _ (by omega), zup_ne _ _ (by omega)]
  · have := en_h (F := zup (zup F 11 (F 11 + duF F x)) 7 (F 7 + 1)) (x := x) (e := 1) (c := 2) x0 x1 (by omega)
    rw [hh] at this
    rw [this, zup_ne _ _ (by omega), zup_ne _ _ (by omega)]
    omega
  · rw [enF_o (by omega) (by omega) (by omega) (by omega) (by omega) (by omega) (by omega) (by omega) (by omega), zup_ne _ _ (by omega), zup_ne _ _ (by omega)]
theorem ucl_la {nv x : Int} (hJ : J nv F) (x0 : 0 ≤ x) (x1 : x < 60) (hh : F (29 + 8 * x + 1) = 1) {z : Int} (z0 : 0 ≤ z) (z1 : z < 6000) : la (u_cl F x) z = la F z := by
  obtain ⟨f5, fh, fz⟩ := ucl_f hJ.vd x0 x1
  have ha := (hJ.2.1 x x0 x1 hh).1
  have hk := (hJ.vd.2.2.2.1 x x0 x1).2.2.1
  obtain ⟨d, hd, hc, hw⟩ := hJ.ac.en z0 z1
  have hc2 := hc.congr (G := u_cl F x) fun y q0 q1 => by
    by_cases q : y = hdl F x
    · subst q
      unfold fol
      rw [fh, ha]
      omega
    · exact fol_congr (fz y q0 q1 q)
  show lsF (u_cl F x) (u_cl F x 5).toNat z = _
  rw [f5]
  exact hc2.ls (by omega)
/-- what a claim does to the errors of tags -/
theorem ucl_no {nv x y : Int} (hJ : J nv F) (x0 : 0 ≤ x) (x1 : x < 60) (hh : F (29 + 8 * x + 1) = 1) : (isTg y → hkT (u_cl F x) y = hkT F y) ∧ (noT F y = 0 → hkT F y = x → noT (u_cl F x) y = -6) ∧ (¬ (noT F y = 0 ∧ hkT F y = x) → noT (u_cl F x) y = noT F y) := by
  obtain ⟨f5, fh, fz⟩ := ucl_f hJ.vd x0 x1
  have ha := (hJ.2.1 x x0 x1 hh).1
  have hk := (hJ.vd.2.2.2.1 x x0 x1)
  have hxl : hdl F x = 100 * x + F (29 + 8 * x + 0) := rfl
  by_cases hy : isTg y
  · have hl := ucl_la hJ x0 x1 hh (z := y / 10) (by omega) (by omega)
    have hlb := hJ.ac.b (x := y / 10) (by omega) (by omega)
    have hg : 0 < u_cl F x (559 + y / 10) ↔ 0 < F (559 + y / 10) := by
      by_cases q : y / 10 = hdl F x
      · rw [q, fh, ha]
        omega
      · rw [fz _ (by omega) (by omega) q]
    refine ⟨fun _ => by unfold hkT; rw [hl], fun q1 q2 => ?_, fun q => ?_⟩
    · have ht := hJ.tag q1
      rw [q2] at ht
      have hle := ht.2.2.2.2.2.1
      unfold noT
      rw [if_neg (not_not_intro hy), if_neg (not_not_intro (hg.mpr ht.2.1)), hl, ← hle]
      have e1 : eo (u_cl F x) (hdl F x) = 1 := by
        unfold eo
        rw [fh, ha]
        omega
      rw [e1]
      rfl
    · by_cases hgv : 0 < F (559 + y / 10)
      · have hne : la F (y / 10) ≠ hdl F x := fun z => by
          refine q ⟨?_, ?_⟩
          · unfold noT
            rw [if_neg (not_not_intro hy), if_neg (not_not_intro hgv), z, if_pos (by unfold eo; rw [ha]; omega)]
          · unfold hkT
            omega
        unfold noT
        rw [if_neg (not_not_intro hy), if_neg (not_not_intro hy), if_neg (not_not_intro (hg.mpr hgv)), if_neg (not_not_intro hgv), hl, eo_congr (fz _ hlb.1 hlb.2 hne)]
      · unfold noT
        rw [if_neg (not_not_intro hy), if_neg (not_not_intro hy), if_pos (fun z => hgv (hg.mp z)), if_pos hgv]
  · have e : ∀ G : Int → Int, noT G y = -2 := fun G => by
      unfold noT
      exact if_pos hy
    exact ⟨fun q => absurd q hy, fun q => absurd (e F) (by omega), fun _ => by rw [e, e]⟩
/-- m tags are claimed without error: what their hooks are, what errors tags have then -/
def CQ (F : Int → Int) (l : List Int) (m : Nat) : Prop :=
  (clS F (l.take m)).1 = 0 ∧ (∀ y : Int, (isTg y → hkT (clS F (l.take m)).2.2 y = hkT F y) ∧ (noT F y = 0 → (∃ j : Nat, j < m ∧ hkT F (l.getD j 0) = hkT F y) → noT (clS F (l.take m)).2.2 y = -6) ∧ (¬ (noT F y = 0 ∧ ∃ j : Nat, j < m ∧ hkT F (l.getD j 0) = hkT F y) → noT (clS F (l.take m)).2.2 y = noT F y))
theorem CQ.z (F : Int → Int) (l : List Int) : CQ F l 0 := by
  have e : clS F (l.take 0) = (0, 0, F) := rfl
  unfold CQ
  rw [e]
  exact ⟨rfl, fun y => ⟨fun _ => rfl, fun _ ⟨j, hj, _⟩ => absurd hj (by omega), fun _ => rfl⟩⟩
theorem take_s {l : List Int} {m : Nat} (hm : m < l.length) : l.take (m + 1) = l.take m ++ [l.getD m 0] := by
  rw [List.take_add_one, List.getD_eq_getElem?_getD, List.getElem?_eq_getElem hm]
  rfl
theorem clS_all {F : Int → Int} {l : List Int} {m : Nat} (h : ¬ (clS F (l.take m)).1 = 0) : clS F l = clS F (l.take m) := by
  have e : clS F l = clS F (l.take m ++ l.drop m) := by rw [List.take_append_drop]
  rw [e]
  unfold clS at *
  rw [List.foldl_append]
  exact clS_err h _
theorem CQ.no {F : Int → Int} {l : List Int} {m : Nat} (hQ : CQ F l m) (hm : m < l.length) {e : Int} (he : ¬ e = 0) (hn : noT (clS F (l.take m)).2.2 (l.getD m 0) = e) : (clS F l).1 = e := by
  have h1 : (clS F (l.take (m + 1))).1 = e := by
    rw [take_s hm, clS_s]
    unfold cl1
    rw [if_neg (not_not_intro hQ.1), if_pos (by rw [hn]; exact he)]
    exact hn
  rw [clS_all (m := m + 1) (by rw [h1]; exact he)]
  exact h1
theorem CQ.s {nv : Int} {F : Int → Int} {l : List Int} {m : Nat} (hJ : J nv F) (hQ : CQ F l m) (hm : m < l.length) (hn : noT (clS F (l.take m)).2.2 (l.getD m 0) = 0) (hn0 : noT F (l.getD m 0) = 0) :
    CQ F l (m + 1) ∧ clS F (l.take (m + 1)) = (0, (clS F (l.take m)).2.1 + duF (clS F (l.take m)).2.2 (hkT F (l.getD m 0)), u_cl (clS F (l.take m)).2.2 (hkT F (l.getD m 0))) := by
  have hI := (clS_I hJ (l.take m)).1
  obtain ⟨h1, h2⟩ := hQ
  have htg := (noT_ok hn0).1
  have e1 : clS F (l.take (m + 1)) = (0, (clS F (l.take m)).2.1 + duF (clS F (l.take m)).2.2 (hkT F (l.getD m 0)), u_cl (clS F (l.take m)).2.2 (hkT F (l.getD m 0))) := by
    rw [take_s hm, clS_s]
    unfold cl1
    rw [if_neg (not_not_intro h1), if_neg (not_not_intro hn), (h2 _).1 htg]
  refine ⟨?_, e1⟩
  unfold CQ
  rw [e1]
  have ht := hI.tag hn
  rw [(h2 _).1 htg] at ht
  generalize hP : (clS F (l.take m)).2.2 = P at h2 hI hn ht ⊢
  generalize hx : hkT F (l.getD m 0) = x at ht ⊢
  refine ⟨rfl, fun y => ?_⟩
  show (isTg y → hkT (u_cl P x) y = hkT F y) ∧ (noT F y = 0 → (∃ j : Nat, j < m + 1 ∧ hkT F (l.getD j 0) = hkT F y) → noT (u_cl P x) y = -6) ∧ (¬ (noT F y = 0 ∧ ∃ j : Nat, j < m + 1 ∧ hkT F (l.getD j 0) = hkT F y) → noT (u_cl P x) y = noT F y)
  obtain ⟨g1, g2, g3⟩ := h2 y
  obtain ⟨w1, w2, w3⟩ := ucl_no (y := y) hI ht.2.2.1 ht.2.2.2.1 ht.2.2.2.2.1
  refine ⟨fun q => (w1 q).trans (g1 q), fun q0 ⟨j, hj, hje⟩ => ?_, fun q => ?_⟩
  · by_cases hex : ∃ j : Nat, j < m ∧ hkT F (l.getD j 0) = hkT F y
    · rw [w3 (by rw [g2 q0 hex]; omega)]
      exact g2 q0 hex
    · have hjm : j = m := Decidable.byContradiction fun z => hex ⟨j, by omega, hje⟩
      subst hjm
      have hp := g3 (fun z => hex z.2)
      exact w2 (by omega) (by rw [g1 (noT_ok q0).1, ← hje, hx])
  · have q1 : ¬ (noT F y = 0 ∧ ∃ j : Nat, j < m ∧ hkT F (l.getD j 0) = hkT F y) := fun ⟨z0, j, hj, hje⟩ => q ⟨z0, j, by omega, hje⟩
    rw [w3 (fun ⟨z0, z1⟩ => by
      rw [g3 q1] at z0
      refine q ⟨z0, m, by omega, ?_⟩
      rw [hx, ← z1, g1 (noT_ok z0).1])]
    exact g3 q1
end S59
