/-! ===== the class: an end and what stands for it ===== -/
section S44
variable {E : gE} {B S : Nat} {h0 h : gH} {X : Nat → SC} {T : TC} {i : Nat} {Y : SC} {F t : Int → Int} {A : Nat → Nat} {N : Nat} {V : Nat → Int → Int} {Q : Option Value → gH → Prop}
/-- the row after an end of kind c that brings m -/
def enU (F : Int → Int) (n c m : Int) : Int → Int := enF (zup (zup F 11 (F 11 + m)) (tmx c) (F (tmx c) + 1)) n (c - 1) c
theorem enU_eq {nv n c m j : Int} (hV : Vd nv F) (n0 : 0 ≤ n) (n1 : n < 60) (c0 : 2 ≤ c) (c1 : c < 5) (j0 : 0 ≤ j) (j1 : j < 559) (h1 : j ≠ 29 + 8 * n + 1) (h2 : j ≠ 29 + 8 * n + 2) : enU F n c m j = hoF F n c m j := by
  have hx := tmx_b (j := c) (by omega) c1
  have hk := (hV.2.2.2.1 n n0 n1).1
  generalize hc : tmx c = u at hx
  unfold hoF enU enF rlF lgD lgF lvF hdl
  rw [hc]
  generalize hs : F 13 % 10 = s
  have hs1 : 0 ≤ s ∧ s < 10 := by omega
  simp (disch := omega) only [zup_ne, zup_eq, hs]
  by_cases q1 : j = 529 + 3 * s
  · subst q1; simp (disch := omega) only [zup_ne, zup_eq]
  by_cases q2 : j = 529 + 3 * s + 1
  · subst q2; simp (disch := omega) only [zup_ne, zup_eq]
  by_cases q3 : j = 529 + 3 * s + 2
  · subst q3; simp (disch := omega) only [zup_ne, zup_eq]
  by_cases q4 : j = 13
  · subst q4; simp (disch := omega) only [zup_ne, zup_eq]
  by_cases q5 : j = u
  · rw [q5]; simp (disch := omega) only [zup_ne, zup_eq]
  by_cases q6 : j = 12
  · subst q6; simp (disch := omega) only [zup_ne, zup_eq]
  by_cases q7 : j = 11
  · subst q7; simp (disch := omega) only [zup_ne, zup_eq]
  by_cases q8 : j = 29 + 8 * n + 0
  · subst q8; simp (disch := omega) only [zup_ne, zup_eq]
  by_cases q9 : j = 29 + 8 * n + 5
  · subst q9; simp (disch := omega) only [zup_ne, zup_eq]
  by_cases q10 : j = 29 + 8 * n + 6
  · subst q10; simp (disch := omega) only [zup_ne, zup_eq]
  by_cases q11 : j = 29 + 8 * n + 7
  · subst q11; simp (disch := omega) only [zup_ne, zup_eq]
  simp (disch := omega) only [zup_ne, zup_eq]
theorem enU_f {nv n c m : Int} (hV : Vd nv F) (n0 : 0 ≤ n) (n1 : n < 60) (c0 : 2 ≤ c) (c1 : c < 5) : enU F n c m 5 = F 5 ∧ enU F n c m (29 + 8 * n + 1) = 0 ∧ enU F n c m (559 + hdl F n) = F (559 + hdl F n) + 2 * (c - 1) ∧ (∀ z : Int, 0 ≤ z → z < 6000 → z ≠ hdl F n → enU F n c m (559 + z) = F (559 + z)) ∧
    (∀ x : Int, 0 ≤ x → x < 60 → x ≠ n → enU F n c m (29 + 8 * x + 0) = F (29 + 8 * x + 0) ∧ enU F n c m (29 + 8 * x + 1) = F (29 + 8 * x + 1)) := by
  have hx := tmx_b (j := c) (by omega) c1
  have hk := (hV.2.2.2.1 n n0 n1).1
  have hb := hdl_b hV n0 n1
  have eh : hdl (zup (zup F 11 (F 11 + m)) (tmx c) (F (tmx c) + 1)) n = hdl F n := hdl_congr (by rw [zup_ne _ _ (by omega), zup_ne _ _ (by omega)])
  unfold enU
  refine ⟨?_, en_1 n0 n1 (by omega), ?_, fun z z0 z1 zn => ?_, fun x x0 x1 xn => ⟨?_, ?_⟩⟩
  · rw [enF_o (by omega) (by omega) (by omega) (by omega) (by omega) (by omega) (by omega) (by omega) (by omega), zup_ne _ _ (by omega), zup_ne _ _ (by omega)]
  · have := en_h (F := zup (zup F 11 (F 11 + m)) (tmx c) (F (tmx c) + 1)) (x := n) (e := c - 1) (c := c) n0 n1 (by omega)
    rw [eh] at this
    rw [this, zup_ne _ _ (by omega), zup_ne _ _ (by omega)]
  · rw [enF_o (by omega) (by omega) (by omega) (by omega) (by omega) (by omega) (by omega) (by omega) (by omega), zup_ne _ _ (by omega), zup_ne _ _ (by omega)]
  · rw [enF_o (by omega) (by omega) (by omega) (by omega) (by omega) (by omega) (by omega) (by omega) (by omega), zup_ne _ _ (by omega), zup_ne _ _ (by omega)]
  · rw [enF_o (by omega) (by omega) (by omega) (by omega) (by omega) (by omega) (by omega) (by omega) (by omega), zup_ne _ _ (by omega), zup_ne _ _ (by omega)]
theorem RI.end {nv n c m : Int} (hJ : J nv F) (hR : RI F t N V) (n0 : 0 ≤ n) (n1 : n < 60) (hh : F (29 + 8 * n + 1) = 1) (c0 : 2 ≤ c) (c1 : c < 5) : RI (enU F n c m) (zup t n (-1)) N (fun j => if j = 3 then zup (V 3) (t n) (c - 1) else V j) := by
  have hV := hJ.vd
  obtain ⟨f5, f1, fh, fz, fx⟩ := enU_f (m := m) hV n0 n1 c0 c1
  have ho := hR.ow hJ n0 n1 hh
  have ha := (hJ.2.1 n n0 n1 hh).1
  have hk := (hV.2.2.2.1 n n0 n1).2.2.1
  refine ⟨by rw [f5]; exact hR.1, fun e e0 e1 => ?_, fun e g e0 e1 g0 g1 q => ?_, fun z z0 z1 q => ?_, fun x x0 x1 => ?_⟩
  · rw [f5] at e1
    obtain ⟨q0, q1, q2, q3, q4⟩ := hR.2.1 e e0 e1
    by_cases he : e = t n
    · subst he
      refine ⟨q0, by rw [f5]; exact q1, q2, ?_, ?_⟩
      · show 0 ≤ zup (V 3) (t n) (c - 1) (t n) ∧ zup (V 3) (t n) (c - 1) (t n) ≤ 3
        rw [zup_eq]
        omega
      · show enU F n c m (559 + V 0 (t n)) = 1 + 2 * zup (V 3) (t n) (c - 1) (t n) + 16 * V 2 (t n) + 512 * (if V 1 (t n) = -1 then 0 else V 0 (V 1 (t n)) + 1)
        rw [zup_eq, ho.2.1, fh, ha, if_pos ho.2.2.2.1, ho.2.2.1]
        omega
    · have hz : V 0 e ≠ hdl F n := fun z => he (hR.2.2.1 e (t n) e0 e1 ho.1.1 ho.1.2 (by rw [z, ho.2.1]))
      refine ⟨q0, by rw [f5]; exact q1, q2, ?_, ?_⟩
      · show 0 ≤ zup (V 3) (t n) (c - 1) e ∧ zup (V 3) (t n) (c - 1) e ≤ 3
        rw [zup_ne _ _ he]
        exact q3
      · show enU F n c m (559 + V 0 e) = 1 + 2 * zup (V 3) (t n) (c - 1) e + 16 * V 2 e + 512 * (if V 1 e = -1 then 0 else V 0 (V 1 e) + 1)
        rw [zup_ne _ _ he, fz _ q0.1 q0.2 hz]
        exact q4
  · rw [f5] at e1 g1
    exact hR.2.2.1 e g e0 e1 g0 g1 q
  · rw [f5]
    by_cases hz : z = hdl F n
    · exact ⟨t n, ho.1.1, ho.1.2, by rw [hz]; exact ho.2.1⟩
    · rw [fz z z0 z1 hz] at q
      exact hR.2.2.2.1 z z0 z1 q
  · rw [f5]
    by_cases hx : x = n
    · subst hx
      refine ⟨fun q => ?_, fun _ => zup_eq _ _ _⟩
      rw [f1] at q
      omega
    · obtain ⟨g0, g1⟩ := fx x x0 x1 hx
      rw [zup_ne _ _ hx, g1, hdl_congr g0]
      exact hR.2.2.2.2 x x0 x1
theorem sp_St_handOver2 (hE : gOk E) (hB : gB E ≤ B) (hW : CN B S h0 X T i h (F, t, A, N, V)) (hi : i < 6) {nv : Int} (hJ : J nv F) (hn : nv ≤ 100000000) (hR : RI F t N V) {n : Int} (n0 : 0 ≤ n) (n1 : n < 60) (hh : F (29 + 8 * n + 1) = 1) {c m : Int} (c0 : 2 ≤ c) (c1 : c < 5) (k : ∀ (g : gH) (t2 : Int → Int) (V2 : Nat → Int → Int), CN B S h0 X T i g (enU F n c m, t2, A, N, V2) → RI (enU F n c m) t2 N V2 → Q (some (.int (zI m))) g) : Wp E m_St_handOver 0 (gEnt m_St_handOver [.ref (sA B i), .ref (hA B i n), .int (zI c), .int (zI m)]) [] h Q :=
  sp_St_handOver hE hB hW hi hJ hn hR n0 n1 hh c0 c1 fun g hW2 => k g _ _ (hW2.gh hi n0 n1 fun j j0 j1 q1 q2 => enU_eq hJ.vd n0 n1 c0 c1 j0 j1 q1 q2) (hR.end hJ n0 n1 hh c0 c1)
end S44
