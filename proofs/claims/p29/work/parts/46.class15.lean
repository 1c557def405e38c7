/-! ===== the class: a coat goes to another hook ===== -/
section S46
variable {E : gE} {B S : Nat} {h0 h : gH} {X : Nat → SC} {T : TC} {i : Nat} {Y : SC} {F t : Int → Int} {A : Nat → Nat} {N : Nat} {V : Nat → Int → Int} {Q : Option Value → gH → Prop}
set_option maxRecDepth 100000 in
theorem sp_St_carry (hE : gOk E) (hB : gB E ≤ B) (hW : CN B S h0 X T i h (F, t, A, N, V)) (hi : i < 6) {nv : Int} (hJ : J nv F) (hn : nv ≤ 100000000) (hR : RI F t N V) {a b : Int} (a0 : 0 ≤ a) (a1 : a < 60) (b0 : 0 ≤ b) (b1 : b < 60) (hab : a ≠ b) (hh : F (29 + 8 * a + 1) = 1) (hL5 : F 5 + 1 ≤ 6000) (k : ∀ (g : gH) (A2 : Nat → Nat) (N2 : Nat) (V2 : Nat → Int → Int), CN B S h0 X T i g (cyF F a b, zup (zup t b (F 5)) a (-1), A2, N2, fun j => if j = 1 then zup (V2 1) (t a) (F 5) else V2 j) → F 5 + 1 ≤ (N2 : Int) → GV V V2 (F 5) (hdl F b) (V 2 (t a)) → Q (some (.int (zI (tb (hdl F b))))) g) : Wp E m_St_carry 0 (gEnt m_St_carry [.ref (sA B i), .ref (hA B i a), .ref (hA B i b)]) [] h Q := by
  have hV := hJ.vd
  have hN := hW.aN hi
  have hG := hR.1
  have hT := hR.rT hN.2
  have hL := hR.rL
  have ho := hR.ow hJ a0 a1 hh
  have hka := hV.2.2.2.1 a a0 a1
  have hkb := hV.2.2.2.1 b b0 b1
  have h5a := (hJ.2.1 a a0 a1 hh).2.2
  have hb := sA_b B hi
  have h13 := hV.2.1 13 (by omega) (by omega) (by omega)
  have ht6 : 6 ≤ tmx 1 ∧ tmx 1 ≤ 10 := tmx_b (by omega) (by omega)
  have hhb := hdl_b hV b0 b1
  show Wp E m_St_carry 0 [some (_), some (_), some (_), none] [] _ _
  refine wp_aload_n (pc := 0) d_St_carry_0 rfl ?_
  refine wp_getfield (pc := 1) d_St_carry_1 f_St_24 (hW.st hi) rfl ?_
  refine wp_aload_n (pc := 4) d_St_carry_4 rfl ?_
  refine wv_callV (n := 0) (As := []) (pc := 5) d_St_carry_5 s_St_119 q_Ho_handle ⟨by decide, by decide⟩ (hW.hk hi (by omega) (by omega)) rfl rfl rfl rfl (Nat.le_of_ble_eq_true rfl) (Nat.le_of_ble_eq_true rfl) ?_
  refine sp_Ho_handle hE hB hW hi b0 b1 ?_
  refine ⟨_, rfl, ?_⟩
  refine wp_aload_n (pc := 8) d_St_carry_8 rfl ?_
  refine wp_getfield (pc := 9) d_St_carry_9 f_St_24 (hW.st hi) rfl ?_
  refine wp_aload_n (pc := 12) d_St_carry_12 rfl ?_
  refine wp_getfield (pc := 13) d_St_carry_13 f_St_140 (hW.hk hi (by omega) (by omega)) rfl ?_
  refine wv_callV (n := 1) (As := [_]) (pc := 16) d_St_carry_16 s_St_143 q_Ha_ownerOf ⟨by decide, by decide⟩ (hW.ha hi) rfl rfl rfl rfl (Nat.le_of_ble_eq_true rfl) (Nat.le_of_ble_eq_true rfl) ?_
  refine sp_Ha_ownerOf hE hB hW hi hR ho.1.1 ho.1.2 ?_
  refine ⟨_, rfl, ?_⟩
  refine wv_callV (n := 2) (As := [_, _]) (pc := 19) d_St_carry_19 s_St_123 q_Ha_give ⟨by decide, by decide⟩ (hW.ha hi) rfl rfl rfl rfl (Nat.le_of_ble_eq_true rfl) (Nat.le_of_ble_eq_true rfl) ?_
  refine sp_Ha_give hE hB hW hi hG hL5 (fun g A2 N2 V2 hW hn2 hgv => ?_)
  refine ⟨_, rfl, ?_⟩
  have hN2 := hW.aN hi
  refine st_i3 (pc := 22) d_St_carry_22 (by decide) ?_
  refine wp_aload_n (pc := 23) d_St_carry_23 rfl ?_
  refine wp_getfield (pc := 24) d_St_carry_24 f_St_24 (hW.st hi) rfl ?_
  refine wp_aload_n (pc := 27) d_St_carry_27 rfl ?_
  refine wp_getfield (pc := 28) d_St_carry_28 f_St_140 (hW.hk hi (by omega) (by omega)) rfl ?_
  refine wp_iload_n (pc := 31) d_St_carry_31 rfl ?_
  refine wn_callV (n := 2) (As := [_, _]) (pc := 32) d_St_carry_32 s_St_146 q_Ha_follow ⟨by decide, by decide⟩ (hW.ha hi) rfl rfl rfl rfl (Nat.le_of_ble_eq_true rfl) (Nat.le_of_ble_eq_true rfl) ?_
  refine sp_Ha_follow hE hB hW hi (by rw [zup_eq]; omega) ho.1.1 (by rw [zup_eq]; omega) (by omega) (by rw [zup_eq]; omega) (fun g hW => ?_)
  refine ⟨rfl, ?_⟩
  refine wp_aload_n (pc := 35) d_St_carry_35 rfl ?_
  refine wp_iload_n (pc := 36) d_St_carry_36 rfl ?_
  refine wp_aload_n (pc := 37) d_St_carry_37 rfl ?_
  refine wp_getfield (pc := 38) d_St_carry_38 f_St_150 (hW.hk hi (by omega) (by omega)) rfl ?_
  try simp (disch := omega) only [zup_ne, zup_eq]
  refine wp_aload_n (pc := 41) d_St_carry_41 rfl ?_
  refine wp_getfield (pc := 42) d_St_carry_42 f_St_153 (hW.hk hi (by omega) (by omega)) rfl ?_
  simp (disch := omega) only [zup_ne, zup_eq]
  refine wn_callV (n := 3) (As := [_, _, _]) (pc := 45) d_St_carry_45 s_St_127 q_Ho_hang ⟨by decide, by decide⟩ (hW.hk hi (by omega) (by omega)) rfl rfl rfl rfl (Nat.le_of_ble_eq_true rfl) (Nat.le_of_ble_eq_true rfl) ?_
  refine sp_Ho_hang hE hB hW hi b0 b1 (fun g hW => ?_)
  refine ⟨rfl, ?_⟩
  refine wp_aload_n (pc := 48) d_St_carry_48 rfl ?_
  refine wp_dup (pc := 49) d_St_carry_49 rfl ?_
  refine wp_getfield (pc := 50) d_St_carry_50 f_St_48 (hW.st hi) rfl ?_
  simp (disch := omega) only [zup_ne, zup_eq]
  refine wp_iconst (pc := 53) d_St_carry_53 ?_
  refine zp_iadd (pc := 54) d_St_carry_54 ?_
  refine zp_putI (pc := 55) d_St_carry_55 f_St_48 (hW.st hi) (by omega) (Or.inl rfl) ?_
  refine pw_s8 hW hi (fun h hW => ?_)
  refine wp_aload_n (pc := 58) d_St_carry_58 rfl ?_
  refine wp_aload_n (pc := 59) d_St_carry_59 rfl ?_
  refine wp_getfield (pc := 60) d_St_carry_60 f_St_48 (hW.st hi) rfl ?_
  simp (disch := omega) only [zup_ne, zup_eq]
  refine wn_callV (n := 1) (As := [_]) (pc := 63) d_St_carry_63 s_St_156 q_Ho_release ⟨by decide, by decide⟩ (hW.hk hi (by omega) (by omega)) rfl rfl rfl rfl (Nat.le_of_ble_eq_true rfl) (Nat.le_of_ble_eq_true rfl) ?_
  refine sp_Ho_release hE hB hW hi a0 a1 (by simp (disch := omega) only [zup_ne]; exact hka.1) (by simp (disch := omega) only [zup_ne]; exact h5a) (fun g hW => ?_)
  refine ⟨rfl, ?_⟩
  refine wp_aload_n (pc := 66) d_St_carry_66 rfl ?_
  refine wp_getfield (pc := 67) d_St_carry_67 f_St_31 (hW.st hi) rfl ?_
  refine wp_iconst (pc := 70) d_St_carry_70 ?_
  refine wp_aload_n (pc := 71) d_St_carry_71 rfl ?_
  refine wv_callV (n := 0) (As := []) (pc := 72) d_St_carry_72 s_St_119 q_Ho_handle ⟨by decide, by decide⟩ (hW.hk hi (by omega) (by omega)) rfl rfl rfl rfl (Nat.le_of_ble_eq_true rfl) (Nat.le_of_ble_eq_true rfl) ?_
  refine sp_Ho_handle hE hB hW hi b0 b1 ?_
  refine ⟨_, rfl, ?_⟩
  simp (disch := omega) only [hdl, lgD, rlF, zup_ne, zup_eq]
  refine wp_aload_n (pc := 75) d_St_carry_75 rfl ?_
  refine wp_getfield (pc := 76) d_St_carry_76 f_St_42 (hW.st hi) rfl ?_
  simp (disch := omega) only [hdl, lgD, rlF, zup_ne, zup_eq]
  refine wn_callV (n := 3) (As := [_, _, _]) (pc := 79) d_St_carry_79 s_St_134 q_Lg_add ⟨by decide, by decide⟩ (hW.lg hi) rfl rfl rfl rfl (Nat.le_of_ble_eq_true rfl) (Nat.le_of_ble_eq_true rfl) ?_
  refine sp_Lg_add hE hB hW hi (by simp (disch := omega) only [rlF, zup_ne]; exact h13) (by omega) (by omega) (by omega) (fun g hW => ?_)
  refine ⟨rfl, ?_⟩
  refine wp_aload_n (pc := 82) d_St_carry_82 rfl ?_
  refine wv_callV (n := 0) (As := []) (pc := 83) d_St_carry_83 s_St_119 q_Ho_handle ⟨by decide, by decide⟩ (hW.hk hi (by omega) (by omega)) rfl rfl rfl rfl (Nat.le_of_ble_eq_true rfl) (Nat.le_of_ble_eq_true rfl) ?_
  refine sp_Ho_handle hE hB hW hi b0 b1 ?_
  refine ⟨_, rfl, ?_⟩
  simp (disch := omega) only [hdl, lgD, rlF, zup_ne, zup_eq]
  have hhb2 : 0 ≤ 100 * b + F (29 + 8 * b + 0) ∧ 100 * b + F (29 + 8 * b + 0) ≤ 5999 := hhb
  refine wv_callSN (n := 1) (As := [_]) (pc := 86) d_St_carry_86 s_St_137 q_Yt_tagWithCheck ⟨by decide, by decide⟩ rfl rfl rfl (Nat.le_of_ble_eq_true rfl) (Nat.le_of_ble_eq_true rfl) ?_
  refine sp_Yt_tagWithCheck (by omega) (by omega) ?_
  refine ⟨_, rfl, ?_⟩
  refine zp_ireturn (pc := 89) d_St_carry_89 rfl ?_
  exact k _ _ _ _ hW hn2 hgv
theorem dmU_eq {nv a b j : Int} (hV : Vd nv F) (a0 : 0 ≤ a) (a1 : a < 60) (b0 : 0 ≤ b) (b1 : b < 60) (hab : a ≠ b) (j0 : 0 ≤ j) (j1 : j < 559) (h1 : j ≠ 29 + 8 * a + 1) (h2 : j ≠ 29 + 8 * a + 2) (h3 : j ≠ 29 + 8 * b + 1) (h4 : j ≠ 29 + 8 * b + 2) : dmU F a b j = cyF F a b j := by
  have hk := (hV.2.2.2.1 a a0 a1).1
  have hk2 := (hV.2.2.2.1 b b0 b1).1
  unfold dmU cyF lgD lgF hgF lvF rlF hdl
  rw [show tmx 1 = 10 from rfl]
  generalize hs : F 13 % 10 = s
  have hs1 : 0 ≤ s ∧ s < 10 := by omega
  simp (disch := omega) only [zup_ne, zup_eq, hs]
  by_cases q0 : j = 529 + 3 * s
  · subst q0; simp (disch := omega) only [zup_ne, zup_eq]
  by_cases q1 : j = 529 + 3 * s + 1
  · subst q1; simp (disch := omega) only [zup_ne, zup_eq]
  by_cases q2 : j = 529 + 3 * s + 2
  · subst q2; simp (disch := omega) only [zup_ne, zup_eq]
  by_cases q3 : j = 13
  · subst q3; simp (disch := omega) only [zup_ne, zup_eq]
  by_cases q4 : j = 10
  · subst q4; simp (disch := omega) only [zup_ne, zup_eq]
  by_cases q5 : j = 12
  · subst q5; simp (disch := omega) only [zup_ne, zup_eq]
  by_cases q6 : j = 29 + 8 * a + 0
  · subst q6; simp (disch := omega) only [zup_ne, zup_eq]
  by_cases q7 : j = 29 + 8 * a + 5
  · subst q7; simp (disch := omega) only [zup_ne, zup_eq]
  by_cases q8 : j = 29 + 8 * a + 6
  · subst q8; simp (disch := omega) only [zup_ne, zup_eq]
  by_cases q9 : j = 29 + 8 * a + 7
  · subst q9; simp (disch := omega) only [zup_ne, zup_eq]
  by_cases q10 : j = 29 + 8 * b + 3
  · subst q10; simp (disch := omega) only [zup_ne, zup_eq]
  by_cases q11 : j = 29 + 8 * b + 4
  · subst q11; simp (disch := omega) only [zup_ne, zup_eq]
  by_cases q12 : j = 5
  · subst q12; simp (disch := omega) only [zup_ne, zup_eq]
  simp (disch := omega) only [zup_ne, zup_eq]
theorem dmU_f {nv a b : Int} (hV : Vd nv F) (a0 : 0 ≤ a) (a1 : a < 60) (b0 : 0 ≤ b) (b1 : b < 60) (hab : a ≠ b) : dmU F a b 5 = F 5 + 1 ∧ dmU F a b (29 + 8 * a + 1) = 0 ∧ dmU F a b (29 + 8 * b + 1) = 1 ∧ dmU F a b (559 + hdl F a) = F (559 + hdl F a) + 512 * (hdl F b + 1) ∧ dmU F a b (559 + hdl F b) = 1 + 16 * F (29 + 8 * a + 2) ∧
    (∀ x : Int, 0 ≤ x → x < 6000 → x ≠ hdl F a → x ≠ hdl F b → dmU F a b (559 + x) = F (559 + x)) ∧ (∀ x : Int, 0 ≤ x → x < 60 → x ≠ a → dmU F a b (29 + 8 * x + 0) = F (29 + 8 * x + 0) ∧ (x ≠ b → dmU F a b (29 + 8 * x + 1) = F (29 + 8 * x + 1))) := by
  have ha := hdl_b hV a0 a1
  have hb := hdl_b hV b0 b1
  have hne := hdl_ne hV a0 a1 b0 b1 hab
  have el : hdl (lvF F a) b = hdl F b := hdl_lv hab
  unfold dmU
  refine ⟨?_, ?_, ?_, ?_, ?_, fun x x0 x1 xa xb => ?_, fun x x0 x1 xa => ⟨?_, fun xb => ?_⟩⟩
  · rw [lgF_o (by omega) (by omega), zup_ne _ _ (by omega), zup_ne _ _ (by omega)]
    unfold hgF
    rw [zup_eq, lvF_o (by omega) (by omega) (by omega) (by omega) (by omega) (by omega)]
  · rw [lgF_o (by omega) (by omega), zup_ne _ _ (by omega), zup_ne _ _ (by omega), hgF_o (by omega) (by omega) (by omega) (by omega) (by omega) (by omega)]
    unfold lvF
    simp (disch := omega) only [zup_ne, zup_eq]
  · rw [lgF_o (by omega) (by omega), zup_ne _ _ (by omega), zup_ne _ _ (by omega)]
    unfold hgF
    rw [el]
    simp (disch := omega) only [zup_ne, zup_eq]
  · rw [lgF_o (by omega) (by omega), zup_ne _ _ (by omega), zup_eq]
  · rw [lgF_o (by omega) (by omega), zup_ne _ _ (by omega), zup_ne _ _ (by omega)]
    unfold hgF
    rw [el, zup_ne _ _ (by omega), zup_eq]
  · rw [lgF_o (by omega) (by omega), zup_ne _ _ (by omega), zup_ne _ _ (by omega), hgF_o (by omega) (by omega) (by omega) (by omega) (by omega) (by omega), lvF_o (by omega) (by omega) (by omega) (by omega) (by omega) (by omega)]
  · rw [lgF_o (by omega) (by omega), zup_ne _ _ (by omega), zup_ne _ _ (by omega), hgF_o (by omega) (by omega) (by omega) (by omega) (by omega) (by omega), lvF_o (by omega) (by omega) (by omega) (by omega) (by omega) (by omega)]
  · rw [lgF_o (by omega) (by omega), zup_ne _ _ (by omega), zup_ne _ _ (by omega), hgF_o (by omega) (by omega) (by omega) (by omega) (by omega) (by omega), lvF_o (by omega) (by omega) (by omega) (by omega) (by omega) (by omega)]
theorem RI.mvd {nv a b : Int} {N2 : Nat} {V2 : Nat → Int → Int} (hJ : J nv F) (hR : RI F t N V) (a0 : 0 ≤ a) (a1 : a < 60) (b0 : 0 ≤ b) (b1 : b < 60) (hab : a ≠ b) (hh : F (29 + 8 * a + 1) = 1) (hf : ¬ 0 < F (559 + hdl F b)) (hN : F 5 + 1 ≤ (N2 : Int)) (hg : GV V V2 (F 5) (hdl F b) (V 2 (t a))) : RI (dmU F a b) (zup (zup t b (F 5)) a (-1)) N2 (fun j => if j = 1 then zup (V2 1) (t a) (F 5) else V2 j) := by
  have hV := hJ.vd
  obtain ⟨f5, fa, fb, fha, fhb, fz, fx⟩ := dmU_f hV a0 a1 b0 b1 hab
  obtain ⟨ga, g0, g1, g2, g3⟩ := hg
  have h5 := hR.1
  have hbb := hdl_b hV b0 b1
  have ho := hR.ow hJ a0 a1 hh
  have ho2 := hR.2.1 (t a) ho.1.1 ho.1.2
  have hKa := (hJ.2.1 a a0 a1 hh).1
  have hka := (hV.2.2.2.1 a a0 a1).2.2.1
  have hne : ∀ e : Int, 0 ≤ e → e < F 5 → V 0 e ≠ hdl F b := fun e e0 e1 q => by
    have := (hR.vl e0 e1).2.2
    rw [q] at this
    exact hf this
  refine ⟨by rw [f5]; omega, fun e e0 e1 => ?_, fun e e' e0 e1 e2 e3 q => ?_, fun x x0 x1 q => ?_, fun x x0 x1 => ?_⟩
  · rw [f5] at e1 ⊢
    show (0 ≤ V2 0 e ∧ V2 0 e < 6000) ∧ (zup (V2 1) (t a) (F 5) e = -1 ∨ (e < zup (V2 1) (t a) (F 5) e ∧ zup (V2 1) (t a) (F 5) e < F 5 + 1)) ∧ (0 ≤ V2 2 e ∧ V2 2 e ≤ 19) ∧ (0 ≤ V2 3 e ∧ V2 3 e ≤ 3) ∧ dmU F a b (559 + V2 0 e) = 1 + 2 * V2 3 e + 16 * V2 2 e + 512 * (if zup (V2 1) (t a) (F 5) e = -1 then 0 else V2 0 (zup (V2 1) (t a) (F 5) e) + 1)
    by_cases he : e = F 5
    · rw [zup_ne _ _ (by omega), he, g0, g1, g2, g3, fhb, if_pos rfl, ho.2.2.1]
      refine ⟨by omega, Or.inl rfl, by omega, by omega, by omega⟩
    · obtain ⟨q0, q1, q2, q3, q4⟩ := hR.2.1 e e0 (by omega)
      rw [ga 0 (by omega) e e0 (by omega), ga 2 (by omega) e e0 (by omega), ga 3 (by omega) e e0 (by omega)]
      by_cases ht : e = t a
      · subst ht
        rw [zup_eq, if_neg (by omega), g0, ho.2.1, fha, hKa, ho.2.2.1, ho.2.2.2.2]
        rw [ho.2.1] at q0
        exact ⟨q0, by omega, by omega, by omega, by omega⟩
      · have hz : V 0 e ≠ hdl F a := fun z => ht (hR.2.2.1 e (t a) e0 (by omega) ho.1.1 ho.1.2 (by rw [z, ho.2.1]))
        rw [zup_ne _ _ ht, ga 1 (by omega) e e0 (by omega), fz _ q0.1 q0.2 hz (hne e e0 (by omega)), q4]
        refine ⟨q0, by omega, q2, q3, ?_⟩
        by_cases q : V 1 e = -1
        · rw [if_pos q, if_pos q]
        · rw [if_neg q, if_neg q, ga 0 (by omega) (V 1 e) (by omega) (by omega)]
  · rw [f5] at e1 e3
    have q : V2 0 e = V2 0 e' := q
    by_cases he : e = F 5
    · by_cases he' : e' = F 5
      · omega
      · rw [he, g0, ga 0 (by omega) e' e2 (by omega)] at q
        exact absurd q.symm (hne e' e2 (by omega))
    · by_cases he' : e' = F 5
      · rw [he', g0, ga 0 (by omega) e e0 (by omega)] at q
        exact absurd q (hne e e0 (by omega))
      · rw [ga 0 (by omega) e e0 (by omega), ga 0 (by omega) e' e2 (by omega)] at q
        exact hR.2.2.1 e e' e0 (by omega) e2 (by omega) q
  · rw [f5]
    show ∃ e : Int, 0 ≤ e ∧ e < F 5 + 1 ∧ V2 0 e = x
    by_cases hx : x = hdl F b
    · exact ⟨F 5, by omega, by omega, by rw [g0, hx]⟩
    · by_cases hxa : x = hdl F a
      · exact ⟨t a, ho.1.1, by omega, by rw [ga 0 (by omega) _ ho.1.1 ho.1.2, ho.2.1, hxa]⟩
      · rw [fz x x0 x1 hxa hx] at q
        obtain ⟨e, e0, e1, e2⟩ := hR.2.2.2.1 x x0 x1 q
        exact ⟨e, e0, by omega, by rw [ga 0 (by omega) e e0 e1, e2]⟩
  · rw [f5]
    show (dmU F a b (29 + 8 * x + 1) = 1 → 0 ≤ zup (zup t b (F 5)) a (-1) x ∧ zup (zup t b (F 5)) a (-1) x < F 5 + 1 ∧ V2 0 (zup (zup t b (F 5)) a (-1) x) = hdl (dmU F a b) x) ∧ (¬ dmU F a b (29 + 8 * x + 1) = 1 → zup (zup t b (F 5)) a (-1) x = -1)
    by_cases hx : x = a
    · subst hx
      rw [zup_eq, fa]
      exact ⟨fun q => absurd q (by omega), fun _ => rfl⟩
    · obtain ⟨w0, w1⟩ := fx x x0 x1 hx
      rw [zup_ne _ _ hx]
      by_cases hxb : x = b
      · subst hxb
        rw [zup_eq, fb, hdl_congr w0, g0]
        exact ⟨fun _ => ⟨by omega, by omega, rfl⟩, fun q => absurd rfl q⟩
      · rw [zup_ne _ _ hxb, w1 hxb, hdl_congr w0]
        refine ⟨fun q => ?_, (hR.2.2.2.2 x x0 x1).2⟩
        have := (hR.2.2.2.2 x x0 x1).1 q
        exact ⟨this.1, by omega, by rw [ga 0 (by omega) _ this.1 this.2.1]; exact this.2.2⟩
theorem sp_St_carry2 (hE : gOk E) (hB : gB E ≤ B) (hW : CN B S h0 X T i h (F, t, A, N, V)) (hi : i < 6) {nv : Int} (hJ : J nv F) (hn : nv ≤ 100000000) (hR : RI F t N V) {a b : Int} (a0 : 0 ≤ a) (a1 : a < 60) (b0 : 0 ≤ b) (b1 : b < 60) (hab : a ≠ b) (hh : F (29 + 8 * a + 1) = 1) (hf0 : F (29 + 8 * b + 1) = 0) (hf5 : F (29 + 8 * b + 5) = 0) (k : ∀ (g : gH) (t2 : Int → Int) (A2 : Nat → Nat) (N2 : Nat) (V2 : Nat → Int → Int), CN B S h0 X T i g (dmU F a b, t2, A2, N2, V2) → RI (dmU F a b) t2 N2 V2 → Q (some (.int (zI (tb (hdl F b))))) g) : Wp E m_St_carry 0 (gEnt m_St_carry [.ref (sA B i), .ref (hA B i a), .ref (hA B i b)]) [] h Q := by
  have hb := hdl_b hJ.vd b0 b1
  have hz : ¬ 0 < F (559 + hdl F b) := by
    have := hJ.2.2.1 b b0 b1 hf0 hf5
    omega
  refine sp_St_carry hE hB hW hi hJ hn hR a0 a1 b0 b1 hab hh (hR.free (by omega) (by omega) hz) fun g A2 N2 V2 hW2 hn2 hgv => ?_
  have w1 := hW2.gh hi a0 a1 (F' := fun j => if j = 29 + 8 * a + 1 ∨ j = 29 + 8 * a + 2 then dmU F a b j else cyF F a b j) fun j _ _ q1 q2 => if_neg (by omega)
  have w2 := w1.gh hi b0 b1 (F' := dmU F a b) fun j j0 j1 q1 q2 => by
    by_cases q : j = 29 + 8 * a + 1 ∨ j = 29 + 8 * a + 2
    · rw [if_pos q]
    · rw [if_neg q]
      exact dmU_eq hJ.vd a0 a1 b0 b1 hab j0 j1 (by omega) (by omega) q1 q2
  exact k g _ _ _ _ w2 (hR.mvd hJ a0 a1 b0 b1 hab hh hz hn2 hgv)
end S46
