/-! ===== the class: a coat comes ===== -/
section S45
variable {E : gE} {B S : Nat} {h0 h : gH} {X : Nat → SC} {T : TC} {i : Nat} {Y : SC} {F t : Int → Int} {A : Nat → Nat} {N : Nat} {V : Nat → Int → Int} {Q : Option Value → gH → Prop}
def tkF (F : Int → Int) (n y z : Int) : Int → Int := lgD (zup (zup (zup (zup F 5 (F 5 + 1)) (29 + 8 * n + 3) z) (29 + 8 * n + 4) (F 0)) (509 + y) (F (509 + y) + 1)) 0 (hdl F n) (F 0)
def cyF (F : Int → Int) (a b : Int) : Int → Int := lgD (rlF (zup (zup (zup (zup F 5 (F 5 + 1)) (29 + 8 * b + 3) (F (29 + 8 * a + 3))) (29 + 8 * b + 4) (F (29 + 8 * a + 4))) 12 (F 12 + 1)) a (F 12 + 1)) 1 (hdl F b) (F 0)
set_option maxRecDepth 100000 in
theorem sp_St_takeIn (hE : gOk E) (hB : gB E ≤ B) (hW : CN B S h0 X T i h (F, t, A, N, V)) (hi : i < 6) {nv : Int} (hJ : J nv F) (hn : nv ≤ 100000000) (hR : RI F t N V) {n : Int} (n0 : 0 ≤ n) (n1 : n < 60) (hL5 : F 5 + 1 ≤ 6000) {y z : Int} (y0 : 0 ≤ y) (y1 : y ≤ 19) (k : ∀ (g : gH) (A2 : Nat → Nat) (N2 : Nat) (V2 : Nat → Int → Int), CN B S h0 X T i g (tkF F n y z, zup t n (F 5), A2, N2, V2) → F 5 + 1 ≤ (N2 : Int) → GV V V2 (F 5) (hdl F n) y → Q (some (.int (zI (tb (hdl F n))))) g) : Wp E m_St_takeIn 0 (gEnt m_St_takeIn [.ref (sA B i), .int (zI y), .int (zI z), .ref (hA B i n)]) [] h Q := by
  have hV := hJ.vd
  have hN := hW.aN hi
  have hG := hR.1
  have hT := hR.rT hN.2
  have hL := hR.rL
  have hk := (hV.2.2.2.1 n n0 n1).1
  have hb := sA_b B hi
  have h13 := hV.2.1 13 (by omega) (by omega) (by omega)
  have ht6 : 6 ≤ tmx 0 ∧ tmx 0 ≤ 10 := tmx_b (by omega) (by omega)
  have hhb := hdl_b hV n0 n1
  show Wp E m_St_takeIn 0 [some (_), some (_), some (_), some (_)] [] _ _
  refine wp_aload_n (pc := 0) d_St_takeIn_0 rfl ?_
  refine wp_aload_n (pc := 1) d_St_takeIn_1 rfl ?_
  refine wp_getfield (pc := 2) d_St_takeIn_2 f_St_24 (hW.st hi) rfl ?_
  refine wp_aload_n (pc := 5) d_St_takeIn_5 rfl ?_
  refine wv_callV (n := 0) (As := []) (pc := 6) d_St_takeIn_6 s_St_119 q_Ho_handle ⟨by decide, by decide⟩ (hW.hk hi (by omega) (by omega)) rfl rfl rfl rfl (Nat.le_of_ble_eq_true rfl) (Nat.le_of_ble_eq_true rfl) ?_
  refine sp_Ho_handle hE hB hW hi n0 n1 ?_
  refine ⟨_, rfl, ?_⟩
  refine wp_iload_n (pc := 9) d_St_takeIn_9 rfl ?_
  refine wv_callV (n := 2) (As := [_, _]) (pc := 10) d_St_takeIn_10 s_St_123 q_Ha_give ⟨by decide, by decide⟩ (hW.ha hi) rfl rfl rfl rfl (Nat.le_of_ble_eq_true rfl) (Nat.le_of_ble_eq_true rfl) ?_
  refine sp_Ha_give hE hB hW hi hG hL5 (fun g A2 N2 V2 hW hn2 hgv => ?_)
  refine ⟨_, rfl, ?_⟩
  refine wp_iload_n (pc := 13) d_St_takeIn_13 rfl ?_
  refine wp_aload_n (pc := 14) d_St_takeIn_14 rfl ?_
  refine wp_getfield (pc := 15) d_St_takeIn_15 f_St_42 (hW.st hi) rfl ?_
  simp (disch := omega) only [zup_ne, zup_eq]
  refine wn_callV (n := 3) (As := [_, _, _]) (pc := 18) d_St_takeIn_18 s_St_127 q_Ho_hang ⟨by decide, by decide⟩ (hW.hk hi (by omega) (by omega)) rfl rfl rfl rfl (Nat.le_of_ble_eq_true rfl) (Nat.le_of_ble_eq_true rfl) ?_
  refine sp_Ho_hang hE hB hW hi n0 n1 (fun g hW => ?_)
  refine ⟨rfl, ?_⟩
  refine wp_iload_n (pc := 21) d_St_takeIn_21 rfl ?_
  refine wv_callSN (n := 1) (As := [_]) (pc := 22) d_St_takeIn_22 s_St_131 q_Yt_isGuest ⟨by decide, by decide⟩ rfl rfl rfl (Nat.le_of_ble_eq_true rfl) (Nat.le_of_ble_eq_true rfl) ?_
  refine sp_Yt_isGuest ⟨by omega, by omega⟩ ?_
  refine ⟨_, rfl, ?_⟩
  refine zp_ifb_eq (tgt := 38) (pc := 25) d_St_takeIn_25 (by decide) (fun c25 => absurd (show 0 ≤ y ∧ y ≤ 19 from ⟨y0, y1⟩) c25) (fun c25 => ?_)
  refine wp_aload_n (pc := 28) d_St_takeIn_28 rfl ?_
  refine wp_getfield (pc := 29) d_St_takeIn_29 f_St_39 (hW.st hi) rfl ?_
  refine wp_iload_n (pc := 32) d_St_takeIn_32 rfl ?_
  refine wp_dup2 (pc := 33) d_St_takeIn_33 rfl rfl ?_
  refine zp_iaload (pc := 34) d_St_takeIn_34 hE.1 (hW.tk hi) (by omega) (by omega) (by decide) ?_
  rw [cut_at (by omega) (by omega)]
  simp (disch := omega) only [zup_ne, zup_eq]
  refine wp_iconst (pc := 35) d_St_takeIn_35 ?_
  refine zp_iadd (pc := 36) d_St_takeIn_36 ?_
  refine zp_iastore (pc := 37) d_St_takeIn_37 hE.1 (hW.tk hi) (by omega) (by omega) (by omega) (by decide) ?_
  refine pw_w14 hW hi (by omega) (by omega) (fun h hW => ?_)
  refine wp_aload_n (pc := 38) d_St_takeIn_38 rfl ?_
  refine wp_getfield (pc := 39) d_St_takeIn_39 f_St_31 (hW.st hi) rfl ?_
  refine wp_iconst (pc := 42) d_St_takeIn_42 ?_
  refine wp_aload_n (pc := 43) d_St_takeIn_43 rfl ?_
  refine wv_callV (n := 0) (As := []) (pc := 44) d_St_takeIn_44 s_St_119 q_Ho_handle ⟨by decide, by decide⟩ (hW.hk hi (by omega) (by omega)) rfl rfl rfl rfl (Nat.le_of_ble_eq_true rfl) (Nat.le_of_ble_eq_true rfl) ?_
  refine sp_Ho_handle hE hB hW hi n0 n1 ?_
  refine ⟨_, rfl, ?_⟩
  simp (disch := omega) only [hdl, zup_ne, zup_eq]
  refine wp_aload_n (pc := 47) d_St_takeIn_47 rfl ?_
  refine wp_getfield (pc := 48) d_St_takeIn_48 f_St_42 (hW.st hi) rfl ?_
  simp (disch := omega) only [zup_ne, zup_eq]
  refine wn_callV (n := 3) (As := [_, _, _]) (pc := 51) d_St_takeIn_51 s_St_134 q_Lg_add ⟨by decide, by decide⟩ (hW.lg hi) rfl rfl rfl rfl (Nat.le_of_ble_eq_true rfl) (Nat.le_of_ble_eq_true rfl) ?_
  refine sp_Lg_add hE hB hW hi (by simp (disch := omega) only [zup_ne]; exact h13) (by omega) (by omega) (by omega) (fun g hW => ?_)
  refine ⟨rfl, ?_⟩
  refine wp_aload_n (pc := 54) d_St_takeIn_54 rfl ?_
  refine wv_callV (n := 0) (As := []) (pc := 55) d_St_takeIn_55 s_St_119 q_Ho_handle ⟨by decide, by decide⟩ (hW.hk hi (by omega) (by omega)) rfl rfl rfl rfl (Nat.le_of_ble_eq_true rfl) (Nat.le_of_ble_eq_true rfl) ?_
  refine sp_Ho_handle hE hB hW hi n0 n1 ?_
  refine ⟨_, rfl, ?_⟩
  simp (disch := omega) only [hdl, lgD, rlF, zup_ne, zup_eq]
  have hhb2 : 0 ≤ 100 * n + F (29 + 8 * n + 0) ∧ 100 * n + F (29 + 8 * n + 0) ≤ 5999 := hhb
  refine wv_callSN (n := 1) (As := [_]) (pc := 58) d_St_takeIn_58 s_St_137 q_Yt_tagWithCheck ⟨by decide, by decide⟩ rfl rfl rfl (Nat.le_of_ble_eq_true rfl) (Nat.le_of_ble_eq_true rfl) ?_
  refine sp_Yt_tagWithCheck (by omega) (by omega) ?_
  refine ⟨_, rfl, ?_⟩
  refine zp_ireturn (pc := 61) d_St_takeIn_61 rfl ?_
  exact k _ _ _ _ hW hn2 hgv
theorem utk_eq {nv n y z j : Int} (hV : Vd nv F) (n0 : 0 ≤ n) (n1 : n < 60) (y0 : 0 ≤ y) (y1 : y ≤ 19) (j0 : 0 ≤ j) (j1 : j < 559) (h1 : j ≠ 29 + 8 * n + 1) (h2 : j ≠ 29 + 8 * n + 2) : u_tk F n y z j = tkF F n y z j := by
  have hk := (hV.2.2.2.1 n n0 n1).1
  unfold u_tk tkF lgD lgF hgF hdl
  rw [show tmx 0 = 6 from rfl]
  generalize hs : F 13 % 10 = s
  have hs1 : 0 ≤ s ∧ s < 10 := by omega
  simp (disch := omega) only [zup_ne, zup_eq, hs]
  by_cases q0 : j = 529 + 3 * s
  · subst q0; simp (disch := omega) only [zup_ne, zup_eq]
  by_cases q1 : j = 529 + 3 * s + 1
  · subst q1; simp (disch := omega) only [zup_ne, zup_eq]
  by_cases q2 : j = 529 + 3 * s + 2
  · subst q2; simp (disch := omega) only [zup_ne, zup_eq]
  by_cases q3 : j = 13
  · subst q3; simp (disch := omega) only [zup_ne, zup_eq]
  by_cases q4 : j = 6
  · subst q4; simp (disch := omega) only [zup_ne, zup_eq]
  by_cases q5 : j = 509 + y
  · subst q5; simp (disch := omega) only [zup_ne, zup_eq]
  by_cases q6 : j = 29 + 8 * n + 3
  · subst q6; simp (disch := omega) only [zup_ne, zup_eq]
  by_cases q7 : j = 29 + 8 * n + 4
  · subst q7; simp (disch := omega) only [zup_ne, zup_eq]
  by_cases q8 : j = 5
  · subst q8; simp (disch := omega) only [zup_ne, zup_eq]
  simp (disch := omega) only [zup_ne, zup_eq]
theorem utk_f {nv n y z : Int} (hV : Vd nv F) (n0 : 0 ≤ n) (n1 : n < 60) (y0 : 0 ≤ y) (y1 : y ≤ 19) : u_tk F n y z 5 = F 5 + 1 ∧ u_tk F n y z (29 + 8 * n + 1) = 1 ∧ u_tk F n y z (559 + hdl F n) = 1 + 16 * y ∧ (∀ x : Int, 0 ≤ x → x < 6000 → x ≠ hdl F n → u_tk F n y z (559 + x) = F (559 + x)) ∧
    (∀ x : Int, 0 ≤ x → x < 60 → u_tk F n y z (29 + 8 * x + 0) = F (29 + 8 * x + 0) ∧ (x ≠ n → u_tk F n y z (29 + 8 * x + 1) = F (29 + 8 * x + 1))) := by
  have hb := hdl_b hV n0 n1
  unfold u_tk
  refine ⟨?_, ?_, ?_, fun x x0 x1 xn => ?_, fun x x0 x1 => ⟨?_, fun xn => ?_⟩⟩
  · rw [lgF_o (by omega) (by omega), zup_ne _ _ (by omega), zup_ne _ _ (by omega)]
    exact zup_eq _ _ _
  · rw [lgF_o (by omega) (by omega), zup_ne _ _ (by omega), zup_ne _ _ (by omega)]
    unfold hgF
    simp (disch := omega) only [zup_ne, zup_eq]
  · rw [lgF_o (by omega) (by omega), zup_ne _ _ (by omega), zup_ne _ _ (by omega)]
    unfold hgF
    rw [zup_ne _ _ (by omega), zup_eq]
  · rw [lgF_o (by omega) (by omega), zup_ne _ _ (by omega), zup_ne _ _ (by omega), hgF_o (by omega) (by omega) (by omega) (by omega) (by omega) (by omega)]
  · rw [lgF_o (by omega) (by omega), zup_ne _ _ (by omega), zup_ne _ _ (by omega), hgF_o (by omega) (by omega) (by omega) (by omega) (by omega) (by omega)]
  · rw [lgF_o (by omega) (by omega), zup_ne _ _ (by omega), zup_ne _ _ (by omega), hgF_o (by omega) (by omega) (by omega) (by omega) (by omega) (by omega)]
theorem RI.add {nv n y z : Int} {N2 : Nat} {V2 : Nat → Int → Int} (hJ : J nv F) (hR : RI F t N V) (n0 : 0 ≤ n) (n1 : n < 60) (hf : ¬ 0 < F (559 + hdl F n)) (y0 : 0 ≤ y) (y1 : y ≤ 19) (hN : F 5 + 1 ≤ (N2 : Int)) (hg : GV V V2 (F 5) (hdl F n) y) : RI (u_tk F n y z) (zup t n (F 5)) N2 V2 := by
  have hV := hJ.vd
  obtain ⟨f5, f1, fh, fz, fx⟩ := utk_f (z := z) hV n0 n1 y0 y1
  obtain ⟨ga, g0, g1, g2, g3⟩ := hg
  have h5 := hR.1
  have hb := hdl_b hV n0 n1
  have hne : ∀ e : Int, 0 ≤ e → e < F 5 → V 0 e ≠ hdl F n := fun e e0 e1 q => by
    have := (hR.vl e0 e1).2.2
    rw [q] at this
    exact hf this
  refine ⟨by rw [f5]; omega, fun e e0 e1 => ?_, fun e e' e0 e1 e2 e3 q => ?_, fun x x0 x1 q => ?_, fun x x0 x1 => ?_⟩
  · rw [f5] at e1 ⊢
    by_cases he : e = F 5
    · rw [he, g0, g1, g2, g3, fh, if_pos rfl]
      refine ⟨by omega, Or.inl rfl, by omega, by omega, by omega⟩
    · obtain ⟨q0, q1, q2, q3, q4⟩ := hR.2.1 e e0 (by omega)
      rw [ga 0 (by omega) e e0 (by omega), ga 1 (by omega) e e0 (by omega), ga 2 (by omega) e e0 (by omega), ga 3 (by omega) e e0 (by omega), fz _ q0.1 q0.2 (hne e e0 (by omega)), q4]
      refine ⟨q0, by omega, q2, q3, ?_⟩
      by_cases q : V 1 e = -1
      · rw [if_pos q, if_pos q]
      · rw [if_neg q, if_neg q, ga 0 (by omega) (V 1 e) (by omega) (by omega)]
  · rw [f5] at e1 e3
    by_cases he : e = F 5
    · by_cases he' : e' = F 5
      · omega
      · rw [he, g0, ga 0 (by omega) e' e2 (by omega)] at q
        exact absurd q.symm (hne e' e2 (by omega))
    · by_cases he' : e' = F 5
      · rw [he', g0, ga 0 (by omega) e e0 (by omega)] at q
        exact absurd q (hne e e0 (by omega))
      · rw [ga 0 (by omega) e e0 (by omega), ga 0 (by omega) e' e2 (by omega)] at q
        exact hR.2.2.1 e e' e0 (by omega) e2 (by omega) q
  · rw [f5]
    by_cases hx : x = hdl F n
    · exact ⟨F 5, by omega, by omega, by rw [g0, hx]⟩
    · rw [fz x x0 x1 hx] at q
      obtain ⟨e, e0, e1, e2⟩ := hR.2.2.2.1 x x0 x1 q
      exact ⟨e, e0, by omega, by rw [ga 0 (by omega) e e0 e1, e2]⟩
  · rw [f5]
    obtain ⟨w0, w1⟩ := fx x x0 x1
    by_cases hx : x = n
    · subst hx
      rw [zup_eq, f1, hdl_congr w0, g0]
      exact ⟨fun _ => ⟨by omega, by omega, rfl⟩, fun q => absurd rfl q⟩
    · rw [zup_ne _ _ hx, w1 hx, hdl_congr w0]
      refine ⟨fun q => ?_, (hR.2.2.2.2 x x0 x1).2⟩
      have := (hR.2.2.2.2 x x0 x1).1 q
      exact ⟨this.1, by omega, by rw [ga 0 (by omega) _ this.1 this.2.1]; exact this.2.2⟩
theorem sp_St_takeIn2 (hE : gOk E) (hB : gB E ≤ B) (hW : CN B S h0 X T i h (F, t, A, N, V)) (hi : i < 6) {nv : Int} (hJ : J nv F) (hn : nv ≤ 100000000) (hR : RI F t N V) {n : Int} (n0 : 0 ≤ n) (n1 : n < 60) {z : Int} (hf : isFr F n z) (hz : 1 ≤ z ∧ z ≤ 5) {y : Int} (y0 : 0 ≤ y) (y1 : y ≤ 19) (k : ∀ (g : gH) (t2 : Int → Int) (A2 : Nat → Nat) (N2 : Nat) (V2 : Nat → Int → Int), CN B S h0 X T i g (u_tk F n y z, t2, A2, N2, V2) → RI (u_tk F n y z) t2 N2 V2 → Q (some (.int (zI (tb (hdl F n))))) g) : Wp E m_St_takeIn 0 (gEnt m_St_takeIn [.ref (sA B i), .int (zI y), .int (zI z), .ref (hA B i n)]) [] h Q := by
  have hk := (hJ.vd.2.2.2.1 n n0 n1).2.1
  have hb := hdl_b hJ.vd n0 n1
  have hz : ¬ 0 < F (559 + hdl F n) := by
    have := hJ.2.2.1 n n0 n1 (by omega) hf.2.2.1
    omega
  exact sp_St_takeIn hE hB hW hi hJ hn hR n0 n1 (hR.free (by omega) (by omega) hz) y0 y1 fun g A2 N2 V2 hW2 hn2 hgv => k g _ _ _ _ (hW2.gh hi n0 n1 fun j j0 j1 q1 q2 => utk_eq hJ.vd n0 n1 y0 y1 j0 j1 q1 q2) (hR.add hJ n0 n1 hz y0 y1 hn2 hgv)
end S45
