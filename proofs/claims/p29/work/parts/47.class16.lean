/-! ===== the class: a day, a rack ===== -/
section S47
variable {E : gE} {B S : Nat} {h0 h : gH} {X : Nat → SC} {T : TC} {i : Nat} {Y : SC} {F t : Int → Int} {A : Nat → Nat} {N : Nat} {V : Nat → Int → Int} {Q : Option Value → gH → Prop}
theorem RI.day {v : Int} (hR : RI F t N V) : RI (zup F 0 v) t N V := by
  have e : ∀ j : Int, 1 ≤ j → zup F 0 v j = F j := fun j hj => zup_ne _ _ (by omega)
  refine ⟨by rw [e 5 (by omega)]; exact hR.1, fun a a0 a1 => ?_, fun a b a0 a1 b0 b1 q => ?_, fun z z0 z1 q => ?_, fun x x0 x1 => ?_⟩
  · rw [e 5 (by omega)] at a1 ⊢
    have := hR.2.1 a a0 a1
    rw [e _ (by omega)]
    exact this
  · rw [e 5 (by omega)] at a1 b1
    exact hR.2.2.1 a b a0 a1 b0 b1 q
  · rw [e 5 (by omega)]
    rw [e _ (by omega)] at q
    exact hR.2.2.2.1 z z0 z1 q
  · rw [e 5 (by omega), e _ (by omega), hdl_congr (e (29 + 8 * x + 0) (by omega))]
    exact hR.2.2.2.2 x x0 x1
set_option maxRecDepth 100000 in
theorem sp_St_rackAt1 (hE : gOk E) (hB : gB E ≤ B) (hW : CN B S h0 X T i h (F, t, A, N, V)) (hi : i < 6) (h1 : 0 ≤ F 1 ∧ F 1 ≤ 5) {x : Int} (rx : gR x) (hx : 0 ≤ x ∧ x < F 1) (k : Q (some (.ref (rA B i x))) h) : Wp E m_St_rackAt 0 (gEnt m_St_rackAt [.ref (sA B i), .int (zI x)]) [] h Q := by
  show Wp E m_St_rackAt 0 [some (_), some (_)] [] _ _
  refine wp_iload_n (pc := 0) d_St_rackAt_0 rfl ?_
  refine zp_if_lt (tgt := 26) (pc := 1) d_St_rackAt_1 (by decide) rx (fun c1 => absurd c1 (by omega)) (fun c1 => ?_)
  refine wp_iload_n (pc := 4) d_St_rackAt_4 rfl ?_
  refine wp_aload_n (pc := 5) d_St_rackAt_5 rfl ?_
  refine wp_getfield (pc := 6) d_St_rackAt_6 f_St_17 (hW.st hi) rfl ?_
  refine zp_icmp_ge (tgt := 26) (pc := 9) d_St_rackAt_9 (by decide) rx ⟨by omega, by omega⟩ (fun c9 => absurd c9 (by omega)) (fun c9 => ?_)
  refine wp_iload_n (pc := 12) d_St_rackAt_12 rfl ?_
  refine wp_iconst (pc := 13) d_St_rackAt_13 ?_
  refine zp_icmp_ge (tgt := 26) (pc := 14) d_St_rackAt_14 (by decide) rx ⟨by omega, by omega⟩ (fun c14 => absurd c14 (by omega)) (fun c14 => ?_)
  refine wp_aload_n (pc := 17) d_St_rackAt_17 rfl ?_
  refine wp_getfield (pc := 18) d_St_rackAt_18 f_St_11 (hW.st hi) rfl ?_
  refine wp_iload_n (pc := 21) d_St_rackAt_21 rfl ?_
  refine zp_aaload (pc := 22) d_St_rackAt_22 (f := fun r : Int => .ref (rA B i r)) hE.2.2.1 (hW.rs hi) (by omega) (by omega) (by decide) ?_
  refine wp_goto (tgt := 27) (pc := 23) d_St_rackAt_23 (by decide) ?_
  refine wp_areturn (pc := 27) d_St_rackAt_27 rfl (Or.inl ⟨_, rfl⟩) (Or.inr ⟨_, rfl⟩) ?_
  exact k
set_option maxRecDepth 100000 in
theorem lp_St_passOneDay (hE : gOk E) (hB : gB E ≤ B) (hi : i < 6) {nv : Int} (hJ : J nv F) (hn : nv ≤ 90000000) (k : ∀ (g : gH) (t2 : Int → Int) (V2 : Nat → Int → Int), CN B S h0 X T i g ((pdS F 60).2, t2, A, N, V2) → RI (pdS F 60).2 t2 N V2 → Q (some (.int (zI (pdS F 60).1))) g) :
    ∀ (d x : Nat) (o : Option Value) (h : gH) (t : Int → Int) (V : Nat → Int → Int), x + d = 60 → CN B S h0 X T i h ((pdS F x).2, t, A, N, V) → RI (pdS F x).2 t N V → Wp E m_St_passOneDay 14 [some (.ref (sA B i)), some (.int (zI (pdS F x).1)), some (.int (zI x)), o] [] h Q := by
  intro d
  induction d with
  | zero =>
    intro x o h t V hx hW hR
    obtain rfl : x = 60 := by omega
    refine wp_iload_n (pc := 14) d_St_passOneDay_14 rfl ?_
    refine zp_bipush (pc := 15) d_St_passOneDay_15 (by decide) ?_
    refine zp_icmp_ge (tgt := 71) (pc := 17) d_St_passOneDay_17 (by decide) ⟨by omega, by omega⟩ ⟨by omega, by omega⟩ (fun c17 => ?_) (fun c17 => absurd c17 (by omega))
    refine wp_iload_n (pc := 71) d_St_passOneDay_71 rfl ?_
    refine zp_ireturn (pc := 72) d_St_passOneDay_72 rfl ?_
    exact k _ _ _ hW hR
  | succ d ih =>
    intro x o h t V hx hW hR
    have hJp := hJ.pd x (by omega)
    generalize hP : pdS F x = P at hW hR hJp ⊢
    have hJ2 := hJp.1
    have hn2 : nv + 3 * (x : Int) ≤ 100000000 := by omega
    have hV := hJ2.vd
    have hN := hW.aN hi
    have hG := hR.1
    have hT := hR.rT hN.2
    have hs := hV.1
    have hk := hV.2.2.2.1 x (by omega) (by omega)
    refine wp_iload_n (pc := 14) d_St_passOneDay_14 rfl ?_
    refine zp_bipush (pc := 15) d_St_passOneDay_15 (by decide) ?_
    refine zp_icmp_ge (tgt := 71) (pc := 17) d_St_passOneDay_17 (by decide) ⟨by omega, by omega⟩ ⟨by omega, by omega⟩ (fun c17 => absurd c17 (by omega)) (fun c17 => ?_)
    refine wp_aload_n (pc := 20) d_St_passOneDay_20 rfl ?_
    refine wp_iload_n (pc := 21) d_St_passOneDay_21 rfl ?_
    have hho := hR.hold hJ2 (n := x) (by omega) (by omega)
    rcases Decidable.em (isHk P.2 x ∧ ¬ t x = -1) with c22 | c22
    · refine wv_callV (n := 1) (As := [_]) (pc := 22) d_St_passOneDay_22 s_St_170 q_St_coatAt ⟨by decide, by decide⟩ (hW.st hi) rfl rfl rfl rfl (Nat.le_of_ble_eq_true rfl) (Nat.le_of_ble_eq_true rfl) ?_
      refine sp_St_coatAt hE hB hW hi hV hT ⟨by omega, by omega⟩ (fun q => absurd c22 q) (fun _ => ?_)
      refine ⟨_, rfl, ?_⟩
      refine st_a3 (pc := 25) d_St_passOneDay_25 (by decide) ?_
      refine wp_aload_n (pc := 26) d_St_passOneDay_26 rfl ?_
      refine wp_ifnull (pc := 27) d_St_passOneDay_27 ?_
      refine wp_aload_n (pc := 30) d_St_passOneDay_30 rfl ?_
      refine wp_getfield (pc := 31) d_St_passOneDay_31 f_St_42 (hW.st hi) rfl ?_
      refine wp_aload_n (pc := 34) d_St_passOneDay_34 rfl ?_
      refine wp_getfield (pc := 35) d_St_passOneDay_35 f_St_153 (hW.hk hi (by omega) (by omega)) rfl ?_
      refine zp_isub (pc := 38) d_St_passOneDay_38 ?_
      refine wp_aload_n (pc := 39) d_St_passOneDay_39 rfl ?_
      refine wp_getfield (pc := 40) d_St_passOneDay_40 f_St_35 (hW.st hi) rfl ?_
      refine wp_iconst (pc := 43) d_St_passOneDay_43 ?_
      refine zp_iaload (pc := 44) d_St_passOneDay_44 hE.1 (hW.se hi) (by omega) (by omega) (by decide) ?_
      rw [cut_at (by omega) (by omega)]
      simp only [show (2 : Int) + 2 = 4 from rfl]
      refine zp_icmp_le (tgt := 65) (pc := 45) d_St_passOneDay_45 (by decide) ⟨by omega, by omega⟩ ⟨by omega, by omega⟩ (fun c45 => ?_) (fun c45 => ?_)
      · refine st_c2 (pc := 65) d_St_passOneDay_65 (by decide) ?_
        refine wp_goto (tgt := 14) (pc := 68) d_St_passOneDay_68 (by decide) ?_
        have e : ((x + 1 : Nat) : Int) = (x : Int) + 1 := by omega
        have es : pdS F (x + 1) = P := (pdS_s F x P hP).trans (if_neg fun q => absurd q.2 (by omega))
        have zz := ih (x + 1) (some (.ref (hA B i x))) _ _ _ (by omega) (by rw [es]; exact hW) (by rw [es]; exact hR)
        rw [e, es] at zz
        exact zz
      · refine wp_aload_n (pc := 48) d_St_passOneDay_48 rfl ?_
        refine wp_aload_n (pc := 49) d_St_passOneDay_49 rfl ?_
        refine wp_iconst (pc := 50) d_St_passOneDay_50 ?_
        refine zp_bipush (pc := 51) d_St_passOneDay_51 (by decide) ?_
        refine wp_aload_n (pc := 53) d_St_passOneDay_53 rfl ?_
        refine wp_getfield (pc := 54) d_St_passOneDay_54 f_St_150 (hW.hk hi (by omega) (by omega)) rfl ?_
        refine zp_imul (pc := 57) d_St_passOneDay_57 ?_
        refine wv_callV (n := 3) (As := [_, _, _]) (pc := 58) d_St_passOneDay_58 s_St_173 q_St_handOver ⟨by decide, by decide⟩ (hW.st hi) rfl rfl rfl rfl (Nat.le_of_ble_eq_true rfl) (Nat.le_of_ble_eq_true rfl) ?_
        refine sp_St_handOver2 hE hB hW hi hJ2 hn2 hR (by omega) (by omega) (hho.1 c22) (by omega) (by omega) (fun g t V hW hR => ?_)
        refine ⟨_, rfl, ?_⟩
        refine wp_pop (pc := 61) d_St_passOneDay_61 rfl ?_
        refine st_c1 (pc := 62) d_St_passOneDay_62 (by decide) ?_
        refine st_c2 (pc := 65) d_St_passOneDay_65 (by decide) ?_
        refine wp_goto (tgt := 14) (pc := 68) d_St_passOneDay_68 (by decide) ?_
        have e : ((x + 1 : Nat) : Int) = (x : Int) + 1 := by omega
        have es : pdS F (x + 1) = (P.1 + 1, enU P.2 x 4 (10 * P.2 (29 + 8 * (x : Int) + 3))) := (pdS_s F x P hP).trans (if_pos ⟨hho.1 c22, by omega⟩)
        have zz := ih (x + 1) (some (.ref (hA B i x))) _ _ _ (by omega) (by rw [es]; exact hW) (by rw [es]; exact hR)
        rw [e, es] at zz
        exact zz
    · refine wv_callV (n := 1) (As := [_]) (pc := 22) d_St_passOneDay_22 s_St_170 q_St_coatAt ⟨by decide, by decide⟩ (hW.st hi) rfl rfl rfl rfl (Nat.le_of_ble_eq_true rfl) (Nat.le_of_ble_eq_true rfl) ?_
      refine sp_St_coatAt hE hB hW hi hV hT ⟨by omega, by omega⟩ (fun _ => ?_) (fun q => absurd q c22)
      refine ⟨_, rfl, ?_⟩
      refine st_N3 (pc := 25) d_St_passOneDay_25 (by decide) ?_
      refine wp_aload_nN (pc := 26) d_St_passOneDay_26 rfl ?_
      refine wp_ifnullN (tgt := 65) (pc := 27) d_St_passOneDay_27 (by decide) ?_
      refine st_c2 (pc := 65) d_St_passOneDay_65 (by decide) ?_
      refine wp_goto (tgt := 14) (pc := 68) d_St_passOneDay_68 (by decide) ?_
      have e : ((x + 1 : Nat) : Int) = (x : Int) + 1 := by omega
      have es : pdS F (x + 1) = P := (pdS_s F x P hP).trans (if_neg fun q => c22 (hho.2 q.1))
      have zz := ih (x + 1) (some .null) _ _ _ (by omega) (by rw [es]; exact hW) (by rw [es]; exact hR)
      rw [e, es] at zz
      exact zz
set_option maxRecDepth 100000 in
theorem sp_St_passOneDay (hE : gOk E) (hB : gB E ≤ B) (hW : CN B S h0 X T i h (F, t, A, N, V)) (hi : i < 6) {nv : Int} (hJ : J nv F) (hn : nv ≤ 90000000) (hR : RI F t N V) (hd : F 0 + 1 ≤ 9999) (k : ∀ (g : gH) (t2 : Int → Int) (V2 : Nat → Int → Int), CN B S h0 X T i g ((pdS (zup F 0 (F 0 + 1)) 60).2, t2, A, N, V2) → RI (pdS (zup F 0 (F 0 + 1)) 60).2 t2 N V2 → Q (some (.int (zI (pdS (zup F 0 (F 0 + 1)) 60).1))) g) : Wp E m_St_passOneDay 0 (gEnt m_St_passOneDay [.ref (sA B i)]) [] h Q := by
  have hb := sA_b B hi
  show Wp E m_St_passOneDay 0 [some (_), none, none, none] [] _ _
  refine wp_aload_n (pc := 0) d_St_passOneDay_0 rfl ?_
  refine wp_dup (pc := 1) d_St_passOneDay_1 rfl ?_
  refine wp_getfield (pc := 2) d_St_passOneDay_2 f_St_42 (hW.st hi) rfl ?_
  refine wp_iconst (pc := 5) d_St_passOneDay_5 ?_
  refine zp_iadd (pc := 6) d_St_passOneDay_6 ?_
  refine zp_putI (pc := 7) d_St_passOneDay_7 f_St_42 (hW.st hi) (by omega) (Or.inl rfl) ?_
  refine pw_s6 hW hi (fun h hW => ?_)
  refine wp_iconst (pc := 10) d_St_passOneDay_10 ?_
  refine st_i1 (pc := 11) d_St_passOneDay_11 (by decide) ?_
  refine wp_iconst (pc := 12) d_St_passOneDay_12 ?_
  refine st_i2 (pc := 13) d_St_passOneDay_13 (by decide) ?_
  exact lp_St_passOneDay hE hB hi (hJ.day hd) hn k 60 0 none _ _ _ rfl hW hR.day
set_option maxRecDepth 100000 in
theorem sp_St_setUpRack (hE : gOk E) (hB : gB E ≤ B) (hW : CN B S h0 X T i h (F, t, A, N, V)) (hi : i < 6) {nv : Int} (hJ : J nv F) (hn : nv ≤ 100000000) (hR : RI F t N V) (h4 : F 1 ≤ 4) {a b : Int} (k : ∀ g, CN B S h0 X T i g (u_ar F a b, t, A, N, V) → Q (some (.int (zI (F 1)))) g) : Wp E m_St_setUpRack 0 (gEnt m_St_setUpRack [.ref (sA B i), .int (zI a), .int (zI b)]) [] h Q := by
  have hV := hJ.vd
  have hN := hW.aN hi
  have hG := hR.1
  have hT := hR.rT hN.2
  have hL := hR.rL
  have hs := hV.1
  have hb := sA_b B hi
  have hrb := rA_ge (B := B) (F 1) hi
  show Wp E m_St_setUpRack 0 [some (_), some (_), some (_), none, none] [] _ _
  refine wp_aload_n (pc := 0) d_St_setUpRack_0 rfl ?_
  refine wp_getfield (pc := 1) d_St_setUpRack_1 f_St_17 (hW.st hi) rfl ?_
  refine st_i3 (pc := 4) d_St_setUpRack_4 (by decide) ?_
  refine wp_aload_n (pc := 5) d_St_setUpRack_5 rfl ?_
  refine wp_iload_n (pc := 6) d_St_setUpRack_6 rfl ?_
  refine wp_iconst (pc := 7) d_St_setUpRack_7 ?_
  refine zp_iadd (pc := 8) d_St_setUpRack_8 ?_
  refine zp_putI (pc := 9) d_St_setUpRack_9 f_St_17 (hW.st hi) (by omega) (Or.inl rfl) ?_
  refine pw_s1 hW hi (fun h hW => ?_)
  refine wp_aload_n (pc := 12) d_St_setUpRack_12 rfl ?_
  refine wp_iload_n (pc := 13) d_St_setUpRack_13 rfl ?_
  refine wv_callV (n := 1) (As := [_]) (pc := 14) d_St_setUpRack_14 s_St_54 q_St_rackAt ⟨by decide, by decide⟩ (hW.st hi) rfl rfl rfl rfl (Nat.le_of_ble_eq_true rfl) (Nat.le_of_ble_eq_true rfl) ?_
  refine sp_St_rackAt1 hE hB hW hi (by rw [zup_eq]; omega) ⟨by omega, by omega⟩ (by rw [zup_eq]; omega) ?_
  refine ⟨_, rfl, ?_⟩
  refine st_a4 (pc := 17) d_St_setUpRack_17 (by decide) ?_
  refine wp_aload (pc := 19) d_St_setUpRack_19 rfl ?_
  refine wp_ifnull (pc := 21) d_St_setUpRack_21 ?_
  refine wp_aload (pc := 24) d_St_setUpRack_24 rfl ?_
  refine wp_iload_n (pc := 26) d_St_setUpRack_26 rfl ?_
  refine zp_putI (pc := 27) d_St_setUpRack_27 f_St_69 (hW.rk hi (by omega) (by omega)) (by omega) (Or.inl rfl) ?_
  refine pw_k1 hW hi (by omega) (by omega) (fun h hW => ?_)
  refine wp_aload (pc := 30) d_St_setUpRack_30 rfl ?_
  refine wp_iload_n (pc := 32) d_St_setUpRack_32 rfl ?_
  refine zp_putI (pc := 33) d_St_setUpRack_33 f_St_72 (hW.rk hi (by omega) (by omega)) (by omega) (Or.inl rfl) ?_
  refine pw_k2 hW hi (by omega) (by omega) (fun h hW => ?_)
  refine wp_aload (pc := 36) d_St_setUpRack_36 rfl ?_
  refine wp_iconst (pc := 38) d_St_setUpRack_38 ?_
  refine wp_putfield (pc := 39) d_St_setUpRack_39 f_St_75 (hW.rk hi (by omega) (by omega)) (by omega) rfl rfl (Or.inl rfl) ?_
  refine pw_k3 hW hi (by omega) (by omega) (fun h hW => ?_)
  refine wp_iload_n (pc := 42) d_St_setUpRack_42 rfl ?_
  refine zp_ireturn (pc := 43) d_St_setUpRack_43 rfl ?_
  refine k _ (hW.to (fun j _ _ => ?_) (fun _ _ _ => rfl))
  unfold u_ar zup
  (repeat' split) <;> first | rfl | omega
end S47
