/-! ===== the class: acts on racks, hooks, settings ===== -/
section S62
variable {E : gE} {B S : Nat} {h0 h : gH} {X : Nat → SC} {T : TC} {i : Nat} {Y : SC} {F t : Int → Int} {A : Nat → Nat} {N : Nat} {V : Nat → Int → Int} {Q : Option Value → gH → Prop}
variable {b nw sz ln tc : Int} {ch tg cp : Int → Int}
set_option maxRecDepth 100000 in
theorem sp_Yt_addRack (hE : gOk E) (hB : gB E ≤ B) (hW : CN B S h0 X ((b, nw, sz, ln, tc), ch, tg, cp) 0 h (F, t, A, N, V)) (n0 : 0 ≤ nw ∧ nw < 4) (z0 : 0 ≤ sz ∧ sz ≤ 4) {nv : Int} (hJ : J nv F) (hn : nv ≤ 80000000) (hR : RI F t N V) (hGA : ∀ q : Nat, q < 6 → 0 ≤ xR (X q) 5 ∧ xR (X q) 5 ≤ (xN (X q) : Int)) {x y : Int} (rx : gR x) (ry : gR y) (k0 : c_ar F x y < 0 → Q (some (.int (zI (c_ar F x y)))) h) (k1 : ¬ c_ar F x y < 0 → ∀ (g : gH) (A3 : Nat → Nat) (N3 : Nat) (V3 : Nat → Int → Int) (t2 : Int → Int) (A2 : Nat → Nat) (N2 : Nat) (V2 : Nat → Int → Int), CN B S h0 (upX X (2 + ((nw + 1) % 4).toNat) (F, t, A3, N3, V3)) ((b, (nw + 1) % 4, if 4 < sz + 1 then 4 else sz + 1, ln, tc), ch, tg, cp) 0 g (u_ar F x y, t2, A2, N2, V2) → RI F t N3 V3 → RI (u_ar F x y) t2 N2 V2 → Q (some (.int (zI (c_ar F x y)))) g) : Wp E m_Yt_addRack 0 (gEnt m_Yt_addRack [.ref B, .int (zI x), .int (zI y)]) [] h Q := by
  have hi : (0 : Nat) < 6 := by decide
  have hn2 : nv ≤ 100000000 := by omega
  have hV := hJ.vd
  have hN := hW.aN hi
  have hG := hR.1
  have hT := hR.rT hN.2
  have hL := hR.rL
  have hs := hV.1
  have hb := sA_b B hi
  show Wp E m_Yt_addRack 0 [some (_), some (_), some (_)] [] _ _
  refine wp_iload_n (pc := 0) d_Yt_addRack_0 rfl ?_
  refine wp_iconst (pc := 1) d_Yt_addRack_1 ?_
  refine zp_icmp_lt (tgt := 18) (pc := 2) d_Yt_addRack_2 (by decide) rx ⟨by omega, by omega⟩ (fun c2 => ?_) (fun c2 => ?_)
  · refine zp_bipush (pc := 18) d_Yt_addRack_18 (by decide) ?_
    refine zp_ireturn (pc := 20) d_Yt_addRack_20 rfl ?_
    have e : c_ar F x y = -2 := by
      unfold c_ar
      (repeat' split) <;> first | rfl | omega
    rw [e] at k0
    exact k0 (by omega)
  · refine wp_iload_n (pc := 5) d_Yt_addRack_5 rfl ?_
    refine zp_bipush (pc := 6) d_Yt_addRack_6 (by decide) ?_
    refine zp_icmp_gt (tgt := 18) (pc := 8) d_Yt_addRack_8 (by decide) rx ⟨by omega, by omega⟩ (fun c8 => ?_) (fun c8 => ?_)
    · refine zp_bipush (pc := 18) d_Yt_addRack_18 (by decide) ?_
      refine zp_ireturn (pc := 20) d_Yt_addRack_20 rfl ?_
      have e : c_ar F x y = -2 := by
        unfold c_ar
        (repeat' split) <;> first | rfl | omega
      rw [e] at k0
      exact k0 (by omega)
    · refine wp_iload_n (pc := 11) d_Yt_addRack_11 rfl ?_
      refine wv_callS (n := 1) (As := [_]) (pc := 12) d_Yt_addRack_12 s_Yt_41 q_Yt_isSize ⟨by decide, by decide⟩ rfl rfl rfl (Nat.le_of_ble_eq_true rfl) (Nat.le_of_ble_eq_true rfl) ?_
      refine sp_Yt_isSize ry ?_
      refine ⟨_, rfl, ?_⟩
      refine zp_ifb_ne (tgt := 21) (pc := 15) d_Yt_addRack_15 (by decide) (fun c15 => ?_) (fun c15 => ?_)
      · refine wp_aload_n (pc := 21) d_Yt_addRack_21 rfl ?_
        refine wp_getfield (pc := 22) d_Yt_addRack_22 f_Yt_10 hW.yt2 rfl ?_
        refine wp_getfield (pc := 25) d_Yt_addRack_25 f_Yt_45 (hW.st hi) rfl ?_
        refine wp_iconst (pc := 28) d_Yt_addRack_28 ?_
        refine zp_icmp_lt (tgt := 35) (pc := 29) d_Yt_addRack_29 (by decide) ⟨by omega, by omega⟩ ⟨by omega, by omega⟩ (fun c29 => ?_) (fun c29 => ?_)
        · refine wp_aload_n (pc := 35) d_Yt_addRack_35 rfl ?_
          refine wp_getfield (pc := 36) d_Yt_addRack_36 f_Yt_26 hW.yt2 rfl ?_
          refine wp_aload_n (pc := 39) d_Yt_addRack_39 rfl ?_
          refine wp_getfield (pc := 40) d_Yt_addRack_40 f_Yt_10 hW.yt2 rfl ?_
          refine wn_callV (n := 1) (As := [_]) (pc := 43) d_Yt_addRack_43 s_Yt_49 q_Hi_record ⟨by decide, by decide⟩ hW.hy2 rfl rfl rfl rfl (Nat.le_of_ble_eq_true rfl) (Nat.le_of_ble_eq_true rfl) ?_
          refine sp_Hi_record hE hB hW n0 z0 hV hR hGA (fun g A3 N3 V3 hW hR3 => ?_)
          refine ⟨rfl, ?_⟩
          refine wp_aload_n (pc := 46) d_Yt_addRack_46 rfl ?_
          refine wp_getfield (pc := 47) d_Yt_addRack_47 f_Yt_10 hW.yt2 rfl ?_
          refine wp_iload_n (pc := 50) d_Yt_addRack_50 rfl ?_
          refine wp_iload_n (pc := 51) d_Yt_addRack_51 rfl ?_
          refine wv_callV (n := 2) (As := [_, _]) (pc := 52) d_Yt_addRack_52 s_Yt_53 q_St_setUpRack ⟨by decide, by decide⟩ (hW.st hi) rfl rfl rfl rfl (Nat.le_of_ble_eq_true rfl) (Nat.le_of_ble_eq_true rfl) ?_
          refine sp_St_setUpRack hE hB hW hi hJ hn2 hR (by omega) (fun g hW => ?_)
          refine ⟨_, rfl, ?_⟩
          refine zp_ireturn (pc := 55) d_Yt_addRack_55 rfl ?_
          have e : c_ar F x y = F 1 := by
            unfold c_ar
            (repeat' split) <;> first | rfl | omega
          rw [e] at k1
          exact k1 (by omega) _ _ _ _ _ _ _ _ hW hR3 (hR.cg fun j hj => by unfold u_ar; rw [zup_ne _ _ (by omega), zup_ne _ _ (by omega), zup_ne _ _ (by omega), zup_ne _ _ (by omega)])
        · refine zp_bipush (pc := 32) d_Yt_addRack_32 (by decide) ?_
          refine zp_ireturn (pc := 34) d_Yt_addRack_34 rfl ?_
          have e : c_ar F x y = -3 := by
            unfold c_ar
            (repeat' split) <;> first | rfl | omega
          rw [e] at k0
          exact k0 (by omega)
      · refine zp_bipush (pc := 18) d_Yt_addRack_18 (by decide) ?_
        refine zp_ireturn (pc := 20) d_Yt_addRack_20 rfl ?_
        have e : c_ar F x y = -2 := by
          unfold c_ar
          (repeat' split) <;> first | rfl | omega
        rw [e] at k0
        exact k0 (by omega)
set_option maxRecDepth 100000 in
theorem sp_Yt_open (hE : gOk E) (hB : gB E ≤ B) (hW : CN B S h0 X ((b, nw, sz, ln, tc), ch, tg, cp) 0 h (F, t, A, N, V)) (n0 : 0 ≤ nw ∧ nw < 4) (z0 : 0 ≤ sz ∧ sz ≤ 4) {nv : Int} (hJ : J nv F) (hn : nv ≤ 80000000) (hR : RI F t N V) (hGA : ∀ q : Nat, q < 6 → 0 ≤ xR (X q) 5 ∧ xR (X q) 5 ≤ (xN (X q) : Int)) {x o : Int} (rx : gR x) (ho : o = 0 ∨ o = 1) (k0 : c_op F x o < 0 → Q (some (.int (zI (c_op F x o)))) h) (k1 : ¬ c_op F x o < 0 → ∀ (g : gH) (A3 : Nat → Nat) (N3 : Nat) (V3 : Nat → Int → Int) (t2 : Int → Int) (A2 : Nat → Nat) (N2 : Nat) (V2 : Nat → Int → Int), CN B S h0 (upX X (2 + ((nw + 1) % 4).toNat) (F, t, A3, N3, V3)) ((b, (nw + 1) % 4, if 4 < sz + 1 then 4 else sz + 1, ln, tc), ch, tg, cp) 0 g (u_op F x o, t2, A2, N2, V2) → RI F t N3 V3 → RI (u_op F x o) t2 N2 V2 → Q (some (.int (zI (c_op F x o)))) g) : Wp E m_Yt_open 0 (gEnt m_Yt_open [.ref B, .int (zI x), .int (zI o)]) [] h Q := by
  have hi : (0 : Nat) < 6 := by decide
  have hn2 : nv ≤ 100000000 := by omega
  have hV := hJ.vd
  have hN := hW.aN hi
  have hG := hR.1
  have hT := hR.rT hN.2
  have hL := hR.rL
  have hs := hV.1
  have hb := sA_b B hi
  have hrb := rA_ge (B := B) x hi
  show Wp E m_Yt_open 0 [some (_), some (_), some (_), none] [] _ _
  refine wp_aload_n (pc := 0) d_Yt_open_0 rfl ?_
  refine wp_getfield (pc := 1) d_Yt_open_1 f_Yt_10 hW.yt2 rfl ?_
  refine wp_iload_n (pc := 4) d_Yt_open_4 rfl ?_
  rcases Decidable.em (0 ≤ x ∧ x < F 1) with c5 | c5
  · refine wv_callV (n := 1) (As := [_]) (pc := 5) d_Yt_open_5 s_Yt_57 q_St_rackAt ⟨by decide, by decide⟩ (hW.st hi) rfl rfl rfl rfl (Nat.le_of_ble_eq_true rfl) (Nat.le_of_ble_eq_true rfl) ?_
    refine sp_St_rackAt hE hB hW hi hV rx (fun q => absurd c5 q) (fun _ => ?_)
    refine ⟨_, rfl, ?_⟩
    have hr := hV.2.2.1 x (by omega) (by omega)
    refine st_a3 (pc := 8) d_Yt_open_8 (by decide) ?_
    refine wp_aload_n (pc := 9) d_Yt_open_9 rfl ?_
    refine wp_ifnonnull (tgt := 15) (pc := 10) d_Yt_open_10 (by decide) ?_
    refine wp_aload_n (pc := 15) d_Yt_open_15 rfl ?_
    refine wp_getfield (pc := 16) d_Yt_open_16 f_Yt_61 (hW.rk hi (by omega) (by omega)) rfl ?_
    refine wp_iload_n (pc := 19) d_Yt_open_19 rfl ?_
    refine zp_icmp_ne (tgt := 26) (pc := 20) d_Yt_open_20 (by decide) ⟨by omega, by omega⟩ ⟨by omega, by omega⟩ (fun c20 => ?_) (fun c20 => ?_)
    · refine wp_aload_n (pc := 26) d_Yt_open_26 rfl ?_
      refine wp_getfield (pc := 27) d_Yt_open_27 f_Yt_26 hW.yt2 rfl ?_
      refine wp_aload_n (pc := 30) d_Yt_open_30 rfl ?_
      refine wp_getfield (pc := 31) d_Yt_open_31 f_Yt_10 hW.yt2 rfl ?_
      refine wn_callV (n := 1) (As := [_]) (pc := 34) d_Yt_open_34 s_Yt_49 q_Hi_record ⟨by decide, by decide⟩ hW.hy2 rfl rfl rfl rfl (Nat.le_of_ble_eq_true rfl) (Nat.le_of_ble_eq_true rfl) ?_
      refine sp_Hi_record hE hB hW n0 z0 hV hR hGA (fun g A3 N3 V3 hW hR3 => ?_)
      refine ⟨rfl, ?_⟩
      refine wp_aload_n (pc := 37) d_Yt_open_37 rfl ?_
      refine wp_iload_n (pc := 38) d_Yt_open_38 rfl ?_
      refine wp_putfield (pc := 39) d_Yt_open_39 f_Yt_61 (hW.rk hi (by omega) (by omega)) (by omega) (by rcases ho with q | q <;> rw [q] <;> rfl) (by rcases ho with q | q <;> rw [q] <;> rfl) (Or.inl rfl) ?_
      refine pw_k3 hW hi (by omega) (by omega) (fun h hW => ?_)
      refine wp_aload_n (pc := 42) d_Yt_open_42 rfl ?_
      refine wp_iconst (pc := 43) d_Yt_open_43 ?_
      have hJ2 := hJ.op (r := x) (o := o) (by omega) (by omega) (by omega)
      have hR2 : RI (u_op F x o) t N V := hR.cg fun j hj => zup_ne _ _ (by omega)
      refine wv_callV (n := 1) (As := [_]) (pc := 44) d_Yt_open_44 s_Yt_68 q_Rk_total ⟨by decide, by decide⟩ (hW.rk hi (by omega) (by omega)) rfl rfl rfl rfl (Nat.le_of_ble_eq_true rfl) (Nat.le_of_ble_eq_true rfl) ?_
      refine sp_Rk_total (F := u_op F x o) hE hB hW hi hJ2.vd hT (by omega) (by omega) (by omega) (by omega) ?_
      refine ⟨_, rfl, ?_⟩
      rw [tot_c hJ2 hR2 (by omega) (by omega), show sC (u_op F x o) x = sC F x from sm_congr fun m hm => zup_ne _ _ (by omega)]
      have hsb := sC_b hV (a := x) (by omega) (by omega)
      refine zp_ireturn (pc := 47) d_Yt_open_47 rfl ?_
      have e : c_op F x o = sC F x := by
        unfold c_op
        rw [if_neg (by omega), if_neg c20]
      rw [e] at k1
      exact k1 (by omega) _ _ _ _ _ _ _ _ hW hR3 (hR2)
    · refine zp_bipush (pc := 23) d_Yt_open_23 (by decide) ?_
      refine zp_ireturn (pc := 25) d_Yt_open_25 rfl ?_
      have e : c_op F x o = -5 := by
        unfold c_op
        rw [if_neg (by omega), if_pos c20]
      rw [e] at k0
      exact k0 (by omega)
  · refine wv_callV (n := 1) (As := [_]) (pc := 5) d_Yt_open_5 s_Yt_57 q_St_rackAt ⟨by decide, by decide⟩ (hW.st hi) rfl rfl rfl rfl (Nat.le_of_ble_eq_true rfl) (Nat.le_of_ble_eq_true rfl) ?_
    refine sp_St_rackAt hE hB hW hi hV rx (fun _ => ?_) (fun q => absurd q c5)
    refine ⟨_, rfl, ?_⟩
    skip
    refine st_N3 (pc := 8) d_Yt_open_8 (by decide) ?_
    refine wp_aload_nN (pc := 9) d_Yt_open_9 rfl ?_
    refine wp_ifnonnullN (pc := 10) d_Yt_open_10 ?_
    refine wp_iconst (pc := 13) d_Yt_open_13 ?_
    refine zp_ireturn (pc := 14) d_Yt_open_14 rfl ?_
    have e : c_op F x o = -1 := by
      exact if_pos (by omega)
    rw [e] at k0
    exact k0 (by omega)
set_option maxRecDepth 100000 in
theorem sp_Yt_age (hE : gOk E) (hB : gB E ≤ B) (hW : CN B S h0 X ((b, nw, sz, ln, tc), ch, tg, cp) 0 h (F, t, A, N, V)) (n0 : 0 ≤ nw ∧ nw < 4) (z0 : 0 ≤ sz ∧ sz ≤ 4) {nv : Int} (hJ : J nv F) (hn : nv ≤ 80000000) (hR : RI F t N V) (hGA : ∀ q : Nat, q < 6 → 0 ≤ xR (X q) 5 ∧ xR (X q) 5 ≤ (xN (X q) : Int)) {x y : Int} (rx : gR x) (ry : gR y) (k0 : c_ag F x y < 0 → Q (some (.int (zI (c_ag F x y)))) h) (k1 : ¬ c_ag F x y < 0 → ∀ (g : gH) (A3 : Nat → Nat) (N3 : Nat) (V3 : Nat → Int → Int) (t2 : Int → Int) (A2 : Nat → Nat) (N2 : Nat) (V2 : Nat → Int → Int), CN B S h0 (upX X (2 + ((nw + 1) % 4).toNat) (F, t, A3, N3, V3)) ((b, (nw + 1) % 4, if 4 < sz + 1 then 4 else sz + 1, ln, tc), ch, tg, cp) 0 g (u_ag F x y, t2, A2, N2, V2) → RI F t N3 V3 → RI (u_ag F x y) t2 N2 V2 → Q (some (.int (zI (c_ag F x y)))) g) : Wp E m_Yt_age 0 (gEnt m_Yt_age [.ref B, .int (zI x), .int (zI y)]) [] h Q := by
  have hi : (0 : Nat) < 6 := by decide
  have hn2 : nv ≤ 100000000 := by omega
  have hV := hJ.vd
  have hN := hW.aN hi
  have hG := hR.1
  have hT := hR.rT hN.2
  have hL := hR.rL
  have hs := hV.1
  have hb := sA_b B hi
  have hab := hA_ge (B := B) x hi
  show Wp E m_Yt_age 0 [some (_), some (_), some (_), none, none] [] _ _
  refine wp_aload_n (pc := 0) d_Yt_age_0 rfl ?_
  refine wp_getfield (pc := 1) d_Yt_age_1 f_Yt_10 hW.yt2 rfl ?_
  refine wp_iload_n (pc := 4) d_Yt_age_4 rfl ?_
  rcases Decidable.em (isHk F x) with c5 | c5
  · refine wv_callV (n := 1) (As := [_]) (pc := 5) d_Yt_age_5 s_Yt_72 q_St_hookAt ⟨by decide, by decide⟩ (hW.st hi) rfl rfl rfl rfl (Nat.le_of_ble_eq_true rfl) (Nat.le_of_ble_eq_true rfl) ?_
    refine sp_St_hookAt hE hB hW hi hV rx (fun q => absurd c5 q) (fun _ => ?_)
    refine ⟨_, rfl, ?_⟩
    have hk := hV.2.2.2.1 x (by omega) (by omega)
    have hl := hL x (by omega) (by omega)
    refine st_a3 (pc := 8) d_Yt_age_8 (by decide) ?_
    refine wp_aload_n (pc := 9) d_Yt_age_9 rfl ?_
    refine wp_ifnonnull (tgt := 15) (pc := 10) d_Yt_age_10 (by decide) ?_
    refine wp_iload_n (pc := 15) d_Yt_age_15 rfl ?_
    refine wp_aload_n (pc := 16) d_Yt_age_16 rfl ?_
    refine wp_getfield (pc := 17) d_Yt_age_17 f_Yt_76 (hW.hk hi (by omega) (by omega)) rfl ?_
    refine zp_icmp_le (tgt := 29) (pc := 20) d_Yt_age_20 (by decide) ry ⟨by omega, by omega⟩ (fun c20 => ?_) (fun c20 => ?_)
    · refine zp_bipush (pc := 29) d_Yt_age_29 (by decide) ?_
      refine zp_ireturn (pc := 31) d_Yt_age_31 rfl ?_
      have e : c_ag F x y = -2 := by
        unfold c_ag
        rw [if_neg (not_not_intro c5), if_pos (by omega)]
      rw [e] at k0
      exact k0 (by omega)
    · refine wp_iload_n (pc := 23) d_Yt_age_23 rfl ?_
      refine zp_bipush (pc := 24) d_Yt_age_24 (by decide) ?_
      refine zp_icmp_lt (tgt := 32) (pc := 26) d_Yt_age_26 (by decide) ry ⟨by omega, by omega⟩ (fun c26 => ?_) (fun c26 => ?_)
      · refine wp_aload_n (pc := 32) d_Yt_age_32 rfl ?_
        refine wv_callV (n := 0) (As := []) (pc := 33) d_Yt_age_33 s_Yt_79 q_Ho_canHold ⟨by decide, by decide⟩ (hW.hk hi (by omega) (by omega)) rfl rfl rfl rfl (Nat.le_of_ble_eq_true rfl) (Nat.le_of_ble_eq_true rfl) ?_
        refine sp_Ho_canHold hE hB hW hi (by omega) (by omega) (hT x (by omega) (by omega)) hk.2.2.2.2.2.1 ?_
        refine ⟨_, rfl, ?_⟩
        refine zp_ifb_ne (tgt := 42) (pc := 36) d_Yt_age_36 (by decide) (fun c36 => ?_) (fun c36 => ?_)
        · refine wp_aload_n (pc := 42) d_Yt_age_42 rfl ?_
          refine wp_getfield (pc := 43) d_Yt_age_43 f_Yt_26 hW.yt2 rfl ?_
          refine wp_aload_n (pc := 46) d_Yt_age_46 rfl ?_
          refine wp_getfield (pc := 47) d_Yt_age_47 f_Yt_10 hW.yt2 rfl ?_
          refine wn_callV (n := 1) (As := [_]) (pc := 50) d_Yt_age_50 s_Yt_49 q_Hi_record ⟨by decide, by decide⟩ hW.hy2 rfl rfl rfl rfl (Nat.le_of_ble_eq_true rfl) (Nat.le_of_ble_eq_true rfl) ?_
          refine sp_Hi_record hE hB hW n0 z0 hV hR hGA (fun g A3 N3 V3 hW hR3 => ?_)
          refine ⟨rfl, ?_⟩
          refine wp_aload_n (pc := 53) d_Yt_age_53 rfl ?_
          refine wp_getfield (pc := 54) d_Yt_age_54 f_Yt_76 (hW.hk hi (by omega) (by omega)) rfl ?_
          refine st_i4 (pc := 57) d_Yt_age_57 (by decide) ?_
          refine wp_aload_n (pc := 59) d_Yt_age_59 rfl ?_
          refine wp_iload_n (pc := 60) d_Yt_age_60 rfl ?_
          refine zp_putI (pc := 61) d_Yt_age_61 f_Yt_76 (hW.hk hi (by omega) (by omega)) (by omega) (Or.inl rfl) ?_
          refine pw_h1 hW hi (by omega) (by omega) (fun h hW => ?_)
          refine wp_iload (pc := 64) d_Yt_age_64 rfl ?_
          refine zp_ireturn (pc := 66) d_Yt_age_66 rfl ?_
          have e : c_ag F x y = F (29 + 8 * x + 0) := by
            unfold c_ag
            rw [if_neg (not_not_intro c5), if_neg (by omega), if_neg (hl.mp c36.1), if_neg (by omega)]
          rw [e] at k1
          exact k1 (by omega) _ _ _ _ _ _ _ _ hW hR3 (hR.ag (by omega) (by omega) (hl.mp c36.1))
        · refine zp_bipush (pc := 39) d_Yt_age_39 (by decide) ?_
          refine zp_ireturn (pc := 41) d_Yt_age_41 rfl ?_
          have e : c_ag F x y = -4 := by
            unfold c_ag
            rw [if_neg (not_not_intro c5), if_neg (by omega)]
            by_cases q : F (29 + 8 * x + 1) = 1
            · rw [if_pos q]
            · have hq := hl.mpr q
              rw [if_neg q, if_pos (by omega)]
          rw [e] at k0
          exact k0 (by omega)
      · refine zp_bipush (pc := 29) d_Yt_age_29 (by decide) ?_
        refine zp_ireturn (pc := 31) d_Yt_age_31 rfl ?_
        have e : c_ag F x y = -2 := by
          unfold c_ag
          rw [if_neg (not_not_intro c5), if_pos (by omega)]
        rw [e] at k0
        exact k0 (by omega)
  · refine wv_callV (n := 1) (As := [_]) (pc := 5) d_Yt_age_5 s_Yt_72 q_St_hookAt ⟨by decide, by decide⟩ (hW.st hi) rfl rfl rfl rfl (Nat.le_of_ble_eq_true rfl) (Nat.le_of_ble_eq_true rfl) ?_
    refine sp_St_hookAt hE hB hW hi hV rx (fun _ => ?_) (fun q => absurd q c5)
    refine ⟨_, rfl, ?_⟩
    skip
    refine st_N3 (pc := 8) d_Yt_age_8 (by decide) ?_
    refine wp_aload_nN (pc := 9) d_Yt_age_9 rfl ?_
    refine wp_ifnonnullN (pc := 10) d_Yt_age_10 ?_
    refine wp_iconst (pc := 13) d_Yt_age_13 ?_
    refine zp_ireturn (pc := 14) d_Yt_age_14 rfl ?_
    have e : c_ag F x y = -1 := by
      exact if_pos c5
    rw [e] at k0
    exact k0 (by omega)
set_option maxRecDepth 100000 in
theorem sp_Yt_isSetting {w v : Int} (rw_ : gR w) (rv : gR v) (k : Q (some (.int (zI (bI (okSt w v))))) h) : Wp E m_Yt_isSetting 0 (gEnt m_Yt_isSetting [.int (zI w), .int (zI v)]) [] h Q := by
  show Wp E m_Yt_isSetting 0 [some (_), some (_)] [] _ _
  refine wp_iload_n (pc := 0) d_Yt_isSetting_0 rfl ?_
  by_cases k1_0 : w = 0
  · rw [k1_0]
    refine zp_tableIn (x := 0) (tgt := 28) (pc := 1) d_Yt_isSetting_1 ⟨by decide, by decide⟩ (by decide) (by decide) rfl (by decide) ?_
    refine wp_iload_n (pc := 28) d_Yt_isSetting_28 rfl ?_
    refine zp_if_lt (tgt := 41) (pc := 29) d_Yt_isSetting_29 (by decide) rv (fun c29 => ?_) (fun c29 => ?_)
    · refine wp_iconst (pc := 41) d_Yt_isSetting_41 ?_
      refine zp_zreturn (pc := 42) d_Yt_isSetting_42 rfl rfl ?_
      first | (rw [bI_t (show okSt w v by omega)] at k; exact k) | (rw [bI_f (show ¬ okSt w v by omega)] at k; exact k)
    · refine wp_iload_n (pc := 32) d_Yt_isSetting_32 rfl ?_
      refine wp_iconst (pc := 33) d_Yt_isSetting_33 ?_
      refine zp_icmp_gt (tgt := 41) (pc := 34) d_Yt_isSetting_34 (by decide) rv ⟨by omega, by omega⟩ (fun c34 => ?_) (fun c34 => ?_)
      · refine wp_iconst (pc := 41) d_Yt_isSetting_41 ?_
        refine zp_zreturn (pc := 42) d_Yt_isSetting_42 rfl rfl ?_
        first | (rw [bI_t (show okSt w v by omega)] at k; exact k) | (rw [bI_f (show ¬ okSt w v by omega)] at k; exact k)
      · refine wp_iconst (pc := 37) d_Yt_isSetting_37 ?_
        refine wp_goto (tgt := 42) (pc := 38) d_Yt_isSetting_38 (by decide) ?_
        refine zp_zreturn (pc := 42) d_Yt_isSetting_42 rfl rfl ?_
        first | (rw [bI_t (show okSt w v by omega)] at k; exact k) | (rw [bI_f (show ¬ okSt w v by omega)] at k; exact k)
  by_cases k1_1 : w = 1
  · rw [k1_1]
    refine zp_tableIn (x := 1) (tgt := 43) (pc := 1) d_Yt_isSetting_1 ⟨by decide, by decide⟩ (by decide) (by decide) rfl (by decide) ?_
    refine wp_iload_n (pc := 43) d_Yt_isSetting_43 rfl ?_
    refine zp_if_lt (tgt := 57) (pc := 44) d_Yt_isSetting_44 (by decide) rv (fun c44 => ?_) (fun c44 => ?_)
    · refine wp_iconst (pc := 57) d_Yt_isSetting_57 ?_
      refine zp_zreturn (pc := 58) d_Yt_isSetting_58 rfl rfl ?_
      first | (rw [bI_t (show okSt w v by omega)] at k; exact k) | (rw [bI_f (show ¬ okSt w v by omega)] at k; exact k)
    · refine wp_iload_n (pc := 47) d_Yt_isSetting_47 rfl ?_
      refine zp_bipush (pc := 48) d_Yt_isSetting_48 (by decide) ?_
      refine zp_icmp_gt (tgt := 57) (pc := 50) d_Yt_isSetting_50 (by decide) rv ⟨by omega, by omega⟩ (fun c50 => ?_) (fun c50 => ?_)
      · refine wp_iconst (pc := 57) d_Yt_isSetting_57 ?_
        refine zp_zreturn (pc := 58) d_Yt_isSetting_58 rfl rfl ?_
        first | (rw [bI_t (show okSt w v by omega)] at k; exact k) | (rw [bI_f (show ¬ okSt w v by omega)] at k; exact k)
      · refine wp_iconst (pc := 53) d_Yt_isSetting_53 ?_
        refine wp_goto (tgt := 58) (pc := 54) d_Yt_isSetting_54 (by decide) ?_
        refine zp_zreturn (pc := 58) d_Yt_isSetting_58 rfl rfl ?_
        first | (rw [bI_t (show okSt w v by omega)] at k; exact k) | (rw [bI_f (show ¬ okSt w v by omega)] at k; exact k)
  by_cases k1_2 : w = 2
  · rw [k1_2]
    refine zp_tableIn (x := 2) (tgt := 59) (pc := 1) d_Yt_isSetting_1 ⟨by decide, by decide⟩ (by decide) (by decide) rfl (by decide) ?_
    refine wp_iload_n (pc := 59) d_Yt_isSetting_59 rfl ?_
    refine wp_iconst (pc := 60) d_Yt_isSetting_60 ?_
    refine zp_icmp_lt (tgt := 74) (pc := 61) d_Yt_isSetting_61 (by decide) rv ⟨by omega, by omega⟩ (fun c61 => ?_) (fun c61 => ?_)
    · refine wp_iconst (pc := 74) d_Yt_isSetting_74 ?_
      refine zp_zreturn (pc := 75) d_Yt_isSetting_75 rfl rfl ?_
      first | (rw [bI_t (show okSt w v by omega)] at k; exact k) | (rw [bI_f (show ¬ okSt w v by omega)] at k; exact k)
    · refine wp_iload_n (pc := 64) d_Yt_isSetting_64 rfl ?_
      refine zp_bipush (pc := 65) d_Yt_isSetting_65 (by decide) ?_
      refine zp_icmp_gt (tgt := 74) (pc := 67) d_Yt_isSetting_67 (by decide) rv ⟨by omega, by omega⟩ (fun c67 => ?_) (fun c67 => ?_)
      · refine wp_iconst (pc := 74) d_Yt_isSetting_74 ?_
        refine zp_zreturn (pc := 75) d_Yt_isSetting_75 rfl rfl ?_
        first | (rw [bI_t (show okSt w v by omega)] at k; exact k) | (rw [bI_f (show ¬ okSt w v by omega)] at k; exact k)
      · refine wp_iconst (pc := 70) d_Yt_isSetting_70 ?_
        refine wp_goto (tgt := 75) (pc := 71) d_Yt_isSetting_71 (by decide) ?_
        refine zp_zreturn (pc := 75) d_Yt_isSetting_75 rfl rfl ?_
        first | (rw [bI_t (show okSt w v by omega)] at k; exact k) | (rw [bI_f (show ¬ okSt w v by omega)] at k; exact k)
  refine zp_tableOut (tgt := 76) (pc := 1) d_Yt_isSetting_1 rw_ (by omega) (by decide) ?_
  refine wp_iconst (pc := 76) d_Yt_isSetting_76 ?_
  refine zp_zreturn (pc := 77) d_Yt_isSetting_77 rfl rfl ?_
  first | (rw [bI_t (show okSt w v by omega)] at k; exact k) | (rw [bI_f (show ¬ okSt w v by omega)] at k; exact k)
set_option maxRecDepth 100000 in
theorem sp_Yt_set (hE : gOk E) (hB : gB E ≤ B) (hW : CN B S h0 X ((b, nw, sz, ln, tc), ch, tg, cp) 0 h (F, t, A, N, V)) (n0 : 0 ≤ nw ∧ nw < 4) (z0 : 0 ≤ sz ∧ sz ≤ 4) {nv : Int} (hJ : J nv F) (hn : nv ≤ 80000000) (hR : RI F t N V) (hGA : ∀ q : Nat, q < 6 → 0 ≤ xR (X q) 5 ∧ xR (X q) 5 ≤ (xN (X q) : Int)) {w v : Int} (rw_ : gR w) (rv : gR v) (k0 : c_st F w v < 0 → Q (some (.int (zI (c_st F w v)))) h) (k1 : ¬ c_st F w v < 0 → ∀ (g : gH) (A3 : Nat → Nat) (N3 : Nat) (V3 : Nat → Int → Int) (t2 : Int → Int) (A2 : Nat → Nat) (N2 : Nat) (V2 : Nat → Int → Int), CN B S h0 (upX X (2 + ((nw + 1) % 4).toNat) (F, t, A3, N3, V3)) ((b, (nw + 1) % 4, if 4 < sz + 1 then 4 else sz + 1, ln, tc), ch, tg, cp) 0 g (u_st F w v, t2, A2, N2, V2) → RI F t N3 V3 → RI (u_st F w v) t2 N2 V2 → Q (some (.int (zI (c_st F w v)))) g) : Wp E m_Yt_set 0 (gEnt m_Yt_set [.ref B, .int (zI w), .int (zI v)]) [] h Q := by
  have hi : (0 : Nat) < 6 := by decide
  have hn2 : nv ≤ 100000000 := by omega
  have hV := hJ.vd
  have hN := hW.aN hi
  have hG := hR.1
  have hT := hR.rT hN.2
  have hL := hR.rL
  have hs := hV.1
  have hb := sA_b B hi
  show Wp E m_Yt_set 0 [some (_), some (_), some (_), none] [] _ _
  refine wp_iload_n (pc := 0) d_Yt_set_0 rfl ?_
  refine wp_iload_n (pc := 1) d_Yt_set_1 rfl ?_
  refine wv_callS (n := 2) (As := [_, _]) (pc := 2) d_Yt_set_2 s_Yt_83 q_Yt_isSetting ⟨by decide, by decide⟩ rfl rfl rfl (Nat.le_of_ble_eq_true rfl) (Nat.le_of_ble_eq_true rfl) ?_
  refine sp_Yt_isSetting rw_ rv ?_
  refine ⟨_, rfl, ?_⟩
  refine zp_ifb_ne (tgt := 11) (pc := 5) d_Yt_set_5 (by decide) (fun c5 => ?_) (fun c5 => ?_)
  · refine wp_aload_n (pc := 11) d_Yt_set_11 rfl ?_
    refine wp_getfield (pc := 12) d_Yt_set_12 f_Yt_10 hW.yt2 rfl ?_
    refine wp_getfield (pc := 15) d_Yt_set_15 f_Yt_87 (hW.st hi) rfl ?_
    refine wp_iload_n (pc := 18) d_Yt_set_18 rfl ?_
    refine zp_iaload (pc := 19) d_Yt_set_19 hE.1 (hW.se hi) (by omega) (by omega) (by omega) ?_
    rw [cut_at (by omega) (by omega)]
    have hrg : 0 ≤ F (2 + w) ∧ F (2 + w) ≤ 99 := by
      rcases c5 with ⟨q, _⟩ | ⟨q, _⟩ | ⟨q, _⟩
      · rw [q, show (2 : Int) + 0 = 2 from rfl]; omega
      · rw [q, show (2 : Int) + 1 = 3 from rfl]; omega
      · rw [q, show (2 : Int) + 2 = 4 from rfl]; omega
    refine st_i3 (pc := 20) d_Yt_set_20 (by decide) ?_
    refine wp_iload_n (pc := 21) d_Yt_set_21 rfl ?_
    refine wp_iload_n (pc := 22) d_Yt_set_22 rfl ?_
    refine zp_icmp_ne (tgt := 29) (pc := 23) d_Yt_set_23 (by decide) ⟨by omega, by omega⟩ rv (fun c23 => ?_) (fun c23 => ?_)
    · refine wp_aload_n (pc := 29) d_Yt_set_29 rfl ?_
      refine wp_getfield (pc := 30) d_Yt_set_30 f_Yt_26 hW.yt2 rfl ?_
      refine wp_aload_n (pc := 33) d_Yt_set_33 rfl ?_
      refine wp_getfield (pc := 34) d_Yt_set_34 f_Yt_10 hW.yt2 rfl ?_
      refine wn_callV (n := 1) (As := [_]) (pc := 37) d_Yt_set_37 s_Yt_49 q_Hi_record ⟨by decide, by decide⟩ hW.hy2 rfl rfl rfl rfl (Nat.le_of_ble_eq_true rfl) (Nat.le_of_ble_eq_true rfl) ?_
      refine sp_Hi_record hE hB hW n0 z0 hV hR hGA (fun g A3 N3 V3 hW hR3 => ?_)
      refine ⟨rfl, ?_⟩
      refine wp_aload_n (pc := 40) d_Yt_set_40 rfl ?_
      refine wp_getfield (pc := 41) d_Yt_set_41 f_Yt_10 hW.yt2 rfl ?_
      refine wp_getfield (pc := 44) d_Yt_set_44 f_Yt_87 (hW.st hi) rfl ?_
      refine wp_iload_n (pc := 47) d_Yt_set_47 rfl ?_
      refine wp_iload_n (pc := 48) d_Yt_set_48 rfl ?_
      refine zp_iastore (pc := 49) d_Yt_set_49 hE.1 (hW.se hi) (by omega) (by omega) (by omega) (by omega) ?_
      refine pw_w13 hW hi (by omega) (by omega) (fun h hW => ?_)
      refine wp_iload_n (pc := 50) d_Yt_set_50 rfl ?_
      refine zp_ireturn (pc := 51) d_Yt_set_51 rfl ?_
      have e : c_st F w v = F (2 + w) := by
        unfold c_st
        rw [if_neg (not_not_intro c5), if_neg c23]
      rw [e] at k1
      exact k1 (by omega) _ _ _ _ _ _ _ _ hW hR3 (hR.cg fun j hj => zup_ne _ _ (by omega))
    · refine zp_bipush (pc := 26) d_Yt_set_26 (by decide) ?_
      refine zp_ireturn (pc := 28) d_Yt_set_28 rfl ?_
      have e : c_st F w v = -5 := by
        unfold c_st
        rw [if_neg (not_not_intro c5), if_pos c23]
      rw [e] at k0
      exact k0 (by omega)
  · refine zp_bipush (pc := 8) d_Yt_set_8 (by decide) ?_
    refine zp_ireturn (pc := 10) d_Yt_set_10 rfl ?_
    have e : c_st F w v = -2 := by
      exact if_pos c5
    rw [e] at k0
    exact k0 (by omega)
end S62
