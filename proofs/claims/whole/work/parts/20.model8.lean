/-! ===== the reference: calls ===== -/
section S20
variable {E : gE} {mo : Nat} {h : gH} {F g : Int → Int} {sn kp ln : Int} {Q : Option Value → gH → Prop}
set_option maxRecDepth 100000 in
theorem sp_Md_doClaim (hE : gOk E) (hB : gB E ≤ mo) {n t x : Int} (hV : Vb n F) (hn : n ≤ 900000000) (hA : AC F) (t0 : 0 ≤ t) (t1 : t ≤ 59999) (hx : hkT F t = x) (hu : F (559 + hdl F x) < 512) (k : Q (some (.int (zI (duF F x)))) (MH mo h (u_cl F x) sn kp g ln)) : Wp E m_Md_doClaim 0 (gEnt m_Md_doClaim [.ref mo, .int (zI t)]) [] (MH mo h F sn kp g ln) Q := by
  have hB1 : gB E ≤ mo + 1 := by omega
  have hla := hA.b (x := t / 10) (by omega) (by omega)
  have hx0 : 0 ≤ x ∧ x < 60 := by unfold hkT at hx; omega
  have h7 := hV.vd.2.1 7 (by omega) (by omega) (by omega)
  have hn0 := hV.n0
  have hV2 : Vb (n + 1) (zup (zup F 11 (F 11 + duF F x)) 7 (F 7 + 1)) := ((hV.mono (m := n + 1) (by omega)).upd fun q => absurd rfl q).set (by omega) (bHi_c _ 7 (by omega) (by omega)) (by omega)
  have hh2 : hdl (zup (zup F 11 (F 11 + duF F x)) 7 (F 7 + 1)) x = hdl F x := hdl_congr (by rw [zup_ne _ _ (by omega), zup_ne _ _ (by omega)])
  have hbx := hdl_b hV.vd hx0.1 hx0.2
  show Wp E m_Md_doClaim 0 [some (_), some (_), none, none] [] _ _
  refine wp_aload_n (pc := 0) d_Md_doClaim_0 rfl ?_
  refine wp_iload_n (pc := 1) d_Md_doClaim_1 rfl ?_
  refine zp_bipush (pc := 2) d_Md_doClaim_2 (by decide) ?_
  refine zp_idiv (pc := 4) d_Md_doClaim_4 (by omega) (by omega) (by omega) (by omega) ?_
  refine wv_callV (n := 1) (As := [_]) (pc := 5) d_Md_doClaim_5 s_Md_76 q_Md_lastOf ⟨by decide, by decide⟩ MH_o rfl rfl rfl rfl (Nat.le_of_ble_eq_true rfl) (Nat.le_of_ble_eq_true rfl) ?_
  refine sp_Md_lastOf hE hV.vd hA (by omega) (by omega) ?_
  refine ⟨_, rfl, ?_⟩
  refine wv_callS (n := 1) (As := [_]) (pc := 8) d_Md_doClaim_8 s_Md_108 q_Md_hookOf ⟨by decide, by decide⟩ rfl rfl rfl (Nat.le_of_ble_eq_true rfl) (Nat.le_of_ble_eq_true rfl) ?_
  refine sp_Md_hookOf (by omega) (by omega) ?_
  refine ⟨_, rfl, ?_⟩
  rw [show la F (t / 10) / 100 = x from hx]
  refine st_i2 (pc := 11) d_Md_doClaim_11 (by decide) ?_
  refine wp_aload_n (pc := 12) d_Md_doClaim_12 rfl ?_
  refine wp_iload_n (pc := 13) d_Md_doClaim_13 rfl ?_
  refine wv_callV (n := 1) (As := [_]) (pc := 14) d_Md_doClaim_14 s_Md_111 q_Md_dueOn ⟨by decide, by decide⟩ MH_o rfl rfl rfl rfl (Nat.le_of_ble_eq_true rfl) (Nat.le_of_ble_eq_true rfl) ?_
  refine sp_Md_dueOn hE hV.vd hx0.1 hx0.2 ?_
  refine ⟨_, rfl, ?_⟩
  refine st_i3 (pc := 17) d_Md_doClaim_17 (by decide) ?_
  refine wp_aload_n (pc := 18) d_Md_doClaim_18 rfl ?_
  refine wp_getfield (pc := 19) d_Md_doClaim_19 f_Md_8 MH_o rfl ?_
  refine zp_bipush (pc := 22) d_Md_doClaim_22 (by decide) ?_
  refine wp_dup2 (pc := 24) d_Md_doClaim_24 rfl rfl ?_
  refine zp_iaload (pc := 25) d_Md_doClaim_25 hE.1 MH_r (by omega) (by omega) (by decide) ?_
  try simp (disch := omega) only [zup_ne, zup_eq, lvF_o, hgF_o, lgF_o]
  refine wp_iload_n (pc := 26) d_Md_doClaim_26 rfl ?_
  refine zp_iadd (pc := 27) d_Md_doClaim_27 ?_
  refine zp_iastore (pc := 28) d_Md_doClaim_28 hE.1 MH_r hB1 (by omega) (by omega) (by decide) ?_
  rw [MH_pr]
  refine wp_aload_n (pc := 29) d_Md_doClaim_29 rfl ?_
  refine wp_getfield (pc := 30) d_Md_doClaim_30 f_Md_8 MH_o rfl ?_
  refine zp_bipush (pc := 33) d_Md_doClaim_33 (by decide) ?_
  refine wp_dup2 (pc := 35) d_Md_doClaim_35 rfl rfl ?_
  refine zp_iaload (pc := 36) d_Md_doClaim_36 hE.1 MH_r (by omega) (by omega) (by decide) ?_
  try simp (disch := omega) only [zup_ne, zup_eq, lvF_o, hgF_o, lgF_o]
  refine wp_iconst (pc := 37) d_Md_doClaim_37 ?_
  refine zp_iadd (pc := 38) d_Md_doClaim_38 ?_
  refine zp_iastore (pc := 39) d_Md_doClaim_39 hE.1 MH_r hB1 (by omega) (by omega) (by decide) ?_
  rw [MH_pr]
  refine wp_aload_n (pc := 40) d_Md_doClaim_40 rfl ?_
  refine wp_iload_n (pc := 41) d_Md_doClaim_41 rfl ?_
  refine wp_iconst (pc := 42) d_Md_doClaim_42 ?_
  refine wp_iconst (pc := 43) d_Md_doClaim_43 ?_
  refine wn_callV (n := 3) (As := [_, _, _]) (pc := 44) d_Md_doClaim_44 s_Md_114 q_Md_end ⟨by decide, by decide⟩ MH_o rfl rfl rfl rfl (Nat.le_of_ble_eq_true rfl) (Nat.le_of_ble_eq_true rfl) ?_
  refine sp_Md_end hE hB hV2 (by omega) hx0.1 hx0.2 (by omega) (by rw [hh2, zup_ne _ _ (by omega), zup_ne _ _ (by omega)]; exact hu) ?_
  refine ⟨rfl, ?_⟩
  refine wp_iload_n (pc := 47) d_Md_doClaim_47 rfl ?_
  refine zp_ireturn (pc := 48) d_Md_doClaim_48 rfl ?_
  exact k
set_option maxRecDepth 100000 in
theorem sp_Md_doMove (hE : gOk E) (hB : gB E ≤ mo) {n a b : Int} (hV : Vb n F) (hn : n ≤ 900000000) (h0 : 0 ≤ a) (h1 : a < 60) (h2 : 0 ≤ b) (h3 : b < 60) (hab : a ≠ b) (hu : F (559 + hdl F a) < 512) (k : Q (some (.int (zI (hdl F b)))) (MH mo h (dmU F a b) sn kp g ln)) : Wp E m_Md_doMove 0 (gEnt m_Md_doMove [.ref mo, .int (zI a), .int (zI b)]) [] (MH mo h F sn kp g ln) Q := by
  have hB1 : gB E ≤ mo + 1 := by omega
  have hba := hdl_b hV.vd h0 h1
  have hbb := hdl_b hV.vd h2 h3
  have hne := hdl_ne hV.vd h0 h1 h2 h3 hab
  have ha := hV.vd.2.2.2.1 a h0 h1
  have hh := hV.vd.2.2.2.2.2.2 (hdl F a) hba.1 (by omega)
  have hn0 := hV.n0
  have hV1 := hV.lv h0 h1
  have hlv := hdl_lv (F := F) hab
  have h10 := hV.vd.2.1 10 (by omega) (by omega) (by omega)
  have h13 := hV.vd.2.1 13 (by omega) (by omega) (by omega)
  show Wp E m_Md_doMove 0 [some (_), some (_), some (_), none, none] [] _ _
  refine wp_aload_n (pc := 0) d_Md_doMove_0 rfl ?_
  refine wp_iload_n (pc := 1) d_Md_doMove_1 rfl ?_
  refine wv_callV (n := 1) (As := [_]) (pc := 2) d_Md_doMove_2 s_Md_82 q_Md_handleOn ⟨by decide, by decide⟩ MH_o rfl rfl rfl rfl (Nat.le_of_ble_eq_true rfl) (Nat.le_of_ble_eq_true rfl) ?_
  refine sp_Md_handleOn hE h0 h1 ?_
  refine ⟨_, rfl, ?_⟩
  refine st_i3 (pc := 5) d_Md_doMove_5 (by decide) ?_
  refine wp_aload_n (pc := 6) d_Md_doMove_6 rfl ?_
  refine wp_iload_n (pc := 7) d_Md_doMove_7 rfl ?_
  refine wn_callV (n := 1) (As := [_]) (pc := 8) d_Md_doMove_8 s_Md_85 q_Md_leave ⟨by decide, by decide⟩ MH_o rfl rfl rfl rfl (Nat.le_of_ble_eq_true rfl) (Nat.le_of_ble_eq_true rfl) ?_
  refine sp_Md_leave hE hB hV.vd (by omega) h0 h1 ?_
  refine ⟨rfl, ?_⟩
  refine wp_aload_n (pc := 11) d_Md_doMove_11 rfl ?_
  refine wp_iload_n (pc := 12) d_Md_doMove_12 rfl ?_
  refine wp_aload_n (pc := 13) d_Md_doMove_13 rfl ?_
  refine wp_getfield (pc := 14) d_Md_doMove_14 f_Md_8 MH_o rfl ?_
  refine wp_iload_n (pc := 17) d_Md_doMove_17 rfl ?_
  refine wp_iconst (pc := 18) d_Md_doMove_18 ?_
  refine wv_callS (n := 2) (As := [_, _]) (pc := 19) d_Md_doMove_19 s_Md_50 q_Md_of ⟨by decide, by decide⟩ rfl rfl rfl (Nat.le_of_ble_eq_true rfl) (Nat.le_of_ble_eq_true rfl) ?_
  refine sp_Md_of ?_
  refine ⟨_, rfl, ?_⟩
  refine zp_iaload (pc := 22) d_Md_doMove_22 hE.1 MH_r (by omega) (by omega) (by decide) ?_
  try simp (disch := omega) only [zup_ne, zup_eq, lvF_o, hgF_o, lgF_o]
  refine wp_aload_n (pc := 23) d_Md_doMove_23 rfl ?_
  refine wp_getfield (pc := 24) d_Md_doMove_24 f_Md_8 MH_o rfl ?_
  refine wp_iload_n (pc := 27) d_Md_doMove_27 rfl ?_
  refine wp_iconst (pc := 28) d_Md_doMove_28 ?_
  refine wv_callS (n := 2) (As := [_, _]) (pc := 29) d_Md_doMove_29 s_Md_50 q_Md_of ⟨by decide, by decide⟩ rfl rfl rfl (Nat.le_of_ble_eq_true rfl) (Nat.le_of_ble_eq_true rfl) ?_
  refine sp_Md_of ?_
  refine ⟨_, rfl, ?_⟩
  refine zp_iaload (pc := 32) d_Md_doMove_32 hE.1 MH_r (by omega) (by omega) (by decide) ?_
  try simp (disch := omega) only [zup_ne, zup_eq, lvF_o, hgF_o, lgF_o]
  refine wp_aload_n (pc := 33) d_Md_doMove_33 rfl ?_
  refine wp_getfield (pc := 34) d_Md_doMove_34 f_Md_8 MH_o rfl ?_
  refine wp_iload_n (pc := 37) d_Md_doMove_37 rfl ?_
  refine wp_iconst (pc := 38) d_Md_doMove_38 ?_
  refine wv_callS (n := 2) (As := [_, _]) (pc := 39) d_Md_doMove_39 s_Md_50 q_Md_of ⟨by decide, by decide⟩ rfl rfl rfl (Nat.le_of_ble_eq_true rfl) (Nat.le_of_ble_eq_true rfl) ?_
  refine sp_Md_of ?_
  refine ⟨_, rfl, ?_⟩
  refine zp_iaload (pc := 42) d_Md_doMove_42 hE.1 MH_r (by omega) (by omega) (by decide) ?_
  try simp (disch := omega) only [zup_ne, zup_eq, lvF_o, hgF_o, lgF_o]
  refine wv_callV (n := 4) (As := [_, _, _, _]) (pc := 43) d_Md_doMove_43 s_Md_104 q_Md_hang ⟨by decide, by decide⟩ MH_o rfl rfl rfl rfl (Nat.le_of_ble_eq_true rfl) (Nat.le_of_ble_eq_true rfl) ?_
  refine sp_Md_hang hE hB hV1.vd (by omega) h2 h3 ?_
  refine ⟨_, rfl, ?_⟩
  rw [hlv]
  refine st_i4 (pc := 46) d_Md_doMove_46 (by decide) ?_
  refine wp_aload_n (pc := 48) d_Md_doMove_48 rfl ?_
  refine wp_getfield (pc := 49) d_Md_doMove_49 f_Md_8 MH_o rfl ?_
  refine zp_sipush (pc := 52) d_Md_doMove_52 (by decide) ?_
  refine wp_iload_n (pc := 55) d_Md_doMove_55 rfl ?_
  refine zp_iadd (pc := 56) d_Md_doMove_56 ?_
  refine wp_dup2 (pc := 57) d_Md_doMove_57 rfl rfl ?_
  refine zp_iaload (pc := 58) d_Md_doMove_58 hE.1 MH_r (by omega) (by omega) (by decide) ?_
  try simp (disch := omega) only [zup_ne, zup_eq, lvF_o, hgF_o, lgF_o]
  refine zp_sipush (pc := 59) d_Md_doMove_59 (by decide) ?_
  refine wp_iload (pc := 62) d_Md_doMove_62 rfl ?_
  refine wp_iconst (pc := 64) d_Md_doMove_64 ?_
  refine zp_iadd (pc := 65) d_Md_doMove_65 ?_
  refine zp_imul (pc := 66) d_Md_doMove_66 ?_
  refine zp_iadd (pc := 67) d_Md_doMove_67 ?_
  refine zp_iastore (pc := 68) d_Md_doMove_68 hE.1 MH_r hB1 (by omega) (by omega) (by decide) ?_
  rw [MH_pr]
  refine wp_aload_n (pc := 69) d_Md_doMove_69 rfl ?_
  refine wp_getfield (pc := 70) d_Md_doMove_70 f_Md_8 MH_o rfl ?_
  refine zp_bipush (pc := 73) d_Md_doMove_73 (by decide) ?_
  refine wp_dup2 (pc := 75) d_Md_doMove_75 rfl rfl ?_
  refine zp_iaload (pc := 76) d_Md_doMove_76 hE.1 MH_r (by omega) (by omega) (by decide) ?_
  try simp (disch := omega) only [zup_ne, zup_eq, lvF_o, hgF_o, lgF_o]
  refine wp_iconst (pc := 77) d_Md_doMove_77 ?_
  refine zp_iadd (pc := 78) d_Md_doMove_78 ?_
  refine zp_iastore (pc := 79) d_Md_doMove_79 hE.1 MH_r hB1 (by omega) (by omega) (by decide) ?_
  rw [MH_pr]
  refine wp_aload_n (pc := 80) d_Md_doMove_80 rfl ?_
  refine wp_iconst (pc := 81) d_Md_doMove_81 ?_
  refine wp_iload (pc := 82) d_Md_doMove_82 rfl ?_
  refine wn_callV (n := 2) (As := [_, _]) (pc := 84) d_Md_doMove_84 s_Md_88 q_Md_log ⟨by decide, by decide⟩ MH_o rfl rfl rfl rfl (Nat.le_of_ble_eq_true rfl) (Nat.le_of_ble_eq_true rfl) ?_
  refine sp_Md_log hE hB (n := n) (by simp (disch := omega) only [zup_ne, zup_eq, lvF_o, hgF_o, lgF_o]; exact h13) (by omega) ?_
  refine ⟨rfl, ?_⟩
  refine wp_iload (pc := 87) d_Md_doMove_87 rfl ?_
  refine zp_ireturn (pc := 89) d_Md_doMove_89 rfl ?_
  exact k
set_option maxRecDepth 100000 in
theorem sp_Md_addRack (hE : gOk E) (hB : gB E ≤ mo) {n : Int} (hJ : J n F) (hn : n ≤ 1000000000) (hs0 : 0 ≤ sn) (hs1 : sn ≤ 4) {a b : Int} (ra : gR a) (rb : gR b) (k0 : c_ar F a b < 0 → Q (some (.int (zI (c_ar F a b)))) (MH mo h F sn kp g ln)) (k1 : ¬ c_ar F a b < 0 → Q (some (.int (zI (c_ar F a b)))) (MH mo h (u_ar (rcF F sn 0) a b) (rcS sn) kp g ln)) : Wp E m_Md_addRack 0 (gEnt m_Md_addRack [.ref mo, .int (zI a), .int (zI b)]) [] (MH mo h F sn kp g ln) Q := by
  have hB1 : gB E ≤ mo + 1 := by omega
  have hV := hJ.vd
  have hs := hV.1
  show Wp E m_Md_addRack 0 [some (_), some (_), some (_), none] [] _ _
  refine wp_iload_n (pc := 0) d_Md_addRack_0 rfl ?_
  refine wp_iconst (pc := 1) d_Md_addRack_1 ?_
  refine zp_bipush (pc := 2) d_Md_addRack_2 (by decide) ?_
  refine wv_callS (n := 3) (As := [_, _, _]) (pc := 4) d_Md_addRack_4 s_Md_38 q_Md_in ⟨by decide, by decide⟩ rfl rfl rfl (Nat.le_of_ble_eq_true rfl) (Nat.le_of_ble_eq_true rfl) ?_
  refine sp_Md_in ⟨by omega, by omega⟩ ⟨by omega, by omega⟩ ⟨by omega, by omega⟩ ?_
  refine ⟨_, rfl, ?_⟩
  refine zp_ifb_eq (tgt := 19) (pc := 7) d_Md_addRack_7 (by decide) (fun c7 => ?_) (fun c7 => ?_)
  · refine zp_bipush (pc := 19) d_Md_addRack_19 (by decide) ?_
    refine zp_ireturn (pc := 21) d_Md_addRack_21 rfl ?_
    have ee : c_ar F a b = -2 := by
      unfold c_ar
      (repeat' split) <;> omega
    have z := k0 (by omega)
    rw [ee] at z
    exact z
  · refine wp_iload_n (pc := 10) d_Md_addRack_10 rfl ?_
    refine wp_iconst (pc := 11) d_Md_addRack_11 ?_
    refine wp_iconst (pc := 12) d_Md_addRack_12 ?_
    refine wv_callS (n := 3) (As := [_, _, _]) (pc := 13) d_Md_addRack_13 s_Md_38 q_Md_in ⟨by decide, by decide⟩ rfl rfl rfl (Nat.le_of_ble_eq_true rfl) (Nat.le_of_ble_eq_true rfl) ?_
    refine sp_Md_in ⟨by omega, by omega⟩ ⟨by omega, by omega⟩ ⟨by omega, by omega⟩ ?_
    refine ⟨_, rfl, ?_⟩
    refine zp_ifb_ne (tgt := 22) (pc := 16) d_Md_addRack_16 (by decide) (fun c16 => ?_) (fun c16 => ?_)
    · refine wp_aload_n (pc := 22) d_Md_addRack_22 rfl ?_
      refine wp_getfield (pc := 23) d_Md_addRack_23 f_Md_8 MH_o rfl ?_
      refine wp_iconst (pc := 26) d_Md_addRack_26 ?_
      refine zp_iaload (pc := 27) d_Md_addRack_27 hE.1 MH_r (by omega) (by omega) (by decide) ?_
      refine wp_iconst (pc := 28) d_Md_addRack_28 ?_
      refine zp_icmp_ne (tgt := 35) (pc := 29) d_Md_addRack_29 (by decide) ⟨by omega, by omega⟩ ⟨by omega, by omega⟩ (fun c29 => ?_) (fun c29 => ?_)
      · refine wp_aload_n (pc := 35) d_Md_addRack_35 rfl ?_
        refine wp_iconst (pc := 36) d_Md_addRack_36 ?_
        refine wn_callV (n := 1) (As := [_]) (pc := 37) d_Md_addRack_37 s_Md_34 q_Md_record ⟨by decide, by decide⟩ MH_o rfl rfl rfl rfl (Nat.le_of_ble_eq_true rfl) (Nat.le_of_ble_eq_true rfl) ?_
        refine sp_Md_record hE hB (Or.inl rfl) hs0 hs1 ?_
        refine ⟨rfl, ?_⟩
        have hlo : ∀ j : Int, j < 6559 → rcF F sn 0 j = F j := fun j hj => rcF_lo hs0 hs1 hj
        have hVG := (hJ.1.congr (G := rcF F sn 0) fun j _ hj => hlo j hj).vd
        have hJG := rcF_J (b := 0) hs0 hs1 hJ
        generalize hG : rcF F sn 0 = G at hlo hVG hJG ⊢
        have hsG := hVG.1
        have e1 := hlo 1 (by omega)
        refine wp_aload_n (pc := 40) d_Md_addRack_40 rfl ?_
        refine wp_getfield (pc := 41) d_Md_addRack_41 f_Md_8 MH_o rfl ?_
        refine wp_iconst (pc := 44) d_Md_addRack_44 ?_
        refine zp_iaload (pc := 45) d_Md_addRack_45 hE.1 MH_r (by omega) (by omega) (by decide) ?_
        refine st_i3 (pc := 46) d_Md_addRack_46 (by decide) ?_
        refine wp_aload_n (pc := 47) d_Md_addRack_47 rfl ?_
        refine wp_getfield (pc := 48) d_Md_addRack_48 f_Md_8 MH_o rfl ?_
        refine wp_iload_n (pc := 51) d_Md_addRack_51 rfl ?_
        refine wp_iconst (pc := 52) d_Md_addRack_52 ?_
        refine wv_callS (n := 2) (As := [_, _]) (pc := 53) d_Md_addRack_53 s_Md_46 q_Md_ofRack ⟨by decide, by decide⟩ rfl rfl rfl (Nat.le_of_ble_eq_true rfl) (Nat.le_of_ble_eq_true rfl) ?_
        refine sp_Md_ofRack ?_
        refine ⟨_, rfl, ?_⟩
        refine wp_iload_n (pc := 56) d_Md_addRack_56 rfl ?_
        refine zp_iastore (pc := 57) d_Md_addRack_57 hE.1 MH_r hB1 (by omega) (by omega) (by decide) ?_
        rw [MH_pr]
        refine wp_aload_n (pc := 58) d_Md_addRack_58 rfl ?_
        refine wp_getfield (pc := 59) d_Md_addRack_59 f_Md_8 MH_o rfl ?_
        refine wp_iload_n (pc := 62) d_Md_addRack_62 rfl ?_
        refine wp_iconst (pc := 63) d_Md_addRack_63 ?_
        refine wv_callS (n := 2) (As := [_, _]) (pc := 64) d_Md_addRack_64 s_Md_46 q_Md_ofRack ⟨by decide, by decide⟩ rfl rfl rfl (Nat.le_of_ble_eq_true rfl) (Nat.le_of_ble_eq_true rfl) ?_
        refine sp_Md_ofRack ?_
        refine ⟨_, rfl, ?_⟩
        refine wp_iload_n (pc := 67) d_Md_addRack_67 rfl ?_
        refine zp_iastore (pc := 68) d_Md_addRack_68 hE.1 MH_r hB1 (by omega) (by omega) (by decide) ?_
        rw [MH_pr]
        refine wp_aload_n (pc := 69) d_Md_addRack_69 rfl ?_
        refine wp_getfield (pc := 70) d_Md_addRack_70 f_Md_8 MH_o rfl ?_
        refine wp_iload_n (pc := 73) d_Md_addRack_73 rfl ?_
        refine wp_iconst (pc := 74) d_Md_addRack_74 ?_
        refine wv_callS (n := 2) (As := [_, _]) (pc := 75) d_Md_addRack_75 s_Md_46 q_Md_ofRack ⟨by decide, by decide⟩ rfl rfl rfl (Nat.le_of_ble_eq_true rfl) (Nat.le_of_ble_eq_true rfl) ?_
        refine sp_Md_ofRack ?_
        refine ⟨_, rfl, ?_⟩
        refine wp_iconst (pc := 78) d_Md_addRack_78 ?_
        refine zp_iastore (pc := 79) d_Md_addRack_79 hE.1 MH_r hB1 (by omega) (by omega) (by decide) ?_
        rw [MH_pr]
        refine wp_aload_n (pc := 80) d_Md_addRack_80 rfl ?_
        refine wp_getfield (pc := 81) d_Md_addRack_81 f_Md_8 MH_o rfl ?_
        refine wp_iconst (pc := 84) d_Md_addRack_84 ?_
        refine wp_dup2 (pc := 85) d_Md_addRack_85 rfl rfl ?_
        refine zp_iaload (pc := 86) d_Md_addRack_86 hE.1 MH_r (by omega) (by omega) (by decide) ?_
        try simp (disch := omega) only [zup_ne, zup_eq, lvF_o, hgF_o, lgF_o]
        refine wp_iconst (pc := 87) d_Md_addRack_87 ?_
        refine zp_iadd (pc := 88) d_Md_addRack_88 ?_
        refine zp_iastore (pc := 89) d_Md_addRack_89 hE.1 MH_r hB1 (by omega) (by omega) (by decide) ?_
        rw [MH_pr]
        refine wp_iload_n (pc := 90) d_Md_addRack_90 rfl ?_
        refine zp_ireturn (pc := 91) d_Md_addRack_91 rfl ?_
        rw [hG] at k1
        have ee : c_ar F a b = G 1 := by
          unfold c_ar
          (repeat' split) <;> omega
        have z := k1 (by rw [ee]; omega)
        rw [ee] at z
        exact z
      · refine zp_bipush (pc := 32) d_Md_addRack_32 (by decide) ?_
        refine zp_ireturn (pc := 34) d_Md_addRack_34 rfl ?_
        have ee : c_ar F a b = -3 := by
          unfold c_ar
          (repeat' split) <;> omega
        have z := k0 (by omega)
        rw [ee] at z
        exact z
    · refine zp_bipush (pc := 19) d_Md_addRack_19 (by decide) ?_
      refine zp_ireturn (pc := 21) d_Md_addRack_21 rfl ?_
      have ee : c_ar F a b = -2 := by
        unfold c_ar
        (repeat' split) <;> omega
      have z := k0 (by omega)
      rw [ee] at z
      exact z
set_option maxRecDepth 100000 in
theorem sp_Md_open (hE : gOk E) (hB : gB E ≤ mo) {n : Int} (hJ : J n F) (hn : n ≤ 1000000000) (hs0 : 0 ≤ sn) (hs1 : sn ≤ 4) {r o : Int} (rr : gR r) (ho : o = 0 ∨ o = 1) (k0 : c_op F r o < 0 → Q (some (.int (zI (c_op F r o)))) (MH mo h F sn kp g ln)) (k1 : ¬ c_op F r o < 0 → Q (some (.int (zI (c_op F r o)))) (MH mo h (u_op (rcF F sn 0) r o) (rcS sn) kp g ln)) : Wp E m_Md_open 0 (gEnt m_Md_open [.ref mo, .int (zI r), .int (zI o)]) [] (MH mo h F sn kp g ln) Q := by
  have hB1 : gB E ≤ mo + 1 := by omega
  have hV := hJ.vd
  have hs := hV.1
  show Wp E m_Md_open 0 [some (_), some (_), some (_), none] [] _ _
  refine wp_aload_n (pc := 0) d_Md_open_0 rfl ?_
  refine wp_iload_n (pc := 1) d_Md_open_1 rfl ?_
  refine wv_callV (n := 1) (As := [_]) (pc := 2) d_Md_open_2 s_Md_42 q_Md_isRack ⟨by decide, by decide⟩ MH_o rfl rfl rfl rfl (Nat.le_of_ble_eq_true rfl) (Nat.le_of_ble_eq_true rfl) ?_
  refine sp_Md_isRack hE rr (by omega) ?_
  refine ⟨_, rfl, ?_⟩
  refine zp_ifb_ne (tgt := 10) (pc := 5) d_Md_open_5 (by decide) (fun c5 => ?_) (fun c5 => ?_)
  · refine wp_iload_n (pc := 10) d_Md_open_10 rfl ?_
    refine zp_if_eq (tgt := 18) (pc := 11) d_Md_open_11 (by decide) ⟨by omega, by omega⟩ (fun c11 => ?_) (fun c11 => ?_)
    · refine wp_iconst (pc := 18) d_Md_open_18 ?_
      obtain rfl : o = 0 := by omega
      have hr := hV.2.2.1 r (by omega) (by omega)
      refine st_i3 (pc := 19) d_Md_open_19 (by decide) ?_
      refine wp_aload_n (pc := 20) d_Md_open_20 rfl ?_
      refine wp_getfield (pc := 21) d_Md_open_21 f_Md_8 MH_o rfl ?_
      refine wp_iload_n (pc := 24) d_Md_open_24 rfl ?_
      refine wp_iconst (pc := 25) d_Md_open_25 ?_
      refine wv_callS (n := 2) (As := [_, _]) (pc := 26) d_Md_open_26 s_Md_46 q_Md_ofRack ⟨by decide, by decide⟩ rfl rfl rfl (Nat.le_of_ble_eq_true rfl) (Nat.le_of_ble_eq_true rfl) ?_
      refine sp_Md_ofRack ?_
      refine ⟨_, rfl, ?_⟩
      refine zp_iaload (pc := 29) d_Md_open_29 hE.1 MH_r (by omega) (by omega) (by decide) ?_
      refine wp_iload_n (pc := 30) d_Md_open_30 rfl ?_
      refine zp_icmp_ne (tgt := 37) (pc := 31) d_Md_open_31 (by decide) ⟨by omega, by omega⟩ ⟨by omega, by omega⟩ (fun c31 => ?_) (fun c31 => ?_)
      · refine wp_aload_n (pc := 37) d_Md_open_37 rfl ?_
        refine wp_iconst (pc := 38) d_Md_open_38 ?_
        refine wn_callV (n := 1) (As := [_]) (pc := 39) d_Md_open_39 s_Md_34 q_Md_record ⟨by decide, by decide⟩ MH_o rfl rfl rfl rfl (Nat.le_of_ble_eq_true rfl) (Nat.le_of_ble_eq_true rfl) ?_
        refine sp_Md_record hE hB (Or.inl rfl) hs0 hs1 ?_
        refine ⟨rfl, ?_⟩
        have hlo : ∀ j : Int, j < 6559 → rcF F sn 0 j = F j := fun j hj => rcF_lo hs0 hs1 hj
        have hVG := (hJ.1.congr (G := rcF F sn 0) fun j _ hj => hlo j hj).vd
        have hJG := rcF_J (b := 0) hs0 hs1 hJ
        generalize hG : rcF F sn 0 = G at hlo hVG hJG ⊢
        refine wp_aload_n (pc := 42) d_Md_open_42 rfl ?_
        refine wp_getfield (pc := 43) d_Md_open_43 f_Md_8 MH_o rfl ?_
        refine wp_iload_n (pc := 46) d_Md_open_46 rfl ?_
        refine wp_iconst (pc := 47) d_Md_open_47 ?_
        refine wv_callS (n := 2) (As := [_, _]) (pc := 48) d_Md_open_48 s_Md_46 q_Md_ofRack ⟨by decide, by decide⟩ rfl rfl rfl (Nat.le_of_ble_eq_true rfl) (Nat.le_of_ble_eq_true rfl) ?_
        refine sp_Md_ofRack ?_
        refine ⟨_, rfl, ?_⟩
        refine wp_iload_n (pc := 51) d_Md_open_51 rfl ?_
        refine zp_iastore (pc := 52) d_Md_open_52 hE.1 MH_r hB1 (by omega) (by omega) (by decide) ?_
        rw [MH_pr]
        refine wp_aload_n (pc := 53) d_Md_open_53 rfl ?_
        refine wp_iload_n (pc := 54) d_Md_open_54 rfl ?_
        refine wv_callV (n := 1) (As := [_]) (pc := 55) d_Md_open_55 s_Md_59 q_Md_coatsOn ⟨by decide, by decide⟩ MH_o rfl rfl rfl rfl (Nat.le_of_ble_eq_true rfl) (Nat.le_of_ble_eq_true rfl) ?_
        refine sp_Md_coatsOn hE (by omega) (by omega) ?_
        refine ⟨_, rfl, ?_⟩
        refine zp_ireturn (pc := 58) d_Md_open_58 rfl ?_
        have hsb : 0 ≤ sC (zup G (14 + 3 * r + 2) 0) r ∧ _ := sm_b (m := 1) (by omega) fun q hq => by rw [zup_ne _ _ (by omega)]; exact (hVG.2.2.2.1 _ (by omega) (by omega)).2.1
        rw [hG] at k1
        have ee : c_op F r 0 = sC (zup G (14 + 3 * r + 2) 0) r := by
          rw [show sC (zup G (14 + 3 * r + 2) 0) r = sC F r from sm_congr fun q hq => by rw [zup_ne _ _ (by omega), hlo _ (by omega)]]
          unfold c_op
          (repeat' split) <;> omega
        have z := k1 (by rw [ee]; omega)
        rw [ee] at z
        exact z
      · refine zp_bipush (pc := 34) d_Md_open_34 (by decide) ?_
        refine zp_ireturn (pc := 36) d_Md_open_36 rfl ?_
        have ee : c_op F r 0 = -5 := by
          unfold c_op
          (repeat' split) <;> omega
        have z := k0 (by omega)
        rw [ee] at z
        exact z
    · refine wp_iconst (pc := 14) d_Md_open_14 ?_
      refine wp_goto (tgt := 19) (pc := 15) d_Md_open_15 (by decide) ?_
      obtain rfl : o = 1 := by omega
      have hr := hV.2.2.1 r (by omega) (by omega)
      refine st_i3 (pc := 19) d_Md_open_19 (by decide) ?_
      refine wp_aload_n (pc := 20) d_Md_open_20 rfl ?_
      refine wp_getfield (pc := 21) d_Md_open_21 f_Md_8 MH_o rfl ?_
      refine wp_iload_n (pc := 24) d_Md_open_24 rfl ?_
      refine wp_iconst (pc := 25) d_Md_open_25 ?_
      refine wv_callS (n := 2) (As := [_, _]) (pc := 26) d_Md_open_26 s_Md_46 q_Md_ofRack ⟨by decide, by decide⟩ rfl rfl rfl (Nat.le_of_ble_eq_true rfl) (Nat.le_of_ble_eq_true rfl) ?_
      refine sp_Md_ofRack ?_
      refine ⟨_, rfl, ?_⟩
      refine zp_iaload (pc := 29) d_Md_open_29 hE.1 MH_r (by omega) (by omega) (by decide) ?_
      refine wp_iload_n (pc := 30) d_Md_open_30 rfl ?_
      refine zp_icmp_ne (tgt := 37) (pc := 31) d_Md_open_31 (by decide) ⟨by omega, by omega⟩ ⟨by omega, by omega⟩ (fun c31 => ?_) (fun c31 => ?_)
      · refine wp_aload_n (pc := 37) d_Md_open_37 rfl ?_
        refine wp_iconst (pc := 38) d_Md_open_38 ?_
        refine wn_callV (n := 1) (As := [_]) (pc := 39) d_Md_open_39 s_Md_34 q_Md_record ⟨by decide, by decide⟩ MH_o rfl rfl rfl rfl (Nat.le_of_ble_eq_true rfl) (Nat.le_of_ble_eq_true rfl) ?_
        refine sp_Md_record hE hB (Or.inl rfl) hs0 hs1 ?_
        refine ⟨rfl, ?_⟩
        have hlo : ∀ j : Int, j < 6559 → rcF F sn 0 j = F j := fun j hj => rcF_lo hs0 hs1 hj
        have hVG := (hJ.1.congr (G := rcF F sn 0) fun j _ hj => hlo j hj).vd
        have hJG := rcF_J (b := 0) hs0 hs1 hJ
        generalize hG : rcF F sn 0 = G at hlo hVG hJG ⊢
        refine wp_aload_n (pc := 42) d_Md_open_42 rfl ?_
        refine wp_getfield (pc := 43) d_Md_open_43 f_Md_8 MH_o rfl ?_
        refine wp_iload_n (pc := 46) d_Md_open_46 rfl ?_
        refine wp_iconst (pc := 47) d_Md_open_47 ?_
        refine wv_callS (n := 2) (As := [_, _]) (pc := 48) d_Md_open_48 s_Md_46 q_Md_ofRack ⟨by decide, by decide⟩ rfl rfl rfl (Nat.le_of_ble_eq_true rfl) (Nat.le_of_ble_eq_true rfl) ?_
        refine sp_Md_ofRack ?_
        refine ⟨_, rfl, ?_⟩
        refine wp_iload_n (pc := 51) d_Md_open_51 rfl ?_
        refine zp_iastore (pc := 52) d_Md_open_52 hE.1 MH_r hB1 (by omega) (by omega) (by decide) ?_
        rw [MH_pr]
        refine wp_aload_n (pc := 53) d_Md_open_53 rfl ?_
        refine wp_iload_n (pc := 54) d_Md_open_54 rfl ?_
        refine wv_callV (n := 1) (As := [_]) (pc := 55) d_Md_open_55 s_Md_59 q_Md_coatsOn ⟨by decide, by decide⟩ MH_o rfl rfl rfl rfl (Nat.le_of_ble_eq_true rfl) (Nat.le_of_ble_eq_true rfl) ?_
        refine sp_Md_coatsOn hE (by omega) (by omega) ?_
        refine ⟨_, rfl, ?_⟩
        refine zp_ireturn (pc := 58) d_Md_open_58 rfl ?_
        have hsb : 0 ≤ sC (zup G (14 + 3 * r + 2) 1) r ∧ _ := sm_b (m := 1) (by omega) fun q hq => by rw [zup_ne _ _ (by omega)]; exact (hVG.2.2.2.1 _ (by omega) (by omega)).2.1
        rw [hG] at k1
        have ee : c_op F r 1 = sC (zup G (14 + 3 * r + 2) 1) r := by
          rw [show sC (zup G (14 + 3 * r + 2) 1) r = sC F r from sm_congr fun q hq => by rw [zup_ne _ _ (by omega), hlo _ (by omega)]]
          unfold c_op
          (repeat' split) <;> omega
        have z := k1 (by rw [ee]; omega)
        rw [ee] at z
        exact z
      · refine zp_bipush (pc := 34) d_Md_open_34 (by decide) ?_
        refine zp_ireturn (pc := 36) d_Md_open_36 rfl ?_
        have ee : c_op F r 1 = -5 := by
          unfold c_op
          (repeat' split) <;> omega
        have z := k0 (by omega)
        rw [ee] at z
        exact z
  · refine wp_iconst (pc := 8) d_Md_open_8 ?_
    refine zp_ireturn (pc := 9) d_Md_open_9 rfl ?_
    have ee : c_op F r o = -1 := by
      unfold c_op
      (repeat' split) <;> omega
    have z := k0 (by omega)
    rw [ee] at z
    exact z
set_option maxRecDepth 100000 in
theorem sp_Md_age (hE : gOk E) (hB : gB E ≤ mo) {n : Int} (hJ : J n F) (hn : n ≤ 1000000000) (hs0 : 0 ≤ sn) (hs1 : sn ≤ 4) {x y : Int} (rx : gR x) (ry : gR y) (k0 : c_ag F x y < 0 → Q (some (.int (zI (c_ag F x y)))) (MH mo h F sn kp g ln)) (k1 : ¬ c_ag F x y < 0 → Q (some (.int (zI (c_ag F x y)))) (MH mo h (u_ag (rcF F sn 0) x y) (rcS sn) kp g ln)) : Wp E m_Md_age 0 (gEnt m_Md_age [.ref mo, .int (zI x), .int (zI y)]) [] (MH mo h F sn kp g ln) Q := by
  have hB1 : gB E ≤ mo + 1 := by omega
  have hV := hJ.vd
  have hs := hV.1
  show Wp E m_Md_age 0 [some (_), some (_), some (_), none] [] _ _
  refine wp_aload_n (pc := 0) d_Md_age_0 rfl ?_
  refine wp_iload_n (pc := 1) d_Md_age_1 rfl ?_
  refine wv_callV (n := 1) (As := [_]) (pc := 2) d_Md_age_2 s_Md_53 q_Md_isHook ⟨by decide, by decide⟩ MH_o rfl rfl rfl rfl (Nat.le_of_ble_eq_true rfl) (Nat.le_of_ble_eq_true rfl) ?_
  refine sp_Md_isHook hE hV rx ?_
  refine ⟨_, rfl, ?_⟩
  refine zp_ifb_ne (tgt := 10) (pc := 5) d_Md_age_5 (by decide) (fun c5 => ?_) (fun c5 => ?_)
  · have hk := hV.2.2.2.1 x (by omega) (by omega)
    refine wp_aload_n (pc := 10) d_Md_age_10 rfl ?_
    refine wp_getfield (pc := 11) d_Md_age_11 f_Md_8 MH_o rfl ?_
    refine wp_iload_n (pc := 14) d_Md_age_14 rfl ?_
    refine wp_iconst (pc := 15) d_Md_age_15 ?_
    refine wv_callS (n := 2) (As := [_, _]) (pc := 16) d_Md_age_16 s_Md_50 q_Md_of ⟨by decide, by decide⟩ rfl rfl rfl (Nat.le_of_ble_eq_true rfl) (Nat.le_of_ble_eq_true rfl) ?_
    refine sp_Md_of ?_
    refine ⟨_, rfl, ?_⟩
    refine zp_iaload (pc := 19) d_Md_age_19 hE.1 MH_r (by omega) (by omega) (by decide) ?_
    refine st_i3 (pc := 20) d_Md_age_20 (by decide) ?_
    refine wp_iload_n (pc := 21) d_Md_age_21 rfl ?_
    refine wp_iload_n (pc := 22) d_Md_age_22 rfl ?_
    refine wp_iconst (pc := 23) d_Md_age_23 ?_
    refine zp_iadd (pc := 24) d_Md_age_24 ?_
    refine zp_bipush (pc := 25) d_Md_age_25 (by decide) ?_
    refine wv_callS (n := 3) (As := [_, _, _]) (pc := 27) d_Md_age_27 s_Md_38 q_Md_in ⟨by decide, by decide⟩ rfl rfl rfl (Nat.le_of_ble_eq_true rfl) (Nat.le_of_ble_eq_true rfl) ?_
    refine sp_Md_in ⟨by omega, by omega⟩ ⟨by omega, by omega⟩ ⟨by omega, by omega⟩ ?_
    refine ⟨_, rfl, ?_⟩
    refine zp_ifb_ne (tgt := 36) (pc := 30) d_Md_age_30 (by decide) (fun c30 => ?_) (fun c30 => ?_)
    · refine wp_aload_n (pc := 36) d_Md_age_36 rfl ?_
      refine wp_iload_n (pc := 37) d_Md_age_37 rfl ?_
      refine wv_callV (n := 1) (As := [_]) (pc := 38) d_Md_age_38 s_Md_56 q_Md_holds ⟨by decide, by decide⟩ MH_o rfl rfl rfl rfl (Nat.le_of_ble_eq_true rfl) (Nat.le_of_ble_eq_true rfl) ?_
      refine sp_Md_holds hE (by omega) (by omega) (by omega) ?_
      refine ⟨_, rfl, ?_⟩
      refine zp_ifb_ne (tgt := 58) (pc := 41) d_Md_age_41 (by decide) (fun c41 => ?_) (fun c41 => ?_)
      · refine zp_bipush (pc := 58) d_Md_age_58 (by decide) ?_
        refine zp_ireturn (pc := 60) d_Md_age_60 rfl ?_
        have ee : c_ag F x y = -4 := by
          unfold c_ag
          (repeat' split) <;> omega
        have z := k0 (by omega)
        rw [ee] at z
        exact z
      · refine wp_aload_n (pc := 44) d_Md_age_44 rfl ?_
        refine wp_getfield (pc := 45) d_Md_age_45 f_Md_8 MH_o rfl ?_
        refine wp_iload_n (pc := 48) d_Md_age_48 rfl ?_
        refine wp_iconst (pc := 49) d_Md_age_49 ?_
        refine wv_callS (n := 2) (As := [_, _]) (pc := 50) d_Md_age_50 s_Md_50 q_Md_of ⟨by decide, by decide⟩ rfl rfl rfl (Nat.le_of_ble_eq_true rfl) (Nat.le_of_ble_eq_true rfl) ?_
        refine sp_Md_of ?_
        refine ⟨_, rfl, ?_⟩
        refine zp_iaload (pc := 53) d_Md_age_53 hE.1 MH_r (by omega) (by omega) (by decide) ?_
        refine wp_iconst (pc := 54) d_Md_age_54 ?_
        refine zp_icmp_ne (tgt := 61) (pc := 55) d_Md_age_55 (by decide) ⟨by omega, by omega⟩ ⟨by omega, by omega⟩ (fun c55 => ?_) (fun c55 => ?_)
        · refine wp_aload_n (pc := 61) d_Md_age_61 rfl ?_
          refine wp_iconst (pc := 62) d_Md_age_62 ?_
          refine wn_callV (n := 1) (As := [_]) (pc := 63) d_Md_age_63 s_Md_34 q_Md_record ⟨by decide, by decide⟩ MH_o rfl rfl rfl rfl (Nat.le_of_ble_eq_true rfl) (Nat.le_of_ble_eq_true rfl) ?_
          refine sp_Md_record hE hB (Or.inl rfl) hs0 hs1 ?_
          refine ⟨rfl, ?_⟩
          have hlo : ∀ j : Int, j < 6559 → rcF F sn 0 j = F j := fun j hj => rcF_lo hs0 hs1 hj
          have hVG := (hJ.1.congr (G := rcF F sn 0) fun j _ hj => hlo j hj).vd
          have hJG := rcF_J (b := 0) hs0 hs1 hJ
          generalize hG : rcF F sn 0 = G at hlo hVG hJG ⊢
          refine wp_aload_n (pc := 66) d_Md_age_66 rfl ?_
          refine wp_getfield (pc := 67) d_Md_age_67 f_Md_8 MH_o rfl ?_
          refine wp_iload_n (pc := 70) d_Md_age_70 rfl ?_
          refine wp_iconst (pc := 71) d_Md_age_71 ?_
          refine wv_callS (n := 2) (As := [_, _]) (pc := 72) d_Md_age_72 s_Md_50 q_Md_of ⟨by decide, by decide⟩ rfl rfl rfl (Nat.le_of_ble_eq_true rfl) (Nat.le_of_ble_eq_true rfl) ?_
          refine sp_Md_of ?_
          refine ⟨_, rfl, ?_⟩
          refine wp_iload_n (pc := 75) d_Md_age_75 rfl ?_
          refine zp_iastore (pc := 76) d_Md_age_76 hE.1 MH_r hB1 (by omega) (by omega) (by decide) ?_
          rw [MH_pr]
          refine wp_iload_n (pc := 77) d_Md_age_77 rfl ?_
          refine zp_ireturn (pc := 78) d_Md_age_78 rfl ?_
          rw [hG] at k1
          have ee : c_ag F x y = F (29 + 8 * x + 0) := by
            unfold c_ag
            (repeat' split) <;> omega
          have z := k1 (by rw [ee]; omega)
          rw [ee] at z
          exact z
        · refine zp_bipush (pc := 58) d_Md_age_58 (by decide) ?_
          refine zp_ireturn (pc := 60) d_Md_age_60 rfl ?_
          have ee : c_ag F x y = -4 := by
            unfold c_ag
            (repeat' split) <;> omega
          have z := k0 (by omega)
          rw [ee] at z
          exact z
    · refine zp_bipush (pc := 33) d_Md_age_33 (by decide) ?_
      refine zp_ireturn (pc := 35) d_Md_age_35 rfl ?_
      have ee : c_ag F x y = -2 := by
        unfold c_ag
        (repeat' split) <;> omega
      have z := k0 (by omega)
      rw [ee] at z
      exact z
  · refine wp_iconst (pc := 8) d_Md_age_8 ?_
    refine zp_ireturn (pc := 9) d_Md_age_9 rfl ?_
    have ee : c_ag F x y = -1 := by
      unfold c_ag
      (repeat' split) <;> omega
    have z := k0 (by omega)
    rw [ee] at z
    exact z
set_option maxRecDepth 100000 in
theorem sp_Md_set (hE : gOk E) (hB : gB E ≤ mo) {n : Int} (hJ : J n F) (hn : n ≤ 1000000000) (hs0 : 0 ≤ sn) (hs1 : sn ≤ 4) {w v : Int} (rw_ : gR w) (rv : gR v) (k0 : c_st F w v < 0 → Q (some (.int (zI (c_st F w v)))) (MH mo h F sn kp g ln)) (k1 : ¬ c_st F w v < 0 → Q (some (.int (zI (c_st F w v)))) (MH mo h (u_st (rcF F sn 0) w v) (rcS sn) kp g ln)) : Wp E m_Md_set 0 (gEnt m_Md_set [.ref mo, .int (zI w), .int (zI v)]) [] (MH mo h F sn kp g ln) Q := by
  have hB1 : gB E ≤ mo + 1 := by omega
  have hV := hJ.vd
  have hs := hV.1
  show Wp E m_Md_set 0 [some (_), some (_), some (_), none, none] [] _ _
  refine wp_iload_n (pc := 0) d_Md_set_0 rfl ?_
  refine zp_if_ne (tgt := 13) (pc := 1) d_Md_set_1 (by decide) ⟨by omega, by omega⟩ (fun c1 => ?_) (fun c1 => ?_)
  · refine wp_iload_n (pc := 13) d_Md_set_13 rfl ?_
    refine wp_iconst (pc := 14) d_Md_set_14 ?_
    refine zp_icmp_ne (tgt := 28) (pc := 15) d_Md_set_15 (by decide) ⟨by omega, by omega⟩ ⟨by omega, by omega⟩ (fun c15 => ?_) (fun c15 => ?_)
    · refine wp_iload_n (pc := 28) d_Md_set_28 rfl ?_
      refine wp_iconst (pc := 29) d_Md_set_29 ?_
      refine zp_icmp_ne (tgt := 47) (pc := 30) d_Md_set_30 (by decide) ⟨by omega, by omega⟩ ⟨by omega, by omega⟩ (fun c30 => ?_) (fun c30 => ?_)
      · refine wp_iconst (pc := 47) d_Md_set_47 ?_
        refine st_i3 (pc := 48) d_Md_set_48 (by decide) ?_
        refine wp_iload_n (pc := 49) d_Md_set_49 rfl ?_
        refine zp_if_ne (tgt := 56) (pc := 50) d_Md_set_50 (by decide) ⟨by omega, by omega⟩ (fun c50 => ?_) (fun c50 => ?_)
        · have hw : okSt w v := by omega
          have hbd : 0 ≤ F (2 + w) ∧ F (2 + w) ≤ 99 := by
            rcases hw with ⟨rfl, _⟩ | ⟨rfl, _⟩ | ⟨rfl, _⟩
            · have := hs.2.2.1; rw [show (2 : Int) + 0 = 2 from rfl]; omega
            · have := hs.2.2.2.1; rw [show (2 : Int) + 1 = 3 from rfl]; omega
            · have := hs.2.2.2.2; rw [show (2 : Int) + 2 = 4 from rfl]; omega
          refine wp_aload_n (pc := 56) d_Md_set_56 rfl ?_
          refine wp_getfield (pc := 57) d_Md_set_57 f_Md_8 MH_o rfl ?_
          refine wp_iconst (pc := 60) d_Md_set_60 ?_
          refine wp_iload_n (pc := 61) d_Md_set_61 rfl ?_
          refine zp_iadd (pc := 62) d_Md_set_62 ?_
          refine zp_iaload (pc := 63) d_Md_set_63 hE.1 MH_r (by omega) (by omega) (by decide) ?_
          refine st_i4 (pc := 64) d_Md_set_64 (by decide) ?_
          refine wp_iload (pc := 66) d_Md_set_66 rfl ?_
          refine wp_iload_n (pc := 68) d_Md_set_68 rfl ?_
          refine zp_icmp_ne (tgt := 75) (pc := 69) d_Md_set_69 (by decide) ⟨by omega, by omega⟩ ⟨by omega, by omega⟩ (fun c69 => ?_) (fun c69 => ?_)
          · refine wp_aload_n (pc := 75) d_Md_set_75 rfl ?_
            refine wp_iconst (pc := 76) d_Md_set_76 ?_
            refine wn_callV (n := 1) (As := [_]) (pc := 77) d_Md_set_77 s_Md_34 q_Md_record ⟨by decide, by decide⟩ MH_o rfl rfl rfl rfl (Nat.le_of_ble_eq_true rfl) (Nat.le_of_ble_eq_true rfl) ?_
            refine sp_Md_record hE hB (Or.inl rfl) hs0 hs1 ?_
            refine ⟨rfl, ?_⟩
            have hlo : ∀ j : Int, j < 6559 → rcF F sn 0 j = F j := fun j hj => rcF_lo hs0 hs1 hj
            have hVG := (hJ.1.congr (G := rcF F sn 0) fun j _ hj => hlo j hj).vd
            have hJG := rcF_J (b := 0) hs0 hs1 hJ
            generalize hG : rcF F sn 0 = G at hlo hVG hJG ⊢
            refine wp_aload_n (pc := 80) d_Md_set_80 rfl ?_
            refine wp_getfield (pc := 81) d_Md_set_81 f_Md_8 MH_o rfl ?_
            refine wp_iconst (pc := 84) d_Md_set_84 ?_
            refine wp_iload_n (pc := 85) d_Md_set_85 rfl ?_
            refine zp_iadd (pc := 86) d_Md_set_86 ?_
            refine wp_iload_n (pc := 87) d_Md_set_87 rfl ?_
            refine zp_iastore (pc := 88) d_Md_set_88 hE.1 MH_r hB1 (by omega) (by omega) (by decide) ?_
            rw [MH_pr]
            refine wp_iload (pc := 89) d_Md_set_89 rfl ?_
            refine zp_ireturn (pc := 91) d_Md_set_91 rfl ?_
            rw [hG] at k1
            have ee : c_st F w v = F (2 + w) := by
              unfold c_st
              (repeat' split) <;> omega
            have z := k1 (by rw [ee]; omega)
            rw [ee] at z
            exact z
          · refine zp_bipush (pc := 72) d_Md_set_72 (by decide) ?_
            refine zp_ireturn (pc := 74) d_Md_set_74 rfl ?_
            have ee : c_st F w v = -5 := by
              unfold c_st
              (repeat' split) <;> omega
            have z := k0 (by omega)
            rw [ee] at z
            exact z
        · refine zp_bipush (pc := 53) d_Md_set_53 (by decide) ?_
          refine zp_ireturn (pc := 55) d_Md_set_55 rfl ?_
          have ee : c_st F w v = -2 := by
            unfold c_st
            (repeat' split) <;> omega
          have z := k0 (by omega)
          rw [ee] at z
          exact z
      · refine wp_iload_n (pc := 33) d_Md_set_33 rfl ?_
        refine wp_iconst (pc := 34) d_Md_set_34 ?_
        refine zp_bipush (pc := 35) d_Md_set_35 (by decide) ?_
        refine wv_callS (n := 3) (As := [_, _, _]) (pc := 37) d_Md_set_37 s_Md_38 q_Md_in ⟨by decide, by decide⟩ rfl rfl rfl (Nat.le_of_ble_eq_true rfl) (Nat.le_of_ble_eq_true rfl) ?_
        refine sp_Md_in ⟨by omega, by omega⟩ ⟨by omega, by omega⟩ ⟨by omega, by omega⟩ ?_
        refine ⟨_, rfl, ?_⟩
        refine zp_ifb_eq (tgt := 47) (pc := 40) d_Md_set_40 (by decide) (fun c40 => ?_) (fun c40 => ?_)
        · refine wp_iconst (pc := 47) d_Md_set_47 ?_
          refine st_i3 (pc := 48) d_Md_set_48 (by decide) ?_
          refine wp_iload_n (pc := 49) d_Md_set_49 rfl ?_
          refine zp_if_ne (tgt := 56) (pc := 50) d_Md_set_50 (by decide) ⟨by omega, by omega⟩ (fun c50 => ?_) (fun c50 => ?_)
          · have hw : okSt w v := by omega
            have hbd : 0 ≤ F (2 + w) ∧ F (2 + w) ≤ 99 := by
              rcases hw with ⟨rfl, _⟩ | ⟨rfl, _⟩ | ⟨rfl, _⟩
              · have := hs.2.2.1; rw [show (2 : Int) + 0 = 2 from rfl]; omega
              · have := hs.2.2.2.1; rw [show (2 : Int) + 1 = 3 from rfl]; omega
              · have := hs.2.2.2.2; rw [show (2 : Int) + 2 = 4 from rfl]; omega
            refine wp_aload_n (pc := 56) d_Md_set_56 rfl ?_
            refine wp_getfield (pc := 57) d_Md_set_57 f_Md_8 MH_o rfl ?_
            refine wp_iconst (pc := 60) d_Md_set_60 ?_
            refine wp_iload_n (pc := 61) d_Md_set_61 rfl ?_
            refine zp_iadd (pc := 62) d_Md_set_62 ?_
            refine zp_iaload (pc := 63) d_Md_set_63 hE.1 MH_r (by omega) (by omega) (by decide) ?_
            refine st_i4 (pc := 64) d_Md_set_64 (by decide) ?_
            refine wp_iload (pc := 66) d_Md_set_66 rfl ?_
            refine wp_iload_n (pc := 68) d_Md_set_68 rfl ?_
            refine zp_icmp_ne (tgt := 75) (pc := 69) d_Md_set_69 (by decide) ⟨by omega, by omega⟩ ⟨by omega, by omega⟩ (fun c69 => ?_) (fun c69 => ?_)
            · refine wp_aload_n (pc := 75) d_Md_set_75 rfl ?_
              refine wp_iconst (pc := 76) d_Md_set_76 ?_
              refine wn_callV (n := 1) (As := [_]) (pc := 77) d_Md_set_77 s_Md_34 q_Md_record ⟨by decide, by decide⟩ MH_o rfl rfl rfl rfl (Nat.le_of_ble_eq_true rfl) (Nat.le_of_ble_eq_true rfl) ?_
              refine sp_Md_record hE hB (Or.inl rfl) hs0 hs1 ?_
              refine ⟨rfl, ?_⟩
              have hlo : ∀ j : Int, j < 6559 → rcF F sn 0 j = F j := fun j hj => rcF_lo hs0 hs1 hj
              have hVG := (hJ.1.congr (G := rcF F sn 0) fun j _ hj => hlo j hj).vd
              have hJG := rcF_J (b := 0) hs0 hs1 hJ
              generalize hG : rcF F sn 0 = G at hlo hVG hJG ⊢
              refine wp_aload_n (pc := 80) d_Md_set_80 rfl ?_
              refine wp_getfield (pc := 81) d_Md_set_81 f_Md_8 MH_o rfl ?_
              refine wp_iconst (pc := 84) d_Md_set_84 ?_
              refine wp_iload_n (pc := 85) d_Md_set_85 rfl ?_
              refine zp_iadd (pc := 86) d_Md_set_86 ?_
              refine wp_iload_n (pc := 87) d_Md_set_87 rfl ?_
              refine zp_iastore (pc := 88) d_Md_set_88 hE.1 MH_r hB1 (by omega) (by omega) (by decide) ?_
              rw [MH_pr]
              refine wp_iload (pc := 89) d_Md_set_89 rfl ?_
              refine zp_ireturn (pc := 91) d_Md_set_91 rfl ?_
              rw [hG] at k1
              have ee : c_st F w v = F (2 + w) := by
                unfold c_st
                (repeat' split) <;> omega
              have z := k1 (by rw [ee]; omega)
              rw [ee] at z
              exact z
            · refine zp_bipush (pc := 72) d_Md_set_72 (by decide) ?_
              refine zp_ireturn (pc := 74) d_Md_set_74 rfl ?_
              have ee : c_st F w v = -5 := by
                unfold c_st
                (repeat' split) <;> omega
              have z := k0 (by omega)
              rw [ee] at z
              exact z
          · refine zp_bipush (pc := 53) d_Md_set_53 (by decide) ?_
            refine zp_ireturn (pc := 55) d_Md_set_55 rfl ?_
            have ee : c_st F w v = -2 := by
              unfold c_st
              (repeat' split) <;> omega
            have z := k0 (by omega)
            rw [ee] at z
            exact z
        · refine wp_iconst (pc := 43) d_Md_set_43 ?_
          refine wp_goto (tgt := 48) (pc := 44) d_Md_set_44 (by decide) ?_
          refine st_i3 (pc := 48) d_Md_set_48 (by decide) ?_
          refine wp_iload_n (pc := 49) d_Md_set_49 rfl ?_
          refine zp_if_ne (tgt := 56) (pc := 50) d_Md_set_50 (by decide) ⟨by omega, by omega⟩ (fun c50 => ?_) (fun c50 => ?_)
          · have hw : okSt w v := by omega
            have hbd : 0 ≤ F (2 + w) ∧ F (2 + w) ≤ 99 := by
              rcases hw with ⟨rfl, _⟩ | ⟨rfl, _⟩ | ⟨rfl, _⟩
              · have := hs.2.2.1; rw [show (2 : Int) + 0 = 2 from rfl]; omega
              · have := hs.2.2.2.1; rw [show (2 : Int) + 1 = 3 from rfl]; omega
              · have := hs.2.2.2.2; rw [show (2 : Int) + 2 = 4 from rfl]; omega
            refine wp_aload_n (pc := 56) d_Md_set_56 rfl ?_
            refine wp_getfield (pc := 57) d_Md_set_57 f_Md_8 MH_o rfl ?_
            refine wp_iconst (pc := 60) d_Md_set_60 ?_
            refine wp_iload_n (pc := 61) d_Md_set_61 rfl ?_
            refine zp_iadd (pc := 62) d_Md_set_62 ?_
            refine zp_iaload (pc := 63) d_Md_set_63 hE.1 MH_r (by omega) (by omega) (by decide) ?_
            refine st_i4 (pc := 64) d_Md_set_64 (by decide) ?_
            refine wp_iload (pc := 66) d_Md_set_66 rfl ?_
            refine wp_iload_n (pc := 68) d_Md_set_68 rfl ?_
            refine zp_icmp_ne (tgt := 75) (pc := 69) d_Md_set_69 (by decide) ⟨by omega, by omega⟩ ⟨by omega, by omega⟩ (fun c69 => ?_) (fun c69 => ?_)
            · refine wp_aload_n (pc := 75) d_Md_set_75 rfl ?_
              refine wp_iconst (pc := 76) d_Md_set_76 ?_
              refine wn_callV (n := 1) (As := [_]) (pc := 77) d_Md_set_77 s_Md_34 q_Md_record ⟨by decide, by decide⟩ MH_o rfl rfl rfl rfl (Nat.le_of_ble_eq_true rfl) (Nat.le_of_ble_eq_true rfl) ?_
              refine sp_Md_record hE hB (Or.inl rfl) hs0 hs1 ?_
              refine ⟨rfl, ?_⟩
              have hlo : ∀ j : Int, j < 6559 → rcF F sn 0 j = F j := fun j hj => rcF_lo hs0 hs1 hj
              have hVG := (hJ.1.congr (G := rcF F sn 0) fun j _ hj => hlo j hj).vd
              have hJG := rcF_J (b := 0) hs0 hs1 hJ
              generalize hG : rcF F sn 0 = G at hlo hVG hJG ⊢
              refine wp_aload_n (pc := 80) d_Md_set_80 rfl ?_
              refine wp_getfield (pc := 81) d_Md_set_81 f_Md_8 MH_o rfl ?_
              refine wp_iconst (pc := 84) d_Md_set_84 ?_
              refine wp_iload_n (pc := 85) d_Md_set_85 rfl ?_
              refine zp_iadd (pc := 86) d_Md_set_86 ?_
              refine wp_iload_n (pc := 87) d_Md_set_87 rfl ?_
              refine zp_iastore (pc := 88) d_Md_set_88 hE.1 MH_r hB1 (by omega) (by omega) (by decide) ?_
              rw [MH_pr]
              refine wp_iload (pc := 89) d_Md_set_89 rfl ?_
              refine zp_ireturn (pc := 91) d_Md_set_91 rfl ?_
              rw [hG] at k1
              have ee : c_st F w v = F (2 + w) := by
                unfold c_st
                (repeat' split) <;> omega
              have z := k1 (by rw [ee]; omega)
              rw [ee] at z
              exact z
            · refine zp_bipush (pc := 72) d_Md_set_72 (by decide) ?_
              refine zp_ireturn (pc := 74) d_Md_set_74 rfl ?_
              have ee : c_st F w v = -5 := by
                unfold c_st
                (repeat' split) <;> omega
              have z := k0 (by omega)
              rw [ee] at z
              exact z
          · refine zp_bipush (pc := 53) d_Md_set_53 (by decide) ?_
            refine zp_ireturn (pc := 55) d_Md_set_55 rfl ?_
            have ee : c_st F w v = -2 := by
              unfold c_st
              (repeat' split) <;> omega
            have z := k0 (by omega)
            rw [ee] at z
            exact z
    · refine wp_iload_n (pc := 18) d_Md_set_18 rfl ?_
      refine wp_iconst (pc := 19) d_Md_set_19 ?_
      refine zp_bipush (pc := 20) d_Md_set_20 (by decide) ?_
      refine wv_callS (n := 3) (As := [_, _, _]) (pc := 22) d_Md_set_22 s_Md_38 q_Md_in ⟨by decide, by decide⟩ rfl rfl rfl (Nat.le_of_ble_eq_true rfl) (Nat.le_of_ble_eq_true rfl) ?_
      refine sp_Md_in ⟨by omega, by omega⟩ ⟨by omega, by omega⟩ ⟨by omega, by omega⟩ ?_
      refine ⟨_, rfl, ?_⟩
      refine wp_goto (tgt := 48) (pc := 25) d_Md_set_25 (by decide) ?_
      refine st_i3 (pc := 48) d_Md_set_48 (by decide) ?_
      refine wp_iload_n (pc := 49) d_Md_set_49 rfl ?_
      refine zp_ifb_ne (tgt := 56) (pc := 50) d_Md_set_50 (by decide) (fun c50 => ?_) (fun c50 => ?_)
      · have hw : okSt w v := by omega
        have hbd : 0 ≤ F (2 + w) ∧ F (2 + w) ≤ 99 := by
          rcases hw with ⟨rfl, _⟩ | ⟨rfl, _⟩ | ⟨rfl, _⟩
          · have := hs.2.2.1; rw [show (2 : Int) + 0 = 2 from rfl]; omega
          · have := hs.2.2.2.1; rw [show (2 : Int) + 1 = 3 from rfl]; omega
          · have := hs.2.2.2.2; rw [show (2 : Int) + 2 = 4 from rfl]; omega
        refine wp_aload_n (pc := 56) d_Md_set_56 rfl ?_
        refine wp_getfield (pc := 57) d_Md_set_57 f_Md_8 MH_o rfl ?_
        refine wp_iconst (pc := 60) d_Md_set_60 ?_
        refine wp_iload_n (pc := 61) d_Md_set_61 rfl ?_
        refine zp_iadd (pc := 62) d_Md_set_62 ?_
        refine zp_iaload (pc := 63) d_Md_set_63 hE.1 MH_r (by omega) (by omega) (by decide) ?_
        refine st_i4 (pc := 64) d_Md_set_64 (by decide) ?_
        refine wp_iload (pc := 66) d_Md_set_66 rfl ?_
        refine wp_iload_n (pc := 68) d_Md_set_68 rfl ?_
        refine zp_icmp_ne (tgt := 75) (pc := 69) d_Md_set_69 (by decide) ⟨by omega, by omega⟩ ⟨by omega, by omega⟩ (fun c69 => ?_) (fun c69 => ?_)
        · refine wp_aload_n (pc := 75) d_Md_set_75 rfl ?_
          refine wp_iconst (pc := 76) d_Md_set_76 ?_
          refine wn_callV (n := 1) (As := [_]) (pc := 77) d_Md_set_77 s_Md_34 q_Md_record ⟨by decide, by decide⟩ MH_o rfl rfl rfl rfl (Nat.le_of_ble_eq_true rfl) (Nat.le_of_ble_eq_true rfl) ?_
          refine sp_Md_record hE hB (Or.inl rfl) hs0 hs1 ?_
          refine ⟨rfl, ?_⟩
          have hlo : ∀ j : Int, j < 6559 → rcF F sn 0 j = F j := fun j hj => rcF_lo hs0 hs1 hj
          have hVG := (hJ.1.congr (G := rcF F sn 0) fun j _ hj => hlo j hj).vd
          have hJG := rcF_J (b := 0) hs0 hs1 hJ
          generalize hG : rcF F sn 0 = G at hlo hVG hJG ⊢
          refine wp_aload_n (pc := 80) d_Md_set_80 rfl ?_
          refine wp_getfield (pc := 81) d_Md_set_81 f_Md_8 MH_o rfl ?_
          refine wp_iconst (pc := 84) d_Md_set_84 ?_
          refine wp_iload_n (pc := 85) d_Md_set_85 rfl ?_
          refine zp_iadd (pc := 86) d_Md_set_86 ?_
          refine wp_iload_n (pc := 87) d_Md_set_87 rfl ?_
          refine zp_iastore (pc := 88) d_Md_set_88 hE.1 MH_r hB1 (by omega) (by omega) (by decide) ?_
          rw [MH_pr]
          refine wp_iload (pc := 89) d_Md_set_89 rfl ?_
          refine zp_ireturn (pc := 91) d_Md_set_91 rfl ?_
          rw [hG] at k1
          have ee : c_st F w v = F (2 + w) := by
            unfold c_st
            (repeat' split) <;> omega
          have z := k1 (by rw [ee]; omega)
          rw [ee] at z
          exact z
        · refine zp_bipush (pc := 72) d_Md_set_72 (by decide) ?_
          refine zp_ireturn (pc := 74) d_Md_set_74 rfl ?_
          have ee : c_st F w v = -5 := by
            unfold c_st
            (repeat' split) <;> omega
          have z := k0 (by omega)
          rw [ee] at z
          exact z
      · refine zp_bipush (pc := 53) d_Md_set_53 (by decide) ?_
        refine zp_ireturn (pc := 55) d_Md_set_55 rfl ?_
        have ee : c_st F w v = -2 := by
          unfold c_st
          (repeat' split) <;> omega
        have z := k0 (by omega)
        rw [ee] at z
        exact z
  · refine wp_iload_n (pc := 4) d_Md_set_4 rfl ?_
    refine wp_iconst (pc := 5) d_Md_set_5 ?_
    refine wp_iconst (pc := 6) d_Md_set_6 ?_
    refine wv_callS (n := 3) (As := [_, _, _]) (pc := 7) d_Md_set_7 s_Md_38 q_Md_in ⟨by decide, by decide⟩ rfl rfl rfl (Nat.le_of_ble_eq_true rfl) (Nat.le_of_ble_eq_true rfl) ?_
    refine sp_Md_in ⟨by omega, by omega⟩ ⟨by omega, by omega⟩ ⟨by omega, by omega⟩ ?_
    refine ⟨_, rfl, ?_⟩
    refine wp_goto (tgt := 48) (pc := 10) d_Md_set_10 (by decide) ?_
    refine st_i3 (pc := 48) d_Md_set_48 (by decide) ?_
    refine wp_iload_n (pc := 49) d_Md_set_49 rfl ?_
    refine zp_ifb_ne (tgt := 56) (pc := 50) d_Md_set_50 (by decide) (fun c50 => ?_) (fun c50 => ?_)
    · have hw : okSt w v := by omega
      have hbd : 0 ≤ F (2 + w) ∧ F (2 + w) ≤ 99 := by
        rcases hw with ⟨rfl, _⟩ | ⟨rfl, _⟩ | ⟨rfl, _⟩
        · have := hs.2.2.1; rw [show (2 : Int) + 0 = 2 from rfl]; omega
        · have := hs.2.2.2.1; rw [show (2 : Int) + 1 = 3 from rfl]; omega
        · have := hs.2.2.2.2; rw [show (2 : Int) + 2 = 4 from rfl]; omega
      refine wp_aload_n (pc := 56) d_Md_set_56 rfl ?_
      refine wp_getfield (pc := 57) d_Md_set_57 f_Md_8 MH_o rfl ?_
      refine wp_iconst (pc := 60) d_Md_set_60 ?_
      refine wp_iload_n (pc := 61) d_Md_set_61 rfl ?_
      refine zp_iadd (pc := 62) d_Md_set_62 ?_
      refine zp_iaload (pc := 63) d_Md_set_63 hE.1 MH_r (by omega) (by omega) (by decide) ?_
      refine st_i4 (pc := 64) d_Md_set_64 (by decide) ?_
      refine wp_iload (pc := 66) d_Md_set_66 rfl ?_
      refine wp_iload_n (pc := 68) d_Md_set_68 rfl ?_
      refine zp_icmp_ne (tgt := 75) (pc := 69) d_Md_set_69 (by decide) ⟨by omega, by omega⟩ ⟨by omega, by omega⟩ (fun c69 => ?_) (fun c69 => ?_)
      · refine wp_aload_n (pc := 75) d_Md_set_75 rfl ?_
        refine wp_iconst (pc := 76) d_Md_set_76 ?_
        refine wn_callV (n := 1) (As := [_]) (pc := 77) d_Md_set_77 s_Md_34 q_Md_record ⟨by decide, by decide⟩ MH_o rfl rfl rfl rfl (Nat.le_of_ble_eq_true rfl) (Nat.le_of_ble_eq_true rfl) ?_
        refine sp_Md_record hE hB (Or.inl rfl) hs0 hs1 ?_
        refine ⟨rfl, ?_⟩
        have hlo : ∀ j : Int, j < 6559 → rcF F sn 0 j = F j := fun j hj => rcF_lo hs0 hs1 hj
        have hVG := (hJ.1.congr (G := rcF F sn 0) fun j _ hj => hlo j hj).vd
        have hJG := rcF_J (b := 0) hs0 hs1 hJ
        generalize hG : rcF F sn 0 = G at hlo hVG hJG ⊢
        refine wp_aload_n (pc := 80) d_Md_set_80 rfl ?_
        refine wp_getfield (pc := 81) d_Md_set_81 f_Md_8 MH_o rfl ?_
        refine wp_iconst (pc := 84) d_Md_set_84 ?_
        refine wp_iload_n (pc := 85) d_Md_set_85 rfl ?_
        refine zp_iadd (pc := 86) d_Md_set_86 ?_
        refine wp_iload_n (pc := 87) d_Md_set_87 rfl ?_
        refine zp_iastore (pc := 88) d_Md_set_88 hE.1 MH_r hB1 (by omega) (by omega) (by decide) ?_
        rw [MH_pr]
        refine wp_iload (pc := 89) d_Md_set_89 rfl ?_
        refine zp_ireturn (pc := 91) d_Md_set_91 rfl ?_
        rw [hG] at k1
        have ee : c_st F w v = F (2 + w) := by
          unfold c_st
          (repeat' split) <;> omega
        have z := k1 (by rw [ee]; omega)
        rw [ee] at z
        exact z
      · refine zp_bipush (pc := 72) d_Md_set_72 (by decide) ?_
        refine zp_ireturn (pc := 74) d_Md_set_74 rfl ?_
        have ee : c_st F w v = -5 := by
          unfold c_st
          (repeat' split) <;> omega
        have z := k0 (by omega)
        rw [ee] at z
        exact z
    · refine zp_bipush (pc := 53) d_Md_set_53 (by decide) ?_
      refine zp_ireturn (pc := 55) d_Md_set_55 rfl ?_
      have ee : c_st F w v = -2 := by
        unfold c_st
        (repeat' split) <;> omega
      have z := k0 (by omega)
      rw [ee] at z
      exact z
set_option maxRecDepth 100000 in
theorem sp_Md_take (hE : gOk E) (hB : gB E ≤ mo) {n : Int} (hJ : J n F) (hn : n ≤ 1000000000) (hs0 : 0 ≤ sn) (hs1 : sn ≤ 4) {y z : Int} (ry : gR y) (rz : gR z) (k0 : c_tk F y z < 0 → Q (some (.int (zI (c_tk F y z)))) (MH mo h F sn kp g ln)) (k1 : ¬ c_tk F y z < 0 → Q (some (.int (zI (c_tk F y z)))) (MH mo h (u_tk (rcF F sn 0) (bst F z 60) y z) (rcS sn) kp g ln)) : Wp E m_Md_take 0 (gEnt m_Md_take [.ref mo, .int (zI y), .int (zI z)]) [] (MH mo h F sn kp g ln) Q := by
  have hB1 : gB E ≤ mo + 1 := by omega
  have hV := hJ.vd
  have hs := hV.1
  show Wp E m_Md_take 0 [some (_), some (_), some (_), none, none] [] _ _
  refine wp_iload_n (pc := 0) d_Md_take_0 rfl ?_
  refine wv_callS (n := 1) (As := [_]) (pc := 1) d_Md_take_1 s_Md_98 q_Md_isGuest ⟨by decide, by decide⟩ rfl rfl rfl (Nat.le_of_ble_eq_true rfl) (Nat.le_of_ble_eq_true rfl) ?_
  refine sp_Md_isGuest ry ?_
  refine ⟨_, rfl, ?_⟩
  refine zp_ifb_ne (tgt := 9) (pc := 4) d_Md_take_4 (by decide) (fun c4 => ?_) (fun c4 => ?_)
  · refine wp_iload_n (pc := 9) d_Md_take_9 rfl ?_
    refine wp_iconst (pc := 10) d_Md_take_10 ?_
    refine wp_iconst (pc := 11) d_Md_take_11 ?_
    refine wv_callS (n := 3) (As := [_, _, _]) (pc := 12) d_Md_take_12 s_Md_38 q_Md_in ⟨by decide, by decide⟩ rfl rfl rfl (Nat.le_of_ble_eq_true rfl) (Nat.le_of_ble_eq_true rfl) ?_
    refine sp_Md_in ⟨by omega, by omega⟩ ⟨by omega, by omega⟩ ⟨by omega, by omega⟩ ?_
    refine ⟨_, rfl, ?_⟩
    refine zp_ifb_ne (tgt := 21) (pc := 15) d_Md_take_15 (by decide) (fun c15 => ?_) (fun c15 => ?_)
    · refine wp_aload_n (pc := 21) d_Md_take_21 rfl ?_
      refine wp_iload_n (pc := 22) d_Md_take_22 rfl ?_
      refine wv_callV (n := 1) (As := [_]) (pc := 23) d_Md_take_23 s_Md_101 q_Md_hookFor ⟨by decide, by decide⟩ MH_o rfl rfl rfl rfl (Nat.le_of_ble_eq_true rfl) (Nat.le_of_ble_eq_true rfl) ?_
      refine sp_Md_hookFor hE hV hn rz ?_
      refine ⟨_, rfl, ?_⟩
      have hbb := bst_b F z 60
      refine st_i3 (pc := 26) d_Md_take_26 (by decide) ?_
      refine wp_iload_n (pc := 27) d_Md_take_27 rfl ?_
      refine zp_bipush (pc := 28) d_Md_take_28 (by decide) ?_
      refine zp_icmp_ne (tgt := 36) (pc := 30) d_Md_take_30 (by decide) ⟨by omega, by omega⟩ ⟨by omega, by omega⟩ (fun c30 => ?_) (fun c30 => ?_)
      · refine wp_aload_n (pc := 36) d_Md_take_36 rfl ?_
        refine wp_iconst (pc := 37) d_Md_take_37 ?_
        refine wn_callV (n := 1) (As := [_]) (pc := 38) d_Md_take_38 s_Md_34 q_Md_record ⟨by decide, by decide⟩ MH_o rfl rfl rfl rfl (Nat.le_of_ble_eq_true rfl) (Nat.le_of_ble_eq_true rfl) ?_
        refine sp_Md_record hE hB (Or.inl rfl) hs0 hs1 ?_
        refine ⟨rfl, ?_⟩
        have hlo : ∀ j : Int, j < 6559 → rcF F sn 0 j = F j := fun j hj => rcF_lo hs0 hs1 hj
        have hVG := (hJ.1.congr (G := rcF F sn 0) fun j _ hj => hlo j hj).vd
        have hJG := rcF_J (b := 0) hs0 hs1 hJ
        generalize hG : rcF F sn 0 = G at hlo hVG hJG ⊢
        have hx0 : 0 ≤ bst F z 60 ∧ bst F z 60 < 60 := by omega
        have ehd : hdl G (bst F z 60) = hdl F (bst F z 60) := hdl_congr (hlo _ (by omega))
        have hbx := hdl_b hVG hx0.1 hx0.2
        have hgy := hVG.2.2.2.2.1 y (by omega) (by omega)
        have h6 := hVG.2.1 6 (by omega) (by omega) (by omega)
        have h13 := hVG.2.1 13 (by omega) (by omega) (by omega)
        have htb := tb_b (x := hdl G (bst F z 60)) (by omega) (by omega)
        refine wp_aload_n (pc := 41) d_Md_take_41 rfl ?_
        refine wp_iload_n (pc := 42) d_Md_take_42 rfl ?_
        refine wp_iload_n (pc := 43) d_Md_take_43 rfl ?_
        refine wp_iload_n (pc := 44) d_Md_take_44 rfl ?_
        refine wp_aload_n (pc := 45) d_Md_take_45 rfl ?_
        refine wp_getfield (pc := 46) d_Md_take_46 f_Md_8 MH_o rfl ?_
        refine wp_iconst (pc := 49) d_Md_take_49 ?_
        refine zp_iaload (pc := 50) d_Md_take_50 hE.1 MH_r (by omega) (by omega) (by decide) ?_
        refine wv_callV (n := 4) (As := [_, _, _, _]) (pc := 51) d_Md_take_51 s_Md_104 q_Md_hang ⟨by decide, by decide⟩ MH_o rfl rfl rfl rfl (Nat.le_of_ble_eq_true rfl) (Nat.le_of_ble_eq_true rfl) ?_
        refine sp_Md_hang hE hB hVG hn hx0.1 hx0.2 ?_
        refine ⟨_, rfl, ?_⟩
        refine st_i4 (pc := 54) d_Md_take_54 (by decide) ?_
        refine wp_aload_n (pc := 56) d_Md_take_56 rfl ?_
        refine wp_getfield (pc := 57) d_Md_take_57 f_Md_8 MH_o rfl ?_
        refine zp_sipush (pc := 60) d_Md_take_60 (by decide) ?_
        refine wp_iload_n (pc := 63) d_Md_take_63 rfl ?_
        refine zp_iadd (pc := 64) d_Md_take_64 ?_
        refine wp_dup2 (pc := 65) d_Md_take_65 rfl rfl ?_
        refine zp_iaload (pc := 66) d_Md_take_66 hE.1 MH_r (by omega) (by omega) (by decide) ?_
        try simp (disch := omega) only [zup_ne, zup_eq, lvF_o, hgF_o, lgF_o]
        refine wp_iconst (pc := 67) d_Md_take_67 ?_
        refine zp_iadd (pc := 68) d_Md_take_68 ?_
        refine zp_iastore (pc := 69) d_Md_take_69 hE.1 MH_r hB1 (by omega) (by omega) (by decide) ?_
        rw [MH_pr]
        refine wp_aload_n (pc := 70) d_Md_take_70 rfl ?_
        refine wp_getfield (pc := 71) d_Md_take_71 f_Md_8 MH_o rfl ?_
        refine zp_bipush (pc := 74) d_Md_take_74 (by decide) ?_
        refine wp_dup2 (pc := 76) d_Md_take_76 rfl rfl ?_
        refine zp_iaload (pc := 77) d_Md_take_77 hE.1 MH_r (by omega) (by omega) (by decide) ?_
        try simp (disch := omega) only [zup_ne, zup_eq, lvF_o, hgF_o, lgF_o]
        refine wp_iconst (pc := 78) d_Md_take_78 ?_
        refine zp_iadd (pc := 79) d_Md_take_79 ?_
        refine zp_iastore (pc := 80) d_Md_take_80 hE.1 MH_r hB1 (by omega) (by omega) (by decide) ?_
        rw [MH_pr]
        refine wp_aload_n (pc := 81) d_Md_take_81 rfl ?_
        refine wp_iconst (pc := 82) d_Md_take_82 ?_
        refine wp_iload (pc := 83) d_Md_take_83 rfl ?_
        refine wn_callV (n := 2) (As := [_, _]) (pc := 85) d_Md_take_85 s_Md_88 q_Md_log ⟨by decide, by decide⟩ MH_o rfl rfl rfl rfl (Nat.le_of_ble_eq_true rfl) (Nat.le_of_ble_eq_true rfl) ?_
        refine sp_Md_log hE hB (n := n) (by simp (disch := omega) only [zup_ne, zup_eq, hgF_o]; exact h13) hn ?_
        refine ⟨rfl, ?_⟩
        refine wp_iload (pc := 88) d_Md_take_88 rfl ?_
        refine wv_callS (n := 1) (As := [_]) (pc := 90) d_Md_take_90 s_Md_64 q_Md_tagBy ⟨by decide, by decide⟩ rfl rfl rfl (Nat.le_of_ble_eq_true rfl) (Nat.le_of_ble_eq_true rfl) ?_
        refine sp_Md_tagBy (by omega) (by omega) ?_
        refine ⟨_, rfl, ?_⟩
        refine zp_ireturn (pc := 93) d_Md_take_93 rfl ?_
        rw [hG] at k1
        have ee : c_tk F y z = tb (hdl G (bst F z 60)) := by
          rw [ehd]
          unfold c_tk
          (repeat' split) <;> omega
        have z := k1 (by rw [ee]; omega)
        rw [ee] at z
        exact z
      · refine zp_bipush (pc := 33) d_Md_take_33 (by decide) ?_
        refine zp_ireturn (pc := 35) d_Md_take_35 rfl ?_
        have ee : c_tk F y z = -3 := by
          unfold c_tk
          (repeat' split) <;> omega
        have z := k0 (by omega)
        rw [ee] at z
        exact z
    · refine zp_bipush (pc := 18) d_Md_take_18 (by decide) ?_
      refine zp_ireturn (pc := 20) d_Md_take_20 rfl ?_
      have ee : c_tk F y z = -2 := by
        unfold c_tk
        (repeat' split) <;> omega
      have z := k0 (by omega)
      rw [ee] at z
      exact z
  · refine wp_iconst (pc := 7) d_Md_take_7 ?_
    refine zp_ireturn (pc := 8) d_Md_take_8 rfl ?_
    have ee : c_tk F y z = -1 := by
      unfold c_tk
      (repeat' split) <;> omega
    have z := k0 (by omega)
    rw [ee] at z
    exact z
end S20
