/-! ===== the reference: calls, on ===== -/
section S24
variable {E : gE} {mo : Nat} {h : gH} {F g : Int → Int} {sn kp ln : Int} {Q : Option Value → gH → Prop}
set_option maxRecDepth 100000 in
theorem sp_Md_claim (hE : gOk E) (hB : gB E ≤ mo) {n : Int} (hJ : J n F) (hn : n ≤ 800000000) (hs0 : 0 ≤ sn) (hs1 : sn ≤ 4) {t : Int} (rt : gR t) (k0 : c_cl F t < 0 → Q (some (.int (zI (c_cl F t)))) (MH mo h F sn kp g ln)) (k1 : ¬ c_cl F t < 0 → Q (some (.int (zI (c_cl F t)))) (MH mo h (u_cl (rcF F sn 0) (hkT F t)) (rcS sn) kp g ln)) : Wp E m_Md_claim 0 (gEnt m_Md_claim [.ref mo, .int (zI t)]) [] (MH mo h F sn kp g ln) Q := by
  have hB1 : gB E ≤ mo + 1 := by omega
  have hV := hJ.vd
  have hs := hV.1
  show Wp E m_Md_claim 0 [some (_), some (_), none] [] _ _
  refine wp_aload_n (pc := 0) d_Md_claim_0 rfl ?_
  refine wp_iload_n (pc := 1) d_Md_claim_1 rfl ?_
  refine wv_callV (n := 1) (As := [_]) (pc := 2) d_Md_claim_2 s_Md_118 q_Md_noTag ⟨by decide, by decide⟩ MH_o rfl rfl rfl rfl (Nat.le_of_ble_eq_true rfl) (Nat.le_of_ble_eq_true rfl) ?_
  refine sp_Md_noTag hE hV hJ.ac rt ?_
  refine ⟨_, rfl, ?_⟩
  have hno : -7 ≤ noT F t ∧ noT F t ≤ 0 := by
    unfold noT
    (repeat' split) <;> omega
  refine st_i2 (pc := 5) d_Md_claim_5 (by decide) ?_
  refine wp_iload_n (pc := 6) d_Md_claim_6 rfl ?_
  refine zp_if_eq (tgt := 12) (pc := 7) d_Md_claim_7 (by decide) ⟨by omega, by omega⟩ (fun c7 => ?_) (fun c7 => ?_)
  · refine wp_aload_n (pc := 12) d_Md_claim_12 rfl ?_
    refine wp_iconst (pc := 13) d_Md_claim_13 ?_
    refine wn_callV (n := 1) (As := [_]) (pc := 14) d_Md_claim_14 s_Md_34 q_Md_record ⟨by decide, by decide⟩ MH_o rfl rfl rfl rfl (Nat.le_of_ble_eq_true rfl) (Nat.le_of_ble_eq_true rfl) ?_
    refine sp_Md_record hE hB (Or.inl rfl) hs0 hs1 ?_
    refine ⟨rfl, ?_⟩
    have hlo : ∀ j : Int, j < 6559 → rcF F sn 0 j = F j := fun j hj => rcF_lo hs0 hs1 hj
    have hVG := (hJ.1.congr (G := rcF F sn 0) fun j _ hj => hlo j hj).vd
    have hJG := rcF_J (b := 0) hs0 hs1 hJ
    generalize hG : rcF F sn 0 = G at hlo hVG hJG ⊢
    have htg := hJ.tag (by omega)
    have hx := hkT_congr (t := t) hJ (G := G) (fun j hj => hlo j (by omega)) (by omega) (by omega)
    have hdx := duF_b hV htg.2.2.1 htg.2.2.2.1
    have hh := hdl_congr (F := F) (G := G) (x := hkT F t) (hlo _ (by omega))
    have hdu : duF G (hkT F t) = duF F (hkT F t) := duF_congr (hlo _ (by omega)) (hlo _ (by omega)) (hlo _ (by omega)) (hlo _ (by omega))
    have hbx := hdl_b hV htg.2.2.1 htg.2.2.2.1
    refine wp_aload_n (pc := 17) d_Md_claim_17 rfl ?_
    refine wp_iload_n (pc := 18) d_Md_claim_18 rfl ?_
    refine wv_callV (n := 1) (As := [_]) (pc := 19) d_Md_claim_19 s_Md_121 q_Md_doClaim ⟨by decide, by decide⟩ MH_o rfl rfl rfl rfl (Nat.le_of_ble_eq_true rfl) (Nat.le_of_ble_eq_true rfl) ?_
    refine sp_Md_doClaim hE hB hJG.1 (by omega) hJG.ac (by omega) (by omega) hx (by rw [hh, hlo _ (by omega)]; omega) ?_
    refine ⟨_, rfl, ?_⟩
    refine zp_ireturn (pc := 22) d_Md_claim_22 rfl ?_
    rw [hG] at k1
    have ee : c_cl F t = duF G (hkT F t) := by
      rw [hdu]
      unfold c_cl
      (repeat' split) <;> omega
    have z := k1 (by rw [ee]; omega)
    rw [ee] at z
    exact z
  · refine wp_iload_n (pc := 10) d_Md_claim_10 rfl ?_
    refine zp_ireturn (pc := 11) d_Md_claim_11 rfl ?_
    have ee : c_cl F t = noT F t := by
      unfold c_cl
      (repeat' split) <;> omega
    have z := k0 (by omega)
    rw [ee] at z
    exact z
set_option maxRecDepth 100000 in
theorem sp_Md_due (hE : gOk E) {n : Int} (hJ : J n F) (hn : n ≤ 100000000) {t : Int} (rt : gR t) (k : Q (some (.int (zI (c_du F t)))) (MH mo h F sn kp g ln)) : Wp E m_Md_due 0 (gEnt m_Md_due [.ref mo, .int (zI t)]) [] (MH mo h F sn kp g ln) Q := by
  have hV := hJ.vd
  have hs := hV.1
  show Wp E m_Md_due 0 [some (_), some (_), none] [] _ _
  refine wp_aload_n (pc := 0) d_Md_due_0 rfl ?_
  refine wp_iload_n (pc := 1) d_Md_due_1 rfl ?_
  refine wv_callV (n := 1) (As := [_]) (pc := 2) d_Md_due_2 s_Md_118 q_Md_noTag ⟨by decide, by decide⟩ MH_o rfl rfl rfl rfl (Nat.le_of_ble_eq_true rfl) (Nat.le_of_ble_eq_true rfl) ?_
  refine sp_Md_noTag hE hV hJ.ac rt ?_
  refine ⟨_, rfl, ?_⟩
  have hno : -7 ≤ noT F t ∧ noT F t ≤ 0 := by
    unfold noT
    (repeat' split) <;> omega
  refine st_i2 (pc := 5) d_Md_due_5 (by decide) ?_
  refine wp_iload_n (pc := 6) d_Md_due_6 rfl ?_
  refine zp_if_eq (tgt := 14) (pc := 7) d_Md_due_7 (by decide) ⟨by omega, by omega⟩ (fun c7 => ?_) (fun c7 => ?_)
  · have htg := hJ.tag (by omega)
    have hla := hJ.ac.b (x := t / 10) (by omega) (by omega)
    refine wp_aload_n (pc := 14) d_Md_due_14 rfl ?_
    refine wp_aload_n (pc := 15) d_Md_due_15 rfl ?_
    refine wp_iload_n (pc := 16) d_Md_due_16 rfl ?_
    refine zp_bipush (pc := 17) d_Md_due_17 (by decide) ?_
    refine zp_idiv (pc := 19) d_Md_due_19 (by omega) (by omega) (by omega) (by omega) ?_
    refine wv_callV (n := 1) (As := [_]) (pc := 20) d_Md_due_20 s_Md_76 q_Md_lastOf ⟨by decide, by decide⟩ MH_o rfl rfl rfl rfl (Nat.le_of_ble_eq_true rfl) (Nat.le_of_ble_eq_true rfl) ?_
    refine sp_Md_lastOf hE hV hJ.ac (by omega) (by omega) ?_
    refine ⟨_, rfl, ?_⟩
    refine wv_callS (n := 1) (As := [_]) (pc := 23) d_Md_due_23 s_Md_108 q_Md_hookOf ⟨by decide, by decide⟩ rfl rfl rfl (Nat.le_of_ble_eq_true rfl) (Nat.le_of_ble_eq_true rfl) ?_
    refine sp_Md_hookOf (by omega) (by omega) ?_
    refine ⟨_, rfl, ?_⟩
    refine wv_callV (n := 1) (As := [_]) (pc := 26) d_Md_due_26 s_Md_111 q_Md_dueOn ⟨by decide, by decide⟩ MH_o rfl rfl rfl rfl (Nat.le_of_ble_eq_true rfl) (Nat.le_of_ble_eq_true rfl) ?_
    refine sp_Md_dueOn hE hV htg.2.2.1 htg.2.2.2.1 ?_
    refine ⟨_, rfl, ?_⟩
    refine zp_ireturn (pc := 29) d_Md_due_29 rfl ?_
    have ee : c_du F t = duF F (hkT F t) := by
      unfold c_du
      (repeat' split) <;> omega
    rw [ee] at k
    exact k
  · refine wp_iload_n (pc := 10) d_Md_due_10 rfl ?_
    refine wp_goto (tgt := 29) (pc := 11) d_Md_due_11 (by decide) ?_
    refine zp_ireturn (pc := 29) d_Md_due_29 rfl ?_
    have ee : c_du F t = noT F t := by
      unfold c_du
      (repeat' split) <;> omega
    rw [ee] at k
    exact k
set_option maxRecDepth 100000 in
theorem sp_Md_next (hE : gOk E) {n : Int} (hJ : J n F) (hn : n ≤ 100000000) {z : Int} (rz : gR z) (k : Q (some (.int (zI (c_nx F z)))) (MH mo h F sn kp g ln)) : Wp E m_Md_next 0 (gEnt m_Md_next [.ref mo, .int (zI z)]) [] (MH mo h F sn kp g ln) Q := by
  have hV := hJ.vd
  have hs := hV.1
  show Wp E m_Md_next 0 [some (_), some (_)] [] _ _
  refine wp_iload_n (pc := 0) d_Md_next_0 rfl ?_
  refine wp_iconst (pc := 1) d_Md_next_1 ?_
  refine wp_iconst (pc := 2) d_Md_next_2 ?_
  refine wv_callS (n := 3) (As := [_, _, _]) (pc := 3) d_Md_next_3 s_Md_38 q_Md_in ⟨by decide, by decide⟩ rfl rfl rfl (Nat.le_of_ble_eq_true rfl) (Nat.le_of_ble_eq_true rfl) ?_
  refine sp_Md_in ⟨by omega, by omega⟩ ⟨by omega, by omega⟩ ⟨by omega, by omega⟩ ?_
  refine ⟨_, rfl, ?_⟩
  refine zp_ifb_eq (tgt := 17) (pc := 6) d_Md_next_6 (by decide) (fun c6 => ?_) (fun c6 => ?_)
  · refine zp_bipush (pc := 17) d_Md_next_17 (by decide) ?_
    refine zp_ireturn (pc := 19) d_Md_next_19 rfl ?_
    have ee : c_nx F z = -2 := by
      unfold c_nx
      (repeat' split) <;> omega
    rw [ee] at k
    exact k
  · refine wp_aload_n (pc := 9) d_Md_next_9 rfl ?_
    refine wp_iload_n (pc := 10) d_Md_next_10 rfl ?_
    refine wv_callV (n := 1) (As := [_]) (pc := 11) d_Md_next_11 s_Md_101 q_Md_hookFor ⟨by decide, by decide⟩ MH_o rfl rfl rfl rfl (Nat.le_of_ble_eq_true rfl) (Nat.le_of_ble_eq_true rfl) ?_
    refine sp_Md_hookFor hE hV (by omega) rz ?_
    refine ⟨_, rfl, ?_⟩
    refine wp_goto (tgt := 19) (pc := 14) d_Md_next_14 (by decide) ?_
    refine zp_ireturn (pc := 19) d_Md_next_19 rfl ?_
    have ee : c_nx F z = bst F z 60 := by
      unfold c_nx
      (repeat' split) <;> omega
    rw [ee] at k
    exact k
set_option maxRecDepth 100000 in
theorem sp_Md_tagOf (hE : gOk E) {x : Int} (rx : gR x) (k : Q (some (.int (zI (c_to x)))) (MH mo h F sn kp g ln)) : Wp E m_Md_tagOf 0 (gEnt m_Md_tagOf [.ref mo, .int (zI x)]) [] (MH mo h F sn kp g ln) Q := by
  show Wp E m_Md_tagOf 0 [some (_), some (_)] [] _ _
  refine wp_iload_n (pc := 0) d_Md_tagOf_0 rfl ?_
  refine wp_iconst (pc := 1) d_Md_tagOf_1 ?_
  refine zp_sipush (pc := 2) d_Md_tagOf_2 (by decide) ?_
  refine wv_callS (n := 3) (As := [_, _, _]) (pc := 5) d_Md_tagOf_5 s_Md_38 q_Md_in ⟨by decide, by decide⟩ rfl rfl rfl (Nat.le_of_ble_eq_true rfl) (Nat.le_of_ble_eq_true rfl) ?_
  refine sp_Md_in ⟨by omega, by omega⟩ ⟨by omega, by omega⟩ ⟨by omega, by omega⟩ ?_
  refine ⟨_, rfl, ?_⟩
  refine zp_ifb_eq (tgt := 18) (pc := 8) d_Md_tagOf_8 (by decide) (fun c8 => ?_) (fun c8 => ?_)
  · refine zp_bipush (pc := 18) d_Md_tagOf_18 (by decide) ?_
    refine zp_ireturn (pc := 20) d_Md_tagOf_20 rfl ?_
    have ee : c_to x = -2 := by
      unfold c_to
      (repeat' split) <;> omega
    rw [ee] at k
    exact k
  · refine wp_iload_n (pc := 11) d_Md_tagOf_11 rfl ?_
    refine wv_callS (n := 1) (As := [_]) (pc := 12) d_Md_tagOf_12 s_Md_64 q_Md_tagBy ⟨by decide, by decide⟩ rfl rfl rfl (Nat.le_of_ble_eq_true rfl) (Nat.le_of_ble_eq_true rfl) ?_
    refine sp_Md_tagBy (by omega) (by omega) ?_
    refine ⟨_, rfl, ?_⟩
    refine wp_goto (tgt := 20) (pc := 15) d_Md_tagOf_15 (by decide) ?_
    refine zp_ireturn (pc := 20) d_Md_tagOf_20 rfl ?_
    have ee : c_to x = tb x := by
      unfold c_to
      (repeat' split) <;> omega
    rw [ee] at k
    exact k
set_option maxRecDepth 100000 in
theorem sp_Md_event (hE : gOk E) {n : Int} (hJ : J n F) (hn : n ≤ 100000000) {b w : Int} (rb : gR b) (rw_ : gR w) (k : Q (some (.int (zI (c_ev F b w)))) (MH mo h F sn kp g ln)) : Wp E m_Md_event 0 (gEnt m_Md_event [.ref mo, .int (zI b), .int (zI w)]) [] (MH mo h F sn kp g ln) Q := by
  have hV := hJ.vd
  have hs := hV.1
  have h13 := hV.2.1 13 (by omega) (by omega) (by omega)
  show Wp E m_Md_event 0 [some (_), some (_), some (_)] [] _ _
  refine wp_iload_n (pc := 0) d_Md_event_0 rfl ?_
  refine zp_if_lt (tgt := 13) (pc := 1) d_Md_event_1 (by decide) ⟨by omega, by omega⟩ (fun c1 => ?_) (fun c1 => ?_)
  · refine zp_bipush (pc := 13) d_Md_event_13 (by decide) ?_
    refine zp_ireturn (pc := 15) d_Md_event_15 rfl ?_
    have ee : c_ev F b w = -2 := by
      unfold c_ev
      (repeat' split) <;> omega
    rw [ee] at k
    exact k
  · refine wp_iload_n (pc := 4) d_Md_event_4 rfl ?_
    refine wp_iconst (pc := 5) d_Md_event_5 ?_
    refine wp_iconst (pc := 6) d_Md_event_6 ?_
    refine wv_callS (n := 3) (As := [_, _, _]) (pc := 7) d_Md_event_7 s_Md_38 q_Md_in ⟨by decide, by decide⟩ rfl rfl rfl (Nat.le_of_ble_eq_true rfl) (Nat.le_of_ble_eq_true rfl) ?_
    refine sp_Md_in ⟨by omega, by omega⟩ ⟨by omega, by omega⟩ ⟨by omega, by omega⟩ ?_
    refine ⟨_, rfl, ?_⟩
    refine zp_ifb_ne (tgt := 16) (pc := 10) d_Md_event_10 (by decide) (fun c10 => ?_) (fun c10 => ?_)
    · refine wp_iload_n (pc := 16) d_Md_event_16 rfl ?_
      refine zp_bipush (pc := 17) d_Md_event_17 (by decide) ?_
      refine zp_icmp_ge (tgt := 33) (pc := 19) d_Md_event_19 (by decide) ⟨by omega, by omega⟩ ⟨by omega, by omega⟩ (fun c19 => ?_) (fun c19 => ?_)
      · refine zp_bipush (pc := 33) d_Md_event_33 (by decide) ?_
        refine zp_ireturn (pc := 35) d_Md_event_35 rfl ?_
        have ee : c_ev F b w = -5 := by
          unfold c_ev
          (repeat' split) <;> omega
        rw [ee] at k
        exact k
      · refine wp_iload_n (pc := 22) d_Md_event_22 rfl ?_
        refine wp_aload_n (pc := 23) d_Md_event_23 rfl ?_
        refine wp_getfield (pc := 24) d_Md_event_24 f_Md_8 MH_o rfl ?_
        refine zp_bipush (pc := 27) d_Md_event_27 (by decide) ?_
        refine zp_iaload (pc := 29) d_Md_event_29 hE.1 MH_r (by omega) (by omega) (by decide) ?_
        refine zp_icmp_lt (tgt := 36) (pc := 30) d_Md_event_30 (by decide) ⟨by omega, by omega⟩ ⟨by omega, by omega⟩ (fun c30 => ?_) (fun c30 => ?_)
        · refine wp_aload_n (pc := 36) d_Md_event_36 rfl ?_
          refine wp_getfield (pc := 37) d_Md_event_37 f_Md_8 MH_o rfl ?_
          refine zp_sipush (pc := 40) d_Md_event_40 (by decide) ?_
          refine wp_iconst (pc := 43) d_Md_event_43 ?_
          refine wp_aload_n (pc := 44) d_Md_event_44 rfl ?_
          refine wp_getfield (pc := 45) d_Md_event_45 f_Md_8 MH_o rfl ?_
          refine zp_bipush (pc := 48) d_Md_event_48 (by decide) ?_
          refine zp_iaload (pc := 50) d_Md_event_50 hE.1 MH_r (by omega) (by omega) (by decide) ?_
          refine wp_iconst (pc := 51) d_Md_event_51 ?_
          refine zp_isub (pc := 52) d_Md_event_52 ?_
          refine wp_iload_n (pc := 53) d_Md_event_53 rfl ?_
          refine zp_isub (pc := 54) d_Md_event_54 ?_
          refine zp_bipush (pc := 55) d_Md_event_55 (by decide) ?_
          refine zp_irem (pc := 57) d_Md_event_57 (by omega) (by omega) (by omega) (by omega) ?_
          refine zp_imul (pc := 58) d_Md_event_58 ?_
          refine zp_iadd (pc := 59) d_Md_event_59 ?_
          refine wp_iload_n (pc := 60) d_Md_event_60 rfl ?_
          refine zp_iadd (pc := 61) d_Md_event_61 ?_
          refine zp_iaload (pc := 62) d_Md_event_62 hE.1 MH_r (by omega) (by omega) (by decide) ?_
          refine zp_ireturn (pc := 63) d_Md_event_63 rfl ?_
          have ee : c_ev F b w = F (529 + 3 * ((F 13 - 1 - b) % 10) + w) := by
            unfold c_ev
            (repeat' split) <;> omega
          rw [ee] at k
          exact k
        · refine zp_bipush (pc := 33) d_Md_event_33 (by decide) ?_
          refine zp_ireturn (pc := 35) d_Md_event_35 rfl ?_
          have ee : c_ev F b w = -5 := by
            unfold c_ev
            (repeat' split) <;> omega
          rw [ee] at k
          exact k
    · refine zp_bipush (pc := 13) d_Md_event_13 (by decide) ?_
      refine zp_ireturn (pc := 15) d_Md_event_15 rfl ?_
      have ee : c_ev F b w = -2 := by
        unfold c_ev
        (repeat' split) <;> omega
      rw [ee] at k
      exact k
set_option maxRecDepth 100000 in
theorem sp_Md_hook (hE : gOk E) {n : Int} (hJ : J n F) (hn : n ≤ 100000000) {x w : Int} (rx : gR x) (rw_ : gR w) (k : Q (some (.int (zI (c_hk F x w)))) (MH mo h F sn kp g ln)) : Wp E m_Md_hook 0 (gEnt m_Md_hook [.ref mo, .int (zI x), .int (zI w)]) [] (MH mo h F sn kp g ln) Q := by
  have hV := hJ.vd
  have hs := hV.1
  show Wp E m_Md_hook 0 [some (_), some (_), some (_)] [] _ _
  refine wp_aload_n (pc := 0) d_Md_hook_0 rfl ?_
  refine wp_iload_n (pc := 1) d_Md_hook_1 rfl ?_
  refine wv_callV (n := 1) (As := [_]) (pc := 2) d_Md_hook_2 s_Md_53 q_Md_isHook ⟨by decide, by decide⟩ MH_o rfl rfl rfl rfl (Nat.le_of_ble_eq_true rfl) (Nat.le_of_ble_eq_true rfl) ?_
  refine sp_Md_isHook hE hV rx ?_
  refine ⟨_, rfl, ?_⟩
  refine zp_ifb_ne (tgt := 10) (pc := 5) d_Md_hook_5 (by decide) (fun c5 => ?_) (fun c5 => ?_)
  · have hk := hV.2.2.2.1 x (by omega) (by omega)
    have hbx := hdl_b hV (x := x) (by omega) (by omega)
    refine wp_iload_n (pc := 10) d_Md_hook_10 rfl ?_
    by_cases k11_0 : w = 0
    · subst w
      refine zp_tableIn (x := 0) (tgt := 56) (pc := 11) d_Md_hook_11 ⟨by decide, by decide⟩ (by decide) (by decide) rfl (by decide) ?_
      refine wp_aload_n (pc := 56) d_Md_hook_56 rfl ?_
      refine wp_getfield (pc := 57) d_Md_hook_57 f_Md_8 MH_o rfl ?_
      refine wp_iload_n (pc := 60) d_Md_hook_60 rfl ?_
      refine wp_iload_n (pc := 61) d_Md_hook_61 rfl ?_
      refine wv_callS (n := 2) (As := [_, _]) (pc := 62) d_Md_hook_62 s_Md_50 q_Md_of ⟨by decide, by decide⟩ rfl rfl rfl (Nat.le_of_ble_eq_true rfl) (Nat.le_of_ble_eq_true rfl) ?_
      refine sp_Md_of ?_
      refine ⟨_, rfl, ?_⟩
      refine zp_iaload (pc := 65) d_Md_hook_65 hE.1 MH_r (by omega) (by omega) (by decide) ?_
      refine zp_ireturn (pc := 66) d_Md_hook_66 rfl ?_
      have ee : c_hk F x 0 = F (29 + 8 * x + 0) := by
        unfold c_hk
        (repeat' split) <;> omega
      rw [ee] at k
      exact k
    by_cases k11_1 : w = 1
    · subst w
      refine zp_tableIn (x := 1) (tgt := 56) (pc := 11) d_Md_hook_11 ⟨by decide, by decide⟩ (by decide) (by decide) rfl (by decide) ?_
      refine wp_aload_n (pc := 56) d_Md_hook_56 rfl ?_
      refine wp_getfield (pc := 57) d_Md_hook_57 f_Md_8 MH_o rfl ?_
      refine wp_iload_n (pc := 60) d_Md_hook_60 rfl ?_
      refine wp_iload_n (pc := 61) d_Md_hook_61 rfl ?_
      refine wv_callS (n := 2) (As := [_, _]) (pc := 62) d_Md_hook_62 s_Md_50 q_Md_of ⟨by decide, by decide⟩ rfl rfl rfl (Nat.le_of_ble_eq_true rfl) (Nat.le_of_ble_eq_true rfl) ?_
      refine sp_Md_of ?_
      refine ⟨_, rfl, ?_⟩
      refine zp_iaload (pc := 65) d_Md_hook_65 hE.1 MH_r (by omega) (by omega) (by decide) ?_
      refine zp_ireturn (pc := 66) d_Md_hook_66 rfl ?_
      have ee : c_hk F x 1 = F (29 + 8 * x + 1) := by
        unfold c_hk
        (repeat' split) <;> omega
      rw [ee] at k
      exact k
    by_cases k11_2 : w = 2
    · subst w
      refine zp_tableIn (x := 2) (tgt := 67) (pc := 11) d_Md_hook_11 ⟨by decide, by decide⟩ (by decide) (by decide) rfl (by decide) ?_
      refine wp_aload_n (pc := 67) d_Md_hook_67 rfl ?_
      refine wp_getfield (pc := 68) d_Md_hook_68 f_Md_8 MH_o rfl ?_
      refine wp_iload_n (pc := 71) d_Md_hook_71 rfl ?_
      refine wp_iconst (pc := 72) d_Md_hook_72 ?_
      refine wv_callS (n := 2) (As := [_, _]) (pc := 73) d_Md_hook_73 s_Md_50 q_Md_of ⟨by decide, by decide⟩ rfl rfl rfl (Nat.le_of_ble_eq_true rfl) (Nat.le_of_ble_eq_true rfl) ?_
      refine sp_Md_of ?_
      refine ⟨_, rfl, ?_⟩
      refine zp_iaload (pc := 76) d_Md_hook_76 hE.1 MH_r (by omega) (by omega) (by decide) ?_
      refine zp_ireturn (pc := 77) d_Md_hook_77 rfl ?_
      have ee : c_hk F x 2 = F (29 + 8 * x + 5) := by
        unfold c_hk
        (repeat' split) <;> omega
      rw [ee] at k
      exact k
    by_cases k11_3 : w = 3
    · subst w
      refine zp_tableIn (x := 3) (tgt := 78) (pc := 11) d_Md_hook_11 ⟨by decide, by decide⟩ (by decide) (by decide) rfl (by decide) ?_
      refine wp_aload_n (pc := 78) d_Md_hook_78 rfl ?_
      refine wp_iload_n (pc := 79) d_Md_hook_79 rfl ?_
      refine wv_callV (n := 1) (As := [_]) (pc := 80) d_Md_hook_80 s_Md_56 q_Md_holds ⟨by decide, by decide⟩ MH_o rfl rfl rfl rfl (Nat.le_of_ble_eq_true rfl) (Nat.le_of_ble_eq_true rfl) ?_
      refine sp_Md_holds hE (by omega) (by omega) (by omega) ?_
      refine ⟨_, rfl, ?_⟩
      refine zp_ifb_eq (tgt := 101) (pc := 83) d_Md_hook_83 (by decide) (fun c83 => ?_) (fun c83 => ?_)
      · refine zp_bipush (pc := 101) d_Md_hook_101 (by decide) ?_
        refine zp_ireturn (pc := 103) d_Md_hook_103 rfl ?_
        have ee : c_hk F x 3 = -5 := by
          unfold c_hk
          (repeat' split) <;> omega
        rw [ee] at k
        exact k
      · refine wp_aload_n (pc := 86) d_Md_hook_86 rfl ?_
        refine wp_getfield (pc := 87) d_Md_hook_87 f_Md_8 MH_o rfl ?_
        refine wp_iload_n (pc := 90) d_Md_hook_90 rfl ?_
        refine wp_iload_n (pc := 91) d_Md_hook_91 rfl ?_
        refine wp_iconst (pc := 92) d_Md_hook_92 ?_
        refine zp_isub (pc := 93) d_Md_hook_93 ?_
        refine wv_callS (n := 2) (As := [_, _]) (pc := 94) d_Md_hook_94 s_Md_50 q_Md_of ⟨by decide, by decide⟩ rfl rfl rfl (Nat.le_of_ble_eq_true rfl) (Nat.le_of_ble_eq_true rfl) ?_
        refine sp_Md_of ?_
        refine ⟨_, rfl, ?_⟩
        refine zp_iaload (pc := 97) d_Md_hook_97 hE.1 MH_r (by omega) (by omega) (by decide) ?_
        refine wp_goto (tgt := 103) (pc := 98) d_Md_hook_98 (by decide) ?_
        refine zp_ireturn (pc := 103) d_Md_hook_103 rfl ?_
        rw [show 29 + 8 * x + ((3 : Int) - 1) = 29 + 8 * x + 2 from rfl]
        have ee : c_hk F x 3 = F (29 + 8 * x + 2) := by
          unfold c_hk
          (repeat' split) <;> omega
        rw [ee] at k
        exact k
    by_cases k11_4 : w = 4
    · subst w
      refine zp_tableIn (x := 4) (tgt := 78) (pc := 11) d_Md_hook_11 ⟨by decide, by decide⟩ (by decide) (by decide) rfl (by decide) ?_
      refine wp_aload_n (pc := 78) d_Md_hook_78 rfl ?_
      refine wp_iload_n (pc := 79) d_Md_hook_79 rfl ?_
      refine wv_callV (n := 1) (As := [_]) (pc := 80) d_Md_hook_80 s_Md_56 q_Md_holds ⟨by decide, by decide⟩ MH_o rfl rfl rfl rfl (Nat.le_of_ble_eq_true rfl) (Nat.le_of_ble_eq_true rfl) ?_
      refine sp_Md_holds hE (by omega) (by omega) (by omega) ?_
      refine ⟨_, rfl, ?_⟩
      refine zp_ifb_eq (tgt := 101) (pc := 83) d_Md_hook_83 (by decide) (fun c83 => ?_) (fun c83 => ?_)
      · refine zp_bipush (pc := 101) d_Md_hook_101 (by decide) ?_
        refine zp_ireturn (pc := 103) d_Md_hook_103 rfl ?_
        have ee : c_hk F x 4 = -5 := by
          unfold c_hk
          (repeat' split) <;> omega
        rw [ee] at k
        exact k
      · refine wp_aload_n (pc := 86) d_Md_hook_86 rfl ?_
        refine wp_getfield (pc := 87) d_Md_hook_87 f_Md_8 MH_o rfl ?_
        refine wp_iload_n (pc := 90) d_Md_hook_90 rfl ?_
        refine wp_iload_n (pc := 91) d_Md_hook_91 rfl ?_
        refine wp_iconst (pc := 92) d_Md_hook_92 ?_
        refine zp_isub (pc := 93) d_Md_hook_93 ?_
        refine wv_callS (n := 2) (As := [_, _]) (pc := 94) d_Md_hook_94 s_Md_50 q_Md_of ⟨by decide, by decide⟩ rfl rfl rfl (Nat.le_of_ble_eq_true rfl) (Nat.le_of_ble_eq_true rfl) ?_
        refine sp_Md_of ?_
        refine ⟨_, rfl, ?_⟩
        refine zp_iaload (pc := 97) d_Md_hook_97 hE.1 MH_r (by omega) (by omega) (by decide) ?_
        refine wp_goto (tgt := 103) (pc := 98) d_Md_hook_98 (by decide) ?_
        refine zp_ireturn (pc := 103) d_Md_hook_103 rfl ?_
        rw [show 29 + 8 * x + ((4 : Int) - 1) = 29 + 8 * x + 3 from rfl]
        have ee : c_hk F x 4 = F (29 + 8 * x + 3) := by
          unfold c_hk
          (repeat' split) <;> omega
        rw [ee] at k
        exact k
    by_cases k11_5 : w = 5
    · subst w
      refine zp_tableIn (x := 5) (tgt := 78) (pc := 11) d_Md_hook_11 ⟨by decide, by decide⟩ (by decide) (by decide) rfl (by decide) ?_
      refine wp_aload_n (pc := 78) d_Md_hook_78 rfl ?_
      refine wp_iload_n (pc := 79) d_Md_hook_79 rfl ?_
      refine wv_callV (n := 1) (As := [_]) (pc := 80) d_Md_hook_80 s_Md_56 q_Md_holds ⟨by decide, by decide⟩ MH_o rfl rfl rfl rfl (Nat.le_of_ble_eq_true rfl) (Nat.le_of_ble_eq_true rfl) ?_
      refine sp_Md_holds hE (by omega) (by omega) (by omega) ?_
      refine ⟨_, rfl, ?_⟩
      refine zp_ifb_eq (tgt := 101) (pc := 83) d_Md_hook_83 (by decide) (fun c83 => ?_) (fun c83 => ?_)
      · refine zp_bipush (pc := 101) d_Md_hook_101 (by decide) ?_
        refine zp_ireturn (pc := 103) d_Md_hook_103 rfl ?_
        have ee : c_hk F x 5 = -5 := by
          unfold c_hk
          (repeat' split) <;> omega
        rw [ee] at k
        exact k
      · refine wp_aload_n (pc := 86) d_Md_hook_86 rfl ?_
        refine wp_getfield (pc := 87) d_Md_hook_87 f_Md_8 MH_o rfl ?_
        refine wp_iload_n (pc := 90) d_Md_hook_90 rfl ?_
        refine wp_iload_n (pc := 91) d_Md_hook_91 rfl ?_
        refine wp_iconst (pc := 92) d_Md_hook_92 ?_
        refine zp_isub (pc := 93) d_Md_hook_93 ?_
        refine wv_callS (n := 2) (As := [_, _]) (pc := 94) d_Md_hook_94 s_Md_50 q_Md_of ⟨by decide, by decide⟩ rfl rfl rfl (Nat.le_of_ble_eq_true rfl) (Nat.le_of_ble_eq_true rfl) ?_
        refine sp_Md_of ?_
        refine ⟨_, rfl, ?_⟩
        refine zp_iaload (pc := 97) d_Md_hook_97 hE.1 MH_r (by omega) (by omega) (by decide) ?_
        refine wp_goto (tgt := 103) (pc := 98) d_Md_hook_98 (by decide) ?_
        refine zp_ireturn (pc := 103) d_Md_hook_103 rfl ?_
        rw [show 29 + 8 * x + ((5 : Int) - 1) = 29 + 8 * x + 4 from rfl]
        have ee : c_hk F x 5 = F (29 + 8 * x + 4) := by
          unfold c_hk
          (repeat' split) <;> omega
        rw [ee] at k
        exact k
    by_cases k11_6 : w = 6
    · subst w
      refine zp_tableIn (x := 6) (tgt := 104) (pc := 11) d_Md_hook_11 ⟨by decide, by decide⟩ (by decide) (by decide) rfl (by decide) ?_
      refine wp_aload_n (pc := 104) d_Md_hook_104 rfl ?_
      refine wp_iload_n (pc := 105) d_Md_hook_105 rfl ?_
      refine wv_callV (n := 1) (As := [_]) (pc := 106) d_Md_hook_106 s_Md_56 q_Md_holds ⟨by decide, by decide⟩ MH_o rfl rfl rfl rfl (Nat.le_of_ble_eq_true rfl) (Nat.le_of_ble_eq_true rfl) ?_
      refine sp_Md_holds hE (by omega) (by omega) (by omega) ?_
      refine ⟨_, rfl, ?_⟩
      refine zp_ifb_eq (tgt := 123) (pc := 109) d_Md_hook_109 (by decide) (fun c109 => ?_) (fun c109 => ?_)
      · refine zp_bipush (pc := 123) d_Md_hook_123 (by decide) ?_
        refine zp_ireturn (pc := 125) d_Md_hook_125 rfl ?_
        have ee : c_hk F x 6 = -5 := by
          unfold c_hk
          (repeat' split) <;> omega
        rw [ee] at k
        exact k
      · refine wp_aload_n (pc := 112) d_Md_hook_112 rfl ?_
        refine wp_iload_n (pc := 113) d_Md_hook_113 rfl ?_
        refine wv_callV (n := 1) (As := [_]) (pc := 114) d_Md_hook_114 s_Md_82 q_Md_handleOn ⟨by decide, by decide⟩ MH_o rfl rfl rfl rfl (Nat.le_of_ble_eq_true rfl) (Nat.le_of_ble_eq_true rfl) ?_
        refine sp_Md_handleOn hE (by omega) (by omega) ?_
        refine ⟨_, rfl, ?_⟩
        refine wv_callS (n := 1) (As := [_]) (pc := 117) d_Md_hook_117 s_Md_64 q_Md_tagBy ⟨by decide, by decide⟩ rfl rfl rfl (Nat.le_of_ble_eq_true rfl) (Nat.le_of_ble_eq_true rfl) ?_
        refine sp_Md_tagBy (by omega) (by omega) ?_
        refine ⟨_, rfl, ?_⟩
        refine wp_goto (tgt := 125) (pc := 120) d_Md_hook_120 (by decide) ?_
        refine zp_ireturn (pc := 125) d_Md_hook_125 rfl ?_
        have ee : c_hk F x 6 = tb (hdl F x) := by
          unfold c_hk
          (repeat' split) <;> omega
        rw [ee] at k
        exact k
    by_cases k11_7 : w = 7
    · subst w
      refine zp_tableIn (x := 7) (tgt := 126) (pc := 11) d_Md_hook_11 ⟨by decide, by decide⟩ (by decide) (by decide) rfl (by decide) ?_
      refine wp_aload_n (pc := 126) d_Md_hook_126 rfl ?_
      refine wp_getfield (pc := 127) d_Md_hook_127 f_Md_8 MH_o rfl ?_
      refine wp_iload_n (pc := 130) d_Md_hook_130 rfl ?_
      refine zp_bipush (pc := 131) d_Md_hook_131 (by decide) ?_
      refine wv_callS (n := 2) (As := [_, _]) (pc := 133) d_Md_hook_133 s_Md_50 q_Md_of ⟨by decide, by decide⟩ rfl rfl rfl (Nat.le_of_ble_eq_true rfl) (Nat.le_of_ble_eq_true rfl) ?_
      refine sp_Md_of ?_
      refine ⟨_, rfl, ?_⟩
      refine zp_iaload (pc := 136) d_Md_hook_136 hE.1 MH_r (by omega) (by omega) (by decide) ?_
      refine zp_ireturn (pc := 137) d_Md_hook_137 rfl ?_
      have ee : c_hk F x 7 = F (29 + 8 * x + 6) := by
        unfold c_hk
        (repeat' split) <;> omega
      rw [ee] at k
      exact k
    refine zp_tableOut (tgt := 138) (pc := 11) d_Md_hook_11 rw_ (by omega) (by decide) ?_
    refine zp_bipush (pc := 138) d_Md_hook_138 (by decide) ?_
    refine zp_ireturn (pc := 140) d_Md_hook_140 rfl ?_
    have ee : c_hk F x w = -2 := by
      unfold c_hk
      (repeat' split) <;> omega
    rw [ee] at k
    exact k
  · refine wp_iconst (pc := 8) d_Md_hook_8 ?_
    refine zp_ireturn (pc := 9) d_Md_hook_9 rfl ?_
    have ee : c_hk F x w = -1 := by
      unfold c_hk
      (repeat' split) <;> omega
    rw [ee] at k
    exact k
set_option maxRecDepth 100000 in
theorem lp_Md_hooks (hE : gOk E) (hs : 0 ≤ F 1 ∧ F 1 ≤ 5) (k : Q (some (.int (zI (sH F (F 1).toNat)))) (MH mo h F sn kp g ln)) : ∀ (d i : Nat), (i : Int) + d = F 1 → Wp E m_Md_hooks 4 [some (.ref mo), some (.int (zI (sH F i))), some (.int (zI i))] [] (MH mo h F sn kp g ln) Q := by
  intro d
  induction d with
  | zero =>
    intro i hi
    refine wp_iload_n (pc := 4) d_Md_hooks_4 rfl ?_
    refine wp_aload_n (pc := 5) d_Md_hooks_5 rfl ?_
    refine wp_getfield (pc := 6) d_Md_hooks_6 f_Md_8 MH_o rfl ?_
    refine wp_iconst (pc := 9) d_Md_hooks_9 ?_
    refine zp_iaload (pc := 10) d_Md_hooks_10 hE.1 MH_r (by omega) (by omega) (by decide) ?_
    refine zp_icmp_ge (tgt := 33) (pc := 11) d_Md_hooks_11 (by decide) ⟨by omega, by omega⟩ ⟨by omega, by omega⟩ (fun c11 => ?_) (fun c11 => absurd c11 (by omega))
    obtain rfl : i = (F 1).toNat := by omega
    refine wp_iload_n (pc := 33) d_Md_hooks_33 rfl ?_
    refine zp_ireturn (pc := 34) d_Md_hooks_34 rfl ?_
    exact k
  | succ d ih =>
    intro i hi
    refine wp_iload_n (pc := 4) d_Md_hooks_4 rfl ?_
    refine wp_aload_n (pc := 5) d_Md_hooks_5 rfl ?_
    refine wp_getfield (pc := 6) d_Md_hooks_6 f_Md_8 MH_o rfl ?_
    refine wp_iconst (pc := 9) d_Md_hooks_9 ?_
    refine zp_iaload (pc := 10) d_Md_hooks_10 hE.1 MH_r (by omega) (by omega) (by decide) ?_
    refine zp_icmp_ge (tgt := 33) (pc := 11) d_Md_hooks_11 (by decide) ⟨by omega, by omega⟩ ⟨by omega, by omega⟩ (fun c11 => absurd c11 (by omega)) (fun c11 => ?_)
    refine wp_iload_n (pc := 14) d_Md_hooks_14 rfl ?_
    refine wp_aload_n (pc := 15) d_Md_hooks_15 rfl ?_
    refine wp_getfield (pc := 16) d_Md_hooks_16 f_Md_8 MH_o rfl ?_
    refine wp_iload_n (pc := 19) d_Md_hooks_19 rfl ?_
    refine wp_iconst (pc := 20) d_Md_hooks_20 ?_
    refine wv_callS (n := 2) (As := [_, _]) (pc := 21) d_Md_hooks_21 s_Md_46 q_Md_ofRack ⟨by decide, by decide⟩ rfl rfl rfl (Nat.le_of_ble_eq_true rfl) (Nat.le_of_ble_eq_true rfl) ?_
    refine sp_Md_ofRack ?_
    refine ⟨_, rfl, ?_⟩
    refine zp_iaload (pc := 24) d_Md_hooks_24 hE.1 MH_r (by omega) (by omega) (by decide) ?_
    refine zp_iadd (pc := 25) d_Md_hooks_25 ?_
    refine st_i1 (pc := 26) d_Md_hooks_26 (by decide) ?_
    refine st_c2 (pc := 27) d_Md_hooks_27 (by decide) ?_
    refine wp_goto (tgt := 4) (pc := 30) d_Md_hooks_30 (by decide) ?_
    have e : ((i + 1 : Nat) : Int) = (i : Int) + 1 := by omega
    have zz := ih (i + 1) (by omega)
    rw [e] at zz
    exact zz
set_option maxRecDepth 100000 in
theorem sp_Md_hooks (hE : gOk E) (hs : 0 ≤ F 1 ∧ F 1 ≤ 5) (k : Q (some (.int (zI (sH F (F 1).toNat)))) (MH mo h F sn kp g ln)) : Wp E m_Md_hooks 0 (gEnt m_Md_hooks [.ref mo]) [] (MH mo h F sn kp g ln) Q := by
  show Wp E m_Md_hooks 0 [some (_), none, none] [] _ _
  refine wp_iconst (pc := 0) d_Md_hooks_0 ?_
  refine st_i1 (pc := 1) d_Md_hooks_1 (by decide) ?_
  refine wp_iconst (pc := 2) d_Md_hooks_2 ?_
  refine st_i2 (pc := 3) d_Md_hooks_3 (by decide) ?_
  exact lp_Md_hooks hE hs k (F 1).toNat 0 (by omega)
set_option maxRecDepth 100000 in
theorem sp_Md_undo (hE : gOk E) (hB : gB E ≤ mo) (hs0 : 0 ≤ sn) (hs1 : sn ≤ 4) (k0 : sn = 0 → Q (some (.int (zI (-5)))) (MH mo h F sn kp g ln)) (k1 : ¬ sn = 0 → Q (some (.int (zI (sn - 1)))) (MH mo h (cpF F (6559 + 6559 * (sn - 1)) 0) (sn - 1) kp g ln)) : Wp E m_Md_undo 0 (gEnt m_Md_undo [.ref mo]) [] (MH mo h F sn kp g ln) Q := by
  have hB1 : gB E ≤ mo + 1 := by omega
  show Wp E m_Md_undo 0 [some (_)] [] _ _
  refine wp_aload_n (pc := 0) d_Md_undo_0 rfl ?_
  refine wp_getfield (pc := 1) d_Md_undo_1 f_Md_17 MH_o rfl ?_
  refine zp_if_ne (tgt := 10) (pc := 4) d_Md_undo_4 (by decide) ⟨by omega, by omega⟩ (fun c4 => ?_) (fun c4 => ?_)
  · refine wp_aload_n (pc := 10) d_Md_undo_10 rfl ?_
    refine wp_dup (pc := 11) d_Md_undo_11 rfl ?_
    refine wp_getfield (pc := 12) d_Md_undo_12 f_Md_17 MH_o rfl ?_
    refine wp_iconst (pc := 15) d_Md_undo_15 ?_
    refine zp_isub (pc := 16) d_Md_undo_16 ?_
    refine zp_putI (pc := 17) d_Md_undo_17 f_Md_17 MH_o hB (Or.inl rfl) ?_
    rw [MH_p1]
    refine wp_aload_n (pc := 20) d_Md_undo_20 rfl ?_
    refine zp_sipush (pc := 21) d_Md_undo_21 (by decide) ?_
    refine zp_sipush (pc := 24) d_Md_undo_24 (by decide) ?_
    refine wp_aload_n (pc := 27) d_Md_undo_27 rfl ?_
    refine wp_getfield (pc := 28) d_Md_undo_28 f_Md_17 MH_o rfl ?_
    refine zp_imul (pc := 31) d_Md_undo_31 ?_
    refine zp_iadd (pc := 32) d_Md_undo_32 ?_
    refine wp_iconst (pc := 33) d_Md_undo_33 ?_
    refine wn_callV (n := 2) (As := [_, _]) (pc := 34) d_Md_undo_34 s_Md_21 q_Md_copy ⟨by decide, by decide⟩ MH_o rfl rfl rfl rfl (Nat.le_of_ble_eq_true rfl) (Nat.le_of_ble_eq_true rfl) ?_
    refine sp_Md_copy (a := 6559 + 6559 * (sn - 1)) (b := 0) hE hB (by omega) (by omega) (by omega) (by omega) (by omega) ?_
    refine ⟨rfl, ?_⟩
    refine wp_aload_n (pc := 37) d_Md_undo_37 rfl ?_
    refine wp_getfield (pc := 38) d_Md_undo_38 f_Md_17 MH_o rfl ?_
    refine zp_ireturn (pc := 41) d_Md_undo_41 rfl ?_
    exact k1 c4
  · refine zp_bipush (pc := 7) d_Md_undo_7 (by decide) ?_
    refine zp_ireturn (pc := 9) d_Md_undo_9 rfl ?_
    exact k0 c4
set_option maxRecDepth 100000 in
theorem sp_Md_keep (hE : gOk E) (hB : gB E ≤ mo) (k : Q (some (.int (zI (sm (fun x => cpF F 0 32795 (29 + 8 * x + 1)) 60)))) (MH mo h (cpF F 0 32795) sn 1 g ln)) : Wp E m_Md_keep 0 (gEnt m_Md_keep [.ref mo]) [] (MH mo h F sn kp g ln) Q := by
  have hB1 : gB E ≤ mo + 1 := by omega
  show Wp E m_Md_keep 0 [some (_)] [] _ _
  refine wp_aload_n (pc := 0) d_Md_keep_0 rfl ?_
  refine wp_iconst (pc := 1) d_Md_keep_1 ?_
  refine wp_ldc (pc := 2) d_Md_keep_2 l_Md_25 ?_
  refine wn_callV (n := 2) (As := [_, _]) (pc := 4) d_Md_keep_4 s_Md_21 q_Md_copy ⟨by decide, by decide⟩ MH_o rfl rfl rfl rfl (Nat.le_of_ble_eq_true rfl) (Nat.le_of_ble_eq_true rfl) ?_
  refine sp_Md_copy (a := 0) (b := 32795) hE hB (by omega) (by omega) (by omega) (by omega) (by omega) ?_
  refine ⟨rfl, ?_⟩
  refine wp_aload_n (pc := 7) d_Md_keep_7 rfl ?_
  refine wp_iconst (pc := 8) d_Md_keep_8 ?_
  refine wp_putfield (pc := 9) d_Md_keep_9 f_Md_26 MH_o hB rfl rfl (Or.inl rfl) ?_
  rw [MH_p2]
  refine wp_aload_n (pc := 12) d_Md_keep_12 rfl ?_
  refine wv_callV (n := 0) (As := []) (pc := 13) d_Md_keep_13 s_Md_30 q_Md_coats ⟨by decide, by decide⟩ MH_o rfl rfl rfl rfl (Nat.le_of_ble_eq_true rfl) (Nat.le_of_ble_eq_true rfl) ?_
  refine sp_Md_coats hE ?_
  refine ⟨_, rfl, ?_⟩
  refine zp_ireturn (pc := 16) d_Md_keep_16 rfl ?_
  exact k
set_option maxRecDepth 100000 in
theorem sp_Md_restore (hE : gOk E) (hB : gB E ≤ mo) (hs0 : 0 ≤ sn) (hs1 : sn ≤ 4) (hk : kp = 0 ∨ kp = 1) (k0 : kp = 0 → Q (some (.int (zI (-5)))) (MH mo h F sn kp g ln)) (k1 : ¬ kp = 0 → Q (some (.int (zI (sm (fun x => cpF (rcF F sn 0) 32795 0 (29 + 8 * x + 1)) 60)))) (MH mo h (cpF (rcF F sn 0) 32795 0) (rcS sn) kp g ln)) : Wp E m_Md_restore 0 (gEnt m_Md_restore [.ref mo]) [] (MH mo h F sn kp g ln) Q := by
  have hB1 : gB E ≤ mo + 1 := by omega
  show Wp E m_Md_restore 0 [some (_)] [] _ _
  refine wp_aload_n (pc := 0) d_Md_restore_0 rfl ?_
  refine wp_getfield (pc := 1) d_Md_restore_1 f_Md_26 MH_o rfl ?_
  refine zp_if_ne (tgt := 10) (pc := 4) d_Md_restore_4 (by decide) ⟨by omega, by omega⟩ (fun c4 => ?_) (fun c4 => ?_)
  · refine wp_aload_n (pc := 10) d_Md_restore_10 rfl ?_
    refine wp_iconst (pc := 11) d_Md_restore_11 ?_
    refine wn_callV (n := 1) (As := [_]) (pc := 12) d_Md_restore_12 s_Md_34 q_Md_record ⟨by decide, by decide⟩ MH_o rfl rfl rfl rfl (Nat.le_of_ble_eq_true rfl) (Nat.le_of_ble_eq_true rfl) ?_
    refine sp_Md_record hE hB (Or.inl rfl) hs0 hs1 ?_
    refine ⟨rfl, ?_⟩
    refine wp_aload_n (pc := 15) d_Md_restore_15 rfl ?_
    refine wp_ldc (pc := 16) d_Md_restore_16 l_Md_25 ?_
    refine wp_iconst (pc := 18) d_Md_restore_18 ?_
    refine wn_callV (n := 2) (As := [_, _]) (pc := 19) d_Md_restore_19 s_Md_21 q_Md_copy ⟨by decide, by decide⟩ MH_o rfl rfl rfl rfl (Nat.le_of_ble_eq_true rfl) (Nat.le_of_ble_eq_true rfl) ?_
    refine sp_Md_copy (a := 32795) (b := 0) hE hB (by omega) (by omega) (by omega) (by omega) (by omega) ?_
    refine ⟨rfl, ?_⟩
    refine wp_aload_n (pc := 22) d_Md_restore_22 rfl ?_
    refine wv_callV (n := 0) (As := []) (pc := 23) d_Md_restore_23 s_Md_30 q_Md_coats ⟨by decide, by decide⟩ MH_o rfl rfl rfl rfl (Nat.le_of_ble_eq_true rfl) (Nat.le_of_ble_eq_true rfl) ?_
    refine sp_Md_coats hE ?_
    refine ⟨_, rfl, ?_⟩
    refine zp_ireturn (pc := 26) d_Md_restore_26 rfl ?_
    exact k1 c4
  · refine zp_bipush (pc := 7) d_Md_restore_7 (by decide) ?_
    refine zp_ireturn (pc := 9) d_Md_restore_9 rfl ?_
    exact k0 c4
set_option maxRecDepth 100000 in
theorem sp_Md_type (hE : gOk E) (hB : gB E ≤ mo) (hl0 : 0 ≤ ln) (hl1 : ln ≤ 60) {c : Int} (k0 : ln = 60 → Q (some (.int (zI (-3)))) (MH mo h F sn kp g ln)) (k1 : ¬ ln = 60 → Q (some (.int (zI (ln + 1)))) (MH mo h F sn kp (zup g ln c) (ln + 1))) : Wp E m_Md_type 0 (gEnt m_Md_type [.ref mo, .int (zI c)]) [] (MH mo h F sn kp g ln) Q := by
  have hB2 : gB E ≤ mo + 2 := by omega
  show Wp E m_Md_type 0 [some (_), some (_)] [] _ _
  refine wp_aload_n (pc := 0) d_Md_type_0 rfl ?_
  refine wp_getfield (pc := 1) d_Md_type_1 f_Md_140 MH_o rfl ?_
  refine zp_bipush (pc := 4) d_Md_type_4 (by decide) ?_
  refine zp_icmp_ne (tgt := 12) (pc := 6) d_Md_type_6 (by decide) ⟨by omega, by omega⟩ ⟨by omega, by omega⟩ (fun c6 => ?_) (fun c6 => ?_)
  · refine wp_aload_n (pc := 12) d_Md_type_12 rfl ?_
    refine wp_getfield (pc := 13) d_Md_type_13 f_Md_14 MH_o rfl ?_
    refine wp_aload_n (pc := 16) d_Md_type_16 rfl ?_
    refine wp_getfield (pc := 17) d_Md_type_17 f_Md_140 MH_o rfl ?_
    refine wp_iload_n (pc := 20) d_Md_type_20 rfl ?_
    refine zp_iastore (pc := 21) d_Md_type_21 hE.1 MH_t hB2 (by omega) (by omega) (by decide) ?_
    rw [MH_pt]
    refine wp_aload_n (pc := 22) d_Md_type_22 rfl ?_
    refine wp_dup (pc := 23) d_Md_type_23 rfl ?_
    refine wp_getfield (pc := 24) d_Md_type_24 f_Md_140 MH_o rfl ?_
    refine wp_iconst (pc := 27) d_Md_type_27 ?_
    refine zp_iadd (pc := 28) d_Md_type_28 ?_
    refine zp_putI (pc := 29) d_Md_type_29 f_Md_140 MH_o hB (Or.inl rfl) ?_
    rw [MH_p4]
    refine wp_aload_n (pc := 32) d_Md_type_32 rfl ?_
    refine wp_getfield (pc := 33) d_Md_type_33 f_Md_140 MH_o rfl ?_
    refine zp_ireturn (pc := 36) d_Md_type_36 rfl ?_
    exact k1 c6
  · refine zp_bipush (pc := 9) d_Md_type_9 (by decide) ?_
    refine zp_ireturn (pc := 11) d_Md_type_11 rfl ?_
    exact k0 c6
set_option maxRecDepth 100000 in
theorem sp_Md_clearText (hE : gOk E) (hB : gB E ≤ mo) (k : Q (some (.int (zI ln))) (MH mo h F sn kp g 0)) : Wp E m_Md_clearText 0 (gEnt m_Md_clearText [.ref mo]) [] (MH mo h F sn kp g ln) Q := by
  show Wp E m_Md_clearText 0 [some (_), none] [] _ _
  refine wp_aload_n (pc := 0) d_Md_clearText_0 rfl ?_
  refine wp_getfield (pc := 1) d_Md_clearText_1 f_Md_140 MH_o rfl ?_
  refine st_i1 (pc := 4) d_Md_clearText_4 (by decide) ?_
  refine wp_aload_n (pc := 5) d_Md_clearText_5 rfl ?_
  refine wp_iconst (pc := 6) d_Md_clearText_6 ?_
  refine zp_putI (pc := 7) d_Md_clearText_7 f_Md_140 MH_o hB (Or.inl rfl) ?_
  rw [MH_p4]
  refine wp_iload_n (pc := 10) d_Md_clearText_10 rfl ?_
  refine zp_ireturn (pc := 11) d_Md_clearText_11 rfl ?_
  exact k
end S24
