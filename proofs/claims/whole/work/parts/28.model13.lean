/-! ===== the reference: days, ways, tags, counts ===== -/
section S28
variable {E : gE} {mo : Nat} {h : gH} {F g : Int → Int} {sn kp ln : Int} {Q : Option Value → gH → Prop}
set_option maxRecDepth 100000 in
theorem lp_Md_pass (hE : gOk E) (hB : gB E ≤ mo) {n : Int} (hJ : J n F) (hn : n ≤ 700000000) {m : Int} (hm0 : 1 ≤ m) (hm1 : m ≤ 60) (hd : F 0 + m ≤ 9999) (k : Q (some (.int (zI (psS F m.toNat).1))) (MH mo h (psS F m.toNat).2 sn kp g ln)) : ∀ (d i : Nat), i + d = m.toNat → Wp E m_Md_pass 39 [some (.ref mo), some (.int (zI m)), some (.int (zI (psS F i).1)), some (.int (zI i))] [] (MH mo h (psS F i).2 sn kp g ln) Q := by
  intro d
  induction d with
  | zero =>
    intro i hi
    obtain rfl : i = m.toNat := by omega
    refine wp_iload_n (pc := 39) d_Md_pass_39 rfl ?_
    refine wp_iload_n (pc := 40) d_Md_pass_40 rfl ?_
    refine zp_icmp_ge (tgt := 57) (pc := 41) d_Md_pass_41 (by decide) ⟨by omega, by omega⟩ ⟨by omega, by omega⟩ (fun c41 => ?_) (fun c41 => absurd c41 (by omega))
    refine wp_iload_n (pc := 57) d_Md_pass_57 rfl ?_
    refine zp_ireturn (pc := 58) d_Md_pass_58 rfl ?_
    exact k
  | succ d ih =>
    intro i hi
    have e : ((i + 1 : Nat) : Int) = (i : Int) + 1 := by omega
    have zz := ih (i + 1) (by omega)
    rw [e, psS_s] at zz
    have hP := hJ.ps i (by omega)
    generalize psS F i = P at hP zz ⊢
    refine wp_iload_n (pc := 39) d_Md_pass_39 rfl ?_
    refine wp_iload_n (pc := 40) d_Md_pass_40 rfl ?_
    refine zp_icmp_ge (tgt := 57) (pc := 41) d_Md_pass_41 (by decide) ⟨by omega, by omega⟩ ⟨by omega, by omega⟩ (fun c41 => absurd c41 (by omega)) (fun c41 => ?_)
    refine wp_iload_n (pc := 44) d_Md_pass_44 rfl ?_
    refine wp_aload_n (pc := 45) d_Md_pass_45 rfl ?_
    refine wv_callV (n := 0) (As := []) (pc := 46) d_Md_pass_46 s_Md_137 q_Md_passDay ⟨by decide, by decide⟩ MH_o rfl rfl rfl rfl (Nat.le_of_ble_eq_true rfl) (Nat.le_of_ble_eq_true rfl) ?_
    refine sp_Md_passDay hE hB hP.1 (by omega) (by omega) ?_
    refine ⟨_, rfl, ?_⟩
    refine zp_iadd (pc := 49) d_Md_pass_49 ?_
    refine st_i2 (pc := 50) d_Md_pass_50 (by decide) ?_
    refine st_c3 (pc := 51) d_Md_pass_51 (by decide) ?_
    refine wp_goto (tgt := 39) (pc := 54) d_Md_pass_54 (by decide) ?_
    exact zz
set_option maxRecDepth 100000 in
theorem sp_Md_pass (hE : gOk E) (hB : gB E ≤ mo) {n : Int} (hJ : J n F) (hn : n ≤ 700000000) (hs0 : 0 ≤ sn) (hs1 : sn ≤ 4) {m : Int} (rm : gR m) (k0 : c_ps F m < 0 → Q (some (.int (zI (c_ps F m)))) (MH mo h F sn kp g ln)) (k1 : ¬ c_ps F m < 0 → Q (some (.int (zI (c_ps F m)))) (MH mo h (u_ps (rcF F sn 0) m) (rcS sn) kp g ln)) : Wp E m_Md_pass 0 (gEnt m_Md_pass [.ref mo, .int (zI m)]) [] (MH mo h F sn kp g ln) Q := by
  have hB1 : gB E ≤ mo + 1 := by omega
  have hV := hJ.vd
  have hs := hV.1
  show Wp E m_Md_pass 0 [some (_), some (_), none, none] [] _ _
  refine wp_iload_n (pc := 0) d_Md_pass_0 rfl ?_
  refine wp_iconst (pc := 1) d_Md_pass_1 ?_
  refine zp_bipush (pc := 2) d_Md_pass_2 (by decide) ?_
  refine wv_callS (n := 3) (As := [_, _, _]) (pc := 4) d_Md_pass_4 s_Md_38 q_Md_in ⟨by decide, by decide⟩ rfl rfl rfl (Nat.le_of_ble_eq_true rfl) (Nat.le_of_ble_eq_true rfl) ?_
  refine sp_Md_in ⟨by omega, by omega⟩ ⟨by omega, by omega⟩ ⟨by omega, by omega⟩ ?_
  refine ⟨_, rfl, ?_⟩
  refine zp_ifb_ne (tgt := 13) (pc := 7) d_Md_pass_7 (by decide) (fun c7 => ?_) (fun c7 => ?_)
  · refine wp_aload_n (pc := 13) d_Md_pass_13 rfl ?_
    refine wp_getfield (pc := 14) d_Md_pass_14 f_Md_8 MH_o rfl ?_
    refine wp_iconst (pc := 17) d_Md_pass_17 ?_
    refine zp_iaload (pc := 18) d_Md_pass_18 hE.1 MH_r (by omega) (by omega) (by decide) ?_
    refine wp_iload_n (pc := 19) d_Md_pass_19 rfl ?_
    refine zp_iadd (pc := 20) d_Md_pass_20 ?_
    refine zp_sipush (pc := 21) d_Md_pass_21 (by decide) ?_
    refine zp_icmp_le (tgt := 30) (pc := 24) d_Md_pass_24 (by decide) ⟨by omega, by omega⟩ ⟨by omega, by omega⟩ (fun c24 => ?_) (fun c24 => ?_)
    · refine wp_aload_n (pc := 30) d_Md_pass_30 rfl ?_
      refine wp_iconst (pc := 31) d_Md_pass_31 ?_
      refine wn_callV (n := 1) (As := [_]) (pc := 32) d_Md_pass_32 s_Md_34 q_Md_record ⟨by decide, by decide⟩ MH_o rfl rfl rfl rfl (Nat.le_of_ble_eq_true rfl) (Nat.le_of_ble_eq_true rfl) ?_
      refine sp_Md_record hE hB (Or.inl rfl) hs0 hs1 ?_
      refine ⟨rfl, ?_⟩
      have hlo : ∀ j : Int, j < 6559 → rcF F sn 0 j = F j := fun j hj => rcF_lo hs0 hs1 hj
      have hVG := (hJ.1.congr (G := rcF F sn 0) fun j _ hj => hlo j hj).vd
      have hJG := rcF_J (b := 0) hs0 hs1 hJ
      generalize hG : rcF F sn 0 = G at hlo hVG hJG ⊢
      refine wp_iconst (pc := 35) d_Md_pass_35 ?_
      refine st_i2 (pc := 36) d_Md_pass_36 (by decide) ?_
      refine wp_iconst (pc := 37) d_Md_pass_37 ?_
      refine st_i3 (pc := 38) d_Md_pass_38 (by decide) ?_
      have e0 := hlo 0 (by omega)
      have hag : (psS G m.toNat).1 = (psS F m.toNat).1 := (ag_ps hJ (fun j hj => hlo j hj) m.toNat (by omega)).1
      have hps := hJ.ps m.toNat (by omega)
      refine lp_Md_pass (m := m) hE hB hJG (by omega) (by omega) (by omega) (by omega) ?_ m.toNat 0 (by omega)
      rw [hG] at k1
      have ee : c_ps F m = (psS G m.toNat).1 := by
        rw [hag]
        unfold c_ps
        (repeat' split) <;> omega
      have z := k1 (by rw [ee]; omega)
      rw [ee] at z
      exact z
    · refine zp_bipush (pc := 27) d_Md_pass_27 (by decide) ?_
      refine zp_ireturn (pc := 29) d_Md_pass_29 rfl ?_
      have ee : c_ps F m = -4 := by
        unfold c_ps
        (repeat' split) <;> omega
      have z := k0 (by omega)
      rw [ee] at z
      exact z
  · refine zp_bipush (pc := 10) d_Md_pass_10 (by decide) ?_
    refine zp_ireturn (pc := 12) d_Md_pass_12 rfl ?_
    have ee : c_ps F m = -2 := by
      unfold c_ps
      (repeat' split) <;> omega
    have z := k0 (by omega)
    rw [ee] at z
    exact z
set_option maxRecDepth 100000 in
theorem lp_Md_greatestWay (hE : gOk E) {n : Int} (hV : Vd n F) (hn : n ≤ 100000000) (hA : AC F) (k : Q (some (.int (zI (gw F 6000)))) (MH mo h F sn kp g ln)) : ∀ (d i : Nat), i + d = 6000 → Wp E m_Md_greatestWay 4 [some (.ref mo), some (.int (zI (gw F i))), some (.int (zI i))] [] (MH mo h F sn kp g ln) Q := by
  intro d
  induction d with
  | zero =>
    intro i hi
    obtain rfl : i = 6000 := by omega
    refine wp_iload_n (pc := 4) d_Md_greatestWay_4 rfl ?_
    refine zp_sipush (pc := 5) d_Md_greatestWay_5 (by decide) ?_
    refine zp_icmp_ge (tgt := 36) (pc := 8) d_Md_greatestWay_8 (by decide) ⟨by omega, by omega⟩ ⟨by omega, by omega⟩ (fun c8 => ?_) (fun c8 => absurd c8 (by omega))
    refine wp_iload_n (pc := 36) d_Md_greatestWay_36 rfl ?_
    refine zp_ireturn (pc := 37) d_Md_greatestWay_37 rfl ?_
    exact k
  | succ d ih =>
    intro i hi
    have e : ((i + 1 : Nat) : Int) = (i : Int) + 1 := by omega
    have hwb := wy_b hV hA (x := (i : Int)) (by omega) (by omega)
    have hgb := gw_b hV hA i (by omega)
    have zz := ih (i + 1) (by omega)
    rw [e, gw_s] at zz
    refine wp_iload_n (pc := 4) d_Md_greatestWay_4 rfl ?_
    refine zp_sipush (pc := 5) d_Md_greatestWay_5 (by decide) ?_
    refine zp_icmp_ge (tgt := 36) (pc := 8) d_Md_greatestWay_8 (by decide) ⟨by omega, by omega⟩ ⟨by omega, by omega⟩ (fun c8 => absurd c8 (by omega)) (fun c8 => ?_)
    refine wp_aload_n (pc := 11) d_Md_greatestWay_11 rfl ?_
    refine wp_iload_n (pc := 12) d_Md_greatestWay_12 rfl ?_
    refine wv_callV (n := 1) (As := [_]) (pc := 13) d_Md_greatestWay_13 s_Md_134 q_Md_wayOf ⟨by decide, by decide⟩ MH_o rfl rfl rfl rfl (Nat.le_of_ble_eq_true rfl) (Nat.le_of_ble_eq_true rfl) ?_
    refine sp_Md_wayOf hE hV hn hA (by omega) (by omega) ?_
    refine ⟨_, rfl, ?_⟩
    refine wp_iload_n (pc := 16) d_Md_greatestWay_16 rfl ?_
    refine zp_icmp_le (tgt := 28) (pc := 17) d_Md_greatestWay_17 (by decide) ⟨by omega, by omega⟩ ⟨by omega, by omega⟩ (fun c17 => ?_) (fun c17 => ?_)
    · refine wp_iload_n (pc := 28) d_Md_greatestWay_28 rfl ?_
      refine st_i1 (pc := 29) d_Md_greatestWay_29 (by decide) ?_
      refine st_c2 (pc := 30) d_Md_greatestWay_30 (by decide) ?_
      refine wp_goto (tgt := 4) (pc := 33) d_Md_greatestWay_33 (by decide) ?_
      first | (rw [if_pos (by omega)] at zz; exact zz) | (rw [if_neg (by omega)] at zz; exact zz)
    · refine wp_aload_n (pc := 20) d_Md_greatestWay_20 rfl ?_
      refine wp_iload_n (pc := 21) d_Md_greatestWay_21 rfl ?_
      refine wv_callV (n := 1) (As := [_]) (pc := 22) d_Md_greatestWay_22 s_Md_134 q_Md_wayOf ⟨by decide, by decide⟩ MH_o rfl rfl rfl rfl (Nat.le_of_ble_eq_true rfl) (Nat.le_of_ble_eq_true rfl) ?_
      refine sp_Md_wayOf hE hV hn hA (by omega) (by omega) ?_
      refine ⟨_, rfl, ?_⟩
      refine wp_goto (tgt := 29) (pc := 25) d_Md_greatestWay_25 (by decide) ?_
      refine st_i1 (pc := 29) d_Md_greatestWay_29 (by decide) ?_
      refine st_c2 (pc := 30) d_Md_greatestWay_30 (by decide) ?_
      refine wp_goto (tgt := 4) (pc := 33) d_Md_greatestWay_33 (by decide) ?_
      first | (rw [if_pos (by omega)] at zz; exact zz) | (rw [if_neg (by omega)] at zz; exact zz)
set_option maxRecDepth 100000 in
theorem sp_Md_greatestWay (hE : gOk E) {n : Int} (hV : Vd n F) (hn : n ≤ 100000000) (hA : AC F) (k : Q (some (.int (zI (gw F 6000)))) (MH mo h F sn kp g ln)) : Wp E m_Md_greatestWay 0 (gEnt m_Md_greatestWay [.ref mo]) [] (MH mo h F sn kp g ln) Q := by
  show Wp E m_Md_greatestWay 0 [some (_), none, none] [] _ _
  refine wp_iconst (pc := 0) d_Md_greatestWay_0 ?_
  refine st_i1 (pc := 1) d_Md_greatestWay_1 (by decide) ?_
  refine wp_iconst (pc := 2) d_Md_greatestWay_2 ?_
  refine st_i2 (pc := 3) d_Md_greatestWay_3 (by decide) ?_
  exact lp_Md_greatestWay hE hV hn hA k 6000 0 rfl
set_option maxRecDepth 100000 in
theorem sp_Md_tag (hE : gOk E) {n : Int} (hJ : J n F) (hn : n ≤ 100000000) {t w : Int} (rt : gR t) (rw_ : gR w) (k : Q (some (.int (zI (c_tg F t w)))) (MH mo h F sn kp g ln)) : Wp E m_Md_tag 0 (gEnt m_Md_tag [.ref mo, .int (zI t), .int (zI w)]) [] (MH mo h F sn kp g ln) Q := by
  have hV := hJ.vd
  have hs := hV.1
  show Wp E m_Md_tag 0 [some (_), some (_), some (_), none, none] [] _ _
  refine wp_iload_n (pc := 0) d_Md_tag_0 rfl ?_
  refine wv_callS (n := 1) (As := [_]) (pc := 1) d_Md_tag_1 s_Md_70 q_Md_isTag ⟨by decide, by decide⟩ rfl rfl rfl (Nat.le_of_ble_eq_true rfl) (Nat.le_of_ble_eq_true rfl) ?_
  refine sp_Md_isTag rt ?_
  refine ⟨_, rfl, ?_⟩
  refine zp_ifb_eq (tgt := 16) (pc := 4) d_Md_tag_4 (by decide) (fun c4 => ?_) (fun c4 => ?_)
  · refine zp_bipush (pc := 16) d_Md_tag_16 (by decide) ?_
    refine zp_ireturn (pc := 18) d_Md_tag_18 rfl ?_
    have ee : c_tg F t w = -2 := by
      unfold c_tg
      (repeat' split) <;> omega
    rw [ee] at k
    exact k
  · refine wp_iload_n (pc := 7) d_Md_tag_7 rfl ?_
    refine wp_iconst (pc := 8) d_Md_tag_8 ?_
    refine wp_iconst (pc := 9) d_Md_tag_9 ?_
    refine wv_callS (n := 3) (As := [_, _, _]) (pc := 10) d_Md_tag_10 s_Md_38 q_Md_in ⟨by decide, by decide⟩ rfl rfl rfl (Nat.le_of_ble_eq_true rfl) (Nat.le_of_ble_eq_true rfl) ?_
    refine sp_Md_in ⟨by omega, by omega⟩ ⟨by omega, by omega⟩ ⟨by omega, by omega⟩ ?_
    refine ⟨_, rfl, ?_⟩
    refine zp_ifb_ne (tgt := 19) (pc := 13) d_Md_tag_13 (by decide) (fun c13 => ?_) (fun c13 => ?_)
    · refine wp_iload_n (pc := 19) d_Md_tag_19 rfl ?_
      refine zp_bipush (pc := 20) d_Md_tag_20 (by decide) ?_
      refine zp_idiv (pc := 22) d_Md_tag_22 (by omega) (by omega) (by omega) (by omega) ?_
      refine st_i3 (pc := 23) d_Md_tag_23 (by decide) ?_
      refine wp_aload_n (pc := 24) d_Md_tag_24 rfl ?_
      refine wp_iload_n (pc := 25) d_Md_tag_25 rfl ?_
      refine wv_callV (n := 1) (As := [_]) (pc := 26) d_Md_tag_26 s_Md_73 q_Md_isGiven ⟨by decide, by decide⟩ MH_o rfl rfl rfl rfl (Nat.le_of_ble_eq_true rfl) (Nat.le_of_ble_eq_true rfl) ?_
      refine sp_Md_isGiven hE hV (by omega) (by omega) ?_
      refine ⟨_, rfl, ?_⟩
      refine zp_ifb_ne (tgt := 34) (pc := 29) d_Md_tag_29 (by decide) (fun c29 => ?_) (fun c29 => ?_)
      · refine wp_aload_n (pc := 34) d_Md_tag_34 rfl ?_
        refine wp_iload_n (pc := 35) d_Md_tag_35 rfl ?_
        refine wv_callV (n := 1) (As := [_]) (pc := 36) d_Md_tag_36 s_Md_76 q_Md_lastOf ⟨by decide, by decide⟩ MH_o rfl rfl rfl rfl (Nat.le_of_ble_eq_true rfl) (Nat.le_of_ble_eq_true rfl) ?_
        refine sp_Md_lastOf hE hV hJ.ac (by omega) (by omega) ?_
        refine ⟨_, rfl, ?_⟩
        have hlb := hJ.ac.b (x := t / 10) (by omega) (by omega)
        have heb := eo_b hV hlb.1 hlb.2
        have hfb := fol_b hV (x := t / 10) (by omega) (by omega)
        have hh := hV.2.2.2.2.2.2 (t / 10) (by omega) (by omega)
        have hgv := (hJ.2.2.2.2.2.2.1 (t / 10) (by omega) (by omega)).1
        refine st_i4 (pc := 39) d_Md_tag_39 (by decide) ?_
        refine wp_iload_n (pc := 41) d_Md_tag_41 rfl ?_
        by_cases k42_0 : w = 0
        · subst w
          refine zp_tableIn (x := 0) (tgt := 76) (pc := 42) d_Md_tag_42 ⟨by decide, by decide⟩ (by decide) (by decide) rfl (by decide) ?_
          refine wp_aload_n (pc := 76) d_Md_tag_76 rfl ?_
          refine wp_iload (pc := 77) d_Md_tag_77 rfl ?_
          refine wv_callV (n := 1) (As := [_]) (pc := 79) d_Md_tag_79 s_Md_79 q_Md_endOf ⟨by decide, by decide⟩ MH_o rfl rfl rfl rfl (Nat.le_of_ble_eq_true rfl) (Nat.le_of_ble_eq_true rfl) ?_
          refine sp_Md_endOf hE hV hlb.1 hlb.2 ?_
          refine ⟨_, rfl, ?_⟩
          refine zp_if_ne (tgt := 93) (pc := 82) d_Md_tag_82 (by decide) ⟨by omega, by omega⟩ (fun c82 => ?_) (fun c82 => ?_)
          · refine zp_bipush (pc := 93) d_Md_tag_93 (by decide) ?_
            refine zp_ireturn (pc := 95) d_Md_tag_95 rfl ?_
            have ee : c_tg F t 0 = -5 := by
              unfold c_tg
              (repeat' split) <;> omega
            rw [ee] at k
            exact k
          · refine wp_iload (pc := 85) d_Md_tag_85 rfl ?_
            refine wv_callS (n := 1) (As := [_]) (pc := 87) d_Md_tag_87 s_Md_108 q_Md_hookOf ⟨by decide, by decide⟩ rfl rfl rfl (Nat.le_of_ble_eq_true rfl) (Nat.le_of_ble_eq_true rfl) ?_
            refine sp_Md_hookOf (by omega) (by omega) ?_
            refine ⟨_, rfl, ?_⟩
            refine wp_goto (tgt := 95) (pc := 90) d_Md_tag_90 (by decide) ?_
            refine zp_ireturn (pc := 95) d_Md_tag_95 rfl ?_
            have ee : c_tg F t 0 = la F (t / 10) / 100 := by
              unfold c_tg
              (repeat' split) <;> omega
            rw [ee] at k
            exact k
        by_cases k42_1 : w = 1
        · subst w
          refine zp_tableIn (x := 1) (tgt := 96) (pc := 42) d_Md_tag_42 ⟨by decide, by decide⟩ (by decide) (by decide) rfl (by decide) ?_
          refine wp_aload_n (pc := 96) d_Md_tag_96 rfl ?_
          refine wp_iload_n (pc := 97) d_Md_tag_97 rfl ?_
          refine wv_callV (n := 1) (As := [_]) (pc := 98) d_Md_tag_98 s_Md_134 q_Md_wayOf ⟨by decide, by decide⟩ MH_o rfl rfl rfl rfl (Nat.le_of_ble_eq_true rfl) (Nat.le_of_ble_eq_true rfl) ?_
          refine sp_Md_wayOf hE hV hn hJ.ac (by omega) (by omega) ?_
          refine ⟨_, rfl, ?_⟩
          refine zp_ireturn (pc := 101) d_Md_tag_101 rfl ?_
          have ee : c_tg F t 1 = wy F (t / 10) := by
            unfold c_tg
            (repeat' split) <;> omega
          rw [ee] at k
          exact k
        by_cases k42_2 : w = 2
        · subst w
          refine zp_tableIn (x := 2) (tgt := 102) (pc := 42) d_Md_tag_42 ⟨by decide, by decide⟩ (by decide) (by decide) rfl (by decide) ?_
          refine wp_aload_n (pc := 102) d_Md_tag_102 rfl ?_
          refine wp_iload (pc := 103) d_Md_tag_103 rfl ?_
          refine wv_callV (n := 1) (As := [_]) (pc := 105) d_Md_tag_105 s_Md_79 q_Md_endOf ⟨by decide, by decide⟩ MH_o rfl rfl rfl rfl (Nat.le_of_ble_eq_true rfl) (Nat.le_of_ble_eq_true rfl) ?_
          refine sp_Md_endOf hE hV hlb.1 hlb.2 ?_
          refine ⟨_, rfl, ?_⟩
          refine zp_ireturn (pc := 108) d_Md_tag_108 rfl ?_
          have ee : c_tg F t 2 = eo F (la F (t / 10)) := by
            unfold c_tg
            (repeat' split) <;> omega
          rw [ee] at k
          exact k
        by_cases k42_3 : w = 3
        · subst w
          refine zp_tableIn (x := 3) (tgt := 109) (pc := 42) d_Md_tag_42 ⟨by decide, by decide⟩ (by decide) (by decide) rfl (by decide) ?_
          refine wp_iload (pc := 109) d_Md_tag_109 rfl ?_
          refine wv_callS (n := 1) (As := [_]) (pc := 111) d_Md_tag_111 s_Md_64 q_Md_tagBy ⟨by decide, by decide⟩ rfl rfl rfl (Nat.le_of_ble_eq_true rfl) (Nat.le_of_ble_eq_true rfl) ?_
          refine sp_Md_tagBy (by omega) (by omega) ?_
          refine ⟨_, rfl, ?_⟩
          refine zp_ireturn (pc := 114) d_Md_tag_114 rfl ?_
          have ee : c_tg F t 3 = tb (la F (t / 10)) := by
            unfold c_tg
            (repeat' split) <;> omega
          rw [ee] at k
          exact k
        by_cases k42_4 : w = 4
        · subst w
          refine zp_tableIn (x := 4) (tgt := 115) (pc := 42) d_Md_tag_42 ⟨by decide, by decide⟩ (by decide) (by decide) rfl (by decide) ?_
          refine wp_aload_n (pc := 115) d_Md_tag_115 rfl ?_
          refine wp_iload_n (pc := 116) d_Md_tag_116 rfl ?_
          refine wv_callV (n := 1) (As := [_]) (pc := 117) d_Md_tag_117 s_Md_67 q_Md_follows ⟨by decide, by decide⟩ MH_o rfl rfl rfl rfl (Nat.le_of_ble_eq_true rfl) (Nat.le_of_ble_eq_true rfl) ?_
          refine sp_Md_follows hE hV (by omega) (by omega) ?_
          refine ⟨_, rfl, ?_⟩
          refine zp_if_ge (tgt := 128) (pc := 120) d_Md_tag_120 (by decide) ⟨by omega, by omega⟩ (fun c120 => ?_) (fun c120 => ?_)
          · refine wp_aload_n (pc := 128) d_Md_tag_128 rfl ?_
            refine wp_iload_n (pc := 129) d_Md_tag_129 rfl ?_
            refine wv_callV (n := 1) (As := [_]) (pc := 130) d_Md_tag_130 s_Md_67 q_Md_follows ⟨by decide, by decide⟩ MH_o rfl rfl rfl rfl (Nat.le_of_ble_eq_true rfl) (Nat.le_of_ble_eq_true rfl) ?_
            refine sp_Md_follows hE hV (by omega) (by omega) ?_
            refine ⟨_, rfl, ?_⟩
            refine wv_callS (n := 1) (As := [_]) (pc := 133) d_Md_tag_133 s_Md_64 q_Md_tagBy ⟨by decide, by decide⟩ rfl rfl rfl (Nat.le_of_ble_eq_true rfl) (Nat.le_of_ble_eq_true rfl) ?_
            refine sp_Md_tagBy (by omega) (by omega) ?_
            refine ⟨_, rfl, ?_⟩
            refine zp_ireturn (pc := 136) d_Md_tag_136 rfl ?_
            have ee : c_tg F t 4 = tb (fol F (t / 10)) := by
              unfold c_tg
              (repeat' split) <;> omega
            rw [ee] at k
            exact k
          · refine zp_bipush (pc := 123) d_Md_tag_123 (by decide) ?_
            refine wp_goto (tgt := 136) (pc := 125) d_Md_tag_125 (by decide) ?_
            refine zp_ireturn (pc := 136) d_Md_tag_136 rfl ?_
            have ee : c_tg F t 4 = -5 := by
              unfold c_tg
              (repeat' split) <;> omega
            rw [ee] at k
            exact k
        refine zp_tableOut (tgt := 137) (pc := 42) d_Md_tag_42 rw_ (by omega) (by decide) ?_
        refine wp_aload_n (pc := 137) d_Md_tag_137 rfl ?_
        refine wp_getfield (pc := 138) d_Md_tag_138 f_Md_8 MH_o rfl ?_
        refine zp_sipush (pc := 141) d_Md_tag_141 (by decide) ?_
        refine wp_iload_n (pc := 144) d_Md_tag_144 rfl ?_
        refine zp_iadd (pc := 145) d_Md_tag_145 ?_
        refine zp_iaload (pc := 146) d_Md_tag_146 hE.1 MH_r (by omega) (by omega) (by decide) ?_
        refine zp_bipush (pc := 147) d_Md_tag_147 (by decide) ?_
        refine zp_idiv (pc := 149) d_Md_tag_149 (by omega) (by omega) (by omega) (by omega) ?_
        refine zp_bipush (pc := 150) d_Md_tag_150 (by decide) ?_
        refine zp_irem (pc := 152) d_Md_tag_152 (by omega) (by omega) (by omega) (by omega) ?_
        refine zp_ireturn (pc := 153) d_Md_tag_153 rfl ?_
        have ee : c_tg F t w = F (559 + t / 10) / 16 % 32 := by
          unfold c_tg
          (repeat' split) <;> omega
        rw [ee] at k
        exact k
      · refine wp_iconst (pc := 32) d_Md_tag_32 ?_
        refine zp_ireturn (pc := 33) d_Md_tag_33 rfl ?_
        have ee : c_tg F t w = -1 := by
          unfold c_tg
          (repeat' split) <;> omega
        rw [ee] at k
        exact k
    · refine zp_bipush (pc := 16) d_Md_tag_16 (by decide) ?_
      refine zp_ireturn (pc := 18) d_Md_tag_18 rfl ?_
      have ee : c_tg F t w = -2 := by
        unfold c_tg
        (repeat' split) <;> omega
      rw [ee] at k
      exact k
set_option maxRecDepth 100000 in
theorem sp_Md_count (hE : gOk E) {n : Int} (hJ : J n F) (hn : n ≤ 100000000) {w : Int} (rw_ : gR w) (k : Q (some (.int (zI (c_ct F sn ln w)))) (MH mo h F sn kp g ln)) : Wp E m_Md_count 0 (gEnt m_Md_count [.ref mo, .int (zI w)]) [] (MH mo h F sn kp g ln) Q := by
  have hV := hJ.vd
  have hs := hV.1
  show Wp E m_Md_count 0 [some (_), some (_)] [] _ _
  refine wp_iload_n (pc := 0) d_Md_count_0 rfl ?_
  by_cases k1_0 : w = 0
  · subst w
    refine zp_tableIn (x := 0) (tgt := 88) (pc := 1) d_Md_count_1 ⟨by decide, by decide⟩ (by decide) (by decide) rfl (by decide) ?_
    refine wp_aload_n (pc := 88) d_Md_count_88 rfl ?_
    refine wp_getfield (pc := 89) d_Md_count_89 f_Md_8 MH_o rfl ?_
    refine wp_iload_n (pc := 92) d_Md_count_92 rfl ?_
    refine zp_iaload (pc := 93) d_Md_count_93 hE.1 MH_r (by omega) (by omega) (by decide) ?_
    refine zp_ireturn (pc := 94) d_Md_count_94 rfl ?_
    rw [show c_ct F sn ln 0 = F 0 from by unfold c_ct; (repeat' split) <;> omega] at k
    exact k
  by_cases k1_1 : w = 1
  · subst w
    refine zp_tableIn (x := 1) (tgt := 88) (pc := 1) d_Md_count_1 ⟨by decide, by decide⟩ (by decide) (by decide) rfl (by decide) ?_
    refine wp_aload_n (pc := 88) d_Md_count_88 rfl ?_
    refine wp_getfield (pc := 89) d_Md_count_89 f_Md_8 MH_o rfl ?_
    refine wp_iload_n (pc := 92) d_Md_count_92 rfl ?_
    refine zp_iaload (pc := 93) d_Md_count_93 hE.1 MH_r (by omega) (by omega) (by decide) ?_
    refine zp_ireturn (pc := 94) d_Md_count_94 rfl ?_
    rw [show c_ct F sn ln 1 = F 1 from by unfold c_ct; (repeat' split) <;> omega] at k
    exact k
  by_cases k1_2 : w = 2
  · subst w
    refine zp_tableIn (x := 2) (tgt := 95) (pc := 1) d_Md_count_1 ⟨by decide, by decide⟩ (by decide) (by decide) rfl (by decide) ?_
    refine wp_aload_n (pc := 95) d_Md_count_95 rfl ?_
    refine wv_callV (n := 0) (As := []) (pc := 96) d_Md_count_96 s_Md_149 q_Md_hooks ⟨by decide, by decide⟩ MH_o rfl rfl rfl rfl (Nat.le_of_ble_eq_true rfl) (Nat.le_of_ble_eq_true rfl) ?_
    refine sp_Md_hooks hE (by omega) ?_
    refine ⟨_, rfl, ?_⟩
    refine zp_ireturn (pc := 99) d_Md_count_99 rfl ?_
    rw [show c_ct F sn ln 2 = sH F (F 1).toNat from by unfold c_ct; (repeat' split) <;> omega] at k
    exact k
  by_cases k1_3 : w = 3
  · subst w
    refine zp_tableIn (x := 3) (tgt := 100) (pc := 1) d_Md_count_1 ⟨by decide, by decide⟩ (by decide) (by decide) rfl (by decide) ?_
    refine wp_aload_n (pc := 100) d_Md_count_100 rfl ?_
    refine wv_callV (n := 0) (As := []) (pc := 101) d_Md_count_101 s_Md_30 q_Md_coats ⟨by decide, by decide⟩ MH_o rfl rfl rfl rfl (Nat.le_of_ble_eq_true rfl) (Nat.le_of_ble_eq_true rfl) ?_
    refine sp_Md_coats hE ?_
    refine ⟨_, rfl, ?_⟩
    refine zp_ireturn (pc := 104) d_Md_count_104 rfl ?_
    rw [show c_ct F sn ln 3 = sm (fun x => F (29 + 8 * x + 1)) 60 from by unfold c_ct; (repeat' split) <;> omega] at k
    exact k
  by_cases k1_4 : w = 4
  · subst w
    refine zp_tableIn (x := 4) (tgt := 105) (pc := 1) d_Md_count_1 ⟨by decide, by decide⟩ (by decide) (by decide) rfl (by decide) ?_
    refine wp_aload_n (pc := 105) d_Md_count_105 rfl ?_
    refine wv_callV (n := 0) (As := []) (pc := 106) d_Md_count_106 s_Md_152 q_Md_retired ⟨by decide, by decide⟩ MH_o rfl rfl rfl rfl (Nat.le_of_ble_eq_true rfl) (Nat.le_of_ble_eq_true rfl) ?_
    refine sp_Md_retired hE ?_
    refine ⟨_, rfl, ?_⟩
    refine zp_ireturn (pc := 109) d_Md_count_109 rfl ?_
    rw [show c_ct F sn ln 4 = sm (fun x => F (29 + 8 * x + 5)) 60 from by unfold c_ct; (repeat' split) <;> omega] at k
    exact k
  by_cases k1_5 : w = 5
  · subst w
    refine zp_tableIn (x := 5) (tgt := 110) (pc := 1) d_Md_count_1 ⟨by decide, by decide⟩ (by decide) (by decide) rfl (by decide) ?_
    refine wp_aload_n (pc := 110) d_Md_count_110 rfl ?_
    refine wp_getfield (pc := 111) d_Md_count_111 f_Md_8 MH_o rfl ?_
    refine wp_iload_n (pc := 114) d_Md_count_114 rfl ?_
    refine zp_iaload (pc := 115) d_Md_count_115 hE.1 MH_r (by omega) (by omega) (by decide) ?_
    refine zp_ireturn (pc := 116) d_Md_count_116 rfl ?_
    rw [show c_ct F sn ln 5 = F 5 from by unfold c_ct; (repeat' split) <;> omega] at k
    exact k
  by_cases k1_6 : w = 6
  · subst w
    refine zp_tableIn (x := 6) (tgt := 110) (pc := 1) d_Md_count_1 ⟨by decide, by decide⟩ (by decide) (by decide) rfl (by decide) ?_
    refine wp_aload_n (pc := 110) d_Md_count_110 rfl ?_
    refine wp_getfield (pc := 111) d_Md_count_111 f_Md_8 MH_o rfl ?_
    refine wp_iload_n (pc := 114) d_Md_count_114 rfl ?_
    refine zp_iaload (pc := 115) d_Md_count_115 hE.1 MH_r (by omega) (by omega) (by decide) ?_
    refine zp_ireturn (pc := 116) d_Md_count_116 rfl ?_
    rw [show c_ct F sn ln 6 = F 6 from by unfold c_ct; (repeat' split) <;> omega] at k
    exact k
  by_cases k1_7 : w = 7
  · subst w
    refine zp_tableIn (x := 7) (tgt := 110) (pc := 1) d_Md_count_1 ⟨by decide, by decide⟩ (by decide) (by decide) rfl (by decide) ?_
    refine wp_aload_n (pc := 110) d_Md_count_110 rfl ?_
    refine wp_getfield (pc := 111) d_Md_count_111 f_Md_8 MH_o rfl ?_
    refine wp_iload_n (pc := 114) d_Md_count_114 rfl ?_
    refine zp_iaload (pc := 115) d_Md_count_115 hE.1 MH_r (by omega) (by omega) (by decide) ?_
    refine zp_ireturn (pc := 116) d_Md_count_116 rfl ?_
    rw [show c_ct F sn ln 7 = F 7 from by unfold c_ct; (repeat' split) <;> omega] at k
    exact k
  by_cases k1_8 : w = 8
  · subst w
    refine zp_tableIn (x := 8) (tgt := 110) (pc := 1) d_Md_count_1 ⟨by decide, by decide⟩ (by decide) (by decide) rfl (by decide) ?_
    refine wp_aload_n (pc := 110) d_Md_count_110 rfl ?_
    refine wp_getfield (pc := 111) d_Md_count_111 f_Md_8 MH_o rfl ?_
    refine wp_iload_n (pc := 114) d_Md_count_114 rfl ?_
    refine zp_iaload (pc := 115) d_Md_count_115 hE.1 MH_r (by omega) (by omega) (by decide) ?_
    refine zp_ireturn (pc := 116) d_Md_count_116 rfl ?_
    rw [show c_ct F sn ln 8 = F 8 from by unfold c_ct; (repeat' split) <;> omega] at k
    exact k
  by_cases k1_9 : w = 9
  · subst w
    refine zp_tableIn (x := 9) (tgt := 110) (pc := 1) d_Md_count_1 ⟨by decide, by decide⟩ (by decide) (by decide) rfl (by decide) ?_
    refine wp_aload_n (pc := 110) d_Md_count_110 rfl ?_
    refine wp_getfield (pc := 111) d_Md_count_111 f_Md_8 MH_o rfl ?_
    refine wp_iload_n (pc := 114) d_Md_count_114 rfl ?_
    refine zp_iaload (pc := 115) d_Md_count_115 hE.1 MH_r (by omega) (by omega) (by decide) ?_
    refine zp_ireturn (pc := 116) d_Md_count_116 rfl ?_
    rw [show c_ct F sn ln 9 = F 9 from by unfold c_ct; (repeat' split) <;> omega] at k
    exact k
  by_cases k1_10 : w = 10
  · subst w
    refine zp_tableIn (x := 10) (tgt := 110) (pc := 1) d_Md_count_1 ⟨by decide, by decide⟩ (by decide) (by decide) rfl (by decide) ?_
    refine wp_aload_n (pc := 110) d_Md_count_110 rfl ?_
    refine wp_getfield (pc := 111) d_Md_count_111 f_Md_8 MH_o rfl ?_
    refine wp_iload_n (pc := 114) d_Md_count_114 rfl ?_
    refine zp_iaload (pc := 115) d_Md_count_115 hE.1 MH_r (by omega) (by omega) (by decide) ?_
    refine zp_ireturn (pc := 116) d_Md_count_116 rfl ?_
    rw [show c_ct F sn ln 10 = F 10 from by unfold c_ct; (repeat' split) <;> omega] at k
    exact k
  by_cases k1_11 : w = 11
  · subst w
    refine zp_tableIn (x := 11) (tgt := 110) (pc := 1) d_Md_count_1 ⟨by decide, by decide⟩ (by decide) (by decide) rfl (by decide) ?_
    refine wp_aload_n (pc := 110) d_Md_count_110 rfl ?_
    refine wp_getfield (pc := 111) d_Md_count_111 f_Md_8 MH_o rfl ?_
    refine wp_iload_n (pc := 114) d_Md_count_114 rfl ?_
    refine zp_iaload (pc := 115) d_Md_count_115 hE.1 MH_r (by omega) (by omega) (by decide) ?_
    refine zp_ireturn (pc := 116) d_Md_count_116 rfl ?_
    rw [show c_ct F sn ln 11 = F 11 from by unfold c_ct; (repeat' split) <;> omega] at k
    exact k
  by_cases k1_12 : w = 12
  · subst w
    refine zp_tableIn (x := 12) (tgt := 117) (pc := 1) d_Md_count_1 ⟨by decide, by decide⟩ (by decide) (by decide) rfl (by decide) ?_
    refine wp_aload_n (pc := 117) d_Md_count_117 rfl ?_
    refine wv_callV (n := 0) (As := []) (pc := 118) d_Md_count_118 s_Md_155 q_Md_greatestWay ⟨by decide, by decide⟩ MH_o rfl rfl rfl rfl (Nat.le_of_ble_eq_true rfl) (Nat.le_of_ble_eq_true rfl) ?_
    refine sp_Md_greatestWay hE hV hn hJ.ac ?_
    refine ⟨_, rfl, ?_⟩
    refine zp_ireturn (pc := 121) d_Md_count_121 rfl ?_
    rw [show c_ct F sn ln 12 = gw F 6000 from by unfold c_ct; (repeat' split) <;> omega] at k
    exact k
  by_cases k1_13 : w = 13
  · subst w
    refine zp_tableIn (x := 13) (tgt := 122) (pc := 1) d_Md_count_1 ⟨by decide, by decide⟩ (by decide) (by decide) rfl (by decide) ?_
    refine wp_aload_n (pc := 122) d_Md_count_122 rfl ?_
    refine wp_getfield (pc := 123) d_Md_count_123 f_Md_8 MH_o rfl ?_
    refine wp_iload_n (pc := 126) d_Md_count_126 rfl ?_
    refine zp_bipush (pc := 127) d_Md_count_127 (by decide) ?_
    refine zp_isub (pc := 129) d_Md_count_129 ?_
    refine zp_iaload (pc := 130) d_Md_count_130 hE.1 MH_r (by omega) (by omega) (by decide) ?_
    refine zp_ireturn (pc := 131) d_Md_count_131 rfl ?_
    rw [show c_ct F sn ln 13 = F (13 - 11) from by unfold c_ct; (repeat' split) <;> omega] at k
    exact k
  by_cases k1_14 : w = 14
  · subst w
    refine zp_tableIn (x := 14) (tgt := 122) (pc := 1) d_Md_count_1 ⟨by decide, by decide⟩ (by decide) (by decide) rfl (by decide) ?_
    refine wp_aload_n (pc := 122) d_Md_count_122 rfl ?_
    refine wp_getfield (pc := 123) d_Md_count_123 f_Md_8 MH_o rfl ?_
    refine wp_iload_n (pc := 126) d_Md_count_126 rfl ?_
    refine zp_bipush (pc := 127) d_Md_count_127 (by decide) ?_
    refine zp_isub (pc := 129) d_Md_count_129 ?_
    refine zp_iaload (pc := 130) d_Md_count_130 hE.1 MH_r (by omega) (by omega) (by decide) ?_
    refine zp_ireturn (pc := 131) d_Md_count_131 rfl ?_
    rw [show c_ct F sn ln 14 = F (14 - 11) from by unfold c_ct; (repeat' split) <;> omega] at k
    exact k
  by_cases k1_15 : w = 15
  · subst w
    refine zp_tableIn (x := 15) (tgt := 122) (pc := 1) d_Md_count_1 ⟨by decide, by decide⟩ (by decide) (by decide) rfl (by decide) ?_
    refine wp_aload_n (pc := 122) d_Md_count_122 rfl ?_
    refine wp_getfield (pc := 123) d_Md_count_123 f_Md_8 MH_o rfl ?_
    refine wp_iload_n (pc := 126) d_Md_count_126 rfl ?_
    refine zp_bipush (pc := 127) d_Md_count_127 (by decide) ?_
    refine zp_isub (pc := 129) d_Md_count_129 ?_
    refine zp_iaload (pc := 130) d_Md_count_130 hE.1 MH_r (by omega) (by omega) (by decide) ?_
    refine zp_ireturn (pc := 131) d_Md_count_131 rfl ?_
    rw [show c_ct F sn ln 15 = F (15 - 11) from by unfold c_ct; (repeat' split) <;> omega] at k
    exact k
  by_cases k1_16 : w = 16
  · subst w
    refine zp_tableIn (x := 16) (tgt := 132) (pc := 1) d_Md_count_1 ⟨by decide, by decide⟩ (by decide) (by decide) rfl (by decide) ?_
    refine wp_aload_n (pc := 132) d_Md_count_132 rfl ?_
    refine wp_getfield (pc := 133) d_Md_count_133 f_Md_17 MH_o rfl ?_
    refine zp_ireturn (pc := 136) d_Md_count_136 rfl ?_
    rw [show c_ct F sn ln 16 = sn from by unfold c_ct; (repeat' split) <;> omega] at k
    exact k
  by_cases k1_17 : w = 17
  · subst w
    refine zp_tableIn (x := 17) (tgt := 137) (pc := 1) d_Md_count_1 ⟨by decide, by decide⟩ (by decide) (by decide) rfl (by decide) ?_
    refine wp_aload_n (pc := 137) d_Md_count_137 rfl ?_
    refine wp_getfield (pc := 138) d_Md_count_138 f_Md_140 MH_o rfl ?_
    refine zp_ireturn (pc := 141) d_Md_count_141 rfl ?_
    rw [show c_ct F sn ln 17 = ln from by unfold c_ct; (repeat' split) <;> omega] at k
    exact k
  refine zp_tableOut (tgt := 142) (pc := 1) d_Md_count_1 rw_ (by omega) (by decide) ?_
  refine zp_bipush (pc := 142) d_Md_count_142 (by decide) ?_
  refine zp_ireturn (pc := 144) d_Md_count_144 rfl ?_
  rw [show c_ct F sn ln w = -2 from by unfold c_ct; (repeat' split) <;> omega] at k
  exact k
set_option maxRecDepth 100000 in
theorem lp_Md_shorten2 (hE : gOk E) (hB : gB E ≤ mo) {n : Int} (hJ : J n F) (hn : n ≤ 100000000) (k : Q (some (.int (zI (nSh F 6000)))) (MH mo h (shF F 6000) sn kp g ln)) : ∀ (d i : Nat), i + d = 6000 → Wp E m_Md_shorten 48 [some (.ref mo), some (.int (zI (nSh F 6000))), some (.int (zI i))] [] (MH mo h (shF F i) sn kp g ln) Q := by
  intro d
  induction d with
  | zero =>
    intro i hi
    obtain rfl : i = 6000 := by omega
    refine wp_iload_n (pc := 48) d_Md_shorten_48 rfl ?_
    refine zp_sipush (pc := 49) d_Md_shorten_49 (by decide) ?_
    refine zp_icmp_ge (tgt := 106) (pc := 52) d_Md_shorten_52 (by decide) ⟨by omega, by omega⟩ ⟨by omega, by omega⟩ (fun c52 => ?_) (fun c52 => absurd c52 (by omega))
    refine wp_iload_n (pc := 106) d_Md_shorten_106 rfl ?_
    refine zp_ireturn (pc := 107) d_Md_shorten_107 rfl ?_
    exact k
  | succ d ih =>
    intro i hi
    have hB1 : gB E ≤ mo + 1 := by omega
    have e : ((i + 1 : Nat) : Int) = (i : Int) + 1 := by omega
    have hA := hJ.ac
    have zz := ih (i + 1) (by omega)
    rw [e, shF_s (by omega)] at zz
    have hVs := (shF_Vb hJ.1 hA i).vd
    have hAs := shF_AC (i := i) hA
    have hls := shF_la (i := (i : Int)) hA (x := (i : Int)) (by omega) (by omega)
    have hwb := wy_b hVs hAs (x := (i : Int)) (by omega) (by omega)
    have hlb := hA.b (x := (i : Int)) (by omega) (by omega)
    have hws := hls.2 (by omega)
    have h559 : shF F i (559 + (i : Int)) = F (559 + (i : Int)) := shF_lo (by omega)
    have hh := hJ.vd.2.2.2.2.2.2 (i : Int) (by omega) (by omega)
    refine wp_iload_n (pc := 48) d_Md_shorten_48 rfl ?_
    refine zp_sipush (pc := 49) d_Md_shorten_49 (by decide) ?_
    refine zp_icmp_ge (tgt := 106) (pc := 52) d_Md_shorten_52 (by decide) ⟨by omega, by omega⟩ ⟨by omega, by omega⟩ (fun c52 => absurd c52 (by omega)) (fun c52 => ?_)
    refine wp_aload_n (pc := 55) d_Md_shorten_55 rfl ?_
    refine wp_iload_n (pc := 56) d_Md_shorten_56 rfl ?_
    refine wv_callV (n := 1) (As := [_]) (pc := 57) d_Md_shorten_57 s_Md_134 q_Md_wayOf ⟨by decide, by decide⟩ MH_o rfl rfl rfl rfl (Nat.le_of_ble_eq_true rfl) (Nat.le_of_ble_eq_true rfl) ?_
    refine sp_Md_wayOf hE hVs hn hAs (by omega) (by omega) ?_
    refine ⟨_, rfl, ?_⟩
    refine wp_iconst (pc := 60) d_Md_shorten_60 ?_
    refine zp_icmp_le (tgt := 100) (pc := 61) d_Md_shorten_61 (by decide) ⟨by omega, by omega⟩ ⟨by omega, by omega⟩ (fun c61 => ?_) (fun c61 => ?_)
    · refine st_c2 (pc := 100) d_Md_shorten_100 (by decide) ?_
      refine wp_goto (tgt := 48) (pc := 103) d_Md_shorten_103 (by decide) ?_
      first | (rw [if_pos (by omega)] at zz; exact zz) | (rw [if_neg (by omega)] at zz; exact zz)
    · refine wp_aload_n (pc := 64) d_Md_shorten_64 rfl ?_
      refine wp_getfield (pc := 65) d_Md_shorten_65 f_Md_8 MH_o rfl ?_
      refine zp_sipush (pc := 68) d_Md_shorten_68 (by decide) ?_
      refine wp_iload_n (pc := 71) d_Md_shorten_71 rfl ?_
      refine zp_iadd (pc := 72) d_Md_shorten_72 ?_
      refine wp_aload_n (pc := 73) d_Md_shorten_73 rfl ?_
      refine wp_getfield (pc := 74) d_Md_shorten_74 f_Md_8 MH_o rfl ?_
      refine zp_sipush (pc := 77) d_Md_shorten_77 (by decide) ?_
      refine wp_iload_n (pc := 80) d_Md_shorten_80 rfl ?_
      refine zp_iadd (pc := 81) d_Md_shorten_81 ?_
      refine zp_iaload (pc := 82) d_Md_shorten_82 hE.1 MH_r (by omega) (by omega) (by decide) ?_
      rw [h559]
      refine zp_sipush (pc := 83) d_Md_shorten_83 (by decide) ?_
      refine zp_irem (pc := 86) d_Md_shorten_86 (by omega) (by omega) (by omega) (by omega) ?_
      refine zp_sipush (pc := 87) d_Md_shorten_87 (by decide) ?_
      refine wp_aload_n (pc := 90) d_Md_shorten_90 rfl ?_
      refine wp_iload_n (pc := 91) d_Md_shorten_91 rfl ?_
      refine wv_callV (n := 1) (As := [_]) (pc := 92) d_Md_shorten_92 s_Md_76 q_Md_lastOf ⟨by decide, by decide⟩ MH_o rfl rfl rfl rfl (Nat.le_of_ble_eq_true rfl) (Nat.le_of_ble_eq_true rfl) ?_
      refine sp_Md_lastOf hE hVs hAs (by omega) (by omega) ?_
      refine ⟨_, rfl, ?_⟩
      rw [hls.1]
      refine wp_iconst (pc := 95) d_Md_shorten_95 ?_
      refine zp_iadd (pc := 96) d_Md_shorten_96 ?_
      refine zp_imul (pc := 97) d_Md_shorten_97 ?_
      refine zp_iadd (pc := 98) d_Md_shorten_98 ?_
      refine zp_iastore (pc := 99) d_Md_shorten_99 hE.1 MH_r hB1 (by omega) (by omega) (by decide) ?_
      rw [MH_pr]
      refine st_c2 (pc := 100) d_Md_shorten_100 (by decide) ?_
      refine wp_goto (tgt := 48) (pc := 103) d_Md_shorten_103 (by decide) ?_
      first | (rw [if_pos (by omega)] at zz; exact zz) | (rw [if_neg (by omega)] at zz; exact zz)
set_option maxRecDepth 100000 in
theorem lp_Md_shorten1 (hE : gOk E) (hB : gB E ≤ mo) {n : Int} (hJ : J n F) (hn : n ≤ 100000000) (k : Wp E m_Md_shorten 34 [some (.ref mo), some (.int (zI (nSh F 6000))), some (.int (zI 6000))] [] (MH mo h F sn kp g ln) Q) : ∀ (d i : Nat), i + d = 6000 → Wp E m_Md_shorten 4 [some (.ref mo), some (.int (zI (nSh F i))), some (.int (zI i))] [] (MH mo h F sn kp g ln) Q := by
  intro d
  induction d with
  | zero =>
    intro i hi
    obtain rfl : i = 6000 := by omega
    refine wp_iload_n (pc := 4) d_Md_shorten_4 rfl ?_
    refine zp_sipush (pc := 5) d_Md_shorten_5 (by decide) ?_
    refine zp_icmp_ge (tgt := 34) (pc := 8) d_Md_shorten_8 (by decide) ⟨by omega, by omega⟩ ⟨by omega, by omega⟩ (fun c8 => ?_) (fun c8 => absurd c8 (by omega))
    exact k
  | succ d ih =>
    intro i hi
    have e : ((i + 1 : Nat) : Int) = (i : Int) + 1 := by omega
    have hV := hJ.vd
    have hwb := wy_b hV hJ.ac (x := (i : Int)) (by omega) (by omega)
    have zz := ih (i + 1) (by omega)
    rw [e, nSh_s] at zz
    refine wp_iload_n (pc := 4) d_Md_shorten_4 rfl ?_
    refine zp_sipush (pc := 5) d_Md_shorten_5 (by decide) ?_
    refine zp_icmp_ge (tgt := 34) (pc := 8) d_Md_shorten_8 (by decide) ⟨by omega, by omega⟩ ⟨by omega, by omega⟩ (fun c8 => absurd c8 (by omega)) (fun c8 => ?_)
    refine wp_iload_n (pc := 11) d_Md_shorten_11 rfl ?_
    refine wp_aload_n (pc := 12) d_Md_shorten_12 rfl ?_
    refine wp_iload_n (pc := 13) d_Md_shorten_13 rfl ?_
    refine wv_callV (n := 1) (As := [_]) (pc := 14) d_Md_shorten_14 s_Md_134 q_Md_wayOf ⟨by decide, by decide⟩ MH_o rfl rfl rfl rfl (Nat.le_of_ble_eq_true rfl) (Nat.le_of_ble_eq_true rfl) ?_
    refine sp_Md_wayOf hE hV hn hJ.ac (by omega) (by omega) ?_
    refine ⟨_, rfl, ?_⟩
    refine wp_iconst (pc := 17) d_Md_shorten_17 ?_
    refine zp_icmp_le (tgt := 25) (pc := 18) d_Md_shorten_18 (by decide) ⟨by omega, by omega⟩ ⟨by omega, by omega⟩ (fun c18 => ?_) (fun c18 => ?_)
    · refine wp_iconst (pc := 25) d_Md_shorten_25 ?_
      refine zp_iadd (pc := 26) d_Md_shorten_26 ?_
      refine st_i1 (pc := 27) d_Md_shorten_27 (by decide) ?_
      refine st_c2 (pc := 28) d_Md_shorten_28 (by decide) ?_
      refine wp_goto (tgt := 4) (pc := 31) d_Md_shorten_31 (by decide) ?_
      first | (rw [bI_t (by omega)] at zz; exact zz) | (rw [bI_f (by omega)] at zz; exact zz)
    · refine wp_iconst (pc := 21) d_Md_shorten_21 ?_
      refine wp_goto (tgt := 26) (pc := 22) d_Md_shorten_22 (by decide) ?_
      refine zp_iadd (pc := 26) d_Md_shorten_26 ?_
      refine st_i1 (pc := 27) d_Md_shorten_27 (by decide) ?_
      refine st_c2 (pc := 28) d_Md_shorten_28 (by decide) ?_
      refine wp_goto (tgt := 4) (pc := 31) d_Md_shorten_31 (by decide) ?_
      first | (rw [bI_t (by omega)] at zz; exact zz) | (rw [bI_f (by omega)] at zz; exact zz)
set_option maxRecDepth 100000 in
theorem sp_Md_shorten (hE : gOk E) (hB : gB E ≤ mo) {n : Int} (hJ : J n F) (hn : n ≤ 100000000) (hs0 : 0 ≤ sn) (hs1 : sn ≤ 4) (k0 : c_sh F < 0 → Q (some (.int (zI (c_sh F)))) (MH mo h F sn kp g ln)) (k1 : ¬ c_sh F < 0 → Q (some (.int (zI (c_sh F)))) (MH mo h (shF (rcF F sn 0) 6000) (rcS sn) kp g ln)) : Wp E m_Md_shorten 0 (gEnt m_Md_shorten [.ref mo]) [] (MH mo h F sn kp g ln) Q := by
  show Wp E m_Md_shorten 0 [some (_), none, none] [] _ _
  have hV := hJ.vd
  have hs := hV.1
  have hnb := nSh_b F 6000
  have hB1 : gB E ≤ mo + 1 := by omega
  refine wp_iconst (pc := 0) d_Md_shorten_0 ?_
  refine st_i1 (pc := 1) d_Md_shorten_1 (by decide) ?_
  refine wp_iconst (pc := 2) d_Md_shorten_2 ?_
  refine st_i2 (pc := 3) d_Md_shorten_3 (by decide) ?_
  refine lp_Md_shorten1 hE hB hJ hn ?_ 6000 0 rfl
  refine wp_iload_n (pc := 34) d_Md_shorten_34 rfl ?_
  refine zp_if_ne (tgt := 41) (pc := 35) d_Md_shorten_35 (by decide) ⟨by omega, by omega⟩ (fun c35 => ?_) (fun c35 => ?_)
  · refine wp_aload_n (pc := 41) d_Md_shorten_41 rfl ?_
    refine wp_iconst (pc := 42) d_Md_shorten_42 ?_
    refine wn_callV (n := 1) (As := [_]) (pc := 43) d_Md_shorten_43 s_Md_34 q_Md_record ⟨by decide, by decide⟩ MH_o rfl rfl rfl rfl (Nat.le_of_ble_eq_true rfl) (Nat.le_of_ble_eq_true rfl) ?_
    refine sp_Md_record hE hB (Or.inl rfl) hs0 hs1 ?_
    refine ⟨rfl, ?_⟩
    have hlo : ∀ j : Int, j < 6559 → rcF F sn 0 j = F j := fun j hj => rcF_lo hs0 hs1 hj
    have hJG := rcF_J (b := 0) hs0 hs1 hJ
    generalize hG : rcF F sn 0 = G at hlo hJG ⊢
    refine wp_iconst (pc := 46) d_Md_shorten_46 ?_
    refine st_i2 (pc := 47) d_Md_shorten_47 (by decide) ?_
    have en : nSh F 6000 = nSh G 6000 := (ag_nSh hJ (fun j hj => hlo j hj) 6000 (by omega)).symm
    rw [en]
    have zz := lp_Md_shorten2 (mo := mo) (h := h) (sn := rcS sn) (kp := kp) (g := g) (ln := ln) (Q := Q) hE hB hJG hn ?_ 6000 0 rfl
    · rw [show ((0 : Nat) : Int) = 0 from rfl, shF_0] at zz
      exact zz
    · rw [hG] at k1
      have ee : c_sh F = nSh G 6000 := by
        rw [← en]
        unfold c_sh
        (repeat' split) <;> omega
      have z := k1 (by rw [ee]; omega)
      rw [ee] at z
      exact z
  · refine zp_bipush (pc := 38) d_Md_shorten_38 (by decide) ?_
    refine zp_ireturn (pc := 40) d_Md_shorten_40 rfl ?_
    have ee : c_sh F = -5 := by
      unfold c_sh
      (repeat' split) <;> omega
    have z := k0 (by omega)
    rw [ee] at z
    exact z
end S28
