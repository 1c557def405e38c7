/-! ===== the reference: racks, guests, moves, days ===== -/
section S25
variable {E : gE} {mo : Nat} {h : gH} {F g : Int → Int} {sn kp ln : Int} {Q : Option Value → gH → Prop}
set_option maxRecDepth 100000 in
theorem lp_Md_rack (hE : gOk E) {n : Int} (hJ : J n F) (hn : n ≤ 100000000) {r w : Int} (rw_ : gR w) (hr0 : 0 ≤ r) (hr1 : r ≤ F 1 - 1) (k : Q (some (.int (zI (c_rk F r w)))) (MH mo h F sn kp g ln)) : ∀ (d i : Nat), i + d = 12 → Wp E m_Md_rack 21 [some (.ref mo), some (.int (zI r)), some (.int (zI w)), some (.int (zI (sm (fun y => F (29 + 8 * (12 * r + y) + 5)) i))), some (.int (zI (sm (fun y => F (29 + 8 * (12 * r + y) + 0)) i))), some (.int (zI (12 * r + i)))] [] (MH mo h F sn kp g ln) Q := by
  intro d
  induction d with
  | zero =>
    intro i hi
    have hV := hJ.vd
    have hs := hV.1
    obtain rfl : i = 12 := by omega
    refine wp_iload (pc := 21) d_Md_rack_21 rfl ?_
    refine zp_bipush (pc := 23) d_Md_rack_23 (by decide) ?_
    refine wp_iload_n (pc := 25) d_Md_rack_25 rfl ?_
    refine zp_imul (pc := 26) d_Md_rack_26 ?_
    refine zp_bipush (pc := 27) d_Md_rack_27 (by decide) ?_
    refine zp_iadd (pc := 29) d_Md_rack_29 ?_
    refine zp_icmp_ge (tgt := 69) (pc := 30) d_Md_rack_30 (by decide) ⟨by omega, by omega⟩ ⟨by omega, by omega⟩ (fun c30 => ?_) (fun c30 => absurd c30 (by omega))
    refine wp_iload_n (pc := 69) d_Md_rack_69 rfl ?_
    by_cases k70_0 : w = 0
    · subst w
      refine zp_tableIn (x := 0) (tgt := 108) (pc := 70) d_Md_rack_70 ⟨by decide, by decide⟩ (by decide) (by decide) rfl (by decide) ?_
      refine wp_aload_n (pc := 108) d_Md_rack_108 rfl ?_
      refine wp_getfield (pc := 109) d_Md_rack_109 f_Md_8 MH_o rfl ?_
      refine wp_iload_n (pc := 112) d_Md_rack_112 rfl ?_
      refine wp_iload_n (pc := 113) d_Md_rack_113 rfl ?_
      refine wv_callS (n := 2) (As := [_, _]) (pc := 114) d_Md_rack_114 s_Md_46 q_Md_ofRack ⟨by decide, by decide⟩ rfl rfl rfl (Nat.le_of_ble_eq_true rfl) (Nat.le_of_ble_eq_true rfl) ?_
      refine sp_Md_ofRack ?_
      refine ⟨_, rfl, ?_⟩
      refine zp_iaload (pc := 117) d_Md_rack_117 hE.1 MH_r (by omega) (by omega) (by decide) ?_
      refine zp_ireturn (pc := 118) d_Md_rack_118 rfl ?_
      have ee : c_rk F r 0 = F (14 + 3 * r + 0) := by
        unfold c_rk
        (repeat' split) <;> omega
      rw [ee] at k
      exact k
    by_cases k70_1 : w = 1
    · subst w
      refine zp_tableIn (x := 1) (tgt := 108) (pc := 70) d_Md_rack_70 ⟨by decide, by decide⟩ (by decide) (by decide) rfl (by decide) ?_
      refine wp_aload_n (pc := 108) d_Md_rack_108 rfl ?_
      refine wp_getfield (pc := 109) d_Md_rack_109 f_Md_8 MH_o rfl ?_
      refine wp_iload_n (pc := 112) d_Md_rack_112 rfl ?_
      refine wp_iload_n (pc := 113) d_Md_rack_113 rfl ?_
      refine wv_callS (n := 2) (As := [_, _]) (pc := 114) d_Md_rack_114 s_Md_46 q_Md_ofRack ⟨by decide, by decide⟩ rfl rfl rfl (Nat.le_of_ble_eq_true rfl) (Nat.le_of_ble_eq_true rfl) ?_
      refine sp_Md_ofRack ?_
      refine ⟨_, rfl, ?_⟩
      refine zp_iaload (pc := 117) d_Md_rack_117 hE.1 MH_r (by omega) (by omega) (by decide) ?_
      refine zp_ireturn (pc := 118) d_Md_rack_118 rfl ?_
      have ee : c_rk F r 1 = F (14 + 3 * r + 1) := by
        unfold c_rk
        (repeat' split) <;> omega
      rw [ee] at k
      exact k
    by_cases k70_2 : w = 2
    · subst w
      refine zp_tableIn (x := 2) (tgt := 108) (pc := 70) d_Md_rack_70 ⟨by decide, by decide⟩ (by decide) (by decide) rfl (by decide) ?_
      refine wp_aload_n (pc := 108) d_Md_rack_108 rfl ?_
      refine wp_getfield (pc := 109) d_Md_rack_109 f_Md_8 MH_o rfl ?_
      refine wp_iload_n (pc := 112) d_Md_rack_112 rfl ?_
      refine wp_iload_n (pc := 113) d_Md_rack_113 rfl ?_
      refine wv_callS (n := 2) (As := [_, _]) (pc := 114) d_Md_rack_114 s_Md_46 q_Md_ofRack ⟨by decide, by decide⟩ rfl rfl rfl (Nat.le_of_ble_eq_true rfl) (Nat.le_of_ble_eq_true rfl) ?_
      refine sp_Md_ofRack ?_
      refine ⟨_, rfl, ?_⟩
      refine zp_iaload (pc := 117) d_Md_rack_117 hE.1 MH_r (by omega) (by omega) (by decide) ?_
      refine zp_ireturn (pc := 118) d_Md_rack_118 rfl ?_
      have ee : c_rk F r 2 = F (14 + 3 * r + 2) := by
        unfold c_rk
        (repeat' split) <;> omega
      rw [ee] at k
      exact k
    by_cases k70_3 : w = 3
    · subst w
      refine zp_tableIn (x := 3) (tgt := 119) (pc := 70) d_Md_rack_70 ⟨by decide, by decide⟩ (by decide) (by decide) rfl (by decide) ?_
      refine wp_aload_n (pc := 119) d_Md_rack_119 rfl ?_
      refine wp_iload_n (pc := 120) d_Md_rack_120 rfl ?_
      refine wv_callV (n := 1) (As := [_]) (pc := 121) d_Md_rack_121 s_Md_59 q_Md_coatsOn ⟨by decide, by decide⟩ MH_o rfl rfl rfl rfl (Nat.le_of_ble_eq_true rfl) (Nat.le_of_ble_eq_true rfl) ?_
      refine sp_Md_coatsOn hE (by omega) (by omega) ?_
      refine ⟨_, rfl, ?_⟩
      refine zp_ireturn (pc := 124) d_Md_rack_124 rfl ?_
      rw [show c_rk F r 3 = sC F r from by unfold c_rk; (repeat' split) <;> omega] at k
      exact k
    by_cases k70_4 : w = 4
    · subst w
      refine zp_tableIn (x := 4) (tgt := 125) (pc := 70) d_Md_rack_70 ⟨by decide, by decide⟩ (by decide) (by decide) rfl (by decide) ?_
      refine wp_iload_n (pc := 125) d_Md_rack_125 rfl ?_
      refine zp_ireturn (pc := 126) d_Md_rack_126 rfl ?_
      rw [show c_rk F r 4 = sm (fun y => F (29 + 8 * (12 * r + y) + 5)) 12 from by unfold c_rk; (repeat' split) <;> omega] at k
      exact k
    by_cases k70_5 : w = 5
    · subst w
      refine zp_tableIn (x := 5) (tgt := 127) (pc := 70) d_Md_rack_70 ⟨by decide, by decide⟩ (by decide) (by decide) rfl (by decide) ?_
      refine wp_iload (pc := 127) d_Md_rack_127 rfl ?_
      refine zp_ireturn (pc := 129) d_Md_rack_129 rfl ?_
      rw [show c_rk F r 5 = sm (fun y => F (29 + 8 * (12 * r + y) + 0)) 12 from by unfold c_rk; (repeat' split) <;> omega] at k
      exact k
    refine zp_tableOut (tgt := 130) (pc := 70) d_Md_rack_70 rw_ (by omega) (by decide) ?_
    refine zp_bipush (pc := 130) d_Md_rack_130 (by decide) ?_
    refine zp_ireturn (pc := 132) d_Md_rack_132 rfl ?_
    have ee : c_rk F r w = -2 := by
      unfold c_rk
      (repeat' split) <;> omega
    rw [ee] at k
    exact k
  | succ d ih =>
    intro i hi
    have hV := hJ.vd
    have hs := hV.1
    refine wp_iload (pc := 21) d_Md_rack_21 rfl ?_
    refine zp_bipush (pc := 23) d_Md_rack_23 (by decide) ?_
    refine wp_iload_n (pc := 25) d_Md_rack_25 rfl ?_
    refine zp_imul (pc := 26) d_Md_rack_26 ?_
    refine zp_bipush (pc := 27) d_Md_rack_27 (by decide) ?_
    refine zp_iadd (pc := 29) d_Md_rack_29 ?_
    refine zp_icmp_ge (tgt := 69) (pc := 30) d_Md_rack_30 (by decide) ⟨by omega, by omega⟩ ⟨by omega, by omega⟩ (fun c30 => absurd c30 (by omega)) (fun c30 => ?_)
    refine wp_iload_n (pc := 33) d_Md_rack_33 rfl ?_
    refine wp_aload_n (pc := 34) d_Md_rack_34 rfl ?_
    refine wp_getfield (pc := 35) d_Md_rack_35 f_Md_8 MH_o rfl ?_
    refine wp_iload (pc := 38) d_Md_rack_38 rfl ?_
    refine wp_iconst (pc := 40) d_Md_rack_40 ?_
    refine wv_callS (n := 2) (As := [_, _]) (pc := 41) d_Md_rack_41 s_Md_50 q_Md_of ⟨by decide, by decide⟩ rfl rfl rfl (Nat.le_of_ble_eq_true rfl) (Nat.le_of_ble_eq_true rfl) ?_
    refine sp_Md_of ?_
    refine ⟨_, rfl, ?_⟩
    refine zp_iaload (pc := 44) d_Md_rack_44 hE.1 MH_r (by omega) (by omega) (by decide) ?_
    refine zp_iadd (pc := 45) d_Md_rack_45 ?_
    refine st_i3 (pc := 46) d_Md_rack_46 (by decide) ?_
    refine wp_iload (pc := 47) d_Md_rack_47 rfl ?_
    refine wp_aload_n (pc := 49) d_Md_rack_49 rfl ?_
    refine wp_getfield (pc := 50) d_Md_rack_50 f_Md_8 MH_o rfl ?_
    refine wp_iload (pc := 53) d_Md_rack_53 rfl ?_
    refine wp_iconst (pc := 55) d_Md_rack_55 ?_
    refine wv_callS (n := 2) (As := [_, _]) (pc := 56) d_Md_rack_56 s_Md_50 q_Md_of ⟨by decide, by decide⟩ rfl rfl rfl (Nat.le_of_ble_eq_true rfl) (Nat.le_of_ble_eq_true rfl) ?_
    refine sp_Md_of ?_
    refine ⟨_, rfl, ?_⟩
    refine zp_iaload (pc := 59) d_Md_rack_59 hE.1 MH_r (by omega) (by omega) (by decide) ?_
    refine zp_iadd (pc := 60) d_Md_rack_60 ?_
    refine st_i4 (pc := 61) d_Md_rack_61 (by decide) ?_
    refine st_c5 (pc := 63) d_Md_rack_63 (by decide) ?_
    refine wp_goto (tgt := 21) (pc := 66) d_Md_rack_66 (by decide) ?_
    have e : ((i + 1 : Nat) : Int) = (i : Int) + 1 := by omega
    have zz := ih (i + 1) (by omega)
    rw [e] at zz
    rw [show 12 * r + ((i : Int) + 1) = 12 * r + i + 1 by omega] at zz
    exact zz
set_option maxRecDepth 100000 in
theorem sp_Md_rack (hE : gOk E) {n : Int} (hJ : J n F) (hn : n ≤ 100000000) {r w : Int} (rr : gR r) (rw_ : gR w) (k : Q (some (.int (zI (c_rk F r w)))) (MH mo h F sn kp g ln)) : Wp E m_Md_rack 0 (gEnt m_Md_rack [.ref mo, .int (zI r), .int (zI w)]) [] (MH mo h F sn kp g ln) Q := by
  have hV := hJ.vd
  have hs := hV.1
  show Wp E m_Md_rack 0 [some (_), some (_), some (_), none, none, none] [] _ _
  refine wp_aload_n (pc := 0) d_Md_rack_0 rfl ?_
  refine wp_iload_n (pc := 1) d_Md_rack_1 rfl ?_
  refine wv_callV (n := 1) (As := [_]) (pc := 2) d_Md_rack_2 s_Md_42 q_Md_isRack ⟨by decide, by decide⟩ MH_o rfl rfl rfl rfl (Nat.le_of_ble_eq_true rfl) (Nat.le_of_ble_eq_true rfl) ?_
  refine sp_Md_isRack hE rr (by omega) ?_
  refine ⟨_, rfl, ?_⟩
  refine zp_ifb_ne (tgt := 10) (pc := 5) d_Md_rack_5 (by decide) (fun c5 => ?_) (fun c5 => ?_)
  · refine wp_iconst (pc := 10) d_Md_rack_10 ?_
    refine st_i3 (pc := 11) d_Md_rack_11 (by decide) ?_
    refine wp_iconst (pc := 12) d_Md_rack_12 ?_
    refine st_i4 (pc := 13) d_Md_rack_13 (by decide) ?_
    refine zp_bipush (pc := 15) d_Md_rack_15 (by decide) ?_
    refine wp_iload_n (pc := 17) d_Md_rack_17 rfl ?_
    refine zp_imul (pc := 18) d_Md_rack_18 ?_
    refine st_i5 (pc := 19) d_Md_rack_19 (by decide) ?_
    have zz := lp_Md_rack (mo := mo) (h := h) hE hJ hn rw_ (by omega) (by omega) k 12 0 rfl
    rw [show 12 * r + ((0 : Nat) : Int) = 12 * r by omega] at zz
    exact zz
  · refine wp_iconst (pc := 8) d_Md_rack_8 ?_
    refine zp_ireturn (pc := 9) d_Md_rack_9 rfl ?_
    have ee : c_rk F r w = -1 := by
      unfold c_rk
      (repeat' split) <;> omega
    rw [ee] at k
    exact k
set_option maxRecDepth 100000 in
theorem lp_Md_guest (hE : gOk E) {n : Int} (hJ : J n F) (hn : n ≤ 100000000) {y w : Int} (rw_ : gR w) (hy0 : 0 ≤ y) (hy1 : y ≤ 19) (k : Q (some (.int (zI (c_gs F y w)))) (MH mo h F sn kp g ln)) : ∀ (d i : Nat) (o6 : Option Value), i + d = 60 → Wp E m_Md_guest 17 [some (.ref mo), some (.int (zI y)), some (.int (zI w)), some (.int (zI (cGv F y i))), some (.int (zI (sD F y i))), some (.int (zI i)), o6] [] (MH mo h F sn kp g ln) Q := by
  intro d
  induction d with
  | zero =>
    intro i o6 hi
    have hV := hJ.vd
    have hs := hV.1
    obtain rfl : i = 60 := by omega
    refine wp_iload (pc := 17) d_Md_guest_17 rfl ?_
    refine zp_bipush (pc := 19) d_Md_guest_19 (by decide) ?_
    refine zp_icmp_ge (tgt := 94) (pc := 21) d_Md_guest_21 (by decide) ⟨by omega, by omega⟩ ⟨by omega, by omega⟩ (fun c21 => ?_) (fun c21 => absurd c21 (by omega))
    refine wp_iload_n (pc := 94) d_Md_guest_94 rfl ?_
    refine zp_if_ne (tgt := 102) (pc := 95) d_Md_guest_95 (by decide) ⟨by omega, by omega⟩ (fun c95 => ?_) (fun c95 => ?_)
    · refine wp_iload_n (pc := 102) d_Md_guest_102 rfl ?_
      refine wp_iconst (pc := 103) d_Md_guest_103 ?_
      refine zp_icmp_ne (tgt := 112) (pc := 104) d_Md_guest_104 (by decide) ⟨by omega, by omega⟩ ⟨by omega, by omega⟩ (fun c104 => ?_) (fun c104 => ?_)
      · refine wp_iload_n (pc := 112) d_Md_guest_112 rfl ?_
        refine wp_iconst (pc := 113) d_Md_guest_113 ?_
        refine zp_icmp_ne (tgt := 130) (pc := 114) d_Md_guest_114 (by decide) ⟨by omega, by omega⟩ ⟨by omega, by omega⟩ (fun c114 => ?_) (fun c114 => ?_)
        · refine zp_bipush (pc := 130) d_Md_guest_130 (by decide) ?_
          refine zp_ireturn (pc := 132) d_Md_guest_132 rfl ?_
          have ee : c_gs F y w = -2 := by
            unfold c_gs
            (repeat' split) <;> omega
          rw [ee] at k
          exact k
        · refine wp_aload_n (pc := 117) d_Md_guest_117 rfl ?_
          refine wp_getfield (pc := 118) d_Md_guest_118 f_Md_8 MH_o rfl ?_
          refine zp_sipush (pc := 121) d_Md_guest_121 (by decide) ?_
          refine wp_iload_n (pc := 124) d_Md_guest_124 rfl ?_
          refine zp_iadd (pc := 125) d_Md_guest_125 ?_
          refine zp_iaload (pc := 126) d_Md_guest_126 hE.1 MH_r (by omega) (by omega) (by decide) ?_
          refine wp_goto (tgt := 132) (pc := 127) d_Md_guest_127 (by decide) ?_
          refine zp_ireturn (pc := 132) d_Md_guest_132 rfl ?_
          have ee : c_gs F y w = F (509 + y) := by
            unfold c_gs
            (repeat' split) <;> omega
          rw [ee] at k
          exact k
      · refine wp_iload (pc := 107) d_Md_guest_107 rfl ?_
        refine wp_goto (tgt := 132) (pc := 109) d_Md_guest_109 (by decide) ?_
        refine zp_ireturn (pc := 132) d_Md_guest_132 rfl ?_
        have ee : c_gs F y w = sD F y 60 := by
          unfold c_gs
          (repeat' split) <;> omega
        rw [ee] at k
        exact k
    · refine wp_iload_n (pc := 98) d_Md_guest_98 rfl ?_
      refine wp_goto (tgt := 132) (pc := 99) d_Md_guest_99 (by decide) ?_
      refine zp_ireturn (pc := 132) d_Md_guest_132 rfl ?_
      have ee : c_gs F y w = cGv F y 60 := by
        unfold c_gs
        (repeat' split) <;> omega
      rw [ee] at k
      exact k
  | succ d ih =>
    intro i o6 hi
    have hV := hJ.vd
    have hs := hV.1
    have hk := fun (q : i < 60) => hV.2.2.2.1 (i : Int) (by omega) (by omega)
    refine wp_iload (pc := 17) d_Md_guest_17 rfl ?_
    refine zp_bipush (pc := 19) d_Md_guest_19 (by decide) ?_
    refine zp_icmp_ge (tgt := 94) (pc := 21) d_Md_guest_21 (by decide) ⟨by omega, by omega⟩ ⟨by omega, by omega⟩ (fun c21 => absurd c21 (by omega)) (fun c21 => ?_)
    have hkk := hk (by omega)
    refine wp_aload_n (pc := 24) d_Md_guest_24 rfl ?_
    refine wp_iload (pc := 25) d_Md_guest_25 rfl ?_
    refine wv_callV (n := 1) (As := [_]) (pc := 27) d_Md_guest_27 s_Md_56 q_Md_holds ⟨by decide, by decide⟩ MH_o rfl rfl rfl rfl (Nat.le_of_ble_eq_true rfl) (Nat.le_of_ble_eq_true rfl) ?_
    refine sp_Md_holds hE (by omega) (by omega) (by omega) ?_
    refine ⟨_, rfl, ?_⟩
    refine zp_ifb_eq (tgt := 52) (pc := 30) d_Md_guest_30 (by decide) (fun c30 => ?_) (fun c30 => ?_)
    · refine wp_iconst (pc := 52) d_Md_guest_52 ?_
      refine st_i6 (pc := 53) d_Md_guest_53 (by decide) ?_
      refine wp_iload_n (pc := 55) d_Md_guest_55 rfl ?_
      refine wp_iload (pc := 56) d_Md_guest_56 rfl ?_
      refine zp_if_eq (tgt := 65) (pc := 58) d_Md_guest_58 (by decide) ⟨by omega, by omega⟩ (fun c58 => ?_) (fun c58 => absurd c58 (by omega))
      refine wp_iconst (pc := 65) d_Md_guest_65 ?_
      refine zp_iadd (pc := 66) d_Md_guest_66 ?_
      refine st_i3 (pc := 67) d_Md_guest_67 (by decide) ?_
      refine wp_iload (pc := 68) d_Md_guest_68 rfl ?_
      refine wp_iload (pc := 70) d_Md_guest_70 rfl ?_
      refine zp_if_eq (tgt := 84) (pc := 72) d_Md_guest_72 (by decide) ⟨by omega, by omega⟩ (fun c72 => ?_) (fun c72 => absurd c72 (by omega))
      refine wp_iconst (pc := 84) d_Md_guest_84 ?_
      refine zp_iadd (pc := 85) d_Md_guest_85 ?_
      refine st_i4 (pc := 86) d_Md_guest_86 (by decide) ?_
      refine st_c5 (pc := 88) d_Md_guest_88 (by decide) ?_
      refine wp_goto (tgt := 17) (pc := 91) d_Md_guest_91 (by decide) ?_
      have e : ((i + 1 : Nat) : Int) = (i : Int) + 1 := by omega
      rw [← e]
      first | rw [show cGv F y i + 1 = cGv F y (i + 1) from by rw [cGv_s, bI_t (by omega)]] | rw [show cGv F y i + 0 = cGv F y (i + 1) from by rw [cGv_s, bI_f (by omega)]]
      first | rw [show sD F y i + duF F i = sD F y (i + 1) from by rw [sD_s, if_pos (by omega)]] | rw [show sD F y i + 0 = sD F y (i + 1) from by rw [sD_s, if_neg (by omega)]]
      exact ih (i + 1) _ (by omega)
    · refine wp_aload_n (pc := 33) d_Md_guest_33 rfl ?_
      refine wp_getfield (pc := 34) d_Md_guest_34 f_Md_8 MH_o rfl ?_
      refine wp_iload (pc := 37) d_Md_guest_37 rfl ?_
      refine wp_iconst (pc := 39) d_Md_guest_39 ?_
      refine wv_callS (n := 2) (As := [_, _]) (pc := 40) d_Md_guest_40 s_Md_50 q_Md_of ⟨by decide, by decide⟩ rfl rfl rfl (Nat.le_of_ble_eq_true rfl) (Nat.le_of_ble_eq_true rfl) ?_
      refine sp_Md_of ?_
      refine ⟨_, rfl, ?_⟩
      refine zp_iaload (pc := 43) d_Md_guest_43 hE.1 MH_r (by omega) (by omega) (by decide) ?_
      refine wp_iload_n (pc := 44) d_Md_guest_44 rfl ?_
      refine zp_icmp_ne (tgt := 52) (pc := 45) d_Md_guest_45 (by decide) ⟨by omega, by omega⟩ ⟨by omega, by omega⟩ (fun c45 => ?_) (fun c45 => ?_)
      · refine wp_iconst (pc := 52) d_Md_guest_52 ?_
        refine st_i6 (pc := 53) d_Md_guest_53 (by decide) ?_
        refine wp_iload_n (pc := 55) d_Md_guest_55 rfl ?_
        refine wp_iload (pc := 56) d_Md_guest_56 rfl ?_
        refine zp_if_eq (tgt := 65) (pc := 58) d_Md_guest_58 (by decide) ⟨by omega, by omega⟩ (fun c58 => ?_) (fun c58 => absurd c58 (by omega))
        refine wp_iconst (pc := 65) d_Md_guest_65 ?_
        refine zp_iadd (pc := 66) d_Md_guest_66 ?_
        refine st_i3 (pc := 67) d_Md_guest_67 (by decide) ?_
        refine wp_iload (pc := 68) d_Md_guest_68 rfl ?_
        refine wp_iload (pc := 70) d_Md_guest_70 rfl ?_
        refine zp_if_eq (tgt := 84) (pc := 72) d_Md_guest_72 (by decide) ⟨by omega, by omega⟩ (fun c72 => ?_) (fun c72 => absurd c72 (by omega))
        refine wp_iconst (pc := 84) d_Md_guest_84 ?_
        refine zp_iadd (pc := 85) d_Md_guest_85 ?_
        refine st_i4 (pc := 86) d_Md_guest_86 (by decide) ?_
        refine st_c5 (pc := 88) d_Md_guest_88 (by decide) ?_
        refine wp_goto (tgt := 17) (pc := 91) d_Md_guest_91 (by decide) ?_
        have e : ((i + 1 : Nat) : Int) = (i : Int) + 1 := by omega
        rw [← e]
        first | rw [show cGv F y i + 1 = cGv F y (i + 1) from by rw [cGv_s, bI_t (by omega)]] | rw [show cGv F y i + 0 = cGv F y (i + 1) from by rw [cGv_s, bI_f (by omega)]]
        first | rw [show sD F y i + duF F i = sD F y (i + 1) from by rw [sD_s, if_pos (by omega)]] | rw [show sD F y i + 0 = sD F y (i + 1) from by rw [sD_s, if_neg (by omega)]]
        exact ih (i + 1) _ (by omega)
      · refine wp_iconst (pc := 48) d_Md_guest_48 ?_
        refine wp_goto (tgt := 53) (pc := 49) d_Md_guest_49 (by decide) ?_
        refine st_i6 (pc := 53) d_Md_guest_53 (by decide) ?_
        refine wp_iload_n (pc := 55) d_Md_guest_55 rfl ?_
        refine wp_iload (pc := 56) d_Md_guest_56 rfl ?_
        refine zp_if_eq (tgt := 65) (pc := 58) d_Md_guest_58 (by decide) ⟨by omega, by omega⟩ (fun c58 => absurd c58 (by omega)) (fun c58 => ?_)
        refine wp_iconst (pc := 61) d_Md_guest_61 ?_
        refine wp_goto (tgt := 66) (pc := 62) d_Md_guest_62 (by decide) ?_
        refine zp_iadd (pc := 66) d_Md_guest_66 ?_
        refine st_i3 (pc := 67) d_Md_guest_67 (by decide) ?_
        refine wp_iload (pc := 68) d_Md_guest_68 rfl ?_
        refine wp_iload (pc := 70) d_Md_guest_70 rfl ?_
        refine zp_if_eq (tgt := 84) (pc := 72) d_Md_guest_72 (by decide) ⟨by omega, by omega⟩ (fun c72 => absurd c72 (by omega)) (fun c72 => ?_)
        refine wp_aload_n (pc := 75) d_Md_guest_75 rfl ?_
        refine wp_iload (pc := 76) d_Md_guest_76 rfl ?_
        refine wv_callV (n := 1) (As := [_]) (pc := 78) d_Md_guest_78 s_Md_111 q_Md_dueOn ⟨by decide, by decide⟩ MH_o rfl rfl rfl rfl (Nat.le_of_ble_eq_true rfl) (Nat.le_of_ble_eq_true rfl) ?_
        refine sp_Md_dueOn hE hV (by omega) (by omega) ?_
        refine ⟨_, rfl, ?_⟩
        refine wp_goto (tgt := 85) (pc := 81) d_Md_guest_81 (by decide) ?_
        refine zp_iadd (pc := 85) d_Md_guest_85 ?_
        refine st_i4 (pc := 86) d_Md_guest_86 (by decide) ?_
        refine st_c5 (pc := 88) d_Md_guest_88 (by decide) ?_
        refine wp_goto (tgt := 17) (pc := 91) d_Md_guest_91 (by decide) ?_
        have e : ((i + 1 : Nat) : Int) = (i : Int) + 1 := by omega
        rw [← e]
        first | rw [show cGv F y i + 1 = cGv F y (i + 1) from by rw [cGv_s, bI_t (by omega)]] | rw [show cGv F y i + 0 = cGv F y (i + 1) from by rw [cGv_s, bI_f (by omega)]]
        first | rw [show sD F y i + duF F i = sD F y (i + 1) from by rw [sD_s, if_pos (by omega)]] | rw [show sD F y i + 0 = sD F y (i + 1) from by rw [sD_s, if_neg (by omega)]]
        exact ih (i + 1) _ (by omega)
set_option maxRecDepth 100000 in
theorem sp_Md_guest (hE : gOk E) {n : Int} (hJ : J n F) (hn : n ≤ 100000000) {y w : Int} (ry : gR y) (rw_ : gR w) (k : Q (some (.int (zI (c_gs F y w)))) (MH mo h F sn kp g ln)) : Wp E m_Md_guest 0 (gEnt m_Md_guest [.ref mo, .int (zI y), .int (zI w)]) [] (MH mo h F sn kp g ln) Q := by
  have hV := hJ.vd
  have hs := hV.1
  show Wp E m_Md_guest 0 [some (_), some (_), some (_), none, none, none, none] [] _ _
  refine wp_iload_n (pc := 0) d_Md_guest_0 rfl ?_
  refine wv_callS (n := 1) (As := [_]) (pc := 1) d_Md_guest_1 s_Md_98 q_Md_isGuest ⟨by decide, by decide⟩ rfl rfl rfl (Nat.le_of_ble_eq_true rfl) (Nat.le_of_ble_eq_true rfl) ?_
  refine sp_Md_isGuest ry ?_
  refine ⟨_, rfl, ?_⟩
  refine zp_ifb_ne (tgt := 9) (pc := 4) d_Md_guest_4 (by decide) (fun c4 => ?_) (fun c4 => ?_)
  · refine wp_iconst (pc := 9) d_Md_guest_9 ?_
    refine st_i3 (pc := 10) d_Md_guest_10 (by decide) ?_
    refine wp_iconst (pc := 11) d_Md_guest_11 ?_
    refine st_i4 (pc := 12) d_Md_guest_12 (by decide) ?_
    refine wp_iconst (pc := 14) d_Md_guest_14 ?_
    refine st_i5 (pc := 15) d_Md_guest_15 (by decide) ?_
    exact lp_Md_guest hE hJ hn rw_ (by omega) (by omega) k 60 0 none rfl
  · refine wp_iconst (pc := 7) d_Md_guest_7 ?_
    refine zp_ireturn (pc := 8) d_Md_guest_8 rfl ?_
    have ee : c_gs F y w = -1 := by
      unfold c_gs
      (repeat' split) <;> omega
    rw [ee] at k
    exact k
set_option maxRecDepth 100000 in
theorem lp_Md_giveOut (hE : gOk E) (hB : gB E ≤ mo) {n : Int} (hJ : J n F) (hn : n ≤ 800000000) (hs0 : 0 ≤ sn) (hs1 : sn ≤ 4) {y p : Int} (rp : gR p) (hy0 : 0 ≤ y) (hy1 : y ≤ 19) (k0 : c_gv F y p < 0 → Q (some (.int (zI (c_gv F y p)))) (MH mo h F sn kp g ln)) (k1 : ¬ c_gv F y p < 0 → Q (some (.int (zI (c_gv F y p)))) (MH mo h (u_gv (rcF F sn 0) (gvx F y p 60)) (rcS sn) kp g ln)) : ∀ (d i : Nat) (o5 o6 : Option Value), gvx F y p i = -1 → i + d = 60 → Wp E m_Md_giveOut 14 [some (.ref mo), some (.int (zI y)), some (.int (zI p)), some (.int (zI (cGv F y i))), some (.int (zI i)), o5, o6] [] (MH mo h F sn kp g ln) Q := by
  intro d
  induction d with
  | zero =>
    intro i o5 o6 hg hi
    have hB1 : gB E ≤ mo + 1 := by omega
    have hV := hJ.vd
    have hs := hV.1
    obtain rfl : i = 60 := by omega
    refine wp_iload (pc := 14) d_Md_giveOut_14 rfl ?_
    refine zp_bipush (pc := 16) d_Md_giveOut_16 (by decide) ?_
    refine zp_icmp_ge (tgt := 131) (pc := 18) d_Md_giveOut_18 (by decide) ⟨by omega, by omega⟩ ⟨by omega, by omega⟩ (fun c18 => ?_) (fun c18 => absurd c18 (by omega))
    refine wp_iconst (pc := 131) d_Md_giveOut_131 ?_
    refine zp_ireturn (pc := 132) d_Md_giveOut_132 rfl ?_
    have ee : c_gv F y p = -1 := by
      unfold c_gv
      (repeat' split) <;> omega
    have z := k0 (by omega)
    rw [ee] at z
    exact z
  | succ d ih =>
    intro i o5 o6 hg hi
    have hB1 : gB E ≤ mo + 1 := by omega
    have hV := hJ.vd
    have hs := hV.1
    have hk := hV.2.2.2.1 (i : Int) (by omega) (by omega)
    have hcb := cGv_b F y i
    refine wp_iload (pc := 14) d_Md_giveOut_14 rfl ?_
    refine zp_bipush (pc := 16) d_Md_giveOut_16 (by decide) ?_
    refine zp_icmp_ge (tgt := 131) (pc := 18) d_Md_giveOut_18 (by decide) ⟨by omega, by omega⟩ ⟨by omega, by omega⟩ (fun c18 => absurd c18 (by omega)) (fun c18 => ?_)
    refine wp_aload_n (pc := 21) d_Md_giveOut_21 rfl ?_
    refine wp_iload (pc := 22) d_Md_giveOut_22 rfl ?_
    refine wv_callV (n := 1) (As := [_]) (pc := 24) d_Md_giveOut_24 s_Md_56 q_Md_holds ⟨by decide, by decide⟩ MH_o rfl rfl rfl rfl (Nat.le_of_ble_eq_true rfl) (Nat.le_of_ble_eq_true rfl) ?_
    refine sp_Md_holds hE (by omega) (by omega) (by omega) ?_
    refine ⟨_, rfl, ?_⟩
    refine zp_ifb_eq (tgt := 49) (pc := 27) d_Md_giveOut_27 (by decide) (fun c27 => ?_) (fun c27 => ?_)
    · refine wp_iconst (pc := 49) d_Md_giveOut_49 ?_
      refine st_i5 (pc := 50) d_Md_giveOut_50 (by decide) ?_
      refine wp_iload (pc := 52) d_Md_giveOut_52 rfl ?_
      refine zp_if_eq (tgt := 112) (pc := 54) d_Md_giveOut_54 (by decide) ⟨by omega, by omega⟩ (fun c54 => ?_) (fun c54 => absurd c54 (by omega))
      refine wp_iload_n (pc := 112) d_Md_giveOut_112 rfl ?_
      refine wp_iload (pc := 113) d_Md_giveOut_113 rfl ?_
      refine zp_if_eq (tgt := 122) (pc := 115) d_Md_giveOut_115 (by decide) ⟨by omega, by omega⟩ (fun c115 => ?_) (fun c115 => absurd c115 (by omega))
      refine wp_iconst (pc := 122) d_Md_giveOut_122 ?_
      refine zp_iadd (pc := 123) d_Md_giveOut_123 ?_
      refine st_i3 (pc := 124) d_Md_giveOut_124 (by decide) ?_
      refine st_c4 (pc := 125) d_Md_giveOut_125 (by decide) ?_
      refine wp_goto (tgt := 14) (pc := 128) d_Md_giveOut_128 (by decide) ?_
      have e : ((i + 1 : Nat) : Int) = (i : Int) + 1 := by omega
      rw [← e]
      first | rw [show cGv F y i + 1 = cGv F y (i + 1) from by rw [cGv_s, bI_t (by omega)]] | rw [show cGv F y i + 0 = cGv F y (i + 1) from by rw [cGv_s, bI_f (by omega)]]
      exact ih (i + 1) _ _ (gvx_no hg (by omega)) (by omega)
    · refine wp_aload_n (pc := 30) d_Md_giveOut_30 rfl ?_
      refine wp_getfield (pc := 31) d_Md_giveOut_31 f_Md_8 MH_o rfl ?_
      refine wp_iload (pc := 34) d_Md_giveOut_34 rfl ?_
      refine wp_iconst (pc := 36) d_Md_giveOut_36 ?_
      refine wv_callS (n := 2) (As := [_, _]) (pc := 37) d_Md_giveOut_37 s_Md_50 q_Md_of ⟨by decide, by decide⟩ rfl rfl rfl (Nat.le_of_ble_eq_true rfl) (Nat.le_of_ble_eq_true rfl) ?_
      refine sp_Md_of ?_
      refine ⟨_, rfl, ?_⟩
      refine zp_iaload (pc := 40) d_Md_giveOut_40 hE.1 MH_r (by omega) (by omega) (by decide) ?_
      refine wp_iload_n (pc := 41) d_Md_giveOut_41 rfl ?_
      refine zp_icmp_ne (tgt := 49) (pc := 42) d_Md_giveOut_42 (by decide) ⟨by omega, by omega⟩ ⟨by omega, by omega⟩ (fun c42 => ?_) (fun c42 => ?_)
      · refine wp_iconst (pc := 49) d_Md_giveOut_49 ?_
        refine st_i5 (pc := 50) d_Md_giveOut_50 (by decide) ?_
        refine wp_iload (pc := 52) d_Md_giveOut_52 rfl ?_
        refine zp_if_eq (tgt := 112) (pc := 54) d_Md_giveOut_54 (by decide) ⟨by omega, by omega⟩ (fun c54 => ?_) (fun c54 => absurd c54 (by omega))
        refine wp_iload_n (pc := 112) d_Md_giveOut_112 rfl ?_
        refine wp_iload (pc := 113) d_Md_giveOut_113 rfl ?_
        refine zp_if_eq (tgt := 122) (pc := 115) d_Md_giveOut_115 (by decide) ⟨by omega, by omega⟩ (fun c115 => ?_) (fun c115 => absurd c115 (by omega))
        refine wp_iconst (pc := 122) d_Md_giveOut_122 ?_
        refine zp_iadd (pc := 123) d_Md_giveOut_123 ?_
        refine st_i3 (pc := 124) d_Md_giveOut_124 (by decide) ?_
        refine st_c4 (pc := 125) d_Md_giveOut_125 (by decide) ?_
        refine wp_goto (tgt := 14) (pc := 128) d_Md_giveOut_128 (by decide) ?_
        have e : ((i + 1 : Nat) : Int) = (i : Int) + 1 := by omega
        rw [← e]
        first | rw [show cGv F y i + 1 = cGv F y (i + 1) from by rw [cGv_s, bI_t (by omega)]] | rw [show cGv F y i + 0 = cGv F y (i + 1) from by rw [cGv_s, bI_f (by omega)]]
        exact ih (i + 1) _ _ (gvx_no hg (by omega)) (by omega)
      · refine wp_iconst (pc := 45) d_Md_giveOut_45 ?_
        refine wp_goto (tgt := 50) (pc := 46) d_Md_giveOut_46 (by decide) ?_
        refine st_i5 (pc := 50) d_Md_giveOut_50 (by decide) ?_
        refine wp_iload (pc := 52) d_Md_giveOut_52 rfl ?_
        refine zp_if_eq (tgt := 112) (pc := 54) d_Md_giveOut_54 (by decide) ⟨by omega, by omega⟩ (fun c54 => absurd c54 (by omega)) (fun c54 => ?_)
        refine wp_iload_n (pc := 57) d_Md_giveOut_57 rfl ?_
        refine wp_iload_n (pc := 58) d_Md_giveOut_58 rfl ?_
        refine zp_icmp_ne (tgt := 112) (pc := 59) d_Md_giveOut_59 (by decide) ⟨by omega, by omega⟩ ⟨by omega, by omega⟩ (fun c59 => ?_) (fun c59 => ?_)
        · refine wp_iload_n (pc := 112) d_Md_giveOut_112 rfl ?_
          refine wp_iload (pc := 113) d_Md_giveOut_113 rfl ?_
          refine zp_if_eq (tgt := 122) (pc := 115) d_Md_giveOut_115 (by decide) ⟨by omega, by omega⟩ (fun c115 => absurd c115 (by omega)) (fun c115 => ?_)
          refine wp_iconst (pc := 118) d_Md_giveOut_118 ?_
          refine wp_goto (tgt := 123) (pc := 119) d_Md_giveOut_119 (by decide) ?_
          refine zp_iadd (pc := 123) d_Md_giveOut_123 ?_
          refine st_i3 (pc := 124) d_Md_giveOut_124 (by decide) ?_
          refine st_c4 (pc := 125) d_Md_giveOut_125 (by decide) ?_
          refine wp_goto (tgt := 14) (pc := 128) d_Md_giveOut_128 (by decide) ?_
          have e : ((i + 1 : Nat) : Int) = (i : Int) + 1 := by omega
          rw [← e]
          first | rw [show cGv F y i + 1 = cGv F y (i + 1) from by rw [cGv_s, bI_t (by omega)]] | rw [show cGv F y i + 0 = cGv F y (i + 1) from by rw [cGv_s, bI_f (by omega)]]
          exact ih (i + 1) _ _ (gvx_no hg (by omega)) (by omega)
        · refine wp_aload_n (pc := 62) d_Md_giveOut_62 rfl ?_
          refine wp_iconst (pc := 63) d_Md_giveOut_63 ?_
          refine wn_callV (n := 1) (As := [_]) (pc := 64) d_Md_giveOut_64 s_Md_34 q_Md_record ⟨by decide, by decide⟩ MH_o rfl rfl rfl rfl (Nat.le_of_ble_eq_true rfl) (Nat.le_of_ble_eq_true rfl) ?_
          refine sp_Md_record hE hB (Or.inl rfl) hs0 hs1 ?_
          refine ⟨rfl, ?_⟩
          have hat := gvx_at hg (by omega) (by omega) (by omega)
          have hlo : ∀ j : Int, j < 6559 → rcF F sn 0 j = F j := fun j hj => rcF_lo hs0 hs1 hj
          have hVG := (hJ.1.congr (G := rcF F sn 0) fun j _ hj => hlo j hj).vd
          have hJG := rcF_J (b := 0) hs0 hs1 hJ
          generalize hG : rcF F sn 0 = G at hlo hVG hJG ⊢
          have hdu : duF G (i : Int) = duF F (i : Int) := duF_congr (hlo _ (by omega)) (hlo _ (by omega)) (hlo _ (by omega)) (hlo _ (by omega))
          have hdb := duF_b hV (x := (i : Int)) (by omega) (by omega)
          have hi1 : G (29 + 8 * (i : Int) + 1) = 1 := by rw [hlo _ (by omega)]; omega
          refine wp_aload_n (pc := 67) d_Md_giveOut_67 rfl ?_
          refine wp_iload (pc := 68) d_Md_giveOut_68 rfl ?_
          refine wv_callV (n := 1) (As := [_]) (pc := 70) d_Md_giveOut_70 s_Md_111 q_Md_dueOn ⟨by decide, by decide⟩ MH_o rfl rfl rfl rfl (Nat.le_of_ble_eq_true rfl) (Nat.le_of_ble_eq_true rfl) ?_
          refine sp_Md_dueOn hE hVG (by omega) (by omega) ?_
          refine ⟨_, rfl, ?_⟩
          refine zp_bipush (pc := 73) d_Md_giveOut_73 (by decide) ?_
          refine zp_iadd (pc := 75) d_Md_giveOut_75 ?_
          refine st_i6 (pc := 76) d_Md_giveOut_76 (by decide) ?_
          refine wp_aload_n (pc := 78) d_Md_giveOut_78 rfl ?_
          refine wp_getfield (pc := 79) d_Md_giveOut_79 f_Md_8 MH_o rfl ?_
          refine zp_bipush (pc := 82) d_Md_giveOut_82 (by decide) ?_
          refine wp_dup2 (pc := 84) d_Md_giveOut_84 rfl rfl ?_
          refine zp_iaload (pc := 85) d_Md_giveOut_85 hE.1 MH_r (by omega) (by omega) (by decide) ?_
          try simp (disch := omega) only [zup_ne, zup_eq, lvF_o, hgF_o, lgF_o]
          refine wp_iload (pc := 86) d_Md_giveOut_86 rfl ?_
          refine zp_iadd (pc := 88) d_Md_giveOut_88 ?_
          refine zp_iastore (pc := 89) d_Md_giveOut_89 hE.1 MH_r hB1 (by omega) (by omega) (by decide) ?_
          rw [MH_pr]
          refine wp_aload_n (pc := 90) d_Md_giveOut_90 rfl ?_
          refine wp_getfield (pc := 91) d_Md_giveOut_91 f_Md_8 MH_o rfl ?_
          refine zp_bipush (pc := 94) d_Md_giveOut_94 (by decide) ?_
          refine wp_dup2 (pc := 96) d_Md_giveOut_96 rfl rfl ?_
          refine zp_iaload (pc := 97) d_Md_giveOut_97 hE.1 MH_r (by omega) (by omega) (by decide) ?_
          try simp (disch := omega) only [zup_ne, zup_eq, lvF_o, hgF_o, lgF_o]
          refine wp_iconst (pc := 98) d_Md_giveOut_98 ?_
          refine zp_iadd (pc := 99) d_Md_giveOut_99 ?_
          refine zp_iastore (pc := 100) d_Md_giveOut_100 hE.1 MH_r hB1 (by omega) (by omega) (by decide) ?_
          rw [MH_pr]
          refine wp_aload_n (pc := 101) d_Md_giveOut_101 rfl ?_
          refine wp_iload (pc := 102) d_Md_giveOut_102 rfl ?_
          refine wp_iconst (pc := 104) d_Md_giveOut_104 ?_
          refine wp_iconst (pc := 105) d_Md_giveOut_105 ?_
          refine wn_callV (n := 3) (As := [_, _, _]) (pc := 106) d_Md_giveOut_106 s_Md_114 q_Md_end ⟨by decide, by decide⟩ MH_o rfl rfl rfl rfl (Nat.le_of_ble_eq_true rfl) (Nat.le_of_ble_eq_true rfl) ?_
          refine sp_Md_end hE hB (hJG.1.cnt (j := 8) (by omega)) (by omega) (by omega) (by omega) (by omega) (hJG.cu (by omega) (by omega) (by omega) hi1) ?_
          refine ⟨rfl, ?_⟩
          refine wp_iload (pc := 109) d_Md_giveOut_109 rfl ?_
          refine zp_ireturn (pc := 111) d_Md_giveOut_111 rfl ?_
          rw [hG, hat] at k1
          have ee : c_gv F y p = duF G i + 50 := by
            rw [hdu]
            unfold c_gv
            rw [hat]
            (repeat' split) <;> omega
          have z := k1 (by rw [ee]; omega)
          rw [ee] at z
          exact z
set_option maxRecDepth 100000 in
theorem sp_Md_giveOut (hE : gOk E) (hB : gB E ≤ mo) {n : Int} (hJ : J n F) (hn : n ≤ 800000000) (hs0 : 0 ≤ sn) (hs1 : sn ≤ 4) {y p : Int} (rp : gR p) (ry : gR y) (k0 : c_gv F y p < 0 → Q (some (.int (zI (c_gv F y p)))) (MH mo h F sn kp g ln)) (k1 : ¬ c_gv F y p < 0 → Q (some (.int (zI (c_gv F y p)))) (MH mo h (u_gv (rcF F sn 0) (gvx F y p 60)) (rcS sn) kp g ln)) : Wp E m_Md_giveOut 0 (gEnt m_Md_giveOut [.ref mo, .int (zI y), .int (zI p)]) [] (MH mo h F sn kp g ln) Q := by
  have hV := hJ.vd
  have hs := hV.1
  show Wp E m_Md_giveOut 0 [some (_), some (_), some (_), none, none, none, none] [] _ _
  refine wp_iload_n (pc := 0) d_Md_giveOut_0 rfl ?_
  refine wv_callS (n := 1) (As := [_]) (pc := 1) d_Md_giveOut_1 s_Md_98 q_Md_isGuest ⟨by decide, by decide⟩ rfl rfl rfl (Nat.le_of_ble_eq_true rfl) (Nat.le_of_ble_eq_true rfl) ?_
  refine sp_Md_isGuest ry ?_
  refine ⟨_, rfl, ?_⟩
  refine zp_ifb_ne (tgt := 9) (pc := 4) d_Md_giveOut_4 (by decide) (fun c4 => ?_) (fun c4 => ?_)
  · refine wp_iconst (pc := 9) d_Md_giveOut_9 ?_
    refine st_i3 (pc := 10) d_Md_giveOut_10 (by decide) ?_
    refine wp_iconst (pc := 11) d_Md_giveOut_11 ?_
    refine st_i4 (pc := 12) d_Md_giveOut_12 (by decide) ?_
    exact lp_Md_giveOut hE hB hJ hn hs0 hs1 rp (by omega) (by omega) k0 k1 60 0 none none rfl rfl
  · refine wp_iconst (pc := 7) d_Md_giveOut_7 ?_
    refine zp_ireturn (pc := 8) d_Md_giveOut_8 rfl ?_
    have ee : c_gv F y p = -1 := by
      unfold c_gv
      (repeat' split) <;> omega
    have z := k0 (by omega)
    rw [ee] at z
    exact z
set_option maxRecDepth 100000 in
theorem sp_Md_move (hE : gOk E) (hB : gB E ≤ mo) {n : Int} (hJ : J n F) (hn : n ≤ 800000000) (hs0 : 0 ≤ sn) (hs1 : sn ≤ 4) {t x : Int} (rt : gR t) (rx : gR x) (k0 : c_mv F t x < 0 → Q (some (.int (zI (c_mv F t x)))) (MH mo h F sn kp g ln)) (k1 : ¬ c_mv F t x < 0 → Q (some (.int (zI (c_mv F t x)))) (MH mo h (dmU (rcF F sn 0) (hkT F t) x) (rcS sn) kp g ln)) : Wp E m_Md_move 0 (gEnt m_Md_move [.ref mo, .int (zI t), .int (zI x)]) [] (MH mo h F sn kp g ln) Q := by
  have hB1 : gB E ≤ mo + 1 := by omega
  have hV := hJ.vd
  have hs := hV.1
  show Wp E m_Md_move 0 [some (_), some (_), some (_), none, none] [] _ _
  refine wp_aload_n (pc := 0) d_Md_move_0 rfl ?_
  refine wp_iload_n (pc := 1) d_Md_move_1 rfl ?_
  refine wv_callV (n := 1) (As := [_]) (pc := 2) d_Md_move_2 s_Md_118 q_Md_noTag ⟨by decide, by decide⟩ MH_o rfl rfl rfl rfl (Nat.le_of_ble_eq_true rfl) (Nat.le_of_ble_eq_true rfl) ?_
  refine sp_Md_noTag hE hV hJ.ac rt ?_
  refine ⟨_, rfl, ?_⟩
  have hno : -7 ≤ noT F t ∧ noT F t ≤ 0 := by
    unfold noT
    (repeat' split) <;> omega
  refine st_i3 (pc := 5) d_Md_move_5 (by decide) ?_
  refine wp_iload_n (pc := 6) d_Md_move_6 rfl ?_
  refine zp_if_eq (tgt := 12) (pc := 7) d_Md_move_7 (by decide) ⟨by omega, by omega⟩ (fun c7 => ?_) (fun c7 => ?_)
  · refine wp_aload_n (pc := 12) d_Md_move_12 rfl ?_
    refine wp_iload_n (pc := 13) d_Md_move_13 rfl ?_
    refine wv_callV (n := 1) (As := [_]) (pc := 14) d_Md_move_14 s_Md_53 q_Md_isHook ⟨by decide, by decide⟩ MH_o rfl rfl rfl rfl (Nat.le_of_ble_eq_true rfl) (Nat.le_of_ble_eq_true rfl) ?_
    refine sp_Md_isHook hE hV rx ?_
    refine ⟨_, rfl, ?_⟩
    refine zp_ifb_ne (tgt := 22) (pc := 17) d_Md_move_17 (by decide) (fun c17 => ?_) (fun c17 => ?_)
    · have htg := hJ.tag (by omega)
      have hla := hJ.ac.b (x := t / 10) (by omega) (by omega)
      refine wp_aload_n (pc := 22) d_Md_move_22 rfl ?_
      refine wp_iload_n (pc := 23) d_Md_move_23 rfl ?_
      refine zp_bipush (pc := 24) d_Md_move_24 (by decide) ?_
      refine zp_idiv (pc := 26) d_Md_move_26 (by omega) (by omega) (by omega) (by omega) ?_
      refine wv_callV (n := 1) (As := [_]) (pc := 27) d_Md_move_27 s_Md_76 q_Md_lastOf ⟨by decide, by decide⟩ MH_o rfl rfl rfl rfl (Nat.le_of_ble_eq_true rfl) (Nat.le_of_ble_eq_true rfl) ?_
      refine sp_Md_lastOf hE hV hJ.ac (by omega) (by omega) ?_
      refine ⟨_, rfl, ?_⟩
      refine wv_callS (n := 1) (As := [_]) (pc := 30) d_Md_move_30 s_Md_108 q_Md_hookOf ⟨by decide, by decide⟩ rfl rfl rfl (Nat.le_of_ble_eq_true rfl) (Nat.le_of_ble_eq_true rfl) ?_
      refine sp_Md_hookOf (by omega) (by omega) ?_
      refine ⟨_, rfl, ?_⟩
      rw [show la F (t / 10) / 100 = hkT F t from rfl]
      have hk := hV.2.2.2.1 (hkT F t) (by omega) (by omega)
      refine st_i4 (pc := 33) d_Md_move_33 (by decide) ?_
      refine wp_aload_n (pc := 35) d_Md_move_35 rfl ?_
      refine wp_iload_n (pc := 36) d_Md_move_36 rfl ?_
      refine wp_aload_n (pc := 37) d_Md_move_37 rfl ?_
      refine wp_getfield (pc := 38) d_Md_move_38 f_Md_8 MH_o rfl ?_
      refine wp_iload (pc := 41) d_Md_move_41 rfl ?_
      refine wp_iconst (pc := 43) d_Md_move_43 ?_
      refine wv_callS (n := 2) (As := [_, _]) (pc := 44) d_Md_move_44 s_Md_50 q_Md_of ⟨by decide, by decide⟩ rfl rfl rfl (Nat.le_of_ble_eq_true rfl) (Nat.le_of_ble_eq_true rfl) ?_
      refine sp_Md_of ?_
      refine ⟨_, rfl, ?_⟩
      refine zp_iaload (pc := 47) d_Md_move_47 hE.1 MH_r (by omega) (by omega) (by decide) ?_
      refine wv_callV (n := 2) (As := [_, _]) (pc := 48) d_Md_move_48 s_Md_91 q_Md_isFree ⟨by decide, by decide⟩ MH_o rfl rfl rfl rfl (Nat.le_of_ble_eq_true rfl) (Nat.le_of_ble_eq_true rfl) ?_
      refine sp_Md_isFree hE hV (by omega) (by omega) ⟨by omega, by omega⟩ ?_
      refine ⟨_, rfl, ?_⟩
      refine zp_ifb_ne (tgt := 57) (pc := 51) d_Md_move_51 (by decide) (fun c51 => ?_) (fun c51 => ?_)
      · refine wp_aload_n (pc := 57) d_Md_move_57 rfl ?_
        refine wp_iconst (pc := 58) d_Md_move_58 ?_
        refine wn_callV (n := 1) (As := [_]) (pc := 59) d_Md_move_59 s_Md_34 q_Md_record ⟨by decide, by decide⟩ MH_o rfl rfl rfl rfl (Nat.le_of_ble_eq_true rfl) (Nat.le_of_ble_eq_true rfl) ?_
        refine sp_Md_record hE hB (Or.inl rfl) hs0 hs1 ?_
        refine ⟨rfl, ?_⟩
        have hlo : ∀ j : Int, j < 6559 → rcF F sn 0 j = F j := fun j hj => rcF_lo hs0 hs1 hj
        have hVG := (hJ.1.congr (G := rcF F sn 0) fun j _ hj => hlo j hj).vd
        have hJG := rcF_J (b := 0) hs0 hs1 hJ
        generalize hG : rcF F sn 0 = G at hlo hVG hJG ⊢
        have hh := hdl_congr (F := F) (G := G) (x := hkT F t) (hlo _ (by omega))
        have hhx := hdl_congr (F := F) (G := G) (x := x) (hlo _ (by omega))
        have hbx := hdl_b hV htg.2.2.1 htg.2.2.2.1
        have hbx2 := hdl_b hV (x := x) (by omega) (by omega)
        have hne : hkT F t ≠ x := fun q => by
          rw [q] at htg
          omega
        have htb := tb_b (x := hdl G x) (by omega) (by omega)
        refine wp_aload_n (pc := 62) d_Md_move_62 rfl ?_
        refine wp_iload (pc := 63) d_Md_move_63 rfl ?_
        refine wp_iload_n (pc := 65) d_Md_move_65 rfl ?_
        refine wv_callV (n := 2) (As := [_, _]) (pc := 66) d_Md_move_66 s_Md_124 q_Md_doMove ⟨by decide, by decide⟩ MH_o rfl rfl rfl rfl (Nat.le_of_ble_eq_true rfl) (Nat.le_of_ble_eq_true rfl) ?_
        refine sp_Md_doMove hE hB hJG.1 (by omega) (by omega) (by omega) (by omega) (by omega) hne (by rw [hh, hlo _ (by omega)]; omega) ?_
        refine ⟨_, rfl, ?_⟩
        refine wv_callS (n := 1) (As := [_]) (pc := 69) d_Md_move_69 s_Md_64 q_Md_tagBy ⟨by decide, by decide⟩ rfl rfl rfl (Nat.le_of_ble_eq_true rfl) (Nat.le_of_ble_eq_true rfl) ?_
        refine sp_Md_tagBy (by omega) (by omega) ?_
        refine ⟨_, rfl, ?_⟩
        refine zp_ireturn (pc := 72) d_Md_move_72 rfl ?_
        rw [hG] at k1
        have ee : c_mv F t x = tb (hdl G x) := by
          rw [hhx]
          unfold c_mv
          (repeat' split) <;> omega
        have z := k1 (by rw [ee]; omega)
        rw [ee] at z
        exact z
      · refine zp_bipush (pc := 54) d_Md_move_54 (by decide) ?_
        refine zp_ireturn (pc := 56) d_Md_move_56 rfl ?_
        have ee : c_mv F t x = -4 := by
          unfold c_mv
          (repeat' split) <;> omega
        have z := k0 (by omega)
        rw [ee] at z
        exact z
    · refine wp_iconst (pc := 20) d_Md_move_20 ?_
      refine zp_ireturn (pc := 21) d_Md_move_21 rfl ?_
      have ee : c_mv F t x = -1 := by
        unfold c_mv
        (repeat' split) <;> omega
      have z := k0 (by omega)
      rw [ee] at z
      exact z
  · refine wp_iload_n (pc := 10) d_Md_move_10 rfl ?_
    refine zp_ireturn (pc := 11) d_Md_move_11 rfl ?_
    have ee : c_mv F t x = noT F t := by
      unfold c_mv
      (repeat' split) <;> omega
    have z := k0 (by omega)
    rw [ee] at z
    exact z
set_option maxRecDepth 100000 in
theorem lp_Md_passDay (hE : gOk E) (hB : gB E ≤ mo) {n : Int} (hJ : J n F) (hn : n ≤ 800000000) (k : Q (some (.int (zI (pdS F 60).1))) (MH mo h (pdS F 60).2 sn kp g ln)) : ∀ (d i : Nat), i + d = 60 → Wp E m_Md_passDay 14 [some (.ref mo), some (.int (zI (pdS F i).1)), some (.int (zI i))] [] (MH mo h (pdS F i).2 sn kp g ln) Q := by
  intro d
  induction d with
  | zero =>
    intro i hi
    have hB1 : gB E ≤ mo + 1 := by omega
    obtain rfl : i = 60 := by omega
    refine wp_iload_n (pc := 14) d_Md_passDay_14 rfl ?_
    refine zp_bipush (pc := 15) d_Md_passDay_15 (by decide) ?_
    refine zp_icmp_ge (tgt := 104) (pc := 17) d_Md_passDay_17 (by decide) ⟨by omega, by omega⟩ ⟨by omega, by omega⟩ (fun c17 => ?_) (fun c17 => absurd c17 (by omega))
    refine wp_iload_n (pc := 104) d_Md_passDay_104 rfl ?_
    refine zp_ireturn (pc := 105) d_Md_passDay_105 rfl ?_
    exact k
  | succ d ih =>
    intro i hi
    have hB1 : gB E ≤ mo + 1 := by omega
    have e : ((i + 1 : Nat) : Int) = (i : Int) + 1 := by omega
    have hP0 := hJ.pd i (by omega)
    have hps := pdS_s F i _ rfl
    have zz := ih (i + 1) (by omega)
    rw [e, hps] at zz
    generalize pdS F i = P at hP0 zz ⊢
    obtain ⟨hJP, hc0, hc1⟩ := hP0
    have hV := hJP.vd
    have hs := hV.1
    have hk := hV.2.2.2.1 (i : Int) (by omega) (by omega)
    refine wp_iload_n (pc := 14) d_Md_passDay_14 rfl ?_
    refine zp_bipush (pc := 15) d_Md_passDay_15 (by decide) ?_
    refine zp_icmp_ge (tgt := 104) (pc := 17) d_Md_passDay_17 (by decide) ⟨by omega, by omega⟩ ⟨by omega, by omega⟩ (fun c17 => absurd c17 (by omega)) (fun c17 => ?_)
    refine wp_aload_n (pc := 20) d_Md_passDay_20 rfl ?_
    refine wp_iload_n (pc := 21) d_Md_passDay_21 rfl ?_
    refine wv_callV (n := 1) (As := [_]) (pc := 22) d_Md_passDay_22 s_Md_56 q_Md_holds ⟨by decide, by decide⟩ MH_o rfl rfl rfl rfl (Nat.le_of_ble_eq_true rfl) (Nat.le_of_ble_eq_true rfl) ?_
    refine sp_Md_holds hE (by omega) (by omega) (by omega) ?_
    refine ⟨_, rfl, ?_⟩
    refine zp_ifb_eq (tgt := 98) (pc := 25) d_Md_passDay_25 (by decide) (fun c25 => ?_) (fun c25 => ?_)
    · refine st_c2 (pc := 98) d_Md_passDay_98 (by decide) ?_
      refine wp_goto (tgt := 14) (pc := 101) d_Md_passDay_101 (by decide) ?_
      first | (rw [if_pos (by omega)] at zz; exact zz) | (rw [if_neg (by omega)] at zz; exact zz)
    · refine wp_aload_n (pc := 28) d_Md_passDay_28 rfl ?_
      refine wp_getfield (pc := 29) d_Md_passDay_29 f_Md_8 MH_o rfl ?_
      refine wp_iconst (pc := 32) d_Md_passDay_32 ?_
      refine zp_iaload (pc := 33) d_Md_passDay_33 hE.1 MH_r (by omega) (by omega) (by decide) ?_
      refine wp_aload_n (pc := 34) d_Md_passDay_34 rfl ?_
      refine wp_getfield (pc := 35) d_Md_passDay_35 f_Md_8 MH_o rfl ?_
      refine wp_iload_n (pc := 38) d_Md_passDay_38 rfl ?_
      refine wp_iconst (pc := 39) d_Md_passDay_39 ?_
      refine wv_callS (n := 2) (As := [_, _]) (pc := 40) d_Md_passDay_40 s_Md_50 q_Md_of ⟨by decide, by decide⟩ rfl rfl rfl (Nat.le_of_ble_eq_true rfl) (Nat.le_of_ble_eq_true rfl) ?_
      refine sp_Md_of ?_
      refine ⟨_, rfl, ?_⟩
      refine zp_iaload (pc := 43) d_Md_passDay_43 hE.1 MH_r (by omega) (by omega) (by decide) ?_
      refine zp_isub (pc := 44) d_Md_passDay_44 ?_
      refine wp_aload_n (pc := 45) d_Md_passDay_45 rfl ?_
      refine wp_getfield (pc := 46) d_Md_passDay_46 f_Md_8 MH_o rfl ?_
      refine wp_iconst (pc := 49) d_Md_passDay_49 ?_
      refine zp_iaload (pc := 50) d_Md_passDay_50 hE.1 MH_r (by omega) (by omega) (by decide) ?_
      refine zp_icmp_le (tgt := 98) (pc := 51) d_Md_passDay_51 (by decide) ⟨by omega, by omega⟩ ⟨by omega, by omega⟩ (fun c51 => ?_) (fun c51 => ?_)
      · refine st_c2 (pc := 98) d_Md_passDay_98 (by decide) ?_
        refine wp_goto (tgt := 14) (pc := 101) d_Md_passDay_101 (by decide) ?_
        first | (rw [if_pos (by omega)] at zz; exact zz) | (rw [if_neg (by omega)] at zz; exact zz)
      · refine wp_aload_n (pc := 54) d_Md_passDay_54 rfl ?_
        refine wp_getfield (pc := 55) d_Md_passDay_55 f_Md_8 MH_o rfl ?_
        refine zp_bipush (pc := 58) d_Md_passDay_58 (by decide) ?_
        refine wp_dup2 (pc := 60) d_Md_passDay_60 rfl rfl ?_
        refine zp_iaload (pc := 61) d_Md_passDay_61 hE.1 MH_r (by omega) (by omega) (by decide) ?_
        refine zp_bipush (pc := 62) d_Md_passDay_62 (by decide) ?_
        refine wp_aload_n (pc := 64) d_Md_passDay_64 rfl ?_
        refine wp_getfield (pc := 65) d_Md_passDay_65 f_Md_8 MH_o rfl ?_
        refine wp_iload_n (pc := 68) d_Md_passDay_68 rfl ?_
        refine wp_iconst (pc := 69) d_Md_passDay_69 ?_
        refine wv_callS (n := 2) (As := [_, _]) (pc := 70) d_Md_passDay_70 s_Md_50 q_Md_of ⟨by decide, by decide⟩ rfl rfl rfl (Nat.le_of_ble_eq_true rfl) (Nat.le_of_ble_eq_true rfl) ?_
        refine sp_Md_of ?_
        refine ⟨_, rfl, ?_⟩
        refine zp_iaload (pc := 73) d_Md_passDay_73 hE.1 MH_r (by omega) (by omega) (by decide) ?_
        try simp (disch := omega) only [zup_ne, zup_eq, lvF_o, hgF_o, lgF_o]
        refine zp_imul (pc := 74) d_Md_passDay_74 ?_
        refine zp_iadd (pc := 75) d_Md_passDay_75 ?_
        refine zp_iastore (pc := 76) d_Md_passDay_76 hE.1 MH_r hB1 (by omega) (by omega) (by decide) ?_
        rw [MH_pr]
        refine wp_aload_n (pc := 77) d_Md_passDay_77 rfl ?_
        refine wp_getfield (pc := 78) d_Md_passDay_78 f_Md_8 MH_o rfl ?_
        refine zp_bipush (pc := 81) d_Md_passDay_81 (by decide) ?_
        refine wp_dup2 (pc := 83) d_Md_passDay_83 rfl rfl ?_
        refine zp_iaload (pc := 84) d_Md_passDay_84 hE.1 MH_r (by omega) (by omega) (by decide) ?_
        try simp (disch := omega) only [zup_ne, zup_eq, lvF_o, hgF_o, lgF_o]
        refine wp_iconst (pc := 85) d_Md_passDay_85 ?_
        refine zp_iadd (pc := 86) d_Md_passDay_86 ?_
        refine zp_iastore (pc := 87) d_Md_passDay_87 hE.1 MH_r hB1 (by omega) (by omega) (by decide) ?_
        rw [MH_pr]
        refine wp_aload_n (pc := 88) d_Md_passDay_88 rfl ?_
        refine wp_iload_n (pc := 89) d_Md_passDay_89 rfl ?_
        refine wp_iconst (pc := 90) d_Md_passDay_90 ?_
        refine wp_iconst (pc := 91) d_Md_passDay_91 ?_
        refine wn_callV (n := 3) (As := [_, _, _]) (pc := 92) d_Md_passDay_92 s_Md_114 q_Md_end ⟨by decide, by decide⟩ MH_o rfl rfl rfl rfl (Nat.le_of_ble_eq_true rfl) (Nat.le_of_ble_eq_true rfl) ?_
        refine sp_Md_end hE hB (hJP.1.cnt (j := 9) (by omega)) (by omega) (by omega) (by omega) (by omega) (hJP.cu (by omega) (by omega) (by omega) (by omega)) ?_
        refine ⟨rfl, ?_⟩
        refine st_c1 (pc := 95) d_Md_passDay_95 (by decide) ?_
        refine st_c2 (pc := 98) d_Md_passDay_98 (by decide) ?_
        refine wp_goto (tgt := 14) (pc := 101) d_Md_passDay_101 (by decide) ?_
        first | (rw [if_pos (by omega)] at zz; exact zz) | (rw [if_neg (by omega)] at zz; exact zz)
set_option maxRecDepth 100000 in
theorem sp_Md_passDay (hE : gOk E) (hB : gB E ≤ mo) {n : Int} (hJ : J n F) (hn : n ≤ 800000000) (hd : F 0 + 1 ≤ 9999) (k : Q (some (.int (zI (pdS (zup F 0 (F 0 + 1)) 60).1))) (MH mo h (pdS (zup F 0 (F 0 + 1)) 60).2 sn kp g ln)) : Wp E m_Md_passDay 0 (gEnt m_Md_passDay [.ref mo]) [] (MH mo h F sn kp g ln) Q := by
  have hB1 : gB E ≤ mo + 1 := by omega
  show Wp E m_Md_passDay 0 [some (_), none, none] [] _ _
  refine wp_iconst (pc := 0) d_Md_passDay_0 ?_
  refine st_i1 (pc := 1) d_Md_passDay_1 (by decide) ?_
  refine wp_aload_n (pc := 2) d_Md_passDay_2 rfl ?_
  refine wp_getfield (pc := 3) d_Md_passDay_3 f_Md_8 MH_o rfl ?_
  refine wp_iconst (pc := 6) d_Md_passDay_6 ?_
  refine wp_dup2 (pc := 7) d_Md_passDay_7 rfl rfl ?_
  refine zp_iaload (pc := 8) d_Md_passDay_8 hE.1 MH_r (by omega) (by omega) (by decide) ?_
  refine wp_iconst (pc := 9) d_Md_passDay_9 ?_
  refine zp_iadd (pc := 10) d_Md_passDay_10 ?_
  refine zp_iastore (pc := 11) d_Md_passDay_11 hE.1 MH_r hB1 (by omega) (by omega) (by decide) ?_
  rw [MH_pr]
  refine wp_iconst (pc := 12) d_Md_passDay_12 ?_
  refine st_i2 (pc := 13) d_Md_passDay_13 (by decide) ?_
  exact lp_Md_passDay hE hB (hJ.day hd) hn k 60 0 rfl
end S25
