/-! ===== the reference: a rack moved ===== -/
section S29
variable {E : gE} {mo : Nat} {h : gH} {F g : Int → Int} {sn kp ln : Int} {Q : Option Value → gH → Prop}
set_option maxRecDepth 100000 in
theorem lp_Md_freeOn (hE : gOk E) {n b z : Int} (hV : Vd n F) (h0 : 0 ≤ b) (h1 : b < 5) (rz : gR z) (k : Q (some (.int (zI (fo F b z 12)))) (MH mo h F sn kp g ln)) : ∀ (d i : Nat), fo F b z i = -5 → i + d = 12 → Wp E m_Md_freeOn 5 [some (.ref mo), some (.int (zI b)), some (.int (zI z)), some (.int (zI (12 * b + i)))] [] (MH mo h F sn kp g ln) Q := by
  intro d
  induction d with
  | zero =>
    intro i hf hi
    obtain rfl : i = 12 := by omega
    refine wp_iload_n (pc := 5) d_Md_freeOn_5 rfl ?_
    refine zp_bipush (pc := 6) d_Md_freeOn_6 (by decide) ?_
    refine wp_iload_n (pc := 8) d_Md_freeOn_8 rfl ?_
    refine zp_imul (pc := 9) d_Md_freeOn_9 ?_
    refine zp_bipush (pc := 10) d_Md_freeOn_10 (by decide) ?_
    refine zp_iadd (pc := 12) d_Md_freeOn_12 ?_
    refine zp_icmp_ge (tgt := 33) (pc := 13) d_Md_freeOn_13 (by decide) ⟨by omega, by omega⟩ ⟨by omega, by omega⟩ (fun c13 => ?_) (fun c13 => absurd c13 (by omega))
    refine zp_bipush (pc := 33) d_Md_freeOn_33 (by decide) ?_
    refine zp_ireturn (pc := 35) d_Md_freeOn_35 rfl ?_
    rw [hf] at k
    exact k
  | succ d ih =>
    intro i hf hi
    have e : ((i + 1 : Nat) : Int) = (i : Int) + 1 := by omega
    refine wp_iload_n (pc := 5) d_Md_freeOn_5 rfl ?_
    refine zp_bipush (pc := 6) d_Md_freeOn_6 (by decide) ?_
    refine wp_iload_n (pc := 8) d_Md_freeOn_8 rfl ?_
    refine zp_imul (pc := 9) d_Md_freeOn_9 ?_
    refine zp_bipush (pc := 10) d_Md_freeOn_10 (by decide) ?_
    refine zp_iadd (pc := 12) d_Md_freeOn_12 ?_
    refine zp_icmp_ge (tgt := 33) (pc := 13) d_Md_freeOn_13 (by decide) ⟨by omega, by omega⟩ ⟨by omega, by omega⟩ (fun c13 => absurd c13 (by omega)) (fun c13 => ?_)
    refine wp_aload_n (pc := 16) d_Md_freeOn_16 rfl ?_
    refine wp_iload_n (pc := 17) d_Md_freeOn_17 rfl ?_
    refine wp_iload_n (pc := 18) d_Md_freeOn_18 rfl ?_
    refine wv_callV (n := 2) (As := [_, _]) (pc := 19) d_Md_freeOn_19 s_Md_91 q_Md_isFree ⟨by decide, by decide⟩ MH_o rfl rfl rfl rfl (Nat.le_of_ble_eq_true rfl) (Nat.le_of_ble_eq_true rfl) ?_
    refine sp_Md_isFree hE hV (by omega) (by omega) rz ?_
    refine ⟨_, rfl, ?_⟩
    refine zp_ifb_eq (tgt := 27) (pc := 22) d_Md_freeOn_22 (by decide) (fun c22 => ?_) (fun c22 => ?_)
    · refine st_c3 (pc := 27) d_Md_freeOn_27 (by decide) ?_
      refine wp_goto (tgt := 5) (pc := 30) d_Md_freeOn_30 (by decide) ?_
      have zz := ih (i + 1) (by rw [fo_s, if_neg (fun q => q hf), if_neg c22]) (by omega)
      rw [e, show 12 * b + ((i : Int) + 1) = 12 * b + i + 1 by omega] at zz
      exact zz
    · refine wp_iload_n (pc := 25) d_Md_freeOn_25 rfl ?_
      refine zp_ireturn (pc := 26) d_Md_freeOn_26 rfl ?_
      rw [fo_at hf (by assumption) h0 (by omega)] at k
      exact k
set_option maxRecDepth 100000 in
theorem sp_Md_freeOn (hE : gOk E) {n b z : Int} (hV : Vd n F) (h0 : 0 ≤ b) (h1 : b < 5) (rz : gR z) (k : Q (some (.int (zI (fo F b z 12)))) (MH mo h F sn kp g ln)) : Wp E m_Md_freeOn 0 (gEnt m_Md_freeOn [.ref mo, .int (zI b), .int (zI z)]) [] (MH mo h F sn kp g ln) Q := by
  show Wp E m_Md_freeOn 0 [some (_), some (_), some (_), none] [] _ _
  refine zp_bipush (pc := 0) d_Md_freeOn_0 (by decide) ?_
  refine wp_iload_n (pc := 2) d_Md_freeOn_2 rfl ?_
  refine zp_imul (pc := 3) d_Md_freeOn_3 ?_
  refine st_i3 (pc := 4) d_Md_freeOn_4 (by decide) ?_
  have zz := lp_Md_freeOn (mo := mo) (h := h) hE hV h0 h1 rz k 12 0 rfl rfl
  rw [show 12 * b + ((0 : Nat) : Int) = 12 * b by omega] at zz
  exact zz
set_option maxRecDepth 100000 in
theorem lp_Md_moveOn (hE : gOk E) (hB : gB E ≤ mo) {n a b : Int} (hJ : J n F) (hn : n ≤ 800000000) (ha : 0 ≤ a ∧ a < 5) (hb : 0 ≤ b ∧ b < 5) (hab : a ≠ b) (k : Q (some (.int (zI (mvS F a b 12).1))) (MH mo h (mvS F a b 12).2 sn kp g ln)) : ∀ (d i : Nat) (o4 : Option Value), (mvS F a b i).1 = 1 → i + d = 12 → Wp E m_Md_moveOn 5 [some (.ref mo), some (.int (zI a)), some (.int (zI b)), some (.int (zI (12 * a + i))), o4] [] (MH mo h (mvS F a b i).2 sn kp g ln) Q := by
  intro d
  induction d with
  | zero =>
    intro i o4 hm hi
    obtain rfl : i = 12 := by omega
    rw [hm] at k
    refine wp_iload_n (pc := 5) d_Md_moveOn_5 rfl ?_
    refine zp_bipush (pc := 6) d_Md_moveOn_6 (by decide) ?_
    refine wp_iload_n (pc := 8) d_Md_moveOn_8 rfl ?_
    refine zp_imul (pc := 9) d_Md_moveOn_9 ?_
    refine zp_bipush (pc := 10) d_Md_moveOn_10 (by decide) ?_
    refine zp_iadd (pc := 12) d_Md_moveOn_12 ?_
    refine zp_icmp_ge (tgt := 84) (pc := 13) d_Md_moveOn_13 (by decide) ⟨by omega, by omega⟩ ⟨by omega, by omega⟩ (fun c13 => ?_) (fun c13 => absurd c13 (by omega))
    refine wp_iconst (pc := 84) d_Md_moveOn_84 ?_
    refine zp_zreturn (pc := 85) d_Md_moveOn_85 rfl rfl ?_
    exact k
  | succ d ih =>
    intro i o4 hm hi
    have hB1 : gB E ≤ mo + 1 := by omega
    have e : ((i + 1 : Nat) : Int) = (i : Int) + 1 := by omega
    have hP := hJ.mv ha hb hab i (by omega)
    have hps := mvS_s F a b i _ rfl
    rw [if_neg (fun q => q hm)] at hps
    have kz : ¬ (mvS F a b (i + 1)).1 = 1 → mvS F a b 12 = mvS F a b (i + 1) := fun q => by
      have := mvS_keep q (11 - i)
      rwa [show i + 1 + (11 - i) = 12 by omega] at this
    have ihh := ih (i + 1)
    rw [e, show 12 * a + ((i : Int) + 1) = 12 * a + i + 1 by omega] at ihh
    rw [hps] at kz ihh
    generalize mvS F a b i = P at hm hP hps kz ihh ⊢
    have hV := hP.vd
    have hk := hV.2.2.2.1 (12 * a + (i : Int)) (by omega) (by omega)
    have hfb := fo_b (F := P.2) (z := P.2 (29 + 8 * (12 * a + (i : Int)) + 3)) hb.1 12
    refine wp_iload_n (pc := 5) d_Md_moveOn_5 rfl ?_
    refine zp_bipush (pc := 6) d_Md_moveOn_6 (by decide) ?_
    refine wp_iload_n (pc := 8) d_Md_moveOn_8 rfl ?_
    refine zp_imul (pc := 9) d_Md_moveOn_9 ?_
    refine zp_bipush (pc := 10) d_Md_moveOn_10 (by decide) ?_
    refine zp_iadd (pc := 12) d_Md_moveOn_12 ?_
    refine zp_icmp_ge (tgt := 84) (pc := 13) d_Md_moveOn_13 (by decide) ⟨by omega, by omega⟩ ⟨by omega, by omega⟩ (fun c13 => absurd c13 (by omega)) (fun c13 => ?_)
    refine wp_aload_n (pc := 16) d_Md_moveOn_16 rfl ?_
    refine wp_iload_n (pc := 17) d_Md_moveOn_17 rfl ?_
    refine wv_callV (n := 1) (As := [_]) (pc := 18) d_Md_moveOn_18 s_Md_56 q_Md_holds ⟨by decide, by decide⟩ MH_o rfl rfl rfl rfl (Nat.le_of_ble_eq_true rfl) (Nat.le_of_ble_eq_true rfl) ?_
    refine sp_Md_holds hE (by omega) (by omega) (by omega) ?_
    refine ⟨_, rfl, ?_⟩
    refine zp_ifb_eq (tgt := 42) (pc := 21) d_Md_moveOn_21 (by decide) (fun c21 => ?_) (fun c21 => ?_)
    · refine zp_bipush (pc := 42) d_Md_moveOn_42 (by decide) ?_
      refine st_i4 (pc := 44) d_Md_moveOn_44 (by decide) ?_
      refine wp_aload_n (pc := 46) d_Md_moveOn_46 rfl ?_
      refine wp_iload_n (pc := 47) d_Md_moveOn_47 rfl ?_
      refine wv_callV (n := 1) (As := [_]) (pc := 48) d_Md_moveOn_48 s_Md_56 q_Md_holds ⟨by decide, by decide⟩ MH_o rfl rfl rfl rfl (Nat.le_of_ble_eq_true rfl) (Nat.le_of_ble_eq_true rfl) ?_
      refine sp_Md_holds hE (by omega) (by omega) (by omega) ?_
      refine ⟨_, rfl, ?_⟩
      refine zp_ifb_eq (tgt := 63) (pc := 51) d_Md_moveOn_51 (by decide) (fun c51 => ?_) (fun c51 => absurd c51 c21)
      refine wp_iload (pc := 63) d_Md_moveOn_63 rfl ?_
      refine zp_bipush (pc := 65) d_Md_moveOn_65 (by decide) ?_
      refine zp_icmp_eq (tgt := 78) (pc := 67) d_Md_moveOn_67 (by decide) ⟨by omega, by omega⟩ ⟨by omega, by omega⟩ (fun c67 => ?_) (fun c67 => absurd c67 (by omega))
      refine st_c3 (pc := 78) d_Md_moveOn_78 (by decide) ?_
      refine wp_goto (tgt := 5) (pc := 81) d_Md_moveOn_81 (by decide) ?_
      rw [if_pos c21] at ihh
      exact ihh _ hm (by omega)
    · refine wp_aload_n (pc := 24) d_Md_moveOn_24 rfl ?_
      refine wp_iload_n (pc := 25) d_Md_moveOn_25 rfl ?_
      refine wp_aload_n (pc := 26) d_Md_moveOn_26 rfl ?_
      refine wp_getfield (pc := 27) d_Md_moveOn_27 f_Md_8 MH_o rfl ?_
      refine wp_iload_n (pc := 30) d_Md_moveOn_30 rfl ?_
      refine wp_iconst (pc := 31) d_Md_moveOn_31 ?_
      refine wv_callS (n := 2) (As := [_, _]) (pc := 32) d_Md_moveOn_32 s_Md_50 q_Md_of ⟨by decide, by decide⟩ rfl rfl rfl (Nat.le_of_ble_eq_true rfl) (Nat.le_of_ble_eq_true rfl) ?_
      refine sp_Md_of ?_
      refine ⟨_, rfl, ?_⟩
      refine zp_iaload (pc := 35) d_Md_moveOn_35 hE.1 MH_r (by omega) (by omega) (by decide) ?_
      refine wv_callV (n := 2) (As := [_, _]) (pc := 36) d_Md_moveOn_36 s_Md_127 q_Md_freeOn ⟨by decide, by decide⟩ MH_o rfl rfl rfl rfl (Nat.le_of_ble_eq_true rfl) (Nat.le_of_ble_eq_true rfl) ?_
      refine sp_Md_freeOn hE hV hb.1 hb.2 ⟨by omega, by omega⟩ ?_
      refine ⟨_, rfl, ?_⟩
      refine wp_goto (tgt := 44) (pc := 39) d_Md_moveOn_39 (by decide) ?_
      refine st_i4 (pc := 44) d_Md_moveOn_44 (by decide) ?_
      refine wp_aload_n (pc := 46) d_Md_moveOn_46 rfl ?_
      refine wp_iload_n (pc := 47) d_Md_moveOn_47 rfl ?_
      refine wv_callV (n := 1) (As := [_]) (pc := 48) d_Md_moveOn_48 s_Md_56 q_Md_holds ⟨by decide, by decide⟩ MH_o rfl rfl rfl rfl (Nat.le_of_ble_eq_true rfl) (Nat.le_of_ble_eq_true rfl) ?_
      refine sp_Md_holds hE (by omega) (by omega) (by omega) ?_
      refine ⟨_, rfl, ?_⟩
      refine zp_ifb_eq (tgt := 63) (pc := 51) d_Md_moveOn_51 (by decide) (fun c51 => absurd c21 c51) (fun c51 => ?_)
      refine wp_iload (pc := 54) d_Md_moveOn_54 rfl ?_
      refine zp_bipush (pc := 56) d_Md_moveOn_56 (by decide) ?_
      refine zp_icmp_ne (tgt := 63) (pc := 58) d_Md_moveOn_58 (by decide) ⟨by omega, by omega⟩ ⟨by omega, by omega⟩ (fun c58 => ?_) (fun c58 => ?_)
      · refine wp_iload (pc := 63) d_Md_moveOn_63 rfl ?_
        refine zp_bipush (pc := 65) d_Md_moveOn_65 (by decide) ?_
        refine zp_icmp_eq (tgt := 78) (pc := 67) d_Md_moveOn_67 (by decide) ⟨by omega, by omega⟩ ⟨by omega, by omega⟩ (fun c67 => absurd c67 (by omega)) (fun c67 => ?_)
        refine wp_aload_n (pc := 70) d_Md_moveOn_70 rfl ?_
        refine wp_iload_n (pc := 71) d_Md_moveOn_71 rfl ?_
        refine wp_iload (pc := 72) d_Md_moveOn_72 rfl ?_
        refine wv_callV (n := 2) (As := [_, _]) (pc := 74) d_Md_moveOn_74 s_Md_124 q_Md_doMove ⟨by decide, by decide⟩ MH_o rfl rfl rfl rfl (Nat.le_of_ble_eq_true rfl) (Nat.le_of_ble_eq_true rfl) ?_
        refine sp_Md_doMove hE hB hP.1 (by omega) (by omega) (by omega) (by omega) (by omega) (by omega) (hP.u (by omega) (by omega) c21) ?_
        refine ⟨_, rfl, ?_⟩
        refine wp_pop (pc := 77) d_Md_moveOn_77 rfl ?_
        refine st_c3 (pc := 78) d_Md_moveOn_78 (by decide) ?_
        refine wp_goto (tgt := 5) (pc := 81) d_Md_moveOn_81 (by decide) ?_
        have n21 : ¬ ¬ P.2 (29 + 8 * (12 * a + (i : Int)) + 1) = 1 := fun q => q c21
        rw [if_neg n21, if_neg c58] at ihh
        exact ihh _ rfl (by omega)
      · refine wp_iconst (pc := 61) d_Md_moveOn_61 ?_
        refine zp_zreturn (pc := 62) d_Md_moveOn_62 rfl rfl ?_
        have n21 : ¬ ¬ P.2 (29 + 8 * (12 * a + (i : Int)) + 1) = 1 := fun q => q c21
        rw [if_neg n21, if_pos c58] at kz
        rw [kz (by show ¬ (0 : Int) = 1; omega)] at k
        exact k
set_option maxRecDepth 100000 in
theorem sp_Md_moveOn (hE : gOk E) (hB : gB E ≤ mo) {n a b : Int} (hJ : J n F) (hn : n ≤ 800000000) (ha : 0 ≤ a ∧ a < 5) (hb : 0 ≤ b ∧ b < 5) (hab : a ≠ b) (k : Q (some (.int (zI (mvS F a b 12).1))) (MH mo h (mvS F a b 12).2 sn kp g ln)) : Wp E m_Md_moveOn 0 (gEnt m_Md_moveOn [.ref mo, .int (zI a), .int (zI b)]) [] (MH mo h F sn kp g ln) Q := by
  show Wp E m_Md_moveOn 0 [some (_), some (_), some (_), none, none] [] _ _
  refine zp_bipush (pc := 0) d_Md_moveOn_0 (by decide) ?_
  refine wp_iload_n (pc := 2) d_Md_moveOn_2 rfl ?_
  refine zp_imul (pc := 3) d_Md_moveOn_3 ?_
  refine st_i3 (pc := 4) d_Md_moveOn_4 (by decide) ?_
  have zz := lp_Md_moveOn (mo := mo) (h := h) hE hB hJ hn ha hb hab k 12 0 none rfl rfl
  rw [show 12 * a + ((0 : Nat) : Int) = 12 * a by omega] at zz
  exact zz
set_option maxRecDepth 100000 in
theorem sp_Md_moveAll (hE : gOk E) (hB : gB E ≤ mo) {n : Int} (hJ : J n F) (hn : n ≤ 700000000) (hs0 : 0 ≤ sn) (hs1 : sn ≤ 4) {a b : Int} (ra : gR a) (rb : gR b) (k : ∀ F2 : Int → Int, (∀ j : Int, j < 39354 → F2 j = (if c_ma F a b < 0 then F else u_ma (rcF F sn 0) a b) j) → Q (some (.int (zI (c_ma F a b)))) (MH mo h F2 (if c_ma F a b < 0 then sn else rcS sn) kp g ln)) : Wp E m_Md_moveAll 0 (gEnt m_Md_moveAll [.ref mo, .int (zI a), .int (zI b)]) [] (MH mo h F sn kp g ln) Q := by
  have hB1 : gB E ≤ mo + 1 := by omega
  have hV := hJ.vd
  have hs := hV.1
  show Wp E m_Md_moveAll 0 [some (_), some (_), some (_), none] [] _ _
  refine wp_aload_n (pc := 0) d_Md_moveAll_0 rfl ?_
  refine wp_iload_n (pc := 1) d_Md_moveAll_1 rfl ?_
  refine wv_callV (n := 1) (As := [_]) (pc := 2) d_Md_moveAll_2 s_Md_42 q_Md_isRack ⟨by decide, by decide⟩ MH_o rfl rfl rfl rfl (Nat.le_of_ble_eq_true rfl) (Nat.le_of_ble_eq_true rfl) ?_
  refine sp_Md_isRack hE ra (by omega) ?_
  refine ⟨_, rfl, ?_⟩
  refine zp_ifb_eq (tgt := 16) (pc := 5) d_Md_moveAll_5 (by decide) (fun c5 => ?_) (fun c5 => ?_)
  · refine wp_iconst (pc := 16) d_Md_moveAll_16 ?_
    refine zp_ireturn (pc := 17) d_Md_moveAll_17 rfl ?_
    have ee : c_ma F a b = -1 := by
      unfold c_ma
      (repeat' split) <;> omega
    have z := k F (fun j hj => by rw [if_pos (by omega)])
    rw [if_pos (by omega), ee] at z
    exact z
  · refine wp_aload_n (pc := 8) d_Md_moveAll_8 rfl ?_
    refine wp_iload_n (pc := 9) d_Md_moveAll_9 rfl ?_
    refine wv_callV (n := 1) (As := [_]) (pc := 10) d_Md_moveAll_10 s_Md_42 q_Md_isRack ⟨by decide, by decide⟩ MH_o rfl rfl rfl rfl (Nat.le_of_ble_eq_true rfl) (Nat.le_of_ble_eq_true rfl) ?_
    refine sp_Md_isRack hE rb (by omega) ?_
    refine ⟨_, rfl, ?_⟩
    refine zp_ifb_ne (tgt := 18) (pc := 13) d_Md_moveAll_13 (by decide) (fun c13 => ?_) (fun c13 => ?_)
    · refine wp_iload_n (pc := 18) d_Md_moveAll_18 rfl ?_
      refine wp_iload_n (pc := 19) d_Md_moveAll_19 rfl ?_
      refine zp_icmp_ne (tgt := 26) (pc := 20) d_Md_moveAll_20 (by decide) ⟨by omega, by omega⟩ ⟨by omega, by omega⟩ (fun c20 => ?_) (fun c20 => ?_)
      · refine wp_aload_n (pc := 26) d_Md_moveAll_26 rfl ?_
        refine wp_iload_n (pc := 27) d_Md_moveAll_27 rfl ?_
        refine wv_callV (n := 1) (As := [_]) (pc := 28) d_Md_moveAll_28 s_Md_59 q_Md_coatsOn ⟨by decide, by decide⟩ MH_o rfl rfl rfl rfl (Nat.le_of_ble_eq_true rfl) (Nat.le_of_ble_eq_true rfl) ?_
        refine sp_Md_coatsOn hE (by omega) (by omega) ?_
        refine ⟨_, rfl, ?_⟩
        have hsb : 0 ≤ sC F a ∧ sC F a ≤ _ := sm_b (m := 1) (by omega) fun q hq => (hV.2.2.2.1 _ (by omega) (by omega)).2.1
        rw [show sm (fun y => F (29 + 8 * (12 * a + y) + 1)) 12 = sC F a from rfl]
        refine st_i3 (pc := 31) d_Md_moveAll_31 (by decide) ?_
        refine wp_iload_n (pc := 32) d_Md_moveAll_32 rfl ?_
        refine zp_if_ne (tgt := 39) (pc := 33) d_Md_moveAll_33 (by decide) ⟨by omega, by omega⟩ (fun c33 => ?_) (fun c33 => ?_)
        · refine wp_aload_n (pc := 39) d_Md_moveAll_39 rfl ?_
          refine wp_iconst (pc := 40) d_Md_moveAll_40 ?_
          refine wp_ldc (pc := 41) d_Md_moveAll_41 l_Md_130 ?_
          refine wn_callV (n := 2) (As := [_, _]) (pc := 43) d_Md_moveAll_43 s_Md_21 q_Md_copy ⟨by decide, by decide⟩ MH_o rfl rfl rfl rfl (Nat.le_of_ble_eq_true rfl) (Nat.le_of_ble_eq_true rfl) ?_
          refine sp_Md_copy (a := 0) (b := 39354) hE hB (by omega) (by omega) (by omega) (by omega) (by omega) ?_
          refine ⟨rfl, ?_⟩
          have hgo : ∀ j : Int, j < 39354 → cpF F 0 39354 j = F j := fun j hj => cpF_out (by omega)
          have hgT : ∀ j : Int, 0 ≤ j → j < 6559 → cpF F 0 39354 (39354 + j) = F j := fun j h0 h1 => by
            rw [cpF_in (by omega) (by omega)]
            congr 1
            omega
          generalize cpF F 0 39354 = G at hgo hgT ⊢
          have hJG : J n G := hJ.congr fun j _ hj => hgo j (by omega)
          have hag := ag_mv hJ (fun j hj => hgo j (by omega)) (a := a) (b := b) ⟨by omega, by omega⟩ ⟨by omega, by omega⟩ (by omega) 12 (by omega)
          have hou := mvS_ou hJG (a := a) (b := b) ⟨by omega, by omega⟩ ⟨by omega, by omega⟩ (by omega) 12 (by omega)
          refine wp_aload_n (pc := 46) d_Md_moveAll_46 rfl ?_
          refine wp_iload_n (pc := 47) d_Md_moveAll_47 rfl ?_
          refine wp_iload_n (pc := 48) d_Md_moveAll_48 rfl ?_
          refine wv_callV (n := 2) (As := [_, _]) (pc := 49) d_Md_moveAll_49 s_Md_131 q_Md_moveOn ⟨by decide, by decide⟩ MH_o rfl rfl rfl rfl (Nat.le_of_ble_eq_true rfl) (Nat.le_of_ble_eq_true rfl) ?_
          refine sp_Md_moveOn hE hB hJG (by omega) ⟨by omega, by omega⟩ ⟨by omega, by omega⟩ (by omega) ?_
          refine ⟨_, rfl, ?_⟩
          refine zp_if_ne (tgt := 65) (pc := 52) d_Md_moveAll_52 (by decide) ⟨by omega, by omega⟩ (fun c52 => ?_) (fun c52 => ?_)
          · refine wp_aload_n (pc := 65) d_Md_moveAll_65 rfl ?_
            refine wp_ldc (pc := 66) d_Md_moveAll_66 l_Md_130 ?_
            refine wn_callV (n := 1) (As := [_]) (pc := 68) d_Md_moveAll_68 s_Md_34 q_Md_record ⟨by decide, by decide⟩ MH_o rfl rfl rfl rfl (Nat.le_of_ble_eq_true rfl) (Nat.le_of_ble_eq_true rfl) ?_
            refine sp_Md_record hE hB (Or.inr rfl) hs0 hs1 ?_
            refine ⟨rfl, ?_⟩
            refine wp_iload_n (pc := 71) d_Md_moveAll_71 rfl ?_
            refine zp_ireturn (pc := 72) d_Md_moveAll_72 rfl ?_
            have em : (mvS F a b 12).1 = 1 := by omega
            have ee : c_ma F a b = sC F a := by
              unfold c_ma
              (repeat' split) <;> omega
            have z := k (rcF (mvS G a b 12).2 sn 39354) (fun j hj => by
              rw [if_neg (by omega)]
              by_cases hj2 : j < 6559
              · rw [rcF_lo hs0 hs1 hj2, hag.2 j hj2]
                exact ((ag_mv hJ (G := rcF F sn 0) (fun j hj => rcF_lo hs0 hs1 hj) (a := a) (b := b) ⟨by omega, by omega⟩ ⟨by omega, by omega⟩ (by omega) 12 (by omega)).2 j hj2).symm
              · rw [rcF_tried (F := F) hs0 hs1 (fun j h1 h2 => (hou.1 j h1).trans (hgo j h2)) (fun j h1 h2 => (hou.1 _ (by omega)).trans (hgT j h1 h2)) j (by omega) hj]
                exact ((mvS_ou (rcF_J (b := 0) hs0 hs1 hJ) (a := a) (b := b) ⟨by omega, by omega⟩ ⟨by omega, by omega⟩ (by omega) 12 (by omega)).1 j (by omega)).symm)
            rw [if_neg (by omega), ee] at z
            exact z
          · refine wp_aload_n (pc := 55) d_Md_moveAll_55 rfl ?_
            refine wp_ldc (pc := 56) d_Md_moveAll_56 l_Md_130 ?_
            refine wp_iconst (pc := 58) d_Md_moveAll_58 ?_
            refine wn_callV (n := 2) (As := [_, _]) (pc := 59) d_Md_moveAll_59 s_Md_21 q_Md_copy ⟨by decide, by decide⟩ MH_o rfl rfl rfl rfl (Nat.le_of_ble_eq_true rfl) (Nat.le_of_ble_eq_true rfl) ?_
            refine sp_Md_copy (a := 39354) (b := 0) hE hB (by omega) (by omega) (by omega) (by omega) (by omega) ?_
            refine ⟨rfl, ?_⟩
            refine zp_bipush (pc := 62) d_Md_moveAll_62 (by decide) ?_
            refine zp_ireturn (pc := 64) d_Md_moveAll_64 rfl ?_
            have em : ¬ (mvS F a b 12).1 = 1 := by omega
            have ee : c_ma F a b = -4 := by
              unfold c_ma
              (repeat' split) <;> omega
            have z := k (cpF (mvS G a b 12).2 39354 0) (fun j hj => by
              rw [if_pos (by omega)]
              by_cases hj2 : 0 ≤ j ∧ j < 6559
              · rw [cpF_in (by omega) (by omega), hou.1 _ (by omega), show j - 0 + 39354 = 39354 + j by omega, hgT j hj2.1 hj2.2]
              · rw [cpF_out (by omega)]
                by_cases hj3 : j < 0
                · rw [hag.2 j (by omega), mvS_neg hJ (a := a) (b := b) ⟨by omega, by omega⟩ ⟨by omega, by omega⟩ (by omega) 12 (by omega) j hj3]
                · rw [hou.1 j (by omega), hgo j hj])
            rw [if_pos (by omega), ee] at z
            exact z
        · refine zp_bipush (pc := 36) d_Md_moveAll_36 (by decide) ?_
          refine zp_ireturn (pc := 38) d_Md_moveAll_38 rfl ?_
          have ee : c_ma F a b = -5 := by
            unfold c_ma
            (repeat' split) <;> omega
          have z := k F (fun j hj => by rw [if_pos (by omega)])
          rw [if_pos (by omega), ee] at z
          exact z
      · refine zp_bipush (pc := 23) d_Md_moveAll_23 (by decide) ?_
        refine zp_ireturn (pc := 25) d_Md_moveAll_25 rfl ?_
        have ee : c_ma F a b = -2 := by
          unfold c_ma
          (repeat' split) <;> omega
        have z := k F (fun j hj => by rw [if_pos (by omega)])
        rw [if_pos (by omega), ee] at z
        exact z
    · refine wp_iconst (pc := 16) d_Md_moveAll_16 ?_
      refine zp_ireturn (pc := 17) d_Md_moveAll_17 rfl ?_
      have ee : c_ma F a b = -1 := by
        unfold c_ma
        (repeat' split) <;> omega
      have z := k F (fun j hj => by rw [if_pos (by omega)])
      rw [if_pos (by omega), ee] at z
      exact z
end S29
