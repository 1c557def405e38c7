/-! ===== the reference: hooks and handles ===== -/
section S14
variable {E : gE} {mo : Nat} {h : gH} {F g : Int → Int} {sn kp ln : Int} {Q : Option Value → gH → Prop}
set_option maxRecDepth 100000 in
theorem sp_Md_isHook (hE : gOk E) {n x : Int} (hV : Vd n F) (rx : gR x) (k : Q (some (.int (zI (bI (isHk F x))))) (MH mo h F sn kp g ln)) : Wp E m_Md_isHook 0 (gEnt m_Md_isHook [.ref mo, .int (zI x)]) [] (MH mo h F sn kp g ln) Q := by
  have hs := hV.1
  show Wp E m_Md_isHook 0 [some (_), some (_)] [] _ _
  refine wp_iload_n (pc := 0) d_Md_isHook_0 rfl ?_
  refine wp_iconst (pc := 1) d_Md_isHook_1 ?_
  refine zp_bipush (pc := 2) d_Md_isHook_2 (by decide) ?_
  refine wv_callS (n := 3) (As := [_, _, _]) (pc := 4) d_Md_isHook_4 s_Md_38 q_Md_in ⟨by decide, by decide⟩ rfl rfl rfl (Nat.le_of_ble_eq_true rfl) (Nat.le_of_ble_eq_true rfl) ?_
  refine sp_Md_in ⟨by omega, by omega⟩ ⟨by omega, by omega⟩ ⟨by omega, by omega⟩ ?_
  refine ⟨_, rfl, ?_⟩
  refine zp_ifb_eq (tgt := 45) (pc := 7) d_Md_isHook_7 (by decide) (fun c7 => ?_) (fun c7 => ?_)
  · refine wp_iconst (pc := 45) d_Md_isHook_45 ?_
    refine zp_zreturn (pc := 46) d_Md_isHook_46 rfl rfl ?_
    first | (rw [bI_t (show isHk F x from by omega)] at k; exact k) | (rw [bI_f (show ¬ isHk F x from by omega)] at k; exact k)
  · refine wp_aload_n (pc := 10) d_Md_isHook_10 rfl ?_
    refine wp_iload_n (pc := 11) d_Md_isHook_11 rfl ?_
    refine zp_bipush (pc := 12) d_Md_isHook_12 (by decide) ?_
    refine zp_idiv (pc := 14) d_Md_isHook_14 (by omega) (by omega) (by omega) (by omega) ?_
    refine wv_callV (n := 1) (As := [_]) (pc := 15) d_Md_isHook_15 s_Md_42 q_Md_isRack ⟨by decide, by decide⟩ MH_o rfl rfl rfl rfl (Nat.le_of_ble_eq_true rfl) (Nat.le_of_ble_eq_true rfl) ?_
    refine sp_Md_isRack hE ⟨by omega, by omega⟩ (by omega) ?_
    refine ⟨_, rfl, ?_⟩
    refine zp_ifb_eq (tgt := 45) (pc := 18) d_Md_isHook_18 (by decide) (fun c18 => ?_) (fun c18 => ?_)
    · refine wp_iconst (pc := 45) d_Md_isHook_45 ?_
      refine zp_zreturn (pc := 46) d_Md_isHook_46 rfl rfl ?_
      first | (rw [bI_t (show isHk F x from by omega)] at k; exact k) | (rw [bI_f (show ¬ isHk F x from by omega)] at k; exact k)
    · refine wp_iload_n (pc := 21) d_Md_isHook_21 rfl ?_
      refine zp_bipush (pc := 22) d_Md_isHook_22 (by decide) ?_
      refine zp_irem (pc := 24) d_Md_isHook_24 (by omega) (by omega) (by omega) (by omega) ?_
      refine wp_aload_n (pc := 25) d_Md_isHook_25 rfl ?_
      refine wp_getfield (pc := 26) d_Md_isHook_26 f_Md_8 MH_o rfl ?_
      refine wp_iload_n (pc := 29) d_Md_isHook_29 rfl ?_
      refine zp_bipush (pc := 30) d_Md_isHook_30 (by decide) ?_
      refine zp_idiv (pc := 32) d_Md_isHook_32 (by omega) (by omega) (by omega) (by omega) ?_
      refine wp_iconst (pc := 33) d_Md_isHook_33 ?_
      refine wv_callS (n := 2) (As := [_, _]) (pc := 34) d_Md_isHook_34 s_Md_46 q_Md_ofRack ⟨by decide, by decide⟩ rfl rfl rfl (Nat.le_of_ble_eq_true rfl) (Nat.le_of_ble_eq_true rfl) ?_
      refine sp_Md_ofRack ?_
      refine ⟨_, rfl, ?_⟩
      have hr := hV.2.2.1 (x / 12) (by omega) (by omega)
      refine zp_iaload (pc := 37) d_Md_isHook_37 hE.1 MH_r (by omega) (by omega) (by decide) ?_
      refine zp_icmp_ge (tgt := 45) (pc := 38) d_Md_isHook_38 (by decide) ⟨by omega, by omega⟩ ⟨by omega, by omega⟩ (fun c38 => ?_) (fun c38 => ?_)
      · refine wp_iconst (pc := 45) d_Md_isHook_45 ?_
        refine zp_zreturn (pc := 46) d_Md_isHook_46 rfl rfl ?_
        first | (rw [bI_t (show isHk F x from by omega)] at k; exact k) | (rw [bI_f (show ¬ isHk F x from by omega)] at k; exact k)
      · refine wp_iconst (pc := 41) d_Md_isHook_41 ?_
        refine wp_goto (tgt := 46) (pc := 42) d_Md_isHook_42 (by decide) ?_
        refine zp_zreturn (pc := 46) d_Md_isHook_46 rfl rfl ?_
        first | (rw [bI_t (show isHk F x from by omega)] at k; exact k) | (rw [bI_f (show ¬ isHk F x from by omega)] at k; exact k)
set_option maxRecDepth 100000 in
theorem sp_Md_isFree (hE : gOk E) {n x z : Int} (hV : Vd n F) (h0 : 0 ≤ x) (h1 : x < 60) (rz : gR z) (k : Q (some (.int (zI (bI (isFr F x z))))) (MH mo h F sn kp g ln)) : Wp E m_Md_isFree 0 (gEnt m_Md_isFree [.ref mo, .int (zI x), .int (zI z)]) [] (MH mo h F sn kp g ln) Q := by
  have hk := hV.2.2.2.1 x h0 h1
  have hr := hV.2.2.1 (x / 12) (by omega) (by omega)
  show Wp E m_Md_isFree 0 [some (_), some (_), some (_), none] [] _ _
  refine wp_iload_n (pc := 0) d_Md_isFree_0 rfl ?_
  refine zp_bipush (pc := 1) d_Md_isFree_1 (by decide) ?_
  refine zp_idiv (pc := 3) d_Md_isFree_3 (by omega) (by omega) (by omega) (by omega) ?_
  refine st_i3 (pc := 4) d_Md_isFree_4 (by decide) ?_
  refine wp_aload_n (pc := 5) d_Md_isFree_5 rfl ?_
  refine wp_iload_n (pc := 6) d_Md_isFree_6 rfl ?_
  refine wv_callV (n := 1) (As := [_]) (pc := 7) d_Md_isFree_7 s_Md_53 q_Md_isHook ⟨by decide, by decide⟩ MH_o rfl rfl rfl rfl (Nat.le_of_ble_eq_true rfl) (Nat.le_of_ble_eq_true rfl) ?_
  refine sp_Md_isHook hE hV ⟨by omega, by omega⟩ ?_
  refine ⟨_, rfl, ?_⟩
  refine zp_ifb_eq (tgt := 66) (pc := 10) d_Md_isFree_10 (by decide) (fun c10 => ?_) (fun c10 => ?_)
  · refine wp_iconst (pc := 66) d_Md_isFree_66 ?_
    refine zp_zreturn (pc := 67) d_Md_isFree_67 rfl rfl ?_
    first | (rw [bI_t (show isFr F x z from by omega)] at k; exact k) | (rw [bI_f (show ¬ isFr F x z from by omega)] at k; exact k)
  · refine wp_aload_n (pc := 13) d_Md_isFree_13 rfl ?_
    refine wp_iload_n (pc := 14) d_Md_isFree_14 rfl ?_
    refine wv_callV (n := 1) (As := [_]) (pc := 15) d_Md_isFree_15 s_Md_56 q_Md_holds ⟨by decide, by decide⟩ MH_o rfl rfl rfl rfl (Nat.le_of_ble_eq_true rfl) (Nat.le_of_ble_eq_true rfl) ?_
    refine sp_Md_holds hE h0 h1 (by omega) ?_
    refine ⟨_, rfl, ?_⟩
    refine zp_ifb_ne (tgt := 66) (pc := 18) d_Md_isFree_18 (by decide) (fun c18 => ?_) (fun c18 => ?_)
    · refine wp_iconst (pc := 66) d_Md_isFree_66 ?_
      refine zp_zreturn (pc := 67) d_Md_isFree_67 rfl rfl ?_
      first | (rw [bI_t (show isFr F x z from by omega)] at k; exact k) | (rw [bI_f (show ¬ isFr F x z from by omega)] at k; exact k)
    · refine wp_aload_n (pc := 21) d_Md_isFree_21 rfl ?_
      refine wp_getfield (pc := 22) d_Md_isFree_22 f_Md_8 MH_o rfl ?_
      refine wp_iload_n (pc := 25) d_Md_isFree_25 rfl ?_
      refine wp_iconst (pc := 26) d_Md_isFree_26 ?_
      refine wv_callS (n := 2) (As := [_, _]) (pc := 27) d_Md_isFree_27 s_Md_50 q_Md_of ⟨by decide, by decide⟩ rfl rfl rfl (Nat.le_of_ble_eq_true rfl) (Nat.le_of_ble_eq_true rfl) ?_
      refine sp_Md_of ?_
      refine ⟨_, rfl, ?_⟩
      refine zp_iaload (pc := 30) d_Md_isFree_30 hE.1 MH_r (by omega) (by omega) (by decide) ?_
      refine zp_if_ne (tgt := 66) (pc := 31) d_Md_isFree_31 (by decide) ⟨by omega, by omega⟩ (fun c31 => ?_) (fun c31 => ?_)
      · refine wp_iconst (pc := 66) d_Md_isFree_66 ?_
        refine zp_zreturn (pc := 67) d_Md_isFree_67 rfl rfl ?_
        first | (rw [bI_t (show isFr F x z from by omega)] at k; exact k) | (rw [bI_f (show ¬ isFr F x z from by omega)] at k; exact k)
      · refine wp_aload_n (pc := 34) d_Md_isFree_34 rfl ?_
        refine wp_getfield (pc := 35) d_Md_isFree_35 f_Md_8 MH_o rfl ?_
        refine wp_iload_n (pc := 38) d_Md_isFree_38 rfl ?_
        refine wp_iconst (pc := 39) d_Md_isFree_39 ?_
        refine wv_callS (n := 2) (As := [_, _]) (pc := 40) d_Md_isFree_40 s_Md_46 q_Md_ofRack ⟨by decide, by decide⟩ rfl rfl rfl (Nat.le_of_ble_eq_true rfl) (Nat.le_of_ble_eq_true rfl) ?_
        refine sp_Md_ofRack ?_
        refine ⟨_, rfl, ?_⟩
        refine zp_iaload (pc := 43) d_Md_isFree_43 hE.1 MH_r (by omega) (by omega) (by decide) ?_
        refine wp_iconst (pc := 44) d_Md_isFree_44 ?_
        refine zp_icmp_ne (tgt := 66) (pc := 45) d_Md_isFree_45 (by decide) ⟨by omega, by omega⟩ ⟨by omega, by omega⟩ (fun c45 => ?_) (fun c45 => ?_)
        · refine wp_iconst (pc := 66) d_Md_isFree_66 ?_
          refine zp_zreturn (pc := 67) d_Md_isFree_67 rfl rfl ?_
          first | (rw [bI_t (show isFr F x z from by omega)] at k; exact k) | (rw [bI_f (show ¬ isFr F x z from by omega)] at k; exact k)
        · refine wp_iload_n (pc := 48) d_Md_isFree_48 rfl ?_
          refine wp_aload_n (pc := 49) d_Md_isFree_49 rfl ?_
          refine wp_getfield (pc := 50) d_Md_isFree_50 f_Md_8 MH_o rfl ?_
          refine wp_iload_n (pc := 53) d_Md_isFree_53 rfl ?_
          refine wp_iconst (pc := 54) d_Md_isFree_54 ?_
          refine wv_callS (n := 2) (As := [_, _]) (pc := 55) d_Md_isFree_55 s_Md_46 q_Md_ofRack ⟨by decide, by decide⟩ rfl rfl rfl (Nat.le_of_ble_eq_true rfl) (Nat.le_of_ble_eq_true rfl) ?_
          refine sp_Md_ofRack ?_
          refine ⟨_, rfl, ?_⟩
          refine zp_iaload (pc := 58) d_Md_isFree_58 hE.1 MH_r (by omega) (by omega) (by decide) ?_
          refine zp_icmp_gt (tgt := 66) (pc := 59) d_Md_isFree_59 (by decide) ⟨by omega, by omega⟩ ⟨by omega, by omega⟩ (fun c59 => ?_) (fun c59 => ?_)
          · refine wp_iconst (pc := 66) d_Md_isFree_66 ?_
            refine zp_zreturn (pc := 67) d_Md_isFree_67 rfl rfl ?_
            first | (rw [bI_t (show isFr F x z from by omega)] at k; exact k) | (rw [bI_f (show ¬ isFr F x z from by omega)] at k; exact k)
          · refine wp_iconst (pc := 62) d_Md_isFree_62 ?_
            refine wp_goto (tgt := 67) (pc := 63) d_Md_isFree_63 (by decide) ?_
            refine zp_zreturn (pc := 67) d_Md_isFree_67 rfl rfl ?_
            first | (rw [bI_t (show isFr F x z from by omega)] at k; exact k) | (rw [bI_f (show ¬ isFr F x z from by omega)] at k; exact k)
set_option maxRecDepth 100000 in
theorem sp_Md_isTag {x : Int} (rx : gR x) (k : Q (some (.int (zI (bI (isTg x))))) h) : Wp E m_Md_isTag 0 (gEnt m_Md_isTag [.int (zI x)]) [] h Q := by
  show Wp E m_Md_isTag 0 [some (_)] [] _ _
  refine wp_iload_n (pc := 0) d_Md_isTag_0 rfl ?_
  refine wp_iconst (pc := 1) d_Md_isTag_1 ?_
  refine wp_ldc (pc := 2) d_Md_isTag_2 l_Md_63 ?_
  refine wv_callS (n := 3) (As := [_, _, _]) (pc := 4) d_Md_isTag_4 s_Md_38 q_Md_in ⟨by decide, by decide⟩ rfl rfl rfl (Nat.le_of_ble_eq_true rfl) (Nat.le_of_ble_eq_true rfl) ?_
  refine sp_Md_in rx ⟨by omega, by omega⟩ ⟨by omega, by omega⟩ ?_
  refine ⟨_, rfl, ?_⟩
  refine zp_ifb_eq (tgt := 25) (pc := 7) d_Md_isTag_7 (by decide) (fun c7 => ?_) (fun c7 => ?_)
  · refine wp_iconst (pc := 25) d_Md_isTag_25 ?_
    refine zp_zreturn (pc := 26) d_Md_isTag_26 rfl rfl ?_
    first | (rw [bI_t (show isTg x from by omega)] at k; exact k) | (rw [bI_f (show ¬ isTg x from by omega)] at k; exact k)
  · refine wp_iload_n (pc := 10) d_Md_isTag_10 rfl ?_
    refine zp_bipush (pc := 11) d_Md_isTag_11 (by decide) ?_
    refine zp_idiv (pc := 13) d_Md_isTag_13 (by omega) (by omega) (by omega) (by omega) ?_
    refine wv_callS (n := 1) (As := [_]) (pc := 14) d_Md_isTag_14 s_Md_64 q_Md_tagBy ⟨by decide, by decide⟩ rfl rfl rfl (Nat.le_of_ble_eq_true rfl) (Nat.le_of_ble_eq_true rfl) ?_
    refine sp_Md_tagBy (by omega) (by omega) ?_
    refine ⟨_, rfl, ?_⟩
    have htb : 0 ≤ tb (x / 10) ∧ tb (x / 10) ≤ 1000000 := by unfold tb; omega
    refine wp_iload_n (pc := 17) d_Md_isTag_17 rfl ?_
    refine zp_icmp_ne (tgt := 25) (pc := 18) d_Md_isTag_18 (by decide) ⟨by omega, by omega⟩ ⟨by omega, by omega⟩ (fun c18 => ?_) (fun c18 => ?_)
    · refine wp_iconst (pc := 25) d_Md_isTag_25 ?_
      refine zp_zreturn (pc := 26) d_Md_isTag_26 rfl rfl ?_
      first | (rw [bI_t (show isTg x from by omega)] at k; exact k) | (rw [bI_f (show ¬ isTg x from by omega)] at k; exact k)
    · refine wp_iconst (pc := 21) d_Md_isTag_21 ?_
      refine wp_goto (tgt := 26) (pc := 22) d_Md_isTag_22 (by decide) ?_
      refine zp_zreturn (pc := 26) d_Md_isTag_26 rfl rfl ?_
      first | (rw [bI_t (show isTg x from by omega)] at k; exact k) | (rw [bI_f (show ¬ isTg x from by omega)] at k; exact k)
set_option maxRecDepth 100000 in
theorem sp_Md_isGiven (hE : gOk E) {n x : Int} (hV : Vd n F) (h0 : 0 ≤ x) (h1 : x < 6000) (k : Q (some (.int (zI (bI (0 < F (559 + x)))))) (MH mo h F sn kp g ln)) : Wp E m_Md_isGiven 0 (gEnt m_Md_isGiven [.ref mo, .int (zI x)]) [] (MH mo h F sn kp g ln) Q := by
  have hh := hV.2.2.2.2.2.2 x h0 h1
  show Wp E m_Md_isGiven 0 [some (_), some (_)] [] _ _
  refine wp_aload_n (pc := 0) d_Md_isGiven_0 rfl ?_
  refine wp_getfield (pc := 1) d_Md_isGiven_1 f_Md_8 MH_o rfl ?_
  refine zp_sipush (pc := 4) d_Md_isGiven_4 (by decide) ?_
  refine wp_iload_n (pc := 7) d_Md_isGiven_7 rfl ?_
  refine zp_iadd (pc := 8) d_Md_isGiven_8 ?_
  refine zp_iaload (pc := 9) d_Md_isGiven_9 hE.1 MH_r (by omega) (by omega) (by decide) ?_
  refine zp_if_le (tgt := 17) (pc := 10) d_Md_isGiven_10 (by decide) ⟨by omega, by omega⟩ (fun c10 => ?_) (fun c10 => ?_)
  · refine wp_iconst (pc := 17) d_Md_isGiven_17 ?_
    refine zp_zreturn (pc := 18) d_Md_isGiven_18 rfl rfl ?_
    first | (rw [bI_t (by omega)] at k; exact k) | (rw [bI_f (by omega)] at k; exact k)
  · refine wp_iconst (pc := 13) d_Md_isGiven_13 ?_
    refine wp_goto (tgt := 18) (pc := 14) d_Md_isGiven_14 (by decide) ?_
    refine zp_zreturn (pc := 18) d_Md_isGiven_18 rfl rfl ?_
    first | (rw [bI_t (by omega)] at k; exact k) | (rw [bI_f (by omega)] at k; exact k)
set_option maxRecDepth 100000 in
theorem sp_Md_follows (hE : gOk E) {n x : Int} (hV : Vd n F) (h0 : 0 ≤ x) (h1 : x < 6000) (k : Q (some (.int (zI (fol F x)))) (MH mo h F sn kp g ln)) : Wp E m_Md_follows 0 (gEnt m_Md_follows [.ref mo, .int (zI x)]) [] (MH mo h F sn kp g ln) Q := by
  have hh := hV.2.2.2.2.2.2 x h0 h1
  show Wp E m_Md_follows 0 [some (_), some (_)] [] _ _
  refine wp_aload_n (pc := 0) d_Md_follows_0 rfl ?_
  refine wp_getfield (pc := 1) d_Md_follows_1 f_Md_8 MH_o rfl ?_
  refine zp_sipush (pc := 4) d_Md_follows_4 (by decide) ?_
  refine wp_iload_n (pc := 7) d_Md_follows_7 rfl ?_
  refine zp_iadd (pc := 8) d_Md_follows_8 ?_
  refine zp_iaload (pc := 9) d_Md_follows_9 hE.1 MH_r (by omega) (by omega) (by decide) ?_
  refine zp_sipush (pc := 10) d_Md_follows_10 (by decide) ?_
  refine zp_idiv (pc := 13) d_Md_follows_13 (by omega) (by omega) (by omega) (by omega) ?_
  refine wp_iconst (pc := 14) d_Md_follows_14 ?_
  refine zp_isub (pc := 15) d_Md_follows_15 ?_
  refine zp_ireturn (pc := 16) d_Md_follows_16 rfl ?_
  exact k
set_option maxRecDepth 100000 in
theorem sp_Md_endOf (hE : gOk E) {n x : Int} (hV : Vd n F) (h0 : 0 ≤ x) (h1 : x < 6000) (k : Q (some (.int (zI (eo F x)))) (MH mo h F sn kp g ln)) : Wp E m_Md_endOf 0 (gEnt m_Md_endOf [.ref mo, .int (zI x)]) [] (MH mo h F sn kp g ln) Q := by
  have hh := hV.2.2.2.2.2.2 x h0 h1
  show Wp E m_Md_endOf 0 [some (_), some (_)] [] _ _
  refine wp_aload_n (pc := 0) d_Md_endOf_0 rfl ?_
  refine wp_getfield (pc := 1) d_Md_endOf_1 f_Md_8 MH_o rfl ?_
  refine zp_sipush (pc := 4) d_Md_endOf_4 (by decide) ?_
  refine wp_iload_n (pc := 7) d_Md_endOf_7 rfl ?_
  refine zp_iadd (pc := 8) d_Md_endOf_8 ?_
  refine zp_iaload (pc := 9) d_Md_endOf_9 hE.1 MH_r (by omega) (by omega) (by decide) ?_
  refine wp_iconst (pc := 10) d_Md_endOf_10 ?_
  refine zp_idiv (pc := 11) d_Md_endOf_11 (by omega) (by omega) (by omega) (by omega) ?_
  refine zp_bipush (pc := 12) d_Md_endOf_12 (by decide) ?_
  refine zp_irem (pc := 14) d_Md_endOf_14 (by omega) (by omega) (by omega) (by omega) ?_
  refine zp_ireturn (pc := 15) d_Md_endOf_15 rfl ?_
  exact k
set_option maxRecDepth 100000 in
theorem sp_Md_handleOn (hE : gOk E) {x : Int} (h0 : 0 ≤ x) (h1 : x < 60) (k : Q (some (.int (zI (hdl F x)))) (MH mo h F sn kp g ln)) : Wp E m_Md_handleOn 0 (gEnt m_Md_handleOn [.ref mo, .int (zI x)]) [] (MH mo h F sn kp g ln) Q := by
  show Wp E m_Md_handleOn 0 [some (_), some (_)] [] _ _
  refine zp_bipush (pc := 0) d_Md_handleOn_0 (by decide) ?_
  refine wp_iload_n (pc := 2) d_Md_handleOn_2 rfl ?_
  refine zp_imul (pc := 3) d_Md_handleOn_3 ?_
  refine wp_aload_n (pc := 4) d_Md_handleOn_4 rfl ?_
  refine wp_getfield (pc := 5) d_Md_handleOn_5 f_Md_8 MH_o rfl ?_
  refine wp_iload_n (pc := 8) d_Md_handleOn_8 rfl ?_
  refine wp_iconst (pc := 9) d_Md_handleOn_9 ?_
  refine wv_callS (n := 2) (As := [_, _]) (pc := 10) d_Md_handleOn_10 s_Md_50 q_Md_of ⟨by decide, by decide⟩ rfl rfl rfl (Nat.le_of_ble_eq_true rfl) (Nat.le_of_ble_eq_true rfl) ?_
  refine sp_Md_of ?_
  refine ⟨_, rfl, ?_⟩
  refine zp_iaload (pc := 13) d_Md_handleOn_13 hE.1 MH_r (by omega) (by omega) (by decide) ?_
  refine zp_iadd (pc := 14) d_Md_handleOn_14 ?_
  refine zp_ireturn (pc := 15) d_Md_handleOn_15 rfl ?_
  exact k
set_option maxRecDepth 100000 in
theorem sp_Md_log (hE : gOk E) (hB : gB E ≤ mo) {n c e : Int} (hc : 0 ≤ F 13 ∧ F 13 ≤ n) (hn : n ≤ 1000000000) (k : Q none (MH mo h (lgF F c e) sn kp g ln)) : Wp E m_Md_log 0 (gEnt m_Md_log [.ref mo, .int (zI c), .int (zI e)]) [] (MH mo h F sn kp g ln) Q := by
  have hB1 : gB E ≤ mo + 1 := by omega
  show Wp E m_Md_log 0 [some (_), some (_), some (_), none] [] _ _
  refine zp_sipush (pc := 0) d_Md_log_0 (by decide) ?_
  refine wp_iconst (pc := 3) d_Md_log_3 ?_
  refine wp_aload_n (pc := 4) d_Md_log_4 rfl ?_
  refine wp_getfield (pc := 5) d_Md_log_5 f_Md_8 MH_o rfl ?_
  refine zp_bipush (pc := 8) d_Md_log_8 (by decide) ?_
  refine zp_iaload (pc := 10) d_Md_log_10 hE.1 MH_r (by omega) (by omega) (by decide) ?_
  refine zp_bipush (pc := 11) d_Md_log_11 (by decide) ?_
  refine zp_irem (pc := 13) d_Md_log_13 (by omega) (by omega) (by omega) (by omega) ?_
  refine zp_imul (pc := 14) d_Md_log_14 ?_
  refine zp_iadd (pc := 15) d_Md_log_15 ?_
  refine st_i3 (pc := 16) d_Md_log_16 (by decide) ?_
  refine wp_aload_n (pc := 17) d_Md_log_17 rfl ?_
  refine wp_getfield (pc := 18) d_Md_log_18 f_Md_8 MH_o rfl ?_
  refine wp_iload_n (pc := 21) d_Md_log_21 rfl ?_
  refine wp_iload_n (pc := 22) d_Md_log_22 rfl ?_
  refine zp_iastore (pc := 23) d_Md_log_23 hE.1 MH_r hB1 (by omega) (by omega) (by decide) ?_
  rw [MH_pr]
  refine wp_aload_n (pc := 24) d_Md_log_24 rfl ?_
  refine wp_getfield (pc := 25) d_Md_log_25 f_Md_8 MH_o rfl ?_
  refine wp_iload_n (pc := 28) d_Md_log_28 rfl ?_
  refine wp_iconst (pc := 29) d_Md_log_29 ?_
  refine zp_iadd (pc := 30) d_Md_log_30 ?_
  refine wp_iload_n (pc := 31) d_Md_log_31 rfl ?_
  refine zp_iastore (pc := 32) d_Md_log_32 hE.1 MH_r hB1 (by omega) (by omega) (by decide) ?_
  rw [MH_pr]
  refine wp_aload_n (pc := 33) d_Md_log_33 rfl ?_
  refine wp_getfield (pc := 34) d_Md_log_34 f_Md_8 MH_o rfl ?_
  refine wp_iload_n (pc := 37) d_Md_log_37 rfl ?_
  refine wp_iconst (pc := 38) d_Md_log_38 ?_
  refine zp_iadd (pc := 39) d_Md_log_39 ?_
  refine wp_aload_n (pc := 40) d_Md_log_40 rfl ?_
  refine wp_getfield (pc := 41) d_Md_log_41 f_Md_8 MH_o rfl ?_
  refine wp_iconst (pc := 44) d_Md_log_44 ?_
  refine zp_iaload (pc := 45) d_Md_log_45 hE.1 MH_r (by omega) (by omega) (by decide) ?_
  try simp (disch := omega) only [zup_ne, zup_eq]
  refine zp_iastore (pc := 46) d_Md_log_46 hE.1 MH_r hB1 (by omega) (by omega) (by decide) ?_
  rw [MH_pr]
  refine wp_aload_n (pc := 47) d_Md_log_47 rfl ?_
  refine wp_getfield (pc := 48) d_Md_log_48 f_Md_8 MH_o rfl ?_
  refine zp_bipush (pc := 51) d_Md_log_51 (by decide) ?_
  refine wp_dup2 (pc := 53) d_Md_log_53 rfl rfl ?_
  refine zp_iaload (pc := 54) d_Md_log_54 hE.1 MH_r (by omega) (by omega) (by decide) ?_
  try simp (disch := omega) only [zup_ne, zup_eq]
  refine wp_iconst (pc := 55) d_Md_log_55 ?_
  refine zp_iadd (pc := 56) d_Md_log_56 ?_
  refine zp_iastore (pc := 57) d_Md_log_57 hE.1 MH_r hB1 (by omega) (by omega) (by decide) ?_
  rw [MH_pr]
  refine wp_return (pc := 58) d_Md_log_58 rfl ?_
  exact k
set_option maxRecDepth 100000 in
theorem sp_Md_hang (hE : gOk E) (hB : gB E ≤ mo) {n x : Int} (hV : Vd n F) (hn : n ≤ 1000000000) (h0 : 0 ≤ x) (h1 : x < 60) {y z d : Int} (k : Q (some (.int (zI (hdl F x)))) (MH mo h (hgF F x y z d) sn kp g ln)) : Wp E m_Md_hang 0 (gEnt m_Md_hang [.ref mo, .int (zI x), .int (zI y), .int (zI z), .int (zI d)]) [] (MH mo h F sn kp g ln) Q := by
  have hB1 : gB E ≤ mo + 1 := by omega
  have hk := hV.2.2.2.1 x h0 h1
  have hs := hV.1
  show Wp E m_Md_hang 0 [some (_), some (_), some (_), some (_), some (_), none] [] _ _
  refine wp_aload_n (pc := 0) d_Md_hang_0 rfl ?_
  refine wp_getfield (pc := 1) d_Md_hang_1 f_Md_8 MH_o rfl ?_
  refine wp_iload_n (pc := 4) d_Md_hang_4 rfl ?_
  refine wp_iconst (pc := 5) d_Md_hang_5 ?_
  refine wv_callS (n := 2) (As := [_, _]) (pc := 6) d_Md_hang_6 s_Md_50 q_Md_of ⟨by decide, by decide⟩ rfl rfl rfl (Nat.le_of_ble_eq_true rfl) (Nat.le_of_ble_eq_true rfl) ?_
  refine sp_Md_of ?_
  refine ⟨_, rfl, ?_⟩
  refine wp_iconst (pc := 9) d_Md_hang_9 ?_
  refine zp_iastore (pc := 10) d_Md_hang_10 hE.1 MH_r hB1 (by omega) (by omega) (by decide) ?_
  rw [MH_pr]
  refine wp_aload_n (pc := 11) d_Md_hang_11 rfl ?_
  refine wp_getfield (pc := 12) d_Md_hang_12 f_Md_8 MH_o rfl ?_
  refine wp_iload_n (pc := 15) d_Md_hang_15 rfl ?_
  refine wp_iconst (pc := 16) d_Md_hang_16 ?_
  refine wv_callS (n := 2) (As := [_, _]) (pc := 17) d_Md_hang_17 s_Md_50 q_Md_of ⟨by decide, by decide⟩ rfl rfl rfl (Nat.le_of_ble_eq_true rfl) (Nat.le_of_ble_eq_true rfl) ?_
  refine sp_Md_of ?_
  refine ⟨_, rfl, ?_⟩
  refine wp_iload_n (pc := 20) d_Md_hang_20 rfl ?_
  refine zp_iastore (pc := 21) d_Md_hang_21 hE.1 MH_r hB1 (by omega) (by omega) (by decide) ?_
  rw [MH_pr]
  refine wp_aload_n (pc := 22) d_Md_hang_22 rfl ?_
  refine wp_getfield (pc := 23) d_Md_hang_23 f_Md_8 MH_o rfl ?_
  refine wp_iload_n (pc := 26) d_Md_hang_26 rfl ?_
  refine wp_iconst (pc := 27) d_Md_hang_27 ?_
  refine wv_callS (n := 2) (As := [_, _]) (pc := 28) d_Md_hang_28 s_Md_50 q_Md_of ⟨by decide, by decide⟩ rfl rfl rfl (Nat.le_of_ble_eq_true rfl) (Nat.le_of_ble_eq_true rfl) ?_
  refine sp_Md_of ?_
  refine ⟨_, rfl, ?_⟩
  refine wp_iload_n (pc := 31) d_Md_hang_31 rfl ?_
  refine zp_iastore (pc := 32) d_Md_hang_32 hE.1 MH_r hB1 (by omega) (by omega) (by decide) ?_
  rw [MH_pr]
  refine wp_aload_n (pc := 33) d_Md_hang_33 rfl ?_
  refine wp_getfield (pc := 34) d_Md_hang_34 f_Md_8 MH_o rfl ?_
  refine wp_iload_n (pc := 37) d_Md_hang_37 rfl ?_
  refine wp_iconst (pc := 38) d_Md_hang_38 ?_
  refine wv_callS (n := 2) (As := [_, _]) (pc := 39) d_Md_hang_39 s_Md_50 q_Md_of ⟨by decide, by decide⟩ rfl rfl rfl (Nat.le_of_ble_eq_true rfl) (Nat.le_of_ble_eq_true rfl) ?_
  refine sp_Md_of ?_
  refine ⟨_, rfl, ?_⟩
  refine wp_iload (pc := 42) d_Md_hang_42 rfl ?_
  refine zp_iastore (pc := 44) d_Md_hang_44 hE.1 MH_r hB1 (by omega) (by omega) (by decide) ?_
  rw [MH_pr]
  refine wp_aload_n (pc := 45) d_Md_hang_45 rfl ?_
  refine wp_iload_n (pc := 46) d_Md_hang_46 rfl ?_
  refine wv_callV (n := 1) (As := [_]) (pc := 47) d_Md_hang_47 s_Md_82 q_Md_handleOn ⟨by decide, by decide⟩ MH_o rfl rfl rfl rfl (Nat.le_of_ble_eq_true rfl) (Nat.le_of_ble_eq_true rfl) ?_
  refine sp_Md_handleOn hE h0 h1 ?_
  refine ⟨_, rfl, ?_⟩
  have e5 : hdl (zup (zup (zup (zup F (29 + 8 * x + 1) 1) (29 + 8 * x + 2) y) (29 + 8 * x + 3) z) (29 + 8 * x + 4) d) x = hdl F x := by
    unfold hdl
    simp (disch := omega) only [zup_ne]
  rw [e5]
  have hh : 0 ≤ hdl F x ∧ hdl F x ≤ 5999 := by unfold hdl; omega
  refine st_i5 (pc := 50) d_Md_hang_50 (by decide) ?_
  refine wp_aload_n (pc := 52) d_Md_hang_52 rfl ?_
  refine wp_getfield (pc := 53) d_Md_hang_53 f_Md_8 MH_o rfl ?_
  refine zp_sipush (pc := 56) d_Md_hang_56 (by decide) ?_
  refine wp_iload (pc := 59) d_Md_hang_59 rfl ?_
  refine zp_iadd (pc := 61) d_Md_hang_61 ?_
  refine wp_iconst (pc := 62) d_Md_hang_62 ?_
  refine zp_bipush (pc := 63) d_Md_hang_63 (by decide) ?_
  refine wp_iload_n (pc := 65) d_Md_hang_65 rfl ?_
  refine zp_imul (pc := 66) d_Md_hang_66 ?_
  refine zp_iadd (pc := 67) d_Md_hang_67 ?_
  refine zp_iastore (pc := 68) d_Md_hang_68 hE.1 MH_r hB1 (by omega) (by omega) (by decide) ?_
  rw [MH_pr]
  refine wp_aload_n (pc := 69) d_Md_hang_69 rfl ?_
  refine wp_getfield (pc := 70) d_Md_hang_70 f_Md_8 MH_o rfl ?_
  refine wp_iconst (pc := 73) d_Md_hang_73 ?_
  refine wp_dup2 (pc := 74) d_Md_hang_74 rfl rfl ?_
  refine zp_iaload (pc := 75) d_Md_hang_75 hE.1 MH_r (by omega) (by omega) (by decide) ?_
  try simp (disch := omega) only [zup_ne, zup_eq]
  refine wp_iconst (pc := 76) d_Md_hang_76 ?_
  refine zp_iadd (pc := 77) d_Md_hang_77 ?_
  refine zp_iastore (pc := 78) d_Md_hang_78 hE.1 MH_r hB1 (by omega) (by omega) (by decide) ?_
  rw [MH_pr]
  refine wp_iload (pc := 79) d_Md_hang_79 rfl ?_
  refine zp_ireturn (pc := 81) d_Md_hang_81 rfl ?_
  exact k
set_option maxRecDepth 100000 in
theorem sp_Md_leave (hE : gOk E) (hB : gB E ≤ mo) {n x : Int} (hV : Vd n F) (hn : n ≤ 1000000000) (h0 : 0 ≤ x) (h1 : x < 60) (k : Q none (MH mo h (lvF F x) sn kp g ln)) : Wp E m_Md_leave 0 (gEnt m_Md_leave [.ref mo, .int (zI x)]) [] (MH mo h F sn kp g ln) Q := by
  have hB1 : gB E ≤ mo + 1 := by omega
  have hk := hV.2.2.2.1 x h0 h1
  have hs := hV.1
  show Wp E m_Md_leave 0 [some (_), some (_)] [] _ _
  refine wp_aload_n (pc := 0) d_Md_leave_0 rfl ?_
  refine wp_getfield (pc := 1) d_Md_leave_1 f_Md_8 MH_o rfl ?_
  refine wp_iload_n (pc := 4) d_Md_leave_4 rfl ?_
  refine wp_iconst (pc := 5) d_Md_leave_5 ?_
  refine wv_callS (n := 2) (As := [_, _]) (pc := 6) d_Md_leave_6 s_Md_50 q_Md_of ⟨by decide, by decide⟩ rfl rfl rfl (Nat.le_of_ble_eq_true rfl) (Nat.le_of_ble_eq_true rfl) ?_
  refine sp_Md_of ?_
  refine ⟨_, rfl, ?_⟩
  refine wp_iconst (pc := 9) d_Md_leave_9 ?_
  refine zp_iastore (pc := 10) d_Md_leave_10 hE.1 MH_r hB1 (by omega) (by omega) (by decide) ?_
  rw [MH_pr]
  refine wp_aload_n (pc := 11) d_Md_leave_11 rfl ?_
  refine wp_getfield (pc := 12) d_Md_leave_12 f_Md_8 MH_o rfl ?_
  refine wp_iload_n (pc := 15) d_Md_leave_15 rfl ?_
  refine wp_iconst (pc := 16) d_Md_leave_16 ?_
  refine wv_callS (n := 2) (As := [_, _]) (pc := 17) d_Md_leave_17 s_Md_50 q_Md_of ⟨by decide, by decide⟩ rfl rfl rfl (Nat.le_of_ble_eq_true rfl) (Nat.le_of_ble_eq_true rfl) ?_
  refine sp_Md_of ?_
  refine ⟨_, rfl, ?_⟩
  refine wp_aload_n (pc := 20) d_Md_leave_20 rfl ?_
  refine wp_getfield (pc := 21) d_Md_leave_21 f_Md_8 MH_o rfl ?_
  refine wp_iload_n (pc := 24) d_Md_leave_24 rfl ?_
  refine wp_iconst (pc := 25) d_Md_leave_25 ?_
  refine wv_callS (n := 2) (As := [_, _]) (pc := 26) d_Md_leave_26 s_Md_50 q_Md_of ⟨by decide, by decide⟩ rfl rfl rfl (Nat.le_of_ble_eq_true rfl) (Nat.le_of_ble_eq_true rfl) ?_
  refine sp_Md_of ?_
  refine ⟨_, rfl, ?_⟩
  refine zp_iaload (pc := 29) d_Md_leave_29 hE.1 MH_r (by omega) (by omega) (by decide) ?_
  try simp (disch := omega) only [zup_ne, zup_eq]
  refine zp_bipush (pc := 30) d_Md_leave_30 (by decide) ?_
  refine zp_icmp_ne (tgt := 39) (pc := 32) d_Md_leave_32 (by decide) ⟨by omega, by omega⟩ ⟨by omega, by omega⟩ (fun c32 => ?_) (fun c32 => ?_)
  · refine wp_iconst (pc := 39) d_Md_leave_39 ?_
    refine zp_iastore (pc := 40) d_Md_leave_40 hE.1 MH_r hB1 (by omega) (by omega) (by decide) ?_
    rw [MH_pr]
    refine wp_aload_n (pc := 41) d_Md_leave_41 rfl ?_
    refine wp_getfield (pc := 42) d_Md_leave_42 f_Md_8 MH_o rfl ?_
    refine wp_iload_n (pc := 45) d_Md_leave_45 rfl ?_
    refine wp_iconst (pc := 46) d_Md_leave_46 ?_
    refine wv_callS (n := 2) (As := [_, _]) (pc := 47) d_Md_leave_47 s_Md_50 q_Md_of ⟨by decide, by decide⟩ rfl rfl rfl (Nat.le_of_ble_eq_true rfl) (Nat.le_of_ble_eq_true rfl) ?_
    refine sp_Md_of ?_
    refine ⟨_, rfl, ?_⟩
    refine wp_dup2 (pc := 50) d_Md_leave_50 rfl rfl ?_
    refine zp_iaload (pc := 51) d_Md_leave_51 hE.1 MH_r (by omega) (by omega) (by decide) ?_
    try simp (disch := omega) only [zup_ne, zup_eq]
    refine wp_aload_n (pc := 52) d_Md_leave_52 rfl ?_
    refine wp_getfield (pc := 53) d_Md_leave_53 f_Md_8 MH_o rfl ?_
    refine wp_iload_n (pc := 56) d_Md_leave_56 rfl ?_
    refine wp_iconst (pc := 57) d_Md_leave_57 ?_
    refine wv_callS (n := 2) (As := [_, _]) (pc := 58) d_Md_leave_58 s_Md_50 q_Md_of ⟨by decide, by decide⟩ rfl rfl rfl (Nat.le_of_ble_eq_true rfl) (Nat.le_of_ble_eq_true rfl) ?_
    refine sp_Md_of ?_
    refine ⟨_, rfl, ?_⟩
    refine zp_iaload (pc := 61) d_Md_leave_61 hE.1 MH_r (by omega) (by omega) (by decide) ?_
    try simp (disch := omega) only [zup_ne, zup_eq]
    refine zp_bipush (pc := 62) d_Md_leave_62 (by decide) ?_
    refine zp_icmp_ne (tgt := 71) (pc := 64) d_Md_leave_64 (by decide) ⟨by omega, by omega⟩ ⟨by omega, by omega⟩ (fun c64 => ?_) (fun c64 => absurd c64 c32)
    refine wp_iconst (pc := 71) d_Md_leave_71 ?_
    refine zp_iadd (pc := 72) d_Md_leave_72 ?_
    refine zp_iastore (pc := 73) d_Md_leave_73 hE.1 MH_r hB1 (by omega) (by omega) (by decide) ?_
    rw [MH_pr]
    refine wp_aload_n (pc := 74) d_Md_leave_74 rfl ?_
    refine wp_getfield (pc := 75) d_Md_leave_75 f_Md_8 MH_o rfl ?_
    refine wp_iload_n (pc := 78) d_Md_leave_78 rfl ?_
    refine zp_bipush (pc := 79) d_Md_leave_79 (by decide) ?_
    refine wv_callS (n := 2) (As := [_, _]) (pc := 81) d_Md_leave_81 s_Md_50 q_Md_of ⟨by decide, by decide⟩ rfl rfl rfl (Nat.le_of_ble_eq_true rfl) (Nat.le_of_ble_eq_true rfl) ?_
    refine sp_Md_of ?_
    refine ⟨_, rfl, ?_⟩
    refine wp_dup2 (pc := 84) d_Md_leave_84 rfl rfl ?_
    refine zp_iaload (pc := 85) d_Md_leave_85 hE.1 MH_r (by omega) (by omega) (by decide) ?_
    try simp (disch := omega) only [zup_ne, zup_eq]
    refine wp_iconst (pc := 86) d_Md_leave_86 ?_
    refine zp_iadd (pc := 87) d_Md_leave_87 ?_
    refine zp_iastore (pc := 88) d_Md_leave_88 hE.1 MH_r hB1 (by omega) (by omega) (by decide) ?_
    rw [MH_pr]
    refine wp_aload_n (pc := 89) d_Md_leave_89 rfl ?_
    refine wp_getfield (pc := 90) d_Md_leave_90 f_Md_8 MH_o rfl ?_
    refine zp_bipush (pc := 93) d_Md_leave_93 (by decide) ?_
    refine wp_dup2 (pc := 95) d_Md_leave_95 rfl rfl ?_
    refine zp_iaload (pc := 96) d_Md_leave_96 hE.1 MH_r (by omega) (by omega) (by decide) ?_
    try simp (disch := omega) only [zup_ne, zup_eq]
    refine wp_iconst (pc := 97) d_Md_leave_97 ?_
    refine zp_iadd (pc := 98) d_Md_leave_98 ?_
    refine zp_iastore (pc := 99) d_Md_leave_99 hE.1 MH_r hB1 (by omega) (by omega) (by decide) ?_
    rw [MH_pr]
    refine wp_aload_n (pc := 100) d_Md_leave_100 rfl ?_
    refine wp_getfield (pc := 101) d_Md_leave_101 f_Md_8 MH_o rfl ?_
    refine wp_iload_n (pc := 104) d_Md_leave_104 rfl ?_
    refine zp_bipush (pc := 105) d_Md_leave_105 (by decide) ?_
    refine wv_callS (n := 2) (As := [_, _]) (pc := 107) d_Md_leave_107 s_Md_50 q_Md_of ⟨by decide, by decide⟩ rfl rfl rfl (Nat.le_of_ble_eq_true rfl) (Nat.le_of_ble_eq_true rfl) ?_
    refine sp_Md_of ?_
    refine ⟨_, rfl, ?_⟩
    refine wp_aload_n (pc := 110) d_Md_leave_110 rfl ?_
    refine wp_getfield (pc := 111) d_Md_leave_111 f_Md_8 MH_o rfl ?_
    refine zp_bipush (pc := 114) d_Md_leave_114 (by decide) ?_
    refine zp_iaload (pc := 116) d_Md_leave_116 hE.1 MH_r (by omega) (by omega) (by decide) ?_
    try simp (disch := omega) only [zup_ne, zup_eq]
    refine zp_iastore (pc := 117) d_Md_leave_117 hE.1 MH_r hB1 (by omega) (by omega) (by decide) ?_
    rw [MH_pr]
    refine wp_return (pc := 118) d_Md_leave_118 rfl ?_
    unfold lvF at k; first | (rw [bI_f c32, bI_t c32] at k; exact k) | (rw [bI_t c32, bI_f (fun z => z c32)] at k; exact k)
  · refine wp_iconst (pc := 35) d_Md_leave_35 ?_
    refine wp_goto (tgt := 40) (pc := 36) d_Md_leave_36 (by decide) ?_
    refine zp_iastore (pc := 40) d_Md_leave_40 hE.1 MH_r hB1 (by omega) (by omega) (by decide) ?_
    rw [MH_pr]
    refine wp_aload_n (pc := 41) d_Md_leave_41 rfl ?_
    refine wp_getfield (pc := 42) d_Md_leave_42 f_Md_8 MH_o rfl ?_
    refine wp_iload_n (pc := 45) d_Md_leave_45 rfl ?_
    refine wp_iconst (pc := 46) d_Md_leave_46 ?_
    refine wv_callS (n := 2) (As := [_, _]) (pc := 47) d_Md_leave_47 s_Md_50 q_Md_of ⟨by decide, by decide⟩ rfl rfl rfl (Nat.le_of_ble_eq_true rfl) (Nat.le_of_ble_eq_true rfl) ?_
    refine sp_Md_of ?_
    refine ⟨_, rfl, ?_⟩
    refine wp_dup2 (pc := 50) d_Md_leave_50 rfl rfl ?_
    refine zp_iaload (pc := 51) d_Md_leave_51 hE.1 MH_r (by omega) (by omega) (by decide) ?_
    try simp (disch := omega) only [zup_ne, zup_eq]
    refine wp_aload_n (pc := 52) d_Md_leave_52 rfl ?_
    refine wp_getfield (pc := 53) d_Md_leave_53 f_Md_8 MH_o rfl ?_
    refine wp_iload_n (pc := 56) d_Md_leave_56 rfl ?_
    refine wp_iconst (pc := 57) d_Md_leave_57 ?_
    refine wv_callS (n := 2) (As := [_, _]) (pc := 58) d_Md_leave_58 s_Md_50 q_Md_of ⟨by decide, by decide⟩ rfl rfl rfl (Nat.le_of_ble_eq_true rfl) (Nat.le_of_ble_eq_true rfl) ?_
    refine sp_Md_of ?_
    refine ⟨_, rfl, ?_⟩
    refine zp_iaload (pc := 61) d_Md_leave_61 hE.1 MH_r (by omega) (by omega) (by decide) ?_
    try simp (disch := omega) only [zup_ne, zup_eq]
    refine zp_bipush (pc := 62) d_Md_leave_62 (by decide) ?_
    refine zp_icmp_ne (tgt := 71) (pc := 64) d_Md_leave_64 (by decide) ⟨by omega, by omega⟩ ⟨by omega, by omega⟩ (fun c64 => absurd c32 c64) (fun c64 => ?_)
    refine wp_iconst (pc := 67) d_Md_leave_67 ?_
    refine wp_goto (tgt := 72) (pc := 68) d_Md_leave_68 (by decide) ?_
    refine zp_iadd (pc := 72) d_Md_leave_72 ?_
    refine zp_iastore (pc := 73) d_Md_leave_73 hE.1 MH_r hB1 (by omega) (by omega) (by decide) ?_
    rw [MH_pr]
    refine wp_aload_n (pc := 74) d_Md_leave_74 rfl ?_
    refine wp_getfield (pc := 75) d_Md_leave_75 f_Md_8 MH_o rfl ?_
    refine wp_iload_n (pc := 78) d_Md_leave_78 rfl ?_
    refine zp_bipush (pc := 79) d_Md_leave_79 (by decide) ?_
    refine wv_callS (n := 2) (As := [_, _]) (pc := 81) d_Md_leave_81 s_Md_50 q_Md_of ⟨by decide, by decide⟩ rfl rfl rfl (Nat.le_of_ble_eq_true rfl) (Nat.le_of_ble_eq_true rfl) ?_
    refine sp_Md_of ?_
    refine ⟨_, rfl, ?_⟩
    refine wp_dup2 (pc := 84) d_Md_leave_84 rfl rfl ?_
    refine zp_iaload (pc := 85) d_Md_leave_85 hE.1 MH_r (by omega) (by omega) (by decide) ?_
    try simp (disch := omega) only [zup_ne, zup_eq]
    refine wp_iconst (pc := 86) d_Md_leave_86 ?_
    refine zp_iadd (pc := 87) d_Md_leave_87 ?_
    refine zp_iastore (pc := 88) d_Md_leave_88 hE.1 MH_r hB1 (by omega) (by omega) (by decide) ?_
    rw [MH_pr]
    refine wp_aload_n (pc := 89) d_Md_leave_89 rfl ?_
    refine wp_getfield (pc := 90) d_Md_leave_90 f_Md_8 MH_o rfl ?_
    refine zp_bipush (pc := 93) d_Md_leave_93 (by decide) ?_
    refine wp_dup2 (pc := 95) d_Md_leave_95 rfl rfl ?_
    refine zp_iaload (pc := 96) d_Md_leave_96 hE.1 MH_r (by omega) (by omega) (by decide) ?_
    try simp (disch := omega) only [zup_ne, zup_eq]
    refine wp_iconst (pc := 97) d_Md_leave_97 ?_
    refine zp_iadd (pc := 98) d_Md_leave_98 ?_
    refine zp_iastore (pc := 99) d_Md_leave_99 hE.1 MH_r hB1 (by omega) (by omega) (by decide) ?_
    rw [MH_pr]
    refine wp_aload_n (pc := 100) d_Md_leave_100 rfl ?_
    refine wp_getfield (pc := 101) d_Md_leave_101 f_Md_8 MH_o rfl ?_
    refine wp_iload_n (pc := 104) d_Md_leave_104 rfl ?_
    refine zp_bipush (pc := 105) d_Md_leave_105 (by decide) ?_
    refine wv_callS (n := 2) (As := [_, _]) (pc := 107) d_Md_leave_107 s_Md_50 q_Md_of ⟨by decide, by decide⟩ rfl rfl rfl (Nat.le_of_ble_eq_true rfl) (Nat.le_of_ble_eq_true rfl) ?_
    refine sp_Md_of ?_
    refine ⟨_, rfl, ?_⟩
    refine wp_aload_n (pc := 110) d_Md_leave_110 rfl ?_
    refine wp_getfield (pc := 111) d_Md_leave_111 f_Md_8 MH_o rfl ?_
    refine zp_bipush (pc := 114) d_Md_leave_114 (by decide) ?_
    refine zp_iaload (pc := 116) d_Md_leave_116 hE.1 MH_r (by omega) (by omega) (by decide) ?_
    try simp (disch := omega) only [zup_ne, zup_eq]
    refine zp_iastore (pc := 117) d_Md_leave_117 hE.1 MH_r hB1 (by omega) (by omega) (by decide) ?_
    rw [MH_pr]
    refine wp_return (pc := 118) d_Md_leave_118 rfl ?_
    unfold lvF at k; first | (rw [bI_f c32, bI_t c32] at k; exact k) | (rw [bI_t c32, bI_f (fun z => z c32)] at k; exact k)
end S14
