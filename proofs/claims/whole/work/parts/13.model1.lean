/-! ===== the reference: small methods ===== -/
section S13
variable {E : gE} {mo : Nat} {h : gH} {F g : Int → Int} {sn kp ln : Int} {Q : Option Value → gH → Prop}
set_option maxRecDepth 100000 in
theorem sp_Md_in {v a b : Int} (rv : gR v) (ra : gR a) (rb : gR b) (k : Q (some (.int (zI (bI (a ≤ v ∧ v ≤ b))))) h) : Wp E m_Md_in 0 (gEnt m_Md_in [.int (zI v), .int (zI a), .int (zI b)]) [] h Q := by
  show Wp E m_Md_in 0 [some (_), some (_), some (_)] [] _ _
  refine wp_iload_n (pc := 0) d_Md_in_0 rfl ?_
  refine wp_iload_n (pc := 1) d_Md_in_1 rfl ?_
  refine zp_icmp_lt (tgt := 14) (pc := 2) d_Md_in_2 (by decide) rv ra (fun c2 => ?_) (fun c2 => ?_)
  · refine wp_iconst (pc := 14) d_Md_in_14 ?_
    refine zp_zreturn (pc := 15) d_Md_in_15 rfl rfl ?_
    first | (rw [bI_t (by omega)] at k; exact k) | (rw [bI_f (by omega)] at k; exact k)
  · refine wp_iload_n (pc := 5) d_Md_in_5 rfl ?_
    refine wp_iload_n (pc := 6) d_Md_in_6 rfl ?_
    refine zp_icmp_gt (tgt := 14) (pc := 7) d_Md_in_7 (by decide) rv rb (fun c7 => ?_) (fun c7 => ?_)
    · refine wp_iconst (pc := 14) d_Md_in_14 ?_
      refine zp_zreturn (pc := 15) d_Md_in_15 rfl rfl ?_
      first | (rw [bI_t (by omega)] at k; exact k) | (rw [bI_f (by omega)] at k; exact k)
    · refine wp_iconst (pc := 10) d_Md_in_10 ?_
      refine wp_goto (tgt := 15) (pc := 11) d_Md_in_11 (by decide) ?_
      refine zp_zreturn (pc := 15) d_Md_in_15 rfl rfl ?_
      first | (rw [bI_t (by omega)] at k; exact k) | (rw [bI_f (by omega)] at k; exact k)
set_option maxRecDepth 100000 in
theorem sp_Md_of {x w : Int} (k : Q (some (.int (zI (29 + 8 * x + w)))) h) : Wp E m_Md_of 0 (gEnt m_Md_of [.int (zI x), .int (zI w)]) [] h Q := by
  show Wp E m_Md_of 0 [some (_), some (_)] [] _ _
  refine zp_bipush (pc := 0) d_Md_of_0 (by decide) ?_
  refine zp_bipush (pc := 2) d_Md_of_2 (by decide) ?_
  refine wp_iload_n (pc := 4) d_Md_of_4 rfl ?_
  refine zp_imul (pc := 5) d_Md_of_5 ?_
  refine zp_iadd (pc := 6) d_Md_of_6 ?_
  refine wp_iload_n (pc := 7) d_Md_of_7 rfl ?_
  refine zp_iadd (pc := 8) d_Md_of_8 ?_
  refine zp_ireturn (pc := 9) d_Md_of_9 rfl ?_
  exact k
set_option maxRecDepth 100000 in
theorem sp_Md_ofRack {x w : Int} (k : Q (some (.int (zI (14 + 3 * x + w)))) h) : Wp E m_Md_ofRack 0 (gEnt m_Md_ofRack [.int (zI x), .int (zI w)]) [] h Q := by
  show Wp E m_Md_ofRack 0 [some (_), some (_)] [] _ _
  refine zp_bipush (pc := 0) d_Md_ofRack_0 (by decide) ?_
  refine wp_iconst (pc := 2) d_Md_ofRack_2 ?_
  refine wp_iload_n (pc := 3) d_Md_ofRack_3 rfl ?_
  refine zp_imul (pc := 4) d_Md_ofRack_4 ?_
  refine zp_iadd (pc := 5) d_Md_ofRack_5 ?_
  refine wp_iload_n (pc := 6) d_Md_ofRack_6 rfl ?_
  refine zp_iadd (pc := 7) d_Md_ofRack_7 ?_
  refine zp_ireturn (pc := 8) d_Md_ofRack_8 rfl ?_
  exact k
set_option maxRecDepth 100000 in
theorem sp_Md_hookOf {x : Int} (h0 : 0 ≤ x) (h1 : x ≤ 100000) (k : Q (some (.int (zI (x / 100)))) h) : Wp E m_Md_hookOf 0 (gEnt m_Md_hookOf [.int (zI x)]) [] h Q := by
  show Wp E m_Md_hookOf 0 [some (_)] [] _ _
  refine wp_iload_n (pc := 0) d_Md_hookOf_0 rfl ?_
  refine zp_bipush (pc := 1) d_Md_hookOf_1 (by decide) ?_
  refine zp_idiv (pc := 3) d_Md_hookOf_3 (by omega) (by omega) (by omega) (by omega) ?_
  refine zp_ireturn (pc := 4) d_Md_hookOf_4 rfl ?_
  exact k
set_option maxRecDepth 100000 in
theorem sp_Md_isGuest {x : Int} (rx : gR x) (k : Q (some (.int (zI (bI (0 ≤ x ∧ x ≤ 19))))) h) : Wp E m_Md_isGuest 0 (gEnt m_Md_isGuest [.int (zI x)]) [] h Q := by
  show Wp E m_Md_isGuest 0 [some (_)] [] _ _
  refine wp_iload_n (pc := 0) d_Md_isGuest_0 rfl ?_
  refine wp_iconst (pc := 1) d_Md_isGuest_1 ?_
  refine zp_bipush (pc := 2) d_Md_isGuest_2 (by decide) ?_
  refine wv_callS (n := 3) (As := [_, _, _]) (pc := 4) d_Md_isGuest_4 s_Md_38 q_Md_in ⟨by decide, by decide⟩ rfl rfl rfl (Nat.le_of_ble_eq_true rfl) (Nat.le_of_ble_eq_true rfl) ?_
  refine sp_Md_in rx ⟨by omega, by omega⟩ ⟨by omega, by omega⟩ ?_
  refine ⟨_, rfl, ?_⟩
  refine zp_zreturn (pc := 7) d_Md_isGuest_7 rfl (nar_bI _) ?_
  exact k
set_option maxRecDepth 100000 in
theorem sp_Md_tagBy {x : Int} (h0 : 0 ≤ x) (h1 : x ≤ 100000) (k : Q (some (.int (zI (tb x)))) h) : Wp E m_Md_tagBy 0 (gEnt m_Md_tagBy [.int (zI x)]) [] h Q := by
  show Wp E m_Md_tagBy 0 [some (_), none] [] _ _
  refine wp_iconst (pc := 0) d_Md_tagBy_0 ?_
  refine wp_iload_n (pc := 1) d_Md_tagBy_1 rfl ?_
  refine zp_sipush (pc := 2) d_Md_tagBy_2 (by decide) ?_
  refine zp_idiv (pc := 5) d_Md_tagBy_5 (by omega) (by omega) (by omega) (by omega) ?_
  refine zp_imul (pc := 6) d_Md_tagBy_6 ?_
  refine wp_iload_n (pc := 7) d_Md_tagBy_7 rfl ?_
  refine zp_bipush (pc := 8) d_Md_tagBy_8 (by decide) ?_
  refine zp_idiv (pc := 10) d_Md_tagBy_10 (by omega) (by omega) (by omega) (by omega) ?_
  refine zp_bipush (pc := 11) d_Md_tagBy_11 (by decide) ?_
  refine zp_irem (pc := 13) d_Md_tagBy_13 (by omega) (by omega) (by omega) (by omega) ?_
  refine zp_iadd (pc := 14) d_Md_tagBy_14 ?_
  refine zp_bipush (pc := 15) d_Md_tagBy_15 (by decide) ?_
  refine wp_iload_n (pc := 17) d_Md_tagBy_17 rfl ?_
  refine zp_bipush (pc := 18) d_Md_tagBy_18 (by decide) ?_
  refine zp_idiv (pc := 20) d_Md_tagBy_20 (by omega) (by omega) (by omega) (by omega) ?_
  refine zp_bipush (pc := 21) d_Md_tagBy_21 (by decide) ?_
  refine zp_irem (pc := 23) d_Md_tagBy_23 (by omega) (by omega) (by omega) (by omega) ?_
  refine zp_imul (pc := 24) d_Md_tagBy_24 ?_
  refine zp_iadd (pc := 25) d_Md_tagBy_25 ?_
  refine zp_bipush (pc := 26) d_Md_tagBy_26 (by decide) ?_
  refine wp_iload_n (pc := 28) d_Md_tagBy_28 rfl ?_
  refine zp_bipush (pc := 29) d_Md_tagBy_29 (by decide) ?_
  refine zp_irem (pc := 31) d_Md_tagBy_31 (by omega) (by omega) (by omega) (by omega) ?_
  refine zp_imul (pc := 32) d_Md_tagBy_32 ?_
  refine zp_iadd (pc := 33) d_Md_tagBy_33 ?_
  refine st_i1 (pc := 34) d_Md_tagBy_34 (by decide) ?_
  refine zp_bipush (pc := 35) d_Md_tagBy_35 (by decide) ?_
  refine wp_iload_n (pc := 37) d_Md_tagBy_37 rfl ?_
  refine zp_imul (pc := 38) d_Md_tagBy_38 ?_
  refine wp_iload_n (pc := 39) d_Md_tagBy_39 rfl ?_
  refine zp_bipush (pc := 40) d_Md_tagBy_40 (by decide) ?_
  refine zp_irem (pc := 42) d_Md_tagBy_42 (by omega) (by omega) (by omega) (by omega) ?_
  refine zp_iadd (pc := 43) d_Md_tagBy_43 ?_
  refine zp_ireturn (pc := 44) d_Md_tagBy_44 rfl ?_
  exact k
set_option maxRecDepth 100000 in
theorem sp_Md_isRack (hE : gOk E) {x : Int} (rx : gR x) (hn : 0 ≤ F 1 ∧ F 1 ≤ 5) (k : Q (some (.int (zI (bI (0 ≤ x ∧ x ≤ F 1 - 1))))) (MH mo h F sn kp g ln)) : Wp E m_Md_isRack 0 (gEnt m_Md_isRack [.ref mo, .int (zI x)]) [] (MH mo h F sn kp g ln) Q := by
  show Wp E m_Md_isRack 0 [some (_), some (_)] [] _ _
  refine wp_iload_n (pc := 0) d_Md_isRack_0 rfl ?_
  refine wp_iconst (pc := 1) d_Md_isRack_1 ?_
  refine wp_aload_n (pc := 2) d_Md_isRack_2 rfl ?_
  refine wp_getfield (pc := 3) d_Md_isRack_3 f_Md_8 MH_o rfl ?_
  refine wp_iconst (pc := 6) d_Md_isRack_6 ?_
  refine zp_iaload (pc := 7) d_Md_isRack_7 hE.1 MH_r (by omega) (by omega) (by decide) ?_
  refine wp_iconst (pc := 8) d_Md_isRack_8 ?_
  refine zp_isub (pc := 9) d_Md_isRack_9 ?_
  refine wv_callS (n := 3) (As := [_, _, _]) (pc := 10) d_Md_isRack_10 s_Md_38 q_Md_in ⟨by decide, by decide⟩ rfl rfl rfl (Nat.le_of_ble_eq_true rfl) (Nat.le_of_ble_eq_true rfl) ?_
  refine sp_Md_in ⟨by omega, by omega⟩ ⟨by omega, by omega⟩ ⟨by omega, by omega⟩ ?_
  refine ⟨_, rfl, ?_⟩
  refine zp_zreturn (pc := 13) d_Md_isRack_13 rfl (nar_bI _) ?_
  exact k
set_option maxRecDepth 100000 in
theorem sp_Md_holds (hE : gOk E) {x : Int} (h0 : 0 ≤ x) (h1 : x < 60) (hn : 0 ≤ F (29 + 8 * x + 1) ∧ F (29 + 8 * x + 1) ≤ 1) (k : Q (some (.int (zI (bI (F (29 + 8 * x + 1) = 1))))) (MH mo h F sn kp g ln)) : Wp E m_Md_holds 0 (gEnt m_Md_holds [.ref mo, .int (zI x)]) [] (MH mo h F sn kp g ln) Q := by
  show Wp E m_Md_holds 0 [some (_), some (_)] [] _ _
  refine wp_aload_n (pc := 0) d_Md_holds_0 rfl ?_
  refine wp_getfield (pc := 1) d_Md_holds_1 f_Md_8 MH_o rfl ?_
  refine wp_iload_n (pc := 4) d_Md_holds_4 rfl ?_
  refine wp_iconst (pc := 5) d_Md_holds_5 ?_
  refine wv_callS (n := 2) (As := [_, _]) (pc := 6) d_Md_holds_6 s_Md_50 q_Md_of ⟨by decide, by decide⟩ rfl rfl rfl (Nat.le_of_ble_eq_true rfl) (Nat.le_of_ble_eq_true rfl) ?_
  refine sp_Md_of ?_
  refine ⟨_, rfl, ?_⟩
  refine zp_iaload (pc := 9) d_Md_holds_9 hE.1 MH_r (by omega) (by omega) (by decide) ?_
  refine wp_iconst (pc := 10) d_Md_holds_10 ?_
  refine zp_icmp_ne (tgt := 18) (pc := 11) d_Md_holds_11 (by decide) ⟨by omega, by omega⟩ ⟨by omega, by omega⟩ (fun c11 => ?_) (fun c11 => ?_)
  · refine wp_iconst (pc := 18) d_Md_holds_18 ?_
    refine zp_zreturn (pc := 19) d_Md_holds_19 rfl rfl ?_
    first | (rw [bI_t (by omega)] at k; exact k) | (rw [bI_f (by omega)] at k; exact k)
  · refine wp_iconst (pc := 14) d_Md_holds_14 ?_
    refine wp_goto (tgt := 19) (pc := 15) d_Md_holds_15 (by decide) ?_
    refine zp_zreturn (pc := 19) d_Md_holds_19 rfl rfl ?_
    first | (rw [bI_t (by omega)] at k; exact k) | (rw [bI_f (by omega)] at k; exact k)
end S13
