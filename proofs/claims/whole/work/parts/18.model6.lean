/-! ===== the reference: the record, chains, an end ===== -/
section S18
variable {E : gE} {mo : Nat} {h : gH} {F g : Int → Int} {sn kp ln : Int} {Q : Option Value → gH → Prop}
set_option maxRecDepth 100000 in
theorem sp_Md_record (hE : gOk E) (hB : gB E ≤ mo) {b : Int} (hb : b = 0 ∨ b = 39354) (hs0 : 0 ≤ sn) (hs1 : sn ≤ 4) (k : Q none (MH mo h (rcF F sn b) (rcS sn) kp g ln)) : Wp E m_Md_record 0 (gEnt m_Md_record [.ref mo, .int (zI b)]) [] (MH mo h F sn kp g ln) Q := by
  show Wp E m_Md_record 0 [some (_), some (_), none] [] _ _
  refine wp_aload_n (pc := 0) d_Md_record_0 rfl ?_
  refine wp_getfield (pc := 1) d_Md_record_1 f_Md_17 MH_o rfl ?_
  refine wp_iconst (pc := 4) d_Md_record_4 ?_
  refine zp_icmp_ne (tgt := 49) (pc := 5) d_Md_record_5 (by decide) ⟨by omega, by omega⟩ ⟨by omega, by omega⟩ (fun c5 => ?_) (fun c5 => ?_)
  · refine wp_aload_n (pc := 49) d_Md_record_49 rfl ?_
    refine wp_iload_n (pc := 50) d_Md_record_50 rfl ?_
    refine zp_sipush (pc := 51) d_Md_record_51 (by decide) ?_
    refine zp_sipush (pc := 54) d_Md_record_54 (by decide) ?_
    refine wp_aload_n (pc := 57) d_Md_record_57 rfl ?_
    refine wp_getfield (pc := 58) d_Md_record_58 f_Md_17 MH_o rfl ?_
    refine zp_imul (pc := 61) d_Md_record_61 ?_
    refine zp_iadd (pc := 62) d_Md_record_62 ?_
    refine wn_callV (n := 2) (As := [_, _]) (pc := 63) d_Md_record_63 s_Md_21 q_Md_copy ⟨by decide, by decide⟩ MH_o rfl rfl rfl rfl (Nat.le_of_ble_eq_true rfl) (Nat.le_of_ble_eq_true rfl) ?_
    refine sp_Md_copy (a := b) (b := 6559 + 6559 * sn) hE hB (by omega) (by omega) (by omega) (by omega) (by omega) ?_
    refine ⟨rfl, ?_⟩
    refine wp_aload_n (pc := 66) d_Md_record_66 rfl ?_
    refine wp_dup (pc := 67) d_Md_record_67 rfl ?_
    refine wp_getfield (pc := 68) d_Md_record_68 f_Md_17 MH_o rfl ?_
    refine wp_iconst (pc := 71) d_Md_record_71 ?_
    refine zp_iadd (pc := 72) d_Md_record_72 ?_
    refine zp_putI (pc := 73) d_Md_record_73 f_Md_17 MH_o hB (Or.inl rfl) ?_
    rw [MH_p1]
    refine wp_return (pc := 76) d_Md_record_76 rfl ?_
    rw [show rcF F sn b = cpF F b (6559 + 6559 * sn) from if_neg c5, show rcS sn = sn + 1 from if_neg c5] at k
    exact k
  · subst c5
    refine wp_iconst (pc := 8) d_Md_record_8 ?_
    refine st_i2 (pc := 9) d_Md_record_9 (by decide) ?_
    refine wp_iload_n (pc := 10) d_Md_record_10 rfl ?_
    refine wp_iconst (pc := 11) d_Md_record_11 ?_
    refine zp_icmp_ge (tgt := 39) (pc := 12) d_Md_record_12 (by decide) ⟨by omega, by omega⟩ ⟨by omega, by omega⟩ (fun c12 => absurd c12 (by omega)) (fun c12 => ?_)
    refine wp_aload_n (pc := 15) d_Md_record_15 rfl ?_
    refine zp_sipush (pc := 16) d_Md_record_16 (by decide) ?_
    refine zp_sipush (pc := 19) d_Md_record_19 (by decide) ?_
    refine wp_iload_n (pc := 22) d_Md_record_22 rfl ?_
    refine zp_imul (pc := 23) d_Md_record_23 ?_
    refine zp_iadd (pc := 24) d_Md_record_24 ?_
    refine zp_sipush (pc := 25) d_Md_record_25 (by decide) ?_
    refine wp_iload_n (pc := 28) d_Md_record_28 rfl ?_
    refine zp_imul (pc := 29) d_Md_record_29 ?_
    refine wn_callV (n := 2) (As := [_, _]) (pc := 30) d_Md_record_30 s_Md_21 q_Md_copy ⟨by decide, by decide⟩ MH_o rfl rfl rfl rfl (Nat.le_of_ble_eq_true rfl) (Nat.le_of_ble_eq_true rfl) ?_
    refine sp_Md_copy (a := 13118) (b := 6559) hE hB (by omega) (by omega) (by omega) (by omega) (by omega) ?_
    refine ⟨rfl, ?_⟩
    refine st_c2 (pc := 33) d_Md_record_33 (by decide) ?_
    refine wp_goto (tgt := 10) (pc := 36) d_Md_record_36 (by decide) ?_
    refine wp_iload_n (pc := 10) d_Md_record_10 rfl ?_
    refine wp_iconst (pc := 11) d_Md_record_11 ?_
    refine zp_icmp_ge (tgt := 39) (pc := 12) d_Md_record_12 (by decide) ⟨by omega, by omega⟩ ⟨by omega, by omega⟩ (fun c12 => absurd c12 (by omega)) (fun c12 => ?_)
    refine wp_aload_n (pc := 15) d_Md_record_15 rfl ?_
    refine zp_sipush (pc := 16) d_Md_record_16 (by decide) ?_
    refine zp_sipush (pc := 19) d_Md_record_19 (by decide) ?_
    refine wp_iload_n (pc := 22) d_Md_record_22 rfl ?_
    refine zp_imul (pc := 23) d_Md_record_23 ?_
    refine zp_iadd (pc := 24) d_Md_record_24 ?_
    refine zp_sipush (pc := 25) d_Md_record_25 (by decide) ?_
    refine wp_iload_n (pc := 28) d_Md_record_28 rfl ?_
    refine zp_imul (pc := 29) d_Md_record_29 ?_
    refine wn_callV (n := 2) (As := [_, _]) (pc := 30) d_Md_record_30 s_Md_21 q_Md_copy ⟨by decide, by decide⟩ MH_o rfl rfl rfl rfl (Nat.le_of_ble_eq_true rfl) (Nat.le_of_ble_eq_true rfl) ?_
    refine sp_Md_copy (a := 19677) (b := 13118) hE hB (by omega) (by omega) (by omega) (by omega) (by omega) ?_
    refine ⟨rfl, ?_⟩
    refine st_c2 (pc := 33) d_Md_record_33 (by decide) ?_
    refine wp_goto (tgt := 10) (pc := 36) d_Md_record_36 (by decide) ?_
    refine wp_iload_n (pc := 10) d_Md_record_10 rfl ?_
    refine wp_iconst (pc := 11) d_Md_record_11 ?_
    refine zp_icmp_ge (tgt := 39) (pc := 12) d_Md_record_12 (by decide) ⟨by omega, by omega⟩ ⟨by omega, by omega⟩ (fun c12 => absurd c12 (by omega)) (fun c12 => ?_)
    refine wp_aload_n (pc := 15) d_Md_record_15 rfl ?_
    refine zp_sipush (pc := 16) d_Md_record_16 (by decide) ?_
    refine zp_sipush (pc := 19) d_Md_record_19 (by decide) ?_
    refine wp_iload_n (pc := 22) d_Md_record_22 rfl ?_
    refine zp_imul (pc := 23) d_Md_record_23 ?_
    refine zp_iadd (pc := 24) d_Md_record_24 ?_
    refine zp_sipush (pc := 25) d_Md_record_25 (by decide) ?_
    refine wp_iload_n (pc := 28) d_Md_record_28 rfl ?_
    refine zp_imul (pc := 29) d_Md_record_29 ?_
    refine wn_callV (n := 2) (As := [_, _]) (pc := 30) d_Md_record_30 s_Md_21 q_Md_copy ⟨by decide, by decide⟩ MH_o rfl rfl rfl rfl (Nat.le_of_ble_eq_true rfl) (Nat.le_of_ble_eq_true rfl) ?_
    refine sp_Md_copy (a := 26236) (b := 19677) hE hB (by omega) (by omega) (by omega) (by omega) (by omega) ?_
    refine ⟨rfl, ?_⟩
    refine st_c2 (pc := 33) d_Md_record_33 (by decide) ?_
    refine wp_goto (tgt := 10) (pc := 36) d_Md_record_36 (by decide) ?_
    refine wp_iload_n (pc := 10) d_Md_record_10 rfl ?_
    refine wp_iconst (pc := 11) d_Md_record_11 ?_
    refine zp_icmp_ge (tgt := 39) (pc := 12) d_Md_record_12 (by decide) ⟨by omega, by omega⟩ ⟨by omega, by omega⟩ (fun c12 => ?_) (fun c12 => absurd c12 (by omega))
    refine wp_aload_n (pc := 39) d_Md_record_39 rfl ?_
    refine wp_dup (pc := 40) d_Md_record_40 rfl ?_
    refine wp_getfield (pc := 41) d_Md_record_41 f_Md_17 MH_o rfl ?_
    refine wp_iconst (pc := 44) d_Md_record_44 ?_
    refine zp_isub (pc := 45) d_Md_record_45 ?_
    refine zp_putI (pc := 46) d_Md_record_46 f_Md_17 MH_o hB (Or.inl rfl) ?_
    rw [MH_p1]
    refine wp_aload_n (pc := 49) d_Md_record_49 rfl ?_
    refine wp_iload_n (pc := 50) d_Md_record_50 rfl ?_
    refine zp_sipush (pc := 51) d_Md_record_51 (by decide) ?_
    refine zp_sipush (pc := 54) d_Md_record_54 (by decide) ?_
    refine wp_aload_n (pc := 57) d_Md_record_57 rfl ?_
    refine wp_getfield (pc := 58) d_Md_record_58 f_Md_17 MH_o rfl ?_
    refine zp_imul (pc := 61) d_Md_record_61 ?_
    refine zp_iadd (pc := 62) d_Md_record_62 ?_
    refine wn_callV (n := 2) (As := [_, _]) (pc := 63) d_Md_record_63 s_Md_21 q_Md_copy ⟨by decide, by decide⟩ MH_o rfl rfl rfl rfl (Nat.le_of_ble_eq_true rfl) (Nat.le_of_ble_eq_true rfl) ?_
    refine sp_Md_copy (a := b) (b := 26236) hE hB (by omega) (by omega) (by omega) (by omega) (by omega) ?_
    refine ⟨rfl, ?_⟩
    refine wp_aload_n (pc := 66) d_Md_record_66 rfl ?_
    refine wp_dup (pc := 67) d_Md_record_67 rfl ?_
    refine wp_getfield (pc := 68) d_Md_record_68 f_Md_17 MH_o rfl ?_
    refine wp_iconst (pc := 71) d_Md_record_71 ?_
    refine zp_iadd (pc := 72) d_Md_record_72 ?_
    refine zp_putI (pc := 73) d_Md_record_73 f_Md_17 MH_o hB (Or.inl rfl) ?_
    rw [MH_p1]
    refine wp_return (pc := 76) d_Md_record_76 rfl ?_
    rw [show rcF F 4 b = cpF (cpF (cpF (cpF F 13118 6559) 19677 13118) 26236 19677) b 26236 from if_pos rfl, show rcS 4 = 4 from rfl] at k
    exact k
set_option maxRecDepth 100000 in
theorem lp_Md_lastOf (hE : gOk E) {n w z : Int} (hV : Vd n F) (k : Q (some (.int (zI (z)))) (MH mo h F sn kp g ln)) : ∀ (d : Nat) (x : Int), Ch F d x z → Wp E m_Md_lastOf 2 [some (.ref mo), some (.int (zI w)), some (.int (zI x))] [] (MH mo h F sn kp g ln) Q := by
  intro d
  induction d with
  | zero =>
    intro x hc
    have hx := hc.x
    have hf := fol_b hV hx.1 hx.2
    obtain ⟨rfl, hc1, hc2, hc3⟩ := hc
    refine wp_aload_n (pc := 2) d_Md_lastOf_2 rfl ?_
    refine wp_iload_n (pc := 3) d_Md_lastOf_3 rfl ?_
    refine wv_callV (n := 1) (As := [_]) (pc := 4) d_Md_lastOf_4 s_Md_67 q_Md_follows ⟨by decide, by decide⟩ MH_o rfl rfl rfl rfl (Nat.le_of_ble_eq_true rfl) (Nat.le_of_ble_eq_true rfl) ?_
    refine sp_Md_follows hE hV hx.1 hx.2 ?_
    refine ⟨_, rfl, ?_⟩
    refine zp_if_lt (tgt := 19) (pc := 7) d_Md_lastOf_7 (by decide) ⟨by omega, by omega⟩ (fun c7 => ?_) (fun c7 => absurd c7 (by omega))
    refine wp_iload_n (pc := 19) d_Md_lastOf_19 rfl ?_
    refine zp_ireturn (pc := 20) d_Md_lastOf_20 rfl ?_
    exact k
  | succ d ih =>
    intro x hc
    have hx := hc.x
    have hf := fol_b hV hx.1 hx.2
    have hc3 := hc.2.2.1
    refine wp_aload_n (pc := 2) d_Md_lastOf_2 rfl ?_
    refine wp_iload_n (pc := 3) d_Md_lastOf_3 rfl ?_
    refine wv_callV (n := 1) (As := [_]) (pc := 4) d_Md_lastOf_4 s_Md_67 q_Md_follows ⟨by decide, by decide⟩ MH_o rfl rfl rfl rfl (Nat.le_of_ble_eq_true rfl) (Nat.le_of_ble_eq_true rfl) ?_
    refine sp_Md_follows hE hV hx.1 hx.2 ?_
    refine ⟨_, rfl, ?_⟩
    refine zp_if_lt (tgt := 19) (pc := 7) d_Md_lastOf_7 (by decide) ⟨by omega, by omega⟩ (fun c7 => absurd c7 (by omega)) (fun c7 => ?_)
    refine wp_aload_n (pc := 10) d_Md_lastOf_10 rfl ?_
    refine wp_iload_n (pc := 11) d_Md_lastOf_11 rfl ?_
    refine wv_callV (n := 1) (As := [_]) (pc := 12) d_Md_lastOf_12 s_Md_67 q_Md_follows ⟨by decide, by decide⟩ MH_o rfl rfl rfl rfl (Nat.le_of_ble_eq_true rfl) (Nat.le_of_ble_eq_true rfl) ?_
    refine sp_Md_follows hE hV hx.1 hx.2 ?_
    refine ⟨_, rfl, ?_⟩
    refine st_i2 (pc := 15) d_Md_lastOf_15 (by decide) ?_
    refine wp_goto (tgt := 2) (pc := 16) d_Md_lastOf_16 (by decide) ?_
    exact ih _ hc.2.2.2
set_option maxRecDepth 100000 in
theorem sp_Md_lastOf (hE : gOk E) {n x : Int} (hV : Vd n F) (hA : AC F) (h0 : 0 ≤ x) (h1 : x < 6000) (k : Q (some (.int (zI (la F x)))) (MH mo h F sn kp g ln)) : Wp E m_Md_lastOf 0 (gEnt m_Md_lastOf [.ref mo, .int (zI x)]) [] (MH mo h F sn kp g ln) Q := by
  show Wp E m_Md_lastOf 0 [some (_), some (_), none] [] _ _
  refine wp_iload_n (pc := 0) d_Md_lastOf_0 rfl ?_
  refine st_i2 (pc := 1) d_Md_lastOf_1 (by decide) ?_
  obtain ⟨d, -, hc, -⟩ := hA.en h0 h1
  exact lp_Md_lastOf hE hV k d x hc
set_option maxRecDepth 100000 in
theorem lp_Md_wayOf (hE : gOk E) {n w z m : Int} (hV : Vd n F) (hm : m ≤ 100000000) (k : Q (some (.int (zI (m)))) (MH mo h F sn kp g ln)) : ∀ (d : Nat) (x c : Int), Ch F d x z → c + d = m → 0 ≤ c → Wp E m_Md_wayOf 8 [some (.ref mo), some (.int (zI w)), some (.int (zI c)), some (.int (zI (fol F x)))] [] (MH mo h F sn kp g ln) Q := by
  intro d
  induction d with
  | zero =>
    intro x c hc hm2 hc0
    have hx := hc.x
    have hf := fol_b hV hx.1 hx.2
    obtain ⟨rfl, hc1, hc2, hc3⟩ := hc
    refine wp_iload_n (pc := 8) d_Md_wayOf_8 rfl ?_
    refine zp_if_lt (tgt := 24) (pc := 9) d_Md_wayOf_9 (by decide) ⟨by omega, by omega⟩ (fun c9 => ?_) (fun c9 => absurd c9 (by omega))
    obtain rfl : c = m := by omega
    refine wp_iload_n (pc := 24) d_Md_wayOf_24 rfl ?_
    refine zp_ireturn (pc := 25) d_Md_wayOf_25 rfl ?_
    exact k
  | succ d ih =>
    intro x c hc hm2 hc0
    have hx := hc.x
    have hf := fol_b hV hx.1 hx.2
    have hc3 := hc.2.2.1
    refine wp_iload_n (pc := 8) d_Md_wayOf_8 rfl ?_
    refine zp_if_lt (tgt := 24) (pc := 9) d_Md_wayOf_9 (by decide) ⟨by omega, by omega⟩ (fun c9 => absurd c9 (by omega)) (fun c9 => ?_)
    refine st_c2 (pc := 12) d_Md_wayOf_12 (by decide) ?_
    refine wp_aload_n (pc := 15) d_Md_wayOf_15 rfl ?_
    refine wp_iload_n (pc := 16) d_Md_wayOf_16 rfl ?_
    refine wv_callV (n := 1) (As := [_]) (pc := 17) d_Md_wayOf_17 s_Md_67 q_Md_follows ⟨by decide, by decide⟩ MH_o rfl rfl rfl rfl (Nat.le_of_ble_eq_true rfl) (Nat.le_of_ble_eq_true rfl) ?_
    refine sp_Md_follows hE hV hc.2.2.2.x.1 hc.2.2.2.x.2 ?_
    refine ⟨_, rfl, ?_⟩
    refine st_i3 (pc := 20) d_Md_wayOf_20 (by decide) ?_
    refine wp_goto (tgt := 8) (pc := 21) d_Md_wayOf_21 (by decide) ?_
    exact ih _ (c + 1) hc.2.2.2 (by omega) (by omega)
set_option maxRecDepth 100000 in
theorem sp_Md_wayOf (hE : gOk E) {n x : Int} (hV : Vd n F) (hn : n ≤ 100000000) (hA : AC F) (h0 : 0 ≤ x) (h1 : x < 6000) (k : Q (some (.int (zI (wy F x)))) (MH mo h F sn kp g ln)) : Wp E m_Md_wayOf 0 (gEnt m_Md_wayOf [.ref mo, .int (zI x)]) [] (MH mo h F sn kp g ln) Q := by
  show Wp E m_Md_wayOf 0 [some (_), some (_), none, none] [] _ _
  refine wp_iconst (pc := 0) d_Md_wayOf_0 ?_
  refine st_i2 (pc := 1) d_Md_wayOf_1 (by decide) ?_
  refine wp_aload_n (pc := 2) d_Md_wayOf_2 rfl ?_
  refine wp_iload_n (pc := 3) d_Md_wayOf_3 rfl ?_
  refine wv_callV (n := 1) (As := [_]) (pc := 4) d_Md_wayOf_4 s_Md_67 q_Md_follows ⟨by decide, by decide⟩ MH_o rfl rfl rfl rfl (Nat.le_of_ble_eq_true rfl) (Nat.le_of_ble_eq_true rfl) ?_
  refine sp_Md_follows hE hV h0 h1 ?_
  refine ⟨_, rfl, ?_⟩
  refine st_i3 (pc := 7) d_Md_wayOf_7 (by decide) ?_
  obtain ⟨d, hd, hc, hw⟩ := hA.en h0 h1
  have h5 := hV.2.1 5 (by omega) (by omega) (by omega)
  exact lp_Md_wayOf (m := wy F x) hE hV (by omega) k d x 0 hc (by omega) (by omega)
set_option maxRecDepth 100000 in
theorem sp_Md_noTag (hE : gOk E) {n t : Int} (hV : Vd n F) (hA : AC F) (rt : gR t) (k : Q (some (.int (zI (noT F t)))) (MH mo h F sn kp g ln)) : Wp E m_Md_noTag 0 (gEnt m_Md_noTag [.ref mo, .int (zI t)]) [] (MH mo h F sn kp g ln) Q := by
  have hb := fun (q : isTg t) => hA.b (x := t / 10) (by omega) (by omega)
  have heb := fun (q : isTg t) => eo_b hV (hb q).1 (hb q).2
  show Wp E m_Md_noTag 0 [some (_), some (_), none] [] _ _
  refine wp_iload_n (pc := 0) d_Md_noTag_0 rfl ?_
  refine wv_callS (n := 1) (As := [_]) (pc := 1) d_Md_noTag_1 s_Md_70 q_Md_isTag ⟨by decide, by decide⟩ rfl rfl rfl (Nat.le_of_ble_eq_true rfl) (Nat.le_of_ble_eq_true rfl) ?_
  refine sp_Md_isTag rt ?_
  refine ⟨_, rfl, ?_⟩
  refine zp_ifb_ne (tgt := 10) (pc := 4) d_Md_noTag_4 (by decide) (fun c4 => ?_) (fun c4 => ?_)
  · refine wp_aload_n (pc := 10) d_Md_noTag_10 rfl ?_
    refine wp_iload_n (pc := 11) d_Md_noTag_11 rfl ?_
    refine zp_bipush (pc := 12) d_Md_noTag_12 (by decide) ?_
    refine zp_idiv (pc := 14) d_Md_noTag_14 (by omega) (by omega) (by omega) (by omega) ?_
    refine wv_callV (n := 1) (As := [_]) (pc := 15) d_Md_noTag_15 s_Md_73 q_Md_isGiven ⟨by decide, by decide⟩ MH_o rfl rfl rfl rfl (Nat.le_of_ble_eq_true rfl) (Nat.le_of_ble_eq_true rfl) ?_
    refine sp_Md_isGiven hE hV (by omega) (by omega) ?_
    refine ⟨_, rfl, ?_⟩
    refine zp_ifb_ne (tgt := 23) (pc := 18) d_Md_noTag_18 (by decide) (fun c18 => ?_) (fun c18 => ?_)
    · refine wp_aload_n (pc := 23) d_Md_noTag_23 rfl ?_
      refine wp_aload_n (pc := 24) d_Md_noTag_24 rfl ?_
      refine wp_iload_n (pc := 25) d_Md_noTag_25 rfl ?_
      refine zp_bipush (pc := 26) d_Md_noTag_26 (by decide) ?_
      refine zp_idiv (pc := 28) d_Md_noTag_28 (by omega) (by omega) (by omega) (by omega) ?_
      refine wv_callV (n := 1) (As := [_]) (pc := 29) d_Md_noTag_29 s_Md_76 q_Md_lastOf ⟨by decide, by decide⟩ MH_o rfl rfl rfl rfl (Nat.le_of_ble_eq_true rfl) (Nat.le_of_ble_eq_true rfl) ?_
      refine sp_Md_lastOf hE hV hA (by omega) (by omega) ?_
      refine ⟨_, rfl, ?_⟩
      refine wv_callV (n := 1) (As := [_]) (pc := 32) d_Md_noTag_32 s_Md_79 q_Md_endOf ⟨by decide, by decide⟩ MH_o rfl rfl rfl rfl (Nat.le_of_ble_eq_true rfl) (Nat.le_of_ble_eq_true rfl) ?_
      refine sp_Md_endOf hE hV (hb (by assumption)).1 (hb (by assumption)).2 ?_
      refine ⟨_, rfl, ?_⟩
      have heb2 := heb (by assumption)
      refine st_i2 (pc := 35) d_Md_noTag_35 (by decide) ?_
      refine wp_iload_n (pc := 36) d_Md_noTag_36 rfl ?_
      refine zp_if_ne (tgt := 44) (pc := 37) d_Md_noTag_37 (by decide) ⟨by omega, by omega⟩ (fun c37 => ?_) (fun c37 => ?_)
      · refine wp_iload_n (pc := 44) d_Md_noTag_44 rfl ?_
        refine wp_iconst (pc := 45) d_Md_noTag_45 ?_
        refine zp_icmp_ne (tgt := 54) (pc := 46) d_Md_noTag_46 (by decide) ⟨by omega, by omega⟩ ⟨by omega, by omega⟩ (fun c46 => ?_) (fun c46 => ?_)
        · refine zp_bipush (pc := 54) d_Md_noTag_54 (by decide) ?_
          refine zp_ireturn (pc := 56) d_Md_noTag_56 rfl ?_
          have ee : noT F t = -7 := by
            unfold noT
            (repeat' split) <;> omega
          rw [ee] at k
          exact k
        · refine zp_bipush (pc := 49) d_Md_noTag_49 (by decide) ?_
          refine wp_goto (tgt := 56) (pc := 51) d_Md_noTag_51 (by decide) ?_
          refine zp_ireturn (pc := 56) d_Md_noTag_56 rfl ?_
          have ee : noT F t = -6 := by
            unfold noT
            (repeat' split) <;> omega
          rw [ee] at k
          exact k
      · refine wp_iconst (pc := 40) d_Md_noTag_40 ?_
        refine wp_goto (tgt := 56) (pc := 41) d_Md_noTag_41 (by decide) ?_
        refine zp_ireturn (pc := 56) d_Md_noTag_56 rfl ?_
        have ee : noT F t = 0 := by
          unfold noT
          (repeat' split) <;> omega
        rw [ee] at k
        exact k
    · refine wp_iconst (pc := 21) d_Md_noTag_21 ?_
      refine zp_ireturn (pc := 22) d_Md_noTag_22 rfl ?_
      have ee : noT F t = -1 := by
        unfold noT
        (repeat' split) <;> omega
      rw [ee] at k
      exact k
  · refine zp_bipush (pc := 7) d_Md_noTag_7 (by decide) ?_
    refine zp_ireturn (pc := 9) d_Md_noTag_9 rfl ?_
    have ee : noT F t = -2 := by
      unfold noT
      (repeat' split) <;> omega
    rw [ee] at k
    exact k
set_option maxRecDepth 100000 in
theorem sp_Md_dueOn (hE : gOk E) {n x : Int} (hV : Vd n F) (h0 : 0 ≤ x) (h1 : x < 60) (k : Q (some (.int (zI (duF F x)))) (MH mo h F sn kp g ln)) : Wp E m_Md_dueOn 0 (gEnt m_Md_dueOn [.ref mo, .int (zI x)]) [] (MH mo h F sn kp g ln) Q := by
  have hk := hV.2.2.2.1 x h0 h1
  have hs := hV.1
  have hdu := du_b (a := F (29 + 8 * x + 3)) (b := F 3) (c := F 0 - F (29 + 8 * x + 4)) (by omega) (by omega) (by omega) (by omega) (by omega) (by omega)
  show Wp E m_Md_dueOn 0 [some (_), some (_), none] [] _ _
  refine wp_aload_n (pc := 0) d_Md_dueOn_0 rfl ?_
  refine wp_getfield (pc := 1) d_Md_dueOn_1 f_Md_8 MH_o rfl ?_
  refine wp_iload_n (pc := 4) d_Md_dueOn_4 rfl ?_
  refine wp_iconst (pc := 5) d_Md_dueOn_5 ?_
  refine wv_callS (n := 2) (As := [_, _]) (pc := 6) d_Md_dueOn_6 s_Md_50 q_Md_of ⟨by decide, by decide⟩ rfl rfl rfl (Nat.le_of_ble_eq_true rfl) (Nat.le_of_ble_eq_true rfl) ?_
  refine sp_Md_of ?_
  refine ⟨_, rfl, ?_⟩
  refine zp_iaload (pc := 9) d_Md_dueOn_9 hE.1 MH_r (by omega) (by omega) (by decide) ?_
  refine wp_aload_n (pc := 10) d_Md_dueOn_10 rfl ?_
  refine wp_getfield (pc := 11) d_Md_dueOn_11 f_Md_8 MH_o rfl ?_
  refine wp_iconst (pc := 14) d_Md_dueOn_14 ?_
  refine zp_iaload (pc := 15) d_Md_dueOn_15 hE.1 MH_r (by omega) (by omega) (by decide) ?_
  refine zp_imul (pc := 16) d_Md_dueOn_16 ?_
  refine wp_aload_n (pc := 17) d_Md_dueOn_17 rfl ?_
  refine wp_getfield (pc := 18) d_Md_dueOn_18 f_Md_8 MH_o rfl ?_
  refine wp_iconst (pc := 21) d_Md_dueOn_21 ?_
  refine zp_iaload (pc := 22) d_Md_dueOn_22 hE.1 MH_r (by omega) (by omega) (by decide) ?_
  refine wp_aload_n (pc := 23) d_Md_dueOn_23 rfl ?_
  refine wp_getfield (pc := 24) d_Md_dueOn_24 f_Md_8 MH_o rfl ?_
  refine wp_iload_n (pc := 27) d_Md_dueOn_27 rfl ?_
  refine wp_iconst (pc := 28) d_Md_dueOn_28 ?_
  refine wv_callS (n := 2) (As := [_, _]) (pc := 29) d_Md_dueOn_29 s_Md_50 q_Md_of ⟨by decide, by decide⟩ rfl rfl rfl (Nat.le_of_ble_eq_true rfl) (Nat.le_of_ble_eq_true rfl) ?_
  refine sp_Md_of ?_
  refine ⟨_, rfl, ?_⟩
  refine zp_iaload (pc := 32) d_Md_dueOn_32 hE.1 MH_r (by omega) (by omega) (by decide) ?_
  refine zp_isub (pc := 33) d_Md_dueOn_33 ?_
  refine zp_imul (pc := 34) d_Md_dueOn_34 ?_
  refine st_i2 (pc := 35) d_Md_dueOn_35 (by decide) ?_
  refine wp_iload_n (pc := 36) d_Md_dueOn_36 rfl ?_
  refine wp_aload_n (pc := 37) d_Md_dueOn_37 rfl ?_
  refine wp_getfield (pc := 38) d_Md_dueOn_38 f_Md_8 MH_o rfl ?_
  refine wp_iconst (pc := 41) d_Md_dueOn_41 ?_
  refine zp_iaload (pc := 42) d_Md_dueOn_42 hE.1 MH_r (by omega) (by omega) (by decide) ?_
  refine zp_icmp_le (tgt := 50) (pc := 43) d_Md_dueOn_43 (by decide) ⟨by omega, by omega⟩ ⟨by omega, by omega⟩ (fun c43 => ?_) (fun c43 => ?_)
  · refine wp_aload_n (pc := 50) d_Md_dueOn_50 rfl ?_
    refine wp_getfield (pc := 51) d_Md_dueOn_51 f_Md_8 MH_o rfl ?_
    refine wp_iconst (pc := 54) d_Md_dueOn_54 ?_
    refine zp_iaload (pc := 55) d_Md_dueOn_55 hE.1 MH_r (by omega) (by omega) (by decide) ?_
    refine zp_ireturn (pc := 56) d_Md_dueOn_56 rfl ?_
    unfold duF at k; first | (rw [if_pos (by omega)] at k; exact k) | (rw [if_neg (by omega)] at k; exact k)
  · refine wp_iload_n (pc := 46) d_Md_dueOn_46 rfl ?_
    refine wp_goto (tgt := 56) (pc := 47) d_Md_dueOn_47 (by decide) ?_
    refine zp_ireturn (pc := 56) d_Md_dueOn_56 rfl ?_
    unfold duF at k; first | (rw [if_pos (by omega)] at k; exact k) | (rw [if_neg (by omega)] at k; exact k)
set_option maxRecDepth 100000 in
theorem sp_Md_end (hE : gOk E) (hB : gB E ≤ mo) {n x e c : Int} (hV : Vb n F) (hn : n ≤ 1000000000) (h0 : 0 ≤ x) (h1 : x < 60) (he : 0 ≤ e ∧ e ≤ 3) (hu : F (559 + hdl F x) < 512) (k : Q none (MH mo h (enF F x e c) sn kp g ln)) : Wp E m_Md_end 0 (gEnt m_Md_end [.ref mo, .int (zI x), .int (zI e), .int (zI c)]) [] (MH mo h F sn kp g ln) Q := by
  have hB1 : gB E ≤ mo + 1 := by omega
  have hb := hdl_b hV.vd h0 h1
  have hh := hV.vd.2.2.2.2.2.2 (hdl F x) hb.1 (by omega)
  show Wp E m_Md_end 0 [some (_), some (_), some (_), some (_), none] [] _ _
  refine wp_aload_n (pc := 0) d_Md_end_0 rfl ?_
  refine wp_iload_n (pc := 1) d_Md_end_1 rfl ?_
  refine wv_callV (n := 1) (As := [_]) (pc := 2) d_Md_end_2 s_Md_82 q_Md_handleOn ⟨by decide, by decide⟩ MH_o rfl rfl rfl rfl (Nat.le_of_ble_eq_true rfl) (Nat.le_of_ble_eq_true rfl) ?_
  refine sp_Md_handleOn hE h0 h1 ?_
  refine ⟨_, rfl, ?_⟩
  refine st_i4 (pc := 5) d_Md_end_5 (by decide) ?_
  refine wp_aload_n (pc := 7) d_Md_end_7 rfl ?_
  refine wp_getfield (pc := 8) d_Md_end_8 f_Md_8 MH_o rfl ?_
  refine zp_sipush (pc := 11) d_Md_end_11 (by decide) ?_
  refine wp_iload (pc := 14) d_Md_end_14 rfl ?_
  refine zp_iadd (pc := 16) d_Md_end_16 ?_
  refine wp_dup2 (pc := 17) d_Md_end_17 rfl rfl ?_
  refine zp_iaload (pc := 18) d_Md_end_18 hE.1 MH_r (by omega) (by omega) (by decide) ?_
  refine wp_iconst (pc := 19) d_Md_end_19 ?_
  refine wp_iload_n (pc := 20) d_Md_end_20 rfl ?_
  refine zp_imul (pc := 21) d_Md_end_21 ?_
  refine zp_iadd (pc := 22) d_Md_end_22 ?_
  refine zp_iastore (pc := 23) d_Md_end_23 hE.1 MH_r hB1 (by omega) (by omega) (by decide) ?_
  rw [MH_pr]
  refine wp_aload_n (pc := 24) d_Md_end_24 rfl ?_
  refine wp_iload_n (pc := 25) d_Md_end_25 rfl ?_
  have hV2 : Vb n (zup F (559 + hdl F x) (F (559 + hdl F x) + 2 * e)) := hV.upd fun _ => by
    rw [bHi_t n (hdl F x) hb.1 (by omega)]
    unfold bLo
    rw [if_neg (by omega)]
    omega
  refine wn_callV (n := 1) (As := [_]) (pc := 26) d_Md_end_26 s_Md_85 q_Md_leave ⟨by decide, by decide⟩ MH_o rfl rfl rfl rfl (Nat.le_of_ble_eq_true rfl) (Nat.le_of_ble_eq_true rfl) ?_
  refine sp_Md_leave hE hB hV2.vd hn h0 h1 ?_
  refine ⟨rfl, ?_⟩
  refine wp_aload_n (pc := 29) d_Md_end_29 rfl ?_
  refine wp_iload_n (pc := 30) d_Md_end_30 rfl ?_
  refine wp_iload (pc := 31) d_Md_end_31 rfl ?_
  have h13 := hV.vd.2.1 13 (by omega) (by omega) (by omega)
  refine wn_callV (n := 2) (As := [_, _]) (pc := 33) d_Md_end_33 s_Md_88 q_Md_log ⟨by decide, by decide⟩ MH_o rfl rfl rfl rfl (Nat.le_of_ble_eq_true rfl) (Nat.le_of_ble_eq_true rfl) ?_
  refine sp_Md_log hE hB (n := n) (by rw [lvF_o (by omega) (by omega) (by omega) (by omega) (by omega) (by omega), zup_ne _ _ (by omega)]; exact h13) hn ?_
  refine ⟨rfl, ?_⟩
  refine wp_return (pc := 36) d_Md_end_36 rfl ?_
  exact k
end S18
