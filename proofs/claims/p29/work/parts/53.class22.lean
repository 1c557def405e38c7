/-! ===== the class: answers ===== -/
section S53
variable {E : gE} {B S : Nat} {h0 h : gH} {X : Nat → SC} {T : TC} {i : Nat} {Y : SC} {F t : Int → Int} {A : Nat → Nat} {N : Nat} {V : Nat → Int → Int} {Q : Option Value → gH → Prop}
set_option maxRecDepth 100000 in
theorem sp_Yt_tagOf (hE : gOk E) (hB : gB E ≤ B) (hW : CN B S h0 X T 0 h (F, t, A, N, V)) {nv : Int} (hJ : J nv F) (hn : nv ≤ 100000000) (hR : RI F t N V) {x : Int} (rx : gR x) (k : Q (some (.int (zI (c_to x)))) h) : Wp E m_Yt_tagOf 0 (gEnt m_Yt_tagOf [.ref B, .int (zI x)]) [] h Q := by
  show Wp E m_Yt_tagOf 0 [some (_), some (_)] [] _ _
  refine wp_iload_n (pc := 0) d_Yt_tagOf_0 rfl ?_
  refine zp_if_lt (tgt := 11) (pc := 1) d_Yt_tagOf_1 (by decide) rx (fun c1 => ?_) (fun c1 => ?_)
  · refine zp_bipush (pc := 11) d_Yt_tagOf_11 (by decide) ?_
    refine wp_goto (tgt := 20) (pc := 13) d_Yt_tagOf_13 (by decide) ?_
    refine zp_ireturn (pc := 20) d_Yt_tagOf_20 rfl ?_
    refine ansI k ?_
    unfold c_to
    split <;> first | rfl | omega
  · refine wp_iload_n (pc := 4) d_Yt_tagOf_4 rfl ?_
    refine zp_sipush (pc := 5) d_Yt_tagOf_5 (by decide) ?_
    refine zp_icmp_lt (tgt := 16) (pc := 8) d_Yt_tagOf_8 (by decide) rx ⟨by omega, by omega⟩ (fun c8 => ?_) (fun c8 => ?_)
    · refine wp_iload_n (pc := 16) d_Yt_tagOf_16 rfl ?_
      refine wv_callS (n := 1) (As := [_]) (pc := 17) d_Yt_tagOf_17 s_Yt_202 q_Yt_tagWithCheck ⟨by decide, by decide⟩ rfl rfl rfl (Nat.le_of_ble_eq_true rfl) (Nat.le_of_ble_eq_true rfl) ?_
      refine sp_Yt_tagWithCheck (by omega) (by omega) ?_
      refine ⟨_, rfl, ?_⟩
      refine zp_ireturn (pc := 20) d_Yt_tagOf_20 rfl ?_
      refine ansI k ?_
      unfold c_to
      split <;> first | rfl | omega
    · refine zp_bipush (pc := 11) d_Yt_tagOf_11 (by decide) ?_
      refine wp_goto (tgt := 20) (pc := 13) d_Yt_tagOf_13 (by decide) ?_
      refine zp_ireturn (pc := 20) d_Yt_tagOf_20 rfl ?_
      refine ansI k ?_
      unfold c_to
      split <;> first | rfl | omega
set_option maxRecDepth 100000 in
theorem sp_Yt_next (hE : gOk E) (hB : gB E ≤ B) (hW : CN B S h0 X T 0 h (F, t, A, N, V)) {nv : Int} (hJ : J nv F) (hn : nv ≤ 100000000) (hR : RI F t N V) {x : Int} (rx : gR x) (k : Q (some (.int (zI (c_nx F x)))) h) : Wp E m_Yt_next 0 (gEnt m_Yt_next [.ref B, .int (zI x)]) [] h Q := by
  have hi : (0 : Nat) < 6 := by decide
  have hV := hJ.vd
  have hN := hW.aN hi
  have hG := hR.1
  have hT := hR.rT hN.2
  have hL := hR.rL
  have hs := hV.1
  show Wp E m_Yt_next 0 [some (_), some (_), none] [] _ _
  refine wp_iload_n (pc := 0) d_Yt_next_0 rfl ?_
  refine wv_callS (n := 1) (As := [_]) (pc := 1) d_Yt_next_1 s_Yt_41 q_Yt_isSize ⟨by decide, by decide⟩ rfl rfl rfl (Nat.le_of_ble_eq_true rfl) (Nat.le_of_ble_eq_true rfl) ?_
  refine sp_Yt_isSize rx ?_
  refine ⟨_, rfl, ?_⟩
  refine zp_ifb_ne (tgt := 10) (pc := 4) d_Yt_next_4 (by decide) (fun c4 => ?_) (fun c4 => ?_)
  · refine wp_aload_n (pc := 10) d_Yt_next_10 rfl ?_
    refine wp_getfield (pc := 11) d_Yt_next_11 f_Yt_10 hW.yt rfl ?_
    refine wp_iload_n (pc := 14) d_Yt_next_14 rfl ?_
    have hbb := bst_b F x 60
    rcases Decidable.em (¬ bst F x 60 = -5) with c15 | c15
    · refine wv_callV (n := 1) (As := [_]) (pc := 15) d_Yt_next_15 s_Yt_93 q_St_hookByRule ⟨by decide, by decide⟩ (hW.st hi) rfl rfl rfl rfl (Nat.le_of_ble_eq_true rfl) (Nat.le_of_ble_eq_true rfl) ?_
      refine sp_St_hookByRule hE hB hW hi hV (by omega) hT hL rx (fun q => absurd q c15) (fun _ => ?_)
      refine ⟨_, rfl, ?_⟩
      refine st_a2 (pc := 18) d_Yt_next_18 (by decide) ?_
      refine wp_aload_n (pc := 19) d_Yt_next_19 rfl ?_
      refine wp_ifnonnull (tgt := 28) (pc := 20) d_Yt_next_20 (by decide) ?_
      refine wp_aload_n (pc := 28) d_Yt_next_28 rfl ?_
      refine wp_getfield (pc := 29) d_Yt_next_29 f_Yt_238 (hW.hk hi (by omega) (by omega)) rfl ?_
      refine zp_ireturn (pc := 32) d_Yt_next_32 rfl ?_
      refine ansI k ?_
      exact (if_pos c4)
    · refine wv_callV (n := 1) (As := [_]) (pc := 15) d_Yt_next_15 s_Yt_93 q_St_hookByRule ⟨by decide, by decide⟩ (hW.st hi) rfl rfl rfl rfl (Nat.le_of_ble_eq_true rfl) (Nat.le_of_ble_eq_true rfl) ?_
      refine sp_St_hookByRule hE hB hW hi hV (by omega) hT hL rx (fun _ => ?_) (fun q => absurd q c15)
      refine ⟨_, rfl, ?_⟩
      refine st_N2 (pc := 18) d_Yt_next_18 (by decide) ?_
      refine wp_aload_nN (pc := 19) d_Yt_next_19 rfl ?_
      refine wp_ifnonnullN (pc := 20) d_Yt_next_20 ?_
      refine zp_bipush (pc := 23) d_Yt_next_23 (by decide) ?_
      refine wp_goto (tgt := 32) (pc := 25) d_Yt_next_25 (by decide) ?_
      refine zp_ireturn (pc := 32) d_Yt_next_32 rfl ?_
      refine ansI k ?_
      unfold c_nx
      rw [if_pos c4]
      omega
  · refine zp_bipush (pc := 7) d_Yt_next_7 (by decide) ?_
    refine zp_ireturn (pc := 9) d_Yt_next_9 rfl ?_
    refine ansI k ?_
    exact if_neg c4
set_option maxRecDepth 100000 in
theorem sp_Yt_due (hE : gOk E) (hB : gB E ≤ B) (hW : CN B S h0 X T 0 h (F, t, A, N, V)) {nv : Int} (hJ : J nv F) (hn : nv ≤ 100000000) (hR : RI F t N V) {x : Int} (rx : gR x) (k : Q (some (.int (zI (c_du F x)))) h) : Wp E m_Yt_due 0 (gEnt m_Yt_due [.ref B, .int (zI x)]) [] h Q := by
  have hi : (0 : Nat) < 6 := by decide
  have hV := hJ.vd
  have hN := hW.aN hi
  have hG := hR.1
  have hT := hR.rT hN.2
  have hL := hR.rL
  have hs := hV.1
  have hnb := noT_b F x
  have hp : plc F x = if ¬ noT F x = 0 then noT F x else hkT F x := rfl
  have hpn : ¬ noT F x = 0 → plc F x < 0 := fun q => by rw [hp, if_pos q]; omega
  have hpy : noT F x = 0 → plc F x = hkT F x ∧ isHk F (hkT F x) ∧ 0 ≤ hkT F x ∧ hkT F x < 60 := fun q => by
    have ht := hJ.tag q
    exact ⟨by rw [hp, if_neg (not_not_intro q)], (hJ.2.1 _ ht.2.2.1 ht.2.2.2.1 ht.2.2.2.2.1).2.1, ht.2.2.1, ht.2.2.2.1⟩
  show Wp E m_Yt_due 0 [some (_), some (_), none, none] [] _ _
  refine wp_aload_n (pc := 0) d_Yt_due_0 rfl ?_
  refine wp_getfield (pc := 1) d_Yt_due_1 f_Yt_10 hW.yt rfl ?_
  refine wp_iload_n (pc := 4) d_Yt_due_4 rfl ?_
  refine wv_callV (n := 1) (As := [_]) (pc := 5) d_Yt_due_5 s_Yt_100 q_St_placeOf ⟨by decide, by decide⟩ (hW.st hi) rfl rfl rfl rfl (Nat.le_of_ble_eq_true rfl) (Nat.le_of_ble_eq_true rfl) ?_
  refine sp_St_placeOf hE hB hW hi hJ hn hR rx ?_
  refine ⟨_, rfl, ?_⟩
  refine st_i2 (pc := 8) d_Yt_due_8 (by decide) ?_
  refine wp_aload_n (pc := 9) d_Yt_due_9 rfl ?_
  refine wp_getfield (pc := 10) d_Yt_due_10 f_Yt_10 hW.yt rfl ?_
  refine wp_iload_n (pc := 13) d_Yt_due_13 rfl ?_
  rcases Decidable.em (isHk F (plc F x)) with c14 | c14
  · refine wv_callV (n := 1) (As := [_]) (pc := 14) d_Yt_due_14 s_Yt_72 q_St_hookAt ⟨by decide, by decide⟩ (hW.st hi) rfl rfl rfl rfl (Nat.le_of_ble_eq_true rfl) (Nat.le_of_ble_eq_true rfl) ?_
    refine sp_St_hookAt hE hB hW hi hV (by by_cases q : noT F x = 0; have := hpy q; constructor <;> omega; have := hpn q; rw [hp, if_pos q] at *; constructor <;> omega) (fun q => absurd c14 q) (fun _ => ?_)
    refine ⟨_, rfl, ?_⟩
    refine st_a3 (pc := 17) d_Yt_due_17 (by decide) ?_
    refine wp_aload_n (pc := 18) d_Yt_due_18 rfl ?_
    refine wp_ifnonnull (tgt := 26) (pc := 19) d_Yt_due_19 (by decide) ?_
    refine wp_aload_n (pc := 26) d_Yt_due_26 rfl ?_
    refine wp_getfield (pc := 27) d_Yt_due_27 f_Yt_10 hW.yt rfl ?_
    refine wp_aload_n (pc := 30) d_Yt_due_30 rfl ?_
    refine wv_callV (n := 1) (As := [_]) (pc := 31) d_Yt_due_31 s_Yt_103 q_St_dueFor ⟨by decide, by decide⟩ (hW.st hi) rfl rfl rfl rfl (Nat.le_of_ble_eq_true rfl) (Nat.le_of_ble_eq_true rfl) ?_
    refine sp_St_dueFor hE hB hW hi hV (by omega) (by omega) ?_
    refine ⟨_, rfl, ?_⟩
    refine zp_ireturn (pc := 34) d_Yt_due_34 rfl ?_
    refine ansI k ?_
    have q : noT F x = 0 := Decidable.byContradiction fun q => by have := hpn q; omega
    unfold c_du
    rw [if_neg (not_not_intro q), (hpy q).1]
  · refine wv_callV (n := 1) (As := [_]) (pc := 14) d_Yt_due_14 s_Yt_72 q_St_hookAt ⟨by decide, by decide⟩ (hW.st hi) rfl rfl rfl rfl (Nat.le_of_ble_eq_true rfl) (Nat.le_of_ble_eq_true rfl) ?_
    refine sp_St_hookAt hE hB hW hi hV (by by_cases q : noT F x = 0; have := hpy q; constructor <;> omega; have := hpn q; rw [hp, if_pos q] at *; constructor <;> omega) (fun _ => ?_) (fun q => absurd q c14)
    refine ⟨_, rfl, ?_⟩
    refine st_N3 (pc := 17) d_Yt_due_17 (by decide) ?_
    refine wp_aload_nN (pc := 18) d_Yt_due_18 rfl ?_
    refine wp_ifnonnullN (pc := 19) d_Yt_due_19 ?_
    refine wp_iload_n (pc := 22) d_Yt_due_22 rfl ?_
    refine wp_goto (tgt := 34) (pc := 23) d_Yt_due_23 (by decide) ?_
    refine zp_ireturn (pc := 34) d_Yt_due_34 rfl ?_
    refine ansI k ?_
    have q : ¬ noT F x = 0 := fun q => c14 (by rw [(hpy q).1]; exact (hpy q).2.1)
    unfold c_du
    rw [if_pos q, hp, if_pos q]
set_option maxRecDepth 100000 in
theorem sp_Yt_event (hE : gOk E) (hB : gB E ≤ B) (hW : CN B S h0 X T 0 h (F, t, A, N, V)) {nv : Int} (hJ : J nv F) (hn : nv ≤ 100000000) (hR : RI F t N V) {x w : Int} (rx : gR x) (rw_ : gR w) (k : Q (some (.int (zI (c_ev F x w)))) h) : Wp E m_Yt_event 0 (gEnt m_Yt_event [.ref B, .int (zI x), .int (zI w)]) [] h Q := by
  have hi : (0 : Nat) < 6 := by decide
  have hV := hJ.vd
  have hN := hW.aN hi
  have hG := hR.1
  have hT := hR.rT hN.2
  have hL := hR.rL
  have hs := hV.1
  have h13 := hV.2.1 13 (by omega) (by omega) (by omega)
  show Wp E m_Yt_event 0 [some (_), some (_), some (_)] [] _ _
  refine wp_iload_n (pc := 0) d_Yt_event_0 rfl ?_
  refine zp_if_lt (tgt := 13) (pc := 1) d_Yt_event_1 (by decide) rx (fun c1 => ?_) (fun c1 => ?_)
  · refine zp_bipush (pc := 13) d_Yt_event_13 (by decide) ?_
    refine zp_ireturn (pc := 15) d_Yt_event_15 rfl ?_
    refine ansI k ?_
    unfold c_ev
    (repeat' split) <;> first | rfl | omega
  · refine wp_iload_n (pc := 4) d_Yt_event_4 rfl ?_
    refine zp_if_lt (tgt := 13) (pc := 5) d_Yt_event_5 (by decide) rw_ (fun c5 => ?_) (fun c5 => ?_)
    · refine zp_bipush (pc := 13) d_Yt_event_13 (by decide) ?_
      refine zp_ireturn (pc := 15) d_Yt_event_15 rfl ?_
      refine ansI k ?_
      unfold c_ev
      (repeat' split) <;> first | rfl | omega
    · refine wp_iload_n (pc := 8) d_Yt_event_8 rfl ?_
      refine wp_iconst (pc := 9) d_Yt_event_9 ?_
      refine zp_icmp_le (tgt := 16) (pc := 10) d_Yt_event_10 (by decide) rw_ ⟨by omega, by omega⟩ (fun c10 => ?_) (fun c10 => ?_)
      · refine wp_aload_n (pc := 16) d_Yt_event_16 rfl ?_
        refine wp_getfield (pc := 17) d_Yt_event_17 f_Yt_10 hW.yt rfl ?_
        refine wp_getfield (pc := 20) d_Yt_event_20 f_Yt_241 (hW.st hi) rfl ?_
        refine wp_iload_n (pc := 23) d_Yt_event_23 rfl ?_
        refine wp_iload_n (pc := 24) d_Yt_event_24 rfl ?_
        refine wv_callV (n := 2) (As := [_, _]) (pc := 25) d_Yt_event_25 s_Yt_245 q_Lg_look ⟨by decide, by decide⟩ (hW.lg hi) rfl rfl rfl rfl (Nat.le_of_ble_eq_true rfl) (Nat.le_of_ble_eq_true rfl) ?_
        refine sp_Lg_look hE hB hW hi ⟨by omega, by omega⟩ rx (by omega) (by omega) (by omega) ?_
        refine ⟨_, rfl, ?_⟩
        refine zp_ireturn (pc := 28) d_Yt_event_28 rfl ?_
        refine ansI k ?_
        unfold c_ev
        rw [if_neg (by omega), if_neg (by omega)]
      · refine zp_bipush (pc := 13) d_Yt_event_13 (by decide) ?_
        refine zp_ireturn (pc := 15) d_Yt_event_15 rfl ?_
        refine ansI k ?_
        unfold c_ev
        (repeat' split) <;> first | rfl | omega
set_option maxRecDepth 100000 in
theorem sp_Yt_guest (hE : gOk E) (hB : gB E ≤ B) (hW : CN B S h0 X T 0 h (F, t, A, N, V)) {nv : Int} (hJ : J nv F) (hn : nv ≤ 100000000) (hR : RI F t N V) {x w : Int} (rx : gR x) (rw_ : gR w) (k : Q (some (.int (zI (c_gs F x w)))) h) : Wp E m_Yt_guest 0 (gEnt m_Yt_guest [.ref B, .int (zI x), .int (zI w)]) [] h Q := by
  have hi : (0 : Nat) < 6 := by decide
  have hV := hJ.vd
  have hN := hW.aN hi
  have hG := hR.1
  have hT := hR.rT hN.2
  have hL := hR.rL
  have hs := hV.1
  show Wp E m_Yt_guest 0 [some (_), some (_), some (_)] [] _ _
  refine wp_iload_n (pc := 0) d_Yt_guest_0 rfl ?_
  refine wv_callS (n := 1) (As := [_]) (pc := 1) d_Yt_guest_1 s_Yt_90 q_Yt_isGuest ⟨by decide, by decide⟩ rfl rfl rfl (Nat.le_of_ble_eq_true rfl) (Nat.le_of_ble_eq_true rfl) ?_
  refine sp_Yt_isGuest rx ?_
  refine ⟨_, rfl, ?_⟩
  refine zp_ifb_ne (tgt := 9) (pc := 4) d_Yt_guest_4 (by decide) (fun c4 => ?_) (fun c4 => ?_)
  · refine wp_iload_n (pc := 9) d_Yt_guest_9 rfl ?_
    by_cases k10_0 : w = 0
    · rw [k10_0]
      refine zp_tableIn (x := 0) (tgt := 36) (pc := 10) d_Yt_guest_10 ⟨by decide, by decide⟩ (by decide) (by decide) rfl (by decide) ?_
      refine wp_aload_n (pc := 36) d_Yt_guest_36 rfl ?_
      refine wp_getfield (pc := 37) d_Yt_guest_37 f_Yt_10 hW.yt rfl ?_
      refine wp_iload_n (pc := 40) d_Yt_guest_40 rfl ?_
      refine wv_callV (n := 1) (As := [_]) (pc := 41) d_Yt_guest_41 s_Yt_229 q_St_coatsOfGuest ⟨by decide, by decide⟩ (hW.st hi) rfl rfl rfl rfl (Nat.le_of_ble_eq_true rfl) (Nat.le_of_ble_eq_true rfl) ?_
      refine sp_St_coatsOfGuest hE hB hW hi hJ hn hR rx ?_
      refine ⟨_, rfl, ?_⟩
      refine zp_ireturn (pc := 44) d_Yt_guest_44 rfl ?_
      refine ansI k ?_
      unfold c_gs
      (repeat' split) <;> first | rfl | omega
    by_cases k10_1 : w = 1
    · rw [k10_1]
      refine zp_tableIn (x := 1) (tgt := 45) (pc := 10) d_Yt_guest_10 ⟨by decide, by decide⟩ (by decide) (by decide) rfl (by decide) ?_
      refine wp_aload_n (pc := 45) d_Yt_guest_45 rfl ?_
      refine wp_getfield (pc := 46) d_Yt_guest_46 f_Yt_10 hW.yt rfl ?_
      refine wp_iload_n (pc := 49) d_Yt_guest_49 rfl ?_
      refine wv_callV (n := 1) (As := [_]) (pc := 50) d_Yt_guest_50 s_Yt_232 q_St_dueForGuest ⟨by decide, by decide⟩ (hW.st hi) rfl rfl rfl rfl (Nat.le_of_ble_eq_true rfl) (Nat.le_of_ble_eq_true rfl) ?_
      refine sp_St_dueForGuest hE hB hW hi hJ hn hR rx ?_
      refine ⟨_, rfl, ?_⟩
      refine zp_ireturn (pc := 53) d_Yt_guest_53 rfl ?_
      refine ansI k ?_
      unfold c_gs
      (repeat' split) <;> first | rfl | omega
    by_cases k10_2 : w = 2
    · rw [k10_2]
      refine zp_tableIn (x := 2) (tgt := 54) (pc := 10) d_Yt_guest_10 ⟨by decide, by decide⟩ (by decide) (by decide) rfl (by decide) ?_
      refine wp_aload_n (pc := 54) d_Yt_guest_54 rfl ?_
      refine wp_getfield (pc := 55) d_Yt_guest_55 f_Yt_10 hW.yt rfl ?_
      refine wp_getfield (pc := 58) d_Yt_guest_58 f_Yt_235 (hW.st hi) rfl ?_
      refine wp_iload_n (pc := 61) d_Yt_guest_61 rfl ?_
      refine zp_iaload (pc := 62) d_Yt_guest_62 hE.1 (hW.tk hi) (by omega) (by omega) (by decide) ?_
      rw [cut_at (by omega) (by omega)]
      refine zp_ireturn (pc := 63) d_Yt_guest_63 rfl ?_
      refine ansI k ?_
      unfold c_gs
      (repeat' split) <;> first | rfl | omega
    refine zp_tableOut (tgt := 64) (pc := 10) d_Yt_guest_10 rw_ (by omega) (by decide) ?_
    refine zp_bipush (pc := 64) d_Yt_guest_64 (by decide) ?_
    refine zp_ireturn (pc := 66) d_Yt_guest_66 rfl ?_
    refine ansI k ?_
    unfold c_gs
    (repeat' split) <;> first | rfl | omega
  · refine wp_iconst (pc := 7) d_Yt_guest_7 ?_
    refine zp_ireturn (pc := 8) d_Yt_guest_8 rfl ?_
    refine ansI k ?_
    unfold c_gs
    (repeat' split) <;> first | rfl | omega
end S53
