/-! ===== the class: rules and sums ===== -/
section S38
variable {E : gE} {B S : Nat} {h0 h : gH} {X : Nat → SC} {T : TC} {i : Nat} {Y : SC} {F t : Int → Int} {A : Nat → Nat} {N : Nat} {V : Nat → Int → Int} {Q : Option Value → gH → Prop}
set_option maxRecDepth 100000 in
theorem sp_Yt_isSize {x : Int} (rx : gR x) (k : Q (some (.int (zI (bI (1 ≤ x ∧ x ≤ 5))))) h) : Wp E m_Yt_isSize 0 (gEnt m_Yt_isSize [.int (zI x)]) [] h Q := by
  show Wp E m_Yt_isSize 0 [some (_)] [] _ _
  refine wp_iload_n (pc := 0) d_Yt_isSize_0 rfl ?_
  refine wp_iconst (pc := 1) d_Yt_isSize_1 ?_
  refine zp_icmp_lt (tgt := 14) (pc := 2) d_Yt_isSize_2 (by decide) rx ⟨by omega, by omega⟩ (fun c2 => ?_) (fun c2 => ?_)
  · refine wp_iconst (pc := 14) d_Yt_isSize_14 ?_
    refine zp_zreturn (pc := 15) d_Yt_isSize_15 rfl rfl ?_
    first | (rw [bI_t (by omega)] at k; exact k) | (rw [bI_f (by omega)] at k; exact k)
  · refine wp_iload_n (pc := 5) d_Yt_isSize_5 rfl ?_
    refine wp_iconst (pc := 6) d_Yt_isSize_6 ?_
    refine zp_icmp_gt (tgt := 14) (pc := 7) d_Yt_isSize_7 (by decide) rx ⟨by omega, by omega⟩ (fun c7 => ?_) (fun c7 => ?_)
    · refine wp_iconst (pc := 14) d_Yt_isSize_14 ?_
      refine zp_zreturn (pc := 15) d_Yt_isSize_15 rfl rfl ?_
      first | (rw [bI_t (by omega)] at k; exact k) | (rw [bI_f (by omega)] at k; exact k)
    · refine wp_iconst (pc := 10) d_Yt_isSize_10 ?_
      refine wp_goto (tgt := 15) (pc := 11) d_Yt_isSize_11 (by decide) ?_
      refine zp_zreturn (pc := 15) d_Yt_isSize_15 rfl rfl ?_
      first | (rw [bI_t (by omega)] at k; exact k) | (rw [bI_f (by omega)] at k; exact k)
set_option maxRecDepth 100000 in
theorem sp_Yt_isGuest {x : Int} (rx : gR x) (k : Q (some (.int (zI (bI (0 ≤ x ∧ x ≤ 19))))) h) : Wp E m_Yt_isGuest 0 (gEnt m_Yt_isGuest [.int (zI x)]) [] h Q := by
  show Wp E m_Yt_isGuest 0 [some (_)] [] _ _
  refine wp_iload_n (pc := 0) d_Yt_isGuest_0 rfl ?_
  refine zp_if_lt (tgt := 14) (pc := 1) d_Yt_isGuest_1 (by decide) rx (fun c1 => ?_) (fun c1 => ?_)
  · refine wp_iconst (pc := 14) d_Yt_isGuest_14 ?_
    refine zp_zreturn (pc := 15) d_Yt_isGuest_15 rfl rfl ?_
    first | (rw [bI_t (by omega)] at k; exact k) | (rw [bI_f (by omega)] at k; exact k)
  · refine wp_iload_n (pc := 4) d_Yt_isGuest_4 rfl ?_
    refine zp_bipush (pc := 5) d_Yt_isGuest_5 (by decide) ?_
    refine zp_icmp_ge (tgt := 14) (pc := 7) d_Yt_isGuest_7 (by decide) rx ⟨by omega, by omega⟩ (fun c7 => ?_) (fun c7 => ?_)
    · refine wp_iconst (pc := 14) d_Yt_isGuest_14 ?_
      refine zp_zreturn (pc := 15) d_Yt_isGuest_15 rfl rfl ?_
      first | (rw [bI_t (by omega)] at k; exact k) | (rw [bI_f (by omega)] at k; exact k)
    · refine wp_iconst (pc := 10) d_Yt_isGuest_10 ?_
      refine wp_goto (tgt := 15) (pc := 11) d_Yt_isGuest_11 (by decide) ?_
      refine zp_zreturn (pc := 15) d_Yt_isGuest_15 rfl rfl ?_
      first | (rw [bI_t (by omega)] at k; exact k) | (rw [bI_f (by omega)] at k; exact k)
set_option maxRecDepth 100000 in
theorem sp_Yt_tagWithCheck {x : Int} (h0 : 0 ≤ x) (h1 : x ≤ 100000) (k : Q (some (.int (zI (tb x)))) h) : Wp E m_Yt_tagWithCheck 0 (gEnt m_Yt_tagWithCheck [.int (zI x)]) [] h Q := by
  show Wp E m_Yt_tagWithCheck 0 [some (_), none, none, none, none] [] _ _
  refine wp_iload_n (pc := 0) d_Yt_tagWithCheck_0 rfl ?_
  refine zp_sipush (pc := 1) d_Yt_tagWithCheck_1 (by decide) ?_
  refine zp_idiv (pc := 4) d_Yt_tagWithCheck_4 (by omega) (by omega) (by omega) (by omega) ?_
  refine st_i1 (pc := 5) d_Yt_tagWithCheck_5 (by decide) ?_
  refine wp_iload_n (pc := 6) d_Yt_tagWithCheck_6 rfl ?_
  refine zp_bipush (pc := 7) d_Yt_tagWithCheck_7 (by decide) ?_
  refine zp_idiv (pc := 9) d_Yt_tagWithCheck_9 (by omega) (by omega) (by omega) (by omega) ?_
  refine zp_bipush (pc := 10) d_Yt_tagWithCheck_10 (by decide) ?_
  refine zp_irem (pc := 12) d_Yt_tagWithCheck_12 (by omega) (by omega) (by omega) (by omega) ?_
  refine st_i2 (pc := 13) d_Yt_tagWithCheck_13 (by decide) ?_
  refine wp_iload_n (pc := 14) d_Yt_tagWithCheck_14 rfl ?_
  refine zp_bipush (pc := 15) d_Yt_tagWithCheck_15 (by decide) ?_
  refine zp_idiv (pc := 17) d_Yt_tagWithCheck_17 (by omega) (by omega) (by omega) (by omega) ?_
  refine zp_bipush (pc := 18) d_Yt_tagWithCheck_18 (by decide) ?_
  refine zp_irem (pc := 20) d_Yt_tagWithCheck_20 (by omega) (by omega) (by omega) (by omega) ?_
  refine st_i3 (pc := 21) d_Yt_tagWithCheck_21 (by decide) ?_
  refine wp_iload_n (pc := 22) d_Yt_tagWithCheck_22 rfl ?_
  refine zp_bipush (pc := 23) d_Yt_tagWithCheck_23 (by decide) ?_
  refine zp_irem (pc := 25) d_Yt_tagWithCheck_25 (by omega) (by omega) (by omega) (by omega) ?_
  refine st_i4 (pc := 26) d_Yt_tagWithCheck_26 (by decide) ?_
  refine zp_bipush (pc := 28) d_Yt_tagWithCheck_28 (by decide) ?_
  refine wp_iload_n (pc := 30) d_Yt_tagWithCheck_30 rfl ?_
  refine zp_imul (pc := 31) d_Yt_tagWithCheck_31 ?_
  refine wp_iconst (pc := 32) d_Yt_tagWithCheck_32 ?_
  refine wp_iload_n (pc := 33) d_Yt_tagWithCheck_33 rfl ?_
  refine zp_imul (pc := 34) d_Yt_tagWithCheck_34 ?_
  refine wp_iload_n (pc := 35) d_Yt_tagWithCheck_35 rfl ?_
  refine zp_iadd (pc := 36) d_Yt_tagWithCheck_36 ?_
  refine zp_bipush (pc := 37) d_Yt_tagWithCheck_37 (by decide) ?_
  refine wp_iload_n (pc := 39) d_Yt_tagWithCheck_39 rfl ?_
  refine zp_imul (pc := 40) d_Yt_tagWithCheck_40 ?_
  refine zp_iadd (pc := 41) d_Yt_tagWithCheck_41 ?_
  refine zp_bipush (pc := 42) d_Yt_tagWithCheck_42 (by decide) ?_
  refine wp_iload (pc := 44) d_Yt_tagWithCheck_44 rfl ?_
  refine zp_imul (pc := 46) d_Yt_tagWithCheck_46 ?_
  refine zp_iadd (pc := 47) d_Yt_tagWithCheck_47 ?_
  refine zp_bipush (pc := 48) d_Yt_tagWithCheck_48 (by decide) ?_
  refine zp_irem (pc := 50) d_Yt_tagWithCheck_50 (by omega) (by omega) (by omega) (by omega) ?_
  refine zp_iadd (pc := 51) d_Yt_tagWithCheck_51 ?_
  refine zp_ireturn (pc := 52) d_Yt_tagWithCheck_52 rfl ?_
  exact k
set_option maxRecDepth 100000 in
theorem sp_Yt_isRightTag {x : Int} (rx : gR x) (k : Q (some (.int (zI (bI (isTg x))))) h) : Wp E m_Yt_isRightTag 0 (gEnt m_Yt_isRightTag [.int (zI x)]) [] h Q := by
  show Wp E m_Yt_isRightTag 0 [some (_)] [] _ _
  refine wp_iload_n (pc := 0) d_Yt_isRightTag_0 rfl ?_
  refine zp_if_lt (tgt := 26) (pc := 1) d_Yt_isRightTag_1 (by decide) rx (fun c1 => ?_) (fun c1 => ?_)
  · refine wp_iconst (pc := 26) d_Yt_isRightTag_26 ?_
    refine zp_zreturn (pc := 27) d_Yt_isRightTag_27 rfl rfl ?_
    first | (rw [bI_t (show isTg x from by omega)] at k; exact k) | (rw [bI_f (show ¬ isTg x from by omega)] at k; exact k)
  · refine wp_iload_n (pc := 4) d_Yt_isRightTag_4 rfl ?_
    refine wp_ldc_w (pc := 5) d_Yt_isRightTag_5 l_Yt_262 ?_
    refine zp_icmp_ge (tgt := 26) (pc := 8) d_Yt_isRightTag_8 (by decide) rx ⟨by omega, by omega⟩ (fun c8 => ?_) (fun c8 => ?_)
    · refine wp_iconst (pc := 26) d_Yt_isRightTag_26 ?_
      refine zp_zreturn (pc := 27) d_Yt_isRightTag_27 rfl rfl ?_
      first | (rw [bI_t (show isTg x from by omega)] at k; exact k) | (rw [bI_f (show ¬ isTg x from by omega)] at k; exact k)
    · refine wp_iload_n (pc := 11) d_Yt_isRightTag_11 rfl ?_
      refine wp_iload_n (pc := 12) d_Yt_isRightTag_12 rfl ?_
      refine zp_bipush (pc := 13) d_Yt_isRightTag_13 (by decide) ?_
      refine zp_idiv (pc := 15) d_Yt_isRightTag_15 (by omega) (by omega) (by omega) (by omega) ?_
      refine wv_callS (n := 1) (As := [_]) (pc := 16) d_Yt_isRightTag_16 s_Yt_202 q_Yt_tagWithCheck ⟨by decide, by decide⟩ rfl rfl rfl (Nat.le_of_ble_eq_true rfl) (Nat.le_of_ble_eq_true rfl) ?_
      refine sp_Yt_tagWithCheck (by omega) (by omega) ?_
      refine ⟨_, rfl, ?_⟩
      have htb : 0 ≤ tb (x / 10) ∧ tb (x / 10) ≤ 1000000 := by unfold tb; omega
      refine zp_icmp_ne (tgt := 26) (pc := 19) d_Yt_isRightTag_19 (by decide) ⟨by omega, by omega⟩ ⟨by omega, by omega⟩ (fun c19 => ?_) (fun c19 => ?_)
      · refine wp_iconst (pc := 26) d_Yt_isRightTag_26 ?_
        refine zp_zreturn (pc := 27) d_Yt_isRightTag_27 rfl rfl ?_
        first | (rw [bI_t (show isTg x from by omega)] at k; exact k) | (rw [bI_f (show ¬ isTg x from by omega)] at k; exact k)
      · refine wp_iconst (pc := 22) d_Yt_isRightTag_22 ?_
        refine wp_goto (tgt := 27) (pc := 23) d_Yt_isRightTag_23 (by decide) ?_
        refine zp_zreturn (pc := 27) d_Yt_isRightTag_27 rfl rfl ?_
        first | (rw [bI_t (show isTg x from by omega)] at k; exact k) | (rw [bI_f (show ¬ isTg x from by omega)] at k; exact k)
set_option maxRecDepth 100000 in
theorem sp_St_isFree (hE : gOk E) (hB : gB E ≤ B) (hW : CN B S h0 X T i h (F, t, A, N, V)) (hi : i < 6) {nv : Int} (hV : Vd nv F) (hT : rT t) {n : Int} (n0 : 0 ≤ n) (n1 : n < 60) {z : Int} (rz : gR z) (k : Q (some (.int (zI (bI (n / 12 < F 1 ∧ F (14 + 3 * (n / 12) + 2) = 1 ∧ z ≤ F (14 + 3 * (n / 12) + 1) ∧ t n = -1 ∧ F (29 + 8 * n + 5) = 0))))) h) : Wp E m_St_isFree 0 (gEnt m_St_isFree [.ref (sA B i), .ref (hA B i n), .int (zI z)]) [] h Q := by
  have hr := hV.2.2.1 (n / 12) (by omega) (by omega)
  have hk := hV.2.2.2.1 n n0 n1
  show Wp E m_St_isFree 0 [some (_), some (_), some (_), none] [] _ _
  refine wp_aload_n (pc := 0) d_St_isFree_0 rfl ?_
  refine wp_aload_n (pc := 1) d_St_isFree_1 rfl ?_
  refine wp_getfield (pc := 2) d_St_isFree_2 f_St_79 (hW.hk hi (by omega) (by omega)) rfl ?_
  refine zp_bipush (pc := 5) d_St_isFree_5 (by decide) ?_
  refine zp_idiv (pc := 7) d_St_isFree_7 (by omega) (by omega) (by omega) (by omega) ?_
  rcases Decidable.em (0 ≤ n / 12 ∧ n / 12 < F 1) with c8 | c8
  · refine wv_callV (n := 1) (As := [_]) (pc := 8) d_St_isFree_8 s_St_54 q_St_rackAt ⟨by decide, by decide⟩ (hW.st hi) rfl rfl rfl rfl (Nat.le_of_ble_eq_true rfl) (Nat.le_of_ble_eq_true rfl) ?_
    refine sp_St_rackAt hE hB hW hi hV ⟨by omega, by omega⟩ (fun q => absurd c8 q) (fun _ => ?_)
    refine ⟨_, rfl, ?_⟩
    refine st_a3 (pc := 11) d_St_isFree_11 (by decide) ?_
    refine wp_aload_n (pc := 12) d_St_isFree_12 rfl ?_
    refine wp_ifnull (pc := 13) d_St_isFree_13 ?_
    refine wp_aload_n (pc := 16) d_St_isFree_16 rfl ?_
    refine wp_iload_n (pc := 17) d_St_isFree_17 rfl ?_
    refine wv_callV (n := 1) (As := [_]) (pc := 18) d_St_isFree_18 s_St_82 q_Rk_admits ⟨by decide, by decide⟩ (hW.rk hi (by omega) (by omega)) rfl rfl rfl rfl (Nat.le_of_ble_eq_true rfl) (Nat.le_of_ble_eq_true rfl) ?_
    refine sp_Rk_admits hE hB hW hi (by omega) (by omega) rz hr.2.1 hr.2.2 ?_
    refine ⟨_, rfl, ?_⟩
    refine zp_ifb_eq (tgt := 35) (pc := 21) d_St_isFree_21 (by decide) (fun c21 => ?_) (fun c21 => ?_)
    · refine wp_iconst (pc := 35) d_St_isFree_35 ?_
      refine zp_zreturn (pc := 36) d_St_isFree_36 rfl rfl ?_
      first | (rw [bI_t (by omega)] at k; exact k) | (rw [bI_f (by omega)] at k; exact k)
    · refine wp_aload_n (pc := 24) d_St_isFree_24 rfl ?_
      refine wv_callV (n := 0) (As := []) (pc := 25) d_St_isFree_25 s_St_86 q_Ho_canHold ⟨by decide, by decide⟩ (hW.hk hi (by omega) (by omega)) rfl rfl rfl rfl (Nat.le_of_ble_eq_true rfl) (Nat.le_of_ble_eq_true rfl) ?_
      refine sp_Ho_canHold hE hB hW hi n0 n1 (hT n n0 n1) hk.2.2.2.2.2.1 ?_
      refine ⟨_, rfl, ?_⟩
      refine zp_ifb_eq (tgt := 35) (pc := 28) d_St_isFree_28 (by decide) (fun c28 => ?_) (fun c28 => ?_)
      · refine wp_iconst (pc := 35) d_St_isFree_35 ?_
        refine zp_zreturn (pc := 36) d_St_isFree_36 rfl rfl ?_
        first | (rw [bI_t (by omega)] at k; exact k) | (rw [bI_f (by omega)] at k; exact k)
      · refine wp_iconst (pc := 31) d_St_isFree_31 ?_
        refine wp_goto (tgt := 36) (pc := 32) d_St_isFree_32 (by decide) ?_
        refine zp_zreturn (pc := 36) d_St_isFree_36 rfl rfl ?_
        first | (rw [bI_t (by omega)] at k; exact k) | (rw [bI_f (by omega)] at k; exact k)
  · refine wv_callV (n := 1) (As := [_]) (pc := 8) d_St_isFree_8 s_St_54 q_St_rackAt ⟨by decide, by decide⟩ (hW.st hi) rfl rfl rfl rfl (Nat.le_of_ble_eq_true rfl) (Nat.le_of_ble_eq_true rfl) ?_
    refine sp_St_rackAt hE hB hW hi hV ⟨by omega, by omega⟩ (fun _ => ?_) (fun q => absurd q c8)
    refine ⟨_, rfl, ?_⟩
    refine st_N3 (pc := 11) d_St_isFree_11 (by decide) ?_
    refine wp_aload_nN (pc := 12) d_St_isFree_12 rfl ?_
    refine wp_ifnullN (tgt := 35) (pc := 13) d_St_isFree_13 (by decide) ?_
    refine wp_iconst (pc := 35) d_St_isFree_35 ?_
    refine zp_zreturn (pc := 36) d_St_isFree_36 rfl rfl ?_
    first | (rw [bI_t (by omega)] at k; exact k) | (rw [bI_f (by omega)] at k; exact k)
set_option maxRecDepth 100000 in
theorem sp_St_goesAhead (hE : gOk E) (hB : gB E ≤ B) (hW : CN B S h0 X T i h (F, t, A, N, V)) (hi : i < 6) {nv : Int} (hV : Vd nv F) (hn : nv ≤ 1000000000) {a b : Int} (a0 : 0 ≤ a) (a1 : a < 60) (b0 : 0 ≤ b) (b1 : b < 60) (k : Q (some (.int (zI (bI (rk F a < rk F b))))) h) : Wp E m_St_goesAhead 0 (gEnt m_St_goesAhead [.ref (sA B i), .ref (hA B i a), .ref (hA B i b)]) [] h Q := by
  have hs := hV.1
  have ha := hV.2.2.2.1 a a0 a1
  have hb := hV.2.2.2.1 b b0 b1
  show Wp E m_St_goesAhead 0 [some (_), some (_), some (_)] [] _ _
  refine wp_aload_n (pc := 0) d_St_goesAhead_0 rfl ?_
  refine wp_getfield (pc := 1) d_St_goesAhead_1 f_St_35 (hW.st hi) rfl ?_
  refine wp_iconst (pc := 4) d_St_goesAhead_4 ?_
  refine zp_iaload (pc := 5) d_St_goesAhead_5 hE.1 (hW.se hi) (by omega) (by omega) (by decide) ?_
  rw [cut_at (by omega) (by omega)]
  simp only [Int.add_zero]
  by_cases k6_1 : F 2 = 1
  · rw [k6_1]
    refine zp_tableIn (x := 1) (tgt := 32) (pc := 6) d_St_goesAhead_6 ⟨by decide, by decide⟩ (by decide) (by decide) rfl (by decide) ?_
    refine wp_aload_n (pc := 32) d_St_goesAhead_32 rfl ?_
    refine wp_getfield (pc := 33) d_St_goesAhead_33 f_St_97 (hW.hk hi (by omega) (by omega)) rfl ?_
    refine wp_aload_n (pc := 36) d_St_goesAhead_36 rfl ?_
    refine wp_getfield (pc := 37) d_St_goesAhead_37 f_St_97 (hW.hk hi (by omega) (by omega)) rfl ?_
    refine zp_icmp_le (tgt := 47) (pc := 40) d_St_goesAhead_40 (by decide) ⟨by omega, by omega⟩ ⟨by omega, by omega⟩ (fun c40 => ?_) (fun c40 => ?_)
    · refine wp_iconst (pc := 47) d_St_goesAhead_47 ?_
      refine zp_zreturn (pc := 48) d_St_goesAhead_48 rfl rfl ?_
      first | (rw [bI_t (show rk F a < rk F b from by unfold rk; (repeat' split) <;> omega)] at k; exact k) | (rw [bI_f (show ¬ rk F a < rk F b from by unfold rk; (repeat' split) <;> omega)] at k; exact k)
    · refine wp_iconst (pc := 43) d_St_goesAhead_43 ?_
      refine wp_goto (tgt := 48) (pc := 44) d_St_goesAhead_44 (by decide) ?_
      refine zp_zreturn (pc := 48) d_St_goesAhead_48 rfl rfl ?_
      first | (rw [bI_t (show rk F a < rk F b from by unfold rk; (repeat' split) <;> omega)] at k; exact k) | (rw [bI_f (show ¬ rk F a < rk F b from by unfold rk; (repeat' split) <;> omega)] at k; exact k)
  by_cases k6_2 : F 2 = 2
  · rw [k6_2]
    refine zp_tableIn (x := 2) (tgt := 49) (pc := 6) d_St_goesAhead_6 ⟨by decide, by decide⟩ (by decide) (by decide) rfl (by decide) ?_
    refine wp_aload_n (pc := 49) d_St_goesAhead_49 rfl ?_
    refine wp_getfield (pc := 50) d_St_goesAhead_50 f_St_97 (hW.hk hi (by omega) (by omega)) rfl ?_
    refine wp_aload_n (pc := 53) d_St_goesAhead_53 rfl ?_
    refine wp_getfield (pc := 54) d_St_goesAhead_54 f_St_97 (hW.hk hi (by omega) (by omega)) rfl ?_
    refine zp_icmp_ge (tgt := 64) (pc := 57) d_St_goesAhead_57 (by decide) ⟨by omega, by omega⟩ ⟨by omega, by omega⟩ (fun c57 => ?_) (fun c57 => ?_)
    · refine wp_iconst (pc := 64) d_St_goesAhead_64 ?_
      refine zp_zreturn (pc := 65) d_St_goesAhead_65 rfl rfl ?_
      first | (rw [bI_t (show rk F a < rk F b from by unfold rk; (repeat' split) <;> omega)] at k; exact k) | (rw [bI_f (show ¬ rk F a < rk F b from by unfold rk; (repeat' split) <;> omega)] at k; exact k)
    · refine wp_iconst (pc := 60) d_St_goesAhead_60 ?_
      refine wp_goto (tgt := 65) (pc := 61) d_St_goesAhead_61 (by decide) ?_
      refine zp_zreturn (pc := 65) d_St_goesAhead_65 rfl rfl ?_
      first | (rw [bI_t (show rk F a < rk F b from by unfold rk; (repeat' split) <;> omega)] at k; exact k) | (rw [bI_f (show ¬ rk F a < rk F b from by unfold rk; (repeat' split) <;> omega)] at k; exact k)
  by_cases k6_3 : F 2 = 3
  · rw [k6_3]
    refine zp_tableIn (x := 3) (tgt := 66) (pc := 6) d_St_goesAhead_6 ⟨by decide, by decide⟩ (by decide) (by decide) rfl (by decide) ?_
    refine wp_aload_n (pc := 66) d_St_goesAhead_66 rfl ?_
    refine wp_getfield (pc := 67) d_St_goesAhead_67 f_St_100 (hW.hk hi (by omega) (by omega)) rfl ?_
    refine wp_aload_n (pc := 70) d_St_goesAhead_70 rfl ?_
    refine wp_getfield (pc := 71) d_St_goesAhead_71 f_St_100 (hW.hk hi (by omega) (by omega)) rfl ?_
    refine zp_icmp_ge (tgt := 81) (pc := 74) d_St_goesAhead_74 (by decide) ⟨by omega, by omega⟩ ⟨by omega, by omega⟩ (fun c74 => ?_) (fun c74 => ?_)
    · refine wp_iconst (pc := 81) d_St_goesAhead_81 ?_
      refine zp_zreturn (pc := 82) d_St_goesAhead_82 rfl rfl ?_
      first | (rw [bI_t (show rk F a < rk F b from by unfold rk; (repeat' split) <;> omega)] at k; exact k) | (rw [bI_f (show ¬ rk F a < rk F b from by unfold rk; (repeat' split) <;> omega)] at k; exact k)
    · refine wp_iconst (pc := 77) d_St_goesAhead_77 ?_
      refine wp_goto (tgt := 82) (pc := 78) d_St_goesAhead_78 (by decide) ?_
      refine zp_zreturn (pc := 82) d_St_goesAhead_82 rfl rfl ?_
      first | (rw [bI_t (show rk F a < rk F b from by unfold rk; (repeat' split) <;> omega)] at k; exact k) | (rw [bI_f (show ¬ rk F a < rk F b from by unfold rk; (repeat' split) <;> omega)] at k; exact k)
  refine zp_tableOut (tgt := 83) (pc := 6) d_St_goesAhead_6 ⟨by omega, by omega⟩ (by omega) (by decide) ?_
  refine wp_iconst (pc := 83) d_St_goesAhead_83 ?_
  refine zp_zreturn (pc := 84) d_St_goesAhead_84 rfl rfl ?_
  first | (rw [bI_t (show rk F a < rk F b from by unfold rk; (repeat' split) <;> omega)] at k; exact k) | (rw [bI_f (show ¬ rk F a < rk F b from by unfold rk; (repeat' split) <;> omega)] at k; exact k)
set_option maxRecDepth 100000 in
theorem sp_St_dueFor (hE : gOk E) (hB : gB E ≤ B) (hW : CN B S h0 X T i h (F, t, A, N, V)) (hi : i < 6) {nv : Int} (hV : Vd nv F) {n : Int} (n0 : 0 ≤ n) (n1 : n < 60) (k : Q (some (.int (zI (duF F n)))) h) : Wp E m_St_dueFor 0 (gEnt m_St_dueFor [.ref (sA B i), .ref (hA B i n)]) [] h Q := by
  have hs := hV.1
  have hk := hV.2.2.2.1 n n0 n1
  have db := du_b (a := F (29 + 8 * n + 3)) (b := F 3) (c := F 0 - F (29 + 8 * n + 4)) (by omega) (by omega) (by omega) (by omega) (by omega) (by omega)
  show Wp E m_St_dueFor 0 [some (_), some (_), none] [] _ _
  refine wp_aload_n (pc := 0) d_St_dueFor_0 rfl ?_
  refine wp_getfield (pc := 1) d_St_dueFor_1 f_St_35 (hW.st hi) rfl ?_
  refine wp_iconst (pc := 4) d_St_dueFor_4 ?_
  refine zp_iaload (pc := 5) d_St_dueFor_5 hE.1 (hW.se hi) (by omega) (by omega) (by decide) ?_
  rw [cut_at (by omega) (by omega)]
  simp only [show (2 : Int) + 1 = 3 from rfl]
  refine st_i2 (pc := 6) d_St_dueFor_6 (by decide) ?_
  refine wp_iload_n (pc := 7) d_St_dueFor_7 rfl ?_
  refine wp_aload_n (pc := 8) d_St_dueFor_8 rfl ?_
  refine wp_getfield (pc := 9) d_St_dueFor_9 f_St_150 (hW.hk hi (by omega) (by omega)) rfl ?_
  refine wp_iload_n (pc := 12) d_St_dueFor_12 rfl ?_
  refine zp_imul (pc := 13) d_St_dueFor_13 ?_
  refine wp_aload_n (pc := 14) d_St_dueFor_14 rfl ?_
  refine wp_getfield (pc := 15) d_St_dueFor_15 f_St_42 (hW.st hi) rfl ?_
  refine wp_aload_n (pc := 18) d_St_dueFor_18 rfl ?_
  refine wp_getfield (pc := 19) d_St_dueFor_19 f_St_153 (hW.hk hi (by omega) (by omega)) rfl ?_
  refine zp_isub (pc := 22) d_St_dueFor_22 ?_
  refine zp_imul (pc := 23) d_St_dueFor_23 ?_
  refine wv_callS (n := 2) (As := [_, _]) (pc := 24) d_St_dueFor_24 s_St_177 q_Ma_max ⟨by decide, by decide⟩ rfl rfl rfl (Nat.le_of_ble_eq_true rfl) (Nat.le_of_ble_eq_true rfl) ?_
  refine sp_Ma_max ⟨by omega, by omega⟩ ⟨by omega, by omega⟩ ?_
  refine ⟨_, rfl, ?_⟩
  refine zp_ireturn (pc := 27) d_St_dueFor_27 rfl ?_
  exact k
set_option maxRecDepth 100000 in
theorem lp_St_hooksInAll (hE : gOk E) (hB : gB E ≤ B) (hW : CN B S h0 X T i h (F, t, A, N, V)) (hi : i < 6) {nv : Int} (hV : Vd nv F) (k : Q (some (.int (zI (sH F (F 1).toNat)))) h) : ∀ (d x : Nat) (o : Option Value), x + d = (F 1).toNat → Wp E m_St_hooksInAll 4 [some (.ref (sA B i)), some (.int (zI (sH F x))), some (.int (zI x)), o] [] h Q := by
  intro d
  induction d with
  | zero =>
    intro x o hx
    have hs := hV.1
    refine wp_iload_n (pc := 4) d_St_hooksInAll_4 rfl ?_
    refine wp_aload_n (pc := 5) d_St_hooksInAll_5 rfl ?_
    refine wp_getfield (pc := 6) d_St_hooksInAll_6 f_St_17 (hW.st hi) rfl ?_
    refine zp_icmp_ge (tgt := 39) (pc := 9) d_St_hooksInAll_9 (by decide) ⟨by omega, by omega⟩ ⟨by omega, by omega⟩ (fun c9 => ?_) (fun c9 => absurd c9 (by omega))
    obtain rfl : x = (F 1).toNat := by omega
    refine wp_iload_n (pc := 39) d_St_hooksInAll_39 rfl ?_
    refine zp_ireturn (pc := 40) d_St_hooksInAll_40 rfl ?_
    exact k
  | succ d ih =>
    intro x o hx
    have hs := hV.1
    refine wp_iload_n (pc := 4) d_St_hooksInAll_4 rfl ?_
    refine wp_aload_n (pc := 5) d_St_hooksInAll_5 rfl ?_
    refine wp_getfield (pc := 6) d_St_hooksInAll_6 f_St_17 (hW.st hi) rfl ?_
    refine zp_icmp_ge (tgt := 39) (pc := 9) d_St_hooksInAll_9 (by decide) ⟨by omega, by omega⟩ ⟨by omega, by omega⟩ (fun c9 => absurd c9 (by omega)) (fun c9 => ?_)
    refine wp_aload_n (pc := 12) d_St_hooksInAll_12 rfl ?_
    refine wp_iload_n (pc := 13) d_St_hooksInAll_13 rfl ?_
    refine wv_callV (n := 1) (As := [_]) (pc := 14) d_St_hooksInAll_14 s_St_54 q_St_rackAt ⟨by decide, by decide⟩ (hW.st hi) rfl rfl rfl rfl (Nat.le_of_ble_eq_true rfl) (Nat.le_of_ble_eq_true rfl) ?_
    refine sp_St_rackAt hE hB hW hi hV ⟨by omega, by omega⟩ (fun q => absurd q (by omega)) (fun _ => ?_)
    refine ⟨_, rfl, ?_⟩
    refine st_a3 (pc := 17) d_St_hooksInAll_17 (by decide) ?_
    refine wp_iload_n (pc := 18) d_St_hooksInAll_18 rfl ?_
    refine wp_aload_n (pc := 19) d_St_hooksInAll_19 rfl ?_
    refine wp_ifnonnull (tgt := 27) (pc := 20) d_St_hooksInAll_20 (by decide) ?_
    refine wp_aload_n (pc := 27) d_St_hooksInAll_27 rfl ?_
    refine wp_getfield (pc := 28) d_St_hooksInAll_28 f_St_69 (hW.rk hi (by omega) (by omega)) rfl ?_
    refine zp_iadd (pc := 31) d_St_hooksInAll_31 ?_
    refine st_i1 (pc := 32) d_St_hooksInAll_32 (by decide) ?_
    refine st_c2 (pc := 33) d_St_hooksInAll_33 (by decide) ?_
    refine wp_goto (tgt := 4) (pc := 36) d_St_hooksInAll_36 (by decide) ?_
    have e : ((x + 1 : Nat) : Int) = (x : Int) + 1 := by omega
    have zz := ih (x + 1) (some (.ref (rA B i x))) (by omega)
    rw [e] at zz
    exact zz
set_option maxRecDepth 100000 in
theorem sp_St_hooksInAll (hE : gOk E) (hB : gB E ≤ B) (hW : CN B S h0 X T i h (F, t, A, N, V)) (hi : i < 6) {nv : Int} (hV : Vd nv F) (k : Q (some (.int (zI (sH F (F 1).toNat)))) h) : Wp E m_St_hooksInAll 0 (gEnt m_St_hooksInAll [.ref (sA B i)]) [] h Q := by
  have hs := hV.1
  show Wp E m_St_hooksInAll 0 [some (_), none, none, none] [] _ _
  refine wp_iconst (pc := 0) d_St_hooksInAll_0 ?_
  refine st_i1 (pc := 1) d_St_hooksInAll_1 (by decide) ?_
  refine wp_iconst (pc := 2) d_St_hooksInAll_2 ?_
  refine st_i2 (pc := 3) d_St_hooksInAll_3 (by decide) ?_
  exact lp_St_hooksInAll hE hB hW hi hV k (F 1).toNat 0 none (by omega)
/-- a sum over the racks' hooks -/
def sR (F t : Int → Int) (w : Int) : Nat → Int
  | 0 => 0
  | r + 1 => sR F t w r + sm (fun y => tv F t w (12 * r + y)) (F (14 + 3 * r + 0)).toNat
set_option maxRecDepth 100000 in
theorem lp_St_total (hE : gOk E) (hB : gB E ≤ B) (hW : CN B S h0 X T i h (F, t, A, N, V)) (hi : i < 6) {nv : Int} (hV : Vd nv F) (hT : rT t) {w : Int} (w0 : 0 ≤ w) (w3 : w ≤ 3) (k : Q (some (.int (zI (sR F t w (F 1).toNat)))) h) : ∀ (d x : Nat) (o : Option Value), x + d = (F 1).toNat → Wp E m_St_total 4 [some (.ref (sA B i)), some (.int (zI w)), some (.int (zI (sR F t w x))), some (.int (zI x)), o] [] h Q := by
  intro d
  induction d with
  | zero =>
    intro x o hx
    have hs := hV.1
    refine wp_iload_n (pc := 4) d_St_total_4 rfl ?_
    refine wp_aload_n (pc := 5) d_St_total_5 rfl ?_
    refine wp_getfield (pc := 6) d_St_total_6 f_St_17 (hW.st hi) rfl ?_
    refine zp_icmp_ge (tgt := 43) (pc := 9) d_St_total_9 (by decide) ⟨by omega, by omega⟩ ⟨by omega, by omega⟩ (fun c9 => ?_) (fun c9 => absurd c9 (by omega))
    obtain rfl : x = (F 1).toNat := by omega
    refine wp_iload_n (pc := 43) d_St_total_43 rfl ?_
    refine zp_ireturn (pc := 44) d_St_total_44 rfl ?_
    exact k
  | succ d ih =>
    intro x o hx
    have hs := hV.1
    refine wp_iload_n (pc := 4) d_St_total_4 rfl ?_
    refine wp_aload_n (pc := 5) d_St_total_5 rfl ?_
    refine wp_getfield (pc := 6) d_St_total_6 f_St_17 (hW.st hi) rfl ?_
    refine zp_icmp_ge (tgt := 43) (pc := 9) d_St_total_9 (by decide) ⟨by omega, by omega⟩ ⟨by omega, by omega⟩ (fun c9 => absurd c9 (by omega)) (fun c9 => ?_)
    refine wp_aload_n (pc := 12) d_St_total_12 rfl ?_
    refine wp_iload_n (pc := 13) d_St_total_13 rfl ?_
    refine wv_callV (n := 1) (As := [_]) (pc := 14) d_St_total_14 s_St_54 q_St_rackAt ⟨by decide, by decide⟩ (hW.st hi) rfl rfl rfl rfl (Nat.le_of_ble_eq_true rfl) (Nat.le_of_ble_eq_true rfl) ?_
    refine sp_St_rackAt hE hB hW hi hV ⟨by omega, by omega⟩ (fun q => absurd q (by omega)) (fun _ => ?_)
    refine ⟨_, rfl, ?_⟩
    refine st_a4 (pc := 17) d_St_total_17 (by decide) ?_
    refine wp_iload_n (pc := 19) d_St_total_19 rfl ?_
    refine wp_aload (pc := 20) d_St_total_20 rfl ?_
    refine wp_ifnonnull (tgt := 29) (pc := 22) d_St_total_22 (by decide) ?_
    refine wp_aload (pc := 29) d_St_total_29 rfl ?_
    refine wp_iload_n (pc := 31) d_St_total_31 rfl ?_
    refine wv_callV (n := 1) (As := [_]) (pc := 32) d_St_total_32 s_St_190 q_Rk_total ⟨by decide, by decide⟩ (hW.rk hi (by omega) (by omega)) rfl rfl rfl rfl (Nat.le_of_ble_eq_true rfl) (Nat.le_of_ble_eq_true rfl) ?_
    refine sp_Rk_total hE hB hW hi hV hT (by omega) (by omega) w0 w3 ?_
    refine ⟨_, rfl, ?_⟩
    refine zp_iadd (pc := 35) d_St_total_35 ?_
    refine st_i2 (pc := 36) d_St_total_36 (by decide) ?_
    refine st_c3 (pc := 37) d_St_total_37 (by decide) ?_
    refine wp_goto (tgt := 4) (pc := 40) d_St_total_40 (by decide) ?_
    have e : ((x + 1 : Nat) : Int) = (x : Int) + 1 := by omega
    have zz := ih (x + 1) (some (.ref (rA B i x))) (by omega)
    rw [e] at zz
    exact zz
set_option maxRecDepth 100000 in
theorem sp_St_total (hE : gOk E) (hB : gB E ≤ B) (hW : CN B S h0 X T i h (F, t, A, N, V)) (hi : i < 6) {nv : Int} (hV : Vd nv F) (hT : rT t) {w : Int} (w0 : 0 ≤ w) (w3 : w ≤ 3) (k : Q (some (.int (zI (sR F t w (F 1).toNat)))) h) : Wp E m_St_total 0 (gEnt m_St_total [.ref (sA B i), .int (zI w)]) [] h Q := by
  have hs := hV.1
  show Wp E m_St_total 0 [some (_), some (_), none, none, none] [] _ _
  refine wp_iconst (pc := 0) d_St_total_0 ?_
  refine st_i2 (pc := 1) d_St_total_1 (by decide) ?_
  refine wp_iconst (pc := 2) d_St_total_2 ?_
  refine st_i3 (pc := 3) d_St_total_3 (by decide) ?_
  exact lp_St_total hE hB hW hi hV hT w0 w3 k (F 1).toNat 0 none (by omega)
/-- the entries of the coats stand for what the hooks hold -/
def rL (F t : Int → Int) : Prop := ∀ n : Int, 0 ≤ n → n < 60 → (t n = -1 ↔ ¬ F (29 + 8 * n + 1) = 1)
set_option maxRecDepth 100000 in
theorem lp_St_hookByRule (hE : gOk E) (hB : gB E ≤ B) (hW : CN B S h0 X T i h (F, t, A, N, V)) (hi : i < 6) {nv : Int} (hV : Vd nv F) (hn : nv ≤ 1000000000) (hT : rT t) (hL : rL F t) {z : Int} (rz : gR z) (y0 : bst F z 60 = -5 → Q (some .null) h) (y1 : ¬ bst F z 60 = -5 → Q (some (.ref (hA B i (bst F z 60)))) h) : ∀ (d x : Nat) (o : Option Value), x + d = 60 → Wp E m_St_hookByRule 4 [some (.ref (sA B i)), some (.int (zI z)), some (if bst F z x = -5 then .null else .ref (hA B i (bst F z x))), some (.int (zI x)), o] [] h Q := by
  intro d
  induction d with
  | zero =>
    intro x o hx
    have hbb := bst_b F z x
    obtain rfl : x = 60 := by omega
    by_cases hb : bst F z 60 = -5
    · rw [if_pos hb]
      refine wp_iload_n (pc := 4) d_St_hookByRule_4 rfl ?_
      refine zp_bipush (pc := 5) d_St_hookByRule_5 (by decide) ?_
      refine zp_icmp_ge (tgt := 55) (pc := 7) d_St_hookByRule_7 (by decide) ⟨by omega, by omega⟩ ⟨by omega, by omega⟩ (fun c7 => ?_) (fun c7 => absurd c7 (by omega))
      refine wp_aload_nN (pc := 55) d_St_hookByRule_55 rfl ?_
      refine wp_areturn (pc := 56) d_St_hookByRule_56 rfl (Or.inl ⟨_, rfl⟩) (Or.inl rfl) ?_
      exact y0 hb
    · rw [if_neg hb]
      refine wp_iload_n (pc := 4) d_St_hookByRule_4 rfl ?_
      refine zp_bipush (pc := 5) d_St_hookByRule_5 (by decide) ?_
      refine zp_icmp_ge (tgt := 55) (pc := 7) d_St_hookByRule_7 (by decide) ⟨by omega, by omega⟩ ⟨by omega, by omega⟩ (fun c7 => ?_) (fun c7 => absurd c7 (by omega))
      refine wp_aload_n (pc := 55) d_St_hookByRule_55 rfl ?_
      refine wp_areturn (pc := 56) d_St_hookByRule_56 rfl (Or.inl ⟨_, rfl⟩) (Or.inr ⟨_, rfl⟩) ?_
      exact y1 hb
  | succ d ih =>
    intro x o hx
    have hbb := bst_b F z x
    by_cases hb : bst F z x = -5
    · rw [if_pos hb]
      refine wp_iload_n (pc := 4) d_St_hookByRule_4 rfl ?_
      refine zp_bipush (pc := 5) d_St_hookByRule_5 (by decide) ?_
      refine zp_icmp_ge (tgt := 55) (pc := 7) d_St_hookByRule_7 (by decide) ⟨by omega, by omega⟩ ⟨by omega, by omega⟩ (fun c7 => absurd c7 (by omega)) (fun c7 => ?_)
      refine wp_aload_n (pc := 10) d_St_hookByRule_10 rfl ?_
      refine wp_iload_n (pc := 11) d_St_hookByRule_11 rfl ?_
      rcases Decidable.em (isHk F x) with c12 | c12
      · refine wv_callV (n := 1) (As := [_]) (pc := 12) d_St_hookByRule_12 s_St_62 q_St_hookAt ⟨by decide, by decide⟩ (hW.st hi) rfl rfl rfl rfl (Nat.le_of_ble_eq_true rfl) (Nat.le_of_ble_eq_true rfl) ?_
        refine sp_St_hookAt hE hB hW hi hV ⟨by omega, by omega⟩ (fun q => absurd c12 q) (fun _ => ?_)
        refine ⟨_, rfl, ?_⟩
        refine st_a4 (pc := 15) d_St_hookByRule_15 (by decide) ?_
        refine wp_aload (pc := 17) d_St_hookByRule_17 rfl ?_
        refine wp_ifnull (pc := 19) d_St_hookByRule_19 ?_
        refine wp_aload_n (pc := 22) d_St_hookByRule_22 rfl ?_
        refine wp_aload (pc := 23) d_St_hookByRule_23 rfl ?_
        refine wp_iload_n (pc := 25) d_St_hookByRule_25 rfl ?_
        have hl := hL x (by omega) (by omega)
        refine wv_callV (n := 2) (As := [_, _]) (pc := 26) d_St_hookByRule_26 s_St_89 q_St_isFree ⟨by decide, by decide⟩ (hW.st hi) rfl rfl rfl rfl (Nat.le_of_ble_eq_true rfl) (Nat.le_of_ble_eq_true rfl) ?_
        refine sp_St_isFree hE hB hW hi hV hT (by omega) (by omega) rz ?_
        refine ⟨_, rfl, ?_⟩
        refine zp_ifb_eq (tgt := 49) (pc := 29) d_St_hookByRule_29 (by decide) (fun c29 => ?_) (fun c29 => ?_)
        · refine st_c3 (pc := 49) d_St_hookByRule_49 (by decide) ?_
          refine wp_goto (tgt := 4) (pc := 52) d_St_hookByRule_52 (by decide) ?_
          have e : ((x + 1 : Nat) : Int) = (x : Int) + 1 := by omega
          have zz := ih (x + 1) (some (.ref (hA B i x))) (by omega)
          rw [e, show bst F z (x + 1) = bst F z x from if_neg (by omega), if_pos hb] at zz
          exact zz
        · refine wp_aload_nN (pc := 32) d_St_hookByRule_32 rfl ?_
          refine wp_ifnullN (tgt := 46) (pc := 33) d_St_hookByRule_33 (by decide) ?_
          refine wp_aload (pc := 46) d_St_hookByRule_46 rfl ?_
          refine st_a2 (pc := 48) d_St_hookByRule_48 (by decide) ?_
          refine st_c3 (pc := 49) d_St_hookByRule_49 (by decide) ?_
          refine wp_goto (tgt := 4) (pc := 52) d_St_hookByRule_52 (by decide) ?_
          have e : ((x + 1 : Nat) : Int) = (x : Int) + 1 := by omega
          have zz := ih (x + 1) (some (.ref (hA B i x))) (by omega)
          rw [e, show bst F z (x + 1) = x from if_pos (by omega), if_neg (by omega)] at zz
          exact zz
      · refine wv_callV (n := 1) (As := [_]) (pc := 12) d_St_hookByRule_12 s_St_62 q_St_hookAt ⟨by decide, by decide⟩ (hW.st hi) rfl rfl rfl rfl (Nat.le_of_ble_eq_true rfl) (Nat.le_of_ble_eq_true rfl) ?_
        refine sp_St_hookAt hE hB hW hi hV ⟨by omega, by omega⟩ (fun _ => ?_) (fun q => absurd q c12)
        refine ⟨_, rfl, ?_⟩
        refine st_N4 (pc := 15) d_St_hookByRule_15 (by decide) ?_
        refine wp_aloadN (pc := 17) d_St_hookByRule_17 rfl ?_
        refine wp_ifnullN (tgt := 49) (pc := 19) d_St_hookByRule_19 (by decide) ?_
        refine st_c3 (pc := 49) d_St_hookByRule_49 (by decide) ?_
        refine wp_goto (tgt := 4) (pc := 52) d_St_hookByRule_52 (by decide) ?_
        have e : ((x + 1 : Nat) : Int) = (x : Int) + 1 := by omega
        have zz := ih (x + 1) (some .null) (by omega)
        rw [e, show bst F z (x + 1) = bst F z x from if_neg (by omega), if_pos hb] at zz
        exact zz
    · rw [if_neg hb]
      refine wp_iload_n (pc := 4) d_St_hookByRule_4 rfl ?_
      refine zp_bipush (pc := 5) d_St_hookByRule_5 (by decide) ?_
      refine zp_icmp_ge (tgt := 55) (pc := 7) d_St_hookByRule_7 (by decide) ⟨by omega, by omega⟩ ⟨by omega, by omega⟩ (fun c7 => absurd c7 (by omega)) (fun c7 => ?_)
      refine wp_aload_n (pc := 10) d_St_hookByRule_10 rfl ?_
      refine wp_iload_n (pc := 11) d_St_hookByRule_11 rfl ?_
      rcases Decidable.em (isHk F x) with c12 | c12
      · refine wv_callV (n := 1) (As := [_]) (pc := 12) d_St_hookByRule_12 s_St_62 q_St_hookAt ⟨by decide, by decide⟩ (hW.st hi) rfl rfl rfl rfl (Nat.le_of_ble_eq_true rfl) (Nat.le_of_ble_eq_true rfl) ?_
        refine sp_St_hookAt hE hB hW hi hV ⟨by omega, by omega⟩ (fun q => absurd c12 q) (fun _ => ?_)
        refine ⟨_, rfl, ?_⟩
        refine st_a4 (pc := 15) d_St_hookByRule_15 (by decide) ?_
        refine wp_aload (pc := 17) d_St_hookByRule_17 rfl ?_
        refine wp_ifnull (pc := 19) d_St_hookByRule_19 ?_
        refine wp_aload_n (pc := 22) d_St_hookByRule_22 rfl ?_
        refine wp_aload (pc := 23) d_St_hookByRule_23 rfl ?_
        refine wp_iload_n (pc := 25) d_St_hookByRule_25 rfl ?_
        have hl := hL x (by omega) (by omega)
        refine wv_callV (n := 2) (As := [_, _]) (pc := 26) d_St_hookByRule_26 s_St_89 q_St_isFree ⟨by decide, by decide⟩ (hW.st hi) rfl rfl rfl rfl (Nat.le_of_ble_eq_true rfl) (Nat.le_of_ble_eq_true rfl) ?_
        refine sp_St_isFree hE hB hW hi hV hT (by omega) (by omega) rz ?_
        refine ⟨_, rfl, ?_⟩
        refine zp_ifb_eq (tgt := 49) (pc := 29) d_St_hookByRule_29 (by decide) (fun c29 => ?_) (fun c29 => ?_)
        · refine st_c3 (pc := 49) d_St_hookByRule_49 (by decide) ?_
          refine wp_goto (tgt := 4) (pc := 52) d_St_hookByRule_52 (by decide) ?_
          have e : ((x + 1 : Nat) : Int) = (x : Int) + 1 := by omega
          have zz := ih (x + 1) (some (.ref (hA B i x))) (by omega)
          rw [e, show bst F z (x + 1) = bst F z x from if_neg (by omega), if_neg hb] at zz
          exact zz
        · refine wp_aload_n (pc := 32) d_St_hookByRule_32 rfl ?_
          refine wp_ifnull (pc := 33) d_St_hookByRule_33 ?_
          refine wp_aload_n (pc := 36) d_St_hookByRule_36 rfl ?_
          refine wp_aload (pc := 37) d_St_hookByRule_37 rfl ?_
          refine wp_aload_n (pc := 39) d_St_hookByRule_39 rfl ?_
          refine wv_callV (n := 2) (As := [_, _]) (pc := 40) d_St_hookByRule_40 s_St_93 q_St_goesAhead ⟨by decide, by decide⟩ (hW.st hi) rfl rfl rfl rfl (Nat.le_of_ble_eq_true rfl) (Nat.le_of_ble_eq_true rfl) ?_
          refine sp_St_goesAhead hE hB hW hi hV hn (by omega) (by omega) (by omega) (by omega) ?_
          refine ⟨_, rfl, ?_⟩
          refine zp_ifb_eq (tgt := 49) (pc := 43) d_St_hookByRule_43 (by decide) (fun c43 => ?_) (fun c43 => ?_)
          · refine st_c3 (pc := 49) d_St_hookByRule_49 (by decide) ?_
            refine wp_goto (tgt := 4) (pc := 52) d_St_hookByRule_52 (by decide) ?_
            have e : ((x + 1 : Nat) : Int) = (x : Int) + 1 := by omega
            have zz := ih (x + 1) (some (.ref (hA B i x))) (by omega)
            rw [e, show bst F z (x + 1) = bst F z x from if_neg (by omega), if_neg hb] at zz
            exact zz
          · refine wp_aload (pc := 46) d_St_hookByRule_46 rfl ?_
            refine st_a2 (pc := 48) d_St_hookByRule_48 (by decide) ?_
            refine st_c3 (pc := 49) d_St_hookByRule_49 (by decide) ?_
            refine wp_goto (tgt := 4) (pc := 52) d_St_hookByRule_52 (by decide) ?_
            have e : ((x + 1 : Nat) : Int) = (x : Int) + 1 := by omega
            have zz := ih (x + 1) (some (.ref (hA B i x))) (by omega)
            rw [e, show bst F z (x + 1) = x from if_pos (by omega), if_neg (by omega)] at zz
            exact zz
      · refine wv_callV (n := 1) (As := [_]) (pc := 12) d_St_hookByRule_12 s_St_62 q_St_hookAt ⟨by decide, by decide⟩ (hW.st hi) rfl rfl rfl rfl (Nat.le_of_ble_eq_true rfl) (Nat.le_of_ble_eq_true rfl) ?_
        refine sp_St_hookAt hE hB hW hi hV ⟨by omega, by omega⟩ (fun _ => ?_) (fun q => absurd q c12)
        refine ⟨_, rfl, ?_⟩
        refine st_N4 (pc := 15) d_St_hookByRule_15 (by decide) ?_
        refine wp_aloadN (pc := 17) d_St_hookByRule_17 rfl ?_
        refine wp_ifnullN (tgt := 49) (pc := 19) d_St_hookByRule_19 (by decide) ?_
        refine st_c3 (pc := 49) d_St_hookByRule_49 (by decide) ?_
        refine wp_goto (tgt := 4) (pc := 52) d_St_hookByRule_52 (by decide) ?_
        have e : ((x + 1 : Nat) : Int) = (x : Int) + 1 := by omega
        have zz := ih (x + 1) (some .null) (by omega)
        rw [e, show bst F z (x + 1) = bst F z x from if_neg (by omega), if_neg hb] at zz
        exact zz
set_option maxRecDepth 100000 in
theorem sp_St_hookByRule (hE : gOk E) (hB : gB E ≤ B) (hW : CN B S h0 X T i h (F, t, A, N, V)) (hi : i < 6) {nv : Int} (hV : Vd nv F) (hn : nv ≤ 1000000000) (hT : rT t) (hL : rL F t) {z : Int} (rz : gR z) (y0 : bst F z 60 = -5 → Q (some .null) h) (y1 : ¬ bst F z 60 = -5 → Q (some (.ref (hA B i (bst F z 60)))) h) : Wp E m_St_hookByRule 0 (gEnt m_St_hookByRule [.ref (sA B i), .int (zI z)]) [] h Q := by
  show Wp E m_St_hookByRule 0 [some (_), some (_), none, none, none] [] _ _
  refine wp_aconst_null (pc := 0) d_St_hookByRule_0 ?_
  refine st_N2 (pc := 1) d_St_hookByRule_1 (by decide) ?_
  refine wp_iconst (pc := 2) d_St_hookByRule_2 ?_
  refine st_i3 (pc := 3) d_St_hookByRule_3 (by decide) ?_
  exact lp_St_hookByRule hE hB hW hi hV hn hT hL rz y0 y1 60 0 none (by omega)
end S38
