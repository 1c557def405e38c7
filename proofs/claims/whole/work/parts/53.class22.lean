/-! ===== the class: answers ===== -/
section S53
variable {E : gE} {B S : Nat} {h0 h : gH} {X : Nat → SC} {T : TC} {i : Nat} {Y : SC} {F t : Int → Int} {A : Nat → Nat} {N : Nat} {V : Nat → Int → Int} {Q : Option Value → gH → Prop}
set_option maxRecDepth 100000 in
theorem sp_Yt_tagOf (hE : gOk E) (hB : gB E ≤ B) (hW : CN B S h0 X T 0 h (F, t, A, N, V)) {nv : Int} (hJ : J nv F) (hn : nv ≤ 100000000) (hR : RI F t N V) {x : Int} (rx : gR x) (k : Q (some (.int (zI (c_to x)))) h) : Wp E m_Yt_tagOf 0 (gEnt m_Yt_tagOf [.ref B, .int (zI x)]) [] h Q := by
  show Wp E m_Yt_tagOf 0 [some (_), some (_)] [] _ _
  refine wp_iload_n (pc := 0) d_Yt_tagOf_0 rfl ?_
  refine zp_if_lt (tgt := 11) (pc := 1) d_Yt_tagOf_1 (by decide) rx (fun c1 => ?_) (fun c1 => ?_)
  · refine zp_bipush (pc := 11) d_Yt_tagOf_11 (by decide) ?_
    refine wp_goto (tgt := 20) (pc := 13) d_Yt_tagOf_13 (by decide) ?_
    refine zp_ireturn (pc := 20) d_Yt_tagOf_20 rfl ?_
    refine ansI k ?_
    unfold c_to
    split <;> first | rfl | omega
  · refine wp_iload_n (pc := 4) d_Yt_tagOf_4 rfl ?_
    refine zp_sipush (pc := 5) d_Yt_tagOf_5 (by decide) ?_
    refine zp_icmp_lt (tgt := 16) (pc := 8) d_Yt_tagOf_8 (by decide) rx ⟨by omega, by omega⟩ (fun c8 => ?_) (fun c8 => ?_)
    · refine wp_iload_n (pc := 16) d_Yt_tagOf_16 rfl ?_
      refine wv_callS (n := 1) (As := [_]) (pc := 17) d_Yt_tagOf_17 s_Yt_202 q_Yt_tagWithCheck ⟨by decide, by decide⟩ rfl rfl rfl (Nat.le_of_ble_eq_true rfl) (Nat.le_of_ble_eq_true rfl) ?_
      refine sp_Yt_tagWithCheck (by omega) (by omega) ?_
      refine ⟨_, rfl, ?_⟩
      refine zp_ireturn (pc := 20) d_Yt_tagOf_20 rfl ?_
      refine ansI k ?_
      unfold c_to
      split <;> first | rfl | omega
    · refine zp_bipush (pc := 11) d_Yt_tagOf_11 (by decide) ?_
      refine wp_goto (tgt := 20) (pc := 13) d_Yt_tagOf_13 (by decide) ?_
      refine zp_ireturn (pc := 20) d_Yt_tagOf_20 rfl ?_
      refine ansI k ?_
      unfold c_to
      split <;> first | rfl | omega
set_option maxRecDepth 100000 in
theorem sp_Yt_next (hE : gOk E) (hB : gB E ≤ B) (hW : CN B S h0 X T 0 h (F, t, A, N, V)) {nv : Int} (hJ : J nv F) (hn : nv ≤ 100000000) (hR : RI F t N V) {x : Int} (rx : gR x) (k : Q (some (.int (zI (c_nx F x)))) h) : Wp E m_Yt_next 0 (gEnt m_Yt_next [.ref B, .int (zI x)]) [] h Q := by
  have hi : (0 : Nat) < 6 := by decide
  have hV := hJ.vd
  have hN := hW.aN hi
  have hG := hR.1
  have hT := hR.rT hN.2
  have hL := hR.rL
  have hs := hV.1
  show Wp E m_Yt_next 0 [some (_), some (_), none] [] _ _
  refine wp_iload_n (pc := 0) d_Yt_next_0 rfl ?_
  refine wv_callS (n := 1) (As := [_]) (pc := 1) d_Yt_next_1 s_Yt_41 q_Yt_isSize ⟨by decide, by decide⟩ rfl rfl rfl (Nat.le_of_ble_eq_true rfl) (Nat.le_of_ble_eq_true rfl) ?_
  refine sp_Yt_isSize rx ?_
  refine ⟨_, rfl, ?_⟩
  refine zp_ifb_ne (tgt := 10) (pc := 4) d_Yt_next_4 (by decide) (fun c4 => ?_) (fun c4 => ?_)
  · refine wp_aload_n (pc := 10) d_Yt_next_10 rfl ?_
    refine wp_getfield (pc := 11) d_Yt_next_11 f_Yt_10 hW.yt rfl ?_
    refine wp_iload_n (pc := 14) d_Yt_next_14 rfl ?_
    have hbb := bst_b F x 60
    rcases Decidable.em (¬ bst F x 60 = -5) with c15 | c15
    · refine wv_callV (n := 1) (As := [_]) (pc := 15) d_Yt_next_15 s_Yt_93 q_St_hookByRule ⟨by decide, by decide⟩ (hW.st hi) rfl rfl rfl rfl (Nat.le_of_ble_eq_true rfl) (Nat.le_of_ble_eq_true rfl) ?_
      refine sp_St_hookByRule hE hB hW hi hV (by omega) hT hL rx (fun q => absurd q c15) (fun _ => ?_)
      refine ⟨_, rfl, ?_⟩
      refine st_a2 (pc := 18) d_Yt_next_18 (by decide) ?_
      refine wp_aload_n (pc := 19) d_Yt_next_19 rfl ?_
      refine wp_ifnonnull (tgt := 28) (pc := 20) d_Yt_next_20 (by decide) ?_
      refine wp_aload_n (pc := 28) d_Yt_next_28 rfl ?_
      refine wp_getfield (pc := 29) d_Yt_next_29 f_Yt_238 (hW.hk hi (by omega) (by omega)) rfl ?_
      refine zp_ireturn (pc := 32) d_Yt_next_32 rfl ?_
      refine ansI k ?_
      exact (if_pos c4)
    · refine wv_callV (n := 1) (As := [_]) (pc := 15) d_Yt_next_15 s_Yt_93 q_St_hookByRule ⟨by decide, by decide⟩ (hW.st hi) rfl rfl rfl rfl (Nat.le_of_ble_eq_true rfl) (Nat.le_of_ble_eq_true rfl) ?_
      refine sp_St_hookByRule hE hB hW hi hV (by omega) hT hL rx (fun _ => ?_) (fun q => absurd q c15)
      refine ⟨_, rfl, ?_⟩
      refine st_N2 (pc := 18) d_Yt_next_18 (by decide) ?_
      refine wp_aload_nN (pc := 19) d_Yt_next_19 rfl ?_
      refine wp_ifnonnullN (pc := 20) d_Yt_next_20 ?_
      refine zp_bipush (pc := 23) d_Yt_next_23 (by decide) ?_
      refine wp_goto (tgt := 32) (pc := 25) d_Yt_next_25 (by decide) ?_
      refine zp_ireturn (pc := 32) d_Yt_next_32 rfl ?_
      refine ansI k ?_
      unfold c_nx
      rw [if_pos c4]
      omega
  · refine zp_bipush (pc := 7) d_Yt_next_7 (by decide) ?_
    refine zp_ireturn (pc := 9) d_Yt_next_9 rfl ?_
    refine ansI k ?_
    exact if_neg c4
end S53
