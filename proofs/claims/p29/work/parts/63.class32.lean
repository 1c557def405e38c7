/-! ===== the class: coats come and leave ===== -/
section S63
variable {E : gE} {B S : Nat} {h0 h : gH} {X : Nat → SC} {T : TC} {i : Nat} {Y : SC} {F t : Int → Int} {A : Nat → Nat} {N : Nat} {V : Nat → Int → Int} {Q : Option Value → gH → Prop}
variable {b nw sz ln tc : Int} {ch tg cp : Int → Int}
theorem gvx_in {F : Int → Int} {y p : Int} : ∀ m : Nat, gvx F y p m = -1 ∨ (0 ≤ gvx F y p m ∧ gvx F y p m < m ∧ isGv F y (gvx F y p m) ∧ 0 ≤ p)
  | 0 => Or.inl rfl
  | m + 1 => by
    have ih := gvx_in (F := F) (y := y) (p := p) m
    have hc := cGv_b F y m
    rw [gvx_s]
    by_cases q : 0 ≤ gvx F y p m
    · rw [if_pos q]
      rcases ih with z | z
      · omega
      · exact Or.inr ⟨z.1, by omega, z.2.2⟩
    · rw [if_neg q]
      by_cases q2 : isGv F y m ∧ cGv F y m = p
      · rw [if_pos q2]
        exact Or.inr ⟨by omega, by omega, q2.1, by omega⟩
      · rw [if_neg q2]
        exact Or.inl rfl
theorem enU_gv (F : Int → Int) (n : Int) : enU F n 3 (duF F n + 50) = u_gv F n := rfl
set_option maxRecDepth 100000 in
theorem sp_Yt_take (hE : gOk E) (hB : gB E ≤ B) (hW : CN B S h0 X ((b, nw, sz, ln, tc), ch, tg, cp) 0 h (F, t, A, N, V)) (n0 : 0 ≤ nw ∧ nw < 4) (z0 : 0 ≤ sz ∧ sz ≤ 4) {nv : Int} (hJ : J nv F) (hn : nv ≤ 80000000) (hR : RI F t N V) (hGA : ∀ q : Nat, q < 6 → 0 ≤ xR (X q) 5 ∧ xR (X q) 5 ≤ (xN (X q) : Int)) {y z : Int} (ry : gR y) (rz : gR z) (k0 : c_tk F y z < 0 → Q (some (.int (zI (c_tk F y z)))) h) (k1 : ¬ c_tk F y z < 0 → ∀ (g : gH) (A3 : Nat → Nat) (N3 : Nat) (V3 : Nat → Int → Int) (t2 : Int → Int) (A2 : Nat → Nat) (N2 : Nat) (V2 : Nat → Int → Int), CN B S h0 (upX X (2 + ((nw + 1) % 4).toNat) (F, t, A3, N3, V3)) ((b, (nw + 1) % 4, if 4 < sz + 1 then 4 else sz + 1, ln, tc), ch, tg, cp) 0 g (u_tk F (bst F z 60) y z, t2, A2, N2, V2) → RI F t N3 V3 → RI (u_tk F (bst F z 60) y z) t2 N2 V2 → Q (some (.int (zI (c_tk F y z)))) g) : Wp E m_Yt_take 0 (gEnt m_Yt_take [.ref B, .int (zI y), .int (zI z)]) [] h Q := by
  have hi : (0 : Nat) < 6 := by decide
  have hn2 : nv ≤ 100000000 := by omega
  have hV := hJ.vd
  have hN := hW.aN hi
  have hG := hR.1
  have hT := hR.rT hN.2
  have hL := hR.rL
  have hs := hV.1
  have hb := sA_b B hi
  show Wp E m_Yt_take 0 [some (_), some (_), some (_), none] [] _ _
  refine wp_iload_n (pc := 0) d_Yt_take_0 rfl ?_
  refine wv_callS (n := 1) (As := [_]) (pc := 1) d_Yt_take_1 s_Yt_90 q_Yt_isGuest ⟨by decide, by decide⟩ rfl rfl rfl (Nat.le_of_ble_eq_true rfl) (Nat.le_of_ble_eq_true rfl) ?_
  refine sp_Yt_isGuest ry ?_
  refine ⟨_, rfl, ?_⟩
  refine zp_ifb_ne (tgt := 9) (pc := 4) d_Yt_take_4 (by decide) (fun c4 => ?_) (fun c4 => ?_)
  · refine wp_iload_n (pc := 9) d_Yt_take_9 rfl ?_
    refine wv_callS (n := 1) (As := [_]) (pc := 10) d_Yt_take_10 s_Yt_41 q_Yt_isSize ⟨by decide, by decide⟩ rfl rfl rfl (Nat.le_of_ble_eq_true rfl) (Nat.le_of_ble_eq_true rfl) ?_
    refine sp_Yt_isSize rz ?_
    refine ⟨_, rfl, ?_⟩
    refine zp_ifb_ne (tgt := 19) (pc := 13) d_Yt_take_13 (by decide) (fun c13 => ?_) (fun c13 => ?_)
    · refine wp_aload_n (pc := 19) d_Yt_take_19 rfl ?_
      refine wp_getfield (pc := 20) d_Yt_take_20 f_Yt_10 hW.yt2 rfl ?_
      refine wp_iload_n (pc := 23) d_Yt_take_23 rfl ?_
      have hbb := bst_b F z 60
      rcases Decidable.em (¬ bst F z 60 = -5) with c24 | c24
      · refine wv_callV (n := 1) (As := [_]) (pc := 24) d_Yt_take_24 s_Yt_93 q_St_hookByRule ⟨by decide, by decide⟩ (hW.st hi) rfl rfl rfl rfl (Nat.le_of_ble_eq_true rfl) (Nat.le_of_ble_eq_true rfl) ?_
        refine sp_St_hookByRule hE hB hW hi hV (by omega) hT hL rz (fun q => absurd q c24) (fun _ => ?_)
        refine ⟨_, rfl, ?_⟩
        have hfr := bst_fr 60 c24
        have hhb := hdl_b hV (x := bst F z 60) (by omega) (by omega)
        refine st_a3 (pc := 27) d_Yt_take_27 (by decide) ?_
        refine wp_aload_n (pc := 28) d_Yt_take_28 rfl ?_
        refine wp_ifnonnull (tgt := 35) (pc := 29) d_Yt_take_29 (by decide) ?_
        refine wp_aload_n (pc := 35) d_Yt_take_35 rfl ?_
        refine wp_getfield (pc := 36) d_Yt_take_36 f_Yt_26 hW.yt2 rfl ?_
        refine wp_aload_n (pc := 39) d_Yt_take_39 rfl ?_
        refine wp_getfield (pc := 40) d_Yt_take_40 f_Yt_10 hW.yt2 rfl ?_
        refine wn_callV (n := 1) (As := [_]) (pc := 43) d_Yt_take_43 s_Yt_49 q_Hi_record ⟨by decide, by decide⟩ hW.hy2 rfl rfl rfl rfl (Nat.le_of_ble_eq_true rfl) (Nat.le_of_ble_eq_true rfl) ?_
        refine sp_Hi_record hE hB hW n0 z0 hV hR hGA (fun g A3 N3 V3 hW hR3 => ?_)
        refine ⟨rfl, ?_⟩
        refine wp_aload_n (pc := 46) d_Yt_take_46 rfl ?_
        refine wp_getfield (pc := 47) d_Yt_take_47 f_Yt_10 hW.yt2 rfl ?_
        refine wp_iload_n (pc := 50) d_Yt_take_50 rfl ?_
        refine wp_iload_n (pc := 51) d_Yt_take_51 rfl ?_
        refine wp_aload_n (pc := 52) d_Yt_take_52 rfl ?_
        refine wv_callV (n := 3) (As := [_, _, _]) (pc := 53) d_Yt_take_53 s_Yt_96 q_St_takeIn ⟨by decide, by decide⟩ (hW.st hi) rfl rfl rfl rfl (Nat.le_of_ble_eq_true rfl) (Nat.le_of_ble_eq_true rfl) ?_
        refine sp_St_takeIn2 hE hB hW hi hJ hn2 hR (by omega) (by omega) hfr c13 (by omega) (by omega) (fun g t2 A2 N2 V2 hW hR2 => ?_)
        refine ⟨_, rfl, ?_⟩
        refine zp_ireturn (pc := 56) d_Yt_take_56 rfl ?_
        have htb := tb_b (x := hdl F (bst F z 60)) (by omega) (by omega)
        have e : c_tk F y z = tb (hdl F (bst F z 60)) := by
          unfold c_tk
          rw [if_neg (not_not_intro c4), if_neg (not_not_intro c13), if_neg c24]
        rw [e] at k1
        exact k1 (by omega) _ _ _ _ _ _ _ _ hW hR3 (hR2)
      · refine wv_callV (n := 1) (As := [_]) (pc := 24) d_Yt_take_24 s_Yt_93 q_St_hookByRule ⟨by decide, by decide⟩ (hW.st hi) rfl rfl rfl rfl (Nat.le_of_ble_eq_true rfl) (Nat.le_of_ble_eq_true rfl) ?_
        refine sp_St_hookByRule hE hB hW hi hV (by omega) hT hL rz (fun _ => ?_) (fun q => absurd q c24)
        refine ⟨_, rfl, ?_⟩
        skip
        refine st_N3 (pc := 27) d_Yt_take_27 (by decide) ?_
        refine wp_aload_nN (pc := 28) d_Yt_take_28 rfl ?_
        refine wp_ifnonnullN (pc := 29) d_Yt_take_29 ?_
        refine zp_bipush (pc := 32) d_Yt_take_32 (by decide) ?_
        refine zp_ireturn (pc := 34) d_Yt_take_34 rfl ?_
        have e : c_tk F y z = -3 := by
          unfold c_tk
          rw [if_neg (not_not_intro c4), if_neg (not_not_intro c13), if_pos (by omega)]
        rw [e] at k0
        exact k0 (by omega)
    · refine zp_bipush (pc := 16) d_Yt_take_16 (by decide) ?_
      refine zp_ireturn (pc := 18) d_Yt_take_18 rfl ?_
      have e : c_tk F y z = -2 := by
        unfold c_tk
        rw [if_neg (not_not_intro c4), if_pos c13]
      rw [e] at k0
      exact k0 (by omega)
  · refine wp_iconst (pc := 7) d_Yt_take_7 ?_
    refine zp_ireturn (pc := 8) d_Yt_take_8 rfl ?_
    have e : c_tk F y z = -1 := by
      exact if_pos c4
    rw [e] at k0
    exact k0 (by omega)
set_option maxRecDepth 100000 in
theorem sp_Yt_claim (hE : gOk E) (hB : gB E ≤ B) (hW : CN B S h0 X ((b, nw, sz, ln, tc), ch, tg, cp) 0 h (F, t, A, N, V)) (n0 : 0 ≤ nw ∧ nw < 4) (z0 : 0 ≤ sz ∧ sz ≤ 4) {nv : Int} (hJ : J nv F) (hn : nv ≤ 80000000) (hR : RI F t N V) (hGA : ∀ q : Nat, q < 6 → 0 ≤ xR (X q) 5 ∧ xR (X q) 5 ≤ (xN (X q) : Int)) {x : Int} (rx : gR x) (k0 : c_cl F x < 0 → Q (some (.int (zI (c_cl F x)))) h) (k1 : ¬ c_cl F x < 0 → ∀ (g : gH) (A3 : Nat → Nat) (N3 : Nat) (V3 : Nat → Int → Int) (t2 : Int → Int) (A2 : Nat → Nat) (N2 : Nat) (V2 : Nat → Int → Int), CN B S h0 (upX X (2 + ((nw + 1) % 4).toNat) (F, t, A3, N3, V3)) ((b, (nw + 1) % 4, if 4 < sz + 1 then 4 else sz + 1, ln, tc), ch, tg, cp) 0 g (u_cl F (hkT F x), t2, A2, N2, V2) → RI F t N3 V3 → RI (u_cl F (hkT F x)) t2 N2 V2 → Q (some (.int (zI (c_cl F x)))) g) : Wp E m_Yt_claim 0 (gEnt m_Yt_claim [.ref B, .int (zI x)]) [] h Q := by
  have hi : (0 : Nat) < 6 := by decide
  have hn2 : nv ≤ 100000000 := by omega
  have hV := hJ.vd
  have hN := hW.aN hi
  have hG := hR.1
  have hT := hR.rT hN.2
  have hL := hR.rL
  have hs := hV.1
  have hb := sA_b B hi
  obtain ⟨p1, p2, p3⟩ := plc_f hJ x
  show Wp E m_Yt_claim 0 [some (_), some (_), none, none] [] _ _
  refine wp_aload_n (pc := 0) d_Yt_claim_0 rfl ?_
  refine wp_getfield (pc := 1) d_Yt_claim_1 f_Yt_10 hW.yt2 rfl ?_
  refine wp_iload_n (pc := 4) d_Yt_claim_4 rfl ?_
  refine wv_callV (n := 1) (As := [_]) (pc := 5) d_Yt_claim_5 s_Yt_100 q_St_placeOf ⟨by decide, by decide⟩ (hW.st hi) rfl rfl rfl rfl (Nat.le_of_ble_eq_true rfl) (Nat.le_of_ble_eq_true rfl) ?_
  refine sp_St_placeOf hE hB hW hi hJ hn2 hR rx ?_
  refine ⟨_, rfl, ?_⟩
  refine st_i2 (pc := 8) d_Yt_claim_8 (by decide) ?_
  refine wp_aload_n (pc := 9) d_Yt_claim_9 rfl ?_
  refine wp_getfield (pc := 10) d_Yt_claim_10 f_Yt_10 hW.yt2 rfl ?_
  refine wp_iload_n (pc := 13) d_Yt_claim_13 rfl ?_
  rcases Decidable.em (isHk F (plc F x)) with c14 | c14
  · refine wv_callV (n := 1) (As := [_]) (pc := 14) d_Yt_claim_14 s_Yt_72 q_St_hookAt ⟨by decide, by decide⟩ (hW.st hi) rfl rfl rfl rfl (Nat.le_of_ble_eq_true rfl) (Nat.le_of_ble_eq_true rfl) ?_
    refine sp_St_hookAt hE hB hW hi hV p3 (fun q => absurd c14 q) (fun _ => ?_)
    refine ⟨_, rfl, ?_⟩
    have hn0 : noT F x = 0 := Decidable.byContradiction fun q => by have := p1 q; omega
    have htg := hJ.tag hn0
    have hpe := (p2 hn0).1
    rw [hpe]
    have hhk := (p2 hn0).2.2.2
    have hdb := duF_b hV htg.2.2.1 htg.2.2.2.1
    refine st_a3 (pc := 17) d_Yt_claim_17 (by decide) ?_
    refine wp_aload_n (pc := 18) d_Yt_claim_18 rfl ?_
    refine wp_ifnonnull (tgt := 24) (pc := 19) d_Yt_claim_19 (by decide) ?_
    refine wp_aload_n (pc := 24) d_Yt_claim_24 rfl ?_
    refine wp_getfield (pc := 25) d_Yt_claim_25 f_Yt_26 hW.yt2 rfl ?_
    refine wp_aload_n (pc := 28) d_Yt_claim_28 rfl ?_
    refine wp_getfield (pc := 29) d_Yt_claim_29 f_Yt_10 hW.yt2 rfl ?_
    refine wn_callV (n := 1) (As := [_]) (pc := 32) d_Yt_claim_32 s_Yt_49 q_Hi_record ⟨by decide, by decide⟩ hW.hy2 rfl rfl rfl rfl (Nat.le_of_ble_eq_true rfl) (Nat.le_of_ble_eq_true rfl) ?_
    refine sp_Hi_record hE hB hW n0 z0 hV hR hGA (fun g A3 N3 V3 hW hR3 => ?_)
    refine ⟨rfl, ?_⟩
    refine wp_aload_n (pc := 35) d_Yt_claim_35 rfl ?_
    refine wp_getfield (pc := 36) d_Yt_claim_36 f_Yt_10 hW.yt2 rfl ?_
    refine wp_aload_n (pc := 39) d_Yt_claim_39 rfl ?_
    refine wp_iconst (pc := 40) d_Yt_claim_40 ?_
    refine wp_aload_n (pc := 41) d_Yt_claim_41 rfl ?_
    refine wp_getfield (pc := 42) d_Yt_claim_42 f_Yt_10 hW.yt2 rfl ?_
    refine wp_aload_n (pc := 45) d_Yt_claim_45 rfl ?_
    refine wv_callV (n := 1) (As := [_]) (pc := 46) d_Yt_claim_46 s_Yt_103 q_St_dueFor ⟨by decide, by decide⟩ (hW.st hi) rfl rfl rfl rfl (Nat.le_of_ble_eq_true rfl) (Nat.le_of_ble_eq_true rfl) ?_
    refine sp_St_dueFor hE hB hW hi hV (by omega) (by omega) ?_
    refine ⟨_, rfl, ?_⟩
    refine wv_callV (n := 3) (As := [_, _, _]) (pc := 49) d_Yt_claim_49 s_Yt_107 q_St_handOver ⟨by decide, by decide⟩ (hW.st hi) rfl rfl rfl rfl (Nat.le_of_ble_eq_true rfl) (Nat.le_of_ble_eq_true rfl) ?_
    refine sp_St_handOver2 hE hB hW hi hJ hn2 hR (by omega) (by omega) htg.2.2.2.2.1 (by omega) (by omega) (fun g t2 V2 hW hR2 => ?_)
    refine ⟨_, rfl, ?_⟩
    refine zp_ireturn (pc := 52) d_Yt_claim_52 rfl ?_
    rw [enU_cl] at hW hR2
    have e : c_cl F x = duF F (hkT F x) := by
      exact if_neg (not_not_intro hn0)
    rw [e] at k1
    exact k1 (by omega) _ _ _ _ _ _ _ _ hW hR3 (hR2)
  · refine wv_callV (n := 1) (As := [_]) (pc := 14) d_Yt_claim_14 s_Yt_72 q_St_hookAt ⟨by decide, by decide⟩ (hW.st hi) rfl rfl rfl rfl (Nat.le_of_ble_eq_true rfl) (Nat.le_of_ble_eq_true rfl) ?_
    refine sp_St_hookAt hE hB hW hi hV p3 (fun _ => ?_) (fun q => absurd q c14)
    refine ⟨_, rfl, ?_⟩
    have hn0 : ¬ noT F x = 0 := fun q => c14 (by rw [(p2 q).1]; exact (p2 q).2.2.2)
    have hpe := p1 hn0
    rw [hpe.1]
    refine st_N3 (pc := 17) d_Yt_claim_17 (by decide) ?_
    refine wp_aload_nN (pc := 18) d_Yt_claim_18 rfl ?_
    refine wp_ifnonnullN (pc := 19) d_Yt_claim_19 ?_
    refine wp_iload_n (pc := 22) d_Yt_claim_22 rfl ?_
    refine zp_ireturn (pc := 23) d_Yt_claim_23 rfl ?_
    have e : c_cl F x = noT F x := by
      exact if_pos hn0
    rw [e] at k0
    exact k0 (by omega)
set_option maxRecDepth 100000 in
theorem sp_Yt_giveOut (hE : gOk E) (hB : gB E ≤ B) (hW : CN B S h0 X ((b, nw, sz, ln, tc), ch, tg, cp) 0 h (F, t, A, N, V)) (n0 : 0 ≤ nw ∧ nw < 4) (z0 : 0 ≤ sz ∧ sz ≤ 4) {nv : Int} (hJ : J nv F) (hn : nv ≤ 80000000) (hR : RI F t N V) (hGA : ∀ q : Nat, q < 6 → 0 ≤ xR (X q) 5 ∧ xR (X q) 5 ≤ (xN (X q) : Int)) {y p : Int} (ry : gR y) (rp : gR p) (k0 : c_gv F y p < 0 → Q (some (.int (zI (c_gv F y p)))) h) (k1 : ¬ c_gv F y p < 0 → ∀ (g : gH) (A3 : Nat → Nat) (N3 : Nat) (V3 : Nat → Int → Int) (t2 : Int → Int) (A2 : Nat → Nat) (N2 : Nat) (V2 : Nat → Int → Int), CN B S h0 (upX X (2 + ((nw + 1) % 4).toNat) (F, t, A3, N3, V3)) ((b, (nw + 1) % 4, if 4 < sz + 1 then 4 else sz + 1, ln, tc), ch, tg, cp) 0 g (u_gv F (gvx F y p 60), t2, A2, N2, V2) → RI F t N3 V3 → RI (u_gv F (gvx F y p 60)) t2 N2 V2 → Q (some (.int (zI (c_gv F y p)))) g) : Wp E m_Yt_giveOut 0 (gEnt m_Yt_giveOut [.ref B, .int (zI y), .int (zI p)]) [] h Q := by
  have hi : (0 : Nat) < 6 := by decide
  have hn2 : nv ≤ 100000000 := by omega
  have hV := hJ.vd
  have hN := hW.aN hi
  have hG := hR.1
  have hT := hR.rT hN.2
  have hL := hR.rL
  have hs := hV.1
  have hb := sA_b B hi
  have hgx := gvx_in (F := F) (y := y) (p := p) 60
  show Wp E m_Yt_giveOut 0 [some (_), some (_), some (_), none] [] _ _
  refine wp_iload_n (pc := 0) d_Yt_giveOut_0 rfl ?_
  refine wv_callS (n := 1) (As := [_]) (pc := 1) d_Yt_giveOut_1 s_Yt_90 q_Yt_isGuest ⟨by decide, by decide⟩ rfl rfl rfl (Nat.le_of_ble_eq_true rfl) (Nat.le_of_ble_eq_true rfl) ?_
  refine sp_Yt_isGuest ry ?_
  refine ⟨_, rfl, ?_⟩
  refine zp_ifb_eq (tgt := 11) (pc := 4) d_Yt_giveOut_4 (by decide) (fun c4 => ?_) (fun c4 => ?_)
  · refine wp_iconst (pc := 11) d_Yt_giveOut_11 ?_
    refine zp_ireturn (pc := 12) d_Yt_giveOut_12 rfl ?_
    have e : c_gv F y p = -1 := by
      unfold c_gv
      by_cases q : 0 ≤ y ∧ y ≤ 19
      · rw [if_neg (not_not_intro q), if_pos (by omega)]
      · rw [if_pos q]
    rw [e] at k0
    exact k0 (by omega)
  · refine wp_iload_n (pc := 7) d_Yt_giveOut_7 rfl ?_
    refine zp_if_ge (tgt := 13) (pc := 8) d_Yt_giveOut_8 (by decide) rp (fun c8 => ?_) (fun c8 => ?_)
    · refine wp_aload_n (pc := 13) d_Yt_giveOut_13 rfl ?_
      refine wp_getfield (pc := 14) d_Yt_giveOut_14 f_Yt_10 hW.yt2 rfl ?_
      refine wp_iload_n (pc := 17) d_Yt_giveOut_17 rfl ?_
      refine wp_iload_n (pc := 18) d_Yt_giveOut_18 rfl ?_
      rcases Decidable.em (¬ gvx F y p 60 < 0) with c19 | c19
      · refine wv_callV (n := 2) (As := [_, _]) (pc := 19) d_Yt_giveOut_19 s_Yt_111 q_St_hookOfGuest ⟨by decide, by decide⟩ (hW.st hi) rfl rfl rfl rfl (Nat.le_of_ble_eq_true rfl) (Nat.le_of_ble_eq_true rfl) ?_
        refine sp_St_hookOfGuest hE hB hW hi hJ hn2 hR ry rp (fun q => absurd q c19) (fun _ => ?_)
        refine ⟨_, rfl, ?_⟩
        have hgi := hgx.resolve_left (by omega)
        have hdb := duF_b hV (x := gvx F y p 60) (by omega) (by omega)
        refine st_a3 (pc := 22) d_Yt_giveOut_22 (by decide) ?_
        refine wp_aload_n (pc := 23) d_Yt_giveOut_23 rfl ?_
        refine wp_ifnonnull (tgt := 29) (pc := 24) d_Yt_giveOut_24 (by decide) ?_
        refine wp_aload_n (pc := 29) d_Yt_giveOut_29 rfl ?_
        refine wp_getfield (pc := 30) d_Yt_giveOut_30 f_Yt_26 hW.yt2 rfl ?_
        refine wp_aload_n (pc := 33) d_Yt_giveOut_33 rfl ?_
        refine wp_getfield (pc := 34) d_Yt_giveOut_34 f_Yt_10 hW.yt2 rfl ?_
        refine wn_callV (n := 1) (As := [_]) (pc := 37) d_Yt_giveOut_37 s_Yt_49 q_Hi_record ⟨by decide, by decide⟩ hW.hy2 rfl rfl rfl rfl (Nat.le_of_ble_eq_true rfl) (Nat.le_of_ble_eq_true rfl) ?_
        refine sp_Hi_record hE hB hW n0 z0 hV hR hGA (fun g A3 N3 V3 hW hR3 => ?_)
        refine ⟨rfl, ?_⟩
        refine wp_aload_n (pc := 40) d_Yt_giveOut_40 rfl ?_
        refine wp_getfield (pc := 41) d_Yt_giveOut_41 f_Yt_10 hW.yt2 rfl ?_
        refine wp_aload_n (pc := 44) d_Yt_giveOut_44 rfl ?_
        refine wp_iconst (pc := 45) d_Yt_giveOut_45 ?_
        refine wp_aload_n (pc := 46) d_Yt_giveOut_46 rfl ?_
        refine wp_getfield (pc := 47) d_Yt_giveOut_47 f_Yt_10 hW.yt2 rfl ?_
        refine wp_aload_n (pc := 50) d_Yt_giveOut_50 rfl ?_
        refine wv_callV (n := 1) (As := [_]) (pc := 51) d_Yt_giveOut_51 s_Yt_103 q_St_dueFor ⟨by decide, by decide⟩ (hW.st hi) rfl rfl rfl rfl (Nat.le_of_ble_eq_true rfl) (Nat.le_of_ble_eq_true rfl) ?_
        refine sp_St_dueFor hE hB hW hi hV (by omega) (by omega) ?_
        refine ⟨_, rfl, ?_⟩
        refine zp_bipush (pc := 54) d_Yt_giveOut_54 (by decide) ?_
        refine zp_iadd (pc := 56) d_Yt_giveOut_56 ?_
        refine wv_callV (n := 3) (As := [_, _, _]) (pc := 57) d_Yt_giveOut_57 s_Yt_107 q_St_handOver ⟨by decide, by decide⟩ (hW.st hi) rfl rfl rfl rfl (Nat.le_of_ble_eq_true rfl) (Nat.le_of_ble_eq_true rfl) ?_
        refine sp_St_handOver2 hE hB hW hi hJ hn2 hR (by omega) (by omega) hgi.2.2.1.1 (by omega) (by omega) (fun g t2 V2 hW hR2 => ?_)
        refine ⟨_, rfl, ?_⟩
        refine zp_ireturn (pc := 60) d_Yt_giveOut_60 rfl ?_
        rw [enU_gv] at hW hR2
        have e : c_gv F y p = duF F (gvx F y p 60) + 50 := by
          unfold c_gv
          rw [if_neg (not_not_intro c4), if_neg c19]
        rw [e] at k1
        exact k1 (by omega) _ _ _ _ _ _ _ _ hW hR3 (hR2)
      · refine wv_callV (n := 2) (As := [_, _]) (pc := 19) d_Yt_giveOut_19 s_Yt_111 q_St_hookOfGuest ⟨by decide, by decide⟩ (hW.st hi) rfl rfl rfl rfl (Nat.le_of_ble_eq_true rfl) (Nat.le_of_ble_eq_true rfl) ?_
        refine sp_St_hookOfGuest hE hB hW hi hJ hn2 hR ry rp (fun _ => ?_) (fun q => absurd q c19)
        refine ⟨_, rfl, ?_⟩
        skip
        refine st_N3 (pc := 22) d_Yt_giveOut_22 (by decide) ?_
        refine wp_aload_nN (pc := 23) d_Yt_giveOut_23 rfl ?_
        refine wp_ifnonnullN (pc := 24) d_Yt_giveOut_24 ?_
        refine wp_iconst (pc := 27) d_Yt_giveOut_27 ?_
        refine zp_ireturn (pc := 28) d_Yt_giveOut_28 rfl ?_
        have e : c_gv F y p = -1 := by
          unfold c_gv
          by_cases q : 0 ≤ y ∧ y ≤ 19
          · rw [if_neg (not_not_intro q), if_pos (by omega)]
          · rw [if_pos q]
        rw [e] at k0
        exact k0 (by omega)
    · refine wp_iconst (pc := 11) d_Yt_giveOut_11 ?_
      refine zp_ireturn (pc := 12) d_Yt_giveOut_12 rfl ?_
      have e : c_gv F y p = -1 := by
        unfold c_gv
        by_cases q : 0 ≤ y ∧ y ≤ 19
        · rw [if_neg (not_not_intro q), if_pos (by omega)]
        · rw [if_pos q]
      rw [e] at k0
      exact k0 (by omega)
set_option maxRecDepth 100000 in
theorem sp_Yt_move (hE : gOk E) (hB : gB E ≤ B) (hW : CN B S h0 X ((b, nw, sz, ln, tc), ch, tg, cp) 0 h (F, t, A, N, V)) (n0 : 0 ≤ nw ∧ nw < 4) (z0 : 0 ≤ sz ∧ sz ≤ 4) {nv : Int} (hJ : J nv F) (hn : nv ≤ 80000000) (hR : RI F t N V) (hGA : ∀ q : Nat, q < 6 → 0 ≤ xR (X q) 5 ∧ xR (X q) 5 ≤ (xN (X q) : Int)) {x y : Int} (rx : gR x) (ry : gR y) (k0 : c_mv F x y < 0 → Q (some (.int (zI (c_mv F x y)))) h) (k1 : ¬ c_mv F x y < 0 → ∀ (g : gH) (A3 : Nat → Nat) (N3 : Nat) (V3 : Nat → Int → Int) (t2 : Int → Int) (A2 : Nat → Nat) (N2 : Nat) (V2 : Nat → Int → Int), CN B S h0 (upX X (2 + ((nw + 1) % 4).toNat) (F, t, A3, N3, V3)) ((b, (nw + 1) % 4, if 4 < sz + 1 then 4 else sz + 1, ln, tc), ch, tg, cp) 0 g (dmU F (hkT F x) y, t2, A2, N2, V2) → RI F t N3 V3 → RI (dmU F (hkT F x) y) t2 N2 V2 → Q (some (.int (zI (c_mv F x y)))) g) : Wp E m_Yt_move 0 (gEnt m_Yt_move [.ref B, .int (zI x), .int (zI y)]) [] h Q := by
  have hi : (0 : Nat) < 6 := by decide
  have hn2 : nv ≤ 100000000 := by omega
  have hV := hJ.vd
  have hN := hW.aN hi
  have hG := hR.1
  have hT := hR.rT hN.2
  have hL := hR.rL
  have hs := hV.1
  have hb := sA_b B hi
  obtain ⟨p1, p2, p3⟩ := plc_f hJ x
  show Wp E m_Yt_move 0 [some (_), some (_), some (_), none, none, none] [] _ _
  refine wp_aload_n (pc := 0) d_Yt_move_0 rfl ?_
  refine wp_getfield (pc := 1) d_Yt_move_1 f_Yt_10 hW.yt2 rfl ?_
  refine wp_iload_n (pc := 4) d_Yt_move_4 rfl ?_
  refine wv_callV (n := 1) (As := [_]) (pc := 5) d_Yt_move_5 s_Yt_100 q_St_placeOf ⟨by decide, by decide⟩ (hW.st hi) rfl rfl rfl rfl (Nat.le_of_ble_eq_true rfl) (Nat.le_of_ble_eq_true rfl) ?_
  refine sp_St_placeOf hE hB hW hi hJ hn2 hR rx ?_
  refine ⟨_, rfl, ?_⟩
  refine st_i3 (pc := 8) d_Yt_move_8 (by decide) ?_
  refine wp_aload_n (pc := 9) d_Yt_move_9 rfl ?_
  refine wp_getfield (pc := 10) d_Yt_move_10 f_Yt_10 hW.yt2 rfl ?_
  refine wp_iload_n (pc := 13) d_Yt_move_13 rfl ?_
  rcases Decidable.em (isHk F (plc F x)) with c14 | c14
  · refine wv_callV (n := 1) (As := [_]) (pc := 14) d_Yt_move_14 s_Yt_72 q_St_hookAt ⟨by decide, by decide⟩ (hW.st hi) rfl rfl rfl rfl (Nat.le_of_ble_eq_true rfl) (Nat.le_of_ble_eq_true rfl) ?_
    refine sp_St_hookAt hE hB hW hi hV p3 (fun q => absurd c14 q) (fun _ => ?_)
    refine ⟨_, rfl, ?_⟩
    have hn0 : noT F x = 0 := Decidable.byContradiction fun q => by have := p1 q; omega
    have htg := hJ.tag hn0
    have hpe := (p2 hn0).1
    rw [hpe]
    have hhk := (p2 hn0).2.2.2
    have hdb := duF_b hV htg.2.2.1 htg.2.2.2.1
    have hkf := hV.2.2.2.1 (hkT F x) htg.2.2.1 htg.2.2.2.1
    refine st_a4 (pc := 17) d_Yt_move_17 (by decide) ?_
    refine wp_aload (pc := 19) d_Yt_move_19 rfl ?_
    refine wp_ifnonnull (tgt := 26) (pc := 21) d_Yt_move_21 (by decide) ?_
    refine wp_aload_n (pc := 26) d_Yt_move_26 rfl ?_
    refine wp_getfield (pc := 27) d_Yt_move_27 f_Yt_10 hW.yt2 rfl ?_
    refine wp_iload_n (pc := 30) d_Yt_move_30 rfl ?_
    rcases Decidable.em (isHk F y) with c31 | c31
    · refine wv_callV (n := 1) (As := [_]) (pc := 31) d_Yt_move_31 s_Yt_72 q_St_hookAt ⟨by decide, by decide⟩ (hW.st hi) rfl rfl rfl rfl (Nat.le_of_ble_eq_true rfl) (Nat.le_of_ble_eq_true rfl) ?_
      refine sp_St_hookAt hE hB hW hi hV ry (fun q => absurd c31 q) (fun _ => ?_)
      refine ⟨_, rfl, ?_⟩
      have hl := hL y (by omega) (by omega)
      have hky := hV.2.2.2.1 y (by omega) (by omega)
      have hhb := hdl_b hV (x := y) (by omega) (by omega)
      refine st_a5 (pc := 34) d_Yt_move_34 (by decide) ?_
      refine wp_aload (pc := 36) d_Yt_move_36 rfl ?_
      refine wp_ifnonnull (tgt := 43) (pc := 38) d_Yt_move_38 (by decide) ?_
      refine wp_aload_n (pc := 43) d_Yt_move_43 rfl ?_
      refine wp_getfield (pc := 44) d_Yt_move_44 f_Yt_10 hW.yt2 rfl ?_
      refine wp_aload (pc := 47) d_Yt_move_47 rfl ?_
      refine wp_aload (pc := 49) d_Yt_move_49 rfl ?_
      refine wp_getfield (pc := 51) d_Yt_move_51 f_Yt_115 (hW.hk hi (by omega) (by omega)) rfl ?_
      refine wv_callV (n := 2) (As := [_, _]) (pc := 54) d_Yt_move_54 s_Yt_118 q_St_isFree ⟨by decide, by decide⟩ (hW.st hi) rfl rfl rfl rfl (Nat.le_of_ble_eq_true rfl) (Nat.le_of_ble_eq_true rfl) ?_
      refine sp_St_isFree hE hB hW hi hV hT (by omega) (by omega) ⟨by omega, by omega⟩ ?_
      refine ⟨_, rfl, ?_⟩
      refine zp_ifb_ne (tgt := 63) (pc := 57) d_Yt_move_57 (by decide) (fun c57 => ?_) (fun c57 => ?_)
      · refine wp_aload_n (pc := 63) d_Yt_move_63 rfl ?_
        refine wp_getfield (pc := 64) d_Yt_move_64 f_Yt_26 hW.yt2 rfl ?_
        refine wp_aload_n (pc := 67) d_Yt_move_67 rfl ?_
        refine wp_getfield (pc := 68) d_Yt_move_68 f_Yt_10 hW.yt2 rfl ?_
        refine wn_callV (n := 1) (As := [_]) (pc := 71) d_Yt_move_71 s_Yt_49 q_Hi_record ⟨by decide, by decide⟩ hW.hy2 rfl rfl rfl rfl (Nat.le_of_ble_eq_true rfl) (Nat.le_of_ble_eq_true rfl) ?_
        refine sp_Hi_record hE hB hW n0 z0 hV hR hGA (fun g A3 N3 V3 hW hR3 => ?_)
        refine ⟨rfl, ?_⟩
        refine wp_aload_n (pc := 74) d_Yt_move_74 rfl ?_
        refine wp_getfield (pc := 75) d_Yt_move_75 f_Yt_10 hW.yt2 rfl ?_
        refine wp_aload (pc := 78) d_Yt_move_78 rfl ?_
        refine wp_aload (pc := 80) d_Yt_move_80 rfl ?_
        have hnh := hl.mp c57.2.2.2.1
        have hne : hkT F x ≠ y := fun q => hnh (by rw [← q]; exact htg.2.2.2.2.1)
        refine wv_callV (n := 2) (As := [_, _]) (pc := 82) d_Yt_move_82 s_Yt_122 q_St_carry ⟨by decide, by decide⟩ (hW.st hi) rfl rfl rfl rfl (Nat.le_of_ble_eq_true rfl) (Nat.le_of_ble_eq_true rfl) ?_
        refine sp_St_carry2 hE hB hW hi hJ hn2 hR (by omega) (by omega) (by omega) (by omega) hne htg.2.2.2.2.1 (by omega) c57.2.2.2.2 (fun g t2 A2 N2 V2 hW hR2 => ?_)
        refine ⟨_, rfl, ?_⟩
        refine zp_ireturn (pc := 85) d_Yt_move_85 rfl ?_
        have htb := tb_b (x := hdl F y) (by omega) (by omega)
        have e : c_mv F x y = tb (hdl F y) := by
          unfold c_mv
          rw [if_neg (not_not_intro hn0), if_neg (not_not_intro c31), if_neg (not_not_intro ⟨c31, hnh, c57.2.2.2.2, c57.2.1, c57.2.2.1⟩)]
        rw [e] at k1
        exact k1 (by omega) _ _ _ _ _ _ _ _ hW hR3 (hR2)
      · refine zp_bipush (pc := 60) d_Yt_move_60 (by decide) ?_
        refine zp_ireturn (pc := 62) d_Yt_move_62 rfl ?_
        have e : c_mv F x y = -4 := by
          unfold c_mv
          rw [if_neg (not_not_intro hn0), if_neg (not_not_intro c31), if_pos fun q => c57 ⟨q.1.2.2.1, q.2.2.2.1, q.2.2.2.2, hl.mpr q.2.1, q.2.2.1⟩]
        rw [e] at k0
        exact k0 (by omega)
    · refine wv_callV (n := 1) (As := [_]) (pc := 31) d_Yt_move_31 s_Yt_72 q_St_hookAt ⟨by decide, by decide⟩ (hW.st hi) rfl rfl rfl rfl (Nat.le_of_ble_eq_true rfl) (Nat.le_of_ble_eq_true rfl) ?_
      refine sp_St_hookAt hE hB hW hi hV ry (fun _ => ?_) (fun q => absurd q c31)
      refine ⟨_, rfl, ?_⟩
      skip
      refine st_N5 (pc := 34) d_Yt_move_34 (by decide) ?_
      refine wp_aloadN (pc := 36) d_Yt_move_36 rfl ?_
      refine wp_ifnonnullN (pc := 38) d_Yt_move_38 ?_
      refine wp_iconst (pc := 41) d_Yt_move_41 ?_
      refine zp_ireturn (pc := 42) d_Yt_move_42 rfl ?_
      have e : c_mv F x y = -1 := by
        unfold c_mv
        rw [if_neg (not_not_intro hn0), if_pos c31]
      rw [e] at k0
      exact k0 (by omega)
  · refine wv_callV (n := 1) (As := [_]) (pc := 14) d_Yt_move_14 s_Yt_72 q_St_hookAt ⟨by decide, by decide⟩ (hW.st hi) rfl rfl rfl rfl (Nat.le_of_ble_eq_true rfl) (Nat.le_of_ble_eq_true rfl) ?_
    refine sp_St_hookAt hE hB hW hi hV p3 (fun _ => ?_) (fun q => absurd q c14)
    refine ⟨_, rfl, ?_⟩
    have hn0 : ¬ noT F x = 0 := fun q => c14 (by rw [(p2 q).1]; exact (p2 q).2.2.2)
    have hpe := p1 hn0
    rw [hpe.1]
    refine st_N4 (pc := 17) d_Yt_move_17 (by decide) ?_
    refine wp_aloadN (pc := 19) d_Yt_move_19 rfl ?_
    refine wp_ifnonnullN (pc := 21) d_Yt_move_21 ?_
    refine wp_iload_n (pc := 24) d_Yt_move_24 rfl ?_
    refine zp_ireturn (pc := 25) d_Yt_move_25 rfl ?_
    have e : c_mv F x y = noT F x := by
      exact if_pos hn0
    rw [e] at k0
    exact k0 (by omega)
end S63
