/-! ===== the class: racks emptied, ways shortened, days ===== -/
section S64
variable {E : gE} {B S : Nat} {h0 h : gH} {X : Nat → SC} {T : TC} {i : Nat} {Y : SC} {F t : Int → Int} {A : Nat → Nat} {N : Nat} {V : Nat → Int → Int} {Q : Option Value → gH → Prop}
variable {b nw sz ln tc : Int} {ch tg cp : Int → Int}
theorem mvS_0 {nv : Int} {a b : Int} (hJ : J nv F) (ha : 0 ≤ a ∧ a < 5) (hb : 0 ≤ b ∧ b < 5) (hab : a ≠ b) (h : sC F a = 0) : (mvS F a b 12).1 = 1 := by
  have hp := sm_pos (f := fun y => F (29 + 8 * (12 * a + y) + 1)) (m := 12) fun k hk => (hJ.vd.2.2.2.1 (12 * a + k) (by omega) (by omega)).2.1.1
  refine (mvS_at hJ ha hb hab 12 (by omega)).2.2.mpr ⟨fun y hy hh => ?_, ?_⟩
  · have := hp.2.mpr ⟨y, hy, by show 0 < F (29 + 8 * (12 * a + (y : Int)) + 1); omega⟩
    unfold sC at h
    omega
  · have := nU_b (F := F) (b := b)
    show sC F a ≤ _
    omega
theorem gw_sh (F : Int → Int) : gw F 6000 < 2 ↔ nSh F 6000 = 0 := by
  obtain ⟨g0, g1, g2⟩ := gw_max F 6000
  have hp := sm_pos (f := fun z => bI (1 < wy F z)) (m := 6000) fun k _ => (bI_b _).1
  rw [nSh_sm]
  constructor
  · intro h
    refine Decidable.byContradiction fun q => ?_
    obtain ⟨k, hk, hf⟩ := hp.2.mp (by omega)
    have h1 := g1 k hk
    have hf : 0 < bI (1 < wy F (k : Int)) := hf
    rw [bI_f (by omega)] at hf
    omega
  · intro h
    refine Decidable.byContradiction fun q => ?_
    rcases g2 with z | ⟨k, hk, z⟩
    · omega
    · have := hp.2.mpr ⟨k, hk, by show 0 < bI (1 < wy F (k : Int)); rw [bI_t (by omega)]; omega⟩
      omega
set_option maxRecDepth 100000 in
theorem sp_Yt_moveAll (hE : gOk E) (hB : gB E ≤ B) (hW : CN B S h0 X ((b, nw, sz, ln, tc), ch, tg, cp) 0 h (F, t, A, N, V)) (n0 : 0 ≤ nw ∧ nw < 4) (z0 : 0 ≤ sz ∧ sz ≤ 4) {nv : Int} (hJ : J nv F) (hn : nv ≤ 80000000) (hR : RI F t N V) (hGA : ∀ q : Nat, q < 6 → 0 ≤ xR (X q) 5 ∧ xR (X q) 5 ≤ (xN (X q) : Int)) {x y : Int} (rx : gR x) (ry : gR y) (k0 : c_ma F x y < 0 → Q (some (.int (zI (c_ma F x y)))) h) (k1 : ¬ c_ma F x y < 0 → ∀ (g : gH) (A3 : Nat → Nat) (N3 : Nat) (V3 : Nat → Int → Int) (t2 : Int → Int) (A2 : Nat → Nat) (N2 : Nat) (V2 : Nat → Int → Int), CN B S h0 (upX X (2 + ((nw + 1) % 4).toNat) (F, t, A3, N3, V3)) ((b, (nw + 1) % 4, if 4 < sz + 1 then 4 else sz + 1, ln, tc), ch, tg, cp) 0 g (u_ma F x y, t2, A2, N2, V2) → RI F t N3 V3 → RI (u_ma F x y) t2 N2 V2 → Q (some (.int (zI (c_ma F x y)))) g) : Wp E m_Yt_moveAll 0 (gEnt m_Yt_moveAll [.ref B, .int (zI x), .int (zI y)]) [] h Q := by
  have hi : (0 : Nat) < 6 := by decide
  have hn2 : nv ≤ 100000000 := by omega
  have hV := hJ.vd
  have hN := hW.aN hi
  have hG := hR.1
  have hT := hR.rT hN.2
  have hL := hR.rL
  have hs := hV.1
  have hb := sA_b B hi
  show Wp E m_Yt_moveAll 0 [some (_), some (_), some (_), none, none] [] _ _
  refine wp_aload_n (pc := 0) d_Yt_moveAll_0 rfl ?_
  refine wp_getfield (pc := 1) d_Yt_moveAll_1 f_Yt_10 hW.yt2 rfl ?_
  refine wp_iload_n (pc := 4) d_Yt_moveAll_4 rfl ?_
  rcases Decidable.em (0 ≤ x ∧ x < F 1) with c5 | c5
  · refine wv_callV (n := 1) (As := [_]) (pc := 5) d_Yt_moveAll_5 s_Yt_57 q_St_rackAt ⟨by decide, by decide⟩ (hW.st hi) rfl rfl rfl rfl (Nat.le_of_ble_eq_true rfl) (Nat.le_of_ble_eq_true rfl) ?_
    refine sp_St_rackAt hE hB hW hi hV rx (fun q => absurd c5 q) (fun _ => ?_)
    refine ⟨_, rfl, ?_⟩
    refine st_a3 (pc := 8) d_Yt_moveAll_8 (by decide) ?_
    refine wp_aload_n (pc := 9) d_Yt_moveAll_9 rfl ?_
    refine wp_getfield (pc := 10) d_Yt_moveAll_10 f_Yt_10 hW.yt2 rfl ?_
    refine wp_iload_n (pc := 13) d_Yt_moveAll_13 rfl ?_
    rcases Decidable.em (0 ≤ y ∧ y < F 1) with c14 | c14
    · refine wv_callV (n := 1) (As := [_]) (pc := 14) d_Yt_moveAll_14 s_Yt_57 q_St_rackAt ⟨by decide, by decide⟩ (hW.st hi) rfl rfl rfl rfl (Nat.le_of_ble_eq_true rfl) (Nat.le_of_ble_eq_true rfl) ?_
      refine sp_St_rackAt hE hB hW hi hV ry (fun q => absurd c14 q) (fun _ => ?_)
      refine ⟨_, rfl, ?_⟩
      refine st_a4 (pc := 17) d_Yt_moveAll_17 (by decide) ?_
      refine wp_aload_n (pc := 19) d_Yt_moveAll_19 rfl ?_
      refine wp_ifnull (pc := 20) d_Yt_moveAll_20 ?_
      refine wp_aload (pc := 23) d_Yt_moveAll_23 rfl ?_
      refine wp_ifnonnull (tgt := 30) (pc := 25) d_Yt_moveAll_25 (by decide) ?_
      refine wp_iload_n (pc := 30) d_Yt_moveAll_30 rfl ?_
      refine wp_iload_n (pc := 31) d_Yt_moveAll_31 rfl ?_
      refine zp_icmp_ne (tgt := 38) (pc := 32) d_Yt_moveAll_32 (by decide) rx ry (fun c32 => ?_) (fun c32 => ?_)
      · refine wp_aload (pc := 38) d_Yt_moveAll_38 rfl ?_
        refine wp_aload_n (pc := 40) d_Yt_moveAll_40 rfl ?_
        refine wv_callV (n := 1) (As := [_]) (pc := 41) d_Yt_moveAll_41 s_Yt_126 q_Rk_hasRoomForAllOf ⟨by decide, by decide⟩ (hW.rk hi (by omega) (by omega)) rfl rfl rfl rfl (Nat.le_of_ble_eq_true rfl) (Nat.le_of_ble_eq_true rfl) ?_
        refine sp_Rk_hasRoomForAllOf hE hB hW hi hJ hn2 hR (by omega) (by omega) (by omega) (by omega) c32 ?_
        refine ⟨_, rfl, ?_⟩
        refine zp_ifb_ne (tgt := 50) (pc := 44) d_Yt_moveAll_44 (by decide) (fun c44 => ?_) (fun c44 => ?_)
        · refine wp_aload_n (pc := 50) d_Yt_moveAll_50 rfl ?_
          refine wp_iconst (pc := 51) d_Yt_moveAll_51 ?_
          refine wv_callV (n := 1) (As := [_]) (pc := 52) d_Yt_moveAll_52 s_Yt_68 q_Rk_total ⟨by decide, by decide⟩ (hW.rk hi (by omega) (by omega)) rfl rfl rfl rfl (Nat.le_of_ble_eq_true rfl) (Nat.le_of_ble_eq_true rfl) ?_
          refine sp_Rk_total hE hB hW hi hV hT (by omega) (by omega) (by omega) (by omega) ?_
          refine ⟨_, rfl, ?_⟩
          rw [tot_c hJ hR (by omega) (by omega)]
          have hsb := sC_b hV (a := x) (by omega) (by omega)
          refine zp_if_ne (tgt := 61) (pc := 55) d_Yt_moveAll_55 (by decide) ⟨by omega, by omega⟩ (fun c55 => ?_) (fun c55 => ?_)
          · refine wp_aload_n (pc := 61) d_Yt_moveAll_61 rfl ?_
            refine wp_getfield (pc := 62) d_Yt_moveAll_62 f_Yt_26 hW.yt2 rfl ?_
            refine wp_aload_n (pc := 65) d_Yt_moveAll_65 rfl ?_
            refine wp_getfield (pc := 66) d_Yt_moveAll_66 f_Yt_10 hW.yt2 rfl ?_
            refine wn_callV (n := 1) (As := [_]) (pc := 69) d_Yt_moveAll_69 s_Yt_49 q_Hi_record ⟨by decide, by decide⟩ hW.hy2 rfl rfl rfl rfl (Nat.le_of_ble_eq_true rfl) (Nat.le_of_ble_eq_true rfl) ?_
            refine sp_Hi_record hE hB hW n0 z0 hV hR hGA (fun g A3 N3 V3 hW hR3 => ?_)
            refine ⟨rfl, ?_⟩
            refine wp_aload_n (pc := 72) d_Yt_moveAll_72 rfl ?_
            refine wp_getfield (pc := 73) d_Yt_moveAll_73 f_Yt_10 hW.yt2 rfl ?_
            refine wp_aload_n (pc := 76) d_Yt_moveAll_76 rfl ?_
            refine wp_aload (pc := 77) d_Yt_moveAll_77 rfl ?_
            refine wv_callV (n := 2) (As := [_, _]) (pc := 79) d_Yt_moveAll_79 s_Yt_130 q_St_carryAll ⟨by decide, by decide⟩ (hW.st hi) rfl rfl rfl rfl (Nat.le_of_ble_eq_true rfl) (Nat.le_of_ble_eq_true rfl) ?_
            refine sp_St_carryAll hE hB hW hi hJ (by omega) hR (by omega) (by omega) (by omega) (by omega) c32 c44 (fun g t2 A2 N2 V2 hW hR2 => ?_)
            refine ⟨_, rfl, ?_⟩
            refine zp_ireturn (pc := 82) d_Yt_moveAll_82 rfl ?_
            have e : c_ma F x y = sC F x := by
              unfold c_ma
              have q0 : 0 ≤ x ∧ x ≤ F 1 - 1 := by omega
              have q1 : 0 ≤ y ∧ y ≤ F 1 - 1 := by omega
              rw [if_neg (not_not_intro q0), if_neg (not_not_intro q1), if_neg c32, if_neg c55, if_pos c44]
            rw [e] at k1
            exact k1 (by omega) _ _ _ _ _ _ _ _ hW hR3 (hR2)
          · refine zp_bipush (pc := 58) d_Yt_moveAll_58 (by decide) ?_
            refine zp_ireturn (pc := 60) d_Yt_moveAll_60 rfl ?_
            have e : c_ma F x y = -5 := by
              unfold c_ma
              have q0 : 0 ≤ x ∧ x ≤ F 1 - 1 := by omega
              have q1 : 0 ≤ y ∧ y ≤ F 1 - 1 := by omega
              rw [if_neg (not_not_intro q0), if_neg (not_not_intro q1), if_neg c32, if_pos c55]
            rw [e] at k0
            exact k0 (by omega)
        · refine zp_bipush (pc := 47) d_Yt_moveAll_47 (by decide) ?_
          refine zp_ireturn (pc := 49) d_Yt_moveAll_49 rfl ?_
          have e : c_ma F x y = -4 := by
            unfold c_ma
            have q0 : 0 ≤ x ∧ x ≤ F 1 - 1 := by omega
            have q1 : 0 ≤ y ∧ y ≤ F 1 - 1 := by omega
            rw [if_neg (not_not_intro q0), if_neg (not_not_intro q1), if_neg c32, if_neg (fun q => c44 (mvS_0 hJ ⟨by omega, by omega⟩ ⟨by omega, by omega⟩ c32 q)), if_neg c44]
          rw [e] at k0
          exact k0 (by omega)
      · refine zp_bipush (pc := 35) d_Yt_moveAll_35 (by decide) ?_
        refine zp_ireturn (pc := 37) d_Yt_moveAll_37 rfl ?_
        have e : c_ma F x y = -2 := by
          unfold c_ma
          have q0 : 0 ≤ x ∧ x ≤ F 1 - 1 := by omega
          have q1 : 0 ≤ y ∧ y ≤ F 1 - 1 := by omega
          rw [if_neg (not_not_intro q0), if_neg (not_not_intro q1), if_pos c32]
        rw [e] at k0
        exact k0 (by omega)
    · refine wv_callV (n := 1) (As := [_]) (pc := 14) d_Yt_moveAll_14 s_Yt_57 q_St_rackAt ⟨by decide, by decide⟩ (hW.st hi) rfl rfl rfl rfl (Nat.le_of_ble_eq_true rfl) (Nat.le_of_ble_eq_true rfl) ?_
      refine sp_St_rackAt hE hB hW hi hV ry (fun _ => ?_) (fun q => absurd q c14)
      refine ⟨_, rfl, ?_⟩
      refine st_N4 (pc := 17) d_Yt_moveAll_17 (by decide) ?_
      refine wp_aload_n (pc := 19) d_Yt_moveAll_19 rfl ?_
      refine wp_ifnull (pc := 20) d_Yt_moveAll_20 ?_
      refine wp_aloadN (pc := 23) d_Yt_moveAll_23 rfl ?_
      refine wp_ifnonnullN (pc := 25) d_Yt_moveAll_25 ?_
      refine wp_iconst (pc := 28) d_Yt_moveAll_28 ?_
      refine zp_ireturn (pc := 29) d_Yt_moveAll_29 rfl ?_
      have e : c_ma F x y = -1 := by
        unfold c_ma
        by_cases q : 0 ≤ x ∧ x ≤ F 1 - 1
        · rw [if_neg (not_not_intro q), if_pos (by omega)]
        · rw [if_pos q]
      rw [e] at k0
      exact k0 (by omega)
  · refine wv_callV (n := 1) (As := [_]) (pc := 5) d_Yt_moveAll_5 s_Yt_57 q_St_rackAt ⟨by decide, by decide⟩ (hW.st hi) rfl rfl rfl rfl (Nat.le_of_ble_eq_true rfl) (Nat.le_of_ble_eq_true rfl) ?_
    refine sp_St_rackAt hE hB hW hi hV rx (fun _ => ?_) (fun q => absurd q c5)
    refine ⟨_, rfl, ?_⟩
    refine st_N3 (pc := 8) d_Yt_moveAll_8 (by decide) ?_
    refine wp_aload_n (pc := 9) d_Yt_moveAll_9 rfl ?_
    refine wp_getfield (pc := 10) d_Yt_moveAll_10 f_Yt_10 hW.yt2 rfl ?_
    refine wp_iload_n (pc := 13) d_Yt_moveAll_13 rfl ?_
    rcases Decidable.em (0 ≤ y ∧ y < F 1) with c14 | c14
    · refine wv_callV (n := 1) (As := [_]) (pc := 14) d_Yt_moveAll_14 s_Yt_57 q_St_rackAt ⟨by decide, by decide⟩ (hW.st hi) rfl rfl rfl rfl (Nat.le_of_ble_eq_true rfl) (Nat.le_of_ble_eq_true rfl) ?_
      refine sp_St_rackAt hE hB hW hi hV ry (fun q => absurd c14 q) (fun _ => ?_)
      refine ⟨_, rfl, ?_⟩
      refine st_a4 (pc := 17) d_Yt_moveAll_17 (by decide) ?_
      refine wp_aload_nN (pc := 19) d_Yt_moveAll_19 rfl ?_
      refine wp_ifnullN (tgt := 28) (pc := 20) d_Yt_moveAll_20 (by decide) ?_
      refine wp_iconst (pc := 28) d_Yt_moveAll_28 ?_
      refine zp_ireturn (pc := 29) d_Yt_moveAll_29 rfl ?_
      have e : c_ma F x y = -1 := by
        unfold c_ma
        by_cases q : 0 ≤ x ∧ x ≤ F 1 - 1
        · rw [if_neg (not_not_intro q), if_pos (by omega)]
        · rw [if_pos q]
      rw [e] at k0
      exact k0 (by omega)
    · refine wv_callV (n := 1) (As := [_]) (pc := 14) d_Yt_moveAll_14 s_Yt_57 q_St_rackAt ⟨by decide, by decide⟩ (hW.st hi) rfl rfl rfl rfl (Nat.le_of_ble_eq_true rfl) (Nat.le_of_ble_eq_true rfl) ?_
      refine sp_St_rackAt hE hB hW hi hV ry (fun _ => ?_) (fun q => absurd q c14)
      refine ⟨_, rfl, ?_⟩
      refine st_N4 (pc := 17) d_Yt_moveAll_17 (by decide) ?_
      refine wp_aload_nN (pc := 19) d_Yt_moveAll_19 rfl ?_
      refine wp_ifnullN (tgt := 28) (pc := 20) d_Yt_moveAll_20 (by decide) ?_
      refine wp_iconst (pc := 28) d_Yt_moveAll_28 ?_
      refine zp_ireturn (pc := 29) d_Yt_moveAll_29 rfl ?_
      have e : c_ma F x y = -1 := by
        unfold c_ma
        by_cases q : 0 ≤ x ∧ x ≤ F 1 - 1
        · rw [if_neg (not_not_intro q), if_pos (by omega)]
        · rw [if_pos q]
      rw [e] at k0
      exact k0 (by omega)
set_option maxRecDepth 100000 in
theorem sp_Yt_shorten (hE : gOk E) (hB : gB E ≤ B) (hW : CN B S h0 X ((b, nw, sz, ln, tc), ch, tg, cp) 0 h (F, t, A, N, V)) (n0 : 0 ≤ nw ∧ nw < 4) (z0 : 0 ≤ sz ∧ sz ≤ 4) {nv : Int} (hJ : J nv F) (hn : nv ≤ 80000000) (hR : RI F t N V) (hGA : ∀ q : Nat, q < 6 → 0 ≤ xR (X q) 5 ∧ xR (X q) 5 ≤ (xN (X q) : Int)) (k0 : c_sh F < 0 → ∀ (g : gH) (V2 : Nat → Int → Int), CN B S h0 X ((b, nw, sz, ln, tc), ch, tg, cp) 0 g (F, t, A, N, V2) → RI F t N V2 → Q (some (.int (zI (c_sh F)))) g) (k1 : ¬ c_sh F < 0 → ∀ (g : gH) (A3 : Nat → Nat) (N3 : Nat) (V3 : Nat → Int → Int) (t2 : Int → Int) (A2 : Nat → Nat) (N2 : Nat) (V2 : Nat → Int → Int), CN B S h0 (upX X (2 + ((nw + 1) % 4).toNat) (F, t, A3, N3, V3)) ((b, (nw + 1) % 4, if 4 < sz + 1 then 4 else sz + 1, ln, tc), ch, tg, cp) 0 g (shF F 6000, t2, A2, N2, V2) → RI F t N3 V3 → RI (shF F 6000) t2 N2 V2 → Q (some (.int (zI (c_sh F)))) g) : Wp E m_Yt_shorten 0 (gEnt m_Yt_shorten [.ref B]) [] h Q := by
  have hi : (0 : Nat) < 6 := by decide
  have hn2 : nv ≤ 100000000 := by omega
  have hV := hJ.vd
  have hN := hW.aN hi
  have hG := hR.1
  have hT := hR.rT hN.2
  have hL := hR.rL
  have hs := hV.1
  have hb := sA_b B hi
  have hA := hJ.ac
  show Wp E m_Yt_shorten 0 [some (_)] [] _ _
  refine wp_aload_n (pc := 0) d_Yt_shorten_0 rfl ?_
  refine wp_getfield (pc := 1) d_Yt_shorten_1 f_Yt_10 hW.yt2 rfl ?_
  refine wp_getfield (pc := 4) d_Yt_shorten_4 f_Yt_134 (hW.st hi) rfl ?_
  refine wv_callV (n := 0) (As := []) (pc := 7) d_Yt_shorten_7 s_Yt_138 q_Ha_greatestWay ⟨by decide, by decide⟩ (hW.ha hi) rfl rfl rfl rfl (Nat.le_of_ble_eq_true rfl) (Nat.le_of_ble_eq_true rfl) ?_
  refine sp_Ha_greatestWay hE hB hW hi hJ hn2 hR (fun g V2 hW hv => ?_)
  refine ⟨_, rfl, ?_⟩
  have hR := hR.way hv
  have hgs := gw_sh F
  have hgb := gw_b hV hA 6000 (by omega)
  have hnb := nSh_b F 6000
  refine wp_iconst (pc := 10) d_Yt_shorten_10 ?_
  refine zp_icmp_ge (tgt := 17) (pc := 11) d_Yt_shorten_11 (by decide) ⟨by omega, by omega⟩ ⟨by omega, by omega⟩ (fun c11 => ?_) (fun c11 => ?_)
  · refine wp_aload_n (pc := 17) d_Yt_shorten_17 rfl ?_
    refine wp_getfield (pc := 18) d_Yt_shorten_18 f_Yt_26 hW.yt2 rfl ?_
    refine wp_aload_n (pc := 21) d_Yt_shorten_21 rfl ?_
    refine wp_getfield (pc := 22) d_Yt_shorten_22 f_Yt_10 hW.yt2 rfl ?_
    refine wn_callV (n := 1) (As := [_]) (pc := 25) d_Yt_shorten_25 s_Yt_49 q_Hi_record ⟨by decide, by decide⟩ hW.hy2 rfl rfl rfl rfl (Nat.le_of_ble_eq_true rfl) (Nat.le_of_ble_eq_true rfl) ?_
    refine sp_Hi_record hE hB hW n0 z0 hV hR hGA (fun g A3 N3 V3 hW hR3 => ?_)
    refine ⟨rfl, ?_⟩
    refine wp_aload_n (pc := 28) d_Yt_shorten_28 rfl ?_
    refine wp_getfield (pc := 29) d_Yt_shorten_29 f_Yt_10 hW.yt2 rfl ?_
    refine wp_getfield (pc := 32) d_Yt_shorten_32 f_Yt_134 (hW.st hi) rfl ?_
    refine wv_callV (n := 0) (As := []) (pc := 35) d_Yt_shorten_35 s_Yt_144 q_Ha_shortenWays ⟨by decide, by decide⟩ (hW.ha hi) rfl rfl rfl rfl (Nat.le_of_ble_eq_true rfl) (Nat.le_of_ble_eq_true rfl) ?_
    refine sp_Ha_shortenWays hE hB hW hi hJ hR (fun g V2 hW hR2 => ?_)
    refine ⟨_, rfl, ?_⟩
    refine zp_ireturn (pc := 38) d_Yt_shorten_38 rfl ?_
    have e : c_sh F = nSh F 6000 := by
      exact if_neg (by omega)
    rw [e] at k1
    exact k1 (by omega) _ _ _ _ _ _ _ _ hW hR3 (hR2)
  · refine zp_bipush (pc := 14) d_Yt_shorten_14 (by decide) ?_
    refine zp_ireturn (pc := 16) d_Yt_shorten_16 rfl ?_
    have e : c_sh F = -5 := if_pos (by omega)
    rw [e] at k0
    exact k0 (by omega) _ _ hW hR
set_option maxRecDepth 100000 in
theorem lp_Yt_pass (hE : gOk E) (hB : gB E ≤ B) {nv : Int} (hJ : J nv F) (hn : nv ≤ 80000000) {m : Int} (m0 : 1 ≤ m) (m1 : m ≤ 60) (hd : F 0 + m ≤ 9999) (k : ∀ (g : gH) (t2 : Int → Int) (V2 : Nat → Int → Int), CN B S h0 X ((b, nw, sz, ln, tc), ch, tg, cp) 0 g ((psS F m.toNat).2, t2, A, N, V2) → RI (psS F m.toNat).2 t2 N V2 → Q (some (.int (zI (psS F m.toNat).1))) g) :
    ∀ (d x : Nat) (h : gH) (t : Int → Int) (V : Nat → Int → Int), x + d = m.toNat → CN B S h0 X ((b, nw, sz, ln, tc), ch, tg, cp) 0 h ((psS F x).2, t, A, N, V) → RI (psS F x).2 t N V → Wp E m_Yt_pass 47 [some (.ref B), some (.int (zI m)), some (.int (zI (psS F x).1)), some (.int (zI x))] [] h Q := by
  intro d
  induction d with
  | zero =>
    intro x h t V hx hW hR
    have hi : (0 : Nat) < 6 := by decide
    obtain rfl : x = m.toNat := by omega
    refine wp_iload_n (pc := 47) d_Yt_pass_47 rfl ?_
    refine wp_iload_n (pc := 48) d_Yt_pass_48 rfl ?_
    refine zp_icmp_ge (tgt := 68) (pc := 49) d_Yt_pass_49 (by decide) ⟨by omega, by omega⟩ ⟨by omega, by omega⟩ (fun c49 => ?_) (fun c49 => absurd c49 (by omega))
    refine wp_iload_n (pc := 68) d_Yt_pass_68 rfl ?_
    refine zp_ireturn (pc := 69) d_Yt_pass_69 rfl ?_
    exact k _ _ _ hW hR
  | succ d ih =>
    intro x h t V hx hW hR
    have hi : (0 : Nat) < 6 := by decide
    obtain ⟨hJp, hP0, hP1, hP2⟩ := hJ.ps x (by omega)
    have es := psS_s F x
    generalize psS F x = P at hW hR hJp hP0 hP1 hP2 es ⊢
    refine wp_iload_n (pc := 47) d_Yt_pass_47 rfl ?_
    refine wp_iload_n (pc := 48) d_Yt_pass_48 rfl ?_
    refine zp_icmp_ge (tgt := 68) (pc := 49) d_Yt_pass_49 (by decide) ⟨by omega, by omega⟩ ⟨by omega, by omega⟩ (fun c49 => absurd c49 (by omega)) (fun c49 => ?_)
    refine wp_iload_n (pc := 52) d_Yt_pass_52 rfl ?_
    refine wp_aload_n (pc := 53) d_Yt_pass_53 rfl ?_
    refine wp_getfield (pc := 54) d_Yt_pass_54 f_Yt_10 hW.yt2 rfl ?_
    refine wv_callV (n := 0) (As := []) (pc := 57) d_Yt_pass_57 s_Yt_150 q_St_passOneDay ⟨by decide, by decide⟩ (hW.st hi) rfl rfl rfl rfl (Nat.le_of_ble_eq_true rfl) (Nat.le_of_ble_eq_true rfl) ?_
    refine sp_St_passOneDay hE hB hW hi hJp (by omega) hR (by omega) (fun g t V hW hR => ?_)
    refine ⟨_, rfl, ?_⟩
    refine zp_iadd (pc := 60) d_Yt_pass_60 ?_
    refine st_i2 (pc := 61) d_Yt_pass_61 (by decide) ?_
    refine st_c3 (pc := 62) d_Yt_pass_62 (by decide) ?_
    refine wp_goto (tgt := 47) (pc := 65) d_Yt_pass_65 (by decide) ?_
    have e : ((x + 1 : Nat) : Int) = (x : Int) + 1 := by omega
    have zz := ih (x + 1) _ _ _ (by omega) (by rw [es]; exact hW) (by rw [es]; exact hR)
    rw [e, es] at zz
    exact zz
set_option maxRecDepth 100000 in
theorem sp_Yt_pass (hE : gOk E) (hB : gB E ≤ B) (hW : CN B S h0 X ((b, nw, sz, ln, tc), ch, tg, cp) 0 h (F, t, A, N, V)) (n0 : 0 ≤ nw ∧ nw < 4) (z0 : 0 ≤ sz ∧ sz ≤ 4) {nv : Int} (hJ : J nv F) (hn : nv ≤ 80000000) (hR : RI F t N V) (hGA : ∀ q : Nat, q < 6 → 0 ≤ xR (X q) 5 ∧ xR (X q) 5 ≤ (xN (X q) : Int)) {m : Int} (rm : gR m) (k0 : c_ps F m < 0 → Q (some (.int (zI (c_ps F m)))) h) (k1 : ¬ c_ps F m < 0 → ∀ (g : gH) (A3 : Nat → Nat) (N3 : Nat) (V3 : Nat → Int → Int) (t2 : Int → Int) (A2 : Nat → Nat) (N2 : Nat) (V2 : Nat → Int → Int), CN B S h0 (upX X (2 + ((nw + 1) % 4).toNat) (F, t, A3, N3, V3)) ((b, (nw + 1) % 4, if 4 < sz + 1 then 4 else sz + 1, ln, tc), ch, tg, cp) 0 g (u_ps F m, t2, A2, N2, V2) → RI F t N3 V3 → RI (u_ps F m) t2 N2 V2 → Q (some (.int (zI (c_ps F m)))) g) : Wp E m_Yt_pass 0 (gEnt m_Yt_pass [.ref B, .int (zI m)]) [] h Q := by
  have hi : (0 : Nat) < 6 := by decide
  have hn2 : nv ≤ 100000000 := by omega
  have hV := hJ.vd
  have hN := hW.aN hi
  have hG := hR.1
  have hT := hR.rT hN.2
  have hL := hR.rL
  have hs := hV.1
  have hb := sA_b B hi
  show Wp E m_Yt_pass 0 [some (_), some (_), none, none] [] _ _
  refine wp_iload_n (pc := 0) d_Yt_pass_0 rfl ?_
  refine wp_iconst (pc := 1) d_Yt_pass_1 ?_
  refine zp_icmp_lt (tgt := 11) (pc := 2) d_Yt_pass_2 (by decide) rm ⟨by omega, by omega⟩ (fun c2 => ?_) (fun c2 => ?_)
  · refine zp_bipush (pc := 11) d_Yt_pass_11 (by decide) ?_
    refine zp_ireturn (pc := 13) d_Yt_pass_13 rfl ?_
    have e : c_ps F m = -2 := by
      exact if_pos (by omega)
    rw [e] at k0
    exact k0 (by omega)
  · refine wp_iload_n (pc := 5) d_Yt_pass_5 rfl ?_
    refine zp_bipush (pc := 6) d_Yt_pass_6 (by decide) ?_
    refine zp_icmp_le (tgt := 14) (pc := 8) d_Yt_pass_8 (by decide) rm ⟨by omega, by omega⟩ (fun c8 => ?_) (fun c8 => ?_)
    · refine wp_aload_n (pc := 14) d_Yt_pass_14 rfl ?_
      refine wp_getfield (pc := 15) d_Yt_pass_15 f_Yt_10 hW.yt2 rfl ?_
      refine wp_getfield (pc := 18) d_Yt_pass_18 f_Yt_147 (hW.st hi) rfl ?_
      refine wp_iload_n (pc := 21) d_Yt_pass_21 rfl ?_
      refine zp_iadd (pc := 22) d_Yt_pass_22 ?_
      refine zp_sipush (pc := 23) d_Yt_pass_23 (by decide) ?_
      refine zp_icmp_le (tgt := 32) (pc := 26) d_Yt_pass_26 (by decide) ⟨by omega, by omega⟩ ⟨by omega, by omega⟩ (fun c26 => ?_) (fun c26 => ?_)
      · refine wp_aload_n (pc := 32) d_Yt_pass_32 rfl ?_
        refine wp_getfield (pc := 33) d_Yt_pass_33 f_Yt_26 hW.yt2 rfl ?_
        refine wp_aload_n (pc := 36) d_Yt_pass_36 rfl ?_
        refine wp_getfield (pc := 37) d_Yt_pass_37 f_Yt_10 hW.yt2 rfl ?_
        refine wn_callV (n := 1) (As := [_]) (pc := 40) d_Yt_pass_40 s_Yt_49 q_Hi_record ⟨by decide, by decide⟩ hW.hy2 rfl rfl rfl rfl (Nat.le_of_ble_eq_true rfl) (Nat.le_of_ble_eq_true rfl) ?_
        refine sp_Hi_record hE hB hW n0 z0 hV hR hGA (fun g A3 N3 V3 hW hR3 => ?_)
        refine ⟨rfl, ?_⟩
        refine wp_iconst (pc := 43) d_Yt_pass_43 ?_
        refine st_i2 (pc := 44) d_Yt_pass_44 (by decide) ?_
        refine wp_iconst (pc := 45) d_Yt_pass_45 ?_
        refine st_i3 (pc := 46) d_Yt_pass_46 (by decide) ?_
        have hps := (hJ.ps m.toNat (by omega)).2.2
        have e : c_ps F m = (psS F m.toNat).1 := by
          unfold c_ps
          rw [if_neg (by omega), if_neg (by omega)]
        rw [e] at k1
        exact lp_Yt_pass hE hB hJ hn (by omega) (by omega) (by omega) (fun g t2 V2 hW hR2 => k1 (by omega) _ _ _ _ _ _ _ _ hW hR3 hR2) m.toNat 0 _ t V (by omega) hW hR
      · refine zp_bipush (pc := 29) d_Yt_pass_29 (by decide) ?_
        refine zp_ireturn (pc := 31) d_Yt_pass_31 rfl ?_
        have e : c_ps F m = -4 := by
          unfold c_ps
          rw [if_neg (by omega), if_pos (by omega)]
        rw [e] at k0
        exact k0 (by omega)
    · refine zp_bipush (pc := 11) d_Yt_pass_11 (by decide) ?_
      refine zp_ireturn (pc := 13) d_Yt_pass_13 rfl ?_
      have e : c_ps F m = -2 := by
        exact if_pos (by omega)
      rw [e] at k0
      exact k0 (by omega)
end S64
