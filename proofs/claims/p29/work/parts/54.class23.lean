/-! ===== the class: answers of racks and hooks ===== -/
section S54
variable {E : gE} {B S : Nat} {h0 h : gH} {X : Nat → SC} {T : TC} {i : Nat} {Y : SC} {F t : Int → Int} {A : Nat → Nat} {N : Nat} {V : Nat → Int → Int} {Q : Option Value → gH → Prop}
theorem c_rk_v {F : Int → Int} {r : Int} (h : 0 ≤ r ∧ r ≤ F 1 - 1) : c_rk F r 0 = F (14 + 3 * r + 0) ∧ c_rk F r 1 = F (14 + 3 * r + 1) ∧ c_rk F r 2 = F (14 + 3 * r + 2) ∧ c_rk F r 3 = sC F r ∧ c_rk F r 4 = sm (fun y => F (29 + 8 * (12 * r + y) + 5)) 12 ∧ c_rk F r 5 = sm (fun y => F (29 + 8 * (12 * r + y) + 0)) 12 := by
  unfold c_rk
  refine ⟨?_, ?_, ?_, ?_, ?_, ?_⟩ <;> (rw [if_neg (not_not_intro h)]; rfl)
theorem c_rk_n {F : Int → Int} {r w : Int} (h : ¬ (0 ≤ r ∧ r < F 1)) : c_rk F r w = -1 := if_pos (by omega)
theorem c_rk_d {F : Int → Int} {r w : Int} (h : 0 ≤ r ∧ r ≤ F 1 - 1) (hw : ¬ (0 ≤ w ∧ w ≤ 5)) : c_rk F r w = -2 := by
  unfold c_rk
  rw [if_neg (not_not_intro h), if_neg (by omega), if_neg (by omega), if_neg (by omega), if_neg (by omega), if_neg (by omega), if_neg (by omega)]
set_option maxRecDepth 100000 in
theorem sp_Yt_rack (hE : gOk E) (hB : gB E ≤ B) (hW : CN B S h0 X T 0 h (F, t, A, N, V)) {nv : Int} (hJ : J nv F) (hn : nv ≤ 100000000) (hR : RI F t N V) {x w : Int} (rx : gR x) (rw_ : gR w) (k : Q (some (.int (zI (c_rk F x w)))) h) : Wp E m_Yt_rack 0 (gEnt m_Yt_rack [.ref B, .int (zI x), .int (zI w)]) [] h Q := by
  have hi : (0 : Nat) < 6 := by decide
  have hV := hJ.vd
  have hN := hW.aN hi
  have hG := hR.1
  have hT := hR.rT hN.2
  have hL := hR.rL
  have hs := hV.1
  show Wp E m_Yt_rack 0 [some (_), some (_), some (_), none] [] _ _
  refine wp_aload_n (pc := 0) d_Yt_rack_0 rfl ?_
  refine wp_getfield (pc := 1) d_Yt_rack_1 f_Yt_10 hW.yt rfl ?_
  refine wp_iload_n (pc := 4) d_Yt_rack_4 rfl ?_
  rcases Decidable.em (0 ≤ x ∧ x < F 1) with c5 | c5
  · refine wv_callV (n := 1) (As := [_]) (pc := 5) d_Yt_rack_5 s_Yt_57 q_St_rackAt ⟨by decide, by decide⟩ (hW.st hi) rfl rfl rfl rfl (Nat.le_of_ble_eq_true rfl) (Nat.le_of_ble_eq_true rfl) ?_
    refine sp_St_rackAt hE hB hW hi hV rx (fun q => absurd c5 q) (fun _ => ?_)
    refine ⟨_, rfl, ?_⟩
    have hr := hV.2.2.1 x (by omega) (by omega)
    refine st_a3 (pc := 8) d_Yt_rack_8 (by decide) ?_
    refine wp_aload_n (pc := 9) d_Yt_rack_9 rfl ?_
    refine wp_ifnonnull (tgt := 15) (pc := 10) d_Yt_rack_10 (by decide) ?_
    refine wp_iload_n (pc := 15) d_Yt_rack_15 rfl ?_
    by_cases k16_0 : w = 0
    · rw [k16_0]
      refine zp_tableIn (x := 0) (tgt := 56) (pc := 16) d_Yt_rack_16 ⟨by decide, by decide⟩ (by decide) (by decide) rfl (by decide) ?_
      refine wp_aload_n (pc := 56) d_Yt_rack_56 rfl ?_
      refine wp_getfield (pc := 57) d_Yt_rack_57 f_Yt_180 (hW.rk hi (by omega) (by omega)) rfl ?_
      refine zp_ireturn (pc := 60) d_Yt_rack_60 rfl ?_
      rw [k16_0] at k
      refine ansI k ?_
      rw [(c_rk_v ⟨by omega, by omega⟩).1]
    by_cases k16_1 : w = 1
    · rw [k16_1]
      refine zp_tableIn (x := 1) (tgt := 61) (pc := 16) d_Yt_rack_16 ⟨by decide, by decide⟩ (by decide) (by decide) rfl (by decide) ?_
      refine wp_aload_n (pc := 61) d_Yt_rack_61 rfl ?_
      refine wp_getfield (pc := 62) d_Yt_rack_62 f_Yt_183 (hW.rk hi (by omega) (by omega)) rfl ?_
      refine zp_ireturn (pc := 65) d_Yt_rack_65 rfl ?_
      rw [k16_1] at k
      refine ansI k ?_
      rw [(c_rk_v ⟨by omega, by omega⟩).2.1]
    by_cases k16_2 : w = 2
    · rw [k16_2]
      refine zp_tableIn (x := 2) (tgt := 66) (pc := 16) d_Yt_rack_16 ⟨by decide, by decide⟩ (by decide) (by decide) rfl (by decide) ?_
      refine wp_aload_n (pc := 66) d_Yt_rack_66 rfl ?_
      refine wp_getfield (pc := 67) d_Yt_rack_67 f_Yt_61 (hW.rk hi (by omega) (by omega)) rfl ?_
      refine zp_if_eq (tgt := 77) (pc := 70) d_Yt_rack_70 (by decide) ⟨by omega, by omega⟩ (fun c70 => ?_) (fun c70 => ?_)
      · refine wp_iconst (pc := 77) d_Yt_rack_77 ?_
        refine zp_ireturn (pc := 78) d_Yt_rack_78 rfl ?_
        rw [k16_2] at k
        refine ansI k ?_
        rw [(c_rk_v ⟨by omega, by omega⟩).2.2.1]
        omega
      · refine wp_iconst (pc := 73) d_Yt_rack_73 ?_
        refine wp_goto (tgt := 78) (pc := 74) d_Yt_rack_74 (by decide) ?_
        refine zp_ireturn (pc := 78) d_Yt_rack_78 rfl ?_
        rw [k16_2] at k
        refine ansI k ?_
        rw [(c_rk_v ⟨by omega, by omega⟩).2.2.1]
        omega
    by_cases k16_3 : w = 3
    · rw [k16_3]
      refine zp_tableIn (x := 3) (tgt := 79) (pc := 16) d_Yt_rack_16 ⟨by decide, by decide⟩ (by decide) (by decide) rfl (by decide) ?_
      refine wp_aload_n (pc := 79) d_Yt_rack_79 rfl ?_
      refine wp_iconst (pc := 80) d_Yt_rack_80 ?_
      refine wv_callV (n := 1) (As := [_]) (pc := 81) d_Yt_rack_81 s_Yt_68 q_Rk_total ⟨by decide, by decide⟩ (hW.rk hi (by omega) (by omega)) rfl rfl rfl rfl (Nat.le_of_ble_eq_true rfl) (Nat.le_of_ble_eq_true rfl) ?_
      refine sp_Rk_total hE hB hW hi hV hT (by omega) (by omega) (by omega) (by omega) ?_
      refine ⟨_, rfl, ?_⟩
      refine zp_ireturn (pc := 84) d_Yt_rack_84 rfl ?_
      rw [k16_3] at k
      refine ansI k ?_
      rw [(c_rk_v ⟨by omega, by omega⟩).2.2.2.1]
      exact (tot_c hJ hR (by omega) (by omega)).symm
    by_cases k16_4 : w = 4
    · rw [k16_4]
      refine zp_tableIn (x := 4) (tgt := 85) (pc := 16) d_Yt_rack_16 ⟨by decide, by decide⟩ (by decide) (by decide) rfl (by decide) ?_
      refine wp_aload_n (pc := 85) d_Yt_rack_85 rfl ?_
      refine wp_iconst (pc := 86) d_Yt_rack_86 ?_
      refine wv_callV (n := 1) (As := [_]) (pc := 87) d_Yt_rack_87 s_Yt_68 q_Rk_total ⟨by decide, by decide⟩ (hW.rk hi (by omega) (by omega)) rfl rfl rfl rfl (Nat.le_of_ble_eq_true rfl) (Nat.le_of_ble_eq_true rfl) ?_
      refine sp_Rk_total hE hB hW hi hV hT (by omega) (by omega) (by omega) (by omega) ?_
      refine ⟨_, rfl, ?_⟩
      refine zp_ireturn (pc := 90) d_Yt_rack_90 rfl ?_
      rw [k16_4] at k
      refine ansI k ?_
      rw [(c_rk_v ⟨by omega, by omega⟩).2.2.2.2.1]
      exact (tot_r hJ hR (r := x) (w := 2) (by omega) (by omega) (by omega)).symm
    by_cases k16_5 : w = 5
    · rw [k16_5]
      refine zp_tableIn (x := 5) (tgt := 91) (pc := 16) d_Yt_rack_16 ⟨by decide, by decide⟩ (by decide) (by decide) rfl (by decide) ?_
      refine wp_aload_n (pc := 91) d_Yt_rack_91 rfl ?_
      refine wp_iconst (pc := 92) d_Yt_rack_92 ?_
      refine wv_callV (n := 1) (As := [_]) (pc := 93) d_Yt_rack_93 s_Yt_68 q_Rk_total ⟨by decide, by decide⟩ (hW.rk hi (by omega) (by omega)) rfl rfl rfl rfl (Nat.le_of_ble_eq_true rfl) (Nat.le_of_ble_eq_true rfl) ?_
      refine sp_Rk_total hE hB hW hi hV hT (by omega) (by omega) (by omega) (by omega) ?_
      refine ⟨_, rfl, ?_⟩
      refine zp_ireturn (pc := 96) d_Yt_rack_96 rfl ?_
      rw [k16_5] at k
      refine ansI k ?_
      rw [(c_rk_v ⟨by omega, by omega⟩).2.2.2.2.2]
      exact (tot_r hJ hR (r := x) (w := 0) (by omega) (by omega) (by omega)).symm
    refine zp_tableOut (tgt := 97) (pc := 16) d_Yt_rack_16 rw_ (by omega) (by decide) ?_
    refine zp_bipush (pc := 97) d_Yt_rack_97 (by decide) ?_
    refine zp_ireturn (pc := 99) d_Yt_rack_99 rfl ?_
    exact ansI k (c_rk_d ⟨by omega, by omega⟩ (by omega))
  · refine wv_callV (n := 1) (As := [_]) (pc := 5) d_Yt_rack_5 s_Yt_57 q_St_rackAt ⟨by decide, by decide⟩ (hW.st hi) rfl rfl rfl rfl (Nat.le_of_ble_eq_true rfl) (Nat.le_of_ble_eq_true rfl) ?_
    refine sp_St_rackAt hE hB hW hi hV rx (fun _ => ?_) (fun q => absurd q c5)
    refine ⟨_, rfl, ?_⟩
    skip
    refine st_N3 (pc := 8) d_Yt_rack_8 (by decide) ?_
    refine wp_aload_nN (pc := 9) d_Yt_rack_9 rfl ?_
    refine wp_ifnonnullN (pc := 10) d_Yt_rack_10 ?_
    refine wp_iconst (pc := 13) d_Yt_rack_13 ?_
    refine zp_ireturn (pc := 14) d_Yt_rack_14 rfl ?_
    exact ansI k (c_rk_n c5)
theorem c_hk_v {F : Int → Int} {x : Int} (h : isHk F x) : c_hk F x 0 = F (29 + 8 * x + 0) ∧ c_hk F x 1 = F (29 + 8 * x + 1) ∧ c_hk F x 2 = F (29 + 8 * x + 5) ∧ c_hk F x 3 = (if F (29 + 8 * x + 1) = 1 then F (29 + 8 * x + 2) else -5) ∧ c_hk F x 4 = (if F (29 + 8 * x + 1) = 1 then F (29 + 8 * x + 3) else -5) ∧ c_hk F x 5 = (if F (29 + 8 * x + 1) = 1 then F (29 + 8 * x + 4) else -5) ∧ c_hk F x 6 = (if F (29 + 8 * x + 1) = 1 then tb (hdl F x) else -5) ∧ c_hk F x 7 = F (29 + 8 * x + 6) := by
  unfold c_hk
  refine ⟨?_, ?_, ?_, ?_, ?_, ?_, ?_, ?_⟩ <;> (rw [if_neg (not_not_intro h)]; rfl)
theorem c_hk_n {F : Int → Int} {x w : Int} (h : ¬ isHk F x) : c_hk F x w = -1 := if_pos h
theorem c_hk_d {F : Int → Int} {x w : Int} (h : isHk F x) (hw : ¬ (0 ≤ w ∧ w ≤ 7)) : c_hk F x w = -2 := by
  unfold c_hk
  rw [if_neg (not_not_intro h), if_neg (by omega), if_neg (by omega), if_neg (by omega), if_neg (by omega), if_neg (by omega), if_neg (by omega), if_neg (by omega), if_neg (by omega)]
set_option maxRecDepth 100000 in
theorem sp_Yt_hook (hE : gOk E) (hB : gB E ≤ B) (hW : CN B S h0 X T 0 h (F, t, A, N, V)) {nv : Int} (hJ : J nv F) (hn : nv ≤ 100000000) (hR : RI F t N V) {x w : Int} (rx : gR x) (rw_ : gR w) (k : Q (some (.int (zI (c_hk F x w)))) h) : Wp E m_Yt_hook 0 (gEnt m_Yt_hook [.ref B, .int (zI x), .int (zI w)]) [] h Q := by
  have hi : (0 : Nat) < 6 := by decide
  have hV := hJ.vd
  have hN := hW.aN hi
  have hG := hR.1
  have hT := hR.rT hN.2
  have hL := hR.rL
  have hs := hV.1
  show Wp E m_Yt_hook 0 [some (_), some (_), some (_), none] [] _ _
  refine wp_aload_n (pc := 0) d_Yt_hook_0 rfl ?_
  refine wp_getfield (pc := 1) d_Yt_hook_1 f_Yt_10 hW.yt rfl ?_
  refine wp_iload_n (pc := 4) d_Yt_hook_4 rfl ?_
  rcases Decidable.em (isHk F x) with c5 | c5
  · refine wv_callV (n := 1) (As := [_]) (pc := 5) d_Yt_hook_5 s_Yt_72 q_St_hookAt ⟨by decide, by decide⟩ (hW.st hi) rfl rfl rfl rfl (Nat.le_of_ble_eq_true rfl) (Nat.le_of_ble_eq_true rfl) ?_
    refine sp_St_hookAt hE hB hW hi hV rx (fun q => absurd c5 q) (fun _ => ?_)
    refine ⟨_, rfl, ?_⟩
    have hk := hV.2.2.2.1 x (by omega) (by omega)
    have hho := hR.hold hJ (n := x) (by omega) (by omega)
    have hhb := hdl_b hV (x := x) (by omega) (by omega)
    refine st_a3 (pc := 8) d_Yt_hook_8 (by decide) ?_
    refine wp_aload_n (pc := 9) d_Yt_hook_9 rfl ?_
    refine wp_ifnonnull (tgt := 15) (pc := 10) d_Yt_hook_10 (by decide) ?_
    refine wp_iload_n (pc := 15) d_Yt_hook_15 rfl ?_
    by_cases k16_0 : w = 0
    · rw [k16_0]
      refine zp_tableIn (x := 0) (tgt := 64) (pc := 16) d_Yt_hook_16 ⟨by decide, by decide⟩ (by decide) (by decide) rfl (by decide) ?_
      refine wp_aload_n (pc := 64) d_Yt_hook_64 rfl ?_
      refine wp_iconst (pc := 65) d_Yt_hook_65 ?_
      refine wv_callV (n := 1) (As := [_]) (pc := 66) d_Yt_hook_66 s_Yt_184 q_Ho_tell ⟨by decide, by decide⟩ (hW.hk hi (by omega) (by omega)) rfl rfl rfl rfl (Nat.le_of_ble_eq_true rfl) (Nat.le_of_ble_eq_true rfl) ?_
      refine sp_Ho_tell hE hB hW hi hV hT (by omega) (by omega) (by omega) (by omega) ?_
      refine ⟨_, rfl, ?_⟩
      refine zp_ireturn (pc := 69) d_Yt_hook_69 rfl ?_
      rw [k16_0] at k
      refine ansI k ?_
      rw [(c_hk_v c5).1]
      rfl
    by_cases k16_1 : w = 1
    · rw [k16_1]
      refine zp_tableIn (x := 1) (tgt := 70) (pc := 16) d_Yt_hook_16 ⟨by decide, by decide⟩ (by decide) (by decide) rfl (by decide) ?_
      refine wp_aload_n (pc := 70) d_Yt_hook_70 rfl ?_
      refine wp_iconst (pc := 71) d_Yt_hook_71 ?_
      refine wv_callV (n := 1) (As := [_]) (pc := 72) d_Yt_hook_72 s_Yt_184 q_Ho_tell ⟨by decide, by decide⟩ (hW.hk hi (by omega) (by omega)) rfl rfl rfl rfl (Nat.le_of_ble_eq_true rfl) (Nat.le_of_ble_eq_true rfl) ?_
      refine sp_Ho_tell hE hB hW hi hV hT (by omega) (by omega) (by omega) (by omega) ?_
      refine ⟨_, rfl, ?_⟩
      refine zp_ireturn (pc := 75) d_Yt_hook_75 rfl ?_
      rw [k16_1] at k
      refine ansI k ?_
      rw [(c_hk_v c5).2.1]
      exact (tv_1 hJ hR (by omega) (by omega)).symm
    by_cases k16_2 : w = 2
    · rw [k16_2]
      refine zp_tableIn (x := 2) (tgt := 76) (pc := 16) d_Yt_hook_16 ⟨by decide, by decide⟩ (by decide) (by decide) rfl (by decide) ?_
      refine wp_aload_n (pc := 76) d_Yt_hook_76 rfl ?_
      refine wp_iconst (pc := 77) d_Yt_hook_77 ?_
      refine wv_callV (n := 1) (As := [_]) (pc := 78) d_Yt_hook_78 s_Yt_184 q_Ho_tell ⟨by decide, by decide⟩ (hW.hk hi (by omega) (by omega)) rfl rfl rfl rfl (Nat.le_of_ble_eq_true rfl) (Nat.le_of_ble_eq_true rfl) ?_
      refine sp_Ho_tell hE hB hW hi hV hT (by omega) (by omega) (by omega) (by omega) ?_
      refine ⟨_, rfl, ?_⟩
      refine zp_ireturn (pc := 81) d_Yt_hook_81 rfl ?_
      rw [k16_2] at k
      refine ansI k ?_
      rw [(c_hk_v c5).2.2.1]
      rfl
    by_cases k16_3 : w = 3
    · rw [k16_3]
      refine zp_tableIn (x := 3) (tgt := 82) (pc := 16) d_Yt_hook_16 ⟨by decide, by decide⟩ (by decide) (by decide) rfl (by decide) ?_
      refine wp_aload_n (pc := 82) d_Yt_hook_82 rfl ?_
      refine wv_callV (n := 0) (As := []) (pc := 83) d_Yt_hook_83 s_Yt_187 q_Ho_holdsCoat ⟨by decide, by decide⟩ (hW.hk hi (by omega) (by omega)) rfl rfl rfl rfl (Nat.le_of_ble_eq_true rfl) (Nat.le_of_ble_eq_true rfl) ?_
      refine sp_Ho_holdsCoat hE hB hW hi (by omega) (by omega) (hT x (by omega) (by omega)) ?_
      refine ⟨_, rfl, ?_⟩
      refine zp_ifb_eq (tgt := 106) (pc := 86) d_Yt_hook_86 (by decide) (fun c86 => ?_) (fun c86 => ?_)
      · refine zp_bipush (pc := 106) d_Yt_hook_106 (by decide) ?_
        refine zp_ireturn (pc := 108) d_Yt_hook_108 rfl ?_
        rw [k16_3] at k
        refine ansI k ?_
        rw [(c_hk_v c5).2.2.2.1]
        exact if_neg fun q => c86 (hho.2 q).2
      · refine wp_aload_n (pc := 89) d_Yt_hook_89 rfl ?_
        refine wp_getfield (pc := 90) d_Yt_hook_90 f_Yt_10 hW.yt rfl ?_
        refine wp_getfield (pc := 93) d_Yt_hook_93 f_Yt_134 (hW.st hi) rfl ?_
        refine wp_aload_n (pc := 96) d_Yt_hook_96 rfl ?_
        refine wp_getfield (pc := 97) d_Yt_hook_97 f_Yt_190 (hW.hk hi (by omega) (by omega)) rfl ?_
        have ho := hR.ow hJ (n := x) (by omega) (by omega) (hho.1 ⟨c5, c86⟩)
        refine wv_callV (n := 1) (As := [_]) (pc := 100) d_Yt_hook_100 s_Yt_193 q_Ha_ownerOf ⟨by decide, by decide⟩ (hW.ha hi) rfl rfl rfl rfl (Nat.le_of_ble_eq_true rfl) (Nat.le_of_ble_eq_true rfl) ?_
        refine sp_Ha_ownerOf hE hB hW hi hR ho.1.1 ho.1.2 ?_
        refine ⟨_, rfl, ?_⟩
        refine wp_goto (tgt := 108) (pc := 103) d_Yt_hook_103 (by decide) ?_
        refine zp_ireturn (pc := 108) d_Yt_hook_108 rfl ?_
        rw [k16_3] at k
        refine ansI k ?_
        rw [(c_hk_v c5).2.2.2.1]
        rw [if_pos (hho.1 ⟨c5, c86⟩)]
        exact ho.2.2.1.symm
    by_cases k16_4 : w = 4
    · rw [k16_4]
      refine zp_tableIn (x := 4) (tgt := 109) (pc := 16) d_Yt_hook_16 ⟨by decide, by decide⟩ (by decide) (by decide) rfl (by decide) ?_
      refine wp_aload_n (pc := 109) d_Yt_hook_109 rfl ?_
      refine wv_callV (n := 0) (As := []) (pc := 110) d_Yt_hook_110 s_Yt_187 q_Ho_holdsCoat ⟨by decide, by decide⟩ (hW.hk hi (by omega) (by omega)) rfl rfl rfl rfl (Nat.le_of_ble_eq_true rfl) (Nat.le_of_ble_eq_true rfl) ?_
      refine sp_Ho_holdsCoat hE hB hW hi (by omega) (by omega) (hT x (by omega) (by omega)) ?_
      refine ⟨_, rfl, ?_⟩
      refine zp_ifb_eq (tgt := 123) (pc := 113) d_Yt_hook_113 (by decide) (fun c113 => ?_) (fun c113 => ?_)
      · refine zp_bipush (pc := 123) d_Yt_hook_123 (by decide) ?_
        refine zp_ireturn (pc := 125) d_Yt_hook_125 rfl ?_
        rw [k16_4] at k
        refine ansI k ?_
        rw [(c_hk_v c5).2.2.2.2.1]
        exact if_neg fun q => c113 (hho.2 q).2
      · refine wp_aload_n (pc := 116) d_Yt_hook_116 rfl ?_
        refine wp_getfield (pc := 117) d_Yt_hook_117 f_Yt_115 (hW.hk hi (by omega) (by omega)) rfl ?_
        refine wp_goto (tgt := 125) (pc := 120) d_Yt_hook_120 (by decide) ?_
        refine zp_ireturn (pc := 125) d_Yt_hook_125 rfl ?_
        rw [k16_4] at k
        refine ansI k ?_
        rw [(c_hk_v c5).2.2.2.2.1]
        exact if_pos (hho.1 ⟨c5, c113⟩)
    by_cases k16_5 : w = 5
    · rw [k16_5]
      refine zp_tableIn (x := 5) (tgt := 126) (pc := 16) d_Yt_hook_16 ⟨by decide, by decide⟩ (by decide) (by decide) rfl (by decide) ?_
      refine wp_aload_n (pc := 126) d_Yt_hook_126 rfl ?_
      refine wv_callV (n := 0) (As := []) (pc := 127) d_Yt_hook_127 s_Yt_187 q_Ho_holdsCoat ⟨by decide, by decide⟩ (hW.hk hi (by omega) (by omega)) rfl rfl rfl rfl (Nat.le_of_ble_eq_true rfl) (Nat.le_of_ble_eq_true rfl) ?_
      refine sp_Ho_holdsCoat hE hB hW hi (by omega) (by omega) (hT x (by omega) (by omega)) ?_
      refine ⟨_, rfl, ?_⟩
      refine zp_ifb_eq (tgt := 140) (pc := 130) d_Yt_hook_130 (by decide) (fun c130 => ?_) (fun c130 => ?_)
      · refine zp_bipush (pc := 140) d_Yt_hook_140 (by decide) ?_
        refine zp_ireturn (pc := 142) d_Yt_hook_142 rfl ?_
        rw [k16_5] at k
        refine ansI k ?_
        rw [(c_hk_v c5).2.2.2.2.2.1]
        exact if_neg fun q => c130 (hho.2 q).2
      · refine wp_aload_n (pc := 133) d_Yt_hook_133 rfl ?_
        refine wp_getfield (pc := 134) d_Yt_hook_134 f_Yt_196 (hW.hk hi (by omega) (by omega)) rfl ?_
        refine wp_goto (tgt := 142) (pc := 137) d_Yt_hook_137 (by decide) ?_
        refine zp_ireturn (pc := 142) d_Yt_hook_142 rfl ?_
        rw [k16_5] at k
        refine ansI k ?_
        rw [(c_hk_v c5).2.2.2.2.2.1]
        exact if_pos (hho.1 ⟨c5, c130⟩)
    by_cases k16_6 : w = 6
    · rw [k16_6]
      refine zp_tableIn (x := 6) (tgt := 143) (pc := 16) d_Yt_hook_16 ⟨by decide, by decide⟩ (by decide) (by decide) rfl (by decide) ?_
      refine wp_aload_n (pc := 143) d_Yt_hook_143 rfl ?_
      refine wv_callV (n := 0) (As := []) (pc := 144) d_Yt_hook_144 s_Yt_187 q_Ho_holdsCoat ⟨by decide, by decide⟩ (hW.hk hi (by omega) (by omega)) rfl rfl rfl rfl (Nat.le_of_ble_eq_true rfl) (Nat.le_of_ble_eq_true rfl) ?_
      refine sp_Ho_holdsCoat hE hB hW hi (by omega) (by omega) (hT x (by omega) (by omega)) ?_
      refine ⟨_, rfl, ?_⟩
      refine zp_ifb_eq (tgt := 160) (pc := 147) d_Yt_hook_147 (by decide) (fun c147 => ?_) (fun c147 => ?_)
      · refine zp_bipush (pc := 160) d_Yt_hook_160 (by decide) ?_
        refine zp_ireturn (pc := 162) d_Yt_hook_162 rfl ?_
        rw [k16_6] at k
        refine ansI k ?_
        rw [(c_hk_v c5).2.2.2.2.2.2.1]
        exact if_neg fun q => c147 (hho.2 q).2
      · refine wp_aload_n (pc := 150) d_Yt_hook_150 rfl ?_
        refine wv_callV (n := 0) (As := []) (pc := 151) d_Yt_hook_151 s_Yt_199 q_Ho_handle ⟨by decide, by decide⟩ (hW.hk hi (by omega) (by omega)) rfl rfl rfl rfl (Nat.le_of_ble_eq_true rfl) (Nat.le_of_ble_eq_true rfl) ?_
        refine sp_Ho_handle hE hB hW hi (by omega) (by omega) ?_
        refine ⟨_, rfl, ?_⟩
        refine wv_callS (n := 1) (As := [_]) (pc := 154) d_Yt_hook_154 s_Yt_202 q_Yt_tagWithCheck ⟨by decide, by decide⟩ rfl rfl rfl (Nat.le_of_ble_eq_true rfl) (Nat.le_of_ble_eq_true rfl) ?_
        refine sp_Yt_tagWithCheck (by omega) (by omega) ?_
        refine ⟨_, rfl, ?_⟩
        refine wp_goto (tgt := 162) (pc := 157) d_Yt_hook_157 (by decide) ?_
        refine zp_ireturn (pc := 162) d_Yt_hook_162 rfl ?_
        rw [k16_6] at k
        refine ansI k ?_
        rw [(c_hk_v c5).2.2.2.2.2.2.1]
        exact if_pos (hho.1 ⟨c5, c147⟩)
    by_cases k16_7 : w = 7
    · rw [k16_7]
      refine zp_tableIn (x := 7) (tgt := 163) (pc := 16) d_Yt_hook_16 ⟨by decide, by decide⟩ (by decide) (by decide) rfl (by decide) ?_
      refine wp_aload_n (pc := 163) d_Yt_hook_163 rfl ?_
      refine wp_getfield (pc := 164) d_Yt_hook_164 f_Yt_205 (hW.hk hi (by omega) (by omega)) rfl ?_
      refine zp_ireturn (pc := 167) d_Yt_hook_167 rfl ?_
      rw [k16_7] at k
      refine ansI k ?_
      rw [(c_hk_v c5).2.2.2.2.2.2.2]
    refine zp_tableOut (tgt := 168) (pc := 16) d_Yt_hook_16 rw_ (by omega) (by decide) ?_
    refine zp_bipush (pc := 168) d_Yt_hook_168 (by decide) ?_
    refine zp_ireturn (pc := 170) d_Yt_hook_170 rfl ?_
    exact ansI k (c_hk_d c5 (by omega))
  · refine wv_callV (n := 1) (As := [_]) (pc := 5) d_Yt_hook_5 s_Yt_72 q_St_hookAt ⟨by decide, by decide⟩ (hW.st hi) rfl rfl rfl rfl (Nat.le_of_ble_eq_true rfl) (Nat.le_of_ble_eq_true rfl) ?_
    refine sp_St_hookAt hE hB hW hi hV rx (fun _ => ?_) (fun q => absurd q c5)
    refine ⟨_, rfl, ?_⟩
    skip
    refine st_N3 (pc := 8) d_Yt_hook_8 (by decide) ?_
    refine wp_aload_nN (pc := 9) d_Yt_hook_9 rfl ?_
    refine wp_ifnonnullN (pc := 10) d_Yt_hook_10 ?_
    refine wp_iconst (pc := 13) d_Yt_hook_13 ?_
    refine zp_ireturn (pc := 14) d_Yt_hook_14 rfl ?_
    exact ansI k (c_hk_n c5)
end S54
