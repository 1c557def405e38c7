/-! ===== the reference: the text and its claims ===== -/
section S30
variable {E : gE} {mo : Nat} {h : gH} {F g : Int → Int} {sn kp ln : Int} {Q : Option Value → gH → Prop}
set_option maxRecDepth 100000 in
theorem lp_Md_faultOf (hE : gOk E) (hl0 : 0 ≤ ln) (hl1 : ln ≤ 60) (hg : ∀ j : Int, 0 ≤ j → j < 60 → 0 ≤ g j ∧ g j ≤ 65535) (k : Q (some (.int (zI (ft g ln)))) (MH mo h F sn kp g ln)) : ∀ (d i : Nat) (o4 : Option Value), fl g i = -1 → i + d = ln.toNat → Wp E m_Md_faultOf 6 [some (.ref mo), some (.int (zI (pS g i).1)), some (.int (zI (bI (0 < (pS g i).1 ∧ (pS g i).2.1 = 0)))), some (.int (zI i)), o4] [] (MH mo h F sn kp g ln) Q := by
  intro d
  induction d with
  | zero =>
    intro i o4 hf hi
    obtain rfl : i = ln.toNat := by omega
    have hb := pS_b hf
    refine wp_iload_n (pc := 6) d_Md_faultOf_6 rfl ?_
    refine wp_aload_n (pc := 7) d_Md_faultOf_7 rfl ?_
    refine wp_getfield (pc := 8) d_Md_faultOf_8 f_Md_140 MH_o rfl ?_
    refine zp_icmp_ge (tgt := 92) (pc := 11) d_Md_faultOf_11 (by decide) ⟨by omega, by omega⟩ ⟨by omega, by omega⟩ (fun c11 => ?_) (fun c11 => absurd c11 (by omega))
    refine wp_iload_n (pc := 92) d_Md_faultOf_92 rfl ?_
    refine zp_if_le (tgt := 100) (pc := 93) d_Md_faultOf_93 (by decide) ⟨by omega, by omega⟩ (fun c93 => ?_) (fun c93 => ?_)
    · refine wp_aload_n (pc := 100) d_Md_faultOf_100 rfl ?_
      refine wp_getfield (pc := 101) d_Md_faultOf_101 f_Md_140 MH_o rfl ?_
      refine zp_ireturn (pc := 104) d_Md_faultOf_104 rfl ?_
      have ee : ft g ln = ln := by
        unfold ft
        rw [if_neg (fun q => q hf), if_neg (by omega)]
      rw [ee] at k
      exact k
    · refine wp_iconst (pc := 96) d_Md_faultOf_96 ?_
      refine wp_goto (tgt := 104) (pc := 97) d_Md_faultOf_97 (by decide) ?_
      refine zp_ireturn (pc := 104) d_Md_faultOf_104 rfl ?_
      have ee : ft g ln = -1 := by
        unfold ft
        rw [if_neg (fun q => q hf), if_pos (by omega)]
      rw [ee] at k
      exact k
  | succ d ih =>
    intro i o4 hf hi
    have e : ((i + 1 : Nat) : Int) = (i : Int) + 1 := by omega
    have hb := pS_b hf
    have hgi := hg (i : Int) (by omega) (by omega)
    have hp0 : (pS g i).1 = 0 → p10 (pS g i).1 = 1 := fun q => by rw [q]; rfl
    refine wp_iload_n (pc := 6) d_Md_faultOf_6 rfl ?_
    refine wp_aload_n (pc := 7) d_Md_faultOf_7 rfl ?_
    refine wp_getfield (pc := 8) d_Md_faultOf_8 f_Md_140 MH_o rfl ?_
    refine zp_icmp_ge (tgt := 92) (pc := 11) d_Md_faultOf_11 (by decide) ⟨by omega, by omega⟩ ⟨by omega, by omega⟩ (fun c11 => absurd c11 (by omega)) (fun c11 => ?_)
    refine wp_aload_n (pc := 14) d_Md_faultOf_14 rfl ?_
    refine wp_getfield (pc := 15) d_Md_faultOf_15 f_Md_14 MH_o rfl ?_
    refine wp_iload_n (pc := 18) d_Md_faultOf_18 rfl ?_
    refine zp_iaload (pc := 19) d_Md_faultOf_19 hE.1 MH_t (by omega) (by omega) (by decide) ?_
    refine st_i4 (pc := 20) d_Md_faultOf_20 (by decide) ?_
    refine wp_iload (pc := 22) d_Md_faultOf_22 rfl ?_
    refine zp_bipush (pc := 24) d_Md_faultOf_24 (by decide) ?_
    refine zp_bipush (pc := 26) d_Md_faultOf_26 (by decide) ?_
    refine wv_callS (n := 3) (As := [_, _, _]) (pc := 28) d_Md_faultOf_28 s_Md_38 q_Md_in ⟨by decide, by decide⟩ rfl rfl rfl (Nat.le_of_ble_eq_true rfl) (Nat.le_of_ble_eq_true rfl) ?_
    refine sp_Md_in ⟨by omega, by omega⟩ ⟨by omega, by omega⟩ ⟨by omega, by omega⟩ ?_
    refine ⟨_, rfl, ?_⟩
    refine zp_ifb_eq (tgt := 66) (pc := 31) d_Md_faultOf_31 (by decide) (fun c31 => ?_) (fun c31 => ?_)
    · refine wp_iload (pc := 66) d_Md_faultOf_66 rfl ?_
      refine zp_bipush (pc := 68) d_Md_faultOf_68 (by decide) ?_
      refine zp_icmp_ne (tgt := 84) (pc := 70) d_Md_faultOf_70 (by decide) ⟨by omega, by omega⟩ ⟨by omega, by omega⟩ (fun c70 => ?_) (fun c70 => ?_)
      · refine wp_iload_n (pc := 84) d_Md_faultOf_84 rfl ?_
        refine zp_ireturn (pc := 85) d_Md_faultOf_85 rfl ?_
        have hno : ¬ (okD g i ∨ okC g i) := by omega
        have ee : ft g ln = i := by
          unfold ft
          rw [fl_at hf hno (m := ln.toNat) (by omega), if_pos (by omega)]
        rw [ee] at k
        exact k
      · refine wp_iload_n (pc := 73) d_Md_faultOf_73 rfl ?_
        refine zp_if_le (tgt := 84) (pc := 74) d_Md_faultOf_74 (by decide) ⟨by omega, by omega⟩ (fun c74 => ?_) (fun c74 => ?_)
        · refine wp_iload_n (pc := 84) d_Md_faultOf_84 rfl ?_
          refine zp_ireturn (pc := 85) d_Md_faultOf_85 rfl ?_
          have hno : ¬ (okD g i ∨ okC g i) := by omega
          have ee : ft g ln = i := by
            unfold ft
            rw [fl_at hf hno (m := ln.toNat) (by omega), if_pos (by omega)]
          rw [ee] at k
          exact k
        · refine wp_iconst (pc := 77) d_Md_faultOf_77 ?_
          refine st_i1 (pc := 78) d_Md_faultOf_78 (by decide) ?_
          refine wp_iconst (pc := 79) d_Md_faultOf_79 ?_
          refine st_i2 (pc := 80) d_Md_faultOf_80 (by decide) ?_
          refine wp_goto (tgt := 86) (pc := 81) d_Md_faultOf_81 (by decide) ?_
          refine st_c3 (pc := 86) d_Md_faultOf_86 (by decide) ?_
          refine wp_goto (tgt := 6) (pc := 89) d_Md_faultOf_89 (by decide) ?_
          first
          | (have hd : okD g i := (by omega); have zz := ih (i + 1) (some (.int (zI (g i)))) (fl_go hf (Or.inl hd)) (by omega); rw [e, pS_s, if_neg (by omega)] at zz; dsimp only at zz; first | (rw [bI_t (by omega)] at zz; exact zz) | (rw [bI_f (by omega)] at zz; exact zz))
          | (have hd : okC g i := (by omega); have zz := ih (i + 1) (some (.int (zI (g i)))) (fl_go hf (Or.inr hd)) (by omega); rw [e, pS_s, if_pos hd.1] at zz; dsimp only at zz; rw [bI_f (by omega)] at zz; exact zz)
    · refine wp_iload_n (pc := 34) d_Md_faultOf_34 rfl ?_
      refine wp_iconst (pc := 35) d_Md_faultOf_35 ?_
      refine zp_icmp_ge (tgt := 66) (pc := 36) d_Md_faultOf_36 (by decide) ⟨by omega, by omega⟩ ⟨by omega, by omega⟩ (fun c36 => ?_) (fun c36 => ?_)
      · refine wp_iload (pc := 66) d_Md_faultOf_66 rfl ?_
        refine zp_bipush (pc := 68) d_Md_faultOf_68 (by decide) ?_
        refine zp_icmp_ne (tgt := 84) (pc := 70) d_Md_faultOf_70 (by decide) ⟨by omega, by omega⟩ ⟨by omega, by omega⟩ (fun c70 => ?_) (fun c70 => ?_)
        · refine wp_iload_n (pc := 84) d_Md_faultOf_84 rfl ?_
          refine zp_ireturn (pc := 85) d_Md_faultOf_85 rfl ?_
          have hno : ¬ (okD g i ∨ okC g i) := by omega
          have ee : ft g ln = i := by
            unfold ft
            rw [fl_at hf hno (m := ln.toNat) (by omega), if_pos (by omega)]
          rw [ee] at k
          exact k
        · refine wp_iload_n (pc := 73) d_Md_faultOf_73 rfl ?_
          refine zp_if_le (tgt := 84) (pc := 74) d_Md_faultOf_74 (by decide) ⟨by omega, by omega⟩ (fun c74 => ?_) (fun c74 => ?_)
          · refine wp_iload_n (pc := 84) d_Md_faultOf_84 rfl ?_
            refine zp_ireturn (pc := 85) d_Md_faultOf_85 rfl ?_
            have hno : ¬ (okD g i ∨ okC g i) := by omega
            have ee : ft g ln = i := by
              unfold ft
              rw [fl_at hf hno (m := ln.toNat) (by omega), if_pos (by omega)]
            rw [ee] at k
            exact k
          · refine wp_iconst (pc := 77) d_Md_faultOf_77 ?_
            refine st_i1 (pc := 78) d_Md_faultOf_78 (by decide) ?_
            refine wp_iconst (pc := 79) d_Md_faultOf_79 ?_
            refine st_i2 (pc := 80) d_Md_faultOf_80 (by decide) ?_
            refine wp_goto (tgt := 86) (pc := 81) d_Md_faultOf_81 (by decide) ?_
            refine st_c3 (pc := 86) d_Md_faultOf_86 (by decide) ?_
            refine wp_goto (tgt := 6) (pc := 89) d_Md_faultOf_89 (by decide) ?_
            first
            | (have hd : okD g i := (by omega); have zz := ih (i + 1) (some (.int (zI (g i)))) (fl_go hf (Or.inl hd)) (by omega); rw [e, pS_s, if_neg (by omega)] at zz; dsimp only at zz; first | (rw [bI_t (by omega)] at zz; exact zz) | (rw [bI_f (by omega)] at zz; exact zz))
            | (have hd : okC g i := (by omega); have zz := ih (i + 1) (some (.int (zI (g i)))) (fl_go hf (Or.inr hd)) (by omega); rw [e, pS_s, if_pos hd.1] at zz; dsimp only at zz; rw [bI_f (by omega)] at zz; exact zz)
      · refine wp_iload_n (pc := 39) d_Md_faultOf_39 rfl ?_
        refine zp_ifb_ne (tgt := 66) (pc := 40) d_Md_faultOf_40 (by decide) (fun c40 => ?_) (fun c40 => ?_)
        · refine wp_iload (pc := 66) d_Md_faultOf_66 rfl ?_
          refine zp_bipush (pc := 68) d_Md_faultOf_68 (by decide) ?_
          refine zp_icmp_ne (tgt := 84) (pc := 70) d_Md_faultOf_70 (by decide) ⟨by omega, by omega⟩ ⟨by omega, by omega⟩ (fun c70 => ?_) (fun c70 => ?_)
          · refine wp_iload_n (pc := 84) d_Md_faultOf_84 rfl ?_
            refine zp_ireturn (pc := 85) d_Md_faultOf_85 rfl ?_
            have hno : ¬ (okD g i ∨ okC g i) := by omega
            have ee : ft g ln = i := by
              unfold ft
              rw [fl_at hf hno (m := ln.toNat) (by omega), if_pos (by omega)]
            rw [ee] at k
            exact k
          · refine wp_iload_n (pc := 73) d_Md_faultOf_73 rfl ?_
            refine zp_if_le (tgt := 84) (pc := 74) d_Md_faultOf_74 (by decide) ⟨by omega, by omega⟩ (fun c74 => ?_) (fun c74 => ?_)
            · refine wp_iload_n (pc := 84) d_Md_faultOf_84 rfl ?_
              refine zp_ireturn (pc := 85) d_Md_faultOf_85 rfl ?_
              have hno : ¬ (okD g i ∨ okC g i) := by omega
              have ee : ft g ln = i := by
                unfold ft
                rw [fl_at hf hno (m := ln.toNat) (by omega), if_pos (by omega)]
              rw [ee] at k
              exact k
            · refine wp_iconst (pc := 77) d_Md_faultOf_77 ?_
              refine st_i1 (pc := 78) d_Md_faultOf_78 (by decide) ?_
              refine wp_iconst (pc := 79) d_Md_faultOf_79 ?_
              refine st_i2 (pc := 80) d_Md_faultOf_80 (by decide) ?_
              refine wp_goto (tgt := 86) (pc := 81) d_Md_faultOf_81 (by decide) ?_
              refine st_c3 (pc := 86) d_Md_faultOf_86 (by decide) ?_
              refine wp_goto (tgt := 6) (pc := 89) d_Md_faultOf_89 (by decide) ?_
              first
              | (have hd : okD g i := (by omega); have zz := ih (i + 1) (some (.int (zI (g i)))) (fl_go hf (Or.inl hd)) (by omega); rw [e, pS_s, if_neg (by omega)] at zz; dsimp only at zz; first | (rw [bI_t (by omega)] at zz; exact zz) | (rw [bI_f (by omega)] at zz; exact zz))
              | (have hd : okC g i := (by omega); have zz := ih (i + 1) (some (.int (zI (g i)))) (fl_go hf (Or.inr hd)) (by omega); rw [e, pS_s, if_pos hd.1] at zz; dsimp only at zz; rw [bI_f (by omega)] at zz; exact zz)
        · refine wp_iload_n (pc := 43) d_Md_faultOf_43 rfl ?_
          refine zp_if_ne (tgt := 58) (pc := 44) d_Md_faultOf_44 (by decide) ⟨by omega, by omega⟩ (fun c44 => ?_) (fun c44 => ?_)
          · refine wp_iconst (pc := 58) d_Md_faultOf_58 ?_
            refine st_i2 (pc := 59) d_Md_faultOf_59 (by decide) ?_
            refine st_c1 (pc := 60) d_Md_faultOf_60 (by decide) ?_
            refine wp_goto (tgt := 86) (pc := 63) d_Md_faultOf_63 (by decide) ?_
            refine st_c3 (pc := 86) d_Md_faultOf_86 (by decide) ?_
            refine wp_goto (tgt := 6) (pc := 89) d_Md_faultOf_89 (by decide) ?_
            first
            | (have hd : okD g i := (by omega); have zz := ih (i + 1) (some (.int (zI (g i)))) (fl_go hf (Or.inl hd)) (by omega); rw [e, pS_s, if_neg (by omega)] at zz; dsimp only at zz; first | (rw [bI_t (by omega)] at zz; exact zz) | (rw [bI_f (by omega)] at zz; exact zz))
            | (have hd : okC g i := (by omega); have zz := ih (i + 1) (some (.int (zI (g i)))) (fl_go hf (Or.inr hd)) (by omega); rw [e, pS_s, if_pos hd.1] at zz; dsimp only at zz; rw [bI_f (by omega)] at zz; exact zz)
          · refine wp_iload (pc := 47) d_Md_faultOf_47 rfl ?_
            refine zp_bipush (pc := 49) d_Md_faultOf_49 (by decide) ?_
            refine zp_icmp_ne (tgt := 58) (pc := 51) d_Md_faultOf_51 (by decide) ⟨by omega, by omega⟩ ⟨by omega, by omega⟩ (fun c51 => ?_) (fun c51 => ?_)
            · refine wp_iconst (pc := 58) d_Md_faultOf_58 ?_
              refine st_i2 (pc := 59) d_Md_faultOf_59 (by decide) ?_
              refine st_c1 (pc := 60) d_Md_faultOf_60 (by decide) ?_
              refine wp_goto (tgt := 86) (pc := 63) d_Md_faultOf_63 (by decide) ?_
              refine st_c3 (pc := 86) d_Md_faultOf_86 (by decide) ?_
              refine wp_goto (tgt := 6) (pc := 89) d_Md_faultOf_89 (by decide) ?_
              first
              | (have hd : okD g i := (by omega); have zz := ih (i + 1) (some (.int (zI (g i)))) (fl_go hf (Or.inl hd)) (by omega); rw [e, pS_s, if_neg (by omega)] at zz; dsimp only at zz; first | (rw [bI_t (by omega)] at zz; exact zz) | (rw [bI_f (by omega)] at zz; exact zz))
              | (have hd : okC g i := (by omega); have zz := ih (i + 1) (some (.int (zI (g i)))) (fl_go hf (Or.inr hd)) (by omega); rw [e, pS_s, if_pos hd.1] at zz; dsimp only at zz; rw [bI_f (by omega)] at zz; exact zz)
            · refine wp_iconst (pc := 54) d_Md_faultOf_54 ?_
              refine wp_goto (tgt := 59) (pc := 55) d_Md_faultOf_55 (by decide) ?_
              refine st_i2 (pc := 59) d_Md_faultOf_59 (by decide) ?_
              refine st_c1 (pc := 60) d_Md_faultOf_60 (by decide) ?_
              refine wp_goto (tgt := 86) (pc := 63) d_Md_faultOf_63 (by decide) ?_
              refine st_c3 (pc := 86) d_Md_faultOf_86 (by decide) ?_
              refine wp_goto (tgt := 6) (pc := 89) d_Md_faultOf_89 (by decide) ?_
              first
              | (have hd : okD g i := (by omega); have zz := ih (i + 1) (some (.int (zI (g i)))) (fl_go hf (Or.inl hd)) (by omega); rw [e, pS_s, if_neg (by omega)] at zz; dsimp only at zz; first | (rw [bI_t (by omega)] at zz; exact zz) | (rw [bI_f (by omega)] at zz; exact zz))
              | (have hd : okC g i := (by omega); have zz := ih (i + 1) (some (.int (zI (g i)))) (fl_go hf (Or.inr hd)) (by omega); rw [e, pS_s, if_pos hd.1] at zz; dsimp only at zz; rw [bI_f (by omega)] at zz; exact zz)
set_option maxRecDepth 100000 in
theorem sp_Md_faultOf (hE : gOk E) (hl0 : 0 ≤ ln) (hl1 : ln ≤ 60) (hg : ∀ j : Int, 0 ≤ j → j < 60 → 0 ≤ g j ∧ g j ≤ 65535) (k : Q (some (.int (zI (ft g ln)))) (MH mo h F sn kp g ln)) : Wp E m_Md_faultOf 0 (gEnt m_Md_faultOf [.ref mo]) [] (MH mo h F sn kp g ln) Q := by
  show Wp E m_Md_faultOf 0 [some (_), none, none, none, none] [] _ _
  refine wp_iconst (pc := 0) d_Md_faultOf_0 ?_
  refine st_i1 (pc := 1) d_Md_faultOf_1 (by decide) ?_
  refine wp_iconst (pc := 2) d_Md_faultOf_2 ?_
  refine st_i2 (pc := 3) d_Md_faultOf_3 (by decide) ?_
  refine wp_iconst (pc := 4) d_Md_faultOf_4 ?_
  refine st_i3 (pc := 5) d_Md_faultOf_5 (by decide) ?_
  have zz := lp_Md_faultOf (mo := mo) (h := h) (F := F) hE hl0 hl1 hg k ln.toNat 0 none rfl (by omega)
  rw [bI_f (show ¬ (0 < (pS g 0).1 ∧ (pS g 0).2.1 = 0) from by show ¬ ((0 : Int) < 0 ∧ _); omega)] at zz
  exact zz
set_option maxRecDepth 100000 in
theorem lp_Md_claimOnZ (hE : gOk E) (hB : gB E ≤ mo) {n : Int} (hJ : J n F) (hn : n ≤ 700000000) (hl0 : 0 ≤ ln) (hl1 : ln ≤ 60) (hg : ∀ j : Int, 0 ≤ j → j < 60 → 0 ≤ g j ∧ g j ≤ 65535) (hff : fl g ln.toNat = -1) (k : Q (some (.int (zI (if ¬ (clS F (tgs g ln)).1 = 0 then (clS F (tgs g ln)).1 else (clS F (tgs g ln)).2.1)))) (MH mo h (clS F (tgs g ln)).2.2 sn kp g ln)) : ∀ (i : Nat) (o4 : Option Value), (i : Int) = ln → (clS F (pS g i).2.2).1 = 0 → Wp E m_Md_claimOn 6 [some (.ref mo), some (.int (zI (clS F (pS g i).2.2).2.1)), some (.int (zI (pS g i).2.1)), some (.int (zI i)), o4] [] (MH mo h (clS F (pS g i).2.2).2.2 sn kp g ln) Q := by
  intro i o4 hi hm
  have hB1 : gB E ≤ mo + 1 := by omega
  have e : ((i + 1 : Nat) : Int) = (i : Int) + 1 := by omega
  have hq := pS_v (fl_back hff i (by omega))
  have hI := clS_I hJ (pS g i).2.2
  have hlen := pS_len g i
  have hss := clS_s F (pS g i).2.2 (pS g i).2.1
  have hgs : tgs g ln = (pS g i).2.2 ++ [(pS g i).2.1] := by
    unfold tgs
    rw [show ln.toNat = i by omega]
  rw [hgs, hss] at k
  clear hgs hss
  generalize clS F (pS g i).2.2 = P at hI hm k ⊢
  obtain ⟨hP, hPo, hPe, hPs⟩ := hI
  have hV := hP.vd
  have hno := noT_b P.2.2 (pS g i).2.1
  refine wp_iload_n (pc := 6) d_Md_claimOn_6 rfl ?_
  refine wp_aload_n (pc := 7) d_Md_claimOn_7 rfl ?_
  refine wp_getfield (pc := 8) d_Md_claimOn_8 f_Md_140 MH_o rfl ?_
  refine zp_icmp_gt (tgt := 82) (pc := 11) d_Md_claimOn_11 (by decide) ⟨by omega, by omega⟩ ⟨by omega, by omega⟩ (fun c11 => absurd c11 (by omega)) (fun c11 => ?_)
  refine wp_iload_n (pc := 14) d_Md_claimOn_14 rfl ?_
  refine wp_aload_n (pc := 15) d_Md_claimOn_15 rfl ?_
  refine wp_getfield (pc := 16) d_Md_claimOn_16 f_Md_140 MH_o rfl ?_
  refine zp_icmp_ge (tgt := 51) (pc := 19) d_Md_claimOn_19 (by decide) ⟨by omega, by omega⟩ ⟨by omega, by omega⟩ (fun c19 => ?_) (fun c19 => absurd c19 (by omega))
  refine wp_aload_n (pc := 51) d_Md_claimOn_51 rfl ?_
  refine wp_iload_n (pc := 52) d_Md_claimOn_52 rfl ?_
  refine wv_callV (n := 1) (As := [_]) (pc := 53) d_Md_claimOn_53 s_Md_118 q_Md_noTag ⟨by decide, by decide⟩ MH_o rfl rfl rfl rfl (Nat.le_of_ble_eq_true rfl) (Nat.le_of_ble_eq_true rfl) ?_
  refine sp_Md_noTag hE hV hP.ac ⟨by omega, by omega⟩ ?_
  refine ⟨_, rfl, ?_⟩
  refine st_i4 (pc := 56) d_Md_claimOn_56 (by decide) ?_
  refine wp_iload (pc := 58) d_Md_claimOn_58 rfl ?_
  refine zp_if_eq (tgt := 66) (pc := 60) d_Md_claimOn_60 (by decide) ⟨by omega, by omega⟩ (fun c60 => ?_) (fun c60 => ?_)
  · refine wp_iload_n (pc := 66) d_Md_claimOn_66 rfl ?_
    refine wp_aload_n (pc := 67) d_Md_claimOn_67 rfl ?_
    refine wp_iload_n (pc := 68) d_Md_claimOn_68 rfl ?_
    have htg := hP.tag (t := (pS g i).2.1) (by omega)
    refine wv_callV (n := 1) (As := [_]) (pc := 69) d_Md_claimOn_69 s_Md_121 q_Md_doClaim ⟨by decide, by decide⟩ MH_o rfl rfl rfl rfl (Nat.le_of_ble_eq_true rfl) (Nat.le_of_ble_eq_true rfl) ?_
    refine sp_Md_doClaim hE hB hP.1 (by omega) hP.ac (by omega) (by omega) rfl htg.2.2.2.2.2.2.2 ?_
    refine ⟨_, rfl, ?_⟩
    refine zp_iadd (pc := 72) d_Md_claimOn_72 ?_
    refine st_i1 (pc := 73) d_Md_claimOn_73 (by decide) ?_
    refine wp_iconst (pc := 74) d_Md_claimOn_74 ?_
    refine st_i2 (pc := 75) d_Md_claimOn_75 (by decide) ?_
    refine st_c3 (pc := 76) d_Md_claimOn_76 (by decide) ?_
    refine wp_goto (tgt := 6) (pc := 79) d_Md_claimOn_79 (by decide) ?_
    refine wp_iload_n (pc := 6) d_Md_claimOn_6 rfl ?_
    refine wp_aload_n (pc := 7) d_Md_claimOn_7 rfl ?_
    refine wp_getfield (pc := 8) d_Md_claimOn_8 f_Md_140 MH_o rfl ?_
    refine zp_icmp_gt (tgt := 82) (pc := 11) d_Md_claimOn_11 (by decide) ⟨by omega, by omega⟩ ⟨by omega, by omega⟩ (fun c11 => ?_) (fun c11 => absurd c11 (by omega))
    refine wp_iload_n (pc := 82) d_Md_claimOn_82 rfl ?_
    refine zp_ireturn (pc := 83) d_Md_claimOn_83 rfl ?_
    have ec : cl1 P (pS g i).2.1 = (0, P.2.1 + duF P.2.2 (hkT P.2.2 (pS g i).2.1), u_cl P.2.2 (hkT P.2.2 (pS g i).2.1)) := by
      unfold cl1
      rw [if_neg (fun q => q hm), if_neg (fun q => q c60)]
    rw [ec] at k
    dsimp only at k
    rw [if_neg (fun q => q rfl)] at k
    exact k
  · refine wp_iload (pc := 63) d_Md_claimOn_63 rfl ?_
    refine zp_ireturn (pc := 65) d_Md_claimOn_65 rfl ?_
    have ec : cl1 P (pS g i).2.1 = (noT P.2.2 (pS g i).2.1, P.2.1, P.2.2) := by
      unfold cl1
      rw [if_neg (fun q => q hm), if_pos c60]
    rw [ec] at k
    dsimp only at k
    rw [if_pos c60] at k
    exact k
set_option maxRecDepth 100000 in
theorem lp_Md_claimOn (hE : gOk E) (hB : gB E ≤ mo) {n : Int} (hJ : J n F) (hn : n ≤ 700000000) (hl0 : 0 ≤ ln) (hl1 : ln ≤ 60) (hg : ∀ j : Int, 0 ≤ j → j < 60 → 0 ≤ g j ∧ g j ≤ 65535) (hff : fl g ln.toNat = -1) (k : Q (some (.int (zI (if ¬ (clS F (tgs g ln)).1 = 0 then (clS F (tgs g ln)).1 else (clS F (tgs g ln)).2.1)))) (MH mo h (clS F (tgs g ln)).2.2 sn kp g ln))  : ∀ (d i : Nat) (o4 : Option Value), i + d = ln.toNat → (clS F (pS g i).2.2).1 = 0 → Wp E m_Md_claimOn 6 [some (.ref mo), some (.int (zI (clS F (pS g i).2.2).2.1)), some (.int (zI (pS g i).2.1)), some (.int (zI i)), o4] [] (MH mo h (clS F (pS g i).2.2).2.2 sn kp g ln) Q := by
  intro d
  induction d with
  | zero =>
    intro i o4 hi hm
    exact lp_Md_claimOnZ hE hB hJ hn hl0 hl1 hg hff k i o4 (by omega) hm
  | succ d ih =>
    intro i o4 hi hm
    have hB1 : gB E ≤ mo + 1 := by omega
    have e : ((i + 1 : Nat) : Int) = (i : Int) + 1 := by omega
    have hq := pS_v (fl_back hff i (by omega))
    have hI := clS_I hJ (pS g i).2.2
    have hlen := pS_len g i
    have hss := clS_s F (pS g i).2.2 (pS g i).2.1
    have hgi := hg (i : Int) (by omega) (by omega)
    have hps := pS_s g i
    have ihh := fun o => ih (i + 1) o (by omega)
    have hst := clS_stop (F := F) (g := g) (ln := ln) (k := i + 1) (by omega)
    rw [hps] at ihh hst
    rw [e] at ihh
    refine wp_iload_n (pc := 6) d_Md_claimOn_6 rfl ?_
    refine wp_aload_n (pc := 7) d_Md_claimOn_7 rfl ?_
    refine wp_getfield (pc := 8) d_Md_claimOn_8 f_Md_140 MH_o rfl ?_
    refine zp_icmp_gt (tgt := 82) (pc := 11) d_Md_claimOn_11 (by decide) ⟨by omega, by omega⟩ ⟨by omega, by omega⟩ (fun c11 => absurd c11 (by omega)) (fun c11 => ?_)
    refine wp_iload_n (pc := 14) d_Md_claimOn_14 rfl ?_
    refine wp_aload_n (pc := 15) d_Md_claimOn_15 rfl ?_
    refine wp_getfield (pc := 16) d_Md_claimOn_16 f_Md_140 MH_o rfl ?_
    refine zp_icmp_ge (tgt := 51) (pc := 19) d_Md_claimOn_19 (by decide) ⟨by omega, by omega⟩ ⟨by omega, by omega⟩ (fun c19 => absurd c19 (by omega)) (fun c19 => ?_)
    refine wp_aload_n (pc := 22) d_Md_claimOn_22 rfl ?_
    refine wp_getfield (pc := 23) d_Md_claimOn_23 f_Md_14 MH_o rfl ?_
    refine wp_iload_n (pc := 26) d_Md_claimOn_26 rfl ?_
    refine zp_iaload (pc := 27) d_Md_claimOn_27 hE.1 MH_t (by omega) (by omega) (by decide) ?_
    refine zp_bipush (pc := 28) d_Md_claimOn_28 (by decide) ?_
    refine zp_icmp_eq (tgt := 51) (pc := 30) d_Md_claimOn_30 (by decide) ⟨by omega, by omega⟩ ⟨by omega, by omega⟩ (fun c30 => ?_) (fun c30 => ?_)
    · rw [if_pos c30] at ihh hst
      dsimp only at ihh hst
      rw [hss] at ihh hst
      generalize clS F (pS g i).2.2 = P at hI hm hss ihh hst ⊢
      obtain ⟨hP, hPo, hPe, hPs⟩ := hI
      have hV := hP.vd
      have hno := noT_b P.2.2 (pS g i).2.1
      refine wp_aload_n (pc := 51) d_Md_claimOn_51 rfl ?_
      refine wp_iload_n (pc := 52) d_Md_claimOn_52 rfl ?_
      refine wv_callV (n := 1) (As := [_]) (pc := 53) d_Md_claimOn_53 s_Md_118 q_Md_noTag ⟨by decide, by decide⟩ MH_o rfl rfl rfl rfl (Nat.le_of_ble_eq_true rfl) (Nat.le_of_ble_eq_true rfl) ?_
      refine sp_Md_noTag hE hV hP.ac ⟨by omega, by omega⟩ ?_
      refine ⟨_, rfl, ?_⟩
      refine st_i4 (pc := 56) d_Md_claimOn_56 (by decide) ?_
      refine wp_iload (pc := 58) d_Md_claimOn_58 rfl ?_
      refine zp_if_eq (tgt := 66) (pc := 60) d_Md_claimOn_60 (by decide) ⟨by omega, by omega⟩ (fun c60 => ?_) (fun c60 => ?_)
      · refine wp_iload_n (pc := 66) d_Md_claimOn_66 rfl ?_
        refine wp_aload_n (pc := 67) d_Md_claimOn_67 rfl ?_
        refine wp_iload_n (pc := 68) d_Md_claimOn_68 rfl ?_
        have htg := hP.tag (t := (pS g i).2.1) (by omega)
        refine wv_callV (n := 1) (As := [_]) (pc := 69) d_Md_claimOn_69 s_Md_121 q_Md_doClaim ⟨by decide, by decide⟩ MH_o rfl rfl rfl rfl (Nat.le_of_ble_eq_true rfl) (Nat.le_of_ble_eq_true rfl) ?_
        refine sp_Md_doClaim hE hB hP.1 (by omega) hP.ac (by omega) (by omega) rfl htg.2.2.2.2.2.2.2 ?_
        refine ⟨_, rfl, ?_⟩
        have ec : cl1 P (pS g i).2.1 = (0, P.2.1 + duF P.2.2 (hkT P.2.2 (pS g i).2.1), u_cl P.2.2 (hkT P.2.2 (pS g i).2.1)) := by
          unfold cl1
          rw [if_neg (fun q => q hm), if_neg (fun q => q c60)]
        rw [ec] at ihh
        dsimp only at ihh
        refine zp_iadd (pc := 72) d_Md_claimOn_72 ?_
        refine st_i1 (pc := 73) d_Md_claimOn_73 (by decide) ?_
        refine wp_iconst (pc := 74) d_Md_claimOn_74 ?_
        refine st_i2 (pc := 75) d_Md_claimOn_75 (by decide) ?_
        refine st_c3 (pc := 76) d_Md_claimOn_76 (by decide) ?_
        refine wp_goto (tgt := 6) (pc := 79) d_Md_claimOn_79 (by decide) ?_
        exact ihh _ rfl
      · refine wp_iload (pc := 63) d_Md_claimOn_63 rfl ?_
        refine zp_ireturn (pc := 65) d_Md_claimOn_65 rfl ?_
        have ec : cl1 P (pS g i).2.1 = (noT P.2.2 (pS g i).2.1, P.2.1, P.2.2) := by
          unfold cl1
          rw [if_neg (fun q => q hm), if_pos c60]
        rw [ec] at hst
        rw [hst c60] at k
        dsimp only at k
        rw [if_pos c60] at k
        exact k
    · refine zp_bipush (pc := 33) d_Md_claimOn_33 (by decide) ?_
      refine wp_iload_n (pc := 35) d_Md_claimOn_35 rfl ?_
      refine zp_imul (pc := 36) d_Md_claimOn_36 ?_
      refine wp_aload_n (pc := 37) d_Md_claimOn_37 rfl ?_
      refine wp_getfield (pc := 38) d_Md_claimOn_38 f_Md_14 MH_o rfl ?_
      refine wp_iload_n (pc := 41) d_Md_claimOn_41 rfl ?_
      refine zp_iaload (pc := 42) d_Md_claimOn_42 hE.1 MH_t (by omega) (by omega) (by decide) ?_
      refine zp_iadd (pc := 43) d_Md_claimOn_43 ?_
      refine zp_bipush (pc := 44) d_Md_claimOn_44 (by decide) ?_
      refine zp_isub (pc := 46) d_Md_claimOn_46 ?_
      refine st_i2 (pc := 47) d_Md_claimOn_47 (by decide) ?_
      refine wp_goto (tgt := 76) (pc := 48) d_Md_claimOn_48 (by decide) ?_
      refine st_c3 (pc := 76) d_Md_claimOn_76 (by decide) ?_
      refine wp_goto (tgt := 6) (pc := 79) d_Md_claimOn_79 (by decide) ?_
      rw [if_neg c30] at ihh
      dsimp only at ihh
      exact ihh _ hm
set_option maxRecDepth 100000 in
theorem sp_Md_claimOn (hE : gOk E) (hB : gB E ≤ mo) {n : Int} (hJ : J n F) (hn : n ≤ 700000000) (hl0 : 0 ≤ ln) (hl1 : ln ≤ 60) (hg : ∀ j : Int, 0 ≤ j → j < 60 → 0 ≤ g j ∧ g j ≤ 65535) (hff : fl g ln.toNat = -1) (k : Q (some (.int (zI (if ¬ (clS F (tgs g ln)).1 = 0 then (clS F (tgs g ln)).1 else (clS F (tgs g ln)).2.1)))) (MH mo h (clS F (tgs g ln)).2.2 sn kp g ln))  : Wp E m_Md_claimOn 0 (gEnt m_Md_claimOn [.ref mo]) [] (MH mo h F sn kp g ln) Q := by
  show Wp E m_Md_claimOn 0 [some (_), none, none, none, none] [] _ _
  refine wp_iconst (pc := 0) d_Md_claimOn_0 ?_
  refine st_i1 (pc := 1) d_Md_claimOn_1 (by decide) ?_
  refine wp_iconst (pc := 2) d_Md_claimOn_2 ?_
  refine st_i2 (pc := 3) d_Md_claimOn_3 (by decide) ?_
  refine wp_iconst (pc := 4) d_Md_claimOn_4 ?_
  refine st_i3 (pc := 5) d_Md_claimOn_5 (by decide) ?_
  exact lp_Md_claimOn hE hB hJ hn hl0 hl1 hg hff k ln.toNat 0 none (by omega) rfl
set_option maxRecDepth 100000 in
theorem sp_Md_claimAll (hE : gOk E) (hB : gB E ≤ mo) {n : Int} (hJ : J n F) (hn : n ≤ 600000000) (hs0 : 0 ≤ sn) (hs1 : sn ≤ 4) (hl0 : 0 ≤ ln) (hl1 : ln ≤ 60) (hg : ∀ j : Int, 0 ≤ j → j < 60 → 0 ≤ g j ∧ g j ≤ 65535) (k : ∀ F2 : Int → Int, (∀ j : Int, j < 39354 → F2 j = (if c_ca F g ln < 0 then F else u_ca (rcF F sn 0) g ln) j) → Q (some (.int (zI (c_ca F g ln)))) (MH mo h F2 (if c_ca F g ln < 0 then sn else rcS sn) kp g ln)) : Wp E m_Md_claimAll 0 (gEnt m_Md_claimAll [.ref mo]) [] (MH mo h F sn kp g ln) Q := by
  have hB1 : gB E ≤ mo + 1 := by omega
  have hV := hJ.vd
  have hs := hV.1
  have hfb := ft_b hl0 hl1 g
  show Wp E m_Md_claimAll 0 [some (_), none, none] [] _ _
  refine wp_aload_n (pc := 0) d_Md_claimAll_0 rfl ?_
  refine wv_callV (n := 0) (As := []) (pc := 1) d_Md_claimAll_1 s_Md_143 q_Md_faultOf ⟨by decide, by decide⟩ MH_o rfl rfl rfl rfl (Nat.le_of_ble_eq_true rfl) (Nat.le_of_ble_eq_true rfl) ?_
  refine sp_Md_faultOf hE hl0 hl1 hg ?_
  refine ⟨_, rfl, ?_⟩
  refine st_i1 (pc := 4) d_Md_claimAll_4 (by decide) ?_
  refine wp_iload_n (pc := 5) d_Md_claimAll_5 rfl ?_
  refine zp_if_lt (tgt := 14) (pc := 6) d_Md_claimAll_6 (by decide) ⟨by omega, by omega⟩ (fun c6 => ?_) (fun c6 => ?_)
  · have hff : fl g ln.toNat = -1 := by
      by_cases q : fl g ln.toNat = -1
      · exact q
      · have : ft g ln = fl g ln.toNat := if_pos q
        have := fl_nn g ln.toNat
        omega
    have hag := ag_ca hJ (G := cpF F 0 39354) (fun j hj => cpF_out (by omega)) (tgs g ln)
    have hIF := clS_I hJ (tgs g ln)
    have htl : (tgs g ln).length ≤ 61 := by
      unfold tgs
      rw [List.length_append]
      have := pS_len g ln.toNat
      show _ + 1 ≤ 61
      omega
    have hee : c_ca F g ln = if ¬ (clS F (tgs g ln)).1 = 0 then (clS F (tgs g ln)).1 else (clS F (tgs g ln)).2.1 := by
      unfold c_ca
      rw [if_neg (by omega)]
    refine wp_aload_n (pc := 14) d_Md_claimAll_14 rfl ?_
    refine wp_iconst (pc := 15) d_Md_claimAll_15 ?_
    refine wp_ldc (pc := 16) d_Md_claimAll_16 l_Md_130 ?_
    refine wn_callV (n := 2) (As := [_, _]) (pc := 18) d_Md_claimAll_18 s_Md_21 q_Md_copy ⟨by decide, by decide⟩ MH_o rfl rfl rfl rfl (Nat.le_of_ble_eq_true rfl) (Nat.le_of_ble_eq_true rfl) ?_
    refine sp_Md_copy (a := 0) (b := 39354) hE hB (by omega) (by omega) (by omega) (by omega) (by omega) ?_
    refine ⟨rfl, ?_⟩
    have hgo : ∀ j : Int, j < 39354 → cpF F 0 39354 j = F j := fun j hj => cpF_out (by omega)
    have hgT : ∀ j : Int, 0 ≤ j → j < 6559 → cpF F 0 39354 (39354 + j) = F j := fun j h0 h1 => by
      rw [cpF_in (by omega) (by omega)]
      congr 1
      omega
    generalize cpF F 0 39354 = G at hgo hgT hag ⊢
    have hJG : J n G := hJ.congr fun j _ hj => hgo j (by omega)
    have hIG := clS_I hJG (tgs g ln)
    have hneg := clS_neg hJG (tgs g ln)
    refine wp_aload_n (pc := 21) d_Md_claimAll_21 rfl ?_
    refine wv_callV (n := 0) (As := []) (pc := 22) d_Md_claimAll_22 s_Md_146 q_Md_claimOn ⟨by decide, by decide⟩ MH_o rfl rfl rfl rfl (Nat.le_of_ble_eq_true rfl) (Nat.le_of_ble_eq_true rfl) ?_
    refine sp_Md_claimOn hE hB hJG (by omega) hl0 hl1 hg hff ?_
    refine ⟨_, rfl, ?_⟩
    rw [hag.1, hag.2.1, ← hee]
    obtain ⟨hI1, hI2, hI3, hI4, hI5⟩ := hIF
    have hcb : -100 ≤ c_ca F g ln ∧ c_ca F g ln ≤ 200000000 := by
      rw [hee]
      split <;> omega
    refine st_i2 (pc := 25) d_Md_claimAll_25 (by decide) ?_
    refine wp_iload_n (pc := 26) d_Md_claimAll_26 rfl ?_
    refine zp_if_ge (tgt := 40) (pc := 27) d_Md_claimAll_27 (by decide) ⟨by omega, by omega⟩ (fun c27 => ?_) (fun c27 => ?_)
    · refine wp_aload_n (pc := 40) d_Md_claimAll_40 rfl ?_
      refine wp_ldc (pc := 41) d_Md_claimAll_41 l_Md_130 ?_
      refine wn_callV (n := 1) (As := [_]) (pc := 43) d_Md_claimAll_43 s_Md_34 q_Md_record ⟨by decide, by decide⟩ MH_o rfl rfl rfl rfl (Nat.le_of_ble_eq_true rfl) (Nat.le_of_ble_eq_true rfl) ?_
      refine sp_Md_record hE hB (Or.inr rfl) hs0 hs1 ?_
      refine ⟨rfl, ?_⟩
      refine wp_iload_n (pc := 46) d_Md_claimAll_46 rfl ?_
      refine zp_ireturn (pc := 47) d_Md_claimAll_47 rfl ?_
      have z := k (rcF (clS G (tgs g ln)).2.2 sn 39354) (fun j hj => by
        rw [if_neg (by omega)]
        by_cases hj2 : j < 6559
        · rw [rcF_lo hs0 hs1 hj2, hag.2.2 j hj2]
          exact ((ag_ca hJ (G := rcF F sn 0) (fun j hj => rcF_lo hs0 hs1 hj) (tgs g ln)).2.2 j hj2).symm
        · rw [rcF_tried (F := F) hs0 hs1 (fun j h1 h2 => (hIG.2.1 j h1).trans (hgo j h2)) (fun j h1 h2 => (hIG.2.1 _ (by omega)).trans (hgT j h1 h2)) j (by omega) hj]
          exact ((clS_I (rcF_J (b := 0) hs0 hs1 hJ) (tgs g ln)).2.1 j (by omega)).symm)
      rw [if_neg (by omega)] at z
      exact z
    · refine wp_aload_n (pc := 30) d_Md_claimAll_30 rfl ?_
      refine wp_ldc (pc := 31) d_Md_claimAll_31 l_Md_130 ?_
      refine wp_iconst (pc := 33) d_Md_claimAll_33 ?_
      refine wn_callV (n := 2) (As := [_, _]) (pc := 34) d_Md_claimAll_34 s_Md_21 q_Md_copy ⟨by decide, by decide⟩ MH_o rfl rfl rfl rfl (Nat.le_of_ble_eq_true rfl) (Nat.le_of_ble_eq_true rfl) ?_
      refine sp_Md_copy (a := 39354) (b := 0) hE hB (by omega) (by omega) (by omega) (by omega) (by omega) ?_
      refine ⟨rfl, ?_⟩
      refine wp_goto (tgt := 46) (pc := 37) d_Md_claimAll_37 (by decide) ?_
      refine wp_iload_n (pc := 46) d_Md_claimAll_46 rfl ?_
      refine zp_ireturn (pc := 47) d_Md_claimAll_47 rfl ?_
      have z := k (cpF (clS G (tgs g ln)).2.2 39354 0) (fun j hj => by
        rw [if_pos (by omega)]
        by_cases hj2 : 0 ≤ j ∧ j < 6559
        · rw [cpF_in (by omega) (by omega), hIG.2.1 _ (by omega), show j - 0 + 39354 = 39354 + j by omega, hgT j hj2.1 hj2.2]
        · rw [cpF_out (by omega)]
          by_cases hj3 : j < 0
          · rw [hneg j hj3, hgo j (by omega)]
          · rw [hIG.2.1 j (by omega), hgo j hj])
      rw [if_pos (by omega)] at z
      exact z
  · refine zp_bipush (pc := 9) d_Md_claimAll_9 (by decide) ?_
    refine wp_iload_n (pc := 11) d_Md_claimAll_11 rfl ?_
    refine zp_isub (pc := 12) d_Md_claimAll_12 ?_
    refine zp_ireturn (pc := 13) d_Md_claimAll_13 rfl ?_
    have ee : c_ca F g ln = -100 - ft g ln := by
      unfold c_ca
      rw [if_pos (by omega)]
    have z := k F (fun j hj => by rw [if_pos (by omega)])
    rw [if_pos (by omega), ee] at z
    exact z
end S30
