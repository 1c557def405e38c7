/-! ===== the class: answers of tags and the account ===== -/
section S55
variable {E : gE} {B S : Nat} {h0 h : gH} {X : Nat → SC} {T : TC} {i : Nat} {Y : SC} {F t : Int → Int} {A : Nat → Nat} {N : Nat} {V : Nat → Int → Int} {Q : Option Value → gH → Prop}
/-- whose coat it is stands in each handle of its way -/
theorem Ch.own {n : Int} {F : Int → Int} (h : J n F) : ∀ {d : Nat} {x z : Int}, Ch F d x z → F (559 + z) / 16 % 32 = F (559 + x) / 16 % 32
  | 0, x, z, hc => by rw [← hc.1]
  | d + 1, x, z, hc => by rw [Ch.own h hc.2.2.2]; exact ((h.2.2.2.2.2.2.1 x hc.1 hc.2.1).2 hc.2.2.1).2.1
theorem c_tg_v {F : Int → Int} {t : Int} (h : isTg t) (h2 : 0 < F (559 + t / 10)) : c_tg F t 0 = (if eo F (la F (t / 10)) = 0 then la F (t / 10) / 100 else -5) ∧ c_tg F t 1 = wy F (t / 10) ∧ c_tg F t 2 = eo F (la F (t / 10)) ∧ c_tg F t 3 = tb (la F (t / 10)) ∧ c_tg F t 4 = (if 0 ≤ fol F (t / 10) then tb (fol F (t / 10)) else -5) := by
  unfold c_tg
  refine ⟨?_, ?_, ?_, ?_, ?_⟩ <;> (rw [if_neg (not_not_intro h), if_neg (not_not_intro (by decide)), if_neg (not_not_intro h2)]; rfl)
theorem c_tg_d {F : Int → Int} {t w : Int} (h : isTg t) (h2 : 0 < F (559 + t / 10)) (hw : w = 5) : c_tg F t w = F (559 + t / 10) / 16 % 32 := by
  subst hw
  unfold c_tg
  rw [if_neg (not_not_intro h), if_neg (not_not_intro (by decide)), if_neg (not_not_intro h2)]
  rfl
theorem c_tg_b {F : Int → Int} {t w : Int} (h : ¬ isTg t ∨ ¬ (0 ≤ w ∧ w ≤ 5)) : c_tg F t w = -2 := by
  unfold c_tg
  by_cases q : isTg t
  · rw [if_neg (not_not_intro q)]
    exact if_pos (h.resolve_left fun z => z q)
  · exact if_pos q
theorem c_tg_u {F : Int → Int} {t w : Int} (h : isTg t) (hw : 0 ≤ w ∧ w ≤ 5) (h2 : ¬ 0 < F (559 + t / 10)) : c_tg F t w = -1 := by
  unfold c_tg
  rw [if_neg (not_not_intro h), if_neg (not_not_intro hw), if_pos h2]
set_option maxRecDepth 100000 in
theorem sp_Yt_tag (hE : gOk E) (hB : gB E ≤ B) (hW : CN B S h0 X T 0 h (F, t, A, N, V)) {nv : Int} (hJ : J nv F) (hn : nv ≤ 100000000) (hR : RI F t N V) {x w : Int} (rx : gR x) (rw_ : gR w) (k : Q (some (.int (zI (c_tg F x w)))) h) : Wp E m_Yt_tag 0 (gEnt m_Yt_tag [.ref B, .int (zI x), .int (zI w)]) [] h Q := by
  have hi : (0 : Nat) < 6 := by decide
  have hV := hJ.vd
  have hN := hW.aN hi
  have hG := hR.1
  have hT := hR.rT hN.2
  have hL := hR.rL
  have hs := hV.1
  have hA := hJ.ac
  show Wp E m_Yt_tag 0 [some (_), some (_), some (_), none, none, none, none] [] _ _
  refine wp_iload_n (pc := 0) d_Yt_tag_0 rfl ?_
  refine wv_callS (n := 1) (As := [_]) (pc := 1) d_Yt_tag_1 s_Yt_208 q_Yt_isRightTag ⟨by decide, by decide⟩ rfl rfl rfl (Nat.le_of_ble_eq_true rfl) (Nat.le_of_ble_eq_true rfl) ?_
  refine sp_Yt_isRightTag rx ?_
  refine ⟨_, rfl, ?_⟩
  refine zp_ifb_eq (tgt := 16) (pc := 4) d_Yt_tag_4 (by decide) (fun c4 => ?_) (fun c4 => ?_)
  · refine zp_bipush (pc := 16) d_Yt_tag_16 (by decide) ?_
    refine zp_ireturn (pc := 18) d_Yt_tag_18 rfl ?_
    refine ansI k (c_tg_b ?_)
    first | exact Or.inl c4 | exact Or.inr (by omega)
  · refine wp_iload_n (pc := 7) d_Yt_tag_7 rfl ?_
    refine zp_if_lt (tgt := 16) (pc := 8) d_Yt_tag_8 (by decide) rw_ (fun c8 => ?_) (fun c8 => ?_)
    · refine zp_bipush (pc := 16) d_Yt_tag_16 (by decide) ?_
      refine zp_ireturn (pc := 18) d_Yt_tag_18 rfl ?_
      refine ansI k (c_tg_b ?_)
      first | exact Or.inl c4 | exact Or.inr (by omega)
    · refine wp_iload_n (pc := 11) d_Yt_tag_11 rfl ?_
      refine wp_iconst (pc := 12) d_Yt_tag_12 ?_
      refine zp_icmp_le (tgt := 19) (pc := 13) d_Yt_tag_13 (by decide) rw_ ⟨by omega, by omega⟩ (fun c13 => ?_) (fun c13 => ?_)
      · refine wp_aload_n (pc := 19) d_Yt_tag_19 rfl ?_
        refine wp_getfield (pc := 20) d_Yt_tag_20 f_Yt_10 hW.yt rfl ?_
        refine wp_getfield (pc := 23) d_Yt_tag_23 f_Yt_134 (hW.st hi) rfl ?_
        refine st_a3 (pc := 26) d_Yt_tag_26 (by decide) ?_
        refine wp_aload_n (pc := 27) d_Yt_tag_27 rfl ?_
        refine wp_iload_n (pc := 28) d_Yt_tag_28 rfl ?_
        refine zp_bipush (pc := 29) d_Yt_tag_29 (by decide) ?_
        refine zp_idiv (pc := 31) d_Yt_tag_31 (by omega) (by omega) (by omega) (by omega) ?_
        refine wv_callV (n := 1) (As := [_]) (pc := 32) d_Yt_tag_32 s_Yt_211 q_Ha_find ⟨by decide, by decide⟩ (hW.ha hi) rfl rfl rfl rfl (Nat.le_of_ble_eq_true rfl) (Nat.le_of_ble_eq_true rfl) ?_
        refine sp_Ha_find hE hB hW hi hR ⟨by omega, by omega⟩ (fun q => ?_) (fun e e0 e1 ev => ?_)
        · refine ⟨_, rfl, ?_⟩
          have hz : ¬ 0 < F (559 + x / 10) := fun z => by
            obtain ⟨e, e0, e1, ev⟩ := hR.2.2.2.1 (x / 10) (by omega) (by omega) z
            exact q e e0 e1 ev
          refine st_i4 (pc := 35) d_Yt_tag_35 (by decide) ?_
          refine wp_iload (pc := 37) d_Yt_tag_37 rfl ?_
          refine zp_if_ge (tgt := 44) (pc := 39) d_Yt_tag_39 (by decide) ⟨by omega, by omega⟩ (fun c39 => absurd c39 (by omega)) (fun c39 => ?_)
          refine wp_iconst (pc := 42) d_Yt_tag_42 ?_
          refine zp_ireturn (pc := 43) d_Yt_tag_43 rfl ?_
          exact ansI k (c_tg_u c4 (by omega) hz)
        · refine ⟨_, rfl, ?_⟩
          have hz := (hR.vl e0 e1).2.2
          rw [ev] at hz
          refine st_i4 (pc := 35) d_Yt_tag_35 (by decide) ?_
          refine wp_iload (pc := 37) d_Yt_tag_37 rfl ?_
          refine zp_if_ge (tgt := 44) (pc := 39) d_Yt_tag_39 (by decide) ⟨by omega, by omega⟩ (fun c39 => ?_) (fun c39 => absurd c39 (by omega))
          refine wp_aload_n (pc := 44) d_Yt_tag_44 rfl ?_
          refine wp_iload (pc := 45) d_Yt_tag_45 rfl ?_
          refine wv_callV (n := 1) (As := [_]) (pc := 47) d_Yt_tag_47 s_Yt_214 q_Ha_lastFrom ⟨by decide, by decide⟩ (hW.ha hi) rfl rfl rfl rfl (Nat.le_of_ble_eq_true rfl) (Nat.le_of_ble_eq_true rfl) ?_
          refine sp_Ha_lastFrom hE hB hW hi hR hA e0 e1 (fun g g0 g1 gv => ?_)
          refine ⟨_, rfl, ?_⟩
          rw [ev] at gv
          have hv := hR.vl g0 g1
          have hve := hR.vl e0 e1
          rw [gv] at hv
          rw [ev] at hve
          have hgv := hR.2.1 g g0 g1
          have hgl := hgv.1
          rw [gv] at hgl
          have hnx := hR.nx e0 e1
          rw [ev] at hnx
          refine st_i5 (pc := 50) d_Yt_tag_50 (by decide) ?_
          refine wp_aload_n (pc := 52) d_Yt_tag_52 rfl ?_
          refine wp_iload (pc := 53) d_Yt_tag_53 rfl ?_
          refine wv_callV (n := 1) (As := [_]) (pc := 55) d_Yt_tag_55 s_Yt_217 q_Ha_followerOf ⟨by decide, by decide⟩ (hW.ha hi) rfl rfl rfl rfl (Nat.le_of_ble_eq_true rfl) (Nat.le_of_ble_eq_true rfl) ?_
          refine sp_Ha_followerOf hE hB hW hi hG ⟨by omega, by omega⟩ ?_
          refine ⟨_, rfl, ?_⟩
          rw [if_pos ⟨e0, e1⟩]
          refine st_i6 (pc := 58) d_Yt_tag_58 (by decide) ?_
          refine wp_iload_n (pc := 60) d_Yt_tag_60 rfl ?_
          by_cases k61_0 : w = 0
          · rw [k61_0]
            refine zp_tableIn (x := 0) (tgt := 96) (pc := 61) d_Yt_tag_61 ⟨by decide, by decide⟩ (by decide) (by decide) rfl (by decide) ?_
            refine wp_aload_n (pc := 96) d_Yt_tag_96 rfl ?_
            refine wp_iload (pc := 97) d_Yt_tag_97 rfl ?_
            refine wv_callV (n := 1) (As := [_]) (pc := 99) d_Yt_tag_99 s_Yt_220 q_Ha_endOf ⟨by decide, by decide⟩ (hW.ha hi) rfl rfl rfl rfl (Nat.le_of_ble_eq_true rfl) (Nat.le_of_ble_eq_true rfl) ?_
            refine sp_Ha_endOf hE hB hW hi hR g0 g1 ?_
            refine ⟨_, rfl, ?_⟩
            refine zp_if_ne (tgt := 117) (pc := 102) d_Yt_tag_102 (by decide) ⟨by omega, by omega⟩ (fun c102 => ?_) (fun c102 => ?_)
            · refine zp_bipush (pc := 117) d_Yt_tag_117 (by decide) ?_
              refine zp_ireturn (pc := 119) d_Yt_tag_119 rfl ?_
              rw [k61_0] at k
              refine ansI k ?_
              rw [(c_tg_v c4 hz).1]
              exact if_neg (by omega)
            · refine wp_aload_n (pc := 105) d_Yt_tag_105 rfl ?_
              refine wp_iload (pc := 106) d_Yt_tag_106 rfl ?_
              refine wv_callV (n := 1) (As := [_]) (pc := 108) d_Yt_tag_108 s_Yt_223 q_Ha_handleOf ⟨by decide, by decide⟩ (hW.ha hi) rfl rfl rfl rfl (Nat.le_of_ble_eq_true rfl) (Nat.le_of_ble_eq_true rfl) ?_
              refine sp_Ha_handleOf hE hB hW hi hR g0 g1 ?_
              refine ⟨_, rfl, ?_⟩
              rw [gv]
              refine zp_bipush (pc := 111) d_Yt_tag_111 (by decide) ?_
              refine zp_idiv (pc := 113) d_Yt_tag_113 (by omega) (by omega) (by omega) (by omega) ?_
              refine wp_goto (tgt := 119) (pc := 114) d_Yt_tag_114 (by decide) ?_
              refine zp_ireturn (pc := 119) d_Yt_tag_119 rfl ?_
              rw [k61_0] at k
              refine ansI k ?_
              rw [(c_tg_v c4 hz).1]
              exact if_pos (by omega)
          by_cases k61_1 : w = 1
          · rw [k61_1]
            refine zp_tableIn (x := 1) (tgt := 120) (pc := 61) d_Yt_tag_61 ⟨by decide, by decide⟩ (by decide) (by decide) rfl (by decide) ?_
            refine wp_aload_n (pc := 120) d_Yt_tag_120 rfl ?_
            refine wp_iload (pc := 121) d_Yt_tag_121 rfl ?_
            refine wv_callV (n := 1) (As := [_]) (pc := 123) d_Yt_tag_123 s_Yt_226 q_Ha_wayFrom ⟨by decide, by decide⟩ (hW.ha hi) rfl rfl rfl rfl (Nat.le_of_ble_eq_true rfl) (Nat.le_of_ble_eq_true rfl) ?_
            refine sp_Ha_wayFrom hE hB hW hi hR hA e0 e1 ?_
            refine ⟨_, rfl, ?_⟩
            rw [ev]
            refine zp_ireturn (pc := 126) d_Yt_tag_126 rfl ?_
            rw [k61_1] at k
            refine ansI k ?_
            rw [(c_tg_v c4 hz).2.1]
          by_cases k61_2 : w = 2
          · rw [k61_2]
            refine zp_tableIn (x := 2) (tgt := 127) (pc := 61) d_Yt_tag_61 ⟨by decide, by decide⟩ (by decide) (by decide) rfl (by decide) ?_
            refine wp_aload_n (pc := 127) d_Yt_tag_127 rfl ?_
            refine wp_iload (pc := 128) d_Yt_tag_128 rfl ?_
            refine wv_callV (n := 1) (As := [_]) (pc := 130) d_Yt_tag_130 s_Yt_220 q_Ha_endOf ⟨by decide, by decide⟩ (hW.ha hi) rfl rfl rfl rfl (Nat.le_of_ble_eq_true rfl) (Nat.le_of_ble_eq_true rfl) ?_
            refine sp_Ha_endOf hE hB hW hi hR g0 g1 ?_
            refine ⟨_, rfl, ?_⟩
            refine zp_ireturn (pc := 133) d_Yt_tag_133 rfl ?_
            rw [k61_2] at k
            refine ansI k ?_
            rw [(c_tg_v c4 hz).2.2.1]
            omega
          by_cases k61_3 : w = 3
          · rw [k61_3]
            refine zp_tableIn (x := 3) (tgt := 134) (pc := 61) d_Yt_tag_61 ⟨by decide, by decide⟩ (by decide) (by decide) rfl (by decide) ?_
            refine wp_aload_n (pc := 134) d_Yt_tag_134 rfl ?_
            refine wp_iload (pc := 135) d_Yt_tag_135 rfl ?_
            refine wv_callV (n := 1) (As := [_]) (pc := 137) d_Yt_tag_137 s_Yt_223 q_Ha_handleOf ⟨by decide, by decide⟩ (hW.ha hi) rfl rfl rfl rfl (Nat.le_of_ble_eq_true rfl) (Nat.le_of_ble_eq_true rfl) ?_
            refine sp_Ha_handleOf hE hB hW hi hR g0 g1 ?_
            refine ⟨_, rfl, ?_⟩
            rw [gv]
            refine wv_callS (n := 1) (As := [_]) (pc := 140) d_Yt_tag_140 s_Yt_202 q_Yt_tagWithCheck ⟨by decide, by decide⟩ rfl rfl rfl (Nat.le_of_ble_eq_true rfl) (Nat.le_of_ble_eq_true rfl) ?_
            refine sp_Yt_tagWithCheck (by omega) (by omega) ?_
            refine ⟨_, rfl, ?_⟩
            refine zp_ireturn (pc := 143) d_Yt_tag_143 rfl ?_
            rw [k61_3] at k
            refine ansI k ?_
            rw [(c_tg_v c4 hz).2.2.2.1]
          by_cases k61_4 : w = 4
          · rw [k61_4]
            refine zp_tableIn (x := 4) (tgt := 144) (pc := 61) d_Yt_tag_61 ⟨by decide, by decide⟩ (by decide) (by decide) rfl (by decide) ?_
            refine wp_iload (pc := 144) d_Yt_tag_144 rfl ?_
            refine zp_if_ge (tgt := 154) (pc := 146) d_Yt_tag_146 (by decide) ⟨by omega, by omega⟩ (fun c146 => ?_) (fun c146 => ?_)
            · refine wp_aload_n (pc := 154) d_Yt_tag_154 rfl ?_
              refine wp_iload (pc := 155) d_Yt_tag_155 rfl ?_
              refine wv_callV (n := 1) (As := [_]) (pc := 157) d_Yt_tag_157 s_Yt_223 q_Ha_handleOf ⟨by decide, by decide⟩ (hW.ha hi) rfl rfl rfl rfl (Nat.le_of_ble_eq_true rfl) (Nat.le_of_ble_eq_true rfl) ?_
              refine sp_Ha_handleOf hE hB hW hi hR (by omega) (by omega) ?_
              refine ⟨_, rfl, ?_⟩
              refine wv_callS (n := 1) (As := [_]) (pc := 160) d_Yt_tag_160 s_Yt_202 q_Yt_tagWithCheck ⟨by decide, by decide⟩ rfl rfl rfl (Nat.le_of_ble_eq_true rfl) (Nat.le_of_ble_eq_true rfl) ?_
              refine sp_Yt_tagWithCheck (by omega) (by omega) ?_
              refine ⟨_, rfl, ?_⟩
              refine zp_ireturn (pc := 163) d_Yt_tag_163 rfl ?_
              rw [k61_4] at k
              refine ansI k ?_
              rw [(c_tg_v c4 hz).2.2.2.2]
              rw [if_pos (by omega)]
              congr 1
              omega
            · refine zp_bipush (pc := 149) d_Yt_tag_149 (by decide) ?_
              refine wp_goto (tgt := 163) (pc := 151) d_Yt_tag_151 (by decide) ?_
              refine zp_ireturn (pc := 163) d_Yt_tag_163 rfl ?_
              rw [k61_4] at k
              refine ansI k ?_
              rw [(c_tg_v c4 hz).2.2.2.2]
              exact if_neg (by omega)
          refine zp_tableOut (tgt := 164) (pc := 61) d_Yt_tag_61 rw_ (by omega) (by decide) ?_
          refine wp_aload_n (pc := 164) d_Yt_tag_164 rfl ?_
          refine wp_iload (pc := 165) d_Yt_tag_165 rfl ?_
          refine wv_callV (n := 1) (As := [_]) (pc := 167) d_Yt_tag_167 s_Yt_193 q_Ha_ownerOf ⟨by decide, by decide⟩ (hW.ha hi) rfl rfl rfl rfl (Nat.le_of_ble_eq_true rfl) (Nat.le_of_ble_eq_true rfl) ?_
          refine sp_Ha_ownerOf hE hB hW hi hR g0 g1 ?_
          refine ⟨_, rfl, ?_⟩
          refine zp_ireturn (pc := 170) d_Yt_tag_170 rfl ?_
          refine ansI k ?_
          rw [c_tg_d c4 hz (by omega)]
          obtain ⟨d, hd, hc, _⟩ := hA.en (x := x / 10) (by omega) (by omega)
          have := Ch.own hJ hc
          omega
      · refine zp_bipush (pc := 16) d_Yt_tag_16 (by decide) ?_
        refine zp_ireturn (pc := 18) d_Yt_tag_18 rfl ?_
        refine ansI k (c_tg_b ?_)
        first | exact Or.inl c4 | exact Or.inr (by omega)
set_option maxRecDepth 100000 in
theorem sp_Lg_timesOf (hE : gOk E) (hB : gB E ≤ B) (hW : CN B S h0 X T i h (F, t, A, N, V)) (hi : i < 6) {c : Int} (c0 : 0 ≤ c) (c1 : c < 5) (k : Q (some (.int (zI (F (tmx c))))) h) : Wp E m_Lg_timesOf 0 (gEnt m_Lg_timesOf [.ref (sA B i + 8), .int (zI c)]) [] h Q := by
  show Wp E m_Lg_timesOf 0 [some (_), some (_)] [] _ _
  refine wp_iload_n (pc := 0) d_Lg_timesOf_0 rfl ?_
  refine zp_if_lt (tgt := 18) (pc := 1) d_Lg_timesOf_1 (by decide) ⟨by omega, by omega⟩ (fun c1_ => absurd c1_ (by omega)) (fun c1_ => ?_)
  refine wp_iload_n (pc := 4) d_Lg_timesOf_4 rfl ?_
  refine wp_iconst (pc := 5) d_Lg_timesOf_5 ?_
  refine zp_icmp_ge (tgt := 18) (pc := 6) d_Lg_timesOf_6 (by decide) ⟨by omega, by omega⟩ ⟨by omega, by omega⟩ (fun c6 => absurd c6 (by omega)) (fun c6 => ?_)
  refine wp_aload_n (pc := 9) d_Lg_timesOf_9 rfl ?_
  refine wp_getfield (pc := 10) d_Lg_timesOf_10 f_Lg_25 (hW.lg hi) rfl ?_
  refine wp_iload_n (pc := 13) d_Lg_timesOf_13 rfl ?_
  refine zp_iaload (pc := 14) d_Lg_timesOf_14 hE.1 (hW.l3 hi) (by omega) (by omega) (by decide) ?_
  rw [cut_at (by omega) (by omega)]
  refine wp_goto (tgt := 19) (pc := 15) d_Lg_timesOf_15 (by decide) ?_
  refine zp_ireturn (pc := 19) d_Lg_timesOf_19 rfl ?_
  exact k
theorem c_ct_v (F : Int → Int) (sn ln : Int) : c_ct F sn ln 0 = F 0 ∧ c_ct F sn ln 1 = F 1 ∧ c_ct F sn ln 2 = sH F (F 1).toNat ∧ c_ct F sn ln 3 = sm (fun x => F (29 + 8 * x + 1)) 60 ∧ c_ct F sn ln 4 = sm (fun x => F (29 + 8 * x + 5)) 60 ∧ c_ct F sn ln 5 = F 5 ∧ c_ct F sn ln 6 = F 6 ∧ c_ct F sn ln 7 = F 7 ∧ c_ct F sn ln 8 = F 8 ∧ c_ct F sn ln 9 = F 9 ∧ c_ct F sn ln 10 = F 10 ∧ c_ct F sn ln 11 = F 11 ∧ c_ct F sn ln 12 = gw F 6000 ∧ c_ct F sn ln 13 = F 2 ∧ c_ct F sn ln 14 = F 3 ∧ c_ct F sn ln 15 = F 4 ∧ c_ct F sn ln 16 = sn ∧ c_ct F sn ln 17 = ln := by
  unfold c_ct
  refine ⟨?_, ?_, ?_, ?_, ?_, ?_, ?_, ?_, ?_, ?_, ?_, ?_, ?_, ?_, ?_, ?_, ?_, ?_⟩
  · rw [if_pos (by omega)]
  · rw [if_pos (by omega)]
  · rw [if_neg (by omega), if_pos (by omega)]
  · rw [if_neg (by omega), if_neg (by omega), if_pos (by omega)]
  · rw [if_neg (by omega), if_neg (by omega), if_neg (by omega), if_pos (by omega)]
  · rw [if_neg (by omega), if_neg (by omega), if_neg (by omega), if_neg (by omega), if_pos (by omega)]
  · rw [if_neg (by omega), if_neg (by omega), if_neg (by omega), if_neg (by omega), if_pos (by omega)]
  · rw [if_neg (by omega), if_neg (by omega), if_neg (by omega), if_neg (by omega), if_pos (by omega)]
  · rw [if_neg (by omega), if_neg (by omega), if_neg (by omega), if_neg (by omega), if_pos (by omega)]
  · rw [if_neg (by omega), if_neg (by omega), if_neg (by omega), if_neg (by omega), if_pos (by omega)]
  · rw [if_neg (by omega), if_neg (by omega), if_neg (by omega), if_neg (by omega), if_pos (by omega)]
  · rw [if_neg (by omega), if_neg (by omega), if_neg (by omega), if_neg (by omega), if_pos (by omega)]
  · rw [if_neg (by omega), if_neg (by omega), if_neg (by omega), if_neg (by omega), if_neg (by omega), if_pos (by omega)]
  · rw [if_neg (by omega), if_neg (by omega), if_neg (by omega), if_neg (by omega), if_neg (by omega), if_neg (by omega), if_pos (by omega)]
    rfl
  · rw [if_neg (by omega), if_neg (by omega), if_neg (by omega), if_neg (by omega), if_neg (by omega), if_neg (by omega), if_pos (by omega)]
    rfl
  · rw [if_neg (by omega), if_neg (by omega), if_neg (by omega), if_neg (by omega), if_neg (by omega), if_neg (by omega), if_pos (by omega)]
    rfl
  · rw [if_neg (by omega), if_neg (by omega), if_neg (by omega), if_neg (by omega), if_neg (by omega), if_neg (by omega), if_neg (by omega), if_pos (by omega)]
  · rw [if_neg (by omega), if_neg (by omega), if_neg (by omega), if_neg (by omega), if_neg (by omega), if_neg (by omega), if_neg (by omega), if_neg (by omega), if_pos (by omega)]
theorem c_ct_d {F : Int → Int} {sn ln w : Int} (hw : ¬ (0 ≤ w ∧ w ≤ 17)) : c_ct F sn ln w = -2 := by
  unfold c_ct
  rw [if_neg (by omega), if_neg (by omega), if_neg (by omega), if_neg (by omega), if_neg (by omega), if_neg (by omega), if_neg (by omega), if_neg (by omega), if_neg (by omega)]
set_option maxRecDepth 100000 in
theorem sp_Yt_count (hE : gOk E) (hB : gB E ≤ B) (hW : CN B S h0 X T 0 h (F, t, A, N, V)) {nv : Int} (hJ : J nv F) (hn : nv ≤ 100000000) (hR : RI F t N V) {w : Int} (rw_ : gR w) (k : ∀ (g : gH) (V2 : Nat → Int → Int), CN B S h0 X T 0 g (F, t, A, N, V2) → RI F t N V2 → Q (some (.int (zI (c_ct F T.1.2.2.1 T.1.2.2.2.1 w)))) g) : Wp E m_Yt_count 0 (gEnt m_Yt_count [.ref B, .int (zI w)]) [] h Q := by
  have hi : (0 : Nat) < 6 := by decide
  have hV := hJ.vd
  have hN := hW.aN hi
  have hG := hR.1
  have hT := hR.rT hN.2
  have hL := hR.rL
  have hs := hV.1
  show Wp E m_Yt_count 0 [some (_), some (_)] [] _ _
  refine wp_iload_n (pc := 0) d_Yt_count_0 rfl ?_
  by_cases k1_0 : w = 0
  · rw [k1_0]
    refine zp_tableIn (x := 0) (tgt := 88) (pc := 1) d_Yt_count_1 ⟨by decide, by decide⟩ (by decide) (by decide) rfl (by decide) ?_
    refine wp_aload_n (pc := 88) d_Yt_count_88 rfl ?_
    refine wp_getfield (pc := 89) d_Yt_count_89 f_Yt_10 hW.yt rfl ?_
    refine wp_getfield (pc := 92) d_Yt_count_92 f_Yt_147 (hW.st hi) rfl ?_
    refine zp_ireturn (pc := 95) d_Yt_count_95 rfl ?_
    rw [k1_0] at k
    have k := k h V hW hR
    refine ansI k ?_
    rw [(c_ct_v F _ _).1]
  by_cases k1_1 : w = 1
  · rw [k1_1]
    refine zp_tableIn (x := 1) (tgt := 96) (pc := 1) d_Yt_count_1 ⟨by decide, by decide⟩ (by decide) (by decide) rfl (by decide) ?_
    refine wp_aload_n (pc := 96) d_Yt_count_96 rfl ?_
    refine wp_getfield (pc := 97) d_Yt_count_97 f_Yt_10 hW.yt rfl ?_
    refine wp_getfield (pc := 100) d_Yt_count_100 f_Yt_45 (hW.st hi) rfl ?_
    refine zp_ireturn (pc := 103) d_Yt_count_103 rfl ?_
    rw [k1_1] at k
    have k := k h V hW hR
    refine ansI k ?_
    rw [(c_ct_v F _ _).2.1]
  by_cases k1_2 : w = 2
  · rw [k1_2]
    refine zp_tableIn (x := 2) (tgt := 104) (pc := 1) d_Yt_count_1 ⟨by decide, by decide⟩ (by decide) (by decide) rfl (by decide) ?_
    refine wp_aload_n (pc := 104) d_Yt_count_104 rfl ?_
    refine wp_getfield (pc := 105) d_Yt_count_105 f_Yt_10 hW.yt rfl ?_
    refine wv_callV (n := 0) (As := []) (pc := 108) d_Yt_count_108 s_Yt_250 q_St_hooksInAll ⟨by decide, by decide⟩ (hW.st hi) rfl rfl rfl rfl (Nat.le_of_ble_eq_true rfl) (Nat.le_of_ble_eq_true rfl) ?_
    refine sp_St_hooksInAll hE hB hW hi hV ?_
    refine ⟨_, rfl, ?_⟩
    refine zp_ireturn (pc := 111) d_Yt_count_111 rfl ?_
    rw [k1_2] at k
    have k := k h V hW hR
    refine ansI k ?_
    rw [(c_ct_v F _ _).2.2.1]
  by_cases k1_3 : w = 3
  · rw [k1_3]
    refine zp_tableIn (x := 3) (tgt := 112) (pc := 1) d_Yt_count_1 ⟨by decide, by decide⟩ (by decide) (by decide) rfl (by decide) ?_
    refine wp_aload_n (pc := 112) d_Yt_count_112 rfl ?_
    refine wp_getfield (pc := 113) d_Yt_count_113 f_Yt_10 hW.yt rfl ?_
    refine wp_iconst (pc := 116) d_Yt_count_116 ?_
    refine wv_callV (n := 1) (As := [_]) (pc := 117) d_Yt_count_117 s_Yt_179 q_St_total ⟨by decide, by decide⟩ (hW.st hi) rfl rfl rfl rfl (Nat.le_of_ble_eq_true rfl) (Nat.le_of_ble_eq_true rfl) ?_
    refine sp_St_total hE hB hW hi hV hT (by omega) (by omega) ?_
    refine ⟨_, rfl, ?_⟩
    refine zp_ireturn (pc := 120) d_Yt_count_120 rfl ?_
    rw [k1_3] at k
    have k := k h V hW hR
    refine ansI k ?_
    rw [(c_ct_v F _ _).2.2.2.1]
    exact (tot_1 hJ hR).symm
  by_cases k1_4 : w = 4
  · rw [k1_4]
    refine zp_tableIn (x := 4) (tgt := 121) (pc := 1) d_Yt_count_1 ⟨by decide, by decide⟩ (by decide) (by decide) rfl (by decide) ?_
    refine wp_aload_n (pc := 121) d_Yt_count_121 rfl ?_
    refine wp_getfield (pc := 122) d_Yt_count_122 f_Yt_10 hW.yt rfl ?_
    refine wp_iconst (pc := 125) d_Yt_count_125 ?_
    refine wv_callV (n := 1) (As := [_]) (pc := 126) d_Yt_count_126 s_Yt_179 q_St_total ⟨by decide, by decide⟩ (hW.st hi) rfl rfl rfl rfl (Nat.le_of_ble_eq_true rfl) (Nat.le_of_ble_eq_true rfl) ?_
    refine sp_St_total hE hB hW hi hV hT (by omega) (by omega) ?_
    refine ⟨_, rfl, ?_⟩
    refine zp_ireturn (pc := 129) d_Yt_count_129 rfl ?_
    rw [k1_4] at k
    have k := k h V hW hR
    refine ansI k ?_
    rw [(c_ct_v F _ _).2.2.2.2.1]
    exact (tot_2 hJ hR).symm
  by_cases k1_5 : w = 5
  · rw [k1_5]
    refine zp_tableIn (x := 5) (tgt := 130) (pc := 1) d_Yt_count_1 ⟨by decide, by decide⟩ (by decide) (by decide) rfl (by decide) ?_
    refine wp_aload_n (pc := 130) d_Yt_count_130 rfl ?_
    refine wp_getfield (pc := 131) d_Yt_count_131 f_Yt_10 hW.yt rfl ?_
    refine wp_getfield (pc := 134) d_Yt_count_134 f_Yt_134 (hW.st hi) rfl ?_
    refine wp_getfield (pc := 137) d_Yt_count_137 f_Yt_253 (hW.ha hi) rfl ?_
    refine zp_ireturn (pc := 140) d_Yt_count_140 rfl ?_
    rw [k1_5] at k
    have k := k h V hW hR
    refine ansI k ?_
    rw [(c_ct_v F _ _).2.2.2.2.2.1]
  by_cases k1_6 : w = 6
  · rw [k1_6]
    refine zp_tableIn (x := 6) (tgt := 141) (pc := 1) d_Yt_count_1 ⟨by decide, by decide⟩ (by decide) (by decide) rfl (by decide) ?_
    refine wp_aload_n (pc := 141) d_Yt_count_141 rfl ?_
    refine wp_getfield (pc := 142) d_Yt_count_142 f_Yt_10 hW.yt rfl ?_
    refine wp_getfield (pc := 145) d_Yt_count_145 f_Yt_241 (hW.st hi) rfl ?_
    refine wp_iconst (pc := 148) d_Yt_count_148 ?_
    refine wv_callV (n := 1) (As := [_]) (pc := 149) d_Yt_count_149 s_Yt_256 q_Lg_timesOf ⟨by decide, by decide⟩ (hW.lg hi) rfl rfl rfl rfl (Nat.le_of_ble_eq_true rfl) (Nat.le_of_ble_eq_true rfl) ?_
    refine sp_Lg_timesOf hE hB hW hi (by omega) (by omega) ?_
    refine ⟨_, rfl, ?_⟩
    refine zp_ireturn (pc := 152) d_Yt_count_152 rfl ?_
    rw [k1_6] at k
    have k := k h V hW hR
    refine ansI k ?_
    rw [(c_ct_v F _ _).2.2.2.2.2.2.1]
    rfl
  by_cases k1_7 : w = 7
  · rw [k1_7]
    refine zp_tableIn (x := 7) (tgt := 153) (pc := 1) d_Yt_count_1 ⟨by decide, by decide⟩ (by decide) (by decide) rfl (by decide) ?_
    refine wp_aload_n (pc := 153) d_Yt_count_153 rfl ?_
    refine wp_getfield (pc := 154) d_Yt_count_154 f_Yt_10 hW.yt rfl ?_
    refine wp_getfield (pc := 157) d_Yt_count_157 f_Yt_241 (hW.st hi) rfl ?_
    refine wp_iconst (pc := 160) d_Yt_count_160 ?_
    refine wv_callV (n := 1) (As := [_]) (pc := 161) d_Yt_count_161 s_Yt_256 q_Lg_timesOf ⟨by decide, by decide⟩ (hW.lg hi) rfl rfl rfl rfl (Nat.le_of_ble_eq_true rfl) (Nat.le_of_ble_eq_true rfl) ?_
    refine sp_Lg_timesOf hE hB hW hi (by omega) (by omega) ?_
    refine ⟨_, rfl, ?_⟩
    refine zp_ireturn (pc := 164) d_Yt_count_164 rfl ?_
    rw [k1_7] at k
    have k := k h V hW hR
    refine ansI k ?_
    rw [(c_ct_v F _ _).2.2.2.2.2.2.2.1]
    rfl
  by_cases k1_8 : w = 8
  · rw [k1_8]
    refine zp_tableIn (x := 8) (tgt := 165) (pc := 1) d_Yt_count_1 ⟨by decide, by decide⟩ (by decide) (by decide) rfl (by decide) ?_
    refine wp_aload_n (pc := 165) d_Yt_count_165 rfl ?_
    refine wp_getfield (pc := 166) d_Yt_count_166 f_Yt_10 hW.yt rfl ?_
    refine wp_getfield (pc := 169) d_Yt_count_169 f_Yt_241 (hW.st hi) rfl ?_
    refine wp_iconst (pc := 172) d_Yt_count_172 ?_
    refine wv_callV (n := 1) (As := [_]) (pc := 173) d_Yt_count_173 s_Yt_256 q_Lg_timesOf ⟨by decide, by decide⟩ (hW.lg hi) rfl rfl rfl rfl (Nat.le_of_ble_eq_true rfl) (Nat.le_of_ble_eq_true rfl) ?_
    refine sp_Lg_timesOf hE hB hW hi (by omega) (by omega) ?_
    refine ⟨_, rfl, ?_⟩
    refine zp_ireturn (pc := 176) d_Yt_count_176 rfl ?_
    rw [k1_8] at k
    have k := k h V hW hR
    refine ansI k ?_
    rw [(c_ct_v F _ _).2.2.2.2.2.2.2.2.1]
    rfl
  by_cases k1_9 : w = 9
  · rw [k1_9]
    refine zp_tableIn (x := 9) (tgt := 177) (pc := 1) d_Yt_count_1 ⟨by decide, by decide⟩ (by decide) (by decide) rfl (by decide) ?_
    refine wp_aload_n (pc := 177) d_Yt_count_177 rfl ?_
    refine wp_getfield (pc := 178) d_Yt_count_178 f_Yt_10 hW.yt rfl ?_
    refine wp_getfield (pc := 181) d_Yt_count_181 f_Yt_241 (hW.st hi) rfl ?_
    refine wp_iconst (pc := 184) d_Yt_count_184 ?_
    refine wv_callV (n := 1) (As := [_]) (pc := 185) d_Yt_count_185 s_Yt_256 q_Lg_timesOf ⟨by decide, by decide⟩ (hW.lg hi) rfl rfl rfl rfl (Nat.le_of_ble_eq_true rfl) (Nat.le_of_ble_eq_true rfl) ?_
    refine sp_Lg_timesOf hE hB hW hi (by omega) (by omega) ?_
    refine ⟨_, rfl, ?_⟩
    refine zp_ireturn (pc := 188) d_Yt_count_188 rfl ?_
    rw [k1_9] at k
    have k := k h V hW hR
    refine ansI k ?_
    rw [(c_ct_v F _ _).2.2.2.2.2.2.2.2.2.1]
    rfl
  by_cases k1_10 : w = 10
  · rw [k1_10]
    refine zp_tableIn (x := 10) (tgt := 189) (pc := 1) d_Yt_count_1 ⟨by decide, by decide⟩ (by decide) (by decide) rfl (by decide) ?_
    refine wp_aload_n (pc := 189) d_Yt_count_189 rfl ?_
    refine wp_getfield (pc := 190) d_Yt_count_190 f_Yt_10 hW.yt rfl ?_
    refine wp_getfield (pc := 193) d_Yt_count_193 f_Yt_241 (hW.st hi) rfl ?_
    refine wp_iconst (pc := 196) d_Yt_count_196 ?_
    refine wv_callV (n := 1) (As := [_]) (pc := 197) d_Yt_count_197 s_Yt_256 q_Lg_timesOf ⟨by decide, by decide⟩ (hW.lg hi) rfl rfl rfl rfl (Nat.le_of_ble_eq_true rfl) (Nat.le_of_ble_eq_true rfl) ?_
    refine sp_Lg_timesOf hE hB hW hi (by omega) (by omega) ?_
    refine ⟨_, rfl, ?_⟩
    refine zp_ireturn (pc := 200) d_Yt_count_200 rfl ?_
    rw [k1_10] at k
    have k := k h V hW hR
    refine ansI k ?_
    rw [(c_ct_v F _ _).2.2.2.2.2.2.2.2.2.2.1]
    rfl
  by_cases k1_11 : w = 11
  · rw [k1_11]
    refine zp_tableIn (x := 11) (tgt := 201) (pc := 1) d_Yt_count_1 ⟨by decide, by decide⟩ (by decide) (by decide) rfl (by decide) ?_
    refine wp_aload_n (pc := 201) d_Yt_count_201 rfl ?_
    refine wp_getfield (pc := 202) d_Yt_count_202 f_Yt_10 hW.yt rfl ?_
    refine wp_getfield (pc := 205) d_Yt_count_205 f_Yt_259 (hW.st hi) rfl ?_
    refine zp_ireturn (pc := 208) d_Yt_count_208 rfl ?_
    rw [k1_11] at k
    have k := k h V hW hR
    refine ansI k ?_
    rw [(c_ct_v F _ _).2.2.2.2.2.2.2.2.2.2.2.1]
  by_cases k1_12 : w = 12
  · rw [k1_12]
    refine zp_tableIn (x := 12) (tgt := 209) (pc := 1) d_Yt_count_1 ⟨by decide, by decide⟩ (by decide) (by decide) rfl (by decide) ?_
    refine wp_aload_n (pc := 209) d_Yt_count_209 rfl ?_
    refine wp_getfield (pc := 210) d_Yt_count_210 f_Yt_10 hW.yt rfl ?_
    refine wp_getfield (pc := 213) d_Yt_count_213 f_Yt_134 (hW.st hi) rfl ?_
    refine wv_callV (n := 0) (As := []) (pc := 216) d_Yt_count_216 s_Yt_138 q_Ha_greatestWay ⟨by decide, by decide⟩ (hW.ha hi) rfl rfl rfl rfl (Nat.le_of_ble_eq_true rfl) (Nat.le_of_ble_eq_true rfl) ?_
    refine sp_Ha_greatestWay hE hB hW hi hJ hn hR (fun g V2 hW hv => ?_)
    refine ⟨_, rfl, ?_⟩
    refine zp_ireturn (pc := 219) d_Yt_count_219 rfl ?_
    rw [k1_12] at k
    refine ansI (k _ _ hW (hR.way hv)) ?_
    rw [(c_ct_v F _ _).2.2.2.2.2.2.2.2.2.2.2.2.1]
  by_cases k1_13 : w = 13
  · rw [k1_13]
    refine zp_tableIn (x := 13) (tgt := 220) (pc := 1) d_Yt_count_1 ⟨by decide, by decide⟩ (by decide) (by decide) rfl (by decide) ?_
    refine wp_aload_n (pc := 220) d_Yt_count_220 rfl ?_
    refine wp_getfield (pc := 221) d_Yt_count_221 f_Yt_10 hW.yt rfl ?_
    refine wp_getfield (pc := 224) d_Yt_count_224 f_Yt_87 (hW.st hi) rfl ?_
    refine wp_iconst (pc := 227) d_Yt_count_227 ?_
    refine zp_iaload (pc := 228) d_Yt_count_228 hE.1 (hW.se hi) (by omega) (by omega) (by decide) ?_
    rw [cut_at (by omega) (by omega)]
    refine zp_ireturn (pc := 229) d_Yt_count_229 rfl ?_
    rw [k1_13] at k
    have k := k h V hW hR
    refine ansI k ?_
    rw [(c_ct_v F _ _).2.2.2.2.2.2.2.2.2.2.2.2.2.1]
    rfl
  by_cases k1_14 : w = 14
  · rw [k1_14]
    refine zp_tableIn (x := 14) (tgt := 230) (pc := 1) d_Yt_count_1 ⟨by decide, by decide⟩ (by decide) (by decide) rfl (by decide) ?_
    refine wp_aload_n (pc := 230) d_Yt_count_230 rfl ?_
    refine wp_getfield (pc := 231) d_Yt_count_231 f_Yt_10 hW.yt rfl ?_
    refine wp_getfield (pc := 234) d_Yt_count_234 f_Yt_87 (hW.st hi) rfl ?_
    refine wp_iconst (pc := 237) d_Yt_count_237 ?_
    refine zp_iaload (pc := 238) d_Yt_count_238 hE.1 (hW.se hi) (by omega) (by omega) (by decide) ?_
    rw [cut_at (by omega) (by omega)]
    refine zp_ireturn (pc := 239) d_Yt_count_239 rfl ?_
    rw [k1_14] at k
    have k := k h V hW hR
    refine ansI k ?_
    rw [(c_ct_v F _ _).2.2.2.2.2.2.2.2.2.2.2.2.2.2.1]
    rfl
  by_cases k1_15 : w = 15
  · rw [k1_15]
    refine zp_tableIn (x := 15) (tgt := 240) (pc := 1) d_Yt_count_1 ⟨by decide, by decide⟩ (by decide) (by decide) rfl (by decide) ?_
    refine wp_aload_n (pc := 240) d_Yt_count_240 rfl ?_
    refine wp_getfield (pc := 241) d_Yt_count_241 f_Yt_10 hW.yt rfl ?_
    refine wp_getfield (pc := 244) d_Yt_count_244 f_Yt_87 (hW.st hi) rfl ?_
    refine wp_iconst (pc := 247) d_Yt_count_247 ?_
    refine zp_iaload (pc := 248) d_Yt_count_248 hE.1 (hW.se hi) (by omega) (by omega) (by decide) ?_
    rw [cut_at (by omega) (by omega)]
    refine zp_ireturn (pc := 249) d_Yt_count_249 rfl ?_
    rw [k1_15] at k
    have k := k h V hW hR
    refine ansI k ?_
    rw [(c_ct_v F _ _).2.2.2.2.2.2.2.2.2.2.2.2.2.2.2.1]
    rfl
  by_cases k1_16 : w = 16
  · rw [k1_16]
    refine zp_tableIn (x := 16) (tgt := 250) (pc := 1) d_Yt_count_1 ⟨by decide, by decide⟩ (by decide) (by decide) rfl (by decide) ?_
    refine wp_aload_n (pc := 250) d_Yt_count_250 rfl ?_
    refine wp_getfield (pc := 251) d_Yt_count_251 f_Yt_26 hW.yt rfl ?_
    refine wp_getfield (pc := 254) d_Yt_count_254 f_Yt_173 hW.hy rfl ?_
    refine zp_ireturn (pc := 257) d_Yt_count_257 rfl ?_
    rw [k1_16] at k
    have k := k h V hW hR
    refine ansI k ?_
    rw [(c_ct_v F _ _).2.2.2.2.2.2.2.2.2.2.2.2.2.2.2.2.1]
  by_cases k1_17 : w = 17
  · rw [k1_17]
    refine zp_tableIn (x := 17) (tgt := 258) (pc := 1) d_Yt_count_1 ⟨by decide, by decide⟩ (by decide) (by decide) rfl (by decide) ?_
    refine wp_aload_n (pc := 258) d_Yt_count_258 rfl ?_
    refine wp_getfield (pc := 259) d_Yt_count_259 f_Yt_33 hW.yt rfl ?_
    refine wp_getfield (pc := 262) d_Yt_count_262 f_Yt_157 hW.tx rfl ?_
    refine zp_ireturn (pc := 265) d_Yt_count_265 rfl ?_
    rw [k1_17] at k
    have k := k h V hW hR
    refine ansI k ?_
    rw [(c_ct_v F _ _).2.2.2.2.2.2.2.2.2.2.2.2.2.2.2.2.2]
  refine zp_tableOut (tgt := 266) (pc := 1) d_Yt_count_1 rw_ (by omega) (by decide) ?_
  refine zp_bipush (pc := 266) d_Yt_count_266 (by decide) ?_
  refine zp_ireturn (pc := 268) d_Yt_count_268 rfl ?_
  exact ansI (k h V hW hR) (c_ct_d (by omega))
end S55
