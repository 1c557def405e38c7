/-! ===== the law ===== -/
section S79
variable {E : gE} {B S : Nat} {h0 h : gH} {Q : Option Value → gH → Prop} {nv : Int} {F G K : Int → Int} {sn kp : Int}
variable {L b : Nat} {nm : String} {xf : Int → Int}
/-- the law, whatever it is called -/
abbrev mL (nm : String) : gMd := (⟨"YearTagsLaw", nm, "([I)Z"⟩, code, 8, (some .boolean), 8, 191)
theorem gw_one (hJ : J nv F) (h : 2 ≤ gw F 6000) : gw (shF F 6000) 6000 = 1 := by
  have hA := hJ.ac
  have hA2 : AC (shF F 6000) := shF_AC hA
  have e5 : shF F 6000 5 = F 5 := shF_lo (by omega)
  have key : ∀ x : Int, 0 ≤ x → x < 6000 → wy (shF F 6000) x ≤ 1 ∧ (0 < wy F x → wy (shF F 6000) x = 1) := fun x x0 x1 => by
    obtain ⟨d, hd, hc, hw⟩ := hA.en x0 x1
    obtain ⟨d', h1, h2, h3, h4, h5⟩ := shF_ch (i := 6000) hA hd hc
    have h6 := (ch_d (n := 0) hA2 (d := d') (by rw [e5]; omega) h2).1
    have h7 := h5 x1
    exact ⟨by omega, fun q => by omega⟩
  obtain ⟨g0, g1, g2⟩ := gw_max (shF F 6000) 6000
  obtain ⟨f0, f1, f2⟩ := gw_max F 6000
  rcases f2 with f2 | ⟨k, k1, k2⟩
  · omega
  · have a := (key k (by omega) (by omega)).2 (by omega)
    have b := g1 k k1
    rcases g2 with g2 | ⟨j, j1, j2⟩
    · omega
    · have c := (key j (by omega) (by omega)).1
      omega
/-- the object, whatever its row -/
def yPX (B S : Nat) (h0 : gH) (nv kp : Int) (K : Int → Int) (h : gH) : Prop := ∃ (F : Int → Int) (sn : Int) (G : Int → Int), yPW B S h0 nv F sn G kp K h
theorem yPW.px (hP : yPW B S h0 nv F sn G kp K h) : yPX B S h0 nv kp K h := ⟨F, sn, G, hP⟩
theorem ytL_len (s : Nat) : (ytL s).length = 517 := by
  show (((((stL (s + 1) ++ stL (s + 86)) ++ hyL (s + 171)) ++ txL (s + 513)) ++ [gI 30 fun _ => 0] : List gC).length + 1) = 517
  rw [List.length_append, List.length_append, List.length_append, List.length_append, stL_len, stL_len, hyL_len]
  rfl
/-- the object is new -/
theorem yPX.mk {c : Nat} {g : gH} (hT : TB h B (ytL B) c g) : yPX B g.2.2 g 0 0 Fz g := by
  have hz : g.2.1 = B + 517 := by rw [hT.1, ytL_len]
  have hC : CB g B (ytL B) := fun o x ho => hT.at ho
  exact ⟨Fz, 0, Fz, fun i => Xz (sA B i), 0, 0, 0, fun _ => 0, fun _ => 0, fun _ => 0, fun _ => -1, fun j => sA B 0 + 3 + j, 16, fun _ _ => 0, (CW.mk hC hz).cn 0, ⟨by omega, by omega, Or.inl rfl⟩, ⟨J.z, yPP.z⟩, RI.z, fun i _ _ => ⟨⟨J.z, yPP.z⟩, RI.z⟩, RI.z.1, fun q => absurd q (by omega), fun q => absurd q (by omega)⟩
theorem sn_pos {sn : Int} (h : 0 ≤ sn ∧ sn ≤ 4) : 0 < (if 4 < sn + 1 then 4 else sn + 1) := by
  split <;> omega
set_option maxRecDepth 100000 in
theorem lp_law_148 (hE : gOk E) (hB : gB E ≤ B) (hn : nv ≤ 40000000) (hP : yPW B S h0 nv F sn G kp K h) {t y : Int} {o2 o5 o7 : Option Value} (t0 : 0 ≤ t) (t1 : t < 24) (k : ∀ h : gH, yPW B S h0 nv F sn G kp K h → Wp E (mL nm) 176 [some (.ref b), some (.ref B), o2, some (.int (zI t)), some (.int (zI y)), o5, none, o7] [] h Q) : Wp E (mL nm) 148 [some (.ref b), some (.ref B), o2, some (.int (zI t)), some (.int (zI y)), o5, none, o7] [] h Q := by
  refine wp_iload_n (pc := 148) d_Lw_law_148 rfl ?_
  refine wp_iconst (pc := 149) d_Lw_law_149 ?_
  refine zp_irem (pc := 150) d_Lw_law_150 (by omega) (by omega) (by omega) (by omega) ?_
  refine wp_iconst (pc := 151) d_Lw_law_151 ?_
  refine zp_icmp_ne (tgt := 162) (pc := 152) d_Lw_law_152 (by decide) ⟨by omega, by omega⟩ ⟨by omega, by omega⟩ (fun c152 => ?_) (fun c152 => ?_)
  · refine wp_aload_n (pc := 162) d_Lw_law_162 rfl ?_
    refine wp_iload (pc := 163) d_Lw_law_163 rfl ?_
    refine zp_bipush (pc := 165) d_Lw_law_165 (by decide) ?_
    refine zp_ishr_any (pc := 167) d_Lw_law_167 (fun v167 r167 => ?_)
    refine wv_callS (n := 2) (As := [_, _]) (pc := 168) d_Lw_law_168 s_Lw_103 q_Lw_isTagged ⟨Nat.le_of_ble_eq_true rfl, Nat.le_of_ble_eq_true rfl⟩ rfl rfl rfl (Nat.le_of_ble_eq_true rfl) (Nat.le_of_ble_eq_true rfl) ?_
    refine sp_Lw_isTagged hE hB hn hP (fun h hP => ?_)
    refine ⟨_, rfl, ?_⟩
    refine zp_if_ne (tgt := 176) (pc := 171) d_Lw_law_171 (by decide) ⟨by omega, by omega⟩ (fun c171 => ?_) (fun c171 => (absurd c171 (by omega)))
    exact k h hP
  · refine wp_aload_n (pc := 155) d_Lw_law_155 rfl ?_
    refine wv_callS (n := 1) (As := [_]) (pc := 156) d_Lw_law_156 s_Lw_99 q_Lw_isSound ⟨Nat.le_of_ble_eq_true rfl, Nat.le_of_ble_eq_true rfl⟩ rfl rfl rfl (Nat.le_of_ble_eq_true rfl) (Nat.le_of_ble_eq_true rfl) ?_
    refine sp_Lw_isSound hE hB hn hP (fun h hP => ?_)
    refine ⟨_, rfl, ?_⟩
    refine zp_if_eq (tgt := 174) (pc := 159) d_Lw_law_159 (by decide) ⟨by omega, by omega⟩ (fun c159 => (absurd c159 (by omega))) (fun c159 => ?_)
    refine wp_aload_n (pc := 162) d_Lw_law_162 rfl ?_
    refine wp_iload (pc := 163) d_Lw_law_163 rfl ?_
    refine zp_bipush (pc := 165) d_Lw_law_165 (by decide) ?_
    refine zp_ishr_any (pc := 167) d_Lw_law_167 (fun v167 r167 => ?_)
    refine wv_callS (n := 2) (As := [_, _]) (pc := 168) d_Lw_law_168 s_Lw_103 q_Lw_isTagged ⟨Nat.le_of_ble_eq_true rfl, Nat.le_of_ble_eq_true rfl⟩ rfl rfl rfl (Nat.le_of_ble_eq_true rfl) (Nat.le_of_ble_eq_true rfl) ?_
    refine sp_Lw_isTagged hE hB hn hP (fun h hP => ?_)
    refine ⟨_, rfl, ?_⟩
    refine zp_if_ne (tgt := 176) (pc := 171) d_Lw_law_171 (by decide) ⟨by omega, by omega⟩ (fun c171 => ?_) (fun c171 => (absurd c171 (by omega)))
    exact k h hP
set_option maxRecDepth 100000 in
theorem lp_law_68 (hE : gOk E) (hB : gB E ≤ B) (hL : L ≤ 260) (hbB : b < B) (rx : ∀ j : Int, gR (xf j)) (hs : h0.1 b = some (.inr (99, L, fun j => .int (zI (xf (j : Int)))))) {o2 : Option Value} (k : ∀ (h : gH) (o4 o5 o7 : Option Value), yPX B S h0 (20000 * (3 + 24)) kp K h → Wp E (mL nm) 182 [some (.ref b), some (.ref B), o2, some (.int (zI ((24 : Nat) : Int))), o4, o5, none, o7] [] h Q) : ∀ (d t : Nat) (h : gH) (o4 o5 o7 : Option Value), t + d = 24 → yPX B S h0 (20000 * (3 + (t : Int))) kp K h → Wp E (mL nm) 68 [some (.ref b), some (.ref B), o2, some (.int (zI t)), o4, o5, none, o7] [] h Q := by
  intro d
  induction d with
  | zero =>
    intro t h o4 o5 o7 ht hPX
    refine wp_iload_n (pc := 68) d_Lw_law_68 rfl ?_
    refine zp_bipush (pc := 69) d_Lw_law_69 (by decide) ?_
    refine zp_icmp_ge (tgt := 182) (pc := 71) d_Lw_law_71 (by decide) ⟨by omega, by omega⟩ ⟨by omega, by omega⟩ (fun c71 => ?_) (fun c71 => (absurd c71 (by omega)))
    obtain rfl : t = 24 := by omega
    exact k h o4 o5 o7 hPX
  | succ d ih =>
    intro t h o4 o5 o7 ht hPX
    obtain ⟨F, sn, G, hP⟩ := hPX
    have hsn := hP.hsn
    have hsp := sn_pos hsn
    refine wp_iload_n (pc := 68) d_Lw_law_68 rfl ?_
    refine zp_bipush (pc := 69) d_Lw_law_69 (by decide) ?_
    refine zp_icmp_ge (tgt := 182) (pc := 71) d_Lw_law_71 (by decide) ⟨by omega, by omega⟩ ⟨by omega, by omega⟩ (fun c71 => (absurd c71 (by omega))) (fun c71 => ?_)
    refine wp_aload_n (pc := 74) d_Lw_law_74 rfl ?_
    refine wp_iconst (pc := 75) d_Lw_law_75 ?_
    refine wp_iload_n (pc := 76) d_Lw_law_76 rfl ?_
    refine zp_iadd (pc := 77) d_Lw_law_77 ?_
    refine wv_callS (n := 2) (As := [_, _]) (pc := 78) d_Lw_law_78 s_Lw_84 q_Lw_cell ⟨Nat.le_of_ble_eq_true rfl, Nat.le_of_ble_eq_true rfl⟩ rfl rfl rfl (Nat.le_of_ble_eq_true rfl) (Nat.le_of_ble_eq_true rfl) ?_
    refine sp_Lw_cell hE hL rx ((hP.lt hbB).trans hs) (by omega) (by omega) (fun v78 r78 => ?_)
    refine ⟨_, rfl, ?_⟩
    refine st_i4 (pc := 81) d_Lw_law_81 ⟨Nat.le_of_ble_eq_true rfl, rfl⟩ ?_
    refine wp_aload_n (pc := 83) d_Lw_law_83 rfl ?_
    refine wv_callS (n := 1) (As := [_]) (pc := 84) d_Lw_law_84 s_Lw_88 q_Lw_all ⟨Nat.le_of_ble_eq_true rfl, Nat.le_of_ble_eq_true rfl⟩ rfl rfl rfl (Nat.le_of_ble_eq_true rfl) (Nat.le_of_ble_eq_true rfl) ?_
    refine sp_Lw_all hE hB (by omega) hP (fun h hP => ?_)
    refine ⟨_, rfl, ?_⟩
    refine st_l5 (pc := 87) d_Lw_law_87 ⟨Nat.le_of_ble_eq_true rfl, rfl, rfl⟩ ?_
    refine wp_aload_n (pc := 89) d_Lw_law_89 rfl ?_
    refine wp_iload (pc := 90) d_Lw_law_90 rfl ?_
    refine wv_callS (n := 2) (As := [_, _]) (pc := 92) d_Lw_law_92 s_Lw_92 q_Lw_acts ⟨Nat.le_of_ble_eq_true rfl, Nat.le_of_ble_eq_true rfl⟩ rfl rfl rfl (Nat.le_of_ble_eq_true rfl) (Nat.le_of_ble_eq_true rfl) ?_
    refine sp_Lw_acts hE hB (by omega) hP (fun h c hc rc hP => ?_) (fun h c F2 hc rc hP => ?_)
    · refine ⟨_, rfl, ?_⟩
      refine st_i7 (pc := 95) d_Lw_law_95 ⟨Nat.le_of_ble_eq_true rfl, rfl⟩ ?_
      refine wp_iload (pc := 97) d_Lw_law_97 rfl ?_
      refine zp_if_ge (tgt := 114) (pc := 99) d_Lw_law_99 (by decide) rc (fun c99 => (absurd c99 (by omega))) (fun c99 => ?_)
      refine wp_aload_n (pc := 102) d_Lw_law_102 rfl ?_
      refine wv_callS (n := 1) (As := [_]) (pc := 103) d_Lw_law_103 s_Lw_88 q_Lw_all ⟨Nat.le_of_ble_eq_true rfl, Nat.le_of_ble_eq_true rfl⟩ rfl rfl rfl (Nat.le_of_ble_eq_true rfl) (Nat.le_of_ble_eq_true rfl) ?_
      refine sp_Lw_all hE hB (by omega) hP (fun h hP => ?_)
      refine ⟨_, rfl, ?_⟩
      refine wp_lload (pc := 106) d_Lw_law_106 rfl ?_
      refine wp_lcmp_same (pc := 108) d_Lw_law_108 ?_
      refine zp_if_eq (tgt := 114) (pc := 109) d_Lw_law_109 (by decide) ⟨by omega, by omega⟩ (fun c109 => ?_) (fun c109 => (absurd rfl c109))
      refine wp_iload (pc := 114) d_Lw_law_114 rfl ?_
      refine zp_if_lt (tgt := 148) (pc := 116) d_Lw_law_116 (by decide) rc (fun c116 => ?_) (fun c116 => (absurd c116 (by omega)))
      refine lp_law_148 hE hB (by omega) hP (by omega) (by omega) (fun h hP => ?_)
      refine st_c3 (pc := 176) d_Lw_law_176 ⟨Nat.le_of_ble_eq_true rfl, rfl⟩ ?_
      refine wp_goto (tgt := 68) (pc := 179) d_Lw_law_179 (by decide) ?_
      have zz := fun o4 o5 o7 => ih (t + 1) h o4 o5 o7 (by omega) (hP.mono (by omega)).px
      rw [show ((t + 1 : Nat) : Int) = (t : Int) + 1 from rfl] at zz
      exact zz _ _ _
    · refine ⟨_, rfl, ?_⟩
      refine st_i7 (pc := 95) d_Lw_law_95 ⟨Nat.le_of_ble_eq_true rfl, rfl⟩ ?_
      refine wp_iload (pc := 97) d_Lw_law_97 rfl ?_
      refine zp_if_ge (tgt := 114) (pc := 99) d_Lw_law_99 (by decide) rc (fun c99 => ?_) (fun c99 => (absurd c99 (by omega)))
      refine wp_iload (pc := 114) d_Lw_law_114 rfl ?_
      refine zp_if_lt (tgt := 148) (pc := 116) d_Lw_law_116 (by decide) rc (fun c116 => (absurd c116 (by omega))) (fun c116 => ?_)
      refine wp_iload (pc := 119) d_Lw_law_119 rfl ?_
      refine zp_bipush (pc := 121) d_Lw_law_121 (by decide) ?_
      refine zp_ishr_any (pc := 123) d_Lw_law_123 (fun v123 r123 => ?_)
      refine wp_iconst (pc := 124) d_Lw_law_124 ?_
      refine zp_iand_any (pc := 125) d_Lw_law_125 (fun v125 r125 => ?_)
      refine zp_if_ne (tgt := 148) (pc := 126) d_Lw_law_126 (by decide) r125 (fun c126 => ?_) (fun c126 => ?_)
      · refine lp_law_148 hE hB (by omega) hP (by omega) (by omega) (fun h hP => ?_)
        refine st_c3 (pc := 176) d_Lw_law_176 ⟨Nat.le_of_ble_eq_true rfl, rfl⟩ ?_
        refine wp_goto (tgt := 68) (pc := 179) d_Lw_law_179 (by decide) ?_
        have zz := fun o4 o5 o7 => ih (t + 1) h o4 o5 o7 (by omega) (hP.mono (by omega)).px
        rw [show ((t + 1 : Nat) : Int) = (t : Int) + 1 from rfl] at zz
        exact zz _ _ _
      · refine wp_aload_n (pc := 129) d_Lw_law_129 rfl ?_
        refine wv_callV (n := 0) (As := []) (pc := 130) d_Lw_law_130 s_Lw_96 q_Yt_undo ⟨Nat.le_of_ble_eq_true rfl, Nat.le_of_ble_eq_true rfl⟩ hP.yt rfl rfl rfl rfl (Nat.le_of_ble_eq_true rfl) (Nat.le_of_ble_eq_true rfl) ?_
        refine yc_undo hE hB hP hsp (fun h G2 hP => ?_)
        refine ⟨_, rfl, ?_⟩
        refine zp_if_lt (tgt := 146) (pc := 133) d_Lw_law_133 (by decide) ⟨by omega, by omega⟩ (fun c133 => (absurd c133 (by omega))) (fun c133 => ?_)
        refine wp_aload_n (pc := 136) d_Lw_law_136 rfl ?_
        refine wv_callS (n := 1) (As := [_]) (pc := 137) d_Lw_law_137 s_Lw_88 q_Lw_all ⟨Nat.le_of_ble_eq_true rfl, Nat.le_of_ble_eq_true rfl⟩ rfl rfl rfl (Nat.le_of_ble_eq_true rfl) (Nat.le_of_ble_eq_true rfl) ?_
        refine sp_Lw_all hE hB (by omega) hP (fun h hP => ?_)
        refine ⟨_, rfl, ?_⟩
        refine wp_lload (pc := 140) d_Lw_law_140 rfl ?_
        refine wp_lcmp_same (pc := 142) d_Lw_law_142 ?_
        refine zp_if_eq (tgt := 148) (pc := 143) d_Lw_law_143 (by decide) ⟨by omega, by omega⟩ (fun c143 => ?_) (fun c143 => (absurd rfl c143))
        refine lp_law_148 hE hB (by omega) hP (by omega) (by omega) (fun h hP => ?_)
        refine st_c3 (pc := 176) d_Lw_law_176 ⟨Nat.le_of_ble_eq_true rfl, rfl⟩ ?_
        refine wp_goto (tgt := 68) (pc := 179) d_Lw_law_179 (by decide) ?_
        have zz := fun o4 o5 o7 => ih (t + 1) h o4 o5 o7 (by omega) (hP.mono (by omega)).px
        rw [show ((t + 1 : Nat) : Int) = (t : Int) + 1 from rfl] at zz
        exact zz _ _ _
set_option maxRecDepth 100000 in
theorem lp_law_298 (hE : gOk E) (hB : gB E ≤ B) (hn : nv ≤ 40000000) {n0 : Int} (hJ : J n0 F) (hPX : yPX B S h0 nv 1 F h) {o2 o3 o4 o7 : Option Value} (k : ∀ h : gH, h.2.1 ≤ B + 180520 ∧ h.2.2 ≤ S + 540000 → Q (some (.int (zI 1))) h) : Wp E (mL nm) 298 [some (.ref b), some (.ref B), o2, o3, o4, some (.long (aL F)), none, o7] [] h Q := by
  have hsb := hJ.vd.1
  have bH : 0 ≤ sm (fun x => F (29 + 8 * x + 1)) 60 ∧ sm (fun x => F (29 + 8 * x + 1)) 60 ≤ 1 * ((60 : Nat) : Int) := sm_b (m := 1) (by omega) fun q hq => (hJ.vd.2.2.2.1 _ (by omega) (by omega)).2.1
  obtain ⟨F1, sn, G, hP⟩ := hPX
  have hsp := sn_pos hP.hsn
  refine wp_aload_n (pc := 298) d_Lw_law_298 rfl ?_
  refine wv_callV (n := 0) (As := []) (pc := 299) d_Lw_law_299 s_Lw_110 q_Yt_restore ⟨Nat.le_of_ble_eq_true rfl, Nat.le_of_ble_eq_true rfl⟩ hP.yt rfl rfl rfl rfl (Nat.le_of_ble_eq_true rfl) (Nat.le_of_ble_eq_true rfl) ?_
  refine yc_restore hE hB (by omega) hP (fun h hP => ?_)
  refine ⟨_, rfl, ?_⟩
  refine wp_aload_n (pc := 302) d_Lw_law_302 rfl ?_
  refine wp_iconst (pc := 303) d_Lw_law_303 ?_
  refine wv_callV (n := 1) (As := [_]) (pc := 304) d_Lw_law_304 s_Lw_12 q_Yt_count ⟨Nat.le_of_ble_eq_true rfl, Nat.le_of_ble_eq_true rfl⟩ hP.yt rfl rfl rfl rfl (Nat.le_of_ble_eq_true rfl) (Nat.le_of_ble_eq_true rfl) ?_
  refine yc_count hE hB (by omega) hP ⟨by omega, by omega⟩ (fun h ln hP => ?_)
  refine ⟨_, rfl, ?_⟩
  rw [(c_ct_v F _ ln).2.2.2.1]
  refine zp_icmp_ne (tgt := 425) (pc := 307) d_Lw_law_307 (by decide) ⟨by omega, by omega⟩ ⟨by omega, by omega⟩ (fun c307 => (absurd rfl c307)) (fun c307 => ?_)
  refine wp_aload_n (pc := 310) d_Lw_law_310 rfl ?_
  refine wv_callS (n := 1) (As := [_]) (pc := 311) d_Lw_law_311 s_Lw_88 q_Lw_all ⟨Nat.le_of_ble_eq_true rfl, Nat.le_of_ble_eq_true rfl⟩ rfl rfl rfl (Nat.le_of_ble_eq_true rfl) (Nat.le_of_ble_eq_true rfl) ?_
  refine sp_Lw_all hE hB (by omega) hP (fun h hP => ?_)
  refine ⟨_, rfl, ?_⟩
  refine wp_lload (pc := 314) d_Lw_law_314 rfl ?_
  refine wp_lcmp_same (pc := 316) d_Lw_law_316 ?_
  refine zp_if_ne (tgt := 425) (pc := 317) d_Lw_law_317 (by decide) ⟨by omega, by omega⟩ (fun c317 => (absurd rfl c317)) (fun c317 => ?_)
  refine wp_aload_n (pc := 320) d_Lw_law_320 rfl ?_
  refine wv_callV (n := 0) (As := []) (pc := 321) d_Lw_law_321 s_Lw_96 q_Yt_undo ⟨Nat.le_of_ble_eq_true rfl, Nat.le_of_ble_eq_true rfl⟩ hP.yt rfl rfl rfl rfl (Nat.le_of_ble_eq_true rfl) (Nat.le_of_ble_eq_true rfl) ?_
  refine yc_undo hE hB hP hsp (fun h G2 hP => ?_)
  refine ⟨_, rfl, ?_⟩
  refine zp_if_lt (tgt := 425) (pc := 324) d_Lw_law_324 (by decide) ⟨by omega, by omega⟩ (fun c324 => (absurd c324 (by omega))) (fun c324 => ?_)
  refine wp_aload_n (pc := 327) d_Lw_law_327 rfl ?_
  refine wv_callV (n := 0) (As := []) (pc := 328) d_Lw_law_328 s_Lw_110 q_Yt_restore ⟨Nat.le_of_ble_eq_true rfl, Nat.le_of_ble_eq_true rfl⟩ hP.yt rfl rfl rfl rfl (Nat.le_of_ble_eq_true rfl) (Nat.le_of_ble_eq_true rfl) ?_
  refine yc_restore hE hB (by omega) hP (fun h hP => ?_)
  refine ⟨_, rfl, ?_⟩
  refine zp_if_lt (tgt := 425) (pc := 331) d_Lw_law_331 (by decide) ⟨by omega, by omega⟩ (fun c331 => (absurd c331 (by omega))) (fun c331 => ?_)
  refine wp_aload_n (pc := 334) d_Lw_law_334 rfl ?_
  refine wv_callS (n := 1) (As := [_]) (pc := 335) d_Lw_law_335 s_Lw_88 q_Lw_all ⟨Nat.le_of_ble_eq_true rfl, Nat.le_of_ble_eq_true rfl⟩ rfl rfl rfl (Nat.le_of_ble_eq_true rfl) (Nat.le_of_ble_eq_true rfl) ?_
  refine sp_Lw_all hE hB (by omega) hP (fun h hP => ?_)
  refine ⟨_, rfl, ?_⟩
  refine wp_lload (pc := 338) d_Lw_law_338 rfl ?_
  refine wp_lcmp_same (pc := 340) d_Lw_law_340 ?_
  refine zp_if_ne (tgt := 425) (pc := 341) d_Lw_law_341 (by decide) ⟨by omega, by omega⟩ (fun c341 => (absurd rfl c341)) (fun c341 => ?_)
  refine wp_aload_n (pc := 344) d_Lw_law_344 rfl ?_
  refine wp_iconst (pc := 345) d_Lw_law_345 ?_
  refine wp_iconst (pc := 346) d_Lw_law_346 ?_
  refine wv_callV (n := 2) (As := [_, _]) (pc := 347) d_Lw_law_347 s_Lw_18 q_Yt_rack ⟨Nat.le_of_ble_eq_true rfl, Nat.le_of_ble_eq_true rfl⟩ hP.yt rfl rfl rfl rfl (Nat.le_of_ble_eq_true rfl) (Nat.le_of_ble_eq_true rfl) ?_
  refine yc_rack hE hB (by omega) hP ⟨by omega, by omega⟩ ⟨by omega, by omega⟩ (fun _ => ?_)
  refine ⟨_, rfl, ?_⟩
  rw [show c_rk F 5 0 = -1 from if_pos (by omega)]
  refine wp_iconst (pc := 350) d_Lw_law_350 ?_
  refine zp_icmp_ne (tgt := 425) (pc := 351) d_Lw_law_351 (by decide) ⟨by omega, by omega⟩ ⟨by omega, by omega⟩ (fun c351 => (absurd rfl c351)) (fun c351 => ?_)
  refine wp_aload_n (pc := 354) d_Lw_law_354 rfl ?_
  refine zp_bipush (pc := 355) d_Lw_law_355 (by decide) ?_
  refine wp_iconst (pc := 357) d_Lw_law_357 ?_
  refine wv_callV (n := 2) (As := [_, _]) (pc := 358) d_Lw_law_358 s_Lw_25 q_Yt_guest ⟨Nat.le_of_ble_eq_true rfl, Nat.le_of_ble_eq_true rfl⟩ hP.yt rfl rfl rfl rfl (Nat.le_of_ble_eq_true rfl) (Nat.le_of_ble_eq_true rfl) ?_
  refine yc_guest hE hB (by omega) hP ⟨by omega, by omega⟩ ⟨by omega, by omega⟩ (fun _ => ?_)
  refine ⟨_, rfl, ?_⟩
  rw [show c_gs F 20 0 = -1 from if_pos (by omega)]
  refine wp_iconst (pc := 361) d_Lw_law_361 ?_
  refine zp_icmp_ne (tgt := 425) (pc := 362) d_Lw_law_362 (by decide) ⟨by omega, by omega⟩ ⟨by omega, by omega⟩ (fun c362 => (absurd rfl c362)) (fun c362 => ?_)
  refine wp_aload_n (pc := 365) d_Lw_law_365 rfl ?_
  refine wp_iconst (pc := 366) d_Lw_law_366 ?_
  refine wp_iconst (pc := 367) d_Lw_law_367 ?_
  refine wv_callV (n := 2) (As := [_, _]) (pc := 368) d_Lw_law_368 s_Lw_25 q_Yt_guest ⟨Nat.le_of_ble_eq_true rfl, Nat.le_of_ble_eq_true rfl⟩ hP.yt rfl rfl rfl rfl (Nat.le_of_ble_eq_true rfl) (Nat.le_of_ble_eq_true rfl) ?_
  refine yc_guest hE hB (by omega) hP ⟨by omega, by omega⟩ ⟨by omega, by omega⟩ (fun _ => ?_)
  refine ⟨_, rfl, ?_⟩
  rw [show c_gs F 0 3 = -2 from rfl]
  refine zp_bipush (pc := 371) d_Lw_law_371 (by decide) ?_
  refine zp_icmp_ne (tgt := 425) (pc := 373) d_Lw_law_373 (by decide) ⟨by omega, by omega⟩ ⟨by omega, by omega⟩ (fun c373 => (absurd rfl c373)) (fun c373 => ?_)
  refine wp_aload_n (pc := 376) d_Lw_law_376 rfl ?_
  refine zp_bipush (pc := 377) d_Lw_law_377 (by decide) ?_
  refine wv_callV (n := 1) (As := [_]) (pc := 379) d_Lw_law_379 s_Lw_12 q_Yt_count ⟨Nat.le_of_ble_eq_true rfl, Nat.le_of_ble_eq_true rfl⟩ hP.yt rfl rfl rfl rfl (Nat.le_of_ble_eq_true rfl) (Nat.le_of_ble_eq_true rfl) ?_
  refine yc_count hE hB (by omega) hP ⟨by omega, by omega⟩ (fun h ln hP => ?_)
  refine ⟨_, rfl, ?_⟩
  rw [c_ct_d (F := F) (by omega)]
  refine zp_bipush (pc := 382) d_Lw_law_382 (by decide) ?_
  refine zp_icmp_ne (tgt := 425) (pc := 384) d_Lw_law_384 (by decide) ⟨by omega, by omega⟩ ⟨by omega, by omega⟩ (fun c384 => (absurd rfl c384)) (fun c384 => ?_)
  refine wp_aload_n (pc := 387) d_Lw_law_387 rfl ?_
  refine wp_iconst (pc := 388) d_Lw_law_388 ?_
  refine wp_iconst (pc := 389) d_Lw_law_389 ?_
  refine wv_callV (n := 2) (As := [_, _]) (pc := 390) d_Lw_law_390 s_Lw_28 q_Yt_event ⟨Nat.le_of_ble_eq_true rfl, Nat.le_of_ble_eq_true rfl⟩ hP.yt rfl rfl rfl rfl (Nat.le_of_ble_eq_true rfl) (Nat.le_of_ble_eq_true rfl) ?_
  refine yc_event hE hB (by omega) hP ⟨by omega, by omega⟩ ⟨by omega, by omega⟩ (fun _ => ?_)
  refine ⟨_, rfl, ?_⟩
  rw [show c_ev F (-1) 0 = -2 from if_pos (by omega)]
  refine zp_bipush (pc := 393) d_Lw_law_393 (by decide) ?_
  refine zp_icmp_ne (tgt := 425) (pc := 395) d_Lw_law_395 (by decide) ⟨by omega, by omega⟩ ⟨by omega, by omega⟩ (fun c395 => (absurd rfl c395)) (fun c395 => ?_)
  refine wp_aload_n (pc := 398) d_Lw_law_398 rfl ?_
  refine wp_iconst (pc := 399) d_Lw_law_399 ?_
  refine wp_iconst (pc := 400) d_Lw_law_400 ?_
  refine wv_callV (n := 2) (As := [_, _]) (pc := 401) d_Lw_law_401 s_Lw_28 q_Yt_event ⟨Nat.le_of_ble_eq_true rfl, Nat.le_of_ble_eq_true rfl⟩ hP.yt rfl rfl rfl rfl (Nat.le_of_ble_eq_true rfl) (Nat.le_of_ble_eq_true rfl) ?_
  refine yc_event hE hB (by omega) hP ⟨by omega, by omega⟩ ⟨by omega, by omega⟩ (fun _ => ?_)
  refine ⟨_, rfl, ?_⟩
  rw [show c_ev F 0 3 = -2 from rfl]
  refine zp_bipush (pc := 404) d_Lw_law_404 (by decide) ?_
  refine zp_icmp_ne (tgt := 425) (pc := 406) d_Lw_law_406 (by decide) ⟨by omega, by omega⟩ ⟨by omega, by omega⟩ (fun c406 => (absurd rfl c406)) (fun c406 => ?_)
  refine wp_aload_n (pc := 409) d_Lw_law_409 rfl ?_
  refine zp_bipush (pc := 410) d_Lw_law_410 (by decide) ?_
  refine wp_iconst (pc := 412) d_Lw_law_412 ?_
  refine wv_callV (n := 2) (As := [_, _]) (pc := 413) d_Lw_law_413 s_Lw_28 q_Yt_event ⟨Nat.le_of_ble_eq_true rfl, Nat.le_of_ble_eq_true rfl⟩ hP.yt rfl rfl rfl rfl (Nat.le_of_ble_eq_true rfl) (Nat.le_of_ble_eq_true rfl) ?_
  refine yc_event hE hB (by omega) hP ⟨by omega, by omega⟩ ⟨by omega, by omega⟩ (fun _ => ?_)
  refine ⟨_, rfl, ?_⟩
  rw [show c_ev F 10 0 = -5 from rfl]
  refine zp_bipush (pc := 416) d_Lw_law_416 (by decide) ?_
  refine zp_icmp_ne (tgt := 425) (pc := 418) d_Lw_law_418 (by decide) ⟨by omega, by omega⟩ ⟨by omega, by omega⟩ (fun c418 => (absurd rfl c418)) (fun c418 => ?_)
  refine wp_iconst (pc := 421) d_Lw_law_421 ?_
  refine wp_goto (tgt := 426) (pc := 422) d_Lw_law_422 (by decide) ?_
  refine zp_zreturn (pc := 426) d_Lw_law_426 rfl rfl ?_
  exact k h hP.room
set_option maxRecDepth 100000 in
theorem lp_law_291 (hE : gOk E) (hB : gB E ≤ B) (hn : nv ≤ 39000000) {n0 : Int} (hJ : J n0 F) (hPX : yPX B S h0 nv 1 F h) {o2 o3 o4 o7 : Option Value} (k : ∀ h : gH, h.2.1 ≤ B + 180520 ∧ h.2.2 ≤ S + 540000 → Q (some (.int (zI 1))) h) : Wp E (mL nm) 291 [some (.ref b), some (.ref B), o2, o3, o4, some (.long (aL F)), none, o7] [] h Q := by
  obtain ⟨F1, sn, G, hP⟩ := hPX
  refine wp_aload_n (pc := 291) d_Lw_law_291 rfl ?_
  refine wp_iconst (pc := 292) d_Lw_law_292 ?_
  refine wp_iconst (pc := 293) d_Lw_law_293 ?_
  refine wv_callV (n := 2) (As := [_, _]) (pc := 294) d_Lw_law_294 s_Lw_64 q_Yt_take ⟨Nat.le_of_ble_eq_true rfl, Nat.le_of_ble_eq_true rfl⟩ hP.yt rfl rfl rfl rfl (Nat.le_of_ble_eq_true rfl) (Nat.le_of_ble_eq_true rfl) ?_
  refine yc_take hE hB (by omega) hP ⟨by omega, by omega⟩ ⟨by omega, by omega⟩ (fun hc hP => ?_) (fun hc h hP => ?_)
  · refine ⟨_, rfl, ?_⟩
    refine wp_pop (pc := 297) d_Lw_law_297 rfl ?_
    exact lp_law_298 hE hB (by omega) hJ hP.px k
  · refine ⟨_, rfl, ?_⟩
    refine wp_pop (pc := 297) d_Lw_law_297 rfl ?_
    exact lp_law_298 hE hB (nv := nv + 20000) (by omega) hJ hP.px k
set_option maxRecDepth 100000 in
theorem lp_law_264 (hE : gOk E) (hB : gB E ≤ B) (hn : nv ≤ 30000000) (hP : yPW B S h0 nv F sn G kp K h) {o2 o3 o4 o5 o7 : Option Value} (k : ∀ h : gH, h.2.1 ≤ B + 180520 ∧ h.2.2 ≤ S + 540000 → Q (some (.int (zI 1))) h) : Wp E (mL nm) 264 [some (.ref b), some (.ref B), o2, o3, o4, o5, none, o7] [] h Q := by
  have hJ := hP.jp.1
  have hsb := hJ.vd.1
  have bH : 0 ≤ sm (fun x => F (29 + 8 * x + 1)) 60 ∧ sm (fun x => F (29 + 8 * x + 1)) 60 ≤ 1 * ((60 : Nat) : Int) := sm_b (m := 1) (by omega) fun q hq => (hJ.vd.2.2.2.1 _ (by omega) (by omega)).2.1
  refine wp_aload_n (pc := 264) d_Lw_law_264 rfl ?_
  refine wv_callS (n := 1) (As := [_]) (pc := 265) d_Lw_law_265 s_Lw_88 q_Lw_all ⟨Nat.le_of_ble_eq_true rfl, Nat.le_of_ble_eq_true rfl⟩ rfl rfl rfl (Nat.le_of_ble_eq_true rfl) (Nat.le_of_ble_eq_true rfl) ?_
  refine sp_Lw_all hE hB (by omega) hP (fun h hP => ?_)
  refine ⟨_, rfl, ?_⟩
  refine st_l5 (pc := 268) d_Lw_law_268 ⟨Nat.le_of_ble_eq_true rfl, rfl, rfl⟩ ?_
  refine wp_aload_n (pc := 270) d_Lw_law_270 rfl ?_
  refine wv_callV (n := 0) (As := []) (pc := 271) d_Lw_law_271 s_Lw_107 q_Yt_keep ⟨Nat.le_of_ble_eq_true rfl, Nat.le_of_ble_eq_true rfl⟩ hP.yt rfl rfl rfl rfl (Nat.le_of_ble_eq_true rfl) (Nat.le_of_ble_eq_true rfl) ?_
  refine yc_keep hE hB (by omega) hP (fun h hP => ?_)
  refine ⟨_, rfl, ?_⟩
  refine wp_aload_n (pc := 274) d_Lw_law_274 rfl ?_
  refine wp_iconst (pc := 275) d_Lw_law_275 ?_
  refine wv_callV (n := 1) (As := [_]) (pc := 276) d_Lw_law_276 s_Lw_12 q_Yt_count ⟨Nat.le_of_ble_eq_true rfl, Nat.le_of_ble_eq_true rfl⟩ hP.yt rfl rfl rfl rfl (Nat.le_of_ble_eq_true rfl) (Nat.le_of_ble_eq_true rfl) ?_
  refine yc_count hE hB (by omega) hP ⟨by omega, by omega⟩ (fun h ln hP => ?_)
  refine ⟨_, rfl, ?_⟩
  rw [(c_ct_v F _ ln).2.2.2.1]
  refine zp_icmp_eq (tgt := 284) (pc := 279) d_Lw_law_279 (by decide) ⟨by omega, by omega⟩ ⟨by omega, by omega⟩ (fun c279 => ?_) (fun c279 => (absurd rfl c279))
  refine wp_aload_n (pc := 284) d_Lw_law_284 rfl ?_
  refine zp_bipush (pc := 285) d_Lw_law_285 (by decide) ?_
  refine wv_callV (n := 1) (As := [_]) (pc := 287) d_Lw_law_287 s_Lw_80 q_Yt_pass ⟨Nat.le_of_ble_eq_true rfl, Nat.le_of_ble_eq_true rfl⟩ hP.yt rfl rfl rfl rfl (Nat.le_of_ble_eq_true rfl) (Nat.le_of_ble_eq_true rfl) ?_
  refine yc_pass hE hB (by omega) hP ⟨by omega, by omega⟩ (fun hc hP => ?_) (fun hc h hP => ?_)
  · refine ⟨_, rfl, ?_⟩
    refine wp_pop (pc := 290) d_Lw_law_290 rfl ?_
    exact lp_law_291 hE hB (nv := nv + 20000) (by omega) hJ (hP.mono (by omega)).px k
  · refine ⟨_, rfl, ?_⟩
    refine wp_pop (pc := 290) d_Lw_law_290 rfl ?_
    exact lp_law_291 hE hB (nv := nv + 20000) (by omega) hJ hP.px k
set_option maxRecDepth 100000 in
theorem lp_law_182 (hE : gOk E) (hB : gB E ≤ B) (hn : nv ≤ 20000000) (hP : yPW B S h0 nv F sn G kp K h) {o2 o3 o4 o5 o7 : Option Value} (k : ∀ h : gH, h.2.1 ≤ B + 180520 ∧ h.2.2 ≤ S + 540000 → Q (some (.int (zI 1))) h) : Wp E (mL nm) 182 [some (.ref b), some (.ref B), o2, o3, o4, o5, none, o7] [] h Q := by
  have hJ := hP.jp.1
  have hsp := sn_pos hP.hsn
  have hgm := (gw_max F 6000).1
  have hgb := gw_b hJ.vd hJ.ac 6000 (by omega)
  have hsh := gw_sh F
  have hnb := nSh_b F 6000
  have hcs : (nSh F 6000 = 0 → c_sh F = -5) ∧ (¬ nSh F 6000 = 0 → c_sh F = nSh F 6000) := by
    unfold c_sh
    split <;> omega
  refine wp_aload_n (pc := 182) d_Lw_law_182 rfl ?_
  refine zp_bipush (pc := 183) d_Lw_law_183 (by decide) ?_
  refine wv_callV (n := 1) (As := [_]) (pc := 185) d_Lw_law_185 s_Lw_12 q_Yt_count ⟨Nat.le_of_ble_eq_true rfl, Nat.le_of_ble_eq_true rfl⟩ hP.yt rfl rfl rfl rfl (Nat.le_of_ble_eq_true rfl) (Nat.le_of_ble_eq_true rfl) ?_
  refine yc_count hE hB (by omega) hP ⟨by omega, by omega⟩ (fun h ln hP => ?_)
  refine ⟨_, rfl, ?_⟩
  rw [(c_ct_v F _ ln).2.2.2.2.2.2.2.2.2.2.2.2.1]
  refine st_i3 (pc := 188) d_Lw_law_188 ⟨Nat.le_of_ble_eq_true rfl, rfl⟩ ?_
  refine wp_aload_n (pc := 189) d_Lw_law_189 rfl ?_
  refine wv_callV (n := 0) (As := []) (pc := 190) d_Lw_law_190 s_Lw_76 q_Yt_shorten ⟨Nat.le_of_ble_eq_true rfl, Nat.le_of_ble_eq_true rfl⟩ hP.yt rfl rfl rfl rfl (Nat.le_of_ble_eq_true rfl) (Nat.le_of_ble_eq_true rfl) ?_
  refine yc_shorten hE hB (by omega) hP (fun hc h hP => ?_) (fun hc h hP => ?_)
  · refine ⟨_, rfl, ?_⟩
    have hm : gw F 6000 < 2 ∧ c_sh F = -5 := by omega
    refine st_i4 (pc := 193) d_Lw_law_193 ⟨Nat.le_of_ble_eq_true rfl, rfl⟩ ?_
    refine wp_iload (pc := 195) d_Lw_law_195 rfl ?_
    refine zp_if_le (tgt := 204) (pc := 197) d_Lw_law_197 (by decide) ⟨by omega, by omega⟩ (fun c197 => ?_) (fun c197 => (absurd c197 (by omega)))
    refine wp_iconst (pc := 204) d_Lw_law_204 ?_
    refine wp_iload_n (pc := 205) d_Lw_law_205 rfl ?_
    refine wp_iconst (pc := 206) d_Lw_law_206 ?_
    refine zp_icmp_le (tgt := 214) (pc := 207) d_Lw_law_207 (by decide) ⟨by omega, by omega⟩ ⟨by omega, by omega⟩ (fun c207 => ?_) (fun c207 => (absurd c207 (by omega)))
    refine wp_iconst (pc := 214) d_Lw_law_214 ?_
    refine zp_icmp_ne (tgt := 262) (pc := 215) d_Lw_law_215 (by decide) ⟨by omega, by omega⟩ ⟨by omega, by omega⟩ (fun c215 => (absurd rfl c215)) (fun c215 => ?_)
    refine wp_iload (pc := 218) d_Lw_law_218 rfl ?_
    refine zp_if_ge (tgt := 230) (pc := 220) d_Lw_law_220 (by decide) ⟨by omega, by omega⟩ (fun c220 => (absurd c220 (by omega))) (fun c220 => ?_)
    refine wp_iload (pc := 223) d_Lw_law_223 rfl ?_
    refine zp_bipush (pc := 225) d_Lw_law_225 (by decide) ?_
    refine zp_icmp_ne (tgt := 262) (pc := 227) d_Lw_law_227 (by decide) ⟨by omega, by omega⟩ ⟨by omega, by omega⟩ (fun c227 => (absurd hm.2 c227)) (fun c227 => ?_)
    refine wp_iload (pc := 230) d_Lw_law_230 rfl ?_
    refine zp_if_le (tgt := 264) (pc := 232) d_Lw_law_232 (by decide) ⟨by omega, by omega⟩ (fun c232 => ?_) (fun c232 => (absurd c232 (by omega)))
    exact lp_law_264 hE hB (by omega) hP k
  · refine ⟨_, rfl, ?_⟩
    have hm : 2 ≤ gw F 6000 ∧ 0 < c_sh F ∧ c_sh F ≤ 6000 := by omega
    refine st_i4 (pc := 193) d_Lw_law_193 ⟨Nat.le_of_ble_eq_true rfl, rfl⟩ ?_
    refine wp_iload (pc := 195) d_Lw_law_195 rfl ?_
    refine zp_if_le (tgt := 204) (pc := 197) d_Lw_law_197 (by decide) ⟨by omega, by omega⟩ (fun c197 => (absurd c197 (by omega))) (fun c197 => ?_)
    refine wp_iconst (pc := 200) d_Lw_law_200 ?_
    refine wp_goto (tgt := 205) (pc := 201) d_Lw_law_201 (by decide) ?_
    refine wp_iload_n (pc := 205) d_Lw_law_205 rfl ?_
    refine wp_iconst (pc := 206) d_Lw_law_206 ?_
    refine zp_icmp_le (tgt := 214) (pc := 207) d_Lw_law_207 (by decide) ⟨by omega, by omega⟩ ⟨by omega, by omega⟩ (fun c207 => (absurd c207 (by omega))) (fun c207 => ?_)
    refine wp_iconst (pc := 210) d_Lw_law_210 ?_
    refine wp_goto (tgt := 215) (pc := 211) d_Lw_law_211 (by decide) ?_
    refine zp_icmp_ne (tgt := 262) (pc := 215) d_Lw_law_215 (by decide) ⟨by omega, by omega⟩ ⟨by omega, by omega⟩ (fun c215 => (absurd rfl c215)) (fun c215 => ?_)
    refine wp_iload (pc := 218) d_Lw_law_218 rfl ?_
    refine zp_if_ge (tgt := 230) (pc := 220) d_Lw_law_220 (by decide) ⟨by omega, by omega⟩ (fun c220 => ?_) (fun c220 => (absurd c220 (by omega)))
    refine wp_iload (pc := 230) d_Lw_law_230 rfl ?_
    refine zp_if_le (tgt := 264) (pc := 232) d_Lw_law_232 (by decide) ⟨by omega, by omega⟩ (fun c232 => (absurd c232 (by omega))) (fun c232 => ?_)
    refine wp_aload_n (pc := 235) d_Lw_law_235 rfl ?_
    refine zp_bipush (pc := 236) d_Lw_law_236 (by decide) ?_
    refine wv_callV (n := 1) (As := [_]) (pc := 238) d_Lw_law_238 s_Lw_12 q_Yt_count ⟨Nat.le_of_ble_eq_true rfl, Nat.le_of_ble_eq_true rfl⟩ hP.yt rfl rfl rfl rfl (Nat.le_of_ble_eq_true rfl) (Nat.le_of_ble_eq_true rfl) ?_
    refine yc_count hE hB (by omega) hP ⟨by omega, by omega⟩ (fun h ln hP => ?_)
    refine ⟨_, rfl, ?_⟩
    rw [(c_ct_v (shF F 6000) _ ln).2.2.2.2.2.2.2.2.2.2.2.2.1, gw_one hJ hm.1]
    refine wp_iconst (pc := 241) d_Lw_law_241 ?_
    refine zp_icmp_ne (tgt := 262) (pc := 242) d_Lw_law_242 (by decide) ⟨by omega, by omega⟩ ⟨by omega, by omega⟩ (fun c242 => (absurd rfl c242)) (fun c242 => ?_)
    refine wp_aload_n (pc := 245) d_Lw_law_245 rfl ?_
    refine wv_callV (n := 0) (As := []) (pc := 246) d_Lw_law_246 s_Lw_96 q_Yt_undo ⟨Nat.le_of_ble_eq_true rfl, Nat.le_of_ble_eq_true rfl⟩ hP.yt rfl rfl rfl rfl (Nat.le_of_ble_eq_true rfl) (Nat.le_of_ble_eq_true rfl) ?_
    refine yc_undo hE hB hP hsp (fun h G2 hP => ?_)
    refine ⟨_, rfl, ?_⟩
    refine zp_if_lt (tgt := 262) (pc := 249) d_Lw_law_249 (by decide) ⟨by omega, by omega⟩ (fun c249 => (absurd c249 (by omega))) (fun c249 => ?_)
    refine wp_aload_n (pc := 252) d_Lw_law_252 rfl ?_
    refine zp_bipush (pc := 253) d_Lw_law_253 (by decide) ?_
    refine wv_callV (n := 1) (As := [_]) (pc := 255) d_Lw_law_255 s_Lw_12 q_Yt_count ⟨Nat.le_of_ble_eq_true rfl, Nat.le_of_ble_eq_true rfl⟩ hP.yt rfl rfl rfl rfl (Nat.le_of_ble_eq_true rfl) (Nat.le_of_ble_eq_true rfl) ?_
    refine yc_count hE hB (by omega) hP ⟨by omega, by omega⟩ (fun h ln hP => ?_)
    refine ⟨_, rfl, ?_⟩
    rw [(c_ct_v F _ ln).2.2.2.2.2.2.2.2.2.2.2.2.1]
    refine wp_iload_n (pc := 258) d_Lw_law_258 rfl ?_
    refine zp_icmp_eq (tgt := 264) (pc := 259) d_Lw_law_259 (by decide) ⟨by omega, by omega⟩ ⟨by omega, by omega⟩ (fun c259 => ?_) (fun c259 => (absurd rfl c259))
    exact lp_law_264 hE hB (nv := nv + 20000) (by omega) hP k
set_option maxRecDepth 100000 in
theorem lp_law_66 (hE : gOk E) (hB : gB E ≤ B) (hL : L ≤ 260) (hbB : b < B) (rx : ∀ j : Int, gR (xf j)) (hs : h0.1 b = some (.inr (99, L, fun j => .int (zI (xf (j : Int)))))) (hPX : yPX B S h0 60000 kp K h) {o2 o3 o4 o5 o7 : Option Value} (k : ∀ h : gH, h.2.1 ≤ B + 180520 ∧ h.2.2 ≤ S + 540000 → Q (some (.int (zI 1))) h) : Wp E (mL nm) 66 [some (.ref b), some (.ref B), o2, o3, o4, o5, none, o7] [] h Q := by
  refine wp_iconst (pc := 66) d_Lw_law_66 ?_
  refine st_i3 (pc := 67) d_Lw_law_67 ⟨Nat.le_of_ble_eq_true rfl, rfl⟩ ?_
  refine lp_law_68 hE hB hL hbB rx hs (fun h o4 o5 o7 hPX => ?_) 24 0 h _ _ _ rfl hPX
  obtain ⟨F, sn, G, hP⟩ := hPX
  exact lp_law_182 hE hB (by omega) hP k
set_option maxRecDepth 100000 in
theorem lp_law_51 (hE : gOk E) (hB : gB E ≤ B) (hL : L ≤ 260) (hbB : b < B) (rx : ∀ j : Int, gR (xf j)) (hs : h0.1 b = some (.inr (99, L, fun j => .int (zI (xf (j : Int)))))) (hPX : yPX B S h0 40000 kp K h) {z : Int} {o3 o4 o5 o7 : Option Value} (k : ∀ h : gH, h.2.1 ≤ B + 180520 ∧ h.2.2 ≤ S + 540000 → Q (some (.int (zI 1))) h) : Wp E (mL nm) 51 [some (.ref b), some (.ref B), some (.int (zI z)), o3, o4, o5, none, o7] [] h Q := by
  obtain ⟨F, sn, G, hP⟩ := hPX
  refine wp_aload_n (pc := 51) d_Lw_law_51 rfl ?_
  refine wp_iload_n (pc := 52) d_Lw_law_52 rfl ?_
  refine zp_bipush (pc := 53) d_Lw_law_53 (by decide) ?_
  refine zp_ishr_any (pc := 55) d_Lw_law_55 (fun v55 r55 => ?_)
  refine zp_bipush (pc := 56) d_Lw_law_56 (by decide) ?_
  refine wv_callS (n := 2) (As := [_, _]) (pc := 58) d_Lw_law_58 s_Lw_45 q_Lw_low ⟨Nat.le_of_ble_eq_true rfl, Nat.le_of_ble_eq_true rfl⟩ rfl rfl rfl (Nat.le_of_ble_eq_true rfl) (Nat.le_of_ble_eq_true rfl) ?_
  refine sp_Lw_low (by omega) (by omega) (fun r58 r58a r58b => ?_)
  refine ⟨_, rfl, ?_⟩
  refine wp_iconst (pc := 61) d_Lw_law_61 ?_
  refine wv_callV (n := 2) (As := [_, _]) (pc := 62) d_Lw_law_62 s_Lw_64 q_Yt_take ⟨Nat.le_of_ble_eq_true rfl, Nat.le_of_ble_eq_true rfl⟩ hP.yt rfl rfl rfl rfl (Nat.le_of_ble_eq_true rfl) (Nat.le_of_ble_eq_true rfl) ?_
  refine yc_take hE hB (by omega) hP ⟨by omega, by omega⟩ ⟨by omega, by omega⟩ (fun hc hP => ?_) (fun hc h hP => ?_)
  · refine ⟨_, rfl, ?_⟩
    refine wp_pop (pc := 65) d_Lw_law_65 rfl ?_
    exact lp_law_66 hE hB hL hbB rx hs (hP.mono (by omega)).px k
  · refine ⟨_, rfl, ?_⟩
    refine wp_pop (pc := 65) d_Lw_law_65 rfl ?_
    exact lp_law_66 hE hB hL hbB rx hs (hP.mono (by omega)).px k
set_option maxRecDepth 100000 in
theorem lp_law_27 (hE : gOk E) (hB : gB E ≤ B) (hL : L ≤ 260) (hbB : b < B) (rx : ∀ j : Int, gR (xf j)) (hs : h0.1 b = some (.inr (99, L, fun j => .int (zI (xf (j : Int)))))) (hPX : yPX B S h0 20000 kp K h) {z : Int} {o3 o4 o5 o7 : Option Value} (k : ∀ h : gH, h.2.1 ≤ B + 180520 ∧ h.2.2 ≤ S + 540000 → Q (some (.int (zI 1))) h) : Wp E (mL nm) 27 [some (.ref b), some (.ref B), some (.int (zI z)), o3, o4, o5, none, o7] [] h Q := by
  obtain ⟨F, sn, G, hP⟩ := hPX
  refine wp_aload_n (pc := 27) d_Lw_law_27 rfl ?_
  refine wp_iconst (pc := 28) d_Lw_law_28 ?_
  refine wp_iload_n (pc := 29) d_Lw_law_29 rfl ?_
  refine wp_iconst (pc := 30) d_Lw_law_30 ?_
  refine zp_ishr_any (pc := 31) d_Lw_law_31 (fun v31 r31 => ?_)
  refine wp_iconst (pc := 32) d_Lw_law_32 ?_
  refine wv_callS (n := 2) (As := [_, _]) (pc := 33) d_Lw_law_33 s_Lw_45 q_Lw_low ⟨Nat.le_of_ble_eq_true rfl, Nat.le_of_ble_eq_true rfl⟩ rfl rfl rfl (Nat.le_of_ble_eq_true rfl) (Nat.le_of_ble_eq_true rfl) ?_
  refine sp_Lw_low (by omega) (by omega) (fun r33 r33a r33b => ?_)
  refine ⟨_, rfl, ?_⟩
  refine zp_iadd (pc := 36) d_Lw_law_36 ?_
  refine wp_iconst (pc := 37) d_Lw_law_37 ?_
  refine wp_iload_n (pc := 38) d_Lw_law_38 rfl ?_
  refine zp_bipush (pc := 39) d_Lw_law_39 (by decide) ?_
  refine zp_ishr_any (pc := 41) d_Lw_law_41 (fun v41 r41 => ?_)
  refine wp_iconst (pc := 42) d_Lw_law_42 ?_
  refine wv_callS (n := 2) (As := [_, _]) (pc := 43) d_Lw_law_43 s_Lw_45 q_Lw_low ⟨Nat.le_of_ble_eq_true rfl, Nat.le_of_ble_eq_true rfl⟩ rfl rfl rfl (Nat.le_of_ble_eq_true rfl) (Nat.le_of_ble_eq_true rfl) ?_
  refine sp_Lw_low (by omega) (by omega) (fun r43 r43a r43b => ?_)
  refine ⟨_, rfl, ?_⟩
  refine zp_iadd (pc := 46) d_Lw_law_46 ?_
  refine wv_callV (n := 2) (As := [_, _]) (pc := 47) d_Lw_law_47 s_Lw_51 q_Yt_addRack ⟨Nat.le_of_ble_eq_true rfl, Nat.le_of_ble_eq_true rfl⟩ hP.yt rfl rfl rfl rfl (Nat.le_of_ble_eq_true rfl) (Nat.le_of_ble_eq_true rfl) ?_
  refine yc_addRack hE hB (by omega) hP ⟨by omega, by omega⟩ ⟨by omega, by omega⟩ (fun hc hP => ?_) (fun hc h hP => ?_)
  · refine ⟨_, rfl, ?_⟩
    refine wp_pop (pc := 50) d_Lw_law_50 rfl ?_
    exact lp_law_51 hE hB hL hbB rx hs (hP.mono (by omega)).px k
  · refine ⟨_, rfl, ?_⟩
    refine wp_pop (pc := 50) d_Lw_law_50 rfl ?_
    exact lp_law_51 hE hB hL hbB rx hs (hP.mono (by omega)).px k
set_option maxRecDepth 100000 in
theorem lp_law_14 (hE : gOk E) (hB : gB E ≤ B) (hL : L ≤ 260) (hbB : b < B) (rx : ∀ j : Int, gR (xf j)) (hs : h0.1 b = some (.inr (99, L, fun j => .int (zI (xf (j : Int)))))) (hPX : yPX B S h0 0 kp K h) {z : Int} {o3 o4 o5 o7 : Option Value} (k : ∀ h : gH, h.2.1 ≤ B + 180520 ∧ h.2.2 ≤ S + 540000 → Q (some (.int (zI 1))) h) : Wp E (mL nm) 14 [some (.ref b), some (.ref B), some (.int (zI z)), o3, o4, o5, none, o7] [] h Q := by
  obtain ⟨F, sn, G, hP⟩ := hPX
  refine wp_aload_n (pc := 14) d_Lw_law_14 rfl ?_
  refine wp_iconst (pc := 15) d_Lw_law_15 ?_
  refine wp_iload_n (pc := 16) d_Lw_law_16 rfl ?_
  refine wp_iconst (pc := 17) d_Lw_law_17 ?_
  refine wv_callS (n := 2) (As := [_, _]) (pc := 18) d_Lw_law_18 s_Lw_45 q_Lw_low ⟨Nat.le_of_ble_eq_true rfl, Nat.le_of_ble_eq_true rfl⟩ rfl rfl rfl (Nat.le_of_ble_eq_true rfl) (Nat.le_of_ble_eq_true rfl) ?_
  refine sp_Lw_low (by omega) (by omega) (fun r18 r18a r18b => ?_)
  refine ⟨_, rfl, ?_⟩
  refine zp_iadd (pc := 21) d_Lw_law_21 ?_
  refine wp_iconst (pc := 22) d_Lw_law_22 ?_
  refine wv_callV (n := 2) (As := [_, _]) (pc := 23) d_Lw_law_23 s_Lw_51 q_Yt_addRack ⟨Nat.le_of_ble_eq_true rfl, Nat.le_of_ble_eq_true rfl⟩ hP.yt rfl rfl rfl rfl (Nat.le_of_ble_eq_true rfl) (Nat.le_of_ble_eq_true rfl) ?_
  refine yc_addRack hE hB (by omega) hP ⟨by omega, by omega⟩ ⟨by omega, by omega⟩ (fun hc hP => ?_) (fun hc h hP => ?_)
  · refine ⟨_, rfl, ?_⟩
    refine wp_pop (pc := 26) d_Lw_law_26 rfl ?_
    exact lp_law_27 hE hB hL hbB rx hs (hP.mono (by omega)).px k
  · refine ⟨_, rfl, ?_⟩
    refine wp_pop (pc := 26) d_Lw_law_26 rfl ?_
    exact lp_law_27 hE hB hL hbB rx hs (hP.mono (by omega)).px k
set_option maxRecDepth 100000 in
theorem lp_law_8 (hE : gOk E) (hB : gB E ≤ B) (hL : L ≤ 260) (hbB : b < B) (rx : ∀ j : Int, gR (xf j)) (hs : h0.1 b = some (.inr (99, L, fun j => .int (zI (xf (j : Int)))))) (hPX : yPX B S h0 0 kp K h) {o2 o3 o4 o5 o7 : Option Value} (k : ∀ h : gH, h.2.1 ≤ B + 180520 ∧ h.2.2 ≤ S + 540000 → Q (some (.int (zI 1))) h) : Wp E (mL nm) 8 [some (.ref b), some (.ref B), o2, o3, o4, o5, none, o7] [] h Q := by
  obtain ⟨F, sn, G, hP⟩ := hPX
  refine wp_aload_n (pc := 8) d_Lw_law_8 rfl ?_
  refine wp_iconst (pc := 9) d_Lw_law_9 ?_
  refine wv_callS (n := 2) (As := [_, _]) (pc := 10) d_Lw_law_10 s_Lw_84 q_Lw_cell ⟨Nat.le_of_ble_eq_true rfl, Nat.le_of_ble_eq_true rfl⟩ rfl rfl rfl (Nat.le_of_ble_eq_true rfl) (Nat.le_of_ble_eq_true rfl) ?_
  refine sp_Lw_cell hE hL rx ((hP.lt hbB).trans hs) (by omega) (by omega) (fun v10 r10 => ?_)
  refine ⟨_, rfl, ?_⟩
  refine st_i2 (pc := 13) d_Lw_law_13 ⟨Nat.le_of_ble_eq_true rfl, rfl⟩ ?_
  exact lp_law_14 hE hB hL hbB rx hs hP.px k
set_option maxRecDepth 100000 in
theorem law_wp (hE : gOk E) (hB : gB E = B) (hL : L ≤ 260) (hbB : b < B) (rx : ∀ j : Int, gR (xf j)) (h1 : h.2.1 = B) (h2 : h.2.2 = 0) (hs : h.1 b = some (.inr (99, L, fun j => .int (zI (xf (j : Int)))))) :
    Wp E (mL nm) 0 (gEnt (mL nm) [.ref b]) [] h (fun r h' => r = some (.int (zI 1)) ∧ h'.2.1 ≤ B + 600000 ∧ h'.2.2 ≤ 7302249) := by
  have hB1 : gB E ≤ B := Nat.le_of_eq hB
  have hT : TB h B [] 0 h := ⟨h1, rfl, fun _ _ => rfl, fun o x ho => by rw [List.getElem?_nil] at ho; cases ho⟩
  show Wp E (mL nm) 0 [some (.ref b), none, none, none, none, none, none, none] [] _ _
  refine wp_new (pc := 0) d_Lw_law_0 w_Lw_13 z_Yt ?_
  refine pT_pushL (k := 0) hT rfl (fun g hT => ?_)
  show Wp E (mL nm) 3 _ (.ref B :: _) g _
  refine wp_dup (pc := 3) d_Lw_law_3 rfl ?_
  refine wn_callI (n := 0) (As := []) (pc := 4) d_Lw_law_4 s_Lw_83 q_Yt_init ⟨Nat.le_of_ble_eq_true rfl, Nat.le_of_ble_eq_true rfl⟩ rfl rfl rfl (Nat.le_of_ble_eq_true rfl) (Nat.le_of_ble_eq_true rfl) ?_
  refine sp_Yt_init (s := B) (h := h) (c := 6) hE hB1 hT (fun g2 hT => ?_)
  refine ⟨rfl, ?_⟩
  refine st_a1 (pc := 7) d_Lw_law_7 ⟨Nat.le_of_ble_eq_true rfl, rfl⟩ ?_
  have hS := hT.2.1
  refine lp_law_8 hE hB1 hL hbB rx ((hT.2.2.1 b hbB).trans hs) (yPX.mk hT) (fun g3 hr => ?_)
  exact ⟨rfl, by omega, by omega⟩
end S79
