/-! ===== isTagged ===== -/
section S78
variable {E : gE} {B S : Nat} {h0 h : gH} {Q : Option Value → gH → Prop} {nv : Int} {F G K : Int → Int} {sn kp : Int}
theorem c_ev_v {b w : Int} (b0 : 0 ≤ b) (b1 : b < 10) (hb : b < F 13) (w0 : 0 ≤ w) (w1 : w ≤ 2) : c_ev F b w = F (529 + 3 * ((F 13 - 1 - b) % 10) + w) := by
  unfold c_ev
  rw [if_neg (by omega), if_neg (by omega), if_neg (by omega), if_neg (by omega)]
theorem c_ev_n {b w : Int} (b0 : 0 ≤ b) (hb : ¬ b < F 13) (w0 : 0 ≤ w) (w1 : w ≤ 2) : c_ev F b w = -5 := by
  unfold c_ev
  rw [if_neg (by omega), if_neg (by omega)]
  split <;> first | rfl | rw [if_pos hb]
/-- what is told of an event's handle -/
def yTD (F : Int → Int) (b z kd w l e nx p : Int) : Prop :=
  (0 ≤ z ∧ z < 6000 ∧ 0 ≤ l ∧ l < 6000 ∧ 0 ≤ b ∧ b < 10 ∧ 0 ≤ e ∧ e < 8 ∧ 0 ≤ w ∧ w ≤ 100000000 ∧ 0 ≤ kd ∧ kd ≤ 4) ∧
  (c_tg F (tb l) 1 = 0 ∧ c_tg F (tb l) 2 = e) ∧
  ((w = 0 ∧ nx = -5 ∧ z = l) ∨ (0 < w ∧ w ≤ gw F 6000 ∧ 0 ≤ nx ∧ nx ≤ 60010 ∧ ¬ tb z = tb l ∧ c_tg F nx 1 = w - 1 ∧ c_tg F nx 3 = tb l)) ∧
  (1 < kd → w = 0 ∧ e = kd - 1) ∧ (0 ≤ c_ev F b 2 ∧ c_ev F b 2 ≤ F 0) ∧
  ((e = 0 ∧ 0 ≤ p ∧ p < 60 ∧ c_hk F p 6 = tb l) ∨ (¬ e = 0 ∧ p = -5)) ∧
  ((e = 0 ∧ c_du F (tb z) = c_du F (tb l)) ∨ (e = 1 ∧ c_du F (tb z) = -6) ∨ (1 < e ∧ c_du F (tb z) = -7)) ∧
  (∀ t : Int, t / 10 = z → ¬ t = tb z → c_cl F t = -2)
theorem tagd (hJ : J nv F) (hn : nv ≤ 40000000) (hP : yPP F) {b : Int} (b0 : 0 ≤ b) (b1 : b < 10) (hb : b < F 13) : ∃ kd z w l e nx p : Int, c_ev F b 0 = kd ∧ c_ev F b 1 = z ∧ c_to z = tb z ∧ c_tg F (tb z) 1 = w ∧ c_tg F (tb z) 3 = tb l ∧ c_tg F (tb z) 2 = e ∧ c_tg F (tb z) 4 = nx ∧ c_tg F (tb z) 0 = p ∧ yTD F b z kd w l e nx p := by
  have hg := hP.1.2.2.2 b b0 b1 hb
  have v0 := c_ev_v (w := 0) b0 b1 hb (by omega) (by omega)
  have v1 := c_ev_v (w := 1) b0 b1 hb (by omega) (by omega)
  have v2 := c_ev_v (w := 2) b0 b1 hb (by omega) (by omega)
  rw [Int.add_zero] at v0
  have hs : 0 ≤ (F 13 - 1 - b) % 10 ∧ (F 13 - 1 - b) % 10 < 10 := by omega
  generalize (F 13 - 1 - b) % 10 = s at hg v0 v1 v2 hs
  obtain ⟨g0, g1, g2, g3, g4⟩ := hg
  have hd := hJ.vd.2.2.2.2.2.1 (3 * s + 2) (by omega) (by omega)
  rw [show 529 + (3 * s + 2) = 529 + 3 * s + 2 by omega] at hd
  generalize F (529 + 3 * s) = kd at g0 g4 v0
  generalize F (529 + 3 * s + 1) = z at g1 g2 g4 v1
  have e10 := tb_10 g1.1
  have ht := tb_tg g1.1 (by omega)
  have hp : 0 < F (559 + tb z / 10) := by
    rw [e10]
    exact g2
  obtain ⟨t0, t1, t2, t3, t4⟩ := c_tg_v ht hp
  rw [e10] at t0 t1 t2 t3 t4
  have hA := hJ.ac
  have hl := la_end hA g1.1 g1.2
  obtain ⟨d, hd5, hch, hwd⟩ := hA.en g1.1 g1.2
  have hlp : 0 < F (559 + la F z) := la_pos hJ hch g2
  have hle := end_ch hA hl.1.1 hl.1.2 hl.2
  have eb := eo_b hJ.vd hl.1.1 hl.1.2
  have wb := wy_b hJ.vd hA g1.1 g1.2
  have wm := (gw_max F 6000).2.1 z.toNat (by omega)
  rw [Int.toNat_of_nonneg g1.1] at wm
  have el10 := tb_10 hl.1.1
  have htl := tb_tg hl.1.1 (by omega)
  have hpl : 0 < F (559 + tb (la F z) / 10) := by
    rw [el10]
    exact hlp
  obtain ⟨l0, l1, l2, l3, l4⟩ := c_tg_v htl hpl
  rw [el10, hle.1] at l0 l2 l3
  rw [el10, hle.2] at l1
  have hn1 : ∀ u : Int, u = z ∨ u = la F z → noT F (tb u) = if eo F (la F z) = 0 then 0 else if eo F (la F z) = 1 then -6 else -7 := fun u hu => by
    have hu1 : isTg (tb u) := by
      rcases hu with rfl | rfl
      · exact ht
      · exact htl
    have hu2 : 0 < F (559 + tb u / 10) := by
      rcases hu with rfl | rfl
      · exact hp
      · exact hpl
    have hu3 : la F (tb u / 10) = la F z := by
      rcases hu with rfl | rfl
      · rw [e10]
      · rw [el10, hle.1]
    unfold noT
    rw [if_neg (not_not_intro hu1), if_neg (not_not_intro hu2), hu3]
  have hk1 : ∀ u : Int, u = z ∨ u = la F z → hkT F (tb u) = la F z / 100 := fun u hu => by
    unfold hkT
    rcases hu with rfl | rfl
    · rw [e10]
    · rw [el10, hle.1]
  refine ⟨kd, z, wy F z, la F z, eo F (la F z), _, _, v0, v1, if_pos ⟨g1.1, by omega⟩, t1, t3, t2, t4, t0, ⟨by omega, by omega, hl.1.1, hl.1.2, b0, b1, eb.1, eb.2, wb.1, by omega, g0.1, g0.2⟩, ⟨l1, l2⟩, ?_, ?_, ⟨by rw [v2]; exact hd.1, by rw [v2]; exact g3⟩, ?_, ?_, fun t q0 q1 => ?_⟩
  · by_cases q : 0 ≤ fol F z
    · have hgo := go_ch hA g1.1 g1.2 q
      have hfp := ((hJ.2.2.2.2.2.2.1 z g1.1 g1.2).2 q).1
      have ef := tb_10 hgo.1.1
      have hfb := tb_b (x := fol F z) hgo.1.1 (by omega)
      have wb2 := wy_b hJ.vd hA hgo.1.1 hgo.1.2
      obtain ⟨-, f1, -, f3, -⟩ := c_tg_v (t := tb (fol F z)) (tb_tg hgo.1.1 (by omega)) (by rw [ef]; exact hfp)
      rw [ef] at f1 f3
      rw [if_pos q]
      refine Or.inr ⟨by omega, wm, hfb.1, hfb.2, fun h => ?_, by rw [f1]; omega, by rw [f3, hgo.2.1]⟩
      have h2 := tb_inj g1.1 hl.1.1 h
      have h3 := hl.2
      rw [← h2] at h3
      omega
    · have he := end_ch hA g1.1 g1.2 (by omega)
      rw [if_neg q]
      exact Or.inl ⟨he.2, rfl, he.1.symm⟩
  · intro q
    have h4 := g4 (by omega)
    have he := end_ch hA g1.1 g1.2 h4.1
    rw [he.1]
    exact ⟨he.2, h4.2⟩
  · by_cases q : eo F (la F z) = 0
    · have hg2 := hJ.2.2.2.2.2.1 _ hl.1.1 hl.1.2 hlp hl.2 q
      have hk := (hJ.2.1 (la F z / 100) (by omega) (by omega) hg2.1).2.1
      rw [if_pos q]
      exact Or.inl ⟨q, by omega, by omega, by rw [(c_hk_v hk).2.2.2.2.2.2.1, if_pos hg2.1, hg2.2]⟩
    · rw [if_neg q]
      exact Or.inr ⟨q, rfl⟩
  · unfold c_du
    rw [hn1 z (Or.inl rfl), hn1 (la F z) (Or.inr rfl), hk1 z (Or.inl rfl), hk1 (la F z) (Or.inr rfl)]
    by_cases q : eo F (la F z) = 0
    · exact Or.inl ⟨q, rfl⟩
    · by_cases q2 : eo F (la F z) = 1
      · rw [if_neg q, if_pos q2]
        exact Or.inr (Or.inl ⟨q2, rfl⟩)
      · rw [if_neg q, if_neg q2]
        exact Or.inr (Or.inr ⟨by omega, rfl⟩)
  · have hnt : ¬ isTg t := fun h => q1 (by
      have := h.2.2
      rw [q0] at this
      exact this.symm)
    have hno : noT F t = -2 := if_pos hnt
    unfold c_cl
    rw [hno]
    rfl
set_option maxRecDepth 100000 in
theorem lp_tg1 (hE : gOk E) (hB : gB E ≤ B) (hn : nv ≤ 40000000) (hP : yPW B S h0 nv F sn G kp K h) {y b z kd w l e nx p : Int} (hD : yTD F b z kd w l e nx p) (k : ∀ h : gH, yPW B S h0 nv F sn G kp K h → Wp E m_Lw_isTagged 203 [some (.ref B), some (.int (zI y)), some (.int (zI b)), some (.int (zI z)), some (.int (zI kd)), some (.int (zI (tb z))), some (.int (zI w)), some (.int (zI (tb l))), some (.int (zI e)), some (.int (zI nx)), some (.int (zI p))] [] h Q) : Wp E m_Lw_isTagged 131 [some (.ref B), some (.int (zI y)), some (.int (zI b)), some (.int (zI z)), some (.int (zI kd)), some (.int (zI (tb z))), some (.int (zI w)), some (.int (zI (tb l))), some (.int (zI e)), some (.int (zI nx)), some (.int (zI p))] [] h Q := by
  have hJ := hP.jp.1
  have hsb := hJ.vd.1
  obtain ⟨⟨z0, z1, l0, l1, b0, b1, e0, e1, w0, w1, kd0, kd1⟩, ⟨d1, d2⟩, d3, d4, d5, d6, d7, d8⟩ := hD
  have bz := tb_b (x := z) z0 (by omega)
  have bl := tb_b (x := l) l0 (by omega)
  have rz : gR (tb z) := ⟨by omega, by omega⟩
  have rl : gR (tb l) := ⟨by omega, by omega⟩
  rcases d3 with ⟨rfl, rfl, rfl⟩ | ⟨h1, h2, h3, h4, h5, h6, h7⟩
  · refine wp_aload_n (pc := 131) d_Lw_isTagged_131 rfl ?_
    refine wp_iload (pc := 132) d_Lw_isTagged_132 rfl ?_
    refine wp_iconst (pc := 134) d_Lw_isTagged_134 ?_
    refine wv_callV (n := 2) (As := [_, _]) (pc := 135) d_Lw_isTagged_135 s_Lw_40 q_Yt_tag ⟨by decide, by decide⟩ hP.yt rfl rfl rfl rfl (Nat.le_of_ble_eq_true rfl) (Nat.le_of_ble_eq_true rfl) ?_
    refine yc_tag hE hB (by omega) hP rl ⟨by omega, by omega⟩ (fun _ => ?_)
    refine ⟨_, rfl, ?_⟩
    rw [d1]
    refine zp_if_ne (tgt := 245) (pc := 138) d_Lw_isTagged_138 (by decide) ⟨by omega, by omega⟩ (fun c138 => (absurd rfl c138)) (fun c138 => ?_)
    refine wp_aload_n (pc := 141) d_Lw_isTagged_141 rfl ?_
    refine wp_iload (pc := 142) d_Lw_isTagged_142 rfl ?_
    refine wp_iconst (pc := 144) d_Lw_isTagged_144 ?_
    refine wv_callV (n := 2) (As := [_, _]) (pc := 145) d_Lw_isTagged_145 s_Lw_40 q_Yt_tag ⟨by decide, by decide⟩ hP.yt rfl rfl rfl rfl (Nat.le_of_ble_eq_true rfl) (Nat.le_of_ble_eq_true rfl) ?_
    refine yc_tag hE hB (by omega) hP rl ⟨by omega, by omega⟩ (fun _ => ?_)
    refine ⟨_, rfl, ?_⟩
    rw [d2]
    refine wp_iload (pc := 148) d_Lw_isTagged_148 rfl ?_
    refine zp_icmp_ne (tgt := 245) (pc := 150) d_Lw_isTagged_150 (by decide) ⟨by omega, by omega⟩ ⟨by omega, by omega⟩ (fun c150 => (absurd rfl c150)) (fun c150 => ?_)
    refine wp_iload (pc := 153) d_Lw_isTagged_153 rfl ?_
    refine zp_if_ne (tgt := 162) (pc := 155) d_Lw_isTagged_155 (by decide) ⟨by omega, by omega⟩ (fun c155 => (absurd rfl c155)) (fun c155 => ?_)
    refine wp_iconst (pc := 158) d_Lw_isTagged_158 ?_
    refine wp_goto (tgt := 163) (pc := 159) d_Lw_isTagged_159 (by decide) ?_
    refine wp_iload (pc := 163) d_Lw_isTagged_163 rfl ?_
    refine zp_bipush (pc := 165) d_Lw_isTagged_165 (by decide) ?_
    refine zp_icmp_ne (tgt := 174) (pc := 167) d_Lw_isTagged_167 (by decide) ⟨by omega, by omega⟩ ⟨by omega, by omega⟩ (fun c167 => (absurd rfl c167)) (fun c167 => ?_)
    refine wp_iconst (pc := 170) d_Lw_isTagged_170 ?_
    refine wp_goto (tgt := 175) (pc := 171) d_Lw_isTagged_171 (by decide) ?_
    refine zp_icmp_ne (tgt := 245) (pc := 175) d_Lw_isTagged_175 (by decide) ⟨by omega, by omega⟩ ⟨by omega, by omega⟩ (fun c175 => (absurd rfl c175)) (fun c175 => ?_)
    refine wp_iload (pc := 178) d_Lw_isTagged_178 rfl ?_
    refine zp_if_ne (tgt := 187) (pc := 180) d_Lw_isTagged_180 (by decide) ⟨by omega, by omega⟩ (fun c180 => (absurd rfl c180)) (fun c180 => ?_)
    refine wp_iconst (pc := 183) d_Lw_isTagged_183 ?_
    refine wp_goto (tgt := 188) (pc := 184) d_Lw_isTagged_184 (by decide) ?_
    refine wp_iload (pc := 188) d_Lw_isTagged_188 rfl ?_
    refine wp_iload (pc := 190) d_Lw_isTagged_190 rfl ?_
    refine zp_icmp_ne (tgt := 199) (pc := 192) d_Lw_isTagged_192 (by decide) rl rl (fun c192 => (absurd rfl c192)) (fun c192 => ?_)
    refine wp_iconst (pc := 195) d_Lw_isTagged_195 ?_
    refine wp_goto (tgt := 200) (pc := 196) d_Lw_isTagged_196 (by decide) ?_
    refine zp_icmp_ne (tgt := 245) (pc := 200) d_Lw_isTagged_200 (by decide) ⟨by omega, by omega⟩ ⟨by omega, by omega⟩ (fun c200 => (absurd rfl c200)) (fun c200 => ?_)
    exact k h hP
  · refine wp_aload_n (pc := 131) d_Lw_isTagged_131 rfl ?_
    refine wp_iload (pc := 132) d_Lw_isTagged_132 rfl ?_
    refine wp_iconst (pc := 134) d_Lw_isTagged_134 ?_
    refine wv_callV (n := 2) (As := [_, _]) (pc := 135) d_Lw_isTagged_135 s_Lw_40 q_Yt_tag ⟨by decide, by decide⟩ hP.yt rfl rfl rfl rfl (Nat.le_of_ble_eq_true rfl) (Nat.le_of_ble_eq_true rfl) ?_
    refine yc_tag hE hB (by omega) hP rl ⟨by omega, by omega⟩ (fun _ => ?_)
    refine ⟨_, rfl, ?_⟩
    rw [d1]
    refine zp_if_ne (tgt := 245) (pc := 138) d_Lw_isTagged_138 (by decide) ⟨by omega, by omega⟩ (fun c138 => (absurd rfl c138)) (fun c138 => ?_)
    refine wp_aload_n (pc := 141) d_Lw_isTagged_141 rfl ?_
    refine wp_iload (pc := 142) d_Lw_isTagged_142 rfl ?_
    refine wp_iconst (pc := 144) d_Lw_isTagged_144 ?_
    refine wv_callV (n := 2) (As := [_, _]) (pc := 145) d_Lw_isTagged_145 s_Lw_40 q_Yt_tag ⟨by decide, by decide⟩ hP.yt rfl rfl rfl rfl (Nat.le_of_ble_eq_true rfl) (Nat.le_of_ble_eq_true rfl) ?_
    refine yc_tag hE hB (by omega) hP rl ⟨by omega, by omega⟩ (fun _ => ?_)
    refine ⟨_, rfl, ?_⟩
    rw [d2]
    refine wp_iload (pc := 148) d_Lw_isTagged_148 rfl ?_
    refine zp_icmp_ne (tgt := 245) (pc := 150) d_Lw_isTagged_150 (by decide) ⟨by omega, by omega⟩ ⟨by omega, by omega⟩ (fun c150 => (absurd rfl c150)) (fun c150 => ?_)
    refine wp_iload (pc := 153) d_Lw_isTagged_153 rfl ?_
    refine zp_if_ne (tgt := 162) (pc := 155) d_Lw_isTagged_155 (by decide) ⟨by omega, by omega⟩ (fun c155 => ?_) (fun c155 => (absurd c155 (by omega)))
    refine wp_iconst (pc := 162) d_Lw_isTagged_162 ?_
    refine wp_iload (pc := 163) d_Lw_isTagged_163 rfl ?_
    refine zp_bipush (pc := 165) d_Lw_isTagged_165 (by decide) ?_
    refine zp_icmp_ne (tgt := 174) (pc := 167) d_Lw_isTagged_167 (by decide) ⟨by omega, by omega⟩ ⟨by omega, by omega⟩ (fun c167 => ?_) (fun c167 => (absurd c167 (by omega)))
    refine wp_iconst (pc := 174) d_Lw_isTagged_174 ?_
    refine zp_icmp_ne (tgt := 245) (pc := 175) d_Lw_isTagged_175 (by decide) ⟨by omega, by omega⟩ ⟨by omega, by omega⟩ (fun c175 => (absurd rfl c175)) (fun c175 => ?_)
    refine wp_iload (pc := 178) d_Lw_isTagged_178 rfl ?_
    refine zp_if_ne (tgt := 187) (pc := 180) d_Lw_isTagged_180 (by decide) ⟨by omega, by omega⟩ (fun c180 => ?_) (fun c180 => (absurd c180 (by omega)))
    refine wp_iconst (pc := 187) d_Lw_isTagged_187 ?_
    refine wp_iload (pc := 188) d_Lw_isTagged_188 rfl ?_
    refine wp_iload (pc := 190) d_Lw_isTagged_190 rfl ?_
    refine zp_icmp_ne (tgt := 199) (pc := 192) d_Lw_isTagged_192 (by decide) rz rl (fun c192 => ?_) (fun c192 => (absurd c192 h5))
    refine wp_iconst (pc := 199) d_Lw_isTagged_199 ?_
    refine zp_icmp_ne (tgt := 245) (pc := 200) d_Lw_isTagged_200 (by decide) ⟨by omega, by omega⟩ ⟨by omega, by omega⟩ (fun c200 => (absurd rfl c200)) (fun c200 => ?_)
    exact k h hP
set_option maxRecDepth 100000 in
theorem lp_tg2 (hE : gOk E) (hB : gB E ≤ B) (hn : nv ≤ 40000000) (hP : yPW B S h0 nv F sn G kp K h) {y b z kd w l e nx p : Int} (hD : yTD F b z kd w l e nx p) (k : ∀ h : gH, yPW B S h0 nv F sn G kp K h → Wp E m_Lw_isTagged 247 [some (.ref B), some (.int (zI y)), some (.int (zI b)), some (.int (zI z)), some (.int (zI kd)), some (.int (zI (tb z))), some (.int (zI w)), some (.int (zI (tb l))), some (.int (zI e)), some (.int (zI nx)), some (.int (zI p))] [] h Q) : Wp E m_Lw_isTagged 203 [some (.ref B), some (.int (zI y)), some (.int (zI b)), some (.int (zI z)), some (.int (zI kd)), some (.int (zI (tb z))), some (.int (zI w)), some (.int (zI (tb l))), some (.int (zI e)), some (.int (zI nx)), some (.int (zI p))] [] h Q := by
  have hJ := hP.jp.1
  have hsb := hJ.vd.1
  obtain ⟨⟨z0, z1, l0, l1, b0, b1, e0, e1, w0, w1, kd0, kd1⟩, ⟨d1, d2⟩, d3, d4, d5, d6, d7, d8⟩ := hD
  have bz := tb_b (x := z) z0 (by omega)
  have bl := tb_b (x := l) l0 (by omega)
  have rz : gR (tb z) := ⟨by omega, by omega⟩
  have rl : gR (tb l) := ⟨by omega, by omega⟩
  have hgm := (gw_max F 6000).1
  have hgb := gw_b hJ.vd hJ.ac 6000 (by omega)
  rcases d3 with ⟨rfl, rfl, rfl⟩ | ⟨h1, h2, h3, h4, h5, h6, h7⟩
  · refine wp_iload (pc := 203) d_Lw_isTagged_203 rfl ?_
    refine wp_aload_n (pc := 205) d_Lw_isTagged_205 rfl ?_
    refine zp_bipush (pc := 206) d_Lw_isTagged_206 (by decide) ?_
    refine wv_callV (n := 1) (As := [_]) (pc := 208) d_Lw_isTagged_208 s_Lw_12 q_Yt_count ⟨by decide, by decide⟩ hP.yt rfl rfl rfl rfl (Nat.le_of_ble_eq_true rfl) (Nat.le_of_ble_eq_true rfl) ?_
    refine yc_count hE hB (by omega) hP ⟨by omega, by omega⟩ (fun h ln hP => ?_)
    refine ⟨_, rfl, ?_⟩
    rw [(c_ct_v F sn ln).2.2.2.2.2.2.2.2.2.2.2.2.1]
    refine zp_icmp_gt (tgt := 245) (pc := 211) d_Lw_isTagged_211 (by decide) ⟨by omega, by omega⟩ ⟨by omega, by omega⟩ (fun c211 => (absurd c211 (by omega))) (fun c211 => ?_)
    refine wp_iload (pc := 214) d_Lw_isTagged_214 rfl ?_
    refine zp_if_le (tgt := 247) (pc := 216) d_Lw_isTagged_216 (by decide) ⟨by omega, by omega⟩ (fun c216 => ?_) (fun c216 => (absurd c216 (by omega)))
    exact k h hP
  · refine wp_iload (pc := 203) d_Lw_isTagged_203 rfl ?_
    refine wp_aload_n (pc := 205) d_Lw_isTagged_205 rfl ?_
    refine zp_bipush (pc := 206) d_Lw_isTagged_206 (by decide) ?_
    refine wv_callV (n := 1) (As := [_]) (pc := 208) d_Lw_isTagged_208 s_Lw_12 q_Yt_count ⟨by decide, by decide⟩ hP.yt rfl rfl rfl rfl (Nat.le_of_ble_eq_true rfl) (Nat.le_of_ble_eq_true rfl) ?_
    refine yc_count hE hB (by omega) hP ⟨by omega, by omega⟩ (fun h ln hP => ?_)
    refine ⟨_, rfl, ?_⟩
    rw [(c_ct_v F sn ln).2.2.2.2.2.2.2.2.2.2.2.2.1]
    refine zp_icmp_gt (tgt := 245) (pc := 211) d_Lw_isTagged_211 (by decide) ⟨by omega, by omega⟩ ⟨by omega, by omega⟩ (fun c211 => (absurd c211 (by omega))) (fun c211 => ?_)
    refine wp_iload (pc := 214) d_Lw_isTagged_214 rfl ?_
    refine zp_if_le (tgt := 247) (pc := 216) d_Lw_isTagged_216 (by decide) ⟨by omega, by omega⟩ (fun c216 => (absurd c216 (by omega))) (fun c216 => ?_)
    refine wp_aload_n (pc := 219) d_Lw_isTagged_219 rfl ?_
    refine wp_iload (pc := 220) d_Lw_isTagged_220 rfl ?_
    refine wp_iconst (pc := 222) d_Lw_isTagged_222 ?_
    refine wv_callV (n := 2) (As := [_, _]) (pc := 223) d_Lw_isTagged_223 s_Lw_40 q_Yt_tag ⟨by decide, by decide⟩ hP.yt rfl rfl rfl rfl (Nat.le_of_ble_eq_true rfl) (Nat.le_of_ble_eq_true rfl) ?_
    refine yc_tag hE hB (by omega) hP ⟨by omega, by omega⟩ ⟨by omega, by omega⟩ (fun _ => ?_)
    refine ⟨_, rfl, ?_⟩
    rw [h6]
    refine wp_iload (pc := 226) d_Lw_isTagged_226 rfl ?_
    refine wp_iconst (pc := 228) d_Lw_isTagged_228 ?_
    refine zp_isub (pc := 229) d_Lw_isTagged_229 ?_
    refine zp_icmp_ne (tgt := 245) (pc := 230) d_Lw_isTagged_230 (by decide) ⟨by omega, by omega⟩ ⟨by omega, by omega⟩ (fun c230 => (absurd rfl c230)) (fun c230 => ?_)
    refine wp_aload_n (pc := 233) d_Lw_isTagged_233 rfl ?_
    refine wp_iload (pc := 234) d_Lw_isTagged_234 rfl ?_
    refine wp_iconst (pc := 236) d_Lw_isTagged_236 ?_
    refine wv_callV (n := 2) (As := [_, _]) (pc := 237) d_Lw_isTagged_237 s_Lw_40 q_Yt_tag ⟨by decide, by decide⟩ hP.yt rfl rfl rfl rfl (Nat.le_of_ble_eq_true rfl) (Nat.le_of_ble_eq_true rfl) ?_
    refine yc_tag hE hB (by omega) hP ⟨by omega, by omega⟩ ⟨by omega, by omega⟩ (fun _ => ?_)
    refine ⟨_, rfl, ?_⟩
    rw [h7]
    refine wp_iload (pc := 240) d_Lw_isTagged_240 rfl ?_
    refine zp_icmp_eq (tgt := 247) (pc := 242) d_Lw_isTagged_242 (by decide) rl rl (fun c242 => ?_) (fun c242 => (absurd rfl c242))
    exact k h hP
set_option maxRecDepth 100000 in
theorem lp_tg3 (hE : gOk E) (hB : gB E ≤ B) (hn : nv ≤ 40000000) (hP : yPW B S h0 nv F sn G kp K h) {y b z kd w l e nx p : Int} (hD : yTD F b z kd w l e nx p) (k : ∀ h : gH, yPW B S h0 nv F sn G kp K h → Wp E m_Lw_isTagged 281 [some (.ref B), some (.int (zI y)), some (.int (zI b)), some (.int (zI z)), some (.int (zI kd)), some (.int (zI (tb z))), some (.int (zI w)), some (.int (zI (tb l))), some (.int (zI e)), some (.int (zI nx)), some (.int (zI p))] [] h Q) : Wp E m_Lw_isTagged 247 [some (.ref B), some (.int (zI y)), some (.int (zI b)), some (.int (zI z)), some (.int (zI kd)), some (.int (zI (tb z))), some (.int (zI w)), some (.int (zI (tb l))), some (.int (zI e)), some (.int (zI nx)), some (.int (zI p))] [] h Q := by
  have hJ := hP.jp.1
  have hsb := hJ.vd.1
  obtain ⟨⟨z0, z1, l0, l1, b0, b1, e0, e1, w0, w1, kd0, kd1⟩, ⟨d1, d2⟩, d3, d4, d5, d6, d7, d8⟩ := hD
  have bz := tb_b (x := z) z0 (by omega)
  have bl := tb_b (x := l) l0 (by omega)
  have rz : gR (tb z) := ⟨by omega, by omega⟩
  have rl : gR (tb l) := ⟨by omega, by omega⟩
  refine wp_iload (pc := 247) d_Lw_isTagged_247 rfl ?_
  refine wp_iconst (pc := 249) d_Lw_isTagged_249 ?_
  refine zp_icmp_le (tgt := 267) (pc := 250) d_Lw_isTagged_250 (by decide) ⟨by omega, by omega⟩ ⟨by omega, by omega⟩ (fun c250 => ?_) (fun c250 => ?_)
  · refine wp_aload_n (pc := 267) d_Lw_isTagged_267 rfl ?_
    refine wp_iload_n (pc := 268) d_Lw_isTagged_268 rfl ?_
    refine wp_iconst (pc := 269) d_Lw_isTagged_269 ?_
    refine wv_callV (n := 2) (As := [_, _]) (pc := 270) d_Lw_isTagged_270 s_Lw_28 q_Yt_event ⟨by decide, by decide⟩ hP.yt rfl rfl rfl rfl (Nat.le_of_ble_eq_true rfl) (Nat.le_of_ble_eq_true rfl) ?_
    refine yc_event hE hB (by omega) hP ⟨by omega, by omega⟩ ⟨by omega, by omega⟩ (fun _ => ?_)
    refine ⟨_, rfl, ?_⟩
    refine wp_aload_n (pc := 273) d_Lw_isTagged_273 rfl ?_
    refine wp_iconst (pc := 274) d_Lw_isTagged_274 ?_
    refine wv_callV (n := 1) (As := [_]) (pc := 275) d_Lw_isTagged_275 s_Lw_12 q_Yt_count ⟨by decide, by decide⟩ hP.yt rfl rfl rfl rfl (Nat.le_of_ble_eq_true rfl) (Nat.le_of_ble_eq_true rfl) ?_
    refine yc_count hE hB (by omega) hP ⟨by omega, by omega⟩ (fun h ln hP => ?_)
    refine ⟨_, rfl, ?_⟩
    rw [(c_ct_v F sn ln).1]
    refine zp_icmp_gt (tgt := 322) (pc := 278) d_Lw_isTagged_278 (by decide) ⟨by omega, by omega⟩ ⟨by omega, by omega⟩ (fun c278 => (absurd c278 (by omega))) (fun c278 => ?_)
    exact k h hP
  · refine wp_iload (pc := 253) d_Lw_isTagged_253 rfl ?_
    refine zp_if_ne (tgt := 322) (pc := 255) d_Lw_isTagged_255 (by decide) ⟨by omega, by omega⟩ (fun c255 => (absurd (d4 (by omega)).1 c255)) (fun c255 => ?_)
    refine wp_iload (pc := 258) d_Lw_isTagged_258 rfl ?_
    refine wp_iload (pc := 260) d_Lw_isTagged_260 rfl ?_
    refine wp_iconst (pc := 262) d_Lw_isTagged_262 ?_
    refine zp_isub (pc := 263) d_Lw_isTagged_263 ?_
    refine zp_icmp_ne (tgt := 322) (pc := 264) d_Lw_isTagged_264 (by decide) ⟨by omega, by omega⟩ ⟨by omega, by omega⟩ (fun c264 => (absurd (d4 (by omega)).2 c264)) (fun c264 => ?_)
    refine wp_aload_n (pc := 267) d_Lw_isTagged_267 rfl ?_
    refine wp_iload_n (pc := 268) d_Lw_isTagged_268 rfl ?_
    refine wp_iconst (pc := 269) d_Lw_isTagged_269 ?_
    refine wv_callV (n := 2) (As := [_, _]) (pc := 270) d_Lw_isTagged_270 s_Lw_28 q_Yt_event ⟨by decide, by decide⟩ hP.yt rfl rfl rfl rfl (Nat.le_of_ble_eq_true rfl) (Nat.le_of_ble_eq_true rfl) ?_
    refine yc_event hE hB (by omega) hP ⟨by omega, by omega⟩ ⟨by omega, by omega⟩ (fun _ => ?_)
    refine ⟨_, rfl, ?_⟩
    refine wp_aload_n (pc := 273) d_Lw_isTagged_273 rfl ?_
    refine wp_iconst (pc := 274) d_Lw_isTagged_274 ?_
    refine wv_callV (n := 1) (As := [_]) (pc := 275) d_Lw_isTagged_275 s_Lw_12 q_Yt_count ⟨by decide, by decide⟩ hP.yt rfl rfl rfl rfl (Nat.le_of_ble_eq_true rfl) (Nat.le_of_ble_eq_true rfl) ?_
    refine yc_count hE hB (by omega) hP ⟨by omega, by omega⟩ (fun h ln hP => ?_)
    refine ⟨_, rfl, ?_⟩
    rw [(c_ct_v F sn ln).1]
    refine zp_icmp_gt (tgt := 322) (pc := 278) d_Lw_isTagged_278 (by decide) ⟨by omega, by omega⟩ ⟨by omega, by omega⟩ (fun c278 => (absurd c278 (by omega))) (fun c278 => ?_)
    exact k h hP
set_option maxRecDepth 100000 in
theorem lp_tg4 (hE : gOk E) (hB : gB E ≤ B) (hn : nv ≤ 40000000) (hP : yPW B S h0 nv F sn G kp K h) {y b z kd w l e nx p : Int} (hD : yTD F b z kd w l e nx p) (k : ∀ h : gH, yPW B S h0 nv F sn G kp K h → Wp E m_Lw_isTagged 324 [some (.ref B), some (.int (zI y)), some (.int (zI b)), some (.int (zI z)), some (.int (zI kd)), some (.int (zI (tb z))), some (.int (zI w)), some (.int (zI (tb l))), some (.int (zI e)), some (.int (zI nx)), some (.int (zI p))] [] h Q) : Wp E m_Lw_isTagged 281 [some (.ref B), some (.int (zI y)), some (.int (zI b)), some (.int (zI z)), some (.int (zI kd)), some (.int (zI (tb z))), some (.int (zI w)), some (.int (zI (tb l))), some (.int (zI e)), some (.int (zI nx)), some (.int (zI p))] [] h Q := by
  have hJ := hP.jp.1
  have hsb := hJ.vd.1
  obtain ⟨⟨z0, z1, l0, l1, b0, b1, e0, e1, w0, w1, kd0, kd1⟩, ⟨d1, d2⟩, d3, d4, d5, d6, d7, d8⟩ := hD
  have bz := tb_b (x := z) z0 (by omega)
  have bl := tb_b (x := l) l0 (by omega)
  have rz : gR (tb z) := ⟨by omega, by omega⟩
  have rl : gR (tb l) := ⟨by omega, by omega⟩
  rcases d6 with ⟨rfl, h1, h2, h3⟩ | ⟨h1, rfl⟩
  · refine wp_iload (pc := 281) d_Lw_isTagged_281 rfl ?_
    refine zp_if_ne (tgt := 290) (pc := 283) d_Lw_isTagged_283 (by decide) ⟨by omega, by omega⟩ (fun c283 => (absurd rfl c283)) (fun c283 => ?_)
    refine wp_iconst (pc := 286) d_Lw_isTagged_286 ?_
    refine wp_goto (tgt := 291) (pc := 287) d_Lw_isTagged_287 (by decide) ?_
    refine wp_iload (pc := 291) d_Lw_isTagged_291 rfl ?_
    refine zp_if_lt (tgt := 300) (pc := 293) d_Lw_isTagged_293 (by decide) ⟨by omega, by omega⟩ (fun c293 => (absurd c293 (by omega))) (fun c293 => ?_)
    refine wp_iconst (pc := 296) d_Lw_isTagged_296 ?_
    refine wp_goto (tgt := 301) (pc := 297) d_Lw_isTagged_297 (by decide) ?_
    refine zp_icmp_ne (tgt := 322) (pc := 301) d_Lw_isTagged_301 (by decide) ⟨by omega, by omega⟩ ⟨by omega, by omega⟩ (fun c301 => (absurd rfl c301)) (fun c301 => ?_)
    refine wp_iload (pc := 304) d_Lw_isTagged_304 rfl ?_
    refine zp_if_lt (tgt := 324) (pc := 306) d_Lw_isTagged_306 (by decide) ⟨by omega, by omega⟩ (fun c306 => (absurd c306 (by omega))) (fun c306 => ?_)
    refine wp_aload_n (pc := 309) d_Lw_isTagged_309 rfl ?_
    refine wp_iload (pc := 310) d_Lw_isTagged_310 rfl ?_
    refine zp_bipush (pc := 312) d_Lw_isTagged_312 (by decide) ?_
    refine wv_callV (n := 2) (As := [_, _]) (pc := 314) d_Lw_isTagged_314 s_Lw_22 q_Yt_hook ⟨by decide, by decide⟩ hP.yt rfl rfl rfl rfl (Nat.le_of_ble_eq_true rfl) (Nat.le_of_ble_eq_true rfl) ?_
    refine yc_hook hE hB (by omega) hP ⟨by omega, by omega⟩ ⟨by omega, by omega⟩ (fun _ => ?_)
    refine ⟨_, rfl, ?_⟩
    rw [h3]
    refine wp_iload (pc := 317) d_Lw_isTagged_317 rfl ?_
    refine zp_icmp_eq (tgt := 324) (pc := 319) d_Lw_isTagged_319 (by decide) rl rl (fun c319 => ?_) (fun c319 => (absurd rfl c319))
    exact k h hP
  · refine wp_iload (pc := 281) d_Lw_isTagged_281 rfl ?_
    refine zp_if_ne (tgt := 290) (pc := 283) d_Lw_isTagged_283 (by decide) ⟨by omega, by omega⟩ (fun c283 => ?_) (fun c283 => (absurd c283 h1))
    refine wp_iconst (pc := 290) d_Lw_isTagged_290 ?_
    refine wp_iload (pc := 291) d_Lw_isTagged_291 rfl ?_
    refine zp_if_lt (tgt := 300) (pc := 293) d_Lw_isTagged_293 (by decide) ⟨by omega, by omega⟩ (fun c293 => ?_) (fun c293 => (absurd c293 (by omega)))
    refine wp_iconst (pc := 300) d_Lw_isTagged_300 ?_
    refine zp_icmp_ne (tgt := 322) (pc := 301) d_Lw_isTagged_301 (by decide) ⟨by omega, by omega⟩ ⟨by omega, by omega⟩ (fun c301 => (absurd rfl c301)) (fun c301 => ?_)
    refine wp_iload (pc := 304) d_Lw_isTagged_304 rfl ?_
    refine zp_if_lt (tgt := 324) (pc := 306) d_Lw_isTagged_306 (by decide) ⟨by omega, by omega⟩ (fun c306 => ?_) (fun c306 => (absurd c306 (by omega)))
    exact k h hP
set_option maxRecDepth 100000 in
theorem lp_tg5 (hE : gOk E) (hB : gB E ≤ B) (hn : nv ≤ 40000000) (hP : yPW B S h0 nv F sn G kp K h) {y b z kd w l e nx p : Int} (hD : yTD F b z kd w l e nx p) (k : ∀ h : gH, yPW B S h0 nv F sn G kp K h → Q (some (.int (zI 1))) h) : Wp E m_Lw_isTagged 324 [some (.ref B), some (.int (zI y)), some (.int (zI b)), some (.int (zI z)), some (.int (zI kd)), some (.int (zI (tb z))), some (.int (zI w)), some (.int (zI (tb l))), some (.int (zI e)), some (.int (zI nx)), some (.int (zI p))] [] h Q := by
  have hJ := hP.jp.1
  have hsb := hJ.vd.1
  obtain ⟨⟨z0, z1, l0, l1, b0, b1, e0, e1, w0, w1, kd0, kd1⟩, ⟨d1, d2⟩, d3, d4, d5, d6, d7, d8⟩ := hD
  have bz := tb_b (x := z) z0 (by omega)
  have bl := tb_b (x := l) l0 (by omega)
  have rz : gR (tb z) := ⟨by omega, by omega⟩
  have rl : gR (tb l) := ⟨by omega, by omega⟩
  have e10 := tb_10 z0
  have rdz : gR (c_du F (tb z)) := gb_cl hJ (tb z)
  have rdl : gR (c_du F (tb l)) := gb_cl hJ (tb l)
  rcases d7 with ⟨rfl, hdu⟩ | ⟨rfl, hdu⟩ | ⟨h1, hdu⟩
  · refine wp_aload_n (pc := 324) d_Lw_isTagged_324 rfl ?_
    refine wp_iload (pc := 325) d_Lw_isTagged_325 rfl ?_
    refine wv_callV (n := 1) (As := [_]) (pc := 327) d_Lw_isTagged_327 s_Lw_34 q_Yt_due ⟨by decide, by decide⟩ hP.yt rfl rfl rfl rfl (Nat.le_of_ble_eq_true rfl) (Nat.le_of_ble_eq_true rfl) ?_
    refine yc_due hE hB (by omega) hP rz (fun _ => ?_)
    refine ⟨_, rfl, ?_⟩
    refine wp_iload (pc := 330) d_Lw_isTagged_330 rfl ?_
    refine zp_if_ne (tgt := 344) (pc := 332) d_Lw_isTagged_332 (by decide) ⟨by omega, by omega⟩ (fun c332 => (absurd rfl c332)) (fun c332 => ?_)
    refine wp_aload_n (pc := 335) d_Lw_isTagged_335 rfl ?_
    refine wp_iload (pc := 336) d_Lw_isTagged_336 rfl ?_
    refine wv_callV (n := 1) (As := [_]) (pc := 338) d_Lw_isTagged_338 s_Lw_34 q_Yt_due ⟨by decide, by decide⟩ hP.yt rfl rfl rfl rfl (Nat.le_of_ble_eq_true rfl) (Nat.le_of_ble_eq_true rfl) ?_
    refine yc_due hE hB (by omega) hP rl (fun _ => ?_)
    refine ⟨_, rfl, ?_⟩
    refine wp_goto (tgt := 357) (pc := 341) d_Lw_isTagged_341 (by decide) ?_
    refine zp_icmp_ne (tgt := 391) (pc := 357) d_Lw_isTagged_357 (by decide) rdz rdl (fun c357 => (absurd hdu c357)) (fun c357 => ?_)
    refine wp_aload_n (pc := 360) d_Lw_isTagged_360 rfl ?_
    refine wp_iload (pc := 361) d_Lw_isTagged_361 rfl ?_
    refine wp_iload (pc := 363) d_Lw_isTagged_363 rfl ?_
    refine zp_bipush (pc := 365) d_Lw_isTagged_365 (by decide) ?_
    refine zp_irem (pc := 367) d_Lw_isTagged_367 (by omega) (by omega) (by omega) (by omega) ?_
    refine zp_bipush (pc := 368) d_Lw_isTagged_368 (by decide) ?_
    refine zp_icmp_ne (tgt := 377) (pc := 370) d_Lw_isTagged_370 (by decide) ⟨by omega, by omega⟩ ⟨by omega, by omega⟩ (fun c370 => ?_) (fun c370 => ?_)
    · refine wp_iconst (pc := 377) d_Lw_isTagged_377 ?_
      refine zp_iadd (pc := 378) d_Lw_isTagged_378 ?_
      have hcl : c_cl F (tb z + 1) = -2 := d8 _ (by omega) (by omega)
      refine wv_callV (n := 1) (As := [_]) (pc := 379) d_Lw_isTagged_379 s_Lw_48 q_Yt_claim ⟨by decide, by decide⟩ hP.yt rfl rfl rfl rfl (Nat.le_of_ble_eq_true rfl) (Nat.le_of_ble_eq_true rfl) ?_
      refine yc_claim hE hB hn hP ⟨by omega, by omega⟩ (fun hc hP => ?_) (fun hc g hP => absurd (by rw [hcl]; omega) hc)
      refine ⟨_, rfl, ?_⟩
      rw [hcl]
      refine zp_bipush (pc := 382) d_Lw_isTagged_382 (by decide) ?_
      refine zp_icmp_ne (tgt := 391) (pc := 384) d_Lw_isTagged_384 (by decide) ⟨by omega, by omega⟩ ⟨by omega, by omega⟩ (fun c384 => (absurd rfl c384)) (fun c384 => ?_)
      refine wp_iconst (pc := 387) d_Lw_isTagged_387 ?_
      refine wp_goto (tgt := 392) (pc := 388) d_Lw_isTagged_388 (by decide) ?_
      refine zp_zreturn (pc := 392) d_Lw_isTagged_392 rfl rfl ?_
      exact k h hP
    · refine wp_iconst (pc := 373) d_Lw_isTagged_373 ?_
      refine wp_goto (tgt := 378) (pc := 374) d_Lw_isTagged_374 (by decide) ?_
      refine zp_iadd (pc := 378) d_Lw_isTagged_378 ?_
      have hcl : c_cl F (tb z + -1) = -2 := d8 _ (by omega) (by omega)
      refine wv_callV (n := 1) (As := [_]) (pc := 379) d_Lw_isTagged_379 s_Lw_48 q_Yt_claim ⟨by decide, by decide⟩ hP.yt rfl rfl rfl rfl (Nat.le_of_ble_eq_true rfl) (Nat.le_of_ble_eq_true rfl) ?_
      refine yc_claim hE hB hn hP ⟨by omega, by omega⟩ (fun hc hP => ?_) (fun hc g hP => absurd (by rw [hcl]; omega) hc)
      refine ⟨_, rfl, ?_⟩
      rw [hcl]
      refine zp_bipush (pc := 382) d_Lw_isTagged_382 (by decide) ?_
      refine zp_icmp_ne (tgt := 391) (pc := 384) d_Lw_isTagged_384 (by decide) ⟨by omega, by omega⟩ ⟨by omega, by omega⟩ (fun c384 => (absurd rfl c384)) (fun c384 => ?_)
      refine wp_iconst (pc := 387) d_Lw_isTagged_387 ?_
      refine wp_goto (tgt := 392) (pc := 388) d_Lw_isTagged_388 (by decide) ?_
      refine zp_zreturn (pc := 392) d_Lw_isTagged_392 rfl rfl ?_
      exact k h hP
  · refine wp_aload_n (pc := 324) d_Lw_isTagged_324 rfl ?_
    refine wp_iload (pc := 325) d_Lw_isTagged_325 rfl ?_
    refine wv_callV (n := 1) (As := [_]) (pc := 327) d_Lw_isTagged_327 s_Lw_34 q_Yt_due ⟨by decide, by decide⟩ hP.yt rfl rfl rfl rfl (Nat.le_of_ble_eq_true rfl) (Nat.le_of_ble_eq_true rfl) ?_
    refine yc_due hE hB (by omega) hP rz (fun _ => ?_)
    refine ⟨_, rfl, ?_⟩
    refine wp_iload (pc := 330) d_Lw_isTagged_330 rfl ?_
    refine zp_if_ne (tgt := 344) (pc := 332) d_Lw_isTagged_332 (by decide) ⟨by omega, by omega⟩ (fun c332 => ?_) (fun c332 => (absurd c332 (by omega)))
    refine wp_iload (pc := 344) d_Lw_isTagged_344 rfl ?_
    refine wp_iconst (pc := 346) d_Lw_isTagged_346 ?_
    refine zp_icmp_ne (tgt := 355) (pc := 347) d_Lw_isTagged_347 (by decide) ⟨by omega, by omega⟩ ⟨by omega, by omega⟩ (fun c347 => (absurd rfl c347)) (fun c347 => ?_)
    refine zp_bipush (pc := 350) d_Lw_isTagged_350 (by decide) ?_
    refine wp_goto (tgt := 357) (pc := 352) d_Lw_isTagged_352 (by decide) ?_
    refine zp_icmp_ne (tgt := 391) (pc := 357) d_Lw_isTagged_357 (by decide) rdz ⟨by omega, by omega⟩ (fun c357 => (absurd hdu c357)) (fun c357 => ?_)
    refine wp_aload_n (pc := 360) d_Lw_isTagged_360 rfl ?_
    refine wp_iload (pc := 361) d_Lw_isTagged_361 rfl ?_
    refine wp_iload (pc := 363) d_Lw_isTagged_363 rfl ?_
    refine zp_bipush (pc := 365) d_Lw_isTagged_365 (by decide) ?_
    refine zp_irem (pc := 367) d_Lw_isTagged_367 (by omega) (by omega) (by omega) (by omega) ?_
    refine zp_bipush (pc := 368) d_Lw_isTagged_368 (by decide) ?_
    refine zp_icmp_ne (tgt := 377) (pc := 370) d_Lw_isTagged_370 (by decide) ⟨by omega, by omega⟩ ⟨by omega, by omega⟩ (fun c370 => ?_) (fun c370 => ?_)
    · refine wp_iconst (pc := 377) d_Lw_isTagged_377 ?_
      refine zp_iadd (pc := 378) d_Lw_isTagged_378 ?_
      have hcl : c_cl F (tb z + 1) = -2 := d8 _ (by omega) (by omega)
      refine wv_callV (n := 1) (As := [_]) (pc := 379) d_Lw_isTagged_379 s_Lw_48 q_Yt_claim ⟨by decide, by decide⟩ hP.yt rfl rfl rfl rfl (Nat.le_of_ble_eq_true rfl) (Nat.le_of_ble_eq_true rfl) ?_
      refine yc_claim hE hB hn hP ⟨by omega, by omega⟩ (fun hc hP => ?_) (fun hc g hP => absurd (by rw [hcl]; omega) hc)
      refine ⟨_, rfl, ?_⟩
      rw [hcl]
      refine zp_bipush (pc := 382) d_Lw_isTagged_382 (by decide) ?_
      refine zp_icmp_ne (tgt := 391) (pc := 384) d_Lw_isTagged_384 (by decide) ⟨by omega, by omega⟩ ⟨by omega, by omega⟩ (fun c384 => (absurd rfl c384)) (fun c384 => ?_)
      refine wp_iconst (pc := 387) d_Lw_isTagged_387 ?_
      refine wp_goto (tgt := 392) (pc := 388) d_Lw_isTagged_388 (by decide) ?_
      refine zp_zreturn (pc := 392) d_Lw_isTagged_392 rfl rfl ?_
      exact k h hP
    · refine wp_iconst (pc := 373) d_Lw_isTagged_373 ?_
      refine wp_goto (tgt := 378) (pc := 374) d_Lw_isTagged_374 (by decide) ?_
      refine zp_iadd (pc := 378) d_Lw_isTagged_378 ?_
      have hcl : c_cl F (tb z + -1) = -2 := d8 _ (by omega) (by omega)
      refine wv_callV (n := 1) (As := [_]) (pc := 379) d_Lw_isTagged_379 s_Lw_48 q_Yt_claim ⟨by decide, by decide⟩ hP.yt rfl rfl rfl rfl (Nat.le_of_ble_eq_true rfl) (Nat.le_of_ble_eq_true rfl) ?_
      refine yc_claim hE hB hn hP ⟨by omega, by omega⟩ (fun hc hP => ?_) (fun hc g hP => absurd (by rw [hcl]; omega) hc)
      refine ⟨_, rfl, ?_⟩
      rw [hcl]
      refine zp_bipush (pc := 382) d_Lw_isTagged_382 (by decide) ?_
      refine zp_icmp_ne (tgt := 391) (pc := 384) d_Lw_isTagged_384 (by decide) ⟨by omega, by omega⟩ ⟨by omega, by omega⟩ (fun c384 => (absurd rfl c384)) (fun c384 => ?_)
      refine wp_iconst (pc := 387) d_Lw_isTagged_387 ?_
      refine wp_goto (tgt := 392) (pc := 388) d_Lw_isTagged_388 (by decide) ?_
      refine zp_zreturn (pc := 392) d_Lw_isTagged_392 rfl rfl ?_
      exact k h hP
  · refine wp_aload_n (pc := 324) d_Lw_isTagged_324 rfl ?_
    refine wp_iload (pc := 325) d_Lw_isTagged_325 rfl ?_
    refine wv_callV (n := 1) (As := [_]) (pc := 327) d_Lw_isTagged_327 s_Lw_34 q_Yt_due ⟨by decide, by decide⟩ hP.yt rfl rfl rfl rfl (Nat.le_of_ble_eq_true rfl) (Nat.le_of_ble_eq_true rfl) ?_
    refine yc_due hE hB (by omega) hP rz (fun _ => ?_)
    refine ⟨_, rfl, ?_⟩
    refine wp_iload (pc := 330) d_Lw_isTagged_330 rfl ?_
    refine zp_if_ne (tgt := 344) (pc := 332) d_Lw_isTagged_332 (by decide) ⟨by omega, by omega⟩ (fun c332 => ?_) (fun c332 => (absurd c332 (by omega)))
    refine wp_iload (pc := 344) d_Lw_isTagged_344 rfl ?_
    refine wp_iconst (pc := 346) d_Lw_isTagged_346 ?_
    refine zp_icmp_ne (tgt := 355) (pc := 347) d_Lw_isTagged_347 (by decide) ⟨by omega, by omega⟩ ⟨by omega, by omega⟩ (fun c347 => ?_) (fun c347 => (absurd c347 (by omega)))
    refine zp_bipush (pc := 355) d_Lw_isTagged_355 (by decide) ?_
    refine zp_icmp_ne (tgt := 391) (pc := 357) d_Lw_isTagged_357 (by decide) rdz ⟨by omega, by omega⟩ (fun c357 => (absurd hdu c357)) (fun c357 => ?_)
    refine wp_aload_n (pc := 360) d_Lw_isTagged_360 rfl ?_
    refine wp_iload (pc := 361) d_Lw_isTagged_361 rfl ?_
    refine wp_iload (pc := 363) d_Lw_isTagged_363 rfl ?_
    refine zp_bipush (pc := 365) d_Lw_isTagged_365 (by decide) ?_
    refine zp_irem (pc := 367) d_Lw_isTagged_367 (by omega) (by omega) (by omega) (by omega) ?_
    refine zp_bipush (pc := 368) d_Lw_isTagged_368 (by decide) ?_
    refine zp_icmp_ne (tgt := 377) (pc := 370) d_Lw_isTagged_370 (by decide) ⟨by omega, by omega⟩ ⟨by omega, by omega⟩ (fun c370 => ?_) (fun c370 => ?_)
    · refine wp_iconst (pc := 377) d_Lw_isTagged_377 ?_
      refine zp_iadd (pc := 378) d_Lw_isTagged_378 ?_
      have hcl : c_cl F (tb z + 1) = -2 := d8 _ (by omega) (by omega)
      refine wv_callV (n := 1) (As := [_]) (pc := 379) d_Lw_isTagged_379 s_Lw_48 q_Yt_claim ⟨by decide, by decide⟩ hP.yt rfl rfl rfl rfl (Nat.le_of_ble_eq_true rfl) (Nat.le_of_ble_eq_true rfl) ?_
      refine yc_claim hE hB hn hP ⟨by omega, by omega⟩ (fun hc hP => ?_) (fun hc g hP => absurd (by rw [hcl]; omega) hc)
      refine ⟨_, rfl, ?_⟩
      rw [hcl]
      refine zp_bipush (pc := 382) d_Lw_isTagged_382 (by decide) ?_
      refine zp_icmp_ne (tgt := 391) (pc := 384) d_Lw_isTagged_384 (by decide) ⟨by omega, by omega⟩ ⟨by omega, by omega⟩ (fun c384 => (absurd rfl c384)) (fun c384 => ?_)
      refine wp_iconst (pc := 387) d_Lw_isTagged_387 ?_
      refine wp_goto (tgt := 392) (pc := 388) d_Lw_isTagged_388 (by decide) ?_
      refine zp_zreturn (pc := 392) d_Lw_isTagged_392 rfl rfl ?_
      exact k h hP
    · refine wp_iconst (pc := 373) d_Lw_isTagged_373 ?_
      refine wp_goto (tgt := 378) (pc := 374) d_Lw_isTagged_374 (by decide) ?_
      refine zp_iadd (pc := 378) d_Lw_isTagged_378 ?_
      have hcl : c_cl F (tb z + -1) = -2 := d8 _ (by omega) (by omega)
      refine wv_callV (n := 1) (As := [_]) (pc := 379) d_Lw_isTagged_379 s_Lw_48 q_Yt_claim ⟨by decide, by decide⟩ hP.yt rfl rfl rfl rfl (Nat.le_of_ble_eq_true rfl) (Nat.le_of_ble_eq_true rfl) ?_
      refine yc_claim hE hB hn hP ⟨by omega, by omega⟩ (fun hc hP => ?_) (fun hc g hP => absurd (by rw [hcl]; omega) hc)
      refine ⟨_, rfl, ?_⟩
      rw [hcl]
      refine zp_bipush (pc := 382) d_Lw_isTagged_382 (by decide) ?_
      refine zp_icmp_ne (tgt := 391) (pc := 384) d_Lw_isTagged_384 (by decide) ⟨by omega, by omega⟩ ⟨by omega, by omega⟩ (fun c384 => (absurd rfl c384)) (fun c384 => ?_)
      refine wp_iconst (pc := 387) d_Lw_isTagged_387 ?_
      refine wp_goto (tgt := 392) (pc := 388) d_Lw_isTagged_388 (by decide) ?_
      refine zp_zreturn (pc := 392) d_Lw_isTagged_392 rfl rfl ?_
      exact k h hP
set_option maxRecDepth 100000 in
theorem lp_tgA (hE : gOk E) (hB : gB E ≤ B) (hn : nv ≤ 40000000) (hP : yPW B S h0 nv F sn G kp K h) {y b : Int} {o3 o4 o5 o6 o7 o8 o9 o10 : Option Value} (b0 : 0 ≤ b) (b1 : b < 10) (hb : ¬ b < F 13) (k : ∀ h : gH, yPW B S h0 nv F sn G kp K h → Q (some (.int (zI 1))) h) : Wp E m_Lw_isTagged 13 [some (.ref B), some (.int (zI y)), some (.int (zI b)), o3, o4, o5, o6, o7, o8, o9, o10] [.int (zI (c_ev F b 1))] h Q := by
  have hP0 := hP.jp
  have hJ := hP0.1
  obtain ⟨p1, p2, p3, p4, p5⟩ := hP0.2.1.2.2.1
  have f5 := hJ.vd.2.1 5 (by omega) (by omega) (by omega)
  have f6 := hJ.vd.2.1 6 (by omega) (by omega) (by omega)
  have f7 := hJ.vd.2.1 7 (by omega) (by omega) (by omega)
  have f8 := hJ.vd.2.1 8 (by omega) (by omega) (by omega)
  have f9 := hJ.vd.2.1 9 (by omega) (by omega) (by omega)
  have f10 := hJ.vd.2.1 10 (by omega) (by omega) (by omega)
  rw [c_ev_n b0 hb (by omega) (by omega)]
  refine st_i3 (pc := 13) d_Lw_isTagged_13 (by decide) ?_
  refine wp_iload_n (pc := 14) d_Lw_isTagged_14 rfl ?_
  refine zp_if_ge (tgt := 71) (pc := 15) d_Lw_isTagged_15 (by decide) ⟨by omega, by omega⟩ (fun c15 => (absurd c15 (by omega))) (fun c15 => ?_)
  refine wp_iload_n (pc := 18) d_Lw_isTagged_18 rfl ?_
  refine zp_bipush (pc := 19) d_Lw_isTagged_19 (by decide) ?_
  refine zp_icmp_ne (tgt := 69) (pc := 21) d_Lw_isTagged_21 (by decide) ⟨by omega, by omega⟩ ⟨by omega, by omega⟩ (fun c21 => (absurd rfl c21)) (fun c21 => ?_)
  refine wp_iload_n (pc := 24) d_Lw_isTagged_24 rfl ?_
  refine wp_aload_n (pc := 25) d_Lw_isTagged_25 rfl ?_
  refine wp_iconst (pc := 26) d_Lw_isTagged_26 ?_
  refine wv_callV (n := 1) (As := [_]) (pc := 27) d_Lw_isTagged_27 s_Lw_12 q_Yt_count ⟨by decide, by decide⟩ hP.yt rfl rfl rfl rfl (Nat.le_of_ble_eq_true rfl) (Nat.le_of_ble_eq_true rfl) ?_
  refine yc_count hE hB (by omega) hP ⟨by omega, by omega⟩ (fun h ln hP => ?_)
  refine ⟨_, rfl, ?_⟩
  rw [(c_ct_v F sn ln).2.2.2.2.2.1]
  refine wp_aload_n (pc := 30) d_Lw_isTagged_30 rfl ?_
  refine zp_bipush (pc := 31) d_Lw_isTagged_31 (by decide) ?_
  refine wv_callV (n := 1) (As := [_]) (pc := 33) d_Lw_isTagged_33 s_Lw_12 q_Yt_count ⟨by decide, by decide⟩ hP.yt rfl rfl rfl rfl (Nat.le_of_ble_eq_true rfl) (Nat.le_of_ble_eq_true rfl) ?_
  refine yc_count hE hB (by omega) hP ⟨by omega, by omega⟩ (fun h ln hP => ?_)
  refine ⟨_, rfl, ?_⟩
  rw [(c_ct_v F sn ln).2.2.2.2.2.2.2.1]
  refine zp_iadd (pc := 36) d_Lw_isTagged_36 ?_
  refine wp_aload_n (pc := 37) d_Lw_isTagged_37 rfl ?_
  refine zp_bipush (pc := 38) d_Lw_isTagged_38 (by decide) ?_
  refine wv_callV (n := 1) (As := [_]) (pc := 40) d_Lw_isTagged_40 s_Lw_12 q_Yt_count ⟨by decide, by decide⟩ hP.yt rfl rfl rfl rfl (Nat.le_of_ble_eq_true rfl) (Nat.le_of_ble_eq_true rfl) ?_
  refine yc_count hE hB (by omega) hP ⟨by omega, by omega⟩ (fun h ln hP => ?_)
  refine ⟨_, rfl, ?_⟩
  rw [(c_ct_v F sn ln).2.2.2.2.2.2.2.2.1]
  refine zp_iadd (pc := 43) d_Lw_isTagged_43 ?_
  refine wp_aload_n (pc := 44) d_Lw_isTagged_44 rfl ?_
  refine zp_bipush (pc := 45) d_Lw_isTagged_45 (by decide) ?_
  refine wv_callV (n := 1) (As := [_]) (pc := 47) d_Lw_isTagged_47 s_Lw_12 q_Yt_count ⟨by decide, by decide⟩ hP.yt rfl rfl rfl rfl (Nat.le_of_ble_eq_true rfl) (Nat.le_of_ble_eq_true rfl) ?_
  refine yc_count hE hB (by omega) hP ⟨by omega, by omega⟩ (fun h ln hP => ?_)
  refine ⟨_, rfl, ?_⟩
  rw [(c_ct_v F sn ln).2.2.2.2.2.2.2.2.2.1]
  refine zp_iadd (pc := 50) d_Lw_isTagged_50 ?_
  refine zp_icmp_lt (tgt := 69) (pc := 51) d_Lw_isTagged_51 (by decide) ⟨by omega, by omega⟩ ⟨by omega, by omega⟩ (fun c51 => (absurd c51 (by omega))) (fun c51 => ?_)
  refine wp_aload_n (pc := 54) d_Lw_isTagged_54 rfl ?_
  refine wp_iload_n (pc := 55) d_Lw_isTagged_55 rfl ?_
  refine wp_iconst (pc := 56) d_Lw_isTagged_56 ?_
  refine wv_callV (n := 2) (As := [_, _]) (pc := 57) d_Lw_isTagged_57 s_Lw_28 q_Yt_event ⟨by decide, by decide⟩ hP.yt rfl rfl rfl rfl (Nat.le_of_ble_eq_true rfl) (Nat.le_of_ble_eq_true rfl) ?_
  refine yc_event hE hB (by omega) hP ⟨by omega, by omega⟩ ⟨by omega, by omega⟩ (fun _ => ?_)
  refine ⟨_, rfl, ?_⟩
  rw [c_ev_n b0 hb (by omega) (by omega)]
  refine zp_bipush (pc := 60) d_Lw_isTagged_60 (by decide) ?_
  refine zp_icmp_ne (tgt := 69) (pc := 62) d_Lw_isTagged_62 (by decide) ⟨by omega, by omega⟩ ⟨by omega, by omega⟩ (fun c62 => (absurd rfl c62)) (fun c62 => ?_)
  refine wp_iconst (pc := 65) d_Lw_isTagged_65 ?_
  refine wp_goto (tgt := 70) (pc := 66) d_Lw_isTagged_66 (by decide) ?_
  refine zp_zreturn (pc := 70) d_Lw_isTagged_70 rfl rfl ?_
  exact k h hP
set_option maxRecDepth 100000 in
theorem lp_tgB (hE : gOk E) (hB : gB E ≤ B) (hn : nv ≤ 40000000) (hP : yPW B S h0 nv F sn G kp K h) {y b : Int} {o3 o4 o5 o6 o7 o8 o9 o10 : Option Value} (b0 : 0 ≤ b) (b1 : b < 10) (hb : b < F 13) (k : ∀ h : gH, yPW B S h0 nv F sn G kp K h → Q (some (.int (zI 1))) h) : Wp E m_Lw_isTagged 13 [some (.ref B), some (.int (zI y)), some (.int (zI b)), o3, o4, o5, o6, o7, o8, o9, o10] [.int (zI (c_ev F b 1))] h Q := by
  have hP0 := hP.jp
  have hJ := hP0.1
  obtain ⟨kd, z, w, l, e, nx, p, q0, q1, q2, q3, q4, q5, q6, q7, hD⟩ := tagd hJ hn hP0.2 b0 b1 hb
  have hz := hD.1
  have bz := tb_b (x := z) (by omega) (by omega)
  have rz : gR (tb z) := ⟨by omega, by omega⟩
  rw [q1]
  refine st_i3 (pc := 13) d_Lw_isTagged_13 (by decide) ?_
  refine wp_iload_n (pc := 14) d_Lw_isTagged_14 rfl ?_
  refine zp_if_ge (tgt := 71) (pc := 15) d_Lw_isTagged_15 (by decide) ⟨by omega, by omega⟩ (fun c15 => ?_) (fun c15 => (absurd c15 (by omega)))
  refine wp_aload_n (pc := 71) d_Lw_isTagged_71 rfl ?_
  refine wp_iload_n (pc := 72) d_Lw_isTagged_72 rfl ?_
  refine wp_iconst (pc := 73) d_Lw_isTagged_73 ?_
  refine wv_callV (n := 2) (As := [_, _]) (pc := 74) d_Lw_isTagged_74 s_Lw_28 q_Yt_event ⟨by decide, by decide⟩ hP.yt rfl rfl rfl rfl (Nat.le_of_ble_eq_true rfl) (Nat.le_of_ble_eq_true rfl) ?_
  refine yc_event hE hB (by omega) hP ⟨by omega, by omega⟩ ⟨by omega, by omega⟩ (fun _ => ?_)
  refine ⟨_, rfl, ?_⟩
  rw [q0]
  refine st_i4 (pc := 77) d_Lw_isTagged_77 (by decide) ?_
  refine wp_aload_n (pc := 79) d_Lw_isTagged_79 rfl ?_
  refine wp_iload_n (pc := 80) d_Lw_isTagged_80 rfl ?_
  refine wv_callV (n := 1) (As := [_]) (pc := 81) d_Lw_isTagged_81 s_Lw_37 q_Yt_tagOf ⟨by decide, by decide⟩ hP.yt rfl rfl rfl rfl (Nat.le_of_ble_eq_true rfl) (Nat.le_of_ble_eq_true rfl) ?_
  refine yc_tagOf hE hB (by omega) hP ⟨by omega, by omega⟩ (fun _ => ?_)
  refine ⟨_, rfl, ?_⟩
  rw [q2]
  refine st_i5 (pc := 84) d_Lw_isTagged_84 (by decide) ?_
  refine wp_aload_n (pc := 86) d_Lw_isTagged_86 rfl ?_
  refine wp_iload (pc := 87) d_Lw_isTagged_87 rfl ?_
  refine wp_iconst (pc := 89) d_Lw_isTagged_89 ?_
  refine wv_callV (n := 2) (As := [_, _]) (pc := 90) d_Lw_isTagged_90 s_Lw_40 q_Yt_tag ⟨by decide, by decide⟩ hP.yt rfl rfl rfl rfl (Nat.le_of_ble_eq_true rfl) (Nat.le_of_ble_eq_true rfl) ?_
  refine yc_tag hE hB (by omega) hP rz ⟨by omega, by omega⟩ (fun _ => ?_)
  refine ⟨_, rfl, ?_⟩
  rw [q3]
  refine st_i6 (pc := 93) d_Lw_isTagged_93 (by decide) ?_
  refine wp_aload_n (pc := 95) d_Lw_isTagged_95 rfl ?_
  refine wp_iload (pc := 96) d_Lw_isTagged_96 rfl ?_
  refine wp_iconst (pc := 98) d_Lw_isTagged_98 ?_
  refine wv_callV (n := 2) (As := [_, _]) (pc := 99) d_Lw_isTagged_99 s_Lw_40 q_Yt_tag ⟨by decide, by decide⟩ hP.yt rfl rfl rfl rfl (Nat.le_of_ble_eq_true rfl) (Nat.le_of_ble_eq_true rfl) ?_
  refine yc_tag hE hB (by omega) hP rz ⟨by omega, by omega⟩ (fun _ => ?_)
  refine ⟨_, rfl, ?_⟩
  rw [q4]
  refine st_i7 (pc := 102) d_Lw_isTagged_102 (by decide) ?_
  refine wp_aload_n (pc := 104) d_Lw_isTagged_104 rfl ?_
  refine wp_iload (pc := 105) d_Lw_isTagged_105 rfl ?_
  refine wp_iconst (pc := 107) d_Lw_isTagged_107 ?_
  refine wv_callV (n := 2) (As := [_, _]) (pc := 108) d_Lw_isTagged_108 s_Lw_40 q_Yt_tag ⟨by decide, by decide⟩ hP.yt rfl rfl rfl rfl (Nat.le_of_ble_eq_true rfl) (Nat.le_of_ble_eq_true rfl) ?_
  refine yc_tag hE hB (by omega) hP rz ⟨by omega, by omega⟩ (fun _ => ?_)
  refine ⟨_, rfl, ?_⟩
  rw [q5]
  refine st_i8 (pc := 111) d_Lw_isTagged_111 (by decide) ?_
  refine wp_aload_n (pc := 113) d_Lw_isTagged_113 rfl ?_
  refine wp_iload (pc := 114) d_Lw_isTagged_114 rfl ?_
  refine wp_iconst (pc := 116) d_Lw_isTagged_116 ?_
  refine wv_callV (n := 2) (As := [_, _]) (pc := 117) d_Lw_isTagged_117 s_Lw_40 q_Yt_tag ⟨by decide, by decide⟩ hP.yt rfl rfl rfl rfl (Nat.le_of_ble_eq_true rfl) (Nat.le_of_ble_eq_true rfl) ?_
  refine yc_tag hE hB (by omega) hP rz ⟨by omega, by omega⟩ (fun _ => ?_)
  refine ⟨_, rfl, ?_⟩
  rw [q6]
  refine st_i9 (pc := 120) d_Lw_isTagged_120 (by decide) ?_
  refine wp_aload_n (pc := 122) d_Lw_isTagged_122 rfl ?_
  refine wp_iload (pc := 123) d_Lw_isTagged_123 rfl ?_
  refine wp_iconst (pc := 125) d_Lw_isTagged_125 ?_
  refine wv_callV (n := 2) (As := [_, _]) (pc := 126) d_Lw_isTagged_126 s_Lw_40 q_Yt_tag ⟨by decide, by decide⟩ hP.yt rfl rfl rfl rfl (Nat.le_of_ble_eq_true rfl) (Nat.le_of_ble_eq_true rfl) ?_
  refine yc_tag hE hB (by omega) hP rz ⟨by omega, by omega⟩ (fun _ => ?_)
  refine ⟨_, rfl, ?_⟩
  rw [q7]
  refine st_i10 (pc := 129) d_Lw_isTagged_129 (by decide) ?_
  refine lp_tg1 hE hB hn hP hD (fun h hP => ?_)
  refine lp_tg2 hE hB hn hP hD (fun h hP => ?_)
  refine lp_tg3 hE hB hn hP hD (fun h hP => ?_)
  refine lp_tg4 hE hB hn hP hD (fun h hP => ?_)
  exact lp_tg5 hE hB hn hP hD k
set_option maxRecDepth 100000 in
theorem sp_Lw_isTagged (hE : gOk E) (hB : gB E ≤ B) (hn : nv ≤ 40000000) (hP : yPW B S h0 nv F sn G kp K h) {y : Int} (k : ∀ h : gH, yPW B S h0 nv F sn G kp K h → Q (some (.int (zI 1))) h) : Wp E m_Lw_isTagged 0 (gEnt m_Lw_isTagged [.ref B, .int (zI y)]) [] h Q := by
  show Wp E m_Lw_isTagged 0 [some (.ref B), some (.int (zI y)), none, none, none, none, none, none, none, none, none] [] h Q
  refine wp_iload_n (pc := 0) d_Lw_isTagged_0 rfl ?_
  refine zp_bipush (pc := 1) d_Lw_isTagged_1 (by decide) ?_
  refine wv_callS (n := 2) (As := [_, _]) (pc := 3) d_Lw_isTagged_3 s_Lw_45 q_Lw_low ⟨by decide, by decide⟩ rfl rfl rfl (Nat.le_of_ble_eq_true rfl) (Nat.le_of_ble_eq_true rfl) ?_
  refine sp_Lw_low (by omega) (by omega) (fun r3 r3a r3b => ?_)
  refine ⟨_, rfl, ?_⟩
  refine st_i2 (pc := 6) d_Lw_isTagged_6 (by decide) ?_
  refine wp_aload_n (pc := 7) d_Lw_isTagged_7 rfl ?_
  refine wp_iload_n (pc := 8) d_Lw_isTagged_8 rfl ?_
  refine wp_iconst (pc := 9) d_Lw_isTagged_9 ?_
  refine wv_callV (n := 2) (As := [_, _]) (pc := 10) d_Lw_isTagged_10 s_Lw_28 q_Yt_event ⟨by decide, by decide⟩ hP.yt rfl rfl rfl rfl (Nat.le_of_ble_eq_true rfl) (Nat.le_of_ble_eq_true rfl) ?_
  refine yc_event hE hB (by omega) hP ⟨by omega, by omega⟩ ⟨by omega, by omega⟩ (fun _ => ?_)
  refine ⟨_, rfl, ?_⟩
  by_cases hb : r3 < F 13
  · exact lp_tgB hE hB hn hP r3a r3b hb k
  · exact lp_tgA hE hB hn hP r3a r3b hb k
end S78
