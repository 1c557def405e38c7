/-! ===== an act by a cell ===== -/
section S75
variable {E : gE} {B S : Nat} {h0 h : gH} {Q : Option Value → gH → Prop} {nv : Int} {F G K : Int → Int} {sn kp : Int}
theorem gb_ar (hJ : J nv F) (a b : Int) : gR (c_ar F a b) := by
  have hs := hJ.vd.1
  unfold c_ar
  repeat' split
  all_goals exact ⟨by omega, by omega⟩
theorem gb_op (hJ : J nv F) (r o : Int) : gR (c_op F r o) := by
  have hs := hJ.vd.1
  unfold c_op
  by_cases q : 0 ≤ r ∧ r ≤ F 1 - 1
  · rw [if_neg (not_not_intro q)]
    have hb := sC_b hJ.vd (a := r) q.1 (by omega)
    split <;> exact ⟨by omega, by omega⟩
  · rw [if_pos q]
    exact ⟨by omega, by omega⟩
theorem gb_ag (hJ : J nv F) (x y : Int) : gR (c_ag F x y) := by
  unfold c_ag
  by_cases q : isHk F x
  · rw [if_neg (not_not_intro q)]
    have hb := hJ.vd.2.2.2.1 x (by omega) (by omega)
    repeat' split
    all_goals exact ⟨by omega, by omega⟩
  · rw [if_pos q]
    exact ⟨by omega, by omega⟩
theorem gb_st (hJ : J nv F) (w v : Int) : gR (c_st F w v) := by
  have hs := hJ.vd.1
  unfold c_st
  by_cases q : okSt w v
  · rw [if_neg (not_not_intro q)]
    have hb : 0 ≤ F (2 + w) ∧ F (2 + w) ≤ 99 := by
      rcases q with ⟨rfl, _⟩ | ⟨rfl, _⟩ | ⟨rfl, _⟩
      · have := hs.2.2.1
        rw [show (2 : Int) + 0 = 2 from rfl]
        omega
      · have := hs.2.2.2.1
        rw [show (2 : Int) + 1 = 3 from rfl]
        omega
      · have := hs.2.2.2.2
        rw [show (2 : Int) + 2 = 4 from rfl]
        omega
    split <;> exact ⟨by omega, by omega⟩
  · rw [if_pos q]
    exact ⟨by omega, by omega⟩
theorem gb_tk (hJ : J nv F) (y z : Int) : gR (c_tk F y z) := by
  unfold c_tk
  by_cases q : bst F z 60 = -5
  · rw [if_pos q]
    repeat' split
    all_goals exact ⟨by omega, by omega⟩
  · rw [if_neg q]
    have hf := bst_fr 60 q
    have hb := hdl_b hJ.vd (x := bst F z 60) (by omega) (by omega)
    have ht := tb_b (x := hdl F (bst F z 60)) (by omega) (by omega)
    repeat' split
    all_goals exact ⟨by omega, by omega⟩
theorem gb_cl (hJ : J nv F) (t : Int) : gR (c_cl F t) := by
  have hn := noT_b F t
  unfold c_cl
  by_cases q : noT F t = 0
  · rw [if_neg (not_not_intro q)]
    have hh := no_hold hJ q
    have hb := duF_b hJ.vd hh.1 hh.2.1
    exact ⟨by omega, by omega⟩
  · rw [if_pos q]
    exact ⟨by omega, by omega⟩
theorem gb_gv (hJ : J nv F) (y p : Int) : gR (c_gv F y p) := by
  unfold c_gv
  by_cases q : gvx F y p 60 < 0
  · rw [if_pos q]
    split <;> exact ⟨by omega, by omega⟩
  · rw [if_neg q]
    have hf := (gvx_in (F := F) (y := y) (p := p) 60).resolve_left (by omega)
    have hb := duF_b hJ.vd hf.1 hf.2.1
    split <;> exact ⟨by omega, by omega⟩
theorem gb_mv (hJ : J nv F) (t x : Int) : gR (c_mv F t x) := by
  have hn := noT_b F t
  unfold c_mv
  by_cases q : isHk F x
  · have hb := hdl_b hJ.vd (x := x) (by omega) (by omega)
    have ht := tb_b (x := hdl F x) (by omega) (by omega)
    repeat' split
    all_goals exact ⟨by omega, by omega⟩
  · rw [if_pos q]
    split <;> exact ⟨by omega, by omega⟩
theorem gb_ma (hJ : J nv F) (a b : Int) : gR (c_ma F a b) := by
  have hs := hJ.vd.1
  unfold c_ma
  by_cases q : 0 ≤ a ∧ a ≤ F 1 - 1
  · have hb := sC_b hJ.vd (a := a) q.1 (by omega)
    repeat' split
    all_goals exact ⟨by omega, by omega⟩
  · rw [if_pos q]
    exact ⟨by omega, by omega⟩
theorem gb_sh (F : Int → Int) : gR (c_sh F) := by
  have hb := nSh_b F 6000
  unfold c_sh
  split <;> exact ⟨by omega, by omega⟩
theorem gb_ps (hJ : J nv F) (m : Int) : gR (c_ps F m) := by
  unfold c_ps
  by_cases q : 1 ≤ m ∧ m ≤ 60
  · rw [if_neg (not_not_intro q)]
    by_cases q2 : 9999 < F 0 + m
    · rw [if_pos q2]
      exact ⟨by omega, by omega⟩
    · rw [if_neg q2]
      have hb := hJ.ps m.toNat (by omega)
      exact ⟨by omega, by omega⟩
  · rw [if_pos q]
    exact ⟨by omega, by omega⟩
theorem gb_h6 (hJ : J nv F) (x : Int) : -5 ≤ c_hk F x 6 ∧ c_hk F x 6 ≤ 60010 := by
  by_cases q : isHk F x
  · have hb := hdl_b hJ.vd (x := x) (by omega) (by omega)
    have ht := tb_b (x := hdl F x) (by omega) (by omega)
    rw [(c_hk_v q).2.2.2.2.2.2.1]
    split <;> omega
  · rw [c_hk_n q]
    omega
theorem gb_to (x : Int) : -5 ≤ c_to x ∧ c_to x ≤ 60010 := by
  unfold c_to
  by_cases q : 0 ≤ x ∧ x ≤ 5999
  · have ht := tb_b (x := x) (by omega) (by omega)
    rw [if_pos q]
    omega
  · rw [if_neg q]
    omega
set_option maxRecDepth 100000 in
set_option maxHeartbeats 1000000 in
theorem lp_acts_97 (hE : gOk E) (hB : gB E ≤ B) (hn : nv ≤ 40000000) (hP : yPW B S h0 nv F sn G kp K h) {y x t i : Int} (x0 : 0 ≤ x) (x1 : x ≤ 100) (ht : gR t) (hi : gR i) (k0 : ∀ (g : gH) (c : Int), c < 0 → gR c → yPW B S h0 nv F sn G kp K g → Q (some (.int (zI c))) g) (k1 : ∀ (g : gH) (c : Int) (F2 : Int → Int), 0 ≤ c → gR c → yPW B S h0 (nv + 20000) F2 (if 4 < sn + 1 then 4 else sn + 1) F kp K g → Q (some (.int (zI c))) g) : Wp E m_Lw_acts 97 [some (.ref B), some (.int (zI y)), some (.int (zI (F 1))), some (.int (zI x)), some (.int (zI t)), some (.int (zI i))] [] h Q := by
  have hJ := hP.jp.1
  have hs := hJ.vd.1.2.1
  refine wp_iload_n (pc := 97) d_Lw_acts_97 rfl ?_
  refine zp_bipush (pc := 98) d_Lw_acts_98 (by decide) ?_
  refine wv_callS (n := 2) (As := [_, _]) (pc := 100) d_Lw_acts_100 s_Lw_45 q_Lw_low ⟨by decide, by decide⟩ rfl rfl rfl (Nat.le_of_ble_eq_true rfl) (Nat.le_of_ble_eq_true rfl) ?_
  refine sp_Lw_low (by omega) (by omega) (fun r100 r100a r100b => ?_)
  refine ⟨_, rfl, ?_⟩
  by_cases k103_0 : r100 = 0
  · rw [k103_0]
    refine zp_tableIn (x := 0) (tgt := 184) (pc := 103) d_Lw_acts_103 ⟨by decide, by decide⟩ (by decide) (by decide) rfl (by decide) ?_
    refine wp_aload_n (pc := 184) d_Lw_acts_184 rfl ?_
    refine wp_iconst (pc := 185) d_Lw_acts_185 ?_
    refine wp_iload_n (pc := 186) d_Lw_acts_186 rfl ?_
    refine wp_iconst (pc := 187) d_Lw_acts_187 ?_
    refine zp_ishr_any (pc := 188) d_Lw_acts_188 (fun v188 r188 => ?_)
    refine wp_iconst (pc := 189) d_Lw_acts_189 ?_
    refine wv_callS (n := 2) (As := [_, _]) (pc := 190) d_Lw_acts_190 s_Lw_45 q_Lw_low ⟨by decide, by decide⟩ rfl rfl rfl (Nat.le_of_ble_eq_true rfl) (Nat.le_of_ble_eq_true rfl) ?_
    refine sp_Lw_low (by omega) (by omega) (fun r190 r190a r190b => ?_)
    refine ⟨_, rfl, ?_⟩
    refine zp_iadd (pc := 193) d_Lw_acts_193 ?_
    refine wp_iconst (pc := 194) d_Lw_acts_194 ?_
    refine wp_iload_n (pc := 195) d_Lw_acts_195 rfl ?_
    refine zp_bipush (pc := 196) d_Lw_acts_196 (by decide) ?_
    refine zp_ishr_any (pc := 198) d_Lw_acts_198 (fun v198 r198 => ?_)
    refine zp_bipush (pc := 199) d_Lw_acts_199 (by decide) ?_
    refine wv_callS (n := 2) (As := [_, _]) (pc := 201) d_Lw_acts_201 s_Lw_45 q_Lw_low ⟨by decide, by decide⟩ rfl rfl rfl (Nat.le_of_ble_eq_true rfl) (Nat.le_of_ble_eq_true rfl) ?_
    refine sp_Lw_low (by omega) (by omega) (fun r201 r201a r201b => ?_)
    refine ⟨_, rfl, ?_⟩
    refine zp_iadd (pc := 204) d_Lw_acts_204 ?_
    refine wv_callV (n := 2) (As := [_, _]) (pc := 205) d_Lw_acts_205 s_Lw_51 q_Yt_addRack ⟨by decide, by decide⟩ hP.yt rfl rfl rfl rfl (Nat.le_of_ble_eq_true rfl) (Nat.le_of_ble_eq_true rfl) ?_
    refine yc_addRack hE hB hn hP ⟨by omega, by omega⟩ ⟨by omega, by omega⟩ (fun hc hP => ?_) (fun hc g hP => ?_)
    · refine ⟨_, rfl, ?_⟩
      refine zp_ireturn (pc := 208) d_Lw_acts_208 rfl ?_
      exact k0 _ _ hc (gb_ar hJ _ _) hP
    · refine ⟨_, rfl, ?_⟩
      refine zp_ireturn (pc := 208) d_Lw_acts_208 rfl ?_
      exact k1 _ _ _ (by omega) (gb_ar hJ _ _) hP
  by_cases k103_1 : r100 = 1
  · rw [k103_1]
    refine zp_tableIn (x := 1) (tgt := 209) (pc := 103) d_Lw_acts_103 ⟨by decide, by decide⟩ (by decide) (by decide) rfl (by decide) ?_
    refine wp_aload_n (pc := 209) d_Lw_acts_209 rfl ?_
    refine wp_iload_n (pc := 210) d_Lw_acts_210 rfl ?_
    refine wp_iconst (pc := 211) d_Lw_acts_211 ?_
    refine zp_ishr_any (pc := 212) d_Lw_acts_212 (fun v212 r212 => ?_)
    refine wp_iload_n (pc := 213) d_Lw_acts_213 rfl ?_
    refine wp_iconst (pc := 214) d_Lw_acts_214 ?_
    refine zp_iadd (pc := 215) d_Lw_acts_215 ?_
    refine wv_callS (n := 2) (As := [_, _]) (pc := 216) d_Lw_acts_216 s_Lw_45 q_Lw_low ⟨by decide, by decide⟩ rfl rfl rfl (Nat.le_of_ble_eq_true rfl) (Nat.le_of_ble_eq_true rfl) ?_
    refine sp_Lw_low (by omega) (by omega) (fun r216 r216a r216b => ?_)
    refine ⟨_, rfl, ?_⟩
    refine wp_iload_n (pc := 219) d_Lw_acts_219 rfl ?_
    refine zp_bipush (pc := 220) d_Lw_acts_220 (by decide) ?_
    refine zp_ishr_any (pc := 222) d_Lw_acts_222 (fun v222 r222 => ?_)
    refine wp_iconst (pc := 223) d_Lw_acts_223 ?_
    refine zp_iand_any (pc := 224) d_Lw_acts_224 (fun v224 r224 => ?_)
    refine wp_iconst (pc := 225) d_Lw_acts_225 ?_
    refine zp_icmp_ne (tgt := 233) (pc := 226) d_Lw_acts_226 (by decide) r224 ⟨by omega, by omega⟩ (fun c226 => ?_) (fun c226 => ?_)
    · refine wp_iconst (pc := 233) d_Lw_acts_233 ?_
      refine wv_callV (n := 2) (As := [_, _]) (pc := 234) d_Lw_acts_234 s_Lw_54 q_Yt_open ⟨by decide, by decide⟩ hP.yt rfl rfl rfl rfl (Nat.le_of_ble_eq_true rfl) (Nat.le_of_ble_eq_true rfl) ?_
      refine yc_open hE hB hn hP ⟨by omega, by omega⟩ (by first | exact Or.inl rfl | exact Or.inr rfl) (fun hc hP => ?_) (fun hc g hP => ?_)
      · refine ⟨_, rfl, ?_⟩
        refine zp_ireturn (pc := 237) d_Lw_acts_237 rfl ?_
        exact k0 _ _ hc (gb_op hJ _ _) hP
      · refine ⟨_, rfl, ?_⟩
        refine zp_ireturn (pc := 237) d_Lw_acts_237 rfl ?_
        exact k1 _ _ _ (by omega) (gb_op hJ _ _) hP
    · refine wp_iconst (pc := 229) d_Lw_acts_229 ?_
      refine wp_goto (tgt := 234) (pc := 230) d_Lw_acts_230 (by decide) ?_
      refine wv_callV (n := 2) (As := [_, _]) (pc := 234) d_Lw_acts_234 s_Lw_54 q_Yt_open ⟨by decide, by decide⟩ hP.yt rfl rfl rfl rfl (Nat.le_of_ble_eq_true rfl) (Nat.le_of_ble_eq_true rfl) ?_
      refine yc_open hE hB hn hP ⟨by omega, by omega⟩ (by first | exact Or.inl rfl | exact Or.inr rfl) (fun hc hP => ?_) (fun hc g hP => ?_)
      · refine ⟨_, rfl, ?_⟩
        refine zp_ireturn (pc := 237) d_Lw_acts_237 rfl ?_
        exact k0 _ _ hc (gb_op hJ _ _) hP
      · refine ⟨_, rfl, ?_⟩
        refine zp_ireturn (pc := 237) d_Lw_acts_237 rfl ?_
        exact k1 _ _ _ (by omega) (gb_op hJ _ _) hP
  by_cases k103_2 : r100 = 2
  · rw [k103_2]
    refine zp_tableIn (x := 2) (tgt := 238) (pc := 103) d_Lw_acts_103 ⟨by decide, by decide⟩ (by decide) (by decide) rfl (by decide) ?_
    refine wp_aload_n (pc := 238) d_Lw_acts_238 rfl ?_
    refine wp_iload_n (pc := 239) d_Lw_acts_239 rfl ?_
    refine wp_iload_n (pc := 240) d_Lw_acts_240 rfl ?_
    refine zp_bipush (pc := 241) d_Lw_acts_241 (by decide) ?_
    refine zp_ishr_any (pc := 243) d_Lw_acts_243 (fun v243 r243 => ?_)
    refine zp_bipush (pc := 244) d_Lw_acts_244 (by decide) ?_
    refine wv_callS (n := 2) (As := [_, _]) (pc := 246) d_Lw_acts_246 s_Lw_45 q_Lw_low ⟨by decide, by decide⟩ rfl rfl rfl (Nat.le_of_ble_eq_true rfl) (Nat.le_of_ble_eq_true rfl) ?_
    refine sp_Lw_low (by omega) (by omega) (fun r246 r246a r246b => ?_)
    refine ⟨_, rfl, ?_⟩
    refine wv_callV (n := 2) (As := [_, _]) (pc := 249) d_Lw_acts_249 s_Lw_58 q_Yt_age ⟨by decide, by decide⟩ hP.yt rfl rfl rfl rfl (Nat.le_of_ble_eq_true rfl) (Nat.le_of_ble_eq_true rfl) ?_
    refine yc_age hE hB hn hP ⟨by omega, by omega⟩ ⟨by omega, by omega⟩ (fun hc hP => ?_) (fun hc g hP => ?_)
    · refine ⟨_, rfl, ?_⟩
      refine zp_ireturn (pc := 252) d_Lw_acts_252 rfl ?_
      exact k0 _ _ hc (gb_ag hJ _ _) hP
    · refine ⟨_, rfl, ?_⟩
      refine zp_ireturn (pc := 252) d_Lw_acts_252 rfl ?_
      exact k1 _ _ _ (by omega) (gb_ag hJ _ _) hP
  by_cases k103_3 : r100 = 3
  · rw [k103_3]
    refine zp_tableIn (x := 3) (tgt := 253) (pc := 103) d_Lw_acts_103 ⟨by decide, by decide⟩ (by decide) (by decide) rfl (by decide) ?_
    refine wp_aload_n (pc := 253) d_Lw_acts_253 rfl ?_
    refine wp_iload_n (pc := 254) d_Lw_acts_254 rfl ?_
    refine wp_iconst (pc := 255) d_Lw_acts_255 ?_
    refine zp_ishr_any (pc := 256) d_Lw_acts_256 (fun v256 r256 => ?_)
    refine wp_iconst (pc := 257) d_Lw_acts_257 ?_
    refine wv_callS (n := 2) (As := [_, _]) (pc := 258) d_Lw_acts_258 s_Lw_45 q_Lw_low ⟨by decide, by decide⟩ rfl rfl rfl (Nat.le_of_ble_eq_true rfl) (Nat.le_of_ble_eq_true rfl) ?_
    refine sp_Lw_low (by omega) (by omega) (fun r258 r258a r258b => ?_)
    refine ⟨_, rfl, ?_⟩
    refine wp_iload_n (pc := 261) d_Lw_acts_261 rfl ?_
    refine zp_bipush (pc := 262) d_Lw_acts_262 (by decide) ?_
    refine zp_ishr_any (pc := 264) d_Lw_acts_264 (fun v264 r264 => ?_)
    refine zp_bipush (pc := 265) d_Lw_acts_265 (by decide) ?_
    refine wv_callS (n := 2) (As := [_, _]) (pc := 267) d_Lw_acts_267 s_Lw_45 q_Lw_low ⟨by decide, by decide⟩ rfl rfl rfl (Nat.le_of_ble_eq_true rfl) (Nat.le_of_ble_eq_true rfl) ?_
    refine sp_Lw_low (by omega) (by omega) (fun r267 r267a r267b => ?_)
    refine ⟨_, rfl, ?_⟩
    refine wv_callV (n := 2) (As := [_, _]) (pc := 270) d_Lw_acts_270 s_Lw_61 q_Yt_set ⟨by decide, by decide⟩ hP.yt rfl rfl rfl rfl (Nat.le_of_ble_eq_true rfl) (Nat.le_of_ble_eq_true rfl) ?_
    refine yc_set hE hB hn hP ⟨by omega, by omega⟩ ⟨by omega, by omega⟩ (fun hc hP => ?_) (fun hc g hP => ?_)
    · refine ⟨_, rfl, ?_⟩
      refine zp_ireturn (pc := 273) d_Lw_acts_273 rfl ?_
      exact k0 _ _ hc (gb_st hJ _ _) hP
    · refine ⟨_, rfl, ?_⟩
      refine zp_ireturn (pc := 273) d_Lw_acts_273 rfl ?_
      exact k1 _ _ _ (by omega) (gb_st hJ _ _) hP
  by_cases k103_4 : r100 = 4
  · rw [k103_4]
    refine zp_tableIn (x := 4) (tgt := 274) (pc := 103) d_Lw_acts_103 ⟨by decide, by decide⟩ (by decide) (by decide) rfl (by decide) ?_
    refine wp_aload_n (pc := 274) d_Lw_acts_274 rfl ?_
    refine wp_iload_n (pc := 275) d_Lw_acts_275 rfl ?_
    refine wp_iconst (pc := 276) d_Lw_acts_276 ?_
    refine zp_ishr_any (pc := 277) d_Lw_acts_277 (fun v277 r277 => ?_)
    refine zp_bipush (pc := 278) d_Lw_acts_278 (by decide) ?_
    refine wv_callS (n := 2) (As := [_, _]) (pc := 280) d_Lw_acts_280 s_Lw_45 q_Lw_low ⟨by decide, by decide⟩ rfl rfl rfl (Nat.le_of_ble_eq_true rfl) (Nat.le_of_ble_eq_true rfl) ?_
    refine sp_Lw_low (by omega) (by omega) (fun r280 r280a r280b => ?_)
    refine ⟨_, rfl, ?_⟩
    refine wp_iconst (pc := 283) d_Lw_acts_283 ?_
    refine wp_iload_n (pc := 284) d_Lw_acts_284 rfl ?_
    refine zp_bipush (pc := 285) d_Lw_acts_285 (by decide) ?_
    refine zp_ishr_any (pc := 287) d_Lw_acts_287 (fun v287 r287 => ?_)
    refine wp_iconst (pc := 288) d_Lw_acts_288 ?_
    refine wv_callS (n := 2) (As := [_, _]) (pc := 289) d_Lw_acts_289 s_Lw_45 q_Lw_low ⟨by decide, by decide⟩ rfl rfl rfl (Nat.le_of_ble_eq_true rfl) (Nat.le_of_ble_eq_true rfl) ?_
    refine sp_Lw_low (by omega) (by omega) (fun r289 r289a r289b => ?_)
    refine ⟨_, rfl, ?_⟩
    refine zp_iadd (pc := 292) d_Lw_acts_292 ?_
    refine wv_callV (n := 2) (As := [_, _]) (pc := 293) d_Lw_acts_293 s_Lw_64 q_Yt_take ⟨by decide, by decide⟩ hP.yt rfl rfl rfl rfl (Nat.le_of_ble_eq_true rfl) (Nat.le_of_ble_eq_true rfl) ?_
    refine yc_take hE hB hn hP ⟨by omega, by omega⟩ ⟨by omega, by omega⟩ (fun hc hP => ?_) (fun hc g hP => ?_)
    · refine ⟨_, rfl, ?_⟩
      refine zp_ireturn (pc := 296) d_Lw_acts_296 rfl ?_
      exact k0 _ _ hc (gb_tk hJ _ _) hP
    · refine ⟨_, rfl, ?_⟩
      refine zp_ireturn (pc := 296) d_Lw_acts_296 rfl ?_
      exact k1 _ _ _ (by omega) (gb_tk hJ _ _) hP
  by_cases k103_5 : r100 = 5
  · rw [k103_5]
    refine zp_tableIn (x := 5) (tgt := 274) (pc := 103) d_Lw_acts_103 ⟨by decide, by decide⟩ (by decide) (by decide) rfl (by decide) ?_
    refine wp_aload_n (pc := 274) d_Lw_acts_274 rfl ?_
    refine wp_iload_n (pc := 275) d_Lw_acts_275 rfl ?_
    refine wp_iconst (pc := 276) d_Lw_acts_276 ?_
    refine zp_ishr_any (pc := 277) d_Lw_acts_277 (fun v277 r277 => ?_)
    refine zp_bipush (pc := 278) d_Lw_acts_278 (by decide) ?_
    refine wv_callS (n := 2) (As := [_, _]) (pc := 280) d_Lw_acts_280 s_Lw_45 q_Lw_low ⟨by decide, by decide⟩ rfl rfl rfl (Nat.le_of_ble_eq_true rfl) (Nat.le_of_ble_eq_true rfl) ?_
    refine sp_Lw_low (by omega) (by omega) (fun r280 r280a r280b => ?_)
    refine ⟨_, rfl, ?_⟩
    refine wp_iconst (pc := 283) d_Lw_acts_283 ?_
    refine wp_iload_n (pc := 284) d_Lw_acts_284 rfl ?_
    refine zp_bipush (pc := 285) d_Lw_acts_285 (by decide) ?_
    refine zp_ishr_any (pc := 287) d_Lw_acts_287 (fun v287 r287 => ?_)
    refine wp_iconst (pc := 288) d_Lw_acts_288 ?_
    refine wv_callS (n := 2) (As := [_, _]) (pc := 289) d_Lw_acts_289 s_Lw_45 q_Lw_low ⟨by decide, by decide⟩ rfl rfl rfl (Nat.le_of_ble_eq_true rfl) (Nat.le_of_ble_eq_true rfl) ?_
    refine sp_Lw_low (by omega) (by omega) (fun r289 r289a r289b => ?_)
    refine ⟨_, rfl, ?_⟩
    refine zp_iadd (pc := 292) d_Lw_acts_292 ?_
    refine wv_callV (n := 2) (As := [_, _]) (pc := 293) d_Lw_acts_293 s_Lw_64 q_Yt_take ⟨by decide, by decide⟩ hP.yt rfl rfl rfl rfl (Nat.le_of_ble_eq_true rfl) (Nat.le_of_ble_eq_true rfl) ?_
    refine yc_take hE hB hn hP ⟨by omega, by omega⟩ ⟨by omega, by omega⟩ (fun hc hP => ?_) (fun hc g hP => ?_)
    · refine ⟨_, rfl, ?_⟩
      refine zp_ireturn (pc := 296) d_Lw_acts_296 rfl ?_
      exact k0 _ _ hc (gb_tk hJ _ _) hP
    · refine ⟨_, rfl, ?_⟩
      refine zp_ireturn (pc := 296) d_Lw_acts_296 rfl ?_
      exact k1 _ _ _ (by omega) (gb_tk hJ _ _) hP
  by_cases k103_6 : r100 = 6
  · rw [k103_6]
    refine zp_tableIn (x := 6) (tgt := 274) (pc := 103) d_Lw_acts_103 ⟨by decide, by decide⟩ (by decide) (by decide) rfl (by decide) ?_
    refine wp_aload_n (pc := 274) d_Lw_acts_274 rfl ?_
    refine wp_iload_n (pc := 275) d_Lw_acts_275 rfl ?_
    refine wp_iconst (pc := 276) d_Lw_acts_276 ?_
    refine zp_ishr_any (pc := 277) d_Lw_acts_277 (fun v277 r277 => ?_)
    refine zp_bipush (pc := 278) d_Lw_acts_278 (by decide) ?_
    refine wv_callS (n := 2) (As := [_, _]) (pc := 280) d_Lw_acts_280 s_Lw_45 q_Lw_low ⟨by decide, by decide⟩ rfl rfl rfl (Nat.le_of_ble_eq_true rfl) (Nat.le_of_ble_eq_true rfl) ?_
    refine sp_Lw_low (by omega) (by omega) (fun r280 r280a r280b => ?_)
    refine ⟨_, rfl, ?_⟩
    refine wp_iconst (pc := 283) d_Lw_acts_283 ?_
    refine wp_iload_n (pc := 284) d_Lw_acts_284 rfl ?_
    refine zp_bipush (pc := 285) d_Lw_acts_285 (by decide) ?_
    refine zp_ishr_any (pc := 287) d_Lw_acts_287 (fun v287 r287 => ?_)
    refine wp_iconst (pc := 288) d_Lw_acts_288 ?_
    refine wv_callS (n := 2) (As := [_, _]) (pc := 289) d_Lw_acts_289 s_Lw_45 q_Lw_low ⟨by decide, by decide⟩ rfl rfl rfl (Nat.le_of_ble_eq_true rfl) (Nat.le_of_ble_eq_true rfl) ?_
    refine sp_Lw_low (by omega) (by omega) (fun r289 r289a r289b => ?_)
    refine ⟨_, rfl, ?_⟩
    refine zp_iadd (pc := 292) d_Lw_acts_292 ?_
    refine wv_callV (n := 2) (As := [_, _]) (pc := 293) d_Lw_acts_293 s_Lw_64 q_Yt_take ⟨by decide, by decide⟩ hP.yt rfl rfl rfl rfl (Nat.le_of_ble_eq_true rfl) (Nat.le_of_ble_eq_true rfl) ?_
    refine yc_take hE hB hn hP ⟨by omega, by omega⟩ ⟨by omega, by omega⟩ (fun hc hP => ?_) (fun hc g hP => ?_)
    · refine ⟨_, rfl, ?_⟩
      refine zp_ireturn (pc := 296) d_Lw_acts_296 rfl ?_
      exact k0 _ _ hc (gb_tk hJ _ _) hP
    · refine ⟨_, rfl, ?_⟩
      refine zp_ireturn (pc := 296) d_Lw_acts_296 rfl ?_
      exact k1 _ _ _ (by omega) (gb_tk hJ _ _) hP
  by_cases k103_7 : r100 = 7
  · rw [k103_7]
    refine zp_tableIn (x := 7) (tgt := 274) (pc := 103) d_Lw_acts_103 ⟨by decide, by decide⟩ (by decide) (by decide) rfl (by decide) ?_
    refine wp_aload_n (pc := 274) d_Lw_acts_274 rfl ?_
    refine wp_iload_n (pc := 275) d_Lw_acts_275 rfl ?_
    refine wp_iconst (pc := 276) d_Lw_acts_276 ?_
    refine zp_ishr_any (pc := 277) d_Lw_acts_277 (fun v277 r277 => ?_)
    refine zp_bipush (pc := 278) d_Lw_acts_278 (by decide) ?_
    refine wv_callS (n := 2) (As := [_, _]) (pc := 280) d_Lw_acts_280 s_Lw_45 q_Lw_low ⟨by decide, by decide⟩ rfl rfl rfl (Nat.le_of_ble_eq_true rfl) (Nat.le_of_ble_eq_true rfl) ?_
    refine sp_Lw_low (by omega) (by omega) (fun r280 r280a r280b => ?_)
    refine ⟨_, rfl, ?_⟩
    refine wp_iconst (pc := 283) d_Lw_acts_283 ?_
    refine wp_iload_n (pc := 284) d_Lw_acts_284 rfl ?_
    refine zp_bipush (pc := 285) d_Lw_acts_285 (by decide) ?_
    refine zp_ishr_any (pc := 287) d_Lw_acts_287 (fun v287 r287 => ?_)
    refine wp_iconst (pc := 288) d_Lw_acts_288 ?_
    refine wv_callS (n := 2) (As := [_, _]) (pc := 289) d_Lw_acts_289 s_Lw_45 q_Lw_low ⟨by decide, by decide⟩ rfl rfl rfl (Nat.le_of_ble_eq_true rfl) (Nat.le_of_ble_eq_true rfl) ?_
    refine sp_Lw_low (by omega) (by omega) (fun r289 r289a r289b => ?_)
    refine ⟨_, rfl, ?_⟩
    refine zp_iadd (pc := 292) d_Lw_acts_292 ?_
    refine wv_callV (n := 2) (As := [_, _]) (pc := 293) d_Lw_acts_293 s_Lw_64 q_Yt_take ⟨by decide, by decide⟩ hP.yt rfl rfl rfl rfl (Nat.le_of_ble_eq_true rfl) (Nat.le_of_ble_eq_true rfl) ?_
    refine yc_take hE hB hn hP ⟨by omega, by omega⟩ ⟨by omega, by omega⟩ (fun hc hP => ?_) (fun hc g hP => ?_)
    · refine ⟨_, rfl, ?_⟩
      refine zp_ireturn (pc := 296) d_Lw_acts_296 rfl ?_
      exact k0 _ _ hc (gb_tk hJ _ _) hP
    · refine ⟨_, rfl, ?_⟩
      refine zp_ireturn (pc := 296) d_Lw_acts_296 rfl ?_
      exact k1 _ _ _ (by omega) (gb_tk hJ _ _) hP
  by_cases k103_8 : r100 = 8
  · rw [k103_8]
    refine zp_tableIn (x := 8) (tgt := 297) (pc := 103) d_Lw_acts_103 ⟨by decide, by decide⟩ (by decide) (by decide) rfl (by decide) ?_
    refine wp_aload_n (pc := 297) d_Lw_acts_297 rfl ?_
    refine wp_iload (pc := 298) d_Lw_acts_298 rfl ?_
    refine wv_callV (n := 1) (As := [_]) (pc := 300) d_Lw_acts_300 s_Lw_48 q_Yt_claim ⟨by decide, by decide⟩ hP.yt rfl rfl rfl rfl (Nat.le_of_ble_eq_true rfl) (Nat.le_of_ble_eq_true rfl) ?_
    refine yc_claim hE hB hn hP ht (fun hc hP => ?_) (fun hc g hP => ?_)
    · refine ⟨_, rfl, ?_⟩
      refine zp_ireturn (pc := 303) d_Lw_acts_303 rfl ?_
      exact k0 _ _ hc (gb_cl hJ _) hP
    · refine ⟨_, rfl, ?_⟩
      refine zp_ireturn (pc := 303) d_Lw_acts_303 rfl ?_
      exact k1 _ _ _ (by omega) (gb_cl hJ _) hP
  by_cases k103_9 : r100 = 9
  · rw [k103_9]
    refine zp_tableIn (x := 9) (tgt := 304) (pc := 103) d_Lw_acts_103 ⟨by decide, by decide⟩ (by decide) (by decide) rfl (by decide) ?_
    refine wp_aload_n (pc := 304) d_Lw_acts_304 rfl ?_
    refine wp_iload (pc := 305) d_Lw_acts_305 rfl ?_
    refine wv_callV (n := 1) (As := [_]) (pc := 307) d_Lw_acts_307 s_Lw_48 q_Yt_claim ⟨by decide, by decide⟩ hP.yt rfl rfl rfl rfl (Nat.le_of_ble_eq_true rfl) (Nat.le_of_ble_eq_true rfl) ?_
    refine yc_claim hE hB hn hP hi (fun hc hP => ?_) (fun hc g hP => ?_)
    · refine ⟨_, rfl, ?_⟩
      refine zp_ireturn (pc := 310) d_Lw_acts_310 rfl ?_
      exact k0 _ _ hc (gb_cl hJ _) hP
    · refine ⟨_, rfl, ?_⟩
      refine zp_ireturn (pc := 310) d_Lw_acts_310 rfl ?_
      exact k1 _ _ _ (by omega) (gb_cl hJ _) hP
  by_cases k103_10 : r100 = 10
  · rw [k103_10]
    refine zp_tableIn (x := 10) (tgt := 311) (pc := 103) d_Lw_acts_103 ⟨by decide, by decide⟩ (by decide) (by decide) rfl (by decide) ?_
    refine wp_aload_n (pc := 311) d_Lw_acts_311 rfl ?_
    refine wp_iload_n (pc := 312) d_Lw_acts_312 rfl ?_
    refine wp_iconst (pc := 313) d_Lw_acts_313 ?_
    refine zp_ishr_any (pc := 314) d_Lw_acts_314 (fun v314 r314 => ?_)
    refine zp_bipush (pc := 315) d_Lw_acts_315 (by decide) ?_
    refine wv_callS (n := 2) (As := [_, _]) (pc := 317) d_Lw_acts_317 s_Lw_45 q_Lw_low ⟨by decide, by decide⟩ rfl rfl rfl (Nat.le_of_ble_eq_true rfl) (Nat.le_of_ble_eq_true rfl) ?_
    refine sp_Lw_low (by omega) (by omega) (fun r317 r317a r317b => ?_)
    refine ⟨_, rfl, ?_⟩
    refine wp_iload_n (pc := 320) d_Lw_acts_320 rfl ?_
    refine zp_bipush (pc := 321) d_Lw_acts_321 (by decide) ?_
    refine zp_ishr_any (pc := 323) d_Lw_acts_323 (fun v323 r323 => ?_)
    refine wp_iconst (pc := 324) d_Lw_acts_324 ?_
    refine wv_callS (n := 2) (As := [_, _]) (pc := 325) d_Lw_acts_325 s_Lw_45 q_Lw_low ⟨by decide, by decide⟩ rfl rfl rfl (Nat.le_of_ble_eq_true rfl) (Nat.le_of_ble_eq_true rfl) ?_
    refine sp_Lw_low (by omega) (by omega) (fun r325 r325a r325b => ?_)
    refine ⟨_, rfl, ?_⟩
    refine wv_callV (n := 2) (As := [_, _]) (pc := 328) d_Lw_acts_328 s_Lw_67 q_Yt_giveOut ⟨by decide, by decide⟩ hP.yt rfl rfl rfl rfl (Nat.le_of_ble_eq_true rfl) (Nat.le_of_ble_eq_true rfl) ?_
    refine yc_giveOut hE hB hn hP ⟨by omega, by omega⟩ ⟨by omega, by omega⟩ (fun hc hP => ?_) (fun hc g hP => ?_)
    · refine ⟨_, rfl, ?_⟩
      refine zp_ireturn (pc := 331) d_Lw_acts_331 rfl ?_
      exact k0 _ _ hc (gb_gv hJ _ _) hP
    · refine ⟨_, rfl, ?_⟩
      refine zp_ireturn (pc := 331) d_Lw_acts_331 rfl ?_
      exact k1 _ _ _ (by omega) (gb_gv hJ _ _) hP
  by_cases k103_11 : r100 = 11
  · rw [k103_11]
    refine zp_tableIn (x := 11) (tgt := 332) (pc := 103) d_Lw_acts_103 ⟨by decide, by decide⟩ (by decide) (by decide) rfl (by decide) ?_
    refine wp_aload_n (pc := 332) d_Lw_acts_332 rfl ?_
    refine wp_iload (pc := 333) d_Lw_acts_333 rfl ?_
    refine zp_bipush (pc := 335) d_Lw_acts_335 (by decide) ?_
    refine wp_iload_n (pc := 337) d_Lw_acts_337 rfl ?_
    refine zp_bipush (pc := 338) d_Lw_acts_338 (by decide) ?_
    refine zp_ishr_any (pc := 340) d_Lw_acts_340 (fun v340 r340 => ?_)
    refine wp_iload_n (pc := 341) d_Lw_acts_341 rfl ?_
    refine wp_iconst (pc := 342) d_Lw_acts_342 ?_
    refine zp_iadd (pc := 343) d_Lw_acts_343 ?_
    refine wv_callS (n := 2) (As := [_, _]) (pc := 344) d_Lw_acts_344 s_Lw_45 q_Lw_low ⟨by decide, by decide⟩ rfl rfl rfl (Nat.le_of_ble_eq_true rfl) (Nat.le_of_ble_eq_true rfl) ?_
    refine sp_Lw_low (by omega) (by omega) (fun r344 r344a r344b => ?_)
    refine ⟨_, rfl, ?_⟩
    refine zp_imul (pc := 347) d_Lw_acts_347 ?_
    refine wp_iload_n (pc := 348) d_Lw_acts_348 rfl ?_
    refine zp_bipush (pc := 349) d_Lw_acts_349 (by decide) ?_
    refine zp_ishr_any (pc := 351) d_Lw_acts_351 (fun v351 r351 => ?_)
    refine wp_iconst (pc := 352) d_Lw_acts_352 ?_
    refine wv_callS (n := 2) (As := [_, _]) (pc := 353) d_Lw_acts_353 s_Lw_45 q_Lw_low ⟨by decide, by decide⟩ rfl rfl rfl (Nat.le_of_ble_eq_true rfl) (Nat.le_of_ble_eq_true rfl) ?_
    refine sp_Lw_low (by omega) (by omega) (fun r353 r353a r353b => ?_)
    refine ⟨_, rfl, ?_⟩
    refine zp_iadd (pc := 356) d_Lw_acts_356 ?_
    refine wv_callV (n := 2) (As := [_, _]) (pc := 357) d_Lw_acts_357 s_Lw_70 q_Yt_move ⟨by decide, by decide⟩ hP.yt rfl rfl rfl rfl (Nat.le_of_ble_eq_true rfl) (Nat.le_of_ble_eq_true rfl) ?_
    refine yc_move hE hB hn hP ht ⟨by omega, by omega⟩ (fun hc hP => ?_) (fun hc g hP => ?_)
    · refine ⟨_, rfl, ?_⟩
      refine zp_ireturn (pc := 360) d_Lw_acts_360 rfl ?_
      exact k0 _ _ hc (gb_mv hJ _ _) hP
    · refine ⟨_, rfl, ?_⟩
      refine zp_ireturn (pc := 360) d_Lw_acts_360 rfl ?_
      exact k1 _ _ _ (by omega) (gb_mv hJ _ _) hP
  by_cases k103_12 : r100 = 12
  · rw [k103_12]
    refine zp_tableIn (x := 12) (tgt := 332) (pc := 103) d_Lw_acts_103 ⟨by decide, by decide⟩ (by decide) (by decide) rfl (by decide) ?_
    refine wp_aload_n (pc := 332) d_Lw_acts_332 rfl ?_
    refine wp_iload (pc := 333) d_Lw_acts_333 rfl ?_
    refine zp_bipush (pc := 335) d_Lw_acts_335 (by decide) ?_
    refine wp_iload_n (pc := 337) d_Lw_acts_337 rfl ?_
    refine zp_bipush (pc := 338) d_Lw_acts_338 (by decide) ?_
    refine zp_ishr_any (pc := 340) d_Lw_acts_340 (fun v340 r340 => ?_)
    refine wp_iload_n (pc := 341) d_Lw_acts_341 rfl ?_
    refine wp_iconst (pc := 342) d_Lw_acts_342 ?_
    refine zp_iadd (pc := 343) d_Lw_acts_343 ?_
    refine wv_callS (n := 2) (As := [_, _]) (pc := 344) d_Lw_acts_344 s_Lw_45 q_Lw_low ⟨by decide, by decide⟩ rfl rfl rfl (Nat.le_of_ble_eq_true rfl) (Nat.le_of_ble_eq_true rfl) ?_
    refine sp_Lw_low (by omega) (by omega) (fun r344 r344a r344b => ?_)
    refine ⟨_, rfl, ?_⟩
    refine zp_imul (pc := 347) d_Lw_acts_347 ?_
    refine wp_iload_n (pc := 348) d_Lw_acts_348 rfl ?_
    refine zp_bipush (pc := 349) d_Lw_acts_349 (by decide) ?_
    refine zp_ishr_any (pc := 351) d_Lw_acts_351 (fun v351 r351 => ?_)
    refine wp_iconst (pc := 352) d_Lw_acts_352 ?_
    refine wv_callS (n := 2) (As := [_, _]) (pc := 353) d_Lw_acts_353 s_Lw_45 q_Lw_low ⟨by decide, by decide⟩ rfl rfl rfl (Nat.le_of_ble_eq_true rfl) (Nat.le_of_ble_eq_true rfl) ?_
    refine sp_Lw_low (by omega) (by omega) (fun r353 r353a r353b => ?_)
    refine ⟨_, rfl, ?_⟩
    refine zp_iadd (pc := 356) d_Lw_acts_356 ?_
    refine wv_callV (n := 2) (As := [_, _]) (pc := 357) d_Lw_acts_357 s_Lw_70 q_Yt_move ⟨by decide, by decide⟩ hP.yt rfl rfl rfl rfl (Nat.le_of_ble_eq_true rfl) (Nat.le_of_ble_eq_true rfl) ?_
    refine yc_move hE hB hn hP ht ⟨by omega, by omega⟩ (fun hc hP => ?_) (fun hc g hP => ?_)
    · refine ⟨_, rfl, ?_⟩
      refine zp_ireturn (pc := 360) d_Lw_acts_360 rfl ?_
      exact k0 _ _ hc (gb_mv hJ _ _) hP
    · refine ⟨_, rfl, ?_⟩
      refine zp_ireturn (pc := 360) d_Lw_acts_360 rfl ?_
      exact k1 _ _ _ (by omega) (gb_mv hJ _ _) hP
  by_cases k103_13 : r100 = 13
  · rw [k103_13]
    refine zp_tableIn (x := 13) (tgt := 361) (pc := 103) d_Lw_acts_103 ⟨by decide, by decide⟩ (by decide) (by decide) rfl (by decide) ?_
    refine wp_aload_n (pc := 361) d_Lw_acts_361 rfl ?_
    refine wp_iload (pc := 362) d_Lw_acts_362 rfl ?_
    refine zp_bipush (pc := 364) d_Lw_acts_364 (by decide) ?_
    refine wp_iload_n (pc := 366) d_Lw_acts_366 rfl ?_
    refine zp_bipush (pc := 367) d_Lw_acts_367 (by decide) ?_
    refine zp_ishr_any (pc := 369) d_Lw_acts_369 (fun v369 r369 => ?_)
    refine wp_iload_n (pc := 370) d_Lw_acts_370 rfl ?_
    refine wp_iconst (pc := 371) d_Lw_acts_371 ?_
    refine zp_iadd (pc := 372) d_Lw_acts_372 ?_
    refine wv_callS (n := 2) (As := [_, _]) (pc := 373) d_Lw_acts_373 s_Lw_45 q_Lw_low ⟨by decide, by decide⟩ rfl rfl rfl (Nat.le_of_ble_eq_true rfl) (Nat.le_of_ble_eq_true rfl) ?_
    refine sp_Lw_low (by omega) (by omega) (fun r373 r373a r373b => ?_)
    refine ⟨_, rfl, ?_⟩
    refine zp_imul (pc := 376) d_Lw_acts_376 ?_
    refine wp_iload_n (pc := 377) d_Lw_acts_377 rfl ?_
    refine zp_bipush (pc := 378) d_Lw_acts_378 (by decide) ?_
    refine zp_ishr_any (pc := 380) d_Lw_acts_380 (fun v380 r380 => ?_)
    refine wp_iconst (pc := 381) d_Lw_acts_381 ?_
    refine wv_callS (n := 2) (As := [_, _]) (pc := 382) d_Lw_acts_382 s_Lw_45 q_Lw_low ⟨by decide, by decide⟩ rfl rfl rfl (Nat.le_of_ble_eq_true rfl) (Nat.le_of_ble_eq_true rfl) ?_
    refine sp_Lw_low (by omega) (by omega) (fun r382 r382a r382b => ?_)
    refine ⟨_, rfl, ?_⟩
    refine zp_iadd (pc := 385) d_Lw_acts_385 ?_
    refine wv_callV (n := 2) (As := [_, _]) (pc := 386) d_Lw_acts_386 s_Lw_70 q_Yt_move ⟨by decide, by decide⟩ hP.yt rfl rfl rfl rfl (Nat.le_of_ble_eq_true rfl) (Nat.le_of_ble_eq_true rfl) ?_
    refine yc_move hE hB hn hP hi ⟨by omega, by omega⟩ (fun hc hP => ?_) (fun hc g hP => ?_)
    · refine ⟨_, rfl, ?_⟩
      refine zp_ireturn (pc := 389) d_Lw_acts_389 rfl ?_
      exact k0 _ _ hc (gb_mv hJ _ _) hP
    · refine ⟨_, rfl, ?_⟩
      refine zp_ireturn (pc := 389) d_Lw_acts_389 rfl ?_
      exact k1 _ _ _ (by omega) (gb_mv hJ _ _) hP
  by_cases k103_14 : r100 = 14
  · rw [k103_14]
    refine zp_tableIn (x := 14) (tgt := 361) (pc := 103) d_Lw_acts_103 ⟨by decide, by decide⟩ (by decide) (by decide) rfl (by decide) ?_
    refine wp_aload_n (pc := 361) d_Lw_acts_361 rfl ?_
    refine wp_iload (pc := 362) d_Lw_acts_362 rfl ?_
    refine zp_bipush (pc := 364) d_Lw_acts_364 (by decide) ?_
    refine wp_iload_n (pc := 366) d_Lw_acts_366 rfl ?_
    refine zp_bipush (pc := 367) d_Lw_acts_367 (by decide) ?_
    refine zp_ishr_any (pc := 369) d_Lw_acts_369 (fun v369 r369 => ?_)
    refine wp_iload_n (pc := 370) d_Lw_acts_370 rfl ?_
    refine wp_iconst (pc := 371) d_Lw_acts_371 ?_
    refine zp_iadd (pc := 372) d_Lw_acts_372 ?_
    refine wv_callS (n := 2) (As := [_, _]) (pc := 373) d_Lw_acts_373 s_Lw_45 q_Lw_low ⟨by decide, by decide⟩ rfl rfl rfl (Nat.le_of_ble_eq_true rfl) (Nat.le_of_ble_eq_true rfl) ?_
    refine sp_Lw_low (by omega) (by omega) (fun r373 r373a r373b => ?_)
    refine ⟨_, rfl, ?_⟩
    refine zp_imul (pc := 376) d_Lw_acts_376 ?_
    refine wp_iload_n (pc := 377) d_Lw_acts_377 rfl ?_
    refine zp_bipush (pc := 378) d_Lw_acts_378 (by decide) ?_
    refine zp_ishr_any (pc := 380) d_Lw_acts_380 (fun v380 r380 => ?_)
    refine wp_iconst (pc := 381) d_Lw_acts_381 ?_
    refine wv_callS (n := 2) (As := [_, _]) (pc := 382) d_Lw_acts_382 s_Lw_45 q_Lw_low ⟨by decide, by decide⟩ rfl rfl rfl (Nat.le_of_ble_eq_true rfl) (Nat.le_of_ble_eq_true rfl) ?_
    refine sp_Lw_low (by omega) (by omega) (fun r382 r382a r382b => ?_)
    refine ⟨_, rfl, ?_⟩
    refine zp_iadd (pc := 385) d_Lw_acts_385 ?_
    refine wv_callV (n := 2) (As := [_, _]) (pc := 386) d_Lw_acts_386 s_Lw_70 q_Yt_move ⟨by decide, by decide⟩ hP.yt rfl rfl rfl rfl (Nat.le_of_ble_eq_true rfl) (Nat.le_of_ble_eq_true rfl) ?_
    refine yc_move hE hB hn hP hi ⟨by omega, by omega⟩ (fun hc hP => ?_) (fun hc g hP => ?_)
    · refine ⟨_, rfl, ?_⟩
      refine zp_ireturn (pc := 389) d_Lw_acts_389 rfl ?_
      exact k0 _ _ hc (gb_mv hJ _ _) hP
    · refine ⟨_, rfl, ?_⟩
      refine zp_ireturn (pc := 389) d_Lw_acts_389 rfl ?_
      exact k1 _ _ _ (by omega) (gb_mv hJ _ _) hP
  by_cases k103_15 : r100 = 15
  · rw [k103_15]
    refine zp_tableIn (x := 15) (tgt := 390) (pc := 103) d_Lw_acts_103 ⟨by decide, by decide⟩ (by decide) (by decide) rfl (by decide) ?_
    refine wp_aload_n (pc := 390) d_Lw_acts_390 rfl ?_
    refine wp_iload_n (pc := 391) d_Lw_acts_391 rfl ?_
    refine wp_iconst (pc := 392) d_Lw_acts_392 ?_
    refine zp_ishr_any (pc := 393) d_Lw_acts_393 (fun v393 r393 => ?_)
    refine wp_iload_n (pc := 394) d_Lw_acts_394 rfl ?_
    refine wp_iconst (pc := 395) d_Lw_acts_395 ?_
    refine zp_iadd (pc := 396) d_Lw_acts_396 ?_
    refine wv_callS (n := 2) (As := [_, _]) (pc := 397) d_Lw_acts_397 s_Lw_45 q_Lw_low ⟨by decide, by decide⟩ rfl rfl rfl (Nat.le_of_ble_eq_true rfl) (Nat.le_of_ble_eq_true rfl) ?_
    refine sp_Lw_low (by omega) (by omega) (fun r397 r397a r397b => ?_)
    refine ⟨_, rfl, ?_⟩
    refine wp_iload_n (pc := 400) d_Lw_acts_400 rfl ?_
    refine zp_bipush (pc := 401) d_Lw_acts_401 (by decide) ?_
    refine zp_ishr_any (pc := 403) d_Lw_acts_403 (fun v403 r403 => ?_)
    refine wp_iload_n (pc := 404) d_Lw_acts_404 rfl ?_
    refine wp_iconst (pc := 405) d_Lw_acts_405 ?_
    refine zp_iadd (pc := 406) d_Lw_acts_406 ?_
    refine wv_callS (n := 2) (As := [_, _]) (pc := 407) d_Lw_acts_407 s_Lw_45 q_Lw_low ⟨by decide, by decide⟩ rfl rfl rfl (Nat.le_of_ble_eq_true rfl) (Nat.le_of_ble_eq_true rfl) ?_
    refine sp_Lw_low (by omega) (by omega) (fun r407 r407a r407b => ?_)
    refine ⟨_, rfl, ?_⟩
    refine wv_callV (n := 2) (As := [_, _]) (pc := 410) d_Lw_acts_410 s_Lw_73 q_Yt_moveAll ⟨by decide, by decide⟩ hP.yt rfl rfl rfl rfl (Nat.le_of_ble_eq_true rfl) (Nat.le_of_ble_eq_true rfl) ?_
    refine yc_moveAll hE hB hn hP ⟨by omega, by omega⟩ ⟨by omega, by omega⟩ (fun hc hP => ?_) (fun hc g hP => ?_)
    · refine ⟨_, rfl, ?_⟩
      refine zp_ireturn (pc := 413) d_Lw_acts_413 rfl ?_
      exact k0 _ _ hc (gb_ma hJ _ _) hP
    · refine ⟨_, rfl, ?_⟩
      refine zp_ireturn (pc := 413) d_Lw_acts_413 rfl ?_
      exact k1 _ _ _ (by omega) (gb_ma hJ _ _) hP
  by_cases k103_16 : r100 = 16
  · rw [k103_16]
    refine zp_tableIn (x := 16) (tgt := 414) (pc := 103) d_Lw_acts_103 ⟨by decide, by decide⟩ (by decide) (by decide) rfl (by decide) ?_
    refine wp_aload_n (pc := 414) d_Lw_acts_414 rfl ?_
    refine wv_callV (n := 0) (As := []) (pc := 415) d_Lw_acts_415 s_Lw_76 q_Yt_shorten ⟨by decide, by decide⟩ hP.yt rfl rfl rfl rfl (Nat.le_of_ble_eq_true rfl) (Nat.le_of_ble_eq_true rfl) ?_
    refine yc_shorten hE hB hn hP  (fun hc g hP => ?_) (fun hc g hP => ?_)
    · refine ⟨_, rfl, ?_⟩
      refine zp_ireturn (pc := 418) d_Lw_acts_418 rfl ?_
      exact k0 _ _ hc (gb_sh _) hP
    · refine ⟨_, rfl, ?_⟩
      refine zp_ireturn (pc := 418) d_Lw_acts_418 rfl ?_
      exact k1 _ _ _ (by omega) (gb_sh _) hP
  refine zp_tableOut (tgt := 419) (pc := 103) d_Lw_acts_103 ⟨by omega, by omega⟩ (by omega) (by decide) ?_
  refine wp_aload_n (pc := 419) d_Lw_acts_419 rfl ?_
  refine wp_iconst (pc := 420) d_Lw_acts_420 ?_
  refine wp_iload_n (pc := 421) d_Lw_acts_421 rfl ?_
  refine wp_iconst (pc := 422) d_Lw_acts_422 ?_
  refine zp_ishr_any (pc := 423) d_Lw_acts_423 (fun v423 r423 => ?_)
  refine zp_bipush (pc := 424) d_Lw_acts_424 (by decide) ?_
  refine wv_callS (n := 2) (As := [_, _]) (pc := 426) d_Lw_acts_426 s_Lw_45 q_Lw_low ⟨by decide, by decide⟩ rfl rfl rfl (Nat.le_of_ble_eq_true rfl) (Nat.le_of_ble_eq_true rfl) ?_
  refine sp_Lw_low (by omega) (by omega) (fun r426 r426a r426b => ?_)
  refine ⟨_, rfl, ?_⟩
  refine zp_iadd (pc := 429) d_Lw_acts_429 ?_
  refine wv_callV (n := 1) (As := [_]) (pc := 430) d_Lw_acts_430 s_Lw_80 q_Yt_pass ⟨by decide, by decide⟩ hP.yt rfl rfl rfl rfl (Nat.le_of_ble_eq_true rfl) (Nat.le_of_ble_eq_true rfl) ?_
  refine yc_pass hE hB hn hP ⟨by omega, by omega⟩ (fun hc hP => ?_) (fun hc g hP => ?_)
  · refine ⟨_, rfl, ?_⟩
    refine zp_ireturn (pc := 433) d_Lw_acts_433 rfl ?_
    exact k0 _ _ hc (gb_ps hJ _) hP
  · refine ⟨_, rfl, ?_⟩
    refine zp_ireturn (pc := 433) d_Lw_acts_433 rfl ?_
    exact k1 _ _ _ (by omega) (gb_ps hJ _) hP
set_option maxRecDepth 100000 in
theorem lp_acts_45 (hE : gOk E) (hB : gB E ≤ B) (hn : nv ≤ 40000000) (hP : yPW B S h0 nv F sn G kp K h) {y x m v : Int} {o4 o5 : Option Value} (x0 : 0 ≤ x) (x1 : x ≤ 100) (m0 : 1 ≤ m) (m1 : m ≤ 10) (k0 : ∀ (g : gH) (c : Int), c < 0 → gR c → yPW B S h0 nv F sn G kp K g → Q (some (.int (zI c))) g) (k1 : ∀ (g : gH) (c : Int) (F2 : Int → Int), 0 ≤ c → gR c → yPW B S h0 (nv + 20000) F2 (if 4 < sn + 1 then 4 else sn + 1) F kp K g → Q (some (.int (zI c))) g) : Wp E m_Lw_acts 45 [some (.ref B), some (.int (zI y)), some (.int (zI (F 1))), some (.int (zI x)), o4, o5] [.int (zI m), .int (zI v), .int (zI 12), .int (zI 100), .ref B] h Q := by
  have hJ := hP.jp.1
  refine wv_callS (n := 2) (As := [_, _]) (pc := 45) d_Lw_acts_45 s_Lw_45 q_Lw_low ⟨by decide, by decide⟩ rfl rfl rfl (Nat.le_of_ble_eq_true rfl) (Nat.le_of_ble_eq_true rfl) ?_
  refine sp_Lw_low (by omega) (by omega) (fun r45 r45a r45b => ?_)
  refine ⟨_, rfl, ?_⟩
  refine zp_imul (pc := 48) d_Lw_acts_48 ?_
  refine wp_iload_n (pc := 49) d_Lw_acts_49 rfl ?_
  refine zp_bipush (pc := 50) d_Lw_acts_50 (by decide) ?_
  refine zp_ishr_any (pc := 52) d_Lw_acts_52 (fun v52 r52 => ?_)
  refine wp_iconst (pc := 53) d_Lw_acts_53 ?_
  refine wv_callS (n := 2) (As := [_, _]) (pc := 54) d_Lw_acts_54 s_Lw_45 q_Lw_low ⟨by decide, by decide⟩ rfl rfl rfl (Nat.le_of_ble_eq_true rfl) (Nat.le_of_ble_eq_true rfl) ?_
  refine sp_Lw_low (by omega) (by omega) (fun r54 r54a r54b => ?_)
  refine ⟨_, rfl, ?_⟩
  refine zp_iadd (pc := 57) d_Lw_acts_57 ?_
  refine zp_imul (pc := 58) d_Lw_acts_58 ?_
  refine wp_iload_n (pc := 59) d_Lw_acts_59 rfl ?_
  refine zp_bipush (pc := 60) d_Lw_acts_60 (by decide) ?_
  refine zp_ishr_any (pc := 62) d_Lw_acts_62 (fun v62 r62 => ?_)
  refine wp_iconst (pc := 63) d_Lw_acts_63 ?_
  refine wv_callS (n := 2) (As := [_, _]) (pc := 64) d_Lw_acts_64 s_Lw_45 q_Lw_low ⟨by decide, by decide⟩ rfl rfl rfl (Nat.le_of_ble_eq_true rfl) (Nat.le_of_ble_eq_true rfl) ?_
  refine sp_Lw_low (by omega) (by omega) (fun r64 r64a r64b => ?_)
  refine ⟨_, rfl, ?_⟩
  refine zp_iadd (pc := 67) d_Lw_acts_67 ?_
  refine wv_callV (n := 1) (As := [_]) (pc := 68) d_Lw_acts_68 s_Lw_37 q_Yt_tagOf ⟨by decide, by decide⟩ hP.yt rfl rfl rfl rfl (Nat.le_of_ble_eq_true rfl) (Nat.le_of_ble_eq_true rfl) ?_
  refine yc_tagOf hE hB (by omega) hP ⟨by omega, by omega⟩ (fun _ => ?_)
  refine ⟨_, rfl, ?_⟩
  generalize ht : c_to _ = t
  have hto : -5 ≤ t ∧ t ≤ 60010 := by rw [← ht]; exact gb_to _
  refine st_i4 (pc := 71) d_Lw_acts_71 (by decide) ?_
  refine wp_aload_n (pc := 73) d_Lw_acts_73 rfl ?_
  refine wp_iload_n (pc := 74) d_Lw_acts_74 rfl ?_
  refine zp_bipush (pc := 75) d_Lw_acts_75 (by decide) ?_
  refine wv_callV (n := 2) (As := [_, _]) (pc := 77) d_Lw_acts_77 s_Lw_22 q_Yt_hook ⟨by decide, by decide⟩ hP.yt rfl rfl rfl rfl (Nat.le_of_ble_eq_true rfl) (Nat.le_of_ble_eq_true rfl) ?_
  refine yc_hook hE hB (by omega) hP ⟨by omega, by omega⟩ ⟨by omega, by omega⟩ (fun _ => ?_)
  refine ⟨_, rfl, ?_⟩
  have h6 := gb_h6 hJ x
  refine zp_if_le (tgt := 93) (pc := 80) d_Lw_acts_80 (by decide) ⟨by omega, by omega⟩ (fun c80 => ?_) (fun c80 => ?_)
  · refine wp_iload (pc := 93) d_Lw_acts_93 rfl ?_
    refine st_i5 (pc := 95) d_Lw_acts_95 (by decide) ?_
    exact lp_acts_97 hE hB hn hP x0 x1 ⟨by omega, by omega⟩ ⟨by omega, by omega⟩ k0 k1
  · refine wp_aload_n (pc := 83) d_Lw_acts_83 rfl ?_
    refine wp_iload_n (pc := 84) d_Lw_acts_84 rfl ?_
    refine zp_bipush (pc := 85) d_Lw_acts_85 (by decide) ?_
    refine wv_callV (n := 2) (As := [_, _]) (pc := 87) d_Lw_acts_87 s_Lw_22 q_Yt_hook ⟨by decide, by decide⟩ hP.yt rfl rfl rfl rfl (Nat.le_of_ble_eq_true rfl) (Nat.le_of_ble_eq_true rfl) ?_
    refine yc_hook hE hB (by omega) hP ⟨by omega, by omega⟩ ⟨by omega, by omega⟩ (fun _ => ?_)
    refine ⟨_, rfl, ?_⟩
    refine wp_goto (tgt := 95) (pc := 90) d_Lw_acts_90 (by decide) ?_
    refine st_i5 (pc := 95) d_Lw_acts_95 (by decide) ?_
    exact lp_acts_97 hE hB hn hP x0 x1 ⟨by omega, by omega⟩ ⟨by omega, by omega⟩ k0 k1
set_option maxRecDepth 100000 in
theorem sp_Lw_acts (hE : gOk E) (hB : gB E ≤ B) (hn : nv ≤ 40000000) (hP : yPW B S h0 nv F sn G kp K h) {y : Int} (k0 : ∀ (g : gH) (c : Int), c < 0 → gR c → yPW B S h0 nv F sn G kp K g → Q (some (.int (zI c))) g) (k1 : ∀ (g : gH) (c : Int) (F2 : Int → Int), 0 ≤ c → gR c → yPW B S h0 (nv + 20000) F2 (if 4 < sn + 1 then 4 else sn + 1) F kp K g → Q (some (.int (zI c))) g) : Wp E m_Lw_acts 0 (gEnt m_Lw_acts [.ref B, .int (zI y)]) [] h Q := by
  show Wp E m_Lw_acts 0 [some (.ref B), some (.int (zI y)), none, none, none, none] [] h Q
  have hJ := hP.jp.1
  have hs := hJ.vd.1.2.1
  refine wp_aload_n (pc := 0) d_Lw_acts_0 rfl ?_
  refine wp_iconst (pc := 1) d_Lw_acts_1 ?_
  refine wv_callV (n := 1) (As := [_]) (pc := 2) d_Lw_acts_2 s_Lw_12 q_Yt_count ⟨by decide, by decide⟩ hP.yt rfl rfl rfl rfl (Nat.le_of_ble_eq_true rfl) (Nat.le_of_ble_eq_true rfl) ?_
  refine yc_count hE hB (by omega) hP ⟨by omega, by omega⟩ (fun h ln hP => ?_)
  refine ⟨_, rfl, ?_⟩
  rw [(c_ct_v F sn ln).2.1]
  refine st_i2 (pc := 5) d_Lw_acts_5 (by decide) ?_
  refine zp_bipush (pc := 6) d_Lw_acts_6 (by decide) ?_
  refine wp_iload_n (pc := 8) d_Lw_acts_8 rfl ?_
  refine wp_iconst (pc := 9) d_Lw_acts_9 ?_
  refine zp_ishr_any (pc := 10) d_Lw_acts_10 (fun v10 r10 => ?_)
  refine wp_iload_n (pc := 11) d_Lw_acts_11 rfl ?_
  refine wp_iconst (pc := 12) d_Lw_acts_12 ?_
  refine zp_iadd (pc := 13) d_Lw_acts_13 ?_
  refine wv_callS (n := 2) (As := [_, _]) (pc := 14) d_Lw_acts_14 s_Lw_45 q_Lw_low ⟨by decide, by decide⟩ rfl rfl rfl (Nat.le_of_ble_eq_true rfl) (Nat.le_of_ble_eq_true rfl) ?_
  refine sp_Lw_low (by omega) (by omega) (fun r14 r14a r14b => ?_)
  refine ⟨_, rfl, ?_⟩
  refine zp_imul (pc := 17) d_Lw_acts_17 ?_
  refine wp_iload_n (pc := 18) d_Lw_acts_18 rfl ?_
  refine zp_bipush (pc := 19) d_Lw_acts_19 (by decide) ?_
  refine zp_ishr_any (pc := 21) d_Lw_acts_21 (fun v21 r21 => ?_)
  refine wp_iconst (pc := 22) d_Lw_acts_22 ?_
  refine wv_callS (n := 2) (As := [_, _]) (pc := 23) d_Lw_acts_23 s_Lw_45 q_Lw_low ⟨by decide, by decide⟩ rfl rfl rfl (Nat.le_of_ble_eq_true rfl) (Nat.le_of_ble_eq_true rfl) ?_
  refine sp_Lw_low (by omega) (by omega) (fun r23 r23a r23b => ?_)
  refine ⟨_, rfl, ?_⟩
  refine zp_iadd (pc := 26) d_Lw_acts_26 ?_
  refine st_i3 (pc := 27) d_Lw_acts_27 (by decide) ?_
  refine wp_aload_n (pc := 28) d_Lw_acts_28 rfl ?_
  refine zp_bipush (pc := 29) d_Lw_acts_29 (by decide) ?_
  refine zp_bipush (pc := 31) d_Lw_acts_31 (by decide) ?_
  refine wp_iload_n (pc := 33) d_Lw_acts_33 rfl ?_
  refine wp_iconst (pc := 34) d_Lw_acts_34 ?_
  refine zp_ishr_any (pc := 35) d_Lw_acts_35 (fun v35 r35 => ?_)
  refine wp_iload_n (pc := 36) d_Lw_acts_36 rfl ?_
  refine zp_if_ne (tgt := 44) (pc := 37) d_Lw_acts_37 (by decide) ⟨by omega, by omega⟩ (fun c37 => ?_) (fun c37 => ?_)
  · refine wp_iload_n (pc := 44) d_Lw_acts_44 rfl ?_
    exact lp_acts_45 hE hB hn hP (by omega) (by omega) (by omega) (by omega) k0 k1
  · refine wp_iconst (pc := 40) d_Lw_acts_40 ?_
    refine wp_goto (tgt := 45) (pc := 41) d_Lw_acts_41 (by decide) ?_
    exact lp_acts_45 hE hB hn hP (by omega) (by omega) (by omega) (by omega) k0 k1
end S75
