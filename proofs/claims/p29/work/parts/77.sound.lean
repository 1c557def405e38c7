/-! ===== isSound ===== -/
section S77
variable {E : gE} {B S : Nat} {h0 h : gH} {Q : Option Value → gH → Prop} {nv : Int} {F G K : Int → Int} {sn kp : Int}
theorem st_i9 {M : gMd} {pc : Nat} {st : List Value} {o0 o1 o2 o3 o4 o5 o6 o7 o8 o9 : Option Value} {t : List (Option Value)} {x : Int32} (hd : gDec M pc (.istore 9) 2) (hk : gKs M 9) (w : Wp E M (pc + 2) (o0 :: o1 :: o2 :: o3 :: o4 :: o5 :: o6 :: o7 :: o8 :: some (.int x) :: t) st h Q) : Wp E M pc (o0 :: o1 :: o2 :: o3 :: o4 :: o5 :: o6 :: o7 :: o8 :: o9 :: t) (.int x :: st) h Q := wp_istore hd hk rfl w
theorem st_i10 {M : gMd} {pc : Nat} {st : List Value} {o0 o1 o2 o3 o4 o5 o6 o7 o8 o9 o10 : Option Value} {t : List (Option Value)} {x : Int32} (hd : gDec M pc (.istore 10) 2) (hk : gKs M 10) (w : Wp E M (pc + 2) (o0 :: o1 :: o2 :: o3 :: o4 :: o5 :: o6 :: o7 :: o8 :: o9 :: some (.int x) :: t) st h Q) : Wp E M pc (o0 :: o1 :: o2 :: o3 :: o4 :: o5 :: o6 :: o7 :: o8 :: o9 :: o10 :: t) (.int x :: st) h Q := wp_istore hd hk rfl w
set_option maxRecDepth 100000 in
theorem lp_snd_122 (hE : gOk E) (hB : gB E ≤ B) (hn : nv ≤ 40000000) (hP : yPW B S h0 nv F sn G kp K h) {x : Int} (hx : isHk F x) {he re lf du rr co ye : Int} {o9 : Option Value} (hr : rr = x / 12) (k : ∀ (h : gH) (o9 : Option Value), yPW B S h0 nv F sn G kp K h → Wp E m_Lw_isSound 307 [some (.ref B), some (.int (zI he)), some (.int (zI re)), some (.int (zI lf)), some (.int (zI (du + duH F x))), some (.int (zI rr)), some (.int (zI (co + F (29 + 8 * x + 1)))), some (.int (zI ye)), some (.int (zI x)), o9] [] h Q) : Wp E m_Lw_isSound 122 [some (.ref B), some (.int (zI he)), some (.int (zI re)), some (.int (zI lf)), some (.int (zI du)), some (.int (zI rr)), some (.int (zI co)), some (.int (zI ye)), some (.int (zI x)), o9] [] h Q := by
  subst hr
  have hP0 := hP.jp
  have hJ := hP0.1
  have x0 : 0 ≤ x := hx.1
  have x1 : x < 60 := by omega
  have hkb := hJ.vd.2.2.2.1 x x0 x1
  have hrr : 0 ≤ x / 12 ∧ x / 12 ≤ F 1 - 1 := by omega
  have hsb := hJ.vd.1
  have hrb := hJ.vd.2.2.1 (x / 12) (by omega) (by omega)
  have hb := hdl_b hJ.vd x0 x1
  have htb := tb_b (x := hdl F x) hb.1 (by omega)
  have ht : gR (tb (hdl F x)) := ⟨by omega, by omega⟩
  refine wp_aload_n (pc := 122) d_Lw_isSound_122 rfl ?_
  refine wp_iload (pc := 123) d_Lw_isSound_123 rfl ?_
  refine wp_iconst (pc := 125) d_Lw_isSound_125 ?_
  refine wv_callV (n := 2) (As := [_, _]) (pc := 126) d_Lw_isSound_126 s_Lw_22 q_Yt_hook ⟨by decide, by decide⟩ hP.yt rfl rfl rfl rfl (Nat.le_of_ble_eq_true rfl) (Nat.le_of_ble_eq_true rfl) ?_
  refine yc_hook hE hB (by omega) hP ⟨by omega, by omega⟩ ⟨by omega, by omega⟩ (fun _ => ?_)
  refine ⟨_, rfl, ?_⟩
  rw [(c_hk_v hx).2.1]
  refine wp_iconst (pc := 129) d_Lw_isSound_129 ?_
  refine zp_icmp_ne (tgt := 292) (pc := 130) d_Lw_isSound_130 (by decide) ⟨by omega, by omega⟩ ⟨by omega, by omega⟩ (fun c130 => ?_) (fun c130 => ?_)
  · refine wp_aload_n (pc := 292) d_Lw_isSound_292 rfl ?_
    refine wp_iload (pc := 293) d_Lw_isSound_293 rfl ?_
    refine zp_bipush (pc := 295) d_Lw_isSound_295 (by decide) ?_
    refine wv_callV (n := 2) (As := [_, _]) (pc := 297) d_Lw_isSound_297 s_Lw_22 q_Yt_hook ⟨by decide, by decide⟩ hP.yt rfl rfl rfl rfl (Nat.le_of_ble_eq_true rfl) (Nat.le_of_ble_eq_true rfl) ?_
    refine yc_hook hE hB (by omega) hP ⟨by omega, by omega⟩ ⟨by omega, by omega⟩ (fun _ => ?_)
    refine ⟨_, rfl, ?_⟩
    rw [(c_hk_v hx).2.2.2.2.2.2.1, if_neg c130]
    refine zp_bipush (pc := 300) d_Lw_isSound_300 (by decide) ?_
    refine zp_icmp_eq (tgt := 307) (pc := 302) d_Lw_isSound_302 (by decide) ⟨by omega, by omega⟩ ⟨by omega, by omega⟩ (fun c302 => ?_) (fun c302 => (absurd rfl c302))
    have e : F (29 + 8 * x + 1) = 0 := by omega
    have e2 : duH F x = 0 := if_neg c130
    have zz := k h o9 hP
    rw [e, e2, Int.add_zero, Int.add_zero] at zz
    exact zz
  · have hsz := hP0.2.1.1 x x0 x1 c130
    have hdy := hP0.2.2 x x0 x1 c130
    obtain ⟨-, hr5, qdu, qto, t0, t1, t2, t3, t4, t5⟩ := held hJ x0 x1 c130
    refine wp_aload_n (pc := 133) d_Lw_isSound_133 rfl ?_
    refine wp_iload (pc := 134) d_Lw_isSound_134 rfl ?_
    refine zp_bipush (pc := 136) d_Lw_isSound_136 (by decide) ?_
    refine wv_callV (n := 2) (As := [_, _]) (pc := 138) d_Lw_isSound_138 s_Lw_22 q_Yt_hook ⟨by decide, by decide⟩ hP.yt rfl rfl rfl rfl (Nat.le_of_ble_eq_true rfl) (Nat.le_of_ble_eq_true rfl) ?_
    refine yc_hook hE hB (by omega) hP ⟨by omega, by omega⟩ ⟨by omega, by omega⟩ (fun _ => ?_)
    refine ⟨_, rfl, ?_⟩
    rw [(c_hk_v hx).2.2.2.2.2.2.1, if_pos c130]
    refine st_i9 (pc := 141) d_Lw_isSound_141 (by decide) ?_
    refine st_c6 (pc := 143) d_Lw_isSound_143 (by decide) ?_
    refine wp_iload (pc := 146) d_Lw_isSound_146 rfl ?_
    refine wp_aload_n (pc := 148) d_Lw_isSound_148 rfl ?_
    refine wp_iload (pc := 149) d_Lw_isSound_149 rfl ?_
    refine wv_callV (n := 1) (As := [_]) (pc := 151) d_Lw_isSound_151 s_Lw_34 q_Yt_due ⟨by decide, by decide⟩ hP.yt rfl rfl rfl rfl (Nat.le_of_ble_eq_true rfl) (Nat.le_of_ble_eq_true rfl) ?_
    refine yc_due hE hB (by omega) hP ht (fun _ => ?_)
    refine ⟨_, rfl, ?_⟩
    rw [qdu]
    refine zp_iadd (pc := 154) d_Lw_isSound_154 ?_
    refine st_i4 (pc := 155) d_Lw_isSound_155 (by decide) ?_
    refine wp_iload (pc := 157) d_Lw_isSound_157 rfl ?_
    refine wp_aload_n (pc := 159) d_Lw_isSound_159 rfl ?_
    refine zp_bipush (pc := 160) d_Lw_isSound_160 (by decide) ?_
    refine wp_iload (pc := 162) d_Lw_isSound_162 rfl ?_
    refine zp_imul (pc := 164) d_Lw_isSound_164 ?_
    refine wp_aload_n (pc := 165) d_Lw_isSound_165 rfl ?_
    refine wp_iload (pc := 166) d_Lw_isSound_166 rfl ?_
    refine wp_iconst (pc := 168) d_Lw_isSound_168 ?_
    refine wv_callV (n := 2) (As := [_, _]) (pc := 169) d_Lw_isSound_169 s_Lw_22 q_Yt_hook ⟨by decide, by decide⟩ hP.yt rfl rfl rfl rfl (Nat.le_of_ble_eq_true rfl) (Nat.le_of_ble_eq_true rfl) ?_
    refine yc_hook hE hB (by omega) hP ⟨by omega, by omega⟩ ⟨by omega, by omega⟩ (fun _ => ?_)
    refine ⟨_, rfl, ?_⟩
    rw [(c_hk_v hx).1]
    refine zp_iadd (pc := 172) d_Lw_isSound_172 ?_
    refine wv_callV (n := 1) (As := [_]) (pc := 173) d_Lw_isSound_173 s_Lw_37 q_Yt_tagOf ⟨by decide, by decide⟩ hP.yt rfl rfl rfl rfl (Nat.le_of_ble_eq_true rfl) (Nat.le_of_ble_eq_true rfl) ?_
    refine yc_tagOf hE hB (by omega) hP ⟨by omega, by omega⟩ (fun _ => ?_)
    refine ⟨_, rfl, ?_⟩
    rw [qto]
    refine zp_icmp_ne (tgt := 287) (pc := 176) d_Lw_isSound_176 (by decide) ht ht (fun c176 => (absurd rfl c176)) (fun c176 => ?_)
    refine wp_aload_n (pc := 179) d_Lw_isSound_179 rfl ?_
    refine wp_iload (pc := 180) d_Lw_isSound_180 rfl ?_
    refine wp_iconst (pc := 182) d_Lw_isSound_182 ?_
    refine wv_callV (n := 2) (As := [_, _]) (pc := 183) d_Lw_isSound_183 s_Lw_40 q_Yt_tag ⟨by decide, by decide⟩ hP.yt rfl rfl rfl rfl (Nat.le_of_ble_eq_true rfl) (Nat.le_of_ble_eq_true rfl) ?_
    refine yc_tag hE hB (by omega) hP ht ⟨by omega, by omega⟩ (fun _ => ?_)
    refine ⟨_, rfl, ?_⟩
    rw [t0]
    refine wp_iload (pc := 186) d_Lw_isSound_186 rfl ?_
    refine zp_icmp_ne (tgt := 287) (pc := 188) d_Lw_isSound_188 (by decide) ⟨by omega, by omega⟩ ⟨by omega, by omega⟩ (fun c188 => (absurd rfl c188)) (fun c188 => ?_)
    refine wp_aload_n (pc := 191) d_Lw_isSound_191 rfl ?_
    refine wp_iload (pc := 192) d_Lw_isSound_192 rfl ?_
    refine wp_iconst (pc := 194) d_Lw_isSound_194 ?_
    refine wv_callV (n := 2) (As := [_, _]) (pc := 195) d_Lw_isSound_195 s_Lw_40 q_Yt_tag ⟨by decide, by decide⟩ hP.yt rfl rfl rfl rfl (Nat.le_of_ble_eq_true rfl) (Nat.le_of_ble_eq_true rfl) ?_
    refine yc_tag hE hB (by omega) hP ht ⟨by omega, by omega⟩ (fun _ => ?_)
    refine ⟨_, rfl, ?_⟩
    rw [t1]
    refine zp_if_ne (tgt := 287) (pc := 198) d_Lw_isSound_198 (by decide) ⟨by omega, by omega⟩ (fun c198 => (absurd rfl c198)) (fun c198 => ?_)
    refine wp_aload_n (pc := 201) d_Lw_isSound_201 rfl ?_
    refine wp_iload (pc := 202) d_Lw_isSound_202 rfl ?_
    refine wp_iconst (pc := 204) d_Lw_isSound_204 ?_
    refine wv_callV (n := 2) (As := [_, _]) (pc := 205) d_Lw_isSound_205 s_Lw_40 q_Yt_tag ⟨by decide, by decide⟩ hP.yt rfl rfl rfl rfl (Nat.le_of_ble_eq_true rfl) (Nat.le_of_ble_eq_true rfl) ?_
    refine yc_tag hE hB (by omega) hP ht ⟨by omega, by omega⟩ (fun _ => ?_)
    refine ⟨_, rfl, ?_⟩
    rw [t2]
    refine zp_if_ne (tgt := 287) (pc := 208) d_Lw_isSound_208 (by decide) ⟨by omega, by omega⟩ (fun c208 => (absurd rfl c208)) (fun c208 => ?_)
    refine wp_aload_n (pc := 211) d_Lw_isSound_211 rfl ?_
    refine wp_iload (pc := 212) d_Lw_isSound_212 rfl ?_
    refine wp_iconst (pc := 214) d_Lw_isSound_214 ?_
    refine wv_callV (n := 2) (As := [_, _]) (pc := 215) d_Lw_isSound_215 s_Lw_40 q_Yt_tag ⟨by decide, by decide⟩ hP.yt rfl rfl rfl rfl (Nat.le_of_ble_eq_true rfl) (Nat.le_of_ble_eq_true rfl) ?_
    refine yc_tag hE hB (by omega) hP ht ⟨by omega, by omega⟩ (fun _ => ?_)
    refine ⟨_, rfl, ?_⟩
    rw [t3]
    refine wp_iload (pc := 218) d_Lw_isSound_218 rfl ?_
    refine zp_icmp_ne (tgt := 287) (pc := 220) d_Lw_isSound_220 (by decide) ht ht (fun c220 => (absurd rfl c220)) (fun c220 => ?_)
    refine wp_aload_n (pc := 223) d_Lw_isSound_223 rfl ?_
    refine wp_iload (pc := 224) d_Lw_isSound_224 rfl ?_
    refine wp_iconst (pc := 226) d_Lw_isSound_226 ?_
    refine wv_callV (n := 2) (As := [_, _]) (pc := 227) d_Lw_isSound_227 s_Lw_40 q_Yt_tag ⟨by decide, by decide⟩ hP.yt rfl rfl rfl rfl (Nat.le_of_ble_eq_true rfl) (Nat.le_of_ble_eq_true rfl) ?_
    refine yc_tag hE hB (by omega) hP ht ⟨by omega, by omega⟩ (fun _ => ?_)
    refine ⟨_, rfl, ?_⟩
    rw [t4]
    refine zp_bipush (pc := 230) d_Lw_isSound_230 (by decide) ?_
    refine zp_icmp_ne (tgt := 287) (pc := 232) d_Lw_isSound_232 (by decide) ⟨by omega, by omega⟩ ⟨by omega, by omega⟩ (fun c232 => (absurd rfl c232)) (fun c232 => ?_)
    refine wp_aload_n (pc := 235) d_Lw_isSound_235 rfl ?_
    refine wp_iload (pc := 236) d_Lw_isSound_236 rfl ?_
    refine wp_iconst (pc := 238) d_Lw_isSound_238 ?_
    refine wv_callV (n := 2) (As := [_, _]) (pc := 239) d_Lw_isSound_239 s_Lw_40 q_Yt_tag ⟨by decide, by decide⟩ hP.yt rfl rfl rfl rfl (Nat.le_of_ble_eq_true rfl) (Nat.le_of_ble_eq_true rfl) ?_
    refine yc_tag hE hB (by omega) hP ht ⟨by omega, by omega⟩ (fun _ => ?_)
    refine ⟨_, rfl, ?_⟩
    rw [t5]
    refine wp_aload_n (pc := 242) d_Lw_isSound_242 rfl ?_
    refine wp_iload (pc := 243) d_Lw_isSound_243 rfl ?_
    refine wp_iconst (pc := 245) d_Lw_isSound_245 ?_
    refine wv_callV (n := 2) (As := [_, _]) (pc := 246) d_Lw_isSound_246 s_Lw_22 q_Yt_hook ⟨by decide, by decide⟩ hP.yt rfl rfl rfl rfl (Nat.le_of_ble_eq_true rfl) (Nat.le_of_ble_eq_true rfl) ?_
    refine yc_hook hE hB (by omega) hP ⟨by omega, by omega⟩ ⟨by omega, by omega⟩ (fun _ => ?_)
    refine ⟨_, rfl, ?_⟩
    rw [(c_hk_v hx).2.2.2.1, if_pos c130]
    refine zp_icmp_ne (tgt := 287) (pc := 249) d_Lw_isSound_249 (by decide) ⟨by omega, by omega⟩ ⟨by omega, by omega⟩ (fun c249 => (absurd rfl c249)) (fun c249 => ?_)
    refine wp_aload_n (pc := 252) d_Lw_isSound_252 rfl ?_
    refine wp_iload (pc := 253) d_Lw_isSound_253 rfl ?_
    refine wp_iconst (pc := 255) d_Lw_isSound_255 ?_
    refine wv_callV (n := 2) (As := [_, _]) (pc := 256) d_Lw_isSound_256 s_Lw_22 q_Yt_hook ⟨by decide, by decide⟩ hP.yt rfl rfl rfl rfl (Nat.le_of_ble_eq_true rfl) (Nat.le_of_ble_eq_true rfl) ?_
    refine yc_hook hE hB (by omega) hP ⟨by omega, by omega⟩ ⟨by omega, by omega⟩ (fun _ => ?_)
    refine ⟨_, rfl, ?_⟩
    rw [(c_hk_v hx).2.2.2.2.1, if_pos c130]
    refine wp_aload_n (pc := 259) d_Lw_isSound_259 rfl ?_
    refine wp_iload (pc := 260) d_Lw_isSound_260 rfl ?_
    refine wp_iconst (pc := 262) d_Lw_isSound_262 ?_
    refine wv_callV (n := 2) (As := [_, _]) (pc := 263) d_Lw_isSound_263 s_Lw_18 q_Yt_rack ⟨by decide, by decide⟩ hP.yt rfl rfl rfl rfl (Nat.le_of_ble_eq_true rfl) (Nat.le_of_ble_eq_true rfl) ?_
    refine yc_rack hE hB (by omega) hP ⟨by omega, by omega⟩ ⟨by omega, by omega⟩ (fun _ => ?_)
    refine ⟨_, rfl, ?_⟩
    rw [(c_rk_v hrr).2.1]
    refine zp_icmp_gt (tgt := 287) (pc := 266) d_Lw_isSound_266 (by decide) ⟨by omega, by omega⟩ ⟨by omega, by omega⟩ (fun c266 => (absurd c266 (by omega))) (fun c266 => ?_)
    refine wp_aload_n (pc := 269) d_Lw_isSound_269 rfl ?_
    refine wp_iconst (pc := 270) d_Lw_isSound_270 ?_
    refine wv_callV (n := 1) (As := [_]) (pc := 271) d_Lw_isSound_271 s_Lw_12 q_Yt_count ⟨by decide, by decide⟩ hP.yt rfl rfl rfl rfl (Nat.le_of_ble_eq_true rfl) (Nat.le_of_ble_eq_true rfl) ?_
    refine yc_count hE hB (by omega) hP ⟨by omega, by omega⟩ (fun h ln hP => ?_)
    refine ⟨_, rfl, ?_⟩
    rw [(c_ct_v F sn ln).1]
    refine wp_aload_n (pc := 274) d_Lw_isSound_274 rfl ?_
    refine wp_iload (pc := 275) d_Lw_isSound_275 rfl ?_
    refine wp_iconst (pc := 277) d_Lw_isSound_277 ?_
    refine wv_callV (n := 2) (As := [_, _]) (pc := 278) d_Lw_isSound_278 s_Lw_22 q_Yt_hook ⟨by decide, by decide⟩ hP.yt rfl rfl rfl rfl (Nat.le_of_ble_eq_true rfl) (Nat.le_of_ble_eq_true rfl) ?_
    refine yc_hook hE hB (by omega) hP ⟨by omega, by omega⟩ ⟨by omega, by omega⟩ (fun _ => ?_)
    refine ⟨_, rfl, ?_⟩
    rw [(c_hk_v hx).2.2.2.2.2.1, if_pos c130]
    refine zp_isub (pc := 281) d_Lw_isSound_281 ?_
    refine zp_bipush (pc := 282) d_Lw_isSound_282 (by decide) ?_
    refine zp_icmp_le (tgt := 289) (pc := 284) d_Lw_isSound_284 (by decide) ⟨by omega, by omega⟩ ⟨by omega, by omega⟩ (fun c284 => ?_) (fun c284 => (absurd hdy c284))
    refine wp_goto (tgt := 307) (pc := 289) d_Lw_isSound_289 (by decide) ?_
    have e2 : duH F x = duF F x := if_pos c130
    have zz := fun o => k h o hP
    rw [c130, e2] at zz
    exact zz _
set_option maxRecDepth 100000 in
theorem lp_snd_53 (hE : gOk E) (hB : gB E ≤ B) (hn : nv ≤ 40000000) (hP : yPW B S h0 nv F sn G kp K h) {x : Int} (hx : isHk F x) {he re lf du rr co ye : Int} {o9 : Option Value} (hr : rr = x / 12) (k : ∀ (h : gH) (o9 : Option Value), yPW B S h0 nv F sn G kp K h → Wp E m_Lw_isSound 307 [some (.ref B), some (.int (zI he)), some (.int (zI (re + F (29 + 8 * x + 5)))), some (.int (zI (lf + F (29 + 8 * x + 6)))), some (.int (zI (du + duH F x))), some (.int (zI rr)), some (.int (zI (co + F (29 + 8 * x + 1)))), some (.int (zI (ye + F (29 + 8 * x + 0)))), some (.int (zI x)), o9] [] h Q) : Wp E m_Lw_isSound 53 [some (.ref B), some (.int (zI he)), some (.int (zI re)), some (.int (zI lf)), some (.int (zI du)), some (.int (zI rr)), some (.int (zI co)), some (.int (zI ye)), some (.int (zI x)), o9] [] h Q := by
  have hP0 := hP.jp
  have hJ := hP0.1
  have x0 : 0 ≤ x := hx.1
  have x1 : x < 60 := by omega
  have hkb := hJ.vd.2.2.2.1 x x0 x1
  refine wp_iload (pc := 53) d_Lw_isSound_53 rfl ?_
  refine wp_aload_n (pc := 55) d_Lw_isSound_55 rfl ?_
  refine wp_iload (pc := 56) d_Lw_isSound_56 rfl ?_
  refine wp_iconst (pc := 58) d_Lw_isSound_58 ?_
  refine wv_callV (n := 2) (As := [_, _]) (pc := 59) d_Lw_isSound_59 s_Lw_22 q_Yt_hook ⟨by decide, by decide⟩ hP.yt rfl rfl rfl rfl (Nat.le_of_ble_eq_true rfl) (Nat.le_of_ble_eq_true rfl) ?_
  refine yc_hook hE hB (by omega) hP ⟨by omega, by omega⟩ ⟨by omega, by omega⟩ (fun _ => ?_)
  refine ⟨_, rfl, ?_⟩
  rw [(c_hk_v hx).1]
  refine zp_iadd (pc := 62) d_Lw_isSound_62 ?_
  refine st_i7 (pc := 63) d_Lw_isSound_63 (by decide) ?_
  refine wp_iload_n (pc := 65) d_Lw_isSound_65 rfl ?_
  refine wp_aload_n (pc := 66) d_Lw_isSound_66 rfl ?_
  refine wp_iload (pc := 67) d_Lw_isSound_67 rfl ?_
  refine wp_iconst (pc := 69) d_Lw_isSound_69 ?_
  refine wv_callV (n := 2) (As := [_, _]) (pc := 70) d_Lw_isSound_70 s_Lw_22 q_Yt_hook ⟨by decide, by decide⟩ hP.yt rfl rfl rfl rfl (Nat.le_of_ble_eq_true rfl) (Nat.le_of_ble_eq_true rfl) ?_
  refine yc_hook hE hB (by omega) hP ⟨by omega, by omega⟩ ⟨by omega, by omega⟩ (fun _ => ?_)
  refine ⟨_, rfl, ?_⟩
  rw [(c_hk_v hx).2.2.1]
  refine zp_iadd (pc := 73) d_Lw_isSound_73 ?_
  refine st_i2 (pc := 74) d_Lw_isSound_74 (by decide) ?_
  refine wp_iload_n (pc := 75) d_Lw_isSound_75 rfl ?_
  refine wp_aload_n (pc := 76) d_Lw_isSound_76 rfl ?_
  refine wp_iload (pc := 77) d_Lw_isSound_77 rfl ?_
  refine zp_bipush (pc := 79) d_Lw_isSound_79 (by decide) ?_
  refine wv_callV (n := 2) (As := [_, _]) (pc := 81) d_Lw_isSound_81 s_Lw_22 q_Yt_hook ⟨by decide, by decide⟩ hP.yt rfl rfl rfl rfl (Nat.le_of_ble_eq_true rfl) (Nat.le_of_ble_eq_true rfl) ?_
  refine yc_hook hE hB (by omega) hP ⟨by omega, by omega⟩ ⟨by omega, by omega⟩ (fun _ => ?_)
  refine ⟨_, rfl, ?_⟩
  rw [(c_hk_v hx).2.2.2.2.2.2.2]
  refine zp_iadd (pc := 84) d_Lw_isSound_84 ?_
  refine st_i3 (pc := 85) d_Lw_isSound_85 (by decide) ?_
  refine wp_aload_n (pc := 86) d_Lw_isSound_86 rfl ?_
  refine wp_iload (pc := 87) d_Lw_isSound_87 rfl ?_
  refine wp_iconst (pc := 89) d_Lw_isSound_89 ?_
  refine wv_callV (n := 2) (As := [_, _]) (pc := 90) d_Lw_isSound_90 s_Lw_22 q_Yt_hook ⟨by decide, by decide⟩ hP.yt rfl rfl rfl rfl (Nat.le_of_ble_eq_true rfl) (Nat.le_of_ble_eq_true rfl) ?_
  refine yc_hook hE hB (by omega) hP ⟨by omega, by omega⟩ ⟨by omega, by omega⟩ (fun _ => ?_)
  refine ⟨_, rfl, ?_⟩
  rw [(c_hk_v hx).2.2.1]
  refine wp_iconst (pc := 93) d_Lw_isSound_93 ?_
  refine zp_icmp_ne (tgt := 122) (pc := 94) d_Lw_isSound_94 (by decide) ⟨by omega, by omega⟩ ⟨by omega, by omega⟩ (fun c94 => ?_) (fun c94 => ?_)
  · exact lp_snd_122 hE hB hn hP hx hr k
  · refine wp_aload_n (pc := 97) d_Lw_isSound_97 rfl ?_
    refine wp_iload (pc := 98) d_Lw_isSound_98 rfl ?_
    refine wp_iconst (pc := 100) d_Lw_isSound_100 ?_
    refine wv_callV (n := 2) (As := [_, _]) (pc := 101) d_Lw_isSound_101 s_Lw_22 q_Yt_hook ⟨by decide, by decide⟩ hP.yt rfl rfl rfl rfl (Nat.le_of_ble_eq_true rfl) (Nat.le_of_ble_eq_true rfl) ?_
    refine yc_hook hE hB (by omega) hP ⟨by omega, by omega⟩ ⟨by omega, by omega⟩ (fun _ => ?_)
    refine ⟨_, rfl, ?_⟩
    rw [(c_hk_v hx).2.1]
    refine wp_iconst (pc := 104) d_Lw_isSound_104 ?_
    refine zp_icmp_eq (tgt := 120) (pc := 105) d_Lw_isSound_105 (by decide) ⟨by omega, by omega⟩ ⟨by omega, by omega⟩ (fun c105 => (absurd (hJ.2.1 x x0 x1 c105).2.2 (by omega))) (fun c105 => ?_)
    refine wp_aload_n (pc := 108) d_Lw_isSound_108 rfl ?_
    refine wp_iload (pc := 109) d_Lw_isSound_109 rfl ?_
    refine wp_iconst (pc := 111) d_Lw_isSound_111 ?_
    refine wv_callV (n := 2) (As := [_, _]) (pc := 112) d_Lw_isSound_112 s_Lw_22 q_Yt_hook ⟨by decide, by decide⟩ hP.yt rfl rfl rfl rfl (Nat.le_of_ble_eq_true rfl) (Nat.le_of_ble_eq_true rfl) ?_
    refine yc_hook hE hB (by omega) hP ⟨by omega, by omega⟩ ⟨by omega, by omega⟩ (fun _ => ?_)
    refine ⟨_, rfl, ?_⟩
    rw [(c_hk_v hx).1]
    refine zp_bipush (pc := 115) d_Lw_isSound_115 (by decide) ?_
    refine zp_icmp_eq (tgt := 122) (pc := 117) d_Lw_isSound_117 (by decide) ⟨by omega, by omega⟩ ⟨by omega, by omega⟩ (fun c117 => ?_) (fun c117 => (absurd (hJ.2.2.2.2.2.2.2.1 x x0 x1 c94) c117))
    exact lp_snd_122 hE hB hn hP hx hr k
set_option maxRecDepth 100000 in
theorem lp_snd_i (hE : gOk E) (hB : gB E ≤ B) (hn : nv ≤ 40000000) {r : Nat} (hr : (r : Int) < F 1) {he : Int} (k : ∀ (h : gH) (o9 : Option Value), yPW B S h0 nv F sn G kp K h → Wp E m_Lw_isSound 313 [some (.ref B), some (.int (zI he)), some (.int (zI (sm (fun x => F (29 + 8 * x + 5)) (12 * r + (F (14 + 3 * (r : Int) + 0)).toNat)))), some (.int (zI (sm (fun x => F (29 + 8 * x + 6)) (12 * r + (F (14 + 3 * (r : Int) + 0)).toNat)))), some (.int (zI (sm (duH F) (12 * r + (F (14 + 3 * (r : Int) + 0)).toNat)))), some (.int (zI r)), some (.int (zI (sm (fun y => F (29 + 8 * (12 * (r : Int) + y) + 1)) (F (14 + 3 * (r : Int) + 0)).toNat))), some (.int (zI (sm (fun y => F (29 + 8 * (12 * (r : Int) + y) + 0)) (F (14 + 3 * (r : Int) + 0)).toNat))), some (.int (zI (12 * (r : Int) + (((F (14 + 3 * (r : Int) + 0)).toNat : Nat) : Int)))), o9] [] h Q) : ∀ (d j : Nat) (h : gH) (o9 : Option Value), j + d = (F (14 + 3 * (r : Int) + 0)).toNat → yPW B S h0 nv F sn G kp K h → Wp E m_Lw_isSound 35 [some (.ref B), some (.int (zI he)), some (.int (zI (sm (fun x => F (29 + 8 * x + 5)) (12 * r + j)))), some (.int (zI (sm (fun x => F (29 + 8 * x + 6)) (12 * r + j)))), some (.int (zI (sm (duH F) (12 * r + j)))), some (.int (zI r)), some (.int (zI (sm (fun y => F (29 + 8 * (12 * (r : Int) + y) + 1)) j))), some (.int (zI (sm (fun y => F (29 + 8 * (12 * (r : Int) + y) + 0)) j))), some (.int (zI (12 * (r : Int) + ((j : Nat) : Int)))), o9] [] h Q := by
  intro d
  induction d with
  | zero =>
    intro j h o9 hj hP
    have hJ := hP.jp.1
    have hsb := hJ.vd.1
    have hrr : 0 ≤ (r : Int) ∧ (r : Int) ≤ F 1 - 1 := by omega
    have hrb := hJ.vd.2.2.1 (r : Int) (by omega) (by omega)
    refine wp_iload (pc := 35) d_Lw_isSound_35 rfl ?_
    refine zp_bipush (pc := 37) d_Lw_isSound_37 (by decide) ?_
    refine wp_iload (pc := 39) d_Lw_isSound_39 rfl ?_
    refine zp_imul (pc := 41) d_Lw_isSound_41 ?_
    refine wp_aload_n (pc := 42) d_Lw_isSound_42 rfl ?_
    refine wp_iload (pc := 43) d_Lw_isSound_43 rfl ?_
    refine wp_iconst (pc := 45) d_Lw_isSound_45 ?_
    refine wv_callV (n := 2) (As := [_, _]) (pc := 46) d_Lw_isSound_46 s_Lw_18 q_Yt_rack ⟨by decide, by decide⟩ hP.yt rfl rfl rfl rfl (Nat.le_of_ble_eq_true rfl) (Nat.le_of_ble_eq_true rfl) ?_
    refine yc_rack hE hB (by omega) hP ⟨by omega, by omega⟩ ⟨by omega, by omega⟩ (fun _ => ?_)
    refine ⟨_, rfl, ?_⟩
    rw [(c_rk_v hrr).1]
    refine zp_iadd (pc := 49) d_Lw_isSound_49 ?_
    refine zp_icmp_ge (tgt := 313) (pc := 50) d_Lw_isSound_50 (by decide) ⟨by omega, by omega⟩ ⟨by omega, by omega⟩ (fun c50 => ?_) (fun c50 => (absurd c50 (by omega)))
    obtain rfl : j = (F (14 + 3 * (r : Int) + 0)).toNat := by omega
    exact k h o9 hP
  | succ d ih =>
    intro j h o9 hj hP
    have hJ := hP.jp.1
    have hsb := hJ.vd.1
    have hrr : 0 ≤ (r : Int) ∧ (r : Int) ≤ F 1 - 1 := by omega
    have hrb := hJ.vd.2.2.1 (r : Int) (by omega) (by omega)
    refine wp_iload (pc := 35) d_Lw_isSound_35 rfl ?_
    refine zp_bipush (pc := 37) d_Lw_isSound_37 (by decide) ?_
    refine wp_iload (pc := 39) d_Lw_isSound_39 rfl ?_
    refine zp_imul (pc := 41) d_Lw_isSound_41 ?_
    refine wp_aload_n (pc := 42) d_Lw_isSound_42 rfl ?_
    refine wp_iload (pc := 43) d_Lw_isSound_43 rfl ?_
    refine wp_iconst (pc := 45) d_Lw_isSound_45 ?_
    refine wv_callV (n := 2) (As := [_, _]) (pc := 46) d_Lw_isSound_46 s_Lw_18 q_Yt_rack ⟨by decide, by decide⟩ hP.yt rfl rfl rfl rfl (Nat.le_of_ble_eq_true rfl) (Nat.le_of_ble_eq_true rfl) ?_
    refine yc_rack hE hB (by omega) hP ⟨by omega, by omega⟩ ⟨by omega, by omega⟩ (fun _ => ?_)
    refine ⟨_, rfl, ?_⟩
    rw [(c_rk_v hrr).1]
    refine zp_iadd (pc := 49) d_Lw_isSound_49 ?_
    refine zp_icmp_ge (tgt := 313) (pc := 50) d_Lw_isSound_50 (by decide) ⟨by omega, by omega⟩ ⟨by omega, by omega⟩ (fun c50 => (absurd c50 (by omega))) (fun c50 => ?_)
    refine lp_snd_53 hE hB hn hP (x := 12 * (r : Int) + (j : Int)) ⟨by omega, by omega, by omega, ?_⟩ (by omega) (fun h o9 hP => ?_)
    · rw [show (12 * (r : Int) + (j : Int)) / 12 = (r : Int) by omega]
      omega
    refine st_c8 (pc := 307) d_Lw_isSound_307 (by decide) ?_
    refine wp_goto (tgt := 35) (pc := 310) d_Lw_isSound_310 (by decide) ?_
    have zz := ih (j + 1) h o9 (by omega) hP
    have e5 : sm (fun x => F (29 + 8 * x + 5)) (12 * r + (j + 1)) = sm (fun x => F (29 + 8 * x + 5)) (12 * r + j) + F (29 + 8 * (12 * (r : Int) + (j : Int)) + 5) := rfl
    have e6 : sm (fun x => F (29 + 8 * x + 6)) (12 * r + (j + 1)) = sm (fun x => F (29 + 8 * x + 6)) (12 * r + j) + F (29 + 8 * (12 * (r : Int) + (j : Int)) + 6) := rfl
    have ed : sm (duH F) (12 * r + (j + 1)) = sm (duH F) (12 * r + j) + duH F (12 * (r : Int) + (j : Int)) := rfl
    have e1 : sm (fun y => F (29 + 8 * (12 * (r : Int) + y) + 1)) (j + 1) = sm (fun y => F (29 + 8 * (12 * (r : Int) + y) + 1)) j + F (29 + 8 * (12 * (r : Int) + (j : Int)) + 1) := rfl
    have e0 : sm (fun y => F (29 + 8 * (12 * (r : Int) + y) + 0)) (j + 1) = sm (fun y => F (29 + 8 * (12 * (r : Int) + y) + 0)) j + F (29 + 8 * (12 * (r : Int) + (j : Int)) + 0) := rfl
    rw [e5, e6, ed, e1, e0, show ((j + 1 : Nat) : Int) = (j : Int) + 1 from rfl, ← Int.add_assoc] at zz
    exact zz
set_option maxRecDepth 100000 in
theorem lp_snd_o (hE : gOk E) (hB : gB E ≤ B) (hn : nv ≤ 40000000) (k : ∀ (h : gH) (o6 o7 o8 o9 : Option Value), yPW B S h0 nv F sn G kp K h → Wp E m_Lw_isSound 350 [some (.ref B), some (.int (zI (sm (fun x => F (29 + 8 * x + 1)) (12 * (F 1).toNat)))), some (.int (zI (sm (fun x => F (29 + 8 * x + 5)) (12 * (F 1).toNat)))), some (.int (zI (sm (fun x => F (29 + 8 * x + 6)) (12 * (F 1).toNat)))), some (.int (zI (sm (duH F) (12 * (F 1).toNat)))), some (.int (zI (((F 1).toNat : Nat) : Int))), o6, o7, o8, o9] [] h Q) : ∀ (d r : Nat) (h : gH) (o6 o7 o8 o9 : Option Value), r + d = (F 1).toNat → yPW B S h0 nv F sn G kp K h → Wp E m_Lw_isSound 12 [some (.ref B), some (.int (zI (sm (fun x => F (29 + 8 * x + 1)) (12 * r)))), some (.int (zI (sm (fun x => F (29 + 8 * x + 5)) (12 * r)))), some (.int (zI (sm (fun x => F (29 + 8 * x + 6)) (12 * r)))), some (.int (zI (sm (duH F) (12 * r)))), some (.int (zI ((r : Nat) : Int))), o6, o7, o8, o9] [] h Q := by
  intro d
  induction d with
  | zero =>
    intro r h o6 o7 o8 o9 hr hP
    have hP0 := hP.jp
    have hJ := hP0.1
    have hsb := hJ.vd.1
    refine wp_iload (pc := 12) d_Lw_isSound_12 rfl ?_
    refine wp_aload_n (pc := 14) d_Lw_isSound_14 rfl ?_
    refine wp_iconst (pc := 15) d_Lw_isSound_15 ?_
    refine wv_callV (n := 1) (As := [_]) (pc := 16) d_Lw_isSound_16 s_Lw_12 q_Yt_count ⟨by decide, by decide⟩ hP.yt rfl rfl rfl rfl (Nat.le_of_ble_eq_true rfl) (Nat.le_of_ble_eq_true rfl) ?_
    refine yc_count hE hB (by omega) hP ⟨by omega, by omega⟩ (fun h ln hP => ?_)
    refine ⟨_, rfl, ?_⟩
    rw [(c_ct_v F sn ln).2.1]
    refine zp_icmp_ge (tgt := 350) (pc := 19) d_Lw_isSound_19 (by decide) ⟨by omega, by omega⟩ ⟨by omega, by omega⟩ (fun c19 => ?_) (fun c19 => (absurd c19 (by omega)))
    obtain rfl : r = (F 1).toNat := by omega
    exact k h o6 o7 o8 o9 hP
  | succ d ih =>
    intro r h o6 o7 o8 o9 hr hP
    have hP0 := hP.jp
    have hJ := hP0.1
    have hsb := hJ.vd.1
    have hrr : 0 ≤ (r : Int) ∧ (r : Int) ≤ F 1 - 1 := by omega
    have hrb := hJ.vd.2.2.1 (r : Int) (by omega) (by omega)
    have hno : ∀ x : Int, 12 * (r : Int) + F (14 + 3 * (r : Int) + 0) ≤ x → x < 12 * (r : Int) + 12 → F (29 + 8 * x + 0) = 0 ∧ F (29 + 8 * x + 1) = 0 ∧ F (29 + 8 * x + 5) = 0 ∧ F (29 + 8 * x + 6) = 0 ∧ duH F x = 0 := fun x q0 q1 => no_hk hJ hP0.2 (by omega) (by omega) fun q => by
      have := q.2.2.2
      rw [show x / 12 = (r : Int) by omega] at this
      omega
    obtain ⟨hc, hhc⟩ : ∃ hc : Nat, hc = (F (14 + 3 * (r : Int) + 0)).toNat := ⟨_, rfl⟩
    have eR : sm (fun x => F (29 + 8 * x + 5)) (12 * r + hc) = sm (fun x => F (29 + 8 * x + 5)) (12 * (r + 1)) := sm_ext (by omega) fun q q0 q1 => (hno q (by omega) (by omega)).2.2.1
    have eT : sm (fun x => F (29 + 8 * x + 6)) (12 * r + hc) = sm (fun x => F (29 + 8 * x + 6)) (12 * (r + 1)) := sm_ext (by omega) fun q q0 q1 => (hno q (by omega) (by omega)).2.2.2.1
    have eD : sm (duH F) (12 * r + hc) = sm (duH F) (12 * (r + 1)) := sm_ext (by omega) fun q q0 q1 => (hno q (by omega) (by omega)).2.2.2.2
    have eC : sm (fun y => F (29 + 8 * (12 * (r : Int) + y) + 1)) hc = sC F r := sm_ext (b := 12) (by omega) fun q q0 q1 => (hno _ (by omega) (by omega)).2.1
    have eY : sm (fun y => F (29 + 8 * (12 * (r : Int) + y) + 0)) hc = sm (fun y => F (29 + 8 * (12 * (r : Int) + y) + 0)) 12 := sm_ext (b := 12) (by omega) fun q q0 q1 => (hno _ (by omega) (by omega)).1
    have eH : sm (fun x => F (29 + 8 * x + 1)) (12 * (r + 1)) = sm (fun x => F (29 + 8 * x + 1)) (12 * r) + sC F r := sm_add (fun x => F (29 + 8 * x + 1)) (12 * r) 12
    have hC := sC_b hJ.vd (a := (r : Int)) (by omega) (by omega)
    have hY : 0 ≤ sm (fun y => F (29 + 8 * (12 * (r : Int) + y) + 0)) 12 ∧ sm (fun y => F (29 + 8 * (12 * (r : Int) + y) + 0)) 12 ≤ 99 * ((12 : Nat) : Int) := sm_b (m := 99) (by omega) fun q hq => (hJ.vd.2.2.2.1 _ (by omega) (by omega)).1
    refine wp_iload (pc := 12) d_Lw_isSound_12 rfl ?_
    refine wp_aload_n (pc := 14) d_Lw_isSound_14 rfl ?_
    refine wp_iconst (pc := 15) d_Lw_isSound_15 ?_
    refine wv_callV (n := 1) (As := [_]) (pc := 16) d_Lw_isSound_16 s_Lw_12 q_Yt_count ⟨by decide, by decide⟩ hP.yt rfl rfl rfl rfl (Nat.le_of_ble_eq_true rfl) (Nat.le_of_ble_eq_true rfl) ?_
    refine yc_count hE hB (by omega) hP ⟨by omega, by omega⟩ (fun h ln hP => ?_)
    refine ⟨_, rfl, ?_⟩
    rw [(c_ct_v F sn ln).2.1]
    refine zp_icmp_ge (tgt := 350) (pc := 19) d_Lw_isSound_19 (by decide) ⟨by omega, by omega⟩ ⟨by omega, by omega⟩ (fun c19 => (absurd c19 (by omega))) (fun c19 => ?_)
    refine wp_iconst (pc := 22) d_Lw_isSound_22 ?_
    refine st_i6 (pc := 23) d_Lw_isSound_23 (by decide) ?_
    refine wp_iconst (pc := 25) d_Lw_isSound_25 ?_
    refine st_i7 (pc := 26) d_Lw_isSound_26 (by decide) ?_
    refine zp_bipush (pc := 28) d_Lw_isSound_28 (by decide) ?_
    refine wp_iload (pc := 30) d_Lw_isSound_30 rfl ?_
    refine zp_imul (pc := 32) d_Lw_isSound_32 ?_
    refine st_i8 (pc := 33) d_Lw_isSound_33 (by decide) ?_
    have zz := fun kk => lp_snd_i (Q := Q) hE hB hn (r := r) (by omega) (he := sm (fun x => F (29 + 8 * x + 1)) (12 * r)) kk hc 0 h o9 (by omega) hP
    rw [← hhc, Nat.add_zero, show ((0 : Nat) : Int) = 0 from rfl, Int.add_zero] at zz
    refine zz (fun h o9 hP => ?_)
    rw [eR, eT, eD, eC, eY]
    refine wp_aload_n (pc := 313) d_Lw_isSound_313 rfl ?_
    refine wp_iload (pc := 314) d_Lw_isSound_314 rfl ?_
    refine wp_iconst (pc := 316) d_Lw_isSound_316 ?_
    refine wv_callV (n := 2) (As := [_, _]) (pc := 317) d_Lw_isSound_317 s_Lw_18 q_Yt_rack ⟨by decide, by decide⟩ hP.yt rfl rfl rfl rfl (Nat.le_of_ble_eq_true rfl) (Nat.le_of_ble_eq_true rfl) ?_
    refine yc_rack hE hB (by omega) hP ⟨by omega, by omega⟩ ⟨by omega, by omega⟩ (fun _ => ?_)
    refine ⟨_, rfl, ?_⟩
    rw [(c_rk_v hrr).2.2.2.1]
    refine wp_iload (pc := 320) d_Lw_isSound_320 rfl ?_
    refine zp_icmp_ne (tgt := 337) (pc := 322) d_Lw_isSound_322 (by decide) ⟨by omega, by omega⟩ ⟨by omega, by omega⟩ (fun c322 => (absurd rfl c322)) (fun c322 => ?_)
    refine wp_aload_n (pc := 325) d_Lw_isSound_325 rfl ?_
    refine wp_iload (pc := 326) d_Lw_isSound_326 rfl ?_
    refine wp_iconst (pc := 328) d_Lw_isSound_328 ?_
    refine wv_callV (n := 2) (As := [_, _]) (pc := 329) d_Lw_isSound_329 s_Lw_18 q_Yt_rack ⟨by decide, by decide⟩ hP.yt rfl rfl rfl rfl (Nat.le_of_ble_eq_true rfl) (Nat.le_of_ble_eq_true rfl) ?_
    refine yc_rack hE hB (by omega) hP ⟨by omega, by omega⟩ ⟨by omega, by omega⟩ (fun _ => ?_)
    refine ⟨_, rfl, ?_⟩
    rw [(c_rk_v hrr).2.2.2.2.2]
    refine wp_iload (pc := 332) d_Lw_isSound_332 rfl ?_
    refine zp_icmp_eq (tgt := 339) (pc := 334) d_Lw_isSound_334 (by decide) ⟨by omega, by omega⟩ ⟨by omega, by omega⟩ (fun c334 => ?_) (fun c334 => (absurd rfl c334))
    refine wp_iload_n (pc := 339) d_Lw_isSound_339 rfl ?_
    refine wp_iload (pc := 340) d_Lw_isSound_340 rfl ?_
    refine zp_iadd (pc := 342) d_Lw_isSound_342 ?_
    refine st_i1 (pc := 343) d_Lw_isSound_343 (by decide) ?_
    refine st_c5 (pc := 344) d_Lw_isSound_344 (by decide) ?_
    refine wp_goto (tgt := 12) (pc := 347) d_Lw_isSound_347 (by decide) ?_
    have zz := fun o6 o7 o8 o9 => ih (r + 1) h o6 o7 o8 o9 (by omega) hP
    rw [eH, show ((r + 1 : Nat) : Int) = (r : Int) + 1 from rfl] at zz
    exact zz _ _ _ _
set_option maxRecDepth 100000 in
theorem lp_snd_g (hE : gOk E) (hB : gB E ≤ B) (hn : nv ≤ 40000000) (hP : yPW B S h0 nv F sn G kp K h) {a1 a2 a3 a4 o9 : Option Value} (k : Wp E m_Lw_isSound 411 [some (.ref B), a1, a2, a3, a4, some (.int (zI (sm (fun y => F (509 + y)) 20))), some (.int (zI (sm (fun y => sD F y 60) 20))), some (.int (zI (sm (fun y => cGv F y 60) 20))), some (.int (zI ((20 : Nat) : Int))), o9] [] h Q) : ∀ d j : Nat, j + d = 20 → Wp E m_Lw_isSound 362 [some (.ref B), a1, a2, a3, a4, some (.int (zI (sm (fun y => F (509 + y)) j))), some (.int (zI (sm (fun y => sD F y 60) j))), some (.int (zI (sm (fun y => cGv F y 60) j))), some (.int (zI ((j : Nat) : Int))), o9] [] h Q := by
  intro d
  induction d with
  | zero =>
    intro j hj
    refine wp_iload (pc := 362) d_Lw_isSound_362 rfl ?_
    refine zp_bipush (pc := 364) d_Lw_isSound_364 (by decide) ?_
    refine zp_icmp_ge (tgt := 411) (pc := 366) d_Lw_isSound_366 (by decide) ⟨by omega, by omega⟩ ⟨by omega, by omega⟩ (fun c366 => ?_) (fun c366 => (absurd c366 (by omega)))
    obtain rfl : j = 20 := by omega
    exact k
  | succ d ih =>
    intro j hj
    have hgs := c_gs_v (F := F) (g := (j : Int)) (by omega)
    refine wp_iload (pc := 362) d_Lw_isSound_362 rfl ?_
    refine zp_bipush (pc := 364) d_Lw_isSound_364 (by decide) ?_
    refine zp_icmp_ge (tgt := 411) (pc := 366) d_Lw_isSound_366 (by decide) ⟨by omega, by omega⟩ ⟨by omega, by omega⟩ (fun c366 => (absurd c366 (by omega))) (fun c366 => ?_)
    refine wp_iload (pc := 369) d_Lw_isSound_369 rfl ?_
    refine wp_aload_n (pc := 371) d_Lw_isSound_371 rfl ?_
    refine wp_iload (pc := 372) d_Lw_isSound_372 rfl ?_
    refine wp_iconst (pc := 374) d_Lw_isSound_374 ?_
    refine wv_callV (n := 2) (As := [_, _]) (pc := 375) d_Lw_isSound_375 s_Lw_25 q_Yt_guest ⟨by decide, by decide⟩ hP.yt rfl rfl rfl rfl (Nat.le_of_ble_eq_true rfl) (Nat.le_of_ble_eq_true rfl) ?_
    refine yc_guest hE hB (by omega) hP ⟨by omega, by omega⟩ ⟨by omega, by omega⟩ (fun _ => ?_)
    refine ⟨_, rfl, ?_⟩
    rw [(hgs (by omega)).2.2]
    refine zp_iadd (pc := 378) d_Lw_isSound_378 ?_
    refine st_i5 (pc := 379) d_Lw_isSound_379 (by decide) ?_
    refine wp_iload (pc := 381) d_Lw_isSound_381 rfl ?_
    refine wp_aload_n (pc := 383) d_Lw_isSound_383 rfl ?_
    refine wp_iload (pc := 384) d_Lw_isSound_384 rfl ?_
    refine wp_iconst (pc := 386) d_Lw_isSound_386 ?_
    refine wv_callV (n := 2) (As := [_, _]) (pc := 387) d_Lw_isSound_387 s_Lw_25 q_Yt_guest ⟨by decide, by decide⟩ hP.yt rfl rfl rfl rfl (Nat.le_of_ble_eq_true rfl) (Nat.le_of_ble_eq_true rfl) ?_
    refine yc_guest hE hB (by omega) hP ⟨by omega, by omega⟩ ⟨by omega, by omega⟩ (fun _ => ?_)
    refine ⟨_, rfl, ?_⟩
    rw [(hgs (by omega)).2.1]
    refine zp_iadd (pc := 390) d_Lw_isSound_390 ?_
    refine st_i6 (pc := 391) d_Lw_isSound_391 (by decide) ?_
    refine wp_iload (pc := 393) d_Lw_isSound_393 rfl ?_
    refine wp_aload_n (pc := 395) d_Lw_isSound_395 rfl ?_
    refine wp_iload (pc := 396) d_Lw_isSound_396 rfl ?_
    refine wp_iconst (pc := 398) d_Lw_isSound_398 ?_
    refine wv_callV (n := 2) (As := [_, _]) (pc := 399) d_Lw_isSound_399 s_Lw_25 q_Yt_guest ⟨by decide, by decide⟩ hP.yt rfl rfl rfl rfl (Nat.le_of_ble_eq_true rfl) (Nat.le_of_ble_eq_true rfl) ?_
    refine yc_guest hE hB (by omega) hP ⟨by omega, by omega⟩ ⟨by omega, by omega⟩ (fun _ => ?_)
    refine ⟨_, rfl, ?_⟩
    rw [(hgs (by omega)).1]
    refine zp_iadd (pc := 402) d_Lw_isSound_402 ?_
    refine st_i7 (pc := 403) d_Lw_isSound_403 (by decide) ?_
    refine st_c8 (pc := 405) d_Lw_isSound_405 (by decide) ?_
    refine wp_goto (tgt := 362) (pc := 408) d_Lw_isSound_408 (by decide) ?_
    have zz := ih (j + 1) (by omega)
    rw [show ((j + 1 : Nat) : Int) = (j : Int) + 1 from rfl] at zz
    exact zz
set_option maxRecDepth 100000 in
theorem sp_Lw_isSound (hE : gOk E) (hB : gB E ≤ B) (hn : nv ≤ 40000000) (hP : yPW B S h0 nv F sn G kp K h) (k : ∀ h : gH, yPW B S h0 nv F sn G kp K h → Q (some (.int (zI 1))) h) : Wp E m_Lw_isSound 0 (gEnt m_Lw_isSound [.ref B]) [] h Q := by
  show Wp E m_Lw_isSound 0 [some (.ref B), none, none, none, none, none, none, none, none, none] [] h Q
  have hP0 := hP.jp
  have hJ := hP0.1
  have hsb := hJ.vd.1
  refine wp_iconst (pc := 0) d_Lw_isSound_0 ?_
  refine st_i1 (pc := 1) d_Lw_isSound_1 (by decide) ?_
  refine wp_iconst (pc := 2) d_Lw_isSound_2 ?_
  refine st_i2 (pc := 3) d_Lw_isSound_3 (by decide) ?_
  refine wp_iconst (pc := 4) d_Lw_isSound_4 ?_
  refine st_i3 (pc := 5) d_Lw_isSound_5 (by decide) ?_
  refine wp_iconst (pc := 6) d_Lw_isSound_6 ?_
  refine st_i4 (pc := 7) d_Lw_isSound_7 (by decide) ?_
  refine wp_iconst (pc := 9) d_Lw_isSound_9 ?_
  refine st_i5 (pc := 10) d_Lw_isSound_10 (by decide) ?_
  refine lp_snd_o hE hB hn (fun h o6 o7 o8 o9 hP => ?_) (F 1).toNat 0 h _ _ _ _ (by omega) hP
  have hno : ∀ x : Int, 12 * F 1 ≤ x → x < 60 → F (29 + 8 * x + 0) = 0 ∧ F (29 + 8 * x + 1) = 0 ∧ F (29 + 8 * x + 5) = 0 ∧ F (29 + 8 * x + 6) = 0 ∧ duH F x = 0 := fun x q0 q1 => no_hk hJ hP0.2 (by omega) q1 fun q => by
    omega
  have eH : sm (fun x => F (29 + 8 * x + 1)) (12 * (F 1).toNat) = sm (fun x => F (29 + 8 * x + 1)) 60 := sm_ext (by omega) fun q q0 q1 => (hno q (by omega) (by omega)).2.1
  have eR : sm (fun x => F (29 + 8 * x + 5)) (12 * (F 1).toNat) = sm (fun x => F (29 + 8 * x + 5)) 60 := sm_ext (by omega) fun q q0 q1 => (hno q (by omega) (by omega)).2.2.1
  have eT : sm (fun x => F (29 + 8 * x + 6)) (12 * (F 1).toNat) = sm (fun x => F (29 + 8 * x + 6)) 60 := sm_ext (by omega) fun q q0 q1 => (hno q (by omega) (by omega)).2.2.2.1
  have eD : sm (duH F) (12 * (F 1).toNat) = sm (duH F) 60 := sm_ext (by omega) fun q q0 q1 => (hno q (by omega) (by omega)).2.2.2.2
  rw [eH, eR, eT, eD]
  refine wp_iconst (pc := 350) d_Lw_isSound_350 ?_
  refine st_i5 (pc := 351) d_Lw_isSound_351 (by decide) ?_
  refine wp_iconst (pc := 353) d_Lw_isSound_353 ?_
  refine st_i6 (pc := 354) d_Lw_isSound_354 (by decide) ?_
  refine wp_iconst (pc := 356) d_Lw_isSound_356 ?_
  refine st_i7 (pc := 357) d_Lw_isSound_357 (by decide) ?_
  refine wp_iconst (pc := 359) d_Lw_isSound_359 ?_
  refine st_i8 (pc := 360) d_Lw_isSound_360 (by decide) ?_
  refine lp_snd_g hE hB hn hP ?_ 20 0 rfl
  obtain ⟨p1, p2, p3, p4, p5⟩ := hP0.2.1.2.2.1
  rw [p1, sm_sD hJ 60 (by omega), sm_gv hJ 60 (by omega)]
  have bH : 0 ≤ sm (fun x => F (29 + 8 * x + 1)) 60 ∧ sm (fun x => F (29 + 8 * x + 1)) 60 ≤ 1 * ((60 : Nat) : Int) := sm_b (m := 1) (by omega) fun q hq => (hJ.vd.2.2.2.1 _ (by omega) (by omega)).2.1
  have bR : 0 ≤ sm (fun x => F (29 + 8 * x + 5)) 60 ∧ sm (fun x => F (29 + 8 * x + 5)) 60 ≤ 1 * ((60 : Nat) : Int) := sm_b (m := 1) (by omega) fun q hq => (hJ.vd.2.2.2.1 _ (by omega) (by omega)).2.2.2.2.2.1
  have bD : 0 ≤ sm (duH F) 60 ∧ sm (duH F) 60 ≤ 2500000 * ((60 : Nat) : Int) := sm_b (m := 2500000) (by omega) fun q hq => duH_b hJ (by omega) (by omega)
  have f5 := hJ.vd.2.1 5 (by omega) (by omega) (by omega)
  have f6 := hJ.vd.2.1 6 (by omega) (by omega) (by omega)
  have f7 := hJ.vd.2.1 7 (by omega) (by omega) (by omega)
  have f8 := hJ.vd.2.1 8 (by omega) (by omega) (by omega)
  have f9 := hJ.vd.2.1 9 (by omega) (by omega) (by omega)
  have f10 := hJ.vd.2.1 10 (by omega) (by omega) (by omega)
  have p2 : F 6 = sm (fun x => F (29 + 8 * x + 1)) 60 + (F 7 + F 8 + F 9) := by omega
  refine wp_aload_n (pc := 411) d_Lw_isSound_411 rfl ?_
  refine zp_bipush (pc := 412) d_Lw_isSound_412 (by decide) ?_
  refine wv_callV (n := 1) (As := [_]) (pc := 414) d_Lw_isSound_414 s_Lw_12 q_Yt_count ⟨by decide, by decide⟩ hP.yt rfl rfl rfl rfl (Nat.le_of_ble_eq_true rfl) (Nat.le_of_ble_eq_true rfl) ?_
  refine yc_count hE hB (by omega) hP ⟨by omega, by omega⟩ (fun h ln hP => ?_)
  refine ⟨_, rfl, ?_⟩
  rw [(c_ct_v F sn ln).2.2.2.2.2.2.2.1]
  refine wp_aload_n (pc := 417) d_Lw_isSound_417 rfl ?_
  refine zp_bipush (pc := 418) d_Lw_isSound_418 (by decide) ?_
  refine wv_callV (n := 1) (As := [_]) (pc := 420) d_Lw_isSound_420 s_Lw_12 q_Yt_count ⟨by decide, by decide⟩ hP.yt rfl rfl rfl rfl (Nat.le_of_ble_eq_true rfl) (Nat.le_of_ble_eq_true rfl) ?_
  refine yc_count hE hB (by omega) hP ⟨by omega, by omega⟩ (fun h ln hP => ?_)
  refine ⟨_, rfl, ?_⟩
  rw [(c_ct_v F sn ln).2.2.2.2.2.2.2.2.1]
  refine zp_iadd (pc := 423) d_Lw_isSound_423 ?_
  refine wp_aload_n (pc := 424) d_Lw_isSound_424 rfl ?_
  refine zp_bipush (pc := 425) d_Lw_isSound_425 (by decide) ?_
  refine wv_callV (n := 1) (As := [_]) (pc := 427) d_Lw_isSound_427 s_Lw_12 q_Yt_count ⟨by decide, by decide⟩ hP.yt rfl rfl rfl rfl (Nat.le_of_ble_eq_true rfl) (Nat.le_of_ble_eq_true rfl) ?_
  refine yc_count hE hB (by omega) hP ⟨by omega, by omega⟩ (fun h ln hP => ?_)
  refine ⟨_, rfl, ?_⟩
  rw [(c_ct_v F sn ln).2.2.2.2.2.2.2.2.2.1]
  refine zp_iadd (pc := 430) d_Lw_isSound_430 ?_
  refine st_i8 (pc := 431) d_Lw_isSound_431 (by decide) ?_
  refine wp_aload_n (pc := 433) d_Lw_isSound_433 rfl ?_
  refine wp_iconst (pc := 434) d_Lw_isSound_434 ?_
  refine wv_callV (n := 1) (As := [_]) (pc := 435) d_Lw_isSound_435 s_Lw_12 q_Yt_count ⟨by decide, by decide⟩ hP.yt rfl rfl rfl rfl (Nat.le_of_ble_eq_true rfl) (Nat.le_of_ble_eq_true rfl) ?_
  refine yc_count hE hB (by omega) hP ⟨by omega, by omega⟩ (fun h ln hP => ?_)
  refine ⟨_, rfl, ?_⟩
  rw [(c_ct_v F sn ln).2.2.2.1]
  refine wp_iload_n (pc := 438) d_Lw_isSound_438 rfl ?_
  refine zp_icmp_ne (tgt := 526) (pc := 439) d_Lw_isSound_439 (by decide) ⟨by omega, by omega⟩ ⟨by omega, by omega⟩ (fun c439 => (absurd rfl c439)) (fun c439 => ?_)
  refine wp_iload (pc := 442) d_Lw_isSound_442 rfl ?_
  refine wp_iload_n (pc := 444) d_Lw_isSound_444 rfl ?_
  refine zp_icmp_ne (tgt := 526) (pc := 445) d_Lw_isSound_445 (by decide) ⟨by omega, by omega⟩ ⟨by omega, by omega⟩ (fun c445 => (absurd rfl c445)) (fun c445 => ?_)
  refine wp_iload (pc := 448) d_Lw_isSound_448 rfl ?_
  refine wp_iload (pc := 450) d_Lw_isSound_450 rfl ?_
  refine zp_icmp_ne (tgt := 526) (pc := 452) d_Lw_isSound_452 (by decide) ⟨by omega, by omega⟩ ⟨by omega, by omega⟩ (fun c452 => (absurd rfl c452)) (fun c452 => ?_)
  refine wp_iload (pc := 455) d_Lw_isSound_455 rfl ?_
  refine wp_aload_n (pc := 457) d_Lw_isSound_457 rfl ?_
  refine zp_bipush (pc := 458) d_Lw_isSound_458 (by decide) ?_
  refine wv_callV (n := 1) (As := [_]) (pc := 460) d_Lw_isSound_460 s_Lw_12 q_Yt_count ⟨by decide, by decide⟩ hP.yt rfl rfl rfl rfl (Nat.le_of_ble_eq_true rfl) (Nat.le_of_ble_eq_true rfl) ?_
  refine yc_count hE hB (by omega) hP ⟨by omega, by omega⟩ (fun h ln hP => ?_)
  refine ⟨_, rfl, ?_⟩
  rw [(c_ct_v F sn ln).2.2.2.2.2.2.1]
  refine zp_icmp_ne (tgt := 526) (pc := 463) d_Lw_isSound_463 (by decide) ⟨by omega, by omega⟩ ⟨by omega, by omega⟩ (fun c463 => (absurd rfl c463)) (fun c463 => ?_)
  refine wp_aload_n (pc := 466) d_Lw_isSound_466 rfl ?_
  refine zp_bipush (pc := 467) d_Lw_isSound_467 (by decide) ?_
  refine wv_callV (n := 1) (As := [_]) (pc := 469) d_Lw_isSound_469 s_Lw_12 q_Yt_count ⟨by decide, by decide⟩ hP.yt rfl rfl rfl rfl (Nat.le_of_ble_eq_true rfl) (Nat.le_of_ble_eq_true rfl) ?_
  refine yc_count hE hB (by omega) hP ⟨by omega, by omega⟩ (fun h ln hP => ?_)
  refine ⟨_, rfl, ?_⟩
  rw [(c_ct_v F sn ln).2.2.2.2.2.2.1]
  refine wp_iload_n (pc := 472) d_Lw_isSound_472 rfl ?_
  refine wp_iload (pc := 473) d_Lw_isSound_473 rfl ?_
  refine zp_iadd (pc := 475) d_Lw_isSound_475 ?_
  refine zp_icmp_ne (tgt := 526) (pc := 476) d_Lw_isSound_476 (by decide) ⟨by omega, by omega⟩ ⟨by omega, by omega⟩ (fun c476 => (absurd p2 c476)) (fun c476 => ?_)
  refine wp_aload_n (pc := 479) d_Lw_isSound_479 rfl ?_
  refine wp_iconst (pc := 480) d_Lw_isSound_480 ?_
  refine wv_callV (n := 1) (As := [_]) (pc := 481) d_Lw_isSound_481 s_Lw_12 q_Yt_count ⟨by decide, by decide⟩ hP.yt rfl rfl rfl rfl (Nat.le_of_ble_eq_true rfl) (Nat.le_of_ble_eq_true rfl) ?_
  refine yc_count hE hB (by omega) hP ⟨by omega, by omega⟩ (fun h ln hP => ?_)
  refine ⟨_, rfl, ?_⟩
  rw [(c_ct_v F sn ln).2.2.2.2.2.1]
  refine wp_aload_n (pc := 484) d_Lw_isSound_484 rfl ?_
  refine zp_bipush (pc := 485) d_Lw_isSound_485 (by decide) ?_
  refine wv_callV (n := 1) (As := [_]) (pc := 487) d_Lw_isSound_487 s_Lw_12 q_Yt_count ⟨by decide, by decide⟩ hP.yt rfl rfl rfl rfl (Nat.le_of_ble_eq_true rfl) (Nat.le_of_ble_eq_true rfl) ?_
  refine yc_count hE hB (by omega) hP ⟨by omega, by omega⟩ (fun h ln hP => ?_)
  refine ⟨_, rfl, ?_⟩
  rw [(c_ct_v F sn ln).2.2.2.2.2.2.1]
  refine wp_aload_n (pc := 490) d_Lw_isSound_490 rfl ?_
  refine zp_bipush (pc := 491) d_Lw_isSound_491 (by decide) ?_
  refine wv_callV (n := 1) (As := [_]) (pc := 493) d_Lw_isSound_493 s_Lw_12 q_Yt_count ⟨by decide, by decide⟩ hP.yt rfl rfl rfl rfl (Nat.le_of_ble_eq_true rfl) (Nat.le_of_ble_eq_true rfl) ?_
  refine yc_count hE hB (by omega) hP ⟨by omega, by omega⟩ (fun h ln hP => ?_)
  refine ⟨_, rfl, ?_⟩
  rw [(c_ct_v F sn ln).2.2.2.2.2.2.2.2.2.2.1]
  refine zp_iadd (pc := 496) d_Lw_isSound_496 ?_
  refine zp_icmp_ne (tgt := 526) (pc := 497) d_Lw_isSound_497 (by decide) ⟨by omega, by omega⟩ ⟨by omega, by omega⟩ (fun c497 => (absurd p3 c497)) (fun c497 => ?_)
  refine wp_iload_n (pc := 500) d_Lw_isSound_500 rfl ?_
  refine wp_iload (pc := 501) d_Lw_isSound_501 rfl ?_
  refine wp_aload_n (pc := 503) d_Lw_isSound_503 rfl ?_
  refine zp_bipush (pc := 504) d_Lw_isSound_504 (by decide) ?_
  refine wv_callV (n := 1) (As := [_]) (pc := 506) d_Lw_isSound_506 s_Lw_12 q_Yt_count ⟨by decide, by decide⟩ hP.yt rfl rfl rfl rfl (Nat.le_of_ble_eq_true rfl) (Nat.le_of_ble_eq_true rfl) ?_
  refine yc_count hE hB (by omega) hP ⟨by omega, by omega⟩ (fun h ln hP => ?_)
  refine ⟨_, rfl, ?_⟩
  rw [(c_ct_v F sn ln).2.2.2.2.2.2.2.2.2.2.1]
  refine zp_iadd (pc := 509) d_Lw_isSound_509 ?_
  refine zp_icmp_ne (tgt := 526) (pc := 510) d_Lw_isSound_510 (by decide) ⟨by omega, by omega⟩ ⟨by omega, by omega⟩ (fun c510 => (absurd p4 c510)) (fun c510 => ?_)
  refine wp_aload_n (pc := 513) d_Lw_isSound_513 rfl ?_
  refine wp_iconst (pc := 514) d_Lw_isSound_514 ?_
  refine wv_callV (n := 1) (As := [_]) (pc := 515) d_Lw_isSound_515 s_Lw_12 q_Yt_count ⟨by decide, by decide⟩ hP.yt rfl rfl rfl rfl (Nat.le_of_ble_eq_true rfl) (Nat.le_of_ble_eq_true rfl) ?_
  refine yc_count hE hB (by omega) hP ⟨by omega, by omega⟩ (fun h ln hP => ?_)
  refine ⟨_, rfl, ?_⟩
  rw [(c_ct_v F sn ln).2.2.2.2.1]
  refine wp_iload_n (pc := 518) d_Lw_isSound_518 rfl ?_
  refine zp_icmp_ne (tgt := 526) (pc := 519) d_Lw_isSound_519 (by decide) ⟨by omega, by omega⟩ ⟨by omega, by omega⟩ (fun c519 => (absurd rfl c519)) (fun c519 => ?_)
  refine wp_iconst (pc := 522) d_Lw_isSound_522 ?_
  refine wp_goto (tgt := 527) (pc := 523) d_Lw_isSound_523 (by decide) ?_
  refine zp_zreturn (pc := 527) d_Lw_isSound_527 rfl rfl ?_
  exact k h hP
end S77
