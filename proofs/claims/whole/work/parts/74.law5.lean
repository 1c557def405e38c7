/-! ===== the law ===== -/
section S74
variable {E : gE} {B S : Nat} {h0 h : gH} {X : Nat → SC} {T : TC} {i : Nat} {Y : SC} {F t : Int → Int} {A : Nat → Nat} {N : Nat} {V : Nat → Int → Int} {Q : Option Value → gH → Prop}
/-- the law, whatever it is called -/
abbrev mL (nm : String) : gMd := (⟨"YearTagsLaw", nm, "([I)Z"⟩, code, 4, (some .boolean), 7, 166)
variable {E : gE} {B S L b : Nat} {h g : gH} {nv nv2 : Int} {nm : String} {Q : Option Value → gH → Prop} {xf : Int → Int}
theorem LW.mono (hL : LW B S nv h) (hn : nv ≤ nv2) : LW B S nv2 h := by
  obtain ⟨X, kp, nw, sn, ln, tc, g, tg, cp, F, t, A, N, V, hW, hM, hT, ⟨hJ, hR⟩, h5, hX, hH, hS⟩ := hL
  exact ⟨X, kp, nw, sn, ln, tc, g, tg, cp, F, t, A, N, V, hW, hM, hT, ⟨hJ.mono hn, hR⟩, h5.mono hn, hX, hH, hS⟩
theorem LW.yt (hL : LW B S nv h) : ∃ fs : List Value, h.1 B = some (.inl (7, fs)) := by
  obtain ⟨X, kp, nw, sn, ln, tc, g, tg, cp, F, t, A, N, V, hW, hr⟩ := hL
  exact ⟨_, hW.yt⟩
theorem LW.room (hL : LW B S nv h) : h.2.1 ≤ B + 180520 ∧ h.2.2 ≤ S + 540000 := by
  obtain ⟨X, kp, nw, sn, ln, tc, g, tg, cp, F, t, A, N, V, hW, hr⟩ := hL
  obtain ⟨h1, h2, h3, h4, h5, h6, h7, h8, h9, h10⟩ := hW
  have hp : ∀ n : Nat, pt n ≤ 90000 := fun n => by
    unfold pt
    split <;> omega
  have q0 := h6 0 (by omega)
  have q1 := h6 1 (by omega)
  have q2 := h6 2 (by omega)
  have q3 := h6 3 (by omega)
  have q4 := h6 4 (by omega)
  have q5 := h6 5 (by omega)
  unfold sN at h9
  unfold sP at h10
  have p0 := hp (xN (upX X 0 (F, t, A, N, V) 0))
  have p1 := hp (xN (upX X 0 (F, t, A, N, V) 1))
  have p2 := hp (xN (upX X 0 (F, t, A, N, V) 2))
  have p3 := hp (xN (upX X 0 (F, t, A, N, V) 3))
  have p4 := hp (xN (upX X 0 (F, t, A, N, V) 4))
  have p5 := hp (xN (upX X 0 (F, t, A, N, V) 5))
  omega
theorem zs_length {M : gMd} {pc a n : Nat} {ls : List (Option Value)} {st : List Value} {f : Nat → Value} (hd : gDec M pc .arraylength 1) (hh : h.1 a = some (.inr (99, n, f))) (hg : (gT E)[99]? = none) (w : Wp E M (pc + 1) ls (.int (zI (n : Int)) :: st) h Q) : Wp E M pc ls (.ref a :: st) h Q := by
  refine wp_slength hd hh hg ?_
  rw [← Int32.ofInt_eq_ofNat]
  exact w
theorem and31 (y : Int32) : ∃ k : Int, 0 ≤ k ∧ k ≤ 31 ∧ y &&& zI 31 = zI k := by
  have hlt : (y &&& zI 31).toBitVec.toNat ≤ 31 := by
    rw [Int32.toBitVec_and, BitVec.toNat_and]
    exact Nat.and_le_right
  refine ⟨((y &&& zI 31).toBitVec.toNat : Int), by omega, by omega, ?_⟩
  generalize y &&& zI 31 = w
  apply Int32.toBitVec_inj.mp
  show w.toBitVec = BitVec.ofInt 32 ((w.toBitVec.toNat : Nat) : Int)
  rw [BitVec.ofInt_natCast, BitVec.ofNat_toNat]
  simp
theorem ytL_len (s : Nat) : (ytL s).length = 517 := by
  show (((((stL (s + 1) ++ stL (s + 86)) ++ hyL (s + 171)) ++ txL (s + 513)) ++ [gI 30 fun _ => 0] : List gC).length + 1) = 517
  rw [List.length_append, List.length_append, List.length_append, List.length_append, stL_len, stL_len, hyL_len]
  rfl
/-- both are new -/
theorem TB.LW {c : Nat} (hT : TB h B (ytL B ++ mdL (B + 517)) c g) : LW B g.2.2 0 g := by
  have hz : g.2.1 = B + 520 := by
    rw [hT.1, List.length_append, ytL_len]
    rfl
  have hC : CB g B (ytL B ++ mdL (B + 517)) := fun o x ho => hT.at ho
  have hY : CB g B (ytL B) := hC.lf
  have hM : CB g (B + 517) (mdL (B + 517)) := hC.rt (ytL_len B)
  refine ⟨fun i => Xz (sA B i), 0, 0, 0, 0, 0, fun _ => 0, fun _ => 0, fun _ => 0, Fz, fun _ => -1, fun j => sA B 0 + 3 + j, 16, fun _ _ => 0, (CW.mk hY hz).cn 0, ⟨hM 0 _ rfl, hM 1 _ rfl, hM 2 _ rfl⟩, ⟨by omega, by omega, by omega, Or.inl rfl, fun j _ _ => ?_⟩, ⟨J.z, RI.z⟩, fun i _ _ => ⟨J.z, RI.z⟩, RI.z.1, fun k hk => absurd hk (by omega), fun q => absurd q (by omega)⟩
  show (0 : Int) ≤ 0 ∧ (0 : Int) ≤ 65535
  omega
set_option maxRecDepth 100000 in
theorem law_loop (hE : gOk E) (hB : gB E ≤ B) (hL : L ≤ 1536) (hbB : b < B) (rx : ∀ j : Int, gR (xf j)) (k : ∀ g, LW B S 10260000 g → Q (some (.int (zI 1))) g) : ∀ (d c : Nat) (g : gH), c + d = 513 → LW B S (20000 * (c : Int)) g → g.1 b = some (.inr (99, L, fun j => .int (zI (xf (j : Int))))) →
      Wp E (mL nm) 18 [some (.ref b), some (.ref B), some (.ref (B + 517)), some (.int (zI (3 * (c : Int))))] [] g Q := by
  intro d
  induction d with
  | zero =>
    intro c g hc hLW hs
    refine wp_iload_n (pc := 18) d_Lw_law_18 rfl ?_
    refine wp_aload_n (pc := 19) d_Lw_law_19 rfl ?_
    refine zs_length (pc := 20) d_Lw_law_20 hs hE.2.2.2.2.2 ?_
    refine wp_iconst (pc := 21) d_Lw_law_21 ?_
    refine zp_isub (pc := 22) d_Lw_law_22 ?_
    refine zp_icmp_gt (tgt := 844) (pc := 23) d_Lw_law_23 (by decide) ⟨by omega, by omega⟩ ⟨by omega, by omega⟩ (fun c23 => ?_) (fun c23 => absurd c23 (by omega))
    refine wp_iconst (pc := 844) d_Lw_law_844 ?_
    refine zp_zreturn (pc := 845) d_Lw_law_845 rfl rfl ?_
    exact k _ (hLW.mono (by omega))
  | succ d ih =>
    intro c g hc hLW hs
    obtain ⟨fs0, hyt⟩ := hLW.yt
    have e2 : 20000 * ((c + 1 : Nat) : Int) = 20000 * (c : Int) + 20000 := by omega
    have e3 : 3 * ((c + 1 : Nat) : Int) = 3 * (c : Int) + 3 := by omega
    refine wp_iload_n (pc := 18) d_Lw_law_18 rfl ?_
    refine wp_aload_n (pc := 19) d_Lw_law_19 rfl ?_
    refine zs_length (pc := 20) d_Lw_law_20 hs hE.2.2.2.2.2 ?_
    refine wp_iconst (pc := 21) d_Lw_law_21 ?_
    refine zp_isub (pc := 22) d_Lw_law_22 ?_
    refine zp_icmp_gt (tgt := 844) (pc := 23) d_Lw_law_23 (by decide) ⟨by omega, by omega⟩ ⟨by omega, by omega⟩ (fun c23 => ?_) (fun c23 => ?_)
    · refine wp_iconst (pc := 844) d_Lw_law_844 ?_
      refine zp_zreturn (pc := 845) d_Lw_law_845 rfl rfl ?_
      exact k _ (hLW.mono (by omega))
    · refine wp_aload_n (pc := 26) d_Lw_law_26 rfl ?_
      refine wp_iload_n (pc := 27) d_Lw_law_27 rfl ?_
      refine zp_saload (pc := 28) d_Lw_law_28 hs hE.2.2.2.2.2 (by omega) (by omega) (by omega) ?_
      refine zp_bipush (pc := 29) d_Lw_law_29 (by decide) ?_
      refine wp_iand (pc := 31) d_Lw_law_31 ?_
      obtain ⟨kd, kd0, kd1, hkd⟩ := and31 (zI (xf (3 * (c : Int))))
      rw [hkd]
      by_cases k32_0 : kd = 0
      · rw [k32_0]
        refine zp_tableIn (x := 0) (tgt := 152) (pc := 32) d_Lw_law_32 ⟨by decide, by decide⟩ (by decide) (by decide) rfl (by decide) ?_
        refine wp_aload_n (pc := 152) d_Lw_law_152 rfl ?_
        refine wp_aload_n (pc := 153) d_Lw_law_153 rfl ?_
        refine wp_iload_n (pc := 154) d_Lw_law_154 rfl ?_
        refine wp_iconst (pc := 155) d_Lw_law_155 ?_
        refine zp_iadd (pc := 156) d_Lw_law_156 ?_
        refine zp_saload (pc := 157) d_Lw_law_157 hs hE.2.2.2.2.2 (by omega) (by omega) (by omega) ?_
        refine wp_aload_n (pc := 158) d_Lw_law_158 rfl ?_
        refine wp_iload_n (pc := 159) d_Lw_law_159 rfl ?_
        refine wp_iconst (pc := 160) d_Lw_law_160 ?_
        refine zp_iadd (pc := 161) d_Lw_law_161 ?_
        refine zp_saload (pc := 162) d_Lw_law_162 hs hE.2.2.2.2.2 (by omega) (by omega) (by omega) ?_
        refine wv_callV (n := 2) (As := [_, _]) (pc := 163) d_Lw_law_163 s_Lw_13 q_Yt_addRack ⟨Nat.le_of_ble_eq_true rfl, Nat.le_of_ble_eq_true rfl⟩ hyt rfl rfl rfl rfl (Nat.le_of_ble_eq_true rfl) (Nat.le_of_ble_eq_true rfl) ?_
        refine Wp.mono (fun r g1 hr => ?_) (st_addRack hE hB (by omega) hLW (rx _) (rx _))
        obtain ⟨z, rfl, hq1, ⟨fs1, hm1⟩, hr⟩ := hr
        have hs1 := (hq1 b hbB).trans hs
        refine ⟨_, rfl, ?_⟩
        refine wp_aload_n (pc := 166) d_Lw_law_166 rfl ?_
        refine wp_aload_n (pc := 167) d_Lw_law_167 rfl ?_
        refine wp_iload_n (pc := 168) d_Lw_law_168 rfl ?_
        refine wp_iconst (pc := 169) d_Lw_law_169 ?_
        refine zp_iadd (pc := 170) d_Lw_law_170 ?_
        refine zp_saload (pc := 171) d_Lw_law_171 hs1 hE.2.2.2.2.2 (by omega) (by omega) (by omega) ?_
        refine wp_aload_n (pc := 172) d_Lw_law_172 rfl ?_
        refine wp_iload_n (pc := 173) d_Lw_law_173 rfl ?_
        refine wp_iconst (pc := 174) d_Lw_law_174 ?_
        refine zp_iadd (pc := 175) d_Lw_law_175 ?_
        refine zp_saload (pc := 176) d_Lw_law_176 hs1 hE.2.2.2.2.2 (by omega) (by omega) (by omega) ?_
        refine wv_callV (n := 2) (As := [_, _]) (pc := 177) d_Lw_law_177 s_Lw_17 q_Md_addRack ⟨Nat.le_of_ble_eq_true rfl, Nat.le_of_ble_eq_true rfl⟩ hm1 rfl rfl rfl rfl (Nat.le_of_ble_eq_true rfl) (Nat.le_of_ble_eq_true rfl) ?_
        refine Wp.mono (fun r g2 hr2 => ?_) hr
        obtain ⟨rfl, hq2, hL2⟩ := hr2
        refine ⟨_, rfl, ?_⟩
        refine wp_icmp_eq (tgt := 838) (pc := 180) d_Lw_law_180 (by decide) (fun _ => ?_) (fun q => absurd rfl q)
        refine st_c3 (pc := 838) d_Lw_law_838 (Nat.le_of_ble_eq_true rfl) ?_
        refine wp_goto (tgt := 18) (pc := 841) d_Lw_law_841 (by decide) ?_
        have zz := ih (c + 1) g2 (by omega) (by rw [e2]; exact hL2) ((hq2 b hbB).trans hs)
        rw [e3] at zz
        exact zz
      by_cases k32_1 : kd = 1
      · rw [k32_1]
        refine zp_tableIn (x := 1) (tgt := 185) (pc := 32) d_Lw_law_32 ⟨by decide, by decide⟩ (by decide) (by decide) rfl (by decide) ?_
        refine wp_aload_n (pc := 185) d_Lw_law_185 rfl ?_
        refine wp_aload_n (pc := 186) d_Lw_law_186 rfl ?_
        refine wp_iload_n (pc := 187) d_Lw_law_187 rfl ?_
        refine wp_iconst (pc := 188) d_Lw_law_188 ?_
        refine zp_iadd (pc := 189) d_Lw_law_189 ?_
        refine zp_saload (pc := 190) d_Lw_law_190 hs hE.2.2.2.2.2 (by omega) (by omega) (by omega) ?_
        refine wp_aload_n (pc := 191) d_Lw_law_191 rfl ?_
        refine wp_iload_n (pc := 192) d_Lw_law_192 rfl ?_
        refine wp_iconst (pc := 193) d_Lw_law_193 ?_
        refine zp_iadd (pc := 194) d_Lw_law_194 ?_
        refine zp_saload (pc := 195) d_Lw_law_195 hs hE.2.2.2.2.2 (by omega) (by omega) (by omega) ?_
        refine zp_if_eq (tgt := 203) (pc := 196) d_Lw_law_196 (by decide) (rx _) (fun c196 => ?_) (fun c196 => ?_)
        · refine wp_iconst (pc := 203) d_Lw_law_203 ?_
          refine wv_callV (n := 2) (As := [_, _]) (pc := 204) d_Lw_law_204 s_Lw_18 q_Yt_open ⟨Nat.le_of_ble_eq_true rfl, Nat.le_of_ble_eq_true rfl⟩ hyt rfl rfl rfl rfl (Nat.le_of_ble_eq_true rfl) (Nat.le_of_ble_eq_true rfl) ?_
          refine Wp.mono (fun r g1 hr => ?_) (st_open hE hB (by omega) hLW (rx _) (Or.inl rfl))
          obtain ⟨z, rfl, hq1, ⟨fs1, hm1⟩, hr⟩ := hr
          have hs1 := (hq1 b hbB).trans hs
          refine ⟨_, rfl, ?_⟩
          refine wp_aload_n (pc := 207) d_Lw_law_207 rfl ?_
          refine wp_aload_n (pc := 208) d_Lw_law_208 rfl ?_
          refine wp_iload_n (pc := 209) d_Lw_law_209 rfl ?_
          refine wp_iconst (pc := 210) d_Lw_law_210 ?_
          refine zp_iadd (pc := 211) d_Lw_law_211 ?_
          refine zp_saload (pc := 212) d_Lw_law_212 hs1 hE.2.2.2.2.2 (by omega) (by omega) (by omega) ?_
          refine wp_aload_n (pc := 213) d_Lw_law_213 rfl ?_
          refine wp_iload_n (pc := 214) d_Lw_law_214 rfl ?_
          refine wp_iconst (pc := 215) d_Lw_law_215 ?_
          refine zp_iadd (pc := 216) d_Lw_law_216 ?_
          refine zp_saload (pc := 217) d_Lw_law_217 hs1 hE.2.2.2.2.2 (by omega) (by omega) (by omega) ?_
          refine zp_if_eq (tgt := 225) (pc := 218) d_Lw_law_218 (by decide) (rx _) (fun c218 => ?_) (fun c218 => absurd c196 c218)
          refine wp_iconst (pc := 225) d_Lw_law_225 ?_
          refine wv_callV (n := 2) (As := [_, _]) (pc := 226) d_Lw_law_226 s_Lw_22 q_Md_open ⟨Nat.le_of_ble_eq_true rfl, Nat.le_of_ble_eq_true rfl⟩ hm1 rfl rfl rfl rfl (Nat.le_of_ble_eq_true rfl) (Nat.le_of_ble_eq_true rfl) ?_
          refine Wp.mono (fun r g2 hr2 => ?_) hr
          obtain ⟨rfl, hq2, hL2⟩ := hr2
          refine ⟨_, rfl, ?_⟩
          refine wp_icmp_eq (tgt := 838) (pc := 229) d_Lw_law_229 (by decide) (fun _ => ?_) (fun q => absurd rfl q)
          refine st_c3 (pc := 838) d_Lw_law_838 (Nat.le_of_ble_eq_true rfl) ?_
          refine wp_goto (tgt := 18) (pc := 841) d_Lw_law_841 (by decide) ?_
          have zz := ih (c + 1) g2 (by omega) (by rw [e2]; exact hL2) ((hq2 b hbB).trans hs)
          rw [e3] at zz
          exact zz
        · refine wp_iconst (pc := 199) d_Lw_law_199 ?_
          refine wp_goto (tgt := 204) (pc := 200) d_Lw_law_200 (by decide) ?_
          refine wv_callV (n := 2) (As := [_, _]) (pc := 204) d_Lw_law_204 s_Lw_18 q_Yt_open ⟨Nat.le_of_ble_eq_true rfl, Nat.le_of_ble_eq_true rfl⟩ hyt rfl rfl rfl rfl (Nat.le_of_ble_eq_true rfl) (Nat.le_of_ble_eq_true rfl) ?_
          refine Wp.mono (fun r g1 hr => ?_) (st_open hE hB (by omega) hLW (rx _) (Or.inr rfl))
          obtain ⟨z, rfl, hq1, ⟨fs1, hm1⟩, hr⟩ := hr
          have hs1 := (hq1 b hbB).trans hs
          refine ⟨_, rfl, ?_⟩
          refine wp_aload_n (pc := 207) d_Lw_law_207 rfl ?_
          refine wp_aload_n (pc := 208) d_Lw_law_208 rfl ?_
          refine wp_iload_n (pc := 209) d_Lw_law_209 rfl ?_
          refine wp_iconst (pc := 210) d_Lw_law_210 ?_
          refine zp_iadd (pc := 211) d_Lw_law_211 ?_
          refine zp_saload (pc := 212) d_Lw_law_212 hs1 hE.2.2.2.2.2 (by omega) (by omega) (by omega) ?_
          refine wp_aload_n (pc := 213) d_Lw_law_213 rfl ?_
          refine wp_iload_n (pc := 214) d_Lw_law_214 rfl ?_
          refine wp_iconst (pc := 215) d_Lw_law_215 ?_
          refine zp_iadd (pc := 216) d_Lw_law_216 ?_
          refine zp_saload (pc := 217) d_Lw_law_217 hs1 hE.2.2.2.2.2 (by omega) (by omega) (by omega) ?_
          refine zp_if_eq (tgt := 225) (pc := 218) d_Lw_law_218 (by decide) (rx _) (fun c218 => absurd c218 c196) (fun c218 => ?_)
          refine wp_iconst (pc := 221) d_Lw_law_221 ?_
          refine wp_goto (tgt := 226) (pc := 222) d_Lw_law_222 (by decide) ?_
          refine wv_callV (n := 2) (As := [_, _]) (pc := 226) d_Lw_law_226 s_Lw_22 q_Md_open ⟨Nat.le_of_ble_eq_true rfl, Nat.le_of_ble_eq_true rfl⟩ hm1 rfl rfl rfl rfl (Nat.le_of_ble_eq_true rfl) (Nat.le_of_ble_eq_true rfl) ?_
          refine Wp.mono (fun r g2 hr2 => ?_) hr
          obtain ⟨rfl, hq2, hL2⟩ := hr2
          refine ⟨_, rfl, ?_⟩
          refine wp_icmp_eq (tgt := 838) (pc := 229) d_Lw_law_229 (by decide) (fun _ => ?_) (fun q => absurd rfl q)
          refine st_c3 (pc := 838) d_Lw_law_838 (Nat.le_of_ble_eq_true rfl) ?_
          refine wp_goto (tgt := 18) (pc := 841) d_Lw_law_841 (by decide) ?_
          have zz := ih (c + 1) g2 (by omega) (by rw [e2]; exact hL2) ((hq2 b hbB).trans hs)
          rw [e3] at zz
          exact zz
      by_cases k32_2 : kd = 2
      · rw [k32_2]
        refine zp_tableIn (x := 2) (tgt := 234) (pc := 32) d_Lw_law_32 ⟨by decide, by decide⟩ (by decide) (by decide) rfl (by decide) ?_
        refine wp_aload_n (pc := 234) d_Lw_law_234 rfl ?_
        refine wp_aload_n (pc := 235) d_Lw_law_235 rfl ?_
        refine wp_iload_n (pc := 236) d_Lw_law_236 rfl ?_
        refine wp_iconst (pc := 237) d_Lw_law_237 ?_
        refine zp_iadd (pc := 238) d_Lw_law_238 ?_
        refine zp_saload (pc := 239) d_Lw_law_239 hs hE.2.2.2.2.2 (by omega) (by omega) (by omega) ?_
        refine wp_aload_n (pc := 240) d_Lw_law_240 rfl ?_
        refine wp_iload_n (pc := 241) d_Lw_law_241 rfl ?_
        refine wp_iconst (pc := 242) d_Lw_law_242 ?_
        refine zp_iadd (pc := 243) d_Lw_law_243 ?_
        refine zp_saload (pc := 244) d_Lw_law_244 hs hE.2.2.2.2.2 (by omega) (by omega) (by omega) ?_
        refine wv_callV (n := 2) (As := [_, _]) (pc := 245) d_Lw_law_245 s_Lw_23 q_Yt_age ⟨Nat.le_of_ble_eq_true rfl, Nat.le_of_ble_eq_true rfl⟩ hyt rfl rfl rfl rfl (Nat.le_of_ble_eq_true rfl) (Nat.le_of_ble_eq_true rfl) ?_
        refine Wp.mono (fun r g1 hr => ?_) (st_age hE hB (by omega) hLW (rx _) (rx _))
        obtain ⟨z, rfl, hq1, ⟨fs1, hm1⟩, hr⟩ := hr
        have hs1 := (hq1 b hbB).trans hs
        refine ⟨_, rfl, ?_⟩
        refine wp_aload_n (pc := 248) d_Lw_law_248 rfl ?_
        refine wp_aload_n (pc := 249) d_Lw_law_249 rfl ?_
        refine wp_iload_n (pc := 250) d_Lw_law_250 rfl ?_
        refine wp_iconst (pc := 251) d_Lw_law_251 ?_
        refine zp_iadd (pc := 252) d_Lw_law_252 ?_
        refine zp_saload (pc := 253) d_Lw_law_253 hs1 hE.2.2.2.2.2 (by omega) (by omega) (by omega) ?_
        refine wp_aload_n (pc := 254) d_Lw_law_254 rfl ?_
        refine wp_iload_n (pc := 255) d_Lw_law_255 rfl ?_
        refine wp_iconst (pc := 256) d_Lw_law_256 ?_
        refine zp_iadd (pc := 257) d_Lw_law_257 ?_
        refine zp_saload (pc := 258) d_Lw_law_258 hs1 hE.2.2.2.2.2 (by omega) (by omega) (by omega) ?_
        refine wv_callV (n := 2) (As := [_, _]) (pc := 259) d_Lw_law_259 s_Lw_26 q_Md_age ⟨Nat.le_of_ble_eq_true rfl, Nat.le_of_ble_eq_true rfl⟩ hm1 rfl rfl rfl rfl (Nat.le_of_ble_eq_true rfl) (Nat.le_of_ble_eq_true rfl) ?_
        refine Wp.mono (fun r g2 hr2 => ?_) hr
        obtain ⟨rfl, hq2, hL2⟩ := hr2
        refine ⟨_, rfl, ?_⟩
        refine wp_icmp_eq (tgt := 838) (pc := 262) d_Lw_law_262 (by decide) (fun _ => ?_) (fun q => absurd rfl q)
        refine st_c3 (pc := 838) d_Lw_law_838 (Nat.le_of_ble_eq_true rfl) ?_
        refine wp_goto (tgt := 18) (pc := 841) d_Lw_law_841 (by decide) ?_
        have zz := ih (c + 1) g2 (by omega) (by rw [e2]; exact hL2) ((hq2 b hbB).trans hs)
        rw [e3] at zz
        exact zz
      by_cases k32_3 : kd = 3
      · rw [k32_3]
        refine zp_tableIn (x := 3) (tgt := 267) (pc := 32) d_Lw_law_32 ⟨by decide, by decide⟩ (by decide) (by decide) rfl (by decide) ?_
        refine wp_aload_n (pc := 267) d_Lw_law_267 rfl ?_
        refine wp_aload_n (pc := 268) d_Lw_law_268 rfl ?_
        refine wp_iload_n (pc := 269) d_Lw_law_269 rfl ?_
        refine wp_iconst (pc := 270) d_Lw_law_270 ?_
        refine zp_iadd (pc := 271) d_Lw_law_271 ?_
        refine zp_saload (pc := 272) d_Lw_law_272 hs hE.2.2.2.2.2 (by omega) (by omega) (by omega) ?_
        refine wp_aload_n (pc := 273) d_Lw_law_273 rfl ?_
        refine wp_iload_n (pc := 274) d_Lw_law_274 rfl ?_
        refine wp_iconst (pc := 275) d_Lw_law_275 ?_
        refine zp_iadd (pc := 276) d_Lw_law_276 ?_
        refine zp_saload (pc := 277) d_Lw_law_277 hs hE.2.2.2.2.2 (by omega) (by omega) (by omega) ?_
        refine wv_callV (n := 2) (As := [_, _]) (pc := 278) d_Lw_law_278 s_Lw_27 q_Yt_set ⟨Nat.le_of_ble_eq_true rfl, Nat.le_of_ble_eq_true rfl⟩ hyt rfl rfl rfl rfl (Nat.le_of_ble_eq_true rfl) (Nat.le_of_ble_eq_true rfl) ?_
        refine Wp.mono (fun r g1 hr => ?_) (st_set hE hB (by omega) hLW (rx _) (rx _))
        obtain ⟨z, rfl, hq1, ⟨fs1, hm1⟩, hr⟩ := hr
        have hs1 := (hq1 b hbB).trans hs
        refine ⟨_, rfl, ?_⟩
        refine wp_aload_n (pc := 281) d_Lw_law_281 rfl ?_
        refine wp_aload_n (pc := 282) d_Lw_law_282 rfl ?_
        refine wp_iload_n (pc := 283) d_Lw_law_283 rfl ?_
        refine wp_iconst (pc := 284) d_Lw_law_284 ?_
        refine zp_iadd (pc := 285) d_Lw_law_285 ?_
        refine zp_saload (pc := 286) d_Lw_law_286 hs1 hE.2.2.2.2.2 (by omega) (by omega) (by omega) ?_
        refine wp_aload_n (pc := 287) d_Lw_law_287 rfl ?_
        refine wp_iload_n (pc := 288) d_Lw_law_288 rfl ?_
        refine wp_iconst (pc := 289) d_Lw_law_289 ?_
        refine zp_iadd (pc := 290) d_Lw_law_290 ?_
        refine zp_saload (pc := 291) d_Lw_law_291 hs1 hE.2.2.2.2.2 (by omega) (by omega) (by omega) ?_
        refine wv_callV (n := 2) (As := [_, _]) (pc := 292) d_Lw_law_292 s_Lw_30 q_Md_set ⟨Nat.le_of_ble_eq_true rfl, Nat.le_of_ble_eq_true rfl⟩ hm1 rfl rfl rfl rfl (Nat.le_of_ble_eq_true rfl) (Nat.le_of_ble_eq_true rfl) ?_
        refine Wp.mono (fun r g2 hr2 => ?_) hr
        obtain ⟨rfl, hq2, hL2⟩ := hr2
        refine ⟨_, rfl, ?_⟩
        refine wp_icmp_eq (tgt := 838) (pc := 295) d_Lw_law_295 (by decide) (fun _ => ?_) (fun q => absurd rfl q)
        refine st_c3 (pc := 838) d_Lw_law_838 (Nat.le_of_ble_eq_true rfl) ?_
        refine wp_goto (tgt := 18) (pc := 841) d_Lw_law_841 (by decide) ?_
        have zz := ih (c + 1) g2 (by omega) (by rw [e2]; exact hL2) ((hq2 b hbB).trans hs)
        rw [e3] at zz
        exact zz
      by_cases k32_4 : kd = 4
      · rw [k32_4]
        refine zp_tableIn (x := 4) (tgt := 300) (pc := 32) d_Lw_law_32 ⟨by decide, by decide⟩ (by decide) (by decide) rfl (by decide) ?_
        refine wp_aload_n (pc := 300) d_Lw_law_300 rfl ?_
        refine wp_aload_n (pc := 301) d_Lw_law_301 rfl ?_
        refine wp_iload_n (pc := 302) d_Lw_law_302 rfl ?_
        refine wp_iconst (pc := 303) d_Lw_law_303 ?_
        refine zp_iadd (pc := 304) d_Lw_law_304 ?_
        refine zp_saload (pc := 305) d_Lw_law_305 hs hE.2.2.2.2.2 (by omega) (by omega) (by omega) ?_
        refine wp_aload_n (pc := 306) d_Lw_law_306 rfl ?_
        refine wp_iload_n (pc := 307) d_Lw_law_307 rfl ?_
        refine wp_iconst (pc := 308) d_Lw_law_308 ?_
        refine zp_iadd (pc := 309) d_Lw_law_309 ?_
        refine zp_saload (pc := 310) d_Lw_law_310 hs hE.2.2.2.2.2 (by omega) (by omega) (by omega) ?_
        refine wv_callV (n := 2) (As := [_, _]) (pc := 311) d_Lw_law_311 s_Lw_31 q_Yt_take ⟨Nat.le_of_ble_eq_true rfl, Nat.le_of_ble_eq_true rfl⟩ hyt rfl rfl rfl rfl (Nat.le_of_ble_eq_true rfl) (Nat.le_of_ble_eq_true rfl) ?_
        refine Wp.mono (fun r g1 hr => ?_) (st_take hE hB (by omega) hLW (rx _) (rx _))
        obtain ⟨z, rfl, hq1, ⟨fs1, hm1⟩, hr⟩ := hr
        have hs1 := (hq1 b hbB).trans hs
        refine ⟨_, rfl, ?_⟩
        refine wp_aload_n (pc := 314) d_Lw_law_314 rfl ?_
        refine wp_aload_n (pc := 315) d_Lw_law_315 rfl ?_
        refine wp_iload_n (pc := 316) d_Lw_law_316 rfl ?_
        refine wp_iconst (pc := 317) d_Lw_law_317 ?_
        refine zp_iadd (pc := 318) d_Lw_law_318 ?_
        refine zp_saload (pc := 319) d_Lw_law_319 hs1 hE.2.2.2.2.2 (by omega) (by omega) (by omega) ?_
        refine wp_aload_n (pc := 320) d_Lw_law_320 rfl ?_
        refine wp_iload_n (pc := 321) d_Lw_law_321 rfl ?_
        refine wp_iconst (pc := 322) d_Lw_law_322 ?_
        refine zp_iadd (pc := 323) d_Lw_law_323 ?_
        refine zp_saload (pc := 324) d_Lw_law_324 hs1 hE.2.2.2.2.2 (by omega) (by omega) (by omega) ?_
        refine wv_callV (n := 2) (As := [_, _]) (pc := 325) d_Lw_law_325 s_Lw_34 q_Md_take ⟨Nat.le_of_ble_eq_true rfl, Nat.le_of_ble_eq_true rfl⟩ hm1 rfl rfl rfl rfl (Nat.le_of_ble_eq_true rfl) (Nat.le_of_ble_eq_true rfl) ?_
        refine Wp.mono (fun r g2 hr2 => ?_) hr
        obtain ⟨rfl, hq2, hL2⟩ := hr2
        refine ⟨_, rfl, ?_⟩
        refine wp_icmp_eq (tgt := 838) (pc := 328) d_Lw_law_328 (by decide) (fun _ => ?_) (fun q => absurd rfl q)
        refine st_c3 (pc := 838) d_Lw_law_838 (Nat.le_of_ble_eq_true rfl) ?_
        refine wp_goto (tgt := 18) (pc := 841) d_Lw_law_841 (by decide) ?_
        have zz := ih (c + 1) g2 (by omega) (by rw [e2]; exact hL2) ((hq2 b hbB).trans hs)
        rw [e3] at zz
        exact zz
      by_cases k32_5 : kd = 5
      · rw [k32_5]
        refine zp_tableIn (x := 5) (tgt := 333) (pc := 32) d_Lw_law_32 ⟨by decide, by decide⟩ (by decide) (by decide) rfl (by decide) ?_
        refine wp_aload_n (pc := 333) d_Lw_law_333 rfl ?_
        refine wp_aload_n (pc := 334) d_Lw_law_334 rfl ?_
        refine wp_iload_n (pc := 335) d_Lw_law_335 rfl ?_
        refine wp_iconst (pc := 336) d_Lw_law_336 ?_
        refine zp_iadd (pc := 337) d_Lw_law_337 ?_
        refine zp_saload (pc := 338) d_Lw_law_338 hs hE.2.2.2.2.2 (by omega) (by omega) (by omega) ?_
        refine wv_callV (n := 1) (As := [_]) (pc := 339) d_Lw_law_339 s_Lw_35 q_Yt_claim ⟨Nat.le_of_ble_eq_true rfl, Nat.le_of_ble_eq_true rfl⟩ hyt rfl rfl rfl rfl (Nat.le_of_ble_eq_true rfl) (Nat.le_of_ble_eq_true rfl) ?_
        refine Wp.mono (fun r g1 hr => ?_) (st_claim hE hB (by omega) hLW (rx _))
        obtain ⟨z, rfl, hq1, ⟨fs1, hm1⟩, hr⟩ := hr
        have hs1 := (hq1 b hbB).trans hs
        refine ⟨_, rfl, ?_⟩
        refine wp_aload_n (pc := 342) d_Lw_law_342 rfl ?_
        refine wp_aload_n (pc := 343) d_Lw_law_343 rfl ?_
        refine wp_iload_n (pc := 344) d_Lw_law_344 rfl ?_
        refine wp_iconst (pc := 345) d_Lw_law_345 ?_
        refine zp_iadd (pc := 346) d_Lw_law_346 ?_
        refine zp_saload (pc := 347) d_Lw_law_347 hs1 hE.2.2.2.2.2 (by omega) (by omega) (by omega) ?_
        refine wv_callV (n := 1) (As := [_]) (pc := 348) d_Lw_law_348 s_Lw_39 q_Md_claim ⟨Nat.le_of_ble_eq_true rfl, Nat.le_of_ble_eq_true rfl⟩ hm1 rfl rfl rfl rfl (Nat.le_of_ble_eq_true rfl) (Nat.le_of_ble_eq_true rfl) ?_
        refine Wp.mono (fun r g2 hr2 => ?_) hr
        obtain ⟨rfl, hq2, hL2⟩ := hr2
        refine ⟨_, rfl, ?_⟩
        refine wp_icmp_eq (tgt := 838) (pc := 351) d_Lw_law_351 (by decide) (fun _ => ?_) (fun q => absurd rfl q)
        refine st_c3 (pc := 838) d_Lw_law_838 (Nat.le_of_ble_eq_true rfl) ?_
        refine wp_goto (tgt := 18) (pc := 841) d_Lw_law_841 (by decide) ?_
        have zz := ih (c + 1) g2 (by omega) (by rw [e2]; exact hL2) ((hq2 b hbB).trans hs)
        rw [e3] at zz
        exact zz
      by_cases k32_6 : kd = 6
      · rw [k32_6]
        refine zp_tableIn (x := 6) (tgt := 356) (pc := 32) d_Lw_law_32 ⟨by decide, by decide⟩ (by decide) (by decide) rfl (by decide) ?_
        refine wp_aload_n (pc := 356) d_Lw_law_356 rfl ?_
        refine wp_aload_n (pc := 357) d_Lw_law_357 rfl ?_
        refine wp_iload_n (pc := 358) d_Lw_law_358 rfl ?_
        refine wp_iconst (pc := 359) d_Lw_law_359 ?_
        refine zp_iadd (pc := 360) d_Lw_law_360 ?_
        refine zp_saload (pc := 361) d_Lw_law_361 hs hE.2.2.2.2.2 (by omega) (by omega) (by omega) ?_
        refine wp_aload_n (pc := 362) d_Lw_law_362 rfl ?_
        refine wp_iload_n (pc := 363) d_Lw_law_363 rfl ?_
        refine wp_iconst (pc := 364) d_Lw_law_364 ?_
        refine zp_iadd (pc := 365) d_Lw_law_365 ?_
        refine zp_saload (pc := 366) d_Lw_law_366 hs hE.2.2.2.2.2 (by omega) (by omega) (by omega) ?_
        refine wv_callV (n := 2) (As := [_, _]) (pc := 367) d_Lw_law_367 s_Lw_40 q_Yt_giveOut ⟨Nat.le_of_ble_eq_true rfl, Nat.le_of_ble_eq_true rfl⟩ hyt rfl rfl rfl rfl (Nat.le_of_ble_eq_true rfl) (Nat.le_of_ble_eq_true rfl) ?_
        refine Wp.mono (fun r g1 hr => ?_) (st_giveOut hE hB (by omega) hLW (rx _) (rx _))
        obtain ⟨z, rfl, hq1, ⟨fs1, hm1⟩, hr⟩ := hr
        have hs1 := (hq1 b hbB).trans hs
        refine ⟨_, rfl, ?_⟩
        refine wp_aload_n (pc := 370) d_Lw_law_370 rfl ?_
        refine wp_aload_n (pc := 371) d_Lw_law_371 rfl ?_
        refine wp_iload_n (pc := 372) d_Lw_law_372 rfl ?_
        refine wp_iconst (pc := 373) d_Lw_law_373 ?_
        refine zp_iadd (pc := 374) d_Lw_law_374 ?_
        refine zp_saload (pc := 375) d_Lw_law_375 hs1 hE.2.2.2.2.2 (by omega) (by omega) (by omega) ?_
        refine wp_aload_n (pc := 376) d_Lw_law_376 rfl ?_
        refine wp_iload_n (pc := 377) d_Lw_law_377 rfl ?_
        refine wp_iconst (pc := 378) d_Lw_law_378 ?_
        refine zp_iadd (pc := 379) d_Lw_law_379 ?_
        refine zp_saload (pc := 380) d_Lw_law_380 hs1 hE.2.2.2.2.2 (by omega) (by omega) (by omega) ?_
        refine wv_callV (n := 2) (As := [_, _]) (pc := 381) d_Lw_law_381 s_Lw_43 q_Md_giveOut ⟨Nat.le_of_ble_eq_true rfl, Nat.le_of_ble_eq_true rfl⟩ hm1 rfl rfl rfl rfl (Nat.le_of_ble_eq_true rfl) (Nat.le_of_ble_eq_true rfl) ?_
        refine Wp.mono (fun r g2 hr2 => ?_) hr
        obtain ⟨rfl, hq2, hL2⟩ := hr2
        refine ⟨_, rfl, ?_⟩
        refine wp_icmp_eq (tgt := 838) (pc := 384) d_Lw_law_384 (by decide) (fun _ => ?_) (fun q => absurd rfl q)
        refine st_c3 (pc := 838) d_Lw_law_838 (Nat.le_of_ble_eq_true rfl) ?_
        refine wp_goto (tgt := 18) (pc := 841) d_Lw_law_841 (by decide) ?_
        have zz := ih (c + 1) g2 (by omega) (by rw [e2]; exact hL2) ((hq2 b hbB).trans hs)
        rw [e3] at zz
        exact zz
      by_cases k32_7 : kd = 7
      · rw [k32_7]
        refine zp_tableIn (x := 7) (tgt := 389) (pc := 32) d_Lw_law_32 ⟨by decide, by decide⟩ (by decide) (by decide) rfl (by decide) ?_
        refine wp_aload_n (pc := 389) d_Lw_law_389 rfl ?_
        refine wp_aload_n (pc := 390) d_Lw_law_390 rfl ?_
        refine wp_iload_n (pc := 391) d_Lw_law_391 rfl ?_
        refine wp_iconst (pc := 392) d_Lw_law_392 ?_
        refine zp_iadd (pc := 393) d_Lw_law_393 ?_
        refine zp_saload (pc := 394) d_Lw_law_394 hs hE.2.2.2.2.2 (by omega) (by omega) (by omega) ?_
        refine wp_aload_n (pc := 395) d_Lw_law_395 rfl ?_
        refine wp_iload_n (pc := 396) d_Lw_law_396 rfl ?_
        refine wp_iconst (pc := 397) d_Lw_law_397 ?_
        refine zp_iadd (pc := 398) d_Lw_law_398 ?_
        refine zp_saload (pc := 399) d_Lw_law_399 hs hE.2.2.2.2.2 (by omega) (by omega) (by omega) ?_
        refine wv_callV (n := 2) (As := [_, _]) (pc := 400) d_Lw_law_400 s_Lw_44 q_Yt_move ⟨Nat.le_of_ble_eq_true rfl, Nat.le_of_ble_eq_true rfl⟩ hyt rfl rfl rfl rfl (Nat.le_of_ble_eq_true rfl) (Nat.le_of_ble_eq_true rfl) ?_
        refine Wp.mono (fun r g1 hr => ?_) (st_move hE hB (by omega) hLW (rx _) (rx _))
        obtain ⟨z, rfl, hq1, ⟨fs1, hm1⟩, hr⟩ := hr
        have hs1 := (hq1 b hbB).trans hs
        refine ⟨_, rfl, ?_⟩
        refine wp_aload_n (pc := 403) d_Lw_law_403 rfl ?_
        refine wp_aload_n (pc := 404) d_Lw_law_404 rfl ?_
        refine wp_iload_n (pc := 405) d_Lw_law_405 rfl ?_
        refine wp_iconst (pc := 406) d_Lw_law_406 ?_
        refine zp_iadd (pc := 407) d_Lw_law_407 ?_
        refine zp_saload (pc := 408) d_Lw_law_408 hs1 hE.2.2.2.2.2 (by omega) (by omega) (by omega) ?_
        refine wp_aload_n (pc := 409) d_Lw_law_409 rfl ?_
        refine wp_iload_n (pc := 410) d_Lw_law_410 rfl ?_
        refine wp_iconst (pc := 411) d_Lw_law_411 ?_
        refine zp_iadd (pc := 412) d_Lw_law_412 ?_
        refine zp_saload (pc := 413) d_Lw_law_413 hs1 hE.2.2.2.2.2 (by omega) (by omega) (by omega) ?_
        refine wv_callV (n := 2) (As := [_, _]) (pc := 414) d_Lw_law_414 s_Lw_47 q_Md_move ⟨Nat.le_of_ble_eq_true rfl, Nat.le_of_ble_eq_true rfl⟩ hm1 rfl rfl rfl rfl (Nat.le_of_ble_eq_true rfl) (Nat.le_of_ble_eq_true rfl) ?_
        refine Wp.mono (fun r g2 hr2 => ?_) hr
        obtain ⟨rfl, hq2, hL2⟩ := hr2
        refine ⟨_, rfl, ?_⟩
        refine wp_icmp_eq (tgt := 838) (pc := 417) d_Lw_law_417 (by decide) (fun _ => ?_) (fun q => absurd rfl q)
        refine st_c3 (pc := 838) d_Lw_law_838 (Nat.le_of_ble_eq_true rfl) ?_
        refine wp_goto (tgt := 18) (pc := 841) d_Lw_law_841 (by decide) ?_
        have zz := ih (c + 1) g2 (by omega) (by rw [e2]; exact hL2) ((hq2 b hbB).trans hs)
        rw [e3] at zz
        exact zz
      by_cases k32_8 : kd = 8
      · rw [k32_8]
        refine zp_tableIn (x := 8) (tgt := 422) (pc := 32) d_Lw_law_32 ⟨by decide, by decide⟩ (by decide) (by decide) rfl (by decide) ?_
        refine wp_aload_n (pc := 422) d_Lw_law_422 rfl ?_
        refine wp_aload_n (pc := 423) d_Lw_law_423 rfl ?_
        refine wp_iload_n (pc := 424) d_Lw_law_424 rfl ?_
        refine wp_iconst (pc := 425) d_Lw_law_425 ?_
        refine zp_iadd (pc := 426) d_Lw_law_426 ?_
        refine zp_saload (pc := 427) d_Lw_law_427 hs hE.2.2.2.2.2 (by omega) (by omega) (by omega) ?_
        refine wp_aload_n (pc := 428) d_Lw_law_428 rfl ?_
        refine wp_iload_n (pc := 429) d_Lw_law_429 rfl ?_
        refine wp_iconst (pc := 430) d_Lw_law_430 ?_
        refine zp_iadd (pc := 431) d_Lw_law_431 ?_
        refine zp_saload (pc := 432) d_Lw_law_432 hs hE.2.2.2.2.2 (by omega) (by omega) (by omega) ?_
        refine wv_callV (n := 2) (As := [_, _]) (pc := 433) d_Lw_law_433 s_Lw_48 q_Yt_moveAll ⟨Nat.le_of_ble_eq_true rfl, Nat.le_of_ble_eq_true rfl⟩ hyt rfl rfl rfl rfl (Nat.le_of_ble_eq_true rfl) (Nat.le_of_ble_eq_true rfl) ?_
        refine Wp.mono (fun r g1 hr => ?_) (st_moveAll hE hB (by omega) hLW (rx _) (rx _))
        obtain ⟨z, rfl, hq1, ⟨fs1, hm1⟩, hr⟩ := hr
        have hs1 := (hq1 b hbB).trans hs
        refine ⟨_, rfl, ?_⟩
        refine wp_aload_n (pc := 436) d_Lw_law_436 rfl ?_
        refine wp_aload_n (pc := 437) d_Lw_law_437 rfl ?_
        refine wp_iload_n (pc := 438) d_Lw_law_438 rfl ?_
        refine wp_iconst (pc := 439) d_Lw_law_439 ?_
        refine zp_iadd (pc := 440) d_Lw_law_440 ?_
        refine zp_saload (pc := 441) d_Lw_law_441 hs1 hE.2.2.2.2.2 (by omega) (by omega) (by omega) ?_
        refine wp_aload_n (pc := 442) d_Lw_law_442 rfl ?_
        refine wp_iload_n (pc := 443) d_Lw_law_443 rfl ?_
        refine wp_iconst (pc := 444) d_Lw_law_444 ?_
        refine zp_iadd (pc := 445) d_Lw_law_445 ?_
        refine zp_saload (pc := 446) d_Lw_law_446 hs1 hE.2.2.2.2.2 (by omega) (by omega) (by omega) ?_
        refine wv_callV (n := 2) (As := [_, _]) (pc := 447) d_Lw_law_447 s_Lw_51 q_Md_moveAll ⟨Nat.le_of_ble_eq_true rfl, Nat.le_of_ble_eq_true rfl⟩ hm1 rfl rfl rfl rfl (Nat.le_of_ble_eq_true rfl) (Nat.le_of_ble_eq_true rfl) ?_
        refine Wp.mono (fun r g2 hr2 => ?_) hr
        obtain ⟨rfl, hq2, hL2⟩ := hr2
        refine ⟨_, rfl, ?_⟩
        refine wp_icmp_eq (tgt := 838) (pc := 450) d_Lw_law_450 (by decide) (fun _ => ?_) (fun q => absurd rfl q)
        refine st_c3 (pc := 838) d_Lw_law_838 (Nat.le_of_ble_eq_true rfl) ?_
        refine wp_goto (tgt := 18) (pc := 841) d_Lw_law_841 (by decide) ?_
        have zz := ih (c + 1) g2 (by omega) (by rw [e2]; exact hL2) ((hq2 b hbB).trans hs)
        rw [e3] at zz
        exact zz
      by_cases k32_9 : kd = 9
      · rw [k32_9]
        refine zp_tableIn (x := 9) (tgt := 455) (pc := 32) d_Lw_law_32 ⟨by decide, by decide⟩ (by decide) (by decide) rfl (by decide) ?_
        refine wp_aload_n (pc := 455) d_Lw_law_455 rfl ?_
        refine wv_callV (n := 0) (As := []) (pc := 456) d_Lw_law_456 s_Lw_52 q_Yt_shorten ⟨Nat.le_of_ble_eq_true rfl, Nat.le_of_ble_eq_true rfl⟩ hyt rfl rfl rfl rfl (Nat.le_of_ble_eq_true rfl) (Nat.le_of_ble_eq_true rfl) ?_
        refine Wp.mono (fun r g1 hr => ?_) (st_shorten hE hB (by omega) hLW )
        obtain ⟨z, rfl, hq1, ⟨fs1, hm1⟩, hr⟩ := hr
        have hs1 := (hq1 b hbB).trans hs
        refine ⟨_, rfl, ?_⟩
        refine wp_aload_n (pc := 459) d_Lw_law_459 rfl ?_
        refine wv_callV (n := 0) (As := []) (pc := 460) d_Lw_law_460 s_Lw_56 q_Md_shorten ⟨Nat.le_of_ble_eq_true rfl, Nat.le_of_ble_eq_true rfl⟩ hm1 rfl rfl rfl rfl (Nat.le_of_ble_eq_true rfl) (Nat.le_of_ble_eq_true rfl) ?_
        refine Wp.mono (fun r g2 hr2 => ?_) hr
        obtain ⟨rfl, hq2, hL2⟩ := hr2
        refine ⟨_, rfl, ?_⟩
        refine wp_icmp_eq (tgt := 838) (pc := 463) d_Lw_law_463 (by decide) (fun _ => ?_) (fun q => absurd rfl q)
        refine st_c3 (pc := 838) d_Lw_law_838 (Nat.le_of_ble_eq_true rfl) ?_
        refine wp_goto (tgt := 18) (pc := 841) d_Lw_law_841 (by decide) ?_
        have zz := ih (c + 1) g2 (by omega) (by rw [e2]; exact hL2) ((hq2 b hbB).trans hs)
        rw [e3] at zz
        exact zz
      by_cases k32_10 : kd = 10
      · rw [k32_10]
        refine zp_tableIn (x := 10) (tgt := 468) (pc := 32) d_Lw_law_32 ⟨by decide, by decide⟩ (by decide) (by decide) rfl (by decide) ?_
        refine wp_aload_n (pc := 468) d_Lw_law_468 rfl ?_
        refine wp_aload_n (pc := 469) d_Lw_law_469 rfl ?_
        refine wp_iload_n (pc := 470) d_Lw_law_470 rfl ?_
        refine wp_iconst (pc := 471) d_Lw_law_471 ?_
        refine zp_iadd (pc := 472) d_Lw_law_472 ?_
        refine zp_saload (pc := 473) d_Lw_law_473 hs hE.2.2.2.2.2 (by omega) (by omega) (by omega) ?_
        refine wv_callV (n := 1) (As := [_]) (pc := 474) d_Lw_law_474 s_Lw_57 q_Yt_pass ⟨Nat.le_of_ble_eq_true rfl, Nat.le_of_ble_eq_true rfl⟩ hyt rfl rfl rfl rfl (Nat.le_of_ble_eq_true rfl) (Nat.le_of_ble_eq_true rfl) ?_
        refine Wp.mono (fun r g1 hr => ?_) (st_pass hE hB (by omega) hLW (rx _))
        obtain ⟨z, rfl, hq1, ⟨fs1, hm1⟩, hr⟩ := hr
        have hs1 := (hq1 b hbB).trans hs
        refine ⟨_, rfl, ?_⟩
        refine wp_aload_n (pc := 477) d_Lw_law_477 rfl ?_
        refine wp_aload_n (pc := 478) d_Lw_law_478 rfl ?_
        refine wp_iload_n (pc := 479) d_Lw_law_479 rfl ?_
        refine wp_iconst (pc := 480) d_Lw_law_480 ?_
        refine zp_iadd (pc := 481) d_Lw_law_481 ?_
        refine zp_saload (pc := 482) d_Lw_law_482 hs1 hE.2.2.2.2.2 (by omega) (by omega) (by omega) ?_
        refine wv_callV (n := 1) (As := [_]) (pc := 483) d_Lw_law_483 s_Lw_60 q_Md_pass ⟨Nat.le_of_ble_eq_true rfl, Nat.le_of_ble_eq_true rfl⟩ hm1 rfl rfl rfl rfl (Nat.le_of_ble_eq_true rfl) (Nat.le_of_ble_eq_true rfl) ?_
        refine Wp.mono (fun r g2 hr2 => ?_) hr
        obtain ⟨rfl, hq2, hL2⟩ := hr2
        refine ⟨_, rfl, ?_⟩
        refine wp_icmp_eq (tgt := 838) (pc := 486) d_Lw_law_486 (by decide) (fun _ => ?_) (fun q => absurd rfl q)
        refine st_c3 (pc := 838) d_Lw_law_838 (Nat.le_of_ble_eq_true rfl) ?_
        refine wp_goto (tgt := 18) (pc := 841) d_Lw_law_841 (by decide) ?_
        have zz := ih (c + 1) g2 (by omega) (by rw [e2]; exact hL2) ((hq2 b hbB).trans hs)
        rw [e3] at zz
        exact zz
      by_cases k32_11 : kd = 11
      · rw [k32_11]
        refine zp_tableIn (x := 11) (tgt := 491) (pc := 32) d_Lw_law_32 ⟨by decide, by decide⟩ (by decide) (by decide) rfl (by decide) ?_
        refine wp_aload_n (pc := 491) d_Lw_law_491 rfl ?_
        refine wp_aload_n (pc := 492) d_Lw_law_492 rfl ?_
        refine wp_iload_n (pc := 493) d_Lw_law_493 rfl ?_
        refine wp_iconst (pc := 494) d_Lw_law_494 ?_
        refine zp_iadd (pc := 495) d_Lw_law_495 ?_
        refine zp_saload (pc := 496) d_Lw_law_496 hs hE.2.2.2.2.2 (by omega) (by omega) (by omega) ?_
        refine wp_i2c (pc := 497) d_Lw_law_497 ?_
        obtain ⟨cc, cc0, cc1, hcc⟩ := i2c_ex (zI (xf (3 * (c : Int) + 1)))
        rw [hcc]
        refine wv_callV (n := 1) (As := [_]) (pc := 498) d_Lw_law_498 s_Lw_61 q_Yt_type ⟨Nat.le_of_ble_eq_true rfl, Nat.le_of_ble_eq_true rfl⟩ hyt rfl rfl rfl rfl (Nat.le_of_ble_eq_true rfl) (Nat.le_of_ble_eq_true rfl) ?_
        refine Wp.mono (fun r g1 hr => ?_) (st_type hE hB (by omega) hLW cc0 cc1)
        obtain ⟨z, rfl, hq1, ⟨fs1, hm1⟩, hr⟩ := hr
        have hs1 := (hq1 b hbB).trans hs
        refine ⟨_, rfl, ?_⟩
        refine wp_aload_n (pc := 501) d_Lw_law_501 rfl ?_
        refine wp_aload_n (pc := 502) d_Lw_law_502 rfl ?_
        refine wp_iload_n (pc := 503) d_Lw_law_503 rfl ?_
        refine wp_iconst (pc := 504) d_Lw_law_504 ?_
        refine zp_iadd (pc := 505) d_Lw_law_505 ?_
        refine zp_saload (pc := 506) d_Lw_law_506 hs1 hE.2.2.2.2.2 (by omega) (by omega) (by omega) ?_
        refine wp_i2c (pc := 507) d_Lw_law_507 ?_
        rw [hcc]
        refine wv_callV (n := 1) (As := [_]) (pc := 508) d_Lw_law_508 s_Lw_65 q_Md_type ⟨Nat.le_of_ble_eq_true rfl, Nat.le_of_ble_eq_true rfl⟩ hm1 rfl rfl rfl rfl (Nat.le_of_ble_eq_true rfl) (Nat.le_of_ble_eq_true rfl) ?_
        refine Wp.mono (fun r g2 hr2 => ?_) hr
        obtain ⟨rfl, hq2, hL2⟩ := hr2
        refine ⟨_, rfl, ?_⟩
        refine wp_icmp_eq (tgt := 838) (pc := 511) d_Lw_law_511 (by decide) (fun _ => ?_) (fun q => absurd rfl q)
        refine st_c3 (pc := 838) d_Lw_law_838 (Nat.le_of_ble_eq_true rfl) ?_
        refine wp_goto (tgt := 18) (pc := 841) d_Lw_law_841 (by decide) ?_
        have zz := ih (c + 1) g2 (by omega) (by rw [e2]; exact hL2) ((hq2 b hbB).trans hs)
        rw [e3] at zz
        exact zz
      by_cases k32_12 : kd = 12
      · rw [k32_12]
        refine zp_tableIn (x := 12) (tgt := 516) (pc := 32) d_Lw_law_32 ⟨by decide, by decide⟩ (by decide) (by decide) rfl (by decide) ?_
        refine wp_aload_n (pc := 516) d_Lw_law_516 rfl ?_
        refine wv_callV (n := 0) (As := []) (pc := 517) d_Lw_law_517 s_Lw_66 q_Yt_clearText ⟨Nat.le_of_ble_eq_true rfl, Nat.le_of_ble_eq_true rfl⟩ hyt rfl rfl rfl rfl (Nat.le_of_ble_eq_true rfl) (Nat.le_of_ble_eq_true rfl) ?_
        refine Wp.mono (fun r g1 hr => ?_) (st_clearText hE hB (by omega) hLW )
        obtain ⟨z, rfl, hq1, ⟨fs1, hm1⟩, hr⟩ := hr
        have hs1 := (hq1 b hbB).trans hs
        refine ⟨_, rfl, ?_⟩
        refine wp_aload_n (pc := 520) d_Lw_law_520 rfl ?_
        refine wv_callV (n := 0) (As := []) (pc := 521) d_Lw_law_521 s_Lw_69 q_Md_clearText ⟨Nat.le_of_ble_eq_true rfl, Nat.le_of_ble_eq_true rfl⟩ hm1 rfl rfl rfl rfl (Nat.le_of_ble_eq_true rfl) (Nat.le_of_ble_eq_true rfl) ?_
        refine Wp.mono (fun r g2 hr2 => ?_) hr
        obtain ⟨rfl, hq2, hL2⟩ := hr2
        refine ⟨_, rfl, ?_⟩
        refine wp_icmp_eq (tgt := 838) (pc := 524) d_Lw_law_524 (by decide) (fun _ => ?_) (fun q => absurd rfl q)
        refine st_c3 (pc := 838) d_Lw_law_838 (Nat.le_of_ble_eq_true rfl) ?_
        refine wp_goto (tgt := 18) (pc := 841) d_Lw_law_841 (by decide) ?_
        have zz := ih (c + 1) g2 (by omega) (by rw [e2]; exact hL2) ((hq2 b hbB).trans hs)
        rw [e3] at zz
        exact zz
      by_cases k32_13 : kd = 13
      · rw [k32_13]
        refine zp_tableIn (x := 13) (tgt := 529) (pc := 32) d_Lw_law_32 ⟨by decide, by decide⟩ (by decide) (by decide) rfl (by decide) ?_
        refine wp_aload_n (pc := 529) d_Lw_law_529 rfl ?_
        refine wv_callV (n := 0) (As := []) (pc := 530) d_Lw_law_530 s_Lw_70 q_Yt_claimAll ⟨Nat.le_of_ble_eq_true rfl, Nat.le_of_ble_eq_true rfl⟩ hyt rfl rfl rfl rfl (Nat.le_of_ble_eq_true rfl) (Nat.le_of_ble_eq_true rfl) ?_
        refine Wp.mono (fun r g1 hr => ?_) (st_claimAll hE hB (by omega) hLW )
        obtain ⟨z, rfl, hq1, ⟨fs1, hm1⟩, hr⟩ := hr
        have hs1 := (hq1 b hbB).trans hs
        refine ⟨_, rfl, ?_⟩
        refine wp_aload_n (pc := 533) d_Lw_law_533 rfl ?_
        refine wv_callV (n := 0) (As := []) (pc := 534) d_Lw_law_534 s_Lw_73 q_Md_claimAll ⟨Nat.le_of_ble_eq_true rfl, Nat.le_of_ble_eq_true rfl⟩ hm1 rfl rfl rfl rfl (Nat.le_of_ble_eq_true rfl) (Nat.le_of_ble_eq_true rfl) ?_
        refine Wp.mono (fun r g2 hr2 => ?_) hr
        obtain ⟨rfl, hq2, hL2⟩ := hr2
        refine ⟨_, rfl, ?_⟩
        refine wp_icmp_eq (tgt := 838) (pc := 537) d_Lw_law_537 (by decide) (fun _ => ?_) (fun q => absurd rfl q)
        refine st_c3 (pc := 838) d_Lw_law_838 (Nat.le_of_ble_eq_true rfl) ?_
        refine wp_goto (tgt := 18) (pc := 841) d_Lw_law_841 (by decide) ?_
        have zz := ih (c + 1) g2 (by omega) (by rw [e2]; exact hL2) ((hq2 b hbB).trans hs)
        rw [e3] at zz
        exact zz
      by_cases k32_14 : kd = 14
      · rw [k32_14]
        refine zp_tableIn (x := 14) (tgt := 542) (pc := 32) d_Lw_law_32 ⟨by decide, by decide⟩ (by decide) (by decide) rfl (by decide) ?_
        refine wp_aload_n (pc := 542) d_Lw_law_542 rfl ?_
        refine wv_callV (n := 0) (As := []) (pc := 543) d_Lw_law_543 s_Lw_74 q_Yt_undo ⟨Nat.le_of_ble_eq_true rfl, Nat.le_of_ble_eq_true rfl⟩ hyt rfl rfl rfl rfl (Nat.le_of_ble_eq_true rfl) (Nat.le_of_ble_eq_true rfl) ?_
        refine Wp.mono (fun r g1 hr => ?_) (st_undo hE hB (by omega) hLW )
        obtain ⟨z, rfl, hq1, ⟨fs1, hm1⟩, hr⟩ := hr
        have hs1 := (hq1 b hbB).trans hs
        refine ⟨_, rfl, ?_⟩
        refine wp_aload_n (pc := 546) d_Lw_law_546 rfl ?_
        refine wv_callV (n := 0) (As := []) (pc := 547) d_Lw_law_547 s_Lw_77 q_Md_undo ⟨Nat.le_of_ble_eq_true rfl, Nat.le_of_ble_eq_true rfl⟩ hm1 rfl rfl rfl rfl (Nat.le_of_ble_eq_true rfl) (Nat.le_of_ble_eq_true rfl) ?_
        refine Wp.mono (fun r g2 hr2 => ?_) hr
        obtain ⟨rfl, hq2, hL2⟩ := hr2
        refine ⟨_, rfl, ?_⟩
        refine wp_icmp_eq (tgt := 838) (pc := 550) d_Lw_law_550 (by decide) (fun _ => ?_) (fun q => absurd rfl q)
        refine st_c3 (pc := 838) d_Lw_law_838 (Nat.le_of_ble_eq_true rfl) ?_
        refine wp_goto (tgt := 18) (pc := 841) d_Lw_law_841 (by decide) ?_
        have zz := ih (c + 1) g2 (by omega) (by rw [e2]; exact hL2) ((hq2 b hbB).trans hs)
        rw [e3] at zz
        exact zz
      by_cases k32_15 : kd = 15
      · rw [k32_15]
        refine zp_tableIn (x := 15) (tgt := 555) (pc := 32) d_Lw_law_32 ⟨by decide, by decide⟩ (by decide) (by decide) rfl (by decide) ?_
        refine wp_aload_n (pc := 555) d_Lw_law_555 rfl ?_
        refine wv_callV (n := 0) (As := []) (pc := 556) d_Lw_law_556 s_Lw_78 q_Yt_keep ⟨Nat.le_of_ble_eq_true rfl, Nat.le_of_ble_eq_true rfl⟩ hyt rfl rfl rfl rfl (Nat.le_of_ble_eq_true rfl) (Nat.le_of_ble_eq_true rfl) ?_
        refine Wp.mono (fun r g1 hr => ?_) (st_keep hE hB (by omega) hLW )
        obtain ⟨z, rfl, hq1, ⟨fs1, hm1⟩, hr⟩ := hr
        have hs1 := (hq1 b hbB).trans hs
        refine ⟨_, rfl, ?_⟩
        refine wp_aload_n (pc := 559) d_Lw_law_559 rfl ?_
        refine wv_callV (n := 0) (As := []) (pc := 560) d_Lw_law_560 s_Lw_81 q_Md_keep ⟨Nat.le_of_ble_eq_true rfl, Nat.le_of_ble_eq_true rfl⟩ hm1 rfl rfl rfl rfl (Nat.le_of_ble_eq_true rfl) (Nat.le_of_ble_eq_true rfl) ?_
        refine Wp.mono (fun r g2 hr2 => ?_) hr
        obtain ⟨rfl, hq2, hL2⟩ := hr2
        refine ⟨_, rfl, ?_⟩
        refine wp_icmp_eq (tgt := 838) (pc := 563) d_Lw_law_563 (by decide) (fun _ => ?_) (fun q => absurd rfl q)
        refine st_c3 (pc := 838) d_Lw_law_838 (Nat.le_of_ble_eq_true rfl) ?_
        refine wp_goto (tgt := 18) (pc := 841) d_Lw_law_841 (by decide) ?_
        have zz := ih (c + 1) g2 (by omega) (by rw [e2]; exact hL2) ((hq2 b hbB).trans hs)
        rw [e3] at zz
        exact zz
      by_cases k32_16 : kd = 16
      · rw [k32_16]
        refine zp_tableIn (x := 16) (tgt := 568) (pc := 32) d_Lw_law_32 ⟨by decide, by decide⟩ (by decide) (by decide) rfl (by decide) ?_
        refine wp_aload_n (pc := 568) d_Lw_law_568 rfl ?_
        refine wv_callV (n := 0) (As := []) (pc := 569) d_Lw_law_569 s_Lw_82 q_Yt_restore ⟨Nat.le_of_ble_eq_true rfl, Nat.le_of_ble_eq_true rfl⟩ hyt rfl rfl rfl rfl (Nat.le_of_ble_eq_true rfl) (Nat.le_of_ble_eq_true rfl) ?_
        refine Wp.mono (fun r g1 hr => ?_) (st_restore hE hB (by omega) hLW )
        obtain ⟨z, rfl, hq1, ⟨fs1, hm1⟩, hr⟩ := hr
        have hs1 := (hq1 b hbB).trans hs
        refine ⟨_, rfl, ?_⟩
        refine wp_aload_n (pc := 572) d_Lw_law_572 rfl ?_
        refine wv_callV (n := 0) (As := []) (pc := 573) d_Lw_law_573 s_Lw_85 q_Md_restore ⟨Nat.le_of_ble_eq_true rfl, Nat.le_of_ble_eq_true rfl⟩ hm1 rfl rfl rfl rfl (Nat.le_of_ble_eq_true rfl) (Nat.le_of_ble_eq_true rfl) ?_
        refine Wp.mono (fun r g2 hr2 => ?_) hr
        obtain ⟨rfl, hq2, hL2⟩ := hr2
        refine ⟨_, rfl, ?_⟩
        refine wp_icmp_eq (tgt := 838) (pc := 576) d_Lw_law_576 (by decide) (fun _ => ?_) (fun q => absurd rfl q)
        refine st_c3 (pc := 838) d_Lw_law_838 (Nat.le_of_ble_eq_true rfl) ?_
        refine wp_goto (tgt := 18) (pc := 841) d_Lw_law_841 (by decide) ?_
        have zz := ih (c + 1) g2 (by omega) (by rw [e2]; exact hL2) ((hq2 b hbB).trans hs)
        rw [e3] at zz
        exact zz
      by_cases k32_17 : kd = 17
      · rw [k32_17]
        refine zp_tableIn (x := 17) (tgt := 581) (pc := 32) d_Lw_law_32 ⟨by decide, by decide⟩ (by decide) (by decide) rfl (by decide) ?_
        refine wp_aload_n (pc := 581) d_Lw_law_581 rfl ?_
        refine wp_aload_n (pc := 582) d_Lw_law_582 rfl ?_
        refine wp_iload_n (pc := 583) d_Lw_law_583 rfl ?_
        refine wp_iconst (pc := 584) d_Lw_law_584 ?_
        refine zp_iadd (pc := 585) d_Lw_law_585 ?_
        refine zp_saload (pc := 586) d_Lw_law_586 hs hE.2.2.2.2.2 (by omega) (by omega) (by omega) ?_
        refine wp_aload_n (pc := 587) d_Lw_law_587 rfl ?_
        refine wp_iload_n (pc := 588) d_Lw_law_588 rfl ?_
        refine wp_iconst (pc := 589) d_Lw_law_589 ?_
        refine zp_iadd (pc := 590) d_Lw_law_590 ?_
        refine zp_saload (pc := 591) d_Lw_law_591 hs hE.2.2.2.2.2 (by omega) (by omega) (by omega) ?_
        refine wv_callV (n := 2) (As := [_, _]) (pc := 592) d_Lw_law_592 s_Lw_86 q_Yt_rack ⟨Nat.le_of_ble_eq_true rfl, Nat.le_of_ble_eq_true rfl⟩ hyt rfl rfl rfl rfl (Nat.le_of_ble_eq_true rfl) (Nat.le_of_ble_eq_true rfl) ?_
        refine Wp.mono (fun r g1 hr => ?_) (st_rack hE hB (by omega) hLW (rx _) (rx _))
        obtain ⟨z, rfl, hq1, ⟨fs1, hm1⟩, hr⟩ := hr
        have hs1 := (hq1 b hbB).trans hs
        refine ⟨_, rfl, ?_⟩
        refine wp_aload_n (pc := 595) d_Lw_law_595 rfl ?_
        refine wp_aload_n (pc := 596) d_Lw_law_596 rfl ?_
        refine wp_iload_n (pc := 597) d_Lw_law_597 rfl ?_
        refine wp_iconst (pc := 598) d_Lw_law_598 ?_
        refine zp_iadd (pc := 599) d_Lw_law_599 ?_
        refine zp_saload (pc := 600) d_Lw_law_600 hs1 hE.2.2.2.2.2 (by omega) (by omega) (by omega) ?_
        refine wp_aload_n (pc := 601) d_Lw_law_601 rfl ?_
        refine wp_iload_n (pc := 602) d_Lw_law_602 rfl ?_
        refine wp_iconst (pc := 603) d_Lw_law_603 ?_
        refine zp_iadd (pc := 604) d_Lw_law_604 ?_
        refine zp_saload (pc := 605) d_Lw_law_605 hs1 hE.2.2.2.2.2 (by omega) (by omega) (by omega) ?_
        refine wv_callV (n := 2) (As := [_, _]) (pc := 606) d_Lw_law_606 s_Lw_89 q_Md_rack ⟨Nat.le_of_ble_eq_true rfl, Nat.le_of_ble_eq_true rfl⟩ hm1 rfl rfl rfl rfl (Nat.le_of_ble_eq_true rfl) (Nat.le_of_ble_eq_true rfl) ?_
        refine Wp.mono (fun r g2 hr2 => ?_) hr
        obtain ⟨rfl, hq2, hL2⟩ := hr2
        refine ⟨_, rfl, ?_⟩
        refine wp_icmp_eq (tgt := 838) (pc := 609) d_Lw_law_609 (by decide) (fun _ => ?_) (fun q => absurd rfl q)
        refine st_c3 (pc := 838) d_Lw_law_838 (Nat.le_of_ble_eq_true rfl) ?_
        refine wp_goto (tgt := 18) (pc := 841) d_Lw_law_841 (by decide) ?_
        have zz := ih (c + 1) g2 (by omega) (by rw [e2]; exact hL2) ((hq2 b hbB).trans hs)
        rw [e3] at zz
        exact zz
      by_cases k32_18 : kd = 18
      · rw [k32_18]
        refine zp_tableIn (x := 18) (tgt := 614) (pc := 32) d_Lw_law_32 ⟨by decide, by decide⟩ (by decide) (by decide) rfl (by decide) ?_
        refine wp_aload_n (pc := 614) d_Lw_law_614 rfl ?_
        refine wp_aload_n (pc := 615) d_Lw_law_615 rfl ?_
        refine wp_iload_n (pc := 616) d_Lw_law_616 rfl ?_
        refine wp_iconst (pc := 617) d_Lw_law_617 ?_
        refine zp_iadd (pc := 618) d_Lw_law_618 ?_
        refine zp_saload (pc := 619) d_Lw_law_619 hs hE.2.2.2.2.2 (by omega) (by omega) (by omega) ?_
        refine wp_aload_n (pc := 620) d_Lw_law_620 rfl ?_
        refine wp_iload_n (pc := 621) d_Lw_law_621 rfl ?_
        refine wp_iconst (pc := 622) d_Lw_law_622 ?_
        refine zp_iadd (pc := 623) d_Lw_law_623 ?_
        refine zp_saload (pc := 624) d_Lw_law_624 hs hE.2.2.2.2.2 (by omega) (by omega) (by omega) ?_
        refine wv_callV (n := 2) (As := [_, _]) (pc := 625) d_Lw_law_625 s_Lw_90 q_Yt_hook ⟨Nat.le_of_ble_eq_true rfl, Nat.le_of_ble_eq_true rfl⟩ hyt rfl rfl rfl rfl (Nat.le_of_ble_eq_true rfl) (Nat.le_of_ble_eq_true rfl) ?_
        refine Wp.mono (fun r g1 hr => ?_) (st_hook hE hB (by omega) hLW (rx _) (rx _))
        obtain ⟨z, rfl, hq1, ⟨fs1, hm1⟩, hr⟩ := hr
        have hs1 := (hq1 b hbB).trans hs
        refine ⟨_, rfl, ?_⟩
        refine wp_aload_n (pc := 628) d_Lw_law_628 rfl ?_
        refine wp_aload_n (pc := 629) d_Lw_law_629 rfl ?_
        refine wp_iload_n (pc := 630) d_Lw_law_630 rfl ?_
        refine wp_iconst (pc := 631) d_Lw_law_631 ?_
        refine zp_iadd (pc := 632) d_Lw_law_632 ?_
        refine zp_saload (pc := 633) d_Lw_law_633 hs1 hE.2.2.2.2.2 (by omega) (by omega) (by omega) ?_
        refine wp_aload_n (pc := 634) d_Lw_law_634 rfl ?_
        refine wp_iload_n (pc := 635) d_Lw_law_635 rfl ?_
        refine wp_iconst (pc := 636) d_Lw_law_636 ?_
        refine zp_iadd (pc := 637) d_Lw_law_637 ?_
        refine zp_saload (pc := 638) d_Lw_law_638 hs1 hE.2.2.2.2.2 (by omega) (by omega) (by omega) ?_
        refine wv_callV (n := 2) (As := [_, _]) (pc := 639) d_Lw_law_639 s_Lw_93 q_Md_hook ⟨Nat.le_of_ble_eq_true rfl, Nat.le_of_ble_eq_true rfl⟩ hm1 rfl rfl rfl rfl (Nat.le_of_ble_eq_true rfl) (Nat.le_of_ble_eq_true rfl) ?_
        refine Wp.mono (fun r g2 hr2 => ?_) hr
        obtain ⟨rfl, hq2, hL2⟩ := hr2
        refine ⟨_, rfl, ?_⟩
        refine wp_icmp_eq (tgt := 838) (pc := 642) d_Lw_law_642 (by decide) (fun _ => ?_) (fun q => absurd rfl q)
        refine st_c3 (pc := 838) d_Lw_law_838 (Nat.le_of_ble_eq_true rfl) ?_
        refine wp_goto (tgt := 18) (pc := 841) d_Lw_law_841 (by decide) ?_
        have zz := ih (c + 1) g2 (by omega) (by rw [e2]; exact hL2) ((hq2 b hbB).trans hs)
        rw [e3] at zz
        exact zz
      by_cases k32_19 : kd = 19
      · rw [k32_19]
        refine zp_tableIn (x := 19) (tgt := 647) (pc := 32) d_Lw_law_32 ⟨by decide, by decide⟩ (by decide) (by decide) rfl (by decide) ?_
        refine wp_aload_n (pc := 647) d_Lw_law_647 rfl ?_
        refine wp_aload_n (pc := 648) d_Lw_law_648 rfl ?_
        refine wp_iload_n (pc := 649) d_Lw_law_649 rfl ?_
        refine wp_iconst (pc := 650) d_Lw_law_650 ?_
        refine zp_iadd (pc := 651) d_Lw_law_651 ?_
        refine zp_saload (pc := 652) d_Lw_law_652 hs hE.2.2.2.2.2 (by omega) (by omega) (by omega) ?_
        refine wp_aload_n (pc := 653) d_Lw_law_653 rfl ?_
        refine wp_iload_n (pc := 654) d_Lw_law_654 rfl ?_
        refine wp_iconst (pc := 655) d_Lw_law_655 ?_
        refine zp_iadd (pc := 656) d_Lw_law_656 ?_
        refine zp_saload (pc := 657) d_Lw_law_657 hs hE.2.2.2.2.2 (by omega) (by omega) (by omega) ?_
        refine wv_callV (n := 2) (As := [_, _]) (pc := 658) d_Lw_law_658 s_Lw_94 q_Yt_tag ⟨Nat.le_of_ble_eq_true rfl, Nat.le_of_ble_eq_true rfl⟩ hyt rfl rfl rfl rfl (Nat.le_of_ble_eq_true rfl) (Nat.le_of_ble_eq_true rfl) ?_
        refine Wp.mono (fun r g1 hr => ?_) (st_tag hE hB (by omega) hLW (rx _) (rx _))
        obtain ⟨z, rfl, hq1, ⟨fs1, hm1⟩, hr⟩ := hr
        have hs1 := (hq1 b hbB).trans hs
        refine ⟨_, rfl, ?_⟩
        refine wp_aload_n (pc := 661) d_Lw_law_661 rfl ?_
        refine wp_aload_n (pc := 662) d_Lw_law_662 rfl ?_
        refine wp_iload_n (pc := 663) d_Lw_law_663 rfl ?_
        refine wp_iconst (pc := 664) d_Lw_law_664 ?_
        refine zp_iadd (pc := 665) d_Lw_law_665 ?_
        refine zp_saload (pc := 666) d_Lw_law_666 hs1 hE.2.2.2.2.2 (by omega) (by omega) (by omega) ?_
        refine wp_aload_n (pc := 667) d_Lw_law_667 rfl ?_
        refine wp_iload_n (pc := 668) d_Lw_law_668 rfl ?_
        refine wp_iconst (pc := 669) d_Lw_law_669 ?_
        refine zp_iadd (pc := 670) d_Lw_law_670 ?_
        refine zp_saload (pc := 671) d_Lw_law_671 hs1 hE.2.2.2.2.2 (by omega) (by omega) (by omega) ?_
        refine wv_callV (n := 2) (As := [_, _]) (pc := 672) d_Lw_law_672 s_Lw_97 q_Md_tag ⟨Nat.le_of_ble_eq_true rfl, Nat.le_of_ble_eq_true rfl⟩ hm1 rfl rfl rfl rfl (Nat.le_of_ble_eq_true rfl) (Nat.le_of_ble_eq_true rfl) ?_
        refine Wp.mono (fun r g2 hr2 => ?_) hr
        obtain ⟨rfl, hq2, hL2⟩ := hr2
        refine ⟨_, rfl, ?_⟩
        refine wp_icmp_eq (tgt := 838) (pc := 675) d_Lw_law_675 (by decide) (fun _ => ?_) (fun q => absurd rfl q)
        refine st_c3 (pc := 838) d_Lw_law_838 (Nat.le_of_ble_eq_true rfl) ?_
        refine wp_goto (tgt := 18) (pc := 841) d_Lw_law_841 (by decide) ?_
        have zz := ih (c + 1) g2 (by omega) (by rw [e2]; exact hL2) ((hq2 b hbB).trans hs)
        rw [e3] at zz
        exact zz
      by_cases k32_20 : kd = 20
      · rw [k32_20]
        refine zp_tableIn (x := 20) (tgt := 680) (pc := 32) d_Lw_law_32 ⟨by decide, by decide⟩ (by decide) (by decide) rfl (by decide) ?_
        refine wp_aload_n (pc := 680) d_Lw_law_680 rfl ?_
        refine wp_aload_n (pc := 681) d_Lw_law_681 rfl ?_
        refine wp_iload_n (pc := 682) d_Lw_law_682 rfl ?_
        refine wp_iconst (pc := 683) d_Lw_law_683 ?_
        refine zp_iadd (pc := 684) d_Lw_law_684 ?_
        refine zp_saload (pc := 685) d_Lw_law_685 hs hE.2.2.2.2.2 (by omega) (by omega) (by omega) ?_
        refine wv_callV (n := 1) (As := [_]) (pc := 686) d_Lw_law_686 s_Lw_98 q_Yt_tagOf ⟨Nat.le_of_ble_eq_true rfl, Nat.le_of_ble_eq_true rfl⟩ hyt rfl rfl rfl rfl (Nat.le_of_ble_eq_true rfl) (Nat.le_of_ble_eq_true rfl) ?_
        refine Wp.mono (fun r g1 hr => ?_) (st_tagOf hE hB (by omega) hLW (rx _))
        obtain ⟨z, rfl, hq1, ⟨fs1, hm1⟩, hr⟩ := hr
        have hs1 := (hq1 b hbB).trans hs
        refine ⟨_, rfl, ?_⟩
        refine wp_aload_n (pc := 689) d_Lw_law_689 rfl ?_
        refine wp_aload_n (pc := 690) d_Lw_law_690 rfl ?_
        refine wp_iload_n (pc := 691) d_Lw_law_691 rfl ?_
        refine wp_iconst (pc := 692) d_Lw_law_692 ?_
        refine zp_iadd (pc := 693) d_Lw_law_693 ?_
        refine zp_saload (pc := 694) d_Lw_law_694 hs1 hE.2.2.2.2.2 (by omega) (by omega) (by omega) ?_
        refine wv_callV (n := 1) (As := [_]) (pc := 695) d_Lw_law_695 s_Lw_101 q_Md_tagOf ⟨Nat.le_of_ble_eq_true rfl, Nat.le_of_ble_eq_true rfl⟩ hm1 rfl rfl rfl rfl (Nat.le_of_ble_eq_true rfl) (Nat.le_of_ble_eq_true rfl) ?_
        refine Wp.mono (fun r g2 hr2 => ?_) hr
        obtain ⟨rfl, hq2, hL2⟩ := hr2
        refine ⟨_, rfl, ?_⟩
        refine wp_icmp_eq (tgt := 838) (pc := 698) d_Lw_law_698 (by decide) (fun _ => ?_) (fun q => absurd rfl q)
        refine st_c3 (pc := 838) d_Lw_law_838 (Nat.le_of_ble_eq_true rfl) ?_
        refine wp_goto (tgt := 18) (pc := 841) d_Lw_law_841 (by decide) ?_
        have zz := ih (c + 1) g2 (by omega) (by rw [e2]; exact hL2) ((hq2 b hbB).trans hs)
        rw [e3] at zz
        exact zz
      by_cases k32_21 : kd = 21
      · rw [k32_21]
        refine zp_tableIn (x := 21) (tgt := 703) (pc := 32) d_Lw_law_32 ⟨by decide, by decide⟩ (by decide) (by decide) rfl (by decide) ?_
        refine wp_aload_n (pc := 703) d_Lw_law_703 rfl ?_
        refine wp_aload_n (pc := 704) d_Lw_law_704 rfl ?_
        refine wp_iload_n (pc := 705) d_Lw_law_705 rfl ?_
        refine wp_iconst (pc := 706) d_Lw_law_706 ?_
        refine zp_iadd (pc := 707) d_Lw_law_707 ?_
        refine zp_saload (pc := 708) d_Lw_law_708 hs hE.2.2.2.2.2 (by omega) (by omega) (by omega) ?_
        refine wp_aload_n (pc := 709) d_Lw_law_709 rfl ?_
        refine wp_iload_n (pc := 710) d_Lw_law_710 rfl ?_
        refine wp_iconst (pc := 711) d_Lw_law_711 ?_
        refine zp_iadd (pc := 712) d_Lw_law_712 ?_
        refine zp_saload (pc := 713) d_Lw_law_713 hs hE.2.2.2.2.2 (by omega) (by omega) (by omega) ?_
        refine wv_callV (n := 2) (As := [_, _]) (pc := 714) d_Lw_law_714 s_Lw_102 q_Yt_guest ⟨Nat.le_of_ble_eq_true rfl, Nat.le_of_ble_eq_true rfl⟩ hyt rfl rfl rfl rfl (Nat.le_of_ble_eq_true rfl) (Nat.le_of_ble_eq_true rfl) ?_
        refine Wp.mono (fun r g1 hr => ?_) (st_guest hE hB (by omega) hLW (rx _) (rx _))
        obtain ⟨z, rfl, hq1, ⟨fs1, hm1⟩, hr⟩ := hr
        have hs1 := (hq1 b hbB).trans hs
        refine ⟨_, rfl, ?_⟩
        refine wp_aload_n (pc := 717) d_Lw_law_717 rfl ?_
        refine wp_aload_n (pc := 718) d_Lw_law_718 rfl ?_
        refine wp_iload_n (pc := 719) d_Lw_law_719 rfl ?_
        refine wp_iconst (pc := 720) d_Lw_law_720 ?_
        refine zp_iadd (pc := 721) d_Lw_law_721 ?_
        refine zp_saload (pc := 722) d_Lw_law_722 hs1 hE.2.2.2.2.2 (by omega) (by omega) (by omega) ?_
        refine wp_aload_n (pc := 723) d_Lw_law_723 rfl ?_
        refine wp_iload_n (pc := 724) d_Lw_law_724 rfl ?_
        refine wp_iconst (pc := 725) d_Lw_law_725 ?_
        refine zp_iadd (pc := 726) d_Lw_law_726 ?_
        refine zp_saload (pc := 727) d_Lw_law_727 hs1 hE.2.2.2.2.2 (by omega) (by omega) (by omega) ?_
        refine wv_callV (n := 2) (As := [_, _]) (pc := 728) d_Lw_law_728 s_Lw_105 q_Md_guest ⟨Nat.le_of_ble_eq_true rfl, Nat.le_of_ble_eq_true rfl⟩ hm1 rfl rfl rfl rfl (Nat.le_of_ble_eq_true rfl) (Nat.le_of_ble_eq_true rfl) ?_
        refine Wp.mono (fun r g2 hr2 => ?_) hr
        obtain ⟨rfl, hq2, hL2⟩ := hr2
        refine ⟨_, rfl, ?_⟩
        refine wp_icmp_eq (tgt := 838) (pc := 731) d_Lw_law_731 (by decide) (fun _ => ?_) (fun q => absurd rfl q)
        refine st_c3 (pc := 838) d_Lw_law_838 (Nat.le_of_ble_eq_true rfl) ?_
        refine wp_goto (tgt := 18) (pc := 841) d_Lw_law_841 (by decide) ?_
        have zz := ih (c + 1) g2 (by omega) (by rw [e2]; exact hL2) ((hq2 b hbB).trans hs)
        rw [e3] at zz
        exact zz
      by_cases k32_22 : kd = 22
      · rw [k32_22]
        refine zp_tableIn (x := 22) (tgt := 736) (pc := 32) d_Lw_law_32 ⟨by decide, by decide⟩ (by decide) (by decide) rfl (by decide) ?_
        refine wp_aload_n (pc := 736) d_Lw_law_736 rfl ?_
        refine wp_aload_n (pc := 737) d_Lw_law_737 rfl ?_
        refine wp_iload_n (pc := 738) d_Lw_law_738 rfl ?_
        refine wp_iconst (pc := 739) d_Lw_law_739 ?_
        refine zp_iadd (pc := 740) d_Lw_law_740 ?_
        refine zp_saload (pc := 741) d_Lw_law_741 hs hE.2.2.2.2.2 (by omega) (by omega) (by omega) ?_
        refine wv_callV (n := 1) (As := [_]) (pc := 742) d_Lw_law_742 s_Lw_106 q_Yt_next ⟨Nat.le_of_ble_eq_true rfl, Nat.le_of_ble_eq_true rfl⟩ hyt rfl rfl rfl rfl (Nat.le_of_ble_eq_true rfl) (Nat.le_of_ble_eq_true rfl) ?_
        refine Wp.mono (fun r g1 hr => ?_) (st_next hE hB (by omega) hLW (rx _))
        obtain ⟨z, rfl, hq1, ⟨fs1, hm1⟩, hr⟩ := hr
        have hs1 := (hq1 b hbB).trans hs
        refine ⟨_, rfl, ?_⟩
        refine wp_aload_n (pc := 745) d_Lw_law_745 rfl ?_
        refine wp_aload_n (pc := 746) d_Lw_law_746 rfl ?_
        refine wp_iload_n (pc := 747) d_Lw_law_747 rfl ?_
        refine wp_iconst (pc := 748) d_Lw_law_748 ?_
        refine zp_iadd (pc := 749) d_Lw_law_749 ?_
        refine zp_saload (pc := 750) d_Lw_law_750 hs1 hE.2.2.2.2.2 (by omega) (by omega) (by omega) ?_
        refine wv_callV (n := 1) (As := [_]) (pc := 751) d_Lw_law_751 s_Lw_109 q_Md_next ⟨Nat.le_of_ble_eq_true rfl, Nat.le_of_ble_eq_true rfl⟩ hm1 rfl rfl rfl rfl (Nat.le_of_ble_eq_true rfl) (Nat.le_of_ble_eq_true rfl) ?_
        refine Wp.mono (fun r g2 hr2 => ?_) hr
        obtain ⟨rfl, hq2, hL2⟩ := hr2
        refine ⟨_, rfl, ?_⟩
        refine wp_icmp_eq (tgt := 838) (pc := 754) d_Lw_law_754 (by decide) (fun _ => ?_) (fun q => absurd rfl q)
        refine st_c3 (pc := 838) d_Lw_law_838 (Nat.le_of_ble_eq_true rfl) ?_
        refine wp_goto (tgt := 18) (pc := 841) d_Lw_law_841 (by decide) ?_
        have zz := ih (c + 1) g2 (by omega) (by rw [e2]; exact hL2) ((hq2 b hbB).trans hs)
        rw [e3] at zz
        exact zz
      by_cases k32_23 : kd = 23
      · rw [k32_23]
        refine zp_tableIn (x := 23) (tgt := 759) (pc := 32) d_Lw_law_32 ⟨by decide, by decide⟩ (by decide) (by decide) rfl (by decide) ?_
        refine wp_aload_n (pc := 759) d_Lw_law_759 rfl ?_
        refine wp_aload_n (pc := 760) d_Lw_law_760 rfl ?_
        refine wp_iload_n (pc := 761) d_Lw_law_761 rfl ?_
        refine wp_iconst (pc := 762) d_Lw_law_762 ?_
        refine zp_iadd (pc := 763) d_Lw_law_763 ?_
        refine zp_saload (pc := 764) d_Lw_law_764 hs hE.2.2.2.2.2 (by omega) (by omega) (by omega) ?_
        refine wv_callV (n := 1) (As := [_]) (pc := 765) d_Lw_law_765 s_Lw_110 q_Yt_due ⟨Nat.le_of_ble_eq_true rfl, Nat.le_of_ble_eq_true rfl⟩ hyt rfl rfl rfl rfl (Nat.le_of_ble_eq_true rfl) (Nat.le_of_ble_eq_true rfl) ?_
        refine Wp.mono (fun r g1 hr => ?_) (st_due hE hB (by omega) hLW (rx _))
        obtain ⟨z, rfl, hq1, ⟨fs1, hm1⟩, hr⟩ := hr
        have hs1 := (hq1 b hbB).trans hs
        refine ⟨_, rfl, ?_⟩
        refine wp_aload_n (pc := 768) d_Lw_law_768 rfl ?_
        refine wp_aload_n (pc := 769) d_Lw_law_769 rfl ?_
        refine wp_iload_n (pc := 770) d_Lw_law_770 rfl ?_
        refine wp_iconst (pc := 771) d_Lw_law_771 ?_
        refine zp_iadd (pc := 772) d_Lw_law_772 ?_
        refine zp_saload (pc := 773) d_Lw_law_773 hs1 hE.2.2.2.2.2 (by omega) (by omega) (by omega) ?_
        refine wv_callV (n := 1) (As := [_]) (pc := 774) d_Lw_law_774 s_Lw_113 q_Md_due ⟨Nat.le_of_ble_eq_true rfl, Nat.le_of_ble_eq_true rfl⟩ hm1 rfl rfl rfl rfl (Nat.le_of_ble_eq_true rfl) (Nat.le_of_ble_eq_true rfl) ?_
        refine Wp.mono (fun r g2 hr2 => ?_) hr
        obtain ⟨rfl, hq2, hL2⟩ := hr2
        refine ⟨_, rfl, ?_⟩
        refine wp_icmp_eq (tgt := 838) (pc := 777) d_Lw_law_777 (by decide) (fun _ => ?_) (fun q => absurd rfl q)
        refine st_c3 (pc := 838) d_Lw_law_838 (Nat.le_of_ble_eq_true rfl) ?_
        refine wp_goto (tgt := 18) (pc := 841) d_Lw_law_841 (by decide) ?_
        have zz := ih (c + 1) g2 (by omega) (by rw [e2]; exact hL2) ((hq2 b hbB).trans hs)
        rw [e3] at zz
        exact zz
      by_cases k32_24 : kd = 24
      · rw [k32_24]
        refine zp_tableIn (x := 24) (tgt := 782) (pc := 32) d_Lw_law_32 ⟨by decide, by decide⟩ (by decide) (by decide) rfl (by decide) ?_
        refine wp_aload_n (pc := 782) d_Lw_law_782 rfl ?_
        refine wp_aload_n (pc := 783) d_Lw_law_783 rfl ?_
        refine wp_iload_n (pc := 784) d_Lw_law_784 rfl ?_
        refine wp_iconst (pc := 785) d_Lw_law_785 ?_
        refine zp_iadd (pc := 786) d_Lw_law_786 ?_
        refine zp_saload (pc := 787) d_Lw_law_787 hs hE.2.2.2.2.2 (by omega) (by omega) (by omega) ?_
        refine wp_aload_n (pc := 788) d_Lw_law_788 rfl ?_
        refine wp_iload_n (pc := 789) d_Lw_law_789 rfl ?_
        refine wp_iconst (pc := 790) d_Lw_law_790 ?_
        refine zp_iadd (pc := 791) d_Lw_law_791 ?_
        refine zp_saload (pc := 792) d_Lw_law_792 hs hE.2.2.2.2.2 (by omega) (by omega) (by omega) ?_
        refine wv_callV (n := 2) (As := [_, _]) (pc := 793) d_Lw_law_793 s_Lw_114 q_Yt_event ⟨Nat.le_of_ble_eq_true rfl, Nat.le_of_ble_eq_true rfl⟩ hyt rfl rfl rfl rfl (Nat.le_of_ble_eq_true rfl) (Nat.le_of_ble_eq_true rfl) ?_
        refine Wp.mono (fun r g1 hr => ?_) (st_event hE hB (by omega) hLW (rx _) (rx _))
        obtain ⟨z, rfl, hq1, ⟨fs1, hm1⟩, hr⟩ := hr
        have hs1 := (hq1 b hbB).trans hs
        refine ⟨_, rfl, ?_⟩
        refine wp_aload_n (pc := 796) d_Lw_law_796 rfl ?_
        refine wp_aload_n (pc := 797) d_Lw_law_797 rfl ?_
        refine wp_iload_n (pc := 798) d_Lw_law_798 rfl ?_
        refine wp_iconst (pc := 799) d_Lw_law_799 ?_
        refine zp_iadd (pc := 800) d_Lw_law_800 ?_
        refine zp_saload (pc := 801) d_Lw_law_801 hs1 hE.2.2.2.2.2 (by omega) (by omega) (by omega) ?_
        refine wp_aload_n (pc := 802) d_Lw_law_802 rfl ?_
        refine wp_iload_n (pc := 803) d_Lw_law_803 rfl ?_
        refine wp_iconst (pc := 804) d_Lw_law_804 ?_
        refine zp_iadd (pc := 805) d_Lw_law_805 ?_
        refine zp_saload (pc := 806) d_Lw_law_806 hs1 hE.2.2.2.2.2 (by omega) (by omega) (by omega) ?_
        refine wv_callV (n := 2) (As := [_, _]) (pc := 807) d_Lw_law_807 s_Lw_117 q_Md_event ⟨Nat.le_of_ble_eq_true rfl, Nat.le_of_ble_eq_true rfl⟩ hm1 rfl rfl rfl rfl (Nat.le_of_ble_eq_true rfl) (Nat.le_of_ble_eq_true rfl) ?_
        refine Wp.mono (fun r g2 hr2 => ?_) hr
        obtain ⟨rfl, hq2, hL2⟩ := hr2
        refine ⟨_, rfl, ?_⟩
        refine wp_icmp_eq (tgt := 838) (pc := 810) d_Lw_law_810 (by decide) (fun _ => ?_) (fun q => absurd rfl q)
        refine st_c3 (pc := 838) d_Lw_law_838 (Nat.le_of_ble_eq_true rfl) ?_
        refine wp_goto (tgt := 18) (pc := 841) d_Lw_law_841 (by decide) ?_
        have zz := ih (c + 1) g2 (by omega) (by rw [e2]; exact hL2) ((hq2 b hbB).trans hs)
        rw [e3] at zz
        exact zz
      by_cases k32_25 : kd = 25
      · rw [k32_25]
        refine zp_tableIn (x := 25) (tgt := 815) (pc := 32) d_Lw_law_32 ⟨by decide, by decide⟩ (by decide) (by decide) rfl (by decide) ?_
        refine wp_aload_n (pc := 815) d_Lw_law_815 rfl ?_
        refine wp_aload_n (pc := 816) d_Lw_law_816 rfl ?_
        refine wp_iload_n (pc := 817) d_Lw_law_817 rfl ?_
        refine wp_iconst (pc := 818) d_Lw_law_818 ?_
        refine zp_iadd (pc := 819) d_Lw_law_819 ?_
        refine zp_saload (pc := 820) d_Lw_law_820 hs hE.2.2.2.2.2 (by omega) (by omega) (by omega) ?_
        refine wv_callV (n := 1) (As := [_]) (pc := 821) d_Lw_law_821 s_Lw_118 q_Yt_count ⟨Nat.le_of_ble_eq_true rfl, Nat.le_of_ble_eq_true rfl⟩ hyt rfl rfl rfl rfl (Nat.le_of_ble_eq_true rfl) (Nat.le_of_ble_eq_true rfl) ?_
        refine Wp.mono (fun r g1 hr => ?_) (st_count hE hB (by omega) hLW (rx _))
        obtain ⟨z, rfl, hq1, ⟨fs1, hm1⟩, hr⟩ := hr
        have hs1 := (hq1 b hbB).trans hs
        refine ⟨_, rfl, ?_⟩
        refine wp_aload_n (pc := 824) d_Lw_law_824 rfl ?_
        refine wp_aload_n (pc := 825) d_Lw_law_825 rfl ?_
        refine wp_iload_n (pc := 826) d_Lw_law_826 rfl ?_
        refine wp_iconst (pc := 827) d_Lw_law_827 ?_
        refine zp_iadd (pc := 828) d_Lw_law_828 ?_
        refine zp_saload (pc := 829) d_Lw_law_829 hs1 hE.2.2.2.2.2 (by omega) (by omega) (by omega) ?_
        refine wv_callV (n := 1) (As := [_]) (pc := 830) d_Lw_law_830 s_Lw_121 q_Md_count ⟨Nat.le_of_ble_eq_true rfl, Nat.le_of_ble_eq_true rfl⟩ hm1 rfl rfl rfl rfl (Nat.le_of_ble_eq_true rfl) (Nat.le_of_ble_eq_true rfl) ?_
        refine Wp.mono (fun r g2 hr2 => ?_) hr
        obtain ⟨rfl, hq2, hL2⟩ := hr2
        refine ⟨_, rfl, ?_⟩
        refine wp_icmp_eq (tgt := 838) (pc := 833) d_Lw_law_833 (by decide) (fun _ => ?_) (fun q => absurd rfl q)
        refine st_c3 (pc := 838) d_Lw_law_838 (Nat.le_of_ble_eq_true rfl) ?_
        refine wp_goto (tgt := 18) (pc := 841) d_Lw_law_841 (by decide) ?_
        have zz := ih (c + 1) g2 (by omega) (by rw [e2]; exact hL2) ((hq2 b hbB).trans hs)
        rw [e3] at zz
        exact zz
      refine zp_tableOut (tgt := 838) (pc := 32) d_Lw_law_32 ⟨by omega, by omega⟩ (by omega) (by decide) ?_
      refine st_c3 (pc := 838) d_Lw_law_838 (Nat.le_of_ble_eq_true rfl) ?_
      refine wp_goto (tgt := 18) (pc := 841) d_Lw_law_841 (by decide) ?_
      have zz := ih (c + 1) g (by omega) (hLW.mono (by omega)) hs
      rw [e3] at zz
      exact zz
set_option maxRecDepth 100000 in
theorem law_wp (hE : gOk E) (hB : gB E = B) (hL : L ≤ 1536) (hbB : b < B) (rx : ∀ j : Int, gR (xf j)) (h1 : h.2.1 = B) (h2 : h.2.2 = 0) (hs : h.1 b = some (.inr (99, L, fun j => .int (zI (xf (j : Int)))))) :
    Wp E (mL nm) 0 (gEnt (mL nm) [.ref b]) [] h (fun r h' => r = some (.int (zI 1)) ∧ h'.2.1 ≤ B + 600000 ∧ h'.2.2 ≤ 7302249) := by
  have hB1 : gB E ≤ B := Nat.le_of_eq hB
  have hT : TB h B [] 0 h := ⟨h1, rfl, fun _ _ => rfl, fun o x ho => by rw [List.getElem?_nil] at ho; cases ho⟩
  show Wp E (mL nm) 0 [some (.ref b), none, none, none] [] _ _
  refine wp_new (pc := 0) d_Lw_law_0 w_Lw_7 z_Yt ?_
  refine pT_pushL (k := 0) hT rfl (fun g hT => ?_)
  show Wp E (mL nm) 3 _ (.ref B :: _) g _
  refine wp_dup (pc := 3) d_Lw_law_3 rfl ?_
  refine wn_callI (n := 0) (As := []) (pc := 4) d_Lw_law_4 s_Lw_9 q_Yt_init ⟨Nat.le_of_ble_eq_true rfl, Nat.le_of_ble_eq_true rfl⟩ rfl rfl rfl (Nat.le_of_ble_eq_true rfl) (Nat.le_of_ble_eq_true rfl) ?_
  refine sp_Yt_init (s := B) (h := h) (c := 6) hE hB1 hT (fun g2 hT => ?_)
  refine ⟨rfl, ?_⟩
  refine st_a1 (pc := 7) d_Lw_law_7 (Nat.le_of_ble_eq_true rfl) ?_
  refine wp_new (pc := 8) d_Lw_law_8 w_Lw_10 z_Md ?_
  refine pT_pushL hT (ytL_len B) (fun g hT => ?_)
  refine wp_dup (pc := 11) d_Lw_law_11 rfl ?_
  refine wn_callI (n := 0) (As := []) (pc := 12) d_Lw_law_12 s_Lw_12 q_Md_init ⟨Nat.le_of_ble_eq_true rfl, Nat.le_of_ble_eq_true rfl⟩ rfl rfl rfl (Nat.le_of_ble_eq_true rfl) (Nat.le_of_ble_eq_true rfl) ?_
  refine sp_Md_init hE (by omega) (hT.sub2 (ytL_len B)) (fun g2 hT2 => ?_)
  refine ⟨rfl, ?_⟩
  have hT := hT.join2 (ytL_len B) hT2
  refine st_a2 (pc := 15) d_Lw_law_15 (Nat.le_of_ble_eq_true rfl) ?_
  refine wp_iconst (pc := 16) d_Lw_law_16 ?_
  refine st_i3 (pc := 17) d_Lw_law_17 (Nat.le_of_ble_eq_true rfl) ?_
  have hS := hT.2.1
  refine law_loop hE hB1 hL hbB rx (fun g3 hLW => ?_) 513 0 _ rfl hT.LW ((hT.2.2.1 b hbB).trans hs)
  have hr := hLW.room
  exact ⟨rfl, by omega, by omega⟩
end S74
