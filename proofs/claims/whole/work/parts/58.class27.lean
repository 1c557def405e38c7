/-! ===== the class: its text ===== -/
section S58
variable {E : gE} {B S : Nat} {h0 h : gH} {X : Nat → SC} {T : TC} {i : Nat} {Y : SC} {F t : Int → Int} {A : Nat → Nat} {N : Nat} {V : Nat → Int → Int} {Q : Option Value → gH → Prop}
variable {M : gMd} {pc : Nat} {ls : List (Option Value)} {st : List Value} {b nw sz ln tc : Int} {ch tg cp : Int → Int}
theorem nar_ch {c : Int} (h0 : 0 ≤ c) (h1 : c ≤ 65535) : narrow .char (.int (zI c)) = .int (zI c) := by
  have e : (zI c).toBitVec.toNat = c.toNat := by
    show (BitVec.ofInt 32 c).toNat = _
    rw [BitVec.toNat_ofInt]
    omega
  show Value.int ((zI c).toUInt32.toUInt16.toUInt32.toInt32) = _
  congr 1
  apply Int32.toBitVec_inj.mp
  apply BitVec.eq_of_toNat_eq
  show (((zI c).toBitVec.setWidth 16).setWidth 32).toNat = _
  rw [BitVec.toNat_setWidth, BitVec.toNat_setWidth, e]
  omega
theorem i2c_ex (x : Int32) : ∃ c : Int, 0 ≤ c ∧ c ≤ 65535 ∧ (x.toUInt32 % 65536).toInt32 = zI c := by
  have hlt : (x.toUInt32 % 65536).toNat < 65536 := by
    rw [UInt32.toNat_mod]
    exact Nat.mod_lt _ (by decide)
  refine ⟨((x.toUInt32 % 65536).toNat : Int), by omega, by omega, ?_⟩
  generalize x.toUInt32 % 65536 = y
  apply Int32.toBitVec_inj.mp
  show y.toBitVec = BitVec.ofInt 32 ((y.toBitVec.toNat : Nat) : Int)
  rw [BitVec.ofInt_natCast, BitVec.ofNat_toNat]
  simp
-- cells beside the states: what they are, what a write does
theorem CN.yt2 (hW : CN B S h0 X ((b, nw, sz, ln, tc), ch, tg, cp) i h Y) : h.1 B = some (.inl (7, [.ref (sA B 0), .ref (sA B 1), .int (zI b), .ref (B + 171), .ref (B + 513), .ref (B + 516)])) := hW.yt
theorem CN.tx2 (hW : CN B S h0 X ((b, nw, sz, ln, tc), ch, tg, cp) i h Y) : h.1 (B + 513) = some (.inl (6, [.ref (B + 514), .int (zI ln), .ref (B + 515), .int (zI tc)])) := hW.tx
theorem CN.ch2 (hW : CN B S h0 X ((b, nw, sz, ln, tc), ch, tg, cp) i h Y) : h.1 (B + 514) = some (gCh 60 ch) := hW.ch
theorem CN.tg2 (hW : CN B S h0 X ((b, nw, sz, ln, tc), ch, tg, cp) i h Y) : h.1 (B + 515) = some (gI 30 tg) := hW.tg
theorem CN.cp2 (hW : CN B S h0 X ((b, nw, sz, ln, tc), ch, tg, cp) i h Y) : h.1 (B + 516) = some (gI 30 cp) := hW.cp
theorem xO_b {o : Nat} {b2 : Int} (ho : o ≠ 0) : xO B ((b2, nw, sz, ln, tc), ch, tg, cp) o = xO B ((b, nw, sz, ln, tc), ch, tg, cp) o := by
  unfold xO
  rw [if_neg ho, if_neg ho]
theorem xO_t {o : Nat} {ln2 tc2 : Int} (ho : o ≠ 513) : xO B ((b, nw, sz, ln2, tc2), ch, tg, cp) o = xO B ((b, nw, sz, ln, tc), ch, tg, cp) o := by
  unfold xO
  by_cases q0 : o = 0
  · rw [if_pos q0, if_pos q0]
  rw [if_neg q0, if_neg q0]
  by_cases q171 : o = 171
  · rw [if_pos q171, if_pos q171]
  rw [if_neg q171, if_neg q171]
  by_cases q172 : o = 172
  · rw [if_pos q172, if_pos q172]
  rw [if_neg q172, if_neg q172]
  rw [if_neg ho, if_neg ho]
theorem xO_ch {o : Nat} {ch2 : Int → Int} (ho : o ≠ 514) : xO B ((b, nw, sz, ln, tc), ch2, tg, cp) o = xO B ((b, nw, sz, ln, tc), ch, tg, cp) o := by
  unfold xO
  by_cases q0 : o = 0
  · rw [if_pos q0, if_pos q0]
  rw [if_neg q0, if_neg q0]
  by_cases q171 : o = 171
  · rw [if_pos q171, if_pos q171]
  rw [if_neg q171, if_neg q171]
  by_cases q172 : o = 172
  · rw [if_pos q172, if_pos q172]
  rw [if_neg q172, if_neg q172]
  by_cases q513 : o = 513
  · rw [if_pos q513, if_pos q513]
  rw [if_neg q513, if_neg q513]
  rw [if_neg ho, if_neg ho]
theorem xO_tg {o : Nat} {tg2 : Int → Int} (ho : o ≠ 515) : xO B ((b, nw, sz, ln, tc), ch, tg2, cp) o = xO B ((b, nw, sz, ln, tc), ch, tg, cp) o := by
  unfold xO
  by_cases q0 : o = 0
  · rw [if_pos q0, if_pos q0]
  rw [if_neg q0, if_neg q0]
  by_cases q171 : o = 171
  · rw [if_pos q171, if_pos q171]
  rw [if_neg q171, if_neg q171]
  by_cases q172 : o = 172
  · rw [if_pos q172, if_pos q172]
  rw [if_neg q172, if_neg q172]
  by_cases q513 : o = 513
  · rw [if_pos q513, if_pos q513]
  rw [if_neg q513, if_neg q513]
  by_cases q514 : o = 514
  · rw [if_pos q514, if_pos q514]
  rw [if_neg q514, if_neg q514]
  rw [if_neg ho, if_neg ho]
theorem xO_cp {o : Nat} {cp2 : Int → Int} (ho : o ≠ 516) : xO B ((b, nw, sz, ln, tc), ch, tg, cp2) o = xO B ((b, nw, sz, ln, tc), ch, tg, cp) o := by
  unfold xO
  by_cases q0 : o = 0
  · rw [if_pos q0, if_pos q0]
  rw [if_neg q0, if_neg q0]
  by_cases q171 : o = 171
  · rw [if_pos q171, if_pos q171]
  rw [if_neg q171, if_neg q171]
  by_cases q172 : o = 172
  · rw [if_pos q172, if_pos q172]
  rw [if_neg q172, if_neg q172]
  by_cases q513 : o = 513
  · rw [if_pos q513, if_pos q513]
  rw [if_neg q513, if_neg q513]
  by_cases q514 : o = 514
  · rw [if_pos q514, if_pos q514]
  rw [if_neg q514, if_neg q514]
  by_cases q515 : o = 515
  · rw [if_pos q515, if_pos q515]
  rw [if_neg q515, if_neg q515]
  rw [if_neg ho, if_neg ho]
theorem CN.wb {b2 : Int} (hW : CN B S h0 X ((b, nw, sz, ln, tc), ch, tg, cp) i h Y) : CN B S h0 X ((b2, nw, sz, ln, tc), ch, tg, cp) i (gPut h (B + 0) (.inl (7, [.ref (sA B 0), .ref (sA B 1), .int (zI b2), .ref (B + 171), .ref (B + 513), .ref (B + 516)]))) Y :=
  CW.wt hW (o := 0) (T' := ((b2, nw, sz, ln, tc), ch, tg, cp)) (fun o c ho hc => by rw [xO_b ho] at hc; exact hc) rfl
theorem CN.wt {ln2 tc2 : Int} (hW : CN B S h0 X ((b, nw, sz, ln, tc), ch, tg, cp) i h Y) : CN B S h0 X ((b, nw, sz, ln2, tc2), ch, tg, cp) i (gPut h (B + 513) (.inl (6, [.ref (B + 514), .int (zI ln2), .ref (B + 515), .int (zI tc2)]))) Y :=
  CW.wt hW (o := 513) (T' := ((b, nw, sz, ln2, tc2), ch, tg, cp)) (fun o c ho hc => by rw [xO_t ho] at hc; exact hc) rfl
theorem CN.wch {ch2 : Int → Int} (hW : CN B S h0 X ((b, nw, sz, ln, tc), ch, tg, cp) i h Y) : CN B S h0 X ((b, nw, sz, ln, tc), ch2, tg, cp) i (gPut h (B + 514) (gCh 60 ch2)) Y :=
  CW.wt hW (o := 514) (T' := ((b, nw, sz, ln, tc), ch2, tg, cp)) (fun o c ho hc => by rw [xO_ch ho] at hc; exact hc) rfl
theorem CN.wtg {tg2 : Int → Int} (hW : CN B S h0 X ((b, nw, sz, ln, tc), ch, tg, cp) i h Y) : CN B S h0 X ((b, nw, sz, ln, tc), ch, tg2, cp) i (gPut h (B + 515) (gI 30 tg2)) Y :=
  CW.wt hW (o := 515) (T' := ((b, nw, sz, ln, tc), ch, tg2, cp)) (fun o c ho hc => by rw [xO_tg ho] at hc; exact hc) rfl
theorem CN.wcp {cp2 : Int → Int} (hW : CN B S h0 X ((b, nw, sz, ln, tc), ch, tg, cp) i h Y) : CN B S h0 X ((b, nw, sz, ln, tc), ch, tg, cp2) i (gPut h (B + 516) (gI 30 cp2)) Y :=
  CW.wt hW (o := 516) (T' := ((b, nw, sz, ln, tc), ch, tg, cp2)) (fun o c ho hc => by rw [xO_cp ho] at hc; exact hc) rfl
theorem pw_yb {v : Int} (hW : CN B S h0 X ((b, nw, sz, ln, tc), ch, tg, cp) i h Y) (w : ∀ h1, CN B S h0 X ((v, nw, sz, ln, tc), ch, tg, cp) i h1 Y → Wp E M pc ls st h1 Q) : Wp E M pc ls st (gPut h (B) (.inl (7, ([.ref (sA B 0), .ref (sA B 1), .int (zI b), .ref (B + 171), .ref (B + 513), .ref (B + 516)] : List Value).set 2 (.int (zI v))))) Q := w _ hW.wb
theorem pw_yl {v : Int} (hW : CN B S h0 X ((b, nw, sz, ln, tc), ch, tg, cp) i h Y) (w : ∀ h1, CN B S h0 X ((b, nw, sz, v, tc), ch, tg, cp) i h1 Y → Wp E M pc ls st h1 Q) : Wp E M pc ls st (gPut h (B + 513) (.inl (6, ([.ref (B + 514), .int (zI ln), .ref (B + 515), .int (zI tc)] : List Value).set 1 (.int (zI v))))) Q := w _ hW.wt
theorem pw_yc {v : Int} (hW : CN B S h0 X ((b, nw, sz, ln, tc), ch, tg, cp) i h Y) (w : ∀ h1, CN B S h0 X ((b, nw, sz, ln, v), ch, tg, cp) i h1 Y → Wp E M pc ls st h1 Q) : Wp E M pc ls st (gPut h (B + 513) (.inl (6, ([.ref (B + 514), .int (zI ln), .ref (B + 515), .int (zI tc)] : List Value).set 3 (.int (zI v))))) Q := w _ hW.wt
theorem pw_ych {v : Int → Int} (hW : CN B S h0 X ((b, nw, sz, ln, tc), ch, tg, cp) i h Y) (w : ∀ h1, CN B S h0 X ((b, nw, sz, ln, tc), v, tg, cp) i h1 Y → Wp E M pc ls st h1 Q) : Wp E M pc ls st (gPut h (B + 514) (gCh 60 v)) Q := w _ hW.wch
theorem pw_ytg {v : Int → Int} (hW : CN B S h0 X ((b, nw, sz, ln, tc), ch, tg, cp) i h Y) (w : ∀ h1, CN B S h0 X ((b, nw, sz, ln, tc), ch, v, cp) i h1 Y → Wp E M pc ls st h1 Q) : Wp E M pc ls st (gPut h (B + 515) (gI 30 v)) Q := w _ hW.wtg
theorem pw_ycp {v : Int → Int} (hW : CN B S h0 X ((b, nw, sz, ln, tc), ch, tg, cp) i h Y) (w : ∀ h1, CN B S h0 X ((b, nw, sz, ln, tc), ch, tg, v) i h1 Y → Wp E M pc ls st h1 Q) : Wp E M pc ls st (gPut h (B + 516) (gI 30 v)) Q := w _ hW.wcp
/-- the tags that were read -/
def TL (l : List Int) (c : Int) (g : Int → Int) : Prop := c = (l.length : Int) ∧ ∀ j : Nat, j < l.length → g j = l.getD j 0
theorem TL.add {l : List Int} {c v : Int} {g : Int → Int} (hT : TL l c g) : TL (l ++ [v]) (c + 1) (zup g c v) := by
  obtain ⟨rfl, h⟩ := hT
  refine ⟨by rw [List.length_append, List.length_singleton]; omega, fun j hj => ?_⟩
  rw [List.length_append, List.length_singleton] at hj
  rw [List.getD_eq_getElem?_getD]
  by_cases q : j = l.length
  · subst q
    rw [zup_eq, List.getElem?_append_right (Nat.le_refl _), Nat.sub_self]
    rfl
  · rw [zup_ne _ _ (by omega), h j (by omega), List.getElem?_append_left (by omega), List.getD_eq_getElem?_getD]
theorem pS_len2 {g : Int → Int} : ∀ {k : Nat}, fl g k = -1 → 2 * ((pS g k).2.2.length : Int) + (pS g k).1 ≤ k
  | 0, _ => by show 2 * (0 : Int) + 0 ≤ 0; omega
  | k + 1, h => by
    have h0 := fl_back h k (by omega)
    have ih := pS_len2 h0
    have ho := fl_ok h (k := k) (by omega)
    rw [pS_s]
    by_cases hc : g k = 44
    · rw [if_pos hc]
      have hd : okC g k := ho.resolve_left fun q => by omega
      show 2 * (((pS g k).2.2 ++ [(pS g k).2.1]).length : Int) + 0 ≤ _
      rw [List.length_append, List.length_singleton]
      omega
    · rw [if_neg hc]
      show 2 * ((pS g k).2.2.length : Int) + ((pS g k).1 + 1) ≤ _
      omega
theorem pS_vs {g : Int → Int} : ∀ {k : Nat}, fl g k = -1 → ∀ v ∈ (pS g k).2.2, 0 ≤ v ∧ v ≤ 99999
  | 0, _, v, hv => by cases hv
  | k + 1, h, v, hv => by
    have h0 := fl_back h k (by omega)
    rw [pS_s] at hv
    by_cases hc : g k = 44
    · rw [if_pos hc] at hv
      rcases List.mem_append.mp hv with q | q
      · exact pS_vs h0 v q
      · rw [List.mem_singleton.mp q]
        exact pS_v h0
    · rw [if_neg hc] at hv
      exact pS_vs h0 v hv
set_option maxRecDepth 100000 in
theorem sp_Tx_append (hE : gOk E) (hB : gB E ≤ B) (hW : CN B S h0 X ((b, nw, sz, ln, tc), ch, tg, cp) i h Y) (l0 : 0 ≤ ln) (l1 : ln ≤ 60) {c : Int} (c0 : 0 ≤ c) (c1 : c ≤ 65535) (y0 : ln = 60 → Q (some (.int (zI 0))) h) (y1 : ¬ ln = 60 → ∀ g, CN B S h0 X ((b, nw, sz, ln + 1, tc), zup ch ln c, tg, cp) i g Y → Q (some (.int (zI 1))) g) : Wp E m_Tx_append 0 (gEnt m_Tx_append [.ref (B + 513), .int (zI c)]) [] h Q := by
  show Wp E m_Tx_append 0 [some (_), some (_)] [] _ _
  refine wp_aload_n (pc := 0) d_Tx_append_0 rfl ?_
  refine wp_getfield (pc := 1) d_Tx_append_1 f_Tx_13 hW.tx2 rfl ?_
  refine zp_if_lt (tgt := 16) (pc := 4) d_Tx_append_4 (by decide) ⟨by omega, by omega⟩ (fun q4 => absurd q4 (by omega)) (fun q4 => ?_)
  refine wp_aload_n (pc := 7) d_Tx_append_7 rfl ?_
  refine wp_getfield (pc := 8) d_Tx_append_8 f_Tx_13 hW.tx2 rfl ?_
  refine zp_bipush (pc := 11) d_Tx_append_11 (by decide) ?_
  refine zp_icmp_lt (tgt := 18) (pc := 13) d_Tx_append_13 (by decide) ⟨by omega, by omega⟩ ⟨by omega, by omega⟩ (fun c13 => ?_) (fun c13 => ?_)
  · refine wp_aload_n (pc := 18) d_Tx_append_18 rfl ?_
    refine wp_getfield (pc := 19) d_Tx_append_19 f_Tx_9 hW.tx2 rfl ?_
    refine wp_aload_n (pc := 22) d_Tx_append_22 rfl ?_
    refine wp_getfield (pc := 23) d_Tx_append_23 f_Tx_13 hW.tx2 rfl ?_
    refine wp_iload_n (pc := 26) d_Tx_append_26 rfl ?_
    refine zp_castore (pc := 27) d_Tx_append_27 hE.2.1 hW.ch2 (by omega) (by omega) (by omega) (by omega) (nar_ch c0 c1) ?_
    refine pw_ych hW (fun h hW => ?_)
    refine wp_aload_n (pc := 28) d_Tx_append_28 rfl ?_
    refine wp_dup (pc := 29) d_Tx_append_29 rfl ?_
    refine wp_getfield (pc := 30) d_Tx_append_30 f_Tx_13 hW.tx2 rfl ?_
    refine wp_iconst (pc := 33) d_Tx_append_33 ?_
    refine zp_iadd (pc := 34) d_Tx_append_34 ?_
    refine zp_putI (pc := 35) d_Tx_append_35 f_Tx_13 hW.tx2 (by omega) (Or.inl rfl) ?_
    refine pw_yl hW (fun h hW => ?_)
    refine wp_iconst (pc := 38) d_Tx_append_38 ?_
    refine zp_zreturn (pc := 39) d_Tx_append_39 rfl rfl ?_
    exact y1 (by omega) _ hW
  · refine wp_iconst (pc := 16) d_Tx_append_16 ?_
    refine zp_zreturn (pc := 17) d_Tx_append_17 rfl rfl ?_
    exact y0 (by omega)
set_option maxRecDepth 100000 in
theorem sp_Tx_addTag (hE : gOk E) (hB : gB E ≤ B) (hW : CN B S h0 X ((b, nw, sz, ln, tc), ch, tg, cp) i h Y) (l0 : 0 ≤ tc) (l1 : tc < 30) {v : Int} (k : ∀ g, CN B S h0 X ((b, nw, sz, ln, tc + 1), ch, zup tg tc v, cp) i g Y → Q none g) : Wp E m_Tx_addTag 0 (gEnt m_Tx_addTag [.ref (B + 513), .int (zI v)]) [] h Q := by
  show Wp E m_Tx_addTag 0 [some (_), some (_)] [] _ _
  refine wp_aload_n (pc := 0) d_Tx_addTag_0 rfl ?_
  refine wp_getfield (pc := 1) d_Tx_addTag_1 f_Tx_21 hW.tx2 rfl ?_
  refine zp_bipush (pc := 4) d_Tx_addTag_4 (by decide) ?_
  refine zp_icmp_ge (tgt := 29) (pc := 6) d_Tx_addTag_6 (by decide) ⟨by omega, by omega⟩ ⟨by omega, by omega⟩ (fun c6 => absurd c6 (by omega)) (fun c6 => ?_)
  refine wp_aload_n (pc := 9) d_Tx_addTag_9 rfl ?_
  refine wp_getfield (pc := 10) d_Tx_addTag_10 f_Tx_17 hW.tx2 rfl ?_
  refine wp_aload_n (pc := 13) d_Tx_addTag_13 rfl ?_
  refine wp_getfield (pc := 14) d_Tx_addTag_14 f_Tx_21 hW.tx2 rfl ?_
  refine wp_iload_n (pc := 17) d_Tx_addTag_17 rfl ?_
  refine zp_iastore (pc := 18) d_Tx_addTag_18 hE.1 hW.tg2 (by omega) (by omega) (by omega) (by omega) ?_
  refine pw_ytg hW (fun h hW => ?_)
  refine wp_aload_n (pc := 19) d_Tx_addTag_19 rfl ?_
  refine wp_dup (pc := 20) d_Tx_addTag_20 rfl ?_
  refine wp_getfield (pc := 21) d_Tx_addTag_21 f_Tx_21 hW.tx2 rfl ?_
  refine wp_iconst (pc := 24) d_Tx_addTag_24 ?_
  refine zp_iadd (pc := 25) d_Tx_addTag_25 ?_
  refine zp_putI (pc := 26) d_Tx_addTag_26 f_Tx_21 hW.tx2 (by omega) (Or.inl rfl) ?_
  refine pw_yc hW (fun h hW => ?_)
  refine wp_return (pc := 29) d_Tx_addTag_29 rfl ?_
  exact k _ hW
set_option maxRecDepth 100000 in
theorem sp_Tx_isDigit {x : Int} (rx : gR x) (k : Q (some (.int (zI (bI (48 ≤ x ∧ x ≤ 57))))) h) : Wp E m_Tx_isDigit 0 (gEnt m_Tx_isDigit [.int (zI x)]) [] h Q := by
  show Wp E m_Tx_isDigit 0 [some (_)] [] _ _
  refine wp_iload_n (pc := 0) d_Tx_isDigit_0 rfl ?_
  refine zp_bipush (pc := 1) d_Tx_isDigit_1 (by decide) ?_
  refine zp_icmp_lt (tgt := 16) (pc := 3) d_Tx_isDigit_3 (by decide) rx ⟨by omega, by omega⟩ (fun c3 => ?_) (fun c3 => ?_)
  · refine wp_iconst (pc := 16) d_Tx_isDigit_16 ?_
    refine zp_zreturn (pc := 17) d_Tx_isDigit_17 rfl rfl ?_
    first | (rw [bI_t (by omega)] at k; exact k) | (rw [bI_f (by omega)] at k; exact k)
  · refine wp_iload_n (pc := 6) d_Tx_isDigit_6 rfl ?_
    refine zp_bipush (pc := 7) d_Tx_isDigit_7 (by decide) ?_
    refine zp_icmp_gt (tgt := 16) (pc := 9) d_Tx_isDigit_9 (by decide) rx ⟨by omega, by omega⟩ (fun c9 => ?_) (fun c9 => ?_)
    · refine wp_iconst (pc := 16) d_Tx_isDigit_16 ?_
      refine zp_zreturn (pc := 17) d_Tx_isDigit_17 rfl rfl ?_
      first | (rw [bI_t (by omega)] at k; exact k) | (rw [bI_f (by omega)] at k; exact k)
    · refine wp_iconst (pc := 12) d_Tx_isDigit_12 ?_
      refine wp_goto (tgt := 17) (pc := 13) d_Tx_isDigit_13 (by decide) ?_
      refine zp_zreturn (pc := 17) d_Tx_isDigit_17 rfl rfl ?_
      first | (rw [bI_t (by omega)] at k; exact k) | (rw [bI_f (by omega)] at k; exact k)
set_option maxRecDepth 100000 in
theorem sp_Tx_takesDigit {d v : Int} (rd : gR d) (rv : gR v) (k : Q (some (.int (zI (bI (d = 0 ∨ (0 < v ∧ d < 5)))))) h) : Wp E m_Tx_takesDigit 0 (gEnt m_Tx_takesDigit [.int (zI d), .int (zI v)]) [] h Q := by
  show Wp E m_Tx_takesDigit 0 [some (_), some (_)] [] _ _
  refine wp_iload_n (pc := 0) d_Tx_takesDigit_0 rfl ?_
  refine zp_if_eq (tgt := 13) (pc := 1) d_Tx_takesDigit_1 (by decide) rd (fun c1 => ?_) (fun c1 => ?_)
  · refine wp_iconst (pc := 13) d_Tx_takesDigit_13 ?_
    refine wp_goto (tgt := 18) (pc := 14) d_Tx_takesDigit_14 (by decide) ?_
    refine zp_zreturn (pc := 18) d_Tx_takesDigit_18 rfl rfl ?_
    first | (rw [bI_t (by omega)] at k; exact k) | (rw [bI_f (by omega)] at k; exact k)
  · refine wp_iload_n (pc := 4) d_Tx_takesDigit_4 rfl ?_
    refine zp_if_le (tgt := 17) (pc := 5) d_Tx_takesDigit_5 (by decide) rv (fun q5 => ?_) (fun q5 => ?_)
    · refine wp_iconst (pc := 17) d_Tx_takesDigit_17 ?_
      refine zp_zreturn (pc := 18) d_Tx_takesDigit_18 rfl rfl ?_
      first | (rw [bI_t (by omega)] at k; exact k) | (rw [bI_f (by omega)] at k; exact k)
    · refine wp_iload_n (pc := 8) d_Tx_takesDigit_8 rfl ?_
      refine wp_iconst (pc := 9) d_Tx_takesDigit_9 ?_
      refine zp_icmp_ge (tgt := 17) (pc := 10) d_Tx_takesDigit_10 (by decide) rd ⟨by omega, by omega⟩ (fun c10 => ?_) (fun c10 => ?_)
      · refine wp_iconst (pc := 17) d_Tx_takesDigit_17 ?_
        refine zp_zreturn (pc := 18) d_Tx_takesDigit_18 rfl rfl ?_
        first | (rw [bI_t (by omega)] at k; exact k) | (rw [bI_f (by omega)] at k; exact k)
      · refine wp_iconst (pc := 13) d_Tx_takesDigit_13 ?_
        refine wp_goto (tgt := 18) (pc := 14) d_Tx_takesDigit_14 (by decide) ?_
        refine zp_zreturn (pc := 18) d_Tx_takesDigit_18 rfl rfl ?_
        first | (rw [bI_t (by omega)] at k; exact k) | (rw [bI_f (by omega)] at k; exact k)
set_option maxRecDepth 100000 in
theorem lp_Tx_readTags (hE : gOk E) (hB : gB E ≤ B) (l0 : 0 ≤ ln) (l1 : ln ≤ 60) (hg : ∀ j : Int, 0 ≤ j → j < 60 → 0 ≤ ch j ∧ ch j ≤ 65535) (k : ∀ (g : gH) (tc2 : Int) (tg2 : Int → Int), CN B S h0 X ((b, nw, sz, ln, tc2), ch, tg2, cp) i g Y → (ft ch ln = -1 → TL (tgs ch ln) tc2 tg2) → Q (some (.int (zI (ft ch ln)))) g) : ∀ (d x : Nat) (o : Option Value) (h : gH) (tc : Int) (tg : Int → Int), x + d = ln.toNat → fl ch x = -1 → CN B S h0 X ((b, nw, sz, ln, tc), ch, tg, cp) i h Y → TL (pS ch x).2.2 tc tg →
      Wp E m_Tx_readTags 11 [some (.ref (B + 513)), some (.int (zI (pS ch x).1)), some (.int (zI (pS ch x).2.1)), some (.int (zI x)), o] [] h Q := by
  intro d
  induction d with
  | zero =>
    intro x o h tc tg hx hf hW hTL
    have hb := pS_b hf
    have hv := pS_v hf
    have hl2 := pS_len2 hf
    have htc : tc = ((pS ch x).2.2.length : Int) := hTL.1
    have ex : ln.toNat = x := by omega
    refine wp_iload_n (pc := 11) d_Tx_readTags_11 rfl ?_
    refine wp_aload_n (pc := 12) d_Tx_readTags_12 rfl ?_
    refine wp_getfield (pc := 13) d_Tx_readTags_13 f_Tx_13 hW.tx2 rfl ?_
    refine zp_icmp_ge (tgt := 97) (pc := 16) d_Tx_readTags_16 (by decide) ⟨by omega, by omega⟩ ⟨by omega, by omega⟩ (fun c16 => ?_) (fun c16 => absurd c16 (by omega))
    refine wp_iload_n (pc := 97) d_Tx_readTags_97 rfl ?_
    refine zp_if_ne (tgt := 106) (pc := 98) d_Tx_readTags_98 (by decide) ⟨by omega, by omega⟩ (fun c98 => ?_) (fun c98 => ?_)
    · refine wp_aload_n (pc := 106) d_Tx_readTags_106 rfl ?_
      refine wp_iload_n (pc := 107) d_Tx_readTags_107 rfl ?_
      refine wn_callV (n := 1) (As := [_]) (pc := 108) d_Tx_readTags_108 s_Tx_24 q_Tx_addTag ⟨by decide, by decide⟩ hW.tx2 rfl rfl rfl rfl (Nat.le_of_ble_eq_true rfl) (Nat.le_of_ble_eq_true rfl) ?_
      refine sp_Tx_addTag hE hB hW (by omega) (by omega) (fun g hW => ?_)
      refine ⟨rfl, ?_⟩
      refine wp_iconst (pc := 111) d_Tx_readTags_111 ?_
      refine zp_ireturn (pc := 112) d_Tx_readTags_112 rfl ?_
      have e : ft ch ln = -1 := by
        unfold ft
        rw [ex, if_neg (not_not_intro hf), if_pos (by omega)]
      have k2 := k _ _ _ hW (fun _ => by unfold tgs; rw [ex]; exact hTL.add)
      rw [e] at k2
      exact k2
    · refine wp_aload_n (pc := 101) d_Tx_readTags_101 rfl ?_
      refine wp_getfield (pc := 102) d_Tx_readTags_102 f_Tx_13 hW.tx2 rfl ?_
      refine zp_ireturn (pc := 105) d_Tx_readTags_105 rfl ?_
      have e : ft ch ln = ln := by
        unfold ft
        rw [ex, if_neg (not_not_intro hf), if_neg (by omega)]
      have k2 := k _ _ _ hW (fun q => absurd q (by omega))
      rw [e] at k2
      exact k2
  | succ d ih =>
    intro x o h tc tg hx hf hW hTL
    have hb := pS_b hf
    have hv := pS_v hf
    have hl2 := pS_len2 hf
    have htc : tc = ((pS ch x).2.2.length : Int) := hTL.1
    have hcx := hg x (by omega) (by omega)
    refine wp_iload_n (pc := 11) d_Tx_readTags_11 rfl ?_
    refine wp_aload_n (pc := 12) d_Tx_readTags_12 rfl ?_
    refine wp_getfield (pc := 13) d_Tx_readTags_13 f_Tx_13 hW.tx2 rfl ?_
    refine zp_icmp_ge (tgt := 97) (pc := 16) d_Tx_readTags_16 (by decide) ⟨by omega, by omega⟩ ⟨by omega, by omega⟩ (fun c16 => absurd c16 (by omega)) (fun c16 => ?_)
    refine wp_iload_n (pc := 19) d_Tx_readTags_19 rfl ?_
    refine zp_bipush (pc := 20) d_Tx_readTags_20 (by decide) ?_
    refine zp_icmp_ge (tgt := 97) (pc := 22) d_Tx_readTags_22 (by decide) ⟨by omega, by omega⟩ ⟨by omega, by omega⟩ (fun c22 => absurd c22 (by omega)) (fun c22 => ?_)
    refine wp_aload_n (pc := 25) d_Tx_readTags_25 rfl ?_
    refine wp_getfield (pc := 26) d_Tx_readTags_26 f_Tx_9 hW.tx2 rfl ?_
    refine wp_iload_n (pc := 29) d_Tx_readTags_29 rfl ?_
    refine zp_caload (pc := 30) d_Tx_readTags_30 hE.2.1 hW.ch2 (by omega) (by omega) (by omega) ?_
    refine st_i4 (pc := 31) d_Tx_readTags_31 (by decide) ?_
    refine wp_iload (pc := 33) d_Tx_readTags_33 rfl ?_
    refine zp_bipush (pc := 35) d_Tx_readTags_35 (by decide) ?_
    refine zp_icmp_ne (tgt := 56) (pc := 37) d_Tx_readTags_37 (by decide) ⟨by omega, by omega⟩ ⟨by omega, by omega⟩ (fun c37 => ?_) (fun c37 => ?_)
    · refine wp_iload (pc := 56) d_Tx_readTags_56 rfl ?_
      refine wv_callS (n := 1) (As := [_]) (pc := 58) d_Tx_readTags_58 s_Tx_28 q_Tx_isDigit ⟨by decide, by decide⟩ rfl rfl rfl (Nat.le_of_ble_eq_true rfl) (Nat.le_of_ble_eq_true rfl) ?_
      refine sp_Tx_isDigit ⟨by omega, by omega⟩ ?_
      refine ⟨_, rfl, ?_⟩
      refine zp_ifb_eq (tgt := 89) (pc := 61) d_Tx_readTags_61 (by decide) (fun c61 => ?_) (fun c61 => ?_)
      · refine wp_iload_n (pc := 89) d_Tx_readTags_89 rfl ?_
        refine zp_ireturn (pc := 90) d_Tx_readTags_90 rfl ?_
        have hff : fl ch ln.toNat = x := fl_at hf (by omega) (by omega)
        have e : ft ch ln = x := by
          unfold ft
          rw [hff, if_pos (by omega)]
        have k2 := k _ _ _ hW (fun q => absurd q (by omega))
        rw [e] at k2
        exact k2
      · refine wp_iload_n (pc := 64) d_Tx_readTags_64 rfl ?_
        refine wp_iload_n (pc := 65) d_Tx_readTags_65 rfl ?_
        refine wv_callS (n := 2) (As := [_, _]) (pc := 66) d_Tx_readTags_66 s_Tx_32 q_Tx_takesDigit ⟨by decide, by decide⟩ rfl rfl rfl (Nat.le_of_ble_eq_true rfl) (Nat.le_of_ble_eq_true rfl) ?_
        refine sp_Tx_takesDigit ⟨by omega, by omega⟩ ⟨by omega, by omega⟩ ?_
        refine ⟨_, rfl, ?_⟩
        refine zp_ifb_eq (tgt := 89) (pc := 69) d_Tx_readTags_69 (by decide) (fun c69 => ?_) (fun c69 => ?_)
        · refine wp_iload_n (pc := 89) d_Tx_readTags_89 rfl ?_
          refine zp_ireturn (pc := 90) d_Tx_readTags_90 rfl ?_
          have hff : fl ch ln.toNat = x := fl_at hf (by omega) (by omega)
          have e : ft ch ln = x := by
            unfold ft
            rw [hff, if_pos (by omega)]
          have k2 := k _ _ _ hW (fun q => absurd q (by omega))
          rw [e] at k2
          exact k2
        · refine zp_bipush (pc := 72) d_Tx_readTags_72 (by decide) ?_
          refine wp_iload_n (pc := 74) d_Tx_readTags_74 rfl ?_
          refine zp_imul (pc := 75) d_Tx_readTags_75 ?_
          refine wp_iload (pc := 76) d_Tx_readTags_76 rfl ?_
          refine zp_bipush (pc := 78) d_Tx_readTags_78 (by decide) ?_
          refine zp_isub (pc := 80) d_Tx_readTags_80 ?_
          refine zp_iadd (pc := 81) d_Tx_readTags_81 ?_
          rw [show 10 * (pS ch x).2.1 + (ch x - 48) = 10 * (pS ch x).2.1 + ch x - 48 by omega]
          refine st_i2 (pc := 82) d_Tx_readTags_82 (by decide) ?_
          refine st_c1 (pc := 83) d_Tx_readTags_83 (by decide) ?_
          refine wp_goto (tgt := 91) (pc := 86) d_Tx_readTags_86 (by decide) ?_
          refine st_c3 (pc := 91) d_Tx_readTags_91 (by decide) ?_
          refine wp_goto (tgt := 11) (pc := 94) d_Tx_readTags_94 (by decide) ?_
          have e : ((x + 1 : Nat) : Int) = (x : Int) + 1 := by omega
          have es : pS ch (x + 1) = ((pS ch x).1 + 1, 10 * (pS ch x).2.1 + ch x - 48, (pS ch x).2.2) := by rw [pS_s, if_neg (by omega)]
          have zz := ih (x + 1) (some (.int (zI (ch x)))) _ _ _ (by omega) (fl_go hf (Or.inl ⟨by omega, by omega, by omega, by omega⟩)) hW (by rw [es]; exact hTL)
          rw [e, es] at zz
          exact zz
    · refine wp_iload_n (pc := 40) d_Tx_readTags_40 rfl ?_
      refine zp_if_le (tgt := 56) (pc := 41) d_Tx_readTags_41 (by decide) ⟨by omega, by omega⟩ (fun c41 => ?_) (fun c41 => ?_)
      · refine wp_iload (pc := 56) d_Tx_readTags_56 rfl ?_
        refine wv_callS (n := 1) (As := [_]) (pc := 58) d_Tx_readTags_58 s_Tx_28 q_Tx_isDigit ⟨by decide, by decide⟩ rfl rfl rfl (Nat.le_of_ble_eq_true rfl) (Nat.le_of_ble_eq_true rfl) ?_
        refine sp_Tx_isDigit ⟨by omega, by omega⟩ ?_
        refine ⟨_, rfl, ?_⟩
        refine zp_ifb_eq (tgt := 89) (pc := 61) d_Tx_readTags_61 (by decide) (fun c61 => ?_) (fun c61 => absurd c61 (by omega))
        refine wp_iload_n (pc := 89) d_Tx_readTags_89 rfl ?_
        refine zp_ireturn (pc := 90) d_Tx_readTags_90 rfl ?_
        have hff : fl ch ln.toNat = x := fl_at hf (by omega) (by omega)
        have e : ft ch ln = x := by
          unfold ft
          rw [hff, if_pos (by omega)]
        have k2 := k _ _ _ hW (fun q => absurd q (by omega))
        rw [e] at k2
        exact k2
      · refine wp_aload_n (pc := 44) d_Tx_readTags_44 rfl ?_
        refine wp_iload_n (pc := 45) d_Tx_readTags_45 rfl ?_
        refine wn_callV (n := 1) (As := [_]) (pc := 46) d_Tx_readTags_46 s_Tx_24 q_Tx_addTag ⟨by decide, by decide⟩ hW.tx2 rfl rfl rfl rfl (Nat.le_of_ble_eq_true rfl) (Nat.le_of_ble_eq_true rfl) ?_
        refine sp_Tx_addTag hE hB hW (by omega) (by omega) (fun g hW => ?_)
        refine ⟨rfl, ?_⟩
        refine wp_iconst (pc := 49) d_Tx_readTags_49 ?_
        refine st_i1 (pc := 50) d_Tx_readTags_50 (by decide) ?_
        refine wp_iconst (pc := 51) d_Tx_readTags_51 ?_
        refine st_i2 (pc := 52) d_Tx_readTags_52 (by decide) ?_
        refine wp_goto (tgt := 91) (pc := 53) d_Tx_readTags_53 (by decide) ?_
        refine st_c3 (pc := 91) d_Tx_readTags_91 (by decide) ?_
        refine wp_goto (tgt := 11) (pc := 94) d_Tx_readTags_94 (by decide) ?_
        have e : ((x + 1 : Nat) : Int) = (x : Int) + 1 := by omega
        have es : pS ch (x + 1) = (0, 0, (pS ch x).2.2 ++ [(pS ch x).2.1]) := by rw [pS_s, if_pos (by omega)]
        have zz := ih (x + 1) (some (.int (zI (ch x)))) _ _ _ (by omega) (fl_go hf (Or.inr ⟨by omega, by omega⟩)) hW (by rw [es]; exact hTL.add)
        rw [e, es] at zz
        exact zz
set_option maxRecDepth 100000 in
theorem sp_Tx_readTags (hE : gOk E) (hB : gB E ≤ B) (hW : CN B S h0 X ((b, nw, sz, ln, tc), ch, tg, cp) i h Y) (l0 : 0 ≤ ln) (l1 : ln ≤ 60) (hg : ∀ j : Int, 0 ≤ j → j < 60 → 0 ≤ ch j ∧ ch j ≤ 65535) (k : ∀ (g : gH) (tc2 : Int) (tg2 : Int → Int), CN B S h0 X ((b, nw, sz, ln, tc2), ch, tg2, cp) i g Y → (ft ch ln = -1 → TL (tgs ch ln) tc2 tg2) → Q (some (.int (zI (ft ch ln)))) g) : Wp E m_Tx_readTags 0 (gEnt m_Tx_readTags [.ref (B + 513)]) [] h Q := by
  show Wp E m_Tx_readTags 0 [some (_), none, none, none, none] [] _ _
  refine wp_aload_n (pc := 0) d_Tx_readTags_0 rfl ?_
  refine wp_iconst (pc := 1) d_Tx_readTags_1 ?_
  refine zp_putI (pc := 2) d_Tx_readTags_2 f_Tx_21 hW.tx2 (by omega) (Or.inl rfl) ?_
  refine pw_yc hW (fun h hW => ?_)
  refine wp_iconst (pc := 5) d_Tx_readTags_5 ?_
  refine st_i1 (pc := 6) d_Tx_readTags_6 (by decide) ?_
  refine wp_iconst (pc := 7) d_Tx_readTags_7 ?_
  refine st_i2 (pc := 8) d_Tx_readTags_8 (by decide) ?_
  refine wp_iconst (pc := 9) d_Tx_readTags_9 ?_
  refine st_i3 (pc := 10) d_Tx_readTags_10 (by decide) ?_
  exact lp_Tx_readTags hE hB l0 l1 hg k ln.toNat 0 none h 0 tg (by omega) rfl hW ⟨rfl, fun j hj => absurd hj (by show ¬ j < 0; omega)⟩
end S58
