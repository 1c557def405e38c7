/-! ===== the class: its text ===== -/
section S58
variable {E : gE} {B S : Nat} {h0 h : gH} {X : Nat → SC} {T : TC} {i : Nat} {Y : SC} {F t : Int → Int} {A : Nat → Nat} {N : Nat} {V : Nat → Int → Int} {Q : Option Value → gH → Prop}
variable {M : gMd} {pc : Nat} {ls : List (Option Value)} {st : List Value} {b nw sz ln tc : Int} {ch tg cp : Int → Int}
theorem nar_ch {c : Int} (h0 : 0 ≤ c) (h1 : c ≤ 65535) : narrow .char (.int (zI c)) = .int (zI c) := by
  have e : (zI c).toBitVec.toNat = c.toNat := by
    show (BitVec.ofInt 32 c).toNat = _
    rw [BitVec.toNat_ofInt]
    omega
  show Value.int ((zI c).toUInt32.toUInt16.toUInt32.toInt32) = _
  congr 1
  apply Int32.toBitVec_inj.mp
  apply BitVec.eq_of_toNat_eq
  show (((zI c).toBitVec.setWidth 16).setWidth 32).toNat = _
  rw [BitVec.toNat_setWidth, BitVec.toNat_setWidth, e]
  omega
theorem i2c_ex (x : Int32) : ∃ c : Int, 0 ≤ c ∧ c ≤ 65535 ∧ (x.toUInt32 % 65536).toInt32 = zI c := by
  have hlt : (x.toUInt32 % 65536).toNat < 65536 := by
    rw [UInt32.toNat_mod]
    exact Nat.mod_lt _ (by decide)
  refine ⟨((x.toUInt32 % 65536).toNat : Int), by omega, by omega, ?_⟩
  generalize x.toUInt32 % 65536 = y
  apply Int32.toBitVec_inj.mp
  show y.toBitVec = BitVec.ofInt 32 ((y.toBitVec.toNat : Nat) : Int)
  rw [BitVec.ofInt_natCast, BitVec.ofNat_toNat]
  simp
-- cells beside the states: what they are, what a write does
theorem CN.yt2 (hW : CN B S h0 X ((b, nw, sz, ln, tc), ch, tg, cp) i h Y) : h.1 B = some (.inl (7, [.ref (sA B 0), .ref (sA B 1), .int (zI b), .ref (B + 171), .ref (B + 513), .ref (B + 516)])) := hW.yt
theorem CN.tx2 (hW : CN B S h0 X ((b, nw, sz, ln, tc), ch, tg, cp) i h Y) : h.1 (B + 513) = some (.inl (6, [.ref (B + 514), .int (zI ln), .ref (B + 515), .int (zI tc)])) := hW.tx
theorem CN.ch2 (hW : CN B S h0 X ((b, nw, sz, ln, tc), ch, tg, cp) i h Y) : h.1 (B + 514) = some (gCh 60 ch) := hW.ch
theorem CN.tg2 (hW : CN B S h0 X ((b, nw, sz, ln, tc), ch, tg, cp) i h Y) : h.1 (B + 515) = some (gI 30 tg) := hW.tg
theorem CN.cp2 (hW : CN B S h0 X ((b, nw, sz, ln, tc), ch, tg, cp) i h Y) : h.1 (B + 516) = some (gI 30 cp) := hW.cp
theorem xO_b {o : Nat} {b2 : Int} (ho : o ≠ 0) : xO B ((b2, nw, sz, ln, tc), ch, tg, cp) o = xO B ((b, nw, sz, ln, tc), ch, tg, cp) o := by
  unfold xO
  rw [if_neg ho, if_neg ho]
theorem xO_t {o : Nat} {ln2 tc2 : Int} (ho : o ≠ 513) : xO B ((b, nw, sz, ln2, tc2), ch, tg, cp) o = xO B ((b, nw, sz, ln, tc), ch, tg, cp) o := by
  unfold xO
  by_cases q0 : o = 0
  · rw [if_pos q0, if_pos q0]
  rw [if_neg q0, if_neg q0]
  by_cases q171 : o = 171
  · rw [if_pos q171, if_pos q171]
  rw [if_neg q171, if_neg q171]
  by_cases q172 : o = 172
  · rw [if_pos q172, if_pos q172]
  rw [if_neg q172, if_neg q172]
  rw [if_neg ho, if_neg ho]
theorem xO_ch {o : Nat} {ch2 : Int → Int} (ho : o ≠ 514) : xO B ((b, nw, sz, ln, tc), ch2, tg, cp) o = xO B ((b, nw, sz, ln, tc), ch, tg, cp) o := by
  unfold xO
  by_cases q0 : o = 0
  · rw [if_pos q0, if_pos q0]
  rw [if_neg q0, if_neg q0]
  by_cases q171 : o = 171
  · rw [if_pos q171, if_pos q171]
  rw [if_neg q171, if_neg q171]
  by_cases q172 : o = 172
  · rw [if_pos q172, if_pos q172]
  rw [if_neg q172, if_neg q172]
  by_cases q513 : o = 513
  · rw [if_pos q513, if_pos q513]
  rw [if_neg q513, if_neg q513]
  rw [if_neg ho, if_neg ho]
theorem xO_tg {o : Nat} {tg2 : Int → Int} (ho : o ≠ 515) : xO B ((b, nw, sz, ln, tc), ch, tg2, cp) o = xO B ((b, nw, sz, ln, tc), ch, tg, cp) o := by
  unfold xO
  by_cases q0 : o = 0
  · rw [if_pos q0, if_pos q0]
  rw [if_neg q0, if_neg q0]
  by_cases q171 : o = 171
  · rw [if_pos q171, if_pos q171]
  rw [if_neg q171, if_neg q171]
  by_cases q172 : o = 172
  · rw [if_pos q172, if_pos q172]
  rw [if_neg q172, if_neg q172]
  by_cases q513 : o = 513
  · rw [if_pos q513, if_pos q513]
  rw [if_neg q513, if_neg q513]
  by_cases q514 : o = 514
  · rw [if_pos q514, if_pos q514]
  rw [if_neg q514, if_neg q514]
  rw [if_neg ho, if_neg ho]
theorem xO_cp {o : Nat} {cp2 : Int → Int} (ho : o ≠ 516) : xO B ((b, nw, sz, ln, tc), ch, tg, cp2) o = xO B ((b, nw, sz, ln, tc), ch, tg, cp) o := by
  unfold xO
  by_cases q0 : o = 0
  · rw [if_pos q0, if_pos q0]
  rw [if_neg q0, if_neg q0]
  by_cases q171 : o = 171
  · rw [if_pos q171, if_pos q171]
  rw [if_neg q171, if_neg q171]
  by_cases q172 : o = 172
  · rw [if_pos q172, if_pos q172]
  rw [if_neg q172, if_neg q172]
  by_cases q513 : o = 513
  · rw [if_pos q513, if_pos q513]
  rw [if_neg q513, if_neg q513]
  by_cases q514 : o = 514
  · rw [if_pos q514, if_pos q514]
  rw [if_neg q514, if_neg q514]
  by_cases q515 : o = 515
  · rw [if_pos q515, if_pos q515]
  rw [if_neg q515, if_neg q515]
  rw [if_neg ho, if_neg ho]
theorem CN.wb {b2 : Int} (hW : CN B S h0 X ((b, nw, sz, ln, tc), ch, tg, cp) i h Y) : CN B S h0 X ((b2, nw, sz, ln, tc), ch, tg, cp) i (gPut h (B + 0) (.inl (7, [.ref (sA B 0), .ref (sA B 1), .int (zI b2), .ref (B + 171), .ref (B + 513), .ref (B + 516)]))) Y :=
  CW.wt hW (o := 0) (T' := ((b2, nw, sz, ln, tc), ch, tg, cp)) (fun o c ho hc => by rw [xO_b ho] at hc; exact hc) rfl
theorem CN.wt {ln2 tc2 : Int} (hW : CN B S h0 X ((b, nw, sz, ln, tc), ch, tg, cp) i h Y) : CN B S h0 X ((b, nw, sz, ln2, tc2), ch, tg, cp) i (gPut h (B + 513) (.inl (6, [.ref (B + 514), .int (zI ln2), .ref (B + 515), .int (zI tc2)]))) Y :=
  CW.wt hW (o := 513) (T' := ((b, nw, sz, ln2, tc2), ch, tg, cp)) (fun o c ho hc => by rw [xO_t ho] at hc; exact hc) rfl
theorem CN.wch {ch2 : Int → Int} (hW : CN B S h0 X ((b, nw, sz, ln, tc), ch, tg, cp) i h Y) : CN B S h0 X ((b, nw, sz, ln, tc), ch2, tg, cp) i (gPut h (B + 514) (gCh 60 ch2)) Y :=
  CW.wt hW (o := 514) (T' := ((b, nw, sz, ln, tc), ch2, tg, cp)) (fun o c ho hc => by rw [xO_ch ho] at hc; exact hc) rfl
theorem CN.wtg {tg2 : Int → Int} (hW : CN B S h0 X ((b, nw, sz, ln, tc), ch, tg, cp) i h Y) : CN B S h0 X ((b, nw, sz, ln, tc), ch, tg2, cp) i (gPut h (B + 515) (gI 30 tg2)) Y :=
  CW.wt hW (o := 515) (T' := ((b, nw, sz, ln, tc), ch, tg2, cp)) (fun o c ho hc => by rw [xO_tg ho] at hc; exact hc) rfl
theorem CN.wcp {cp2 : Int → Int} (hW : CN B S h0 X ((b, nw, sz, ln, tc), ch, tg, cp) i h Y) : CN B S h0 X ((b, nw, sz, ln, tc), ch, tg, cp2) i (gPut h (B + 516) (gI 30 cp2)) Y :=
  CW.wt hW (o := 516) (T' := ((b, nw, sz, ln, tc), ch, tg, cp2)) (fun o c ho hc => by rw [xO_cp ho] at hc; exact hc) rfl
theorem pw_yb {v : Int} (hW : CN B S h0 X ((b, nw, sz, ln, tc), ch, tg, cp) i h Y) (w : ∀ h1, CN B S h0 X ((v, nw, sz, ln, tc), ch, tg, cp) i h1 Y → Wp E M pc ls st h1 Q) : Wp E M pc ls st (gPut h (B) (.inl (7, ([.ref (sA B 0), .ref (sA B 1), .int (zI b), .ref (B + 171), .ref (B + 513), .ref (B + 516)] : List Value).set 2 (.int (zI v))))) Q := w _ hW.wb
theorem pw_yl {v : Int} (hW : CN B S h0 X ((b, nw, sz, ln, tc), ch, tg, cp) i h Y) (w : ∀ h1, CN B S h0 X ((b, nw, sz, v, tc), ch, tg, cp) i h1 Y → Wp E M pc ls st h1 Q) : Wp E M pc ls st (gPut h (B + 513) (.inl (6, ([.ref (B + 514), .int (zI ln), .ref (B + 515), .int (zI tc)] : List Value).set 1 (.int (zI v))))) Q := w _ hW.wt
theorem pw_yc {v : Int} (hW : CN B S h0 X ((b, nw, sz, ln, tc), ch, tg, cp) i h Y) (w : ∀ h1, CN B S h0 X ((b, nw, sz, ln, v), ch, tg, cp) i h1 Y → Wp E M pc ls st h1 Q) : Wp E M pc ls st (gPut h (B + 513) (.inl (6, ([.ref (B + 514), .int (zI ln), .ref (B + 515), .int (zI tc)] : List Value).set 3 (.int (zI v))))) Q := w _ hW.wt
theorem pw_ych {v : Int → Int} (hW : CN B S h0 X ((b, nw, sz, ln, tc), ch, tg, cp) i h Y) (w : ∀ h1, CN B S h0 X ((b, nw, sz, ln, tc), v, tg, cp) i h1 Y → Wp E M pc ls st h1 Q) : Wp E M pc ls st (gPut h (B + 514) (gCh 60 v)) Q := w _ hW.wch
theorem pw_ytg {v : Int → Int} (hW : CN B S h0 X ((b, nw, sz, ln, tc), ch, tg, cp) i h Y) (w : ∀ h1, CN B S h0 X ((b, nw, sz, ln, tc), ch, v, cp) i h1 Y → Wp E M pc ls st h1 Q) : Wp E M pc ls st (gPut h (B + 515) (gI 30 v)) Q := w _ hW.wtg
theorem pw_ycp {v : Int → Int} (hW : CN B S h0 X ((b, nw, sz, ln, tc), ch, tg, cp) i h Y) (w : ∀ h1, CN B S h0 X ((b, nw, sz, ln, tc), ch, tg, v) i h1 Y → Wp E M pc ls st h1 Q) : Wp E M pc ls st (gPut h (B + 516) (gI 30 v)) Q := w _ hW.wcp
/-- the tags that were read -/
def TL (l : List Int) (c : Int) (g : Int → Int) : Prop := c = (l.length : Int) ∧ ∀ j : Nat, j < l.length → g j = l.getD j 0
theorem TL.add {l : List Int} {c v : Int} {g : Int → Int} (hT : TL l c g) : TL (l ++ [v]) (c + 1) (zup g c v) := by
  obtain ⟨rfl, h⟩ := hT
  refine ⟨by rw [List.length_append, List.length_singleton]; omega, fun j hj => ?_⟩
  rw [List.length_append, List.length_singleton] at hj
  rw [List.getD_eq_getElem?_getD]
  by_cases q : j = l.length
  · subst q
    rw [zup_eq, List.getElem?_append_right (Nat.le_refl _), Nat.sub_self]
    rfl
  · rw [zup_ne _ _ (by omega), h j (by omega), List.getElem?_append_left (by omega), List.getD_eq_getElem?_getD]
theorem pS_len2 {g : Int → Int} : ∀ {k : Nat}, fl g k = -1 → 2 * ((pS g k).2.2.length : Int) + (pS g k).1 ≤ k
  | 0, _ => by show 2 * (0 : Int) + 0 ≤ 0; omega
  | k + 1, h => by
    have h0 := fl_back h k (by omega)
    have ih := pS_len2 h0
    have ho := fl_ok h (k := k) (by omega)
    rw [pS_s]
    by_cases hc : g k = 44
    · rw [if_pos hc]
      have hd : okC g k := ho.resolve_left fun q => by omega
      show 2 * (((pS g k).2.2 ++ [(pS g k).2.1]).length : Int) + 0 ≤ _
      rw [List.length_append, List.length_singleton]
      omega
    · rw [if_neg hc]
      show 2 * ((pS g k).2.2.length : Int) + ((pS g k).1 + 1) ≤ _
      omega
theorem pS_vs {g : Int → Int} : ∀ {k : Nat}, fl g k = -1 → ∀ v ∈ (pS g k).2.2, 0 ≤ v ∧ v ≤ 99999
  | 0, _, v, hv => by cases hv
  | k + 1, h, v, hv => by
    have h0 := fl_back h k (by omega)
    rw [pS_s] at hv
    by_cases hc : g k = 44
    · rw [if_pos hc] at hv
      rcases List.mem_append.mp hv with q | q
      · exact pS_vs h0 v q
      · rw [List.mem_singleton.mp q]
        exact pS_v h0
    · rw [if_neg hc] at hv
      exact pS_vs h0 v hv
end S58
