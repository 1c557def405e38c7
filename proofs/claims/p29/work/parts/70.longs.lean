/-! ===== longs; shifts; any int; the law's cell and low ===== -/
section S70
variable {E : gE} {M : gMd} {pc : Nat} {ls : List (Option Value)} {st : List Value} {h : gH} {Q : Option Value → gH → Prop}
theorem wp_ldc2 {cp : Nat} {v : Int64} (hd : gDec M pc (.ldc2_w cp) 3) (hc : Cond.constantLong (gY M).cls cp v ∈ lw_gd) (w : Wp E M (pc + 3) ls (.long v :: st) h Q) : Wp E M pc ls st h Q :=
  Wp.pure (fun p e R s m args below meth c H locs cells slots Qs lsA C _ _ k => lv_ldc2 C.1 C.2.1 C.2.2.2.2.1 (C.2.2.2.2.2.1 _ hc) hd k) w
theorem wp_lload_n {k : Fin 4} {x : Int64} (hd : gDec M pc (.lload_n k) 1) (hl : ls[(k : Nat)]? = some (some (.long x))) (w : Wp E M (pc + 1) ls (.long x :: st) h Q) : Wp E M pc ls st h Q :=
  Wp.pure (fun p e R s m args below meth c H locs cells slots Qs lsA C hL _ kk => lv_lload_n C.1 C.2.1 hd rfl (hL.at hl) kk) w
theorem wp_lload {k : Nat} {x : Int64} (hd : gDec M pc (.lload k) 2) (hl : ls[k]? = some (some (.long x))) (w : Wp E M (pc + 2) ls (.long x :: st) h Q) : Wp E M pc ls st h Q :=
  Wp.pure (fun p e R s m args below meth c H locs cells slots Qs lsA C hL _ kk => lv_lload C.1 C.2.1 hd (hL.at hl) kk) w
theorem wp_lstore_n {k : Fin 4} {x : Int64} {ls' : List (Option Value)} (hd : gDec M pc (.lstore_n k) 1) (hk : (k : Nat) + 1 < gMl M ∧ gLn M (k : Nat) = true ∧ gLn M ((k : Nat) - 1) = false) (hn : ls[(k : Nat) + 1]? = some none) (hl : ls.set (k : Nat) (some (.long x)) = ls') (w : Wp E M (pc + 1) ls' st h Q) : Wp E M pc ls (.long x :: st) h Q :=
  Wp.loc (fun p e R s m args below meth c H locs cells slots Qs lsA C hL kk => lv_lstore_n C.1 C.2.1 hd rfl hL.has hk.1 rfl (fun lsB hB => kk lsB (hl ▸ hL.storedL hk.2.1 hk.2.2 hn hB))) w
theorem wp_lstore {k : Nat} {x : Int64} {ls' : List (Option Value)} (hd : gDec M pc (.lstore k) 2) (hk : k + 1 < gMl M ∧ gLn M k = true ∧ gLn M (k - 1) = false) (hn : ls[k + 1]? = some none) (hl : ls.set k (some (.long x)) = ls') (w : Wp E M (pc + 2) ls' st h Q) : Wp E M pc ls (.long x :: st) h Q :=
  Wp.loc (fun p e R s m args below meth c H locs cells slots Qs lsA C hL kk => lv_lstore C.1 C.2.1 hd hL.has hk.1 rfl (fun lsB hB => kk lsB (hl ▸ hL.storedL hk.2.1 hk.2.2 hn hB))) w
theorem wp_ladd {x y : Int64} (hd : gDec M pc .ladd 1) (w : Wp E M (pc + 1) ls (.long (x + y) :: st) h Q) : Wp E M pc ls (.long y :: .long x :: st) h Q :=
  Wp.pure (fun p e R s m args below meth c H locs cells slots Qs lsA C _ _ k => lv_ladd C.1 C.2.1 hd k) w
theorem wp_lmul {x y : Int64} (hd : gDec M pc .lmul 1) (w : Wp E M (pc + 1) ls (.long (x * y) :: st) h Q) : Wp E M pc ls (.long y :: .long x :: st) h Q :=
  Wp.pure (fun p e R s m args below meth c H locs cells slots Qs lsA C _ _ k => lv_lmul C.1 C.2.1 hd k) w
theorem wp_i2l {x : Int32} (hd : gDec M pc .i2l 1) (w : Wp E M (pc + 1) ls (.long x.toInt64 :: st) h Q) : Wp E M pc ls (.int x :: st) h Q :=
  Wp.pure (fun p e R s m args below meth c H locs cells slots Qs lsA C _ _ k => lv_i2l C.1 C.2.1 hd rfl k) w
/-- two longs that are one -/
theorem wp_lcmp_same {x : Int64} (hd : gDec M pc .lcmp 1) (w : Wp E M (pc + 1) ls (.int (zI 0) :: st) h Q) : Wp E M pc ls (.long x :: .long x :: st) h Q := by
  have e : lg_cmp x x = zI 0 := by
    have : lg_cmp x x = 0 := by simp [lg_cmp]
    rw [this]
    rfl
  exact Wp.pure (fun p e R s m args below meth c H locs cells slots Qs lsA C _ _ k => W.lcmp C.1 C.2.1 hd k) (by rw [e]; exact w)
theorem wp_lreturn {v : Int64} (hd : gDec M pc .lreturn 1) (hr : gRt M = some .long) (hq : Q (some (.long v)) h) : Wp E M pc ls [.long v] h Q := by
  refine ⟨_, h, hq, Nat.le_refl _, Nat.le_refl _, fun p e R s m args below meth c C f1 f2 mc ms cells slots H locs lsA g1 g2 g3 g4 hR hB hl hL => ?_⟩
  obtain rfl : cells = mc := by omega
  obtain rfl : slots = ms := by omega
  exact W.lret C.1 C.2.1 (C.2.2.1.trans hr) (fun t ht hW => ⟨rfl, by rw [ht]; exact hR.moved hW.alike, fun q hq => by rw [ht]; exact hB q hq⟩) hl hd C.2.2.2.2.2.2.2.1
/-- ints of which nothing is told but that they are ints -/
theorem zp_any {x : Int32} (w : ∀ v : Int, gR v → Wp E M pc ls (.int (zI v) :: st) h Q) : Wp E M pc ls (.int x :: st) h Q := by
  have := w x.toInt (gR_of x)
  rw [← zI_of] at this
  exact this
theorem zp_ishr_any {x y : Int32} (hd : gDec M pc .ishr 1) (w : ∀ v : Int, gR v → Wp E M (pc + 1) ls (.int (zI v) :: st) h Q) : Wp E M pc ls (.int y :: .int x :: st) h Q :=
  Wp.pure (fun p e R s m args below meth c H locs cells slots Qs lsA C _ _ k => lv_ishr C.1 C.2.1 hd k) (zp_any w)
theorem zp_iand_any {x y : Int32} (hd : gDec M pc .iand 1) (w : ∀ v : Int, gR v → Wp E M (pc + 1) ls (.int (zI v) :: st) h Q) : Wp E M pc ls (.int y :: .int x :: st) h Q := wp_iand hd (zp_any w)
theorem zp_imul_any {x y : Int32} (hd : gDec M pc .imul 1) (w : ∀ v : Int, gR v → Wp E M (pc + 1) ls (.int (zI v) :: st) h Q) : Wp E M pc ls (.int y :: .int x :: st) h Q := wp_imul hd (zp_any w)
theorem zs_length {a n : Nat} {f : Nat → Value} (hd : gDec M pc .arraylength 1) (hh : h.1 a = some (.inr (99, n, f))) (hg : (gT E)[99]? = none) (w : Wp E M (pc + 1) ls (.int (zI (n : Int)) :: st) h Q) : Wp E M pc ls (.ref a :: st) h Q := by
  refine wp_slength hd hh hg ?_
  rw [← Int32.ofInt_eq_ofNat]
  exact w
theorem andM (y : Int32) : ∃ k : Int, 0 ≤ k ∧ k ≤ 2147483647 ∧ y &&& zI 2147483647 = zI k := by
  have hlt : (y &&& zI 2147483647).toBitVec.toNat ≤ 2147483647 := by
    rw [Int32.toBitVec_and, BitVec.toNat_and]
    exact Nat.and_le_right
  refine ⟨((y &&& zI 2147483647).toBitVec.toNat : Int), by omega, by omega, ?_⟩
  generalize y &&& zI 2147483647 = w
  apply Int32.toBitVec_inj.mp
  show w.toBitVec = BitVec.ofInt 32 ((w.toBitVec.toNat : Nat) : Int)
  rw [BitVec.ofInt_natCast, BitVec.ofNat_toNat]
  simp
set_option maxRecDepth 100000 in
theorem sp_Lw_low {v n : Int} (n0 : 0 < n) (n1 : n ≤ 1000) (k : ∀ r : Int, 0 ≤ r → r < n → Q (some (.int (zI r))) h) : Wp E m_Lw_low 0 (gEnt m_Lw_low [.int (zI v), .int (zI n)]) [] h Q := by
  show Wp E m_Lw_low 0 [some (.int (zI v)), some (.int (zI n))] [] h Q
  refine wp_iload_n (pc := 0) d_Lw_low_0 rfl ?_
  refine wp_ldc (pc := 1) d_Lw_low_1 l_Lw_7 ?_
  refine wp_iand (pc := 3) d_Lw_low_3 ?_
  obtain ⟨a, a0, a1, ha⟩ := andM (zI v)
  rw [show zI v &&& Int32.ofInt 2147483647 = zI a from ha]
  refine wp_iload_n (pc := 4) d_Lw_low_4 rfl ?_
  refine zp_irem (pc := 5) d_Lw_low_5 a0 a1 n0 (by omega) ?_
  refine zp_ireturn (pc := 6) d_Lw_low_6 rfl ?_
  exact k _ (Int.emod_nonneg _ (by omega)) (Int.emod_lt_of_pos _ n0)
set_option maxRecDepth 100000 in
theorem sp_Lw_cell (hE : gOk E) {b L : Nat} {xf : Int → Int} (hL : L ≤ 260) (rx : ∀ j : Int, gR (xf j)) (hs : h.1 b = some (.inr (99, L, fun j => .int (zI (xf (j : Int)))))) {c : Int} (c0 : 0 ≤ c) (c1 : c ≤ 1000) (k : ∀ v : Int, gR v → Q (some (.int (zI v))) h) : Wp E m_Lw_cell 0 (gEnt m_Lw_cell [.ref b, .int (zI c)]) [] h Q := by
  show Wp E m_Lw_cell 0 [some (.ref b), some (.int (zI c))] [] h Q
  refine wp_iload_n (pc := 0) d_Lw_cell_0 rfl ?_
  refine wp_aload_n (pc := 1) d_Lw_cell_1 rfl ?_
  refine zs_length (pc := 2) d_Lw_cell_2 hs hE.2.2.2.2.2 ?_
  refine zp_icmp_ge (tgt := 12) (pc := 3) d_Lw_cell_3 (by decide) ⟨by omega, by omega⟩ ⟨by omega, by omega⟩ (fun c3 => ?_) (fun c3 => ?_)
  · refine zp_sipush (pc := 12) d_Lw_cell_12 (by decide) ?_
    refine wp_iload_n (pc := 15) d_Lw_cell_15 rfl ?_
    refine zp_bipush (pc := 16) d_Lw_cell_16 (by decide) ?_
    refine zp_iadd (pc := 18) d_Lw_cell_18 ?_
    refine zp_imul (pc := 19) d_Lw_cell_19 ?_
    refine wp_iload_n (pc := 20) d_Lw_cell_20 rfl ?_
    refine zp_bipush (pc := 21) d_Lw_cell_21 (by decide) ?_
    refine zp_iadd (pc := 23) d_Lw_cell_23 ?_
    refine zp_imul_any (pc := 24) d_Lw_cell_24 (fun v rv => ?_)
    exact zp_ireturn (pc := 25) d_Lw_cell_25 rfl (k v rv)
  · refine wp_aload_n (pc := 6) d_Lw_cell_6 rfl ?_
    refine wp_iload_n (pc := 7) d_Lw_cell_7 rfl ?_
    refine zp_saload (pc := 8) d_Lw_cell_8 hs hE.2.2.2.2.2 (by omega) (by omega) (by omega) ?_
    refine wp_goto (tgt := 25) (pc := 9) d_Lw_cell_9 (by decide) ?_
    exact zp_ireturn (pc := 25) d_Lw_cell_25 rfl (k _ (rx _))
end S70
