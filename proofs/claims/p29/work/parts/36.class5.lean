/-! ===== the class: racks ===== -/
section S36
variable {E : gE} {B S : Nat} {h0 h : gH} {X : Nat → SC} {T : TC} {i : Nat} {Y : SC} {F t : Int → Int} {A : Nat → Nat} {N : Nat} {V : Nat → Int → Int} {Q : Option Value → gH → Prop}
set_option maxRecDepth 100000 in
theorem sp_Ma_max {a b : Int} (ra : gR a) (rb : gR b) (k : Q (some (.int (zI (if a < b then b else a)))) h) : Wp E m_Ma_max 0 (gEnt m_Ma_max [.int (zI a), .int (zI b)]) [] h Q := by
  show Wp E m_Ma_max 0 [some (_), some (_)] [] _ _
  refine wp_iload_n (pc := 0) d_Ma_max_0 rfl ?_
  refine wp_iload_n (pc := 1) d_Ma_max_1 rfl ?_
  refine zp_icmp_lt (tgt := 9) (pc := 2) d_Ma_max_2 (by decide) ra rb (fun c2 => ?_) (fun c2 => ?_)
  · refine wp_iload_n (pc := 9) d_Ma_max_9 rfl ?_
    refine zp_ireturn (pc := 10) d_Ma_max_10 rfl ?_
    first | (rw [if_pos c2] at k; exact k) | (rw [if_neg c2] at k; exact k)
  · refine wp_iload_n (pc := 5) d_Ma_max_5 rfl ?_
    refine wp_goto (tgt := 10) (pc := 6) d_Ma_max_6 (by decide) ?_
    refine zp_ireturn (pc := 10) d_Ma_max_10 rfl ?_
    first | (rw [if_pos c2] at k; exact k) | (rw [if_neg c2] at k; exact k)
set_option maxRecDepth 100000 in
theorem sp_Ma_min {a b : Int} (ra : gR a) (rb : gR b) (k : Q (some (.int (zI (if b < a then b else a)))) h) : Wp E m_Ma_min 0 (gEnt m_Ma_min [.int (zI a), .int (zI b)]) [] h Q := by
  show Wp E m_Ma_min 0 [some (_), some (_)] [] _ _
  refine wp_iload_n (pc := 0) d_Ma_min_0 rfl ?_
  refine wp_iload_n (pc := 1) d_Ma_min_1 rfl ?_
  refine zp_icmp_gt (tgt := 9) (pc := 2) d_Ma_min_2 (by decide) ra rb (fun c2 => ?_) (fun c2 => ?_)
  · refine wp_iload_n (pc := 9) d_Ma_min_9 rfl ?_
    refine zp_ireturn (pc := 10) d_Ma_min_10 rfl ?_
    first | (rw [if_pos c2] at k; exact k) | (rw [if_neg c2] at k; exact k)
  · refine wp_iload_n (pc := 5) d_Ma_min_5 rfl ?_
    refine wp_goto (tgt := 10) (pc := 6) d_Ma_min_6 (by decide) ?_
    refine zp_ireturn (pc := 10) d_Ma_min_10 rfl ?_
    first | (rw [if_pos c2] at k; exact k) | (rw [if_neg c2] at k; exact k)
theorem xor_nn {a b : Int} (h0 : 0 ≤ a) (h1 : a ≤ 2147483647) (h2 : 0 ≤ b) (h3 : b ≤ 2147483647) : 0 ≤ zI a ^^^ zI b := by
  have e : ∀ c : Int, 0 ≤ c → c ≤ 2147483647 → (zI c).toBitVec.msb = false := fun c q0 q1 => by
    have := zI_toInt (z := c) ⟨by omega, by omega⟩
    have h : (zI c).toBitVec.toInt = c := this
    rw [BitVec.msb_eq_toInt, h]
    exact decide_eq_false (by omega)
  have hm : (zI a ^^^ zI b).toBitVec.msb = false := by
    rw [Int32.toBitVec_xor, BitVec.msb_xor, e a h0 h1, e b h2 h3]
    rfl
  rw [Int32.le_iff_toInt_le]
  show (0 : Int) ≤ (zI a ^^^ zI b).toBitVec.toInt
  rw [BitVec.msb_eq_toInt] at hm
  have := of_decide_eq_false hm
  omega
set_option maxRecDepth 100000 in
theorem sp_Ma_floorMod {a b : Int} (h0 : 0 ≤ a) (h1 : a ≤ 2147483647) (h2 : 0 < b) (h3 : b ≤ 2147483647) (k : Q (some (.int (zI (a % b)))) h) : Wp E m_Ma_floorMod 0 (gEnt m_Ma_floorMod [.int (zI a), .int (zI b)]) [] h Q := by
  show Wp E m_Ma_floorMod 0 [some (_), some (_), none] [] _ _
  refine wp_iload_n (pc := 0) d_Ma_floorMod_0 rfl ?_
  refine wp_iload_n (pc := 1) d_Ma_floorMod_1 rfl ?_
  refine zp_irem (pc := 2) d_Ma_floorMod_2 (by omega) (by omega) (by omega) (by omega) ?_
  refine st_i2 (pc := 3) d_Ma_floorMod_3 (by decide) ?_
  refine wp_iload_n (pc := 4) d_Ma_floorMod_4 rfl ?_
  refine wp_iload_n (pc := 5) d_Ma_floorMod_5 rfl ?_
  refine wp_ixor (pc := 6) d_Ma_floorMod_6 ?_
  refine wp_if_ge (pc := 7) (tgt := 18) d_Ma_floorMod_7 (by decide) (fun c7 => ?_) (fun c7 => absurd (xor_nn h0 h1 (by omega) h3) c7)
  refine wp_iload_n (pc := 18) d_Ma_floorMod_18 rfl ?_
  refine zp_ireturn (pc := 19) d_Ma_floorMod_19 rfl ?_
  exact k
set_option maxRecDepth 100000 in
theorem sp_Ma_floorModN (k : Q (some (.int (zI 3))) h) : Wp E m_Ma_floorMod 0 (gEnt m_Ma_floorMod [.int (zI (-1)), .int (zI 4)]) [] h Q := by
  show Wp E m_Ma_floorMod 0 [some (_), some (_), none] [] _ _
  refine wp_iload_n (pc := 0) d_Ma_floorMod_0 rfl ?_
  refine wp_iload_n (pc := 1) d_Ma_floorMod_1 rfl ?_
  refine wp_irem (pc := 2) d_Ma_floorMod_2 (by decide) ?_
  refine st_i2 (pc := 3) d_Ma_floorMod_3 (by decide) ?_
  refine wp_iload_n (pc := 4) d_Ma_floorMod_4 rfl ?_
  refine wp_iload_n (pc := 5) d_Ma_floorMod_5 rfl ?_
  refine wp_ixor (pc := 6) d_Ma_floorMod_6 ?_
  refine wp_if_ge (pc := 7) (tgt := 18) d_Ma_floorMod_7 (by decide) (fun c7 => absurd c7 (by decide)) (fun c7 => ?_)
  refine wp_iload_n (pc := 10) d_Ma_floorMod_10 rfl ?_
  refine wp_if_eq (pc := 11) (tgt := 18) d_Ma_floorMod_11 (by decide) (fun c11 => absurd c11 (by decide)) (fun c11 => ?_)
  refine wp_iload_n (pc := 14) d_Ma_floorMod_14 rfl ?_
  refine wp_iload_n (pc := 15) d_Ma_floorMod_15 rfl ?_
  refine wp_iadd (pc := 16) d_Ma_floorMod_16 ?_
  refine wp_ireturn (pc := 17) d_Ma_floorMod_17 rfl rfl ?_
  exact k
set_option maxRecDepth 100000 in
theorem sp_Rk_hookAt (hE : gOk E) (hB : gB E ≤ B) (hW : CN B S h0 X T i h (F, t, A, N, V)) (hi : i < 6) {r : Int} (r0 : 0 ≤ r) (r1 : r < 5) (rh : 0 ≤ F (14 + 3 * r + 0) ∧ F (14 + 3 * r + 0) ≤ 12) {x : Int} (rx : gR x) (y0 : ¬ (0 ≤ x ∧ x < F (14 + 3 * r + 0)) → Q (some .null) h) (y1 : 0 ≤ x ∧ x < F (14 + 3 * r + 0) → Q (some (.ref (hA B i (12 * r + x)))) h) : Wp E m_Rk_hookAt 0 (gEnt m_Rk_hookAt [.ref (rA B i r), .int (zI x)]) [] h Q := by
  show Wp E m_Rk_hookAt 0 [some (_), some (_)] [] _ _
  refine wp_iload_n (pc := 0) d_Rk_hookAt_0 rfl ?_
  refine zp_if_lt (tgt := 27) (pc := 1) d_Rk_hookAt_1 (by decide) rx (fun c1 => ?_) (fun c1 => ?_)
  · refine wp_aconst_null (pc := 27) d_Rk_hookAt_27 ?_
    refine wp_areturn (pc := 28) d_Rk_hookAt_28 rfl (Or.inl ⟨_, rfl⟩) (Or.inl rfl) ?_
    first | exact y0 (by omega) | exact y1 (by omega)
  · refine wp_iload_n (pc := 4) d_Rk_hookAt_4 rfl ?_
    refine wp_aload_n (pc := 5) d_Rk_hookAt_5 rfl ?_
    refine wp_getfield (pc := 6) d_Rk_hookAt_6 f_Rk_17 (hW.rk hi (by omega) (by omega)) rfl ?_
    refine zp_icmp_ge (tgt := 27) (pc := 9) d_Rk_hookAt_9 (by decide) rx ⟨by omega, by omega⟩ (fun c9 => ?_) (fun c9 => ?_)
    · refine wp_aconst_null (pc := 27) d_Rk_hookAt_27 ?_
      refine wp_areturn (pc := 28) d_Rk_hookAt_28 rfl (Or.inl ⟨_, rfl⟩) (Or.inl rfl) ?_
      first | exact y0 (by omega) | exact y1 (by omega)
    · refine wp_iload_n (pc := 12) d_Rk_hookAt_12 rfl ?_
      refine zp_bipush (pc := 13) d_Rk_hookAt_13 (by decide) ?_
      refine zp_icmp_ge (tgt := 27) (pc := 15) d_Rk_hookAt_15 (by decide) rx ⟨by omega, by omega⟩ (fun c15 => ?_) (fun c15 => ?_)
      · refine wp_aconst_null (pc := 27) d_Rk_hookAt_27 ?_
        refine wp_areturn (pc := 28) d_Rk_hookAt_28 rfl (Or.inl ⟨_, rfl⟩) (Or.inl rfl) ?_
        first | exact y0 (by omega) | exact y1 (by omega)
      · refine wp_aload_n (pc := 18) d_Rk_hookAt_18 rfl ?_
        refine wp_getfield (pc := 19) d_Rk_hookAt_19 f_Rk_11 (hW.rk hi (by omega) (by omega)) rfl ?_
        refine wp_iload_n (pc := 22) d_Rk_hookAt_22 rfl ?_
        refine zp_aaload (pc := 23) d_Rk_hookAt_23 (f := fun m : Int => .ref (sA B i + 17 + 14 * r.toNat + m.toNat)) hE.2.2.2.1 (hW.ra hi r0 r1) (by omega) (by omega) (by decide) ?_
        rw [hA_km B i r0 (by omega) (by omega)]
        refine wp_goto (tgt := 28) (pc := 24) d_Rk_hookAt_24 (by decide) ?_
        refine wp_areturn (pc := 28) d_Rk_hookAt_28 rfl (Or.inl ⟨_, rfl⟩) (Or.inr ⟨_, rfl⟩) ?_
        first | exact y0 (by omega) | exact y1 (by omega)
set_option maxRecDepth 100000 in
theorem sp_Rk_admits (hE : gOk E) (hB : gB E ≤ B) (hW : CN B S h0 X T i h (F, t, A, N, V)) (hi : i < 6) {r : Int} (r0 : 0 ≤ r) (r1 : r < 5) {z : Int} (rz : gR z) (s1 : 0 ≤ F (14 + 3 * r + 1) ∧ F (14 + 3 * r + 1) ≤ 5) (r2 : 0 ≤ F (14 + 3 * r + 2) ∧ F (14 + 3 * r + 2) ≤ 1) (k : Q (some (.int (zI (bI (F (14 + 3 * r + 2) = 1 ∧ z ≤ F (14 + 3 * r + 1)))))) h) : Wp E m_Rk_admits 0 (gEnt m_Rk_admits [.ref (rA B i r), .int (zI z)]) [] h Q := by
  show Wp E m_Rk_admits 0 [some (_), some (_)] [] _ _
  refine wp_aload_n (pc := 0) d_Rk_admits_0 rfl ?_
  refine wp_getfield (pc := 1) d_Rk_admits_1 f_Rk_24 (hW.rk hi (by omega) (by omega)) rfl ?_
  refine zp_if_eq (tgt := 19) (pc := 4) d_Rk_admits_4 (by decide) ⟨by omega, by omega⟩ (fun c4 => ?_) (fun c4 => ?_)
  · refine wp_iconst (pc := 19) d_Rk_admits_19 ?_
    refine zp_zreturn (pc := 20) d_Rk_admits_20 rfl rfl ?_
    first | (rw [bI_t (by omega)] at k; exact k) | (rw [bI_f (by omega)] at k; exact k)
  · refine wp_iload_n (pc := 7) d_Rk_admits_7 rfl ?_
    refine wp_aload_n (pc := 8) d_Rk_admits_8 rfl ?_
    refine wp_getfield (pc := 9) d_Rk_admits_9 f_Rk_21 (hW.rk hi (by omega) (by omega)) rfl ?_
    refine zp_icmp_gt (tgt := 19) (pc := 12) d_Rk_admits_12 (by decide) rz ⟨by omega, by omega⟩ (fun c12 => ?_) (fun c12 => ?_)
    · refine wp_iconst (pc := 19) d_Rk_admits_19 ?_
      refine zp_zreturn (pc := 20) d_Rk_admits_20 rfl rfl ?_
      first | (rw [bI_t (by omega)] at k; exact k) | (rw [bI_f (by omega)] at k; exact k)
    · refine wp_iconst (pc := 15) d_Rk_admits_15 ?_
      refine wp_goto (tgt := 20) (pc := 16) d_Rk_admits_16 (by decide) ?_
      refine zp_zreturn (pc := 20) d_Rk_admits_20 rfl rfl ?_
      first | (rw [bI_t (by omega)] at k; exact k) | (rw [bI_f (by omega)] at k; exact k)
end S36
