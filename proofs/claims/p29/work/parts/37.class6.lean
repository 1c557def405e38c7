/-! ===== the class: racks and hooks by number ===== -/
section S37
variable {E : gE} {B S : Nat} {h0 h : gH} {X : Nat → SC} {T : TC} {i : Nat} {Y : SC} {F t : Int → Int} {A : Nat → Nat} {N : Nat} {V : Nat → Int → Int} {Q : Option Value → gH → Prop}
/-- the entries of the coats are ints -/
def rT (t : Int → Int) : Prop := ∀ n : Int, 0 ≤ n → n < 60 → gR (t n)
abbrev cnH (F t : Int → Int) (n : Int) : Prop := t n = -1 ∧ F (29 + 8 * n + 5) = 0
theorem sp_Ho_tell (hE : gOk E) (hB : gB E ≤ B) (hW : CN B S h0 X T i h (F, t, A, N, V)) (hi : i < 6) {nv : Int} (hV : Vd nv F) (hT : rT t) {n w : Int} (n0 : 0 ≤ n) (n1 : n < 60) (w0 : 0 ≤ w) (w3 : w ≤ 3) (k : Q (some (.int (zI (tv F t w n)))) h) : Wp E m_Ho_tell 0 (gEnt m_Ho_tell [.ref (hA B i n), .int (zI w)]) [] h Q := by
  have ri := (hV.2.2.2.1 n n0 n1).2.2.2.2.2.1
  by_cases q0 : w = 0
  · subst q0; exact sp_Ho_tell0 hE hB hW hi n0 n1 (hT n n0 n1) ri k
  by_cases q1 : w = 1
  · subst q1; exact sp_Ho_tell1 hE hB hW hi n0 n1 (hT n n0 n1) ri k
  by_cases q2 : w = 2
  · subst q2; exact sp_Ho_tell2 hE hB hW hi n0 n1 (hT n n0 n1) ri k
  obtain rfl : w = 3 := by omega
  exact sp_Ho_tell3 hE hB hW hi n0 n1 (hT n n0 n1) ri k
set_option maxRecDepth 100000 in
theorem lp_Rk_total (hE : gOk E) (hB : gB E ≤ B) (hW : CN B S h0 X T i h (F, t, A, N, V)) (hi : i < 6) {nv : Int} (hV : Vd nv F) (hT : rT t) {r : Int} (r0 : 0 ≤ r) (r1 : r < 5) {w : Int} (w0 : 0 ≤ w) (w3 : w ≤ 3) (k : Q (some (.int (zI (sm (fun y => tv F t w (12 * r + y)) (F (14 + 3 * r + 0)).toNat)))) h) : ∀ (d x : Nat) (o : Option Value), x + d = (F (14 + 3 * r + 0)).toNat → Wp E m_Rk_total 4 [some (.ref (rA B i r)), some (.int (zI w)), some (.int (zI (sm (fun y => tv F t w (12 * r + y)) x))), some (.int (zI x)), o] [] h Q := by
  intro d
  induction d with
  | zero =>
    intro x o hx
    have rh := (hV.2.2.1 r r0 r1).1
    refine wp_iload_n (pc := 4) d_Rk_total_4 rfl ?_
    refine wp_aload_n (pc := 5) d_Rk_total_5 rfl ?_
    refine wp_getfield (pc := 6) d_Rk_total_6 f_Rk_17 (hW.rk hi (by omega) (by omega)) rfl ?_
    refine zp_icmp_ge (tgt := 43) (pc := 9) d_Rk_total_9 (by decide) ⟨by omega, by omega⟩ ⟨by omega, by omega⟩ (fun c9 => ?_) (fun c9 => absurd c9 (by omega))
    obtain rfl : x = (F (14 + 3 * r + 0)).toNat := by omega
    refine wp_iload_n (pc := 43) d_Rk_total_43 rfl ?_
    refine zp_ireturn (pc := 44) d_Rk_total_44 rfl ?_
    exact k
  | succ d ih =>
    intro x o hx
    have rh := (hV.2.2.1 r r0 r1).1
    refine wp_iload_n (pc := 4) d_Rk_total_4 rfl ?_
    refine wp_aload_n (pc := 5) d_Rk_total_5 rfl ?_
    refine wp_getfield (pc := 6) d_Rk_total_6 f_Rk_17 (hW.rk hi (by omega) (by omega)) rfl ?_
    refine zp_icmp_ge (tgt := 43) (pc := 9) d_Rk_total_9 (by decide) ⟨by omega, by omega⟩ ⟨by omega, by omega⟩ (fun c9 => absurd c9 (by omega)) (fun c9 => ?_)
    refine wp_aload_n (pc := 12) d_Rk_total_12 rfl ?_
    refine wp_iload_n (pc := 13) d_Rk_total_13 rfl ?_
    refine wv_callV (n := 1) (As := [_]) (pc := 14) d_Rk_total_14 s_Rk_31 q_Rk_hookAt ⟨by decide, by decide⟩ (hW.rk hi (by omega) (by omega)) rfl rfl rfl rfl (Nat.le_of_ble_eq_true rfl) (Nat.le_of_ble_eq_true rfl) ?_
    refine sp_Rk_hookAt hE hB hW hi r0 r1 rh ⟨by omega, by omega⟩ (fun q => absurd q (by omega)) (fun _ => ?_)
    refine ⟨_, rfl, ?_⟩
    refine st_a4 (pc := 17) d_Rk_total_17 (by decide) ?_
    refine wp_iload_n (pc := 19) d_Rk_total_19 rfl ?_
    refine wp_aload (pc := 20) d_Rk_total_20 rfl ?_
    refine wp_ifnonnull (tgt := 29) (pc := 22) d_Rk_total_22 (by decide) ?_
    refine wp_aload (pc := 29) d_Rk_total_29 rfl ?_
    refine wp_iload_n (pc := 31) d_Rk_total_31 rfl ?_
    refine wv_callV (n := 1) (As := [_]) (pc := 32) d_Rk_total_32 s_Rk_35 q_Ho_tell ⟨by decide, by decide⟩ (hW.hk hi (by omega) (by omega)) rfl rfl rfl rfl (Nat.le_of_ble_eq_true rfl) (Nat.le_of_ble_eq_true rfl) ?_
    refine sp_Ho_tell hE hB hW hi hV hT (by omega) (by omega) w0 w3 ?_
    refine ⟨_, rfl, ?_⟩
    refine zp_iadd (pc := 35) d_Rk_total_35 ?_
    refine st_i2 (pc := 36) d_Rk_total_36 (by decide) ?_
    refine st_c3 (pc := 37) d_Rk_total_37 (by decide) ?_
    refine wp_goto (tgt := 4) (pc := 40) d_Rk_total_40 (by decide) ?_
    have e : ((x + 1 : Nat) : Int) = (x : Int) + 1 := by omega
    have zz := ih (x + 1) (some (.ref (hA B i (12 * r + x)))) (by omega)
    rw [e] at zz
    exact zz
set_option maxRecDepth 100000 in
theorem sp_Rk_total (hE : gOk E) (hB : gB E ≤ B) (hW : CN B S h0 X T i h (F, t, A, N, V)) (hi : i < 6) {nv : Int} (hV : Vd nv F) (hT : rT t) {r : Int} (r0 : 0 ≤ r) (r1 : r < 5) {w : Int} (w0 : 0 ≤ w) (w3 : w ≤ 3) (k : Q (some (.int (zI (sm (fun y => tv F t w (12 * r + y)) (F (14 + 3 * r + 0)).toNat)))) h) : Wp E m_Rk_total 0 (gEnt m_Rk_total [.ref (rA B i r), .int (zI w)]) [] h Q := by
  show Wp E m_Rk_total 0 [some (_), some (_), none, none, none] [] _ _
  refine wp_iconst (pc := 0) d_Rk_total_0 ?_
  refine st_i2 (pc := 1) d_Rk_total_1 (by decide) ?_
  refine wp_iconst (pc := 2) d_Rk_total_2 ?_
  refine st_i3 (pc := 3) d_Rk_total_3 (by decide) ?_
  exact lp_Rk_total hE hB hW hi hV hT r0 r1 w0 w3 k (F (14 + 3 * r + 0)).toNat 0 none (by omega)
set_option maxRecDepth 100000 in
theorem lp_Rk_lowest (hE : gOk E) (hB : gB E ≤ B) (hW : CN B S h0 X T i h (F, t, A, N, V)) (hi : i < 6) {nv : Int} (hV : Vd nv F) (hT : rT t) {r : Int} (r0 : 0 ≤ r) (r1 : r < 5) (y0 : (∀ y : Int, 0 ≤ y → y < F (14 + 3 * r + 0) → ¬ cnH F t (12 * r + y)) → Q (some .null) h) (y1 : ∀ y : Int, 0 ≤ y → y < F (14 + 3 * r + 0) → cnH F t (12 * r + y) → (∀ z : Int, 0 ≤ z → z < y → ¬ cnH F t (12 * r + z)) → Q (some (.ref (hA B i (12 * r + y)))) h) : ∀ (d x : Nat) (o : Option Value), x + d = (F (14 + 3 * r + 0)).toNat ∧ (∀ z : Int, 0 ≤ z → z < x → ¬ cnH F t (12 * r + z)) → Wp E m_Rk_lowestHookThatCanHold 2 [some (.ref (rA B i r)), some (.int (zI x)), o] [] h Q := by
  intro d
  induction d with
  | zero =>
    intro x o hx
    obtain ⟨hx, hz⟩ := hx
    have rh := (hV.2.2.1 r r0 r1).1
    refine wp_iload_n (pc := 2) d_Rk_lowestHookThatCanHold_2 rfl ?_
    refine wp_aload_n (pc := 3) d_Rk_lowestHookThatCanHold_3 rfl ?_
    refine wp_getfield (pc := 4) d_Rk_lowestHookThatCanHold_4 f_Rk_17 (hW.rk hi (by omega) (by omega)) rfl ?_
    refine zp_icmp_ge (tgt := 35) (pc := 7) d_Rk_lowestHookThatCanHold_7 (by decide) ⟨by omega, by omega⟩ ⟨by omega, by omega⟩ (fun c7 => ?_) (fun c7 => absurd c7 (by omega))
    refine wp_aconst_null (pc := 35) d_Rk_lowestHookThatCanHold_35 ?_
    refine wp_areturn (pc := 36) d_Rk_lowestHookThatCanHold_36 rfl (Or.inl ⟨_, rfl⟩) (Or.inl rfl) ?_
    exact y0 fun y q0 q1 => hz y q0 (by omega)
  | succ d ih =>
    intro x o hx
    obtain ⟨hx, hz⟩ := hx
    have rh := (hV.2.2.1 r r0 r1).1
    refine wp_iload_n (pc := 2) d_Rk_lowestHookThatCanHold_2 rfl ?_
    refine wp_aload_n (pc := 3) d_Rk_lowestHookThatCanHold_3 rfl ?_
    refine wp_getfield (pc := 4) d_Rk_lowestHookThatCanHold_4 f_Rk_17 (hW.rk hi (by omega) (by omega)) rfl ?_
    refine zp_icmp_ge (tgt := 35) (pc := 7) d_Rk_lowestHookThatCanHold_7 (by decide) ⟨by omega, by omega⟩ ⟨by omega, by omega⟩ (fun c7 => absurd c7 (by omega)) (fun c7 => ?_)
    refine wp_aload_n (pc := 10) d_Rk_lowestHookThatCanHold_10 rfl ?_
    refine wp_iload_n (pc := 11) d_Rk_lowestHookThatCanHold_11 rfl ?_
    refine wv_callV (n := 1) (As := [_]) (pc := 12) d_Rk_lowestHookThatCanHold_12 s_Rk_31 q_Rk_hookAt ⟨by decide, by decide⟩ (hW.rk hi (by omega) (by omega)) rfl rfl rfl rfl (Nat.le_of_ble_eq_true rfl) (Nat.le_of_ble_eq_true rfl) ?_
    refine sp_Rk_hookAt hE hB hW hi r0 r1 rh ⟨by omega, by omega⟩ (fun q => absurd q (by omega)) (fun _ => ?_)
    refine ⟨_, rfl, ?_⟩
    refine st_a2 (pc := 15) d_Rk_lowestHookThatCanHold_15 (by decide) ?_
    refine wp_aload_n (pc := 16) d_Rk_lowestHookThatCanHold_16 rfl ?_
    refine wp_ifnull (pc := 17) d_Rk_lowestHookThatCanHold_17 ?_
    refine wp_aload_n (pc := 20) d_Rk_lowestHookThatCanHold_20 rfl ?_
    refine wv_callV (n := 0) (As := []) (pc := 21) d_Rk_lowestHookThatCanHold_21 s_Rk_53 q_Ho_canHold ⟨by decide, by decide⟩ (hW.hk hi (by omega) (by omega)) rfl rfl rfl rfl (Nat.le_of_ble_eq_true rfl) (Nat.le_of_ble_eq_true rfl) ?_
    refine sp_Ho_canHold hE hB hW hi (by omega) (by omega) (hT _ (by omega) (by omega)) (hV.2.2.2.1 (12 * r + x) (by omega) (by omega)).2.2.2.2.2.1 ?_
    refine ⟨_, rfl, ?_⟩
    refine zp_ifb_eq (tgt := 29) (pc := 24) d_Rk_lowestHookThatCanHold_24 (by decide) (fun c24 => ?_) (fun c24 => ?_)
    · refine st_c1 (pc := 29) d_Rk_lowestHookThatCanHold_29 (by decide) ?_
      refine wp_goto (tgt := 2) (pc := 32) d_Rk_lowestHookThatCanHold_32 (by decide) ?_
      have e : ((x + 1 : Nat) : Int) = (x : Int) + 1 := by omega
      have zz := ih (x + 1) (some (.ref (hA B i (12 * r + x)))) ⟨by omega, fun z q0 q1 => by
        by_cases q : z = x
        · subst q; exact c24
        · exact hz z q0 (by omega)⟩
      rw [e] at zz
      exact zz
    · refine wp_aload_n (pc := 27) d_Rk_lowestHookThatCanHold_27 rfl ?_
      refine wp_areturn (pc := 28) d_Rk_lowestHookThatCanHold_28 rfl (Or.inl ⟨_, rfl⟩) (Or.inr ⟨_, rfl⟩) ?_
      exact y1 x (by omega) (by omega) c24 hz
set_option maxRecDepth 100000 in
theorem sp_Rk_lowestHookThatCanHold (hE : gOk E) (hB : gB E ≤ B) (hW : CN B S h0 X T i h (F, t, A, N, V)) (hi : i < 6) {nv : Int} (hV : Vd nv F) (hT : rT t) {r : Int} (r0 : 0 ≤ r) (r1 : r < 5) (y0 : (∀ y : Int, 0 ≤ y → y < F (14 + 3 * r + 0) → ¬ cnH F t (12 * r + y)) → Q (some .null) h) (y1 : ∀ y : Int, 0 ≤ y → y < F (14 + 3 * r + 0) → cnH F t (12 * r + y) → (∀ z : Int, 0 ≤ z → z < y → ¬ cnH F t (12 * r + z)) → Q (some (.ref (hA B i (12 * r + y)))) h) : Wp E m_Rk_lowestHookThatCanHold 0 (gEnt m_Rk_lowestHookThatCanHold [.ref (rA B i r)]) [] h Q := by
  show Wp E m_Rk_lowestHookThatCanHold 0 [some (_), none, none] [] _ _
  refine wp_iconst (pc := 0) d_Rk_lowestHookThatCanHold_0 ?_
  refine st_i1 (pc := 1) d_Rk_lowestHookThatCanHold_1 (by decide) ?_
  exact lp_Rk_lowest hE hB hW hi hV hT r0 r1 y0 y1 (F (14 + 3 * r + 0)).toNat 0 none ⟨by omega, fun z q0 q1 => absurd q1 (by omega)⟩
set_option maxRecDepth 100000 in
theorem sp_St_rackAt (hE : gOk E) (hB : gB E ≤ B) (hW : CN B S h0 X T i h (F, t, A, N, V)) (hi : i < 6) {nv : Int} (hV : Vd nv F) {x : Int} (rx : gR x) (y0 : ¬ (0 ≤ x ∧ x < F 1) → Q (some .null) h) (y1 : 0 ≤ x ∧ x < F 1 → Q (some (.ref (rA B i x))) h) : Wp E m_St_rackAt 0 (gEnt m_St_rackAt [.ref (sA B i), .int (zI x)]) [] h Q := by
  have hs := hV.1
  show Wp E m_St_rackAt 0 [some (_), some (_)] [] _ _
  refine wp_iload_n (pc := 0) d_St_rackAt_0 rfl ?_
  refine zp_if_lt (tgt := 26) (pc := 1) d_St_rackAt_1 (by decide) rx (fun c1 => ?_) (fun c1 => ?_)
  · refine wp_aconst_null (pc := 26) d_St_rackAt_26 ?_
    refine wp_areturn (pc := 27) d_St_rackAt_27 rfl (Or.inl ⟨_, rfl⟩) (Or.inl rfl) ?_
    first | exact y0 (by omega) | exact y1 (by omega)
  · refine wp_iload_n (pc := 4) d_St_rackAt_4 rfl ?_
    refine wp_aload_n (pc := 5) d_St_rackAt_5 rfl ?_
    refine wp_getfield (pc := 6) d_St_rackAt_6 f_St_17 (hW.st hi) rfl ?_
    refine zp_icmp_ge (tgt := 26) (pc := 9) d_St_rackAt_9 (by decide) rx ⟨by omega, by omega⟩ (fun c9 => ?_) (fun c9 => ?_)
    · refine wp_aconst_null (pc := 26) d_St_rackAt_26 ?_
      refine wp_areturn (pc := 27) d_St_rackAt_27 rfl (Or.inl ⟨_, rfl⟩) (Or.inl rfl) ?_
      first | exact y0 (by omega) | exact y1 (by omega)
    · refine wp_iload_n (pc := 12) d_St_rackAt_12 rfl ?_
      refine wp_iconst (pc := 13) d_St_rackAt_13 ?_
      refine zp_icmp_ge (tgt := 26) (pc := 14) d_St_rackAt_14 (by decide) rx ⟨by omega, by omega⟩ (fun c14 => ?_) (fun c14 => ?_)
      · refine wp_aconst_null (pc := 26) d_St_rackAt_26 ?_
        refine wp_areturn (pc := 27) d_St_rackAt_27 rfl (Or.inl ⟨_, rfl⟩) (Or.inl rfl) ?_
        first | exact y0 (by omega) | exact y1 (by omega)
      · refine wp_aload_n (pc := 17) d_St_rackAt_17 rfl ?_
        refine wp_getfield (pc := 18) d_St_rackAt_18 f_St_11 (hW.st hi) rfl ?_
        refine wp_iload_n (pc := 21) d_St_rackAt_21 rfl ?_
        refine zp_aaload (pc := 22) d_St_rackAt_22 (f := fun r : Int => .ref (rA B i r)) hE.2.2.1 (hW.rs hi) (by omega) (by omega) (by decide) ?_
        refine wp_goto (tgt := 27) (pc := 23) d_St_rackAt_23 (by decide) ?_
        refine wp_areturn (pc := 27) d_St_rackAt_27 rfl (Or.inl ⟨_, rfl⟩) (Or.inr ⟨_, rfl⟩) ?_
        first | exact y0 (by omega) | exact y1 (by omega)
set_option maxRecDepth 100000 in
theorem sp_St_hookAt (hE : gOk E) (hB : gB E ≤ B) (hW : CN B S h0 X T i h (F, t, A, N, V)) (hi : i < 6) {nv : Int} (hV : Vd nv F) {x : Int} (rx : gR x) (y0 : ¬ isHk F x → Q (some .null) h) (y1 : isHk F x → Q (some (.ref (hA B i x))) h) : Wp E m_St_hookAt 0 (gEnt m_St_hookAt [.ref (sA B i), .int (zI x)]) [] h Q := by
  have hs := hV.1
  show Wp E m_St_hookAt 0 [some (_), some (_), none] [] _ _
  refine wp_iload_n (pc := 0) d_St_hookAt_0 rfl ?_
  refine zp_if_ge (tgt := 8) (pc := 1) d_St_hookAt_1 (by decide) rx (fun c1 => ?_) (fun c1 => ?_)
  · refine wp_aload_n (pc := 8) d_St_hookAt_8 rfl ?_
    refine wp_iload_n (pc := 9) d_St_hookAt_9 rfl ?_
    refine zp_bipush (pc := 10) d_St_hookAt_10 (by decide) ?_
    refine zp_idiv (pc := 12) d_St_hookAt_12 (by omega) (by omega) (by omega) (by omega) ?_
    rcases Decidable.em (0 ≤ x / 12 ∧ x / 12 < F 1) with c13 | c13
    · refine wv_callV (n := 1) (As := [_]) (pc := 13) d_St_hookAt_13 s_St_54 q_St_rackAt ⟨by decide, by decide⟩ (hW.st hi) rfl rfl rfl rfl (Nat.le_of_ble_eq_true rfl) (Nat.le_of_ble_eq_true rfl) ?_
      refine sp_St_rackAt hE hB hW hi hV ⟨by omega, by omega⟩ (fun q => absurd c13 q) (fun _ => ?_)
      refine ⟨_, rfl, ?_⟩
      refine st_a2 (pc := 16) d_St_hookAt_16 (by decide) ?_
      refine wp_aload_n (pc := 17) d_St_hookAt_17 rfl ?_
      refine wp_ifnonnull (tgt := 25) (pc := 18) d_St_hookAt_18 (by decide) ?_
      refine wp_aload_n (pc := 25) d_St_hookAt_25 rfl ?_
      refine wp_iload_n (pc := 26) d_St_hookAt_26 rfl ?_
      refine zp_bipush (pc := 27) d_St_hookAt_27 (by decide) ?_
      refine zp_irem (pc := 29) d_St_hookAt_29 (by omega) (by omega) (by omega) (by omega) ?_
      rcases Decidable.em (0 ≤ x % 12 ∧ x % 12 < F (14 + 3 * (x / 12) + 0)) with c30 | c30
      · refine wv_callV (n := 1) (As := [_]) (pc := 30) d_St_hookAt_30 s_St_58 q_Rk_hookAt ⟨by decide, by decide⟩ (hW.rk hi (by omega) (by omega)) rfl rfl rfl rfl (Nat.le_of_ble_eq_true rfl) (Nat.le_of_ble_eq_true rfl) ?_
        refine sp_Rk_hookAt hE hB hW hi (by omega) (by omega) (hV.2.2.1 (x / 12) (by omega) (by omega)).1 ⟨by omega, by omega⟩ (fun q => absurd c30 q) (fun _ => ?_)
        refine ⟨_, rfl, ?_⟩
        rw [show 12 * (x / 12) + x % 12 = x by omega]
        refine wp_areturn (pc := 33) d_St_hookAt_33 rfl (Or.inl ⟨_, rfl⟩) (Or.inr ⟨_, rfl⟩) ?_
        first | exact y0 (by omega) | exact y1 ⟨by omega, by have := (hV.2.2.1 (x / 12) (by omega) (by omega)).1; omega, by omega, by omega⟩
      · refine wv_callV (n := 1) (As := [_]) (pc := 30) d_St_hookAt_30 s_St_58 q_Rk_hookAt ⟨by decide, by decide⟩ (hW.rk hi (by omega) (by omega)) rfl rfl rfl rfl (Nat.le_of_ble_eq_true rfl) (Nat.le_of_ble_eq_true rfl) ?_
        refine sp_Rk_hookAt hE hB hW hi (by omega) (by omega) (hV.2.2.1 (x / 12) (by omega) (by omega)).1 ⟨by omega, by omega⟩ (fun _ => ?_) (fun q => absurd q c30)
        refine ⟨_, rfl, ?_⟩
        skip
        refine wp_areturn (pc := 33) d_St_hookAt_33 rfl (Or.inl ⟨_, rfl⟩) (Or.inl rfl) ?_
        first | exact y0 (by omega) | exact y1 ⟨by omega, by have := (hV.2.2.1 (x / 12) (by omega) (by omega)).1; omega, by omega, by omega⟩
    · refine wv_callV (n := 1) (As := [_]) (pc := 13) d_St_hookAt_13 s_St_54 q_St_rackAt ⟨by decide, by decide⟩ (hW.st hi) rfl rfl rfl rfl (Nat.le_of_ble_eq_true rfl) (Nat.le_of_ble_eq_true rfl) ?_
      refine sp_St_rackAt hE hB hW hi hV ⟨by omega, by omega⟩ (fun _ => ?_) (fun q => absurd q c13)
      refine ⟨_, rfl, ?_⟩
      refine st_N2 (pc := 16) d_St_hookAt_16 (by decide) ?_
      refine wp_aload_nN (pc := 17) d_St_hookAt_17 rfl ?_
      refine wp_ifnonnullN (pc := 18) d_St_hookAt_18 ?_
      refine wp_aconst_null (pc := 21) d_St_hookAt_21 ?_
      refine wp_goto (tgt := 33) (pc := 22) d_St_hookAt_22 (by decide) ?_
      refine wp_areturn (pc := 33) d_St_hookAt_33 rfl (Or.inl ⟨_, rfl⟩) (Or.inl rfl) ?_
      first | exact y0 (by omega) | exact y1 ⟨by omega, by have := (hV.2.2.1 (x / 12) (by omega) (by omega)).1; omega, by omega, by omega⟩
  · refine wp_aconst_null (pc := 4) d_St_hookAt_4 ?_
    refine wp_goto (tgt := 16) (pc := 5) d_St_hookAt_5 (by decide) ?_
    refine st_N2 (pc := 16) d_St_hookAt_16 (by decide) ?_
    refine wp_aload_nN (pc := 17) d_St_hookAt_17 rfl ?_
    refine wp_ifnonnullN (pc := 18) d_St_hookAt_18 ?_
    refine wp_aconst_null (pc := 21) d_St_hookAt_21 ?_
    refine wp_goto (tgt := 33) (pc := 22) d_St_hookAt_22 (by decide) ?_
    refine wp_areturn (pc := 33) d_St_hookAt_33 rfl (Or.inl ⟨_, rfl⟩) (Or.inl rfl) ?_
    first | exact y0 (by omega) | exact y1 ⟨by omega, by have := (hV.2.2.1 (x / 12) (by omega) (by omega)).1; omega, by omega, by omega⟩
set_option maxRecDepth 100000 in
theorem sp_St_coatAt (hE : gOk E) (hB : gB E ≤ B) (hW : CN B S h0 X T i h (F, t, A, N, V)) (hi : i < 6) {nv : Int} (hV : Vd nv F) (hT : rT t) {x : Int} (rx : gR x) (y0 : ¬ (isHk F x ∧ ¬ t x = -1) → Q (some .null) h) (y1 : isHk F x ∧ ¬ t x = -1 → Q (some (.ref (hA B i x))) h) : Wp E m_St_coatAt 0 (gEnt m_St_coatAt [.ref (sA B i), .int (zI x)]) [] h Q := by
  show Wp E m_St_coatAt 0 [some (_), some (_), none] [] _ _
  refine wp_aload_n (pc := 0) d_St_coatAt_0 rfl ?_
  refine wp_iload_n (pc := 1) d_St_coatAt_1 rfl ?_
  rcases Decidable.em (isHk F x) with c2 | c2
  · refine wv_callV (n := 1) (As := [_]) (pc := 2) d_St_coatAt_2 s_St_62 q_St_hookAt ⟨by decide, by decide⟩ (hW.st hi) rfl rfl rfl rfl (Nat.le_of_ble_eq_true rfl) (Nat.le_of_ble_eq_true rfl) ?_
    refine sp_St_hookAt hE hB hW hi hV rx (fun q => absurd c2 q) (fun _ => ?_)
    refine ⟨_, rfl, ?_⟩
    refine st_a2 (pc := 5) d_St_coatAt_5 (by decide) ?_
    refine wp_aload_n (pc := 6) d_St_coatAt_6 rfl ?_
    refine wp_ifnull (pc := 7) d_St_coatAt_7 ?_
    refine wp_aload_n (pc := 10) d_St_coatAt_10 rfl ?_
    refine wv_callV (n := 0) (As := []) (pc := 11) d_St_coatAt_11 s_St_63 q_Ho_holdsCoat ⟨by decide, by decide⟩ (hW.hk hi (by omega) (by omega)) rfl rfl rfl rfl (Nat.le_of_ble_eq_true rfl) (Nat.le_of_ble_eq_true rfl) ?_
    refine sp_Ho_holdsCoat hE hB hW hi (by omega) (by omega) (hT x (by omega) (by omega)) ?_
    refine ⟨_, rfl, ?_⟩
    refine zp_ifb_eq (tgt := 21) (pc := 14) d_St_coatAt_14 (by decide) (fun c14 => ?_) (fun c14 => ?_)
    · refine wp_aconst_null (pc := 21) d_St_coatAt_21 ?_
      refine wp_areturn (pc := 22) d_St_coatAt_22 rfl (Or.inl ⟨_, rfl⟩) (Or.inl rfl) ?_
      first | exact y0 (fun q => c2 q.1) | exact y0 (fun q => c14 q.2) | exact y1 ⟨c2, c14⟩
    · refine wp_aload_n (pc := 17) d_St_coatAt_17 rfl ?_
      refine wp_goto (tgt := 22) (pc := 18) d_St_coatAt_18 (by decide) ?_
      refine wp_areturn (pc := 22) d_St_coatAt_22 rfl (Or.inl ⟨_, rfl⟩) (Or.inr ⟨_, rfl⟩) ?_
      first | exact y0 (fun q => c2 q.1) | exact y0 (fun q => c14 q.2) | exact y1 ⟨c2, c14⟩
  · refine wv_callV (n := 1) (As := [_]) (pc := 2) d_St_coatAt_2 s_St_62 q_St_hookAt ⟨by decide, by decide⟩ (hW.st hi) rfl rfl rfl rfl (Nat.le_of_ble_eq_true rfl) (Nat.le_of_ble_eq_true rfl) ?_
    refine sp_St_hookAt hE hB hW hi hV rx (fun _ => ?_) (fun q => absurd q c2)
    refine ⟨_, rfl, ?_⟩
    refine st_N2 (pc := 5) d_St_coatAt_5 (by decide) ?_
    refine wp_aload_nN (pc := 6) d_St_coatAt_6 rfl ?_
    refine wp_ifnullN (tgt := 21) (pc := 7) d_St_coatAt_7 (by decide) ?_
    refine wp_aconst_null (pc := 21) d_St_coatAt_21 ?_
    refine wp_areturn (pc := 22) d_St_coatAt_22 rfl (Or.inl ⟨_, rfl⟩) (Or.inl rfl) ?_
    first | exact y0 (fun q => c2 q.1) | exact y0 (fun q => c14 q.2) | exact y1 ⟨c2, c14⟩
end S37
