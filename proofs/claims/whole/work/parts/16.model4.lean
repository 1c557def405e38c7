/-! ===== the reference: sums, copies, the best hook ===== -/
section S16
variable {E : gE} {mo : Nat} {h : gH} {F g : Int → Int} {sn kp ln : Int} {Q : Option Value → gH → Prop}
set_option maxRecDepth 100000 in
theorem lp_Md_coats (hE : gOk E) (k : Q (some (.int (zI (sm (fun x => F (29 + 8 * x + 1)) 60)))) (MH mo h F sn kp g ln)) : ∀ (d i : Nat), i + d = 60 → Wp E m_Md_coats 4 [some (.ref mo), some (.int (zI (sm (fun x => F (29 + 8 * x + 1)) i))), some (.int (zI i))] [] (MH mo h F sn kp g ln) Q := by
  intro d
  induction d with
  | zero =>
    intro i hi
    refine wp_iload_n (pc := 4) d_Md_coats_4 rfl ?_
    refine zp_bipush (pc := 5) d_Md_coats_5 (by decide) ?_
    refine zp_icmp_ge (tgt := 29) (pc := 7) d_Md_coats_7 (by decide) ⟨by omega, by omega⟩ ⟨by omega, by omega⟩ (fun c7 => ?_) (fun c7 => absurd c7 (by omega))
    obtain rfl : i = 60 := by omega
    refine wp_iload_n (pc := 29) d_Md_coats_29 rfl ?_
    refine zp_ireturn (pc := 30) d_Md_coats_30 rfl ?_
    exact k
  | succ d ih =>
    intro i hi
    refine wp_iload_n (pc := 4) d_Md_coats_4 rfl ?_
    refine zp_bipush (pc := 5) d_Md_coats_5 (by decide) ?_
    refine zp_icmp_ge (tgt := 29) (pc := 7) d_Md_coats_7 (by decide) ⟨by omega, by omega⟩ ⟨by omega, by omega⟩ (fun c7 => absurd c7 (by omega)) (fun c7 => ?_)
    refine wp_iload_n (pc := 10) d_Md_coats_10 rfl ?_
    refine wp_aload_n (pc := 11) d_Md_coats_11 rfl ?_
    refine wp_getfield (pc := 12) d_Md_coats_12 f_Md_8 MH_o rfl ?_
    refine wp_iload_n (pc := 15) d_Md_coats_15 rfl ?_
    refine wp_iconst (pc := 16) d_Md_coats_16 ?_
    refine wv_callS (n := 2) (As := [_, _]) (pc := 17) d_Md_coats_17 s_Md_50 q_Md_of ⟨by decide, by decide⟩ rfl rfl rfl (Nat.le_of_ble_eq_true rfl) (Nat.le_of_ble_eq_true rfl) ?_
    refine sp_Md_of ?_
    refine ⟨_, rfl, ?_⟩
    refine zp_iaload (pc := 20) d_Md_coats_20 hE.1 MH_r (by omega) (by omega) (by decide) ?_
    refine zp_iadd (pc := 21) d_Md_coats_21 ?_
    refine st_i1 (pc := 22) d_Md_coats_22 (by decide) ?_
    refine st_c2 (pc := 23) d_Md_coats_23 (by decide) ?_
    refine wp_goto (tgt := 4) (pc := 26) d_Md_coats_26 (by decide) ?_
    have e : ((i + 1 : Nat) : Int) = (i : Int) + 1 := by omega
    have zz := ih (i + 1) (by omega)
    rw [e] at zz
    exact zz
set_option maxRecDepth 100000 in
theorem sp_Md_coats (hE : gOk E) (k : Q (some (.int (zI (sm (fun x => F (29 + 8 * x + 1)) 60)))) (MH mo h F sn kp g ln)) : Wp E m_Md_coats 0 (gEnt m_Md_coats [.ref mo]) [] (MH mo h F sn kp g ln) Q := by
  show Wp E m_Md_coats 0 [some (_), none, none] [] _ _
  refine wp_iconst (pc := 0) d_Md_coats_0 ?_
  refine st_i1 (pc := 1) d_Md_coats_1 (by decide) ?_
  refine wp_iconst (pc := 2) d_Md_coats_2 ?_
  refine st_i2 (pc := 3) d_Md_coats_3 (by decide) ?_
  exact lp_Md_coats hE k 60 0 rfl
set_option maxRecDepth 100000 in
theorem lp_Md_retired (hE : gOk E) (k : Q (some (.int (zI (sm (fun x => F (29 + 8 * x + 5)) 60)))) (MH mo h F sn kp g ln)) : ∀ (d i : Nat), i + d = 60 → Wp E m_Md_retired 4 [some (.ref mo), some (.int (zI (sm (fun x => F (29 + 8 * x + 5)) i))), some (.int (zI i))] [] (MH mo h F sn kp g ln) Q := by
  intro d
  induction d with
  | zero =>
    intro i hi
    refine wp_iload_n (pc := 4) d_Md_retired_4 rfl ?_
    refine zp_bipush (pc := 5) d_Md_retired_5 (by decide) ?_
    refine zp_icmp_ge (tgt := 29) (pc := 7) d_Md_retired_7 (by decide) ⟨by omega, by omega⟩ ⟨by omega, by omega⟩ (fun c7 => ?_) (fun c7 => absurd c7 (by omega))
    obtain rfl : i = 60 := by omega
    refine wp_iload_n (pc := 29) d_Md_retired_29 rfl ?_
    refine zp_ireturn (pc := 30) d_Md_retired_30 rfl ?_
    exact k
  | succ d ih =>
    intro i hi
    refine wp_iload_n (pc := 4) d_Md_retired_4 rfl ?_
    refine zp_bipush (pc := 5) d_Md_retired_5 (by decide) ?_
    refine zp_icmp_ge (tgt := 29) (pc := 7) d_Md_retired_7 (by decide) ⟨by omega, by omega⟩ ⟨by omega, by omega⟩ (fun c7 => absurd c7 (by omega)) (fun c7 => ?_)
    refine wp_iload_n (pc := 10) d_Md_retired_10 rfl ?_
    refine wp_aload_n (pc := 11) d_Md_retired_11 rfl ?_
    refine wp_getfield (pc := 12) d_Md_retired_12 f_Md_8 MH_o rfl ?_
    refine wp_iload_n (pc := 15) d_Md_retired_15 rfl ?_
    refine wp_iconst (pc := 16) d_Md_retired_16 ?_
    refine wv_callS (n := 2) (As := [_, _]) (pc := 17) d_Md_retired_17 s_Md_50 q_Md_of ⟨by decide, by decide⟩ rfl rfl rfl (Nat.le_of_ble_eq_true rfl) (Nat.le_of_ble_eq_true rfl) ?_
    refine sp_Md_of ?_
    refine ⟨_, rfl, ?_⟩
    refine zp_iaload (pc := 20) d_Md_retired_20 hE.1 MH_r (by omega) (by omega) (by decide) ?_
    refine zp_iadd (pc := 21) d_Md_retired_21 ?_
    refine st_i1 (pc := 22) d_Md_retired_22 (by decide) ?_
    refine st_c2 (pc := 23) d_Md_retired_23 (by decide) ?_
    refine wp_goto (tgt := 4) (pc := 26) d_Md_retired_26 (by decide) ?_
    have e : ((i + 1 : Nat) : Int) = (i : Int) + 1 := by omega
    have zz := ih (i + 1) (by omega)
    rw [e] at zz
    exact zz
set_option maxRecDepth 100000 in
theorem sp_Md_retired (hE : gOk E) (k : Q (some (.int (zI (sm (fun x => F (29 + 8 * x + 5)) 60)))) (MH mo h F sn kp g ln)) : Wp E m_Md_retired 0 (gEnt m_Md_retired [.ref mo]) [] (MH mo h F sn kp g ln) Q := by
  show Wp E m_Md_retired 0 [some (_), none, none] [] _ _
  refine wp_iconst (pc := 0) d_Md_retired_0 ?_
  refine st_i1 (pc := 1) d_Md_retired_1 (by decide) ?_
  refine wp_iconst (pc := 2) d_Md_retired_2 ?_
  refine st_i2 (pc := 3) d_Md_retired_3 (by decide) ?_
  exact lp_Md_retired hE k 60 0 rfl
set_option maxRecDepth 100000 in
theorem lp_Md_coatsOn (hE : gOk E) {x : Int} (h0 : 0 ≤ x) (h1 : x < 5) (k : Q (some (.int (zI (sm (fun y => F (29 + 8 * (12 * x + y) + 1)) 12)))) (MH mo h F sn kp g ln)) : ∀ (d i : Nat), i + d = 12 → Wp E m_Md_coatsOn 7 [some (.ref mo), some (.int (zI x)), some (.int (zI (sm (fun y => F (29 + 8 * (12 * x + y) + 1)) i))), some (.int (zI (12 * x + i)))] [] (MH mo h F sn kp g ln) Q := by
  intro d
  induction d with
  | zero =>
    intro i hi
    refine wp_iload_n (pc := 7) d_Md_coatsOn_7 rfl ?_
    refine zp_bipush (pc := 8) d_Md_coatsOn_8 (by decide) ?_
    refine wp_iload_n (pc := 10) d_Md_coatsOn_10 rfl ?_
    refine zp_imul (pc := 11) d_Md_coatsOn_11 ?_
    refine zp_bipush (pc := 12) d_Md_coatsOn_12 (by decide) ?_
    refine zp_iadd (pc := 14) d_Md_coatsOn_14 ?_
    refine zp_icmp_ge (tgt := 37) (pc := 15) d_Md_coatsOn_15 (by decide) ⟨by omega, by omega⟩ ⟨by omega, by omega⟩ (fun c15 => ?_) (fun c15 => absurd c15 (by omega))
    obtain rfl : i = 12 := by omega
    refine wp_iload_n (pc := 37) d_Md_coatsOn_37 rfl ?_
    refine zp_ireturn (pc := 38) d_Md_coatsOn_38 rfl ?_
    exact k
  | succ d ih =>
    intro i hi
    refine wp_iload_n (pc := 7) d_Md_coatsOn_7 rfl ?_
    refine zp_bipush (pc := 8) d_Md_coatsOn_8 (by decide) ?_
    refine wp_iload_n (pc := 10) d_Md_coatsOn_10 rfl ?_
    refine zp_imul (pc := 11) d_Md_coatsOn_11 ?_
    refine zp_bipush (pc := 12) d_Md_coatsOn_12 (by decide) ?_
    refine zp_iadd (pc := 14) d_Md_coatsOn_14 ?_
    refine zp_icmp_ge (tgt := 37) (pc := 15) d_Md_coatsOn_15 (by decide) ⟨by omega, by omega⟩ ⟨by omega, by omega⟩ (fun c15 => absurd c15 (by omega)) (fun c15 => ?_)
    refine wp_iload_n (pc := 18) d_Md_coatsOn_18 rfl ?_
    refine wp_aload_n (pc := 19) d_Md_coatsOn_19 rfl ?_
    refine wp_getfield (pc := 20) d_Md_coatsOn_20 f_Md_8 MH_o rfl ?_
    refine wp_iload_n (pc := 23) d_Md_coatsOn_23 rfl ?_
    refine wp_iconst (pc := 24) d_Md_coatsOn_24 ?_
    refine wv_callS (n := 2) (As := [_, _]) (pc := 25) d_Md_coatsOn_25 s_Md_50 q_Md_of ⟨by decide, by decide⟩ rfl rfl rfl (Nat.le_of_ble_eq_true rfl) (Nat.le_of_ble_eq_true rfl) ?_
    refine sp_Md_of ?_
    refine ⟨_, rfl, ?_⟩
    refine zp_iaload (pc := 28) d_Md_coatsOn_28 hE.1 MH_r (by omega) (by omega) (by decide) ?_
    refine zp_iadd (pc := 29) d_Md_coatsOn_29 ?_
    refine st_i2 (pc := 30) d_Md_coatsOn_30 (by decide) ?_
    refine st_c3 (pc := 31) d_Md_coatsOn_31 (by decide) ?_
    refine wp_goto (tgt := 7) (pc := 34) d_Md_coatsOn_34 (by decide) ?_
    have e : ((i + 1 : Nat) : Int) = (i : Int) + 1 := by omega
    have zz := ih (i + 1) (by omega)
    rw [e] at zz
    rw [show 12 * x + ((i : Int) + 1) = 12 * x + i + 1 by omega] at zz
    exact zz
set_option maxRecDepth 100000 in
theorem sp_Md_coatsOn (hE : gOk E) {x : Int} (h0 : 0 ≤ x) (h1 : x < 5) (k : Q (some (.int (zI (sm (fun y => F (29 + 8 * (12 * x + y) + 1)) 12)))) (MH mo h F sn kp g ln)) : Wp E m_Md_coatsOn 0 (gEnt m_Md_coatsOn [.ref mo, .int (zI x)]) [] (MH mo h F sn kp g ln) Q := by
  show Wp E m_Md_coatsOn 0 [some (_), some (_), none, none] [] _ _
  refine wp_iconst (pc := 0) d_Md_coatsOn_0 ?_
  refine st_i2 (pc := 1) d_Md_coatsOn_1 (by decide) ?_
  refine zp_bipush (pc := 2) d_Md_coatsOn_2 (by decide) ?_
  refine wp_iload_n (pc := 4) d_Md_coatsOn_4 rfl ?_
  refine zp_imul (pc := 5) d_Md_coatsOn_5 ?_
  refine st_i3 (pc := 6) d_Md_coatsOn_6 (by decide) ?_
  have zz := lp_Md_coatsOn (F := F) (mo := mo) (h := h) hE h0 h1 k 12 0 rfl
  rw [show 12 * x + ((0 : Nat) : Int) = 12 * x by omega] at zz
  exact zz
set_option maxRecDepth 100000 in
theorem lp_Md_copy (hE : gOk E) (hB : gB E ≤ mo) {a b : Int} (ha : 0 ≤ a) (ha2 : a + 6559 ≤ 45913) (hb : 0 ≤ b) (hb2 : b + 6559 ≤ 45913) (hd : a + 6559 ≤ b ∨ b + 6559 ≤ a) (k : Q none (MH mo h (cpF F a b) sn kp g ln)) : ∀ (d i : Nat), i + d = 6559 → Wp E m_Md_copy 2 [some (.ref mo), some (.int (zI a)), some (.int (zI b)), some (.int (zI i))] [] (MH mo h (cpk F a b i) sn kp g ln) Q := by
  intro d
  induction d with
  | zero =>
    intro i hi
    have hB1 : gB E ≤ mo + 1 := by omega
    refine wp_iload_n (pc := 2) d_Md_copy_2 rfl ?_
    refine zp_sipush (pc := 3) d_Md_copy_3 (by decide) ?_
    refine zp_icmp_ge (tgt := 31) (pc := 6) d_Md_copy_6 (by decide) ⟨by omega, by omega⟩ ⟨by omega, by omega⟩ (fun c6 => ?_) (fun c6 => absurd c6 (by omega))
    obtain rfl : i = 6559 := by omega
    refine wp_return (pc := 31) d_Md_copy_31 rfl ?_
    exact k
  | succ d ih =>
    intro i hi
    have hB1 : gB E ≤ mo + 1 := by omega
    refine wp_iload_n (pc := 2) d_Md_copy_2 rfl ?_
    refine zp_sipush (pc := 3) d_Md_copy_3 (by decide) ?_
    refine zp_icmp_ge (tgt := 31) (pc := 6) d_Md_copy_6 (by decide) ⟨by omega, by omega⟩ ⟨by omega, by omega⟩ (fun c6 => absurd c6 (by omega)) (fun c6 => ?_)
    refine wp_aload_n (pc := 9) d_Md_copy_9 rfl ?_
    refine wp_getfield (pc := 10) d_Md_copy_10 f_Md_8 MH_o rfl ?_
    refine wp_iload_n (pc := 13) d_Md_copy_13 rfl ?_
    refine wp_iload_n (pc := 14) d_Md_copy_14 rfl ?_
    refine zp_iadd (pc := 15) d_Md_copy_15 ?_
    refine wp_aload_n (pc := 16) d_Md_copy_16 rfl ?_
    refine wp_getfield (pc := 17) d_Md_copy_17 f_Md_8 MH_o rfl ?_
    refine wp_iload_n (pc := 20) d_Md_copy_20 rfl ?_
    refine wp_iload_n (pc := 21) d_Md_copy_21 rfl ?_
    refine zp_iadd (pc := 22) d_Md_copy_22 ?_
    refine zp_iaload (pc := 23) d_Md_copy_23 hE.1 MH_r (by omega) (by omega) (by decide) ?_
    refine zp_iastore (pc := 24) d_Md_copy_24 hE.1 MH_r hB1 (by omega) (by omega) (by decide) ?_
    rw [MH_pr]
    rw [cpk_s F (by omega) (by omega)]
    refine st_c3 (pc := 25) d_Md_copy_25 (by decide) ?_
    refine wp_goto (tgt := 2) (pc := 28) d_Md_copy_28 (by decide) ?_
    have e : ((i + 1 : Nat) : Int) = (i : Int) + 1 := by omega
    have zz := ih (i + 1) (by omega)
    rw [e] at zz
    exact zz
set_option maxRecDepth 100000 in
theorem sp_Md_copy (hE : gOk E) (hB : gB E ≤ mo) {a b : Int} (ha : 0 ≤ a) (ha2 : a + 6559 ≤ 45913) (hb : 0 ≤ b) (hb2 : b + 6559 ≤ 45913) (hd : a + 6559 ≤ b ∨ b + 6559 ≤ a) (k : Q none (MH mo h (cpF F a b) sn kp g ln)) : Wp E m_Md_copy 0 (gEnt m_Md_copy [.ref mo, .int (zI a), .int (zI b)]) [] (MH mo h F sn kp g ln) Q := by
  show Wp E m_Md_copy 0 [some (_), some (_), some (_), none] [] _ _
  refine wp_iconst (pc := 0) d_Md_copy_0 ?_
  refine st_i3 (pc := 1) d_Md_copy_1 (by decide) ?_
  have zz := lp_Md_copy (F := F) (mo := mo) (h := h) hE hB ha ha2 hb hb2 hd k 6559 0 rfl
  rw [show ((0 : Nat) : Int) = 0 from rfl, cpk_0] at zz
  exact zz
set_option maxRecDepth 100000 in
theorem sp_Md_rankOf (hE : gOk E) {n x : Int} (hV : Vd n F) (h0 : 0 ≤ x) (h1 : x < 60) (k : Q (some (.int (zI (rk F x)))) (MH mo h F sn kp g ln)) : Wp E m_Md_rankOf 0 (gEnt m_Md_rankOf [.ref mo, .int (zI x)]) [] (MH mo h F sn kp g ln) Q := by
  have hs := hV.1
  show Wp E m_Md_rankOf 0 [some (_), some (_), none] [] _ _
  refine wp_aload_n (pc := 0) d_Md_rankOf_0 rfl ?_
  refine wp_getfield (pc := 1) d_Md_rankOf_1 f_Md_8 MH_o rfl ?_
  refine wp_iconst (pc := 4) d_Md_rankOf_4 ?_
  refine zp_iaload (pc := 5) d_Md_rankOf_5 hE.1 MH_r (by omega) (by omega) (by decide) ?_
  refine st_i2 (pc := 6) d_Md_rankOf_6 (by decide) ?_
  refine wp_iload_n (pc := 7) d_Md_rankOf_7 rfl ?_
  refine zp_if_ne (tgt := 15) (pc := 8) d_Md_rankOf_8 (by decide) ⟨by omega, by omega⟩ (fun c8 => ?_) (fun c8 => ?_)
  · refine wp_iload_n (pc := 15) d_Md_rankOf_15 rfl ?_
    refine wp_iconst (pc := 16) d_Md_rankOf_16 ?_
    refine zp_icmp_ne (tgt := 35) (pc := 17) d_Md_rankOf_17 (by decide) ⟨by omega, by omega⟩ ⟨by omega, by omega⟩ (fun c17 => ?_) (fun c17 => ?_)
    · refine wp_iload_n (pc := 35) d_Md_rankOf_35 rfl ?_
      refine wp_iconst (pc := 36) d_Md_rankOf_36 ?_
      refine zp_icmp_ne (tgt := 54) (pc := 37) d_Md_rankOf_37 (by decide) ⟨by omega, by omega⟩ ⟨by omega, by omega⟩ (fun c37 => ?_) (fun c37 => ?_)
      · refine wp_aload_n (pc := 54) d_Md_rankOf_54 rfl ?_
        refine wp_getfield (pc := 55) d_Md_rankOf_55 f_Md_8 MH_o rfl ?_
        refine wp_iload_n (pc := 58) d_Md_rankOf_58 rfl ?_
        refine wp_iconst (pc := 59) d_Md_rankOf_59 ?_
        refine wv_callS (n := 2) (As := [_, _]) (pc := 60) d_Md_rankOf_60 s_Md_50 q_Md_of ⟨by decide, by decide⟩ rfl rfl rfl (Nat.le_of_ble_eq_true rfl) (Nat.le_of_ble_eq_true rfl) ?_
        refine sp_Md_of ?_
        refine ⟨_, rfl, ?_⟩
        refine zp_iaload (pc := 63) d_Md_rankOf_63 hE.1 MH_r (by omega) (by omega) (by decide) ?_
        refine zp_ireturn (pc := 64) d_Md_rankOf_64 rfl ?_
        unfold rk at k; first | (rw [if_pos c8] at k; exact k) | (rw [if_neg c8, if_pos c17] at k; exact k) | (rw [if_neg c8, if_neg c17, if_pos c37] at k; exact k) | (rw [if_neg c8, if_neg c17, if_neg c37] at k; exact k)
      · refine wp_aload_n (pc := 40) d_Md_rankOf_40 rfl ?_
        refine wp_getfield (pc := 41) d_Md_rankOf_41 f_Md_8 MH_o rfl ?_
        refine wp_iload_n (pc := 44) d_Md_rankOf_44 rfl ?_
        refine zp_bipush (pc := 45) d_Md_rankOf_45 (by decide) ?_
        refine wv_callS (n := 2) (As := [_, _]) (pc := 47) d_Md_rankOf_47 s_Md_50 q_Md_of ⟨by decide, by decide⟩ rfl rfl rfl (Nat.le_of_ble_eq_true rfl) (Nat.le_of_ble_eq_true rfl) ?_
        refine sp_Md_of ?_
        refine ⟨_, rfl, ?_⟩
        refine zp_iaload (pc := 50) d_Md_rankOf_50 hE.1 MH_r (by omega) (by omega) (by decide) ?_
        refine wp_goto (tgt := 64) (pc := 51) d_Md_rankOf_51 (by decide) ?_
        refine zp_ireturn (pc := 64) d_Md_rankOf_64 rfl ?_
        unfold rk at k; first | (rw [if_pos c8] at k; exact k) | (rw [if_neg c8, if_pos c17] at k; exact k) | (rw [if_neg c8, if_neg c17, if_pos c37] at k; exact k) | (rw [if_neg c8, if_neg c17, if_neg c37] at k; exact k)
    · refine wp_aload_n (pc := 20) d_Md_rankOf_20 rfl ?_
      refine wp_getfield (pc := 21) d_Md_rankOf_21 f_Md_8 MH_o rfl ?_
      refine wp_iload_n (pc := 24) d_Md_rankOf_24 rfl ?_
      refine zp_bipush (pc := 25) d_Md_rankOf_25 (by decide) ?_
      refine wv_callS (n := 2) (As := [_, _]) (pc := 27) d_Md_rankOf_27 s_Md_50 q_Md_of ⟨by decide, by decide⟩ rfl rfl rfl (Nat.le_of_ble_eq_true rfl) (Nat.le_of_ble_eq_true rfl) ?_
      refine sp_Md_of ?_
      refine ⟨_, rfl, ?_⟩
      refine zp_iaload (pc := 30) d_Md_rankOf_30 hE.1 MH_r (by omega) (by omega) (by decide) ?_
      refine zp_ineg (pc := 31) d_Md_rankOf_31 ?_
      refine wp_goto (tgt := 64) (pc := 32) d_Md_rankOf_32 (by decide) ?_
      refine zp_ireturn (pc := 64) d_Md_rankOf_64 rfl ?_
      unfold rk at k; first | (rw [if_pos c8] at k; exact k) | (rw [if_neg c8, if_pos c17] at k; exact k) | (rw [if_neg c8, if_neg c17, if_pos c37] at k; exact k) | (rw [if_neg c8, if_neg c17, if_neg c37] at k; exact k)
  · refine wp_iconst (pc := 11) d_Md_rankOf_11 ?_
    refine wp_goto (tgt := 64) (pc := 12) d_Md_rankOf_12 (by decide) ?_
    refine zp_ireturn (pc := 64) d_Md_rankOf_64 rfl ?_
    unfold rk at k; first | (rw [if_pos c8] at k; exact k) | (rw [if_neg c8, if_pos c17] at k; exact k) | (rw [if_neg c8, if_neg c17, if_pos c37] at k; exact k) | (rw [if_neg c8, if_neg c17, if_neg c37] at k; exact k)
set_option maxRecDepth 100000 in
theorem lp_Md_hookFor (hE : gOk E) {n z : Int} (hV : Vd n F) (hn : n ≤ 1000000000) (rz : gR z) (k : Q (some (.int (zI (bst F z 60)))) (MH mo h F sn kp g ln)) : ∀ (d i : Nat), i + d = 60 → Wp E m_Md_hookFor 5 [some (.ref mo), some (.int (zI z)), some (.int (zI (bst F z i))), some (.int (zI i))] [] (MH mo h F sn kp g ln) Q := by
  intro d
  induction d with
  | zero =>
    intro i hi
    refine wp_iload_n (pc := 5) d_Md_hookFor_5 rfl ?_
    refine zp_bipush (pc := 6) d_Md_hookFor_6 (by decide) ?_
    refine zp_icmp_ge (tgt := 51) (pc := 8) d_Md_hookFor_8 (by decide) ⟨by omega, by omega⟩ ⟨by omega, by omega⟩ (fun c8 => ?_) (fun c8 => absurd c8 (by omega))
    obtain rfl : i = 60 := by omega
    refine wp_iload_n (pc := 51) d_Md_hookFor_51 rfl ?_
    refine zp_ireturn (pc := 52) d_Md_hookFor_52 rfl ?_
    exact k
  | succ d ih =>
    intro i hi
    have hbb := bst_b F z i
    have rkb : ∀ x : Int, 0 ≤ x → x < 60 → gR (rk F x) := fun x h0 h1 => by
      have hk := hV.2.2.2.1 x h0 h1
      unfold rk
      repeat (first | (constructor <;> omega) | split)
    refine wp_iload_n (pc := 5) d_Md_hookFor_5 rfl ?_
    refine zp_bipush (pc := 6) d_Md_hookFor_6 (by decide) ?_
    refine zp_icmp_ge (tgt := 51) (pc := 8) d_Md_hookFor_8 (by decide) ⟨by omega, by omega⟩ ⟨by omega, by omega⟩ (fun c8 => absurd c8 (by omega)) (fun c8 => ?_)
    refine wp_aload_n (pc := 11) d_Md_hookFor_11 rfl ?_
    refine wp_iload_n (pc := 12) d_Md_hookFor_12 rfl ?_
    refine wp_iload_n (pc := 13) d_Md_hookFor_13 rfl ?_
    refine wv_callV (n := 2) (As := [_, _]) (pc := 14) d_Md_hookFor_14 s_Md_91 q_Md_isFree ⟨by decide, by decide⟩ MH_o rfl rfl rfl rfl (Nat.le_of_ble_eq_true rfl) (Nat.le_of_ble_eq_true rfl) ?_
    refine sp_Md_isFree hE hV (by omega) (by omega) rz ?_
    refine ⟨_, rfl, ?_⟩
    refine zp_ifb_eq (tgt := 43) (pc := 17) d_Md_hookFor_17 (by decide) (fun c17 => ?_) (fun c17 => ?_)
    · refine wp_iload_n (pc := 43) d_Md_hookFor_43 rfl ?_
      refine st_i2 (pc := 44) d_Md_hookFor_44 (by decide) ?_
      refine st_c3 (pc := 45) d_Md_hookFor_45 (by decide) ?_
      refine wp_goto (tgt := 5) (pc := 48) d_Md_hookFor_48 (by decide) ?_
      have e : ((i + 1 : Nat) : Int) = (i : Int) + 1 := by omega
      have zz := ih (i + 1) (by omega)
      rw [e] at zz
      first | rw [show bst F z (i + 1) = i from if_pos (by omega)] at zz | rw [show bst F z (i + 1) = bst F z i from if_neg (by omega)] at zz
      exact zz
    · refine wp_iload_n (pc := 20) d_Md_hookFor_20 rfl ?_
      refine zp_bipush (pc := 21) d_Md_hookFor_21 (by decide) ?_
      refine zp_icmp_eq (tgt := 39) (pc := 23) d_Md_hookFor_23 (by decide) ⟨by omega, by omega⟩ ⟨by omega, by omega⟩ (fun c23 => ?_) (fun c23 => ?_)
      · refine wp_iload_n (pc := 39) d_Md_hookFor_39 rfl ?_
        refine wp_goto (tgt := 44) (pc := 40) d_Md_hookFor_40 (by decide) ?_
        refine st_i2 (pc := 44) d_Md_hookFor_44 (by decide) ?_
        refine st_c3 (pc := 45) d_Md_hookFor_45 (by decide) ?_
        refine wp_goto (tgt := 5) (pc := 48) d_Md_hookFor_48 (by decide) ?_
        have e : ((i + 1 : Nat) : Int) = (i : Int) + 1 := by omega
        have zz := ih (i + 1) (by omega)
        rw [e] at zz
        first | rw [show bst F z (i + 1) = i from if_pos (by omega)] at zz | rw [show bst F z (i + 1) = bst F z i from if_neg (by omega)] at zz
        exact zz
      · refine wp_aload_n (pc := 26) d_Md_hookFor_26 rfl ?_
        refine wp_iload_n (pc := 27) d_Md_hookFor_27 rfl ?_
        refine wv_callV (n := 1) (As := [_]) (pc := 28) d_Md_hookFor_28 s_Md_95 q_Md_rankOf ⟨by decide, by decide⟩ MH_o rfl rfl rfl rfl (Nat.le_of_ble_eq_true rfl) (Nat.le_of_ble_eq_true rfl) ?_
        refine sp_Md_rankOf hE hV (by omega) (by omega) ?_
        refine ⟨_, rfl, ?_⟩
        refine wp_aload_n (pc := 31) d_Md_hookFor_31 rfl ?_
        refine wp_iload_n (pc := 32) d_Md_hookFor_32 rfl ?_
        refine wv_callV (n := 1) (As := [_]) (pc := 33) d_Md_hookFor_33 s_Md_95 q_Md_rankOf ⟨by decide, by decide⟩ MH_o rfl rfl rfl rfl (Nat.le_of_ble_eq_true rfl) (Nat.le_of_ble_eq_true rfl) ?_
        refine sp_Md_rankOf hE hV (by omega) (by omega) ?_
        refine ⟨_, rfl, ?_⟩
        refine zp_icmp_ge (tgt := 43) (pc := 36) d_Md_hookFor_36 (by decide) (rkb _ (by omega) (by omega)) (rkb _ (by omega) (by omega)) (fun c36 => ?_) (fun c36 => ?_)
        · refine wp_iload_n (pc := 43) d_Md_hookFor_43 rfl ?_
          refine st_i2 (pc := 44) d_Md_hookFor_44 (by decide) ?_
          refine st_c3 (pc := 45) d_Md_hookFor_45 (by decide) ?_
          refine wp_goto (tgt := 5) (pc := 48) d_Md_hookFor_48 (by decide) ?_
          have e : ((i + 1 : Nat) : Int) = (i : Int) + 1 := by omega
          have zz := ih (i + 1) (by omega)
          rw [e] at zz
          first | rw [show bst F z (i + 1) = i from if_pos (by omega)] at zz | rw [show bst F z (i + 1) = bst F z i from if_neg (by omega)] at zz
          exact zz
        · refine wp_iload_n (pc := 39) d_Md_hookFor_39 rfl ?_
          refine wp_goto (tgt := 44) (pc := 40) d_Md_hookFor_40 (by decide) ?_
          refine st_i2 (pc := 44) d_Md_hookFor_44 (by decide) ?_
          refine st_c3 (pc := 45) d_Md_hookFor_45 (by decide) ?_
          refine wp_goto (tgt := 5) (pc := 48) d_Md_hookFor_48 (by decide) ?_
          have e : ((i + 1 : Nat) : Int) = (i : Int) + 1 := by omega
          have zz := ih (i + 1) (by omega)
          rw [e] at zz
          first | rw [show bst F z (i + 1) = i from if_pos (by omega)] at zz | rw [show bst F z (i + 1) = bst F z i from if_neg (by omega)] at zz
          exact zz
set_option maxRecDepth 100000 in
theorem sp_Md_hookFor (hE : gOk E) {n z : Int} (hV : Vd n F) (hn : n ≤ 1000000000) (rz : gR z) (k : Q (some (.int (zI (bst F z 60)))) (MH mo h F sn kp g ln)) : Wp E m_Md_hookFor 0 (gEnt m_Md_hookFor [.ref mo, .int (zI z)]) [] (MH mo h F sn kp g ln) Q := by
  show Wp E m_Md_hookFor 0 [some (_), some (_), none, none] [] _ _
  refine zp_bipush (pc := 0) d_Md_hookFor_0 (by decide) ?_
  refine st_i2 (pc := 2) d_Md_hookFor_2 (by decide) ?_
  refine wp_iconst (pc := 3) d_Md_hookFor_3 ?_
  refine st_i3 (pc := 4) d_Md_hookFor_4 (by decide) ?_
  exact lp_Md_hookFor hE hV hn rz k 60 0 rfl
end S16
