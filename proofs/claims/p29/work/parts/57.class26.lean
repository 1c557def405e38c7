/-! ===== the class: all coats of a rack ===== -/
section S57
variable {E : gE} {B S : Nat} {h0 h : gH} {X : Nat → SC} {T : TC} {i : Nat} {Y : SC} {F t : Int → Int} {A : Nat → Nat} {N : Nat} {V : Nat → Int → Int} {Q : Option Value → gH → Prop}
theorem nU_b {F : Int → Int} {b : Int} : 0 ≤ nU F b ∧ nU F b ≤ 12 := by
  have := sm_b (f := fun y => bI (un F (12 * b + y))) (m := 1) (by omega) (n := 12) fun k _ => bI_b _
  unfold nU
  omega
theorem sC_b {nv : Int} (hV : Vd nv F) {a : Int} (a0 : 0 ≤ a) (a1 : a < 5) : 0 ≤ sC F a ∧ sC F a ≤ 12 := by
  have := sm_b (f := fun y => F (29 + 8 * (12 * a + y) + 1)) (m := 1) (by omega) (n := 12) fun k _ => (hV.2.2.2.1 (12 * a + k) (by omega) (by omega)).2.1
  unfold sC
  omega
theorem tot_u {nv : Int} (hJ : J nv F) (hR : RI F t N V) {b : Int} (b0 : 0 ≤ b) (b1 : b < F 1) : sm (fun y => tv F t 3 (12 * b + y)) (F (14 + 3 * b + 0)).toNat = nU F b := by
  have hs := hJ.vd.1
  have rh := (hJ.vd.2.2.1 b b0 (by omega)).1
  refine sm_cut (by omega) (fun k hk => ?_) (fun k k0 k1 => bI_f fun q => ?_)
  · have hL := hR.rL (12 * b + k) (by omega) (by omega)
    have hh : isHk F (12 * b + k) := ⟨by omega, by omega, by rw [show (12 * b + (k : Int)) / 12 = b by omega]; omega, by rw [show (12 * b + (k : Int)) / 12 = b by omega]; omega⟩
    show bI (t (12 * b + k) = -1 ∧ F (29 + 8 * (12 * b + (k : Int)) + 5) = 0) = bI (un F (12 * b + k))
    by_cases q : t (12 * b + k) = -1 ∧ F (29 + 8 * (12 * b + (k : Int)) + 5) = 0
    · rw [bI_t q, bI_t ⟨hh, hL.mp q.1, q.2⟩]
    · rw [bI_f q, bI_f fun z => q ⟨hL.mpr z.2.1, z.2.2⟩]
  · have := q.1.2.2.2
    rw [show (12 * b + (k : Int)) / 12 = b by omega] at this
    omega
set_option maxRecDepth 100000 in
theorem lp_Rk_hasRoom (hE : gOk E) (hB : gB E ≤ B) (hW : CN B S h0 X T i h (F, t, A, N, V)) (hi : i < 6) {nv : Int} (hJ : J nv F) (hn : nv ≤ 100000000) (hR : RI F t N V) {a b : Int} (a0 : 0 ≤ a) (a1 : a < F 1) (b0 : 0 ≤ b) (b1 : b < F 1) (hab : a ≠ b) (k : Q (some (.int (zI (bI ((mvS F a b 12).1 = 1))))) h) : ∀ (d x : Nat) (o : Option Value), x + d = (F (14 + 3 * a + 0)).toNat ∧ (∀ y : Nat, y < x → F (29 + 8 * (12 * a + (y : Int)) + 1) = 1 → adm F b (F (29 + 8 * (12 * a + (y : Int)) + 3))) → Wp E m_Rk_hasRoomForAllOf 2 [some (.ref (rA B i b)), some (.ref (rA B i a)), some (.int (zI x)), o] [] h Q := by
  intro d
  induction d with
  | zero =>
    intro x o hx
    have hV := hJ.vd
    have hN := hW.aN hi
    have hG := hR.1
    have hT := hR.rT hN.2
    have hL := hR.rL
    have hs := hV.1
    have rh := (hV.2.2.1 a a0 (by omega)).1
    have rb := hV.2.2.1 b b0 (by omega)
    have hm := (mvS_at hJ (a := a) (b := b) ⟨a0, by omega⟩ ⟨b0, by omega⟩ hab 12 (by omega)).2.2
    obtain ⟨hx, hz⟩ := hx
    refine wp_iload_n (pc := 2) d_Rk_hasRoomForAllOf_2 rfl ?_
    refine wp_aload_n (pc := 3) d_Rk_hasRoomForAllOf_3 rfl ?_
    refine wp_getfield (pc := 4) d_Rk_hasRoomForAllOf_4 f_Rk_17 (hW.rk hi (by omega) (by omega)) rfl ?_
    refine zp_icmp_ge (tgt := 46) (pc := 7) d_Rk_hasRoomForAllOf_7 (by decide) ⟨by omega, by omega⟩ ⟨by omega, by omega⟩ (fun c7 => ?_) (fun c7 => absurd c7 (by omega))
    refine wp_aload_n (pc := 46) d_Rk_hasRoomForAllOf_46 rfl ?_
    refine wp_iconst (pc := 47) d_Rk_hasRoomForAllOf_47 ?_
    refine wv_callV (n := 1) (As := [_]) (pc := 48) d_Rk_hasRoomForAllOf_48 s_Rk_50 q_Rk_total ⟨by decide, by decide⟩ (hW.rk hi (by omega) (by omega)) rfl rfl rfl rfl (Nat.le_of_ble_eq_true rfl) (Nat.le_of_ble_eq_true rfl) ?_
    refine sp_Rk_total hE hB hW hi hV hT a0 (by omega) (by omega) (by omega) ?_
    refine ⟨_, rfl, ?_⟩
    rw [tot_c hJ hR a0 (by omega)]
    have hsc := sC_b hV a0 (by omega : a < 5)
    refine wp_aload_n (pc := 51) d_Rk_hasRoomForAllOf_51 rfl ?_
    refine wp_iconst (pc := 52) d_Rk_hasRoomForAllOf_52 ?_
    refine wv_callV (n := 1) (As := [_]) (pc := 53) d_Rk_hasRoomForAllOf_53 s_Rk_50 q_Rk_total ⟨by decide, by decide⟩ (hW.rk hi (by omega) (by omega)) rfl rfl rfl rfl (Nat.le_of_ble_eq_true rfl) (Nat.le_of_ble_eq_true rfl) ?_
    refine sp_Rk_total hE hB hW hi hV hT b0 (by omega) (by omega) (by omega) ?_
    refine ⟨_, rfl, ?_⟩
    rw [tot_u hJ hR b0 b1]
    have hnu := nU_b (F := F) (b := b)
    have hcn : nC F a 12 = sC F a := rfl
    refine zp_icmp_gt (tgt := 63) (pc := 56) d_Rk_hasRoomForAllOf_56 (by decide) ⟨by omega, by omega⟩ ⟨by omega, by omega⟩ (fun c56 => ?_) (fun c56 => ?_)
    · refine wp_iconst (pc := 63) d_Rk_hasRoomForAllOf_63 ?_
      refine zp_zreturn (pc := 64) d_Rk_hasRoomForAllOf_64 rfl rfl ?_
      rw [bI_f (fun q => by have := (hm.mp q).2; omega)] at k
      exact k
    · refine wp_iconst (pc := 59) d_Rk_hasRoomForAllOf_59 ?_
      refine wp_goto (tgt := 64) (pc := 60) d_Rk_hasRoomForAllOf_60 (by decide) ?_
      refine zp_zreturn (pc := 64) d_Rk_hasRoomForAllOf_64 rfl rfl ?_
      rw [bI_t (hm.mpr ⟨fun y hy hh => by
        by_cases q : y < x
        · exact hz y q hh
        · have hd := (hJ.2.2.2.2.1 (12 * a + (y : Int)) (by omega) (by omega) (fun w => by
            have := w.2.2.2
            rw [show (12 * a + (y : Int)) / 12 = a by omega] at this
            omega)).2.1
          omega, by omega⟩)] at k
      exact k
  | succ d ih =>
    intro x o hx
    have hV := hJ.vd
    have hN := hW.aN hi
    have hG := hR.1
    have hT := hR.rT hN.2
    have hL := hR.rL
    have hs := hV.1
    have rh := (hV.2.2.1 a a0 (by omega)).1
    have rb := hV.2.2.1 b b0 (by omega)
    have hm := (mvS_at hJ (a := a) (b := b) ⟨a0, by omega⟩ ⟨b0, by omega⟩ hab 12 (by omega)).2.2
    obtain ⟨hx, hz⟩ := hx
    refine wp_iload_n (pc := 2) d_Rk_hasRoomForAllOf_2 rfl ?_
    refine wp_aload_n (pc := 3) d_Rk_hasRoomForAllOf_3 rfl ?_
    refine wp_getfield (pc := 4) d_Rk_hasRoomForAllOf_4 f_Rk_17 (hW.rk hi (by omega) (by omega)) rfl ?_
    refine zp_icmp_ge (tgt := 46) (pc := 7) d_Rk_hasRoomForAllOf_7 (by decide) ⟨by omega, by omega⟩ ⟨by omega, by omega⟩ (fun c7 => absurd c7 (by omega)) (fun c7 => ?_)
    refine wp_aload_n (pc := 10) d_Rk_hasRoomForAllOf_10 rfl ?_
    refine wp_iload_n (pc := 11) d_Rk_hasRoomForAllOf_11 rfl ?_
    refine wv_callV (n := 1) (As := [_]) (pc := 12) d_Rk_hasRoomForAllOf_12 s_Rk_31 q_Rk_hookAt ⟨by decide, by decide⟩ (hW.rk hi (by omega) (by omega)) rfl rfl rfl rfl (Nat.le_of_ble_eq_true rfl) (Nat.le_of_ble_eq_true rfl) ?_
    refine sp_Rk_hookAt hE hB hW hi a0 (by omega) rh ⟨by omega, by omega⟩ (fun q => absurd q (by omega)) (fun _ => ?_)
    refine ⟨_, rfl, ?_⟩
    have hk := hV.2.2.2.1 (12 * a + (x : Int)) (by omega) (by omega)
    refine st_a3 (pc := 15) d_Rk_hasRoomForAllOf_15 (by decide) ?_
    refine wp_aload_n (pc := 16) d_Rk_hasRoomForAllOf_16 rfl ?_
    refine wp_ifnull (pc := 17) d_Rk_hasRoomForAllOf_17 ?_
    refine wp_aload_n (pc := 20) d_Rk_hasRoomForAllOf_20 rfl ?_
    refine wv_callV (n := 0) (As := []) (pc := 21) d_Rk_hasRoomForAllOf_21 s_Rk_39 q_Ho_holdsCoat ⟨by decide, by decide⟩ (hW.hk hi (by omega) (by omega)) rfl rfl rfl rfl (Nat.le_of_ble_eq_true rfl) (Nat.le_of_ble_eq_true rfl) ?_
    refine sp_Ho_holdsCoat hE hB hW hi (by omega) (by omega) (hT _ (by omega) (by omega)) ?_
    refine ⟨_, rfl, ?_⟩
    refine zp_ifb_eq (tgt := 40) (pc := 24) d_Rk_hasRoomForAllOf_24 (by decide) (fun c24 => ?_) (fun c24 => ?_)
    · refine st_c2 (pc := 40) d_Rk_hasRoomForAllOf_40 (by decide) ?_
      refine wp_goto (tgt := 2) (pc := 43) d_Rk_hasRoomForAllOf_43 (by decide) ?_
      have e : ((x + 1 : Nat) : Int) = (x : Int) + 1 := by omega
      have zz := ih (x + 1) (some (.ref (hA B i (12 * a + x)))) ⟨by omega, fun y hy => by
        by_cases q : y = x
        · subst q
          exact fun hh => absurd ((hR.hold hJ (n := 12 * a + (y : Int)) (by omega) (by omega)).2 hh).2 c24
        · exact hz y (by omega)⟩
      rw [e] at zz
      exact zz
    · refine wp_aload_n (pc := 27) d_Rk_hasRoomForAllOf_27 rfl ?_
      refine wp_aload_n (pc := 28) d_Rk_hasRoomForAllOf_28 rfl ?_
      refine wp_getfield (pc := 29) d_Rk_hasRoomForAllOf_29 f_Rk_43 (hW.hk hi (by omega) (by omega)) rfl ?_
      refine wv_callV (n := 1) (As := [_]) (pc := 32) d_Rk_hasRoomForAllOf_32 s_Rk_46 q_Rk_admits ⟨by decide, by decide⟩ (hW.rk hi (by omega) (by omega)) rfl rfl rfl rfl (Nat.le_of_ble_eq_true rfl) (Nat.le_of_ble_eq_true rfl) ?_
      refine sp_Rk_admits hE hB hW hi b0 (by omega) ⟨by omega, by omega⟩ rb.2.1 rb.2.2 ?_
      refine ⟨_, rfl, ?_⟩
      refine zp_ifb_ne (tgt := 40) (pc := 35) d_Rk_hasRoomForAllOf_35 (by decide) (fun c35 => ?_) (fun c35 => ?_)
      · refine st_c2 (pc := 40) d_Rk_hasRoomForAllOf_40 (by decide) ?_
        refine wp_goto (tgt := 2) (pc := 43) d_Rk_hasRoomForAllOf_43 (by decide) ?_
        have e : ((x + 1 : Nat) : Int) = (x : Int) + 1 := by omega
        have zz := ih (x + 1) (some (.ref (hA B i (12 * a + x)))) ⟨by omega, fun y hy => by
          by_cases q : y = x
          · subst q
            exact fun _ => c35
          · exact hz y (by omega)⟩
        rw [e] at zz
        exact zz
      · refine wp_iconst (pc := 38) d_Rk_hasRoomForAllOf_38 ?_
        refine zp_zreturn (pc := 39) d_Rk_hasRoomForAllOf_39 rfl rfl ?_
        rw [bI_f (fun q => c35 ((hm.mp q).1 x (by omega) ((hR.hold hJ (n := 12 * a + (x : Int)) (by omega) (by omega)).1 ⟨⟨by omega, by omega, by rw [show (12 * a + (x : Int)) / 12 = a by omega]; omega, by rw [show (12 * a + (x : Int)) / 12 = a by omega]; omega⟩, c24⟩)))] at k
        exact k
set_option maxRecDepth 100000 in
theorem sp_Rk_hasRoomForAllOf (hE : gOk E) (hB : gB E ≤ B) (hW : CN B S h0 X T i h (F, t, A, N, V)) (hi : i < 6) {nv : Int} (hJ : J nv F) (hn : nv ≤ 100000000) (hR : RI F t N V) {a b : Int} (a0 : 0 ≤ a) (a1 : a < F 1) (b0 : 0 ≤ b) (b1 : b < F 1) (hab : a ≠ b) (k : Q (some (.int (zI (bI ((mvS F a b 12).1 = 1))))) h) : Wp E m_Rk_hasRoomForAllOf 0 (gEnt m_Rk_hasRoomForAllOf [.ref (rA B i b), .ref (rA B i a)]) [] h Q := by
  have rh := (hJ.vd.2.2.1 a a0 (by have := hJ.vd.1; omega)).1
  show Wp E m_Rk_hasRoomForAllOf 0 [some (_), some (_), none, none] [] _ _
  refine wp_iconst (pc := 0) d_Rk_hasRoomForAllOf_0 ?_
  refine st_i2 (pc := 1) d_Rk_hasRoomForAllOf_1 (by decide) ?_
  exact lp_Rk_hasRoom hE hB hW hi hJ hn hR a0 a1 b0 b1 hab k (F (14 + 3 * a + 0)).toNat 0 none ⟨by omega, fun y hy => absurd hy (by omega)⟩
set_option maxRecDepth 100000 in
theorem lp_St_carryAll (hE : gOk E) (hB : gB E ≤ B) (hi : i < 6) {nv : Int} (hJ : J nv F) (hn : nv ≤ 90000000) {a b : Int} (a0 : 0 ≤ a) (a1 : a < F 1) (b0 : 0 ≤ b) (b1 : b < F 1) (hab : a ≠ b) (hm : (mvS F a b 12).1 = 1) (k : ∀ (g : gH) (t2 : Int → Int) (A2 : Nat → Nat) (N2 : Nat) (V2 : Nat → Int → Int), CN B S h0 X T i g ((mvS F a b 12).2, t2, A2, N2, V2) → RI (mvS F a b 12).2 t2 N2 V2 → Q (some (.int (zI (sC F a)))) g) :
    ∀ (d x : Nat) (o1 o2 : Option Value) (h : gH) (t : Int → Int) (A : Nat → Nat) (N : Nat) (V : Nat → Int → Int), x + d = (F (14 + 3 * a + 0)).toNat → CN B S h0 X T i h ((mvS F a b x).2, t, A, N, V) → RI (mvS F a b x).2 t N V →
      Wp E m_St_carryAll 5 [some (.ref (sA B i)), some (.ref (rA B i a)), some (.ref (rA B i b)), some (.int (zI (nC F a x))), some (.int (zI x)), o1, o2] [] h Q := by
  intro d
  induction d with
  | zero =>
    intro x o1 o2 h t A N V hx hW hR
    have hs := hJ.vd.1
    have rh := (hJ.vd.2.2.1 a a0 (by omega)).1
    have hat := mvS_at hJ (a := a) (b := b) ⟨a0, by omega⟩ ⟨b0, by omega⟩ hab x (by omega)
    have hra := hat.1.2.1 a 0 a0 (by omega) (by omega) (by omega)
    have he := mvS_hc hJ (a := a) (b := b) ⟨a0, by omega⟩ ⟨b0, by omega⟩ hab (m := x) (by omega) (by omega) (12 - x) (by omega)
    rw [show x + (12 - x) = 12 by omega] at he
    have hcn : nC F a 12 = sC F a := rfl
    generalize hP : (mvS F a b x).2 = P at hW hR hra ⊢
    refine wp_iload (pc := 5) d_St_carryAll_5 rfl ?_
    refine wp_aload_n (pc := 7) d_St_carryAll_7 rfl ?_
    refine wp_getfield (pc := 8) d_St_carryAll_8 f_St_69 (hW.rk hi (by omega) (by omega)) rfl ?_
    refine zp_icmp_ge (tgt := 64) (pc := 11) d_St_carryAll_11 (by decide) ⟨by omega, by omega⟩ ⟨by omega, by omega⟩ (fun c11 => ?_) (fun c11 => absurd c11 (by omega))
    refine wp_iload_n (pc := 64) d_St_carryAll_64 rfl ?_
    refine zp_ireturn (pc := 65) d_St_carryAll_65 rfl ?_
    rw [show nC F a x = sC F a by omega]
    refine k h t A N V ?_ ?_
    · rw [he.1, hP]; exact hW
    · rw [he.1, hP]; exact hR
  | succ d ih =>
    intro x o1 o2 h t A N V hx hW hR
    have hs := hJ.vd.1
    have rh := (hJ.vd.2.2.1 a a0 (by omega)).1
    have hat := mvS_at hJ (a := a) (b := b) ⟨a0, by omega⟩ ⟨b0, by omega⟩ hab x (by omega)
    have hra := hat.1.2.1 a 0 a0 (by omega) (by omega) (by omega)
    have hkeep := fun q => mvS_keep (F := F) (a := a) (b := b) (n := x) q (12 - x)
    rw [show x + (12 - x) = 12 by omega] at hkeep
    have h1 : (mvS F a b x).1 = 1 := Decidable.byContradiction fun q => q (by rw [← hkeep q]; exact hm)
    have hkeep2 := fun q => mvS_keep (F := F) (a := a) (b := b) (n := x + 1) q (11 - x)
    rw [show x + 1 + (11 - x) = 12 by omega] at hkeep2
    have h2 : (mvS F a b (x + 1)).1 = 1 := Decidable.byContradiction fun q => q (by rw [← hkeep2 q]; exact hm)
    have hms := mvS_s F a b x _ rfl
    rw [if_neg (not_not_intro h1)] at hms
    have hnc : nC F a (x + 1) = nC F a x + F (29 + 8 * (12 * a + (x : Int)) + 1) := rfl
    have hJp := hJ.mv ⟨a0, by omega⟩ ⟨b0, by omega⟩ hab x (by omega)
    have ka := hat.1.2.2 x 1 (by omega) (by omega) (by omega) (by omega)
    have hrb := hat.1.2.1 b 0 b0 (by omega) (by omega) (by omega)
    have h11 := hat.1.1
    generalize hP : mvS F a b x = P at hW hR hra hms hJp ka hrb h11 h1 ⊢
    have hV := hJp.vd
    have hN := hW.aN hi
    have hG := hR.1
    have hT := hR.rT hN.2
    have hL := hR.rL
    have hbit := (hV.2.2.2.1 (12 * a + (x : Int)) (by omega) (by omega)).2.1
    have hn2 : nv + 3 * (x : Int) ≤ 100000000 := by omega
    have rpb := (hV.2.2.1 b b0 (by omega)).1
    have rpa := (hV.2.2.1 a a0 (by omega)).1
    have hho := hR.hold hJp (n := 12 * a + (x : Int)) (by omega) (by omega)
    have hca : isHk P.2 (12 * a + (x : Int)) := ⟨by omega, by omega, by rw [show (12 * a + (x : Int)) / 12 = a by omega]; omega, by rw [show (12 * a + (x : Int)) / 12 = a by omega]; omega⟩
    refine wp_iload (pc := 5) d_St_carryAll_5 rfl ?_
    refine wp_aload_n (pc := 7) d_St_carryAll_7 rfl ?_
    refine wp_getfield (pc := 8) d_St_carryAll_8 f_St_69 (hW.rk hi (by omega) (by omega)) rfl ?_
    refine zp_icmp_ge (tgt := 64) (pc := 11) d_St_carryAll_11 (by decide) ⟨by omega, by omega⟩ ⟨by omega, by omega⟩ (fun c11 => absurd c11 (by omega)) (fun c11 => ?_)
    refine wp_aload_n (pc := 14) d_St_carryAll_14 rfl ?_
    refine wp_iload (pc := 15) d_St_carryAll_15 rfl ?_
    refine wv_callV (n := 1) (As := [_]) (pc := 17) d_St_carryAll_17 s_St_58 q_Rk_hookAt ⟨by decide, by decide⟩ (hW.rk hi (by omega) (by omega)) rfl rfl rfl rfl (Nat.le_of_ble_eq_true rfl) (Nat.le_of_ble_eq_true rfl) ?_
    refine sp_Rk_hookAt hE hB hW hi a0 (by omega) rpa ⟨by omega, by omega⟩ (fun q => absurd q (by omega)) (fun _ => ?_)
    refine ⟨_, rfl, ?_⟩
    refine st_a5 (pc := 20) d_St_carryAll_20 (by decide) ?_
    refine wp_aload_n (pc := 22) d_St_carryAll_22 rfl ?_
    refine wv_callV (n := 0) (As := []) (pc := 23) d_St_carryAll_23 s_St_159 q_Rk_lowestHookThatCanHold ⟨by decide, by decide⟩ (hW.rk hi (by omega) (by omega)) rfl rfl rfl rfl (Nat.le_of_ble_eq_true rfl) (Nat.le_of_ble_eq_true rfl) ?_
    refine sp_Rk_lowestHookThatCanHold hE hB hW hi hV hT b0 (by omega) (fun yn => ?_) (fun y y0 y1 yc yl => ?_)
    · refine ⟨_, rfl, ?_⟩
      refine st_N6 (pc := 26) d_St_carryAll_26 (by decide) ?_
      refine wp_aload (pc := 28) d_St_carryAll_28 rfl ?_
      refine wp_ifnull (pc := 30) d_St_carryAll_30 ?_
      refine wp_aload (pc := 33) d_St_carryAll_33 rfl ?_
      refine wv_callV (n := 0) (As := []) (pc := 35) d_St_carryAll_35 s_St_63 q_Ho_holdsCoat ⟨by decide, by decide⟩ (hW.hk hi (by omega) (by omega)) rfl rfl rfl rfl (Nat.le_of_ble_eq_true rfl) (Nat.le_of_ble_eq_true rfl) ?_
      refine sp_Ho_holdsCoat hE hB hW hi (by omega) (by omega) (hT _ (by omega) (by omega)) ?_
      refine ⟨_, rfl, ?_⟩
      refine zp_ifb_eq (tgt := 58) (pc := 38) d_St_carryAll_38 (by decide) (fun c38 => ?_) (fun c38 => ?_)
      · refine st_c4 (pc := 58) d_St_carryAll_58 (by decide) ?_
        refine wp_goto (tgt := 5) (pc := 61) d_St_carryAll_61 (by decide) ?_
        have e : ((x + 1 : Nat) : Int) = (x : Int) + 1 := by omega
        have ef : ¬ P.2 (29 + 8 * (12 * a + (x : Int)) + 1) = 1 := fun q => absurd (hho.2 q).2 c38
        rw [if_pos ef] at hms
        have zz := ih (x + 1) (some (.ref (hA B i (12 * a + x)))) (some .null) h t A N V (by omega) (by rw [hms]; exact hW) (by rw [hms]; exact hR)
        rw [e, show nC F a (x + 1) = nC F a x by omega] at zz
        exact zz
      · have ef : P.2 (29 + 8 * (12 * a + (x : Int)) + 1) = 1 := hho.1 ⟨hca, c38⟩
        rw [if_neg (not_not_intro ef)] at hms
        have hfb := fo_b (F := P.2) (z := P.2 (29 + 8 * (12 * a + (x : Int)) + 3)) b0 12
        have hfo : ¬ fo P.2 b (P.2 (29 + 8 * (12 * a + (x : Int)) + 3)) 12 = -5 := fun q => by
          rw [if_pos q] at hms
          rw [hms] at h2
          exact absurd h2 (by show ¬ (0 : Int) = 1; omega)
        rw [if_neg hfo] at hms
        obtain ⟨f0, f1, f2⟩ := hfb.resolve_left hfo
        have hfl : ∃ y : Int, fo P.2 b (P.2 (29 + 8 * (12 * a + (x : Int)) + 3)) 12 = 12 * b + y := ⟨fo P.2 b (P.2 (29 + 8 * (12 * a + (x : Int)) + 3)) 12 - 12 * b, by omega⟩
        obtain ⟨yf, hyf⟩ := hfl
        rw [hyf] at f0 f1 f2
        have hfr := (isFr_un (by omega) (by omega)).mp f2
        have hyc : yf < P.2 (14 + 3 * b + 0) := by
          have := f2.1.2.2.2
          rw [show (12 * b + yf) / 12 = b by omega] at this
          omega
        have hcf : cnH P.2 t (12 * b + yf) := ⟨(hL _ (by omega) (by omega)).mpr hfr.1.2.1, hfr.1.2.2⟩
        exact absurd hcf (yn yf (by omega) hyc)
    · refine ⟨_, rfl, ?_⟩
      refine st_a6 (pc := 26) d_St_carryAll_26 (by decide) ?_
      refine wp_aload (pc := 28) d_St_carryAll_28 rfl ?_
      refine wp_ifnull (pc := 30) d_St_carryAll_30 ?_
      refine wp_aload (pc := 33) d_St_carryAll_33 rfl ?_
      refine wv_callV (n := 0) (As := []) (pc := 35) d_St_carryAll_35 s_St_63 q_Ho_holdsCoat ⟨by decide, by decide⟩ (hW.hk hi (by omega) (by omega)) rfl rfl rfl rfl (Nat.le_of_ble_eq_true rfl) (Nat.le_of_ble_eq_true rfl) ?_
      refine sp_Ho_holdsCoat hE hB hW hi (by omega) (by omega) (hT _ (by omega) (by omega)) ?_
      refine ⟨_, rfl, ?_⟩
      refine zp_ifb_eq (tgt := 58) (pc := 38) d_St_carryAll_38 (by decide) (fun c38 => ?_) (fun c38 => ?_)
      · refine st_c4 (pc := 58) d_St_carryAll_58 (by decide) ?_
        refine wp_goto (tgt := 5) (pc := 61) d_St_carryAll_61 (by decide) ?_
        have e : ((x + 1 : Nat) : Int) = (x : Int) + 1 := by omega
        have ef : ¬ P.2 (29 + 8 * (12 * a + (x : Int)) + 1) = 1 := fun q => absurd (hho.2 q).2 c38
        rw [if_pos ef] at hms
        have zz := ih (x + 1) (some (.ref (hA B i (12 * a + x)))) (some (.ref (hA B i (12 * b + y)))) h t A N V (by omega) (by rw [hms]; exact hW) (by rw [hms]; exact hR)
        rw [e, show nC F a (x + 1) = nC F a x by omega] at zz
        exact zz
      · have ef : P.2 (29 + 8 * (12 * a + (x : Int)) + 1) = 1 := hho.1 ⟨hca, c38⟩
        rw [if_neg (not_not_intro ef)] at hms
        have hfb := fo_b (F := P.2) (z := P.2 (29 + 8 * (12 * a + (x : Int)) + 3)) b0 12
        have hfo : ¬ fo P.2 b (P.2 (29 + 8 * (12 * a + (x : Int)) + 3)) 12 = -5 := fun q => by
          rw [if_pos q] at hms
          rw [hms] at h2
          exact absurd h2 (by show ¬ (0 : Int) = 1; omega)
        rw [if_neg hfo] at hms
        obtain ⟨f0, f1, f2⟩ := hfb.resolve_left hfo
        have hfl : ∃ y : Int, fo P.2 b (P.2 (29 + 8 * (12 * a + (x : Int)) + 3)) 12 = 12 * b + y := ⟨fo P.2 b (P.2 (29 + 8 * (12 * a + (x : Int)) + 3)) 12 - 12 * b, by omega⟩
        obtain ⟨yf, hyf⟩ := hfl
        rw [hyf] at f0 f1 f2
        have hfr := (isFr_un (by omega) (by omega)).mp f2
        have hyc : yf < P.2 (14 + 3 * b + 0) := by
          have := f2.1.2.2.2
          rw [show (12 * b + yf) / 12 = b by omega] at this
          omega
        have hcf : cnH P.2 t (12 * b + yf) := ⟨(hL _ (by omega) (by omega)).mpr hfr.1.2.1, hfr.1.2.2⟩
        have hyy : y = yf := by
          have g1 : isFr P.2 (12 * b + y) (P.2 (29 + 8 * (12 * a + (x : Int)) + 3)) := (isFr_un (by omega) (by omega)).mpr ⟨⟨⟨by omega, by omega, by rw [show (12 * b + y) / 12 = b by omega]; omega, by rw [show (12 * b + y) / 12 = b by omega]; omega⟩, (hL _ (by omega) (by omega)).mp yc.1, yc.2⟩, hfr.2⟩
          have g2 : ¬ yf < y := fun q => yl yf (by omega) q hcf
          have g3 : ¬ y < yf := fun q => by
            have hlow := fo_low (F := P.2) (z := P.2 (29 + 8 * (12 * a + (x : Int)) + 3)) b0 12 (m := y.toNat) (by omega)
            rw [show ((y.toNat : Nat) : Int) = y by omega] at hlow
            exact hlow (by omega) g1
          omega
        have hbit2 := (hV.2.2.2.1 (12 * b + y) (by omega) (by omega)).2.1
        have hyh := (hL (12 * b + y) (by omega) (by omega)).mp yc.1
        refine wp_aload (pc := 41) d_St_carryAll_41 rfl ?_
        refine wp_ifnull (pc := 43) d_St_carryAll_43 ?_
        refine wp_aload_n (pc := 46) d_St_carryAll_46 rfl ?_
        refine wp_aload (pc := 47) d_St_carryAll_47 rfl ?_
        refine wp_aload (pc := 49) d_St_carryAll_49 rfl ?_
        refine wv_callV (n := 2) (As := [_, _]) (pc := 51) d_St_carryAll_51 s_St_163 q_St_carry ⟨by decide, by decide⟩ (hW.st hi) rfl rfl rfl rfl (Nat.le_of_ble_eq_true rfl) (Nat.le_of_ble_eq_true rfl) ?_
        refine sp_St_carry2 hE hB hW hi hJp hn2 hR (by omega) (by omega) (by omega) (by omega) (by omega) ef (by omega) yc.2 (fun g t A N V hW hR => ?_)
        refine ⟨_, rfl, ?_⟩
        refine wp_pop (pc := 54) d_St_carryAll_54 rfl ?_
        refine st_c3 (pc := 55) d_St_carryAll_55 (by decide) ?_
        refine st_c4 (pc := 58) d_St_carryAll_58 (by decide) ?_
        refine wp_goto (tgt := 5) (pc := 61) d_St_carryAll_61 (by decide) ?_
        have e : ((x + 1 : Nat) : Int) = (x : Int) + 1 := by omega
        have zz := ih (x + 1) (some (.ref (hA B i (12 * a + x)))) (some (.ref (hA B i (12 * b + y)))) _ _ _ _ _ (by omega) (by rw [hms, hyf, ← hyy]; exact hW) (by rw [hms, hyf, ← hyy]; exact hR)
        rw [e, show nC F a (x + 1) = nC F a x + 1 by omega] at zz
        exact zz
set_option maxRecDepth 100000 in
theorem sp_St_carryAll (hE : gOk E) (hB : gB E ≤ B) (hW : CN B S h0 X T i h (F, t, A, N, V)) (hi : i < 6) {nv : Int} (hJ : J nv F) (hn : nv ≤ 90000000) (hR : RI F t N V) {a b : Int} (a0 : 0 ≤ a) (a1 : a < F 1) (b0 : 0 ≤ b) (b1 : b < F 1) (hab : a ≠ b) (hm : (mvS F a b 12).1 = 1) (k : ∀ (g : gH) (t2 : Int → Int) (A2 : Nat → Nat) (N2 : Nat) (V2 : Nat → Int → Int), CN B S h0 X T i g ((mvS F a b 12).2, t2, A2, N2, V2) → RI (mvS F a b 12).2 t2 N2 V2 → Q (some (.int (zI (sC F a)))) g) : Wp E m_St_carryAll 0 (gEnt m_St_carryAll [.ref (sA B i), .ref (rA B i a), .ref (rA B i b)]) [] h Q := by
  have rh := (hJ.vd.2.2.1 a a0 (by have := hJ.vd.1; omega)).1
  show Wp E m_St_carryAll 0 [some (_), some (_), some (_), none, none, none, none] [] _ _
  refine wp_iconst (pc := 0) d_St_carryAll_0 ?_
  refine st_i3 (pc := 1) d_St_carryAll_1 (by decide) ?_
  refine wp_iconst (pc := 2) d_St_carryAll_2 ?_
  refine st_i4 (pc := 3) d_St_carryAll_3 (by decide) ?_
  exact lp_St_carryAll hE hB hi hJ hn a0 a1 b0 b1 hab hm k (F (14 + 3 * a + 0)).toNat 0 none none h t A N V (by omega) hW hR
end S57
