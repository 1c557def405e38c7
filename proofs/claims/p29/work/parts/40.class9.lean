/-! ===== the class: guests ===== -/
section S40
variable {E : gE} {B S : Nat} {h0 h : gH} {X : Nat → SC} {T : TC} {i : Nat} {Y : SC} {F t : Int → Int} {A : Nat → Nat} {N : Nat} {V : Nat → Int → Int} {Q : Option Value → gH → Prop}
theorem RI.hold {nv : Int} (hJ : J nv F) (hR : RI F t N V) {n : Int} (n0 : 0 ≤ n) (n1 : n < 60) : (isHk F n ∧ ¬ t n = -1) ↔ F (29 + 8 * n + 1) = 1 := by
  have hL := hR.rL n n0 n1
  constructor
  · intro h
    by_cases q : F (29 + 8 * n + 1) = 1
    · exact q
    · exact absurd (hL.2 q) h.2
  · intro h
    exact ⟨(hJ.2.1 n n0 n1 h).2.1, fun q => hL.1 q h⟩
theorem RI.ow {nv : Int} (hJ : J nv F) (hR : RI F t N V) {n : Int} (n0 : 0 ≤ n) (n1 : n < 60) (h : F (29 + 8 * n + 1) = 1) : (0 ≤ t n ∧ t n < F 5) ∧ V 0 (t n) = hdl F n ∧ V 2 (t n) = F (29 + 8 * n + 2) ∧ V 1 (t n) = -1 ∧ V 3 (t n) = 0 := by
  have h1 := (hR.2.2.2.2 n n0 n1).1 h
  have h2 := hR.vl h1.1 h1.2.1
  have h3 := (hJ.2.1 n n0 n1 h).1
  have h4 := (hJ.vd.2.2.2.1 n n0 n1).2.2.1
  have h5 := hR.nx h1.1 h1.2.1
  rw [h1.2.2] at h2 h5
  unfold eo at h2
  unfold fol at h5
  rw [h3] at h2 h5
  refine ⟨⟨h1.1, h1.2.1⟩, h1.2.2, by omega, ?_, by omega⟩
  rcases h5 with q | q
  · exact q.1
  · omega
set_option maxRecDepth 100000 in
theorem sp_St_isCoatOf (hE : gOk E) (hB : gB E ≤ B) (hW : CN B S h0 X T i h (F, t, A, N, V)) (hi : i < 6) {nv : Int} (hJ : J nv F) (hn : nv ≤ 100000000) (hR : RI F t N V) {n : Int} (n0 : 0 ≤ n) (n1 : n < 60) (hh : F (29 + 8 * n + 1) = 1) {y : Int} (ry : gR y) (k : Q (some (.int (zI (bI (isGv F y n))))) h) : Wp E m_St_isCoatOf 0 (gEnt m_St_isCoatOf [.ref (sA B i), .int (zI y), .ref (hA B i n)]) [] h Q := by
  have hV := hJ.vd
  have hN := hW.aN hi
  have hG := hR.1
  have hT := hR.rT hN.2
  have hL := hR.rL
  have ho := hR.ow hJ n0 n1 hh
  have hk := hV.2.2.2.1 n n0 n1
  show Wp E m_St_isCoatOf 0 [some (_), some (_), some (_)] [] _ _
  refine wp_aload_n (pc := 0) d_St_isCoatOf_0 rfl ?_
  refine wp_ifnull (pc := 1) d_St_isCoatOf_1 ?_
  refine wp_aload_n (pc := 4) d_St_isCoatOf_4 rfl ?_
  refine wp_getfield (pc := 5) d_St_isCoatOf_5 f_St_24 (hW.st hi) rfl ?_
  refine wp_aload_n (pc := 8) d_St_isCoatOf_8 rfl ?_
  refine wp_getfield (pc := 9) d_St_isCoatOf_9 f_St_140 (hW.hk hi (by omega) (by omega)) rfl ?_
  refine wv_callV (n := 1) (As := [_]) (pc := 12) d_St_isCoatOf_12 s_St_143 q_Ha_ownerOf ⟨by decide, by decide⟩ (hW.ha hi) rfl rfl rfl rfl (Nat.le_of_ble_eq_true rfl) (Nat.le_of_ble_eq_true rfl) ?_
  refine sp_Ha_ownerOf hE hB hW hi hR ho.1.1 ho.1.2 ?_
  refine ⟨_, rfl, ?_⟩
  rw [ho.2.2.1]
  refine wp_iload_n (pc := 15) d_St_isCoatOf_15 rfl ?_
  refine zp_icmp_ne (tgt := 23) (pc := 16) d_St_isCoatOf_16 (by decide) ⟨by omega, by omega⟩ ry (fun c16 => ?_) (fun c16 => ?_)
  · refine wp_iconst (pc := 23) d_St_isCoatOf_23 ?_
    refine zp_zreturn (pc := 24) d_St_isCoatOf_24 rfl rfl ?_
    first | (rw [bI_t (show isGv F y n from ⟨hh, by omega⟩)] at k; exact k) | (rw [bI_f (show ¬ isGv F y n from fun q => absurd q.2 (by omega))] at k; exact k)
  · refine wp_iconst (pc := 19) d_St_isCoatOf_19 ?_
    refine wp_goto (tgt := 24) (pc := 20) d_St_isCoatOf_20 (by decide) ?_
    refine zp_zreturn (pc := 24) d_St_isCoatOf_24 rfl rfl ?_
    first | (rw [bI_t (show isGv F y n from ⟨hh, by omega⟩)] at k; exact k) | (rw [bI_f (show ¬ isGv F y n from fun q => absurd q.2 (by omega))] at k; exact k)
set_option maxRecDepth 100000 in
theorem sp_St_isCoatOfN {p : Prop} [Decidable p] (hp : ¬ p) {y : Int} (k : Q (some (.int (zI (bI p)))) h) : Wp E m_St_isCoatOf 0 (gEnt m_St_isCoatOf [.ref (sA B i), .int (zI y), .null]) [] h Q := by
  show Wp E m_St_isCoatOf 0 [some (_), some (_), some (_)] [] _ _
  refine wp_aload_nN (pc := 0) d_St_isCoatOf_0 rfl ?_
  refine wp_ifnullN (tgt := 23) (pc := 1) d_St_isCoatOf_1 (by decide) ?_
  refine wp_iconst (pc := 23) d_St_isCoatOf_23 ?_
  refine zp_zreturn (pc := 24) d_St_isCoatOf_24 rfl rfl ?_
  rw [bI_f hp] at k; exact k
set_option maxRecDepth 100000 in
theorem lp_St_coatsOfGuest (hE : gOk E) (hB : gB E ≤ B) (hW : CN B S h0 X T i h (F, t, A, N, V)) (hi : i < 6) {nv : Int} (hJ : J nv F) (hn : nv ≤ 100000000) (hR : RI F t N V) {y : Int} (ry : gR y) (k : Q (some (.int (zI (cGv F y 60)))) h) : ∀ (d x : Nat), x + d = 60 → Wp E m_St_coatsOfGuest 4 [some (.ref (sA B i)), some (.int (zI y)), some (.int (zI (cGv F y x))), some (.int (zI x))] [] h Q := by
  intro d
  induction d with
  | zero =>
    intro x hx
    have hV := hJ.vd
    have hN := hW.aN hi
    have hG := hR.1
    have hT := hR.rT hN.2
    have hL := hR.rL
    refine wp_iload_n (pc := 4) d_St_coatsOfGuest_4 rfl ?_
    refine zp_bipush (pc := 5) d_St_coatsOfGuest_5 (by decide) ?_
    refine zp_icmp_ge (tgt := 37) (pc := 7) d_St_coatsOfGuest_7 (by decide) ⟨by omega, by omega⟩ ⟨by omega, by omega⟩ (fun c7 => ?_) (fun c7 => absurd c7 (by omega))
    obtain rfl : x = 60 := by omega
    refine wp_iload_n (pc := 37) d_St_coatsOfGuest_37 rfl ?_
    refine zp_ireturn (pc := 38) d_St_coatsOfGuest_38 rfl ?_
    exact k
  | succ d ih =>
    intro x hx
    have hV := hJ.vd
    have hN := hW.aN hi
    have hG := hR.1
    have hT := hR.rT hN.2
    have hL := hR.rL
    refine wp_iload_n (pc := 4) d_St_coatsOfGuest_4 rfl ?_
    refine zp_bipush (pc := 5) d_St_coatsOfGuest_5 (by decide) ?_
    refine zp_icmp_ge (tgt := 37) (pc := 7) d_St_coatsOfGuest_7 (by decide) ⟨by omega, by omega⟩ ⟨by omega, by omega⟩ (fun c7 => absurd c7 (by omega)) (fun c7 => ?_)
    refine wp_iload_n (pc := 10) d_St_coatsOfGuest_10 rfl ?_
    refine wp_aload_n (pc := 11) d_St_coatsOfGuest_11 rfl ?_
    refine wp_iload_n (pc := 12) d_St_coatsOfGuest_12 rfl ?_
    refine wp_aload_n (pc := 13) d_St_coatsOfGuest_13 rfl ?_
    refine wp_iload_n (pc := 14) d_St_coatsOfGuest_14 rfl ?_
    have hho := hR.hold hJ (n := x) (by omega) (by omega)
    rcases Decidable.em (isHk F x ∧ ¬ t x = -1) with c15 | c15
    · refine wv_callV (n := 1) (As := [_]) (pc := 15) d_St_coatsOfGuest_15 s_St_170 q_St_coatAt ⟨by decide, by decide⟩ (hW.st hi) rfl rfl rfl rfl (Nat.le_of_ble_eq_true rfl) (Nat.le_of_ble_eq_true rfl) ?_
      refine sp_St_coatAt hE hB hW hi hV hT ⟨by omega, by omega⟩ (fun q => absurd c15 q) (fun _ => ?_)
      refine ⟨_, rfl, ?_⟩
      refine wv_callV (n := 2) (As := [_, _]) (pc := 18) d_St_coatsOfGuest_18 s_St_182 q_St_isCoatOf ⟨by decide, by decide⟩ (hW.st hi) rfl rfl rfl rfl (Nat.le_of_ble_eq_true rfl) (Nat.le_of_ble_eq_true rfl) ?_
      refine sp_St_isCoatOf hE hB hW hi hJ hn hR (n := x) (by omega) (by omega) (hho.1 c15) ry ?_
      refine ⟨_, rfl, ?_⟩
      refine zp_ifb_eq (tgt := 28) (pc := 21) d_St_coatsOfGuest_21 (by decide) (fun c21 => ?_) (fun c21 => ?_)
      · refine wp_iconst (pc := 28) d_St_coatsOfGuest_28 ?_
        refine zp_iadd (pc := 29) d_St_coatsOfGuest_29 ?_
        refine st_i2 (pc := 30) d_St_coatsOfGuest_30 (by decide) ?_
        refine st_c3 (pc := 31) d_St_coatsOfGuest_31 (by decide) ?_
        refine wp_goto (tgt := 4) (pc := 34) d_St_coatsOfGuest_34 (by decide) ?_
        have e : ((x + 1 : Nat) : Int) = (x : Int) + 1 := by omega
        have zz := ih (x + 1) (by omega)
        rw [e, cGv_s, bI_f c21] at zz
        exact zz
      · refine wp_iconst (pc := 24) d_St_coatsOfGuest_24 ?_
        refine wp_goto (tgt := 29) (pc := 25) d_St_coatsOfGuest_25 (by decide) ?_
        refine zp_iadd (pc := 29) d_St_coatsOfGuest_29 ?_
        refine st_i2 (pc := 30) d_St_coatsOfGuest_30 (by decide) ?_
        refine st_c3 (pc := 31) d_St_coatsOfGuest_31 (by decide) ?_
        refine wp_goto (tgt := 4) (pc := 34) d_St_coatsOfGuest_34 (by decide) ?_
        have e : ((x + 1 : Nat) : Int) = (x : Int) + 1 := by omega
        have zz := ih (x + 1) (by omega)
        rw [e, cGv_s, bI_t c21] at zz
        exact zz
    · refine wv_callV (n := 1) (As := [_]) (pc := 15) d_St_coatsOfGuest_15 s_St_170 q_St_coatAt ⟨by decide, by decide⟩ (hW.st hi) rfl rfl rfl rfl (Nat.le_of_ble_eq_true rfl) (Nat.le_of_ble_eq_true rfl) ?_
      refine sp_St_coatAt hE hB hW hi hV hT ⟨by omega, by omega⟩ (fun _ => ?_) (fun q => absurd q c15)
      refine ⟨_, rfl, ?_⟩
      refine wv_callV (n := 2) (As := [_, _]) (pc := 18) d_St_coatsOfGuest_18 s_St_182 q_St_isCoatOf ⟨by decide, by decide⟩ (hW.st hi) rfl rfl rfl rfl (Nat.le_of_ble_eq_true rfl) (Nat.le_of_ble_eq_true rfl) ?_
      refine sp_St_isCoatOfN (p := isGv F y x) (fun q => c15 (hho.2 q.1)) ?_
      refine ⟨_, rfl, ?_⟩
      refine zp_ifb_eq (tgt := 28) (pc := 21) d_St_coatsOfGuest_21 (by decide) (fun c21 => ?_) (fun c21 => ?_)
      · refine wp_iconst (pc := 28) d_St_coatsOfGuest_28 ?_
        refine zp_iadd (pc := 29) d_St_coatsOfGuest_29 ?_
        refine st_i2 (pc := 30) d_St_coatsOfGuest_30 (by decide) ?_
        refine st_c3 (pc := 31) d_St_coatsOfGuest_31 (by decide) ?_
        refine wp_goto (tgt := 4) (pc := 34) d_St_coatsOfGuest_34 (by decide) ?_
        have e : ((x + 1 : Nat) : Int) = (x : Int) + 1 := by omega
        have zz := ih (x + 1) (by omega)
        rw [e, cGv_s, bI_f c21] at zz
        exact zz
      · refine wp_iconst (pc := 24) d_St_coatsOfGuest_24 ?_
        refine wp_goto (tgt := 29) (pc := 25) d_St_coatsOfGuest_25 (by decide) ?_
        refine zp_iadd (pc := 29) d_St_coatsOfGuest_29 ?_
        refine st_i2 (pc := 30) d_St_coatsOfGuest_30 (by decide) ?_
        refine st_c3 (pc := 31) d_St_coatsOfGuest_31 (by decide) ?_
        refine wp_goto (tgt := 4) (pc := 34) d_St_coatsOfGuest_34 (by decide) ?_
        have e : ((x + 1 : Nat) : Int) = (x : Int) + 1 := by omega
        have zz := ih (x + 1) (by omega)
        rw [e, cGv_s, bI_t c21] at zz
        exact zz
set_option maxRecDepth 100000 in
theorem sp_St_coatsOfGuest (hE : gOk E) (hB : gB E ≤ B) (hW : CN B S h0 X T i h (F, t, A, N, V)) (hi : i < 6) {nv : Int} (hJ : J nv F) (hn : nv ≤ 100000000) (hR : RI F t N V) {y : Int} (ry : gR y) (k : Q (some (.int (zI (cGv F y 60)))) h) : Wp E m_St_coatsOfGuest 0 (gEnt m_St_coatsOfGuest [.ref (sA B i), .int (zI y)]) [] h Q := by
  show Wp E m_St_coatsOfGuest 0 [some (_), some (_), none, none] [] _ _
  refine wp_iconst (pc := 0) d_St_coatsOfGuest_0 ?_
  refine st_i2 (pc := 1) d_St_coatsOfGuest_1 (by decide) ?_
  refine wp_iconst (pc := 2) d_St_coatsOfGuest_2 ?_
  refine st_i3 (pc := 3) d_St_coatsOfGuest_3 (by decide) ?_
  exact lp_St_coatsOfGuest hE hB hW hi hJ hn hR ry k 60 0 rfl
set_option maxRecDepth 100000 in
theorem lp_St_hookOfGuest (hE : gOk E) (hB : gB E ≤ B) (hW : CN B S h0 X T i h (F, t, A, N, V)) (hi : i < 6) {nv : Int} (hJ : J nv F) (hn : nv ≤ 100000000) (hR : RI F t N V) {y p : Int} (ry : gR y) (rp : gR p) (y0 : gvx F y p 60 < 0 → Q (some .null) h) (y1 : ¬ gvx F y p 60 < 0 → Q (some (.ref (hA B i (gvx F y p 60)))) h) : ∀ (d x : Nat) (o : Option Value), x + d = 60 ∧ gvx F y p x = -1 → Wp E m_St_hookOfGuest 5 [some (.ref (sA B i)), some (.int (zI y)), some (.int (zI p)), some (.int (zI (cGv F y x))), some (.int (zI x)), o] [] h Q := by
  intro d
  induction d with
  | zero =>
    intro x o hx
    obtain ⟨hx, hg⟩ := hx
    refine wp_iload (pc := 5) d_St_hookOfGuest_5 rfl ?_
    refine zp_bipush (pc := 7) d_St_hookOfGuest_7 (by decide) ?_
    refine zp_icmp_ge (tgt := 47) (pc := 9) d_St_hookOfGuest_9 (by decide) ⟨by omega, by omega⟩ ⟨by omega, by omega⟩ (fun c9 => ?_) (fun c9 => absurd c9 (by omega))
    refine wp_aconst_null (pc := 47) d_St_hookOfGuest_47 ?_
    refine wp_areturn (pc := 48) d_St_hookOfGuest_48 rfl (Or.inl ⟨_, rfl⟩) (Or.inl rfl) ?_
    obtain rfl : x = 60 := by omega
    exact y0 (by omega)
  | succ d ih =>
    intro x o hx
    obtain ⟨hx, hg⟩ := hx
    have hV := hJ.vd
    have hN := hW.aN hi
    have hG := hR.1
    have hT := hR.rT hN.2
    have hL := hR.rL
    have hcb := cGv_b F y x
    refine wp_iload (pc := 5) d_St_hookOfGuest_5 rfl ?_
    refine zp_bipush (pc := 7) d_St_hookOfGuest_7 (by decide) ?_
    refine zp_icmp_ge (tgt := 47) (pc := 9) d_St_hookOfGuest_9 (by decide) ⟨by omega, by omega⟩ ⟨by omega, by omega⟩ (fun c9 => absurd c9 (by omega)) (fun c9 => ?_)
    refine wp_aload_n (pc := 12) d_St_hookOfGuest_12 rfl ?_
    refine wp_iload (pc := 13) d_St_hookOfGuest_13 rfl ?_
    have hho := hR.hold hJ (n := x) (by omega) (by omega)
    rcases Decidable.em (isHk F x ∧ ¬ t x = -1) with c15 | c15
    · refine wv_callV (n := 1) (As := [_]) (pc := 15) d_St_hookOfGuest_15 s_St_170 q_St_coatAt ⟨by decide, by decide⟩ (hW.st hi) rfl rfl rfl rfl (Nat.le_of_ble_eq_true rfl) (Nat.le_of_ble_eq_true rfl) ?_
      refine sp_St_coatAt hE hB hW hi hV hT ⟨by omega, by omega⟩ (fun q => absurd c15 q) (fun _ => ?_)
      refine ⟨_, rfl, ?_⟩
      refine st_a5 (pc := 18) d_St_hookOfGuest_18 (by decide) ?_
      refine wp_aload_n (pc := 20) d_St_hookOfGuest_20 rfl ?_
      refine wp_iload_n (pc := 21) d_St_hookOfGuest_21 rfl ?_
      refine wp_aload (pc := 22) d_St_hookOfGuest_22 rfl ?_
      refine wv_callV (n := 2) (As := [_, _]) (pc := 24) d_St_hookOfGuest_24 s_St_182 q_St_isCoatOf ⟨by decide, by decide⟩ (hW.st hi) rfl rfl rfl rfl (Nat.le_of_ble_eq_true rfl) (Nat.le_of_ble_eq_true rfl) ?_
      refine sp_St_isCoatOf hE hB hW hi hJ hn hR (n := x) (by omega) (by omega) (hho.1 c15) ry ?_
      refine ⟨_, rfl, ?_⟩
      refine zp_ifb_eq (tgt := 41) (pc := 27) d_St_hookOfGuest_27 (by decide) (fun c27 => ?_) (fun c27 => ?_)
      · refine st_c4 (pc := 41) d_St_hookOfGuest_41 (by decide) ?_
        refine wp_goto (tgt := 5) (pc := 44) d_St_hookOfGuest_44 (by decide) ?_
        have e : ((x + 1 : Nat) : Int) = (x : Int) + 1 := by omega
        have zz := ih (x + 1) (some (.ref (hA B i x))) ⟨by omega, gvx_no hg (fun q => c27 q.1)⟩
        rw [e, cGv_s, bI_f c27, Int.add_zero] at zz
        exact zz
      · refine wp_iload_n (pc := 30) d_St_hookOfGuest_30 rfl ?_
        refine wp_iload_n (pc := 31) d_St_hookOfGuest_31 rfl ?_
        refine zp_icmp_ne (tgt := 38) (pc := 32) d_St_hookOfGuest_32 (by decide) ⟨by omega, by omega⟩ rp (fun c32 => ?_) (fun c32 => ?_)
        · refine st_c3 (pc := 38) d_St_hookOfGuest_38 (by decide) ?_
          refine st_c4 (pc := 41) d_St_hookOfGuest_41 (by decide) ?_
          refine wp_goto (tgt := 5) (pc := 44) d_St_hookOfGuest_44 (by decide) ?_
          have e : ((x + 1 : Nat) : Int) = (x : Int) + 1 := by omega
          have zz := ih (x + 1) (some (.ref (hA B i x))) ⟨by omega, gvx_no hg (fun q => c32 q.2)⟩
          rw [e, cGv_s, bI_t c27] at zz
          exact zz
        · refine wp_aload (pc := 35) d_St_hookOfGuest_35 rfl ?_
          refine wp_areturn (pc := 37) d_St_hookOfGuest_37 rfl (Or.inl ⟨_, rfl⟩) (Or.inr ⟨_, rfl⟩) ?_
          have zz := gvx_at hg c27 c32 (by omega)
          rw [zz] at y1
          exact y1 (by omega)
    · refine wv_callV (n := 1) (As := [_]) (pc := 15) d_St_hookOfGuest_15 s_St_170 q_St_coatAt ⟨by decide, by decide⟩ (hW.st hi) rfl rfl rfl rfl (Nat.le_of_ble_eq_true rfl) (Nat.le_of_ble_eq_true rfl) ?_
      refine sp_St_coatAt hE hB hW hi hV hT ⟨by omega, by omega⟩ (fun _ => ?_) (fun q => absurd q c15)
      refine ⟨_, rfl, ?_⟩
      refine st_N5 (pc := 18) d_St_hookOfGuest_18 (by decide) ?_
      refine wp_aload_n (pc := 20) d_St_hookOfGuest_20 rfl ?_
      refine wp_iload_n (pc := 21) d_St_hookOfGuest_21 rfl ?_
      refine wp_aloadN (pc := 22) d_St_hookOfGuest_22 rfl ?_
      refine wv_callV (n := 2) (As := [_, _]) (pc := 24) d_St_hookOfGuest_24 s_St_182 q_St_isCoatOf ⟨by decide, by decide⟩ (hW.st hi) rfl rfl rfl rfl (Nat.le_of_ble_eq_true rfl) (Nat.le_of_ble_eq_true rfl) ?_
      refine sp_St_isCoatOfN (p := isGv F y x) (fun q => c15 (hho.2 q.1)) ?_
      refine ⟨_, rfl, ?_⟩
      refine zp_ifb_eq (tgt := 41) (pc := 27) d_St_hookOfGuest_27 (by decide) (fun c27 => ?_) (fun c27 => ?_)
      · refine st_c4 (pc := 41) d_St_hookOfGuest_41 (by decide) ?_
        refine wp_goto (tgt := 5) (pc := 44) d_St_hookOfGuest_44 (by decide) ?_
        have e : ((x + 1 : Nat) : Int) = (x : Int) + 1 := by omega
        have zz := ih (x + 1) (some .null) ⟨by omega, gvx_no hg (fun q => c27 q.1)⟩
        rw [e, cGv_s, bI_f c27, Int.add_zero] at zz
        exact zz
      · refine wp_iload_n (pc := 30) d_St_hookOfGuest_30 rfl ?_
        refine wp_iload_n (pc := 31) d_St_hookOfGuest_31 rfl ?_
        refine zp_icmp_ne (tgt := 38) (pc := 32) d_St_hookOfGuest_32 (by decide) ⟨by omega, by omega⟩ rp (fun c32 => ?_) (fun c32 => ?_)
        · refine st_c3 (pc := 38) d_St_hookOfGuest_38 (by decide) ?_
          refine st_c4 (pc := 41) d_St_hookOfGuest_41 (by decide) ?_
          refine wp_goto (tgt := 5) (pc := 44) d_St_hookOfGuest_44 (by decide) ?_
          have e : ((x + 1 : Nat) : Int) = (x : Int) + 1 := by omega
          have zz := ih (x + 1) (some .null) ⟨by omega, gvx_no hg (fun q => c32 q.2)⟩
          rw [e, cGv_s, bI_t c27] at zz
          exact zz
        · refine wp_aloadN (pc := 35) d_St_hookOfGuest_35 rfl ?_
          refine wp_areturn (pc := 37) d_St_hookOfGuest_37 rfl (Or.inl ⟨_, rfl⟩) (Or.inl rfl) ?_
          exact absurd (hho.2 c27.1) c15
set_option maxRecDepth 100000 in
theorem sp_St_hookOfGuest (hE : gOk E) (hB : gB E ≤ B) (hW : CN B S h0 X T i h (F, t, A, N, V)) (hi : i < 6) {nv : Int} (hJ : J nv F) (hn : nv ≤ 100000000) (hR : RI F t N V) {y p : Int} (ry : gR y) (rp : gR p) (y0 : gvx F y p 60 < 0 → Q (some .null) h) (y1 : ¬ gvx F y p 60 < 0 → Q (some (.ref (hA B i (gvx F y p 60)))) h) : Wp E m_St_hookOfGuest 0 (gEnt m_St_hookOfGuest [.ref (sA B i), .int (zI y), .int (zI p)]) [] h Q := by
  show Wp E m_St_hookOfGuest 0 [some (_), some (_), some (_), none, none, none] [] _ _
  refine wp_iconst (pc := 0) d_St_hookOfGuest_0 ?_
  refine st_i3 (pc := 1) d_St_hookOfGuest_1 (by decide) ?_
  refine wp_iconst (pc := 2) d_St_hookOfGuest_2 ?_
  refine st_i4 (pc := 3) d_St_hookOfGuest_3 (by decide) ?_
  exact lp_St_hookOfGuest hE hB hW hi hJ hn hR ry rp y0 y1 60 0 none ⟨rfl, rfl⟩
set_option maxRecDepth 100000 in
theorem lp_St_dueForGuest (hE : gOk E) (hB : gB E ≤ B) (hW : CN B S h0 X T i h (F, t, A, N, V)) (hi : i < 6) {nv : Int} (hJ : J nv F) (hn : nv ≤ 100000000) (hR : RI F t N V) {y : Int} (ry : gR y) (k : Q (some (.int (zI (sD F y 60)))) h) : ∀ (d x : Nat) (o : Option Value), x + d = 60 → Wp E m_St_dueForGuest 4 [some (.ref (sA B i)), some (.int (zI y)), some (.int (zI (sD F y x))), some (.int (zI x)), o] [] h Q := by
  intro d
  induction d with
  | zero =>
    intro x o hx
    have hV := hJ.vd
    have hN := hW.aN hi
    have hG := hR.1
    have hT := hR.rT hN.2
    have hL := hR.rL
    refine wp_iload_n (pc := 4) d_St_dueForGuest_4 rfl ?_
    refine zp_bipush (pc := 5) d_St_dueForGuest_5 (by decide) ?_
    refine zp_icmp_ge (tgt := 51) (pc := 7) d_St_dueForGuest_7 (by decide) ⟨by omega, by omega⟩ ⟨by omega, by omega⟩ (fun c7 => ?_) (fun c7 => absurd c7 (by omega))
    obtain rfl : x = 60 := by omega
    refine wp_iload_n (pc := 51) d_St_dueForGuest_51 rfl ?_
    refine zp_ireturn (pc := 52) d_St_dueForGuest_52 rfl ?_
    exact k
  | succ d ih =>
    intro x o hx
    have hV := hJ.vd
    have hN := hW.aN hi
    have hG := hR.1
    have hT := hR.rT hN.2
    have hL := hR.rL
    refine wp_iload_n (pc := 4) d_St_dueForGuest_4 rfl ?_
    refine zp_bipush (pc := 5) d_St_dueForGuest_5 (by decide) ?_
    refine zp_icmp_ge (tgt := 51) (pc := 7) d_St_dueForGuest_7 (by decide) ⟨by omega, by omega⟩ ⟨by omega, by omega⟩ (fun c7 => absurd c7 (by omega)) (fun c7 => ?_)
    refine wp_aload_n (pc := 10) d_St_dueForGuest_10 rfl ?_
    refine wp_iload_n (pc := 11) d_St_dueForGuest_11 rfl ?_
    have hho := hR.hold hJ (n := x) (by omega) (by omega)
    rcases Decidable.em (isHk F x ∧ ¬ t x = -1) with c12 | c12
    · refine wv_callV (n := 1) (As := [_]) (pc := 12) d_St_dueForGuest_12 s_St_170 q_St_coatAt ⟨by decide, by decide⟩ (hW.st hi) rfl rfl rfl rfl (Nat.le_of_ble_eq_true rfl) (Nat.le_of_ble_eq_true rfl) ?_
      refine sp_St_coatAt hE hB hW hi hV hT ⟨by omega, by omega⟩ (fun q => absurd c12 q) (fun _ => ?_)
      refine ⟨_, rfl, ?_⟩
      refine st_a4 (pc := 15) d_St_dueForGuest_15 (by decide) ?_
      refine wp_iload_n (pc := 17) d_St_dueForGuest_17 rfl ?_
      refine wp_aload (pc := 18) d_St_dueForGuest_18 rfl ?_
      refine wp_ifnull (pc := 20) d_St_dueForGuest_20 ?_
      refine wp_aload_n (pc := 23) d_St_dueForGuest_23 rfl ?_
      refine wp_iload_n (pc := 24) d_St_dueForGuest_24 rfl ?_
      refine wp_aload (pc := 25) d_St_dueForGuest_25 rfl ?_
      refine wv_callV (n := 2) (As := [_, _]) (pc := 27) d_St_dueForGuest_27 s_St_182 q_St_isCoatOf ⟨by decide, by decide⟩ (hW.st hi) rfl rfl rfl rfl (Nat.le_of_ble_eq_true rfl) (Nat.le_of_ble_eq_true rfl) ?_
      refine sp_St_isCoatOf hE hB hW hi hJ hn hR (n := x) (by omega) (by omega) (hho.1 c12) ry ?_
      refine ⟨_, rfl, ?_⟩
      refine zp_ifb_eq (tgt := 42) (pc := 30) d_St_dueForGuest_30 (by decide) (fun c30 => ?_) (fun c30 => ?_)
      · refine wp_iconst (pc := 42) d_St_dueForGuest_42 ?_
        refine zp_iadd (pc := 43) d_St_dueForGuest_43 ?_
        refine st_i2 (pc := 44) d_St_dueForGuest_44 (by decide) ?_
        refine st_c3 (pc := 45) d_St_dueForGuest_45 (by decide) ?_
        refine wp_goto (tgt := 4) (pc := 48) d_St_dueForGuest_48 (by decide) ?_
        have e : ((x + 1 : Nat) : Int) = (x : Int) + 1 := by omega
        have zz := ih (x + 1) (some (.ref (hA B i x))) (by omega)
        rw [e, sD_s, if_neg c30] at zz
        exact zz
      · refine wp_aload_n (pc := 33) d_St_dueForGuest_33 rfl ?_
        refine wp_aload (pc := 34) d_St_dueForGuest_34 rfl ?_
        refine wv_callV (n := 1) (As := [_]) (pc := 36) d_St_dueForGuest_36 s_St_186 q_St_dueFor ⟨by decide, by decide⟩ (hW.st hi) rfl rfl rfl rfl (Nat.le_of_ble_eq_true rfl) (Nat.le_of_ble_eq_true rfl) ?_
        refine sp_St_dueFor hE hB hW hi hV (by omega) (by omega) ?_
        refine ⟨_, rfl, ?_⟩
        refine wp_goto (tgt := 43) (pc := 39) d_St_dueForGuest_39 (by decide) ?_
        refine zp_iadd (pc := 43) d_St_dueForGuest_43 ?_
        refine st_i2 (pc := 44) d_St_dueForGuest_44 (by decide) ?_
        refine st_c3 (pc := 45) d_St_dueForGuest_45 (by decide) ?_
        refine wp_goto (tgt := 4) (pc := 48) d_St_dueForGuest_48 (by decide) ?_
        have e : ((x + 1 : Nat) : Int) = (x : Int) + 1 := by omega
        have zz := ih (x + 1) (some (.ref (hA B i x))) (by omega)
        rw [e, sD_s, if_pos c30] at zz
        exact zz
    · refine wv_callV (n := 1) (As := [_]) (pc := 12) d_St_dueForGuest_12 s_St_170 q_St_coatAt ⟨by decide, by decide⟩ (hW.st hi) rfl rfl rfl rfl (Nat.le_of_ble_eq_true rfl) (Nat.le_of_ble_eq_true rfl) ?_
      refine sp_St_coatAt hE hB hW hi hV hT ⟨by omega, by omega⟩ (fun _ => ?_) (fun q => absurd q c12)
      refine ⟨_, rfl, ?_⟩
      refine st_N4 (pc := 15) d_St_dueForGuest_15 (by decide) ?_
      refine wp_iload_n (pc := 17) d_St_dueForGuest_17 rfl ?_
      refine wp_aloadN (pc := 18) d_St_dueForGuest_18 rfl ?_
      refine wp_ifnullN (tgt := 42) (pc := 20) d_St_dueForGuest_20 (by decide) ?_
      refine wp_iconst (pc := 42) d_St_dueForGuest_42 ?_
      refine zp_iadd (pc := 43) d_St_dueForGuest_43 ?_
      refine st_i2 (pc := 44) d_St_dueForGuest_44 (by decide) ?_
      refine st_c3 (pc := 45) d_St_dueForGuest_45 (by decide) ?_
      refine wp_goto (tgt := 4) (pc := 48) d_St_dueForGuest_48 (by decide) ?_
      have e : ((x + 1 : Nat) : Int) = (x : Int) + 1 := by omega
      have zz := ih (x + 1) (some .null) (by omega)
      rw [e, sD_s, if_neg (fun q => c12 (hho.2 q.1))] at zz
      exact zz
set_option maxRecDepth 100000 in
theorem sp_St_dueForGuest (hE : gOk E) (hB : gB E ≤ B) (hW : CN B S h0 X T i h (F, t, A, N, V)) (hi : i < 6) {nv : Int} (hJ : J nv F) (hn : nv ≤ 100000000) (hR : RI F t N V) {y : Int} (ry : gR y) (k : Q (some (.int (zI (sD F y 60)))) h) : Wp E m_St_dueForGuest 0 (gEnt m_St_dueForGuest [.ref (sA B i), .int (zI y)]) [] h Q := by
  show Wp E m_St_dueForGuest 0 [some (_), some (_), none, none, none] [] _ _
  refine wp_iconst (pc := 0) d_St_dueForGuest_0 ?_
  refine st_i2 (pc := 1) d_St_dueForGuest_1 (by decide) ?_
  refine wp_iconst (pc := 2) d_St_dueForGuest_2 ?_
  refine st_i3 (pc := 3) d_St_dueForGuest_3 (by decide) ?_
  exact lp_St_dueForGuest hE hB hW hi hJ hn hR ry k 60 0 none rfl
set_option maxRecDepth 100000 in
theorem sp_Lg_look (hE : gOk E) (hB : gB E ≤ B) (hW : CN B S h0 X T i h (F, t, A, N, V)) (hi : i < 6) (h13 : 0 ≤ F 13 ∧ F 13 ≤ 1000000000) {b w : Int} (rb : gR b) (b0 : 0 ≤ b) (w0 : 0 ≤ w) (w2 : w ≤ 2) (k : Q (some (.int (zI (if 10 ≤ b then -5 else if ¬ b < F 13 then -5 else F (529 + 3 * ((F 13 - 1 - b) % 10) + w))))) h) : Wp E m_Lg_look 0 (gEnt m_Lg_look [.ref (sA B i + 8), .int (zI b), .int (zI w)]) [] h Q := by
  show Wp E m_Lg_look 0 [some (_), some (_), some (_), none] [] _ _
  refine wp_iload_n (pc := 0) d_Lg_look_0 rfl ?_
  refine zp_if_lt (tgt := 18) (pc := 1) d_Lg_look_1 (by decide) rb (fun c1 => absurd c1 (by omega)) (fun c1 => ?_)
  refine wp_iload_n (pc := 4) d_Lg_look_4 rfl ?_
  refine zp_bipush (pc := 5) d_Lg_look_5 (by decide) ?_
  refine zp_icmp_ge (tgt := 18) (pc := 7) d_Lg_look_7 (by decide) rb ⟨by omega, by omega⟩ (fun c7 => ?_) (fun c7 => ?_)
  · refine zp_bipush (pc := 18) d_Lg_look_18 (by decide) ?_
    refine zp_ireturn (pc := 20) d_Lg_look_20 rfl ?_
    first | (rw [if_pos (by omega)] at k; exact k) | (rw [if_neg (by omega), if_pos (by omega)] at k; exact k) | (rw [if_neg (by omega), if_neg (by omega), k36_0, Int.add_zero] at k; exact k) | (rw [if_neg (by omega), if_neg (by omega), k36_1] at k; exact k) | (rw [if_neg (by omega), if_neg (by omega)] at k; exact k)
  · refine wp_iload_n (pc := 10) d_Lg_look_10 rfl ?_
    refine wp_aload_n (pc := 11) d_Lg_look_11 rfl ?_
    refine wp_getfield (pc := 12) d_Lg_look_12 f_Lg_9 (hW.lg hi) rfl ?_
    refine zp_icmp_lt (tgt := 21) (pc := 15) d_Lg_look_15 (by decide) rb ⟨by omega, by omega⟩ (fun c15 => ?_) (fun c15 => ?_)
    · refine wp_aload_n (pc := 21) d_Lg_look_21 rfl ?_
      refine wp_getfield (pc := 22) d_Lg_look_22 f_Lg_9 (hW.lg hi) rfl ?_
      refine wp_iconst (pc := 25) d_Lg_look_25 ?_
      refine zp_isub (pc := 26) d_Lg_look_26 ?_
      refine wp_iload_n (pc := 27) d_Lg_look_27 rfl ?_
      refine zp_isub (pc := 28) d_Lg_look_28 ?_
      refine zp_bipush (pc := 29) d_Lg_look_29 (by decide) ?_
      refine wv_callS (n := 2) (As := [_, _]) (pc := 31) d_Lg_look_31 s_Lg_28 q_Ma_floorMod ⟨by decide, by decide⟩ rfl rfl rfl (Nat.le_of_ble_eq_true rfl) (Nat.le_of_ble_eq_true rfl) ?_
      refine sp_Ma_floorMod (by omega) (by omega) (by omega) (by omega) ?_
      refine ⟨_, rfl, ?_⟩
      refine st_i3 (pc := 34) d_Lg_look_34 (by decide) ?_
      refine wp_iload_n (pc := 35) d_Lg_look_35 rfl ?_
      by_cases k36_0 : w = 0
      · rw [k36_0]
        refine zp_lookup (x := 0) (tgt := 64) (pc := 36) d_Lg_look_36 (by decide) ⟨by decide, by decide⟩ rfl (by decide) ?_
        refine wp_aload_n (pc := 64) d_Lg_look_64 rfl ?_
        refine wp_getfield (pc := 65) d_Lg_look_65 f_Lg_15 (hW.lg hi) rfl ?_
        refine wp_iload_n (pc := 68) d_Lg_look_68 rfl ?_
        refine zp_iaload (pc := 69) d_Lg_look_69 hE.1 (hW.l0 hi) (by omega) (by omega) (by decide) ?_
        rw [cut_at (by omega) (by omega)]
        refine zp_ireturn (pc := 70) d_Lg_look_70 rfl ?_
        first | (rw [if_pos (by omega)] at k; exact k) | (rw [if_neg (by omega), if_pos (by omega)] at k; exact k) | (rw [if_neg (by omega), if_neg (by omega), k36_0, Int.add_zero] at k; exact k) | (rw [if_neg (by omega), if_neg (by omega), k36_1] at k; exact k) | (rw [if_neg (by omega), if_neg (by omega)] at k; exact k)
      by_cases k36_1 : w = 1
      · rw [k36_1]
        refine zp_lookup (x := 1) (tgt := 71) (pc := 36) d_Lg_look_36 (by decide) ⟨by decide, by decide⟩ rfl (by decide) ?_
        refine wp_aload_n (pc := 71) d_Lg_look_71 rfl ?_
        refine wp_getfield (pc := 72) d_Lg_look_72 f_Lg_19 (hW.lg hi) rfl ?_
        refine wp_iload_n (pc := 75) d_Lg_look_75 rfl ?_
        refine zp_iaload (pc := 76) d_Lg_look_76 hE.1 (hW.l1 hi) (by omega) (by omega) (by decide) ?_
        rw [cut_at (by omega) (by omega)]
        refine zp_ireturn (pc := 77) d_Lg_look_77 rfl ?_
        first | (rw [if_pos (by omega)] at k; exact k) | (rw [if_neg (by omega), if_pos (by omega)] at k; exact k) | (rw [if_neg (by omega), if_neg (by omega), k36_0, Int.add_zero] at k; exact k) | (rw [if_neg (by omega), if_neg (by omega), k36_1] at k; exact k) | (rw [if_neg (by omega), if_neg (by omega)] at k; exact k)
      obtain rfl : w = 2 := by omega
      refine zp_lookup (x := 2) (tgt := 78) (pc := 36) d_Lg_look_36 (by decide) ⟨by decide, by decide⟩ rfl (by decide) ?_
      refine wp_aload_n (pc := 78) d_Lg_look_78 rfl ?_
      refine wp_getfield (pc := 79) d_Lg_look_79 f_Lg_22 (hW.lg hi) rfl ?_
      refine wp_iload_n (pc := 82) d_Lg_look_82 rfl ?_
      refine zp_iaload (pc := 83) d_Lg_look_83 hE.1 (hW.l2 hi) (by omega) (by omega) (by decide) ?_
      rw [cut_at (by omega) (by omega)]
      refine zp_ireturn (pc := 84) d_Lg_look_84 rfl ?_
      first | (rw [if_pos (by omega)] at k; exact k) | (rw [if_neg (by omega), if_pos (by omega)] at k; exact k) | (rw [if_neg (by omega), if_neg (by omega), k36_0, Int.add_zero] at k; exact k) | (rw [if_neg (by omega), if_neg (by omega), k36_1] at k; exact k) | (rw [if_neg (by omega), if_neg (by omega)] at k; exact k)
    · refine zp_bipush (pc := 18) d_Lg_look_18 (by decide) ?_
      refine zp_ireturn (pc := 20) d_Lg_look_20 rfl ?_
      first | (rw [if_pos (by omega)] at k; exact k) | (rw [if_neg (by omega), if_pos (by omega)] at k; exact k) | (rw [if_neg (by omega), if_neg (by omega), k36_0, Int.add_zero] at k; exact k) | (rw [if_neg (by omega), if_neg (by omega), k36_1] at k; exact k) | (rw [if_neg (by omega), if_neg (by omega)] at k; exact k)
end S40
