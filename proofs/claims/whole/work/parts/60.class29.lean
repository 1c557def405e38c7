/-! ===== the class: claims of a text ===== -/
section S60
variable {E : gE} {B S : Nat} {h0 h : gH} {X : Nat → SC} {T : TC} {i : Nat} {Y : SC} {F t : Int → Int} {A : Nat → Nat} {N : Nat} {V : Nat → Int → Int} {Q : Option Value → gH → Prop}
variable {M : gMd} {pc : Nat} {ls : List (Option Value)} {st : List Value} {b nw sz ln tc : Int} {ch tg cp : Int → Int}
theorem CQ.all {nv : Int} {F : Int → Int} {l : List Int} (hJ : J nv F) (ha : ∀ m : Nat, m < l.length → noT (clS F (l.take m)).2.2 (l.getD m 0) = 0 ∧ noT F (l.getD m 0) = 0) : ∀ m : Nat, m ≤ l.length → CQ F l m
  | 0, _ => CQ.z F l
  | m + 1, hm => ((CQ.all hJ ha m (by omega)).s hJ (by omega) (ha m (by omega)).1 (ha m (by omega)).2).1
theorem enU_cl (F : Int → Int) (n : Int) : enU F n 2 (duF F n) = u_cl F n := rfl
theorem plc_f {nv : Int} (hJ : J nv F) (x : Int) : (¬ noT F x = 0 → plc F x = noT F x ∧ plc F x < 0 ∧ -7 ≤ plc F x) ∧ (noT F x = 0 → plc F x = hkT F x ∧ 0 ≤ hkT F x ∧ hkT F x < 60 ∧ isHk F (hkT F x)) ∧ gR (plc F x) := by
  have hnb := noT_b F x
  have h1 : ¬ noT F x = 0 → plc F x = noT F x ∧ plc F x < 0 ∧ -7 ≤ plc F x := fun q => by
    have e : plc F x = noT F x := if_pos q
    exact ⟨e, by omega, by omega⟩
  have h2 : noT F x = 0 → plc F x = hkT F x ∧ 0 ≤ hkT F x ∧ hkT F x < 60 ∧ isHk F (hkT F x) := fun q => by
    have ht := hJ.tag q
    exact ⟨if_neg (not_not_intro q), ht.2.2.1, ht.2.2.2.1, (hJ.2.1 _ ht.2.2.1 ht.2.2.2.1 ht.2.2.2.2.1).2.1⟩
  refine ⟨h1, h2, ?_⟩
  by_cases q : noT F x = 0
  · have := h2 q
    constructor <;> omega
  · have := h1 q
    constructor <;> omega
set_option maxRecDepth 100000 in
theorem lp_Yt_isClaimedBefore (hE : gOk E) (hB : gB E ≤ B) (hW : CN B S h0 X ((b, nw, sz, ln, tc), ch, tg, cp) i h Y) {m : Int} (m0 : 0 ≤ m) (m1 : m ≤ 30) (hcp : ∀ j : Int, 0 ≤ j → j < m → gR (cp j)) {p : Int} (rp : gR p) (y0 : (∀ j : Nat, (j : Int) < m → ¬ cp j = p) → Q (some (.int (zI 0))) h) (y1 : (∃ j : Nat, (j : Int) < m ∧ cp j = p) → Q (some (.int (zI 1))) h) : ∀ (d x : Nat), x + d = m.toNat ∧ (∀ j : Nat, j < x → ¬ cp j = p) → Wp E m_Yt_isClaimedBefore 2 [some (.ref B), some (.int (zI m)), some (.int (zI p)), some (.int (zI x))] [] h Q := by
  intro d
  induction d with
  | zero =>
    intro x hx
    obtain ⟨hx, hz⟩ := hx
    refine wp_iload_n (pc := 2) d_Yt_isClaimedBefore_2 rfl ?_
    refine wp_iload_n (pc := 3) d_Yt_isClaimedBefore_3 rfl ?_
    refine zp_icmp_ge (tgt := 34) (pc := 4) d_Yt_isClaimedBefore_4 (by decide) ⟨by omega, by omega⟩ ⟨by omega, by omega⟩ (fun c4 => ?_) (fun c4 => absurd c4 (by omega))
    refine wp_iconst (pc := 34) d_Yt_isClaimedBefore_34 ?_
    refine zp_zreturn (pc := 35) d_Yt_isClaimedBefore_35 rfl rfl ?_
    exact y0 fun j q0 => hz j (by omega)
  | succ d ih =>
    intro x hx
    obtain ⟨hx, hz⟩ := hx
    refine wp_iload_n (pc := 2) d_Yt_isClaimedBefore_2 rfl ?_
    refine wp_iload_n (pc := 3) d_Yt_isClaimedBefore_3 rfl ?_
    refine zp_icmp_ge (tgt := 34) (pc := 4) d_Yt_isClaimedBefore_4 (by decide) ⟨by omega, by omega⟩ ⟨by omega, by omega⟩ (fun c4 => absurd c4 (by omega)) (fun c4 => ?_)
    refine wp_iload_n (pc := 7) d_Yt_isClaimedBefore_7 rfl ?_
    refine wp_aload_n (pc := 8) d_Yt_isClaimedBefore_8 rfl ?_
    refine wp_getfield (pc := 9) d_Yt_isClaimedBefore_9 f_Yt_37 hW.yt2 rfl ?_
    refine zp_arraylength (pc := 12) d_Yt_isClaimedBefore_12 (by decide) hW.cp2 ?_
    refine zp_icmp_ge (tgt := 34) (pc := 13) d_Yt_isClaimedBefore_13 (by decide) ⟨by omega, by omega⟩ ⟨by omega, by omega⟩ (fun c13 => absurd c13 (by omega)) (fun c13 => ?_)
    refine wp_aload_n (pc := 16) d_Yt_isClaimedBefore_16 rfl ?_
    refine wp_getfield (pc := 17) d_Yt_isClaimedBefore_17 f_Yt_37 hW.yt2 rfl ?_
    refine wp_iload_n (pc := 20) d_Yt_isClaimedBefore_20 rfl ?_
    refine zp_iaload (pc := 21) d_Yt_isClaimedBefore_21 hE.1 hW.cp2 (by omega) (by omega) (by omega) ?_
    have hcx := hcp x (by omega) (by omega)
    refine wp_iload_n (pc := 22) d_Yt_isClaimedBefore_22 rfl ?_
    refine zp_icmp_ne (tgt := 28) (pc := 23) d_Yt_isClaimedBefore_23 (by decide) hcx rp (fun c23 => ?_) (fun c23 => ?_)
    · refine st_c3 (pc := 28) d_Yt_isClaimedBefore_28 (by decide) ?_
      refine wp_goto (tgt := 2) (pc := 31) d_Yt_isClaimedBefore_31 (by decide) ?_
      have e : ((x + 1 : Nat) : Int) = (x : Int) + 1 := by omega
      have zz := ih (x + 1) ⟨by omega, fun j q0 => by
        by_cases q : j = x
        · subst q; exact c23
        · exact hz j (by omega)⟩
      rw [e] at zz
      exact zz
    · refine wp_iconst (pc := 26) d_Yt_isClaimedBefore_26 ?_
      refine zp_zreturn (pc := 27) d_Yt_isClaimedBefore_27 rfl rfl ?_
      exact y1 ⟨x, by omega, c23⟩
set_option maxRecDepth 100000 in
theorem sp_Yt_isClaimedBefore (hE : gOk E) (hB : gB E ≤ B) (hW : CN B S h0 X ((b, nw, sz, ln, tc), ch, tg, cp) i h Y) {m : Int} (m0 : 0 ≤ m) (m1 : m ≤ 30) (hcp : ∀ j : Int, 0 ≤ j → j < m → gR (cp j)) {p : Int} (rp : gR p) (y0 : (∀ j : Nat, (j : Int) < m → ¬ cp j = p) → Q (some (.int (zI 0))) h) (y1 : (∃ j : Nat, (j : Int) < m ∧ cp j = p) → Q (some (.int (zI 1))) h) : Wp E m_Yt_isClaimedBefore 0 (gEnt m_Yt_isClaimedBefore [.ref B, .int (zI m), .int (zI p)]) [] h Q := by
  show Wp E m_Yt_isClaimedBefore 0 [some (_), some (_), some (_), none] [] _ _
  refine wp_iconst (pc := 0) d_Yt_isClaimedBefore_0 ?_
  refine st_i3 (pc := 1) d_Yt_isClaimedBefore_1 (by decide) ?_
  exact lp_Yt_isClaimedBefore hE hB hW m0 m1 hcp rp y0 y1 m.toNat 0 ⟨by omega, fun j q0 => absurd q0 (by omega)⟩
set_option maxRecDepth 100000 in
theorem lp_Yt_findClaimedPlaces (hE : gOk E) (hB : gB E ≤ B) (hi : 0 < 6) {nv : Int} (hJ : J nv F) (hn : nv ≤ 100000000) (hR : RI F t N V) {l : List Int} (hl : l.length ≤ 30) (hv : ∀ v ∈ l, 0 ≤ v ∧ v ≤ 99999) (hTL : TL l tc tg) (k0 : ∀ (g : gH) (cp2 : Int → Int), CN B S h0 X ((b, nw, sz, ln, tc), ch, tg, cp2) 0 g (F, t, A, N, V) → ¬ (clS F l).1 = 0 → Q (some (.int (zI (clS F l).1))) g) (k1 : ∀ (g : gH) (cp2 : Int → Int), CN B S h0 X ((b, nw, sz, ln, tc), ch, tg, cp2) 0 g (F, t, A, N, V) → (clS F l).1 = 0 → (∀ m : Nat, m < l.length → noT (clS F (l.take m)).2.2 (l.getD m 0) = 0 ∧ noT F (l.getD m 0) = 0) → (∀ j : Nat, j < l.length → cp2 j = hkT F (l.getD j 0)) → Q (some (.int (zI 0))) g) : ∀ (d x : Nat) (o : Option Value) (h : gH) (cp : Int → Int), x + d = l.length → CN B S h0 X ((b, nw, sz, ln, tc), ch, tg, cp) 0 h (F, t, A, N, V) → CQ F l x → (∀ m : Nat, m < x → noT (clS F (l.take m)).2.2 (l.getD m 0) = 0 ∧ noT F (l.getD m 0) = 0) → (∀ j : Nat, j < x → cp j = hkT F (l.getD j 0)) →
      Wp E m_Yt_findClaimedPlaces 2 [some (.ref B), some (.int (zI x)), o] [] h Q := by
  intro d
  induction d with
  | zero =>
    intro x o h cp hx hW hQ ha hc
    have htc := hTL.1
    refine wp_iload_n (pc := 2) d_Yt_findClaimedPlaces_2 rfl ?_
    refine wp_aload_n (pc := 3) d_Yt_findClaimedPlaces_3 rfl ?_
    refine wp_getfield (pc := 4) d_Yt_findClaimedPlaces_4 f_Yt_33 hW.yt2 rfl ?_
    refine wp_getfield (pc := 7) d_Yt_findClaimedPlaces_7 f_Yt_166 hW.tx2 rfl ?_
    refine zp_icmp_ge (tgt := 70) (pc := 10) d_Yt_findClaimedPlaces_10 (by decide) ⟨by omega, by omega⟩ ⟨by omega, by omega⟩ (fun c10 => ?_) (fun c10 => absurd c10 (by omega))
    refine wp_iconst (pc := 70) d_Yt_findClaimedPlaces_70 ?_
    refine zp_ireturn (pc := 71) d_Yt_findClaimedPlaces_71 rfl ?_
    obtain rfl : x = l.length := by omega
    have hQ1 := hQ.1
    rw [List.take_length] at hQ1
    exact k1 _ _ hW hQ1 ha hc
  | succ d ih =>
    intro x o h cp hx hW hQ ha hc
    have htc := hTL.1
    have hmem : 0 ≤ l.getD x 0 ∧ l.getD x 0 ≤ 99999 := by
      rw [List.getD_eq_getElem?_getD, List.getElem?_eq_getElem (by omega : x < l.length)]
      exact hv _ (List.getElem_mem _)
    obtain ⟨p1, p2, p3⟩ := plc_f hJ (l.getD x 0)
    have hQx := (hQ.2 (l.getD x 0))
    have hnb := noT_b F (l.getD x 0)
    refine wp_iload_n (pc := 2) d_Yt_findClaimedPlaces_2 rfl ?_
    refine wp_aload_n (pc := 3) d_Yt_findClaimedPlaces_3 rfl ?_
    refine wp_getfield (pc := 4) d_Yt_findClaimedPlaces_4 f_Yt_33 hW.yt2 rfl ?_
    refine wp_getfield (pc := 7) d_Yt_findClaimedPlaces_7 f_Yt_166 hW.tx2 rfl ?_
    refine zp_icmp_ge (tgt := 70) (pc := 10) d_Yt_findClaimedPlaces_10 (by decide) ⟨by omega, by omega⟩ ⟨by omega, by omega⟩ (fun c10 => absurd c10 (by omega)) (fun c10 => ?_)
    refine wp_iload_n (pc := 13) d_Yt_findClaimedPlaces_13 rfl ?_
    refine wp_aload_n (pc := 14) d_Yt_findClaimedPlaces_14 rfl ?_
    refine wp_getfield (pc := 15) d_Yt_findClaimedPlaces_15 f_Yt_37 hW.yt2 rfl ?_
    refine zp_arraylength (pc := 18) d_Yt_findClaimedPlaces_18 (by decide) hW.cp2 ?_
    refine zp_icmp_ge (tgt := 70) (pc := 19) d_Yt_findClaimedPlaces_19 (by decide) ⟨by omega, by omega⟩ ⟨by omega, by omega⟩ (fun c19 => absurd c19 (by omega)) (fun c19 => ?_)
    refine wp_aload_n (pc := 22) d_Yt_findClaimedPlaces_22 rfl ?_
    refine wp_getfield (pc := 23) d_Yt_findClaimedPlaces_23 f_Yt_10 hW.yt2 rfl ?_
    refine wp_aload_n (pc := 26) d_Yt_findClaimedPlaces_26 rfl ?_
    refine wp_getfield (pc := 27) d_Yt_findClaimedPlaces_27 f_Yt_33 hW.yt2 rfl ?_
    refine wp_getfield (pc := 30) d_Yt_findClaimedPlaces_30 f_Yt_263 hW.tx2 rfl ?_
    refine wp_iload_n (pc := 33) d_Yt_findClaimedPlaces_33 rfl ?_
    refine zp_iaload (pc := 34) d_Yt_findClaimedPlaces_34 hE.1 hW.tg2 (by omega) (by omega) (by omega) ?_
    rw [hTL.2 x (by omega)]
    refine wv_callV (n := 1) (As := [_]) (pc := 35) d_Yt_findClaimedPlaces_35 s_Yt_100 q_St_placeOf ⟨by decide, by decide⟩ (hW.st hi) rfl rfl rfl rfl (Nat.le_of_ble_eq_true rfl) (Nat.le_of_ble_eq_true rfl) ?_
    refine sp_St_placeOf hE hB hW hi hJ hn hR ⟨by omega, by omega⟩ ?_
    refine ⟨_, rfl, ?_⟩
    refine st_i2 (pc := 38) d_Yt_findClaimedPlaces_38 (by decide) ?_
    refine wp_iload_n (pc := 39) d_Yt_findClaimedPlaces_39 rfl ?_
    refine zp_if_ge (tgt := 45) (pc := 40) d_Yt_findClaimedPlaces_40 (by decide) p3 (fun c40 => ?_) (fun c40 => ?_)
    · refine wp_aload_n (pc := 45) d_Yt_findClaimedPlaces_45 rfl ?_
      refine wp_iload_n (pc := 46) d_Yt_findClaimedPlaces_46 rfl ?_
      refine wp_iload_n (pc := 47) d_Yt_findClaimedPlaces_47 rfl ?_
      have hcr : ∀ j : Int, 0 ≤ j → j < (x : Int) → gR (cp j) := fun j q0 q1 => by
        have e := hc j.toNat (by omega)
        rw [show ((j.toNat : Nat) : Int) = j by omega] at e
        have ht := hJ.tag (ha j.toNat (by omega)).2
        rw [e]
        constructor <;> omega
      refine wv_callV (n := 2) (As := [_, _]) (pc := 48) d_Yt_findClaimedPlaces_48 s_Yt_266 q_Yt_isClaimedBefore ⟨by decide, by decide⟩ hW.yt2 rfl rfl rfl rfl (Nat.le_of_ble_eq_true rfl) (Nat.le_of_ble_eq_true rfl) ?_
      refine sp_Yt_isClaimedBefore hE hB hW (by omega) (by omega) hcr p3 (fun cn => ?_) (fun cn => ?_)
      · refine ⟨_, rfl, ?_⟩
        refine zp_if_eq (tgt := 57) (pc := 51) d_Yt_findClaimedPlaces_51 (by decide) ⟨by omega, by omega⟩ (fun c51 => ?_) (fun c51 => absurd c51 (by omega))
        refine wp_aload_n (pc := 57) d_Yt_findClaimedPlaces_57 rfl ?_
        refine wp_getfield (pc := 58) d_Yt_findClaimedPlaces_58 f_Yt_37 hW.yt2 rfl ?_
        refine wp_iload_n (pc := 61) d_Yt_findClaimedPlaces_61 rfl ?_
        refine wp_iload_n (pc := 62) d_Yt_findClaimedPlaces_62 rfl ?_
        refine zp_iastore (pc := 63) d_Yt_findClaimedPlaces_63 hE.1 hW.cp2 (by omega) (by omega) (by omega) (by omega) ?_
        refine pw_ycp hW (fun h hW => ?_)
        refine st_c1 (pc := 64) d_Yt_findClaimedPlaces_64 (by decide) ?_
        refine wp_goto (tgt := 2) (pc := 67) d_Yt_findClaimedPlaces_67 (by decide) ?_
        have e : ((x + 1 : Nat) : Int) = (x : Int) + 1 := by omega
        have hn0 : noT F (l.getD x 0) = 0 := Decidable.byContradiction fun q => by have := p1 q; omega
        have hpe := (p2 hn0).1
        have hnn : noT (clS F (l.take x)).2.2 (l.getD x 0) = 0 := by
          rw [hQx.2.2 fun ⟨_, j, hj, hje⟩ => cn j (by omega) (by rw [hc j hj, hje, hpe])]
          exact hn0
        have zz := ih (x + 1) (some (.int (zI (plc F (l.getD x 0))))) _ _ (by omega) hW (hQ.s hJ (by omega) hnn hn0).1 (fun m hm => ?_) (fun j hj => ?_)
        · rw [e] at zz
          exact zz
        · by_cases q : m = x
          · subst q; exact ⟨hnn, hn0⟩
          · exact ha m (by omega)
        · by_cases q : j = x
          · subst q; rw [zup_eq]; exact hpe
          · rw [zup_ne _ _ (by omega)]; exact hc j (by omega)
      · refine ⟨_, rfl, ?_⟩
        refine zp_if_eq (tgt := 57) (pc := 51) d_Yt_findClaimedPlaces_51 (by decide) ⟨by omega, by omega⟩ (fun c51 => absurd c51 (by omega)) (fun c51 => ?_)
        refine zp_bipush (pc := 54) d_Yt_findClaimedPlaces_54 (by decide) ?_
        refine zp_ireturn (pc := 56) d_Yt_findClaimedPlaces_56 rfl ?_
        obtain ⟨j, hj, hje⟩ := cn
        have hn0 : noT F (l.getD x 0) = 0 := Decidable.byContradiction fun q => by have := p1 q; omega
        have hpe := (p2 hn0).1
        have hqe : noT (clS F (l.take x)).2.2 (l.getD x 0) = -6 := hQx.2.1 hn0 ⟨j, by omega, by rw [← hc j (by omega), hje, hpe]⟩
        have hce := hQ.no (by omega) (e := -6) (by omega) hqe
        have k2 := k0 _ _ hW (by rw [hce]; omega)
        rw [hce] at k2
        exact k2
    · refine wp_iload_n (pc := 43) d_Yt_findClaimedPlaces_43 rfl ?_
      refine zp_ireturn (pc := 44) d_Yt_findClaimedPlaces_44 rfl ?_
      have hn0 : ¬ noT F (l.getD x 0) = 0 := fun q => by have := p2 q; omega
      have hqe : noT (clS F (l.take x)).2.2 (l.getD x 0) = noT F (l.getD x 0) := hQx.2.2 fun q => hn0 q.1
      have hce := hQ.no (by omega) (e := plc F (l.getD x 0)) (by omega) (by rw [hqe, (p1 hn0).1])
      have k2 := k0 _ _ hW (by rw [hce]; omega)
      rw [hce] at k2
      exact k2
set_option maxRecDepth 100000 in
theorem sp_Yt_findClaimedPlaces (hE : gOk E) (hB : gB E ≤ B) (hW : CN B S h0 X ((b, nw, sz, ln, tc), ch, tg, cp) 0 h (F, t, A, N, V)) (hi : 0 < 6) {nv : Int} (hJ : J nv F) (hn : nv ≤ 100000000) (hR : RI F t N V) {l : List Int} (hl : l.length ≤ 30) (hv : ∀ v ∈ l, 0 ≤ v ∧ v ≤ 99999) (hTL : TL l tc tg) (k0 : ∀ (g : gH) (cp2 : Int → Int), CN B S h0 X ((b, nw, sz, ln, tc), ch, tg, cp2) 0 g (F, t, A, N, V) → ¬ (clS F l).1 = 0 → Q (some (.int (zI (clS F l).1))) g) (k1 : ∀ (g : gH) (cp2 : Int → Int), CN B S h0 X ((b, nw, sz, ln, tc), ch, tg, cp2) 0 g (F, t, A, N, V) → (clS F l).1 = 0 → (∀ m : Nat, m < l.length → noT (clS F (l.take m)).2.2 (l.getD m 0) = 0 ∧ noT F (l.getD m 0) = 0) → (∀ j : Nat, j < l.length → cp2 j = hkT F (l.getD j 0)) → Q (some (.int (zI 0))) g)  : Wp E m_Yt_findClaimedPlaces 0 (gEnt m_Yt_findClaimedPlaces [.ref B]) [] h Q := by
  show Wp E m_Yt_findClaimedPlaces 0 [some (_), none, none] [] _ _
  refine wp_iconst (pc := 0) d_Yt_findClaimedPlaces_0 ?_
  refine st_i1 (pc := 1) d_Yt_findClaimedPlaces_1 (by decide) ?_
  exact lp_Yt_findClaimedPlaces hE hB hi hJ hn hR hl hv hTL k0 k1 l.length 0 none h cp (by omega) hW (CQ.z F l) (fun m hm => absurd hm (by omega)) (fun j hj => absurd hj (by omega))
set_option maxRecDepth 100000 in
theorem lp_Yt_claimAll (hE : gOk E) (hB : gB E ≤ B) {nv : Int} (hJ : J nv F) (hn : nv ≤ 90000000) {l : List Int} (hl : l.length ≤ 30) (hv : ∀ v ∈ l, 0 ≤ v ∧ v ≤ 99999) (hTL : TL l tc tg) (ha : (∀ m : Nat, m < l.length → noT (clS F (l.take m)).2.2 (l.getD m 0) = 0 ∧ noT F (l.getD m 0) = 0)) (hc : ∀ j : Nat, j < l.length → cp j = hkT F (l.getD j 0)) (k : ∀ (g : gH) (t : Int → Int) (A : Nat → Nat) (N : Nat) (V : Nat → Int → Int), CN B S h0 X ((b, nw, sz, ln, tc), ch, tg, cp) 0 g ((clS F l).2.2, t, A, N, V) → RI (clS F l).2.2 t N V → Q (some (.int (zI (clS F l).2.1))) g) : ∀ (d x : Nat) (o : Option Value) (h : gH) (t : Int → Int) (A : Nat → Nat) (N : Nat) (V : Nat → Int → Int), x + d = l.length → CN B S h0 X ((b, nw, sz, ln, tc), ch, tg, cp) 0 h ((clS F (l.take x)).2.2, t, A, N, V) → RI (clS F (l.take x)).2.2 t N V →
      Wp E m_Yt_claimAll 45 [some (.ref B), some (.int (zI (-1))), some (.int (zI 0)), some (.int (zI (clS F (l.take x)).2.1)), some (.int (zI x)), o] [] h Q := by
  intro d
  induction d with
  | zero =>
    intro x o h t A N V hx hW hR
    have htc := hTL.1
    have hi : (0 : Nat) < 6 := by decide
    obtain rfl : x = l.length := by omega
    rw [List.take_length] at hW hR ⊢
    refine wp_iload (pc := 45) d_Yt_claimAll_45 rfl ?_
    refine wp_aload_n (pc := 47) d_Yt_claimAll_47 rfl ?_
    refine wp_getfield (pc := 48) d_Yt_claimAll_48 f_Yt_33 hW.yt2 rfl ?_
    refine wp_getfield (pc := 51) d_Yt_claimAll_51 f_Yt_166 hW.tx2 rfl ?_
    refine zp_icmp_ge (tgt := 116) (pc := 54) d_Yt_claimAll_54 (by decide) ⟨by omega, by omega⟩ ⟨by omega, by omega⟩ (fun c54 => ?_) (fun c54 => absurd c54 (by omega))
    refine wp_iload_n (pc := 116) d_Yt_claimAll_116 rfl ?_
    refine zp_ireturn (pc := 117) d_Yt_claimAll_117 rfl ?_
    exact k _ _ _ _ _ hW hR
  | succ d ih =>
    intro x o h t A N V hx hW hR
    have htc := hTL.1
    have hi : (0 : Nat) < 6 := by decide
    have hQ := CQ.all hJ ha x (by omega)
    have hQs := hQ.s hJ (by omega) (ha x (by omega)).1 (ha x (by omega)).2
    have hI := clS_I hJ (l.take x)
    have hlt : (l.take x).length ≤ x := by rw [List.length_take]; omega
    have hnx := (ha x (by omega)).1
    have hhk := (hQ.2 (l.getD x 0)).1 (noT_ok (ha x (by omega)).2).1
    have hcx := hc x (by omega)
    generalize hP : clS F (l.take x) = P at hW hR hQs hI hnx hhk ⊢
    have hJ2 := hI.1
    have ht := hJ2.tag hnx
    rw [hhk] at ht
    have hhh := (hJ2.2.1 _ ht.2.2.1 ht.2.2.2.1 ht.2.2.2.2.1).2.1
    have hV := hJ2.vd
    generalize hke : hkT F (l.getD x 0) = n at hQs ht hhh hcx hhk
    refine wp_iload (pc := 45) d_Yt_claimAll_45 rfl ?_
    refine wp_aload_n (pc := 47) d_Yt_claimAll_47 rfl ?_
    refine wp_getfield (pc := 48) d_Yt_claimAll_48 f_Yt_33 hW.yt2 rfl ?_
    refine wp_getfield (pc := 51) d_Yt_claimAll_51 f_Yt_166 hW.tx2 rfl ?_
    refine zp_icmp_ge (tgt := 116) (pc := 54) d_Yt_claimAll_54 (by decide) ⟨by omega, by omega⟩ ⟨by omega, by omega⟩ (fun c54 => absurd c54 (by omega)) (fun c54 => ?_)
    refine wp_iload (pc := 57) d_Yt_claimAll_57 rfl ?_
    refine wp_aload_n (pc := 59) d_Yt_claimAll_59 rfl ?_
    refine wp_getfield (pc := 60) d_Yt_claimAll_60 f_Yt_37 hW.yt2 rfl ?_
    refine zp_arraylength (pc := 63) d_Yt_claimAll_63 (by decide) hW.cp2 ?_
    refine zp_icmp_ge (tgt := 116) (pc := 64) d_Yt_claimAll_64 (by decide) ⟨by omega, by omega⟩ ⟨by omega, by omega⟩ (fun c64 => absurd c64 (by omega)) (fun c64 => ?_)
    refine wp_aload_n (pc := 67) d_Yt_claimAll_67 rfl ?_
    refine wp_getfield (pc := 68) d_Yt_claimAll_68 f_Yt_10 hW.yt2 rfl ?_
    refine wp_aload_n (pc := 71) d_Yt_claimAll_71 rfl ?_
    refine wp_getfield (pc := 72) d_Yt_claimAll_72 f_Yt_37 hW.yt2 rfl ?_
    refine wp_iload (pc := 75) d_Yt_claimAll_75 rfl ?_
    refine zp_iaload (pc := 77) d_Yt_claimAll_77 hE.1 hW.cp2 (by omega) (by omega) (by omega) ?_
    rw [hcx]
    refine wv_callV (n := 1) (As := [_]) (pc := 78) d_Yt_claimAll_78 s_Yt_72 q_St_hookAt ⟨by decide, by decide⟩ (hW.st hi) rfl rfl rfl rfl (Nat.le_of_ble_eq_true rfl) (Nat.le_of_ble_eq_true rfl) ?_
    refine sp_St_hookAt hE hB hW hi hV ⟨by omega, by omega⟩ (fun q => absurd hhh q) (fun _ => ?_)
    refine ⟨_, rfl, ?_⟩
    refine st_a5 (pc := 81) d_Yt_claimAll_81 (by decide) ?_
    refine wp_aload (pc := 83) d_Yt_claimAll_83 rfl ?_
    refine wp_ifnull (pc := 85) d_Yt_claimAll_85 ?_
    refine wp_iload_n (pc := 88) d_Yt_claimAll_88 rfl ?_
    refine wp_aload_n (pc := 89) d_Yt_claimAll_89 rfl ?_
    refine wp_getfield (pc := 90) d_Yt_claimAll_90 f_Yt_10 hW.yt2 rfl ?_
    refine wp_aload (pc := 93) d_Yt_claimAll_93 rfl ?_
    refine wp_iconst (pc := 95) d_Yt_claimAll_95 ?_
    refine wp_aload_n (pc := 96) d_Yt_claimAll_96 rfl ?_
    refine wp_getfield (pc := 97) d_Yt_claimAll_97 f_Yt_10 hW.yt2 rfl ?_
    refine wp_aload (pc := 100) d_Yt_claimAll_100 rfl ?_
    refine wv_callV (n := 1) (As := [_]) (pc := 102) d_Yt_claimAll_102 s_Yt_103 q_St_dueFor ⟨by decide, by decide⟩ (hW.st hi) rfl rfl rfl rfl (Nat.le_of_ble_eq_true rfl) (Nat.le_of_ble_eq_true rfl) ?_
    refine sp_St_dueFor hE hB hW hi hV (by omega) (by omega) ?_
    refine ⟨_, rfl, ?_⟩
    refine wv_callV (n := 3) (As := [_, _, _]) (pc := 105) d_Yt_claimAll_105 s_Yt_107 q_St_handOver ⟨by decide, by decide⟩ (hW.st hi) rfl rfl rfl rfl (Nat.le_of_ble_eq_true rfl) (Nat.le_of_ble_eq_true rfl) ?_
    refine sp_St_handOver2 hE hB hW hi hJ2 (by omega) hR (by omega) (by omega) ht.2.2.2.2.1 (by omega) (by omega) (fun g t V hW hR => ?_)
    refine ⟨_, rfl, ?_⟩
    rw [enU_cl] at hW hR
    refine zp_iadd (pc := 108) d_Yt_claimAll_108 ?_
    refine st_i3 (pc := 109) d_Yt_claimAll_109 (by decide) ?_
    refine st_c4 (pc := 110) d_Yt_claimAll_110 (by decide) ?_
    refine wp_goto (tgt := 45) (pc := 113) d_Yt_claimAll_113 (by decide) ?_
    have e : ((x + 1 : Nat) : Int) = (x : Int) + 1 := by omega
    have zz := ih (x + 1) (some (.ref (hA B 0 n))) _ _ _ _ _ (by omega) (by rw [hQs.2]; exact hW) (by rw [hQs.2]; exact hR)
    rw [e, hQs.2] at zz
    exact zz
end S60
