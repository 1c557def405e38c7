/-! ===== the class: sums; where a coat is ===== -/
section S42
variable {E : gE} {B S : Nat} {h0 h : gH} {X : Nat → SC} {T : TC} {i : Nat} {Y : SC} {F t : Int → Int} {A : Nat → Nat} {N : Nat} {V : Nat → Int → Int} {Q : Option Value → gH → Prop}
theorem sm_add (g : Int → Int) (a b : Nat) : sm g (a + b) = sm g a + sm (fun y => g ((a : Int) + y)) b := by
  induction b with
  | zero => show sm g a = sm g a + 0; omega
  | succ m ih =>
    show sm g (a + m) + g ((a + m : Nat) : Int) = sm g a + (sm (fun y => g ((a : Int) + y)) m + g ((a : Int) + m))
    rw [ih, show ((a + m : Nat) : Int) = (a : Int) + m by omega]
    omega
theorem sm_0 {g : Int → Int} : ∀ {m : Nat}, (∀ k : Nat, k < m → g k = 0) → sm g m = 0
  | 0, _ => rfl
  | m + 1, hz => by
    show sm g m + g m = 0
    rw [sm_0 (fun k hk => hz k (by omega)), hz m (by omega)]
    rfl
theorem sm_cut {f g : Int → Int} {m n : Nat} (hm : m ≤ n) (h1 : ∀ k : Nat, k < m → f k = g k) (h2 : ∀ k : Nat, m ≤ k → k < n → g k = 0) : sm f m = sm g n := by
  have e : n = m + (n - m) := by omega
  have e2 : sm (fun y => g ((m : Int) + y)) (n - m) = 0 := sm_0 (fun k hk => by
    show g ((m : Int) + k) = 0
    have := h2 (m + k) (by omega) (by omega)
    rwa [show ((m + k : Nat) : Int) = (m : Int) + k by omega] at this)
  rw [e, sm_add, sm_congr h1, e2]
  omega
theorem tv_0 (F t : Int → Int) (n : Int) : tv F t 0 n = F (29 + 8 * n + 0) := rfl
theorem tv_2 (F t : Int → Int) (n : Int) : tv F t 2 n = F (29 + 8 * n + 5) := rfl
theorem tv_1 {nv : Int} (hJ : J nv F) (hR : RI F t N V) {n : Int} (n0 : 0 ≤ n) (n1 : n < 60) : tv F t 1 n = F (29 + 8 * n + 1) := by
  have hL := hR.rL n n0 n1
  have hk := (hJ.vd.2.2.2.1 n n0 n1).2.1
  show bI (¬ t n = -1) = _
  by_cases q : F (29 + 8 * n + 1) = 1
  · rw [bI_t (p := ¬ t n = -1) (fun z => hL.1 z q), q]
  · rw [bI_f (p := ¬ t n = -1) (fun z => z (hL.2 q))]
    omega
theorem tv_no {nv : Int} (hJ : J nv F) (hR : RI F t N V) {n w : Int} (n0 : 0 ≤ n) (n1 : n < 60) (hw : w = 0 ∨ w = 1 ∨ w = 2) (h : ¬ isHk F n) : tv F t w n = 0 := by
  have hk := hJ.2.2.2.2.1 n n0 n1 h
  rcases hw with rfl | rfl | rfl
  · exact hk.1
  · rw [tv_1 hJ hR n0 n1]
    exact hk.2.1
  · exact hk.2.2
theorem tot_r {nv : Int} (hJ : J nv F) (hR : RI F t N V) {r w : Int} (r0 : 0 ≤ r) (r1 : r < 5) (hw : w = 0 ∨ w = 1 ∨ w = 2) : sm (fun y => tv F t w (12 * r + y)) (F (14 + 3 * r + 0)).toNat = sm (fun y => tv F t w (12 * r + y)) 12 := by
  have rh := (hJ.vd.2.2.1 r r0 r1).1
  refine sm_cut (by omega) (fun _ _ => rfl) (fun k k0 k1 => tv_no hJ hR (by omega) (by omega) hw fun ⟨_, _, _, q⟩ => ?_)
  rw [show (12 * r + (k : Int)) / 12 = r by omega, show (12 * r + (k : Int)) % 12 = k by omega] at q
  omega
theorem sR_at {nv : Int} (hJ : J nv F) (hR : RI F t N V) {w : Int} (hw : w = 0 ∨ w = 1 ∨ w = 2) : ∀ r : Nat, r ≤ 5 → sR F t w r = sm (fun n => tv F t w n) (12 * r)
  | 0, _ => rfl
  | r + 1, hr => by
    show sR F t w r + sm (fun y => tv F t w (12 * (r : Int) + y)) (F (14 + 3 * (r : Int) + 0)).toNat = _
    rw [sR_at hJ hR hw r (by omega), tot_r hJ hR (by omega) (by omega) hw, show 12 * (r + 1) = 12 * r + 12 by omega, sm_add]
    rfl
theorem tot_a {nv : Int} (hJ : J nv F) (hR : RI F t N V) {w : Int} (hw : w = 0 ∨ w = 1 ∨ w = 2) : sR F t w (F 1).toNat = sm (fun n => tv F t w n) 60 := by
  have hs := hJ.vd.1
  rw [sR_at hJ hR hw _ (by omega)]
  refine sm_cut (by omega) (fun _ _ => rfl) (fun k k0 k1 => tv_no hJ hR (by omega) (by omega) hw fun ⟨_, _, q, _⟩ => ?_)
  omega
/-- the coats of a rack, of all racks; the hooks that are not used again -/
theorem tot_c {nv : Int} (hJ : J nv F) (hR : RI F t N V) {r : Int} (r0 : 0 ≤ r) (r1 : r < 5) : sm (fun y => tv F t 1 (12 * r + y)) (F (14 + 3 * r + 0)).toNat = sC F r := by
  rw [tot_r hJ hR r0 r1 (by omega)]
  exact sm_congr fun k hk => tv_1 hJ hR (by omega) (by omega)
theorem tot_1 {nv : Int} (hJ : J nv F) (hR : RI F t N V) : sR F t 1 (F 1).toNat = sm (fun x => F (29 + 8 * x + 1)) 60 := by
  rw [tot_a hJ hR (by omega)]
  exact sm_congr fun k hk => tv_1 hJ hR (by omega) (by omega)
theorem tot_2 {nv : Int} (hJ : J nv F) (hR : RI F t N V) : sR F t 2 (F 1).toNat = sm (fun x => F (29 + 8 * x + 5)) 60 := tot_a hJ hR (by omega)
theorem ansI {a b : Int} (k : Q (some (.int (zI a))) h) (e : a = b) : Q (some (.int (zI b))) h := e ▸ k
/-- what placeOf answers -/
def plc (F : Int → Int) (x : Int) : Int := if ¬ noT F x = 0 then noT F x else hkT F x
set_option maxRecDepth 100000 in
theorem sp_St_placeOf (hE : gOk E) (hB : gB E ≤ B) (hW : CN B S h0 X T i h (F, t, A, N, V)) (hi : i < 6) {nv : Int} (hJ : J nv F) (hn : nv ≤ 100000000) (hR : RI F t N V) {x : Int} (rx : gR x) (k : Q (some (.int (zI (plc F x)))) h) : Wp E m_St_placeOf 0 (gEnt m_St_placeOf [.ref (sA B i), .int (zI x)]) [] h Q := by
  have hV := hJ.vd
  have hN := hW.aN hi
  have hG := hR.1
  have hT := hR.rT hN.2
  have hL := hR.rL
  have hA := hJ.ac
  show Wp E m_St_placeOf 0 [some (_), some (_), none, none] [] _ _
  refine wp_iload_n (pc := 0) d_St_placeOf_0 rfl ?_
  refine wv_callSN (n := 1) (As := [_]) (pc := 1) d_St_placeOf_1 s_St_103 q_Yt_isRightTag ⟨by decide, by decide⟩ rfl rfl rfl (Nat.le_of_ble_eq_true rfl) (Nat.le_of_ble_eq_true rfl) ?_
  refine sp_Yt_isRightTag rx ?_
  refine ⟨_, rfl, ?_⟩
  refine zp_ifb_ne (tgt := 10) (pc := 4) d_St_placeOf_4 (by decide) (fun c4 => ?_) (fun c4 => ?_)
  · refine wp_aload_n (pc := 10) d_St_placeOf_10 rfl ?_
    refine wp_getfield (pc := 11) d_St_placeOf_11 f_St_24 (hW.st hi) rfl ?_
    refine wp_iload_n (pc := 14) d_St_placeOf_14 rfl ?_
    refine zp_bipush (pc := 15) d_St_placeOf_15 (by decide) ?_
    refine zp_idiv (pc := 17) d_St_placeOf_17 (by omega) (by omega) (by omega) (by omega) ?_
    refine wv_callV (n := 1) (As := [_]) (pc := 18) d_St_placeOf_18 s_St_106 q_Ha_find ⟨by decide, by decide⟩ (hW.ha hi) rfl rfl rfl rfl (Nat.le_of_ble_eq_true rfl) (Nat.le_of_ble_eq_true rfl) ?_
    refine sp_Ha_find hE hB hW hi hR ⟨by omega, by omega⟩ (fun q => ?_) (fun e e0 e1 ev => ?_)
    · refine ⟨_, rfl, ?_⟩
      have hz : ¬ 0 < F (559 + x / 10) := fun z => by
        obtain ⟨e, e0, e1, ev⟩ := hR.2.2.2.1 (x / 10) (by omega) (by omega) z
        exact q e e0 e1 ev
      refine st_i2 (pc := 21) d_St_placeOf_21 (by decide) ?_
      refine wp_iload_n (pc := 22) d_St_placeOf_22 rfl ?_
      refine zp_if_ge (tgt := 28) (pc := 23) d_St_placeOf_23 (by decide) ⟨by omega, by omega⟩ (fun c23 => absurd c23 (by omega)) (fun c23 => ?_)
      refine wp_iconst (pc := 26) d_St_placeOf_26 ?_
      refine zp_ireturn (pc := 27) d_St_placeOf_27 rfl ?_
      refine ansI k ?_
      unfold plc noT
      rw [if_neg (not_not_intro c4), if_pos hz]
      exact if_pos (by decide)
    · refine ⟨_, rfl, ?_⟩
      have hz := (hR.vl e0 e1).2.2
      rw [ev] at hz
      refine st_i2 (pc := 21) d_St_placeOf_21 (by decide) ?_
      refine wp_iload_n (pc := 22) d_St_placeOf_22 rfl ?_
      refine zp_if_ge (tgt := 28) (pc := 23) d_St_placeOf_23 (by decide) ⟨by omega, by omega⟩ (fun c23 => ?_) (fun c23 => absurd c23 (by omega))
      refine wp_aload_n (pc := 28) d_St_placeOf_28 rfl ?_
      refine wp_getfield (pc := 29) d_St_placeOf_29 f_St_24 (hW.st hi) rfl ?_
      refine wp_iload_n (pc := 32) d_St_placeOf_32 rfl ?_
      refine wv_callV (n := 1) (As := [_]) (pc := 33) d_St_placeOf_33 s_St_110 q_Ha_lastFrom ⟨by decide, by decide⟩ (hW.ha hi) rfl rfl rfl rfl (Nat.le_of_ble_eq_true rfl) (Nat.le_of_ble_eq_true rfl) ?_
      refine sp_Ha_lastFrom hE hB hW hi hR hA e0 e1 (fun g g0 g1 gv => ?_)
      refine ⟨_, rfl, ?_⟩
      rw [ev] at gv
      have hv := hR.vl g0 g1
      rw [gv] at hv
      have hgv := hR.2.1 g g0 g1
      refine st_i3 (pc := 36) d_St_placeOf_36 (by decide) ?_
      refine wp_aload_n (pc := 37) d_St_placeOf_37 rfl ?_
      refine wp_getfield (pc := 38) d_St_placeOf_38 f_St_24 (hW.st hi) rfl ?_
      refine wp_iload_n (pc := 41) d_St_placeOf_41 rfl ?_
      refine wv_callV (n := 1) (As := [_]) (pc := 42) d_St_placeOf_42 s_St_113 q_Ha_endOf ⟨by decide, by decide⟩ (hW.ha hi) rfl rfl rfl rfl (Nat.le_of_ble_eq_true rfl) (Nat.le_of_ble_eq_true rfl) ?_
      refine sp_Ha_endOf hE hB hW hi hR g0 g1 ?_
      refine ⟨_, rfl, ?_⟩
      by_cases q0 : V 3 g = 0
      · rw [q0]
        refine zp_lookup (x := 0) (tgt := 72) (pc := 45) d_St_placeOf_45 (by decide) ⟨by decide, by decide⟩ rfl (by decide) ?_
        refine wp_aload_n (pc := 72) d_St_placeOf_72 rfl ?_
        refine wp_getfield (pc := 73) d_St_placeOf_73 f_St_24 (hW.st hi) rfl ?_
        refine wp_iload_n (pc := 76) d_St_placeOf_76 rfl ?_
        refine wv_callV (n := 1) (As := [_]) (pc := 77) d_St_placeOf_77 s_St_116 q_Ha_handleOf ⟨by decide, by decide⟩ (hW.ha hi) rfl rfl rfl rfl (Nat.le_of_ble_eq_true rfl) (Nat.le_of_ble_eq_true rfl) ?_
        refine sp_Ha_handleOf hE hB hW hi hR g0 g1 ?_
        refine ⟨_, rfl, ?_⟩
        rw [gv] at hgv ⊢
        refine zp_bipush (pc := 80) d_St_placeOf_80 (by decide) ?_
        refine zp_idiv (pc := 82) d_St_placeOf_82 (by omega) (by omega) (by omega) (by omega) ?_
        refine zp_ireturn (pc := 83) d_St_placeOf_83 rfl ?_
        refine ansI k ?_
        unfold plc noT hkT
        rw [if_neg (not_not_intro c4), if_neg (not_not_intro hz), if_pos (by omega : eo F (la F (x / 10)) = 0), if_neg (not_not_intro (rfl : (0 : Int) = 0))]
      by_cases q1 : V 3 g = 1
      · rw [q1]
        refine zp_lookup (x := 1) (tgt := 84) (pc := 45) d_St_placeOf_45 (by decide) ⟨by decide, by decide⟩ rfl (by decide) ?_
        refine zp_bipush (pc := 84) d_St_placeOf_84 (by decide) ?_
        refine zp_ireturn (pc := 86) d_St_placeOf_86 rfl ?_
        refine ansI k ?_
        unfold plc noT
        rw [if_neg (not_not_intro c4), if_neg (not_not_intro hz), if_neg (by omega : ¬ eo F (la F (x / 10)) = 0), if_pos (by omega : eo F (la F (x / 10)) = 1)]
        exact if_pos (by decide)
      have q2 : V 3 g = 2 ∨ V 3 g = 3 := by omega
      rcases q2 with q2 | q2
      · rw [q2]
        refine zp_lookup (x := 2) (tgt := 87) (pc := 45) d_St_placeOf_45 (by decide) ⟨by decide, by decide⟩ rfl (by decide) ?_
        refine zp_bipush (pc := 87) d_St_placeOf_87 (by decide) ?_
        refine zp_ireturn (pc := 89) d_St_placeOf_89 rfl ?_
        refine ansI k ?_
        unfold plc noT
        rw [if_neg (not_not_intro c4), if_neg (not_not_intro hz), if_neg (by omega : ¬ eo F (la F (x / 10)) = 0), if_neg (by omega : ¬ eo F (la F (x / 10)) = 1)]
        exact if_pos (by decide)
      · rw [q2]
        refine zp_lookup (x := 3) (tgt := 87) (pc := 45) d_St_placeOf_45 (by decide) ⟨by decide, by decide⟩ rfl (by decide) ?_
        refine zp_bipush (pc := 87) d_St_placeOf_87 (by decide) ?_
        refine zp_ireturn (pc := 89) d_St_placeOf_89 rfl ?_
        refine ansI k ?_
        unfold plc noT
        rw [if_neg (not_not_intro c4), if_neg (not_not_intro hz), if_neg (by omega : ¬ eo F (la F (x / 10)) = 0), if_neg (by omega : ¬ eo F (la F (x / 10)) = 1)]
        exact if_pos (by decide)
  · refine zp_bipush (pc := 7) d_St_placeOf_7 (by decide) ?_
    refine zp_ireturn (pc := 9) d_St_placeOf_9 rfl ?_
    refine ansI k ?_
    unfold plc noT
    rw [if_pos c4]
    exact if_pos (by decide)
end S42
