/-! ===== the class: the greatest way ===== -/
section S48
variable {E : gE} {B S : Nat} {h0 h : gH} {X : Nat → SC} {T : TC} {i : Nat} {Y : SC} {F t : Int → Int} {A : Nat → Nat} {N : Nat} {V : Nat → Int → Int} {Q : Option Value → gH → Prop}
theorem RI.wq (hA : AC F) (hR : RI F t N V) {e : Int} (h0 : 0 ≤ e) (h1 : e < F 5) : (V 1 e = -1 ∧ wy F (V 0 e) = 0 ∧ la F (V 0 e) = V 0 e) ∨ ((e < V 1 e ∧ V 1 e < F 5) ∧ wy F (V 0 e) = wy F (V 0 (V 1 e)) + 1 ∧ la F (V 0 e) = la F (V 0 (V 1 e))) := by
  have hv := (hR.2.1 e h0 h1).1
  obtain ⟨d, hd, hc, hw⟩ := hA.en hv.1 hv.2
  rcases hR.nx h0 h1 with q | q
  · left
    cases d with
    | zero => exact ⟨q.1, by omega, hc.1.symm⟩
    | succ d =>
      have := hc.2.2.1
      omega
  · right
    cases d with
    | zero =>
      have := hc.2.2.2
      omega
    | succ d =>
      have h2 := hc.2.2.2
      rw [q.2.1] at h2
      have := ch_d (n := 0) hA (by omega) h2
      exact ⟨q.1, by omega, this.2.symm⟩
theorem wy_nn (hA : AC F) {z : Int} (z0 : 0 ≤ z) (z1 : z < 6000) : 0 ≤ wy F z := by
  obtain ⟨d, hd, hc, hw⟩ := hA.en z0 z1
  omega
theorem wy_no (hA : AC F) {z : Int} (z0 : 0 ≤ z) (z1 : z < 6000) (h : ¬ 0 < F (559 + z)) : wy F z = 0 := by
  obtain ⟨d, hd, hc, hw⟩ := hA.en z0 z1
  cases d with
  | zero => omega
  | succ d =>
    have := hc.2.2.1
    unfold fol at this
    omega
theorem gw_max (F : Int → Int) : ∀ m : Nat, 0 ≤ gw F m ∧ (∀ k : Nat, k < m → wy F k ≤ gw F m) ∧ (gw F m = 0 ∨ ∃ k : Nat, k < m ∧ wy F k = gw F m)
  | 0 => ⟨Int.le_refl 0, fun k hk => absurd hk (by omega), Or.inl rfl⟩
  | m + 1 => by
    obtain ⟨q0, q1, q2⟩ := gw_max F m
    rw [gw_s]
    by_cases h : gw F m < wy F m
    · rw [if_pos h]
      refine ⟨by omega, fun k hk => ?_, Or.inr ⟨m, by omega, rfl⟩⟩
      by_cases z : k = m
      · subst z; omega
      · have := q1 k (by omega)
        omega
    · rw [if_neg h]
      refine ⟨q0, fun k hk => ?_, ?_⟩
      · by_cases z : k = m
        · subst z; omega
        · exact q1 k (by omega)
      · rcases q2 with q | ⟨k, k0, k1⟩
        · exact Or.inl q
        · exact Or.inr ⟨k, by omega, k1⟩
theorem RI.mx (hA : AC F) (hR : RI F t N V) {g : Int} (g0 : 0 ≤ g) (h1 : ∀ e : Int, 0 ≤ e → e < F 5 → wy F (V 0 e) ≤ g) (h2 : g = 0 ∨ ∃ e : Int, 0 ≤ e ∧ e < F 5 ∧ wy F (V 0 e) = g) : g = gw F 6000 := by
  obtain ⟨q0, q1, q2⟩ := gw_max F 6000
  have a1 : g ≤ gw F 6000 := by
    rcases h2 with q | ⟨e, e0, e1, e2⟩
    · omega
    · have hv := (hR.2.1 e e0 e1).1
      have := q1 (V 0 e).toNat (by omega)
      rw [Int.toNat_of_nonneg hv.1] at this
      omega
  have a2 : gw F 6000 ≤ g := by
    rcases q2 with q | ⟨m, m0, m1⟩
    · omega
    · by_cases hz : 0 < F (559 + (m : Int))
      · obtain ⟨e, e0, e1, e2⟩ := hR.2.2.2.1 (m : Int) (by omega) (by omega) hz
        have := h1 e e0 e1
        rw [e2] at this
        omega
      · have := wy_no hA (z := (m : Int)) (by omega) (by omega) hz
        omega
  omega
/-- other arrays, the same entries -/
theorem RI.way {V2 : Nat → Int → Int} (hR : RI F t N V) (h : ∀ j : Nat, j < 4 → V2 j = V j) : RI F t N V2 := by
  unfold RI
  rw [h 0 (by omega), h 1 (by omega), h 2 (by omega), h 3 (by omega)]
  exact hR
set_option maxRecDepth 100000 in
theorem lp_Ha_greatestWay (hE : gOk E) (hB : gB E ≤ B) (hi : i < 6) {nv : Int} (hV : Vd nv F) (hn : nv ≤ 100000000) (hA : AC F) (hN : N ≤ 6000) (hR : RI F t N V) (k : ∀ (g : gH) (V2 : Nat → Int → Int), CN B S h0 X T i g (F, t, A, N, V2) → (∀ j : Nat, j < 4 → V2 j = V j) → Q (some (.int (zI (gw F 6000)))) g) :
    ∀ (r : Nat) (h : gH) (V2 : Nat → Int → Int) (g : Int) (o : Option Value), (r : Int) ≤ F 5 → CN B S h0 X T i h (F, t, A, N, V2) → (∀ j : Nat, j < 4 → V2 j = V j) → (∀ e : Int, r ≤ e → e < F 5 → V2 4 e = wy F (V 0 e)) → 0 ≤ g → g ≤ nv → (∀ e : Int, r ≤ e → e < F 5 → wy F (V 0 e) ≤ g) → (g = 0 ∨ ∃ e : Int, r ≤ e ∧ e < F 5 ∧ wy F (V 0 e) = g) →
      Wp E m_Ha_greatestWay 9 [some (.ref (sA B i + 2)), some (.int (zI g)), some (.int (zI ((r : Int) - 1))), o] [] h Q := by
  intro r
  induction r with
  | zero =>
    intro h V2 g o hr hW hv hy g0 gn hm hx
    have hG := hR.1
    refine wp_iload_n (pc := 9) d_Ha_greatestWay_9 rfl ?_
    refine zp_if_lt (tgt := 63) (pc := 10) d_Ha_greatestWay_10 (by decide) ⟨by omega, by omega⟩ (fun c10 => ?_) (fun c10 => absurd c10 (by omega))
    refine wp_iload_n (pc := 63) d_Ha_greatestWay_63 rfl ?_
    refine zp_ireturn (pc := 64) d_Ha_greatestWay_64 rfl ?_
    rw [hR.mx hA g0 (fun e e0 e1 => hm e e0 e1) (by rcases hx with q | ⟨e, q0, q1, q2⟩; exact Or.inl q; exact Or.inr ⟨e, q0, q1, q2⟩)]
    exact k _ _ hW hv
  | succ r ih =>
    intro h V2 g o hr hW hv hy g0 gn hm hx
    have hG := hR.1
    rw [show ((r + 1 : Nat) : Int) - 1 = r by omega]
    have hwy := hR.wq hA (e := r) (by omega) (by omega)
    have hvr := (hR.2.1 r (by omega) (by omega)).1
    have hwb := wy_b hV hA hvr.1 hvr.2
    have hwn := wy_nn hA hvr.1 hvr.2
    refine wp_iload_n (pc := 9) d_Ha_greatestWay_9 rfl ?_
    refine zp_if_lt (tgt := 63) (pc := 10) d_Ha_greatestWay_10 (by decide) ⟨by omega, by omega⟩ (fun c10 => absurd c10 (by omega)) (fun c10 => ?_)
    refine wp_aload_n (pc := 13) d_Ha_greatestWay_13 rfl ?_
    refine wp_getfield (pc := 14) d_Ha_greatestWay_14 f_Ha_19 (hW.ha hi) rfl ?_
    refine wp_iload_n (pc := 17) d_Ha_greatestWay_17 rfl ?_
    refine zp_iaload (pc := 18) d_Ha_greatestWay_18 hE.1 (hW.ar hi (j := 1) (by omega)) (by omega) (by omega) (by omega) ?_
    rw [hv 1 (by omega)]
    refine st_i3 (pc := 19) d_Ha_greatestWay_19 (by decide) ?_
    refine wp_aload_n (pc := 20) d_Ha_greatestWay_20 rfl ?_
    refine wp_getfield (pc := 21) d_Ha_greatestWay_21 f_Ha_28 (hW.ha hi) rfl ?_
    refine wp_iload_n (pc := 24) d_Ha_greatestWay_24 rfl ?_
    refine wp_aload_n (pc := 25) d_Ha_greatestWay_25 rfl ?_
    refine wp_iload_n (pc := 26) d_Ha_greatestWay_26 rfl ?_
    refine wv_callV (n := 1) (As := [_]) (pc := 27) d_Ha_greatestWay_27 s_Ha_31 q_Ha_isEntry ⟨by decide, by decide⟩ (hW.ha hi) rfl rfl rfl rfl (Nat.le_of_ble_eq_true rfl) (Nat.le_of_ble_eq_true rfl) ?_
    refine sp_Ha_isEntry hE hB hW hi ⟨by omega, by omega⟩ ⟨by omega, by omega⟩ ?_
    refine ⟨_, rfl, ?_⟩
    refine zp_ifb_eq (tgt := 44) (pc := 30) d_Ha_greatestWay_30 (by decide) (fun c30 => ?_) (fun c30 => ?_)
    · refine wp_iconst (pc := 44) d_Ha_greatestWay_44 ?_
      refine zp_iastore (pc := 45) d_Ha_greatestWay_45 hE.1 (hW.ar hi (j := 4) (by omega)) (Nat.le_of_lt (Nat.lt_of_le_of_lt hB (hW.aB hi (by omega)))) (by omega) (by omega) (by omega) ?_
      rw [show (0 : Int) = wy F (V 0 r) by omega]
      refine pw_a hW hi (by omega) (fun h hW => ?_)
      refine wp_iload_n (pc := 46) d_Ha_greatestWay_46 rfl ?_
      refine wp_aload_n (pc := 47) d_Ha_greatestWay_47 rfl ?_
      refine wp_getfield (pc := 48) d_Ha_greatestWay_48 f_Ha_28 (hW.ha hi) rfl ?_
      refine wp_iload_n (pc := 51) d_Ha_greatestWay_51 rfl ?_
      refine zp_iaload (pc := 52) d_Ha_greatestWay_52 hE.1 (hW.ar hi (j := 4) (by omega)) (by omega) (by omega) (by omega) ?_
      rw [if_pos rfl, zup_eq]
      refine wv_callS (n := 2) (As := [_, _]) (pc := 53) d_Ha_greatestWay_53 s_Ha_39 q_Ma_max ⟨by decide, by decide⟩ rfl rfl rfl (Nat.le_of_ble_eq_true rfl) (Nat.le_of_ble_eq_true rfl) ?_
      refine sp_Ma_max ⟨by omega, by omega⟩ ⟨by omega, by omega⟩ ?_
      refine ⟨_, rfl, ?_⟩
      refine st_i1 (pc := 56) d_Ha_greatestWay_56 (by decide) ?_
      refine st_c2 (pc := 57) d_Ha_greatestWay_57 (by decide) ?_
      refine wp_goto (tgt := 9) (pc := 60) d_Ha_greatestWay_60 (by decide) ?_
      have es : (if g < wy F (V 0 r) then wy F (V 0 r) else g) = (if g < wy F (V 0 r) then wy F (V 0 r) else g) := rfl
      rw [show (r : Int) + -1 = (r : Int) - 1 by omega]
      refine ih _ _ _ _ (by omega) hW (fun j hj => (if_neg (by omega)).trans (hv j hj)) (fun e e0 e1 => ?_) (by split <;> omega) (by split <;> omega) (fun e e0 e1 => ?_) ?_
      · by_cases q : e = r
        · subst q; exact zup_eq _ _ _
        · exact (zup_ne _ _ q).trans (hy e (by omega) e1)
      · by_cases q : e = r
        · subst q; split <;> omega
        · have := hm e (by omega) e1
          split <;> omega
      · by_cases q : g < wy F (V 0 r)
        · rw [if_pos q]
          exact Or.inr ⟨r, by omega, by omega, rfl⟩
        · rw [if_neg q]
          rcases hx with z | ⟨e, q0, q1, q2⟩
          · exact Or.inl z
          · exact Or.inr ⟨e, by omega, q1, q2⟩
    · refine wp_aload_n (pc := 33) d_Ha_greatestWay_33 rfl ?_
      refine wp_getfield (pc := 34) d_Ha_greatestWay_34 f_Ha_28 (hW.ha hi) rfl ?_
      refine wp_iload_n (pc := 37) d_Ha_greatestWay_37 rfl ?_
      refine zp_iaload (pc := 38) d_Ha_greatestWay_38 hE.1 (hW.ar hi (j := 4) (by omega)) (by omega) (by omega) (by omega) ?_
      rw [hy _ (by omega) (by omega)]
      refine wp_iconst (pc := 39) d_Ha_greatestWay_39 ?_
      refine zp_iadd (pc := 40) d_Ha_greatestWay_40 ?_
      refine wp_goto (tgt := 45) (pc := 41) d_Ha_greatestWay_41 (by decide) ?_
      refine zp_iastore (pc := 45) d_Ha_greatestWay_45 hE.1 (hW.ar hi (j := 4) (by omega)) (Nat.le_of_lt (Nat.lt_of_le_of_lt hB (hW.aB hi (by omega)))) (by omega) (by omega) (by omega) ?_
      rw [show wy F (V 0 (V 1 r)) + 1 = wy F (V 0 r) by omega]
      refine pw_a hW hi (by omega) (fun h hW => ?_)
      refine wp_iload_n (pc := 46) d_Ha_greatestWay_46 rfl ?_
      refine wp_aload_n (pc := 47) d_Ha_greatestWay_47 rfl ?_
      refine wp_getfield (pc := 48) d_Ha_greatestWay_48 f_Ha_28 (hW.ha hi) rfl ?_
      refine wp_iload_n (pc := 51) d_Ha_greatestWay_51 rfl ?_
      refine zp_iaload (pc := 52) d_Ha_greatestWay_52 hE.1 (hW.ar hi (j := 4) (by omega)) (by omega) (by omega) (by omega) ?_
      rw [if_pos rfl, zup_eq]
      refine wv_callS (n := 2) (As := [_, _]) (pc := 53) d_Ha_greatestWay_53 s_Ha_39 q_Ma_max ⟨by decide, by decide⟩ rfl rfl rfl (Nat.le_of_ble_eq_true rfl) (Nat.le_of_ble_eq_true rfl) ?_
      refine sp_Ma_max ⟨by omega, by omega⟩ ⟨by omega, by omega⟩ ?_
      refine ⟨_, rfl, ?_⟩
      refine st_i1 (pc := 56) d_Ha_greatestWay_56 (by decide) ?_
      refine st_c2 (pc := 57) d_Ha_greatestWay_57 (by decide) ?_
      refine wp_goto (tgt := 9) (pc := 60) d_Ha_greatestWay_60 (by decide) ?_
      have es : (if g < wy F (V 0 r) then wy F (V 0 r) else g) = (if g < wy F (V 0 r) then wy F (V 0 r) else g) := rfl
      rw [show (r : Int) + -1 = (r : Int) - 1 by omega]
      refine ih _ _ _ _ (by omega) hW (fun j hj => (if_neg (by omega)).trans (hv j hj)) (fun e e0 e1 => ?_) (by split <;> omega) (by split <;> omega) (fun e e0 e1 => ?_) ?_
      · by_cases q : e = r
        · subst q; exact zup_eq _ _ _
        · exact (zup_ne _ _ q).trans (hy e (by omega) e1)
      · by_cases q : e = r
        · subst q; split <;> omega
        · have := hm e (by omega) e1
          split <;> omega
      · by_cases q : g < wy F (V 0 r)
        · rw [if_pos q]
          exact Or.inr ⟨r, by omega, by omega, rfl⟩
        · rw [if_neg q]
          rcases hx with z | ⟨e, q0, q1, q2⟩
          · exact Or.inl z
          · exact Or.inr ⟨e, by omega, q1, q2⟩
set_option maxRecDepth 100000 in
theorem sp_Ha_greatestWay (hE : gOk E) (hB : gB E ≤ B) (hW : CN B S h0 X T i h (F, t, A, N, V)) (hi : i < 6) {nv : Int} (hJ : J nv F) (hn : nv ≤ 100000000) (hR : RI F t N V) (k : ∀ (g : gH) (V2 : Nat → Int → Int), CN B S h0 X T i g (F, t, A, N, V2) → (∀ j : Nat, j < 4 → V2 j = V j) → Q (some (.int (zI (gw F 6000)))) g) : Wp E m_Ha_greatestWay 0 (gEnt m_Ha_greatestWay [.ref (sA B i + 2)]) [] h Q := by
  have hN := hW.aN hi
  have hG := hR.1
  have hn0 := hJ.n0
  show Wp E m_Ha_greatestWay 0 [some (_), none, none, none] [] _ _
  refine wp_iconst (pc := 0) d_Ha_greatestWay_0 ?_
  refine st_i1 (pc := 1) d_Ha_greatestWay_1 (by decide) ?_
  refine wp_aload_n (pc := 2) d_Ha_greatestWay_2 rfl ?_
  refine wp_getfield (pc := 3) d_Ha_greatestWay_3 f_Ha_9 (hW.ha hi) rfl ?_
  refine wp_iconst (pc := 6) d_Ha_greatestWay_6 ?_
  refine zp_isub (pc := 7) d_Ha_greatestWay_7 ?_
  refine st_i2 (pc := 8) d_Ha_greatestWay_8 (by decide) ?_
  have zz := lp_Ha_greatestWay hE hB hi hJ.vd hn hJ.ac hN.2 hR k (F 5).toNat h V 0 none (by omega) hW (fun _ _ => rfl) (fun e q0 q1 => absurd q1 (by omega)) (by omega) hn0 (fun e q0 q1 => absurd q1 (by omega)) (Or.inl rfl)
  rw [show (((F 5).toNat : Nat) : Int) = F 5 by omega] at zz
  exact zz
end S48
