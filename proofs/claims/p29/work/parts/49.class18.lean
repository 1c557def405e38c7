/-! ===== the class: ways shortened ===== -/
section S49
variable {E : gE} {B S : Nat} {h0 h : gH} {X : Nat → SC} {T : TC} {i : Nat} {Y : SC} {F t : Int → Int} {A : Nat → Nat} {N : Nat} {V : Nat → Int → Int} {Q : Option Value → gH → Prop}
theorem sm_up {f : Int → Int} {z0 v : Int} : ∀ {m : Nat}, 0 ≤ z0 → z0 < m → sm (zup f z0 v) m = sm f m - f z0 + v
  | 0, h0, h1 => absurd h1 (by omega)
  | m + 1, h0, h1 => by
    show sm (zup f z0 v) m + zup f z0 v m = sm f m + f m - f z0 + v
    by_cases q : z0 = m
    · subst q
      rw [zup_eq, sm_congr (g := f) fun k hk => zup_ne _ _ (by omega)]
      omega
    · rw [sm_up h0 (by omega), zup_ne _ _ (by omega)]
      omega
theorem nSh_sm (F : Int → Int) : ∀ m : Nat, nSh F m = sm (fun z => bI (1 < wy F z)) m
  | 0 => rfl
  | m + 1 => by
    rw [nSh_s, nSh_sm F m]
    rfl
/-- entries from r on are shortened, c of them changed -/
def SH (F : Int → Int) (V V2 : Nat → Int → Int) (r c : Int) : Prop :=
  (∀ e : Int, r ≤ e → e < F 5 → (V 1 e = -1 ∧ V2 1 e = -1) ∨ ((e < V2 1 e ∧ V2 1 e < F 5) ∧ V 1 e ≠ -1 ∧ V 0 (V2 1 e) = la F (V 0 e))) ∧ (∀ e : Int, 0 ≤ e → e < r → V2 1 e = V 1 e) ∧
  (∃ f : Int → Int, (∀ e : Int, r ≤ e → e < F 5 → f (V 0 e) = bI (1 < wy F (V 0 e))) ∧ (∀ z : Int, 0 ≤ z → z < 6000 → (∀ e : Int, r ≤ e → e < F 5 → V 0 e ≠ z) → f z = 0) ∧ c = sm f 6000)
theorem SH.fin {V2 : Nat → Int → Int} {c : Int} (hA : AC F) (hR : RI F t N V) (hS : SH F V V2 0 c) : c = nSh F 6000 := by
  obtain ⟨_, _, f, f1, f2, f3⟩ := hS
  rw [f3, nSh_sm]
  refine sm_congr fun k hk => ?_
  by_cases hz : 0 < F (559 + (k : Int))
  · obtain ⟨e, e0, e1, e2⟩ := hR.2.2.2.1 (k : Int) (by omega) (by omega) hz
    have := f1 e e0 e1
    rw [e2] at this
    exact this
  · have hw := wy_no hA (z := (k : Int)) (by omega) (by omega) hz
    rw [f2 (k : Int) (by omega) (by omega) fun e e0 e1 q => hz (by rw [← q]; exact (hR.vl e0 e1).2.2), bI_f (by omega)]
theorem SH.step {V2 V3 : Nat → Int → Int} {r c d v : Int} (hA : AC F) (hR : RI F t N V) (r0 : 0 ≤ r) (r1 : r < F 5) (hS : SH F V V2 (r + 1) c) (hd : d = c + bI (1 < wy F (V 0 r))) (hv : V3 1 = zup (V2 1) r v) (h2 : (V 1 r = -1 ∧ v = -1) ∨ ((r < v ∧ v < F 5) ∧ V 1 r ≠ -1 ∧ V 0 v = la F (V 0 r))) : SH F V V3 r d := by
  obtain ⟨s1, s2, f, f1, f2, f3⟩ := hS
  have hvr := (hR.2.1 r r0 r1).1
  refine ⟨fun e e0 e1 => ?_, fun e e0 e1 => ?_, zup f (V 0 r) (bI (1 < wy F (V 0 r))), fun e e0 e1 => ?_, fun z z0 z1 hz => ?_, ?_⟩
  · rw [hv]
    by_cases q : e = r
    · subst q
      rw [zup_eq]
      exact h2
    · rw [zup_ne _ _ q]
      exact s1 e (by omega) e1
  · rw [hv, zup_ne _ _ (by omega)]
    exact s2 e e0 (by omega)
  · by_cases q : e = r
    · subst q
      exact zup_eq _ _ _
    · rw [zup_ne _ _ fun z => q (hR.2.2.1 e r (by omega) e1 r0 r1 z)]
      exact f1 e (by omega) e1
  · rw [zup_ne _ _ fun q => hz r (by omega) r1 q.symm]
    exact f2 z z0 z1 fun e e0 e1 => hz e (by omega) e1
  · rw [sm_up hvr.1 (by omega), f2 (V 0 r) hvr.1 hvr.2 fun e e0 e1 q => by
      have := hR.2.2.1 e r (by omega) e1 r0 r1 q
      omega]
    omega
theorem RI.sh {V2 : Nat → Int → Int} {c : Int} (hA : AC F) (hR : RI F t N V) (hS : SH F V V2 0 c) (hv : ∀ j : Nat, j ≠ 1 → j < 4 → V2 j = V j) : RI (shF F 6000) t N V2 := by
  have e0 : ∀ j : Int, j < 559 → shF F 6000 j = F j := fun j hj => shF_lo (by omega)
  obtain ⟨s1, _, _⟩ := hS
  unfold RI
  rw [hv 0 (by omega) (by omega), hv 2 (by omega) (by omega), hv 3 (by omega) (by omega), e0 5 (by omega)]
  refine ⟨hR.1, fun e q0 q1 => ?_, hR.2.2.1, fun z z0 z1 hz => ?_, fun x x0 x1 => ?_⟩
  · obtain ⟨w0, w1, w2, w3, w4⟩ := hR.2.1 e q0 q1
    have hs := s1 e q0 q1
    have hw := hR.wq hA q0 q1
    refine ⟨w0, by omega, w2, w3, ?_⟩
    rcases hw with ⟨a1, a2, a3⟩ | ⟨a1, a2, a3⟩
    · rw [shF_no (by omega), w4, if_pos a1, if_pos (by omega)]
    · have hn := hR.wq hA (e := V 1 e) (by omega) (by omega)
      have hl : V 0 (V2 1 e) = la F (V 0 e) := by
        rcases hs with z | z
        · omega
        · exact z.2.2
      rw [if_neg (by omega : ¬ V 1 e = -1)] at w4
      rw [if_neg (by omega : ¬ V2 1 e = -1), hl]
      by_cases h1 : 1 < wy F (V 0 e)
      · rw [shF_at ⟨w0.1, w0.2⟩ h1, w4]
        omega
      · have hnn := wy_nn hA (hR.2.1 (V 1 e) (by omega) (by omega)).1.1 (hR.2.1 (V 1 e) (by omega) (by omega)).1.2
        rw [shF_no h1, w4, a3]
        rcases hn with ⟨b1, b2, b3⟩ | ⟨b1, b2, b3⟩
        · rw [b3]
        · have hv1 := (hR.2.1 (V 1 (V 1 e)) (by omega) (by omega)).1
          have := wy_nn hA hv1.1 hv1.2
          omega
  · by_cases hw : 1 < wy F z
    · by_cases hf : 0 < F (559 + z)
      · exact hR.2.2.2.1 z z0 z1 hf
      · have := wy_no hA z0 z1 hf
        omega
    · rw [shF_no hw] at hz
      exact hR.2.2.2.1 z z0 z1 hz
  · rw [e0 (29 + 8 * x + 1) (by omega), hdl_congr (e0 (29 + 8 * x + 0) (by omega))]
    exact hR.2.2.2.2 x x0 x1
set_option maxRecDepth 100000 in
theorem lp_Ha_shortenWays (hE : gOk E) (hB : gB E ≤ B) (hi : i < 6) (hA : AC F) (hN : N ≤ 6000) (hR : RI F t N V) (k : ∀ (g : gH) (V2 : Nat → Int → Int), CN B S h0 X T i g (shF F 6000, t, A, N, V2) → RI (shF F 6000) t N V2 → Q (some (.int (zI (nSh F 6000)))) g) :
    ∀ (r : Nat) (h : gH) (V2 : Nat → Int → Int) (c : Int) (o : Option Value), (r : Int) ≤ F 5 → CN B S h0 X T i h (F, t, A, N, V2) → (∀ j : Nat, j ≠ 1 → V2 j = V j) → SH F V V2 r c → 
      Wp E m_Ha_shortenWays 9 [some (.ref (sA B i + 2)), some (.int (zI c)), some (.int (zI ((r : Int) - 1))), o] [] h Q := by
  intro r
  induction r with
  | zero =>
    intro h V2 c o hr hW hv hS
    have hG := hR.1
    refine wp_iload_n (pc := 9) d_Ha_shortenWays_9 rfl ?_
    refine zp_if_lt (tgt := 45) (pc := 10) d_Ha_shortenWays_10 (by decide) ⟨by omega, by omega⟩ (fun c10 => ?_) (fun c10 => absurd c10 (by omega))
    refine wp_iload_n (pc := 45) d_Ha_shortenWays_45 rfl ?_
    refine zp_ireturn (pc := 46) d_Ha_shortenWays_46 rfl ?_
    rw [hS.fin hA hR]
    exact k _ _ (hW.to (fun j _ j1 => shF_lo (by omega)) (fun _ _ _ => rfl)) (hR.sh hA hS fun j q _ => hv j q)
  | succ r ih =>
    intro h V2 c o hr hW hv hS
    have hG := hR.1
    rw [show ((r + 1 : Nat) : Int) - 1 = r by omega]
    have hwy := hR.wq hA (e := r) (by omega) (by omega)
    have hvr := hR.2.1 r (by omega) (by omega)
    have h1r : V2 1 (r : Int) = V 1 r := hS.2.1 r (by omega) (by omega)
    have hS1 : SH F V V2 ((r : Int) + 1) c := hS
    have hnx : ∀ e : Int, e = V 1 r → 0 ≤ e → (V2 1 e = -1 ∧ wy F (V 0 e) = 0) ∨ ((e < V2 1 e ∧ V2 1 e < F 5) ∧ 0 < wy F (V 0 e) ∧ V 0 (V2 1 e) = la F (V 0 e)) := fun e q q0 => by
      have a := hR.wq hA (e := e) (by omega) (by omega)
      have b := hS1.1 e (by omega) (by omega)
      have hve := (hR.2.1 e (by omega) (by omega)).1
      rcases a with a | a
      · left; omega
      · have hv2 := (hR.2.1 (V 1 e) (by omega) (by omega)).1
        have := wy_nn hA hv2.1 hv2.2
        right
        rcases b with b | b
        · omega
        · exact ⟨b.1, by omega, b.2.2⟩
    refine wp_iload_n (pc := 9) d_Ha_shortenWays_9 rfl ?_
    refine zp_if_lt (tgt := 45) (pc := 10) d_Ha_shortenWays_10 (by decide) ⟨by omega, by omega⟩ (fun c10 => absurd c10 (by omega)) (fun c10 => ?_)
    refine wp_aload_n (pc := 13) d_Ha_shortenWays_13 rfl ?_
    refine wp_aload_n (pc := 14) d_Ha_shortenWays_14 rfl ?_
    refine wp_getfield (pc := 15) d_Ha_shortenWays_15 f_Ha_19 (hW.ha hi) rfl ?_
    refine wp_iload_n (pc := 18) d_Ha_shortenWays_18 rfl ?_
    refine zp_iaload (pc := 19) d_Ha_shortenWays_19 hE.1 (hW.ar hi (j := 1) (by omega)) (by omega) (by omega) (by omega) ?_
    rw [h1r]
    refine wv_callV (n := 1) (As := [_]) (pc := 20) d_Ha_shortenWays_20 s_Ha_35 q_Ha_followerOf ⟨by decide, by decide⟩ (hW.ha hi) rfl rfl rfl rfl (Nat.le_of_ble_eq_true rfl) (Nat.le_of_ble_eq_true rfl) ?_
    refine sp_Ha_followerOf hE hB hW hi hG ⟨by omega, by omega⟩ ?_
    refine ⟨_, rfl, ?_⟩
    refine st_i3 (pc := 23) d_Ha_shortenWays_23 (by decide) ?_
    refine wp_iload_n (pc := 24) d_Ha_shortenWays_24 rfl ?_
    refine wp_iconst (pc := 25) d_Ha_shortenWays_25 ?_
    refine zp_icmp_eq (tgt := 39) (pc := 26) d_Ha_shortenWays_26 (by decide) (by by_cases q : 0 ≤ V 1 r ∧ V 1 r < F 5; have := hnx (V 1 r) rfl q.1; rw [if_pos q]; constructor <;> omega; rw [if_neg q]; constructor <;> omega) ⟨by omega, by omega⟩ (fun c26 => ?_) (fun c26 => ?_)
    · refine st_c2 (pc := 39) d_Ha_shortenWays_39 (by decide) ?_
      refine wp_goto (tgt := 9) (pc := 42) d_Ha_shortenWays_42 (by decide) ?_
      rw [show (r : Int) + -1 = (r : Int) - 1 by omega]
      refine ih _ V2 _ _ (by omega) hW hv (hS1.step hA hR (by omega) (by omega) ?_ (v := V2 1 r) (by funext e; unfold zup; split <;> simp_all) ?_)
      · by_cases q : V 1 r = -1
        · rw [bI_f (by omega)]; omega
        · have := hnx (V 1 r) rfl (by omega)
          rw [if_pos (by omega)] at c26
          rw [bI_f (by omega)]; omega
      · by_cases q : V 1 r = -1
        · exact Or.inl ⟨q, by omega⟩
        · have := hnx (V 1 r) rfl (by omega)
          rw [if_pos (by omega)] at c26
          have hl := hR.wq hA (e := V 1 r) (by omega) (by omega)
          refine Or.inr ⟨by omega, q, ?_⟩
          rw [h1r]
          rcases hl with b | b
          · omega
          · have hv2 := (hR.2.1 (V 1 (V 1 r)) (by omega) (by omega)).1
            have := wy_nn hA hv2.1 hv2.2
            omega
    · refine wp_aload_n (pc := 29) d_Ha_shortenWays_29 rfl ?_
      refine wp_getfield (pc := 30) d_Ha_shortenWays_30 f_Ha_19 (hW.ha hi) rfl ?_
      refine wp_iload_n (pc := 33) d_Ha_shortenWays_33 rfl ?_
      refine wp_iload_n (pc := 34) d_Ha_shortenWays_34 rfl ?_
      have hq : 0 ≤ V 1 r ∧ V 1 r < F 5 := by
        by_cases q : 0 ≤ V 1 r ∧ V 1 r < F 5
        · exact q
        · rw [if_neg q] at c26; omega
      rw [if_pos hq]
      refine zp_iastore (pc := 35) d_Ha_shortenWays_35 hE.1 (hW.ar hi (j := 1) (by omega)) (Nat.le_of_lt (Nat.lt_of_le_of_lt hB (hW.aB hi (by omega)))) (by omega) (by omega) (by omega) ?_
      refine pw_a hW hi (by omega) (fun h hW => ?_)
      refine st_c1 (pc := 36) d_Ha_shortenWays_36 (by decide) ?_
      refine st_c2 (pc := 39) d_Ha_shortenWays_39 (by decide) ?_
      refine wp_goto (tgt := 9) (pc := 42) d_Ha_shortenWays_42 (by decide) ?_
      rw [show (r : Int) + -1 = (r : Int) - 1 by omega]
      have hq : 0 ≤ V 1 r ∧ V 1 r < F 5 := by
        by_cases q : 0 ≤ V 1 r ∧ V 1 r < F 5
        · exact q
        · rw [if_neg q] at c26; omega
      rw [if_pos hq] at c26
      have hx := hnx (V 1 r) rfl hq.1
      refine ih _ _ _ _ (by omega) hW (fun j hj => (if_neg hj).trans (hv j hj)) (hS1.step hA hR (by omega) (by omega) ?_ (v := V2 1 (V 1 r)) (if_pos rfl) ?_)
      · rw [bI_t (by omega)]
      · exact Or.inr ⟨by omega, by omega, by omega⟩
set_option maxRecDepth 100000 in
theorem sp_Ha_shortenWays (hE : gOk E) (hB : gB E ≤ B) (hW : CN B S h0 X T i h (F, t, A, N, V)) (hi : i < 6) {nv : Int} (hJ : J nv F) (hR : RI F t N V) (k : ∀ (g : gH) (V2 : Nat → Int → Int), CN B S h0 X T i g (shF F 6000, t, A, N, V2) → RI (shF F 6000) t N V2 → Q (some (.int (zI (nSh F 6000)))) g) : Wp E m_Ha_shortenWays 0 (gEnt m_Ha_shortenWays [.ref (sA B i + 2)]) [] h Q := by
  have hN := hW.aN hi
  have hG := hR.1
  show Wp E m_Ha_shortenWays 0 [some (_), none, none, none] [] _ _
  refine wp_iconst (pc := 0) d_Ha_shortenWays_0 ?_
  refine st_i1 (pc := 1) d_Ha_shortenWays_1 (by decide) ?_
  refine wp_aload_n (pc := 2) d_Ha_shortenWays_2 rfl ?_
  refine wp_getfield (pc := 3) d_Ha_shortenWays_3 f_Ha_9 (hW.ha hi) rfl ?_
  refine wp_iconst (pc := 6) d_Ha_shortenWays_6 ?_
  refine zp_isub (pc := 7) d_Ha_shortenWays_7 ?_
  refine st_i2 (pc := 8) d_Ha_shortenWays_8 (by decide) ?_
  have zz := lp_Ha_shortenWays hE hB hi hJ.ac hN.2 hR k (F 5).toNat h V 0 none (by omega) hW (fun _ _ => rfl) ⟨fun e q0 q1 => absurd q1 (by omega), fun _ _ _ => rfl, fun _ => 0, fun e q0 q1 => absurd q1 (by omega), fun _ _ _ _ => rfl, (sm_0 fun _ _ => rfl).symm⟩
  rw [show (((F 5).toNat : Nat) : Int) = F 5 by omega] at zz
  exact zz
end S49
