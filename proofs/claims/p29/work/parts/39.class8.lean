/-! ===== the class: handles read ===== -/
section S39
variable {E : gE} {B S : Nat} {h0 h : gH} {X : Nat → SC} {T : TC} {i : Nat} {Y : SC} {F t : Int → Int} {A : Nat → Nat} {N : Nat} {V : Nat → Int → Int} {Q : Option Value → gH → Prop}
/-- the handles' entries stand for the row's -/
def RI (F t : Int → Int) (N : Nat) (V : Nat → Int → Int) : Prop :=
  (0 ≤ F 5 ∧ F 5 ≤ N) ∧
  (∀ e : Int, 0 ≤ e → e < F 5 → (0 ≤ V 0 e ∧ V 0 e < 6000) ∧ (V 1 e = -1 ∨ (e < V 1 e ∧ V 1 e < F 5)) ∧ (0 ≤ V 2 e ∧ V 2 e ≤ 19) ∧ (0 ≤ V 3 e ∧ V 3 e ≤ 3) ∧ F (559 + V 0 e) = 1 + 2 * V 3 e + 16 * V 2 e + 512 * (if V 1 e = -1 then 0 else V 0 (V 1 e) + 1)) ∧
  (∀ e g : Int, 0 ≤ e → e < F 5 → 0 ≤ g → g < F 5 → V 0 e = V 0 g → e = g) ∧
  (∀ z : Int, 0 ≤ z → z < 6000 → 0 < F (559 + z) → ∃ e : Int, 0 ≤ e ∧ e < F 5 ∧ V 0 e = z) ∧
  (∀ n : Int, 0 ≤ n → n < 60 → (F (29 + 8 * n + 1) = 1 → 0 ≤ t n ∧ t n < F 5 ∧ V 0 (t n) = hdl F n) ∧ (¬ F (29 + 8 * n + 1) = 1 → t n = -1))
theorem RI.nx (hR : RI F t N V) {e : Int} (h0 : 0 ≤ e) (h1 : e < F 5) : (V 1 e = -1 ∧ fol F (V 0 e) = -1) ∨ ((e < V 1 e ∧ V 1 e < F 5) ∧ fol F (V 0 e) = V 0 (V 1 e) ∧ 0 ≤ V 0 (V 1 e) ∧ V 0 (V 1 e) < 6000) := by
  obtain ⟨q0, q1, q2, q3, q4⟩ := hR.2.1 e h0 h1
  unfold fol
  rw [q4]
  by_cases h : V 1 e = -1
  · rw [if_pos h]
    omega
  · have := (hR.2.1 (V 1 e) (by omega) (by omega)).1
    rw [if_neg h]
    omega
theorem RI.vl (hR : RI F t N V) {e : Int} (h0 : 0 ≤ e) (h1 : e < F 5) : eo F (V 0 e) = V 3 e ∧ F (559 + V 0 e) / 16 % 32 = V 2 e ∧ 0 < F (559 + V 0 e) := by
  obtain ⟨q0, q1, q2, q3, q4⟩ := hR.2.1 e h0 h1
  unfold eo
  rw [q4]
  by_cases h : V 1 e = -1
  · rw [if_pos h]
    omega
  · have := (hR.2.1 (V 1 e) (by omega) (by omega)).1
    rw [if_neg h]
    omega
theorem RI.rL (hR : RI F t N V) : rL F t := fun n h0 h1 => by
  have := hR.2.2.2.2 n h0 h1
  by_cases q : F (29 + 8 * n + 1) = 1
  · have := this.1 q
    constructor <;> intro <;> omega
  · have := this.2 q
    constructor <;> intro <;> first | omega | exact q
theorem RI.rT (hR : RI F t N V) (hN : N ≤ 6000) : rT t := fun n h0 h1 => by
  have := hR.2.2.2.2 n h0 h1
  have := hR.1
  by_cases q : F (29 + 8 * n + 1) = 1
  · have := (hR.2.2.2.2 n h0 h1).1 q
    constructor <;> omega
  · have := (hR.2.2.2.2 n h0 h1).2 q
    constructor <;> omega
set_option maxRecDepth 100000 in
theorem sp_Ha_isEntry (hE : gOk E) (hB : gB E ≤ B) (hW : CN B S h0 X T i h (F, t, A, N, V)) (hi : i < 6) (hG : 0 ≤ F 5 ∧ F 5 ≤ 6000) {e : Int} (re : gR e) (k : Q (some (.int (zI (bI (0 ≤ e ∧ e < F 5))))) h) : Wp E m_Ha_isEntry 0 (gEnt m_Ha_isEntry [.ref (sA B i + 2), .int (zI e)]) [] h Q := by
  show Wp E m_Ha_isEntry 0 [some (_), some (_)] [] _ _
  refine wp_iload_n (pc := 0) d_Ha_isEntry_0 rfl ?_
  refine zp_if_lt (tgt := 16) (pc := 1) d_Ha_isEntry_1 (by decide) re (fun c1 => ?_) (fun c1 => ?_)
  · refine wp_iconst (pc := 16) d_Ha_isEntry_16 ?_
    refine zp_zreturn (pc := 17) d_Ha_isEntry_17 rfl rfl ?_
    first | (rw [bI_t (by omega)] at k; exact k) | (rw [bI_f (by omega)] at k; exact k)
  · refine wp_iload_n (pc := 4) d_Ha_isEntry_4 rfl ?_
    refine wp_aload_n (pc := 5) d_Ha_isEntry_5 rfl ?_
    refine wp_getfield (pc := 6) d_Ha_isEntry_6 f_Ha_9 (hW.ha hi) rfl ?_
    refine zp_icmp_ge (tgt := 16) (pc := 9) d_Ha_isEntry_9 (by decide) re ⟨by omega, by omega⟩ (fun c9 => ?_) (fun c9 => ?_)
    · refine wp_iconst (pc := 16) d_Ha_isEntry_16 ?_
      refine zp_zreturn (pc := 17) d_Ha_isEntry_17 rfl rfl ?_
      first | (rw [bI_t (by omega)] at k; exact k) | (rw [bI_f (by omega)] at k; exact k)
    · refine wp_iconst (pc := 12) d_Ha_isEntry_12 ?_
      refine wp_goto (tgt := 17) (pc := 13) d_Ha_isEntry_13 (by decide) ?_
      refine zp_zreturn (pc := 17) d_Ha_isEntry_17 rfl rfl ?_
      first | (rw [bI_t (by omega)] at k; exact k) | (rw [bI_f (by omega)] at k; exact k)
set_option maxRecDepth 100000 in
theorem sp_Ha_handleOf (hE : gOk E) (hB : gB E ≤ B) (hW : CN B S h0 X T i h (F, t, A, N, V)) (hi : i < 6) (hR : RI F t N V) {e : Int} (e0 : 0 ≤ e) (e1 : e < F 5) (k : Q (some (.int (zI (V 0 e)))) h) : Wp E m_Ha_handleOf 0 (gEnt m_Ha_handleOf [.ref (sA B i + 2), .int (zI e)]) [] h Q := by
  have hN := hW.aN hi
  have hG := hR.1
  show Wp E m_Ha_handleOf 0 [some (_), some (_)] [] _ _
  refine wp_aload_n (pc := 0) d_Ha_handleOf_0 rfl ?_
  refine wp_iload_n (pc := 1) d_Ha_handleOf_1 rfl ?_
  refine wv_callV (n := 1) (As := [_]) (pc := 2) d_Ha_handleOf_2 s_Ha_31 q_Ha_isEntry ⟨by decide, by decide⟩ (hW.ha hi) rfl rfl rfl rfl (Nat.le_of_ble_eq_true rfl) (Nat.le_of_ble_eq_true rfl) ?_
  refine sp_Ha_isEntry hE hB hW hi ⟨by omega, by omega⟩ ⟨by omega, by omega⟩ ?_
  refine ⟨_, rfl, ?_⟩
  refine zp_ifb_eq (tgt := 17) (pc := 5) d_Ha_handleOf_5 (by decide) (fun c5 => absurd c5 (by omega)) (fun c5 => ?_)
  refine wp_aload_n (pc := 8) d_Ha_handleOf_8 rfl ?_
  refine wp_getfield (pc := 9) d_Ha_handleOf_9 f_Ha_15 (hW.ha hi) rfl ?_
  refine wp_iload_n (pc := 12) d_Ha_handleOf_12 rfl ?_
  refine zp_iaload (pc := 13) d_Ha_handleOf_13 hE.1 (hW.ar hi (j := 0) (by omega)) (by omega) (by omega) (by omega) ?_
  refine wp_goto (tgt := 18) (pc := 14) d_Ha_handleOf_14 (by decide) ?_
  refine zp_ireturn (pc := 18) d_Ha_handleOf_18 rfl ?_
  exact k
set_option maxRecDepth 100000 in
theorem sp_Ha_ownerOf (hE : gOk E) (hB : gB E ≤ B) (hW : CN B S h0 X T i h (F, t, A, N, V)) (hi : i < 6) (hR : RI F t N V) {e : Int} (e0 : 0 ≤ e) (e1 : e < F 5) (k : Q (some (.int (zI (V 2 e)))) h) : Wp E m_Ha_ownerOf 0 (gEnt m_Ha_ownerOf [.ref (sA B i + 2), .int (zI e)]) [] h Q := by
  have hN := hW.aN hi
  have hG := hR.1
  show Wp E m_Ha_ownerOf 0 [some (_), some (_)] [] _ _
  refine wp_aload_n (pc := 0) d_Ha_ownerOf_0 rfl ?_
  refine wp_iload_n (pc := 1) d_Ha_ownerOf_1 rfl ?_
  refine wv_callV (n := 1) (As := [_]) (pc := 2) d_Ha_ownerOf_2 s_Ha_31 q_Ha_isEntry ⟨by decide, by decide⟩ (hW.ha hi) rfl rfl rfl rfl (Nat.le_of_ble_eq_true rfl) (Nat.le_of_ble_eq_true rfl) ?_
  refine sp_Ha_isEntry hE hB hW hi ⟨by omega, by omega⟩ ⟨by omega, by omega⟩ ?_
  refine ⟨_, rfl, ?_⟩
  refine zp_ifb_eq (tgt := 17) (pc := 5) d_Ha_ownerOf_5 (by decide) (fun c5 => absurd c5 (by omega)) (fun c5 => ?_)
  refine wp_aload_n (pc := 8) d_Ha_ownerOf_8 rfl ?_
  refine wp_getfield (pc := 9) d_Ha_ownerOf_9 f_Ha_22 (hW.ha hi) rfl ?_
  refine wp_iload_n (pc := 12) d_Ha_ownerOf_12 rfl ?_
  refine zp_iaload (pc := 13) d_Ha_ownerOf_13 hE.1 (hW.ar hi (j := 2) (by omega)) (by omega) (by omega) (by omega) ?_
  refine wp_goto (tgt := 18) (pc := 14) d_Ha_ownerOf_14 (by decide) ?_
  refine zp_ireturn (pc := 18) d_Ha_ownerOf_18 rfl ?_
  exact k
set_option maxRecDepth 100000 in
theorem sp_Ha_endOf (hE : gOk E) (hB : gB E ≤ B) (hW : CN B S h0 X T i h (F, t, A, N, V)) (hi : i < 6) (hR : RI F t N V) {e : Int} (e0 : 0 ≤ e) (e1 : e < F 5) (k : Q (some (.int (zI (V 3 e)))) h) : Wp E m_Ha_endOf 0 (gEnt m_Ha_endOf [.ref (sA B i + 2), .int (zI e)]) [] h Q := by
  have hN := hW.aN hi
  have hG := hR.1
  show Wp E m_Ha_endOf 0 [some (_), some (_)] [] _ _
  refine wp_aload_n (pc := 0) d_Ha_endOf_0 rfl ?_
  refine wp_iload_n (pc := 1) d_Ha_endOf_1 rfl ?_
  refine wv_callV (n := 1) (As := [_]) (pc := 2) d_Ha_endOf_2 s_Ha_31 q_Ha_isEntry ⟨by decide, by decide⟩ (hW.ha hi) rfl rfl rfl rfl (Nat.le_of_ble_eq_true rfl) (Nat.le_of_ble_eq_true rfl) ?_
  refine sp_Ha_isEntry hE hB hW hi ⟨by omega, by omega⟩ ⟨by omega, by omega⟩ ?_
  refine ⟨_, rfl, ?_⟩
  refine zp_ifb_eq (tgt := 17) (pc := 5) d_Ha_endOf_5 (by decide) (fun c5 => absurd c5 (by omega)) (fun c5 => ?_)
  refine wp_aload_n (pc := 8) d_Ha_endOf_8 rfl ?_
  refine wp_getfield (pc := 9) d_Ha_endOf_9 f_Ha_25 (hW.ha hi) rfl ?_
  refine wp_iload_n (pc := 12) d_Ha_endOf_12 rfl ?_
  refine zp_iaload (pc := 13) d_Ha_endOf_13 hE.1 (hW.ar hi (j := 3) (by omega)) (by omega) (by omega) (by omega) ?_
  refine wp_goto (tgt := 18) (pc := 14) d_Ha_endOf_14 (by decide) ?_
  refine zp_ireturn (pc := 18) d_Ha_endOf_18 rfl ?_
  exact k
set_option maxRecDepth 100000 in
theorem sp_Ha_followerOf (hE : gOk E) (hB : gB E ≤ B) (hW : CN B S h0 X T i h (F, t, A, N, V)) (hi : i < 6) (hG : 0 ≤ F 5 ∧ F 5 ≤ N) {e : Int} (re : gR e) (k : Q (some (.int (zI (if 0 ≤ e ∧ e < F 5 then V 1 e else -1)))) h) : Wp E m_Ha_followerOf 0 (gEnt m_Ha_followerOf [.ref (sA B i + 2), .int (zI e)]) [] h Q := by
  have hN := hW.aN hi
  show Wp E m_Ha_followerOf 0 [some (_), some (_)] [] _ _
  refine wp_aload_n (pc := 0) d_Ha_followerOf_0 rfl ?_
  refine wp_iload_n (pc := 1) d_Ha_followerOf_1 rfl ?_
  refine wv_callV (n := 1) (As := [_]) (pc := 2) d_Ha_followerOf_2 s_Ha_31 q_Ha_isEntry ⟨by decide, by decide⟩ (hW.ha hi) rfl rfl rfl rfl (Nat.le_of_ble_eq_true rfl) (Nat.le_of_ble_eq_true rfl) ?_
  refine sp_Ha_isEntry hE hB hW hi ⟨by omega, by omega⟩ re ?_
  refine ⟨_, rfl, ?_⟩
  refine zp_ifb_eq (tgt := 17) (pc := 5) d_Ha_followerOf_5 (by decide) (fun c5 => ?_) (fun c5 => ?_)
  · refine wp_iconst (pc := 17) d_Ha_followerOf_17 ?_
    refine zp_ireturn (pc := 18) d_Ha_followerOf_18 rfl ?_
    first | (rw [if_pos (by omega)] at k; exact k) | (rw [if_neg (by omega)] at k; exact k)
  · refine wp_aload_n (pc := 8) d_Ha_followerOf_8 rfl ?_
    refine wp_getfield (pc := 9) d_Ha_followerOf_9 f_Ha_19 (hW.ha hi) rfl ?_
    refine wp_iload_n (pc := 12) d_Ha_followerOf_12 rfl ?_
    refine zp_iaload (pc := 13) d_Ha_followerOf_13 hE.1 (hW.ar hi (j := 1) (by omega)) (by omega) (by omega) (by omega) ?_
    refine wp_goto (tgt := 18) (pc := 14) d_Ha_followerOf_14 (by decide) ?_
    refine zp_ireturn (pc := 18) d_Ha_followerOf_18 rfl ?_
    first | (rw [if_pos (by omega)] at k; exact k) | (rw [if_neg (by omega)] at k; exact k)
set_option maxRecDepth 100000 in
theorem lp_Ha_find (hE : gOk E) (hB : gB E ≤ B) (hW : CN B S h0 X T i h (F, t, A, N, V)) (hi : i < 6) (hR : RI F t N V) {z : Int} (rz : gR z) (y0 : (∀ e : Int, 0 ≤ e → e < F 5 → ¬ V 0 e = z) → Q (some (.int (zI (-1)))) h) (y1 : ∀ e : Int, 0 ≤ e → e < F 5 → V 0 e = z → Q (some (.int (zI e))) h) : ∀ (d x : Nat), x + d = (F 5).toNat ∧ (∀ e : Int, 0 ≤ e → e < x → ¬ V 0 e = z) → Wp E m_Ha_find 2 [some (.ref (sA B i + 2)), some (.int (zI z)), some (.int (zI x))] [] h Q := by
  intro d
  induction d with
  | zero =>
    intro x hx
    obtain ⟨hx, hz⟩ := hx
    have hN := hW.aN hi
    have hG := hR.1
    refine wp_iload_n (pc := 2) d_Ha_find_2 rfl ?_
    refine wp_aload_n (pc := 3) d_Ha_find_3 rfl ?_
    refine wp_getfield (pc := 4) d_Ha_find_4 f_Ha_9 (hW.ha hi) rfl ?_
    refine zp_icmp_ge (tgt := 28) (pc := 7) d_Ha_find_7 (by decide) ⟨by omega, by omega⟩ ⟨by omega, by omega⟩ (fun c7 => ?_) (fun c7 => absurd c7 (by omega))
    refine wp_iconst (pc := 28) d_Ha_find_28 ?_
    refine zp_ireturn (pc := 29) d_Ha_find_29 rfl ?_
    exact y0 fun e q0 q1 => hz e q0 (by omega)
  | succ d ih =>
    intro x hx
    obtain ⟨hx, hz⟩ := hx
    have hN := hW.aN hi
    have hG := hR.1
    refine wp_iload_n (pc := 2) d_Ha_find_2 rfl ?_
    refine wp_aload_n (pc := 3) d_Ha_find_3 rfl ?_
    refine wp_getfield (pc := 4) d_Ha_find_4 f_Ha_9 (hW.ha hi) rfl ?_
    refine zp_icmp_ge (tgt := 28) (pc := 7) d_Ha_find_7 (by decide) ⟨by omega, by omega⟩ ⟨by omega, by omega⟩ (fun c7 => absurd c7 (by omega)) (fun c7 => ?_)
    refine wp_aload_n (pc := 10) d_Ha_find_10 rfl ?_
    refine wp_getfield (pc := 11) d_Ha_find_11 f_Ha_15 (hW.ha hi) rfl ?_
    refine wp_iload_n (pc := 14) d_Ha_find_14 rfl ?_
    refine zp_iaload (pc := 15) d_Ha_find_15 hE.1 (hW.ar hi (j := 0) (by omega)) (by omega) (by omega) (by omega) ?_
    have hv := (hR.2.1 x (by omega) (by omega)).1
    refine wp_iload_n (pc := 16) d_Ha_find_16 rfl ?_
    refine zp_icmp_ne (tgt := 22) (pc := 17) d_Ha_find_17 (by decide) ⟨by omega, by omega⟩ rz (fun c17 => ?_) (fun c17 => ?_)
    · refine st_c2 (pc := 22) d_Ha_find_22 (by decide) ?_
      refine wp_goto (tgt := 2) (pc := 25) d_Ha_find_25 (by decide) ?_
      have e : ((x + 1 : Nat) : Int) = (x : Int) + 1 := by omega
      have zz := ih (x + 1) ⟨by omega, fun g q0 q1 => by
        by_cases q : g = x
        · subst q; exact c17
        · exact hz g q0 (by omega)⟩
      rw [e] at zz
      exact zz
    · refine wp_iload_n (pc := 20) d_Ha_find_20 rfl ?_
      refine zp_ireturn (pc := 21) d_Ha_find_21 rfl ?_
      exact y1 x (by omega) (by omega) c17
set_option maxRecDepth 100000 in
theorem sp_Ha_find (hE : gOk E) (hB : gB E ≤ B) (hW : CN B S h0 X T i h (F, t, A, N, V)) (hi : i < 6) (hR : RI F t N V) {z : Int} (rz : gR z) (y0 : (∀ e : Int, 0 ≤ e → e < F 5 → ¬ V 0 e = z) → Q (some (.int (zI (-1)))) h) (y1 : ∀ e : Int, 0 ≤ e → e < F 5 → V 0 e = z → Q (some (.int (zI e))) h) : Wp E m_Ha_find 0 (gEnt m_Ha_find [.ref (sA B i + 2), .int (zI z)]) [] h Q := by
  have hN := hW.aN hi
  have hG := hR.1
  show Wp E m_Ha_find 0 [some (_), some (_), none] [] _ _
  refine wp_iconst (pc := 0) d_Ha_find_0 ?_
  refine st_i2 (pc := 1) d_Ha_find_1 (by decide) ?_
  exact lp_Ha_find hE hB hW hi hR rz y0 y1 (F 5).toNat 0 ⟨by omega, fun e q0 q1 => absurd q1 (by omega)⟩
set_option maxRecDepth 100000 in
theorem lp_Ha_lastFrom (hE : gOk E) (hB : gB E ≤ B) (hW : CN B S h0 X T i h (F, t, A, N, V)) (hi : i < 6) (hR : RI F t N V) {w z : Int} (k : ∀ g : Int, 0 ≤ g → g < F 5 → V 0 g = z → Q (some (.int (zI g))) h) : ∀ (d : Nat) (x e : Int), 0 ≤ x → x + d ≤ F 5 → 0 ≤ e → e < F 5 → Ch F d (V 0 e) z → Wp E m_Ha_lastFrom 4 [some (.ref (sA B i + 2)), some (.int (zI w)), some (.int (zI e)), some (.int (zI x))] [] h Q := by
  intro d
  induction d with
  | zero =>
    intro x e x0 hx h0 h1 hc
    have hN := hW.aN hi
    have hG := hR.1
    have hn := hR.nx h0 h1
    obtain ⟨rfl, hc1, hc2, hc3⟩ := hc
    refine wp_iload_n (pc := 4) d_Ha_lastFrom_4 rfl ?_
    refine wp_aload_n (pc := 5) d_Ha_lastFrom_5 rfl ?_
    refine wp_getfield (pc := 6) d_Ha_lastFrom_6 f_Ha_9 (hW.ha hi) rfl ?_
    refine zp_icmp_ge (tgt := 33) (pc := 9) d_Ha_lastFrom_9 (by decide) ⟨by omega, by omega⟩ ⟨by omega, by omega⟩ (fun c9 => ?_) (fun c9 => ?_)
    · refine wp_iload_n (pc := 33) d_Ha_lastFrom_33 rfl ?_
      refine zp_ireturn (pc := 34) d_Ha_lastFrom_34 rfl ?_
      exact k e h0 h1 rfl
    · refine wp_aload_n (pc := 12) d_Ha_lastFrom_12 rfl ?_
      refine wp_iload_n (pc := 13) d_Ha_lastFrom_13 rfl ?_
      refine wv_callV (n := 1) (As := [_]) (pc := 14) d_Ha_lastFrom_14 s_Ha_35 q_Ha_followerOf ⟨by decide, by decide⟩ (hW.ha hi) rfl rfl rfl rfl (Nat.le_of_ble_eq_true rfl) (Nat.le_of_ble_eq_true rfl) ?_
      refine sp_Ha_followerOf hE hB hW hi ⟨by omega, by omega⟩ ⟨by omega, by omega⟩ ?_
      refine ⟨_, rfl, ?_⟩
      rw [if_pos ⟨h0, h1⟩]
      refine wp_iconst (pc := 17) d_Ha_lastFrom_17 ?_
      refine zp_icmp_eq (tgt := 33) (pc := 18) d_Ha_lastFrom_18 (by decide) ⟨by omega, by omega⟩ ⟨by omega, by omega⟩ (fun c18 => ?_) (fun c18 => absurd c18 (by omega))
      refine wp_iload_n (pc := 33) d_Ha_lastFrom_33 rfl ?_
      refine zp_ireturn (pc := 34) d_Ha_lastFrom_34 rfl ?_
      exact k e h0 h1 rfl
  | succ d ih =>
    intro x e x0 hx h0 h1 hc
    have hN := hW.aN hi
    have hG := hR.1
    have hn := hR.nx h0 h1
    have hc3 := hc.2.2.1
    have hc4 := hc.2.2.2
    refine wp_iload_n (pc := 4) d_Ha_lastFrom_4 rfl ?_
    refine wp_aload_n (pc := 5) d_Ha_lastFrom_5 rfl ?_
    refine wp_getfield (pc := 6) d_Ha_lastFrom_6 f_Ha_9 (hW.ha hi) rfl ?_
    refine zp_icmp_ge (tgt := 33) (pc := 9) d_Ha_lastFrom_9 (by decide) ⟨by omega, by omega⟩ ⟨by omega, by omega⟩ (fun c9 => absurd c9 (by omega)) (fun c9 => ?_)
    refine wp_aload_n (pc := 12) d_Ha_lastFrom_12 rfl ?_
    refine wp_iload_n (pc := 13) d_Ha_lastFrom_13 rfl ?_
    refine wv_callV (n := 1) (As := [_]) (pc := 14) d_Ha_lastFrom_14 s_Ha_35 q_Ha_followerOf ⟨by decide, by decide⟩ (hW.ha hi) rfl rfl rfl rfl (Nat.le_of_ble_eq_true rfl) (Nat.le_of_ble_eq_true rfl) ?_
    refine sp_Ha_followerOf hE hB hW hi ⟨by omega, by omega⟩ ⟨by omega, by omega⟩ ?_
    refine ⟨_, rfl, ?_⟩
    rw [if_pos ⟨h0, h1⟩]
    refine wp_iconst (pc := 17) d_Ha_lastFrom_17 ?_
    refine zp_icmp_eq (tgt := 33) (pc := 18) d_Ha_lastFrom_18 (by decide) ⟨by omega, by omega⟩ ⟨by omega, by omega⟩ (fun c18 => absurd c18 (by omega)) (fun c18 => ?_)
    refine wp_aload_n (pc := 21) d_Ha_lastFrom_21 rfl ?_
    refine wp_iload_n (pc := 22) d_Ha_lastFrom_22 rfl ?_
    refine wv_callV (n := 1) (As := [_]) (pc := 23) d_Ha_lastFrom_23 s_Ha_35 q_Ha_followerOf ⟨by decide, by decide⟩ (hW.ha hi) rfl rfl rfl rfl (Nat.le_of_ble_eq_true rfl) (Nat.le_of_ble_eq_true rfl) ?_
    refine sp_Ha_followerOf hE hB hW hi ⟨by omega, by omega⟩ ⟨by omega, by omega⟩ ?_
    refine ⟨_, rfl, ?_⟩
    rw [if_pos ⟨h0, h1⟩]
    refine st_i2 (pc := 26) d_Ha_lastFrom_26 (by decide) ?_
    refine st_c3 (pc := 27) d_Ha_lastFrom_27 (by decide) ?_
    refine wp_goto (tgt := 4) (pc := 30) d_Ha_lastFrom_30 (by decide) ?_
    have e4 : fol F (V 0 e) = V 0 (V 1 e) := by omega
    rw [e4] at hc4
    exact ih (x + 1) (V 1 e) (by omega) (by omega) (by omega) (by omega) hc4
set_option maxRecDepth 100000 in
theorem lp_Ha_wayFrom (hE : gOk E) (hB : gB E ≤ B) (hW : CN B S h0 X T i h (F, t, A, N, V)) (hi : i < 6) (hR : RI F t N V) {w z m : Int} (k : Q (some (.int (zI m))) h) : ∀ (d : Nat) (x e : Int), 0 ≤ x → x + d = m ∧ x + d ≤ F 5 → 0 ≤ e → e < F 5 → Ch F d (V 0 e) z → Wp E m_Ha_wayFrom 4 [some (.ref (sA B i + 2)), some (.int (zI w)), some (.int (zI x)), some (.int (zI e))] [] h Q := by
  intro d
  induction d with
  | zero =>
    intro x e x0 hx h0 h1 hc
    have hN := hW.aN hi
    have hG := hR.1
    have hn := hR.nx h0 h1
    obtain ⟨rfl, hc1, hc2, hc3⟩ := hc
    refine wp_iload_n (pc := 4) d_Ha_wayFrom_4 rfl ?_
    refine wp_aload_n (pc := 5) d_Ha_wayFrom_5 rfl ?_
    refine wp_getfield (pc := 6) d_Ha_wayFrom_6 f_Ha_9 (hW.ha hi) rfl ?_
    refine zp_icmp_ge (tgt := 33) (pc := 9) d_Ha_wayFrom_9 (by decide) ⟨by omega, by omega⟩ ⟨by omega, by omega⟩ (fun c9 => ?_) (fun c9 => ?_)
    · refine wp_iload_n (pc := 33) d_Ha_wayFrom_33 rfl ?_
      refine zp_ireturn (pc := 34) d_Ha_wayFrom_34 rfl ?_
      obtain rfl : x = m := by omega
      exact k
    · refine wp_aload_n (pc := 12) d_Ha_wayFrom_12 rfl ?_
      refine wp_iload_n (pc := 13) d_Ha_wayFrom_13 rfl ?_
      refine wv_callV (n := 1) (As := [_]) (pc := 14) d_Ha_wayFrom_14 s_Ha_35 q_Ha_followerOf ⟨by decide, by decide⟩ (hW.ha hi) rfl rfl rfl rfl (Nat.le_of_ble_eq_true rfl) (Nat.le_of_ble_eq_true rfl) ?_
      refine sp_Ha_followerOf hE hB hW hi ⟨by omega, by omega⟩ ⟨by omega, by omega⟩ ?_
      refine ⟨_, rfl, ?_⟩
      rw [if_pos ⟨h0, h1⟩]
      refine wp_iconst (pc := 17) d_Ha_wayFrom_17 ?_
      refine zp_icmp_eq (tgt := 33) (pc := 18) d_Ha_wayFrom_18 (by decide) ⟨by omega, by omega⟩ ⟨by omega, by omega⟩ (fun c18 => ?_) (fun c18 => absurd c18 (by omega))
      refine wp_iload_n (pc := 33) d_Ha_wayFrom_33 rfl ?_
      refine zp_ireturn (pc := 34) d_Ha_wayFrom_34 rfl ?_
      obtain rfl : x = m := by omega
      exact k
  | succ d ih =>
    intro x e x0 hx h0 h1 hc
    have hN := hW.aN hi
    have hG := hR.1
    have hn := hR.nx h0 h1
    have hc3 := hc.2.2.1
    have hc4 := hc.2.2.2
    refine wp_iload_n (pc := 4) d_Ha_wayFrom_4 rfl ?_
    refine wp_aload_n (pc := 5) d_Ha_wayFrom_5 rfl ?_
    refine wp_getfield (pc := 6) d_Ha_wayFrom_6 f_Ha_9 (hW.ha hi) rfl ?_
    refine zp_icmp_ge (tgt := 33) (pc := 9) d_Ha_wayFrom_9 (by decide) ⟨by omega, by omega⟩ ⟨by omega, by omega⟩ (fun c9 => absurd c9 (by omega)) (fun c9 => ?_)
    refine wp_aload_n (pc := 12) d_Ha_wayFrom_12 rfl ?_
    refine wp_iload_n (pc := 13) d_Ha_wayFrom_13 rfl ?_
    refine wv_callV (n := 1) (As := [_]) (pc := 14) d_Ha_wayFrom_14 s_Ha_35 q_Ha_followerOf ⟨by decide, by decide⟩ (hW.ha hi) rfl rfl rfl rfl (Nat.le_of_ble_eq_true rfl) (Nat.le_of_ble_eq_true rfl) ?_
    refine sp_Ha_followerOf hE hB hW hi ⟨by omega, by omega⟩ ⟨by omega, by omega⟩ ?_
    refine ⟨_, rfl, ?_⟩
    rw [if_pos ⟨h0, h1⟩]
    refine wp_iconst (pc := 17) d_Ha_wayFrom_17 ?_
    refine zp_icmp_eq (tgt := 33) (pc := 18) d_Ha_wayFrom_18 (by decide) ⟨by omega, by omega⟩ ⟨by omega, by omega⟩ (fun c18 => absurd c18 (by omega)) (fun c18 => ?_)
    refine wp_aload_n (pc := 21) d_Ha_wayFrom_21 rfl ?_
    refine wp_iload_n (pc := 22) d_Ha_wayFrom_22 rfl ?_
    refine wv_callV (n := 1) (As := [_]) (pc := 23) d_Ha_wayFrom_23 s_Ha_35 q_Ha_followerOf ⟨by decide, by decide⟩ (hW.ha hi) rfl rfl rfl rfl (Nat.le_of_ble_eq_true rfl) (Nat.le_of_ble_eq_true rfl) ?_
    refine sp_Ha_followerOf hE hB hW hi ⟨by omega, by omega⟩ ⟨by omega, by omega⟩ ?_
    refine ⟨_, rfl, ?_⟩
    rw [if_pos ⟨h0, h1⟩]
    refine st_i3 (pc := 26) d_Ha_wayFrom_26 (by decide) ?_
    refine st_c2 (pc := 27) d_Ha_wayFrom_27 (by decide) ?_
    refine wp_goto (tgt := 4) (pc := 30) d_Ha_wayFrom_30 (by decide) ?_
    have e4 : fol F (V 0 e) = V 0 (V 1 e) := by omega
    rw [e4] at hc4
    exact ih (x + 1) (V 1 e) (by omega) (by omega) (by omega) (by omega) hc4
set_option maxRecDepth 100000 in
theorem sp_Ha_lastFrom (hE : gOk E) (hB : gB E ≤ B) (hW : CN B S h0 X T i h (F, t, A, N, V)) (hi : i < 6) (hR : RI F t N V) (hA : AC F) {e : Int} (e0 : 0 ≤ e) (e1 : e < F 5) (k : ∀ g : Int, 0 ≤ g → g < F 5 → V 0 g = la F (V 0 e) → Q (some (.int (zI g))) h) : Wp E m_Ha_lastFrom 0 (gEnt m_Ha_lastFrom [.ref (sA B i + 2), .int (zI e)]) [] h Q := by
  show Wp E m_Ha_lastFrom 0 [some (_), some (_), none, none] [] _ _
  refine wp_iload_n (pc := 0) d_Ha_lastFrom_0 rfl ?_
  refine st_i2 (pc := 1) d_Ha_lastFrom_1 (by decide) ?_
  refine wp_iconst (pc := 2) d_Ha_lastFrom_2 ?_
  refine st_i3 (pc := 3) d_Ha_lastFrom_3 (by decide) ?_
  have hv := (hR.2.1 e e0 e1).1
  obtain ⟨d, hd, hc, _⟩ := hA.en hv.1 hv.2
  exact lp_Ha_lastFrom hE hB hW hi hR k d 0 e (by omega) (by omega) e0 e1 hc
set_option maxRecDepth 100000 in
theorem sp_Ha_wayFrom (hE : gOk E) (hB : gB E ≤ B) (hW : CN B S h0 X T i h (F, t, A, N, V)) (hi : i < 6) (hR : RI F t N V) (hA : AC F) {e : Int} (e0 : 0 ≤ e) (e1 : e < F 5) (k : Q (some (.int (zI (wy F (V 0 e))))) h) : Wp E m_Ha_wayFrom 0 (gEnt m_Ha_wayFrom [.ref (sA B i + 2), .int (zI e)]) [] h Q := by
  show Wp E m_Ha_wayFrom 0 [some (_), some (_), none, none] [] _ _
  refine wp_iconst (pc := 0) d_Ha_wayFrom_0 ?_
  refine st_i2 (pc := 1) d_Ha_wayFrom_1 (by decide) ?_
  refine wp_iload_n (pc := 2) d_Ha_wayFrom_2 rfl ?_
  refine st_i3 (pc := 3) d_Ha_wayFrom_3 (by decide) ?_
  have hv := (hR.2.1 e e0 e1).1
  obtain ⟨d, hd, hc, hw⟩ := hA.en hv.1 hv.2
  rw [hw] at k
  exact lp_Ha_wayFrom hE hB hW hi hR k d 0 e (by omega) ⟨by omega, by omega⟩ e0 e1 hc
end S39
